/-! WHAT THE ABSTRACT MACHINE DOES, THE MACHINE DOES: first its cells as a world, then its instructions one by one. ad: the address of a numbered cell; cA: the class of an array's kind. -/
def am_v (ad : Nat → Nat) (v : Value) : Value := match v with
  | .ref i => .ref (ad i)
  | .int x => .int x
  | .long x => .long x
  | .float x => .float x
  | .double x => .double x
  | .null => .null
  | .retAddr x => .retAddr x
theorem am_v_cat (ad : Nat → Nat) (v : Value) : (am_v ad v).category = v.category := by cases v <;> rfl
def am_q (ad : Nat → Nat) (q : Nat × Value) : Nat × Value := (q.1, am_v ad q.2)
def am_a (ad : Nat → Nat) (a : vp_A) : vp_A := (a.1, match a.2 with
  | .inl f => .inl f
  | .inr (.inl f) => .inr (.inl f)
  | .inr (.inr (.inl f)) => .inr (.inr (.inl f))
  | .inr (.inr (.inr (.inl f))) => .inr (.inr (.inr (.inl f)))
  | .inr (.inr (.inr (.inr f))) => .inr (.inr (.inr (.inr (fun j => (f j).map ad)))))
def am_e (ad : Nat → Nat) (cA : Nat → ClassId) (x : va_E) : va_E := match x with
  | .inl a => .inl (cA a.1, am_a ad a.2)
  | .inr o => .inr (o.1, o.2.map (am_v ad))
def am_W (ad : Nat → Nat) (cA : Nat → ClassId) (h : am_H) : va_W := (List.range h.2.1).map (fun i => (ad i, am_e ad cA (h.1 i)))
theorem am_W_at {ad : Nat → Nat} {cA : Nat → ClassId} {h : am_H} {i : Nat} (hi : i < h.2.1) : (am_W ad cA h)[i]? = some (ad i, am_e ad cA (h.1 i)) := by
  simp [am_W, hi]
theorem am_W_no {ad : Nat → Nat} {cA : Nat → ClassId} {h : am_H} {i : Nat} (hi : ¬ i < h.2.1) : (am_W ad cA h)[i]? = none := by
  simp [am_W]; omega
theorem am_W_set {ad : Nat → Nat} {cA : Nat → ClassId} {h : am_H} {i : Nat} (hi : i < h.2.1) (c : va_E) : (am_W ad cA h).set i (ad i, am_e ad cA c) = am_W ad cA (am_set h i c) := by
  apply List.ext_getElem?
  intro j
  have hl : (am_W ad cA h).length = h.2.1 := by simp [am_W]
  rw [List.getElem?_set, hl]
  by_cases e : i = j
  · subst e
    rw [if_pos rfl, if_pos hi, am_W_at (h := am_set h i c) hi]
    simp [am_set, va_up]
  · rw [if_neg e]
    by_cases hj : j < h.2.1
    · rw [am_W_at hj, am_W_at (h := am_set h i c) hj]
      simp [am_set, va_up, Ne.symm e]
    · rw [am_W_no hj, am_W_no (h := am_set h i c) hj]
/-- a reference is to a cell that there is, or to a table -/
def am_ok (n : Nat) (v : Value) : Prop := match v with
  | .ref i => i < n ∨ am_T0 ≤ i
  | _ => True
def am_okE (n : Nat) (x : va_E) : Prop := match x with
  | .inl a => (match a.2.2 with
    | .inr (.inr (.inr (.inr f))) => ∀ j i : Nat, f j = some i → i < n ∨ am_T0 ≤ i
    | _ => True)
  | .inr o => ∀ v ∈ o.2, am_ok n v
def am_okH (h : am_H) : Prop := h.2.1 ≤ am_T0 ∧ ∀ i, i < h.2.1 → am_okE h.2.1 (h.1 i)
theorem am_ok_up {n k : Nat} (hk : n ≤ k) {v : Value} (h : am_ok n v) : am_ok k v := by
  cases v with
  | ref i => rcases h with h | h
             · exact Or.inl (Nat.lt_of_lt_of_le h hk)
             · exact Or.inr h
  | _ => trivial
theorem am_okE_up {n k : Nat} (hk : n ≤ k) {x : va_E} (h : am_okE n x) : am_okE k x := by
  rcases x with ⟨a, l, f | f | f | f | f⟩ | o
  · trivial
  · trivial
  · trivial
  · trivial
  · intro j i e
    rcases h j i e with q | q
    · exact Or.inl (Nat.lt_of_lt_of_le q hk)
    · exact Or.inr q
  · exact fun v hv => am_ok_up hk (h v hv)
theorem am_ne {i n T : Nat} (hn : n < T) (h : i < n ∨ T ≤ i) : i ≠ n := by omega
theorem am_v_up {ad : Nat → Nat} {n q : Nat} (hn : n < am_T0) {v : Value} (h : am_ok n v) : am_v (va_up ad n q) v = am_v ad v := by
  cases v with
  | ref i =>
    have : i ≠ n := am_ne hn h
    simp [am_v, va_up, this]
  | _ => rfl
theorem am_e_up {ad : Nat → Nat} {cA : Nat → ClassId} {n q : Nat} (hn : n < am_T0) {x : va_E} (h : am_okE n x) : am_e (va_up ad n q) cA x = am_e ad cA x := by
  rcases x with ⟨a, l, f | f | f | f | f⟩ | o
  · rfl
  · rfl
  · rfl
  · rfl
  · have : (fun j => (f j).map (va_up ad n q)) = fun j => (f j).map ad := by
      funext j
      cases hj : f j with
      | none => rfl
      | some i =>
        have : i ≠ n := by rcases h j i hj with h | h <;> omega
        simp [va_up, this]
    simp only [am_e, am_a, this]
  · have : o.2.map (am_v (va_up ad n q)) = o.2.map (am_v ad) := List.map_congr_left (fun v hv => am_v_up hn (h v hv))
    simp only [am_e, this]
theorem am_W_push {ad : Nat → Nat} {cA : Nat → ClassId} {h : am_H} {q : Nat} (hH : am_okH h) (hn : h.2.1 < am_T0) {c : va_E} (k : Nat × Nat) : am_W ad cA h ++ [(q, am_e (va_up ad h.2.1 q) cA c)] = am_W (va_up ad h.2.1 q) cA (va_up h.1 h.2.1 c, h.2.1 + 1, k) := by
  unfold am_W
  rw [List.range_succ, List.map_append]
  congr 1
  · apply List.map_congr_left
    intro i hi
    have hi : i < h.2.1 := List.mem_range.mp hi
    have e : va_up ad h.2.1 q i = ad i := va_up_ne ad q (by omega)
    have e2 : va_up h.1 h.2.1 c i = h.1 i := va_up_ne h.1 c (by omega)
    show (ad i, am_e ad cA (h.1 i)) = (va_up ad h.2.1 q i, am_e (va_up ad h.2.1 q) cA (va_up h.1 h.2.1 c i))
    rw [e, e2, am_e_up hn (hH.2 i hi)]
  · simp [va_up]
theorem am_okH_new {h : am_H} {c : va_E} {k : Nat × Nat} (hH : am_okH h) (hn : h.2.1 < am_T0) (hc : am_okE (h.2.1 + 1) c) : am_okH (va_up h.1 h.2.1 c, h.2.1 + 1, k) := by
  refine ⟨hn, fun i hi => ?_⟩
  by_cases e : i = h.2.1
  · subst e
    show am_okE (h.2.1 + 1) (va_up h.1 h.2.1 c h.2.1)
    rw [va_up_self]; exact hc
  · show am_okE (h.2.1 + 1) (va_up h.1 h.2.1 c i)
    rw [va_up_ne _ _ e]
    exact am_okE_up (Nat.le_succ _) (hH.2 i (by have : i < h.2.1 + 1 := hi; omega))
theorem am_okH_set {h : am_H} {c : va_E} {i : Nat} (hH : am_okH h) (hc : am_okE h.2.1 c) : am_okH (am_set h i c) := by
  refine ⟨hH.1, fun j hj => ?_⟩
  by_cases e : j = i
  · subst e
    show am_okE h.2.1 (va_up h.1 j c j)
    rw [va_up_self]; exact hc
  · show am_okE h.2.1 (va_up h.1 i c j)
    rw [va_up_ne _ _ e]; exact hH.2 j hj
theorem am_ld_mem {i : Nat} {v : Value} : ∀ {ls : List (Nat × Value)}, am_ld i ls = some v → (i, v) ∈ ls := by
  intro ls
  induction ls with
  | nil => intro h; cases h
  | cons q r ih =>
    intro h
    obtain ⟨j, w⟩ := q
    unfold am_ld at h
    cases e : Nat.beq j i with
    | true =>
      rw [e, cond_true] at h
      rw [Nat.eq_of_beq_eq_true e, Option.some.inj h]
      exact List.mem_cons_self
    | false =>
      rw [e, cond_false] at h
      exact List.mem_cons_of_mem _ (ih h)
theorem am_has {ad : Nat → Nat} {lsR : Array Slot} {nL : Nat} {ls : List (Nat × Value)} (hl : lv_has lsR nL (ls.map (am_q ad))) {i : Nat} {v : Value} (h : am_ld i ls = some v) : lsR[i]? = some (.val (am_v ad v)) :=
  hl.2.2 (i, am_v ad v) (List.mem_map.mpr ⟨(i, v), am_ld_mem h, rfl⟩)
theorem am_filter (ad : Nat → Nat) (ls : List (Nat × Value)) (g : Nat → Nat → Bool) : (ls.map (am_q ad)).filter (fun q => g q.1 q.2.category) = (ls.filter (fun q => g q.1 q.2.category)).map (am_q ad) := by
  rw [List.filter_map]
  congr 1
  apply List.filter_congr
  intro q _
  simp [am_q, am_v_cat]
theorem am_st1_map (ad : Nat → Nat) (i : Nat) (v : Value) (ls : List (Nat × Value)) : (i, am_v ad v) :: (ls.map (am_q ad)).filter (fun q => !(q.1 == i) && !(q.1 + 1 == i && q.2.category == 2)) = (am_st1 i v ls).map (am_q ad) := by
  rw [am_filter ad ls (fun a b => !(a == i) && !(a + 1 == i && b == 2))]
  rfl
theorem am_st2_map (ad : Nat → Nat) (i : Nat) (v : Value) (ls : List (Nat × Value)) : (i, am_v ad v) :: (ls.map (am_q ad)).filter (fun q => !(q.1 == i) && (!(q.1 == i + 1) && !(q.1 + 1 == i && q.2.category == 2))) = (am_st2 i v ls).map (am_q ad) := by
  rw [am_filter ad ls (fun a b => !(a == i) && (!(a == i + 1) && !(a + 1 == i && b == 2)))]
  rfl
theorem am_wt_map (ad : Nat → Nat) (st : List Value) : ((st.map (am_v ad)).map fun v => v.category).sum = am_wt st := by
  induction st with
  | nil => rfl
  | cons v r ih => simp only [List.map_cons, List.sum_cons, ih, am_v_cat, am_wt]
theorem am_args_map (ad : Nat → Nat) : ∀ (vs : List Value) (i : Nat), lv_args i (vs.map (am_v ad)) = (lv_args i vs).map (am_q ad) := by
  intro vs
  induction vs with
  | nil => intro i; rfl
  | cons v r ih =>
    intro i
    simp only [List.map_cons, lv_args, am_v_cat, ih]
    rfl
theorem am_take_ok : ∀ {n : Nat} {st As rest : List Value}, am_take n st = some (As, rest) → st = As.reverse ++ rest ∧ As.length = n := by
  intro n
  induction n with
  | zero => intro st As rest h; cases h; exact ⟨rfl, rfl⟩
  | succ n ih =>
    intro st As rest h
    cases st with
    | nil => cases h
    | cons v r =>
      unfold am_take at h
      cases e : am_take n r with
      | none => rw [e] at h; cases h
      | some q =>
        obtain ⟨As', rest'⟩ := q
        rw [e] at h
        cases h
        obtain ⟨h1, h2⟩ := ih e
        exact ⟨by rw [h1]; simp, by simp [h2]⟩
/-- at pc stands this instruction -/
def am_dk (cc : ByteArray) (pc : Nat) (o : Option Jvm.ClassFile.Instr) (len : Nat) : Bool := match o with
  | some i => decide (decode cc pc = .ok (i, len))
  | none => false
def am_oI (a : Nat) : Option Jvm.ClassFile.Instr := match a with
  | 0 => some .iadd
  | 1 => some .isub
  | 2 => some .imul
  | 3 => some .iand
  | 4 => some .ior
  | 5 => some .ixor
  | 6 => some .ishl
  | 7 => some .ishr
  | 8 => some .iushr
  | 9 => some .idiv
  | 10 => some .irem
  | _ => none
def am_oL (a : Nat) : Option Jvm.ClassFile.Instr := match a with
  | 0 => some .ladd
  | 1 => some .lsub
  | 2 => some .lmul
  | 3 => some .land
  | 4 => some .lor
  | 5 => some .lxor
  | 6 => some .ldiv
  | 7 => some .lrem
  | _ => none
def am_oS (a : Nat) : Option Jvm.ClassFile.Instr := match a with
  | 0 => some .lshl
  | 1 => some .lshr
  | 2 => some .lushr
  | _ => none
def am_oB (b : Nat) (off : Int) : Option Jvm.ClassFile.Instr := match b with
  | 0 => some (.if_icmp .eq off)
  | 1 => some (.if_icmp .ne off)
  | 2 => some (.if_icmp .lt off)
  | 3 => some (.if_icmp .ge off)
  | 4 => some (.if_icmp .gt off)
  | 5 => some (.if_icmp .le off)
  | _ => none
def am_oZ (b : Nat) (off : Int) : Option Jvm.ClassFile.Instr := match b with
  | 0 => some (.ifCond .eq off)
  | 1 => some (.ifCond .ne off)
  | 2 => some (.ifCond .lt off)
  | 3 => some (.ifCond .ge off)
  | 4 => some (.ifCond .gt off)
  | 5 => some (.ifCond .le off)
  | _ => none
def am_oU (a : Nat) : Option Jvm.ClassFile.Instr := match a with
  | 0 => some .i2l
  | 1 => some .l2i
  | 2 => some .ineg
  | 3 => some .lneg
  | _ => none
section AMS
variable {p : Program} {l : Launch} {e : Env} {R : Room} {s : State} {m : MethodId} {args : Array Value} {below : List Frame} {meth : Method} {c : Code} {H : Heap} {locs : List Loc} {cells slots : Nat} {Q : State → Prop}
variable {cc : ByteArray} {pc : Nat} {ls : Array Slot} {rest : List Value}
theorem s_ii (hx : p.tables.exec = Jvm.exec) (hb : c.code = cc) {a : Nat} {x y z : Int32} (hz : am_ii a x y = some z) (hk : am_dk cc pc (am_oI a) 1 = true) (kk : W p l e R s m args below meth c H locs cells slots Q (F0 m (pc + 1) ls (.int z :: rest))) : W p l e R s m args below meth c H locs cells slots Q (F0 m pc ls (.int y :: .int x :: rest)) := by
  match a, hz, hk with
  | 0, hz, hk => have hz : some (x + y) = some z := hz
                 cases hz; exact lv_iadd hx hb (of_decide_eq_true hk) kk
  | 1, hz, hk => have hz : some (x - y) = some z := hz
                 cases hz; exact lv_isub hx hb (of_decide_eq_true hk) kk
  | 2, hz, hk => have hz : some (x * y) = some z := hz
                 cases hz; exact lv_imul hx hb (of_decide_eq_true hk) kk
  | 3, hz, hk => have hz : some (x &&& y) = some z := hz
                 cases hz; exact lv_iand hx hb (of_decide_eq_true hk) kk
  | 4, hz, hk => have hz : some (x ||| y) = some z := hz
                 cases hz; exact lv_ior hx hb (of_decide_eq_true hk) kk
  | 5, hz, hk => have hz : some (x ^^^ y) = some z := hz
                 cases hz; exact lv_ixor hx hb (of_decide_eq_true hk) kk
  | 6, hz, hk => have hz : some (x <<< (y &&& 31)) = some z := hz
                 cases hz; exact lv_ishl hx hb (of_decide_eq_true hk) kk
  | 7, hz, hk => have hz : some (x >>> (y &&& 31)) = some z := hz
                 cases hz; exact lv_ishr hx hb (of_decide_eq_true hk) kk
  | 8, hz, hk => have hz : some (x.toUInt32 >>> (y.toUInt32 &&& Int32.toUInt32 31)).toInt32 = some z := hz
                 cases hz; exact lv_iushr hx hb (of_decide_eq_true hk) rfl kk
  | 9, hz, hk =>
    have hz : (if y = 0 then none else some (x / y)) = some z := hz
    by_cases h0 : y = 0
    · rw [if_pos h0] at hz; cases hz
    · rw [if_neg h0] at hz; cases hz; exact lv_idiv hx hb (of_decide_eq_true hk) h0 kk
  | 10, hz, hk =>
    have hz : (if y = 0 then none else some (x - x / y * y)) = some z := hz
    by_cases h0 : y = 0
    · rw [if_pos h0] at hz; cases hz
    · rw [if_neg h0] at hz; cases hz; exact lv_irem hx hb (of_decide_eq_true hk) h0 kk
  | n + 11, hz, hk => exact absurd hk (by simp [am_dk, am_oI])
theorem s_ll (hx : p.tables.exec = Jvm.exec) (hb : c.code = cc) {a : Nat} {x y z : Int64} (hz : am_ll a x y = some z) (hk : am_dk cc pc (am_oL a) 1 = true) (kk : W p l e R s m args below meth c H locs cells slots Q (F0 m (pc + 1) ls (.long z :: rest))) : W p l e R s m args below meth c H locs cells slots Q (F0 m pc ls (.long y :: .long x :: rest)) := by
  match a, hz, hk with
  | 0, hz, hk => have hz : some (x + y) = some z := hz
                 cases hz; exact lv_ladd hx hb (of_decide_eq_true hk) kk
  | 1, hz, hk => have hz : some (x - y) = some z := hz
                 cases hz; exact lv_lsub hx hb (of_decide_eq_true hk) kk
  | 2, hz, hk => have hz : some (x * y) = some z := hz
                 cases hz; exact lv_lmul hx hb (of_decide_eq_true hk) kk
  | 3, hz, hk => have hz : some (x &&& y) = some z := hz
                 cases hz; exact lv_land hx hb (of_decide_eq_true hk) kk
  | 4, hz, hk => have hz : some (x ||| y) = some z := hz
                 cases hz; exact lv_lor hx hb (of_decide_eq_true hk) kk
  | 5, hz, hk => have hz : some (x ^^^ y) = some z := hz
                 cases hz; exact lv_lxor hx hb (of_decide_eq_true hk) kk
  | 6, hz, hk =>
    have hz : (if y = 0 then none else some (x / y)) = some z := hz
    by_cases h0 : y = 0
    · rw [if_pos h0] at hz; cases hz
    · rw [if_neg h0] at hz; cases hz; exact lv_ldiv hx hb (of_decide_eq_true hk) h0 kk
  | 7, hz, hk =>
    have hz : (if y = 0 then none else some (x - x / y * y)) = some z := hz
    by_cases h0 : y = 0
    · rw [if_pos h0] at hz; cases hz
    · rw [if_neg h0] at hz; cases hz; exact lv_lrem hx hb (of_decide_eq_true hk) h0 kk
  | n + 8, hz, hk => exact absurd hk (by simp [am_dk, am_oL])
theorem s_ls (hx : p.tables.exec = Jvm.exec) (hb : c.code = cc) {a : Nat} {x : Int64} {y : Int32} (hk : am_dk cc pc (am_oS a) 1 = true) (kk : W p l e R s m args below meth c H locs cells slots Q (F0 m (pc + 1) ls (.long (am_ls a x y) :: rest))) : W p l e R s m args below meth c H locs cells slots Q (F0 m pc ls (.int y :: .long x :: rest)) := by
  match a, hk, kk with
  | 0, hk, kk => exact lv_lshl hx hb (of_decide_eq_true hk) rfl kk
  | 1, hk, kk => exact lv_lshr hx hb (of_decide_eq_true hk) rfl kk
  | 2, hk, kk => exact lv_lushr hx hb (of_decide_eq_true hk) rfl kk
  | n + 3, hk, kk => exact absurd hk (by simp [am_dk, am_oS])
theorem s_br (hx : p.tables.exec = Jvm.exec) (hb : c.code = cc) {b t : Nat} {x y : Int32} (hk : am_dk cc pc (am_oB b ((t : Int) - (pc : Int))) 3 = true) (kk : W p l e R s m args below meth c H locs cells slots Q (F0 m (am_br b x y t (pc + 3)) ls rest)) : W p l e R s m args below meth c H locs cells slots Q (F0 m pc ls (.int y :: .int x :: rest)) := by
  have ht : (pc : Int) + ((t : Int) - (pc : Int)) = (t : Int) := by omega
  match b, hk, kk with
  | 0, hk, kk => exact lv_icmp_eq hx hb (of_decide_eq_true hk) ht (fun h => by rw [show am_br 0 x y t (pc + 3) = t from if_pos h] at kk; exact kk) (fun h => by rw [show am_br 0 x y t (pc + 3) = pc + 3 from if_neg h] at kk; exact kk)
  | 1, hk, kk => exact lv_icmp_ne hx hb (of_decide_eq_true hk) ht (fun h => by rw [show am_br 1 x y t (pc + 3) = t from if_pos h] at kk; exact kk) (fun h => by rw [show am_br 1 x y t (pc + 3) = pc + 3 from if_neg (fun q => q h)] at kk; exact kk)
  | 2, hk, kk => exact lv_icmp_lt hx hb (of_decide_eq_true hk) ht (fun h => by rw [show am_br 2 x y t (pc + 3) = t from if_pos h] at kk; exact kk) (fun h => by rw [show am_br 2 x y t (pc + 3) = pc + 3 from if_neg h] at kk; exact kk)
  | 3, hk, kk => exact lv_icmp_ge hx hb (of_decide_eq_true hk) ht (fun h => by rw [show am_br 3 x y t (pc + 3) = t from if_pos h] at kk; exact kk) (fun h => by rw [show am_br 3 x y t (pc + 3) = pc + 3 from if_neg h] at kk; exact kk)
  | 4, hk, kk => exact lv_icmp_gt hx hb (of_decide_eq_true hk) ht (fun h => by rw [show am_br 4 x y t (pc + 3) = t from if_pos h] at kk; exact kk) (fun h => by rw [show am_br 4 x y t (pc + 3) = pc + 3 from if_neg h] at kk; exact kk)
  | 5, hk, kk => exact lv_icmp_le hx hb (of_decide_eq_true hk) ht (fun h => by rw [show am_br 5 x y t (pc + 3) = t from if_pos h] at kk; exact kk) (fun h => by rw [show am_br 5 x y t (pc + 3) = pc + 3 from if_neg h] at kk; exact kk)
  | n + 6, hk, kk => exact absurd hk (by simp [am_dk, am_oB])
theorem s_bz (hx : p.tables.exec = Jvm.exec) (hb : c.code = cc) {b t : Nat} {x : Int32} (hk : am_dk cc pc (am_oZ b ((t : Int) - (pc : Int))) 3 = true) (kk : W p l e R s m args below meth c H locs cells slots Q (F0 m (am_br b x 0 t (pc + 3)) ls rest)) : W p l e R s m args below meth c H locs cells slots Q (F0 m pc ls (.int x :: rest)) := by
  have ht : (pc : Int) + ((t : Int) - (pc : Int)) = (t : Int) := by omega
  match b, hk, kk with
  | 0, hk, kk => exact lv_if_eq hx hb (of_decide_eq_true hk) ht (fun h => by rw [show am_br 0 x 0 t (pc + 3) = t from if_pos h] at kk; exact kk) (fun h => by rw [show am_br 0 x 0 t (pc + 3) = pc + 3 from if_neg h] at kk; exact kk)
  | 1, hk, kk => exact lv_if_ne hx hb (of_decide_eq_true hk) ht (fun h => by rw [show am_br 1 x 0 t (pc + 3) = t from if_pos h] at kk; exact kk) (fun h => by rw [show am_br 1 x 0 t (pc + 3) = pc + 3 from if_neg (fun q => q h)] at kk; exact kk)
  | 2, hk, kk => exact lv_if_lt hx hb (of_decide_eq_true hk) ht (fun h => by rw [show am_br 2 x 0 t (pc + 3) = t from if_pos h] at kk; exact kk) (fun h => by rw [show am_br 2 x 0 t (pc + 3) = pc + 3 from if_neg h] at kk; exact kk)
  | 3, hk, kk => exact lv_if_ge hx hb (of_decide_eq_true hk) ht (fun h => by rw [show am_br 3 x 0 t (pc + 3) = t from if_pos h] at kk; exact kk) (fun h => by rw [show am_br 3 x 0 t (pc + 3) = pc + 3 from if_neg h] at kk; exact kk)
  | 4, hk, kk => exact lv_if_gt hx hb (of_decide_eq_true hk) ht (fun h => by rw [show am_br 4 x 0 t (pc + 3) = t from if_pos h] at kk; exact kk) (fun h => by rw [show am_br 4 x 0 t (pc + 3) = pc + 3 from if_neg h] at kk; exact kk)
  | 5, hk, kk => exact lv_if_le hx hb (of_decide_eq_true hk) ht (fun h => by rw [show am_br 5 x 0 t (pc + 3) = t from if_pos h] at kk; exact kk) (fun h => by rw [show am_br 5 x 0 t (pc + 3) = pc + 3 from if_neg h] at kk; exact kk)
  | n + 6, hk, kk => exact absurd hk (by simp [am_dk, am_oZ])
end AMS
