/-! THE STEPS OF THE ABSTRACT MACHINE ARE STEPS OF THE MACHINE: the check of an instruction against a method's bytes, and what it gives -/
def gAll : List Cond := lw_tbl.filter goodWord
theorem gAll_of {w : Cond} (h : w ∈ lw_tbl) (hg : goodWord w = true) : w ∈ gAll := List.mem_filter.mpr ⟨h, hg⟩
theorem gAll_good {w : Cond} (h : w ∈ gAll) : goodWord w = true := (List.mem_filter.mp h).2
def am_tyk : List FieldType := [.int, .long, .boolean, .object "ShareHall$Party"]
def am_tys (cA : Nat → ClassId) : List (ClassId × FieldType) := [(cA 0, .int), (cA 1, .long), (cA 2, .boolean), (cA 3, .object "ShareHall$Party")]
/-- the static tables: class, name -/
def g_stn : List (String × String) := [("ShareHall", "LENGTHS"), ("ShareHall$Digest", "ROUNDS"), ("ShareHall$Digest", "FIRST"), ("ShareHallModel", "ROUND"), ("ShareHallModel", "FIRST")]
/-- the nest's words -/
def am_Nst (s : State) : Prop := (∀ x ∈ g_fl, x.2.2.1 = 1 → va_Nw (g_flw x) s) ∧ (∀ x ∈ g_cl, x.2.2.1 = 1 → va_Nw (g_clw x) s) ∧ va_AO "ShareHall$Party" s
/-- the tables that nobody writes -/
def am_Tab (G : am_G) (A : Nat → Prop) (s : State) (zt : Nat → Nat) (H : Heap) : Prop :=
  (∀ k, k < 6 → va_T .int (zt k) (G.2.1 k).1 (fun j => .int ((G.2.1 k).2 j)) A s H) ∧ ∀ (k : Nat) (q : String × String), g_stn[k]? = some q → va_Z q.1 q.2 "[I" (.ref (zt k)) A s H
/-- what holds of a frame of method y all the time -/
def am_Ctx (G : am_G) (D : va_G) (cA : Nat → ClassId) (A : Nat → Prop) (zt : Nat → Nat) (p : Program) (s : State) (m : MethodId) (meth : Method) (c : Code) (args : Array Value) (y : Nat) : Prop :=
  p.tables.exec = Jvm.exec ∧ c.code = gB y ∧ c.maxLocals = gL y ∧ s.vm.findClass (gR (gO y)) = some m.cls ∧ (∀ w ∈ gAll, w.before args s = true) ∧ meth.name = (gY y).name ∧ va_K D gcl (am_tys cA) s ∧ (∀ q, s.heap.size ≤ q → A q) ∧ am_Nst s ∧ am_Tab G A s zt s.heap ∧
  ∀ k, k < 13 → G.2.2.1 k = (List.range (gN k)).map (fun j => defaultValue (gty k j))
/-- the abstract heap h as it lies in H -/
def am_Rel (D : va_G) (cA : Nat → ClassId) (A : Nat → Prop) (zt : Nat → Nat) (H0 : Heap) (ad : Nat → Nat) (h : am_H) (H : Heap) (locs : List Loc) : Prop :=
  va_P D gcl (am_W ad cA h) H ∧ va_D A (am_W ad cA h) ∧ va_S A H0 H locs ∧ am_okH h ∧ ∀ k, ad (am_T0 + k) = zt k
/-- all references of a frame are to cells that there are -/
def am_okF (n : Nat) (ls : List (Nat × Value)) (st : List Value) : Prop := (∀ q ∈ ls, am_ok n q.2) ∧ ∀ v ∈ st, am_ok n v
/-! the checks -/
def ck_push (y pc a b : Nat) (v : Value) (sw : List (Int32 × Nat)) : Bool := match b, v, sw with
  | 0, .int x, _ => decide (a = 1) && decide (decode (gB y) pc = .ok (.iconst x.toInt, 1))
  | 1, .int x, _ => decide (a = 2) && decide (decode (gB y) pc = .ok (.bipush x.toInt, 2)) && decide ((Int8.ofInt x.toInt).toInt32 = x)
  | 2, .int x, _ => decide (a = 3) && decide (decode (gB y) pc = .ok (.sipush x.toInt, 3)) && decide ((Int16.ofInt x.toInt).toInt32 = x)
  | 3, .long x, _ => decide (a = 1) && ((decide (x = 0) && decide (decode (gB y) pc = .ok (.lconst 0, 1))) || (decide (x = 1) && decide (decode (gB y) pc = .ok (.lconst 1, 1))))
  | 4, .int x, [(_, j)] => (match g_kn[j]? with
    | some (o, i, w) => decide (a = 2) && decide (o = gO y) && decide (w = .int x) && decide (decode (gB y) pc = .ok (.ldc i, 2))
    | none => false)
  | 5, .long x, [(_, j)] => (match g_kn[j]? with
    | some (o, i, w) => decide (a = 3) && decide (o = gO y) && decide (w = .long x) && decide (decode (gB y) pc = .ok (.ldc2_w i, 3))
    | none => false)
  | _, _, _ => false
def ck_load (y pc a b : Nat) (v : Value) : Bool := match b, v with
  | 1, .int _ => if h : a < 4 then decide (decode (gB y) pc = .ok (.iload_n ⟨a, h⟩, 1)) else false
  | 2, .int _ => decide (decode (gB y) pc = .ok (.iload a, 2))
  | 1, .long _ => if h : a < 4 then decide (decode (gB y) pc = .ok (.lload_n ⟨a, h⟩, 1)) else false
  | 2, .long _ => decide (decode (gB y) pc = .ok (.lload a, 2))
  | 1, .null => if h : a < 4 then decide (decode (gB y) pc = .ok (.aload_n ⟨a, h⟩, 1)) else false
  | 2, .null => decide (decode (gB y) pc = .ok (.aload a, 2))
  | _, _ => false
def ck_store1 (y pc a b : Nat) (v : Value) : Bool := decide (a < gL y) && (match b, v with
  | 1, .int _ => if h : a < 4 then decide (decode (gB y) pc = .ok (.istore_n ⟨a, h⟩, 1)) else false
  | 2, .int _ => decide (decode (gB y) pc = .ok (.istore a, 2))
  | 1, .null => if h : a < 4 then decide (decode (gB y) pc = .ok (.astore_n ⟨a, h⟩, 1)) else false
  | 2, .null => decide (decode (gB y) pc = .ok (.astore a, 2))
  | _, _ => false)
def ck_store2 (y pc a b : Nat) (v : Value) : Bool := decide (a + 1 < gL y) && (match b, v with
  | 1, .long _ => if h : a < 4 then decide (decode (gB y) pc = .ok (.lstore_n ⟨a, h⟩, 1)) else false
  | 2, .long _ => decide (decode (gB y) pc = .ok (.lstore a, 2))
  | _, _ => false)
section STEPS
variable {G : am_G} {D : va_G} {cA : Nat → ClassId} {A : Nat → Prop} {zt : Nat → Nat} {p : Program} {l : Launch} {e : Env} {R : Room} {s : State} {m : MethodId} {args : Array Value} {below : List Frame} {meth : Method} {c : Code} {H : Heap} {locs : List Loc} {cells slots : Nat} {Q : State → Prop} {y pc : Nat} {lsR : Array Slot} {ad : Nat → Nat}
theorem p_push (X : am_Ctx G D cA A zt p s m meth c args y) {a b : Nat} {v : Value} {sw : List (Int32 × Nat)} (hk : ck_push y pc a b v sw = true) {st : List Value}
    (kk : W p l e R s m args below meth c H locs cells slots Q (F0 m (pc + a) lsR (am_v ad v :: st))) : W p l e R s m args below meth c H locs cells slots Q (F0 m pc lsR st) := by
  obtain ⟨hx, hb, hml, hown, hts, -⟩ := X
  unfold ck_push at hk
  split at hk
  · rename_i x
    simp only [Bool.and_eq_true, decide_eq_true_eq] at hk
    obtain ⟨rfl, hd⟩ := hk
    exact lv_iconst hx hb hd (Int32.ofInt_toInt x) kk
  · rename_i x
    simp only [Bool.and_eq_true, decide_eq_true_eq] at hk
    obtain ⟨⟨rfl, hd⟩, h2⟩ := hk
    exact lv_bipush hx hb hd h2 kk
  · rename_i x
    simp only [Bool.and_eq_true, decide_eq_true_eq] at hk
    obtain ⟨⟨rfl, hd⟩, h2⟩ := hk
    exact lv_sipush hx hb hd h2 kk
  · rename_i x
    simp only [Bool.and_eq_true, Bool.or_eq_true, decide_eq_true_eq] at hk
    obtain ⟨rfl, ⟨rfl, hd⟩ | ⟨rfl, hd⟩⟩ := hk
    · exact lv_lconst hx hb hd rfl kk
    · exact lv_lconst hx hb hd rfl kk
  · rename_i x _ j
    cases hj : g_kn[j]? with
    | none => rw [hj] at hk; cases hk
    | some z =>
      obtain ⟨o, i, w⟩ := z
      rw [hj] at hk
      simp only [Bool.and_eq_true, decide_eq_true_eq] at hk
      obtain ⟨⟨⟨rfl, rfl⟩, rfl⟩, hd⟩ := hk
      have hw : Cond.constant (gR (gO y)) i x ∈ lw_tbl := by
        have h1 : g_knw (gO y, i, .int x) ∈ g_kn.map g_knw := List.mem_map.mpr ⟨_, List.mem_of_getElem? hj, rfl⟩
        rw [g_kn_ok] at h1
        exact g_at_in h1
      exact lv_ldc hx hb hown (hts _ (gAll_of hw rfl)) hd kk
  · rename_i x _ j
    cases hj : g_kn[j]? with
    | none => rw [hj] at hk; cases hk
    | some z =>
      obtain ⟨o, i, w⟩ := z
      rw [hj] at hk
      simp only [Bool.and_eq_true, decide_eq_true_eq] at hk
      obtain ⟨⟨⟨rfl, rfl⟩, rfl⟩, hd⟩ := hk
      have hw : Cond.constantLong (gR (gO y)) i x ∈ lw_tbl := by
        have h1 : g_knw (gO y, i, .long x) ∈ g_kn.map g_knw := List.mem_map.mpr ⟨_, List.mem_of_getElem? hj, rfl⟩
        rw [g_kn_ok] at h1
        exact g_at_in h1
      exact lv_ldc2 hx hb hown (hts _ (gAll_of hw rfl)) hd kk
  · cases hk
theorem p_load (X : am_Ctx G D cA A zt p s m meth c args y) {a b : Nat} {v x : Value} (hk : ck_load y pc a b v = true) (ht : am_tag v x = true) (hl : lsR[a]? = some (.val (am_v ad x))) {st : List Value}
    (kk : W p l e R s m args below meth c H locs cells slots Q (F0 m (pc + b) lsR (am_v ad x :: st))) : W p l e R s m args below meth c H locs cells slots Q (F0 m pc lsR st) := by
  obtain ⟨hx, hb, -⟩ := X
  unfold ck_load at hk
  split at hk
  · cases x <;> first | cases ht | skip
    split at hk
    · exact lv_iload_n hx hb (of_decide_eq_true hk) rfl hl kk
    · cases hk
  · cases x <;> first | cases ht | skip
    exact lv_iload hx hb (of_decide_eq_true hk) hl kk
  · cases x <;> first | cases ht | skip
    split at hk
    · exact lv_lload_n hx hb (of_decide_eq_true hk) rfl hl kk
    · cases hk
  · cases x <;> first | cases ht | skip
    exact lv_lload hx hb (of_decide_eq_true hk) hl kk
  · cases x <;> first | cases ht | skip
    split at hk
    · exact lv_aload_n hx hb (of_decide_eq_true hk) rfl hl kk
    · cases hk
  · cases x <;> first | cases ht | skip
    exact lv_aload hx hb (of_decide_eq_true hk) hl kk
  · cases hk
theorem p_store1 (X : am_Ctx G D cA A zt p s m meth c args y) {a b : Nat} {v x : Value} (hk : ck_store1 y pc a b v = true) (ht : am_tag v x = true) {ls : List (Nat × Value)} (hl : lv_has lsR (gL y) (ls.map (am_q ad))) {st : List Value}
    (kk : ∀ lsR' : Array Slot, lv_has lsR' (gL y) ((am_st1 a x ls).map (am_q ad)) → W p l e R s m args below meth c H locs cells slots Q (F0 m (pc + b) lsR' st)) : W p l e R s m args below meth c H locs cells slots Q (F0 m pc lsR (am_v ad x :: st)) := by
  obtain ⟨hx, hb, -⟩ := X
  unfold ck_store1 at hk
  rw [Bool.and_eq_true] at hk
  obtain ⟨ha, hk⟩ := hk
  have ha := of_decide_eq_true ha
  split at hk
  · cases x <;> first | cases ht | skip
    split at hk
    · rename_i w h4
      exact lv_istore_n hx hb (of_decide_eq_true hk) rfl hl ha (am_st1_map ad a (.int w) ls) kk
    · cases hk
  · cases x <;> first | cases ht | skip
    rename_i w
    exact lv_istore hx hb (of_decide_eq_true hk) hl ha (am_st1_map ad a (.int w) ls) kk
  · cases x <;> first | cases ht | skip
    split at hk
    · rename_i w h4
      exact lv_astore_n hx hb (of_decide_eq_true hk) rfl hl ha (am_st1_map ad a (.ref w) ls) kk
    · cases hk
  · cases x <;> first | cases ht | skip
    rename_i w
    exact lv_astore hx hb (of_decide_eq_true hk) hl ha (am_st1_map ad a (.ref w) ls) kk
  · cases hk
theorem p_store2 (X : am_Ctx G D cA A zt p s m meth c args y) {a b : Nat} {v x : Value} (hk : ck_store2 y pc a b v = true) (ht : am_tag v x = true) {ls : List (Nat × Value)} (hl : lv_has lsR (gL y) (ls.map (am_q ad))) {st : List Value}
    (kk : ∀ lsR' : Array Slot, lv_has lsR' (gL y) ((am_st2 a x ls).map (am_q ad)) → W p l e R s m args below meth c H locs cells slots Q (F0 m (pc + b) lsR' st)) : W p l e R s m args below meth c H locs cells slots Q (F0 m pc lsR (am_v ad x :: st)) := by
  obtain ⟨hx, hb, -⟩ := X
  unfold ck_store2 at hk
  rw [Bool.and_eq_true] at hk
  obtain ⟨ha, hk⟩ := hk
  have ha := of_decide_eq_true ha
  split at hk
  · cases x <;> first | cases ht | skip
    split at hk
    · rename_i w h4
      exact lv_lstore_n hx hb (of_decide_eq_true hk) rfl hl ha (am_st2_map ad a (.long w) ls) kk
    · cases hk
  · cases x <;> first | cases ht | skip
    rename_i w
    exact lv_lstore hx hb (of_decide_eq_true hk) hl ha (am_st2_map ad a (.long w) ls) kk
  · cases hk
end STEPS
