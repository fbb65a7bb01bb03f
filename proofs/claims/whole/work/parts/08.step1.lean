/-! one step of the abstract machine is one of the machine -/
def am_ck (y pc : Nat) (q : am_I) : Bool := match q with
  | (op, a, b, v, sw) => match op with
    | 0 => ck_push y pc a b v sw || ck_gst y pc a v sw
    | 1 => ck_load y pc a b v
    | 2 => ck_store1 y pc a b v
    | 3 => ck_store2 y pc a b v
    | 4 => (match v with
      | .int x => decide (a < gL y) && decide (decode (gB y) pc = .ok (.iinc a x.toInt, 3))
      | _ => false)
    | 5 => am_dk (gB y) pc (am_oI a) 1
    | 6 => am_dk (gB y) pc (am_oL a) 1
    | 7 => am_dk (gB y) pc (am_oS a) 1
    | 8 => am_dk (gB y) pc (am_oB b ((a : Int) - (pc : Int))) 3
    | 9 => am_dk (gB y) pc (am_oZ b ((a : Int) - (pc : Int))) 3
    | 10 => decide (decode (gB y) pc = .ok (.goto ((a : Int) - (pc : Int)), 3))
    | 11 => ck_sw y pc a sw
    | 12 => decide (decode (gB y) pc = .ok (.lcmp, 1))
    | 13 => am_dk (gB y) pc (am_oU a) 1
    | 14 => decide (decode (gB y) pc = .ok (.dup, 1))
    | 15 => decide (decode (gB y) pc = .ok (.pop, 1))
    | 16 => decide (decode (gB y) pc = .ok (.dup_x1, 1))
    | 17 => decide (decode (gB y) pc = .ok (.dup2, 1))
    | 20 => ck_field y pc false a b sw
    | 21 => ck_field y pc true a b sw && ck_put y a b v sw
    | 22 => ck_field y pc true a b sw && ck_putZ y a b sw
    | 23 => ck_ald y pc a
    | 24 => ck_ast y pc a
    | 25 => decide (decode (gB y) pc = .ok (.arraylength, 1))
    | 26 => ck_new y pc a sw
    | 27 => ck_newa y pc a b
    | 28 => ck_newq y pc a b sw
    | 29 => decide (a = 3) && decide (b = 5) && decide (decode (gB y) pc = .ok (.aastore, 1))
    | 30 => ck_call1 y pc 1002 false sw
    | 31 => ck_call1 y pc 1001 true sw
    | 32 => ck_call1 y pc 1003 false sw
    | _ => false
theorem am_okF.tail {n : Nat} {ls : List (Nat × Value)} {v : Value} {st : List Value} (h : am_okF n ls (v :: st)) : am_okF n ls st := ⟨h.1, fun w hw => h.2 w (List.mem_cons_of_mem _ hw)⟩
theorem am_okF.head {n : Nat} {ls : List (Nat × Value)} {v : Value} {st : List Value} (h : am_okF n ls (v :: st)) : am_ok n v := h.2 v List.mem_cons_self
theorem am_okF.cons {n : Nat} {ls : List (Nat × Value)} {v : Value} {st : List Value} (h : am_okF n ls st) (hv : am_ok n v) : am_okF n ls (v :: st) := ⟨h.1, fun w hw => by
  rcases List.mem_cons.mp hw with q | q
  · rw [q]; exact hv
  · exact h.2 w q⟩
theorem am_okF.st1 {n a : Nat} {ls : List (Nat × Value)} {v : Value} {st : List Value} (h : am_okF n ls st) (hv : am_ok n v) : am_okF n (am_st1 a v ls) st := ⟨fun q hq => by
  rcases List.mem_cons.mp hq with e | e
  · rw [e]; exact hv
  · exact h.1 q (List.mem_filter.mp e).1, h.2⟩
theorem am_okF.st2 {n a : Nat} {ls : List (Nat × Value)} {v : Value} {st : List Value} (h : am_okF n ls st) (hv : am_ok n v) : am_okF n (am_st2 a v ls) st := ⟨fun q hq => by
  rcases List.mem_cons.mp hq with e | e
  · rw [e]; exact hv
  · exact h.1 q (List.mem_filter.mp e).1, h.2⟩
theorem am_okF.up {n k : Nat} (hk : n ≤ k) {ls : List (Nat × Value)} {st : List Value} (h : am_okF n ls st) : am_okF k ls st := ⟨fun q hq => am_ok_up hk (h.1 q hq), fun v hv => am_ok_up hk (h.2 v hv)⟩
theorem am_okF.ld {n a : Nat} {ls : List (Nat × Value)} {v : Value} {st : List Value} (h : am_okF n ls st) (hv : am_ld a ls = some v) : am_ok n v := h.1 (a, v) (am_ld_mem hv)
theorem am_okF.stk {n : Nat} {ls : List (Nat × Value)} {st : List Value} {ad : Nat → Nat} {q : Nat} (hn : n < am_T0) (h : am_okF n ls st) : st.map (am_v (va_up ad n q)) = st.map (am_v ad) := List.map_congr_left (fun v hv => am_v_up hn (h.2 v hv))
theorem am_okF.loc {n : Nat} {ls : List (Nat × Value)} {st : List Value} {ad : Nat → Nat} {q : Nat} (hn : n < am_T0) (h : am_okF n ls st) : ls.map (am_q (va_up ad n q)) = ls.map (am_q ad) := List.map_congr_left (fun v hv => by
  unfold am_q
  rw [am_v_up hn (h.1 v hv)])
theorem am_new_eq {h h' : am_H} {x : va_E} {n : Nat} (hs : am_new h x n = some h') : h.2.1 < am_T0 ∧ h' = (va_up h.1 h.2.1 x, h.2.1 + 1, h.2.2.1 + 1, h.2.2.2 + n) := by
  unfold am_new at hs
  cases h0 : Nat.blt h.2.1 am_T0 with
  | false => rw [h0, cond_false] at hs; cases hs
  | true =>
    rw [h0, cond_true] at hs
    exact ⟨Nat.le_of_ble_eq_true h0, (Option.some.inj hs).symm⟩
theorem am_ald_ok {G : am_G} {a r : Nat} {h : am_H} {i : Int32} {v : Value} (hO : am_okH h) (hs : am_ald G a h r i = some v) : am_ok h.2.1 v := by
  unfold am_ald at hs
  cases h0 : Nat.ble am_T0 r with
  | true =>
    rw [h0, cond_true] at hs
    cases h1 : Nat.beq a 0 && Nat.blt (r - am_T0) 6 with
    | false => rw [h1, cond_false] at hs; cases hs
    | true =>
      rw [h1, cond_true] at hs
      split at hs
      · cases hs
      · cases hs; trivial
  | false =>
    rw [h0, cond_false] at hs
    cases h1 : Nat.blt r h.2.1 with
    | false => rw [h1, cond_false] at hs; cases hs
    | true =>
      rw [h1, cond_true] at hs
      have hr : r < h.2.1 := Nat.le_of_ble_eq_true h1
      split at hs
      · rename_i k n f hc
        cases h2 : Nat.beq k a && (Nat.beq a 0 || Nat.beq a 2) with
        | false => rw [h2, cond_false] at hs; cases hs
        | true =>
          rw [h2, cond_true] at hs
          split at hs
          · cases hs
          · cases hs; trivial
      · rename_i k n f hc
        cases h2 : Nat.beq k a && Nat.beq a 1 with
        | false => rw [h2, cond_false] at hs; cases hs
        | true =>
          rw [h2, cond_true] at hs
          split at hs
          · cases hs
          · cases hs; trivial
      · rename_i k n f hc
        cases h2 : Nat.beq k a && Nat.ble 3 a with
        | false => rw [h2, cond_false] at hs; cases hs
        | true =>
          rw [h2, cond_true] at hs
          split at hs
          · cases hs
          · cases hs
            have h3 := hO.2 r hr
            rw [hc] at h3
            cases hf : f i.toNatClampNeg with
            | none => trivial
            | some w => exact h3 _ w hf
      · cases hs
theorem am_ast_eq {a r : Nat} {h h' : am_H} {i : Int32} {v : Value} (hs : am_ast a h r i v = some h') : h'.2 = h.2 := by
  unfold am_ast at hs
  cases h1 : Nat.blt r h.2.1 with
  | false => rw [h1, cond_false] at hs; cases hs
  | true =>
    rw [h1, cond_true] at hs
    split at hs
    · rename_i k n f z hc
      cases h2 : Nat.beq k a with
      | false => rw [h2, cond_false] at hs; cases hs
      | true =>
        rw [h2, cond_true] at hs
        split at hs
        · cases hs
        · cases h3 : Nat.beq a 0 with
          | true => rw [h3, cond_true] at hs; cases hs; rfl
          | false =>
            rw [h3, cond_false] at hs
            cases h4 : Nat.beq a 2 with
            | true => rw [h4, cond_true] at hs; cases hs; rfl
            | false => rw [h4, cond_false] at hs; cases hs
    · rename_i k n f z hc
      cases h2 : Nat.beq k a && Nat.beq a 1 with
      | false => rw [h2, cond_false] at hs; cases hs
      | true =>
        rw [h2, cond_true] at hs
        split at hs
        · cases hs
        · cases hs; rfl
    · cases hs
section STEP1
variable {G : am_G} {D : va_G} {cA : Nat → ClassId} {A : Nat → Prop} {zt : Nat → Nat} {p : Program} {l : Launch} {e : Env} {R : Room} {s : State} {m : MethodId} {args : Array Value} {below : List Frame} {meth : Method} {c : Code} {H : Heap} {locs : List Loc} {cells slots : Nat} {Q : State → Prop} {y pc : Nat} {lsR : Array Slot} {ad : Nat → Nat} {h : am_H}
set_option maxHeartbeats 4000000 in
theorem am_snd1 (X : am_Ctx G D cA A zt p s m meth c args y) {z1 z2 : Nat} (hfr : 1 ≤ R.frames) (hlo : 64 ≤ R.locals) {q : am_I} (hq : am_ck y pc q = true) {ls : List (Nat × Value)} {st : List Value} {f' : am_F} {h' : am_H} (hs : am_1 G q (pc, ls, st) h = some (f', h')) (hR : am_Rel D cA A zt s.heap ad h H locs) (hl : lv_has lsR (gL y) (ls.map (am_q ad))) (hok : am_okF h.2.1 ls st)
    (hcc : cells + z1 = h.2.2.1) (hss : slots + z2 = h.2.2.2) (hc1 : h'.2.2.1 ≤ R.cells + z1) (hs1 : h'.2.2.2 ≤ R.slots + z2)
    (kk : ∀ (ad' : Nat → Nat) (H' : Heap) (locs' : List Loc) (lsR' : Array Slot) (cells' slots' : Nat), am_Rel D cA A zt s.heap ad' h' H' locs' → (∀ i, i < h.2.1 → ad' i = ad i) → lv_has lsR' (gL y) (f'.2.1.map (am_q ad')) → am_okF h'.2.1 f'.2.1 f'.2.2 → cells' + z1 = h'.2.2.1 → slots' + z2 = h'.2.2.2 →
      W p l e R s m args below meth c H' locs' cells' slots' Q (F0 m f'.1 lsR' (f'.2.2.map (am_v ad')))) : W p l e R s m args below meth c H locs cells slots Q (F0 m pc lsR (st.map (am_v ad))) := by
  have hx := X.1
  have hb := X.2.1
  have same : ∀ i, i < h.2.1 → ad i = ad i := fun _ _ => rfl
  obtain ⟨op, a, b, v, sw⟩ := q
  revert hq hs
  match op with
  | 0 =>
    intro hq hs
    replace hs : some ((pc + a, ls, v :: st), h) = some (f', h') := hs
    cases hs
    replace hq : (ck_push y pc a b v sw || ck_gst y pc a v sw) = true := hq
    rw [Bool.or_eq_true] at hq
    rcases hq with hq | hq
    · refine p_push X hq (kk ad H locs lsR cells slots hR same hl (hok.cons ?_) hcc hss)
      unfold ck_push at hq
      split at hq <;> first | trivial | cases hq
    · refine p_gst X hq hR (kk ad H locs lsR cells slots hR same hl (hok.cons ?_) hcc hss)
      unfold ck_gst at hq
      split at hq
      · rename_i r _ j
        cases hj : g_sn[j]? with
        | none => rw [hj] at hq; cases hq
        | some w =>
          obtain ⟨o, i, k⟩ := w
          rw [hj] at hq
          simp only [Bool.and_eq_true, decide_eq_true_eq] at hq
          rw [hq.1.2]
          exact Or.inr (Nat.le_add_right _ _)
      · cases hq
  | 1 =>
    intro hq hs
    replace hs : x_load a b v pc ls st h = some (f', h') := hs
    unfold x_load at hs
    split at hs
    · rename_i x hx1
      cases ht : am_tag v x with
      | false => rw [ht, cond_false] at hs; cases hs
      | true =>
        rw [ht, cond_true] at hs
        cases hs
        exact p_load X hq ht (am_has hl hx1) (kk ad H locs lsR cells slots hR same hl (hok.cons (hok.ld hx1)) hcc hss)
    · cases hs
  | 2 =>
    intro hq hs
    replace hs : x_st1 a b v pc ls st h = some (f', h') := hs
    unfold x_st1 at hs
    split at hs
    · rename_i x r
      cases ht : am_tag v x with
      | false => rw [ht, cond_false] at hs; cases hs
      | true =>
        rw [ht, cond_true] at hs
        cases hs
        exact p_store1 X hq ht hl (fun lsR' hl' => kk ad H locs lsR' cells slots hR same hl' (hok.tail.st1 hok.head) hcc hss)
    · cases hs
  | 3 =>
    intro hq hs
    replace hs : x_st2 a b v pc ls st h = some (f', h') := hs
    unfold x_st2 at hs
    split at hs
    · rename_i x r
      cases ht : am_tag v x with
      | false => rw [ht, cond_false] at hs; cases hs
      | true =>
        rw [ht, cond_true] at hs
        cases hs
        exact p_store2 X hq ht hl (fun lsR' hl' => kk ad H locs lsR' cells slots hR same hl' (hok.tail.st2 hok.head) hcc hss)
    · cases hs
  | 4 =>
    intro hq hs
    replace hs : x_inc a v pc ls st h = some (f', h') := hs
    unfold x_inc at hs
    split at hs
    · rename_i x z hx1
      cases hs
      replace hq : (decide (a < gL y) && decide (decode (gB y) pc = .ok (.iinc a z.toInt, 3))) = true := hq
      simp only [Bool.and_eq_true, decide_eq_true_eq] at hq
      obtain ⟨k, hk⟩ := List.getElem?_of_mem (List.mem_map.mpr ⟨(a, .int x), am_ld_mem hx1, rfl⟩ : am_q ad (a, .int x) ∈ ls.map (am_q ad))
      exact lv_iinc hx hb hq.2 hl hk (by rw [Int32.ofInt_toInt]) hq.1 (am_st1_map ad a (.int (x + z)) ls) (fun lsR' hl' => kk ad H locs lsR' cells slots hR same hl' (hok.st1 trivial) hcc hss)
    · cases hs
  | 5 =>
    intro hq hs
    replace hs : x_ii a pc ls st h = some (f', h') := hs
    unfold x_ii at hs
    split at hs
    · rename_i z2' z1' r
      split at hs
      · rename_i w hw
        cases hs
        exact s_ii hx hb hw hq (kk ad H locs lsR cells slots hR same hl (hok.tail.tail.cons trivial) hcc hss)
      · cases hs
    · cases hs
  | 6 =>
    intro hq hs
    replace hs : x_ll a pc ls st h = some (f', h') := hs
    unfold x_ll at hs
    split at hs
    · rename_i z2' z1' r
      split at hs
      · rename_i w hw
        cases hs
        exact s_ll hx hb hw hq (kk ad H locs lsR cells slots hR same hl (hok.tail.tail.cons trivial) hcc hss)
      · cases hs
    · cases hs
  | 7 =>
    intro hq hs
    replace hs : x_ls a pc ls st h = some (f', h') := hs
    unfold x_ls at hs
    split at hs
    · cases hs
      exact s_ls hx hb hq (kk ad H locs lsR cells slots hR same hl (hok.tail.tail.cons trivial) hcc hss)
    · cases hs
  | 8 =>
    intro hq hs
    replace hs : x_br a b pc ls st h = some (f', h') := hs
    unfold x_br at hs
    split at hs
    · cases hs
      exact s_br hx hb hq (kk ad H locs lsR cells slots hR same hl hok.tail.tail hcc hss)
    · cases hs
  | 9 =>
    intro hq hs
    replace hs : x_bz a b pc ls st h = some (f', h') := hs
    unfold x_bz at hs
    split at hs
    · cases hs
      exact s_bz hx hb hq (kk ad H locs lsR cells slots hR same hl hok.tail hcc hss)
    · cases hs
  | 10 =>
    intro hq hs
    replace hs : some ((a, ls, st), h) = some (f', h') := hs
    cases hs
    exact lv_goto hx hb (of_decide_eq_true hq) (by omega) (kk ad H locs lsR cells slots hR same hl hok hcc hss)
  | 11 =>
    intro hq hs
    replace hs : x_sw a sw ls st h = some (f', h') := hs
    unfold x_sw at hs
    split at hs
    · cases hs
      exact p_sw X hq (kk ad H locs lsR cells slots hR same hl hok.tail hcc hss)
    · cases hs
  | 12 =>
    intro hq hs
    replace hs : x_lcmp pc ls st h = some (f', h') := hs
    unfold x_lcmp at hs
    split at hs
    · cases hs
      exact W.lcmp hx hb (of_decide_eq_true hq) (kk ad H locs lsR cells slots hR same hl (hok.tail.tail.cons trivial) hcc hss)
    · cases hs
  | 13 =>
    intro hq hs
    replace hs : x_un a pc ls st h = some (f', h') := hs
    replace hq : am_dk (gB y) pc (am_oU a) 1 = true := hq
    unfold x_un at hs
    split at hs
    · rename_i z r
      revert hq hs
      match a with
      | 0 =>
        intro hq hs
        replace hs : some ((pc + 1, ls, .long z.toInt64 :: r), h) = some (f', h') := hs
        cases hs
        exact lv_i2l hx hb (of_decide_eq_true hq) rfl (kk ad H locs lsR cells slots hR same hl (hok.tail.cons trivial) hcc hss)
      | 2 =>
        intro hq hs
        replace hs : some ((pc + 1, ls, .int (-z) :: r), h) = some (f', h') := hs
        cases hs
        exact lv_ineg hx hb (of_decide_eq_true hq) (kk ad H locs lsR cells slots hR same hl (hok.tail.cons trivial) hcc hss)
      | 1 => intro hq hs; exact absurd (show none = some (f', h') from hs) (fun q => by cases q)
      | 3 => intro hq hs; exact absurd (show none = some (f', h') from hs) (fun q => by cases q)
      | n + 4 => intro hq hs; exact absurd (show none = some (f', h') from hs) (fun q => by cases q)
    · rename_i z r
      revert hq hs
      match a with
      | 1 =>
        intro hq hs
        replace hs : some ((pc + 1, ls, .int z.toInt32 :: r), h) = some (f', h') := hs
        cases hs
        exact lv_l2i hx hb (of_decide_eq_true hq) rfl (kk ad H locs lsR cells slots hR same hl (hok.tail.cons trivial) hcc hss)
      | 3 =>
        intro hq hs
        replace hs : some ((pc + 1, ls, .long (-z) :: r), h) = some (f', h') := hs
        cases hs
        exact lv_lneg hx hb (of_decide_eq_true hq) (kk ad H locs lsR cells slots hR same hl (hok.tail.cons trivial) hcc hss)
      | 0 => intro hq hs; exact absurd (show none = some (f', h') from hs) (fun q => by cases q)
      | 2 => intro hq hs; exact absurd (show none = some (f', h') from hs) (fun q => by cases q)
      | n + 4 => intro hq hs; exact absurd (show none = some (f', h') from hs) (fun q => by cases q)
    · cases hs
  | 14 =>
    intro hq hs
    replace hs : x_dup pc ls st h = some (f', h') := hs
    unfold x_dup at hs
    split at hs
    · rename_i w r
      cases ht : Nat.beq w.category 1 with
      | false => rw [ht, cond_false] at hs; cases hs
      | true =>
        rw [ht, cond_true] at hs
        cases hs
        exact lv_dup hx hb (of_decide_eq_true hq) (by rw [am_v_cat]; exact Nat.eq_of_beq_eq_true ht) (kk ad H locs lsR cells slots hR same hl (hok.cons hok.head) hcc hss)
    · cases hs
  | 15 =>
    intro hq hs
    replace hs : x_pop pc ls st h = some (f', h') := hs
    unfold x_pop at hs
    split at hs
    · rename_i w r
      cases ht : Nat.beq w.category 1 with
      | false => rw [ht, cond_false] at hs; cases hs
      | true =>
        rw [ht, cond_true] at hs
        cases hs
        exact lv_pop hx hb (of_decide_eq_true hq) (by rw [am_v_cat]; exact Nat.eq_of_beq_eq_true ht) (kk ad H locs lsR cells slots hR same hl hok.tail hcc hss)
    · cases hs
  | 16 =>
    intro hq hs
    replace hs : x_dupx pc ls st h = some (f', h') := hs
    unfold x_dupx at hs
    split at hs
    · rename_i w u r
      cases ht : Nat.beq w.category 1 && Nat.beq u.category 1 with
      | false => rw [ht, cond_false] at hs; cases hs
      | true =>
        rw [ht, cond_true] at hs
        rw [Bool.and_eq_true] at ht
        cases hs
        exact lv_dup_x1 hx hb (of_decide_eq_true hq) (by rw [am_v_cat]; exact Nat.eq_of_beq_eq_true ht.1) (by rw [am_v_cat]; exact Nat.eq_of_beq_eq_true ht.2) (kk ad H locs lsR cells slots hR same hl (((hok.tail.tail.cons hok.head).cons hok.tail.head).cons hok.head) hcc hss)
    · cases hs
  | 17 =>
    intro hq hs
    replace hs : x_dup2 pc ls st h = some (f', h') := hs
    unfold x_dup2 at hs
    split at hs
    · cases hs
      exact lv_dup2_2 hx hb (of_decide_eq_true hq) rfl (kk ad H locs lsR cells slots hR same hl (hok.cons hok.head) hcc hss)
    · rename_i w u r _
      cases ht : Nat.beq w.category 1 && Nat.beq u.category 1 with
      | false => rw [ht, cond_false] at hs; cases hs
      | true =>
        rw [ht, cond_true] at hs
        rw [Bool.and_eq_true] at ht
        cases hs
        exact lv_dup2_11 hx hb (of_decide_eq_true hq) (by rw [am_v_cat]; exact Nat.eq_of_beq_eq_true ht.1) (by rw [am_v_cat]; exact Nat.eq_of_beq_eq_true ht.2) (kk ad H locs lsR cells slots hR same hl ((hok.cons hok.tail.head).cons hok.head) hcc hss)
    · cases hs
  | 18 => intro hq hs; exact absurd hq Bool.false_ne_true
  | 19 => intro hq hs; exact absurd hq Bool.false_ne_true
  | 20 =>
    intro hq hs
    replace hs : x_get a b pc ls st h = some (f', h') := hs
    unfold x_get at hs
    split at hs
    · rename_i i r
      cases h1 : Nat.blt i h.2.1 with
      | false => rw [h1, cond_false] at hs; cases hs
      | true =>
        rw [h1, cond_true] at hs
        have hi : i < h.2.1 := Nat.le_of_ble_eq_true h1
        split at hs
        · rename_i ci fs hc
          cases h2 : Nat.beq ci a with
          | false => rw [h2, cond_false] at hs; cases hs
          | true =>
            rw [h2, cond_true] at hs
            have h3 := Nat.eq_of_beq_eq_true h2
            subst h3
            split at hs
            · rename_i w hw
              cases hs
              refine p_get X hq hR hi hc hw (kk ad H locs lsR cells slots hR same hl (hok.tail.cons ?_) hcc hss)
              have h4 := hR.2.2.2.1.2 i hi
              rw [hc] at h4
              exact h4 w (List.mem_of_getElem? hw)
            · cases hs
        · cases hs
    · cases hs
  | 21 =>
    intro hq hs
    replace hs : x_put a b v pc ls st h = some (f', h') := hs
    replace hq : (ck_field y pc true a b sw && ck_put y a b v sw) = true := hq
    rw [Bool.and_eq_true] at hq
    unfold x_put at hs
    split at hs
    · rename_i w i r
      cases h1 : Nat.blt i h.2.1 with
      | false => rw [h1, cond_false] at hs; cases hs
      | true =>
        rw [h1, cond_true] at hs
        have hi : i < h.2.1 := Nat.le_of_ble_eq_true h1
        split at hs
        · rename_i ci fs hc
          cases h2 : Nat.beq ci a && Nat.blt b fs.length && am_fit v w with
          | false => rw [h2, cond_false] at hs; cases hs
          | true =>
            rw [h2, cond_true] at hs
            simp only [Bool.and_eq_true] at h2
            have h3 := Nat.eq_of_beq_eq_true h2.1.1
            subst h3
            cases hs
            exact p_put X hq.1 (Or.inl ⟨v, hq.2, h2.2⟩) hR hi hc (Nat.le_of_ble_eq_true h2.1.2) hok.head (fun H' locs' hR' => kk ad H' locs' lsR cells slots hR' same hl hok.tail.tail hcc hss)
        · cases hs
    · cases hs
  | 22 =>
    intro hq hs
    replace hs : x_putz a b pc ls st h = some (f', h') := hs
    replace hq : (ck_field y pc true a b sw && ck_putZ y a b sw) = true := hq
    rw [Bool.and_eq_true] at hq
    unfold x_putz at hs
    split at hs
    · rename_i w i r
      cases h1 : Nat.blt i h.2.1 with
      | false => rw [h1, cond_false] at hs; cases hs
      | true =>
        rw [h1, cond_true] at hs
        have hi : i < h.2.1 := Nat.le_of_ble_eq_true h1
        split at hs
        · rename_i ci fs hc
          cases h2 : Nat.beq ci a && Nat.blt b fs.length with
          | false => rw [h2, cond_false] at hs; cases hs
          | true =>
            rw [h2, cond_true] at hs
            simp only [Bool.and_eq_true] at h2
            have h3 := Nat.eq_of_beq_eq_true h2.1
            subst h3
            split at hs
            · rename_i h01
              cases hs
              exact p_put X (v := .int w) hq.1 (Or.inr ⟨hq.2, h01.imp (fun e => by rw [e]) (fun e => by rw [e])⟩) hR hi hc (Nat.le_of_ble_eq_true h2.2) trivial (fun H' locs' hR' => kk ad H' locs' lsR cells slots hR' same hl hok.tail.tail hcc hss)
            · cases hs
        · cases hs
    · cases hs
  | 23 =>
    intro hq hs
    replace hs : x_ald G a pc ls st h = some (f', h') := hs
    unfold x_ald at hs
    split at hs
    · split at hs
      · rename_i w hw
        cases hs
        exact p_ald X hq hR hw (kk ad H locs lsR cells slots hR same hl (hok.tail.tail.cons (am_ald_ok hR.2.2.2.1 hw)) hcc hss)
      · cases hs
    · cases hs
  | 24 =>
    intro hq hs
    replace hs : x_ast a pc ls st h = some (f', h') := hs
    unfold x_ast at hs
    split at hs
    · split at hs
      · rename_i h2 hw
        cases hs
        have e2 := am_ast_eq hw
        refine p_ast X hq hR hw (fun H' locs' hR' => kk ad H' locs' lsR cells slots hR' same hl ?_ (by rw [e2]; exact hcc) (by rw [e2]; exact hss))
        rw [e2]; exact hok.tail.tail.tail
      · cases hs
    · cases hs
  | 25 =>
    intro hq hs
    replace hs : x_len G pc ls st h = some (f', h') := hs
    unfold x_len at hs
    split at hs
    · rename_i r t
      cases h0 : Nat.ble am_T0 r with
      | true =>
        rw [h0, cond_true] at hs
        cases h1 : Nat.blt (r - am_T0) 6 with
        | false => rw [h1, cond_false] at hs; cases hs
        | true =>
          rw [h1, cond_true] at hs
          cases hs
          have h6 : r - am_T0 < 6 := Nat.le_of_ble_eq_true h1
          have er : r = am_T0 + (r - am_T0) := (Nat.add_sub_cancel' (Nat.le_of_ble_eq_true h0)).symm
          have := p_tlen X (of_decide_eq_true hq) hR h6 (kk ad H locs lsR cells slots hR same hl (hok.tail.cons trivial) hcc hss)
          rw [← er] at this
          exact this
      | false =>
        rw [h0, cond_false] at hs
        cases h1 : Nat.blt r h.2.1 with
        | false => rw [h1, cond_false] at hs; cases hs
        | true =>
          rw [h1, cond_true] at hs
          split at hs
          · rename_i k n f hc
            cases h2 : Nat.ble k 3 with
            | false => rw [h2, cond_false] at hs; cases hs
            | true =>
              rw [h2, cond_true] at hs
              cases hs
              exact p_alen X (of_decide_eq_true hq) hR (Nat.le_of_ble_eq_true h1) hc (Nat.le_of_ble_eq_true h2) (kk ad H locs lsR cells slots hR same hl (hok.tail.cons trivial) hcc hss)
          · cases hs
    · cases hs
  | 26 =>
    intro hq hs
    replace hs : x_new G a pc ls st h = some (f', h') := hs
    unfold x_new at hs
    split at hs
    · rename_i h2 hw
      cases hs
      obtain ⟨hn, e2⟩ := am_new_eq hw
      have e3 : h'.2.1 = h.2.1 + 1 := by rw [e2]
      have e4 : h'.2.2.1 = h.2.2.1 + 1 := by rw [e2]
      have e5 : h'.2.2.2 = h.2.2.2 + (G.2.2.1 a).length := by rw [e2]
      refine p_new X hq hR hw (by omega) (by omega) (fun q H' hR' => ?_)
      have := kk (va_up ad h.2.1 q) H' locs lsR (cells + 1) (slots + (G.2.2.1 a).length) hR' (fun i hi => va_up_ne ad q (Nat.ne_of_lt hi)) (by rw [hok.loc hn]; exact hl) (by rw [e3]; exact (hok.up (Nat.le_succ _)).cons (Or.inl (Nat.lt_succ_self _))) (by omega) (by omega)
      rw [show (Value.ref h.2.1 :: st).map (am_v (va_up ad h.2.1 q)) = .ref q :: st.map (am_v ad) by rw [List.map_cons, hok.stk hn]; simp [am_v, va_up]] at this
      exact this
    · cases hs
  | 27 =>
    intro hq hs
    replace hs : x_newa a b pc ls st h = some (f', h') := hs
    unfold x_newa at hs
    split at hs
    · rename_i n r
      split at hs
      · cases hs
      · rename_i hn0
        cases h1 : Nat.ble n.toNatClampNeg 1000000 with
        | false => rw [h1, cond_false] at hs; cases hs
        | true =>
          rw [h1, cond_true] at hs
          split at hs
          · rename_i h2 hw
            cases hs
            obtain ⟨hn, e2⟩ := am_new_eq hw
            have e3 : h'.2.1 = h.2.1 + 1 := by rw [e2]
            have e4 : h'.2.2.1 = h.2.2.1 + 1 := by rw [e2]
            have e5 : h'.2.2.2 = h.2.2.2 + n.toNatClampNeg := by rw [e2]
            refine p_newa X hq hR hn0 (Nat.le_of_ble_eq_true h1) hw (by omega) (by omega) (fun q H' hR' => ?_)
            have := kk (va_up ad h.2.1 q) H' locs lsR (cells + 1) (slots + n.toNatClampNeg) hR' (fun i hi => va_up_ne ad q (Nat.ne_of_lt hi)) (by rw [hok.loc hn]; exact hl) (by rw [e3]; exact (hok.tail.up (Nat.le_succ _)).cons (Or.inl (Nat.lt_succ_self _))) (by omega) (by omega)
            rw [show (Value.ref h.2.1 :: r).map (am_v (va_up ad h.2.1 q)) = .ref q :: r.map (am_v ad) by rw [List.map_cons, hok.tail.stk hn]; simp [am_v, va_up]] at this
            exact this
          · cases hs
    · cases hs
  | 28 =>
    intro hq hs
    replace hs : x_newa a b pc ls st h = some (f', h') := hs
    unfold x_newa at hs
    split at hs
    · rename_i n r
      split at hs
      · cases hs
      · rename_i hn0
        cases h1 : Nat.ble n.toNatClampNeg 1000000 with
        | false => rw [h1, cond_false] at hs; cases hs
        | true =>
          rw [h1, cond_true] at hs
          split at hs
          · rename_i h2 hw
            cases hs
            obtain ⟨hn, e2⟩ := am_new_eq hw
            have e3 : h'.2.1 = h.2.1 + 1 := by rw [e2]
            have e4 : h'.2.2.1 = h.2.2.1 + 1 := by rw [e2]
            have e5 : h'.2.2.2 = h.2.2.2 + n.toNatClampNeg := by rw [e2]
            refine p_newq X hq hR hn0 (Nat.le_of_ble_eq_true h1) hw (by omega) (by omega) (fun q H' hR' => ?_)
            have := kk (va_up ad h.2.1 q) H' locs lsR (cells + 1) (slots + n.toNatClampNeg) hR' (fun i hi => va_up_ne ad q (Nat.ne_of_lt hi)) (by rw [hok.loc hn]; exact hl) (by rw [e3]; exact (hok.tail.up (Nat.le_succ _)).cons (Or.inl (Nat.lt_succ_self _))) (by omega) (by omega)
            rw [show (Value.ref h.2.1 :: r).map (am_v (va_up ad h.2.1 q)) = .ref q :: r.map (am_v ad) by rw [List.map_cons, hok.tail.stk hn]; simp [am_v, va_up]] at this
            exact this
          · cases hs
    · cases hs
  | 29 =>
    intro hq hs
    replace hs : x_astq a b pc ls st h = some (f', h') := hs
    replace hq : (decide (a = 3) && decide (b = 5) && decide (decode (gB y) pc = .ok (.aastore, 1))) = true := hq
    simp only [Bool.and_eq_true, decide_eq_true_eq] at hq
    obtain ⟨⟨rfl, rfl⟩, hd⟩ := hq
    unfold x_astq at hs
    split at hs
    · rename_i w i r t
      cases h1 : Nat.blt r h.2.1 && Nat.blt w h.2.1 with
      | false => rw [h1, cond_false] at hs; cases hs
      | true =>
        rw [h1, cond_true] at hs
        rw [Bool.and_eq_true] at h1
        split at hs
        · rename_i k n f ci fs hc hc2
          cases h2 : Nat.beq k 3 && Nat.beq ci 5 with
          | false => rw [h2, cond_false] at hs; cases hs
          | true =>
            rw [h2, cond_true] at hs
            rw [Bool.and_eq_true] at h2
            have h3 := Nat.eq_of_beq_eq_true h2.1
            subst h3
            have h4 := Nat.eq_of_beq_eq_true h2.2
            subst h4
            split at hs
            · cases hs
            · rename_i hi
              cases hs
              exact p_astq X hd hR (Nat.le_of_ble_eq_true h1.1) (Nat.le_of_ble_eq_true h1.2) hc hc2 hi (fun H' locs' hR' => kk ad H' locs' lsR cells slots hR' same hl hok.tail.tail.tail hcc hss)
        · cases hs
    · cases hs
  | 30 =>
    intro hq hs
    replace hs : x_max pc ls st h = some (f', h') := hs
    unfold x_max at hs
    split at hs
    · rename_i w u r
      cases h1 : Nat.ble (am_wt r) 8 with
      | false => rw [h1, cond_false] at hs; cases hs
      | true =>
        rw [h1, cond_true] at hs
        cases hs
        exact p_max X hq hl.1 (by rw [am_wt_map]; exact Nat.le_of_ble_eq_true h1) hfr hlo (by omega) (by omega) (kk ad H locs lsR cells slots hR same hl (hok.tail.tail.cons trivial) hcc hss)
    · cases hs
  | 31 =>
    intro hq hs
    replace hs : x_oi pc ls st h = some (f', h') := hs
    unfold x_oi at hs
    split at hs
    · rename_i w r
      cases h1 : Nat.ble (am_wt r) 8 with
      | false => rw [h1, cond_false] at hs; cases hs
      | true =>
        rw [h1, cond_true] at hs
        cases hs
        exact p_oi X hq hl.1 (by rw [am_wt_map]; exact Nat.le_of_ble_eq_true h1) hfr hlo (kk ad H locs lsR cells slots hR same hl hok.tail hcc hss)
    · cases hs
  | 32 =>
    intro hq hs
    replace hs : x_copy pc ls st h = some (f', h') := hs
    unfold x_copy at hs
    split at hs
    · rename_i n dp a1 sp b1 r
      cases h1 : Nat.blt a1 h.2.1 && Nat.blt b1 h.2.1 && Nat.ble (am_wt r) 8 with
      | false => rw [h1, cond_false] at hs; cases hs
      | true =>
        rw [h1, cond_true] at hs
        simp only [Bool.and_eq_true] at h1
        split at hs
        · rename_i k0 n0 f0 k1 n1 g0 hcq0 hcq1
          cases h2 : Nat.beq k0 1 && Nat.beq k1 1 with
          | false => rw [h2, cond_false] at hs; cases hs
          | true =>
            rw [h2, cond_true] at hs
            rw [Bool.and_eq_true] at h2
            have h3 := Nat.eq_of_beq_eq_true h2.1
            subst h3
            have h4 := Nat.eq_of_beq_eq_true h2.2
            subst h4
            split at hs
            · cases hs
            · rename_i hin
              cases hs
              exact p_copy X hq hR hl.1 (Nat.le_of_ble_eq_true h1.1.1) (Nat.le_of_ble_eq_true h1.1.2) hcq0 hcq1 (by rw [am_wt_map]; exact Nat.le_of_ble_eq_true h1.2) hfr hlo hin (fun H' locs' hR' => kk ad H' locs' lsR cells slots hR' same hl hok.tail.tail.tail.tail.tail hcc hss)
        · cases hs
    · cases hs
  | n + 33 => intro hq hs; exact absurd hq Bool.false_ne_true
end STEP1
