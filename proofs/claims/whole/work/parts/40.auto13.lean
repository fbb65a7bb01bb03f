section AUTO
variable {L : Nat} {xs : Nat → Int32} {d : Nat} {P : am_R → am_H → Prop}
def f_Memory_wipe (w1 : Nat) (I : MI) (J : MJ) : M2 Unit := oc (f_Sh_zeroLongs (20 + 21 * w1) 13 I J) (fun v1 I1 J1 => oc (f_Sh_zeroLongs (21 + 21 * w1) 13 I1 J1) (fun v2 I2 J2 => oc (f_Sh_zeroLongs (22 + 21 * w1) 128 I2 J2) (fun v3 I3 J3 => pl (va_up I3 (19 + 21 * w1) (upd (I3 (19 + 21 * w1)) 5 0)) (fun I4 => pl (va_up I4 (19 + 21 * w1) (upd (I4 (19 + 21 * w1)) 6 0)) (fun I5 => some ((), I5, J3))))))
theorem E_Memory_wipe {w1 : Nat} {X : MX} {I : MI} {J : MJ} {v : Unit} {I' : MI} {J' : MJ} (hw_w1 : w1 < 4) (hb : f_Memory_wipe w1 I J = some (v, I', J')) (K : P (.inl (none)) (hX X I' J')) : am_E (gG L xs) (d + 1) m_Memory_wipe (0, lv_args 0 [.ref (19 + 21 * w1)], []) (hX X I J) P := by
  unfold f_Memory_wipe at hb
  refine e_k 1 (f' := (1, [(0, .ref (19 + 21 * w1))], [.ref (19 + 21 * w1)])) rfl ?_
  refine r_getr rfl (x_ltp hw_w1 (by decide)) (sS_p1 hw_w1) rfl ?_
  obtain ⟨v1, I1, J1, h1, hb⟩ := oc_call hb
  refine r_cs (z := m_Sh_zeroLongs) (As := [.ref (20 + 21 * w1)]) (rest := []) rfl rfl rfl rfl rfl rfl (E_Sh_zeroLongs ⟨(x_ltp hw_w1 (by decide)), (x_t0 hw_w1 (by decide)), (sS_p2 hw_w1)⟩ h1 ⟨_, rfl, ?_⟩)
  refine e_k 1 (f' := (8, [(0, .ref (19 + 21 * w1))], [.ref (19 + 21 * w1)])) rfl ?_
  refine r_getr rfl (x_ltp hw_w1 (by decide)) (sS_p1 hw_w1) rfl ?_
  obtain ⟨v2, I2, J2, h2, hb⟩ := oc_call hb
  refine r_cs (z := m_Sh_zeroLongs) (As := [.ref (21 + 21 * w1)]) (rest := []) rfl rfl rfl rfl rfl rfl (E_Sh_zeroLongs ⟨(x_ltp hw_w1 (by decide)), (x_t0 hw_w1 (by decide)), (sS_p3 hw_w1)⟩ h2 ⟨_, rfl, ?_⟩)
  refine e_k 1 (f' := (15, [(0, .ref (19 + 21 * w1))], [.ref (19 + 21 * w1)])) rfl ?_
  refine r_getr rfl (x_ltp hw_w1 (by decide)) (sS_p1 hw_w1) rfl ?_
  obtain ⟨v3, I3, J3, h3, hb⟩ := oc_call hb
  refine r_cs (z := m_Sh_zeroLongs) (As := [.ref (22 + 21 * w1)]) (rest := []) rfl rfl rfl rfl rfl rfl (E_Sh_zeroLongs ⟨(x_ltp hw_w1 (by decide)), (x_t0 hw_w1 (by decide)), (sS_p4 hw_w1)⟩ h3 ⟨_, rfl, ?_⟩)
  refine e_k 2 (f' := (23, [(0, .ref (19 + 21 * w1))], [.int 0, .ref (19 + 21 * w1)])) rfl ?_
  obtain ⟨I4, eI4, hb⟩ := p_nm hb
  refine r_puti' rfl (x_ltp hw_w1 (by decide)) (sS_p1 hw_w1) rfl eI4 ?_
  refine e_k 2 (f' := (28, [(0, .ref (19 + 21 * w1))], [.int 0, .ref (19 + 21 * w1)])) rfl ?_
  obtain ⟨I5, eI5, hb⟩ := p_nm hb
  refine r_puti' rfl (x_ltp hw_w1 (by decide)) (sS_p1 hw_w1) rfl eI5 ?_
  obtain ⟨rfl, rfl, rfl⟩ := s_inj hb
  exact e_r rfl rfl K
def f_Memory_push (w1 : Nat) (p2 : Int64) (I : MI) (J : MJ) : M2 Unit := if (I (19 + 21 * w1) 5) < 0 then (some ((), I, J)) else (if (nI 64) ≤ (I (19 + 21 * w1) 5) then (some ((), I, J)) else (if (I (19 + 21 * w1) 5) < 0 ∨ 64 ≤ Int32.toNatClampNeg (I (19 + 21 * w1) 5) then none else (pl (va_up J (23 + 21 * w1) (vp_updL (J (23 + 21 * w1)) (Int32.toNatClampNeg (I (19 + 21 * w1) 5)) p2)) (fun J4 => pl (va_up I (19 + 21 * w1) (upd (I (19 + 21 * w1)) 5 ((I (19 + 21 * w1) 5) + 1))) (fun I5 => some ((), I5, J4))))))
theorem E_Memory_push {w1 : Nat} {p2 : Int64} {X : MX} {I : MI} {J : MJ} {v : Unit} {I' : MI} {J' : MJ} (hw_w1 : w1 < 4) (hb : f_Memory_push w1 p2 I J = some (v, I', J')) (K : P (.inl (none)) (hX X I' J')) : am_E (gG L xs) d m_Memory_push (0, lv_args 0 [.ref (19 + 21 * w1), .long p2], []) (hX X I J) P := by
  unfold f_Memory_push at hb
  refine e_k 1 (f' := (1, [(0, .ref (19 + 21 * w1)), (1, .long p2)], [.ref (19 + 21 * w1)])) rfl ?_
  refine r_geti rfl (x_ltp hw_w1 (by decide)) (sS_p1 hw_w1) rfl ?_
  refine e_k 1 (f' := (if (I (19 + 21 * w1) 5) < 0 then 39 else 7, [(0, .ref (19 + 21 * w1)), (1, .long p2)], [])) rfl ?_
  refine e_if (fun c1 => ?_) (fun c1 => ?_)
  · replace hb := i_pos c1 hb
    obtain ⟨rfl, rfl, rfl⟩ := s_inj hb
    exact e_r rfl rfl K
  · replace hb := i_neg c1 hb
    refine e_k 1 (f' := (8, [(0, .ref (19 + 21 * w1)), (1, .long p2)], [.ref (19 + 21 * w1)])) rfl ?_
    refine r_geti rfl (x_ltp hw_w1 (by decide)) (sS_p1 hw_w1) rfl ?_
    refine e_k 1 (f' := (12, [(0, .ref (19 + 21 * w1)), (1, .long p2)], [.ref (19 + 21 * w1), .int (I (19 + 21 * w1) 5)])) rfl ?_
    refine r_getr rfl (x_ltp hw_w1 (by decide)) (sS_p1 hw_w1) rfl ?_
    refine r_alen rfl (x_t0 hw_w1 (by decide)) (x_ltp hw_w1 (by decide)) (sS_p5 hw_w1) rfl ?_
    refine e_k 1 (f' := (if (nI 64) ≤ (I (19 + 21 * w1) 5) then 39 else 19, [(0, .ref (19 + 21 * w1)), (1, .long p2)], [])) rfl ?_
    refine e_if (fun c2 => ?_) (fun c2 => ?_)
    · replace hb := i_pos c2 hb
      obtain ⟨rfl, rfl, rfl⟩ := s_inj hb
      exact e_r rfl rfl K
    · replace hb := i_neg c2 hb
      refine e_k 1 (f' := (20, [(0, .ref (19 + 21 * w1)), (1, .long p2)], [.ref (19 + 21 * w1)])) rfl ?_
      refine r_getr rfl (x_ltp hw_w1 (by decide)) (sS_p1 hw_w1) rfl ?_
      refine e_k 1 (f' := (24, [(0, .ref (19 + 21 * w1)), (1, .long p2)], [.ref (19 + 21 * w1), .ref (23 + 21 * w1)])) rfl ?_
      refine r_geti rfl (x_ltp hw_w1 (by decide)) (sS_p1 hw_w1) rfl ?_
      refine e_k 1 (f' := (28, [(0, .ref (19 + 21 * w1)), (1, .long p2)], [.long p2, .int (I (19 + 21 * w1) 5), .ref (23 + 21 * w1)])) rfl ?_
      obtain ⟨o3, hb⟩ := ob_in hb
      obtain ⟨J4, eJ4, hb⟩ := p_nm hb
      refine r_last' rfl (x_ltp hw_w1 (by decide)) (sS_p5 hw_w1) o3 eJ4 ?_
      refine e_k 2 (f' := (31, [(0, .ref (19 + 21 * w1)), (1, .long p2)], [.ref (19 + 21 * w1), .ref (19 + 21 * w1)])) rfl ?_
      refine r_geti rfl (x_ltp hw_w1 (by decide)) (sS_p1 hw_w1) rfl ?_
      refine e_k 2 (f' := (36, [(0, .ref (19 + 21 * w1)), (1, .long p2)], [.int ((I (19 + 21 * w1) 5) + 1), .ref (19 + 21 * w1)])) rfl ?_
      obtain ⟨I5, eI5, hb⟩ := p_nm hb
      refine r_puti' rfl (x_ltp hw_w1 (by decide)) (sS_p1 hw_w1) rfl eI5 ?_
      obtain ⟨rfl, rfl, rfl⟩ := s_inj hb
      exact e_r rfl rfl K
def f_Memory_pop (w1 : Nat) (I : MI) (J : MJ) : M2 Int64 := if (I (19 + 21 * w1) 5) ≤ 0 then (some (0, I, J)) else (if (I (19 + 21 * w1) 5) ≤ (nI 64) then (pl (va_up I (19 + 21 * w1) (upd (I (19 + 21 * w1)) 5 ((I (19 + 21 * w1) 5) - 1))) (fun I3 => if (I3 (19 + 21 * w1) 5) < 0 ∨ 64 ≤ Int32.toNatClampNeg (I3 (19 + 21 * w1) 5) then none else (some (J (23 + 21 * w1) (Int32.toNatClampNeg (I3 (19 + 21 * w1) 5)), I3, J)))) else (some (0, I, J)))
theorem E_Memory_pop {w1 : Nat} {X : MX} {I : MI} {J : MJ} {v : Int64} {I' : MI} {J' : MJ} (hw_w1 : w1 < 4) (hb : f_Memory_pop w1 I J = some (v, I', J')) (K : P (.inl (some (.long v))) (hX X I' J')) : am_E (gG L xs) d m_Memory_pop (0, lv_args 0 [.ref (19 + 21 * w1)], []) (hX X I J) P := by
  unfold f_Memory_pop at hb
  refine e_k 1 (f' := (1, [(0, .ref (19 + 21 * w1))], [.ref (19 + 21 * w1)])) rfl ?_
  refine r_geti rfl (x_ltp hw_w1 (by decide)) (sS_p1 hw_w1) rfl ?_
  refine e_k 1 (f' := (if (I (19 + 21 * w1) 5) ≤ 0 then 19 else 7, [(0, .ref (19 + 21 * w1))], [])) rfl ?_
  refine e_if (fun c1 => ?_) (fun c1 => ?_)
  · replace hb := i_pos c1 hb
    refine e_k 1 (f' := (20, [(0, .ref (19 + 21 * w1))], [.long 0])) rfl ?_
    obtain ⟨rfl, rfl, rfl⟩ := s_inj hb
    exact e_r rfl rfl K
  · replace hb := i_neg c1 hb
    refine e_k 1 (f' := (8, [(0, .ref (19 + 21 * w1))], [.ref (19 + 21 * w1)])) rfl ?_
    refine r_geti rfl (x_ltp hw_w1 (by decide)) (sS_p1 hw_w1) rfl ?_
    refine e_k 1 (f' := (12, [(0, .ref (19 + 21 * w1))], [.ref (19 + 21 * w1), .int (I (19 + 21 * w1) 5)])) rfl ?_
    refine r_getr rfl (x_ltp hw_w1 (by decide)) (sS_p1 hw_w1) rfl ?_
    refine r_alen rfl (x_t0 hw_w1 (by decide)) (x_ltp hw_w1 (by decide)) (sS_p5 hw_w1) rfl ?_
    refine e_k 1 (f' := (if (I (19 + 21 * w1) 5) ≤ (nI 64) then 21 else 19, [(0, .ref (19 + 21 * w1))], [])) rfl ?_
    refine e_if (fun c2 => ?_) (fun c2 => ?_)
    · replace hb := i_pos c2 hb
      refine e_k 2 (f' := (23, [(0, .ref (19 + 21 * w1))], [.ref (19 + 21 * w1), .ref (19 + 21 * w1)])) rfl ?_
      refine r_geti rfl (x_ltp hw_w1 (by decide)) (sS_p1 hw_w1) rfl ?_
      refine e_k 2 (f' := (28, [(0, .ref (19 + 21 * w1))], [.int ((I (19 + 21 * w1) 5) - 1), .ref (19 + 21 * w1)])) rfl ?_
      obtain ⟨I3, eI3, hb⟩ := p_nm hb
      refine r_puti' rfl (x_ltp hw_w1 (by decide)) (sS_p1 hw_w1) rfl eI3 ?_
      refine e_k 1 (f' := (32, [(0, .ref (19 + 21 * w1))], [.ref (19 + 21 * w1)])) rfl ?_
      refine r_getr rfl (x_ltp hw_w1 (by decide)) (sS_p1 hw_w1) rfl ?_
      refine e_k 1 (f' := (36, [(0, .ref (19 + 21 * w1))], [.ref (19 + 21 * w1), .ref (23 + 21 * w1)])) rfl ?_
      refine r_geti rfl (x_ltp hw_w1 (by decide)) (sS_p1 hw_w1) rfl ?_
      obtain ⟨o4, hb⟩ := ob_in hb
      refine r_lald rfl (x_t0 hw_w1 (by decide)) (x_ltp hw_w1 (by decide)) (sS_p5 hw_w1) o4 ?_
      obtain ⟨rfl, rfl, rfl⟩ := s_inj hb
      exact e_r rfl rfl K
    · replace hb := i_neg c2 hb
      refine e_k 1 (f' := (20, [(0, .ref (19 + 21 * w1))], [.long 0])) rfl ?_
      obtain ⟨rfl, rfl, rfl⟩ := s_inj hb
      exact e_r rfl rfl K
def f_Memory_fromTop (w1 : Nat) (p2 : Int32) (I : MI) (J : MJ) : M2 Int64 := oc (f_Sh_read (23 + 21 * w1) 64 ((I (19 + 21 * w1) 5) - p2) I J) (fun v1 I1 J1 => some (v1, I1, J1))
theorem E_Memory_fromTop {w1 : Nat} {p2 : Int32} {X : MX} {I : MI} {J : MJ} {v : Int64} {I' : MI} {J' : MJ} (hw_w1 : w1 < 4) (hb : f_Memory_fromTop w1 p2 I J = some (v, I', J')) (K : P (.inl (some (.long v))) (hX X I' J')) : am_E (gG L xs) (d + 1) m_Memory_fromTop (0, lv_args 0 [.ref (19 + 21 * w1), .int p2], []) (hX X I J) P := by
  unfold f_Memory_fromTop at hb
  refine e_k 1 (f' := (1, [(0, .ref (19 + 21 * w1)), (1, .int p2)], [.ref (19 + 21 * w1)])) rfl ?_
  refine r_getr rfl (x_ltp hw_w1 (by decide)) (sS_p1 hw_w1) rfl ?_
  refine e_k 1 (f' := (5, [(0, .ref (19 + 21 * w1)), (1, .int p2)], [.ref (19 + 21 * w1), .ref (23 + 21 * w1)])) rfl ?_
  refine r_geti rfl (x_ltp hw_w1 (by decide)) (sS_p1 hw_w1) rfl ?_
  refine e_k 2 (f' := (10, [(0, .ref (19 + 21 * w1)), (1, .int p2)], [.int ((I (19 + 21 * w1) 5) - p2), .ref (23 + 21 * w1)])) rfl ?_
  obtain ⟨v1, I1, J1, h1, hb⟩ := oc_call hb
  refine r_cs (z := m_Sh_read) (As := [.ref (23 + 21 * w1), .int ((I (19 + 21 * w1) 5) - p2)]) (rest := []) rfl rfl rfl rfl rfl rfl (E_Sh_read ⟨(x_ltp hw_w1 (by decide)), (x_t0 hw_w1 (by decide)), (sS_p5 hw_w1)⟩ h1 ⟨_, rfl, ?_⟩)
  obtain ⟨rfl, rfl, rfl⟩ := s_inj hb
  exact e_r rfl rfl K
def f_Memory_cell (w1 : Nat) (p2 : Int32) (p3 : Int64) (I : MI) (J : MJ) : M2 Int64 := if (lg_cmp p3 0) < 0 then (some (0, I, J)) else (if 0 ≤ (lg_cmp p3 16) then (some (0, I, J)) else (oc (f_Sh_read (22 + 21 * w1) 128 ((16 * p2) + (Int64.toInt32 p3)) I J) (fun v3 I3 J3 => some (v3, I3, J3))))
theorem E_Memory_cell {w1 : Nat} {p2 : Int32} {p3 : Int64} {X : MX} {I : MI} {J : MJ} {v : Int64} {I' : MI} {J' : MJ} (hw_w1 : w1 < 4) (hb : f_Memory_cell w1 p2 p3 I J = some (v, I', J')) (K : P (.inl (some (.long v))) (hX X I' J')) : am_E (gG L xs) (d + 1) m_Memory_cell (0, lv_args 0 [.ref (19 + 21 * w1), .int p2, .long p3], []) (hX X I J) P := by
  unfold f_Memory_cell at hb
  refine e_k 4 (f' := (if (lg_cmp p3 0) < 0 then 31 else 6, [(0, .ref (19 + 21 * w1)), (1, .int p2), (2, .long p3)], [])) rfl ?_
  refine e_if (fun c1 => ?_) (fun c1 => ?_)
  · replace hb := i_pos c1 hb
    refine e_k 1 (f' := (32, [(0, .ref (19 + 21 * w1)), (1, .int p2), (2, .long p3)], [.long 0])) rfl ?_
    obtain ⟨rfl, rfl, rfl⟩ := s_inj hb
    exact e_r rfl rfl K
  · replace hb := i_neg c1 hb
    refine e_k 4 (f' := (if 0 ≤ (lg_cmp p3 16) then 31 else 14, [(0, .ref (19 + 21 * w1)), (1, .int p2), (2, .long p3)], [])) rfl ?_
    refine e_if (fun c2 => ?_) (fun c2 => ?_)
    · replace hb := i_pos c2 hb
      refine e_k 1 (f' := (32, [(0, .ref (19 + 21 * w1)), (1, .int p2), (2, .long p3)], [.long 0])) rfl ?_
      obtain ⟨rfl, rfl, rfl⟩ := s_inj hb
      exact e_r rfl rfl K
    · replace hb := i_neg c2 hb
      refine e_k 1 (f' := (15, [(0, .ref (19 + 21 * w1)), (1, .int p2), (2, .long p3)], [.ref (19 + 21 * w1)])) rfl ?_
      refine r_getr rfl (x_ltp hw_w1 (by decide)) (sS_p1 hw_w1) rfl ?_
      refine e_k 6 (f' := (25, [(0, .ref (19 + 21 * w1)), (1, .int p2), (2, .long p3)], [.int ((16 * p2) + (Int64.toInt32 p3)), .ref (22 + 21 * w1)])) rfl ?_
      obtain ⟨v3, I3, J3, h3, hb⟩ := oc_call hb
      refine r_cs (z := m_Sh_read) (As := [.ref (22 + 21 * w1), .int ((16 * p2) + (Int64.toInt32 p3))]) (rest := []) rfl rfl rfl rfl rfl rfl (E_Sh_read ⟨(x_ltp hw_w1 (by decide)), (x_t0 hw_w1 (by decide)), (sS_p4 hw_w1)⟩ h3 ⟨_, rfl, ?_⟩)
      refine e_k 1 (f' := (32, [(0, .ref (19 + 21 * w1)), (1, .int p2), (2, .long p3)], [.long v3])) rfl ?_
      obtain ⟨rfl, rfl, rfl⟩ := s_inj hb
      exact e_r rfl rfl K
def f_Memory_setCell (w1 : Nat) (p2 : Int32) (p3 : Int64) (p4 : Int64) (I : MI) (J : MJ) : M2 Unit := if (lg_cmp p3 0) < 0 then (some ((), I, J)) else (if 0 ≤ (lg_cmp p3 16) then (some ((), I, J)) else (oc (f_Sh_write (22 + 21 * w1) 128 ((16 * p2) + (Int64.toInt32 p3)) p4 I J) (fun v3 I3 J3 => some ((), I3, J3))))
theorem E_Memory_setCell {w1 : Nat} {p2 : Int32} {p3 : Int64} {p4 : Int64} {X : MX} {I : MI} {J : MJ} {v : Unit} {I' : MI} {J' : MJ} (hw_w1 : w1 < 4) (hb : f_Memory_setCell w1 p2 p3 p4 I J = some (v, I', J')) (K : P (.inl (none)) (hX X I' J')) : am_E (gG L xs) (d + 1) m_Memory_setCell (0, lv_args 0 [.ref (19 + 21 * w1), .int p2, .long p3, .long p4], []) (hX X I J) P := by
  unfold f_Memory_setCell at hb
  refine e_k 4 (f' := (if (lg_cmp p3 0) < 0 then 30 else 6, [(0, .ref (19 + 21 * w1)), (1, .int p2), (2, .long p3), (4, .long p4)], [])) rfl ?_
  refine e_if (fun c1 => ?_) (fun c1 => ?_)
  · replace hb := i_pos c1 hb
    obtain ⟨rfl, rfl, rfl⟩ := s_inj hb
    exact e_r rfl rfl K
  · replace hb := i_neg c1 hb
    refine e_k 4 (f' := (if 0 ≤ (lg_cmp p3 16) then 30 else 14, [(0, .ref (19 + 21 * w1)), (1, .int p2), (2, .long p3), (4, .long p4)], [])) rfl ?_
    refine e_if (fun c2 => ?_) (fun c2 => ?_)
    · replace hb := i_pos c2 hb
      obtain ⟨rfl, rfl, rfl⟩ := s_inj hb
      exact e_r rfl rfl K
    · replace hb := i_neg c2 hb
      refine e_k 1 (f' := (15, [(0, .ref (19 + 21 * w1)), (1, .int p2), (2, .long p3), (4, .long p4)], [.ref (19 + 21 * w1)])) rfl ?_
      refine r_getr rfl (x_ltp hw_w1 (by decide)) (sS_p1 hw_w1) rfl ?_
      refine e_k 7 (f' := (27, [(0, .ref (19 + 21 * w1)), (1, .int p2), (2, .long p3), (4, .long p4)], [.long p4, .int ((16 * p2) + (Int64.toInt32 p3)), .ref (22 + 21 * w1)])) rfl ?_
      obtain ⟨v3, I3, J3, h3, hb⟩ := oc_call hb
      refine r_cs (z := m_Sh_write) (As := [.ref (22 + 21 * w1), .int ((16 * p2) + (Int64.toInt32 p3)), .long p4]) (rest := []) rfl rfl rfl rfl rfl rfl (E_Sh_write ⟨(x_ltp hw_w1 (by decide)), (x_t0 hw_w1 (by decide)), (sS_p4 hw_w1)⟩ h3 ⟨_, rfl, ?_⟩)
      obtain ⟨rfl, rfl, rfl⟩ := s_inj hb
      exact e_r rfl rfl K
def f_Memory_keep (w1 : Nat) (p2 : Int32) (I : MI) (J : MJ) : M2 Unit := if (I (19 + 21 * w1) 6) < 0 then (some ((), I, J)) else (if (nI 16) ≤ (I (19 + 21 * w1) 6) then (some ((), I, J)) else (if (I (19 + 21 * w1) 6) < 0 ∨ 16 ≤ Int32.toNatClampNeg (I (19 + 21 * w1) 6) then none else (pl (va_up I (24 + 21 * w1) (upd (I (24 + 21 * w1)) (Int32.toNatClampNeg (I (19 + 21 * w1) 6)) p2)) (fun I4 => pl (va_up I4 (19 + 21 * w1) (upd (I4 (19 + 21 * w1)) 6 ((I4 (19 + 21 * w1) 6) + 1))) (fun I5 => some ((), I5, J))))))
theorem E_Memory_keep {w1 : Nat} {p2 : Int32} {X : MX} {I : MI} {J : MJ} {v : Unit} {I' : MI} {J' : MJ} (hw_w1 : w1 < 4) (hb : f_Memory_keep w1 p2 I J = some (v, I', J')) (K : P (.inl (none)) (hX X I' J')) : am_E (gG L xs) d m_Memory_keep (0, lv_args 0 [.ref (19 + 21 * w1), .int p2], []) (hX X I J) P := by
  unfold f_Memory_keep at hb
  refine e_k 1 (f' := (1, [(0, .ref (19 + 21 * w1)), (1, .int p2)], [.ref (19 + 21 * w1)])) rfl ?_
  refine r_geti rfl (x_ltp hw_w1 (by decide)) (sS_p1 hw_w1) rfl ?_
  refine e_k 1 (f' := (if (I (19 + 21 * w1) 6) < 0 then 39 else 7, [(0, .ref (19 + 21 * w1)), (1, .int p2)], [])) rfl ?_
  refine e_if (fun c1 => ?_) (fun c1 => ?_)
  · replace hb := i_pos c1 hb
    obtain ⟨rfl, rfl, rfl⟩ := s_inj hb
    exact e_r rfl rfl K
  · replace hb := i_neg c1 hb
    refine e_k 1 (f' := (8, [(0, .ref (19 + 21 * w1)), (1, .int p2)], [.ref (19 + 21 * w1)])) rfl ?_
    refine r_geti rfl (x_ltp hw_w1 (by decide)) (sS_p1 hw_w1) rfl ?_
    refine e_k 1 (f' := (12, [(0, .ref (19 + 21 * w1)), (1, .int p2)], [.ref (19 + 21 * w1), .int (I (19 + 21 * w1) 6)])) rfl ?_
    refine r_getr rfl (x_ltp hw_w1 (by decide)) (sS_p1 hw_w1) rfl ?_
    refine r_alen rfl (x_t0 hw_w1 (by decide)) (x_ltp hw_w1 (by decide)) (sS_p6 hw_w1) rfl ?_
    refine e_k 1 (f' := (if (nI 16) ≤ (I (19 + 21 * w1) 6) then 39 else 19, [(0, .ref (19 + 21 * w1)), (1, .int p2)], [])) rfl ?_
    refine e_if (fun c2 => ?_) (fun c2 => ?_)
    · replace hb := i_pos c2 hb
      obtain ⟨rfl, rfl, rfl⟩ := s_inj hb
      exact e_r rfl rfl K
    · replace hb := i_neg c2 hb
      refine e_k 1 (f' := (20, [(0, .ref (19 + 21 * w1)), (1, .int p2)], [.ref (19 + 21 * w1)])) rfl ?_
      refine r_getr rfl (x_ltp hw_w1 (by decide)) (sS_p1 hw_w1) rfl ?_
      refine e_k 1 (f' := (24, [(0, .ref (19 + 21 * w1)), (1, .int p2)], [.ref (19 + 21 * w1), .ref (24 + 21 * w1)])) rfl ?_
      refine r_geti rfl (x_ltp hw_w1 (by decide)) (sS_p1 hw_w1) rfl ?_
      refine e_k 1 (f' := (28, [(0, .ref (19 + 21 * w1)), (1, .int p2)], [.int p2, .int (I (19 + 21 * w1) 6), .ref (24 + 21 * w1)])) rfl ?_
      obtain ⟨o3, hb⟩ := ob_in hb
      obtain ⟨I4, eI4, hb⟩ := p_nm hb
      refine r_iast' rfl (x_ltp hw_w1 (by decide)) (sS_p6 hw_w1) o3 eI4 ?_
      refine e_k 2 (f' := (31, [(0, .ref (19 + 21 * w1)), (1, .int p2)], [.ref (19 + 21 * w1), .ref (19 + 21 * w1)])) rfl ?_
      refine r_geti rfl (x_ltp hw_w1 (by decide)) (sS_p1 hw_w1) rfl ?_
      refine e_k 2 (f' := (36, [(0, .ref (19 + 21 * w1)), (1, .int p2)], [.int ((I4 (19 + 21 * w1) 6) + 1), .ref (19 + 21 * w1)])) rfl ?_
      obtain ⟨I5, eI5, hb⟩ := p_nm hb
      refine r_puti' rfl (x_ltp hw_w1 (by decide)) (sS_p1 hw_w1) rfl eI5 ?_
      obtain ⟨rfl, rfl, rfl⟩ := s_inj hb
      exact e_r rfl rfl K
def f_Memory_lastKept (w1 : Nat) (I : MI) (J : MJ) : M2 Int32 := if (I (19 + 21 * w1) 6) ≤ 0 then (some (0, I, J)) else (if (I (19 + 21 * w1) 6) ≤ (nI 16) then (pl (va_up I (19 + 21 * w1) (upd (I (19 + 21 * w1)) 6 ((I (19 + 21 * w1) 6) - 1))) (fun I3 => if (I3 (19 + 21 * w1) 6) < 0 ∨ 16 ≤ Int32.toNatClampNeg (I3 (19 + 21 * w1) 6) then none else (some (I3 (24 + 21 * w1) (Int32.toNatClampNeg (I3 (19 + 21 * w1) 6)), I3, J)))) else (some (0, I, J)))
theorem E_Memory_lastKept {w1 : Nat} {X : MX} {I : MI} {J : MJ} {v : Int32} {I' : MI} {J' : MJ} (hw_w1 : w1 < 4) (hb : f_Memory_lastKept w1 I J = some (v, I', J')) (K : P (.inl (some (.int v))) (hX X I' J')) : am_E (gG L xs) d m_Memory_lastKept (0, lv_args 0 [.ref (19 + 21 * w1)], []) (hX X I J) P := by
  unfold f_Memory_lastKept at hb
  refine e_k 1 (f' := (1, [(0, .ref (19 + 21 * w1))], [.ref (19 + 21 * w1)])) rfl ?_
  refine r_geti rfl (x_ltp hw_w1 (by decide)) (sS_p1 hw_w1) rfl ?_
  refine e_k 1 (f' := (if (I (19 + 21 * w1) 6) ≤ 0 then 19 else 7, [(0, .ref (19 + 21 * w1))], [])) rfl ?_
  refine e_if (fun c1 => ?_) (fun c1 => ?_)
  · replace hb := i_pos c1 hb
    refine e_k 1 (f' := (20, [(0, .ref (19 + 21 * w1))], [.int 0])) rfl ?_
    obtain ⟨rfl, rfl, rfl⟩ := s_inj hb
    exact e_r rfl rfl K
  · replace hb := i_neg c1 hb
    refine e_k 1 (f' := (8, [(0, .ref (19 + 21 * w1))], [.ref (19 + 21 * w1)])) rfl ?_
    refine r_geti rfl (x_ltp hw_w1 (by decide)) (sS_p1 hw_w1) rfl ?_
    refine e_k 1 (f' := (12, [(0, .ref (19 + 21 * w1))], [.ref (19 + 21 * w1), .int (I (19 + 21 * w1) 6)])) rfl ?_
    refine r_getr rfl (x_ltp hw_w1 (by decide)) (sS_p1 hw_w1) rfl ?_
    refine r_alen rfl (x_t0 hw_w1 (by decide)) (x_ltp hw_w1 (by decide)) (sS_p6 hw_w1) rfl ?_
    refine e_k 1 (f' := (if (I (19 + 21 * w1) 6) ≤ (nI 16) then 21 else 19, [(0, .ref (19 + 21 * w1))], [])) rfl ?_
    refine e_if (fun c2 => ?_) (fun c2 => ?_)
    · replace hb := i_pos c2 hb
      refine e_k 2 (f' := (23, [(0, .ref (19 + 21 * w1))], [.ref (19 + 21 * w1), .ref (19 + 21 * w1)])) rfl ?_
      refine r_geti rfl (x_ltp hw_w1 (by decide)) (sS_p1 hw_w1) rfl ?_
      refine e_k 2 (f' := (28, [(0, .ref (19 + 21 * w1))], [.int ((I (19 + 21 * w1) 6) - 1), .ref (19 + 21 * w1)])) rfl ?_
      obtain ⟨I3, eI3, hb⟩ := p_nm hb
      refine r_puti' rfl (x_ltp hw_w1 (by decide)) (sS_p1 hw_w1) rfl eI3 ?_
      refine e_k 1 (f' := (32, [(0, .ref (19 + 21 * w1))], [.ref (19 + 21 * w1)])) rfl ?_
      refine r_getr rfl (x_ltp hw_w1 (by decide)) (sS_p1 hw_w1) rfl ?_
      refine e_k 1 (f' := (36, [(0, .ref (19 + 21 * w1))], [.ref (19 + 21 * w1), .ref (24 + 21 * w1)])) rfl ?_
      refine r_geti rfl (x_ltp hw_w1 (by decide)) (sS_p1 hw_w1) rfl ?_
      obtain ⟨o4, hb⟩ := ob_in hb
      refine r_iald rfl (x_t0 hw_w1 (by decide)) (x_ltp hw_w1 (by decide)) (sS_p6 hw_w1) o4 ?_
      obtain ⟨rfl, rfl, rfl⟩ := s_inj hb
      exact e_r rfl rfl K
    · replace hb := i_neg c2 hb
      refine e_k 1 (f' := (20, [(0, .ref (19 + 21 * w1))], [.int 0])) rfl ?_
      obtain ⟨rfl, rfl, rfl⟩ := s_inj hb
      exact e_r rfl rfl K
def f_Party_tell (w1 : Nat) (p2 : Int32) (I : MI) (J : MJ) : M2 Int32 := if p2 = 0 then (some (I (18 + 21 * w1) 10, I, J)) else (if p2 = 1 then (some (I (18 + 21 * w1) 13, I, J)) else (if p2 = 2 then (some (I (32 + 21 * w1) 5, I, J)) else (if p2 = 3 then (some (I (32 + 21 * w1) 7, I, J)) else (if p2 = 4 then (some (I (18 + 21 * w1) 6, I, J)) else (if p2 = 7 then (some (I (18 + 21 * w1) 12, I, J)) else (if p2 = 8 then (some (I (25 + 21 * w1) 5, I, J)) else (if p2 = 9 then (some (I (18 + 21 * w1) 11, I, J)) else (some ((-1), I, J)))))))))
theorem E_Party_tell {w1 : Nat} {p2 : Int32} {X : MX} {I : MI} {J : MJ} {v : Int32} {I' : MI} {J' : MJ} (hw_w1 : w1 < 4) (hb : f_Party_tell w1 p2 I J = some (v, I', J')) (K : P (.inl (some (.int v))) (hX X I' J')) : am_E (gG L xs) d m_Party_tell (0, lv_args 0 [.ref (18 + 21 * w1), .int p2], []) (hX X I J) P := by
  unfold f_Party_tell at hb
  refine e_k 2 (f' := (am_sw p2 105 [(0, 56), (1, 61), (2, 66), (3, 74), (4, 82), (5, 105), (6, 105), (7, 87), (8, 92), (9, 100)], [(0, .ref (18 + 21 * w1)), (1, .int p2)], [])) rfl ?_
  by_cases c1 : p2 = 0
  · rw [show am_sw p2 105 [(0, 56), (1, 61), (2, 66), (3, 74), (4, 82), (5, 105), (6, 105), (7, 87), (8, 92), (9, 100)] = 56 from by rw [c1]; rfl]
    replace hb := i_pos c1 hb
    refine e_k 1 (f' := (57, [(0, .ref (18 + 21 * w1)), (1, .int p2)], [.ref (18 + 21 * w1)])) rfl ?_
    refine r_geti rfl (x_ltp hw_w1 (by decide)) (sS_p0 hw_w1) rfl ?_
    obtain ⟨rfl, rfl, rfl⟩ := s_inj hb
    exact e_r rfl rfl K
  replace hb := i_neg c1 hb
  by_cases c2 : p2 = 1
  · rw [show am_sw p2 105 [(0, 56), (1, 61), (2, 66), (3, 74), (4, 82), (5, 105), (6, 105), (7, 87), (8, 92), (9, 100)] = 61 from by rw [c2]; rfl]
    replace hb := i_pos c2 hb
    refine e_k 1 (f' := (62, [(0, .ref (18 + 21 * w1)), (1, .int p2)], [.ref (18 + 21 * w1)])) rfl ?_
    refine r_geti rfl (x_ltp hw_w1 (by decide)) (sS_p0 hw_w1) rfl ?_
    obtain ⟨rfl, rfl, rfl⟩ := s_inj hb
    exact e_r rfl rfl K
  replace hb := i_neg c2 hb
  by_cases c3 : p2 = 2
  · rw [show am_sw p2 105 [(0, 56), (1, 61), (2, 66), (3, 74), (4, 82), (5, 105), (6, 105), (7, 87), (8, 92), (9, 100)] = 66 from by rw [c3]; rfl]
    replace hb := i_pos c3 hb
    refine e_k 1 (f' := (67, [(0, .ref (18 + 21 * w1)), (1, .int p2)], [.ref (18 + 21 * w1)])) rfl ?_
    refine r_getr rfl (x_ltp hw_w1 (by decide)) (sS_p0 hw_w1) rfl ?_
    refine r_geti rfl (x_ltp hw_w1 (by decide)) (sS_p14 hw_w1) rfl ?_
    obtain ⟨rfl, rfl, rfl⟩ := s_inj hb
    exact e_r rfl rfl K
  replace hb := i_neg c3 hb
  by_cases c4 : p2 = 3
  · rw [show am_sw p2 105 [(0, 56), (1, 61), (2, 66), (3, 74), (4, 82), (5, 105), (6, 105), (7, 87), (8, 92), (9, 100)] = 74 from by rw [c4]; rfl]
    replace hb := i_pos c4 hb
    refine e_k 1 (f' := (75, [(0, .ref (18 + 21 * w1)), (1, .int p2)], [.ref (18 + 21 * w1)])) rfl ?_
    refine r_getr rfl (x_ltp hw_w1 (by decide)) (sS_p0 hw_w1) rfl ?_
    refine r_geti rfl (x_ltp hw_w1 (by decide)) (sS_p14 hw_w1) rfl ?_
    obtain ⟨rfl, rfl, rfl⟩ := s_inj hb
    exact e_r rfl rfl K
  replace hb := i_neg c4 hb
  by_cases c5 : p2 = 4
  · rw [show am_sw p2 105 [(0, 56), (1, 61), (2, 66), (3, 74), (4, 82), (5, 105), (6, 105), (7, 87), (8, 92), (9, 100)] = 82 from by rw [c5]; rfl]
    replace hb := i_pos c5 hb
    refine e_k 1 (f' := (83, [(0, .ref (18 + 21 * w1)), (1, .int p2)], [.ref (18 + 21 * w1)])) rfl ?_
    refine r_geti rfl (x_ltp hw_w1 (by decide)) (sS_p0 hw_w1) rfl ?_
    obtain ⟨rfl, rfl, rfl⟩ := s_inj hb
    exact e_r rfl rfl K
  replace hb := i_neg c5 hb
  by_cases c6 : p2 = 7
  · rw [show am_sw p2 105 [(0, 56), (1, 61), (2, 66), (3, 74), (4, 82), (5, 105), (6, 105), (7, 87), (8, 92), (9, 100)] = 87 from by rw [c6]; rfl]
    replace hb := i_pos c6 hb
    refine e_k 1 (f' := (88, [(0, .ref (18 + 21 * w1)), (1, .int p2)], [.ref (18 + 21 * w1)])) rfl ?_
    refine r_geti rfl (x_ltp hw_w1 (by decide)) (sS_p0 hw_w1) rfl ?_
    obtain ⟨rfl, rfl, rfl⟩ := s_inj hb
    exact e_r rfl rfl K
  replace hb := i_neg c6 hb
  by_cases c7 : p2 = 8
  · rw [show am_sw p2 105 [(0, 56), (1, 61), (2, 66), (3, 74), (4, 82), (5, 105), (6, 105), (7, 87), (8, 92), (9, 100)] = 92 from by rw [c7]; rfl]
    replace hb := i_pos c7 hb
    refine e_k 1 (f' := (93, [(0, .ref (18 + 21 * w1)), (1, .int p2)], [.ref (18 + 21 * w1)])) rfl ?_
    refine r_getr rfl (x_ltp hw_w1 (by decide)) (sS_p0 hw_w1) rfl ?_
    refine r_geti rfl (x_ltp hw_w1 (by decide)) (sS_p7 hw_w1) rfl ?_
    obtain ⟨rfl, rfl, rfl⟩ := s_inj hb
    exact e_r rfl rfl K
  replace hb := i_neg c7 hb
  by_cases c8 : p2 = 9
  · rw [show am_sw p2 105 [(0, 56), (1, 61), (2, 66), (3, 74), (4, 82), (5, 105), (6, 105), (7, 87), (8, 92), (9, 100)] = 100 from by rw [c8]; rfl]
    replace hb := i_pos c8 hb
    refine e_k 1 (f' := (101, [(0, .ref (18 + 21 * w1)), (1, .int p2)], [.ref (18 + 21 * w1)])) rfl ?_
    refine r_geti rfl (x_ltp hw_w1 (by decide)) (sS_p0 hw_w1) rfl ?_
    obtain ⟨rfl, rfl, rfl⟩ := s_inj hb
    exact e_r rfl rfl K
  replace hb := i_neg c8 hb
  rw [show am_sw p2 105 [(0, 56), (1, 61), (2, 66), (3, 74), (4, 82), (5, 105), (6, 105), (7, 87), (8, 92), (9, 100)] = 105 from (am_swd c1 (am_swd c2 (am_swd c3 (am_swd c4 (am_swd c5 (am_swe (am_swe (am_swd c6 (am_swd c7 (am_swd c8 rfl))))))))))]
  refine e_k 1 (f' := (106, [(0, .ref (18 + 21 * w1)), (1, .int p2)], [.int (-1)])) rfl ?_
  obtain ⟨rfl, rfl, rfl⟩ := s_inj hb
  exact e_r rfl rfl K
def f_Post_wipe_23 (w1 : Nat) : Nat → Int32 → MI → MJ → M2 (Unit)
  | 0, _, _, _ => none
  | fu + 1, l1, I, J => if (nI 4) ≤ l1 then (some ((), I, J)) else (if l1 < 0 ∨ 4 ≤ Int32.toNatClampNeg l1 then none else (pl (va_up I (34 + 21 * w1) (upd (I (34 + 21 * w1)) (Int32.toNatClampNeg l1) (0 &&& 1))) (fun I6 => f_Post_wipe_23 w1 fu (l1 + 1) I6 J)))
theorem E_Post_wipe_23 {X : MX} {w1 : Nat} (hw_w1 : w1 < 4) : ∀ (fu : Nat) {l1 : Int32} {I : MI} {J : MJ} {r : (Unit)} {I' : MI} {J' : MJ}, f_Post_wipe_23 w1 fu l1 I J = some (r, I', J') → am_E (gG L xs) d m_Post_wipe (45, [(0, .ref (32 + 21 * w1))], []) (hX X I' J') P → am_E (gG L xs) d m_Post_wipe (23, [(0, .ref (32 + 21 * w1)), (1, .int l1)], []) (hX X I J) P := by
  intro fu
  induction fu with
  | zero =>
    intros
    rename_i hb _
    cases hb
  | succ fu ih =>
    intro l1 I J r I' J' hb K
    unfold f_Post_wipe_23 at hb
    refine e_k 2 (f' := (25, [(0, .ref (32 + 21 * w1)), (1, .int l1)], [.ref (32 + 21 * w1), .int l1])) rfl ?_
    refine r_getr rfl (x_ltp hw_w1 (by decide)) (sS_p14 hw_w1) rfl ?_
    refine r_alen rfl (x_t0 hw_w1 (by decide)) (x_ltp hw_w1 (by decide)) (sS_p16 hw_w1) rfl ?_
    refine e_k 1 (f' := (if (nI 4) ≤ l1 then 45 else 32, [(0, .ref (32 + 21 * w1)), (1, .int l1)], [])) rfl ?_
    refine e_if (fun c4 => ?_) (fun c4 => ?_)
    · replace hb := i_pos c4 hb
      refine e_sub (ls := [(0, .ref (32 + 21 * w1))]) rfl ⟨rfl, trivial⟩ ?_
      obtain ⟨rfl, rfl, rfl⟩ := s_inj hb
      exact K
    · replace hb := i_neg c4 hb
      refine e_k 1 (f' := (33, [(0, .ref (32 + 21 * w1)), (1, .int l1)], [.ref (32 + 21 * w1)])) rfl ?_
      refine r_getr rfl (x_ltp hw_w1 (by decide)) (sS_p14 hw_w1) rfl ?_
      refine e_k 2 (f' := (38, [(0, .ref (32 + 21 * w1)), (1, .int l1)], [.int 0, .int l1, .ref (34 + 21 * w1)])) rfl ?_
      obtain ⟨o5, hb⟩ := ob_in hb
      obtain ⟨I6, eI6, hb⟩ := p_nm hb
      refine r_zast' rfl (x_ltp hw_w1 (by decide)) (sS_p16 hw_w1) o5 eI6 ?_
      refine e_k 2 (f' := (23, [(1, .int (l1 + 1)), (0, .ref (32 + 21 * w1))], [])) rfl ?_
      refine e_sub (ls := [(0, .ref (32 + 21 * w1)), (1, .int (l1 + 1))]) rfl ⟨rfl, rfl, trivial⟩ ?_
      exact ih  hb K
def f_Post_wipe (w1 : Nat) (I : MI) (J : MJ) : M2 Unit := oc (f_Sh_zeroInts (33 + 21 * w1) 4 I J) (fun v1 I1 J1 => oc (f_Sh_zeroInts (35 + 21 * w1) 4 I1 J1) (fun v2 I2 J2 => oc (f_Sh_zeroInts (36 + 21 * w1) 4 I2 J2) (fun v3 I3 J3 => oc (f_Post_wipe_23 w1 gF 0 I3 J3) (fun u7 I7 J7 => pl (va_up I7 (32 + 21 * w1) (upd (I7 (32 + 21 * w1)) 5 0)) (fun I8 => pl (va_up I8 (32 + 21 * w1) (upd (I8 (32 + 21 * w1)) 6 0)) (fun I9 => pl (va_up I9 (32 + 21 * w1) (upd (I9 (32 + 21 * w1)) 7 0)) (fun I10 => pl (va_up I10 (32 + 21 * w1) (upd (I10 (32 + 21 * w1)) 8 0)) (fun I11 => some ((), I11, J7)))))))))
theorem E_Post_wipe {w1 : Nat} {X : MX} {I : MI} {J : MJ} {v : Unit} {I' : MI} {J' : MJ} (hw_w1 : w1 < 4) (hb : f_Post_wipe w1 I J = some (v, I', J')) (K : P (.inl (none)) (hX X I' J')) : am_E (gG L xs) (d + 1) m_Post_wipe (0, lv_args 0 [.ref (32 + 21 * w1)], []) (hX X I J) P := by
  unfold f_Post_wipe at hb
  refine e_k 1 (f' := (1, [(0, .ref (32 + 21 * w1))], [.ref (32 + 21 * w1)])) rfl ?_
  refine r_getr rfl (x_ltp hw_w1 (by decide)) (sS_p14 hw_w1) rfl ?_
  obtain ⟨v1, I1, J1, h1, hb⟩ := oc_call hb
  refine r_cs (z := m_Sh_zeroInts) (As := [.ref (33 + 21 * w1)]) (rest := []) rfl rfl rfl rfl rfl rfl (E_Sh_zeroInts ⟨(x_ltp hw_w1 (by decide)), (x_t0 hw_w1 (by decide)), (sS_p15 hw_w1)⟩ h1 ⟨_, rfl, ?_⟩)
  refine e_k 1 (f' := (8, [(0, .ref (32 + 21 * w1))], [.ref (32 + 21 * w1)])) rfl ?_
  refine r_getr rfl (x_ltp hw_w1 (by decide)) (sS_p14 hw_w1) rfl ?_
  obtain ⟨v2, I2, J2, h2, hb⟩ := oc_call hb
  refine r_cs (z := m_Sh_zeroInts) (As := [.ref (35 + 21 * w1)]) (rest := []) rfl rfl rfl rfl rfl rfl (E_Sh_zeroInts ⟨(x_ltp hw_w1 (by decide)), (x_t0 hw_w1 (by decide)), (sS_p17 hw_w1)⟩ h2 ⟨_, rfl, ?_⟩)
  refine e_k 1 (f' := (15, [(0, .ref (32 + 21 * w1))], [.ref (32 + 21 * w1)])) rfl ?_
  refine r_getr rfl (x_ltp hw_w1 (by decide)) (sS_p14 hw_w1) rfl ?_
  obtain ⟨v3, I3, J3, h3, hb⟩ := oc_call hb
  refine r_cs (z := m_Sh_zeroInts) (As := [.ref (36 + 21 * w1)]) (rest := []) rfl rfl rfl rfl rfl rfl (E_Sh_zeroInts ⟨(x_ltp hw_w1 (by decide)), (x_t0 hw_w1 (by decide)), (sS_p18 hw_w1)⟩ h3 ⟨_, rfl, ?_⟩)
  refine e_k 2 (f' := (23, [(1, .int 0), (0, .ref (32 + 21 * w1))], [])) rfl ?_
  refine e_sub (ls := [(0, .ref (32 + 21 * w1)), (1, .int 0)]) rfl ⟨rfl, rfl, trivial⟩ ?_
  obtain ⟨u7, I7, J7, h7, hb⟩ := oc_call hb
  refine E_Post_wipe_23 hw_w1 gF  h7 ?_
  refine e_k 2 (f' := (47, [(0, .ref (32 + 21 * w1))], [.int 0, .ref (32 + 21 * w1)])) rfl ?_
  obtain ⟨I8, eI8, hb⟩ := p_nm hb
  refine r_puti' rfl (x_ltp hw_w1 (by decide)) (sS_p14 hw_w1) rfl eI8 ?_
  refine e_k 2 (f' := (52, [(0, .ref (32 + 21 * w1))], [.int 0, .ref (32 + 21 * w1)])) rfl ?_
  obtain ⟨I9, eI9, hb⟩ := p_nm hb
  refine r_puti' rfl (x_ltp hw_w1 (by decide)) (sS_p14 hw_w1) rfl eI9 ?_
  refine e_k 2 (f' := (57, [(0, .ref (32 + 21 * w1))], [.int 0, .ref (32 + 21 * w1)])) rfl ?_
  obtain ⟨I10, eI10, hb⟩ := p_nm hb
  refine r_puti' rfl (x_ltp hw_w1 (by decide)) (sS_p14 hw_w1) rfl eI10 ?_
  refine e_k 2 (f' := (62, [(0, .ref (32 + 21 * w1))], [.int 0, .ref (32 + 21 * w1)])) rfl ?_
  obtain ⟨I11, eI11, hb⟩ := p_nm hb
  refine r_putz' rfl (x_ltp hw_w1 (by decide)) (sS_p14 hw_w1) rfl (Or.inl rfl) eI11 ?_
  obtain ⟨rfl, rfl, rfl⟩ := s_inj hb
  exact e_r rfl rfl K
def f_Row_at (r1 : Nat) (b1 : Nat) (m1 : Nat) (p2 : Int32) (I : MI) (J : MJ) : M2 Int32 := if p2 < 0 then (some ((-1), I, J)) else (if (I r1 1) ≤ p2 then (some ((-1), I, J)) else (if (nI m1) ≤ p2 then (some ((-1), I, J)) else (if p2 < 0 ∨ m1 ≤ Int32.toNatClampNeg p2 then none else (some (I b1 (Int32.toNatClampNeg p2), I, J)))))
theorem E_Row_at {r1 : Nat} {b1 : Nat} {m1 : Nat} {p2 : Int32} {X : MX} {I : MI} {J : MJ} {v : Int32} {I' : MI} {J' : MJ} (hR_r1 : isRw X r1 b1 m1) (hb : f_Row_at r1 b1 m1 p2 I J = some (v, I', J')) (K : P (.inl (some (.int v))) (hX X I' J')) : am_E (gG L xs) d m_Row_at (0, lv_args 0 [.ref r1, .int p2], []) (hX X I J) P := by
  unfold f_Row_at at hb
  refine e_k 2 (f' := (if p2 < 0 then 30 else 4, [(0, .ref r1), (1, .int p2)], [])) rfl ?_
  refine e_if (fun c1 => ?_) (fun c1 => ?_)
  · replace hb := i_pos c1 hb
    refine e_k 1 (f' := (31, [(0, .ref r1), (1, .int p2)], [.int (-1)])) rfl ?_
    obtain ⟨rfl, rfl, rfl⟩ := s_inj hb
    exact e_r rfl rfl K
  · replace hb := i_neg c1 hb
    refine e_k 2 (f' := (6, [(0, .ref r1), (1, .int p2)], [.ref r1, .int p2])) rfl ?_
    refine r_geti rfl hR_r1.1 hR_r1.2.1 rfl ?_
    refine e_k 1 (f' := (if (I r1 1) ≤ p2 then 30 else 12, [(0, .ref r1), (1, .int p2)], [])) rfl ?_
    refine e_if (fun c2 => ?_) (fun c2 => ?_)
    · replace hb := i_pos c2 hb
      refine e_k 1 (f' := (31, [(0, .ref r1), (1, .int p2)], [.int (-1)])) rfl ?_
      obtain ⟨rfl, rfl, rfl⟩ := s_inj hb
      exact e_r rfl rfl K
    · replace hb := i_neg c2 hb
      refine e_k 2 (f' := (14, [(0, .ref r1), (1, .int p2)], [.ref r1, .int p2])) rfl ?_
      refine r_getr rfl hR_r1.1 hR_r1.2.1 rfl ?_
      refine r_alen rfl hR_r1.2.2.2.1 hR_r1.2.2.1 hR_r1.2.2.2.2.1 rfl ?_
      refine e_k 1 (f' := (if (nI m1) ≤ p2 then 30 else 21, [(0, .ref r1), (1, .int p2)], [])) rfl ?_
      refine e_if (fun c3 => ?_) (fun c3 => ?_)
      · replace hb := i_pos c3 hb
        refine e_k 1 (f' := (31, [(0, .ref r1), (1, .int p2)], [.int (-1)])) rfl ?_
        obtain ⟨rfl, rfl, rfl⟩ := s_inj hb
        exact e_r rfl rfl K
      · replace hb := i_neg c3 hb
        refine e_k 1 (f' := (22, [(0, .ref r1), (1, .int p2)], [.ref r1])) rfl ?_
        refine r_getr rfl hR_r1.1 hR_r1.2.1 rfl ?_
        refine e_k 1 (f' := (26, [(0, .ref r1), (1, .int p2)], [.int p2, .ref b1])) rfl ?_
        obtain ⟨o4, hb⟩ := ob_in hb
        refine r_iald rfl hR_r1.2.2.2.1 hR_r1.2.2.1 hR_r1.2.2.2.2.1 o4 ?_
        refine e_k 1 (f' := (31, [(0, .ref r1), (1, .int p2)], [.int (I b1 (Int32.toNatClampNeg p2))])) rfl ?_
        obtain ⟨rfl, rfl, rfl⟩ := s_inj hb
        exact e_r rfl rfl K
def f_Row_add (r1 : Nat) (b1 : Nat) (m1 : Nat) (p2 : Int32) (I : MI) (J : MJ) : M2 Unit := if (nI m1) ≤ (I r1 1) then (some ((), I, J)) else (if (I r1 1) < 0 ∨ m1 ≤ Int32.toNatClampNeg (I r1 1) then none else (pl (va_up I b1 (upd (I b1) (Int32.toNatClampNeg (I r1 1)) (p2 &&& 255))) (fun I3 => pl (va_up I3 r1 (upd (I3 r1) 1 ((I3 r1 1) + 1))) (fun I4 => some ((), I4, J)))))
theorem E_Row_add {r1 : Nat} {b1 : Nat} {m1 : Nat} {p2 : Int32} {X : MX} {I : MI} {J : MJ} {v : Unit} {I' : MI} {J' : MJ} (hR_r1 : isRw X r1 b1 m1) (hb : f_Row_add r1 b1 m1 p2 I J = some (v, I', J')) (K : P (.inl (none)) (hX X I' J')) : am_E (gG L xs) d m_Row_add (0, lv_args 0 [.ref r1, .int p2], []) (hX X I J) P := by
  unfold f_Row_add at hb
  refine e_k 1 (f' := (1, [(0, .ref r1), (1, .int p2)], [.ref r1])) rfl ?_
  refine r_geti rfl hR_r1.1 hR_r1.2.1 rfl ?_
  refine e_k 1 (f' := (5, [(0, .ref r1), (1, .int p2)], [.ref r1, .int (I r1 1)])) rfl ?_
  refine r_getr rfl hR_r1.1 hR_r1.2.1 rfl ?_
  refine r_alen rfl hR_r1.2.2.2.1 hR_r1.2.2.1 hR_r1.2.2.2.2.1 rfl ?_
  refine e_k 1 (f' := (if (nI m1) ≤ (I r1 1) then 36 else 12, [(0, .ref r1), (1, .int p2)], [])) rfl ?_
  refine e_if (fun c1 => ?_) (fun c1 => ?_)
  · replace hb := i_pos c1 hb
    obtain ⟨rfl, rfl, rfl⟩ := s_inj hb
    exact e_r rfl rfl K
  · replace hb := i_neg c1 hb
    refine e_k 1 (f' := (13, [(0, .ref r1), (1, .int p2)], [.ref r1])) rfl ?_
    refine r_getr rfl hR_r1.1 hR_r1.2.1 rfl ?_
    refine e_k 1 (f' := (17, [(0, .ref r1), (1, .int p2)], [.ref r1, .ref b1])) rfl ?_
    refine r_geti rfl hR_r1.1 hR_r1.2.1 rfl ?_
    refine e_k 3 (f' := (25, [(0, .ref r1), (1, .int p2)], [.int (p2 &&& 255), .int (I r1 1), .ref b1])) rfl ?_
    obtain ⟨o2, hb⟩ := ob_in hb
    obtain ⟨I3, eI3, hb⟩ := p_nm hb
    refine r_iast' rfl hR_r1.2.2.1 hR_r1.2.2.2.2.1 o2 eI3 ?_
    refine e_k 2 (f' := (28, [(0, .ref r1), (1, .int p2)], [.ref r1, .ref r1])) rfl ?_
    refine r_geti rfl hR_r1.1 hR_r1.2.1 rfl ?_
    refine e_k 2 (f' := (33, [(0, .ref r1), (1, .int p2)], [.int ((I3 r1 1) + 1), .ref r1])) rfl ?_
    obtain ⟨I4, eI4, hb⟩ := p_nm hb
    refine r_puti' rfl hR_r1.1 hR_r1.2.1 rfl eI4 ?_
    obtain ⟨rfl, rfl, rfl⟩ := s_inj hb
    exact e_r rfl rfl K
def f_Row_change (r1 : Nat) (b1 : Nat) (m1 : Nat) (p2 : Int32) (p3 : Int32) (I : MI) (J : MJ) : M2 Unit := if p2 < 0 then (some ((), I, J)) else (if (I r1 1) ≤ p2 then (some ((), I, J)) else (if (nI m1) ≤ p2 then (some ((), I, J)) else (if p2 < 0 ∨ m1 ≤ Int32.toNatClampNeg p2 then none else (pl (va_up I b1 (upd (I b1) (Int32.toNatClampNeg p2) (p3 &&& 255))) (fun I5 => some ((), I5, J))))))
theorem E_Row_change {r1 : Nat} {b1 : Nat} {m1 : Nat} {p2 : Int32} {p3 : Int32} {X : MX} {I : MI} {J : MJ} {v : Unit} {I' : MI} {J' : MJ} (hR_r1 : isRw X r1 b1 m1) (hb : f_Row_change r1 b1 m1 p2 p3 I J = some (v, I', J')) (K : P (.inl (none)) (hX X I' J')) : am_E (gG L xs) d m_Row_change (0, lv_args 0 [.ref r1, .int p2, .int p3], []) (hX X I J) P := by
  unfold f_Row_change at hb
  refine e_k 2 (f' := (if p2 < 0 then 32 else 4, [(0, .ref r1), (1, .int p2), (2, .int p3)], [])) rfl ?_
  refine e_if (fun c1 => ?_) (fun c1 => ?_)
  · replace hb := i_pos c1 hb
    obtain ⟨rfl, rfl, rfl⟩ := s_inj hb
    exact e_r rfl rfl K
  · replace hb := i_neg c1 hb
    refine e_k 2 (f' := (6, [(0, .ref r1), (1, .int p2), (2, .int p3)], [.ref r1, .int p2])) rfl ?_
    refine r_geti rfl hR_r1.1 hR_r1.2.1 rfl ?_
    refine e_k 1 (f' := (if (I r1 1) ≤ p2 then 32 else 12, [(0, .ref r1), (1, .int p2), (2, .int p3)], [])) rfl ?_
    refine e_if (fun c2 => ?_) (fun c2 => ?_)
    · replace hb := i_pos c2 hb
      obtain ⟨rfl, rfl, rfl⟩ := s_inj hb
      exact e_r rfl rfl K
    · replace hb := i_neg c2 hb
      refine e_k 2 (f' := (14, [(0, .ref r1), (1, .int p2), (2, .int p3)], [.ref r1, .int p2])) rfl ?_
      refine r_getr rfl hR_r1.1 hR_r1.2.1 rfl ?_
      refine r_alen rfl hR_r1.2.2.2.1 hR_r1.2.2.1 hR_r1.2.2.2.2.1 rfl ?_
      refine e_k 1 (f' := (if (nI m1) ≤ p2 then 32 else 21, [(0, .ref r1), (1, .int p2), (2, .int p3)], [])) rfl ?_
      refine e_if (fun c3 => ?_) (fun c3 => ?_)
      · replace hb := i_pos c3 hb
        obtain ⟨rfl, rfl, rfl⟩ := s_inj hb
        exact e_r rfl rfl K
      · replace hb := i_neg c3 hb
        refine e_k 1 (f' := (22, [(0, .ref r1), (1, .int p2), (2, .int p3)], [.ref r1])) rfl ?_
        refine r_getr rfl hR_r1.1 hR_r1.2.1 rfl ?_
        refine e_k 4 (f' := (31, [(0, .ref r1), (1, .int p2), (2, .int p3)], [.int (p3 &&& 255), .int p2, .ref b1])) rfl ?_
        obtain ⟨o4, hb⟩ := ob_in hb
        obtain ⟨I5, eI5, hb⟩ := p_nm hb
        refine r_iast' rfl hR_r1.2.2.1 hR_r1.2.2.2.2.1 o4 eI5 ?_
        obtain ⟨rfl, rfl, rfl⟩ := s_inj hb
        exact e_r rfl rfl K
def f_Row_addWord_30 (r1 : Nat) (b1 : Nat) (m1 : Nat) (p2 : Int64) (p3 : Int32) (p4 : Int32) (p5 : Int32) : Nat → Int64 → Int32 → Int32 → Int32 → Int32 → MI → MJ → M2 (Int32 ⊕ (Unit))
  | 0, _, _, _, _, _, _, _ => none
  | fu + 1, l1, l3, l4, l5, l6, I, J => if l3 ≤ l6 then (some (.inr (), I, J)) else (pl ((Int64.toInt32 ((Int64.toUInt64 l1 >>> (Int64.toUInt64 (Int32.toInt64 (8 * l6)) &&& Int64.toUInt64 63)).toInt64)) &&& 255 : Int32) (fun x5 => if x5 < l4 then (some (.inl 0, I, J)) else (if x5 ≤ l5 then (f_Row_addWord_30 r1 b1 m1 p2 p3 p4 p5 fu l1 l3 l4 l5 (l6 + 1) I J) else (some (.inl 0, I, J)))))
theorem E_Row_addWord_30 {X : MX} {r1 : Nat} {b1 : Nat} {m1 : Nat} {p2 : Int64} {p3 : Int32} {p4 : Int32} {p5 : Int32} (hR_r1 : isRw X r1 b1 m1) : ∀ (fu : Nat) {l1 : Int64} {l3 : Int32} {l4 : Int32} {l5 : Int32} {l6 : Int32} {I : MI} {J : MJ} {r : (Int32 ⊕ (Unit))} {I' : MI} {J' : MJ}, f_Row_addWord_30 r1 b1 m1 p2 p3 p4 p5 fu l1 l3 l4 l5 l6 I J = some (r, I', J') → (∀ v, r = .inl v → P (.inl (some (.int v))) (hX X I' J')) → (∀ u, r = .inr u → am_E (gG L xs) d m_Row_addWord (72, [(0, .ref r1), (1, .long l1), (3, .int l3)], []) (hX X I' J') P) → am_E (gG L xs) d m_Row_addWord (30, [(0, .ref r1), (1, .long l1), (3, .int l3), (4, .int l4), (5, .int l5), (6, .int l6)], []) (hX X I J) P := by
  intro fu
  induction fu with
  | zero =>
    intros
    rename_i hb _ _
    cases hb
  | succ fu ih =>
    intro l1 l3 l4 l5 l6 I J r I' J' hb K1 K2
    unfold f_Row_addWord_30 at hb
    refine e_k 3 (f' := (if l3 ≤ l6 then 72 else 36, [(0, .ref r1), (1, .long l1), (3, .int l3), (4, .int l4), (5, .int l5), (6, .int l6)], [])) rfl ?_
    refine e_if (fun c4 => ?_) (fun c4 => ?_)
    · replace hb := i_pos c4 hb
      refine e_sub (ls := [(0, .ref r1), (1, .long l1), (3, .int l3)]) rfl ⟨rfl, rfl, rfl, trivial⟩ ?_
      obtain ⟨rfl, rfl, rfl⟩ := s_inj hb
      exact K2 _ rfl
    · replace hb := i_neg c4 hb
      refine e_k 9 (f' := (50, [(7, .int ((Int64.toInt32 ((Int64.toUInt64 l1 >>> (Int64.toUInt64 (Int32.toInt64 (8 * l6)) &&& Int64.toUInt64 63)).toInt64)) &&& 255)), (0, .ref r1), (1, .long l1), (3, .int l3), (4, .int l4), (5, .int l5), (6, .int l6)], [])) rfl ?_
      obtain ⟨x5, ex5, hb⟩ := p_nm hb
      rw [← ex5]
      refine e_k 3 (f' := (if x5 < l4 then 64 else 57, [(7, .int x5), (0, .ref r1), (1, .long l1), (3, .int l3), (4, .int l4), (5, .int l5), (6, .int l6)], [])) rfl ?_
      refine e_if (fun c6 => ?_) (fun c6 => ?_)
      · replace hb := i_pos c6 hb
        refine e_k 1 (f' := (65, [(7, .int x5), (0, .ref r1), (1, .long l1), (3, .int l3), (4, .int l4), (5, .int l5), (6, .int l6)], [.int 0])) rfl ?_
        obtain ⟨rfl, rfl, rfl⟩ := s_inj hb
        exact e_r rfl rfl (K1 _ rfl)
      · replace hb := i_neg c6 hb
        refine e_k 3 (f' := (if x5 ≤ l5 then 66 else 64, [(7, .int x5), (0, .ref r1), (1, .long l1), (3, .int l3), (4, .int l4), (5, .int l5), (6, .int l6)], [])) rfl ?_
        refine e_if (fun c7 => ?_) (fun c7 => ?_)
        · replace hb := i_pos c7 hb
          refine e_k 2 (f' := (30, [(6, .int (l6 + 1)), (7, .int x5), (0, .ref r1), (1, .long l1), (3, .int l3), (4, .int l4), (5, .int l5)], [])) rfl ?_
          refine e_sub (ls := [(0, .ref r1), (1, .long l1), (3, .int l3), (4, .int l4), (5, .int l5), (6, .int (l6 + 1))]) rfl ⟨rfl, rfl, rfl, rfl, rfl, rfl, trivial⟩ ?_
          exact ih  hb K1 K2
        · replace hb := i_neg c7 hb
          refine e_k 1 (f' := (65, [(7, .int x5), (0, .ref r1), (1, .long l1), (3, .int l3), (4, .int l4), (5, .int l5), (6, .int l6)], [.int 0])) rfl ?_
          obtain ⟨rfl, rfl, rfl⟩ := s_inj hb
          exact e_r rfl rfl (K1 _ rfl)
def f_Row_addWord_77 (r1 : Nat) (b1 : Nat) (m1 : Nat) (p2 : Int64) (p3 : Int32) (p4 : Int32) (p5 : Int32) : Nat → Int64 → Int32 → MI → MJ → M2 (Unit)
  | 0, _, _, _, _ => none
  | fu + 1, l1, l6, I, J => if l6 < 0 then (some ((), I, J)) else (oc (f_Row_add r1 b1 m1 (Int64.toInt32 ((Int64.toUInt64 l1 >>> (Int64.toUInt64 (Int32.toInt64 (8 * l6)) &&& Int64.toUInt64 63)).toInt64)) I J) (fun v11 I11 J11 => f_Row_addWord_77 r1 b1 m1 p2 p3 p4 p5 fu l1 (l6 + (-1)) I11 J11))
theorem E_Row_addWord_77 {X : MX} {r1 : Nat} {b1 : Nat} {m1 : Nat} {p2 : Int64} {p3 : Int32} {p4 : Int32} {p5 : Int32} (hR_r1 : isRw X r1 b1 m1) : ∀ (fu : Nat) {l1 : Int64} {l6 : Int32} {I : MI} {J : MJ} {r : (Unit)} {I' : MI} {J' : MJ}, f_Row_addWord_77 r1 b1 m1 p2 p3 p4 p5 fu l1 l6 I J = some (r, I', J') → am_E (gG L xs) (d + 1) m_Row_addWord (100, [], []) (hX X I' J') P → am_E (gG L xs) (d + 1) m_Row_addWord (77, [(0, .ref r1), (1, .long l1), (6, .int l6)], []) (hX X I J) P := by
  intro fu
  induction fu with
  | zero =>
    intros
    rename_i hb _
    cases hb
  | succ fu ih =>
    intro l1 l6 I J r I' J' hb K
    unfold f_Row_addWord_77 at hb
    refine e_k 2 (f' := (if l6 < 0 then 100 else 82, [(0, .ref r1), (1, .long l1), (6, .int l6)], [])) rfl ?_
    refine e_if (fun c10 => ?_) (fun c10 => ?_)
    · replace hb := i_pos c10 hb
      refine e_sub (ls := []) rfl ⟨⟩ ?_
      obtain ⟨rfl, rfl, rfl⟩ := s_inj hb
      exact K
    · replace hb := i_neg c10 hb
      refine e_k 7 (f' := (91, [(0, .ref r1), (1, .long l1), (6, .int l6)], [.int (Int64.toInt32 ((Int64.toUInt64 l1 >>> (Int64.toUInt64 (Int32.toInt64 (8 * l6)) &&& Int64.toUInt64 63)).toInt64)), .ref r1])) rfl ?_
      obtain ⟨v11, I11, J11, h11, hb⟩ := oc_call hb
      refine r_cv (z := m_Row_add) (As := [.int (Int64.toInt32 ((Int64.toUInt64 l1 >>> (Int64.toUInt64 (Int32.toInt64 (8 * l6)) &&& Int64.toUInt64 63)).toInt64))]) (rest := []) rfl rfl rfl rfl rfl hR_r1.1 hR_r1.2.1 rfl (E_Row_add hR_r1 h11 ⟨_, rfl, ?_⟩)
      refine e_k 2 (f' := (77, [(6, .int (l6 + (-1))), (0, .ref r1), (1, .long l1)], [])) rfl ?_
      refine e_sub (ls := [(0, .ref r1), (1, .long l1), (6, .int (l6 + (-1)))]) rfl ⟨rfl, rfl, rfl, trivial⟩ ?_
      exact ih  hb K
def f_Row_addWord (r1 : Nat) (b1 : Nat) (m1 : Nat) (p2 : Int64) (p3 : Int32) (p4 : Int32) (p5 : Int32) (I : MI) (J : MJ) : M2 Int32 := if p3 < 1 then (some (0, I, J)) else (if 8 < p3 then (some (0, I, J)) else (if ((I r1 1) + p3) ≤ (nI m1) then (oc (f_Row_addWord_30 r1 b1 m1 p2 p3 p4 p5 gF p2 p3 p4 p5 0 I J) (fun q8 I8 J8 => oe q8 (fun y8 => some (y8, I8, J8)) (fun u8 => pl (p3 - 1 : Int32) (fun x9 => oc (f_Row_addWord_77 r1 b1 m1 p2 p3 p4 p5 gF p2 x9 I8 J8) (fun u12 I12 J12 => some (1, I12, J12)))))) else (some (0, I, J))))
theorem E_Row_addWord {r1 : Nat} {b1 : Nat} {m1 : Nat} {p2 : Int64} {p3 : Int32} {p4 : Int32} {p5 : Int32} {X : MX} {I : MI} {J : MJ} {v : Int32} {I' : MI} {J' : MJ} (hR_r1 : isRw X r1 b1 m1) (hb : f_Row_addWord r1 b1 m1 p2 p3 p4 p5 I J = some (v, I', J')) (K : P (.inl (some (.int v))) (hX X I' J')) : am_E (gG L xs) (d + 1) m_Row_addWord (0, lv_args 0 [.ref r1, .long p2, .int p3, .int p4, .int p5], []) (hX X I J) P := by
  unfold f_Row_addWord at hb
  refine e_k 3 (f' := (if p3 < 1 then 25 else 5, [(0, .ref r1), (1, .long p2), (3, .int p3), (4, .int p4), (5, .int p5)], [])) rfl ?_
  refine e_if (fun c1 => ?_) (fun c1 => ?_)
  · replace hb := i_pos c1 hb
    refine e_k 1 (f' := (26, [(0, .ref r1), (1, .long p2), (3, .int p3), (4, .int p4), (5, .int p5)], [.int 0])) rfl ?_
    obtain ⟨rfl, rfl, rfl⟩ := s_inj hb
    exact e_r rfl rfl K
  · replace hb := i_neg c1 hb
    refine e_k 3 (f' := (if 8 < p3 then 25 else 11, [(0, .ref r1), (1, .long p2), (3, .int p3), (4, .int p4), (5, .int p5)], [])) rfl ?_
    refine e_if (fun c2 => ?_) (fun c2 => ?_)
    · replace hb := i_pos c2 hb
      refine e_k 1 (f' := (26, [(0, .ref r1), (1, .long p2), (3, .int p3), (4, .int p4), (5, .int p5)], [.int 0])) rfl ?_
      obtain ⟨rfl, rfl, rfl⟩ := s_inj hb
      exact e_r rfl rfl K
    · replace hb := i_neg c2 hb
      refine e_k 1 (f' := (12, [(0, .ref r1), (1, .long p2), (3, .int p3), (4, .int p4), (5, .int p5)], [.ref r1])) rfl ?_
      refine r_geti rfl hR_r1.1 hR_r1.2.1 rfl ?_
      refine e_k 3 (f' := (18, [(0, .ref r1), (1, .long p2), (3, .int p3), (4, .int p4), (5, .int p5)], [.ref r1, .int ((I r1 1) + p3)])) rfl ?_
      refine r_getr rfl hR_r1.1 hR_r1.2.1 rfl ?_
      refine r_alen rfl hR_r1.2.2.2.1 hR_r1.2.2.1 hR_r1.2.2.2.2.1 rfl ?_
      refine e_k 1 (f' := (if ((I r1 1) + p3) ≤ (nI m1) then 27 else 25, [(0, .ref r1), (1, .long p2), (3, .int p3), (4, .int p4), (5, .int p5)], [])) rfl ?_
      refine e_if (fun c3 => ?_) (fun c3 => ?_)
      · replace hb := i_pos c3 hb
        refine e_k 2 (f' := (30, [(6, .int 0), (0, .ref r1), (1, .long p2), (3, .int p3), (4, .int p4), (5, .int p5)], [])) rfl ?_
        refine e_sub (ls := [(0, .ref r1), (1, .long p2), (3, .int p3), (4, .int p4), (5, .int p5), (6, .int 0)]) rfl ⟨rfl, rfl, rfl, rfl, rfl, rfl, trivial⟩ ?_
        obtain ⟨q8, I8, J8, h8, hb⟩ := oc_call hb
        refine E_Row_addWord_30 hR_r1 gF  h8 (fun y8 ey8 => ?_) (fun u8 ey8 => ?_)
        · subst ey8
          replace hb := oe_l hb
          obtain ⟨rfl, rfl, rfl⟩ := s_inj hb
          exact K
        · subst ey8
          replace hb := oe_r hb
          refine e_k 4 (f' := (77, [(6, .int (p3 - 1)), (0, .ref r1), (1, .long p2), (3, .int p3)], [])) rfl ?_
          obtain ⟨x9, ex9, hb⟩ := p_nm hb
          rw [← ex9]
          refine e_sub (ls := [(0, .ref r1), (1, .long p2), (6, .int x9)]) rfl ⟨rfl, rfl, rfl, trivial⟩ ?_
          obtain ⟨u12, I12, J12, h12, hb⟩ := oc_call hb
          refine E_Row_addWord_77 hR_r1 gF  h12 ?_
          refine e_k 1 (f' := (101, [], [.int 1])) rfl ?_
          obtain ⟨rfl, rfl, rfl⟩ := s_inj hb
          exact e_r rfl rfl K
      · replace hb := i_neg c3 hb
        refine e_k 1 (f' := (26, [(0, .ref r1), (1, .long p2), (3, .int p3), (4, .int p4), (5, .int p5)], [.int 0])) rfl ?_
        obtain ⟨rfl, rfl, rfl⟩ := s_inj hb
        exact e_r rfl rfl K
def f_Row_target (r1 : Nat) (b1 : Nat) (m1 : Nat) (p2 : Int32) (I : MI) (J : MJ) : M2 Int32 := oc (f_Row_at r1 b1 m1 p2 I J) (fun v1 I1 J1 => oc (f_Row_at r1 b1 m1 (p2 + 1) I1 J1) (fun v2 I2 J2 => some ((256 * v1) + v2, I2, J2)))
theorem E_Row_target {r1 : Nat} {b1 : Nat} {m1 : Nat} {p2 : Int32} {X : MX} {I : MI} {J : MJ} {v : Int32} {I' : MI} {J' : MJ} (hR_r1 : isRw X r1 b1 m1) (hb : f_Row_target r1 b1 m1 p2 I J = some (v, I', J')) (K : P (.inl (some (.int v))) (hX X I' J')) : am_E (gG L xs) (d + 1) m_Row_target (0, lv_args 0 [.ref r1, .int p2], []) (hX X I J) P := by
  unfold f_Row_target at hb
  refine e_k 3 (f' := (5, [(0, .ref r1), (1, .int p2)], [.int p2, .ref r1, .int 256])) rfl ?_
  obtain ⟨v1, I1, J1, h1, hb⟩ := oc_call hb
  refine r_cv (z := m_Row_at) (As := [.int p2]) (rest := [.int 256]) rfl rfl rfl rfl rfl hR_r1.1 hR_r1.2.1 rfl (E_Row_at hR_r1 h1 ⟨_, rfl, ?_⟩)
  refine e_k 5 (f' := (13, [(0, .ref r1), (1, .int p2)], [.int (p2 + 1), .ref r1, .int (256 * v1)])) rfl ?_
  obtain ⟨v2, I2, J2, h2, hb⟩ := oc_call hb
  refine r_cv (z := m_Row_at) (As := [.int (p2 + 1)]) (rest := [.int (256 * v1)]) rfl rfl rfl rfl rfl hR_r1.1 hR_r1.2.1 rfl (E_Row_at hR_r1 h2 ⟨_, rfl, ?_⟩)
  refine e_k 1 (f' := (17, [(0, .ref r1), (1, .int p2)], [.int ((256 * v1) + v2)])) rfl ?_
  obtain ⟨rfl, rfl, rfl⟩ := s_inj hb
  exact e_r rfl rfl K
def f_Row_aim (r1 : Nat) (b1 : Nat) (m1 : Nat) (p2 : Int32) (p3 : Int32) (I : MI) (J : MJ) : M2 Unit := oc (f_Row_change r1 b1 m1 p2 ((Int32.toUInt32 p3 >>> (Int32.toUInt32 8 &&& Int32.toUInt32 31)).toInt32) I J) (fun v1 I1 J1 => oc (f_Row_change r1 b1 m1 (p2 + 1) p3 I1 J1) (fun v2 I2 J2 => some ((), I2, J2)))
theorem E_Row_aim {r1 : Nat} {b1 : Nat} {m1 : Nat} {p2 : Int32} {p3 : Int32} {X : MX} {I : MI} {J : MJ} {v : Unit} {I' : MI} {J' : MJ} (hR_r1 : isRw X r1 b1 m1) (hb : f_Row_aim r1 b1 m1 p2 p3 I J = some (v, I', J')) (K : P (.inl (none)) (hX X I' J')) : am_E (gG L xs) (d + 1) m_Row_aim (0, lv_args 0 [.ref r1, .int p2, .int p3], []) (hX X I J) P := by
  unfold f_Row_aim at hb
  refine e_k 5 (f' := (6, [(0, .ref r1), (1, .int p2), (2, .int p3)], [.int ((Int32.toUInt32 p3 >>> (Int32.toUInt32 8 &&& Int32.toUInt32 31)).toInt32), .int p2, .ref r1])) rfl ?_
  obtain ⟨v1, I1, J1, h1, hb⟩ := oc_call hb
  refine r_cv (z := m_Row_change) (As := [.int p2, .int ((Int32.toUInt32 p3 >>> (Int32.toUInt32 8 &&& Int32.toUInt32 31)).toInt32)]) (rest := []) rfl rfl rfl rfl rfl hR_r1.1 hR_r1.2.1 rfl (E_Row_change hR_r1 h1 ⟨_, rfl, ?_⟩)
  refine e_k 5 (f' := (14, [(0, .ref r1), (1, .int p2), (2, .int p3)], [.int p3, .int (p2 + 1), .ref r1])) rfl ?_
  obtain ⟨v2, I2, J2, h2, hb⟩ := oc_call hb
  refine r_cv (z := m_Row_change) (As := [.int (p2 + 1), .int p3]) (rest := []) rfl rfl rfl rfl rfl hR_r1.1 hR_r1.2.1 rfl (E_Row_change hR_r1 h2 ⟨_, rfl, ?_⟩)
  obtain ⟨rfl, rfl, rfl⟩ := s_inj hb
  exact e_r rfl rfl K
def f_Row_longAt_5 (r1 : Nat) (b1 : Nat) (m1 : Nat) (p2 : Int32) : Nat → Int32 → Int64 → Int32 → MI → MJ → M2 (Int64)
  | 0, _, _, _, _, _ => none
  | fu + 1, l1, l2, l4, I, J => if 8 ≤ l4 then (some (l2, I, J)) else (oc (f_Row_at r1 b1 m1 (l1 + l4) I J) (fun v2 I2 J2 => pl ((l2 <<< ((Int32.toInt64 8) &&& 63)) ||| (Int32.toInt64 (v2 &&& 255)) : Int64) (fun x3 => f_Row_longAt_5 r1 b1 m1 p2 fu l1 x3 (l4 + 1) I2 J2)))
theorem E_Row_longAt_5 {X : MX} {r1 : Nat} {b1 : Nat} {m1 : Nat} {p2 : Int32} (hR_r1 : isRw X r1 b1 m1) : ∀ (fu : Nat) {l1 : Int32} {l2 : Int64} {l4 : Int32} {I : MI} {J : MJ} {r : (Int64)} {I' : MI} {J' : MJ}, f_Row_longAt_5 r1 b1 m1 p2 fu l1 l2 l4 I J = some (r, I', J') → am_E (gG L xs) (d + 1) m_Row_longAt (37, [(2, .long r)], []) (hX X I' J') P → am_E (gG L xs) (d + 1) m_Row_longAt (5, [(0, .ref r1), (1, .int l1), (2, .long l2), (4, .int l4)], []) (hX X I J) P := by
  intro fu
  induction fu with
  | zero =>
    intros
    rename_i hb _
    cases hb
  | succ fu ih =>
    intro l1 l2 l4 I J r I' J' hb K
    unfold f_Row_longAt_5 at hb
    refine e_k 3 (f' := (if 8 ≤ l4 then 37 else 12, [(0, .ref r1), (1, .int l1), (2, .long l2), (4, .int l4)], [])) rfl ?_
    refine e_if (fun c1 => ?_) (fun c1 => ?_)
    · replace hb := i_pos c1 hb
      refine e_sub (ls := [(2, .long l2)]) rfl ⟨rfl, trivial⟩ ?_
      obtain ⟨rfl, rfl, rfl⟩ := s_inj hb
      exact K
    · replace hb := i_neg c1 hb
      refine e_k 7 (f' := (21, [(0, .ref r1), (1, .int l1), (2, .long l2), (4, .int l4)], [.int (l1 + l4), .ref r1, .long (l2 <<< ((Int32.toInt64 8) &&& 63))])) rfl ?_
      obtain ⟨v2, I2, J2, h2, hb⟩ := oc_call hb
      refine r_cv (z := m_Row_at) (As := [.int (l1 + l4)]) (rest := [.long (l2 <<< ((Int32.toInt64 8) &&& 63))]) rfl rfl rfl rfl rfl hR_r1.1 hR_r1.2.1 rfl (E_Row_at hR_r1 h2 ⟨_, rfl, ?_⟩)
      refine e_k 5 (f' := (31, [(2, .long ((l2 <<< ((Int32.toInt64 8) &&& 63)) ||| (Int32.toInt64 (v2 &&& 255)))), (0, .ref r1), (1, .int l1), (4, .int l4)], [])) rfl ?_
      obtain ⟨x3, ex3, hb⟩ := p_nm hb
      rw [← ex3]
      refine e_k 2 (f' := (5, [(4, .int (l4 + 1)), (2, .long x3), (0, .ref r1), (1, .int l1)], [])) rfl ?_
      refine e_sub (ls := [(0, .ref r1), (1, .int l1), (2, .long x3), (4, .int (l4 + 1))]) rfl ⟨rfl, rfl, rfl, rfl, trivial⟩ ?_
      exact ih  hb K
def f_Row_longAt (r1 : Nat) (b1 : Nat) (m1 : Nat) (p2 : Int32) (I : MI) (J : MJ) : M2 Int64 := oc (f_Row_longAt_5 r1 b1 m1 p2 gF p2 0 0 I J) (fun u4 I4 J4 => some (u4, I4, J4))
theorem E_Row_longAt {r1 : Nat} {b1 : Nat} {m1 : Nat} {p2 : Int32} {X : MX} {I : MI} {J : MJ} {v : Int64} {I' : MI} {J' : MJ} (hR_r1 : isRw X r1 b1 m1) (hb : f_Row_longAt r1 b1 m1 p2 I J = some (v, I', J')) (K : P (.inl (some (.long v))) (hX X I' J')) : am_E (gG L xs) (d + 1) m_Row_longAt (0, lv_args 0 [.ref r1, .int p2], []) (hX X I J) P := by
  unfold f_Row_longAt at hb
  refine e_k 4 (f' := (5, [(4, .int 0), (2, .long 0), (0, .ref r1), (1, .int p2)], [])) rfl ?_
  refine e_sub (ls := [(0, .ref r1), (1, .int p2), (2, .long 0), (4, .int 0)]) rfl ⟨rfl, rfl, rfl, rfl, trivial⟩ ?_
  obtain ⟨u4, I4, J4, h4, hb⟩ := oc_call hb
  refine E_Row_longAt_5 hR_r1 gF  h4 ?_
  refine e_k 1 (f' := (38, [(2, .long u4)], [.long u4])) rfl ?_
  obtain ⟨rfl, rfl, rfl⟩ := s_inj hb
  exact e_r rfl rfl K
def f_Row_copy_7 (r1 : Nat) (b1 : Nat) (m1 : Nat) (r2 : Nat) (b2 : Nat) (m2 : Nat) : Nat → Int32 → MI → MJ → M2 (Unit)
  | 0, _, _, _ => none
  | fu + 1, l2, I, J => if (I r2 1) ≤ l2 then (some ((), I, J)) else (oc (f_Row_at r2 b2 m2 l2 I J) (fun v3 I3 J3 => oc (f_Row_add r1 b1 m1 v3 I3 J3) (fun v4 I4 J4 => f_Row_copy_7 r1 b1 m1 r2 b2 m2 fu (l2 + 1) I4 J4)))
theorem E_Row_copy_7 {X : MX} {r1 : Nat} {b1 : Nat} {m1 : Nat} {r2 : Nat} {b2 : Nat} {m2 : Nat} (hR_r1 : isRw X r1 b1 m1) (hR_r2 : isRw X r2 b2 m2) : ∀ (fu : Nat) {l2 : Int32} {I : MI} {J : MJ} {r : (Unit)} {I' : MI} {J' : MJ}, f_Row_copy_7 r1 b1 m1 r2 b2 m2 fu l2 I J = some (r, I', J') → am_E (gG L xs) (d + 1) m_Row_copy (30, [], []) (hX X I' J') P → am_E (gG L xs) (d + 1) m_Row_copy (7, [(0, .ref r1), (1, .ref r2), (2, .int l2)], []) (hX X I J) P := by
  intro fu
  induction fu with
  | zero =>
    intros
    rename_i hb _
    cases hb
  | succ fu ih =>
    intro l2 I J r I' J' hb K
    unfold f_Row_copy_7 at hb
    refine e_k 2 (f' := (9, [(0, .ref r1), (1, .ref r2), (2, .int l2)], [.ref r2, .int l2])) rfl ?_
    refine r_geti rfl hR_r2.1 hR_r2.2.1 rfl ?_
    refine e_k 1 (f' := (if (I r2 1) ≤ l2 then 30 else 15, [(0, .ref r1), (1, .ref r2), (2, .int l2)], [])) rfl ?_
    refine e_if (fun c2 => ?_) (fun c2 => ?_)
    · replace hb := i_pos c2 hb
      refine e_sub (ls := []) rfl ⟨⟩ ?_
      obtain ⟨rfl, rfl, rfl⟩ := s_inj hb
      exact K
    · replace hb := i_neg c2 hb
      refine e_k 3 (f' := (18, [(0, .ref r1), (1, .ref r2), (2, .int l2)], [.int l2, .ref r2, .ref r1])) rfl ?_
      obtain ⟨v3, I3, J3, h3, hb⟩ := oc_call hb
      refine r_cv (z := m_Row_at) (As := [.int l2]) (rest := [.ref r1]) rfl rfl rfl rfl rfl hR_r2.1 hR_r2.2.1 rfl (E_Row_at hR_r2 h3 ⟨_, rfl, ?_⟩)
      obtain ⟨v4, I4, J4, h4, hb⟩ := oc_call hb
      refine r_cv (z := m_Row_add) (As := [.int v3]) (rest := []) rfl rfl rfl rfl rfl hR_r1.1 hR_r1.2.1 rfl (E_Row_add hR_r1 h4 ⟨_, rfl, ?_⟩)
      refine e_k 2 (f' := (7, [(2, .int (l2 + 1)), (0, .ref r1), (1, .ref r2)], [])) rfl ?_
      refine e_sub (ls := [(0, .ref r1), (1, .ref r2), (2, .int (l2 + 1))]) rfl ⟨rfl, rfl, rfl, trivial⟩ ?_
      exact ih  hb K
def f_Row_copy (r1 : Nat) (b1 : Nat) (m1 : Nat) (r2 : Nat) (b2 : Nat) (m2 : Nat) (I : MI) (J : MJ) : M2 Unit := pl (va_up I r1 (upd (I r1) 1 0)) (fun I1 => oc (f_Row_copy_7 r1 b1 m1 r2 b2 m2 gF 0 I1 J) (fun u5 I5 J5 => some ((), I5, J5)))
theorem E_Row_copy {r1 : Nat} {b1 : Nat} {m1 : Nat} {r2 : Nat} {b2 : Nat} {m2 : Nat} {X : MX} {I : MI} {J : MJ} {v : Unit} {I' : MI} {J' : MJ} (hR_r1 : isRw X r1 b1 m1) (hR_r2 : isRw X r2 b2 m2) (hb : f_Row_copy r1 b1 m1 r2 b2 m2 I J = some (v, I', J')) (K : P (.inl (none)) (hX X I' J')) : am_E (gG L xs) (d + 1) m_Row_copy (0, lv_args 0 [.ref r1, .ref r2], []) (hX X I J) P := by
  unfold f_Row_copy at hb
  refine e_k 2 (f' := (2, [(0, .ref r1), (1, .ref r2)], [.int 0, .ref r1])) rfl ?_
  obtain ⟨I1, eI1, hb⟩ := p_nm hb
  refine r_puti' rfl hR_r1.1 hR_r1.2.1 rfl eI1 ?_
  refine e_k 2 (f' := (7, [(2, .int 0), (0, .ref r1), (1, .ref r2)], [])) rfl ?_
  refine e_sub (ls := [(0, .ref r1), (1, .ref r2), (2, .int 0)]) rfl ⟨rfl, rfl, rfl, trivial⟩ ?_
  obtain ⟨u5, I5, J5, h5, hb⟩ := oc_call hb
  refine E_Row_copy_7 hR_r1 hR_r2 gF  h5 ?_
  obtain ⟨rfl, rfl, rfl⟩ := s_inj hb
  exact e_r rfl rfl K
def f_Row_wipe (r1 : Nat) (b1 : Nat) (m1 : Nat) (I : MI) (J : MJ) : M2 Unit := pl (va_up I r1 (upd (I r1) 1 0)) (fun I1 => some ((), I1, J))
theorem E_Row_wipe {r1 : Nat} {b1 : Nat} {m1 : Nat} {X : MX} {I : MI} {J : MJ} {v : Unit} {I' : MI} {J' : MJ} (hR_r1 : isRw X r1 b1 m1) (hb : f_Row_wipe r1 b1 m1 I J = some (v, I', J')) (K : P (.inl (none)) (hX X I' J')) : am_E (gG L xs) d m_Row_wipe (0, lv_args 0 [.ref r1], []) (hX X I J) P := by
  unfold f_Row_wipe at hb
  refine e_k 2 (f' := (2, [(0, .ref r1)], [.int 0, .ref r1])) rfl ?_
  obtain ⟨I1, eI1, hb⟩ := p_nm hb
  refine r_puti' rfl hR_r1.1 hR_r1.2.1 rfl eI1 ?_
  obtain ⟨rfl, rfl, rfl⟩ := s_inj hb
  exact e_r rfl rfl K
def f_Stock_wipe (w1 : Nat) (I : MI) (J : MJ) : M2 Unit := oc (f_Sh_zeroInts (31 + 21 * w1) 3 I J) (fun v1 I1 J1 => pl (va_up I1 (29 + 21 * w1) (upd (I1 (29 + 21 * w1)) 2 0)) (fun I2 => pl (va_up I2 (29 + 21 * w1) (upd (I2 (29 + 21 * w1)) 3 0)) (fun I3 => pl (va_up I3 (29 + 21 * w1) (upd (I3 (29 + 21 * w1)) 4 0)) (fun I4 => pl (va_up I4 (29 + 21 * w1) (upd (I4 (29 + 21 * w1)) 5 0)) (fun I5 => some ((), I5, J1))))))
theorem E_Stock_wipe {w1 : Nat} {X : MX} {I : MI} {J : MJ} {v : Unit} {I' : MI} {J' : MJ} (hw_w1 : w1 < 4) (hb : f_Stock_wipe w1 I J = some (v, I', J')) (K : P (.inl (none)) (hX X I' J')) : am_E (gG L xs) (d + 1) m_Stock_wipe (0, lv_args 0 [.ref (29 + 21 * w1)], []) (hX X I J) P := by
  unfold f_Stock_wipe at hb
  refine e_k 1 (f' := (1, [(0, .ref (29 + 21 * w1))], [.ref (29 + 21 * w1)])) rfl ?_
  refine r_getr rfl (x_ltp hw_w1 (by decide)) (sS_p11 hw_w1) rfl ?_
  obtain ⟨v1, I1, J1, h1, hb⟩ := oc_call hb
  refine r_cs (z := m_Sh_zeroInts) (As := [.ref (31 + 21 * w1)]) (rest := []) rfl rfl rfl rfl rfl rfl (E_Sh_zeroInts ⟨(x_ltp hw_w1 (by decide)), (x_t0 hw_w1 (by decide)), (sS_p13 hw_w1)⟩ h1 ⟨_, rfl, ?_⟩)
  refine e_k 2 (f' := (9, [(0, .ref (29 + 21 * w1))], [.int 0, .ref (29 + 21 * w1)])) rfl ?_
  obtain ⟨I2, eI2, hb⟩ := p_nm hb
  refine r_puti' rfl (x_ltp hw_w1 (by decide)) (sS_p11 hw_w1) rfl eI2 ?_
  refine e_k 2 (f' := (14, [(0, .ref (29 + 21 * w1))], [.int 0, .ref (29 + 21 * w1)])) rfl ?_
  obtain ⟨I3, eI3, hb⟩ := p_nm hb
  refine r_puti' rfl (x_ltp hw_w1 (by decide)) (sS_p11 hw_w1) rfl eI3 ?_
  refine e_k 2 (f' := (19, [(0, .ref (29 + 21 * w1))], [.int 0, .ref (29 + 21 * w1)])) rfl ?_
  obtain ⟨I4, eI4, hb⟩ := p_nm hb
  refine r_puti' rfl (x_ltp hw_w1 (by decide)) (sS_p11 hw_w1) rfl eI4 ?_
  refine e_k 2 (f' := (24, [(0, .ref (29 + 21 * w1))], [.int 0, .ref (29 + 21 * w1)])) rfl ?_
  obtain ⟨I5, eI5, hb⟩ := p_nm hb
  refine r_puti' rfl (x_ltp hw_w1 (by decide)) (sS_p11 hw_w1) rfl eI5 ?_
  obtain ⟨rfl, rfl, rfl⟩ := s_inj hb
  exact e_r rfl rfl K
end AUTO
