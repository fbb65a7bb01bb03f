section AUTO
variable {L : Nat} {xs : Nat → Int32} {d : Nat} {P : am_R → am_H → Prop}
theorem E_Hall_nextInput {w2 : Nat} {p3 : Int32} {X : MX} {I : MI} {J : MJ} {v : Int64} {I' : MI} {J' : MJ} (hw_w2 : w2 < 4) (hb : f_Hall_nextInput w2 p3 I J = some (v, I', J')) (K : P (.inl (some (.long v))) (hX X I' J')) : am_E (gG L xs) (d + 1) m_Hall_nextInput (0, lv_args 0 [.ref 14, .ref (18 + 21 * w2), .int p3], []) (hX X I J) P := by
  unfold f_Hall_nextInput at hb
  refine e_k 2 (f' := (2, [(0, .ref 14), (1, .ref (18 + 21 * w2)), (2, .int p3)], [.int p3, .ref 14])) rfl ?_
  obtain ⟨v1, I1, J1, h1, hb⟩ := oc_call hb
  refine r_cv (z := m_Hall_has) (As := [.int p3]) (rest := []) rfl rfl rfl rfl rfl (x_ltn rfl) rfl rfl (E_Hall_has  h1 ⟨_, rfl, ?_⟩)
  refine e_k 1 (f' := (if ¬ v1 = 0 then 10 else 8, [(0, .ref 14), (1, .ref (18 + 21 * w2)), (2, .int p3)], [])) rfl ?_
  refine e_if (fun c2 => ?_) (fun c2 => ?_)
  · replace hb := i_pos c2 hb
    refine e_k 1 (f' := (11, [(0, .ref 14), (1, .ref (18 + 21 * w2)), (2, .int p3)], [.ref (18 + 21 * w2)])) rfl ?_
    refine r_getr rfl (x_ltp hw_w2 (by decide)) (sS_p0 hw_w2) rfl ?_
    refine r_getr rfl (x_ltp hw_w2 (by decide)) (sS_p14 hw_w2) rfl ?_
    refine e_k 1 (f' := (18, [(0, .ref 14), (1, .ref (18 + 21 * w2)), (2, .int p3)], [.int p3, .ref (37 + 21 * w2)])) rfl ?_
    obtain ⟨o3, hb⟩ := ob_in hb
    refine r_iald rfl (x_t0 hw_w2 (by decide)) (x_ltp hw_w2 (by decide)) (sS_p19 hw_w2) o3 ?_
    refine e_k 1 (f' := (20, [(3, .int (I1 (37 + 21 * w2) (Int32.toNatClampNeg p3))), (0, .ref 14), (1, .ref (18 + 21 * w2)), (2, .int p3)], [])) rfl ?_
    obtain ⟨x4, ex4, hb⟩ := p_nm hb
    rw [← ex4]
    refine e_k 1 (f' := (21, [(3, .int x4), (0, .ref 14), (1, .ref (18 + 21 * w2)), (2, .int p3)], [.ref (18 + 21 * w2)])) rfl ?_
    refine r_getr rfl (x_ltp hw_w2 (by decide)) (sS_p0 hw_w2) rfl ?_
    refine r_getr rfl (x_ltp hw_w2 (by decide)) (sS_p14 hw_w2) rfl ?_
    refine e_k 2 (f' := (29, [(3, .int x4), (0, .ref 14), (1, .ref (18 + 21 * w2)), (2, .int p3)], [.int p3, .ref (37 + 21 * w2), .int p3, .ref (37 + 21 * w2)])) rfl ?_
    obtain ⟨o5, hb⟩ := ob_in hb
    refine r_iald rfl (x_t0 hw_w2 (by decide)) (x_ltp hw_w2 (by decide)) (sS_p19 hw_w2) o5 ?_
    refine e_k 2 (f' := (32, [(3, .int x4), (0, .ref 14), (1, .ref (18 + 21 * w2)), (2, .int p3)], [.int ((I1 (37 + 21 * w2) (Int32.toNatClampNeg p3)) + 1), .int p3, .ref (37 + 21 * w2)])) rfl ?_
    obtain ⟨o6, hb⟩ := ob_in hb
    obtain ⟨I7, eI7, hb⟩ := p_nm hb
    refine r_iast' rfl (x_ltp hw_w2 (by decide)) (sS_p19 hw_w2) o6 eI7 ?_
    refine e_k 1 (f' := (34, [(3, .int x4), (0, .ref 14), (1, .ref (18 + 21 * w2)), (2, .int p3)], [.ref 14])) rfl ?_
    refine r_getr rfl (x_ltn rfl) rfl rfl ?_
    refine e_k 1 (f' := (38, [(3, .int x4), (0, .ref 14), (1, .ref (18 + 21 * w2)), (2, .int p3)], [.int p3, .ref 17])) rfl ?_
    obtain ⟨o8, hb⟩ := ob_in hb
    refine r_pald rfl o8 ?_
    refine r_getr rfl (x_ltp (vp_lt o8) (by decide)) (sS_p0 (vp_lt o8)) rfl ?_
    refine r_getr rfl (x_ltp (vp_lt o8) (by decide)) (sS_p11 (vp_lt o8)) rfl ?_
    refine e_k 1 (f' := (46, [(3, .int x4), (0, .ref 14), (1, .ref (18 + 21 * w2)), (2, .int p3)], [.int x4, .ref (30 + 21 * (Int32.toNatClampNeg p3))])) rfl ?_
    obtain ⟨v9, I9, J9, h9, hb⟩ := oc_call hb
    refine r_cs (z := m_Sh_read) (As := [.ref (30 + 21 * (Int32.toNatClampNeg p3)), .int x4]) (rest := []) rfl rfl rfl rfl rfl rfl (E_Sh_read ⟨(x_ltp (vp_lt o8) (by decide)), (x_t0 (vp_lt o8) (by decide)), (sS_p12 (vp_lt o8))⟩ h9 ⟨_, rfl, ?_⟩)
    obtain ⟨rfl, rfl, rfl⟩ := s_inj hb
    exact e_r rfl rfl K
  · replace hb := i_neg c2 hb
    refine e_k 1 (f' := (9, [(0, .ref 14), (1, .ref (18 + 21 * w2)), (2, .int p3)], [.long 0])) rfl ?_
    obtain ⟨rfl, rfl, rfl⟩ := s_inj hb
    exact e_r rfl rfl K
theorem E_Hall_joined {p1 : Int32} {p2 : Int64} {p3 : Int64} {X : MX} {I : MI} {J : MJ} {v : Int64} {I' : MI} {J' : MJ} (hb : f_Hall_joined p1 p2 p3 I J = some (v, I', J')) (K : P (.inl (some (.long v))) (hX X I' J')) : am_E (gG L xs) (d + 1) m_Hall_joined (0, lv_args 0 [.int p1, .long p2, .long p3], []) (hX X I J) P := by
  unfold f_Hall_joined at hb
  refine e_k 2 (f' := (am_sw p1 56 [(4, 44), (5, 50), (23, 44), (24, 50)], [(0, .int p1), (1, .long p2), (3, .long p3)], [])) rfl ?_
  by_cases c1 : p1 = 4 ∨ p1 = 23
  · rw [show am_sw p1 56 [(4, 44), (5, 50), (23, 44), (24, 50)] = 44 from by rcases c1 with c1 | c1 <;> rw [c1] <;> rfl]
    replace hb := i_pos c1 hb
    refine e_k 2 (f' := (46, [(0, .int p1), (1, .long p2), (3, .long p3)], [.long p3, .long p2])) rfl ?_
    obtain ⟨v2, I2, J2, h2, hb⟩ := oc_call hb
    refine r_cs (z := m_Sh_plus) (As := [.long p2, .long p3]) (rest := []) rfl rfl rfl rfl rfl rfl (E_Sh_plus  h2 ⟨_, rfl, ?_⟩)
    obtain ⟨rfl, rfl, rfl⟩ := s_inj hb
    exact e_r rfl rfl K
  replace hb := i_neg c1 hb
  by_cases c3 : p1 = 5 ∨ p1 = 24
  · rw [show am_sw p1 56 [(4, 44), (5, 50), (23, 44), (24, 50)] = 50 from by rcases c3 with c3 | c3 <;> rw [c3] <;> rfl]
    replace hb := i_pos c3 hb
    refine e_k 2 (f' := (52, [(0, .int p1), (1, .long p2), (3, .long p3)], [.long p3, .long p2])) rfl ?_
    obtain ⟨v4, I4, J4, h4, hb⟩ := oc_call hb
    refine r_cs (z := m_Sh_minus) (As := [.long p2, .long p3]) (rest := []) rfl rfl rfl rfl rfl rfl (E_Sh_minus  h4 ⟨_, rfl, ?_⟩)
    obtain ⟨rfl, rfl, rfl⟩ := s_inj hb
    exact e_r rfl rfl K
  replace hb := i_neg c3 hb
  rw [show am_sw p1 56 [(4, 44), (5, 50), (23, 44), (24, 50)] = 56 from (am_swd (fun e => c1 (Or.inl e)) (am_swd (fun e => c3 (Or.inl e)) (am_swd (fun e => c1 (Or.inr e)) (am_swd (fun e => c3 (Or.inr e)) rfl))))]
  refine e_k 2 (f' := (58, [(0, .int p1), (1, .long p2), (3, .long p3)], [.long p3, .long p2])) rfl ?_
  obtain ⟨v5, I5, J5, h5, hb⟩ := oc_call hb
  refine r_cs (z := m_Sh_times) (As := [.long p2, .long p3]) (rest := []) rfl rfl rfl rfl rfl rfl (E_Sh_times  h5 ⟨_, rfl, ?_⟩)
  obtain ⟨rfl, rfl, rfl⟩ := s_inj hb
  exact e_r rfl rfl K
theorem E_Hall_isInCheck {w1 : Nat} {p2 : Int32} {X : MX} {I : MI} {J : MJ} {v : Int32} {I' : MI} {J' : MJ} (hw_w1 : w1 < 4) (hb : f_Hall_isInCheck w1 p2 I J = some (v, I', J')) (K : P (.inl (some (.int v))) (hX X I' J')) : am_E (gG L xs) d m_Hall_isInCheck (0, lv_args 0 [.ref (18 + 21 * w1), .int p2], []) (hX X I J) P := by
  unfold f_Hall_isInCheck at hb
  refine e_k 1 (f' := (1, [(0, .ref (18 + 21 * w1)), (1, .int p2)], [.ref (18 + 21 * w1)])) rfl ?_
  refine r_geti rfl (x_ltp hw_w1 (by decide)) (sS_p0 hw_w1) rfl ?_
  refine e_k 2 (f' := (if 8 ≤ (I (18 + 21 * w1) 9) then 11 else 9, [(0, .ref (18 + 21 * w1)), (1, .int p2)], [])) rfl ?_
  refine e_if (fun c1 => ?_) (fun c1 => ?_)
  · replace hb := i_pos c1 hb
    refine e_k 3 (f' := (if ¬ p2 = 16 then 39 else 17, [(0, .ref (18 + 21 * w1)), (1, .int p2)], [])) rfl ?_
    refine e_if (fun c2 => ?_) (fun c2 => ?_)
    · replace hb := i_pos c2 hb
      refine e_k 1 (f' := (40, [(0, .ref (18 + 21 * w1)), (1, .int p2)], [.int 0])) rfl ?_
      obtain ⟨rfl, rfl, rfl⟩ := s_inj hb
      exact e_r rfl rfl K
    · replace hb := i_neg c2 hb
      refine e_k 1 (f' := (18, [(0, .ref (18 + 21 * w1)), (1, .int p2)], [.ref (18 + 21 * w1)])) rfl ?_
      refine r_geti rfl (x_ltp hw_w1 (by decide)) (sS_p0 hw_w1) rfl ?_
      refine e_k 2 (f' := (if (I (18 + 21 * w1) 9) < 10 then 39 else 26, [(0, .ref (18 + 21 * w1)), (1, .int p2)], [])) rfl ?_
      refine e_if (fun c3 => ?_) (fun c3 => ?_)
      · replace hb := i_pos c3 hb
        refine e_k 1 (f' := (40, [(0, .ref (18 + 21 * w1)), (1, .int p2)], [.int 0])) rfl ?_
        obtain ⟨rfl, rfl, rfl⟩ := s_inj hb
        exact e_r rfl rfl K
      · replace hb := i_neg c3 hb
        refine e_k 1 (f' := (27, [(0, .ref (18 + 21 * w1)), (1, .int p2)], [.ref (18 + 21 * w1)])) rfl ?_
        refine r_geti rfl (x_ltp hw_w1 (by decide)) (sS_p0 hw_w1) rfl ?_
        refine e_k 2 (f' := (if 18 ≤ (I (18 + 21 * w1) 9) then 39 else 35, [(0, .ref (18 + 21 * w1)), (1, .int p2)], [])) rfl ?_
        refine e_if (fun c4 => ?_) (fun c4 => ?_)
        · replace hb := i_pos c4 hb
          refine e_k 1 (f' := (40, [(0, .ref (18 + 21 * w1)), (1, .int p2)], [.int 0])) rfl ?_
          obtain ⟨rfl, rfl, rfl⟩ := s_inj hb
          exact e_r rfl rfl K
        · replace hb := i_neg c4 hb
          refine e_k 2 (f' := (40, [(0, .ref (18 + 21 * w1)), (1, .int p2)], [.int 1])) rfl ?_
          obtain ⟨rfl, rfl, rfl⟩ := s_inj hb
          exact e_r rfl rfl K
  · replace hb := i_neg c1 hb
    refine e_k 1 (f' := (10, [(0, .ref (18 + 21 * w1)), (1, .int p2)], [.int 1])) rfl ?_
    obtain ⟨rfl, rfl, rfl⟩ := s_inj hb
    exact e_r rfl rfl K
theorem E_Hall_sendShown {w2 : Nat} {X : MX} {I : MI} {J : MJ} {v : Int32} {I' : MI} {J' : MJ} (hw_w2 : w2 < 4) (hb : f_Hall_sendShown w2 I J = some (v, I', J')) (K : P (.inl (some (.int v))) (hX X I' J')) : am_E (gG L xs) (d + 1) m_Hall_sendShown (0, lv_args 0 [.ref 14, .ref (18 + 21 * w2)], []) (hX X I J) P := by
  unfold f_Hall_sendShown at hb
  refine e_k 2 (f' := (2, [(0, .ref 14), (1, .ref (18 + 21 * w2))], [.ref (18 + 21 * w2), .ref 14])) rfl ?_
  obtain ⟨v1, I1, J1, h1, hb⟩ := oc_call hb
  refine r_cv (z := m_Hall_sends) (As := [.ref (18 + 21 * w2)]) (rest := []) rfl rfl rfl rfl rfl (x_ltn rfl) rfl rfl (E_Hall_sends hw_w2 h1 ⟨_, rfl, ?_⟩)
  refine e_k 1 (f' := (if ¬ v1 = 0 then 10 else 8, [(0, .ref 14), (1, .ref (18 + 21 * w2))], [])) rfl ?_
  refine e_if (fun c2 => ?_) (fun c2 => ?_)
  · replace hb := i_pos c2 hb
    refine e_k 1 (f' := (11, [(0, .ref 14), (1, .ref (18 + 21 * w2))], [.ref (18 + 21 * w2)])) rfl ?_
    refine r_getr rfl (x_ltp hw_w2 (by decide)) (sS_p0 hw_w2) rfl ?_
    refine e_k 1 (f' := (15, [(0, .ref 14), (1, .ref (18 + 21 * w2))], [.ref (32 + 21 * w2), .ref (32 + 21 * w2)])) rfl ?_
    refine r_geti rfl (x_ltp hw_w2 (by decide)) (sS_p14 hw_w2) rfl ?_
    refine e_k 2 (f' := (20, [(0, .ref 14), (1, .ref (18 + 21 * w2))], [.int ((I1 (32 + 21 * w2) 6) + 1), .ref (32 + 21 * w2)])) rfl ?_
    obtain ⟨I3, eI3, hb⟩ := p_nm hb
    refine r_puti' rfl (x_ltp hw_w2 (by decide)) (sS_p14 hw_w2) rfl eI3 ?_
    refine e_k 2 (f' := (26, [(0, .ref 14), (1, .ref (18 + 21 * w2))], [.int 9, .ref (18 + 21 * w2)])) rfl ?_
    obtain ⟨I4, eI4, hb⟩ := p_nm hb
    refine r_puti' rfl (x_ltp hw_w2 (by decide)) (sS_p0 hw_w2) rfl eI4 ?_
    refine e_k 1 (f' := (30, [(0, .ref 14), (1, .ref (18 + 21 * w2))], [.int 1])) rfl ?_
    obtain ⟨rfl, rfl, rfl⟩ := s_inj hb
    exact e_r rfl rfl K
  · replace hb := i_neg c2 hb
    refine e_k 1 (f' := (9, [(0, .ref 14), (1, .ref (18 + 21 * w2))], [.int 0])) rfl ?_
    obtain ⟨rfl, rfl, rfl⟩ := s_inj hb
    exact e_r rfl rfl K
theorem E_Hall_receiveShown {w2 : Nat} {p3 : Int32} {X : MX} {I : MI} {J : MJ} {v : Int32} {I' : MI} {J' : MJ} (hw_w2 : w2 < 4) (hb : f_Hall_receiveShown w2 p3 I J = some (v, I', J')) (K : P (.inl (some (.int v))) (hX X I' J')) : am_E (gG L xs) (d + 3) m_Hall_receiveShown (0, lv_args 0 [.ref 14, .ref (18 + 21 * w2), .int p3], []) (hX X I J) P := by
  unfold f_Hall_receiveShown at hb
  refine e_k 3 (f' := (3, [(0, .ref 14), (1, .ref (18 + 21 * w2)), (2, .int p3)], [.int (-1), .ref (18 + 21 * w2), .ref 14])) rfl ?_
  obtain ⟨v1, I1, J1, h1, hb⟩ := oc_call hb
  refine r_cv (z := m_Hall_receives) (As := [.ref (18 + 21 * w2), .int (-1)]) (rest := []) rfl rfl rfl rfl rfl (x_ltn rfl) rfl rfl (E_Hall_receives hw_w2 h1 ⟨_, rfl, ?_⟩)
  refine e_k 1 (f' := (if ¬ v1 = 0 then 11 else 9, [(0, .ref 14), (1, .ref (18 + 21 * w2)), (2, .int p3)], [])) rfl ?_
  refine e_if (fun c2 => ?_) (fun c2 => ?_)
  · replace hb := i_pos c2 hb
    refine e_k 4 (f' := (15, [(0, .ref 14), (1, .ref (18 + 21 * w2)), (2, .int p3)], [.int 1, .int (-1), .ref (18 + 21 * w2), .ref 14])) rfl ?_
    obtain ⟨v3, I3, J3, h3, hb⟩ := oc_call hb
    refine r_cv (z := m_Hall_gatherErrors) (As := [.ref (18 + 21 * w2), .int (-1), .int 1]) (rest := []) rfl rfl rfl rfl rfl (x_ltn rfl) rfl rfl (E_Hall_gatherErrors hw_w2 h3 ⟨_, rfl, ?_⟩)
    refine e_k 2 (f' := (20, [(0, .ref 14), (1, .ref (18 + 21 * w2)), (2, .int p3)], [.ref (18 + 21 * w2), .ref (18 + 21 * w2)])) rfl ?_
    refine r_getr rfl (x_ltp hw_w2 (by decide)) (sS_p0 hw_w2) rfl ?_
    refine r_getr rfl (x_ltp hw_w2 (by decide)) (sS_p1 hw_w2) rfl ?_
    refine e_k 1 (f' := (27, [(0, .ref 14), (1, .ref (18 + 21 * w2)), (2, .int p3)], [.int p3, .ref (21 + 21 * w2), .ref (18 + 21 * w2)])) rfl ?_
    obtain ⟨v4, I4, J4, h4, hb⟩ := oc_call hb
    refine r_cs (z := m_Sh_read) (As := [.ref (21 + 21 * w2), .int p3]) (rest := [.ref (18 + 21 * w2)]) rfl rfl rfl rfl rfl rfl (E_Sh_read ⟨(x_ltp hw_w2 (by decide)), (x_t0 hw_w2 (by decide)), (sS_p3 hw_w2)⟩ h4 ⟨_, rfl, ?_⟩)
    refine e_k 1 (f' := (31, [(0, .ref 14), (1, .ref (18 + 21 * w2)), (2, .int p3)], [.ref 14, .long v4, .ref (18 + 21 * w2)])) rfl ?_
    refine r_getr rfl (x_ltn rfl) rfl rfl ?_
    refine e_k 1 (f' := (35, [(0, .ref 14), (1, .ref (18 + 21 * w2)), (2, .int p3)], [.int 0, .ref 111, .long v4, .ref (18 + 21 * w2)])) rfl ?_
    obtain ⟨o5, hb⟩ := ob_in hb
    refine r_lald rfl rfl (x_ltn rfl) rfl o5 ?_
    obtain ⟨v6, I6, J6, h6, hb⟩ := oc_call hb
    refine r_cs (z := m_Sh_plus) (As := [.long v4, .long (J4 111 (Int32.toNatClampNeg 0))]) (rest := [.ref (18 + 21 * w2)]) rfl rfl rfl rfl rfl rfl (E_Sh_plus  h6 ⟨_, rfl, ?_⟩)
    obtain ⟨J7, eJ7, hb⟩ := p_nm hb
    refine r_putl' rfl (x_ltp hw_w2 (by decide)) (sS_p0 hw_w2) rfl eJ7 ?_
    refine e_k 2 (f' := (45, [(0, .ref 14), (1, .ref (18 + 21 * w2)), (2, .int p3)], [.int 10, .ref (18 + 21 * w2)])) rfl ?_
    obtain ⟨I8, eI8, hb⟩ := p_nm hb
    refine r_puti' rfl (x_ltp hw_w2 (by decide)) (sS_p0 hw_w2) rfl eI8 ?_
    refine e_k 1 (f' := (49, [(0, .ref 14), (1, .ref (18 + 21 * w2)), (2, .int p3)], [.int 1])) rfl ?_
    obtain ⟨rfl, rfl, rfl⟩ := s_inj hb
    exact e_r rfl rfl K
  · replace hb := i_neg c2 hb
    refine e_k 1 (f' := (10, [(0, .ref 14), (1, .ref (18 + 21 * w2)), (2, .int p3)], [.int 0])) rfl ?_
    obtain ⟨rfl, rfl, rfl⟩ := s_inj hb
    exact e_r rfl rfl K
theorem E_Hall_noteBonds_2 {X : MX} {w2 : Nat} (hw_w2 : w2 < 4) : ∀ (fu : Nat) {l2 : Int32} {I : MI} {J : MJ} {r : (Unit)} {I' : MI} {J' : MJ}, f_Hall_noteBonds_2 w2 fu l2 I J = some (r, I', J') → am_E (gG L xs) d m_Hall_noteBonds (34, [(1, .ref (25 + 21 * w2))], []) (hX X I' J') P → am_E (gG L xs) d m_Hall_noteBonds (2, [(0, .ref 14), (1, .ref (25 + 21 * w2)), (2, .int l2)], []) (hX X I J) P := by
  intro fu
  induction fu with
  | zero =>
    intros
    rename_i hb _
    cases hb
  | succ fu ih =>
    intro l2 I J r I' J' hb K
    unfold f_Hall_noteBonds_2 at hb
    refine e_k 2 (f' := (4, [(0, .ref 14), (1, .ref (25 + 21 * w2)), (2, .int l2)], [.ref 14, .int l2])) rfl ?_
    refine r_geti rfl (x_ltn rfl) rfl rfl ?_
    refine e_k 1 (f' := (if (I 14 6) ≤ l2 then 34 else 10, [(0, .ref 14), (1, .ref (25 + 21 * w2)), (2, .int l2)], [])) rfl ?_
    refine e_if (fun c1 => ?_) (fun c1 => ?_)
    · replace hb := i_pos c1 hb
      refine e_sub (ls := [(1, .ref (25 + 21 * w2))]) rfl ⟨rfl, trivial⟩ ?_
      obtain ⟨rfl, rfl, rfl⟩ := s_inj hb
      exact K
    · replace hb := i_neg c1 hb
      refine e_k 1 (f' := (11, [(0, .ref 14), (1, .ref (25 + 21 * w2)), (2, .int l2)], [.ref (25 + 21 * w2)])) rfl ?_
      refine r_getr rfl (x_ltp hw_w2 (by decide)) (sS_p7 hw_w2) rfl ?_
      refine e_k 2 (f' := (16, [(0, .ref 14), (1, .ref (25 + 21 * w2)), (2, .int l2)], [.ref 14, .int l2, .ref (28 + 21 * w2)])) rfl ?_
      refine r_getr rfl (x_ltn rfl) rfl rfl ?_
      refine e_k 1 (f' := (20, [(0, .ref 14), (1, .ref (25 + 21 * w2)), (2, .int l2)], [.int l2, .ref 17, .int l2, .ref (28 + 21 * w2)])) rfl ?_
      obtain ⟨o2, hb⟩ := ob_in hb
      refine r_pald rfl o2 ?_
      refine r_getr rfl (x_ltp (vp_lt o2) (by decide)) (sS_p0 (vp_lt o2)) rfl ?_
      refine r_geti rfl (x_ltp (vp_lt o2) (by decide)) (sS_p7 (vp_lt o2)) rfl ?_
      obtain ⟨o3, hb⟩ := ob_in hb
      obtain ⟨I4, eI4, hb⟩ := p_nm hb
      refine r_iast' rfl (x_ltp hw_w2 (by decide)) (sS_p10 hw_w2) o3 eI4 ?_
      refine e_k 2 (f' := (2, [(2, .int (l2 + 1)), (0, .ref 14), (1, .ref (25 + 21 * w2))], [])) rfl ?_
      refine e_sub (ls := [(0, .ref 14), (1, .ref (25 + 21 * w2)), (2, .int (l2 + 1))]) rfl ⟨rfl, rfl, rfl, trivial⟩ ?_
      exact ih  hb K
theorem E_Hall_noteBonds {w2 : Nat} {X : MX} {I : MI} {J : MJ} {v : Unit} {I' : MI} {J' : MJ} (hw_w2 : w2 < 4) (hb : f_Hall_noteBonds w2 I J = some (v, I', J')) (K : P (.inl (none)) (hX X I' J')) : am_E (gG L xs) d m_Hall_noteBonds (0, lv_args 0 [.ref 14, .ref (25 + 21 * w2)], []) (hX X I J) P := by
  unfold f_Hall_noteBonds at hb
  refine e_k 2 (f' := (2, [(2, .int 0), (0, .ref 14), (1, .ref (25 + 21 * w2))], [])) rfl ?_
  refine e_sub (ls := [(0, .ref 14), (1, .ref (25 + 21 * w2)), (2, .int 0)]) rfl ⟨rfl, rfl, rfl, trivial⟩ ?_
  obtain ⟨u5, I5, J5, h5, hb⟩ := oc_call hb
  refine E_Hall_noteBonds_2 hw_w2 gF  h5 ?_
  refine e_k 2 (f' := (36, [(1, .ref (25 + 21 * w2))], [.int 1, .ref (25 + 21 * w2)])) rfl ?_
  obtain ⟨I6, eI6, hb⟩ := p_nm hb
  refine r_putz' rfl (x_ltp hw_w2 (by decide)) (sS_p7 hw_w2) rfl (Or.inr rfl) eI6 ?_
  obtain ⟨rfl, rfl, rfl⟩ := s_inj hb
  exact e_r rfl rfl K
theorem E_Hall_ownSeed {p2 : Int32} {X : MX} {I : MI} {J : MJ} {v : Int64} {I' : MI} {J' : MJ} (hb : f_Hall_ownSeed p2 I J = some (v, I', J')) (K : P (.inl (some (.long v))) (hX X I' J')) : am_E (gG L xs) d m_Hall_ownSeed (0, lv_args 0 [.ref 14, .int p2], []) (hX X I J) P := by
  unfold f_Hall_ownSeed at hb
  refine e_k 1 (f' := (1, [(0, .ref 14), (1, .int p2)], [.ref 14])) rfl ?_
  refine r_getl rfl (x_ltn rfl) rfl rfl ?_
  refine e_k 7 (f' := (13, [(0, .ref 14), (1, .int p2)], [.long ((J 14 7) + (1000003 * (Int32.toInt64 (p2 + 1))))])) rfl ?_
  obtain ⟨rfl, rfl, rfl⟩ := s_inj hb
  exact e_r rfl rfl K
theorem E_Hall_bring {p2 : Int32} {p3 : Int32} {X : MX} {I : MI} {J : MJ} {v : Int32} {I' : MI} {J' : MJ} (hb : f_Hall_bring p2 p3 I J = some (v, I', J')) (K : P (.inl (some (.int v))) (hX X I' J')) : am_E (gG L xs) (d + 1) m_Hall_bring (0, lv_args 0 [.ref 14, .int p2, .int p3], []) (hX X I J) P := by
  unfold f_Hall_bring at hb
  refine e_k 2 (f' := (2, [(0, .ref 14), (1, .int p2), (2, .int p3)], [.int p2, .ref 14])) rfl ?_
  obtain ⟨v1, I1, J1, h1, hb⟩ := oc_call hb
  refine r_cv (z := m_Hall_has) (As := [.int p2]) (rest := []) rfl rfl rfl rfl rfl (x_ltn rfl) rfl rfl (E_Hall_has  h1 ⟨_, rfl, ?_⟩)
  refine e_k 1 (f' := (if v1 = 0 then 16 else 8, [(0, .ref 14), (1, .int p2), (2, .int p3)], [])) rfl ?_
  refine e_if (fun c2 => ?_) (fun c2 => ?_)
  · replace hb := i_pos c2 hb
    refine e_k 1 (f' := (17, [(0, .ref 14), (1, .int p2), (2, .int p3)], [.int 0])) rfl ?_
    obtain ⟨rfl, rfl, rfl⟩ := s_inj hb
    exact e_r rfl rfl K
  · replace hb := i_neg c2 hb
    refine e_k 2 (f' := (10, [(0, .ref 14), (1, .int p2), (2, .int p3)], [.int p3, .ref 14])) rfl ?_
    obtain ⟨v3, I3, J3, h3, hb⟩ := oc_call hb
    refine r_cv (z := m_Hall_has) (As := [.int p3]) (rest := []) rfl rfl rfl rfl rfl (x_ltn rfl) rfl rfl (E_Hall_has  h3 ⟨_, rfl, ?_⟩)
    refine e_k 1 (f' := (if ¬ v3 = 0 then 18 else 16, [(0, .ref 14), (1, .int p2), (2, .int p3)], [])) rfl ?_
    refine e_if (fun c4 => ?_) (fun c4 => ?_)
    · replace hb := i_pos c4 hb
      refine e_k 1 (f' := (19, [(0, .ref 14), (1, .int p2), (2, .int p3)], [.ref 14])) rfl ?_
      refine r_getr rfl (x_ltn rfl) rfl rfl ?_
      refine e_k 1 (f' := (23, [(0, .ref 14), (1, .int p2), (2, .int p3)], [.int p2, .ref 17])) rfl ?_
      obtain ⟨o5, hb⟩ := ob_in hb
      refine r_pald rfl o5 ?_
      refine r_getr rfl (x_ltp (vp_lt o5) (by decide)) (sS_p0 (vp_lt o5)) rfl ?_
      refine e_k 2 (f' := (29, [(3, .ref (32 + 21 * (Int32.toNatClampNeg p2))), (0, .ref 14), (1, .int p2), (2, .int p3)], [.ref 14])) rfl ?_
      refine r_getr rfl (x_ltn rfl) rfl rfl ?_
      refine e_k 1 (f' := (33, [(3, .ref (32 + 21 * (Int32.toNatClampNeg p2))), (0, .ref 14), (1, .int p2), (2, .int p3)], [.int p3, .ref 17])) rfl ?_
      obtain ⟨o6, hb⟩ := ob_in hb
      refine r_pald rfl o6 ?_
      refine r_getr rfl (x_ltp (vp_lt o6) (by decide)) (sS_p0 (vp_lt o6)) rfl ?_
      refine e_k 2 (f' := (40, [(4, .ref (32 + 21 * (Int32.toNatClampNeg p3))), (3, .ref (32 + 21 * (Int32.toNatClampNeg p2))), (0, .ref 14), (1, .int p2), (2, .int p3)], [.ref (32 + 21 * (Int32.toNatClampNeg p2))])) rfl ?_
      refine r_getr rfl (x_ltp (vp_lt o5) (by decide)) (sS_p14 (vp_lt o5)) rfl ?_
      refine e_k 1 (f' := (44, [(4, .ref (32 + 21 * (Int32.toNatClampNeg p3))), (3, .ref (32 + 21 * (Int32.toNatClampNeg p2))), (0, .ref 14), (1, .int p2), (2, .int p3)], [.int p3, .ref (33 + 21 * (Int32.toNatClampNeg p2))])) rfl ?_
      obtain ⟨o7, hb⟩ := ob_in hb
      refine r_iald rfl (x_t0 (vp_lt o5) (by decide)) (x_ltp (vp_lt o5) (by decide)) (sS_p15 (vp_lt o5)) o7 ?_
      refine e_k 1 (f' := (if (I3 (33 + 21 * (Int32.toNatClampNeg p2)) (Int32.toNatClampNeg p3)) ≤ 0 then 71 else 48, [(4, .ref (32 + 21 * (Int32.toNatClampNeg p3))), (3, .ref (32 + 21 * (Int32.toNatClampNeg p2))), (0, .ref 14), (1, .int p2), (2, .int p3)], [])) rfl ?_
      refine e_if (fun c8 => ?_) (fun c8 => ?_)
      · replace hb := i_pos c8 hb
        refine e_k 1 (f' := (72, [(4, .ref (32 + 21 * (Int32.toNatClampNeg p3))), (3, .ref (32 + 21 * (Int32.toNatClampNeg p2))), (0, .ref 14), (1, .int p2), (2, .int p3)], [.ref (32 + 21 * (Int32.toNatClampNeg p2))])) rfl ?_
        refine r_getr rfl (x_ltp (vp_lt o5) (by decide)) (sS_p14 (vp_lt o5)) rfl ?_
        refine e_k 1 (f' := (76, [(4, .ref (32 + 21 * (Int32.toNatClampNeg p3))), (3, .ref (32 + 21 * (Int32.toNatClampNeg p2))), (0, .ref 14), (1, .int p2), (2, .int p3)], [.int p3, .ref (34 + 21 * (Int32.toNatClampNeg p2))])) rfl ?_
        obtain ⟨o9, hb⟩ := ob_in hb
        refine r_zald rfl (x_t0 (vp_lt o5) (by decide)) (x_ltp (vp_lt o5) (by decide)) (sS_p16 (vp_lt o5)) o9 ?_
        refine e_k 1 (f' := (if (I3 (34 + 21 * (Int32.toNatClampNeg p2)) (Int32.toNatClampNeg p3)) = 0 then 95 else 80, [(4, .ref (32 + 21 * (Int32.toNatClampNeg p3))), (3, .ref (32 + 21 * (Int32.toNatClampNeg p2))), (0, .ref 14), (1, .int p2), (2, .int p3)], [])) rfl ?_
        refine e_if (fun c10 => ?_) (fun c10 => ?_)
        · replace hb := i_pos c10 hb
          refine e_k 1 (f' := (96, [(4, .ref (32 + 21 * (Int32.toNatClampNeg p3))), (3, .ref (32 + 21 * (Int32.toNatClampNeg p2))), (0, .ref 14), (1, .int p2), (2, .int p3)], [.int 0])) rfl ?_
          obtain ⟨rfl, rfl, rfl⟩ := s_inj hb
          exact e_r rfl rfl K
        · replace hb := i_neg c10 hb
          refine e_k 1 (f' := (81, [(4, .ref (32 + 21 * (Int32.toNatClampNeg p3))), (3, .ref (32 + 21 * (Int32.toNatClampNeg p2))), (0, .ref 14), (1, .int p2), (2, .int p3)], [.ref (32 + 21 * (Int32.toNatClampNeg p2))])) rfl ?_
          refine r_getr rfl (x_ltp (vp_lt o5) (by decide)) (sS_p14 (vp_lt o5)) rfl ?_
          refine e_k 2 (f' := (86, [(4, .ref (32 + 21 * (Int32.toNatClampNeg p3))), (3, .ref (32 + 21 * (Int32.toNatClampNeg p2))), (0, .ref 14), (1, .int p2), (2, .int p3)], [.int 0, .int p3, .ref (34 + 21 * (Int32.toNatClampNeg p2))])) rfl ?_
          obtain ⟨o11, hb⟩ := ob_in hb
          obtain ⟨I12, eI12, hb⟩ := p_nm hb
          refine r_zast' rfl (x_ltp (vp_lt o5) (by decide)) (sS_p16 (vp_lt o5)) o11 eI12 ?_
          refine e_k 2 (f' := (90, [(4, .ref (32 + 21 * (Int32.toNatClampNeg p3))), (3, .ref (32 + 21 * (Int32.toNatClampNeg p2))), (0, .ref 14), (1, .int p2), (2, .int p3)], [.int 1, .ref (32 + 21 * (Int32.toNatClampNeg p3))])) rfl ?_
          obtain ⟨I13, eI13, hb⟩ := p_nm hb
          refine r_putz' rfl (x_ltp (vp_lt o6) (by decide)) (sS_p14 (vp_lt o6)) rfl (Or.inr rfl) eI13 ?_
          refine e_k 1 (f' := (94, [(4, .ref (32 + 21 * (Int32.toNatClampNeg p3))), (3, .ref (32 + 21 * (Int32.toNatClampNeg p2))), (0, .ref 14), (1, .int p2), (2, .int p3)], [.int 1])) rfl ?_
          obtain ⟨rfl, rfl, rfl⟩ := s_inj hb
          exact e_r rfl rfl K
      · replace hb := i_neg c8 hb
        refine e_k 1 (f' := (49, [(4, .ref (32 + 21 * (Int32.toNatClampNeg p3))), (3, .ref (32 + 21 * (Int32.toNatClampNeg p2))), (0, .ref 14), (1, .int p2), (2, .int p3)], [.ref (32 + 21 * (Int32.toNatClampNeg p2))])) rfl ?_
        refine r_getr rfl (x_ltp (vp_lt o5) (by decide)) (sS_p14 (vp_lt o5)) rfl ?_
        refine e_k 2 (f' := (54, [(4, .ref (32 + 21 * (Int32.toNatClampNeg p3))), (3, .ref (32 + 21 * (Int32.toNatClampNeg p2))), (0, .ref 14), (1, .int p2), (2, .int p3)], [.int p3, .ref (33 + 21 * (Int32.toNatClampNeg p2)), .int p3, .ref (33 + 21 * (Int32.toNatClampNeg p2))])) rfl ?_
        obtain ⟨o14, hb⟩ := ob_in hb
        refine r_iald rfl (x_t0 (vp_lt o5) (by decide)) (x_ltp (vp_lt o5) (by decide)) (sS_p15 (vp_lt o5)) o14 ?_
        refine e_k 2 (f' := (57, [(4, .ref (32 + 21 * (Int32.toNatClampNeg p3))), (3, .ref (32 + 21 * (Int32.toNatClampNeg p2))), (0, .ref 14), (1, .int p2), (2, .int p3)], [.int ((I3 (33 + 21 * (Int32.toNatClampNeg p2)) (Int32.toNatClampNeg p3)) - 1), .int p3, .ref (33 + 21 * (Int32.toNatClampNeg p2))])) rfl ?_
        obtain ⟨o15, hb⟩ := ob_in hb
        obtain ⟨I16, eI16, hb⟩ := p_nm hb
        refine r_iast' rfl (x_ltp (vp_lt o5) (by decide)) (sS_p15 (vp_lt o5)) o15 eI16 ?_
        refine e_k 1 (f' := (60, [(4, .ref (32 + 21 * (Int32.toNatClampNeg p3))), (3, .ref (32 + 21 * (Int32.toNatClampNeg p2))), (0, .ref 14), (1, .int p2), (2, .int p3)], [.ref (32 + 21 * (Int32.toNatClampNeg p3))])) rfl ?_
        refine r_getr rfl (x_ltp (vp_lt o6) (by decide)) (sS_p14 (vp_lt o6)) rfl ?_
        refine e_k 2 (f' := (65, [(4, .ref (32 + 21 * (Int32.toNatClampNeg p3))), (3, .ref (32 + 21 * (Int32.toNatClampNeg p2))), (0, .ref 14), (1, .int p2), (2, .int p3)], [.int p2, .ref (35 + 21 * (Int32.toNatClampNeg p3)), .int p2, .ref (35 + 21 * (Int32.toNatClampNeg p3))])) rfl ?_
        obtain ⟨o17, hb⟩ := ob_in hb
        refine r_iald rfl (x_t0 (vp_lt o6) (by decide)) (x_ltp (vp_lt o6) (by decide)) (sS_p17 (vp_lt o6)) o17 ?_
        refine e_k 2 (f' := (68, [(4, .ref (32 + 21 * (Int32.toNatClampNeg p3))), (3, .ref (32 + 21 * (Int32.toNatClampNeg p2))), (0, .ref 14), (1, .int p2), (2, .int p3)], [.int ((I16 (35 + 21 * (Int32.toNatClampNeg p3)) (Int32.toNatClampNeg p2)) + 1), .int p2, .ref (35 + 21 * (Int32.toNatClampNeg p3))])) rfl ?_
        obtain ⟨o18, hb⟩ := ob_in hb
        obtain ⟨I19, eI19, hb⟩ := p_nm hb
        refine r_iast' rfl (x_ltp (vp_lt o6) (by decide)) (sS_p17 (vp_lt o6)) o18 eI19 ?_
        refine e_k 1 (f' := (70, [(4, .ref (32 + 21 * (Int32.toNatClampNeg p3))), (3, .ref (32 + 21 * (Int32.toNatClampNeg p2))), (0, .ref 14), (1, .int p2), (2, .int p3)], [.int 1])) rfl ?_
        obtain ⟨rfl, rfl, rfl⟩ := s_inj hb
        exact e_r rfl rfl K
    · replace hb := i_neg c4 hb
      refine e_k 1 (f' := (17, [(0, .ref 14), (1, .int p2), (2, .int p3)], [.int 0])) rfl ?_
      obtain ⟨rfl, rfl, rfl⟩ := s_inj hb
      exact e_r rfl rfl K
theorem E_Hall_bringAll_25 {X : MX} : ∀ (fu : Nat) {l1 : Int32} {l2 : Int32} {l3 : Int32} {l4 : Int32} {I : MI} {J : MJ} {r : (Int32)} {I' : MI} {J' : MJ}, f_Hall_bringAll_25  fu l1 l2 l3 l4 I J = some (r, I', J') → am_E (gG L xs) (d + 2) m_Hall_bringAll (48, [(0, .ref 14), (1, .int r), (2, .int l2), (3, .int l3)], []) (hX X I' J') P → am_E (gG L xs) (d + 2) m_Hall_bringAll (25, [(0, .ref 14), (1, .int l1), (2, .int l2), (3, .int l3), (4, .int l4)], []) (hX X I J) P := by
  intro fu
  induction fu with
  | zero =>
    intros
    rename_i hb _
    cases hb
  | succ fu ih =>
    intro l1 l2 l3 l4 I J r I' J' hb K
    unfold f_Hall_bringAll_25 at hb
    refine e_k 3 (f' := (if 4 < l4 then 48 else 31, [(0, .ref 14), (1, .int l1), (2, .int l2), (3, .int l3), (4, .int l4)], [])) rfl ?_
    refine e_if (fun c3 => ?_) (fun c3 => ?_)
    · replace hb := i_pos c3 hb
      refine e_sub (ls := [(0, .ref 14), (1, .int l1), (2, .int l2), (3, .int l3)]) rfl ⟨rfl, rfl, rfl, rfl, trivial⟩ ?_
      obtain ⟨rfl, rfl, rfl⟩ := s_inj hb
      exact K
    · replace hb := i_neg c3 hb
      refine e_k 3 (f' := (34, [(0, .ref 14), (1, .int l1), (2, .int l2), (3, .int l3), (4, .int l4)], [.int l3, .int l2, .ref 14])) rfl ?_
      obtain ⟨v4, I4, J4, h4, hb⟩ := oc_call hb
      refine r_cv (z := m_Hall_bring) (As := [.int l2, .int l3]) (rest := []) rfl rfl rfl rfl rfl (x_ltn rfl) rfl rfl (E_Hall_bring  h4 ⟨_, rfl, ?_⟩)
      refine e_k 1 (f' := (if v4 = 0 then 48 else 40, [(0, .ref 14), (1, .int l1), (2, .int l2), (3, .int l3), (4, .int l4)], [])) rfl ?_
      refine e_if (fun c5 => ?_) (fun c5 => ?_)
      · replace hb := i_pos c5 hb
        refine e_sub (ls := [(0, .ref 14), (1, .int l1), (2, .int l2), (3, .int l3)]) rfl ⟨rfl, rfl, rfl, rfl, trivial⟩ ?_
        obtain ⟨rfl, rfl, rfl⟩ := s_inj hb
        exact K
      · replace hb := i_neg c5 hb
        refine e_k 4 (f' := (25, [(4, .int (l4 + 1)), (1, .int 1), (0, .ref 14), (2, .int l2), (3, .int l3)], [])) rfl ?_
        refine e_sub (ls := [(0, .ref 14), (1, .int 1), (2, .int l2), (3, .int l3), (4, .int (l4 + 1))]) rfl ⟨rfl, rfl, rfl, rfl, rfl, trivial⟩ ?_
        exact ih  hb K
theorem E_Hall_bringAll_14 {X : MX} : ∀ (fu : Nat) {l1 : Int32} {l2 : Int32} {l3 : Int32} {I : MI} {J : MJ} {r : (Int32)} {I' : MI} {J' : MJ}, f_Hall_bringAll_14  fu l1 l2 l3 I J = some (r, I', J') → am_E (gG L xs) (d + 2) m_Hall_bringAll (54, [(0, .ref 14), (1, .int r), (2, .int l2)], []) (hX X I' J') P → am_E (gG L xs) (d + 2) m_Hall_bringAll (14, [(0, .ref 14), (1, .int l1), (2, .int l2), (3, .int l3)], []) (hX X I J) P := by
  intro fu
  induction fu with
  | zero =>
    intros
    rename_i hb _
    cases hb
  | succ fu ih =>
    intro l1 l2 l3 I J r I' J' hb K
    unfold f_Hall_bringAll_14 at hb
    refine e_k 2 (f' := (16, [(0, .ref 14), (1, .int l1), (2, .int l2), (3, .int l3)], [.ref 14, .int l3])) rfl ?_
    refine r_geti rfl (x_ltn rfl) rfl rfl ?_
    refine e_k 1 (f' := (if (I 14 6) ≤ l3 then 54 else 22, [(0, .ref 14), (1, .int l1), (2, .int l2), (3, .int l3)], [])) rfl ?_
    refine e_if (fun c2 => ?_) (fun c2 => ?_)
    · replace hb := i_pos c2 hb
      refine e_sub (ls := [(0, .ref 14), (1, .int l1), (2, .int l2)]) rfl ⟨rfl, rfl, rfl, trivial⟩ ?_
      obtain ⟨rfl, rfl, rfl⟩ := s_inj hb
      exact K
    · replace hb := i_neg c2 hb
      refine e_k 2 (f' := (25, [(4, .int 0), (0, .ref 14), (1, .int l1), (2, .int l2), (3, .int l3)], [])) rfl ?_
      refine e_sub (ls := [(0, .ref 14), (1, .int l1), (2, .int l2), (3, .int l3), (4, .int 0)]) rfl ⟨rfl, rfl, rfl, rfl, rfl, trivial⟩ ?_
      obtain ⟨u6, I6, J6, h6, hb⟩ := oc_call hb
      refine E_Hall_bringAll_25  gF  h6 ?_
      refine e_k 2 (f' := (14, [(3, .int (l3 + 1)), (0, .ref 14), (1, .int u6), (2, .int l2)], [])) rfl ?_
      refine e_sub (ls := [(0, .ref 14), (1, .int u6), (2, .int l2), (3, .int (l3 + 1))]) rfl ⟨rfl, rfl, rfl, rfl, trivial⟩ ?_
      exact ih  hb K
theorem E_Hall_bringAll_4 {X : MX} : ∀ (fu : Nat) {l1 : Int32} {l2 : Int32} {I : MI} {J : MJ} {r : (Int32)} {I' : MI} {J' : MJ}, f_Hall_bringAll_4  fu l1 l2 I J = some (r, I', J') → am_E (gG L xs) (d + 2) m_Hall_bringAll (60, [(1, .int r)], []) (hX X I' J') P → am_E (gG L xs) (d + 2) m_Hall_bringAll (4, [(0, .ref 14), (1, .int l1), (2, .int l2)], []) (hX X I J) P := by
  intro fu
  induction fu with
  | zero =>
    intros
    rename_i hb _
    cases hb
  | succ fu ih =>
    intro l1 l2 I J r I' J' hb K
    unfold f_Hall_bringAll_4 at hb
    refine e_k 2 (f' := (6, [(0, .ref 14), (1, .int l1), (2, .int l2)], [.ref 14, .int l2])) rfl ?_
    refine r_geti rfl (x_ltn rfl) rfl rfl ?_
    refine e_k 1 (f' := (if (I 14 6) ≤ l2 then 60 else 12, [(0, .ref 14), (1, .int l1), (2, .int l2)], [])) rfl ?_
    refine e_if (fun c1 => ?_) (fun c1 => ?_)
    · replace hb := i_pos c1 hb
      refine e_sub (ls := [(1, .int l1)]) rfl ⟨rfl, trivial⟩ ?_
      obtain ⟨rfl, rfl, rfl⟩ := s_inj hb
      exact K
    · replace hb := i_neg c1 hb
      refine e_k 2 (f' := (14, [(3, .int 0), (0, .ref 14), (1, .int l1), (2, .int l2)], [])) rfl ?_
      refine e_sub (ls := [(0, .ref 14), (1, .int l1), (2, .int l2), (3, .int 0)]) rfl ⟨rfl, rfl, rfl, rfl, trivial⟩ ?_
      obtain ⟨u7, I7, J7, h7, hb⟩ := oc_call hb
      refine E_Hall_bringAll_14  gF  h7 ?_
      refine e_k 2 (f' := (4, [(2, .int (l2 + 1)), (0, .ref 14), (1, .int u7)], [])) rfl ?_
      refine e_sub (ls := [(0, .ref 14), (1, .int u7), (2, .int (l2 + 1))]) rfl ⟨rfl, rfl, rfl, trivial⟩ ?_
      exact ih  hb K
theorem E_Hall_bringAll {X : MX} {I : MI} {J : MJ} {v : Int32} {I' : MI} {J' : MJ} (hb : f_Hall_bringAll  I J = some (v, I', J')) (K : P (.inl (some (.int v))) (hX X I' J')) : am_E (gG L xs) (d + 2) m_Hall_bringAll (0, lv_args 0 [.ref 14], []) (hX X I J) P := by
  unfold f_Hall_bringAll at hb
  refine e_k 4 (f' := (4, [(2, .int 0), (1, .int 0), (0, .ref 14)], [])) rfl ?_
  refine e_sub (ls := [(0, .ref 14), (1, .int 0), (2, .int 0)]) rfl ⟨rfl, rfl, rfl, trivial⟩ ?_
  obtain ⟨u8, I8, J8, h8, hb⟩ := oc_call hb
  refine E_Hall_bringAll_4  gF  h8 ?_
  refine e_k 1 (f' := (61, [(1, .int u8)], [.int u8])) rfl ?_
  obtain ⟨o9, hb⟩ := ob_if hb
  obtain ⟨rfl, rfl, rfl⟩ := s_inj hb
  exact e_r rfl (if_pos o9) K
theorem E_Hall_onWire {p2 : Int32} {p3 : Int32} {X : MX} {I : MI} {J : MJ} {v : Int32} {I' : MI} {J' : MJ} (hb : f_Hall_onWire p2 p3 I J = some (v, I', J')) (K : P (.inl (some (.int v))) (hX X I' J')) : am_E (gG L xs) (d + 1) m_Hall_onWire (0, lv_args 0 [.ref 14, .int p2, .int p3], []) (hX X I J) P := by
  unfold f_Hall_onWire at hb
  refine e_k 2 (f' := (2, [(0, .ref 14), (1, .int p2), (2, .int p3)], [.int p2, .ref 14])) rfl ?_
  obtain ⟨v1, I1, J1, h1, hb⟩ := oc_call hb
  refine r_cv (z := m_Hall_has) (As := [.int p2]) (rest := []) rfl rfl rfl rfl rfl (x_ltn rfl) rfl rfl (E_Hall_has  h1 ⟨_, rfl, ?_⟩)
  refine e_k 1 (f' := (if v1 = 0 then 16 else 8, [(0, .ref 14), (1, .int p2), (2, .int p3)], [])) rfl ?_
  refine e_if (fun c2 => ?_) (fun c2 => ?_)
  · replace hb := i_pos c2 hb
    refine e_k 1 (f' := (17, [(0, .ref 14), (1, .int p2), (2, .int p3)], [.int 0])) rfl ?_
    obtain ⟨rfl, rfl, rfl⟩ := s_inj hb
    exact e_r rfl rfl K
  · replace hb := i_neg c2 hb
    refine e_k 2 (f' := (10, [(0, .ref 14), (1, .int p2), (2, .int p3)], [.int p3, .ref 14])) rfl ?_
    obtain ⟨v3, I3, J3, h3, hb⟩ := oc_call hb
    refine r_cv (z := m_Hall_has) (As := [.int p3]) (rest := []) rfl rfl rfl rfl rfl (x_ltn rfl) rfl rfl (E_Hall_has  h3 ⟨_, rfl, ?_⟩)
    refine e_k 1 (f' := (if ¬ v3 = 0 then 18 else 16, [(0, .ref 14), (1, .int p2), (2, .int p3)], [])) rfl ?_
    refine e_if (fun c4 => ?_) (fun c4 => ?_)
    · replace hb := i_pos c4 hb
      refine e_k 1 (f' := (19, [(0, .ref 14), (1, .int p2), (2, .int p3)], [.ref 14])) rfl ?_
      refine r_getr rfl (x_ltn rfl) rfl rfl ?_
      refine e_k 1 (f' := (23, [(0, .ref 14), (1, .int p2), (2, .int p3)], [.int p2, .ref 17])) rfl ?_
      obtain ⟨o5, hb⟩ := ob_in hb
      refine r_pald rfl o5 ?_
      refine r_getr rfl (x_ltp (vp_lt o5) (by decide)) (sS_p0 (vp_lt o5)) rfl ?_
      refine e_k 2 (f' := (29, [(3, .ref (32 + 21 * (Int32.toNatClampNeg p2))), (0, .ref 14), (1, .int p2), (2, .int p3)], [.ref (32 + 21 * (Int32.toNatClampNeg p2))])) rfl ?_
      refine r_getr rfl (x_ltp (vp_lt o5) (by decide)) (sS_p14 (vp_lt o5)) rfl ?_
      refine e_k 1 (f' := (33, [(3, .ref (32 + 21 * (Int32.toNatClampNeg p2))), (0, .ref 14), (1, .int p2), (2, .int p3)], [.int p3, .ref (33 + 21 * (Int32.toNatClampNeg p2))])) rfl ?_
      obtain ⟨o6, hb⟩ := ob_in hb
      refine r_iald rfl (x_t0 (vp_lt o5) (by decide)) (x_ltp (vp_lt o5) (by decide)) (sS_p15 (vp_lt o5)) o6 ?_
      refine e_k 1 (f' := (35, [(3, .ref (32 + 21 * (Int32.toNatClampNeg p2))), (0, .ref 14), (1, .int p2), (2, .int p3)], [.ref (32 + 21 * (Int32.toNatClampNeg p2)), .int (I3 (33 + 21 * (Int32.toNatClampNeg p2)) (Int32.toNatClampNeg p3))])) rfl ?_
      refine r_getr rfl (x_ltp (vp_lt o5) (by decide)) (sS_p14 (vp_lt o5)) rfl ?_
      refine e_k 1 (f' := (39, [(3, .ref (32 + 21 * (Int32.toNatClampNeg p2))), (0, .ref 14), (1, .int p2), (2, .int p3)], [.int p3, .ref (34 + 21 * (Int32.toNatClampNeg p2)), .int (I3 (33 + 21 * (Int32.toNatClampNeg p2)) (Int32.toNatClampNeg p3))])) rfl ?_
      obtain ⟨o7, hb⟩ := ob_in hb
      refine r_zald rfl (x_t0 (vp_lt o5) (by decide)) (x_ltp (vp_lt o5) (by decide)) (sS_p16 (vp_lt o5)) o7 ?_
      refine e_k 1 (f' := (if (I3 (34 + 21 * (Int32.toNatClampNeg p2)) (Int32.toNatClampNeg p3)) = 0 then 47 else 43, [(3, .ref (32 + 21 * (Int32.toNatClampNeg p2))), (0, .ref 14), (1, .int p2), (2, .int p3)], [.int (I3 (33 + 21 * (Int32.toNatClampNeg p2)) (Int32.toNatClampNeg p3))])) rfl ?_
      refine e_if (fun c8 => ?_) (fun c8 => ?_)
      · replace hb := i_pos c8 hb
        refine e_k 2 (f' := (49, [(3, .ref (32 + 21 * (Int32.toNatClampNeg p2))), (0, .ref 14), (1, .int p2), (2, .int p3)], [.int ((I3 (33 + 21 * (Int32.toNatClampNeg p2)) (Int32.toNatClampNeg p3)) + 0)])) rfl ?_
        obtain ⟨rfl, rfl, rfl⟩ := s_inj hb
        exact e_r rfl rfl K
      · replace hb := i_neg c8 hb
        refine e_k 3 (f' := (49, [(3, .ref (32 + 21 * (Int32.toNatClampNeg p2))), (0, .ref 14), (1, .int p2), (2, .int p3)], [.int ((I3 (33 + 21 * (Int32.toNatClampNeg p2)) (Int32.toNatClampNeg p3)) + 1)])) rfl ?_
        obtain ⟨rfl, rfl, rfl⟩ := s_inj hb
        exact e_r rfl rfl K
    · replace hb := i_neg c4 hb
      refine e_k 1 (f' := (17, [(0, .ref 14), (1, .int p2), (2, .int p3)], [.int 0])) rfl ?_
      obtain ⟨rfl, rfl, rfl⟩ := s_inj hb
      exact e_r rfl rfl K
theorem E_Memory_wipe {w1 : Nat} {X : MX} {I : MI} {J : MJ} {v : Unit} {I' : MI} {J' : MJ} (hw_w1 : w1 < 4) (hb : f_Memory_wipe w1 I J = some (v, I', J')) (K : P (.inl (none)) (hX X I' J')) : am_E (gG L xs) (d + 1) m_Memory_wipe (0, lv_args 0 [.ref (19 + 21 * w1)], []) (hX X I J) P := by
  unfold f_Memory_wipe at hb
  refine e_k 1 (f' := (1, [(0, .ref (19 + 21 * w1))], [.ref (19 + 21 * w1)])) rfl ?_
  refine r_getr rfl (x_ltp hw_w1 (by decide)) (sS_p1 hw_w1) rfl ?_
  obtain ⟨v1, I1, J1, h1, hb⟩ := oc_call hb
  refine r_cs (z := m_Sh_zeroLongs) (As := [.ref (20 + 21 * w1)]) (rest := []) rfl rfl rfl rfl rfl rfl (E_Sh_zeroLongs ⟨(x_ltp hw_w1 (by decide)), (x_t0 hw_w1 (by decide)), (sS_p2 hw_w1)⟩ h1 ⟨_, rfl, ?_⟩)
  refine e_k 1 (f' := (8, [(0, .ref (19 + 21 * w1))], [.ref (19 + 21 * w1)])) rfl ?_
  refine r_getr rfl (x_ltp hw_w1 (by decide)) (sS_p1 hw_w1) rfl ?_
  obtain ⟨v2, I2, J2, h2, hb⟩ := oc_call hb
  refine r_cs (z := m_Sh_zeroLongs) (As := [.ref (21 + 21 * w1)]) (rest := []) rfl rfl rfl rfl rfl rfl (E_Sh_zeroLongs ⟨(x_ltp hw_w1 (by decide)), (x_t0 hw_w1 (by decide)), (sS_p3 hw_w1)⟩ h2 ⟨_, rfl, ?_⟩)
  refine e_k 1 (f' := (15, [(0, .ref (19 + 21 * w1))], [.ref (19 + 21 * w1)])) rfl ?_
  refine r_getr rfl (x_ltp hw_w1 (by decide)) (sS_p1 hw_w1) rfl ?_
  obtain ⟨v3, I3, J3, h3, hb⟩ := oc_call hb
  refine r_cs (z := m_Sh_zeroLongs) (As := [.ref (22 + 21 * w1)]) (rest := []) rfl rfl rfl rfl rfl rfl (E_Sh_zeroLongs ⟨(x_ltp hw_w1 (by decide)), (x_t0 hw_w1 (by decide)), (sS_p4 hw_w1)⟩ h3 ⟨_, rfl, ?_⟩)
  refine e_k 2 (f' := (23, [(0, .ref (19 + 21 * w1))], [.int 0, .ref (19 + 21 * w1)])) rfl ?_
  obtain ⟨I4, eI4, hb⟩ := p_nm hb
  refine r_puti' rfl (x_ltp hw_w1 (by decide)) (sS_p1 hw_w1) rfl eI4 ?_
  refine e_k 2 (f' := (28, [(0, .ref (19 + 21 * w1))], [.int 0, .ref (19 + 21 * w1)])) rfl ?_
  obtain ⟨I5, eI5, hb⟩ := p_nm hb
  refine r_puti' rfl (x_ltp hw_w1 (by decide)) (sS_p1 hw_w1) rfl eI5 ?_
  obtain ⟨rfl, rfl, rfl⟩ := s_inj hb
  exact e_r rfl rfl K
theorem E_Memory_push {w1 : Nat} {p2 : Int64} {X : MX} {I : MI} {J : MJ} {v : Unit} {I' : MI} {J' : MJ} (hw_w1 : w1 < 4) (hb : f_Memory_push w1 p2 I J = some (v, I', J')) (K : P (.inl (none)) (hX X I' J')) : am_E (gG L xs) d m_Memory_push (0, lv_args 0 [.ref (19 + 21 * w1), .long p2], []) (hX X I J) P := by
  unfold f_Memory_push at hb
  refine e_k 1 (f' := (1, [(0, .ref (19 + 21 * w1)), (1, .long p2)], [.ref (19 + 21 * w1)])) rfl ?_
  refine r_geti rfl (x_ltp hw_w1 (by decide)) (sS_p1 hw_w1) rfl ?_
  refine e_k 1 (f' := (if (I (19 + 21 * w1) 5) < 0 then 39 else 7, [(0, .ref (19 + 21 * w1)), (1, .long p2)], [])) rfl ?_
  refine e_if (fun c1 => ?_) (fun c1 => ?_)
  · replace hb := i_pos c1 hb
    obtain ⟨rfl, rfl, rfl⟩ := s_inj hb
    exact e_r rfl rfl K
  · replace hb := i_neg c1 hb
    refine e_k 1 (f' := (8, [(0, .ref (19 + 21 * w1)), (1, .long p2)], [.ref (19 + 21 * w1)])) rfl ?_
    refine r_geti rfl (x_ltp hw_w1 (by decide)) (sS_p1 hw_w1) rfl ?_
    refine e_k 1 (f' := (12, [(0, .ref (19 + 21 * w1)), (1, .long p2)], [.ref (19 + 21 * w1), .int (I (19 + 21 * w1) 5)])) rfl ?_
    refine r_getr rfl (x_ltp hw_w1 (by decide)) (sS_p1 hw_w1) rfl ?_
    refine r_alen rfl (x_t0 hw_w1 (by decide)) (x_ltp hw_w1 (by decide)) (sS_p5 hw_w1) rfl ?_
    refine e_k 1 (f' := (if (nI 64) ≤ (I (19 + 21 * w1) 5) then 39 else 19, [(0, .ref (19 + 21 * w1)), (1, .long p2)], [])) rfl ?_
    refine e_if (fun c2 => ?_) (fun c2 => ?_)
    · replace hb := i_pos c2 hb
      obtain ⟨rfl, rfl, rfl⟩ := s_inj hb
      exact e_r rfl rfl K
    · replace hb := i_neg c2 hb
      refine e_k 1 (f' := (20, [(0, .ref (19 + 21 * w1)), (1, .long p2)], [.ref (19 + 21 * w1)])) rfl ?_
      refine r_getr rfl (x_ltp hw_w1 (by decide)) (sS_p1 hw_w1) rfl ?_
      refine e_k 1 (f' := (24, [(0, .ref (19 + 21 * w1)), (1, .long p2)], [.ref (19 + 21 * w1), .ref (23 + 21 * w1)])) rfl ?_
      refine r_geti rfl (x_ltp hw_w1 (by decide)) (sS_p1 hw_w1) rfl ?_
      refine e_k 1 (f' := (28, [(0, .ref (19 + 21 * w1)), (1, .long p2)], [.long p2, .int (I (19 + 21 * w1) 5), .ref (23 + 21 * w1)])) rfl ?_
      obtain ⟨o3, hb⟩ := ob_in hb
      obtain ⟨J4, eJ4, hb⟩ := p_nm hb
      refine r_last' rfl (x_ltp hw_w1 (by decide)) (sS_p5 hw_w1) o3 eJ4 ?_
      refine e_k 2 (f' := (31, [(0, .ref (19 + 21 * w1)), (1, .long p2)], [.ref (19 + 21 * w1), .ref (19 + 21 * w1)])) rfl ?_
      refine r_geti rfl (x_ltp hw_w1 (by decide)) (sS_p1 hw_w1) rfl ?_
      refine e_k 2 (f' := (36, [(0, .ref (19 + 21 * w1)), (1, .long p2)], [.int ((I (19 + 21 * w1) 5) + 1), .ref (19 + 21 * w1)])) rfl ?_
      obtain ⟨I5, eI5, hb⟩ := p_nm hb
      refine r_puti' rfl (x_ltp hw_w1 (by decide)) (sS_p1 hw_w1) rfl eI5 ?_
      obtain ⟨rfl, rfl, rfl⟩ := s_inj hb
      exact e_r rfl rfl K
theorem E_Memory_pop {w1 : Nat} {X : MX} {I : MI} {J : MJ} {v : Int64} {I' : MI} {J' : MJ} (hw_w1 : w1 < 4) (hb : f_Memory_pop w1 I J = some (v, I', J')) (K : P (.inl (some (.long v))) (hX X I' J')) : am_E (gG L xs) d m_Memory_pop (0, lv_args 0 [.ref (19 + 21 * w1)], []) (hX X I J) P := by
  unfold f_Memory_pop at hb
  refine e_k 1 (f' := (1, [(0, .ref (19 + 21 * w1))], [.ref (19 + 21 * w1)])) rfl ?_
  refine r_geti rfl (x_ltp hw_w1 (by decide)) (sS_p1 hw_w1) rfl ?_
  refine e_k 1 (f' := (if (I (19 + 21 * w1) 5) ≤ 0 then 19 else 7, [(0, .ref (19 + 21 * w1))], [])) rfl ?_
  refine e_if (fun c1 => ?_) (fun c1 => ?_)
  · replace hb := i_pos c1 hb
    refine e_k 1 (f' := (20, [(0, .ref (19 + 21 * w1))], [.long 0])) rfl ?_
    obtain ⟨rfl, rfl, rfl⟩ := s_inj hb
    exact e_r rfl rfl K
  · replace hb := i_neg c1 hb
    refine e_k 1 (f' := (8, [(0, .ref (19 + 21 * w1))], [.ref (19 + 21 * w1)])) rfl ?_
    refine r_geti rfl (x_ltp hw_w1 (by decide)) (sS_p1 hw_w1) rfl ?_
    refine e_k 1 (f' := (12, [(0, .ref (19 + 21 * w1))], [.ref (19 + 21 * w1), .int (I (19 + 21 * w1) 5)])) rfl ?_
    refine r_getr rfl (x_ltp hw_w1 (by decide)) (sS_p1 hw_w1) rfl ?_
    refine r_alen rfl (x_t0 hw_w1 (by decide)) (x_ltp hw_w1 (by decide)) (sS_p5 hw_w1) rfl ?_
    refine e_k 1 (f' := (if (I (19 + 21 * w1) 5) ≤ (nI 64) then 21 else 19, [(0, .ref (19 + 21 * w1))], [])) rfl ?_
    refine e_if (fun c2 => ?_) (fun c2 => ?_)
    · replace hb := i_pos c2 hb
      refine e_k 2 (f' := (23, [(0, .ref (19 + 21 * w1))], [.ref (19 + 21 * w1), .ref (19 + 21 * w1)])) rfl ?_
      refine r_geti rfl (x_ltp hw_w1 (by decide)) (sS_p1 hw_w1) rfl ?_
      refine e_k 2 (f' := (28, [(0, .ref (19 + 21 * w1))], [.int ((I (19 + 21 * w1) 5) - 1), .ref (19 + 21 * w1)])) rfl ?_
      obtain ⟨I3, eI3, hb⟩ := p_nm hb
      refine r_puti' rfl (x_ltp hw_w1 (by decide)) (sS_p1 hw_w1) rfl eI3 ?_
      refine e_k 1 (f' := (32, [(0, .ref (19 + 21 * w1))], [.ref (19 + 21 * w1)])) rfl ?_
      refine r_getr rfl (x_ltp hw_w1 (by decide)) (sS_p1 hw_w1) rfl ?_
      refine e_k 1 (f' := (36, [(0, .ref (19 + 21 * w1))], [.ref (19 + 21 * w1), .ref (23 + 21 * w1)])) rfl ?_
      refine r_geti rfl (x_ltp hw_w1 (by decide)) (sS_p1 hw_w1) rfl ?_
      obtain ⟨o4, hb⟩ := ob_in hb
      refine r_lald rfl (x_t0 hw_w1 (by decide)) (x_ltp hw_w1 (by decide)) (sS_p5 hw_w1) o4 ?_
      obtain ⟨rfl, rfl, rfl⟩ := s_inj hb
      exact e_r rfl rfl K
    · replace hb := i_neg c2 hb
      refine e_k 1 (f' := (20, [(0, .ref (19 + 21 * w1))], [.long 0])) rfl ?_
      obtain ⟨rfl, rfl, rfl⟩ := s_inj hb
      exact e_r rfl rfl K
theorem E_Memory_fromTop {w1 : Nat} {p2 : Int32} {X : MX} {I : MI} {J : MJ} {v : Int64} {I' : MI} {J' : MJ} (hw_w1 : w1 < 4) (hb : f_Memory_fromTop w1 p2 I J = some (v, I', J')) (K : P (.inl (some (.long v))) (hX X I' J')) : am_E (gG L xs) (d + 1) m_Memory_fromTop (0, lv_args 0 [.ref (19 + 21 * w1), .int p2], []) (hX X I J) P := by
  unfold f_Memory_fromTop at hb
  refine e_k 1 (f' := (1, [(0, .ref (19 + 21 * w1)), (1, .int p2)], [.ref (19 + 21 * w1)])) rfl ?_
  refine r_getr rfl (x_ltp hw_w1 (by decide)) (sS_p1 hw_w1) rfl ?_
  refine e_k 1 (f' := (5, [(0, .ref (19 + 21 * w1)), (1, .int p2)], [.ref (19 + 21 * w1), .ref (23 + 21 * w1)])) rfl ?_
  refine r_geti rfl (x_ltp hw_w1 (by decide)) (sS_p1 hw_w1) rfl ?_
  refine e_k 2 (f' := (10, [(0, .ref (19 + 21 * w1)), (1, .int p2)], [.int ((I (19 + 21 * w1) 5) - p2), .ref (23 + 21 * w1)])) rfl ?_
  obtain ⟨v1, I1, J1, h1, hb⟩ := oc_call hb
  refine r_cs (z := m_Sh_read) (As := [.ref (23 + 21 * w1), .int ((I (19 + 21 * w1) 5) - p2)]) (rest := []) rfl rfl rfl rfl rfl rfl (E_Sh_read ⟨(x_ltp hw_w1 (by decide)), (x_t0 hw_w1 (by decide)), (sS_p5 hw_w1)⟩ h1 ⟨_, rfl, ?_⟩)
  obtain ⟨rfl, rfl, rfl⟩ := s_inj hb
  exact e_r rfl rfl K
theorem E_Memory_cell {w1 : Nat} {p2 : Int32} {p3 : Int64} {X : MX} {I : MI} {J : MJ} {v : Int64} {I' : MI} {J' : MJ} (hw_w1 : w1 < 4) (hb : f_Memory_cell w1 p2 p3 I J = some (v, I', J')) (K : P (.inl (some (.long v))) (hX X I' J')) : am_E (gG L xs) (d + 1) m_Memory_cell (0, lv_args 0 [.ref (19 + 21 * w1), .int p2, .long p3], []) (hX X I J) P := by
  unfold f_Memory_cell at hb
  refine e_k 4 (f' := (if (lg_cmp p3 0) < 0 then 31 else 6, [(0, .ref (19 + 21 * w1)), (1, .int p2), (2, .long p3)], [])) rfl ?_
  refine e_if (fun c1 => ?_) (fun c1 => ?_)
  · replace hb := i_pos c1 hb
    refine e_k 1 (f' := (32, [(0, .ref (19 + 21 * w1)), (1, .int p2), (2, .long p3)], [.long 0])) rfl ?_
    obtain ⟨rfl, rfl, rfl⟩ := s_inj hb
    exact e_r rfl rfl K
  · replace hb := i_neg c1 hb
    refine e_k 4 (f' := (if 0 ≤ (lg_cmp p3 16) then 31 else 14, [(0, .ref (19 + 21 * w1)), (1, .int p2), (2, .long p3)], [])) rfl ?_
    refine e_if (fun c2 => ?_) (fun c2 => ?_)
    · replace hb := i_pos c2 hb
      refine e_k 1 (f' := (32, [(0, .ref (19 + 21 * w1)), (1, .int p2), (2, .long p3)], [.long 0])) rfl ?_
      obtain ⟨rfl, rfl, rfl⟩ := s_inj hb
      exact e_r rfl rfl K
    · replace hb := i_neg c2 hb
      refine e_k 1 (f' := (15, [(0, .ref (19 + 21 * w1)), (1, .int p2), (2, .long p3)], [.ref (19 + 21 * w1)])) rfl ?_
      refine r_getr rfl (x_ltp hw_w1 (by decide)) (sS_p1 hw_w1) rfl ?_
      refine e_k 6 (f' := (25, [(0, .ref (19 + 21 * w1)), (1, .int p2), (2, .long p3)], [.int ((16 * p2) + (Int64.toInt32 p3)), .ref (22 + 21 * w1)])) rfl ?_
      obtain ⟨v3, I3, J3, h3, hb⟩ := oc_call hb
      refine r_cs (z := m_Sh_read) (As := [.ref (22 + 21 * w1), .int ((16 * p2) + (Int64.toInt32 p3))]) (rest := []) rfl rfl rfl rfl rfl rfl (E_Sh_read ⟨(x_ltp hw_w1 (by decide)), (x_t0 hw_w1 (by decide)), (sS_p4 hw_w1)⟩ h3 ⟨_, rfl, ?_⟩)
      refine e_k 1 (f' := (32, [(0, .ref (19 + 21 * w1)), (1, .int p2), (2, .long p3)], [.long v3])) rfl ?_
      obtain ⟨rfl, rfl, rfl⟩ := s_inj hb
      exact e_r rfl rfl K
theorem E_Memory_setCell {w1 : Nat} {p2 : Int32} {p3 : Int64} {p4 : Int64} {X : MX} {I : MI} {J : MJ} {v : Unit} {I' : MI} {J' : MJ} (hw_w1 : w1 < 4) (hb : f_Memory_setCell w1 p2 p3 p4 I J = some (v, I', J')) (K : P (.inl (none)) (hX X I' J')) : am_E (gG L xs) (d + 1) m_Memory_setCell (0, lv_args 0 [.ref (19 + 21 * w1), .int p2, .long p3, .long p4], []) (hX X I J) P := by
  unfold f_Memory_setCell at hb
  refine e_k 4 (f' := (if (lg_cmp p3 0) < 0 then 30 else 6, [(0, .ref (19 + 21 * w1)), (1, .int p2), (2, .long p3), (4, .long p4)], [])) rfl ?_
  refine e_if (fun c1 => ?_) (fun c1 => ?_)
  · replace hb := i_pos c1 hb
    obtain ⟨rfl, rfl, rfl⟩ := s_inj hb
    exact e_r rfl rfl K
  · replace hb := i_neg c1 hb
    refine e_k 4 (f' := (if 0 ≤ (lg_cmp p3 16) then 30 else 14, [(0, .ref (19 + 21 * w1)), (1, .int p2), (2, .long p3), (4, .long p4)], [])) rfl ?_
    refine e_if (fun c2 => ?_) (fun c2 => ?_)
    · replace hb := i_pos c2 hb
      obtain ⟨rfl, rfl, rfl⟩ := s_inj hb
      exact e_r rfl rfl K
    · replace hb := i_neg c2 hb
      refine e_k 1 (f' := (15, [(0, .ref (19 + 21 * w1)), (1, .int p2), (2, .long p3), (4, .long p4)], [.ref (19 + 21 * w1)])) rfl ?_
      refine r_getr rfl (x_ltp hw_w1 (by decide)) (sS_p1 hw_w1) rfl ?_
      refine e_k 7 (f' := (27, [(0, .ref (19 + 21 * w1)), (1, .int p2), (2, .long p3), (4, .long p4)], [.long p4, .int ((16 * p2) + (Int64.toInt32 p3)), .ref (22 + 21 * w1)])) rfl ?_
      obtain ⟨v3, I3, J3, h3, hb⟩ := oc_call hb
      refine r_cs (z := m_Sh_write) (As := [.ref (22 + 21 * w1), .int ((16 * p2) + (Int64.toInt32 p3)), .long p4]) (rest := []) rfl rfl rfl rfl rfl rfl (E_Sh_write ⟨(x_ltp hw_w1 (by decide)), (x_t0 hw_w1 (by decide)), (sS_p4 hw_w1)⟩ h3 ⟨_, rfl, ?_⟩)
      obtain ⟨rfl, rfl, rfl⟩ := s_inj hb
      exact e_r rfl rfl K
theorem E_Memory_keep {w1 : Nat} {p2 : Int32} {X : MX} {I : MI} {J : MJ} {v : Unit} {I' : MI} {J' : MJ} (hw_w1 : w1 < 4) (hb : f_Memory_keep w1 p2 I J = some (v, I', J')) (K : P (.inl (none)) (hX X I' J')) : am_E (gG L xs) d m_Memory_keep (0, lv_args 0 [.ref (19 + 21 * w1), .int p2], []) (hX X I J) P := by
  unfold f_Memory_keep at hb
  refine e_k 1 (f' := (1, [(0, .ref (19 + 21 * w1)), (1, .int p2)], [.ref (19 + 21 * w1)])) rfl ?_
  refine r_geti rfl (x_ltp hw_w1 (by decide)) (sS_p1 hw_w1) rfl ?_
  refine e_k 1 (f' := (if (I (19 + 21 * w1) 6) < 0 then 39 else 7, [(0, .ref (19 + 21 * w1)), (1, .int p2)], [])) rfl ?_
  refine e_if (fun c1 => ?_) (fun c1 => ?_)
  · replace hb := i_pos c1 hb
    obtain ⟨rfl, rfl, rfl⟩ := s_inj hb
    exact e_r rfl rfl K
  · replace hb := i_neg c1 hb
    refine e_k 1 (f' := (8, [(0, .ref (19 + 21 * w1)), (1, .int p2)], [.ref (19 + 21 * w1)])) rfl ?_
    refine r_geti rfl (x_ltp hw_w1 (by decide)) (sS_p1 hw_w1) rfl ?_
    refine e_k 1 (f' := (12, [(0, .ref (19 + 21 * w1)), (1, .int p2)], [.ref (19 + 21 * w1), .int (I (19 + 21 * w1) 6)])) rfl ?_
    refine r_getr rfl (x_ltp hw_w1 (by decide)) (sS_p1 hw_w1) rfl ?_
    refine r_alen rfl (x_t0 hw_w1 (by decide)) (x_ltp hw_w1 (by decide)) (sS_p6 hw_w1) rfl ?_
    refine e_k 1 (f' := (if (nI 16) ≤ (I (19 + 21 * w1) 6) then 39 else 19, [(0, .ref (19 + 21 * w1)), (1, .int p2)], [])) rfl ?_
    refine e_if (fun c2 => ?_) (fun c2 => ?_)
    · replace hb := i_pos c2 hb
      obtain ⟨rfl, rfl, rfl⟩ := s_inj hb
      exact e_r rfl rfl K
    · replace hb := i_neg c2 hb
      refine e_k 1 (f' := (20, [(0, .ref (19 + 21 * w1)), (1, .int p2)], [.ref (19 + 21 * w1)])) rfl ?_
      refine r_getr rfl (x_ltp hw_w1 (by decide)) (sS_p1 hw_w1) rfl ?_
      refine e_k 1 (f' := (24, [(0, .ref (19 + 21 * w1)), (1, .int p2)], [.ref (19 + 21 * w1), .ref (24 + 21 * w1)])) rfl ?_
      refine r_geti rfl (x_ltp hw_w1 (by decide)) (sS_p1 hw_w1) rfl ?_
      refine e_k 1 (f' := (28, [(0, .ref (19 + 21 * w1)), (1, .int p2)], [.int p2, .int (I (19 + 21 * w1) 6), .ref (24 + 21 * w1)])) rfl ?_
      obtain ⟨o3, hb⟩ := ob_in hb
      obtain ⟨I4, eI4, hb⟩ := p_nm hb
      refine r_iast' rfl (x_ltp hw_w1 (by decide)) (sS_p6 hw_w1) o3 eI4 ?_
      refine e_k 2 (f' := (31, [(0, .ref (19 + 21 * w1)), (1, .int p2)], [.ref (19 + 21 * w1), .ref (19 + 21 * w1)])) rfl ?_
      refine r_geti rfl (x_ltp hw_w1 (by decide)) (sS_p1 hw_w1) rfl ?_
      refine e_k 2 (f' := (36, [(0, .ref (19 + 21 * w1)), (1, .int p2)], [.int ((I4 (19 + 21 * w1) 6) + 1), .ref (19 + 21 * w1)])) rfl ?_
      obtain ⟨I5, eI5, hb⟩ := p_nm hb
      refine r_puti' rfl (x_ltp hw_w1 (by decide)) (sS_p1 hw_w1) rfl eI5 ?_
      obtain ⟨rfl, rfl, rfl⟩ := s_inj hb
      exact e_r rfl rfl K
theorem E_Memory_lastKept {w1 : Nat} {X : MX} {I : MI} {J : MJ} {v : Int32} {I' : MI} {J' : MJ} (hw_w1 : w1 < 4) (hb : f_Memory_lastKept w1 I J = some (v, I', J')) (K : P (.inl (some (.int v))) (hX X I' J')) : am_E (gG L xs) d m_Memory_lastKept (0, lv_args 0 [.ref (19 + 21 * w1)], []) (hX X I J) P := by
  unfold f_Memory_lastKept at hb
  refine e_k 1 (f' := (1, [(0, .ref (19 + 21 * w1))], [.ref (19 + 21 * w1)])) rfl ?_
  refine r_geti rfl (x_ltp hw_w1 (by decide)) (sS_p1 hw_w1) rfl ?_
  refine e_k 1 (f' := (if (I (19 + 21 * w1) 6) ≤ 0 then 19 else 7, [(0, .ref (19 + 21 * w1))], [])) rfl ?_
  refine e_if (fun c1 => ?_) (fun c1 => ?_)
  · replace hb := i_pos c1 hb
    refine e_k 1 (f' := (20, [(0, .ref (19 + 21 * w1))], [.int 0])) rfl ?_
    obtain ⟨rfl, rfl, rfl⟩ := s_inj hb
    exact e_r rfl rfl K
  · replace hb := i_neg c1 hb
    refine e_k 1 (f' := (8, [(0, .ref (19 + 21 * w1))], [.ref (19 + 21 * w1)])) rfl ?_
    refine r_geti rfl (x_ltp hw_w1 (by decide)) (sS_p1 hw_w1) rfl ?_
    refine e_k 1 (f' := (12, [(0, .ref (19 + 21 * w1))], [.ref (19 + 21 * w1), .int (I (19 + 21 * w1) 6)])) rfl ?_
    refine r_getr rfl (x_ltp hw_w1 (by decide)) (sS_p1 hw_w1) rfl ?_
    refine r_alen rfl (x_t0 hw_w1 (by decide)) (x_ltp hw_w1 (by decide)) (sS_p6 hw_w1) rfl ?_
    refine e_k 1 (f' := (if (I (19 + 21 * w1) 6) ≤ (nI 16) then 21 else 19, [(0, .ref (19 + 21 * w1))], [])) rfl ?_
    refine e_if (fun c2 => ?_) (fun c2 => ?_)
    · replace hb := i_pos c2 hb
      refine e_k 2 (f' := (23, [(0, .ref (19 + 21 * w1))], [.ref (19 + 21 * w1), .ref (19 + 21 * w1)])) rfl ?_
      refine r_geti rfl (x_ltp hw_w1 (by decide)) (sS_p1 hw_w1) rfl ?_
      refine e_k 2 (f' := (28, [(0, .ref (19 + 21 * w1))], [.int ((I (19 + 21 * w1) 6) - 1), .ref (19 + 21 * w1)])) rfl ?_
      obtain ⟨I3, eI3, hb⟩ := p_nm hb
      refine r_puti' rfl (x_ltp hw_w1 (by decide)) (sS_p1 hw_w1) rfl eI3 ?_
      refine e_k 1 (f' := (32, [(0, .ref (19 + 21 * w1))], [.ref (19 + 21 * w1)])) rfl ?_
      refine r_getr rfl (x_ltp hw_w1 (by decide)) (sS_p1 hw_w1) rfl ?_
      refine e_k 1 (f' := (36, [(0, .ref (19 + 21 * w1))], [.ref (19 + 21 * w1), .ref (24 + 21 * w1)])) rfl ?_
      refine r_geti rfl (x_ltp hw_w1 (by decide)) (sS_p1 hw_w1) rfl ?_
      obtain ⟨o4, hb⟩ := ob_in hb
      refine r_iald rfl (x_t0 hw_w1 (by decide)) (x_ltp hw_w1 (by decide)) (sS_p6 hw_w1) o4 ?_
      obtain ⟨rfl, rfl, rfl⟩ := s_inj hb
      exact e_r rfl rfl K
    · replace hb := i_neg c2 hb
      refine e_k 1 (f' := (20, [(0, .ref (19 + 21 * w1))], [.int 0])) rfl ?_
      obtain ⟨rfl, rfl, rfl⟩ := s_inj hb
      exact e_r rfl rfl K
theorem E_Party_tell {w1 : Nat} {p2 : Int32} {X : MX} {I : MI} {J : MJ} {v : Int32} {I' : MI} {J' : MJ} (hw_w1 : w1 < 4) (hb : f_Party_tell w1 p2 I J = some (v, I', J')) (K : P (.inl (some (.int v))) (hX X I' J')) : am_E (gG L xs) d m_Party_tell (0, lv_args 0 [.ref (18 + 21 * w1), .int p2], []) (hX X I J) P := by
  unfold f_Party_tell at hb
  refine e_k 2 (f' := (am_sw p2 105 [(0, 56), (1, 61), (2, 66), (3, 74), (4, 82), (5, 105), (6, 105), (7, 87), (8, 92), (9, 100)], [(0, .ref (18 + 21 * w1)), (1, .int p2)], [])) rfl ?_
  by_cases c1 : p2 = 0
  · rw [show am_sw p2 105 [(0, 56), (1, 61), (2, 66), (3, 74), (4, 82), (5, 105), (6, 105), (7, 87), (8, 92), (9, 100)] = 56 from by rw [c1]; rfl]
    replace hb := i_pos c1 hb
    refine e_k 1 (f' := (57, [(0, .ref (18 + 21 * w1)), (1, .int p2)], [.ref (18 + 21 * w1)])) rfl ?_
    refine r_geti rfl (x_ltp hw_w1 (by decide)) (sS_p0 hw_w1) rfl ?_
    obtain ⟨rfl, rfl, rfl⟩ := s_inj hb
    exact e_r rfl rfl K
  replace hb := i_neg c1 hb
  by_cases c2 : p2 = 1
  · rw [show am_sw p2 105 [(0, 56), (1, 61), (2, 66), (3, 74), (4, 82), (5, 105), (6, 105), (7, 87), (8, 92), (9, 100)] = 61 from by rw [c2]; rfl]
    replace hb := i_pos c2 hb
    refine e_k 1 (f' := (62, [(0, .ref (18 + 21 * w1)), (1, .int p2)], [.ref (18 + 21 * w1)])) rfl ?_
    refine r_geti rfl (x_ltp hw_w1 (by decide)) (sS_p0 hw_w1) rfl ?_
    obtain ⟨rfl, rfl, rfl⟩ := s_inj hb
    exact e_r rfl rfl K
  replace hb := i_neg c2 hb
  by_cases c3 : p2 = 2
  · rw [show am_sw p2 105 [(0, 56), (1, 61), (2, 66), (3, 74), (4, 82), (5, 105), (6, 105), (7, 87), (8, 92), (9, 100)] = 66 from by rw [c3]; rfl]
    replace hb := i_pos c3 hb
    refine e_k 1 (f' := (67, [(0, .ref (18 + 21 * w1)), (1, .int p2)], [.ref (18 + 21 * w1)])) rfl ?_
    refine r_getr rfl (x_ltp hw_w1 (by decide)) (sS_p0 hw_w1) rfl ?_
    refine r_geti rfl (x_ltp hw_w1 (by decide)) (sS_p14 hw_w1) rfl ?_
    obtain ⟨rfl, rfl, rfl⟩ := s_inj hb
    exact e_r rfl rfl K
  replace hb := i_neg c3 hb
  by_cases c4 : p2 = 3
  · rw [show am_sw p2 105 [(0, 56), (1, 61), (2, 66), (3, 74), (4, 82), (5, 105), (6, 105), (7, 87), (8, 92), (9, 100)] = 74 from by rw [c4]; rfl]
    replace hb := i_pos c4 hb
    refine e_k 1 (f' := (75, [(0, .ref (18 + 21 * w1)), (1, .int p2)], [.ref (18 + 21 * w1)])) rfl ?_
    refine r_getr rfl (x_ltp hw_w1 (by decide)) (sS_p0 hw_w1) rfl ?_
    refine r_geti rfl (x_ltp hw_w1 (by decide)) (sS_p14 hw_w1) rfl ?_
    obtain ⟨rfl, rfl, rfl⟩ := s_inj hb
    exact e_r rfl rfl K
  replace hb := i_neg c4 hb
  by_cases c5 : p2 = 4
  · rw [show am_sw p2 105 [(0, 56), (1, 61), (2, 66), (3, 74), (4, 82), (5, 105), (6, 105), (7, 87), (8, 92), (9, 100)] = 82 from by rw [c5]; rfl]
    replace hb := i_pos c5 hb
    refine e_k 1 (f' := (83, [(0, .ref (18 + 21 * w1)), (1, .int p2)], [.ref (18 + 21 * w1)])) rfl ?_
    refine r_geti rfl (x_ltp hw_w1 (by decide)) (sS_p0 hw_w1) rfl ?_
    obtain ⟨rfl, rfl, rfl⟩ := s_inj hb
    exact e_r rfl rfl K
  replace hb := i_neg c5 hb
  by_cases c6 : p2 = 7
  · rw [show am_sw p2 105 [(0, 56), (1, 61), (2, 66), (3, 74), (4, 82), (5, 105), (6, 105), (7, 87), (8, 92), (9, 100)] = 87 from by rw [c6]; rfl]
    replace hb := i_pos c6 hb
    refine e_k 1 (f' := (88, [(0, .ref (18 + 21 * w1)), (1, .int p2)], [.ref (18 + 21 * w1)])) rfl ?_
    refine r_geti rfl (x_ltp hw_w1 (by decide)) (sS_p0 hw_w1) rfl ?_
    obtain ⟨rfl, rfl, rfl⟩ := s_inj hb
    exact e_r rfl rfl K
  replace hb := i_neg c6 hb
  by_cases c7 : p2 = 8
  · rw [show am_sw p2 105 [(0, 56), (1, 61), (2, 66), (3, 74), (4, 82), (5, 105), (6, 105), (7, 87), (8, 92), (9, 100)] = 92 from by rw [c7]; rfl]
    replace hb := i_pos c7 hb
    refine e_k 1 (f' := (93, [(0, .ref (18 + 21 * w1)), (1, .int p2)], [.ref (18 + 21 * w1)])) rfl ?_
    refine r_getr rfl (x_ltp hw_w1 (by decide)) (sS_p0 hw_w1) rfl ?_
    refine r_geti rfl (x_ltp hw_w1 (by decide)) (sS_p7 hw_w1) rfl ?_
    obtain ⟨rfl, rfl, rfl⟩ := s_inj hb
    exact e_r rfl rfl K
  replace hb := i_neg c7 hb
  by_cases c8 : p2 = 9
  · rw [show am_sw p2 105 [(0, 56), (1, 61), (2, 66), (3, 74), (4, 82), (5, 105), (6, 105), (7, 87), (8, 92), (9, 100)] = 100 from by rw [c8]; rfl]
    replace hb := i_pos c8 hb
    refine e_k 1 (f' := (101, [(0, .ref (18 + 21 * w1)), (1, .int p2)], [.ref (18 + 21 * w1)])) rfl ?_
    refine r_geti rfl (x_ltp hw_w1 (by decide)) (sS_p0 hw_w1) rfl ?_
    obtain ⟨rfl, rfl, rfl⟩ := s_inj hb
    exact e_r rfl rfl K
  replace hb := i_neg c8 hb
  rw [show am_sw p2 105 [(0, 56), (1, 61), (2, 66), (3, 74), (4, 82), (5, 105), (6, 105), (7, 87), (8, 92), (9, 100)] = 105 from (am_swd c1 (am_swd c2 (am_swd c3 (am_swd c4 (am_swd c5 (am_swe (am_swe (am_swd c6 (am_swd c7 (am_swd c8 rfl))))))))))]
  refine e_k 1 (f' := (106, [(0, .ref (18 + 21 * w1)), (1, .int p2)], [.int (-1)])) rfl ?_
  obtain ⟨rfl, rfl, rfl⟩ := s_inj hb
  exact e_r rfl rfl K
theorem E_Post_wipe_23 {X : MX} {w1 : Nat} (hw_w1 : w1 < 4) : ∀ (fu : Nat) {l1 : Int32} {I : MI} {J : MJ} {r : (Unit)} {I' : MI} {J' : MJ}, f_Post_wipe_23 w1 fu l1 I J = some (r, I', J') → am_E (gG L xs) d m_Post_wipe (45, [(0, .ref (32 + 21 * w1))], []) (hX X I' J') P → am_E (gG L xs) d m_Post_wipe (23, [(0, .ref (32 + 21 * w1)), (1, .int l1)], []) (hX X I J) P := by
  intro fu
  induction fu with
  | zero =>
    intros
    rename_i hb _
    cases hb
  | succ fu ih =>
    intro l1 I J r I' J' hb K
    unfold f_Post_wipe_23 at hb
    refine e_k 2 (f' := (25, [(0, .ref (32 + 21 * w1)), (1, .int l1)], [.ref (32 + 21 * w1), .int l1])) rfl ?_
    refine r_getr rfl (x_ltp hw_w1 (by decide)) (sS_p14 hw_w1) rfl ?_
    refine r_alen rfl (x_t0 hw_w1 (by decide)) (x_ltp hw_w1 (by decide)) (sS_p16 hw_w1) rfl ?_
    refine e_k 1 (f' := (if (nI 4) ≤ l1 then 45 else 32, [(0, .ref (32 + 21 * w1)), (1, .int l1)], [])) rfl ?_
    refine e_if (fun c4 => ?_) (fun c4 => ?_)
    · replace hb := i_pos c4 hb
      refine e_sub (ls := [(0, .ref (32 + 21 * w1))]) rfl ⟨rfl, trivial⟩ ?_
      obtain ⟨rfl, rfl, rfl⟩ := s_inj hb
      exact K
    · replace hb := i_neg c4 hb
      refine e_k 1 (f' := (33, [(0, .ref (32 + 21 * w1)), (1, .int l1)], [.ref (32 + 21 * w1)])) rfl ?_
      refine r_getr rfl (x_ltp hw_w1 (by decide)) (sS_p14 hw_w1) rfl ?_
      refine e_k 2 (f' := (38, [(0, .ref (32 + 21 * w1)), (1, .int l1)], [.int 0, .int l1, .ref (34 + 21 * w1)])) rfl ?_
      obtain ⟨o5, hb⟩ := ob_in hb
      obtain ⟨I6, eI6, hb⟩ := p_nm hb
      refine r_zast' rfl (x_ltp hw_w1 (by decide)) (sS_p16 hw_w1) o5 eI6 ?_
      refine e_k 2 (f' := (23, [(1, .int (l1 + 1)), (0, .ref (32 + 21 * w1))], [])) rfl ?_
      refine e_sub (ls := [(0, .ref (32 + 21 * w1)), (1, .int (l1 + 1))]) rfl ⟨rfl, rfl, trivial⟩ ?_
      exact ih  hb K
theorem E_Post_wipe {w1 : Nat} {X : MX} {I : MI} {J : MJ} {v : Unit} {I' : MI} {J' : MJ} (hw_w1 : w1 < 4) (hb : f_Post_wipe w1 I J = some (v, I', J')) (K : P (.inl (none)) (hX X I' J')) : am_E (gG L xs) (d + 1) m_Post_wipe (0, lv_args 0 [.ref (32 + 21 * w1)], []) (hX X I J) P := by
  unfold f_Post_wipe at hb
  refine e_k 1 (f' := (1, [(0, .ref (32 + 21 * w1))], [.ref (32 + 21 * w1)])) rfl ?_
  refine r_getr rfl (x_ltp hw_w1 (by decide)) (sS_p14 hw_w1) rfl ?_
  obtain ⟨v1, I1, J1, h1, hb⟩ := oc_call hb
  refine r_cs (z := m_Sh_zeroInts) (As := [.ref (33 + 21 * w1)]) (rest := []) rfl rfl rfl rfl rfl rfl (E_Sh_zeroInts ⟨(x_ltp hw_w1 (by decide)), (x_t0 hw_w1 (by decide)), (sS_p15 hw_w1)⟩ h1 ⟨_, rfl, ?_⟩)
  refine e_k 1 (f' := (8, [(0, .ref (32 + 21 * w1))], [.ref (32 + 21 * w1)])) rfl ?_
  refine r_getr rfl (x_ltp hw_w1 (by decide)) (sS_p14 hw_w1) rfl ?_
  obtain ⟨v2, I2, J2, h2, hb⟩ := oc_call hb
  refine r_cs (z := m_Sh_zeroInts) (As := [.ref (35 + 21 * w1)]) (rest := []) rfl rfl rfl rfl rfl rfl (E_Sh_zeroInts ⟨(x_ltp hw_w1 (by decide)), (x_t0 hw_w1 (by decide)), (sS_p17 hw_w1)⟩ h2 ⟨_, rfl, ?_⟩)
  refine e_k 1 (f' := (15, [(0, .ref (32 + 21 * w1))], [.ref (32 + 21 * w1)])) rfl ?_
  refine r_getr rfl (x_ltp hw_w1 (by decide)) (sS_p14 hw_w1) rfl ?_
  obtain ⟨v3, I3, J3, h3, hb⟩ := oc_call hb
  refine r_cs (z := m_Sh_zeroInts) (As := [.ref (36 + 21 * w1)]) (rest := []) rfl rfl rfl rfl rfl rfl (E_Sh_zeroInts ⟨(x_ltp hw_w1 (by decide)), (x_t0 hw_w1 (by decide)), (sS_p18 hw_w1)⟩ h3 ⟨_, rfl, ?_⟩)
  refine e_k 2 (f' := (23, [(1, .int 0), (0, .ref (32 + 21 * w1))], [])) rfl ?_
  refine e_sub (ls := [(0, .ref (32 + 21 * w1)), (1, .int 0)]) rfl ⟨rfl, rfl, trivial⟩ ?_
  obtain ⟨u7, I7, J7, h7, hb⟩ := oc_call hb
  refine E_Post_wipe_23 hw_w1 gF  h7 ?_
  refine e_k 2 (f' := (47, [(0, .ref (32 + 21 * w1))], [.int 0, .ref (32 + 21 * w1)])) rfl ?_
  obtain ⟨I8, eI8, hb⟩ := p_nm hb
  refine r_puti' rfl (x_ltp hw_w1 (by decide)) (sS_p14 hw_w1) rfl eI8 ?_
  refine e_k 2 (f' := (52, [(0, .ref (32 + 21 * w1))], [.int 0, .ref (32 + 21 * w1)])) rfl ?_
  obtain ⟨I9, eI9, hb⟩ := p_nm hb
  refine r_puti' rfl (x_ltp hw_w1 (by decide)) (sS_p14 hw_w1) rfl eI9 ?_
  refine e_k 2 (f' := (57, [(0, .ref (32 + 21 * w1))], [.int 0, .ref (32 + 21 * w1)])) rfl ?_
  obtain ⟨I10, eI10, hb⟩ := p_nm hb
  refine r_puti' rfl (x_ltp hw_w1 (by decide)) (sS_p14 hw_w1) rfl eI10 ?_
  refine e_k 2 (f' := (62, [(0, .ref (32 + 21 * w1))], [.int 0, .ref (32 + 21 * w1)])) rfl ?_
  obtain ⟨I11, eI11, hb⟩ := p_nm hb
  refine r_putz' rfl (x_ltp hw_w1 (by decide)) (sS_p14 hw_w1) rfl (Or.inl rfl) eI11 ?_
  obtain ⟨rfl, rfl, rfl⟩ := s_inj hb
  exact e_r rfl rfl K
end AUTO
