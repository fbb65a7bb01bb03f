section AUTO
variable {L : Nat} {xs : Nat → Int32} {d : Nat} {P : am_R → am_H → Prop}
theorem E_Model_check {p2 : Int32} {p3 : Int32} {X : MX} {I : MI} {J : MJ} {v : Int32} {I' : MI} {J' : MJ} (hb : f_Model_check p2 p3 I J = some (v, I', J')) (K : P (.inl (some (.int v))) (hX X I' J')) : am_E (gG L xs) (d + 4) m_Model_check (0, lv_args 0 [.ref 112, .int p2, .int p3], []) (hX X I J) P := by
  unfold f_Model_check at hb
  refine e_k 1 (f' := (1, [(0, .ref 112), (1, .int p2), (2, .int p3)], [.ref 112])) rfl ?_
  refine r_getr rfl (x_ltn rfl) rfl rfl ?_
  refine e_k 1 (f' := (5, [(0, .ref 112), (1, .int p2), (2, .int p3)], [.int p2, .ref 134])) rfl ?_
  obtain ⟨o1, hb⟩ := ob_in hb
  refine r_iald rfl rfl (x_ltn rfl) rfl o1 ?_
  refine e_k 1 (f' := (7, [(3, .int (I 134 (Int32.toNatClampNeg p2))), (0, .ref 112), (1, .int p2), (2, .int p3)], [])) rfl ?_
  obtain ⟨x2, ex2, hb⟩ := p_nm hb
  rw [← ex2]
  refine e_k 5 (f' := (if ¬ (p3 - p3 / 2 * 2) = 1 then 51 else 14, [(3, .int x2), (0, .ref 112), (1, .int p2), (2, .int p3)], [])) rfl ?_
  refine e_if (fun c3 => ?_) (fun c3 => ?_)
  · replace hb := i_pos c3 hb
    refine e_k 2 (f' := (53, [(3, .int x2), (0, .ref 112), (1, .int p2), (2, .int p3)], [.int p2, .ref 112])) rfl ?_
    obtain ⟨v4, I4, J4, h4, hb⟩ := oc_call hb
    refine r_cv (z := m_Model_mails) (As := [.int p2]) (rest := []) rfl rfl rfl rfl rfl (x_ltn rfl) rfl rfl (E_Model_mails  h4 ⟨_, rfl, ?_⟩)
    refine e_k 1 (f' := (if ¬ v4 = 0 then 61 else 59, [(3, .int x2), (0, .ref 112), (1, .int p2), (2, .int p3)], [])) rfl ?_
    refine e_if (fun c5 => ?_) (fun c5 => ?_)
    · replace hb := i_pos c5 hb
      refine e_k 2 (f' := (if ¬ p3 = 0 then 95 else 65, [(3, .int x2), (0, .ref 112), (1, .int p2), (2, .int p3)], [])) rfl ?_
      obtain ⟨v7, I7, J7, h7, hb⟩ := oc_call hb
      have Kj7 : am_E (gG L xs) (d + 4) m_Model_check (95, [(0, .ref 112), (1, .int p2), (2, .int p3)], []) (hX X I7 J7) P := by
        refine e_k 3 (f' := (if ¬ p3 = 4 then 110 else 100, [(0, .ref 112), (1, .int p2), (2, .int p3)], [])) rfl ?_
        refine e_if (fun c15 => ?_) (fun c15 => ?_)
        · replace hb := i_pos c15 hb
          refine e_k 1 (f' := (111, [(0, .ref 112), (1, .int p2), (2, .int p3)], [.int 1])) rfl ?_
          obtain ⟨rfl, rfl, rfl⟩ := s_inj hb
          exact e_r rfl rfl K
        · replace hb := i_neg c15 hb
          refine e_k 1 (f' := (101, [(0, .ref 112), (1, .int p2), (2, .int p3)], [.ref 112])) rfl ?_
          refine r_getr rfl (x_ltn rfl) rfl rfl ?_
          refine e_k 2 (f' := (106, [(0, .ref 112), (1, .int p2), (2, .int p3)], [.int p2, .ref 118, .int p2, .ref 118])) rfl ?_
          obtain ⟨o16, hb⟩ := ob_in hb
          refine r_iald rfl rfl (x_ltn rfl) rfl o16 ?_
          refine e_k 2 (f' := (109, [(0, .ref 112), (1, .int p2), (2, .int p3)], [.int ((I7 118 (Int32.toNatClampNeg p2)) + 1), .int p2, .ref 118])) rfl ?_
          obtain ⟨o17, hb⟩ := ob_in hb
          obtain ⟨I18, eI18, hb⟩ := p_nm hb
          refine r_iast' rfl (x_ltn rfl) rfl o17 eI18 ?_
          refine e_k 1 (f' := (111, [(0, .ref 112), (1, .int p2), (2, .int p3)], [.int 1])) rfl ?_
          obtain ⟨rfl, rfl, rfl⟩ := s_inj hb
          exact e_r rfl rfl K
      clear hb
      refine e_if (fun c8 => ?_) (fun c8 => ?_)
      · replace h7 := i_pos c8 h7
        refine e_sub (ls := [(0, .ref 112), (1, .int p2), (2, .int p3)]) rfl ⟨rfl, rfl, rfl, trivial⟩ ?_
        obtain ⟨rfl, rfl, rfl⟩ := s_inj h7
        exact Kj7
      · replace h7 := i_neg c8 h7
        refine e_k 1 (f' := (66, [(3, .int x2), (0, .ref 112), (1, .int p2), (2, .int p3)], [.ref 112])) rfl ?_
        refine r_getr rfl (x_ltn rfl) rfl rfl ?_
        refine e_k 7 (f' := (76, [(3, .int x2), (0, .ref 112), (1, .int p2), (2, .int p3)], [.int p2, .ref 112, .int ((4 * x2) + p2), .ref 154])) rfl ?_
        obtain ⟨v9, I9, J9, h9, h7⟩ := oc_call h7
        refine r_cv (z := m_Model_takeOwn) (As := [.int p2]) (rest := [.int ((4 * x2) + p2), .ref 154]) rfl rfl rfl rfl rfl (x_ltn rfl) rfl rfl (E_Model_takeOwn  h9 ⟨_, rfl, ?_⟩)
        obtain ⟨o10, h7⟩ := ob_in h7
        obtain ⟨J11, eJ11, h7⟩ := p_nm h7
        refine r_last' rfl (x_ltn rfl) rfl o10 eJ11 ?_
        refine e_k 1 (f' := (81, [(3, .int x2), (0, .ref 112), (1, .int p2), (2, .int p3)], [.ref 112])) rfl ?_
        refine r_getr rfl (x_ltn rfl) rfl rfl ?_
        refine e_k 7 (f' := (91, [(3, .int x2), (0, .ref 112), (1, .int p2), (2, .int p3)], [.int p2, .ref 112, .int ((4 * x2) + p2), .ref 155])) rfl ?_
        obtain ⟨v12, I12, J12, h12, h7⟩ := oc_call h7
        refine r_cv (z := m_Model_takeOwn) (As := [.int p2]) (rest := [.int ((4 * x2) + p2), .ref 155]) rfl rfl rfl rfl rfl (x_ltn rfl) rfl rfl (E_Model_takeOwn  h12 ⟨_, rfl, ?_⟩)
        obtain ⟨o13, h7⟩ := ob_in h7
        obtain ⟨J14, eJ14, h7⟩ := p_nm h7
        refine r_last' rfl (x_ltn rfl) rfl o13 eJ14 ?_
        refine e_sub (ls := [(0, .ref 112), (1, .int p2), (2, .int p3)]) rfl ⟨rfl, rfl, rfl, trivial⟩ ?_
        obtain ⟨rfl, rfl, rfl⟩ := s_inj h7
        exact Kj7
    · replace hb := i_neg c5 hb
      refine e_k 1 (f' := (60, [(3, .int x2), (0, .ref 112), (1, .int p2), (2, .int p3)], [.int 0])) rfl ?_
      obtain ⟨rfl, rfl, rfl⟩ := s_inj hb
      exact e_r rfl rfl K
  · replace hb := i_neg c3 hb
    refine e_k 3 (f' := (17, [(3, .int x2), (0, .ref 112), (1, .int p2), (2, .int p3)], [.int (-1), .int p2, .ref 112])) rfl ?_
    obtain ⟨v19, I19, J19, h19, hb⟩ := oc_call hb
    refine r_cv (z := m_Model_receive) (As := [.int p2, .int (-1)]) (rest := []) rfl rfl rfl rfl rfl (x_ltn rfl) rfl rfl (E_Model_receive  h19 ⟨_, rfl, ?_⟩)
    refine e_k 1 (f' := (if ¬ v19 = 0 then 25 else 23, [(3, .int x2), (0, .ref 112), (1, .int p2), (2, .int p3)], [])) rfl ?_
    refine e_if (fun c20 => ?_) (fun c20 => ?_)
    · replace hb := i_pos c20 hb
      refine e_k 3 (f' := (if ¬ p3 = 1 then 37 else 30, [(3, .int x2), (0, .ref 112), (1, .int p2), (2, .int p3)], [])) rfl ?_
      obtain ⟨v22, I22, J22, h22, hb⟩ := oc_call hb
      have Kj22 : am_E (gG L xs) (d + 4) m_Model_check (37, [(0, .ref 112), (1, .int p2), (2, .int p3), (3, .int x2)], []) (hX X I22 J22) P := by
        refine e_k 3 (f' := (if ¬ p3 = 7 then 49 else 43, [(0, .ref 112), (1, .int p2), (2, .int p3), (3, .int x2)], [])) rfl ?_
        refine e_if (fun c26 => ?_) (fun c26 => ?_)
        · replace hb := i_pos c26 hb
          refine e_k 1 (f' := (50, [(0, .ref 112), (1, .int p2), (2, .int p3), (3, .int x2)], [.int 1])) rfl ?_
          obtain ⟨rfl, rfl, rfl⟩ := s_inj hb
          exact e_r rfl rfl K
        · replace hb := i_neg c26 hb
          refine e_k 3 (f' := (46, [(0, .ref 112), (1, .int p2), (2, .int p3), (3, .int x2)], [.int x2, .int p2, .ref 112])) rfl ?_
          obtain ⟨v27, I27, J27, h27, hb⟩ := oc_call hb
          refine r_cv (z := m_Model_sum) (As := [.int p2, .int x2]) (rest := []) rfl rfl rfl rfl rfl (x_ltn rfl) rfl rfl (E_Model_sum  h27 ⟨_, rfl, ?_⟩)
          refine e_k 1 (f' := (50, [(0, .ref 112), (1, .int p2), (2, .int p3), (3, .int x2)], [.int 1])) rfl ?_
          obtain ⟨rfl, rfl, rfl⟩ := s_inj hb
          exact e_r rfl rfl K
      clear hb
      refine e_if (fun c23 => ?_) (fun c23 => ?_)
      · replace h22 := i_pos c23 h22
        refine e_sub (ls := [(0, .ref 112), (1, .int p2), (2, .int p3), (3, .int x2)]) rfl ⟨rfl, rfl, rfl, rfl, trivial⟩ ?_
        obtain ⟨rfl, rfl, rfl⟩ := s_inj h22
        exact Kj22
      · replace h22 := i_neg c23 h22
        refine e_k 1 (f' := (31, [(3, .int x2), (0, .ref 112), (1, .int p2), (2, .int p3)], [.ref 112])) rfl ?_
        refine r_getr rfl (x_ltn rfl) rfl rfl ?_
        refine e_k 2 (f' := (36, [(3, .int x2), (0, .ref 112), (1, .int p2), (2, .int p3)], [.int x2, .int p2, .ref 142])) rfl ?_
        obtain ⟨o24, h22⟩ := ob_in h22
        obtain ⟨I25, eI25, h22⟩ := p_nm h22
        refine r_iast' rfl (x_ltn rfl) rfl o24 eI25 ?_
        refine e_sub (ls := [(0, .ref 112), (1, .int p2), (2, .int p3), (3, .int x2)]) rfl ⟨rfl, rfl, rfl, rfl, trivial⟩ ?_
        obtain ⟨rfl, rfl, rfl⟩ := s_inj h22
        exact Kj22
    · replace hb := i_neg c20 hb
      refine e_k 1 (f' := (24, [(3, .int x2), (0, .ref 112), (1, .int p2), (2, .int p3)], [.int 0])) rfl ?_
      obtain ⟨rfl, rfl, rfl⟩ := s_inj hb
      exact e_r rfl rfl K
theorem E_Model_out {p2 : Int32} {p3 : Int32} {p4 : Int32} {X : MX} {I : MI} {J : MJ} {v : Int32} {I' : MI} {J' : MJ} (hb : f_Model_out p2 p3 p4 I J = some (v, I', J')) (K : P (.inl (some (.int v))) (hX X I' J')) : am_E (gG L xs) (d + 5) m_Model_out (0, lv_args 0 [.ref 112, .int p2, .int p3, .int p4], []) (hX X I J) P := by
  unfold f_Model_out at hb
  refine e_k 1 (f' := (1, [(0, .ref 112), (1, .int p2), (2, .int p3), (3, .int p4)], [.ref 112])) rfl ?_
  refine r_getr rfl (x_ltn rfl) rfl rfl ?_
  refine e_k 1 (f' := (5, [(0, .ref 112), (1, .int p2), (2, .int p3), (3, .int p4)], [.int p2, .ref 128])) rfl ?_
  obtain ⟨o1, hb⟩ := ob_in hb
  refine r_iald rfl rfl (x_ltn rfl) rfl o1 ?_
  refine e_k 1 (f' := (if ¬ (I 128 (Int32.toNatClampNeg p2)) = 0 then 25 else 9, [(0, .ref 112), (1, .int p2), (2, .int p3), (3, .int p4)], [])) rfl ?_
  obtain ⟨v3, I3, J3, h3, hb⟩ := oc_call hb
  have Kj3 : am_E (gG L xs) (d + 5) m_Model_out (25, [(0, .ref 112), (1, .int p2), (2, .int p3), (3, .int p4)], []) (hX X I3 J3) P := by
    refine e_k 1 (f' := (26, [(0, .ref 112), (1, .int p2), (2, .int p3), (3, .int p4)], [.ref 112])) rfl ?_
    refine r_getr rfl (x_ltn rfl) rfl rfl ?_
    refine e_k 1 (f' := (30, [(0, .ref 112), (1, .int p2), (2, .int p3), (3, .int p4)], [.int p2, .ref 128])) rfl ?_
    obtain ⟨o9, hb⟩ := ob_in hb
    refine r_iald rfl rfl (x_ltn rfl) rfl o9 ?_
    refine e_k 1 (f' := (33, [(4, .int (I3 128 (Int32.toNatClampNeg p2))), (0, .ref 112), (1, .int p2), (2, .int p3), (3, .int p4)], [])) rfl ?_
    obtain ⟨x10, ex10, hb⟩ := p_nm hb
    rw [← ex10]
    refine e_k 3 (f' := (if x10 < 8 then 54 else 40, [(4, .int x10), (0, .ref 112), (1, .int p2), (2, .int p3), (3, .int p4)], [])) rfl ?_
    refine e_if (fun c11 => ?_) (fun c11 => ?_)
    · replace hb := i_pos c11 hb
      refine e_k 5 (f' := (if 8 ≤ x10 then 68 else 63, [(4, .int x10), (0, .ref 112), (1, .int p2), (2, .int p3), (3, .int p4)], [.int p2, .ref 112])) rfl ?_
      obtain ⟨v13, h13, hb⟩ := p_nn hb
      have Kj13 : am_E (gG L xs) (d + 5) m_Model_out (73, [(0, .ref 112), (1, .int p2), (4, .int x10)], [.int v13, .int p2, .ref 112]) (hX X I3 J3) P := by
        obtain ⟨v15, I15, J15, h15, hb⟩ := oc_call hb
        refine r_cv (z := m_Model_check) (As := [.int p2, .int v13]) (rest := []) rfl rfl rfl rfl rfl (x_ltn rfl) rfl rfl (E_Model_check  h15 ⟨_, rfl, ?_⟩)
        refine e_k 1 (f' := (if ¬ v15 = 0 then 81 else 79, [(0, .ref 112), (1, .int p2), (4, .int x10)], [])) rfl ?_
        refine e_if (fun c16 => ?_) (fun c16 => ?_)
        · replace hb := i_pos c16 hb
          refine e_k 1 (f' := (82, [(0, .ref 112), (1, .int p2), (4, .int x10)], [.ref 112])) rfl ?_
          refine r_getr rfl (x_ltn rfl) rfl rfl ?_
          refine e_k 4 (f' := (90, [(0, .ref 112), (1, .int p2), (4, .int x10)], [.int (x10 + 1), .int p2, .ref 128])) rfl ?_
          obtain ⟨o17, hb⟩ := ob_in hb
          obtain ⟨I18, eI18, hb⟩ := p_nm hb
          refine r_iast' rfl (x_ltn rfl) rfl o17 eI18 ?_
          refine e_k 1 (f' := (92, [(0, .ref 112), (1, .int p2), (4, .int x10)], [.int 1])) rfl ?_
          obtain ⟨rfl, rfl, rfl⟩ := s_inj hb
          exact e_r rfl rfl K
        · replace hb := i_neg c16 hb
          refine e_k 1 (f' := (80, [(0, .ref 112), (1, .int p2), (4, .int x10)], [.int 0])) rfl ?_
          obtain ⟨rfl, rfl, rfl⟩ := s_inj hb
          exact e_r rfl rfl K
      clear hb
      refine e_if (fun c14 => ?_) (fun c14 => ?_)
      · replace h13 := i_pos c14 h13
        refine e_k 3 (f' := (73, [(4, .int x10), (0, .ref 112), (1, .int p2), (2, .int p3), (3, .int p4)], [.int (x10 - 10), .int p2, .ref 112])) rfl ?_
        refine e_sub (ls := [(0, .ref 112), (1, .int p2), (4, .int x10)]) rfl ⟨rfl, rfl, rfl, trivial⟩ ?_
        subst h13
        exact Kj13
      · replace h13 := i_neg c14 h13
        refine e_k 2 (f' := (73, [(4, .int x10), (0, .ref 112), (1, .int p2), (2, .int p3), (3, .int p4)], [.int x10, .int p2, .ref 112])) rfl ?_
        refine e_sub (ls := [(0, .ref 112), (1, .int p2), (4, .int x10)]) rfl ⟨rfl, rfl, rfl, trivial⟩ ?_
        subst h13
        exact Kj13
    · replace hb := i_neg c11 hb
      refine e_k 3 (f' := (if x10 ≤ 9 then 93 else 47, [(4, .int x10), (0, .ref 112), (1, .int p2), (2, .int p3), (3, .int p4)], [])) rfl ?_
      refine e_if (fun c19 => ?_) (fun c19 => ?_)
      · replace hb := i_pos c19 hb
        refine e_k 2 (f' := (if p3 = 0 then 126 else 97, [(4, .int x10), (0, .ref 112), (1, .int p2), (2, .int p3), (3, .int p4)], [])) rfl ?_
        refine e_if (fun c20 => ?_) (fun c20 => ?_)
        · replace hb := i_pos c20 hb
          refine e_k 2 (f' := (if p3 = 0 then 194 else 130, [(4, .int x10), (0, .ref 112), (1, .int p2), (2, .int p3), (3, .int p4)], [])) rfl ?_
          refine e_if (fun c21 => ?_) (fun c21 => ?_)
          · replace hb := i_pos c21 hb
            refine e_k 1 (f' := (195, [(4, .int x10), (0, .ref 112), (1, .int p2), (2, .int p3), (3, .int p4)], [.ref 112])) rfl ?_
            refine r_getr rfl (x_ltn rfl) rfl rfl ?_
            refine e_k 1 (f' := (199, [(4, .int x10), (0, .ref 112), (1, .int p2), (2, .int p3), (3, .int p4)], [.ref 112, .ref 147])) rfl ?_
            refine r_getr rfl (x_ltn rfl) rfl rfl ?_
            refine e_k 1 (f' := (203, [(4, .int x10), (0, .ref 112), (1, .int p2), (2, .int p3), (3, .int p4)], [.int p2, .ref 133, .ref 147])) rfl ?_
            obtain ⟨o22, hb⟩ := ob_in hb
            refine r_iald rfl rfl (x_ltn rfl) rfl o22 ?_
            refine e_k 2 (f' := (if p3 = 0 then 217 else 208, [(4, .int x10), (0, .ref 112), (1, .int p2), (2, .int p3), (3, .int p4)], [.int (I3 133 (Int32.toNatClampNeg p2)), .ref 147])) rfl ?_
            obtain ⟨v25, I25, J25, h25, hb⟩ := oc_call hb
            have Kj25 : am_E (gG L xs) (d + 5) m_Model_out (223, [(0, .ref 112), (1, .int p2)], [.long v25, .int (I3 133 (Int32.toNatClampNeg p2)), .ref 147]) (hX X I25 J25) P := by
              obtain ⟨o29, hb⟩ := ob_in hb
              obtain ⟨J30, eJ30, hb⟩ := p_nm hb
              refine r_last' rfl (x_ltn rfl) rfl o29 eJ30 ?_
              refine e_k 1 (f' := (225, [(0, .ref 112), (1, .int p2)], [.ref 112])) rfl ?_
              refine r_getr rfl (x_ltn rfl) rfl rfl ?_
              refine e_k 2 (f' := (230, [(0, .ref 112), (1, .int p2)], [.int p2, .ref 133, .int p2, .ref 133])) rfl ?_
              obtain ⟨o31, hb⟩ := ob_in hb
              refine r_iald rfl rfl (x_ltn rfl) rfl o31 ?_
              refine e_k 2 (f' := (233, [(0, .ref 112), (1, .int p2)], [.int ((I25 133 (Int32.toNatClampNeg p2)) + 1), .int p2, .ref 133])) rfl ?_
              obtain ⟨o32, hb⟩ := ob_in hb
              obtain ⟨I33, eI33, hb⟩ := p_nm hb
              refine r_iast' rfl (x_ltn rfl) rfl o32 eI33 ?_
              refine e_k 2 (f' := (236, [(0, .ref 112), (1, .int p2)], [.int p2, .ref 112])) rfl ?_
              obtain ⟨v34, I34, J34, h34, hb⟩ := oc_call hb
              refine r_cv (z := m_Model_next) (As := [.int p2]) (rest := []) rfl rfl rfl rfl rfl (x_ltn rfl) rfl rfl (E_Model_next  h34 ⟨_, rfl, ?_⟩)
              refine e_k 1 (f' := (240, [(0, .ref 112), (1, .int p2)], [.int 1])) rfl ?_
              obtain ⟨rfl, rfl, rfl⟩ := s_inj hb
              exact e_r rfl rfl K
            clear hb
            refine e_if (fun c26 => ?_) (fun c26 => ?_)
            · replace h25 := i_pos c26 h25
              refine e_k 1 (f' := (218, [(4, .int x10), (0, .ref 112), (1, .int p2), (2, .int p3), (3, .int p4)], [.ref 112, .int (I3 133 (Int32.toNatClampNeg p2)), .ref 147])) rfl ?_
              refine r_getr rfl (x_ltn rfl) rfl rfl ?_
              refine e_k 1 (f' := (222, [(4, .int x10), (0, .ref 112), (1, .int p2), (2, .int p3), (3, .int p4)], [.int p4, .ref 143, .int (I3 133 (Int32.toNatClampNeg p2)), .ref 147])) rfl ?_
              obtain ⟨o27, h25⟩ := ob_in h25
              refine r_lald rfl rfl (x_ltn rfl) rfl o27 ?_
              refine e_sub (ls := [(0, .ref 112), (1, .int p2)]) rfl ⟨rfl, rfl, trivial⟩ ?_
              obtain ⟨rfl, rfl, rfl⟩ := s_inj h25
              exact Kj25
            · replace h25 := i_neg c26 h25
              refine e_k 1 (f' := (209, [(4, .int x10), (0, .ref 112), (1, .int p2), (2, .int p3), (3, .int p4)], [.ref 112, .int (I3 133 (Int32.toNatClampNeg p2)), .ref 147])) rfl ?_
              refine r_getr rfl (x_ltn rfl) rfl rfl ?_
              refine e_k 1 (f' := (213, [(4, .int x10), (0, .ref 112), (1, .int p2), (2, .int p3), (3, .int p4)], [.int p2, .ref 146, .int (I3 133 (Int32.toNatClampNeg p2)), .ref 147])) rfl ?_
              obtain ⟨o28, h25⟩ := ob_in h25
              refine r_lald rfl rfl (x_ltn rfl) rfl o28 ?_
              refine e_k 1 (f' := (223, [(4, .int x10), (0, .ref 112), (1, .int p2), (2, .int p3), (3, .int p4)], [.long (J3 146 (Int32.toNatClampNeg p2)), .int (I3 133 (Int32.toNatClampNeg p2)), .ref 147])) rfl ?_
              refine e_sub (ls := [(0, .ref 112), (1, .int p2)]) rfl ⟨rfl, rfl, trivial⟩ ?_
              obtain ⟨rfl, rfl, rfl⟩ := s_inj h25
              exact Kj25
          · replace hb := i_neg c21 hb
            refine e_k 3 (f' := (if ¬ x10 = 9 then 194 else 137, [(4, .int x10), (0, .ref 112), (1, .int p2), (2, .int p3), (3, .int p4)], [])) rfl ?_
            refine e_if (fun c35 => ?_) (fun c35 => ?_)
            · replace hb := i_pos c35 hb
              refine e_k 1 (f' := (195, [(4, .int x10), (0, .ref 112), (1, .int p2), (2, .int p3), (3, .int p4)], [.ref 112])) rfl ?_
              refine r_getr rfl (x_ltn rfl) rfl rfl ?_
              refine e_k 1 (f' := (199, [(4, .int x10), (0, .ref 112), (1, .int p2), (2, .int p3), (3, .int p4)], [.ref 112, .ref 147])) rfl ?_
              refine r_getr rfl (x_ltn rfl) rfl rfl ?_
              refine e_k 1 (f' := (203, [(4, .int x10), (0, .ref 112), (1, .int p2), (2, .int p3), (3, .int p4)], [.int p2, .ref 133, .ref 147])) rfl ?_
              obtain ⟨o36, hb⟩ := ob_in hb
              refine r_iald rfl rfl (x_ltn rfl) rfl o36 ?_
              refine e_k 2 (f' := (if p3 = 0 then 217 else 208, [(4, .int x10), (0, .ref 112), (1, .int p2), (2, .int p3), (3, .int p4)], [.int (I3 133 (Int32.toNatClampNeg p2)), .ref 147])) rfl ?_
              obtain ⟨v39, I39, J39, h39, hb⟩ := oc_call hb
              have Kj39 : am_E (gG L xs) (d + 5) m_Model_out (223, [(0, .ref 112), (1, .int p2)], [.long v39, .int (I3 133 (Int32.toNatClampNeg p2)), .ref 147]) (hX X I39 J39) P := by
                obtain ⟨o43, hb⟩ := ob_in hb
                obtain ⟨J44, eJ44, hb⟩ := p_nm hb
                refine r_last' rfl (x_ltn rfl) rfl o43 eJ44 ?_
                refine e_k 1 (f' := (225, [(0, .ref 112), (1, .int p2)], [.ref 112])) rfl ?_
                refine r_getr rfl (x_ltn rfl) rfl rfl ?_
                refine e_k 2 (f' := (230, [(0, .ref 112), (1, .int p2)], [.int p2, .ref 133, .int p2, .ref 133])) rfl ?_
                obtain ⟨o45, hb⟩ := ob_in hb
                refine r_iald rfl rfl (x_ltn rfl) rfl o45 ?_
                refine e_k 2 (f' := (233, [(0, .ref 112), (1, .int p2)], [.int ((I39 133 (Int32.toNatClampNeg p2)) + 1), .int p2, .ref 133])) rfl ?_
                obtain ⟨o46, hb⟩ := ob_in hb
                obtain ⟨I47, eI47, hb⟩ := p_nm hb
                refine r_iast' rfl (x_ltn rfl) rfl o46 eI47 ?_
                refine e_k 2 (f' := (236, [(0, .ref 112), (1, .int p2)], [.int p2, .ref 112])) rfl ?_
                obtain ⟨v48, I48, J48, h48, hb⟩ := oc_call hb
                refine r_cv (z := m_Model_next) (As := [.int p2]) (rest := []) rfl rfl rfl rfl rfl (x_ltn rfl) rfl rfl (E_Model_next  h48 ⟨_, rfl, ?_⟩)
                refine e_k 1 (f' := (240, [(0, .ref 112), (1, .int p2)], [.int 1])) rfl ?_
                obtain ⟨rfl, rfl, rfl⟩ := s_inj hb
                exact e_r rfl rfl K
              clear hb
              refine e_if (fun c40 => ?_) (fun c40 => ?_)
              · replace h39 := i_pos c40 h39
                refine e_k 1 (f' := (218, [(4, .int x10), (0, .ref 112), (1, .int p2), (2, .int p3), (3, .int p4)], [.ref 112, .int (I3 133 (Int32.toNatClampNeg p2)), .ref 147])) rfl ?_
                refine r_getr rfl (x_ltn rfl) rfl rfl ?_
                refine e_k 1 (f' := (222, [(4, .int x10), (0, .ref 112), (1, .int p2), (2, .int p3), (3, .int p4)], [.int p4, .ref 143, .int (I3 133 (Int32.toNatClampNeg p2)), .ref 147])) rfl ?_
                obtain ⟨o41, h39⟩ := ob_in h39
                refine r_lald rfl rfl (x_ltn rfl) rfl o41 ?_
                refine e_sub (ls := [(0, .ref 112), (1, .int p2)]) rfl ⟨rfl, rfl, trivial⟩ ?_
                obtain ⟨rfl, rfl, rfl⟩ := s_inj h39
                exact Kj39
              · replace h39 := i_neg c40 h39
                refine e_k 1 (f' := (209, [(4, .int x10), (0, .ref 112), (1, .int p2), (2, .int p3), (3, .int p4)], [.ref 112, .int (I3 133 (Int32.toNatClampNeg p2)), .ref 147])) rfl ?_
                refine r_getr rfl (x_ltn rfl) rfl rfl ?_
                refine e_k 1 (f' := (213, [(4, .int x10), (0, .ref 112), (1, .int p2), (2, .int p3), (3, .int p4)], [.int p2, .ref 146, .int (I3 133 (Int32.toNatClampNeg p2)), .ref 147])) rfl ?_
                obtain ⟨o42, h39⟩ := ob_in h39
                refine r_lald rfl rfl (x_ltn rfl) rfl o42 ?_
                refine e_k 1 (f' := (223, [(4, .int x10), (0, .ref 112), (1, .int p2), (2, .int p3), (3, .int p4)], [.long (J3 146 (Int32.toNatClampNeg p2)), .int (I3 133 (Int32.toNatClampNeg p2)), .ref 147])) rfl ?_
                refine e_sub (ls := [(0, .ref 112), (1, .int p2)]) rfl ⟨rfl, rfl, trivial⟩ ?_
                obtain ⟨rfl, rfl, rfl⟩ := s_inj h39
                exact Kj39
            · replace hb := i_neg c35 hb
              refine e_k 3 (f' := (140, [(4, .int x10), (0, .ref 112), (1, .int p2), (2, .int p3), (3, .int p4)], [.int (-1), .int p2, .ref 112])) rfl ?_
              obtain ⟨v49, I49, J49, h49, hb⟩ := oc_call hb
              refine r_cv (z := m_Model_receive) (As := [.int p2, .int (-1)]) (rest := []) rfl rfl rfl rfl rfl (x_ltn rfl) rfl rfl (E_Model_receive  h49 ⟨_, rfl, ?_⟩)
              refine e_k 1 (f' := (if ¬ v49 = 0 then 148 else 146, [(4, .int x10), (0, .ref 112), (1, .int p2), (2, .int p3), (3, .int p4)], [])) rfl ?_
              refine e_if (fun c50 => ?_) (fun c50 => ?_)
              · replace hb := i_pos c50 hb
                refine e_k 1 (f' := (149, [(4, .int x10), (0, .ref 112), (1, .int p2), (2, .int p3), (3, .int p4)], [.ref 112])) rfl ?_
                refine r_getr rfl (x_ltn rfl) rfl rfl ?_
                refine e_k 2 (f' := (154, [(4, .int x10), (0, .ref 112), (1, .int p2), (2, .int p3), (3, .int p4)], [.ref 112, .int p2, .ref 146])) rfl ?_
                refine r_getr rfl (x_ltn rfl) rfl rfl ?_
                refine e_k 1 (f' := (158, [(4, .int x10), (0, .ref 112), (1, .int p2), (2, .int p3), (3, .int p4)], [.int p4, .ref 143, .int p2, .ref 146])) rfl ?_
                obtain ⟨o51, hb⟩ := ob_in hb
                refine r_lald rfl rfl (x_ltn rfl) rfl o51 ?_
                refine e_k 2 (f' := (161, [(4, .int x10), (0, .ref 112), (1, .int p2), (2, .int p3), (3, .int p4)], [.ref 112, .ref 112, .long (J49 143 (Int32.toNatClampNeg p4)), .int p2, .ref 146])) rfl ?_
                refine r_getr rfl (x_ltn rfl) rfl rfl ?_
                refine e_k 1 (f' := (165, [(4, .int x10), (0, .ref 112), (1, .int p2), (2, .int p3), (3, .int p4)], [.int p2, .ref 135, .ref 112, .long (J49 143 (Int32.toNatClampNeg p4)), .int p2, .ref 146])) rfl ?_
                obtain ⟨o52, hb⟩ := ob_in hb
                refine r_iald rfl rfl (x_ltn rfl) rfl o52 ?_
                refine e_k 1 (f' := (167, [(4, .int x10), (0, .ref 112), (1, .int p2), (2, .int p3), (3, .int p4)], [.int 0, .int (I49 135 (Int32.toNatClampNeg p2)), .ref 112, .long (J49 143 (Int32.toNatClampNeg p4)), .int p2, .ref 146])) rfl ?_
                obtain ⟨v53, I53, J53, h53, hb⟩ := oc_call hb
                refine r_cv (z := m_Model_error) (As := [.int (I49 135 (Int32.toNatClampNeg p2)), .int 0]) (rest := [.long (J49 143 (Int32.toNatClampNeg p4)), .int p2, .ref 146]) rfl rfl rfl rfl rfl (x_ltn rfl) rfl rfl (E_Model_error  h53 ⟨_, rfl, ?_⟩)
                obtain ⟨v54, I54, J54, h54, hb⟩ := oc_call hb
                refine r_cs (z := m_Model_plus) (As := [.long (J49 143 (Int32.toNatClampNeg p4)), .long v53]) (rest := [.int p2, .ref 146]) rfl rfl rfl rfl rfl rfl (E_Model_plus  h54 ⟨_, rfl, ?_⟩)
                obtain ⟨o55, hb⟩ := ob_in hb
                obtain ⟨J56, eJ56, hb⟩ := p_nm hb
                refine r_last' rfl (x_ltn rfl) rfl o55 eJ56 ?_
                refine e_k 1 (f' := (175, [(4, .int x10), (0, .ref 112), (1, .int p2), (2, .int p3), (3, .int p4)], [.ref 112])) rfl ?_
                refine r_getr rfl (x_ltn rfl) rfl rfl ?_
                refine e_k 2 (f' := (180, [(4, .int x10), (0, .ref 112), (1, .int p2), (2, .int p3), (3, .int p4)], [.int p2, .ref 135, .int p2, .ref 135])) rfl ?_
                obtain ⟨o57, hb⟩ := ob_in hb
                refine r_iald rfl rfl (x_ltn rfl) rfl o57 ?_
                refine e_k 2 (f' := (183, [(4, .int x10), (0, .ref 112), (1, .int p2), (2, .int p3), (3, .int p4)], [.int ((I54 135 (Int32.toNatClampNeg p2)) + 1), .int p2, .ref 135])) rfl ?_
                obtain ⟨o58, hb⟩ := ob_in hb
                obtain ⟨I59, eI59, hb⟩ := p_nm hb
                refine r_iast' rfl (x_ltn rfl) rfl o58 eI59 ?_
                refine e_k 1 (f' := (185, [(4, .int x10), (0, .ref 112), (1, .int p2), (2, .int p3), (3, .int p4)], [.ref 112])) rfl ?_
                refine r_getr rfl (x_ltn rfl) rfl rfl ?_
                refine e_k 2 (f' := (191, [(4, .int x10), (0, .ref 112), (1, .int p2), (2, .int p3), (3, .int p4)], [.int 10, .int p2, .ref 128])) rfl ?_
                obtain ⟨o60, hb⟩ := ob_in hb
                obtain ⟨I61, eI61, hb⟩ := p_nm hb
                refine r_iast' rfl (x_ltn rfl) rfl o60 eI61 ?_
                refine e_k 1 (f' := (193, [(4, .int x10), (0, .ref 112), (1, .int p2), (2, .int p3), (3, .int p4)], [.int 1])) rfl ?_
                obtain ⟨rfl, rfl, rfl⟩ := s_inj hb
                exact e_r rfl rfl K
              · replace hb := i_neg c50 hb
                refine e_k 1 (f' := (147, [(4, .int x10), (0, .ref 112), (1, .int p2), (2, .int p3), (3, .int p4)], [.int 0])) rfl ?_
                obtain ⟨rfl, rfl, rfl⟩ := s_inj hb
                exact e_r rfl rfl K
        · replace hb := i_neg c20 hb
          refine e_k 3 (f' := (if ¬ x10 = 8 then 126 else 104, [(4, .int x10), (0, .ref 112), (1, .int p2), (2, .int p3), (3, .int p4)], [])) rfl ?_
          refine e_if (fun c62 => ?_) (fun c62 => ?_)
          · replace hb := i_pos c62 hb
            refine e_k 2 (f' := (if p3 = 0 then 194 else 130, [(4, .int x10), (0, .ref 112), (1, .int p2), (2, .int p3), (3, .int p4)], [])) rfl ?_
            refine e_if (fun c63 => ?_) (fun c63 => ?_)
            · replace hb := i_pos c63 hb
              refine e_k 1 (f' := (195, [(4, .int x10), (0, .ref 112), (1, .int p2), (2, .int p3), (3, .int p4)], [.ref 112])) rfl ?_
              refine r_getr rfl (x_ltn rfl) rfl rfl ?_
              refine e_k 1 (f' := (199, [(4, .int x10), (0, .ref 112), (1, .int p2), (2, .int p3), (3, .int p4)], [.ref 112, .ref 147])) rfl ?_
              refine r_getr rfl (x_ltn rfl) rfl rfl ?_
              refine e_k 1 (f' := (203, [(4, .int x10), (0, .ref 112), (1, .int p2), (2, .int p3), (3, .int p4)], [.int p2, .ref 133, .ref 147])) rfl ?_
              obtain ⟨o64, hb⟩ := ob_in hb
              refine r_iald rfl rfl (x_ltn rfl) rfl o64 ?_
              refine e_k 2 (f' := (if p3 = 0 then 217 else 208, [(4, .int x10), (0, .ref 112), (1, .int p2), (2, .int p3), (3, .int p4)], [.int (I3 133 (Int32.toNatClampNeg p2)), .ref 147])) rfl ?_
              obtain ⟨v67, I67, J67, h67, hb⟩ := oc_call hb
              have Kj67 : am_E (gG L xs) (d + 5) m_Model_out (223, [(0, .ref 112), (1, .int p2)], [.long v67, .int (I3 133 (Int32.toNatClampNeg p2)), .ref 147]) (hX X I67 J67) P := by
                obtain ⟨o71, hb⟩ := ob_in hb
                obtain ⟨J72, eJ72, hb⟩ := p_nm hb
                refine r_last' rfl (x_ltn rfl) rfl o71 eJ72 ?_
                refine e_k 1 (f' := (225, [(0, .ref 112), (1, .int p2)], [.ref 112])) rfl ?_
                refine r_getr rfl (x_ltn rfl) rfl rfl ?_
                refine e_k 2 (f' := (230, [(0, .ref 112), (1, .int p2)], [.int p2, .ref 133, .int p2, .ref 133])) rfl ?_
                obtain ⟨o73, hb⟩ := ob_in hb
                refine r_iald rfl rfl (x_ltn rfl) rfl o73 ?_
                refine e_k 2 (f' := (233, [(0, .ref 112), (1, .int p2)], [.int ((I67 133 (Int32.toNatClampNeg p2)) + 1), .int p2, .ref 133])) rfl ?_
                obtain ⟨o74, hb⟩ := ob_in hb
                obtain ⟨I75, eI75, hb⟩ := p_nm hb
                refine r_iast' rfl (x_ltn rfl) rfl o74 eI75 ?_
                refine e_k 2 (f' := (236, [(0, .ref 112), (1, .int p2)], [.int p2, .ref 112])) rfl ?_
                obtain ⟨v76, I76, J76, h76, hb⟩ := oc_call hb
                refine r_cv (z := m_Model_next) (As := [.int p2]) (rest := []) rfl rfl rfl rfl rfl (x_ltn rfl) rfl rfl (E_Model_next  h76 ⟨_, rfl, ?_⟩)
                refine e_k 1 (f' := (240, [(0, .ref 112), (1, .int p2)], [.int 1])) rfl ?_
                obtain ⟨rfl, rfl, rfl⟩ := s_inj hb
                exact e_r rfl rfl K
              clear hb
              refine e_if (fun c68 => ?_) (fun c68 => ?_)
              · replace h67 := i_pos c68 h67
                refine e_k 1 (f' := (218, [(4, .int x10), (0, .ref 112), (1, .int p2), (2, .int p3), (3, .int p4)], [.ref 112, .int (I3 133 (Int32.toNatClampNeg p2)), .ref 147])) rfl ?_
                refine r_getr rfl (x_ltn rfl) rfl rfl ?_
                refine e_k 1 (f' := (222, [(4, .int x10), (0, .ref 112), (1, .int p2), (2, .int p3), (3, .int p4)], [.int p4, .ref 143, .int (I3 133 (Int32.toNatClampNeg p2)), .ref 147])) rfl ?_
                obtain ⟨o69, h67⟩ := ob_in h67
                refine r_lald rfl rfl (x_ltn rfl) rfl o69 ?_
                refine e_sub (ls := [(0, .ref 112), (1, .int p2)]) rfl ⟨rfl, rfl, trivial⟩ ?_
                obtain ⟨rfl, rfl, rfl⟩ := s_inj h67
                exact Kj67
              · replace h67 := i_neg c68 h67
                refine e_k 1 (f' := (209, [(4, .int x10), (0, .ref 112), (1, .int p2), (2, .int p3), (3, .int p4)], [.ref 112, .int (I3 133 (Int32.toNatClampNeg p2)), .ref 147])) rfl ?_
                refine r_getr rfl (x_ltn rfl) rfl rfl ?_
                refine e_k 1 (f' := (213, [(4, .int x10), (0, .ref 112), (1, .int p2), (2, .int p3), (3, .int p4)], [.int p2, .ref 146, .int (I3 133 (Int32.toNatClampNeg p2)), .ref 147])) rfl ?_
                obtain ⟨o70, h67⟩ := ob_in h67
                refine r_lald rfl rfl (x_ltn rfl) rfl o70 ?_
                refine e_k 1 (f' := (223, [(4, .int x10), (0, .ref 112), (1, .int p2), (2, .int p3), (3, .int p4)], [.long (J3 146 (Int32.toNatClampNeg p2)), .int (I3 133 (Int32.toNatClampNeg p2)), .ref 147])) rfl ?_
                refine e_sub (ls := [(0, .ref 112), (1, .int p2)]) rfl ⟨rfl, rfl, trivial⟩ ?_
                obtain ⟨rfl, rfl, rfl⟩ := s_inj h67
                exact Kj67
            · replace hb := i_neg c63 hb
              refine e_k 3 (f' := (if ¬ x10 = 9 then 194 else 137, [(4, .int x10), (0, .ref 112), (1, .int p2), (2, .int p3), (3, .int p4)], [])) rfl ?_
              refine e_if (fun c77 => ?_) (fun c77 => ?_)
              · replace hb := i_pos c77 hb
                refine e_k 1 (f' := (195, [(4, .int x10), (0, .ref 112), (1, .int p2), (2, .int p3), (3, .int p4)], [.ref 112])) rfl ?_
                refine r_getr rfl (x_ltn rfl) rfl rfl ?_
                refine e_k 1 (f' := (199, [(4, .int x10), (0, .ref 112), (1, .int p2), (2, .int p3), (3, .int p4)], [.ref 112, .ref 147])) rfl ?_
                refine r_getr rfl (x_ltn rfl) rfl rfl ?_
                refine e_k 1 (f' := (203, [(4, .int x10), (0, .ref 112), (1, .int p2), (2, .int p3), (3, .int p4)], [.int p2, .ref 133, .ref 147])) rfl ?_
                obtain ⟨o78, hb⟩ := ob_in hb
                refine r_iald rfl rfl (x_ltn rfl) rfl o78 ?_
                refine e_k 2 (f' := (if p3 = 0 then 217 else 208, [(4, .int x10), (0, .ref 112), (1, .int p2), (2, .int p3), (3, .int p4)], [.int (I3 133 (Int32.toNatClampNeg p2)), .ref 147])) rfl ?_
                obtain ⟨v81, I81, J81, h81, hb⟩ := oc_call hb
                have Kj81 : am_E (gG L xs) (d + 5) m_Model_out (223, [(0, .ref 112), (1, .int p2)], [.long v81, .int (I3 133 (Int32.toNatClampNeg p2)), .ref 147]) (hX X I81 J81) P := by
                  obtain ⟨o85, hb⟩ := ob_in hb
                  obtain ⟨J86, eJ86, hb⟩ := p_nm hb
                  refine r_last' rfl (x_ltn rfl) rfl o85 eJ86 ?_
                  refine e_k 1 (f' := (225, [(0, .ref 112), (1, .int p2)], [.ref 112])) rfl ?_
                  refine r_getr rfl (x_ltn rfl) rfl rfl ?_
                  refine e_k 2 (f' := (230, [(0, .ref 112), (1, .int p2)], [.int p2, .ref 133, .int p2, .ref 133])) rfl ?_
                  obtain ⟨o87, hb⟩ := ob_in hb
                  refine r_iald rfl rfl (x_ltn rfl) rfl o87 ?_
                  refine e_k 2 (f' := (233, [(0, .ref 112), (1, .int p2)], [.int ((I81 133 (Int32.toNatClampNeg p2)) + 1), .int p2, .ref 133])) rfl ?_
                  obtain ⟨o88, hb⟩ := ob_in hb
                  obtain ⟨I89, eI89, hb⟩ := p_nm hb
                  refine r_iast' rfl (x_ltn rfl) rfl o88 eI89 ?_
                  refine e_k 2 (f' := (236, [(0, .ref 112), (1, .int p2)], [.int p2, .ref 112])) rfl ?_
                  obtain ⟨v90, I90, J90, h90, hb⟩ := oc_call hb
                  refine r_cv (z := m_Model_next) (As := [.int p2]) (rest := []) rfl rfl rfl rfl rfl (x_ltn rfl) rfl rfl (E_Model_next  h90 ⟨_, rfl, ?_⟩)
                  refine e_k 1 (f' := (240, [(0, .ref 112), (1, .int p2)], [.int 1])) rfl ?_
                  obtain ⟨rfl, rfl, rfl⟩ := s_inj hb
                  exact e_r rfl rfl K
                clear hb
                refine e_if (fun c82 => ?_) (fun c82 => ?_)
                · replace h81 := i_pos c82 h81
                  refine e_k 1 (f' := (218, [(4, .int x10), (0, .ref 112), (1, .int p2), (2, .int p3), (3, .int p4)], [.ref 112, .int (I3 133 (Int32.toNatClampNeg p2)), .ref 147])) rfl ?_
                  refine r_getr rfl (x_ltn rfl) rfl rfl ?_
                  refine e_k 1 (f' := (222, [(4, .int x10), (0, .ref 112), (1, .int p2), (2, .int p3), (3, .int p4)], [.int p4, .ref 143, .int (I3 133 (Int32.toNatClampNeg p2)), .ref 147])) rfl ?_
                  obtain ⟨o83, h81⟩ := ob_in h81
                  refine r_lald rfl rfl (x_ltn rfl) rfl o83 ?_
                  refine e_sub (ls := [(0, .ref 112), (1, .int p2)]) rfl ⟨rfl, rfl, trivial⟩ ?_
                  obtain ⟨rfl, rfl, rfl⟩ := s_inj h81
                  exact Kj81
                · replace h81 := i_neg c82 h81
                  refine e_k 1 (f' := (209, [(4, .int x10), (0, .ref 112), (1, .int p2), (2, .int p3), (3, .int p4)], [.ref 112, .int (I3 133 (Int32.toNatClampNeg p2)), .ref 147])) rfl ?_
                  refine r_getr rfl (x_ltn rfl) rfl rfl ?_
                  refine e_k 1 (f' := (213, [(4, .int x10), (0, .ref 112), (1, .int p2), (2, .int p3), (3, .int p4)], [.int p2, .ref 146, .int (I3 133 (Int32.toNatClampNeg p2)), .ref 147])) rfl ?_
                  obtain ⟨o84, h81⟩ := ob_in h81
                  refine r_lald rfl rfl (x_ltn rfl) rfl o84 ?_
                  refine e_k 1 (f' := (223, [(4, .int x10), (0, .ref 112), (1, .int p2), (2, .int p3), (3, .int p4)], [.long (J3 146 (Int32.toNatClampNeg p2)), .int (I3 133 (Int32.toNatClampNeg p2)), .ref 147])) rfl ?_
                  refine e_sub (ls := [(0, .ref 112), (1, .int p2)]) rfl ⟨rfl, rfl, trivial⟩ ?_
                  obtain ⟨rfl, rfl, rfl⟩ := s_inj h81
                  exact Kj81
              · replace hb := i_neg c77 hb
                refine e_k 3 (f' := (140, [(4, .int x10), (0, .ref 112), (1, .int p2), (2, .int p3), (3, .int p4)], [.int (-1), .int p2, .ref 112])) rfl ?_
                obtain ⟨v91, I91, J91, h91, hb⟩ := oc_call hb
                refine r_cv (z := m_Model_receive) (As := [.int p2, .int (-1)]) (rest := []) rfl rfl rfl rfl rfl (x_ltn rfl) rfl rfl (E_Model_receive  h91 ⟨_, rfl, ?_⟩)
                refine e_k 1 (f' := (if ¬ v91 = 0 then 148 else 146, [(4, .int x10), (0, .ref 112), (1, .int p2), (2, .int p3), (3, .int p4)], [])) rfl ?_
                refine e_if (fun c92 => ?_) (fun c92 => ?_)
                · replace hb := i_pos c92 hb
                  refine e_k 1 (f' := (149, [(4, .int x10), (0, .ref 112), (1, .int p2), (2, .int p3), (3, .int p4)], [.ref 112])) rfl ?_
                  refine r_getr rfl (x_ltn rfl) rfl rfl ?_
                  refine e_k 2 (f' := (154, [(4, .int x10), (0, .ref 112), (1, .int p2), (2, .int p3), (3, .int p4)], [.ref 112, .int p2, .ref 146])) rfl ?_
                  refine r_getr rfl (x_ltn rfl) rfl rfl ?_
                  refine e_k 1 (f' := (158, [(4, .int x10), (0, .ref 112), (1, .int p2), (2, .int p3), (3, .int p4)], [.int p4, .ref 143, .int p2, .ref 146])) rfl ?_
                  obtain ⟨o93, hb⟩ := ob_in hb
                  refine r_lald rfl rfl (x_ltn rfl) rfl o93 ?_
                  refine e_k 2 (f' := (161, [(4, .int x10), (0, .ref 112), (1, .int p2), (2, .int p3), (3, .int p4)], [.ref 112, .ref 112, .long (J91 143 (Int32.toNatClampNeg p4)), .int p2, .ref 146])) rfl ?_
                  refine r_getr rfl (x_ltn rfl) rfl rfl ?_
                  refine e_k 1 (f' := (165, [(4, .int x10), (0, .ref 112), (1, .int p2), (2, .int p3), (3, .int p4)], [.int p2, .ref 135, .ref 112, .long (J91 143 (Int32.toNatClampNeg p4)), .int p2, .ref 146])) rfl ?_
                  obtain ⟨o94, hb⟩ := ob_in hb
                  refine r_iald rfl rfl (x_ltn rfl) rfl o94 ?_
                  refine e_k 1 (f' := (167, [(4, .int x10), (0, .ref 112), (1, .int p2), (2, .int p3), (3, .int p4)], [.int 0, .int (I91 135 (Int32.toNatClampNeg p2)), .ref 112, .long (J91 143 (Int32.toNatClampNeg p4)), .int p2, .ref 146])) rfl ?_
                  obtain ⟨v95, I95, J95, h95, hb⟩ := oc_call hb
                  refine r_cv (z := m_Model_error) (As := [.int (I91 135 (Int32.toNatClampNeg p2)), .int 0]) (rest := [.long (J91 143 (Int32.toNatClampNeg p4)), .int p2, .ref 146]) rfl rfl rfl rfl rfl (x_ltn rfl) rfl rfl (E_Model_error  h95 ⟨_, rfl, ?_⟩)
                  obtain ⟨v96, I96, J96, h96, hb⟩ := oc_call hb
                  refine r_cs (z := m_Model_plus) (As := [.long (J91 143 (Int32.toNatClampNeg p4)), .long v95]) (rest := [.int p2, .ref 146]) rfl rfl rfl rfl rfl rfl (E_Model_plus  h96 ⟨_, rfl, ?_⟩)
                  obtain ⟨o97, hb⟩ := ob_in hb
                  obtain ⟨J98, eJ98, hb⟩ := p_nm hb
                  refine r_last' rfl (x_ltn rfl) rfl o97 eJ98 ?_
                  refine e_k 1 (f' := (175, [(4, .int x10), (0, .ref 112), (1, .int p2), (2, .int p3), (3, .int p4)], [.ref 112])) rfl ?_
                  refine r_getr rfl (x_ltn rfl) rfl rfl ?_
                  refine e_k 2 (f' := (180, [(4, .int x10), (0, .ref 112), (1, .int p2), (2, .int p3), (3, .int p4)], [.int p2, .ref 135, .int p2, .ref 135])) rfl ?_
                  obtain ⟨o99, hb⟩ := ob_in hb
                  refine r_iald rfl rfl (x_ltn rfl) rfl o99 ?_
                  refine e_k 2 (f' := (183, [(4, .int x10), (0, .ref 112), (1, .int p2), (2, .int p3), (3, .int p4)], [.int ((I96 135 (Int32.toNatClampNeg p2)) + 1), .int p2, .ref 135])) rfl ?_
                  obtain ⟨o100, hb⟩ := ob_in hb
                  obtain ⟨I101, eI101, hb⟩ := p_nm hb
                  refine r_iast' rfl (x_ltn rfl) rfl o100 eI101 ?_
                  refine e_k 1 (f' := (185, [(4, .int x10), (0, .ref 112), (1, .int p2), (2, .int p3), (3, .int p4)], [.ref 112])) rfl ?_
                  refine r_getr rfl (x_ltn rfl) rfl rfl ?_
                  refine e_k 2 (f' := (191, [(4, .int x10), (0, .ref 112), (1, .int p2), (2, .int p3), (3, .int p4)], [.int 10, .int p2, .ref 128])) rfl ?_
                  obtain ⟨o102, hb⟩ := ob_in hb
                  obtain ⟨I103, eI103, hb⟩ := p_nm hb
                  refine r_iast' rfl (x_ltn rfl) rfl o102 eI103 ?_
                  refine e_k 1 (f' := (193, [(4, .int x10), (0, .ref 112), (1, .int p2), (2, .int p3), (3, .int p4)], [.int 1])) rfl ?_
                  obtain ⟨rfl, rfl, rfl⟩ := s_inj hb
                  exact e_r rfl rfl K
                · replace hb := i_neg c92 hb
                  refine e_k 1 (f' := (147, [(4, .int x10), (0, .ref 112), (1, .int p2), (2, .int p3), (3, .int p4)], [.int 0])) rfl ?_
                  obtain ⟨rfl, rfl, rfl⟩ := s_inj hb
                  exact e_r rfl rfl K
          · replace hb := i_neg c62 hb
            refine e_k 4 (f' := (108, [(4, .int x10), (0, .ref 112), (1, .int p2), (2, .int p3), (3, .int p4)], [.long 0, .int 4, .int p2, .ref 112])) rfl ?_
            obtain ⟨v104, I104, J104, h104, hb⟩ := oc_call hb
            refine r_cv (z := m_Model_send) (As := [.int p2, .int 4, .long 0]) (rest := []) rfl rfl rfl rfl rfl (x_ltn rfl) rfl rfl (E_Model_send  h104 ⟨_, rfl, ?_⟩)
            refine e_k 1 (f' := (if ¬ v104 = 0 then 116 else 114, [(4, .int x10), (0, .ref 112), (1, .int p2), (2, .int p3), (3, .int p4)], [])) rfl ?_
            refine e_if (fun c105 => ?_) (fun c105 => ?_)
            · replace hb := i_pos c105 hb
              refine e_k 1 (f' := (117, [(4, .int x10), (0, .ref 112), (1, .int p2), (2, .int p3), (3, .int p4)], [.ref 112])) rfl ?_
              refine r_getr rfl (x_ltn rfl) rfl rfl ?_
              refine e_k 2 (f' := (123, [(4, .int x10), (0, .ref 112), (1, .int p2), (2, .int p3), (3, .int p4)], [.int 9, .int p2, .ref 128])) rfl ?_
              obtain ⟨o106, hb⟩ := ob_in hb
              obtain ⟨I107, eI107, hb⟩ := p_nm hb
              refine r_iast' rfl (x_ltn rfl) rfl o106 eI107 ?_
              refine e_k 1 (f' := (125, [(4, .int x10), (0, .ref 112), (1, .int p2), (2, .int p3), (3, .int p4)], [.int 1])) rfl ?_
              obtain ⟨rfl, rfl, rfl⟩ := s_inj hb
              exact e_r rfl rfl K
            · replace hb := i_neg c105 hb
              refine e_k 1 (f' := (115, [(4, .int x10), (0, .ref 112), (1, .int p2), (2, .int p3), (3, .int p4)], [.int 0])) rfl ?_
              obtain ⟨rfl, rfl, rfl⟩ := s_inj hb
              exact e_r rfl rfl K
      · replace hb := i_neg c19 hb
        refine e_k 3 (f' := (if 18 ≤ x10 then 93 else 54, [(4, .int x10), (0, .ref 112), (1, .int p2), (2, .int p3), (3, .int p4)], [])) rfl ?_
        refine e_if (fun c108 => ?_) (fun c108 => ?_)
        · replace hb := i_pos c108 hb
          refine e_k 2 (f' := (if p3 = 0 then 126 else 97, [(4, .int x10), (0, .ref 112), (1, .int p2), (2, .int p3), (3, .int p4)], [])) rfl ?_
          refine e_if (fun c109 => ?_) (fun c109 => ?_)
          · replace hb := i_pos c109 hb
            refine e_k 2 (f' := (if p3 = 0 then 194 else 130, [(4, .int x10), (0, .ref 112), (1, .int p2), (2, .int p3), (3, .int p4)], [])) rfl ?_
            refine e_if (fun c110 => ?_) (fun c110 => ?_)
            · replace hb := i_pos c110 hb
              refine e_k 1 (f' := (195, [(4, .int x10), (0, .ref 112), (1, .int p2), (2, .int p3), (3, .int p4)], [.ref 112])) rfl ?_
              refine r_getr rfl (x_ltn rfl) rfl rfl ?_
              refine e_k 1 (f' := (199, [(4, .int x10), (0, .ref 112), (1, .int p2), (2, .int p3), (3, .int p4)], [.ref 112, .ref 147])) rfl ?_
              refine r_getr rfl (x_ltn rfl) rfl rfl ?_
              refine e_k 1 (f' := (203, [(4, .int x10), (0, .ref 112), (1, .int p2), (2, .int p3), (3, .int p4)], [.int p2, .ref 133, .ref 147])) rfl ?_
              obtain ⟨o111, hb⟩ := ob_in hb
              refine r_iald rfl rfl (x_ltn rfl) rfl o111 ?_
              refine e_k 2 (f' := (if p3 = 0 then 217 else 208, [(4, .int x10), (0, .ref 112), (1, .int p2), (2, .int p3), (3, .int p4)], [.int (I3 133 (Int32.toNatClampNeg p2)), .ref 147])) rfl ?_
              obtain ⟨v114, I114, J114, h114, hb⟩ := oc_call hb
              have Kj114 : am_E (gG L xs) (d + 5) m_Model_out (223, [(0, .ref 112), (1, .int p2)], [.long v114, .int (I3 133 (Int32.toNatClampNeg p2)), .ref 147]) (hX X I114 J114) P := by
                obtain ⟨o118, hb⟩ := ob_in hb
                obtain ⟨J119, eJ119, hb⟩ := p_nm hb
                refine r_last' rfl (x_ltn rfl) rfl o118 eJ119 ?_
                refine e_k 1 (f' := (225, [(0, .ref 112), (1, .int p2)], [.ref 112])) rfl ?_
                refine r_getr rfl (x_ltn rfl) rfl rfl ?_
                refine e_k 2 (f' := (230, [(0, .ref 112), (1, .int p2)], [.int p2, .ref 133, .int p2, .ref 133])) rfl ?_
                obtain ⟨o120, hb⟩ := ob_in hb
                refine r_iald rfl rfl (x_ltn rfl) rfl o120 ?_
                refine e_k 2 (f' := (233, [(0, .ref 112), (1, .int p2)], [.int ((I114 133 (Int32.toNatClampNeg p2)) + 1), .int p2, .ref 133])) rfl ?_
                obtain ⟨o121, hb⟩ := ob_in hb
                obtain ⟨I122, eI122, hb⟩ := p_nm hb
                refine r_iast' rfl (x_ltn rfl) rfl o121 eI122 ?_
                refine e_k 2 (f' := (236, [(0, .ref 112), (1, .int p2)], [.int p2, .ref 112])) rfl ?_
                obtain ⟨v123, I123, J123, h123, hb⟩ := oc_call hb
                refine r_cv (z := m_Model_next) (As := [.int p2]) (rest := []) rfl rfl rfl rfl rfl (x_ltn rfl) rfl rfl (E_Model_next  h123 ⟨_, rfl, ?_⟩)
                refine e_k 1 (f' := (240, [(0, .ref 112), (1, .int p2)], [.int 1])) rfl ?_
                obtain ⟨rfl, rfl, rfl⟩ := s_inj hb
                exact e_r rfl rfl K
              clear hb
              refine e_if (fun c115 => ?_) (fun c115 => ?_)
              · replace h114 := i_pos c115 h114
                refine e_k 1 (f' := (218, [(4, .int x10), (0, .ref 112), (1, .int p2), (2, .int p3), (3, .int p4)], [.ref 112, .int (I3 133 (Int32.toNatClampNeg p2)), .ref 147])) rfl ?_
                refine r_getr rfl (x_ltn rfl) rfl rfl ?_
                refine e_k 1 (f' := (222, [(4, .int x10), (0, .ref 112), (1, .int p2), (2, .int p3), (3, .int p4)], [.int p4, .ref 143, .int (I3 133 (Int32.toNatClampNeg p2)), .ref 147])) rfl ?_
                obtain ⟨o116, h114⟩ := ob_in h114
                refine r_lald rfl rfl (x_ltn rfl) rfl o116 ?_
                refine e_sub (ls := [(0, .ref 112), (1, .int p2)]) rfl ⟨rfl, rfl, trivial⟩ ?_
                obtain ⟨rfl, rfl, rfl⟩ := s_inj h114
                exact Kj114
              · replace h114 := i_neg c115 h114
                refine e_k 1 (f' := (209, [(4, .int x10), (0, .ref 112), (1, .int p2), (2, .int p3), (3, .int p4)], [.ref 112, .int (I3 133 (Int32.toNatClampNeg p2)), .ref 147])) rfl ?_
                refine r_getr rfl (x_ltn rfl) rfl rfl ?_
                refine e_k 1 (f' := (213, [(4, .int x10), (0, .ref 112), (1, .int p2), (2, .int p3), (3, .int p4)], [.int p2, .ref 146, .int (I3 133 (Int32.toNatClampNeg p2)), .ref 147])) rfl ?_
                obtain ⟨o117, h114⟩ := ob_in h114
                refine r_lald rfl rfl (x_ltn rfl) rfl o117 ?_
                refine e_k 1 (f' := (223, [(4, .int x10), (0, .ref 112), (1, .int p2), (2, .int p3), (3, .int p4)], [.long (J3 146 (Int32.toNatClampNeg p2)), .int (I3 133 (Int32.toNatClampNeg p2)), .ref 147])) rfl ?_
                refine e_sub (ls := [(0, .ref 112), (1, .int p2)]) rfl ⟨rfl, rfl, trivial⟩ ?_
                obtain ⟨rfl, rfl, rfl⟩ := s_inj h114
                exact Kj114
            · replace hb := i_neg c110 hb
              refine e_k 3 (f' := (if ¬ x10 = 9 then 194 else 137, [(4, .int x10), (0, .ref 112), (1, .int p2), (2, .int p3), (3, .int p4)], [])) rfl ?_
              refine e_if (fun c124 => ?_) (fun c124 => ?_)
              · replace hb := i_pos c124 hb
                refine e_k 1 (f' := (195, [(4, .int x10), (0, .ref 112), (1, .int p2), (2, .int p3), (3, .int p4)], [.ref 112])) rfl ?_
                refine r_getr rfl (x_ltn rfl) rfl rfl ?_
                refine e_k 1 (f' := (199, [(4, .int x10), (0, .ref 112), (1, .int p2), (2, .int p3), (3, .int p4)], [.ref 112, .ref 147])) rfl ?_
                refine r_getr rfl (x_ltn rfl) rfl rfl ?_
                refine e_k 1 (f' := (203, [(4, .int x10), (0, .ref 112), (1, .int p2), (2, .int p3), (3, .int p4)], [.int p2, .ref 133, .ref 147])) rfl ?_
                obtain ⟨o125, hb⟩ := ob_in hb
                refine r_iald rfl rfl (x_ltn rfl) rfl o125 ?_
                refine e_k 2 (f' := (if p3 = 0 then 217 else 208, [(4, .int x10), (0, .ref 112), (1, .int p2), (2, .int p3), (3, .int p4)], [.int (I3 133 (Int32.toNatClampNeg p2)), .ref 147])) rfl ?_
                obtain ⟨v128, I128, J128, h128, hb⟩ := oc_call hb
                have Kj128 : am_E (gG L xs) (d + 5) m_Model_out (223, [(0, .ref 112), (1, .int p2)], [.long v128, .int (I3 133 (Int32.toNatClampNeg p2)), .ref 147]) (hX X I128 J128) P := by
                  obtain ⟨o132, hb⟩ := ob_in hb
                  obtain ⟨J133, eJ133, hb⟩ := p_nm hb
                  refine r_last' rfl (x_ltn rfl) rfl o132 eJ133 ?_
                  refine e_k 1 (f' := (225, [(0, .ref 112), (1, .int p2)], [.ref 112])) rfl ?_
                  refine r_getr rfl (x_ltn rfl) rfl rfl ?_
                  refine e_k 2 (f' := (230, [(0, .ref 112), (1, .int p2)], [.int p2, .ref 133, .int p2, .ref 133])) rfl ?_
                  obtain ⟨o134, hb⟩ := ob_in hb
                  refine r_iald rfl rfl (x_ltn rfl) rfl o134 ?_
                  refine e_k 2 (f' := (233, [(0, .ref 112), (1, .int p2)], [.int ((I128 133 (Int32.toNatClampNeg p2)) + 1), .int p2, .ref 133])) rfl ?_
                  obtain ⟨o135, hb⟩ := ob_in hb
                  obtain ⟨I136, eI136, hb⟩ := p_nm hb
                  refine r_iast' rfl (x_ltn rfl) rfl o135 eI136 ?_
                  refine e_k 2 (f' := (236, [(0, .ref 112), (1, .int p2)], [.int p2, .ref 112])) rfl ?_
                  obtain ⟨v137, I137, J137, h137, hb⟩ := oc_call hb
                  refine r_cv (z := m_Model_next) (As := [.int p2]) (rest := []) rfl rfl rfl rfl rfl (x_ltn rfl) rfl rfl (E_Model_next  h137 ⟨_, rfl, ?_⟩)
                  refine e_k 1 (f' := (240, [(0, .ref 112), (1, .int p2)], [.int 1])) rfl ?_
                  obtain ⟨rfl, rfl, rfl⟩ := s_inj hb
                  exact e_r rfl rfl K
                clear hb
                refine e_if (fun c129 => ?_) (fun c129 => ?_)
                · replace h128 := i_pos c129 h128
                  refine e_k 1 (f' := (218, [(4, .int x10), (0, .ref 112), (1, .int p2), (2, .int p3), (3, .int p4)], [.ref 112, .int (I3 133 (Int32.toNatClampNeg p2)), .ref 147])) rfl ?_
                  refine r_getr rfl (x_ltn rfl) rfl rfl ?_
                  refine e_k 1 (f' := (222, [(4, .int x10), (0, .ref 112), (1, .int p2), (2, .int p3), (3, .int p4)], [.int p4, .ref 143, .int (I3 133 (Int32.toNatClampNeg p2)), .ref 147])) rfl ?_
                  obtain ⟨o130, h128⟩ := ob_in h128
                  refine r_lald rfl rfl (x_ltn rfl) rfl o130 ?_
                  refine e_sub (ls := [(0, .ref 112), (1, .int p2)]) rfl ⟨rfl, rfl, trivial⟩ ?_
                  obtain ⟨rfl, rfl, rfl⟩ := s_inj h128
                  exact Kj128
                · replace h128 := i_neg c129 h128
                  refine e_k 1 (f' := (209, [(4, .int x10), (0, .ref 112), (1, .int p2), (2, .int p3), (3, .int p4)], [.ref 112, .int (I3 133 (Int32.toNatClampNeg p2)), .ref 147])) rfl ?_
                  refine r_getr rfl (x_ltn rfl) rfl rfl ?_
                  refine e_k 1 (f' := (213, [(4, .int x10), (0, .ref 112), (1, .int p2), (2, .int p3), (3, .int p4)], [.int p2, .ref 146, .int (I3 133 (Int32.toNatClampNeg p2)), .ref 147])) rfl ?_
                  obtain ⟨o131, h128⟩ := ob_in h128
                  refine r_lald rfl rfl (x_ltn rfl) rfl o131 ?_
                  refine e_k 1 (f' := (223, [(4, .int x10), (0, .ref 112), (1, .int p2), (2, .int p3), (3, .int p4)], [.long (J3 146 (Int32.toNatClampNeg p2)), .int (I3 133 (Int32.toNatClampNeg p2)), .ref 147])) rfl ?_
                  refine e_sub (ls := [(0, .ref 112), (1, .int p2)]) rfl ⟨rfl, rfl, trivial⟩ ?_
                  obtain ⟨rfl, rfl, rfl⟩ := s_inj h128
                  exact Kj128
              · replace hb := i_neg c124 hb
                refine e_k 3 (f' := (140, [(4, .int x10), (0, .ref 112), (1, .int p2), (2, .int p3), (3, .int p4)], [.int (-1), .int p2, .ref 112])) rfl ?_
                obtain ⟨v138, I138, J138, h138, hb⟩ := oc_call hb
                refine r_cv (z := m_Model_receive) (As := [.int p2, .int (-1)]) (rest := []) rfl rfl rfl rfl rfl (x_ltn rfl) rfl rfl (E_Model_receive  h138 ⟨_, rfl, ?_⟩)
                refine e_k 1 (f' := (if ¬ v138 = 0 then 148 else 146, [(4, .int x10), (0, .ref 112), (1, .int p2), (2, .int p3), (3, .int p4)], [])) rfl ?_
                refine e_if (fun c139 => ?_) (fun c139 => ?_)
                · replace hb := i_pos c139 hb
                  refine e_k 1 (f' := (149, [(4, .int x10), (0, .ref 112), (1, .int p2), (2, .int p3), (3, .int p4)], [.ref 112])) rfl ?_
                  refine r_getr rfl (x_ltn rfl) rfl rfl ?_
                  refine e_k 2 (f' := (154, [(4, .int x10), (0, .ref 112), (1, .int p2), (2, .int p3), (3, .int p4)], [.ref 112, .int p2, .ref 146])) rfl ?_
                  refine r_getr rfl (x_ltn rfl) rfl rfl ?_
                  refine e_k 1 (f' := (158, [(4, .int x10), (0, .ref 112), (1, .int p2), (2, .int p3), (3, .int p4)], [.int p4, .ref 143, .int p2, .ref 146])) rfl ?_
                  obtain ⟨o140, hb⟩ := ob_in hb
                  refine r_lald rfl rfl (x_ltn rfl) rfl o140 ?_
                  refine e_k 2 (f' := (161, [(4, .int x10), (0, .ref 112), (1, .int p2), (2, .int p3), (3, .int p4)], [.ref 112, .ref 112, .long (J138 143 (Int32.toNatClampNeg p4)), .int p2, .ref 146])) rfl ?_
                  refine r_getr rfl (x_ltn rfl) rfl rfl ?_
                  refine e_k 1 (f' := (165, [(4, .int x10), (0, .ref 112), (1, .int p2), (2, .int p3), (3, .int p4)], [.int p2, .ref 135, .ref 112, .long (J138 143 (Int32.toNatClampNeg p4)), .int p2, .ref 146])) rfl ?_
                  obtain ⟨o141, hb⟩ := ob_in hb
                  refine r_iald rfl rfl (x_ltn rfl) rfl o141 ?_
                  refine e_k 1 (f' := (167, [(4, .int x10), (0, .ref 112), (1, .int p2), (2, .int p3), (3, .int p4)], [.int 0, .int (I138 135 (Int32.toNatClampNeg p2)), .ref 112, .long (J138 143 (Int32.toNatClampNeg p4)), .int p2, .ref 146])) rfl ?_
                  obtain ⟨v142, I142, J142, h142, hb⟩ := oc_call hb
                  refine r_cv (z := m_Model_error) (As := [.int (I138 135 (Int32.toNatClampNeg p2)), .int 0]) (rest := [.long (J138 143 (Int32.toNatClampNeg p4)), .int p2, .ref 146]) rfl rfl rfl rfl rfl (x_ltn rfl) rfl rfl (E_Model_error  h142 ⟨_, rfl, ?_⟩)
                  obtain ⟨v143, I143, J143, h143, hb⟩ := oc_call hb
                  refine r_cs (z := m_Model_plus) (As := [.long (J138 143 (Int32.toNatClampNeg p4)), .long v142]) (rest := [.int p2, .ref 146]) rfl rfl rfl rfl rfl rfl (E_Model_plus  h143 ⟨_, rfl, ?_⟩)
                  obtain ⟨o144, hb⟩ := ob_in hb
                  obtain ⟨J145, eJ145, hb⟩ := p_nm hb
                  refine r_last' rfl (x_ltn rfl) rfl o144 eJ145 ?_
                  refine e_k 1 (f' := (175, [(4, .int x10), (0, .ref 112), (1, .int p2), (2, .int p3), (3, .int p4)], [.ref 112])) rfl ?_
                  refine r_getr rfl (x_ltn rfl) rfl rfl ?_
                  refine e_k 2 (f' := (180, [(4, .int x10), (0, .ref 112), (1, .int p2), (2, .int p3), (3, .int p4)], [.int p2, .ref 135, .int p2, .ref 135])) rfl ?_
                  obtain ⟨o146, hb⟩ := ob_in hb
                  refine r_iald rfl rfl (x_ltn rfl) rfl o146 ?_
                  refine e_k 2 (f' := (183, [(4, .int x10), (0, .ref 112), (1, .int p2), (2, .int p3), (3, .int p4)], [.int ((I143 135 (Int32.toNatClampNeg p2)) + 1), .int p2, .ref 135])) rfl ?_
                  obtain ⟨o147, hb⟩ := ob_in hb
                  obtain ⟨I148, eI148, hb⟩ := p_nm hb
                  refine r_iast' rfl (x_ltn rfl) rfl o147 eI148 ?_
                  refine e_k 1 (f' := (185, [(4, .int x10), (0, .ref 112), (1, .int p2), (2, .int p3), (3, .int p4)], [.ref 112])) rfl ?_
                  refine r_getr rfl (x_ltn rfl) rfl rfl ?_
                  refine e_k 2 (f' := (191, [(4, .int x10), (0, .ref 112), (1, .int p2), (2, .int p3), (3, .int p4)], [.int 10, .int p2, .ref 128])) rfl ?_
                  obtain ⟨o149, hb⟩ := ob_in hb
                  obtain ⟨I150, eI150, hb⟩ := p_nm hb
                  refine r_iast' rfl (x_ltn rfl) rfl o149 eI150 ?_
                  refine e_k 1 (f' := (193, [(4, .int x10), (0, .ref 112), (1, .int p2), (2, .int p3), (3, .int p4)], [.int 1])) rfl ?_
                  obtain ⟨rfl, rfl, rfl⟩ := s_inj hb
                  exact e_r rfl rfl K
                · replace hb := i_neg c139 hb
                  refine e_k 1 (f' := (147, [(4, .int x10), (0, .ref 112), (1, .int p2), (2, .int p3), (3, .int p4)], [.int 0])) rfl ?_
                  obtain ⟨rfl, rfl, rfl⟩ := s_inj hb
                  exact e_r rfl rfl K
          · replace hb := i_neg c109 hb
            refine e_k 3 (f' := (if ¬ x10 = 8 then 126 else 104, [(4, .int x10), (0, .ref 112), (1, .int p2), (2, .int p3), (3, .int p4)], [])) rfl ?_
            refine e_if (fun c151 => ?_) (fun c151 => ?_)
            · replace hb := i_pos c151 hb
              refine e_k 2 (f' := (if p3 = 0 then 194 else 130, [(4, .int x10), (0, .ref 112), (1, .int p2), (2, .int p3), (3, .int p4)], [])) rfl ?_
              refine e_if (fun c152 => ?_) (fun c152 => ?_)
              · replace hb := i_pos c152 hb
                refine e_k 1 (f' := (195, [(4, .int x10), (0, .ref 112), (1, .int p2), (2, .int p3), (3, .int p4)], [.ref 112])) rfl ?_
                refine r_getr rfl (x_ltn rfl) rfl rfl ?_
                refine e_k 1 (f' := (199, [(4, .int x10), (0, .ref 112), (1, .int p2), (2, .int p3), (3, .int p4)], [.ref 112, .ref 147])) rfl ?_
                refine r_getr rfl (x_ltn rfl) rfl rfl ?_
                refine e_k 1 (f' := (203, [(4, .int x10), (0, .ref 112), (1, .int p2), (2, .int p3), (3, .int p4)], [.int p2, .ref 133, .ref 147])) rfl ?_
                obtain ⟨o153, hb⟩ := ob_in hb
                refine r_iald rfl rfl (x_ltn rfl) rfl o153 ?_
                refine e_k 2 (f' := (if p3 = 0 then 217 else 208, [(4, .int x10), (0, .ref 112), (1, .int p2), (2, .int p3), (3, .int p4)], [.int (I3 133 (Int32.toNatClampNeg p2)), .ref 147])) rfl ?_
                obtain ⟨v156, I156, J156, h156, hb⟩ := oc_call hb
                have Kj156 : am_E (gG L xs) (d + 5) m_Model_out (223, [(0, .ref 112), (1, .int p2)], [.long v156, .int (I3 133 (Int32.toNatClampNeg p2)), .ref 147]) (hX X I156 J156) P := by
                  obtain ⟨o160, hb⟩ := ob_in hb
                  obtain ⟨J161, eJ161, hb⟩ := p_nm hb
                  refine r_last' rfl (x_ltn rfl) rfl o160 eJ161 ?_
                  refine e_k 1 (f' := (225, [(0, .ref 112), (1, .int p2)], [.ref 112])) rfl ?_
                  refine r_getr rfl (x_ltn rfl) rfl rfl ?_
                  refine e_k 2 (f' := (230, [(0, .ref 112), (1, .int p2)], [.int p2, .ref 133, .int p2, .ref 133])) rfl ?_
                  obtain ⟨o162, hb⟩ := ob_in hb
                  refine r_iald rfl rfl (x_ltn rfl) rfl o162 ?_
                  refine e_k 2 (f' := (233, [(0, .ref 112), (1, .int p2)], [.int ((I156 133 (Int32.toNatClampNeg p2)) + 1), .int p2, .ref 133])) rfl ?_
                  obtain ⟨o163, hb⟩ := ob_in hb
                  obtain ⟨I164, eI164, hb⟩ := p_nm hb
                  refine r_iast' rfl (x_ltn rfl) rfl o163 eI164 ?_
                  refine e_k 2 (f' := (236, [(0, .ref 112), (1, .int p2)], [.int p2, .ref 112])) rfl ?_
                  obtain ⟨v165, I165, J165, h165, hb⟩ := oc_call hb
                  refine r_cv (z := m_Model_next) (As := [.int p2]) (rest := []) rfl rfl rfl rfl rfl (x_ltn rfl) rfl rfl (E_Model_next  h165 ⟨_, rfl, ?_⟩)
                  refine e_k 1 (f' := (240, [(0, .ref 112), (1, .int p2)], [.int 1])) rfl ?_
                  obtain ⟨rfl, rfl, rfl⟩ := s_inj hb
                  exact e_r rfl rfl K
                clear hb
                refine e_if (fun c157 => ?_) (fun c157 => ?_)
                · replace h156 := i_pos c157 h156
                  refine e_k 1 (f' := (218, [(4, .int x10), (0, .ref 112), (1, .int p2), (2, .int p3), (3, .int p4)], [.ref 112, .int (I3 133 (Int32.toNatClampNeg p2)), .ref 147])) rfl ?_
                  refine r_getr rfl (x_ltn rfl) rfl rfl ?_
                  refine e_k 1 (f' := (222, [(4, .int x10), (0, .ref 112), (1, .int p2), (2, .int p3), (3, .int p4)], [.int p4, .ref 143, .int (I3 133 (Int32.toNatClampNeg p2)), .ref 147])) rfl ?_
                  obtain ⟨o158, h156⟩ := ob_in h156
                  refine r_lald rfl rfl (x_ltn rfl) rfl o158 ?_
                  refine e_sub (ls := [(0, .ref 112), (1, .int p2)]) rfl ⟨rfl, rfl, trivial⟩ ?_
                  obtain ⟨rfl, rfl, rfl⟩ := s_inj h156
                  exact Kj156
                · replace h156 := i_neg c157 h156
                  refine e_k 1 (f' := (209, [(4, .int x10), (0, .ref 112), (1, .int p2), (2, .int p3), (3, .int p4)], [.ref 112, .int (I3 133 (Int32.toNatClampNeg p2)), .ref 147])) rfl ?_
                  refine r_getr rfl (x_ltn rfl) rfl rfl ?_
                  refine e_k 1 (f' := (213, [(4, .int x10), (0, .ref 112), (1, .int p2), (2, .int p3), (3, .int p4)], [.int p2, .ref 146, .int (I3 133 (Int32.toNatClampNeg p2)), .ref 147])) rfl ?_
                  obtain ⟨o159, h156⟩ := ob_in h156
                  refine r_lald rfl rfl (x_ltn rfl) rfl o159 ?_
                  refine e_k 1 (f' := (223, [(4, .int x10), (0, .ref 112), (1, .int p2), (2, .int p3), (3, .int p4)], [.long (J3 146 (Int32.toNatClampNeg p2)), .int (I3 133 (Int32.toNatClampNeg p2)), .ref 147])) rfl ?_
                  refine e_sub (ls := [(0, .ref 112), (1, .int p2)]) rfl ⟨rfl, rfl, trivial⟩ ?_
                  obtain ⟨rfl, rfl, rfl⟩ := s_inj h156
                  exact Kj156
              · replace hb := i_neg c152 hb
                refine e_k 3 (f' := (if ¬ x10 = 9 then 194 else 137, [(4, .int x10), (0, .ref 112), (1, .int p2), (2, .int p3), (3, .int p4)], [])) rfl ?_
                refine e_if (fun c166 => ?_) (fun c166 => ?_)
                · replace hb := i_pos c166 hb
                  refine e_k 1 (f' := (195, [(4, .int x10), (0, .ref 112), (1, .int p2), (2, .int p3), (3, .int p4)], [.ref 112])) rfl ?_
                  refine r_getr rfl (x_ltn rfl) rfl rfl ?_
                  refine e_k 1 (f' := (199, [(4, .int x10), (0, .ref 112), (1, .int p2), (2, .int p3), (3, .int p4)], [.ref 112, .ref 147])) rfl ?_
                  refine r_getr rfl (x_ltn rfl) rfl rfl ?_
                  refine e_k 1 (f' := (203, [(4, .int x10), (0, .ref 112), (1, .int p2), (2, .int p3), (3, .int p4)], [.int p2, .ref 133, .ref 147])) rfl ?_
                  obtain ⟨o167, hb⟩ := ob_in hb
                  refine r_iald rfl rfl (x_ltn rfl) rfl o167 ?_
                  refine e_k 2 (f' := (if p3 = 0 then 217 else 208, [(4, .int x10), (0, .ref 112), (1, .int p2), (2, .int p3), (3, .int p4)], [.int (I3 133 (Int32.toNatClampNeg p2)), .ref 147])) rfl ?_
                  obtain ⟨v170, I170, J170, h170, hb⟩ := oc_call hb
                  have Kj170 : am_E (gG L xs) (d + 5) m_Model_out (223, [(0, .ref 112), (1, .int p2)], [.long v170, .int (I3 133 (Int32.toNatClampNeg p2)), .ref 147]) (hX X I170 J170) P := by
                    obtain ⟨o174, hb⟩ := ob_in hb
                    obtain ⟨J175, eJ175, hb⟩ := p_nm hb
                    refine r_last' rfl (x_ltn rfl) rfl o174 eJ175 ?_
                    refine e_k 1 (f' := (225, [(0, .ref 112), (1, .int p2)], [.ref 112])) rfl ?_
                    refine r_getr rfl (x_ltn rfl) rfl rfl ?_
                    refine e_k 2 (f' := (230, [(0, .ref 112), (1, .int p2)], [.int p2, .ref 133, .int p2, .ref 133])) rfl ?_
                    obtain ⟨o176, hb⟩ := ob_in hb
                    refine r_iald rfl rfl (x_ltn rfl) rfl o176 ?_
                    refine e_k 2 (f' := (233, [(0, .ref 112), (1, .int p2)], [.int ((I170 133 (Int32.toNatClampNeg p2)) + 1), .int p2, .ref 133])) rfl ?_
                    obtain ⟨o177, hb⟩ := ob_in hb
                    obtain ⟨I178, eI178, hb⟩ := p_nm hb
                    refine r_iast' rfl (x_ltn rfl) rfl o177 eI178 ?_
                    refine e_k 2 (f' := (236, [(0, .ref 112), (1, .int p2)], [.int p2, .ref 112])) rfl ?_
                    obtain ⟨v179, I179, J179, h179, hb⟩ := oc_call hb
                    refine r_cv (z := m_Model_next) (As := [.int p2]) (rest := []) rfl rfl rfl rfl rfl (x_ltn rfl) rfl rfl (E_Model_next  h179 ⟨_, rfl, ?_⟩)
                    refine e_k 1 (f' := (240, [(0, .ref 112), (1, .int p2)], [.int 1])) rfl ?_
                    obtain ⟨rfl, rfl, rfl⟩ := s_inj hb
                    exact e_r rfl rfl K
                  clear hb
                  refine e_if (fun c171 => ?_) (fun c171 => ?_)
                  · replace h170 := i_pos c171 h170
                    refine e_k 1 (f' := (218, [(4, .int x10), (0, .ref 112), (1, .int p2), (2, .int p3), (3, .int p4)], [.ref 112, .int (I3 133 (Int32.toNatClampNeg p2)), .ref 147])) rfl ?_
                    refine r_getr rfl (x_ltn rfl) rfl rfl ?_
                    refine e_k 1 (f' := (222, [(4, .int x10), (0, .ref 112), (1, .int p2), (2, .int p3), (3, .int p4)], [.int p4, .ref 143, .int (I3 133 (Int32.toNatClampNeg p2)), .ref 147])) rfl ?_
                    obtain ⟨o172, h170⟩ := ob_in h170
                    refine r_lald rfl rfl (x_ltn rfl) rfl o172 ?_
                    refine e_sub (ls := [(0, .ref 112), (1, .int p2)]) rfl ⟨rfl, rfl, trivial⟩ ?_
                    obtain ⟨rfl, rfl, rfl⟩ := s_inj h170
                    exact Kj170
                  · replace h170 := i_neg c171 h170
                    refine e_k 1 (f' := (209, [(4, .int x10), (0, .ref 112), (1, .int p2), (2, .int p3), (3, .int p4)], [.ref 112, .int (I3 133 (Int32.toNatClampNeg p2)), .ref 147])) rfl ?_
                    refine r_getr rfl (x_ltn rfl) rfl rfl ?_
                    refine e_k 1 (f' := (213, [(4, .int x10), (0, .ref 112), (1, .int p2), (2, .int p3), (3, .int p4)], [.int p2, .ref 146, .int (I3 133 (Int32.toNatClampNeg p2)), .ref 147])) rfl ?_
                    obtain ⟨o173, h170⟩ := ob_in h170
                    refine r_lald rfl rfl (x_ltn rfl) rfl o173 ?_
                    refine e_k 1 (f' := (223, [(4, .int x10), (0, .ref 112), (1, .int p2), (2, .int p3), (3, .int p4)], [.long (J3 146 (Int32.toNatClampNeg p2)), .int (I3 133 (Int32.toNatClampNeg p2)), .ref 147])) rfl ?_
                    refine e_sub (ls := [(0, .ref 112), (1, .int p2)]) rfl ⟨rfl, rfl, trivial⟩ ?_
                    obtain ⟨rfl, rfl, rfl⟩ := s_inj h170
                    exact Kj170
                · replace hb := i_neg c166 hb
                  refine e_k 3 (f' := (140, [(4, .int x10), (0, .ref 112), (1, .int p2), (2, .int p3), (3, .int p4)], [.int (-1), .int p2, .ref 112])) rfl ?_
                  obtain ⟨v180, I180, J180, h180, hb⟩ := oc_call hb
                  refine r_cv (z := m_Model_receive) (As := [.int p2, .int (-1)]) (rest := []) rfl rfl rfl rfl rfl (x_ltn rfl) rfl rfl (E_Model_receive  h180 ⟨_, rfl, ?_⟩)
                  refine e_k 1 (f' := (if ¬ v180 = 0 then 148 else 146, [(4, .int x10), (0, .ref 112), (1, .int p2), (2, .int p3), (3, .int p4)], [])) rfl ?_
                  refine e_if (fun c181 => ?_) (fun c181 => ?_)
                  · replace hb := i_pos c181 hb
                    refine e_k 1 (f' := (149, [(4, .int x10), (0, .ref 112), (1, .int p2), (2, .int p3), (3, .int p4)], [.ref 112])) rfl ?_
                    refine r_getr rfl (x_ltn rfl) rfl rfl ?_
                    refine e_k 2 (f' := (154, [(4, .int x10), (0, .ref 112), (1, .int p2), (2, .int p3), (3, .int p4)], [.ref 112, .int p2, .ref 146])) rfl ?_
                    refine r_getr rfl (x_ltn rfl) rfl rfl ?_
                    refine e_k 1 (f' := (158, [(4, .int x10), (0, .ref 112), (1, .int p2), (2, .int p3), (3, .int p4)], [.int p4, .ref 143, .int p2, .ref 146])) rfl ?_
                    obtain ⟨o182, hb⟩ := ob_in hb
                    refine r_lald rfl rfl (x_ltn rfl) rfl o182 ?_
                    refine e_k 2 (f' := (161, [(4, .int x10), (0, .ref 112), (1, .int p2), (2, .int p3), (3, .int p4)], [.ref 112, .ref 112, .long (J180 143 (Int32.toNatClampNeg p4)), .int p2, .ref 146])) rfl ?_
                    refine r_getr rfl (x_ltn rfl) rfl rfl ?_
                    refine e_k 1 (f' := (165, [(4, .int x10), (0, .ref 112), (1, .int p2), (2, .int p3), (3, .int p4)], [.int p2, .ref 135, .ref 112, .long (J180 143 (Int32.toNatClampNeg p4)), .int p2, .ref 146])) rfl ?_
                    obtain ⟨o183, hb⟩ := ob_in hb
                    refine r_iald rfl rfl (x_ltn rfl) rfl o183 ?_
                    refine e_k 1 (f' := (167, [(4, .int x10), (0, .ref 112), (1, .int p2), (2, .int p3), (3, .int p4)], [.int 0, .int (I180 135 (Int32.toNatClampNeg p2)), .ref 112, .long (J180 143 (Int32.toNatClampNeg p4)), .int p2, .ref 146])) rfl ?_
                    obtain ⟨v184, I184, J184, h184, hb⟩ := oc_call hb
                    refine r_cv (z := m_Model_error) (As := [.int (I180 135 (Int32.toNatClampNeg p2)), .int 0]) (rest := [.long (J180 143 (Int32.toNatClampNeg p4)), .int p2, .ref 146]) rfl rfl rfl rfl rfl (x_ltn rfl) rfl rfl (E_Model_error  h184 ⟨_, rfl, ?_⟩)
                    obtain ⟨v185, I185, J185, h185, hb⟩ := oc_call hb
                    refine r_cs (z := m_Model_plus) (As := [.long (J180 143 (Int32.toNatClampNeg p4)), .long v184]) (rest := [.int p2, .ref 146]) rfl rfl rfl rfl rfl rfl (E_Model_plus  h185 ⟨_, rfl, ?_⟩)
                    obtain ⟨o186, hb⟩ := ob_in hb
                    obtain ⟨J187, eJ187, hb⟩ := p_nm hb
                    refine r_last' rfl (x_ltn rfl) rfl o186 eJ187 ?_
                    refine e_k 1 (f' := (175, [(4, .int x10), (0, .ref 112), (1, .int p2), (2, .int p3), (3, .int p4)], [.ref 112])) rfl ?_
                    refine r_getr rfl (x_ltn rfl) rfl rfl ?_
                    refine e_k 2 (f' := (180, [(4, .int x10), (0, .ref 112), (1, .int p2), (2, .int p3), (3, .int p4)], [.int p2, .ref 135, .int p2, .ref 135])) rfl ?_
                    obtain ⟨o188, hb⟩ := ob_in hb
                    refine r_iald rfl rfl (x_ltn rfl) rfl o188 ?_
                    refine e_k 2 (f' := (183, [(4, .int x10), (0, .ref 112), (1, .int p2), (2, .int p3), (3, .int p4)], [.int ((I185 135 (Int32.toNatClampNeg p2)) + 1), .int p2, .ref 135])) rfl ?_
                    obtain ⟨o189, hb⟩ := ob_in hb
                    obtain ⟨I190, eI190, hb⟩ := p_nm hb
                    refine r_iast' rfl (x_ltn rfl) rfl o189 eI190 ?_
                    refine e_k 1 (f' := (185, [(4, .int x10), (0, .ref 112), (1, .int p2), (2, .int p3), (3, .int p4)], [.ref 112])) rfl ?_
                    refine r_getr rfl (x_ltn rfl) rfl rfl ?_
                    refine e_k 2 (f' := (191, [(4, .int x10), (0, .ref 112), (1, .int p2), (2, .int p3), (3, .int p4)], [.int 10, .int p2, .ref 128])) rfl ?_
                    obtain ⟨o191, hb⟩ := ob_in hb
                    obtain ⟨I192, eI192, hb⟩ := p_nm hb
                    refine r_iast' rfl (x_ltn rfl) rfl o191 eI192 ?_
                    refine e_k 1 (f' := (193, [(4, .int x10), (0, .ref 112), (1, .int p2), (2, .int p3), (3, .int p4)], [.int 1])) rfl ?_
                    obtain ⟨rfl, rfl, rfl⟩ := s_inj hb
                    exact e_r rfl rfl K
                  · replace hb := i_neg c181 hb
                    refine e_k 1 (f' := (147, [(4, .int x10), (0, .ref 112), (1, .int p2), (2, .int p3), (3, .int p4)], [.int 0])) rfl ?_
                    obtain ⟨rfl, rfl, rfl⟩ := s_inj hb
                    exact e_r rfl rfl K
            · replace hb := i_neg c151 hb
              refine e_k 4 (f' := (108, [(4, .int x10), (0, .ref 112), (1, .int p2), (2, .int p3), (3, .int p4)], [.long 0, .int 4, .int p2, .ref 112])) rfl ?_
              obtain ⟨v193, I193, J193, h193, hb⟩ := oc_call hb
              refine r_cv (z := m_Model_send) (As := [.int p2, .int 4, .long 0]) (rest := []) rfl rfl rfl rfl rfl (x_ltn rfl) rfl rfl (E_Model_send  h193 ⟨_, rfl, ?_⟩)
              refine e_k 1 (f' := (if ¬ v193 = 0 then 116 else 114, [(4, .int x10), (0, .ref 112), (1, .int p2), (2, .int p3), (3, .int p4)], [])) rfl ?_
              refine e_if (fun c194 => ?_) (fun c194 => ?_)
              · replace hb := i_pos c194 hb
                refine e_k 1 (f' := (117, [(4, .int x10), (0, .ref 112), (1, .int p2), (2, .int p3), (3, .int p4)], [.ref 112])) rfl ?_
                refine r_getr rfl (x_ltn rfl) rfl rfl ?_
                refine e_k 2 (f' := (123, [(4, .int x10), (0, .ref 112), (1, .int p2), (2, .int p3), (3, .int p4)], [.int 9, .int p2, .ref 128])) rfl ?_
                obtain ⟨o195, hb⟩ := ob_in hb
                obtain ⟨I196, eI196, hb⟩ := p_nm hb
                refine r_iast' rfl (x_ltn rfl) rfl o195 eI196 ?_
                refine e_k 1 (f' := (125, [(4, .int x10), (0, .ref 112), (1, .int p2), (2, .int p3), (3, .int p4)], [.int 1])) rfl ?_
                obtain ⟨rfl, rfl, rfl⟩ := s_inj hb
                exact e_r rfl rfl K
              · replace hb := i_neg c194 hb
                refine e_k 1 (f' := (115, [(4, .int x10), (0, .ref 112), (1, .int p2), (2, .int p3), (3, .int p4)], [.int 0])) rfl ?_
                obtain ⟨rfl, rfl, rfl⟩ := s_inj hb
                exact e_r rfl rfl K
        · replace hb := i_neg c108 hb
          refine e_k 5 (f' := (if 8 ≤ x10 then 68 else 63, [(4, .int x10), (0, .ref 112), (1, .int p2), (2, .int p3), (3, .int p4)], [.int p2, .ref 112])) rfl ?_
          obtain ⟨v198, h198, hb⟩ := p_nn hb
          have Kj198 : am_E (gG L xs) (d + 5) m_Model_out (73, [(0, .ref 112), (1, .int p2), (4, .int x10)], [.int v198, .int p2, .ref 112]) (hX X I3 J3) P := by
            obtain ⟨v200, I200, J200, h200, hb⟩ := oc_call hb
            refine r_cv (z := m_Model_check) (As := [.int p2, .int v198]) (rest := []) rfl rfl rfl rfl rfl (x_ltn rfl) rfl rfl (E_Model_check  h200 ⟨_, rfl, ?_⟩)
            refine e_k 1 (f' := (if ¬ v200 = 0 then 81 else 79, [(0, .ref 112), (1, .int p2), (4, .int x10)], [])) rfl ?_
            refine e_if (fun c201 => ?_) (fun c201 => ?_)
            · replace hb := i_pos c201 hb
              refine e_k 1 (f' := (82, [(0, .ref 112), (1, .int p2), (4, .int x10)], [.ref 112])) rfl ?_
              refine r_getr rfl (x_ltn rfl) rfl rfl ?_
              refine e_k 4 (f' := (90, [(0, .ref 112), (1, .int p2), (4, .int x10)], [.int (x10 + 1), .int p2, .ref 128])) rfl ?_
              obtain ⟨o202, hb⟩ := ob_in hb
              obtain ⟨I203, eI203, hb⟩ := p_nm hb
              refine r_iast' rfl (x_ltn rfl) rfl o202 eI203 ?_
              refine e_k 1 (f' := (92, [(0, .ref 112), (1, .int p2), (4, .int x10)], [.int 1])) rfl ?_
              obtain ⟨rfl, rfl, rfl⟩ := s_inj hb
              exact e_r rfl rfl K
            · replace hb := i_neg c201 hb
              refine e_k 1 (f' := (80, [(0, .ref 112), (1, .int p2), (4, .int x10)], [.int 0])) rfl ?_
              obtain ⟨rfl, rfl, rfl⟩ := s_inj hb
              exact e_r rfl rfl K
          clear hb
          refine e_if (fun c199 => ?_) (fun c199 => ?_)
          · replace h198 := i_pos c199 h198
            refine e_k 3 (f' := (73, [(4, .int x10), (0, .ref 112), (1, .int p2), (2, .int p3), (3, .int p4)], [.int (x10 - 10), .int p2, .ref 112])) rfl ?_
            refine e_sub (ls := [(0, .ref 112), (1, .int p2), (4, .int x10)]) rfl ⟨rfl, rfl, rfl, trivial⟩ ?_
            subst h198
            exact Kj198
          · replace h198 := i_neg c199 h198
            refine e_k 2 (f' := (73, [(4, .int x10), (0, .ref 112), (1, .int p2), (2, .int p3), (3, .int p4)], [.int x10, .int p2, .ref 112])) rfl ?_
            refine e_sub (ls := [(0, .ref 112), (1, .int p2), (4, .int x10)]) rfl ⟨rfl, rfl, rfl, trivial⟩ ?_
            subst h198
            exact Kj198
  clear hb
  refine e_if (fun c4 => ?_) (fun c4 => ?_)
  · replace h3 := i_pos c4 h3
    refine e_sub (ls := [(0, .ref 112), (1, .int p2), (2, .int p3), (3, .int p4)]) rfl ⟨rfl, rfl, rfl, rfl, trivial⟩ ?_
    obtain ⟨rfl, rfl, rfl⟩ := s_inj h3
    exact Kj3
  · replace h3 := i_neg c4 h3
    refine e_k 2 (f' := (11, [(0, .ref 112), (1, .int p2), (2, .int p3), (3, .int p4)], [.int p2, .ref 112])) rfl ?_
    obtain ⟨v5, I5, J5, h5, h3⟩ := oc_call h3
    refine r_cv (z := m_Model_hasOpened) (As := [.int p2]) (rest := []) rfl rfl rfl rfl rfl (x_ltn rfl) rfl rfl (E_Model_hasOpened  h5 ⟨_, rfl, ?_⟩)
    refine e_k 1 (f' := (if ¬ v5 = 0 then 25 else 17, [(0, .ref 112), (1, .int p2), (2, .int p3), (3, .int p4)], [])) rfl ?_
    refine e_if (fun c6 => ?_) (fun c6 => ?_)
    · replace h3 := i_pos c6 h3
      refine e_sub (ls := [(0, .ref 112), (1, .int p2), (2, .int p3), (3, .int p4)]) rfl ⟨rfl, rfl, rfl, rfl, trivial⟩ ?_
      obtain ⟨rfl, rfl, rfl⟩ := s_inj h3
      exact Kj3
    · replace h3 := i_neg c6 h3
      refine e_k 1 (f' := (18, [(0, .ref 112), (1, .int p2), (2, .int p3), (3, .int p4)], [.ref 112])) rfl ?_
      refine r_getr rfl (x_ltn rfl) rfl rfl ?_
      refine e_k 2 (f' := (24, [(0, .ref 112), (1, .int p2), (2, .int p3), (3, .int p4)], [.int 8, .int p2, .ref 128])) rfl ?_
      obtain ⟨o7, h3⟩ := ob_in h3
      obtain ⟨I8, eI8, h3⟩ := p_nm h3
      refine r_iast' rfl (x_ltn rfl) rfl o7 eI8 ?_
      refine e_sub (ls := [(0, .ref 112), (1, .int p2), (2, .int p3), (3, .int p4)]) rfl ⟨rfl, rfl, rfl, rfl, trivial⟩ ?_
      obtain ⟨rfl, rfl, rfl⟩ := s_inj h3
      exact Kj3
end AUTO
