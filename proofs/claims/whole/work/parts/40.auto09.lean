section AUTO
variable {L : Nat} {xs : Nat → Int32} {d : Nat} {P : am_R → am_H → Prop}
theorem E_Model_deliver {p2 : Int32} {p3 : Int32} {X : MX} {I : MI} {J : MJ} {v : Int32} {I' : MI} {J' : MJ} (hb : f_Model_deliver p2 p3 I J = some (v, I', J')) (K : P (.inl (some (.int v))) (hX X I' J')) : am_E (gG L xs) (d + 4) m_Model_deliver (0, lv_args 0 [.ref 112, .int p2, .int p3], []) (hX X I J) P := by
  unfold f_Model_deliver at hb
  refine e_k 2 (f' := (2, [(0, .ref 112), (1, .int p2), (2, .int p3)], [.int 0, .ref 112])) rfl ?_
  obtain ⟨I1, eI1, hb⟩ := p_nm hb
  refine r_puti' rfl (x_ltn rfl) rfl rfl eI1 ?_
  refine e_k 1 (f' := (6, [(0, .ref 112), (1, .int p2), (2, .int p3)], [.ref 112])) rfl ?_
  refine r_geti rfl (x_ltn rfl) rfl rfl ?_
  refine e_k 1 (f' := (if (I1 112 34) = 0 then 46 else 12, [(0, .ref 112), (1, .int p2), (2, .int p3)], [])) rfl ?_
  refine e_if (fun c2 => ?_) (fun c2 => ?_)
  · replace hb := i_pos c2 hb
    refine e_k 1 (f' := (47, [(0, .ref 112), (1, .int p2), (2, .int p3)], [.int 0])) rfl ?_
    obtain ⟨rfl, rfl, rfl⟩ := s_inj hb
    exact e_r rfl rfl K
  · replace hb := i_neg c2 hb
    refine e_k 2 (f' := (14, [(0, .ref 112), (1, .int p2), (2, .int p3)], [.int p2, .ref 112])) rfl ?_
    obtain ⟨v3, I3, J3, h3, hb⟩ := oc_call hb
    refine r_cv (z := m_Model_isParty) (As := [.int p2]) (rest := []) rfl rfl rfl rfl rfl (x_ltn rfl) rfl rfl (E_Model_isParty  h3 ⟨_, rfl, ?_⟩)
    refine e_k 1 (f' := (if v3 = 0 then 46 else 20, [(0, .ref 112), (1, .int p2), (2, .int p3)], [])) rfl ?_
    refine e_if (fun c4 => ?_) (fun c4 => ?_)
    · replace hb := i_pos c4 hb
      refine e_k 1 (f' := (47, [(0, .ref 112), (1, .int p2), (2, .int p3)], [.int 0])) rfl ?_
      obtain ⟨rfl, rfl, rfl⟩ := s_inj hb
      exact e_r rfl rfl K
    · replace hb := i_neg c4 hb
      refine e_k 2 (f' := (22, [(0, .ref 112), (1, .int p2), (2, .int p3)], [.int p3, .ref 112])) rfl ?_
      obtain ⟨v5, I5, J5, h5, hb⟩ := oc_call hb
      refine r_cv (z := m_Model_isParty) (As := [.int p3]) (rest := []) rfl rfl rfl rfl rfl (x_ltn rfl) rfl rfl (E_Model_isParty  h5 ⟨_, rfl, ?_⟩)
      refine e_k 1 (f' := (if v5 = 0 then 46 else 28, [(0, .ref 112), (1, .int p2), (2, .int p3)], [])) rfl ?_
      refine e_if (fun c6 => ?_) (fun c6 => ?_)
      · replace hb := i_pos c6 hb
        refine e_k 1 (f' := (47, [(0, .ref 112), (1, .int p2), (2, .int p3)], [.int 0])) rfl ?_
        obtain ⟨rfl, rfl, rfl⟩ := s_inj hb
        exact e_r rfl rfl K
      · replace hb := i_neg c6 hb
        refine e_k 3 (f' := (if p2 = p3 then 46 else 33, [(0, .ref 112), (1, .int p2), (2, .int p3)], [])) rfl ?_
        refine e_if (fun c7 => ?_) (fun c7 => ?_)
        · replace hb := i_pos c7 hb
          refine e_k 1 (f' := (47, [(0, .ref 112), (1, .int p2), (2, .int p3)], [.int 0])) rfl ?_
          obtain ⟨rfl, rfl, rfl⟩ := s_inj hb
          exact e_r rfl rfl K
        · replace hb := i_neg c7 hb
          refine e_k 3 (f' := (36, [(0, .ref 112), (1, .int p2), (2, .int p3)], [.int p3, .int p2, .ref 112])) rfl ?_
          obtain ⟨v8, I8, J8, h8, hb⟩ := oc_call hb
          refine r_cv (z := m_Model_brings) (As := [.int p2, .int p3]) (rest := []) rfl rfl rfl rfl rfl (x_ltn rfl) rfl rfl (E_Model_brings  h8 ⟨_, rfl, ?_⟩)
          refine e_k 1 (f' := (if v8 = 0 then 46 else 42, [(0, .ref 112), (1, .int p2), (2, .int p3)], [])) rfl ?_
          refine e_if (fun c9 => ?_) (fun c9 => ?_)
          · replace hb := i_pos c9 hb
            refine e_k 1 (f' := (47, [(0, .ref 112), (1, .int p2), (2, .int p3)], [.int 0])) rfl ?_
            obtain ⟨rfl, rfl, rfl⟩ := s_inj hb
            exact e_r rfl rfl K
          · replace hb := i_neg c9 hb
            refine e_k 2 (f' := (47, [(0, .ref 112), (1, .int p2), (2, .int p3)], [.int 1])) rfl ?_
            obtain ⟨rfl, rfl, rfl⟩ := s_inj hb
            exact e_r rfl rfl K
theorem E_Model_party {p2 : Int32} {p3 : Int32} {X : MX} {I : MI} {J : MJ} {v : Int32} {I' : MI} {J' : MJ} (hb : f_Model_party p2 p3 I J = some (v, I', J')) (K : P (.inl (some (.int v))) (hX X I' J')) : am_E (gG L xs) (d + 3) m_Model_party (0, lv_args 0 [.ref 112, .int p2, .int p3], []) (hX X I J) P := by
  unfold f_Model_party at hb
  refine e_k 2 (f' := (2, [(0, .ref 112), (1, .int p2), (2, .int p3)], [.int 0, .ref 112])) rfl ?_
  obtain ⟨I1, eI1, hb⟩ := p_nm hb
  refine r_puti' rfl (x_ltn rfl) rfl rfl eI1 ?_
  refine e_k 2 (f' := (7, [(0, .ref 112), (1, .int p2), (2, .int p3)], [.int p2, .ref 112])) rfl ?_
  obtain ⟨v2, I2, J2, h2, hb⟩ := oc_call hb
  refine r_cv (z := m_Model_isParty) (As := [.int p2]) (rest := []) rfl rfl rfl rfl rfl (x_ltn rfl) rfl rfl (E_Model_isParty  h2 ⟨_, rfl, ?_⟩)
  refine e_k 1 (f' := (if ¬ v2 = 0 then 15 else 13, [(0, .ref 112), (1, .int p2), (2, .int p3)], [])) rfl ?_
  refine e_if (fun c3 => ?_) (fun c3 => ?_)
  · replace hb := i_pos c3 hb
    refine e_k 2 (f' := (17, [(0, .ref 112), (1, .int p2), (2, .int p3)], [.int p2, .ref 112])) rfl ?_
    obtain ⟨v4, I4, J4, h4, hb⟩ := oc_call hb
    refine r_cv (z := m_Model_statusOf) (As := [.int p2]) (rest := []) rfl rfl rfl rfl rfl (x_ltn rfl) rfl rfl (E_Model_statusOf  h4 ⟨_, rfl, ?_⟩)
    refine e_k 4 (f' := (if p3 < 10 then 85 else 27, [(3, .int v4), (0, .ref 112), (1, .int p2), (2, .int p3)], [])) rfl ?_
    refine e_if (fun c5 => ?_) (fun c5 => ?_)
    · replace hb := i_pos c5 hb
      refine e_k 3 (f' := (if p3 < 20 then 127 else 91, [(3, .int v4), (0, .ref 112), (1, .int p2), (2, .int p3)], [])) rfl ?_
      refine e_if (fun c6 => ?_) (fun c6 => ?_)
      · replace hb := i_pos c6 hb
        refine e_k 2 (f' := (am_sw p3 435 [(0, 268), (1, 270), (2, 288), (3, 306), (4, 324), (5, 342), (6, 349), (7, 363), (8, 381), (9, 399), (10, 435), (11, 435), (12, 435), (13, 435), (14, 435), (15, 435), (16, 435), (17, 435), (18, 435), (19, 435), (20, 435), (21, 435), (22, 435), (23, 435), (24, 435), (25, 435), (26, 435), (27, 435), (28, 435), (29, 435), (30, 417)], [(3, .int v4), (0, .ref 112), (1, .int p2), (2, .int p3)], [])) rfl ?_
        by_cases c7 : p3 = 0
        · rw [show am_sw p3 435 [(0, 268), (1, 270), (2, 288), (3, 306), (4, 324), (5, 342), (6, 349), (7, 363), (8, 381), (9, 399), (10, 435), (11, 435), (12, 435), (13, 435), (14, 435), (15, 435), (16, 435), (17, 435), (18, 435), (19, 435), (20, 435), (21, 435), (22, 435), (23, 435), (24, 435), (25, 435), (26, 435), (27, 435), (28, 435), (29, 435), (30, 417)] = 268 from by rw [c7]; rfl]
          replace hb := i_pos c7 hb
          refine e_k 1 (f' := (269, [(3, .int v4), (0, .ref 112), (1, .int p2), (2, .int p3)], [.int v4])) rfl ?_
          obtain ⟨rfl, rfl, rfl⟩ := s_inj hb
          exact e_r rfl rfl K
        replace hb := i_neg c7 hb
        by_cases c8 : p3 = 1
        · rw [show am_sw p3 435 [(0, 268), (1, 270), (2, 288), (3, 306), (4, 324), (5, 342), (6, 349), (7, 363), (8, 381), (9, 399), (10, 435), (11, 435), (12, 435), (13, 435), (14, 435), (15, 435), (16, 435), (17, 435), (18, 435), (19, 435), (20, 435), (21, 435), (22, 435), (23, 435), (24, 435), (25, 435), (26, 435), (27, 435), (28, 435), (29, 435), (30, 417)] = 270 from by rw [c8]; rfl]
          replace hb := i_pos c8 hb
          refine e_k 1 (f' := (271, [(3, .int v4), (0, .ref 112), (1, .int p2), (2, .int p3)], [.ref 112])) rfl ?_
          refine r_geti rfl (x_ltn rfl) rfl rfl ?_
          refine e_k 1 (f' := (if (I4 112 34) = 0 then 286 else 277, [(3, .int v4), (0, .ref 112), (1, .int p2), (2, .int p3)], [])) rfl ?_
          refine e_if (fun c9 => ?_) (fun c9 => ?_)
          · replace hb := i_pos c9 hb
            refine e_k 1 (f' := (287, [(3, .int v4), (0, .ref 112), (1, .int p2), (2, .int p3)], [.int 0])) rfl ?_
            obtain ⟨rfl, rfl, rfl⟩ := s_inj hb
            exact e_r rfl rfl K
          · replace hb := i_neg c9 hb
            refine e_k 1 (f' := (278, [(3, .int v4), (0, .ref 112), (1, .int p2), (2, .int p3)], [.ref 112])) rfl ?_
            refine r_getr rfl (x_ltn rfl) rfl rfl ?_
            refine e_k 1 (f' := (282, [(3, .int v4), (0, .ref 112), (1, .int p2), (2, .int p3)], [.int p2, .ref 129])) rfl ?_
            obtain ⟨o10, hb⟩ := ob_in hb
            refine r_iald rfl rfl (x_ltn rfl) rfl o10 ?_
            refine e_k 1 (f' := (287, [(3, .int v4), (0, .ref 112), (1, .int p2), (2, .int p3)], [.int (I4 129 (Int32.toNatClampNeg p2))])) rfl ?_
            obtain ⟨rfl, rfl, rfl⟩ := s_inj hb
            exact e_r rfl rfl K
        replace hb := i_neg c8 hb
        by_cases c11 : p3 = 2
        · rw [show am_sw p3 435 [(0, 268), (1, 270), (2, 288), (3, 306), (4, 324), (5, 342), (6, 349), (7, 363), (8, 381), (9, 399), (10, 435), (11, 435), (12, 435), (13, 435), (14, 435), (15, 435), (16, 435), (17, 435), (18, 435), (19, 435), (20, 435), (21, 435), (22, 435), (23, 435), (24, 435), (25, 435), (26, 435), (27, 435), (28, 435), (29, 435), (30, 417)] = 288 from by rw [c11]; rfl]
          replace hb := i_pos c11 hb
          refine e_k 1 (f' := (289, [(3, .int v4), (0, .ref 112), (1, .int p2), (2, .int p3)], [.ref 112])) rfl ?_
          refine r_geti rfl (x_ltn rfl) rfl rfl ?_
          refine e_k 1 (f' := (if (I4 112 34) = 0 then 304 else 295, [(3, .int v4), (0, .ref 112), (1, .int p2), (2, .int p3)], [])) rfl ?_
          refine e_if (fun c12 => ?_) (fun c12 => ?_)
          · replace hb := i_pos c12 hb
            refine e_k 1 (f' := (305, [(3, .int v4), (0, .ref 112), (1, .int p2), (2, .int p3)], [.int 0])) rfl ?_
            obtain ⟨rfl, rfl, rfl⟩ := s_inj hb
            exact e_r rfl rfl K
          · replace hb := i_neg c12 hb
            refine e_k 1 (f' := (296, [(3, .int v4), (0, .ref 112), (1, .int p2), (2, .int p3)], [.ref 112])) rfl ?_
            refine r_getr rfl (x_ltn rfl) rfl rfl ?_
            refine e_k 1 (f' := (300, [(3, .int v4), (0, .ref 112), (1, .int p2), (2, .int p3)], [.int p2, .ref 130])) rfl ?_
            obtain ⟨o13, hb⟩ := ob_in hb
            refine r_iald rfl rfl (x_ltn rfl) rfl o13 ?_
            refine e_k 1 (f' := (305, [(3, .int v4), (0, .ref 112), (1, .int p2), (2, .int p3)], [.int (I4 130 (Int32.toNatClampNeg p2))])) rfl ?_
            obtain ⟨rfl, rfl, rfl⟩ := s_inj hb
            exact e_r rfl rfl K
        replace hb := i_neg c11 hb
        by_cases c14 : p3 = 3
        · rw [show am_sw p3 435 [(0, 268), (1, 270), (2, 288), (3, 306), (4, 324), (5, 342), (6, 349), (7, 363), (8, 381), (9, 399), (10, 435), (11, 435), (12, 435), (13, 435), (14, 435), (15, 435), (16, 435), (17, 435), (18, 435), (19, 435), (20, 435), (21, 435), (22, 435), (23, 435), (24, 435), (25, 435), (26, 435), (27, 435), (28, 435), (29, 435), (30, 417)] = 306 from by rw [c14]; rfl]
          replace hb := i_pos c14 hb
          refine e_k 1 (f' := (307, [(3, .int v4), (0, .ref 112), (1, .int p2), (2, .int p3)], [.ref 112])) rfl ?_
          refine r_geti rfl (x_ltn rfl) rfl rfl ?_
          refine e_k 1 (f' := (if (I4 112 34) = 0 then 322 else 313, [(3, .int v4), (0, .ref 112), (1, .int p2), (2, .int p3)], [])) rfl ?_
          refine e_if (fun c15 => ?_) (fun c15 => ?_)
          · replace hb := i_pos c15 hb
            refine e_k 1 (f' := (323, [(3, .int v4), (0, .ref 112), (1, .int p2), (2, .int p3)], [.int 0])) rfl ?_
            obtain ⟨rfl, rfl, rfl⟩ := s_inj hb
            exact e_r rfl rfl K
          · replace hb := i_neg c15 hb
            refine e_k 1 (f' := (314, [(3, .int v4), (0, .ref 112), (1, .int p2), (2, .int p3)], [.ref 112])) rfl ?_
            refine r_getr rfl (x_ltn rfl) rfl rfl ?_
            refine e_k 1 (f' := (318, [(3, .int v4), (0, .ref 112), (1, .int p2), (2, .int p3)], [.int p2, .ref 132])) rfl ?_
            obtain ⟨o16, hb⟩ := ob_in hb
            refine r_iald rfl rfl (x_ltn rfl) rfl o16 ?_
            refine e_k 1 (f' := (323, [(3, .int v4), (0, .ref 112), (1, .int p2), (2, .int p3)], [.int (I4 132 (Int32.toNatClampNeg p2))])) rfl ?_
            obtain ⟨rfl, rfl, rfl⟩ := s_inj hb
            exact e_r rfl rfl K
        replace hb := i_neg c14 hb
        by_cases c17 : p3 = 4
        · rw [show am_sw p3 435 [(0, 268), (1, 270), (2, 288), (3, 306), (4, 324), (5, 342), (6, 349), (7, 363), (8, 381), (9, 399), (10, 435), (11, 435), (12, 435), (13, 435), (14, 435), (15, 435), (16, 435), (17, 435), (18, 435), (19, 435), (20, 435), (21, 435), (22, 435), (23, 435), (24, 435), (25, 435), (26, 435), (27, 435), (28, 435), (29, 435), (30, 417)] = 324 from by rw [c17]; rfl]
          replace hb := i_pos c17 hb
          refine e_k 1 (f' := (325, [(3, .int v4), (0, .ref 112), (1, .int p2), (2, .int p3)], [.ref 112])) rfl ?_
          refine r_geti rfl (x_ltn rfl) rfl rfl ?_
          refine e_k 1 (f' := (if (I4 112 34) = 0 then 340 else 331, [(3, .int v4), (0, .ref 112), (1, .int p2), (2, .int p3)], [])) rfl ?_
          refine e_if (fun c18 => ?_) (fun c18 => ?_)
          · replace hb := i_pos c18 hb
            refine e_k 1 (f' := (341, [(3, .int v4), (0, .ref 112), (1, .int p2), (2, .int p3)], [.int 0])) rfl ?_
            obtain ⟨rfl, rfl, rfl⟩ := s_inj hb
            exact e_r rfl rfl K
          · replace hb := i_neg c18 hb
            refine e_k 1 (f' := (332, [(3, .int v4), (0, .ref 112), (1, .int p2), (2, .int p3)], [.ref 112])) rfl ?_
            refine r_getr rfl (x_ltn rfl) rfl rfl ?_
            refine e_k 1 (f' := (336, [(3, .int v4), (0, .ref 112), (1, .int p2), (2, .int p3)], [.int p2, .ref 133])) rfl ?_
            obtain ⟨o19, hb⟩ := ob_in hb
            refine r_iald rfl rfl (x_ltn rfl) rfl o19 ?_
            refine e_k 1 (f' := (341, [(3, .int v4), (0, .ref 112), (1, .int p2), (2, .int p3)], [.int (I4 133 (Int32.toNatClampNeg p2))])) rfl ?_
            obtain ⟨rfl, rfl, rfl⟩ := s_inj hb
            exact e_r rfl rfl K
        replace hb := i_neg c17 hb
        by_cases c20 : p3 = 5
        · rw [show am_sw p3 435 [(0, 268), (1, 270), (2, 288), (3, 306), (4, 324), (5, 342), (6, 349), (7, 363), (8, 381), (9, 399), (10, 435), (11, 435), (12, 435), (13, 435), (14, 435), (15, 435), (16, 435), (17, 435), (18, 435), (19, 435), (20, 435), (21, 435), (22, 435), (23, 435), (24, 435), (25, 435), (26, 435), (27, 435), (28, 435), (29, 435), (30, 417)] = 342 from by rw [c20]; rfl]
          replace hb := i_pos c20 hb
          refine e_k 1 (f' := (343, [(3, .int v4), (0, .ref 112), (1, .int p2), (2, .int p3)], [.ref 112])) rfl ?_
          refine r_getr rfl (x_ltn rfl) rfl rfl ?_
          refine e_k 1 (f' := (347, [(3, .int v4), (0, .ref 112), (1, .int p2), (2, .int p3)], [.int p2, .ref 119])) rfl ?_
          obtain ⟨o21, hb⟩ := ob_in hb
          refine r_iald rfl rfl (x_ltn rfl) rfl o21 ?_
          obtain ⟨rfl, rfl, rfl⟩ := s_inj hb
          exact e_r rfl rfl K
        replace hb := i_neg c20 hb
        by_cases c22 : p3 = 6
        · rw [show am_sw p3 435 [(0, 268), (1, 270), (2, 288), (3, 306), (4, 324), (5, 342), (6, 349), (7, 363), (8, 381), (9, 399), (10, 435), (11, 435), (12, 435), (13, 435), (14, 435), (15, 435), (16, 435), (17, 435), (18, 435), (19, 435), (20, 435), (21, 435), (22, 435), (23, 435), (24, 435), (25, 435), (26, 435), (27, 435), (28, 435), (29, 435), (30, 417)] = 349 from by rw [c22]; rfl]
          replace hb := i_pos c22 hb
          refine e_k 1 (f' := (350, [(3, .int v4), (0, .ref 112), (1, .int p2), (2, .int p3)], [.ref 112])) rfl ?_
          refine r_getr rfl (x_ltn rfl) rfl rfl ?_
          refine e_k 1 (f' := (354, [(3, .int v4), (0, .ref 112), (1, .int p2), (2, .int p3)], [.int p2, .ref 125])) rfl ?_
          obtain ⟨o23, hb⟩ := ob_in hb
          refine r_iald rfl rfl (x_ltn rfl) rfl o23 ?_
          refine e_k 1 (f' := (356, [(3, .int v4), (0, .ref 112), (1, .int p2), (2, .int p3)], [.ref 112, .int (I4 125 (Int32.toNatClampNeg p2))])) rfl ?_
          refine r_getr rfl (x_ltn rfl) rfl rfl ?_
          refine e_k 1 (f' := (360, [(3, .int v4), (0, .ref 112), (1, .int p2), (2, .int p3)], [.int p2, .ref 126, .int (I4 125 (Int32.toNatClampNeg p2))])) rfl ?_
          obtain ⟨o24, hb⟩ := ob_in hb
          refine r_iald rfl rfl (x_ltn rfl) rfl o24 ?_
          refine e_k 1 (f' := (362, [(3, .int v4), (0, .ref 112), (1, .int p2), (2, .int p3)], [.int ((I4 125 (Int32.toNatClampNeg p2)) - (I4 126 (Int32.toNatClampNeg p2)))])) rfl ?_
          obtain ⟨rfl, rfl, rfl⟩ := s_inj hb
          exact e_r rfl rfl K
        replace hb := i_neg c22 hb
        by_cases c25 : p3 = 7
        · rw [show am_sw p3 435 [(0, 268), (1, 270), (2, 288), (3, 306), (4, 324), (5, 342), (6, 349), (7, 363), (8, 381), (9, 399), (10, 435), (11, 435), (12, 435), (13, 435), (14, 435), (15, 435), (16, 435), (17, 435), (18, 435), (19, 435), (20, 435), (21, 435), (22, 435), (23, 435), (24, 435), (25, 435), (26, 435), (27, 435), (28, 435), (29, 435), (30, 417)] = 363 from by rw [c25]; rfl]
          replace hb := i_pos c25 hb
          refine e_k 1 (f' := (364, [(3, .int v4), (0, .ref 112), (1, .int p2), (2, .int p3)], [.ref 112])) rfl ?_
          refine r_geti rfl (x_ltn rfl) rfl rfl ?_
          refine e_k 1 (f' := (if (I4 112 34) = 0 then 379 else 370, [(3, .int v4), (0, .ref 112), (1, .int p2), (2, .int p3)], [])) rfl ?_
          refine e_if (fun c26 => ?_) (fun c26 => ?_)
          · replace hb := i_pos c26 hb
            refine e_k 1 (f' := (380, [(3, .int v4), (0, .ref 112), (1, .int p2), (2, .int p3)], [.int 0])) rfl ?_
            obtain ⟨rfl, rfl, rfl⟩ := s_inj hb
            exact e_r rfl rfl K
          · replace hb := i_neg c26 hb
            refine e_k 1 (f' := (371, [(3, .int v4), (0, .ref 112), (1, .int p2), (2, .int p3)], [.ref 112])) rfl ?_
            refine r_getr rfl (x_ltn rfl) rfl rfl ?_
            refine e_k 1 (f' := (375, [(3, .int v4), (0, .ref 112), (1, .int p2), (2, .int p3)], [.int p2, .ref 138])) rfl ?_
            obtain ⟨o27, hb⟩ := ob_in hb
            refine r_iald rfl rfl (x_ltn rfl) rfl o27 ?_
            refine e_k 1 (f' := (380, [(3, .int v4), (0, .ref 112), (1, .int p2), (2, .int p3)], [.int (I4 138 (Int32.toNatClampNeg p2))])) rfl ?_
            obtain ⟨rfl, rfl, rfl⟩ := s_inj hb
            exact e_r rfl rfl K
        replace hb := i_neg c25 hb
        by_cases c28 : p3 = 8
        · rw [show am_sw p3 435 [(0, 268), (1, 270), (2, 288), (3, 306), (4, 324), (5, 342), (6, 349), (7, 363), (8, 381), (9, 399), (10, 435), (11, 435), (12, 435), (13, 435), (14, 435), (15, 435), (16, 435), (17, 435), (18, 435), (19, 435), (20, 435), (21, 435), (22, 435), (23, 435), (24, 435), (25, 435), (26, 435), (27, 435), (28, 435), (29, 435), (30, 417)] = 381 from by rw [c28]; rfl]
          replace hb := i_pos c28 hb
          refine e_k 1 (f' := (382, [(3, .int v4), (0, .ref 112), (1, .int p2), (2, .int p3)], [.ref 112])) rfl ?_
          refine r_geti rfl (x_ltn rfl) rfl rfl ?_
          refine e_k 1 (f' := (if (I4 112 34) = 0 then 397 else 388, [(3, .int v4), (0, .ref 112), (1, .int p2), (2, .int p3)], [])) rfl ?_
          refine e_if (fun c29 => ?_) (fun c29 => ?_)
          · replace hb := i_pos c29 hb
            refine e_k 1 (f' := (398, [(3, .int v4), (0, .ref 112), (1, .int p2), (2, .int p3)], [.int 0])) rfl ?_
            obtain ⟨rfl, rfl, rfl⟩ := s_inj hb
            exact e_r rfl rfl K
          · replace hb := i_neg c29 hb
            refine e_k 1 (f' := (389, [(3, .int v4), (0, .ref 112), (1, .int p2), (2, .int p3)], [.ref 112])) rfl ?_
            refine r_getr rfl (x_ltn rfl) rfl rfl ?_
            refine e_k 1 (f' := (393, [(3, .int v4), (0, .ref 112), (1, .int p2), (2, .int p3)], [.int p2, .ref 134])) rfl ?_
            obtain ⟨o30, hb⟩ := ob_in hb
            refine r_iald rfl rfl (x_ltn rfl) rfl o30 ?_
            refine e_k 1 (f' := (398, [(3, .int v4), (0, .ref 112), (1, .int p2), (2, .int p3)], [.int (I4 134 (Int32.toNatClampNeg p2))])) rfl ?_
            obtain ⟨rfl, rfl, rfl⟩ := s_inj hb
            exact e_r rfl rfl K
        replace hb := i_neg c28 hb
        by_cases c31 : p3 = 9
        · rw [show am_sw p3 435 [(0, 268), (1, 270), (2, 288), (3, 306), (4, 324), (5, 342), (6, 349), (7, 363), (8, 381), (9, 399), (10, 435), (11, 435), (12, 435), (13, 435), (14, 435), (15, 435), (16, 435), (17, 435), (18, 435), (19, 435), (20, 435), (21, 435), (22, 435), (23, 435), (24, 435), (25, 435), (26, 435), (27, 435), (28, 435), (29, 435), (30, 417)] = 399 from by rw [c31]; rfl]
          replace hb := i_pos c31 hb
          refine e_k 1 (f' := (400, [(3, .int v4), (0, .ref 112), (1, .int p2), (2, .int p3)], [.ref 112])) rfl ?_
          refine r_geti rfl (x_ltn rfl) rfl rfl ?_
          refine e_k 1 (f' := (if (I4 112 34) = 0 then 415 else 406, [(3, .int v4), (0, .ref 112), (1, .int p2), (2, .int p3)], [])) rfl ?_
          refine e_if (fun c32 => ?_) (fun c32 => ?_)
          · replace hb := i_pos c32 hb
            refine e_k 1 (f' := (416, [(3, .int v4), (0, .ref 112), (1, .int p2), (2, .int p3)], [.int 0])) rfl ?_
            obtain ⟨rfl, rfl, rfl⟩ := s_inj hb
            exact e_r rfl rfl K
          · replace hb := i_neg c32 hb
            refine e_k 1 (f' := (407, [(3, .int v4), (0, .ref 112), (1, .int p2), (2, .int p3)], [.ref 112])) rfl ?_
            refine r_getr rfl (x_ltn rfl) rfl rfl ?_
            refine e_k 1 (f' := (411, [(3, .int v4), (0, .ref 112), (1, .int p2), (2, .int p3)], [.int p2, .ref 137])) rfl ?_
            obtain ⟨o33, hb⟩ := ob_in hb
            refine r_iald rfl rfl (x_ltn rfl) rfl o33 ?_
            refine e_k 1 (f' := (416, [(3, .int v4), (0, .ref 112), (1, .int p2), (2, .int p3)], [.int (I4 137 (Int32.toNatClampNeg p2))])) rfl ?_
            obtain ⟨rfl, rfl, rfl⟩ := s_inj hb
            exact e_r rfl rfl K
        replace hb := i_neg c31 hb
        by_cases c34 : p3 = 30
        · rw [show am_sw p3 435 [(0, 268), (1, 270), (2, 288), (3, 306), (4, 324), (5, 342), (6, 349), (7, 363), (8, 381), (9, 399), (10, 435), (11, 435), (12, 435), (13, 435), (14, 435), (15, 435), (16, 435), (17, 435), (18, 435), (19, 435), (20, 435), (21, 435), (22, 435), (23, 435), (24, 435), (25, 435), (26, 435), (27, 435), (28, 435), (29, 435), (30, 417)] = 417 from by rw [c34]; rfl]
          replace hb := i_pos c34 hb
          refine e_k 1 (f' := (418, [(3, .int v4), (0, .ref 112), (1, .int p2), (2, .int p3)], [.ref 112])) rfl ?_
          refine r_geti rfl (x_ltn rfl) rfl rfl ?_
          refine e_k 1 (f' := (if (I4 112 34) = 0 then 433 else 424, [(3, .int v4), (0, .ref 112), (1, .int p2), (2, .int p3)], [])) rfl ?_
          refine e_if (fun c35 => ?_) (fun c35 => ?_)
          · replace hb := i_pos c35 hb
            refine e_k 1 (f' := (434, [(3, .int v4), (0, .ref 112), (1, .int p2), (2, .int p3)], [.int 0])) rfl ?_
            obtain ⟨rfl, rfl, rfl⟩ := s_inj hb
            exact e_r rfl rfl K
          · replace hb := i_neg c35 hb
            refine e_k 1 (f' := (425, [(3, .int v4), (0, .ref 112), (1, .int p2), (2, .int p3)], [.ref 112])) rfl ?_
            refine r_getr rfl (x_ltn rfl) rfl rfl ?_
            refine e_k 1 (f' := (429, [(3, .int v4), (0, .ref 112), (1, .int p2), (2, .int p3)], [.int p2, .ref 141])) rfl ?_
            obtain ⟨o36, hb⟩ := ob_in hb
            refine r_iald rfl rfl (x_ltn rfl) rfl o36 ?_
            refine e_k 1 (f' := (434, [(3, .int v4), (0, .ref 112), (1, .int p2), (2, .int p3)], [.int (I4 141 (Int32.toNatClampNeg p2))])) rfl ?_
            obtain ⟨rfl, rfl, rfl⟩ := s_inj hb
            exact e_r rfl rfl K
        replace hb := i_neg c34 hb
        rw [show am_sw p3 435 [(0, 268), (1, 270), (2, 288), (3, 306), (4, 324), (5, 342), (6, 349), (7, 363), (8, 381), (9, 399), (10, 435), (11, 435), (12, 435), (13, 435), (14, 435), (15, 435), (16, 435), (17, 435), (18, 435), (19, 435), (20, 435), (21, 435), (22, 435), (23, 435), (24, 435), (25, 435), (26, 435), (27, 435), (28, 435), (29, 435), (30, 417)] = 435 from (am_swd c7 (am_swd c8 (am_swd c11 (am_swd c14 (am_swd c17 (am_swd c20 (am_swd c22 (am_swd c25 (am_swd c28 (am_swd c31 (am_swe (am_swe (am_swe (am_swe (am_swe (am_swe (am_swe (am_swe (am_swe (am_swe (am_swe (am_swe (am_swe (am_swe (am_swe (am_swe (am_swe (am_swe (am_swe (am_swe (am_swd c34 rfl)))))))))))))))))))))))))))))))]
        refine e_k 1 (f' := (436, [(3, .int v4), (0, .ref 112), (1, .int p2), (2, .int p3)], [.int (-1)])) rfl ?_
        obtain ⟨rfl, rfl, rfl⟩ := s_inj hb
        exact e_r rfl rfl K
      · replace hb := i_neg c6 hb
        refine e_k 3 (f' := (95, [(3, .int v4), (0, .ref 112), (1, .int p2), (2, .int p3)], [.ref 112, .int 20, .int p3])) rfl ?_
        refine r_geti rfl (x_ltn rfl) rfl rfl ?_
        refine e_k 2 (f' := (if (20 + (I4 112 16)) ≤ p3 then 127 else 102, [(3, .int v4), (0, .ref 112), (1, .int p2), (2, .int p3)], [])) rfl ?_
        refine e_if (fun c37 => ?_) (fun c37 => ?_)
        · replace hb := i_pos c37 hb
          refine e_k 2 (f' := (am_sw p3 435 [(0, 268), (1, 270), (2, 288), (3, 306), (4, 324), (5, 342), (6, 349), (7, 363), (8, 381), (9, 399), (10, 435), (11, 435), (12, 435), (13, 435), (14, 435), (15, 435), (16, 435), (17, 435), (18, 435), (19, 435), (20, 435), (21, 435), (22, 435), (23, 435), (24, 435), (25, 435), (26, 435), (27, 435), (28, 435), (29, 435), (30, 417)], [(3, .int v4), (0, .ref 112), (1, .int p2), (2, .int p3)], [])) rfl ?_
          by_cases c38 : p3 = 0
          · rw [show am_sw p3 435 [(0, 268), (1, 270), (2, 288), (3, 306), (4, 324), (5, 342), (6, 349), (7, 363), (8, 381), (9, 399), (10, 435), (11, 435), (12, 435), (13, 435), (14, 435), (15, 435), (16, 435), (17, 435), (18, 435), (19, 435), (20, 435), (21, 435), (22, 435), (23, 435), (24, 435), (25, 435), (26, 435), (27, 435), (28, 435), (29, 435), (30, 417)] = 268 from by rw [c38]; rfl]
            replace hb := i_pos c38 hb
            refine e_k 1 (f' := (269, [(3, .int v4), (0, .ref 112), (1, .int p2), (2, .int p3)], [.int v4])) rfl ?_
            obtain ⟨rfl, rfl, rfl⟩ := s_inj hb
            exact e_r rfl rfl K
          replace hb := i_neg c38 hb
          by_cases c39 : p3 = 1
          · rw [show am_sw p3 435 [(0, 268), (1, 270), (2, 288), (3, 306), (4, 324), (5, 342), (6, 349), (7, 363), (8, 381), (9, 399), (10, 435), (11, 435), (12, 435), (13, 435), (14, 435), (15, 435), (16, 435), (17, 435), (18, 435), (19, 435), (20, 435), (21, 435), (22, 435), (23, 435), (24, 435), (25, 435), (26, 435), (27, 435), (28, 435), (29, 435), (30, 417)] = 270 from by rw [c39]; rfl]
            replace hb := i_pos c39 hb
            refine e_k 1 (f' := (271, [(3, .int v4), (0, .ref 112), (1, .int p2), (2, .int p3)], [.ref 112])) rfl ?_
            refine r_geti rfl (x_ltn rfl) rfl rfl ?_
            refine e_k 1 (f' := (if (I4 112 34) = 0 then 286 else 277, [(3, .int v4), (0, .ref 112), (1, .int p2), (2, .int p3)], [])) rfl ?_
            refine e_if (fun c40 => ?_) (fun c40 => ?_)
            · replace hb := i_pos c40 hb
              refine e_k 1 (f' := (287, [(3, .int v4), (0, .ref 112), (1, .int p2), (2, .int p3)], [.int 0])) rfl ?_
              obtain ⟨rfl, rfl, rfl⟩ := s_inj hb
              exact e_r rfl rfl K
            · replace hb := i_neg c40 hb
              refine e_k 1 (f' := (278, [(3, .int v4), (0, .ref 112), (1, .int p2), (2, .int p3)], [.ref 112])) rfl ?_
              refine r_getr rfl (x_ltn rfl) rfl rfl ?_
              refine e_k 1 (f' := (282, [(3, .int v4), (0, .ref 112), (1, .int p2), (2, .int p3)], [.int p2, .ref 129])) rfl ?_
              obtain ⟨o41, hb⟩ := ob_in hb
              refine r_iald rfl rfl (x_ltn rfl) rfl o41 ?_
              refine e_k 1 (f' := (287, [(3, .int v4), (0, .ref 112), (1, .int p2), (2, .int p3)], [.int (I4 129 (Int32.toNatClampNeg p2))])) rfl ?_
              obtain ⟨rfl, rfl, rfl⟩ := s_inj hb
              exact e_r rfl rfl K
          replace hb := i_neg c39 hb
          by_cases c42 : p3 = 2
          · rw [show am_sw p3 435 [(0, 268), (1, 270), (2, 288), (3, 306), (4, 324), (5, 342), (6, 349), (7, 363), (8, 381), (9, 399), (10, 435), (11, 435), (12, 435), (13, 435), (14, 435), (15, 435), (16, 435), (17, 435), (18, 435), (19, 435), (20, 435), (21, 435), (22, 435), (23, 435), (24, 435), (25, 435), (26, 435), (27, 435), (28, 435), (29, 435), (30, 417)] = 288 from by rw [c42]; rfl]
            replace hb := i_pos c42 hb
            refine e_k 1 (f' := (289, [(3, .int v4), (0, .ref 112), (1, .int p2), (2, .int p3)], [.ref 112])) rfl ?_
            refine r_geti rfl (x_ltn rfl) rfl rfl ?_
            refine e_k 1 (f' := (if (I4 112 34) = 0 then 304 else 295, [(3, .int v4), (0, .ref 112), (1, .int p2), (2, .int p3)], [])) rfl ?_
            refine e_if (fun c43 => ?_) (fun c43 => ?_)
            · replace hb := i_pos c43 hb
              refine e_k 1 (f' := (305, [(3, .int v4), (0, .ref 112), (1, .int p2), (2, .int p3)], [.int 0])) rfl ?_
              obtain ⟨rfl, rfl, rfl⟩ := s_inj hb
              exact e_r rfl rfl K
            · replace hb := i_neg c43 hb
              refine e_k 1 (f' := (296, [(3, .int v4), (0, .ref 112), (1, .int p2), (2, .int p3)], [.ref 112])) rfl ?_
              refine r_getr rfl (x_ltn rfl) rfl rfl ?_
              refine e_k 1 (f' := (300, [(3, .int v4), (0, .ref 112), (1, .int p2), (2, .int p3)], [.int p2, .ref 130])) rfl ?_
              obtain ⟨o44, hb⟩ := ob_in hb
              refine r_iald rfl rfl (x_ltn rfl) rfl o44 ?_
              refine e_k 1 (f' := (305, [(3, .int v4), (0, .ref 112), (1, .int p2), (2, .int p3)], [.int (I4 130 (Int32.toNatClampNeg p2))])) rfl ?_
              obtain ⟨rfl, rfl, rfl⟩ := s_inj hb
              exact e_r rfl rfl K
          replace hb := i_neg c42 hb
          by_cases c45 : p3 = 3
          · rw [show am_sw p3 435 [(0, 268), (1, 270), (2, 288), (3, 306), (4, 324), (5, 342), (6, 349), (7, 363), (8, 381), (9, 399), (10, 435), (11, 435), (12, 435), (13, 435), (14, 435), (15, 435), (16, 435), (17, 435), (18, 435), (19, 435), (20, 435), (21, 435), (22, 435), (23, 435), (24, 435), (25, 435), (26, 435), (27, 435), (28, 435), (29, 435), (30, 417)] = 306 from by rw [c45]; rfl]
            replace hb := i_pos c45 hb
            refine e_k 1 (f' := (307, [(3, .int v4), (0, .ref 112), (1, .int p2), (2, .int p3)], [.ref 112])) rfl ?_
            refine r_geti rfl (x_ltn rfl) rfl rfl ?_
            refine e_k 1 (f' := (if (I4 112 34) = 0 then 322 else 313, [(3, .int v4), (0, .ref 112), (1, .int p2), (2, .int p3)], [])) rfl ?_
            refine e_if (fun c46 => ?_) (fun c46 => ?_)
            · replace hb := i_pos c46 hb
              refine e_k 1 (f' := (323, [(3, .int v4), (0, .ref 112), (1, .int p2), (2, .int p3)], [.int 0])) rfl ?_
              obtain ⟨rfl, rfl, rfl⟩ := s_inj hb
              exact e_r rfl rfl K
            · replace hb := i_neg c46 hb
              refine e_k 1 (f' := (314, [(3, .int v4), (0, .ref 112), (1, .int p2), (2, .int p3)], [.ref 112])) rfl ?_
              refine r_getr rfl (x_ltn rfl) rfl rfl ?_
              refine e_k 1 (f' := (318, [(3, .int v4), (0, .ref 112), (1, .int p2), (2, .int p3)], [.int p2, .ref 132])) rfl ?_
              obtain ⟨o47, hb⟩ := ob_in hb
              refine r_iald rfl rfl (x_ltn rfl) rfl o47 ?_
              refine e_k 1 (f' := (323, [(3, .int v4), (0, .ref 112), (1, .int p2), (2, .int p3)], [.int (I4 132 (Int32.toNatClampNeg p2))])) rfl ?_
              obtain ⟨rfl, rfl, rfl⟩ := s_inj hb
              exact e_r rfl rfl K
          replace hb := i_neg c45 hb
          by_cases c48 : p3 = 4
          · rw [show am_sw p3 435 [(0, 268), (1, 270), (2, 288), (3, 306), (4, 324), (5, 342), (6, 349), (7, 363), (8, 381), (9, 399), (10, 435), (11, 435), (12, 435), (13, 435), (14, 435), (15, 435), (16, 435), (17, 435), (18, 435), (19, 435), (20, 435), (21, 435), (22, 435), (23, 435), (24, 435), (25, 435), (26, 435), (27, 435), (28, 435), (29, 435), (30, 417)] = 324 from by rw [c48]; rfl]
            replace hb := i_pos c48 hb
            refine e_k 1 (f' := (325, [(3, .int v4), (0, .ref 112), (1, .int p2), (2, .int p3)], [.ref 112])) rfl ?_
            refine r_geti rfl (x_ltn rfl) rfl rfl ?_
            refine e_k 1 (f' := (if (I4 112 34) = 0 then 340 else 331, [(3, .int v4), (0, .ref 112), (1, .int p2), (2, .int p3)], [])) rfl ?_
            refine e_if (fun c49 => ?_) (fun c49 => ?_)
            · replace hb := i_pos c49 hb
              refine e_k 1 (f' := (341, [(3, .int v4), (0, .ref 112), (1, .int p2), (2, .int p3)], [.int 0])) rfl ?_
              obtain ⟨rfl, rfl, rfl⟩ := s_inj hb
              exact e_r rfl rfl K
            · replace hb := i_neg c49 hb
              refine e_k 1 (f' := (332, [(3, .int v4), (0, .ref 112), (1, .int p2), (2, .int p3)], [.ref 112])) rfl ?_
              refine r_getr rfl (x_ltn rfl) rfl rfl ?_
              refine e_k 1 (f' := (336, [(3, .int v4), (0, .ref 112), (1, .int p2), (2, .int p3)], [.int p2, .ref 133])) rfl ?_
              obtain ⟨o50, hb⟩ := ob_in hb
              refine r_iald rfl rfl (x_ltn rfl) rfl o50 ?_
              refine e_k 1 (f' := (341, [(3, .int v4), (0, .ref 112), (1, .int p2), (2, .int p3)], [.int (I4 133 (Int32.toNatClampNeg p2))])) rfl ?_
              obtain ⟨rfl, rfl, rfl⟩ := s_inj hb
              exact e_r rfl rfl K
          replace hb := i_neg c48 hb
          by_cases c51 : p3 = 5
          · rw [show am_sw p3 435 [(0, 268), (1, 270), (2, 288), (3, 306), (4, 324), (5, 342), (6, 349), (7, 363), (8, 381), (9, 399), (10, 435), (11, 435), (12, 435), (13, 435), (14, 435), (15, 435), (16, 435), (17, 435), (18, 435), (19, 435), (20, 435), (21, 435), (22, 435), (23, 435), (24, 435), (25, 435), (26, 435), (27, 435), (28, 435), (29, 435), (30, 417)] = 342 from by rw [c51]; rfl]
            replace hb := i_pos c51 hb
            refine e_k 1 (f' := (343, [(3, .int v4), (0, .ref 112), (1, .int p2), (2, .int p3)], [.ref 112])) rfl ?_
            refine r_getr rfl (x_ltn rfl) rfl rfl ?_
            refine e_k 1 (f' := (347, [(3, .int v4), (0, .ref 112), (1, .int p2), (2, .int p3)], [.int p2, .ref 119])) rfl ?_
            obtain ⟨o52, hb⟩ := ob_in hb
            refine r_iald rfl rfl (x_ltn rfl) rfl o52 ?_
            obtain ⟨rfl, rfl, rfl⟩ := s_inj hb
            exact e_r rfl rfl K
          replace hb := i_neg c51 hb
          by_cases c53 : p3 = 6
          · rw [show am_sw p3 435 [(0, 268), (1, 270), (2, 288), (3, 306), (4, 324), (5, 342), (6, 349), (7, 363), (8, 381), (9, 399), (10, 435), (11, 435), (12, 435), (13, 435), (14, 435), (15, 435), (16, 435), (17, 435), (18, 435), (19, 435), (20, 435), (21, 435), (22, 435), (23, 435), (24, 435), (25, 435), (26, 435), (27, 435), (28, 435), (29, 435), (30, 417)] = 349 from by rw [c53]; rfl]
            replace hb := i_pos c53 hb
            refine e_k 1 (f' := (350, [(3, .int v4), (0, .ref 112), (1, .int p2), (2, .int p3)], [.ref 112])) rfl ?_
            refine r_getr rfl (x_ltn rfl) rfl rfl ?_
            refine e_k 1 (f' := (354, [(3, .int v4), (0, .ref 112), (1, .int p2), (2, .int p3)], [.int p2, .ref 125])) rfl ?_
            obtain ⟨o54, hb⟩ := ob_in hb
            refine r_iald rfl rfl (x_ltn rfl) rfl o54 ?_
            refine e_k 1 (f' := (356, [(3, .int v4), (0, .ref 112), (1, .int p2), (2, .int p3)], [.ref 112, .int (I4 125 (Int32.toNatClampNeg p2))])) rfl ?_
            refine r_getr rfl (x_ltn rfl) rfl rfl ?_
            refine e_k 1 (f' := (360, [(3, .int v4), (0, .ref 112), (1, .int p2), (2, .int p3)], [.int p2, .ref 126, .int (I4 125 (Int32.toNatClampNeg p2))])) rfl ?_
            obtain ⟨o55, hb⟩ := ob_in hb
            refine r_iald rfl rfl (x_ltn rfl) rfl o55 ?_
            refine e_k 1 (f' := (362, [(3, .int v4), (0, .ref 112), (1, .int p2), (2, .int p3)], [.int ((I4 125 (Int32.toNatClampNeg p2)) - (I4 126 (Int32.toNatClampNeg p2)))])) rfl ?_
            obtain ⟨rfl, rfl, rfl⟩ := s_inj hb
            exact e_r rfl rfl K
          replace hb := i_neg c53 hb
          by_cases c56 : p3 = 7
          · rw [show am_sw p3 435 [(0, 268), (1, 270), (2, 288), (3, 306), (4, 324), (5, 342), (6, 349), (7, 363), (8, 381), (9, 399), (10, 435), (11, 435), (12, 435), (13, 435), (14, 435), (15, 435), (16, 435), (17, 435), (18, 435), (19, 435), (20, 435), (21, 435), (22, 435), (23, 435), (24, 435), (25, 435), (26, 435), (27, 435), (28, 435), (29, 435), (30, 417)] = 363 from by rw [c56]; rfl]
            replace hb := i_pos c56 hb
            refine e_k 1 (f' := (364, [(3, .int v4), (0, .ref 112), (1, .int p2), (2, .int p3)], [.ref 112])) rfl ?_
            refine r_geti rfl (x_ltn rfl) rfl rfl ?_
            refine e_k 1 (f' := (if (I4 112 34) = 0 then 379 else 370, [(3, .int v4), (0, .ref 112), (1, .int p2), (2, .int p3)], [])) rfl ?_
            refine e_if (fun c57 => ?_) (fun c57 => ?_)
            · replace hb := i_pos c57 hb
              refine e_k 1 (f' := (380, [(3, .int v4), (0, .ref 112), (1, .int p2), (2, .int p3)], [.int 0])) rfl ?_
              obtain ⟨rfl, rfl, rfl⟩ := s_inj hb
              exact e_r rfl rfl K
            · replace hb := i_neg c57 hb
              refine e_k 1 (f' := (371, [(3, .int v4), (0, .ref 112), (1, .int p2), (2, .int p3)], [.ref 112])) rfl ?_
              refine r_getr rfl (x_ltn rfl) rfl rfl ?_
              refine e_k 1 (f' := (375, [(3, .int v4), (0, .ref 112), (1, .int p2), (2, .int p3)], [.int p2, .ref 138])) rfl ?_
              obtain ⟨o58, hb⟩ := ob_in hb
              refine r_iald rfl rfl (x_ltn rfl) rfl o58 ?_
              refine e_k 1 (f' := (380, [(3, .int v4), (0, .ref 112), (1, .int p2), (2, .int p3)], [.int (I4 138 (Int32.toNatClampNeg p2))])) rfl ?_
              obtain ⟨rfl, rfl, rfl⟩ := s_inj hb
              exact e_r rfl rfl K
          replace hb := i_neg c56 hb
          by_cases c59 : p3 = 8
          · rw [show am_sw p3 435 [(0, 268), (1, 270), (2, 288), (3, 306), (4, 324), (5, 342), (6, 349), (7, 363), (8, 381), (9, 399), (10, 435), (11, 435), (12, 435), (13, 435), (14, 435), (15, 435), (16, 435), (17, 435), (18, 435), (19, 435), (20, 435), (21, 435), (22, 435), (23, 435), (24, 435), (25, 435), (26, 435), (27, 435), (28, 435), (29, 435), (30, 417)] = 381 from by rw [c59]; rfl]
            replace hb := i_pos c59 hb
            refine e_k 1 (f' := (382, [(3, .int v4), (0, .ref 112), (1, .int p2), (2, .int p3)], [.ref 112])) rfl ?_
            refine r_geti rfl (x_ltn rfl) rfl rfl ?_
            refine e_k 1 (f' := (if (I4 112 34) = 0 then 397 else 388, [(3, .int v4), (0, .ref 112), (1, .int p2), (2, .int p3)], [])) rfl ?_
            refine e_if (fun c60 => ?_) (fun c60 => ?_)
            · replace hb := i_pos c60 hb
              refine e_k 1 (f' := (398, [(3, .int v4), (0, .ref 112), (1, .int p2), (2, .int p3)], [.int 0])) rfl ?_
              obtain ⟨rfl, rfl, rfl⟩ := s_inj hb
              exact e_r rfl rfl K
            · replace hb := i_neg c60 hb
              refine e_k 1 (f' := (389, [(3, .int v4), (0, .ref 112), (1, .int p2), (2, .int p3)], [.ref 112])) rfl ?_
              refine r_getr rfl (x_ltn rfl) rfl rfl ?_
              refine e_k 1 (f' := (393, [(3, .int v4), (0, .ref 112), (1, .int p2), (2, .int p3)], [.int p2, .ref 134])) rfl ?_
              obtain ⟨o61, hb⟩ := ob_in hb
              refine r_iald rfl rfl (x_ltn rfl) rfl o61 ?_
              refine e_k 1 (f' := (398, [(3, .int v4), (0, .ref 112), (1, .int p2), (2, .int p3)], [.int (I4 134 (Int32.toNatClampNeg p2))])) rfl ?_
              obtain ⟨rfl, rfl, rfl⟩ := s_inj hb
              exact e_r rfl rfl K
          replace hb := i_neg c59 hb
          by_cases c62 : p3 = 9
          · rw [show am_sw p3 435 [(0, 268), (1, 270), (2, 288), (3, 306), (4, 324), (5, 342), (6, 349), (7, 363), (8, 381), (9, 399), (10, 435), (11, 435), (12, 435), (13, 435), (14, 435), (15, 435), (16, 435), (17, 435), (18, 435), (19, 435), (20, 435), (21, 435), (22, 435), (23, 435), (24, 435), (25, 435), (26, 435), (27, 435), (28, 435), (29, 435), (30, 417)] = 399 from by rw [c62]; rfl]
            replace hb := i_pos c62 hb
            refine e_k 1 (f' := (400, [(3, .int v4), (0, .ref 112), (1, .int p2), (2, .int p3)], [.ref 112])) rfl ?_
            refine r_geti rfl (x_ltn rfl) rfl rfl ?_
            refine e_k 1 (f' := (if (I4 112 34) = 0 then 415 else 406, [(3, .int v4), (0, .ref 112), (1, .int p2), (2, .int p3)], [])) rfl ?_
            refine e_if (fun c63 => ?_) (fun c63 => ?_)
            · replace hb := i_pos c63 hb
              refine e_k 1 (f' := (416, [(3, .int v4), (0, .ref 112), (1, .int p2), (2, .int p3)], [.int 0])) rfl ?_
              obtain ⟨rfl, rfl, rfl⟩ := s_inj hb
              exact e_r rfl rfl K
            · replace hb := i_neg c63 hb
              refine e_k 1 (f' := (407, [(3, .int v4), (0, .ref 112), (1, .int p2), (2, .int p3)], [.ref 112])) rfl ?_
              refine r_getr rfl (x_ltn rfl) rfl rfl ?_
              refine e_k 1 (f' := (411, [(3, .int v4), (0, .ref 112), (1, .int p2), (2, .int p3)], [.int p2, .ref 137])) rfl ?_
              obtain ⟨o64, hb⟩ := ob_in hb
              refine r_iald rfl rfl (x_ltn rfl) rfl o64 ?_
              refine e_k 1 (f' := (416, [(3, .int v4), (0, .ref 112), (1, .int p2), (2, .int p3)], [.int (I4 137 (Int32.toNatClampNeg p2))])) rfl ?_
              obtain ⟨rfl, rfl, rfl⟩ := s_inj hb
              exact e_r rfl rfl K
          replace hb := i_neg c62 hb
          by_cases c65 : p3 = 30
          · rw [show am_sw p3 435 [(0, 268), (1, 270), (2, 288), (3, 306), (4, 324), (5, 342), (6, 349), (7, 363), (8, 381), (9, 399), (10, 435), (11, 435), (12, 435), (13, 435), (14, 435), (15, 435), (16, 435), (17, 435), (18, 435), (19, 435), (20, 435), (21, 435), (22, 435), (23, 435), (24, 435), (25, 435), (26, 435), (27, 435), (28, 435), (29, 435), (30, 417)] = 417 from by rw [c65]; rfl]
            replace hb := i_pos c65 hb
            refine e_k 1 (f' := (418, [(3, .int v4), (0, .ref 112), (1, .int p2), (2, .int p3)], [.ref 112])) rfl ?_
            refine r_geti rfl (x_ltn rfl) rfl rfl ?_
            refine e_k 1 (f' := (if (I4 112 34) = 0 then 433 else 424, [(3, .int v4), (0, .ref 112), (1, .int p2), (2, .int p3)], [])) rfl ?_
            refine e_if (fun c66 => ?_) (fun c66 => ?_)
            · replace hb := i_pos c66 hb
              refine e_k 1 (f' := (434, [(3, .int v4), (0, .ref 112), (1, .int p2), (2, .int p3)], [.int 0])) rfl ?_
              obtain ⟨rfl, rfl, rfl⟩ := s_inj hb
              exact e_r rfl rfl K
            · replace hb := i_neg c66 hb
              refine e_k 1 (f' := (425, [(3, .int v4), (0, .ref 112), (1, .int p2), (2, .int p3)], [.ref 112])) rfl ?_
              refine r_getr rfl (x_ltn rfl) rfl rfl ?_
              refine e_k 1 (f' := (429, [(3, .int v4), (0, .ref 112), (1, .int p2), (2, .int p3)], [.int p2, .ref 141])) rfl ?_
              obtain ⟨o67, hb⟩ := ob_in hb
              refine r_iald rfl rfl (x_ltn rfl) rfl o67 ?_
              refine e_k 1 (f' := (434, [(3, .int v4), (0, .ref 112), (1, .int p2), (2, .int p3)], [.int (I4 141 (Int32.toNatClampNeg p2))])) rfl ?_
              obtain ⟨rfl, rfl, rfl⟩ := s_inj hb
              exact e_r rfl rfl K
          replace hb := i_neg c65 hb
          rw [show am_sw p3 435 [(0, 268), (1, 270), (2, 288), (3, 306), (4, 324), (5, 342), (6, 349), (7, 363), (8, 381), (9, 399), (10, 435), (11, 435), (12, 435), (13, 435), (14, 435), (15, 435), (16, 435), (17, 435), (18, 435), (19, 435), (20, 435), (21, 435), (22, 435), (23, 435), (24, 435), (25, 435), (26, 435), (27, 435), (28, 435), (29, 435), (30, 417)] = 435 from (am_swd c38 (am_swd c39 (am_swd c42 (am_swd c45 (am_swd c48 (am_swd c51 (am_swd c53 (am_swd c56 (am_swd c59 (am_swd c62 (am_swe (am_swe (am_swe (am_swe (am_swe (am_swe (am_swe (am_swe (am_swe (am_swe (am_swe (am_swe (am_swe (am_swe (am_swe (am_swe (am_swe (am_swe (am_swe (am_swe (am_swd c65 rfl)))))))))))))))))))))))))))))))]
          refine e_k 1 (f' := (436, [(3, .int v4), (0, .ref 112), (1, .int p2), (2, .int p3)], [.int (-1)])) rfl ?_
          obtain ⟨rfl, rfl, rfl⟩ := s_inj hb
          exact e_r rfl rfl K
        · replace hb := i_neg c37 hb
          refine e_k 1 (f' := (103, [(3, .int v4), (0, .ref 112), (1, .int p2), (2, .int p3)], [.ref 112])) rfl ?_
          refine r_geti rfl (x_ltn rfl) rfl rfl ?_
          refine e_k 1 (f' := (if (I4 112 34) = 0 then 125 else 109, [(3, .int v4), (0, .ref 112), (1, .int p2), (2, .int p3)], [])) rfl ?_
          refine e_if (fun c68 => ?_) (fun c68 => ?_)
          · replace hb := i_pos c68 hb
            refine e_k 1 (f' := (126, [(3, .int v4), (0, .ref 112), (1, .int p2), (2, .int p3)], [.int 0])) rfl ?_
            obtain ⟨rfl, rfl, rfl⟩ := s_inj hb
            exact e_r rfl rfl K
          · replace hb := i_neg c68 hb
            refine e_k 1 (f' := (110, [(3, .int v4), (0, .ref 112), (1, .int p2), (2, .int p3)], [.ref 112])) rfl ?_
            refine r_getr rfl (x_ltn rfl) rfl rfl ?_
            refine e_k 7 (f' := (121, [(3, .int v4), (0, .ref 112), (1, .int p2), (2, .int p3)], [.int ((4 * (p3 - 20)) + p2), .ref 150])) rfl ?_
            obtain ⟨o69, hb⟩ := ob_in hb
            refine r_iald rfl rfl (x_ltn rfl) rfl o69 ?_
            refine e_k 1 (f' := (126, [(3, .int v4), (0, .ref 112), (1, .int p2), (2, .int p3)], [.int (I4 150 (Int32.toNatClampNeg ((4 * (p3 - 20)) + p2)))])) rfl ?_
            obtain ⟨rfl, rfl, rfl⟩ := s_inj hb
            exact e_r rfl rfl K
    · replace hb := i_neg c5 hb
      refine e_k 3 (f' := (31, [(3, .int v4), (0, .ref 112), (1, .int p2), (2, .int p3)], [.ref 112, .int 10, .int p3])) rfl ?_
      refine r_geti rfl (x_ltn rfl) rfl rfl ?_
      refine e_k 2 (f' := (if (10 + (I4 112 16)) ≤ p3 then 85 else 38, [(3, .int v4), (0, .ref 112), (1, .int p2), (2, .int p3)], [])) rfl ?_
      refine e_if (fun c70 => ?_) (fun c70 => ?_)
      · replace hb := i_pos c70 hb
        refine e_k 3 (f' := (if p3 < 20 then 127 else 91, [(3, .int v4), (0, .ref 112), (1, .int p2), (2, .int p3)], [])) rfl ?_
        refine e_if (fun c71 => ?_) (fun c71 => ?_)
        · replace hb := i_pos c71 hb
          refine e_k 2 (f' := (am_sw p3 435 [(0, 268), (1, 270), (2, 288), (3, 306), (4, 324), (5, 342), (6, 349), (7, 363), (8, 381), (9, 399), (10, 435), (11, 435), (12, 435), (13, 435), (14, 435), (15, 435), (16, 435), (17, 435), (18, 435), (19, 435), (20, 435), (21, 435), (22, 435), (23, 435), (24, 435), (25, 435), (26, 435), (27, 435), (28, 435), (29, 435), (30, 417)], [(3, .int v4), (0, .ref 112), (1, .int p2), (2, .int p3)], [])) rfl ?_
          by_cases c72 : p3 = 0
          · rw [show am_sw p3 435 [(0, 268), (1, 270), (2, 288), (3, 306), (4, 324), (5, 342), (6, 349), (7, 363), (8, 381), (9, 399), (10, 435), (11, 435), (12, 435), (13, 435), (14, 435), (15, 435), (16, 435), (17, 435), (18, 435), (19, 435), (20, 435), (21, 435), (22, 435), (23, 435), (24, 435), (25, 435), (26, 435), (27, 435), (28, 435), (29, 435), (30, 417)] = 268 from by rw [c72]; rfl]
            replace hb := i_pos c72 hb
            refine e_k 1 (f' := (269, [(3, .int v4), (0, .ref 112), (1, .int p2), (2, .int p3)], [.int v4])) rfl ?_
            obtain ⟨rfl, rfl, rfl⟩ := s_inj hb
            exact e_r rfl rfl K
          replace hb := i_neg c72 hb
          by_cases c73 : p3 = 1
          · rw [show am_sw p3 435 [(0, 268), (1, 270), (2, 288), (3, 306), (4, 324), (5, 342), (6, 349), (7, 363), (8, 381), (9, 399), (10, 435), (11, 435), (12, 435), (13, 435), (14, 435), (15, 435), (16, 435), (17, 435), (18, 435), (19, 435), (20, 435), (21, 435), (22, 435), (23, 435), (24, 435), (25, 435), (26, 435), (27, 435), (28, 435), (29, 435), (30, 417)] = 270 from by rw [c73]; rfl]
            replace hb := i_pos c73 hb
            refine e_k 1 (f' := (271, [(3, .int v4), (0, .ref 112), (1, .int p2), (2, .int p3)], [.ref 112])) rfl ?_
            refine r_geti rfl (x_ltn rfl) rfl rfl ?_
            refine e_k 1 (f' := (if (I4 112 34) = 0 then 286 else 277, [(3, .int v4), (0, .ref 112), (1, .int p2), (2, .int p3)], [])) rfl ?_
            refine e_if (fun c74 => ?_) (fun c74 => ?_)
            · replace hb := i_pos c74 hb
              refine e_k 1 (f' := (287, [(3, .int v4), (0, .ref 112), (1, .int p2), (2, .int p3)], [.int 0])) rfl ?_
              obtain ⟨rfl, rfl, rfl⟩ := s_inj hb
              exact e_r rfl rfl K
            · replace hb := i_neg c74 hb
              refine e_k 1 (f' := (278, [(3, .int v4), (0, .ref 112), (1, .int p2), (2, .int p3)], [.ref 112])) rfl ?_
              refine r_getr rfl (x_ltn rfl) rfl rfl ?_
              refine e_k 1 (f' := (282, [(3, .int v4), (0, .ref 112), (1, .int p2), (2, .int p3)], [.int p2, .ref 129])) rfl ?_
              obtain ⟨o75, hb⟩ := ob_in hb
              refine r_iald rfl rfl (x_ltn rfl) rfl o75 ?_
              refine e_k 1 (f' := (287, [(3, .int v4), (0, .ref 112), (1, .int p2), (2, .int p3)], [.int (I4 129 (Int32.toNatClampNeg p2))])) rfl ?_
              obtain ⟨rfl, rfl, rfl⟩ := s_inj hb
              exact e_r rfl rfl K
          replace hb := i_neg c73 hb
          by_cases c76 : p3 = 2
          · rw [show am_sw p3 435 [(0, 268), (1, 270), (2, 288), (3, 306), (4, 324), (5, 342), (6, 349), (7, 363), (8, 381), (9, 399), (10, 435), (11, 435), (12, 435), (13, 435), (14, 435), (15, 435), (16, 435), (17, 435), (18, 435), (19, 435), (20, 435), (21, 435), (22, 435), (23, 435), (24, 435), (25, 435), (26, 435), (27, 435), (28, 435), (29, 435), (30, 417)] = 288 from by rw [c76]; rfl]
            replace hb := i_pos c76 hb
            refine e_k 1 (f' := (289, [(3, .int v4), (0, .ref 112), (1, .int p2), (2, .int p3)], [.ref 112])) rfl ?_
            refine r_geti rfl (x_ltn rfl) rfl rfl ?_
            refine e_k 1 (f' := (if (I4 112 34) = 0 then 304 else 295, [(3, .int v4), (0, .ref 112), (1, .int p2), (2, .int p3)], [])) rfl ?_
            refine e_if (fun c77 => ?_) (fun c77 => ?_)
            · replace hb := i_pos c77 hb
              refine e_k 1 (f' := (305, [(3, .int v4), (0, .ref 112), (1, .int p2), (2, .int p3)], [.int 0])) rfl ?_
              obtain ⟨rfl, rfl, rfl⟩ := s_inj hb
              exact e_r rfl rfl K
            · replace hb := i_neg c77 hb
              refine e_k 1 (f' := (296, [(3, .int v4), (0, .ref 112), (1, .int p2), (2, .int p3)], [.ref 112])) rfl ?_
              refine r_getr rfl (x_ltn rfl) rfl rfl ?_
              refine e_k 1 (f' := (300, [(3, .int v4), (0, .ref 112), (1, .int p2), (2, .int p3)], [.int p2, .ref 130])) rfl ?_
              obtain ⟨o78, hb⟩ := ob_in hb
              refine r_iald rfl rfl (x_ltn rfl) rfl o78 ?_
              refine e_k 1 (f' := (305, [(3, .int v4), (0, .ref 112), (1, .int p2), (2, .int p3)], [.int (I4 130 (Int32.toNatClampNeg p2))])) rfl ?_
              obtain ⟨rfl, rfl, rfl⟩ := s_inj hb
              exact e_r rfl rfl K
          replace hb := i_neg c76 hb
          by_cases c79 : p3 = 3
          · rw [show am_sw p3 435 [(0, 268), (1, 270), (2, 288), (3, 306), (4, 324), (5, 342), (6, 349), (7, 363), (8, 381), (9, 399), (10, 435), (11, 435), (12, 435), (13, 435), (14, 435), (15, 435), (16, 435), (17, 435), (18, 435), (19, 435), (20, 435), (21, 435), (22, 435), (23, 435), (24, 435), (25, 435), (26, 435), (27, 435), (28, 435), (29, 435), (30, 417)] = 306 from by rw [c79]; rfl]
            replace hb := i_pos c79 hb
            refine e_k 1 (f' := (307, [(3, .int v4), (0, .ref 112), (1, .int p2), (2, .int p3)], [.ref 112])) rfl ?_
            refine r_geti rfl (x_ltn rfl) rfl rfl ?_
            refine e_k 1 (f' := (if (I4 112 34) = 0 then 322 else 313, [(3, .int v4), (0, .ref 112), (1, .int p2), (2, .int p3)], [])) rfl ?_
            refine e_if (fun c80 => ?_) (fun c80 => ?_)
            · replace hb := i_pos c80 hb
              refine e_k 1 (f' := (323, [(3, .int v4), (0, .ref 112), (1, .int p2), (2, .int p3)], [.int 0])) rfl ?_
              obtain ⟨rfl, rfl, rfl⟩ := s_inj hb
              exact e_r rfl rfl K
            · replace hb := i_neg c80 hb
              refine e_k 1 (f' := (314, [(3, .int v4), (0, .ref 112), (1, .int p2), (2, .int p3)], [.ref 112])) rfl ?_
              refine r_getr rfl (x_ltn rfl) rfl rfl ?_
              refine e_k 1 (f' := (318, [(3, .int v4), (0, .ref 112), (1, .int p2), (2, .int p3)], [.int p2, .ref 132])) rfl ?_
              obtain ⟨o81, hb⟩ := ob_in hb
              refine r_iald rfl rfl (x_ltn rfl) rfl o81 ?_
              refine e_k 1 (f' := (323, [(3, .int v4), (0, .ref 112), (1, .int p2), (2, .int p3)], [.int (I4 132 (Int32.toNatClampNeg p2))])) rfl ?_
              obtain ⟨rfl, rfl, rfl⟩ := s_inj hb
              exact e_r rfl rfl K
          replace hb := i_neg c79 hb
          by_cases c82 : p3 = 4
          · rw [show am_sw p3 435 [(0, 268), (1, 270), (2, 288), (3, 306), (4, 324), (5, 342), (6, 349), (7, 363), (8, 381), (9, 399), (10, 435), (11, 435), (12, 435), (13, 435), (14, 435), (15, 435), (16, 435), (17, 435), (18, 435), (19, 435), (20, 435), (21, 435), (22, 435), (23, 435), (24, 435), (25, 435), (26, 435), (27, 435), (28, 435), (29, 435), (30, 417)] = 324 from by rw [c82]; rfl]
            replace hb := i_pos c82 hb
            refine e_k 1 (f' := (325, [(3, .int v4), (0, .ref 112), (1, .int p2), (2, .int p3)], [.ref 112])) rfl ?_
            refine r_geti rfl (x_ltn rfl) rfl rfl ?_
            refine e_k 1 (f' := (if (I4 112 34) = 0 then 340 else 331, [(3, .int v4), (0, .ref 112), (1, .int p2), (2, .int p3)], [])) rfl ?_
            refine e_if (fun c83 => ?_) (fun c83 => ?_)
            · replace hb := i_pos c83 hb
              refine e_k 1 (f' := (341, [(3, .int v4), (0, .ref 112), (1, .int p2), (2, .int p3)], [.int 0])) rfl ?_
              obtain ⟨rfl, rfl, rfl⟩ := s_inj hb
              exact e_r rfl rfl K
            · replace hb := i_neg c83 hb
              refine e_k 1 (f' := (332, [(3, .int v4), (0, .ref 112), (1, .int p2), (2, .int p3)], [.ref 112])) rfl ?_
              refine r_getr rfl (x_ltn rfl) rfl rfl ?_
              refine e_k 1 (f' := (336, [(3, .int v4), (0, .ref 112), (1, .int p2), (2, .int p3)], [.int p2, .ref 133])) rfl ?_
              obtain ⟨o84, hb⟩ := ob_in hb
              refine r_iald rfl rfl (x_ltn rfl) rfl o84 ?_
              refine e_k 1 (f' := (341, [(3, .int v4), (0, .ref 112), (1, .int p2), (2, .int p3)], [.int (I4 133 (Int32.toNatClampNeg p2))])) rfl ?_
              obtain ⟨rfl, rfl, rfl⟩ := s_inj hb
              exact e_r rfl rfl K
          replace hb := i_neg c82 hb
          by_cases c85 : p3 = 5
          · rw [show am_sw p3 435 [(0, 268), (1, 270), (2, 288), (3, 306), (4, 324), (5, 342), (6, 349), (7, 363), (8, 381), (9, 399), (10, 435), (11, 435), (12, 435), (13, 435), (14, 435), (15, 435), (16, 435), (17, 435), (18, 435), (19, 435), (20, 435), (21, 435), (22, 435), (23, 435), (24, 435), (25, 435), (26, 435), (27, 435), (28, 435), (29, 435), (30, 417)] = 342 from by rw [c85]; rfl]
            replace hb := i_pos c85 hb
            refine e_k 1 (f' := (343, [(3, .int v4), (0, .ref 112), (1, .int p2), (2, .int p3)], [.ref 112])) rfl ?_
            refine r_getr rfl (x_ltn rfl) rfl rfl ?_
            refine e_k 1 (f' := (347, [(3, .int v4), (0, .ref 112), (1, .int p2), (2, .int p3)], [.int p2, .ref 119])) rfl ?_
            obtain ⟨o86, hb⟩ := ob_in hb
            refine r_iald rfl rfl (x_ltn rfl) rfl o86 ?_
            obtain ⟨rfl, rfl, rfl⟩ := s_inj hb
            exact e_r rfl rfl K
          replace hb := i_neg c85 hb
          by_cases c87 : p3 = 6
          · rw [show am_sw p3 435 [(0, 268), (1, 270), (2, 288), (3, 306), (4, 324), (5, 342), (6, 349), (7, 363), (8, 381), (9, 399), (10, 435), (11, 435), (12, 435), (13, 435), (14, 435), (15, 435), (16, 435), (17, 435), (18, 435), (19, 435), (20, 435), (21, 435), (22, 435), (23, 435), (24, 435), (25, 435), (26, 435), (27, 435), (28, 435), (29, 435), (30, 417)] = 349 from by rw [c87]; rfl]
            replace hb := i_pos c87 hb
            refine e_k 1 (f' := (350, [(3, .int v4), (0, .ref 112), (1, .int p2), (2, .int p3)], [.ref 112])) rfl ?_
            refine r_getr rfl (x_ltn rfl) rfl rfl ?_
            refine e_k 1 (f' := (354, [(3, .int v4), (0, .ref 112), (1, .int p2), (2, .int p3)], [.int p2, .ref 125])) rfl ?_
            obtain ⟨o88, hb⟩ := ob_in hb
            refine r_iald rfl rfl (x_ltn rfl) rfl o88 ?_
            refine e_k 1 (f' := (356, [(3, .int v4), (0, .ref 112), (1, .int p2), (2, .int p3)], [.ref 112, .int (I4 125 (Int32.toNatClampNeg p2))])) rfl ?_
            refine r_getr rfl (x_ltn rfl) rfl rfl ?_
            refine e_k 1 (f' := (360, [(3, .int v4), (0, .ref 112), (1, .int p2), (2, .int p3)], [.int p2, .ref 126, .int (I4 125 (Int32.toNatClampNeg p2))])) rfl ?_
            obtain ⟨o89, hb⟩ := ob_in hb
            refine r_iald rfl rfl (x_ltn rfl) rfl o89 ?_
            refine e_k 1 (f' := (362, [(3, .int v4), (0, .ref 112), (1, .int p2), (2, .int p3)], [.int ((I4 125 (Int32.toNatClampNeg p2)) - (I4 126 (Int32.toNatClampNeg p2)))])) rfl ?_
            obtain ⟨rfl, rfl, rfl⟩ := s_inj hb
            exact e_r rfl rfl K
          replace hb := i_neg c87 hb
          by_cases c90 : p3 = 7
          · rw [show am_sw p3 435 [(0, 268), (1, 270), (2, 288), (3, 306), (4, 324), (5, 342), (6, 349), (7, 363), (8, 381), (9, 399), (10, 435), (11, 435), (12, 435), (13, 435), (14, 435), (15, 435), (16, 435), (17, 435), (18, 435), (19, 435), (20, 435), (21, 435), (22, 435), (23, 435), (24, 435), (25, 435), (26, 435), (27, 435), (28, 435), (29, 435), (30, 417)] = 363 from by rw [c90]; rfl]
            replace hb := i_pos c90 hb
            refine e_k 1 (f' := (364, [(3, .int v4), (0, .ref 112), (1, .int p2), (2, .int p3)], [.ref 112])) rfl ?_
            refine r_geti rfl (x_ltn rfl) rfl rfl ?_
            refine e_k 1 (f' := (if (I4 112 34) = 0 then 379 else 370, [(3, .int v4), (0, .ref 112), (1, .int p2), (2, .int p3)], [])) rfl ?_
            refine e_if (fun c91 => ?_) (fun c91 => ?_)
            · replace hb := i_pos c91 hb
              refine e_k 1 (f' := (380, [(3, .int v4), (0, .ref 112), (1, .int p2), (2, .int p3)], [.int 0])) rfl ?_
              obtain ⟨rfl, rfl, rfl⟩ := s_inj hb
              exact e_r rfl rfl K
            · replace hb := i_neg c91 hb
              refine e_k 1 (f' := (371, [(3, .int v4), (0, .ref 112), (1, .int p2), (2, .int p3)], [.ref 112])) rfl ?_
              refine r_getr rfl (x_ltn rfl) rfl rfl ?_
              refine e_k 1 (f' := (375, [(3, .int v4), (0, .ref 112), (1, .int p2), (2, .int p3)], [.int p2, .ref 138])) rfl ?_
              obtain ⟨o92, hb⟩ := ob_in hb
              refine r_iald rfl rfl (x_ltn rfl) rfl o92 ?_
              refine e_k 1 (f' := (380, [(3, .int v4), (0, .ref 112), (1, .int p2), (2, .int p3)], [.int (I4 138 (Int32.toNatClampNeg p2))])) rfl ?_
              obtain ⟨rfl, rfl, rfl⟩ := s_inj hb
              exact e_r rfl rfl K
          replace hb := i_neg c90 hb
          by_cases c93 : p3 = 8
          · rw [show am_sw p3 435 [(0, 268), (1, 270), (2, 288), (3, 306), (4, 324), (5, 342), (6, 349), (7, 363), (8, 381), (9, 399), (10, 435), (11, 435), (12, 435), (13, 435), (14, 435), (15, 435), (16, 435), (17, 435), (18, 435), (19, 435), (20, 435), (21, 435), (22, 435), (23, 435), (24, 435), (25, 435), (26, 435), (27, 435), (28, 435), (29, 435), (30, 417)] = 381 from by rw [c93]; rfl]
            replace hb := i_pos c93 hb
            refine e_k 1 (f' := (382, [(3, .int v4), (0, .ref 112), (1, .int p2), (2, .int p3)], [.ref 112])) rfl ?_
            refine r_geti rfl (x_ltn rfl) rfl rfl ?_
            refine e_k 1 (f' := (if (I4 112 34) = 0 then 397 else 388, [(3, .int v4), (0, .ref 112), (1, .int p2), (2, .int p3)], [])) rfl ?_
            refine e_if (fun c94 => ?_) (fun c94 => ?_)
            · replace hb := i_pos c94 hb
              refine e_k 1 (f' := (398, [(3, .int v4), (0, .ref 112), (1, .int p2), (2, .int p3)], [.int 0])) rfl ?_
              obtain ⟨rfl, rfl, rfl⟩ := s_inj hb
              exact e_r rfl rfl K
            · replace hb := i_neg c94 hb
              refine e_k 1 (f' := (389, [(3, .int v4), (0, .ref 112), (1, .int p2), (2, .int p3)], [.ref 112])) rfl ?_
              refine r_getr rfl (x_ltn rfl) rfl rfl ?_
              refine e_k 1 (f' := (393, [(3, .int v4), (0, .ref 112), (1, .int p2), (2, .int p3)], [.int p2, .ref 134])) rfl ?_
              obtain ⟨o95, hb⟩ := ob_in hb
              refine r_iald rfl rfl (x_ltn rfl) rfl o95 ?_
              refine e_k 1 (f' := (398, [(3, .int v4), (0, .ref 112), (1, .int p2), (2, .int p3)], [.int (I4 134 (Int32.toNatClampNeg p2))])) rfl ?_
              obtain ⟨rfl, rfl, rfl⟩ := s_inj hb
              exact e_r rfl rfl K
          replace hb := i_neg c93 hb
          by_cases c96 : p3 = 9
          · rw [show am_sw p3 435 [(0, 268), (1, 270), (2, 288), (3, 306), (4, 324), (5, 342), (6, 349), (7, 363), (8, 381), (9, 399), (10, 435), (11, 435), (12, 435), (13, 435), (14, 435), (15, 435), (16, 435), (17, 435), (18, 435), (19, 435), (20, 435), (21, 435), (22, 435), (23, 435), (24, 435), (25, 435), (26, 435), (27, 435), (28, 435), (29, 435), (30, 417)] = 399 from by rw [c96]; rfl]
            replace hb := i_pos c96 hb
            refine e_k 1 (f' := (400, [(3, .int v4), (0, .ref 112), (1, .int p2), (2, .int p3)], [.ref 112])) rfl ?_
            refine r_geti rfl (x_ltn rfl) rfl rfl ?_
            refine e_k 1 (f' := (if (I4 112 34) = 0 then 415 else 406, [(3, .int v4), (0, .ref 112), (1, .int p2), (2, .int p3)], [])) rfl ?_
            refine e_if (fun c97 => ?_) (fun c97 => ?_)
            · replace hb := i_pos c97 hb
              refine e_k 1 (f' := (416, [(3, .int v4), (0, .ref 112), (1, .int p2), (2, .int p3)], [.int 0])) rfl ?_
              obtain ⟨rfl, rfl, rfl⟩ := s_inj hb
              exact e_r rfl rfl K
            · replace hb := i_neg c97 hb
              refine e_k 1 (f' := (407, [(3, .int v4), (0, .ref 112), (1, .int p2), (2, .int p3)], [.ref 112])) rfl ?_
              refine r_getr rfl (x_ltn rfl) rfl rfl ?_
              refine e_k 1 (f' := (411, [(3, .int v4), (0, .ref 112), (1, .int p2), (2, .int p3)], [.int p2, .ref 137])) rfl ?_
              obtain ⟨o98, hb⟩ := ob_in hb
              refine r_iald rfl rfl (x_ltn rfl) rfl o98 ?_
              refine e_k 1 (f' := (416, [(3, .int v4), (0, .ref 112), (1, .int p2), (2, .int p3)], [.int (I4 137 (Int32.toNatClampNeg p2))])) rfl ?_
              obtain ⟨rfl, rfl, rfl⟩ := s_inj hb
              exact e_r rfl rfl K
          replace hb := i_neg c96 hb
          by_cases c99 : p3 = 30
          · rw [show am_sw p3 435 [(0, 268), (1, 270), (2, 288), (3, 306), (4, 324), (5, 342), (6, 349), (7, 363), (8, 381), (9, 399), (10, 435), (11, 435), (12, 435), (13, 435), (14, 435), (15, 435), (16, 435), (17, 435), (18, 435), (19, 435), (20, 435), (21, 435), (22, 435), (23, 435), (24, 435), (25, 435), (26, 435), (27, 435), (28, 435), (29, 435), (30, 417)] = 417 from by rw [c99]; rfl]
            replace hb := i_pos c99 hb
            refine e_k 1 (f' := (418, [(3, .int v4), (0, .ref 112), (1, .int p2), (2, .int p3)], [.ref 112])) rfl ?_
            refine r_geti rfl (x_ltn rfl) rfl rfl ?_
            refine e_k 1 (f' := (if (I4 112 34) = 0 then 433 else 424, [(3, .int v4), (0, .ref 112), (1, .int p2), (2, .int p3)], [])) rfl ?_
            refine e_if (fun c100 => ?_) (fun c100 => ?_)
            · replace hb := i_pos c100 hb
              refine e_k 1 (f' := (434, [(3, .int v4), (0, .ref 112), (1, .int p2), (2, .int p3)], [.int 0])) rfl ?_
              obtain ⟨rfl, rfl, rfl⟩ := s_inj hb
              exact e_r rfl rfl K
            · replace hb := i_neg c100 hb
              refine e_k 1 (f' := (425, [(3, .int v4), (0, .ref 112), (1, .int p2), (2, .int p3)], [.ref 112])) rfl ?_
              refine r_getr rfl (x_ltn rfl) rfl rfl ?_
              refine e_k 1 (f' := (429, [(3, .int v4), (0, .ref 112), (1, .int p2), (2, .int p3)], [.int p2, .ref 141])) rfl ?_
              obtain ⟨o101, hb⟩ := ob_in hb
              refine r_iald rfl rfl (x_ltn rfl) rfl o101 ?_
              refine e_k 1 (f' := (434, [(3, .int v4), (0, .ref 112), (1, .int p2), (2, .int p3)], [.int (I4 141 (Int32.toNatClampNeg p2))])) rfl ?_
              obtain ⟨rfl, rfl, rfl⟩ := s_inj hb
              exact e_r rfl rfl K
          replace hb := i_neg c99 hb
          rw [show am_sw p3 435 [(0, 268), (1, 270), (2, 288), (3, 306), (4, 324), (5, 342), (6, 349), (7, 363), (8, 381), (9, 399), (10, 435), (11, 435), (12, 435), (13, 435), (14, 435), (15, 435), (16, 435), (17, 435), (18, 435), (19, 435), (20, 435), (21, 435), (22, 435), (23, 435), (24, 435), (25, 435), (26, 435), (27, 435), (28, 435), (29, 435), (30, 417)] = 435 from (am_swd c72 (am_swd c73 (am_swd c76 (am_swd c79 (am_swd c82 (am_swd c85 (am_swd c87 (am_swd c90 (am_swd c93 (am_swd c96 (am_swe (am_swe (am_swe (am_swe (am_swe (am_swe (am_swe (am_swe (am_swe (am_swe (am_swe (am_swe (am_swe (am_swe (am_swe (am_swe (am_swe (am_swe (am_swe (am_swe (am_swd c99 rfl)))))))))))))))))))))))))))))))]
          refine e_k 1 (f' := (436, [(3, .int v4), (0, .ref 112), (1, .int p2), (2, .int p3)], [.int (-1)])) rfl ?_
          obtain ⟨rfl, rfl, rfl⟩ := s_inj hb
          exact e_r rfl rfl K
        · replace hb := i_neg c71 hb
          refine e_k 3 (f' := (95, [(3, .int v4), (0, .ref 112), (1, .int p2), (2, .int p3)], [.ref 112, .int 20, .int p3])) rfl ?_
          refine r_geti rfl (x_ltn rfl) rfl rfl ?_
          refine e_k 2 (f' := (if (20 + (I4 112 16)) ≤ p3 then 127 else 102, [(3, .int v4), (0, .ref 112), (1, .int p2), (2, .int p3)], [])) rfl ?_
          refine e_if (fun c102 => ?_) (fun c102 => ?_)
          · replace hb := i_pos c102 hb
            refine e_k 2 (f' := (am_sw p3 435 [(0, 268), (1, 270), (2, 288), (3, 306), (4, 324), (5, 342), (6, 349), (7, 363), (8, 381), (9, 399), (10, 435), (11, 435), (12, 435), (13, 435), (14, 435), (15, 435), (16, 435), (17, 435), (18, 435), (19, 435), (20, 435), (21, 435), (22, 435), (23, 435), (24, 435), (25, 435), (26, 435), (27, 435), (28, 435), (29, 435), (30, 417)], [(3, .int v4), (0, .ref 112), (1, .int p2), (2, .int p3)], [])) rfl ?_
            by_cases c103 : p3 = 0
            · rw [show am_sw p3 435 [(0, 268), (1, 270), (2, 288), (3, 306), (4, 324), (5, 342), (6, 349), (7, 363), (8, 381), (9, 399), (10, 435), (11, 435), (12, 435), (13, 435), (14, 435), (15, 435), (16, 435), (17, 435), (18, 435), (19, 435), (20, 435), (21, 435), (22, 435), (23, 435), (24, 435), (25, 435), (26, 435), (27, 435), (28, 435), (29, 435), (30, 417)] = 268 from by rw [c103]; rfl]
              replace hb := i_pos c103 hb
              refine e_k 1 (f' := (269, [(3, .int v4), (0, .ref 112), (1, .int p2), (2, .int p3)], [.int v4])) rfl ?_
              obtain ⟨rfl, rfl, rfl⟩ := s_inj hb
              exact e_r rfl rfl K
            replace hb := i_neg c103 hb
            by_cases c104 : p3 = 1
            · rw [show am_sw p3 435 [(0, 268), (1, 270), (2, 288), (3, 306), (4, 324), (5, 342), (6, 349), (7, 363), (8, 381), (9, 399), (10, 435), (11, 435), (12, 435), (13, 435), (14, 435), (15, 435), (16, 435), (17, 435), (18, 435), (19, 435), (20, 435), (21, 435), (22, 435), (23, 435), (24, 435), (25, 435), (26, 435), (27, 435), (28, 435), (29, 435), (30, 417)] = 270 from by rw [c104]; rfl]
              replace hb := i_pos c104 hb
              refine e_k 1 (f' := (271, [(3, .int v4), (0, .ref 112), (1, .int p2), (2, .int p3)], [.ref 112])) rfl ?_
              refine r_geti rfl (x_ltn rfl) rfl rfl ?_
              refine e_k 1 (f' := (if (I4 112 34) = 0 then 286 else 277, [(3, .int v4), (0, .ref 112), (1, .int p2), (2, .int p3)], [])) rfl ?_
              refine e_if (fun c105 => ?_) (fun c105 => ?_)
              · replace hb := i_pos c105 hb
                refine e_k 1 (f' := (287, [(3, .int v4), (0, .ref 112), (1, .int p2), (2, .int p3)], [.int 0])) rfl ?_
                obtain ⟨rfl, rfl, rfl⟩ := s_inj hb
                exact e_r rfl rfl K
              · replace hb := i_neg c105 hb
                refine e_k 1 (f' := (278, [(3, .int v4), (0, .ref 112), (1, .int p2), (2, .int p3)], [.ref 112])) rfl ?_
                refine r_getr rfl (x_ltn rfl) rfl rfl ?_
                refine e_k 1 (f' := (282, [(3, .int v4), (0, .ref 112), (1, .int p2), (2, .int p3)], [.int p2, .ref 129])) rfl ?_
                obtain ⟨o106, hb⟩ := ob_in hb
                refine r_iald rfl rfl (x_ltn rfl) rfl o106 ?_
                refine e_k 1 (f' := (287, [(3, .int v4), (0, .ref 112), (1, .int p2), (2, .int p3)], [.int (I4 129 (Int32.toNatClampNeg p2))])) rfl ?_
                obtain ⟨rfl, rfl, rfl⟩ := s_inj hb
                exact e_r rfl rfl K
            replace hb := i_neg c104 hb
            by_cases c107 : p3 = 2
            · rw [show am_sw p3 435 [(0, 268), (1, 270), (2, 288), (3, 306), (4, 324), (5, 342), (6, 349), (7, 363), (8, 381), (9, 399), (10, 435), (11, 435), (12, 435), (13, 435), (14, 435), (15, 435), (16, 435), (17, 435), (18, 435), (19, 435), (20, 435), (21, 435), (22, 435), (23, 435), (24, 435), (25, 435), (26, 435), (27, 435), (28, 435), (29, 435), (30, 417)] = 288 from by rw [c107]; rfl]
              replace hb := i_pos c107 hb
              refine e_k 1 (f' := (289, [(3, .int v4), (0, .ref 112), (1, .int p2), (2, .int p3)], [.ref 112])) rfl ?_
              refine r_geti rfl (x_ltn rfl) rfl rfl ?_
              refine e_k 1 (f' := (if (I4 112 34) = 0 then 304 else 295, [(3, .int v4), (0, .ref 112), (1, .int p2), (2, .int p3)], [])) rfl ?_
              refine e_if (fun c108 => ?_) (fun c108 => ?_)
              · replace hb := i_pos c108 hb
                refine e_k 1 (f' := (305, [(3, .int v4), (0, .ref 112), (1, .int p2), (2, .int p3)], [.int 0])) rfl ?_
                obtain ⟨rfl, rfl, rfl⟩ := s_inj hb
                exact e_r rfl rfl K
              · replace hb := i_neg c108 hb
                refine e_k 1 (f' := (296, [(3, .int v4), (0, .ref 112), (1, .int p2), (2, .int p3)], [.ref 112])) rfl ?_
                refine r_getr rfl (x_ltn rfl) rfl rfl ?_
                refine e_k 1 (f' := (300, [(3, .int v4), (0, .ref 112), (1, .int p2), (2, .int p3)], [.int p2, .ref 130])) rfl ?_
                obtain ⟨o109, hb⟩ := ob_in hb
                refine r_iald rfl rfl (x_ltn rfl) rfl o109 ?_
                refine e_k 1 (f' := (305, [(3, .int v4), (0, .ref 112), (1, .int p2), (2, .int p3)], [.int (I4 130 (Int32.toNatClampNeg p2))])) rfl ?_
                obtain ⟨rfl, rfl, rfl⟩ := s_inj hb
                exact e_r rfl rfl K
            replace hb := i_neg c107 hb
            by_cases c110 : p3 = 3
            · rw [show am_sw p3 435 [(0, 268), (1, 270), (2, 288), (3, 306), (4, 324), (5, 342), (6, 349), (7, 363), (8, 381), (9, 399), (10, 435), (11, 435), (12, 435), (13, 435), (14, 435), (15, 435), (16, 435), (17, 435), (18, 435), (19, 435), (20, 435), (21, 435), (22, 435), (23, 435), (24, 435), (25, 435), (26, 435), (27, 435), (28, 435), (29, 435), (30, 417)] = 306 from by rw [c110]; rfl]
              replace hb := i_pos c110 hb
              refine e_k 1 (f' := (307, [(3, .int v4), (0, .ref 112), (1, .int p2), (2, .int p3)], [.ref 112])) rfl ?_
              refine r_geti rfl (x_ltn rfl) rfl rfl ?_
              refine e_k 1 (f' := (if (I4 112 34) = 0 then 322 else 313, [(3, .int v4), (0, .ref 112), (1, .int p2), (2, .int p3)], [])) rfl ?_
              refine e_if (fun c111 => ?_) (fun c111 => ?_)
              · replace hb := i_pos c111 hb
                refine e_k 1 (f' := (323, [(3, .int v4), (0, .ref 112), (1, .int p2), (2, .int p3)], [.int 0])) rfl ?_
                obtain ⟨rfl, rfl, rfl⟩ := s_inj hb
                exact e_r rfl rfl K
              · replace hb := i_neg c111 hb
                refine e_k 1 (f' := (314, [(3, .int v4), (0, .ref 112), (1, .int p2), (2, .int p3)], [.ref 112])) rfl ?_
                refine r_getr rfl (x_ltn rfl) rfl rfl ?_
                refine e_k 1 (f' := (318, [(3, .int v4), (0, .ref 112), (1, .int p2), (2, .int p3)], [.int p2, .ref 132])) rfl ?_
                obtain ⟨o112, hb⟩ := ob_in hb
                refine r_iald rfl rfl (x_ltn rfl) rfl o112 ?_
                refine e_k 1 (f' := (323, [(3, .int v4), (0, .ref 112), (1, .int p2), (2, .int p3)], [.int (I4 132 (Int32.toNatClampNeg p2))])) rfl ?_
                obtain ⟨rfl, rfl, rfl⟩ := s_inj hb
                exact e_r rfl rfl K
            replace hb := i_neg c110 hb
            by_cases c113 : p3 = 4
            · rw [show am_sw p3 435 [(0, 268), (1, 270), (2, 288), (3, 306), (4, 324), (5, 342), (6, 349), (7, 363), (8, 381), (9, 399), (10, 435), (11, 435), (12, 435), (13, 435), (14, 435), (15, 435), (16, 435), (17, 435), (18, 435), (19, 435), (20, 435), (21, 435), (22, 435), (23, 435), (24, 435), (25, 435), (26, 435), (27, 435), (28, 435), (29, 435), (30, 417)] = 324 from by rw [c113]; rfl]
              replace hb := i_pos c113 hb
              refine e_k 1 (f' := (325, [(3, .int v4), (0, .ref 112), (1, .int p2), (2, .int p3)], [.ref 112])) rfl ?_
              refine r_geti rfl (x_ltn rfl) rfl rfl ?_
              refine e_k 1 (f' := (if (I4 112 34) = 0 then 340 else 331, [(3, .int v4), (0, .ref 112), (1, .int p2), (2, .int p3)], [])) rfl ?_
              refine e_if (fun c114 => ?_) (fun c114 => ?_)
              · replace hb := i_pos c114 hb
                refine e_k 1 (f' := (341, [(3, .int v4), (0, .ref 112), (1, .int p2), (2, .int p3)], [.int 0])) rfl ?_
                obtain ⟨rfl, rfl, rfl⟩ := s_inj hb
                exact e_r rfl rfl K
              · replace hb := i_neg c114 hb
                refine e_k 1 (f' := (332, [(3, .int v4), (0, .ref 112), (1, .int p2), (2, .int p3)], [.ref 112])) rfl ?_
                refine r_getr rfl (x_ltn rfl) rfl rfl ?_
                refine e_k 1 (f' := (336, [(3, .int v4), (0, .ref 112), (1, .int p2), (2, .int p3)], [.int p2, .ref 133])) rfl ?_
                obtain ⟨o115, hb⟩ := ob_in hb
                refine r_iald rfl rfl (x_ltn rfl) rfl o115 ?_
                refine e_k 1 (f' := (341, [(3, .int v4), (0, .ref 112), (1, .int p2), (2, .int p3)], [.int (I4 133 (Int32.toNatClampNeg p2))])) rfl ?_
                obtain ⟨rfl, rfl, rfl⟩ := s_inj hb
                exact e_r rfl rfl K
            replace hb := i_neg c113 hb
            by_cases c116 : p3 = 5
            · rw [show am_sw p3 435 [(0, 268), (1, 270), (2, 288), (3, 306), (4, 324), (5, 342), (6, 349), (7, 363), (8, 381), (9, 399), (10, 435), (11, 435), (12, 435), (13, 435), (14, 435), (15, 435), (16, 435), (17, 435), (18, 435), (19, 435), (20, 435), (21, 435), (22, 435), (23, 435), (24, 435), (25, 435), (26, 435), (27, 435), (28, 435), (29, 435), (30, 417)] = 342 from by rw [c116]; rfl]
              replace hb := i_pos c116 hb
              refine e_k 1 (f' := (343, [(3, .int v4), (0, .ref 112), (1, .int p2), (2, .int p3)], [.ref 112])) rfl ?_
              refine r_getr rfl (x_ltn rfl) rfl rfl ?_
              refine e_k 1 (f' := (347, [(3, .int v4), (0, .ref 112), (1, .int p2), (2, .int p3)], [.int p2, .ref 119])) rfl ?_
              obtain ⟨o117, hb⟩ := ob_in hb
              refine r_iald rfl rfl (x_ltn rfl) rfl o117 ?_
              obtain ⟨rfl, rfl, rfl⟩ := s_inj hb
              exact e_r rfl rfl K
            replace hb := i_neg c116 hb
            by_cases c118 : p3 = 6
            · rw [show am_sw p3 435 [(0, 268), (1, 270), (2, 288), (3, 306), (4, 324), (5, 342), (6, 349), (7, 363), (8, 381), (9, 399), (10, 435), (11, 435), (12, 435), (13, 435), (14, 435), (15, 435), (16, 435), (17, 435), (18, 435), (19, 435), (20, 435), (21, 435), (22, 435), (23, 435), (24, 435), (25, 435), (26, 435), (27, 435), (28, 435), (29, 435), (30, 417)] = 349 from by rw [c118]; rfl]
              replace hb := i_pos c118 hb
              refine e_k 1 (f' := (350, [(3, .int v4), (0, .ref 112), (1, .int p2), (2, .int p3)], [.ref 112])) rfl ?_
              refine r_getr rfl (x_ltn rfl) rfl rfl ?_
              refine e_k 1 (f' := (354, [(3, .int v4), (0, .ref 112), (1, .int p2), (2, .int p3)], [.int p2, .ref 125])) rfl ?_
              obtain ⟨o119, hb⟩ := ob_in hb
              refine r_iald rfl rfl (x_ltn rfl) rfl o119 ?_
              refine e_k 1 (f' := (356, [(3, .int v4), (0, .ref 112), (1, .int p2), (2, .int p3)], [.ref 112, .int (I4 125 (Int32.toNatClampNeg p2))])) rfl ?_
              refine r_getr rfl (x_ltn rfl) rfl rfl ?_
              refine e_k 1 (f' := (360, [(3, .int v4), (0, .ref 112), (1, .int p2), (2, .int p3)], [.int p2, .ref 126, .int (I4 125 (Int32.toNatClampNeg p2))])) rfl ?_
              obtain ⟨o120, hb⟩ := ob_in hb
              refine r_iald rfl rfl (x_ltn rfl) rfl o120 ?_
              refine e_k 1 (f' := (362, [(3, .int v4), (0, .ref 112), (1, .int p2), (2, .int p3)], [.int ((I4 125 (Int32.toNatClampNeg p2)) - (I4 126 (Int32.toNatClampNeg p2)))])) rfl ?_
              obtain ⟨rfl, rfl, rfl⟩ := s_inj hb
              exact e_r rfl rfl K
            replace hb := i_neg c118 hb
            by_cases c121 : p3 = 7
            · rw [show am_sw p3 435 [(0, 268), (1, 270), (2, 288), (3, 306), (4, 324), (5, 342), (6, 349), (7, 363), (8, 381), (9, 399), (10, 435), (11, 435), (12, 435), (13, 435), (14, 435), (15, 435), (16, 435), (17, 435), (18, 435), (19, 435), (20, 435), (21, 435), (22, 435), (23, 435), (24, 435), (25, 435), (26, 435), (27, 435), (28, 435), (29, 435), (30, 417)] = 363 from by rw [c121]; rfl]
              replace hb := i_pos c121 hb
              refine e_k 1 (f' := (364, [(3, .int v4), (0, .ref 112), (1, .int p2), (2, .int p3)], [.ref 112])) rfl ?_
              refine r_geti rfl (x_ltn rfl) rfl rfl ?_
              refine e_k 1 (f' := (if (I4 112 34) = 0 then 379 else 370, [(3, .int v4), (0, .ref 112), (1, .int p2), (2, .int p3)], [])) rfl ?_
              refine e_if (fun c122 => ?_) (fun c122 => ?_)
              · replace hb := i_pos c122 hb
                refine e_k 1 (f' := (380, [(3, .int v4), (0, .ref 112), (1, .int p2), (2, .int p3)], [.int 0])) rfl ?_
                obtain ⟨rfl, rfl, rfl⟩ := s_inj hb
                exact e_r rfl rfl K
              · replace hb := i_neg c122 hb
                refine e_k 1 (f' := (371, [(3, .int v4), (0, .ref 112), (1, .int p2), (2, .int p3)], [.ref 112])) rfl ?_
                refine r_getr rfl (x_ltn rfl) rfl rfl ?_
                refine e_k 1 (f' := (375, [(3, .int v4), (0, .ref 112), (1, .int p2), (2, .int p3)], [.int p2, .ref 138])) rfl ?_
                obtain ⟨o123, hb⟩ := ob_in hb
                refine r_iald rfl rfl (x_ltn rfl) rfl o123 ?_
                refine e_k 1 (f' := (380, [(3, .int v4), (0, .ref 112), (1, .int p2), (2, .int p3)], [.int (I4 138 (Int32.toNatClampNeg p2))])) rfl ?_
                obtain ⟨rfl, rfl, rfl⟩ := s_inj hb
                exact e_r rfl rfl K
            replace hb := i_neg c121 hb
            by_cases c124 : p3 = 8
            · rw [show am_sw p3 435 [(0, 268), (1, 270), (2, 288), (3, 306), (4, 324), (5, 342), (6, 349), (7, 363), (8, 381), (9, 399), (10, 435), (11, 435), (12, 435), (13, 435), (14, 435), (15, 435), (16, 435), (17, 435), (18, 435), (19, 435), (20, 435), (21, 435), (22, 435), (23, 435), (24, 435), (25, 435), (26, 435), (27, 435), (28, 435), (29, 435), (30, 417)] = 381 from by rw [c124]; rfl]
              replace hb := i_pos c124 hb
              refine e_k 1 (f' := (382, [(3, .int v4), (0, .ref 112), (1, .int p2), (2, .int p3)], [.ref 112])) rfl ?_
              refine r_geti rfl (x_ltn rfl) rfl rfl ?_
              refine e_k 1 (f' := (if (I4 112 34) = 0 then 397 else 388, [(3, .int v4), (0, .ref 112), (1, .int p2), (2, .int p3)], [])) rfl ?_
              refine e_if (fun c125 => ?_) (fun c125 => ?_)
              · replace hb := i_pos c125 hb
                refine e_k 1 (f' := (398, [(3, .int v4), (0, .ref 112), (1, .int p2), (2, .int p3)], [.int 0])) rfl ?_
                obtain ⟨rfl, rfl, rfl⟩ := s_inj hb
                exact e_r rfl rfl K
              · replace hb := i_neg c125 hb
                refine e_k 1 (f' := (389, [(3, .int v4), (0, .ref 112), (1, .int p2), (2, .int p3)], [.ref 112])) rfl ?_
                refine r_getr rfl (x_ltn rfl) rfl rfl ?_
                refine e_k 1 (f' := (393, [(3, .int v4), (0, .ref 112), (1, .int p2), (2, .int p3)], [.int p2, .ref 134])) rfl ?_
                obtain ⟨o126, hb⟩ := ob_in hb
                refine r_iald rfl rfl (x_ltn rfl) rfl o126 ?_
                refine e_k 1 (f' := (398, [(3, .int v4), (0, .ref 112), (1, .int p2), (2, .int p3)], [.int (I4 134 (Int32.toNatClampNeg p2))])) rfl ?_
                obtain ⟨rfl, rfl, rfl⟩ := s_inj hb
                exact e_r rfl rfl K
            replace hb := i_neg c124 hb
            by_cases c127 : p3 = 9
            · rw [show am_sw p3 435 [(0, 268), (1, 270), (2, 288), (3, 306), (4, 324), (5, 342), (6, 349), (7, 363), (8, 381), (9, 399), (10, 435), (11, 435), (12, 435), (13, 435), (14, 435), (15, 435), (16, 435), (17, 435), (18, 435), (19, 435), (20, 435), (21, 435), (22, 435), (23, 435), (24, 435), (25, 435), (26, 435), (27, 435), (28, 435), (29, 435), (30, 417)] = 399 from by rw [c127]; rfl]
              replace hb := i_pos c127 hb
              refine e_k 1 (f' := (400, [(3, .int v4), (0, .ref 112), (1, .int p2), (2, .int p3)], [.ref 112])) rfl ?_
              refine r_geti rfl (x_ltn rfl) rfl rfl ?_
              refine e_k 1 (f' := (if (I4 112 34) = 0 then 415 else 406, [(3, .int v4), (0, .ref 112), (1, .int p2), (2, .int p3)], [])) rfl ?_
              refine e_if (fun c128 => ?_) (fun c128 => ?_)
              · replace hb := i_pos c128 hb
                refine e_k 1 (f' := (416, [(3, .int v4), (0, .ref 112), (1, .int p2), (2, .int p3)], [.int 0])) rfl ?_
                obtain ⟨rfl, rfl, rfl⟩ := s_inj hb
                exact e_r rfl rfl K
              · replace hb := i_neg c128 hb
                refine e_k 1 (f' := (407, [(3, .int v4), (0, .ref 112), (1, .int p2), (2, .int p3)], [.ref 112])) rfl ?_
                refine r_getr rfl (x_ltn rfl) rfl rfl ?_
                refine e_k 1 (f' := (411, [(3, .int v4), (0, .ref 112), (1, .int p2), (2, .int p3)], [.int p2, .ref 137])) rfl ?_
                obtain ⟨o129, hb⟩ := ob_in hb
                refine r_iald rfl rfl (x_ltn rfl) rfl o129 ?_
                refine e_k 1 (f' := (416, [(3, .int v4), (0, .ref 112), (1, .int p2), (2, .int p3)], [.int (I4 137 (Int32.toNatClampNeg p2))])) rfl ?_
                obtain ⟨rfl, rfl, rfl⟩ := s_inj hb
                exact e_r rfl rfl K
            replace hb := i_neg c127 hb
            by_cases c130 : p3 = 30
            · rw [show am_sw p3 435 [(0, 268), (1, 270), (2, 288), (3, 306), (4, 324), (5, 342), (6, 349), (7, 363), (8, 381), (9, 399), (10, 435), (11, 435), (12, 435), (13, 435), (14, 435), (15, 435), (16, 435), (17, 435), (18, 435), (19, 435), (20, 435), (21, 435), (22, 435), (23, 435), (24, 435), (25, 435), (26, 435), (27, 435), (28, 435), (29, 435), (30, 417)] = 417 from by rw [c130]; rfl]
              replace hb := i_pos c130 hb
              refine e_k 1 (f' := (418, [(3, .int v4), (0, .ref 112), (1, .int p2), (2, .int p3)], [.ref 112])) rfl ?_
              refine r_geti rfl (x_ltn rfl) rfl rfl ?_
              refine e_k 1 (f' := (if (I4 112 34) = 0 then 433 else 424, [(3, .int v4), (0, .ref 112), (1, .int p2), (2, .int p3)], [])) rfl ?_
              refine e_if (fun c131 => ?_) (fun c131 => ?_)
              · replace hb := i_pos c131 hb
                refine e_k 1 (f' := (434, [(3, .int v4), (0, .ref 112), (1, .int p2), (2, .int p3)], [.int 0])) rfl ?_
                obtain ⟨rfl, rfl, rfl⟩ := s_inj hb
                exact e_r rfl rfl K
              · replace hb := i_neg c131 hb
                refine e_k 1 (f' := (425, [(3, .int v4), (0, .ref 112), (1, .int p2), (2, .int p3)], [.ref 112])) rfl ?_
                refine r_getr rfl (x_ltn rfl) rfl rfl ?_
                refine e_k 1 (f' := (429, [(3, .int v4), (0, .ref 112), (1, .int p2), (2, .int p3)], [.int p2, .ref 141])) rfl ?_
                obtain ⟨o132, hb⟩ := ob_in hb
                refine r_iald rfl rfl (x_ltn rfl) rfl o132 ?_
                refine e_k 1 (f' := (434, [(3, .int v4), (0, .ref 112), (1, .int p2), (2, .int p3)], [.int (I4 141 (Int32.toNatClampNeg p2))])) rfl ?_
                obtain ⟨rfl, rfl, rfl⟩ := s_inj hb
                exact e_r rfl rfl K
            replace hb := i_neg c130 hb
            rw [show am_sw p3 435 [(0, 268), (1, 270), (2, 288), (3, 306), (4, 324), (5, 342), (6, 349), (7, 363), (8, 381), (9, 399), (10, 435), (11, 435), (12, 435), (13, 435), (14, 435), (15, 435), (16, 435), (17, 435), (18, 435), (19, 435), (20, 435), (21, 435), (22, 435), (23, 435), (24, 435), (25, 435), (26, 435), (27, 435), (28, 435), (29, 435), (30, 417)] = 435 from (am_swd c103 (am_swd c104 (am_swd c107 (am_swd c110 (am_swd c113 (am_swd c116 (am_swd c118 (am_swd c121 (am_swd c124 (am_swd c127 (am_swe (am_swe (am_swe (am_swe (am_swe (am_swe (am_swe (am_swe (am_swe (am_swe (am_swe (am_swe (am_swe (am_swe (am_swe (am_swe (am_swe (am_swe (am_swe (am_swe (am_swd c130 rfl)))))))))))))))))))))))))))))))]
            refine e_k 1 (f' := (436, [(3, .int v4), (0, .ref 112), (1, .int p2), (2, .int p3)], [.int (-1)])) rfl ?_
            obtain ⟨rfl, rfl, rfl⟩ := s_inj hb
            exact e_r rfl rfl K
          · replace hb := i_neg c102 hb
            refine e_k 1 (f' := (103, [(3, .int v4), (0, .ref 112), (1, .int p2), (2, .int p3)], [.ref 112])) rfl ?_
            refine r_geti rfl (x_ltn rfl) rfl rfl ?_
            refine e_k 1 (f' := (if (I4 112 34) = 0 then 125 else 109, [(3, .int v4), (0, .ref 112), (1, .int p2), (2, .int p3)], [])) rfl ?_
            refine e_if (fun c133 => ?_) (fun c133 => ?_)
            · replace hb := i_pos c133 hb
              refine e_k 1 (f' := (126, [(3, .int v4), (0, .ref 112), (1, .int p2), (2, .int p3)], [.int 0])) rfl ?_
              obtain ⟨rfl, rfl, rfl⟩ := s_inj hb
              exact e_r rfl rfl K
            · replace hb := i_neg c133 hb
              refine e_k 1 (f' := (110, [(3, .int v4), (0, .ref 112), (1, .int p2), (2, .int p3)], [.ref 112])) rfl ?_
              refine r_getr rfl (x_ltn rfl) rfl rfl ?_
              refine e_k 7 (f' := (121, [(3, .int v4), (0, .ref 112), (1, .int p2), (2, .int p3)], [.int ((4 * (p3 - 20)) + p2), .ref 150])) rfl ?_
              obtain ⟨o134, hb⟩ := ob_in hb
              refine r_iald rfl rfl (x_ltn rfl) rfl o134 ?_
              refine e_k 1 (f' := (126, [(3, .int v4), (0, .ref 112), (1, .int p2), (2, .int p3)], [.int (I4 150 (Int32.toNatClampNeg ((4 * (p3 - 20)) + p2)))])) rfl ?_
              obtain ⟨rfl, rfl, rfl⟩ := s_inj hb
              exact e_r rfl rfl K
      · replace hb := i_neg c70 hb
        refine e_k 1 (f' := (39, [(3, .int v4), (0, .ref 112), (1, .int p2), (2, .int p3)], [.ref 112])) rfl ?_
        refine r_geti rfl (x_ltn rfl) rfl rfl ?_
        refine e_k 1 (f' := (if (I4 112 34) = 0 then 83 else 45, [(3, .int v4), (0, .ref 112), (1, .int p2), (2, .int p3)], [])) rfl ?_
        refine e_if (fun c135 => ?_) (fun c135 => ?_)
        · replace hb := i_pos c135 hb
          refine e_k 1 (f' := (84, [(3, .int v4), (0, .ref 112), (1, .int p2), (2, .int p3)], [.int 0])) rfl ?_
          obtain ⟨rfl, rfl, rfl⟩ := s_inj hb
          exact e_r rfl rfl K
        · replace hb := i_neg c135 hb
          refine e_k 1 (f' := (46, [(3, .int v4), (0, .ref 112), (1, .int p2), (2, .int p3)], [.ref 112])) rfl ?_
          refine r_getr rfl (x_ltn rfl) rfl rfl ?_
          refine e_k 7 (f' := (57, [(3, .int v4), (0, .ref 112), (1, .int p2), (2, .int p3)], [.int (((4 * p2) + p3) - 10), .ref 148])) rfl ?_
          obtain ⟨o136, hb⟩ := ob_in hb
          refine r_iald rfl rfl (x_ltn rfl) rfl o136 ?_
          refine e_k 1 (f' := (59, [(3, .int v4), (0, .ref 112), (1, .int p2), (2, .int p3)], [.ref 112, .int (I4 148 (Int32.toNatClampNeg (((4 * p2) + p3) - 10)))])) rfl ?_
          refine r_getr rfl (x_ltn rfl) rfl rfl ?_
          refine e_k 7 (f' := (70, [(3, .int v4), (0, .ref 112), (1, .int p2), (2, .int p3)], [.int (((4 * p2) + p3) - 10), .ref 149, .int (I4 148 (Int32.toNatClampNeg (((4 * p2) + p3) - 10)))])) rfl ?_
          obtain ⟨o137, hb⟩ := ob_in hb
          refine r_zald rfl rfl (x_ltn rfl) rfl o137 ?_
          refine e_k 1 (f' := (if (I4 149 (Int32.toNatClampNeg (((4 * p2) + p3) - 10))) = 0 then 78 else 74, [(3, .int v4), (0, .ref 112), (1, .int p2), (2, .int p3)], [.int (I4 148 (Int32.toNatClampNeg (((4 * p2) + p3) - 10)))])) rfl ?_
          obtain ⟨v139, h139, hb⟩ := p_nn hb
          have Kj139 : am_E (gG L xs) (d + 3) m_Model_party (79, [], [.int v139, .int (I4 148 (Int32.toNatClampNeg (((4 * p2) + p3) - 10)))]) (hX X I4 J4) P := by
            refine e_k 2 (f' := (84, [], [.int ((I4 148 (Int32.toNatClampNeg (((4 * p2) + p3) - 10))) + v139)])) rfl ?_
            obtain ⟨rfl, rfl, rfl⟩ := s_inj hb
            exact e_r rfl rfl K
          clear hb
          refine e_if (fun c140 => ?_) (fun c140 => ?_)
          · replace h139 := i_pos c140 h139
            refine e_k 1 (f' := (79, [(3, .int v4), (0, .ref 112), (1, .int p2), (2, .int p3)], [.int 0, .int (I4 148 (Int32.toNatClampNeg (((4 * p2) + p3) - 10)))])) rfl ?_
            refine e_sub (ls := []) rfl ⟨⟩ ?_
            subst h139
            exact Kj139
          · replace h139 := i_neg c140 h139
            refine e_k 2 (f' := (79, [(3, .int v4), (0, .ref 112), (1, .int p2), (2, .int p3)], [.int 1, .int (I4 148 (Int32.toNatClampNeg (((4 * p2) + p3) - 10)))])) rfl ?_
            refine e_sub (ls := []) rfl ⟨⟩ ?_
            subst h139
            exact Kj139
  · replace hb := i_neg c3 hb
    refine e_k 1 (f' := (14, [(0, .ref 112), (1, .int p2), (2, .int p3)], [.int (-1)])) rfl ?_
    obtain ⟨rfl, rfl, rfl⟩ := s_inj hb
    exact e_r rfl rfl K
end AUTO
