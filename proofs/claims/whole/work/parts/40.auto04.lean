section AUTO
variable {L : Nat} {xs : Nat → Int32} {d : Nat} {P : am_R → am_H → Prop}
theorem E_Model_goalOf {a1 : Nat} {m1 : Nat} {p2 : Int32} {X : MX} {I : MI} {J : MJ} {v : Int32} {I' : MI} {J' : MJ} (hA_a1 : isArr X 0 a1 m1) (hb : f_Model_goalOf a1 m1 p2 I J = some (v, I', J')) (K : P (.inl (some (.int v))) (hX X I' J')) : am_E (gG L xs) d m_Model_goalOf (0, lv_args 0 [.ref a1, .int p2], []) (hX X I J) P := by
  unfold f_Model_goalOf at hb
  refine e_k 2 (f' := (2, [(0, .ref a1), (1, .int p2)], [.int p2, .ref a1])) rfl ?_
  obtain ⟨o1, hb⟩ := ob_in hb
  refine r_iald rfl hA_a1.2.1 hA_a1.1 hA_a1.2.2 o1 ?_
  refine e_k 2 (f' := (if ¬ (I a1 (Int32.toNatClampNeg p2)) = 17 then 26 else 8, [(0, .ref a1), (1, .int p2)], [])) rfl ?_
  refine e_if (fun c2 => ?_) (fun c2 => ?_)
  · replace hb := i_pos c2 hb
    refine e_k 5 (f' := (33, [(0, .ref a1), (1, .int p2)], [.int (p2 + 1), .ref a1, .int 256])) rfl ?_
    obtain ⟨o3, hb⟩ := ob_in hb
    refine r_iald rfl hA_a1.2.1 hA_a1.1 hA_a1.2.2 o3 ?_
    refine e_k 5 (f' := (39, [(0, .ref a1), (1, .int p2)], [.int (p2 + 2), .ref a1, .int (256 * (I a1 (Int32.toNatClampNeg (p2 + 1))))])) rfl ?_
    obtain ⟨o4, hb⟩ := ob_in hb
    refine r_iald rfl hA_a1.2.1 hA_a1.1 hA_a1.2.2 o4 ?_
    refine e_k 1 (f' := (41, [(0, .ref a1), (1, .int p2)], [.int ((256 * (I a1 (Int32.toNatClampNeg (p2 + 1)))) + (I a1 (Int32.toNatClampNeg (p2 + 2))))])) rfl ?_
    obtain ⟨rfl, rfl, rfl⟩ := s_inj hb
    exact e_r rfl rfl K
  · replace hb := i_neg c2 hb
    refine e_k 5 (f' := (15, [(0, .ref a1), (1, .int p2)], [.int (p2 + 2), .ref a1, .int 256])) rfl ?_
    obtain ⟨o5, hb⟩ := ob_in hb
    refine r_iald rfl hA_a1.2.1 hA_a1.1 hA_a1.2.2 o5 ?_
    refine e_k 5 (f' := (21, [(0, .ref a1), (1, .int p2)], [.int (p2 + 3), .ref a1, .int (256 * (I a1 (Int32.toNatClampNeg (p2 + 2))))])) rfl ?_
    obtain ⟨o6, hb⟩ := ob_in hb
    refine r_iald rfl hA_a1.2.1 hA_a1.1 hA_a1.2.2 o6 ?_
    refine e_k 2 (f' := (41, [(0, .ref a1), (1, .int p2)], [.int ((256 * (I a1 (Int32.toNatClampNeg (p2 + 2)))) + (I a1 (Int32.toNatClampNeg (p2 + 3))))])) rfl ?_
    obtain ⟨rfl, rfl, rfl⟩ := s_inj hb
    exact e_r rfl rfl K
theorem E_Model_gives {p2 : Int32} {X : MX} {I : MI} {J : MJ} {v : Int32} {I' : MI} {J' : MJ} (hb : f_Model_gives p2 I J = some (v, I', J')) (K : P (.inl (some (.int v))) (hX X I' J')) : am_E (gG L xs) d m_Model_gives (0, lv_args 0 [.ref 112, .int p2], []) (hX X I J) P := by
  unfold f_Model_gives at hb
  refine e_k 2 (f' := (2, [(0, .ref 112), (1, .int p2)], [.ref 112, .ref 112])) rfl ?_
  refine r_getl rfl (x_ltn rfl) rfl rfl ?_
  refine e_k 4 (f' := (if p2 = 0 then 15 else 11, [(0, .ref 112), (1, .int p2)], [.long ((J 112 83) <<< ((Int32.toInt64 1) &&& 63)), .ref 112])) rfl ?_
  obtain ⟨v2, h2, hb⟩ := p_nn hb
  have Kj2 : am_E (gG L xs) d m_Model_gives (16, [(0, .ref 112)], [.long v2, .long ((J 112 83) <<< ((Int32.toInt64 1) &&& 63)), .ref 112]) (hX X I J) P := by
    refine e_k 1 (f' := (17, [(0, .ref 112)], [.long (((J 112 83) <<< ((Int32.toInt64 1) &&& 63)) ||| v2), .ref 112])) rfl ?_
    obtain ⟨J4, eJ4, hb⟩ := p_nm hb
    refine r_putl' rfl (x_ltn rfl) rfl rfl eJ4 ?_
    refine e_k 2 (f' := (22, [(0, .ref 112)], [.ref 112, .ref 112])) rfl ?_
    refine r_geti rfl (x_ltn rfl) rfl rfl ?_
    refine e_k 2 (f' := (27, [(0, .ref 112)], [.int ((I 112 84) + 1), .ref 112])) rfl ?_
    obtain ⟨I5, eI5, hb⟩ := p_nm hb
    refine r_puti' rfl (x_ltn rfl) rfl rfl eI5 ?_
    refine e_k 1 (f' := (31, [(0, .ref 112)], [.ref 112])) rfl ?_
    refine r_geti rfl (x_ltn rfl) rfl rfl ?_
    refine e_k 2 (f' := (if 64 < (I5 112 84) then 43 else 39, [(0, .ref 112)], [])) rfl ?_
    refine e_if (fun c6 => ?_) (fun c6 => ?_)
    · replace hb := i_pos c6 hb
      refine e_k 1 (f' := (44, [(0, .ref 112)], [.int 0])) rfl ?_
      obtain ⟨rfl, rfl, rfl⟩ := s_inj hb
      exact e_r rfl rfl K
    · replace hb := i_neg c6 hb
      refine e_k 2 (f' := (44, [(0, .ref 112)], [.int 1])) rfl ?_
      obtain ⟨rfl, rfl, rfl⟩ := s_inj hb
      exact e_r rfl rfl K
  clear hb
  refine e_if (fun c3 => ?_) (fun c3 => ?_)
  · replace h2 := i_pos c3 h2
    refine e_k 1 (f' := (16, [(0, .ref 112), (1, .int p2)], [.long 0, .long ((J 112 83) <<< ((Int32.toInt64 1) &&& 63)), .ref 112])) rfl ?_
    refine e_sub (ls := [(0, .ref 112)]) rfl ⟨rfl, trivial⟩ ?_
    subst h2
    exact Kj2
  · replace h2 := i_neg c3 h2
    refine e_k 2 (f' := (16, [(0, .ref 112), (1, .int p2)], [.long 1, .long ((J 112 83) <<< ((Int32.toInt64 1) &&& 63)), .ref 112])) rfl ?_
    refine e_sub (ls := [(0, .ref 112)]) rfl ⟨rfl, trivial⟩ ?_
    subst h2
    exact Kj2
theorem E_Model_drops {X : MX} {I : MI} {J : MJ} {v : Int32} {I' : MI} {J' : MJ} (hb : f_Model_drops  I J = some (v, I', J')) (K : P (.inl (some (.int v))) (hX X I' J')) : am_E (gG L xs) d m_Model_drops (0, lv_args 0 [.ref 112], []) (hX X I J) P := by
  unfold f_Model_drops at hb
  refine e_k 1 (f' := (1, [(0, .ref 112)], [.ref 112])) rfl ?_
  refine r_getl rfl (x_ltn rfl) rfl rfl ?_
  refine e_k 5 (f' := (if ¬ (lg_cmp ((J 112 83) &&& 1) 1) = 0 then 15 else 11, [(0, .ref 112)], [])) rfl ?_
  obtain ⟨v2, h2, hb⟩ := p_nn hb
  have Kj2 : am_E (gG L xs) d m_Model_drops (16, [(0, .ref 112)], [.int v2]) (hX X I J) P := by
    refine e_k 3 (f' := (19, [(1, .int v2), (0, .ref 112)], [.ref 112, .ref 112])) rfl ?_
    refine r_getl rfl (x_ltn rfl) rfl rfl ?_
    refine e_k 2 (f' := (24, [(1, .int v2), (0, .ref 112)], [.long ((Int64.toUInt64 (J 112 83) >>> (Int64.toUInt64 (Int32.toInt64 1) &&& Int64.toUInt64 63)).toInt64), .ref 112])) rfl ?_
    obtain ⟨J4, eJ4, hb⟩ := p_nm hb
    refine r_putl' rfl (x_ltn rfl) rfl rfl eJ4 ?_
    refine e_k 2 (f' := (29, [(1, .int v2), (0, .ref 112)], [.ref 112, .ref 112])) rfl ?_
    refine r_geti rfl (x_ltn rfl) rfl rfl ?_
    refine e_k 2 (f' := (34, [(1, .int v2), (0, .ref 112)], [.int ((I 112 84) - 1), .ref 112])) rfl ?_
    obtain ⟨I5, eI5, hb⟩ := p_nm hb
    refine r_puti' rfl (x_ltn rfl) rfl rfl eI5 ?_
    refine e_k 1 (f' := (38, [(1, .int v2), (0, .ref 112)], [.int v2])) rfl ?_
    obtain ⟨o6, hb⟩ := ob_if hb
    obtain ⟨rfl, rfl, rfl⟩ := s_inj hb
    exact e_r rfl (if_pos o6) K
  clear hb
  refine e_if (fun c3 => ?_) (fun c3 => ?_)
  · replace h2 := i_pos c3 h2
    refine e_k 1 (f' := (16, [(0, .ref 112)], [.int 0])) rfl ?_
    refine e_sub (ls := [(0, .ref 112)]) rfl ⟨rfl, trivial⟩ ?_
    subst h2
    exact Kj2
  · replace h2 := i_neg c3 h2
    refine e_k 2 (f' := (16, [(0, .ref 112)], [.int 1])) rfl ?_
    refine e_sub (ls := [(0, .ref 112)]) rfl ⟨rfl, trivial⟩ ?_
    subst h2
    exact Kj2
theorem E_Model_flows {p2 : Int32} {X : MX} {I : MI} {J : MJ} {v : Int32} {I' : MI} {J' : MJ} (hb : f_Model_flows p2 I J = some (v, I', J')) (K : P (.inl (some (.int v))) (hX X I' J')) : am_E (gG L xs) (d + 1) m_Model_flows (0, lv_args 0 [.ref 112, .int p2], []) (hX X I J) P := by
  unfold f_Model_flows at hb
  refine e_k 1 (f' := (1, [(0, .ref 112), (1, .int p2)], [.ref 112])) rfl ?_
  refine r_getr rfl (x_ltn rfl) rfl rfl ?_
  refine e_k 1 (f' := (5, [(0, .ref 112), (1, .int p2)], [.int p2, .ref 116])) rfl ?_
  obtain ⟨o1, hb⟩ := ob_in hb
  refine r_iald rfl rfl (x_ltn rfl) rfl o1 ?_
  refine e_k 1 (f' := (7, [(2, .int (I 116 (Int32.toNatClampNeg p2))), (0, .ref 112), (1, .int p2)], [])) rfl ?_
  obtain ⟨x2, ex2, hb⟩ := p_nm hb
  rw [← ex2]
  refine e_k 3 (f' := (if x2 < 4 then 18 else 12, [(2, .int x2), (0, .ref 112), (1, .int p2)], [])) rfl ?_
  obtain ⟨v5, h5, hb⟩ := p_nn hb
  have Kj5 : am_E (gG L xs) (d + 1) m_Model_flows (63, [(0, .ref 112), (1, .int p2), (2, .int x2)], [.int v5]) (hX X I J) P := by
    refine e_k 2 (f' := (65, [(3, .int v5), (0, .ref 112), (1, .int p2), (2, .int x2)], [.ref 112])) rfl ?_
    refine r_geti rfl (x_ltn rfl) rfl rfl ?_
    refine e_k 2 (f' := (if v5 ≤ (I 112 84) then 74 else 72, [(3, .int v5), (0, .ref 112), (1, .int p2), (2, .int x2)], [])) rfl ?_
    refine e_if (fun c24 => ?_) (fun c24 => ?_)
    · replace hb := i_pos c24 hb
      refine e_k 3 (f' := (if x2 = 1 then 84 else 79, [(3, .int v5), (0, .ref 112), (1, .int p2), (2, .int x2)], [])) rfl ?_
      refine e_if (fun c25 => ?_) (fun c25 => ?_)
      · replace hb := i_pos c25 hb
        refine e_k 2 (f' := (86, [(3, .int v5), (0, .ref 112), (1, .int p2), (2, .int x2)], [.int 0, .ref 112])) rfl ?_
        obtain ⟨v26, I26, J26, h26, hb⟩ := oc_call hb
        refine r_cv (z := m_Model_gives) (As := [.int 0]) (rest := []) rfl rfl rfl rfl rfl (x_ltn rfl) rfl rfl (E_Model_gives  h26 ⟨_, rfl, ?_⟩)
        obtain ⟨o27, hb⟩ := ob_if hb
        obtain ⟨rfl, rfl, rfl⟩ := s_inj hb
        exact e_r rfl (if_pos o27) K
      · replace hb := i_neg c25 hb
        refine e_k 3 (f' := (if ¬ x2 = 2 then 90 else 84, [(3, .int v5), (0, .ref 112), (1, .int p2), (2, .int x2)], [])) rfl ?_
        refine e_if (fun c28 => ?_) (fun c28 => ?_)
        · replace hb := i_pos c28 hb
          refine e_k 3 (f' := (if x2 = 3 then 101 else 95, [(3, .int v5), (0, .ref 112), (1, .int p2), (2, .int x2)], [])) rfl ?_
          refine e_if (fun c29 => ?_) (fun c29 => ?_)
          · replace hb := i_pos c29 hb
            refine e_k 2 (f' := (103, [(3, .int v5), (0, .ref 112), (1, .int p2), (2, .int x2)], [.int 1, .ref 112])) rfl ?_
            obtain ⟨v30, I30, J30, h30, hb⟩ := oc_call hb
            refine r_cv (z := m_Model_gives) (As := [.int 1]) (rest := []) rfl rfl rfl rfl rfl (x_ltn rfl) rfl rfl (E_Model_gives  h30 ⟨_, rfl, ?_⟩)
            obtain ⟨o31, hb⟩ := ob_if hb
            obtain ⟨rfl, rfl, rfl⟩ := s_inj hb
            exact e_r rfl (if_pos o31) K
          · replace hb := i_neg c29 hb
            refine e_k 3 (f' := (if ¬ x2 = 26 then 107 else 101, [(3, .int v5), (0, .ref 112), (1, .int p2), (2, .int x2)], [])) rfl ?_
            refine e_if (fun c32 => ?_) (fun c32 => ?_)
            · replace hb := i_pos c32 hb
              refine e_k 3 (f' := (if x2 < 23 then 161 else 113, [(3, .int v5), (0, .ref 112), (1, .int p2), (2, .int x2)], [])) rfl ?_
              refine e_if (fun c33 => ?_) (fun c33 => ?_)
              · replace hb := i_pos c33 hb
                refine e_k 2 (f' := (if ¬ v5 = 0 then 167 else 165, [(3, .int v5), (0, .ref 112), (1, .int p2), (2, .int x2)], [])) rfl ?_
                refine e_if (fun c34 => ?_) (fun c34 => ?_)
                · replace hb := i_pos c34 hb
                  refine e_k 1 (f' := (168, [(3, .int v5), (0, .ref 112), (1, .int p2), (2, .int x2)], [.ref 112])) rfl ?_
                  obtain ⟨v35, I35, J35, h35, hb⟩ := oc_call hb
                  refine r_cv (z := m_Model_drops) (As := []) (rest := []) rfl rfl rfl rfl rfl (x_ltn rfl) rfl rfl (E_Model_drops  h35 ⟨_, rfl, ?_⟩)
                  refine e_k 4 (f' := (if ¬ v5 = 2 then 303 else 178, [(4, .int v35), (3, .int v5), (0, .ref 112), (1, .int p2), (2, .int x2)], [])) rfl ?_
                  refine e_if (fun c36 => ?_) (fun c36 => ?_)
                  · replace hb := i_pos c36 hb
                    refine e_k 3 (f' := (if ¬ x2 = 11 then 320 else 309, [(4, .int v35), (3, .int v5), (0, .ref 112), (1, .int p2), (2, .int x2)], [])) rfl ?_
                    refine e_if (fun c37 => ?_) (fun c37 => ?_)
                    · replace hb := i_pos c37 hb
                      refine e_k 3 (f' := (if ¬ x2 = 12 then 328 else 326, [(4, .int v35), (3, .int v5), (0, .ref 112), (1, .int p2), (2, .int x2)], [])) rfl ?_
                      refine e_if (fun c38 => ?_) (fun c38 => ?_)
                      · replace hb := i_pos c38 hb
                        refine e_k 3 (f' := (if x2 = 8 then 353 else 334, [(4, .int v35), (3, .int v5), (0, .ref 112), (1, .int p2), (2, .int x2)], [])) rfl ?_
                        obtain ⟨v40, h40, hb⟩ := p_nn hb
                        have Kj40 : am_E (gG L xs) (d + 1) m_Model_flows (358, [(0, .ref 112), (2, .int x2), (4, .int v35)], [.int v40]) (hX X I35 J35) P := by
                          refine e_k 5 (f' := (if ¬ x2 = 8 then 372 else 367, [(5, .int v40), (0, .ref 112), (2, .int x2), (4, .int v35)], [.ref 112])) rfl ?_
                          obtain ⟨v47, h47, hb⟩ := p_nn hb
                          have Kj47 : am_E (gG L xs) (d + 1) m_Model_flows (389, [(5, .int v40)], [.int v47, .ref 112]) (hX X I35 J35) P := by
                            obtain ⟨v51, I51, J51, h51, hb⟩ := oc_call hb
                            refine r_cv (z := m_Model_gives) (As := [.int v47]) (rest := []) rfl rfl rfl rfl rfl (x_ltn rfl) rfl rfl (E_Model_gives  h51 ⟨_, rfl, ?_⟩)
                            refine e_k 1 (f' := (if v51 = 0 then 404 else 395, [(5, .int v40)], [])) rfl ?_
                            refine e_if (fun c52 => ?_) (fun c52 => ?_)
                            · replace hb := i_pos c52 hb
                              refine e_k 1 (f' := (405, [(5, .int v40)], [.int 0])) rfl ?_
                              obtain ⟨rfl, rfl, rfl⟩ := s_inj hb
                              exact e_r rfl rfl K
                            · replace hb := i_neg c52 hb
                              refine e_k 2 (f' := (if v40 = 0 then 404 else 400, [(5, .int v40)], [])) rfl ?_
                              refine e_if (fun c53 => ?_) (fun c53 => ?_)
                              · replace hb := i_pos c53 hb
                                refine e_k 1 (f' := (405, [(5, .int v40)], [.int 0])) rfl ?_
                                obtain ⟨rfl, rfl, rfl⟩ := s_inj hb
                                exact e_r rfl rfl K
                              · replace hb := i_neg c53 hb
                                refine e_k 2 (f' := (405, [(5, .int v40)], [.int 1])) rfl ?_
                                obtain ⟨rfl, rfl, rfl⟩ := s_inj hb
                                exact e_r rfl rfl K
                          clear hb
                          refine e_if (fun c48 => ?_) (fun c48 => ?_)
                          · replace h47 := i_pos c48 h47
                            refine e_k 3 (f' := (if x2 = 10 then 384 else 378, [(5, .int v40), (0, .ref 112), (2, .int x2), (4, .int v35)], [.ref 112])) rfl ?_
                            refine e_if (fun c49 => ?_) (fun c49 => ?_)
                            · replace h47 := i_pos c49 h47
                              refine e_k 2 (f' := (389, [(5, .int v40), (0, .ref 112), (2, .int x2), (4, .int v35)], [.int 1, .ref 112])) rfl ?_
                              refine e_sub (ls := [(5, .int v40)]) rfl ⟨rfl, trivial⟩ ?_
                              subst h47
                              exact Kj47
                            · replace h47 := i_neg c49 h47
                              refine e_k 3 (f' := (if ¬ x2 = 20 then 388 else 384, [(5, .int v40), (0, .ref 112), (2, .int x2), (4, .int v35)], [.ref 112])) rfl ?_
                              refine e_if (fun c50 => ?_) (fun c50 => ?_)
                              · replace h47 := i_pos c50 h47
                                refine e_k 1 (f' := (389, [(5, .int v40), (0, .ref 112), (2, .int x2), (4, .int v35)], [.int 0, .ref 112])) rfl ?_
                                refine e_sub (ls := [(5, .int v40)]) rfl ⟨rfl, trivial⟩ ?_
                                subst h47
                                exact Kj47
                              · replace h47 := i_neg c50 h47
                                refine e_k 2 (f' := (389, [(5, .int v40), (0, .ref 112), (2, .int x2), (4, .int v35)], [.int 1, .ref 112])) rfl ?_
                                refine e_sub (ls := [(5, .int v40)]) rfl ⟨rfl, trivial⟩ ?_
                                subst h47
                                exact Kj47
                          · replace h47 := i_neg c48 h47
                            refine e_k 2 (f' := (389, [(5, .int v40), (0, .ref 112), (2, .int x2), (4, .int v35)], [.int v35, .ref 112])) rfl ?_
                            refine e_sub (ls := [(5, .int v40)]) rfl ⟨rfl, trivial⟩ ?_
                            subst h47
                            exact Kj47
                        clear hb
                        refine e_if (fun c41 => ?_) (fun c41 => ?_)
                        · replace h40 := i_pos c41 h40
                          refine e_k 2 (f' := (358, [(4, .int v35), (3, .int v5), (0, .ref 112), (1, .int p2), (2, .int x2)], [.int 1])) rfl ?_
                          refine e_sub (ls := [(0, .ref 112), (2, .int x2), (4, .int v35)]) rfl ⟨rfl, rfl, rfl, trivial⟩ ?_
                          subst h40
                          exact Kj40
                        · replace h40 := i_neg c41 h40
                          refine e_k 3 (f' := (if ¬ x2 = 10 then 348 else 340, [(4, .int v35), (3, .int v5), (0, .ref 112), (1, .int p2), (2, .int x2)], [])) rfl ?_
                          refine e_if (fun c42 => ?_) (fun c42 => ?_)
                          · replace h40 := i_pos c42 h40
                            refine e_k 2 (f' := (if ¬ v35 = 0 then 357 else 353, [(4, .int v35), (3, .int v5), (0, .ref 112), (1, .int p2), (2, .int x2)], [])) rfl ?_
                            refine e_if (fun c43 => ?_) (fun c43 => ?_)
                            · replace h40 := i_pos c43 h40
                              refine e_k 1 (f' := (358, [(4, .int v35), (3, .int v5), (0, .ref 112), (1, .int p2), (2, .int x2)], [.int 0])) rfl ?_
                              refine e_sub (ls := [(0, .ref 112), (2, .int x2), (4, .int v35)]) rfl ⟨rfl, rfl, rfl, trivial⟩ ?_
                              subst h40
                              exact Kj40
                            · replace h40 := i_neg c43 h40
                              refine e_k 2 (f' := (358, [(4, .int v35), (3, .int v5), (0, .ref 112), (1, .int p2), (2, .int x2)], [.int 1])) rfl ?_
                              refine e_sub (ls := [(0, .ref 112), (2, .int x2), (4, .int v35)]) rfl ⟨rfl, rfl, rfl, trivial⟩ ?_
                              subst h40
                              exact Kj40
                          · replace h40 := i_neg c42 h40
                            refine e_k 2 (f' := (if v35 = 0 then 357 else 345, [(4, .int v35), (3, .int v5), (0, .ref 112), (1, .int p2), (2, .int x2)], [])) rfl ?_
                            refine e_if (fun c44 => ?_) (fun c44 => ?_)
                            · replace h40 := i_pos c44 h40
                              refine e_k 1 (f' := (358, [(4, .int v35), (3, .int v5), (0, .ref 112), (1, .int p2), (2, .int x2)], [.int 0])) rfl ?_
                              refine e_sub (ls := [(0, .ref 112), (2, .int x2), (4, .int v35)]) rfl ⟨rfl, rfl, rfl, trivial⟩ ?_
                              subst h40
                              exact Kj40
                            · replace h40 := i_neg c44 h40
                              refine e_k 3 (f' := (358, [(4, .int v35), (3, .int v5), (0, .ref 112), (1, .int p2), (2, .int x2)], [.int 1])) rfl ?_
                              refine e_sub (ls := [(0, .ref 112), (2, .int x2), (4, .int v35)]) rfl ⟨rfl, rfl, rfl, trivial⟩ ?_
                              subst h40
                              exact Kj40
                      · replace hb := i_neg c38 hb
                        refine e_k 1 (f' := (327, [(4, .int v35), (3, .int v5), (0, .ref 112), (1, .int p2), (2, .int x2)], [.int 1])) rfl ?_
                        obtain ⟨rfl, rfl, rfl⟩ := s_inj hb
                        exact e_r rfl rfl K
                    · replace hb := i_neg c37 hb
                      refine e_k 2 (f' := (if ¬ v35 = 0 then 318 else 314, [(4, .int v35), (3, .int v5), (0, .ref 112), (1, .int p2), (2, .int x2)], [])) rfl ?_
                      refine e_if (fun c54 => ?_) (fun c54 => ?_)
                      · replace hb := i_pos c54 hb
                        refine e_k 1 (f' := (319, [(4, .int v35), (3, .int v5), (0, .ref 112), (1, .int p2), (2, .int x2)], [.int 0])) rfl ?_
                        obtain ⟨rfl, rfl, rfl⟩ := s_inj hb
                        exact e_r rfl rfl K
                      · replace hb := i_neg c54 hb
                        refine e_k 2 (f' := (319, [(4, .int v35), (3, .int v5), (0, .ref 112), (1, .int p2), (2, .int x2)], [.int 1])) rfl ?_
                        obtain ⟨rfl, rfl, rfl⟩ := s_inj hb
                        exact e_r rfl rfl K
                  · replace hb := i_neg c36 hb
                    refine e_k 1 (f' := (179, [(4, .int v35), (3, .int v5), (0, .ref 112), (1, .int p2), (2, .int x2)], [.ref 112])) rfl ?_
                    obtain ⟨v55, I55, J55, h55, hb⟩ := oc_call hb
                    refine r_cv (z := m_Model_drops) (As := []) (rest := []) rfl rfl rfl rfl rfl (x_ltn rfl) rfl rfl (E_Model_drops  h55 ⟨_, rfl, ?_⟩)
                    refine e_k 4 (f' := (if ¬ x2 = 21 then 206 else 190, [(5, .int v55), (4, .int v35), (3, .int v5), (0, .ref 112), (1, .int p2), (2, .int x2)], [])) rfl ?_
                    refine e_if (fun c56 => ?_) (fun c56 => ?_)
                    · replace hb := i_pos c56 hb
                      refine e_k 3 (f' := (if ¬ x2 = 22 then 223 else 212, [(5, .int v55), (4, .int v35), (3, .int v5), (0, .ref 112), (1, .int p2), (2, .int x2)], [])) rfl ?_
                      refine e_if (fun c57 => ?_) (fun c57 => ?_)
                      · replace hb := i_pos c57 hb
                        refine e_k 3 (f' := (if ¬ x2 = 6 then 247 else 229, [(5, .int v55), (4, .int v35), (3, .int v5), (0, .ref 112), (1, .int p2), (2, .int x2)], [])) rfl ?_
                        obtain ⟨v60, h60, hb⟩ := p_nn hb
                        have Kj60 : am_E (gG L xs) (d + 1) m_Model_flows (268, [(0, .ref 112), (4, .int v35), (5, .int v55)], [.int v60]) (hX X I55 J55) P := by
                          refine e_k 4 (f' := (if ¬ v35 = 0 then 281 else 276, [(6, .int v60), (0, .ref 112), (4, .int v35), (5, .int v55)], [.ref 112])) rfl ?_
                          obtain ⟨v68, h68, hb⟩ := p_nn hb
                          have Kj68 : am_E (gG L xs) (d + 1) m_Model_flows (286, [(6, .int v60)], [.int v68, .ref 112]) (hX X I55 J55) P := by
                            obtain ⟨v71, I71, J71, h71, hb⟩ := oc_call hb
                            refine r_cv (z := m_Model_gives) (As := [.int v68]) (rest := []) rfl rfl rfl rfl rfl (x_ltn rfl) rfl rfl (E_Model_gives  h71 ⟨_, rfl, ?_⟩)
                            refine e_k 1 (f' := (if v71 = 0 then 301 else 292, [(6, .int v60)], [])) rfl ?_
                            refine e_if (fun c72 => ?_) (fun c72 => ?_)
                            · replace hb := i_pos c72 hb
                              refine e_k 1 (f' := (302, [(6, .int v60)], [.int 0])) rfl ?_
                              obtain ⟨rfl, rfl, rfl⟩ := s_inj hb
                              exact e_r rfl rfl K
                            · replace hb := i_neg c72 hb
                              refine e_k 2 (f' := (if v60 = 0 then 301 else 297, [(6, .int v60)], [])) rfl ?_
                              refine e_if (fun c73 => ?_) (fun c73 => ?_)
                              · replace hb := i_pos c73 hb
                                refine e_k 1 (f' := (302, [(6, .int v60)], [.int 0])) rfl ?_
                                obtain ⟨rfl, rfl, rfl⟩ := s_inj hb
                                exact e_r rfl rfl K
                              · replace hb := i_neg c73 hb
                                refine e_k 2 (f' := (302, [(6, .int v60)], [.int 1])) rfl ?_
                                obtain ⟨rfl, rfl, rfl⟩ := s_inj hb
                                exact e_r rfl rfl K
                          clear hb
                          refine e_if (fun c69 => ?_) (fun c69 => ?_)
                          · replace h68 := i_pos c69 h68
                            refine e_k 2 (f' := (286, [(6, .int v60), (0, .ref 112), (4, .int v35), (5, .int v55)], [.int 1, .ref 112])) rfl ?_
                            refine e_sub (ls := [(6, .int v60)]) rfl ⟨rfl, trivial⟩ ?_
                            subst h68
                            exact Kj68
                          · replace h68 := i_neg c69 h68
                            refine e_k 2 (f' := (if v55 = 0 then 285 else 281, [(6, .int v60), (0, .ref 112), (4, .int v35), (5, .int v55)], [.ref 112])) rfl ?_
                            refine e_if (fun c70 => ?_) (fun c70 => ?_)
                            · replace h68 := i_pos c70 h68
                              refine e_k 1 (f' := (286, [(6, .int v60), (0, .ref 112), (4, .int v35), (5, .int v55)], [.int 0, .ref 112])) rfl ?_
                              refine e_sub (ls := [(6, .int v60)]) rfl ⟨rfl, trivial⟩ ?_
                              subst h68
                              exact Kj68
                            · replace h68 := i_neg c70 h68
                              refine e_k 2 (f' := (286, [(6, .int v60), (0, .ref 112), (4, .int v35), (5, .int v55)], [.int 1, .ref 112])) rfl ?_
                              refine e_sub (ls := [(6, .int v60)]) rfl ⟨rfl, trivial⟩ ?_
                              subst h68
                              exact Kj68
                        clear hb
                        refine e_if (fun c61 => ?_) (fun c61 => ?_)
                        · replace h60 := i_pos c61 h60
                          refine e_k 3 (f' := (if ¬ x2 = 7 then 263 else 253, [(5, .int v55), (4, .int v35), (3, .int v5), (0, .ref 112), (1, .int p2), (2, .int x2)], [])) rfl ?_
                          refine e_if (fun c62 => ?_) (fun c62 => ?_)
                          · replace h60 := i_pos c62 h60
                            refine e_k 2 (f' := (268, [(5, .int v55), (4, .int v35), (3, .int v5), (0, .ref 112), (1, .int p2), (2, .int x2)], [.int 1])) rfl ?_
                            refine e_sub (ls := [(0, .ref 112), (4, .int v35), (5, .int v55)]) rfl ⟨rfl, rfl, rfl, trivial⟩ ?_
                            subst h60
                            exact Kj60
                          · replace h60 := i_neg c62 h60
                            refine e_k 2 (f' := (if v35 = 0 then 267 else 258, [(5, .int v55), (4, .int v35), (3, .int v5), (0, .ref 112), (1, .int p2), (2, .int x2)], [])) rfl ?_
                            refine e_if (fun c63 => ?_) (fun c63 => ?_)
                            · replace h60 := i_pos c63 h60
                              refine e_k 1 (f' := (268, [(5, .int v55), (4, .int v35), (3, .int v5), (0, .ref 112), (1, .int p2), (2, .int x2)], [.int 0])) rfl ?_
                              refine e_sub (ls := [(0, .ref 112), (4, .int v35), (5, .int v55)]) rfl ⟨rfl, rfl, rfl, trivial⟩ ?_
                              subst h60
                              exact Kj60
                            · replace h60 := i_neg c63 h60
                              refine e_k 2 (f' := (if v55 = 0 then 267 else 263, [(5, .int v55), (4, .int v35), (3, .int v5), (0, .ref 112), (1, .int p2), (2, .int x2)], [])) rfl ?_
                              refine e_if (fun c64 => ?_) (fun c64 => ?_)
                              · replace h60 := i_pos c64 h60
                                refine e_k 1 (f' := (268, [(5, .int v55), (4, .int v35), (3, .int v5), (0, .ref 112), (1, .int p2), (2, .int x2)], [.int 0])) rfl ?_
                                refine e_sub (ls := [(0, .ref 112), (4, .int v35), (5, .int v55)]) rfl ⟨rfl, rfl, rfl, trivial⟩ ?_
                                subst h60
                                exact Kj60
                              · replace h60 := i_neg c64 h60
                                refine e_k 2 (f' := (268, [(5, .int v55), (4, .int v35), (3, .int v5), (0, .ref 112), (1, .int p2), (2, .int x2)], [.int 1])) rfl ?_
                                refine e_sub (ls := [(0, .ref 112), (4, .int v35), (5, .int v55)]) rfl ⟨rfl, rfl, rfl, trivial⟩ ?_
                                subst h60
                                exact Kj60
                        · replace h60 := i_neg c61 h60
                          refine e_k 2 (f' := (if v35 = 0 then 239 else 234, [(5, .int v55), (4, .int v35), (3, .int v5), (0, .ref 112), (1, .int p2), (2, .int x2)], [])) rfl ?_
                          refine e_if (fun c65 => ?_) (fun c65 => ?_)
                          · replace h60 := i_pos c65 h60
                            refine e_k 2 (f' := (268, [(5, .int v55), (4, .int v35), (3, .int v5), (0, .ref 112), (1, .int p2), (2, .int x2)], [.int 1])) rfl ?_
                            refine e_sub (ls := [(0, .ref 112), (4, .int v35), (5, .int v55)]) rfl ⟨rfl, rfl, rfl, trivial⟩ ?_
                            subst h60
                            exact Kj60
                          · replace h60 := i_neg c65 h60
                            refine e_k 2 (f' := (if ¬ v55 = 0 then 243 else 239, [(5, .int v55), (4, .int v35), (3, .int v5), (0, .ref 112), (1, .int p2), (2, .int x2)], [])) rfl ?_
                            refine e_if (fun c66 => ?_) (fun c66 => ?_)
                            · replace h60 := i_pos c66 h60
                              refine e_k 2 (f' := (268, [(5, .int v55), (4, .int v35), (3, .int v5), (0, .ref 112), (1, .int p2), (2, .int x2)], [.int 0])) rfl ?_
                              refine e_sub (ls := [(0, .ref 112), (4, .int v35), (5, .int v55)]) rfl ⟨rfl, rfl, rfl, trivial⟩ ?_
                              subst h60
                              exact Kj60
                            · replace h60 := i_neg c66 h60
                              refine e_k 2 (f' := (268, [(5, .int v55), (4, .int v35), (3, .int v5), (0, .ref 112), (1, .int p2), (2, .int x2)], [.int 1])) rfl ?_
                              refine e_sub (ls := [(0, .ref 112), (4, .int v35), (5, .int v55)]) rfl ⟨rfl, rfl, rfl, trivial⟩ ?_
                              subst h60
                              exact Kj60
                      · replace hb := i_neg c57 hb
                        refine e_k 2 (f' := (if ¬ v55 = 0 then 221 else 217, [(5, .int v55), (4, .int v35), (3, .int v5), (0, .ref 112), (1, .int p2), (2, .int x2)], [])) rfl ?_
                        refine e_if (fun c74 => ?_) (fun c74 => ?_)
                        · replace hb := i_pos c74 hb
                          refine e_k 1 (f' := (222, [(5, .int v55), (4, .int v35), (3, .int v5), (0, .ref 112), (1, .int p2), (2, .int x2)], [.int 0])) rfl ?_
                          obtain ⟨rfl, rfl, rfl⟩ := s_inj hb
                          exact e_r rfl rfl K
                        · replace hb := i_neg c74 hb
                          refine e_k 2 (f' := (222, [(5, .int v55), (4, .int v35), (3, .int v5), (0, .ref 112), (1, .int p2), (2, .int x2)], [.int 1])) rfl ?_
                          obtain ⟨rfl, rfl, rfl⟩ := s_inj hb
                          exact e_r rfl rfl K
                    · replace hb := i_neg c56 hb
                      refine e_k 2 (f' := (if ¬ v35 = 0 then 204 else 195, [(5, .int v55), (4, .int v35), (3, .int v5), (0, .ref 112), (1, .int p2), (2, .int x2)], [])) rfl ?_
                      refine e_if (fun c75 => ?_) (fun c75 => ?_)
                      · replace hb := i_pos c75 hb
                        refine e_k 1 (f' := (205, [(5, .int v55), (4, .int v35), (3, .int v5), (0, .ref 112), (1, .int p2), (2, .int x2)], [.int 0])) rfl ?_
                        obtain ⟨rfl, rfl, rfl⟩ := s_inj hb
                        exact e_r rfl rfl K
                      · replace hb := i_neg c75 hb
                        refine e_k 2 (f' := (if ¬ v55 = 0 then 204 else 200, [(5, .int v55), (4, .int v35), (3, .int v5), (0, .ref 112), (1, .int p2), (2, .int x2)], [])) rfl ?_
                        refine e_if (fun c76 => ?_) (fun c76 => ?_)
                        · replace hb := i_pos c76 hb
                          refine e_k 1 (f' := (205, [(5, .int v55), (4, .int v35), (3, .int v5), (0, .ref 112), (1, .int p2), (2, .int x2)], [.int 0])) rfl ?_
                          obtain ⟨rfl, rfl, rfl⟩ := s_inj hb
                          exact e_r rfl rfl K
                        · replace hb := i_neg c76 hb
                          refine e_k 2 (f' := (205, [(5, .int v55), (4, .int v35), (3, .int v5), (0, .ref 112), (1, .int p2), (2, .int x2)], [.int 1])) rfl ?_
                          obtain ⟨rfl, rfl, rfl⟩ := s_inj hb
                          exact e_r rfl rfl K
                · replace hb := i_neg c34 hb
                  refine e_k 1 (f' := (166, [(3, .int v5), (0, .ref 112), (1, .int p2), (2, .int x2)], [.int 1])) rfl ?_
                  obtain ⟨rfl, rfl, rfl⟩ := s_inj hb
                  exact e_r rfl rfl K
              · replace hb := i_neg c33 hb
                refine e_k 3 (f' := (if 25 < x2 then 161 else 119, [(3, .int v5), (0, .ref 112), (1, .int p2), (2, .int x2)], [])) rfl ?_
                refine e_if (fun c77 => ?_) (fun c77 => ?_)
                · replace hb := i_pos c77 hb
                  refine e_k 2 (f' := (if ¬ v5 = 0 then 167 else 165, [(3, .int v5), (0, .ref 112), (1, .int p2), (2, .int x2)], [])) rfl ?_
                  refine e_if (fun c78 => ?_) (fun c78 => ?_)
                  · replace hb := i_pos c78 hb
                    refine e_k 1 (f' := (168, [(3, .int v5), (0, .ref 112), (1, .int p2), (2, .int x2)], [.ref 112])) rfl ?_
                    obtain ⟨v79, I79, J79, h79, hb⟩ := oc_call hb
                    refine r_cv (z := m_Model_drops) (As := []) (rest := []) rfl rfl rfl rfl rfl (x_ltn rfl) rfl rfl (E_Model_drops  h79 ⟨_, rfl, ?_⟩)
                    refine e_k 4 (f' := (if ¬ v5 = 2 then 303 else 178, [(4, .int v79), (3, .int v5), (0, .ref 112), (1, .int p2), (2, .int x2)], [])) rfl ?_
                    refine e_if (fun c80 => ?_) (fun c80 => ?_)
                    · replace hb := i_pos c80 hb
                      refine e_k 3 (f' := (if ¬ x2 = 11 then 320 else 309, [(4, .int v79), (3, .int v5), (0, .ref 112), (1, .int p2), (2, .int x2)], [])) rfl ?_
                      refine e_if (fun c81 => ?_) (fun c81 => ?_)
                      · replace hb := i_pos c81 hb
                        refine e_k 3 (f' := (if ¬ x2 = 12 then 328 else 326, [(4, .int v79), (3, .int v5), (0, .ref 112), (1, .int p2), (2, .int x2)], [])) rfl ?_
                        refine e_if (fun c82 => ?_) (fun c82 => ?_)
                        · replace hb := i_pos c82 hb
                          refine e_k 3 (f' := (if x2 = 8 then 353 else 334, [(4, .int v79), (3, .int v5), (0, .ref 112), (1, .int p2), (2, .int x2)], [])) rfl ?_
                          obtain ⟨v84, h84, hb⟩ := p_nn hb
                          have Kj84 : am_E (gG L xs) (d + 1) m_Model_flows (358, [(0, .ref 112), (2, .int x2), (4, .int v79)], [.int v84]) (hX X I79 J79) P := by
                            refine e_k 5 (f' := (if ¬ x2 = 8 then 372 else 367, [(5, .int v84), (0, .ref 112), (2, .int x2), (4, .int v79)], [.ref 112])) rfl ?_
                            obtain ⟨v91, h91, hb⟩ := p_nn hb
                            have Kj91 : am_E (gG L xs) (d + 1) m_Model_flows (389, [(5, .int v84)], [.int v91, .ref 112]) (hX X I79 J79) P := by
                              obtain ⟨v95, I95, J95, h95, hb⟩ := oc_call hb
                              refine r_cv (z := m_Model_gives) (As := [.int v91]) (rest := []) rfl rfl rfl rfl rfl (x_ltn rfl) rfl rfl (E_Model_gives  h95 ⟨_, rfl, ?_⟩)
                              refine e_k 1 (f' := (if v95 = 0 then 404 else 395, [(5, .int v84)], [])) rfl ?_
                              refine e_if (fun c96 => ?_) (fun c96 => ?_)
                              · replace hb := i_pos c96 hb
                                refine e_k 1 (f' := (405, [(5, .int v84)], [.int 0])) rfl ?_
                                obtain ⟨rfl, rfl, rfl⟩ := s_inj hb
                                exact e_r rfl rfl K
                              · replace hb := i_neg c96 hb
                                refine e_k 2 (f' := (if v84 = 0 then 404 else 400, [(5, .int v84)], [])) rfl ?_
                                refine e_if (fun c97 => ?_) (fun c97 => ?_)
                                · replace hb := i_pos c97 hb
                                  refine e_k 1 (f' := (405, [(5, .int v84)], [.int 0])) rfl ?_
                                  obtain ⟨rfl, rfl, rfl⟩ := s_inj hb
                                  exact e_r rfl rfl K
                                · replace hb := i_neg c97 hb
                                  refine e_k 2 (f' := (405, [(5, .int v84)], [.int 1])) rfl ?_
                                  obtain ⟨rfl, rfl, rfl⟩ := s_inj hb
                                  exact e_r rfl rfl K
                            clear hb
                            refine e_if (fun c92 => ?_) (fun c92 => ?_)
                            · replace h91 := i_pos c92 h91
                              refine e_k 3 (f' := (if x2 = 10 then 384 else 378, [(5, .int v84), (0, .ref 112), (2, .int x2), (4, .int v79)], [.ref 112])) rfl ?_
                              refine e_if (fun c93 => ?_) (fun c93 => ?_)
                              · replace h91 := i_pos c93 h91
                                refine e_k 2 (f' := (389, [(5, .int v84), (0, .ref 112), (2, .int x2), (4, .int v79)], [.int 1, .ref 112])) rfl ?_
                                refine e_sub (ls := [(5, .int v84)]) rfl ⟨rfl, trivial⟩ ?_
                                subst h91
                                exact Kj91
                              · replace h91 := i_neg c93 h91
                                refine e_k 3 (f' := (if ¬ x2 = 20 then 388 else 384, [(5, .int v84), (0, .ref 112), (2, .int x2), (4, .int v79)], [.ref 112])) rfl ?_
                                refine e_if (fun c94 => ?_) (fun c94 => ?_)
                                · replace h91 := i_pos c94 h91
                                  refine e_k 1 (f' := (389, [(5, .int v84), (0, .ref 112), (2, .int x2), (4, .int v79)], [.int 0, .ref 112])) rfl ?_
                                  refine e_sub (ls := [(5, .int v84)]) rfl ⟨rfl, trivial⟩ ?_
                                  subst h91
                                  exact Kj91
                                · replace h91 := i_neg c94 h91
                                  refine e_k 2 (f' := (389, [(5, .int v84), (0, .ref 112), (2, .int x2), (4, .int v79)], [.int 1, .ref 112])) rfl ?_
                                  refine e_sub (ls := [(5, .int v84)]) rfl ⟨rfl, trivial⟩ ?_
                                  subst h91
                                  exact Kj91
                            · replace h91 := i_neg c92 h91
                              refine e_k 2 (f' := (389, [(5, .int v84), (0, .ref 112), (2, .int x2), (4, .int v79)], [.int v79, .ref 112])) rfl ?_
                              refine e_sub (ls := [(5, .int v84)]) rfl ⟨rfl, trivial⟩ ?_
                              subst h91
                              exact Kj91
                          clear hb
                          refine e_if (fun c85 => ?_) (fun c85 => ?_)
                          · replace h84 := i_pos c85 h84
                            refine e_k 2 (f' := (358, [(4, .int v79), (3, .int v5), (0, .ref 112), (1, .int p2), (2, .int x2)], [.int 1])) rfl ?_
                            refine e_sub (ls := [(0, .ref 112), (2, .int x2), (4, .int v79)]) rfl ⟨rfl, rfl, rfl, trivial⟩ ?_
                            subst h84
                            exact Kj84
                          · replace h84 := i_neg c85 h84
                            refine e_k 3 (f' := (if ¬ x2 = 10 then 348 else 340, [(4, .int v79), (3, .int v5), (0, .ref 112), (1, .int p2), (2, .int x2)], [])) rfl ?_
                            refine e_if (fun c86 => ?_) (fun c86 => ?_)
                            · replace h84 := i_pos c86 h84
                              refine e_k 2 (f' := (if ¬ v79 = 0 then 357 else 353, [(4, .int v79), (3, .int v5), (0, .ref 112), (1, .int p2), (2, .int x2)], [])) rfl ?_
                              refine e_if (fun c87 => ?_) (fun c87 => ?_)
                              · replace h84 := i_pos c87 h84
                                refine e_k 1 (f' := (358, [(4, .int v79), (3, .int v5), (0, .ref 112), (1, .int p2), (2, .int x2)], [.int 0])) rfl ?_
                                refine e_sub (ls := [(0, .ref 112), (2, .int x2), (4, .int v79)]) rfl ⟨rfl, rfl, rfl, trivial⟩ ?_
                                subst h84
                                exact Kj84
                              · replace h84 := i_neg c87 h84
                                refine e_k 2 (f' := (358, [(4, .int v79), (3, .int v5), (0, .ref 112), (1, .int p2), (2, .int x2)], [.int 1])) rfl ?_
                                refine e_sub (ls := [(0, .ref 112), (2, .int x2), (4, .int v79)]) rfl ⟨rfl, rfl, rfl, trivial⟩ ?_
                                subst h84
                                exact Kj84
                            · replace h84 := i_neg c86 h84
                              refine e_k 2 (f' := (if v79 = 0 then 357 else 345, [(4, .int v79), (3, .int v5), (0, .ref 112), (1, .int p2), (2, .int x2)], [])) rfl ?_
                              refine e_if (fun c88 => ?_) (fun c88 => ?_)
                              · replace h84 := i_pos c88 h84
                                refine e_k 1 (f' := (358, [(4, .int v79), (3, .int v5), (0, .ref 112), (1, .int p2), (2, .int x2)], [.int 0])) rfl ?_
                                refine e_sub (ls := [(0, .ref 112), (2, .int x2), (4, .int v79)]) rfl ⟨rfl, rfl, rfl, trivial⟩ ?_
                                subst h84
                                exact Kj84
                              · replace h84 := i_neg c88 h84
                                refine e_k 3 (f' := (358, [(4, .int v79), (3, .int v5), (0, .ref 112), (1, .int p2), (2, .int x2)], [.int 1])) rfl ?_
                                refine e_sub (ls := [(0, .ref 112), (2, .int x2), (4, .int v79)]) rfl ⟨rfl, rfl, rfl, trivial⟩ ?_
                                subst h84
                                exact Kj84
                        · replace hb := i_neg c82 hb
                          refine e_k 1 (f' := (327, [(4, .int v79), (3, .int v5), (0, .ref 112), (1, .int p2), (2, .int x2)], [.int 1])) rfl ?_
                          obtain ⟨rfl, rfl, rfl⟩ := s_inj hb
                          exact e_r rfl rfl K
                      · replace hb := i_neg c81 hb
                        refine e_k 2 (f' := (if ¬ v79 = 0 then 318 else 314, [(4, .int v79), (3, .int v5), (0, .ref 112), (1, .int p2), (2, .int x2)], [])) rfl ?_
                        refine e_if (fun c98 => ?_) (fun c98 => ?_)
                        · replace hb := i_pos c98 hb
                          refine e_k 1 (f' := (319, [(4, .int v79), (3, .int v5), (0, .ref 112), (1, .int p2), (2, .int x2)], [.int 0])) rfl ?_
                          obtain ⟨rfl, rfl, rfl⟩ := s_inj hb
                          exact e_r rfl rfl K
                        · replace hb := i_neg c98 hb
                          refine e_k 2 (f' := (319, [(4, .int v79), (3, .int v5), (0, .ref 112), (1, .int p2), (2, .int x2)], [.int 1])) rfl ?_
                          obtain ⟨rfl, rfl, rfl⟩ := s_inj hb
                          exact e_r rfl rfl K
                    · replace hb := i_neg c80 hb
                      refine e_k 1 (f' := (179, [(4, .int v79), (3, .int v5), (0, .ref 112), (1, .int p2), (2, .int x2)], [.ref 112])) rfl ?_
                      obtain ⟨v99, I99, J99, h99, hb⟩ := oc_call hb
                      refine r_cv (z := m_Model_drops) (As := []) (rest := []) rfl rfl rfl rfl rfl (x_ltn rfl) rfl rfl (E_Model_drops  h99 ⟨_, rfl, ?_⟩)
                      refine e_k 4 (f' := (if ¬ x2 = 21 then 206 else 190, [(5, .int v99), (4, .int v79), (3, .int v5), (0, .ref 112), (1, .int p2), (2, .int x2)], [])) rfl ?_
                      refine e_if (fun c100 => ?_) (fun c100 => ?_)
                      · replace hb := i_pos c100 hb
                        refine e_k 3 (f' := (if ¬ x2 = 22 then 223 else 212, [(5, .int v99), (4, .int v79), (3, .int v5), (0, .ref 112), (1, .int p2), (2, .int x2)], [])) rfl ?_
                        refine e_if (fun c101 => ?_) (fun c101 => ?_)
                        · replace hb := i_pos c101 hb
                          refine e_k 3 (f' := (if ¬ x2 = 6 then 247 else 229, [(5, .int v99), (4, .int v79), (3, .int v5), (0, .ref 112), (1, .int p2), (2, .int x2)], [])) rfl ?_
                          obtain ⟨v104, h104, hb⟩ := p_nn hb
                          have Kj104 : am_E (gG L xs) (d + 1) m_Model_flows (268, [(0, .ref 112), (4, .int v79), (5, .int v99)], [.int v104]) (hX X I99 J99) P := by
                            refine e_k 4 (f' := (if ¬ v79 = 0 then 281 else 276, [(6, .int v104), (0, .ref 112), (4, .int v79), (5, .int v99)], [.ref 112])) rfl ?_
                            obtain ⟨v112, h112, hb⟩ := p_nn hb
                            have Kj112 : am_E (gG L xs) (d + 1) m_Model_flows (286, [(6, .int v104)], [.int v112, .ref 112]) (hX X I99 J99) P := by
                              obtain ⟨v115, I115, J115, h115, hb⟩ := oc_call hb
                              refine r_cv (z := m_Model_gives) (As := [.int v112]) (rest := []) rfl rfl rfl rfl rfl (x_ltn rfl) rfl rfl (E_Model_gives  h115 ⟨_, rfl, ?_⟩)
                              refine e_k 1 (f' := (if v115 = 0 then 301 else 292, [(6, .int v104)], [])) rfl ?_
                              refine e_if (fun c116 => ?_) (fun c116 => ?_)
                              · replace hb := i_pos c116 hb
                                refine e_k 1 (f' := (302, [(6, .int v104)], [.int 0])) rfl ?_
                                obtain ⟨rfl, rfl, rfl⟩ := s_inj hb
                                exact e_r rfl rfl K
                              · replace hb := i_neg c116 hb
                                refine e_k 2 (f' := (if v104 = 0 then 301 else 297, [(6, .int v104)], [])) rfl ?_
                                refine e_if (fun c117 => ?_) (fun c117 => ?_)
                                · replace hb := i_pos c117 hb
                                  refine e_k 1 (f' := (302, [(6, .int v104)], [.int 0])) rfl ?_
                                  obtain ⟨rfl, rfl, rfl⟩ := s_inj hb
                                  exact e_r rfl rfl K
                                · replace hb := i_neg c117 hb
                                  refine e_k 2 (f' := (302, [(6, .int v104)], [.int 1])) rfl ?_
                                  obtain ⟨rfl, rfl, rfl⟩ := s_inj hb
                                  exact e_r rfl rfl K
                            clear hb
                            refine e_if (fun c113 => ?_) (fun c113 => ?_)
                            · replace h112 := i_pos c113 h112
                              refine e_k 2 (f' := (286, [(6, .int v104), (0, .ref 112), (4, .int v79), (5, .int v99)], [.int 1, .ref 112])) rfl ?_
                              refine e_sub (ls := [(6, .int v104)]) rfl ⟨rfl, trivial⟩ ?_
                              subst h112
                              exact Kj112
                            · replace h112 := i_neg c113 h112
                              refine e_k 2 (f' := (if v99 = 0 then 285 else 281, [(6, .int v104), (0, .ref 112), (4, .int v79), (5, .int v99)], [.ref 112])) rfl ?_
                              refine e_if (fun c114 => ?_) (fun c114 => ?_)
                              · replace h112 := i_pos c114 h112
                                refine e_k 1 (f' := (286, [(6, .int v104), (0, .ref 112), (4, .int v79), (5, .int v99)], [.int 0, .ref 112])) rfl ?_
                                refine e_sub (ls := [(6, .int v104)]) rfl ⟨rfl, trivial⟩ ?_
                                subst h112
                                exact Kj112
                              · replace h112 := i_neg c114 h112
                                refine e_k 2 (f' := (286, [(6, .int v104), (0, .ref 112), (4, .int v79), (5, .int v99)], [.int 1, .ref 112])) rfl ?_
                                refine e_sub (ls := [(6, .int v104)]) rfl ⟨rfl, trivial⟩ ?_
                                subst h112
                                exact Kj112
                          clear hb
                          refine e_if (fun c105 => ?_) (fun c105 => ?_)
                          · replace h104 := i_pos c105 h104
                            refine e_k 3 (f' := (if ¬ x2 = 7 then 263 else 253, [(5, .int v99), (4, .int v79), (3, .int v5), (0, .ref 112), (1, .int p2), (2, .int x2)], [])) rfl ?_
                            refine e_if (fun c106 => ?_) (fun c106 => ?_)
                            · replace h104 := i_pos c106 h104
                              refine e_k 2 (f' := (268, [(5, .int v99), (4, .int v79), (3, .int v5), (0, .ref 112), (1, .int p2), (2, .int x2)], [.int 1])) rfl ?_
                              refine e_sub (ls := [(0, .ref 112), (4, .int v79), (5, .int v99)]) rfl ⟨rfl, rfl, rfl, trivial⟩ ?_
                              subst h104
                              exact Kj104
                            · replace h104 := i_neg c106 h104
                              refine e_k 2 (f' := (if v79 = 0 then 267 else 258, [(5, .int v99), (4, .int v79), (3, .int v5), (0, .ref 112), (1, .int p2), (2, .int x2)], [])) rfl ?_
                              refine e_if (fun c107 => ?_) (fun c107 => ?_)
                              · replace h104 := i_pos c107 h104
                                refine e_k 1 (f' := (268, [(5, .int v99), (4, .int v79), (3, .int v5), (0, .ref 112), (1, .int p2), (2, .int x2)], [.int 0])) rfl ?_
                                refine e_sub (ls := [(0, .ref 112), (4, .int v79), (5, .int v99)]) rfl ⟨rfl, rfl, rfl, trivial⟩ ?_
                                subst h104
                                exact Kj104
                              · replace h104 := i_neg c107 h104
                                refine e_k 2 (f' := (if v99 = 0 then 267 else 263, [(5, .int v99), (4, .int v79), (3, .int v5), (0, .ref 112), (1, .int p2), (2, .int x2)], [])) rfl ?_
                                refine e_if (fun c108 => ?_) (fun c108 => ?_)
                                · replace h104 := i_pos c108 h104
                                  refine e_k 1 (f' := (268, [(5, .int v99), (4, .int v79), (3, .int v5), (0, .ref 112), (1, .int p2), (2, .int x2)], [.int 0])) rfl ?_
                                  refine e_sub (ls := [(0, .ref 112), (4, .int v79), (5, .int v99)]) rfl ⟨rfl, rfl, rfl, trivial⟩ ?_
                                  subst h104
                                  exact Kj104
                                · replace h104 := i_neg c108 h104
                                  refine e_k 2 (f' := (268, [(5, .int v99), (4, .int v79), (3, .int v5), (0, .ref 112), (1, .int p2), (2, .int x2)], [.int 1])) rfl ?_
                                  refine e_sub (ls := [(0, .ref 112), (4, .int v79), (5, .int v99)]) rfl ⟨rfl, rfl, rfl, trivial⟩ ?_
                                  subst h104
                                  exact Kj104
                          · replace h104 := i_neg c105 h104
                            refine e_k 2 (f' := (if v79 = 0 then 239 else 234, [(5, .int v99), (4, .int v79), (3, .int v5), (0, .ref 112), (1, .int p2), (2, .int x2)], [])) rfl ?_
                            refine e_if (fun c109 => ?_) (fun c109 => ?_)
                            · replace h104 := i_pos c109 h104
                              refine e_k 2 (f' := (268, [(5, .int v99), (4, .int v79), (3, .int v5), (0, .ref 112), (1, .int p2), (2, .int x2)], [.int 1])) rfl ?_
                              refine e_sub (ls := [(0, .ref 112), (4, .int v79), (5, .int v99)]) rfl ⟨rfl, rfl, rfl, trivial⟩ ?_
                              subst h104
                              exact Kj104
                            · replace h104 := i_neg c109 h104
                              refine e_k 2 (f' := (if ¬ v99 = 0 then 243 else 239, [(5, .int v99), (4, .int v79), (3, .int v5), (0, .ref 112), (1, .int p2), (2, .int x2)], [])) rfl ?_
                              refine e_if (fun c110 => ?_) (fun c110 => ?_)
                              · replace h104 := i_pos c110 h104
                                refine e_k 2 (f' := (268, [(5, .int v99), (4, .int v79), (3, .int v5), (0, .ref 112), (1, .int p2), (2, .int x2)], [.int 0])) rfl ?_
                                refine e_sub (ls := [(0, .ref 112), (4, .int v79), (5, .int v99)]) rfl ⟨rfl, rfl, rfl, trivial⟩ ?_
                                subst h104
                                exact Kj104
                              · replace h104 := i_neg c110 h104
                                refine e_k 2 (f' := (268, [(5, .int v99), (4, .int v79), (3, .int v5), (0, .ref 112), (1, .int p2), (2, .int x2)], [.int 1])) rfl ?_
                                refine e_sub (ls := [(0, .ref 112), (4, .int v79), (5, .int v99)]) rfl ⟨rfl, rfl, rfl, trivial⟩ ?_
                                subst h104
                                exact Kj104
                        · replace hb := i_neg c101 hb
                          refine e_k 2 (f' := (if ¬ v99 = 0 then 221 else 217, [(5, .int v99), (4, .int v79), (3, .int v5), (0, .ref 112), (1, .int p2), (2, .int x2)], [])) rfl ?_
                          refine e_if (fun c118 => ?_) (fun c118 => ?_)
                          · replace hb := i_pos c118 hb
                            refine e_k 1 (f' := (222, [(5, .int v99), (4, .int v79), (3, .int v5), (0, .ref 112), (1, .int p2), (2, .int x2)], [.int 0])) rfl ?_
                            obtain ⟨rfl, rfl, rfl⟩ := s_inj hb
                            exact e_r rfl rfl K
                          · replace hb := i_neg c118 hb
                            refine e_k 2 (f' := (222, [(5, .int v99), (4, .int v79), (3, .int v5), (0, .ref 112), (1, .int p2), (2, .int x2)], [.int 1])) rfl ?_
                            obtain ⟨rfl, rfl, rfl⟩ := s_inj hb
                            exact e_r rfl rfl K
                      · replace hb := i_neg c100 hb
                        refine e_k 2 (f' := (if ¬ v79 = 0 then 204 else 195, [(5, .int v99), (4, .int v79), (3, .int v5), (0, .ref 112), (1, .int p2), (2, .int x2)], [])) rfl ?_
                        refine e_if (fun c119 => ?_) (fun c119 => ?_)
                        · replace hb := i_pos c119 hb
                          refine e_k 1 (f' := (205, [(5, .int v99), (4, .int v79), (3, .int v5), (0, .ref 112), (1, .int p2), (2, .int x2)], [.int 0])) rfl ?_
                          obtain ⟨rfl, rfl, rfl⟩ := s_inj hb
                          exact e_r rfl rfl K
                        · replace hb := i_neg c119 hb
                          refine e_k 2 (f' := (if ¬ v99 = 0 then 204 else 200, [(5, .int v99), (4, .int v79), (3, .int v5), (0, .ref 112), (1, .int p2), (2, .int x2)], [])) rfl ?_
                          refine e_if (fun c120 => ?_) (fun c120 => ?_)
                          · replace hb := i_pos c120 hb
                            refine e_k 1 (f' := (205, [(5, .int v99), (4, .int v79), (3, .int v5), (0, .ref 112), (1, .int p2), (2, .int x2)], [.int 0])) rfl ?_
                            obtain ⟨rfl, rfl, rfl⟩ := s_inj hb
                            exact e_r rfl rfl K
                          · replace hb := i_neg c120 hb
                            refine e_k 2 (f' := (205, [(5, .int v99), (4, .int v79), (3, .int v5), (0, .ref 112), (1, .int p2), (2, .int x2)], [.int 1])) rfl ?_
                            obtain ⟨rfl, rfl, rfl⟩ := s_inj hb
                            exact e_r rfl rfl K
                  · replace hb := i_neg c78 hb
                    refine e_k 1 (f' := (166, [(3, .int v5), (0, .ref 112), (1, .int p2), (2, .int x2)], [.int 1])) rfl ?_
                    obtain ⟨rfl, rfl, rfl⟩ := s_inj hb
                    exact e_r rfl rfl K
                · replace hb := i_neg c77 hb
                  refine e_k 1 (f' := (120, [(3, .int v5), (0, .ref 112), (1, .int p2), (2, .int x2)], [.ref 112])) rfl ?_
                  refine r_getr rfl (x_ltn rfl) rfl rfl ?_
                  refine e_k 3 (f' := (126, [(3, .int v5), (0, .ref 112), (1, .int p2), (2, .int x2)], [.int (p2 + 1), .ref 116])) rfl ?_
                  obtain ⟨o121, hb⟩ := ob_in hb
                  refine r_iald rfl rfl (x_ltn rfl) rfl o121 ?_
                  refine e_k 2 (f' := (if 3 < (I 116 (Int32.toNatClampNeg (p2 + 1))) then 155 else 131, [(3, .int v5), (0, .ref 112), (1, .int p2), (2, .int x2)], [])) rfl ?_
                  refine e_if (fun c122 => ?_) (fun c122 => ?_)
                  · replace hb := i_pos c122 hb
                    refine e_k 2 (f' := (160, [(3, .int v5), (0, .ref 112), (1, .int p2), (2, .int x2)], [.int 1])) rfl ?_
                    obtain ⟨rfl, rfl, rfl⟩ := s_inj hb
                    exact e_r rfl rfl K
                  · replace hb := i_neg c122 hb
                    refine e_k 1 (f' := (132, [(3, .int v5), (0, .ref 112), (1, .int p2), (2, .int x2)], [.ref 112])) rfl ?_
                    refine r_getr rfl (x_ltn rfl) rfl rfl ?_
                    refine e_k 3 (f' := (138, [(3, .int v5), (0, .ref 112), (1, .int p2), (2, .int x2)], [.int (p2 + 2), .ref 116])) rfl ?_
                    obtain ⟨o123, hb⟩ := ob_in hb
                    refine r_iald rfl rfl (x_ltn rfl) rfl o123 ?_
                    refine e_k 2 (f' := (if 4 ≤ (I 116 (Int32.toNatClampNeg (p2 + 2))) then 159 else 143, [(3, .int v5), (0, .ref 112), (1, .int p2), (2, .int x2)], [])) rfl ?_
                    refine e_if (fun c124 => ?_) (fun c124 => ?_)
                    · replace hb := i_pos c124 hb
                      refine e_k 1 (f' := (160, [(3, .int v5), (0, .ref 112), (1, .int p2), (2, .int x2)], [.int 0])) rfl ?_
                      obtain ⟨rfl, rfl, rfl⟩ := s_inj hb
                      exact e_r rfl rfl K
                    · replace hb := i_neg c124 hb
                      refine e_k 1 (f' := (144, [(3, .int v5), (0, .ref 112), (1, .int p2), (2, .int x2)], [.ref 112])) rfl ?_
                      refine r_getr rfl (x_ltn rfl) rfl rfl ?_
                      refine e_k 3 (f' := (150, [(3, .int v5), (0, .ref 112), (1, .int p2), (2, .int x2)], [.int (p2 + 3), .ref 116])) rfl ?_
                      obtain ⟨o125, hb⟩ := ob_in hb
                      refine r_iald rfl rfl (x_ltn rfl) rfl o125 ?_
                      refine e_k 2 (f' := (if 4 ≤ (I 116 (Int32.toNatClampNeg (p2 + 3))) then 159 else 155, [(3, .int v5), (0, .ref 112), (1, .int p2), (2, .int x2)], [])) rfl ?_
                      refine e_if (fun c126 => ?_) (fun c126 => ?_)
                      · replace hb := i_pos c126 hb
                        refine e_k 1 (f' := (160, [(3, .int v5), (0, .ref 112), (1, .int p2), (2, .int x2)], [.int 0])) rfl ?_
                        obtain ⟨rfl, rfl, rfl⟩ := s_inj hb
                        exact e_r rfl rfl K
                      · replace hb := i_neg c126 hb
                        refine e_k 2 (f' := (160, [(3, .int v5), (0, .ref 112), (1, .int p2), (2, .int x2)], [.int 1])) rfl ?_
                        obtain ⟨rfl, rfl, rfl⟩ := s_inj hb
                        exact e_r rfl rfl K
            · replace hb := i_neg c32 hb
              refine e_k 2 (f' := (103, [(3, .int v5), (0, .ref 112), (1, .int p2), (2, .int x2)], [.int 1, .ref 112])) rfl ?_
              obtain ⟨v127, I127, J127, h127, hb⟩ := oc_call hb
              refine r_cv (z := m_Model_gives) (As := [.int 1]) (rest := []) rfl rfl rfl rfl rfl (x_ltn rfl) rfl rfl (E_Model_gives  h127 ⟨_, rfl, ?_⟩)
              obtain ⟨o128, hb⟩ := ob_if hb
              obtain ⟨rfl, rfl, rfl⟩ := s_inj hb
              exact e_r rfl (if_pos o128) K
        · replace hb := i_neg c28 hb
          refine e_k 2 (f' := (86, [(3, .int v5), (0, .ref 112), (1, .int p2), (2, .int x2)], [.int 0, .ref 112])) rfl ?_
          obtain ⟨v129, I129, J129, h129, hb⟩ := oc_call hb
          refine r_cv (z := m_Model_gives) (As := [.int 0]) (rest := []) rfl rfl rfl rfl rfl (x_ltn rfl) rfl rfl (E_Model_gives  h129 ⟨_, rfl, ?_⟩)
          obtain ⟨o130, hb⟩ := ob_if hb
          obtain ⟨rfl, rfl, rfl⟩ := s_inj hb
          exact e_r rfl (if_pos o130) K
    · replace hb := i_neg c24 hb
      refine e_k 1 (f' := (73, [(3, .int v5), (0, .ref 112), (1, .int p2), (2, .int x2)], [.int 0])) rfl ?_
      obtain ⟨rfl, rfl, rfl⟩ := s_inj hb
      exact e_r rfl rfl K
  clear hb
  refine e_if (fun c6 => ?_) (fun c6 => ?_)
  · replace h5 := i_pos c6 h5
    refine e_k 3 (f' := (if x2 = 21 then 30 else 24, [(2, .int x2), (0, .ref 112), (1, .int p2)], [])) rfl ?_
    refine e_if (fun c7 => ?_) (fun c7 => ?_)
    · replace h5 := i_pos c7 h5
      refine e_k 2 (f' := (63, [(2, .int x2), (0, .ref 112), (1, .int p2)], [.int 2])) rfl ?_
      refine e_sub (ls := [(0, .ref 112), (1, .int p2), (2, .int x2)]) rfl ⟨rfl, rfl, rfl, trivial⟩ ?_
      subst h5
      exact Kj5
    · replace h5 := i_neg c7 h5
      refine e_k 3 (f' := (if ¬ x2 = 22 then 34 else 30, [(2, .int x2), (0, .ref 112), (1, .int p2)], [])) rfl ?_
      refine e_if (fun c8 => ?_) (fun c8 => ?_)
      · replace h5 := i_pos c8 h5
        refine e_k 3 (f' := (if x2 < 8 then 46 else 40, [(2, .int x2), (0, .ref 112), (1, .int p2)], [])) rfl ?_
        refine e_if (fun c9 => ?_) (fun c9 => ?_)
        · replace h5 := i_pos c9 h5
          refine e_k 3 (f' := (if x2 = 19 then 58 else 52, [(2, .int x2), (0, .ref 112), (1, .int p2)], [])) rfl ?_
          refine e_if (fun c10 => ?_) (fun c10 => ?_)
          · replace h5 := i_pos c10 h5
            refine e_k 2 (f' := (63, [(2, .int x2), (0, .ref 112), (1, .int p2)], [.int 1])) rfl ?_
            refine e_sub (ls := [(0, .ref 112), (1, .int p2), (2, .int x2)]) rfl ⟨rfl, rfl, rfl, trivial⟩ ?_
            subst h5
            exact Kj5
          · replace h5 := i_neg c10 h5
            refine e_k 3 (f' := (if ¬ x2 = 20 then 62 else 58, [(2, .int x2), (0, .ref 112), (1, .int p2)], [])) rfl ?_
            refine e_if (fun c11 => ?_) (fun c11 => ?_)
            · replace h5 := i_pos c11 h5
              refine e_k 1 (f' := (63, [(2, .int x2), (0, .ref 112), (1, .int p2)], [.int 0])) rfl ?_
              refine e_sub (ls := [(0, .ref 112), (1, .int p2), (2, .int x2)]) rfl ⟨rfl, rfl, rfl, trivial⟩ ?_
              subst h5
              exact Kj5
            · replace h5 := i_neg c11 h5
              refine e_k 2 (f' := (63, [(2, .int x2), (0, .ref 112), (1, .int p2)], [.int 1])) rfl ?_
              refine e_sub (ls := [(0, .ref 112), (1, .int p2), (2, .int x2)]) rfl ⟨rfl, rfl, rfl, trivial⟩ ?_
              subst h5
              exact Kj5
        · replace h5 := i_neg c9 h5
          refine e_k 3 (f' := (if x2 ≤ 12 then 58 else 46, [(2, .int x2), (0, .ref 112), (1, .int p2)], [])) rfl ?_
          refine e_if (fun c12 => ?_) (fun c12 => ?_)
          · replace h5 := i_pos c12 h5
            refine e_k 2 (f' := (63, [(2, .int x2), (0, .ref 112), (1, .int p2)], [.int 1])) rfl ?_
            refine e_sub (ls := [(0, .ref 112), (1, .int p2), (2, .int x2)]) rfl ⟨rfl, rfl, rfl, trivial⟩ ?_
            subst h5
            exact Kj5
          · replace h5 := i_neg c12 h5
            refine e_k 3 (f' := (if x2 = 19 then 58 else 52, [(2, .int x2), (0, .ref 112), (1, .int p2)], [])) rfl ?_
            refine e_if (fun c13 => ?_) (fun c13 => ?_)
            · replace h5 := i_pos c13 h5
              refine e_k 2 (f' := (63, [(2, .int x2), (0, .ref 112), (1, .int p2)], [.int 1])) rfl ?_
              refine e_sub (ls := [(0, .ref 112), (1, .int p2), (2, .int x2)]) rfl ⟨rfl, rfl, rfl, trivial⟩ ?_
              subst h5
              exact Kj5
            · replace h5 := i_neg c13 h5
              refine e_k 3 (f' := (if ¬ x2 = 20 then 62 else 58, [(2, .int x2), (0, .ref 112), (1, .int p2)], [])) rfl ?_
              refine e_if (fun c14 => ?_) (fun c14 => ?_)
              · replace h5 := i_pos c14 h5
                refine e_k 1 (f' := (63, [(2, .int x2), (0, .ref 112), (1, .int p2)], [.int 0])) rfl ?_
                refine e_sub (ls := [(0, .ref 112), (1, .int p2), (2, .int x2)]) rfl ⟨rfl, rfl, rfl, trivial⟩ ?_
                subst h5
                exact Kj5
              · replace h5 := i_neg c14 h5
                refine e_k 2 (f' := (63, [(2, .int x2), (0, .ref 112), (1, .int p2)], [.int 1])) rfl ?_
                refine e_sub (ls := [(0, .ref 112), (1, .int p2), (2, .int x2)]) rfl ⟨rfl, rfl, rfl, trivial⟩ ?_
                subst h5
                exact Kj5
      · replace h5 := i_neg c8 h5
        refine e_k 2 (f' := (63, [(2, .int x2), (0, .ref 112), (1, .int p2)], [.int 2])) rfl ?_
        refine e_sub (ls := [(0, .ref 112), (1, .int p2), (2, .int x2)]) rfl ⟨rfl, rfl, rfl, trivial⟩ ?_
        subst h5
        exact Kj5
  · replace h5 := i_neg c6 h5
    refine e_k 3 (f' := (if x2 ≤ 7 then 30 else 18, [(2, .int x2), (0, .ref 112), (1, .int p2)], [])) rfl ?_
    refine e_if (fun c15 => ?_) (fun c15 => ?_)
    · replace h5 := i_pos c15 h5
      refine e_k 2 (f' := (63, [(2, .int x2), (0, .ref 112), (1, .int p2)], [.int 2])) rfl ?_
      refine e_sub (ls := [(0, .ref 112), (1, .int p2), (2, .int x2)]) rfl ⟨rfl, rfl, rfl, trivial⟩ ?_
      subst h5
      exact Kj5
    · replace h5 := i_neg c15 h5
      refine e_k 3 (f' := (if x2 = 21 then 30 else 24, [(2, .int x2), (0, .ref 112), (1, .int p2)], [])) rfl ?_
      refine e_if (fun c16 => ?_) (fun c16 => ?_)
      · replace h5 := i_pos c16 h5
        refine e_k 2 (f' := (63, [(2, .int x2), (0, .ref 112), (1, .int p2)], [.int 2])) rfl ?_
        refine e_sub (ls := [(0, .ref 112), (1, .int p2), (2, .int x2)]) rfl ⟨rfl, rfl, rfl, trivial⟩ ?_
        subst h5
        exact Kj5
      · replace h5 := i_neg c16 h5
        refine e_k 3 (f' := (if ¬ x2 = 22 then 34 else 30, [(2, .int x2), (0, .ref 112), (1, .int p2)], [])) rfl ?_
        refine e_if (fun c17 => ?_) (fun c17 => ?_)
        · replace h5 := i_pos c17 h5
          refine e_k 3 (f' := (if x2 < 8 then 46 else 40, [(2, .int x2), (0, .ref 112), (1, .int p2)], [])) rfl ?_
          refine e_if (fun c18 => ?_) (fun c18 => ?_)
          · replace h5 := i_pos c18 h5
            refine e_k 3 (f' := (if x2 = 19 then 58 else 52, [(2, .int x2), (0, .ref 112), (1, .int p2)], [])) rfl ?_
            refine e_if (fun c19 => ?_) (fun c19 => ?_)
            · replace h5 := i_pos c19 h5
              refine e_k 2 (f' := (63, [(2, .int x2), (0, .ref 112), (1, .int p2)], [.int 1])) rfl ?_
              refine e_sub (ls := [(0, .ref 112), (1, .int p2), (2, .int x2)]) rfl ⟨rfl, rfl, rfl, trivial⟩ ?_
              subst h5
              exact Kj5
            · replace h5 := i_neg c19 h5
              refine e_k 3 (f' := (if ¬ x2 = 20 then 62 else 58, [(2, .int x2), (0, .ref 112), (1, .int p2)], [])) rfl ?_
              refine e_if (fun c20 => ?_) (fun c20 => ?_)
              · replace h5 := i_pos c20 h5
                refine e_k 1 (f' := (63, [(2, .int x2), (0, .ref 112), (1, .int p2)], [.int 0])) rfl ?_
                refine e_sub (ls := [(0, .ref 112), (1, .int p2), (2, .int x2)]) rfl ⟨rfl, rfl, rfl, trivial⟩ ?_
                subst h5
                exact Kj5
              · replace h5 := i_neg c20 h5
                refine e_k 2 (f' := (63, [(2, .int x2), (0, .ref 112), (1, .int p2)], [.int 1])) rfl ?_
                refine e_sub (ls := [(0, .ref 112), (1, .int p2), (2, .int x2)]) rfl ⟨rfl, rfl, rfl, trivial⟩ ?_
                subst h5
                exact Kj5
          · replace h5 := i_neg c18 h5
            refine e_k 3 (f' := (if x2 ≤ 12 then 58 else 46, [(2, .int x2), (0, .ref 112), (1, .int p2)], [])) rfl ?_
            refine e_if (fun c21 => ?_) (fun c21 => ?_)
            · replace h5 := i_pos c21 h5
              refine e_k 2 (f' := (63, [(2, .int x2), (0, .ref 112), (1, .int p2)], [.int 1])) rfl ?_
              refine e_sub (ls := [(0, .ref 112), (1, .int p2), (2, .int x2)]) rfl ⟨rfl, rfl, rfl, trivial⟩ ?_
              subst h5
              exact Kj5
            · replace h5 := i_neg c21 h5
              refine e_k 3 (f' := (if x2 = 19 then 58 else 52, [(2, .int x2), (0, .ref 112), (1, .int p2)], [])) rfl ?_
              refine e_if (fun c22 => ?_) (fun c22 => ?_)
              · replace h5 := i_pos c22 h5
                refine e_k 2 (f' := (63, [(2, .int x2), (0, .ref 112), (1, .int p2)], [.int 1])) rfl ?_
                refine e_sub (ls := [(0, .ref 112), (1, .int p2), (2, .int x2)]) rfl ⟨rfl, rfl, rfl, trivial⟩ ?_
                subst h5
                exact Kj5
              · replace h5 := i_neg c22 h5
                refine e_k 3 (f' := (if ¬ x2 = 20 then 62 else 58, [(2, .int x2), (0, .ref 112), (1, .int p2)], [])) rfl ?_
                refine e_if (fun c23 => ?_) (fun c23 => ?_)
                · replace h5 := i_pos c23 h5
                  refine e_k 1 (f' := (63, [(2, .int x2), (0, .ref 112), (1, .int p2)], [.int 0])) rfl ?_
                  refine e_sub (ls := [(0, .ref 112), (1, .int p2), (2, .int x2)]) rfl ⟨rfl, rfl, rfl, trivial⟩ ?_
                  subst h5
                  exact Kj5
                · replace h5 := i_neg c23 h5
                  refine e_k 2 (f' := (63, [(2, .int x2), (0, .ref 112), (1, .int p2)], [.int 1])) rfl ?_
                  refine e_sub (ls := [(0, .ref 112), (1, .int p2), (2, .int x2)]) rfl ⟨rfl, rfl, rfl, trivial⟩ ?_
                  subst h5
                  exact Kj5
        · replace h5 := i_neg c17 h5
          refine e_k 2 (f' := (63, [(2, .int x2), (0, .ref 112), (1, .int p2)], [.int 2])) rfl ?_
          refine e_sub (ls := [(0, .ref 112), (1, .int p2), (2, .int x2)]) rfl ⟨rfl, rfl, rfl, trivial⟩ ?_
          subst h5
          exact Kj5
end AUTO
