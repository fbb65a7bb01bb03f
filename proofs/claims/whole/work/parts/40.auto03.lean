section AUTO
variable {L : Nat} {xs : Nat → Int32} {d : Nat} {P : am_R → am_H → Prop}
theorem E_Model_readOut {X : MX} {I : MI} {J : MJ} {v : Int32} {I' : MI} {J' : MJ} (hb : f_Model_readOut  I J = some (v, I', J')) (K : P (.inl (some (.int v))) (hX X I' J')) : am_E (gG L xs) (d + 3) m_Model_readOut (0, lv_args 0 [.ref 112], []) (hX X I J) P := by
  unfold f_Model_readOut at hb
  refine e_k 2 (f' := (2, [(0, .ref 112)], [.ref 112, .ref 112])) rfl ?_
  refine r_geti rfl (x_ltn rfl) rfl rfl ?_
  refine e_k 2 (f' := (7, [(0, .ref 112)], [.int ((I 112 5) + 1), .ref 112])) rfl ?_
  obtain ⟨I1, eI1, hb⟩ := p_nm hb
  refine r_puti' rfl (x_ltn rfl) rfl rfl eI1 ?_
  refine e_k 1 (f' := (11, [(0, .ref 112)], [.ref 112])) rfl ?_
  obtain ⟨v2, I2, J2, h2, hb⟩ := oc_call hb
  refine r_cv (z := m_Model_isVariable) (As := []) (rest := []) rfl rfl rfl rfl rfl (x_ltn rfl) rfl rfl (E_Model_isVariable  h2 ⟨_, rfl, ?_⟩)
  refine e_k 1 (f' := (if ¬ v2 = 0 then 22 else 17, [(0, .ref 112)], [])) rfl ?_
  refine e_if (fun c3 => ?_) (fun c3 => ?_)
  · replace hb := i_pos c3 hb
    refine e_k 1 (f' := (23, [(0, .ref 112)], [.ref 112])) rfl ?_
    obtain ⟨v4, I4, J4, h4, hb⟩ := oc_call hb
    refine r_cv (z := m_Model_see) (As := []) (rest := []) rfl rfl rfl rfl rfl (x_ltn rfl) rfl rfl (E_Model_see  h4 ⟨_, rfl, ?_⟩)
    refine e_k 3 (f' := (29, [(1, .int v4), (0, .ref 112)], [.ref 112, .ref 112])) rfl ?_
    refine r_geti rfl (x_ltn rfl) rfl rfl ?_
    refine e_k 2 (f' := (34, [(1, .int v4), (0, .ref 112)], [.int ((I4 112 5) + 1), .ref 112])) rfl ?_
    obtain ⟨I5, eI5, hb⟩ := p_nm hb
    refine r_puti' rfl (x_ltn rfl) rfl rfl eI5 ?_
    refine e_k 2 (f' := (39, [(1, .int v4), (0, .ref 112)], [.int v4, .ref 112])) rfl ?_
    obtain ⟨v6, I6, J6, h6, hb⟩ := oc_call hb
    refine r_cs (z := m_Model_isClear) (As := [.int v4]) (rest := [.ref 112]) rfl rfl rfl rfl rfl rfl (E_Model_isClear  h6 ⟨_, rfl, ?_⟩)
    refine e_k 1 (f' := (if v6 = 0 then 50 else 45, [(1, .int v4), (0, .ref 112)], [.ref 112])) rfl ?_
    obtain ⟨v8, h8, hb⟩ := p_nn hb
    have Kj8 : am_E (gG L xs) (d + 3) m_Model_readOut (52, [(0, .ref 112), (1, .int v4)], [.int v8, .ref 112]) (hX X I6 J6) P := by
      refine e_k 1 (f' := (53, [(0, .ref 112), (1, .int v4)], [.int v4, .int v8, .ref 112])) rfl ?_
      obtain ⟨v10, I10, J10, h10, hb⟩ := oc_call hb
      refine r_cs (z := m_Model_numberOf) (As := [.int v4]) (rest := [.int v8, .ref 112]) rfl rfl rfl rfl rfl rfl (E_Model_numberOf  h10 ⟨_, rfl, ?_⟩)
      obtain ⟨v11, I11, J11, h11, hb⟩ := oc_call hb
      refine r_cv (z := m_Model_lay_IIV) (As := [.int v8, .int v10]) (rest := []) rfl rfl rfl rfl rfl (x_ltn rfl) rfl rfl (E_Model_lay_IIV  h11 ⟨_, rfl, ?_⟩)
      refine e_k 2 (f' := (62, [(0, .ref 112), (1, .int v4)], [.int 59, .ref 112])) rfl ?_
      obtain ⟨v12, I12, J12, h12, hb⟩ := oc_call hb
      refine r_cv (z := m_Model_want) (As := [.int 59]) (rest := []) rfl rfl rfl rfl rfl (x_ltn rfl) rfl rfl (E_Model_want  h12 ⟨_, rfl, ?_⟩)
      obtain ⟨o13, hb⟩ := ob_if hb
      obtain ⟨rfl, rfl, rfl⟩ := s_inj hb
      exact e_r rfl (if_pos o13) K
    clear hb
    refine e_if (fun c9 => ?_) (fun c9 => ?_)
    · replace h8 := i_pos c9 h8
      refine e_k 1 (f' := (52, [(1, .int v4), (0, .ref 112)], [.int 16, .ref 112])) rfl ?_
      refine e_sub (ls := [(0, .ref 112), (1, .int v4)]) rfl ⟨rfl, rfl, trivial⟩ ?_
      subst h8
      exact Kj8
    · replace h8 := i_neg c9 h8
      refine e_k 2 (f' := (52, [(1, .int v4), (0, .ref 112)], [.int 15, .ref 112])) rfl ?_
      refine e_sub (ls := [(0, .ref 112), (1, .int v4)]) rfl ⟨rfl, rfl, trivial⟩ ?_
      subst h8
      exact Kj8
  · replace hb := i_neg c3 hb
    refine e_k 1 (f' := (18, [(0, .ref 112)], [.ref 112])) rfl ?_
    obtain ⟨v14, I14, J14, h14, hb⟩ := oc_call hb
    refine r_cv (z := m_Model_refuse) (As := []) (rest := []) rfl rfl rfl rfl rfl (x_ltn rfl) rfl rfl (E_Model_refuse  h14 ⟨_, rfl, ?_⟩)
    obtain ⟨o15, hb⟩ := ob_if hb
    obtain ⟨rfl, rfl, rfl⟩ := s_inj hb
    exact e_r rfl (if_pos o15) K
theorem E_Model_fill {p2 : Int32} {p3 : Int32} {X : MX} {I : MI} {J : MJ} {v : Unit} {I' : MI} {J' : MJ} (hb : f_Model_fill p2 p3 I J = some (v, I', J')) (K : P (.inl (none)) (hX X I' J')) : am_E (gG L xs) d m_Model_fill (0, lv_args 0 [.ref 112, .int p2, .int p3], []) (hX X I J) P := by
  unfold f_Model_fill at hb
  refine e_k 1 (f' := (1, [(0, .ref 112), (1, .int p2), (2, .int p3)], [.ref 112])) rfl ?_
  refine r_getr rfl (x_ltn rfl) rfl rfl ?_
  refine e_k 4 (f' := (9, [(0, .ref 112), (1, .int p2), (2, .int p3)], [.int (p3 >>> (8 &&& 31)), .int p2, .ref 115])) rfl ?_
  obtain ⟨o1, hb⟩ := ob_in hb
  obtain ⟨I2, eI2, hb⟩ := p_nm hb
  refine r_iast' rfl (x_ltn rfl) rfl o1 eI2 ?_
  refine e_k 1 (f' := (11, [(0, .ref 112), (1, .int p2), (2, .int p3)], [.ref 112])) rfl ?_
  refine r_getr rfl (x_ltn rfl) rfl rfl ?_
  refine e_k 6 (f' := (22, [(0, .ref 112), (1, .int p2), (2, .int p3)], [.int (p3 &&& 255), .int (p2 + 1), .ref 115])) rfl ?_
  obtain ⟨o3, hb⟩ := ob_in hb
  obtain ⟨I4, eI4, hb⟩ := p_nm hb
  refine r_iast' rfl (x_ltn rfl) rfl o3 eI4 ?_
  obtain ⟨rfl, rfl, rfl⟩ := s_inj hb
  exact e_r rfl rfl K
theorem E_Model_readTurn {R : M3} {p2 : Int32} {X : MX} {I : MI} {J : MJ} {v : Int32} {I' : MI} {J' : MJ} (hR_0 : ∀ {I : MI} {J : MJ} {v : Int32} {I' : MI} {J' : MJ} {P : am_R → am_H → Prop}, R 0 0 0 I J = some (v, I', J') → P (.inl (some (.int v))) (hX X I' J') → am_E (gG L xs) (d + 2) m_Model_readX (0, lv_args 0 [.ref 112], []) (hX X I J) P) (hR_1 : ∀ {I : MI} {J : MJ} {v : Int32} {I' : MI} {J' : MJ} {P : am_R → am_H → Prop}, R 1 0 0 I J = some (v, I', J') → P (.inl (some (.int v))) (hX X I' J') → am_E (gG L xs) (d + 2) m_Model_readProduct (0, lv_args 0 [.ref 112], []) (hX X I J) P) (hR_2 : ∀ {I : MI} {J : MJ} {v : Int32} {I' : MI} {J' : MJ} {P : am_R → am_H → Prop}, R 2 0 0 I J = some (v, I', J') → P (.inl (some (.int v))) (hX X I' J') → am_E (gG L xs) (d + 2) m_Model_readFactor (0, lv_args 0 [.ref 112], []) (hX X I J) P) (hR_3 : ∀ {I : MI} {J : MJ} {v : Int32} {I' : MI} {J' : MJ} {P : am_R → am_H → Prop}, R 3 0 0 I J = some (v, I', J') → P (.inl (some (.int v))) (hX X I' J') → am_E (gG L xs) (d + 2) m_Model_readPart (0, lv_args 0 [.ref 112], []) (hX X I J) P) (hR_4 : ∀ {I : MI} {J : MJ} {v : Int32} {I' : MI} {J' : MJ} {P : am_R → am_H → Prop}, R 4 0 0 I J = some (v, I', J') → P (.inl (some (.int v))) (hX X I' J') → am_E (gG L xs) (d + 2) m_Model_readPlace (0, lv_args 0 [.ref 112], []) (hX X I J) P) (hR_5 : ∀ {I : MI} {J : MJ} {v : Int32} {I' : MI} {J' : MJ} {P : am_R → am_H → Prop}, R 5 0 0 I J = some (v, I', J') → P (.inl (some (.int v))) (hX X I' J') → am_E (gG L xs) (d + 2) m_Model_readStatements (0, lv_args 0 [.ref 112], []) (hX X I J) P) (hR_6 : ∀ {I : MI} {J : MJ} {v : Int32} {I' : MI} {J' : MJ} {P : am_R → am_H → Prop}, R 6 0 0 I J = some (v, I', J') → P (.inl (some (.int v))) (hX X I' J') → am_E (gG L xs) (d + 2) m_Model_readStatement (0, lv_args 0 [.ref 112], []) (hX X I J) P) (hR_7 : ∀ {I : MI} {J : MJ} {v : Int32} {I' : MI} {J' : MJ} {P : am_R → am_H → Prop}, R 7 0 0 I J = some (v, I', J') → P (.inl (some (.int v))) (hX X I' J') → am_E (gG L xs) (d + 2) m_Model_readRoutine (0, lv_args 0 [.ref 112], []) (hX X I J) P) (hR_8 : ∀ {a0 : Int32} {a1 : Int32} {I : MI} {J : MJ} {v : Int32} {I' : MI} {J' : MJ} {P : am_R → am_H → Prop}, R 8 a0 a1 I J = some (v, I', J') → P (.inl (some (.int v))) (hX X I' J') → am_E (gG L xs) (d + 2) m_Model_readValue (0, lv_args 0 [.ref 112, .int a0, .int a1], []) (hX X I J) P) (hR_9 : ∀ {a0 : Int32} {I : MI} {J : MJ} {v : Int32} {I' : MI} {J' : MJ} {P : am_R → am_H → Prop}, R 9 a0 0 I J = some (v, I', J') → P (.inl (some (.int v))) (hX X I' J') → am_E (gG L xs) (d + 2) m_Model_readRow (0, lv_args 0 [.ref 112, .int a0], []) (hX X I J) P) (hR_10 : ∀ {a0 : Int32} {I : MI} {J : MJ} {v : Int32} {I' : MI} {J' : MJ} {P : am_R → am_H → Prop}, R 10 a0 0 I J = some (v, I', J') → P (.inl (some (.int v))) (hX X I' J') → am_E (gG L xs) (d + 2) m_Model_readTurn (0, lv_args 0 [.ref 112, .int a0], []) (hX X I J) P) (hb : f_Model_readTurn R p2 I J = some (v, I', J')) (K : P (.inl (some (.int v))) (hX X I' J')) : am_E (gG L xs) (d + 3) m_Model_readTurn (0, lv_args 0 [.ref 112, .int p2], []) (hX X I J) P := by
  unfold f_Model_readTurn at hb
  refine e_k 1 (f' := (1, [(0, .ref 112), (1, .int p2)], [.ref 112])) rfl ?_
  refine r_geti rfl (x_ltn rfl) rfl rfl ?_
  refine e_k 2 (f' := (if (I 112 15) < 20 then 14 else 9, [(0, .ref 112), (1, .int p2)], [])) rfl ?_
  refine e_if (fun c1 => ?_) (fun c1 => ?_)
  · replace hb := i_pos c1 hb
    refine e_k 2 (f' := (16, [(0, .ref 112), (1, .int p2)], [.ref 112, .ref 112])) rfl ?_
    refine r_geti rfl (x_ltn rfl) rfl rfl ?_
    refine e_k 2 (f' := (21, [(0, .ref 112), (1, .int p2)], [.int ((I 112 15) + 1), .ref 112])) rfl ?_
    obtain ⟨I2, eI2, hb⟩ := p_nm hb
    refine r_puti' rfl (x_ltn rfl) rfl rfl eI2 ?_
    refine e_k 2 (f' := (26, [(0, .ref 112), (1, .int p2)], [.ref 112, .ref 112])) rfl ?_
    refine r_geti rfl (x_ltn rfl) rfl rfl ?_
    refine e_k 2 (f' := (31, [(0, .ref 112), (1, .int p2)], [.int ((I2 112 79) + 1), .ref 112])) rfl ?_
    obtain ⟨I3, eI3, hb⟩ := p_nm hb
    refine r_puti' rfl (x_ltn rfl) rfl rfl eI3 ?_
    refine e_k 2 (f' := (36, [(0, .ref 112), (1, .int p2)], [.ref 112, .ref 112])) rfl ?_
    refine r_geti rfl (x_ltn rfl) rfl rfl ?_
    refine e_k 2 (f' := (41, [(0, .ref 112), (1, .int p2)], [.int ((I3 112 5) + 1), .ref 112])) rfl ?_
    obtain ⟨I4, eI4, hb⟩ := p_nm hb
    refine r_puti' rfl (x_ltn rfl) rfl rfl eI4 ?_
    refine e_k 1 (f' := (45, [(0, .ref 112), (1, .int p2)], [.ref 112])) rfl ?_
    obtain ⟨v5, I5, J5, h5, hb⟩ := oc_call hb
    refine r_cv (z := m_Model_isVariable) (As := []) (rest := []) rfl rfl rfl rfl rfl (x_ltn rfl) rfl rfl (E_Model_isVariable  h5 ⟨_, rfl, ?_⟩)
    refine e_k 1 (f' := (if ¬ v5 = 0 then 56 else 51, [(0, .ref 112), (1, .int p2)], [])) rfl ?_
    refine e_if (fun c6 => ?_) (fun c6 => ?_)
    · replace hb := i_pos c6 hb
      refine e_k 1 (f' := (57, [(0, .ref 112), (1, .int p2)], [.ref 112])) rfl ?_
      obtain ⟨v7, I7, J7, h7, hb⟩ := oc_call hb
      refine r_cv (z := m_Model_see) (As := []) (rest := []) rfl rfl rfl rfl rfl (x_ltn rfl) rfl rfl (E_Model_see  h7 ⟨_, rfl, ?_⟩)
      obtain ⟨v8, I8, J8, h8, hb⟩ := oc_call hb
      refine r_cs (z := m_Model_isSecret) (As := [.int v7]) (rest := []) rfl rfl rfl rfl rfl rfl (E_Model_isSecret  h8 ⟨_, rfl, ?_⟩)
      refine e_k 1 (f' := (if v8 = 0 then 75 else 66, [(0, .ref 112), (1, .int p2)], [])) rfl ?_
      obtain ⟨v10, I10, J10, h10, hb⟩ := oc_call hb
      have Kj10 : am_E (gG L xs) (d + 3) m_Model_readTurn (75, [(0, .ref 112), (1, .int p2)], []) (hX X I10 J10) P := by
        refine e_k 1 (f' := (76, [(0, .ref 112), (1, .int p2)], [.ref 112])) rfl ?_
        obtain ⟨v13, I13, J13, h13, hb⟩ := oc_call hb
        refine r_cv (z := m_Model_see) (As := []) (rest := []) rfl rfl rfl rfl rfl (x_ltn rfl) rfl rfl (E_Model_see  h13 ⟨_, rfl, ?_⟩)
        obtain ⟨v14, I14, J14, h14, hb⟩ := oc_call hb
        refine r_cs (z := m_Model_numberOf) (As := [.int v13]) (rest := []) rfl rfl rfl rfl rfl rfl (E_Model_numberOf  h14 ⟨_, rfl, ?_⟩)
        refine e_k 3 (f' := (85, [(2, .int v14), (0, .ref 112), (1, .int p2)], [.ref 112, .ref 112])) rfl ?_
        refine r_geti rfl (x_ltn rfl) rfl rfl ?_
        refine e_k 2 (f' := (90, [(2, .int v14), (0, .ref 112), (1, .int p2)], [.int ((I14 112 5) + 1), .ref 112])) rfl ?_
        obtain ⟨I15, eI15, hb⟩ := p_nm hb
        refine r_puti' rfl (x_ltn rfl) rfl rfl eI15 ?_
        refine e_k 2 (f' := (96, [(2, .int v14), (0, .ref 112), (1, .int p2)], [.int 91, .ref 112])) rfl ?_
        obtain ⟨v16, I16, J16, h16, hb⟩ := oc_call hb
        refine r_cv (z := m_Model_want) (As := [.int 91]) (rest := []) rfl rfl rfl rfl rfl (x_ltn rfl) rfl rfl (E_Model_want  h16 ⟨_, rfl, ?_⟩)
        refine e_k 1 (f' := (if ¬ v16 = 0 then 104 else 102, [(2, .int v14), (0, .ref 112), (1, .int p2)], [])) rfl ?_
        refine e_if (fun c17 => ?_) (fun c17 => ?_)
        · replace hb := i_pos c17 hb
          refine e_k 1 (f' := (105, [(2, .int v14), (0, .ref 112), (1, .int p2)], [.ref 112])) rfl ?_
          refine r_geti rfl (x_ltn rfl) rfl rfl ?_
          refine e_k 1 (f' := (109, [(3, .int (I16 112 10)), (2, .int v14), (0, .ref 112), (1, .int p2)], [])) rfl ?_
          obtain ⟨x18, ex18, hb⟩ := p_nm hb
          rw [← ex18]
          refine e_k 3 (f' := (113, [(3, .int x18), (2, .int v14), (0, .ref 112), (1, .int p2)], [.int v14, .int 17, .ref 112])) rfl ?_
          obtain ⟨v19, I19, J19, h19, hb⟩ := oc_call hb
          refine r_cv (z := m_Model_lay_IIV) (As := [.int 17, .int v14]) (rest := []) rfl rfl rfl rfl rfl (x_ltn rfl) rfl rfl (E_Model_lay_IIV  h19 ⟨_, rfl, ?_⟩)
          refine e_k 1 (f' := (117, [(3, .int x18), (2, .int v14), (0, .ref 112), (1, .int p2)], [.ref 112])) rfl ?_
          refine r_geti rfl (x_ltn rfl) rfl rfl ?_
          refine e_k 1 (f' := (122, [(4, .int (I19 112 10)), (3, .int x18), (2, .int v14), (0, .ref 112), (1, .int p2)], [])) rfl ?_
          obtain ⟨x20, ex20, hb⟩ := p_nm hb
          rw [← ex20]
          refine e_k 3 (f' := (125, [(4, .int x20), (3, .int x18), (2, .int v14), (0, .ref 112), (1, .int p2)], [.int 0, .int 0, .ref 112])) rfl ?_
          obtain ⟨v21, I21, J21, h21, hb⟩ := oc_call hb
          refine r_cv (z := m_Model_lay_IIV) (As := [.int 0, .int 0]) (rest := []) rfl rfl rfl rfl rfl (x_ltn rfl) rfl rfl (E_Model_lay_IIV  h21 ⟨_, rfl, ?_⟩)
          refine e_k 1 (f' := (129, [(4, .int x20), (3, .int x18), (2, .int v14), (0, .ref 112), (1, .int p2)], [.ref 112])) rfl ?_
          obtain ⟨v22, I22, J22, h22, hb⟩ := oc_call hb
          refine r_cv (z := m_Model_readStatements) (As := []) (rest := []) rfl rfl rfl rfl rfl (x_ltn rfl) rfl rfl (hR_5  h22 ⟨_, rfl, ?_⟩)
          refine e_k 1 (f' := (if ¬ v22 = 0 then 137 else 135, [(4, .int x20), (3, .int x18), (2, .int v14), (0, .ref 112), (1, .int p2)], [])) rfl ?_
          refine e_if (fun c23 => ?_) (fun c23 => ?_)
          · replace hb := i_pos c23 hb
            refine e_k 2 (f' := (140, [(4, .int x20), (3, .int x18), (2, .int v14), (0, .ref 112), (1, .int p2)], [.int 18, .ref 112])) rfl ?_
            obtain ⟨v24, I24, J24, h24, hb⟩ := oc_call hb
            refine r_cv (z := m_Model_lay_IV) (As := [.int 18]) (rest := []) rfl rfl rfl rfl rfl (x_ltn rfl) rfl rfl (E_Model_lay_IV  h24 ⟨_, rfl, ?_⟩)
            refine e_k 1 (f' := (144, [(4, .int x20), (3, .int x18), (2, .int v14), (0, .ref 112), (1, .int p2)], [.ref 112])) rfl ?_
            refine r_geti rfl (x_ltn rfl) rfl rfl ?_
            refine e_k 1 (f' := (149, [(5, .int (I24 112 10)), (4, .int x20), (3, .int x18), (2, .int v14), (0, .ref 112), (1, .int p2)], [])) rfl ?_
            obtain ⟨x25, ex25, hb⟩ := p_nm hb
            rw [← ex25]
            refine e_k 3 (f' := (152, [(5, .int x25), (4, .int x20), (3, .int x18), (2, .int v14), (0, .ref 112), (1, .int p2)], [.int 0, .int 0, .ref 112])) rfl ?_
            obtain ⟨v26, I26, J26, h26, hb⟩ := oc_call hb
            refine r_cv (z := m_Model_lay_IIV) (As := [.int 0, .int 0]) (rest := []) rfl rfl rfl rfl rfl (x_ltn rfl) rfl rfl (E_Model_lay_IIV  h26 ⟨_, rfl, ?_⟩)
            refine e_k 3 (f' := (if ¬ p2 = 63 then 204 else 161, [(5, .int x25), (4, .int x20), (3, .int x18), (2, .int v14), (0, .ref 112), (1, .int p2)], [])) rfl ?_
            refine e_if (fun c27 => ?_) (fun c27 => ?_)
            · replace hb := i_pos c27 hb
              refine e_k 3 (f' := (208, [(5, .int x25), (4, .int x20), (3, .int x18), (2, .int v14), (0, .ref 112), (1, .int p2)], [.int x18, .int x25, .ref 112])) rfl ?_
              obtain ⟨v28, I28, J28, h28, hb⟩ := oc_call hb
              refine r_cv (z := m_Model_fill) (As := [.int x25, .int x18]) (rest := []) rfl rfl rfl rfl rfl (x_ltn rfl) rfl rfl (E_Model_fill  h28 ⟨_, rfl, ?_⟩)
              refine e_k 3 (f' := (215, [(5, .int x25), (4, .int x20), (3, .int x18), (2, .int v14), (0, .ref 112), (1, .int p2)], [.ref 112, .int x20, .ref 112])) rfl ?_
              refine r_geti rfl (x_ltn rfl) rfl rfl ?_
              obtain ⟨v29, I29, J29, h29, hb⟩ := oc_call hb
              refine r_cv (z := m_Model_fill) (As := [.int x20, .int (I28 112 10)]) (rest := []) rfl rfl rfl rfl rfl (x_ltn rfl) rfl rfl (E_Model_fill  h29 ⟨_, rfl, ?_⟩)
              refine e_k 2 (f' := (223, [(5, .int x25), (4, .int x20), (3, .int x18), (2, .int v14), (0, .ref 112), (1, .int p2)], [.ref 112, .ref 112])) rfl ?_
              refine r_geti rfl (x_ltn rfl) rfl rfl ?_
              refine e_k 2 (f' := (228, [(5, .int x25), (4, .int x20), (3, .int x18), (2, .int v14), (0, .ref 112), (1, .int p2)], [.int ((I29 112 15) - 1), .ref 112])) rfl ?_
              obtain ⟨I30, eI30, hb⟩ := p_nm hb
              refine r_puti' rfl (x_ltn rfl) rfl rfl eI30 ?_
              refine e_k 2 (f' := (233, [(5, .int x25), (4, .int x20), (3, .int x18), (2, .int v14), (0, .ref 112), (1, .int p2)], [.ref 112, .ref 112])) rfl ?_
              refine r_geti rfl (x_ltn rfl) rfl rfl ?_
              refine e_k 2 (f' := (238, [(5, .int x25), (4, .int x20), (3, .int x18), (2, .int v14), (0, .ref 112), (1, .int p2)], [.int ((I30 112 79) - 1), .ref 112])) rfl ?_
              obtain ⟨I31, eI31, hb⟩ := p_nm hb
              refine r_puti' rfl (x_ltn rfl) rfl rfl eI31 ?_
              refine e_k 2 (f' := (244, [(5, .int x25), (4, .int x20), (3, .int x18), (2, .int v14), (0, .ref 112), (1, .int p2)], [.int 93, .ref 112])) rfl ?_
              obtain ⟨v32, I32, J32, h32, hb⟩ := oc_call hb
              refine r_cv (z := m_Model_want) (As := [.int 93]) (rest := []) rfl rfl rfl rfl rfl (x_ltn rfl) rfl rfl (E_Model_want  h32 ⟨_, rfl, ?_⟩)
              obtain ⟨o33, hb⟩ := ob_if hb
              obtain ⟨rfl, rfl, rfl⟩ := s_inj hb
              exact e_r rfl (if_pos o33) K
            · replace hb := i_neg c27 hb
              refine e_k 2 (f' := (164, [(5, .int x25), (4, .int x20), (3, .int x18), (2, .int v14), (0, .ref 112), (1, .int p2)], [.int 124, .ref 112])) rfl ?_
              obtain ⟨v34, I34, J34, h34, hb⟩ := oc_call hb
              refine r_cv (z := m_Model_want) (As := [.int 124]) (rest := []) rfl rfl rfl rfl rfl (x_ltn rfl) rfl rfl (E_Model_want  h34 ⟨_, rfl, ?_⟩)
              refine e_k 1 (f' := (if ¬ v34 = 0 then 172 else 170, [(5, .int x25), (4, .int x20), (3, .int x18), (2, .int v14), (0, .ref 112), (1, .int p2)], [])) rfl ?_
              refine e_if (fun c35 => ?_) (fun c35 => ?_)
              · replace hb := i_pos c35 hb
                refine e_k 3 (f' := (176, [(5, .int x25), (4, .int x20), (3, .int x18), (2, .int v14), (0, .ref 112), (1, .int p2)], [.ref 112, .int x20, .ref 112])) rfl ?_
                refine r_geti rfl (x_ltn rfl) rfl rfl ?_
                obtain ⟨v36, I36, J36, h36, hb⟩ := oc_call hb
                refine r_cv (z := m_Model_fill) (As := [.int x20, .int (I34 112 10)]) (rest := []) rfl rfl rfl rfl rfl (x_ltn rfl) rfl rfl (E_Model_fill  h36 ⟨_, rfl, ?_⟩)
                refine e_k 1 (f' := (183, [(5, .int x25), (4, .int x20), (3, .int x18), (2, .int v14), (0, .ref 112), (1, .int p2)], [.ref 112])) rfl ?_
                obtain ⟨v37, I37, J37, h37, hb⟩ := oc_call hb
                refine r_cv (z := m_Model_readStatements) (As := []) (rest := []) rfl rfl rfl rfl rfl (x_ltn rfl) rfl rfl (hR_5  h37 ⟨_, rfl, ?_⟩)
                refine e_k 1 (f' := (if ¬ v37 = 0 then 191 else 189, [(5, .int x25), (4, .int x20), (3, .int x18), (2, .int v14), (0, .ref 112), (1, .int p2)], [])) rfl ?_
                refine e_if (fun c38 => ?_) (fun c38 => ?_)
                · replace hb := i_pos c38 hb
                  refine e_k 3 (f' := (195, [(5, .int x25), (4, .int x20), (3, .int x18), (2, .int v14), (0, .ref 112), (1, .int p2)], [.ref 112, .int x25, .ref 112])) rfl ?_
                  refine r_geti rfl (x_ltn rfl) rfl rfl ?_
                  obtain ⟨v39, I39, J39, h39, hb⟩ := oc_call hb
                  refine r_cv (z := m_Model_fill) (As := [.int x25, .int (I37 112 10)]) (rest := []) rfl rfl rfl rfl rfl (x_ltn rfl) rfl rfl (E_Model_fill  h39 ⟨_, rfl, ?_⟩)
                  refine e_k 3 (f' := (223, [(5, .int x25), (4, .int x20), (3, .int x18), (2, .int v14), (0, .ref 112), (1, .int p2)], [.ref 112, .ref 112])) rfl ?_
                  refine r_geti rfl (x_ltn rfl) rfl rfl ?_
                  refine e_k 2 (f' := (228, [(5, .int x25), (4, .int x20), (3, .int x18), (2, .int v14), (0, .ref 112), (1, .int p2)], [.int ((I39 112 15) - 1), .ref 112])) rfl ?_
                  obtain ⟨I40, eI40, hb⟩ := p_nm hb
                  refine r_puti' rfl (x_ltn rfl) rfl rfl eI40 ?_
                  refine e_k 2 (f' := (233, [(5, .int x25), (4, .int x20), (3, .int x18), (2, .int v14), (0, .ref 112), (1, .int p2)], [.ref 112, .ref 112])) rfl ?_
                  refine r_geti rfl (x_ltn rfl) rfl rfl ?_
                  refine e_k 2 (f' := (238, [(5, .int x25), (4, .int x20), (3, .int x18), (2, .int v14), (0, .ref 112), (1, .int p2)], [.int ((I40 112 79) - 1), .ref 112])) rfl ?_
                  obtain ⟨I41, eI41, hb⟩ := p_nm hb
                  refine r_puti' rfl (x_ltn rfl) rfl rfl eI41 ?_
                  refine e_k 2 (f' := (244, [(5, .int x25), (4, .int x20), (3, .int x18), (2, .int v14), (0, .ref 112), (1, .int p2)], [.int 93, .ref 112])) rfl ?_
                  obtain ⟨v42, I42, J42, h42, hb⟩ := oc_call hb
                  refine r_cv (z := m_Model_want) (As := [.int 93]) (rest := []) rfl rfl rfl rfl rfl (x_ltn rfl) rfl rfl (E_Model_want  h42 ⟨_, rfl, ?_⟩)
                  obtain ⟨o43, hb⟩ := ob_if hb
                  obtain ⟨rfl, rfl, rfl⟩ := s_inj hb
                  exact e_r rfl (if_pos o43) K
                · replace hb := i_neg c38 hb
                  refine e_k 1 (f' := (190, [(5, .int x25), (4, .int x20), (3, .int x18), (2, .int v14), (0, .ref 112), (1, .int p2)], [.int 0])) rfl ?_
                  obtain ⟨rfl, rfl, rfl⟩ := s_inj hb
                  exact e_r rfl rfl K
              · replace hb := i_neg c35 hb
                refine e_k 1 (f' := (171, [(5, .int x25), (4, .int x20), (3, .int x18), (2, .int v14), (0, .ref 112), (1, .int p2)], [.int 0])) rfl ?_
                obtain ⟨rfl, rfl, rfl⟩ := s_inj hb
                exact e_r rfl rfl K
          · replace hb := i_neg c23 hb
            refine e_k 1 (f' := (136, [(4, .int x20), (3, .int x18), (2, .int v14), (0, .ref 112), (1, .int p2)], [.int 0])) rfl ?_
            obtain ⟨rfl, rfl, rfl⟩ := s_inj hb
            exact e_r rfl rfl K
        · replace hb := i_neg c17 hb
          refine e_k 1 (f' := (103, [(2, .int v14), (0, .ref 112), (1, .int p2)], [.int 0])) rfl ?_
          obtain ⟨rfl, rfl, rfl⟩ := s_inj hb
          exact e_r rfl rfl K
      clear hb
      refine e_if (fun c11 => ?_) (fun c11 => ?_)
      · replace h10 := i_pos c11 h10
        refine e_sub (ls := [(0, .ref 112), (1, .int p2)]) rfl ⟨rfl, rfl, trivial⟩ ?_
        obtain ⟨rfl, rfl, rfl⟩ := s_inj h10
        exact Kj10
      · replace h10 := i_neg c11 h10
        refine e_k 3 (f' := (69, [(0, .ref 112), (1, .int p2)], [.ref 112, .int 2, .ref 112])) rfl ?_
        refine r_geti rfl (x_ltn rfl) rfl rfl ?_
        obtain ⟨v12, I12, J12, h12, h10⟩ := oc_call h10
        refine r_cv (z := m_Model_note) (As := [.int 2, .int (I8 112 5)]) (rest := []) rfl rfl rfl rfl rfl (x_ltn rfl) rfl rfl (E_Model_note  h12 ⟨_, rfl, ?_⟩)
        refine e_sub (ls := [(0, .ref 112), (1, .int p2)]) rfl ⟨rfl, rfl, trivial⟩ ?_
        obtain ⟨rfl, rfl, rfl⟩ := s_inj h10
        exact Kj10
    · replace hb := i_neg c6 hb
      refine e_k 1 (f' := (52, [(0, .ref 112), (1, .int p2)], [.ref 112])) rfl ?_
      obtain ⟨v44, I44, J44, h44, hb⟩ := oc_call hb
      refine r_cv (z := m_Model_refuse) (As := []) (rest := []) rfl rfl rfl rfl rfl (x_ltn rfl) rfl rfl (E_Model_refuse  h44 ⟨_, rfl, ?_⟩)
      obtain ⟨o45, hb⟩ := ob_if hb
      obtain ⟨rfl, rfl, rfl⟩ := s_inj hb
      exact e_r rfl (if_pos o45) K
  · replace hb := i_neg c1 hb
    refine e_k 1 (f' := (10, [(0, .ref 112), (1, .int p2)], [.ref 112])) rfl ?_
    obtain ⟨v46, I46, J46, h46, hb⟩ := oc_call hb
    refine r_cv (z := m_Model_refuse) (As := []) (rest := []) rfl rfl rfl rfl rfl (x_ltn rfl) rfl rfl (E_Model_refuse  h46 ⟨_, rfl, ?_⟩)
    obtain ⟨o47, hb⟩ := ob_if hb
    obtain ⟨rfl, rfl, rfl⟩ := s_inj hb
    exact e_r rfl (if_pos o47) K
theorem E_Model_take_2 {X : MX} {a2 : Nat} {m2 : Nat} {p3 : Int32} (hA_a2 : isArr X 0 a2 m2) : ∀ (fu : Nat) {l2 : Int32} {l3 : Int32} {I : MI} {J : MJ} {r : (Unit)} {I' : MI} {J' : MJ}, f_Model_take_2 a2 m2 p3 fu l2 l3 I J = some (r, I', J') → am_E (gG L xs) d m_Model_take (22, [(0, .ref 112), (2, .int l2)], []) (hX X I' J') P → am_E (gG L xs) d m_Model_take (2, [(0, .ref 112), (1, .ref a2), (2, .int l2), (3, .int l3)], []) (hX X I J) P := by
  intro fu
  induction fu with
  | zero =>
    intros
    rename_i hb _
    cases hb
  | succ fu ih =>
    intro l2 l3 I J r I' J' hb K
    unfold f_Model_take_2 at hb
    refine e_k 3 (f' := (if l2 ≤ l3 then 22 else 7, [(0, .ref 112), (1, .ref a2), (2, .int l2), (3, .int l3)], [])) rfl ?_
    refine e_if (fun c1 => ?_) (fun c1 => ?_)
    · replace hb := i_pos c1 hb
      refine e_sub (ls := [(0, .ref 112), (2, .int l2)]) rfl ⟨rfl, rfl, trivial⟩ ?_
      obtain ⟨rfl, rfl, rfl⟩ := s_inj hb
      exact K
    · replace hb := i_neg c1 hb
      refine e_k 1 (f' := (8, [(0, .ref 112), (1, .ref a2), (2, .int l2), (3, .int l3)], [.ref 112])) rfl ?_
      refine r_getr rfl (x_ltn rfl) rfl rfl ?_
      refine e_k 3 (f' := (14, [(0, .ref 112), (1, .ref a2), (2, .int l2), (3, .int l3)], [.int l3, .ref a2, .int l3, .ref 114])) rfl ?_
      obtain ⟨o2, hb⟩ := ob_in hb
      refine r_iald rfl hA_a2.2.1 hA_a2.1 hA_a2.2.2 o2 ?_
      obtain ⟨o3, hb⟩ := ob_in hb
      obtain ⟨I4, eI4, hb⟩ := p_nm hb
      refine r_iast' rfl (x_ltn rfl) rfl o3 eI4 ?_
      refine e_k 2 (f' := (2, [(3, .int (l3 + 1)), (0, .ref 112), (1, .ref a2), (2, .int l2)], [])) rfl ?_
      refine e_sub (ls := [(0, .ref 112), (1, .ref a2), (2, .int l2), (3, .int (l3 + 1))]) rfl ⟨rfl, rfl, rfl, rfl, trivial⟩ ?_
      exact ih  hb K
theorem E_Model_take {a2 : Nat} {m2 : Nat} {p3 : Int32} {X : MX} {I : MI} {J : MJ} {v : Unit} {I' : MI} {J' : MJ} (hA_a2 : isArr X 0 a2 m2) (hb : f_Model_take a2 m2 p3 I J = some (v, I', J')) (K : P (.inl (none)) (hX X I' J')) : am_E (gG L xs) d m_Model_take (0, lv_args 0 [.ref 112, .ref a2, .int p3], []) (hX X I J) P := by
  unfold f_Model_take at hb
  refine e_k 2 (f' := (2, [(3, .int 0), (0, .ref 112), (1, .ref a2), (2, .int p3)], [])) rfl ?_
  refine e_sub (ls := [(0, .ref 112), (1, .ref a2), (2, .int p3), (3, .int 0)]) rfl ⟨rfl, rfl, rfl, rfl, trivial⟩ ?_
  obtain ⟨u5, I5, J5, h5, hb⟩ := oc_call hb
  refine E_Model_take_2 hA_a2 gF  h5 ?_
  refine e_k 2 (f' := (24, [(0, .ref 112), (2, .int p3)], [.int p3, .ref 112])) rfl ?_
  obtain ⟨I6, eI6, hb⟩ := p_nm hb
  refine r_puti' rfl (x_ltn rfl) rfl rfl eI6 ?_
  refine e_k 2 (f' := (29, [(0, .ref 112), (2, .int p3)], [.int 1, .ref 112])) rfl ?_
  obtain ⟨I7, eI7, hb⟩ := p_nm hb
  refine r_putz' rfl (x_ltn rfl) rfl rfl (Or.inr rfl) eI7 ?_
  refine e_k 2 (f' := (34, [(0, .ref 112), (2, .int p3)], [.int 0, .ref 112])) rfl ?_
  obtain ⟨I8, eI8, hb⟩ := p_nm hb
  refine r_putz' rfl (x_ltn rfl) rfl rfl (Or.inl rfl) eI8 ?_
  obtain ⟨rfl, rfl, rfl⟩ := s_inj hb
  exact e_r rfl rfl K
theorem E_Model_longOf {p1 : Int32} {X : MX} {I : MI} {J : MJ} {v : Int32} {I' : MI} {J' : MJ} (hb : f_Model_longOf p1 I J = some (v, I', J')) (K : P (.inl (some (.int v))) (hX X I' J')) : am_E (gG L xs) d m_Model_longOf (0, lv_args 0 [.int p1], []) (hX X I J) P := by
  unfold f_Model_longOf at hb
  refine e_k 3 (f' := (if ¬ p1 = 1 then 8 else 5, [(0, .int p1)], [])) rfl ?_
  refine e_if (fun c1 => ?_) (fun c1 => ?_)
  · replace hb := i_pos c1 hb
    refine e_k 3 (f' := (if p1 = 17 then 26 else 14, [(0, .int p1)], [])) rfl ?_
    refine e_if (fun c2 => ?_) (fun c2 => ?_)
    · replace hb := i_pos c2 hb
      refine e_k 1 (f' := (27, [(0, .int p1)], [.int 4])) rfl ?_
      obtain ⟨rfl, rfl, rfl⟩ := s_inj hb
      exact e_r rfl rfl K
    · replace hb := i_neg c2 hb
      refine e_k 3 (f' := (if p1 < 23 then 28 else 20, [(0, .int p1)], [])) rfl ?_
      refine e_if (fun c3 => ?_) (fun c3 => ?_)
      · replace hb := i_pos c3 hb
        refine e_k 3 (f' := (if p1 = 13 then 58 else 34, [(0, .int p1)], [])) rfl ?_
        refine e_if (fun c4 => ?_) (fun c4 => ?_)
        · replace hb := i_pos c4 hb
          refine e_k 1 (f' := (59, [(0, .int p1)], [.int 3])) rfl ?_
          obtain ⟨rfl, rfl, rfl⟩ := s_inj hb
          exact e_r rfl rfl K
        · replace hb := i_neg c4 hb
          refine e_k 3 (f' := (if p1 = 14 then 58 else 40, [(0, .int p1)], [])) rfl ?_
          refine e_if (fun c5 => ?_) (fun c5 => ?_)
          · replace hb := i_pos c5 hb
            refine e_k 1 (f' := (59, [(0, .int p1)], [.int 3])) rfl ?_
            obtain ⟨rfl, rfl, rfl⟩ := s_inj hb
            exact e_r rfl rfl K
          · replace hb := i_neg c5 hb
            refine e_k 3 (f' := (if p1 = 18 then 58 else 46, [(0, .int p1)], [])) rfl ?_
            refine e_if (fun c6 => ?_) (fun c6 => ?_)
            · replace hb := i_pos c6 hb
              refine e_k 1 (f' := (59, [(0, .int p1)], [.int 3])) rfl ?_
              obtain ⟨rfl, rfl, rfl⟩ := s_inj hb
              exact e_r rfl rfl K
            · replace hb := i_neg c6 hb
              refine e_k 3 (f' := (if p1 = 26 then 58 else 52, [(0, .int p1)], [])) rfl ?_
              refine e_if (fun c7 => ?_) (fun c7 => ?_)
              · replace hb := i_pos c7 hb
                refine e_k 1 (f' := (59, [(0, .int p1)], [.int 3])) rfl ?_
                obtain ⟨rfl, rfl, rfl⟩ := s_inj hb
                exact e_r rfl rfl K
              · replace hb := i_neg c7 hb
                refine e_k 3 (f' := (if ¬ p1 = 28 then 60 else 58, [(0, .int p1)], [])) rfl ?_
                refine e_if (fun c8 => ?_) (fun c8 => ?_)
                · replace hb := i_pos c8 hb
                  refine e_k 3 (f' := (if p1 = 2 then 112 else 65, [(0, .int p1)], [])) rfl ?_
                  refine e_if (fun c9 => ?_) (fun c9 => ?_)
                  · replace hb := i_pos c9 hb
                    refine e_k 2 (f' := (117, [(0, .int p1)], [.int 2])) rfl ?_
                    obtain ⟨rfl, rfl, rfl⟩ := s_inj hb
                    exact e_r rfl rfl K
                  · replace hb := i_neg c9 hb
                    refine e_k 3 (f' := (if p1 = 3 then 112 else 70, [(0, .int p1)], [])) rfl ?_
                    refine e_if (fun c10 => ?_) (fun c10 => ?_)
                    · replace hb := i_pos c10 hb
                      refine e_k 2 (f' := (117, [(0, .int p1)], [.int 2])) rfl ?_
                      obtain ⟨rfl, rfl, rfl⟩ := s_inj hb
                      exact e_r rfl rfl K
                    · replace hb := i_neg c10 hb
                      refine e_k 3 (f' := (if p1 = 11 then 112 else 76, [(0, .int p1)], [])) rfl ?_
                      refine e_if (fun c11 => ?_) (fun c11 => ?_)
                      · replace hb := i_pos c11 hb
                        refine e_k 2 (f' := (117, [(0, .int p1)], [.int 2])) rfl ?_
                        obtain ⟨rfl, rfl, rfl⟩ := s_inj hb
                        exact e_r rfl rfl K
                      · replace hb := i_neg c11 hb
                        refine e_k 3 (f' := (if p1 = 12 then 112 else 82, [(0, .int p1)], [])) rfl ?_
                        refine e_if (fun c12 => ?_) (fun c12 => ?_)
                        · replace hb := i_pos c12 hb
                          refine e_k 2 (f' := (117, [(0, .int p1)], [.int 2])) rfl ?_
                          obtain ⟨rfl, rfl, rfl⟩ := s_inj hb
                          exact e_r rfl rfl K
                        · replace hb := i_neg c12 hb
                          refine e_k 3 (f' := (if p1 = 15 then 112 else 88, [(0, .int p1)], [])) rfl ?_
                          refine e_if (fun c13 => ?_) (fun c13 => ?_)
                          · replace hb := i_pos c13 hb
                            refine e_k 2 (f' := (117, [(0, .int p1)], [.int 2])) rfl ?_
                            obtain ⟨rfl, rfl, rfl⟩ := s_inj hb
                            exact e_r rfl rfl K
                          · replace hb := i_neg c13 hb
                            refine e_k 3 (f' := (if p1 = 16 then 112 else 94, [(0, .int p1)], [])) rfl ?_
                            refine e_if (fun c14 => ?_) (fun c14 => ?_)
                            · replace hb := i_pos c14 hb
                              refine e_k 2 (f' := (117, [(0, .int p1)], [.int 2])) rfl ?_
                              obtain ⟨rfl, rfl, rfl⟩ := s_inj hb
                              exact e_r rfl rfl K
                            · replace hb := i_neg c14 hb
                              refine e_k 3 (f' := (if p1 < 19 then 106 else 100, [(0, .int p1)], [])) rfl ?_
                              refine e_if (fun c15 => ?_) (fun c15 => ?_)
                              · replace hb := i_pos c15 hb
                                refine e_k 3 (f' := (if ¬ p1 = 27 then 116 else 112, [(0, .int p1)], [])) rfl ?_
                                refine e_if (fun c16 => ?_) (fun c16 => ?_)
                                · replace hb := i_pos c16 hb
                                  refine e_k 1 (f' := (117, [(0, .int p1)], [.int 1])) rfl ?_
                                  obtain ⟨rfl, rfl, rfl⟩ := s_inj hb
                                  exact e_r rfl rfl K
                                · replace hb := i_neg c16 hb
                                  refine e_k 2 (f' := (117, [(0, .int p1)], [.int 2])) rfl ?_
                                  obtain ⟨rfl, rfl, rfl⟩ := s_inj hb
                                  exact e_r rfl rfl K
                              · replace hb := i_neg c15 hb
                                refine e_k 3 (f' := (if p1 ≤ 22 then 112 else 106, [(0, .int p1)], [])) rfl ?_
                                refine e_if (fun c17 => ?_) (fun c17 => ?_)
                                · replace hb := i_pos c17 hb
                                  refine e_k 2 (f' := (117, [(0, .int p1)], [.int 2])) rfl ?_
                                  obtain ⟨rfl, rfl, rfl⟩ := s_inj hb
                                  exact e_r rfl rfl K
                                · replace hb := i_neg c17 hb
                                  refine e_k 3 (f' := (if ¬ p1 = 27 then 116 else 112, [(0, .int p1)], [])) rfl ?_
                                  refine e_if (fun c18 => ?_) (fun c18 => ?_)
                                  · replace hb := i_pos c18 hb
                                    refine e_k 1 (f' := (117, [(0, .int p1)], [.int 1])) rfl ?_
                                    obtain ⟨rfl, rfl, rfl⟩ := s_inj hb
                                    exact e_r rfl rfl K
                                  · replace hb := i_neg c18 hb
                                    refine e_k 2 (f' := (117, [(0, .int p1)], [.int 2])) rfl ?_
                                    obtain ⟨rfl, rfl, rfl⟩ := s_inj hb
                                    exact e_r rfl rfl K
                · replace hb := i_neg c8 hb
                  refine e_k 1 (f' := (59, [(0, .int p1)], [.int 3])) rfl ?_
                  obtain ⟨rfl, rfl, rfl⟩ := s_inj hb
                  exact e_r rfl rfl K
      · replace hb := i_neg c3 hb
        refine e_k 3 (f' := (if 25 < p1 then 28 else 26, [(0, .int p1)], [])) rfl ?_
        refine e_if (fun c19 => ?_) (fun c19 => ?_)
        · replace hb := i_pos c19 hb
          refine e_k 3 (f' := (if p1 = 13 then 58 else 34, [(0, .int p1)], [])) rfl ?_
          refine e_if (fun c20 => ?_) (fun c20 => ?_)
          · replace hb := i_pos c20 hb
            refine e_k 1 (f' := (59, [(0, .int p1)], [.int 3])) rfl ?_
            obtain ⟨rfl, rfl, rfl⟩ := s_inj hb
            exact e_r rfl rfl K
          · replace hb := i_neg c20 hb
            refine e_k 3 (f' := (if p1 = 14 then 58 else 40, [(0, .int p1)], [])) rfl ?_
            refine e_if (fun c21 => ?_) (fun c21 => ?_)
            · replace hb := i_pos c21 hb
              refine e_k 1 (f' := (59, [(0, .int p1)], [.int 3])) rfl ?_
              obtain ⟨rfl, rfl, rfl⟩ := s_inj hb
              exact e_r rfl rfl K
            · replace hb := i_neg c21 hb
              refine e_k 3 (f' := (if p1 = 18 then 58 else 46, [(0, .int p1)], [])) rfl ?_
              refine e_if (fun c22 => ?_) (fun c22 => ?_)
              · replace hb := i_pos c22 hb
                refine e_k 1 (f' := (59, [(0, .int p1)], [.int 3])) rfl ?_
                obtain ⟨rfl, rfl, rfl⟩ := s_inj hb
                exact e_r rfl rfl K
              · replace hb := i_neg c22 hb
                refine e_k 3 (f' := (if p1 = 26 then 58 else 52, [(0, .int p1)], [])) rfl ?_
                refine e_if (fun c23 => ?_) (fun c23 => ?_)
                · replace hb := i_pos c23 hb
                  refine e_k 1 (f' := (59, [(0, .int p1)], [.int 3])) rfl ?_
                  obtain ⟨rfl, rfl, rfl⟩ := s_inj hb
                  exact e_r rfl rfl K
                · replace hb := i_neg c23 hb
                  refine e_k 3 (f' := (if ¬ p1 = 28 then 60 else 58, [(0, .int p1)], [])) rfl ?_
                  refine e_if (fun c24 => ?_) (fun c24 => ?_)
                  · replace hb := i_pos c24 hb
                    refine e_k 3 (f' := (if p1 = 2 then 112 else 65, [(0, .int p1)], [])) rfl ?_
                    refine e_if (fun c25 => ?_) (fun c25 => ?_)
                    · replace hb := i_pos c25 hb
                      refine e_k 2 (f' := (117, [(0, .int p1)], [.int 2])) rfl ?_
                      obtain ⟨rfl, rfl, rfl⟩ := s_inj hb
                      exact e_r rfl rfl K
                    · replace hb := i_neg c25 hb
                      refine e_k 3 (f' := (if p1 = 3 then 112 else 70, [(0, .int p1)], [])) rfl ?_
                      refine e_if (fun c26 => ?_) (fun c26 => ?_)
                      · replace hb := i_pos c26 hb
                        refine e_k 2 (f' := (117, [(0, .int p1)], [.int 2])) rfl ?_
                        obtain ⟨rfl, rfl, rfl⟩ := s_inj hb
                        exact e_r rfl rfl K
                      · replace hb := i_neg c26 hb
                        refine e_k 3 (f' := (if p1 = 11 then 112 else 76, [(0, .int p1)], [])) rfl ?_
                        refine e_if (fun c27 => ?_) (fun c27 => ?_)
                        · replace hb := i_pos c27 hb
                          refine e_k 2 (f' := (117, [(0, .int p1)], [.int 2])) rfl ?_
                          obtain ⟨rfl, rfl, rfl⟩ := s_inj hb
                          exact e_r rfl rfl K
                        · replace hb := i_neg c27 hb
                          refine e_k 3 (f' := (if p1 = 12 then 112 else 82, [(0, .int p1)], [])) rfl ?_
                          refine e_if (fun c28 => ?_) (fun c28 => ?_)
                          · replace hb := i_pos c28 hb
                            refine e_k 2 (f' := (117, [(0, .int p1)], [.int 2])) rfl ?_
                            obtain ⟨rfl, rfl, rfl⟩ := s_inj hb
                            exact e_r rfl rfl K
                          · replace hb := i_neg c28 hb
                            refine e_k 3 (f' := (if p1 = 15 then 112 else 88, [(0, .int p1)], [])) rfl ?_
                            refine e_if (fun c29 => ?_) (fun c29 => ?_)
                            · replace hb := i_pos c29 hb
                              refine e_k 2 (f' := (117, [(0, .int p1)], [.int 2])) rfl ?_
                              obtain ⟨rfl, rfl, rfl⟩ := s_inj hb
                              exact e_r rfl rfl K
                            · replace hb := i_neg c29 hb
                              refine e_k 3 (f' := (if p1 = 16 then 112 else 94, [(0, .int p1)], [])) rfl ?_
                              refine e_if (fun c30 => ?_) (fun c30 => ?_)
                              · replace hb := i_pos c30 hb
                                refine e_k 2 (f' := (117, [(0, .int p1)], [.int 2])) rfl ?_
                                obtain ⟨rfl, rfl, rfl⟩ := s_inj hb
                                exact e_r rfl rfl K
                              · replace hb := i_neg c30 hb
                                refine e_k 3 (f' := (if p1 < 19 then 106 else 100, [(0, .int p1)], [])) rfl ?_
                                refine e_if (fun c31 => ?_) (fun c31 => ?_)
                                · replace hb := i_pos c31 hb
                                  refine e_k 3 (f' := (if ¬ p1 = 27 then 116 else 112, [(0, .int p1)], [])) rfl ?_
                                  refine e_if (fun c32 => ?_) (fun c32 => ?_)
                                  · replace hb := i_pos c32 hb
                                    refine e_k 1 (f' := (117, [(0, .int p1)], [.int 1])) rfl ?_
                                    obtain ⟨rfl, rfl, rfl⟩ := s_inj hb
                                    exact e_r rfl rfl K
                                  · replace hb := i_neg c32 hb
                                    refine e_k 2 (f' := (117, [(0, .int p1)], [.int 2])) rfl ?_
                                    obtain ⟨rfl, rfl, rfl⟩ := s_inj hb
                                    exact e_r rfl rfl K
                                · replace hb := i_neg c31 hb
                                  refine e_k 3 (f' := (if p1 ≤ 22 then 112 else 106, [(0, .int p1)], [])) rfl ?_
                                  refine e_if (fun c33 => ?_) (fun c33 => ?_)
                                  · replace hb := i_pos c33 hb
                                    refine e_k 2 (f' := (117, [(0, .int p1)], [.int 2])) rfl ?_
                                    obtain ⟨rfl, rfl, rfl⟩ := s_inj hb
                                    exact e_r rfl rfl K
                                  · replace hb := i_neg c33 hb
                                    refine e_k 3 (f' := (if ¬ p1 = 27 then 116 else 112, [(0, .int p1)], [])) rfl ?_
                                    refine e_if (fun c34 => ?_) (fun c34 => ?_)
                                    · replace hb := i_pos c34 hb
                                      refine e_k 1 (f' := (117, [(0, .int p1)], [.int 1])) rfl ?_
                                      obtain ⟨rfl, rfl, rfl⟩ := s_inj hb
                                      exact e_r rfl rfl K
                                    · replace hb := i_neg c34 hb
                                      refine e_k 2 (f' := (117, [(0, .int p1)], [.int 2])) rfl ?_
                                      obtain ⟨rfl, rfl, rfl⟩ := s_inj hb
                                      exact e_r rfl rfl K
                  · replace hb := i_neg c24 hb
                    refine e_k 1 (f' := (59, [(0, .int p1)], [.int 3])) rfl ?_
                    obtain ⟨rfl, rfl, rfl⟩ := s_inj hb
                    exact e_r rfl rfl K
        · replace hb := i_neg c19 hb
          refine e_k 1 (f' := (27, [(0, .int p1)], [.int 4])) rfl ?_
          obtain ⟨rfl, rfl, rfl⟩ := s_inj hb
          exact e_r rfl rfl K
  · replace hb := i_neg c1 hb
    refine e_k 1 (f' := (7, [(0, .int p1)], [.int 9])) rfl ?_
    obtain ⟨rfl, rfl, rfl⟩ := s_inj hb
    exact e_r rfl rfl K
theorem E_Model_refused {p2 : Int32} {p3 : Int32} {X : MX} {I : MI} {J : MJ} {v : Int32} {I' : MI} {J' : MJ} (hb : f_Model_refused p2 p3 I J = some (v, I', J')) (K : P (.inl (some (.int v))) (hX X I' J')) : am_E (gG L xs) d m_Model_refused (0, lv_args 0 [.ref 112, .int p2, .int p3], []) (hX X I J) P := by
  unfold f_Model_refused at hb
  refine e_k 2 (f' := (2, [(0, .ref 112), (1, .int p2), (2, .int p3)], [.int p2, .ref 112])) rfl ?_
  obtain ⟨I1, eI1, hb⟩ := p_nm hb
  refine r_puti' rfl (x_ltn rfl) rfl rfl eI1 ?_
  refine e_k 2 (f' := (7, [(0, .ref 112), (1, .int p2), (2, .int p3)], [.int p3, .ref 112])) rfl ?_
  obtain ⟨I2, eI2, hb⟩ := p_nm hb
  refine r_puti' rfl (x_ltn rfl) rfl rfl eI2 ?_
  refine e_k 1 (f' := (11, [(0, .ref 112), (1, .int p2), (2, .int p3)], [.int 0])) rfl ?_
  obtain ⟨rfl, rfl, rfl⟩ := s_inj hb
  exact e_r rfl rfl K
theorem E_Model_isGood_222 {X : MX} {p2 : Int32} : ∀ (fu : Nat) {l1 : Int32} {l6 : Int64} {l8 : Int32} {I : MI} {J : MJ} {r : (Int64)} {I' : MI} {J' : MJ}, f_Model_isGood_222 p2 fu l1 l6 l8 I J = some (r, I', J') → am_E (gG L xs) d m_Model_isGood (253, [(6, .long r)], []) (hX X I' J') P → am_E (gG L xs) d m_Model_isGood (222, [(0, .ref 112), (1, .int l1), (6, .long l6), (8, .int l8)], []) (hX X I J) P := by
  intro fu
  induction fu with
  | zero =>
    intros
    rename_i hb _
    cases hb
  | succ fu ih =>
    intro l1 l6 l8 I J r I' J' hb K
    unfold f_Model_isGood_222 at hb
    refine e_k 3 (f' := (if 9 ≤ l8 then 253 else 229, [(0, .ref 112), (1, .int l1), (6, .long l6), (8, .int l8)], [])) rfl ?_
    refine e_if (fun c22 => ?_) (fun c22 => ?_)
    · replace hb := i_pos c22 hb
      refine e_sub (ls := [(6, .long l6)]) rfl ⟨rfl, trivial⟩ ?_
      obtain ⟨rfl, rfl, rfl⟩ := s_inj hb
      exact K
    · replace hb := i_neg c22 hb
      refine e_k 4 (f' := (235, [(0, .ref 112), (1, .int l1), (6, .long l6), (8, .int l8)], [.ref 112, .long (l6 <<< ((Int32.toInt64 8) &&& 63))])) rfl ?_
      refine r_getr rfl (x_ltn rfl) rfl rfl ?_
      refine e_k 3 (f' := (242, [(0, .ref 112), (1, .int l1), (6, .long l6), (8, .int l8)], [.int (l1 + l8), .ref 116, .long (l6 <<< ((Int32.toInt64 8) &&& 63))])) rfl ?_
      obtain ⟨o23, hb⟩ := ob_in hb
      refine r_iald rfl rfl (x_ltn rfl) rfl o23 ?_
      refine e_k 3 (f' := (247, [(6, .long ((l6 <<< ((Int32.toInt64 8) &&& 63)) ||| (Int32.toInt64 (I 116 (Int32.toNatClampNeg (l1 + l8)))))), (0, .ref 112), (1, .int l1), (8, .int l8)], [])) rfl ?_
      obtain ⟨x24, ex24, hb⟩ := p_nm hb
      rw [← ex24]
      refine e_k 2 (f' := (222, [(8, .int (l8 + 1)), (6, .long x24), (0, .ref 112), (1, .int l1)], [])) rfl ?_
      refine e_sub (ls := [(0, .ref 112), (1, .int l1), (6, .long x24), (8, .int (l8 + 1))]) rfl ⟨rfl, rfl, rfl, rfl, trivial⟩ ?_
      exact ih  hb K
theorem E_Model_isGood {p2 : Int32} {X : MX} {I : MI} {J : MJ} {v : Int32} {I' : MI} {J' : MJ} (hb : f_Model_isGood p2 I J = some (v, I', J')) (K : P (.inl (some (.int v))) (hX X I' J')) : am_E (gG L xs) (d + 1) m_Model_isGood (0, lv_args 0 [.ref 112, .int p2], []) (hX X I J) P := by
  unfold f_Model_isGood at hb
  refine e_k 1 (f' := (1, [(0, .ref 112), (1, .int p2)], [.ref 112])) rfl ?_
  refine r_getr rfl (x_ltn rfl) rfl rfl ?_
  refine e_k 1 (f' := (5, [(0, .ref 112), (1, .int p2)], [.int p2, .ref 116])) rfl ?_
  obtain ⟨o1, hb⟩ := ob_in hb
  refine r_iald rfl rfl (x_ltn rfl) rfl o1 ?_
  refine e_k 1 (f' := (7, [(2, .int (I 116 (Int32.toNatClampNeg p2))), (0, .ref 112), (1, .int p2)], [])) rfl ?_
  obtain ⟨x2, ex2, hb⟩ := p_nm hb
  rw [← ex2]
  refine e_k 3 (f' := (if 29 < x2 then 26 else 13, [(2, .int x2), (0, .ref 112), (1, .int p2)], [])) rfl ?_
  refine e_if (fun c3 => ?_) (fun c3 => ?_)
  · replace hb := i_pos c3 hb
    refine e_k 1 (f' := (27, [(2, .int x2), (0, .ref 112), (1, .int p2)], [.int 0])) rfl ?_
    obtain ⟨rfl, rfl, rfl⟩ := s_inj hb
    exact e_r rfl rfl K
  · replace hb := i_neg c3 hb
    refine e_k 2 (f' := (15, [(2, .int x2), (0, .ref 112), (1, .int p2)], [.int x2, .int p2])) rfl ?_
    obtain ⟨v4, I4, J4, h4, hb⟩ := oc_call hb
    refine r_cs (z := m_Model_longOf) (As := [.int x2]) (rest := [.int p2]) rfl rfl rfl rfl rfl rfl (E_Model_longOf  h4 ⟨_, rfl, ?_⟩)
    refine e_k 2 (f' := (20, [(2, .int x2), (0, .ref 112), (1, .int p2)], [.ref 112, .int (p2 + v4)])) rfl ?_
    refine r_geti rfl (x_ltn rfl) rfl rfl ?_
    refine e_k 1 (f' := (if (p2 + v4) ≤ (I4 112 12) then 28 else 26, [(2, .int x2), (0, .ref 112), (1, .int p2)], [])) rfl ?_
    refine e_if (fun c5 => ?_) (fun c5 => ?_)
    · replace hb := i_pos c5 hb
      refine e_k 1 (f' := (29, [(2, .int x2), (0, .ref 112), (1, .int p2)], [.int x2])) rfl ?_
      obtain ⟨v6, I6, J6, h6, hb⟩ := oc_call hb
      refine r_cs (z := m_Model_longOf) (As := [.int x2]) (rest := []) rfl rfl rfl rfl rfl rfl (E_Model_longOf  h6 ⟨_, rfl, ?_⟩)
      refine e_k 2 (f' := (if v6 ≤ 1 then 47 else 36, [(2, .int x2), (0, .ref 112), (1, .int p2)], [])) rfl ?_
      obtain ⟨v8, I8, J8, h8, hb⟩ := oc_call hb
      have Kj8 : am_E (gG L xs) (d + 1) m_Model_isGood (48, [(0, .ref 112), (1, .int p2), (2, .int x2)], [.int v8]) (hX X I8 J8) P := by
        refine e_k 2 (f' := (50, [(3, .int v8), (0, .ref 112), (1, .int p2), (2, .int x2)], [.int x2])) rfl ?_
        obtain ⟨v11, I11, J11, h11, hb⟩ := oc_call hb
        refine r_cs (z := m_Model_longOf) (As := [.int x2]) (rest := []) rfl rfl rfl rfl rfl rfl (E_Model_longOf  h11 ⟨_, rfl, ?_⟩)
        refine e_k 2 (f' := (if v11 ≤ 2 then 68 else 57, [(3, .int v8), (0, .ref 112), (1, .int p2), (2, .int x2)], [])) rfl ?_
        obtain ⟨v13, I13, J13, h13, hb⟩ := oc_call hb
        have Kj13 : am_E (gG L xs) (d + 1) m_Model_isGood (69, [(0, .ref 112), (1, .int p2), (2, .int x2), (3, .int v8)], [.int v13]) (hX X I13 J13) P := by
          refine e_k 2 (f' := (72, [(4, .int v13), (0, .ref 112), (1, .int p2), (2, .int x2), (3, .int v8)], [.int x2])) rfl ?_
          obtain ⟨v16, I16, J16, h16, hb⟩ := oc_call hb
          refine r_cs (z := m_Model_longOf) (As := [.int x2]) (rest := []) rfl rfl rfl rfl rfl rfl (E_Model_longOf  h16 ⟨_, rfl, ?_⟩)
          refine e_k 2 (f' := (if v16 ≤ 3 then 90 else 79, [(4, .int v13), (0, .ref 112), (1, .int p2), (2, .int x2), (3, .int v8)], [])) rfl ?_
          obtain ⟨v18, I18, J18, h18, hb⟩ := oc_call hb
          have Kj18 : am_E (gG L xs) (d + 1) m_Model_isGood (91, [(0, .ref 112), (1, .int p2), (2, .int x2), (3, .int v8), (4, .int v13)], [.int v18]) (hX X I18 J18) P := by
            refine e_k 3 (f' := (am_sw x2 383 [(1, 216), (2, 275), (3, 275), (4, 383), (5, 383), (6, 383), (7, 383), (8, 383), (9, 383), (10, 383), (11, 275), (12, 275), (13, 287), (14, 308), (15, 275), (16, 275), (17, 275), (18, 383), (19, 327), (20, 327), (21, 327), (22, 327), (23, 338), (24, 338), (25, 338), (26, 364), (27, 275)], [(5, .int v18), (0, .ref 112), (1, .int p2), (2, .int x2), (3, .int v8), (4, .int v13)], [])) rfl ?_
            by_cases c21 : x2 = 1
            · rw [show am_sw x2 383 [(1, 216), (2, 275), (3, 275), (4, 383), (5, 383), (6, 383), (7, 383), (8, 383), (9, 383), (10, 383), (11, 275), (12, 275), (13, 287), (14, 308), (15, 275), (16, 275), (17, 275), (18, 383), (19, 327), (20, 327), (21, 327), (22, 327), (23, 338), (24, 338), (25, 338), (26, 364), (27, 275)] = 216 from by rw [c21]; rfl]
              replace hb := i_pos c21 hb
              refine e_k 4 (f' := (222, [(8, .int 1), (6, .long 0), (5, .int v18), (0, .ref 112), (1, .int p2), (2, .int x2), (3, .int v8), (4, .int v13)], [])) rfl ?_
              refine e_sub (ls := [(0, .ref 112), (1, .int p2), (6, .long 0), (8, .int 1)]) rfl ⟨rfl, rfl, rfl, rfl, trivial⟩ ?_
              obtain ⟨u25, I25, J25, h25, hb⟩ := oc_call hb
              refine E_Model_isGood_222  gF  h25 ?_
              refine e_k 4 (f' := (if (lg_cmp u25 0) < 0 then 273 else 260, [(6, .long u25)], [])) rfl ?_
              refine e_if (fun c26 => ?_) (fun c26 => ?_)
              · replace hb := i_pos c26 hb
                refine e_k 1 (f' := (274, [(6, .long u25)], [.int 0])) rfl ?_
                obtain ⟨rfl, rfl, rfl⟩ := s_inj hb
                exact e_r rfl rfl K
              · replace hb := i_neg c26 hb
                refine e_k 4 (f' := (if 0 ≤ (lg_cmp u25 2305843009213693951) then 273 else 269, [(6, .long u25)], [])) rfl ?_
                refine e_if (fun c27 => ?_) (fun c27 => ?_)
                · replace hb := i_pos c27 hb
                  refine e_k 1 (f' := (274, [(6, .long u25)], [.int 0])) rfl ?_
                  obtain ⟨rfl, rfl, rfl⟩ := s_inj hb
                  exact e_r rfl rfl K
                · replace hb := i_neg c27 hb
                  refine e_k 2 (f' := (274, [(6, .long u25)], [.int 1])) rfl ?_
                  obtain ⟨rfl, rfl, rfl⟩ := s_inj hb
                  exact e_r rfl rfl K
            replace hb := i_neg c21 hb
            by_cases c28 : x2 = 2 ∨ x2 = 3 ∨ x2 = 11 ∨ x2 = 12 ∨ x2 = 15 ∨ x2 = 16 ∨ x2 = 17 ∨ x2 = 27
            · rw [show am_sw x2 383 [(1, 216), (2, 275), (3, 275), (4, 383), (5, 383), (6, 383), (7, 383), (8, 383), (9, 383), (10, 383), (11, 275), (12, 275), (13, 287), (14, 308), (15, 275), (16, 275), (17, 275), (18, 383), (19, 327), (20, 327), (21, 327), (22, 327), (23, 338), (24, 338), (25, 338), (26, 364), (27, 275)] = 275 from by rcases c28 with c28 | c28 | c28 | c28 | c28 | c28 | c28 | c28 <;> rw [c28] <;> rfl]
              replace hb := i_pos c28 hb
              refine e_k 3 (f' := (if 13 ≤ v8 then 285 else 281, [(5, .int v18), (0, .ref 112), (1, .int p2), (2, .int x2), (3, .int v8), (4, .int v13)], [])) rfl ?_
              refine e_if (fun c29 => ?_) (fun c29 => ?_)
              · replace hb := i_pos c29 hb
                refine e_k 1 (f' := (286, [(5, .int v18), (0, .ref 112), (1, .int p2), (2, .int x2), (3, .int v8), (4, .int v13)], [.int 0])) rfl ?_
                obtain ⟨rfl, rfl, rfl⟩ := s_inj hb
                exact e_r rfl rfl K
              · replace hb := i_neg c29 hb
                refine e_k 2 (f' := (286, [(5, .int v18), (0, .ref 112), (1, .int p2), (2, .int x2), (3, .int v8), (4, .int v13)], [.int 1])) rfl ?_
                obtain ⟨rfl, rfl, rfl⟩ := s_inj hb
                exact e_r rfl rfl K
            replace hb := i_neg c28 hb
            by_cases c30 : x2 = 13
            · rw [show am_sw x2 383 [(1, 216), (2, 275), (3, 275), (4, 383), (5, 383), (6, 383), (7, 383), (8, 383), (9, 383), (10, 383), (11, 275), (12, 275), (13, 287), (14, 308), (15, 275), (16, 275), (17, 275), (18, 383), (19, 327), (20, 327), (21, 327), (22, 327), (23, 338), (24, 338), (25, 338), (26, 364), (27, 275)] = 287 from by rw [c30]; rfl]
              replace hb := i_pos c30 hb
              refine e_k 3 (f' := (if 13 ≤ v8 then 306 else 293, [(5, .int v18), (0, .ref 112), (1, .int p2), (2, .int x2), (3, .int v8), (4, .int v13)], [])) rfl ?_
              refine e_if (fun c31 => ?_) (fun c31 => ?_)
              · replace hb := i_pos c31 hb
                refine e_k 1 (f' := (307, [(5, .int v18), (0, .ref 112), (1, .int p2), (2, .int x2), (3, .int v8), (4, .int v13)], [.int 0])) rfl ?_
                obtain ⟨rfl, rfl, rfl⟩ := s_inj hb
                exact e_r rfl rfl K
              · replace hb := i_neg c31 hb
                refine e_k 2 (f' := (296, [(5, .int v18), (0, .ref 112), (1, .int p2), (2, .int x2), (3, .int v8), (4, .int v13)], [.ref 112, .int v13])) rfl ?_
                refine r_geti rfl (x_ltn rfl) rfl rfl ?_
                refine e_k 1 (f' := (if (I18 112 16) ≤ v13 then 306 else 302, [(5, .int v18), (0, .ref 112), (1, .int p2), (2, .int x2), (3, .int v8), (4, .int v13)], [])) rfl ?_
                refine e_if (fun c32 => ?_) (fun c32 => ?_)
                · replace hb := i_pos c32 hb
                  refine e_k 1 (f' := (307, [(5, .int v18), (0, .ref 112), (1, .int p2), (2, .int x2), (3, .int v8), (4, .int v13)], [.int 0])) rfl ?_
                  obtain ⟨rfl, rfl, rfl⟩ := s_inj hb
                  exact e_r rfl rfl K
                · replace hb := i_neg c32 hb
                  refine e_k 2 (f' := (307, [(5, .int v18), (0, .ref 112), (1, .int p2), (2, .int x2), (3, .int v8), (4, .int v13)], [.int 1])) rfl ?_
                  obtain ⟨rfl, rfl, rfl⟩ := s_inj hb
                  exact e_r rfl rfl K
            replace hb := i_neg c30 hb
            by_cases c33 : x2 = 14
            · rw [show am_sw x2 383 [(1, 216), (2, 275), (3, 275), (4, 383), (5, 383), (6, 383), (7, 383), (8, 383), (9, 383), (10, 383), (11, 275), (12, 275), (13, 287), (14, 308), (15, 275), (16, 275), (17, 275), (18, 383), (19, 327), (20, 327), (21, 327), (22, 327), (23, 338), (24, 338), (25, 338), (26, 364), (27, 275)] = 308 from by rw [c33]; rfl]
              replace hb := i_pos c33 hb
              refine e_k 3 (f' := (if 13 ≤ v8 then 325 else 314, [(5, .int v18), (0, .ref 112), (1, .int p2), (2, .int x2), (3, .int v8), (4, .int v13)], [])) rfl ?_
              refine e_if (fun c34 => ?_) (fun c34 => ?_)
              · replace hb := i_pos c34 hb
                refine e_k 1 (f' := (326, [(5, .int v18), (0, .ref 112), (1, .int p2), (2, .int x2), (3, .int v8), (4, .int v13)], [.int 0])) rfl ?_
                obtain ⟨rfl, rfl, rfl⟩ := s_inj hb
                exact e_r rfl rfl K
              · replace hb := i_neg c34 hb
                refine e_k 3 (f' := (if 13 ≤ v13 then 325 else 321, [(5, .int v18), (0, .ref 112), (1, .int p2), (2, .int x2), (3, .int v8), (4, .int v13)], [])) rfl ?_
                refine e_if (fun c35 => ?_) (fun c35 => ?_)
                · replace hb := i_pos c35 hb
                  refine e_k 1 (f' := (326, [(5, .int v18), (0, .ref 112), (1, .int p2), (2, .int x2), (3, .int v8), (4, .int v13)], [.int 0])) rfl ?_
                  obtain ⟨rfl, rfl, rfl⟩ := s_inj hb
                  exact e_r rfl rfl K
                · replace hb := i_neg c35 hb
                  refine e_k 2 (f' := (326, [(5, .int v18), (0, .ref 112), (1, .int p2), (2, .int x2), (3, .int v8), (4, .int v13)], [.int 1])) rfl ?_
                  obtain ⟨rfl, rfl, rfl⟩ := s_inj hb
                  exact e_r rfl rfl K
            replace hb := i_neg c33 hb
            by_cases c36 : x2 = 19 ∨ x2 = 20 ∨ x2 = 21 ∨ x2 = 22
            · rw [show am_sw x2 383 [(1, 216), (2, 275), (3, 275), (4, 383), (5, 383), (6, 383), (7, 383), (8, 383), (9, 383), (10, 383), (11, 275), (12, 275), (13, 287), (14, 308), (15, 275), (16, 275), (17, 275), (18, 383), (19, 327), (20, 327), (21, 327), (22, 327), (23, 338), (24, 338), (25, 338), (26, 364), (27, 275)] = 327 from by rcases c36 with c36 | c36 | c36 | c36 <;> rw [c36] <;> rfl]
              replace hb := i_pos c36 hb
              refine e_k 3 (f' := (if 4 ≤ v8 then 336 else 332, [(5, .int v18), (0, .ref 112), (1, .int p2), (2, .int x2), (3, .int v8), (4, .int v13)], [])) rfl ?_
              refine e_if (fun c37 => ?_) (fun c37 => ?_)
              · replace hb := i_pos c37 hb
                refine e_k 1 (f' := (337, [(5, .int v18), (0, .ref 112), (1, .int p2), (2, .int x2), (3, .int v8), (4, .int v13)], [.int 0])) rfl ?_
                obtain ⟨rfl, rfl, rfl⟩ := s_inj hb
                exact e_r rfl rfl K
              · replace hb := i_neg c37 hb
                refine e_k 2 (f' := (337, [(5, .int v18), (0, .ref 112), (1, .int p2), (2, .int x2), (3, .int v8), (4, .int v13)], [.int 1])) rfl ?_
                obtain ⟨rfl, rfl, rfl⟩ := s_inj hb
                exact e_r rfl rfl K
            replace hb := i_neg c36 hb
            by_cases c38 : x2 = 23 ∨ x2 = 24 ∨ x2 = 25
            · rw [show am_sw x2 383 [(1, 216), (2, 275), (3, 275), (4, 383), (5, 383), (6, 383), (7, 383), (8, 383), (9, 383), (10, 383), (11, 275), (12, 275), (13, 287), (14, 308), (15, 275), (16, 275), (17, 275), (18, 383), (19, 327), (20, 327), (21, 327), (22, 327), (23, 338), (24, 338), (25, 338), (26, 364), (27, 275)] = 338 from by rcases c38 with c38 | c38 | c38 <;> rw [c38] <;> rfl]
              replace hb := i_pos c38 hb
              refine e_k 3 (f' := (if 8 ≤ v8 then 362 else 344, [(5, .int v18), (0, .ref 112), (1, .int p2), (2, .int x2), (3, .int v8), (4, .int v13)], [])) rfl ?_
              refine e_if (fun c39 => ?_) (fun c39 => ?_)
              · replace hb := i_pos c39 hb
                refine e_k 1 (f' := (363, [(5, .int v18), (0, .ref 112), (1, .int p2), (2, .int x2), (3, .int v8), (4, .int v13)], [.int 0])) rfl ?_
                obtain ⟨rfl, rfl, rfl⟩ := s_inj hb
                exact e_r rfl rfl K
              · replace hb := i_neg c39 hb
                refine e_k 3 (f' := (if 8 ≤ v13 then 362 else 351, [(5, .int v18), (0, .ref 112), (1, .int p2), (2, .int x2), (3, .int v8), (4, .int v13)], [])) rfl ?_
                refine e_if (fun c40 => ?_) (fun c40 => ?_)
                · replace hb := i_pos c40 hb
                  refine e_k 1 (f' := (363, [(5, .int v18), (0, .ref 112), (1, .int p2), (2, .int x2), (3, .int v8), (4, .int v13)], [.int 0])) rfl ?_
                  obtain ⟨rfl, rfl, rfl⟩ := s_inj hb
                  exact e_r rfl rfl K
                · replace hb := i_neg c40 hb
                  refine e_k 3 (f' := (if 8 ≤ v18 then 362 else 358, [(5, .int v18), (0, .ref 112), (1, .int p2), (2, .int x2), (3, .int v8), (4, .int v13)], [])) rfl ?_
                  refine e_if (fun c41 => ?_) (fun c41 => ?_)
                  · replace hb := i_pos c41 hb
                    refine e_k 1 (f' := (363, [(5, .int v18), (0, .ref 112), (1, .int p2), (2, .int x2), (3, .int v8), (4, .int v13)], [.int 0])) rfl ?_
                    obtain ⟨rfl, rfl, rfl⟩ := s_inj hb
                    exact e_r rfl rfl K
                  · replace hb := i_neg c41 hb
                    refine e_k 2 (f' := (363, [(5, .int v18), (0, .ref 112), (1, .int p2), (2, .int x2), (3, .int v8), (4, .int v13)], [.int 1])) rfl ?_
                    obtain ⟨rfl, rfl, rfl⟩ := s_inj hb
                    exact e_r rfl rfl K
            replace hb := i_neg c38 hb
            by_cases c42 : x2 = 26
            · rw [show am_sw x2 383 [(1, 216), (2, 275), (3, 275), (4, 383), (5, 383), (6, 383), (7, 383), (8, 383), (9, 383), (10, 383), (11, 275), (12, 275), (13, 287), (14, 308), (15, 275), (16, 275), (17, 275), (18, 383), (19, 327), (20, 327), (21, 327), (22, 327), (23, 338), (24, 338), (25, 338), (26, 364), (27, 275)] = 364 from by rw [c42]; rfl]
              replace hb := i_pos c42 hb
              refine e_k 3 (f' := (if 8 ≤ v8 then 381 else 370, [(5, .int v18), (0, .ref 112), (1, .int p2), (2, .int x2), (3, .int v8), (4, .int v13)], [])) rfl ?_
              refine e_if (fun c43 => ?_) (fun c43 => ?_)
              · replace hb := i_pos c43 hb
                refine e_k 1 (f' := (382, [(5, .int v18), (0, .ref 112), (1, .int p2), (2, .int x2), (3, .int v8), (4, .int v13)], [.int 0])) rfl ?_
                obtain ⟨rfl, rfl, rfl⟩ := s_inj hb
                exact e_r rfl rfl K
              · replace hb := i_neg c43 hb
                refine e_k 3 (f' := (if 8 ≤ v13 then 381 else 377, [(5, .int v18), (0, .ref 112), (1, .int p2), (2, .int x2), (3, .int v8), (4, .int v13)], [])) rfl ?_
                refine e_if (fun c44 => ?_) (fun c44 => ?_)
                · replace hb := i_pos c44 hb
                  refine e_k 1 (f' := (382, [(5, .int v18), (0, .ref 112), (1, .int p2), (2, .int x2), (3, .int v8), (4, .int v13)], [.int 0])) rfl ?_
                  obtain ⟨rfl, rfl, rfl⟩ := s_inj hb
                  exact e_r rfl rfl K
                · replace hb := i_neg c44 hb
                  refine e_k 2 (f' := (382, [(5, .int v18), (0, .ref 112), (1, .int p2), (2, .int x2), (3, .int v8), (4, .int v13)], [.int 1])) rfl ?_
                  obtain ⟨rfl, rfl, rfl⟩ := s_inj hb
                  exact e_r rfl rfl K
            replace hb := i_neg c42 hb
            rw [show am_sw x2 383 [(1, 216), (2, 275), (3, 275), (4, 383), (5, 383), (6, 383), (7, 383), (8, 383), (9, 383), (10, 383), (11, 275), (12, 275), (13, 287), (14, 308), (15, 275), (16, 275), (17, 275), (18, 383), (19, 327), (20, 327), (21, 327), (22, 327), (23, 338), (24, 338), (25, 338), (26, 364), (27, 275)] = 383 from (am_swd c21 (am_swd (fun e => c28 (Or.inl e)) (am_swd (fun e => c28 (Or.inr (Or.inl e))) (am_swe (am_swe (am_swe (am_swe (am_swe (am_swe (am_swe (am_swd (fun e => c28 (Or.inr (Or.inr (Or.inl e)))) (am_swd (fun e => c28 (Or.inr (Or.inr (Or.inr (Or.inl e))))) (am_swd c30 (am_swd c33 (am_swd (fun e => c28 (Or.inr (Or.inr (Or.inr (Or.inr (Or.inl e)))))) (am_swd (fun e => c28 (Or.inr (Or.inr (Or.inr (Or.inr (Or.inr (Or.inl e))))))) (am_swd (fun e => c28 (Or.inr (Or.inr (Or.inr (Or.inr (Or.inr (Or.inr (Or.inl e)))))))) (am_swe (am_swd (fun e => c36 (Or.inl e)) (am_swd (fun e => c36 (Or.inr (Or.inl e))) (am_swd (fun e => c36 (Or.inr (Or.inr (Or.inl e)))) (am_swd (fun e => c36 (Or.inr (Or.inr (Or.inr e)))) (am_swd (fun e => c38 (Or.inl e)) (am_swd (fun e => c38 (Or.inr (Or.inl e))) (am_swd (fun e => c38 (Or.inr (Or.inr e))) (am_swd c42 (am_swd (fun e => c28 (Or.inr (Or.inr (Or.inr (Or.inr (Or.inr (Or.inr (Or.inr e)))))))) rfl)))))))))))))))))))))))))))]
            refine e_k 1 (f' := (384, [(5, .int v18), (0, .ref 112), (1, .int p2), (2, .int x2), (3, .int v8), (4, .int v13)], [.int 1])) rfl ?_
            obtain ⟨rfl, rfl, rfl⟩ := s_inj hb
            exact e_r rfl rfl K
          clear hb
          refine e_if (fun c19 => ?_) (fun c19 => ?_)
          · replace h18 := i_pos c19 h18
            refine e_k 1 (f' := (91, [(4, .int v13), (0, .ref 112), (1, .int p2), (2, .int x2), (3, .int v8)], [.int 0])) rfl ?_
            refine e_sub (ls := [(0, .ref 112), (1, .int p2), (2, .int x2), (3, .int v8), (4, .int v13)]) rfl ⟨rfl, rfl, rfl, rfl, rfl, trivial⟩ ?_
            obtain ⟨rfl, rfl, rfl⟩ := s_inj h18
            exact Kj18
          · replace h18 := i_neg c19 h18
            refine e_k 1 (f' := (80, [(4, .int v13), (0, .ref 112), (1, .int p2), (2, .int x2), (3, .int v8)], [.ref 112])) rfl ?_
            refine r_getr rfl (x_ltn rfl) rfl rfl ?_
            refine e_k 3 (f' := (86, [(4, .int v13), (0, .ref 112), (1, .int p2), (2, .int x2), (3, .int v8)], [.int (p2 + 3), .ref 116])) rfl ?_
            obtain ⟨o20, h18⟩ := ob_in h18
            refine r_iald rfl rfl (x_ltn rfl) rfl o20 ?_
            refine e_k 1 (f' := (91, [(4, .int v13), (0, .ref 112), (1, .int p2), (2, .int x2), (3, .int v8)], [.int (I16 116 (Int32.toNatClampNeg (p2 + 3)))])) rfl ?_
            refine e_sub (ls := [(0, .ref 112), (1, .int p2), (2, .int x2), (3, .int v8), (4, .int v13)]) rfl ⟨rfl, rfl, rfl, rfl, rfl, trivial⟩ ?_
            obtain ⟨rfl, rfl, rfl⟩ := s_inj h18
            exact Kj18
        clear hb
        refine e_if (fun c14 => ?_) (fun c14 => ?_)
        · replace h13 := i_pos c14 h13
          refine e_k 1 (f' := (69, [(3, .int v8), (0, .ref 112), (1, .int p2), (2, .int x2)], [.int 0])) rfl ?_
          refine e_sub (ls := [(0, .ref 112), (1, .int p2), (2, .int x2), (3, .int v8)]) rfl ⟨rfl, rfl, rfl, rfl, trivial⟩ ?_
          obtain ⟨rfl, rfl, rfl⟩ := s_inj h13
          exact Kj13
        · replace h13 := i_neg c14 h13
          refine e_k 1 (f' := (58, [(3, .int v8), (0, .ref 112), (1, .int p2), (2, .int x2)], [.ref 112])) rfl ?_
          refine r_getr rfl (x_ltn rfl) rfl rfl ?_
          refine e_k 3 (f' := (64, [(3, .int v8), (0, .ref 112), (1, .int p2), (2, .int x2)], [.int (p2 + 2), .ref 116])) rfl ?_
          obtain ⟨o15, h13⟩ := ob_in h13
          refine r_iald rfl rfl (x_ltn rfl) rfl o15 ?_
          refine e_k 1 (f' := (69, [(3, .int v8), (0, .ref 112), (1, .int p2), (2, .int x2)], [.int (I11 116 (Int32.toNatClampNeg (p2 + 2)))])) rfl ?_
          refine e_sub (ls := [(0, .ref 112), (1, .int p2), (2, .int x2), (3, .int v8)]) rfl ⟨rfl, rfl, rfl, rfl, trivial⟩ ?_
          obtain ⟨rfl, rfl, rfl⟩ := s_inj h13
          exact Kj13
      clear hb
      refine e_if (fun c9 => ?_) (fun c9 => ?_)
      · replace h8 := i_pos c9 h8
        refine e_k 1 (f' := (48, [(2, .int x2), (0, .ref 112), (1, .int p2)], [.int 0])) rfl ?_
        refine e_sub (ls := [(0, .ref 112), (1, .int p2), (2, .int x2)]) rfl ⟨rfl, rfl, rfl, trivial⟩ ?_
        obtain ⟨rfl, rfl, rfl⟩ := s_inj h8
        exact Kj8
      · replace h8 := i_neg c9 h8
        refine e_k 1 (f' := (37, [(2, .int x2), (0, .ref 112), (1, .int p2)], [.ref 112])) rfl ?_
        refine r_getr rfl (x_ltn rfl) rfl rfl ?_
        refine e_k 3 (f' := (43, [(2, .int x2), (0, .ref 112), (1, .int p2)], [.int (p2 + 1), .ref 116])) rfl ?_
        obtain ⟨o10, h8⟩ := ob_in h8
        refine r_iald rfl rfl (x_ltn rfl) rfl o10 ?_
        refine e_k 1 (f' := (48, [(2, .int x2), (0, .ref 112), (1, .int p2)], [.int (I6 116 (Int32.toNatClampNeg (p2 + 1)))])) rfl ?_
        refine e_sub (ls := [(0, .ref 112), (1, .int p2), (2, .int x2)]) rfl ⟨rfl, rfl, rfl, trivial⟩ ?_
        obtain ⟨rfl, rfl, rfl⟩ := s_inj h8
        exact Kj8
    · replace hb := i_neg c5 hb
      refine e_k 1 (f' := (27, [(2, .int x2), (0, .ref 112), (1, .int p2)], [.int 0])) rfl ?_
      obtain ⟨rfl, rfl, rfl⟩ := s_inj hb
      exact e_r rfl rfl K
end AUTO
