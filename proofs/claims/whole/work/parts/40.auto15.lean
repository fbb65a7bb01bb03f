section AUTO
variable {L : Nat} {xs : Nat → Int32} {d : Nat} {P : am_R → am_H → Prop}
theorem E_Model_readStatement {R : M3} {X : MX} {I : MI} {J : MJ} {v : Int32} {I' : MI} {J' : MJ} (hR_0 : ∀ {I : MI} {J : MJ} {v : Int32} {I' : MI} {J' : MJ} {P : am_R → am_H → Prop}, R 0 0 0 I J = some (v, I', J') → P (.inl (some (.int v))) (hX X I' J') → am_E (gG L xs) (d + 3) m_Model_readX (0, lv_args 0 [.ref 112], []) (hX X I J) P) (hR_1 : ∀ {I : MI} {J : MJ} {v : Int32} {I' : MI} {J' : MJ} {P : am_R → am_H → Prop}, R 1 0 0 I J = some (v, I', J') → P (.inl (some (.int v))) (hX X I' J') → am_E (gG L xs) (d + 3) m_Model_readProduct (0, lv_args 0 [.ref 112], []) (hX X I J) P) (hR_2 : ∀ {I : MI} {J : MJ} {v : Int32} {I' : MI} {J' : MJ} {P : am_R → am_H → Prop}, R 2 0 0 I J = some (v, I', J') → P (.inl (some (.int v))) (hX X I' J') → am_E (gG L xs) (d + 3) m_Model_readFactor (0, lv_args 0 [.ref 112], []) (hX X I J) P) (hR_3 : ∀ {I : MI} {J : MJ} {v : Int32} {I' : MI} {J' : MJ} {P : am_R → am_H → Prop}, R 3 0 0 I J = some (v, I', J') → P (.inl (some (.int v))) (hX X I' J') → am_E (gG L xs) (d + 3) m_Model_readPart (0, lv_args 0 [.ref 112], []) (hX X I J) P) (hR_4 : ∀ {I : MI} {J : MJ} {v : Int32} {I' : MI} {J' : MJ} {P : am_R → am_H → Prop}, R 4 0 0 I J = some (v, I', J') → P (.inl (some (.int v))) (hX X I' J') → am_E (gG L xs) (d + 3) m_Model_readPlace (0, lv_args 0 [.ref 112], []) (hX X I J) P) (hR_5 : ∀ {I : MI} {J : MJ} {v : Int32} {I' : MI} {J' : MJ} {P : am_R → am_H → Prop}, R 5 0 0 I J = some (v, I', J') → P (.inl (some (.int v))) (hX X I' J') → am_E (gG L xs) (d + 3) m_Model_readStatements (0, lv_args 0 [.ref 112], []) (hX X I J) P) (hR_6 : ∀ {I : MI} {J : MJ} {v : Int32} {I' : MI} {J' : MJ} {P : am_R → am_H → Prop}, R 6 0 0 I J = some (v, I', J') → P (.inl (some (.int v))) (hX X I' J') → am_E (gG L xs) (d + 3) m_Model_readStatement (0, lv_args 0 [.ref 112], []) (hX X I J) P) (hR_7 : ∀ {I : MI} {J : MJ} {v : Int32} {I' : MI} {J' : MJ} {P : am_R → am_H → Prop}, R 7 0 0 I J = some (v, I', J') → P (.inl (some (.int v))) (hX X I' J') → am_E (gG L xs) (d + 3) m_Model_readRoutine (0, lv_args 0 [.ref 112], []) (hX X I J) P) (hR_8 : ∀ {a0 : Int32} {a1 : Int32} {I : MI} {J : MJ} {v : Int32} {I' : MI} {J' : MJ} {P : am_R → am_H → Prop}, R 8 a0 a1 I J = some (v, I', J') → P (.inl (some (.int v))) (hX X I' J') → am_E (gG L xs) (d + 3) m_Model_readValue (0, lv_args 0 [.ref 112, .int a0, .int a1], []) (hX X I J) P) (hR_9 : ∀ {a0 : Int32} {I : MI} {J : MJ} {v : Int32} {I' : MI} {J' : MJ} {P : am_R → am_H → Prop}, R 9 a0 0 I J = some (v, I', J') → P (.inl (some (.int v))) (hX X I' J') → am_E (gG L xs) (d + 3) m_Model_readRow (0, lv_args 0 [.ref 112, .int a0], []) (hX X I J) P) (hR_10 : ∀ {a0 : Int32} {I : MI} {J : MJ} {v : Int32} {I' : MI} {J' : MJ} {P : am_R → am_H → Prop}, R 10 a0 0 I J = some (v, I', J') → P (.inl (some (.int v))) (hX X I' J') → am_E (gG L xs) (d + 3) m_Model_readTurn (0, lv_args 0 [.ref 112, .int a0], []) (hX X I J) P) (hb : f_Model_readStatement R  I J = some (v, I', J')) (K : P (.inl (some (.int v))) (hX X I' J')) : am_E (gG L xs) (d + 4) m_Model_readStatement (0, lv_args 0 [.ref 112], []) (hX X I J) P := by
  unfold f_Model_readStatement at hb
  refine e_k 1 (f' := (1, [(0, .ref 112)], [.ref 112])) rfl ?_
  obtain ⟨v1, I1, J1, h1, hb⟩ := oc_call hb
  refine r_cv (z := m_Model_see) (As := []) (rest := []) rfl rfl rfl rfl rfl (x_ltn rfl) rfl rfl (E_Model_see  h1 ⟨_, rfl, ?_⟩)
  refine e_k 4 (f' := (if ¬ v1 = 62 then 16 else 11, [(1, .int v1), (0, .ref 112)], [])) rfl ?_
  refine e_if (fun c2 => ?_) (fun c2 => ?_)
  · replace hb := i_pos c2 hb
    refine e_k 3 (f' := (if v1 = 63 then 28 else 22, [(1, .int v1), (0, .ref 112)], [])) rfl ?_
    refine e_if (fun c3 => ?_) (fun c3 => ?_)
    · replace hb := i_pos c3 hb
      refine e_k 2 (f' := (30, [(1, .int v1), (0, .ref 112)], [.int v1, .ref 112])) rfl ?_
      obtain ⟨v4, I4, J4, h4, hb⟩ := oc_call hb
      refine r_cv (z := m_Model_readTurn) (As := [.int v1]) (rest := []) rfl rfl rfl rfl rfl (x_ltn rfl) rfl rfl (hR_10  h4 ⟨_, rfl, ?_⟩)
      obtain ⟨o5, hb⟩ := ob_if hb
      obtain ⟨rfl, rfl, rfl⟩ := s_inj hb
      exact e_r rfl (if_pos o5) K
    · replace hb := i_neg c3 hb
      refine e_k 3 (f' := (if ¬ v1 = 42 then 34 else 28, [(1, .int v1), (0, .ref 112)], [])) rfl ?_
      refine e_if (fun c6 => ?_) (fun c6 => ?_)
      · replace hb := i_pos c6 hb
        refine e_k 3 (f' := (if ¬ v1 = 64 then 45 else 40, [(1, .int v1), (0, .ref 112)], [])) rfl ?_
        refine e_if (fun c7 => ?_) (fun c7 => ?_)
        · replace hb := i_pos c7 hb
          refine e_k 1 (f' := (46, [(1, .int v1), (0, .ref 112)], [.ref 112])) rfl ?_
          obtain ⟨v8, I8, J8, h8, hb⟩ := oc_call hb
          refine r_cv (z := m_Model_isRow) (As := []) (rest := []) rfl rfl rfl rfl rfl (x_ltn rfl) rfl rfl (E_Model_isRow  h8 ⟨_, rfl, ?_⟩)
          refine e_k 1 (f' := (if v8 = 0 then 58 else 52, [(1, .int v1), (0, .ref 112)], [])) rfl ?_
          refine e_if (fun c9 => ?_) (fun c9 => ?_)
          · replace hb := i_pos c9 hb
            refine e_k 1 (f' := (59, [(1, .int v1), (0, .ref 112)], [.ref 112])) rfl ?_
            obtain ⟨v10, I10, J10, h10, hb⟩ := oc_call hb
            refine r_cv (z := m_Model_isVariable) (As := []) (rest := []) rfl rfl rfl rfl rfl (x_ltn rfl) rfl rfl (E_Model_isVariable  h10 ⟨_, rfl, ?_⟩)
            refine e_k 1 (f' := (if ¬ v10 = 0 then 70 else 65, [(1, .int v1), (0, .ref 112)], [])) rfl ?_
            refine e_if (fun c11 => ?_) (fun c11 => ?_)
            · replace hb := i_pos c11 hb
              refine e_k 1 (f' := (71, [(1, .int v1), (0, .ref 112)], [.ref 112])) rfl ?_
              refine r_geti rfl (x_ltn rfl) rfl rfl ?_
              refine e_k 1 (f' := (75, [(2, .int (I10 112 5)), (1, .int v1), (0, .ref 112)], [])) rfl ?_
              obtain ⟨x12, ex12, hb⟩ := p_nm hb
              rw [← ex12]
              refine e_k 2 (f' := (77, [(2, .int x12), (1, .int v1), (0, .ref 112)], [.ref 112, .ref 112])) rfl ?_
              refine r_geti rfl (x_ltn rfl) rfl rfl ?_
              refine e_k 2 (f' := (82, [(2, .int x12), (1, .int v1), (0, .ref 112)], [.int ((I10 112 5) + 1), .ref 112])) rfl ?_
              obtain ⟨I13, eI13, hb⟩ := p_nm hb
              refine r_puti' rfl (x_ltn rfl) rfl rfl eI13 ?_
              refine e_k 2 (f' := (88, [(2, .int x12), (1, .int v1), (0, .ref 112)], [.int 60, .ref 112])) rfl ?_
              obtain ⟨v14, I14, J14, h14, hb⟩ := oc_call hb
              refine r_cv (z := m_Model_takes) (As := [.int 60]) (rest := []) rfl rfl rfl rfl rfl (x_ltn rfl) rfl rfl (E_Model_takes  h14 ⟨_, rfl, ?_⟩)
              refine e_k 1 (f' := (if v14 = 0 then 101 else 94, [(2, .int x12), (1, .int v1), (0, .ref 112)], [])) rfl ?_
              refine e_if (fun c15 => ?_) (fun c15 => ?_)
              · replace hb := i_pos c15 hb
                refine e_k 2 (f' := (104, [(2, .int x12), (1, .int v1), (0, .ref 112)], [.int 61, .ref 112])) rfl ?_
                obtain ⟨v16, I16, J16, h16, hb⟩ := oc_call hb
                refine r_cv (z := m_Model_takes) (As := [.int 61]) (rest := []) rfl rfl rfl rfl rfl (x_ltn rfl) rfl rfl (E_Model_takes  h16 ⟨_, rfl, ?_⟩)
                refine e_k 1 (f' := (if v16 = 0 then 117 else 110, [(2, .int x12), (1, .int v1), (0, .ref 112)], [])) rfl ?_
                refine e_if (fun c17 => ?_) (fun c17 => ?_)
                · replace hb := i_pos c17 hb
                  refine e_k 2 (f' := (120, [(2, .int x12), (1, .int v1), (0, .ref 112)], [.int 33, .ref 112])) rfl ?_
                  obtain ⟨v18, I18, J18, h18, hb⟩ := oc_call hb
                  refine r_cv (z := m_Model_takes) (As := [.int 33]) (rest := []) rfl rfl rfl rfl rfl (x_ltn rfl) rfl rfl (E_Model_takes  h18 ⟨_, rfl, ?_⟩)
                  refine e_k 1 (f' := (if v18 = 0 then 133 else 126, [(2, .int x12), (1, .int v1), (0, .ref 112)], [])) rfl ?_
                  refine e_if (fun c19 => ?_) (fun c19 => ?_)
                  · replace hb := i_pos c19 hb
                    refine e_k 2 (f' := (136, [(2, .int x12), (1, .int v1), (0, .ref 112)], [.int 58, .ref 112])) rfl ?_
                    obtain ⟨v20, I20, J20, h20, hb⟩ := oc_call hb
                    refine r_cv (z := m_Model_takes) (As := [.int 58]) (rest := []) rfl rfl rfl rfl rfl (x_ltn rfl) rfl rfl (E_Model_takes  h20 ⟨_, rfl, ?_⟩)
                    refine e_k 1 (f' := (if ¬ v20 = 0 then 147 else 142, [(2, .int x12), (1, .int v1), (0, .ref 112)], [])) rfl ?_
                    refine e_if (fun c21 => ?_) (fun c21 => ?_)
                    · replace hb := i_pos c21 hb
                      refine e_k 1 (f' := (148, [(2, .int x12), (1, .int v1), (0, .ref 112)], [.ref 112])) rfl ?_
                      obtain ⟨v22, I22, J22, h22, hb⟩ := oc_call hb
                      refine r_cv (z := m_Model_isVariable) (As := []) (rest := []) rfl rfl rfl rfl rfl (x_ltn rfl) rfl rfl (E_Model_isVariable  h22 ⟨_, rfl, ?_⟩)
                      refine e_k 1 (f' := (if ¬ v22 = 0 then 159 else 154, [(2, .int x12), (1, .int v1), (0, .ref 112)], [])) rfl ?_
                      refine e_if (fun c23 => ?_) (fun c23 => ?_)
                      · replace hb := i_pos c23 hb
                        refine e_k 1 (f' := (160, [(2, .int x12), (1, .int v1), (0, .ref 112)], [.ref 112])) rfl ?_
                        obtain ⟨v24, I24, J24, h24, hb⟩ := oc_call hb
                        refine r_cv (z := m_Model_see) (As := []) (rest := []) rfl rfl rfl rfl rfl (x_ltn rfl) rfl rfl (E_Model_see  h24 ⟨_, rfl, ?_⟩)
                        refine e_k 2 (f' := (165, [(3, .int v24), (2, .int x12), (1, .int v1), (0, .ref 112)], [.int v1])) rfl ?_
                        obtain ⟨v25, I25, J25, h25, hb⟩ := oc_call hb
                        refine r_cs (z := m_Model_isSecret) (As := [.int v1]) (rest := []) rfl rfl rfl rfl rfl rfl (E_Model_isSecret  h25 ⟨_, rfl, ?_⟩)
                        refine e_k 1 (f' := (if v25 = 0 then 177 else 171, [(3, .int v24), (2, .int x12), (1, .int v1), (0, .ref 112)], [])) rfl ?_
                        obtain ⟨v27, I27, J27, h27, hb⟩ := oc_call hb
                        have Kj27 : am_E (gG L xs) (d + 4) m_Model_readStatement (177, [(0, .ref 112), (1, .int v1), (3, .int v24)], []) (hX X I27 J27) P := by
                          refine e_k 1 (f' := (178, [(0, .ref 112), (1, .int v1), (3, .int v24)], [.int v24])) rfl ?_
                          obtain ⟨v30, I30, J30, h30, hb⟩ := oc_call hb
                          refine r_cs (z := m_Model_isClear) (As := [.int v24]) (rest := []) rfl rfl rfl rfl rfl rfl (E_Model_isClear  h30 ⟨_, rfl, ?_⟩)
                          refine e_k 1 (f' := (if v30 = 0 then 193 else 184, [(0, .ref 112), (1, .int v1), (3, .int v24)], [])) rfl ?_
                          obtain ⟨v32, I32, J32, h32, hb⟩ := oc_call hb
                          have Kj32 : am_E (gG L xs) (d + 4) m_Model_readStatement (193, [(0, .ref 112), (1, .int v1), (3, .int v24)], []) (hX X I32 J32) P := by
                            refine e_k 2 (f' := (195, [(0, .ref 112), (1, .int v1), (3, .int v24)], [.ref 112, .ref 112])) rfl ?_
                            refine r_geti rfl (x_ltn rfl) rfl rfl ?_
                            refine e_k 2 (f' := (200, [(0, .ref 112), (1, .int v1), (3, .int v24)], [.int ((I32 112 5) + 1), .ref 112])) rfl ?_
                            obtain ⟨I35, eI35, hb⟩ := p_nm hb
                            refine r_puti' rfl (x_ltn rfl) rfl rfl eI35 ?_
                            refine e_k 3 (f' := (207, [(0, .ref 112), (1, .int v1), (3, .int v24)], [.int v1, .int 14, .ref 112])) rfl ?_
                            obtain ⟨v36, I36, J36, h36, hb⟩ := oc_call hb
                            refine r_cs (z := m_Model_numberOf) (As := [.int v1]) (rest := [.int 14, .ref 112]) rfl rfl rfl rfl rfl rfl (E_Model_numberOf  h36 ⟨_, rfl, ?_⟩)
                            obtain ⟨v37, I37, J37, h37, hb⟩ := oc_call hb
                            refine r_cv (z := m_Model_lay_IIV) (As := [.int 14, .int v36]) (rest := []) rfl rfl rfl rfl rfl (x_ltn rfl) rfl rfl (E_Model_lay_IIV  h37 ⟨_, rfl, ?_⟩)
                            refine e_k 2 (f' := (215, [(0, .ref 112), (1, .int v1), (3, .int v24)], [.int v24, .ref 112])) rfl ?_
                            obtain ⟨v38, I38, J38, h38, hb⟩ := oc_call hb
                            refine r_cs (z := m_Model_numberOf) (As := [.int v24]) (rest := [.ref 112]) rfl rfl rfl rfl rfl rfl (E_Model_numberOf  h38 ⟨_, rfl, ?_⟩)
                            obtain ⟨v39, I39, J39, h39, hb⟩ := oc_call hb
                            refine r_cv (z := m_Model_lay_IV) (As := [.int v38]) (rest := []) rfl rfl rfl rfl rfl (x_ltn rfl) rfl rfl (E_Model_lay_IV  h39 ⟨_, rfl, ?_⟩)
                            refine e_k 2 (f' := (224, [(0, .ref 112), (1, .int v1), (3, .int v24)], [.int 59, .ref 112])) rfl ?_
                            obtain ⟨v40, I40, J40, h40, hb⟩ := oc_call hb
                            refine r_cv (z := m_Model_want) (As := [.int 59]) (rest := []) rfl rfl rfl rfl rfl (x_ltn rfl) rfl rfl (E_Model_want  h40 ⟨_, rfl, ?_⟩)
                            obtain ⟨o41, hb⟩ := ob_if hb
                            obtain ⟨rfl, rfl, rfl⟩ := s_inj hb
                            exact e_r rfl (if_pos o41) K
                          clear hb
                          refine e_if (fun c33 => ?_) (fun c33 => ?_)
                          · replace h32 := i_pos c33 h32
                            refine e_sub (ls := [(0, .ref 112), (1, .int v1), (3, .int v24)]) rfl ⟨rfl, rfl, rfl, trivial⟩ ?_
                            obtain ⟨rfl, rfl, rfl⟩ := s_inj h32
                            exact Kj32
                          · replace h32 := i_neg c33 h32
                            refine e_k 3 (f' := (187, [(0, .ref 112), (1, .int v1), (3, .int v24)], [.ref 112, .int 2, .ref 112])) rfl ?_
                            refine r_geti rfl (x_ltn rfl) rfl rfl ?_
                            obtain ⟨v34, I34, J34, h34, h32⟩ := oc_call h32
                            refine r_cv (z := m_Model_note) (As := [.int 2, .int (I30 112 5)]) (rest := []) rfl rfl rfl rfl rfl (x_ltn rfl) rfl rfl (E_Model_note  h34 ⟨_, rfl, ?_⟩)
                            refine e_sub (ls := [(0, .ref 112), (1, .int v1), (3, .int v24)]) rfl ⟨rfl, rfl, rfl, trivial⟩ ?_
                            obtain ⟨rfl, rfl, rfl⟩ := s_inj h32
                            exact Kj32
                        clear hb
                        refine e_if (fun c28 => ?_) (fun c28 => ?_)
                        · replace h27 := i_pos c28 h27
                          refine e_sub (ls := [(0, .ref 112), (1, .int v1), (3, .int v24)]) rfl ⟨rfl, rfl, rfl, trivial⟩ ?_
                          obtain ⟨rfl, rfl, rfl⟩ := s_inj h27
                          exact Kj27
                        · replace h27 := i_neg c28 h27
                          refine e_k 3 (f' := (174, [(3, .int v24), (2, .int x12), (1, .int v1), (0, .ref 112)], [.int x12, .int 2, .ref 112])) rfl ?_
                          obtain ⟨v29, I29, J29, h29, h27⟩ := oc_call h27
                          refine r_cv (z := m_Model_note) (As := [.int 2, .int x12]) (rest := []) rfl rfl rfl rfl rfl (x_ltn rfl) rfl rfl (E_Model_note  h29 ⟨_, rfl, ?_⟩)
                          refine e_sub (ls := [(0, .ref 112), (1, .int v1), (3, .int v24)]) rfl ⟨rfl, rfl, rfl, trivial⟩ ?_
                          obtain ⟨rfl, rfl, rfl⟩ := s_inj h27
                          exact Kj27
                      · replace hb := i_neg c23 hb
                        refine e_k 1 (f' := (155, [(2, .int x12), (1, .int v1), (0, .ref 112)], [.ref 112])) rfl ?_
                        obtain ⟨v42, I42, J42, h42, hb⟩ := oc_call hb
                        refine r_cv (z := m_Model_refuse) (As := []) (rest := []) rfl rfl rfl rfl rfl (x_ltn rfl) rfl rfl (E_Model_refuse  h42 ⟨_, rfl, ?_⟩)
                        obtain ⟨o43, hb⟩ := ob_if hb
                        obtain ⟨rfl, rfl, rfl⟩ := s_inj hb
                        exact e_r rfl (if_pos o43) K
                    · replace hb := i_neg c21 hb
                      refine e_k 1 (f' := (143, [(2, .int x12), (1, .int v1), (0, .ref 112)], [.ref 112])) rfl ?_
                      obtain ⟨v44, I44, J44, h44, hb⟩ := oc_call hb
                      refine r_cv (z := m_Model_refuse) (As := []) (rest := []) rfl rfl rfl rfl rfl (x_ltn rfl) rfl rfl (E_Model_refuse  h44 ⟨_, rfl, ?_⟩)
                      obtain ⟨o45, hb⟩ := ob_if hb
                      obtain ⟨rfl, rfl, rfl⟩ := s_inj hb
                      exact e_r rfl (if_pos o45) K
                  · replace hb := i_neg c19 hb
                    refine e_k 3 (f' := (129, [(2, .int x12), (1, .int v1), (0, .ref 112)], [.int x12, .int v1, .ref 112])) rfl ?_
                    obtain ⟨v46, I46, J46, h46, hb⟩ := oc_call hb
                    refine r_cv (z := m_Model_readBit) (As := [.int v1, .int x12]) (rest := []) rfl rfl rfl rfl rfl (x_ltn rfl) rfl rfl (E_Model_readBit  h46 ⟨_, rfl, ?_⟩)
                    obtain ⟨o47, hb⟩ := ob_if hb
                    obtain ⟨rfl, rfl, rfl⟩ := s_inj hb
                    exact e_r rfl (if_pos o47) K
                · replace hb := i_neg c17 hb
                  refine e_k 3 (f' := (113, [(2, .int x12), (1, .int v1), (0, .ref 112)], [.int x12, .int v1, .ref 112])) rfl ?_
                  obtain ⟨v48, I48, J48, h48, hb⟩ := oc_call hb
                  refine r_cv (z := m_Model_readValue) (As := [.int v1, .int x12]) (rest := []) rfl rfl rfl rfl rfl (x_ltn rfl) rfl rfl (hR_8  h48 ⟨_, rfl, ?_⟩)
                  obtain ⟨o49, hb⟩ := ob_if hb
                  obtain ⟨rfl, rfl, rfl⟩ := s_inj hb
                  exact e_r rfl (if_pos o49) K
              · replace hb := i_neg c15 hb
                refine e_k 3 (f' := (97, [(2, .int x12), (1, .int v1), (0, .ref 112)], [.int x12, .int v1, .ref 112])) rfl ?_
                obtain ⟨v50, I50, J50, h50, hb⟩ := oc_call hb
                refine r_cv (z := m_Model_readInput) (As := [.int v1, .int x12]) (rest := []) rfl rfl rfl rfl rfl (x_ltn rfl) rfl rfl (E_Model_readInput  h50 ⟨_, rfl, ?_⟩)
                obtain ⟨o51, hb⟩ := ob_if hb
                obtain ⟨rfl, rfl, rfl⟩ := s_inj hb
                exact e_r rfl (if_pos o51) K
            · replace hb := i_neg c11 hb
              refine e_k 1 (f' := (66, [(1, .int v1), (0, .ref 112)], [.ref 112])) rfl ?_
              obtain ⟨v52, I52, J52, h52, hb⟩ := oc_call hb
              refine r_cv (z := m_Model_refuse) (As := []) (rest := []) rfl rfl rfl rfl rfl (x_ltn rfl) rfl rfl (E_Model_refuse  h52 ⟨_, rfl, ?_⟩)
              obtain ⟨o53, hb⟩ := ob_if hb
              obtain ⟨rfl, rfl, rfl⟩ := s_inj hb
              exact e_r rfl (if_pos o53) K
          · replace hb := i_neg c9 hb
            refine e_k 2 (f' := (54, [(1, .int v1), (0, .ref 112)], [.int v1, .ref 112])) rfl ?_
            obtain ⟨v54, I54, J54, h54, hb⟩ := oc_call hb
            refine r_cv (z := m_Model_readRow) (As := [.int v1]) (rest := []) rfl rfl rfl rfl rfl (x_ltn rfl) rfl rfl (hR_9  h54 ⟨_, rfl, ?_⟩)
            obtain ⟨o55, hb⟩ := ob_if hb
            obtain ⟨rfl, rfl, rfl⟩ := s_inj hb
            exact e_r rfl (if_pos o55) K
        · replace hb := i_neg c7 hb
          refine e_k 1 (f' := (41, [(1, .int v1), (0, .ref 112)], [.ref 112])) rfl ?_
          obtain ⟨v56, I56, J56, h56, hb⟩ := oc_call hb
          refine r_cv (z := m_Model_readRoutine) (As := []) (rest := []) rfl rfl rfl rfl rfl (x_ltn rfl) rfl rfl (hR_7  h56 ⟨_, rfl, ?_⟩)
          obtain ⟨o57, hb⟩ := ob_if hb
          obtain ⟨rfl, rfl, rfl⟩ := s_inj hb
          exact e_r rfl (if_pos o57) K
      · replace hb := i_neg c6 hb
        refine e_k 2 (f' := (30, [(1, .int v1), (0, .ref 112)], [.int v1, .ref 112])) rfl ?_
        obtain ⟨v58, I58, J58, h58, hb⟩ := oc_call hb
        refine r_cv (z := m_Model_readTurn) (As := [.int v1]) (rest := []) rfl rfl rfl rfl rfl (x_ltn rfl) rfl rfl (hR_10  h58 ⟨_, rfl, ?_⟩)
        obtain ⟨o59, hb⟩ := ob_if hb
        obtain ⟨rfl, rfl, rfl⟩ := s_inj hb
        exact e_r rfl (if_pos o59) K
  · replace hb := i_neg c2 hb
    refine e_k 1 (f' := (12, [(1, .int v1), (0, .ref 112)], [.ref 112])) rfl ?_
    obtain ⟨v60, I60, J60, h60, hb⟩ := oc_call hb
    refine r_cv (z := m_Model_readOut) (As := []) (rest := []) rfl rfl rfl rfl rfl (x_ltn rfl) rfl rfl (E_Model_readOut  h60 ⟨_, rfl, ?_⟩)
    obtain ⟨o61, hb⟩ := ob_if hb
    obtain ⟨rfl, rfl, rfl⟩ := s_inj hb
    exact e_r rfl (if_pos o61) K
theorem E_Model_readRoutine {R : M3} {X : MX} {I : MI} {J : MJ} {v : Int32} {I' : MI} {J' : MJ} (hR_0 : ∀ {I : MI} {J : MJ} {v : Int32} {I' : MI} {J' : MJ} {P : am_R → am_H → Prop}, R 0 0 0 I J = some (v, I', J') → P (.inl (some (.int v))) (hX X I' J') → am_E (gG L xs) (d + 2) m_Model_readX (0, lv_args 0 [.ref 112], []) (hX X I J) P) (hR_1 : ∀ {I : MI} {J : MJ} {v : Int32} {I' : MI} {J' : MJ} {P : am_R → am_H → Prop}, R 1 0 0 I J = some (v, I', J') → P (.inl (some (.int v))) (hX X I' J') → am_E (gG L xs) (d + 2) m_Model_readProduct (0, lv_args 0 [.ref 112], []) (hX X I J) P) (hR_2 : ∀ {I : MI} {J : MJ} {v : Int32} {I' : MI} {J' : MJ} {P : am_R → am_H → Prop}, R 2 0 0 I J = some (v, I', J') → P (.inl (some (.int v))) (hX X I' J') → am_E (gG L xs) (d + 2) m_Model_readFactor (0, lv_args 0 [.ref 112], []) (hX X I J) P) (hR_3 : ∀ {I : MI} {J : MJ} {v : Int32} {I' : MI} {J' : MJ} {P : am_R → am_H → Prop}, R 3 0 0 I J = some (v, I', J') → P (.inl (some (.int v))) (hX X I' J') → am_E (gG L xs) (d + 2) m_Model_readPart (0, lv_args 0 [.ref 112], []) (hX X I J) P) (hR_4 : ∀ {I : MI} {J : MJ} {v : Int32} {I' : MI} {J' : MJ} {P : am_R → am_H → Prop}, R 4 0 0 I J = some (v, I', J') → P (.inl (some (.int v))) (hX X I' J') → am_E (gG L xs) (d + 2) m_Model_readPlace (0, lv_args 0 [.ref 112], []) (hX X I J) P) (hR_5 : ∀ {I : MI} {J : MJ} {v : Int32} {I' : MI} {J' : MJ} {P : am_R → am_H → Prop}, R 5 0 0 I J = some (v, I', J') → P (.inl (some (.int v))) (hX X I' J') → am_E (gG L xs) (d + 2) m_Model_readStatements (0, lv_args 0 [.ref 112], []) (hX X I J) P) (hR_6 : ∀ {I : MI} {J : MJ} {v : Int32} {I' : MI} {J' : MJ} {P : am_R → am_H → Prop}, R 6 0 0 I J = some (v, I', J') → P (.inl (some (.int v))) (hX X I' J') → am_E (gG L xs) (d + 2) m_Model_readStatement (0, lv_args 0 [.ref 112], []) (hX X I J) P) (hR_7 : ∀ {I : MI} {J : MJ} {v : Int32} {I' : MI} {J' : MJ} {P : am_R → am_H → Prop}, R 7 0 0 I J = some (v, I', J') → P (.inl (some (.int v))) (hX X I' J') → am_E (gG L xs) (d + 2) m_Model_readRoutine (0, lv_args 0 [.ref 112], []) (hX X I J) P) (hR_8 : ∀ {a0 : Int32} {a1 : Int32} {I : MI} {J : MJ} {v : Int32} {I' : MI} {J' : MJ} {P : am_R → am_H → Prop}, R 8 a0 a1 I J = some (v, I', J') → P (.inl (some (.int v))) (hX X I' J') → am_E (gG L xs) (d + 2) m_Model_readValue (0, lv_args 0 [.ref 112, .int a0, .int a1], []) (hX X I J) P) (hR_9 : ∀ {a0 : Int32} {I : MI} {J : MJ} {v : Int32} {I' : MI} {J' : MJ} {P : am_R → am_H → Prop}, R 9 a0 0 I J = some (v, I', J') → P (.inl (some (.int v))) (hX X I' J') → am_E (gG L xs) (d + 2) m_Model_readRow (0, lv_args 0 [.ref 112, .int a0], []) (hX X I J) P) (hR_10 : ∀ {a0 : Int32} {I : MI} {J : MJ} {v : Int32} {I' : MI} {J' : MJ} {P : am_R → am_H → Prop}, R 10 a0 0 I J = some (v, I', J') → P (.inl (some (.int v))) (hX X I' J') → am_E (gG L xs) (d + 2) m_Model_readTurn (0, lv_args 0 [.ref 112, .int a0], []) (hX X I J) P) (hb : f_Model_readRoutine R  I J = some (v, I', J')) (K : P (.inl (some (.int v))) (hX X I' J')) : am_E (gG L xs) (d + 3) m_Model_readRoutine (0, lv_args 0 [.ref 112], []) (hX X I J) P := by
  unfold f_Model_readRoutine at hb
  refine e_k 1 (f' := (1, [(0, .ref 112)], [.ref 112])) rfl ?_
  refine r_geti rfl (x_ltn rfl) rfl rfl ?_
  refine e_k 1 (f' := (5, [(1, .int (I 112 5)), (0, .ref 112)], [])) rfl ?_
  obtain ⟨x1, ex1, hb⟩ := p_nm hb
  rw [← ex1]
  refine e_k 2 (f' := (7, [(1, .int x1), (0, .ref 112)], [.ref 112, .ref 112])) rfl ?_
  refine r_geti rfl (x_ltn rfl) rfl rfl ?_
  refine e_k 2 (f' := (12, [(1, .int x1), (0, .ref 112)], [.int ((I 112 5) + 1), .ref 112])) rfl ?_
  obtain ⟨I2, eI2, hb⟩ := p_nm hb
  refine r_puti' rfl (x_ltn rfl) rfl rfl eI2 ?_
  refine e_k 1 (f' := (16, [(1, .int x1), (0, .ref 112)], [.ref 112])) rfl ?_
  obtain ⟨v3, I3, J3, h3, hb⟩ := oc_call hb
  refine r_cv (z := m_Model_isDigit) (As := []) (rest := []) rfl rfl rfl rfl rfl (x_ltn rfl) rfl rfl (E_Model_isDigit  h3 ⟨_, rfl, ?_⟩)
  refine e_k 1 (f' := (if ¬ v3 = 0 then 27 else 22, [(1, .int x1), (0, .ref 112)], [])) rfl ?_
  refine e_if (fun c4 => ?_) (fun c4 => ?_)
  · replace hb := i_pos c4 hb
    refine e_k 1 (f' := (28, [(1, .int x1), (0, .ref 112)], [.ref 112])) rfl ?_
    obtain ⟨v5, I5, J5, h5, hb⟩ := oc_call hb
    refine r_cv (z := m_Model_see) (As := []) (rest := []) rfl rfl rfl rfl rfl (x_ltn rfl) rfl rfl (E_Model_see  h5 ⟨_, rfl, ?_⟩)
    refine e_k 3 (f' := (35, [(2, .int (v5 - 48)), (1, .int x1), (0, .ref 112)], [])) rfl ?_
    obtain ⟨x6, ex6, hb⟩ := p_nm hb
    rw [← ex6]
    refine e_k 2 (f' := (37, [(2, .int x6), (1, .int x1), (0, .ref 112)], [.ref 112, .ref 112])) rfl ?_
    refine r_geti rfl (x_ltn rfl) rfl rfl ?_
    refine e_k 2 (f' := (42, [(2, .int x6), (1, .int x1), (0, .ref 112)], [.int ((I5 112 5) + 1), .ref 112])) rfl ?_
    obtain ⟨I7, eI7, hb⟩ := p_nm hb
    refine r_puti' rfl (x_ltn rfl) rfl rfl eI7 ?_
    refine e_k 2 (f' := (48, [(2, .int x6), (1, .int x1), (0, .ref 112)], [.int 59, .ref 112])) rfl ?_
    obtain ⟨v8, I8, J8, h8, hb⟩ := oc_call hb
    refine r_cv (z := m_Model_takes) (As := [.int 59]) (rest := []) rfl rfl rfl rfl rfl (x_ltn rfl) rfl rfl (E_Model_takes  h8 ⟨_, rfl, ?_⟩)
    refine e_k 1 (f' := (if v8 = 0 then 111 else 54, [(2, .int x6), (1, .int x1), (0, .ref 112)], [])) rfl ?_
    refine e_if (fun c9 => ?_) (fun c9 => ?_)
    · replace hb := i_pos c9 hb
      refine e_k 1 (f' := (112, [(2, .int x6), (1, .int x1), (0, .ref 112)], [.ref 112])) rfl ?_
      obtain ⟨v10, I10, J10, h10, hb⟩ := oc_call hb
      refine r_cv (z := m_Model_see) (As := []) (rest := []) rfl rfl rfl rfl rfl (x_ltn rfl) rfl rfl (E_Model_see  h10 ⟨_, rfl, ?_⟩)
      refine e_k 2 (f' := (if ¬ v10 = 91 then 127 else 120, [(2, .int x6), (1, .int x1), (0, .ref 112)], [])) rfl ?_
      refine e_if (fun c11 => ?_) (fun c11 => ?_)
      · replace hb := i_pos c11 hb
        refine e_k 1 (f' := (128, [(2, .int x6), (1, .int x1), (0, .ref 112)], [.ref 112])) rfl ?_
        obtain ⟨v12, I12, J12, h12, hb⟩ := oc_call hb
        refine r_cv (z := m_Model_refuse) (As := []) (rest := []) rfl rfl rfl rfl rfl (x_ltn rfl) rfl rfl (E_Model_refuse  h12 ⟨_, rfl, ?_⟩)
        obtain ⟨o13, hb⟩ := ob_if hb
        obtain ⟨rfl, rfl, rfl⟩ := s_inj hb
        exact e_r rfl (if_pos o13) K
      · replace hb := i_neg c11 hb
        refine e_k 1 (f' := (121, [(2, .int x6), (1, .int x1), (0, .ref 112)], [.ref 112])) rfl ?_
        refine r_geti rfl (x_ltn rfl) rfl rfl ?_
        refine e_k 1 (f' := (if (I10 112 79) ≤ 0 then 132 else 127, [(2, .int x6), (1, .int x1), (0, .ref 112)], [])) rfl ?_
        refine e_if (fun c14 => ?_) (fun c14 => ?_)
        · replace hb := i_pos c14 hb
          refine e_k 2 (f' := (134, [(2, .int x6), (1, .int x1), (0, .ref 112)], [.ref 112, .ref 112])) rfl ?_
          refine r_geti rfl (x_ltn rfl) rfl rfl ?_
          refine e_k 2 (f' := (139, [(2, .int x6), (1, .int x1), (0, .ref 112)], [.int ((I10 112 5) + 1), .ref 112])) rfl ?_
          obtain ⟨I15, eI15, hb⟩ := p_nm hb
          refine r_puti' rfl (x_ltn rfl) rfl rfl eI15 ?_
          refine e_k 1 (f' := (143, [(2, .int x6), (1, .int x1), (0, .ref 112)], [.ref 112])) rfl ?_
          refine r_getr rfl (x_ltn rfl) rfl rfl ?_
          refine e_k 1 (f' := (147, [(2, .int x6), (1, .int x1), (0, .ref 112)], [.int x6, .ref 162])) rfl ?_
          obtain ⟨o16, hb⟩ := ob_in hb
          refine r_iald rfl rfl (x_ltn rfl) rfl o16 ?_
          refine e_k 2 (f' := (if (I15 162 (Int32.toNatClampNeg x6)) = (-1) then 158 else 152, [(2, .int x6), (1, .int x1), (0, .ref 112)], [])) rfl ?_
          obtain ⟨v18, I18, J18, h18, hb⟩ := oc_call hb
          have Kj18 : am_E (gG L xs) (d + 3) m_Model_readRoutine (158, [(0, .ref 112), (2, .int x6)], []) (hX X I18 J18) P := by
            refine e_k 2 (f' := (161, [(0, .ref 112), (2, .int x6)], [.int 18, .ref 112])) rfl ?_
            obtain ⟨v21, I21, J21, h21, hb⟩ := oc_call hb
            refine r_cv (z := m_Model_lay_IV) (As := [.int 18]) (rest := []) rfl rfl rfl rfl rfl (x_ltn rfl) rfl rfl (E_Model_lay_IV  h21 ⟨_, rfl, ?_⟩)
            refine e_k 1 (f' := (165, [(0, .ref 112), (2, .int x6)], [.ref 112])) rfl ?_
            refine r_geti rfl (x_ltn rfl) rfl rfl ?_
            refine e_k 1 (f' := (169, [(3, .int (I21 112 10)), (0, .ref 112), (2, .int x6)], [])) rfl ?_
            obtain ⟨x22, ex22, hb⟩ := p_nm hb
            rw [← ex22]
            refine e_k 3 (f' := (172, [(3, .int x22), (0, .ref 112), (2, .int x6)], [.int 0, .int 0, .ref 112])) rfl ?_
            obtain ⟨v23, I23, J23, h23, hb⟩ := oc_call hb
            refine r_cv (z := m_Model_lay_IIV) (As := [.int 0, .int 0]) (rest := []) rfl rfl rfl rfl rfl (x_ltn rfl) rfl rfl (E_Model_lay_IIV  h23 ⟨_, rfl, ?_⟩)
            refine e_k 1 (f' := (176, [(3, .int x22), (0, .ref 112), (2, .int x6)], [.ref 112])) rfl ?_
            refine r_getr rfl (x_ltn rfl) rfl rfl ?_
            refine e_k 2 (f' := (181, [(3, .int x22), (0, .ref 112), (2, .int x6)], [.ref 112, .int x6, .ref 162])) rfl ?_
            refine r_geti rfl (x_ltn rfl) rfl rfl ?_
            obtain ⟨o24, hb⟩ := ob_in hb
            obtain ⟨I25, eI25, hb⟩ := p_nm hb
            refine r_iast' rfl (x_ltn rfl) rfl o24 eI25 ?_
            refine e_k 2 (f' := (187, [(3, .int x22), (0, .ref 112), (2, .int x6)], [.ref 112, .ref 112])) rfl ?_
            refine r_geti rfl (x_ltn rfl) rfl rfl ?_
            refine e_k 2 (f' := (192, [(3, .int x22), (0, .ref 112), (2, .int x6)], [.int ((I25 112 79) + 1), .ref 112])) rfl ?_
            obtain ⟨I26, eI26, hb⟩ := p_nm hb
            refine r_puti' rfl (x_ltn rfl) rfl rfl eI26 ?_
            refine e_k 1 (f' := (196, [(3, .int x22), (0, .ref 112), (2, .int x6)], [.ref 112])) rfl ?_
            obtain ⟨v27, I27, J27, h27, hb⟩ := oc_call hb
            refine r_cv (z := m_Model_readStatements) (As := []) (rest := []) rfl rfl rfl rfl rfl (x_ltn rfl) rfl rfl (hR_5  h27 ⟨_, rfl, ?_⟩)
            refine e_k 1 (f' := (if ¬ v27 = 0 then 204 else 202, [(3, .int x22), (0, .ref 112), (2, .int x6)], [])) rfl ?_
            refine e_if (fun c28 => ?_) (fun c28 => ?_)
            · replace hb := i_pos c28 hb
              refine e_k 2 (f' := (206, [(3, .int x22), (0, .ref 112), (2, .int x6)], [.ref 112, .ref 112])) rfl ?_
              refine r_geti rfl (x_ltn rfl) rfl rfl ?_
              refine e_k 2 (f' := (211, [(3, .int x22), (0, .ref 112), (2, .int x6)], [.int ((I27 112 79) - 1), .ref 112])) rfl ?_
              obtain ⟨I29, eI29, hb⟩ := p_nm hb
              refine r_puti' rfl (x_ltn rfl) rfl rfl eI29 ?_
              refine e_k 2 (f' := (217, [(3, .int x22), (0, .ref 112), (2, .int x6)], [.int 29, .ref 112])) rfl ?_
              obtain ⟨v30, I30, J30, h30, hb⟩ := oc_call hb
              refine r_cv (z := m_Model_lay_IV) (As := [.int 29]) (rest := []) rfl rfl rfl rfl rfl (x_ltn rfl) rfl rfl (E_Model_lay_IV  h30 ⟨_, rfl, ?_⟩)
              refine e_k 3 (f' := (223, [(3, .int x22), (0, .ref 112), (2, .int x6)], [.ref 112, .int x22, .ref 112])) rfl ?_
              refine r_geti rfl (x_ltn rfl) rfl rfl ?_
              obtain ⟨v31, I31, J31, h31, hb⟩ := oc_call hb
              refine r_cv (z := m_Model_fill) (As := [.int x22, .int (I30 112 10)]) (rest := []) rfl rfl rfl rfl rfl (x_ltn rfl) rfl rfl (E_Model_fill  h31 ⟨_, rfl, ?_⟩)
              refine e_k 2 (f' := (232, [(3, .int x22), (0, .ref 112), (2, .int x6)], [.int 93, .ref 112])) rfl ?_
              obtain ⟨v32, I32, J32, h32, hb⟩ := oc_call hb
              refine r_cv (z := m_Model_want) (As := [.int 93]) (rest := []) rfl rfl rfl rfl rfl (x_ltn rfl) rfl rfl (E_Model_want  h32 ⟨_, rfl, ?_⟩)
              obtain ⟨o33, hb⟩ := ob_if hb
              obtain ⟨rfl, rfl, rfl⟩ := s_inj hb
              exact e_r rfl (if_pos o33) K
            · replace hb := i_neg c28 hb
              refine e_k 1 (f' := (203, [(3, .int x22), (0, .ref 112), (2, .int x6)], [.int 0])) rfl ?_
              obtain ⟨rfl, rfl, rfl⟩ := s_inj hb
              exact e_r rfl rfl K
          clear hb
          refine e_if (fun c19 => ?_) (fun c19 => ?_)
          · replace h18 := i_pos c19 h18
            refine e_sub (ls := [(0, .ref 112), (2, .int x6)]) rfl ⟨rfl, rfl, trivial⟩ ?_
            obtain ⟨rfl, rfl, rfl⟩ := s_inj h18
            exact Kj18
          · replace h18 := i_neg c19 h18
            refine e_k 3 (f' := (155, [(2, .int x6), (1, .int x1), (0, .ref 112)], [.int x1, .int 5, .ref 112])) rfl ?_
            obtain ⟨v20, I20, J20, h20, h18⟩ := oc_call h18
            refine r_cv (z := m_Model_note) (As := [.int 5, .int x1]) (rest := []) rfl rfl rfl rfl rfl (x_ltn rfl) rfl rfl (E_Model_note  h20 ⟨_, rfl, ?_⟩)
            refine e_sub (ls := [(0, .ref 112), (2, .int x6)]) rfl ⟨rfl, rfl, trivial⟩ ?_
            obtain ⟨rfl, rfl, rfl⟩ := s_inj h18
            exact Kj18
        · replace hb := i_neg c14 hb
          refine e_k 1 (f' := (128, [(2, .int x6), (1, .int x1), (0, .ref 112)], [.ref 112])) rfl ?_
          obtain ⟨v34, I34, J34, h34, hb⟩ := oc_call hb
          refine r_cv (z := m_Model_refuse) (As := []) (rest := []) rfl rfl rfl rfl rfl (x_ltn rfl) rfl rfl (E_Model_refuse  h34 ⟨_, rfl, ?_⟩)
          obtain ⟨o35, hb⟩ := ob_if hb
          obtain ⟨rfl, rfl, rfl⟩ := s_inj hb
          exact e_r rfl (if_pos o35) K
    · replace hb := i_neg c9 hb
      refine e_k 2 (f' := (57, [(2, .int x6), (1, .int x1), (0, .ref 112)], [.int 28, .ref 112])) rfl ?_
      obtain ⟨v36, I36, J36, h36, hb⟩ := oc_call hb
      refine r_cv (z := m_Model_lay_IV) (As := [.int 28]) (rest := []) rfl rfl rfl rfl rfl (x_ltn rfl) rfl rfl (E_Model_lay_IV  h36 ⟨_, rfl, ?_⟩)
      refine e_k 1 (f' := (61, [(2, .int x6), (1, .int x1), (0, .ref 112)], [.ref 112])) rfl ?_
      refine r_getr rfl (x_ltn rfl) rfl rfl ?_
      refine e_k 1 (f' := (65, [(2, .int x6), (1, .int x1), (0, .ref 112)], [.ref 112, .ref 163])) rfl ?_
      refine r_geti rfl (x_ltn rfl) rfl rfl ?_
      refine e_k 1 (f' := (69, [(2, .int x6), (1, .int x1), (0, .ref 112)], [.int x6, .int (I36 112 75), .ref 163])) rfl ?_
      obtain ⟨o37, hb⟩ := ob_in hb
      obtain ⟨I38, eI38, hb⟩ := p_nm hb
      refine r_iast' rfl (x_ltn rfl) rfl o37 eI38 ?_
      refine e_k 1 (f' := (71, [(2, .int x6), (1, .int x1), (0, .ref 112)], [.ref 112])) rfl ?_
      refine r_getr rfl (x_ltn rfl) rfl rfl ?_
      refine e_k 1 (f' := (75, [(2, .int x6), (1, .int x1), (0, .ref 112)], [.ref 112, .ref 164])) rfl ?_
      refine r_geti rfl (x_ltn rfl) rfl rfl ?_
      refine e_k 1 (f' := (79, [(2, .int x6), (1, .int x1), (0, .ref 112)], [.ref 112, .int (I38 112 75), .ref 164])) rfl ?_
      refine r_geti rfl (x_ltn rfl) rfl rfl ?_
      obtain ⟨o39, hb⟩ := ob_in hb
      obtain ⟨I40, eI40, hb⟩ := p_nm hb
      refine r_iast' rfl (x_ltn rfl) rfl o39 eI40 ?_
      refine e_k 1 (f' := (84, [(2, .int x6), (1, .int x1), (0, .ref 112)], [.ref 112])) rfl ?_
      refine r_getr rfl (x_ltn rfl) rfl rfl ?_
      refine e_k 1 (f' := (88, [(2, .int x6), (1, .int x1), (0, .ref 112)], [.ref 112, .ref 165])) rfl ?_
      refine r_geti rfl (x_ltn rfl) rfl rfl ?_
      refine e_k 1 (f' := (92, [(2, .int x6), (1, .int x1), (0, .ref 112)], [.int x1, .int (I40 112 75), .ref 165])) rfl ?_
      obtain ⟨o41, hb⟩ := ob_in hb
      obtain ⟨I42, eI42, hb⟩ := p_nm hb
      refine r_iast' rfl (x_ltn rfl) rfl o41 eI42 ?_
      refine e_k 2 (f' := (95, [(2, .int x6), (1, .int x1), (0, .ref 112)], [.ref 112, .ref 112])) rfl ?_
      refine r_geti rfl (x_ltn rfl) rfl rfl ?_
      refine e_k 2 (f' := (100, [(2, .int x6), (1, .int x1), (0, .ref 112)], [.int ((I42 112 75) + 1), .ref 112])) rfl ?_
      obtain ⟨I43, eI43, hb⟩ := p_nm hb
      refine r_puti' rfl (x_ltn rfl) rfl rfl eI43 ?_
      refine e_k 3 (f' := (106, [(2, .int x6), (1, .int x1), (0, .ref 112)], [.int 0, .int 0, .ref 112])) rfl ?_
      obtain ⟨v44, I44, J44, h44, hb⟩ := oc_call hb
      refine r_cv (z := m_Model_lay_IIV) (As := [.int 0, .int 0]) (rest := []) rfl rfl rfl rfl rfl (x_ltn rfl) rfl rfl (E_Model_lay_IIV  h44 ⟨_, rfl, ?_⟩)
      refine e_k 1 (f' := (110, [(2, .int x6), (1, .int x1), (0, .ref 112)], [.int 1])) rfl ?_
      obtain ⟨rfl, rfl, rfl⟩ := s_inj hb
      exact e_r rfl rfl K
  · replace hb := i_neg c4 hb
    refine e_k 1 (f' := (23, [(1, .int x1), (0, .ref 112)], [.ref 112])) rfl ?_
    obtain ⟨v45, I45, J45, h45, hb⟩ := oc_call hb
    refine r_cv (z := m_Model_refuse) (As := []) (rest := []) rfl rfl rfl rfl rfl (x_ltn rfl) rfl rfl (E_Model_refuse  h45 ⟨_, rfl, ?_⟩)
    obtain ⟨o46, hb⟩ := ob_if hb
    obtain ⟨rfl, rfl, rfl⟩ := s_inj hb
    exact e_r rfl (if_pos o46) K
theorem E_Model_place_2 {X : MX} : ∀ (fu : Nat) {l1 : Int32} {I : MI} {J : MJ} {r : (Unit)} {I' : MI} {J' : MJ}, f_Model_place_2  fu l1 I J = some (r, I', J') → am_E (gG L xs) (d + 1) m_Model_place (66, [], []) (hX X I' J') P → am_E (gG L xs) (d + 1) m_Model_place (2, [(0, .ref 112), (1, .int l1)], []) (hX X I J) P := by
  intro fu
  induction fu with
  | zero =>
    intros
    rename_i hb _
    cases hb
  | succ fu ih =>
    intro l1 I J r I' J' hb K
    unfold f_Model_place_2 at hb
    refine e_k 2 (f' := (4, [(0, .ref 112), (1, .int l1)], [.ref 112, .int l1])) rfl ?_
    refine r_geti rfl (x_ltn rfl) rfl rfl ?_
    refine e_k 1 (f' := (if (I 112 75) ≤ l1 then 66 else 10, [(0, .ref 112), (1, .int l1)], [])) rfl ?_
    refine e_if (fun c1 => ?_) (fun c1 => ?_)
    · replace hb := i_pos c1 hb
      refine e_sub (ls := []) rfl ⟨⟩ ?_
      obtain ⟨rfl, rfl, rfl⟩ := s_inj hb
      exact K
    · replace hb := i_neg c1 hb
      refine e_k 1 (f' := (11, [(0, .ref 112), (1, .int l1)], [.ref 112])) rfl ?_
      refine r_getr rfl (x_ltn rfl) rfl rfl ?_
      refine e_k 1 (f' := (15, [(0, .ref 112), (1, .int l1)], [.ref 112, .ref 162])) rfl ?_
      refine r_getr rfl (x_ltn rfl) rfl rfl ?_
      refine e_k 1 (f' := (19, [(0, .ref 112), (1, .int l1)], [.int l1, .ref 163, .ref 162])) rfl ?_
      obtain ⟨o2, hb⟩ := ob_in hb
      refine r_iald rfl rfl (x_ltn rfl) rfl o2 ?_
      obtain ⟨o3, hb⟩ := ob_in hb
      refine r_iald rfl rfl (x_ltn rfl) rfl o3 ?_
      refine e_k 2 (f' := (if ¬ (I 162 (Int32.toNatClampNeg (I 163 (Int32.toNatClampNeg l1)))) = (-1) then 39 else 25, [(0, .ref 112), (1, .int l1)], [])) rfl ?_
      refine e_if (fun c4 => ?_) (fun c4 => ?_)
      · replace hb := i_pos c4 hb
        refine e_k 2 (f' := (41, [(0, .ref 112), (1, .int l1)], [.ref 112, .ref 112])) rfl ?_
        refine r_getr rfl (x_ltn rfl) rfl rfl ?_
        refine e_k 1 (f' := (45, [(0, .ref 112), (1, .int l1)], [.int l1, .ref 164, .ref 112])) rfl ?_
        obtain ⟨o5, hb⟩ := ob_in hb
        refine r_iald rfl rfl (x_ltn rfl) rfl o5 ?_
        refine e_k 1 (f' := (47, [(0, .ref 112), (1, .int l1)], [.ref 112, .int (I 164 (Int32.toNatClampNeg l1)), .ref 112])) rfl ?_
        refine r_getr rfl (x_ltn rfl) rfl rfl ?_
        refine e_k 1 (f' := (51, [(0, .ref 112), (1, .int l1)], [.ref 112, .ref 162, .int (I 164 (Int32.toNatClampNeg l1)), .ref 112])) rfl ?_
        refine r_getr rfl (x_ltn rfl) rfl rfl ?_
        refine e_k 1 (f' := (55, [(0, .ref 112), (1, .int l1)], [.int l1, .ref 163, .ref 162, .int (I 164 (Int32.toNatClampNeg l1)), .ref 112])) rfl ?_
        obtain ⟨o6, hb⟩ := ob_in hb
        refine r_iald rfl rfl (x_ltn rfl) rfl o6 ?_
        obtain ⟨o7, hb⟩ := ob_in hb
        refine r_iald rfl rfl (x_ltn rfl) rfl o7 ?_
        obtain ⟨v8, I8, J8, h8, hb⟩ := oc_call hb
        refine r_cv (z := m_Model_fill) (As := [.int (I 164 (Int32.toNatClampNeg l1)), .int (I 162 (Int32.toNatClampNeg (I 163 (Int32.toNatClampNeg l1))))]) (rest := []) rfl rfl rfl rfl rfl (x_ltn rfl) rfl rfl (E_Model_fill  h8 ⟨_, rfl, ?_⟩)
        refine e_k 2 (f' := (2, [(1, .int (l1 + 1)), (0, .ref 112)], [])) rfl ?_
        refine e_sub (ls := [(0, .ref 112), (1, .int (l1 + 1))]) rfl ⟨rfl, rfl, trivial⟩ ?_
        exact ih  hb K
      · replace hb := i_neg c4 hb
        refine e_k 3 (f' := (28, [(0, .ref 112), (1, .int l1)], [.ref 112, .int 5, .ref 112])) rfl ?_
        refine r_getr rfl (x_ltn rfl) rfl rfl ?_
        refine e_k 1 (f' := (32, [(0, .ref 112), (1, .int l1)], [.int l1, .ref 165, .int 5, .ref 112])) rfl ?_
        obtain ⟨o9, hb⟩ := ob_in hb
        refine r_iald rfl rfl (x_ltn rfl) rfl o9 ?_
        obtain ⟨v10, I10, J10, h10, hb⟩ := oc_call hb
        refine r_cv (z := m_Model_note) (As := [.int 5, .int (I 165 (Int32.toNatClampNeg l1))]) (rest := []) rfl rfl rfl rfl rfl (x_ltn rfl) rfl rfl (E_Model_note  h10 ⟨_, rfl, ?_⟩)
        refine e_k 3 (f' := (2, [(1, .int (l1 + 1)), (0, .ref 112)], [])) rfl ?_
        refine e_sub (ls := [(0, .ref 112), (1, .int (l1 + 1))]) rfl ⟨rfl, rfl, trivial⟩ ?_
        exact ih  hb K
theorem E_Model_place {X : MX} {I : MI} {J : MJ} {v : Unit} {I' : MI} {J' : MJ} (hb : f_Model_place  I J = some (v, I', J')) (K : P (.inl (none)) (hX X I' J')) : am_E (gG L xs) (d + 1) m_Model_place (0, lv_args 0 [.ref 112], []) (hX X I J) P := by
  unfold f_Model_place at hb
  refine e_k 2 (f' := (2, [(1, .int 0), (0, .ref 112)], [])) rfl ?_
  refine e_sub (ls := [(0, .ref 112), (1, .int 0)]) rfl ⟨rfl, rfl, trivial⟩ ?_
  obtain ⟨u11, I11, J11, h11, hb⟩ := oc_call hb
  refine E_Model_place_2  gF  h11 ?_
  obtain ⟨rfl, rfl, rfl⟩ := s_inj hb
  exact e_r rfl rfl K
theorem E_Model_readValue {R : M3} {p2 : Int32} {p3 : Int32} {X : MX} {I : MI} {J : MJ} {v : Int32} {I' : MI} {J' : MJ} (hR_0 : ∀ {I : MI} {J : MJ} {v : Int32} {I' : MI} {J' : MJ} {P : am_R → am_H → Prop}, R 0 0 0 I J = some (v, I', J') → P (.inl (some (.int v))) (hX X I' J') → am_E (gG L xs) (d + 2) m_Model_readX (0, lv_args 0 [.ref 112], []) (hX X I J) P) (hR_1 : ∀ {I : MI} {J : MJ} {v : Int32} {I' : MI} {J' : MJ} {P : am_R → am_H → Prop}, R 1 0 0 I J = some (v, I', J') → P (.inl (some (.int v))) (hX X I' J') → am_E (gG L xs) (d + 2) m_Model_readProduct (0, lv_args 0 [.ref 112], []) (hX X I J) P) (hR_2 : ∀ {I : MI} {J : MJ} {v : Int32} {I' : MI} {J' : MJ} {P : am_R → am_H → Prop}, R 2 0 0 I J = some (v, I', J') → P (.inl (some (.int v))) (hX X I' J') → am_E (gG L xs) (d + 2) m_Model_readFactor (0, lv_args 0 [.ref 112], []) (hX X I J) P) (hR_3 : ∀ {I : MI} {J : MJ} {v : Int32} {I' : MI} {J' : MJ} {P : am_R → am_H → Prop}, R 3 0 0 I J = some (v, I', J') → P (.inl (some (.int v))) (hX X I' J') → am_E (gG L xs) (d + 2) m_Model_readPart (0, lv_args 0 [.ref 112], []) (hX X I J) P) (hR_4 : ∀ {I : MI} {J : MJ} {v : Int32} {I' : MI} {J' : MJ} {P : am_R → am_H → Prop}, R 4 0 0 I J = some (v, I', J') → P (.inl (some (.int v))) (hX X I' J') → am_E (gG L xs) (d + 2) m_Model_readPlace (0, lv_args 0 [.ref 112], []) (hX X I J) P) (hR_5 : ∀ {I : MI} {J : MJ} {v : Int32} {I' : MI} {J' : MJ} {P : am_R → am_H → Prop}, R 5 0 0 I J = some (v, I', J') → P (.inl (some (.int v))) (hX X I' J') → am_E (gG L xs) (d + 2) m_Model_readStatements (0, lv_args 0 [.ref 112], []) (hX X I J) P) (hR_6 : ∀ {I : MI} {J : MJ} {v : Int32} {I' : MI} {J' : MJ} {P : am_R → am_H → Prop}, R 6 0 0 I J = some (v, I', J') → P (.inl (some (.int v))) (hX X I' J') → am_E (gG L xs) (d + 2) m_Model_readStatement (0, lv_args 0 [.ref 112], []) (hX X I J) P) (hR_7 : ∀ {I : MI} {J : MJ} {v : Int32} {I' : MI} {J' : MJ} {P : am_R → am_H → Prop}, R 7 0 0 I J = some (v, I', J') → P (.inl (some (.int v))) (hX X I' J') → am_E (gG L xs) (d + 2) m_Model_readRoutine (0, lv_args 0 [.ref 112], []) (hX X I J) P) (hR_8 : ∀ {a0 : Int32} {a1 : Int32} {I : MI} {J : MJ} {v : Int32} {I' : MI} {J' : MJ} {P : am_R → am_H → Prop}, R 8 a0 a1 I J = some (v, I', J') → P (.inl (some (.int v))) (hX X I' J') → am_E (gG L xs) (d + 2) m_Model_readValue (0, lv_args 0 [.ref 112, .int a0, .int a1], []) (hX X I J) P) (hR_9 : ∀ {a0 : Int32} {I : MI} {J : MJ} {v : Int32} {I' : MI} {J' : MJ} {P : am_R → am_H → Prop}, R 9 a0 0 I J = some (v, I', J') → P (.inl (some (.int v))) (hX X I' J') → am_E (gG L xs) (d + 2) m_Model_readRow (0, lv_args 0 [.ref 112, .int a0], []) (hX X I J) P) (hR_10 : ∀ {a0 : Int32} {I : MI} {J : MJ} {v : Int32} {I' : MI} {J' : MJ} {P : am_R → am_H → Prop}, R 10 a0 0 I J = some (v, I', J') → P (.inl (some (.int v))) (hX X I' J') → am_E (gG L xs) (d + 2) m_Model_readTurn (0, lv_args 0 [.ref 112, .int a0], []) (hX X I J) P) (hb : f_Model_readValue R p2 p3 I J = some (v, I', J')) (K : P (.inl (some (.int v))) (hX X I' J')) : am_E (gG L xs) (d + 3) m_Model_readValue (0, lv_args 0 [.ref 112, .int p2, .int p3], []) (hX X I J) P := by
  unfold f_Model_readValue at hb
  refine e_k 1 (f' := (1, [(0, .ref 112), (1, .int p2), (2, .int p3)], [.ref 112])) rfl ?_
  obtain ⟨v1, I1, J1, h1, hb⟩ := oc_call hb
  refine r_cv (z := m_Model_isRow) (As := []) (rest := []) rfl rfl rfl rfl rfl (x_ltn rfl) rfl rfl (E_Model_isRow  h1 ⟨_, rfl, ?_⟩)
  refine e_k 1 (f' := (if v1 = 0 then 113 else 7, [(0, .ref 112), (1, .int p2), (2, .int p3)], [])) rfl ?_
  refine e_if (fun c2 => ?_) (fun c2 => ?_)
  · replace hb := i_pos c2 hb
    refine e_k 1 (f' := (114, [(0, .ref 112), (1, .int p2), (2, .int p3)], [.ref 112])) rfl ?_
    obtain ⟨v3, I3, J3, h3, hb⟩ := oc_call hb
    refine r_cv (z := m_Model_readX) (As := []) (rest := []) rfl rfl rfl rfl rfl (x_ltn rfl) rfl rfl (hR_0  h3 ⟨_, rfl, ?_⟩)
    refine e_k 1 (f' := (if ¬ v3 = 0 then 122 else 120, [(0, .ref 112), (1, .int p2), (2, .int p3)], [])) rfl ?_
    refine e_if (fun c4 => ?_) (fun c4 => ?_)
    · replace hb := i_pos c4 hb
      refine e_k 1 (f' := (123, [(0, .ref 112), (1, .int p2), (2, .int p3)], [.int p2])) rfl ?_
      obtain ⟨v5, I5, J5, h5, hb⟩ := oc_call hb
      refine r_cs (z := m_Model_isClear) (As := [.int p2]) (rest := []) rfl rfl rfl rfl rfl rfl (E_Model_isClear  h5 ⟨_, rfl, ?_⟩)
      refine e_k 1 (f' := (if v5 = 0 then 142 else 129, [(0, .ref 112), (1, .int p2), (2, .int p3)], [])) rfl ?_
      obtain ⟨v7, I7, J7, h7, hb⟩ := oc_call hb
      have Kj7 : am_E (gG L xs) (d + 3) m_Model_readValue (142, [(0, .ref 112), (1, .int p2)], []) (hX X I7 J7) P := by
        refine e_k 2 (f' := (144, [(0, .ref 112), (1, .int p2)], [.int p2, .ref 112])) rfl ?_
        obtain ⟨v11, I11, J11, h11, hb⟩ := oc_call hb
        refine r_cs (z := m_Model_isClear) (As := [.int p2]) (rest := [.ref 112]) rfl rfl rfl rfl rfl rfl (E_Model_isClear  h11 ⟨_, rfl, ?_⟩)
        refine e_k 1 (f' := (if v11 = 0 then 155 else 150, [(0, .ref 112), (1, .int p2)], [.ref 112])) rfl ?_
        obtain ⟨v13, h13, hb⟩ := p_nn hb
        have Kj13 : am_E (gG L xs) (d + 3) m_Model_readValue (157, [(0, .ref 112), (1, .int p2)], [.int v13, .ref 112]) (hX X I11 J11) P := by
          refine e_k 1 (f' := (158, [(0, .ref 112), (1, .int p2)], [.int p2, .int v13, .ref 112])) rfl ?_
          obtain ⟨v15, I15, J15, h15, hb⟩ := oc_call hb
          refine r_cs (z := m_Model_numberOf) (As := [.int p2]) (rest := [.int v13, .ref 112]) rfl rfl rfl rfl rfl rfl (E_Model_numberOf  h15 ⟨_, rfl, ?_⟩)
          obtain ⟨v16, I16, J16, h16, hb⟩ := oc_call hb
          refine r_cv (z := m_Model_lay_IIV) (As := [.int v13, .int v15]) (rest := []) rfl rfl rfl rfl rfl (x_ltn rfl) rfl rfl (E_Model_lay_IIV  h16 ⟨_, rfl, ?_⟩)
          refine e_k 2 (f' := (167, [(0, .ref 112), (1, .int p2)], [.int 59, .ref 112])) rfl ?_
          obtain ⟨v17, I17, J17, h17, hb⟩ := oc_call hb
          refine r_cv (z := m_Model_want) (As := [.int 59]) (rest := []) rfl rfl rfl rfl rfl (x_ltn rfl) rfl rfl (E_Model_want  h17 ⟨_, rfl, ?_⟩)
          obtain ⟨o18, hb⟩ := ob_if hb
          obtain ⟨rfl, rfl, rfl⟩ := s_inj hb
          exact e_r rfl (if_pos o18) K
        clear hb
        refine e_if (fun c14 => ?_) (fun c14 => ?_)
        · replace h13 := i_pos c14 h13
          refine e_k 1 (f' := (157, [(0, .ref 112), (1, .int p2)], [.int 12, .ref 112])) rfl ?_
          refine e_sub (ls := [(0, .ref 112), (1, .int p2)]) rfl ⟨rfl, rfl, trivial⟩ ?_
          subst h13
          exact Kj13
        · replace h13 := i_neg c14 h13
          refine e_k 2 (f' := (157, [(0, .ref 112), (1, .int p2)], [.int 11, .ref 112])) rfl ?_
          refine e_sub (ls := [(0, .ref 112), (1, .int p2)]) rfl ⟨rfl, rfl, trivial⟩ ?_
          subst h13
          exact Kj13
      clear hb
      refine e_if (fun c8 => ?_) (fun c8 => ?_)
      · replace h7 := i_pos c8 h7
        refine e_sub (ls := [(0, .ref 112), (1, .int p2)]) rfl ⟨rfl, rfl, trivial⟩ ?_
        obtain ⟨rfl, rfl, rfl⟩ := s_inj h7
        exact Kj7
      · replace h7 := i_neg c8 h7
        refine e_k 1 (f' := (130, [(0, .ref 112), (1, .int p2), (2, .int p3)], [.ref 112])) rfl ?_
        refine r_geti rfl (x_ltn rfl) rfl rfl ?_
        refine e_k 1 (f' := (if (I5 112 73) = 0 then 142 else 136, [(0, .ref 112), (1, .int p2), (2, .int p3)], [])) rfl ?_
        refine e_if (fun c9 => ?_) (fun c9 => ?_)
        · replace h7 := i_pos c9 h7
          refine e_sub (ls := [(0, .ref 112), (1, .int p2)]) rfl ⟨rfl, rfl, trivial⟩ ?_
          obtain ⟨rfl, rfl, rfl⟩ := s_inj h7
          exact Kj7
        · replace h7 := i_neg c9 h7
          refine e_k 3 (f' := (139, [(0, .ref 112), (1, .int p2), (2, .int p3)], [.int p3, .int 3, .ref 112])) rfl ?_
          obtain ⟨v10, I10, J10, h10, h7⟩ := oc_call h7
          refine r_cv (z := m_Model_note) (As := [.int 3, .int p3]) (rest := []) rfl rfl rfl rfl rfl (x_ltn rfl) rfl rfl (E_Model_note  h10 ⟨_, rfl, ?_⟩)
          refine e_sub (ls := [(0, .ref 112), (1, .int p2)]) rfl ⟨rfl, rfl, trivial⟩ ?_
          obtain ⟨rfl, rfl, rfl⟩ := s_inj h7
          exact Kj7
    · replace hb := i_neg c4 hb
      refine e_k 1 (f' := (121, [(0, .ref 112), (1, .int p2), (2, .int p3)], [.int 0])) rfl ?_
      obtain ⟨rfl, rfl, rfl⟩ := s_inj hb
      exact e_r rfl rfl K
  · replace hb := i_neg c2 hb
    refine e_k 1 (f' := (8, [(0, .ref 112), (1, .int p2), (2, .int p3)], [.ref 112])) rfl ?_
    obtain ⟨v19, I19, J19, h19, hb⟩ := oc_call hb
    refine r_cv (z := m_Model_isSum) (As := []) (rest := []) rfl rfl rfl rfl rfl (x_ltn rfl) rfl rfl (E_Model_isSum  h19 ⟨_, rfl, ?_⟩)
    refine e_k 1 (f' := (if v19 = 0 then 113 else 14, [(0, .ref 112), (1, .int p2), (2, .int p3)], [])) rfl ?_
    refine e_if (fun c20 => ?_) (fun c20 => ?_)
    · replace hb := i_pos c20 hb
      refine e_k 1 (f' := (114, [(0, .ref 112), (1, .int p2), (2, .int p3)], [.ref 112])) rfl ?_
      obtain ⟨v21, I21, J21, h21, hb⟩ := oc_call hb
      refine r_cv (z := m_Model_readX) (As := []) (rest := []) rfl rfl rfl rfl rfl (x_ltn rfl) rfl rfl (hR_0  h21 ⟨_, rfl, ?_⟩)
      refine e_k 1 (f' := (if ¬ v21 = 0 then 122 else 120, [(0, .ref 112), (1, .int p2), (2, .int p3)], [])) rfl ?_
      refine e_if (fun c22 => ?_) (fun c22 => ?_)
      · replace hb := i_pos c22 hb
        refine e_k 1 (f' := (123, [(0, .ref 112), (1, .int p2), (2, .int p3)], [.int p2])) rfl ?_
        obtain ⟨v23, I23, J23, h23, hb⟩ := oc_call hb
        refine r_cs (z := m_Model_isClear) (As := [.int p2]) (rest := []) rfl rfl rfl rfl rfl rfl (E_Model_isClear  h23 ⟨_, rfl, ?_⟩)
        refine e_k 1 (f' := (if v23 = 0 then 142 else 129, [(0, .ref 112), (1, .int p2), (2, .int p3)], [])) rfl ?_
        obtain ⟨v25, I25, J25, h25, hb⟩ := oc_call hb
        have Kj25 : am_E (gG L xs) (d + 3) m_Model_readValue (142, [(0, .ref 112), (1, .int p2)], []) (hX X I25 J25) P := by
          refine e_k 2 (f' := (144, [(0, .ref 112), (1, .int p2)], [.int p2, .ref 112])) rfl ?_
          obtain ⟨v29, I29, J29, h29, hb⟩ := oc_call hb
          refine r_cs (z := m_Model_isClear) (As := [.int p2]) (rest := [.ref 112]) rfl rfl rfl rfl rfl rfl (E_Model_isClear  h29 ⟨_, rfl, ?_⟩)
          refine e_k 1 (f' := (if v29 = 0 then 155 else 150, [(0, .ref 112), (1, .int p2)], [.ref 112])) rfl ?_
          obtain ⟨v31, h31, hb⟩ := p_nn hb
          have Kj31 : am_E (gG L xs) (d + 3) m_Model_readValue (157, [(0, .ref 112), (1, .int p2)], [.int v31, .ref 112]) (hX X I29 J29) P := by
            refine e_k 1 (f' := (158, [(0, .ref 112), (1, .int p2)], [.int p2, .int v31, .ref 112])) rfl ?_
            obtain ⟨v33, I33, J33, h33, hb⟩ := oc_call hb
            refine r_cs (z := m_Model_numberOf) (As := [.int p2]) (rest := [.int v31, .ref 112]) rfl rfl rfl rfl rfl rfl (E_Model_numberOf  h33 ⟨_, rfl, ?_⟩)
            obtain ⟨v34, I34, J34, h34, hb⟩ := oc_call hb
            refine r_cv (z := m_Model_lay_IIV) (As := [.int v31, .int v33]) (rest := []) rfl rfl rfl rfl rfl (x_ltn rfl) rfl rfl (E_Model_lay_IIV  h34 ⟨_, rfl, ?_⟩)
            refine e_k 2 (f' := (167, [(0, .ref 112), (1, .int p2)], [.int 59, .ref 112])) rfl ?_
            obtain ⟨v35, I35, J35, h35, hb⟩ := oc_call hb
            refine r_cv (z := m_Model_want) (As := [.int 59]) (rest := []) rfl rfl rfl rfl rfl (x_ltn rfl) rfl rfl (E_Model_want  h35 ⟨_, rfl, ?_⟩)
            obtain ⟨o36, hb⟩ := ob_if hb
            obtain ⟨rfl, rfl, rfl⟩ := s_inj hb
            exact e_r rfl (if_pos o36) K
          clear hb
          refine e_if (fun c32 => ?_) (fun c32 => ?_)
          · replace h31 := i_pos c32 h31
            refine e_k 1 (f' := (157, [(0, .ref 112), (1, .int p2)], [.int 12, .ref 112])) rfl ?_
            refine e_sub (ls := [(0, .ref 112), (1, .int p2)]) rfl ⟨rfl, rfl, trivial⟩ ?_
            subst h31
            exact Kj31
          · replace h31 := i_neg c32 h31
            refine e_k 2 (f' := (157, [(0, .ref 112), (1, .int p2)], [.int 11, .ref 112])) rfl ?_
            refine e_sub (ls := [(0, .ref 112), (1, .int p2)]) rfl ⟨rfl, rfl, trivial⟩ ?_
            subst h31
            exact Kj31
        clear hb
        refine e_if (fun c26 => ?_) (fun c26 => ?_)
        · replace h25 := i_pos c26 h25
          refine e_sub (ls := [(0, .ref 112), (1, .int p2)]) rfl ⟨rfl, rfl, trivial⟩ ?_
          obtain ⟨rfl, rfl, rfl⟩ := s_inj h25
          exact Kj25
        · replace h25 := i_neg c26 h25
          refine e_k 1 (f' := (130, [(0, .ref 112), (1, .int p2), (2, .int p3)], [.ref 112])) rfl ?_
          refine r_geti rfl (x_ltn rfl) rfl rfl ?_
          refine e_k 1 (f' := (if (I23 112 73) = 0 then 142 else 136, [(0, .ref 112), (1, .int p2), (2, .int p3)], [])) rfl ?_
          refine e_if (fun c27 => ?_) (fun c27 => ?_)
          · replace h25 := i_pos c27 h25
            refine e_sub (ls := [(0, .ref 112), (1, .int p2)]) rfl ⟨rfl, rfl, trivial⟩ ?_
            obtain ⟨rfl, rfl, rfl⟩ := s_inj h25
            exact Kj25
          · replace h25 := i_neg c27 h25
            refine e_k 3 (f' := (139, [(0, .ref 112), (1, .int p2), (2, .int p3)], [.int p3, .int 3, .ref 112])) rfl ?_
            obtain ⟨v28, I28, J28, h28, h25⟩ := oc_call h25
            refine r_cv (z := m_Model_note) (As := [.int 3, .int p3]) (rest := []) rfl rfl rfl rfl rfl (x_ltn rfl) rfl rfl (E_Model_note  h28 ⟨_, rfl, ?_⟩)
            refine e_sub (ls := [(0, .ref 112), (1, .int p2)]) rfl ⟨rfl, rfl, trivial⟩ ?_
            obtain ⟨rfl, rfl, rfl⟩ := s_inj h25
            exact Kj25
      · replace hb := i_neg c22 hb
        refine e_k 1 (f' := (121, [(0, .ref 112), (1, .int p2), (2, .int p3)], [.int 0])) rfl ?_
        obtain ⟨rfl, rfl, rfl⟩ := s_inj hb
        exact e_r rfl rfl K
    · replace hb := i_neg c20 hb
      refine e_k 1 (f' := (15, [(0, .ref 112), (1, .int p2), (2, .int p3)], [.ref 112])) rfl ?_
      obtain ⟨v37, I37, J37, h37, hb⟩ := oc_call hb
      refine r_cv (z := m_Model_see) (As := []) (rest := []) rfl rfl rfl rfl rfl (x_ltn rfl) rfl rfl (E_Model_see  h37 ⟨_, rfl, ?_⟩)
      refine e_k 3 (f' := (22, [(3, .int (v37 - 65)), (0, .ref 112), (1, .int p2), (2, .int p3)], [])) rfl ?_
      obtain ⟨x38, ex38, hb⟩ := p_nm hb
      rw [← ex38]
      refine e_k 2 (f' := (24, [(3, .int x38), (0, .ref 112), (1, .int p2), (2, .int p3)], [.ref 112, .ref 112])) rfl ?_
      refine r_geti rfl (x_ltn rfl) rfl rfl ?_
      refine e_k 2 (f' := (29, [(3, .int x38), (0, .ref 112), (1, .int p2), (2, .int p3)], [.int ((I37 112 5) + 1), .ref 112])) rfl ?_
      obtain ⟨I39, eI39, hb⟩ := p_nm hb
      refine r_puti' rfl (x_ltn rfl) rfl rfl eI39 ?_
      refine e_k 2 (f' := (35, [(3, .int x38), (0, .ref 112), (1, .int p2), (2, .int p3)], [.int 46, .ref 112])) rfl ?_
      obtain ⟨v40, I40, J40, h40, hb⟩ := oc_call hb
      refine r_cv (z := m_Model_takes) (As := [.int 46]) (rest := []) rfl rfl rfl rfl rfl (x_ltn rfl) rfl rfl (E_Model_takes  h40 ⟨_, rfl, ?_⟩)
      refine e_k 2 (f' := (40, [(3, .int x38), (0, .ref 112), (1, .int p2), (2, .int p3)], [.ref 112])) rfl ?_
      obtain ⟨v41, I41, J41, h41, hb⟩ := oc_call hb
      refine r_cv (z := m_Model_isRow) (As := []) (rest := []) rfl rfl rfl rfl rfl (x_ltn rfl) rfl rfl (E_Model_isRow  h41 ⟨_, rfl, ?_⟩)
      refine e_k 1 (f' := (if ¬ v41 = 0 then 51 else 46, [(3, .int x38), (0, .ref 112), (1, .int p2), (2, .int p3)], [])) rfl ?_
      refine e_if (fun c42 => ?_) (fun c42 => ?_)
      · replace hb := i_pos c42 hb
        refine e_k 1 (f' := (52, [(3, .int x38), (0, .ref 112), (1, .int p2), (2, .int p3)], [.ref 112])) rfl ?_
        obtain ⟨v43, I43, J43, h43, hb⟩ := oc_call hb
        refine r_cv (z := m_Model_see) (As := []) (rest := []) rfl rfl rfl rfl rfl (x_ltn rfl) rfl rfl (E_Model_see  h43 ⟨_, rfl, ?_⟩)
        refine e_k 3 (f' := (60, [(4, .int (v43 - 65)), (3, .int x38), (0, .ref 112), (1, .int p2), (2, .int p3)], [])) rfl ?_
        obtain ⟨x44, ex44, hb⟩ := p_nm hb
        rw [← ex44]
        refine e_k 2 (f' := (62, [(4, .int x44), (3, .int x38), (0, .ref 112), (1, .int p2), (2, .int p3)], [.ref 112, .ref 112])) rfl ?_
        refine r_geti rfl (x_ltn rfl) rfl rfl ?_
        refine e_k 2 (f' := (67, [(4, .int x44), (3, .int x38), (0, .ref 112), (1, .int p2), (2, .int p3)], [.int ((I43 112 5) + 1), .ref 112])) rfl ?_
        obtain ⟨I45, eI45, hb⟩ := p_nm hb
        refine r_puti' rfl (x_ltn rfl) rfl rfl eI45 ?_
        refine e_k 1 (f' := (71, [(4, .int x44), (3, .int x38), (0, .ref 112), (1, .int p2), (2, .int p3)], [.int p2])) rfl ?_
        obtain ⟨v46, I46, J46, h46, hb⟩ := oc_call hb
        refine r_cs (z := m_Model_isClear) (As := [.int p2]) (rest := []) rfl rfl rfl rfl rfl rfl (E_Model_isClear  h46 ⟨_, rfl, ?_⟩)
        refine e_k 1 (f' := (if v46 = 0 then 83 else 77, [(4, .int x44), (3, .int x38), (0, .ref 112), (1, .int p2), (2, .int p3)], [])) rfl ?_
        obtain ⟨v48, I48, J48, h48, hb⟩ := oc_call hb
        have Kj48 : am_E (gG L xs) (d + 3) m_Model_readValue (83, [(0, .ref 112), (1, .int p2), (3, .int x38), (4, .int x44)], []) (hX X I48 J48) P := by
          refine e_k 3 (f' := (87, [(0, .ref 112), (1, .int p2), (3, .int x38), (4, .int x44)], [.int x38, .int 26, .ref 112])) rfl ?_
          obtain ⟨v51, I51, J51, h51, hb⟩ := oc_call hb
          refine r_cv (z := m_Model_lay_IIV) (As := [.int 26, .int x38]) (rest := []) rfl rfl rfl rfl rfl (x_ltn rfl) rfl rfl (E_Model_lay_IIV  h51 ⟨_, rfl, ?_⟩)
          refine e_k 2 (f' := (93, [(0, .ref 112), (1, .int p2), (3, .int x38), (4, .int x44)], [.int x44, .ref 112])) rfl ?_
          obtain ⟨v52, I52, J52, h52, hb⟩ := oc_call hb
          refine r_cv (z := m_Model_lay_IV) (As := [.int x44]) (rest := []) rfl rfl rfl rfl rfl (x_ltn rfl) rfl rfl (E_Model_lay_IV  h52 ⟨_, rfl, ?_⟩)
          refine e_k 3 (f' := (100, [(0, .ref 112), (1, .int p2), (3, .int x38), (4, .int x44)], [.int p2, .int 12, .ref 112])) rfl ?_
          obtain ⟨v53, I53, J53, h53, hb⟩ := oc_call hb
          refine r_cs (z := m_Model_numberOf) (As := [.int p2]) (rest := [.int 12, .ref 112]) rfl rfl rfl rfl rfl rfl (E_Model_numberOf  h53 ⟨_, rfl, ?_⟩)
          obtain ⟨v54, I54, J54, h54, hb⟩ := oc_call hb
          refine r_cv (z := m_Model_lay_IIV) (As := [.int 12, .int v53]) (rest := []) rfl rfl rfl rfl rfl (x_ltn rfl) rfl rfl (E_Model_lay_IIV  h54 ⟨_, rfl, ?_⟩)
          refine e_k 2 (f' := (109, [(0, .ref 112), (1, .int p2), (3, .int x38), (4, .int x44)], [.int 59, .ref 112])) rfl ?_
          obtain ⟨v55, I55, J55, h55, hb⟩ := oc_call hb
          refine r_cv (z := m_Model_want) (As := [.int 59]) (rest := []) rfl rfl rfl rfl rfl (x_ltn rfl) rfl rfl (E_Model_want  h55 ⟨_, rfl, ?_⟩)
          obtain ⟨o56, hb⟩ := ob_if hb
          obtain ⟨rfl, rfl, rfl⟩ := s_inj hb
          exact e_r rfl (if_pos o56) K
        clear hb
        refine e_if (fun c49 => ?_) (fun c49 => ?_)
        · replace h48 := i_pos c49 h48
          refine e_sub (ls := [(0, .ref 112), (1, .int p2), (3, .int x38), (4, .int x44)]) rfl ⟨rfl, rfl, rfl, rfl, trivial⟩ ?_
          obtain ⟨rfl, rfl, rfl⟩ := s_inj h48
          exact Kj48
        · replace h48 := i_neg c49 h48
          refine e_k 3 (f' := (80, [(4, .int x44), (3, .int x38), (0, .ref 112), (1, .int p2), (2, .int p3)], [.int p3, .int 2, .ref 112])) rfl ?_
          obtain ⟨v50, I50, J50, h50, h48⟩ := oc_call h48
          refine r_cv (z := m_Model_note) (As := [.int 2, .int p3]) (rest := []) rfl rfl rfl rfl rfl (x_ltn rfl) rfl rfl (E_Model_note  h50 ⟨_, rfl, ?_⟩)
          refine e_sub (ls := [(0, .ref 112), (1, .int p2), (3, .int x38), (4, .int x44)]) rfl ⟨rfl, rfl, rfl, rfl, trivial⟩ ?_
          obtain ⟨rfl, rfl, rfl⟩ := s_inj h48
          exact Kj48
      · replace hb := i_neg c42 hb
        refine e_k 1 (f' := (47, [(3, .int x38), (0, .ref 112), (1, .int p2), (2, .int p3)], [.ref 112])) rfl ?_
        obtain ⟨v57, I57, J57, h57, hb⟩ := oc_call hb
        refine r_cv (z := m_Model_refuse) (As := []) (rest := []) rfl rfl rfl rfl rfl (x_ltn rfl) rfl rfl (E_Model_refuse  h57 ⟨_, rfl, ?_⟩)
        obtain ⟨o58, hb⟩ := ob_if hb
        obtain ⟨rfl, rfl, rfl⟩ := s_inj hb
        exact e_r rfl (if_pos o58) K
end AUTO
