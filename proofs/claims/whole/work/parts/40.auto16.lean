section AUTO
variable {L : Nat} {xs : Nat → Int32} {d : Nat} {P : am_R → am_H → Prop}
theorem E_Model_readRow {R : M3} {p2 : Int32} {X : MX} {I : MI} {J : MJ} {v : Int32} {I' : MI} {J' : MJ} (hR_0 : ∀ {I : MI} {J : MJ} {v : Int32} {I' : MI} {J' : MJ} {P : am_R → am_H → Prop}, R 0 0 0 I J = some (v, I', J') → P (.inl (some (.int v))) (hX X I' J') → am_E (gG L xs) (d + 3) m_Model_readX (0, lv_args 0 [.ref 112], []) (hX X I J) P) (hR_1 : ∀ {I : MI} {J : MJ} {v : Int32} {I' : MI} {J' : MJ} {P : am_R → am_H → Prop}, R 1 0 0 I J = some (v, I', J') → P (.inl (some (.int v))) (hX X I' J') → am_E (gG L xs) (d + 3) m_Model_readProduct (0, lv_args 0 [.ref 112], []) (hX X I J) P) (hR_2 : ∀ {I : MI} {J : MJ} {v : Int32} {I' : MI} {J' : MJ} {P : am_R → am_H → Prop}, R 2 0 0 I J = some (v, I', J') → P (.inl (some (.int v))) (hX X I' J') → am_E (gG L xs) (d + 3) m_Model_readFactor (0, lv_args 0 [.ref 112], []) (hX X I J) P) (hR_3 : ∀ {I : MI} {J : MJ} {v : Int32} {I' : MI} {J' : MJ} {P : am_R → am_H → Prop}, R 3 0 0 I J = some (v, I', J') → P (.inl (some (.int v))) (hX X I' J') → am_E (gG L xs) (d + 3) m_Model_readPart (0, lv_args 0 [.ref 112], []) (hX X I J) P) (hR_4 : ∀ {I : MI} {J : MJ} {v : Int32} {I' : MI} {J' : MJ} {P : am_R → am_H → Prop}, R 4 0 0 I J = some (v, I', J') → P (.inl (some (.int v))) (hX X I' J') → am_E (gG L xs) (d + 3) m_Model_readPlace (0, lv_args 0 [.ref 112], []) (hX X I J) P) (hR_5 : ∀ {I : MI} {J : MJ} {v : Int32} {I' : MI} {J' : MJ} {P : am_R → am_H → Prop}, R 5 0 0 I J = some (v, I', J') → P (.inl (some (.int v))) (hX X I' J') → am_E (gG L xs) (d + 3) m_Model_readStatements (0, lv_args 0 [.ref 112], []) (hX X I J) P) (hR_6 : ∀ {I : MI} {J : MJ} {v : Int32} {I' : MI} {J' : MJ} {P : am_R → am_H → Prop}, R 6 0 0 I J = some (v, I', J') → P (.inl (some (.int v))) (hX X I' J') → am_E (gG L xs) (d + 3) m_Model_readStatement (0, lv_args 0 [.ref 112], []) (hX X I J) P) (hR_7 : ∀ {I : MI} {J : MJ} {v : Int32} {I' : MI} {J' : MJ} {P : am_R → am_H → Prop}, R 7 0 0 I J = some (v, I', J') → P (.inl (some (.int v))) (hX X I' J') → am_E (gG L xs) (d + 3) m_Model_readRoutine (0, lv_args 0 [.ref 112], []) (hX X I J) P) (hR_8 : ∀ {a0 : Int32} {a1 : Int32} {I : MI} {J : MJ} {v : Int32} {I' : MI} {J' : MJ} {P : am_R → am_H → Prop}, R 8 a0 a1 I J = some (v, I', J') → P (.inl (some (.int v))) (hX X I' J') → am_E (gG L xs) (d + 3) m_Model_readValue (0, lv_args 0 [.ref 112, .int a0, .int a1], []) (hX X I J) P) (hR_9 : ∀ {a0 : Int32} {I : MI} {J : MJ} {v : Int32} {I' : MI} {J' : MJ} {P : am_R → am_H → Prop}, R 9 a0 0 I J = some (v, I', J') → P (.inl (some (.int v))) (hX X I' J') → am_E (gG L xs) (d + 3) m_Model_readRow (0, lv_args 0 [.ref 112, .int a0], []) (hX X I J) P) (hR_10 : ∀ {a0 : Int32} {I : MI} {J : MJ} {v : Int32} {I' : MI} {J' : MJ} {P : am_R → am_H → Prop}, R 10 a0 0 I J = some (v, I', J') → P (.inl (some (.int v))) (hX X I' J') → am_E (gG L xs) (d + 3) m_Model_readTurn (0, lv_args 0 [.ref 112, .int a0], []) (hX X I J) P) (hb : f_Model_readRow R p2 I J = some (v, I', J')) (K : P (.inl (some (.int v))) (hX X I' J')) : am_E (gG L xs) (d + 4) m_Model_readRow (0, lv_args 0 [.ref 112, .int p2], []) (hX X I J) P := by
  unfold f_Model_readRow at hb
  refine e_k 1 (f' := (1, [(0, .ref 112), (1, .int p2)], [.ref 112])) rfl ?_
  refine r_geti rfl (x_ltn rfl) rfl rfl ?_
  refine e_k 1 (f' := (5, [(2, .int (I 112 5)), (0, .ref 112), (1, .int p2)], [])) rfl ?_
  obtain ⟨x1, ex1, hb⟩ := p_nm hb
  rw [← ex1]
  refine e_k 2 (f' := (7, [(2, .int x1), (0, .ref 112), (1, .int p2)], [.ref 112, .ref 112])) rfl ?_
  refine r_geti rfl (x_ltn rfl) rfl rfl ?_
  refine e_k 2 (f' := (12, [(2, .int x1), (0, .ref 112), (1, .int p2)], [.int ((I 112 5) + 1), .ref 112])) rfl ?_
  obtain ⟨I2, eI2, hb⟩ := p_nm hb
  refine r_puti' rfl (x_ltn rfl) rfl rfl eI2 ?_
  refine e_k 1 (f' := (16, [(2, .int x1), (0, .ref 112), (1, .int p2)], [.int p2])) rfl ?_
  obtain ⟨v3, I3, J3, h3, hb⟩ := oc_call hb
  refine r_cs (z := m_Model_isSecretRow) (As := [.int p2]) (rest := []) rfl rfl rfl rfl rfl rfl (E_Model_isSecretRow  h3 ⟨_, rfl, ?_⟩)
  refine e_k 1 (f' := (if v3 = 0 then 29 else 22, [(2, .int x1), (0, .ref 112), (1, .int p2)], [])) rfl ?_
  obtain ⟨v5, h5, hb⟩ := p_nn hb
  have Kj5 : am_E (gG L xs) (d + 4) m_Model_readRow (33, [(0, .ref 112), (1, .int p2), (2, .int x1)], [.int v5]) (hX X I3 J3) P := by
    refine e_k 3 (f' := (37, [(3, .int v5), (0, .ref 112), (1, .int p2), (2, .int x1)], [.int 61, .ref 112])) rfl ?_
    obtain ⟨v7, I7, J7, h7, hb⟩ := oc_call hb
    refine r_cv (z := m_Model_takes) (As := [.int 61]) (rest := []) rfl rfl rfl rfl rfl (x_ltn rfl) rfl rfl (E_Model_takes  h7 ⟨_, rfl, ?_⟩)
    refine e_k 1 (f' := (if v7 = 0 then 50 else 43, [(3, .int v5), (0, .ref 112), (1, .int p2), (2, .int x1)], [])) rfl ?_
    refine e_if (fun c8 => ?_) (fun c8 => ?_)
    · replace hb := i_pos c8 hb
      refine e_k 1 (f' := (51, [(3, .int v5), (0, .ref 112), (1, .int p2), (2, .int x1)], [.ref 112])) rfl ?_
      obtain ⟨v9, I9, J9, h9, hb⟩ := oc_call hb
      refine r_cv (z := m_Model_see) (As := []) (rest := []) rfl rfl rfl rfl rfl (x_ltn rfl) rfl rfl (E_Model_see  h9 ⟨_, rfl, ?_⟩)
      refine e_k 2 (f' := (if v9 = 91 then 64 else 59, [(3, .int v5), (0, .ref 112), (1, .int p2), (2, .int x1)], [])) rfl ?_
      refine e_if (fun c10 => ?_) (fun c10 => ?_)
      · replace hb := i_pos c10 hb
        refine e_k 1 (f' := (65, [(3, .int v5), (0, .ref 112), (1, .int p2), (2, .int x1)], [.ref 112])) rfl ?_
        obtain ⟨v11, I11, J11, h11, hb⟩ := oc_call hb
        refine r_cv (z := m_Model_readPlace) (As := []) (rest := []) rfl rfl rfl rfl rfl (x_ltn rfl) rfl rfl (hR_4  h11 ⟨_, rfl, ?_⟩)
        refine e_k 1 (f' := (if v11 = 0 then 87 else 71, [(3, .int v5), (0, .ref 112), (1, .int p2), (2, .int x1)], [])) rfl ?_
        refine e_if (fun c12 => ?_) (fun c12 => ?_)
        · replace hb := i_pos c12 hb
          refine e_k 1 (f' := (88, [(3, .int v5), (0, .ref 112), (1, .int p2), (2, .int x1)], [.int 0])) rfl ?_
          obtain ⟨rfl, rfl, rfl⟩ := s_inj hb
          exact e_r rfl rfl K
        · replace hb := i_neg c12 hb
          refine e_k 2 (f' := (74, [(3, .int v5), (0, .ref 112), (1, .int p2), (2, .int x1)], [.int 61, .ref 112])) rfl ?_
          obtain ⟨v13, I13, J13, h13, hb⟩ := oc_call hb
          refine r_cv (z := m_Model_want) (As := [.int 61]) (rest := []) rfl rfl rfl rfl rfl (x_ltn rfl) rfl rfl (E_Model_want  h13 ⟨_, rfl, ?_⟩)
          refine e_k 1 (f' := (if v13 = 0 then 87 else 80, [(3, .int v5), (0, .ref 112), (1, .int p2), (2, .int x1)], [])) rfl ?_
          refine e_if (fun c14 => ?_) (fun c14 => ?_)
          · replace hb := i_pos c14 hb
            refine e_k 1 (f' := (88, [(3, .int v5), (0, .ref 112), (1, .int p2), (2, .int x1)], [.int 0])) rfl ?_
            obtain ⟨rfl, rfl, rfl⟩ := s_inj hb
            exact e_r rfl rfl K
          · replace hb := i_neg c14 hb
            refine e_k 1 (f' := (81, [(3, .int v5), (0, .ref 112), (1, .int p2), (2, .int x1)], [.ref 112])) rfl ?_
            obtain ⟨v15, I15, J15, h15, hb⟩ := oc_call hb
            refine r_cv (z := m_Model_readX) (As := []) (rest := []) rfl rfl rfl rfl rfl (x_ltn rfl) rfl rfl (hR_0  h15 ⟨_, rfl, ?_⟩)
            refine e_k 1 (f' := (if ¬ v15 = 0 then 89 else 87, [(3, .int v5), (0, .ref 112), (1, .int p2), (2, .int x1)], [])) rfl ?_
            refine e_if (fun c16 => ?_) (fun c16 => ?_)
            · replace hb := i_pos c16 hb
              refine e_k 1 (f' := (90, [(3, .int v5), (0, .ref 112), (1, .int p2), (2, .int x1)], [.int p2])) rfl ?_
              obtain ⟨v17, I17, J17, h17, hb⟩ := oc_call hb
              refine r_cs (z := m_Model_isSecretRow) (As := [.int p2]) (rest := []) rfl rfl rfl rfl rfl rfl (E_Model_isSecretRow  h17 ⟨_, rfl, ?_⟩)
              refine e_k 1 (f' := (if ¬ v17 = 0 then 109 else 96, [(3, .int v5), (0, .ref 112), (1, .int p2), (2, .int x1)], [])) rfl ?_
              obtain ⟨v19, I19, J19, h19, hb⟩ := oc_call hb
              have Kj19 : am_E (gG L xs) (d + 4) m_Model_readRow (109, [(0, .ref 112), (1, .int p2), (3, .int v5)], []) (hX X I19 J19) P := by
                refine e_k 2 (f' := (111, [(0, .ref 112), (1, .int p2), (3, .int v5)], [.int p2, .ref 112])) rfl ?_
                obtain ⟨v23, I23, J23, h23, hb⟩ := oc_call hb
                refine r_cs (z := m_Model_isSecretRow) (As := [.int p2]) (rest := [.ref 112]) rfl rfl rfl rfl rfl rfl (E_Model_isSecretRow  h23 ⟨_, rfl, ?_⟩)
                refine e_k 1 (f' := (if v23 = 0 then 122 else 117, [(0, .ref 112), (1, .int p2), (3, .int v5)], [.ref 112])) rfl ?_
                obtain ⟨v25, h25, hb⟩ := p_nn hb
                have Kj25 : am_E (gG L xs) (d + 4) m_Model_readRow (124, [(0, .ref 112), (3, .int v5)], [.int v25, .ref 112]) (hX X I23 J23) P := by
                  refine e_k 1 (f' := (125, [(0, .ref 112), (3, .int v5)], [.int v5, .int v25, .ref 112])) rfl ?_
                  obtain ⟨v27, I27, J27, h27, hb⟩ := oc_call hb
                  refine r_cv (z := m_Model_lay_IIV) (As := [.int v25, .int v5]) (rest := []) rfl rfl rfl rfl rfl (x_ltn rfl) rfl rfl (E_Model_lay_IIV  h27 ⟨_, rfl, ?_⟩)
                  refine e_k 2 (f' := (131, [(0, .ref 112), (3, .int v5)], [.int 59, .ref 112])) rfl ?_
                  obtain ⟨v28, I28, J28, h28, hb⟩ := oc_call hb
                  refine r_cv (z := m_Model_want) (As := [.int 59]) (rest := []) rfl rfl rfl rfl rfl (x_ltn rfl) rfl rfl (E_Model_want  h28 ⟨_, rfl, ?_⟩)
                  obtain ⟨o29, hb⟩ := ob_if hb
                  obtain ⟨rfl, rfl, rfl⟩ := s_inj hb
                  exact e_r rfl (if_pos o29) K
                clear hb
                refine e_if (fun c26 => ?_) (fun c26 => ?_)
                · replace h25 := i_pos c26 h25
                  refine e_k 1 (f' := (124, [(0, .ref 112), (1, .int p2), (3, .int v5)], [.int 21, .ref 112])) rfl ?_
                  refine e_sub (ls := [(0, .ref 112), (3, .int v5)]) rfl ⟨rfl, rfl, trivial⟩ ?_
                  subst h25
                  exact Kj25
                · replace h25 := i_neg c26 h25
                  refine e_k 2 (f' := (124, [(0, .ref 112), (1, .int p2), (3, .int v5)], [.int 22, .ref 112])) rfl ?_
                  refine e_sub (ls := [(0, .ref 112), (3, .int v5)]) rfl ⟨rfl, rfl, trivial⟩ ?_
                  subst h25
                  exact Kj25
              clear hb
              refine e_if (fun c20 => ?_) (fun c20 => ?_)
              · replace h19 := i_pos c20 h19
                refine e_sub (ls := [(0, .ref 112), (1, .int p2), (3, .int v5)]) rfl ⟨rfl, rfl, rfl, trivial⟩ ?_
                obtain ⟨rfl, rfl, rfl⟩ := s_inj h19
                exact Kj19
              · replace h19 := i_neg c20 h19
                refine e_k 1 (f' := (97, [(3, .int v5), (0, .ref 112), (1, .int p2), (2, .int x1)], [.ref 112])) rfl ?_
                refine r_geti rfl (x_ltn rfl) rfl rfl ?_
                refine e_k 1 (f' := (if (I17 112 73) = 0 then 109 else 103, [(3, .int v5), (0, .ref 112), (1, .int p2), (2, .int x1)], [])) rfl ?_
                refine e_if (fun c21 => ?_) (fun c21 => ?_)
                · replace h19 := i_pos c21 h19
                  refine e_sub (ls := [(0, .ref 112), (1, .int p2), (3, .int v5)]) rfl ⟨rfl, rfl, rfl, trivial⟩ ?_
                  obtain ⟨rfl, rfl, rfl⟩ := s_inj h19
                  exact Kj19
                · replace h19 := i_neg c21 h19
                  refine e_k 3 (f' := (106, [(3, .int v5), (0, .ref 112), (1, .int p2), (2, .int x1)], [.int x1, .int 3, .ref 112])) rfl ?_
                  obtain ⟨v22, I22, J22, h22, h19⟩ := oc_call h19
                  refine r_cv (z := m_Model_note) (As := [.int 3, .int x1]) (rest := []) rfl rfl rfl rfl rfl (x_ltn rfl) rfl rfl (E_Model_note  h22 ⟨_, rfl, ?_⟩)
                  refine e_sub (ls := [(0, .ref 112), (1, .int p2), (3, .int v5)]) rfl ⟨rfl, rfl, rfl, trivial⟩ ?_
                  obtain ⟨rfl, rfl, rfl⟩ := s_inj h19
                  exact Kj19
            · replace hb := i_neg c16 hb
              refine e_k 1 (f' := (88, [(3, .int v5), (0, .ref 112), (1, .int p2), (2, .int x1)], [.int 0])) rfl ?_
              obtain ⟨rfl, rfl, rfl⟩ := s_inj hb
              exact e_r rfl rfl K
      · replace hb := i_neg c10 hb
        refine e_k 1 (f' := (60, [(3, .int v5), (0, .ref 112), (1, .int p2), (2, .int x1)], [.ref 112])) rfl ?_
        obtain ⟨v30, I30, J30, h30, hb⟩ := oc_call hb
        refine r_cv (z := m_Model_refuse) (As := []) (rest := []) rfl rfl rfl rfl rfl (x_ltn rfl) rfl rfl (E_Model_refuse  h30 ⟨_, rfl, ?_⟩)
        obtain ⟨o31, hb⟩ := ob_if hb
        obtain ⟨rfl, rfl, rfl⟩ := s_inj hb
        exact e_r rfl (if_pos o31) K
    · replace hb := i_neg c8 hb
      refine e_k 3 (f' := (46, [(3, .int v5), (0, .ref 112), (1, .int p2), (2, .int x1)], [.int x1, .int p2, .ref 112])) rfl ?_
      obtain ⟨v32, I32, J32, h32, hb⟩ := oc_call hb
      refine r_cv (z := m_Model_readRows) (As := [.int p2, .int x1]) (rest := []) rfl rfl rfl rfl rfl (x_ltn rfl) rfl rfl (E_Model_readRows  h32 ⟨_, rfl, ?_⟩)
      obtain ⟨o33, hb⟩ := ob_if hb
      obtain ⟨rfl, rfl, rfl⟩ := s_inj hb
      exact e_r rfl (if_pos o33) K
  clear hb
  refine e_if (fun c6 => ?_) (fun c6 => ?_)
  · replace h5 := i_pos c6 h5
    refine e_k 3 (f' := (33, [(2, .int x1), (0, .ref 112), (1, .int p2)], [.int (p2 - 65)])) rfl ?_
    refine e_sub (ls := [(0, .ref 112), (1, .int p2), (2, .int x1)]) rfl ⟨rfl, rfl, rfl, trivial⟩ ?_
    subst h5
    exact Kj5
  · replace h5 := i_neg c6 h5
    refine e_k 4 (f' := (33, [(2, .int x1), (0, .ref 112), (1, .int p2)], [.int (p2 - 69)])) rfl ?_
    refine e_sub (ls := [(0, .ref 112), (1, .int p2), (2, .int x1)]) rfl ⟨rfl, rfl, rfl, trivial⟩ ?_
    subst h5
    exact Kj5
theorem E_RcM_all {L : Nat} {xs : Nat → Int32} {X : MX} : ∀ (fu d : Nat), (∀ {I : MI} {J : MJ} {v : Int32} {I' : MI} {J' : MJ} {P : am_R → am_H → Prop}, f_RcM fu 0 0 0 I J = some (v, I', J') → P (.inl (some (.int v))) (hX X I' J') → am_E (gG L xs) (d + fu + 4) m_Model_readX (0, lv_args 0 [.ref 112], []) (hX X I J) P) ∧ (∀ {I : MI} {J : MJ} {v : Int32} {I' : MI} {J' : MJ} {P : am_R → am_H → Prop}, f_RcM fu 1 0 0 I J = some (v, I', J') → P (.inl (some (.int v))) (hX X I' J') → am_E (gG L xs) (d + fu + 4) m_Model_readProduct (0, lv_args 0 [.ref 112], []) (hX X I J) P) ∧ (∀ {I : MI} {J : MJ} {v : Int32} {I' : MI} {J' : MJ} {P : am_R → am_H → Prop}, f_RcM fu 2 0 0 I J = some (v, I', J') → P (.inl (some (.int v))) (hX X I' J') → am_E (gG L xs) (d + fu + 4) m_Model_readFactor (0, lv_args 0 [.ref 112], []) (hX X I J) P) ∧ (∀ {I : MI} {J : MJ} {v : Int32} {I' : MI} {J' : MJ} {P : am_R → am_H → Prop}, f_RcM fu 3 0 0 I J = some (v, I', J') → P (.inl (some (.int v))) (hX X I' J') → am_E (gG L xs) (d + fu + 4) m_Model_readPart (0, lv_args 0 [.ref 112], []) (hX X I J) P) ∧ (∀ {I : MI} {J : MJ} {v : Int32} {I' : MI} {J' : MJ} {P : am_R → am_H → Prop}, f_RcM fu 4 0 0 I J = some (v, I', J') → P (.inl (some (.int v))) (hX X I' J') → am_E (gG L xs) (d + fu + 4) m_Model_readPlace (0, lv_args 0 [.ref 112], []) (hX X I J) P) ∧ (∀ {I : MI} {J : MJ} {v : Int32} {I' : MI} {J' : MJ} {P : am_R → am_H → Prop}, f_RcM fu 5 0 0 I J = some (v, I', J') → P (.inl (some (.int v))) (hX X I' J') → am_E (gG L xs) (d + fu + 4) m_Model_readStatements (0, lv_args 0 [.ref 112], []) (hX X I J) P) ∧ (∀ {I : MI} {J : MJ} {v : Int32} {I' : MI} {J' : MJ} {P : am_R → am_H → Prop}, f_RcM fu 6 0 0 I J = some (v, I', J') → P (.inl (some (.int v))) (hX X I' J') → am_E (gG L xs) (d + fu + 4) m_Model_readStatement (0, lv_args 0 [.ref 112], []) (hX X I J) P) ∧ (∀ {I : MI} {J : MJ} {v : Int32} {I' : MI} {J' : MJ} {P : am_R → am_H → Prop}, f_RcM fu 7 0 0 I J = some (v, I', J') → P (.inl (some (.int v))) (hX X I' J') → am_E (gG L xs) (d + fu + 4) m_Model_readRoutine (0, lv_args 0 [.ref 112], []) (hX X I J) P) ∧ (∀ {a0 : Int32} {a1 : Int32} {I : MI} {J : MJ} {v : Int32} {I' : MI} {J' : MJ} {P : am_R → am_H → Prop}, f_RcM fu 8 a0 a1 I J = some (v, I', J') → P (.inl (some (.int v))) (hX X I' J') → am_E (gG L xs) (d + fu + 4) m_Model_readValue (0, lv_args 0 [.ref 112, .int a0, .int a1], []) (hX X I J) P) ∧ (∀ {a0 : Int32} {I : MI} {J : MJ} {v : Int32} {I' : MI} {J' : MJ} {P : am_R → am_H → Prop}, f_RcM fu 9 a0 0 I J = some (v, I', J') → P (.inl (some (.int v))) (hX X I' J') → am_E (gG L xs) (d + fu + 4) m_Model_readRow (0, lv_args 0 [.ref 112, .int a0], []) (hX X I J) P) ∧ (∀ {a0 : Int32} {I : MI} {J : MJ} {v : Int32} {I' : MI} {J' : MJ} {P : am_R → am_H → Prop}, f_RcM fu 10 a0 0 I J = some (v, I', J') → P (.inl (some (.int v))) (hX X I' J') → am_E (gG L xs) (d + fu + 4) m_Model_readTurn (0, lv_args 0 [.ref 112, .int a0], []) (hX X I J) P) := by
  intro fu
  induction fu with
  | zero =>
    intro d
    refine ⟨?_, ?_, ?_, ?_, ?_, ?_, ?_, ?_, ?_, ?_, ?_⟩ <;> (intros; rename_i hb _; cases hb)
  | succ fu ih =>
    intro d
    obtain ⟨h0, h1, h2, h3, h4, h5, h6, h7, h8, h9, h10⟩ := ih d
    refine ⟨?_, ?_, ?_, ?_, ?_, ?_, ?_, ?_, ?_, ?_, ?_⟩
    · intro I J v I' J' P hb K
      rw [show d + (fu + 1) + 4 = d + fu + 4 + 1 from by omega]
      exact E_Model_readX (d := d + fu + 4) h0 h1 h2 h3 h4 h5 h6 h7 h8 h9 h10 hb K
    · intro I J v I' J' P hb K
      rw [show d + (fu + 1) + 4 = d + fu + 3 + 2 from by omega]
      exact E_Model_readProduct (d := d + fu + 3) h0 h1 h2 h3 h4 h5 h6 h7 h8 h9 h10 hb K
    · intro I J v I' J' P hb K
      rw [show d + (fu + 1) + 4 = d + fu + 3 + 2 from by omega]
      exact E_Model_readFactor (d := d + fu + 3) h0 h1 h2 h3 h4 h5 h6 h7 h8 h9 h10 hb K
    · intro I J v I' J' P hb K
      rw [show d + (fu + 1) + 4 = d + fu + 2 + 3 from by omega]
      exact E_Model_readPart (d := d + fu + 2) h0 h1 h2 h3 h4 h5 h6 h7 h8 h9 h10 hb K
    · intro I J v I' J' P hb K
      rw [show d + (fu + 1) + 4 = d + fu + 2 + 3 from by omega]
      exact E_Model_readPlace (d := d + fu + 2) h0 h1 h2 h3 h4 h5 h6 h7 h8 h9 h10 hb K
    · intro I J v I' J' P hb K
      rw [show d + (fu + 1) + 4 = d + fu + 4 + 1 from by omega]
      exact E_Model_readStatements (d := d + fu + 4) h0 h1 h2 h3 h4 h5 h6 h7 h8 h9 h10 hb K
    · intro I J v I' J' P hb K
      rw [show d + (fu + 1) + 4 = d + fu + 1 + 4 from by omega]
      exact E_Model_readStatement (d := d + fu + 1) h0 h1 h2 h3 h4 h5 h6 h7 h8 h9 h10 hb K
    · intro I J v I' J' P hb K
      rw [show d + (fu + 1) + 4 = d + fu + 2 + 3 from by omega]
      exact E_Model_readRoutine (d := d + fu + 2) h0 h1 h2 h3 h4 h5 h6 h7 h8 h9 h10 hb K
    · intro a0 a1 I J v I' J' P hb K
      rw [show d + (fu + 1) + 4 = d + fu + 2 + 3 from by omega]
      exact E_Model_readValue (d := d + fu + 2) h0 h1 h2 h3 h4 h5 h6 h7 h8 h9 h10 hb K
    · intro a0 I J v I' J' P hb K
      rw [show d + (fu + 1) + 4 = d + fu + 1 + 4 from by omega]
      exact E_Model_readRow (d := d + fu + 1) h0 h1 h2 h3 h4 h5 h6 h7 h8 h9 h10 hb K
    · intro a0 I J v I' J' P hb K
      rw [show d + (fu + 1) + 4 = d + fu + 2 + 3 from by omega]
      exact E_Model_readTurn (d := d + fu + 2) h0 h1 h2 h3 h4 h5 h6 h7 h8 h9 h10 hb K
theorem E_RcM_0 {L : Nat} {xs : Nat → Int32} {X : MX} {d : Nat} : ∀ {I : MI} {J : MJ} {v : Int32} {I' : MI} {J' : MJ} {P : am_R → am_H → Prop}, f_RcM 200 0 0 0 I J = some (v, I', J') → P (.inl (some (.int v))) (hX X I' J') → am_E (gG L xs) (d + 204) m_Model_readX (0, lv_args 0 [.ref 112], []) (hX X I J) P := (E_RcM_all 200 d).1
theorem E_RcM_1 {L : Nat} {xs : Nat → Int32} {X : MX} {d : Nat} : ∀ {I : MI} {J : MJ} {v : Int32} {I' : MI} {J' : MJ} {P : am_R → am_H → Prop}, f_RcM 200 1 0 0 I J = some (v, I', J') → P (.inl (some (.int v))) (hX X I' J') → am_E (gG L xs) (d + 204) m_Model_readProduct (0, lv_args 0 [.ref 112], []) (hX X I J) P := (E_RcM_all 200 d).2.1
theorem E_RcM_2 {L : Nat} {xs : Nat → Int32} {X : MX} {d : Nat} : ∀ {I : MI} {J : MJ} {v : Int32} {I' : MI} {J' : MJ} {P : am_R → am_H → Prop}, f_RcM 200 2 0 0 I J = some (v, I', J') → P (.inl (some (.int v))) (hX X I' J') → am_E (gG L xs) (d + 204) m_Model_readFactor (0, lv_args 0 [.ref 112], []) (hX X I J) P := (E_RcM_all 200 d).2.2.1
theorem E_RcM_3 {L : Nat} {xs : Nat → Int32} {X : MX} {d : Nat} : ∀ {I : MI} {J : MJ} {v : Int32} {I' : MI} {J' : MJ} {P : am_R → am_H → Prop}, f_RcM 200 3 0 0 I J = some (v, I', J') → P (.inl (some (.int v))) (hX X I' J') → am_E (gG L xs) (d + 204) m_Model_readPart (0, lv_args 0 [.ref 112], []) (hX X I J) P := (E_RcM_all 200 d).2.2.2.1
theorem E_RcM_4 {L : Nat} {xs : Nat → Int32} {X : MX} {d : Nat} : ∀ {I : MI} {J : MJ} {v : Int32} {I' : MI} {J' : MJ} {P : am_R → am_H → Prop}, f_RcM 200 4 0 0 I J = some (v, I', J') → P (.inl (some (.int v))) (hX X I' J') → am_E (gG L xs) (d + 204) m_Model_readPlace (0, lv_args 0 [.ref 112], []) (hX X I J) P := (E_RcM_all 200 d).2.2.2.2.1
theorem E_RcM_5 {L : Nat} {xs : Nat → Int32} {X : MX} {d : Nat} : ∀ {I : MI} {J : MJ} {v : Int32} {I' : MI} {J' : MJ} {P : am_R → am_H → Prop}, f_RcM 200 5 0 0 I J = some (v, I', J') → P (.inl (some (.int v))) (hX X I' J') → am_E (gG L xs) (d + 204) m_Model_readStatements (0, lv_args 0 [.ref 112], []) (hX X I J) P := (E_RcM_all 200 d).2.2.2.2.2.1
theorem E_RcM_6 {L : Nat} {xs : Nat → Int32} {X : MX} {d : Nat} : ∀ {I : MI} {J : MJ} {v : Int32} {I' : MI} {J' : MJ} {P : am_R → am_H → Prop}, f_RcM 200 6 0 0 I J = some (v, I', J') → P (.inl (some (.int v))) (hX X I' J') → am_E (gG L xs) (d + 204) m_Model_readStatement (0, lv_args 0 [.ref 112], []) (hX X I J) P := (E_RcM_all 200 d).2.2.2.2.2.2.1
theorem E_RcM_7 {L : Nat} {xs : Nat → Int32} {X : MX} {d : Nat} : ∀ {I : MI} {J : MJ} {v : Int32} {I' : MI} {J' : MJ} {P : am_R → am_H → Prop}, f_RcM 200 7 0 0 I J = some (v, I', J') → P (.inl (some (.int v))) (hX X I' J') → am_E (gG L xs) (d + 204) m_Model_readRoutine (0, lv_args 0 [.ref 112], []) (hX X I J) P := (E_RcM_all 200 d).2.2.2.2.2.2.2.1
theorem E_RcM_8 {L : Nat} {xs : Nat → Int32} {X : MX} {d : Nat} : ∀ {a0 : Int32} {a1 : Int32} {I : MI} {J : MJ} {v : Int32} {I' : MI} {J' : MJ} {P : am_R → am_H → Prop}, f_RcM 200 8 a0 a1 I J = some (v, I', J') → P (.inl (some (.int v))) (hX X I' J') → am_E (gG L xs) (d + 204) m_Model_readValue (0, lv_args 0 [.ref 112, .int a0, .int a1], []) (hX X I J) P := (E_RcM_all 200 d).2.2.2.2.2.2.2.2.1
theorem E_RcM_9 {L : Nat} {xs : Nat → Int32} {X : MX} {d : Nat} : ∀ {a0 : Int32} {I : MI} {J : MJ} {v : Int32} {I' : MI} {J' : MJ} {P : am_R → am_H → Prop}, f_RcM 200 9 a0 0 I J = some (v, I', J') → P (.inl (some (.int v))) (hX X I' J') → am_E (gG L xs) (d + 204) m_Model_readRow (0, lv_args 0 [.ref 112, .int a0], []) (hX X I J) P := (E_RcM_all 200 d).2.2.2.2.2.2.2.2.2.1
theorem E_RcM_10 {L : Nat} {xs : Nat → Int32} {X : MX} {d : Nat} : ∀ {a0 : Int32} {I : MI} {J : MJ} {v : Int32} {I' : MI} {J' : MJ} {P : am_R → am_H → Prop}, f_RcM 200 10 a0 0 I J = some (v, I', J') → P (.inl (some (.int v))) (hX X I' J') → am_E (gG L xs) (d + 204) m_Model_readTurn (0, lv_args 0 [.ref 112, .int a0], []) (hX X I J) P := (E_RcM_all 200 d).2.2.2.2.2.2.2.2.2.2
theorem E_Model_compile_47 {X : MX} : ∀ (fu : Nat) {l1 : Int32} {I : MI} {J : MJ} {r : (Unit)} {I' : MI} {J' : MJ}, f_Model_compile_47  fu l1 I J = some (r, I', J') → am_E (gG L xs) d m_Model_compile (66, [(0, .ref 112)], []) (hX X I' J') P → am_E (gG L xs) d m_Model_compile (47, [(0, .ref 112), (1, .int l1)], []) (hX X I J) P := by
  intro fu
  induction fu with
  | zero =>
    intros
    rename_i hb _
    cases hb
  | succ fu ih =>
    intro l1 I J r I' J' hb K
    unfold f_Model_compile_47 at hb
    refine e_k 3 (f' := (if 10 ≤ l1 then 66 else 53, [(0, .ref 112), (1, .int l1)], [])) rfl ?_
    refine e_if (fun c10 => ?_) (fun c10 => ?_)
    · replace hb := i_pos c10 hb
      refine e_sub (ls := [(0, .ref 112)]) rfl ⟨rfl, trivial⟩ ?_
      obtain ⟨rfl, rfl, rfl⟩ := s_inj hb
      exact K
    · replace hb := i_neg c10 hb
      refine e_k 1 (f' := (54, [(0, .ref 112), (1, .int l1)], [.ref 112])) rfl ?_
      refine r_getr rfl (x_ltn rfl) rfl rfl ?_
      refine e_k 2 (f' := (59, [(0, .ref 112), (1, .int l1)], [.int (-1), .int l1, .ref 162])) rfl ?_
      obtain ⟨o11, hb⟩ := ob_in hb
      obtain ⟨I12, eI12, hb⟩ := p_nm hb
      refine r_iast' rfl (x_ltn rfl) rfl o11 eI12 ?_
      refine e_k 2 (f' := (47, [(1, .int (l1 + 1)), (0, .ref 112)], [])) rfl ?_
      refine e_sub (ls := [(0, .ref 112), (1, .int (l1 + 1))]) rfl ⟨rfl, rfl, trivial⟩ ?_
      exact ih  hb K
theorem E_Model_compile {X : MX} {I : MI} {J : MJ} {v : Int32} {I' : MI} {J' : MJ} (hb : f_Model_compile  I J = some (v, I', J')) (K : P (.inl (some (.int v))) (hX X I' J')) : am_E (gG L xs) (d + 205) m_Model_compile (0, lv_args 0 [.ref 112], []) (hX X I J) P := by
  unfold f_Model_compile at hb
  refine e_k 2 (f' := (2, [(0, .ref 112)], [.int 0, .ref 112])) rfl ?_
  obtain ⟨I1, eI1, hb⟩ := p_nm hb
  refine r_puti' rfl (x_ltn rfl) rfl rfl eI1 ?_
  refine e_k 2 (f' := (7, [(0, .ref 112)], [.int 0, .ref 112])) rfl ?_
  obtain ⟨I2, eI2, hb⟩ := p_nm hb
  refine r_puti' rfl (x_ltn rfl) rfl rfl eI2 ?_
  refine e_k 2 (f' := (12, [(0, .ref 112)], [.int 0, .ref 112])) rfl ?_
  obtain ⟨I3, eI3, hb⟩ := p_nm hb
  refine r_puti' rfl (x_ltn rfl) rfl rfl eI3 ?_
  refine e_k 2 (f' := (17, [(0, .ref 112)], [.int 0, .ref 112])) rfl ?_
  obtain ⟨I4, eI4, hb⟩ := p_nm hb
  refine r_puti' rfl (x_ltn rfl) rfl rfl eI4 ?_
  refine e_k 2 (f' := (22, [(0, .ref 112)], [.int 0, .ref 112])) rfl ?_
  obtain ⟨I5, eI5, hb⟩ := p_nm hb
  refine r_puti' rfl (x_ltn rfl) rfl rfl eI5 ?_
  refine e_k 2 (f' := (27, [(0, .ref 112)], [.int 0, .ref 112])) rfl ?_
  obtain ⟨I6, eI6, hb⟩ := p_nm hb
  refine r_puti' rfl (x_ltn rfl) rfl rfl eI6 ?_
  refine e_k 2 (f' := (32, [(0, .ref 112)], [.int 0, .ref 112])) rfl ?_
  obtain ⟨I7, eI7, hb⟩ := p_nm hb
  refine r_puti' rfl (x_ltn rfl) rfl rfl eI7 ?_
  refine e_k 2 (f' := (37, [(0, .ref 112)], [.int 0, .ref 112])) rfl ?_
  obtain ⟨I8, eI8, hb⟩ := p_nm hb
  refine r_puti' rfl (x_ltn rfl) rfl rfl eI8 ?_
  refine e_k 2 (f' := (42, [(0, .ref 112)], [.int 0, .ref 112])) rfl ?_
  obtain ⟨I9, eI9, hb⟩ := p_nm hb
  refine r_puti' rfl (x_ltn rfl) rfl rfl eI9 ?_
  refine e_k 2 (f' := (47, [(1, .int 0), (0, .ref 112)], [])) rfl ?_
  refine e_sub (ls := [(0, .ref 112), (1, .int 0)]) rfl ⟨rfl, rfl, trivial⟩ ?_
  obtain ⟨u13, I13, J13, h13, hb⟩ := oc_call hb
  refine E_Model_compile_47  gF  h13 ?_
  refine e_k 1 (f' := (67, [(0, .ref 112)], [.ref 112])) rfl ?_
  obtain ⟨v14, I14, J14, h14, hb⟩ := oc_call hb
  refine r_cv (z := m_Model_readStatements) (As := []) (rest := []) rfl rfl rfl rfl rfl (x_ltn rfl) rfl rfl (E_RcM_5  h14 ⟨_, rfl, ?_⟩)
  refine e_k 1 (f' := (if v14 = 0 then 91 else 73, [(0, .ref 112)], [])) rfl ?_
  obtain ⟨v16, I16, J16, h16, hb⟩ := oc_call hb
  have Kj16 : am_E (gG L xs) (d + 205) m_Model_compile (92, [(0, .ref 112)], [.int v16]) (hX X I16 J16) P := by
    refine e_k 2 (f' := (94, [(1, .int v16), (0, .ref 112)], [.ref 112])) rfl ?_
    obtain ⟨v22, I22, J22, h22, hb⟩ := oc_call hb
    refine r_cv (z := m_Model_place) (As := []) (rest := []) rfl rfl rfl rfl rfl (x_ltn rfl) rfl rfl (E_Model_place  h22 ⟨_, rfl, ?_⟩)
    refine e_k 2 (f' := (99, [(1, .int v16), (0, .ref 112)], [.int 0, .ref 112])) rfl ?_
    obtain ⟨I23, eI23, hb⟩ := p_nm hb
    refine r_puti' rfl (x_ltn rfl) rfl rfl eI23 ?_
    refine e_k 2 (f' := (if v16 = 0 then 129 else 106, [(1, .int v16), (0, .ref 112)], [])) rfl ?_
    obtain ⟨v25, I25, J25, h25, hb⟩ := oc_call hb
    have Kj25 : am_E (gG L xs) (d + 205) m_Model_compile (129, [(0, .ref 112)], []) (hX X I25 J25) P := by
      refine e_k 1 (f' := (130, [(0, .ref 112)], [.ref 112])) rfl ?_
      refine r_geti rfl (x_ltn rfl) rfl rfl ?_
      refine e_k 1 (f' := (if (I25 112 3) = 0 then 142 else 136, [(0, .ref 112)], [])) rfl ?_
      refine e_if (fun c30 => ?_) (fun c30 => ?_)
      · replace hb := i_pos c30 hb
        refine e_k 2 (f' := (144, [(0, .ref 112)], [.int 0, .ref 112])) rfl ?_
        obtain ⟨I31, eI31, hb⟩ := p_nm hb
        refine r_puti' rfl (x_ltn rfl) rfl rfl eI31 ?_
        refine e_k 2 (f' := (149, [(0, .ref 112)], [.int 0, .ref 112])) rfl ?_
        obtain ⟨v32, I32, J32, h32, hb⟩ := oc_call hb
        refine r_cv (z := m_Model_lay_IV) (As := [.int 0]) (rest := []) rfl rfl rfl rfl rfl (x_ltn rfl) rfl rfl (E_Model_lay_IV  h32 ⟨_, rfl, ?_⟩)
        refine e_k 2 (f' := (154, [(0, .ref 112)], [.ref 112, .ref 112])) rfl ?_
        refine r_getr rfl (x_ltn rfl) rfl rfl ?_
        refine e_k 1 (f' := (158, [(0, .ref 112)], [.ref 112, .ref 115, .ref 112])) rfl ?_
        refine r_geti rfl (x_ltn rfl) rfl rfl ?_
        obtain ⟨v33, I33, J33, h33, hb⟩ := oc_call hb
        refine r_cv (z := m_Model_take) (As := [.ref 115, .int (I32 112 10)]) (rest := []) rfl rfl rfl rfl rfl (x_ltn rfl) rfl rfl (E_Model_take ⟨(x_ltn rfl), rfl, rfl⟩ h33 ⟨_, rfl, ?_⟩)
        refine e_k 1 (f' := (165, [(0, .ref 112)], [.ref 112])) rfl ?_
        refine r_geti rfl (x_ltn rfl) rfl rfl ?_
        obtain ⟨rfl, rfl, rfl⟩ := s_inj hb
        exact e_r rfl rfl K
      · replace hb := i_neg c30 hb
        refine e_k 2 (f' := (138, [(0, .ref 112)], [.int 1, .ref 112])) rfl ?_
        obtain ⟨v34, I34, J34, h34, hb⟩ := oc_call hb
        refine r_cv (z := m_Model_raise) (As := [.int 1]) (rest := []) rfl rfl rfl rfl rfl (x_ltn rfl) rfl rfl (E_Model_raise  h34 ⟨_, rfl, ?_⟩)
        obtain ⟨rfl, rfl, rfl⟩ := s_inj hb
        exact e_r rfl rfl K
    clear hb
    refine e_if (fun c26 => ?_) (fun c26 => ?_)
    · replace h25 := i_pos c26 h25
      refine e_sub (ls := [(0, .ref 112)]) rfl ⟨rfl, trivial⟩ ?_
      obtain ⟨rfl, rfl, rfl⟩ := s_inj h25
      exact Kj25
    · replace h25 := i_neg c26 h25
      refine e_k 1 (f' := (107, [(1, .int v16), (0, .ref 112)], [.ref 112])) rfl ?_
      refine r_geti rfl (x_ltn rfl) rfl rfl ?_
      refine e_k 1 (f' := (if (I23 112 13) ≤ 0 then 129 else 113, [(1, .int v16), (0, .ref 112)], [])) rfl ?_
      refine e_if (fun c27 => ?_) (fun c27 => ?_)
      · replace h25 := i_pos c27 h25
        refine e_sub (ls := [(0, .ref 112)]) rfl ⟨rfl, trivial⟩ ?_
        obtain ⟨rfl, rfl, rfl⟩ := s_inj h25
        exact Kj25
      · replace h25 := i_neg c27 h25
        refine e_k 2 (f' := (115, [(1, .int v16), (0, .ref 112)], [.ref 112, .ref 112])) rfl ?_
        refine r_geti rfl (x_ltn rfl) rfl rfl ?_
        obtain ⟨I28, eI28, h25⟩ := p_nm h25
        refine r_puti' rfl (x_ltn rfl) rfl rfl eI28 ?_
        refine e_k 2 (f' := (123, [(1, .int v16), (0, .ref 112)], [.ref 112, .ref 112])) rfl ?_
        refine r_geti rfl (x_ltn rfl) rfl rfl ?_
        obtain ⟨I29, eI29, h25⟩ := p_nm h25
        refine r_puti' rfl (x_ltn rfl) rfl rfl eI29 ?_
        refine e_sub (ls := [(0, .ref 112)]) rfl ⟨rfl, trivial⟩ ?_
        obtain ⟨rfl, rfl, rfl⟩ := s_inj h25
        exact Kj25
  clear hb
  refine e_if (fun c17 => ?_) (fun c17 => ?_)
  · replace h16 := i_pos c17 h16
    refine e_k 1 (f' := (92, [(0, .ref 112)], [.int 0])) rfl ?_
    refine e_sub (ls := [(0, .ref 112)]) rfl ⟨rfl, trivial⟩ ?_
    obtain ⟨rfl, rfl, rfl⟩ := s_inj h16
    exact Kj16
  · replace h16 := i_neg c17 h16
    refine e_k 1 (f' := (74, [(0, .ref 112)], [.ref 112])) rfl ?_
    obtain ⟨v18, I18, J18, h18, h16⟩ := oc_call h16
    refine r_cv (z := m_Model_see) (As := []) (rest := []) rfl rfl rfl rfl rfl (x_ltn rfl) rfl rfl (E_Model_see  h18 ⟨_, rfl, ?_⟩)
    refine e_k 1 (f' := (if v18 = 0 then 87 else 80, [(0, .ref 112)], [])) rfl ?_
    refine e_if (fun c19 => ?_) (fun c19 => ?_)
    · replace h16 := i_pos c19 h16
      refine e_k 2 (f' := (92, [(0, .ref 112)], [.int 1])) rfl ?_
      refine e_sub (ls := [(0, .ref 112)]) rfl ⟨rfl, trivial⟩ ?_
      obtain ⟨rfl, rfl, rfl⟩ := s_inj h16
      exact Kj16
    · replace h16 := i_neg c19 h16
      refine e_k 1 (f' := (81, [(0, .ref 112)], [.ref 112])) rfl ?_
      obtain ⟨v20, I20, J20, h20, h16⟩ := oc_call h16
      refine r_cv (z := m_Model_refuse) (As := []) (rest := []) rfl rfl rfl rfl rfl (x_ltn rfl) rfl rfl (E_Model_refuse  h20 ⟨_, rfl, ?_⟩)
      refine e_k 1 (f' := (if v20 = 0 then 91 else 87, [(0, .ref 112)], [])) rfl ?_
      refine e_if (fun c21 => ?_) (fun c21 => ?_)
      · replace h16 := i_pos c21 h16
        refine e_k 1 (f' := (92, [(0, .ref 112)], [.int 0])) rfl ?_
        refine e_sub (ls := [(0, .ref 112)]) rfl ⟨rfl, trivial⟩ ?_
        obtain ⟨rfl, rfl, rfl⟩ := s_inj h16
        exact Kj16
      · replace h16 := i_neg c21 h16
        refine e_k 2 (f' := (92, [(0, .ref 112)], [.int 1])) rfl ?_
        refine e_sub (ls := [(0, .ref 112)]) rfl ⟨rfl, trivial⟩ ?_
        obtain ⟨rfl, rfl, rfl⟩ := s_inj h16
        exact Kj16
theorem E_Model_isFlowGood_12 {X : MX} : ∀ (fu : Nat) {l1 : Int32} {I : MI} {J : MJ} {r : (Int32 ⊕ (Int32))} {I' : MI} {J' : MJ}, f_Model_isFlowGood_12  fu l1 I J = some (r, I', J') → (∀ v, r = .inl v → P (.inl (some (.int v))) (hX X I' J')) → (∀ u, r = .inr u → am_E (gG L xs) (d + 2) m_Model_isFlowGood (93, [(0, .ref 112), (1, .int u)], []) (hX X I' J') P) → am_E (gG L xs) (d + 2) m_Model_isFlowGood (12, [(0, .ref 112), (1, .int l1)], []) (hX X I J) P := by
  intro fu
  induction fu with
  | zero =>
    intros
    rename_i hb _ _
    cases hb
  | succ fu ih =>
    intro l1 I J r I' J' hb K1 K2
    unfold f_Model_isFlowGood_12 at hb
    refine e_k 2 (f' := (14, [(0, .ref 112), (1, .int l1)], [.ref 112, .int l1])) rfl ?_
    refine r_geti rfl (x_ltn rfl) rfl rfl ?_
    refine e_k 1 (f' := (if (I 112 12) ≤ l1 then 115 else 20, [(0, .ref 112), (1, .int l1)], [])) rfl ?_
    refine e_if (fun c3 => ?_) (fun c3 => ?_)
    · replace hb := i_pos c3 hb
      refine e_k 1 (f' := (116, [(0, .ref 112), (1, .int l1)], [.int 1])) rfl ?_
      obtain ⟨rfl, rfl, rfl⟩ := s_inj hb
      exact e_r rfl rfl (K1 _ rfl)
    · replace hb := i_neg c3 hb
      refine e_k 1 (f' := (21, [(0, .ref 112), (1, .int l1)], [.ref 112])) rfl ?_
      refine r_geti rfl (x_ltn rfl) rfl rfl ?_
      refine e_k 1 (f' := (if (I 112 84) ≤ 0 then 85 else 27, [(0, .ref 112), (1, .int l1)], [])) rfl ?_
      refine e_if (fun c4 => ?_) (fun c4 => ?_)
      · replace hb := i_pos c4 hb
        refine e_k 2 (f' := (87, [(0, .ref 112), (1, .int l1)], [.int l1, .ref 112])) rfl ?_
        obtain ⟨v5, I5, J5, h5, hb⟩ := oc_call hb
        refine r_cv (z := m_Model_flows) (As := [.int l1]) (rest := []) rfl rfl rfl rfl rfl (x_ltn rfl) rfl rfl (E_Model_flows  h5 ⟨_, rfl, ?_⟩)
        refine e_k 1 (f' := (if ¬ v5 = 0 then 100 else 93, [(0, .ref 112), (1, .int l1)], [])) rfl ?_
        refine e_if (fun c6 => ?_) (fun c6 => ?_)
        · replace hb := i_pos c6 hb
          refine e_k 2 (f' := (102, [(0, .ref 112), (1, .int l1)], [.ref 112, .int l1])) rfl ?_
          refine r_getr rfl (x_ltn rfl) rfl rfl ?_
          refine e_k 1 (f' := (106, [(0, .ref 112), (1, .int l1)], [.int l1, .ref 116, .int l1])) rfl ?_
          obtain ⟨o7, hb⟩ := ob_in hb
          refine r_iald rfl rfl (x_ltn rfl) rfl o7 ?_
          obtain ⟨v8, I8, J8, h8, hb⟩ := oc_call hb
          refine r_cs (z := m_Model_longOf) (As := [.int (I5 116 (Int32.toNatClampNeg l1))]) (rest := [.int l1]) rfl rfl rfl rfl rfl rfl (E_Model_longOf  h8 ⟨_, rfl, ?_⟩)
          refine e_k 2 (f' := (112, [(1, .int (l1 + v8)), (0, .ref 112)], [])) rfl ?_
          obtain ⟨x9, ex9, hb⟩ := p_nm hb
          rw [← ex9]
          refine e_k 1 (f' := (12, [(1, .int x9), (0, .ref 112)], [])) rfl ?_
          refine e_sub (ls := [(0, .ref 112), (1, .int x9)]) rfl ⟨rfl, rfl, trivial⟩ ?_
          exact ih  hb K1 K2
        · replace hb := i_neg c6 hb
          refine e_sub (ls := [(0, .ref 112), (1, .int l1)]) rfl ⟨rfl, rfl, trivial⟩ ?_
          obtain ⟨rfl, rfl, rfl⟩ := s_inj hb
          exact K2 _ rfl
      · replace hb := i_neg c4 hb
        refine e_k 1 (f' := (28, [(0, .ref 112), (1, .int l1)], [.ref 112])) rfl ?_
        refine r_getr rfl (x_ltn rfl) rfl rfl ?_
        refine e_k 1 (f' := (32, [(0, .ref 112), (1, .int l1)], [.int l1, .ref 167])) rfl ?_
        obtain ⟨o10, hb⟩ := ob_in hb
        refine r_zald rfl rfl (x_ltn rfl) rfl o10 ?_
        refine e_k 1 (f' := (if ¬ (I 167 (Int32.toNatClampNeg l1)) = 0 then 78 else 36, [(0, .ref 112), (1, .int l1)], [])) rfl ?_
        refine e_if (fun c11 => ?_) (fun c11 => ?_)
        · replace hb := i_pos c11 hb
          refine e_k 3 (f' := (81, [(0, .ref 112), (1, .int l1)], [.int l1, .int 3, .ref 112])) rfl ?_
          obtain ⟨v12, I12, J12, h12, hb⟩ := oc_call hb
          refine r_cv (z := m_Model_refused) (As := [.int 3, .int l1]) (rest := []) rfl rfl rfl rfl rfl (x_ltn rfl) rfl rfl (E_Model_refused  h12 ⟨_, rfl, ?_⟩)
          obtain ⟨o13, hb⟩ := ob_if hb
          obtain ⟨rfl, rfl, rfl⟩ := s_inj hb
          exact e_r rfl (if_pos o13) (K1 _ rfl)
        · replace hb := i_neg c11 hb
          refine e_k 1 (f' := (37, [(0, .ref 112), (1, .int l1)], [.ref 112])) rfl ?_
          refine r_getr rfl (x_ltn rfl) rfl rfl ?_
          refine e_k 1 (f' := (41, [(0, .ref 112), (1, .int l1)], [.int l1, .ref 116])) rfl ?_
          obtain ⟨o14, hb⟩ := ob_in hb
          refine r_iald rfl rfl (x_ltn rfl) rfl o14 ?_
          refine e_k 1 (f' := (if (I 116 (Int32.toNatClampNeg l1)) = 0 then 78 else 45, [(0, .ref 112), (1, .int l1)], [])) rfl ?_
          refine e_if (fun c15 => ?_) (fun c15 => ?_)
          · replace hb := i_pos c15 hb
            refine e_k 3 (f' := (81, [(0, .ref 112), (1, .int l1)], [.int l1, .int 3, .ref 112])) rfl ?_
            obtain ⟨v16, I16, J16, h16, hb⟩ := oc_call hb
            refine r_cv (z := m_Model_refused) (As := [.int 3, .int l1]) (rest := []) rfl rfl rfl rfl rfl (x_ltn rfl) rfl rfl (E_Model_refused  h16 ⟨_, rfl, ?_⟩)
            obtain ⟨o17, hb⟩ := ob_if hb
            obtain ⟨rfl, rfl, rfl⟩ := s_inj hb
            exact e_r rfl (if_pos o17) (K1 _ rfl)
          · replace hb := i_neg c15 hb
            refine e_k 1 (f' := (46, [(0, .ref 112), (1, .int l1)], [.ref 112])) rfl ?_
            refine r_getr rfl (x_ltn rfl) rfl rfl ?_
            refine e_k 1 (f' := (50, [(0, .ref 112), (1, .int l1)], [.int l1, .ref 116])) rfl ?_
            obtain ⟨o18, hb⟩ := ob_in hb
            refine r_iald rfl rfl (x_ltn rfl) rfl o18 ?_
            refine e_k 2 (f' := (if (I 116 (Int32.toNatClampNeg l1)) = 17 then 78 else 56, [(0, .ref 112), (1, .int l1)], [])) rfl ?_
            refine e_if (fun c19 => ?_) (fun c19 => ?_)
            · replace hb := i_pos c19 hb
              refine e_k 3 (f' := (81, [(0, .ref 112), (1, .int l1)], [.int l1, .int 3, .ref 112])) rfl ?_
              obtain ⟨v20, I20, J20, h20, hb⟩ := oc_call hb
              refine r_cv (z := m_Model_refused) (As := [.int 3, .int l1]) (rest := []) rfl rfl rfl rfl rfl (x_ltn rfl) rfl rfl (E_Model_refused  h20 ⟨_, rfl, ?_⟩)
              obtain ⟨o21, hb⟩ := ob_if hb
              obtain ⟨rfl, rfl, rfl⟩ := s_inj hb
              exact e_r rfl (if_pos o21) (K1 _ rfl)
            · replace hb := i_neg c19 hb
              refine e_k 1 (f' := (57, [(0, .ref 112), (1, .int l1)], [.ref 112])) rfl ?_
              refine r_getr rfl (x_ltn rfl) rfl rfl ?_
              refine e_k 1 (f' := (61, [(0, .ref 112), (1, .int l1)], [.int l1, .ref 116])) rfl ?_
              obtain ⟨o22, hb⟩ := ob_in hb
              refine r_iald rfl rfl (x_ltn rfl) rfl o22 ?_
              refine e_k 2 (f' := (if (I 116 (Int32.toNatClampNeg l1)) = 18 then 78 else 67, [(0, .ref 112), (1, .int l1)], [])) rfl ?_
              refine e_if (fun c23 => ?_) (fun c23 => ?_)
              · replace hb := i_pos c23 hb
                refine e_k 3 (f' := (81, [(0, .ref 112), (1, .int l1)], [.int l1, .int 3, .ref 112])) rfl ?_
                obtain ⟨v24, I24, J24, h24, hb⟩ := oc_call hb
                refine r_cv (z := m_Model_refused) (As := [.int 3, .int l1]) (rest := []) rfl rfl rfl rfl rfl (x_ltn rfl) rfl rfl (E_Model_refused  h24 ⟨_, rfl, ?_⟩)
                obtain ⟨o25, hb⟩ := ob_if hb
                obtain ⟨rfl, rfl, rfl⟩ := s_inj hb
                exact e_r rfl (if_pos o25) (K1 _ rfl)
              · replace hb := i_neg c23 hb
                refine e_k 1 (f' := (68, [(0, .ref 112), (1, .int l1)], [.ref 112])) rfl ?_
                refine r_getr rfl (x_ltn rfl) rfl rfl ?_
                refine e_k 1 (f' := (72, [(0, .ref 112), (1, .int l1)], [.int l1, .ref 116])) rfl ?_
                obtain ⟨o26, hb⟩ := ob_in hb
                refine r_iald rfl rfl (x_ltn rfl) rfl o26 ?_
                refine e_k 2 (f' := (if (I 116 (Int32.toNatClampNeg l1)) ≤ 27 then 85 else 78, [(0, .ref 112), (1, .int l1)], [])) rfl ?_
                refine e_if (fun c27 => ?_) (fun c27 => ?_)
                · replace hb := i_pos c27 hb
                  refine e_k 2 (f' := (87, [(0, .ref 112), (1, .int l1)], [.int l1, .ref 112])) rfl ?_
                  obtain ⟨v28, I28, J28, h28, hb⟩ := oc_call hb
                  refine r_cv (z := m_Model_flows) (As := [.int l1]) (rest := []) rfl rfl rfl rfl rfl (x_ltn rfl) rfl rfl (E_Model_flows  h28 ⟨_, rfl, ?_⟩)
                  refine e_k 1 (f' := (if ¬ v28 = 0 then 100 else 93, [(0, .ref 112), (1, .int l1)], [])) rfl ?_
                  refine e_if (fun c29 => ?_) (fun c29 => ?_)
                  · replace hb := i_pos c29 hb
                    refine e_k 2 (f' := (102, [(0, .ref 112), (1, .int l1)], [.ref 112, .int l1])) rfl ?_
                    refine r_getr rfl (x_ltn rfl) rfl rfl ?_
                    refine e_k 1 (f' := (106, [(0, .ref 112), (1, .int l1)], [.int l1, .ref 116, .int l1])) rfl ?_
                    obtain ⟨o30, hb⟩ := ob_in hb
                    refine r_iald rfl rfl (x_ltn rfl) rfl o30 ?_
                    obtain ⟨v31, I31, J31, h31, hb⟩ := oc_call hb
                    refine r_cs (z := m_Model_longOf) (As := [.int (I28 116 (Int32.toNatClampNeg l1))]) (rest := [.int l1]) rfl rfl rfl rfl rfl rfl (E_Model_longOf  h31 ⟨_, rfl, ?_⟩)
                    refine e_k 2 (f' := (112, [(1, .int (l1 + v31)), (0, .ref 112)], [])) rfl ?_
                    obtain ⟨x32, ex32, hb⟩ := p_nm hb
                    rw [← ex32]
                    refine e_k 1 (f' := (12, [(1, .int x32), (0, .ref 112)], [])) rfl ?_
                    refine e_sub (ls := [(0, .ref 112), (1, .int x32)]) rfl ⟨rfl, rfl, trivial⟩ ?_
                    exact ih  hb K1 K2
                  · replace hb := i_neg c29 hb
                    refine e_sub (ls := [(0, .ref 112), (1, .int l1)]) rfl ⟨rfl, rfl, trivial⟩ ?_
                    obtain ⟨rfl, rfl, rfl⟩ := s_inj hb
                    exact K2 _ rfl
                · replace hb := i_neg c27 hb
                  refine e_k 3 (f' := (81, [(0, .ref 112), (1, .int l1)], [.int l1, .int 3, .ref 112])) rfl ?_
                  obtain ⟨v33, I33, J33, h33, hb⟩ := oc_call hb
                  refine r_cv (z := m_Model_refused) (As := [.int 3, .int l1]) (rest := []) rfl rfl rfl rfl rfl (x_ltn rfl) rfl rfl (E_Model_refused  h33 ⟨_, rfl, ?_⟩)
                  obtain ⟨o34, hb⟩ := ob_if hb
                  obtain ⟨rfl, rfl, rfl⟩ := s_inj hb
                  exact e_r rfl (if_pos o34) (K1 _ rfl)
theorem E_Model_isFlowGood {X : MX} {I : MI} {J : MJ} {v : Int32} {I' : MI} {J' : MJ} (hb : f_Model_isFlowGood  I J = some (v, I', J')) (K : P (.inl (some (.int v))) (hX X I' J')) : am_E (gG L xs) (d + 2) m_Model_isFlowGood (0, lv_args 0 [.ref 112], []) (hX X I J) P := by
  unfold f_Model_isFlowGood at hb
  refine e_k 2 (f' := (2, [(0, .ref 112)], [.long 0, .ref 112])) rfl ?_
  obtain ⟨J1, eJ1, hb⟩ := p_nm hb
  refine r_putl' rfl (x_ltn rfl) rfl rfl eJ1 ?_
  refine e_k 2 (f' := (7, [(0, .ref 112)], [.int 0, .ref 112])) rfl ?_
  obtain ⟨I2, eI2, hb⟩ := p_nm hb
  refine r_puti' rfl (x_ltn rfl) rfl rfl eI2 ?_
  refine e_k 2 (f' := (12, [(1, .int 0), (0, .ref 112)], [])) rfl ?_
  refine e_sub (ls := [(0, .ref 112), (1, .int 0)]) rfl ⟨rfl, rfl, trivial⟩ ?_
  obtain ⟨q35, I35, J35, h35, hb⟩ := oc_call hb
  refine E_Model_isFlowGood_12  gF  h35 (fun y35 ey35 => ?_) (fun u35 ey35 => ?_)
  · subst ey35
    replace hb := oe_l hb
    obtain ⟨rfl, rfl, rfl⟩ := s_inj hb
    exact K
  · subst ey35
    replace hb := oe_r hb
    refine e_k 3 (f' := (96, [(0, .ref 112), (1, .int u35)], [.int u35, .int 3, .ref 112])) rfl ?_
    obtain ⟨v36, I36, J36, h36, hb⟩ := oc_call hb
    refine r_cv (z := m_Model_refused) (As := [.int 3, .int u35]) (rest := []) rfl rfl rfl rfl rfl (x_ltn rfl) rfl rfl (E_Model_refused  h36 ⟨_, rfl, ?_⟩)
    obtain ⟨o37, hb⟩ := ob_if hb
    obtain ⟨rfl, rfl, rfl⟩ := s_inj hb
    exact e_r rfl (if_pos o37) K
set_option maxRecDepth 20000 in
theorem E_Model_deal {p2 : Int32} {p3 : Int32} {X : MX} {I : MI} {J : MJ} {v : Int32} {I' : MI} {J' : MJ} (hb : f_Model_deal p2 p3 I J = some (v, I', J')) (K : P (.inl (some (.int v))) (hX X I' J')) : am_E (gG L xs) (d + 1) m_Model_deal (0, lv_args 0 [.ref 112, .int p2, .int p3], []) (hX X I J) P := by
  unfold f_Model_deal at hb
  refine e_k 3 (f' := (if p2 < (-3) then 10 else 6, [(0, .ref 112), (1, .int p2), (2, .int p3)], [])) rfl ?_
  obtain ⟨v4, I4, J4, h4, hb⟩ := oc_call hb
  have Kj4 : am_E (gG L xs) (d + 1) m_Model_deal (46, [(0, .ref 112), (1, .int p2), (2, .int p3)], [.int v4]) (hX X I4 J4) P := by
    refine e_k 3 (f' := (if v4 = 0 then 64 else 51, [(3, .int v4), (0, .ref 112), (1, .int p2), (2, .int p3)], [])) rfl ?_
    refine e_if (fun c20 => ?_) (fun c20 => ?_)
    · replace hb := i_pos c20 hb
      refine e_k 2 (f' := (66, [(3, .int v4), (0, .ref 112), (1, .int p2), (2, .int p3)], [.int 1, .ref 112])) rfl ?_
      obtain ⟨v21, I21, J21, h21, hb⟩ := oc_call hb
      refine r_cv (z := m_Model_raise) (As := [.int 1]) (rest := []) rfl rfl rfl rfl rfl (x_ltn rfl) rfl rfl (E_Model_raise  h21 ⟨_, rfl, ?_⟩)
      obtain ⟨rfl, rfl, rfl⟩ := s_inj hb
      exact e_r rfl rfl K
    · replace hb := i_neg c20 hb
      refine e_k 2 (f' := (53, [(3, .int v4), (0, .ref 112), (1, .int p2), (2, .int p3)], [.int p2, .ref 112])) rfl ?_
      obtain ⟨v22, I22, J22, h22, hb⟩ := oc_call hb
      refine r_cv (z := m_Model_dealt) (As := [.int p2]) (rest := []) rfl rfl rfl rfl rfl (x_ltn rfl) rfl rfl (E_Model_dealt  h22 ⟨_, rfl, ?_⟩)
      refine e_k 4 (f' := (if (v22 + p3) ≤ 200 then 70 else 64, [(3, .int v4), (0, .ref 112), (1, .int p2), (2, .int p3)], [])) rfl ?_
      refine e_if (fun c23 => ?_) (fun c23 => ?_)
      · replace hb := i_pos c23 hb
        refine e_k 2 (f' := (72, [(3, .int v4), (0, .ref 112), (1, .int p2), (2, .int p3)], [.int 0, .ref 112])) rfl ?_
        obtain ⟨I24, eI24, hb⟩ := p_nm hb
        refine r_puti' rfl (x_ltn rfl) rfl rfl eI24 ?_
        refine e_k 2 (f' := (77, [(3, .int v4), (0, .ref 112), (1, .int p2), (2, .int p3)], [.ref 112, .ref 112])) rfl ?_
        refine r_geti rfl (x_ltn rfl) rfl rfl ?_
        refine e_k 2 (f' := (82, [(3, .int v4), (0, .ref 112), (1, .int p2), (2, .int p3)], [.int ((I24 112 30) + p3), .ref 112])) rfl ?_
        obtain ⟨I25, eI25, hb⟩ := p_nm hb
        refine r_puti' rfl (x_ltn rfl) rfl rfl eI25 ?_
        refine e_k 3 (f' := (if ¬ p2 = (-1) then 114 else 90, [(3, .int v4), (0, .ref 112), (1, .int p2), (2, .int p3)], [])) rfl ?_
        refine e_if (fun c26 => ?_) (fun c26 => ?_)
        · replace hb := i_pos c26 hb
          refine e_k 3 (f' := (if ¬ p2 = (-2) then 144 else 120, [(3, .int v4), (0, .ref 112), (1, .int p2), (2, .int p3)], [])) rfl ?_
          refine e_if (fun c27 => ?_) (fun c27 => ?_)
          · replace hb := i_pos c27 hb
            refine e_k 3 (f' := (if ¬ p2 = (-3) then 174 else 150, [(3, .int v4), (0, .ref 112), (1, .int p2), (2, .int p3)], [])) rfl ?_
            refine e_if (fun c28 => ?_) (fun c28 => ?_)
            · replace hb := i_pos c28 hb
              refine e_k 1 (f' := (175, [(3, .int v4), (0, .ref 112), (1, .int p2), (2, .int p3)], [.ref 112])) rfl ?_
              refine r_getr rfl (x_ltn rfl) rfl rfl ?_
              refine e_k 2 (f' := (180, [(3, .int v4), (0, .ref 112), (1, .int p2), (2, .int p3)], [.int p2, .ref 120, .int p2, .ref 120])) rfl ?_
              obtain ⟨o29, hb⟩ := ob_in hb
              refine r_iald rfl rfl (x_ltn rfl) rfl o29 ?_
              refine e_k 2 (f' := (183, [(3, .int v4), (0, .ref 112), (1, .int p2), (2, .int p3)], [.int ((I25 120 (Int32.toNatClampNeg p2)) + p3), .int p2, .ref 120])) rfl ?_
              obtain ⟨o30, hb⟩ := ob_in hb
              obtain ⟨I31, eI31, hb⟩ := p_nm hb
              refine r_iast' rfl (x_ltn rfl) rfl o30 eI31 ?_
              refine e_k 1 (f' := (185, [(3, .int v4), (0, .ref 112), (1, .int p2), (2, .int p3)], [.ref 112])) rfl ?_
              refine r_getr rfl (x_ltn rfl) rfl rfl ?_
              refine e_k 2 (f' := (190, [(3, .int v4), (0, .ref 112), (1, .int p2), (2, .int p3)], [.int p2, .ref 119, .int p2, .ref 119])) rfl ?_
              obtain ⟨o32, hb⟩ := ob_in hb
              refine r_iald rfl rfl (x_ltn rfl) rfl o32 ?_
              refine e_k 2 (f' := (193, [(3, .int v4), (0, .ref 112), (1, .int p2), (2, .int p3)], [.int ((I31 119 (Int32.toNatClampNeg p2)) + p3), .int p2, .ref 119])) rfl ?_
              obtain ⟨o33, hb⟩ := ob_in hb
              obtain ⟨I34, eI34, hb⟩ := p_nm hb
              refine r_iast' rfl (x_ltn rfl) rfl o33 eI34 ?_
              refine e_k 1 (f' := (195, [(3, .int v4), (0, .ref 112), (1, .int p2), (2, .int p3)], [.ref 112])) rfl ?_
              refine r_getr rfl (x_ltn rfl) rfl rfl ?_
              refine e_k 1 (f' := (199, [(3, .int v4), (0, .ref 112), (1, .int p2), (2, .int p3)], [.int p2, .ref 119])) rfl ?_
              obtain ⟨o35, hb⟩ := ob_in hb
              refine r_iald rfl rfl (x_ltn rfl) rfl o35 ?_
              obtain ⟨rfl, rfl, rfl⟩ := s_inj hb
              exact e_r rfl rfl K
            · replace hb := i_neg c28 hb
              refine e_k 2 (f' := (152, [(3, .int v4), (0, .ref 112), (1, .int p2), (2, .int p3)], [.ref 112, .ref 112])) rfl ?_
              refine r_geti rfl (x_ltn rfl) rfl rfl ?_
              refine e_k 2 (f' := (157, [(3, .int v4), (0, .ref 112), (1, .int p2), (2, .int p3)], [.int ((I25 112 28) + p3), .ref 112])) rfl ?_
              obtain ⟨I36, eI36, hb⟩ := p_nm hb
              refine r_puti' rfl (x_ltn rfl) rfl rfl eI36 ?_
              refine e_k 1 (f' := (161, [(3, .int v4), (0, .ref 112), (1, .int p2), (2, .int p3)], [.ref 112])) rfl ?_
              refine r_geti rfl (x_ltn rfl) rfl rfl ?_
              refine e_k 2 (f' := (166, [(3, .int v4), (0, .ref 112), (1, .int p2), (2, .int p3)], [.ref 112, .ref 112, .int (I36 112 28)])) rfl ?_
              refine r_getr rfl (x_ltn rfl) rfl rfl ?_
              obtain ⟨v37, I37, J37, h37, hb⟩ := oc_call hb
              refine r_cv (z := m_Model_least) (As := [.ref 123]) (rest := [.int (I36 112 28)]) rfl rfl rfl rfl rfl (x_ltn rfl) rfl rfl (E_Model_least ⟨(x_ltn rfl), rfl, rfl⟩ h37 ⟨_, rfl, ?_⟩)
              refine e_k 1 (f' := (173, [(3, .int v4), (0, .ref 112), (1, .int p2), (2, .int p3)], [.int ((I36 112 28) - v37)])) rfl ?_
              obtain ⟨rfl, rfl, rfl⟩ := s_inj hb
              exact e_r rfl rfl K
          · replace hb := i_neg c27 hb
            refine e_k 2 (f' := (122, [(3, .int v4), (0, .ref 112), (1, .int p2), (2, .int p3)], [.ref 112, .ref 112])) rfl ?_
            refine r_geti rfl (x_ltn rfl) rfl rfl ?_
            refine e_k 2 (f' := (127, [(3, .int v4), (0, .ref 112), (1, .int p2), (2, .int p3)], [.int ((I25 112 26) + p3), .ref 112])) rfl ?_
            obtain ⟨I38, eI38, hb⟩ := p_nm hb
            refine r_puti' rfl (x_ltn rfl) rfl rfl eI38 ?_
            refine e_k 1 (f' := (131, [(3, .int v4), (0, .ref 112), (1, .int p2), (2, .int p3)], [.ref 112])) rfl ?_
            refine r_geti rfl (x_ltn rfl) rfl rfl ?_
            refine e_k 2 (f' := (136, [(3, .int v4), (0, .ref 112), (1, .int p2), (2, .int p3)], [.ref 112, .ref 112, .int (I38 112 26)])) rfl ?_
            refine r_getr rfl (x_ltn rfl) rfl rfl ?_
            obtain ⟨v39, I39, J39, h39, hb⟩ := oc_call hb
            refine r_cv (z := m_Model_least) (As := [.ref 122]) (rest := [.int (I38 112 26)]) rfl rfl rfl rfl rfl (x_ltn rfl) rfl rfl (E_Model_least ⟨(x_ltn rfl), rfl, rfl⟩ h39 ⟨_, rfl, ?_⟩)
            refine e_k 1 (f' := (143, [(3, .int v4), (0, .ref 112), (1, .int p2), (2, .int p3)], [.int ((I38 112 26) - v39)])) rfl ?_
            obtain ⟨rfl, rfl, rfl⟩ := s_inj hb
            exact e_r rfl rfl K
        · replace hb := i_neg c26 hb
          refine e_k 2 (f' := (92, [(3, .int v4), (0, .ref 112), (1, .int p2), (2, .int p3)], [.ref 112, .ref 112])) rfl ?_
          refine r_geti rfl (x_ltn rfl) rfl rfl ?_
          refine e_k 2 (f' := (97, [(3, .int v4), (0, .ref 112), (1, .int p2), (2, .int p3)], [.int ((I25 112 24) + p3), .ref 112])) rfl ?_
          obtain ⟨I40, eI40, hb⟩ := p_nm hb
          refine r_puti' rfl (x_ltn rfl) rfl rfl eI40 ?_
          refine e_k 1 (f' := (101, [(3, .int v4), (0, .ref 112), (1, .int p2), (2, .int p3)], [.ref 112])) rfl ?_
          refine r_geti rfl (x_ltn rfl) rfl rfl ?_
          refine e_k 2 (f' := (106, [(3, .int v4), (0, .ref 112), (1, .int p2), (2, .int p3)], [.ref 112, .ref 112, .int (I40 112 24)])) rfl ?_
          refine r_getr rfl (x_ltn rfl) rfl rfl ?_
          obtain ⟨v41, I41, J41, h41, hb⟩ := oc_call hb
          refine r_cv (z := m_Model_least) (As := [.ref 121]) (rest := [.int (I40 112 24)]) rfl rfl rfl rfl rfl (x_ltn rfl) rfl rfl (E_Model_least ⟨(x_ltn rfl), rfl, rfl⟩ h41 ⟨_, rfl, ?_⟩)
          refine e_k 1 (f' := (113, [(3, .int v4), (0, .ref 112), (1, .int p2), (2, .int p3)], [.int ((I40 112 24) - v41)])) rfl ?_
          obtain ⟨rfl, rfl, rfl⟩ := s_inj hb
          exact e_r rfl rfl K
      · replace hb := i_neg c23 hb
        refine e_k 2 (f' := (66, [(3, .int v4), (0, .ref 112), (1, .int p2), (2, .int p3)], [.int 1, .ref 112])) rfl ?_
        obtain ⟨v42, I42, J42, h42, hb⟩ := oc_call hb
        refine r_cv (z := m_Model_raise) (As := [.int 1]) (rest := []) rfl rfl rfl rfl rfl (x_ltn rfl) rfl rfl (E_Model_raise  h42 ⟨_, rfl, ?_⟩)
        obtain ⟨rfl, rfl, rfl⟩ := s_inj hb
        exact e_r rfl rfl K
  clear hb
  refine e_if (fun c5 => ?_) (fun c5 => ?_)
  · replace h4 := i_pos c5 h4
    refine e_k 2 (f' := (12, [(0, .ref 112), (1, .int p2), (2, .int p3)], [.int p2, .ref 112])) rfl ?_
    obtain ⟨v6, I6, J6, h6, h4⟩ := oc_call h4
    refine r_cv (z := m_Model_isParty) (As := [.int p2]) (rest := []) rfl rfl rfl rfl rfl (x_ltn rfl) rfl rfl (E_Model_isParty  h6 ⟨_, rfl, ?_⟩)
    refine e_k 1 (f' := (if v6 = 0 then 45 else 18, [(0, .ref 112), (1, .int p2), (2, .int p3)], [])) rfl ?_
    refine e_if (fun c7 => ?_) (fun c7 => ?_)
    · replace h4 := i_pos c7 h4
      refine e_k 1 (f' := (46, [(0, .ref 112), (1, .int p2), (2, .int p3)], [.int 0])) rfl ?_
      refine e_sub (ls := [(0, .ref 112), (1, .int p2), (2, .int p3)]) rfl ⟨rfl, rfl, rfl, trivial⟩ ?_
      obtain ⟨rfl, rfl, rfl⟩ := s_inj h4
      exact Kj4
    · replace h4 := i_neg c7 h4
      refine e_k 2 (f' := (if p3 < 0 then 45 else 22, [(0, .ref 112), (1, .int p2), (2, .int p3)], [])) rfl ?_
      refine e_if (fun c8 => ?_) (fun c8 => ?_)
      · replace h4 := i_pos c8 h4
        refine e_k 1 (f' := (46, [(0, .ref 112), (1, .int p2), (2, .int p3)], [.int 0])) rfl ?_
        refine e_sub (ls := [(0, .ref 112), (1, .int p2), (2, .int p3)]) rfl ⟨rfl, rfl, rfl, trivial⟩ ?_
        obtain ⟨rfl, rfl, rfl⟩ := s_inj h4
        exact Kj4
      · replace h4 := i_neg c8 h4
        refine e_k 3 (f' := (if 200 < p3 then 45 else 29, [(0, .ref 112), (1, .int p2), (2, .int p3)], [])) rfl ?_
        refine e_if (fun c9 => ?_) (fun c9 => ?_)
        · replace h4 := i_pos c9 h4
          refine e_k 1 (f' := (46, [(0, .ref 112), (1, .int p2), (2, .int p3)], [.int 0])) rfl ?_
          refine e_sub (ls := [(0, .ref 112), (1, .int p2), (2, .int p3)]) rfl ⟨rfl, rfl, rfl, trivial⟩ ?_
          obtain ⟨rfl, rfl, rfl⟩ := s_inj h4
          exact Kj4
        · replace h4 := i_neg c9 h4
          refine e_k 1 (f' := (30, [(0, .ref 112), (1, .int p2), (2, .int p3)], [.ref 112])) rfl ?_
          refine r_geti rfl (x_ltn rfl) rfl rfl ?_
          refine e_k 4 (f' := (if 3000 < ((I6 112 30) + p3) then 45 else 41, [(0, .ref 112), (1, .int p2), (2, .int p3)], [])) rfl ?_
          refine e_if (fun c10 => ?_) (fun c10 => ?_)
          · replace h4 := i_pos c10 h4
            refine e_k 1 (f' := (46, [(0, .ref 112), (1, .int p2), (2, .int p3)], [.int 0])) rfl ?_
            refine e_sub (ls := [(0, .ref 112), (1, .int p2), (2, .int p3)]) rfl ⟨rfl, rfl, rfl, trivial⟩ ?_
            obtain ⟨rfl, rfl, rfl⟩ := s_inj h4
            exact Kj4
          · replace h4 := i_neg c10 h4
            refine e_k 2 (f' := (46, [(0, .ref 112), (1, .int p2), (2, .int p3)], [.int 1])) rfl ?_
            refine e_sub (ls := [(0, .ref 112), (1, .int p2), (2, .int p3)]) rfl ⟨rfl, rfl, rfl, trivial⟩ ?_
            obtain ⟨rfl, rfl, rfl⟩ := s_inj h4
            exact Kj4
  · replace h4 := i_neg c5 h4
    refine e_k 2 (f' := (if p2 < 0 then 18 else 10, [(0, .ref 112), (1, .int p2), (2, .int p3)], [])) rfl ?_
    refine e_if (fun c11 => ?_) (fun c11 => ?_)
    · replace h4 := i_pos c11 h4
      refine e_k 2 (f' := (if p3 < 0 then 45 else 22, [(0, .ref 112), (1, .int p2), (2, .int p3)], [])) rfl ?_
      refine e_if (fun c12 => ?_) (fun c12 => ?_)
      · replace h4 := i_pos c12 h4
        refine e_k 1 (f' := (46, [(0, .ref 112), (1, .int p2), (2, .int p3)], [.int 0])) rfl ?_
        refine e_sub (ls := [(0, .ref 112), (1, .int p2), (2, .int p3)]) rfl ⟨rfl, rfl, rfl, trivial⟩ ?_
        obtain ⟨rfl, rfl, rfl⟩ := s_inj h4
        exact Kj4
      · replace h4 := i_neg c12 h4
        refine e_k 3 (f' := (if 200 < p3 then 45 else 29, [(0, .ref 112), (1, .int p2), (2, .int p3)], [])) rfl ?_
        refine e_if (fun c13 => ?_) (fun c13 => ?_)
        · replace h4 := i_pos c13 h4
          refine e_k 1 (f' := (46, [(0, .ref 112), (1, .int p2), (2, .int p3)], [.int 0])) rfl ?_
          refine e_sub (ls := [(0, .ref 112), (1, .int p2), (2, .int p3)]) rfl ⟨rfl, rfl, rfl, trivial⟩ ?_
          obtain ⟨rfl, rfl, rfl⟩ := s_inj h4
          exact Kj4
        · replace h4 := i_neg c13 h4
          refine e_k 1 (f' := (30, [(0, .ref 112), (1, .int p2), (2, .int p3)], [.ref 112])) rfl ?_
          refine r_geti rfl (x_ltn rfl) rfl rfl ?_
          refine e_k 4 (f' := (if 3000 < ((I 112 30) + p3) then 45 else 41, [(0, .ref 112), (1, .int p2), (2, .int p3)], [])) rfl ?_
          refine e_if (fun c14 => ?_) (fun c14 => ?_)
          · replace h4 := i_pos c14 h4
            refine e_k 1 (f' := (46, [(0, .ref 112), (1, .int p2), (2, .int p3)], [.int 0])) rfl ?_
            refine e_sub (ls := [(0, .ref 112), (1, .int p2), (2, .int p3)]) rfl ⟨rfl, rfl, rfl, trivial⟩ ?_
            obtain ⟨rfl, rfl, rfl⟩ := s_inj h4
            exact Kj4
          · replace h4 := i_neg c14 h4
            refine e_k 2 (f' := (46, [(0, .ref 112), (1, .int p2), (2, .int p3)], [.int 1])) rfl ?_
            refine e_sub (ls := [(0, .ref 112), (1, .int p2), (2, .int p3)]) rfl ⟨rfl, rfl, rfl, trivial⟩ ?_
            obtain ⟨rfl, rfl, rfl⟩ := s_inj h4
            exact Kj4
    · replace h4 := i_neg c11 h4
      refine e_k 2 (f' := (12, [(0, .ref 112), (1, .int p2), (2, .int p3)], [.int p2, .ref 112])) rfl ?_
      obtain ⟨v15, I15, J15, h15, h4⟩ := oc_call h4
      refine r_cv (z := m_Model_isParty) (As := [.int p2]) (rest := []) rfl rfl rfl rfl rfl (x_ltn rfl) rfl rfl (E_Model_isParty  h15 ⟨_, rfl, ?_⟩)
      refine e_k 1 (f' := (if v15 = 0 then 45 else 18, [(0, .ref 112), (1, .int p2), (2, .int p3)], [])) rfl ?_
      refine e_if (fun c16 => ?_) (fun c16 => ?_)
      · replace h4 := i_pos c16 h4
        refine e_k 1 (f' := (46, [(0, .ref 112), (1, .int p2), (2, .int p3)], [.int 0])) rfl ?_
        refine e_sub (ls := [(0, .ref 112), (1, .int p2), (2, .int p3)]) rfl ⟨rfl, rfl, rfl, trivial⟩ ?_
        obtain ⟨rfl, rfl, rfl⟩ := s_inj h4
        exact Kj4
      · replace h4 := i_neg c16 h4
        refine e_k 2 (f' := (if p3 < 0 then 45 else 22, [(0, .ref 112), (1, .int p2), (2, .int p3)], [])) rfl ?_
        refine e_if (fun c17 => ?_) (fun c17 => ?_)
        · replace h4 := i_pos c17 h4
          refine e_k 1 (f' := (46, [(0, .ref 112), (1, .int p2), (2, .int p3)], [.int 0])) rfl ?_
          refine e_sub (ls := [(0, .ref 112), (1, .int p2), (2, .int p3)]) rfl ⟨rfl, rfl, rfl, trivial⟩ ?_
          obtain ⟨rfl, rfl, rfl⟩ := s_inj h4
          exact Kj4
        · replace h4 := i_neg c17 h4
          refine e_k 3 (f' := (if 200 < p3 then 45 else 29, [(0, .ref 112), (1, .int p2), (2, .int p3)], [])) rfl ?_
          refine e_if (fun c18 => ?_) (fun c18 => ?_)
          · replace h4 := i_pos c18 h4
            refine e_k 1 (f' := (46, [(0, .ref 112), (1, .int p2), (2, .int p3)], [.int 0])) rfl ?_
            refine e_sub (ls := [(0, .ref 112), (1, .int p2), (2, .int p3)]) rfl ⟨rfl, rfl, rfl, trivial⟩ ?_
            obtain ⟨rfl, rfl, rfl⟩ := s_inj h4
            exact Kj4
          · replace h4 := i_neg c18 h4
            refine e_k 1 (f' := (30, [(0, .ref 112), (1, .int p2), (2, .int p3)], [.ref 112])) rfl ?_
            refine r_geti rfl (x_ltn rfl) rfl rfl ?_
            refine e_k 4 (f' := (if 3000 < ((I15 112 30) + p3) then 45 else 41, [(0, .ref 112), (1, .int p2), (2, .int p3)], [])) rfl ?_
            refine e_if (fun c19 => ?_) (fun c19 => ?_)
            · replace h4 := i_pos c19 h4
              refine e_k 1 (f' := (46, [(0, .ref 112), (1, .int p2), (2, .int p3)], [.int 0])) rfl ?_
              refine e_sub (ls := [(0, .ref 112), (1, .int p2), (2, .int p3)]) rfl ⟨rfl, rfl, rfl, trivial⟩ ?_
              obtain ⟨rfl, rfl, rfl⟩ := s_inj h4
              exact Kj4
            · replace h4 := i_neg c19 h4
              refine e_k 2 (f' := (46, [(0, .ref 112), (1, .int p2), (2, .int p3)], [.int 1])) rfl ?_
              refine e_sub (ls := [(0, .ref 112), (1, .int p2), (2, .int p3)]) rfl ⟨rfl, rfl, rfl, trivial⟩ ?_
              obtain ⟨rfl, rfl, rfl⟩ := s_inj h4
              exact Kj4
end AUTO
