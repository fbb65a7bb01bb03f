section AUTO
variable {L : Nat} {xs : Nat → Int32} {d : Nat} {P : am_R → am_H → Prop}
theorem E_Model_readFactor_79 {R : M3} {X : MX} (hR_0 : ∀ {I : MI} {J : MJ} {v : Int32} {I' : MI} {J' : MJ} {P : am_R → am_H → Prop}, R 0 0 0 I J = some (v, I', J') → P (.inl (some (.int v))) (hX X I' J') → am_E (gG L xs) (d + 1) m_Model_readX (0, lv_args 0 [.ref 112], []) (hX X I J) P) (hR_1 : ∀ {I : MI} {J : MJ} {v : Int32} {I' : MI} {J' : MJ} {P : am_R → am_H → Prop}, R 1 0 0 I J = some (v, I', J') → P (.inl (some (.int v))) (hX X I' J') → am_E (gG L xs) (d + 1) m_Model_readProduct (0, lv_args 0 [.ref 112], []) (hX X I J) P) (hR_2 : ∀ {I : MI} {J : MJ} {v : Int32} {I' : MI} {J' : MJ} {P : am_R → am_H → Prop}, R 2 0 0 I J = some (v, I', J') → P (.inl (some (.int v))) (hX X I' J') → am_E (gG L xs) (d + 1) m_Model_readFactor (0, lv_args 0 [.ref 112], []) (hX X I J) P) (hR_3 : ∀ {I : MI} {J : MJ} {v : Int32} {I' : MI} {J' : MJ} {P : am_R → am_H → Prop}, R 3 0 0 I J = some (v, I', J') → P (.inl (some (.int v))) (hX X I' J') → am_E (gG L xs) (d + 1) m_Model_readPart (0, lv_args 0 [.ref 112], []) (hX X I J) P) (hR_4 : ∀ {I : MI} {J : MJ} {v : Int32} {I' : MI} {J' : MJ} {P : am_R → am_H → Prop}, R 4 0 0 I J = some (v, I', J') → P (.inl (some (.int v))) (hX X I' J') → am_E (gG L xs) (d + 1) m_Model_readPlace (0, lv_args 0 [.ref 112], []) (hX X I J) P) (hR_5 : ∀ {I : MI} {J : MJ} {v : Int32} {I' : MI} {J' : MJ} {P : am_R → am_H → Prop}, R 5 0 0 I J = some (v, I', J') → P (.inl (some (.int v))) (hX X I' J') → am_E (gG L xs) (d + 1) m_Model_readStatements (0, lv_args 0 [.ref 112], []) (hX X I J) P) (hR_6 : ∀ {I : MI} {J : MJ} {v : Int32} {I' : MI} {J' : MJ} {P : am_R → am_H → Prop}, R 6 0 0 I J = some (v, I', J') → P (.inl (some (.int v))) (hX X I' J') → am_E (gG L xs) (d + 1) m_Model_readStatement (0, lv_args 0 [.ref 112], []) (hX X I J) P) (hR_7 : ∀ {I : MI} {J : MJ} {v : Int32} {I' : MI} {J' : MJ} {P : am_R → am_H → Prop}, R 7 0 0 I J = some (v, I', J') → P (.inl (some (.int v))) (hX X I' J') → am_E (gG L xs) (d + 1) m_Model_readRoutine (0, lv_args 0 [.ref 112], []) (hX X I J) P) (hR_8 : ∀ {a0 : Int32} {a1 : Int32} {I : MI} {J : MJ} {v : Int32} {I' : MI} {J' : MJ} {P : am_R → am_H → Prop}, R 8 a0 a1 I J = some (v, I', J') → P (.inl (some (.int v))) (hX X I' J') → am_E (gG L xs) (d + 1) m_Model_readValue (0, lv_args 0 [.ref 112, .int a0, .int a1], []) (hX X I J) P) (hR_9 : ∀ {a0 : Int32} {I : MI} {J : MJ} {v : Int32} {I' : MI} {J' : MJ} {P : am_R → am_H → Prop}, R 9 a0 0 I J = some (v, I', J') → P (.inl (some (.int v))) (hX X I' J') → am_E (gG L xs) (d + 1) m_Model_readRow (0, lv_args 0 [.ref 112, .int a0], []) (hX X I J) P) (hR_10 : ∀ {a0 : Int32} {I : MI} {J : MJ} {v : Int32} {I' : MI} {J' : MJ} {P : am_R → am_H → Prop}, R 10 a0 0 I J = some (v, I', J') → P (.inl (some (.int v))) (hX X I' J') → am_E (gG L xs) (d + 1) m_Model_readTurn (0, lv_args 0 [.ref 112, .int a0], []) (hX X I J) P) : ∀ (fu : Nat) {I : MI} {J : MJ} {r : (Unit)} {I' : MI} {J' : MJ}, f_Model_readFactor_79 R  fu  I J = some (r, I', J') → am_E (gG L xs) (d + 2) m_Model_readFactor (109, [], []) (hX X I' J') P → am_E (gG L xs) (d + 2) m_Model_readFactor (79, [(0, .ref 112)], []) (hX X I J) P := by
  intro fu
  induction fu with
  | zero =>
    intros
    rename_i hb _
    cases hb
  | succ fu ih =>
    intro I J r I' J' hb K
    unfold f_Model_readFactor_79 at hb
    refine e_k 2 (f' := (82, [(0, .ref 112)], [.int 94, .ref 112])) rfl ?_
    obtain ⟨v5, I5, J5, h5, hb⟩ := oc_call hb
    refine r_cv (z := m_Model_takes) (As := [.int 94]) (rest := []) rfl rfl rfl rfl rfl (x_ltn rfl) rfl rfl (E_Model_takes  h5 ⟨_, rfl, ?_⟩)
    refine e_k 1 (f' := (if v5 = 0 then 109 else 88, [(0, .ref 112)], [])) rfl ?_
    refine e_if (fun c6 => ?_) (fun c6 => ?_)
    · replace hb := i_pos c6 hb
      refine e_sub (ls := []) rfl ⟨⟩ ?_
      obtain ⟨rfl, rfl, rfl⟩ := s_inj hb
      exact K
    · replace hb := i_neg c6 hb
      refine e_k 2 (f' := (90, [(0, .ref 112)], [.ref 112, .ref 112])) rfl ?_
      refine r_geti rfl (x_ltn rfl) rfl rfl ?_
      refine e_k 1 (f' := (if (I5 112 73) = 0 then 101 else 96, [(0, .ref 112)], [.ref 112])) rfl ?_
      refine e_if (fun c7 => ?_) (fun c7 => ?_)
      · replace hb := i_pos c7 hb
        refine e_k 1 (f' := (103, [(0, .ref 112)], [.int 9, .ref 112])) rfl ?_
        obtain ⟨v8, I8, J8, h8, hb⟩ := oc_call hb
        refine r_cv (z := m_Model_lay_IV) (As := [.int 9]) (rest := []) rfl rfl rfl rfl rfl (x_ltn rfl) rfl rfl (E_Model_lay_IV  h8 ⟨_, rfl, ?_⟩)
        refine e_k 1 (f' := (79, [(0, .ref 112)], [])) rfl ?_
        refine e_sub (ls := [(0, .ref 112)]) rfl ⟨rfl, trivial⟩ ?_
        exact ih  hb K
      · replace hb := i_neg c7 hb
        refine e_k 2 (f' := (103, [(0, .ref 112)], [.int 10, .ref 112])) rfl ?_
        obtain ⟨v9, I9, J9, h9, hb⟩ := oc_call hb
        refine r_cv (z := m_Model_lay_IV) (As := [.int 10]) (rest := []) rfl rfl rfl rfl rfl (x_ltn rfl) rfl rfl (E_Model_lay_IV  h9 ⟨_, rfl, ?_⟩)
        refine e_k 1 (f' := (79, [(0, .ref 112)], [])) rfl ?_
        refine e_sub (ls := [(0, .ref 112)]) rfl ⟨rfl, trivial⟩ ?_
        exact ih  hb K
theorem E_Model_readFactor {R : M3} {X : MX} {I : MI} {J : MJ} {v : Int32} {I' : MI} {J' : MJ} (hR_0 : ∀ {I : MI} {J : MJ} {v : Int32} {I' : MI} {J' : MJ} {P : am_R → am_H → Prop}, R 0 0 0 I J = some (v, I', J') → P (.inl (some (.int v))) (hX X I' J') → am_E (gG L xs) (d + 1) m_Model_readX (0, lv_args 0 [.ref 112], []) (hX X I J) P) (hR_1 : ∀ {I : MI} {J : MJ} {v : Int32} {I' : MI} {J' : MJ} {P : am_R → am_H → Prop}, R 1 0 0 I J = some (v, I', J') → P (.inl (some (.int v))) (hX X I' J') → am_E (gG L xs) (d + 1) m_Model_readProduct (0, lv_args 0 [.ref 112], []) (hX X I J) P) (hR_2 : ∀ {I : MI} {J : MJ} {v : Int32} {I' : MI} {J' : MJ} {P : am_R → am_H → Prop}, R 2 0 0 I J = some (v, I', J') → P (.inl (some (.int v))) (hX X I' J') → am_E (gG L xs) (d + 1) m_Model_readFactor (0, lv_args 0 [.ref 112], []) (hX X I J) P) (hR_3 : ∀ {I : MI} {J : MJ} {v : Int32} {I' : MI} {J' : MJ} {P : am_R → am_H → Prop}, R 3 0 0 I J = some (v, I', J') → P (.inl (some (.int v))) (hX X I' J') → am_E (gG L xs) (d + 1) m_Model_readPart (0, lv_args 0 [.ref 112], []) (hX X I J) P) (hR_4 : ∀ {I : MI} {J : MJ} {v : Int32} {I' : MI} {J' : MJ} {P : am_R → am_H → Prop}, R 4 0 0 I J = some (v, I', J') → P (.inl (some (.int v))) (hX X I' J') → am_E (gG L xs) (d + 1) m_Model_readPlace (0, lv_args 0 [.ref 112], []) (hX X I J) P) (hR_5 : ∀ {I : MI} {J : MJ} {v : Int32} {I' : MI} {J' : MJ} {P : am_R → am_H → Prop}, R 5 0 0 I J = some (v, I', J') → P (.inl (some (.int v))) (hX X I' J') → am_E (gG L xs) (d + 1) m_Model_readStatements (0, lv_args 0 [.ref 112], []) (hX X I J) P) (hR_6 : ∀ {I : MI} {J : MJ} {v : Int32} {I' : MI} {J' : MJ} {P : am_R → am_H → Prop}, R 6 0 0 I J = some (v, I', J') → P (.inl (some (.int v))) (hX X I' J') → am_E (gG L xs) (d + 1) m_Model_readStatement (0, lv_args 0 [.ref 112], []) (hX X I J) P) (hR_7 : ∀ {I : MI} {J : MJ} {v : Int32} {I' : MI} {J' : MJ} {P : am_R → am_H → Prop}, R 7 0 0 I J = some (v, I', J') → P (.inl (some (.int v))) (hX X I' J') → am_E (gG L xs) (d + 1) m_Model_readRoutine (0, lv_args 0 [.ref 112], []) (hX X I J) P) (hR_8 : ∀ {a0 : Int32} {a1 : Int32} {I : MI} {J : MJ} {v : Int32} {I' : MI} {J' : MJ} {P : am_R → am_H → Prop}, R 8 a0 a1 I J = some (v, I', J') → P (.inl (some (.int v))) (hX X I' J') → am_E (gG L xs) (d + 1) m_Model_readValue (0, lv_args 0 [.ref 112, .int a0, .int a1], []) (hX X I J) P) (hR_9 : ∀ {a0 : Int32} {I : MI} {J : MJ} {v : Int32} {I' : MI} {J' : MJ} {P : am_R → am_H → Prop}, R 9 a0 0 I J = some (v, I', J') → P (.inl (some (.int v))) (hX X I' J') → am_E (gG L xs) (d + 1) m_Model_readRow (0, lv_args 0 [.ref 112, .int a0], []) (hX X I J) P) (hR_10 : ∀ {a0 : Int32} {I : MI} {J : MJ} {v : Int32} {I' : MI} {J' : MJ} {P : am_R → am_H → Prop}, R 10 a0 0 I J = some (v, I', J') → P (.inl (some (.int v))) (hX X I' J') → am_E (gG L xs) (d + 1) m_Model_readTurn (0, lv_args 0 [.ref 112, .int a0], []) (hX X I J) P) (hb : f_Model_readFactor R  I J = some (v, I', J')) (K : P (.inl (some (.int v))) (hX X I' J')) : am_E (gG L xs) (d + 2) m_Model_readFactor (0, lv_args 0 [.ref 112], []) (hX X I J) P := by
  unfold f_Model_readFactor at hb
  refine e_k 1 (f' := (1, [(0, .ref 112)], [.ref 112])) rfl ?_
  obtain ⟨v1, I1, J1, h1, hb⟩ := oc_call hb
  refine r_cv (z := m_Model_see) (As := []) (rest := []) rfl rfl rfl rfl rfl (x_ltn rfl) rfl rfl (E_Model_see  h1 ⟨_, rfl, ?_⟩)
  refine e_k 2 (f' := (if ¬ v1 = 45 then 70 else 9, [(0, .ref 112)], [])) rfl ?_
  refine e_if (fun c2 => ?_) (fun c2 => ?_)
  · replace hb := i_pos c2 hb
    refine e_k 1 (f' := (71, [(0, .ref 112)], [.ref 112])) rfl ?_
    obtain ⟨v3, I3, J3, h3, hb⟩ := oc_call hb
    refine r_cv (z := m_Model_readPart) (As := []) (rest := []) rfl rfl rfl rfl rfl (x_ltn rfl) rfl rfl (hR_3  h3 ⟨_, rfl, ?_⟩)
    refine e_k 1 (f' := (if ¬ v3 = 0 then 79 else 77, [(0, .ref 112)], [])) rfl ?_
    refine e_if (fun c4 => ?_) (fun c4 => ?_)
    · replace hb := i_pos c4 hb
      refine e_sub (ls := [(0, .ref 112)]) rfl ⟨rfl, trivial⟩ ?_
      obtain ⟨u10, I10, J10, h10, hb⟩ := oc_call hb
      refine E_Model_readFactor_79 hR_0 hR_1 hR_2 hR_3 hR_4 hR_5 hR_6 hR_7 hR_8 hR_9 hR_10 gF  h10 ?_
      refine e_k 1 (f' := (110, [], [.int 1])) rfl ?_
      obtain ⟨rfl, rfl, rfl⟩ := s_inj hb
      exact e_r rfl rfl K
    · replace hb := i_neg c4 hb
      refine e_k 1 (f' := (78, [(0, .ref 112)], [.int 0])) rfl ?_
      obtain ⟨rfl, rfl, rfl⟩ := s_inj hb
      exact e_r rfl rfl K
  · replace hb := i_neg c2 hb
    refine e_k 1 (f' := (10, [(0, .ref 112)], [.ref 112])) rfl ?_
    refine r_geti rfl (x_ltn rfl) rfl rfl ?_
    refine e_k 2 (f' := (if (I1 112 15) < 20 then 23 else 18, [(0, .ref 112)], [])) rfl ?_
    refine e_if (fun c11 => ?_) (fun c11 => ?_)
    · replace hb := i_pos c11 hb
      refine e_k 2 (f' := (25, [(0, .ref 112)], [.ref 112, .ref 112])) rfl ?_
      refine r_geti rfl (x_ltn rfl) rfl rfl ?_
      refine e_k 2 (f' := (30, [(0, .ref 112)], [.int ((I1 112 5) + 1), .ref 112])) rfl ?_
      obtain ⟨I12, eI12, hb⟩ := p_nm hb
      refine r_puti' rfl (x_ltn rfl) rfl rfl eI12 ?_
      refine e_k 2 (f' := (35, [(0, .ref 112)], [.ref 112, .ref 112])) rfl ?_
      refine r_geti rfl (x_ltn rfl) rfl rfl ?_
      refine e_k 2 (f' := (40, [(0, .ref 112)], [.int ((I12 112 15) + 1), .ref 112])) rfl ?_
      obtain ⟨I13, eI13, hb⟩ := p_nm hb
      refine r_puti' rfl (x_ltn rfl) rfl rfl eI13 ?_
      refine e_k 1 (f' := (44, [(0, .ref 112)], [.ref 112])) rfl ?_
      obtain ⟨v14, I14, J14, h14, hb⟩ := oc_call hb
      refine r_cv (z := m_Model_readFactor) (As := []) (rest := []) rfl rfl rfl rfl rfl (x_ltn rfl) rfl rfl (hR_2  h14 ⟨_, rfl, ?_⟩)
      refine e_k 3 (f' := (50, [(1, .int v14), (0, .ref 112)], [.ref 112, .ref 112])) rfl ?_
      refine r_geti rfl (x_ltn rfl) rfl rfl ?_
      refine e_k 2 (f' := (55, [(1, .int v14), (0, .ref 112)], [.int ((I14 112 15) - 1), .ref 112])) rfl ?_
      obtain ⟨I15, eI15, hb⟩ := p_nm hb
      refine r_puti' rfl (x_ltn rfl) rfl rfl eI15 ?_
      refine e_k 2 (f' := (if v14 = 0 then 68 else 62, [(1, .int v14), (0, .ref 112)], [])) rfl ?_
      refine e_if (fun c16 => ?_) (fun c16 => ?_)
      · replace hb := i_pos c16 hb
        refine e_k 1 (f' := (69, [(1, .int v14), (0, .ref 112)], [.int v14])) rfl ?_
        obtain ⟨o17, hb⟩ := ob_if hb
        obtain ⟨rfl, rfl, rfl⟩ := s_inj hb
        exact e_r rfl (if_pos o17) K
      · replace hb := i_neg c16 hb
        refine e_k 2 (f' := (65, [(1, .int v14), (0, .ref 112)], [.int 8, .ref 112])) rfl ?_
        obtain ⟨v18, I18, J18, h18, hb⟩ := oc_call hb
        refine r_cv (z := m_Model_lay_IV) (As := [.int 8]) (rest := []) rfl rfl rfl rfl rfl (x_ltn rfl) rfl rfl (E_Model_lay_IV  h18 ⟨_, rfl, ?_⟩)
        refine e_k 1 (f' := (69, [(1, .int v14), (0, .ref 112)], [.int v14])) rfl ?_
        obtain ⟨o19, hb⟩ := ob_if hb
        obtain ⟨rfl, rfl, rfl⟩ := s_inj hb
        exact e_r rfl (if_pos o19) K
    · replace hb := i_neg c11 hb
      refine e_k 1 (f' := (19, [(0, .ref 112)], [.ref 112])) rfl ?_
      obtain ⟨v20, I20, J20, h20, hb⟩ := oc_call hb
      refine r_cv (z := m_Model_refuse) (As := []) (rest := []) rfl rfl rfl rfl rfl (x_ltn rfl) rfl rfl (E_Model_refuse  h20 ⟨_, rfl, ?_⟩)
      obtain ⟨o21, hb⟩ := ob_if hb
      obtain ⟨rfl, rfl, rfl⟩ := s_inj hb
      exact e_r rfl (if_pos o21) K
theorem E_Model_readPlace {R : M3} {X : MX} {I : MI} {J : MJ} {v : Int32} {I' : MI} {J' : MJ} (hR_0 : ∀ {I : MI} {J : MJ} {v : Int32} {I' : MI} {J' : MJ} {P : am_R → am_H → Prop}, R 0 0 0 I J = some (v, I', J') → P (.inl (some (.int v))) (hX X I' J') → am_E (gG L xs) (d + 2) m_Model_readX (0, lv_args 0 [.ref 112], []) (hX X I J) P) (hR_1 : ∀ {I : MI} {J : MJ} {v : Int32} {I' : MI} {J' : MJ} {P : am_R → am_H → Prop}, R 1 0 0 I J = some (v, I', J') → P (.inl (some (.int v))) (hX X I' J') → am_E (gG L xs) (d + 2) m_Model_readProduct (0, lv_args 0 [.ref 112], []) (hX X I J) P) (hR_2 : ∀ {I : MI} {J : MJ} {v : Int32} {I' : MI} {J' : MJ} {P : am_R → am_H → Prop}, R 2 0 0 I J = some (v, I', J') → P (.inl (some (.int v))) (hX X I' J') → am_E (gG L xs) (d + 2) m_Model_readFactor (0, lv_args 0 [.ref 112], []) (hX X I J) P) (hR_3 : ∀ {I : MI} {J : MJ} {v : Int32} {I' : MI} {J' : MJ} {P : am_R → am_H → Prop}, R 3 0 0 I J = some (v, I', J') → P (.inl (some (.int v))) (hX X I' J') → am_E (gG L xs) (d + 2) m_Model_readPart (0, lv_args 0 [.ref 112], []) (hX X I J) P) (hR_4 : ∀ {I : MI} {J : MJ} {v : Int32} {I' : MI} {J' : MJ} {P : am_R → am_H → Prop}, R 4 0 0 I J = some (v, I', J') → P (.inl (some (.int v))) (hX X I' J') → am_E (gG L xs) (d + 2) m_Model_readPlace (0, lv_args 0 [.ref 112], []) (hX X I J) P) (hR_5 : ∀ {I : MI} {J : MJ} {v : Int32} {I' : MI} {J' : MJ} {P : am_R → am_H → Prop}, R 5 0 0 I J = some (v, I', J') → P (.inl (some (.int v))) (hX X I' J') → am_E (gG L xs) (d + 2) m_Model_readStatements (0, lv_args 0 [.ref 112], []) (hX X I J) P) (hR_6 : ∀ {I : MI} {J : MJ} {v : Int32} {I' : MI} {J' : MJ} {P : am_R → am_H → Prop}, R 6 0 0 I J = some (v, I', J') → P (.inl (some (.int v))) (hX X I' J') → am_E (gG L xs) (d + 2) m_Model_readStatement (0, lv_args 0 [.ref 112], []) (hX X I J) P) (hR_7 : ∀ {I : MI} {J : MJ} {v : Int32} {I' : MI} {J' : MJ} {P : am_R → am_H → Prop}, R 7 0 0 I J = some (v, I', J') → P (.inl (some (.int v))) (hX X I' J') → am_E (gG L xs) (d + 2) m_Model_readRoutine (0, lv_args 0 [.ref 112], []) (hX X I J) P) (hR_8 : ∀ {a0 : Int32} {a1 : Int32} {I : MI} {J : MJ} {v : Int32} {I' : MI} {J' : MJ} {P : am_R → am_H → Prop}, R 8 a0 a1 I J = some (v, I', J') → P (.inl (some (.int v))) (hX X I' J') → am_E (gG L xs) (d + 2) m_Model_readValue (0, lv_args 0 [.ref 112, .int a0, .int a1], []) (hX X I J) P) (hR_9 : ∀ {a0 : Int32} {I : MI} {J : MJ} {v : Int32} {I' : MI} {J' : MJ} {P : am_R → am_H → Prop}, R 9 a0 0 I J = some (v, I', J') → P (.inl (some (.int v))) (hX X I' J') → am_E (gG L xs) (d + 2) m_Model_readRow (0, lv_args 0 [.ref 112, .int a0], []) (hX X I J) P) (hR_10 : ∀ {a0 : Int32} {I : MI} {J : MJ} {v : Int32} {I' : MI} {J' : MJ} {P : am_R → am_H → Prop}, R 10 a0 0 I J = some (v, I', J') → P (.inl (some (.int v))) (hX X I' J') → am_E (gG L xs) (d + 2) m_Model_readTurn (0, lv_args 0 [.ref 112, .int a0], []) (hX X I J) P) (hb : f_Model_readPlace R  I J = some (v, I', J')) (K : P (.inl (some (.int v))) (hX X I' J')) : am_E (gG L xs) (d + 3) m_Model_readPlace (0, lv_args 0 [.ref 112], []) (hX X I J) P := by
  unfold f_Model_readPlace at hb
  refine e_k 1 (f' := (1, [(0, .ref 112)], [.ref 112])) rfl ?_
  obtain ⟨v1, I1, J1, h1, hb⟩ := oc_call hb
  refine r_cv (z := m_Model_see) (As := []) (rest := []) rfl rfl rfl rfl rfl (x_ltn rfl) rfl rfl (E_Model_see  h1 ⟨_, rfl, ?_⟩)
  refine e_k 2 (f' := (6, [(0, .ref 112)], [.ref 112])) rfl ?_
  refine r_geti rfl (x_ltn rfl) rfl rfl ?_
  refine e_k 1 (f' := (10, [(1, .int (I1 112 5)), (0, .ref 112)], [])) rfl ?_
  obtain ⟨x2, ex2, hb⟩ := p_nm hb
  rw [← ex2]
  refine e_k 1 (f' := (11, [(1, .int x2), (0, .ref 112)], [.ref 112])) rfl ?_
  obtain ⟨v3, I3, J3, h3, hb⟩ := oc_call hb
  refine r_cv (z := m_Model_see) (As := []) (rest := []) rfl rfl rfl rfl rfl (x_ltn rfl) rfl rfl (E_Model_see  h3 ⟨_, rfl, ?_⟩)
  refine e_k 2 (f' := (if ¬ v3 = 91 then 33 else 19, [(1, .int x2), (0, .ref 112)], [])) rfl ?_
  refine e_if (fun c4 => ?_) (fun c4 => ?_)
  · replace hb := i_pos c4 hb
    refine e_k 2 (f' := (36, [(1, .int x2), (0, .ref 112)], [.int 91, .ref 112])) rfl ?_
    obtain ⟨v5, I5, J5, h5, hb⟩ := oc_call hb
    refine r_cv (z := m_Model_want) (As := [.int 91]) (rest := []) rfl rfl rfl rfl rfl (x_ltn rfl) rfl rfl (E_Model_want  h5 ⟨_, rfl, ?_⟩)
    refine e_k 1 (f' := (if ¬ v5 = 0 then 44 else 42, [(1, .int x2), (0, .ref 112)], [])) rfl ?_
    refine e_if (fun c6 => ?_) (fun c6 => ?_)
    · replace hb := i_pos c6 hb
      refine e_k 2 (f' := (46, [(1, .int x2), (0, .ref 112)], [.ref 112, .ref 112])) rfl ?_
      refine r_geti rfl (x_ltn rfl) rfl rfl ?_
      refine e_k 2 (f' := (51, [(1, .int x2), (0, .ref 112)], [.int ((I5 112 15) + 1), .ref 112])) rfl ?_
      obtain ⟨I7, eI7, hb⟩ := p_nm hb
      refine r_puti' rfl (x_ltn rfl) rfl rfl eI7 ?_
      refine e_k 1 (f' := (55, [(1, .int x2), (0, .ref 112)], [.ref 112])) rfl ?_
      obtain ⟨v8, I8, J8, h8, hb⟩ := oc_call hb
      refine r_cv (z := m_Model_readX) (As := []) (rest := []) rfl rfl rfl rfl rfl (x_ltn rfl) rfl rfl (hR_0  h8 ⟨_, rfl, ?_⟩)
      refine e_k 3 (f' := (if v8 = 0 then 76 else 63, [(2, .int v8), (1, .int x2), (0, .ref 112)], [])) rfl ?_
      obtain ⟨v10, I10, J10, h10, hb⟩ := oc_call hb
      have Kj10 : am_E (gG L xs) (d + 3) m_Model_readPlace (76, [(0, .ref 112), (2, .int v8)], []) (hX X I10 J10) P := by
        refine e_k 2 (f' := (if v8 = 0 then 93 else 80, [(0, .ref 112), (2, .int v8)], [])) rfl ?_
        obtain ⟨v15, I15, J15, h15, hb⟩ := oc_call hb
        have Kj15 : am_E (gG L xs) (d + 3) m_Model_readPlace (94, [(0, .ref 112)], [.int v15]) (hX X I15 J15) P := by
          refine e_k 3 (f' := (97, [(2, .int v15), (0, .ref 112)], [.ref 112, .ref 112])) rfl ?_
          refine r_geti rfl (x_ltn rfl) rfl rfl ?_
          refine e_k 2 (f' := (102, [(2, .int v15), (0, .ref 112)], [.int ((I15 112 15) - 1), .ref 112])) rfl ?_
          obtain ⟨I19, eI19, hb⟩ := p_nm hb
          refine r_puti' rfl (x_ltn rfl) rfl rfl eI19 ?_
          refine e_k 1 (f' := (106, [(2, .int v15), (0, .ref 112)], [.int v15])) rfl ?_
          obtain ⟨o20, hb⟩ := ob_if hb
          obtain ⟨rfl, rfl, rfl⟩ := s_inj hb
          exact e_r rfl (if_pos o20) K
        clear hb
        refine e_if (fun c16 => ?_) (fun c16 => ?_)
        · replace h15 := i_pos c16 h15
          refine e_k 1 (f' := (94, [(0, .ref 112), (2, .int v8)], [.int 0])) rfl ?_
          refine e_sub (ls := [(0, .ref 112)]) rfl ⟨rfl, trivial⟩ ?_
          obtain ⟨rfl, rfl, rfl⟩ := s_inj h15
          exact Kj15
        · replace h15 := i_neg c16 h15
          refine e_k 2 (f' := (83, [(0, .ref 112), (2, .int v8)], [.int 93, .ref 112])) rfl ?_
          obtain ⟨v17, I17, J17, h17, h15⟩ := oc_call h15
          refine r_cv (z := m_Model_want) (As := [.int 93]) (rest := []) rfl rfl rfl rfl rfl (x_ltn rfl) rfl rfl (E_Model_want  h17 ⟨_, rfl, ?_⟩)
          refine e_k 1 (f' := (if v17 = 0 then 93 else 89, [(0, .ref 112), (2, .int v8)], [])) rfl ?_
          refine e_if (fun c18 => ?_) (fun c18 => ?_)
          · replace h15 := i_pos c18 h15
            refine e_k 1 (f' := (94, [(0, .ref 112), (2, .int v8)], [.int 0])) rfl ?_
            refine e_sub (ls := [(0, .ref 112)]) rfl ⟨rfl, trivial⟩ ?_
            obtain ⟨rfl, rfl, rfl⟩ := s_inj h15
            exact Kj15
          · replace h15 := i_neg c18 h15
            refine e_k 2 (f' := (94, [(0, .ref 112), (2, .int v8)], [.int 1])) rfl ?_
            refine e_sub (ls := [(0, .ref 112)]) rfl ⟨rfl, trivial⟩ ?_
            obtain ⟨rfl, rfl, rfl⟩ := s_inj h15
            exact Kj15
      clear hb
      refine e_if (fun c11 => ?_) (fun c11 => ?_)
      · replace h10 := i_pos c11 h10
        refine e_sub (ls := [(0, .ref 112), (2, .int v8)]) rfl ⟨rfl, rfl, trivial⟩ ?_
        obtain ⟨rfl, rfl, rfl⟩ := s_inj h10
        exact Kj10
      · replace h10 := i_neg c11 h10
        refine e_k 1 (f' := (64, [(2, .int v8), (1, .int x2), (0, .ref 112)], [.ref 112])) rfl ?_
        refine r_geti rfl (x_ltn rfl) rfl rfl ?_
        refine e_k 1 (f' := (if (I8 112 73) = 0 then 76 else 70, [(2, .int v8), (1, .int x2), (0, .ref 112)], [])) rfl ?_
        refine e_if (fun c12 => ?_) (fun c12 => ?_)
        · replace h10 := i_pos c12 h10
          refine e_sub (ls := [(0, .ref 112), (2, .int v8)]) rfl ⟨rfl, rfl, trivial⟩ ?_
          obtain ⟨rfl, rfl, rfl⟩ := s_inj h10
          exact Kj10
        · replace h10 := i_neg c12 h10
          refine e_k 3 (f' := (73, [(2, .int v8), (1, .int x2), (0, .ref 112)], [.int x2, .int 3, .ref 112])) rfl ?_
          obtain ⟨v13, I13, J13, h13, h10⟩ := oc_call h10
          refine r_cv (z := m_Model_note) (As := [.int 3, .int x2]) (rest := []) rfl rfl rfl rfl rfl (x_ltn rfl) rfl rfl (E_Model_note  h13 ⟨_, rfl, ?_⟩)
          refine e_sub (ls := [(0, .ref 112), (2, .int v8)]) rfl ⟨rfl, rfl, trivial⟩ ?_
          obtain ⟨rfl, rfl, rfl⟩ := s_inj h10
          exact Kj10
    · replace hb := i_neg c6 hb
      refine e_k 1 (f' := (43, [(1, .int x2), (0, .ref 112)], [.int 0])) rfl ?_
      obtain ⟨rfl, rfl, rfl⟩ := s_inj hb
      exact e_r rfl rfl K
  · replace hb := i_neg c4 hb
    refine e_k 1 (f' := (20, [(1, .int x2), (0, .ref 112)], [.ref 112])) rfl ?_
    refine r_geti rfl (x_ltn rfl) rfl rfl ?_
    refine e_k 2 (f' := (if (I3 112 15) < 20 then 33 else 28, [(1, .int x2), (0, .ref 112)], [])) rfl ?_
    refine e_if (fun c21 => ?_) (fun c21 => ?_)
    · replace hb := i_pos c21 hb
      refine e_k 2 (f' := (36, [(1, .int x2), (0, .ref 112)], [.int 91, .ref 112])) rfl ?_
      obtain ⟨v22, I22, J22, h22, hb⟩ := oc_call hb
      refine r_cv (z := m_Model_want) (As := [.int 91]) (rest := []) rfl rfl rfl rfl rfl (x_ltn rfl) rfl rfl (E_Model_want  h22 ⟨_, rfl, ?_⟩)
      refine e_k 1 (f' := (if ¬ v22 = 0 then 44 else 42, [(1, .int x2), (0, .ref 112)], [])) rfl ?_
      refine e_if (fun c23 => ?_) (fun c23 => ?_)
      · replace hb := i_pos c23 hb
        refine e_k 2 (f' := (46, [(1, .int x2), (0, .ref 112)], [.ref 112, .ref 112])) rfl ?_
        refine r_geti rfl (x_ltn rfl) rfl rfl ?_
        refine e_k 2 (f' := (51, [(1, .int x2), (0, .ref 112)], [.int ((I22 112 15) + 1), .ref 112])) rfl ?_
        obtain ⟨I24, eI24, hb⟩ := p_nm hb
        refine r_puti' rfl (x_ltn rfl) rfl rfl eI24 ?_
        refine e_k 1 (f' := (55, [(1, .int x2), (0, .ref 112)], [.ref 112])) rfl ?_
        obtain ⟨v25, I25, J25, h25, hb⟩ := oc_call hb
        refine r_cv (z := m_Model_readX) (As := []) (rest := []) rfl rfl rfl rfl rfl (x_ltn rfl) rfl rfl (hR_0  h25 ⟨_, rfl, ?_⟩)
        refine e_k 3 (f' := (if v25 = 0 then 76 else 63, [(2, .int v25), (1, .int x2), (0, .ref 112)], [])) rfl ?_
        obtain ⟨v27, I27, J27, h27, hb⟩ := oc_call hb
        have Kj27 : am_E (gG L xs) (d + 3) m_Model_readPlace (76, [(0, .ref 112), (2, .int v25)], []) (hX X I27 J27) P := by
          refine e_k 2 (f' := (if v25 = 0 then 93 else 80, [(0, .ref 112), (2, .int v25)], [])) rfl ?_
          obtain ⟨v32, I32, J32, h32, hb⟩ := oc_call hb
          have Kj32 : am_E (gG L xs) (d + 3) m_Model_readPlace (94, [(0, .ref 112)], [.int v32]) (hX X I32 J32) P := by
            refine e_k 3 (f' := (97, [(2, .int v32), (0, .ref 112)], [.ref 112, .ref 112])) rfl ?_
            refine r_geti rfl (x_ltn rfl) rfl rfl ?_
            refine e_k 2 (f' := (102, [(2, .int v32), (0, .ref 112)], [.int ((I32 112 15) - 1), .ref 112])) rfl ?_
            obtain ⟨I36, eI36, hb⟩ := p_nm hb
            refine r_puti' rfl (x_ltn rfl) rfl rfl eI36 ?_
            refine e_k 1 (f' := (106, [(2, .int v32), (0, .ref 112)], [.int v32])) rfl ?_
            obtain ⟨o37, hb⟩ := ob_if hb
            obtain ⟨rfl, rfl, rfl⟩ := s_inj hb
            exact e_r rfl (if_pos o37) K
          clear hb
          refine e_if (fun c33 => ?_) (fun c33 => ?_)
          · replace h32 := i_pos c33 h32
            refine e_k 1 (f' := (94, [(0, .ref 112), (2, .int v25)], [.int 0])) rfl ?_
            refine e_sub (ls := [(0, .ref 112)]) rfl ⟨rfl, trivial⟩ ?_
            obtain ⟨rfl, rfl, rfl⟩ := s_inj h32
            exact Kj32
          · replace h32 := i_neg c33 h32
            refine e_k 2 (f' := (83, [(0, .ref 112), (2, .int v25)], [.int 93, .ref 112])) rfl ?_
            obtain ⟨v34, I34, J34, h34, h32⟩ := oc_call h32
            refine r_cv (z := m_Model_want) (As := [.int 93]) (rest := []) rfl rfl rfl rfl rfl (x_ltn rfl) rfl rfl (E_Model_want  h34 ⟨_, rfl, ?_⟩)
            refine e_k 1 (f' := (if v34 = 0 then 93 else 89, [(0, .ref 112), (2, .int v25)], [])) rfl ?_
            refine e_if (fun c35 => ?_) (fun c35 => ?_)
            · replace h32 := i_pos c35 h32
              refine e_k 1 (f' := (94, [(0, .ref 112), (2, .int v25)], [.int 0])) rfl ?_
              refine e_sub (ls := [(0, .ref 112)]) rfl ⟨rfl, trivial⟩ ?_
              obtain ⟨rfl, rfl, rfl⟩ := s_inj h32
              exact Kj32
            · replace h32 := i_neg c35 h32
              refine e_k 2 (f' := (94, [(0, .ref 112), (2, .int v25)], [.int 1])) rfl ?_
              refine e_sub (ls := [(0, .ref 112)]) rfl ⟨rfl, trivial⟩ ?_
              obtain ⟨rfl, rfl, rfl⟩ := s_inj h32
              exact Kj32
        clear hb
        refine e_if (fun c28 => ?_) (fun c28 => ?_)
        · replace h27 := i_pos c28 h27
          refine e_sub (ls := [(0, .ref 112), (2, .int v25)]) rfl ⟨rfl, rfl, trivial⟩ ?_
          obtain ⟨rfl, rfl, rfl⟩ := s_inj h27
          exact Kj27
        · replace h27 := i_neg c28 h27
          refine e_k 1 (f' := (64, [(2, .int v25), (1, .int x2), (0, .ref 112)], [.ref 112])) rfl ?_
          refine r_geti rfl (x_ltn rfl) rfl rfl ?_
          refine e_k 1 (f' := (if (I25 112 73) = 0 then 76 else 70, [(2, .int v25), (1, .int x2), (0, .ref 112)], [])) rfl ?_
          refine e_if (fun c29 => ?_) (fun c29 => ?_)
          · replace h27 := i_pos c29 h27
            refine e_sub (ls := [(0, .ref 112), (2, .int v25)]) rfl ⟨rfl, rfl, trivial⟩ ?_
            obtain ⟨rfl, rfl, rfl⟩ := s_inj h27
            exact Kj27
          · replace h27 := i_neg c29 h27
            refine e_k 3 (f' := (73, [(2, .int v25), (1, .int x2), (0, .ref 112)], [.int x2, .int 3, .ref 112])) rfl ?_
            obtain ⟨v30, I30, J30, h30, h27⟩ := oc_call h27
            refine r_cv (z := m_Model_note) (As := [.int 3, .int x2]) (rest := []) rfl rfl rfl rfl rfl (x_ltn rfl) rfl rfl (E_Model_note  h30 ⟨_, rfl, ?_⟩)
            refine e_sub (ls := [(0, .ref 112), (2, .int v25)]) rfl ⟨rfl, rfl, trivial⟩ ?_
            obtain ⟨rfl, rfl, rfl⟩ := s_inj h27
            exact Kj27
      · replace hb := i_neg c23 hb
        refine e_k 1 (f' := (43, [(1, .int x2), (0, .ref 112)], [.int 0])) rfl ?_
        obtain ⟨rfl, rfl, rfl⟩ := s_inj hb
        exact e_r rfl rfl K
    · replace hb := i_neg c21 hb
      refine e_k 1 (f' := (29, [(1, .int x2), (0, .ref 112)], [.ref 112])) rfl ?_
      obtain ⟨v38, I38, J38, h38, hb⟩ := oc_call hb
      refine r_cv (z := m_Model_refuse) (As := []) (rest := []) rfl rfl rfl rfl rfl (x_ltn rfl) rfl rfl (E_Model_refuse  h38 ⟨_, rfl, ?_⟩)
      obtain ⟨o39, hb⟩ := ob_if hb
      obtain ⟨rfl, rfl, rfl⟩ := s_inj hb
      exact e_r rfl (if_pos o39) K
theorem E_Model_readNumber_4 {X : MX} : ∀ (fu : Nat) {l1 : Int64} {l3 : Int32} {I : MI} {J : MJ} {r : (Int32 ⊕ (Int64))} {I' : MI} {J' : MJ}, f_Model_readNumber_4  fu l1 l3 I J = some (r, I', J') → (∀ v, r = .inl v → P (.inl (some (.int v))) (hX X I' J')) → (∀ u, r = .inr u → am_E (gG L xs) d m_Model_readNumber (101, [(0, .ref 112), (1, .long u)], []) (hX X I' J') P) → am_E (gG L xs) d m_Model_readNumber (4, [(0, .ref 112), (1, .long l1), (3, .int l3)], []) (hX X I J) P := by
  intro fu
  induction fu with
  | zero =>
    intros
    rename_i hb _ _
    cases hb
  | succ fu ih =>
    intro l1 l3 I J r I' J' hb K1 K2
    unfold f_Model_readNumber_4 at hb
    refine e_k 1 (f' := (5, [(0, .ref 112), (1, .long l1), (3, .int l3)], [.ref 112])) rfl ?_
    refine r_geti rfl (x_ltn rfl) rfl rfl ?_
    refine e_k 1 (f' := (9, [(0, .ref 112), (1, .long l1), (3, .int l3)], [.ref 112, .int (I 112 5)])) rfl ?_
    refine r_geti rfl (x_ltn rfl) rfl rfl ?_
    refine e_k 1 (f' := (if (I 112 2) ≤ (I 112 5) then 101 else 15, [(0, .ref 112), (1, .long l1), (3, .int l3)], [])) rfl ?_
    refine e_if (fun c1 => ?_) (fun c1 => ?_)
    · replace hb := i_pos c1 hb
      refine e_sub (ls := [(0, .ref 112), (1, .long l1)]) rfl ⟨rfl, rfl, trivial⟩ ?_
      obtain ⟨rfl, rfl, rfl⟩ := s_inj hb
      exact K2 _ rfl
    · replace hb := i_neg c1 hb
      refine e_k 1 (f' := (16, [(0, .ref 112), (1, .long l1), (3, .int l3)], [.ref 112])) rfl ?_
      refine r_getr rfl (x_ltn rfl) rfl rfl ?_
      refine e_k 1 (f' := (20, [(0, .ref 112), (1, .long l1), (3, .int l3)], [.ref 112, .ref 113])) rfl ?_
      refine r_geti rfl (x_ltn rfl) rfl rfl ?_
      obtain ⟨o2, hb⟩ := ob_in hb
      refine r_iald rfl rfl (x_ltn rfl) rfl o2 ?_
      refine e_k 2 (f' := (if (I 113 (Int32.toNatClampNeg (I 112 5))) < 48 then 101 else 29, [(0, .ref 112), (1, .long l1), (3, .int l3)], [])) rfl ?_
      refine e_if (fun c3 => ?_) (fun c3 => ?_)
      · replace hb := i_pos c3 hb
        refine e_sub (ls := [(0, .ref 112), (1, .long l1)]) rfl ⟨rfl, rfl, trivial⟩ ?_
        obtain ⟨rfl, rfl, rfl⟩ := s_inj hb
        exact K2 _ rfl
      · replace hb := i_neg c3 hb
        refine e_k 1 (f' := (30, [(0, .ref 112), (1, .long l1), (3, .int l3)], [.ref 112])) rfl ?_
        refine r_getr rfl (x_ltn rfl) rfl rfl ?_
        refine e_k 1 (f' := (34, [(0, .ref 112), (1, .long l1), (3, .int l3)], [.ref 112, .ref 113])) rfl ?_
        refine r_geti rfl (x_ltn rfl) rfl rfl ?_
        obtain ⟨o4, hb⟩ := ob_in hb
        refine r_iald rfl rfl (x_ltn rfl) rfl o4 ?_
        refine e_k 2 (f' := (if 57 < (I 113 (Int32.toNatClampNeg (I 112 5))) then 101 else 43, [(0, .ref 112), (1, .long l1), (3, .int l3)], [])) rfl ?_
        refine e_if (fun c5 => ?_) (fun c5 => ?_)
        · replace hb := i_pos c5 hb
          refine e_sub (ls := [(0, .ref 112), (1, .long l1)]) rfl ⟨rfl, rfl, trivial⟩ ?_
          obtain ⟨rfl, rfl, rfl⟩ := s_inj hb
          exact K2 _ rfl
        · replace hb := i_neg c5 hb
          refine e_k 3 (f' := (if ¬ l3 = 18 then 64 else 49, [(0, .ref 112), (1, .long l1), (3, .int l3)], [])) rfl ?_
          refine e_if (fun c6 => ?_) (fun c6 => ?_)
          · replace hb := i_pos c6 hb
            refine e_k 4 (f' := (70, [(0, .ref 112), (1, .long l1), (3, .int l3)], [.ref 112, .long (10 * l1)])) rfl ?_
            refine r_getr rfl (x_ltn rfl) rfl rfl ?_
            refine e_k 1 (f' := (74, [(0, .ref 112), (1, .long l1), (3, .int l3)], [.ref 112, .ref 113, .long (10 * l1)])) rfl ?_
            refine r_geti rfl (x_ltn rfl) rfl rfl ?_
            obtain ⟨o7, hb⟩ := ob_in hb
            refine r_iald rfl rfl (x_ltn rfl) rfl o7 ?_
            refine e_k 5 (f' := (85, [(1, .long (((10 * l1) + (Int32.toInt64 (I 113 (Int32.toNatClampNeg (I 112 5))))) - 48)), (0, .ref 112), (3, .int l3)], [])) rfl ?_
            obtain ⟨x8, ex8, hb⟩ := p_nm hb
            rw [← ex8]
            refine e_k 2 (f' := (87, [(1, .long x8), (0, .ref 112), (3, .int l3)], [.ref 112, .ref 112])) rfl ?_
            refine r_geti rfl (x_ltn rfl) rfl rfl ?_
            refine e_k 2 (f' := (92, [(1, .long x8), (0, .ref 112), (3, .int l3)], [.int ((I 112 5) + 1), .ref 112])) rfl ?_
            obtain ⟨I9, eI9, hb⟩ := p_nm hb
            refine r_puti' rfl (x_ltn rfl) rfl rfl eI9 ?_
            refine e_k 2 (f' := (4, [(3, .int (l3 + 1)), (1, .long x8), (0, .ref 112)], [])) rfl ?_
            refine e_sub (ls := [(0, .ref 112), (1, .long x8), (3, .int (l3 + 1))]) rfl ⟨rfl, rfl, rfl, trivial⟩ ?_
            exact ih  hb K1 K2
          · replace hb := i_neg c6 hb
            refine e_k 2 (f' := (51, [(0, .ref 112), (1, .long l1), (3, .int l3)], [.int 1, .ref 112])) rfl ?_
            obtain ⟨I10, eI10, hb⟩ := p_nm hb
            refine r_puti' rfl (x_ltn rfl) rfl rfl eI10 ?_
            refine e_k 2 (f' := (56, [(0, .ref 112), (1, .long l1), (3, .int l3)], [.ref 112, .ref 112])) rfl ?_
            refine r_geti rfl (x_ltn rfl) rfl rfl ?_
            obtain ⟨I11, eI11, hb⟩ := p_nm hb
            refine r_puti' rfl (x_ltn rfl) rfl rfl eI11 ?_
            refine e_k 1 (f' := (63, [(0, .ref 112), (1, .long l1), (3, .int l3)], [.int 0])) rfl ?_
            obtain ⟨rfl, rfl, rfl⟩ := s_inj hb
            exact e_r rfl rfl (K1 _ rfl)
theorem E_Model_readNumber_110 {X : MX} : ∀ (fu : Nat) {l1 : Int64} {l4 : Int32} {I : MI} {J : MJ} {r : (Unit)} {I' : MI} {J' : MJ}, f_Model_readNumber_110  fu l1 l4 I J = some (r, I', J') → am_E (gG L xs) (d + 1) m_Model_readNumber (137, [], []) (hX X I' J') P → am_E (gG L xs) (d + 1) m_Model_readNumber (110, [(0, .ref 112), (1, .long l1), (4, .int l4)], []) (hX X I J) P := by
  intro fu
  induction fu with
  | zero =>
    intros
    rename_i hb _
    cases hb
  | succ fu ih =>
    intro l1 l4 I J r I' J' hb K
    unfold f_Model_readNumber_110 at hb
    refine e_k 2 (f' := (if l4 < 0 then 137 else 115, [(0, .ref 112), (1, .long l1), (4, .int l4)], [])) rfl ?_
    refine e_if (fun c14 => ?_) (fun c14 => ?_)
    · replace hb := i_pos c14 hb
      refine e_sub (ls := []) rfl ⟨⟩ ?_
      obtain ⟨rfl, rfl, rfl⟩ := s_inj hb
      exact K
    · replace hb := i_neg c14 hb
      refine e_k 9 (f' := (128, [(0, .ref 112), (1, .long l1), (4, .int l4)], [.int (Int64.toInt32 ((l1 >>> ((Int32.toInt64 (8 * l4)) &&& 63)) &&& 255)), .ref 112])) rfl ?_
      obtain ⟨v15, I15, J15, h15, hb⟩ := oc_call hb
      refine r_cv (z := m_Model_lay_IV) (As := [.int (Int64.toInt32 ((l1 >>> ((Int32.toInt64 (8 * l4)) &&& 63)) &&& 255))]) (rest := []) rfl rfl rfl rfl rfl (x_ltn rfl) rfl rfl (E_Model_lay_IV  h15 ⟨_, rfl, ?_⟩)
      refine e_k 2 (f' := (110, [(4, .int (l4 + (-1))), (0, .ref 112), (1, .long l1)], [])) rfl ?_
      refine e_sub (ls := [(0, .ref 112), (1, .long l1), (4, .int (l4 + (-1)))]) rfl ⟨rfl, rfl, rfl, trivial⟩ ?_
      exact ih  hb K
theorem E_Model_readNumber {X : MX} {I : MI} {J : MJ} {v : Int32} {I' : MI} {J' : MJ} (hb : f_Model_readNumber  I J = some (v, I', J')) (K : P (.inl (some (.int v))) (hX X I' J')) : am_E (gG L xs) (d + 1) m_Model_readNumber (0, lv_args 0 [.ref 112], []) (hX X I J) P := by
  unfold f_Model_readNumber at hb
  refine e_k 4 (f' := (4, [(3, .int 0), (1, .long 0), (0, .ref 112)], [])) rfl ?_
  refine e_sub (ls := [(0, .ref 112), (1, .long 0), (3, .int 0)]) rfl ⟨rfl, rfl, rfl, trivial⟩ ?_
  obtain ⟨q12, I12, J12, h12, hb⟩ := oc_call hb
  refine E_Model_readNumber_4  gF  h12 (fun y12 ey12 => ?_) (fun u12 ey12 => ?_)
  · subst ey12
    replace hb := oe_l hb
    obtain ⟨rfl, rfl, rfl⟩ := s_inj hb
    exact K
  · subst ey12
    replace hb := oe_r hb
    refine e_k 2 (f' := (103, [(0, .ref 112), (1, .long u12)], [.int 1, .ref 112])) rfl ?_
    obtain ⟨v13, I13, J13, h13, hb⟩ := oc_call hb
    refine r_cv (z := m_Model_lay_IV) (As := [.int 1]) (rest := []) rfl rfl rfl rfl rfl (x_ltn rfl) rfl rfl (E_Model_lay_IV  h13 ⟨_, rfl, ?_⟩)
    refine e_k 2 (f' := (110, [(4, .int 7), (0, .ref 112), (1, .long u12)], [])) rfl ?_
    refine e_sub (ls := [(0, .ref 112), (1, .long u12), (4, .int 7)]) rfl ⟨rfl, rfl, rfl, trivial⟩ ?_
    obtain ⟨u16, I16, J16, h16, hb⟩ := oc_call hb
    refine E_Model_readNumber_110  gF  h16 ?_
    refine e_k 1 (f' := (138, [], [.int 1])) rfl ?_
    obtain ⟨rfl, rfl, rfl⟩ := s_inj hb
    exact e_r rfl rfl K
theorem E_Model_readStatements_0 {R : M3} {X : MX} (hR_0 : ∀ {I : MI} {J : MJ} {v : Int32} {I' : MI} {J' : MJ} {P : am_R → am_H → Prop}, R 0 0 0 I J = some (v, I', J') → P (.inl (some (.int v))) (hX X I' J') → am_E (gG L xs) d m_Model_readX (0, lv_args 0 [.ref 112], []) (hX X I J) P) (hR_1 : ∀ {I : MI} {J : MJ} {v : Int32} {I' : MI} {J' : MJ} {P : am_R → am_H → Prop}, R 1 0 0 I J = some (v, I', J') → P (.inl (some (.int v))) (hX X I' J') → am_E (gG L xs) d m_Model_readProduct (0, lv_args 0 [.ref 112], []) (hX X I J) P) (hR_2 : ∀ {I : MI} {J : MJ} {v : Int32} {I' : MI} {J' : MJ} {P : am_R → am_H → Prop}, R 2 0 0 I J = some (v, I', J') → P (.inl (some (.int v))) (hX X I' J') → am_E (gG L xs) d m_Model_readFactor (0, lv_args 0 [.ref 112], []) (hX X I J) P) (hR_3 : ∀ {I : MI} {J : MJ} {v : Int32} {I' : MI} {J' : MJ} {P : am_R → am_H → Prop}, R 3 0 0 I J = some (v, I', J') → P (.inl (some (.int v))) (hX X I' J') → am_E (gG L xs) d m_Model_readPart (0, lv_args 0 [.ref 112], []) (hX X I J) P) (hR_4 : ∀ {I : MI} {J : MJ} {v : Int32} {I' : MI} {J' : MJ} {P : am_R → am_H → Prop}, R 4 0 0 I J = some (v, I', J') → P (.inl (some (.int v))) (hX X I' J') → am_E (gG L xs) d m_Model_readPlace (0, lv_args 0 [.ref 112], []) (hX X I J) P) (hR_5 : ∀ {I : MI} {J : MJ} {v : Int32} {I' : MI} {J' : MJ} {P : am_R → am_H → Prop}, R 5 0 0 I J = some (v, I', J') → P (.inl (some (.int v))) (hX X I' J') → am_E (gG L xs) d m_Model_readStatements (0, lv_args 0 [.ref 112], []) (hX X I J) P) (hR_6 : ∀ {I : MI} {J : MJ} {v : Int32} {I' : MI} {J' : MJ} {P : am_R → am_H → Prop}, R 6 0 0 I J = some (v, I', J') → P (.inl (some (.int v))) (hX X I' J') → am_E (gG L xs) d m_Model_readStatement (0, lv_args 0 [.ref 112], []) (hX X I J) P) (hR_7 : ∀ {I : MI} {J : MJ} {v : Int32} {I' : MI} {J' : MJ} {P : am_R → am_H → Prop}, R 7 0 0 I J = some (v, I', J') → P (.inl (some (.int v))) (hX X I' J') → am_E (gG L xs) d m_Model_readRoutine (0, lv_args 0 [.ref 112], []) (hX X I J) P) (hR_8 : ∀ {a0 : Int32} {a1 : Int32} {I : MI} {J : MJ} {v : Int32} {I' : MI} {J' : MJ} {P : am_R → am_H → Prop}, R 8 a0 a1 I J = some (v, I', J') → P (.inl (some (.int v))) (hX X I' J') → am_E (gG L xs) d m_Model_readValue (0, lv_args 0 [.ref 112, .int a0, .int a1], []) (hX X I J) P) (hR_9 : ∀ {a0 : Int32} {I : MI} {J : MJ} {v : Int32} {I' : MI} {J' : MJ} {P : am_R → am_H → Prop}, R 9 a0 0 I J = some (v, I', J') → P (.inl (some (.int v))) (hX X I' J') → am_E (gG L xs) d m_Model_readRow (0, lv_args 0 [.ref 112, .int a0], []) (hX X I J) P) (hR_10 : ∀ {a0 : Int32} {I : MI} {J : MJ} {v : Int32} {I' : MI} {J' : MJ} {P : am_R → am_H → Prop}, R 10 a0 0 I J = some (v, I', J') → P (.inl (some (.int v))) (hX X I' J') → am_E (gG L xs) d m_Model_readTurn (0, lv_args 0 [.ref 112, .int a0], []) (hX X I J) P) : ∀ (fu : Nat) {I : MI} {J : MJ} {r : (Int32 ⊕ (Unit))} {I' : MI} {J' : MJ}, f_Model_readStatements_0 R  fu  I J = some (r, I', J') → (∀ v, r = .inl v → P (.inl (some (.int v))) (hX X I' J')) → (∀ u, r = .inr u → am_E (gG L xs) (d + 1) m_Model_readStatements (34, [], []) (hX X I' J') P) → am_E (gG L xs) (d + 1) m_Model_readStatements (0, [(0, .ref 112)], []) (hX X I J) P := by
  intro fu
  induction fu with
  | zero =>
    intros
    rename_i hb _ _
    cases hb
  | succ fu ih =>
    intro I J r I' J' hb K1 K2
    unfold f_Model_readStatements_0 at hb
    refine e_k 1 (f' := (1, [(0, .ref 112)], [.ref 112])) rfl ?_
    obtain ⟨v1, I1, J1, h1, hb⟩ := oc_call hb
    refine r_cv (z := m_Model_see) (As := []) (rest := []) rfl rfl rfl rfl rfl (x_ltn rfl) rfl rfl (E_Model_see  h1 ⟨_, rfl, ?_⟩)
    refine e_k 1 (f' := (if v1 = 0 then 34 else 7, [(0, .ref 112)], [])) rfl ?_
    refine e_if (fun c2 => ?_) (fun c2 => ?_)
    · replace hb := i_pos c2 hb
      refine e_sub (ls := []) rfl ⟨⟩ ?_
      obtain ⟨rfl, rfl, rfl⟩ := s_inj hb
      exact K2 _ rfl
    · replace hb := i_neg c2 hb
      refine e_k 1 (f' := (8, [(0, .ref 112)], [.ref 112])) rfl ?_
      obtain ⟨v3, I3, J3, h3, hb⟩ := oc_call hb
      refine r_cv (z := m_Model_see) (As := []) (rest := []) rfl rfl rfl rfl rfl (x_ltn rfl) rfl rfl (E_Model_see  h3 ⟨_, rfl, ?_⟩)
      refine e_k 2 (f' := (if v3 = 124 then 34 else 16, [(0, .ref 112)], [])) rfl ?_
      refine e_if (fun c4 => ?_) (fun c4 => ?_)
      · replace hb := i_pos c4 hb
        refine e_sub (ls := []) rfl ⟨⟩ ?_
        obtain ⟨rfl, rfl, rfl⟩ := s_inj hb
        exact K2 _ rfl
      · replace hb := i_neg c4 hb
        refine e_k 1 (f' := (17, [(0, .ref 112)], [.ref 112])) rfl ?_
        obtain ⟨v5, I5, J5, h5, hb⟩ := oc_call hb
        refine r_cv (z := m_Model_see) (As := []) (rest := []) rfl rfl rfl rfl rfl (x_ltn rfl) rfl rfl (E_Model_see  h5 ⟨_, rfl, ?_⟩)
        refine e_k 2 (f' := (if v5 = 93 then 34 else 25, [(0, .ref 112)], [])) rfl ?_
        refine e_if (fun c6 => ?_) (fun c6 => ?_)
        · replace hb := i_pos c6 hb
          refine e_sub (ls := []) rfl ⟨⟩ ?_
          obtain ⟨rfl, rfl, rfl⟩ := s_inj hb
          exact K2 _ rfl
        · replace hb := i_neg c6 hb
          refine e_k 1 (f' := (26, [(0, .ref 112)], [.ref 112])) rfl ?_
          obtain ⟨v7, I7, J7, h7, hb⟩ := oc_call hb
          refine r_cv (z := m_Model_readStatement) (As := []) (rest := []) rfl rfl rfl rfl rfl (x_ltn rfl) rfl rfl (hR_6  h7 ⟨_, rfl, ?_⟩)
          refine e_k 1 (f' := (if ¬ v7 = 0 then 0 else 32, [(0, .ref 112)], [])) rfl ?_
          refine e_if (fun c8 => ?_) (fun c8 => ?_)
          · replace hb := i_pos c8 hb
            refine e_sub (ls := [(0, .ref 112)]) rfl ⟨rfl, trivial⟩ ?_
            exact ih  hb K1 K2
          · replace hb := i_neg c8 hb
            refine e_k 1 (f' := (33, [(0, .ref 112)], [.int 0])) rfl ?_
            obtain ⟨rfl, rfl, rfl⟩ := s_inj hb
            exact e_r rfl rfl (K1 _ rfl)
theorem E_Model_readStatements {R : M3} {X : MX} {I : MI} {J : MJ} {v : Int32} {I' : MI} {J' : MJ} (hR_0 : ∀ {I : MI} {J : MJ} {v : Int32} {I' : MI} {J' : MJ} {P : am_R → am_H → Prop}, R 0 0 0 I J = some (v, I', J') → P (.inl (some (.int v))) (hX X I' J') → am_E (gG L xs) d m_Model_readX (0, lv_args 0 [.ref 112], []) (hX X I J) P) (hR_1 : ∀ {I : MI} {J : MJ} {v : Int32} {I' : MI} {J' : MJ} {P : am_R → am_H → Prop}, R 1 0 0 I J = some (v, I', J') → P (.inl (some (.int v))) (hX X I' J') → am_E (gG L xs) d m_Model_readProduct (0, lv_args 0 [.ref 112], []) (hX X I J) P) (hR_2 : ∀ {I : MI} {J : MJ} {v : Int32} {I' : MI} {J' : MJ} {P : am_R → am_H → Prop}, R 2 0 0 I J = some (v, I', J') → P (.inl (some (.int v))) (hX X I' J') → am_E (gG L xs) d m_Model_readFactor (0, lv_args 0 [.ref 112], []) (hX X I J) P) (hR_3 : ∀ {I : MI} {J : MJ} {v : Int32} {I' : MI} {J' : MJ} {P : am_R → am_H → Prop}, R 3 0 0 I J = some (v, I', J') → P (.inl (some (.int v))) (hX X I' J') → am_E (gG L xs) d m_Model_readPart (0, lv_args 0 [.ref 112], []) (hX X I J) P) (hR_4 : ∀ {I : MI} {J : MJ} {v : Int32} {I' : MI} {J' : MJ} {P : am_R → am_H → Prop}, R 4 0 0 I J = some (v, I', J') → P (.inl (some (.int v))) (hX X I' J') → am_E (gG L xs) d m_Model_readPlace (0, lv_args 0 [.ref 112], []) (hX X I J) P) (hR_5 : ∀ {I : MI} {J : MJ} {v : Int32} {I' : MI} {J' : MJ} {P : am_R → am_H → Prop}, R 5 0 0 I J = some (v, I', J') → P (.inl (some (.int v))) (hX X I' J') → am_E (gG L xs) d m_Model_readStatements (0, lv_args 0 [.ref 112], []) (hX X I J) P) (hR_6 : ∀ {I : MI} {J : MJ} {v : Int32} {I' : MI} {J' : MJ} {P : am_R → am_H → Prop}, R 6 0 0 I J = some (v, I', J') → P (.inl (some (.int v))) (hX X I' J') → am_E (gG L xs) d m_Model_readStatement (0, lv_args 0 [.ref 112], []) (hX X I J) P) (hR_7 : ∀ {I : MI} {J : MJ} {v : Int32} {I' : MI} {J' : MJ} {P : am_R → am_H → Prop}, R 7 0 0 I J = some (v, I', J') → P (.inl (some (.int v))) (hX X I' J') → am_E (gG L xs) d m_Model_readRoutine (0, lv_args 0 [.ref 112], []) (hX X I J) P) (hR_8 : ∀ {a0 : Int32} {a1 : Int32} {I : MI} {J : MJ} {v : Int32} {I' : MI} {J' : MJ} {P : am_R → am_H → Prop}, R 8 a0 a1 I J = some (v, I', J') → P (.inl (some (.int v))) (hX X I' J') → am_E (gG L xs) d m_Model_readValue (0, lv_args 0 [.ref 112, .int a0, .int a1], []) (hX X I J) P) (hR_9 : ∀ {a0 : Int32} {I : MI} {J : MJ} {v : Int32} {I' : MI} {J' : MJ} {P : am_R → am_H → Prop}, R 9 a0 0 I J = some (v, I', J') → P (.inl (some (.int v))) (hX X I' J') → am_E (gG L xs) d m_Model_readRow (0, lv_args 0 [.ref 112, .int a0], []) (hX X I J) P) (hR_10 : ∀ {a0 : Int32} {I : MI} {J : MJ} {v : Int32} {I' : MI} {J' : MJ} {P : am_R → am_H → Prop}, R 10 a0 0 I J = some (v, I', J') → P (.inl (some (.int v))) (hX X I' J') → am_E (gG L xs) d m_Model_readTurn (0, lv_args 0 [.ref 112, .int a0], []) (hX X I J) P) (hb : f_Model_readStatements R  I J = some (v, I', J')) (K : P (.inl (some (.int v))) (hX X I' J')) : am_E (gG L xs) (d + 1) m_Model_readStatements (0, lv_args 0 [.ref 112], []) (hX X I J) P := by
  unfold f_Model_readStatements at hb
  refine e_sub (ls := [(0, .ref 112)]) rfl ⟨rfl, trivial⟩ ?_
  obtain ⟨q9, I9, J9, h9, hb⟩ := oc_call hb
  refine E_Model_readStatements_0 hR_0 hR_1 hR_2 hR_3 hR_4 hR_5 hR_6 hR_7 hR_8 hR_9 hR_10 gF  h9 (fun y9 ey9 => ?_) (fun u9 ey9 => ?_)
  · subst ey9
    replace hb := oe_l hb
    obtain ⟨rfl, rfl, rfl⟩ := s_inj hb
    exact K
  · subst ey9
    replace hb := oe_r hb
    refine e_k 1 (f' := (35, [], [.int 1])) rfl ?_
    obtain ⟨rfl, rfl, rfl⟩ := s_inj hb
    exact e_r rfl rfl K
theorem E_Model_readBit {p2 : Int32} {p3 : Int32} {X : MX} {I : MI} {J : MJ} {v : Int32} {I' : MI} {J' : MJ} (hb : f_Model_readBit p2 p3 I J = some (v, I', J')) (K : P (.inl (some (.int v))) (hX X I' J')) : am_E (gG L xs) (d + 3) m_Model_readBit (0, lv_args 0 [.ref 112, .int p2, .int p3], []) (hX X I J) P := by
  unfold f_Model_readBit at hb
  refine e_k 1 (f' := (1, [(0, .ref 112), (1, .int p2), (2, .int p3)], [.int p2])) rfl ?_
  obtain ⟨v1, I1, J1, h1, hb⟩ := oc_call hb
  refine r_cs (z := m_Model_isClear) (As := [.int p2]) (rest := []) rfl rfl rfl rfl rfl rfl (E_Model_isClear  h1 ⟨_, rfl, ?_⟩)
  refine e_k 1 (f' := (if v1 = 0 then 13 else 7, [(0, .ref 112), (1, .int p2), (2, .int p3)], [])) rfl ?_
  obtain ⟨v3, I3, J3, h3, hb⟩ := oc_call hb
  have Kj3 : am_E (gG L xs) (d + 3) m_Model_readBit (13, [(0, .ref 112), (1, .int p2)], []) (hX X I3 J3) P := by
    refine e_k 3 (f' := (17, [(0, .ref 112), (1, .int p2)], [.int p2, .int 27, .ref 112])) rfl ?_
    obtain ⟨v6, I6, J6, h6, hb⟩ := oc_call hb
    refine r_cs (z := m_Model_numberOf) (As := [.int p2]) (rest := [.int 27, .ref 112]) rfl rfl rfl rfl rfl rfl (E_Model_numberOf  h6 ⟨_, rfl, ?_⟩)
    obtain ⟨v7, I7, J7, h7, hb⟩ := oc_call hb
    refine r_cv (z := m_Model_lay_IIV) (As := [.int 27, .int v6]) (rest := []) rfl rfl rfl rfl rfl (x_ltn rfl) rfl rfl (E_Model_lay_IIV  h7 ⟨_, rfl, ?_⟩)
    refine e_k 2 (f' := (26, [(0, .ref 112), (1, .int p2)], [.int 59, .ref 112])) rfl ?_
    obtain ⟨v8, I8, J8, h8, hb⟩ := oc_call hb
    refine r_cv (z := m_Model_want) (As := [.int 59]) (rest := []) rfl rfl rfl rfl rfl (x_ltn rfl) rfl rfl (E_Model_want  h8 ⟨_, rfl, ?_⟩)
    obtain ⟨o9, hb⟩ := ob_if hb
    obtain ⟨rfl, rfl, rfl⟩ := s_inj hb
    exact e_r rfl (if_pos o9) K
  clear hb
  refine e_if (fun c4 => ?_) (fun c4 => ?_)
  · replace h3 := i_pos c4 h3
    refine e_sub (ls := [(0, .ref 112), (1, .int p2)]) rfl ⟨rfl, rfl, trivial⟩ ?_
    obtain ⟨rfl, rfl, rfl⟩ := s_inj h3
    exact Kj3
  · replace h3 := i_neg c4 h3
    refine e_k 3 (f' := (10, [(0, .ref 112), (1, .int p2), (2, .int p3)], [.int p3, .int 2, .ref 112])) rfl ?_
    obtain ⟨v5, I5, J5, h5, h3⟩ := oc_call h3
    refine r_cv (z := m_Model_note) (As := [.int 2, .int p3]) (rest := []) rfl rfl rfl rfl rfl (x_ltn rfl) rfl rfl (E_Model_note  h5 ⟨_, rfl, ?_⟩)
    refine e_sub (ls := [(0, .ref 112), (1, .int p2)]) rfl ⟨rfl, rfl, trivial⟩ ?_
    obtain ⟨rfl, rfl, rfl⟩ := s_inj h3
    exact Kj3
theorem E_Model_readInput {p2 : Int32} {p3 : Int32} {X : MX} {I : MI} {J : MJ} {v : Int32} {I' : MI} {J' : MJ} (hb : f_Model_readInput p2 p3 I J = some (v, I', J')) (K : P (.inl (some (.int v))) (hX X I' J')) : am_E (gG L xs) (d + 3) m_Model_readInput (0, lv_args 0 [.ref 112, .int p2, .int p3], []) (hX X I J) P := by
  unfold f_Model_readInput at hb
  refine e_k 1 (f' := (1, [(0, .ref 112), (1, .int p2), (2, .int p3)], [.ref 112])) rfl ?_
  obtain ⟨v1, I1, J1, h1, hb⟩ := oc_call hb
  refine r_cv (z := m_Model_isDigit) (As := []) (rest := []) rfl rfl rfl rfl rfl (x_ltn rfl) rfl rfl (E_Model_isDigit  h1 ⟨_, rfl, ?_⟩)
  refine e_k 1 (f' := (if ¬ v1 = 0 then 12 else 7, [(0, .ref 112), (1, .int p2), (2, .int p3)], [])) rfl ?_
  refine e_if (fun c2 => ?_) (fun c2 => ?_)
  · replace hb := i_pos c2 hb
    refine e_k 1 (f' := (13, [(0, .ref 112), (1, .int p2), (2, .int p3)], [.ref 112])) rfl ?_
    refine r_geti rfl (x_ltn rfl) rfl rfl ?_
    refine e_k 1 (f' := (17, [(3, .int (I1 112 5)), (0, .ref 112), (1, .int p2), (2, .int p3)], [])) rfl ?_
    obtain ⟨x3, ex3, hb⟩ := p_nm hb
    rw [← ex3]
    refine e_k 1 (f' := (18, [(3, .int x3), (0, .ref 112), (1, .int p2), (2, .int p3)], [.ref 112])) rfl ?_
    obtain ⟨v4, I4, J4, h4, hb⟩ := oc_call hb
    refine r_cv (z := m_Model_see) (As := []) (rest := []) rfl rfl rfl rfl rfl (x_ltn rfl) rfl rfl (E_Model_see  h4 ⟨_, rfl, ?_⟩)
    refine e_k 3 (f' := (26, [(4, .int (v4 - 48)), (3, .int x3), (0, .ref 112), (1, .int p2), (2, .int p3)], [])) rfl ?_
    obtain ⟨x5, ex5, hb⟩ := p_nm hb
    rw [← ex5]
    refine e_k 2 (f' := (28, [(4, .int x5), (3, .int x3), (0, .ref 112), (1, .int p2), (2, .int p3)], [.ref 112, .ref 112])) rfl ?_
    refine r_geti rfl (x_ltn rfl) rfl rfl ?_
    refine e_k 2 (f' := (33, [(4, .int x5), (3, .int x3), (0, .ref 112), (1, .int p2), (2, .int p3)], [.int ((I4 112 5) + 1), .ref 112])) rfl ?_
    obtain ⟨I6, eI6, hb⟩ := p_nm hb
    refine r_puti' rfl (x_ltn rfl) rfl rfl eI6 ?_
    refine e_k 1 (f' := (37, [(4, .int x5), (3, .int x3), (0, .ref 112), (1, .int p2), (2, .int p3)], [.int p2])) rfl ?_
    obtain ⟨v7, I7, J7, h7, hb⟩ := oc_call hb
    refine r_cs (z := m_Model_isClear) (As := [.int p2]) (rest := []) rfl rfl rfl rfl rfl rfl (E_Model_isClear  h7 ⟨_, rfl, ?_⟩)
    refine e_k 1 (f' := (if v7 = 0 then 49 else 43, [(4, .int x5), (3, .int x3), (0, .ref 112), (1, .int p2), (2, .int p3)], [])) rfl ?_
    obtain ⟨v9, I9, J9, h9, hb⟩ := oc_call hb
    have Kj9 : am_E (gG L xs) (d + 3) m_Model_readInput (49, [(0, .ref 112), (1, .int p2), (3, .int x3), (4, .int x5)], []) (hX X I9 J9) P := by
      refine e_k 2 (f' := (52, [(0, .ref 112), (1, .int p2), (3, .int x3), (4, .int x5)], [.ref 112, .int x5])) rfl ?_
      refine r_geti rfl (x_ltn rfl) rfl rfl ?_
      refine e_k 1 (f' := (if x5 < (I9 112 16) then 64 else 58, [(0, .ref 112), (1, .int p2), (3, .int x3), (4, .int x5)], [])) rfl ?_
      obtain ⟨v13, I13, J13, h13, hb⟩ := oc_call hb
      have Kj13 : am_E (gG L xs) (d + 3) m_Model_readInput (64, [(0, .ref 112), (1, .int p2), (4, .int x5)], []) (hX X I13 J13) P := by
        refine e_k 3 (f' := (68, [(0, .ref 112), (1, .int p2), (4, .int x5)], [.int p2, .int 13, .ref 112])) rfl ?_
        obtain ⟨v16, I16, J16, h16, hb⟩ := oc_call hb
        refine r_cs (z := m_Model_numberOf) (As := [.int p2]) (rest := [.int 13, .ref 112]) rfl rfl rfl rfl rfl rfl (E_Model_numberOf  h16 ⟨_, rfl, ?_⟩)
        obtain ⟨v17, I17, J17, h17, hb⟩ := oc_call hb
        refine r_cv (z := m_Model_lay_IIV) (As := [.int 13, .int v16]) (rest := []) rfl rfl rfl rfl rfl (x_ltn rfl) rfl rfl (E_Model_lay_IIV  h17 ⟨_, rfl, ?_⟩)
        refine e_k 2 (f' := (77, [(0, .ref 112), (1, .int p2), (4, .int x5)], [.int x5, .ref 112])) rfl ?_
        obtain ⟨v18, I18, J18, h18, hb⟩ := oc_call hb
        refine r_cv (z := m_Model_lay_IV) (As := [.int x5]) (rest := []) rfl rfl rfl rfl rfl (x_ltn rfl) rfl rfl (E_Model_lay_IV  h18 ⟨_, rfl, ?_⟩)
        refine e_k 2 (f' := (83, [(0, .ref 112), (1, .int p2), (4, .int x5)], [.int 59, .ref 112])) rfl ?_
        obtain ⟨v19, I19, J19, h19, hb⟩ := oc_call hb
        refine r_cv (z := m_Model_want) (As := [.int 59]) (rest := []) rfl rfl rfl rfl rfl (x_ltn rfl) rfl rfl (E_Model_want  h19 ⟨_, rfl, ?_⟩)
        obtain ⟨o20, hb⟩ := ob_if hb
        obtain ⟨rfl, rfl, rfl⟩ := s_inj hb
        exact e_r rfl (if_pos o20) K
      clear hb
      refine e_if (fun c14 => ?_) (fun c14 => ?_)
      · replace h13 := i_pos c14 h13
        refine e_sub (ls := [(0, .ref 112), (1, .int p2), (4, .int x5)]) rfl ⟨rfl, rfl, rfl, trivial⟩ ?_
        obtain ⟨rfl, rfl, rfl⟩ := s_inj h13
        exact Kj13
      · replace h13 := i_neg c14 h13
        refine e_k 3 (f' := (61, [(0, .ref 112), (1, .int p2), (3, .int x3), (4, .int x5)], [.int x3, .int 4, .ref 112])) rfl ?_
        obtain ⟨v15, I15, J15, h15, h13⟩ := oc_call h13
        refine r_cv (z := m_Model_note) (As := [.int 4, .int x3]) (rest := []) rfl rfl rfl rfl rfl (x_ltn rfl) rfl rfl (E_Model_note  h15 ⟨_, rfl, ?_⟩)
        refine e_sub (ls := [(0, .ref 112), (1, .int p2), (4, .int x5)]) rfl ⟨rfl, rfl, rfl, trivial⟩ ?_
        obtain ⟨rfl, rfl, rfl⟩ := s_inj h13
        exact Kj13
    clear hb
    refine e_if (fun c10 => ?_) (fun c10 => ?_)
    · replace h9 := i_pos c10 h9
      refine e_sub (ls := [(0, .ref 112), (1, .int p2), (3, .int x3), (4, .int x5)]) rfl ⟨rfl, rfl, rfl, rfl, trivial⟩ ?_
      obtain ⟨rfl, rfl, rfl⟩ := s_inj h9
      exact Kj9
    · replace h9 := i_neg c10 h9
      refine e_k 3 (f' := (46, [(4, .int x5), (3, .int x3), (0, .ref 112), (1, .int p2), (2, .int p3)], [.int p3, .int 2, .ref 112])) rfl ?_
      obtain ⟨v11, I11, J11, h11, h9⟩ := oc_call h9
      refine r_cv (z := m_Model_note) (As := [.int 2, .int p3]) (rest := []) rfl rfl rfl rfl rfl (x_ltn rfl) rfl rfl (E_Model_note  h11 ⟨_, rfl, ?_⟩)
      refine e_sub (ls := [(0, .ref 112), (1, .int p2), (3, .int x3), (4, .int x5)]) rfl ⟨rfl, rfl, rfl, rfl, trivial⟩ ?_
      obtain ⟨rfl, rfl, rfl⟩ := s_inj h9
      exact Kj9
  · replace hb := i_neg c2 hb
    refine e_k 1 (f' := (8, [(0, .ref 112), (1, .int p2), (2, .int p3)], [.ref 112])) rfl ?_
    obtain ⟨v21, I21, J21, h21, hb⟩ := oc_call hb
    refine r_cv (z := m_Model_refuse) (As := []) (rest := []) rfl rfl rfl rfl rfl (x_ltn rfl) rfl rfl (E_Model_refuse  h21 ⟨_, rfl, ?_⟩)
    obtain ⟨o22, hb⟩ := ob_if hb
    obtain ⟨rfl, rfl, rfl⟩ := s_inj hb
    exact e_r rfl (if_pos o22) K
theorem E_Model_isSum_7 {X : MX} : ∀ (fu : Nat) {l1 : Int32} {I : MI} {J : MJ} {r : (Int32)} {I' : MI} {J' : MJ}, f_Model_isSum_7  fu l1 I J = some (r, I', J') → am_E (gG L xs) d m_Model_isSum (32, [(0, .ref 112), (1, .int r)], []) (hX X I' J') P → am_E (gG L xs) d m_Model_isSum (7, [(0, .ref 112), (1, .int l1)], []) (hX X I J) P := by
  intro fu
  induction fu with
  | zero =>
    intros
    rename_i hb _
    cases hb
  | succ fu ih =>
    intro l1 I J r I' J' hb K
    unfold f_Model_isSum_7 at hb
    refine e_k 2 (f' := (9, [(0, .ref 112), (1, .int l1)], [.ref 112, .int l1])) rfl ?_
    refine r_geti rfl (x_ltn rfl) rfl rfl ?_
    refine e_k 1 (f' := (if (I 112 2) ≤ l1 then 32 else 15, [(0, .ref 112), (1, .int l1)], [])) rfl ?_
    refine e_if (fun c2 => ?_) (fun c2 => ?_)
    · replace hb := i_pos c2 hb
      refine e_sub (ls := [(0, .ref 112), (1, .int l1)]) rfl ⟨rfl, rfl, trivial⟩ ?_
      obtain ⟨rfl, rfl, rfl⟩ := s_inj hb
      exact K
    · replace hb := i_neg c2 hb
      refine e_k 1 (f' := (16, [(0, .ref 112), (1, .int l1)], [.ref 112])) rfl ?_
      refine r_getr rfl (x_ltn rfl) rfl rfl ?_
      refine e_k 1 (f' := (20, [(0, .ref 112), (1, .int l1)], [.int l1, .ref 113])) rfl ?_
      obtain ⟨o3, hb⟩ := ob_in hb
      refine r_iald rfl rfl (x_ltn rfl) rfl o3 ?_
      refine e_k 2 (f' := (if ¬ (I 113 (Int32.toNatClampNeg l1)) = 32 then 32 else 26, [(0, .ref 112), (1, .int l1)], [])) rfl ?_
      refine e_if (fun c4 => ?_) (fun c4 => ?_)
      · replace hb := i_pos c4 hb
        refine e_sub (ls := [(0, .ref 112), (1, .int l1)]) rfl ⟨rfl, rfl, trivial⟩ ?_
        obtain ⟨rfl, rfl, rfl⟩ := s_inj hb
        exact K
      · replace hb := i_neg c4 hb
        refine e_k 2 (f' := (7, [(1, .int (l1 + 1)), (0, .ref 112)], [])) rfl ?_
        refine e_sub (ls := [(0, .ref 112), (1, .int (l1 + 1))]) rfl ⟨rfl, rfl, trivial⟩ ?_
        exact ih  hb K
theorem E_Model_isSum {X : MX} {I : MI} {J : MJ} {v : Int32} {I' : MI} {J' : MJ} (hb : f_Model_isSum  I J = some (v, I', J')) (K : P (.inl (some (.int v))) (hX X I' J')) : am_E (gG L xs) d m_Model_isSum (0, lv_args 0 [.ref 112], []) (hX X I J) P := by
  unfold f_Model_isSum at hb
  refine e_k 1 (f' := (1, [(0, .ref 112)], [.ref 112])) rfl ?_
  refine r_geti rfl (x_ltn rfl) rfl rfl ?_
  refine e_k 3 (f' := (7, [(1, .int ((I 112 5) + 1)), (0, .ref 112)], [])) rfl ?_
  obtain ⟨x1, ex1, hb⟩ := p_nm hb
  rw [← ex1]
  refine e_sub (ls := [(0, .ref 112), (1, .int x1)]) rfl ⟨rfl, rfl, trivial⟩ ?_
  obtain ⟨u5, I5, J5, h5, hb⟩ := oc_call hb
  refine E_Model_isSum_7  gF  h5 ?_
  refine e_k 2 (f' := (34, [(0, .ref 112), (1, .int u5)], [.ref 112, .int u5])) rfl ?_
  refine r_geti rfl (x_ltn rfl) rfl rfl ?_
  refine e_k 1 (f' := (if (I5 112 2) ≤ u5 then 55 else 40, [(0, .ref 112), (1, .int u5)], [])) rfl ?_
  refine e_if (fun c6 => ?_) (fun c6 => ?_)
  · replace hb := i_pos c6 hb
    refine e_k 1 (f' := (56, [(0, .ref 112), (1, .int u5)], [.int 0])) rfl ?_
    obtain ⟨rfl, rfl, rfl⟩ := s_inj hb
    exact e_r rfl rfl K
  · replace hb := i_neg c6 hb
    refine e_k 1 (f' := (41, [(0, .ref 112), (1, .int u5)], [.ref 112])) rfl ?_
    refine r_getr rfl (x_ltn rfl) rfl rfl ?_
    refine e_k 1 (f' := (45, [(0, .ref 112), (1, .int u5)], [.int u5, .ref 113])) rfl ?_
    obtain ⟨o7, hb⟩ := ob_in hb
    refine r_iald rfl rfl (x_ltn rfl) rfl o7 ?_
    refine e_k 2 (f' := (if ¬ (I5 113 (Int32.toNatClampNeg u5)) = 46 then 55 else 51, [(0, .ref 112), (1, .int u5)], [])) rfl ?_
    refine e_if (fun c8 => ?_) (fun c8 => ?_)
    · replace hb := i_pos c8 hb
      refine e_k 1 (f' := (56, [(0, .ref 112), (1, .int u5)], [.int 0])) rfl ?_
      obtain ⟨rfl, rfl, rfl⟩ := s_inj hb
      exact e_r rfl rfl K
    · replace hb := i_neg c8 hb
      refine e_k 2 (f' := (56, [(0, .ref 112), (1, .int u5)], [.int 1])) rfl ?_
      obtain ⟨rfl, rfl, rfl⟩ := s_inj hb
      exact e_r rfl rfl K
theorem E_Model_readRows {p2 : Int32} {p3 : Int32} {X : MX} {I : MI} {J : MJ} {v : Int32} {I' : MI} {J' : MJ} (hb : f_Model_readRows p2 p3 I J = some (v, I', J')) (K : P (.inl (some (.int v))) (hX X I' J')) : am_E (gG L xs) (d + 3) m_Model_readRows (0, lv_args 0 [.ref 112, .int p2, .int p3], []) (hX X I J) P := by
  unfold f_Model_readRows at hb
  refine e_k 1 (f' := (1, [(0, .ref 112), (1, .int p2), (2, .int p3)], [.ref 112])) rfl ?_
  obtain ⟨v1, I1, J1, h1, hb⟩ := oc_call hb
  refine r_cv (z := m_Model_isRow) (As := []) (rest := []) rfl rfl rfl rfl rfl (x_ltn rfl) rfl rfl (E_Model_isRow  h1 ⟨_, rfl, ?_⟩)
  refine e_k 1 (f' := (if ¬ v1 = 0 then 12 else 7, [(0, .ref 112), (1, .int p2), (2, .int p3)], [])) rfl ?_
  refine e_if (fun c2 => ?_) (fun c2 => ?_)
  · replace hb := i_pos c2 hb
    refine e_k 1 (f' := (13, [(0, .ref 112), (1, .int p2), (2, .int p3)], [.ref 112])) rfl ?_
    obtain ⟨v3, I3, J3, h3, hb⟩ := oc_call hb
    refine r_cv (z := m_Model_see) (As := []) (rest := []) rfl rfl rfl rfl rfl (x_ltn rfl) rfl rfl (E_Model_see  h3 ⟨_, rfl, ?_⟩)
    refine e_k 3 (f' := (19, [(3, .int v3), (0, .ref 112), (1, .int p2), (2, .int p3)], [.ref 112, .ref 112])) rfl ?_
    refine r_geti rfl (x_ltn rfl) rfl rfl ?_
    refine e_k 2 (f' := (24, [(3, .int v3), (0, .ref 112), (1, .int p2), (2, .int p3)], [.int ((I3 112 5) + 1), .ref 112])) rfl ?_
    obtain ⟨I4, eI4, hb⟩ := p_nm hb
    refine r_puti' rfl (x_ltn rfl) rfl rfl eI4 ?_
    refine e_k 1 (f' := (28, [(3, .int v3), (0, .ref 112), (1, .int p2), (2, .int p3)], [.ref 112])) rfl ?_
    obtain ⟨v5, I5, J5, h5, hb⟩ := oc_call hb
    refine r_cv (z := m_Model_see) (As := []) (rest := []) rfl rfl rfl rfl rfl (x_ltn rfl) rfl rfl (E_Model_see  h5 ⟨_, rfl, ?_⟩)
    refine e_k 4 (f' := (if v5 = 43 then 59 else 40, [(4, .int v5), (3, .int v3), (0, .ref 112), (1, .int p2), (2, .int p3)], [])) rfl ?_
    refine e_if (fun c6 => ?_) (fun c6 => ?_)
    · replace hb := i_pos c6 hb
      refine e_k 2 (f' := (61, [(4, .int v5), (3, .int v3), (0, .ref 112), (1, .int p2), (2, .int p3)], [.ref 112, .ref 112])) rfl ?_
      refine r_geti rfl (x_ltn rfl) rfl rfl ?_
      refine e_k 2 (f' := (66, [(4, .int v5), (3, .int v3), (0, .ref 112), (1, .int p2), (2, .int p3)], [.int ((I5 112 5) + 1), .ref 112])) rfl ?_
      obtain ⟨I7, eI7, hb⟩ := p_nm hb
      refine r_puti' rfl (x_ltn rfl) rfl rfl eI7 ?_
      refine e_k 1 (f' := (70, [(4, .int v5), (3, .int v3), (0, .ref 112), (1, .int p2), (2, .int p3)], [.ref 112])) rfl ?_
      obtain ⟨v8, I8, J8, h8, hb⟩ := oc_call hb
      refine r_cv (z := m_Model_isRow) (As := []) (rest := []) rfl rfl rfl rfl rfl (x_ltn rfl) rfl rfl (E_Model_isRow  h8 ⟨_, rfl, ?_⟩)
      refine e_k 1 (f' := (if ¬ v8 = 0 then 81 else 76, [(4, .int v5), (3, .int v3), (0, .ref 112), (1, .int p2), (2, .int p3)], [])) rfl ?_
      refine e_if (fun c9 => ?_) (fun c9 => ?_)
      · replace hb := i_pos c9 hb
        refine e_k 1 (f' := (82, [(4, .int v5), (3, .int v3), (0, .ref 112), (1, .int p2), (2, .int p3)], [.ref 112])) rfl ?_
        obtain ⟨v10, I10, J10, h10, hb⟩ := oc_call hb
        refine r_cv (z := m_Model_see) (As := []) (rest := []) rfl rfl rfl rfl rfl (x_ltn rfl) rfl rfl (E_Model_see  h10 ⟨_, rfl, ?_⟩)
        refine e_k 3 (f' := (89, [(5, .int v10), (4, .int v5), (3, .int v3), (0, .ref 112), (1, .int p2), (2, .int p3)], [.ref 112, .ref 112])) rfl ?_
        refine r_geti rfl (x_ltn rfl) rfl rfl ?_
        refine e_k 2 (f' := (94, [(5, .int v10), (4, .int v5), (3, .int v3), (0, .ref 112), (1, .int p2), (2, .int p3)], [.int ((I10 112 5) + 1), .ref 112])) rfl ?_
        obtain ⟨I11, eI11, hb⟩ := p_nm hb
        refine r_puti' rfl (x_ltn rfl) rfl rfl eI11 ?_
        refine e_k 1 (f' := (98, [(5, .int v10), (4, .int v5), (3, .int v3), (0, .ref 112), (1, .int p2), (2, .int p3)], [.int p2])) rfl ?_
        obtain ⟨v12, I12, J12, h12, hb⟩ := oc_call hb
        refine r_cs (z := m_Model_isSecretRow) (As := [.int p2]) (rest := []) rfl rfl rfl rfl rfl rfl (E_Model_isSecretRow  h12 ⟨_, rfl, ?_⟩)
        refine e_k 1 (f' := (if ¬ v12 = 0 then 125 else 104, [(5, .int v10), (4, .int v5), (3, .int v3), (0, .ref 112), (1, .int p2), (2, .int p3)], [])) rfl ?_
        obtain ⟨v14, I14, J14, h14, hb⟩ := oc_call hb
        have Kj14 : am_E (gG L xs) (d + 3) m_Model_readRows (125, [(0, .ref 112), (1, .int p2), (3, .int v3), (4, .int v5), (5, .int v10)], []) (hX X I14 J14) P := by
          refine e_k 4 (f' := (if ¬ v5 = 43 then 138 else 133, [(0, .ref 112), (1, .int p2), (3, .int v3), (4, .int v5), (5, .int v10)], [.ref 112])) rfl ?_
          obtain ⟨v24, h24, hb⟩ := p_nn hb
          have Kj24 : am_E (gG L xs) (d + 3) m_Model_readRows (152, [(0, .ref 112), (1, .int p2), (3, .int v3), (5, .int v10)], [.int v24, .ref 112]) (hX X I14 J14) P := by
            refine e_k 3 (f' := (156, [(0, .ref 112), (1, .int p2), (3, .int v3), (5, .int v10)], [.int (p2 - 65), .int v24, .ref 112])) rfl ?_
            obtain ⟨v27, I27, J27, h27, hb⟩ := oc_call hb
            refine r_cv (z := m_Model_lay_IIV) (As := [.int v24, .int (p2 - 65)]) (rest := []) rfl rfl rfl rfl rfl (x_ltn rfl) rfl rfl (E_Model_lay_IIV  h27 ⟨_, rfl, ?_⟩)
            refine e_k 4 (f' := (164, [(0, .ref 112), (1, .int p2), (3, .int v3), (5, .int v10)], [.int (v3 - 65), .ref 112])) rfl ?_
            obtain ⟨v28, I28, J28, h28, hb⟩ := oc_call hb
            refine r_cv (z := m_Model_lay_IV) (As := [.int (v3 - 65)]) (rest := []) rfl rfl rfl rfl rfl (x_ltn rfl) rfl rfl (E_Model_lay_IV  h28 ⟨_, rfl, ?_⟩)
            refine e_k 4 (f' := (173, [(0, .ref 112), (1, .int p2), (3, .int v3), (5, .int v10)], [.int (v10 - 65), .ref 112])) rfl ?_
            obtain ⟨v29, I29, J29, h29, hb⟩ := oc_call hb
            refine r_cv (z := m_Model_lay_IV) (As := [.int (v10 - 65)]) (rest := []) rfl rfl rfl rfl rfl (x_ltn rfl) rfl rfl (E_Model_lay_IV  h29 ⟨_, rfl, ?_⟩)
            refine e_k 2 (f' := (179, [(0, .ref 112), (1, .int p2), (3, .int v3), (5, .int v10)], [.int 59, .ref 112])) rfl ?_
            obtain ⟨v30, I30, J30, h30, hb⟩ := oc_call hb
            refine r_cv (z := m_Model_want) (As := [.int 59]) (rest := []) rfl rfl rfl rfl rfl (x_ltn rfl) rfl rfl (E_Model_want  h30 ⟨_, rfl, ?_⟩)
            obtain ⟨o31, hb⟩ := ob_if hb
            obtain ⟨rfl, rfl, rfl⟩ := s_inj hb
            exact e_r rfl (if_pos o31) K
          clear hb
          refine e_if (fun c25 => ?_) (fun c25 => ?_)
          · replace h24 := i_pos c25 h24
            refine e_k 3 (f' := (if ¬ v5 = 45 then 150 else 145, [(0, .ref 112), (1, .int p2), (3, .int v3), (4, .int v5), (5, .int v10)], [.ref 112])) rfl ?_
            refine e_if (fun c26 => ?_) (fun c26 => ?_)
            · replace h24 := i_pos c26 h24
              refine e_k 1 (f' := (152, [(0, .ref 112), (1, .int p2), (3, .int v3), (4, .int v5), (5, .int v10)], [.int 25, .ref 112])) rfl ?_
              refine e_sub (ls := [(0, .ref 112), (1, .int p2), (3, .int v3), (5, .int v10)]) rfl ⟨rfl, rfl, rfl, rfl, trivial⟩ ?_
              subst h24
              exact Kj24
            · replace h24 := i_neg c26 h24
              refine e_k 2 (f' := (152, [(0, .ref 112), (1, .int p2), (3, .int v3), (4, .int v5), (5, .int v10)], [.int 24, .ref 112])) rfl ?_
              refine e_sub (ls := [(0, .ref 112), (1, .int p2), (3, .int v3), (5, .int v10)]) rfl ⟨rfl, rfl, rfl, rfl, trivial⟩ ?_
              subst h24
              exact Kj24
          · replace h24 := i_neg c25 h24
            refine e_k 2 (f' := (152, [(0, .ref 112), (1, .int p2), (3, .int v3), (4, .int v5), (5, .int v10)], [.int 23, .ref 112])) rfl ?_
            refine e_sub (ls := [(0, .ref 112), (1, .int p2), (3, .int v3), (5, .int v10)]) rfl ⟨rfl, rfl, rfl, rfl, trivial⟩ ?_
            subst h24
            exact Kj24
        clear hb
        refine e_if (fun c15 => ?_) (fun c15 => ?_)
        · replace h14 := i_pos c15 h14
          refine e_sub (ls := [(0, .ref 112), (1, .int p2), (3, .int v3), (4, .int v5), (5, .int v10)]) rfl ⟨rfl, rfl, rfl, rfl, rfl, trivial⟩ ?_
          obtain ⟨rfl, rfl, rfl⟩ := s_inj h14
          exact Kj14
        · replace h14 := i_neg c15 h14
          refine e_k 1 (f' := (105, [(5, .int v10), (4, .int v5), (3, .int v3), (0, .ref 112), (1, .int p2), (2, .int p3)], [.int v3])) rfl ?_
          obtain ⟨v16, I16, J16, h16, h14⟩ := oc_call h14
          refine r_cs (z := m_Model_isSecretRow) (As := [.int v3]) (rest := []) rfl rfl rfl rfl rfl rfl (E_Model_isSecretRow  h16 ⟨_, rfl, ?_⟩)
          refine e_k 1 (f' := (if ¬ v16 = 0 then 119 else 111, [(5, .int v10), (4, .int v5), (3, .int v3), (0, .ref 112), (1, .int p2), (2, .int p3)], [])) rfl ?_
          refine e_if (fun c17 => ?_) (fun c17 => ?_)
          · replace h14 := i_pos c17 h14
            refine e_k 3 (f' := (122, [(5, .int v10), (4, .int v5), (3, .int v3), (0, .ref 112), (1, .int p2), (2, .int p3)], [.int p3, .int 3, .ref 112])) rfl ?_
            obtain ⟨v18, I18, J18, h18, h14⟩ := oc_call h14
            refine r_cv (z := m_Model_note) (As := [.int 3, .int p3]) (rest := []) rfl rfl rfl rfl rfl (x_ltn rfl) rfl rfl (E_Model_note  h18 ⟨_, rfl, ?_⟩)
            refine e_sub (ls := [(0, .ref 112), (1, .int p2), (3, .int v3), (4, .int v5), (5, .int v10)]) rfl ⟨rfl, rfl, rfl, rfl, rfl, trivial⟩ ?_
            obtain ⟨rfl, rfl, rfl⟩ := s_inj h14
            exact Kj14
          · replace h14 := i_neg c17 h14
            refine e_k 1 (f' := (113, [(5, .int v10), (4, .int v5), (3, .int v3), (0, .ref 112), (1, .int p2), (2, .int p3)], [.int v10])) rfl ?_
            obtain ⟨v19, I19, J19, h19, h14⟩ := oc_call h14
            refine r_cs (z := m_Model_isSecretRow) (As := [.int v10]) (rest := []) rfl rfl rfl rfl rfl rfl (E_Model_isSecretRow  h19 ⟨_, rfl, ?_⟩)
            refine e_k 1 (f' := (if v19 = 0 then 125 else 119, [(5, .int v10), (4, .int v5), (3, .int v3), (0, .ref 112), (1, .int p2), (2, .int p3)], [])) rfl ?_
            refine e_if (fun c20 => ?_) (fun c20 => ?_)
            · replace h14 := i_pos c20 h14
              refine e_sub (ls := [(0, .ref 112), (1, .int p2), (3, .int v3), (4, .int v5), (5, .int v10)]) rfl ⟨rfl, rfl, rfl, rfl, rfl, trivial⟩ ?_
              obtain ⟨rfl, rfl, rfl⟩ := s_inj h14
              exact Kj14
            · replace h14 := i_neg c20 h14
              refine e_k 3 (f' := (122, [(5, .int v10), (4, .int v5), (3, .int v3), (0, .ref 112), (1, .int p2), (2, .int p3)], [.int p3, .int 3, .ref 112])) rfl ?_
              obtain ⟨v21, I21, J21, h21, h14⟩ := oc_call h14
              refine r_cv (z := m_Model_note) (As := [.int 3, .int p3]) (rest := []) rfl rfl rfl rfl rfl (x_ltn rfl) rfl rfl (E_Model_note  h21 ⟨_, rfl, ?_⟩)
              refine e_sub (ls := [(0, .ref 112), (1, .int p2), (3, .int v3), (4, .int v5), (5, .int v10)]) rfl ⟨rfl, rfl, rfl, rfl, rfl, trivial⟩ ?_
              obtain ⟨rfl, rfl, rfl⟩ := s_inj h14
              exact Kj14
      · replace hb := i_neg c9 hb
        refine e_k 1 (f' := (77, [(4, .int v5), (3, .int v3), (0, .ref 112), (1, .int p2), (2, .int p3)], [.ref 112])) rfl ?_
        obtain ⟨v32, I32, J32, h32, hb⟩ := oc_call hb
        refine r_cv (z := m_Model_refuse) (As := []) (rest := []) rfl rfl rfl rfl rfl (x_ltn rfl) rfl rfl (E_Model_refuse  h32 ⟨_, rfl, ?_⟩)
        obtain ⟨o33, hb⟩ := ob_if hb
        obtain ⟨rfl, rfl, rfl⟩ := s_inj hb
        exact e_r rfl (if_pos o33) K
    · replace hb := i_neg c6 hb
      refine e_k 3 (f' := (if v5 = 45 then 59 else 47, [(4, .int v5), (3, .int v3), (0, .ref 112), (1, .int p2), (2, .int p3)], [])) rfl ?_
      refine e_if (fun c34 => ?_) (fun c34 => ?_)
      · replace hb := i_pos c34 hb
        refine e_k 2 (f' := (61, [(4, .int v5), (3, .int v3), (0, .ref 112), (1, .int p2), (2, .int p3)], [.ref 112, .ref 112])) rfl ?_
        refine r_geti rfl (x_ltn rfl) rfl rfl ?_
        refine e_k 2 (f' := (66, [(4, .int v5), (3, .int v3), (0, .ref 112), (1, .int p2), (2, .int p3)], [.int ((I5 112 5) + 1), .ref 112])) rfl ?_
        obtain ⟨I35, eI35, hb⟩ := p_nm hb
        refine r_puti' rfl (x_ltn rfl) rfl rfl eI35 ?_
        refine e_k 1 (f' := (70, [(4, .int v5), (3, .int v3), (0, .ref 112), (1, .int p2), (2, .int p3)], [.ref 112])) rfl ?_
        obtain ⟨v36, I36, J36, h36, hb⟩ := oc_call hb
        refine r_cv (z := m_Model_isRow) (As := []) (rest := []) rfl rfl rfl rfl rfl (x_ltn rfl) rfl rfl (E_Model_isRow  h36 ⟨_, rfl, ?_⟩)
        refine e_k 1 (f' := (if ¬ v36 = 0 then 81 else 76, [(4, .int v5), (3, .int v3), (0, .ref 112), (1, .int p2), (2, .int p3)], [])) rfl ?_
        refine e_if (fun c37 => ?_) (fun c37 => ?_)
        · replace hb := i_pos c37 hb
          refine e_k 1 (f' := (82, [(4, .int v5), (3, .int v3), (0, .ref 112), (1, .int p2), (2, .int p3)], [.ref 112])) rfl ?_
          obtain ⟨v38, I38, J38, h38, hb⟩ := oc_call hb
          refine r_cv (z := m_Model_see) (As := []) (rest := []) rfl rfl rfl rfl rfl (x_ltn rfl) rfl rfl (E_Model_see  h38 ⟨_, rfl, ?_⟩)
          refine e_k 3 (f' := (89, [(5, .int v38), (4, .int v5), (3, .int v3), (0, .ref 112), (1, .int p2), (2, .int p3)], [.ref 112, .ref 112])) rfl ?_
          refine r_geti rfl (x_ltn rfl) rfl rfl ?_
          refine e_k 2 (f' := (94, [(5, .int v38), (4, .int v5), (3, .int v3), (0, .ref 112), (1, .int p2), (2, .int p3)], [.int ((I38 112 5) + 1), .ref 112])) rfl ?_
          obtain ⟨I39, eI39, hb⟩ := p_nm hb
          refine r_puti' rfl (x_ltn rfl) rfl rfl eI39 ?_
          refine e_k 1 (f' := (98, [(5, .int v38), (4, .int v5), (3, .int v3), (0, .ref 112), (1, .int p2), (2, .int p3)], [.int p2])) rfl ?_
          obtain ⟨v40, I40, J40, h40, hb⟩ := oc_call hb
          refine r_cs (z := m_Model_isSecretRow) (As := [.int p2]) (rest := []) rfl rfl rfl rfl rfl rfl (E_Model_isSecretRow  h40 ⟨_, rfl, ?_⟩)
          refine e_k 1 (f' := (if ¬ v40 = 0 then 125 else 104, [(5, .int v38), (4, .int v5), (3, .int v3), (0, .ref 112), (1, .int p2), (2, .int p3)], [])) rfl ?_
          obtain ⟨v42, I42, J42, h42, hb⟩ := oc_call hb
          have Kj42 : am_E (gG L xs) (d + 3) m_Model_readRows (125, [(0, .ref 112), (1, .int p2), (3, .int v3), (4, .int v5), (5, .int v38)], []) (hX X I42 J42) P := by
            refine e_k 4 (f' := (if ¬ v5 = 43 then 138 else 133, [(0, .ref 112), (1, .int p2), (3, .int v3), (4, .int v5), (5, .int v38)], [.ref 112])) rfl ?_
            obtain ⟨v52, h52, hb⟩ := p_nn hb
            have Kj52 : am_E (gG L xs) (d + 3) m_Model_readRows (152, [(0, .ref 112), (1, .int p2), (3, .int v3), (5, .int v38)], [.int v52, .ref 112]) (hX X I42 J42) P := by
              refine e_k 3 (f' := (156, [(0, .ref 112), (1, .int p2), (3, .int v3), (5, .int v38)], [.int (p2 - 65), .int v52, .ref 112])) rfl ?_
              obtain ⟨v55, I55, J55, h55, hb⟩ := oc_call hb
              refine r_cv (z := m_Model_lay_IIV) (As := [.int v52, .int (p2 - 65)]) (rest := []) rfl rfl rfl rfl rfl (x_ltn rfl) rfl rfl (E_Model_lay_IIV  h55 ⟨_, rfl, ?_⟩)
              refine e_k 4 (f' := (164, [(0, .ref 112), (1, .int p2), (3, .int v3), (5, .int v38)], [.int (v3 - 65), .ref 112])) rfl ?_
              obtain ⟨v56, I56, J56, h56, hb⟩ := oc_call hb
              refine r_cv (z := m_Model_lay_IV) (As := [.int (v3 - 65)]) (rest := []) rfl rfl rfl rfl rfl (x_ltn rfl) rfl rfl (E_Model_lay_IV  h56 ⟨_, rfl, ?_⟩)
              refine e_k 4 (f' := (173, [(0, .ref 112), (1, .int p2), (3, .int v3), (5, .int v38)], [.int (v38 - 65), .ref 112])) rfl ?_
              obtain ⟨v57, I57, J57, h57, hb⟩ := oc_call hb
              refine r_cv (z := m_Model_lay_IV) (As := [.int (v38 - 65)]) (rest := []) rfl rfl rfl rfl rfl (x_ltn rfl) rfl rfl (E_Model_lay_IV  h57 ⟨_, rfl, ?_⟩)
              refine e_k 2 (f' := (179, [(0, .ref 112), (1, .int p2), (3, .int v3), (5, .int v38)], [.int 59, .ref 112])) rfl ?_
              obtain ⟨v58, I58, J58, h58, hb⟩ := oc_call hb
              refine r_cv (z := m_Model_want) (As := [.int 59]) (rest := []) rfl rfl rfl rfl rfl (x_ltn rfl) rfl rfl (E_Model_want  h58 ⟨_, rfl, ?_⟩)
              obtain ⟨o59, hb⟩ := ob_if hb
              obtain ⟨rfl, rfl, rfl⟩ := s_inj hb
              exact e_r rfl (if_pos o59) K
            clear hb
            refine e_if (fun c53 => ?_) (fun c53 => ?_)
            · replace h52 := i_pos c53 h52
              refine e_k 3 (f' := (if ¬ v5 = 45 then 150 else 145, [(0, .ref 112), (1, .int p2), (3, .int v3), (4, .int v5), (5, .int v38)], [.ref 112])) rfl ?_
              refine e_if (fun c54 => ?_) (fun c54 => ?_)
              · replace h52 := i_pos c54 h52
                refine e_k 1 (f' := (152, [(0, .ref 112), (1, .int p2), (3, .int v3), (4, .int v5), (5, .int v38)], [.int 25, .ref 112])) rfl ?_
                refine e_sub (ls := [(0, .ref 112), (1, .int p2), (3, .int v3), (5, .int v38)]) rfl ⟨rfl, rfl, rfl, rfl, trivial⟩ ?_
                subst h52
                exact Kj52
              · replace h52 := i_neg c54 h52
                refine e_k 2 (f' := (152, [(0, .ref 112), (1, .int p2), (3, .int v3), (4, .int v5), (5, .int v38)], [.int 24, .ref 112])) rfl ?_
                refine e_sub (ls := [(0, .ref 112), (1, .int p2), (3, .int v3), (5, .int v38)]) rfl ⟨rfl, rfl, rfl, rfl, trivial⟩ ?_
                subst h52
                exact Kj52
            · replace h52 := i_neg c53 h52
              refine e_k 2 (f' := (152, [(0, .ref 112), (1, .int p2), (3, .int v3), (4, .int v5), (5, .int v38)], [.int 23, .ref 112])) rfl ?_
              refine e_sub (ls := [(0, .ref 112), (1, .int p2), (3, .int v3), (5, .int v38)]) rfl ⟨rfl, rfl, rfl, rfl, trivial⟩ ?_
              subst h52
              exact Kj52
          clear hb
          refine e_if (fun c43 => ?_) (fun c43 => ?_)
          · replace h42 := i_pos c43 h42
            refine e_sub (ls := [(0, .ref 112), (1, .int p2), (3, .int v3), (4, .int v5), (5, .int v38)]) rfl ⟨rfl, rfl, rfl, rfl, rfl, trivial⟩ ?_
            obtain ⟨rfl, rfl, rfl⟩ := s_inj h42
            exact Kj42
          · replace h42 := i_neg c43 h42
            refine e_k 1 (f' := (105, [(5, .int v38), (4, .int v5), (3, .int v3), (0, .ref 112), (1, .int p2), (2, .int p3)], [.int v3])) rfl ?_
            obtain ⟨v44, I44, J44, h44, h42⟩ := oc_call h42
            refine r_cs (z := m_Model_isSecretRow) (As := [.int v3]) (rest := []) rfl rfl rfl rfl rfl rfl (E_Model_isSecretRow  h44 ⟨_, rfl, ?_⟩)
            refine e_k 1 (f' := (if ¬ v44 = 0 then 119 else 111, [(5, .int v38), (4, .int v5), (3, .int v3), (0, .ref 112), (1, .int p2), (2, .int p3)], [])) rfl ?_
            refine e_if (fun c45 => ?_) (fun c45 => ?_)
            · replace h42 := i_pos c45 h42
              refine e_k 3 (f' := (122, [(5, .int v38), (4, .int v5), (3, .int v3), (0, .ref 112), (1, .int p2), (2, .int p3)], [.int p3, .int 3, .ref 112])) rfl ?_
              obtain ⟨v46, I46, J46, h46, h42⟩ := oc_call h42
              refine r_cv (z := m_Model_note) (As := [.int 3, .int p3]) (rest := []) rfl rfl rfl rfl rfl (x_ltn rfl) rfl rfl (E_Model_note  h46 ⟨_, rfl, ?_⟩)
              refine e_sub (ls := [(0, .ref 112), (1, .int p2), (3, .int v3), (4, .int v5), (5, .int v38)]) rfl ⟨rfl, rfl, rfl, rfl, rfl, trivial⟩ ?_
              obtain ⟨rfl, rfl, rfl⟩ := s_inj h42
              exact Kj42
            · replace h42 := i_neg c45 h42
              refine e_k 1 (f' := (113, [(5, .int v38), (4, .int v5), (3, .int v3), (0, .ref 112), (1, .int p2), (2, .int p3)], [.int v38])) rfl ?_
              obtain ⟨v47, I47, J47, h47, h42⟩ := oc_call h42
              refine r_cs (z := m_Model_isSecretRow) (As := [.int v38]) (rest := []) rfl rfl rfl rfl rfl rfl (E_Model_isSecretRow  h47 ⟨_, rfl, ?_⟩)
              refine e_k 1 (f' := (if v47 = 0 then 125 else 119, [(5, .int v38), (4, .int v5), (3, .int v3), (0, .ref 112), (1, .int p2), (2, .int p3)], [])) rfl ?_
              refine e_if (fun c48 => ?_) (fun c48 => ?_)
              · replace h42 := i_pos c48 h42
                refine e_sub (ls := [(0, .ref 112), (1, .int p2), (3, .int v3), (4, .int v5), (5, .int v38)]) rfl ⟨rfl, rfl, rfl, rfl, rfl, trivial⟩ ?_
                obtain ⟨rfl, rfl, rfl⟩ := s_inj h42
                exact Kj42
              · replace h42 := i_neg c48 h42
                refine e_k 3 (f' := (122, [(5, .int v38), (4, .int v5), (3, .int v3), (0, .ref 112), (1, .int p2), (2, .int p3)], [.int p3, .int 3, .ref 112])) rfl ?_
                obtain ⟨v49, I49, J49, h49, h42⟩ := oc_call h42
                refine r_cv (z := m_Model_note) (As := [.int 3, .int p3]) (rest := []) rfl rfl rfl rfl rfl (x_ltn rfl) rfl rfl (E_Model_note  h49 ⟨_, rfl, ?_⟩)
                refine e_sub (ls := [(0, .ref 112), (1, .int p2), (3, .int v3), (4, .int v5), (5, .int v38)]) rfl ⟨rfl, rfl, rfl, rfl, rfl, trivial⟩ ?_
                obtain ⟨rfl, rfl, rfl⟩ := s_inj h42
                exact Kj42
        · replace hb := i_neg c37 hb
          refine e_k 1 (f' := (77, [(4, .int v5), (3, .int v3), (0, .ref 112), (1, .int p2), (2, .int p3)], [.ref 112])) rfl ?_
          obtain ⟨v60, I60, J60, h60, hb⟩ := oc_call hb
          refine r_cv (z := m_Model_refuse) (As := []) (rest := []) rfl rfl rfl rfl rfl (x_ltn rfl) rfl rfl (E_Model_refuse  h60 ⟨_, rfl, ?_⟩)
          obtain ⟨o61, hb⟩ := ob_if hb
          obtain ⟨rfl, rfl, rfl⟩ := s_inj hb
          exact e_r rfl (if_pos o61) K
      · replace hb := i_neg c34 hb
        refine e_k 3 (f' := (if v5 = 42 then 59 else 54, [(4, .int v5), (3, .int v3), (0, .ref 112), (1, .int p2), (2, .int p3)], [])) rfl ?_
        refine e_if (fun c62 => ?_) (fun c62 => ?_)
        · replace hb := i_pos c62 hb
          refine e_k 2 (f' := (61, [(4, .int v5), (3, .int v3), (0, .ref 112), (1, .int p2), (2, .int p3)], [.ref 112, .ref 112])) rfl ?_
          refine r_geti rfl (x_ltn rfl) rfl rfl ?_
          refine e_k 2 (f' := (66, [(4, .int v5), (3, .int v3), (0, .ref 112), (1, .int p2), (2, .int p3)], [.int ((I5 112 5) + 1), .ref 112])) rfl ?_
          obtain ⟨I63, eI63, hb⟩ := p_nm hb
          refine r_puti' rfl (x_ltn rfl) rfl rfl eI63 ?_
          refine e_k 1 (f' := (70, [(4, .int v5), (3, .int v3), (0, .ref 112), (1, .int p2), (2, .int p3)], [.ref 112])) rfl ?_
          obtain ⟨v64, I64, J64, h64, hb⟩ := oc_call hb
          refine r_cv (z := m_Model_isRow) (As := []) (rest := []) rfl rfl rfl rfl rfl (x_ltn rfl) rfl rfl (E_Model_isRow  h64 ⟨_, rfl, ?_⟩)
          refine e_k 1 (f' := (if ¬ v64 = 0 then 81 else 76, [(4, .int v5), (3, .int v3), (0, .ref 112), (1, .int p2), (2, .int p3)], [])) rfl ?_
          refine e_if (fun c65 => ?_) (fun c65 => ?_)
          · replace hb := i_pos c65 hb
            refine e_k 1 (f' := (82, [(4, .int v5), (3, .int v3), (0, .ref 112), (1, .int p2), (2, .int p3)], [.ref 112])) rfl ?_
            obtain ⟨v66, I66, J66, h66, hb⟩ := oc_call hb
            refine r_cv (z := m_Model_see) (As := []) (rest := []) rfl rfl rfl rfl rfl (x_ltn rfl) rfl rfl (E_Model_see  h66 ⟨_, rfl, ?_⟩)
            refine e_k 3 (f' := (89, [(5, .int v66), (4, .int v5), (3, .int v3), (0, .ref 112), (1, .int p2), (2, .int p3)], [.ref 112, .ref 112])) rfl ?_
            refine r_geti rfl (x_ltn rfl) rfl rfl ?_
            refine e_k 2 (f' := (94, [(5, .int v66), (4, .int v5), (3, .int v3), (0, .ref 112), (1, .int p2), (2, .int p3)], [.int ((I66 112 5) + 1), .ref 112])) rfl ?_
            obtain ⟨I67, eI67, hb⟩ := p_nm hb
            refine r_puti' rfl (x_ltn rfl) rfl rfl eI67 ?_
            refine e_k 1 (f' := (98, [(5, .int v66), (4, .int v5), (3, .int v3), (0, .ref 112), (1, .int p2), (2, .int p3)], [.int p2])) rfl ?_
            obtain ⟨v68, I68, J68, h68, hb⟩ := oc_call hb
            refine r_cs (z := m_Model_isSecretRow) (As := [.int p2]) (rest := []) rfl rfl rfl rfl rfl rfl (E_Model_isSecretRow  h68 ⟨_, rfl, ?_⟩)
            refine e_k 1 (f' := (if ¬ v68 = 0 then 125 else 104, [(5, .int v66), (4, .int v5), (3, .int v3), (0, .ref 112), (1, .int p2), (2, .int p3)], [])) rfl ?_
            obtain ⟨v70, I70, J70, h70, hb⟩ := oc_call hb
            have Kj70 : am_E (gG L xs) (d + 3) m_Model_readRows (125, [(0, .ref 112), (1, .int p2), (3, .int v3), (4, .int v5), (5, .int v66)], []) (hX X I70 J70) P := by
              refine e_k 4 (f' := (if ¬ v5 = 43 then 138 else 133, [(0, .ref 112), (1, .int p2), (3, .int v3), (4, .int v5), (5, .int v66)], [.ref 112])) rfl ?_
              obtain ⟨v80, h80, hb⟩ := p_nn hb
              have Kj80 : am_E (gG L xs) (d + 3) m_Model_readRows (152, [(0, .ref 112), (1, .int p2), (3, .int v3), (5, .int v66)], [.int v80, .ref 112]) (hX X I70 J70) P := by
                refine e_k 3 (f' := (156, [(0, .ref 112), (1, .int p2), (3, .int v3), (5, .int v66)], [.int (p2 - 65), .int v80, .ref 112])) rfl ?_
                obtain ⟨v83, I83, J83, h83, hb⟩ := oc_call hb
                refine r_cv (z := m_Model_lay_IIV) (As := [.int v80, .int (p2 - 65)]) (rest := []) rfl rfl rfl rfl rfl (x_ltn rfl) rfl rfl (E_Model_lay_IIV  h83 ⟨_, rfl, ?_⟩)
                refine e_k 4 (f' := (164, [(0, .ref 112), (1, .int p2), (3, .int v3), (5, .int v66)], [.int (v3 - 65), .ref 112])) rfl ?_
                obtain ⟨v84, I84, J84, h84, hb⟩ := oc_call hb
                refine r_cv (z := m_Model_lay_IV) (As := [.int (v3 - 65)]) (rest := []) rfl rfl rfl rfl rfl (x_ltn rfl) rfl rfl (E_Model_lay_IV  h84 ⟨_, rfl, ?_⟩)
                refine e_k 4 (f' := (173, [(0, .ref 112), (1, .int p2), (3, .int v3), (5, .int v66)], [.int (v66 - 65), .ref 112])) rfl ?_
                obtain ⟨v85, I85, J85, h85, hb⟩ := oc_call hb
                refine r_cv (z := m_Model_lay_IV) (As := [.int (v66 - 65)]) (rest := []) rfl rfl rfl rfl rfl (x_ltn rfl) rfl rfl (E_Model_lay_IV  h85 ⟨_, rfl, ?_⟩)
                refine e_k 2 (f' := (179, [(0, .ref 112), (1, .int p2), (3, .int v3), (5, .int v66)], [.int 59, .ref 112])) rfl ?_
                obtain ⟨v86, I86, J86, h86, hb⟩ := oc_call hb
                refine r_cv (z := m_Model_want) (As := [.int 59]) (rest := []) rfl rfl rfl rfl rfl (x_ltn rfl) rfl rfl (E_Model_want  h86 ⟨_, rfl, ?_⟩)
                obtain ⟨o87, hb⟩ := ob_if hb
                obtain ⟨rfl, rfl, rfl⟩ := s_inj hb
                exact e_r rfl (if_pos o87) K
              clear hb
              refine e_if (fun c81 => ?_) (fun c81 => ?_)
              · replace h80 := i_pos c81 h80
                refine e_k 3 (f' := (if ¬ v5 = 45 then 150 else 145, [(0, .ref 112), (1, .int p2), (3, .int v3), (4, .int v5), (5, .int v66)], [.ref 112])) rfl ?_
                refine e_if (fun c82 => ?_) (fun c82 => ?_)
                · replace h80 := i_pos c82 h80
                  refine e_k 1 (f' := (152, [(0, .ref 112), (1, .int p2), (3, .int v3), (4, .int v5), (5, .int v66)], [.int 25, .ref 112])) rfl ?_
                  refine e_sub (ls := [(0, .ref 112), (1, .int p2), (3, .int v3), (5, .int v66)]) rfl ⟨rfl, rfl, rfl, rfl, trivial⟩ ?_
                  subst h80
                  exact Kj80
                · replace h80 := i_neg c82 h80
                  refine e_k 2 (f' := (152, [(0, .ref 112), (1, .int p2), (3, .int v3), (4, .int v5), (5, .int v66)], [.int 24, .ref 112])) rfl ?_
                  refine e_sub (ls := [(0, .ref 112), (1, .int p2), (3, .int v3), (5, .int v66)]) rfl ⟨rfl, rfl, rfl, rfl, trivial⟩ ?_
                  subst h80
                  exact Kj80
              · replace h80 := i_neg c81 h80
                refine e_k 2 (f' := (152, [(0, .ref 112), (1, .int p2), (3, .int v3), (4, .int v5), (5, .int v66)], [.int 23, .ref 112])) rfl ?_
                refine e_sub (ls := [(0, .ref 112), (1, .int p2), (3, .int v3), (5, .int v66)]) rfl ⟨rfl, rfl, rfl, rfl, trivial⟩ ?_
                subst h80
                exact Kj80
            clear hb
            refine e_if (fun c71 => ?_) (fun c71 => ?_)
            · replace h70 := i_pos c71 h70
              refine e_sub (ls := [(0, .ref 112), (1, .int p2), (3, .int v3), (4, .int v5), (5, .int v66)]) rfl ⟨rfl, rfl, rfl, rfl, rfl, trivial⟩ ?_
              obtain ⟨rfl, rfl, rfl⟩ := s_inj h70
              exact Kj70
            · replace h70 := i_neg c71 h70
              refine e_k 1 (f' := (105, [(5, .int v66), (4, .int v5), (3, .int v3), (0, .ref 112), (1, .int p2), (2, .int p3)], [.int v3])) rfl ?_
              obtain ⟨v72, I72, J72, h72, h70⟩ := oc_call h70
              refine r_cs (z := m_Model_isSecretRow) (As := [.int v3]) (rest := []) rfl rfl rfl rfl rfl rfl (E_Model_isSecretRow  h72 ⟨_, rfl, ?_⟩)
              refine e_k 1 (f' := (if ¬ v72 = 0 then 119 else 111, [(5, .int v66), (4, .int v5), (3, .int v3), (0, .ref 112), (1, .int p2), (2, .int p3)], [])) rfl ?_
              refine e_if (fun c73 => ?_) (fun c73 => ?_)
              · replace h70 := i_pos c73 h70
                refine e_k 3 (f' := (122, [(5, .int v66), (4, .int v5), (3, .int v3), (0, .ref 112), (1, .int p2), (2, .int p3)], [.int p3, .int 3, .ref 112])) rfl ?_
                obtain ⟨v74, I74, J74, h74, h70⟩ := oc_call h70
                refine r_cv (z := m_Model_note) (As := [.int 3, .int p3]) (rest := []) rfl rfl rfl rfl rfl (x_ltn rfl) rfl rfl (E_Model_note  h74 ⟨_, rfl, ?_⟩)
                refine e_sub (ls := [(0, .ref 112), (1, .int p2), (3, .int v3), (4, .int v5), (5, .int v66)]) rfl ⟨rfl, rfl, rfl, rfl, rfl, trivial⟩ ?_
                obtain ⟨rfl, rfl, rfl⟩ := s_inj h70
                exact Kj70
              · replace h70 := i_neg c73 h70
                refine e_k 1 (f' := (113, [(5, .int v66), (4, .int v5), (3, .int v3), (0, .ref 112), (1, .int p2), (2, .int p3)], [.int v66])) rfl ?_
                obtain ⟨v75, I75, J75, h75, h70⟩ := oc_call h70
                refine r_cs (z := m_Model_isSecretRow) (As := [.int v66]) (rest := []) rfl rfl rfl rfl rfl rfl (E_Model_isSecretRow  h75 ⟨_, rfl, ?_⟩)
                refine e_k 1 (f' := (if v75 = 0 then 125 else 119, [(5, .int v66), (4, .int v5), (3, .int v3), (0, .ref 112), (1, .int p2), (2, .int p3)], [])) rfl ?_
                refine e_if (fun c76 => ?_) (fun c76 => ?_)
                · replace h70 := i_pos c76 h70
                  refine e_sub (ls := [(0, .ref 112), (1, .int p2), (3, .int v3), (4, .int v5), (5, .int v66)]) rfl ⟨rfl, rfl, rfl, rfl, rfl, trivial⟩ ?_
                  obtain ⟨rfl, rfl, rfl⟩ := s_inj h70
                  exact Kj70
                · replace h70 := i_neg c76 h70
                  refine e_k 3 (f' := (122, [(5, .int v66), (4, .int v5), (3, .int v3), (0, .ref 112), (1, .int p2), (2, .int p3)], [.int p3, .int 3, .ref 112])) rfl ?_
                  obtain ⟨v77, I77, J77, h77, h70⟩ := oc_call h70
                  refine r_cv (z := m_Model_note) (As := [.int 3, .int p3]) (rest := []) rfl rfl rfl rfl rfl (x_ltn rfl) rfl rfl (E_Model_note  h77 ⟨_, rfl, ?_⟩)
                  refine e_sub (ls := [(0, .ref 112), (1, .int p2), (3, .int v3), (4, .int v5), (5, .int v66)]) rfl ⟨rfl, rfl, rfl, rfl, rfl, trivial⟩ ?_
                  obtain ⟨rfl, rfl, rfl⟩ := s_inj h70
                  exact Kj70
          · replace hb := i_neg c65 hb
            refine e_k 1 (f' := (77, [(4, .int v5), (3, .int v3), (0, .ref 112), (1, .int p2), (2, .int p3)], [.ref 112])) rfl ?_
            obtain ⟨v88, I88, J88, h88, hb⟩ := oc_call hb
            refine r_cv (z := m_Model_refuse) (As := []) (rest := []) rfl rfl rfl rfl rfl (x_ltn rfl) rfl rfl (E_Model_refuse  h88 ⟨_, rfl, ?_⟩)
            obtain ⟨o89, hb⟩ := ob_if hb
            obtain ⟨rfl, rfl, rfl⟩ := s_inj hb
            exact e_r rfl (if_pos o89) K
        · replace hb := i_neg c62 hb
          refine e_k 1 (f' := (55, [(4, .int v5), (3, .int v3), (0, .ref 112), (1, .int p2), (2, .int p3)], [.ref 112])) rfl ?_
          obtain ⟨v90, I90, J90, h90, hb⟩ := oc_call hb
          refine r_cv (z := m_Model_refuse) (As := []) (rest := []) rfl rfl rfl rfl rfl (x_ltn rfl) rfl rfl (E_Model_refuse  h90 ⟨_, rfl, ?_⟩)
          obtain ⟨o91, hb⟩ := ob_if hb
          obtain ⟨rfl, rfl, rfl⟩ := s_inj hb
          exact e_r rfl (if_pos o91) K
  · replace hb := i_neg c2 hb
    refine e_k 1 (f' := (8, [(0, .ref 112), (1, .int p2), (2, .int p3)], [.ref 112])) rfl ?_
    obtain ⟨v92, I92, J92, h92, hb⟩ := oc_call hb
    refine r_cv (z := m_Model_refuse) (As := []) (rest := []) rfl rfl rfl rfl rfl (x_ltn rfl) rfl rfl (E_Model_refuse  h92 ⟨_, rfl, ?_⟩)
    obtain ⟨o93, hb⟩ := ob_if hb
    obtain ⟨rfl, rfl, rfl⟩ := s_inj hb
    exact e_r rfl (if_pos o93) K
end AUTO
