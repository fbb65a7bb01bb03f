section AUTO
variable {L : Nat} {xs : Nat → Int32} {d : Nat} {P : am_R → am_H → Prop}
theorem E_Translator_show {X : MX} {I : MI} {J : MJ} {v : Unit} {I' : MI} {J' : MJ} (hb : f_Translator_show  I J = some (v, I', J')) (K : P (.inl (none)) (hX X I' J')) : am_E (gG L xs) (d + 3) m_Translator_show (0, lv_args 0 [.ref 3], []) (hX X I J) P := by
  unfold f_Translator_show at hb
  refine e_k 1 (f' := (1, [(0, .ref 3)], [.ref 3])) rfl ?_
  obtain ⟨v1, I1, J1, h1, hb⟩ := oc_call hb
  refine r_cv (z := m_Translator_pass) (As := []) (rest := []) rfl rfl rfl rfl rfl (x_ltn rfl) rfl rfl (E_Translator_pass  h1 ⟨_, rfl, ?_⟩)
  refine e_k 1 (f' := (5, [(0, .ref 3)], [.ref 3])) rfl ?_
  obtain ⟨v2, I2, J2, h2, hb⟩ := oc_call hb
  refine r_cv (z := m_Translator_variable) (As := []) (rest := []) rfl rfl rfl rfl rfl (x_ltn rfl) rfl rfl (E_Translator_variable  h2 ⟨_, rfl, ?_⟩)
  refine e_k 3 (f' := (12, [(1, .int v2), (0, .ref 3)], [.int 59, .ref 3])) rfl ?_
  obtain ⟨v3, I3, J3, h3, hb⟩ := oc_call hb
  refine r_cv (z := m_Translator_expect) (As := [.int 59]) (rest := []) rfl rfl rfl rfl rfl (x_ltn rfl) rfl rfl (E_Translator_expect  h3 ⟨_, rfl, ?_⟩)
  refine e_k 3 (f' := (if 13 ≤ v2 then 33 else 21, [(1, .int v2), (0, .ref 3)], [])) rfl ?_
  refine e_if (fun c4 => ?_) (fun c4 => ?_)
  · replace hb := i_pos c4 hb
    refine e_k 7 (f' := (42, [(1, .int v2), (0, .ref 3)], [.int 0, .int 0, .int (v2 - 13), .int 16, .ref 3])) rfl ?_
    obtain ⟨v5, I5, J5, h5, hb⟩ := oc_call hb
    refine r_cv (z := m_Translator_emit) (As := [.int 16, .int (v2 - 13), .int 0, .int 0]) (rest := []) rfl rfl rfl rfl rfl (x_ltn rfl) rfl rfl (E_Translator_emit  h5 ⟨_, rfl, ?_⟩)
    obtain ⟨rfl, rfl, rfl⟩ := s_inj hb
    exact e_r rfl rfl K
  · replace hb := i_neg c4 hb
    refine e_k 5 (f' := (27, [(1, .int v2), (0, .ref 3)], [.int 0, .int 0, .int v2, .int 15, .ref 3])) rfl ?_
    obtain ⟨v6, I6, J6, h6, hb⟩ := oc_call hb
    refine r_cv (z := m_Translator_emit) (As := [.int 15, .int v2, .int 0, .int 0]) (rest := []) rfl rfl rfl rfl rfl (x_ltn rfl) rfl rfl (E_Translator_emit  h6 ⟨_, rfl, ?_⟩)
    refine e_k 1 (f' := (45, [(1, .int v2), (0, .ref 3)], [])) rfl ?_
    obtain ⟨rfl, rfl, rfl⟩ := s_inj hb
    exact e_r rfl rfl K
theorem E_Translator_routine {R : M3} {p2 : Int32} {X : MX} {I : MI} {J : MJ} {v : Unit} {I' : MI} {J' : MJ} (hR_0 : ∀ {I : MI} {J : MJ} {v : Int32} {I' : MI} {J' : MJ} {P : am_R → am_H → Prop}, R 0 0 0 I J = some (v, I', J') → P (.inl (none)) (hX X I' J') → am_E (gG L xs) (d + 2) m_Translator_statements (0, lv_args 0 [.ref 3], []) (hX X I J) P) (hR_1 : ∀ {I : MI} {J : MJ} {v : Int32} {I' : MI} {J' : MJ} {P : am_R → am_H → Prop}, R 1 0 0 I J = some (v, I', J') → P (.inl (some (.int v))) (hX X I' J') → am_E (gG L xs) (d + 2) m_Translator_statement (0, lv_args 0 [.ref 3], []) (hX X I J) P) (hR_2 : ∀ {a0 : Int32} {a1 : Int32} {I : MI} {J : MJ} {v : Int32} {I' : MI} {J' : MJ} {P : am_R → am_H → Prop}, R 2 a0 a1 I J = some (v, I', J') → P (.inl (none)) (hX X I' J') → am_E (gG L xs) (d + 2) m_Translator_variableStatement (0, lv_args 0 [.ref 3, .int a0, .int a1], []) (hX X I J) P) (hR_3 : ∀ {a0 : Int32} {a1 : Int32} {I : MI} {J : MJ} {v : Int32} {I' : MI} {J' : MJ} {P : am_R → am_H → Prop}, R 3 a0 a1 I J = some (v, I', J') → P (.inl (none)) (hX X I' J') → am_E (gG L xs) (d + 2) m_Translator_assign (0, lv_args 0 [.ref 3, .int a0, .int a1], []) (hX X I J) P) (hR_4 : ∀ {a0 : Int32} {a1 : Int32} {I : MI} {J : MJ} {v : Int32} {I' : MI} {J' : MJ} {P : am_R → am_H → Prop}, R 4 a0 a1 I J = some (v, I', J') → P (.inl (none)) (hX X I' J') → am_E (gG L xs) (d + 2) m_Translator_arrayStatement (0, lv_args 0 [.ref 3, .int a0, .int a1], []) (hX X I J) P) (hR_5 : ∀ {a0 : Int32} {I : MI} {J : MJ} {v : Int32} {I' : MI} {J' : MJ} {P : am_R → am_H → Prop}, R 5 a0 0 I J = some (v, I', J') → P (.inl (none)) (hX X I' J') → am_E (gG L xs) (d + 2) m_Translator_routine (0, lv_args 0 [.ref 3, .int a0], []) (hX X I J) P) (hR_6 : ∀ {a0 : Int32} {a1 : Int32} {I : MI} {J : MJ} {v : Int32} {I' : MI} {J' : MJ} {P : am_R → am_H → Prop}, R 6 a0 a1 I J = some (v, I', J') → P (.inl (none)) (hX X I' J') → am_E (gG L xs) (d + 2) m_Translator_tell (0, lv_args 0 [.ref 3, .int a0, .int a1], []) (hX X I J) P) (hR_7 : ∀ {I : MI} {J : MJ} {v : Int32} {I' : MI} {J' : MJ} {P : am_R → am_H → Prop}, R 7 0 0 I J = some (v, I', J') → P (.inl (none)) (hX X I' J') → am_E (gG L xs) (d + 2) m_Translator_choice (0, lv_args 0 [.ref 3], []) (hX X I J) P) (hR_8 : ∀ {I : MI} {J : MJ} {v : Int32} {I' : MI} {J' : MJ} {P : am_R → am_H → Prop}, R 8 0 0 I J = some (v, I', J') → P (.inl (none)) (hX X I' J') → am_E (gG L xs) (d + 2) m_Translator_loop (0, lv_args 0 [.ref 3], []) (hX X I J) P) (hR_9 : ∀ {I : MI} {J : MJ} {v : Int32} {I' : MI} {J' : MJ} {P : am_R → am_H → Prop}, R 9 0 0 I J = some (v, I', J') → P (.inl (some (.int v))) (hX X I' J') → am_E (gG L xs) (d + 2) m_Translator_expression (0, lv_args 0 [.ref 3], []) (hX X I J) P) (hR_10 : ∀ {I : MI} {J : MJ} {v : Int32} {I' : MI} {J' : MJ} {P : am_R → am_H → Prop}, R 10 0 0 I J = some (v, I', J') → P (.inl (some (.int v))) (hX X I' J') → am_E (gG L xs) (d + 2) m_Translator_product (0, lv_args 0 [.ref 3], []) (hX X I J) P) (hR_11 : ∀ {I : MI} {J : MJ} {v : Int32} {I' : MI} {J' : MJ} {P : am_R → am_H → Prop}, R 11 0 0 I J = some (v, I', J') → P (.inl (some (.int v))) (hX X I' J') → am_E (gG L xs) (d + 2) m_Translator_factor (0, lv_args 0 [.ref 3], []) (hX X I J) P) (hR_12 : ∀ {I : MI} {J : MJ} {v : Int32} {I' : MI} {J' : MJ} {P : am_R → am_H → Prop}, R 12 0 0 I J = some (v, I', J') → P (.inl (some (.int v))) (hX X I' J') → am_E (gG L xs) (d + 2) m_Translator_atom (0, lv_args 0 [.ref 3], []) (hX X I J) P) (hR_13 : ∀ {I : MI} {J : MJ} {v : Int32} {I' : MI} {J' : MJ} {P : am_R → am_H → Prop}, R 13 0 0 I J = some (v, I', J') → P (.inl (none)) (hX X I' J') → am_E (gG L xs) (d + 2) m_Translator_index (0, lv_args 0 [.ref 3], []) (hX X I J) P) (hb : f_Translator_routine R p2 I J = some (v, I', J')) (K : P (.inl (none)) (hX X I' J')) : am_E (gG L xs) (d + 3) m_Translator_routine (0, lv_args 0 [.ref 3, .int p2], []) (hX X I J) P := by
  unfold f_Translator_routine at hb
  refine e_k 1 (f' := (1, [(0, .ref 3), (1, .int p2)], [.ref 3])) rfl ?_
  obtain ⟨v1, I1, J1, h1, hb⟩ := oc_call hb
  refine r_cv (z := m_Translator_pass) (As := []) (rest := []) rfl rfl rfl rfl rfl (x_ltn rfl) rfl rfl (E_Translator_pass  h1 ⟨_, rfl, ?_⟩)
  refine e_k 1 (f' := (5, [(0, .ref 3), (1, .int p2)], [.ref 3])) rfl ?_
  obtain ⟨v2, I2, J2, h2, hb⟩ := oc_call hb
  refine r_cv (z := m_Translator_digit) (As := []) (rest := []) rfl rfl rfl rfl rfl (x_ltn rfl) rfl rfl (E_Translator_digit  h2 ⟨_, rfl, ?_⟩)
  refine e_k 2 (f' := (10, [(2, .int v2), (0, .ref 3), (1, .int p2)], [.ref 3])) rfl ?_
  obtain ⟨v3, I3, J3, h3, hb⟩ := oc_call hb
  refine r_cv (z := m_Translator_look) (As := []) (rest := []) rfl rfl rfl rfl rfl (x_ltn rfl) rfl rfl (E_Translator_look  h3 ⟨_, rfl, ?_⟩)
  refine e_k 2 (f' := (if ¬ v3 = 91 then 32 else 18, [(2, .int v2), (0, .ref 3), (1, .int p2)], [])) rfl ?_
  refine e_if (fun c4 => ?_) (fun c4 => ?_)
  · replace hb := i_pos c4 hb
    refine e_k 2 (f' := (35, [(2, .int v2), (0, .ref 3), (1, .int p2)], [.int 59, .ref 3])) rfl ?_
    obtain ⟨v5, I5, J5, h5, hb⟩ := oc_call hb
    refine r_cv (z := m_Translator_expect) (As := [.int 59]) (rest := []) rfl rfl rfl rfl rfl (x_ltn rfl) rfl rfl (E_Translator_expect  h5 ⟨_, rfl, ?_⟩)
    refine e_k 2 (f' := (40, [(2, .int v2), (0, .ref 3), (1, .int p2)], [.ref 3, .int v2])) rfl ?_
    refine r_getr rfl (x_ltn rfl) rfl rfl ?_
    refine r_alen rfl rfl (x_ltn rfl) rfl rfl ?_
    refine e_k 1 (f' := (if (nI 10) ≤ v2 then 64 else 47, [(2, .int v2), (0, .ref 3), (1, .int p2)], [])) rfl ?_
    obtain ⟨v7, I7, J7, h7, hb⟩ := oc_call hb
    have Kj7 : am_E (gG L xs) (d + 3) m_Translator_routine (64, [(0, .ref 3), (2, .int v2)], []) (hX X I7 J7) P := by
      refine e_k 5 (f' := (70, [(0, .ref 3), (2, .int v2)], [.int 0, .int v2, .int 0, .int 28, .ref 3])) rfl ?_
      obtain ⟨v13, I13, J13, h13, hb⟩ := oc_call hb
      refine r_cv (z := m_Translator_emit) (As := [.int 28, .int 0, .int v2, .int 0]) (rest := []) rfl rfl rfl rfl rfl (x_ltn rfl) rfl rfl (E_Translator_emit  h13 ⟨_, rfl, ?_⟩)
      obtain ⟨rfl, rfl, rfl⟩ := s_inj hb
      exact e_r rfl rfl K
    clear hb
    refine e_if (fun c8 => ?_) (fun c8 => ?_)
    · replace h7 := i_pos c8 h7
      refine e_sub (ls := [(0, .ref 3), (2, .int v2)]) rfl ⟨rfl, rfl, trivial⟩ ?_
      obtain ⟨rfl, rfl, rfl⟩ := s_inj h7
      exact Kj7
    · replace h7 := i_neg c8 h7
      refine e_k 1 (f' := (48, [(2, .int v2), (0, .ref 3), (1, .int p2)], [.ref 3])) rfl ?_
      refine r_getr rfl (x_ltn rfl) rfl rfl ?_
      refine e_k 1 (f' := (52, [(2, .int v2), (0, .ref 3), (1, .int p2)], [.int v2, .ref 9])) rfl ?_
      obtain ⟨o9, h7⟩ := ob_in h7
      refine r_iald rfl rfl (x_ltn rfl) rfl o9 ?_
      refine e_k 2 (f' := (if ¬ (I5 9 (Int32.toNatClampNeg v2)) = (-1) then 64 else 57, [(2, .int v2), (0, .ref 3), (1, .int p2)], [])) rfl ?_
      refine e_if (fun c10 => ?_) (fun c10 => ?_)
      · replace h7 := i_pos c10 h7
        refine e_sub (ls := [(0, .ref 3), (2, .int v2)]) rfl ⟨rfl, rfl, trivial⟩ ?_
        obtain ⟨rfl, rfl, rfl⟩ := s_inj h7
        exact Kj7
      · replace h7 := i_neg c10 h7
        refine e_k 1 (f' := (58, [(2, .int v2), (0, .ref 3), (1, .int p2)], [.ref 3])) rfl ?_
        refine r_getr rfl (x_ltn rfl) rfl rfl ?_
        refine e_k 2 (f' := (63, [(2, .int v2), (0, .ref 3), (1, .int p2)], [.int p2, .int v2, .ref 9])) rfl ?_
        obtain ⟨o11, h7⟩ := ob_in h7
        obtain ⟨I12, eI12, h7⟩ := p_nm h7
        refine r_iast' rfl (x_ltn rfl) rfl o11 eI12 ?_
        refine e_sub (ls := [(0, .ref 3), (2, .int v2)]) rfl ⟨rfl, rfl, trivial⟩ ?_
        obtain ⟨rfl, rfl, rfl⟩ := s_inj h7
        exact Kj7
  · replace hb := i_neg c4 hb
    refine e_k 1 (f' := (19, [(2, .int v2), (0, .ref 3), (1, .int p2)], [.ref 3])) rfl ?_
    refine r_geti rfl (x_ltn rfl) rfl rfl ?_
    refine e_k 1 (f' := (if ¬ (I3 3 7) = 0 then 32 else 25, [(2, .int v2), (0, .ref 3), (1, .int p2)], [])) rfl ?_
    refine e_if (fun c14 => ?_) (fun c14 => ?_)
    · replace hb := i_pos c14 hb
      refine e_k 2 (f' := (35, [(2, .int v2), (0, .ref 3), (1, .int p2)], [.int 59, .ref 3])) rfl ?_
      obtain ⟨v15, I15, J15, h15, hb⟩ := oc_call hb
      refine r_cv (z := m_Translator_expect) (As := [.int 59]) (rest := []) rfl rfl rfl rfl rfl (x_ltn rfl) rfl rfl (E_Translator_expect  h15 ⟨_, rfl, ?_⟩)
      refine e_k 2 (f' := (40, [(2, .int v2), (0, .ref 3), (1, .int p2)], [.ref 3, .int v2])) rfl ?_
      refine r_getr rfl (x_ltn rfl) rfl rfl ?_
      refine r_alen rfl rfl (x_ltn rfl) rfl rfl ?_
      refine e_k 1 (f' := (if (nI 10) ≤ v2 then 64 else 47, [(2, .int v2), (0, .ref 3), (1, .int p2)], [])) rfl ?_
      obtain ⟨v17, I17, J17, h17, hb⟩ := oc_call hb
      have Kj17 : am_E (gG L xs) (d + 3) m_Translator_routine (64, [(0, .ref 3), (2, .int v2)], []) (hX X I17 J17) P := by
        refine e_k 5 (f' := (70, [(0, .ref 3), (2, .int v2)], [.int 0, .int v2, .int 0, .int 28, .ref 3])) rfl ?_
        obtain ⟨v23, I23, J23, h23, hb⟩ := oc_call hb
        refine r_cv (z := m_Translator_emit) (As := [.int 28, .int 0, .int v2, .int 0]) (rest := []) rfl rfl rfl rfl rfl (x_ltn rfl) rfl rfl (E_Translator_emit  h23 ⟨_, rfl, ?_⟩)
        obtain ⟨rfl, rfl, rfl⟩ := s_inj hb
        exact e_r rfl rfl K
      clear hb
      refine e_if (fun c18 => ?_) (fun c18 => ?_)
      · replace h17 := i_pos c18 h17
        refine e_sub (ls := [(0, .ref 3), (2, .int v2)]) rfl ⟨rfl, rfl, trivial⟩ ?_
        obtain ⟨rfl, rfl, rfl⟩ := s_inj h17
        exact Kj17
      · replace h17 := i_neg c18 h17
        refine e_k 1 (f' := (48, [(2, .int v2), (0, .ref 3), (1, .int p2)], [.ref 3])) rfl ?_
        refine r_getr rfl (x_ltn rfl) rfl rfl ?_
        refine e_k 1 (f' := (52, [(2, .int v2), (0, .ref 3), (1, .int p2)], [.int v2, .ref 9])) rfl ?_
        obtain ⟨o19, h17⟩ := ob_in h17
        refine r_iald rfl rfl (x_ltn rfl) rfl o19 ?_
        refine e_k 2 (f' := (if ¬ (I15 9 (Int32.toNatClampNeg v2)) = (-1) then 64 else 57, [(2, .int v2), (0, .ref 3), (1, .int p2)], [])) rfl ?_
        refine e_if (fun c20 => ?_) (fun c20 => ?_)
        · replace h17 := i_pos c20 h17
          refine e_sub (ls := [(0, .ref 3), (2, .int v2)]) rfl ⟨rfl, rfl, trivial⟩ ?_
          obtain ⟨rfl, rfl, rfl⟩ := s_inj h17
          exact Kj17
        · replace h17 := i_neg c20 h17
          refine e_k 1 (f' := (58, [(2, .int v2), (0, .ref 3), (1, .int p2)], [.ref 3])) rfl ?_
          refine r_getr rfl (x_ltn rfl) rfl rfl ?_
          refine e_k 2 (f' := (63, [(2, .int v2), (0, .ref 3), (1, .int p2)], [.int p2, .int v2, .ref 9])) rfl ?_
          obtain ⟨o21, h17⟩ := ob_in h17
          obtain ⟨I22, eI22, h17⟩ := p_nm h17
          refine r_iast' rfl (x_ltn rfl) rfl o21 eI22 ?_
          refine e_sub (ls := [(0, .ref 3), (2, .int v2)]) rfl ⟨rfl, rfl, trivial⟩ ?_
          obtain ⟨rfl, rfl, rfl⟩ := s_inj h17
          exact Kj17
    · replace hb := i_neg c14 hb
      refine e_k 3 (f' := (28, [(2, .int v2), (0, .ref 3), (1, .int p2)], [.int p2, .int v2, .ref 3])) rfl ?_
      obtain ⟨v24, I24, J24, h24, hb⟩ := oc_call hb
      refine r_cv (z := m_Translator_tell) (As := [.int v2, .int p2]) (rest := []) rfl rfl rfl rfl rfl (x_ltn rfl) rfl rfl (hR_6  h24 ⟨_, rfl, ?_⟩)
      obtain ⟨rfl, rfl, rfl⟩ := s_inj hb
      exact e_r rfl rfl K
theorem E_Translator_tell {R : M3} {p2 : Int32} {p3 : Int32} {X : MX} {I : MI} {J : MJ} {v : Unit} {I' : MI} {J' : MJ} (hR_0 : ∀ {I : MI} {J : MJ} {v : Int32} {I' : MI} {J' : MJ} {P : am_R → am_H → Prop}, R 0 0 0 I J = some (v, I', J') → P (.inl (none)) (hX X I' J') → am_E (gG L xs) (d + 2) m_Translator_statements (0, lv_args 0 [.ref 3], []) (hX X I J) P) (hR_1 : ∀ {I : MI} {J : MJ} {v : Int32} {I' : MI} {J' : MJ} {P : am_R → am_H → Prop}, R 1 0 0 I J = some (v, I', J') → P (.inl (some (.int v))) (hX X I' J') → am_E (gG L xs) (d + 2) m_Translator_statement (0, lv_args 0 [.ref 3], []) (hX X I J) P) (hR_2 : ∀ {a0 : Int32} {a1 : Int32} {I : MI} {J : MJ} {v : Int32} {I' : MI} {J' : MJ} {P : am_R → am_H → Prop}, R 2 a0 a1 I J = some (v, I', J') → P (.inl (none)) (hX X I' J') → am_E (gG L xs) (d + 2) m_Translator_variableStatement (0, lv_args 0 [.ref 3, .int a0, .int a1], []) (hX X I J) P) (hR_3 : ∀ {a0 : Int32} {a1 : Int32} {I : MI} {J : MJ} {v : Int32} {I' : MI} {J' : MJ} {P : am_R → am_H → Prop}, R 3 a0 a1 I J = some (v, I', J') → P (.inl (none)) (hX X I' J') → am_E (gG L xs) (d + 2) m_Translator_assign (0, lv_args 0 [.ref 3, .int a0, .int a1], []) (hX X I J) P) (hR_4 : ∀ {a0 : Int32} {a1 : Int32} {I : MI} {J : MJ} {v : Int32} {I' : MI} {J' : MJ} {P : am_R → am_H → Prop}, R 4 a0 a1 I J = some (v, I', J') → P (.inl (none)) (hX X I' J') → am_E (gG L xs) (d + 2) m_Translator_arrayStatement (0, lv_args 0 [.ref 3, .int a0, .int a1], []) (hX X I J) P) (hR_5 : ∀ {a0 : Int32} {I : MI} {J : MJ} {v : Int32} {I' : MI} {J' : MJ} {P : am_R → am_H → Prop}, R 5 a0 0 I J = some (v, I', J') → P (.inl (none)) (hX X I' J') → am_E (gG L xs) (d + 2) m_Translator_routine (0, lv_args 0 [.ref 3, .int a0], []) (hX X I J) P) (hR_6 : ∀ {a0 : Int32} {a1 : Int32} {I : MI} {J : MJ} {v : Int32} {I' : MI} {J' : MJ} {P : am_R → am_H → Prop}, R 6 a0 a1 I J = some (v, I', J') → P (.inl (none)) (hX X I' J') → am_E (gG L xs) (d + 2) m_Translator_tell (0, lv_args 0 [.ref 3, .int a0, .int a1], []) (hX X I J) P) (hR_7 : ∀ {I : MI} {J : MJ} {v : Int32} {I' : MI} {J' : MJ} {P : am_R → am_H → Prop}, R 7 0 0 I J = some (v, I', J') → P (.inl (none)) (hX X I' J') → am_E (gG L xs) (d + 2) m_Translator_choice (0, lv_args 0 [.ref 3], []) (hX X I J) P) (hR_8 : ∀ {I : MI} {J : MJ} {v : Int32} {I' : MI} {J' : MJ} {P : am_R → am_H → Prop}, R 8 0 0 I J = some (v, I', J') → P (.inl (none)) (hX X I' J') → am_E (gG L xs) (d + 2) m_Translator_loop (0, lv_args 0 [.ref 3], []) (hX X I J) P) (hR_9 : ∀ {I : MI} {J : MJ} {v : Int32} {I' : MI} {J' : MJ} {P : am_R → am_H → Prop}, R 9 0 0 I J = some (v, I', J') → P (.inl (some (.int v))) (hX X I' J') → am_E (gG L xs) (d + 2) m_Translator_expression (0, lv_args 0 [.ref 3], []) (hX X I J) P) (hR_10 : ∀ {I : MI} {J : MJ} {v : Int32} {I' : MI} {J' : MJ} {P : am_R → am_H → Prop}, R 10 0 0 I J = some (v, I', J') → P (.inl (some (.int v))) (hX X I' J') → am_E (gG L xs) (d + 2) m_Translator_product (0, lv_args 0 [.ref 3], []) (hX X I J) P) (hR_11 : ∀ {I : MI} {J : MJ} {v : Int32} {I' : MI} {J' : MJ} {P : am_R → am_H → Prop}, R 11 0 0 I J = some (v, I', J') → P (.inl (some (.int v))) (hX X I' J') → am_E (gG L xs) (d + 2) m_Translator_factor (0, lv_args 0 [.ref 3], []) (hX X I J) P) (hR_12 : ∀ {I : MI} {J : MJ} {v : Int32} {I' : MI} {J' : MJ} {P : am_R → am_H → Prop}, R 12 0 0 I J = some (v, I', J') → P (.inl (some (.int v))) (hX X I' J') → am_E (gG L xs) (d + 2) m_Translator_atom (0, lv_args 0 [.ref 3], []) (hX X I J) P) (hR_13 : ∀ {I : MI} {J : MJ} {v : Int32} {I' : MI} {J' : MJ} {P : am_R → am_H → Prop}, R 13 0 0 I J = some (v, I', J') → P (.inl (none)) (hX X I' J') → am_E (gG L xs) (d + 2) m_Translator_index (0, lv_args 0 [.ref 3], []) (hX X I J) P) (hb : f_Translator_tell R p2 p3 I J = some (v, I', J')) (K : P (.inl (none)) (hX X I' J')) : am_E (gG L xs) (d + 3) m_Translator_tell (0, lv_args 0 [.ref 3, .int p2, .int p3], []) (hX X I J) P := by
  unfold f_Translator_tell at hb
  refine e_k 1 (f' := (1, [(0, .ref 3), (1, .int p2), (2, .int p3)], [.ref 3])) rfl ?_
  obtain ⟨v1, I1, J1, h1, hb⟩ := oc_call hb
  refine r_cv (z := m_Translator_pass) (As := []) (rest := []) rfl rfl rfl rfl rfl (x_ltn rfl) rfl rfl (E_Translator_pass  h1 ⟨_, rfl, ?_⟩)
  refine e_k 2 (f' := (6, [(0, .ref 3), (1, .int p2), (2, .int p3)], [.ref 3, .ref 3])) rfl ?_
  refine r_geti rfl (x_ltn rfl) rfl rfl ?_
  refine e_k 2 (f' := (11, [(0, .ref 3), (1, .int p2), (2, .int p3)], [.int ((I1 3 7) + 1), .ref 3])) rfl ?_
  obtain ⟨I2, eI2, hb⟩ := p_nm hb
  refine r_puti' rfl (x_ltn rfl) rfl rfl eI2 ?_
  refine e_k 1 (f' := (15, [(0, .ref 3), (1, .int p2), (2, .int p3)], [.ref 3])) rfl ?_
  refine r_getr rfl (x_ltn rfl) rfl rfl ?_
  refine r_geti rfl (x_ltn rfl) rfl rfl ?_
  refine e_k 1 (f' := (22, [(3, .int (I2 6 1)), (0, .ref 3), (1, .int p2), (2, .int p3)], [])) rfl ?_
  obtain ⟨x3, ex3, hb⟩ := p_nm hb
  rw [← ex3]
  refine e_k 5 (f' := (28, [(3, .int x3), (0, .ref 3), (1, .int p2), (2, .int p3)], [.int 0, .int 0, .int 0, .int 18, .ref 3])) rfl ?_
  obtain ⟨v4, I4, J4, h4, hb⟩ := oc_call hb
  refine r_cv (z := m_Translator_emit) (As := [.int 18, .int 0, .int 0, .int 0]) (rest := []) rfl rfl rfl rfl rfl (x_ltn rfl) rfl rfl (E_Translator_emit  h4 ⟨_, rfl, ?_⟩)
  refine e_k 2 (f' := (33, [(3, .int x3), (0, .ref 3), (1, .int p2), (2, .int p3)], [.ref 3, .int p2])) rfl ?_
  refine r_getr rfl (x_ltn rfl) rfl rfl ?_
  refine r_alen rfl rfl (x_ltn rfl) rfl rfl ?_
  refine e_k 1 (f' := (if (nI 10) ≤ p2 then 69 else 40, [(3, .int x3), (0, .ref 3), (1, .int p2), (2, .int p3)], [])) rfl ?_
  obtain ⟨v6, I6, J6, h6, hb⟩ := oc_call hb
  have Kj6 : am_E (gG L xs) (d + 3) m_Translator_tell (69, [(0, .ref 3), (3, .int x3)], []) (hX X I6 J6) P := by
    refine e_k 1 (f' := (70, [(0, .ref 3), (3, .int x3)], [.ref 3])) rfl ?_
    obtain ⟨v15, I15, J15, h15, hb⟩ := oc_call hb
    refine r_cv (z := m_Translator_statements) (As := []) (rest := []) rfl rfl rfl rfl rfl (x_ltn rfl) rfl rfl (hR_0  h15 ⟨_, rfl, ?_⟩)
    refine e_k 2 (f' := (76, [(0, .ref 3), (3, .int x3)], [.int 93, .ref 3])) rfl ?_
    obtain ⟨v16, I16, J16, h16, hb⟩ := oc_call hb
    refine r_cv (z := m_Translator_expect) (As := [.int 93]) (rest := []) rfl rfl rfl rfl rfl (x_ltn rfl) rfl rfl (E_Translator_expect  h16 ⟨_, rfl, ?_⟩)
    refine e_k 2 (f' := (81, [(0, .ref 3), (3, .int x3)], [.ref 3, .ref 3])) rfl ?_
    refine r_geti rfl (x_ltn rfl) rfl rfl ?_
    refine e_k 2 (f' := (86, [(0, .ref 3), (3, .int x3)], [.int ((I16 3 7) - 1), .ref 3])) rfl ?_
    obtain ⟨I17, eI17, hb⟩ := p_nm hb
    refine r_puti' rfl (x_ltn rfl) rfl rfl eI17 ?_
    refine e_k 5 (f' := (95, [(0, .ref 3), (3, .int x3)], [.int 0, .int 0, .int 0, .int 29, .ref 3])) rfl ?_
    obtain ⟨v18, I18, J18, h18, hb⟩ := oc_call hb
    refine r_cv (z := m_Translator_emit) (As := [.int 29, .int 0, .int 0, .int 0]) (rest := []) rfl rfl rfl rfl rfl (x_ltn rfl) rfl rfl (E_Translator_emit  h18 ⟨_, rfl, ?_⟩)
    refine e_k 1 (f' := (99, [(0, .ref 3), (3, .int x3)], [.ref 3])) rfl ?_
    refine r_getr rfl (x_ltn rfl) rfl rfl ?_
    refine e_k 4 (f' := (106, [(0, .ref 3), (3, .int x3)], [.ref 3, .int (x3 + 1), .ref 6])) rfl ?_
    refine r_getr rfl (x_ltn rfl) rfl rfl ?_
    refine r_geti rfl (x_ltn rfl) rfl rfl ?_
    obtain ⟨v19, I19, J19, h19, hb⟩ := oc_call hb
    refine r_cv (z := m_Row_aim) (As := [.int (x3 + 1), .int (I18 6 1)]) (rest := []) rfl rfl rfl rfl rfl (x_ltn rfl) rfl rfl (E_Row_aim row_6 h19 ⟨_, rfl, ?_⟩)
    obtain ⟨rfl, rfl, rfl⟩ := s_inj hb
    exact e_r rfl rfl K
  clear hb
  refine e_if (fun c7 => ?_) (fun c7 => ?_)
  · replace h6 := i_pos c7 h6
    refine e_sub (ls := [(0, .ref 3), (3, .int x3)]) rfl ⟨rfl, rfl, trivial⟩ ?_
    obtain ⟨rfl, rfl, rfl⟩ := s_inj h6
    exact Kj6
  · replace h6 := i_neg c7 h6
    refine e_k 1 (f' := (41, [(3, .int x3), (0, .ref 3), (1, .int p2), (2, .int p3)], [.ref 3])) rfl ?_
    refine r_getr rfl (x_ltn rfl) rfl rfl ?_
    refine e_k 1 (f' := (45, [(3, .int x3), (0, .ref 3), (1, .int p2), (2, .int p3)], [.int p2, .ref 8])) rfl ?_
    obtain ⟨o8, h6⟩ := ob_in h6
    refine r_iald rfl rfl (x_ltn rfl) rfl o8 ?_
    refine e_k 2 (f' := (if (I4 8 (Int32.toNatClampNeg p2)) = (-1) then 56 else 50, [(3, .int x3), (0, .ref 3), (1, .int p2), (2, .int p3)], [])) rfl ?_
    obtain ⟨v10, I10, J10, h10, h6⟩ := oc_call h6
    have Kj10 : am_E (gG L xs) (d + 3) m_Translator_tell (56, [(0, .ref 3), (1, .int p2), (3, .int x3)], []) (hX X I10 J10) P := by
      refine e_k 1 (f' := (57, [(0, .ref 3), (1, .int p2), (3, .int x3)], [.ref 3])) rfl ?_
      refine r_getr rfl (x_ltn rfl) rfl rfl ?_
      refine e_k 2 (f' := (62, [(0, .ref 3), (1, .int p2), (3, .int x3)], [.ref 3, .int p2, .ref 8])) rfl ?_
      refine r_getr rfl (x_ltn rfl) rfl rfl ?_
      refine r_geti rfl (x_ltn rfl) rfl rfl ?_
      obtain ⟨o13, h6⟩ := ob_in h6
      obtain ⟨I14, eI14, h6⟩ := p_nm h6
      refine r_iast' rfl (x_ltn rfl) rfl o13 eI14 ?_
      refine e_sub (ls := [(0, .ref 3), (3, .int x3)]) rfl ⟨rfl, rfl, trivial⟩ ?_
      obtain ⟨rfl, rfl, rfl⟩ := s_inj h6
      exact Kj6
    clear h6
    refine e_if (fun c11 => ?_) (fun c11 => ?_)
    · replace h10 := i_pos c11 h10
      refine e_sub (ls := [(0, .ref 3), (1, .int p2), (3, .int x3)]) rfl ⟨rfl, rfl, rfl, trivial⟩ ?_
      obtain ⟨rfl, rfl, rfl⟩ := s_inj h10
      exact Kj10
    · replace h10 := i_neg c11 h10
      refine e_k 3 (f' := (53, [(3, .int x3), (0, .ref 3), (1, .int p2), (2, .int p3)], [.int p3, .int 5, .ref 3])) rfl ?_
      obtain ⟨v12, I12, J12, h12, h10⟩ := oc_call h10
      refine r_cv (z := m_Translator_blame) (As := [.int 5, .int p3]) (rest := []) rfl rfl rfl rfl rfl (x_ltn rfl) rfl rfl (E_Translator_blame  h12 ⟨_, rfl, ?_⟩)
      refine e_sub (ls := [(0, .ref 3), (1, .int p2), (3, .int x3)]) rfl ⟨rfl, rfl, rfl, trivial⟩ ?_
      obtain ⟨rfl, rfl, rfl⟩ := s_inj h10
      exact Kj10
theorem E_Translator_decider {X : MX} {I : MI} {J : MJ} {v : Int32} {I' : MI} {J' : MJ} (hb : f_Translator_decider  I J = some (v, I', J')) (K : P (.inl (some (.int v))) (hX X I' J')) : am_E (gG L xs) (d + 3) m_Translator_decider (0, lv_args 0 [.ref 3], []) (hX X I J) P := by
  unfold f_Translator_decider at hb
  refine e_k 1 (f' := (1, [(0, .ref 3)], [.ref 3])) rfl ?_
  obtain ⟨v1, I1, J1, h1, hb⟩ := oc_call hb
  refine r_cv (z := m_Translator_look) (As := []) (rest := []) rfl rfl rfl rfl rfl (x_ltn rfl) rfl rfl (E_Translator_look  h1 ⟨_, rfl, ?_⟩)
  refine e_k 2 (f' := (6, [(0, .ref 3)], [.ref 3])) rfl ?_
  refine r_geti rfl (x_ltn rfl) rfl rfl ?_
  refine e_k 1 (f' := (10, [(1, .int (I1 3 5)), (0, .ref 3)], [])) rfl ?_
  obtain ⟨x2, ex2, hb⟩ := p_nm hb
  rw [← ex2]
  refine e_k 1 (f' := (11, [(1, .int x2), (0, .ref 3)], [.ref 3])) rfl ?_
  obtain ⟨v3, I3, J3, h3, hb⟩ := oc_call hb
  refine r_cv (z := m_Translator_variable) (As := []) (rest := []) rfl rfl rfl rfl rfl (x_ltn rfl) rfl rfl (E_Translator_variable  h3 ⟨_, rfl, ?_⟩)
  refine e_k 4 (f' := (18, [(2, .int v3), (1, .int x2), (0, .ref 3)], [.int x2, .int v3, .ref 3])) rfl ?_
  obtain ⟨v4, I4, J4, h4, hb⟩ := oc_call hb
  refine r_cv (z := m_Translator_wantClear) (As := [.int v3, .int x2]) (rest := []) rfl rfl rfl rfl rfl (x_ltn rfl) rfl rfl (E_Translator_wantClear  h4 ⟨_, rfl, ?_⟩)
  refine e_k 1 (f' := (22, [(2, .int v3), (1, .int x2), (0, .ref 3)], [.int v3])) rfl ?_
  obtain ⟨rfl, rfl, rfl⟩ := s_inj hb
  exact e_r rfl rfl K
theorem E_Translator_factor_40 {R : M3} {X : MX} (hR_0 : ∀ {I : MI} {J : MJ} {v : Int32} {I' : MI} {J' : MJ} {P : am_R → am_H → Prop}, R 0 0 0 I J = some (v, I', J') → P (.inl (none)) (hX X I' J') → am_E (gG L xs) (d + 1) m_Translator_statements (0, lv_args 0 [.ref 3], []) (hX X I J) P) (hR_1 : ∀ {I : MI} {J : MJ} {v : Int32} {I' : MI} {J' : MJ} {P : am_R → am_H → Prop}, R 1 0 0 I J = some (v, I', J') → P (.inl (some (.int v))) (hX X I' J') → am_E (gG L xs) (d + 1) m_Translator_statement (0, lv_args 0 [.ref 3], []) (hX X I J) P) (hR_2 : ∀ {a0 : Int32} {a1 : Int32} {I : MI} {J : MJ} {v : Int32} {I' : MI} {J' : MJ} {P : am_R → am_H → Prop}, R 2 a0 a1 I J = some (v, I', J') → P (.inl (none)) (hX X I' J') → am_E (gG L xs) (d + 1) m_Translator_variableStatement (0, lv_args 0 [.ref 3, .int a0, .int a1], []) (hX X I J) P) (hR_3 : ∀ {a0 : Int32} {a1 : Int32} {I : MI} {J : MJ} {v : Int32} {I' : MI} {J' : MJ} {P : am_R → am_H → Prop}, R 3 a0 a1 I J = some (v, I', J') → P (.inl (none)) (hX X I' J') → am_E (gG L xs) (d + 1) m_Translator_assign (0, lv_args 0 [.ref 3, .int a0, .int a1], []) (hX X I J) P) (hR_4 : ∀ {a0 : Int32} {a1 : Int32} {I : MI} {J : MJ} {v : Int32} {I' : MI} {J' : MJ} {P : am_R → am_H → Prop}, R 4 a0 a1 I J = some (v, I', J') → P (.inl (none)) (hX X I' J') → am_E (gG L xs) (d + 1) m_Translator_arrayStatement (0, lv_args 0 [.ref 3, .int a0, .int a1], []) (hX X I J) P) (hR_5 : ∀ {a0 : Int32} {I : MI} {J : MJ} {v : Int32} {I' : MI} {J' : MJ} {P : am_R → am_H → Prop}, R 5 a0 0 I J = some (v, I', J') → P (.inl (none)) (hX X I' J') → am_E (gG L xs) (d + 1) m_Translator_routine (0, lv_args 0 [.ref 3, .int a0], []) (hX X I J) P) (hR_6 : ∀ {a0 : Int32} {a1 : Int32} {I : MI} {J : MJ} {v : Int32} {I' : MI} {J' : MJ} {P : am_R → am_H → Prop}, R 6 a0 a1 I J = some (v, I', J') → P (.inl (none)) (hX X I' J') → am_E (gG L xs) (d + 1) m_Translator_tell (0, lv_args 0 [.ref 3, .int a0, .int a1], []) (hX X I J) P) (hR_7 : ∀ {I : MI} {J : MJ} {v : Int32} {I' : MI} {J' : MJ} {P : am_R → am_H → Prop}, R 7 0 0 I J = some (v, I', J') → P (.inl (none)) (hX X I' J') → am_E (gG L xs) (d + 1) m_Translator_choice (0, lv_args 0 [.ref 3], []) (hX X I J) P) (hR_8 : ∀ {I : MI} {J : MJ} {v : Int32} {I' : MI} {J' : MJ} {P : am_R → am_H → Prop}, R 8 0 0 I J = some (v, I', J') → P (.inl (none)) (hX X I' J') → am_E (gG L xs) (d + 1) m_Translator_loop (0, lv_args 0 [.ref 3], []) (hX X I J) P) (hR_9 : ∀ {I : MI} {J : MJ} {v : Int32} {I' : MI} {J' : MJ} {P : am_R → am_H → Prop}, R 9 0 0 I J = some (v, I', J') → P (.inl (some (.int v))) (hX X I' J') → am_E (gG L xs) (d + 1) m_Translator_expression (0, lv_args 0 [.ref 3], []) (hX X I J) P) (hR_10 : ∀ {I : MI} {J : MJ} {v : Int32} {I' : MI} {J' : MJ} {P : am_R → am_H → Prop}, R 10 0 0 I J = some (v, I', J') → P (.inl (some (.int v))) (hX X I' J') → am_E (gG L xs) (d + 1) m_Translator_product (0, lv_args 0 [.ref 3], []) (hX X I J) P) (hR_11 : ∀ {I : MI} {J : MJ} {v : Int32} {I' : MI} {J' : MJ} {P : am_R → am_H → Prop}, R 11 0 0 I J = some (v, I', J') → P (.inl (some (.int v))) (hX X I' J') → am_E (gG L xs) (d + 1) m_Translator_factor (0, lv_args 0 [.ref 3], []) (hX X I J) P) (hR_12 : ∀ {I : MI} {J : MJ} {v : Int32} {I' : MI} {J' : MJ} {P : am_R → am_H → Prop}, R 12 0 0 I J = some (v, I', J') → P (.inl (some (.int v))) (hX X I' J') → am_E (gG L xs) (d + 1) m_Translator_atom (0, lv_args 0 [.ref 3], []) (hX X I J) P) (hR_13 : ∀ {I : MI} {J : MJ} {v : Int32} {I' : MI} {J' : MJ} {P : am_R → am_H → Prop}, R 13 0 0 I J = some (v, I', J') → P (.inl (none)) (hX X I' J') → am_E (gG L xs) (d + 1) m_Translator_index (0, lv_args 0 [.ref 3], []) (hX X I J) P) : ∀ (fu : Nat) {l1 : Int32} {l2 : Int32} {I : MI} {J : MJ} {r : (Unit)} {I' : MI} {J' : MJ}, f_Translator_factor_40 R  fu l1 l2 I J = some (r, I', J') → am_E (gG L xs) (d + 2) m_Translator_factor (84, [(1, .int l1)], []) (hX X I' J') P → am_E (gG L xs) (d + 2) m_Translator_factor (40, [(0, .ref 3), (1, .int l1), (2, .int l2)], []) (hX X I J) P := by
  intro fu
  induction fu with
  | zero =>
    intros
    rename_i hb _
    cases hb
  | succ fu ih =>
    intro l1 l2 I J r I' J' hb K
    unfold f_Translator_factor_40 at hb
    refine e_k 3 (f' := (if 400 ≤ l2 then 84 else 47, [(0, .ref 3), (1, .int l1), (2, .int l2)], [])) rfl ?_
    refine e_if (fun c4 => ?_) (fun c4 => ?_)
    · replace hb := i_pos c4 hb
      refine e_sub (ls := [(1, .int l1)]) rfl ⟨rfl, trivial⟩ ?_
      obtain ⟨rfl, rfl, rfl⟩ := s_inj hb
      exact K
    · replace hb := i_neg c4 hb
      refine e_k 1 (f' := (48, [(0, .ref 3), (1, .int l1), (2, .int l2)], [.ref 3])) rfl ?_
      obtain ⟨v5, I5, J5, h5, hb⟩ := oc_call hb
      refine r_cv (z := m_Translator_look) (As := []) (rest := []) rfl rfl rfl rfl rfl (x_ltn rfl) rfl rfl (E_Translator_look  h5 ⟨_, rfl, ?_⟩)
      refine e_k 2 (f' := (if ¬ v5 = 94 then 84 else 56, [(0, .ref 3), (1, .int l1), (2, .int l2)], [])) rfl ?_
      refine e_if (fun c6 => ?_) (fun c6 => ?_)
      · replace hb := i_pos c6 hb
        refine e_sub (ls := [(1, .int l1)]) rfl ⟨rfl, trivial⟩ ?_
        obtain ⟨rfl, rfl, rfl⟩ := s_inj hb
        exact K
      · replace hb := i_neg c6 hb
        refine e_k 1 (f' := (57, [(0, .ref 3), (1, .int l1), (2, .int l2)], [.ref 3])) rfl ?_
        obtain ⟨v7, I7, J7, h7, hb⟩ := oc_call hb
        refine r_cv (z := m_Translator_pass) (As := []) (rest := []) rfl rfl rfl rfl rfl (x_ltn rfl) rfl rfl (E_Translator_pass  h7 ⟨_, rfl, ?_⟩)
        refine e_k 3 (f' := (if l1 = 0 then 70 else 65, [(0, .ref 3), (1, .int l1), (2, .int l2)], [.ref 3])) rfl ?_
        obtain ⟨v9, h9, hb⟩ := p_nn hb
        have Kj9 : am_E (gG L xs) (d + 2) m_Translator_factor (72, [(0, .ref 3), (1, .int l1), (2, .int l2)], [.int v9, .ref 3]) (hX X I7 J7) P := by
          refine e_k 3 (f' := (75, [(0, .ref 3), (1, .int l1), (2, .int l2)], [.int 0, .int 0, .int 0, .int v9, .ref 3])) rfl ?_
          obtain ⟨v11, I11, J11, h11, hb⟩ := oc_call hb
          refine r_cv (z := m_Translator_emit) (As := [.int v9, .int 0, .int 0, .int 0]) (rest := []) rfl rfl rfl rfl rfl (x_ltn rfl) rfl rfl (E_Translator_emit  h11 ⟨_, rfl, ?_⟩)
          refine e_k 2 (f' := (40, [(2, .int (l2 + 1)), (0, .ref 3), (1, .int l1)], [])) rfl ?_
          refine e_sub (ls := [(0, .ref 3), (1, .int l1), (2, .int (l2 + 1))]) rfl ⟨rfl, rfl, rfl, trivial⟩ ?_
          exact ih  hb K
        clear hb
        refine e_if (fun c10 => ?_) (fun c10 => ?_)
        · replace h9 := i_pos c10 h9
          refine e_k 1 (f' := (72, [(0, .ref 3), (1, .int l1), (2, .int l2)], [.int 9, .ref 3])) rfl ?_
          refine e_sub (ls := [(0, .ref 3), (1, .int l1), (2, .int l2)]) rfl ⟨rfl, rfl, rfl, trivial⟩ ?_
          subst h9
          exact Kj9
        · replace h9 := i_neg c10 h9
          refine e_k 2 (f' := (72, [(0, .ref 3), (1, .int l1), (2, .int l2)], [.int 10, .ref 3])) rfl ?_
          refine e_sub (ls := [(0, .ref 3), (1, .int l1), (2, .int l2)]) rfl ⟨rfl, rfl, rfl, trivial⟩ ?_
          subst h9
          exact Kj9
theorem E_Translator_factor {R : M3} {X : MX} {I : MI} {J : MJ} {v : Int32} {I' : MI} {J' : MJ} (hR_0 : ∀ {I : MI} {J : MJ} {v : Int32} {I' : MI} {J' : MJ} {P : am_R → am_H → Prop}, R 0 0 0 I J = some (v, I', J') → P (.inl (none)) (hX X I' J') → am_E (gG L xs) (d + 1) m_Translator_statements (0, lv_args 0 [.ref 3], []) (hX X I J) P) (hR_1 : ∀ {I : MI} {J : MJ} {v : Int32} {I' : MI} {J' : MJ} {P : am_R → am_H → Prop}, R 1 0 0 I J = some (v, I', J') → P (.inl (some (.int v))) (hX X I' J') → am_E (gG L xs) (d + 1) m_Translator_statement (0, lv_args 0 [.ref 3], []) (hX X I J) P) (hR_2 : ∀ {a0 : Int32} {a1 : Int32} {I : MI} {J : MJ} {v : Int32} {I' : MI} {J' : MJ} {P : am_R → am_H → Prop}, R 2 a0 a1 I J = some (v, I', J') → P (.inl (none)) (hX X I' J') → am_E (gG L xs) (d + 1) m_Translator_variableStatement (0, lv_args 0 [.ref 3, .int a0, .int a1], []) (hX X I J) P) (hR_3 : ∀ {a0 : Int32} {a1 : Int32} {I : MI} {J : MJ} {v : Int32} {I' : MI} {J' : MJ} {P : am_R → am_H → Prop}, R 3 a0 a1 I J = some (v, I', J') → P (.inl (none)) (hX X I' J') → am_E (gG L xs) (d + 1) m_Translator_assign (0, lv_args 0 [.ref 3, .int a0, .int a1], []) (hX X I J) P) (hR_4 : ∀ {a0 : Int32} {a1 : Int32} {I : MI} {J : MJ} {v : Int32} {I' : MI} {J' : MJ} {P : am_R → am_H → Prop}, R 4 a0 a1 I J = some (v, I', J') → P (.inl (none)) (hX X I' J') → am_E (gG L xs) (d + 1) m_Translator_arrayStatement (0, lv_args 0 [.ref 3, .int a0, .int a1], []) (hX X I J) P) (hR_5 : ∀ {a0 : Int32} {I : MI} {J : MJ} {v : Int32} {I' : MI} {J' : MJ} {P : am_R → am_H → Prop}, R 5 a0 0 I J = some (v, I', J') → P (.inl (none)) (hX X I' J') → am_E (gG L xs) (d + 1) m_Translator_routine (0, lv_args 0 [.ref 3, .int a0], []) (hX X I J) P) (hR_6 : ∀ {a0 : Int32} {a1 : Int32} {I : MI} {J : MJ} {v : Int32} {I' : MI} {J' : MJ} {P : am_R → am_H → Prop}, R 6 a0 a1 I J = some (v, I', J') → P (.inl (none)) (hX X I' J') → am_E (gG L xs) (d + 1) m_Translator_tell (0, lv_args 0 [.ref 3, .int a0, .int a1], []) (hX X I J) P) (hR_7 : ∀ {I : MI} {J : MJ} {v : Int32} {I' : MI} {J' : MJ} {P : am_R → am_H → Prop}, R 7 0 0 I J = some (v, I', J') → P (.inl (none)) (hX X I' J') → am_E (gG L xs) (d + 1) m_Translator_choice (0, lv_args 0 [.ref 3], []) (hX X I J) P) (hR_8 : ∀ {I : MI} {J : MJ} {v : Int32} {I' : MI} {J' : MJ} {P : am_R → am_H → Prop}, R 8 0 0 I J = some (v, I', J') → P (.inl (none)) (hX X I' J') → am_E (gG L xs) (d + 1) m_Translator_loop (0, lv_args 0 [.ref 3], []) (hX X I J) P) (hR_9 : ∀ {I : MI} {J : MJ} {v : Int32} {I' : MI} {J' : MJ} {P : am_R → am_H → Prop}, R 9 0 0 I J = some (v, I', J') → P (.inl (some (.int v))) (hX X I' J') → am_E (gG L xs) (d + 1) m_Translator_expression (0, lv_args 0 [.ref 3], []) (hX X I J) P) (hR_10 : ∀ {I : MI} {J : MJ} {v : Int32} {I' : MI} {J' : MJ} {P : am_R → am_H → Prop}, R 10 0 0 I J = some (v, I', J') → P (.inl (some (.int v))) (hX X I' J') → am_E (gG L xs) (d + 1) m_Translator_product (0, lv_args 0 [.ref 3], []) (hX X I J) P) (hR_11 : ∀ {I : MI} {J : MJ} {v : Int32} {I' : MI} {J' : MJ} {P : am_R → am_H → Prop}, R 11 0 0 I J = some (v, I', J') → P (.inl (some (.int v))) (hX X I' J') → am_E (gG L xs) (d + 1) m_Translator_factor (0, lv_args 0 [.ref 3], []) (hX X I J) P) (hR_12 : ∀ {I : MI} {J : MJ} {v : Int32} {I' : MI} {J' : MJ} {P : am_R → am_H → Prop}, R 12 0 0 I J = some (v, I', J') → P (.inl (some (.int v))) (hX X I' J') → am_E (gG L xs) (d + 1) m_Translator_atom (0, lv_args 0 [.ref 3], []) (hX X I J) P) (hR_13 : ∀ {I : MI} {J : MJ} {v : Int32} {I' : MI} {J' : MJ} {P : am_R → am_H → Prop}, R 13 0 0 I J = some (v, I', J') → P (.inl (none)) (hX X I' J') → am_E (gG L xs) (d + 1) m_Translator_index (0, lv_args 0 [.ref 3], []) (hX X I J) P) (hb : f_Translator_factor R  I J = some (v, I', J')) (K : P (.inl (some (.int v))) (hX X I' J')) : am_E (gG L xs) (d + 2) m_Translator_factor (0, lv_args 0 [.ref 3], []) (hX X I J) P := by
  unfold f_Translator_factor at hb
  refine e_k 1 (f' := (1, [(0, .ref 3)], [.ref 3])) rfl ?_
  obtain ⟨v1, I1, J1, h1, hb⟩ := oc_call hb
  refine r_cv (z := m_Translator_look) (As := []) (rest := []) rfl rfl rfl rfl rfl (x_ltn rfl) rfl rfl (E_Translator_look  h1 ⟨_, rfl, ?_⟩)
  refine e_k 2 (f' := (if ¬ v1 = 45 then 33 else 9, [(0, .ref 3)], [])) rfl ?_
  refine e_if (fun c2 => ?_) (fun c2 => ?_)
  · replace hb := i_pos c2 hb
    refine e_k 1 (f' := (34, [(0, .ref 3)], [.ref 3])) rfl ?_
    obtain ⟨v3, I3, J3, h3, hb⟩ := oc_call hb
    refine r_cv (z := m_Translator_atom) (As := []) (rest := []) rfl rfl rfl rfl rfl (x_ltn rfl) rfl rfl (hR_12  h3 ⟨_, rfl, ?_⟩)
    refine e_k 3 (f' := (40, [(2, .int 0), (1, .int v3), (0, .ref 3)], [])) rfl ?_
    refine e_sub (ls := [(0, .ref 3), (1, .int v3), (2, .int 0)]) rfl ⟨rfl, rfl, rfl, trivial⟩ ?_
    obtain ⟨u12, I12, J12, h12, hb⟩ := oc_call hb
    refine E_Translator_factor_40 hR_0 hR_1 hR_2 hR_3 hR_4 hR_5 hR_6 hR_7 hR_8 hR_9 hR_10 hR_11 hR_12 hR_13 gF  h12 ?_
    refine e_k 1 (f' := (85, [(1, .int v3)], [.int v3])) rfl ?_
    obtain ⟨o13, hb⟩ := ob_if hb
    obtain ⟨rfl, rfl, rfl⟩ := s_inj hb
    exact e_r rfl (if_pos o13) K
  · replace hb := i_neg c2 hb
    refine e_k 1 (f' := (10, [(0, .ref 3)], [.ref 3])) rfl ?_
    obtain ⟨v14, I14, J14, h14, hb⟩ := oc_call hb
    refine r_cv (z := m_Translator_enter) (As := []) (rest := []) rfl rfl rfl rfl rfl (x_ltn rfl) rfl rfl (E_Translator_enter  h14 ⟨_, rfl, ?_⟩)
    refine e_k 1 (f' := (14, [(0, .ref 3)], [.ref 3])) rfl ?_
    obtain ⟨v15, I15, J15, h15, hb⟩ := oc_call hb
    refine r_cv (z := m_Translator_factor) (As := []) (rest := []) rfl rfl rfl rfl rfl (x_ltn rfl) rfl rfl (hR_11  h15 ⟨_, rfl, ?_⟩)
    refine e_k 2 (f' := (19, [(1, .int v15), (0, .ref 3)], [.ref 3])) rfl ?_
    obtain ⟨v16, I16, J16, h16, hb⟩ := oc_call hb
    refine r_cv (z := m_Translator_leave) (As := []) (rest := []) rfl rfl rfl rfl rfl (x_ltn rfl) rfl rfl (E_Translator_leave  h16 ⟨_, rfl, ?_⟩)
    refine e_k 5 (f' := (28, [(1, .int v15), (0, .ref 3)], [.int 0, .int 0, .int 0, .int 8, .ref 3])) rfl ?_
    obtain ⟨v17, I17, J17, h17, hb⟩ := oc_call hb
    refine r_cv (z := m_Translator_emit) (As := [.int 8, .int 0, .int 0, .int 0]) (rest := []) rfl rfl rfl rfl rfl (x_ltn rfl) rfl rfl (E_Translator_emit  h17 ⟨_, rfl, ?_⟩)
    refine e_k 1 (f' := (32, [(1, .int v15), (0, .ref 3)], [.int v15])) rfl ?_
    obtain ⟨o18, hb⟩ := ob_if hb
    obtain ⟨rfl, rfl, rfl⟩ := s_inj hb
    exact e_r rfl (if_pos o18) K
theorem E_Translator_atom {R : M3} {X : MX} {I : MI} {J : MJ} {v : Int32} {I' : MI} {J' : MJ} (hR_0 : ∀ {I : MI} {J : MJ} {v : Int32} {I' : MI} {J' : MJ} {P : am_R → am_H → Prop}, R 0 0 0 I J = some (v, I', J') → P (.inl (none)) (hX X I' J') → am_E (gG L xs) (d + 2) m_Translator_statements (0, lv_args 0 [.ref 3], []) (hX X I J) P) (hR_1 : ∀ {I : MI} {J : MJ} {v : Int32} {I' : MI} {J' : MJ} {P : am_R → am_H → Prop}, R 1 0 0 I J = some (v, I', J') → P (.inl (some (.int v))) (hX X I' J') → am_E (gG L xs) (d + 2) m_Translator_statement (0, lv_args 0 [.ref 3], []) (hX X I J) P) (hR_2 : ∀ {a0 : Int32} {a1 : Int32} {I : MI} {J : MJ} {v : Int32} {I' : MI} {J' : MJ} {P : am_R → am_H → Prop}, R 2 a0 a1 I J = some (v, I', J') → P (.inl (none)) (hX X I' J') → am_E (gG L xs) (d + 2) m_Translator_variableStatement (0, lv_args 0 [.ref 3, .int a0, .int a1], []) (hX X I J) P) (hR_3 : ∀ {a0 : Int32} {a1 : Int32} {I : MI} {J : MJ} {v : Int32} {I' : MI} {J' : MJ} {P : am_R → am_H → Prop}, R 3 a0 a1 I J = some (v, I', J') → P (.inl (none)) (hX X I' J') → am_E (gG L xs) (d + 2) m_Translator_assign (0, lv_args 0 [.ref 3, .int a0, .int a1], []) (hX X I J) P) (hR_4 : ∀ {a0 : Int32} {a1 : Int32} {I : MI} {J : MJ} {v : Int32} {I' : MI} {J' : MJ} {P : am_R → am_H → Prop}, R 4 a0 a1 I J = some (v, I', J') → P (.inl (none)) (hX X I' J') → am_E (gG L xs) (d + 2) m_Translator_arrayStatement (0, lv_args 0 [.ref 3, .int a0, .int a1], []) (hX X I J) P) (hR_5 : ∀ {a0 : Int32} {I : MI} {J : MJ} {v : Int32} {I' : MI} {J' : MJ} {P : am_R → am_H → Prop}, R 5 a0 0 I J = some (v, I', J') → P (.inl (none)) (hX X I' J') → am_E (gG L xs) (d + 2) m_Translator_routine (0, lv_args 0 [.ref 3, .int a0], []) (hX X I J) P) (hR_6 : ∀ {a0 : Int32} {a1 : Int32} {I : MI} {J : MJ} {v : Int32} {I' : MI} {J' : MJ} {P : am_R → am_H → Prop}, R 6 a0 a1 I J = some (v, I', J') → P (.inl (none)) (hX X I' J') → am_E (gG L xs) (d + 2) m_Translator_tell (0, lv_args 0 [.ref 3, .int a0, .int a1], []) (hX X I J) P) (hR_7 : ∀ {I : MI} {J : MJ} {v : Int32} {I' : MI} {J' : MJ} {P : am_R → am_H → Prop}, R 7 0 0 I J = some (v, I', J') → P (.inl (none)) (hX X I' J') → am_E (gG L xs) (d + 2) m_Translator_choice (0, lv_args 0 [.ref 3], []) (hX X I J) P) (hR_8 : ∀ {I : MI} {J : MJ} {v : Int32} {I' : MI} {J' : MJ} {P : am_R → am_H → Prop}, R 8 0 0 I J = some (v, I', J') → P (.inl (none)) (hX X I' J') → am_E (gG L xs) (d + 2) m_Translator_loop (0, lv_args 0 [.ref 3], []) (hX X I J) P) (hR_9 : ∀ {I : MI} {J : MJ} {v : Int32} {I' : MI} {J' : MJ} {P : am_R → am_H → Prop}, R 9 0 0 I J = some (v, I', J') → P (.inl (some (.int v))) (hX X I' J') → am_E (gG L xs) (d + 2) m_Translator_expression (0, lv_args 0 [.ref 3], []) (hX X I J) P) (hR_10 : ∀ {I : MI} {J : MJ} {v : Int32} {I' : MI} {J' : MJ} {P : am_R → am_H → Prop}, R 10 0 0 I J = some (v, I', J') → P (.inl (some (.int v))) (hX X I' J') → am_E (gG L xs) (d + 2) m_Translator_product (0, lv_args 0 [.ref 3], []) (hX X I J) P) (hR_11 : ∀ {I : MI} {J : MJ} {v : Int32} {I' : MI} {J' : MJ} {P : am_R → am_H → Prop}, R 11 0 0 I J = some (v, I', J') → P (.inl (some (.int v))) (hX X I' J') → am_E (gG L xs) (d + 2) m_Translator_factor (0, lv_args 0 [.ref 3], []) (hX X I J) P) (hR_12 : ∀ {I : MI} {J : MJ} {v : Int32} {I' : MI} {J' : MJ} {P : am_R → am_H → Prop}, R 12 0 0 I J = some (v, I', J') → P (.inl (some (.int v))) (hX X I' J') → am_E (gG L xs) (d + 2) m_Translator_atom (0, lv_args 0 [.ref 3], []) (hX X I J) P) (hR_13 : ∀ {I : MI} {J : MJ} {v : Int32} {I' : MI} {J' : MJ} {P : am_R → am_H → Prop}, R 13 0 0 I J = some (v, I', J') → P (.inl (none)) (hX X I' J') → am_E (gG L xs) (d + 2) m_Translator_index (0, lv_args 0 [.ref 3], []) (hX X I J) P) (hb : f_Translator_atom R  I J = some (v, I', J')) (K : P (.inl (some (.int v))) (hX X I' J')) : am_E (gG L xs) (d + 3) m_Translator_atom (0, lv_args 0 [.ref 3], []) (hX X I J) P := by
  unfold f_Translator_atom at hb
  refine e_k 1 (f' := (1, [(0, .ref 3)], [.ref 3])) rfl ?_
  obtain ⟨v1, I1, J1, h1, hb⟩ := oc_call hb
  refine r_cv (z := m_Translator_look) (As := []) (rest := []) rfl rfl rfl rfl rfl (x_ltn rfl) rfl rfl (E_Translator_look  h1 ⟨_, rfl, ?_⟩)
  refine e_k 2 (f' := (6, [(1, .int v1), (0, .ref 3)], [.int v1])) rfl ?_
  obtain ⟨v2, I2, J2, h2, hb⟩ := oc_call hb
  refine r_cs (z := m_Translator_isVariable) (As := [.int v1]) (rest := []) rfl rfl rfl rfl rfl rfl (E_Translator_isVariable  h2 ⟨_, rfl, ?_⟩)
  refine e_k 1 (f' := (if v2 = 0 then 64 else 12, [(1, .int v1), (0, .ref 3)], [])) rfl ?_
  refine e_if (fun c3 => ?_) (fun c3 => ?_)
  · replace hb := i_pos c3 hb
    refine e_k 1 (f' := (65, [(1, .int v1), (0, .ref 3)], [.int v1])) rfl ?_
    obtain ⟨v4, I4, J4, h4, hb⟩ := oc_call hb
    refine r_cs (z := m_Translator_isArray) (As := [.int v1]) (rest := []) rfl rfl rfl rfl rfl rfl (E_Translator_isArray  h4 ⟨_, rfl, ?_⟩)
    refine e_k 1 (f' := (if v4 = 0 then 105 else 71, [(1, .int v1), (0, .ref 3)], [])) rfl ?_
    refine e_if (fun c5 => ?_) (fun c5 => ?_)
    · replace hb := i_pos c5 hb
      refine e_k 3 (f' := (if ¬ v1 = 40 then 132 else 111, [(1, .int v1), (0, .ref 3)], [])) rfl ?_
      refine e_if (fun c6 => ?_) (fun c6 => ?_)
      · replace hb := i_pos c6 hb
        refine e_k 1 (f' := (133, [(1, .int v1), (0, .ref 3)], [.int v1])) rfl ?_
        obtain ⟨v7, I7, J7, h7, hb⟩ := oc_call hb
        refine r_cs (z := m_Translator_isDigit) (As := [.int v1]) (rest := []) rfl rfl rfl rfl rfl rfl (E_Translator_isDigit  h7 ⟨_, rfl, ?_⟩)
        refine e_k 1 (f' := (if v7 = 0 then 146 else 139, [(1, .int v1), (0, .ref 3)], [])) rfl ?_
        refine e_if (fun c8 => ?_) (fun c8 => ?_)
        · replace hb := i_pos c8 hb
          refine e_k 1 (f' := (147, [(1, .int v1), (0, .ref 3)], [.ref 3])) rfl ?_
          obtain ⟨v9, I9, J9, h9, hb⟩ := oc_call hb
          refine r_cv (z := m_Translator_refuse) (As := []) (rest := []) rfl rfl rfl rfl rfl (x_ltn rfl) rfl rfl (E_Translator_refuse  h9 ⟨_, rfl, ?_⟩)
          refine e_k 1 (f' := (151, [(1, .int v1), (0, .ref 3)], [.int 0])) rfl ?_
          obtain ⟨rfl, rfl, rfl⟩ := s_inj hb
          exact e_r rfl rfl K
        · replace hb := i_neg c8 hb
          refine e_k 1 (f' := (140, [(1, .int v1), (0, .ref 3)], [.ref 3])) rfl ?_
          obtain ⟨v10, I10, J10, h10, hb⟩ := oc_call hb
          refine r_cv (z := m_Translator_literal) (As := []) (rest := []) rfl rfl rfl rfl rfl (x_ltn rfl) rfl rfl (E_Translator_literal  h10 ⟨_, rfl, ?_⟩)
          refine e_k 2 (f' := (151, [(1, .int v1), (0, .ref 3)], [.int 0])) rfl ?_
          obtain ⟨rfl, rfl, rfl⟩ := s_inj hb
          exact e_r rfl rfl K
      · replace hb := i_neg c6 hb
        refine e_k 1 (f' := (112, [(1, .int v1), (0, .ref 3)], [.ref 3])) rfl ?_
        obtain ⟨v11, I11, J11, h11, hb⟩ := oc_call hb
        refine r_cv (z := m_Translator_enter) (As := []) (rest := []) rfl rfl rfl rfl rfl (x_ltn rfl) rfl rfl (E_Translator_enter  h11 ⟨_, rfl, ?_⟩)
        refine e_k 1 (f' := (116, [(1, .int v1), (0, .ref 3)], [.ref 3])) rfl ?_
        obtain ⟨v12, I12, J12, h12, hb⟩ := oc_call hb
        refine r_cv (z := m_Translator_expression) (As := []) (rest := []) rfl rfl rfl rfl rfl (x_ltn rfl) rfl rfl (hR_9  h12 ⟨_, rfl, ?_⟩)
        refine e_k 3 (f' := (123, [(2, .int v12), (1, .int v1), (0, .ref 3)], [.int 41, .ref 3])) rfl ?_
        obtain ⟨v13, I13, J13, h13, hb⟩ := oc_call hb
        refine r_cv (z := m_Translator_expect) (As := [.int 41]) (rest := []) rfl rfl rfl rfl rfl (x_ltn rfl) rfl rfl (E_Translator_expect  h13 ⟨_, rfl, ?_⟩)
        refine e_k 1 (f' := (127, [(2, .int v12), (1, .int v1), (0, .ref 3)], [.ref 3])) rfl ?_
        obtain ⟨v14, I14, J14, h14, hb⟩ := oc_call hb
        refine r_cv (z := m_Translator_leave) (As := []) (rest := []) rfl rfl rfl rfl rfl (x_ltn rfl) rfl rfl (E_Translator_leave  h14 ⟨_, rfl, ?_⟩)
        refine e_k 1 (f' := (131, [(2, .int v12), (1, .int v1), (0, .ref 3)], [.int v12])) rfl ?_
        obtain ⟨o15, hb⟩ := ob_if hb
        obtain ⟨rfl, rfl, rfl⟩ := s_inj hb
        exact e_r rfl (if_pos o15) K
    · replace hb := i_neg c5 hb
      refine e_k 1 (f' := (72, [(1, .int v1), (0, .ref 3)], [.ref 3])) rfl ?_
      obtain ⟨v16, I16, J16, h16, hb⟩ := oc_call hb
      refine r_cv (z := m_Translator_pass) (As := []) (rest := []) rfl rfl rfl rfl rfl (x_ltn rfl) rfl rfl (E_Translator_pass  h16 ⟨_, rfl, ?_⟩)
      refine e_k 1 (f' := (76, [(1, .int v1), (0, .ref 3)], [.ref 3])) rfl ?_
      obtain ⟨v17, I17, J17, h17, hb⟩ := oc_call hb
      refine r_cv (z := m_Translator_index) (As := []) (rest := []) rfl rfl rfl rfl rfl (x_ltn rfl) rfl rfl (hR_13  h17 ⟨_, rfl, ?_⟩)
      refine e_k 6 (f' := (88, [(1, .int v1), (0, .ref 3)], [.int 20, .int 19, .int (v1 - 65), .ref 3])) rfl ?_
      obtain ⟨v18, I18, J18, h18, hb⟩ := oc_call hb
      refine r_cv (z := m_Translator_emitPlace) (As := [.int (v1 - 65), .int 19, .int 20]) (rest := []) rfl rfl rfl rfl rfl (x_ltn rfl) rfl rfl (E_Translator_emitPlace  h18 ⟨_, rfl, ?_⟩)
      refine e_k 5 (f' := (if (v1 - 65) < 4 then 103 else 99, [(1, .int v1), (0, .ref 3)], [])) rfl ?_
      refine e_if (fun c19 => ?_) (fun c19 => ?_)
      · replace hb := i_pos c19 hb
        refine e_k 1 (f' := (104, [(1, .int v1), (0, .ref 3)], [.int 0])) rfl ?_
        obtain ⟨rfl, rfl, rfl⟩ := s_inj hb
        exact e_r rfl rfl K
      · replace hb := i_neg c19 hb
        refine e_k 2 (f' := (104, [(1, .int v1), (0, .ref 3)], [.int 1])) rfl ?_
        obtain ⟨rfl, rfl, rfl⟩ := s_inj hb
        exact e_r rfl rfl K
  · replace hb := i_neg c3 hb
    refine e_k 1 (f' := (13, [(1, .int v1), (0, .ref 3)], [.ref 3])) rfl ?_
    obtain ⟨v20, I20, J20, h20, hb⟩ := oc_call hb
    refine r_cv (z := m_Translator_pass) (As := []) (rest := []) rfl rfl rfl rfl rfl (x_ltn rfl) rfl rfl (E_Translator_pass  h20 ⟨_, rfl, ?_⟩)
    refine e_k 4 (f' := (21, [(2, .int (v1 - 97)), (1, .int v1), (0, .ref 3)], [])) rfl ?_
    obtain ⟨x21, ex21, hb⟩ := p_nm hb
    rw [← ex21]
    refine e_k 4 (f' := (if 13 ≤ x21 then 32 else 28, [(2, .int x21), (1, .int v1), (0, .ref 3)], [.ref 3])) rfl ?_
    obtain ⟨v23, h23, hb⟩ := p_nn hb
    have Kj23 : am_E (gG L xs) (d + 3) m_Translator_atom (33, [(2, .int x21)], [.int v23, .ref 3]) (hX X I20 J20) P := by
      refine e_k 3 (f' := (if 13 ≤ x21 then 43 else 39, [(2, .int x21)], [.int v23, .ref 3])) rfl ?_
      obtain ⟨v26, h26, hb⟩ := p_nn hb
      have Kj26 : am_E (gG L xs) (d + 3) m_Translator_atom (47, [(2, .int x21)], [.int v26, .int v23, .ref 3]) (hX X I20 J20) P := by
        refine e_k 2 (f' := (49, [(2, .int x21)], [.int 0, .int 0, .int v26, .int v23, .ref 3])) rfl ?_
        obtain ⟨v28, I28, J28, h28, hb⟩ := oc_call hb
        refine r_cv (z := m_Translator_emit) (As := [.int v23, .int v26, .int 0, .int 0]) (rest := []) rfl rfl rfl rfl rfl (x_ltn rfl) rfl rfl (E_Translator_emit  h28 ⟨_, rfl, ?_⟩)
        refine e_k 3 (f' := (if x21 < 13 then 62 else 58, [(2, .int x21)], [])) rfl ?_
        refine e_if (fun c29 => ?_) (fun c29 => ?_)
        · replace hb := i_pos c29 hb
          refine e_k 1 (f' := (63, [(2, .int x21)], [.int 0])) rfl ?_
          obtain ⟨rfl, rfl, rfl⟩ := s_inj hb
          exact e_r rfl rfl K
        · replace hb := i_neg c29 hb
          refine e_k 2 (f' := (63, [(2, .int x21)], [.int 1])) rfl ?_
          obtain ⟨rfl, rfl, rfl⟩ := s_inj hb
          exact e_r rfl rfl K
      clear hb
      refine e_if (fun c27 => ?_) (fun c27 => ?_)
      · replace h26 := i_pos c27 h26
        refine e_k 3 (f' := (47, [(2, .int x21)], [.int (x21 - 13), .int v23, .ref 3])) rfl ?_
        refine e_sub (ls := [(2, .int x21)]) rfl ⟨rfl, trivial⟩ ?_
        subst h26
        exact Kj26
      · replace h26 := i_neg c27 h26
        refine e_k 2 (f' := (47, [(2, .int x21)], [.int x21, .int v23, .ref 3])) rfl ?_
        refine e_sub (ls := [(2, .int x21)]) rfl ⟨rfl, trivial⟩ ?_
        subst h26
        exact Kj26
    clear hb
    refine e_if (fun c24 => ?_) (fun c24 => ?_)
    · replace h23 := i_pos c24 h23
      refine e_k 1 (f' := (33, [(2, .int x21), (1, .int v1), (0, .ref 3)], [.int 3, .ref 3])) rfl ?_
      refine e_sub (ls := [(2, .int x21)]) rfl ⟨rfl, trivial⟩ ?_
      subst h23
      exact Kj23
    · replace h23 := i_neg c24 h23
      refine e_k 2 (f' := (33, [(2, .int x21), (1, .int v1), (0, .ref 3)], [.int 2, .ref 3])) rfl ?_
      refine e_sub (ls := [(2, .int x21)]) rfl ⟨rfl, trivial⟩ ?_
      subst h23
      exact Kj23
theorem E_Translator_index {R : M3} {X : MX} {I : MI} {J : MJ} {v : Unit} {I' : MI} {J' : MJ} (hR_0 : ∀ {I : MI} {J : MJ} {v : Int32} {I' : MI} {J' : MJ} {P : am_R → am_H → Prop}, R 0 0 0 I J = some (v, I', J') → P (.inl (none)) (hX X I' J') → am_E (gG L xs) (d + 2) m_Translator_statements (0, lv_args 0 [.ref 3], []) (hX X I J) P) (hR_1 : ∀ {I : MI} {J : MJ} {v : Int32} {I' : MI} {J' : MJ} {P : am_R → am_H → Prop}, R 1 0 0 I J = some (v, I', J') → P (.inl (some (.int v))) (hX X I' J') → am_E (gG L xs) (d + 2) m_Translator_statement (0, lv_args 0 [.ref 3], []) (hX X I J) P) (hR_2 : ∀ {a0 : Int32} {a1 : Int32} {I : MI} {J : MJ} {v : Int32} {I' : MI} {J' : MJ} {P : am_R → am_H → Prop}, R 2 a0 a1 I J = some (v, I', J') → P (.inl (none)) (hX X I' J') → am_E (gG L xs) (d + 2) m_Translator_variableStatement (0, lv_args 0 [.ref 3, .int a0, .int a1], []) (hX X I J) P) (hR_3 : ∀ {a0 : Int32} {a1 : Int32} {I : MI} {J : MJ} {v : Int32} {I' : MI} {J' : MJ} {P : am_R → am_H → Prop}, R 3 a0 a1 I J = some (v, I', J') → P (.inl (none)) (hX X I' J') → am_E (gG L xs) (d + 2) m_Translator_assign (0, lv_args 0 [.ref 3, .int a0, .int a1], []) (hX X I J) P) (hR_4 : ∀ {a0 : Int32} {a1 : Int32} {I : MI} {J : MJ} {v : Int32} {I' : MI} {J' : MJ} {P : am_R → am_H → Prop}, R 4 a0 a1 I J = some (v, I', J') → P (.inl (none)) (hX X I' J') → am_E (gG L xs) (d + 2) m_Translator_arrayStatement (0, lv_args 0 [.ref 3, .int a0, .int a1], []) (hX X I J) P) (hR_5 : ∀ {a0 : Int32} {I : MI} {J : MJ} {v : Int32} {I' : MI} {J' : MJ} {P : am_R → am_H → Prop}, R 5 a0 0 I J = some (v, I', J') → P (.inl (none)) (hX X I' J') → am_E (gG L xs) (d + 2) m_Translator_routine (0, lv_args 0 [.ref 3, .int a0], []) (hX X I J) P) (hR_6 : ∀ {a0 : Int32} {a1 : Int32} {I : MI} {J : MJ} {v : Int32} {I' : MI} {J' : MJ} {P : am_R → am_H → Prop}, R 6 a0 a1 I J = some (v, I', J') → P (.inl (none)) (hX X I' J') → am_E (gG L xs) (d + 2) m_Translator_tell (0, lv_args 0 [.ref 3, .int a0, .int a1], []) (hX X I J) P) (hR_7 : ∀ {I : MI} {J : MJ} {v : Int32} {I' : MI} {J' : MJ} {P : am_R → am_H → Prop}, R 7 0 0 I J = some (v, I', J') → P (.inl (none)) (hX X I' J') → am_E (gG L xs) (d + 2) m_Translator_choice (0, lv_args 0 [.ref 3], []) (hX X I J) P) (hR_8 : ∀ {I : MI} {J : MJ} {v : Int32} {I' : MI} {J' : MJ} {P : am_R → am_H → Prop}, R 8 0 0 I J = some (v, I', J') → P (.inl (none)) (hX X I' J') → am_E (gG L xs) (d + 2) m_Translator_loop (0, lv_args 0 [.ref 3], []) (hX X I J) P) (hR_9 : ∀ {I : MI} {J : MJ} {v : Int32} {I' : MI} {J' : MJ} {P : am_R → am_H → Prop}, R 9 0 0 I J = some (v, I', J') → P (.inl (some (.int v))) (hX X I' J') → am_E (gG L xs) (d + 2) m_Translator_expression (0, lv_args 0 [.ref 3], []) (hX X I J) P) (hR_10 : ∀ {I : MI} {J : MJ} {v : Int32} {I' : MI} {J' : MJ} {P : am_R → am_H → Prop}, R 10 0 0 I J = some (v, I', J') → P (.inl (some (.int v))) (hX X I' J') → am_E (gG L xs) (d + 2) m_Translator_product (0, lv_args 0 [.ref 3], []) (hX X I J) P) (hR_11 : ∀ {I : MI} {J : MJ} {v : Int32} {I' : MI} {J' : MJ} {P : am_R → am_H → Prop}, R 11 0 0 I J = some (v, I', J') → P (.inl (some (.int v))) (hX X I' J') → am_E (gG L xs) (d + 2) m_Translator_factor (0, lv_args 0 [.ref 3], []) (hX X I J) P) (hR_12 : ∀ {I : MI} {J : MJ} {v : Int32} {I' : MI} {J' : MJ} {P : am_R → am_H → Prop}, R 12 0 0 I J = some (v, I', J') → P (.inl (some (.int v))) (hX X I' J') → am_E (gG L xs) (d + 2) m_Translator_atom (0, lv_args 0 [.ref 3], []) (hX X I J) P) (hR_13 : ∀ {I : MI} {J : MJ} {v : Int32} {I' : MI} {J' : MJ} {P : am_R → am_H → Prop}, R 13 0 0 I J = some (v, I', J') → P (.inl (none)) (hX X I' J') → am_E (gG L xs) (d + 2) m_Translator_index (0, lv_args 0 [.ref 3], []) (hX X I J) P) (hb : f_Translator_index R  I J = some (v, I', J')) (K : P (.inl (none)) (hX X I' J')) : am_E (gG L xs) (d + 3) m_Translator_index (0, lv_args 0 [.ref 3], []) (hX X I J) P := by
  unfold f_Translator_index at hb
  refine e_k 1 (f' := (1, [(0, .ref 3)], [.ref 3])) rfl ?_
  obtain ⟨v1, I1, J1, h1, hb⟩ := oc_call hb
  refine r_cv (z := m_Translator_look) (As := []) (rest := []) rfl rfl rfl rfl rfl (x_ltn rfl) rfl rfl (E_Translator_look  h1 ⟨_, rfl, ?_⟩)
  refine e_k 2 (f' := (if v1 = 91 then 13 else 9, [(0, .ref 3)], [])) rfl ?_
  obtain ⟨v3, I3, J3, h3, hb⟩ := oc_call hb
  have Kj3 : am_E (gG L xs) (d + 3) m_Translator_index (13, [(0, .ref 3)], []) (hX X I3 J3) P := by
    refine e_k 1 (f' := (14, [(0, .ref 3)], [.ref 3])) rfl ?_
    refine r_geti rfl (x_ltn rfl) rfl rfl ?_
    refine e_k 1 (f' := (18, [(1, .int (I3 3 5)), (0, .ref 3)], [])) rfl ?_
    obtain ⟨x6, ex6, hb⟩ := p_nm hb
    rw [← ex6]
    refine e_k 1 (f' := (19, [(1, .int x6), (0, .ref 3)], [.ref 3])) rfl ?_
    obtain ⟨v7, I7, J7, h7, hb⟩ := oc_call hb
    refine r_cv (z := m_Translator_enter) (As := []) (rest := []) rfl rfl rfl rfl rfl (x_ltn rfl) rfl rfl (E_Translator_enter  h7 ⟨_, rfl, ?_⟩)
    refine e_k 1 (f' := (23, [(1, .int x6), (0, .ref 3)], [.ref 3])) rfl ?_
    obtain ⟨v8, I8, J8, h8, hb⟩ := oc_call hb
    refine r_cv (z := m_Translator_expression) (As := []) (rest := []) rfl rfl rfl rfl rfl (x_ltn rfl) rfl rfl (hR_9  h8 ⟨_, rfl, ?_⟩)
    refine e_k 3 (f' := (30, [(2, .int v8), (1, .int x6), (0, .ref 3)], [.int 93, .ref 3])) rfl ?_
    obtain ⟨v9, I9, J9, h9, hb⟩ := oc_call hb
    refine r_cv (z := m_Translator_expect) (As := [.int 93]) (rest := []) rfl rfl rfl rfl rfl (x_ltn rfl) rfl rfl (E_Translator_expect  h9 ⟨_, rfl, ?_⟩)
    refine e_k 1 (f' := (34, [(2, .int v8), (1, .int x6), (0, .ref 3)], [.ref 3])) rfl ?_
    obtain ⟨v10, I10, J10, h10, hb⟩ := oc_call hb
    refine r_cv (z := m_Translator_leave) (As := []) (rest := []) rfl rfl rfl rfl rfl (x_ltn rfl) rfl rfl (E_Translator_leave  h10 ⟨_, rfl, ?_⟩)
    refine e_k 2 (f' := (if v8 = 0 then 47 else 41, [(2, .int v8), (1, .int x6), (0, .ref 3)], [])) rfl ?_
    refine e_if (fun c11 => ?_) (fun c11 => ?_)
    · replace hb := i_pos c11 hb
      obtain ⟨rfl, rfl, rfl⟩ := s_inj hb
      exact e_r rfl rfl K
    · replace hb := i_neg c11 hb
      refine e_k 3 (f' := (44, [(2, .int v8), (1, .int x6), (0, .ref 3)], [.int x6, .int 3, .ref 3])) rfl ?_
      obtain ⟨v12, I12, J12, h12, hb⟩ := oc_call hb
      refine r_cv (z := m_Translator_blame) (As := [.int 3, .int x6]) (rest := []) rfl rfl rfl rfl rfl (x_ltn rfl) rfl rfl (E_Translator_blame  h12 ⟨_, rfl, ?_⟩)
      obtain ⟨rfl, rfl, rfl⟩ := s_inj hb
      exact e_r rfl rfl K
  clear hb
  refine e_if (fun c4 => ?_) (fun c4 => ?_)
  · replace h3 := i_pos c4 h3
    refine e_sub (ls := [(0, .ref 3)]) rfl ⟨rfl, trivial⟩ ?_
    obtain ⟨rfl, rfl, rfl⟩ := s_inj h3
    exact Kj3
  · replace h3 := i_neg c4 h3
    refine e_k 1 (f' := (10, [(0, .ref 3)], [.ref 3])) rfl ?_
    obtain ⟨v5, I5, J5, h5, h3⟩ := oc_call h3
    refine r_cv (z := m_Translator_refuse) (As := []) (rest := []) rfl rfl rfl rfl rfl (x_ltn rfl) rfl rfl (E_Translator_refuse  h5 ⟨_, rfl, ?_⟩)
    refine e_sub (ls := [(0, .ref 3)]) rfl ⟨rfl, trivial⟩ ?_
    obtain ⟨rfl, rfl, rfl⟩ := s_inj h3
    exact Kj3
theorem E_Verifier_fits {r2 : Nat} {b2 : Nat} {m2 : Nat} {p3 : Int32} {X : MX} {I : MI} {J : MJ} {v : Int32} {I' : MI} {J' : MJ} (hR_r2 : isRw X r2 b2 m2) (hb : f_Verifier_fits r2 b2 m2 p3 I J = some (v, I', J')) (K : P (.inl (some (.int v))) (hX X I' J')) : am_E (gG L xs) (d + 3) m_Verifier_fits (0, lv_args 0 [.ref 10, .ref r2, .int p3], []) (hX X I J) P := by
  unfold f_Verifier_fits at hb
  refine e_k 2 (f' := (2, [(0, .ref 10), (1, .ref r2), (2, .int p3)], [.int p3, .ref r2])) rfl ?_
  obtain ⟨v1, I1, J1, h1, hb⟩ := oc_call hb
  refine r_cv (z := m_Row_at) (As := [.int p3]) (rest := []) rfl rfl rfl rfl rfl hR_r2.1 hR_r2.2.1 rfl (E_Row_at hR_r2 h1 ⟨_, rfl, ?_⟩)
  refine e_k 1 (f' := (am_sw v1 482 [(0, 140), (1, 153), (2, 153), (3, 159), (4, 165), (5, 165), (6, 186), (7, 223), (8, 260), (9, 274), (10, 296), (11, 356), (12, 386), (13, 482), (14, 482), (15, 482), (16, 482), (17, 140), (18, 140), (19, 274), (20, 318), (21, 408), (22, 446), (23, 476), (24, 476), (25, 476), (26, 159), (27, 482), (28, 140), (29, 140)], [(0, .ref 10), (1, .ref r2), (2, .int p3)], [])) rfl ?_
  by_cases c2 : v1 = 0 ∨ v1 = 17 ∨ v1 = 18 ∨ v1 = 28 ∨ v1 = 29
  · rw [show am_sw v1 482 [(0, 140), (1, 153), (2, 153), (3, 159), (4, 165), (5, 165), (6, 186), (7, 223), (8, 260), (9, 274), (10, 296), (11, 356), (12, 386), (13, 482), (14, 482), (15, 482), (16, 482), (17, 140), (18, 140), (19, 274), (20, 318), (21, 408), (22, 446), (23, 476), (24, 476), (25, 476), (26, 159), (27, 482), (28, 140), (29, 140)] = 140 from by rcases c2 with c2 | c2 | c2 | c2 | c2 <;> rw [c2] <;> rfl]
    replace hb := i_pos c2 hb
    refine e_k 1 (f' := (141, [(0, .ref 10), (1, .ref r2), (2, .int p3)], [.ref 10])) rfl ?_
    refine r_geti rfl (x_ltn rfl) rfl rfl ?_
    refine e_k 1 (f' := (if ¬ (I1 10 3) = 0 then 151 else 147, [(0, .ref 10), (1, .ref r2), (2, .int p3)], [])) rfl ?_
    refine e_if (fun c3 => ?_) (fun c3 => ?_)
    · replace hb := i_pos c3 hb
      refine e_k 1 (f' := (152, [(0, .ref 10), (1, .ref r2), (2, .int p3)], [.int 0])) rfl ?_
      obtain ⟨rfl, rfl, rfl⟩ := s_inj hb
      exact e_r rfl rfl K
    · replace hb := i_neg c3 hb
      refine e_k 2 (f' := (152, [(0, .ref 10), (1, .ref r2), (2, .int p3)], [.int 1])) rfl ?_
      obtain ⟨rfl, rfl, rfl⟩ := s_inj hb
      exact e_r rfl rfl K
  replace hb := i_neg c2 hb
  by_cases c4 : v1 = 1 ∨ v1 = 2
  · rw [show am_sw v1 482 [(0, 140), (1, 153), (2, 153), (3, 159), (4, 165), (5, 165), (6, 186), (7, 223), (8, 260), (9, 274), (10, 296), (11, 356), (12, 386), (13, 482), (14, 482), (15, 482), (16, 482), (17, 140), (18, 140), (19, 274), (20, 318), (21, 408), (22, 446), (23, 476), (24, 476), (25, 476), (26, 159), (27, 482), (28, 140), (29, 140)] = 153 from by rcases c4 with c4 | c4 <;> rw [c4] <;> rfl]
    replace hb := i_pos c4 hb
    refine e_k 2 (f' := (155, [(0, .ref 10), (1, .ref r2), (2, .int p3)], [.int 0, .ref 10])) rfl ?_
    obtain ⟨v5, I5, J5, h5, hb⟩ := oc_call hb
    refine r_cv (z := m_Verifier_pushes) (As := [.int 0]) (rest := []) rfl rfl rfl rfl rfl (x_ltn rfl) rfl rfl (E_Verifier_pushes  h5 ⟨_, rfl, ?_⟩)
    obtain ⟨o6, hb⟩ := ob_if hb
    obtain ⟨rfl, rfl, rfl⟩ := s_inj hb
    exact e_r rfl (if_pos o6) K
  replace hb := i_neg c4 hb
  by_cases c7 : v1 = 3 ∨ v1 = 26
  · rw [show am_sw v1 482 [(0, 140), (1, 153), (2, 153), (3, 159), (4, 165), (5, 165), (6, 186), (7, 223), (8, 260), (9, 274), (10, 296), (11, 356), (12, 386), (13, 482), (14, 482), (15, 482), (16, 482), (17, 140), (18, 140), (19, 274), (20, 318), (21, 408), (22, 446), (23, 476), (24, 476), (25, 476), (26, 159), (27, 482), (28, 140), (29, 140)] = 159 from by rcases c7 with c7 | c7 <;> rw [c7] <;> rfl]
    replace hb := i_pos c7 hb
    refine e_k 2 (f' := (161, [(0, .ref 10), (1, .ref r2), (2, .int p3)], [.int 1, .ref 10])) rfl ?_
    obtain ⟨v8, I8, J8, h8, hb⟩ := oc_call hb
    refine r_cv (z := m_Verifier_pushes) (As := [.int 1]) (rest := []) rfl rfl rfl rfl rfl (x_ltn rfl) rfl rfl (E_Verifier_pushes  h8 ⟨_, rfl, ?_⟩)
    obtain ⟨o9, hb⟩ := ob_if hb
    obtain ⟨rfl, rfl, rfl⟩ := s_inj hb
    exact e_r rfl (if_pos o9) K
  replace hb := i_neg c7 hb
  by_cases c10 : v1 = 4 ∨ v1 = 5
  · rw [show am_sw v1 482 [(0, 140), (1, 153), (2, 153), (3, 159), (4, 165), (5, 165), (6, 186), (7, 223), (8, 260), (9, 274), (10, 296), (11, 356), (12, 386), (13, 482), (14, 482), (15, 482), (16, 482), (17, 140), (18, 140), (19, 274), (20, 318), (21, 408), (22, 446), (23, 476), (24, 476), (25, 476), (26, 159), (27, 482), (28, 140), (29, 140)] = 165 from by rcases c10 with c10 | c10 <;> rw [c10] <;> rfl]
    replace hb := i_pos c10 hb
    refine e_k 1 (f' := (166, [(0, .ref 10), (1, .ref r2), (2, .int p3)], [.ref 10])) rfl ?_
    refine r_geti rfl (x_ltn rfl) rfl rfl ?_
    refine e_k 2 (f' := (if (I1 10 3) < 2 then 184 else 173, [(0, .ref 10), (1, .ref r2), (2, .int p3)], [])) rfl ?_
    refine e_if (fun c11 => ?_) (fun c11 => ?_)
    · replace hb := i_pos c11 hb
      refine e_k 1 (f' := (185, [(0, .ref 10), (1, .ref r2), (2, .int p3)], [.int 0])) rfl ?_
      obtain ⟨rfl, rfl, rfl⟩ := s_inj hb
      exact e_r rfl rfl K
    · replace hb := i_neg c11 hb
      refine e_k 1 (f' := (174, [(0, .ref 10), (1, .ref r2), (2, .int p3)], [.ref 10])) rfl ?_
      obtain ⟨v12, I12, J12, h12, hb⟩ := oc_call hb
      refine r_cv (z := m_Verifier_joins) (As := []) (rest := []) rfl rfl rfl rfl rfl (x_ltn rfl) rfl rfl (E_Verifier_joins  h12 ⟨_, rfl, ?_⟩)
      refine e_k 1 (f' := (if v12 = 0 then 184 else 180, [(0, .ref 10), (1, .ref r2), (2, .int p3)], [])) rfl ?_
      refine e_if (fun c13 => ?_) (fun c13 => ?_)
      · replace hb := i_pos c13 hb
        refine e_k 1 (f' := (185, [(0, .ref 10), (1, .ref r2), (2, .int p3)], [.int 0])) rfl ?_
        obtain ⟨rfl, rfl, rfl⟩ := s_inj hb
        exact e_r rfl rfl K
      · replace hb := i_neg c13 hb
        refine e_k 2 (f' := (185, [(0, .ref 10), (1, .ref r2), (2, .int p3)], [.int 1])) rfl ?_
        obtain ⟨rfl, rfl, rfl⟩ := s_inj hb
        exact e_r rfl rfl K
  replace hb := i_neg c10 hb
  by_cases c14 : v1 = 6
  · rw [show am_sw v1 482 [(0, 140), (1, 153), (2, 153), (3, 159), (4, 165), (5, 165), (6, 186), (7, 223), (8, 260), (9, 274), (10, 296), (11, 356), (12, 386), (13, 482), (14, 482), (15, 482), (16, 482), (17, 140), (18, 140), (19, 274), (20, 318), (21, 408), (22, 446), (23, 476), (24, 476), (25, 476), (26, 159), (27, 482), (28, 140), (29, 140)] = 186 from by rw [c14]; rfl]
    replace hb := i_pos c14 hb
    refine e_k 1 (f' := (187, [(0, .ref 10), (1, .ref r2), (2, .int p3)], [.ref 10])) rfl ?_
    refine r_geti rfl (x_ltn rfl) rfl rfl ?_
    refine e_k 2 (f' := (if (I1 10 3) < 2 then 221 else 194, [(0, .ref 10), (1, .ref r2), (2, .int p3)], [])) rfl ?_
    refine e_if (fun c15 => ?_) (fun c15 => ?_)
    · replace hb := i_pos c15 hb
      refine e_k 1 (f' := (222, [(0, .ref 10), (1, .ref r2), (2, .int p3)], [.int 0])) rfl ?_
      obtain ⟨rfl, rfl, rfl⟩ := s_inj hb
      exact e_r rfl rfl K
    · replace hb := i_neg c15 hb
      refine e_k 2 (f' := (196, [(0, .ref 10), (1, .ref r2), (2, .int p3)], [.int 1, .ref 10])) rfl ?_
      obtain ⟨v16, I16, J16, h16, hb⟩ := oc_call hb
      refine r_cv (z := m_Verifier_isSecret) (As := [.int 1]) (rest := []) rfl rfl rfl rfl rfl (x_ltn rfl) rfl rfl (E_Verifier_isSecret  h16 ⟨_, rfl, ?_⟩)
      refine e_k 1 (f' := (if v16 = 0 then 210 else 202, [(0, .ref 10), (1, .ref r2), (2, .int p3)], [])) rfl ?_
      refine e_if (fun c17 => ?_) (fun c17 => ?_)
      · replace hb := i_pos c17 hb
        refine e_k 1 (f' := (211, [(0, .ref 10), (1, .ref r2), (2, .int p3)], [.ref 10])) rfl ?_
        obtain ⟨v18, I18, J18, h18, hb⟩ := oc_call hb
        refine r_cv (z := m_Verifier_joins) (As := []) (rest := []) rfl rfl rfl rfl rfl (x_ltn rfl) rfl rfl (E_Verifier_joins  h18 ⟨_, rfl, ?_⟩)
        refine e_k 1 (f' := (if v18 = 0 then 221 else 217, [(0, .ref 10), (1, .ref r2), (2, .int p3)], [])) rfl ?_
        refine e_if (fun c19 => ?_) (fun c19 => ?_)
        · replace hb := i_pos c19 hb
          refine e_k 1 (f' := (222, [(0, .ref 10), (1, .ref r2), (2, .int p3)], [.int 0])) rfl ?_
          obtain ⟨rfl, rfl, rfl⟩ := s_inj hb
          exact e_r rfl rfl K
        · replace hb := i_neg c19 hb
          refine e_k 2 (f' := (222, [(0, .ref 10), (1, .ref r2), (2, .int p3)], [.int 1])) rfl ?_
          obtain ⟨rfl, rfl, rfl⟩ := s_inj hb
          exact e_r rfl rfl K
      · replace hb := i_neg c17 hb
        refine e_k 2 (f' := (204, [(0, .ref 10), (1, .ref r2), (2, .int p3)], [.int 2, .ref 10])) rfl ?_
        obtain ⟨v20, I20, J20, h20, hb⟩ := oc_call hb
        refine r_cv (z := m_Verifier_isSecret) (As := [.int 2]) (rest := []) rfl rfl rfl rfl rfl (x_ltn rfl) rfl rfl (E_Verifier_isSecret  h20 ⟨_, rfl, ?_⟩)
        refine e_k 1 (f' := (if ¬ v20 = 0 then 221 else 210, [(0, .ref 10), (1, .ref r2), (2, .int p3)], [])) rfl ?_
        refine e_if (fun c21 => ?_) (fun c21 => ?_)
        · replace hb := i_pos c21 hb
          refine e_k 1 (f' := (222, [(0, .ref 10), (1, .ref r2), (2, .int p3)], [.int 0])) rfl ?_
          obtain ⟨rfl, rfl, rfl⟩ := s_inj hb
          exact e_r rfl rfl K
        · replace hb := i_neg c21 hb
          refine e_k 1 (f' := (211, [(0, .ref 10), (1, .ref r2), (2, .int p3)], [.ref 10])) rfl ?_
          obtain ⟨v22, I22, J22, h22, hb⟩ := oc_call hb
          refine r_cv (z := m_Verifier_joins) (As := []) (rest := []) rfl rfl rfl rfl rfl (x_ltn rfl) rfl rfl (E_Verifier_joins  h22 ⟨_, rfl, ?_⟩)
          refine e_k 1 (f' := (if v22 = 0 then 221 else 217, [(0, .ref 10), (1, .ref r2), (2, .int p3)], [])) rfl ?_
          refine e_if (fun c23 => ?_) (fun c23 => ?_)
          · replace hb := i_pos c23 hb
            refine e_k 1 (f' := (222, [(0, .ref 10), (1, .ref r2), (2, .int p3)], [.int 0])) rfl ?_
            obtain ⟨rfl, rfl, rfl⟩ := s_inj hb
            exact e_r rfl rfl K
          · replace hb := i_neg c23 hb
            refine e_k 2 (f' := (222, [(0, .ref 10), (1, .ref r2), (2, .int p3)], [.int 1])) rfl ?_
            obtain ⟨rfl, rfl, rfl⟩ := s_inj hb
            exact e_r rfl rfl K
  replace hb := i_neg c14 hb
  by_cases c24 : v1 = 7
  · rw [show am_sw v1 482 [(0, 140), (1, 153), (2, 153), (3, 159), (4, 165), (5, 165), (6, 186), (7, 223), (8, 260), (9, 274), (10, 296), (11, 356), (12, 386), (13, 482), (14, 482), (15, 482), (16, 482), (17, 140), (18, 140), (19, 274), (20, 318), (21, 408), (22, 446), (23, 476), (24, 476), (25, 476), (26, 159), (27, 482), (28, 140), (29, 140)] = 223 from by rw [c24]; rfl]
    replace hb := i_pos c24 hb
    refine e_k 1 (f' := (224, [(0, .ref 10), (1, .ref r2), (2, .int p3)], [.ref 10])) rfl ?_
    refine r_geti rfl (x_ltn rfl) rfl rfl ?_
    refine e_k 2 (f' := (if (I1 10 3) < 2 then 258 else 231, [(0, .ref 10), (1, .ref r2), (2, .int p3)], [])) rfl ?_
    refine e_if (fun c25 => ?_) (fun c25 => ?_)
    · replace hb := i_pos c25 hb
      refine e_k 1 (f' := (259, [(0, .ref 10), (1, .ref r2), (2, .int p3)], [.int 0])) rfl ?_
      obtain ⟨rfl, rfl, rfl⟩ := s_inj hb
      exact e_r rfl rfl K
    · replace hb := i_neg c25 hb
      refine e_k 2 (f' := (233, [(0, .ref 10), (1, .ref r2), (2, .int p3)], [.int 1, .ref 10])) rfl ?_
      obtain ⟨v26, I26, J26, h26, hb⟩ := oc_call hb
      refine r_cv (z := m_Verifier_isSecret) (As := [.int 1]) (rest := []) rfl rfl rfl rfl rfl (x_ltn rfl) rfl rfl (E_Verifier_isSecret  h26 ⟨_, rfl, ?_⟩)
      refine e_k 1 (f' := (if v26 = 0 then 258 else 239, [(0, .ref 10), (1, .ref r2), (2, .int p3)], [])) rfl ?_
      refine e_if (fun c27 => ?_) (fun c27 => ?_)
      · replace hb := i_pos c27 hb
        refine e_k 1 (f' := (259, [(0, .ref 10), (1, .ref r2), (2, .int p3)], [.int 0])) rfl ?_
        obtain ⟨rfl, rfl, rfl⟩ := s_inj hb
        exact e_r rfl rfl K
      · replace hb := i_neg c27 hb
        refine e_k 2 (f' := (241, [(0, .ref 10), (1, .ref r2), (2, .int p3)], [.int 2, .ref 10])) rfl ?_
        obtain ⟨v28, I28, J28, h28, hb⟩ := oc_call hb
        refine r_cv (z := m_Verifier_isSecret) (As := [.int 2]) (rest := []) rfl rfl rfl rfl rfl (x_ltn rfl) rfl rfl (E_Verifier_isSecret  h28 ⟨_, rfl, ?_⟩)
        refine e_k 1 (f' := (if v28 = 0 then 258 else 247, [(0, .ref 10), (1, .ref r2), (2, .int p3)], [])) rfl ?_
        refine e_if (fun c29 => ?_) (fun c29 => ?_)
        · replace hb := i_pos c29 hb
          refine e_k 1 (f' := (259, [(0, .ref 10), (1, .ref r2), (2, .int p3)], [.int 0])) rfl ?_
          obtain ⟨rfl, rfl, rfl⟩ := s_inj hb
          exact e_r rfl rfl K
        · replace hb := i_neg c29 hb
          refine e_k 1 (f' := (248, [(0, .ref 10), (1, .ref r2), (2, .int p3)], [.ref 10])) rfl ?_
          obtain ⟨v30, I30, J30, h30, hb⟩ := oc_call hb
          refine r_cv (z := m_Verifier_joins) (As := []) (rest := []) rfl rfl rfl rfl rfl (x_ltn rfl) rfl rfl (E_Verifier_joins  h30 ⟨_, rfl, ?_⟩)
          refine e_k 1 (f' := (if v30 = 0 then 258 else 254, [(0, .ref 10), (1, .ref r2), (2, .int p3)], [])) rfl ?_
          refine e_if (fun c31 => ?_) (fun c31 => ?_)
          · replace hb := i_pos c31 hb
            refine e_k 1 (f' := (259, [(0, .ref 10), (1, .ref r2), (2, .int p3)], [.int 0])) rfl ?_
            obtain ⟨rfl, rfl, rfl⟩ := s_inj hb
            exact e_r rfl rfl K
          · replace hb := i_neg c31 hb
            refine e_k 2 (f' := (259, [(0, .ref 10), (1, .ref r2), (2, .int p3)], [.int 1])) rfl ?_
            obtain ⟨rfl, rfl, rfl⟩ := s_inj hb
            exact e_r rfl rfl K
  replace hb := i_neg c24 hb
  by_cases c32 : v1 = 8
  · rw [show am_sw v1 482 [(0, 140), (1, 153), (2, 153), (3, 159), (4, 165), (5, 165), (6, 186), (7, 223), (8, 260), (9, 274), (10, 296), (11, 356), (12, 386), (13, 482), (14, 482), (15, 482), (16, 482), (17, 140), (18, 140), (19, 274), (20, 318), (21, 408), (22, 446), (23, 476), (24, 476), (25, 476), (26, 159), (27, 482), (28, 140), (29, 140)] = 260 from by rw [c32]; rfl]
    replace hb := i_pos c32 hb
    refine e_k 1 (f' := (261, [(0, .ref 10), (1, .ref r2), (2, .int p3)], [.ref 10])) rfl ?_
    refine r_geti rfl (x_ltn rfl) rfl rfl ?_
    refine e_k 2 (f' := (if (I1 10 3) < 1 then 272 else 268, [(0, .ref 10), (1, .ref r2), (2, .int p3)], [])) rfl ?_
    refine e_if (fun c33 => ?_) (fun c33 => ?_)
    · replace hb := i_pos c33 hb
      refine e_k 1 (f' := (273, [(0, .ref 10), (1, .ref r2), (2, .int p3)], [.int 0])) rfl ?_
      obtain ⟨rfl, rfl, rfl⟩ := s_inj hb
      exact e_r rfl rfl K
    · replace hb := i_neg c33 hb
      refine e_k 2 (f' := (273, [(0, .ref 10), (1, .ref r2), (2, .int p3)], [.int 1])) rfl ?_
      obtain ⟨rfl, rfl, rfl⟩ := s_inj hb
      exact e_r rfl rfl K
  replace hb := i_neg c32 hb
  by_cases c34 : v1 = 9 ∨ v1 = 19
  · rw [show am_sw v1 482 [(0, 140), (1, 153), (2, 153), (3, 159), (4, 165), (5, 165), (6, 186), (7, 223), (8, 260), (9, 274), (10, 296), (11, 356), (12, 386), (13, 482), (14, 482), (15, 482), (16, 482), (17, 140), (18, 140), (19, 274), (20, 318), (21, 408), (22, 446), (23, 476), (24, 476), (25, 476), (26, 159), (27, 482), (28, 140), (29, 140)] = 274 from by rcases c34 with c34 | c34 <;> rw [c34] <;> rfl]
    replace hb := i_pos c34 hb
    refine e_k 1 (f' := (275, [(0, .ref 10), (1, .ref r2), (2, .int p3)], [.ref 10])) rfl ?_
    refine r_geti rfl (x_ltn rfl) rfl rfl ?_
    refine e_k 2 (f' := (if (I1 10 3) < 1 then 294 else 282, [(0, .ref 10), (1, .ref r2), (2, .int p3)], [])) rfl ?_
    refine e_if (fun c35 => ?_) (fun c35 => ?_)
    · replace hb := i_pos c35 hb
      refine e_k 1 (f' := (295, [(0, .ref 10), (1, .ref r2), (2, .int p3)], [.int 0])) rfl ?_
      obtain ⟨rfl, rfl, rfl⟩ := s_inj hb
      exact e_r rfl rfl K
    · replace hb := i_neg c35 hb
      refine e_k 2 (f' := (284, [(0, .ref 10), (1, .ref r2), (2, .int p3)], [.int 1, .ref 10])) rfl ?_
      obtain ⟨v36, I36, J36, h36, hb⟩ := oc_call hb
      refine r_cv (z := m_Verifier_isSecret) (As := [.int 1]) (rest := []) rfl rfl rfl rfl rfl (x_ltn rfl) rfl rfl (E_Verifier_isSecret  h36 ⟨_, rfl, ?_⟩)
      refine e_k 1 (f' := (if ¬ v36 = 0 then 294 else 290, [(0, .ref 10), (1, .ref r2), (2, .int p3)], [])) rfl ?_
      refine e_if (fun c37 => ?_) (fun c37 => ?_)
      · replace hb := i_pos c37 hb
        refine e_k 1 (f' := (295, [(0, .ref 10), (1, .ref r2), (2, .int p3)], [.int 0])) rfl ?_
        obtain ⟨rfl, rfl, rfl⟩ := s_inj hb
        exact e_r rfl rfl K
      · replace hb := i_neg c37 hb
        refine e_k 2 (f' := (295, [(0, .ref 10), (1, .ref r2), (2, .int p3)], [.int 1])) rfl ?_
        obtain ⟨rfl, rfl, rfl⟩ := s_inj hb
        exact e_r rfl rfl K
  replace hb := i_neg c34 hb
  by_cases c38 : v1 = 10
  · rw [show am_sw v1 482 [(0, 140), (1, 153), (2, 153), (3, 159), (4, 165), (5, 165), (6, 186), (7, 223), (8, 260), (9, 274), (10, 296), (11, 356), (12, 386), (13, 482), (14, 482), (15, 482), (16, 482), (17, 140), (18, 140), (19, 274), (20, 318), (21, 408), (22, 446), (23, 476), (24, 476), (25, 476), (26, 159), (27, 482), (28, 140), (29, 140)] = 296 from by rw [c38]; rfl]
    replace hb := i_pos c38 hb
    refine e_k 1 (f' := (297, [(0, .ref 10), (1, .ref r2), (2, .int p3)], [.ref 10])) rfl ?_
    refine r_geti rfl (x_ltn rfl) rfl rfl ?_
    refine e_k 2 (f' := (if (I1 10 3) < 1 then 316 else 304, [(0, .ref 10), (1, .ref r2), (2, .int p3)], [])) rfl ?_
    refine e_if (fun c39 => ?_) (fun c39 => ?_)
    · replace hb := i_pos c39 hb
      refine e_k 1 (f' := (317, [(0, .ref 10), (1, .ref r2), (2, .int p3)], [.int 0])) rfl ?_
      obtain ⟨rfl, rfl, rfl⟩ := s_inj hb
      exact e_r rfl rfl K
    · replace hb := i_neg c39 hb
      refine e_k 2 (f' := (306, [(0, .ref 10), (1, .ref r2), (2, .int p3)], [.int 1, .ref 10])) rfl ?_
      obtain ⟨v40, I40, J40, h40, hb⟩ := oc_call hb
      refine r_cv (z := m_Verifier_isSecret) (As := [.int 1]) (rest := []) rfl rfl rfl rfl rfl (x_ltn rfl) rfl rfl (E_Verifier_isSecret  h40 ⟨_, rfl, ?_⟩)
      refine e_k 1 (f' := (if v40 = 0 then 316 else 312, [(0, .ref 10), (1, .ref r2), (2, .int p3)], [])) rfl ?_
      refine e_if (fun c41 => ?_) (fun c41 => ?_)
      · replace hb := i_pos c41 hb
        refine e_k 1 (f' := (317, [(0, .ref 10), (1, .ref r2), (2, .int p3)], [.int 0])) rfl ?_
        obtain ⟨rfl, rfl, rfl⟩ := s_inj hb
        exact e_r rfl rfl K
      · replace hb := i_neg c41 hb
        refine e_k 2 (f' := (317, [(0, .ref 10), (1, .ref r2), (2, .int p3)], [.int 1])) rfl ?_
        obtain ⟨rfl, rfl, rfl⟩ := s_inj hb
        exact e_r rfl rfl K
  replace hb := i_neg c38 hb
  by_cases c42 : v1 = 11
  · rw [show am_sw v1 482 [(0, 140), (1, 153), (2, 153), (3, 159), (4, 165), (5, 165), (6, 186), (7, 223), (8, 260), (9, 274), (10, 296), (11, 356), (12, 386), (13, 482), (14, 482), (15, 482), (16, 482), (17, 140), (18, 140), (19, 274), (20, 318), (21, 408), (22, 446), (23, 476), (24, 476), (25, 476), (26, 159), (27, 482), (28, 140), (29, 140)] = 356 from by rw [c42]; rfl]
    replace hb := i_pos c42 hb
    refine e_k 1 (f' := (357, [(0, .ref 10), (1, .ref r2), (2, .int p3)], [.ref 10])) rfl ?_
    refine r_geti rfl (x_ltn rfl) rfl rfl ?_
    refine e_k 2 (f' := (if (I1 10 3) < 1 then 384 else 364, [(0, .ref 10), (1, .ref r2), (2, .int p3)], [])) rfl ?_
    refine e_if (fun c43 => ?_) (fun c43 => ?_)
    · replace hb := i_pos c43 hb
      refine e_k 1 (f' := (385, [(0, .ref 10), (1, .ref r2), (2, .int p3)], [.int 0])) rfl ?_
      obtain ⟨rfl, rfl, rfl⟩ := s_inj hb
      exact e_r rfl rfl K
    · replace hb := i_neg c43 hb
      refine e_k 2 (f' := (366, [(0, .ref 10), (1, .ref r2), (2, .int p3)], [.int 1, .ref 10])) rfl ?_
      obtain ⟨v44, I44, J44, h44, hb⟩ := oc_call hb
      refine r_cv (z := m_Verifier_isSecret) (As := [.int 1]) (rest := []) rfl rfl rfl rfl rfl (x_ltn rfl) rfl rfl (E_Verifier_isSecret  h44 ⟨_, rfl, ?_⟩)
      refine e_k 1 (f' := (if ¬ v44 = 0 then 384 else 372, [(0, .ref 10), (1, .ref r2), (2, .int p3)], [])) rfl ?_
      refine e_if (fun c45 => ?_) (fun c45 => ?_)
      · replace hb := i_pos c45 hb
        refine e_k 1 (f' := (385, [(0, .ref 10), (1, .ref r2), (2, .int p3)], [.int 0])) rfl ?_
        obtain ⟨rfl, rfl, rfl⟩ := s_inj hb
        exact e_r rfl rfl K
      · replace hb := i_neg c45 hb
        refine e_k 2 (f' := (374, [(0, .ref 10), (1, .ref r2), (2, .int p3)], [.int 1, .ref 10])) rfl ?_
        obtain ⟨v46, I46, J46, h46, hb⟩ := oc_call hb
        refine r_cv (z := m_Verifier_drops) (As := [.int 1]) (rest := []) rfl rfl rfl rfl rfl (x_ltn rfl) rfl rfl (E_Verifier_drops  h46 ⟨_, rfl, ?_⟩)
        refine e_k 1 (f' := (if v46 = 0 then 384 else 380, [(0, .ref 10), (1, .ref r2), (2, .int p3)], [])) rfl ?_
        refine e_if (fun c47 => ?_) (fun c47 => ?_)
        · replace hb := i_pos c47 hb
          refine e_k 1 (f' := (385, [(0, .ref 10), (1, .ref r2), (2, .int p3)], [.int 0])) rfl ?_
          obtain ⟨rfl, rfl, rfl⟩ := s_inj hb
          exact e_r rfl rfl K
        · replace hb := i_neg c47 hb
          refine e_k 2 (f' := (385, [(0, .ref 10), (1, .ref r2), (2, .int p3)], [.int 1])) rfl ?_
          obtain ⟨rfl, rfl, rfl⟩ := s_inj hb
          exact e_r rfl rfl K
  replace hb := i_neg c42 hb
  by_cases c48 : v1 = 12
  · rw [show am_sw v1 482 [(0, 140), (1, 153), (2, 153), (3, 159), (4, 165), (5, 165), (6, 186), (7, 223), (8, 260), (9, 274), (10, 296), (11, 356), (12, 386), (13, 482), (14, 482), (15, 482), (16, 482), (17, 140), (18, 140), (19, 274), (20, 318), (21, 408), (22, 446), (23, 476), (24, 476), (25, 476), (26, 159), (27, 482), (28, 140), (29, 140)] = 386 from by rw [c48]; rfl]
    replace hb := i_pos c48 hb
    refine e_k 1 (f' := (387, [(0, .ref 10), (1, .ref r2), (2, .int p3)], [.ref 10])) rfl ?_
    refine r_geti rfl (x_ltn rfl) rfl rfl ?_
    refine e_k 2 (f' := (if (I1 10 3) < 1 then 406 else 394, [(0, .ref 10), (1, .ref r2), (2, .int p3)], [])) rfl ?_
    refine e_if (fun c49 => ?_) (fun c49 => ?_)
    · replace hb := i_pos c49 hb
      refine e_k 1 (f' := (407, [(0, .ref 10), (1, .ref r2), (2, .int p3)], [.int 0])) rfl ?_
      obtain ⟨rfl, rfl, rfl⟩ := s_inj hb
      exact e_r rfl rfl K
    · replace hb := i_neg c49 hb
      refine e_k 2 (f' := (396, [(0, .ref 10), (1, .ref r2), (2, .int p3)], [.int 1, .ref 10])) rfl ?_
      obtain ⟨v50, I50, J50, h50, hb⟩ := oc_call hb
      refine r_cv (z := m_Verifier_drops) (As := [.int 1]) (rest := []) rfl rfl rfl rfl rfl (x_ltn rfl) rfl rfl (E_Verifier_drops  h50 ⟨_, rfl, ?_⟩)
      refine e_k 1 (f' := (if v50 = 0 then 406 else 402, [(0, .ref 10), (1, .ref r2), (2, .int p3)], [])) rfl ?_
      refine e_if (fun c51 => ?_) (fun c51 => ?_)
      · replace hb := i_pos c51 hb
        refine e_k 1 (f' := (407, [(0, .ref 10), (1, .ref r2), (2, .int p3)], [.int 0])) rfl ?_
        obtain ⟨rfl, rfl, rfl⟩ := s_inj hb
        exact e_r rfl rfl K
      · replace hb := i_neg c51 hb
        refine e_k 2 (f' := (407, [(0, .ref 10), (1, .ref r2), (2, .int p3)], [.int 1])) rfl ?_
        obtain ⟨rfl, rfl, rfl⟩ := s_inj hb
        exact e_r rfl rfl K
  replace hb := i_neg c48 hb
  by_cases c52 : v1 = 20
  · rw [show am_sw v1 482 [(0, 140), (1, 153), (2, 153), (3, 159), (4, 165), (5, 165), (6, 186), (7, 223), (8, 260), (9, 274), (10, 296), (11, 356), (12, 386), (13, 482), (14, 482), (15, 482), (16, 482), (17, 140), (18, 140), (19, 274), (20, 318), (21, 408), (22, 446), (23, 476), (24, 476), (25, 476), (26, 159), (27, 482), (28, 140), (29, 140)] = 318 from by rw [c52]; rfl]
    replace hb := i_pos c52 hb
    refine e_k 1 (f' := (319, [(0, .ref 10), (1, .ref r2), (2, .int p3)], [.ref 10])) rfl ?_
    refine r_geti rfl (x_ltn rfl) rfl rfl ?_
    refine e_k 2 (f' := (if (I1 10 3) < 1 then 354 else 326, [(0, .ref 10), (1, .ref r2), (2, .int p3)], [])) rfl ?_
    refine e_if (fun c53 => ?_) (fun c53 => ?_)
    · replace hb := i_pos c53 hb
      refine e_k 1 (f' := (355, [(0, .ref 10), (1, .ref r2), (2, .int p3)], [.int 0])) rfl ?_
      obtain ⟨rfl, rfl, rfl⟩ := s_inj hb
      exact e_r rfl rfl K
    · replace hb := i_neg c53 hb
      refine e_k 2 (f' := (328, [(0, .ref 10), (1, .ref r2), (2, .int p3)], [.int 1, .ref 10])) rfl ?_
      obtain ⟨v54, I54, J54, h54, hb⟩ := oc_call hb
      refine r_cv (z := m_Verifier_isSecret) (As := [.int 1]) (rest := []) rfl rfl rfl rfl rfl (x_ltn rfl) rfl rfl (E_Verifier_isSecret  h54 ⟨_, rfl, ?_⟩)
      refine e_k 1 (f' := (if ¬ v54 = 0 then 354 else 334, [(0, .ref 10), (1, .ref r2), (2, .int p3)], [])) rfl ?_
      refine e_if (fun c55 => ?_) (fun c55 => ?_)
      · replace hb := i_pos c55 hb
        refine e_k 1 (f' := (355, [(0, .ref 10), (1, .ref r2), (2, .int p3)], [.int 0])) rfl ?_
        obtain ⟨rfl, rfl, rfl⟩ := s_inj hb
        exact e_r rfl rfl K
      · replace hb := i_neg c55 hb
        refine e_k 2 (f' := (336, [(0, .ref 10), (1, .ref r2), (2, .int p3)], [.int 1, .ref 10])) rfl ?_
        obtain ⟨v56, I56, J56, h56, hb⟩ := oc_call hb
        refine r_cv (z := m_Verifier_drops) (As := [.int 1]) (rest := []) rfl rfl rfl rfl rfl (x_ltn rfl) rfl rfl (E_Verifier_drops  h56 ⟨_, rfl, ?_⟩)
        refine e_k 1 (f' := (if v56 = 0 then 354 else 342, [(0, .ref 10), (1, .ref r2), (2, .int p3)], [])) rfl ?_
        refine e_if (fun c57 => ?_) (fun c57 => ?_)
        · replace hb := i_pos c57 hb
          refine e_k 1 (f' := (355, [(0, .ref 10), (1, .ref r2), (2, .int p3)], [.int 0])) rfl ?_
          obtain ⟨rfl, rfl, rfl⟩ := s_inj hb
          exact e_r rfl rfl K
        · replace hb := i_neg c57 hb
          refine e_k 2 (f' := (344, [(0, .ref 10), (1, .ref r2), (2, .int p3)], [.int 1, .ref 10])) rfl ?_
          obtain ⟨v58, I58, J58, h58, hb⟩ := oc_call hb
          refine r_cv (z := m_Verifier_pushes) (As := [.int 1]) (rest := []) rfl rfl rfl rfl rfl (x_ltn rfl) rfl rfl (E_Verifier_pushes  h58 ⟨_, rfl, ?_⟩)
          refine e_k 1 (f' := (if v58 = 0 then 354 else 350, [(0, .ref 10), (1, .ref r2), (2, .int p3)], [])) rfl ?_
          refine e_if (fun c59 => ?_) (fun c59 => ?_)
          · replace hb := i_pos c59 hb
            refine e_k 1 (f' := (355, [(0, .ref 10), (1, .ref r2), (2, .int p3)], [.int 0])) rfl ?_
            obtain ⟨rfl, rfl, rfl⟩ := s_inj hb
            exact e_r rfl rfl K
          · replace hb := i_neg c59 hb
            refine e_k 2 (f' := (355, [(0, .ref 10), (1, .ref r2), (2, .int p3)], [.int 1])) rfl ?_
            obtain ⟨rfl, rfl, rfl⟩ := s_inj hb
            exact e_r rfl rfl K
  replace hb := i_neg c52 hb
  by_cases c60 : v1 = 21
  · rw [show am_sw v1 482 [(0, 140), (1, 153), (2, 153), (3, 159), (4, 165), (5, 165), (6, 186), (7, 223), (8, 260), (9, 274), (10, 296), (11, 356), (12, 386), (13, 482), (14, 482), (15, 482), (16, 482), (17, 140), (18, 140), (19, 274), (20, 318), (21, 408), (22, 446), (23, 476), (24, 476), (25, 476), (26, 159), (27, 482), (28, 140), (29, 140)] = 408 from by rw [c60]; rfl]
    replace hb := i_pos c60 hb
    refine e_k 1 (f' := (409, [(0, .ref 10), (1, .ref r2), (2, .int p3)], [.ref 10])) rfl ?_
    refine r_geti rfl (x_ltn rfl) rfl rfl ?_
    refine e_k 2 (f' := (if (I1 10 3) < 2 then 444 else 416, [(0, .ref 10), (1, .ref r2), (2, .int p3)], [])) rfl ?_
    refine e_if (fun c61 => ?_) (fun c61 => ?_)
    · replace hb := i_pos c61 hb
      refine e_k 1 (f' := (445, [(0, .ref 10), (1, .ref r2), (2, .int p3)], [.int 0])) rfl ?_
      obtain ⟨rfl, rfl, rfl⟩ := s_inj hb
      exact e_r rfl rfl K
    · replace hb := i_neg c61 hb
      refine e_k 2 (f' := (418, [(0, .ref 10), (1, .ref r2), (2, .int p3)], [.int 1, .ref 10])) rfl ?_
      obtain ⟨v62, I62, J62, h62, hb⟩ := oc_call hb
      refine r_cv (z := m_Verifier_isSecret) (As := [.int 1]) (rest := []) rfl rfl rfl rfl rfl (x_ltn rfl) rfl rfl (E_Verifier_isSecret  h62 ⟨_, rfl, ?_⟩)
      refine e_k 1 (f' := (if ¬ v62 = 0 then 444 else 424, [(0, .ref 10), (1, .ref r2), (2, .int p3)], [])) rfl ?_
      refine e_if (fun c63 => ?_) (fun c63 => ?_)
      · replace hb := i_pos c63 hb
        refine e_k 1 (f' := (445, [(0, .ref 10), (1, .ref r2), (2, .int p3)], [.int 0])) rfl ?_
        obtain ⟨rfl, rfl, rfl⟩ := s_inj hb
        exact e_r rfl rfl K
      · replace hb := i_neg c63 hb
        refine e_k 2 (f' := (426, [(0, .ref 10), (1, .ref r2), (2, .int p3)], [.int 2, .ref 10])) rfl ?_
        obtain ⟨v64, I64, J64, h64, hb⟩ := oc_call hb
        refine r_cv (z := m_Verifier_isSecret) (As := [.int 2]) (rest := []) rfl rfl rfl rfl rfl (x_ltn rfl) rfl rfl (E_Verifier_isSecret  h64 ⟨_, rfl, ?_⟩)
        refine e_k 1 (f' := (if ¬ v64 = 0 then 444 else 432, [(0, .ref 10), (1, .ref r2), (2, .int p3)], [])) rfl ?_
        refine e_if (fun c65 => ?_) (fun c65 => ?_)
        · replace hb := i_pos c65 hb
          refine e_k 1 (f' := (445, [(0, .ref 10), (1, .ref r2), (2, .int p3)], [.int 0])) rfl ?_
          obtain ⟨rfl, rfl, rfl⟩ := s_inj hb
          exact e_r rfl rfl K
        · replace hb := i_neg c65 hb
          refine e_k 2 (f' := (434, [(0, .ref 10), (1, .ref r2), (2, .int p3)], [.int 2, .ref 10])) rfl ?_
          obtain ⟨v66, I66, J66, h66, hb⟩ := oc_call hb
          refine r_cv (z := m_Verifier_drops) (As := [.int 2]) (rest := []) rfl rfl rfl rfl rfl (x_ltn rfl) rfl rfl (E_Verifier_drops  h66 ⟨_, rfl, ?_⟩)
          refine e_k 1 (f' := (if v66 = 0 then 444 else 440, [(0, .ref 10), (1, .ref r2), (2, .int p3)], [])) rfl ?_
          refine e_if (fun c67 => ?_) (fun c67 => ?_)
          · replace hb := i_pos c67 hb
            refine e_k 1 (f' := (445, [(0, .ref 10), (1, .ref r2), (2, .int p3)], [.int 0])) rfl ?_
            obtain ⟨rfl, rfl, rfl⟩ := s_inj hb
            exact e_r rfl rfl K
          · replace hb := i_neg c67 hb
            refine e_k 2 (f' := (445, [(0, .ref 10), (1, .ref r2), (2, .int p3)], [.int 1])) rfl ?_
            obtain ⟨rfl, rfl, rfl⟩ := s_inj hb
            exact e_r rfl rfl K
  replace hb := i_neg c60 hb
  by_cases c68 : v1 = 22
  · rw [show am_sw v1 482 [(0, 140), (1, 153), (2, 153), (3, 159), (4, 165), (5, 165), (6, 186), (7, 223), (8, 260), (9, 274), (10, 296), (11, 356), (12, 386), (13, 482), (14, 482), (15, 482), (16, 482), (17, 140), (18, 140), (19, 274), (20, 318), (21, 408), (22, 446), (23, 476), (24, 476), (25, 476), (26, 159), (27, 482), (28, 140), (29, 140)] = 446 from by rw [c68]; rfl]
    replace hb := i_pos c68 hb
    refine e_k 1 (f' := (447, [(0, .ref 10), (1, .ref r2), (2, .int p3)], [.ref 10])) rfl ?_
    refine r_geti rfl (x_ltn rfl) rfl rfl ?_
    refine e_k 2 (f' := (if (I1 10 3) < 2 then 474 else 454, [(0, .ref 10), (1, .ref r2), (2, .int p3)], [])) rfl ?_
    refine e_if (fun c69 => ?_) (fun c69 => ?_)
    · replace hb := i_pos c69 hb
      refine e_k 1 (f' := (475, [(0, .ref 10), (1, .ref r2), (2, .int p3)], [.int 0])) rfl ?_
      obtain ⟨rfl, rfl, rfl⟩ := s_inj hb
      exact e_r rfl rfl K
    · replace hb := i_neg c69 hb
      refine e_k 2 (f' := (456, [(0, .ref 10), (1, .ref r2), (2, .int p3)], [.int 2, .ref 10])) rfl ?_
      obtain ⟨v70, I70, J70, h70, hb⟩ := oc_call hb
      refine r_cv (z := m_Verifier_isSecret) (As := [.int 2]) (rest := []) rfl rfl rfl rfl rfl (x_ltn rfl) rfl rfl (E_Verifier_isSecret  h70 ⟨_, rfl, ?_⟩)
      refine e_k 1 (f' := (if ¬ v70 = 0 then 474 else 462, [(0, .ref 10), (1, .ref r2), (2, .int p3)], [])) rfl ?_
      refine e_if (fun c71 => ?_) (fun c71 => ?_)
      · replace hb := i_pos c71 hb
        refine e_k 1 (f' := (475, [(0, .ref 10), (1, .ref r2), (2, .int p3)], [.int 0])) rfl ?_
        obtain ⟨rfl, rfl, rfl⟩ := s_inj hb
        exact e_r rfl rfl K
      · replace hb := i_neg c71 hb
        refine e_k 2 (f' := (464, [(0, .ref 10), (1, .ref r2), (2, .int p3)], [.int 2, .ref 10])) rfl ?_
        obtain ⟨v72, I72, J72, h72, hb⟩ := oc_call hb
        refine r_cv (z := m_Verifier_drops) (As := [.int 2]) (rest := []) rfl rfl rfl rfl rfl (x_ltn rfl) rfl rfl (E_Verifier_drops  h72 ⟨_, rfl, ?_⟩)
        refine e_k 1 (f' := (if v72 = 0 then 474 else 470, [(0, .ref 10), (1, .ref r2), (2, .int p3)], [])) rfl ?_
        refine e_if (fun c73 => ?_) (fun c73 => ?_)
        · replace hb := i_pos c73 hb
          refine e_k 1 (f' := (475, [(0, .ref 10), (1, .ref r2), (2, .int p3)], [.int 0])) rfl ?_
          obtain ⟨rfl, rfl, rfl⟩ := s_inj hb
          exact e_r rfl rfl K
        · replace hb := i_neg c73 hb
          refine e_k 2 (f' := (475, [(0, .ref 10), (1, .ref r2), (2, .int p3)], [.int 1])) rfl ?_
          obtain ⟨rfl, rfl, rfl⟩ := s_inj hb
          exact e_r rfl rfl K
  replace hb := i_neg c68 hb
  by_cases c74 : v1 = 23 ∨ v1 = 24 ∨ v1 = 25
  · rw [show am_sw v1 482 [(0, 140), (1, 153), (2, 153), (3, 159), (4, 165), (5, 165), (6, 186), (7, 223), (8, 260), (9, 274), (10, 296), (11, 356), (12, 386), (13, 482), (14, 482), (15, 482), (16, 482), (17, 140), (18, 140), (19, 274), (20, 318), (21, 408), (22, 446), (23, 476), (24, 476), (25, 476), (26, 159), (27, 482), (28, 140), (29, 140)] = 476 from by rcases c74 with c74 | c74 | c74 <;> rw [c74] <;> rfl]
    replace hb := i_pos c74 hb
    refine e_k 2 (f' := (478, [(0, .ref 10), (1, .ref r2), (2, .int p3)], [.int p3, .ref r2])) rfl ?_
    obtain ⟨v75, I75, J75, h75, hb⟩ := oc_call hb
    refine r_cs (z := m_Verifier_keepsSecret) (As := [.ref r2, .int p3]) (rest := []) rfl rfl rfl rfl rfl rfl (E_Verifier_keepsSecret hR_r2 h75 ⟨_, rfl, ?_⟩)
    obtain ⟨o76, hb⟩ := ob_if hb
    obtain ⟨rfl, rfl, rfl⟩ := s_inj hb
    exact e_r rfl (if_pos o76) K
  replace hb := i_neg c74 hb
  rw [show am_sw v1 482 [(0, 140), (1, 153), (2, 153), (3, 159), (4, 165), (5, 165), (6, 186), (7, 223), (8, 260), (9, 274), (10, 296), (11, 356), (12, 386), (13, 482), (14, 482), (15, 482), (16, 482), (17, 140), (18, 140), (19, 274), (20, 318), (21, 408), (22, 446), (23, 476), (24, 476), (25, 476), (26, 159), (27, 482), (28, 140), (29, 140)] = 482 from (am_swd (fun e => c2 (Or.inl e)) (am_swd (fun e => c4 (Or.inl e)) (am_swd (fun e => c4 (Or.inr e)) (am_swd (fun e => c7 (Or.inl e)) (am_swd (fun e => c10 (Or.inl e)) (am_swd (fun e => c10 (Or.inr e)) (am_swd c14 (am_swd c24 (am_swd c32 (am_swd (fun e => c34 (Or.inl e)) (am_swd c38 (am_swd c42 (am_swd c48 (am_swe (am_swe (am_swe (am_swe (am_swd (fun e => c2 (Or.inr (Or.inl e))) (am_swd (fun e => c2 (Or.inr (Or.inr (Or.inl e)))) (am_swd (fun e => c34 (Or.inr e)) (am_swd c52 (am_swd c60 (am_swd c68 (am_swd (fun e => c74 (Or.inl e)) (am_swd (fun e => c74 (Or.inr (Or.inl e))) (am_swd (fun e => c74 (Or.inr (Or.inr e))) (am_swd (fun e => c7 (Or.inr e)) (am_swe (am_swd (fun e => c2 (Or.inr (Or.inr (Or.inr (Or.inl e))))) (am_swd (fun e => c2 (Or.inr (Or.inr (Or.inr (Or.inr e))))) rfl))))))))))))))))))))))))))))))]
  refine e_k 1 (f' := (483, [(0, .ref 10), (1, .ref r2), (2, .int p3)], [.int 1])) rfl ?_
  obtain ⟨rfl, rfl, rfl⟩ := s_inj hb
  exact e_r rfl rfl K
end AUTO
