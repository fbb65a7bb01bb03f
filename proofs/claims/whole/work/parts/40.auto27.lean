section AUTO
variable {L : Nat} {xs : Nat → Int32} {d : Nat} {P : am_R → am_H → Prop}
def f_Hall_checkStep (w2 : Nat) (I : MI) (J : MJ) : M2 Int32 := pl ((if 8 ≤ (I (18 + 21 * w2) 9) then ((I (18 + 21 * w2) 9) - 10) else (I (18 + 21 * w2) 9)) : Int32) (fun v2 => oc ((if ¬ (v2 &&& 1) = 0 then (oc (f_Hall_receives w2 (-1) I J) (fun v8 I8 J8 => some (v8, I8, J8))) else (oc (f_Hall_sends w2 I J) (fun v9 I9 J9 => some (v9, I9, J9)))) : M2 (Int32)) (fun v6 I6 J6 => if ¬ v6 = 0 then (pl (va_up I6 (18 + 21 * w2) (upd (I6 (18 + 21 * w2)) 9 ((I6 (18 + 21 * w2) 9) + 1))) (fun I11 => if v2 = 0 then (oc (f_Check_drawCoinAndNonce w2 I11 J6) (fun v13 I13 J13 => some (1, I13, J13))) else (if v2 = 1 then (oc (f_Hall_noteBonds w2 I11 J6) (fun v15 I15 J15 => some (1, I15, J15))) else (if v2 = 4 then (oc (f_Check_drawNonce w2 I11 J6) (fun v17 I17 J17 => some (1, I17, J17))) else (if v2 = 7 then (oc (f_Hall_judge w2 I11 J6) (fun v19 I19 J19 => some (v19, I19, J19))) else (some (1, I11, J6))))))) else (some (0, I6, J6))))
theorem E_Hall_checkStep {w2 : Nat} {X : MX} {I : MI} {J : MJ} {v : Int32} {I' : MI} {J' : MJ} (hw_w2 : w2 < 4) (hb : f_Hall_checkStep w2 I J = some (v, I', J')) (K : P (.inl (some (.int v))) (hX X I' J')) : am_E (gG L xs) (d + 4) m_Hall_checkStep (0, lv_args 0 [.ref 14, .ref (18 + 21 * w2)], []) (hX X I J) P := by
  unfold f_Hall_checkStep at hb
  refine e_k 1 (f' := (1, [(0, .ref 14), (1, .ref (18 + 21 * w2))], [.ref (18 + 21 * w2)])) rfl ?_
  refine r_geti rfl (x_ltp hw_w2 (by decide)) (sS_p0 hw_w2) rfl ?_
  refine e_k 2 (f' := (if 8 ≤ (I (18 + 21 * w2) 9) then 16 else 9, [(0, .ref 14), (1, .ref (18 + 21 * w2))], [])) rfl ?_
  obtain ⟨v2, h2, hb⟩ := p_nn hb
  have Kj2 : am_E (gG L xs) (d + 4) m_Hall_checkStep (23, [(0, .ref 14), (1, .ref (18 + 21 * w2))], [.int v2]) (hX X I J) P := by
    refine e_k 5 (f' := (if ¬ (v2 &&& 1) = 0 then 38 else 30, [(2, .int v2), (0, .ref 14), (1, .ref (18 + 21 * w2))], [])) rfl ?_
    obtain ⟨v6, I6, J6, h6, hb⟩ := oc_call hb
    have Kj6 : am_E (gG L xs) (d + 4) m_Hall_checkStep (44, [(0, .ref 14), (1, .ref (18 + 21 * w2)), (2, .int v2)], [.int v6]) (hX X I6 J6) P := by
      refine e_k 3 (f' := (if ¬ v6 = 0 then 51 else 49, [(3, .int v6), (0, .ref 14), (1, .ref (18 + 21 * w2)), (2, .int v2)], [])) rfl ?_
      refine e_if (fun c10 => ?_) (fun c10 => ?_)
      · replace hb := i_pos c10 hb
        refine e_k 2 (f' := (53, [(3, .int v6), (0, .ref 14), (1, .ref (18 + 21 * w2)), (2, .int v2)], [.ref (18 + 21 * w2), .ref (18 + 21 * w2)])) rfl ?_
        refine r_geti rfl (x_ltp hw_w2 (by decide)) (sS_p0 hw_w2) rfl ?_
        refine e_k 2 (f' := (58, [(3, .int v6), (0, .ref 14), (1, .ref (18 + 21 * w2)), (2, .int v2)], [.int ((I6 (18 + 21 * w2) 9) + 1), .ref (18 + 21 * w2)])) rfl ?_
        obtain ⟨I11, eI11, hb⟩ := p_nm hb
        refine r_puti' rfl (x_ltp hw_w2 (by decide)) (sS_p0 hw_w2) rfl eI11 ?_
        refine e_k 2 (f' := (am_sw v2 142 [(0, 108), (1, 117), (2, 142), (3, 142), (4, 127), (5, 142), (6, 142), (7, 136)], [(3, .int v6), (0, .ref 14), (1, .ref (18 + 21 * w2)), (2, .int v2)], [])) rfl ?_
        by_cases c12 : v2 = 0
        · rw [show am_sw v2 142 [(0, 108), (1, 117), (2, 142), (3, 142), (4, 127), (5, 142), (6, 142), (7, 136)] = 108 from by rw [c12]; rfl]
          replace hb := i_pos c12 hb
          refine e_k 1 (f' := (109, [(3, .int v6), (0, .ref 14), (1, .ref (18 + 21 * w2)), (2, .int v2)], [.ref (18 + 21 * w2)])) rfl ?_
          refine r_getr rfl (x_ltp hw_w2 (by decide)) (sS_p0 hw_w2) rfl ?_
          obtain ⟨v13, I13, J13, h13, hb⟩ := oc_call hb
          refine r_cv (z := m_Check_drawCoinAndNonce) (As := []) (rest := []) rfl rfl rfl rfl rfl (x_ltp hw_w2 (by decide)) (sS_p7 hw_w2) rfl (E_Check_drawCoinAndNonce hw_w2 h13 ⟨_, rfl, ?_⟩)
          refine e_k 1 (f' := (116, [(3, .int v6), (0, .ref 14), (1, .ref (18 + 21 * w2)), (2, .int v2)], [.int 1])) rfl ?_
          obtain ⟨rfl, rfl, rfl⟩ := s_inj hb
          exact e_r rfl rfl K
        replace hb := i_neg c12 hb
        by_cases c14 : v2 = 1
        · rw [show am_sw v2 142 [(0, 108), (1, 117), (2, 142), (3, 142), (4, 127), (5, 142), (6, 142), (7, 136)] = 117 from by rw [c14]; rfl]
          replace hb := i_pos c14 hb
          refine e_k 2 (f' := (119, [(3, .int v6), (0, .ref 14), (1, .ref (18 + 21 * w2)), (2, .int v2)], [.ref (18 + 21 * w2), .ref 14])) rfl ?_
          refine r_getr rfl (x_ltp hw_w2 (by decide)) (sS_p0 hw_w2) rfl ?_
          obtain ⟨v15, I15, J15, h15, hb⟩ := oc_call hb
          refine r_cv (z := m_Hall_noteBonds) (As := [.ref (25 + 21 * w2)]) (rest := []) rfl rfl rfl rfl rfl (x_ltn rfl) rfl rfl (E_Hall_noteBonds hw_w2 h15 ⟨_, rfl, ?_⟩)
          refine e_k 1 (f' := (126, [(3, .int v6), (0, .ref 14), (1, .ref (18 + 21 * w2)), (2, .int v2)], [.int 1])) rfl ?_
          obtain ⟨rfl, rfl, rfl⟩ := s_inj hb
          exact e_r rfl rfl K
        replace hb := i_neg c14 hb
        by_cases c16 : v2 = 4
        · rw [show am_sw v2 142 [(0, 108), (1, 117), (2, 142), (3, 142), (4, 127), (5, 142), (6, 142), (7, 136)] = 127 from by rw [c16]; rfl]
          replace hb := i_pos c16 hb
          refine e_k 1 (f' := (128, [(3, .int v6), (0, .ref 14), (1, .ref (18 + 21 * w2)), (2, .int v2)], [.ref (18 + 21 * w2)])) rfl ?_
          refine r_getr rfl (x_ltp hw_w2 (by decide)) (sS_p0 hw_w2) rfl ?_
          obtain ⟨v17, I17, J17, h17, hb⟩ := oc_call hb
          refine r_cv (z := m_Check_drawNonce) (As := []) (rest := []) rfl rfl rfl rfl rfl (x_ltp hw_w2 (by decide)) (sS_p7 hw_w2) rfl (E_Check_drawNonce hw_w2 h17 ⟨_, rfl, ?_⟩)
          refine e_k 1 (f' := (135, [(3, .int v6), (0, .ref 14), (1, .ref (18 + 21 * w2)), (2, .int v2)], [.int 1])) rfl ?_
          obtain ⟨rfl, rfl, rfl⟩ := s_inj hb
          exact e_r rfl rfl K
        replace hb := i_neg c16 hb
        by_cases c18 : v2 = 7
        · rw [show am_sw v2 142 [(0, 108), (1, 117), (2, 142), (3, 142), (4, 127), (5, 142), (6, 142), (7, 136)] = 136 from by rw [c18]; rfl]
          replace hb := i_pos c18 hb
          refine e_k 2 (f' := (138, [(3, .int v6), (0, .ref 14), (1, .ref (18 + 21 * w2)), (2, .int v2)], [.ref (18 + 21 * w2), .ref 14])) rfl ?_
          obtain ⟨v19, I19, J19, h19, hb⟩ := oc_call hb
          refine r_cv (z := m_Hall_judge) (As := [.ref (18 + 21 * w2)]) (rest := []) rfl rfl rfl rfl rfl (x_ltn rfl) rfl rfl (E_Hall_judge hw_w2 h19 ⟨_, rfl, ?_⟩)
          obtain ⟨rfl, rfl, rfl⟩ := s_inj hb
          exact e_r rfl rfl K
        replace hb := i_neg c18 hb
        rw [show am_sw v2 142 [(0, 108), (1, 117), (2, 142), (3, 142), (4, 127), (5, 142), (6, 142), (7, 136)] = 142 from (am_swd c12 (am_swd c14 (am_swe (am_swe (am_swd c16 (am_swe (am_swe (am_swd c18 rfl))))))))]
        refine e_k 1 (f' := (143, [(3, .int v6), (0, .ref 14), (1, .ref (18 + 21 * w2)), (2, .int v2)], [.int 1])) rfl ?_
        obtain ⟨rfl, rfl, rfl⟩ := s_inj hb
        exact e_r rfl rfl K
      · replace hb := i_neg c10 hb
        refine e_k 1 (f' := (50, [(3, .int v6), (0, .ref 14), (1, .ref (18 + 21 * w2)), (2, .int v2)], [.int 0])) rfl ?_
        obtain ⟨rfl, rfl, rfl⟩ := s_inj hb
        exact e_r rfl rfl K
    clear hb
    refine e_if (fun c7 => ?_) (fun c7 => ?_)
    · replace h6 := i_pos c7 h6
      refine e_k 3 (f' := (41, [(2, .int v2), (0, .ref 14), (1, .ref (18 + 21 * w2))], [.int (-1), .ref (18 + 21 * w2), .ref 14])) rfl ?_
      obtain ⟨v8, I8, J8, h8, h6⟩ := oc_call h6
      refine r_cv (z := m_Hall_receives) (As := [.ref (18 + 21 * w2), .int (-1)]) (rest := []) rfl rfl rfl rfl rfl (x_ltn rfl) rfl rfl (E_Hall_receives hw_w2 h8 ⟨_, rfl, ?_⟩)
      refine e_sub (ls := [(0, .ref 14), (1, .ref (18 + 21 * w2)), (2, .int v2)]) rfl ⟨rfl, rfl, rfl, trivial⟩ ?_
      obtain ⟨rfl, rfl, rfl⟩ := s_inj h6
      exact Kj6
    · replace h6 := i_neg c7 h6
      refine e_k 2 (f' := (32, [(2, .int v2), (0, .ref 14), (1, .ref (18 + 21 * w2))], [.ref (18 + 21 * w2), .ref 14])) rfl ?_
      obtain ⟨v9, I9, J9, h9, h6⟩ := oc_call h6
      refine r_cv (z := m_Hall_sends) (As := [.ref (18 + 21 * w2)]) (rest := []) rfl rfl rfl rfl rfl (x_ltn rfl) rfl rfl (E_Hall_sends hw_w2 h9 ⟨_, rfl, ?_⟩)
      refine e_k 1 (f' := (44, [(2, .int v2), (0, .ref 14), (1, .ref (18 + 21 * w2))], [.int v9])) rfl ?_
      refine e_sub (ls := [(0, .ref 14), (1, .ref (18 + 21 * w2)), (2, .int v2)]) rfl ⟨rfl, rfl, rfl, trivial⟩ ?_
      obtain ⟨rfl, rfl, rfl⟩ := s_inj h6
      exact Kj6
  clear hb
  refine e_if (fun c3 => ?_) (fun c3 => ?_)
  · replace h2 := i_pos c3 h2
    refine e_k 1 (f' := (17, [(0, .ref 14), (1, .ref (18 + 21 * w2))], [.ref (18 + 21 * w2)])) rfl ?_
    refine r_geti rfl (x_ltp hw_w2 (by decide)) (sS_p0 hw_w2) rfl ?_
    refine e_k 2 (f' := (23, [(0, .ref 14), (1, .ref (18 + 21 * w2))], [.int ((I (18 + 21 * w2) 9) - 10)])) rfl ?_
    refine e_sub (ls := [(0, .ref 14), (1, .ref (18 + 21 * w2))]) rfl ⟨rfl, rfl, trivial⟩ ?_
    subst h2
    exact Kj2
  · replace h2 := i_neg c3 h2
    refine e_k 1 (f' := (10, [(0, .ref 14), (1, .ref (18 + 21 * w2))], [.ref (18 + 21 * w2)])) rfl ?_
    refine r_geti rfl (x_ltp hw_w2 (by decide)) (sS_p0 hw_w2) rfl ?_
    refine e_k 1 (f' := (23, [(0, .ref 14), (1, .ref (18 + 21 * w2))], [.int (I (18 + 21 * w2) 9)])) rfl ?_
    refine e_sub (ls := [(0, .ref 14), (1, .ref (18 + 21 * w2))]) rfl ⟨rfl, rfl, trivial⟩ ?_
    subst h2
    exact Kj2
def f_Translator_statement (R : M3) (I : MI) (J : MJ) : M2 Int32 := oc (f_Translator_look  I J) (fun v1 I1 J1 => oc (f_Translator_isVariable v1 I1 J1) (fun v2 I2 J2 => if v2 = 0 then (oc (f_Translator_isArray v1 I2 J2) (fun v4 I4 J4 => if v4 = 0 then (if ¬ v1 = 62 then (if ¬ v1 = 64 then (if ¬ v1 = 63 then (if ¬ v1 = 42 then (some (0, I4, J4)) else (oc (R 8 0 0 I4 J4) (fun v10 I10 J10 => some (1, I10, J10)))) else (oc (R 7 0 0 I4 J4) (fun v11 I11 J11 => some (1, I11, J11)))) else (oc (R 5 (I4 3 5) 0 I4 J4) (fun v12 I12 J12 => some (1, I12, J12)))) else (oc (f_Translator_show  I4 J4) (fun v13 I13 J13 => some (1, I13, J13)))) else (oc (R 4 (v1 - 65) (I4 3 5) I4 J4) (fun v14 I14 J14 => some (1, I14, J14))))) else (oc (R 2 (v1 - 97) (I2 3 5) I2 J2) (fun v15 I15 J15 => some (1, I15, J15)))))
theorem E_Translator_statement {R : M3} {X : MX} {I : MI} {J : MJ} {v : Int32} {I' : MI} {J' : MJ} (hR_0 : ∀ {I : MI} {J : MJ} {v : Int32} {I' : MI} {J' : MJ} {P : am_R → am_H → Prop}, R 0 0 0 I J = some (v, I', J') → P (.inl (none)) (hX X I' J') → am_E (gG L xs) (d + 3) m_Translator_statements (0, lv_args 0 [.ref 3], []) (hX X I J) P) (hR_1 : ∀ {I : MI} {J : MJ} {v : Int32} {I' : MI} {J' : MJ} {P : am_R → am_H → Prop}, R 1 0 0 I J = some (v, I', J') → P (.inl (some (.int v))) (hX X I' J') → am_E (gG L xs) (d + 3) m_Translator_statement (0, lv_args 0 [.ref 3], []) (hX X I J) P) (hR_2 : ∀ {a0 : Int32} {a1 : Int32} {I : MI} {J : MJ} {v : Int32} {I' : MI} {J' : MJ} {P : am_R → am_H → Prop}, R 2 a0 a1 I J = some (v, I', J') → P (.inl (none)) (hX X I' J') → am_E (gG L xs) (d + 3) m_Translator_variableStatement (0, lv_args 0 [.ref 3, .int a0, .int a1], []) (hX X I J) P) (hR_3 : ∀ {a0 : Int32} {a1 : Int32} {I : MI} {J : MJ} {v : Int32} {I' : MI} {J' : MJ} {P : am_R → am_H → Prop}, R 3 a0 a1 I J = some (v, I', J') → P (.inl (none)) (hX X I' J') → am_E (gG L xs) (d + 3) m_Translator_assign (0, lv_args 0 [.ref 3, .int a0, .int a1], []) (hX X I J) P) (hR_4 : ∀ {a0 : Int32} {a1 : Int32} {I : MI} {J : MJ} {v : Int32} {I' : MI} {J' : MJ} {P : am_R → am_H → Prop}, R 4 a0 a1 I J = some (v, I', J') → P (.inl (none)) (hX X I' J') → am_E (gG L xs) (d + 3) m_Translator_arrayStatement (0, lv_args 0 [.ref 3, .int a0, .int a1], []) (hX X I J) P) (hR_5 : ∀ {a0 : Int32} {I : MI} {J : MJ} {v : Int32} {I' : MI} {J' : MJ} {P : am_R → am_H → Prop}, R 5 a0 0 I J = some (v, I', J') → P (.inl (none)) (hX X I' J') → am_E (gG L xs) (d + 3) m_Translator_routine (0, lv_args 0 [.ref 3, .int a0], []) (hX X I J) P) (hR_6 : ∀ {a0 : Int32} {a1 : Int32} {I : MI} {J : MJ} {v : Int32} {I' : MI} {J' : MJ} {P : am_R → am_H → Prop}, R 6 a0 a1 I J = some (v, I', J') → P (.inl (none)) (hX X I' J') → am_E (gG L xs) (d + 3) m_Translator_tell (0, lv_args 0 [.ref 3, .int a0, .int a1], []) (hX X I J) P) (hR_7 : ∀ {I : MI} {J : MJ} {v : Int32} {I' : MI} {J' : MJ} {P : am_R → am_H → Prop}, R 7 0 0 I J = some (v, I', J') → P (.inl (none)) (hX X I' J') → am_E (gG L xs) (d + 3) m_Translator_choice (0, lv_args 0 [.ref 3], []) (hX X I J) P) (hR_8 : ∀ {I : MI} {J : MJ} {v : Int32} {I' : MI} {J' : MJ} {P : am_R → am_H → Prop}, R 8 0 0 I J = some (v, I', J') → P (.inl (none)) (hX X I' J') → am_E (gG L xs) (d + 3) m_Translator_loop (0, lv_args 0 [.ref 3], []) (hX X I J) P) (hR_9 : ∀ {I : MI} {J : MJ} {v : Int32} {I' : MI} {J' : MJ} {P : am_R → am_H → Prop}, R 9 0 0 I J = some (v, I', J') → P (.inl (some (.int v))) (hX X I' J') → am_E (gG L xs) (d + 3) m_Translator_expression (0, lv_args 0 [.ref 3], []) (hX X I J) P) (hR_10 : ∀ {I : MI} {J : MJ} {v : Int32} {I' : MI} {J' : MJ} {P : am_R → am_H → Prop}, R 10 0 0 I J = some (v, I', J') → P (.inl (some (.int v))) (hX X I' J') → am_E (gG L xs) (d + 3) m_Translator_product (0, lv_args 0 [.ref 3], []) (hX X I J) P) (hR_11 : ∀ {I : MI} {J : MJ} {v : Int32} {I' : MI} {J' : MJ} {P : am_R → am_H → Prop}, R 11 0 0 I J = some (v, I', J') → P (.inl (some (.int v))) (hX X I' J') → am_E (gG L xs) (d + 3) m_Translator_factor (0, lv_args 0 [.ref 3], []) (hX X I J) P) (hR_12 : ∀ {I : MI} {J : MJ} {v : Int32} {I' : MI} {J' : MJ} {P : am_R → am_H → Prop}, R 12 0 0 I J = some (v, I', J') → P (.inl (some (.int v))) (hX X I' J') → am_E (gG L xs) (d + 3) m_Translator_atom (0, lv_args 0 [.ref 3], []) (hX X I J) P) (hR_13 : ∀ {I : MI} {J : MJ} {v : Int32} {I' : MI} {J' : MJ} {P : am_R → am_H → Prop}, R 13 0 0 I J = some (v, I', J') → P (.inl (none)) (hX X I' J') → am_E (gG L xs) (d + 3) m_Translator_index (0, lv_args 0 [.ref 3], []) (hX X I J) P) (hb : f_Translator_statement R  I J = some (v, I', J')) (K : P (.inl (some (.int v))) (hX X I' J')) : am_E (gG L xs) (d + 4) m_Translator_statement (0, lv_args 0 [.ref 3], []) (hX X I J) P := by
  unfold f_Translator_statement at hb
  refine e_k 1 (f' := (1, [(0, .ref 3)], [.ref 3])) rfl ?_
  obtain ⟨v1, I1, J1, h1, hb⟩ := oc_call hb
  refine r_cv (z := m_Translator_look) (As := []) (rest := []) rfl rfl rfl rfl rfl (x_ltn rfl) rfl rfl (E_Translator_look  h1 ⟨_, rfl, ?_⟩)
  refine e_k 2 (f' := (6, [(1, .int v1), (0, .ref 3)], [.int v1])) rfl ?_
  obtain ⟨v2, I2, J2, h2, hb⟩ := oc_call hb
  refine r_cs (z := m_Translator_isVariable) (As := [.int v1]) (rest := []) rfl rfl rfl rfl rfl rfl (E_Translator_isVariable  h2 ⟨_, rfl, ?_⟩)
  refine e_k 1 (f' := (if v2 = 0 then 27 else 12, [(1, .int v1), (0, .ref 3)], [])) rfl ?_
  refine e_if (fun c3 => ?_) (fun c3 => ?_)
  · replace hb := i_pos c3 hb
    refine e_k 1 (f' := (28, [(1, .int v1), (0, .ref 3)], [.int v1])) rfl ?_
    obtain ⟨v4, I4, J4, h4, hb⟩ := oc_call hb
    refine r_cs (z := m_Translator_isArray) (As := [.int v1]) (rest := []) rfl rfl rfl rfl rfl rfl (E_Translator_isArray  h4 ⟨_, rfl, ?_⟩)
    refine e_k 1 (f' := (if v4 = 0 then 49 else 34, [(1, .int v1), (0, .ref 3)], [])) rfl ?_
    refine e_if (fun c5 => ?_) (fun c5 => ?_)
    · replace hb := i_pos c5 hb
      refine e_k 3 (f' := (if ¬ v1 = 62 then 62 else 55, [(1, .int v1), (0, .ref 3)], [])) rfl ?_
      refine e_if (fun c6 => ?_) (fun c6 => ?_)
      · replace hb := i_pos c6 hb
        refine e_k 3 (f' := (if ¬ v1 = 64 then 79 else 68, [(1, .int v1), (0, .ref 3)], [])) rfl ?_
        refine e_if (fun c7 => ?_) (fun c7 => ?_)
        · replace hb := i_pos c7 hb
          refine e_k 3 (f' := (if ¬ v1 = 63 then 92 else 85, [(1, .int v1), (0, .ref 3)], [])) rfl ?_
          refine e_if (fun c8 => ?_) (fun c8 => ?_)
          · replace hb := i_pos c8 hb
            refine e_k 3 (f' := (if ¬ v1 = 42 then 105 else 98, [(1, .int v1), (0, .ref 3)], [])) rfl ?_
            refine e_if (fun c9 => ?_) (fun c9 => ?_)
            · replace hb := i_pos c9 hb
              refine e_k 1 (f' := (106, [(1, .int v1), (0, .ref 3)], [.int 0])) rfl ?_
              obtain ⟨rfl, rfl, rfl⟩ := s_inj hb
              exact e_r rfl rfl K
            · replace hb := i_neg c9 hb
              refine e_k 1 (f' := (99, [(1, .int v1), (0, .ref 3)], [.ref 3])) rfl ?_
              obtain ⟨v10, I10, J10, h10, hb⟩ := oc_call hb
              refine r_cv (z := m_Translator_loop) (As := []) (rest := []) rfl rfl rfl rfl rfl (x_ltn rfl) rfl rfl (hR_8  h10 ⟨_, rfl, ?_⟩)
              refine e_k 2 (f' := (108, [(1, .int v1), (0, .ref 3)], [.int 1])) rfl ?_
              obtain ⟨rfl, rfl, rfl⟩ := s_inj hb
              exact e_r rfl rfl K
          · replace hb := i_neg c8 hb
            refine e_k 1 (f' := (86, [(1, .int v1), (0, .ref 3)], [.ref 3])) rfl ?_
            obtain ⟨v11, I11, J11, h11, hb⟩ := oc_call hb
            refine r_cv (z := m_Translator_choice) (As := []) (rest := []) rfl rfl rfl rfl rfl (x_ltn rfl) rfl rfl (hR_7  h11 ⟨_, rfl, ?_⟩)
            refine e_k 2 (f' := (108, [(1, .int v1), (0, .ref 3)], [.int 1])) rfl ?_
            obtain ⟨rfl, rfl, rfl⟩ := s_inj hb
            exact e_r rfl rfl K
        · replace hb := i_neg c7 hb
          refine e_k 2 (f' := (70, [(1, .int v1), (0, .ref 3)], [.ref 3, .ref 3])) rfl ?_
          refine r_geti rfl (x_ltn rfl) rfl rfl ?_
          obtain ⟨v12, I12, J12, h12, hb⟩ := oc_call hb
          refine r_cv (z := m_Translator_routine) (As := [.int (I4 3 5)]) (rest := []) rfl rfl rfl rfl rfl (x_ltn rfl) rfl rfl (hR_5  h12 ⟨_, rfl, ?_⟩)
          refine e_k 2 (f' := (108, [(1, .int v1), (0, .ref 3)], [.int 1])) rfl ?_
          obtain ⟨rfl, rfl, rfl⟩ := s_inj hb
          exact e_r rfl rfl K
      · replace hb := i_neg c6 hb
        refine e_k 1 (f' := (56, [(1, .int v1), (0, .ref 3)], [.ref 3])) rfl ?_
        obtain ⟨v13, I13, J13, h13, hb⟩ := oc_call hb
        refine r_cv (z := m_Translator_show) (As := []) (rest := []) rfl rfl rfl rfl rfl (x_ltn rfl) rfl rfl (E_Translator_show  h13 ⟨_, rfl, ?_⟩)
        refine e_k 2 (f' := (108, [(1, .int v1), (0, .ref 3)], [.int 1])) rfl ?_
        obtain ⟨rfl, rfl, rfl⟩ := s_inj hb
        exact e_r rfl rfl K
    · replace hb := i_neg c5 hb
      refine e_k 5 (f' := (40, [(1, .int v1), (0, .ref 3)], [.ref 3, .int (v1 - 65), .ref 3])) rfl ?_
      refine r_geti rfl (x_ltn rfl) rfl rfl ?_
      obtain ⟨v14, I14, J14, h14, hb⟩ := oc_call hb
      refine r_cv (z := m_Translator_arrayStatement) (As := [.int (v1 - 65), .int (I4 3 5)]) (rest := []) rfl rfl rfl rfl rfl (x_ltn rfl) rfl rfl (hR_4  h14 ⟨_, rfl, ?_⟩)
      refine e_k 2 (f' := (108, [(1, .int v1), (0, .ref 3)], [.int 1])) rfl ?_
      obtain ⟨rfl, rfl, rfl⟩ := s_inj hb
      exact e_r rfl rfl K
  · replace hb := i_neg c3 hb
    refine e_k 5 (f' := (18, [(1, .int v1), (0, .ref 3)], [.ref 3, .int (v1 - 97), .ref 3])) rfl ?_
    refine r_geti rfl (x_ltn rfl) rfl rfl ?_
    obtain ⟨v15, I15, J15, h15, hb⟩ := oc_call hb
    refine r_cv (z := m_Translator_variableStatement) (As := [.int (v1 - 97), .int (I2 3 5)]) (rest := []) rfl rfl rfl rfl rfl (x_ltn rfl) rfl rfl (hR_2  h15 ⟨_, rfl, ?_⟩)
    refine e_k 2 (f' := (108, [(1, .int v1), (0, .ref 3)], [.int 1])) rfl ?_
    obtain ⟨rfl, rfl, rfl⟩ := s_inj hb
    exact e_r rfl rfl K
def f_Translator_variableStatement (R : M3) (p2 : Int32) (p3 : Int32) (I : MI) (J : MJ) : M2 Unit := oc (f_Translator_pass  I J) (fun v1 I1 J1 => oc (f_Translator_look  I1 J1) (fun v2 I2 J2 => if ¬ v2 = 61 then (if ¬ v2 = 60 then (if ¬ v2 = 58 then (if ¬ v2 = 33 then (oc (f_Translator_refuse  I2 J2) (fun v7 I7 J7 => some ((), I7, J7))) else (oc (f_Translator_pass  I2 J2) (fun v8 I8 J8 => oc (f_Translator_expect 59 I8 J8) (fun v9 I9 J9 => oc (f_Translator_wantSecret p2 p3 I9 J9) (fun v10 I10 J10 => oc (f_Translator_emit 27 (p2 - 13) 0 0 I10 J10) (fun v11 I11 J11 => some ((), I11, J11))))))) else (oc (f_Translator_pass  I2 J2) (fun v12 I12 J12 => oc (f_Translator_opening p2 p3 I12 J12) (fun v13 I13 J13 => some ((), I13, J13))))) else (oc (f_Translator_pass  I2 J2) (fun v14 I14 J14 => oc (f_Translator_input p2 p3 I14 J14) (fun v15 I15 J15 => some ((), I15, J15))))) else (oc (f_Translator_pass  I2 J2) (fun v16 I16 J16 => oc (R 3 p2 p3 I16 J16) (fun v17 I17 J17 => some ((), I17, J17))))))
theorem E_Translator_variableStatement {R : M3} {p2 : Int32} {p3 : Int32} {X : MX} {I : MI} {J : MJ} {v : Unit} {I' : MI} {J' : MJ} (hR_0 : ∀ {I : MI} {J : MJ} {v : Int32} {I' : MI} {J' : MJ} {P : am_R → am_H → Prop}, R 0 0 0 I J = some (v, I', J') → P (.inl (none)) (hX X I' J') → am_E (gG L xs) (d + 3) m_Translator_statements (0, lv_args 0 [.ref 3], []) (hX X I J) P) (hR_1 : ∀ {I : MI} {J : MJ} {v : Int32} {I' : MI} {J' : MJ} {P : am_R → am_H → Prop}, R 1 0 0 I J = some (v, I', J') → P (.inl (some (.int v))) (hX X I' J') → am_E (gG L xs) (d + 3) m_Translator_statement (0, lv_args 0 [.ref 3], []) (hX X I J) P) (hR_2 : ∀ {a0 : Int32} {a1 : Int32} {I : MI} {J : MJ} {v : Int32} {I' : MI} {J' : MJ} {P : am_R → am_H → Prop}, R 2 a0 a1 I J = some (v, I', J') → P (.inl (none)) (hX X I' J') → am_E (gG L xs) (d + 3) m_Translator_variableStatement (0, lv_args 0 [.ref 3, .int a0, .int a1], []) (hX X I J) P) (hR_3 : ∀ {a0 : Int32} {a1 : Int32} {I : MI} {J : MJ} {v : Int32} {I' : MI} {J' : MJ} {P : am_R → am_H → Prop}, R 3 a0 a1 I J = some (v, I', J') → P (.inl (none)) (hX X I' J') → am_E (gG L xs) (d + 3) m_Translator_assign (0, lv_args 0 [.ref 3, .int a0, .int a1], []) (hX X I J) P) (hR_4 : ∀ {a0 : Int32} {a1 : Int32} {I : MI} {J : MJ} {v : Int32} {I' : MI} {J' : MJ} {P : am_R → am_H → Prop}, R 4 a0 a1 I J = some (v, I', J') → P (.inl (none)) (hX X I' J') → am_E (gG L xs) (d + 3) m_Translator_arrayStatement (0, lv_args 0 [.ref 3, .int a0, .int a1], []) (hX X I J) P) (hR_5 : ∀ {a0 : Int32} {I : MI} {J : MJ} {v : Int32} {I' : MI} {J' : MJ} {P : am_R → am_H → Prop}, R 5 a0 0 I J = some (v, I', J') → P (.inl (none)) (hX X I' J') → am_E (gG L xs) (d + 3) m_Translator_routine (0, lv_args 0 [.ref 3, .int a0], []) (hX X I J) P) (hR_6 : ∀ {a0 : Int32} {a1 : Int32} {I : MI} {J : MJ} {v : Int32} {I' : MI} {J' : MJ} {P : am_R → am_H → Prop}, R 6 a0 a1 I J = some (v, I', J') → P (.inl (none)) (hX X I' J') → am_E (gG L xs) (d + 3) m_Translator_tell (0, lv_args 0 [.ref 3, .int a0, .int a1], []) (hX X I J) P) (hR_7 : ∀ {I : MI} {J : MJ} {v : Int32} {I' : MI} {J' : MJ} {P : am_R → am_H → Prop}, R 7 0 0 I J = some (v, I', J') → P (.inl (none)) (hX X I' J') → am_E (gG L xs) (d + 3) m_Translator_choice (0, lv_args 0 [.ref 3], []) (hX X I J) P) (hR_8 : ∀ {I : MI} {J : MJ} {v : Int32} {I' : MI} {J' : MJ} {P : am_R → am_H → Prop}, R 8 0 0 I J = some (v, I', J') → P (.inl (none)) (hX X I' J') → am_E (gG L xs) (d + 3) m_Translator_loop (0, lv_args 0 [.ref 3], []) (hX X I J) P) (hR_9 : ∀ {I : MI} {J : MJ} {v : Int32} {I' : MI} {J' : MJ} {P : am_R → am_H → Prop}, R 9 0 0 I J = some (v, I', J') → P (.inl (some (.int v))) (hX X I' J') → am_E (gG L xs) (d + 3) m_Translator_expression (0, lv_args 0 [.ref 3], []) (hX X I J) P) (hR_10 : ∀ {I : MI} {J : MJ} {v : Int32} {I' : MI} {J' : MJ} {P : am_R → am_H → Prop}, R 10 0 0 I J = some (v, I', J') → P (.inl (some (.int v))) (hX X I' J') → am_E (gG L xs) (d + 3) m_Translator_product (0, lv_args 0 [.ref 3], []) (hX X I J) P) (hR_11 : ∀ {I : MI} {J : MJ} {v : Int32} {I' : MI} {J' : MJ} {P : am_R → am_H → Prop}, R 11 0 0 I J = some (v, I', J') → P (.inl (some (.int v))) (hX X I' J') → am_E (gG L xs) (d + 3) m_Translator_factor (0, lv_args 0 [.ref 3], []) (hX X I J) P) (hR_12 : ∀ {I : MI} {J : MJ} {v : Int32} {I' : MI} {J' : MJ} {P : am_R → am_H → Prop}, R 12 0 0 I J = some (v, I', J') → P (.inl (some (.int v))) (hX X I' J') → am_E (gG L xs) (d + 3) m_Translator_atom (0, lv_args 0 [.ref 3], []) (hX X I J) P) (hR_13 : ∀ {I : MI} {J : MJ} {v : Int32} {I' : MI} {J' : MJ} {P : am_R → am_H → Prop}, R 13 0 0 I J = some (v, I', J') → P (.inl (none)) (hX X I' J') → am_E (gG L xs) (d + 3) m_Translator_index (0, lv_args 0 [.ref 3], []) (hX X I J) P) (hb : f_Translator_variableStatement R p2 p3 I J = some (v, I', J')) (K : P (.inl (none)) (hX X I' J')) : am_E (gG L xs) (d + 4) m_Translator_variableStatement (0, lv_args 0 [.ref 3, .int p2, .int p3], []) (hX X I J) P := by
  unfold f_Translator_variableStatement at hb
  refine e_k 1 (f' := (1, [(0, .ref 3), (1, .int p2), (2, .int p3)], [.ref 3])) rfl ?_
  obtain ⟨v1, I1, J1, h1, hb⟩ := oc_call hb
  refine r_cv (z := m_Translator_pass) (As := []) (rest := []) rfl rfl rfl rfl rfl (x_ltn rfl) rfl rfl (E_Translator_pass  h1 ⟨_, rfl, ?_⟩)
  refine e_k 1 (f' := (5, [(0, .ref 3), (1, .int p2), (2, .int p3)], [.ref 3])) rfl ?_
  obtain ⟨v2, I2, J2, h2, hb⟩ := oc_call hb
  refine r_cv (z := m_Translator_look) (As := []) (rest := []) rfl rfl rfl rfl rfl (x_ltn rfl) rfl rfl (E_Translator_look  h2 ⟨_, rfl, ?_⟩)
  refine e_k 4 (f' := (if ¬ v2 = 61 then 28 else 15, [(3, .int v2), (0, .ref 3), (1, .int p2), (2, .int p3)], [])) rfl ?_
  refine e_if (fun c3 => ?_) (fun c3 => ?_)
  · replace hb := i_pos c3 hb
    refine e_k 3 (f' := (if ¬ v2 = 60 then 47 else 34, [(3, .int v2), (0, .ref 3), (1, .int p2), (2, .int p3)], [])) rfl ?_
    refine e_if (fun c4 => ?_) (fun c4 => ?_)
    · replace hb := i_pos c4 hb
      refine e_k 3 (f' := (if ¬ v2 = 58 then 66 else 53, [(3, .int v2), (0, .ref 3), (1, .int p2), (2, .int p3)], [])) rfl ?_
      refine e_if (fun c5 => ?_) (fun c5 => ?_)
      · replace hb := i_pos c5 hb
        refine e_k 3 (f' := (if ¬ v2 = 33 then 103 else 72, [(3, .int v2), (0, .ref 3), (1, .int p2), (2, .int p3)], [])) rfl ?_
        refine e_if (fun c6 => ?_) (fun c6 => ?_)
        · replace hb := i_pos c6 hb
          refine e_k 1 (f' := (104, [(3, .int v2), (0, .ref 3), (1, .int p2), (2, .int p3)], [.ref 3])) rfl ?_
          obtain ⟨v7, I7, J7, h7, hb⟩ := oc_call hb
          refine r_cv (z := m_Translator_refuse) (As := []) (rest := []) rfl rfl rfl rfl rfl (x_ltn rfl) rfl rfl (E_Translator_refuse  h7 ⟨_, rfl, ?_⟩)
          obtain ⟨rfl, rfl, rfl⟩ := s_inj hb
          exact e_r rfl rfl K
        · replace hb := i_neg c6 hb
          refine e_k 1 (f' := (73, [(3, .int v2), (0, .ref 3), (1, .int p2), (2, .int p3)], [.ref 3])) rfl ?_
          obtain ⟨v8, I8, J8, h8, hb⟩ := oc_call hb
          refine r_cv (z := m_Translator_pass) (As := []) (rest := []) rfl rfl rfl rfl rfl (x_ltn rfl) rfl rfl (E_Translator_pass  h8 ⟨_, rfl, ?_⟩)
          refine e_k 2 (f' := (79, [(3, .int v2), (0, .ref 3), (1, .int p2), (2, .int p3)], [.int 59, .ref 3])) rfl ?_
          obtain ⟨v9, I9, J9, h9, hb⟩ := oc_call hb
          refine r_cv (z := m_Translator_expect) (As := [.int 59]) (rest := []) rfl rfl rfl rfl rfl (x_ltn rfl) rfl rfl (E_Translator_expect  h9 ⟨_, rfl, ?_⟩)
          refine e_k 3 (f' := (85, [(3, .int v2), (0, .ref 3), (1, .int p2), (2, .int p3)], [.int p3, .int p2, .ref 3])) rfl ?_
          obtain ⟨v10, I10, J10, h10, hb⟩ := oc_call hb
          refine r_cv (z := m_Translator_wantSecret) (As := [.int p2, .int p3]) (rest := []) rfl rfl rfl rfl rfl (x_ltn rfl) rfl rfl (E_Translator_wantSecret  h10 ⟨_, rfl, ?_⟩)
          refine e_k 7 (f' := (97, [(3, .int v2), (0, .ref 3), (1, .int p2), (2, .int p3)], [.int 0, .int 0, .int (p2 - 13), .int 27, .ref 3])) rfl ?_
          obtain ⟨v11, I11, J11, h11, hb⟩ := oc_call hb
          refine r_cv (z := m_Translator_emit) (As := [.int 27, .int (p2 - 13), .int 0, .int 0]) (rest := []) rfl rfl rfl rfl rfl (x_ltn rfl) rfl rfl (E_Translator_emit  h11 ⟨_, rfl, ?_⟩)
          refine e_k 1 (f' := (107, [(3, .int v2), (0, .ref 3), (1, .int p2), (2, .int p3)], [])) rfl ?_
          obtain ⟨rfl, rfl, rfl⟩ := s_inj hb
          exact e_r rfl rfl K
      · replace hb := i_neg c5 hb
        refine e_k 1 (f' := (54, [(3, .int v2), (0, .ref 3), (1, .int p2), (2, .int p3)], [.ref 3])) rfl ?_
        obtain ⟨v12, I12, J12, h12, hb⟩ := oc_call hb
        refine r_cv (z := m_Translator_pass) (As := []) (rest := []) rfl rfl rfl rfl rfl (x_ltn rfl) rfl rfl (E_Translator_pass  h12 ⟨_, rfl, ?_⟩)
        refine e_k 3 (f' := (60, [(3, .int v2), (0, .ref 3), (1, .int p2), (2, .int p3)], [.int p3, .int p2, .ref 3])) rfl ?_
        obtain ⟨v13, I13, J13, h13, hb⟩ := oc_call hb
        refine r_cv (z := m_Translator_opening) (As := [.int p2, .int p3]) (rest := []) rfl rfl rfl rfl rfl (x_ltn rfl) rfl rfl (E_Translator_opening  h13 ⟨_, rfl, ?_⟩)
        refine e_k 1 (f' := (107, [(3, .int v2), (0, .ref 3), (1, .int p2), (2, .int p3)], [])) rfl ?_
        obtain ⟨rfl, rfl, rfl⟩ := s_inj hb
        exact e_r rfl rfl K
    · replace hb := i_neg c4 hb
      refine e_k 1 (f' := (35, [(3, .int v2), (0, .ref 3), (1, .int p2), (2, .int p3)], [.ref 3])) rfl ?_
      obtain ⟨v14, I14, J14, h14, hb⟩ := oc_call hb
      refine r_cv (z := m_Translator_pass) (As := []) (rest := []) rfl rfl rfl rfl rfl (x_ltn rfl) rfl rfl (E_Translator_pass  h14 ⟨_, rfl, ?_⟩)
      refine e_k 3 (f' := (41, [(3, .int v2), (0, .ref 3), (1, .int p2), (2, .int p3)], [.int p3, .int p2, .ref 3])) rfl ?_
      obtain ⟨v15, I15, J15, h15, hb⟩ := oc_call hb
      refine r_cv (z := m_Translator_input) (As := [.int p2, .int p3]) (rest := []) rfl rfl rfl rfl rfl (x_ltn rfl) rfl rfl (E_Translator_input  h15 ⟨_, rfl, ?_⟩)
      refine e_k 1 (f' := (107, [(3, .int v2), (0, .ref 3), (1, .int p2), (2, .int p3)], [])) rfl ?_
      obtain ⟨rfl, rfl, rfl⟩ := s_inj hb
      exact e_r rfl rfl K
  · replace hb := i_neg c3 hb
    refine e_k 1 (f' := (16, [(3, .int v2), (0, .ref 3), (1, .int p2), (2, .int p3)], [.ref 3])) rfl ?_
    obtain ⟨v16, I16, J16, h16, hb⟩ := oc_call hb
    refine r_cv (z := m_Translator_pass) (As := []) (rest := []) rfl rfl rfl rfl rfl (x_ltn rfl) rfl rfl (E_Translator_pass  h16 ⟨_, rfl, ?_⟩)
    refine e_k 3 (f' := (22, [(3, .int v2), (0, .ref 3), (1, .int p2), (2, .int p3)], [.int p3, .int p2, .ref 3])) rfl ?_
    obtain ⟨v17, I17, J17, h17, hb⟩ := oc_call hb
    refine r_cv (z := m_Translator_assign) (As := [.int p2, .int p3]) (rest := []) rfl rfl rfl rfl rfl (x_ltn rfl) rfl rfl (hR_3  h17 ⟨_, rfl, ?_⟩)
    refine e_k 1 (f' := (107, [(3, .int v2), (0, .ref 3), (1, .int p2), (2, .int p3)], [])) rfl ?_
    obtain ⟨rfl, rfl, rfl⟩ := s_inj hb
    exact e_r rfl rfl K
def f_Translator_arrayStatement (R : M3) (p2 : Int32) (p3 : Int32) (I : MI) (J : MJ) : M2 Unit := oc (f_Translator_pass  I J) (fun v1 I1 J1 => oc (f_Translator_look  I1 J1) (fun v2 I2 J2 => if ¬ v2 = 91 then (if ¬ v2 = 61 then (oc (f_Translator_refuse  I2 J2) (fun v5 I5 J5 => some ((), I5, J5))) else (oc (f_Translator_pass  I2 J2) (fun v6 I6 J6 => oc (f_Translator_arrayByArray p2 p3 I6 J6) (fun v7 I7 J7 => some ((), I7, J7))))) else (oc (R 13 0 0 I2 J2) (fun v8 I8 J8 => oc (f_Translator_expect 61 I8 J8) (fun v9 I9 J9 => oc (R 9 0 0 I9 J9) (fun v10 I10 J10 => oc (f_Translator_expect 59 I10 J10) (fun v11 I11 J11 => oc ((if 4 ≤ p2 then (some ((), I11, J11)) else (if v10 = 0 then (some ((), I11, J11)) else (oc (f_Translator_blame 3 p3 I11 J11) (fun v16 I16 J16 => some ((), I16, J16))))) : M2 (Unit)) (fun v13 I13 J13 => oc (f_Translator_emitPlace p2 21 22 I13 J13) (fun v17 I17 J17 => some ((), I17, J17))))))))))
theorem E_Translator_arrayStatement {R : M3} {p2 : Int32} {p3 : Int32} {X : MX} {I : MI} {J : MJ} {v : Unit} {I' : MI} {J' : MJ} (hR_0 : ∀ {I : MI} {J : MJ} {v : Int32} {I' : MI} {J' : MJ} {P : am_R → am_H → Prop}, R 0 0 0 I J = some (v, I', J') → P (.inl (none)) (hX X I' J') → am_E (gG L xs) (d + 3) m_Translator_statements (0, lv_args 0 [.ref 3], []) (hX X I J) P) (hR_1 : ∀ {I : MI} {J : MJ} {v : Int32} {I' : MI} {J' : MJ} {P : am_R → am_H → Prop}, R 1 0 0 I J = some (v, I', J') → P (.inl (some (.int v))) (hX X I' J') → am_E (gG L xs) (d + 3) m_Translator_statement (0, lv_args 0 [.ref 3], []) (hX X I J) P) (hR_2 : ∀ {a0 : Int32} {a1 : Int32} {I : MI} {J : MJ} {v : Int32} {I' : MI} {J' : MJ} {P : am_R → am_H → Prop}, R 2 a0 a1 I J = some (v, I', J') → P (.inl (none)) (hX X I' J') → am_E (gG L xs) (d + 3) m_Translator_variableStatement (0, lv_args 0 [.ref 3, .int a0, .int a1], []) (hX X I J) P) (hR_3 : ∀ {a0 : Int32} {a1 : Int32} {I : MI} {J : MJ} {v : Int32} {I' : MI} {J' : MJ} {P : am_R → am_H → Prop}, R 3 a0 a1 I J = some (v, I', J') → P (.inl (none)) (hX X I' J') → am_E (gG L xs) (d + 3) m_Translator_assign (0, lv_args 0 [.ref 3, .int a0, .int a1], []) (hX X I J) P) (hR_4 : ∀ {a0 : Int32} {a1 : Int32} {I : MI} {J : MJ} {v : Int32} {I' : MI} {J' : MJ} {P : am_R → am_H → Prop}, R 4 a0 a1 I J = some (v, I', J') → P (.inl (none)) (hX X I' J') → am_E (gG L xs) (d + 3) m_Translator_arrayStatement (0, lv_args 0 [.ref 3, .int a0, .int a1], []) (hX X I J) P) (hR_5 : ∀ {a0 : Int32} {I : MI} {J : MJ} {v : Int32} {I' : MI} {J' : MJ} {P : am_R → am_H → Prop}, R 5 a0 0 I J = some (v, I', J') → P (.inl (none)) (hX X I' J') → am_E (gG L xs) (d + 3) m_Translator_routine (0, lv_args 0 [.ref 3, .int a0], []) (hX X I J) P) (hR_6 : ∀ {a0 : Int32} {a1 : Int32} {I : MI} {J : MJ} {v : Int32} {I' : MI} {J' : MJ} {P : am_R → am_H → Prop}, R 6 a0 a1 I J = some (v, I', J') → P (.inl (none)) (hX X I' J') → am_E (gG L xs) (d + 3) m_Translator_tell (0, lv_args 0 [.ref 3, .int a0, .int a1], []) (hX X I J) P) (hR_7 : ∀ {I : MI} {J : MJ} {v : Int32} {I' : MI} {J' : MJ} {P : am_R → am_H → Prop}, R 7 0 0 I J = some (v, I', J') → P (.inl (none)) (hX X I' J') → am_E (gG L xs) (d + 3) m_Translator_choice (0, lv_args 0 [.ref 3], []) (hX X I J) P) (hR_8 : ∀ {I : MI} {J : MJ} {v : Int32} {I' : MI} {J' : MJ} {P : am_R → am_H → Prop}, R 8 0 0 I J = some (v, I', J') → P (.inl (none)) (hX X I' J') → am_E (gG L xs) (d + 3) m_Translator_loop (0, lv_args 0 [.ref 3], []) (hX X I J) P) (hR_9 : ∀ {I : MI} {J : MJ} {v : Int32} {I' : MI} {J' : MJ} {P : am_R → am_H → Prop}, R 9 0 0 I J = some (v, I', J') → P (.inl (some (.int v))) (hX X I' J') → am_E (gG L xs) (d + 3) m_Translator_expression (0, lv_args 0 [.ref 3], []) (hX X I J) P) (hR_10 : ∀ {I : MI} {J : MJ} {v : Int32} {I' : MI} {J' : MJ} {P : am_R → am_H → Prop}, R 10 0 0 I J = some (v, I', J') → P (.inl (some (.int v))) (hX X I' J') → am_E (gG L xs) (d + 3) m_Translator_product (0, lv_args 0 [.ref 3], []) (hX X I J) P) (hR_11 : ∀ {I : MI} {J : MJ} {v : Int32} {I' : MI} {J' : MJ} {P : am_R → am_H → Prop}, R 11 0 0 I J = some (v, I', J') → P (.inl (some (.int v))) (hX X I' J') → am_E (gG L xs) (d + 3) m_Translator_factor (0, lv_args 0 [.ref 3], []) (hX X I J) P) (hR_12 : ∀ {I : MI} {J : MJ} {v : Int32} {I' : MI} {J' : MJ} {P : am_R → am_H → Prop}, R 12 0 0 I J = some (v, I', J') → P (.inl (some (.int v))) (hX X I' J') → am_E (gG L xs) (d + 3) m_Translator_atom (0, lv_args 0 [.ref 3], []) (hX X I J) P) (hR_13 : ∀ {I : MI} {J : MJ} {v : Int32} {I' : MI} {J' : MJ} {P : am_R → am_H → Prop}, R 13 0 0 I J = some (v, I', J') → P (.inl (none)) (hX X I' J') → am_E (gG L xs) (d + 3) m_Translator_index (0, lv_args 0 [.ref 3], []) (hX X I J) P) (hb : f_Translator_arrayStatement R p2 p3 I J = some (v, I', J')) (K : P (.inl (none)) (hX X I' J')) : am_E (gG L xs) (d + 4) m_Translator_arrayStatement (0, lv_args 0 [.ref 3, .int p2, .int p3], []) (hX X I J) P := by
  unfold f_Translator_arrayStatement at hb
  refine e_k 1 (f' := (1, [(0, .ref 3), (1, .int p2), (2, .int p3)], [.ref 3])) rfl ?_
  obtain ⟨v1, I1, J1, h1, hb⟩ := oc_call hb
  refine r_cv (z := m_Translator_pass) (As := []) (rest := []) rfl rfl rfl rfl rfl (x_ltn rfl) rfl rfl (E_Translator_pass  h1 ⟨_, rfl, ?_⟩)
  refine e_k 1 (f' := (5, [(0, .ref 3), (1, .int p2), (2, .int p3)], [.ref 3])) rfl ?_
  obtain ⟨v2, I2, J2, h2, hb⟩ := oc_call hb
  refine r_cv (z := m_Translator_look) (As := []) (rest := []) rfl rfl rfl rfl rfl (x_ltn rfl) rfl rfl (E_Translator_look  h2 ⟨_, rfl, ?_⟩)
  refine e_k 4 (f' := (if ¬ v2 = 91 then 65 else 15, [(3, .int v2), (0, .ref 3), (1, .int p2), (2, .int p3)], [])) rfl ?_
  refine e_if (fun c3 => ?_) (fun c3 => ?_)
  · replace hb := i_pos c3 hb
    refine e_k 3 (f' := (if ¬ v2 = 61 then 84 else 71, [(3, .int v2), (0, .ref 3), (1, .int p2), (2, .int p3)], [])) rfl ?_
    refine e_if (fun c4 => ?_) (fun c4 => ?_)
    · replace hb := i_pos c4 hb
      refine e_k 1 (f' := (85, [(3, .int v2), (0, .ref 3), (1, .int p2), (2, .int p3)], [.ref 3])) rfl ?_
      obtain ⟨v5, I5, J5, h5, hb⟩ := oc_call hb
      refine r_cv (z := m_Translator_refuse) (As := []) (rest := []) rfl rfl rfl rfl rfl (x_ltn rfl) rfl rfl (E_Translator_refuse  h5 ⟨_, rfl, ?_⟩)
      obtain ⟨rfl, rfl, rfl⟩ := s_inj hb
      exact e_r rfl rfl K
    · replace hb := i_neg c4 hb
      refine e_k 1 (f' := (72, [(3, .int v2), (0, .ref 3), (1, .int p2), (2, .int p3)], [.ref 3])) rfl ?_
      obtain ⟨v6, I6, J6, h6, hb⟩ := oc_call hb
      refine r_cv (z := m_Translator_pass) (As := []) (rest := []) rfl rfl rfl rfl rfl (x_ltn rfl) rfl rfl (E_Translator_pass  h6 ⟨_, rfl, ?_⟩)
      refine e_k 3 (f' := (78, [(3, .int v2), (0, .ref 3), (1, .int p2), (2, .int p3)], [.int p3, .int p2, .ref 3])) rfl ?_
      obtain ⟨v7, I7, J7, h7, hb⟩ := oc_call hb
      refine r_cv (z := m_Translator_arrayByArray) (As := [.int p2, .int p3]) (rest := []) rfl rfl rfl rfl rfl (x_ltn rfl) rfl rfl (E_Translator_arrayByArray  h7 ⟨_, rfl, ?_⟩)
      refine e_k 1 (f' := (88, [(3, .int v2), (0, .ref 3), (1, .int p2), (2, .int p3)], [])) rfl ?_
      obtain ⟨rfl, rfl, rfl⟩ := s_inj hb
      exact e_r rfl rfl K
  · replace hb := i_neg c3 hb
    refine e_k 1 (f' := (16, [(3, .int v2), (0, .ref 3), (1, .int p2), (2, .int p3)], [.ref 3])) rfl ?_
    obtain ⟨v8, I8, J8, h8, hb⟩ := oc_call hb
    refine r_cv (z := m_Translator_index) (As := []) (rest := []) rfl rfl rfl rfl rfl (x_ltn rfl) rfl rfl (hR_13  h8 ⟨_, rfl, ?_⟩)
    refine e_k 2 (f' := (22, [(3, .int v2), (0, .ref 3), (1, .int p2), (2, .int p3)], [.int 61, .ref 3])) rfl ?_
    obtain ⟨v9, I9, J9, h9, hb⟩ := oc_call hb
    refine r_cv (z := m_Translator_expect) (As := [.int 61]) (rest := []) rfl rfl rfl rfl rfl (x_ltn rfl) rfl rfl (E_Translator_expect  h9 ⟨_, rfl, ?_⟩)
    refine e_k 1 (f' := (26, [(3, .int v2), (0, .ref 3), (1, .int p2), (2, .int p3)], [.ref 3])) rfl ?_
    obtain ⟨v10, I10, J10, h10, hb⟩ := oc_call hb
    refine r_cv (z := m_Translator_expression) (As := []) (rest := []) rfl rfl rfl rfl rfl (x_ltn rfl) rfl rfl (hR_9  h10 ⟨_, rfl, ?_⟩)
    refine e_k 3 (f' := (34, [(4, .int v10), (3, .int v2), (0, .ref 3), (1, .int p2), (2, .int p3)], [.int 59, .ref 3])) rfl ?_
    obtain ⟨v11, I11, J11, h11, hb⟩ := oc_call hb
    refine r_cv (z := m_Translator_expect) (As := [.int 59]) (rest := []) rfl rfl rfl rfl rfl (x_ltn rfl) rfl rfl (E_Translator_expect  h11 ⟨_, rfl, ?_⟩)
    refine e_k 3 (f' := (if 4 ≤ p2 then 53 else 42, [(4, .int v10), (3, .int v2), (0, .ref 3), (1, .int p2), (2, .int p3)], [])) rfl ?_
    obtain ⟨v13, I13, J13, h13, hb⟩ := oc_call hb
    have Kj13 : am_E (gG L xs) (d + 4) m_Translator_arrayStatement (53, [(0, .ref 3), (1, .int p2)], []) (hX X I13 J13) P := by
      refine e_k 4 (f' := (59, [(0, .ref 3), (1, .int p2)], [.int 22, .int 21, .int p2, .ref 3])) rfl ?_
      obtain ⟨v17, I17, J17, h17, hb⟩ := oc_call hb
      refine r_cv (z := m_Translator_emitPlace) (As := [.int p2, .int 21, .int 22]) (rest := []) rfl rfl rfl rfl rfl (x_ltn rfl) rfl rfl (E_Translator_emitPlace  h17 ⟨_, rfl, ?_⟩)
      refine e_k 1 (f' := (88, [(0, .ref 3), (1, .int p2)], [])) rfl ?_
      obtain ⟨rfl, rfl, rfl⟩ := s_inj hb
      exact e_r rfl rfl K
    clear hb
    refine e_if (fun c14 => ?_) (fun c14 => ?_)
    · replace h13 := i_pos c14 h13
      refine e_sub (ls := [(0, .ref 3), (1, .int p2)]) rfl ⟨rfl, rfl, trivial⟩ ?_
      obtain ⟨rfl, rfl, rfl⟩ := s_inj h13
      exact Kj13
    · replace h13 := i_neg c14 h13
      refine e_k 2 (f' := (if v10 = 0 then 53 else 47, [(4, .int v10), (3, .int v2), (0, .ref 3), (1, .int p2), (2, .int p3)], [])) rfl ?_
      refine e_if (fun c15 => ?_) (fun c15 => ?_)
      · replace h13 := i_pos c15 h13
        refine e_sub (ls := [(0, .ref 3), (1, .int p2)]) rfl ⟨rfl, rfl, trivial⟩ ?_
        obtain ⟨rfl, rfl, rfl⟩ := s_inj h13
        exact Kj13
      · replace h13 := i_neg c15 h13
        refine e_k 3 (f' := (50, [(4, .int v10), (3, .int v2), (0, .ref 3), (1, .int p2), (2, .int p3)], [.int p3, .int 3, .ref 3])) rfl ?_
        obtain ⟨v16, I16, J16, h16, h13⟩ := oc_call h13
        refine r_cv (z := m_Translator_blame) (As := [.int 3, .int p3]) (rest := []) rfl rfl rfl rfl rfl (x_ltn rfl) rfl rfl (E_Translator_blame  h16 ⟨_, rfl, ?_⟩)
        refine e_sub (ls := [(0, .ref 3), (1, .int p2)]) rfl ⟨rfl, rfl, trivial⟩ ?_
        obtain ⟨rfl, rfl, rfl⟩ := s_inj h13
        exact Kj13
def f_Translator_choice (R : M3) (I : MI) (J : MJ) : M2 Unit := oc (f_Translator_enter  I J) (fun v1 I1 J1 => oc (f_Translator_decider  I1 J1) (fun v2 I2 J2 => oc (f_Translator_expect 91 I2 J2) (fun v3 I3 J3 => pl (va_up I3 3 (upd (I3 3) 7 ((I3 3 7) + 1))) (fun I4 => pl (I4 6 1 : Int32) (fun x5 => oc (f_Translator_emit 17 v2 0 0 I4 J3) (fun v6 I6 J6 => oc (R 0 0 0 I6 J6) (fun v7 I7 J7 => oc (f_Translator_expect 124 I7 J7) (fun v8 I8 J8 => pl (I8 6 1 : Int32) (fun x9 => oc (f_Translator_emit 18 0 0 0 I8 J8) (fun v10 I10 J10 => oc (f_Row_aim 6 7 2000 (x5 + 2) (I10 6 1) I10 J10) (fun v11 I11 J11 => oc (R 0 0 0 I11 J11) (fun v12 I12 J12 => oc (f_Translator_expect 93 I12 J12) (fun v13 I13 J13 => pl (va_up I13 3 (upd (I13 3) 7 ((I13 3 7) - 1))) (fun I14 => oc (f_Translator_leave  I14 J13) (fun v15 I15 J15 => oc (f_Row_aim 6 7 2000 (x9 + 1) (I15 6 1) I15 J15) (fun v16 I16 J16 => some ((), I16, J16)))))))))))))))))
theorem E_Translator_choice {R : M3} {X : MX} {I : MI} {J : MJ} {v : Unit} {I' : MI} {J' : MJ} (hR_0 : ∀ {I : MI} {J : MJ} {v : Int32} {I' : MI} {J' : MJ} {P : am_R → am_H → Prop}, R 0 0 0 I J = some (v, I', J') → P (.inl (none)) (hX X I' J') → am_E (gG L xs) (d + 3) m_Translator_statements (0, lv_args 0 [.ref 3], []) (hX X I J) P) (hR_1 : ∀ {I : MI} {J : MJ} {v : Int32} {I' : MI} {J' : MJ} {P : am_R → am_H → Prop}, R 1 0 0 I J = some (v, I', J') → P (.inl (some (.int v))) (hX X I' J') → am_E (gG L xs) (d + 3) m_Translator_statement (0, lv_args 0 [.ref 3], []) (hX X I J) P) (hR_2 : ∀ {a0 : Int32} {a1 : Int32} {I : MI} {J : MJ} {v : Int32} {I' : MI} {J' : MJ} {P : am_R → am_H → Prop}, R 2 a0 a1 I J = some (v, I', J') → P (.inl (none)) (hX X I' J') → am_E (gG L xs) (d + 3) m_Translator_variableStatement (0, lv_args 0 [.ref 3, .int a0, .int a1], []) (hX X I J) P) (hR_3 : ∀ {a0 : Int32} {a1 : Int32} {I : MI} {J : MJ} {v : Int32} {I' : MI} {J' : MJ} {P : am_R → am_H → Prop}, R 3 a0 a1 I J = some (v, I', J') → P (.inl (none)) (hX X I' J') → am_E (gG L xs) (d + 3) m_Translator_assign (0, lv_args 0 [.ref 3, .int a0, .int a1], []) (hX X I J) P) (hR_4 : ∀ {a0 : Int32} {a1 : Int32} {I : MI} {J : MJ} {v : Int32} {I' : MI} {J' : MJ} {P : am_R → am_H → Prop}, R 4 a0 a1 I J = some (v, I', J') → P (.inl (none)) (hX X I' J') → am_E (gG L xs) (d + 3) m_Translator_arrayStatement (0, lv_args 0 [.ref 3, .int a0, .int a1], []) (hX X I J) P) (hR_5 : ∀ {a0 : Int32} {I : MI} {J : MJ} {v : Int32} {I' : MI} {J' : MJ} {P : am_R → am_H → Prop}, R 5 a0 0 I J = some (v, I', J') → P (.inl (none)) (hX X I' J') → am_E (gG L xs) (d + 3) m_Translator_routine (0, lv_args 0 [.ref 3, .int a0], []) (hX X I J) P) (hR_6 : ∀ {a0 : Int32} {a1 : Int32} {I : MI} {J : MJ} {v : Int32} {I' : MI} {J' : MJ} {P : am_R → am_H → Prop}, R 6 a0 a1 I J = some (v, I', J') → P (.inl (none)) (hX X I' J') → am_E (gG L xs) (d + 3) m_Translator_tell (0, lv_args 0 [.ref 3, .int a0, .int a1], []) (hX X I J) P) (hR_7 : ∀ {I : MI} {J : MJ} {v : Int32} {I' : MI} {J' : MJ} {P : am_R → am_H → Prop}, R 7 0 0 I J = some (v, I', J') → P (.inl (none)) (hX X I' J') → am_E (gG L xs) (d + 3) m_Translator_choice (0, lv_args 0 [.ref 3], []) (hX X I J) P) (hR_8 : ∀ {I : MI} {J : MJ} {v : Int32} {I' : MI} {J' : MJ} {P : am_R → am_H → Prop}, R 8 0 0 I J = some (v, I', J') → P (.inl (none)) (hX X I' J') → am_E (gG L xs) (d + 3) m_Translator_loop (0, lv_args 0 [.ref 3], []) (hX X I J) P) (hR_9 : ∀ {I : MI} {J : MJ} {v : Int32} {I' : MI} {J' : MJ} {P : am_R → am_H → Prop}, R 9 0 0 I J = some (v, I', J') → P (.inl (some (.int v))) (hX X I' J') → am_E (gG L xs) (d + 3) m_Translator_expression (0, lv_args 0 [.ref 3], []) (hX X I J) P) (hR_10 : ∀ {I : MI} {J : MJ} {v : Int32} {I' : MI} {J' : MJ} {P : am_R → am_H → Prop}, R 10 0 0 I J = some (v, I', J') → P (.inl (some (.int v))) (hX X I' J') → am_E (gG L xs) (d + 3) m_Translator_product (0, lv_args 0 [.ref 3], []) (hX X I J) P) (hR_11 : ∀ {I : MI} {J : MJ} {v : Int32} {I' : MI} {J' : MJ} {P : am_R → am_H → Prop}, R 11 0 0 I J = some (v, I', J') → P (.inl (some (.int v))) (hX X I' J') → am_E (gG L xs) (d + 3) m_Translator_factor (0, lv_args 0 [.ref 3], []) (hX X I J) P) (hR_12 : ∀ {I : MI} {J : MJ} {v : Int32} {I' : MI} {J' : MJ} {P : am_R → am_H → Prop}, R 12 0 0 I J = some (v, I', J') → P (.inl (some (.int v))) (hX X I' J') → am_E (gG L xs) (d + 3) m_Translator_atom (0, lv_args 0 [.ref 3], []) (hX X I J) P) (hR_13 : ∀ {I : MI} {J : MJ} {v : Int32} {I' : MI} {J' : MJ} {P : am_R → am_H → Prop}, R 13 0 0 I J = some (v, I', J') → P (.inl (none)) (hX X I' J') → am_E (gG L xs) (d + 3) m_Translator_index (0, lv_args 0 [.ref 3], []) (hX X I J) P) (hb : f_Translator_choice R  I J = some (v, I', J')) (K : P (.inl (none)) (hX X I' J')) : am_E (gG L xs) (d + 4) m_Translator_choice (0, lv_args 0 [.ref 3], []) (hX X I J) P := by
  unfold f_Translator_choice at hb
  refine e_k 1 (f' := (1, [(0, .ref 3)], [.ref 3])) rfl ?_
  obtain ⟨v1, I1, J1, h1, hb⟩ := oc_call hb
  refine r_cv (z := m_Translator_enter) (As := []) (rest := []) rfl rfl rfl rfl rfl (x_ltn rfl) rfl rfl (E_Translator_enter  h1 ⟨_, rfl, ?_⟩)
  refine e_k 1 (f' := (5, [(0, .ref 3)], [.ref 3])) rfl ?_
  obtain ⟨v2, I2, J2, h2, hb⟩ := oc_call hb
  refine r_cv (z := m_Translator_decider) (As := []) (rest := []) rfl rfl rfl rfl rfl (x_ltn rfl) rfl rfl (E_Translator_decider  h2 ⟨_, rfl, ?_⟩)
  refine e_k 3 (f' := (12, [(1, .int v2), (0, .ref 3)], [.int 91, .ref 3])) rfl ?_
  obtain ⟨v3, I3, J3, h3, hb⟩ := oc_call hb
  refine r_cv (z := m_Translator_expect) (As := [.int 91]) (rest := []) rfl rfl rfl rfl rfl (x_ltn rfl) rfl rfl (E_Translator_expect  h3 ⟨_, rfl, ?_⟩)
  refine e_k 2 (f' := (17, [(1, .int v2), (0, .ref 3)], [.ref 3, .ref 3])) rfl ?_
  refine r_geti rfl (x_ltn rfl) rfl rfl ?_
  refine e_k 2 (f' := (22, [(1, .int v2), (0, .ref 3)], [.int ((I3 3 7) + 1), .ref 3])) rfl ?_
  obtain ⟨I4, eI4, hb⟩ := p_nm hb
  refine r_puti' rfl (x_ltn rfl) rfl rfl eI4 ?_
  refine e_k 1 (f' := (26, [(1, .int v2), (0, .ref 3)], [.ref 3])) rfl ?_
  refine r_getr rfl (x_ltn rfl) rfl rfl ?_
  refine r_geti rfl (x_ltn rfl) rfl rfl ?_
  refine e_k 1 (f' := (33, [(2, .int (I4 6 1)), (1, .int v2), (0, .ref 3)], [])) rfl ?_
  obtain ⟨x5, ex5, hb⟩ := p_nm hb
  rw [← ex5]
  refine e_k 5 (f' := (39, [(2, .int x5), (1, .int v2), (0, .ref 3)], [.int 0, .int 0, .int v2, .int 17, .ref 3])) rfl ?_
  obtain ⟨v6, I6, J6, h6, hb⟩ := oc_call hb
  refine r_cv (z := m_Translator_emit) (As := [.int 17, .int v2, .int 0, .int 0]) (rest := []) rfl rfl rfl rfl rfl (x_ltn rfl) rfl rfl (E_Translator_emit  h6 ⟨_, rfl, ?_⟩)
  refine e_k 1 (f' := (43, [(2, .int x5), (1, .int v2), (0, .ref 3)], [.ref 3])) rfl ?_
  obtain ⟨v7, I7, J7, h7, hb⟩ := oc_call hb
  refine r_cv (z := m_Translator_statements) (As := []) (rest := []) rfl rfl rfl rfl rfl (x_ltn rfl) rfl rfl (hR_0  h7 ⟨_, rfl, ?_⟩)
  refine e_k 2 (f' := (49, [(2, .int x5), (1, .int v2), (0, .ref 3)], [.int 124, .ref 3])) rfl ?_
  obtain ⟨v8, I8, J8, h8, hb⟩ := oc_call hb
  refine r_cv (z := m_Translator_expect) (As := [.int 124]) (rest := []) rfl rfl rfl rfl rfl (x_ltn rfl) rfl rfl (E_Translator_expect  h8 ⟨_, rfl, ?_⟩)
  refine e_k 1 (f' := (53, [(2, .int x5), (1, .int v2), (0, .ref 3)], [.ref 3])) rfl ?_
  refine r_getr rfl (x_ltn rfl) rfl rfl ?_
  refine r_geti rfl (x_ltn rfl) rfl rfl ?_
  refine e_k 1 (f' := (60, [(3, .int (I8 6 1)), (2, .int x5), (1, .int v2), (0, .ref 3)], [])) rfl ?_
  obtain ⟨x9, ex9, hb⟩ := p_nm hb
  rw [← ex9]
  refine e_k 5 (f' := (66, [(3, .int x9), (2, .int x5), (1, .int v2), (0, .ref 3)], [.int 0, .int 0, .int 0, .int 18, .ref 3])) rfl ?_
  obtain ⟨v10, I10, J10, h10, hb⟩ := oc_call hb
  refine r_cv (z := m_Translator_emit) (As := [.int 18, .int 0, .int 0, .int 0]) (rest := []) rfl rfl rfl rfl rfl (x_ltn rfl) rfl rfl (E_Translator_emit  h10 ⟨_, rfl, ?_⟩)
  refine e_k 1 (f' := (70, [(3, .int x9), (2, .int x5), (1, .int v2), (0, .ref 3)], [.ref 3])) rfl ?_
  refine r_getr rfl (x_ltn rfl) rfl rfl ?_
  refine e_k 4 (f' := (77, [(3, .int x9), (2, .int x5), (1, .int v2), (0, .ref 3)], [.ref 3, .int (x5 + 2), .ref 6])) rfl ?_
  refine r_getr rfl (x_ltn rfl) rfl rfl ?_
  refine r_geti rfl (x_ltn rfl) rfl rfl ?_
  obtain ⟨v11, I11, J11, h11, hb⟩ := oc_call hb
  refine r_cv (z := m_Row_aim) (As := [.int (x5 + 2), .int (I10 6 1)]) (rest := []) rfl rfl rfl rfl rfl (x_ltn rfl) rfl rfl (E_Row_aim row_6 h11 ⟨_, rfl, ?_⟩)
  refine e_k 1 (f' := (87, [(3, .int x9), (2, .int x5), (1, .int v2), (0, .ref 3)], [.ref 3])) rfl ?_
  obtain ⟨v12, I12, J12, h12, hb⟩ := oc_call hb
  refine r_cv (z := m_Translator_statements) (As := []) (rest := []) rfl rfl rfl rfl rfl (x_ltn rfl) rfl rfl (hR_0  h12 ⟨_, rfl, ?_⟩)
  refine e_k 2 (f' := (93, [(3, .int x9), (2, .int x5), (1, .int v2), (0, .ref 3)], [.int 93, .ref 3])) rfl ?_
  obtain ⟨v13, I13, J13, h13, hb⟩ := oc_call hb
  refine r_cv (z := m_Translator_expect) (As := [.int 93]) (rest := []) rfl rfl rfl rfl rfl (x_ltn rfl) rfl rfl (E_Translator_expect  h13 ⟨_, rfl, ?_⟩)
  refine e_k 2 (f' := (98, [(3, .int x9), (2, .int x5), (1, .int v2), (0, .ref 3)], [.ref 3, .ref 3])) rfl ?_
  refine r_geti rfl (x_ltn rfl) rfl rfl ?_
  refine e_k 2 (f' := (103, [(3, .int x9), (2, .int x5), (1, .int v2), (0, .ref 3)], [.int ((I13 3 7) - 1), .ref 3])) rfl ?_
  obtain ⟨I14, eI14, hb⟩ := p_nm hb
  refine r_puti' rfl (x_ltn rfl) rfl rfl eI14 ?_
  refine e_k 1 (f' := (107, [(3, .int x9), (2, .int x5), (1, .int v2), (0, .ref 3)], [.ref 3])) rfl ?_
  obtain ⟨v15, I15, J15, h15, hb⟩ := oc_call hb
  refine r_cv (z := m_Translator_leave) (As := []) (rest := []) rfl rfl rfl rfl rfl (x_ltn rfl) rfl rfl (E_Translator_leave  h15 ⟨_, rfl, ?_⟩)
  refine e_k 1 (f' := (111, [(3, .int x9), (2, .int x5), (1, .int v2), (0, .ref 3)], [.ref 3])) rfl ?_
  refine r_getr rfl (x_ltn rfl) rfl rfl ?_
  refine e_k 4 (f' := (118, [(3, .int x9), (2, .int x5), (1, .int v2), (0, .ref 3)], [.ref 3, .int (x9 + 1), .ref 6])) rfl ?_
  refine r_getr rfl (x_ltn rfl) rfl rfl ?_
  refine r_geti rfl (x_ltn rfl) rfl rfl ?_
  obtain ⟨v16, I16, J16, h16, hb⟩ := oc_call hb
  refine r_cv (z := m_Row_aim) (As := [.int (x9 + 1), .int (I15 6 1)]) (rest := []) rfl rfl rfl rfl rfl (x_ltn rfl) rfl rfl (E_Row_aim row_6 h16 ⟨_, rfl, ?_⟩)
  obtain ⟨rfl, rfl, rfl⟩ := s_inj hb
  exact e_r rfl rfl K
def f_Translator_loop (R : M3) (I : MI) (J : MJ) : M2 Unit := oc (f_Translator_enter  I J) (fun v1 I1 J1 => oc (f_Translator_decider  I1 J1) (fun v2 I2 J2 => oc (f_Translator_expect 91 I2 J2) (fun v3 I3 J3 => pl (va_up I3 3 (upd (I3 3) 7 ((I3 3 7) + 1))) (fun I4 => pl (I4 6 1 : Int32) (fun x5 => oc (f_Translator_emit 17 v2 0 0 I4 J3) (fun v6 I6 J6 => oc (R 0 0 0 I6 J6) (fun v7 I7 J7 => oc (f_Translator_expect 93 I7 J7) (fun v8 I8 J8 => pl (va_up I8 3 (upd (I8 3) 7 ((I8 3 7) - 1))) (fun I9 => oc (f_Translator_leave  I9 J8) (fun v10 I10 J10 => pl (I10 6 1 : Int32) (fun x11 => oc (f_Translator_emit 18 0 0 0 I10 J10) (fun v12 I12 J12 => oc (f_Row_aim 6 7 2000 (x11 + 1) x5 I12 J12) (fun v13 I13 J13 => oc (f_Row_aim 6 7 2000 (x5 + 2) (I13 6 1) I13 J13) (fun v14 I14 J14 => some ((), I14, J14)))))))))))))))
theorem E_Translator_loop {R : M3} {X : MX} {I : MI} {J : MJ} {v : Unit} {I' : MI} {J' : MJ} (hR_0 : ∀ {I : MI} {J : MJ} {v : Int32} {I' : MI} {J' : MJ} {P : am_R → am_H → Prop}, R 0 0 0 I J = some (v, I', J') → P (.inl (none)) (hX X I' J') → am_E (gG L xs) (d + 3) m_Translator_statements (0, lv_args 0 [.ref 3], []) (hX X I J) P) (hR_1 : ∀ {I : MI} {J : MJ} {v : Int32} {I' : MI} {J' : MJ} {P : am_R → am_H → Prop}, R 1 0 0 I J = some (v, I', J') → P (.inl (some (.int v))) (hX X I' J') → am_E (gG L xs) (d + 3) m_Translator_statement (0, lv_args 0 [.ref 3], []) (hX X I J) P) (hR_2 : ∀ {a0 : Int32} {a1 : Int32} {I : MI} {J : MJ} {v : Int32} {I' : MI} {J' : MJ} {P : am_R → am_H → Prop}, R 2 a0 a1 I J = some (v, I', J') → P (.inl (none)) (hX X I' J') → am_E (gG L xs) (d + 3) m_Translator_variableStatement (0, lv_args 0 [.ref 3, .int a0, .int a1], []) (hX X I J) P) (hR_3 : ∀ {a0 : Int32} {a1 : Int32} {I : MI} {J : MJ} {v : Int32} {I' : MI} {J' : MJ} {P : am_R → am_H → Prop}, R 3 a0 a1 I J = some (v, I', J') → P (.inl (none)) (hX X I' J') → am_E (gG L xs) (d + 3) m_Translator_assign (0, lv_args 0 [.ref 3, .int a0, .int a1], []) (hX X I J) P) (hR_4 : ∀ {a0 : Int32} {a1 : Int32} {I : MI} {J : MJ} {v : Int32} {I' : MI} {J' : MJ} {P : am_R → am_H → Prop}, R 4 a0 a1 I J = some (v, I', J') → P (.inl (none)) (hX X I' J') → am_E (gG L xs) (d + 3) m_Translator_arrayStatement (0, lv_args 0 [.ref 3, .int a0, .int a1], []) (hX X I J) P) (hR_5 : ∀ {a0 : Int32} {I : MI} {J : MJ} {v : Int32} {I' : MI} {J' : MJ} {P : am_R → am_H → Prop}, R 5 a0 0 I J = some (v, I', J') → P (.inl (none)) (hX X I' J') → am_E (gG L xs) (d + 3) m_Translator_routine (0, lv_args 0 [.ref 3, .int a0], []) (hX X I J) P) (hR_6 : ∀ {a0 : Int32} {a1 : Int32} {I : MI} {J : MJ} {v : Int32} {I' : MI} {J' : MJ} {P : am_R → am_H → Prop}, R 6 a0 a1 I J = some (v, I', J') → P (.inl (none)) (hX X I' J') → am_E (gG L xs) (d + 3) m_Translator_tell (0, lv_args 0 [.ref 3, .int a0, .int a1], []) (hX X I J) P) (hR_7 : ∀ {I : MI} {J : MJ} {v : Int32} {I' : MI} {J' : MJ} {P : am_R → am_H → Prop}, R 7 0 0 I J = some (v, I', J') → P (.inl (none)) (hX X I' J') → am_E (gG L xs) (d + 3) m_Translator_choice (0, lv_args 0 [.ref 3], []) (hX X I J) P) (hR_8 : ∀ {I : MI} {J : MJ} {v : Int32} {I' : MI} {J' : MJ} {P : am_R → am_H → Prop}, R 8 0 0 I J = some (v, I', J') → P (.inl (none)) (hX X I' J') → am_E (gG L xs) (d + 3) m_Translator_loop (0, lv_args 0 [.ref 3], []) (hX X I J) P) (hR_9 : ∀ {I : MI} {J : MJ} {v : Int32} {I' : MI} {J' : MJ} {P : am_R → am_H → Prop}, R 9 0 0 I J = some (v, I', J') → P (.inl (some (.int v))) (hX X I' J') → am_E (gG L xs) (d + 3) m_Translator_expression (0, lv_args 0 [.ref 3], []) (hX X I J) P) (hR_10 : ∀ {I : MI} {J : MJ} {v : Int32} {I' : MI} {J' : MJ} {P : am_R → am_H → Prop}, R 10 0 0 I J = some (v, I', J') → P (.inl (some (.int v))) (hX X I' J') → am_E (gG L xs) (d + 3) m_Translator_product (0, lv_args 0 [.ref 3], []) (hX X I J) P) (hR_11 : ∀ {I : MI} {J : MJ} {v : Int32} {I' : MI} {J' : MJ} {P : am_R → am_H → Prop}, R 11 0 0 I J = some (v, I', J') → P (.inl (some (.int v))) (hX X I' J') → am_E (gG L xs) (d + 3) m_Translator_factor (0, lv_args 0 [.ref 3], []) (hX X I J) P) (hR_12 : ∀ {I : MI} {J : MJ} {v : Int32} {I' : MI} {J' : MJ} {P : am_R → am_H → Prop}, R 12 0 0 I J = some (v, I', J') → P (.inl (some (.int v))) (hX X I' J') → am_E (gG L xs) (d + 3) m_Translator_atom (0, lv_args 0 [.ref 3], []) (hX X I J) P) (hR_13 : ∀ {I : MI} {J : MJ} {v : Int32} {I' : MI} {J' : MJ} {P : am_R → am_H → Prop}, R 13 0 0 I J = some (v, I', J') → P (.inl (none)) (hX X I' J') → am_E (gG L xs) (d + 3) m_Translator_index (0, lv_args 0 [.ref 3], []) (hX X I J) P) (hb : f_Translator_loop R  I J = some (v, I', J')) (K : P (.inl (none)) (hX X I' J')) : am_E (gG L xs) (d + 4) m_Translator_loop (0, lv_args 0 [.ref 3], []) (hX X I J) P := by
  unfold f_Translator_loop at hb
  refine e_k 1 (f' := (1, [(0, .ref 3)], [.ref 3])) rfl ?_
  obtain ⟨v1, I1, J1, h1, hb⟩ := oc_call hb
  refine r_cv (z := m_Translator_enter) (As := []) (rest := []) rfl rfl rfl rfl rfl (x_ltn rfl) rfl rfl (E_Translator_enter  h1 ⟨_, rfl, ?_⟩)
  refine e_k 1 (f' := (5, [(0, .ref 3)], [.ref 3])) rfl ?_
  obtain ⟨v2, I2, J2, h2, hb⟩ := oc_call hb
  refine r_cv (z := m_Translator_decider) (As := []) (rest := []) rfl rfl rfl rfl rfl (x_ltn rfl) rfl rfl (E_Translator_decider  h2 ⟨_, rfl, ?_⟩)
  refine e_k 3 (f' := (12, [(1, .int v2), (0, .ref 3)], [.int 91, .ref 3])) rfl ?_
  obtain ⟨v3, I3, J3, h3, hb⟩ := oc_call hb
  refine r_cv (z := m_Translator_expect) (As := [.int 91]) (rest := []) rfl rfl rfl rfl rfl (x_ltn rfl) rfl rfl (E_Translator_expect  h3 ⟨_, rfl, ?_⟩)
  refine e_k 2 (f' := (17, [(1, .int v2), (0, .ref 3)], [.ref 3, .ref 3])) rfl ?_
  refine r_geti rfl (x_ltn rfl) rfl rfl ?_
  refine e_k 2 (f' := (22, [(1, .int v2), (0, .ref 3)], [.int ((I3 3 7) + 1), .ref 3])) rfl ?_
  obtain ⟨I4, eI4, hb⟩ := p_nm hb
  refine r_puti' rfl (x_ltn rfl) rfl rfl eI4 ?_
  refine e_k 1 (f' := (26, [(1, .int v2), (0, .ref 3)], [.ref 3])) rfl ?_
  refine r_getr rfl (x_ltn rfl) rfl rfl ?_
  refine r_geti rfl (x_ltn rfl) rfl rfl ?_
  refine e_k 1 (f' := (33, [(2, .int (I4 6 1)), (1, .int v2), (0, .ref 3)], [])) rfl ?_
  obtain ⟨x5, ex5, hb⟩ := p_nm hb
  rw [← ex5]
  refine e_k 5 (f' := (39, [(2, .int x5), (1, .int v2), (0, .ref 3)], [.int 0, .int 0, .int v2, .int 17, .ref 3])) rfl ?_
  obtain ⟨v6, I6, J6, h6, hb⟩ := oc_call hb
  refine r_cv (z := m_Translator_emit) (As := [.int 17, .int v2, .int 0, .int 0]) (rest := []) rfl rfl rfl rfl rfl (x_ltn rfl) rfl rfl (E_Translator_emit  h6 ⟨_, rfl, ?_⟩)
  refine e_k 1 (f' := (43, [(2, .int x5), (1, .int v2), (0, .ref 3)], [.ref 3])) rfl ?_
  obtain ⟨v7, I7, J7, h7, hb⟩ := oc_call hb
  refine r_cv (z := m_Translator_statements) (As := []) (rest := []) rfl rfl rfl rfl rfl (x_ltn rfl) rfl rfl (hR_0  h7 ⟨_, rfl, ?_⟩)
  refine e_k 2 (f' := (49, [(2, .int x5), (1, .int v2), (0, .ref 3)], [.int 93, .ref 3])) rfl ?_
  obtain ⟨v8, I8, J8, h8, hb⟩ := oc_call hb
  refine r_cv (z := m_Translator_expect) (As := [.int 93]) (rest := []) rfl rfl rfl rfl rfl (x_ltn rfl) rfl rfl (E_Translator_expect  h8 ⟨_, rfl, ?_⟩)
  refine e_k 2 (f' := (54, [(2, .int x5), (1, .int v2), (0, .ref 3)], [.ref 3, .ref 3])) rfl ?_
  refine r_geti rfl (x_ltn rfl) rfl rfl ?_
  refine e_k 2 (f' := (59, [(2, .int x5), (1, .int v2), (0, .ref 3)], [.int ((I8 3 7) - 1), .ref 3])) rfl ?_
  obtain ⟨I9, eI9, hb⟩ := p_nm hb
  refine r_puti' rfl (x_ltn rfl) rfl rfl eI9 ?_
  refine e_k 1 (f' := (63, [(2, .int x5), (1, .int v2), (0, .ref 3)], [.ref 3])) rfl ?_
  obtain ⟨v10, I10, J10, h10, hb⟩ := oc_call hb
  refine r_cv (z := m_Translator_leave) (As := []) (rest := []) rfl rfl rfl rfl rfl (x_ltn rfl) rfl rfl (E_Translator_leave  h10 ⟨_, rfl, ?_⟩)
  refine e_k 1 (f' := (67, [(2, .int x5), (1, .int v2), (0, .ref 3)], [.ref 3])) rfl ?_
  refine r_getr rfl (x_ltn rfl) rfl rfl ?_
  refine r_geti rfl (x_ltn rfl) rfl rfl ?_
  refine e_k 1 (f' := (74, [(3, .int (I10 6 1)), (2, .int x5), (1, .int v2), (0, .ref 3)], [])) rfl ?_
  obtain ⟨x11, ex11, hb⟩ := p_nm hb
  rw [← ex11]
  refine e_k 5 (f' := (80, [(3, .int x11), (2, .int x5), (1, .int v2), (0, .ref 3)], [.int 0, .int 0, .int 0, .int 18, .ref 3])) rfl ?_
  obtain ⟨v12, I12, J12, h12, hb⟩ := oc_call hb
  refine r_cv (z := m_Translator_emit) (As := [.int 18, .int 0, .int 0, .int 0]) (rest := []) rfl rfl rfl rfl rfl (x_ltn rfl) rfl rfl (E_Translator_emit  h12 ⟨_, rfl, ?_⟩)
  refine e_k 1 (f' := (84, [(3, .int x11), (2, .int x5), (1, .int v2), (0, .ref 3)], [.ref 3])) rfl ?_
  refine r_getr rfl (x_ltn rfl) rfl rfl ?_
  refine e_k 4 (f' := (91, [(3, .int x11), (2, .int x5), (1, .int v2), (0, .ref 3)], [.int x5, .int (x11 + 1), .ref 6])) rfl ?_
  obtain ⟨v13, I13, J13, h13, hb⟩ := oc_call hb
  refine r_cv (z := m_Row_aim) (As := [.int (x11 + 1), .int x5]) (rest := []) rfl rfl rfl rfl rfl (x_ltn rfl) rfl rfl (E_Row_aim row_6 h13 ⟨_, rfl, ?_⟩)
  refine e_k 1 (f' := (95, [(3, .int x11), (2, .int x5), (1, .int v2), (0, .ref 3)], [.ref 3])) rfl ?_
  refine r_getr rfl (x_ltn rfl) rfl rfl ?_
  refine e_k 4 (f' := (102, [(3, .int x11), (2, .int x5), (1, .int v2), (0, .ref 3)], [.ref 3, .int (x5 + 2), .ref 6])) rfl ?_
  refine r_getr rfl (x_ltn rfl) rfl rfl ?_
  refine r_geti rfl (x_ltn rfl) rfl rfl ?_
  obtain ⟨v14, I14, J14, h14, hb⟩ := oc_call hb
  refine r_cv (z := m_Row_aim) (As := [.int (x5 + 2), .int (I13 6 1)]) (rest := []) rfl rfl rfl rfl rfl (x_ltn rfl) rfl rfl (E_Row_aim row_6 h14 ⟨_, rfl, ?_⟩)
  obtain ⟨rfl, rfl, rfl⟩ := s_inj hb
  exact e_r rfl rfl K
def f_RcT : Nat → M3
  | 0, _, _, _, _, _ => none
  | fu + 1, k, a, b, I, J => bif Nat.beq k 0 then oc (f_Translator_statements (f_RcT fu)  I J) (fun _ I J => some (0, I, J)) else bif Nat.beq k 1 then f_Translator_statement (f_RcT fu)  I J else bif Nat.beq k 2 then oc (f_Translator_variableStatement (f_RcT fu) a b I J) (fun _ I J => some (0, I, J)) else bif Nat.beq k 3 then oc (f_Translator_assign (f_RcT fu) a b I J) (fun _ I J => some (0, I, J)) else bif Nat.beq k 4 then oc (f_Translator_arrayStatement (f_RcT fu) a b I J) (fun _ I J => some (0, I, J)) else bif Nat.beq k 5 then oc (f_Translator_routine (f_RcT fu) a I J) (fun _ I J => some (0, I, J)) else bif Nat.beq k 6 then oc (f_Translator_tell (f_RcT fu) a b I J) (fun _ I J => some (0, I, J)) else bif Nat.beq k 7 then oc (f_Translator_choice (f_RcT fu)  I J) (fun _ I J => some (0, I, J)) else bif Nat.beq k 8 then oc (f_Translator_loop (f_RcT fu)  I J) (fun _ I J => some (0, I, J)) else bif Nat.beq k 9 then f_Translator_expression (f_RcT fu)  I J else bif Nat.beq k 10 then f_Translator_product (f_RcT fu)  I J else bif Nat.beq k 11 then f_Translator_factor (f_RcT fu)  I J else bif Nat.beq k 12 then f_Translator_atom (f_RcT fu)  I J else bif Nat.beq k 13 then oc (f_Translator_index (f_RcT fu)  I J) (fun _ I J => some (0, I, J)) else none
theorem E_RcT_all {L : Nat} {xs : Nat → Int32} {X : MX} : ∀ (fu d : Nat), (∀ {I : MI} {J : MJ} {v : Int32} {I' : MI} {J' : MJ} {P : am_R → am_H → Prop}, f_RcT fu 0 0 0 I J = some (v, I', J') → P (.inl (none)) (hX X I' J') → am_E (gG L xs) (d + fu + 4) m_Translator_statements (0, lv_args 0 [.ref 3], []) (hX X I J) P) ∧ (∀ {I : MI} {J : MJ} {v : Int32} {I' : MI} {J' : MJ} {P : am_R → am_H → Prop}, f_RcT fu 1 0 0 I J = some (v, I', J') → P (.inl (some (.int v))) (hX X I' J') → am_E (gG L xs) (d + fu + 4) m_Translator_statement (0, lv_args 0 [.ref 3], []) (hX X I J) P) ∧ (∀ {a0 : Int32} {a1 : Int32} {I : MI} {J : MJ} {v : Int32} {I' : MI} {J' : MJ} {P : am_R → am_H → Prop}, f_RcT fu 2 a0 a1 I J = some (v, I', J') → P (.inl (none)) (hX X I' J') → am_E (gG L xs) (d + fu + 4) m_Translator_variableStatement (0, lv_args 0 [.ref 3, .int a0, .int a1], []) (hX X I J) P) ∧ (∀ {a0 : Int32} {a1 : Int32} {I : MI} {J : MJ} {v : Int32} {I' : MI} {J' : MJ} {P : am_R → am_H → Prop}, f_RcT fu 3 a0 a1 I J = some (v, I', J') → P (.inl (none)) (hX X I' J') → am_E (gG L xs) (d + fu + 4) m_Translator_assign (0, lv_args 0 [.ref 3, .int a0, .int a1], []) (hX X I J) P) ∧ (∀ {a0 : Int32} {a1 : Int32} {I : MI} {J : MJ} {v : Int32} {I' : MI} {J' : MJ} {P : am_R → am_H → Prop}, f_RcT fu 4 a0 a1 I J = some (v, I', J') → P (.inl (none)) (hX X I' J') → am_E (gG L xs) (d + fu + 4) m_Translator_arrayStatement (0, lv_args 0 [.ref 3, .int a0, .int a1], []) (hX X I J) P) ∧ (∀ {a0 : Int32} {I : MI} {J : MJ} {v : Int32} {I' : MI} {J' : MJ} {P : am_R → am_H → Prop}, f_RcT fu 5 a0 0 I J = some (v, I', J') → P (.inl (none)) (hX X I' J') → am_E (gG L xs) (d + fu + 4) m_Translator_routine (0, lv_args 0 [.ref 3, .int a0], []) (hX X I J) P) ∧ (∀ {a0 : Int32} {a1 : Int32} {I : MI} {J : MJ} {v : Int32} {I' : MI} {J' : MJ} {P : am_R → am_H → Prop}, f_RcT fu 6 a0 a1 I J = some (v, I', J') → P (.inl (none)) (hX X I' J') → am_E (gG L xs) (d + fu + 4) m_Translator_tell (0, lv_args 0 [.ref 3, .int a0, .int a1], []) (hX X I J) P) ∧ (∀ {I : MI} {J : MJ} {v : Int32} {I' : MI} {J' : MJ} {P : am_R → am_H → Prop}, f_RcT fu 7 0 0 I J = some (v, I', J') → P (.inl (none)) (hX X I' J') → am_E (gG L xs) (d + fu + 4) m_Translator_choice (0, lv_args 0 [.ref 3], []) (hX X I J) P) ∧ (∀ {I : MI} {J : MJ} {v : Int32} {I' : MI} {J' : MJ} {P : am_R → am_H → Prop}, f_RcT fu 8 0 0 I J = some (v, I', J') → P (.inl (none)) (hX X I' J') → am_E (gG L xs) (d + fu + 4) m_Translator_loop (0, lv_args 0 [.ref 3], []) (hX X I J) P) ∧ (∀ {I : MI} {J : MJ} {v : Int32} {I' : MI} {J' : MJ} {P : am_R → am_H → Prop}, f_RcT fu 9 0 0 I J = some (v, I', J') → P (.inl (some (.int v))) (hX X I' J') → am_E (gG L xs) (d + fu + 4) m_Translator_expression (0, lv_args 0 [.ref 3], []) (hX X I J) P) ∧ (∀ {I : MI} {J : MJ} {v : Int32} {I' : MI} {J' : MJ} {P : am_R → am_H → Prop}, f_RcT fu 10 0 0 I J = some (v, I', J') → P (.inl (some (.int v))) (hX X I' J') → am_E (gG L xs) (d + fu + 4) m_Translator_product (0, lv_args 0 [.ref 3], []) (hX X I J) P) ∧ (∀ {I : MI} {J : MJ} {v : Int32} {I' : MI} {J' : MJ} {P : am_R → am_H → Prop}, f_RcT fu 11 0 0 I J = some (v, I', J') → P (.inl (some (.int v))) (hX X I' J') → am_E (gG L xs) (d + fu + 4) m_Translator_factor (0, lv_args 0 [.ref 3], []) (hX X I J) P) ∧ (∀ {I : MI} {J : MJ} {v : Int32} {I' : MI} {J' : MJ} {P : am_R → am_H → Prop}, f_RcT fu 12 0 0 I J = some (v, I', J') → P (.inl (some (.int v))) (hX X I' J') → am_E (gG L xs) (d + fu + 4) m_Translator_atom (0, lv_args 0 [.ref 3], []) (hX X I J) P) ∧ (∀ {I : MI} {J : MJ} {v : Int32} {I' : MI} {J' : MJ} {P : am_R → am_H → Prop}, f_RcT fu 13 0 0 I J = some (v, I', J') → P (.inl (none)) (hX X I' J') → am_E (gG L xs) (d + fu + 4) m_Translator_index (0, lv_args 0 [.ref 3], []) (hX X I J) P) := by
  intro fu
  induction fu with
  | zero =>
    intro d
    refine ⟨?_, ?_, ?_, ?_, ?_, ?_, ?_, ?_, ?_, ?_, ?_, ?_, ?_, ?_⟩ <;> (intros; rename_i hb _; cases hb)
  | succ fu ih =>
    intro d
    obtain ⟨h0, h1, h2, h3, h4, h5, h6, h7, h8, h9, h10, h11, h12, h13⟩ := ih d
    refine ⟨?_, ?_, ?_, ?_, ?_, ?_, ?_, ?_, ?_, ?_, ?_, ?_, ?_, ?_⟩
    · intro I J v I' J' P hb K
      rw [show d + (fu + 1) + 4 = d + fu + 4 + 1 from by omega]
      obtain ⟨_, I1, J1, h, hb⟩ := oc_call (show oc (f_Translator_statements (f_RcT fu)  I J) (fun _ I J => some ((0 : Int32), I, J)) = some (v, I', J') from hb)
      obtain ⟨rfl, rfl, rfl⟩ := s_inj hb
      exact E_Translator_statements (d := d + fu + 4) h0 h1 h2 h3 h4 h5 h6 h7 h8 h9 h10 h11 h12 h13 h K
    · intro I J v I' J' P hb K
      rw [show d + (fu + 1) + 4 = d + fu + 1 + 4 from by omega]
      exact E_Translator_statement (d := d + fu + 1) h0 h1 h2 h3 h4 h5 h6 h7 h8 h9 h10 h11 h12 h13 hb K
    · intro a0 a1 I J v I' J' P hb K
      rw [show d + (fu + 1) + 4 = d + fu + 1 + 4 from by omega]
      obtain ⟨_, I1, J1, h, hb⟩ := oc_call (show oc (f_Translator_variableStatement (f_RcT fu) a0 a1 I J) (fun _ I J => some ((0 : Int32), I, J)) = some (v, I', J') from hb)
      obtain ⟨rfl, rfl, rfl⟩ := s_inj hb
      exact E_Translator_variableStatement (d := d + fu + 1) h0 h1 h2 h3 h4 h5 h6 h7 h8 h9 h10 h11 h12 h13 h K
    · intro a0 a1 I J v I' J' P hb K
      rw [show d + (fu + 1) + 4 = d + fu + 2 + 3 from by omega]
      obtain ⟨_, I1, J1, h, hb⟩ := oc_call (show oc (f_Translator_assign (f_RcT fu) a0 a1 I J) (fun _ I J => some ((0 : Int32), I, J)) = some (v, I', J') from hb)
      obtain ⟨rfl, rfl, rfl⟩ := s_inj hb
      exact E_Translator_assign (d := d + fu + 2) h0 h1 h2 h3 h4 h5 h6 h7 h8 h9 h10 h11 h12 h13 h K
    · intro a0 a1 I J v I' J' P hb K
      rw [show d + (fu + 1) + 4 = d + fu + 1 + 4 from by omega]
      obtain ⟨_, I1, J1, h, hb⟩ := oc_call (show oc (f_Translator_arrayStatement (f_RcT fu) a0 a1 I J) (fun _ I J => some ((0 : Int32), I, J)) = some (v, I', J') from hb)
      obtain ⟨rfl, rfl, rfl⟩ := s_inj hb
      exact E_Translator_arrayStatement (d := d + fu + 1) h0 h1 h2 h3 h4 h5 h6 h7 h8 h9 h10 h11 h12 h13 h K
    · intro a0 I J v I' J' P hb K
      rw [show d + (fu + 1) + 4 = d + fu + 2 + 3 from by omega]
      obtain ⟨_, I1, J1, h, hb⟩ := oc_call (show oc (f_Translator_routine (f_RcT fu) a0 I J) (fun _ I J => some ((0 : Int32), I, J)) = some (v, I', J') from hb)
      obtain ⟨rfl, rfl, rfl⟩ := s_inj hb
      exact E_Translator_routine (d := d + fu + 2) h0 h1 h2 h3 h4 h5 h6 h7 h8 h9 h10 h11 h12 h13 h K
    · intro a0 a1 I J v I' J' P hb K
      rw [show d + (fu + 1) + 4 = d + fu + 2 + 3 from by omega]
      obtain ⟨_, I1, J1, h, hb⟩ := oc_call (show oc (f_Translator_tell (f_RcT fu) a0 a1 I J) (fun _ I J => some ((0 : Int32), I, J)) = some (v, I', J') from hb)
      obtain ⟨rfl, rfl, rfl⟩ := s_inj hb
      exact E_Translator_tell (d := d + fu + 2) h0 h1 h2 h3 h4 h5 h6 h7 h8 h9 h10 h11 h12 h13 h K
    · intro I J v I' J' P hb K
      rw [show d + (fu + 1) + 4 = d + fu + 1 + 4 from by omega]
      obtain ⟨_, I1, J1, h, hb⟩ := oc_call (show oc (f_Translator_choice (f_RcT fu)  I J) (fun _ I J => some ((0 : Int32), I, J)) = some (v, I', J') from hb)
      obtain ⟨rfl, rfl, rfl⟩ := s_inj hb
      exact E_Translator_choice (d := d + fu + 1) h0 h1 h2 h3 h4 h5 h6 h7 h8 h9 h10 h11 h12 h13 h K
    · intro I J v I' J' P hb K
      rw [show d + (fu + 1) + 4 = d + fu + 1 + 4 from by omega]
      obtain ⟨_, I1, J1, h, hb⟩ := oc_call (show oc (f_Translator_loop (f_RcT fu)  I J) (fun _ I J => some ((0 : Int32), I, J)) = some (v, I', J') from hb)
      obtain ⟨rfl, rfl, rfl⟩ := s_inj hb
      exact E_Translator_loop (d := d + fu + 1) h0 h1 h2 h3 h4 h5 h6 h7 h8 h9 h10 h11 h12 h13 h K
    · intro I J v I' J' P hb K
      rw [show d + (fu + 1) + 4 = d + fu + 3 + 2 from by omega]
      exact E_Translator_expression (d := d + fu + 3) h0 h1 h2 h3 h4 h5 h6 h7 h8 h9 h10 h11 h12 h13 hb K
    · intro I J v I' J' P hb K
      rw [show d + (fu + 1) + 4 = d + fu + 3 + 2 from by omega]
      exact E_Translator_product (d := d + fu + 3) h0 h1 h2 h3 h4 h5 h6 h7 h8 h9 h10 h11 h12 h13 hb K
    · intro I J v I' J' P hb K
      rw [show d + (fu + 1) + 4 = d + fu + 3 + 2 from by omega]
      exact E_Translator_factor (d := d + fu + 3) h0 h1 h2 h3 h4 h5 h6 h7 h8 h9 h10 h11 h12 h13 hb K
    · intro I J v I' J' P hb K
      rw [show d + (fu + 1) + 4 = d + fu + 2 + 3 from by omega]
      exact E_Translator_atom (d := d + fu + 2) h0 h1 h2 h3 h4 h5 h6 h7 h8 h9 h10 h11 h12 h13 hb K
    · intro I J v I' J' P hb K
      rw [show d + (fu + 1) + 4 = d + fu + 2 + 3 from by omega]
      obtain ⟨_, I1, J1, h, hb⟩ := oc_call (show oc (f_Translator_index (f_RcT fu)  I J) (fun _ I J => some ((0 : Int32), I, J)) = some (v, I', J') from hb)
      obtain ⟨rfl, rfl, rfl⟩ := s_inj hb
      exact E_Translator_index (d := d + fu + 2) h0 h1 h2 h3 h4 h5 h6 h7 h8 h9 h10 h11 h12 h13 h K
theorem E_RcT_0 {L : Nat} {xs : Nat → Int32} {X : MX} {d : Nat} : ∀ {I : MI} {J : MJ} {v : Int32} {I' : MI} {J' : MJ} {P : am_R → am_H → Prop}, f_RcT 200 0 0 0 I J = some (v, I', J') → P (.inl (none)) (hX X I' J') → am_E (gG L xs) (d + 204) m_Translator_statements (0, lv_args 0 [.ref 3], []) (hX X I J) P := (E_RcT_all 200 d).1
theorem E_RcT_1 {L : Nat} {xs : Nat → Int32} {X : MX} {d : Nat} : ∀ {I : MI} {J : MJ} {v : Int32} {I' : MI} {J' : MJ} {P : am_R → am_H → Prop}, f_RcT 200 1 0 0 I J = some (v, I', J') → P (.inl (some (.int v))) (hX X I' J') → am_E (gG L xs) (d + 204) m_Translator_statement (0, lv_args 0 [.ref 3], []) (hX X I J) P := (E_RcT_all 200 d).2.1
theorem E_RcT_2 {L : Nat} {xs : Nat → Int32} {X : MX} {d : Nat} : ∀ {a0 : Int32} {a1 : Int32} {I : MI} {J : MJ} {v : Int32} {I' : MI} {J' : MJ} {P : am_R → am_H → Prop}, f_RcT 200 2 a0 a1 I J = some (v, I', J') → P (.inl (none)) (hX X I' J') → am_E (gG L xs) (d + 204) m_Translator_variableStatement (0, lv_args 0 [.ref 3, .int a0, .int a1], []) (hX X I J) P := (E_RcT_all 200 d).2.2.1
theorem E_RcT_3 {L : Nat} {xs : Nat → Int32} {X : MX} {d : Nat} : ∀ {a0 : Int32} {a1 : Int32} {I : MI} {J : MJ} {v : Int32} {I' : MI} {J' : MJ} {P : am_R → am_H → Prop}, f_RcT 200 3 a0 a1 I J = some (v, I', J') → P (.inl (none)) (hX X I' J') → am_E (gG L xs) (d + 204) m_Translator_assign (0, lv_args 0 [.ref 3, .int a0, .int a1], []) (hX X I J) P := (E_RcT_all 200 d).2.2.2.1
theorem E_RcT_4 {L : Nat} {xs : Nat → Int32} {X : MX} {d : Nat} : ∀ {a0 : Int32} {a1 : Int32} {I : MI} {J : MJ} {v : Int32} {I' : MI} {J' : MJ} {P : am_R → am_H → Prop}, f_RcT 200 4 a0 a1 I J = some (v, I', J') → P (.inl (none)) (hX X I' J') → am_E (gG L xs) (d + 204) m_Translator_arrayStatement (0, lv_args 0 [.ref 3, .int a0, .int a1], []) (hX X I J) P := (E_RcT_all 200 d).2.2.2.2.1
theorem E_RcT_5 {L : Nat} {xs : Nat → Int32} {X : MX} {d : Nat} : ∀ {a0 : Int32} {I : MI} {J : MJ} {v : Int32} {I' : MI} {J' : MJ} {P : am_R → am_H → Prop}, f_RcT 200 5 a0 0 I J = some (v, I', J') → P (.inl (none)) (hX X I' J') → am_E (gG L xs) (d + 204) m_Translator_routine (0, lv_args 0 [.ref 3, .int a0], []) (hX X I J) P := (E_RcT_all 200 d).2.2.2.2.2.1
theorem E_RcT_6 {L : Nat} {xs : Nat → Int32} {X : MX} {d : Nat} : ∀ {a0 : Int32} {a1 : Int32} {I : MI} {J : MJ} {v : Int32} {I' : MI} {J' : MJ} {P : am_R → am_H → Prop}, f_RcT 200 6 a0 a1 I J = some (v, I', J') → P (.inl (none)) (hX X I' J') → am_E (gG L xs) (d + 204) m_Translator_tell (0, lv_args 0 [.ref 3, .int a0, .int a1], []) (hX X I J) P := (E_RcT_all 200 d).2.2.2.2.2.2.1
theorem E_RcT_7 {L : Nat} {xs : Nat → Int32} {X : MX} {d : Nat} : ∀ {I : MI} {J : MJ} {v : Int32} {I' : MI} {J' : MJ} {P : am_R → am_H → Prop}, f_RcT 200 7 0 0 I J = some (v, I', J') → P (.inl (none)) (hX X I' J') → am_E (gG L xs) (d + 204) m_Translator_choice (0, lv_args 0 [.ref 3], []) (hX X I J) P := (E_RcT_all 200 d).2.2.2.2.2.2.2.1
theorem E_RcT_8 {L : Nat} {xs : Nat → Int32} {X : MX} {d : Nat} : ∀ {I : MI} {J : MJ} {v : Int32} {I' : MI} {J' : MJ} {P : am_R → am_H → Prop}, f_RcT 200 8 0 0 I J = some (v, I', J') → P (.inl (none)) (hX X I' J') → am_E (gG L xs) (d + 204) m_Translator_loop (0, lv_args 0 [.ref 3], []) (hX X I J) P := (E_RcT_all 200 d).2.2.2.2.2.2.2.2.1
theorem E_RcT_9 {L : Nat} {xs : Nat → Int32} {X : MX} {d : Nat} : ∀ {I : MI} {J : MJ} {v : Int32} {I' : MI} {J' : MJ} {P : am_R → am_H → Prop}, f_RcT 200 9 0 0 I J = some (v, I', J') → P (.inl (some (.int v))) (hX X I' J') → am_E (gG L xs) (d + 204) m_Translator_expression (0, lv_args 0 [.ref 3], []) (hX X I J) P := (E_RcT_all 200 d).2.2.2.2.2.2.2.2.2.1
theorem E_RcT_10 {L : Nat} {xs : Nat → Int32} {X : MX} {d : Nat} : ∀ {I : MI} {J : MJ} {v : Int32} {I' : MI} {J' : MJ} {P : am_R → am_H → Prop}, f_RcT 200 10 0 0 I J = some (v, I', J') → P (.inl (some (.int v))) (hX X I' J') → am_E (gG L xs) (d + 204) m_Translator_product (0, lv_args 0 [.ref 3], []) (hX X I J) P := (E_RcT_all 200 d).2.2.2.2.2.2.2.2.2.2.1
theorem E_RcT_11 {L : Nat} {xs : Nat → Int32} {X : MX} {d : Nat} : ∀ {I : MI} {J : MJ} {v : Int32} {I' : MI} {J' : MJ} {P : am_R → am_H → Prop}, f_RcT 200 11 0 0 I J = some (v, I', J') → P (.inl (some (.int v))) (hX X I' J') → am_E (gG L xs) (d + 204) m_Translator_factor (0, lv_args 0 [.ref 3], []) (hX X I J) P := (E_RcT_all 200 d).2.2.2.2.2.2.2.2.2.2.2.1
theorem E_RcT_12 {L : Nat} {xs : Nat → Int32} {X : MX} {d : Nat} : ∀ {I : MI} {J : MJ} {v : Int32} {I' : MI} {J' : MJ} {P : am_R → am_H → Prop}, f_RcT 200 12 0 0 I J = some (v, I', J') → P (.inl (some (.int v))) (hX X I' J') → am_E (gG L xs) (d + 204) m_Translator_atom (0, lv_args 0 [.ref 3], []) (hX X I J) P := (E_RcT_all 200 d).2.2.2.2.2.2.2.2.2.2.2.2.1
theorem E_RcT_13 {L : Nat} {xs : Nat → Int32} {X : MX} {d : Nat} : ∀ {I : MI} {J : MJ} {v : Int32} {I' : MI} {J' : MJ} {P : am_R → am_H → Prop}, f_RcT 200 13 0 0 I J = some (v, I', J') → P (.inl (none)) (hX X I' J') → am_E (gG L xs) (d + 204) m_Translator_index (0, lv_args 0 [.ref 3], []) (hX X I J) P := (E_RcT_all 200 d).2.2.2.2.2.2.2.2.2.2.2.2.2
end AUTO
