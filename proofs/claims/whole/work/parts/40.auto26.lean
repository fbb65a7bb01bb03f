section AUTO
variable {L : Nat} {xs : Nat → Int32} {d : Nat} {P : am_R → am_H → Prop}
theorem E_Translator_loop {R : M3} {X : MX} {I : MI} {J : MJ} {v : Unit} {I' : MI} {J' : MJ} (hR_0 : ∀ {I : MI} {J : MJ} {v : Int32} {I' : MI} {J' : MJ} {P : am_R → am_H → Prop}, R 0 0 0 I J = some (v, I', J') → P (.inl (none)) (hX X I' J') → am_E (gG L xs) (d + 3) m_Translator_statements (0, lv_args 0 [.ref 3], []) (hX X I J) P) (hR_1 : ∀ {I : MI} {J : MJ} {v : Int32} {I' : MI} {J' : MJ} {P : am_R → am_H → Prop}, R 1 0 0 I J = some (v, I', J') → P (.inl (some (.int v))) (hX X I' J') → am_E (gG L xs) (d + 3) m_Translator_statement (0, lv_args 0 [.ref 3], []) (hX X I J) P) (hR_2 : ∀ {a0 : Int32} {a1 : Int32} {I : MI} {J : MJ} {v : Int32} {I' : MI} {J' : MJ} {P : am_R → am_H → Prop}, R 2 a0 a1 I J = some (v, I', J') → P (.inl (none)) (hX X I' J') → am_E (gG L xs) (d + 3) m_Translator_variableStatement (0, lv_args 0 [.ref 3, .int a0, .int a1], []) (hX X I J) P) (hR_3 : ∀ {a0 : Int32} {a1 : Int32} {I : MI} {J : MJ} {v : Int32} {I' : MI} {J' : MJ} {P : am_R → am_H → Prop}, R 3 a0 a1 I J = some (v, I', J') → P (.inl (none)) (hX X I' J') → am_E (gG L xs) (d + 3) m_Translator_assign (0, lv_args 0 [.ref 3, .int a0, .int a1], []) (hX X I J) P) (hR_4 : ∀ {a0 : Int32} {a1 : Int32} {I : MI} {J : MJ} {v : Int32} {I' : MI} {J' : MJ} {P : am_R → am_H → Prop}, R 4 a0 a1 I J = some (v, I', J') → P (.inl (none)) (hX X I' J') → am_E (gG L xs) (d + 3) m_Translator_arrayStatement (0, lv_args 0 [.ref 3, .int a0, .int a1], []) (hX X I J) P) (hR_5 : ∀ {a0 : Int32} {I : MI} {J : MJ} {v : Int32} {I' : MI} {J' : MJ} {P : am_R → am_H → Prop}, R 5 a0 0 I J = some (v, I', J') → P (.inl (none)) (hX X I' J') → am_E (gG L xs) (d + 3) m_Translator_routine (0, lv_args 0 [.ref 3, .int a0], []) (hX X I J) P) (hR_6 : ∀ {a0 : Int32} {a1 : Int32} {I : MI} {J : MJ} {v : Int32} {I' : MI} {J' : MJ} {P : am_R → am_H → Prop}, R 6 a0 a1 I J = some (v, I', J') → P (.inl (none)) (hX X I' J') → am_E (gG L xs) (d + 3) m_Translator_tell (0, lv_args 0 [.ref 3, .int a0, .int a1], []) (hX X I J) P) (hR_7 : ∀ {I : MI} {J : MJ} {v : Int32} {I' : MI} {J' : MJ} {P : am_R → am_H → Prop}, R 7 0 0 I J = some (v, I', J') → P (.inl (none)) (hX X I' J') → am_E (gG L xs) (d + 3) m_Translator_choice (0, lv_args 0 [.ref 3], []) (hX X I J) P) (hR_8 : ∀ {I : MI} {J : MJ} {v : Int32} {I' : MI} {J' : MJ} {P : am_R → am_H → Prop}, R 8 0 0 I J = some (v, I', J') → P (.inl (none)) (hX X I' J') → am_E (gG L xs) (d + 3) m_Translator_loop (0, lv_args 0 [.ref 3], []) (hX X I J) P) (hR_9 : ∀ {I : MI} {J : MJ} {v : Int32} {I' : MI} {J' : MJ} {P : am_R → am_H → Prop}, R 9 0 0 I J = some (v, I', J') → P (.inl (some (.int v))) (hX X I' J') → am_E (gG L xs) (d + 3) m_Translator_expression (0, lv_args 0 [.ref 3], []) (hX X I J) P) (hR_10 : ∀ {I : MI} {J : MJ} {v : Int32} {I' : MI} {J' : MJ} {P : am_R → am_H → Prop}, R 10 0 0 I J = some (v, I', J') → P (.inl (some (.int v))) (hX X I' J') → am_E (gG L xs) (d + 3) m_Translator_product (0, lv_args 0 [.ref 3], []) (hX X I J) P) (hR_11 : ∀ {I : MI} {J : MJ} {v : Int32} {I' : MI} {J' : MJ} {P : am_R → am_H → Prop}, R 11 0 0 I J = some (v, I', J') → P (.inl (some (.int v))) (hX X I' J') → am_E (gG L xs) (d + 3) m_Translator_factor (0, lv_args 0 [.ref 3], []) (hX X I J) P) (hR_12 : ∀ {I : MI} {J : MJ} {v : Int32} {I' : MI} {J' : MJ} {P : am_R → am_H → Prop}, R 12 0 0 I J = some (v, I', J') → P (.inl (some (.int v))) (hX X I' J') → am_E (gG L xs) (d + 3) m_Translator_atom (0, lv_args 0 [.ref 3], []) (hX X I J) P) (hR_13 : ∀ {I : MI} {J : MJ} {v : Int32} {I' : MI} {J' : MJ} {P : am_R → am_H → Prop}, R 13 0 0 I J = some (v, I', J') → P (.inl (none)) (hX X I' J') → am_E (gG L xs) (d + 3) m_Translator_index (0, lv_args 0 [.ref 3], []) (hX X I J) P) (hb : f_Translator_loop R  I J = some (v, I', J')) (K : P (.inl (none)) (hX X I' J')) : am_E (gG L xs) (d + 4) m_Translator_loop (0, lv_args 0 [.ref 3], []) (hX X I J) P := by
  unfold f_Translator_loop at hb
  refine e_k 1 (f' := (1, [(0, .ref 3)], [.ref 3])) rfl ?_
  obtain ⟨v1, I1, J1, h1, hb⟩ := oc_call hb
  refine r_cv (z := m_Translator_enter) (As := []) (rest := []) rfl rfl rfl rfl rfl (x_ltn rfl) rfl rfl (E_Translator_enter  h1 ⟨_, rfl, ?_⟩)
  refine e_k 1 (f' := (5, [(0, .ref 3)], [.ref 3])) rfl ?_
  obtain ⟨v2, I2, J2, h2, hb⟩ := oc_call hb
  refine r_cv (z := m_Translator_decider) (As := []) (rest := []) rfl rfl rfl rfl rfl (x_ltn rfl) rfl rfl (E_Translator_decider  h2 ⟨_, rfl, ?_⟩)
  refine e_k 3 (f' := (12, [(1, .int v2), (0, .ref 3)], [.int 91, .ref 3])) rfl ?_
  obtain ⟨v3, I3, J3, h3, hb⟩ := oc_call hb
  refine r_cv (z := m_Translator_expect) (As := [.int 91]) (rest := []) rfl rfl rfl rfl rfl (x_ltn rfl) rfl rfl (E_Translator_expect  h3 ⟨_, rfl, ?_⟩)
  refine e_k 2 (f' := (17, [(1, .int v2), (0, .ref 3)], [.ref 3, .ref 3])) rfl ?_
  refine r_geti rfl (x_ltn rfl) rfl rfl ?_
  refine e_k 2 (f' := (22, [(1, .int v2), (0, .ref 3)], [.int ((I3 3 7) + 1), .ref 3])) rfl ?_
  obtain ⟨I4, eI4, hb⟩ := p_nm hb
  refine r_puti' rfl (x_ltn rfl) rfl rfl eI4 ?_
  refine e_k 1 (f' := (26, [(1, .int v2), (0, .ref 3)], [.ref 3])) rfl ?_
  refine r_getr rfl (x_ltn rfl) rfl rfl ?_
  refine r_geti rfl (x_ltn rfl) rfl rfl ?_
  refine e_k 1 (f' := (33, [(2, .int (I4 6 1)), (1, .int v2), (0, .ref 3)], [])) rfl ?_
  obtain ⟨x5, ex5, hb⟩ := p_nm hb
  rw [← ex5]
  refine e_k 5 (f' := (39, [(2, .int x5), (1, .int v2), (0, .ref 3)], [.int 0, .int 0, .int v2, .int 17, .ref 3])) rfl ?_
  obtain ⟨v6, I6, J6, h6, hb⟩ := oc_call hb
  refine r_cv (z := m_Translator_emit) (As := [.int 17, .int v2, .int 0, .int 0]) (rest := []) rfl rfl rfl rfl rfl (x_ltn rfl) rfl rfl (E_Translator_emit  h6 ⟨_, rfl, ?_⟩)
  refine e_k 1 (f' := (43, [(2, .int x5), (1, .int v2), (0, .ref 3)], [.ref 3])) rfl ?_
  obtain ⟨v7, I7, J7, h7, hb⟩ := oc_call hb
  refine r_cv (z := m_Translator_statements) (As := []) (rest := []) rfl rfl rfl rfl rfl (x_ltn rfl) rfl rfl (hR_0  h7 ⟨_, rfl, ?_⟩)
  refine e_k 2 (f' := (49, [(2, .int x5), (1, .int v2), (0, .ref 3)], [.int 93, .ref 3])) rfl ?_
  obtain ⟨v8, I8, J8, h8, hb⟩ := oc_call hb
  refine r_cv (z := m_Translator_expect) (As := [.int 93]) (rest := []) rfl rfl rfl rfl rfl (x_ltn rfl) rfl rfl (E_Translator_expect  h8 ⟨_, rfl, ?_⟩)
  refine e_k 2 (f' := (54, [(2, .int x5), (1, .int v2), (0, .ref 3)], [.ref 3, .ref 3])) rfl ?_
  refine r_geti rfl (x_ltn rfl) rfl rfl ?_
  refine e_k 2 (f' := (59, [(2, .int x5), (1, .int v2), (0, .ref 3)], [.int ((I8 3 7) - 1), .ref 3])) rfl ?_
  obtain ⟨I9, eI9, hb⟩ := p_nm hb
  refine r_puti' rfl (x_ltn rfl) rfl rfl eI9 ?_
  refine e_k 1 (f' := (63, [(2, .int x5), (1, .int v2), (0, .ref 3)], [.ref 3])) rfl ?_
  obtain ⟨v10, I10, J10, h10, hb⟩ := oc_call hb
  refine r_cv (z := m_Translator_leave) (As := []) (rest := []) rfl rfl rfl rfl rfl (x_ltn rfl) rfl rfl (E_Translator_leave  h10 ⟨_, rfl, ?_⟩)
  refine e_k 1 (f' := (67, [(2, .int x5), (1, .int v2), (0, .ref 3)], [.ref 3])) rfl ?_
  refine r_getr rfl (x_ltn rfl) rfl rfl ?_
  refine r_geti rfl (x_ltn rfl) rfl rfl ?_
  refine e_k 1 (f' := (74, [(3, .int (I10 6 1)), (2, .int x5), (1, .int v2), (0, .ref 3)], [])) rfl ?_
  obtain ⟨x11, ex11, hb⟩ := p_nm hb
  rw [← ex11]
  refine e_k 5 (f' := (80, [(3, .int x11), (2, .int x5), (1, .int v2), (0, .ref 3)], [.int 0, .int 0, .int 0, .int 18, .ref 3])) rfl ?_
  obtain ⟨v12, I12, J12, h12, hb⟩ := oc_call hb
  refine r_cv (z := m_Translator_emit) (As := [.int 18, .int 0, .int 0, .int 0]) (rest := []) rfl rfl rfl rfl rfl (x_ltn rfl) rfl rfl (E_Translator_emit  h12 ⟨_, rfl, ?_⟩)
  refine e_k 1 (f' := (84, [(3, .int x11), (2, .int x5), (1, .int v2), (0, .ref 3)], [.ref 3])) rfl ?_
  refine r_getr rfl (x_ltn rfl) rfl rfl ?_
  refine e_k 4 (f' := (91, [(3, .int x11), (2, .int x5), (1, .int v2), (0, .ref 3)], [.int x5, .int (x11 + 1), .ref 6])) rfl ?_
  obtain ⟨v13, I13, J13, h13, hb⟩ := oc_call hb
  refine r_cv (z := m_Row_aim) (As := [.int (x11 + 1), .int x5]) (rest := []) rfl rfl rfl rfl rfl (x_ltn rfl) rfl rfl (E_Row_aim row_6 h13 ⟨_, rfl, ?_⟩)
  refine e_k 1 (f' := (95, [(3, .int x11), (2, .int x5), (1, .int v2), (0, .ref 3)], [.ref 3])) rfl ?_
  refine r_getr rfl (x_ltn rfl) rfl rfl ?_
  refine e_k 4 (f' := (102, [(3, .int x11), (2, .int x5), (1, .int v2), (0, .ref 3)], [.ref 3, .int (x5 + 2), .ref 6])) rfl ?_
  refine r_getr rfl (x_ltn rfl) rfl rfl ?_
  refine r_geti rfl (x_ltn rfl) rfl rfl ?_
  obtain ⟨v14, I14, J14, h14, hb⟩ := oc_call hb
  refine r_cv (z := m_Row_aim) (As := [.int (x5 + 2), .int (I13 6 1)]) (rest := []) rfl rfl rfl rfl rfl (x_ltn rfl) rfl rfl (E_Row_aim row_6 h14 ⟨_, rfl, ?_⟩)
  obtain ⟨rfl, rfl, rfl⟩ := s_inj hb
  exact e_r rfl rfl K
theorem E_RcT_all {L : Nat} {xs : Nat → Int32} {X : MX} : ∀ (fu d : Nat), (∀ {I : MI} {J : MJ} {v : Int32} {I' : MI} {J' : MJ} {P : am_R → am_H → Prop}, f_RcT fu 0 0 0 I J = some (v, I', J') → P (.inl (none)) (hX X I' J') → am_E (gG L xs) (d + fu + 4) m_Translator_statements (0, lv_args 0 [.ref 3], []) (hX X I J) P) ∧ (∀ {I : MI} {J : MJ} {v : Int32} {I' : MI} {J' : MJ} {P : am_R → am_H → Prop}, f_RcT fu 1 0 0 I J = some (v, I', J') → P (.inl (some (.int v))) (hX X I' J') → am_E (gG L xs) (d + fu + 4) m_Translator_statement (0, lv_args 0 [.ref 3], []) (hX X I J) P) ∧ (∀ {a0 : Int32} {a1 : Int32} {I : MI} {J : MJ} {v : Int32} {I' : MI} {J' : MJ} {P : am_R → am_H → Prop}, f_RcT fu 2 a0 a1 I J = some (v, I', J') → P (.inl (none)) (hX X I' J') → am_E (gG L xs) (d + fu + 4) m_Translator_variableStatement (0, lv_args 0 [.ref 3, .int a0, .int a1], []) (hX X I J) P) ∧ (∀ {a0 : Int32} {a1 : Int32} {I : MI} {J : MJ} {v : Int32} {I' : MI} {J' : MJ} {P : am_R → am_H → Prop}, f_RcT fu 3 a0 a1 I J = some (v, I', J') → P (.inl (none)) (hX X I' J') → am_E (gG L xs) (d + fu + 4) m_Translator_assign (0, lv_args 0 [.ref 3, .int a0, .int a1], []) (hX X I J) P) ∧ (∀ {a0 : Int32} {a1 : Int32} {I : MI} {J : MJ} {v : Int32} {I' : MI} {J' : MJ} {P : am_R → am_H → Prop}, f_RcT fu 4 a0 a1 I J = some (v, I', J') → P (.inl (none)) (hX X I' J') → am_E (gG L xs) (d + fu + 4) m_Translator_arrayStatement (0, lv_args 0 [.ref 3, .int a0, .int a1], []) (hX X I J) P) ∧ (∀ {a0 : Int32} {I : MI} {J : MJ} {v : Int32} {I' : MI} {J' : MJ} {P : am_R → am_H → Prop}, f_RcT fu 5 a0 0 I J = some (v, I', J') → P (.inl (none)) (hX X I' J') → am_E (gG L xs) (d + fu + 4) m_Translator_routine (0, lv_args 0 [.ref 3, .int a0], []) (hX X I J) P) ∧ (∀ {a0 : Int32} {a1 : Int32} {I : MI} {J : MJ} {v : Int32} {I' : MI} {J' : MJ} {P : am_R → am_H → Prop}, f_RcT fu 6 a0 a1 I J = some (v, I', J') → P (.inl (none)) (hX X I' J') → am_E (gG L xs) (d + fu + 4) m_Translator_tell (0, lv_args 0 [.ref 3, .int a0, .int a1], []) (hX X I J) P) ∧ (∀ {I : MI} {J : MJ} {v : Int32} {I' : MI} {J' : MJ} {P : am_R → am_H → Prop}, f_RcT fu 7 0 0 I J = some (v, I', J') → P (.inl (none)) (hX X I' J') → am_E (gG L xs) (d + fu + 4) m_Translator_choice (0, lv_args 0 [.ref 3], []) (hX X I J) P) ∧ (∀ {I : MI} {J : MJ} {v : Int32} {I' : MI} {J' : MJ} {P : am_R → am_H → Prop}, f_RcT fu 8 0 0 I J = some (v, I', J') → P (.inl (none)) (hX X I' J') → am_E (gG L xs) (d + fu + 4) m_Translator_loop (0, lv_args 0 [.ref 3], []) (hX X I J) P) ∧ (∀ {I : MI} {J : MJ} {v : Int32} {I' : MI} {J' : MJ} {P : am_R → am_H → Prop}, f_RcT fu 9 0 0 I J = some (v, I', J') → P (.inl (some (.int v))) (hX X I' J') → am_E (gG L xs) (d + fu + 4) m_Translator_expression (0, lv_args 0 [.ref 3], []) (hX X I J) P) ∧ (∀ {I : MI} {J : MJ} {v : Int32} {I' : MI} {J' : MJ} {P : am_R → am_H → Prop}, f_RcT fu 10 0 0 I J = some (v, I', J') → P (.inl (some (.int v))) (hX X I' J') → am_E (gG L xs) (d + fu + 4) m_Translator_product (0, lv_args 0 [.ref 3], []) (hX X I J) P) ∧ (∀ {I : MI} {J : MJ} {v : Int32} {I' : MI} {J' : MJ} {P : am_R → am_H → Prop}, f_RcT fu 11 0 0 I J = some (v, I', J') → P (.inl (some (.int v))) (hX X I' J') → am_E (gG L xs) (d + fu + 4) m_Translator_factor (0, lv_args 0 [.ref 3], []) (hX X I J) P) ∧ (∀ {I : MI} {J : MJ} {v : Int32} {I' : MI} {J' : MJ} {P : am_R → am_H → Prop}, f_RcT fu 12 0 0 I J = some (v, I', J') → P (.inl (some (.int v))) (hX X I' J') → am_E (gG L xs) (d + fu + 4) m_Translator_atom (0, lv_args 0 [.ref 3], []) (hX X I J) P) ∧ (∀ {I : MI} {J : MJ} {v : Int32} {I' : MI} {J' : MJ} {P : am_R → am_H → Prop}, f_RcT fu 13 0 0 I J = some (v, I', J') → P (.inl (none)) (hX X I' J') → am_E (gG L xs) (d + fu + 4) m_Translator_index (0, lv_args 0 [.ref 3], []) (hX X I J) P) := by
  intro fu
  induction fu with
  | zero =>
    intro d
    refine ⟨?_, ?_, ?_, ?_, ?_, ?_, ?_, ?_, ?_, ?_, ?_, ?_, ?_, ?_⟩ <;> (intros; rename_i hb _; cases hb)
  | succ fu ih =>
    intro d
    obtain ⟨h0, h1, h2, h3, h4, h5, h6, h7, h8, h9, h10, h11, h12, h13⟩ := ih d
    refine ⟨?_, ?_, ?_, ?_, ?_, ?_, ?_, ?_, ?_, ?_, ?_, ?_, ?_, ?_⟩
    · intro I J v I' J' P hb K
      rw [show d + (fu + 1) + 4 = d + fu + 4 + 1 from by omega]
      obtain ⟨_, I1, J1, h, hb⟩ := oc_call (show oc (f_Translator_statements (f_RcT fu)  I J) (fun _ I J => some ((0 : Int32), I, J)) = some (v, I', J') from hb)
      obtain ⟨rfl, rfl, rfl⟩ := s_inj hb
      exact E_Translator_statements (d := d + fu + 4) h0 h1 h2 h3 h4 h5 h6 h7 h8 h9 h10 h11 h12 h13 h K
    · intro I J v I' J' P hb K
      rw [show d + (fu + 1) + 4 = d + fu + 1 + 4 from by omega]
      exact E_Translator_statement (d := d + fu + 1) h0 h1 h2 h3 h4 h5 h6 h7 h8 h9 h10 h11 h12 h13 hb K
    · intro a0 a1 I J v I' J' P hb K
      rw [show d + (fu + 1) + 4 = d + fu + 1 + 4 from by omega]
      obtain ⟨_, I1, J1, h, hb⟩ := oc_call (show oc (f_Translator_variableStatement (f_RcT fu) a0 a1 I J) (fun _ I J => some ((0 : Int32), I, J)) = some (v, I', J') from hb)
      obtain ⟨rfl, rfl, rfl⟩ := s_inj hb
      exact E_Translator_variableStatement (d := d + fu + 1) h0 h1 h2 h3 h4 h5 h6 h7 h8 h9 h10 h11 h12 h13 h K
    · intro a0 a1 I J v I' J' P hb K
      rw [show d + (fu + 1) + 4 = d + fu + 2 + 3 from by omega]
      obtain ⟨_, I1, J1, h, hb⟩ := oc_call (show oc (f_Translator_assign (f_RcT fu) a0 a1 I J) (fun _ I J => some ((0 : Int32), I, J)) = some (v, I', J') from hb)
      obtain ⟨rfl, rfl, rfl⟩ := s_inj hb
      exact E_Translator_assign (d := d + fu + 2) h0 h1 h2 h3 h4 h5 h6 h7 h8 h9 h10 h11 h12 h13 h K
    · intro a0 a1 I J v I' J' P hb K
      rw [show d + (fu + 1) + 4 = d + fu + 1 + 4 from by omega]
      obtain ⟨_, I1, J1, h, hb⟩ := oc_call (show oc (f_Translator_arrayStatement (f_RcT fu) a0 a1 I J) (fun _ I J => some ((0 : Int32), I, J)) = some (v, I', J') from hb)
      obtain ⟨rfl, rfl, rfl⟩ := s_inj hb
      exact E_Translator_arrayStatement (d := d + fu + 1) h0 h1 h2 h3 h4 h5 h6 h7 h8 h9 h10 h11 h12 h13 h K
    · intro a0 I J v I' J' P hb K
      rw [show d + (fu + 1) + 4 = d + fu + 2 + 3 from by omega]
      obtain ⟨_, I1, J1, h, hb⟩ := oc_call (show oc (f_Translator_routine (f_RcT fu) a0 I J) (fun _ I J => some ((0 : Int32), I, J)) = some (v, I', J') from hb)
      obtain ⟨rfl, rfl, rfl⟩ := s_inj hb
      exact E_Translator_routine (d := d + fu + 2) h0 h1 h2 h3 h4 h5 h6 h7 h8 h9 h10 h11 h12 h13 h K
    · intro a0 a1 I J v I' J' P hb K
      rw [show d + (fu + 1) + 4 = d + fu + 2 + 3 from by omega]
      obtain ⟨_, I1, J1, h, hb⟩ := oc_call (show oc (f_Translator_tell (f_RcT fu) a0 a1 I J) (fun _ I J => some ((0 : Int32), I, J)) = some (v, I', J') from hb)
      obtain ⟨rfl, rfl, rfl⟩ := s_inj hb
      exact E_Translator_tell (d := d + fu + 2) h0 h1 h2 h3 h4 h5 h6 h7 h8 h9 h10 h11 h12 h13 h K
    · intro I J v I' J' P hb K
      rw [show d + (fu + 1) + 4 = d + fu + 1 + 4 from by omega]
      obtain ⟨_, I1, J1, h, hb⟩ := oc_call (show oc (f_Translator_choice (f_RcT fu)  I J) (fun _ I J => some ((0 : Int32), I, J)) = some (v, I', J') from hb)
      obtain ⟨rfl, rfl, rfl⟩ := s_inj hb
      exact E_Translator_choice (d := d + fu + 1) h0 h1 h2 h3 h4 h5 h6 h7 h8 h9 h10 h11 h12 h13 h K
    · intro I J v I' J' P hb K
      rw [show d + (fu + 1) + 4 = d + fu + 1 + 4 from by omega]
      obtain ⟨_, I1, J1, h, hb⟩ := oc_call (show oc (f_Translator_loop (f_RcT fu)  I J) (fun _ I J => some ((0 : Int32), I, J)) = some (v, I', J') from hb)
      obtain ⟨rfl, rfl, rfl⟩ := s_inj hb
      exact E_Translator_loop (d := d + fu + 1) h0 h1 h2 h3 h4 h5 h6 h7 h8 h9 h10 h11 h12 h13 h K
    · intro I J v I' J' P hb K
      rw [show d + (fu + 1) + 4 = d + fu + 3 + 2 from by omega]
      exact E_Translator_expression (d := d + fu + 3) h0 h1 h2 h3 h4 h5 h6 h7 h8 h9 h10 h11 h12 h13 hb K
    · intro I J v I' J' P hb K
      rw [show d + (fu + 1) + 4 = d + fu + 3 + 2 from by omega]
      exact E_Translator_product (d := d + fu + 3) h0 h1 h2 h3 h4 h5 h6 h7 h8 h9 h10 h11 h12 h13 hb K
    · intro I J v I' J' P hb K
      rw [show d + (fu + 1) + 4 = d + fu + 3 + 2 from by omega]
      exact E_Translator_factor (d := d + fu + 3) h0 h1 h2 h3 h4 h5 h6 h7 h8 h9 h10 h11 h12 h13 hb K
    · intro I J v I' J' P hb K
      rw [show d + (fu + 1) + 4 = d + fu + 2 + 3 from by omega]
      exact E_Translator_atom (d := d + fu + 2) h0 h1 h2 h3 h4 h5 h6 h7 h8 h9 h10 h11 h12 h13 hb K
    · intro I J v I' J' P hb K
      rw [show d + (fu + 1) + 4 = d + fu + 2 + 3 from by omega]
      obtain ⟨_, I1, J1, h, hb⟩ := oc_call (show oc (f_Translator_index (f_RcT fu)  I J) (fun _ I J => some ((0 : Int32), I, J)) = some (v, I', J') from hb)
      obtain ⟨rfl, rfl, rfl⟩ := s_inj hb
      exact E_Translator_index (d := d + fu + 2) h0 h1 h2 h3 h4 h5 h6 h7 h8 h9 h10 h11 h12 h13 h K
theorem E_RcT_0 {L : Nat} {xs : Nat → Int32} {X : MX} {d : Nat} : ∀ {I : MI} {J : MJ} {v : Int32} {I' : MI} {J' : MJ} {P : am_R → am_H → Prop}, f_RcT 200 0 0 0 I J = some (v, I', J') → P (.inl (none)) (hX X I' J') → am_E (gG L xs) (d + 204) m_Translator_statements (0, lv_args 0 [.ref 3], []) (hX X I J) P := (E_RcT_all 200 d).1
theorem E_RcT_1 {L : Nat} {xs : Nat → Int32} {X : MX} {d : Nat} : ∀ {I : MI} {J : MJ} {v : Int32} {I' : MI} {J' : MJ} {P : am_R → am_H → Prop}, f_RcT 200 1 0 0 I J = some (v, I', J') → P (.inl (some (.int v))) (hX X I' J') → am_E (gG L xs) (d + 204) m_Translator_statement (0, lv_args 0 [.ref 3], []) (hX X I J) P := (E_RcT_all 200 d).2.1
theorem E_RcT_2 {L : Nat} {xs : Nat → Int32} {X : MX} {d : Nat} : ∀ {a0 : Int32} {a1 : Int32} {I : MI} {J : MJ} {v : Int32} {I' : MI} {J' : MJ} {P : am_R → am_H → Prop}, f_RcT 200 2 a0 a1 I J = some (v, I', J') → P (.inl (none)) (hX X I' J') → am_E (gG L xs) (d + 204) m_Translator_variableStatement (0, lv_args 0 [.ref 3, .int a0, .int a1], []) (hX X I J) P := (E_RcT_all 200 d).2.2.1
theorem E_RcT_3 {L : Nat} {xs : Nat → Int32} {X : MX} {d : Nat} : ∀ {a0 : Int32} {a1 : Int32} {I : MI} {J : MJ} {v : Int32} {I' : MI} {J' : MJ} {P : am_R → am_H → Prop}, f_RcT 200 3 a0 a1 I J = some (v, I', J') → P (.inl (none)) (hX X I' J') → am_E (gG L xs) (d + 204) m_Translator_assign (0, lv_args 0 [.ref 3, .int a0, .int a1], []) (hX X I J) P := (E_RcT_all 200 d).2.2.2.1
theorem E_RcT_4 {L : Nat} {xs : Nat → Int32} {X : MX} {d : Nat} : ∀ {a0 : Int32} {a1 : Int32} {I : MI} {J : MJ} {v : Int32} {I' : MI} {J' : MJ} {P : am_R → am_H → Prop}, f_RcT 200 4 a0 a1 I J = some (v, I', J') → P (.inl (none)) (hX X I' J') → am_E (gG L xs) (d + 204) m_Translator_arrayStatement (0, lv_args 0 [.ref 3, .int a0, .int a1], []) (hX X I J) P := (E_RcT_all 200 d).2.2.2.2.1
theorem E_RcT_5 {L : Nat} {xs : Nat → Int32} {X : MX} {d : Nat} : ∀ {a0 : Int32} {I : MI} {J : MJ} {v : Int32} {I' : MI} {J' : MJ} {P : am_R → am_H → Prop}, f_RcT 200 5 a0 0 I J = some (v, I', J') → P (.inl (none)) (hX X I' J') → am_E (gG L xs) (d + 204) m_Translator_routine (0, lv_args 0 [.ref 3, .int a0], []) (hX X I J) P := (E_RcT_all 200 d).2.2.2.2.2.1
theorem E_RcT_6 {L : Nat} {xs : Nat → Int32} {X : MX} {d : Nat} : ∀ {a0 : Int32} {a1 : Int32} {I : MI} {J : MJ} {v : Int32} {I' : MI} {J' : MJ} {P : am_R → am_H → Prop}, f_RcT 200 6 a0 a1 I J = some (v, I', J') → P (.inl (none)) (hX X I' J') → am_E (gG L xs) (d + 204) m_Translator_tell (0, lv_args 0 [.ref 3, .int a0, .int a1], []) (hX X I J) P := (E_RcT_all 200 d).2.2.2.2.2.2.1
theorem E_RcT_7 {L : Nat} {xs : Nat → Int32} {X : MX} {d : Nat} : ∀ {I : MI} {J : MJ} {v : Int32} {I' : MI} {J' : MJ} {P : am_R → am_H → Prop}, f_RcT 200 7 0 0 I J = some (v, I', J') → P (.inl (none)) (hX X I' J') → am_E (gG L xs) (d + 204) m_Translator_choice (0, lv_args 0 [.ref 3], []) (hX X I J) P := (E_RcT_all 200 d).2.2.2.2.2.2.2.1
theorem E_RcT_8 {L : Nat} {xs : Nat → Int32} {X : MX} {d : Nat} : ∀ {I : MI} {J : MJ} {v : Int32} {I' : MI} {J' : MJ} {P : am_R → am_H → Prop}, f_RcT 200 8 0 0 I J = some (v, I', J') → P (.inl (none)) (hX X I' J') → am_E (gG L xs) (d + 204) m_Translator_loop (0, lv_args 0 [.ref 3], []) (hX X I J) P := (E_RcT_all 200 d).2.2.2.2.2.2.2.2.1
theorem E_RcT_9 {L : Nat} {xs : Nat → Int32} {X : MX} {d : Nat} : ∀ {I : MI} {J : MJ} {v : Int32} {I' : MI} {J' : MJ} {P : am_R → am_H → Prop}, f_RcT 200 9 0 0 I J = some (v, I', J') → P (.inl (some (.int v))) (hX X I' J') → am_E (gG L xs) (d + 204) m_Translator_expression (0, lv_args 0 [.ref 3], []) (hX X I J) P := (E_RcT_all 200 d).2.2.2.2.2.2.2.2.2.1
theorem E_RcT_10 {L : Nat} {xs : Nat → Int32} {X : MX} {d : Nat} : ∀ {I : MI} {J : MJ} {v : Int32} {I' : MI} {J' : MJ} {P : am_R → am_H → Prop}, f_RcT 200 10 0 0 I J = some (v, I', J') → P (.inl (some (.int v))) (hX X I' J') → am_E (gG L xs) (d + 204) m_Translator_product (0, lv_args 0 [.ref 3], []) (hX X I J) P := (E_RcT_all 200 d).2.2.2.2.2.2.2.2.2.2.1
theorem E_RcT_11 {L : Nat} {xs : Nat → Int32} {X : MX} {d : Nat} : ∀ {I : MI} {J : MJ} {v : Int32} {I' : MI} {J' : MJ} {P : am_R → am_H → Prop}, f_RcT 200 11 0 0 I J = some (v, I', J') → P (.inl (some (.int v))) (hX X I' J') → am_E (gG L xs) (d + 204) m_Translator_factor (0, lv_args 0 [.ref 3], []) (hX X I J) P := (E_RcT_all 200 d).2.2.2.2.2.2.2.2.2.2.2.1
theorem E_RcT_12 {L : Nat} {xs : Nat → Int32} {X : MX} {d : Nat} : ∀ {I : MI} {J : MJ} {v : Int32} {I' : MI} {J' : MJ} {P : am_R → am_H → Prop}, f_RcT 200 12 0 0 I J = some (v, I', J') → P (.inl (some (.int v))) (hX X I' J') → am_E (gG L xs) (d + 204) m_Translator_atom (0, lv_args 0 [.ref 3], []) (hX X I J) P := (E_RcT_all 200 d).2.2.2.2.2.2.2.2.2.2.2.2.1
theorem E_RcT_13 {L : Nat} {xs : Nat → Int32} {X : MX} {d : Nat} : ∀ {I : MI} {J : MJ} {v : Int32} {I' : MI} {J' : MJ} {P : am_R → am_H → Prop}, f_RcT 200 13 0 0 I J = some (v, I', J') → P (.inl (none)) (hX X I' J') → am_E (gG L xs) (d + 204) m_Translator_index (0, lv_args 0 [.ref 3], []) (hX X I J) P := (E_RcT_all 200 d).2.2.2.2.2.2.2.2.2.2.2.2.2
theorem E_Verifier_followPile_2 {X : MX} {r2 : Nat} {b2 : Nat} {m2 : Nat} (hR_r2 : isRw X r2 b2 m2) : ∀ (fu : Nat) {l2 : Int32} {I : MI} {J : MJ} {r : (Unit ⊕ (Int32))} {I' : MI} {J' : MJ}, f_Verifier_followPile_2 r2 b2 m2 fu l2 I J = some (r, I', J') → (∀ v, r = .inl v → P (.inl (none)) (hX X I' J')) → (∀ u, r = .inr u → am_E (gG L xs) (d + 4) m_Verifier_followPile (51, [(0, .ref 10), (2, .int u)], []) (hX X I' J') P) → am_E (gG L xs) (d + 4) m_Verifier_followPile (2, [(0, .ref 10), (1, .ref r2), (2, .int l2)], []) (hX X I J) P := by
  intro fu
  induction fu with
  | zero =>
    intros
    rename_i hb _ _
    cases hb
  | succ fu ih =>
    intro l2 I J r I' J' hb K1 K2
    unfold f_Verifier_followPile_2 at hb
    refine e_k 2 (f' := (4, [(0, .ref 10), (1, .ref r2), (2, .int l2)], [.ref r2, .int l2])) rfl ?_
    refine r_geti rfl hR_r2.1 hR_r2.2.1 rfl ?_
    refine e_k 1 (f' := (if (I r2 1) ≤ l2 then 64 else 10, [(0, .ref 10), (1, .ref r2), (2, .int l2)], [])) rfl ?_
    refine e_if (fun c1 => ?_) (fun c1 => ?_)
    · replace hb := i_pos c1 hb
      obtain ⟨rfl, rfl, rfl⟩ := s_inj hb
      exact e_r rfl rfl (K1 _ rfl)
    · replace hb := i_neg c1 hb
      refine e_k 1 (f' := (11, [(0, .ref 10), (1, .ref r2), (2, .int l2)], [.ref 10])) rfl ?_
      refine r_getr rfl (x_ltn rfl) rfl rfl ?_
      refine e_k 1 (f' := (15, [(0, .ref 10), (1, .ref r2), (2, .int l2)], [.int l2, .ref 11])) rfl ?_
      obtain ⟨v2, I2, J2, h2, hb⟩ := oc_call hb
      refine r_cs (z := m_Verifier_isMarked) (As := [.ref 11, .int l2]) (rest := []) rfl rfl rfl rfl rfl rfl (E_Verifier_isMarked ⟨(x_ltn rfl), rfl, rfl⟩ h2 ⟨_, rfl, ?_⟩)
      refine e_k 1 (f' := (if ¬ v2 = 0 then 24 else 21, [(0, .ref 10), (1, .ref r2), (2, .int l2)], [])) rfl ?_
      refine e_if (fun c3 => ?_) (fun c3 => ?_)
      · replace hb := i_pos c3 hb
        refine e_k 1 (f' := (25, [(0, .ref 10), (1, .ref r2), (2, .int l2)], [.ref 10])) rfl ?_
        refine r_getr rfl (x_ltn rfl) rfl rfl ?_
        refine e_k 1 (f' := (29, [(0, .ref 10), (1, .ref r2), (2, .int l2)], [.int l2, .ref 12])) rfl ?_
        obtain ⟨v4, I4, J4, h4, hb⟩ := oc_call hb
        refine r_cs (z := m_Verifier_isMarked) (As := [.ref 12, .int l2]) (rest := []) rfl rfl rfl rfl rfl rfl (E_Verifier_isMarked ⟨(x_ltn rfl), rfl, rfl⟩ h4 ⟨_, rfl, ?_⟩)
        refine e_k 1 (f' := (if v4 = 0 then 42 else 35, [(0, .ref 10), (1, .ref r2), (2, .int l2)], [])) rfl ?_
        refine e_if (fun c5 => ?_) (fun c5 => ?_)
        · replace hb := i_pos c5 hb
          refine e_k 3 (f' := (45, [(0, .ref 10), (1, .ref r2), (2, .int l2)], [.int l2, .ref r2, .ref 10])) rfl ?_
          obtain ⟨v6, I6, J6, h6, hb⟩ := oc_call hb
          refine r_cv (z := m_Verifier_fits) (As := [.ref r2, .int l2]) (rest := []) rfl rfl rfl rfl rfl (x_ltn rfl) rfl rfl (E_Verifier_fits hR_r2 h6 ⟨_, rfl, ?_⟩)
          refine e_k 1 (f' := (if ¬ v6 = 0 then 58 else 51, [(0, .ref 10), (1, .ref r2), (2, .int l2)], [])) rfl ?_
          refine e_if (fun c7 => ?_) (fun c7 => ?_)
          · replace hb := i_pos c7 hb
            refine e_k 2 (f' := (2, [(2, .int (l2 + 1)), (0, .ref 10), (1, .ref r2)], [])) rfl ?_
            refine e_sub (ls := [(0, .ref 10), (1, .ref r2), (2, .int (l2 + 1))]) rfl ⟨rfl, rfl, rfl, trivial⟩ ?_
            exact ih  hb K1 K2
          · replace hb := i_neg c7 hb
            refine e_sub (ls := [(0, .ref 10), (2, .int l2)]) rfl ⟨rfl, rfl, trivial⟩ ?_
            obtain ⟨rfl, rfl, rfl⟩ := s_inj hb
            exact K2 _ rfl
        · replace hb := i_neg c5 hb
          refine e_k 1 (f' := (36, [(0, .ref 10), (1, .ref r2), (2, .int l2)], [.ref 10])) rfl ?_
          refine r_geti rfl (x_ltn rfl) rfl rfl ?_
          refine e_k 1 (f' := (if 0 < (I4 10 3) then 51 else 42, [(0, .ref 10), (1, .ref r2), (2, .int l2)], [])) rfl ?_
          refine e_if (fun c8 => ?_) (fun c8 => ?_)
          · replace hb := i_pos c8 hb
            refine e_sub (ls := [(0, .ref 10), (2, .int l2)]) rfl ⟨rfl, rfl, trivial⟩ ?_
            obtain ⟨rfl, rfl, rfl⟩ := s_inj hb
            exact K2 _ rfl
          · replace hb := i_neg c8 hb
            refine e_k 3 (f' := (45, [(0, .ref 10), (1, .ref r2), (2, .int l2)], [.int l2, .ref r2, .ref 10])) rfl ?_
            obtain ⟨v9, I9, J9, h9, hb⟩ := oc_call hb
            refine r_cv (z := m_Verifier_fits) (As := [.ref r2, .int l2]) (rest := []) rfl rfl rfl rfl rfl (x_ltn rfl) rfl rfl (E_Verifier_fits hR_r2 h9 ⟨_, rfl, ?_⟩)
            refine e_k 1 (f' := (if ¬ v9 = 0 then 58 else 51, [(0, .ref 10), (1, .ref r2), (2, .int l2)], [])) rfl ?_
            refine e_if (fun c10 => ?_) (fun c10 => ?_)
            · replace hb := i_pos c10 hb
              refine e_k 2 (f' := (2, [(2, .int (l2 + 1)), (0, .ref 10), (1, .ref r2)], [])) rfl ?_
              refine e_sub (ls := [(0, .ref 10), (1, .ref r2), (2, .int (l2 + 1))]) rfl ⟨rfl, rfl, rfl, trivial⟩ ?_
              exact ih  hb K1 K2
            · replace hb := i_neg c10 hb
              refine e_sub (ls := [(0, .ref 10), (2, .int l2)]) rfl ⟨rfl, rfl, trivial⟩ ?_
              obtain ⟨rfl, rfl, rfl⟩ := s_inj hb
              exact K2 _ rfl
      · replace hb := i_neg c3 hb
        refine e_k 3 (f' := (2, [(2, .int (l2 + 1)), (0, .ref 10), (1, .ref r2)], [])) rfl ?_
        refine e_sub (ls := [(0, .ref 10), (1, .ref r2), (2, .int (l2 + 1))]) rfl ⟨rfl, rfl, rfl, trivial⟩ ?_
        exact ih  hb K1 K2
theorem E_Verifier_followPile {r2 : Nat} {b2 : Nat} {m2 : Nat} {X : MX} {I : MI} {J : MJ} {v : Unit} {I' : MI} {J' : MJ} (hR_r2 : isRw X r2 b2 m2) (hb : f_Verifier_followPile r2 b2 m2 I J = some (v, I', J')) (K : P (.inl (none)) (hX X I' J')) : am_E (gG L xs) (d + 4) m_Verifier_followPile (0, lv_args 0 [.ref 10, .ref r2], []) (hX X I J) P := by
  unfold f_Verifier_followPile at hb
  refine e_k 2 (f' := (2, [(2, .int 0), (0, .ref 10), (1, .ref r2)], [])) rfl ?_
  refine e_sub (ls := [(0, .ref 10), (1, .ref r2), (2, .int 0)]) rfl ⟨rfl, rfl, rfl, trivial⟩ ?_
  obtain ⟨q11, I11, J11, h11, hb⟩ := oc_call hb
  refine E_Verifier_followPile_2 hR_r2 gF  h11 (fun y11 ey11 => ?_) (fun u11 ey11 => ?_)
  · subst ey11
    replace hb := oe_l hb
    obtain ⟨rfl, rfl, rfl⟩ := s_inj hb
    exact K
  · subst ey11
    replace hb := oe_r hb
    refine e_k 3 (f' := (54, [(0, .ref 10), (2, .int u11)], [.int u11, .int 3, .ref 10])) rfl ?_
    obtain ⟨v12, I12, J12, h12, hb⟩ := oc_call hb
    refine r_cv (z := m_Verifier_refuse) (As := [.int 3, .int u11]) (rest := []) rfl rfl rfl rfl rfl (x_ltn rfl) rfl rfl (E_Verifier_refuse  h12 ⟨_, rfl, ?_⟩)
    obtain ⟨rfl, rfl, rfl⟩ := s_inj hb
    exact e_r rfl rfl K
theorem E_Sh_compile {X : MX} {I : MI} {J : MJ} {v : (Int32 ⊕ Nat)} {I' : MI} {J' : MJ} (hb : f_Sh_compile  I J = some (v, I', J')) (K1 : ∀ u, v = .inl u → P (.inl (some (.int u))) (hX X I' J')) (K2 : ∀ x, v = .inr x → P (.inr x) (am_thr (hX X I' J'))) : am_E (gG L xs) (d + 205) m_Sh_compile (0, lv_args 0 [.ref 0], []) (hX X I J) P := by
  unfold f_Sh_compile at hb
  refine e_k 1 (f' := (1, [(0, .ref 0)], [.ref 0])) rfl ?_
  refine r_getr rfl (x_ltn rfl) rfl rfl ?_
  refine e_k 1 (f' := (5, [(0, .ref 0)], [.ref 0, .ref 3])) rfl ?_
  refine r_getr rfl (x_ltn rfl) rfl rfl ?_
  refine r_geti rfl (x_ltn rfl) rfl rfl ?_
  obtain ⟨v1, I1, J1, h1, hb⟩ := oc_call hb
  refine r_cv (z := m_Translator_startAnew) (As := [.int (I 14 6)]) (rest := []) rfl rfl rfl rfl rfl (x_ltn rfl) rfl rfl (E_Translator_startAnew  h1 ⟨_, rfl, ?_⟩)
  refine e_k 1 (f' := (15, [(0, .ref 0)], [.ref 0])) rfl ?_
  refine r_getr rfl (x_ltn rfl) rfl rfl ?_
  obtain ⟨v2, I2, J2, h2, hb⟩ := oc_call hb
  refine r_cv (z := m_Translator_statements) (As := []) (rest := []) rfl rfl rfl rfl rfl (x_ltn rfl) rfl rfl (E_RcT_0  h2 ⟨_, rfl, ?_⟩)
  refine e_k 1 (f' := (22, [(0, .ref 0)], [.ref 0])) rfl ?_
  refine r_getr rfl (x_ltn rfl) rfl rfl ?_
  obtain ⟨v3, I3, J3, h3, hb⟩ := oc_call hb
  refine r_cv (z := m_Translator_finish) (As := []) (rest := []) rfl rfl rfl rfl rfl (x_ltn rfl) rfl rfl (E_Translator_finish  h3 ⟨_, rfl, ?_⟩)
  refine e_k 1 (f' := (29, [(0, .ref 0)], [.ref 0])) rfl ?_
  refine r_getr rfl (x_ltn rfl) rfl rfl ?_
  refine r_getr rfl (x_ltn rfl) rfl rfl ?_
  obtain ⟨v4, I4, J4, h4, hb⟩ := oc_call hb
  refine r_cv (z := m_Row_wipe) (As := []) (rest := []) rfl rfl rfl rfl rfl (x_ltn rfl) rfl rfl (E_Row_wipe row_4 h4 ⟨_, rfl, ?_⟩)
  refine e_k 2 (f' := (40, [(0, .ref 0)], [.ref 0, .ref 0])) rfl ?_
  refine r_getr rfl (x_ltn rfl) rfl rfl ?_
  refine r_geti rfl (x_ltn rfl) rfl rfl ?_
  obtain ⟨I5, eI5, hb⟩ := p_nm hb
  refine r_puti' rfl (x_ltn rfl) rfl rfl eI5 ?_
  refine e_k 2 (f' := (51, [(0, .ref 0)], [.ref 0, .ref 0])) rfl ?_
  refine r_getr rfl (x_ltn rfl) rfl rfl ?_
  refine r_geti rfl (x_ltn rfl) rfl rfl ?_
  obtain ⟨I6, eI6, hb⟩ := p_nm hb
  refine r_puti' rfl (x_ltn rfl) rfl rfl eI6 ?_
  refine e_k 1 (f' := (61, [(0, .ref 0)], [.ref 0])) rfl ?_
  refine r_geti rfl (x_ltn rfl) rfl rfl ?_
  refine e_k 1 (f' := (if (I6 0 6) = 0 then 77 else 67, [(0, .ref 0)], [])) rfl ?_
  refine e_if (fun c7 => ?_) (fun c7 => ?_)
  · replace hb := i_pos c7 hb
    refine e_k 1 (f' := (78, [(0, .ref 0)], [.ref 0])) rfl ?_
    refine r_getr rfl (x_ltn rfl) rfl rfl ?_
    refine e_k 1 (f' := (82, [(0, .ref 0)], [.ref 0, .ref 14])) rfl ?_
    refine r_getr rfl (x_ltn rfl) rfl rfl ?_
    refine r_getr rfl (x_ltn rfl) rfl rfl ?_
    obtain ⟨v8, I8, J8, h8, hb⟩ := oc_call hb
    refine r_cv (z := m_Hall_take) (As := [.ref 6]) (rest := []) rfl rfl rfl rfl rfl (x_ltn rfl) rfl rfl (E_Hall_take row_6 h8 ⟨_, rfl, ?_⟩)
    refine e_k 1 (f' := (92, [(0, .ref 0)], [.ref 0])) rfl ?_
    refine r_getr rfl (x_ltn rfl) rfl rfl ?_
    refine r_getr rfl (x_ltn rfl) rfl rfl ?_
    refine r_geti rfl (x_ltn rfl) rfl rfl ?_
    obtain ⟨rfl, rfl, rfl⟩ := s_inj hb
    exact e_r rfl rfl (K1 _ rfl)
  · replace hb := i_neg c7 hb
    obtain ⟨rfl, rfl, rfl⟩ := s_inj hb
    exact e_thr rfl (Nat.ble_eq_true_of_le (by omega)) (K2 _ rfl)
theorem E_Sh_begin {X : MX} {I : MI} {J : MJ} {v : Int32} {I' : MI} {J' : MJ} (hb : f_Sh_begin  I J = some (v, I', J')) (K : P (.inl (some (.int v))) (hX X I' J')) : am_E (gG L xs) (d + 4) m_Sh_begin (0, lv_args 0 [.ref 0], []) (hX X I J) P := by
  unfold f_Sh_begin at hb
  refine e_k 1 (f' := (1, [(0, .ref 0)], [.ref 0])) rfl ?_
  refine r_getr rfl (x_ltn rfl) rfl rfl ?_
  refine r_getr rfl (x_ltn rfl) rfl rfl ?_
  refine r_geti rfl (x_ltn rfl) rfl rfl ?_
  refine e_k 1 (f' := (if ¬ (I 15 1) = 0 then 15 else 13, [(0, .ref 0)], [])) rfl ?_
  refine e_if (fun c1 => ?_) (fun c1 => ?_)
  · replace hb := i_pos c1 hb
    refine e_k 1 (f' := (16, [(0, .ref 0)], [.ref 0])) rfl ?_
    refine r_getr rfl (x_ltn rfl) rfl rfl ?_
    obtain ⟨v2, I2, J2, h2, hb⟩ := oc_call hb
    refine r_cv (z := m_Hall_startAnew) (As := []) (rest := []) rfl rfl rfl rfl rfl (x_ltn rfl) rfl rfl (E_Hall_startAnew  h2 ⟨_, rfl, ?_⟩)
    refine e_k 1 (f' := (23, [(0, .ref 0)], [.int 1])) rfl ?_
    obtain ⟨rfl, rfl, rfl⟩ := s_inj hb
    exact e_r rfl rfl K
  · replace hb := i_neg c1 hb
    refine e_k 1 (f' := (14, [(0, .ref 0)], [.int 0])) rfl ?_
    obtain ⟨rfl, rfl, rfl⟩ := s_inj hb
    exact e_r rfl rfl K
theorem E_Hall_act {w2 : Nat} {X : MX} {I : MI} {J : MJ} {v : Int32} {X' : MX} {I' : MI} {J' : MJ} (hw_w2 : w2 < 4) (hb : f_Hall_act w2 X I J = some (v, X', I', J')) (K : P (.inl (some (.int v))) (hX X' I' J')) : am_E (gG L xs) (d + 5) m_Hall_act (0, lv_args 0 [.ref 14, .ref (18 + 21 * w2)], []) (hX X I J) P := by
  unfold f_Hall_act at hb
  refine e_k 1 (f' := (1, [(0, .ref 14), (1, .ref (18 + 21 * w2))], [.ref 14])) rfl ?_
  refine r_getr rfl (x_ltn rfl) rfl rfl ?_
  refine e_k 1 (f' := (5, [(0, .ref 14), (1, .ref (18 + 21 * w2))], [.ref (18 + 21 * w2), .ref 15])) rfl ?_
  refine r_geti rfl (x_ltp hw_w2 (by decide)) (sS_p0 hw_w2) rfl ?_
  obtain ⟨v1, I1, J1, h1, hb⟩ := oc_call hb
  refine r_cv (z := m_Row_at) (As := [.int (I (18 + 21 * w2) 8)]) (rest := []) rfl rfl rfl rfl rfl (x_ltn rfl) rfl rfl (E_Row_at row_15 h1 ⟨_, rfl, ?_⟩)
  refine e_k 4 (f' := (if v1 = 15 then 24 else 18, [(2, .int v1), (0, .ref 14), (1, .ref (18 + 21 * w2))], [])) rfl ?_
  refine e_if (fun c2 => ?_) (fun c2 => ?_)
  · replace hb := i_pos c2 hb
    refine e_k 2 (f' := (26, [(2, .int v1), (0, .ref 14), (1, .ref (18 + 21 * w2))], [.int v1, .ref (18 + 21 * w2)])) rfl ?_
    obtain ⟨v3, I3, J3, h3, hb⟩ := oc_call hb
    refine r_cs (z := m_Hall_isInCheck) (As := [.ref (18 + 21 * w2), .int v1]) (rest := []) rfl rfl rfl rfl rfl rfl (E_Hall_isInCheck hw_w2 h3 ⟨_, rfl, ?_⟩)
    refine e_k 1 (f' := (if v3 = 0 then 40 else 32, [(2, .int v1), (0, .ref 14), (1, .ref (18 + 21 * w2))], [])) rfl ?_
    refine e_if (fun c4 => ?_) (fun c4 => ?_)
    · replace hb := i_pos c4 hb
      refine e_k 3 (f' := (43, [(2, .int v1), (0, .ref 14), (1, .ref (18 + 21 * w2))], [.int v1, .ref (18 + 21 * w2), .ref 14])) rfl ?_
      obtain ⟨v5, X5, I5, J5, h5, hb⟩ := ob_call hb
      refine r_cv (z := m_Hall_show) (As := [.ref (18 + 21 * w2), .int v1]) (rest := []) rfl rfl rfl rfl rfl (x_ltn rfl) rfl rfl (E_Hall_show hw_w2 h5 ⟨_, rfl, ?_⟩)
      obtain ⟨rfl, rfl, rfl, rfl⟩ := s_inx hb
      exact e_r rfl rfl K
    · replace hb := i_neg c4 hb
      refine e_k 2 (f' := (34, [(2, .int v1), (0, .ref 14), (1, .ref (18 + 21 * w2))], [.ref (18 + 21 * w2), .ref 14])) rfl ?_
      obtain ⟨v6, I6, J6, h6, hb⟩ := oc_call hb
      refine r_cv (z := m_Hall_checkStep) (As := [.ref (18 + 21 * w2)]) (rest := []) rfl rfl rfl rfl rfl (x_ltn rfl) rfl rfl (E_Hall_checkStep hw_w2 h6 ⟨_, rfl, ?_⟩)
      refine e_k 1 (f' := (46, [(2, .int v1), (0, .ref 14), (1, .ref (18 + 21 * w2))], [.int v6])) rfl ?_
      obtain ⟨rfl, rfl, rfl, rfl⟩ := s_inx hb
      exact e_r rfl rfl K
  · replace hb := i_neg c2 hb
    refine e_k 3 (f' := (if ¬ v1 = 16 then 47 else 24, [(2, .int v1), (0, .ref 14), (1, .ref (18 + 21 * w2))], [])) rfl ?_
    refine e_if (fun c7 => ?_) (fun c7 => ?_)
    · replace hb := i_pos c7 hb
      refine e_k 1 (f' := (48, [(2, .int v1), (0, .ref 14), (1, .ref (18 + 21 * w2))], [.ref (18 + 21 * w2)])) rfl ?_
      refine r_geti rfl (x_ltp hw_w2 (by decide)) (sS_p0 hw_w2) rfl ?_
      refine e_k 1 (f' := (if ¬ (I1 (18 + 21 * w2) 9) = 0 then 64 else 54, [(2, .int v1), (0, .ref 14), (1, .ref (18 + 21 * w2))], [])) rfl ?_
      obtain ⟨v9, X9, I9, J9, h9, hb⟩ := ob_call hb
      have Kj9 : am_E (gG L xs) (d + 5) m_Hall_act (64, [(0, .ref 14), (1, .ref (18 + 21 * w2)), (2, .int v1)], []) (hX X9 I9 J9) P := by
        refine e_k 1 (f' := (65, [(0, .ref 14), (1, .ref (18 + 21 * w2)), (2, .int v1)], [.ref (18 + 21 * w2)])) rfl ?_
        refine r_geti rfl (x_ltp hw_w2 (by decide)) (sS_p0 hw_w2) rfl ?_
        refine e_k 1 (f' := (if (I9 (18 + 21 * w2) 12) = 0 then 78 else 71, [(0, .ref 14), (1, .ref (18 + 21 * w2)), (2, .int v1)], [])) rfl ?_
        refine e_if (fun c13 => ?_) (fun c13 => ?_)
        · replace hb := i_pos c13 hb
          refine e_k 3 (f' := (81, [(0, .ref 14), (1, .ref (18 + 21 * w2)), (2, .int v1)], [.int v1, .ref (18 + 21 * w2), .ref 14])) rfl ?_
          obtain ⟨v14, I14, J14, h14, hb⟩ := oc_call hb
          refine r_cv (z := m_Hall_isShared) (As := [.ref (18 + 21 * w2), .int v1]) (rest := []) rfl rfl rfl rfl rfl (x_ltn rfl) rfl rfl (E_Hall_isShared hw_w2 h14 ⟨_, rfl, ?_⟩)
          refine e_k 1 (f' := (if v14 = 0 then 94 else 87, [(0, .ref 14), (1, .ref (18 + 21 * w2)), (2, .int v1)], [])) rfl ?_
          refine e_if (fun c15 => ?_) (fun c15 => ?_)
          · replace hb := i_pos c15 hb
            refine e_k 3 (f' := (97, [(0, .ref 14), (1, .ref (18 + 21 * w2)), (2, .int v1)], [.int v1, .ref (18 + 21 * w2), .ref 14])) rfl ?_
            obtain ⟨v16, I16, J16, h16, hb⟩ := oc_call hb
            refine r_cv (z := m_Hall_work) (As := [.ref (18 + 21 * w2), .int v1]) (rest := []) rfl rfl rfl rfl rfl (x_ltn rfl) rfl rfl (E_Hall_work hw_w2 h16 ⟨_, rfl, ?_⟩)
            refine e_k 1 (f' := (101, [(0, .ref 14), (1, .ref (18 + 21 * w2)), (2, .int v1)], [.int 1])) rfl ?_
            obtain ⟨rfl, rfl, rfl, rfl⟩ := s_inx hb
            exact e_r rfl rfl K
          · replace hb := i_neg c15 hb
            refine e_k 3 (f' := (90, [(0, .ref 14), (1, .ref (18 + 21 * w2)), (2, .int v1)], [.int v1, .ref (18 + 21 * w2), .ref 14])) rfl ?_
            obtain ⟨v17, I17, J17, h17, hb⟩ := oc_call hb
            refine r_cv (z := m_Hall_exchange) (As := [.ref (18 + 21 * w2), .int v1]) (rest := []) rfl rfl rfl rfl rfl (x_ltn rfl) rfl rfl (E_Hall_exchange hw_w2 h17 ⟨_, rfl, ?_⟩)
            obtain ⟨rfl, rfl, rfl, rfl⟩ := s_inx hb
            exact e_r rfl rfl K
        · replace hb := i_neg c13 hb
          refine e_k 2 (f' := (73, [(0, .ref 14), (1, .ref (18 + 21 * w2)), (2, .int v1)], [.int 4, .ref (18 + 21 * w2)])) rfl ?_
          obtain ⟨I18, eI18, hb⟩ := p_nm hb
          refine r_puti' rfl (x_ltp hw_w2 (by decide)) (sS_p0 hw_w2) rfl eI18 ?_
          refine e_k 1 (f' := (77, [(0, .ref 14), (1, .ref (18 + 21 * w2)), (2, .int v1)], [.int 4])) rfl ?_
          obtain ⟨rfl, rfl, rfl, rfl⟩ := s_inx hb
          exact e_r rfl rfl K
      clear hb
      refine e_if (fun c10 => ?_) (fun c10 => ?_)
      · replace h9 := i_pos c10 h9
        refine e_sub (ls := [(0, .ref 14), (1, .ref (18 + 21 * w2)), (2, .int v1)]) rfl ⟨rfl, rfl, rfl, trivial⟩ ?_
        obtain ⟨rfl, rfl, rfl, rfl⟩ := s_inx h9
        exact Kj9
      · replace h9 := i_neg c10 h9
        refine e_k 4 (f' := (58, [(2, .int v1), (0, .ref 14), (1, .ref (18 + 21 * w2))], [.int v1, .ref (18 + 21 * w2), .ref 14, .ref (18 + 21 * w2)])) rfl ?_
        obtain ⟨v11, I11, J11, h11, h9⟩ := oc_call h9
        refine r_cv (z := m_Hall_lackFor) (As := [.ref (18 + 21 * w2), .int v1]) (rest := [.ref (18 + 21 * w2)]) rfl rfl rfl rfl rfl (x_ltn rfl) rfl rfl (E_Hall_lackFor hw_w2 h11 ⟨_, rfl, ?_⟩)
        obtain ⟨I12, eI12, h9⟩ := p_nm h9
        refine r_puti' rfl (x_ltp hw_w2 (by decide)) (sS_p0 hw_w2) rfl eI12 ?_
        refine e_sub (ls := [(0, .ref 14), (1, .ref (18 + 21 * w2)), (2, .int v1)]) rfl ⟨rfl, rfl, rfl, trivial⟩ ?_
        obtain ⟨rfl, rfl, rfl, rfl⟩ := s_inx h9
        exact Kj9
    · replace hb := i_neg c7 hb
      refine e_k 2 (f' := (26, [(2, .int v1), (0, .ref 14), (1, .ref (18 + 21 * w2))], [.int v1, .ref (18 + 21 * w2)])) rfl ?_
      obtain ⟨v19, I19, J19, h19, hb⟩ := oc_call hb
      refine r_cs (z := m_Hall_isInCheck) (As := [.ref (18 + 21 * w2), .int v1]) (rest := []) rfl rfl rfl rfl rfl rfl (E_Hall_isInCheck hw_w2 h19 ⟨_, rfl, ?_⟩)
      refine e_k 1 (f' := (if v19 = 0 then 40 else 32, [(2, .int v1), (0, .ref 14), (1, .ref (18 + 21 * w2))], [])) rfl ?_
      refine e_if (fun c20 => ?_) (fun c20 => ?_)
      · replace hb := i_pos c20 hb
        refine e_k 3 (f' := (43, [(2, .int v1), (0, .ref 14), (1, .ref (18 + 21 * w2))], [.int v1, .ref (18 + 21 * w2), .ref 14])) rfl ?_
        obtain ⟨v21, X21, I21, J21, h21, hb⟩ := ob_call hb
        refine r_cv (z := m_Hall_show) (As := [.ref (18 + 21 * w2), .int v1]) (rest := []) rfl rfl rfl rfl rfl (x_ltn rfl) rfl rfl (E_Hall_show hw_w2 h21 ⟨_, rfl, ?_⟩)
        obtain ⟨rfl, rfl, rfl, rfl⟩ := s_inx hb
        exact e_r rfl rfl K
      · replace hb := i_neg c20 hb
        refine e_k 2 (f' := (34, [(2, .int v1), (0, .ref 14), (1, .ref (18 + 21 * w2))], [.ref (18 + 21 * w2), .ref 14])) rfl ?_
        obtain ⟨v22, I22, J22, h22, hb⟩ := oc_call hb
        refine r_cv (z := m_Hall_checkStep) (As := [.ref (18 + 21 * w2)]) (rest := []) rfl rfl rfl rfl rfl (x_ltn rfl) rfl rfl (E_Hall_checkStep hw_w2 h22 ⟨_, rfl, ?_⟩)
        refine e_k 1 (f' := (46, [(2, .int v1), (0, .ref 14), (1, .ref (18 + 21 * w2))], [.int v22])) rfl ?_
        obtain ⟨rfl, rfl, rfl, rfl⟩ := s_inx hb
        exact e_r rfl rfl K
theorem E_Verifier_lets_2 {X : MX} {r2 : Nat} {b2 : Nat} {m2 : Nat} {p3 : Int32} (hR_r2 : isRw X r2 b2 m2) : ∀ (fu : Nat) {l2 : Int32} {l3 : Int32} {I : MI} {J : MJ} {r : (Unit)} {I' : MI} {J' : MJ}, f_Verifier_lets_2 r2 b2 m2 p3 fu l2 l3 I J = some (r, I', J') → am_E (gG L xs) d m_Verifier_lets (29, [(0, .ref 10), (1, .ref r2), (2, .int l2)], []) (hX X I' J') P → am_E (gG L xs) d m_Verifier_lets (2, [(0, .ref 10), (1, .ref r2), (2, .int l2), (3, .int l3)], []) (hX X I J) P := by
  intro fu
  induction fu with
  | zero =>
    intros
    rename_i hb _
    cases hb
  | succ fu ih =>
    intro l2 l3 I J r I' J' hb K
    unfold f_Verifier_lets_2 at hb
    refine e_k 3 (f' := (if 2000 ≤ l3 then 29 else 9, [(0, .ref 10), (1, .ref r2), (2, .int l2), (3, .int l3)], [])) rfl ?_
    refine e_if (fun c1 => ?_) (fun c1 => ?_)
    · replace hb := i_pos c1 hb
      refine e_sub (ls := [(0, .ref 10), (1, .ref r2), (2, .int l2)]) rfl ⟨rfl, rfl, rfl, trivial⟩ ?_
      obtain ⟨rfl, rfl, rfl⟩ := s_inj hb
      exact K
    · replace hb := i_neg c1 hb
      refine e_k 1 (f' := (10, [(0, .ref 10), (1, .ref r2), (2, .int l2), (3, .int l3)], [.ref 10])) rfl ?_
      refine r_getr rfl (x_ltn rfl) rfl rfl ?_
      refine e_k 2 (f' := (15, [(0, .ref 10), (1, .ref r2), (2, .int l2), (3, .int l3)], [.int 0, .int l3, .ref 11])) rfl ?_
      obtain ⟨o2, hb⟩ := ob_in hb
      obtain ⟨I3, eI3, hb⟩ := p_nm hb
      refine r_zast' rfl (x_ltn rfl) rfl o2 eI3 ?_
      refine e_k 1 (f' := (17, [(0, .ref 10), (1, .ref r2), (2, .int l2), (3, .int l3)], [.ref 10])) rfl ?_
      refine r_getr rfl (x_ltn rfl) rfl rfl ?_
      refine e_k 2 (f' := (22, [(0, .ref 10), (1, .ref r2), (2, .int l2), (3, .int l3)], [.int 0, .int l3, .ref 12])) rfl ?_
      obtain ⟨o4, hb⟩ := ob_in hb
      obtain ⟨I5, eI5, hb⟩ := p_nm hb
      refine r_zast' rfl (x_ltn rfl) rfl o4 eI5 ?_
      refine e_k 2 (f' := (2, [(3, .int (l3 + 1)), (0, .ref 10), (1, .ref r2), (2, .int l2)], [])) rfl ?_
      refine e_sub (ls := [(0, .ref 10), (1, .ref r2), (2, .int l2), (3, .int (l3 + 1))]) rfl ⟨rfl, rfl, rfl, rfl, trivial⟩ ?_
      exact ih  hb K
theorem E_Verifier_lets {r2 : Nat} {b2 : Nat} {m2 : Nat} {p3 : Int32} {X : MX} {I : MI} {J : MJ} {v : Int32} {I' : MI} {J' : MJ} (hR_r2 : isRw X r2 b2 m2) (hb : f_Verifier_lets r2 b2 m2 p3 I J = some (v, I', J')) (K : P (.inl (some (.int v))) (hX X I' J')) : am_E (gG L xs) (d + 5) m_Verifier_lets (0, lv_args 0 [.ref 10, .ref r2, .int p3], []) (hX X I J) P := by
  unfold f_Verifier_lets at hb
  refine e_k 2 (f' := (2, [(3, .int 0), (0, .ref 10), (1, .ref r2), (2, .int p3)], [])) rfl ?_
  refine e_sub (ls := [(0, .ref 10), (1, .ref r2), (2, .int p3), (3, .int 0)]) rfl ⟨rfl, rfl, rfl, rfl, trivial⟩ ?_
  obtain ⟨u6, I6, J6, h6, hb⟩ := oc_call hb
  refine E_Verifier_lets_2 hR_r2 gF  h6 ?_
  refine e_k 2 (f' := (31, [(0, .ref 10), (1, .ref r2), (2, .int p3)], [.int 0, .ref 10])) rfl ?_
  obtain ⟨I7, eI7, hb⟩ := p_nm hb
  refine r_puti' rfl (x_ltn rfl) rfl rfl eI7 ?_
  refine e_k 2 (f' := (36, [(0, .ref 10), (1, .ref r2), (2, .int p3)], [.int 0, .ref 10])) rfl ?_
  obtain ⟨I8, eI8, hb⟩ := p_nm hb
  refine r_puti' rfl (x_ltn rfl) rfl rfl eI8 ?_
  refine e_k 2 (f' := (41, [(0, .ref 10), (1, .ref r2), (2, .int p3)], [.int 0, .ref 10])) rfl ?_
  obtain ⟨I9, eI9, hb⟩ := p_nm hb
  refine r_puti' rfl (x_ltn rfl) rfl rfl eI9 ?_
  refine e_k 2 (f' := (46, [(0, .ref 10), (1, .ref r2), (2, .int p3)], [.int 0, .ref 10])) rfl ?_
  obtain ⟨I10, eI10, hb⟩ := p_nm hb
  refine r_puti' rfl (x_ltn rfl) rfl rfl eI10 ?_
  refine e_k 3 (f' := (52, [(0, .ref 10), (1, .ref r2), (2, .int p3)], [.int p3, .ref r2, .ref 10])) rfl ?_
  obtain ⟨v11, I11, J11, h11, hb⟩ := oc_call hb
  refine r_cv (z := m_Verifier_findOperations) (As := [.ref r2, .int p3]) (rest := []) rfl rfl rfl rfl rfl (x_ltn rfl) rfl rfl (E_Verifier_findOperations hR_r2 h11 ⟨_, rfl, ?_⟩)
  refine e_k 1 (f' := (56, [(0, .ref 10), (1, .ref r2), (2, .int p3)], [.ref 10])) rfl ?_
  refine r_geti rfl (x_ltn rfl) rfl rfl ?_
  refine e_k 1 (f' := (if ¬ (I11 10 5) = 0 then 67 else 62, [(0, .ref 10), (1, .ref r2), (2, .int p3)], [])) rfl ?_
  obtain ⟨v13, I13, J13, h13, hb⟩ := oc_call hb
  have Kj13 : am_E (gG L xs) (d + 5) m_Verifier_lets (67, [(0, .ref 10), (1, .ref r2)], []) (hX X I13 J13) P := by
    refine e_k 1 (f' := (68, [(0, .ref 10), (1, .ref r2)], [.ref 10])) rfl ?_
    refine r_geti rfl (x_ltn rfl) rfl rfl ?_
    refine e_k 1 (f' := (if ¬ (I13 10 5) = 0 then 79 else 74, [(0, .ref 10), (1, .ref r2)], [])) rfl ?_
    obtain ⟨v17, I17, J17, h17, hb⟩ := oc_call hb
    have Kj17 : am_E (gG L xs) (d + 5) m_Verifier_lets (79, [(0, .ref 10)], []) (hX X I17 J17) P := by
      refine e_k 1 (f' := (80, [(0, .ref 10)], [.ref 10])) rfl ?_
      refine r_geti rfl (x_ltn rfl) rfl rfl ?_
      refine e_k 1 (f' := (if ¬ (I17 10 5) = 0 then 90 else 86, [(0, .ref 10)], [])) rfl ?_
      refine e_if (fun c20 => ?_) (fun c20 => ?_)
      · replace hb := i_pos c20 hb
        refine e_k 1 (f' := (91, [(0, .ref 10)], [.int 0])) rfl ?_
        obtain ⟨rfl, rfl, rfl⟩ := s_inj hb
        exact e_r rfl rfl K
      · replace hb := i_neg c20 hb
        refine e_k 2 (f' := (91, [(0, .ref 10)], [.int 1])) rfl ?_
        obtain ⟨rfl, rfl, rfl⟩ := s_inj hb
        exact e_r rfl rfl K
    clear hb
    refine e_if (fun c18 => ?_) (fun c18 => ?_)
    · replace h17 := i_pos c18 h17
      refine e_sub (ls := [(0, .ref 10)]) rfl ⟨rfl, trivial⟩ ?_
      obtain ⟨rfl, rfl, rfl⟩ := s_inj h17
      exact Kj17
    · replace h17 := i_neg c18 h17
      refine e_k 2 (f' := (76, [(0, .ref 10), (1, .ref r2)], [.ref r2, .ref 10])) rfl ?_
      obtain ⟨v19, I19, J19, h19, h17⟩ := oc_call h17
      refine r_cv (z := m_Verifier_followPile) (As := [.ref r2]) (rest := []) rfl rfl rfl rfl rfl (x_ltn rfl) rfl rfl (E_Verifier_followPile hR_r2 h19 ⟨_, rfl, ?_⟩)
      refine e_sub (ls := [(0, .ref 10)]) rfl ⟨rfl, trivial⟩ ?_
      obtain ⟨rfl, rfl, rfl⟩ := s_inj h17
      exact Kj17
  clear hb
  refine e_if (fun c14 => ?_) (fun c14 => ?_)
  · replace h13 := i_pos c14 h13
    refine e_sub (ls := [(0, .ref 10), (1, .ref r2)]) rfl ⟨rfl, rfl, trivial⟩ ?_
    obtain ⟨rfl, rfl, rfl⟩ := s_inj h13
    exact Kj13
  · replace h13 := i_neg c14 h13
    refine e_k 2 (f' := (64, [(0, .ref 10), (1, .ref r2), (2, .int p3)], [.ref r2, .ref 10])) rfl ?_
    obtain ⟨v15, I15, J15, h15, h13⟩ := oc_call h13
    refine r_cv (z := m_Verifier_findTargets) (As := [.ref r2]) (rest := []) rfl rfl rfl rfl rfl (x_ltn rfl) rfl rfl (E_Verifier_findTargets hR_r2 h15 ⟨_, rfl, ?_⟩)
    refine e_sub (ls := [(0, .ref 10), (1, .ref r2)]) rfl ⟨rfl, rfl, trivial⟩ ?_
    obtain ⟨rfl, rfl, rfl⟩ := s_inj h13
    exact Kj13
theorem E_Law_compile {X : MX} {I : MI} {J : MJ} {v : (Int32 ⊕ Nat)} {X' : MX} {I' : MI} {J' : MJ} (hb : f_Law_compile  X I J = some (v, X', I', J')) (K1 : ∀ u, v = .inl u → P (.inl (some (.int u))) (hX X' I' J')) (K2 : ∀ x, v = .inr x → P (.inr x) (am_thr (hX X' I' J'))) : am_E (gG L xs) (d + 206) m_Law_compile (0, lv_args 0 [.ref 0, .ref 168], []) (hX X I J) P := by
  unfold f_Law_compile at hb
  refine e_k 3 (f' := (3, [(0, .ref 0), (1, .ref 168)], [.ref 0, .int 0, .ref 168])) rfl ?_
  obtain ⟨q1, I1, J1, h1, hb⟩ := oc_call hb
  refine r_tv (z := m_Sh_compile) (As := []) (rest := [.int 0, .ref 168]) rfl rfl rfl rfl rfl (x_ltn rfl) rfl rfl (E_Sh_compile  h1 (fun y1 e1 => Or.inl ⟨_, rfl, ?_⟩) (fun y1 e1 => Or.inr ⟨_, rfl, ?_⟩))
  · subst e1
    replace hb := oe_l hb
    refine e_k 1 (f' := (7, [(0, .ref 0), (1, .ref 168)], [.long (Int32.toInt64 y1), .int 0, .ref 168])) rfl ?_
    obtain ⟨o2, hb⟩ := o8_call hb
    obtain ⟨o3, hb⟩ := ob_in hb
    obtain ⟨J4, eJ4, hb⟩ := p_nm hb
    refine r_last' rfl o2.1 o2.2.2 o3 eJ4 ?_
    refine e_k 2 (f' := (15, [(0, .ref 0), (1, .ref 168)], [.int 0])) rfl ?_
    obtain ⟨rfl, rfl, rfl, rfl⟩ := s_inx hb
    exact e_r rfl rfl (K1 _ rfl)
  · subst e1
    replace hb := oe_r hb
    obtain ⟨rfl, rfl, rfl, rfl⟩ := s_inx hb
    exact K2 _ rfl
theorem E_Sh_load {X : MX} {I : MI} {J : MJ} {v : (Int32 ⊕ Nat)} {I' : MI} {J' : MJ} (hb : f_Sh_load  I J = some (v, I', J')) (K1 : ∀ u, v = .inl u → P (.inl (some (.int u))) (hX X I' J')) (K2 : ∀ x, v = .inr x → P (.inr x) (am_thr (hX X I' J'))) : am_E (gG L xs) (d + 6) m_Sh_load (0, lv_args 0 [.ref 0], []) (hX X I J) P := by
  unfold f_Sh_load at hb
  refine e_k 1 (f' := (1, [(0, .ref 0)], [.ref 0])) rfl ?_
  refine r_getr rfl (x_ltn rfl) rfl rfl ?_
  refine e_k 1 (f' := (5, [(0, .ref 0)], [.ref 0, .ref 10])) rfl ?_
  refine r_getr rfl (x_ltn rfl) rfl rfl ?_
  refine e_k 1 (f' := (9, [(0, .ref 0)], [.ref 0, .ref 1, .ref 10])) rfl ?_
  refine r_getr rfl (x_ltn rfl) rfl rfl ?_
  refine r_geti rfl (x_ltn rfl) rfl rfl ?_
  obtain ⟨v1, I1, J1, h1, hb⟩ := oc_call hb
  refine r_cv (z := m_Verifier_lets) (As := [.ref 1, .int (I 14 6)]) (rest := []) rfl rfl rfl rfl rfl (x_ltn rfl) rfl rfl (E_Verifier_lets row_1 h1 ⟨_, rfl, ?_⟩)
  refine e_k 3 (f' := (21, [(1, .int v1), (0, .ref 0)], [.ref 0, .ref 0])) rfl ?_
  refine r_getr rfl (x_ltn rfl) rfl rfl ?_
  refine r_geti rfl (x_ltn rfl) rfl rfl ?_
  obtain ⟨I2, eI2, hb⟩ := p_nm hb
  refine r_puti' rfl (x_ltn rfl) rfl rfl eI2 ?_
  refine e_k 2 (f' := (32, [(1, .int v1), (0, .ref 0)], [.ref 0, .ref 0])) rfl ?_
  refine r_getr rfl (x_ltn rfl) rfl rfl ?_
  refine r_geti rfl (x_ltn rfl) rfl rfl ?_
  obtain ⟨I3, eI3, hb⟩ := p_nm hb
  refine r_puti' rfl (x_ltn rfl) rfl rfl eI3 ?_
  refine e_k 2 (f' := (if ¬ v1 = 0 then 62 else 45, [(1, .int v1), (0, .ref 0)], [])) rfl ?_
  refine e_if (fun c4 => ?_) (fun c4 => ?_)
  · replace hb := i_pos c4 hb
    refine e_k 1 (f' := (63, [(1, .int v1), (0, .ref 0)], [.ref 0])) rfl ?_
    refine r_getr rfl (x_ltn rfl) rfl rfl ?_
    refine e_k 1 (f' := (67, [(1, .int v1), (0, .ref 0)], [.ref 0, .ref 14])) rfl ?_
    refine r_getr rfl (x_ltn rfl) rfl rfl ?_
    obtain ⟨v5, I5, J5, h5, hb⟩ := oc_call hb
    refine r_cv (z := m_Hall_take) (As := [.ref 1]) (rest := []) rfl rfl rfl rfl rfl (x_ltn rfl) rfl rfl (E_Hall_take row_1 h5 ⟨_, rfl, ?_⟩)
    refine e_k 1 (f' := (74, [(1, .int v1), (0, .ref 0)], [.ref 0])) rfl ?_
    refine r_getr rfl (x_ltn rfl) rfl rfl ?_
    obtain ⟨v6, I6, J6, h6, hb⟩ := oc_call hb
    refine r_cv (z := m_Row_wipe) (As := []) (rest := []) rfl rfl rfl rfl rfl (x_ltn rfl) rfl rfl (E_Row_wipe row_1 h6 ⟨_, rfl, ?_⟩)
    refine e_k 1 (f' := (81, [(1, .int v1), (0, .ref 0)], [.ref 0])) rfl ?_
    refine r_getr rfl (x_ltn rfl) rfl rfl ?_
    refine r_geti rfl (x_ltn rfl) rfl rfl ?_
    obtain ⟨rfl, rfl, rfl⟩ := s_inj hb
    exact e_r rfl rfl (K1 _ rfl)
  · replace hb := i_neg c4 hb
    refine e_k 1 (f' := (46, [(1, .int v1), (0, .ref 0)], [.ref 0])) rfl ?_
    refine r_getr rfl (x_ltn rfl) rfl rfl ?_
    obtain ⟨v7, I7, J7, h7, hb⟩ := oc_call hb
    refine r_cv (z := m_Row_wipe) (As := []) (rest := []) rfl rfl rfl rfl rfl (x_ltn rfl) rfl rfl (E_Row_wipe row_1 h7 ⟨_, rfl, ?_⟩)
    obtain ⟨rfl, rfl, rfl⟩ := s_inj hb
    exact e_thr rfl (Nat.ble_eq_true_of_le (by omega)) (K2 _ rfl)
theorem E_Hall_stepOf {w2 : Nat} {X : MX} {I : MI} {J : MJ} {v : Int32} {X' : MX} {I' : MI} {J' : MJ} (hw_w2 : w2 < 4) (hb : f_Hall_stepOf w2 X I J = some (v, X', I', J')) (K : P (.inl (some (.int v))) (hX X' I' J')) : am_E (gG L xs) (d + 6) m_Hall_stepOf (0, lv_args 0 [.ref 14, .ref (18 + 21 * w2)], []) (hX X I J) P := by
  unfold f_Hall_stepOf at hb
  refine e_k 1 (f' := (1, [(0, .ref 14), (1, .ref (18 + 21 * w2))], [.ref (18 + 21 * w2)])) rfl ?_
  refine r_geti rfl (x_ltp hw_w2 (by decide)) (sS_p0 hw_w2) rfl ?_
  refine e_k 2 (f' := (if (I (18 + 21 * w2) 10) = 1 then 13 else 8, [(0, .ref 14), (1, .ref (18 + 21 * w2))], [])) rfl ?_
  refine e_if (fun c1 => ?_) (fun c1 => ?_)
  · replace hb := i_pos c1 hb
    refine e_k 1 (f' := (14, [(0, .ref 14), (1, .ref (18 + 21 * w2))], [.ref (18 + 21 * w2)])) rfl ?_
    refine r_getr rfl (x_ltp hw_w2 (by decide)) (sS_p0 hw_w2) rfl ?_
    refine r_geti rfl (x_ltp hw_w2 (by decide)) (sS_p14 hw_w2) rfl ?_
    refine e_k 1 (f' := (if (I (32 + 21 * w2) 8) = 0 then 35 else 23, [(0, .ref 14), (1, .ref (18 + 21 * w2))], [])) rfl ?_
    refine e_if (fun c2 => ?_) (fun c2 => ?_)
    · replace hb := i_pos c2 hb
      refine e_k 2 (f' := (37, [(0, .ref 14), (1, .ref (18 + 21 * w2))], [.ref (18 + 21 * w2), .ref 14])) rfl ?_
      obtain ⟨v3, X3, I3, J3, h3, hb⟩ := ob_call hb
      refine r_cv (z := m_Hall_act) (As := [.ref (18 + 21 * w2)]) (rest := []) rfl rfl rfl rfl rfl (x_ltn rfl) rfl rfl (E_Hall_act hw_w2 h3 ⟨_, rfl, ?_⟩)
      refine e_k 4 (f' := (if v3 = 1 then 51 else 46, [(2, .int v3), (0, .ref 14), (1, .ref (18 + 21 * w2))], [])) rfl ?_
      refine e_if (fun c4 => ?_) (fun c4 => ?_)
      · replace hb := i_pos c4 hb
        refine e_k 2 (f' := (53, [(2, .int v3), (0, .ref 14), (1, .ref (18 + 21 * w2))], [.ref (18 + 21 * w2), .ref (18 + 21 * w2)])) rfl ?_
        refine r_geti rfl (x_ltp hw_w2 (by decide)) (sS_p0 hw_w2) rfl ?_
        refine e_k 2 (f' := (58, [(2, .int v3), (0, .ref 14), (1, .ref (18 + 21 * w2))], [.int ((I3 (18 + 21 * w2) 13) + 1), .ref (18 + 21 * w2)])) rfl ?_
        obtain ⟨I5, eI5, hb⟩ := p_nm hb
        refine r_puti' rfl (x_ltp hw_w2 (by decide)) (sS_p0 hw_w2) rfl eI5 ?_
        refine e_k 2 (f' := (63, [(2, .int v3), (0, .ref 14), (1, .ref (18 + 21 * w2))], [.ref 14, .ref 14])) rfl ?_
        refine r_geti rfl (x_ltn rfl) rfl rfl ?_
        refine e_k 2 (f' := (68, [(2, .int v3), (0, .ref 14), (1, .ref (18 + 21 * w2))], [.int ((I5 14 10) + 1), .ref 14])) rfl ?_
        obtain ⟨I6, eI6, hb⟩ := p_nm hb
        refine r_puti' rfl (x_ltn rfl) rfl rfl eI6 ?_
        refine e_k 1 (f' := (72, [(2, .int v3), (0, .ref 14), (1, .ref (18 + 21 * w2))], [.int v3])) rfl ?_
        obtain ⟨rfl, rfl, rfl, rfl⟩ := s_inx hb
        exact e_r rfl rfl K
      · replace hb := i_neg c4 hb
        refine e_k 3 (f' := (if ¬ v3 = 3 then 71 else 51, [(2, .int v3), (0, .ref 14), (1, .ref (18 + 21 * w2))], [])) rfl ?_
        refine e_if (fun c7 => ?_) (fun c7 => ?_)
        · replace hb := i_pos c7 hb
          refine e_k 1 (f' := (72, [(2, .int v3), (0, .ref 14), (1, .ref (18 + 21 * w2))], [.int v3])) rfl ?_
          obtain ⟨rfl, rfl, rfl, rfl⟩ := s_inx hb
          exact e_r rfl rfl K
        · replace hb := i_neg c7 hb
          refine e_k 2 (f' := (53, [(2, .int v3), (0, .ref 14), (1, .ref (18 + 21 * w2))], [.ref (18 + 21 * w2), .ref (18 + 21 * w2)])) rfl ?_
          refine r_geti rfl (x_ltp hw_w2 (by decide)) (sS_p0 hw_w2) rfl ?_
          refine e_k 2 (f' := (58, [(2, .int v3), (0, .ref 14), (1, .ref (18 + 21 * w2))], [.int ((I3 (18 + 21 * w2) 13) + 1), .ref (18 + 21 * w2)])) rfl ?_
          obtain ⟨I8, eI8, hb⟩ := p_nm hb
          refine r_puti' rfl (x_ltp hw_w2 (by decide)) (sS_p0 hw_w2) rfl eI8 ?_
          refine e_k 2 (f' := (63, [(2, .int v3), (0, .ref 14), (1, .ref (18 + 21 * w2))], [.ref 14, .ref 14])) rfl ?_
          refine r_geti rfl (x_ltn rfl) rfl rfl ?_
          refine e_k 2 (f' := (68, [(2, .int v3), (0, .ref 14), (1, .ref (18 + 21 * w2))], [.int ((I8 14 10) + 1), .ref 14])) rfl ?_
          obtain ⟨I9, eI9, hb⟩ := p_nm hb
          refine r_puti' rfl (x_ltn rfl) rfl rfl eI9 ?_
          refine e_k 1 (f' := (72, [(2, .int v3), (0, .ref 14), (1, .ref (18 + 21 * w2))], [.int v3])) rfl ?_
          obtain ⟨rfl, rfl, rfl, rfl⟩ := s_inx hb
          exact e_r rfl rfl K
    · replace hb := i_neg c2 hb
      refine e_k 2 (f' := (25, [(0, .ref 14), (1, .ref (18 + 21 * w2))], [.int 3, .ref (18 + 21 * w2)])) rfl ?_
      obtain ⟨I10, eI10, hb⟩ := p_nm hb
      refine r_puti' rfl (x_ltp hw_w2 (by decide)) (sS_p0 hw_w2) rfl eI10 ?_
      refine e_k 2 (f' := (30, [(0, .ref 14), (1, .ref (18 + 21 * w2))], [.int 2, .ref (18 + 21 * w2)])) rfl ?_
      obtain ⟨I11, eI11, hb⟩ := p_nm hb
      refine r_puti' rfl (x_ltp hw_w2 (by decide)) (sS_p0 hw_w2) rfl eI11 ?_
      refine e_k 1 (f' := (34, [(0, .ref 14), (1, .ref (18 + 21 * w2))], [.int 3])) rfl ?_
      obtain ⟨rfl, rfl, rfl, rfl⟩ := s_inx hb
      exact e_r rfl rfl K
  · replace hb := i_neg c1 hb
    refine e_k 1 (f' := (9, [(0, .ref 14), (1, .ref (18 + 21 * w2))], [.ref (18 + 21 * w2)])) rfl ?_
    refine r_geti rfl (x_ltp hw_w2 (by decide)) (sS_p0 hw_w2) rfl ?_
    obtain ⟨rfl, rfl, rfl, rfl⟩ := s_inx hb
    exact e_r rfl rfl K
theorem E_Law_load {X : MX} {I : MI} {J : MJ} {v : (Int32 ⊕ Nat)} {X' : MX} {I' : MI} {J' : MJ} (hb : f_Law_load  X I J = some (v, X', I', J')) (K1 : ∀ u, v = .inl u → P (.inl (some (.int u))) (hX X' I' J')) (K2 : ∀ x, v = .inr x → P (.inr x) (am_thr (hX X' I' J'))) : am_E (gG L xs) (d + 7) m_Law_load (0, lv_args 0 [.ref 0, .ref 168], []) (hX X I J) P := by
  unfold f_Law_load at hb
  refine e_k 3 (f' := (3, [(0, .ref 0), (1, .ref 168)], [.ref 0, .int 0, .ref 168])) rfl ?_
  obtain ⟨q1, I1, J1, h1, hb⟩ := oc_call hb
  refine r_tv (z := m_Sh_load) (As := []) (rest := [.int 0, .ref 168]) rfl rfl rfl rfl rfl (x_ltn rfl) rfl rfl (E_Sh_load  h1 (fun y1 e1 => Or.inl ⟨_, rfl, ?_⟩) (fun y1 e1 => Or.inr ⟨_, rfl, ?_⟩))
  · subst e1
    replace hb := oe_l hb
    refine e_k 1 (f' := (7, [(0, .ref 0), (1, .ref 168)], [.long (Int32.toInt64 y1), .int 0, .ref 168])) rfl ?_
    obtain ⟨o2, hb⟩ := o8_call hb
    obtain ⟨o3, hb⟩ := ob_in hb
    obtain ⟨J4, eJ4, hb⟩ := p_nm hb
    refine r_last' rfl o2.1 o2.2.2 o3 eJ4 ?_
    refine e_k 2 (f' := (15, [(0, .ref 0), (1, .ref 168)], [.int 0])) rfl ?_
    obtain ⟨rfl, rfl, rfl, rfl⟩ := s_inx hb
    exact e_r rfl rfl (K1 _ rfl)
  · subst e1
    replace hb := oe_r hb
    obtain ⟨rfl, rfl, rfl, rfl⟩ := s_inx hb
    exact K2 _ rfl
theorem E_Sh_step {p2 : Int32} {X : MX} {I : MI} {J : MJ} {v : (Int32 ⊕ Nat)} {X' : MX} {I' : MI} {J' : MJ} (hb : f_Sh_step p2 X I J = some (v, X', I', J')) (K1 : ∀ u, v = .inl u → P (.inl (some (.int u))) (hX X' I' J')) (K2 : ∀ x, v = .inr x → P (.inr x) (am_thr (hX X' I' J'))) : am_E (gG L xs) (d + 7) m_Sh_step (0, lv_args 0 [.ref 0, .int p2], []) (hX X I J) P := by
  unfold f_Sh_step at hb
  refine e_k 1 (f' := (1, [(0, .ref 0), (1, .int p2)], [.ref 0])) rfl ?_
  refine r_getr rfl (x_ltn rfl) rfl rfl ?_
  refine e_k 1 (f' := (5, [(0, .ref 0), (1, .int p2)], [.int p2, .ref 14])) rfl ?_
  obtain ⟨v1, I1, J1, h1, hb⟩ := oc_call hb
  refine r_cv (z := m_Hall_has) (As := [.int p2]) (rest := []) rfl rfl rfl rfl rfl (x_ltn rfl) rfl rfl (E_Hall_has  h1 ⟨_, rfl, ?_⟩)
  refine e_k 1 (f' := (if ¬ v1 = 0 then 21 else 11, [(0, .ref 0), (1, .int p2)], [])) rfl ?_
  refine e_if (fun c2 => ?_) (fun c2 => ?_)
  · replace hb := i_pos c2 hb
    refine e_k 1 (f' := (22, [(0, .ref 0), (1, .int p2)], [.ref 0])) rfl ?_
    refine r_getr rfl (x_ltn rfl) rfl rfl ?_
    refine r_geti rfl (x_ltn rfl) rfl rfl ?_
    refine e_k 2 (f' := (if (I1 14 10) < 30000 then 44 else 34, [(0, .ref 0), (1, .int p2)], [])) rfl ?_
    refine e_if (fun c3 => ?_) (fun c3 => ?_)
    · replace hb := i_pos c3 hb
      refine e_k 1 (f' := (45, [(0, .ref 0), (1, .int p2)], [.ref 0])) rfl ?_
      refine r_getr rfl (x_ltn rfl) rfl rfl ?_
      refine r_geti rfl (x_ltn rfl) rfl rfl ?_
      refine e_k 1 (f' := (if (I1 14 9) = 0 then 73 else 54, [(0, .ref 0), (1, .int p2)], [])) rfl ?_
      refine e_if (fun c4 => ?_) (fun c4 => ?_)
      · replace hb := i_pos c4 hb
        refine e_k 1 (f' := (74, [(0, .ref 0), (1, .int p2)], [.int 2])) rfl ?_
        obtain ⟨rfl, rfl, rfl, rfl⟩ := s_inx hb
        exact e_r rfl rfl (K1 _ rfl)
      · replace hb := i_neg c4 hb
        refine e_k 1 (f' := (55, [(0, .ref 0), (1, .int p2)], [.ref 0])) rfl ?_
        refine r_getr rfl (x_ltn rfl) rfl rfl ?_
        refine e_k 1 (f' := (59, [(0, .ref 0), (1, .int p2)], [.ref 0, .ref 14])) rfl ?_
        refine r_getr rfl (x_ltn rfl) rfl rfl ?_
        refine r_getr rfl (x_ltn rfl) rfl rfl ?_
        refine e_k 1 (f' := (66, [(0, .ref 0), (1, .int p2)], [.int p2, .ref 17, .ref 14])) rfl ?_
        obtain ⟨o5, hb⟩ := ob_in hb
        refine r_pald rfl o5 ?_
        obtain ⟨v6, X6, I6, J6, h6, hb⟩ := ob_call hb
        refine r_cv (z := m_Hall_stepOf) (As := [.ref (18 + 21 * (Int32.toNatClampNeg p2))]) (rest := []) rfl rfl rfl rfl rfl (x_ltn rfl) rfl rfl (E_Hall_stepOf (vp_lt o5) h6 ⟨_, rfl, ?_⟩)
        refine e_k 1 (f' := (74, [(0, .ref 0), (1, .int p2)], [.int v6])) rfl ?_
        obtain ⟨rfl, rfl, rfl, rfl⟩ := s_inx hb
        exact e_r rfl rfl (K1 _ rfl)
    · replace hb := i_neg c3 hb
      obtain ⟨rfl, rfl, rfl, rfl⟩ := s_inx hb
      exact e_thr rfl (Nat.ble_eq_true_of_le (by omega)) (K2 _ rfl)
  · replace hb := i_neg c2 hb
    obtain ⟨rfl, rfl, rfl, rfl⟩ := s_inx hb
    exact e_thr rfl (Nat.ble_eq_true_of_le (by omega)) (K2 _ rfl)
end AUTO
