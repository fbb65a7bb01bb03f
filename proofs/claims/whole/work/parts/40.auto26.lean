section AUTO
variable {L : Nat} {xs : Nat → Int32} {d : Nat} {P : am_R → am_H → Prop}
def f_Translator_index (R : M3) (I : MI) (J : MJ) : M2 Unit := oc (f_Translator_look  I J) (fun v1 I1 J1 => oc ((if v1 = 91 then (some ((), I1, J1)) else (oc (f_Translator_refuse  I1 J1) (fun v5 I5 J5 => some ((), I5, J5)))) : M2 (Unit)) (fun v3 I3 J3 => pl (I3 3 5 : Int32) (fun x6 => oc (f_Translator_enter  I3 J3) (fun v7 I7 J7 => oc (R 9 0 0 I7 J7) (fun v8 I8 J8 => oc (f_Translator_expect 93 I8 J8) (fun v9 I9 J9 => oc (f_Translator_leave  I9 J9) (fun v10 I10 J10 => if v8 = 0 then (some ((), I10, J10)) else (oc (f_Translator_blame 3 x6 I10 J10) (fun v12 I12 J12 => some ((), I12, J12))))))))))
theorem E_Translator_index {R : M3} {X : MX} {I : MI} {J : MJ} {v : Unit} {I' : MI} {J' : MJ} (hR_0 : ∀ {I : MI} {J : MJ} {v : Int32} {I' : MI} {J' : MJ} {P : am_R → am_H → Prop}, R 0 0 0 I J = some (v, I', J') → P (.inl (none)) (hX X I' J') → am_E (gG L xs) (d + 2) m_Translator_statements (0, lv_args 0 [.ref 3], []) (hX X I J) P) (hR_1 : ∀ {I : MI} {J : MJ} {v : Int32} {I' : MI} {J' : MJ} {P : am_R → am_H → Prop}, R 1 0 0 I J = some (v, I', J') → P (.inl (some (.int v))) (hX X I' J') → am_E (gG L xs) (d + 2) m_Translator_statement (0, lv_args 0 [.ref 3], []) (hX X I J) P) (hR_2 : ∀ {a0 : Int32} {a1 : Int32} {I : MI} {J : MJ} {v : Int32} {I' : MI} {J' : MJ} {P : am_R → am_H → Prop}, R 2 a0 a1 I J = some (v, I', J') → P (.inl (none)) (hX X I' J') → am_E (gG L xs) (d + 2) m_Translator_variableStatement (0, lv_args 0 [.ref 3, .int a0, .int a1], []) (hX X I J) P) (hR_3 : ∀ {a0 : Int32} {a1 : Int32} {I : MI} {J : MJ} {v : Int32} {I' : MI} {J' : MJ} {P : am_R → am_H → Prop}, R 3 a0 a1 I J = some (v, I', J') → P (.inl (none)) (hX X I' J') → am_E (gG L xs) (d + 2) m_Translator_assign (0, lv_args 0 [.ref 3, .int a0, .int a1], []) (hX X I J) P) (hR_4 : ∀ {a0 : Int32} {a1 : Int32} {I : MI} {J : MJ} {v : Int32} {I' : MI} {J' : MJ} {P : am_R → am_H → Prop}, R 4 a0 a1 I J = some (v, I', J') → P (.inl (none)) (hX X I' J') → am_E (gG L xs) (d + 2) m_Translator_arrayStatement (0, lv_args 0 [.ref 3, .int a0, .int a1], []) (hX X I J) P) (hR_5 : ∀ {a0 : Int32} {I : MI} {J : MJ} {v : Int32} {I' : MI} {J' : MJ} {P : am_R → am_H → Prop}, R 5 a0 0 I J = some (v, I', J') → P (.inl (none)) (hX X I' J') → am_E (gG L xs) (d + 2) m_Translator_routine (0, lv_args 0 [.ref 3, .int a0], []) (hX X I J) P) (hR_6 : ∀ {a0 : Int32} {a1 : Int32} {I : MI} {J : MJ} {v : Int32} {I' : MI} {J' : MJ} {P : am_R → am_H → Prop}, R 6 a0 a1 I J = some (v, I', J') → P (.inl (none)) (hX X I' J') → am_E (gG L xs) (d + 2) m_Translator_tell (0, lv_args 0 [.ref 3, .int a0, .int a1], []) (hX X I J) P) (hR_7 : ∀ {I : MI} {J : MJ} {v : Int32} {I' : MI} {J' : MJ} {P : am_R → am_H → Prop}, R 7 0 0 I J = some (v, I', J') → P (.inl (none)) (hX X I' J') → am_E (gG L xs) (d + 2) m_Translator_choice (0, lv_args 0 [.ref 3], []) (hX X I J) P) (hR_8 : ∀ {I : MI} {J : MJ} {v : Int32} {I' : MI} {J' : MJ} {P : am_R → am_H → Prop}, R 8 0 0 I J = some (v, I', J') → P (.inl (none)) (hX X I' J') → am_E (gG L xs) (d + 2) m_Translator_loop (0, lv_args 0 [.ref 3], []) (hX X I J) P) (hR_9 : ∀ {I : MI} {J : MJ} {v : Int32} {I' : MI} {J' : MJ} {P : am_R → am_H → Prop}, R 9 0 0 I J = some (v, I', J') → P (.inl (some (.int v))) (hX X I' J') → am_E (gG L xs) (d + 2) m_Translator_expression (0, lv_args 0 [.ref 3], []) (hX X I J) P) (hR_10 : ∀ {I : MI} {J : MJ} {v : Int32} {I' : MI} {J' : MJ} {P : am_R → am_H → Prop}, R 10 0 0 I J = some (v, I', J') → P (.inl (some (.int v))) (hX X I' J') → am_E (gG L xs) (d + 2) m_Translator_product (0, lv_args 0 [.ref 3], []) (hX X I J) P) (hR_11 : ∀ {I : MI} {J : MJ} {v : Int32} {I' : MI} {J' : MJ} {P : am_R → am_H → Prop}, R 11 0 0 I J = some (v, I', J') → P (.inl (some (.int v))) (hX X I' J') → am_E (gG L xs) (d + 2) m_Translator_factor (0, lv_args 0 [.ref 3], []) (hX X I J) P) (hR_12 : ∀ {I : MI} {J : MJ} {v : Int32} {I' : MI} {J' : MJ} {P : am_R → am_H → Prop}, R 12 0 0 I J = some (v, I', J') → P (.inl (some (.int v))) (hX X I' J') → am_E (gG L xs) (d + 2) m_Translator_atom (0, lv_args 0 [.ref 3], []) (hX X I J) P) (hR_13 : ∀ {I : MI} {J : MJ} {v : Int32} {I' : MI} {J' : MJ} {P : am_R → am_H → Prop}, R 13 0 0 I J = some (v, I', J') → P (.inl (none)) (hX X I' J') → am_E (gG L xs) (d + 2) m_Translator_index (0, lv_args 0 [.ref 3], []) (hX X I J) P) (hb : f_Translator_index R  I J = some (v, I', J')) (K : P (.inl (none)) (hX X I' J')) : am_E (gG L xs) (d + 3) m_Translator_index (0, lv_args 0 [.ref 3], []) (hX X I J) P := by
  unfold f_Translator_index at hb
  refine e_k 1 (f' := (1, [(0, .ref 3)], [.ref 3])) rfl ?_
  obtain ⟨v1, I1, J1, h1, hb⟩ := oc_call hb
  refine r_cv (z := m_Translator_look) (As := []) (rest := []) rfl rfl rfl rfl rfl (x_ltn rfl) rfl rfl (E_Translator_look  h1 ⟨_, rfl, ?_⟩)
  refine e_k 2 (f' := (if v1 = 91 then 13 else 9, [(0, .ref 3)], [])) rfl ?_
  obtain ⟨v3, I3, J3, h3, hb⟩ := oc_call hb
  have Kj3 : am_E (gG L xs) (d + 3) m_Translator_index (13, [(0, .ref 3)], []) (hX X I3 J3) P := by
    refine e_k 1 (f' := (14, [(0, .ref 3)], [.ref 3])) rfl ?_
    refine r_geti rfl (x_ltn rfl) rfl rfl ?_
    refine e_k 1 (f' := (18, [(1, .int (I3 3 5)), (0, .ref 3)], [])) rfl ?_
    obtain ⟨x6, ex6, hb⟩ := p_nm hb
    rw [← ex6]
    refine e_k 1 (f' := (19, [(1, .int x6), (0, .ref 3)], [.ref 3])) rfl ?_
    obtain ⟨v7, I7, J7, h7, hb⟩ := oc_call hb
    refine r_cv (z := m_Translator_enter) (As := []) (rest := []) rfl rfl rfl rfl rfl (x_ltn rfl) rfl rfl (E_Translator_enter  h7 ⟨_, rfl, ?_⟩)
    refine e_k 1 (f' := (23, [(1, .int x6), (0, .ref 3)], [.ref 3])) rfl ?_
    obtain ⟨v8, I8, J8, h8, hb⟩ := oc_call hb
    refine r_cv (z := m_Translator_expression) (As := []) (rest := []) rfl rfl rfl rfl rfl (x_ltn rfl) rfl rfl (hR_9  h8 ⟨_, rfl, ?_⟩)
    refine e_k 3 (f' := (30, [(2, .int v8), (1, .int x6), (0, .ref 3)], [.int 93, .ref 3])) rfl ?_
    obtain ⟨v9, I9, J9, h9, hb⟩ := oc_call hb
    refine r_cv (z := m_Translator_expect) (As := [.int 93]) (rest := []) rfl rfl rfl rfl rfl (x_ltn rfl) rfl rfl (E_Translator_expect  h9 ⟨_, rfl, ?_⟩)
    refine e_k 1 (f' := (34, [(2, .int v8), (1, .int x6), (0, .ref 3)], [.ref 3])) rfl ?_
    obtain ⟨v10, I10, J10, h10, hb⟩ := oc_call hb
    refine r_cv (z := m_Translator_leave) (As := []) (rest := []) rfl rfl rfl rfl rfl (x_ltn rfl) rfl rfl (E_Translator_leave  h10 ⟨_, rfl, ?_⟩)
    refine e_k 2 (f' := (if v8 = 0 then 47 else 41, [(2, .int v8), (1, .int x6), (0, .ref 3)], [])) rfl ?_
    refine e_if (fun c11 => ?_) (fun c11 => ?_)
    · replace hb := i_pos c11 hb
      obtain ⟨rfl, rfl, rfl⟩ := s_inj hb
      exact e_r rfl rfl K
    · replace hb := i_neg c11 hb
      refine e_k 3 (f' := (44, [(2, .int v8), (1, .int x6), (0, .ref 3)], [.int x6, .int 3, .ref 3])) rfl ?_
      obtain ⟨v12, I12, J12, h12, hb⟩ := oc_call hb
      refine r_cv (z := m_Translator_blame) (As := [.int 3, .int x6]) (rest := []) rfl rfl rfl rfl rfl (x_ltn rfl) rfl rfl (E_Translator_blame  h12 ⟨_, rfl, ?_⟩)
      obtain ⟨rfl, rfl, rfl⟩ := s_inj hb
      exact e_r rfl rfl K
  clear hb
  refine e_if (fun c4 => ?_) (fun c4 => ?_)
  · replace h3 := i_pos c4 h3
    refine e_sub (ls := [(0, .ref 3)]) rfl ⟨rfl, trivial⟩ ?_
    obtain ⟨rfl, rfl, rfl⟩ := s_inj h3
    exact Kj3
  · replace h3 := i_neg c4 h3
    refine e_k 1 (f' := (10, [(0, .ref 3)], [.ref 3])) rfl ?_
    obtain ⟨v5, I5, J5, h5, h3⟩ := oc_call h3
    refine r_cv (z := m_Translator_refuse) (As := []) (rest := []) rfl rfl rfl rfl rfl (x_ltn rfl) rfl rfl (E_Translator_refuse  h5 ⟨_, rfl, ?_⟩)
    refine e_sub (ls := [(0, .ref 3)]) rfl ⟨rfl, trivial⟩ ?_
    obtain ⟨rfl, rfl, rfl⟩ := s_inj h3
    exact Kj3
def f_Verifier_fits (r2 : Nat) (b2 : Nat) (m2 : Nat) (p3 : Int32) (I : MI) (J : MJ) : M2 Int32 := oc (f_Row_at r2 b2 m2 p3 I J) (fun v1 I1 J1 => if v1 = 0 ∨ v1 = 17 ∨ v1 = 18 ∨ v1 = 28 ∨ v1 = 29 then (if ¬ (I1 10 3) = 0 then (some (0, I1, J1)) else (some (1, I1, J1))) else (if v1 = 1 ∨ v1 = 2 then (oc (f_Verifier_pushes 0 I1 J1) (fun v5 I5 J5 => if v5 = 0 ∨ v5 = 1 then some (v5, I5, J5) else none)) else (if v1 = 3 ∨ v1 = 26 then (oc (f_Verifier_pushes 1 I1 J1) (fun v8 I8 J8 => if v8 = 0 ∨ v8 = 1 then some (v8, I8, J8) else none)) else (if v1 = 4 ∨ v1 = 5 then (if (I1 10 3) < 2 then (some (0, I1, J1)) else (oc (f_Verifier_joins  I1 J1) (fun v12 I12 J12 => if v12 = 0 then (some (0, I12, J12)) else (some (1, I12, J12))))) else (if v1 = 6 then (if (I1 10 3) < 2 then (some (0, I1, J1)) else (oc (f_Verifier_isSecret 1 I1 J1) (fun v16 I16 J16 => if v16 = 0 then (oc (f_Verifier_joins  I16 J16) (fun v18 I18 J18 => if v18 = 0 then (some (0, I18, J18)) else (some (1, I18, J18)))) else (oc (f_Verifier_isSecret 2 I16 J16) (fun v20 I20 J20 => if ¬ v20 = 0 then (some (0, I20, J20)) else (oc (f_Verifier_joins  I20 J20) (fun v22 I22 J22 => if v22 = 0 then (some (0, I22, J22)) else (some (1, I22, J22))))))))) else (if v1 = 7 then (if (I1 10 3) < 2 then (some (0, I1, J1)) else (oc (f_Verifier_isSecret 1 I1 J1) (fun v26 I26 J26 => if v26 = 0 then (some (0, I26, J26)) else (oc (f_Verifier_isSecret 2 I26 J26) (fun v28 I28 J28 => if v28 = 0 then (some (0, I28, J28)) else (oc (f_Verifier_joins  I28 J28) (fun v30 I30 J30 => if v30 = 0 then (some (0, I30, J30)) else (some (1, I30, J30))))))))) else (if v1 = 8 then (if (I1 10 3) < 1 then (some (0, I1, J1)) else (some (1, I1, J1))) else (if v1 = 9 ∨ v1 = 19 then (if (I1 10 3) < 1 then (some (0, I1, J1)) else (oc (f_Verifier_isSecret 1 I1 J1) (fun v36 I36 J36 => if ¬ v36 = 0 then (some (0, I36, J36)) else (some (1, I36, J36))))) else (if v1 = 10 then (if (I1 10 3) < 1 then (some (0, I1, J1)) else (oc (f_Verifier_isSecret 1 I1 J1) (fun v40 I40 J40 => if v40 = 0 then (some (0, I40, J40)) else (some (1, I40, J40))))) else (if v1 = 11 then (if (I1 10 3) < 1 then (some (0, I1, J1)) else (oc (f_Verifier_isSecret 1 I1 J1) (fun v44 I44 J44 => if ¬ v44 = 0 then (some (0, I44, J44)) else (oc (f_Verifier_drops 1 I44 J44) (fun v46 I46 J46 => if v46 = 0 then (some (0, I46, J46)) else (some (1, I46, J46))))))) else (if v1 = 12 then (if (I1 10 3) < 1 then (some (0, I1, J1)) else (oc (f_Verifier_drops 1 I1 J1) (fun v50 I50 J50 => if v50 = 0 then (some (0, I50, J50)) else (some (1, I50, J50))))) else (if v1 = 20 then (if (I1 10 3) < 1 then (some (0, I1, J1)) else (oc (f_Verifier_isSecret 1 I1 J1) (fun v54 I54 J54 => if ¬ v54 = 0 then (some (0, I54, J54)) else (oc (f_Verifier_drops 1 I54 J54) (fun v56 I56 J56 => if v56 = 0 then (some (0, I56, J56)) else (oc (f_Verifier_pushes 1 I56 J56) (fun v58 I58 J58 => if v58 = 0 then (some (0, I58, J58)) else (some (1, I58, J58))))))))) else (if v1 = 21 then (if (I1 10 3) < 2 then (some (0, I1, J1)) else (oc (f_Verifier_isSecret 1 I1 J1) (fun v62 I62 J62 => if ¬ v62 = 0 then (some (0, I62, J62)) else (oc (f_Verifier_isSecret 2 I62 J62) (fun v64 I64 J64 => if ¬ v64 = 0 then (some (0, I64, J64)) else (oc (f_Verifier_drops 2 I64 J64) (fun v66 I66 J66 => if v66 = 0 then (some (0, I66, J66)) else (some (1, I66, J66))))))))) else (if v1 = 22 then (if (I1 10 3) < 2 then (some (0, I1, J1)) else (oc (f_Verifier_isSecret 2 I1 J1) (fun v70 I70 J70 => if ¬ v70 = 0 then (some (0, I70, J70)) else (oc (f_Verifier_drops 2 I70 J70) (fun v72 I72 J72 => if v72 = 0 then (some (0, I72, J72)) else (some (1, I72, J72))))))) else (if v1 = 23 ∨ v1 = 24 ∨ v1 = 25 then (oc (f_Verifier_keepsSecret r2 b2 m2 p3 I1 J1) (fun v75 I75 J75 => if v75 = 0 ∨ v75 = 1 then some (v75, I75, J75) else none)) else (some (1, I1, J1)))))))))))))))))
theorem E_Verifier_fits {r2 : Nat} {b2 : Nat} {m2 : Nat} {p3 : Int32} {X : MX} {I : MI} {J : MJ} {v : Int32} {I' : MI} {J' : MJ} (hR_r2 : isRw X r2 b2 m2) (hb : f_Verifier_fits r2 b2 m2 p3 I J = some (v, I', J')) (K : P (.inl (some (.int v))) (hX X I' J')) : am_E (gG L xs) (d + 3) m_Verifier_fits (0, lv_args 0 [.ref 10, .ref r2, .int p3], []) (hX X I J) P := by
  unfold f_Verifier_fits at hb
  refine e_k 2 (f' := (2, [(0, .ref 10), (1, .ref r2), (2, .int p3)], [.int p3, .ref r2])) rfl ?_
  obtain ⟨v1, I1, J1, h1, hb⟩ := oc_call hb
  refine r_cv (z := m_Row_at) (As := [.int p3]) (rest := []) rfl rfl rfl rfl rfl hR_r2.1 hR_r2.2.1 rfl (E_Row_at hR_r2 h1 ⟨_, rfl, ?_⟩)
  refine e_k 1 (f' := (am_sw v1 482 [(0, 140), (1, 153), (2, 153), (3, 159), (4, 165), (5, 165), (6, 186), (7, 223), (8, 260), (9, 274), (10, 296), (11, 356), (12, 386), (13, 482), (14, 482), (15, 482), (16, 482), (17, 140), (18, 140), (19, 274), (20, 318), (21, 408), (22, 446), (23, 476), (24, 476), (25, 476), (26, 159), (27, 482), (28, 140), (29, 140)], [(0, .ref 10), (1, .ref r2), (2, .int p3)], [])) rfl ?_
  by_cases c2 : v1 = 0 ∨ v1 = 17 ∨ v1 = 18 ∨ v1 = 28 ∨ v1 = 29
  · rw [show am_sw v1 482 [(0, 140), (1, 153), (2, 153), (3, 159), (4, 165), (5, 165), (6, 186), (7, 223), (8, 260), (9, 274), (10, 296), (11, 356), (12, 386), (13, 482), (14, 482), (15, 482), (16, 482), (17, 140), (18, 140), (19, 274), (20, 318), (21, 408), (22, 446), (23, 476), (24, 476), (25, 476), (26, 159), (27, 482), (28, 140), (29, 140)] = 140 from by rcases c2 with c2 | c2 | c2 | c2 | c2 <;> rw [c2] <;> rfl]
    replace hb := i_pos c2 hb
    refine e_k 1 (f' := (141, [(0, .ref 10), (1, .ref r2), (2, .int p3)], [.ref 10])) rfl ?_
    refine r_geti rfl (x_ltn rfl) rfl rfl ?_
    refine e_k 1 (f' := (if ¬ (I1 10 3) = 0 then 151 else 147, [(0, .ref 10), (1, .ref r2), (2, .int p3)], [])) rfl ?_
    refine e_if (fun c3 => ?_) (fun c3 => ?_)
    · replace hb := i_pos c3 hb
      refine e_k 1 (f' := (152, [(0, .ref 10), (1, .ref r2), (2, .int p3)], [.int 0])) rfl ?_
      obtain ⟨rfl, rfl, rfl⟩ := s_inj hb
      exact e_r rfl rfl K
    · replace hb := i_neg c3 hb
      refine e_k 2 (f' := (152, [(0, .ref 10), (1, .ref r2), (2, .int p3)], [.int 1])) rfl ?_
      obtain ⟨rfl, rfl, rfl⟩ := s_inj hb
      exact e_r rfl rfl K
  replace hb := i_neg c2 hb
  by_cases c4 : v1 = 1 ∨ v1 = 2
  · rw [show am_sw v1 482 [(0, 140), (1, 153), (2, 153), (3, 159), (4, 165), (5, 165), (6, 186), (7, 223), (8, 260), (9, 274), (10, 296), (11, 356), (12, 386), (13, 482), (14, 482), (15, 482), (16, 482), (17, 140), (18, 140), (19, 274), (20, 318), (21, 408), (22, 446), (23, 476), (24, 476), (25, 476), (26, 159), (27, 482), (28, 140), (29, 140)] = 153 from by rcases c4 with c4 | c4 <;> rw [c4] <;> rfl]
    replace hb := i_pos c4 hb
    refine e_k 2 (f' := (155, [(0, .ref 10), (1, .ref r2), (2, .int p3)], [.int 0, .ref 10])) rfl ?_
    obtain ⟨v5, I5, J5, h5, hb⟩ := oc_call hb
    refine r_cv (z := m_Verifier_pushes) (As := [.int 0]) (rest := []) rfl rfl rfl rfl rfl (x_ltn rfl) rfl rfl (E_Verifier_pushes  h5 ⟨_, rfl, ?_⟩)
    obtain ⟨o6, hb⟩ := ob_if hb
    obtain ⟨rfl, rfl, rfl⟩ := s_inj hb
    exact e_r rfl (if_pos o6) K
  replace hb := i_neg c4 hb
  by_cases c7 : v1 = 3 ∨ v1 = 26
  · rw [show am_sw v1 482 [(0, 140), (1, 153), (2, 153), (3, 159), (4, 165), (5, 165), (6, 186), (7, 223), (8, 260), (9, 274), (10, 296), (11, 356), (12, 386), (13, 482), (14, 482), (15, 482), (16, 482), (17, 140), (18, 140), (19, 274), (20, 318), (21, 408), (22, 446), (23, 476), (24, 476), (25, 476), (26, 159), (27, 482), (28, 140), (29, 140)] = 159 from by rcases c7 with c7 | c7 <;> rw [c7] <;> rfl]
    replace hb := i_pos c7 hb
    refine e_k 2 (f' := (161, [(0, .ref 10), (1, .ref r2), (2, .int p3)], [.int 1, .ref 10])) rfl ?_
    obtain ⟨v8, I8, J8, h8, hb⟩ := oc_call hb
    refine r_cv (z := m_Verifier_pushes) (As := [.int 1]) (rest := []) rfl rfl rfl rfl rfl (x_ltn rfl) rfl rfl (E_Verifier_pushes  h8 ⟨_, rfl, ?_⟩)
    obtain ⟨o9, hb⟩ := ob_if hb
    obtain ⟨rfl, rfl, rfl⟩ := s_inj hb
    exact e_r rfl (if_pos o9) K
  replace hb := i_neg c7 hb
  by_cases c10 : v1 = 4 ∨ v1 = 5
  · rw [show am_sw v1 482 [(0, 140), (1, 153), (2, 153), (3, 159), (4, 165), (5, 165), (6, 186), (7, 223), (8, 260), (9, 274), (10, 296), (11, 356), (12, 386), (13, 482), (14, 482), (15, 482), (16, 482), (17, 140), (18, 140), (19, 274), (20, 318), (21, 408), (22, 446), (23, 476), (24, 476), (25, 476), (26, 159), (27, 482), (28, 140), (29, 140)] = 165 from by rcases c10 with c10 | c10 <;> rw [c10] <;> rfl]
    replace hb := i_pos c10 hb
    refine e_k 1 (f' := (166, [(0, .ref 10), (1, .ref r2), (2, .int p3)], [.ref 10])) rfl ?_
    refine r_geti rfl (x_ltn rfl) rfl rfl ?_
    refine e_k 2 (f' := (if (I1 10 3) < 2 then 184 else 173, [(0, .ref 10), (1, .ref r2), (2, .int p3)], [])) rfl ?_
    refine e_if (fun c11 => ?_) (fun c11 => ?_)
    · replace hb := i_pos c11 hb
      refine e_k 1 (f' := (185, [(0, .ref 10), (1, .ref r2), (2, .int p3)], [.int 0])) rfl ?_
      obtain ⟨rfl, rfl, rfl⟩ := s_inj hb
      exact e_r rfl rfl K
    · replace hb := i_neg c11 hb
      refine e_k 1 (f' := (174, [(0, .ref 10), (1, .ref r2), (2, .int p3)], [.ref 10])) rfl ?_
      obtain ⟨v12, I12, J12, h12, hb⟩ := oc_call hb
      refine r_cv (z := m_Verifier_joins) (As := []) (rest := []) rfl rfl rfl rfl rfl (x_ltn rfl) rfl rfl (E_Verifier_joins  h12 ⟨_, rfl, ?_⟩)
      refine e_k 1 (f' := (if v12 = 0 then 184 else 180, [(0, .ref 10), (1, .ref r2), (2, .int p3)], [])) rfl ?_
      refine e_if (fun c13 => ?_) (fun c13 => ?_)
      · replace hb := i_pos c13 hb
        refine e_k 1 (f' := (185, [(0, .ref 10), (1, .ref r2), (2, .int p3)], [.int 0])) rfl ?_
        obtain ⟨rfl, rfl, rfl⟩ := s_inj hb
        exact e_r rfl rfl K
      · replace hb := i_neg c13 hb
        refine e_k 2 (f' := (185, [(0, .ref 10), (1, .ref r2), (2, .int p3)], [.int 1])) rfl ?_
        obtain ⟨rfl, rfl, rfl⟩ := s_inj hb
        exact e_r rfl rfl K
  replace hb := i_neg c10 hb
  by_cases c14 : v1 = 6
  · rw [show am_sw v1 482 [(0, 140), (1, 153), (2, 153), (3, 159), (4, 165), (5, 165), (6, 186), (7, 223), (8, 260), (9, 274), (10, 296), (11, 356), (12, 386), (13, 482), (14, 482), (15, 482), (16, 482), (17, 140), (18, 140), (19, 274), (20, 318), (21, 408), (22, 446), (23, 476), (24, 476), (25, 476), (26, 159), (27, 482), (28, 140), (29, 140)] = 186 from by rw [c14]; rfl]
    replace hb := i_pos c14 hb
    refine e_k 1 (f' := (187, [(0, .ref 10), (1, .ref r2), (2, .int p3)], [.ref 10])) rfl ?_
    refine r_geti rfl (x_ltn rfl) rfl rfl ?_
    refine e_k 2 (f' := (if (I1 10 3) < 2 then 221 else 194, [(0, .ref 10), (1, .ref r2), (2, .int p3)], [])) rfl ?_
    refine e_if (fun c15 => ?_) (fun c15 => ?_)
    · replace hb := i_pos c15 hb
      refine e_k 1 (f' := (222, [(0, .ref 10), (1, .ref r2), (2, .int p3)], [.int 0])) rfl ?_
      obtain ⟨rfl, rfl, rfl⟩ := s_inj hb
      exact e_r rfl rfl K
    · replace hb := i_neg c15 hb
      refine e_k 2 (f' := (196, [(0, .ref 10), (1, .ref r2), (2, .int p3)], [.int 1, .ref 10])) rfl ?_
      obtain ⟨v16, I16, J16, h16, hb⟩ := oc_call hb
      refine r_cv (z := m_Verifier_isSecret) (As := [.int 1]) (rest := []) rfl rfl rfl rfl rfl (x_ltn rfl) rfl rfl (E_Verifier_isSecret  h16 ⟨_, rfl, ?_⟩)
      refine e_k 1 (f' := (if v16 = 0 then 210 else 202, [(0, .ref 10), (1, .ref r2), (2, .int p3)], [])) rfl ?_
      refine e_if (fun c17 => ?_) (fun c17 => ?_)
      · replace hb := i_pos c17 hb
        refine e_k 1 (f' := (211, [(0, .ref 10), (1, .ref r2), (2, .int p3)], [.ref 10])) rfl ?_
        obtain ⟨v18, I18, J18, h18, hb⟩ := oc_call hb
        refine r_cv (z := m_Verifier_joins) (As := []) (rest := []) rfl rfl rfl rfl rfl (x_ltn rfl) rfl rfl (E_Verifier_joins  h18 ⟨_, rfl, ?_⟩)
        refine e_k 1 (f' := (if v18 = 0 then 221 else 217, [(0, .ref 10), (1, .ref r2), (2, .int p3)], [])) rfl ?_
        refine e_if (fun c19 => ?_) (fun c19 => ?_)
        · replace hb := i_pos c19 hb
          refine e_k 1 (f' := (222, [(0, .ref 10), (1, .ref r2), (2, .int p3)], [.int 0])) rfl ?_
          obtain ⟨rfl, rfl, rfl⟩ := s_inj hb
          exact e_r rfl rfl K
        · replace hb := i_neg c19 hb
          refine e_k 2 (f' := (222, [(0, .ref 10), (1, .ref r2), (2, .int p3)], [.int 1])) rfl ?_
          obtain ⟨rfl, rfl, rfl⟩ := s_inj hb
          exact e_r rfl rfl K
      · replace hb := i_neg c17 hb
        refine e_k 2 (f' := (204, [(0, .ref 10), (1, .ref r2), (2, .int p3)], [.int 2, .ref 10])) rfl ?_
        obtain ⟨v20, I20, J20, h20, hb⟩ := oc_call hb
        refine r_cv (z := m_Verifier_isSecret) (As := [.int 2]) (rest := []) rfl rfl rfl rfl rfl (x_ltn rfl) rfl rfl (E_Verifier_isSecret  h20 ⟨_, rfl, ?_⟩)
        refine e_k 1 (f' := (if ¬ v20 = 0 then 221 else 210, [(0, .ref 10), (1, .ref r2), (2, .int p3)], [])) rfl ?_
        refine e_if (fun c21 => ?_) (fun c21 => ?_)
        · replace hb := i_pos c21 hb
          refine e_k 1 (f' := (222, [(0, .ref 10), (1, .ref r2), (2, .int p3)], [.int 0])) rfl ?_
          obtain ⟨rfl, rfl, rfl⟩ := s_inj hb
          exact e_r rfl rfl K
        · replace hb := i_neg c21 hb
          refine e_k 1 (f' := (211, [(0, .ref 10), (1, .ref r2), (2, .int p3)], [.ref 10])) rfl ?_
          obtain ⟨v22, I22, J22, h22, hb⟩ := oc_call hb
          refine r_cv (z := m_Verifier_joins) (As := []) (rest := []) rfl rfl rfl rfl rfl (x_ltn rfl) rfl rfl (E_Verifier_joins  h22 ⟨_, rfl, ?_⟩)
          refine e_k 1 (f' := (if v22 = 0 then 221 else 217, [(0, .ref 10), (1, .ref r2), (2, .int p3)], [])) rfl ?_
          refine e_if (fun c23 => ?_) (fun c23 => ?_)
          · replace hb := i_pos c23 hb
            refine e_k 1 (f' := (222, [(0, .ref 10), (1, .ref r2), (2, .int p3)], [.int 0])) rfl ?_
            obtain ⟨rfl, rfl, rfl⟩ := s_inj hb
            exact e_r rfl rfl K
          · replace hb := i_neg c23 hb
            refine e_k 2 (f' := (222, [(0, .ref 10), (1, .ref r2), (2, .int p3)], [.int 1])) rfl ?_
            obtain ⟨rfl, rfl, rfl⟩ := s_inj hb
            exact e_r rfl rfl K
  replace hb := i_neg c14 hb
  by_cases c24 : v1 = 7
  · rw [show am_sw v1 482 [(0, 140), (1, 153), (2, 153), (3, 159), (4, 165), (5, 165), (6, 186), (7, 223), (8, 260), (9, 274), (10, 296), (11, 356), (12, 386), (13, 482), (14, 482), (15, 482), (16, 482), (17, 140), (18, 140), (19, 274), (20, 318), (21, 408), (22, 446), (23, 476), (24, 476), (25, 476), (26, 159), (27, 482), (28, 140), (29, 140)] = 223 from by rw [c24]; rfl]
    replace hb := i_pos c24 hb
    refine e_k 1 (f' := (224, [(0, .ref 10), (1, .ref r2), (2, .int p3)], [.ref 10])) rfl ?_
    refine r_geti rfl (x_ltn rfl) rfl rfl ?_
    refine e_k 2 (f' := (if (I1 10 3) < 2 then 258 else 231, [(0, .ref 10), (1, .ref r2), (2, .int p3)], [])) rfl ?_
    refine e_if (fun c25 => ?_) (fun c25 => ?_)
    · replace hb := i_pos c25 hb
      refine e_k 1 (f' := (259, [(0, .ref 10), (1, .ref r2), (2, .int p3)], [.int 0])) rfl ?_
      obtain ⟨rfl, rfl, rfl⟩ := s_inj hb
      exact e_r rfl rfl K
    · replace hb := i_neg c25 hb
      refine e_k 2 (f' := (233, [(0, .ref 10), (1, .ref r2), (2, .int p3)], [.int 1, .ref 10])) rfl ?_
      obtain ⟨v26, I26, J26, h26, hb⟩ := oc_call hb
      refine r_cv (z := m_Verifier_isSecret) (As := [.int 1]) (rest := []) rfl rfl rfl rfl rfl (x_ltn rfl) rfl rfl (E_Verifier_isSecret  h26 ⟨_, rfl, ?_⟩)
      refine e_k 1 (f' := (if v26 = 0 then 258 else 239, [(0, .ref 10), (1, .ref r2), (2, .int p3)], [])) rfl ?_
      refine e_if (fun c27 => ?_) (fun c27 => ?_)
      · replace hb := i_pos c27 hb
        refine e_k 1 (f' := (259, [(0, .ref 10), (1, .ref r2), (2, .int p3)], [.int 0])) rfl ?_
        obtain ⟨rfl, rfl, rfl⟩ := s_inj hb
        exact e_r rfl rfl K
      · replace hb := i_neg c27 hb
        refine e_k 2 (f' := (241, [(0, .ref 10), (1, .ref r2), (2, .int p3)], [.int 2, .ref 10])) rfl ?_
        obtain ⟨v28, I28, J28, h28, hb⟩ := oc_call hb
        refine r_cv (z := m_Verifier_isSecret) (As := [.int 2]) (rest := []) rfl rfl rfl rfl rfl (x_ltn rfl) rfl rfl (E_Verifier_isSecret  h28 ⟨_, rfl, ?_⟩)
        refine e_k 1 (f' := (if v28 = 0 then 258 else 247, [(0, .ref 10), (1, .ref r2), (2, .int p3)], [])) rfl ?_
        refine e_if (fun c29 => ?_) (fun c29 => ?_)
        · replace hb := i_pos c29 hb
          refine e_k 1 (f' := (259, [(0, .ref 10), (1, .ref r2), (2, .int p3)], [.int 0])) rfl ?_
          obtain ⟨rfl, rfl, rfl⟩ := s_inj hb
          exact e_r rfl rfl K
        · replace hb := i_neg c29 hb
          refine e_k 1 (f' := (248, [(0, .ref 10), (1, .ref r2), (2, .int p3)], [.ref 10])) rfl ?_
          obtain ⟨v30, I30, J30, h30, hb⟩ := oc_call hb
          refine r_cv (z := m_Verifier_joins) (As := []) (rest := []) rfl rfl rfl rfl rfl (x_ltn rfl) rfl rfl (E_Verifier_joins  h30 ⟨_, rfl, ?_⟩)
          refine e_k 1 (f' := (if v30 = 0 then 258 else 254, [(0, .ref 10), (1, .ref r2), (2, .int p3)], [])) rfl ?_
          refine e_if (fun c31 => ?_) (fun c31 => ?_)
          · replace hb := i_pos c31 hb
            refine e_k 1 (f' := (259, [(0, .ref 10), (1, .ref r2), (2, .int p3)], [.int 0])) rfl ?_
            obtain ⟨rfl, rfl, rfl⟩ := s_inj hb
            exact e_r rfl rfl K
          · replace hb := i_neg c31 hb
            refine e_k 2 (f' := (259, [(0, .ref 10), (1, .ref r2), (2, .int p3)], [.int 1])) rfl ?_
            obtain ⟨rfl, rfl, rfl⟩ := s_inj hb
            exact e_r rfl rfl K
  replace hb := i_neg c24 hb
  by_cases c32 : v1 = 8
  · rw [show am_sw v1 482 [(0, 140), (1, 153), (2, 153), (3, 159), (4, 165), (5, 165), (6, 186), (7, 223), (8, 260), (9, 274), (10, 296), (11, 356), (12, 386), (13, 482), (14, 482), (15, 482), (16, 482), (17, 140), (18, 140), (19, 274), (20, 318), (21, 408), (22, 446), (23, 476), (24, 476), (25, 476), (26, 159), (27, 482), (28, 140), (29, 140)] = 260 from by rw [c32]; rfl]
    replace hb := i_pos c32 hb
    refine e_k 1 (f' := (261, [(0, .ref 10), (1, .ref r2), (2, .int p3)], [.ref 10])) rfl ?_
    refine r_geti rfl (x_ltn rfl) rfl rfl ?_
    refine e_k 2 (f' := (if (I1 10 3) < 1 then 272 else 268, [(0, .ref 10), (1, .ref r2), (2, .int p3)], [])) rfl ?_
    refine e_if (fun c33 => ?_) (fun c33 => ?_)
    · replace hb := i_pos c33 hb
      refine e_k 1 (f' := (273, [(0, .ref 10), (1, .ref r2), (2, .int p3)], [.int 0])) rfl ?_
      obtain ⟨rfl, rfl, rfl⟩ := s_inj hb
      exact e_r rfl rfl K
    · replace hb := i_neg c33 hb
      refine e_k 2 (f' := (273, [(0, .ref 10), (1, .ref r2), (2, .int p3)], [.int 1])) rfl ?_
      obtain ⟨rfl, rfl, rfl⟩ := s_inj hb
      exact e_r rfl rfl K
  replace hb := i_neg c32 hb
  by_cases c34 : v1 = 9 ∨ v1 = 19
  · rw [show am_sw v1 482 [(0, 140), (1, 153), (2, 153), (3, 159), (4, 165), (5, 165), (6, 186), (7, 223), (8, 260), (9, 274), (10, 296), (11, 356), (12, 386), (13, 482), (14, 482), (15, 482), (16, 482), (17, 140), (18, 140), (19, 274), (20, 318), (21, 408), (22, 446), (23, 476), (24, 476), (25, 476), (26, 159), (27, 482), (28, 140), (29, 140)] = 274 from by rcases c34 with c34 | c34 <;> rw [c34] <;> rfl]
    replace hb := i_pos c34 hb
    refine e_k 1 (f' := (275, [(0, .ref 10), (1, .ref r2), (2, .int p3)], [.ref 10])) rfl ?_
    refine r_geti rfl (x_ltn rfl) rfl rfl ?_
    refine e_k 2 (f' := (if (I1 10 3) < 1 then 294 else 282, [(0, .ref 10), (1, .ref r2), (2, .int p3)], [])) rfl ?_
    refine e_if (fun c35 => ?_) (fun c35 => ?_)
    · replace hb := i_pos c35 hb
      refine e_k 1 (f' := (295, [(0, .ref 10), (1, .ref r2), (2, .int p3)], [.int 0])) rfl ?_
      obtain ⟨rfl, rfl, rfl⟩ := s_inj hb
      exact e_r rfl rfl K
    · replace hb := i_neg c35 hb
      refine e_k 2 (f' := (284, [(0, .ref 10), (1, .ref r2), (2, .int p3)], [.int 1, .ref 10])) rfl ?_
      obtain ⟨v36, I36, J36, h36, hb⟩ := oc_call hb
      refine r_cv (z := m_Verifier_isSecret) (As := [.int 1]) (rest := []) rfl rfl rfl rfl rfl (x_ltn rfl) rfl rfl (E_Verifier_isSecret  h36 ⟨_, rfl, ?_⟩)
      refine e_k 1 (f' := (if ¬ v36 = 0 then 294 else 290, [(0, .ref 10), (1, .ref r2), (2, .int p3)], [])) rfl ?_
      refine e_if (fun c37 => ?_) (fun c37 => ?_)
      · replace hb := i_pos c37 hb
        refine e_k 1 (f' := (295, [(0, .ref 10), (1, .ref r2), (2, .int p3)], [.int 0])) rfl ?_
        obtain ⟨rfl, rfl, rfl⟩ := s_inj hb
        exact e_r rfl rfl K
      · replace hb := i_neg c37 hb
        refine e_k 2 (f' := (295, [(0, .ref 10), (1, .ref r2), (2, .int p3)], [.int 1])) rfl ?_
        obtain ⟨rfl, rfl, rfl⟩ := s_inj hb
        exact e_r rfl rfl K
  replace hb := i_neg c34 hb
  by_cases c38 : v1 = 10
  · rw [show am_sw v1 482 [(0, 140), (1, 153), (2, 153), (3, 159), (4, 165), (5, 165), (6, 186), (7, 223), (8, 260), (9, 274), (10, 296), (11, 356), (12, 386), (13, 482), (14, 482), (15, 482), (16, 482), (17, 140), (18, 140), (19, 274), (20, 318), (21, 408), (22, 446), (23, 476), (24, 476), (25, 476), (26, 159), (27, 482), (28, 140), (29, 140)] = 296 from by rw [c38]; rfl]
    replace hb := i_pos c38 hb
    refine e_k 1 (f' := (297, [(0, .ref 10), (1, .ref r2), (2, .int p3)], [.ref 10])) rfl ?_
    refine r_geti rfl (x_ltn rfl) rfl rfl ?_
    refine e_k 2 (f' := (if (I1 10 3) < 1 then 316 else 304, [(0, .ref 10), (1, .ref r2), (2, .int p3)], [])) rfl ?_
    refine e_if (fun c39 => ?_) (fun c39 => ?_)
    · replace hb := i_pos c39 hb
      refine e_k 1 (f' := (317, [(0, .ref 10), (1, .ref r2), (2, .int p3)], [.int 0])) rfl ?_
      obtain ⟨rfl, rfl, rfl⟩ := s_inj hb
      exact e_r rfl rfl K
    · replace hb := i_neg c39 hb
      refine e_k 2 (f' := (306, [(0, .ref 10), (1, .ref r2), (2, .int p3)], [.int 1, .ref 10])) rfl ?_
      obtain ⟨v40, I40, J40, h40, hb⟩ := oc_call hb
      refine r_cv (z := m_Verifier_isSecret) (As := [.int 1]) (rest := []) rfl rfl rfl rfl rfl (x_ltn rfl) rfl rfl (E_Verifier_isSecret  h40 ⟨_, rfl, ?_⟩)
      refine e_k 1 (f' := (if v40 = 0 then 316 else 312, [(0, .ref 10), (1, .ref r2), (2, .int p3)], [])) rfl ?_
      refine e_if (fun c41 => ?_) (fun c41 => ?_)
      · replace hb := i_pos c41 hb
        refine e_k 1 (f' := (317, [(0, .ref 10), (1, .ref r2), (2, .int p3)], [.int 0])) rfl ?_
        obtain ⟨rfl, rfl, rfl⟩ := s_inj hb
        exact e_r rfl rfl K
      · replace hb := i_neg c41 hb
        refine e_k 2 (f' := (317, [(0, .ref 10), (1, .ref r2), (2, .int p3)], [.int 1])) rfl ?_
        obtain ⟨rfl, rfl, rfl⟩ := s_inj hb
        exact e_r rfl rfl K
  replace hb := i_neg c38 hb
  by_cases c42 : v1 = 11
  · rw [show am_sw v1 482 [(0, 140), (1, 153), (2, 153), (3, 159), (4, 165), (5, 165), (6, 186), (7, 223), (8, 260), (9, 274), (10, 296), (11, 356), (12, 386), (13, 482), (14, 482), (15, 482), (16, 482), (17, 140), (18, 140), (19, 274), (20, 318), (21, 408), (22, 446), (23, 476), (24, 476), (25, 476), (26, 159), (27, 482), (28, 140), (29, 140)] = 356 from by rw [c42]; rfl]
    replace hb := i_pos c42 hb
    refine e_k 1 (f' := (357, [(0, .ref 10), (1, .ref r2), (2, .int p3)], [.ref 10])) rfl ?_
    refine r_geti rfl (x_ltn rfl) rfl rfl ?_
    refine e_k 2 (f' := (if (I1 10 3) < 1 then 384 else 364, [(0, .ref 10), (1, .ref r2), (2, .int p3)], [])) rfl ?_
    refine e_if (fun c43 => ?_) (fun c43 => ?_)
    · replace hb := i_pos c43 hb
      refine e_k 1 (f' := (385, [(0, .ref 10), (1, .ref r2), (2, .int p3)], [.int 0])) rfl ?_
      obtain ⟨rfl, rfl, rfl⟩ := s_inj hb
      exact e_r rfl rfl K
    · replace hb := i_neg c43 hb
      refine e_k 2 (f' := (366, [(0, .ref 10), (1, .ref r2), (2, .int p3)], [.int 1, .ref 10])) rfl ?_
      obtain ⟨v44, I44, J44, h44, hb⟩ := oc_call hb
      refine r_cv (z := m_Verifier_isSecret) (As := [.int 1]) (rest := []) rfl rfl rfl rfl rfl (x_ltn rfl) rfl rfl (E_Verifier_isSecret  h44 ⟨_, rfl, ?_⟩)
      refine e_k 1 (f' := (if ¬ v44 = 0 then 384 else 372, [(0, .ref 10), (1, .ref r2), (2, .int p3)], [])) rfl ?_
      refine e_if (fun c45 => ?_) (fun c45 => ?_)
      · replace hb := i_pos c45 hb
        refine e_k 1 (f' := (385, [(0, .ref 10), (1, .ref r2), (2, .int p3)], [.int 0])) rfl ?_
        obtain ⟨rfl, rfl, rfl⟩ := s_inj hb
        exact e_r rfl rfl K
      · replace hb := i_neg c45 hb
        refine e_k 2 (f' := (374, [(0, .ref 10), (1, .ref r2), (2, .int p3)], [.int 1, .ref 10])) rfl ?_
        obtain ⟨v46, I46, J46, h46, hb⟩ := oc_call hb
        refine r_cv (z := m_Verifier_drops) (As := [.int 1]) (rest := []) rfl rfl rfl rfl rfl (x_ltn rfl) rfl rfl (E_Verifier_drops  h46 ⟨_, rfl, ?_⟩)
        refine e_k 1 (f' := (if v46 = 0 then 384 else 380, [(0, .ref 10), (1, .ref r2), (2, .int p3)], [])) rfl ?_
        refine e_if (fun c47 => ?_) (fun c47 => ?_)
        · replace hb := i_pos c47 hb
          refine e_k 1 (f' := (385, [(0, .ref 10), (1, .ref r2), (2, .int p3)], [.int 0])) rfl ?_
          obtain ⟨rfl, rfl, rfl⟩ := s_inj hb
          exact e_r rfl rfl K
        · replace hb := i_neg c47 hb
          refine e_k 2 (f' := (385, [(0, .ref 10), (1, .ref r2), (2, .int p3)], [.int 1])) rfl ?_
          obtain ⟨rfl, rfl, rfl⟩ := s_inj hb
          exact e_r rfl rfl K
  replace hb := i_neg c42 hb
  by_cases c48 : v1 = 12
  · rw [show am_sw v1 482 [(0, 140), (1, 153), (2, 153), (3, 159), (4, 165), (5, 165), (6, 186), (7, 223), (8, 260), (9, 274), (10, 296), (11, 356), (12, 386), (13, 482), (14, 482), (15, 482), (16, 482), (17, 140), (18, 140), (19, 274), (20, 318), (21, 408), (22, 446), (23, 476), (24, 476), (25, 476), (26, 159), (27, 482), (28, 140), (29, 140)] = 386 from by rw [c48]; rfl]
    replace hb := i_pos c48 hb
    refine e_k 1 (f' := (387, [(0, .ref 10), (1, .ref r2), (2, .int p3)], [.ref 10])) rfl ?_
    refine r_geti rfl (x_ltn rfl) rfl rfl ?_
    refine e_k 2 (f' := (if (I1 10 3) < 1 then 406 else 394, [(0, .ref 10), (1, .ref r2), (2, .int p3)], [])) rfl ?_
    refine e_if (fun c49 => ?_) (fun c49 => ?_)
    · replace hb := i_pos c49 hb
      refine e_k 1 (f' := (407, [(0, .ref 10), (1, .ref r2), (2, .int p3)], [.int 0])) rfl ?_
      obtain ⟨rfl, rfl, rfl⟩ := s_inj hb
      exact e_r rfl rfl K
    · replace hb := i_neg c49 hb
      refine e_k 2 (f' := (396, [(0, .ref 10), (1, .ref r2), (2, .int p3)], [.int 1, .ref 10])) rfl ?_
      obtain ⟨v50, I50, J50, h50, hb⟩ := oc_call hb
      refine r_cv (z := m_Verifier_drops) (As := [.int 1]) (rest := []) rfl rfl rfl rfl rfl (x_ltn rfl) rfl rfl (E_Verifier_drops  h50 ⟨_, rfl, ?_⟩)
      refine e_k 1 (f' := (if v50 = 0 then 406 else 402, [(0, .ref 10), (1, .ref r2), (2, .int p3)], [])) rfl ?_
      refine e_if (fun c51 => ?_) (fun c51 => ?_)
      · replace hb := i_pos c51 hb
        refine e_k 1 (f' := (407, [(0, .ref 10), (1, .ref r2), (2, .int p3)], [.int 0])) rfl ?_
        obtain ⟨rfl, rfl, rfl⟩ := s_inj hb
        exact e_r rfl rfl K
      · replace hb := i_neg c51 hb
        refine e_k 2 (f' := (407, [(0, .ref 10), (1, .ref r2), (2, .int p3)], [.int 1])) rfl ?_
        obtain ⟨rfl, rfl, rfl⟩ := s_inj hb
        exact e_r rfl rfl K
  replace hb := i_neg c48 hb
  by_cases c52 : v1 = 20
  · rw [show am_sw v1 482 [(0, 140), (1, 153), (2, 153), (3, 159), (4, 165), (5, 165), (6, 186), (7, 223), (8, 260), (9, 274), (10, 296), (11, 356), (12, 386), (13, 482), (14, 482), (15, 482), (16, 482), (17, 140), (18, 140), (19, 274), (20, 318), (21, 408), (22, 446), (23, 476), (24, 476), (25, 476), (26, 159), (27, 482), (28, 140), (29, 140)] = 318 from by rw [c52]; rfl]
    replace hb := i_pos c52 hb
    refine e_k 1 (f' := (319, [(0, .ref 10), (1, .ref r2), (2, .int p3)], [.ref 10])) rfl ?_
    refine r_geti rfl (x_ltn rfl) rfl rfl ?_
    refine e_k 2 (f' := (if (I1 10 3) < 1 then 354 else 326, [(0, .ref 10), (1, .ref r2), (2, .int p3)], [])) rfl ?_
    refine e_if (fun c53 => ?_) (fun c53 => ?_)
    · replace hb := i_pos c53 hb
      refine e_k 1 (f' := (355, [(0, .ref 10), (1, .ref r2), (2, .int p3)], [.int 0])) rfl ?_
      obtain ⟨rfl, rfl, rfl⟩ := s_inj hb
      exact e_r rfl rfl K
    · replace hb := i_neg c53 hb
      refine e_k 2 (f' := (328, [(0, .ref 10), (1, .ref r2), (2, .int p3)], [.int 1, .ref 10])) rfl ?_
      obtain ⟨v54, I54, J54, h54, hb⟩ := oc_call hb
      refine r_cv (z := m_Verifier_isSecret) (As := [.int 1]) (rest := []) rfl rfl rfl rfl rfl (x_ltn rfl) rfl rfl (E_Verifier_isSecret  h54 ⟨_, rfl, ?_⟩)
      refine e_k 1 (f' := (if ¬ v54 = 0 then 354 else 334, [(0, .ref 10), (1, .ref r2), (2, .int p3)], [])) rfl ?_
      refine e_if (fun c55 => ?_) (fun c55 => ?_)
      · replace hb := i_pos c55 hb
        refine e_k 1 (f' := (355, [(0, .ref 10), (1, .ref r2), (2, .int p3)], [.int 0])) rfl ?_
        obtain ⟨rfl, rfl, rfl⟩ := s_inj hb
        exact e_r rfl rfl K
      · replace hb := i_neg c55 hb
        refine e_k 2 (f' := (336, [(0, .ref 10), (1, .ref r2), (2, .int p3)], [.int 1, .ref 10])) rfl ?_
        obtain ⟨v56, I56, J56, h56, hb⟩ := oc_call hb
        refine r_cv (z := m_Verifier_drops) (As := [.int 1]) (rest := []) rfl rfl rfl rfl rfl (x_ltn rfl) rfl rfl (E_Verifier_drops  h56 ⟨_, rfl, ?_⟩)
        refine e_k 1 (f' := (if v56 = 0 then 354 else 342, [(0, .ref 10), (1, .ref r2), (2, .int p3)], [])) rfl ?_
        refine e_if (fun c57 => ?_) (fun c57 => ?_)
        · replace hb := i_pos c57 hb
          refine e_k 1 (f' := (355, [(0, .ref 10), (1, .ref r2), (2, .int p3)], [.int 0])) rfl ?_
          obtain ⟨rfl, rfl, rfl⟩ := s_inj hb
          exact e_r rfl rfl K
        · replace hb := i_neg c57 hb
          refine e_k 2 (f' := (344, [(0, .ref 10), (1, .ref r2), (2, .int p3)], [.int 1, .ref 10])) rfl ?_
          obtain ⟨v58, I58, J58, h58, hb⟩ := oc_call hb
          refine r_cv (z := m_Verifier_pushes) (As := [.int 1]) (rest := []) rfl rfl rfl rfl rfl (x_ltn rfl) rfl rfl (E_Verifier_pushes  h58 ⟨_, rfl, ?_⟩)
          refine e_k 1 (f' := (if v58 = 0 then 354 else 350, [(0, .ref 10), (1, .ref r2), (2, .int p3)], [])) rfl ?_
          refine e_if (fun c59 => ?_) (fun c59 => ?_)
          · replace hb := i_pos c59 hb
            refine e_k 1 (f' := (355, [(0, .ref 10), (1, .ref r2), (2, .int p3)], [.int 0])) rfl ?_
            obtain ⟨rfl, rfl, rfl⟩ := s_inj hb
            exact e_r rfl rfl K
          · replace hb := i_neg c59 hb
            refine e_k 2 (f' := (355, [(0, .ref 10), (1, .ref r2), (2, .int p3)], [.int 1])) rfl ?_
            obtain ⟨rfl, rfl, rfl⟩ := s_inj hb
            exact e_r rfl rfl K
  replace hb := i_neg c52 hb
  by_cases c60 : v1 = 21
  · rw [show am_sw v1 482 [(0, 140), (1, 153), (2, 153), (3, 159), (4, 165), (5, 165), (6, 186), (7, 223), (8, 260), (9, 274), (10, 296), (11, 356), (12, 386), (13, 482), (14, 482), (15, 482), (16, 482), (17, 140), (18, 140), (19, 274), (20, 318), (21, 408), (22, 446), (23, 476), (24, 476), (25, 476), (26, 159), (27, 482), (28, 140), (29, 140)] = 408 from by rw [c60]; rfl]
    replace hb := i_pos c60 hb
    refine e_k 1 (f' := (409, [(0, .ref 10), (1, .ref r2), (2, .int p3)], [.ref 10])) rfl ?_
    refine r_geti rfl (x_ltn rfl) rfl rfl ?_
    refine e_k 2 (f' := (if (I1 10 3) < 2 then 444 else 416, [(0, .ref 10), (1, .ref r2), (2, .int p3)], [])) rfl ?_
    refine e_if (fun c61 => ?_) (fun c61 => ?_)
    · replace hb := i_pos c61 hb
      refine e_k 1 (f' := (445, [(0, .ref 10), (1, .ref r2), (2, .int p3)], [.int 0])) rfl ?_
      obtain ⟨rfl, rfl, rfl⟩ := s_inj hb
      exact e_r rfl rfl K
    · replace hb := i_neg c61 hb
      refine e_k 2 (f' := (418, [(0, .ref 10), (1, .ref r2), (2, .int p3)], [.int 1, .ref 10])) rfl ?_
      obtain ⟨v62, I62, J62, h62, hb⟩ := oc_call hb
      refine r_cv (z := m_Verifier_isSecret) (As := [.int 1]) (rest := []) rfl rfl rfl rfl rfl (x_ltn rfl) rfl rfl (E_Verifier_isSecret  h62 ⟨_, rfl, ?_⟩)
      refine e_k 1 (f' := (if ¬ v62 = 0 then 444 else 424, [(0, .ref 10), (1, .ref r2), (2, .int p3)], [])) rfl ?_
      refine e_if (fun c63 => ?_) (fun c63 => ?_)
      · replace hb := i_pos c63 hb
        refine e_k 1 (f' := (445, [(0, .ref 10), (1, .ref r2), (2, .int p3)], [.int 0])) rfl ?_
        obtain ⟨rfl, rfl, rfl⟩ := s_inj hb
        exact e_r rfl rfl K
      · replace hb := i_neg c63 hb
        refine e_k 2 (f' := (426, [(0, .ref 10), (1, .ref r2), (2, .int p3)], [.int 2, .ref 10])) rfl ?_
        obtain ⟨v64, I64, J64, h64, hb⟩ := oc_call hb
        refine r_cv (z := m_Verifier_isSecret) (As := [.int 2]) (rest := []) rfl rfl rfl rfl rfl (x_ltn rfl) rfl rfl (E_Verifier_isSecret  h64 ⟨_, rfl, ?_⟩)
        refine e_k 1 (f' := (if ¬ v64 = 0 then 444 else 432, [(0, .ref 10), (1, .ref r2), (2, .int p3)], [])) rfl ?_
        refine e_if (fun c65 => ?_) (fun c65 => ?_)
        · replace hb := i_pos c65 hb
          refine e_k 1 (f' := (445, [(0, .ref 10), (1, .ref r2), (2, .int p3)], [.int 0])) rfl ?_
          obtain ⟨rfl, rfl, rfl⟩ := s_inj hb
          exact e_r rfl rfl K
        · replace hb := i_neg c65 hb
          refine e_k 2 (f' := (434, [(0, .ref 10), (1, .ref r2), (2, .int p3)], [.int 2, .ref 10])) rfl ?_
          obtain ⟨v66, I66, J66, h66, hb⟩ := oc_call hb
          refine r_cv (z := m_Verifier_drops) (As := [.int 2]) (rest := []) rfl rfl rfl rfl rfl (x_ltn rfl) rfl rfl (E_Verifier_drops  h66 ⟨_, rfl, ?_⟩)
          refine e_k 1 (f' := (if v66 = 0 then 444 else 440, [(0, .ref 10), (1, .ref r2), (2, .int p3)], [])) rfl ?_
          refine e_if (fun c67 => ?_) (fun c67 => ?_)
          · replace hb := i_pos c67 hb
            refine e_k 1 (f' := (445, [(0, .ref 10), (1, .ref r2), (2, .int p3)], [.int 0])) rfl ?_
            obtain ⟨rfl, rfl, rfl⟩ := s_inj hb
            exact e_r rfl rfl K
          · replace hb := i_neg c67 hb
            refine e_k 2 (f' := (445, [(0, .ref 10), (1, .ref r2), (2, .int p3)], [.int 1])) rfl ?_
            obtain ⟨rfl, rfl, rfl⟩ := s_inj hb
            exact e_r rfl rfl K
  replace hb := i_neg c60 hb
  by_cases c68 : v1 = 22
  · rw [show am_sw v1 482 [(0, 140), (1, 153), (2, 153), (3, 159), (4, 165), (5, 165), (6, 186), (7, 223), (8, 260), (9, 274), (10, 296), (11, 356), (12, 386), (13, 482), (14, 482), (15, 482), (16, 482), (17, 140), (18, 140), (19, 274), (20, 318), (21, 408), (22, 446), (23, 476), (24, 476), (25, 476), (26, 159), (27, 482), (28, 140), (29, 140)] = 446 from by rw [c68]; rfl]
    replace hb := i_pos c68 hb
    refine e_k 1 (f' := (447, [(0, .ref 10), (1, .ref r2), (2, .int p3)], [.ref 10])) rfl ?_
    refine r_geti rfl (x_ltn rfl) rfl rfl ?_
    refine e_k 2 (f' := (if (I1 10 3) < 2 then 474 else 454, [(0, .ref 10), (1, .ref r2), (2, .int p3)], [])) rfl ?_
    refine e_if (fun c69 => ?_) (fun c69 => ?_)
    · replace hb := i_pos c69 hb
      refine e_k 1 (f' := (475, [(0, .ref 10), (1, .ref r2), (2, .int p3)], [.int 0])) rfl ?_
      obtain ⟨rfl, rfl, rfl⟩ := s_inj hb
      exact e_r rfl rfl K
    · replace hb := i_neg c69 hb
      refine e_k 2 (f' := (456, [(0, .ref 10), (1, .ref r2), (2, .int p3)], [.int 2, .ref 10])) rfl ?_
      obtain ⟨v70, I70, J70, h70, hb⟩ := oc_call hb
      refine r_cv (z := m_Verifier_isSecret) (As := [.int 2]) (rest := []) rfl rfl rfl rfl rfl (x_ltn rfl) rfl rfl (E_Verifier_isSecret  h70 ⟨_, rfl, ?_⟩)
      refine e_k 1 (f' := (if ¬ v70 = 0 then 474 else 462, [(0, .ref 10), (1, .ref r2), (2, .int p3)], [])) rfl ?_
      refine e_if (fun c71 => ?_) (fun c71 => ?_)
      · replace hb := i_pos c71 hb
        refine e_k 1 (f' := (475, [(0, .ref 10), (1, .ref r2), (2, .int p3)], [.int 0])) rfl ?_
        obtain ⟨rfl, rfl, rfl⟩ := s_inj hb
        exact e_r rfl rfl K
      · replace hb := i_neg c71 hb
        refine e_k 2 (f' := (464, [(0, .ref 10), (1, .ref r2), (2, .int p3)], [.int 2, .ref 10])) rfl ?_
        obtain ⟨v72, I72, J72, h72, hb⟩ := oc_call hb
        refine r_cv (z := m_Verifier_drops) (As := [.int 2]) (rest := []) rfl rfl rfl rfl rfl (x_ltn rfl) rfl rfl (E_Verifier_drops  h72 ⟨_, rfl, ?_⟩)
        refine e_k 1 (f' := (if v72 = 0 then 474 else 470, [(0, .ref 10), (1, .ref r2), (2, .int p3)], [])) rfl ?_
        refine e_if (fun c73 => ?_) (fun c73 => ?_)
        · replace hb := i_pos c73 hb
          refine e_k 1 (f' := (475, [(0, .ref 10), (1, .ref r2), (2, .int p3)], [.int 0])) rfl ?_
          obtain ⟨rfl, rfl, rfl⟩ := s_inj hb
          exact e_r rfl rfl K
        · replace hb := i_neg c73 hb
          refine e_k 2 (f' := (475, [(0, .ref 10), (1, .ref r2), (2, .int p3)], [.int 1])) rfl ?_
          obtain ⟨rfl, rfl, rfl⟩ := s_inj hb
          exact e_r rfl rfl K
  replace hb := i_neg c68 hb
  by_cases c74 : v1 = 23 ∨ v1 = 24 ∨ v1 = 25
  · rw [show am_sw v1 482 [(0, 140), (1, 153), (2, 153), (3, 159), (4, 165), (5, 165), (6, 186), (7, 223), (8, 260), (9, 274), (10, 296), (11, 356), (12, 386), (13, 482), (14, 482), (15, 482), (16, 482), (17, 140), (18, 140), (19, 274), (20, 318), (21, 408), (22, 446), (23, 476), (24, 476), (25, 476), (26, 159), (27, 482), (28, 140), (29, 140)] = 476 from by rcases c74 with c74 | c74 | c74 <;> rw [c74] <;> rfl]
    replace hb := i_pos c74 hb
    refine e_k 2 (f' := (478, [(0, .ref 10), (1, .ref r2), (2, .int p3)], [.int p3, .ref r2])) rfl ?_
    obtain ⟨v75, I75, J75, h75, hb⟩ := oc_call hb
    refine r_cs (z := m_Verifier_keepsSecret) (As := [.ref r2, .int p3]) (rest := []) rfl rfl rfl rfl rfl rfl (E_Verifier_keepsSecret hR_r2 h75 ⟨_, rfl, ?_⟩)
    obtain ⟨o76, hb⟩ := ob_if hb
    obtain ⟨rfl, rfl, rfl⟩ := s_inj hb
    exact e_r rfl (if_pos o76) K
  replace hb := i_neg c74 hb
  rw [show am_sw v1 482 [(0, 140), (1, 153), (2, 153), (3, 159), (4, 165), (5, 165), (6, 186), (7, 223), (8, 260), (9, 274), (10, 296), (11, 356), (12, 386), (13, 482), (14, 482), (15, 482), (16, 482), (17, 140), (18, 140), (19, 274), (20, 318), (21, 408), (22, 446), (23, 476), (24, 476), (25, 476), (26, 159), (27, 482), (28, 140), (29, 140)] = 482 from (am_swd (fun e => c2 (Or.inl e)) (am_swd (fun e => c4 (Or.inl e)) (am_swd (fun e => c4 (Or.inr e)) (am_swd (fun e => c7 (Or.inl e)) (am_swd (fun e => c10 (Or.inl e)) (am_swd (fun e => c10 (Or.inr e)) (am_swd c14 (am_swd c24 (am_swd c32 (am_swd (fun e => c34 (Or.inl e)) (am_swd c38 (am_swd c42 (am_swd c48 (am_swe (am_swe (am_swe (am_swe (am_swd (fun e => c2 (Or.inr (Or.inl e))) (am_swd (fun e => c2 (Or.inr (Or.inr (Or.inl e)))) (am_swd (fun e => c34 (Or.inr e)) (am_swd c52 (am_swd c60 (am_swd c68 (am_swd (fun e => c74 (Or.inl e)) (am_swd (fun e => c74 (Or.inr (Or.inl e))) (am_swd (fun e => c74 (Or.inr (Or.inr e))) (am_swd (fun e => c7 (Or.inr e)) (am_swe (am_swd (fun e => c2 (Or.inr (Or.inr (Or.inr (Or.inl e))))) (am_swd (fun e => c2 (Or.inr (Or.inr (Or.inr (Or.inr e))))) rfl))))))))))))))))))))))))))))))]
  refine e_k 1 (f' := (483, [(0, .ref 10), (1, .ref r2), (2, .int p3)], [.int 1])) rfl ?_
  obtain ⟨rfl, rfl, rfl⟩ := s_inj hb
  exact e_r rfl rfl K
def f_Hall_startAnew_2 : Nat → Int32 → MI → MJ → M2 (Unit)
  | 0, _, _, _ => none
  | fu + 1, l1, I, J => if 3 ≤ l1 then (some ((), I, J)) else (oc (f_Hall_evenOut l1 I J) (fun v2 I2 J2 => f_Hall_startAnew_2  fu (l1 + 1) I2 J2))
theorem E_Hall_startAnew_2 {X : MX} : ∀ (fu : Nat) {l1 : Int32} {I : MI} {J : MJ} {r : (Unit)} {I' : MI} {J' : MJ}, f_Hall_startAnew_2  fu l1 I J = some (r, I', J') → am_E (gG L xs) (d + 1) m_Hall_startAnew (18, [(0, .ref 14)], []) (hX X I' J') P → am_E (gG L xs) (d + 1) m_Hall_startAnew (2, [(0, .ref 14), (1, .int l1)], []) (hX X I J) P := by
  intro fu
  induction fu with
  | zero =>
    intros
    rename_i hb _
    cases hb
  | succ fu ih =>
    intro l1 I J r I' J' hb K
    unfold f_Hall_startAnew_2 at hb
    refine e_k 3 (f' := (if 3 ≤ l1 then 18 else 7, [(0, .ref 14), (1, .int l1)], [])) rfl ?_
    refine e_if (fun c1 => ?_) (fun c1 => ?_)
    · replace hb := i_pos c1 hb
      refine e_sub (ls := [(0, .ref 14)]) rfl ⟨rfl, trivial⟩ ?_
      obtain ⟨rfl, rfl, rfl⟩ := s_inj hb
      exact K
    · replace hb := i_neg c1 hb
      refine e_k 2 (f' := (9, [(0, .ref 14), (1, .int l1)], [.int l1, .ref 14])) rfl ?_
      obtain ⟨v2, I2, J2, h2, hb⟩ := oc_call hb
      refine r_cv (z := m_Hall_evenOut) (As := [.int l1]) (rest := []) rfl rfl rfl rfl rfl (x_ltn rfl) rfl rfl (E_Hall_evenOut  h2 ⟨_, rfl, ?_⟩)
      refine e_k 2 (f' := (2, [(1, .int (l1 + 1)), (0, .ref 14)], [])) rfl ?_
      refine e_sub (ls := [(0, .ref 14), (1, .int (l1 + 1))]) rfl ⟨rfl, rfl, trivial⟩ ?_
      exact ih  hb K
def f_Hall_startAnew_53 : Nat → Int32 → Nat → Int32 → MI → MJ → M2 (Unit)
  | 0, _, _, _, _, _ => none
  | fu + 1, l1, q2, l3, I, J => if (I 14 6) ≤ l3 then (some ((), I, J)) else (if l3 < 0 ∨ 4 ≤ Int32.toNatClampNeg l3 then none else (if l3 < 0 ∨ 4 ≤ Int32.toNatClampNeg l3 then none else (pl (va_up I (37 + 21 * q2) (upd (I (37 + 21 * q2)) (Int32.toNatClampNeg l3) (I (29 + 21 * (Int32.toNatClampNeg l3)) 3))) (fun I12 => f_Hall_startAnew_53  fu l1 q2 (l3 + 1) I12 J))))
theorem E_Hall_startAnew_53 {X : MX} : ∀ (fu : Nat) {l1 : Int32} {q2 : Nat} {l3 : Int32} {I : MI} {J : MJ} {r : (Unit)} {I' : MI} {J' : MJ}, q2 < 4 → f_Hall_startAnew_53  fu l1 q2 l3 I J = some (r, I', J') → am_E (gG L xs) d m_Hall_startAnew (88, [(0, .ref 14), (1, .int l1), (2, .ref (18 + 21 * q2))], []) (hX X I' J') P → am_E (gG L xs) d m_Hall_startAnew (53, [(0, .ref 14), (1, .int l1), (2, .ref (18 + 21 * q2)), (3, .int l3)], []) (hX X I J) P := by
  intro fu
  induction fu with
  | zero =>
    intros
    rename_i hb _
    cases hb
  | succ fu ih =>
    intro l1 q2 l3 I J r I' J' hq2 hb K
    unfold f_Hall_startAnew_53 at hb
    refine e_k 2 (f' := (55, [(0, .ref 14), (1, .int l1), (2, .ref (18 + 21 * q2)), (3, .int l3)], [.ref 14, .int l3])) rfl ?_
    refine r_geti rfl (x_ltn rfl) rfl rfl ?_
    refine e_k 1 (f' := (if (I 14 6) ≤ l3 then 88 else 61, [(0, .ref 14), (1, .int l1), (2, .ref (18 + 21 * q2)), (3, .int l3)], [])) rfl ?_
    refine e_if (fun c9 => ?_) (fun c9 => ?_)
    · replace hb := i_pos c9 hb
      refine e_sub (ls := [(0, .ref 14), (1, .int l1), (2, .ref (18 + 21 * q2))]) rfl ⟨rfl, rfl, rfl, trivial⟩ ?_
      obtain ⟨rfl, rfl, rfl⟩ := s_inj hb
      exact K
    · replace hb := i_neg c9 hb
      refine e_k 1 (f' := (62, [(0, .ref 14), (1, .int l1), (2, .ref (18 + 21 * q2)), (3, .int l3)], [.ref (18 + 21 * q2)])) rfl ?_
      refine r_getr rfl (x_ltp hq2 (by decide)) (sS_p0 hq2) rfl ?_
      refine r_getr rfl (x_ltp hq2 (by decide)) (sS_p14 hq2) rfl ?_
      refine e_k 2 (f' := (70, [(0, .ref 14), (1, .int l1), (2, .ref (18 + 21 * q2)), (3, .int l3)], [.ref 14, .int l3, .ref (37 + 21 * q2)])) rfl ?_
      refine r_getr rfl (x_ltn rfl) rfl rfl ?_
      refine e_k 1 (f' := (74, [(0, .ref 14), (1, .int l1), (2, .ref (18 + 21 * q2)), (3, .int l3)], [.int l3, .ref 17, .int l3, .ref (37 + 21 * q2)])) rfl ?_
      obtain ⟨o10, hb⟩ := ob_in hb
      refine r_pald rfl o10 ?_
      refine r_getr rfl (x_ltp (vp_lt o10) (by decide)) (sS_p0 (vp_lt o10)) rfl ?_
      refine r_geti rfl (x_ltp (vp_lt o10) (by decide)) (sS_p11 (vp_lt o10)) rfl ?_
      obtain ⟨o11, hb⟩ := ob_in hb
      obtain ⟨I12, eI12, hb⟩ := p_nm hb
      refine r_iast' rfl (x_ltp hq2 (by decide)) (sS_p19 hq2) o11 eI12 ?_
      refine e_k 2 (f' := (53, [(3, .int (l3 + 1)), (0, .ref 14), (1, .int l1), (2, .ref (18 + 21 * q2))], [])) rfl ?_
      refine e_sub (ls := [(0, .ref 14), (1, .int l1), (2, .ref (18 + 21 * q2)), (3, .int (l3 + 1))]) rfl ⟨rfl, rfl, rfl, rfl, trivial⟩ ?_
      exact ih hq2 hb K
def f_Hall_startAnew_32 : Nat → Int32 → MI → MJ → M2 (Unit)
  | 0, _, _, _ => none
  | fu + 1, l1, I, J => if (I 14 6) ≤ l1 then (some ((), I, J)) else (if l1 < 0 ∨ 4 ≤ Int32.toNatClampNeg l1 then none else (oc (f_Party_startAnew (Int32.toNatClampNeg l1) I J) (fun v8 I8 J8 => oc (f_Hall_startAnew_53  gF l1 (Int32.toNatClampNeg l1) 0 I8 J8) (fun u13 I13 J13 => oc (f_Hall_settle (Int32.toNatClampNeg l1) 0 I13 J13) (fun v14 I14 J14 => f_Hall_startAnew_32  fu (l1 + 1) I14 J14)))))
theorem E_Hall_startAnew_32 {X : MX} : ∀ (fu : Nat) {l1 : Int32} {I : MI} {J : MJ} {r : (Unit)} {I' : MI} {J' : MJ}, f_Hall_startAnew_32  fu l1 I J = some (r, I', J') → am_E (gG L xs) (d + 3) m_Hall_startAnew (100, [], []) (hX X I' J') P → am_E (gG L xs) (d + 3) m_Hall_startAnew (32, [(0, .ref 14), (1, .int l1)], []) (hX X I J) P := by
  intro fu
  induction fu with
  | zero =>
    intros
    rename_i hb _
    cases hb
  | succ fu ih =>
    intro l1 I J r I' J' hb K
    unfold f_Hall_startAnew_32 at hb
    refine e_k 2 (f' := (34, [(0, .ref 14), (1, .int l1)], [.ref 14, .int l1])) rfl ?_
    refine r_geti rfl (x_ltn rfl) rfl rfl ?_
    refine e_k 1 (f' := (if (I 14 6) ≤ l1 then 100 else 40, [(0, .ref 14), (1, .int l1)], [])) rfl ?_
    refine e_if (fun c6 => ?_) (fun c6 => ?_)
    · replace hb := i_pos c6 hb
      refine e_sub (ls := []) rfl ⟨⟩ ?_
      obtain ⟨rfl, rfl, rfl⟩ := s_inj hb
      exact K
    · replace hb := i_neg c6 hb
      refine e_k 1 (f' := (41, [(0, .ref 14), (1, .int l1)], [.ref 14])) rfl ?_
      refine r_getr rfl (x_ltn rfl) rfl rfl ?_
      refine e_k 1 (f' := (45, [(0, .ref 14), (1, .int l1)], [.int l1, .ref 17])) rfl ?_
      obtain ⟨o7, hb⟩ := ob_in hb
      refine r_pald rfl o7 ?_
      refine e_k 2 (f' := (48, [(2, .ref (18 + 21 * (Int32.toNatClampNeg l1))), (0, .ref 14), (1, .int l1)], [.ref (18 + 21 * (Int32.toNatClampNeg l1))])) rfl ?_
      obtain ⟨v8, I8, J8, h8, hb⟩ := oc_call hb
      refine r_cv (z := m_Party_startAnew) (As := []) (rest := []) rfl rfl rfl rfl rfl (x_ltp (vp_lt o7) (by decide)) (sS_p0 (vp_lt o7)) rfl (E_Party_startAnew (vp_lt o7) h8 ⟨_, rfl, ?_⟩)
      refine e_k 2 (f' := (53, [(3, .int 0), (2, .ref (18 + 21 * (Int32.toNatClampNeg l1))), (0, .ref 14), (1, .int l1)], [])) rfl ?_
      refine e_sub (ls := [(0, .ref 14), (1, .int l1), (2, .ref (18 + 21 * (Int32.toNatClampNeg l1))), (3, .int 0)]) rfl ⟨rfl, rfl, rfl, rfl, trivial⟩ ?_
      obtain ⟨u13, I13, J13, h13, hb⟩ := oc_call hb
      refine E_Hall_startAnew_53  gF (vp_lt o7) h13 ?_
      refine e_k 3 (f' := (91, [(0, .ref 14), (1, .int l1), (2, .ref (18 + 21 * (Int32.toNatClampNeg l1)))], [.int 0, .ref (18 + 21 * (Int32.toNatClampNeg l1)), .ref 14])) rfl ?_
      obtain ⟨v14, I14, J14, h14, hb⟩ := oc_call hb
      refine r_cv (z := m_Hall_settle) (As := [.ref (18 + 21 * (Int32.toNatClampNeg l1)), .int 0]) (rest := []) rfl rfl rfl rfl rfl (x_ltn rfl) rfl rfl (E_Hall_settle (vp_lt o7) h14 ⟨_, rfl, ?_⟩)
      refine e_k 2 (f' := (32, [(1, .int (l1 + 1)), (0, .ref 14), (2, .ref (18 + 21 * (Int32.toNatClampNeg l1)))], [])) rfl ?_
      refine e_sub (ls := [(0, .ref 14), (1, .int (l1 + 1))]) rfl ⟨rfl, rfl, trivial⟩ ?_
      exact ih  hb K
def f_Hall_startAnew (I : MI) (J : MJ) : M2 Unit := oc (f_Hall_startAnew_2  gF 0 I J) (fun u3 I3 J3 => oc (f_Errors_wipe  I3 J3) (fun v4 I4 J4 => pl (va_up I4 14 (upd (I4 14) 9 1)) (fun I5 => oc (f_Hall_startAnew_32  gF 0 I5 J4) (fun u15 I15 J15 => some ((), I15, J15)))))
theorem E_Hall_startAnew {X : MX} {I : MI} {J : MJ} {v : Unit} {I' : MI} {J' : MJ} (hb : f_Hall_startAnew  I J = some (v, I', J')) (K : P (.inl (none)) (hX X I' J')) : am_E (gG L xs) (d + 3) m_Hall_startAnew (0, lv_args 0 [.ref 14], []) (hX X I J) P := by
  unfold f_Hall_startAnew at hb
  refine e_k 2 (f' := (2, [(1, .int 0), (0, .ref 14)], [])) rfl ?_
  refine e_sub (ls := [(0, .ref 14), (1, .int 0)]) rfl ⟨rfl, rfl, trivial⟩ ?_
  obtain ⟨u3, I3, J3, h3, hb⟩ := oc_call hb
  refine E_Hall_startAnew_2  gF  h3 ?_
  refine e_k 1 (f' := (19, [(0, .ref 14)], [.ref 14])) rfl ?_
  refine r_getr rfl (x_ltn rfl) rfl rfl ?_
  obtain ⟨v4, I4, J4, h4, hb⟩ := oc_call hb
  refine r_cv (z := m_Errors_wipe) (As := []) (rest := []) rfl rfl rfl rfl rfl (x_ltn rfl) rfl rfl (E_Errors_wipe  h4 ⟨_, rfl, ?_⟩)
  refine e_k 2 (f' := (27, [(0, .ref 14)], [.int 1, .ref 14])) rfl ?_
  obtain ⟨I5, eI5, hb⟩ := p_nm hb
  refine r_putz' rfl (x_ltn rfl) rfl rfl (Or.inr rfl) eI5 ?_
  refine e_k 2 (f' := (32, [(1, .int 0), (0, .ref 14)], [])) rfl ?_
  refine e_sub (ls := [(0, .ref 14), (1, .int 0)]) rfl ⟨rfl, rfl, trivial⟩ ?_
  obtain ⟨u15, I15, J15, h15, hb⟩ := oc_call hb
  refine E_Hall_startAnew_32  gF  h15 ?_
  obtain ⟨rfl, rfl, rfl⟩ := s_inj hb
  exact e_r rfl rfl K
def f_Hall_exchange (w2 : Nat) (p3 : Int32) (I : MI) (J : MJ) : M2 Int32 := if ¬ (I (18 + 21 * w2) 9) = 0 then (oc ((if ¬ p3 = 13 then (some ((-1), I, J)) else (oc (f_Row_at 15 16 2000 ((I (18 + 21 * w2) 8) + 2) I J) (fun v5 I5 J5 => some (v5, I5, J5)))) : M2 (Int32)) (fun v3 I3 J3 => oc (f_Hall_receives w2 v3 I3 J3) (fun v6 I6 J6 => if ¬ v6 = 0 then (oc (f_Hall_numbersOf p3 I6 J6) (fun v8 I8 J8 => oc (f_Hall_gatherErrors w2 v3 v8 I8 J8) (fun v9 I9 J9 => oc (f_Hall_conclude w2 p3 I9 J9) (fun v10 I10 J10 => oc (f_Sh_lengthOf p3 I10 J10) (fun v11 I11 J11 => oc (f_Hall_settle w2 ((I10 (18 + 21 * w2) 8) + v11) I11 J11) (fun v12 I12 J12 => some (1, I12, J12))))))) else (some (0, I6, J6))))) else (oc (f_Hall_sends w2 I J) (fun v13 I13 J13 => if ¬ v13 = 0 then (pl (va_up I13 (32 + 21 * w2) (upd (I13 (32 + 21 * w2)) 6 ((I13 (32 + 21 * w2) 6) + 1))) (fun I15 => oc (f_Hall_use w2 p3 I15 J13) (fun v16 I16 J16 => pl (va_up I16 (18 + 21 * w2) (upd (I16 (18 + 21 * w2)) 9 1)) (fun I17 => some (1, I17, J16))))) else (some (0, I13, J13))))
theorem E_Hall_exchange {w2 : Nat} {p3 : Int32} {X : MX} {I : MI} {J : MJ} {v : Int32} {I' : MI} {J' : MJ} (hw_w2 : w2 < 4) (hb : f_Hall_exchange w2 p3 I J = some (v, I', J')) (K : P (.inl (some (.int v))) (hX X I' J')) : am_E (gG L xs) (d + 4) m_Hall_exchange (0, lv_args 0 [.ref 14, .ref (18 + 21 * w2), .int p3], []) (hX X I J) P := by
  unfold f_Hall_exchange at hb
  refine e_k 1 (f' := (1, [(0, .ref 14), (1, .ref (18 + 21 * w2)), (2, .int p3)], [.ref (18 + 21 * w2)])) rfl ?_
  refine r_geti rfl (x_ltp hw_w2 (by decide)) (sS_p0 hw_w2) rfl ?_
  refine e_k 1 (f' := (if ¬ (I (18 + 21 * w2) 9) = 0 then 45 else 7, [(0, .ref 14), (1, .ref (18 + 21 * w2)), (2, .int p3)], [])) rfl ?_
  refine e_if (fun c1 => ?_) (fun c1 => ?_)
  · replace hb := i_pos c1 hb
    refine e_k 3 (f' := (if ¬ p3 = 13 then 67 else 51, [(0, .ref 14), (1, .ref (18 + 21 * w2)), (2, .int p3)], [])) rfl ?_
    obtain ⟨v3, I3, J3, h3, hb⟩ := oc_call hb
    have Kj3 : am_E (gG L xs) (d + 4) m_Hall_exchange (68, [(0, .ref 14), (1, .ref (18 + 21 * w2)), (2, .int p3)], [.int v3]) (hX X I3 J3) P := by
      refine e_k 4 (f' := (72, [(3, .int v3), (0, .ref 14), (1, .ref (18 + 21 * w2)), (2, .int p3)], [.int v3, .ref (18 + 21 * w2), .ref 14])) rfl ?_
      obtain ⟨v6, I6, J6, h6, hb⟩ := oc_call hb
      refine r_cv (z := m_Hall_receives) (As := [.ref (18 + 21 * w2), .int v3]) (rest := []) rfl rfl rfl rfl rfl (x_ltn rfl) rfl rfl (E_Hall_receives hw_w2 h6 ⟨_, rfl, ?_⟩)
      refine e_k 1 (f' := (if ¬ v6 = 0 then 80 else 78, [(3, .int v3), (0, .ref 14), (1, .ref (18 + 21 * w2)), (2, .int p3)], [])) rfl ?_
      refine e_if (fun c7 => ?_) (fun c7 => ?_)
      · replace hb := i_pos c7 hb
        refine e_k 4 (f' := (84, [(3, .int v3), (0, .ref 14), (1, .ref (18 + 21 * w2)), (2, .int p3)], [.int p3, .int v3, .ref (18 + 21 * w2), .ref 14])) rfl ?_
        obtain ⟨v8, I8, J8, h8, hb⟩ := oc_call hb
        refine r_cs (z := m_Hall_numbersOf) (As := [.int p3]) (rest := [.int v3, .ref (18 + 21 * w2), .ref 14]) rfl rfl rfl rfl rfl rfl (E_Hall_numbersOf  h8 ⟨_, rfl, ?_⟩)
        obtain ⟨v9, I9, J9, h9, hb⟩ := oc_call hb
        refine r_cv (z := m_Hall_gatherErrors) (As := [.ref (18 + 21 * w2), .int v3, .int v8]) (rest := []) rfl rfl rfl rfl rfl (x_ltn rfl) rfl rfl (E_Hall_gatherErrors hw_w2 h9 ⟨_, rfl, ?_⟩)
        refine e_k 3 (f' := (93, [(3, .int v3), (0, .ref 14), (1, .ref (18 + 21 * w2)), (2, .int p3)], [.int p3, .ref (18 + 21 * w2), .ref 14])) rfl ?_
        obtain ⟨v10, I10, J10, h10, hb⟩ := oc_call hb
        refine r_cv (z := m_Hall_conclude) (As := [.ref (18 + 21 * w2), .int p3]) (rest := []) rfl rfl rfl rfl rfl (x_ltn rfl) rfl rfl (E_Hall_conclude hw_w2 h10 ⟨_, rfl, ?_⟩)
        refine e_k 3 (f' := (99, [(3, .int v3), (0, .ref 14), (1, .ref (18 + 21 * w2)), (2, .int p3)], [.ref (18 + 21 * w2), .ref (18 + 21 * w2), .ref 14])) rfl ?_
        refine r_geti rfl (x_ltp hw_w2 (by decide)) (sS_p0 hw_w2) rfl ?_
        refine e_k 1 (f' := (103, [(3, .int v3), (0, .ref 14), (1, .ref (18 + 21 * w2)), (2, .int p3)], [.int p3, .int (I10 (18 + 21 * w2) 8), .ref (18 + 21 * w2), .ref 14])) rfl ?_
        obtain ⟨v11, I11, J11, h11, hb⟩ := oc_call hb
        refine r_cs (z := m_Sh_lengthOf) (As := [.int p3]) (rest := [.int (I10 (18 + 21 * w2) 8), .ref (18 + 21 * w2), .ref 14]) rfl rfl rfl rfl rfl rfl (E_Sh_lengthOf  h11 ⟨_, rfl, ?_⟩)
        refine e_k 1 (f' := (107, [(3, .int v3), (0, .ref 14), (1, .ref (18 + 21 * w2)), (2, .int p3)], [.int ((I10 (18 + 21 * w2) 8) + v11), .ref (18 + 21 * w2), .ref 14])) rfl ?_
        obtain ⟨v12, I12, J12, h12, hb⟩ := oc_call hb
        refine r_cv (z := m_Hall_settle) (As := [.ref (18 + 21 * w2), .int ((I10 (18 + 21 * w2) 8) + v11)]) (rest := []) rfl rfl rfl rfl rfl (x_ltn rfl) rfl rfl (E_Hall_settle hw_w2 h12 ⟨_, rfl, ?_⟩)
        refine e_k 1 (f' := (111, [(3, .int v3), (0, .ref 14), (1, .ref (18 + 21 * w2)), (2, .int p3)], [.int 1])) rfl ?_
        obtain ⟨rfl, rfl, rfl⟩ := s_inj hb
        exact e_r rfl rfl K
      · replace hb := i_neg c7 hb
        refine e_k 1 (f' := (79, [(3, .int v3), (0, .ref 14), (1, .ref (18 + 21 * w2)), (2, .int p3)], [.int 0])) rfl ?_
        obtain ⟨rfl, rfl, rfl⟩ := s_inj hb
        exact e_r rfl rfl K
    clear hb
    refine e_if (fun c4 => ?_) (fun c4 => ?_)
    · replace h3 := i_pos c4 h3
      refine e_k 1 (f' := (68, [(0, .ref 14), (1, .ref (18 + 21 * w2)), (2, .int p3)], [.int (-1)])) rfl ?_
      refine e_sub (ls := [(0, .ref 14), (1, .ref (18 + 21 * w2)), (2, .int p3)]) rfl ⟨rfl, rfl, rfl, trivial⟩ ?_
      obtain ⟨rfl, rfl, rfl⟩ := s_inj h3
      exact Kj3
    · replace h3 := i_neg c4 h3
      refine e_k 1 (f' := (52, [(0, .ref 14), (1, .ref (18 + 21 * w2)), (2, .int p3)], [.ref 14])) rfl ?_
      refine r_getr rfl (x_ltn rfl) rfl rfl ?_
      refine e_k 1 (f' := (56, [(0, .ref 14), (1, .ref (18 + 21 * w2)), (2, .int p3)], [.ref (18 + 21 * w2), .ref 15])) rfl ?_
      refine r_geti rfl (x_ltp hw_w2 (by decide)) (sS_p0 hw_w2) rfl ?_
      refine e_k 2 (f' := (61, [(0, .ref 14), (1, .ref (18 + 21 * w2)), (2, .int p3)], [.int ((I (18 + 21 * w2) 8) + 2), .ref 15])) rfl ?_
      obtain ⟨v5, I5, J5, h5, h3⟩ := oc_call h3
      refine r_cv (z := m_Row_at) (As := [.int ((I (18 + 21 * w2) 8) + 2)]) (rest := []) rfl rfl rfl rfl rfl (x_ltn rfl) rfl rfl (E_Row_at row_15 h5 ⟨_, rfl, ?_⟩)
      refine e_k 1 (f' := (68, [(0, .ref 14), (1, .ref (18 + 21 * w2)), (2, .int p3)], [.int v5])) rfl ?_
      refine e_sub (ls := [(0, .ref 14), (1, .ref (18 + 21 * w2)), (2, .int p3)]) rfl ⟨rfl, rfl, rfl, trivial⟩ ?_
      obtain ⟨rfl, rfl, rfl⟩ := s_inj h3
      exact Kj3
  · replace hb := i_neg c1 hb
    refine e_k 2 (f' := (9, [(0, .ref 14), (1, .ref (18 + 21 * w2)), (2, .int p3)], [.ref (18 + 21 * w2), .ref 14])) rfl ?_
    obtain ⟨v13, I13, J13, h13, hb⟩ := oc_call hb
    refine r_cv (z := m_Hall_sends) (As := [.ref (18 + 21 * w2)]) (rest := []) rfl rfl rfl rfl rfl (x_ltn rfl) rfl rfl (E_Hall_sends hw_w2 h13 ⟨_, rfl, ?_⟩)
    refine e_k 1 (f' := (if ¬ v13 = 0 then 17 else 15, [(0, .ref 14), (1, .ref (18 + 21 * w2)), (2, .int p3)], [])) rfl ?_
    refine e_if (fun c14 => ?_) (fun c14 => ?_)
    · replace hb := i_pos c14 hb
      refine e_k 1 (f' := (18, [(0, .ref 14), (1, .ref (18 + 21 * w2)), (2, .int p3)], [.ref (18 + 21 * w2)])) rfl ?_
      refine r_getr rfl (x_ltp hw_w2 (by decide)) (sS_p0 hw_w2) rfl ?_
      refine e_k 1 (f' := (22, [(0, .ref 14), (1, .ref (18 + 21 * w2)), (2, .int p3)], [.ref (32 + 21 * w2), .ref (32 + 21 * w2)])) rfl ?_
      refine r_geti rfl (x_ltp hw_w2 (by decide)) (sS_p14 hw_w2) rfl ?_
      refine e_k 2 (f' := (27, [(0, .ref 14), (1, .ref (18 + 21 * w2)), (2, .int p3)], [.int ((I13 (32 + 21 * w2) 6) + 1), .ref (32 + 21 * w2)])) rfl ?_
      obtain ⟨I15, eI15, hb⟩ := p_nm hb
      refine r_puti' rfl (x_ltp hw_w2 (by decide)) (sS_p14 hw_w2) rfl eI15 ?_
      refine e_k 1 (f' := (31, [(0, .ref 14), (1, .ref (18 + 21 * w2)), (2, .int p3)], [.ref (18 + 21 * w2)])) rfl ?_
      refine r_getr rfl (x_ltp hw_w2 (by decide)) (sS_p0 hw_w2) rfl ?_
      refine e_k 1 (f' := (35, [(0, .ref 14), (1, .ref (18 + 21 * w2)), (2, .int p3)], [.int p3, .ref (29 + 21 * w2)])) rfl ?_
      obtain ⟨v16, I16, J16, h16, hb⟩ := oc_call hb
      refine r_cs (z := m_Hall_use) (As := [.ref (29 + 21 * w2), .int p3]) (rest := []) rfl rfl rfl rfl rfl rfl (E_Hall_use hw_w2 h16 ⟨_, rfl, ?_⟩)
      refine e_k 2 (f' := (40, [(0, .ref 14), (1, .ref (18 + 21 * w2)), (2, .int p3)], [.int 1, .ref (18 + 21 * w2)])) rfl ?_
      obtain ⟨I17, eI17, hb⟩ := p_nm hb
      refine r_puti' rfl (x_ltp hw_w2 (by decide)) (sS_p0 hw_w2) rfl eI17 ?_
      refine e_k 1 (f' := (44, [(0, .ref 14), (1, .ref (18 + 21 * w2)), (2, .int p3)], [.int 1])) rfl ?_
      obtain ⟨rfl, rfl, rfl⟩ := s_inj hb
      exact e_r rfl rfl K
    · replace hb := i_neg c14 hb
      refine e_k 1 (f' := (16, [(0, .ref 14), (1, .ref (18 + 21 * w2)), (2, .int p3)], [.int 0])) rfl ?_
      obtain ⟨rfl, rfl, rfl⟩ := s_inj hb
      exact e_r rfl rfl K
end AUTO
