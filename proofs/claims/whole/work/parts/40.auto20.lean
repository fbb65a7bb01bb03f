section AUTO
variable {L : Nat} {xs : Nat → Int32} {d : Nat} {P : am_R → am_H → Prop}
theorem E_Translator_variable {X : MX} {I : MI} {J : MJ} {v : Int32} {I' : MI} {J' : MJ} (hb : f_Translator_variable  I J = some (v, I', J')) (K : P (.inl (some (.int v))) (hX X I' J')) : am_E (gG L xs) (d + 2) m_Translator_variable (0, lv_args 0 [.ref 3], []) (hX X I J) P := by
  unfold f_Translator_variable at hb
  refine e_k 1 (f' := (1, [(0, .ref 3)], [.ref 3])) rfl ?_
  obtain ⟨v1, I1, J1, h1, hb⟩ := oc_call hb
  refine r_cv (z := m_Translator_look) (As := []) (rest := []) rfl rfl rfl rfl rfl (x_ltn rfl) rfl rfl (E_Translator_look  h1 ⟨_, rfl, ?_⟩)
  refine e_k 2 (f' := (6, [(1, .int v1), (0, .ref 3)], [.int v1])) rfl ?_
  obtain ⟨v2, I2, J2, h2, hb⟩ := oc_call hb
  refine r_cs (z := m_Translator_isVariable) (As := [.int v1]) (rest := []) rfl rfl rfl rfl rfl rfl (E_Translator_isVariable  h2 ⟨_, rfl, ?_⟩)
  refine e_k 1 (f' := (if ¬ v2 = 0 then 18 else 12, [(1, .int v1), (0, .ref 3)], [])) rfl ?_
  refine e_if (fun c3 => ?_) (fun c3 => ?_)
  · replace hb := i_pos c3 hb
    refine e_k 1 (f' := (19, [(1, .int v1), (0, .ref 3)], [.ref 3])) rfl ?_
    obtain ⟨v4, I4, J4, h4, hb⟩ := oc_call hb
    refine r_cv (z := m_Translator_pass) (As := []) (rest := []) rfl rfl rfl rfl rfl (x_ltn rfl) rfl rfl (E_Translator_pass  h4 ⟨_, rfl, ?_⟩)
    refine e_k 3 (f' := (26, [(1, .int v1), (0, .ref 3)], [.int (v1 - 97)])) rfl ?_
    obtain ⟨rfl, rfl, rfl⟩ := s_inj hb
    exact e_r rfl rfl K
  · replace hb := i_neg c3 hb
    refine e_k 1 (f' := (13, [(1, .int v1), (0, .ref 3)], [.ref 3])) rfl ?_
    obtain ⟨v5, I5, J5, h5, hb⟩ := oc_call hb
    refine r_cv (z := m_Translator_refuse) (As := []) (rest := []) rfl rfl rfl rfl rfl (x_ltn rfl) rfl rfl (E_Translator_refuse  h5 ⟨_, rfl, ?_⟩)
    refine e_k 1 (f' := (17, [(1, .int v1), (0, .ref 3)], [.int 0])) rfl ?_
    obtain ⟨rfl, rfl, rfl⟩ := s_inj hb
    exact e_r rfl rfl K
theorem E_Translator_array {X : MX} {I : MI} {J : MJ} {v : Int32} {I' : MI} {J' : MJ} (hb : f_Translator_array  I J = some (v, I', J')) (K : P (.inl (some (.int v))) (hX X I' J')) : am_E (gG L xs) (d + 2) m_Translator_array (0, lv_args 0 [.ref 3], []) (hX X I J) P := by
  unfold f_Translator_array at hb
  refine e_k 1 (f' := (1, [(0, .ref 3)], [.ref 3])) rfl ?_
  obtain ⟨v1, I1, J1, h1, hb⟩ := oc_call hb
  refine r_cv (z := m_Translator_look) (As := []) (rest := []) rfl rfl rfl rfl rfl (x_ltn rfl) rfl rfl (E_Translator_look  h1 ⟨_, rfl, ?_⟩)
  refine e_k 2 (f' := (6, [(1, .int v1), (0, .ref 3)], [.int v1])) rfl ?_
  obtain ⟨v2, I2, J2, h2, hb⟩ := oc_call hb
  refine r_cs (z := m_Translator_isArray) (As := [.int v1]) (rest := []) rfl rfl rfl rfl rfl rfl (E_Translator_isArray  h2 ⟨_, rfl, ?_⟩)
  refine e_k 1 (f' := (if ¬ v2 = 0 then 18 else 12, [(1, .int v1), (0, .ref 3)], [])) rfl ?_
  refine e_if (fun c3 => ?_) (fun c3 => ?_)
  · replace hb := i_pos c3 hb
    refine e_k 1 (f' := (19, [(1, .int v1), (0, .ref 3)], [.ref 3])) rfl ?_
    obtain ⟨v4, I4, J4, h4, hb⟩ := oc_call hb
    refine r_cv (z := m_Translator_pass) (As := []) (rest := []) rfl rfl rfl rfl rfl (x_ltn rfl) rfl rfl (E_Translator_pass  h4 ⟨_, rfl, ?_⟩)
    refine e_k 3 (f' := (26, [(1, .int v1), (0, .ref 3)], [.int (v1 - 65)])) rfl ?_
    obtain ⟨rfl, rfl, rfl⟩ := s_inj hb
    exact e_r rfl rfl K
  · replace hb := i_neg c3 hb
    refine e_k 1 (f' := (13, [(1, .int v1), (0, .ref 3)], [.ref 3])) rfl ?_
    obtain ⟨v5, I5, J5, h5, hb⟩ := oc_call hb
    refine r_cv (z := m_Translator_refuse) (As := []) (rest := []) rfl rfl rfl rfl rfl (x_ltn rfl) rfl rfl (E_Translator_refuse  h5 ⟨_, rfl, ?_⟩)
    refine e_k 1 (f' := (17, [(1, .int v1), (0, .ref 3)], [.int 0])) rfl ?_
    obtain ⟨rfl, rfl, rfl⟩ := s_inj hb
    exact e_r rfl rfl K
theorem E_Translator_digit {X : MX} {I : MI} {J : MJ} {v : Int32} {I' : MI} {J' : MJ} (hb : f_Translator_digit  I J = some (v, I', J')) (K : P (.inl (some (.int v))) (hX X I' J')) : am_E (gG L xs) (d + 2) m_Translator_digit (0, lv_args 0 [.ref 3], []) (hX X I J) P := by
  unfold f_Translator_digit at hb
  refine e_k 1 (f' := (1, [(0, .ref 3)], [.ref 3])) rfl ?_
  obtain ⟨v1, I1, J1, h1, hb⟩ := oc_call hb
  refine r_cv (z := m_Translator_look) (As := []) (rest := []) rfl rfl rfl rfl rfl (x_ltn rfl) rfl rfl (E_Translator_look  h1 ⟨_, rfl, ?_⟩)
  refine e_k 2 (f' := (6, [(1, .int v1), (0, .ref 3)], [.int v1])) rfl ?_
  obtain ⟨v2, I2, J2, h2, hb⟩ := oc_call hb
  refine r_cs (z := m_Translator_isDigit) (As := [.int v1]) (rest := []) rfl rfl rfl rfl rfl rfl (E_Translator_isDigit  h2 ⟨_, rfl, ?_⟩)
  refine e_k 1 (f' := (if ¬ v2 = 0 then 18 else 12, [(1, .int v1), (0, .ref 3)], [])) rfl ?_
  refine e_if (fun c3 => ?_) (fun c3 => ?_)
  · replace hb := i_pos c3 hb
    refine e_k 1 (f' := (19, [(1, .int v1), (0, .ref 3)], [.ref 3])) rfl ?_
    obtain ⟨v4, I4, J4, h4, hb⟩ := oc_call hb
    refine r_cv (z := m_Translator_pass) (As := []) (rest := []) rfl rfl rfl rfl rfl (x_ltn rfl) rfl rfl (E_Translator_pass  h4 ⟨_, rfl, ?_⟩)
    refine e_k 3 (f' := (26, [(1, .int v1), (0, .ref 3)], [.int (v1 - 48)])) rfl ?_
    obtain ⟨rfl, rfl, rfl⟩ := s_inj hb
    exact e_r rfl rfl K
  · replace hb := i_neg c3 hb
    refine e_k 1 (f' := (13, [(1, .int v1), (0, .ref 3)], [.ref 3])) rfl ?_
    obtain ⟨v5, I5, J5, h5, hb⟩ := oc_call hb
    refine r_cv (z := m_Translator_refuse) (As := []) (rest := []) rfl rfl rfl rfl rfl (x_ltn rfl) rfl rfl (E_Translator_refuse  h5 ⟨_, rfl, ?_⟩)
    refine e_k 1 (f' := (17, [(1, .int v1), (0, .ref 3)], [.int 0])) rfl ?_
    obtain ⟨rfl, rfl, rfl⟩ := s_inj hb
    exact e_r rfl rfl K
theorem E_Translator_expect {p2 : Int32} {X : MX} {I : MI} {J : MJ} {v : Unit} {I' : MI} {J' : MJ} (hb : f_Translator_expect p2 I J = some (v, I', J')) (K : P (.inl (none)) (hX X I' J')) : am_E (gG L xs) (d + 2) m_Translator_expect (0, lv_args 0 [.ref 3, .int p2], []) (hX X I J) P := by
  unfold f_Translator_expect at hb
  refine e_k 1 (f' := (1, [(0, .ref 3), (1, .int p2)], [.ref 3])) rfl ?_
  obtain ⟨v1, I1, J1, h1, hb⟩ := oc_call hb
  refine r_cv (z := m_Translator_look) (As := []) (rest := []) rfl rfl rfl rfl rfl (x_ltn rfl) rfl rfl (E_Translator_look  h1 ⟨_, rfl, ?_⟩)
  refine e_k 2 (f' := (if ¬ v1 = p2 then 15 else 8, [(0, .ref 3), (1, .int p2)], [])) rfl ?_
  refine e_if (fun c2 => ?_) (fun c2 => ?_)
  · replace hb := i_pos c2 hb
    refine e_k 1 (f' := (16, [(0, .ref 3), (1, .int p2)], [.ref 3])) rfl ?_
    obtain ⟨v3, I3, J3, h3, hb⟩ := oc_call hb
    refine r_cv (z := m_Translator_refuse) (As := []) (rest := []) rfl rfl rfl rfl rfl (x_ltn rfl) rfl rfl (E_Translator_refuse  h3 ⟨_, rfl, ?_⟩)
    obtain ⟨rfl, rfl, rfl⟩ := s_inj hb
    exact e_r rfl rfl K
  · replace hb := i_neg c2 hb
    refine e_k 1 (f' := (9, [(0, .ref 3), (1, .int p2)], [.ref 3])) rfl ?_
    obtain ⟨v4, I4, J4, h4, hb⟩ := oc_call hb
    refine r_cv (z := m_Translator_pass) (As := []) (rest := []) rfl rfl rfl rfl rfl (x_ltn rfl) rfl rfl (E_Translator_pass  h4 ⟨_, rfl, ?_⟩)
    refine e_k 1 (f' := (19, [(0, .ref 3), (1, .int p2)], [])) rfl ?_
    obtain ⟨rfl, rfl, rfl⟩ := s_inj hb
    exact e_r rfl rfl K
theorem E_Translator_wantClear {p2 : Int32} {p3 : Int32} {X : MX} {I : MI} {J : MJ} {v : Unit} {I' : MI} {J' : MJ} (hb : f_Translator_wantClear p2 p3 I J = some (v, I', J')) (K : P (.inl (none)) (hX X I' J')) : am_E (gG L xs) (d + 1) m_Translator_wantClear (0, lv_args 0 [.ref 3, .int p2, .int p3], []) (hX X I J) P := by
  unfold f_Translator_wantClear at hb
  refine e_k 3 (f' := (if p2 < 13 then 12 else 6, [(0, .ref 3), (1, .int p2), (2, .int p3)], [])) rfl ?_
  refine e_if (fun c1 => ?_) (fun c1 => ?_)
  · replace hb := i_pos c1 hb
    obtain ⟨rfl, rfl, rfl⟩ := s_inj hb
    exact e_r rfl rfl K
  · replace hb := i_neg c1 hb
    refine e_k 3 (f' := (9, [(0, .ref 3), (1, .int p2), (2, .int p3)], [.int p3, .int 2, .ref 3])) rfl ?_
    obtain ⟨v2, I2, J2, h2, hb⟩ := oc_call hb
    refine r_cv (z := m_Translator_blame) (As := [.int 2, .int p3]) (rest := []) rfl rfl rfl rfl rfl (x_ltn rfl) rfl rfl (E_Translator_blame  h2 ⟨_, rfl, ?_⟩)
    obtain ⟨rfl, rfl, rfl⟩ := s_inj hb
    exact e_r rfl rfl K
theorem E_Translator_wantSecret {p2 : Int32} {p3 : Int32} {X : MX} {I : MI} {J : MJ} {v : Unit} {I' : MI} {J' : MJ} (hb : f_Translator_wantSecret p2 p3 I J = some (v, I', J')) (K : P (.inl (none)) (hX X I' J')) : am_E (gG L xs) (d + 1) m_Translator_wantSecret (0, lv_args 0 [.ref 3, .int p2, .int p3], []) (hX X I J) P := by
  unfold f_Translator_wantSecret at hb
  refine e_k 3 (f' := (if 13 ≤ p2 then 12 else 6, [(0, .ref 3), (1, .int p2), (2, .int p3)], [])) rfl ?_
  refine e_if (fun c1 => ?_) (fun c1 => ?_)
  · replace hb := i_pos c1 hb
    obtain ⟨rfl, rfl, rfl⟩ := s_inj hb
    exact e_r rfl rfl K
  · replace hb := i_neg c1 hb
    refine e_k 3 (f' := (9, [(0, .ref 3), (1, .int p2), (2, .int p3)], [.int p3, .int 2, .ref 3])) rfl ?_
    obtain ⟨v2, I2, J2, h2, hb⟩ := oc_call hb
    refine r_cv (z := m_Translator_blame) (As := [.int 2, .int p3]) (rest := []) rfl rfl rfl rfl rfl (x_ltn rfl) rfl rfl (E_Translator_blame  h2 ⟨_, rfl, ?_⟩)
    obtain ⟨rfl, rfl, rfl⟩ := s_inj hb
    exact e_r rfl rfl K
theorem E_Verifier_findOperations_8 {X : MX} {r2 : Nat} {b2 : Nat} {m2 : Nat} {p3 : Int32} (hR_r2 : isRw X r2 b2 m2) : ∀ (fu : Nat) {l2 : Int32} {l3 : Int32} {l4 : Int32} {l5 : Int32} {I : MI} {J : MJ} {r : (Unit ⊕ (Int32))} {I' : MI} {J' : MJ}, f_Verifier_findOperations_8 r2 b2 m2 p3 fu l2 l3 l4 l5 I J = some (r, I', J') → (∀ v, r = .inl v → P (.inl (none)) (hX X I' J')) → (∀ u, r = .inr u → am_E (gG L xs) (d + 3) m_Verifier_findOperations (105, [(0, .ref 10), (1, .ref r2), (3, .int u)], []) (hX X I' J') P) → am_E (gG L xs) (d + 3) m_Verifier_findOperations (8, [(0, .ref 10), (1, .ref r2), (2, .int l2), (3, .int l3), (4, .int l4), (5, .int l5)], []) (hX X I J) P := by
  intro fu
  induction fu with
  | zero =>
    intros
    rename_i hb _ _
    cases hb
  | succ fu ih =>
    intro l2 l3 l4 l5 I J r I' J' hb K1 K2
    unfold f_Verifier_findOperations_8 at hb
    refine e_k 3 (f' := (if 2000 ≤ l5 then 105 else 16, [(0, .ref 10), (1, .ref r2), (2, .int l2), (3, .int l3), (4, .int l4), (5, .int l5)], [])) rfl ?_
    refine e_if (fun c1 => ?_) (fun c1 => ?_)
    · replace hb := i_pos c1 hb
      refine e_sub (ls := [(0, .ref 10), (1, .ref r2), (3, .int l3)]) rfl ⟨rfl, rfl, rfl, trivial⟩ ?_
      obtain ⟨rfl, rfl, rfl⟩ := s_inj hb
      exact K2 _ rfl
    · replace hb := i_neg c1 hb
      refine e_k 2 (f' := (19, [(0, .ref 10), (1, .ref r2), (2, .int l2), (3, .int l3), (4, .int l4), (5, .int l5)], [.ref r2, .int l4])) rfl ?_
      refine r_geti rfl hR_r2.1 hR_r2.2.1 rfl ?_
      refine e_k 1 (f' := (if (I r2 1) ≤ l4 then 105 else 25, [(0, .ref 10), (1, .ref r2), (2, .int l2), (3, .int l3), (4, .int l4), (5, .int l5)], [])) rfl ?_
      refine e_if (fun c2 => ?_) (fun c2 => ?_)
      · replace hb := i_pos c2 hb
        refine e_sub (ls := [(0, .ref 10), (1, .ref r2), (3, .int l3)]) rfl ⟨rfl, rfl, rfl, trivial⟩ ?_
        obtain ⟨rfl, rfl, rfl⟩ := s_inj hb
        exact K2 _ rfl
      · replace hb := i_neg c2 hb
        refine e_k 2 (f' := (28, [(0, .ref 10), (1, .ref r2), (2, .int l2), (3, .int l3), (4, .int l4), (5, .int l5)], [.int l4, .ref r2])) rfl ?_
        obtain ⟨v3, I3, J3, h3, hb⟩ := oc_call hb
        refine r_cv (z := m_Row_at) (As := [.int l4]) (rest := []) rfl rfl rfl rfl rfl hR_r2.1 hR_r2.2.1 rfl (E_Row_at hR_r2 h3 ⟨_, rfl, ?_⟩)
        refine e_k 2 (f' := (33, [(3, .int v3), (0, .ref 10), (1, .ref r2), (2, .int l2), (4, .int l4), (5, .int l5)], [.int v3])) rfl ?_
        obtain ⟨v4, I4, J4, h4, hb⟩ := oc_call hb
        refine r_cs (z := m_Sh_lengthOf) (As := [.int v3]) (rest := []) rfl rfl rfl rfl rfl rfl (E_Sh_lengthOf  h4 ⟨_, rfl, ?_⟩)
        refine e_k 3 (f' := (if v4 = 0 then 65 else 43, [(6, .int v4), (3, .int v3), (0, .ref 10), (1, .ref r2), (2, .int l2), (4, .int l4), (5, .int l5)], [])) rfl ?_
        refine e_if (fun c5 => ?_) (fun c5 => ?_)
        · replace hb := i_pos c5 hb
          refine e_k 3 (f' := (69, [(6, .int v4), (3, .int v3), (0, .ref 10), (1, .ref r2), (2, .int l2), (4, .int l4), (5, .int l5)], [.int l4, .int 1, .ref 10])) rfl ?_
          obtain ⟨v6, I6, J6, h6, hb⟩ := oc_call hb
          refine r_cv (z := m_Verifier_refuse) (As := [.int 1, .int l4]) (rest := []) rfl rfl rfl rfl rfl (x_ltn rfl) rfl rfl (E_Verifier_refuse  h6 ⟨_, rfl, ?_⟩)
          obtain ⟨rfl, rfl, rfl⟩ := s_inj hb
          exact e_r rfl rfl (K1 _ rfl)
        · replace hb := i_neg c5 hb
          refine e_k 4 (f' := (49, [(6, .int v4), (3, .int v3), (0, .ref 10), (1, .ref r2), (2, .int l2), (4, .int l4), (5, .int l5)], [.ref r2, .int (l4 + v4)])) rfl ?_
          refine r_geti rfl hR_r2.1 hR_r2.2.1 rfl ?_
          refine e_k 1 (f' := (if (I4 r2 1) < (l4 + v4) then 65 else 55, [(6, .int v4), (3, .int v3), (0, .ref 10), (1, .ref r2), (2, .int l2), (4, .int l4), (5, .int l5)], [])) rfl ?_
          refine e_if (fun c7 => ?_) (fun c7 => ?_)
          · replace hb := i_pos c7 hb
            refine e_k 3 (f' := (69, [(6, .int v4), (3, .int v3), (0, .ref 10), (1, .ref r2), (2, .int l2), (4, .int l4), (5, .int l5)], [.int l4, .int 1, .ref 10])) rfl ?_
            obtain ⟨v8, I8, J8, h8, hb⟩ := oc_call hb
            refine r_cv (z := m_Verifier_refuse) (As := [.int 1, .int l4]) (rest := []) rfl rfl rfl rfl rfl (x_ltn rfl) rfl rfl (E_Verifier_refuse  h8 ⟨_, rfl, ?_⟩)
            obtain ⟨rfl, rfl, rfl⟩ := s_inj hb
            exact e_r rfl rfl (K1 _ rfl)
          · replace hb := i_neg c7 hb
            refine e_k 3 (f' := (59, [(6, .int v4), (3, .int v3), (0, .ref 10), (1, .ref r2), (2, .int l2), (4, .int l4), (5, .int l5)], [.int l2, .int l4, .ref r2])) rfl ?_
            obtain ⟨v9, I9, J9, h9, hb⟩ := oc_call hb
            refine r_cs (z := m_Verifier_namesWhatIs) (As := [.ref r2, .int l4, .int l2]) (rest := []) rfl rfl rfl rfl rfl rfl (E_Verifier_namesWhatIs hR_r2 h9 ⟨_, rfl, ?_⟩)
            refine e_k 1 (f' := (if ¬ v9 = 0 then 73 else 65, [(6, .int v4), (3, .int v3), (0, .ref 10), (1, .ref r2), (2, .int l2), (4, .int l4), (5, .int l5)], [])) rfl ?_
            refine e_if (fun c10 => ?_) (fun c10 => ?_)
            · replace hb := i_pos c10 hb
              refine e_k 1 (f' := (74, [(6, .int v4), (3, .int v3), (0, .ref 10), (1, .ref r2), (2, .int l2), (4, .int l4), (5, .int l5)], [.ref 10])) rfl ?_
              refine r_getr rfl (x_ltn rfl) rfl rfl ?_
              refine e_k 1 (f' := (79, [(6, .int v4), (3, .int v3), (0, .ref 10), (1, .ref r2), (2, .int l2), (4, .int l4), (5, .int l5)], [.int l4, .ref 11])) rfl ?_
              obtain ⟨v11, I11, J11, h11, hb⟩ := oc_call hb
              refine r_cs (z := m_Verifier_mark) (As := [.ref 11, .int l4]) (rest := []) rfl rfl rfl rfl rfl rfl (E_Verifier_mark ⟨(x_ltn rfl), rfl, rfl⟩ h11 ⟨_, rfl, ?_⟩)
              refine e_k 2 (f' := (84, [(6, .int v4), (3, .int v3), (0, .ref 10), (1, .ref r2), (2, .int l2), (4, .int l4), (5, .int l5)], [.ref 10, .ref 10])) rfl ?_
              refine r_geti rfl (x_ltn rfl) rfl rfl ?_
              refine e_k 2 (f' := (89, [(6, .int v4), (3, .int v3), (0, .ref 10), (1, .ref r2), (2, .int l2), (4, .int l4), (5, .int l5)], [.int ((I11 10 4) + 1), .ref 10])) rfl ?_
              obtain ⟨I12, eI12, hb⟩ := p_nm hb
              refine r_puti' rfl (x_ltn rfl) rfl rfl eI12 ?_
              refine e_k 4 (f' := (99, [(4, .int (l4 + v4)), (6, .int v4), (3, .int v3), (0, .ref 10), (1, .ref r2), (2, .int l2), (5, .int l5)], [])) rfl ?_
              obtain ⟨x13, ex13, hb⟩ := p_nm hb
              rw [← ex13]
              refine e_k 2 (f' := (8, [(5, .int (l5 + 1)), (4, .int x13), (6, .int v4), (3, .int v3), (0, .ref 10), (1, .ref r2), (2, .int l2)], [])) rfl ?_
              refine e_sub (ls := [(0, .ref 10), (1, .ref r2), (2, .int l2), (3, .int v3), (4, .int x13), (5, .int (l5 + 1))]) rfl ⟨rfl, rfl, rfl, rfl, rfl, rfl, trivial⟩ ?_
              exact ih  hb K1 K2
            · replace hb := i_neg c10 hb
              refine e_k 3 (f' := (69, [(6, .int v4), (3, .int v3), (0, .ref 10), (1, .ref r2), (2, .int l2), (4, .int l4), (5, .int l5)], [.int l4, .int 1, .ref 10])) rfl ?_
              obtain ⟨v14, I14, J14, h14, hb⟩ := oc_call hb
              refine r_cv (z := m_Verifier_refuse) (As := [.int 1, .int l4]) (rest := []) rfl rfl rfl rfl rfl (x_ltn rfl) rfl rfl (E_Verifier_refuse  h14 ⟨_, rfl, ?_⟩)
              obtain ⟨rfl, rfl, rfl⟩ := s_inj hb
              exact e_r rfl rfl (K1 _ rfl)
theorem E_Verifier_findOperations {r2 : Nat} {b2 : Nat} {m2 : Nat} {p3 : Int32} {X : MX} {I : MI} {J : MJ} {v : Unit} {I' : MI} {J' : MJ} (hR_r2 : isRw X r2 b2 m2) (hb : f_Verifier_findOperations r2 b2 m2 p3 I J = some (v, I', J')) (K : P (.inl (none)) (hX X I' J')) : am_E (gG L xs) (d + 3) m_Verifier_findOperations (0, lv_args 0 [.ref 10, .ref r2, .int p3], []) (hX X I J) P := by
  unfold f_Verifier_findOperations at hb
  refine e_k 6 (f' := (8, [(5, .int 0), (4, .int 0), (3, .int (-1)), (0, .ref 10), (1, .ref r2), (2, .int p3)], [])) rfl ?_
  refine e_sub (ls := [(0, .ref 10), (1, .ref r2), (2, .int p3), (3, .int (-1)), (4, .int 0), (5, .int 0)]) rfl ⟨rfl, rfl, rfl, rfl, rfl, rfl, trivial⟩ ?_
  obtain ⟨q15, I15, J15, h15, hb⟩ := oc_call hb
  refine E_Verifier_findOperations_8 hR_r2 gF  h15 (fun y15 ey15 => ?_) (fun u15 ey15 => ?_)
  · subst ey15
    replace hb := oe_l hb
    obtain ⟨rfl, rfl, rfl⟩ := s_inj hb
    exact K
  · subst ey15
    replace hb := oe_r hb
    refine e_k 2 (f' := (if u15 = 0 then 118 else 109, [(0, .ref 10), (1, .ref r2), (3, .int u15)], [])) rfl ?_
    refine e_if (fun c16 => ?_) (fun c16 => ?_)
    · replace hb := i_pos c16 hb
      obtain ⟨rfl, rfl, rfl⟩ := s_inj hb
      exact e_r rfl rfl K
    · replace hb := i_neg c16 hb
      refine e_k 3 (f' := (112, [(0, .ref 10), (1, .ref r2), (3, .int u15)], [.ref r2, .int 1, .ref 10])) rfl ?_
      refine r_geti rfl hR_r2.1 hR_r2.2.1 rfl ?_
      obtain ⟨v17, I17, J17, h17, hb⟩ := oc_call hb
      refine r_cv (z := m_Verifier_refuse) (As := [.int 1, .int (I15 r2 1)]) (rest := []) rfl rfl rfl rfl rfl (x_ltn rfl) rfl rfl (E_Verifier_refuse  h17 ⟨_, rfl, ?_⟩)
      obtain ⟨rfl, rfl, rfl⟩ := s_inj hb
      exact e_r rfl rfl K
theorem E_Verifier_findTargets_2 {X : MX} {r2 : Nat} {b2 : Nat} {m2 : Nat} (hR_r2 : isRw X r2 b2 m2) : ∀ (fu : Nat) {l2 : Int32} {I : MI} {J : MJ} {r : (Unit ⊕ (Int32))} {I' : MI} {J' : MJ}, f_Verifier_findTargets_2 r2 b2 m2 fu l2 I J = some (r, I', J') → (∀ v, r = .inl v → P (.inl (none)) (hX X I' J')) → (∀ u, r = .inr u → am_E (gG L xs) (d + 2) m_Verifier_findTargets (82, [(0, .ref 10), (2, .int u)], []) (hX X I' J') P) → am_E (gG L xs) (d + 2) m_Verifier_findTargets (2, [(0, .ref 10), (1, .ref r2), (2, .int l2)], []) (hX X I J) P := by
  intro fu
  induction fu with
  | zero =>
    intros
    rename_i hb _ _
    cases hb
  | succ fu ih =>
    intro l2 I J r I' J' hb K1 K2
    unfold f_Verifier_findTargets_2 at hb
    refine e_k 2 (f' := (4, [(0, .ref 10), (1, .ref r2), (2, .int l2)], [.ref r2, .int l2])) rfl ?_
    refine r_geti rfl hR_r2.1 hR_r2.2.1 rfl ?_
    refine e_k 1 (f' := (if (I r2 1) ≤ l2 then 104 else 10, [(0, .ref 10), (1, .ref r2), (2, .int l2)], [])) rfl ?_
    refine e_if (fun c1 => ?_) (fun c1 => ?_)
    · replace hb := i_pos c1 hb
      obtain ⟨rfl, rfl, rfl⟩ := s_inj hb
      exact e_r rfl rfl (K1 _ rfl)
    · replace hb := i_neg c1 hb
      refine e_k 1 (f' := (11, [(0, .ref 10), (1, .ref r2), (2, .int l2)], [.ref 10])) rfl ?_
      refine r_getr rfl (x_ltn rfl) rfl rfl ?_
      refine e_k 1 (f' := (15, [(0, .ref 10), (1, .ref r2), (2, .int l2)], [.int l2, .ref 11])) rfl ?_
      obtain ⟨v2, I2, J2, h2, hb⟩ := oc_call hb
      refine r_cs (z := m_Verifier_isMarked) (As := [.ref 11, .int l2]) (rest := []) rfl rfl rfl rfl rfl rfl (E_Verifier_isMarked ⟨(x_ltn rfl), rfl, rfl⟩ h2 ⟨_, rfl, ?_⟩)
      refine e_k 1 (f' := (if v2 = 0 then 29 else 21, [(0, .ref 10), (1, .ref r2), (2, .int l2)], [])) rfl ?_
      obtain ⟨v4, I4, J4, h4, hb⟩ := oc_call hb
      have Kj4 : am_E (gG L xs) (d + 2) m_Verifier_findTargets (30, [(0, .ref 10), (1, .ref r2), (2, .int l2)], [.int v4]) (hX X I4 J4) P := by
        refine e_k 4 (f' := (if v4 = 17 then 49 else 37, [(3, .int v4), (0, .ref 10), (1, .ref r2), (2, .int l2)], [])) rfl ?_
        refine e_if (fun c7 => ?_) (fun c7 => ?_)
        · replace hb := i_pos c7 hb
          refine e_k 4 (f' := (if ¬ v4 = 17 then 62 else 56, [(3, .int v4), (0, .ref 10), (1, .ref r2), (2, .int l2)], [.ref r2])) rfl ?_
          obtain ⟨v9, h9, hb⟩ := p_nn hb
          have Kj9 : am_E (gG L xs) (d + 2) m_Verifier_findTargets (65, [(0, .ref 10), (1, .ref r2), (2, .int l2)], [.int v9, .ref r2]) (hX X I4 J4) P := by
            obtain ⟨v11, I11, J11, h11, hb⟩ := oc_call hb
            refine r_cv (z := m_Row_target) (As := [.int v9]) (rest := []) rfl rfl rfl rfl rfl hR_r2.1 hR_r2.2.1 rfl (E_Row_target hR_r2 h11 ⟨_, rfl, ?_⟩)
            refine e_k 2 (f' := (71, [(4, .int v11), (0, .ref 10), (1, .ref r2), (2, .int l2)], [.ref 10])) rfl ?_
            refine r_getr rfl (x_ltn rfl) rfl rfl ?_
            refine e_k 1 (f' := (76, [(4, .int v11), (0, .ref 10), (1, .ref r2), (2, .int l2)], [.int v11, .ref 11])) rfl ?_
            obtain ⟨v12, I12, J12, h12, hb⟩ := oc_call hb
            refine r_cs (z := m_Verifier_isMarked) (As := [.ref 11, .int v11]) (rest := []) rfl rfl rfl rfl rfl rfl (E_Verifier_isMarked ⟨(x_ltn rfl), rfl, rfl⟩ h12 ⟨_, rfl, ?_⟩)
            refine e_k 1 (f' := (if ¬ v12 = 0 then 89 else 82, [(4, .int v11), (0, .ref 10), (1, .ref r2), (2, .int l2)], [])) rfl ?_
            refine e_if (fun c13 => ?_) (fun c13 => ?_)
            · replace hb := i_pos c13 hb
              refine e_k 1 (f' := (90, [(4, .int v11), (0, .ref 10), (1, .ref r2), (2, .int l2)], [.ref 10])) rfl ?_
              refine r_getr rfl (x_ltn rfl) rfl rfl ?_
              refine e_k 1 (f' := (95, [(4, .int v11), (0, .ref 10), (1, .ref r2), (2, .int l2)], [.int v11, .ref 12])) rfl ?_
              obtain ⟨v14, I14, J14, h14, hb⟩ := oc_call hb
              refine r_cs (z := m_Verifier_mark) (As := [.ref 12, .int v11]) (rest := []) rfl rfl rfl rfl rfl rfl (E_Verifier_mark ⟨(x_ltn rfl), rfl, rfl⟩ h14 ⟨_, rfl, ?_⟩)
              refine e_k 2 (f' := (2, [(2, .int (l2 + 1)), (4, .int v11), (0, .ref 10), (1, .ref r2)], [])) rfl ?_
              refine e_sub (ls := [(0, .ref 10), (1, .ref r2), (2, .int (l2 + 1))]) rfl ⟨rfl, rfl, rfl, trivial⟩ ?_
              exact ih  hb K1 K2
            · replace hb := i_neg c13 hb
              refine e_sub (ls := [(0, .ref 10), (2, .int l2)]) rfl ⟨rfl, rfl, trivial⟩ ?_
              obtain ⟨rfl, rfl, rfl⟩ := s_inj hb
              exact K2 _ rfl
          clear hb
          refine e_if (fun c10 => ?_) (fun c10 => ?_)
          · replace h9 := i_pos c10 h9
            refine e_k 3 (f' := (65, [(3, .int v4), (0, .ref 10), (1, .ref r2), (2, .int l2)], [.int (l2 + 1), .ref r2])) rfl ?_
            refine e_sub (ls := [(0, .ref 10), (1, .ref r2), (2, .int l2)]) rfl ⟨rfl, rfl, rfl, trivial⟩ ?_
            subst h9
            exact Kj9
          · replace h9 := i_neg c10 h9
            refine e_k 4 (f' := (65, [(3, .int v4), (0, .ref 10), (1, .ref r2), (2, .int l2)], [.int (l2 + 2), .ref r2])) rfl ?_
            refine e_sub (ls := [(0, .ref 10), (1, .ref r2), (2, .int l2)]) rfl ⟨rfl, rfl, rfl, trivial⟩ ?_
            subst h9
            exact Kj9
        · replace hb := i_neg c7 hb
          refine e_k 3 (f' := (if v4 = 18 then 49 else 43, [(3, .int v4), (0, .ref 10), (1, .ref r2), (2, .int l2)], [])) rfl ?_
          refine e_if (fun c15 => ?_) (fun c15 => ?_)
          · replace hb := i_pos c15 hb
            refine e_k 4 (f' := (if ¬ v4 = 17 then 62 else 56, [(3, .int v4), (0, .ref 10), (1, .ref r2), (2, .int l2)], [.ref r2])) rfl ?_
            obtain ⟨v17, h17, hb⟩ := p_nn hb
            have Kj17 : am_E (gG L xs) (d + 2) m_Verifier_findTargets (65, [(0, .ref 10), (1, .ref r2), (2, .int l2)], [.int v17, .ref r2]) (hX X I4 J4) P := by
              obtain ⟨v19, I19, J19, h19, hb⟩ := oc_call hb
              refine r_cv (z := m_Row_target) (As := [.int v17]) (rest := []) rfl rfl rfl rfl rfl hR_r2.1 hR_r2.2.1 rfl (E_Row_target hR_r2 h19 ⟨_, rfl, ?_⟩)
              refine e_k 2 (f' := (71, [(4, .int v19), (0, .ref 10), (1, .ref r2), (2, .int l2)], [.ref 10])) rfl ?_
              refine r_getr rfl (x_ltn rfl) rfl rfl ?_
              refine e_k 1 (f' := (76, [(4, .int v19), (0, .ref 10), (1, .ref r2), (2, .int l2)], [.int v19, .ref 11])) rfl ?_
              obtain ⟨v20, I20, J20, h20, hb⟩ := oc_call hb
              refine r_cs (z := m_Verifier_isMarked) (As := [.ref 11, .int v19]) (rest := []) rfl rfl rfl rfl rfl rfl (E_Verifier_isMarked ⟨(x_ltn rfl), rfl, rfl⟩ h20 ⟨_, rfl, ?_⟩)
              refine e_k 1 (f' := (if ¬ v20 = 0 then 89 else 82, [(4, .int v19), (0, .ref 10), (1, .ref r2), (2, .int l2)], [])) rfl ?_
              refine e_if (fun c21 => ?_) (fun c21 => ?_)
              · replace hb := i_pos c21 hb
                refine e_k 1 (f' := (90, [(4, .int v19), (0, .ref 10), (1, .ref r2), (2, .int l2)], [.ref 10])) rfl ?_
                refine r_getr rfl (x_ltn rfl) rfl rfl ?_
                refine e_k 1 (f' := (95, [(4, .int v19), (0, .ref 10), (1, .ref r2), (2, .int l2)], [.int v19, .ref 12])) rfl ?_
                obtain ⟨v22, I22, J22, h22, hb⟩ := oc_call hb
                refine r_cs (z := m_Verifier_mark) (As := [.ref 12, .int v19]) (rest := []) rfl rfl rfl rfl rfl rfl (E_Verifier_mark ⟨(x_ltn rfl), rfl, rfl⟩ h22 ⟨_, rfl, ?_⟩)
                refine e_k 2 (f' := (2, [(2, .int (l2 + 1)), (4, .int v19), (0, .ref 10), (1, .ref r2)], [])) rfl ?_
                refine e_sub (ls := [(0, .ref 10), (1, .ref r2), (2, .int (l2 + 1))]) rfl ⟨rfl, rfl, rfl, trivial⟩ ?_
                exact ih  hb K1 K2
              · replace hb := i_neg c21 hb
                refine e_sub (ls := [(0, .ref 10), (2, .int l2)]) rfl ⟨rfl, rfl, trivial⟩ ?_
                obtain ⟨rfl, rfl, rfl⟩ := s_inj hb
                exact K2 _ rfl
            clear hb
            refine e_if (fun c18 => ?_) (fun c18 => ?_)
            · replace h17 := i_pos c18 h17
              refine e_k 3 (f' := (65, [(3, .int v4), (0, .ref 10), (1, .ref r2), (2, .int l2)], [.int (l2 + 1), .ref r2])) rfl ?_
              refine e_sub (ls := [(0, .ref 10), (1, .ref r2), (2, .int l2)]) rfl ⟨rfl, rfl, rfl, trivial⟩ ?_
              subst h17
              exact Kj17
            · replace h17 := i_neg c18 h17
              refine e_k 4 (f' := (65, [(3, .int v4), (0, .ref 10), (1, .ref r2), (2, .int l2)], [.int (l2 + 2), .ref r2])) rfl ?_
              refine e_sub (ls := [(0, .ref 10), (1, .ref r2), (2, .int l2)]) rfl ⟨rfl, rfl, rfl, trivial⟩ ?_
              subst h17
              exact Kj17
          · replace hb := i_neg c15 hb
            refine e_k 3 (f' := (if ¬ v4 = 28 then 98 else 49, [(3, .int v4), (0, .ref 10), (1, .ref r2), (2, .int l2)], [])) rfl ?_
            refine e_if (fun c23 => ?_) (fun c23 => ?_)
            · replace hb := i_pos c23 hb
              refine e_k 2 (f' := (2, [(2, .int (l2 + 1)), (3, .int v4), (0, .ref 10), (1, .ref r2)], [])) rfl ?_
              refine e_sub (ls := [(0, .ref 10), (1, .ref r2), (2, .int (l2 + 1))]) rfl ⟨rfl, rfl, rfl, trivial⟩ ?_
              exact ih  hb K1 K2
            · replace hb := i_neg c23 hb
              refine e_k 4 (f' := (if ¬ v4 = 17 then 62 else 56, [(3, .int v4), (0, .ref 10), (1, .ref r2), (2, .int l2)], [.ref r2])) rfl ?_
              obtain ⟨v25, h25, hb⟩ := p_nn hb
              have Kj25 : am_E (gG L xs) (d + 2) m_Verifier_findTargets (65, [(0, .ref 10), (1, .ref r2), (2, .int l2)], [.int v25, .ref r2]) (hX X I4 J4) P := by
                obtain ⟨v27, I27, J27, h27, hb⟩ := oc_call hb
                refine r_cv (z := m_Row_target) (As := [.int v25]) (rest := []) rfl rfl rfl rfl rfl hR_r2.1 hR_r2.2.1 rfl (E_Row_target hR_r2 h27 ⟨_, rfl, ?_⟩)
                refine e_k 2 (f' := (71, [(4, .int v27), (0, .ref 10), (1, .ref r2), (2, .int l2)], [.ref 10])) rfl ?_
                refine r_getr rfl (x_ltn rfl) rfl rfl ?_
                refine e_k 1 (f' := (76, [(4, .int v27), (0, .ref 10), (1, .ref r2), (2, .int l2)], [.int v27, .ref 11])) rfl ?_
                obtain ⟨v28, I28, J28, h28, hb⟩ := oc_call hb
                refine r_cs (z := m_Verifier_isMarked) (As := [.ref 11, .int v27]) (rest := []) rfl rfl rfl rfl rfl rfl (E_Verifier_isMarked ⟨(x_ltn rfl), rfl, rfl⟩ h28 ⟨_, rfl, ?_⟩)
                refine e_k 1 (f' := (if ¬ v28 = 0 then 89 else 82, [(4, .int v27), (0, .ref 10), (1, .ref r2), (2, .int l2)], [])) rfl ?_
                refine e_if (fun c29 => ?_) (fun c29 => ?_)
                · replace hb := i_pos c29 hb
                  refine e_k 1 (f' := (90, [(4, .int v27), (0, .ref 10), (1, .ref r2), (2, .int l2)], [.ref 10])) rfl ?_
                  refine r_getr rfl (x_ltn rfl) rfl rfl ?_
                  refine e_k 1 (f' := (95, [(4, .int v27), (0, .ref 10), (1, .ref r2), (2, .int l2)], [.int v27, .ref 12])) rfl ?_
                  obtain ⟨v30, I30, J30, h30, hb⟩ := oc_call hb
                  refine r_cs (z := m_Verifier_mark) (As := [.ref 12, .int v27]) (rest := []) rfl rfl rfl rfl rfl rfl (E_Verifier_mark ⟨(x_ltn rfl), rfl, rfl⟩ h30 ⟨_, rfl, ?_⟩)
                  refine e_k 2 (f' := (2, [(2, .int (l2 + 1)), (4, .int v27), (0, .ref 10), (1, .ref r2)], [])) rfl ?_
                  refine e_sub (ls := [(0, .ref 10), (1, .ref r2), (2, .int (l2 + 1))]) rfl ⟨rfl, rfl, rfl, trivial⟩ ?_
                  exact ih  hb K1 K2
                · replace hb := i_neg c29 hb
                  refine e_sub (ls := [(0, .ref 10), (2, .int l2)]) rfl ⟨rfl, rfl, trivial⟩ ?_
                  obtain ⟨rfl, rfl, rfl⟩ := s_inj hb
                  exact K2 _ rfl
              clear hb
              refine e_if (fun c26 => ?_) (fun c26 => ?_)
              · replace h25 := i_pos c26 h25
                refine e_k 3 (f' := (65, [(3, .int v4), (0, .ref 10), (1, .ref r2), (2, .int l2)], [.int (l2 + 1), .ref r2])) rfl ?_
                refine e_sub (ls := [(0, .ref 10), (1, .ref r2), (2, .int l2)]) rfl ⟨rfl, rfl, rfl, trivial⟩ ?_
                subst h25
                exact Kj25
              · replace h25 := i_neg c26 h25
                refine e_k 4 (f' := (65, [(3, .int v4), (0, .ref 10), (1, .ref r2), (2, .int l2)], [.int (l2 + 2), .ref r2])) rfl ?_
                refine e_sub (ls := [(0, .ref 10), (1, .ref r2), (2, .int l2)]) rfl ⟨rfl, rfl, rfl, trivial⟩ ?_
                subst h25
                exact Kj25
      clear hb
      refine e_if (fun c5 => ?_) (fun c5 => ?_)
      · replace h4 := i_pos c5 h4
        refine e_k 1 (f' := (30, [(0, .ref 10), (1, .ref r2), (2, .int l2)], [.int (-1)])) rfl ?_
        refine e_sub (ls := [(0, .ref 10), (1, .ref r2), (2, .int l2)]) rfl ⟨rfl, rfl, rfl, trivial⟩ ?_
        obtain ⟨rfl, rfl, rfl⟩ := s_inj h4
        exact Kj4
      · replace h4 := i_neg c5 h4
        refine e_k 2 (f' := (23, [(0, .ref 10), (1, .ref r2), (2, .int l2)], [.int l2, .ref r2])) rfl ?_
        obtain ⟨v6, I6, J6, h6, h4⟩ := oc_call h4
        refine r_cv (z := m_Row_at) (As := [.int l2]) (rest := []) rfl rfl rfl rfl rfl hR_r2.1 hR_r2.2.1 rfl (E_Row_at hR_r2 h6 ⟨_, rfl, ?_⟩)
        refine e_k 1 (f' := (30, [(0, .ref 10), (1, .ref r2), (2, .int l2)], [.int v6])) rfl ?_
        refine e_sub (ls := [(0, .ref 10), (1, .ref r2), (2, .int l2)]) rfl ⟨rfl, rfl, rfl, trivial⟩ ?_
        obtain ⟨rfl, rfl, rfl⟩ := s_inj h4
        exact Kj4
theorem E_Verifier_findTargets {r2 : Nat} {b2 : Nat} {m2 : Nat} {X : MX} {I : MI} {J : MJ} {v : Unit} {I' : MI} {J' : MJ} (hR_r2 : isRw X r2 b2 m2) (hb : f_Verifier_findTargets r2 b2 m2 I J = some (v, I', J')) (K : P (.inl (none)) (hX X I' J')) : am_E (gG L xs) (d + 2) m_Verifier_findTargets (0, lv_args 0 [.ref 10, .ref r2], []) (hX X I J) P := by
  unfold f_Verifier_findTargets at hb
  refine e_k 2 (f' := (2, [(2, .int 0), (0, .ref 10), (1, .ref r2)], [])) rfl ?_
  refine e_sub (ls := [(0, .ref 10), (1, .ref r2), (2, .int 0)]) rfl ⟨rfl, rfl, rfl, trivial⟩ ?_
  obtain ⟨q31, I31, J31, h31, hb⟩ := oc_call hb
  refine E_Verifier_findTargets_2 hR_r2 gF  h31 (fun y31 ey31 => ?_) (fun u31 ey31 => ?_)
  · subst ey31
    replace hb := oe_l hb
    obtain ⟨rfl, rfl, rfl⟩ := s_inj hb
    exact K
  · subst ey31
    replace hb := oe_r hb
    refine e_k 3 (f' := (85, [(0, .ref 10), (2, .int u31)], [.int u31, .int 2, .ref 10])) rfl ?_
    obtain ⟨v32, I32, J32, h32, hb⟩ := oc_call hb
    refine r_cv (z := m_Verifier_refuse) (As := [.int 2, .int u31]) (rest := []) rfl rfl rfl rfl rfl (x_ltn rfl) rfl rfl (E_Verifier_refuse  h32 ⟨_, rfl, ?_⟩)
    obtain ⟨rfl, rfl, rfl⟩ := s_inj hb
    exact e_r rfl rfl K
theorem E_Verifier_isSecret {p2 : Int32} {X : MX} {I : MI} {J : MJ} {v : Int32} {I' : MI} {J' : MJ} (hb : f_Verifier_isSecret p2 I J = some (v, I', J')) (K : P (.inl (some (.int v))) (hX X I' J')) : am_E (gG L xs) (d + 1) m_Verifier_isSecret (0, lv_args 0 [.ref 10, .int p2], []) (hX X I J) P := by
  unfold f_Verifier_isSecret at hb
  refine e_k 1 (f' := (1, [(0, .ref 10), (1, .int p2)], [.ref 10])) rfl ?_
  refine r_getr rfl (x_ltn rfl) rfl rfl ?_
  refine e_k 1 (f' := (5, [(0, .ref 10), (1, .int p2)], [.ref 10, .ref 13])) rfl ?_
  refine r_geti rfl (x_ltn rfl) rfl rfl ?_
  refine e_k 2 (f' := (10, [(0, .ref 10), (1, .int p2)], [.int ((I 10 3) - p2), .ref 13])) rfl ?_
  obtain ⟨v1, I1, J1, h1, hb⟩ := oc_call hb
  refine r_cs (z := m_Verifier_isMarked) (As := [.ref 13, .int ((I 10 3) - p2)]) (rest := []) rfl rfl rfl rfl rfl rfl (E_Verifier_isMarked ⟨(x_ltn rfl), rfl, rfl⟩ h1 ⟨_, rfl, ?_⟩)
  obtain ⟨o2, hb⟩ := ob_if hb
  obtain ⟨rfl, rfl, rfl⟩ := s_inj hb
  exact e_r rfl (if_pos o2) K
theorem E_Verifier_joins {X : MX} {I : MI} {J : MJ} {v : Int32} {I' : MI} {J' : MJ} (hb : f_Verifier_joins  I J = some (v, I', J')) (K : P (.inl (some (.int v))) (hX X I' J')) : am_E (gG L xs) (d + 2) m_Verifier_joins (0, lv_args 0 [.ref 10], []) (hX X I J) P := by
  unfold f_Verifier_joins at hb
  refine e_k 2 (f' := (2, [(0, .ref 10)], [.int 1, .ref 10])) rfl ?_
  obtain ⟨v1, I1, J1, h1, hb⟩ := oc_call hb
  refine r_cv (z := m_Verifier_isSecret) (As := [.int 1]) (rest := []) rfl rfl rfl rfl rfl (x_ltn rfl) rfl rfl (E_Verifier_isSecret  h1 ⟨_, rfl, ?_⟩)
  refine e_k 1 (f' := (if ¬ v1 = 0 then 16 else 8, [(0, .ref 10)], [])) rfl ?_
  obtain ⟨v3, I3, J3, h3, hb⟩ := oc_call hb
  have Kj3 : am_E (gG L xs) (d + 2) m_Verifier_joins (21, [(0, .ref 10)], [.int v3]) (hX X I3 J3) P := by
    refine e_k 3 (f' := (24, [(1, .int v3), (0, .ref 10)], [.int 2, .ref 10])) rfl ?_
    obtain ⟨v7, I7, J7, h7, hb⟩ := oc_call hb
    refine r_cv (z := m_Verifier_drops) (As := [.int 2]) (rest := []) rfl rfl rfl rfl rfl (x_ltn rfl) rfl rfl (E_Verifier_drops  h7 ⟨_, rfl, ?_⟩)
    refine e_k 1 (f' := (if v7 = 0 then 42 else 30, [(1, .int v3), (0, .ref 10)], [])) rfl ?_
    refine e_if (fun c8 => ?_) (fun c8 => ?_)
    · replace hb := i_pos c8 hb
      refine e_k 1 (f' := (43, [(1, .int v3), (0, .ref 10)], [.int 0])) rfl ?_
      obtain ⟨rfl, rfl, rfl⟩ := s_inj hb
      exact e_r rfl rfl K
    · replace hb := i_neg c8 hb
      refine e_k 2 (f' := (32, [(1, .int v3), (0, .ref 10)], [.int v3, .ref 10])) rfl ?_
      obtain ⟨v9, I9, J9, h9, hb⟩ := oc_call hb
      refine r_cv (z := m_Verifier_pushes) (As := [.int v3]) (rest := []) rfl rfl rfl rfl rfl (x_ltn rfl) rfl rfl (E_Verifier_pushes  h9 ⟨_, rfl, ?_⟩)
      refine e_k 1 (f' := (if v9 = 0 then 42 else 38, [(1, .int v3), (0, .ref 10)], [])) rfl ?_
      refine e_if (fun c10 => ?_) (fun c10 => ?_)
      · replace hb := i_pos c10 hb
        refine e_k 1 (f' := (43, [(1, .int v3), (0, .ref 10)], [.int 0])) rfl ?_
        obtain ⟨rfl, rfl, rfl⟩ := s_inj hb
        exact e_r rfl rfl K
      · replace hb := i_neg c10 hb
        refine e_k 2 (f' := (43, [(1, .int v3), (0, .ref 10)], [.int 1])) rfl ?_
        obtain ⟨rfl, rfl, rfl⟩ := s_inj hb
        exact e_r rfl rfl K
  clear hb
  refine e_if (fun c4 => ?_) (fun c4 => ?_)
  · replace h3 := i_pos c4 h3
    refine e_k 2 (f' := (21, [(0, .ref 10)], [.int 1])) rfl ?_
    refine e_sub (ls := [(0, .ref 10)]) rfl ⟨rfl, trivial⟩ ?_
    obtain ⟨rfl, rfl, rfl⟩ := s_inj h3
    exact Kj3
  · replace h3 := i_neg c4 h3
    refine e_k 2 (f' := (10, [(0, .ref 10)], [.int 2, .ref 10])) rfl ?_
    obtain ⟨v5, I5, J5, h5, h3⟩ := oc_call h3
    refine r_cv (z := m_Verifier_isSecret) (As := [.int 2]) (rest := []) rfl rfl rfl rfl rfl (x_ltn rfl) rfl rfl (E_Verifier_isSecret  h5 ⟨_, rfl, ?_⟩)
    refine e_k 1 (f' := (if v5 = 0 then 20 else 16, [(0, .ref 10)], [])) rfl ?_
    refine e_if (fun c6 => ?_) (fun c6 => ?_)
    · replace h3 := i_pos c6 h3
      refine e_k 1 (f' := (21, [(0, .ref 10)], [.int 0])) rfl ?_
      refine e_sub (ls := [(0, .ref 10)]) rfl ⟨rfl, trivial⟩ ?_
      obtain ⟨rfl, rfl, rfl⟩ := s_inj h3
      exact Kj3
    · replace h3 := i_neg c6 h3
      refine e_k 2 (f' := (21, [(0, .ref 10)], [.int 1])) rfl ?_
      refine e_sub (ls := [(0, .ref 10)]) rfl ⟨rfl, trivial⟩ ?_
      obtain ⟨rfl, rfl, rfl⟩ := s_inj h3
      exact Kj3
theorem E_Law_output {p2 : Int32} {p3 : Int32} {X : MX} {I : MI} {J : MJ} {v : (Int32 ⊕ Nat)} {X' : MX} {I' : MI} {J' : MJ} (hb : f_Law_output p2 p3 X I J = some (v, X', I', J')) (K1 : ∀ u, v = .inl u → P (.inl (some (.int u))) (hX X' I' J')) (K2 : ∀ x, v = .inr x → P (.inr x) (am_thr (hX X' I' J'))) : am_E (gG L xs) (d + 6) m_Law_output (0, lv_args 0 [.ref 0, .int p2, .int p3, .ref 168], []) (hX X I J) P := by
  unfold f_Law_output at hb
  refine e_k 5 (f' := (5, [(0, .ref 0), (1, .int p2), (2, .int p3), (3, .ref 168)], [.int p3, .int p2, .ref 0, .int 0, .ref 168])) rfl ?_
  obtain ⟨q1, X1, I1, J1, h1, hb⟩ := ob_call hb
  refine r_tv (z := m_Sh_output) (As := [.int p2, .int p3]) (rest := [.int 0, .ref 168]) rfl rfl rfl rfl rfl (x_ltn rfl) rfl rfl (E_Sh_output  h1 (fun y1 e1 => Or.inl ⟨_, rfl, ?_⟩) (fun y1 e1 => Or.inr ⟨_, rfl, ?_⟩))
  · subst e1
    replace hb := oe_l hb
    obtain ⟨o2, hb⟩ := o8_call hb
    obtain ⟨o3, hb⟩ := ob_in hb
    obtain ⟨J4, eJ4, hb⟩ := p_nm hb
    refine r_last' rfl o2.1 o2.2.2 o3 eJ4 ?_
    refine e_k 2 (f' := (17, [(0, .ref 0), (1, .int p2), (2, .int p3), (3, .ref 168)], [.int 0])) rfl ?_
    obtain ⟨rfl, rfl, rfl, rfl⟩ := s_inx hb
    exact e_r rfl rfl (K1 _ rfl)
  · subst e1
    replace hb := oe_r hb
    obtain ⟨rfl, rfl, rfl, rfl⟩ := s_inx hb
    exact K2 _ rfl
theorem E_Law_clear {p2 : Int32} {p3 : Int32} {X : MX} {I : MI} {J : MJ} {v : (Int32 ⊕ Nat)} {X' : MX} {I' : MI} {J' : MJ} (hb : f_Law_clear p2 p3 X I J = some (v, X', I', J')) (K1 : ∀ u, v = .inl u → P (.inl (some (.int u))) (hX X' I' J')) (K2 : ∀ x, v = .inr x → P (.inr x) (am_thr (hX X' I' J'))) : am_E (gG L xs) (d + 6) m_Law_clear (0, lv_args 0 [.ref 0, .int p2, .int p3, .ref 168], []) (hX X I J) P := by
  unfold f_Law_clear at hb
  refine e_k 5 (f' := (5, [(0, .ref 0), (1, .int p2), (2, .int p3), (3, .ref 168)], [.int p3, .int p2, .ref 0, .int 0, .ref 168])) rfl ?_
  obtain ⟨q1, I1, J1, h1, hb⟩ := oc_call hb
  refine r_tv (z := m_Sh_clear) (As := [.int p2, .int p3]) (rest := [.int 0, .ref 168]) rfl rfl rfl rfl rfl (x_ltn rfl) rfl rfl (E_Sh_clear  h1 (fun y1 e1 => Or.inl ⟨_, rfl, ?_⟩) (fun y1 e1 => Or.inr ⟨_, rfl, ?_⟩))
  · subst e1
    replace hb := oe_l hb
    obtain ⟨o2, hb⟩ := o8_call hb
    obtain ⟨o3, hb⟩ := ob_in hb
    obtain ⟨J4, eJ4, hb⟩ := p_nm hb
    refine r_last' rfl o2.1 o2.2.2 o3 eJ4 ?_
    refine e_k 2 (f' := (17, [(0, .ref 0), (1, .int p2), (2, .int p3), (3, .ref 168)], [.int 0])) rfl ?_
    obtain ⟨rfl, rfl, rfl, rfl⟩ := s_inx hb
    exact e_r rfl rfl (K1 _ rfl)
  · subst e1
    replace hb := oe_r hb
    obtain ⟨rfl, rfl, rfl, rfl⟩ := s_inx hb
    exact K2 _ rfl
theorem E_Sh_hall {p2 : Int32} {p3 : Int64} {p4 : Int32} {X : MX} {I : MI} {J : MJ} {v : Int32} {I' : MI} {J' : MJ} (hb : f_Sh_hall p2 p3 p4 I J = some (v, I', J')) (K : P (.inl (some (.int v))) (hX X I' J')) : am_E (gG L xs) (d + 3) m_Sh_hall (0, lv_args 0 [.ref 0, .int p2, .long p3, .int p4], []) (hX X I J) P := by
  unfold f_Sh_hall at hb
  refine e_k 3 (f' := (if p2 < 2 then 22 else 5, [(0, .ref 0), (1, .int p2), (2, .long p3), (4, .int p4)], [])) rfl ?_
  refine e_if (fun c1 => ?_) (fun c1 => ?_)
  · replace hb := i_pos c1 hb
    refine e_k 1 (f' := (23, [(0, .ref 0), (1, .int p2), (2, .long p3), (4, .int p4)], [.int 0])) rfl ?_
    obtain ⟨rfl, rfl, rfl⟩ := s_inj hb
    exact e_r rfl rfl K
  · replace hb := i_neg c1 hb
    refine e_k 3 (f' := (if 4 < p2 then 22 else 10, [(0, .ref 0), (1, .int p2), (2, .long p3), (4, .int p4)], [])) rfl ?_
    refine e_if (fun c2 => ?_) (fun c2 => ?_)
    · replace hb := i_pos c2 hb
      refine e_k 1 (f' := (23, [(0, .ref 0), (1, .int p2), (2, .long p3), (4, .int p4)], [.int 0])) rfl ?_
      obtain ⟨rfl, rfl, rfl⟩ := s_inj hb
      exact e_r rfl rfl K
    · replace hb := i_neg c2 hb
      refine e_k 3 (f' := (if p4 < 1 then 22 else 16, [(0, .ref 0), (1, .int p2), (2, .long p3), (4, .int p4)], [])) rfl ?_
      refine e_if (fun c3 => ?_) (fun c3 => ?_)
      · replace hb := i_pos c3 hb
        refine e_k 1 (f' := (23, [(0, .ref 0), (1, .int p2), (2, .long p3), (4, .int p4)], [.int 0])) rfl ?_
        obtain ⟨rfl, rfl, rfl⟩ := s_inj hb
        exact e_r rfl rfl K
      · replace hb := i_neg c3 hb
        refine e_k 3 (f' := (if p4 ≤ 4 then 24 else 22, [(0, .ref 0), (1, .int p2), (2, .long p3), (4, .int p4)], [])) rfl ?_
        refine e_if (fun c4 => ?_) (fun c4 => ?_)
        · replace hb := i_pos c4 hb
          refine e_k 1 (f' := (25, [(0, .ref 0), (1, .int p2), (2, .long p3), (4, .int p4)], [.ref 0])) rfl ?_
          refine r_geti rfl (x_ltn rfl) rfl rfl ?_
          refine e_k 2 (f' := (if (I 0 4) < 300 then 36 else 34, [(0, .ref 0), (1, .int p2), (2, .long p3), (4, .int p4)], [])) rfl ?_
          refine e_if (fun c5 => ?_) (fun c5 => ?_)
          · replace hb := i_pos c5 hb
            refine e_k 2 (f' := (38, [(0, .ref 0), (1, .int p2), (2, .long p3), (4, .int p4)], [.ref 0, .ref 0])) rfl ?_
            refine r_geti rfl (x_ltn rfl) rfl rfl ?_
            refine e_k 2 (f' := (43, [(0, .ref 0), (1, .int p2), (2, .long p3), (4, .int p4)], [.int ((I 0 4) + 1), .ref 0])) rfl ?_
            obtain ⟨I6, eI6, hb⟩ := p_nm hb
            refine r_puti' rfl (x_ltn rfl) rfl rfl eI6 ?_
            refine e_k 1 (f' := (47, [(0, .ref 0), (1, .int p2), (2, .long p3), (4, .int p4)], [.ref 0])) rfl ?_
            refine r_getr rfl (x_ltn rfl) rfl rfl ?_
            refine e_k 3 (f' := (54, [(0, .ref 0), (1, .int p2), (2, .long p3), (4, .int p4)], [.int p4, .long p3, .int p2, .ref 14])) rfl ?_
            obtain ⟨v7, I7, J7, h7, hb⟩ := oc_call hb
            refine r_cv (z := m_Hall_renew) (As := [.int p2, .long p3, .int p4]) (rest := []) rfl rfl rfl rfl rfl (x_ltn rfl) rfl rfl (E_Hall_renew  h7 ⟨_, rfl, ?_⟩)
            refine e_k 1 (f' := (58, [(0, .ref 0), (1, .int p2), (2, .long p3), (4, .int p4)], [.int 1])) rfl ?_
            obtain ⟨rfl, rfl, rfl⟩ := s_inj hb
            exact e_r rfl rfl K
          · replace hb := i_neg c5 hb
            refine e_k 1 (f' := (35, [(0, .ref 0), (1, .int p2), (2, .long p3), (4, .int p4)], [.int 0])) rfl ?_
            obtain ⟨rfl, rfl, rfl⟩ := s_inj hb
            exact e_r rfl rfl K
        · replace hb := i_neg c4 hb
          refine e_k 1 (f' := (23, [(0, .ref 0), (1, .int p2), (2, .long p3), (4, .int p4)], [.int 0])) rfl ?_
          obtain ⟨rfl, rfl, rfl⟩ := s_inj hb
          exact e_r rfl rfl K
set_option maxRecDepth 20000 in
theorem E_Sh_deal {p2 : Int32} {p3 : Int32} {X : MX} {I : MI} {J : MJ} {v : (Int32 ⊕ Nat)} {I' : MI} {J' : MJ} (hb : f_Sh_deal p2 p3 I J = some (v, I', J')) (K1 : ∀ u, v = .inl u → P (.inl (some (.int u))) (hX X I' J')) (K2 : ∀ x, v = .inr x → P (.inr x) (am_thr (hX X I' J'))) : am_E (gG L xs) (d + 5) m_Sh_deal (0, lv_args 0 [.ref 0, .int p2, .int p3], []) (hX X I J) P := by
  unfold f_Sh_deal at hb
  refine e_k 1 (f' := (1, [(0, .ref 0), (1, .int p2), (2, .int p3)], [.ref 0])) rfl ?_
  refine r_getr rfl (x_ltn rfl) rfl rfl ?_
  refine e_k 1 (f' := (5, [(0, .ref 0), (1, .int p2), (2, .int p3)], [.int p2, .ref 14])) rfl ?_
  obtain ⟨v1, I1, J1, h1, hb⟩ := oc_call hb
  refine r_cv (z := m_Hall_has) (As := [.int p2]) (rest := []) rfl rfl rfl rfl rfl (x_ltn rfl) rfl rfl (E_Hall_has  h1 ⟨_, rfl, ?_⟩)
  refine e_k 3 (f' := (if v1 = 0 then 17 else 13, [(3, .int v1), (0, .ref 0), (1, .int p2), (2, .int p3)], [])) rfl ?_
  obtain ⟨v3, h3, hb⟩ := p_nn hb
  have Kj3 : am_E (gG L xs) (d + 5) m_Sh_deal (20, [(0, .ref 0), (1, .int p2), (2, .int p3), (3, .int v1)], [.int v3]) (hX X I1 J1) P := by
    refine e_k 3 (f' := (if v3 < 0 then 33 else 27, [(4, .int v3), (0, .ref 0), (1, .int p2), (2, .int p3), (3, .int v1)], [])) rfl ?_
    refine e_if (fun c5 => ?_) (fun c5 => ?_)
    · replace hb := i_pos c5 hb
      obtain ⟨rfl, rfl, rfl⟩ := s_inj hb
      exact e_thr rfl (Nat.ble_eq_true_of_le (by omega)) (K2 _ rfl)
    · replace hb := i_neg c5 hb
      refine e_k 3 (f' := (if v3 < 3 then 43 else 33, [(4, .int v3), (0, .ref 0), (1, .int p2), (2, .int p3), (3, .int v1)], [])) rfl ?_
      refine e_if (fun c6 => ?_) (fun c6 => ?_)
      · replace hb := i_pos c6 hb
        refine e_k 2 (f' := (if v1 = 0 then 65 else 47, [(4, .int v3), (0, .ref 0), (1, .int p2), (2, .int p3), (3, .int v1)], [])) rfl ?_
        obtain ⟨v9, I9, J9, h9, hb⟩ := oc_call hb
        have Kj9 : am_E (gG L xs) (d + 5) m_Sh_deal (75, [(0, .ref 0), (1, .int p2), (2, .int p3), (3, .int v1), (4, .int v3)], [.int v9]) (hX X I9 J9) P := by
          refine e_k 3 (f' := (if p3 < 0 then 103 else 81, [(5, .int v9), (0, .ref 0), (1, .int p2), (2, .int p3), (3, .int v1), (4, .int v3)], [])) rfl ?_
          refine e_if (fun c13 => ?_) (fun c13 => ?_)
          · replace hb := i_pos c13 hb
            obtain ⟨rfl, rfl, rfl⟩ := s_inj hb
            exact e_thr rfl (Nat.ble_eq_true_of_le (by omega)) (K2 _ rfl)
          · replace hb := i_neg c13 hb
            refine e_k 5 (f' := (if (200 - v9) < p3 then 103 else 91, [(5, .int v9), (0, .ref 0), (1, .int p2), (2, .int p3), (3, .int v1), (4, .int v3)], [])) rfl ?_
            refine e_if (fun c14 => ?_) (fun c14 => ?_)
            · replace hb := i_pos c14 hb
              obtain ⟨rfl, rfl, rfl⟩ := s_inj hb
              exact e_thr rfl (Nat.ble_eq_true_of_le (by omega)) (K2 _ rfl)
            · replace hb := i_neg c14 hb
              refine e_k 3 (f' := (96, [(5, .int v9), (0, .ref 0), (1, .int p2), (2, .int p3), (3, .int v1), (4, .int v3)], [.ref 0, .int 3000, .int p3])) rfl ?_
              refine r_geti rfl (x_ltn rfl) rfl rfl ?_
              refine e_k 2 (f' := (if p3 ≤ (3000 - (I9 0 5)) then 113 else 103, [(5, .int v9), (0, .ref 0), (1, .int p2), (2, .int p3), (3, .int v1), (4, .int v3)], [])) rfl ?_
              refine e_if (fun c15 => ?_) (fun c15 => ?_)
              · replace hb := i_pos c15 hb
                refine e_k 2 (f' := (115, [(5, .int v9), (0, .ref 0), (1, .int p2), (2, .int p3), (3, .int v1), (4, .int v3)], [.ref 0, .ref 0])) rfl ?_
                refine r_geti rfl (x_ltn rfl) rfl rfl ?_
                refine e_k 2 (f' := (120, [(5, .int v9), (0, .ref 0), (1, .int p2), (2, .int p3), (3, .int v1), (4, .int v3)], [.int ((I9 0 5) + p3), .ref 0])) rfl ?_
                obtain ⟨I16, eI16, hb⟩ := p_nm hb
                refine r_puti' rfl (x_ltn rfl) rfl rfl eI16 ?_
                refine e_k 2 (f' := (if v1 = 0 then 164 else 127, [(5, .int v9), (0, .ref 0), (1, .int p2), (2, .int p3), (3, .int v1), (4, .int v3)], [])) rfl ?_
                refine e_if (fun c17 => ?_) (fun c17 => ?_)
                · replace hb := i_pos c17 hb
                  refine e_k 1 (f' := (165, [(5, .int v9), (0, .ref 0), (1, .int p2), (2, .int p3), (3, .int v1), (4, .int v3)], [.ref 0])) rfl ?_
                  refine r_getr rfl (x_ltn rfl) rfl rfl ?_
                  refine r_getr rfl (x_ltn rfl) rfl rfl ?_
                  refine e_k 2 (f' := (174, [(5, .int v9), (0, .ref 0), (1, .int p2), (2, .int p3), (3, .int v1), (4, .int v3)], [.int v3, .ref 102, .int v3, .ref 102])) rfl ?_
                  obtain ⟨o18, hb⟩ := ob_in hb
                  refine r_iald rfl rfl (x_ltn rfl) rfl o18 ?_
                  refine e_k 2 (f' := (177, [(5, .int v9), (0, .ref 0), (1, .int p2), (2, .int p3), (3, .int v1), (4, .int v3)], [.int ((I16 102 (Int32.toNatClampNeg v3)) + p3), .int v3, .ref 102])) rfl ?_
                  obtain ⟨o19, hb⟩ := ob_in hb
                  obtain ⟨I20, eI20, hb⟩ := p_nm hb
                  refine r_iast' rfl (x_ltn rfl) rfl o19 eI20 ?_
                  refine e_k 1 (f' := (179, [(5, .int v9), (0, .ref 0), (1, .int p2), (2, .int p3), (3, .int v1), (4, .int v3)], [.ref 0])) rfl ?_
                  refine r_getr rfl (x_ltn rfl) rfl rfl ?_
                  refine e_k 1 (f' := (184, [(5, .int v9), (0, .ref 0), (1, .int p2), (2, .int p3), (3, .int v1), (4, .int v3)], [.int v3, .ref 14])) rfl ?_
                  obtain ⟨v21, I21, J21, h21, hb⟩ := oc_call hb
                  refine r_cv (z := m_Hall_mostLeft) (As := [.int v3]) (rest := []) rfl rfl rfl rfl rfl (x_ltn rfl) rfl rfl (E_Hall_mostLeft  h21 ⟨_, rfl, ?_⟩)
                  obtain ⟨rfl, rfl, rfl⟩ := s_inj hb
                  exact e_r rfl rfl (K1 _ rfl)
                · replace hb := i_neg c17 hb
                  refine e_k 1 (f' := (128, [(5, .int v9), (0, .ref 0), (1, .int p2), (2, .int p3), (3, .int v1), (4, .int v3)], [.ref 0])) rfl ?_
                  refine r_getr rfl (x_ltn rfl) rfl rfl ?_
                  refine r_getr rfl (x_ltn rfl) rfl rfl ?_
                  refine e_k 1 (f' := (135, [(5, .int v9), (0, .ref 0), (1, .int p2), (2, .int p3), (3, .int v1), (4, .int v3)], [.int p2, .ref 17])) rfl ?_
                  obtain ⟨o22, hb⟩ := ob_in hb
                  refine r_pald rfl o22 ?_
                  refine r_getr rfl (x_ltp (vp_lt o22) (by decide)) (sS_p0 (vp_lt o22)) rfl ?_
                  refine e_k 1 (f' := (140, [(5, .int v9), (0, .ref 0), (1, .int p2), (2, .int p3), (3, .int v1), (4, .int v3)], [.ref (29 + 21 * (Int32.toNatClampNeg p2)), .ref (29 + 21 * (Int32.toNatClampNeg p2))])) rfl ?_
                  refine r_geti rfl (x_ltp (vp_lt o22) (by decide)) (sS_p11 (vp_lt o22)) rfl ?_
                  refine e_k 2 (f' := (145, [(5, .int v9), (0, .ref 0), (1, .int p2), (2, .int p3), (3, .int v1), (4, .int v3)], [.int ((I16 (29 + 21 * (Int32.toNatClampNeg p2)) 4) + p3), .ref (29 + 21 * (Int32.toNatClampNeg p2))])) rfl ?_
                  obtain ⟨I23, eI23, hb⟩ := p_nm hb
                  refine r_puti' rfl (x_ltp (vp_lt o22) (by decide)) (sS_p11 (vp_lt o22)) rfl eI23 ?_
                  refine e_k 1 (f' := (149, [(5, .int v9), (0, .ref 0), (1, .int p2), (2, .int p3), (3, .int v1), (4, .int v3)], [.ref 0])) rfl ?_
                  refine r_getr rfl (x_ltn rfl) rfl rfl ?_
                  refine r_getr rfl (x_ltn rfl) rfl rfl ?_
                  refine e_k 1 (f' := (156, [(5, .int v9), (0, .ref 0), (1, .int p2), (2, .int p3), (3, .int v1), (4, .int v3)], [.int p2, .ref 17])) rfl ?_
                  obtain ⟨o24, hb⟩ := ob_in hb
                  refine r_pald rfl o24 ?_
                  refine r_getr rfl (x_ltp (vp_lt o24) (by decide)) (sS_p0 (vp_lt o24)) rfl ?_
                  obtain ⟨v25, I25, J25, h25, hb⟩ := oc_call hb
                  refine r_cv (z := m_Stock_masksLeft) (As := []) (rest := []) rfl rfl rfl rfl rfl (x_ltp (vp_lt o24) (by decide)) (sS_p11 (vp_lt o24)) rfl (E_Stock_masksLeft (vp_lt o24) h25 ⟨_, rfl, ?_⟩)
                  obtain ⟨rfl, rfl, rfl⟩ := s_inj hb
                  exact e_r rfl rfl (K1 _ rfl)
              · replace hb := i_neg c15 hb
                obtain ⟨rfl, rfl, rfl⟩ := s_inj hb
                exact e_thr rfl (Nat.ble_eq_true_of_le (by omega)) (K2 _ rfl)
        clear hb
        refine e_if (fun c10 => ?_) (fun c10 => ?_)
        · replace h9 := i_pos c10 h9
          refine e_k 1 (f' := (66, [(4, .int v3), (0, .ref 0), (1, .int p2), (2, .int p3), (3, .int v1)], [.ref 0])) rfl ?_
          refine r_getr rfl (x_ltn rfl) rfl rfl ?_
          refine r_getr rfl (x_ltn rfl) rfl rfl ?_
          refine e_k 1 (f' := (74, [(4, .int v3), (0, .ref 0), (1, .int p2), (2, .int p3), (3, .int v1)], [.int v3, .ref 102])) rfl ?_
          obtain ⟨o11, h9⟩ := ob_in h9
          refine r_iald rfl rfl (x_ltn rfl) rfl o11 ?_
          refine e_sub (ls := [(0, .ref 0), (1, .int p2), (2, .int p3), (3, .int v1), (4, .int v3)]) rfl ⟨rfl, rfl, rfl, rfl, rfl, trivial⟩ ?_
          obtain ⟨rfl, rfl, rfl⟩ := s_inj h9
          exact Kj9
        · replace h9 := i_neg c10 h9
          refine e_k 1 (f' := (48, [(4, .int v3), (0, .ref 0), (1, .int p2), (2, .int p3), (3, .int v1)], [.ref 0])) rfl ?_
          refine r_getr rfl (x_ltn rfl) rfl rfl ?_
          refine r_getr rfl (x_ltn rfl) rfl rfl ?_
          refine e_k 1 (f' := (55, [(4, .int v3), (0, .ref 0), (1, .int p2), (2, .int p3), (3, .int v1)], [.int p2, .ref 17])) rfl ?_
          obtain ⟨o12, h9⟩ := ob_in h9
          refine r_pald rfl o12 ?_
          refine r_getr rfl (x_ltp (vp_lt o12) (by decide)) (sS_p0 (vp_lt o12)) rfl ?_
          refine r_geti rfl (x_ltp (vp_lt o12) (by decide)) (sS_p11 (vp_lt o12)) rfl ?_
          refine e_k 1 (f' := (75, [(4, .int v3), (0, .ref 0), (1, .int p2), (2, .int p3), (3, .int v1)], [.int (I1 (29 + 21 * (Int32.toNatClampNeg p2)) 4)])) rfl ?_
          refine e_sub (ls := [(0, .ref 0), (1, .int p2), (2, .int p3), (3, .int v1), (4, .int v3)]) rfl ⟨rfl, rfl, rfl, rfl, rfl, trivial⟩ ?_
          obtain ⟨rfl, rfl, rfl⟩ := s_inj h9
          exact Kj9
      · replace hb := i_neg c6 hb
        obtain ⟨rfl, rfl, rfl⟩ := s_inj hb
        exact e_thr rfl (Nat.ble_eq_true_of_le (by omega)) (K2 _ rfl)
  clear hb
  refine e_if (fun c4 => ?_) (fun c4 => ?_)
  · replace h3 := i_pos c4 h3
    refine e_k 3 (f' := (20, [(3, .int v1), (0, .ref 0), (1, .int p2), (2, .int p3)], [.int ((-1) - p2)])) rfl ?_
    refine e_sub (ls := [(0, .ref 0), (1, .int p2), (2, .int p3), (3, .int v1)]) rfl ⟨rfl, rfl, rfl, rfl, trivial⟩ ?_
    subst h3
    exact Kj3
  · replace h3 := i_neg c4 h3
    refine e_k 2 (f' := (20, [(3, .int v1), (0, .ref 0), (1, .int p2), (2, .int p3)], [.int 0])) rfl ?_
    refine e_sub (ls := [(0, .ref 0), (1, .int p2), (2, .int p3), (3, .int v1)]) rfl ⟨rfl, rfl, rfl, rfl, trivial⟩ ?_
    subst h3
    exact Kj3
theorem E_Sh_give {p2 : Int32} {p3 : Int64} {X : MX} {I : MI} {J : MJ} {v : Int32} {I' : MI} {J' : MJ} (hb : f_Sh_give p2 p3 I J = some (v, I', J')) (K : P (.inl (some (.int v))) (hX X I' J')) : am_E (gG L xs) (d + 2) m_Sh_give (0, lv_args 0 [.ref 0, .int p2, .long p3], []) (hX X I J) P := by
  unfold f_Sh_give at hb
  refine e_k 1 (f' := (1, [(0, .ref 0), (1, .int p2), (2, .long p3)], [.ref 0])) rfl ?_
  refine r_getr rfl (x_ltn rfl) rfl rfl ?_
  refine e_k 1 (f' := (5, [(0, .ref 0), (1, .int p2), (2, .long p3)], [.int p2, .ref 14])) rfl ?_
  obtain ⟨v1, I1, J1, h1, hb⟩ := oc_call hb
  refine r_cv (z := m_Hall_has) (As := [.int p2]) (rest := []) rfl rfl rfl rfl rfl (x_ltn rfl) rfl rfl (E_Hall_has  h1 ⟨_, rfl, ?_⟩)
  refine e_k 1 (f' := (if v1 = 0 then 37 else 11, [(0, .ref 0), (1, .int p2), (2, .long p3)], [])) rfl ?_
  refine e_if (fun c2 => ?_) (fun c2 => ?_)
  · replace hb := i_pos c2 hb
    refine e_k 1 (f' := (38, [(0, .ref 0), (1, .int p2), (2, .long p3)], [.int 0])) rfl ?_
    obtain ⟨rfl, rfl, rfl⟩ := s_inj hb
    exact e_r rfl rfl K
  · replace hb := i_neg c2 hb
    refine e_k 1 (f' := (12, [(0, .ref 0), (1, .int p2), (2, .long p3)], [.ref 0])) rfl ?_
    refine r_getr rfl (x_ltn rfl) rfl rfl ?_
    refine r_getr rfl (x_ltn rfl) rfl rfl ?_
    refine e_k 1 (f' := (19, [(0, .ref 0), (1, .int p2), (2, .long p3)], [.int p2, .ref 17])) rfl ?_
    obtain ⟨o3, hb⟩ := ob_in hb
    refine r_pald rfl o3 ?_
    refine r_getr rfl (x_ltp (vp_lt o3) (by decide)) (sS_p0 (vp_lt o3)) rfl ?_
    refine e_k 1 (f' := (24, [(0, .ref 0), (1, .int p2), (2, .long p3)], [.long p3, .ref (29 + 21 * (Int32.toNatClampNeg p2))])) rfl ?_
    obtain ⟨v4, I4, J4, h4, hb⟩ := oc_call hb
    refine r_cs (z := m_Sh_number) (As := [.long p3]) (rest := [.ref (29 + 21 * (Int32.toNatClampNeg p2))]) rfl rfl rfl rfl rfl rfl (E_Sh_number  h4 ⟨_, rfl, ?_⟩)
    obtain ⟨v5, I5, J5, h5, hb⟩ := oc_call hb
    refine r_cv (z := m_Stock_addInput) (As := [.long v4]) (rest := []) rfl rfl rfl rfl rfl (x_ltp (vp_lt o3) (by decide)) (sS_p11 (vp_lt o3)) rfl (E_Stock_addInput (vp_lt o3) h5 ⟨_, rfl, ?_⟩)
    refine e_k 1 (f' := (if v5 = 0 then 37 else 33, [(0, .ref 0), (1, .int p2), (2, .long p3)], [])) rfl ?_
    refine e_if (fun c6 => ?_) (fun c6 => ?_)
    · replace hb := i_pos c6 hb
      refine e_k 1 (f' := (38, [(0, .ref 0), (1, .int p2), (2, .long p3)], [.int 0])) rfl ?_
      obtain ⟨rfl, rfl, rfl⟩ := s_inj hb
      exact e_r rfl rfl K
    · replace hb := i_neg c6 hb
      refine e_k 2 (f' := (38, [(0, .ref 0), (1, .int p2), (2, .long p3)], [.int 1])) rfl ?_
      obtain ⟨rfl, rfl, rfl⟩ := s_inj hb
      exact e_r rfl rfl K
theorem E_Sh_tamper {p2 : Int32} {p3 : Int32} {p4 : Int32} {p5 : Int64} {X : MX} {I : MI} {J : MJ} {v : Int32} {I' : MI} {J' : MJ} (hb : f_Sh_tamper p2 p3 p4 p5 I J = some (v, I', J')) (K : P (.inl (some (.int v))) (hX X I' J')) : am_E (gG L xs) (d + 2) m_Sh_tamper (0, lv_args 0 [.ref 0, .int p2, .int p3, .int p4, .long p5], []) (hX X I J) P := by
  unfold f_Sh_tamper at hb
  refine e_k 1 (f' := (1, [(0, .ref 0), (1, .int p2), (2, .int p3), (3, .int p4), (4, .long p5)], [.ref 0])) rfl ?_
  refine r_getr rfl (x_ltn rfl) rfl rfl ?_
  refine r_geti rfl (x_ltn rfl) rfl rfl ?_
  refine e_k 1 (f' := (if (I 14 9) = 0 then 31 else 10, [(0, .ref 0), (1, .int p2), (2, .int p3), (3, .int p4), (4, .long p5)], [])) rfl ?_
  refine e_if (fun c1 => ?_) (fun c1 => ?_)
  · replace hb := i_pos c1 hb
    refine e_k 1 (f' := (32, [(0, .ref 0), (1, .int p2), (2, .int p3), (3, .int p4), (4, .long p5)], [.int 0])) rfl ?_
    obtain ⟨rfl, rfl, rfl⟩ := s_inj hb
    exact e_r rfl rfl K
  · replace hb := i_neg c1 hb
    refine e_k 1 (f' := (11, [(0, .ref 0), (1, .int p2), (2, .int p3), (3, .int p4), (4, .long p5)], [.ref 0])) rfl ?_
    refine r_getr rfl (x_ltn rfl) rfl rfl ?_
    refine e_k 1 (f' := (15, [(0, .ref 0), (1, .int p2), (2, .int p3), (3, .int p4), (4, .long p5)], [.int p2, .ref 14])) rfl ?_
    obtain ⟨v2, I2, J2, h2, hb⟩ := oc_call hb
    refine r_cv (z := m_Hall_has) (As := [.int p2]) (rest := []) rfl rfl rfl rfl rfl (x_ltn rfl) rfl rfl (E_Hall_has  h2 ⟨_, rfl, ?_⟩)
    refine e_k 1 (f' := (if v2 = 0 then 31 else 21, [(0, .ref 0), (1, .int p2), (2, .int p3), (3, .int p4), (4, .long p5)], [])) rfl ?_
    refine e_if (fun c3 => ?_) (fun c3 => ?_)
    · replace hb := i_pos c3 hb
      refine e_k 1 (f' := (32, [(0, .ref 0), (1, .int p2), (2, .int p3), (3, .int p4), (4, .long p5)], [.int 0])) rfl ?_
      obtain ⟨rfl, rfl, rfl⟩ := s_inj hb
      exact e_r rfl rfl K
    · replace hb := i_neg c3 hb
      refine e_k 2 (f' := (if p4 < 0 then 31 else 25, [(0, .ref 0), (1, .int p2), (2, .int p3), (3, .int p4), (4, .long p5)], [])) rfl ?_
      refine e_if (fun c4 => ?_) (fun c4 => ?_)
      · replace hb := i_pos c4 hb
        refine e_k 1 (f' := (32, [(0, .ref 0), (1, .int p2), (2, .int p3), (3, .int p4), (4, .long p5)], [.int 0])) rfl ?_
        obtain ⟨rfl, rfl, rfl⟩ := s_inj hb
        exact e_r rfl rfl K
      · replace hb := i_neg c4 hb
        refine e_k 3 (f' := (if p4 < 32 then 33 else 31, [(0, .ref 0), (1, .int p2), (2, .int p3), (3, .int p4), (4, .long p5)], [])) rfl ?_
        refine e_if (fun c5 => ?_) (fun c5 => ?_)
        · replace hb := i_pos c5 hb
          refine e_k 2 (f' := (35, [(0, .ref 0), (1, .int p2), (2, .int p3), (3, .int p4), (4, .long p5)], [.ref 0, .int p3])) rfl ?_
          refine r_getr rfl (x_ltn rfl) rfl rfl ?_
          refine r_getr rfl (x_ltn rfl) rfl rfl ?_
          refine e_k 1 (f' := (42, [(0, .ref 0), (1, .int p2), (2, .int p3), (3, .int p4), (4, .long p5)], [.int p2, .ref 17, .int p3])) rfl ?_
          obtain ⟨o6, hb⟩ := ob_in hb
          refine r_pald rfl o6 ?_
          refine r_getr rfl (x_ltp (vp_lt o6) (by decide)) (sS_p0 (vp_lt o6)) rfl ?_
          refine r_geti rfl (x_ltp (vp_lt o6) (by decide)) (sS_p14 (vp_lt o6)) rfl ?_
          refine e_k 1 (f' := (if p3 < (I2 (32 + 21 * (Int32.toNatClampNeg p2)) 6) then 59 else 52, [(0, .ref 0), (1, .int p2), (2, .int p3), (3, .int p4), (4, .long p5)], [])) rfl ?_
          refine e_if (fun c7 => ?_) (fun c7 => ?_)
          · replace hb := i_pos c7 hb
            refine e_k 1 (f' := (60, [(0, .ref 0), (1, .int p2), (2, .int p3), (3, .int p4), (4, .long p5)], [.int 0])) rfl ?_
            obtain ⟨rfl, rfl, rfl⟩ := s_inj hb
            exact e_r rfl rfl K
          · replace hb := i_neg c7 hb
            refine e_k 3 (f' := (if p3 < 1000 then 61 else 59, [(0, .ref 0), (1, .int p2), (2, .int p3), (3, .int p4), (4, .long p5)], [])) rfl ?_
            refine e_if (fun c8 => ?_) (fun c8 => ?_)
            · replace hb := i_pos c8 hb
              refine e_k 1 (f' := (62, [(0, .ref 0), (1, .int p2), (2, .int p3), (3, .int p4), (4, .long p5)], [.ref 0])) rfl ?_
              refine r_getr rfl (x_ltn rfl) rfl rfl ?_
              refine r_getr rfl (x_ltn rfl) rfl rfl ?_
              refine e_k 4 (f' := (73, [(0, .ref 0), (1, .int p2), (2, .int p3), (3, .int p4), (4, .long p5)], [.long p5, .int p4, .int p3, .int p2, .ref 103])) rfl ?_
              obtain ⟨v9, I9, J9, h9, hb⟩ := oc_call hb
              refine r_cs (z := m_Sh_number) (As := [.long p5]) (rest := [.int p4, .int p3, .int p2, .ref 103]) rfl rfl rfl rfl rfl rfl (E_Sh_number  h9 ⟨_, rfl, ?_⟩)
              obtain ⟨v10, I10, J10, h10, hb⟩ := oc_call hb
              refine r_cv (z := m_Errors_add) (As := [.int p2, .int p3, .int p4, .long v9]) (rest := []) rfl rfl rfl rfl rfl (x_ltn rfl) rfl rfl (E_Errors_add  h10 ⟨_, rfl, ?_⟩)
              obtain ⟨o11, hb⟩ := ob_if hb
              obtain ⟨rfl, rfl, rfl⟩ := s_inj hb
              exact e_r rfl (if_pos o11) K
            · replace hb := i_neg c8 hb
              refine e_k 1 (f' := (60, [(0, .ref 0), (1, .int p2), (2, .int p3), (3, .int p4), (4, .long p5)], [.int 0])) rfl ?_
              obtain ⟨rfl, rfl, rfl⟩ := s_inj hb
              exact e_r rfl rfl K
        · replace hb := i_neg c5 hb
          refine e_k 1 (f' := (32, [(0, .ref 0), (1, .int p2), (2, .int p3), (3, .int p4), (4, .long p5)], [.int 0])) rfl ?_
          obtain ⟨rfl, rfl, rfl⟩ := s_inj hb
          exact e_r rfl rfl K
end AUTO
