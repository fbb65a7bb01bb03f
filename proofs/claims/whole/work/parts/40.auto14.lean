section AUTO
variable {L : Nat} {xs : Nat → Int32} {d : Nat} {P : am_R → am_H → Prop}
theorem E_Translator_emitPlace {p2 : Int32} {p3 : Int32} {p4 : Int32} {X : MX} {I : MI} {J : MJ} {v : Unit} {I' : MI} {J' : MJ} (hb : f_Translator_emitPlace p2 p3 p4 I J = some (v, I', J')) (K : P (.inl (none)) (hX X I' J')) : am_E (gG L xs) (d + 2) m_Translator_emitPlace (0, lv_args 0 [.ref 3, .int p2, .int p3, .int p4], []) (hX X I J) P := by
  unfold f_Translator_emitPlace at hb
  refine e_k 3 (f' := (if 4 ≤ p2 then 16 else 5, [(0, .ref 3), (1, .int p2), (2, .int p3), (3, .int p4)], [])) rfl ?_
  refine e_if (fun c1 => ?_) (fun c1 => ?_)
  · replace hb := i_pos c1 hb
    refine e_k 7 (f' := (23, [(0, .ref 3), (1, .int p2), (2, .int p3), (3, .int p4)], [.int 0, .int 0, .int (p2 - 4), .int p4, .ref 3])) rfl ?_
    obtain ⟨v2, I2, J2, h2, hb⟩ := oc_call hb
    refine r_cv (z := m_Translator_emit) (As := [.int p4, .int (p2 - 4), .int 0, .int 0]) (rest := []) rfl rfl rfl rfl rfl (x_ltn rfl) rfl rfl (E_Translator_emit  h2 ⟨_, rfl, ?_⟩)
    obtain ⟨rfl, rfl, rfl⟩ := s_inj hb
    exact e_r rfl rfl K
  · replace hb := i_neg c1 hb
    refine e_k 5 (f' := (10, [(0, .ref 3), (1, .int p2), (2, .int p3), (3, .int p4)], [.int 0, .int 0, .int p2, .int p3, .ref 3])) rfl ?_
    obtain ⟨v3, I3, J3, h3, hb⟩ := oc_call hb
    refine r_cv (z := m_Translator_emit) (As := [.int p3, .int p2, .int 0, .int 0]) (rest := []) rfl rfl rfl rfl rfl (x_ltn rfl) rfl rfl (E_Translator_emit  h3 ⟨_, rfl, ?_⟩)
    refine e_k 1 (f' := (26, [(0, .ref 3), (1, .int p2), (2, .int p3), (3, .int p4)], [])) rfl ?_
    obtain ⟨rfl, rfl, rfl⟩ := s_inj hb
    exact e_r rfl rfl K
theorem E_Translator_isVariable {p1 : Int32} {X : MX} {I : MI} {J : MJ} {v : Int32} {I' : MI} {J' : MJ} (hb : f_Translator_isVariable p1 I J = some (v, I', J')) (K : P (.inl (some (.int v))) (hX X I' J')) : am_E (gG L xs) d m_Translator_isVariable (0, lv_args 0 [.int p1], []) (hX X I J) P := by
  unfold f_Translator_isVariable at hb
  refine e_k 3 (f' := (if p1 < 97 then 16 else 6, [(0, .int p1)], [])) rfl ?_
  refine e_if (fun c1 => ?_) (fun c1 => ?_)
  · replace hb := i_pos c1 hb
    refine e_k 1 (f' := (17, [(0, .int p1)], [.int 0])) rfl ?_
    obtain ⟨rfl, rfl, rfl⟩ := s_inj hb
    exact e_r rfl rfl K
  · replace hb := i_neg c1 hb
    refine e_k 3 (f' := (if 122 < p1 then 16 else 12, [(0, .int p1)], [])) rfl ?_
    refine e_if (fun c2 => ?_) (fun c2 => ?_)
    · replace hb := i_pos c2 hb
      refine e_k 1 (f' := (17, [(0, .int p1)], [.int 0])) rfl ?_
      obtain ⟨rfl, rfl, rfl⟩ := s_inj hb
      exact e_r rfl rfl K
    · replace hb := i_neg c2 hb
      refine e_k 2 (f' := (17, [(0, .int p1)], [.int 1])) rfl ?_
      obtain ⟨rfl, rfl, rfl⟩ := s_inj hb
      exact e_r rfl rfl K
theorem E_Translator_isArray {p1 : Int32} {X : MX} {I : MI} {J : MJ} {v : Int32} {I' : MI} {J' : MJ} (hb : f_Translator_isArray p1 I J = some (v, I', J')) (K : P (.inl (some (.int v))) (hX X I' J')) : am_E (gG L xs) d m_Translator_isArray (0, lv_args 0 [.int p1], []) (hX X I J) P := by
  unfold f_Translator_isArray at hb
  refine e_k 3 (f' := (if p1 < 65 then 16 else 6, [(0, .int p1)], [])) rfl ?_
  refine e_if (fun c1 => ?_) (fun c1 => ?_)
  · replace hb := i_pos c1 hb
    refine e_k 1 (f' := (17, [(0, .int p1)], [.int 0])) rfl ?_
    obtain ⟨rfl, rfl, rfl⟩ := s_inj hb
    exact e_r rfl rfl K
  · replace hb := i_neg c1 hb
    refine e_k 3 (f' := (if 72 < p1 then 16 else 12, [(0, .int p1)], [])) rfl ?_
    refine e_if (fun c2 => ?_) (fun c2 => ?_)
    · replace hb := i_pos c2 hb
      refine e_k 1 (f' := (17, [(0, .int p1)], [.int 0])) rfl ?_
      obtain ⟨rfl, rfl, rfl⟩ := s_inj hb
      exact e_r rfl rfl K
    · replace hb := i_neg c2 hb
      refine e_k 2 (f' := (17, [(0, .int p1)], [.int 1])) rfl ?_
      obtain ⟨rfl, rfl, rfl⟩ := s_inj hb
      exact e_r rfl rfl K
theorem E_Translator_isDigit {p1 : Int32} {X : MX} {I : MI} {J : MJ} {v : Int32} {I' : MI} {J' : MJ} (hb : f_Translator_isDigit p1 I J = some (v, I', J')) (K : P (.inl (some (.int v))) (hX X I' J')) : am_E (gG L xs) d m_Translator_isDigit (0, lv_args 0 [.int p1], []) (hX X I J) P := by
  unfold f_Translator_isDigit at hb
  refine e_k 3 (f' := (if p1 < 48 then 16 else 6, [(0, .int p1)], [])) rfl ?_
  refine e_if (fun c1 => ?_) (fun c1 => ?_)
  · replace hb := i_pos c1 hb
    refine e_k 1 (f' := (17, [(0, .int p1)], [.int 0])) rfl ?_
    obtain ⟨rfl, rfl, rfl⟩ := s_inj hb
    exact e_r rfl rfl K
  · replace hb := i_neg c1 hb
    refine e_k 3 (f' := (if 57 < p1 then 16 else 12, [(0, .int p1)], [])) rfl ?_
    refine e_if (fun c2 => ?_) (fun c2 => ?_)
    · replace hb := i_pos c2 hb
      refine e_k 1 (f' := (17, [(0, .int p1)], [.int 0])) rfl ?_
      obtain ⟨rfl, rfl, rfl⟩ := s_inj hb
      exact e_r rfl rfl K
    · replace hb := i_neg c2 hb
      refine e_k 2 (f' := (17, [(0, .int p1)], [.int 1])) rfl ?_
      obtain ⟨rfl, rfl, rfl⟩ := s_inj hb
      exact e_r rfl rfl K
theorem E_Verifier_refuse {p2 : Int32} {p3 : Int32} {X : MX} {I : MI} {J : MJ} {v : Unit} {I' : MI} {J' : MJ} (hb : f_Verifier_refuse p2 p3 I J = some (v, I', J')) (K : P (.inl (none)) (hX X I' J')) : am_E (gG L xs) d m_Verifier_refuse (0, lv_args 0 [.ref 10, .int p2, .int p3], []) (hX X I J) P := by
  unfold f_Verifier_refuse at hb
  refine e_k 2 (f' := (2, [(0, .ref 10), (1, .int p2), (2, .int p3)], [.int p2, .ref 10])) rfl ?_
  obtain ⟨I1, eI1, hb⟩ := p_nm hb
  refine r_puti' rfl (x_ltn rfl) rfl rfl eI1 ?_
  refine e_k 2 (f' := (7, [(0, .ref 10), (1, .int p2), (2, .int p3)], [.int p3, .ref 10])) rfl ?_
  obtain ⟨I2, eI2, hb⟩ := p_nm hb
  refine r_puti' rfl (x_ltn rfl) rfl rfl eI2 ?_
  obtain ⟨rfl, rfl, rfl⟩ := s_inj hb
  exact e_r rfl rfl K
theorem E_Verifier_namesWhatIs {r1 : Nat} {b1 : Nat} {m1 : Nat} {p2 : Int32} {p3 : Int32} {X : MX} {I : MI} {J : MJ} {v : Int32} {I' : MI} {J' : MJ} (hR_r1 : isRw X r1 b1 m1) (hb : f_Verifier_namesWhatIs r1 b1 m1 p2 p3 I J = some (v, I', J')) (K : P (.inl (some (.int v))) (hX X I' J')) : am_E (gG L xs) (d + 2) m_Verifier_namesWhatIs (0, lv_args 0 [.ref r1, .int p2, .int p3], []) (hX X I J) P := by
  unfold f_Verifier_namesWhatIs at hb
  refine e_k 4 (f' := (4, [(0, .ref r1), (1, .int p2), (2, .int p3)], [.int (p2 + 1), .ref r1])) rfl ?_
  obtain ⟨v1, I1, J1, h1, hb⟩ := oc_call hb
  refine r_cv (z := m_Row_at) (As := [.int (p2 + 1)]) (rest := []) rfl rfl rfl rfl rfl hR_r1.1 hR_r1.2.1 rfl (E_Row_at hR_r1 h1 ⟨_, rfl, ?_⟩)
  refine e_k 5 (f' := (12, [(3, .int v1), (0, .ref r1), (1, .int p2), (2, .int p3)], [.int (p2 + 2), .ref r1])) rfl ?_
  obtain ⟨v2, I2, J2, h2, hb⟩ := oc_call hb
  refine r_cv (z := m_Row_at) (As := [.int (p2 + 2)]) (rest := []) rfl rfl rfl rfl rfl hR_r1.1 hR_r1.2.1 rfl (E_Row_at hR_r1 h2 ⟨_, rfl, ?_⟩)
  refine e_k 3 (f' := (19, [(4, .int v2), (3, .int v1), (0, .ref r1), (1, .int p2), (2, .int p3)], [.int p2, .ref r1])) rfl ?_
  obtain ⟨v3, I3, J3, h3, hb⟩ := oc_call hb
  refine r_cv (z := m_Row_at) (As := [.int p2]) (rest := []) rfl rfl rfl rfl rfl hR_r1.1 hR_r1.2.1 rfl (E_Row_at hR_r1 h3 ⟨_, rfl, ?_⟩)
  refine e_k 1 (f' := (am_sw v3 285 [(1, 144), (2, 175), (3, 175), (4, 285), (5, 285), (6, 285), (7, 285), (8, 285), (9, 285), (10, 285), (11, 175), (12, 175), (13, 187), (14, 205), (15, 175), (16, 175), (17, 175), (18, 285), (19, 224), (20, 224), (21, 224), (22, 224), (23, 235), (24, 235), (25, 235), (26, 266), (27, 175)], [(4, .int v2), (3, .int v1), (0, .ref r1), (1, .int p2), (2, .int p3)], [])) rfl ?_
  by_cases c4 : v3 = 1
  · rw [show am_sw v3 285 [(1, 144), (2, 175), (3, 175), (4, 285), (5, 285), (6, 285), (7, 285), (8, 285), (9, 285), (10, 285), (11, 175), (12, 175), (13, 187), (14, 205), (15, 175), (16, 175), (17, 175), (18, 285), (19, 224), (20, 224), (21, 224), (22, 224), (23, 235), (24, 235), (25, 235), (26, 266), (27, 175)] = 144 from by rw [c4]; rfl]
    replace hb := i_pos c4 hb
    refine e_k 4 (f' := (148, [(4, .int v2), (3, .int v1), (0, .ref r1), (1, .int p2), (2, .int p3)], [.int (p2 + 1), .ref r1])) rfl ?_
    obtain ⟨v5, I5, J5, h5, hb⟩ := oc_call hb
    refine r_cv (z := m_Row_longAt) (As := [.int (p2 + 1)]) (rest := []) rfl rfl rfl rfl rfl hR_r1.1 hR_r1.2.1 rfl (E_Row_longAt hR_r1 h5 ⟨_, rfl, ?_⟩)
    refine e_k 5 (f' := (if (lg_cmp v5 0) < 0 then 173 else 160, [(5, .long v5), (4, .int v2), (3, .int v1), (0, .ref r1), (1, .int p2), (2, .int p3)], [])) rfl ?_
    refine e_if (fun c6 => ?_) (fun c6 => ?_)
    · replace hb := i_pos c6 hb
      refine e_k 1 (f' := (174, [(5, .long v5), (4, .int v2), (3, .int v1), (0, .ref r1), (1, .int p2), (2, .int p3)], [.int 0])) rfl ?_
      obtain ⟨rfl, rfl, rfl⟩ := s_inj hb
      exact e_r rfl rfl K
    · replace hb := i_neg c6 hb
      refine e_k 4 (f' := (if 0 ≤ (lg_cmp v5 2305843009213693951) then 173 else 169, [(5, .long v5), (4, .int v2), (3, .int v1), (0, .ref r1), (1, .int p2), (2, .int p3)], [])) rfl ?_
      refine e_if (fun c7 => ?_) (fun c7 => ?_)
      · replace hb := i_pos c7 hb
        refine e_k 1 (f' := (174, [(5, .long v5), (4, .int v2), (3, .int v1), (0, .ref r1), (1, .int p2), (2, .int p3)], [.int 0])) rfl ?_
        obtain ⟨rfl, rfl, rfl⟩ := s_inj hb
        exact e_r rfl rfl K
      · replace hb := i_neg c7 hb
        refine e_k 2 (f' := (174, [(5, .long v5), (4, .int v2), (3, .int v1), (0, .ref r1), (1, .int p2), (2, .int p3)], [.int 1])) rfl ?_
        obtain ⟨rfl, rfl, rfl⟩ := s_inj hb
        exact e_r rfl rfl K
  replace hb := i_neg c4 hb
  by_cases c8 : v3 = 2 ∨ v3 = 3 ∨ v3 = 11 ∨ v3 = 12 ∨ v3 = 15 ∨ v3 = 16 ∨ v3 = 17 ∨ v3 = 27
  · rw [show am_sw v3 285 [(1, 144), (2, 175), (3, 175), (4, 285), (5, 285), (6, 285), (7, 285), (8, 285), (9, 285), (10, 285), (11, 175), (12, 175), (13, 187), (14, 205), (15, 175), (16, 175), (17, 175), (18, 285), (19, 224), (20, 224), (21, 224), (22, 224), (23, 235), (24, 235), (25, 235), (26, 266), (27, 175)] = 175 from by rcases c8 with c8 | c8 | c8 | c8 | c8 | c8 | c8 | c8 <;> rw [c8] <;> rfl]
    replace hb := i_pos c8 hb
    refine e_k 3 (f' := (if 13 ≤ v1 then 185 else 181, [(4, .int v2), (3, .int v1), (0, .ref r1), (1, .int p2), (2, .int p3)], [])) rfl ?_
    refine e_if (fun c9 => ?_) (fun c9 => ?_)
    · replace hb := i_pos c9 hb
      refine e_k 1 (f' := (186, [(4, .int v2), (3, .int v1), (0, .ref r1), (1, .int p2), (2, .int p3)], [.int 0])) rfl ?_
      obtain ⟨rfl, rfl, rfl⟩ := s_inj hb
      exact e_r rfl rfl K
    · replace hb := i_neg c9 hb
      refine e_k 2 (f' := (186, [(4, .int v2), (3, .int v1), (0, .ref r1), (1, .int p2), (2, .int p3)], [.int 1])) rfl ?_
      obtain ⟨rfl, rfl, rfl⟩ := s_inj hb
      exact e_r rfl rfl K
  replace hb := i_neg c8 hb
  by_cases c10 : v3 = 13
  · rw [show am_sw v3 285 [(1, 144), (2, 175), (3, 175), (4, 285), (5, 285), (6, 285), (7, 285), (8, 285), (9, 285), (10, 285), (11, 175), (12, 175), (13, 187), (14, 205), (15, 175), (16, 175), (17, 175), (18, 285), (19, 224), (20, 224), (21, 224), (22, 224), (23, 235), (24, 235), (25, 235), (26, 266), (27, 175)] = 187 from by rw [c10]; rfl]
    replace hb := i_pos c10 hb
    refine e_k 3 (f' := (if 13 ≤ v1 then 203 else 193, [(4, .int v2), (3, .int v1), (0, .ref r1), (1, .int p2), (2, .int p3)], [])) rfl ?_
    refine e_if (fun c11 => ?_) (fun c11 => ?_)
    · replace hb := i_pos c11 hb
      refine e_k 1 (f' := (204, [(4, .int v2), (3, .int v1), (0, .ref r1), (1, .int p2), (2, .int p3)], [.int 0])) rfl ?_
      obtain ⟨rfl, rfl, rfl⟩ := s_inj hb
      exact e_r rfl rfl K
    · replace hb := i_neg c11 hb
      refine e_k 3 (f' := (if p3 ≤ v2 then 203 else 199, [(4, .int v2), (3, .int v1), (0, .ref r1), (1, .int p2), (2, .int p3)], [])) rfl ?_
      refine e_if (fun c12 => ?_) (fun c12 => ?_)
      · replace hb := i_pos c12 hb
        refine e_k 1 (f' := (204, [(4, .int v2), (3, .int v1), (0, .ref r1), (1, .int p2), (2, .int p3)], [.int 0])) rfl ?_
        obtain ⟨rfl, rfl, rfl⟩ := s_inj hb
        exact e_r rfl rfl K
      · replace hb := i_neg c12 hb
        refine e_k 2 (f' := (204, [(4, .int v2), (3, .int v1), (0, .ref r1), (1, .int p2), (2, .int p3)], [.int 1])) rfl ?_
        obtain ⟨rfl, rfl, rfl⟩ := s_inj hb
        exact e_r rfl rfl K
  replace hb := i_neg c10 hb
  by_cases c13 : v3 = 14
  · rw [show am_sw v3 285 [(1, 144), (2, 175), (3, 175), (4, 285), (5, 285), (6, 285), (7, 285), (8, 285), (9, 285), (10, 285), (11, 175), (12, 175), (13, 187), (14, 205), (15, 175), (16, 175), (17, 175), (18, 285), (19, 224), (20, 224), (21, 224), (22, 224), (23, 235), (24, 235), (25, 235), (26, 266), (27, 175)] = 205 from by rw [c13]; rfl]
    replace hb := i_pos c13 hb
    refine e_k 3 (f' := (if 13 ≤ v1 then 222 else 211, [(4, .int v2), (3, .int v1), (0, .ref r1), (1, .int p2), (2, .int p3)], [])) rfl ?_
    refine e_if (fun c14 => ?_) (fun c14 => ?_)
    · replace hb := i_pos c14 hb
      refine e_k 1 (f' := (223, [(4, .int v2), (3, .int v1), (0, .ref r1), (1, .int p2), (2, .int p3)], [.int 0])) rfl ?_
      obtain ⟨rfl, rfl, rfl⟩ := s_inj hb
      exact e_r rfl rfl K
    · replace hb := i_neg c14 hb
      refine e_k 3 (f' := (if 13 ≤ v2 then 222 else 218, [(4, .int v2), (3, .int v1), (0, .ref r1), (1, .int p2), (2, .int p3)], [])) rfl ?_
      refine e_if (fun c15 => ?_) (fun c15 => ?_)
      · replace hb := i_pos c15 hb
        refine e_k 1 (f' := (223, [(4, .int v2), (3, .int v1), (0, .ref r1), (1, .int p2), (2, .int p3)], [.int 0])) rfl ?_
        obtain ⟨rfl, rfl, rfl⟩ := s_inj hb
        exact e_r rfl rfl K
      · replace hb := i_neg c15 hb
        refine e_k 2 (f' := (223, [(4, .int v2), (3, .int v1), (0, .ref r1), (1, .int p2), (2, .int p3)], [.int 1])) rfl ?_
        obtain ⟨rfl, rfl, rfl⟩ := s_inj hb
        exact e_r rfl rfl K
  replace hb := i_neg c13 hb
  by_cases c16 : v3 = 19 ∨ v3 = 20 ∨ v3 = 21 ∨ v3 = 22
  · rw [show am_sw v3 285 [(1, 144), (2, 175), (3, 175), (4, 285), (5, 285), (6, 285), (7, 285), (8, 285), (9, 285), (10, 285), (11, 175), (12, 175), (13, 187), (14, 205), (15, 175), (16, 175), (17, 175), (18, 285), (19, 224), (20, 224), (21, 224), (22, 224), (23, 235), (24, 235), (25, 235), (26, 266), (27, 175)] = 224 from by rcases c16 with c16 | c16 | c16 | c16 <;> rw [c16] <;> rfl]
    replace hb := i_pos c16 hb
    refine e_k 3 (f' := (if 4 ≤ v1 then 233 else 229, [(4, .int v2), (3, .int v1), (0, .ref r1), (1, .int p2), (2, .int p3)], [])) rfl ?_
    refine e_if (fun c17 => ?_) (fun c17 => ?_)
    · replace hb := i_pos c17 hb
      refine e_k 1 (f' := (234, [(4, .int v2), (3, .int v1), (0, .ref r1), (1, .int p2), (2, .int p3)], [.int 0])) rfl ?_
      obtain ⟨rfl, rfl, rfl⟩ := s_inj hb
      exact e_r rfl rfl K
    · replace hb := i_neg c17 hb
      refine e_k 2 (f' := (234, [(4, .int v2), (3, .int v1), (0, .ref r1), (1, .int p2), (2, .int p3)], [.int 1])) rfl ?_
      obtain ⟨rfl, rfl, rfl⟩ := s_inj hb
      exact e_r rfl rfl K
  replace hb := i_neg c16 hb
  by_cases c18 : v3 = 23 ∨ v3 = 24 ∨ v3 = 25
  · rw [show am_sw v3 285 [(1, 144), (2, 175), (3, 175), (4, 285), (5, 285), (6, 285), (7, 285), (8, 285), (9, 285), (10, 285), (11, 175), (12, 175), (13, 187), (14, 205), (15, 175), (16, 175), (17, 175), (18, 285), (19, 224), (20, 224), (21, 224), (22, 224), (23, 235), (24, 235), (25, 235), (26, 266), (27, 175)] = 235 from by rcases c18 with c18 | c18 | c18 <;> rw [c18] <;> rfl]
    replace hb := i_pos c18 hb
    refine e_k 3 (f' := (if 8 ≤ v1 then 264 else 241, [(4, .int v2), (3, .int v1), (0, .ref r1), (1, .int p2), (2, .int p3)], [])) rfl ?_
    refine e_if (fun c19 => ?_) (fun c19 => ?_)
    · replace hb := i_pos c19 hb
      refine e_k 1 (f' := (265, [(4, .int v2), (3, .int v1), (0, .ref r1), (1, .int p2), (2, .int p3)], [.int 0])) rfl ?_
      obtain ⟨rfl, rfl, rfl⟩ := s_inj hb
      exact e_r rfl rfl K
    · replace hb := i_neg c19 hb
      refine e_k 3 (f' := (if 8 ≤ v2 then 264 else 248, [(4, .int v2), (3, .int v1), (0, .ref r1), (1, .int p2), (2, .int p3)], [])) rfl ?_
      refine e_if (fun c20 => ?_) (fun c20 => ?_)
      · replace hb := i_pos c20 hb
        refine e_k 1 (f' := (265, [(4, .int v2), (3, .int v1), (0, .ref r1), (1, .int p2), (2, .int p3)], [.int 0])) rfl ?_
        obtain ⟨rfl, rfl, rfl⟩ := s_inj hb
        exact e_r rfl rfl K
      · replace hb := i_neg c20 hb
        refine e_k 4 (f' := (252, [(4, .int v2), (3, .int v1), (0, .ref r1), (1, .int p2), (2, .int p3)], [.int (p2 + 3), .ref r1])) rfl ?_
        obtain ⟨v21, I21, J21, h21, hb⟩ := oc_call hb
        refine r_cv (z := m_Row_at) (As := [.int (p2 + 3)]) (rest := []) rfl rfl rfl rfl rfl hR_r1.1 hR_r1.2.1 rfl (E_Row_at hR_r1 h21 ⟨_, rfl, ?_⟩)
        refine e_k 2 (f' := (if 8 ≤ v21 then 264 else 260, [(4, .int v2), (3, .int v1), (0, .ref r1), (1, .int p2), (2, .int p3)], [])) rfl ?_
        refine e_if (fun c22 => ?_) (fun c22 => ?_)
        · replace hb := i_pos c22 hb
          refine e_k 1 (f' := (265, [(4, .int v2), (3, .int v1), (0, .ref r1), (1, .int p2), (2, .int p3)], [.int 0])) rfl ?_
          obtain ⟨rfl, rfl, rfl⟩ := s_inj hb
          exact e_r rfl rfl K
        · replace hb := i_neg c22 hb
          refine e_k 2 (f' := (265, [(4, .int v2), (3, .int v1), (0, .ref r1), (1, .int p2), (2, .int p3)], [.int 1])) rfl ?_
          obtain ⟨rfl, rfl, rfl⟩ := s_inj hb
          exact e_r rfl rfl K
  replace hb := i_neg c18 hb
  by_cases c23 : v3 = 26
  · rw [show am_sw v3 285 [(1, 144), (2, 175), (3, 175), (4, 285), (5, 285), (6, 285), (7, 285), (8, 285), (9, 285), (10, 285), (11, 175), (12, 175), (13, 187), (14, 205), (15, 175), (16, 175), (17, 175), (18, 285), (19, 224), (20, 224), (21, 224), (22, 224), (23, 235), (24, 235), (25, 235), (26, 266), (27, 175)] = 266 from by rw [c23]; rfl]
    replace hb := i_pos c23 hb
    refine e_k 3 (f' := (if 8 ≤ v1 then 283 else 272, [(4, .int v2), (3, .int v1), (0, .ref r1), (1, .int p2), (2, .int p3)], [])) rfl ?_
    refine e_if (fun c24 => ?_) (fun c24 => ?_)
    · replace hb := i_pos c24 hb
      refine e_k 1 (f' := (284, [(4, .int v2), (3, .int v1), (0, .ref r1), (1, .int p2), (2, .int p3)], [.int 0])) rfl ?_
      obtain ⟨rfl, rfl, rfl⟩ := s_inj hb
      exact e_r rfl rfl K
    · replace hb := i_neg c24 hb
      refine e_k 3 (f' := (if 8 ≤ v2 then 283 else 279, [(4, .int v2), (3, .int v1), (0, .ref r1), (1, .int p2), (2, .int p3)], [])) rfl ?_
      refine e_if (fun c25 => ?_) (fun c25 => ?_)
      · replace hb := i_pos c25 hb
        refine e_k 1 (f' := (284, [(4, .int v2), (3, .int v1), (0, .ref r1), (1, .int p2), (2, .int p3)], [.int 0])) rfl ?_
        obtain ⟨rfl, rfl, rfl⟩ := s_inj hb
        exact e_r rfl rfl K
      · replace hb := i_neg c25 hb
        refine e_k 2 (f' := (284, [(4, .int v2), (3, .int v1), (0, .ref r1), (1, .int p2), (2, .int p3)], [.int 1])) rfl ?_
        obtain ⟨rfl, rfl, rfl⟩ := s_inj hb
        exact e_r rfl rfl K
  replace hb := i_neg c23 hb
  rw [show am_sw v3 285 [(1, 144), (2, 175), (3, 175), (4, 285), (5, 285), (6, 285), (7, 285), (8, 285), (9, 285), (10, 285), (11, 175), (12, 175), (13, 187), (14, 205), (15, 175), (16, 175), (17, 175), (18, 285), (19, 224), (20, 224), (21, 224), (22, 224), (23, 235), (24, 235), (25, 235), (26, 266), (27, 175)] = 285 from (am_swd c4 (am_swd (fun e => c8 (Or.inl e)) (am_swd (fun e => c8 (Or.inr (Or.inl e))) (am_swe (am_swe (am_swe (am_swe (am_swe (am_swe (am_swe (am_swd (fun e => c8 (Or.inr (Or.inr (Or.inl e)))) (am_swd (fun e => c8 (Or.inr (Or.inr (Or.inr (Or.inl e))))) (am_swd c10 (am_swd c13 (am_swd (fun e => c8 (Or.inr (Or.inr (Or.inr (Or.inr (Or.inl e)))))) (am_swd (fun e => c8 (Or.inr (Or.inr (Or.inr (Or.inr (Or.inr (Or.inl e))))))) (am_swd (fun e => c8 (Or.inr (Or.inr (Or.inr (Or.inr (Or.inr (Or.inr (Or.inl e)))))))) (am_swe (am_swd (fun e => c16 (Or.inl e)) (am_swd (fun e => c16 (Or.inr (Or.inl e))) (am_swd (fun e => c16 (Or.inr (Or.inr (Or.inl e)))) (am_swd (fun e => c16 (Or.inr (Or.inr (Or.inr e)))) (am_swd (fun e => c18 (Or.inl e)) (am_swd (fun e => c18 (Or.inr (Or.inl e))) (am_swd (fun e => c18 (Or.inr (Or.inr e))) (am_swd c23 (am_swd (fun e => c8 (Or.inr (Or.inr (Or.inr (Or.inr (Or.inr (Or.inr (Or.inr e)))))))) rfl)))))))))))))))))))))))))))]
  refine e_k 1 (f' := (286, [(4, .int v2), (3, .int v1), (0, .ref r1), (1, .int p2), (2, .int p3)], [.int 1])) rfl ?_
  obtain ⟨rfl, rfl, rfl⟩ := s_inj hb
  exact e_r rfl rfl K
theorem E_Verifier_keepsSecret {r1 : Nat} {b1 : Nat} {m1 : Nat} {p2 : Int32} {X : MX} {I : MI} {J : MJ} {v : Int32} {I' : MI} {J' : MJ} (hR_r1 : isRw X r1 b1 m1) (hb : f_Verifier_keepsSecret r1 b1 m1 p2 I J = some (v, I', J')) (K : P (.inl (some (.int v))) (hX X I' J')) : am_E (gG L xs) (d + 1) m_Verifier_keepsSecret (0, lv_args 0 [.ref r1, .int p2], []) (hX X I J) P := by
  unfold f_Verifier_keepsSecret at hb
  refine e_k 4 (f' := (4, [(0, .ref r1), (1, .int p2)], [.int (p2 + 2), .ref r1])) rfl ?_
  obtain ⟨v1, I1, J1, h1, hb⟩ := oc_call hb
  refine r_cv (z := m_Row_at) (As := [.int (p2 + 2)]) (rest := []) rfl rfl rfl rfl rfl hR_r1.1 hR_r1.2.1 rfl (E_Row_at hR_r1 h1 ⟨_, rfl, ?_⟩)
  refine e_k 2 (f' := (if 4 ≤ v1 then 22 else 11, [(0, .ref r1), (1, .int p2)], [])) rfl ?_
  obtain ⟨v3, I3, J3, h3, hb⟩ := oc_call hb
  have Kj3 : am_E (gG L xs) (d + 1) m_Verifier_keepsSecret (27, [(0, .ref r1), (1, .int p2)], [.int v3]) (hX X I3 J3) P := by
    refine e_k 5 (f' := (32, [(2, .int v3), (0, .ref r1), (1, .int p2)], [.int (p2 + 1), .ref r1])) rfl ?_
    obtain ⟨v7, I7, J7, h7, hb⟩ := oc_call hb
    refine r_cv (z := m_Row_at) (As := [.int (p2 + 1)]) (rest := []) rfl rfl rfl rfl rfl hR_r1.1 hR_r1.2.1 rfl (E_Row_at hR_r1 h7 ⟨_, rfl, ?_⟩)
    refine e_k 2 (f' := (if 4 ≤ v7 then 43 else 39, [(2, .int v3), (0, .ref r1), (1, .int p2)], [])) rfl ?_
    refine e_if (fun c8 => ?_) (fun c8 => ?_)
    · replace hb := i_pos c8 hb
      refine e_k 2 (f' := (48, [(2, .int v3), (0, .ref r1), (1, .int p2)], [.int 1])) rfl ?_
      obtain ⟨rfl, rfl, rfl⟩ := s_inj hb
      exact e_r rfl rfl K
    · replace hb := i_neg c8 hb
      refine e_k 2 (f' := (if ¬ v3 = 0 then 47 else 43, [(2, .int v3), (0, .ref r1), (1, .int p2)], [])) rfl ?_
      refine e_if (fun c9 => ?_) (fun c9 => ?_)
      · replace hb := i_pos c9 hb
        refine e_k 1 (f' := (48, [(2, .int v3), (0, .ref r1), (1, .int p2)], [.int 0])) rfl ?_
        obtain ⟨rfl, rfl, rfl⟩ := s_inj hb
        exact e_r rfl rfl K
      · replace hb := i_neg c9 hb
        refine e_k 2 (f' := (48, [(2, .int v3), (0, .ref r1), (1, .int p2)], [.int 1])) rfl ?_
        obtain ⟨rfl, rfl, rfl⟩ := s_inj hb
        exact e_r rfl rfl K
  clear hb
  refine e_if (fun c4 => ?_) (fun c4 => ?_)
  · replace h3 := i_pos c4 h3
    refine e_k 2 (f' := (27, [(0, .ref r1), (1, .int p2)], [.int 1])) rfl ?_
    refine e_sub (ls := [(0, .ref r1), (1, .int p2)]) rfl ⟨rfl, rfl, trivial⟩ ?_
    obtain ⟨rfl, rfl, rfl⟩ := s_inj h3
    exact Kj3
  · replace h3 := i_neg c4 h3
    refine e_k 4 (f' := (15, [(0, .ref r1), (1, .int p2)], [.int (p2 + 3), .ref r1])) rfl ?_
    obtain ⟨v5, I5, J5, h5, h3⟩ := oc_call h3
    refine r_cv (z := m_Row_at) (As := [.int (p2 + 3)]) (rest := []) rfl rfl rfl rfl rfl hR_r1.1 hR_r1.2.1 rfl (E_Row_at hR_r1 h5 ⟨_, rfl, ?_⟩)
    refine e_k 2 (f' := (if v5 < 4 then 26 else 22, [(0, .ref r1), (1, .int p2)], [])) rfl ?_
    refine e_if (fun c6 => ?_) (fun c6 => ?_)
    · replace h3 := i_pos c6 h3
      refine e_k 1 (f' := (27, [(0, .ref r1), (1, .int p2)], [.int 0])) rfl ?_
      refine e_sub (ls := [(0, .ref r1), (1, .int p2)]) rfl ⟨rfl, rfl, trivial⟩ ?_
      obtain ⟨rfl, rfl, rfl⟩ := s_inj h3
      exact Kj3
    · replace h3 := i_neg c6 h3
      refine e_k 2 (f' := (27, [(0, .ref r1), (1, .int p2)], [.int 1])) rfl ?_
      refine e_sub (ls := [(0, .ref r1), (1, .int p2)]) rfl ⟨rfl, rfl, trivial⟩ ?_
      obtain ⟨rfl, rfl, rfl⟩ := s_inj h3
      exact Kj3
theorem E_Verifier_pushes {p2 : Int32} {X : MX} {I : MI} {J : MJ} {v : Int32} {I' : MI} {J' : MJ} (hb : f_Verifier_pushes p2 I J = some (v, I', J')) (K : P (.inl (some (.int v))) (hX X I' J')) : am_E (gG L xs) d m_Verifier_pushes (0, lv_args 0 [.ref 10, .int p2], []) (hX X I J) P := by
  unfold f_Verifier_pushes at hb
  refine e_k 1 (f' := (1, [(0, .ref 10), (1, .int p2)], [.ref 10])) rfl ?_
  refine r_geti rfl (x_ltn rfl) rfl rfl ?_
  refine e_k 1 (f' := (if (I 10 3) < 0 then 19 else 7, [(0, .ref 10), (1, .int p2)], [])) rfl ?_
  refine e_if (fun c1 => ?_) (fun c1 => ?_)
  · replace hb := i_pos c1 hb
    refine e_k 1 (f' := (20, [(0, .ref 10), (1, .int p2)], [.int 0])) rfl ?_
    obtain ⟨rfl, rfl, rfl⟩ := s_inj hb
    exact e_r rfl rfl K
  · replace hb := i_neg c1 hb
    refine e_k 1 (f' := (8, [(0, .ref 10), (1, .int p2)], [.ref 10])) rfl ?_
    refine r_geti rfl (x_ltn rfl) rfl rfl ?_
    refine e_k 1 (f' := (12, [(0, .ref 10), (1, .int p2)], [.ref 10, .int (I 10 3)])) rfl ?_
    refine r_getr rfl (x_ltn rfl) rfl rfl ?_
    refine r_alen rfl rfl (x_ltn rfl) rfl rfl ?_
    refine e_k 1 (f' := (if (I 10 3) < (nI 64) then 21 else 19, [(0, .ref 10), (1, .int p2)], [])) rfl ?_
    refine e_if (fun c2 => ?_) (fun c2 => ?_)
    · replace hb := i_pos c2 hb
      refine e_k 1 (f' := (22, [(0, .ref 10), (1, .int p2)], [.ref 10])) rfl ?_
      refine r_getr rfl (x_ltn rfl) rfl rfl ?_
      refine e_k 1 (f' := (26, [(0, .ref 10), (1, .int p2)], [.ref 10, .ref 13])) rfl ?_
      refine r_geti rfl (x_ltn rfl) rfl rfl ?_
      refine e_k 1 (f' := (30, [(0, .ref 10), (1, .int p2)], [.int p2, .int (I 10 3), .ref 13])) rfl ?_
      obtain ⟨o3, hb⟩ := ob_in hb
      obtain ⟨I4, eI4, hb⟩ := p_nm hb
      refine r_zast' rfl (x_ltn rfl) rfl o3 eI4 ?_
      refine e_k 2 (f' := (33, [(0, .ref 10), (1, .int p2)], [.ref 10, .ref 10])) rfl ?_
      refine r_geti rfl (x_ltn rfl) rfl rfl ?_
      refine e_k 2 (f' := (38, [(0, .ref 10), (1, .int p2)], [.int ((I4 10 3) + 1), .ref 10])) rfl ?_
      obtain ⟨I5, eI5, hb⟩ := p_nm hb
      refine r_puti' rfl (x_ltn rfl) rfl rfl eI5 ?_
      refine e_k 1 (f' := (42, [(0, .ref 10), (1, .int p2)], [.int 1])) rfl ?_
      obtain ⟨rfl, rfl, rfl⟩ := s_inj hb
      exact e_r rfl rfl K
    · replace hb := i_neg c2 hb
      refine e_k 1 (f' := (20, [(0, .ref 10), (1, .int p2)], [.int 0])) rfl ?_
      obtain ⟨rfl, rfl, rfl⟩ := s_inj hb
      exact e_r rfl rfl K
theorem E_Verifier_drops {p2 : Int32} {X : MX} {I : MI} {J : MJ} {v : Int32} {I' : MI} {J' : MJ} (hb : f_Verifier_drops p2 I J = some (v, I', J')) (K : P (.inl (some (.int v))) (hX X I' J')) : am_E (gG L xs) d m_Verifier_drops (0, lv_args 0 [.ref 10, .int p2], []) (hX X I J) P := by
  unfold f_Verifier_drops at hb
  refine e_k 2 (f' := (2, [(0, .ref 10), (1, .int p2)], [.ref 10, .ref 10])) rfl ?_
  refine r_geti rfl (x_ltn rfl) rfl rfl ?_
  refine e_k 2 (f' := (7, [(0, .ref 10), (1, .int p2)], [.int ((I 10 3) - p2), .ref 10])) rfl ?_
  obtain ⟨I1, eI1, hb⟩ := p_nm hb
  refine r_puti' rfl (x_ltn rfl) rfl rfl eI1 ?_
  refine e_k 1 (f' := (11, [(0, .ref 10), (1, .int p2)], [.int 1])) rfl ?_
  obtain ⟨rfl, rfl, rfl⟩ := s_inj hb
  exact e_r rfl rfl K
theorem E_Verifier_mark {a1 : Nat} {m1 : Nat} {p2 : Int32} {X : MX} {I : MI} {J : MJ} {v : Unit} {I' : MI} {J' : MJ} (hA_a1 : isArr X 2 a1 m1) (hb : f_Verifier_mark a1 m1 p2 I J = some (v, I', J')) (K : P (.inl (none)) (hX X I' J')) : am_E (gG L xs) d m_Verifier_mark (0, lv_args 0 [.ref a1, .int p2], []) (hX X I J) P := by
  unfold f_Verifier_mark at hb
  refine e_k 2 (f' := (if p2 < 0 then 14 else 4, [(0, .ref a1), (1, .int p2)], [])) rfl ?_
  refine e_if (fun c1 => ?_) (fun c1 => ?_)
  · replace hb := i_pos c1 hb
    obtain ⟨rfl, rfl, rfl⟩ := s_inj hb
    exact e_r rfl rfl K
  · replace hb := i_neg c1 hb
    refine e_k 2 (f' := (6, [(0, .ref a1), (1, .int p2)], [.ref a1, .int p2])) rfl ?_
    refine r_alen rfl hA_a1.2.1 hA_a1.1 hA_a1.2.2 rfl ?_
    refine e_k 1 (f' := (if (nI m1) ≤ p2 then 14 else 10, [(0, .ref a1), (1, .int p2)], [])) rfl ?_
    refine e_if (fun c2 => ?_) (fun c2 => ?_)
    · replace hb := i_pos c2 hb
      obtain ⟨rfl, rfl, rfl⟩ := s_inj hb
      exact e_r rfl rfl K
    · replace hb := i_neg c2 hb
      refine e_k 3 (f' := (13, [(0, .ref a1), (1, .int p2)], [.int 1, .int p2, .ref a1])) rfl ?_
      obtain ⟨o3, hb⟩ := ob_in hb
      obtain ⟨I4, eI4, hb⟩ := p_nm hb
      refine r_zast' rfl hA_a1.1 hA_a1.2.2 o3 eI4 ?_
      obtain ⟨rfl, rfl, rfl⟩ := s_inj hb
      exact e_r rfl rfl K
theorem E_Verifier_isMarked {a1 : Nat} {m1 : Nat} {p2 : Int32} {X : MX} {I : MI} {J : MJ} {v : Int32} {I' : MI} {J' : MJ} (hA_a1 : isArr X 2 a1 m1) (hb : f_Verifier_isMarked a1 m1 p2 I J = some (v, I', J')) (K : P (.inl (some (.int v))) (hX X I' J')) : am_E (gG L xs) d m_Verifier_isMarked (0, lv_args 0 [.ref a1, .int p2], []) (hX X I J) P := by
  unfold f_Verifier_isMarked at hb
  refine e_k 2 (f' := (if p2 < 0 then 20 else 4, [(0, .ref a1), (1, .int p2)], [])) rfl ?_
  refine e_if (fun c1 => ?_) (fun c1 => ?_)
  · replace hb := i_pos c1 hb
    refine e_k 1 (f' := (21, [(0, .ref a1), (1, .int p2)], [.int 0])) rfl ?_
    obtain ⟨rfl, rfl, rfl⟩ := s_inj hb
    exact e_r rfl rfl K
  · replace hb := i_neg c1 hb
    refine e_k 2 (f' := (6, [(0, .ref a1), (1, .int p2)], [.ref a1, .int p2])) rfl ?_
    refine r_alen rfl hA_a1.2.1 hA_a1.1 hA_a1.2.2 rfl ?_
    refine e_k 1 (f' := (if (nI m1) ≤ p2 then 20 else 10, [(0, .ref a1), (1, .int p2)], [])) rfl ?_
    refine e_if (fun c2 => ?_) (fun c2 => ?_)
    · replace hb := i_pos c2 hb
      refine e_k 1 (f' := (21, [(0, .ref a1), (1, .int p2)], [.int 0])) rfl ?_
      obtain ⟨rfl, rfl, rfl⟩ := s_inj hb
      exact e_r rfl rfl K
    · replace hb := i_neg c2 hb
      refine e_k 2 (f' := (12, [(0, .ref a1), (1, .int p2)], [.int p2, .ref a1])) rfl ?_
      obtain ⟨o3, hb⟩ := ob_in hb
      refine r_zald rfl hA_a1.2.1 hA_a1.1 hA_a1.2.2 o3 ?_
      refine e_k 1 (f' := (if (I a1 (Int32.toNatClampNeg p2)) = 0 then 20 else 16, [(0, .ref a1), (1, .int p2)], [])) rfl ?_
      refine e_if (fun c4 => ?_) (fun c4 => ?_)
      · replace hb := i_pos c4 hb
        refine e_k 1 (f' := (21, [(0, .ref a1), (1, .int p2)], [.int 0])) rfl ?_
        obtain ⟨rfl, rfl, rfl⟩ := s_inj hb
        exact e_r rfl rfl K
      · replace hb := i_neg c4 hb
        refine e_k 2 (f' := (21, [(0, .ref a1), (1, .int p2)], [.int 1])) rfl ?_
        obtain ⟨rfl, rfl, rfl⟩ := s_inj hb
        exact e_r rfl rfl K
theorem E_Math_floorMod {p1 : Int64} {p2 : Int64} {X : MX} {I : MI} {J : MJ} {v : Int64} {I' : MI} {J' : MJ} (hb : f_Math_floorMod p1 p2 I J = some (v, I', J')) (K : P (.inl (some (.long v))) (hX X I' J')) : am_E (gG L xs) d m_Math_floorMod (0, lv_args 0 [.long p1, .long p2], []) (hX X I J) P := by
  unfold f_Math_floorMod at hb
  refine e_k 2 (f' := (2, [(0, .long p1), (2, .long p2)], [.long p2, .long p1])) rfl ?_
  obtain ⟨o9, hb⟩ := ob_not hb
  refine e_k 1 (f' := (3, [(0, .long p1), (2, .long p2)], [.long (p1 - p1 / p2 * p2)])) (am_lrem rfl o9) ?_
  refine e_k 1 (f' := (5, [(4, .long (p1 - p1 / p2 * p2)), (0, .long p1), (2, .long p2)], [])) rfl ?_
  obtain ⟨x1, ex1, hb⟩ := p_nm hb
  rw [← ex1]
  refine e_k 6 (f' := (if 0 ≤ (lg_cmp (p1 ^^^ p2) 0) then 25 else 13, [(4, .long x1), (0, .long p1), (2, .long p2)], [])) rfl ?_
  refine e_if (fun c2 => ?_) (fun c2 => ?_)
  · replace hb := i_pos c2 hb
    refine e_k 1 (f' := (27, [(4, .long x1), (0, .long p1), (2, .long p2)], [.long x1])) rfl ?_
    obtain ⟨rfl, rfl, rfl⟩ := s_inj hb
    exact e_r rfl rfl K
  · replace hb := i_neg c2 hb
    refine e_k 4 (f' := (if (lg_cmp x1 0) = 0 then 25 else 20, [(4, .long x1), (0, .long p1), (2, .long p2)], [])) rfl ?_
    refine e_if (fun c3 => ?_) (fun c3 => ?_)
    · replace hb := i_pos c3 hb
      refine e_k 1 (f' := (27, [(4, .long x1), (0, .long p1), (2, .long p2)], [.long x1])) rfl ?_
      obtain ⟨rfl, rfl, rfl⟩ := s_inj hb
      exact e_r rfl rfl K
    · replace hb := i_neg c3 hb
      refine e_k 3 (f' := (24, [(4, .long x1), (0, .long p1), (2, .long p2)], [.long (x1 + p2)])) rfl ?_
      obtain ⟨rfl, rfl, rfl⟩ := s_inj hb
      exact e_r rfl rfl K
theorem E_Sh_type {p2 : Int64} {p3 : Int32} {X : MX} {I : MI} {J : MJ} {v : Int32} {I' : MI} {J' : MJ} (hb : f_Sh_type p2 p3 I J = some (v, I', J')) (K : P (.inl (some (.int v))) (hX X I' J')) : am_E (gG L xs) (d + 2) m_Sh_type (0, lv_args 0 [.ref 0, .long p2, .int p3], []) (hX X I J) P := by
  unfold f_Sh_type at hb
  refine e_k 1 (f' := (1, [(0, .ref 0), (1, .long p2), (3, .int p3)], [.ref 0])) rfl ?_
  refine r_getr rfl (x_ltn rfl) rfl rfl ?_
  refine r_getr rfl (x_ltn rfl) rfl rfl ?_
  refine e_k 4 (f' := (13, [(0, .ref 0), (1, .long p2), (3, .int p3)], [.int 126, .int 32, .int p3, .long p2, .ref 4])) rfl ?_
  obtain ⟨v1, I1, J1, h1, hb⟩ := oc_call hb
  refine r_cv (z := m_Row_addWord) (As := [.long p2, .int p3, .int 32, .int 126]) (rest := []) rfl rfl rfl rfl rfl (x_ltn rfl) rfl rfl (E_Row_addWord row_4 h1 ⟨_, rfl, ?_⟩)
  obtain ⟨o2, hb⟩ := ob_if hb
  obtain ⟨rfl, rfl, rfl⟩ := s_inj hb
  exact e_r rfl (if_pos o2) K
theorem E_Sh_put {p2 : Int64} {p3 : Int32} {X : MX} {I : MI} {J : MJ} {v : Int32} {I' : MI} {J' : MJ} (hb : f_Sh_put p2 p3 I J = some (v, I', J')) (K : P (.inl (some (.int v))) (hX X I' J')) : am_E (gG L xs) (d + 2) m_Sh_put (0, lv_args 0 [.ref 0, .long p2, .int p3], []) (hX X I J) P := by
  unfold f_Sh_put at hb
  refine e_k 1 (f' := (1, [(0, .ref 0), (1, .long p2), (3, .int p3)], [.ref 0])) rfl ?_
  refine r_getr rfl (x_ltn rfl) rfl rfl ?_
  refine e_k 4 (f' := (10, [(0, .ref 0), (1, .long p2), (3, .int p3)], [.int 255, .int 0, .int p3, .long p2, .ref 1])) rfl ?_
  obtain ⟨v1, I1, J1, h1, hb⟩ := oc_call hb
  refine r_cv (z := m_Row_addWord) (As := [.long p2, .int p3, .int 0, .int 255]) (rest := []) rfl rfl rfl rfl rfl (x_ltn rfl) rfl rfl (E_Row_addWord row_1 h1 ⟨_, rfl, ?_⟩)
  obtain ⟨o2, hb⟩ := ob_if hb
  obtain ⟨rfl, rfl, rfl⟩ := s_inj hb
  exact e_r rfl (if_pos o2) K
theorem E_Sh_code {p2 : Int32} {X : MX} {I : MI} {J : MJ} {v : Int32} {I' : MI} {J' : MJ} (hb : f_Sh_code p2 I J = some (v, I', J')) (K : P (.inl (some (.int v))) (hX X I' J')) : am_E (gG L xs) (d + 1) m_Sh_code (0, lv_args 0 [.ref 0, .int p2], []) (hX X I J) P := by
  unfold f_Sh_code at hb
  refine e_k 1 (f' := (1, [(0, .ref 0), (1, .int p2)], [.ref 0])) rfl ?_
  refine r_getr rfl (x_ltn rfl) rfl rfl ?_
  refine r_getr rfl (x_ltn rfl) rfl rfl ?_
  refine e_k 1 (f' := (8, [(0, .ref 0), (1, .int p2)], [.int p2, .ref 15])) rfl ?_
  obtain ⟨v1, I1, J1, h1, hb⟩ := oc_call hb
  refine r_cv (z := m_Row_at) (As := [.int p2]) (rest := []) rfl rfl rfl rfl rfl (x_ltn rfl) rfl rfl (E_Row_at row_15 h1 ⟨_, rfl, ?_⟩)
  obtain ⟨rfl, rfl, rfl⟩ := s_inj hb
  exact e_r rfl rfl K
theorem E_Sh_deliver {p2 : Int32} {p3 : Int32} {X : MX} {I : MI} {J : MJ} {v : Int32} {I' : MI} {J' : MJ} (hb : f_Sh_deliver p2 p3 I J = some (v, I', J')) (K : P (.inl (some (.int v))) (hX X I' J')) : am_E (gG L xs) (d + 2) m_Sh_deliver (0, lv_args 0 [.ref 0, .int p2, .int p3], []) (hX X I J) P := by
  unfold f_Sh_deliver at hb
  refine e_k 1 (f' := (1, [(0, .ref 0), (1, .int p2), (2, .int p3)], [.ref 0])) rfl ?_
  refine r_getr rfl (x_ltn rfl) rfl rfl ?_
  refine r_geti rfl (x_ltn rfl) rfl rfl ?_
  refine e_k 1 (f' := (if (I 14 9) = 0 then 26 else 10, [(0, .ref 0), (1, .int p2), (2, .int p3)], [])) rfl ?_
  refine e_if (fun c1 => ?_) (fun c1 => ?_)
  · replace hb := i_pos c1 hb
    refine e_k 1 (f' := (27, [(0, .ref 0), (1, .int p2), (2, .int p3)], [.int 0])) rfl ?_
    obtain ⟨rfl, rfl, rfl⟩ := s_inj hb
    exact e_r rfl rfl K
  · replace hb := i_neg c1 hb
    refine e_k 1 (f' := (11, [(0, .ref 0), (1, .int p2), (2, .int p3)], [.ref 0])) rfl ?_
    refine r_getr rfl (x_ltn rfl) rfl rfl ?_
    refine e_k 2 (f' := (16, [(0, .ref 0), (1, .int p2), (2, .int p3)], [.int p3, .int p2, .ref 14])) rfl ?_
    obtain ⟨v2, I2, J2, h2, hb⟩ := oc_call hb
    refine r_cv (z := m_Hall_bring) (As := [.int p2, .int p3]) (rest := []) rfl rfl rfl rfl rfl (x_ltn rfl) rfl rfl (E_Hall_bring  h2 ⟨_, rfl, ?_⟩)
    refine e_k 1 (f' := (if v2 = 0 then 26 else 22, [(0, .ref 0), (1, .int p2), (2, .int p3)], [])) rfl ?_
    refine e_if (fun c3 => ?_) (fun c3 => ?_)
    · replace hb := i_pos c3 hb
      refine e_k 1 (f' := (27, [(0, .ref 0), (1, .int p2), (2, .int p3)], [.int 0])) rfl ?_
      obtain ⟨rfl, rfl, rfl⟩ := s_inj hb
      exact e_r rfl rfl K
    · replace hb := i_neg c3 hb
      refine e_k 2 (f' := (27, [(0, .ref 0), (1, .int p2), (2, .int p3)], [.int 1])) rfl ?_
      obtain ⟨rfl, rfl, rfl⟩ := s_inj hb
      exact e_r rfl rfl K
theorem E_Sh_output {p2 : Int32} {p3 : Int32} {X : MX} {I : MI} {J : MJ} {v : (Int64 ⊕ Nat)} {X' : MX} {I' : MI} {J' : MJ} (hb : f_Sh_output p2 p3 X I J = some (v, X', I', J')) (K1 : ∀ u, v = .inl u → P (.inl (some (.long u))) (hX X' I' J')) (K2 : ∀ x, v = .inr x → P (.inr x) (am_thr (hX X' I' J'))) : am_E (gG L xs) (d + 5) m_Sh_output (0, lv_args 0 [.ref 0, .int p2, .int p3], []) (hX X I J) P := by
  unfold f_Sh_output at hb
  refine e_k 1 (f' := (1, [(0, .ref 0), (1, .int p2), (2, .int p3)], [.ref 0])) rfl ?_
  refine r_getr rfl (x_ltn rfl) rfl rfl ?_
  refine r_geti rfl (x_ltn rfl) rfl rfl ?_
  refine e_k 1 (f' := (if (I 14 9) = 0 then 41 else 10, [(0, .ref 0), (1, .int p2), (2, .int p3)], [])) rfl ?_
  refine e_if (fun c1 => ?_) (fun c1 => ?_)
  · replace hb := i_pos c1 hb
    obtain ⟨rfl, rfl, rfl, rfl⟩ := s_inx hb
    exact e_thr rfl (Nat.ble_eq_true_of_le (by omega)) (K2 _ rfl)
  · replace hb := i_neg c1 hb
    refine e_k 1 (f' := (11, [(0, .ref 0), (1, .int p2), (2, .int p3)], [.ref 0])) rfl ?_
    refine r_getr rfl (x_ltn rfl) rfl rfl ?_
    refine e_k 1 (f' := (15, [(0, .ref 0), (1, .int p2), (2, .int p3)], [.int p2, .ref 14])) rfl ?_
    obtain ⟨v2, I2, J2, h2, hb⟩ := oc_call hb
    refine r_cv (z := m_Hall_has) (As := [.int p2]) (rest := []) rfl rfl rfl rfl rfl (x_ltn rfl) rfl rfl (E_Hall_has  h2 ⟨_, rfl, ?_⟩)
    refine e_k 1 (f' := (if v2 = 0 then 41 else 21, [(0, .ref 0), (1, .int p2), (2, .int p3)], [])) rfl ?_
    refine e_if (fun c3 => ?_) (fun c3 => ?_)
    · replace hb := i_pos c3 hb
      obtain ⟨rfl, rfl, rfl, rfl⟩ := s_inx hb
      exact e_thr rfl (Nat.ble_eq_true_of_le (by omega)) (K2 _ rfl)
    · replace hb := i_neg c3 hb
      refine e_k 2 (f' := (if p3 < 0 then 41 else 25, [(0, .ref 0), (1, .int p2), (2, .int p3)], [])) rfl ?_
      refine e_if (fun c4 => ?_) (fun c4 => ?_)
      · replace hb := i_pos c4 hb
        obtain ⟨rfl, rfl, rfl, rfl⟩ := s_inx hb
        exact e_thr rfl (Nat.ble_eq_true_of_le (by omega)) (K2 _ rfl)
      · replace hb := i_neg c4 hb
        refine e_k 2 (f' := (27, [(0, .ref 0), (1, .int p2), (2, .int p3)], [.ref 0, .int p3])) rfl ?_
        refine r_getr rfl (x_ltn rfl) rfl rfl ?_
        refine r_getr rfl (x_ltn rfl) rfl rfl ?_
        refine e_k 1 (f' := (34, [(0, .ref 0), (1, .int p2), (2, .int p3)], [.int p2, .ref 17, .int p3])) rfl ?_
        obtain ⟨o5, hb⟩ := ob_in hb
        refine r_pald rfl o5 ?_
        refine r_geti rfl (x_ltp (vp_lt o5) (by decide)) (sS_p0 (vp_lt o5)) rfl ?_
        refine e_k 1 (f' := (if p3 < (I2 (18 + 21 * (Int32.toNatClampNeg p2)) 6) then 51 else 41, [(0, .ref 0), (1, .int p2), (2, .int p3)], [])) rfl ?_
        refine e_if (fun c6 => ?_) (fun c6 => ?_)
        · replace hb := i_pos c6 hb
          refine e_k 1 (f' := (52, [(0, .ref 0), (1, .int p2), (2, .int p3)], [.ref 0])) rfl ?_
          refine r_getr rfl (x_ltn rfl) rfl rfl ?_
          refine r_getr rfl (x_ltn rfl) rfl rfl ?_
          refine e_k 1 (f' := (59, [(0, .ref 0), (1, .int p2), (2, .int p3)], [.int p2, .ref 17])) rfl ?_
          obtain ⟨o7, hb⟩ := ob_in hb
          refine r_pald rfl o7 ?_
          refine r_getr rfl (x_ltp (vp_lt o7) (by decide)) (sS_p0 (vp_lt o7)) rfl ?_
          obtain ⟨o8, hb⟩ := oa_call (vp_lt o7) hb
          refine e_k 1 (f' := (64, [(0, .ref 0), (1, .int p2), (2, .int p3)], [.int p3, .ref (X.1 (Int32.toNatClampNeg p2))])) rfl ?_
          obtain ⟨v10, I10, J10, h10, hb⟩ := oc_call hb
          refine r_cs (z := m_Sh_read) (As := [.ref (X.1 (Int32.toNatClampNeg p2)), .int p3]) (rest := []) rfl rfl rfl rfl rfl rfl (E_Sh_read ⟨o8.1, o8.2.1, o8.2.2⟩ h10 ⟨_, rfl, ?_⟩)
          obtain ⟨rfl, rfl, rfl, rfl⟩ := s_inx hb
          exact e_r rfl rfl (K1 _ rfl)
        · replace hb := i_neg c6 hb
          obtain ⟨rfl, rfl, rfl, rfl⟩ := s_inx hb
          exact e_thr rfl (Nat.ble_eq_true_of_le (by omega)) (K2 _ rfl)
theorem E_Sh_clear {p2 : Int32} {p3 : Int32} {X : MX} {I : MI} {J : MJ} {v : (Int64 ⊕ Nat)} {I' : MI} {J' : MJ} (hb : f_Sh_clear p2 p3 I J = some (v, I', J')) (K1 : ∀ u, v = .inl u → P (.inl (some (.long u))) (hX X I' J')) (K2 : ∀ x, v = .inr x → P (.inr x) (am_thr (hX X I' J'))) : am_E (gG L xs) (d + 5) m_Sh_clear (0, lv_args 0 [.ref 0, .int p2, .int p3], []) (hX X I J) P := by
  unfold f_Sh_clear at hb
  refine e_k 1 (f' := (1, [(0, .ref 0), (1, .int p2), (2, .int p3)], [.ref 0])) rfl ?_
  refine r_getr rfl (x_ltn rfl) rfl rfl ?_
  refine r_geti rfl (x_ltn rfl) rfl rfl ?_
  refine e_k 1 (f' := (if (I 14 9) = 0 then 21 else 10, [(0, .ref 0), (1, .int p2), (2, .int p3)], [])) rfl ?_
  refine e_if (fun c1 => ?_) (fun c1 => ?_)
  · replace hb := i_pos c1 hb
    obtain ⟨rfl, rfl, rfl⟩ := s_inj hb
    exact e_thr rfl (Nat.ble_eq_true_of_le (by omega)) (K2 _ rfl)
  · replace hb := i_neg c1 hb
    refine e_k 1 (f' := (11, [(0, .ref 0), (1, .int p2), (2, .int p3)], [.ref 0])) rfl ?_
    refine r_getr rfl (x_ltn rfl) rfl rfl ?_
    refine e_k 1 (f' := (15, [(0, .ref 0), (1, .int p2), (2, .int p3)], [.int p2, .ref 14])) rfl ?_
    obtain ⟨v2, I2, J2, h2, hb⟩ := oc_call hb
    refine r_cv (z := m_Hall_has) (As := [.int p2]) (rest := []) rfl rfl rfl rfl rfl (x_ltn rfl) rfl rfl (E_Hall_has  h2 ⟨_, rfl, ?_⟩)
    refine e_k 1 (f' := (if ¬ v2 = 0 then 31 else 21, [(0, .ref 0), (1, .int p2), (2, .int p3)], [])) rfl ?_
    refine e_if (fun c3 => ?_) (fun c3 => ?_)
    · replace hb := i_pos c3 hb
      refine e_k 1 (f' := (32, [(0, .ref 0), (1, .int p2), (2, .int p3)], [.ref 0])) rfl ?_
      refine r_getr rfl (x_ltn rfl) rfl rfl ?_
      refine r_getr rfl (x_ltn rfl) rfl rfl ?_
      refine e_k 1 (f' := (39, [(0, .ref 0), (1, .int p2), (2, .int p3)], [.int p2, .ref 17])) rfl ?_
      obtain ⟨o4, hb⟩ := ob_in hb
      refine r_pald rfl o4 ?_
      refine r_getr rfl (x_ltp (vp_lt o4) (by decide)) (sS_p0 (vp_lt o4)) rfl ?_
      refine e_k 3 (f' := (if p3 < 0 then 63 else 48, [(3, .ref (19 + 21 * (Int32.toNatClampNeg p2))), (0, .ref 0), (1, .int p2), (2, .int p3)], [])) rfl ?_
      refine e_if (fun c5 => ?_) (fun c5 => ?_)
      · replace hb := i_pos c5 hb
        refine e_k 3 (f' := (if p3 < 100 then 76 else 69, [(3, .ref (19 + 21 * (Int32.toNatClampNeg p2))), (0, .ref 0), (1, .int p2), (2, .int p3)], [])) rfl ?_
        refine e_if (fun c6 => ?_) (fun c6 => ?_)
        · replace hb := i_pos c6 hb
          obtain ⟨rfl, rfl, rfl⟩ := s_inj hb
          exact e_thr rfl (Nat.ble_eq_true_of_le (by omega)) (K2 _ rfl)
        · replace hb := i_neg c6 hb
          refine e_k 3 (f' := (if p3 < 164 then 86 else 76, [(3, .ref (19 + 21 * (Int32.toNatClampNeg p2))), (0, .ref 0), (1, .int p2), (2, .int p3)], [])) rfl ?_
          refine e_if (fun c7 => ?_) (fun c7 => ?_)
          · replace hb := i_pos c7 hb
            refine e_k 1 (f' := (87, [(3, .ref (19 + 21 * (Int32.toNatClampNeg p2))), (0, .ref 0), (1, .int p2), (2, .int p3)], [.ref (19 + 21 * (Int32.toNatClampNeg p2))])) rfl ?_
            refine r_getr rfl (x_ltp (vp_lt o4) (by decide)) (sS_p1 (vp_lt o4)) rfl ?_
            refine e_k 3 (f' := (94, [(3, .ref (19 + 21 * (Int32.toNatClampNeg p2))), (0, .ref 0), (1, .int p2), (2, .int p3)], [.int (p3 - 100), .ref (22 + 21 * (Int32.toNatClampNeg p2))])) rfl ?_
            obtain ⟨v8, I8, J8, h8, hb⟩ := oc_call hb
            refine r_cs (z := m_Sh_read) (As := [.ref (22 + 21 * (Int32.toNatClampNeg p2)), .int (p3 - 100)]) (rest := []) rfl rfl rfl rfl rfl rfl (E_Sh_read ⟨(x_ltp (vp_lt o4) (by decide)), (x_t0 (vp_lt o4) (by decide)), (sS_p4 (vp_lt o4))⟩ h8 ⟨_, rfl, ?_⟩)
            obtain ⟨rfl, rfl, rfl⟩ := s_inj hb
            exact e_r rfl rfl (K1 _ rfl)
          · replace hb := i_neg c7 hb
            obtain ⟨rfl, rfl, rfl⟩ := s_inj hb
            exact e_thr rfl (Nat.ble_eq_true_of_le (by omega)) (K2 _ rfl)
      · replace hb := i_neg c5 hb
        refine e_k 3 (f' := (if 13 ≤ p3 then 63 else 54, [(3, .ref (19 + 21 * (Int32.toNatClampNeg p2))), (0, .ref 0), (1, .int p2), (2, .int p3)], [])) rfl ?_
        refine e_if (fun c9 => ?_) (fun c9 => ?_)
        · replace hb := i_pos c9 hb
          refine e_k 3 (f' := (if p3 < 100 then 76 else 69, [(3, .ref (19 + 21 * (Int32.toNatClampNeg p2))), (0, .ref 0), (1, .int p2), (2, .int p3)], [])) rfl ?_
          refine e_if (fun c10 => ?_) (fun c10 => ?_)
          · replace hb := i_pos c10 hb
            obtain ⟨rfl, rfl, rfl⟩ := s_inj hb
            exact e_thr rfl (Nat.ble_eq_true_of_le (by omega)) (K2 _ rfl)
          · replace hb := i_neg c10 hb
            refine e_k 3 (f' := (if p3 < 164 then 86 else 76, [(3, .ref (19 + 21 * (Int32.toNatClampNeg p2))), (0, .ref 0), (1, .int p2), (2, .int p3)], [])) rfl ?_
            refine e_if (fun c11 => ?_) (fun c11 => ?_)
            · replace hb := i_pos c11 hb
              refine e_k 1 (f' := (87, [(3, .ref (19 + 21 * (Int32.toNatClampNeg p2))), (0, .ref 0), (1, .int p2), (2, .int p3)], [.ref (19 + 21 * (Int32.toNatClampNeg p2))])) rfl ?_
              refine r_getr rfl (x_ltp (vp_lt o4) (by decide)) (sS_p1 (vp_lt o4)) rfl ?_
              refine e_k 3 (f' := (94, [(3, .ref (19 + 21 * (Int32.toNatClampNeg p2))), (0, .ref 0), (1, .int p2), (2, .int p3)], [.int (p3 - 100), .ref (22 + 21 * (Int32.toNatClampNeg p2))])) rfl ?_
              obtain ⟨v12, I12, J12, h12, hb⟩ := oc_call hb
              refine r_cs (z := m_Sh_read) (As := [.ref (22 + 21 * (Int32.toNatClampNeg p2)), .int (p3 - 100)]) (rest := []) rfl rfl rfl rfl rfl rfl (E_Sh_read ⟨(x_ltp (vp_lt o4) (by decide)), (x_t0 (vp_lt o4) (by decide)), (sS_p4 (vp_lt o4))⟩ h12 ⟨_, rfl, ?_⟩)
              obtain ⟨rfl, rfl, rfl⟩ := s_inj hb
              exact e_r rfl rfl (K1 _ rfl)
            · replace hb := i_neg c11 hb
              obtain ⟨rfl, rfl, rfl⟩ := s_inj hb
              exact e_thr rfl (Nat.ble_eq_true_of_le (by omega)) (K2 _ rfl)
        · replace hb := i_neg c9 hb
          refine e_k 1 (f' := (55, [(3, .ref (19 + 21 * (Int32.toNatClampNeg p2))), (0, .ref 0), (1, .int p2), (2, .int p3)], [.ref (19 + 21 * (Int32.toNatClampNeg p2))])) rfl ?_
          refine r_getr rfl (x_ltp (vp_lt o4) (by decide)) (sS_p1 (vp_lt o4)) rfl ?_
          refine e_k 1 (f' := (59, [(3, .ref (19 + 21 * (Int32.toNatClampNeg p2))), (0, .ref 0), (1, .int p2), (2, .int p3)], [.int p3, .ref (20 + 21 * (Int32.toNatClampNeg p2))])) rfl ?_
          obtain ⟨v13, I13, J13, h13, hb⟩ := oc_call hb
          refine r_cs (z := m_Sh_read) (As := [.ref (20 + 21 * (Int32.toNatClampNeg p2)), .int p3]) (rest := []) rfl rfl rfl rfl rfl rfl (E_Sh_read ⟨(x_ltp (vp_lt o4) (by decide)), (x_t0 (vp_lt o4) (by decide)), (sS_p2 (vp_lt o4))⟩ h13 ⟨_, rfl, ?_⟩)
          obtain ⟨rfl, rfl, rfl⟩ := s_inj hb
          exact e_r rfl rfl (K1 _ rfl)
    · replace hb := i_neg c3 hb
      obtain ⟨rfl, rfl, rfl⟩ := s_inj hb
      exact e_thr rfl (Nat.ble_eq_true_of_le (by omega)) (K2 _ rfl)
theorem E_Sh_countMails {w2 : Nat} {p3 : Int32} {p4 : Int32} {X : MX} {I : MI} {J : MJ} {v : Int32} {I' : MI} {J' : MJ} (hw_w2 : w2 < 4) (hb : f_Sh_countMails w2 p3 p4 I J = some (v, I', J')) (K : P (.inl (some (.int v))) (hX X I' J')) : am_E (gG L xs) (d + 2) m_Sh_countMails (0, lv_args 0 [.ref 0, .ref (18 + 21 * w2), .int p3, .int p4], []) (hX X I J) P := by
  unfold f_Sh_countMails at hb
  refine e_k 1 (f' := (1, [(0, .ref 0), (1, .ref (18 + 21 * w2)), (2, .int p3), (3, .int p4)], [.ref 0])) rfl ?_
  refine r_getr rfl (x_ltn rfl) rfl rfl ?_
  refine e_k 1 (f' := (5, [(0, .ref 0), (1, .ref (18 + 21 * w2)), (2, .int p3), (3, .int p4)], [.int p4, .ref 14])) rfl ?_
  obtain ⟨v1, I1, J1, h1, hb⟩ := oc_call hb
  refine r_cv (z := m_Hall_has) (As := [.int p4]) (rest := []) rfl rfl rfl rfl rfl (x_ltn rfl) rfl rfl (E_Hall_has  h1 ⟨_, rfl, ?_⟩)
  refine e_k 1 (f' := (if ¬ v1 = 0 then 13 else 11, [(0, .ref 0), (1, .ref (18 + 21 * w2)), (2, .int p3), (3, .int p4)], [])) rfl ?_
  refine e_if (fun c2 => ?_) (fun c2 => ?_)
  · replace hb := i_pos c2 hb
    refine e_k 1 (f' := (14, [(0, .ref 0), (1, .ref (18 + 21 * w2)), (2, .int p3), (3, .int p4)], [.ref 0])) rfl ?_
    refine r_getr rfl (x_ltn rfl) rfl rfl ?_
    refine r_geti rfl (x_ltn rfl) rfl rfl ?_
    refine e_k 1 (f' := (if (I1 14 9) = 0 then 31 else 23, [(0, .ref 0), (1, .ref (18 + 21 * w2)), (2, .int p3), (3, .int p4)], [])) rfl ?_
    refine e_if (fun c3 => ?_) (fun c3 => ?_)
    · replace hb := i_pos c3 hb
      refine e_k 1 (f' := (32, [(0, .ref 0), (1, .ref (18 + 21 * w2)), (2, .int p3), (3, .int p4)], [.int 0])) rfl ?_
      obtain ⟨rfl, rfl, rfl⟩ := s_inj hb
      exact e_r rfl rfl K
    · replace hb := i_neg c3 hb
      refine e_k 2 (f' := (25, [(0, .ref 0), (1, .ref (18 + 21 * w2)), (2, .int p3), (3, .int p4)], [.ref (18 + 21 * w2), .int p4])) rfl ?_
      refine r_geti rfl (x_ltp hw_w2 (by decide)) (sS_p0 hw_w2) rfl ?_
      refine e_k 1 (f' := (if ¬ p4 = (I1 (18 + 21 * w2) 0) then 33 else 31, [(0, .ref 0), (1, .ref (18 + 21 * w2)), (2, .int p3), (3, .int p4)], [])) rfl ?_
      refine e_if (fun c4 => ?_) (fun c4 => ?_)
      · replace hb := i_pos c4 hb
        refine e_k 2 (f' := (if p3 = 0 then 52 else 37, [(0, .ref 0), (1, .ref (18 + 21 * w2)), (2, .int p3), (3, .int p4)], [])) rfl ?_
        refine e_if (fun c5 => ?_) (fun c5 => ?_)
        · replace hb := i_pos c5 hb
          refine e_k 1 (f' := (53, [(0, .ref 0), (1, .ref (18 + 21 * w2)), (2, .int p3), (3, .int p4)], [.ref (18 + 21 * w2)])) rfl ?_
          refine r_getr rfl (x_ltp hw_w2 (by decide)) (sS_p0 hw_w2) rfl ?_
          refine r_getr rfl (x_ltp hw_w2 (by decide)) (sS_p14 hw_w2) rfl ?_
          refine e_k 1 (f' := (60, [(0, .ref 0), (1, .ref (18 + 21 * w2)), (2, .int p3), (3, .int p4)], [.int p4, .ref (35 + 21 * w2)])) rfl ?_
          obtain ⟨o6, hb⟩ := ob_in hb
          refine r_iald rfl (x_t0 hw_w2 (by decide)) (x_ltp hw_w2 (by decide)) (sS_p17 hw_w2) o6 ?_
          obtain ⟨rfl, rfl, rfl⟩ := s_inj hb
          exact e_r rfl rfl K
        · replace hb := i_neg c5 hb
          refine e_k 1 (f' := (38, [(0, .ref 0), (1, .ref (18 + 21 * w2)), (2, .int p3), (3, .int p4)], [.ref 0])) rfl ?_
          refine r_getr rfl (x_ltn rfl) rfl rfl ?_
          refine e_k 1 (f' := (42, [(0, .ref 0), (1, .ref (18 + 21 * w2)), (2, .int p3), (3, .int p4)], [.ref (18 + 21 * w2), .ref 14])) rfl ?_
          refine r_geti rfl (x_ltp hw_w2 (by decide)) (sS_p0 hw_w2) rfl ?_
          refine e_k 1 (f' := (46, [(0, .ref 0), (1, .ref (18 + 21 * w2)), (2, .int p3), (3, .int p4)], [.int p4, .int (I1 (18 + 21 * w2) 0), .ref 14])) rfl ?_
          obtain ⟨v7, I7, J7, h7, hb⟩ := oc_call hb
          refine r_cv (z := m_Hall_onWire) (As := [.int (I1 (18 + 21 * w2) 0), .int p4]) (rest := []) rfl rfl rfl rfl rfl (x_ltn rfl) rfl rfl (E_Hall_onWire  h7 ⟨_, rfl, ?_⟩)
          refine e_k 1 (f' := (61, [(0, .ref 0), (1, .ref (18 + 21 * w2)), (2, .int p3), (3, .int p4)], [.int v7])) rfl ?_
          obtain ⟨rfl, rfl, rfl⟩ := s_inj hb
          exact e_r rfl rfl K
      · replace hb := i_neg c4 hb
        refine e_k 1 (f' := (32, [(0, .ref 0), (1, .ref (18 + 21 * w2)), (2, .int p3), (3, .int p4)], [.int 0])) rfl ?_
        obtain ⟨rfl, rfl, rfl⟩ := s_inj hb
        exact e_r rfl rfl K
  · replace hb := i_neg c2 hb
    refine e_k 1 (f' := (12, [(0, .ref 0), (1, .ref (18 + 21 * w2)), (2, .int p3), (3, .int p4)], [.int (-1)])) rfl ?_
    obtain ⟨rfl, rfl, rfl⟩ := s_inj hb
    exact e_r rfl rfl K
theorem E_Sh_number {p1 : Int64} {X : MX} {I : MI} {J : MJ} {v : Int64} {I' : MI} {J' : MJ} (hb : f_Sh_number p1 I J = some (v, I', J')) (K : P (.inl (some (.long v))) (hX X I' J')) : am_E (gG L xs) (d + 1) m_Sh_number (0, lv_args 0 [.long p1], []) (hX X I J) P := by
  unfold f_Sh_number at hb
  refine e_k 2 (f' := (4, [(0, .long p1)], [.long 2305843009213693951, .long p1])) rfl ?_
  obtain ⟨v1, I1, J1, h1, hb⟩ := oc_call hb
  refine r_cs (z := m_Math_floorMod) (As := [.long p1, .long 2305843009213693951]) (rest := []) rfl rfl rfl rfl rfl rfl (E_Math_floorMod  h1 ⟨_, rfl, ?_⟩)
  obtain ⟨rfl, rfl, rfl⟩ := s_inj hb
  exact e_r rfl rfl K
theorem E_Model_readPart {R : M3} {X : MX} {I : MI} {J : MJ} {v : Int32} {I' : MI} {J' : MJ} (hR_0 : ∀ {I : MI} {J : MJ} {v : Int32} {I' : MI} {J' : MJ} {P : am_R → am_H → Prop}, R 0 0 0 I J = some (v, I', J') → P (.inl (some (.int v))) (hX X I' J') → am_E (gG L xs) (d + 2) m_Model_readX (0, lv_args 0 [.ref 112], []) (hX X I J) P) (hR_1 : ∀ {I : MI} {J : MJ} {v : Int32} {I' : MI} {J' : MJ} {P : am_R → am_H → Prop}, R 1 0 0 I J = some (v, I', J') → P (.inl (some (.int v))) (hX X I' J') → am_E (gG L xs) (d + 2) m_Model_readProduct (0, lv_args 0 [.ref 112], []) (hX X I J) P) (hR_2 : ∀ {I : MI} {J : MJ} {v : Int32} {I' : MI} {J' : MJ} {P : am_R → am_H → Prop}, R 2 0 0 I J = some (v, I', J') → P (.inl (some (.int v))) (hX X I' J') → am_E (gG L xs) (d + 2) m_Model_readFactor (0, lv_args 0 [.ref 112], []) (hX X I J) P) (hR_3 : ∀ {I : MI} {J : MJ} {v : Int32} {I' : MI} {J' : MJ} {P : am_R → am_H → Prop}, R 3 0 0 I J = some (v, I', J') → P (.inl (some (.int v))) (hX X I' J') → am_E (gG L xs) (d + 2) m_Model_readPart (0, lv_args 0 [.ref 112], []) (hX X I J) P) (hR_4 : ∀ {I : MI} {J : MJ} {v : Int32} {I' : MI} {J' : MJ} {P : am_R → am_H → Prop}, R 4 0 0 I J = some (v, I', J') → P (.inl (some (.int v))) (hX X I' J') → am_E (gG L xs) (d + 2) m_Model_readPlace (0, lv_args 0 [.ref 112], []) (hX X I J) P) (hR_5 : ∀ {I : MI} {J : MJ} {v : Int32} {I' : MI} {J' : MJ} {P : am_R → am_H → Prop}, R 5 0 0 I J = some (v, I', J') → P (.inl (some (.int v))) (hX X I' J') → am_E (gG L xs) (d + 2) m_Model_readStatements (0, lv_args 0 [.ref 112], []) (hX X I J) P) (hR_6 : ∀ {I : MI} {J : MJ} {v : Int32} {I' : MI} {J' : MJ} {P : am_R → am_H → Prop}, R 6 0 0 I J = some (v, I', J') → P (.inl (some (.int v))) (hX X I' J') → am_E (gG L xs) (d + 2) m_Model_readStatement (0, lv_args 0 [.ref 112], []) (hX X I J) P) (hR_7 : ∀ {I : MI} {J : MJ} {v : Int32} {I' : MI} {J' : MJ} {P : am_R → am_H → Prop}, R 7 0 0 I J = some (v, I', J') → P (.inl (some (.int v))) (hX X I' J') → am_E (gG L xs) (d + 2) m_Model_readRoutine (0, lv_args 0 [.ref 112], []) (hX X I J) P) (hR_8 : ∀ {a0 : Int32} {a1 : Int32} {I : MI} {J : MJ} {v : Int32} {I' : MI} {J' : MJ} {P : am_R → am_H → Prop}, R 8 a0 a1 I J = some (v, I', J') → P (.inl (some (.int v))) (hX X I' J') → am_E (gG L xs) (d + 2) m_Model_readValue (0, lv_args 0 [.ref 112, .int a0, .int a1], []) (hX X I J) P) (hR_9 : ∀ {a0 : Int32} {I : MI} {J : MJ} {v : Int32} {I' : MI} {J' : MJ} {P : am_R → am_H → Prop}, R 9 a0 0 I J = some (v, I', J') → P (.inl (some (.int v))) (hX X I' J') → am_E (gG L xs) (d + 2) m_Model_readRow (0, lv_args 0 [.ref 112, .int a0], []) (hX X I J) P) (hR_10 : ∀ {a0 : Int32} {I : MI} {J : MJ} {v : Int32} {I' : MI} {J' : MJ} {P : am_R → am_H → Prop}, R 10 a0 0 I J = some (v, I', J') → P (.inl (some (.int v))) (hX X I' J') → am_E (gG L xs) (d + 2) m_Model_readTurn (0, lv_args 0 [.ref 112, .int a0], []) (hX X I J) P) (hb : f_Model_readPart R  I J = some (v, I', J')) (K : P (.inl (some (.int v))) (hX X I' J')) : am_E (gG L xs) (d + 3) m_Model_readPart (0, lv_args 0 [.ref 112], []) (hX X I J) P := by
  unfold f_Model_readPart at hb
  refine e_k 1 (f' := (1, [(0, .ref 112)], [.ref 112])) rfl ?_
  obtain ⟨v1, I1, J1, h1, hb⟩ := oc_call hb
  refine r_cv (z := m_Model_see) (As := []) (rest := []) rfl rfl rfl rfl rfl (x_ltn rfl) rfl rfl (E_Model_see  h1 ⟨_, rfl, ?_⟩)
  refine e_k 4 (f' := (if ¬ v1 = 40 then 79 else 11, [(1, .int v1), (0, .ref 112)], [])) rfl ?_
  refine e_if (fun c2 => ?_) (fun c2 => ?_)
  · replace hb := i_pos c2 hb
    refine e_k 1 (f' := (80, [(1, .int v1), (0, .ref 112)], [.ref 112])) rfl ?_
    obtain ⟨v3, I3, J3, h3, hb⟩ := oc_call hb
    refine r_cv (z := m_Model_isVariable) (As := []) (rest := []) rfl rfl rfl rfl rfl (x_ltn rfl) rfl rfl (E_Model_isVariable  h3 ⟨_, rfl, ?_⟩)
    refine e_k 1 (f' := (if v3 = 0 then 126 else 86, [(1, .int v1), (0, .ref 112)], [])) rfl ?_
    refine e_if (fun c4 => ?_) (fun c4 => ?_)
    · replace hb := i_pos c4 hb
      refine e_k 1 (f' := (127, [(1, .int v1), (0, .ref 112)], [.ref 112])) rfl ?_
      obtain ⟨v5, I5, J5, h5, hb⟩ := oc_call hb
      refine r_cv (z := m_Model_isRow) (As := []) (rest := []) rfl rfl rfl rfl rfl (x_ltn rfl) rfl rfl (E_Model_isRow  h5 ⟨_, rfl, ?_⟩)
      refine e_k 1 (f' := (if v5 = 0 then 198 else 133, [(1, .int v1), (0, .ref 112)], [])) rfl ?_
      refine e_if (fun c6 => ?_) (fun c6 => ?_)
      · replace hb := i_pos c6 hb
        refine e_k 2 (f' := (200, [(1, .int v1), (0, .ref 112)], [.int 0, .ref 112])) rfl ?_
        obtain ⟨I7, eI7, hb⟩ := p_nm hb
        refine r_putz' rfl (x_ltn rfl) rfl rfl (Or.inl rfl) eI7 ?_
        refine e_k 1 (f' := (204, [(1, .int v1), (0, .ref 112)], [.ref 112])) rfl ?_
        obtain ⟨v8, I8, J8, h8, hb⟩ := oc_call hb
        refine r_cv (z := m_Model_isDigit) (As := []) (rest := []) rfl rfl rfl rfl rfl (x_ltn rfl) rfl rfl (E_Model_isDigit  h8 ⟨_, rfl, ?_⟩)
        refine e_k 1 (f' := (if v8 = 0 then 217 else 210, [(1, .int v1), (0, .ref 112)], [])) rfl ?_
        refine e_if (fun c9 => ?_) (fun c9 => ?_)
        · replace hb := i_pos c9 hb
          refine e_k 1 (f' := (218, [(1, .int v1), (0, .ref 112)], [.ref 112])) rfl ?_
          obtain ⟨v10, I10, J10, h10, hb⟩ := oc_call hb
          refine r_cv (z := m_Model_refuse) (As := []) (rest := []) rfl rfl rfl rfl rfl (x_ltn rfl) rfl rfl (E_Model_refuse  h10 ⟨_, rfl, ?_⟩)
          obtain ⟨o11, hb⟩ := ob_if hb
          obtain ⟨rfl, rfl, rfl⟩ := s_inj hb
          exact e_r rfl (if_pos o11) K
        · replace hb := i_neg c9 hb
          refine e_k 1 (f' := (211, [(1, .int v1), (0, .ref 112)], [.ref 112])) rfl ?_
          obtain ⟨v12, I12, J12, h12, hb⟩ := oc_call hb
          refine r_cv (z := m_Model_readNumber) (As := []) (rest := []) rfl rfl rfl rfl rfl (x_ltn rfl) rfl rfl (E_Model_readNumber  h12 ⟨_, rfl, ?_⟩)
          refine e_k 1 (f' := (221, [(1, .int v1), (0, .ref 112)], [.int v12])) rfl ?_
          obtain ⟨o13, hb⟩ := ob_if hb
          obtain ⟨rfl, rfl, rfl⟩ := s_inj hb
          exact e_r rfl (if_pos o13) K
      · replace hb := i_neg c6 hb
        refine e_k 2 (f' := (135, [(1, .int v1), (0, .ref 112)], [.ref 112, .ref 112])) rfl ?_
        refine r_geti rfl (x_ltn rfl) rfl rfl ?_
        refine e_k 2 (f' := (140, [(1, .int v1), (0, .ref 112)], [.int ((I5 112 5) + 1), .ref 112])) rfl ?_
        obtain ⟨I14, eI14, hb⟩ := p_nm hb
        refine r_puti' rfl (x_ltn rfl) rfl rfl eI14 ?_
        refine e_k 1 (f' := (144, [(1, .int v1), (0, .ref 112)], [.ref 112])) rfl ?_
        obtain ⟨v15, I15, J15, h15, hb⟩ := oc_call hb
        refine r_cv (z := m_Model_readPlace) (As := []) (rest := []) rfl rfl rfl rfl rfl (x_ltn rfl) rfl rfl (hR_4  h15 ⟨_, rfl, ?_⟩)
        refine e_k 1 (f' := (if ¬ v15 = 0 then 152 else 150, [(1, .int v1), (0, .ref 112)], [])) rfl ?_
        refine e_if (fun c16 => ?_) (fun c16 => ?_)
        · replace hb := i_pos c16 hb
          refine e_k 2 (f' := (154, [(1, .int v1), (0, .ref 112)], [.int v1, .ref 112])) rfl ?_
          obtain ⟨v17, I17, J17, h17, hb⟩ := oc_call hb
          refine r_cs (z := m_Model_isSecretRow) (As := [.int v1]) (rest := [.ref 112]) rfl rfl rfl rfl rfl rfl (E_Model_isSecretRow  h17 ⟨_, rfl, ?_⟩)
          obtain ⟨o19, hb⟩ := ob_if hb
          obtain ⟨I18, eI18, hb⟩ := p_nm hb
          refine r_putz' rfl (x_ltn rfl) rfl rfl o19 eI18 ?_
          refine e_k 2 (f' := (162, [(1, .int v1), (0, .ref 112)], [.ref 112, .ref 112])) rfl ?_
          refine r_geti rfl (x_ltn rfl) rfl rfl ?_
          refine e_k 1 (f' := (if (I18 112 73) = 0 then 173 else 168, [(1, .int v1), (0, .ref 112)], [.ref 112])) rfl ?_
          obtain ⟨v21, h21, hb⟩ := p_nn hb
          have Kj21 : am_E (gG L xs) (d + 3) m_Model_readPart (175, [(0, .ref 112), (1, .int v1)], [.int v21, .ref 112]) (hX X I18 J17) P := by
            refine e_k 1 (f' := (176, [(0, .ref 112), (1, .int v1)], [.ref 112, .int v21, .ref 112])) rfl ?_
            refine r_geti rfl (x_ltn rfl) rfl rfl ?_
            refine e_k 1 (f' := (if (I18 112 73) = 0 then 189 else 182, [(0, .ref 112), (1, .int v1)], [.int v21, .ref 112])) rfl ?_
            obtain ⟨v24, h24, hb⟩ := p_nn hb
            have Kj24 : am_E (gG L xs) (d + 3) m_Model_readPart (193, [], [.int v24, .int v21, .ref 112]) (hX X I18 J17) P := by
              obtain ⟨v26, I26, J26, h26, hb⟩ := oc_call hb
              refine r_cv (z := m_Model_lay_IIV) (As := [.int v21, .int v24]) (rest := []) rfl rfl rfl rfl rfl (x_ltn rfl) rfl rfl (E_Model_lay_IIV  h26 ⟨_, rfl, ?_⟩)
              refine e_k 1 (f' := (197, [], [.int 1])) rfl ?_
              obtain ⟨rfl, rfl, rfl⟩ := s_inj hb
              exact e_r rfl rfl K
            clear hb
            refine e_if (fun c25 => ?_) (fun c25 => ?_)
            · replace h24 := i_pos c25 h24
              refine e_k 3 (f' := (193, [(0, .ref 112), (1, .int v1)], [.int (v1 - 65), .int v21, .ref 112])) rfl ?_
              refine e_sub (ls := []) rfl ⟨⟩ ?_
              subst h24
              exact Kj24
            · replace h24 := i_neg c25 h24
              refine e_k 4 (f' := (193, [(0, .ref 112), (1, .int v1)], [.int (v1 - 69), .int v21, .ref 112])) rfl ?_
              refine e_sub (ls := []) rfl ⟨⟩ ?_
              subst h24
              exact Kj24
          clear hb
          refine e_if (fun c22 => ?_) (fun c22 => ?_)
          · replace h21 := i_pos c22 h21
            refine e_k 1 (f' := (175, [(1, .int v1), (0, .ref 112)], [.int 19, .ref 112])) rfl ?_
            refine e_sub (ls := [(0, .ref 112), (1, .int v1)]) rfl ⟨rfl, rfl, trivial⟩ ?_
            subst h21
            exact Kj21
          · replace h21 := i_neg c22 h21
            refine e_k 2 (f' := (175, [(1, .int v1), (0, .ref 112)], [.int 20, .ref 112])) rfl ?_
            refine e_sub (ls := [(0, .ref 112), (1, .int v1)]) rfl ⟨rfl, rfl, trivial⟩ ?_
            subst h21
            exact Kj21
        · replace hb := i_neg c16 hb
          refine e_k 1 (f' := (151, [(1, .int v1), (0, .ref 112)], [.int 0])) rfl ?_
          obtain ⟨rfl, rfl, rfl⟩ := s_inj hb
          exact e_r rfl rfl K
    · replace hb := i_neg c4 hb
      refine e_k 2 (f' := (88, [(1, .int v1), (0, .ref 112)], [.ref 112, .ref 112])) rfl ?_
      refine r_geti rfl (x_ltn rfl) rfl rfl ?_
      refine e_k 2 (f' := (93, [(1, .int v1), (0, .ref 112)], [.int ((I3 112 5) + 1), .ref 112])) rfl ?_
      obtain ⟨I27, eI27, hb⟩ := p_nm hb
      refine r_puti' rfl (x_ltn rfl) rfl rfl eI27 ?_
      refine e_k 2 (f' := (98, [(1, .int v1), (0, .ref 112)], [.int v1, .ref 112])) rfl ?_
      obtain ⟨v28, I28, J28, h28, hb⟩ := oc_call hb
      refine r_cs (z := m_Model_isClear) (As := [.int v1]) (rest := [.ref 112]) rfl rfl rfl rfl rfl rfl (E_Model_isClear  h28 ⟨_, rfl, ?_⟩)
      refine e_k 1 (f' := (if v28 = 0 then 108 else 104, [(1, .int v1), (0, .ref 112)], [.ref 112])) rfl ?_
      obtain ⟨v30, h30, hb⟩ := p_nn hb
      have Kj30 : am_E (gG L xs) (d + 3) m_Model_readPart (109, [(0, .ref 112), (1, .int v1)], [.int v30, .ref 112]) (hX X I28 J28) P := by
        refine e_k 1 (f' := (110, [(0, .ref 112), (1, .int v1)], [.int v1, .int v30, .ref 112])) rfl ?_
        obtain ⟨v32, I32, J32, h32, hb⟩ := oc_call hb
        refine r_cs (z := m_Model_numberOf) (As := [.int v1]) (rest := [.int v30, .ref 112]) rfl rfl rfl rfl rfl rfl (E_Model_numberOf  h32 ⟨_, rfl, ?_⟩)
        obtain ⟨v33, I33, J33, h33, hb⟩ := oc_call hb
        refine r_cv (z := m_Model_lay_IIV) (As := [.int v30, .int v32]) (rest := []) rfl rfl rfl rfl rfl (x_ltn rfl) rfl rfl (E_Model_lay_IIV  h33 ⟨_, rfl, ?_⟩)
        refine e_k 2 (f' := (118, [(0, .ref 112), (1, .int v1)], [.int v1, .ref 112])) rfl ?_
        obtain ⟨v34, I34, J34, h34, hb⟩ := oc_call hb
        refine r_cs (z := m_Model_isSecret) (As := [.int v1]) (rest := [.ref 112]) rfl rfl rfl rfl rfl rfl (E_Model_isSecret  h34 ⟨_, rfl, ?_⟩)
        obtain ⟨o36, hb⟩ := ob_if hb
        obtain ⟨I35, eI35, hb⟩ := p_nm hb
        refine r_putz' rfl (x_ltn rfl) rfl rfl o36 eI35 ?_
        refine e_k 1 (f' := (125, [(0, .ref 112), (1, .int v1)], [.int 1])) rfl ?_
        obtain ⟨rfl, rfl, rfl⟩ := s_inj hb
        exact e_r rfl rfl K
      clear hb
      refine e_if (fun c31 => ?_) (fun c31 => ?_)
      · replace h30 := i_pos c31 h30
        refine e_k 1 (f' := (109, [(1, .int v1), (0, .ref 112)], [.int 3, .ref 112])) rfl ?_
        refine e_sub (ls := [(0, .ref 112), (1, .int v1)]) rfl ⟨rfl, rfl, trivial⟩ ?_
        subst h30
        exact Kj30
      · replace h30 := i_neg c31 h30
        refine e_k 2 (f' := (109, [(1, .int v1), (0, .ref 112)], [.int 2, .ref 112])) rfl ?_
        refine e_sub (ls := [(0, .ref 112), (1, .int v1)]) rfl ⟨rfl, rfl, trivial⟩ ?_
        subst h30
        exact Kj30
  · replace hb := i_neg c2 hb
    refine e_k 1 (f' := (12, [(1, .int v1), (0, .ref 112)], [.ref 112])) rfl ?_
    refine r_geti rfl (x_ltn rfl) rfl rfl ?_
    refine e_k 2 (f' := (if (I1 112 15) < 20 then 25 else 20, [(1, .int v1), (0, .ref 112)], [])) rfl ?_
    refine e_if (fun c37 => ?_) (fun c37 => ?_)
    · replace hb := i_pos c37 hb
      refine e_k 2 (f' := (27, [(1, .int v1), (0, .ref 112)], [.ref 112, .ref 112])) rfl ?_
      refine r_geti rfl (x_ltn rfl) rfl rfl ?_
      refine e_k 2 (f' := (32, [(1, .int v1), (0, .ref 112)], [.int ((I1 112 5) + 1), .ref 112])) rfl ?_
      obtain ⟨I38, eI38, hb⟩ := p_nm hb
      refine r_puti' rfl (x_ltn rfl) rfl rfl eI38 ?_
      refine e_k 2 (f' := (37, [(1, .int v1), (0, .ref 112)], [.ref 112, .ref 112])) rfl ?_
      refine r_geti rfl (x_ltn rfl) rfl rfl ?_
      refine e_k 2 (f' := (42, [(1, .int v1), (0, .ref 112)], [.int ((I38 112 15) + 1), .ref 112])) rfl ?_
      obtain ⟨I39, eI39, hb⟩ := p_nm hb
      refine r_puti' rfl (x_ltn rfl) rfl rfl eI39 ?_
      refine e_k 1 (f' := (46, [(1, .int v1), (0, .ref 112)], [.ref 112])) rfl ?_
      obtain ⟨v40, I40, J40, h40, hb⟩ := oc_call hb
      refine r_cv (z := m_Model_readX) (As := []) (rest := []) rfl rfl rfl rfl rfl (x_ltn rfl) rfl rfl (hR_0  h40 ⟨_, rfl, ?_⟩)
      refine e_k 1 (f' := (if v40 = 0 then 65 else 52, [(1, .int v1), (0, .ref 112)], [])) rfl ?_
      obtain ⟨v42, I42, J42, h42, hb⟩ := oc_call hb
      have Kj42 : am_E (gG L xs) (d + 3) m_Model_readPart (66, [(0, .ref 112)], [.int v42]) (hX X I42 J42) P := by
        refine e_k 3 (f' := (69, [(2, .int v42), (0, .ref 112)], [.ref 112, .ref 112])) rfl ?_
        refine r_geti rfl (x_ltn rfl) rfl rfl ?_
        refine e_k 2 (f' := (74, [(2, .int v42), (0, .ref 112)], [.int ((I42 112 15) - 1), .ref 112])) rfl ?_
        obtain ⟨I46, eI46, hb⟩ := p_nm hb
        refine r_puti' rfl (x_ltn rfl) rfl rfl eI46 ?_
        refine e_k 1 (f' := (78, [(2, .int v42), (0, .ref 112)], [.int v42])) rfl ?_
        obtain ⟨o47, hb⟩ := ob_if hb
        obtain ⟨rfl, rfl, rfl⟩ := s_inj hb
        exact e_r rfl (if_pos o47) K
      clear hb
      refine e_if (fun c43 => ?_) (fun c43 => ?_)
      · replace h42 := i_pos c43 h42
        refine e_k 1 (f' := (66, [(1, .int v1), (0, .ref 112)], [.int 0])) rfl ?_
        refine e_sub (ls := [(0, .ref 112)]) rfl ⟨rfl, trivial⟩ ?_
        obtain ⟨rfl, rfl, rfl⟩ := s_inj h42
        exact Kj42
      · replace h42 := i_neg c43 h42
        refine e_k 2 (f' := (55, [(1, .int v1), (0, .ref 112)], [.int 41, .ref 112])) rfl ?_
        obtain ⟨v44, I44, J44, h44, h42⟩ := oc_call h42
        refine r_cv (z := m_Model_want) (As := [.int 41]) (rest := []) rfl rfl rfl rfl rfl (x_ltn rfl) rfl rfl (E_Model_want  h44 ⟨_, rfl, ?_⟩)
        refine e_k 1 (f' := (if v44 = 0 then 65 else 61, [(1, .int v1), (0, .ref 112)], [])) rfl ?_
        refine e_if (fun c45 => ?_) (fun c45 => ?_)
        · replace h42 := i_pos c45 h42
          refine e_k 1 (f' := (66, [(1, .int v1), (0, .ref 112)], [.int 0])) rfl ?_
          refine e_sub (ls := [(0, .ref 112)]) rfl ⟨rfl, trivial⟩ ?_
          obtain ⟨rfl, rfl, rfl⟩ := s_inj h42
          exact Kj42
        · replace h42 := i_neg c45 h42
          refine e_k 2 (f' := (66, [(1, .int v1), (0, .ref 112)], [.int 1])) rfl ?_
          refine e_sub (ls := [(0, .ref 112)]) rfl ⟨rfl, trivial⟩ ?_
          obtain ⟨rfl, rfl, rfl⟩ := s_inj h42
          exact Kj42
    · replace hb := i_neg c37 hb
      refine e_k 1 (f' := (21, [(1, .int v1), (0, .ref 112)], [.ref 112])) rfl ?_
      obtain ⟨v48, I48, J48, h48, hb⟩ := oc_call hb
      refine r_cv (z := m_Model_refuse) (As := []) (rest := []) rfl rfl rfl rfl rfl (x_ltn rfl) rfl rfl (E_Model_refuse  h48 ⟨_, rfl, ?_⟩)
      obtain ⟨o49, hb⟩ := ob_if hb
      obtain ⟨rfl, rfl, rfl⟩ := s_inj hb
      exact e_r rfl (if_pos o49) K
end AUTO
