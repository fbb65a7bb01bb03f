section AUTO
variable {L : Nat} {xs : Nat → Int32} {d : Nat} {P : am_R → am_H → Prop}
theorem E_Model_stepOf {p2 : Int32} {X : MX} {I : MI} {J : MJ} {v : Int32} {I' : MI} {J' : MJ} (hb : f_Model_stepOf p2 I J = some (v, I', J')) (K : P (.inl (some (.int v))) (hX X I' J')) : am_E (gG L xs) (d + 7) m_Model_stepOf (0, lv_args 0 [.ref 112, .int p2], []) (hX X I J) P := by
  unfold f_Model_stepOf at hb
  refine e_k 2 (f' := (2, [(0, .ref 112), (1, .int p2)], [.int 0, .ref 112])) rfl ?_
  obtain ⟨I1, eI1, hb⟩ := p_nm hb
  refine r_putz' rfl (x_ltn rfl) rfl rfl (Or.inl rfl) eI1 ?_
  refine e_k 2 (f' := (7, [(0, .ref 112), (1, .int p2)], [.int p2, .ref 112])) rfl ?_
  obtain ⟨v2, I2, J2, h2, hb⟩ := oc_call hb
  refine r_cv (z := m_Model_statusOf) (As := [.int p2]) (rest := []) rfl rfl rfl rfl rfl (x_ltn rfl) rfl rfl (E_Model_statusOf  h2 ⟨_, rfl, ?_⟩)
  refine e_k 4 (f' := (if v2 = 1 then 18 else 16, [(2, .int v2), (0, .ref 112), (1, .int p2)], [])) rfl ?_
  refine e_if (fun c3 => ?_) (fun c3 => ?_)
  · replace hb := i_pos c3 hb
    refine e_k 1 (f' := (19, [(2, .int v2), (0, .ref 112), (1, .int p2)], [.ref 112])) rfl ?_
    refine r_getr rfl (x_ltn rfl) rfl rfl ?_
    refine e_k 1 (f' := (23, [(2, .int v2), (0, .ref 112), (1, .int p2)], [.int p2, .ref 139])) rfl ?_
    obtain ⟨o4, hb⟩ := ob_in hb
    refine r_zald rfl rfl (x_ltn rfl) rfl o4 ?_
    refine e_k 1 (f' := (if (I2 139 (Int32.toNatClampNeg p2)) = 0 then 36 else 27, [(2, .int v2), (0, .ref 112), (1, .int p2)], [])) rfl ?_
    refine e_if (fun c5 => ?_) (fun c5 => ?_)
    · replace hb := i_pos c5 hb
      refine e_k 1 (f' := (37, [(2, .int v2), (0, .ref 112), (1, .int p2)], [.ref 112])) rfl ?_
      refine r_getr rfl (x_ltn rfl) rfl rfl ?_
      refine e_k 3 (f' := (43, [(2, .int v2), (0, .ref 112), (1, .int p2)], [.int p2, .ref 112, .int p2, .ref 138])) rfl ?_
      obtain ⟨v6, I6, J6, h6, hb⟩ := oc_call hb
      refine r_cv (z := m_Model_lacking) (As := [.int p2]) (rest := [.int p2, .ref 138]) rfl rfl rfl rfl rfl (x_ltn rfl) rfl rfl (E_Model_lacking  h6 ⟨_, rfl, ?_⟩)
      obtain ⟨o7, hb⟩ := ob_in hb
      obtain ⟨I8, eI8, hb⟩ := p_nm hb
      refine r_iast' rfl (x_ltn rfl) rfl o7 eI8 ?_
      refine e_k 1 (f' := (48, [(2, .int v2), (0, .ref 112), (1, .int p2)], [.ref 112])) rfl ?_
      refine r_getr rfl (x_ltn rfl) rfl rfl ?_
      refine e_k 1 (f' := (52, [(2, .int v2), (0, .ref 112), (1, .int p2)], [.int p2, .ref 138])) rfl ?_
      obtain ⟨o9, hb⟩ := ob_in hb
      refine r_iald rfl rfl (x_ltn rfl) rfl o9 ?_
      refine e_k 1 (f' := (if (I8 138 (Int32.toNatClampNeg p2)) ≤ 0 then 58 else 56, [(2, .int v2), (0, .ref 112), (1, .int p2)], [])) rfl ?_
      refine e_if (fun c10 => ?_) (fun c10 => ?_)
      · replace hb := i_pos c10 hb
        refine e_k 3 (f' := (61, [(2, .int v2), (0, .ref 112), (1, .int p2)], [.int p2, .ref 112, .ref 112])) rfl ?_
        obtain ⟨v11, I11, J11, h11, hb⟩ := oc_call hb
        refine r_cv (z := m_Model_act) (As := [.int p2]) (rest := [.ref 112]) rfl rfl rfl rfl rfl (x_ltn rfl) rfl rfl (E_Model_act  h11 ⟨_, rfl, ?_⟩)
        obtain ⟨o13, hb⟩ := ob_if hb
        obtain ⟨I12, eI12, hb⟩ := p_nm hb
        refine r_putz' rfl (x_ltn rfl) rfl rfl o13 eI12 ?_
        refine e_k 1 (f' := (68, [(2, .int v2), (0, .ref 112), (1, .int p2)], [.ref 112])) rfl ?_
        refine r_geti rfl (x_ltn rfl) rfl rfl ?_
        refine e_k 1 (f' := (if ¬ (I12 112 86) = 0 then 76 else 74, [(2, .int v2), (0, .ref 112), (1, .int p2)], [])) rfl ?_
        refine e_if (fun c14 => ?_) (fun c14 => ?_)
        · replace hb := i_pos c14 hb
          refine e_k 1 (f' := (77, [(2, .int v2), (0, .ref 112), (1, .int p2)], [.ref 112])) rfl ?_
          refine r_getr rfl (x_ltn rfl) rfl rfl ?_
          refine e_k 2 (f' := (82, [(2, .int v2), (0, .ref 112), (1, .int p2)], [.int p2, .ref 129, .int p2, .ref 129])) rfl ?_
          obtain ⟨o15, hb⟩ := ob_in hb
          refine r_iald rfl rfl (x_ltn rfl) rfl o15 ?_
          refine e_k 2 (f' := (85, [(2, .int v2), (0, .ref 112), (1, .int p2)], [.int ((I12 129 (Int32.toNatClampNeg p2)) + 1), .int p2, .ref 129])) rfl ?_
          obtain ⟨o16, hb⟩ := ob_in hb
          obtain ⟨I17, eI17, hb⟩ := p_nm hb
          refine r_iast' rfl (x_ltn rfl) rfl o16 eI17 ?_
          refine e_k 2 (f' := (88, [(2, .int v2), (0, .ref 112), (1, .int p2)], [.ref 112, .ref 112])) rfl ?_
          refine r_geti rfl (x_ltn rfl) rfl rfl ?_
          refine e_k 2 (f' := (93, [(2, .int v2), (0, .ref 112), (1, .int p2)], [.int ((I17 112 35) + 1), .ref 112])) rfl ?_
          obtain ⟨I18, eI18, hb⟩ := p_nm hb
          refine r_puti' rfl (x_ltn rfl) rfl rfl eI18 ?_
          refine e_k 1 (f' := (97, [(2, .int v2), (0, .ref 112), (1, .int p2)], [.ref 112])) rfl ?_
          refine r_getr rfl (x_ltn rfl) rfl rfl ?_
          refine e_k 1 (f' := (101, [(2, .int v2), (0, .ref 112), (1, .int p2)], [.int p2, .ref 137])) rfl ?_
          obtain ⟨o19, hb⟩ := ob_in hb
          refine r_iald rfl rfl (x_ltn rfl) rfl o19 ?_
          refine e_k 1 (f' := (if (I18 137 (Int32.toNatClampNeg p2)) ≤ 0 then 109 else 105, [(2, .int v2), (0, .ref 112), (1, .int p2)], [])) rfl ?_
          refine e_if (fun c20 => ?_) (fun c20 => ?_)
          · replace hb := i_pos c20 hb
            refine e_k 1 (f' := (110, [(2, .int v2), (0, .ref 112), (1, .int p2)], [.int 1])) rfl ?_
            obtain ⟨rfl, rfl, rfl⟩ := s_inj hb
            exact e_r rfl rfl K
          · replace hb := i_neg c20 hb
            refine e_k 2 (f' := (110, [(2, .int v2), (0, .ref 112), (1, .int p2)], [.int 3])) rfl ?_
            obtain ⟨rfl, rfl, rfl⟩ := s_inj hb
            exact e_r rfl rfl K
        · replace hb := i_neg c14 hb
          refine e_k 1 (f' := (75, [(2, .int v2), (0, .ref 112), (1, .int p2)], [.int 0])) rfl ?_
          obtain ⟨rfl, rfl, rfl⟩ := s_inj hb
          exact e_r rfl rfl K
      · replace hb := i_neg c10 hb
        refine e_k 1 (f' := (57, [(2, .int v2), (0, .ref 112), (1, .int p2)], [.int 4])) rfl ?_
        obtain ⟨rfl, rfl, rfl⟩ := s_inj hb
        exact e_r rfl rfl K
    · replace hb := i_neg c5 hb
      refine e_k 1 (f' := (28, [(2, .int v2), (0, .ref 112), (1, .int p2)], [.ref 112])) rfl ?_
      refine r_getr rfl (x_ltn rfl) rfl rfl ?_
      refine e_k 2 (f' := (33, [(2, .int v2), (0, .ref 112), (1, .int p2)], [.int 2, .int p2, .ref 137])) rfl ?_
      obtain ⟨o21, hb⟩ := ob_in hb
      obtain ⟨I22, eI22, hb⟩ := p_nm hb
      refine r_iast' rfl (x_ltn rfl) rfl o21 eI22 ?_
      refine e_k 1 (f' := (35, [(2, .int v2), (0, .ref 112), (1, .int p2)], [.int 3])) rfl ?_
      obtain ⟨rfl, rfl, rfl⟩ := s_inj hb
      exact e_r rfl rfl K
  · replace hb := i_neg c3 hb
    refine e_k 1 (f' := (17, [(2, .int v2), (0, .ref 112), (1, .int p2)], [.int v2])) rfl ?_
    obtain ⟨rfl, rfl, rfl⟩ := s_inj hb
    exact e_r rfl rfl K
theorem E_Model_step {p2 : Int32} {X : MX} {I : MI} {J : MJ} {v : Int32} {I' : MI} {J' : MJ} (hb : f_Model_step p2 I J = some (v, I', J')) (K : P (.inl (some (.int v))) (hX X I' J')) : am_E (gG L xs) (d + 8) m_Model_step (0, lv_args 0 [.ref 112, .int p2], []) (hX X I J) P := by
  unfold f_Model_step at hb
  refine e_k 2 (f' := (2, [(0, .ref 112), (1, .int p2)], [.int p2, .ref 112])) rfl ?_
  obtain ⟨v1, I1, J1, h1, hb⟩ := oc_call hb
  refine r_cv (z := m_Model_isParty) (As := [.int p2]) (rest := []) rfl rfl rfl rfl rfl (x_ltn rfl) rfl rfl (E_Model_isParty  h1 ⟨_, rfl, ?_⟩)
  refine e_k 1 (f' := (if ¬ v1 = 0 then 14 else 8, [(0, .ref 112), (1, .int p2)], [])) rfl ?_
  refine e_if (fun c2 => ?_) (fun c2 => ?_)
  · replace hb := i_pos c2 hb
    refine e_k 1 (f' := (15, [(0, .ref 112), (1, .int p2)], [.ref 112])) rfl ?_
    refine r_geti rfl (x_ltn rfl) rfl rfl ?_
    refine e_k 2 (f' := (if ¬ (I1 112 35) = 30000 then 30 else 24, [(0, .ref 112), (1, .int p2)], [])) rfl ?_
    refine e_if (fun c3 => ?_) (fun c3 => ?_)
    · replace hb := i_pos c3 hb
      refine e_k 2 (f' := (32, [(0, .ref 112), (1, .int p2)], [.int 0, .ref 112])) rfl ?_
      obtain ⟨I4, eI4, hb⟩ := p_nm hb
      refine r_puti' rfl (x_ltn rfl) rfl rfl eI4 ?_
      refine e_k 2 (f' := (37, [(0, .ref 112), (1, .int p2)], [.int p2, .ref 112])) rfl ?_
      obtain ⟨v5, I5, J5, h5, hb⟩ := oc_call hb
      refine r_cv (z := m_Model_stepOf) (As := [.int p2]) (rest := []) rfl rfl rfl rfl rfl (x_ltn rfl) rfl rfl (E_Model_stepOf  h5 ⟨_, rfl, ?_⟩)
      obtain ⟨rfl, rfl, rfl⟩ := s_inj hb
      exact e_r rfl rfl K
    · replace hb := i_neg c3 hb
      refine e_k 2 (f' := (26, [(0, .ref 112), (1, .int p2)], [.int 2, .ref 112])) rfl ?_
      obtain ⟨v6, I6, J6, h6, hb⟩ := oc_call hb
      refine r_cv (z := m_Model_raise) (As := [.int 2]) (rest := []) rfl rfl rfl rfl rfl (x_ltn rfl) rfl rfl (E_Model_raise  h6 ⟨_, rfl, ?_⟩)
      obtain ⟨rfl, rfl, rfl⟩ := s_inj hb
      exact e_r rfl rfl K
  · replace hb := i_neg c2 hb
    refine e_k 2 (f' := (10, [(0, .ref 112), (1, .int p2)], [.int 1, .ref 112])) rfl ?_
    obtain ⟨v7, I7, J7, h7, hb⟩ := oc_call hb
    refine r_cv (z := m_Model_raise) (As := [.int 1]) (rest := []) rfl rfl rfl rfl rfl (x_ltn rfl) rfl rfl (E_Model_raise  h7 ⟨_, rfl, ?_⟩)
    obtain ⟨rfl, rfl, rfl⟩ := s_inj hb
    exact e_r rfl rfl K
theorem E_Model_run_48 {X : MX} {p2 : Int32} : ∀ (fu : Nat) {l1 : Int32} {l2 : Int32} {l3 : Int32} {l4 : Int32} {l5 : Int32} {I : MI} {J : MJ} {r : (Int32 × Int32)} {I' : MI} {J' : MJ}, f_Model_run_48 p2 fu l1 l2 l3 l4 l5 I J = some (r, I', J') → am_E (gG L xs) (d + 8) m_Model_run (112, [(0, .ref 112), (1, .int l1), (2, .int r.1), (3, .int r.2), (4, .int l4)], []) (hX X I' J') P → am_E (gG L xs) (d + 8) m_Model_run (48, [(0, .ref 112), (1, .int l1), (2, .int l2), (3, .int l3), (4, .int l4), (5, .int l5)], []) (hX X I J) P := by
  intro fu
  induction fu with
  | zero =>
    intros
    rename_i hb _
    cases hb
  | succ fu ih =>
    intro l1 l2 l3 l4 l5 I J r I' J' hb K
    unfold f_Model_run_48 at hb
    refine e_k 2 (f' := (51, [(0, .ref 112), (1, .int l1), (2, .int l2), (3, .int l3), (4, .int l4), (5, .int l5)], [.ref 112, .int l5])) rfl ?_
    refine r_geti rfl (x_ltn rfl) rfl rfl ?_
    refine e_k 1 (f' := (if (I 112 16) ≤ l5 then 112 else 57, [(0, .ref 112), (1, .int l1), (2, .int l2), (3, .int l3), (4, .int l4), (5, .int l5)], [])) rfl ?_
    refine e_if (fun c8 => ?_) (fun c8 => ?_)
    · replace hb := i_pos c8 hb
      refine e_sub (ls := [(0, .ref 112), (1, .int l1), (2, .int l2), (3, .int l3), (4, .int l4)]) rfl ⟨rfl, rfl, rfl, rfl, rfl, trivial⟩ ?_
      obtain ⟨rfl, rfl, rfl⟩ := s_inj hb
      exact K
    · replace hb := i_neg c8 hb
      refine e_k 1 (f' := (58, [(0, .ref 112), (1, .int l1), (2, .int l2), (3, .int l3), (4, .int l4), (5, .int l5)], [.ref 112])) rfl ?_
      refine r_geti rfl (x_ltn rfl) rfl rfl ?_
      refine e_k 2 (f' := (if 30000 ≤ (I 112 35) then 112 else 67, [(0, .ref 112), (1, .int l1), (2, .int l2), (3, .int l3), (4, .int l4), (5, .int l5)], [])) rfl ?_
      refine e_if (fun c9 => ?_) (fun c9 => ?_)
      · replace hb := i_pos c9 hb
        refine e_sub (ls := [(0, .ref 112), (1, .int l1), (2, .int l2), (3, .int l3), (4, .int l4)]) rfl ⟨rfl, rfl, rfl, rfl, rfl, trivial⟩ ?_
        obtain ⟨rfl, rfl, rfl⟩ := s_inj hb
        exact K
      · replace hb := i_neg c9 hb
        refine e_k 2 (f' := (70, [(0, .ref 112), (1, .int l1), (2, .int l2), (3, .int l3), (4, .int l4), (5, .int l5)], [.int l5, .ref 112])) rfl ?_
        obtain ⟨v10, I10, J10, h10, hb⟩ := oc_call hb
        refine r_cv (z := m_Model_stepOf) (As := [.int l5]) (rest := []) rfl rfl rfl rfl rfl (x_ltn rfl) rfl rfl (E_Model_stepOf  h10 ⟨_, rfl, ?_⟩)
        refine e_k 3 (f' := (76, [(0, .ref 112), (1, .int l1), (2, .int l2), (3, .int l3), (4, .int l4), (5, .int l5)], [.ref 112, .int l2])) rfl ?_
        refine r_geti rfl (x_ltn rfl) rfl rfl ?_
        refine e_k 1 (f' := (if (I10 112 86) = 0 then 86 else 82, [(0, .ref 112), (1, .int l1), (2, .int l2), (3, .int l3), (4, .int l4), (5, .int l5)], [.int l2])) rfl ?_
        obtain ⟨v12, h12, hb⟩ := p_nn hb
        have Kj12 : am_E (gG L xs) (d + 8) m_Model_run (87, [(0, .ref 112), (1, .int l1), (3, .int l3), (4, .int l4), (5, .int l5)], [.int v12, .int l2]) (hX X I10 J10) P := by
          refine e_k 2 (f' := (89, [(2, .int (l2 + v12)), (0, .ref 112), (1, .int l1), (3, .int l3), (4, .int l4), (5, .int l5)], [])) rfl ?_
          obtain ⟨x14, ex14, hb⟩ := p_nm hb
          rw [← ex14]
          refine e_k 2 (f' := (if ¬ l3 = 0 then 100 else 93, [(2, .int x14), (0, .ref 112), (1, .int l1), (3, .int l3), (4, .int l4), (5, .int l5)], [])) rfl ?_
          obtain ⟨v16, h16, hb⟩ := p_nn hb
          have Kj16 : am_E (gG L xs) (d + 8) m_Model_run (105, [(0, .ref 112), (1, .int l1), (2, .int x14), (4, .int l4), (5, .int l5)], [.int v16]) (hX X I10 J10) P := by
            refine e_k 3 (f' := (48, [(5, .int (l5 + 1)), (3, .int v16), (0, .ref 112), (1, .int l1), (2, .int x14), (4, .int l4)], [])) rfl ?_
            refine e_sub (ls := [(0, .ref 112), (1, .int l1), (2, .int x14), (3, .int v16), (4, .int l4), (5, .int (l5 + 1))]) rfl ⟨rfl, rfl, rfl, rfl, rfl, rfl, trivial⟩ ?_
            exact ih  hb K
          clear hb
          refine e_if (fun c17 => ?_) (fun c17 => ?_)
          · replace h16 := i_pos c17 h16
            refine e_k 2 (f' := (105, [(2, .int x14), (0, .ref 112), (1, .int l1), (3, .int l3), (4, .int l4), (5, .int l5)], [.int 1])) rfl ?_
            refine e_sub (ls := [(0, .ref 112), (1, .int l1), (2, .int x14), (4, .int l4), (5, .int l5)]) rfl ⟨rfl, rfl, rfl, rfl, rfl, trivial⟩ ?_
            subst h16
            exact Kj16
          · replace h16 := i_neg c17 h16
            refine e_k 1 (f' := (94, [(2, .int x14), (0, .ref 112), (1, .int l1), (3, .int l3), (4, .int l4), (5, .int l5)], [.ref 112])) rfl ?_
            refine r_geti rfl (x_ltn rfl) rfl rfl ?_
            refine e_k 1 (f' := (if (I10 112 86) = 0 then 104 else 100, [(2, .int x14), (0, .ref 112), (1, .int l1), (3, .int l3), (4, .int l4), (5, .int l5)], [])) rfl ?_
            refine e_if (fun c18 => ?_) (fun c18 => ?_)
            · replace h16 := i_pos c18 h16
              refine e_k 1 (f' := (105, [(2, .int x14), (0, .ref 112), (1, .int l1), (3, .int l3), (4, .int l4), (5, .int l5)], [.int 0])) rfl ?_
              refine e_sub (ls := [(0, .ref 112), (1, .int l1), (2, .int x14), (4, .int l4), (5, .int l5)]) rfl ⟨rfl, rfl, rfl, rfl, rfl, trivial⟩ ?_
              subst h16
              exact Kj16
            · replace h16 := i_neg c18 h16
              refine e_k 2 (f' := (105, [(2, .int x14), (0, .ref 112), (1, .int l1), (3, .int l3), (4, .int l4), (5, .int l5)], [.int 1])) rfl ?_
              refine e_sub (ls := [(0, .ref 112), (1, .int l1), (2, .int x14), (4, .int l4), (5, .int l5)]) rfl ⟨rfl, rfl, rfl, rfl, rfl, trivial⟩ ?_
              subst h16
              exact Kj16
        clear hb
        refine e_if (fun c13 => ?_) (fun c13 => ?_)
        · replace h12 := i_pos c13 h12
          refine e_k 1 (f' := (87, [(0, .ref 112), (1, .int l1), (2, .int l2), (3, .int l3), (4, .int l4), (5, .int l5)], [.int 0, .int l2])) rfl ?_
          refine e_sub (ls := [(0, .ref 112), (1, .int l1), (3, .int l3), (4, .int l4), (5, .int l5)]) rfl ⟨rfl, rfl, rfl, rfl, rfl, trivial⟩ ?_
          subst h12
          exact Kj12
        · replace h12 := i_neg c13 h12
          refine e_k 2 (f' := (87, [(0, .ref 112), (1, .int l1), (2, .int l2), (3, .int l3), (4, .int l4), (5, .int l5)], [.int 1, .int l2])) rfl ?_
          refine e_sub (ls := [(0, .ref 112), (1, .int l1), (3, .int l3), (4, .int l4), (5, .int l5)]) rfl ⟨rfl, rfl, rfl, rfl, rfl, trivial⟩ ?_
          subst h12
          exact Kj12
theorem E_Model_run_122 {X : MX} {p2 : Int32} : ∀ (fu : Nat) {l1 : Int32} {l2 : Int32} {l3 : Int32} {l4 : Int32} {l5 : Int32} {I : MI} {J : MJ} {r : (Int32)} {I' : MI} {J' : MJ}, f_Model_run_122 p2 fu l1 l2 l3 l4 l5 I J = some (r, I', J') → am_E (gG L xs) (d + 4) m_Model_run (164, [(0, .ref 112), (1, .int l1), (2, .int l2), (3, .int r), (4, .int l4), (5, .int l5)], []) (hX X I' J') P → am_E (gG L xs) (d + 4) m_Model_run (122, [(0, .ref 112), (1, .int l1), (2, .int l2), (3, .int l3), (4, .int l4), (5, .int l5)], []) (hX X I J) P := by
  intro fu
  induction fu with
  | zero =>
    intros
    rename_i hb _
    cases hb
  | succ fu ih =>
    intro l1 l2 l3 l4 l5 I J r I' J' hb K
    unfold f_Model_run_122 at hb
    refine e_k 4 (f' := (127, [(0, .ref 112), (1, .int l1), (2, .int l2), (3, .int l3), (4, .int l4), (5, .int l5)], [.ref 112, .int (l5 / 4)])) rfl ?_
    refine r_geti rfl (x_ltn rfl) rfl rfl ?_
    refine e_k 1 (f' := (if (I 112 16) ≤ (l5 / 4) then 164 else 133, [(0, .ref 112), (1, .int l1), (2, .int l2), (3, .int l3), (4, .int l4), (5, .int l5)], [])) rfl ?_
    refine e_if (fun c21 => ?_) (fun c21 => ?_)
    · replace hb := i_pos c21 hb
      refine e_sub (ls := [(0, .ref 112), (1, .int l1), (2, .int l2), (3, .int l3), (4, .int l4), (5, .int l5)]) rfl ⟨rfl, rfl, rfl, rfl, rfl, rfl, trivial⟩ ?_
      obtain ⟨rfl, rfl, rfl⟩ := s_inj hb
      exact K
    · replace hb := i_neg c21 hb
      refine e_k 4 (f' := (138, [(0, .ref 112), (1, .int l1), (2, .int l2), (3, .int l3), (4, .int l4), (5, .int l5)], [.ref 112, .int (l5 - l5 / 4 * 4)])) rfl ?_
      refine r_geti rfl (x_ltn rfl) rfl rfl ?_
      refine e_k 1 (f' := (if (I 112 16) ≤ (l5 - l5 / 4 * 4) then 164 else 144, [(0, .ref 112), (1, .int l1), (2, .int l2), (3, .int l3), (4, .int l4), (5, .int l5)], [])) rfl ?_
      refine e_if (fun c22 => ?_) (fun c22 => ?_)
      · replace hb := i_pos c22 hb
        refine e_sub (ls := [(0, .ref 112), (1, .int l1), (2, .int l2), (3, .int l3), (4, .int l4), (5, .int l5)]) rfl ⟨rfl, rfl, rfl, rfl, rfl, rfl, trivial⟩ ?_
        obtain ⟨rfl, rfl, rfl⟩ := s_inj hb
        exact K
      · replace hb := i_neg c22 hb
        refine e_k 7 (f' := (153, [(0, .ref 112), (1, .int l1), (2, .int l2), (3, .int l3), (4, .int l4), (5, .int l5)], [.int (l5 - l5 / 4 * 4), .int (l5 / 4), .ref 112])) rfl ?_
        obtain ⟨v23, I23, J23, h23, hb⟩ := oc_call hb
        refine r_cv (z := m_Model_brings) (As := [.int (l5 / 4), .int (l5 - l5 / 4 * 4)]) (rest := []) rfl rfl rfl rfl rfl (x_ltn rfl) rfl rfl (E_Model_brings  h23 ⟨_, rfl, ?_⟩)
        refine e_k 1 (f' := (if v23 = 0 then 164 else 159, [(0, .ref 112), (1, .int l1), (2, .int l2), (3, .int l3), (4, .int l4), (5, .int l5)], [])) rfl ?_
        refine e_if (fun c24 => ?_) (fun c24 => ?_)
        · replace hb := i_pos c24 hb
          refine e_sub (ls := [(0, .ref 112), (1, .int l1), (2, .int l2), (3, .int l3), (4, .int l4), (5, .int l5)]) rfl ⟨rfl, rfl, rfl, rfl, rfl, rfl, trivial⟩ ?_
          obtain ⟨rfl, rfl, rfl⟩ := s_inj hb
          exact K
        · replace hb := i_neg c24 hb
          refine e_k 3 (f' := (122, [(3, .int 1), (0, .ref 112), (1, .int l1), (2, .int l2), (4, .int l4), (5, .int l5)], [])) rfl ?_
          refine e_sub (ls := [(0, .ref 112), (1, .int l1), (2, .int l2), (3, .int 1), (4, .int l4), (5, .int l5)]) rfl ⟨rfl, rfl, rfl, rfl, rfl, rfl, trivial⟩ ?_
          exact ih  hb K
theorem E_Model_run_115 {X : MX} {p2 : Int32} : ∀ (fu : Nat) {l1 : Int32} {l2 : Int32} {l3 : Int32} {l4 : Int32} {l5 : Int32} {I : MI} {J : MJ} {r : (Int32)} {I' : MI} {J' : MJ}, f_Model_run_115 p2 fu l1 l2 l3 l4 l5 I J = some (r, I', J') → am_E (gG L xs) (d + 4) m_Model_run (170, [(0, .ref 112), (1, .int l1), (2, .int l2), (3, .int r), (4, .int l4)], []) (hX X I' J') P → am_E (gG L xs) (d + 4) m_Model_run (115, [(0, .ref 112), (1, .int l1), (2, .int l2), (3, .int l3), (4, .int l4), (5, .int l5)], []) (hX X I J) P := by
  intro fu
  induction fu with
  | zero =>
    intros
    rename_i hb _
    cases hb
  | succ fu ih =>
    intro l1 l2 l3 l4 l5 I J r I' J' hb K
    unfold f_Model_run_115 at hb
    refine e_k 3 (f' := (if 16 ≤ l5 then 170 else 122, [(0, .ref 112), (1, .int l1), (2, .int l2), (3, .int l3), (4, .int l4), (5, .int l5)], [])) rfl ?_
    refine e_if (fun c20 => ?_) (fun c20 => ?_)
    · replace hb := i_pos c20 hb
      refine e_sub (ls := [(0, .ref 112), (1, .int l1), (2, .int l2), (3, .int l3), (4, .int l4)]) rfl ⟨rfl, rfl, rfl, rfl, rfl, trivial⟩ ?_
      obtain ⟨rfl, rfl, rfl⟩ := s_inj hb
      exact K
    · replace hb := i_neg c20 hb
      refine e_sub (ls := [(0, .ref 112), (1, .int l1), (2, .int l2), (3, .int l3), (4, .int l4), (5, .int l5)]) rfl ⟨rfl, rfl, rfl, rfl, rfl, rfl, trivial⟩ ?_
      obtain ⟨u25, I25, J25, h25, hb⟩ := oc_call hb
      refine E_Model_run_122  gF  h25 ?_
      refine e_k 2 (f' := (115, [(5, .int (l5 + 1)), (0, .ref 112), (1, .int l1), (2, .int l2), (3, .int u25), (4, .int l4)], [])) rfl ?_
      refine e_sub (ls := [(0, .ref 112), (1, .int l1), (2, .int l2), (3, .int u25), (4, .int l4), (5, .int (l5 + 1))]) rfl ⟨rfl, rfl, rfl, rfl, rfl, rfl, trivial⟩ ?_
      exact ih  hb K
theorem E_Model_run_33 {X : MX} {p2 : Int32} : ∀ (fu : Nat) {l1 : Int32} {l2 : Int32} {l3 : Int32} {l4 : Int32} {I : MI} {J : MJ} {r : (Int32)} {I' : MI} {J' : MJ}, f_Model_run_33 p2 fu l1 l2 l3 l4 I J = some (r, I', J') → am_E (gG L xs) (d + 8) m_Model_run (176, [(2, .int r)], []) (hX X I' J') P → am_E (gG L xs) (d + 8) m_Model_run (33, [(0, .ref 112), (1, .int l1), (2, .int l2), (3, .int l3), (4, .int l4)], []) (hX X I J) P := by
  intro fu
  induction fu with
  | zero =>
    intros
    rename_i hb _
    cases hb
  | succ fu ih =>
    intro l1 l2 l3 l4 I J r I' J' hb K
    unfold f_Model_run_33 at hb
    refine e_k 3 (f' := (if l1 ≤ l4 then 176 else 39, [(0, .ref 112), (1, .int l1), (2, .int l2), (3, .int l3), (4, .int l4)], [])) rfl ?_
    refine e_if (fun c6 => ?_) (fun c6 => ?_)
    · replace hb := i_pos c6 hb
      refine e_sub (ls := [(2, .int l2)]) rfl ⟨rfl, trivial⟩ ?_
      obtain ⟨rfl, rfl, rfl⟩ := s_inj hb
      exact K
    · replace hb := i_neg c6 hb
      refine e_k 2 (f' := (if l3 = 0 then 176 else 43, [(0, .ref 112), (1, .int l1), (2, .int l2), (3, .int l3), (4, .int l4)], [])) rfl ?_
      refine e_if (fun c7 => ?_) (fun c7 => ?_)
      · replace hb := i_pos c7 hb
        refine e_sub (ls := [(2, .int l2)]) rfl ⟨rfl, trivial⟩ ?_
        obtain ⟨rfl, rfl, rfl⟩ := s_inj hb
        exact K
      · replace hb := i_neg c7 hb
        refine e_k 4 (f' := (48, [(5, .int 0), (3, .int 0), (0, .ref 112), (1, .int l1), (2, .int l2), (4, .int l4)], [])) rfl ?_
        refine e_sub (ls := [(0, .ref 112), (1, .int l1), (2, .int l2), (3, .int 0), (4, .int l4), (5, .int 0)]) rfl ⟨rfl, rfl, rfl, rfl, rfl, rfl, trivial⟩ ?_
        obtain ⟨u19, I19, J19, h19, hb⟩ := oc_call hb
        refine E_Model_run_48  gF  h19 ?_
        refine e_k 2 (f' := (115, [(5, .int 0), (0, .ref 112), (1, .int l1), (2, .int u19.1), (3, .int u19.2), (4, .int l4)], [])) rfl ?_
        refine e_sub (ls := [(0, .ref 112), (1, .int l1), (2, .int u19.1), (3, .int u19.2), (4, .int l4), (5, .int 0)]) rfl ⟨rfl, rfl, rfl, rfl, rfl, rfl, trivial⟩ ?_
        obtain ⟨u26, I26, J26, h26, hb⟩ := oc_call hb
        refine E_Model_run_115  gF  h26 ?_
        refine e_k 2 (f' := (33, [(4, .int (l4 + 1)), (0, .ref 112), (1, .int l1), (2, .int u19.1), (3, .int u26)], [])) rfl ?_
        refine e_sub (ls := [(0, .ref 112), (1, .int l1), (2, .int u19.1), (3, .int u26), (4, .int (l4 + 1))]) rfl ⟨rfl, rfl, rfl, rfl, rfl, trivial⟩ ?_
        exact ih  hb K
theorem E_Model_run {p2 : Int32} {X : MX} {I : MI} {J : MJ} {v : Int32} {I' : MI} {J' : MJ} (hb : f_Model_run p2 I J = some (v, I', J')) (K : P (.inl (some (.int v))) (hX X I' J')) : am_E (gG L xs) (d + 8) m_Model_run (0, lv_args 0 [.ref 112, .int p2], []) (hX X I J) P := by
  unfold f_Model_run at hb
  refine e_k 3 (f' := (if p2 < 1 then 12 else 5, [(0, .ref 112), (1, .int p2)], [])) rfl ?_
  refine e_if (fun c1 => ?_) (fun c1 => ?_)
  · replace hb := i_pos c1 hb
    refine e_k 2 (f' := (14, [(0, .ref 112), (1, .int p2)], [.int 1, .ref 112])) rfl ?_
    obtain ⟨v2, I2, J2, h2, hb⟩ := oc_call hb
    refine r_cv (z := m_Model_raise) (As := [.int 1]) (rest := []) rfl rfl rfl rfl rfl (x_ltn rfl) rfl rfl (E_Model_raise  h2 ⟨_, rfl, ?_⟩)
    obtain ⟨rfl, rfl, rfl⟩ := s_inj hb
    exact e_r rfl rfl K
  · replace hb := i_neg c1 hb
    refine e_k 3 (f' := (if p2 ≤ 2000 then 18 else 12, [(0, .ref 112), (1, .int p2)], [])) rfl ?_
    refine e_if (fun c3 => ?_) (fun c3 => ?_)
    · replace hb := i_pos c3 hb
      refine e_k 2 (f' := (20, [(0, .ref 112), (1, .int p2)], [.int 0, .ref 112])) rfl ?_
      obtain ⟨I4, eI4, hb⟩ := p_nm hb
      refine r_puti' rfl (x_ltn rfl) rfl rfl eI4 ?_
      refine e_k 3 (f' := (26, [(2, .int 0), (0, .ref 112), (1, .int p2)], [.ref 112])) rfl ?_
      refine r_geti rfl (x_ltn rfl) rfl rfl ?_
      refine e_k 1 (f' := (30, [(3, .int (I4 112 34)), (2, .int 0), (0, .ref 112), (1, .int p2)], [])) rfl ?_
      obtain ⟨x5, ex5, hb⟩ := p_nm hb
      rw [← ex5]
      refine e_k 2 (f' := (33, [(4, .int 0), (3, .int x5), (2, .int 0), (0, .ref 112), (1, .int p2)], [])) rfl ?_
      refine e_sub (ls := [(0, .ref 112), (1, .int p2), (2, .int 0), (3, .int x5), (4, .int 0)]) rfl ⟨rfl, rfl, rfl, rfl, rfl, trivial⟩ ?_
      obtain ⟨u27, I27, J27, h27, hb⟩ := oc_call hb
      refine E_Model_run_33  gF  h27 ?_
      refine e_k 1 (f' := (177, [(2, .int u27)], [.int u27])) rfl ?_
      obtain ⟨rfl, rfl, rfl⟩ := s_inj hb
      exact e_r rfl rfl K
    · replace hb := i_neg c3 hb
      refine e_k 2 (f' := (14, [(0, .ref 112), (1, .int p2)], [.int 1, .ref 112])) rfl ?_
      obtain ⟨v28, I28, J28, h28, hb⟩ := oc_call hb
      refine r_cv (z := m_Model_raise) (As := [.int 1]) (rest := []) rfl rfl rfl rfl rfl (x_ltn rfl) rfl rfl (E_Model_raise  h28 ⟨_, rfl, ?_⟩)
      obtain ⟨rfl, rfl, rfl⟩ := s_inj hb
      exact e_r rfl rfl K
theorem E_Hall_settle_7 {X : MX} {w2 : Nat} {p3 : Int32} (hw_w2 : w2 < 4) : ∀ (fu : Nat) {l3 : Int32} {I : MI} {J : MJ} {r : (Unit ⊕ (Unit))} {I' : MI} {J' : MJ}, f_Hall_settle_7 w2 p3 fu l3 I J = some (r, I', J') → (∀ v, r = .inl v → P (.inl (none)) (hX X I' J')) → (∀ u, r = .inr u → am_E (gG L xs) (d + 2) m_Hall_settle (180, [], []) (hX X I' J') P) → am_E (gG L xs) (d + 2) m_Hall_settle (7, [(0, .ref 14), (1, .ref (18 + 21 * w2)), (3, .int l3)], []) (hX X I J) P := by
  intro fu
  induction fu with
  | zero =>
    intros
    rename_i hb _ _
    cases hb
  | succ fu ih =>
    intro l3 I J r I' J' hb K1 K2
    unfold f_Hall_settle_7 at hb
    refine e_k 3 (f' := (if 2000 ≤ l3 then 180 else 14, [(0, .ref 14), (1, .ref (18 + 21 * w2)), (3, .int l3)], [])) rfl ?_
    refine e_if (fun c2 => ?_) (fun c2 => ?_)
    · replace hb := i_pos c2 hb
      refine e_sub (ls := []) rfl ⟨⟩ ?_
      obtain ⟨rfl, rfl, rfl⟩ := s_inj hb
      exact K2 _ rfl
    · replace hb := i_neg c2 hb
      refine e_k 1 (f' := (15, [(0, .ref 14), (1, .ref (18 + 21 * w2)), (3, .int l3)], [.ref 14])) rfl ?_
      refine r_getr rfl (x_ltn rfl) rfl rfl ?_
      refine e_k 1 (f' := (19, [(0, .ref 14), (1, .ref (18 + 21 * w2)), (3, .int l3)], [.ref (18 + 21 * w2), .ref 15])) rfl ?_
      refine r_geti rfl (x_ltp hw_w2 (by decide)) (sS_p0 hw_w2) rfl ?_
      obtain ⟨v3, I3, J3, h3, hb⟩ := oc_call hb
      refine r_cv (z := m_Row_at) (As := [.int (I (18 + 21 * w2) 8)]) (rest := []) rfl rfl rfl rfl rfl (x_ltn rfl) rfl rfl (E_Row_at row_15 h3 ⟨_, rfl, ?_⟩)
      refine e_k 4 (f' := (if ¬ v3 = 1 then 56 else 33, [(4, .int v3), (0, .ref 14), (1, .ref (18 + 21 * w2)), (3, .int l3)], [])) rfl ?_
      refine e_if (fun c4 => ?_) (fun c4 => ?_)
      · replace hb := i_pos c4 hb
        refine e_k 3 (f' := (if ¬ v3 = 2 then 95 else 62, [(4, .int v3), (0, .ref 14), (1, .ref (18 + 21 * w2)), (3, .int l3)], [])) rfl ?_
        refine e_if (fun c5 => ?_) (fun c5 => ?_)
        · replace hb := i_pos c5 hb
          refine e_k 3 (f' := (if ¬ v3 = 3 then 134 else 101, [(4, .int v3), (0, .ref 14), (1, .ref (18 + 21 * w2)), (3, .int l3)], [])) rfl ?_
          refine e_if (fun c6 => ?_) (fun c6 => ?_)
          · replace hb := i_pos c6 hb
            refine e_k 4 (f' := (139, [(4, .int v3), (0, .ref 14), (1, .ref (18 + 21 * w2)), (3, .int l3)], [.int v3, .ref (18 + 21 * w2), .ref 14, .ref (18 + 21 * w2)])) rfl ?_
            obtain ⟨v7, I7, J7, h7, hb⟩ := oc_call hb
            refine r_cv (z := m_Hall_firstPhase) (As := [.ref (18 + 21 * w2), .int v3]) (rest := [.ref (18 + 21 * w2)]) rfl rfl rfl rfl rfl (x_ltn rfl) rfl rfl (E_Hall_firstPhase hw_w2 h7 ⟨_, rfl, ?_⟩)
            obtain ⟨I8, eI8, hb⟩ := p_nm hb
            refine r_puti' rfl (x_ltp hw_w2 (by decide)) (sS_p0 hw_w2) rfl eI8 ?_
            refine e_k 3 (f' := (if 0 < v3 then 155 else 151, [(4, .int v3), (0, .ref 14), (1, .ref (18 + 21 * w2)), (3, .int l3)], [.ref (18 + 21 * w2)])) rfl ?_
            refine e_if (fun c9 => ?_) (fun c9 => ?_)
            · replace hb := i_pos c9 hb
              refine e_k 1 (f' := (156, [(4, .int v3), (0, .ref 14), (1, .ref (18 + 21 * w2)), (3, .int l3)], [.int 1, .ref (18 + 21 * w2)])) rfl ?_
              obtain ⟨I10, eI10, hb⟩ := p_nm hb
              refine r_puti' rfl (x_ltp hw_w2 (by decide)) (sS_p0 hw_w2) rfl eI10 ?_
              obtain ⟨rfl, rfl, rfl⟩ := s_inj hb
              exact e_r rfl rfl (K1 _ rfl)
            · replace hb := i_neg c9 hb
              refine e_k 2 (f' := (156, [(4, .int v3), (0, .ref 14), (1, .ref (18 + 21 * w2)), (3, .int l3)], [.int 2, .ref (18 + 21 * w2)])) rfl ?_
              obtain ⟨I11, eI11, hb⟩ := p_nm hb
              refine r_puti' rfl (x_ltp hw_w2 (by decide)) (sS_p0 hw_w2) rfl eI11 ?_
              obtain ⟨rfl, rfl, rfl⟩ := s_inj hb
              exact e_r rfl rfl (K1 _ rfl)
          · replace hb := i_neg c6 hb
            refine e_k 1 (f' := (102, [(4, .int v3), (0, .ref 14), (1, .ref (18 + 21 * w2)), (3, .int l3)], [.ref (18 + 21 * w2)])) rfl ?_
            refine r_getr rfl (x_ltp hw_w2 (by decide)) (sS_p0 hw_w2) rfl ?_
            refine e_k 1 (f' := (106, [(4, .int v3), (0, .ref 14), (1, .ref (18 + 21 * w2)), (3, .int l3)], [.ref (18 + 21 * w2), .ref (19 + 21 * w2)])) rfl ?_
            refine r_getr rfl (x_ltp hw_w2 (by decide)) (sS_p0 hw_w2) rfl ?_
            refine r_getr rfl (x_ltp hw_w2 (by decide)) (sS_p1 hw_w2) rfl ?_
            refine e_k 1 (f' := (113, [(4, .int v3), (0, .ref 14), (1, .ref (18 + 21 * w2)), (3, .int l3)], [.ref 14, .ref (21 + 21 * w2), .ref (19 + 21 * w2)])) rfl ?_
            refine r_getr rfl (x_ltn rfl) rfl rfl ?_
            refine e_k 1 (f' := (117, [(4, .int v3), (0, .ref 14), (1, .ref (18 + 21 * w2)), (3, .int l3)], [.ref (18 + 21 * w2), .ref 15, .ref (21 + 21 * w2), .ref (19 + 21 * w2)])) rfl ?_
            refine r_geti rfl (x_ltp hw_w2 (by decide)) (sS_p0 hw_w2) rfl ?_
            refine e_k 2 (f' := (122, [(4, .int v3), (0, .ref 14), (1, .ref (18 + 21 * w2)), (3, .int l3)], [.int ((I3 (18 + 21 * w2) 8) + 1), .ref 15, .ref (21 + 21 * w2), .ref (19 + 21 * w2)])) rfl ?_
            obtain ⟨v12, I12, J12, h12, hb⟩ := oc_call hb
            refine r_cv (z := m_Row_at) (As := [.int ((I3 (18 + 21 * w2) 8) + 1)]) (rest := [.ref (21 + 21 * w2), .ref (19 + 21 * w2)]) rfl rfl rfl rfl rfl (x_ltn rfl) rfl rfl (E_Row_at row_15 h12 ⟨_, rfl, ?_⟩)
            obtain ⟨v13, I13, J13, h13, hb⟩ := oc_call hb
            refine r_cs (z := m_Sh_read) (As := [.ref (21 + 21 * w2), .int v12]) (rest := [.ref (19 + 21 * w2)]) rfl rfl rfl rfl rfl rfl (E_Sh_read ⟨(x_ltp hw_w2 (by decide)), (x_t0 hw_w2 (by decide)), (sS_p3 hw_w2)⟩ h13 ⟨_, rfl, ?_⟩)
            obtain ⟨v14, I14, J14, h14, hb⟩ := oc_call hb
            refine r_cv (z := m_Memory_push) (As := [.long v13]) (rest := []) rfl rfl rfl rfl rfl (x_ltp hw_w2 (by decide)) (sS_p1 hw_w2) rfl (E_Memory_push hw_w2 h14 ⟨_, rfl, ?_⟩)
            refine e_k 3 (f' := (162, [(4, .int v3), (0, .ref 14), (1, .ref (18 + 21 * w2)), (3, .int l3)], [.ref (18 + 21 * w2), .ref (18 + 21 * w2)])) rfl ?_
            refine r_geti rfl (x_ltp hw_w2 (by decide)) (sS_p0 hw_w2) rfl ?_
            refine e_k 1 (f' := (167, [(4, .int v3), (0, .ref 14), (1, .ref (18 + 21 * w2)), (3, .int l3)], [.int v3, .int (I14 (18 + 21 * w2) 8), .ref (18 + 21 * w2)])) rfl ?_
            obtain ⟨v15, I15, J15, h15, hb⟩ := oc_call hb
            refine r_cs (z := m_Sh_lengthOf) (As := [.int v3]) (rest := [.int (I14 (18 + 21 * w2) 8), .ref (18 + 21 * w2)]) rfl rfl rfl rfl rfl rfl (E_Sh_lengthOf  h15 ⟨_, rfl, ?_⟩)
            refine e_k 1 (f' := (171, [(4, .int v3), (0, .ref 14), (1, .ref (18 + 21 * w2)), (3, .int l3)], [.int ((I14 (18 + 21 * w2) 8) + v15), .ref (18 + 21 * w2)])) rfl ?_
            obtain ⟨I16, eI16, hb⟩ := p_nm hb
            refine r_puti' rfl (x_ltp hw_w2 (by decide)) (sS_p0 hw_w2) rfl eI16 ?_
            refine e_k 2 (f' := (7, [(3, .int (l3 + 1)), (4, .int v3), (0, .ref 14), (1, .ref (18 + 21 * w2))], [])) rfl ?_
            refine e_sub (ls := [(0, .ref 14), (1, .ref (18 + 21 * w2)), (3, .int (l3 + 1))]) rfl ⟨rfl, rfl, rfl, trivial⟩ ?_
            exact ih  hb K1 K2
        · replace hb := i_neg c5 hb
          refine e_k 1 (f' := (63, [(4, .int v3), (0, .ref 14), (1, .ref (18 + 21 * w2)), (3, .int l3)], [.ref (18 + 21 * w2)])) rfl ?_
          refine r_getr rfl (x_ltp hw_w2 (by decide)) (sS_p0 hw_w2) rfl ?_
          refine e_k 1 (f' := (67, [(4, .int v3), (0, .ref 14), (1, .ref (18 + 21 * w2)), (3, .int l3)], [.ref (18 + 21 * w2), .ref (19 + 21 * w2)])) rfl ?_
          refine r_getr rfl (x_ltp hw_w2 (by decide)) (sS_p0 hw_w2) rfl ?_
          refine r_getr rfl (x_ltp hw_w2 (by decide)) (sS_p1 hw_w2) rfl ?_
          refine e_k 1 (f' := (74, [(4, .int v3), (0, .ref 14), (1, .ref (18 + 21 * w2)), (3, .int l3)], [.ref 14, .ref (20 + 21 * w2), .ref (19 + 21 * w2)])) rfl ?_
          refine r_getr rfl (x_ltn rfl) rfl rfl ?_
          refine e_k 1 (f' := (78, [(4, .int v3), (0, .ref 14), (1, .ref (18 + 21 * w2)), (3, .int l3)], [.ref (18 + 21 * w2), .ref 15, .ref (20 + 21 * w2), .ref (19 + 21 * w2)])) rfl ?_
          refine r_geti rfl (x_ltp hw_w2 (by decide)) (sS_p0 hw_w2) rfl ?_
          refine e_k 2 (f' := (83, [(4, .int v3), (0, .ref 14), (1, .ref (18 + 21 * w2)), (3, .int l3)], [.int ((I3 (18 + 21 * w2) 8) + 1), .ref 15, .ref (20 + 21 * w2), .ref (19 + 21 * w2)])) rfl ?_
          obtain ⟨v17, I17, J17, h17, hb⟩ := oc_call hb
          refine r_cv (z := m_Row_at) (As := [.int ((I3 (18 + 21 * w2) 8) + 1)]) (rest := [.ref (20 + 21 * w2), .ref (19 + 21 * w2)]) rfl rfl rfl rfl rfl (x_ltn rfl) rfl rfl (E_Row_at row_15 h17 ⟨_, rfl, ?_⟩)
          obtain ⟨v18, I18, J18, h18, hb⟩ := oc_call hb
          refine r_cs (z := m_Sh_read) (As := [.ref (20 + 21 * w2), .int v17]) (rest := [.ref (19 + 21 * w2)]) rfl rfl rfl rfl rfl rfl (E_Sh_read ⟨(x_ltp hw_w2 (by decide)), (x_t0 hw_w2 (by decide)), (sS_p2 hw_w2)⟩ h18 ⟨_, rfl, ?_⟩)
          obtain ⟨v19, I19, J19, h19, hb⟩ := oc_call hb
          refine r_cv (z := m_Memory_push) (As := [.long v18]) (rest := []) rfl rfl rfl rfl rfl (x_ltp hw_w2 (by decide)) (sS_p1 hw_w2) rfl (E_Memory_push hw_w2 h19 ⟨_, rfl, ?_⟩)
          refine e_k 3 (f' := (162, [(4, .int v3), (0, .ref 14), (1, .ref (18 + 21 * w2)), (3, .int l3)], [.ref (18 + 21 * w2), .ref (18 + 21 * w2)])) rfl ?_
          refine r_geti rfl (x_ltp hw_w2 (by decide)) (sS_p0 hw_w2) rfl ?_
          refine e_k 1 (f' := (167, [(4, .int v3), (0, .ref 14), (1, .ref (18 + 21 * w2)), (3, .int l3)], [.int v3, .int (I19 (18 + 21 * w2) 8), .ref (18 + 21 * w2)])) rfl ?_
          obtain ⟨v20, I20, J20, h20, hb⟩ := oc_call hb
          refine r_cs (z := m_Sh_lengthOf) (As := [.int v3]) (rest := [.int (I19 (18 + 21 * w2) 8), .ref (18 + 21 * w2)]) rfl rfl rfl rfl rfl rfl (E_Sh_lengthOf  h20 ⟨_, rfl, ?_⟩)
          refine e_k 1 (f' := (171, [(4, .int v3), (0, .ref 14), (1, .ref (18 + 21 * w2)), (3, .int l3)], [.int ((I19 (18 + 21 * w2) 8) + v20), .ref (18 + 21 * w2)])) rfl ?_
          obtain ⟨I21, eI21, hb⟩ := p_nm hb
          refine r_puti' rfl (x_ltp hw_w2 (by decide)) (sS_p0 hw_w2) rfl eI21 ?_
          refine e_k 2 (f' := (7, [(3, .int (l3 + 1)), (4, .int v3), (0, .ref 14), (1, .ref (18 + 21 * w2))], [])) rfl ?_
          refine e_sub (ls := [(0, .ref 14), (1, .ref (18 + 21 * w2)), (3, .int (l3 + 1))]) rfl ⟨rfl, rfl, rfl, trivial⟩ ?_
          exact ih  hb K1 K2
      · replace hb := i_neg c4 hb
        refine e_k 1 (f' := (34, [(4, .int v3), (0, .ref 14), (1, .ref (18 + 21 * w2)), (3, .int l3)], [.ref (18 + 21 * w2)])) rfl ?_
        refine r_getr rfl (x_ltp hw_w2 (by decide)) (sS_p0 hw_w2) rfl ?_
        refine e_k 1 (f' := (38, [(4, .int v3), (0, .ref 14), (1, .ref (18 + 21 * w2)), (3, .int l3)], [.ref 14, .ref (19 + 21 * w2)])) rfl ?_
        refine r_getr rfl (x_ltn rfl) rfl rfl ?_
        refine e_k 1 (f' := (42, [(4, .int v3), (0, .ref 14), (1, .ref (18 + 21 * w2)), (3, .int l3)], [.ref (18 + 21 * w2), .ref 15, .ref (19 + 21 * w2)])) rfl ?_
        refine r_geti rfl (x_ltp hw_w2 (by decide)) (sS_p0 hw_w2) rfl ?_
        refine e_k 2 (f' := (47, [(4, .int v3), (0, .ref 14), (1, .ref (18 + 21 * w2)), (3, .int l3)], [.int ((I3 (18 + 21 * w2) 8) + 1), .ref 15, .ref (19 + 21 * w2)])) rfl ?_
        obtain ⟨v22, I22, J22, h22, hb⟩ := oc_call hb
        refine r_cv (z := m_Row_longAt) (As := [.int ((I3 (18 + 21 * w2) 8) + 1)]) (rest := [.ref (19 + 21 * w2)]) rfl rfl rfl rfl rfl (x_ltn rfl) rfl rfl (E_Row_longAt row_15 h22 ⟨_, rfl, ?_⟩)
        obtain ⟨v23, I23, J23, h23, hb⟩ := oc_call hb
        refine r_cv (z := m_Memory_push) (As := [.long v22]) (rest := []) rfl rfl rfl rfl rfl (x_ltp hw_w2 (by decide)) (sS_p1 hw_w2) rfl (E_Memory_push hw_w2 h23 ⟨_, rfl, ?_⟩)
        refine e_k 3 (f' := (162, [(4, .int v3), (0, .ref 14), (1, .ref (18 + 21 * w2)), (3, .int l3)], [.ref (18 + 21 * w2), .ref (18 + 21 * w2)])) rfl ?_
        refine r_geti rfl (x_ltp hw_w2 (by decide)) (sS_p0 hw_w2) rfl ?_
        refine e_k 1 (f' := (167, [(4, .int v3), (0, .ref 14), (1, .ref (18 + 21 * w2)), (3, .int l3)], [.int v3, .int (I23 (18 + 21 * w2) 8), .ref (18 + 21 * w2)])) rfl ?_
        obtain ⟨v24, I24, J24, h24, hb⟩ := oc_call hb
        refine r_cs (z := m_Sh_lengthOf) (As := [.int v3]) (rest := [.int (I23 (18 + 21 * w2) 8), .ref (18 + 21 * w2)]) rfl rfl rfl rfl rfl rfl (E_Sh_lengthOf  h24 ⟨_, rfl, ?_⟩)
        refine e_k 1 (f' := (171, [(4, .int v3), (0, .ref 14), (1, .ref (18 + 21 * w2)), (3, .int l3)], [.int ((I23 (18 + 21 * w2) 8) + v24), .ref (18 + 21 * w2)])) rfl ?_
        obtain ⟨I25, eI25, hb⟩ := p_nm hb
        refine r_puti' rfl (x_ltp hw_w2 (by decide)) (sS_p0 hw_w2) rfl eI25 ?_
        refine e_k 2 (f' := (7, [(3, .int (l3 + 1)), (4, .int v3), (0, .ref 14), (1, .ref (18 + 21 * w2))], [])) rfl ?_
        refine e_sub (ls := [(0, .ref 14), (1, .ref (18 + 21 * w2)), (3, .int (l3 + 1))]) rfl ⟨rfl, rfl, rfl, trivial⟩ ?_
        exact ih  hb K1 K2
theorem E_Hall_settle {w2 : Nat} {p3 : Int32} {X : MX} {I : MI} {J : MJ} {v : Unit} {I' : MI} {J' : MJ} (hw_w2 : w2 < 4) (hb : f_Hall_settle w2 p3 I J = some (v, I', J')) (K : P (.inl (none)) (hX X I' J')) : am_E (gG L xs) (d + 2) m_Hall_settle (0, lv_args 0 [.ref 14, .ref (18 + 21 * w2), .int p3], []) (hX X I J) P := by
  unfold f_Hall_settle at hb
  refine e_k 2 (f' := (2, [(0, .ref 14), (1, .ref (18 + 21 * w2)), (2, .int p3)], [.int p3, .ref (18 + 21 * w2)])) rfl ?_
  obtain ⟨I1, eI1, hb⟩ := p_nm hb
  refine r_puti' rfl (x_ltp hw_w2 (by decide)) (sS_p0 hw_w2) rfl eI1 ?_
  refine e_k 2 (f' := (7, [(3, .int 0), (0, .ref 14), (1, .ref (18 + 21 * w2)), (2, .int p3)], [])) rfl ?_
  refine e_sub (ls := [(0, .ref 14), (1, .ref (18 + 21 * w2)), (3, .int 0)]) rfl ⟨rfl, rfl, rfl, trivial⟩ ?_
  obtain ⟨q26, I26, J26, h26, hb⟩ := oc_call hb
  refine E_Hall_settle_7 hw_w2 gF  h26 (fun y26 ey26 => ?_) (fun u26 ey26 => ?_)
  · subst ey26
    replace hb := oe_l hb
    obtain ⟨rfl, rfl, rfl⟩ := s_inj hb
    exact K
  · subst ey26
    replace hb := oe_r hb
    obtain ⟨rfl, rfl, rfl⟩ := s_inj hb
    exact e_r rfl rfl K
theorem E_Hall_lackFor {w2 : Nat} {p3 : Int32} {X : MX} {I : MI} {J : MJ} {v : Int32} {I' : MI} {J' : MJ} (hw_w2 : w2 < 4) (hb : f_Hall_lackFor w2 p3 I J = some (v, I', J')) (K : P (.inl (some (.int v))) (hX X I' J')) : am_E (gG L xs) (d + 2) m_Hall_lackFor (0, lv_args 0 [.ref 14, .ref (18 + 21 * w2), .int p3], []) (hX X I J) P := by
  unfold f_Hall_lackFor at hb
  refine e_k 1 (f' := (1, [(0, .ref 14), (1, .ref (18 + 21 * w2)), (2, .int p3)], [.ref (18 + 21 * w2)])) rfl ?_
  refine r_getr rfl (x_ltp hw_w2 (by decide)) (sS_p0 hw_w2) rfl ?_
  refine e_k 3 (f' := (am_sw p3 284 [(7, 142), (8, 284), (9, 284), (10, 184), (11, 284), (12, 284), (13, 112), (14, 284), (15, 284), (16, 284), (17, 284), (18, 284), (19, 200), (20, 200), (21, 218), (22, 218), (23, 284), (24, 284), (25, 158), (26, 158), (27, 236), (28, 253), (29, 269)], [(3, .ref (19 + 21 * w2)), (0, .ref 14), (1, .ref (18 + 21 * w2)), (2, .int p3)], [])) rfl ?_
  by_cases c1 : p3 = 7
  · rw [show am_sw p3 284 [(7, 142), (8, 284), (9, 284), (10, 184), (11, 284), (12, 284), (13, 112), (14, 284), (15, 284), (16, 284), (17, 284), (18, 284), (19, 200), (20, 200), (21, 218), (22, 218), (23, 284), (24, 284), (25, 158), (26, 158), (27, 236), (28, 253), (29, 269)] = 142 from by rw [c1]; rfl]
    replace hb := i_pos c1 hb
    refine e_k 3 (f' := (145, [(3, .ref (19 + 21 * w2)), (0, .ref 14), (1, .ref (18 + 21 * w2)), (2, .int p3)], [.int 0, .ref (18 + 21 * w2), .ref 14])) rfl ?_
    obtain ⟨v2, I2, J2, h2, hb⟩ := oc_call hb
    refine r_cv (z := m_Hall_left) (As := [.ref (18 + 21 * w2), .int 0]) (rest := []) rfl rfl rfl rfl rfl (x_ltn rfl) rfl rfl (E_Hall_left hw_w2 h2 ⟨_, rfl, ?_⟩)
    refine e_k 2 (f' := (if 1 ≤ v2 then 156 else 152, [(3, .ref (19 + 21 * w2)), (0, .ref 14), (1, .ref (18 + 21 * w2)), (2, .int p3)], [])) rfl ?_
    refine e_if (fun c3 => ?_) (fun c3 => ?_)
    · replace hb := i_pos c3 hb
      refine e_k 1 (f' := (157, [(3, .ref (19 + 21 * w2)), (0, .ref 14), (1, .ref (18 + 21 * w2)), (2, .int p3)], [.int 0])) rfl ?_
      obtain ⟨rfl, rfl, rfl⟩ := s_inj hb
      exact e_r rfl rfl K
    · replace hb := i_neg c3 hb
      refine e_k 2 (f' := (157, [(3, .ref (19 + 21 * w2)), (0, .ref 14), (1, .ref (18 + 21 * w2)), (2, .int p3)], [.int 3])) rfl ?_
      obtain ⟨rfl, rfl, rfl⟩ := s_inj hb
      exact e_r rfl rfl K
  replace hb := i_neg c1 hb
  by_cases c4 : p3 = 10
  · rw [show am_sw p3 284 [(7, 142), (8, 284), (9, 284), (10, 184), (11, 284), (12, 284), (13, 112), (14, 284), (15, 284), (16, 284), (17, 284), (18, 284), (19, 200), (20, 200), (21, 218), (22, 218), (23, 284), (24, 284), (25, 158), (26, 158), (27, 236), (28, 253), (29, 269)] = 184 from by rw [c4]; rfl]
    replace hb := i_pos c4 hb
    refine e_k 3 (f' := (187, [(3, .ref (19 + 21 * w2)), (0, .ref 14), (1, .ref (18 + 21 * w2)), (2, .int p3)], [.int 1, .ref (18 + 21 * w2), .ref 14])) rfl ?_
    obtain ⟨v5, I5, J5, h5, hb⟩ := oc_call hb
    refine r_cv (z := m_Hall_left) (As := [.ref (18 + 21 * w2), .int 1]) (rest := []) rfl rfl rfl rfl rfl (x_ltn rfl) rfl rfl (E_Hall_left hw_w2 h5 ⟨_, rfl, ?_⟩)
    refine e_k 2 (f' := (if 1 ≤ v5 then 198 else 194, [(3, .ref (19 + 21 * w2)), (0, .ref 14), (1, .ref (18 + 21 * w2)), (2, .int p3)], [])) rfl ?_
    refine e_if (fun c6 => ?_) (fun c6 => ?_)
    · replace hb := i_pos c6 hb
      refine e_k 1 (f' := (199, [(3, .ref (19 + 21 * w2)), (0, .ref 14), (1, .ref (18 + 21 * w2)), (2, .int p3)], [.int 0])) rfl ?_
      obtain ⟨rfl, rfl, rfl⟩ := s_inj hb
      exact e_r rfl rfl K
    · replace hb := i_neg c6 hb
      refine e_k 2 (f' := (199, [(3, .ref (19 + 21 * w2)), (0, .ref 14), (1, .ref (18 + 21 * w2)), (2, .int p3)], [.int 4])) rfl ?_
      obtain ⟨rfl, rfl, rfl⟩ := s_inj hb
      exact e_r rfl rfl K
  replace hb := i_neg c4 hb
  by_cases c7 : p3 = 13
  · rw [show am_sw p3 284 [(7, 142), (8, 284), (9, 284), (10, 184), (11, 284), (12, 284), (13, 112), (14, 284), (15, 284), (16, 284), (17, 284), (18, 284), (19, 200), (20, 200), (21, 218), (22, 218), (23, 284), (24, 284), (25, 158), (26, 158), (27, 236), (28, 253), (29, 269)] = 112 from by rw [c7]; rfl]
    replace hb := i_pos c7 hb
    refine e_k 1 (f' := (113, [(3, .ref (19 + 21 * w2)), (0, .ref 14), (1, .ref (18 + 21 * w2)), (2, .int p3)], [.ref (18 + 21 * w2)])) rfl ?_
    refine r_getr rfl (x_ltp hw_w2 (by decide)) (sS_p0 hw_w2) rfl ?_
    obtain ⟨v8, I8, J8, h8, hb⟩ := oc_call hb
    refine r_cv (z := m_Stock_inputsLeft) (As := []) (rest := []) rfl rfl rfl rfl rfl (x_ltp hw_w2 (by decide)) (sS_p11 hw_w2) rfl (E_Stock_inputsLeft hw_w2 h8 ⟨_, rfl, ?_⟩)
    refine e_k 2 (f' := (if 1 ≤ v8 then 125 else 123, [(3, .ref (19 + 21 * w2)), (0, .ref 14), (1, .ref (18 + 21 * w2)), (2, .int p3)], [])) rfl ?_
    refine e_if (fun c9 => ?_) (fun c9 => ?_)
    · replace hb := i_pos c9 hb
      refine e_k 1 (f' := (126, [(3, .ref (19 + 21 * w2)), (0, .ref 14), (1, .ref (18 + 21 * w2)), (2, .int p3)], [.ref (18 + 21 * w2)])) rfl ?_
      refine r_getr rfl (x_ltp hw_w2 (by decide)) (sS_p0 hw_w2) rfl ?_
      obtain ⟨v10, I10, J10, h10, hb⟩ := oc_call hb
      refine r_cv (z := m_Stock_masksLeft) (As := []) (rest := []) rfl rfl rfl rfl rfl (x_ltp hw_w2 (by decide)) (sS_p11 hw_w2) rfl (E_Stock_masksLeft hw_w2 h10 ⟨_, rfl, ?_⟩)
      refine e_k 2 (f' := (if 1 ≤ v10 then 140 else 136, [(3, .ref (19 + 21 * w2)), (0, .ref 14), (1, .ref (18 + 21 * w2)), (2, .int p3)], [])) rfl ?_
      refine e_if (fun c11 => ?_) (fun c11 => ?_)
      · replace hb := i_pos c11 hb
        refine e_k 1 (f' := (141, [(3, .ref (19 + 21 * w2)), (0, .ref 14), (1, .ref (18 + 21 * w2)), (2, .int p3)], [.int 0])) rfl ?_
        obtain ⟨rfl, rfl, rfl⟩ := s_inj hb
        exact e_r rfl rfl K
      · replace hb := i_neg c11 hb
        refine e_k 2 (f' := (141, [(3, .ref (19 + 21 * w2)), (0, .ref 14), (1, .ref (18 + 21 * w2)), (2, .int p3)], [.int 2])) rfl ?_
        obtain ⟨rfl, rfl, rfl⟩ := s_inj hb
        exact e_r rfl rfl K
    · replace hb := i_neg c9 hb
      refine e_k 1 (f' := (124, [(3, .ref (19 + 21 * w2)), (0, .ref 14), (1, .ref (18 + 21 * w2)), (2, .int p3)], [.int 1])) rfl ?_
      obtain ⟨rfl, rfl, rfl⟩ := s_inj hb
      exact e_r rfl rfl K
  replace hb := i_neg c7 hb
  by_cases c12 : p3 = 19 ∨ p3 = 20
  · rw [show am_sw p3 284 [(7, 142), (8, 284), (9, 284), (10, 184), (11, 284), (12, 284), (13, 112), (14, 284), (15, 284), (16, 284), (17, 284), (18, 284), (19, 200), (20, 200), (21, 218), (22, 218), (23, 284), (24, 284), (25, 158), (26, 158), (27, 236), (28, 253), (29, 269)] = 200 from by rcases c12 with c12 | c12 <;> rw [c12] <;> rfl]
    replace hb := i_pos c12 hb
    refine e_k 2 (f' := (202, [(3, .ref (19 + 21 * w2)), (0, .ref 14), (1, .ref (18 + 21 * w2)), (2, .int p3)], [.int 1, .ref (19 + 21 * w2)])) rfl ?_
    obtain ⟨v13, I13, J13, h13, hb⟩ := oc_call hb
    refine r_cv (z := m_Memory_fromTop) (As := [.int 1]) (rest := []) rfl rfl rfl rfl rfl (x_ltp hw_w2 (by decide)) (sS_p1 hw_w2) rfl (E_Memory_fromTop hw_w2 h13 ⟨_, rfl, ?_⟩)
    refine e_k 3 (f' := (if (lg_cmp v13 16) < 0 then 216 else 212, [(3, .ref (19 + 21 * w2)), (0, .ref 14), (1, .ref (18 + 21 * w2)), (2, .int p3)], [])) rfl ?_
    refine e_if (fun c14 => ?_) (fun c14 => ?_)
    · replace hb := i_pos c14 hb
      refine e_k 1 (f' := (217, [(3, .ref (19 + 21 * w2)), (0, .ref 14), (1, .ref (18 + 21 * w2)), (2, .int p3)], [.int 0])) rfl ?_
      obtain ⟨rfl, rfl, rfl⟩ := s_inj hb
      exact e_r rfl rfl K
    · replace hb := i_neg c14 hb
      refine e_k 2 (f' := (217, [(3, .ref (19 + 21 * w2)), (0, .ref 14), (1, .ref (18 + 21 * w2)), (2, .int p3)], [.int 5])) rfl ?_
      obtain ⟨rfl, rfl, rfl⟩ := s_inj hb
      exact e_r rfl rfl K
  replace hb := i_neg c12 hb
  by_cases c15 : p3 = 21 ∨ p3 = 22
  · rw [show am_sw p3 284 [(7, 142), (8, 284), (9, 284), (10, 184), (11, 284), (12, 284), (13, 112), (14, 284), (15, 284), (16, 284), (17, 284), (18, 284), (19, 200), (20, 200), (21, 218), (22, 218), (23, 284), (24, 284), (25, 158), (26, 158), (27, 236), (28, 253), (29, 269)] = 218 from by rcases c15 with c15 | c15 <;> rw [c15] <;> rfl]
    replace hb := i_pos c15 hb
    refine e_k 2 (f' := (220, [(3, .ref (19 + 21 * w2)), (0, .ref 14), (1, .ref (18 + 21 * w2)), (2, .int p3)], [.int 2, .ref (19 + 21 * w2)])) rfl ?_
    obtain ⟨v16, I16, J16, h16, hb⟩ := oc_call hb
    refine r_cv (z := m_Memory_fromTop) (As := [.int 2]) (rest := []) rfl rfl rfl rfl rfl (x_ltp hw_w2 (by decide)) (sS_p1 hw_w2) rfl (E_Memory_fromTop hw_w2 h16 ⟨_, rfl, ?_⟩)
    refine e_k 3 (f' := (if (lg_cmp v16 16) < 0 then 234 else 230, [(3, .ref (19 + 21 * w2)), (0, .ref 14), (1, .ref (18 + 21 * w2)), (2, .int p3)], [])) rfl ?_
    refine e_if (fun c17 => ?_) (fun c17 => ?_)
    · replace hb := i_pos c17 hb
      refine e_k 1 (f' := (235, [(3, .ref (19 + 21 * w2)), (0, .ref 14), (1, .ref (18 + 21 * w2)), (2, .int p3)], [.int 0])) rfl ?_
      obtain ⟨rfl, rfl, rfl⟩ := s_inj hb
      exact e_r rfl rfl K
    · replace hb := i_neg c17 hb
      refine e_k 2 (f' := (235, [(3, .ref (19 + 21 * w2)), (0, .ref 14), (1, .ref (18 + 21 * w2)), (2, .int p3)], [.int 5])) rfl ?_
      obtain ⟨rfl, rfl, rfl⟩ := s_inj hb
      exact e_r rfl rfl K
  replace hb := i_neg c15 hb
  by_cases c18 : p3 = 25 ∨ p3 = 26
  · rw [show am_sw p3 284 [(7, 142), (8, 284), (9, 284), (10, 184), (11, 284), (12, 284), (13, 112), (14, 284), (15, 284), (16, 284), (17, 284), (18, 284), (19, 200), (20, 200), (21, 218), (22, 218), (23, 284), (24, 284), (25, 158), (26, 158), (27, 236), (28, 253), (29, 269)] = 158 from by rcases c18 with c18 | c18 <;> rw [c18] <;> rfl]
    replace hb := i_pos c18 hb
    refine e_k 3 (f' := (161, [(3, .ref (19 + 21 * w2)), (0, .ref 14), (1, .ref (18 + 21 * w2)), (2, .int p3)], [.int p3, .ref (18 + 21 * w2), .ref 14])) rfl ?_
    obtain ⟨v19, I19, J19, h19, hb⟩ := oc_call hb
    refine r_cv (z := m_Hall_isShared) (As := [.ref (18 + 21 * w2), .int p3]) (rest := []) rfl rfl rfl rfl rfl (x_ltn rfl) rfl rfl (E_Hall_isShared hw_w2 h19 ⟨_, rfl, ?_⟩)
    refine e_k 1 (f' := (if v19 = 0 then 182 else 167, [(3, .ref (19 + 21 * w2)), (0, .ref 14), (1, .ref (18 + 21 * w2)), (2, .int p3)], [])) rfl ?_
    refine e_if (fun c20 => ?_) (fun c20 => ?_)
    · replace hb := i_pos c20 hb
      refine e_k 1 (f' := (183, [(3, .ref (19 + 21 * w2)), (0, .ref 14), (1, .ref (18 + 21 * w2)), (2, .int p3)], [.int 0])) rfl ?_
      obtain ⟨rfl, rfl, rfl⟩ := s_inj hb
      exact e_r rfl rfl K
    · replace hb := i_neg c20 hb
      refine e_k 3 (f' := (170, [(3, .ref (19 + 21 * w2)), (0, .ref 14), (1, .ref (18 + 21 * w2)), (2, .int p3)], [.int 0, .ref (18 + 21 * w2), .ref 14])) rfl ?_
      obtain ⟨v21, I21, J21, h21, hb⟩ := oc_call hb
      refine r_cv (z := m_Hall_left) (As := [.ref (18 + 21 * w2), .int 0]) (rest := []) rfl rfl rfl rfl rfl (x_ltn rfl) rfl rfl (E_Hall_left hw_w2 h21 ⟨_, rfl, ?_⟩)
      refine e_k 2 (f' := (if 16 ≤ v21 then 182 else 178, [(3, .ref (19 + 21 * w2)), (0, .ref 14), (1, .ref (18 + 21 * w2)), (2, .int p3)], [])) rfl ?_
      refine e_if (fun c22 => ?_) (fun c22 => ?_)
      · replace hb := i_pos c22 hb
        refine e_k 1 (f' := (183, [(3, .ref (19 + 21 * w2)), (0, .ref 14), (1, .ref (18 + 21 * w2)), (2, .int p3)], [.int 0])) rfl ?_
        obtain ⟨rfl, rfl, rfl⟩ := s_inj hb
        exact e_r rfl rfl K
      · replace hb := i_neg c22 hb
        refine e_k 2 (f' := (183, [(3, .ref (19 + 21 * w2)), (0, .ref 14), (1, .ref (18 + 21 * w2)), (2, .int p3)], [.int 3])) rfl ?_
        obtain ⟨rfl, rfl, rfl⟩ := s_inj hb
        exact e_r rfl rfl K
  replace hb := i_neg c18 hb
  by_cases c23 : p3 = 27
  · rw [show am_sw p3 284 [(7, 142), (8, 284), (9, 284), (10, 184), (11, 284), (12, 284), (13, 112), (14, 284), (15, 284), (16, 284), (17, 284), (18, 284), (19, 200), (20, 200), (21, 218), (22, 218), (23, 284), (24, 284), (25, 158), (26, 158), (27, 236), (28, 253), (29, 269)] = 236 from by rw [c23]; rfl]
    replace hb := i_pos c23 hb
    refine e_k 3 (f' := (239, [(3, .ref (19 + 21 * w2)), (0, .ref 14), (1, .ref (18 + 21 * w2)), (2, .int p3)], [.int 2, .ref (18 + 21 * w2), .ref 14])) rfl ?_
    obtain ⟨v24, I24, J24, h24, hb⟩ := oc_call hb
    refine r_cv (z := m_Hall_left) (As := [.ref (18 + 21 * w2), .int 2]) (rest := []) rfl rfl rfl rfl rfl (x_ltn rfl) rfl rfl (E_Hall_left hw_w2 h24 ⟨_, rfl, ?_⟩)
    refine e_k 2 (f' := (if 1 ≤ v24 then 251 else 246, [(3, .ref (19 + 21 * w2)), (0, .ref 14), (1, .ref (18 + 21 * w2)), (2, .int p3)], [])) rfl ?_
    refine e_if (fun c25 => ?_) (fun c25 => ?_)
    · replace hb := i_pos c25 hb
      refine e_k 1 (f' := (252, [(3, .ref (19 + 21 * w2)), (0, .ref 14), (1, .ref (18 + 21 * w2)), (2, .int p3)], [.int 0])) rfl ?_
      obtain ⟨rfl, rfl, rfl⟩ := s_inj hb
      exact e_r rfl rfl K
    · replace hb := i_neg c25 hb
      refine e_k 2 (f' := (252, [(3, .ref (19 + 21 * w2)), (0, .ref 14), (1, .ref (18 + 21 * w2)), (2, .int p3)], [.int 6])) rfl ?_
      obtain ⟨rfl, rfl, rfl⟩ := s_inj hb
      exact e_r rfl rfl K
  replace hb := i_neg c23 hb
  by_cases c26 : p3 = 28
  · rw [show am_sw p3 284 [(7, 142), (8, 284), (9, 284), (10, 184), (11, 284), (12, 284), (13, 112), (14, 284), (15, 284), (16, 284), (17, 284), (18, 284), (19, 200), (20, 200), (21, 218), (22, 218), (23, 284), (24, 284), (25, 158), (26, 158), (27, 236), (28, 253), (29, 269)] = 253 from by rw [c26]; rfl]
    replace hb := i_pos c26 hb
    refine e_k 1 (f' := (254, [(3, .ref (19 + 21 * w2)), (0, .ref 14), (1, .ref (18 + 21 * w2)), (2, .int p3)], [.ref (19 + 21 * w2)])) rfl ?_
    refine r_geti rfl (x_ltp hw_w2 (by decide)) (sS_p1 hw_w2) rfl ?_
    refine e_k 2 (f' := (if (I (19 + 21 * w2) 6) < 16 then 267 else 262, [(3, .ref (19 + 21 * w2)), (0, .ref 14), (1, .ref (18 + 21 * w2)), (2, .int p3)], [])) rfl ?_
    refine e_if (fun c27 => ?_) (fun c27 => ?_)
    · replace hb := i_pos c27 hb
      refine e_k 1 (f' := (268, [(3, .ref (19 + 21 * w2)), (0, .ref 14), (1, .ref (18 + 21 * w2)), (2, .int p3)], [.int 0])) rfl ?_
      obtain ⟨rfl, rfl, rfl⟩ := s_inj hb
      exact e_r rfl rfl K
    · replace hb := i_neg c27 hb
      refine e_k 2 (f' := (268, [(3, .ref (19 + 21 * w2)), (0, .ref 14), (1, .ref (18 + 21 * w2)), (2, .int p3)], [.int 7])) rfl ?_
      obtain ⟨rfl, rfl, rfl⟩ := s_inj hb
      exact e_r rfl rfl K
  replace hb := i_neg c26 hb
  by_cases c28 : p3 = 29
  · rw [show am_sw p3 284 [(7, 142), (8, 284), (9, 284), (10, 184), (11, 284), (12, 284), (13, 112), (14, 284), (15, 284), (16, 284), (17, 284), (18, 284), (19, 200), (20, 200), (21, 218), (22, 218), (23, 284), (24, 284), (25, 158), (26, 158), (27, 236), (28, 253), (29, 269)] = 269 from by rw [c28]; rfl]
    replace hb := i_pos c28 hb
    refine e_k 1 (f' := (270, [(3, .ref (19 + 21 * w2)), (0, .ref 14), (1, .ref (18 + 21 * w2)), (2, .int p3)], [.ref (19 + 21 * w2)])) rfl ?_
    refine r_geti rfl (x_ltp hw_w2 (by decide)) (sS_p1 hw_w2) rfl ?_
    refine e_k 2 (f' := (if 1 ≤ (I (19 + 21 * w2) 6) then 282 else 277, [(3, .ref (19 + 21 * w2)), (0, .ref 14), (1, .ref (18 + 21 * w2)), (2, .int p3)], [])) rfl ?_
    refine e_if (fun c29 => ?_) (fun c29 => ?_)
    · replace hb := i_pos c29 hb
      refine e_k 1 (f' := (283, [(3, .ref (19 + 21 * w2)), (0, .ref 14), (1, .ref (18 + 21 * w2)), (2, .int p3)], [.int 0])) rfl ?_
      obtain ⟨rfl, rfl, rfl⟩ := s_inj hb
      exact e_r rfl rfl K
    · replace hb := i_neg c29 hb
      refine e_k 2 (f' := (283, [(3, .ref (19 + 21 * w2)), (0, .ref 14), (1, .ref (18 + 21 * w2)), (2, .int p3)], [.int 7])) rfl ?_
      obtain ⟨rfl, rfl, rfl⟩ := s_inj hb
      exact e_r rfl rfl K
  replace hb := i_neg c28 hb
  rw [show am_sw p3 284 [(7, 142), (8, 284), (9, 284), (10, 184), (11, 284), (12, 284), (13, 112), (14, 284), (15, 284), (16, 284), (17, 284), (18, 284), (19, 200), (20, 200), (21, 218), (22, 218), (23, 284), (24, 284), (25, 158), (26, 158), (27, 236), (28, 253), (29, 269)] = 284 from (am_swd c1 (am_swe (am_swe (am_swd c4 (am_swe (am_swe (am_swd c7 (am_swe (am_swe (am_swe (am_swe (am_swe (am_swd (fun e => c12 (Or.inl e)) (am_swd (fun e => c12 (Or.inr e)) (am_swd (fun e => c15 (Or.inl e)) (am_swd (fun e => c15 (Or.inr e)) (am_swe (am_swe (am_swd (fun e => c18 (Or.inl e)) (am_swd (fun e => c18 (Or.inr e)) (am_swd c23 (am_swd c26 (am_swd c28 rfl)))))))))))))))))))))))]
  refine e_k 1 (f' := (285, [(3, .ref (19 + 21 * w2)), (0, .ref 14), (1, .ref (18 + 21 * w2)), (2, .int p3)], [.int 0])) rfl ?_
  obtain ⟨rfl, rfl, rfl⟩ := s_inj hb
  exact e_r rfl rfl K
theorem E_Hall_conclude {w2 : Nat} {p3 : Int32} {X : MX} {I : MI} {J : MJ} {v : Unit} {I' : MI} {J' : MJ} (hw_w2 : w2 < 4) (hb : f_Hall_conclude w2 p3 I J = some (v, I', J')) (K : P (.inl (none)) (hX X I' J')) : am_E (gG L xs) (d + 3) m_Hall_conclude (0, lv_args 0 [.ref 14, .ref (18 + 21 * w2), .int p3], []) (hX X I J) P := by
  unfold f_Hall_conclude at hb
  refine e_k 1 (f' := (1, [(0, .ref 14), (1, .ref (18 + 21 * w2)), (2, .int p3)], [.ref (18 + 21 * w2)])) rfl ?_
  refine r_getr rfl (x_ltp hw_w2 (by decide)) (sS_p0 hw_w2) rfl ?_
  refine e_k 2 (f' := (6, [(3, .ref (19 + 21 * w2)), (0, .ref 14), (1, .ref (18 + 21 * w2)), (2, .int p3)], [.ref 14])) rfl ?_
  refine r_getr rfl (x_ltn rfl) rfl rfl ?_
  refine e_k 1 (f' := (10, [(3, .ref (19 + 21 * w2)), (0, .ref 14), (1, .ref (18 + 21 * w2)), (2, .int p3)], [.ref (18 + 21 * w2), .ref 15])) rfl ?_
  refine r_geti rfl (x_ltp hw_w2 (by decide)) (sS_p0 hw_w2) rfl ?_
  refine e_k 2 (f' := (15, [(3, .ref (19 + 21 * w2)), (0, .ref 14), (1, .ref (18 + 21 * w2)), (2, .int p3)], [.int ((I (18 + 21 * w2) 8) + 1), .ref 15])) rfl ?_
  obtain ⟨v1, I1, J1, h1, hb⟩ := oc_call hb
  refine r_cv (z := m_Row_at) (As := [.int ((I (18 + 21 * w2) 8) + 1)]) (rest := []) rfl rfl rfl rfl rfl (x_ltn rfl) rfl rfl (E_Row_at row_15 h1 ⟨_, rfl, ?_⟩)
  refine e_k 2 (f' := (21, [(4, .int v1), (3, .ref (19 + 21 * w2)), (0, .ref 14), (1, .ref (18 + 21 * w2)), (2, .int p3)], [.ref 14])) rfl ?_
  refine r_getr rfl (x_ltn rfl) rfl rfl ?_
  refine e_k 1 (f' := (25, [(4, .int v1), (3, .ref (19 + 21 * w2)), (0, .ref 14), (1, .ref (18 + 21 * w2)), (2, .int p3)], [.ref (18 + 21 * w2), .ref 15])) rfl ?_
  refine r_geti rfl (x_ltp hw_w2 (by decide)) (sS_p0 hw_w2) rfl ?_
  refine e_k 2 (f' := (30, [(4, .int v1), (3, .ref (19 + 21 * w2)), (0, .ref 14), (1, .ref (18 + 21 * w2)), (2, .int p3)], [.int ((I1 (18 + 21 * w2) 8) + 2), .ref 15])) rfl ?_
  obtain ⟨v2, I2, J2, h2, hb⟩ := oc_call hb
  refine r_cv (z := m_Row_at) (As := [.int ((I1 (18 + 21 * w2) 8) + 2)]) (rest := []) rfl rfl rfl rfl rfl (x_ltn rfl) rfl rfl (E_Row_at row_15 h2 ⟨_, rfl, ?_⟩)
  refine e_k 3 (f' := (am_sw p3 215 [(7, 112), (8, 215), (9, 215), (10, 156), (11, 215), (12, 215), (13, 84), (14, 185)], [(5, .int v2), (4, .int v1), (3, .ref (19 + 21 * w2)), (0, .ref 14), (1, .ref (18 + 21 * w2)), (2, .int p3)], [])) rfl ?_
  by_cases c3 : p3 = 7
  · rw [show am_sw p3 215 [(7, 112), (8, 215), (9, 215), (10, 156), (11, 215), (12, 215), (13, 84), (14, 185)] = 112 from by rw [c3]; rfl]
    replace hb := i_pos c3 hb
    refine e_k 1 (f' := (113, [(5, .int v2), (4, .int v1), (3, .ref (19 + 21 * w2)), (0, .ref 14), (1, .ref (18 + 21 * w2)), (2, .int p3)], [.ref (19 + 21 * w2)])) rfl ?_
    obtain ⟨v4, I4, J4, h4, hb⟩ := oc_call hb
    refine r_cv (z := m_Memory_pop) (As := []) (rest := []) rfl rfl rfl rfl rfl (x_ltp hw_w2 (by decide)) (sS_p1 hw_w2) rfl (E_Memory_pop hw_w2 h4 ⟨_, rfl, ?_⟩)
    refine e_k 1 (f' := (117, [(5, .int v2), (4, .int v1), (3, .ref (19 + 21 * w2)), (0, .ref 14), (1, .ref (18 + 21 * w2)), (2, .int p3)], [.ref 14, .long v4])) rfl ?_
    refine r_getr rfl (x_ltn rfl) rfl rfl ?_
    refine e_k 1 (f' := (121, [(5, .int v2), (4, .int v1), (3, .ref (19 + 21 * w2)), (0, .ref 14), (1, .ref (18 + 21 * w2)), (2, .int p3)], [.int 1, .ref 111, .long v4])) rfl ?_
    obtain ⟨o5, hb⟩ := ob_in hb
    refine r_lald rfl rfl (x_ltn rfl) rfl o5 ?_
    obtain ⟨v6, I6, J6, h6, hb⟩ := oc_call hb
    refine r_cs (z := m_Sh_plus) (As := [.long v4, .long (J4 111 (Int32.toNatClampNeg 1))]) (rest := []) rfl rfl rfl rfl rfl rfl (E_Sh_plus  h6 ⟨_, rfl, ?_⟩)
    refine e_k 2 (f' := (128, [(6, .long v6), (5, .int v2), (4, .int v1), (3, .ref (19 + 21 * w2)), (0, .ref 14), (1, .ref (18 + 21 * w2)), (2, .int p3)], [.ref (19 + 21 * w2)])) rfl ?_
    obtain ⟨v7, I7, J7, h7, hb⟩ := oc_call hb
    refine r_cv (z := m_Memory_pop) (As := []) (rest := []) rfl rfl rfl rfl rfl (x_ltp hw_w2 (by decide)) (sS_p1 hw_w2) rfl (E_Memory_pop hw_w2 h7 ⟨_, rfl, ?_⟩)
    refine e_k 1 (f' := (132, [(6, .long v6), (5, .int v2), (4, .int v1), (3, .ref (19 + 21 * w2)), (0, .ref 14), (1, .ref (18 + 21 * w2)), (2, .int p3)], [.ref 14, .long v7])) rfl ?_
    refine r_getr rfl (x_ltn rfl) rfl rfl ?_
    refine e_k 1 (f' := (136, [(6, .long v6), (5, .int v2), (4, .int v1), (3, .ref (19 + 21 * w2)), (0, .ref 14), (1, .ref (18 + 21 * w2)), (2, .int p3)], [.int 0, .ref 111, .long v7])) rfl ?_
    obtain ⟨o8, hb⟩ := ob_in hb
    refine r_lald rfl rfl (x_ltn rfl) rfl o8 ?_
    obtain ⟨v9, I9, J9, h9, hb⟩ := oc_call hb
    refine r_cs (z := m_Sh_plus) (As := [.long v7, .long (J7 111 (Int32.toNatClampNeg 0))]) (rest := []) rfl rfl rfl rfl rfl rfl (E_Sh_plus  h9 ⟨_, rfl, ?_⟩)
    refine e_k 4 (f' := (147, [(8, .long v9), (6, .long v6), (5, .int v2), (4, .int v1), (3, .ref (19 + 21 * w2)), (0, .ref 14), (1, .ref (18 + 21 * w2)), (2, .int p3)], [.long v6, .long v9, .ref (19 + 21 * w2)])) rfl ?_
    obtain ⟨v10, I10, J10, h10, hb⟩ := oc_call hb
    refine r_cs (z := m_Sh_times) (As := [.long v9, .long v6]) (rest := [.ref (19 + 21 * w2)]) rfl rfl rfl rfl rfl rfl (E_Sh_times  h10 ⟨_, rfl, ?_⟩)
    obtain ⟨v11, I11, J11, h11, hb⟩ := oc_call hb
    refine r_cv (z := m_Memory_push) (As := [.long v10]) (rest := []) rfl rfl rfl rfl rfl (x_ltp hw_w2 (by decide)) (sS_p1 hw_w2) rfl (E_Memory_push hw_w2 h11 ⟨_, rfl, ?_⟩)
    refine e_k 1 (f' := (221, [(8, .long v9), (6, .long v6), (5, .int v2), (4, .int v1), (3, .ref (19 + 21 * w2)), (0, .ref 14), (1, .ref (18 + 21 * w2)), (2, .int p3)], [])) rfl ?_
    obtain ⟨rfl, rfl, rfl⟩ := s_inj hb
    exact e_r rfl rfl K
  replace hb := i_neg c3 hb
  by_cases c12 : p3 = 10
  · rw [show am_sw p3 215 [(7, 112), (8, 215), (9, 215), (10, 156), (11, 215), (12, 215), (13, 84), (14, 185)] = 156 from by rw [c12]; rfl]
    replace hb := i_pos c12 hb
    refine e_k 1 (f' := (157, [(5, .int v2), (4, .int v1), (3, .ref (19 + 21 * w2)), (0, .ref 14), (1, .ref (18 + 21 * w2)), (2, .int p3)], [.ref (19 + 21 * w2)])) rfl ?_
    obtain ⟨v13, I13, J13, h13, hb⟩ := oc_call hb
    refine r_cv (z := m_Memory_pop) (As := []) (rest := []) rfl rfl rfl rfl rfl (x_ltp hw_w2 (by decide)) (sS_p1 hw_w2) rfl (E_Memory_pop hw_w2 h13 ⟨_, rfl, ?_⟩)
    refine e_k 1 (f' := (161, [(5, .int v2), (4, .int v1), (3, .ref (19 + 21 * w2)), (0, .ref 14), (1, .ref (18 + 21 * w2)), (2, .int p3)], [.ref 14, .long v13])) rfl ?_
    refine r_getr rfl (x_ltn rfl) rfl rfl ?_
    refine e_k 1 (f' := (165, [(5, .int v2), (4, .int v1), (3, .ref (19 + 21 * w2)), (0, .ref 14), (1, .ref (18 + 21 * w2)), (2, .int p3)], [.int 0, .ref 111, .long v13])) rfl ?_
    obtain ⟨o14, hb⟩ := ob_in hb
    refine r_lald rfl rfl (x_ltn rfl) rfl o14 ?_
    obtain ⟨v15, I15, J15, h15, hb⟩ := oc_call hb
    refine r_cs (z := m_Sh_plus) (As := [.long v13, .long (J13 111 (Int32.toNatClampNeg 0))]) (rest := []) rfl rfl rfl rfl rfl rfl (E_Sh_plus  h15 ⟨_, rfl, ?_⟩)
    refine e_k 4 (f' := (176, [(10, .long v15), (5, .int v2), (4, .int v1), (3, .ref (19 + 21 * w2)), (0, .ref 14), (1, .ref (18 + 21 * w2)), (2, .int p3)], [.long v15, .long v15, .ref (19 + 21 * w2)])) rfl ?_
    obtain ⟨v16, I16, J16, h16, hb⟩ := oc_call hb
    refine r_cs (z := m_Sh_times) (As := [.long v15, .long v15]) (rest := [.ref (19 + 21 * w2)]) rfl rfl rfl rfl rfl rfl (E_Sh_times  h16 ⟨_, rfl, ?_⟩)
    obtain ⟨v17, I17, J17, h17, hb⟩ := oc_call hb
    refine r_cv (z := m_Memory_push) (As := [.long v16]) (rest := []) rfl rfl rfl rfl rfl (x_ltp hw_w2 (by decide)) (sS_p1 hw_w2) rfl (E_Memory_push hw_w2 h17 ⟨_, rfl, ?_⟩)
    refine e_k 1 (f' := (221, [(10, .long v15), (5, .int v2), (4, .int v1), (3, .ref (19 + 21 * w2)), (0, .ref 14), (1, .ref (18 + 21 * w2)), (2, .int p3)], [])) rfl ?_
    obtain ⟨rfl, rfl, rfl⟩ := s_inj hb
    exact e_r rfl rfl K
  replace hb := i_neg c12 hb
  by_cases c18 : p3 = 13
  · rw [show am_sw p3 215 [(7, 112), (8, 215), (9, 215), (10, 156), (11, 215), (12, 215), (13, 84), (14, 185)] = 84 from by rw [c18]; rfl]
    replace hb := i_pos c18 hb
    refine e_k 1 (f' := (85, [(5, .int v2), (4, .int v1), (3, .ref (19 + 21 * w2)), (0, .ref 14), (1, .ref (18 + 21 * w2)), (2, .int p3)], [.ref (19 + 21 * w2)])) rfl ?_
    refine r_getr rfl (x_ltp hw_w2 (by decide)) (sS_p1 hw_w2) rfl ?_
    refine e_k 4 (f' := (94, [(5, .int v2), (4, .int v1), (3, .ref (19 + 21 * w2)), (0, .ref 14), (1, .ref (18 + 21 * w2)), (2, .int p3)], [.int v2, .ref (18 + 21 * w2), .ref 14, .int v1, .ref (21 + 21 * w2)])) rfl ?_
    obtain ⟨v19, I19, J19, h19, hb⟩ := oc_call hb
    refine r_cv (z := m_Hall_nextInput) (As := [.ref (18 + 21 * w2), .int v2]) (rest := [.int v1, .ref (21 + 21 * w2)]) rfl rfl rfl rfl rfl (x_ltn rfl) rfl rfl (E_Hall_nextInput hw_w2 h19 ⟨_, rfl, ?_⟩)
    refine e_k 1 (f' := (98, [(5, .int v2), (4, .int v1), (3, .ref (19 + 21 * w2)), (0, .ref 14), (1, .ref (18 + 21 * w2)), (2, .int p3)], [.ref 14, .long v19, .int v1, .ref (21 + 21 * w2)])) rfl ?_
    refine r_getr rfl (x_ltn rfl) rfl rfl ?_
    refine e_k 1 (f' := (102, [(5, .int v2), (4, .int v1), (3, .ref (19 + 21 * w2)), (0, .ref 14), (1, .ref (18 + 21 * w2)), (2, .int p3)], [.int 0, .ref 111, .long v19, .int v1, .ref (21 + 21 * w2)])) rfl ?_
    obtain ⟨o20, hb⟩ := ob_in hb
    refine r_lald rfl rfl (x_ltn rfl) rfl o20 ?_
    obtain ⟨v21, I21, J21, h21, hb⟩ := oc_call hb
    refine r_cs (z := m_Sh_plus) (As := [.long v19, .long (J19 111 (Int32.toNatClampNeg 0))]) (rest := [.int v1, .ref (21 + 21 * w2)]) rfl rfl rfl rfl rfl rfl (E_Sh_plus  h21 ⟨_, rfl, ?_⟩)
    obtain ⟨v22, I22, J22, h22, hb⟩ := oc_call hb
    refine r_cs (z := m_Sh_write) (As := [.ref (21 + 21 * w2), .int v1, .long v21]) (rest := []) rfl rfl rfl rfl rfl rfl (E_Sh_write ⟨(x_ltp hw_w2 (by decide)), (x_t0 hw_w2 (by decide)), (sS_p3 hw_w2)⟩ h22 ⟨_, rfl, ?_⟩)
    refine e_k 1 (f' := (221, [(5, .int v2), (4, .int v1), (3, .ref (19 + 21 * w2)), (0, .ref 14), (1, .ref (18 + 21 * w2)), (2, .int p3)], [])) rfl ?_
    obtain ⟨rfl, rfl, rfl⟩ := s_inj hb
    exact e_r rfl rfl K
  replace hb := i_neg c18 hb
  by_cases c23 : p3 = 14
  · rw [show am_sw p3 215 [(7, 112), (8, 215), (9, 215), (10, 156), (11, 215), (12, 215), (13, 84), (14, 185)] = 185 from by rw [c23]; rfl]
    replace hb := i_pos c23 hb
    refine e_k 1 (f' := (186, [(5, .int v2), (4, .int v1), (3, .ref (19 + 21 * w2)), (0, .ref 14), (1, .ref (18 + 21 * w2)), (2, .int p3)], [.ref (19 + 21 * w2)])) rfl ?_
    refine r_getr rfl (x_ltp hw_w2 (by decide)) (sS_p1 hw_w2) rfl ?_
    refine e_k 2 (f' := (192, [(5, .int v2), (4, .int v1), (3, .ref (19 + 21 * w2)), (0, .ref 14), (1, .ref (18 + 21 * w2)), (2, .int p3)], [.ref (19 + 21 * w2), .int v1, .ref (20 + 21 * w2)])) rfl ?_
    refine r_getr rfl (x_ltp hw_w2 (by decide)) (sS_p1 hw_w2) rfl ?_
    refine e_k 1 (f' := (197, [(5, .int v2), (4, .int v1), (3, .ref (19 + 21 * w2)), (0, .ref 14), (1, .ref (18 + 21 * w2)), (2, .int p3)], [.int v2, .ref (21 + 21 * w2), .int v1, .ref (20 + 21 * w2)])) rfl ?_
    obtain ⟨v24, I24, J24, h24, hb⟩ := oc_call hb
    refine r_cs (z := m_Sh_read) (As := [.ref (21 + 21 * w2), .int v2]) (rest := [.int v1, .ref (20 + 21 * w2)]) rfl rfl rfl rfl rfl rfl (E_Sh_read ⟨(x_ltp hw_w2 (by decide)), (x_t0 hw_w2 (by decide)), (sS_p3 hw_w2)⟩ h24 ⟨_, rfl, ?_⟩)
    refine e_k 1 (f' := (201, [(5, .int v2), (4, .int v1), (3, .ref (19 + 21 * w2)), (0, .ref 14), (1, .ref (18 + 21 * w2)), (2, .int p3)], [.ref 14, .long v24, .int v1, .ref (20 + 21 * w2)])) rfl ?_
    refine r_getr rfl (x_ltn rfl) rfl rfl ?_
    refine e_k 1 (f' := (205, [(5, .int v2), (4, .int v1), (3, .ref (19 + 21 * w2)), (0, .ref 14), (1, .ref (18 + 21 * w2)), (2, .int p3)], [.int 0, .ref 111, .long v24, .int v1, .ref (20 + 21 * w2)])) rfl ?_
    obtain ⟨o25, hb⟩ := ob_in hb
    refine r_lald rfl rfl (x_ltn rfl) rfl o25 ?_
    obtain ⟨v26, I26, J26, h26, hb⟩ := oc_call hb
    refine r_cs (z := m_Sh_plus) (As := [.long v24, .long (J24 111 (Int32.toNatClampNeg 0))]) (rest := [.int v1, .ref (20 + 21 * w2)]) rfl rfl rfl rfl rfl rfl (E_Sh_plus  h26 ⟨_, rfl, ?_⟩)
    obtain ⟨v27, I27, J27, h27, hb⟩ := oc_call hb
    refine r_cs (z := m_Sh_write) (As := [.ref (20 + 21 * w2), .int v1, .long v26]) (rest := []) rfl rfl rfl rfl rfl rfl (E_Sh_write ⟨(x_ltp hw_w2 (by decide)), (x_t0 hw_w2 (by decide)), (sS_p2 hw_w2)⟩ h27 ⟨_, rfl, ?_⟩)
    refine e_k 1 (f' := (221, [(5, .int v2), (4, .int v1), (3, .ref (19 + 21 * w2)), (0, .ref 14), (1, .ref (18 + 21 * w2)), (2, .int p3)], [])) rfl ?_
    obtain ⟨rfl, rfl, rfl⟩ := s_inj hb
    exact e_r rfl rfl K
  replace hb := i_neg c23 hb
  rw [show am_sw p3 215 [(7, 112), (8, 215), (9, 215), (10, 156), (11, 215), (12, 215), (13, 84), (14, 185)] = 215 from (am_swd c3 (am_swe (am_swe (am_swd c12 (am_swe (am_swe (am_swd c18 (am_swd c23 rfl))))))))]
  refine e_k 3 (f' := (218, [(5, .int v2), (4, .int v1), (3, .ref (19 + 21 * w2)), (0, .ref 14), (1, .ref (18 + 21 * w2)), (2, .int p3)], [.int p3, .ref (18 + 21 * w2), .ref 14])) rfl ?_
  obtain ⟨v28, I28, J28, h28, hb⟩ := oc_call hb
  refine r_cv (z := m_Hall_joinArrays) (As := [.ref (18 + 21 * w2), .int p3]) (rest := []) rfl rfl rfl rfl rfl (x_ltn rfl) rfl rfl (E_Hall_joinArrays hw_w2 h28 ⟨_, rfl, ?_⟩)
  obtain ⟨rfl, rfl, rfl⟩ := s_inj hb
  exact e_r rfl rfl K
end AUTO
