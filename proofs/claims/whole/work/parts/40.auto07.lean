section AUTO
variable {L : Nat} {xs : Nat → Int32} {d : Nat} {P : am_R → am_H → Prop}
theorem E_Model_isFull_2 {X : MX} {p2 : Int32} : ∀ (fu : Nat) {l1 : Int32} {l2 : Int32} {I : MI} {J : MJ} {r : (Int32 ⊕ (Unit))} {I' : MI} {J' : MJ}, f_Model_isFull_2 p2 fu l1 l2 I J = some (r, I', J') → (∀ v, r = .inl v → P (.inl (some (.int v))) (hX X I' J')) → (∀ u, r = .inr u → am_E (gG L xs) d m_Model_isFull (40, [], []) (hX X I' J') P) → am_E (gG L xs) d m_Model_isFull (2, [(0, .ref 112), (1, .int l1), (2, .int l2)], []) (hX X I J) P := by
  intro fu
  induction fu with
  | zero =>
    intros
    rename_i hb _ _
    cases hb
  | succ fu ih =>
    intro l1 l2 I J r I' J' hb K1 K2
    unfold f_Model_isFull_2 at hb
    refine e_k 2 (f' := (4, [(0, .ref 112), (1, .int l1), (2, .int l2)], [.ref 112, .int l2])) rfl ?_
    refine r_geti rfl (x_ltn rfl) rfl rfl ?_
    refine e_k 1 (f' := (if (I 112 16) ≤ l2 then 40 else 10, [(0, .ref 112), (1, .int l1), (2, .int l2)], [])) rfl ?_
    refine e_if (fun c1 => ?_) (fun c1 => ?_)
    · replace hb := i_pos c1 hb
      refine e_sub (ls := []) rfl ⟨⟩ ?_
      obtain ⟨rfl, rfl, rfl⟩ := s_inj hb
      exact K2 _ rfl
    · replace hb := i_neg c1 hb
      refine e_k 3 (f' := (if l2 = l1 then 34 else 15, [(0, .ref 112), (1, .int l1), (2, .int l2)], [])) rfl ?_
      refine e_if (fun c2 => ?_) (fun c2 => ?_)
      · replace hb := i_pos c2 hb
        refine e_k 2 (f' := (2, [(2, .int (l2 + 1)), (0, .ref 112), (1, .int l1)], [])) rfl ?_
        refine e_sub (ls := [(0, .ref 112), (1, .int l1), (2, .int (l2 + 1))]) rfl ⟨rfl, rfl, rfl, trivial⟩ ?_
        exact ih  hb K1 K2
      · replace hb := i_neg c2 hb
        refine e_k 1 (f' := (16, [(0, .ref 112), (1, .int l1), (2, .int l2)], [.ref 112])) rfl ?_
        refine r_getr rfl (x_ltn rfl) rfl rfl ?_
        refine e_k 5 (f' := (24, [(0, .ref 112), (1, .int l1), (2, .int l2)], [.int ((4 * l1) + l2), .ref 148])) rfl ?_
        obtain ⟨o3, hb⟩ := ob_in hb
        refine r_iald rfl rfl (x_ltn rfl) rfl o3 ?_
        refine e_k 1 (f' := (26, [(0, .ref 112), (1, .int l1), (2, .int l2)], [.ref 112, .int (I 148 (Int32.toNatClampNeg ((4 * l1) + l2)))])) rfl ?_
        refine r_geti rfl (x_ltn rfl) rfl rfl ?_
        refine e_k 1 (f' := (if (I 148 (Int32.toNatClampNeg ((4 * l1) + l2))) < (I 112 17) then 34 else 32, [(0, .ref 112), (1, .int l1), (2, .int l2)], [])) rfl ?_
        refine e_if (fun c4 => ?_) (fun c4 => ?_)
        · replace hb := i_pos c4 hb
          refine e_k 2 (f' := (2, [(2, .int (l2 + 1)), (0, .ref 112), (1, .int l1)], [])) rfl ?_
          refine e_sub (ls := [(0, .ref 112), (1, .int l1), (2, .int (l2 + 1))]) rfl ⟨rfl, rfl, rfl, trivial⟩ ?_
          exact ih  hb K1 K2
        · replace hb := i_neg c4 hb
          refine e_k 1 (f' := (33, [(0, .ref 112), (1, .int l1), (2, .int l2)], [.int 1])) rfl ?_
          obtain ⟨rfl, rfl, rfl⟩ := s_inj hb
          exact e_r rfl rfl (K1 _ rfl)
theorem E_Model_isFull {p2 : Int32} {X : MX} {I : MI} {J : MJ} {v : Int32} {I' : MI} {J' : MJ} (hb : f_Model_isFull p2 I J = some (v, I', J')) (K : P (.inl (some (.int v))) (hX X I' J')) : am_E (gG L xs) d m_Model_isFull (0, lv_args 0 [.ref 112, .int p2], []) (hX X I J) P := by
  unfold f_Model_isFull at hb
  refine e_k 2 (f' := (2, [(2, .int 0), (0, .ref 112), (1, .int p2)], [])) rfl ?_
  refine e_sub (ls := [(0, .ref 112), (1, .int p2), (2, .int 0)]) rfl ⟨rfl, rfl, rfl, trivial⟩ ?_
  obtain ⟨q5, I5, J5, h5, hb⟩ := oc_call hb
  refine E_Model_isFull_2  gF  h5 (fun y5 ey5 => ?_) (fun u5 ey5 => ?_)
  · subst ey5
    replace hb := oe_l hb
    obtain ⟨rfl, rfl, rfl⟩ := s_inj hb
    exact K
  · subst ey5
    replace hb := oe_r hb
    refine e_k 1 (f' := (41, [], [.int 0])) rfl ?_
    obtain ⟨rfl, rfl, rfl⟩ := s_inj hb
    exact e_r rfl rfl K
theorem E_Model_mails_12 {X : MX} {p2 : Int32} : ∀ (fu : Nat) {l1 : Int32} {l2 : Int32} {I : MI} {J : MJ} {r : (Unit)} {I' : MI} {J' : MJ}, f_Model_mails_12 p2 fu l1 l2 I J = some (r, I', J') → am_E (gG L xs) d m_Model_mails (49, [(0, .ref 112), (1, .int l1)], []) (hX X I' J') P → am_E (gG L xs) d m_Model_mails (12, [(0, .ref 112), (1, .int l1), (2, .int l2)], []) (hX X I J) P := by
  intro fu
  induction fu with
  | zero =>
    intros
    rename_i hb _
    cases hb
  | succ fu ih =>
    intro l1 l2 I J r I' J' hb K
    unfold f_Model_mails_12 at hb
    refine e_k 2 (f' := (14, [(0, .ref 112), (1, .int l1), (2, .int l2)], [.ref 112, .int l2])) rfl ?_
    refine r_geti rfl (x_ltn rfl) rfl rfl ?_
    refine e_k 1 (f' := (if (I 112 16) ≤ l2 then 49 else 20, [(0, .ref 112), (1, .int l1), (2, .int l2)], [])) rfl ?_
    refine e_if (fun c3 => ?_) (fun c3 => ?_)
    · replace hb := i_pos c3 hb
      refine e_sub (ls := [(0, .ref 112), (1, .int l1)]) rfl ⟨rfl, rfl, trivial⟩ ?_
      obtain ⟨rfl, rfl, rfl⟩ := s_inj hb
      exact K
    · replace hb := i_neg c3 hb
      refine e_k 1 (f' := (21, [(0, .ref 112), (1, .int l1), (2, .int l2)], [.ref 112])) rfl ?_
      refine r_getr rfl (x_ltn rfl) rfl rfl ?_
      refine e_k 6 (f' := (30, [(0, .ref 112), (1, .int l1), (2, .int l2)], [.int ((4 * l1) + l2), .ref 148, .int ((4 * l1) + l2), .ref 148])) rfl ?_
      obtain ⟨o4, hb⟩ := ob_in hb
      refine r_iald rfl rfl (x_ltn rfl) rfl o4 ?_
      refine e_k 3 (f' := (if l2 = l1 then 40 else 36, [(0, .ref 112), (1, .int l1), (2, .int l2)], [.int (I 148 (Int32.toNatClampNeg ((4 * l1) + l2))), .int ((4 * l1) + l2), .ref 148])) rfl ?_
      obtain ⟨v6, h6, hb⟩ := p_nn hb
      have Kj6 : am_E (gG L xs) d m_Model_mails (41, [(0, .ref 112), (1, .int l1), (2, .int l2)], [.int v6, .int (I 148 (Int32.toNatClampNeg ((4 * l1) + l2))), .int ((4 * l1) + l2), .ref 148]) (hX X I J) P := by
        refine e_k 1 (f' := (42, [(0, .ref 112), (1, .int l1), (2, .int l2)], [.int ((I 148 (Int32.toNatClampNeg ((4 * l1) + l2))) + v6), .int ((4 * l1) + l2), .ref 148])) rfl ?_
        obtain ⟨o8, hb⟩ := ob_in hb
        obtain ⟨I9, eI9, hb⟩ := p_nm hb
        refine r_iast' rfl (x_ltn rfl) rfl o8 eI9 ?_
        refine e_k 2 (f' := (12, [(2, .int (l2 + 1)), (0, .ref 112), (1, .int l1)], [])) rfl ?_
        refine e_sub (ls := [(0, .ref 112), (1, .int l1), (2, .int (l2 + 1))]) rfl ⟨rfl, rfl, rfl, trivial⟩ ?_
        exact ih  hb K
      clear hb
      refine e_if (fun c7 => ?_) (fun c7 => ?_)
      · replace h6 := i_pos c7 h6
        refine e_k 1 (f' := (41, [(0, .ref 112), (1, .int l1), (2, .int l2)], [.int 0, .int (I 148 (Int32.toNatClampNeg ((4 * l1) + l2))), .int ((4 * l1) + l2), .ref 148])) rfl ?_
        refine e_sub (ls := [(0, .ref 112), (1, .int l1), (2, .int l2)]) rfl ⟨rfl, rfl, rfl, trivial⟩ ?_
        subst h6
        exact Kj6
      · replace h6 := i_neg c7 h6
        refine e_k 2 (f' := (41, [(0, .ref 112), (1, .int l1), (2, .int l2)], [.int 1, .int (I 148 (Int32.toNatClampNeg ((4 * l1) + l2))), .int ((4 * l1) + l2), .ref 148])) rfl ?_
        refine e_sub (ls := [(0, .ref 112), (1, .int l1), (2, .int l2)]) rfl ⟨rfl, rfl, rfl, trivial⟩ ?_
        subst h6
        exact Kj6
theorem E_Model_mails {p2 : Int32} {X : MX} {I : MI} {J : MJ} {v : Int32} {I' : MI} {J' : MJ} (hb : f_Model_mails p2 I J = some (v, I', J')) (K : P (.inl (some (.int v))) (hX X I' J')) : am_E (gG L xs) (d + 1) m_Model_mails (0, lv_args 0 [.ref 112, .int p2], []) (hX X I J) P := by
  unfold f_Model_mails at hb
  refine e_k 2 (f' := (2, [(0, .ref 112), (1, .int p2)], [.int p2, .ref 112])) rfl ?_
  obtain ⟨v1, I1, J1, h1, hb⟩ := oc_call hb
  refine r_cv (z := m_Model_isFull) (As := [.int p2]) (rest := []) rfl rfl rfl rfl rfl (x_ltn rfl) rfl rfl (E_Model_isFull  h1 ⟨_, rfl, ?_⟩)
  refine e_k 1 (f' := (if v1 = 0 then 10 else 8, [(0, .ref 112), (1, .int p2)], [])) rfl ?_
  refine e_if (fun c2 => ?_) (fun c2 => ?_)
  · replace hb := i_pos c2 hb
    refine e_k 2 (f' := (12, [(2, .int 0), (0, .ref 112), (1, .int p2)], [])) rfl ?_
    refine e_sub (ls := [(0, .ref 112), (1, .int p2), (2, .int 0)]) rfl ⟨rfl, rfl, rfl, trivial⟩ ?_
    obtain ⟨u10, I10, J10, h10, hb⟩ := oc_call hb
    refine E_Model_mails_12  gF  h10 ?_
    refine e_k 1 (f' := (50, [(0, .ref 112), (1, .int p2)], [.ref 112])) rfl ?_
    refine r_getr rfl (x_ltn rfl) rfl rfl ?_
    refine e_k 2 (f' := (55, [(0, .ref 112), (1, .int p2)], [.int p2, .ref 130, .int p2, .ref 130])) rfl ?_
    obtain ⟨o11, hb⟩ := ob_in hb
    refine r_iald rfl rfl (x_ltn rfl) rfl o11 ?_
    refine e_k 2 (f' := (58, [(0, .ref 112), (1, .int p2)], [.int ((I10 130 (Int32.toNatClampNeg p2)) + 1), .int p2, .ref 130])) rfl ?_
    obtain ⟨o12, hb⟩ := ob_in hb
    obtain ⟨I13, eI13, hb⟩ := p_nm hb
    refine r_iast' rfl (x_ltn rfl) rfl o12 eI13 ?_
    refine e_k 1 (f' := (60, [(0, .ref 112), (1, .int p2)], [.int 1])) rfl ?_
    obtain ⟨rfl, rfl, rfl⟩ := s_inj hb
    exact e_r rfl rfl K
  · replace hb := i_neg c2 hb
    refine e_k 1 (f' := (9, [(0, .ref 112), (1, .int p2)], [.int 0])) rfl ?_
    obtain ⟨rfl, rfl, rfl⟩ := s_inj hb
    exact e_r rfl rfl K
theorem E_Model_send_38 {X : MX} {p2 : Int32} {p3 : Int32} {p4 : Int64} : ∀ (fu : Nat) {l1 : Int32} {l2 : Int32} {l3 : Int64} {l5 : Int32} {l6 : Int32} {I : MI} {J : MJ} {r : (Unit)} {I' : MI} {J' : MJ}, f_Model_send_38 p2 p3 p4 fu l1 l2 l3 l5 l6 I J = some (r, I', J') → am_E (gG L xs) d m_Model_send (63, [(0, .ref 112), (1, .int l1), (2, .int l2), (3, .long l3), (5, .int l5)], []) (hX X I' J') P → am_E (gG L xs) d m_Model_send (38, [(0, .ref 112), (1, .int l1), (2, .int l2), (3, .long l3), (5, .int l5), (6, .int l6)], []) (hX X I J) P := by
  intro fu
  induction fu with
  | zero =>
    intros
    rename_i hb _
    cases hb
  | succ fu ih =>
    intro l1 l2 l3 l5 l6 I J r I' J' hb K
    unfold f_Model_send_38 at hb
    refine e_k 3 (f' := (if 4 ≤ l6 then 63 else 44, [(0, .ref 112), (1, .int l1), (2, .int l2), (3, .long l3), (5, .int l5), (6, .int l6)], [])) rfl ?_
    refine e_if (fun c10 => ?_) (fun c10 => ?_)
    · replace hb := i_pos c10 hb
      refine e_sub (ls := [(0, .ref 112), (1, .int l1), (2, .int l2), (3, .long l3), (5, .int l5)]) rfl ⟨rfl, rfl, rfl, rfl, rfl, trivial⟩ ?_
      obtain ⟨rfl, rfl, rfl⟩ := s_inj hb
      exact K
    · replace hb := i_neg c10 hb
      refine e_k 1 (f' := (45, [(0, .ref 112), (1, .int l1), (2, .int l2), (3, .long l3), (5, .int l5), (6, .int l6)], [.ref 112])) rfl ?_
      refine r_getr rfl (x_ltn rfl) rfl rfl ?_
      refine e_k 6 (f' := (56, [(0, .ref 112), (1, .int l1), (2, .int l2), (3, .long l3), (5, .int l5), (6, .int l6)], [.int (-1), .int ((4 * l5) + l6), .ref 153])) rfl ?_
      obtain ⟨o11, hb⟩ := ob_in hb
      obtain ⟨I12, eI12, hb⟩ := p_nm hb
      refine r_iast' rfl (x_ltn rfl) rfl o11 eI12 ?_
      refine e_k 2 (f' := (38, [(6, .int (l6 + 1)), (0, .ref 112), (1, .int l1), (2, .int l2), (3, .long l3), (5, .int l5)], [])) rfl ?_
      refine e_sub (ls := [(0, .ref 112), (1, .int l1), (2, .int l2), (3, .long l3), (5, .int l5), (6, .int (l6 + 1))]) rfl ⟨rfl, rfl, rfl, rfl, rfl, rfl, trivial⟩ ?_
      exact ih  hb K
theorem E_Model_send {p2 : Int32} {p3 : Int32} {p4 : Int64} {X : MX} {I : MI} {J : MJ} {v : Int32} {I' : MI} {J' : MJ} (hb : f_Model_send p2 p3 p4 I J = some (v, I', J')) (K : P (.inl (some (.int v))) (hX X I' J')) : am_E (gG L xs) (d + 2) m_Model_send (0, lv_args 0 [.ref 112, .int p2, .int p3, .long p4], []) (hX X I J) P := by
  unfold f_Model_send at hb
  refine e_k 2 (f' := (2, [(0, .ref 112), (1, .int p2), (2, .int p3), (3, .long p4)], [.int p2, .ref 112])) rfl ?_
  obtain ⟨v1, I1, J1, h1, hb⟩ := oc_call hb
  refine r_cv (z := m_Model_mails) (As := [.int p2]) (rest := []) rfl rfl rfl rfl rfl (x_ltn rfl) rfl rfl (E_Model_mails  h1 ⟨_, rfl, ?_⟩)
  refine e_k 1 (f' := (if ¬ v1 = 0 then 10 else 8, [(0, .ref 112), (1, .int p2), (2, .int p3), (3, .long p4)], [])) rfl ?_
  refine e_if (fun c2 => ?_) (fun c2 => ?_)
  · replace hb := i_pos c2 hb
    refine e_k 1 (f' := (11, [(0, .ref 112), (1, .int p2), (2, .int p3), (3, .long p4)], [.ref 112])) rfl ?_
    refine r_getr rfl (x_ltn rfl) rfl rfl ?_
    refine e_k 1 (f' := (15, [(0, .ref 112), (1, .int p2), (2, .int p3), (3, .long p4)], [.int p2, .ref 135])) rfl ?_
    obtain ⟨o3, hb⟩ := ob_in hb
    refine r_iald rfl rfl (x_ltn rfl) rfl o3 ?_
    refine e_k 1 (f' := (18, [(5, .int (I1 135 (Int32.toNatClampNeg p2))), (0, .ref 112), (1, .int p2), (2, .int p3), (3, .long p4)], [])) rfl ?_
    obtain ⟨x4, ex4, hb⟩ := p_nm hb
    rw [← ex4]
    refine e_k 2 (f' := (21, [(5, .int x4), (0, .ref 112), (1, .int p2), (2, .int p3), (3, .long p4)], [.ref 112, .int x4])) rfl ?_
    refine r_geti rfl (x_ltn rfl) rfl rfl ?_
    refine e_k 1 (f' := (if ¬ x4 = (I1 112 60) then 73 else 27, [(5, .int x4), (0, .ref 112), (1, .int p2), (2, .int p3), (3, .long p4)], [])) rfl ?_
    obtain ⟨v6, I6, J6, h6, hb⟩ := oc_call hb
    have Kj6 : am_E (gG L xs) (d + 2) m_Model_send (73, [(0, .ref 112), (1, .int p2), (2, .int p3), (3, .long p4), (5, .int x4)], []) (hX X I6 J6) P := by
      refine e_k 3 (f' := (if ¬ p3 = 1 then 86 else 78, [(0, .ref 112), (1, .int p2), (2, .int p3), (3, .long p4), (5, .int x4)], [])) rfl ?_
      obtain ⟨v16, I16, J16, h16, hb⟩ := oc_call hb
      have Kj16 : am_E (gG L xs) (d + 2) m_Model_send (86, [(0, .ref 112), (1, .int p2), (5, .int x4)], []) (hX X I16 J16) P := by
        refine e_k 1 (f' := (87, [(0, .ref 112), (1, .int p2), (5, .int x4)], [.ref 112])) rfl ?_
        refine r_getr rfl (x_ltn rfl) rfl rfl ?_
        refine e_k 6 (f' := (97, [(0, .ref 112), (1, .int p2), (5, .int x4)], [.ref 112, .int ((4 * x4) + p2), .ref 153])) rfl ?_
        refine r_getr rfl (x_ltn rfl) rfl rfl ?_
        refine e_k 1 (f' := (101, [(0, .ref 112), (1, .int p2), (5, .int x4)], [.int p2, .ref 131, .int ((4 * x4) + p2), .ref 153])) rfl ?_
        obtain ⟨o20, hb⟩ := ob_in hb
        refine r_iald rfl rfl (x_ltn rfl) rfl o20 ?_
        obtain ⟨o21, hb⟩ := ob_in hb
        obtain ⟨I22, eI22, hb⟩ := p_nm hb
        refine r_iast' rfl (x_ltn rfl) rfl o21 eI22 ?_
        refine e_k 1 (f' := (104, [(0, .ref 112), (1, .int p2), (5, .int x4)], [.ref 112])) rfl ?_
        refine r_getr rfl (x_ltn rfl) rfl rfl ?_
        refine e_k 2 (f' := (109, [(0, .ref 112), (1, .int p2), (5, .int x4)], [.int p2, .ref 131, .int p2, .ref 131])) rfl ?_
        obtain ⟨o23, hb⟩ := ob_in hb
        refine r_iald rfl rfl (x_ltn rfl) rfl o23 ?_
        refine e_k 2 (f' := (112, [(0, .ref 112), (1, .int p2), (5, .int x4)], [.int ((I22 131 (Int32.toNatClampNeg p2)) + 1), .int p2, .ref 131])) rfl ?_
        obtain ⟨o24, hb⟩ := ob_in hb
        obtain ⟨I25, eI25, hb⟩ := p_nm hb
        refine r_iast' rfl (x_ltn rfl) rfl o24 eI25 ?_
        refine e_k 1 (f' := (114, [(0, .ref 112), (1, .int p2), (5, .int x4)], [.int 1])) rfl ?_
        obtain ⟨rfl, rfl, rfl⟩ := s_inj hb
        exact e_r rfl rfl K
      clear hb
      refine e_if (fun c17 => ?_) (fun c17 => ?_)
      · replace h16 := i_pos c17 h16
        refine e_sub (ls := [(0, .ref 112), (1, .int p2), (5, .int x4)]) rfl ⟨rfl, rfl, rfl, trivial⟩ ?_
        obtain ⟨rfl, rfl, rfl⟩ := s_inj h16
        exact Kj16
      · replace h16 := i_neg c17 h16
        refine e_k 1 (f' := (79, [(0, .ref 112), (1, .int p2), (2, .int p3), (3, .long p4), (5, .int x4)], [.ref 112])) rfl ?_
        refine r_getr rfl (x_ltn rfl) rfl rfl ?_
        refine e_k 2 (f' := (85, [(0, .ref 112), (1, .int p2), (2, .int p3), (3, .long p4), (5, .int x4)], [.long p4, .int x4, .ref 152])) rfl ?_
        obtain ⟨o18, h16⟩ := ob_in h16
        obtain ⟨J19, eJ19, h16⟩ := p_nm h16
        refine r_last' rfl (x_ltn rfl) rfl o18 eJ19 ?_
        refine e_sub (ls := [(0, .ref 112), (1, .int p2), (5, .int x4)]) rfl ⟨rfl, rfl, rfl, trivial⟩ ?_
        obtain ⟨rfl, rfl, rfl⟩ := s_inj h16
        exact Kj16
    clear hb
    refine e_if (fun c7 => ?_) (fun c7 => ?_)
    · replace h6 := i_pos c7 h6
      refine e_sub (ls := [(0, .ref 112), (1, .int p2), (2, .int p3), (3, .long p4), (5, .int x4)]) rfl ⟨rfl, rfl, rfl, rfl, rfl, trivial⟩ ?_
      obtain ⟨rfl, rfl, rfl⟩ := s_inj h6
      exact Kj6
    · replace h6 := i_neg c7 h6
      refine e_k 1 (f' := (28, [(5, .int x4), (0, .ref 112), (1, .int p2), (2, .int p3), (3, .long p4)], [.ref 112])) rfl ?_
      refine r_getr rfl (x_ltn rfl) rfl rfl ?_
      refine e_k 2 (f' := (34, [(5, .int x4), (0, .ref 112), (1, .int p2), (2, .int p3), (3, .long p4)], [.int p3, .int x4, .ref 151])) rfl ?_
      obtain ⟨o8, h6⟩ := ob_in h6
      obtain ⟨I9, eI9, h6⟩ := p_nm h6
      refine r_iast' rfl (x_ltn rfl) rfl o8 eI9 ?_
      refine e_k 2 (f' := (38, [(6, .int 0), (5, .int x4), (0, .ref 112), (1, .int p2), (2, .int p3), (3, .long p4)], [])) rfl ?_
      refine e_sub (ls := [(0, .ref 112), (1, .int p2), (2, .int p3), (3, .long p4), (5, .int x4), (6, .int 0)]) rfl ⟨rfl, rfl, rfl, rfl, rfl, rfl, trivial⟩ ?_
      obtain ⟨u13, I13, J13, h13, h6⟩ := oc_call h6
      refine E_Model_send_38  gF  h13 ?_
      refine e_k 2 (f' := (65, [(0, .ref 112), (1, .int p2), (2, .int p3), (3, .long p4), (5, .int x4)], [.ref 112, .ref 112])) rfl ?_
      refine r_geti rfl (x_ltn rfl) rfl rfl ?_
      refine e_k 2 (f' := (70, [(0, .ref 112), (1, .int p2), (2, .int p3), (3, .long p4), (5, .int x4)], [.int ((I13 112 60) + 1), .ref 112])) rfl ?_
      obtain ⟨I14, eI14, h6⟩ := p_nm h6
      refine r_puti' rfl (x_ltn rfl) rfl rfl eI14 ?_
      refine e_sub (ls := [(0, .ref 112), (1, .int p2), (2, .int p3), (3, .long p4), (5, .int x4)]) rfl ⟨rfl, rfl, rfl, rfl, rfl, trivial⟩ ?_
      obtain ⟨rfl, rfl, rfl⟩ := s_inj h6
      exact Kj6
  · replace hb := i_neg c2 hb
    refine e_k 1 (f' := (9, [(0, .ref 112), (1, .int p2), (2, .int p3), (3, .long p4)], [.int 0])) rfl ?_
    obtain ⟨rfl, rfl, rfl⟩ := s_inj hb
    exact e_r rfl rfl K
theorem E_Model_receive_2 {X : MX} {p2 : Int32} {p3 : Int32} : ∀ (fu : Nat) {l1 : Int32} {l2 : Int32} {l3 : Int32} {I : MI} {J : MJ} {r : (Int32 ⊕ (Unit))} {I' : MI} {J' : MJ}, f_Model_receive_2 p2 p3 fu l1 l2 l3 I J = some (r, I', J') → (∀ v, r = .inl v → P (.inl (some (.int v))) (hX X I' J')) → (∀ u, r = .inr u → am_E (gG L xs) d m_Model_receive (46, [(0, .ref 112), (1, .int l1), (2, .int l2)], []) (hX X I' J') P) → am_E (gG L xs) d m_Model_receive (2, [(0, .ref 112), (1, .int l1), (2, .int l2), (3, .int l3)], []) (hX X I J) P := by
  intro fu
  induction fu with
  | zero =>
    intros
    rename_i hb _ _
    cases hb
  | succ fu ih =>
    intro l1 l2 l3 I J r I' J' hb K1 K2
    unfold f_Model_receive_2 at hb
    refine e_k 2 (f' := (4, [(0, .ref 112), (1, .int l1), (2, .int l2), (3, .int l3)], [.ref 112, .int l3])) rfl ?_
    refine r_geti rfl (x_ltn rfl) rfl rfl ?_
    refine e_k 1 (f' := (if (I 112 16) ≤ l3 then 46 else 10, [(0, .ref 112), (1, .int l1), (2, .int l2), (3, .int l3)], [])) rfl ?_
    refine e_if (fun c1 => ?_) (fun c1 => ?_)
    · replace hb := i_pos c1 hb
      refine e_sub (ls := [(0, .ref 112), (1, .int l1), (2, .int l2)]) rfl ⟨rfl, rfl, rfl, trivial⟩ ?_
      obtain ⟨rfl, rfl, rfl⟩ := s_inj hb
      exact K2 _ rfl
    · replace hb := i_neg c1 hb
      refine e_k 3 (f' := (if l3 = l1 then 40 else 15, [(0, .ref 112), (1, .int l1), (2, .int l2), (3, .int l3)], [])) rfl ?_
      refine e_if (fun c2 => ?_) (fun c2 => ?_)
      · replace hb := i_pos c2 hb
        refine e_k 2 (f' := (2, [(3, .int (l3 + 1)), (0, .ref 112), (1, .int l1), (2, .int l2)], [])) rfl ?_
        refine e_sub (ls := [(0, .ref 112), (1, .int l1), (2, .int l2), (3, .int (l3 + 1))]) rfl ⟨rfl, rfl, rfl, rfl, trivial⟩ ?_
        exact ih  hb K1 K2
      · replace hb := i_neg c2 hb
        refine e_k 3 (f' := (if l2 = (-1) then 25 else 20, [(0, .ref 112), (1, .int l1), (2, .int l2), (3, .int l3)], [])) rfl ?_
        refine e_if (fun c3 => ?_) (fun c3 => ?_)
        · replace hb := i_pos c3 hb
          refine e_k 1 (f' := (26, [(0, .ref 112), (1, .int l1), (2, .int l2), (3, .int l3)], [.ref 112])) rfl ?_
          refine r_getr rfl (x_ltn rfl) rfl rfl ?_
          refine e_k 5 (f' := (34, [(0, .ref 112), (1, .int l1), (2, .int l2), (3, .int l3)], [.int ((4 * l3) + l1), .ref 150])) rfl ?_
          obtain ⟨o4, hb⟩ := ob_in hb
          refine r_iald rfl rfl (x_ltn rfl) rfl o4 ?_
          refine e_k 1 (f' := (if ¬ (I 150 (Int32.toNatClampNeg ((4 * l3) + l1))) = 0 then 40 else 38, [(0, .ref 112), (1, .int l1), (2, .int l2), (3, .int l3)], [])) rfl ?_
          refine e_if (fun c5 => ?_) (fun c5 => ?_)
          · replace hb := i_pos c5 hb
            refine e_k 2 (f' := (2, [(3, .int (l3 + 1)), (0, .ref 112), (1, .int l1), (2, .int l2)], [])) rfl ?_
            refine e_sub (ls := [(0, .ref 112), (1, .int l1), (2, .int l2), (3, .int (l3 + 1))]) rfl ⟨rfl, rfl, rfl, rfl, trivial⟩ ?_
            exact ih  hb K1 K2
          · replace hb := i_neg c5 hb
            refine e_k 1 (f' := (39, [(0, .ref 112), (1, .int l1), (2, .int l2), (3, .int l3)], [.int 0])) rfl ?_
            obtain ⟨rfl, rfl, rfl⟩ := s_inj hb
            exact e_r rfl rfl (K1 _ rfl)
        · replace hb := i_neg c3 hb
          refine e_k 3 (f' := (if ¬ l2 = l3 then 40 else 25, [(0, .ref 112), (1, .int l1), (2, .int l2), (3, .int l3)], [])) rfl ?_
          refine e_if (fun c6 => ?_) (fun c6 => ?_)
          · replace hb := i_pos c6 hb
            refine e_k 2 (f' := (2, [(3, .int (l3 + 1)), (0, .ref 112), (1, .int l1), (2, .int l2)], [])) rfl ?_
            refine e_sub (ls := [(0, .ref 112), (1, .int l1), (2, .int l2), (3, .int (l3 + 1))]) rfl ⟨rfl, rfl, rfl, rfl, trivial⟩ ?_
            exact ih  hb K1 K2
          · replace hb := i_neg c6 hb
            refine e_k 1 (f' := (26, [(0, .ref 112), (1, .int l1), (2, .int l2), (3, .int l3)], [.ref 112])) rfl ?_
            refine r_getr rfl (x_ltn rfl) rfl rfl ?_
            refine e_k 5 (f' := (34, [(0, .ref 112), (1, .int l1), (2, .int l2), (3, .int l3)], [.int ((4 * l3) + l1), .ref 150])) rfl ?_
            obtain ⟨o7, hb⟩ := ob_in hb
            refine r_iald rfl rfl (x_ltn rfl) rfl o7 ?_
            refine e_k 1 (f' := (if ¬ (I 150 (Int32.toNatClampNeg ((4 * l3) + l1))) = 0 then 40 else 38, [(0, .ref 112), (1, .int l1), (2, .int l2), (3, .int l3)], [])) rfl ?_
            refine e_if (fun c8 => ?_) (fun c8 => ?_)
            · replace hb := i_pos c8 hb
              refine e_k 2 (f' := (2, [(3, .int (l3 + 1)), (0, .ref 112), (1, .int l1), (2, .int l2)], [])) rfl ?_
              refine e_sub (ls := [(0, .ref 112), (1, .int l1), (2, .int l2), (3, .int (l3 + 1))]) rfl ⟨rfl, rfl, rfl, rfl, trivial⟩ ?_
              exact ih  hb K1 K2
            · replace hb := i_neg c8 hb
              refine e_k 1 (f' := (39, [(0, .ref 112), (1, .int l1), (2, .int l2), (3, .int l3)], [.int 0])) rfl ?_
              obtain ⟨rfl, rfl, rfl⟩ := s_inj hb
              exact e_r rfl rfl (K1 _ rfl)
theorem E_Model_receive_48 {X : MX} {p2 : Int32} {p3 : Int32} : ∀ (fu : Nat) {l1 : Int32} {l2 : Int32} {l3 : Int32} {I : MI} {J : MJ} {r : (Unit)} {I' : MI} {J' : MJ}, f_Model_receive_48 p2 p3 fu l1 l2 l3 I J = some (r, I', J') → am_E (gG L xs) d m_Model_receive (95, [(0, .ref 112), (1, .int l1)], []) (hX X I' J') P → am_E (gG L xs) d m_Model_receive (48, [(0, .ref 112), (1, .int l1), (2, .int l2), (3, .int l3)], []) (hX X I J) P := by
  intro fu
  induction fu with
  | zero =>
    intros
    rename_i hb _
    cases hb
  | succ fu ih =>
    intro l1 l2 l3 I J r I' J' hb K
    unfold f_Model_receive_48 at hb
    refine e_k 2 (f' := (50, [(0, .ref 112), (1, .int l1), (2, .int l2), (3, .int l3)], [.ref 112, .int l3])) rfl ?_
    refine r_geti rfl (x_ltn rfl) rfl rfl ?_
    refine e_k 1 (f' := (if (I 112 16) ≤ l3 then 95 else 56, [(0, .ref 112), (1, .int l1), (2, .int l2), (3, .int l3)], [])) rfl ?_
    refine e_if (fun c10 => ?_) (fun c10 => ?_)
    · replace hb := i_pos c10 hb
      refine e_sub (ls := [(0, .ref 112), (1, .int l1)]) rfl ⟨rfl, rfl, trivial⟩ ?_
      obtain ⟨rfl, rfl, rfl⟩ := s_inj hb
      exact K
    · replace hb := i_neg c10 hb
      refine e_k 1 (f' := (57, [(0, .ref 112), (1, .int l1), (2, .int l2), (3, .int l3)], [.ref 112])) rfl ?_
      refine r_getr rfl (x_ltn rfl) rfl rfl ?_
      refine e_k 6 (f' := (66, [(0, .ref 112), (1, .int l1), (2, .int l2), (3, .int l3)], [.int ((4 * l3) + l1), .ref 150, .int ((4 * l3) + l1), .ref 150])) rfl ?_
      obtain ⟨o11, hb⟩ := ob_in hb
      refine r_iald rfl rfl (x_ltn rfl) rfl o11 ?_
      refine e_k 3 (f' := (if l3 = l1 then 86 else 72, [(0, .ref 112), (1, .int l1), (2, .int l2), (3, .int l3)], [.int (I 150 (Int32.toNatClampNeg ((4 * l3) + l1))), .int ((4 * l3) + l1), .ref 150])) rfl ?_
      obtain ⟨v13, h13, hb⟩ := p_nn hb
      have Kj13 : am_E (gG L xs) d m_Model_receive (87, [(0, .ref 112), (1, .int l1), (2, .int l2), (3, .int l3)], [.int v13, .int (I 150 (Int32.toNatClampNeg ((4 * l3) + l1))), .int ((4 * l3) + l1), .ref 150]) (hX X I J) P := by
        refine e_k 1 (f' := (88, [(0, .ref 112), (1, .int l1), (2, .int l2), (3, .int l3)], [.int ((I 150 (Int32.toNatClampNeg ((4 * l3) + l1))) - v13), .int ((4 * l3) + l1), .ref 150])) rfl ?_
        obtain ⟨o17, hb⟩ := ob_in hb
        obtain ⟨I18, eI18, hb⟩ := p_nm hb
        refine r_iast' rfl (x_ltn rfl) rfl o17 eI18 ?_
        refine e_k 2 (f' := (48, [(3, .int (l3 + 1)), (0, .ref 112), (1, .int l1), (2, .int l2)], [])) rfl ?_
        refine e_sub (ls := [(0, .ref 112), (1, .int l1), (2, .int l2), (3, .int (l3 + 1))]) rfl ⟨rfl, rfl, rfl, rfl, trivial⟩ ?_
        exact ih  hb K
      clear hb
      refine e_if (fun c14 => ?_) (fun c14 => ?_)
      · replace h13 := i_pos c14 h13
        refine e_k 1 (f' := (87, [(0, .ref 112), (1, .int l1), (2, .int l2), (3, .int l3)], [.int 0, .int (I 150 (Int32.toNatClampNeg ((4 * l3) + l1))), .int ((4 * l3) + l1), .ref 150])) rfl ?_
        refine e_sub (ls := [(0, .ref 112), (1, .int l1), (2, .int l2), (3, .int l3)]) rfl ⟨rfl, rfl, rfl, rfl, trivial⟩ ?_
        subst h13
        exact Kj13
      · replace h13 := i_neg c14 h13
        refine e_k 3 (f' := (if l2 = (-1) then 82 else 77, [(0, .ref 112), (1, .int l1), (2, .int l2), (3, .int l3)], [.int (I 150 (Int32.toNatClampNeg ((4 * l3) + l1))), .int ((4 * l3) + l1), .ref 150])) rfl ?_
        refine e_if (fun c15 => ?_) (fun c15 => ?_)
        · replace h13 := i_pos c15 h13
          refine e_k 2 (f' := (87, [(0, .ref 112), (1, .int l1), (2, .int l2), (3, .int l3)], [.int 1, .int (I 150 (Int32.toNatClampNeg ((4 * l3) + l1))), .int ((4 * l3) + l1), .ref 150])) rfl ?_
          refine e_sub (ls := [(0, .ref 112), (1, .int l1), (2, .int l2), (3, .int l3)]) rfl ⟨rfl, rfl, rfl, rfl, trivial⟩ ?_
          subst h13
          exact Kj13
        · replace h13 := i_neg c15 h13
          refine e_k 3 (f' := (if ¬ l2 = l3 then 86 else 82, [(0, .ref 112), (1, .int l1), (2, .int l2), (3, .int l3)], [.int (I 150 (Int32.toNatClampNeg ((4 * l3) + l1))), .int ((4 * l3) + l1), .ref 150])) rfl ?_
          refine e_if (fun c16 => ?_) (fun c16 => ?_)
          · replace h13 := i_pos c16 h13
            refine e_k 1 (f' := (87, [(0, .ref 112), (1, .int l1), (2, .int l2), (3, .int l3)], [.int 0, .int (I 150 (Int32.toNatClampNeg ((4 * l3) + l1))), .int ((4 * l3) + l1), .ref 150])) rfl ?_
            refine e_sub (ls := [(0, .ref 112), (1, .int l1), (2, .int l2), (3, .int l3)]) rfl ⟨rfl, rfl, rfl, rfl, trivial⟩ ?_
            subst h13
            exact Kj13
          · replace h13 := i_neg c16 h13
            refine e_k 2 (f' := (87, [(0, .ref 112), (1, .int l1), (2, .int l2), (3, .int l3)], [.int 1, .int (I 150 (Int32.toNatClampNeg ((4 * l3) + l1))), .int ((4 * l3) + l1), .ref 150])) rfl ?_
            refine e_sub (ls := [(0, .ref 112), (1, .int l1), (2, .int l2), (3, .int l3)]) rfl ⟨rfl, rfl, rfl, rfl, trivial⟩ ?_
            subst h13
            exact Kj13
theorem E_Model_receive {p2 : Int32} {p3 : Int32} {X : MX} {I : MI} {J : MJ} {v : Int32} {I' : MI} {J' : MJ} (hb : f_Model_receive p2 p3 I J = some (v, I', J')) (K : P (.inl (some (.int v))) (hX X I' J')) : am_E (gG L xs) d m_Model_receive (0, lv_args 0 [.ref 112, .int p2, .int p3], []) (hX X I J) P := by
  unfold f_Model_receive at hb
  refine e_k 2 (f' := (2, [(3, .int 0), (0, .ref 112), (1, .int p2), (2, .int p3)], [])) rfl ?_
  refine e_sub (ls := [(0, .ref 112), (1, .int p2), (2, .int p3), (3, .int 0)]) rfl ⟨rfl, rfl, rfl, rfl, trivial⟩ ?_
  obtain ⟨q9, I9, J9, h9, hb⟩ := oc_call hb
  refine E_Model_receive_2  gF  h9 (fun y9 ey9 => ?_) (fun u9 ey9 => ?_)
  · subst ey9
    replace hb := oe_l hb
    obtain ⟨rfl, rfl, rfl⟩ := s_inj hb
    exact K
  · subst ey9
    replace hb := oe_r hb
    refine e_k 2 (f' := (48, [(3, .int 0), (0, .ref 112), (1, .int p2), (2, .int p3)], [])) rfl ?_
    refine e_sub (ls := [(0, .ref 112), (1, .int p2), (2, .int p3), (3, .int 0)]) rfl ⟨rfl, rfl, rfl, rfl, trivial⟩ ?_
    obtain ⟨u19, I19, J19, h19, hb⟩ := oc_call hb
    refine E_Model_receive_48  gF  h19 ?_
    refine e_k 1 (f' := (96, [(0, .ref 112), (1, .int p2)], [.ref 112])) rfl ?_
    refine r_getr rfl (x_ltn rfl) rfl rfl ?_
    refine e_k 2 (f' := (101, [(0, .ref 112), (1, .int p2)], [.int p2, .ref 132, .int p2, .ref 132])) rfl ?_
    obtain ⟨o20, hb⟩ := ob_in hb
    refine r_iald rfl rfl (x_ltn rfl) rfl o20 ?_
    refine e_k 2 (f' := (104, [(0, .ref 112), (1, .int p2)], [.int ((I19 132 (Int32.toNatClampNeg p2)) + 1), .int p2, .ref 132])) rfl ?_
    obtain ⟨o21, hb⟩ := ob_in hb
    obtain ⟨I22, eI22, hb⟩ := p_nm hb
    refine r_iast' rfl (x_ltn rfl) rfl o21 eI22 ?_
    refine e_k 1 (f' := (106, [(0, .ref 112), (1, .int p2)], [.int 1])) rfl ?_
    obtain ⟨rfl, rfl, rfl⟩ := s_inj hb
    exact e_r rfl rfl K
theorem E_Model_next {p2 : Int32} {X : MX} {I : MI} {J : MJ} {v : Unit} {I' : MI} {J' : MJ} (hb : f_Model_next p2 I J = some (v, I', J')) (K : P (.inl (none)) (hX X I' J')) : am_E (gG L xs) (d + 1) m_Model_next (0, lv_args 0 [.ref 112, .int p2], []) (hX X I J) P := by
  unfold f_Model_next at hb
  refine e_k 1 (f' := (1, [(0, .ref 112), (1, .int p2)], [.ref 112])) rfl ?_
  refine r_getr rfl (x_ltn rfl) rfl rfl ?_
  refine e_k 2 (f' := (6, [(0, .ref 112), (1, .int p2)], [.int p2, .ref 127, .int p2, .ref 127])) rfl ?_
  obtain ⟨o1, hb⟩ := ob_in hb
  refine r_iald rfl rfl (x_ltn rfl) rfl o1 ?_
  refine e_k 1 (f' := (8, [(0, .ref 112), (1, .int p2)], [.ref 112, .int (I 127 (Int32.toNatClampNeg p2)), .int p2, .ref 127])) rfl ?_
  refine r_getr rfl (x_ltn rfl) rfl rfl ?_
  refine e_k 1 (f' := (12, [(0, .ref 112), (1, .int p2)], [.ref 112, .ref 114, .int (I 127 (Int32.toNatClampNeg p2)), .int p2, .ref 127])) rfl ?_
  refine r_getr rfl (x_ltn rfl) rfl rfl ?_
  refine e_k 1 (f' := (16, [(0, .ref 112), (1, .int p2)], [.int p2, .ref 127, .ref 114, .int (I 127 (Int32.toNatClampNeg p2)), .int p2, .ref 127])) rfl ?_
  obtain ⟨o2, hb⟩ := ob_in hb
  refine r_iald rfl rfl (x_ltn rfl) rfl o2 ?_
  obtain ⟨o3, hb⟩ := ob_in hb
  refine r_iald rfl rfl (x_ltn rfl) rfl o3 ?_
  obtain ⟨v4, I4, J4, h4, hb⟩ := oc_call hb
  refine r_cs (z := m_Model_longOf) (As := [.int (I 114 (Int32.toNatClampNeg (I 127 (Int32.toNatClampNeg p2))))]) (rest := [.int (I 127 (Int32.toNatClampNeg p2)), .int p2, .ref 127]) rfl rfl rfl rfl rfl rfl (E_Model_longOf  h4 ⟨_, rfl, ?_⟩)
  refine e_k 1 (f' := (22, [(0, .ref 112), (1, .int p2)], [.int ((I 127 (Int32.toNatClampNeg p2)) + v4), .int p2, .ref 127])) rfl ?_
  obtain ⟨o5, hb⟩ := ob_in hb
  obtain ⟨I6, eI6, hb⟩ := p_nm hb
  refine r_iast' rfl (x_ltn rfl) rfl o5 eI6 ?_
  refine e_k 1 (f' := (24, [(0, .ref 112), (1, .int p2)], [.ref 112])) rfl ?_
  refine r_getr rfl (x_ltn rfl) rfl rfl ?_
  refine e_k 2 (f' := (29, [(0, .ref 112), (1, .int p2)], [.int 0, .int p2, .ref 128])) rfl ?_
  obtain ⟨o7, hb⟩ := ob_in hb
  obtain ⟨I8, eI8, hb⟩ := p_nm hb
  refine r_iast' rfl (x_ltn rfl) rfl o7 eI8 ?_
  obtain ⟨rfl, rfl, rfl⟩ := s_inj hb
  exact e_r rfl rfl K
theorem E_Model_sum_5 {X : MX} {p2 : Int32} {p3 : Int32} : ∀ (fu : Nat) {l1 : Int32} {l2 : Int32} {l3 : Int64} {l5 : Int32} {I : MI} {J : MJ} {r : (Int64)} {I' : MI} {J' : MJ}, f_Model_sum_5 p2 p3 fu l1 l2 l3 l5 I J = some (r, I', J') → am_E (gG L xs) (d + 2) m_Model_sum (36, [(0, .ref 112), (1, .int l1), (3, .long r)], []) (hX X I' J') P → am_E (gG L xs) (d + 2) m_Model_sum (5, [(0, .ref 112), (1, .int l1), (2, .int l2), (3, .long l3), (5, .int l5)], []) (hX X I J) P := by
  intro fu
  induction fu with
  | zero =>
    intros
    rename_i hb _
    cases hb
  | succ fu ih =>
    intro l1 l2 l3 l5 I J r I' J' hb K
    unfold f_Model_sum_5 at hb
    refine e_k 2 (f' := (8, [(0, .ref 112), (1, .int l1), (2, .int l2), (3, .long l3), (5, .int l5)], [.ref 112, .int l5])) rfl ?_
    refine r_geti rfl (x_ltn rfl) rfl rfl ?_
    refine e_k 1 (f' := (if (I 112 16) ≤ l5 then 36 else 14, [(0, .ref 112), (1, .int l1), (2, .int l2), (3, .long l3), (5, .int l5)], [])) rfl ?_
    refine e_if (fun c1 => ?_) (fun c1 => ?_)
    · replace hb := i_pos c1 hb
      refine e_sub (ls := [(0, .ref 112), (1, .int l1), (3, .long l3)]) rfl ⟨rfl, rfl, rfl, trivial⟩ ?_
      obtain ⟨rfl, rfl, rfl⟩ := s_inj hb
      exact K
    · replace hb := i_neg c1 hb
      refine e_k 2 (f' := (16, [(0, .ref 112), (1, .int l1), (2, .int l2), (3, .long l3), (5, .int l5)], [.ref 112, .long l3])) rfl ?_
      refine r_getr rfl (x_ltn rfl) rfl rfl ?_
      refine e_k 5 (f' := (25, [(0, .ref 112), (1, .int l1), (2, .int l2), (3, .long l3), (5, .int l5)], [.int ((4 * l2) + l5), .ref 154, .long l3])) rfl ?_
      obtain ⟨o2, hb⟩ := ob_in hb
      refine r_lald rfl rfl (x_ltn rfl) rfl o2 ?_
      obtain ⟨v3, I3, J3, h3, hb⟩ := oc_call hb
      refine r_cs (z := m_Model_plus) (As := [.long l3, .long (J 154 (Int32.toNatClampNeg ((4 * l2) + l5)))]) (rest := []) rfl rfl rfl rfl rfl rfl (E_Model_plus  h3 ⟨_, rfl, ?_⟩)
      refine e_k 3 (f' := (5, [(5, .int (l5 + 1)), (3, .long v3), (0, .ref 112), (1, .int l1), (2, .int l2)], [])) rfl ?_
      refine e_sub (ls := [(0, .ref 112), (1, .int l1), (2, .int l2), (3, .long v3), (5, .int (l5 + 1))]) rfl ⟨rfl, rfl, rfl, rfl, rfl, trivial⟩ ?_
      exact ih  hb K
theorem E_Model_sum_64 {X : MX} {p2 : Int32} {p3 : Int32} : ∀ (fu : Nat) {l1 : Int32} {l3 : Int64} {l5 : Int32} {l6 : Int64} {l8 : Int32} {l9 : Int32} {I : MI} {J : MJ} {r : (Int32 × Int64)} {I' : MI} {J' : MJ}, f_Model_sum_64 p2 p3 fu l1 l3 l5 l6 l8 l9 I J = some (r, I', J') → am_E (gG L xs) (d + 3) m_Model_sum (113, [(0, .ref 112), (1, .int l1), (3, .long l3), (5, .int r.1), (6, .long r.2), (8, .int l8)], []) (hX X I' J') P → am_E (gG L xs) (d + 3) m_Model_sum (64, [(0, .ref 112), (1, .int l1), (3, .long l3), (5, .int l5), (6, .long l6), (8, .int l8), (9, .int l9)], []) (hX X I J) P := by
  intro fu
  induction fu with
  | zero =>
    intros
    rename_i hb _
    cases hb
  | succ fu ih =>
    intro l1 l3 l5 l6 l8 l9 I J r I' J' hb K
    unfold f_Model_sum_64 at hb
    refine e_k 2 (f' := (67, [(0, .ref 112), (1, .int l1), (3, .long l3), (5, .int l5), (6, .long l6), (8, .int l8), (9, .int l9)], [.ref 112, .int l9])) rfl ?_
    refine r_getr rfl (x_ltn rfl) rfl rfl ?_
    refine e_k 1 (f' := (72, [(0, .ref 112), (1, .int l1), (3, .long l3), (5, .int l5), (6, .long l6), (8, .int l8), (9, .int l9)], [.int l8, .ref 151, .int l9])) rfl ?_
    obtain ⟨o9, hb⟩ := ob_in hb
    refine r_iald rfl rfl (x_ltn rfl) rfl o9 ?_
    obtain ⟨v10, I10, J10, h10, hb⟩ := oc_call hb
    refine r_cs (z := m_Model_numbers) (As := [.int (I 151 (Int32.toNatClampNeg l8))]) (rest := [.int l9]) rfl rfl rfl rfl rfl rfl (E_Model_numbers  h10 ⟨_, rfl, ?_⟩)
    refine e_k 1 (f' := (if v10 ≤ l9 then 113 else 79, [(0, .ref 112), (1, .int l1), (3, .long l3), (5, .int l5), (6, .long l6), (8, .int l8), (9, .int l9)], [])) rfl ?_
    refine e_if (fun c11 => ?_) (fun c11 => ?_)
    · replace hb := i_pos c11 hb
      refine e_sub (ls := [(0, .ref 112), (1, .int l1), (3, .long l3), (5, .int l5), (6, .long l6), (8, .int l8)]) rfl ⟨rfl, rfl, rfl, rfl, rfl, rfl, trivial⟩ ?_
      obtain ⟨rfl, rfl, rfl⟩ := s_inj hb
      exact K
    · replace hb := i_neg c11 hb
      refine e_k 4 (f' := (85, [(0, .ref 112), (1, .int l1), (3, .long l3), (5, .int l5), (6, .long l6), (8, .int l8), (9, .int l9)], [.int l5, .long l3, .ref 112, .long l6])) rfl ?_
      obtain ⟨v12, I12, J12, h12, hb⟩ := oc_call hb
      refine r_cv (z := m_Model_drawn) (As := [.long l3, .int l5]) (rest := [.long l6]) rfl rfl rfl rfl rfl (x_ltn rfl) rfl rfl (E_Model_drawn  h12 ⟨_, rfl, ?_⟩)
      refine e_k 3 (f' := (93, [(0, .ref 112), (1, .int l1), (3, .long l3), (5, .int l5), (6, .long l6), (8, .int l8), (9, .int l9)], [.int l9, .int l8, .ref 112, .long v12, .long l6])) rfl ?_
      obtain ⟨v13, I13, J13, h13, hb⟩ := oc_call hb
      refine r_cv (z := m_Model_error) (As := [.int l8, .int l9]) (rest := [.long v12, .long l6]) rfl rfl rfl rfl rfl (x_ltn rfl) rfl rfl (E_Model_error  h13 ⟨_, rfl, ?_⟩)
      obtain ⟨v14, I14, J14, h14, hb⟩ := oc_call hb
      refine r_cs (z := m_Model_times) (As := [.long v12, .long v13]) (rest := [.long l6]) rfl rfl rfl rfl rfl rfl (E_Model_times  h14 ⟨_, rfl, ?_⟩)
      obtain ⟨v15, I15, J15, h15, hb⟩ := oc_call hb
      refine r_cs (z := m_Model_plus) (As := [.long l6, .long v14]) (rest := []) rfl rfl rfl rfl rfl rfl (E_Model_plus  h15 ⟨_, rfl, ?_⟩)
      refine e_k 4 (f' := (64, [(9, .int (l9 + 1)), (5, .int (l5 + 1)), (6, .long v15), (0, .ref 112), (1, .int l1), (3, .long l3), (8, .int l8)], [])) rfl ?_
      refine e_sub (ls := [(0, .ref 112), (1, .int l1), (3, .long l3), (5, .int (l5 + 1)), (6, .long v15), (8, .int l8), (9, .int (l9 + 1))]) rfl ⟨rfl, rfl, rfl, rfl, rfl, rfl, rfl, trivial⟩ ?_
      exact ih  hb K
theorem E_Model_sum_50 {X : MX} {p2 : Int32} {p3 : Int32} : ∀ (fu : Nat) {l1 : Int32} {l3 : Int64} {l5 : Int32} {l6 : Int64} {l8 : Int32} {I : MI} {J : MJ} {r : (Int64)} {I' : MI} {J' : MJ}, f_Model_sum_50 p2 p3 fu l1 l3 l5 l6 l8 I J = some (r, I', J') → am_E (gG L xs) (d + 3) m_Model_sum (119, [(0, .ref 112), (1, .int l1), (6, .long r)], []) (hX X I' J') P → am_E (gG L xs) (d + 3) m_Model_sum (50, [(0, .ref 112), (1, .int l1), (3, .long l3), (5, .int l5), (6, .long l6), (8, .int l8)], []) (hX X I J) P := by
  intro fu
  induction fu with
  | zero =>
    intros
    rename_i hb _
    cases hb
  | succ fu ih =>
    intro l1 l3 l5 l6 l8 I J r I' J' hb K
    unfold f_Model_sum_50 at hb
    refine e_k 2 (f' := (53, [(0, .ref 112), (1, .int l1), (3, .long l3), (5, .int l5), (6, .long l6), (8, .int l8)], [.ref 112, .int l8])) rfl ?_
    refine r_getr rfl (x_ltn rfl) rfl rfl ?_
    refine e_k 1 (f' := (57, [(0, .ref 112), (1, .int l1), (3, .long l3), (5, .int l5), (6, .long l6), (8, .int l8)], [.int l1, .ref 135, .int l8])) rfl ?_
    obtain ⟨o7, hb⟩ := ob_in hb
    refine r_iald rfl rfl (x_ltn rfl) rfl o7 ?_
    refine e_k 1 (f' := (if (I 135 (Int32.toNatClampNeg l1)) ≤ l8 then 119 else 61, [(0, .ref 112), (1, .int l1), (3, .long l3), (5, .int l5), (6, .long l6), (8, .int l8)], [])) rfl ?_
    refine e_if (fun c8 => ?_) (fun c8 => ?_)
    · replace hb := i_pos c8 hb
      refine e_sub (ls := [(0, .ref 112), (1, .int l1), (6, .long l6)]) rfl ⟨rfl, rfl, rfl, trivial⟩ ?_
      obtain ⟨rfl, rfl, rfl⟩ := s_inj hb
      exact K
    · replace hb := i_neg c8 hb
      refine e_k 2 (f' := (64, [(9, .int 0), (0, .ref 112), (1, .int l1), (3, .long l3), (5, .int l5), (6, .long l6), (8, .int l8)], [])) rfl ?_
      refine e_sub (ls := [(0, .ref 112), (1, .int l1), (3, .long l3), (5, .int l5), (6, .long l6), (8, .int l8), (9, .int 0)]) rfl ⟨rfl, rfl, rfl, rfl, rfl, rfl, rfl, trivial⟩ ?_
      obtain ⟨u16, I16, J16, h16, hb⟩ := oc_call hb
      refine E_Model_sum_64  gF  h16 ?_
      refine e_k 2 (f' := (50, [(8, .int (l8 + 1)), (0, .ref 112), (1, .int l1), (3, .long l3), (5, .int u16.1), (6, .long u16.2)], [])) rfl ?_
      refine e_sub (ls := [(0, .ref 112), (1, .int l1), (3, .long l3), (5, .int u16.1), (6, .long u16.2), (8, .int (l8 + 1))]) rfl ⟨rfl, rfl, rfl, rfl, rfl, rfl, trivial⟩ ?_
      exact ih  hb K
theorem E_Model_sum_166 {X : MX} {p2 : Int32} {p3 : Int32} : ∀ (fu : Nat) {l1 : Int32} {l8 : Int32} {I : MI} {J : MJ} {r : (Unit)} {I' : MI} {J' : MJ}, f_Model_sum_166 p2 p3 fu l1 l8 I J = some (r, I', J') → am_E (gG L xs) d m_Model_sum (203, [], []) (hX X I' J') P → am_E (gG L xs) d m_Model_sum (166, [(0, .ref 112), (1, .int l1), (8, .int l8)], []) (hX X I J) P := by
  intro fu
  induction fu with
  | zero =>
    intros
    rename_i hb _
    cases hb
  | succ fu ih =>
    intro l1 l8 I J r I' J' hb K
    unfold f_Model_sum_166 at hb
    refine e_k 2 (f' := (169, [(0, .ref 112), (1, .int l1), (8, .int l8)], [.ref 112, .int l8])) rfl ?_
    refine r_geti rfl (x_ltn rfl) rfl rfl ?_
    refine e_k 1 (f' := (if (I 112 16) ≤ l8 then 203 else 175, [(0, .ref 112), (1, .int l1), (8, .int l8)], [])) rfl ?_
    refine e_if (fun c28 => ?_) (fun c28 => ?_)
    · replace hb := i_pos c28 hb
      refine e_sub (ls := []) rfl ⟨⟩ ?_
      obtain ⟨rfl, rfl, rfl⟩ := s_inj hb
      exact K
    · replace hb := i_neg c28 hb
      refine e_k 1 (f' := (176, [(0, .ref 112), (1, .int l1), (8, .int l8)], [.ref 112])) rfl ?_
      refine r_getr rfl (x_ltn rfl) rfl rfl ?_
      refine e_k 8 (f' := (if l8 = l1 then 195 else 191, [(0, .ref 112), (1, .int l1), (8, .int l8)], [.int ((4 * l1) + l8), .ref 149])) rfl ?_
      obtain ⟨v30, h30, hb⟩ := p_nn hb
      have Kj30 : am_E (gG L xs) d m_Model_sum (196, [(0, .ref 112), (1, .int l1), (8, .int l8)], [.int v30, .int ((4 * l1) + l8), .ref 149]) (hX X I J) P := by
        obtain ⟨o32, hb⟩ := ob_in hb
        obtain ⟨I33, eI33, hb⟩ := p_nm hb
        refine r_zast' rfl (x_ltn rfl) rfl o32 eI33 ?_
        refine e_k 2 (f' := (166, [(8, .int (l8 + 1)), (0, .ref 112), (1, .int l1)], [])) rfl ?_
        refine e_sub (ls := [(0, .ref 112), (1, .int l1), (8, .int (l8 + 1))]) rfl ⟨rfl, rfl, rfl, trivial⟩ ?_
        exact ih  hb K
      clear hb
      refine e_if (fun c31 => ?_) (fun c31 => ?_)
      · replace h30 := i_pos c31 h30
        refine e_k 1 (f' := (196, [(0, .ref 112), (1, .int l1), (8, .int l8)], [.int 0, .int ((4 * l1) + l8), .ref 149])) rfl ?_
        refine e_sub (ls := [(0, .ref 112), (1, .int l1), (8, .int l8)]) rfl ⟨rfl, rfl, rfl, trivial⟩ ?_
        subst h30
        exact Kj30
      · replace h30 := i_neg c31 h30
        refine e_k 2 (f' := (196, [(0, .ref 112), (1, .int l1), (8, .int l8)], [.int 1, .int ((4 * l1) + l8), .ref 149])) rfl ?_
        refine e_sub (ls := [(0, .ref 112), (1, .int l1), (8, .int l8)]) rfl ⟨rfl, rfl, rfl, trivial⟩ ?_
        subst h30
        exact Kj30
theorem E_Model_sum {p2 : Int32} {p3 : Int32} {X : MX} {I : MI} {J : MJ} {v : Unit} {I' : MI} {J' : MJ} (hb : f_Model_sum p2 p3 I J = some (v, I', J')) (K : P (.inl (none)) (hX X I' J')) : am_E (gG L xs) (d + 3) m_Model_sum (0, lv_args 0 [.ref 112, .int p2, .int p3], []) (hX X I J) P := by
  unfold f_Model_sum at hb
  refine e_k 4 (f' := (5, [(5, .int 0), (3, .long 0), (0, .ref 112), (1, .int p2), (2, .int p3)], [])) rfl ?_
  refine e_sub (ls := [(0, .ref 112), (1, .int p2), (2, .int p3), (3, .long 0), (5, .int 0)]) rfl ⟨rfl, rfl, rfl, rfl, rfl, trivial⟩ ?_
  obtain ⟨u4, I4, J4, h4, hb⟩ := oc_call hb
  refine E_Model_sum_5  gF  h4 ?_
  refine e_k 5 (f' := (43, [(6, .long 0), (5, .int 0), (0, .ref 112), (1, .int p2), (3, .long u4)], [.ref 112])) rfl ?_
  refine r_getr rfl (x_ltn rfl) rfl rfl ?_
  refine e_k 1 (f' := (47, [(6, .long 0), (5, .int 0), (0, .ref 112), (1, .int p2), (3, .long u4)], [.int p2, .ref 136])) rfl ?_
  obtain ⟨o5, hb⟩ := ob_in hb
  refine r_iald rfl rfl (x_ltn rfl) rfl o5 ?_
  refine e_k 1 (f' := (50, [(8, .int (I4 136 (Int32.toNatClampNeg p2))), (6, .long 0), (5, .int 0), (0, .ref 112), (1, .int p2), (3, .long u4)], [])) rfl ?_
  obtain ⟨x6, ex6, hb⟩ := p_nm hb
  rw [← ex6]
  refine e_sub (ls := [(0, .ref 112), (1, .int p2), (3, .long u4), (5, .int 0), (6, .long 0), (8, .int x6)]) rfl ⟨rfl, rfl, rfl, rfl, rfl, rfl, trivial⟩ ?_
  obtain ⟨u17, I17, J17, h17, hb⟩ := oc_call hb
  refine E_Model_sum_50  gF  h17 ?_
  refine e_k 1 (f' := (120, [(0, .ref 112), (1, .int p2), (6, .long u17)], [.ref 112])) rfl ?_
  refine r_getr rfl (x_ltn rfl) rfl rfl ?_
  refine e_k 2 (f' := (125, [(0, .ref 112), (1, .int p2), (6, .long u17)], [.ref 112, .int p2, .ref 136])) rfl ?_
  refine r_getr rfl (x_ltn rfl) rfl rfl ?_
  refine e_k 1 (f' := (129, [(0, .ref 112), (1, .int p2), (6, .long u17)], [.int p2, .ref 135, .int p2, .ref 136])) rfl ?_
  obtain ⟨o18, hb⟩ := ob_in hb
  refine r_iald rfl rfl (x_ltn rfl) rfl o18 ?_
  obtain ⟨o19, hb⟩ := ob_in hb
  obtain ⟨I20, eI20, hb⟩ := p_nm hb
  refine r_iast' rfl (x_ltn rfl) rfl o19 eI20 ?_
  refine e_k 1 (f' := (132, [(0, .ref 112), (1, .int p2), (6, .long u17)], [.ref 112])) rfl ?_
  refine r_getr rfl (x_ltn rfl) rfl rfl ?_
  refine e_k 2 (f' := (137, [(0, .ref 112), (1, .int p2), (6, .long u17)], [.int p2, .ref 134, .int p2, .ref 134])) rfl ?_
  obtain ⟨o21, hb⟩ := ob_in hb
  refine r_iald rfl rfl (x_ltn rfl) rfl o21 ?_
  refine e_k 2 (f' := (140, [(0, .ref 112), (1, .int p2), (6, .long u17)], [.int ((I20 134 (Int32.toNatClampNeg p2)) + 1), .int p2, .ref 134])) rfl ?_
  obtain ⟨o22, hb⟩ := ob_in hb
  obtain ⟨I23, eI23, hb⟩ := p_nm hb
  refine r_iast' rfl (x_ltn rfl) rfl o22 eI23 ?_
  refine e_k 1 (f' := (142, [(0, .ref 112), (1, .int p2), (6, .long u17)], [.ref 112])) rfl ?_
  refine r_getl rfl (x_ltn rfl) rfl rfl ?_
  refine e_k 1 (f' := (147, [(0, .ref 112), (1, .int p2), (6, .long u17)], [.long u17, .long (J17 112 18)])) rfl ?_
  obtain ⟨v24, I24, J24, h24, hb⟩ := oc_call hb
  refine r_cs (z := m_Model_times) (As := [.long (J17 112 18), .long u17]) (rest := []) rfl rfl rfl rfl rfl rfl (E_Model_times  h24 ⟨_, rfl, ?_⟩)
  refine e_k 3 (f' := (if ¬ (lg_cmp v24 0) = 0 then 156 else 155, [(0, .ref 112), (1, .int p2), (6, .long u17)], [])) rfl ?_
  refine e_if (fun c25 => ?_) (fun c25 => ?_)
  · replace hb := i_pos c25 hb
    refine e_k 1 (f' := (157, [(0, .ref 112), (1, .int p2), (6, .long u17)], [.ref 112])) rfl ?_
    refine r_getr rfl (x_ltn rfl) rfl rfl ?_
    refine e_k 2 (f' := (162, [(0, .ref 112), (1, .int p2), (6, .long u17)], [.int 1, .int p2, .ref 137])) rfl ?_
    obtain ⟨o26, hb⟩ := ob_in hb
    obtain ⟨I27, eI27, hb⟩ := p_nm hb
    refine r_iast' rfl (x_ltn rfl) rfl o26 eI27 ?_
    refine e_k 2 (f' := (166, [(8, .int 0), (0, .ref 112), (1, .int p2), (6, .long u17)], [])) rfl ?_
    refine e_sub (ls := [(0, .ref 112), (1, .int p2), (8, .int 0)]) rfl ⟨rfl, rfl, rfl, trivial⟩ ?_
    obtain ⟨u34, I34, J34, h34, hb⟩ := oc_call hb
    refine E_Model_sum_166  gF  h34 ?_
    obtain ⟨rfl, rfl, rfl⟩ := s_inj hb
    exact e_r rfl rfl K
  · replace hb := i_neg c25 hb
    obtain ⟨rfl, rfl, rfl⟩ := s_inj hb
    exact e_r rfl rfl K
theorem E_Model_row {p1 : Int32} {p2 : Int32} {X : MX} {I : MI} {J : MJ} {v : Int32} {I' : MI} {J' : MJ} (hb : f_Model_row p1 p2 I J = some (v, I', J')) (K : P (.inl (some (.int v))) (hX X I' J')) : am_E (gG L xs) d m_Model_row (0, lv_args 0 [.int p1, .int p2], []) (hX X I J) P := by
  unfold f_Model_row at hb
  refine e_k 9 (f' := (13, [(0, .int p1), (1, .int p2)], [.int (((154 * p1) + 26) + (16 * p2))])) rfl ?_
  obtain ⟨rfl, rfl, rfl⟩ := s_inj hb
  exact e_r rfl rfl K
theorem E_Model_received {p2 : Int32} {X : MX} {I : MI} {J : MJ} {v : Unit} {I' : MI} {J' : MJ} (hb : f_Model_received p2 I J = some (v, I', J')) (K : P (.inl (none)) (hX X I' J')) : am_E (gG L xs) (d + 2) m_Model_received (0, lv_args 0 [.ref 112, .int p2], []) (hX X I J) P := by
  unfold f_Model_received at hb
  refine e_k 1 (f' := (1, [(0, .ref 112), (1, .int p2)], [.ref 112])) rfl ?_
  refine r_getr rfl (x_ltn rfl) rfl rfl ?_
  refine e_k 2 (f' := (6, [(0, .ref 112), (1, .int p2)], [.int p2, .ref 135, .int p2, .ref 135])) rfl ?_
  obtain ⟨o1, hb⟩ := ob_in hb
  refine r_iald rfl rfl (x_ltn rfl) rfl o1 ?_
  refine e_k 2 (f' := (9, [(0, .ref 112), (1, .int p2)], [.int ((I 135 (Int32.toNatClampNeg p2)) + 1), .int p2, .ref 135])) rfl ?_
  obtain ⟨o2, hb⟩ := ob_in hb
  obtain ⟨I3, eI3, hb⟩ := p_nm hb
  refine r_iast' rfl (x_ltn rfl) rfl o2 eI3 ?_
  refine e_k 2 (f' := (12, [(0, .ref 112), (1, .int p2)], [.int p2, .ref 112])) rfl ?_
  obtain ⟨v4, I4, J4, h4, hb⟩ := oc_call hb
  refine r_cv (z := m_Model_next) (As := [.int p2]) (rest := []) rfl rfl rfl rfl rfl (x_ltn rfl) rfl rfl (E_Model_next  h4 ⟨_, rfl, ?_⟩)
  obtain ⟨rfl, rfl, rfl⟩ := s_inj hb
  exact e_r rfl rfl K
theorem E_Model_joint {p2 : Int32} {p3 : Int32} {X : MX} {I : MI} {J : MJ} {v : Int32} {I' : MI} {J' : MJ} (hb : f_Model_joint p2 p3 I J = some (v, I', J')) (K : P (.inl (some (.int v))) (hX X I' J')) : am_E (gG L xs) (d + 3) m_Model_joint (0, lv_args 0 [.ref 112, .int p2, .int p3], []) (hX X I J) P := by
  unfold f_Model_joint at hb
  refine e_k 1 (f' := (1, [(0, .ref 112), (1, .int p2), (2, .int p3)], [.ref 112])) rfl ?_
  refine r_getr rfl (x_ltn rfl) rfl rfl ?_
  refine e_k 1 (f' := (5, [(0, .ref 112), (1, .int p2), (2, .int p3)], [.int p2, .ref 128])) rfl ?_
  obtain ⟨o1, hb⟩ := ob_in hb
  refine r_iald rfl rfl (x_ltn rfl) rfl o1 ?_
  refine e_k 1 (f' := (if ¬ (I 128 (Int32.toNatClampNeg p2)) = 0 then 69 else 9, [(0, .ref 112), (1, .int p2), (2, .int p3)], [])) rfl ?_
  refine e_if (fun c2 => ?_) (fun c2 => ?_)
  · replace hb := i_pos c2 hb
    refine e_k 3 (f' := (72, [(0, .ref 112), (1, .int p2), (2, .int p3)], [.int (-1), .int p2, .ref 112])) rfl ?_
    obtain ⟨v3, I3, J3, h3, hb⟩ := oc_call hb
    refine r_cv (z := m_Model_receive) (As := [.int p2, .int (-1)]) (rest := []) rfl rfl rfl rfl rfl (x_ltn rfl) rfl rfl (E_Model_receive  h3 ⟨_, rfl, ?_⟩)
    refine e_k 1 (f' := (if ¬ v3 = 0 then 80 else 78, [(0, .ref 112), (1, .int p2), (2, .int p3)], [])) rfl ?_
    refine e_if (fun c4 => ?_) (fun c4 => ?_)
    · replace hb := i_pos c4 hb
      refine e_k 1 (f' := (81, [(0, .ref 112), (1, .int p2), (2, .int p3)], [.ref 112])) rfl ?_
      refine r_getr rfl (x_ltn rfl) rfl rfl ?_
      refine e_k 1 (f' := (85, [(0, .ref 112), (1, .int p2), (2, .int p3)], [.int p2, .ref 135])) rfl ?_
      obtain ⟨o5, hb⟩ := ob_in hb
      refine r_iald rfl rfl (x_ltn rfl) rfl o5 ?_
      refine e_k 1 (f' := (87, [(3, .int (I3 135 (Int32.toNatClampNeg p2))), (0, .ref 112), (1, .int p2), (2, .int p3)], [])) rfl ?_
      obtain ⟨x6, ex6, hb⟩ := p_nm hb
      rw [← ex6]
      refine e_k 2 (f' := (89, [(3, .int x6), (0, .ref 112), (1, .int p2), (2, .int p3)], [.int p2, .ref 112])) rfl ?_
      obtain ⟨v7, I7, J7, h7, hb⟩ := oc_call hb
      refine r_cv (z := m_Model_pop) (As := [.int p2]) (rest := []) rfl rfl rfl rfl rfl (x_ltn rfl) rfl rfl (E_Model_pop  h7 ⟨_, rfl, ?_⟩)
      refine e_k 4 (f' := (if ¬ p3 = 7 then 117 else 100, [(4, .long v7), (3, .int x6), (0, .ref 112), (1, .int p2), (2, .int p3)], [])) rfl ?_
      obtain ⟨v11, I11, J11, h11, hb⟩ := oc_call hb
      have Kj11 : am_E (gG L xs) (d + 3) m_Model_joint (128, [(0, .ref 112), (1, .int p2), (2, .int p3), (3, .int x6), (4, .long v7)], [.long v11]) (hX X I11 J11) P := by
        refine e_k 7 (f' := (if ¬ p3 = 7 then 154 else 140, [(6, .long v11), (0, .ref 112), (1, .int p2), (2, .int p3), (3, .int x6), (4, .long v7)], [.long v11, .int p2, .ref 112])) rfl ?_
        obtain ⟨v19, I19, J19, h19, hb⟩ := oc_call hb
        have Kj19 : am_E (gG L xs) (d + 3) m_Model_joint (156, [(0, .ref 112), (1, .int p2)], [.long v19, .long v11, .int p2, .ref 112]) (hX X I19 J19) P := by
          obtain ⟨v23, I23, J23, h23, hb⟩ := oc_call hb
          refine r_cs (z := m_Model_times) (As := [.long v11, .long v19]) (rest := [.int p2, .ref 112]) rfl rfl rfl rfl rfl rfl (E_Model_times  h23 ⟨_, rfl, ?_⟩)
          obtain ⟨v24, I24, J24, h24, hb⟩ := oc_call hb
          refine r_cv (z := m_Model_push) (As := [.int p2, .long v23]) (rest := []) rfl rfl rfl rfl rfl (x_ltn rfl) rfl rfl (E_Model_push  h24 ⟨_, rfl, ?_⟩)
          refine e_k 2 (f' := (164, [(0, .ref 112), (1, .int p2)], [.int p2, .ref 112])) rfl ?_
          obtain ⟨v25, I25, J25, h25, hb⟩ := oc_call hb
          refine r_cv (z := m_Model_received) (As := [.int p2]) (rest := []) rfl rfl rfl rfl rfl (x_ltn rfl) rfl rfl (E_Model_received  h25 ⟨_, rfl, ?_⟩)
          refine e_k 1 (f' := (168, [(0, .ref 112), (1, .int p2)], [.int 1])) rfl ?_
          obtain ⟨rfl, rfl, rfl⟩ := s_inj hb
          exact e_r rfl rfl K
        clear hb
        refine e_if (fun c20 => ?_) (fun c20 => ?_)
        · replace h19 := i_pos c20 h19
          refine e_k 1 (f' := (156, [(6, .long v11), (0, .ref 112), (1, .int p2), (2, .int p3), (3, .int x6), (4, .long v7)], [.long v11, .long v11, .int p2, .ref 112])) rfl ?_
          refine e_sub (ls := [(0, .ref 112), (1, .int p2)]) rfl ⟨rfl, rfl, trivial⟩ ?_
          obtain ⟨rfl, rfl, rfl⟩ := s_inj h19
          exact Kj19
        · replace h19 := i_neg c20 h19
          refine e_k 4 (f' := (145, [(6, .long v11), (0, .ref 112), (1, .int p2), (2, .int p3), (3, .int x6), (4, .long v7)], [.int 1, .int x6, .ref 112, .long v7, .long v11, .int p2, .ref 112])) rfl ?_
          obtain ⟨v21, I21, J21, h21, h19⟩ := oc_call h19
          refine r_cv (z := m_Model_error) (As := [.int x6, .int 1]) (rest := [.long v7, .long v11, .int p2, .ref 112]) rfl rfl rfl rfl rfl (x_ltn rfl) rfl rfl (E_Model_error  h21 ⟨_, rfl, ?_⟩)
          obtain ⟨v22, I22, J22, h22, h19⟩ := oc_call h19
          refine r_cs (z := m_Model_plus) (As := [.long v7, .long v21]) (rest := [.long v11, .int p2, .ref 112]) rfl rfl rfl rfl rfl rfl (E_Model_plus  h22 ⟨_, rfl, ?_⟩)
          refine e_k 1 (f' := (156, [(6, .long v11), (0, .ref 112), (1, .int p2), (2, .int p3), (3, .int x6), (4, .long v7)], [.long v22, .long v11, .int p2, .ref 112])) rfl ?_
          refine e_sub (ls := [(0, .ref 112), (1, .int p2)]) rfl ⟨rfl, rfl, trivial⟩ ?_
          obtain ⟨rfl, rfl, rfl⟩ := s_inj h19
          exact Kj19
      clear hb
      refine e_if (fun c12 => ?_) (fun c12 => ?_)
      · replace h11 := i_pos c12 h11
        refine e_k 4 (f' := (122, [(4, .long v7), (3, .int x6), (0, .ref 112), (1, .int p2), (2, .int p3)], [.int 0, .int x6, .ref 112, .long v7])) rfl ?_
        obtain ⟨v13, I13, J13, h13, h11⟩ := oc_call h11
        refine r_cv (z := m_Model_error) (As := [.int x6, .int 0]) (rest := [.long v7]) rfl rfl rfl rfl rfl (x_ltn rfl) rfl rfl (E_Model_error  h13 ⟨_, rfl, ?_⟩)
        obtain ⟨v14, I14, J14, h14, h11⟩ := oc_call h11
        refine r_cs (z := m_Model_plus) (As := [.long v7, .long v13]) (rest := []) rfl rfl rfl rfl rfl rfl (E_Model_plus  h14 ⟨_, rfl, ?_⟩)
        refine e_sub (ls := [(0, .ref 112), (1, .int p2), (2, .int p3), (3, .int x6), (4, .long v7)]) rfl ⟨rfl, rfl, rfl, rfl, rfl, trivial⟩ ?_
        obtain ⟨rfl, rfl, rfl⟩ := s_inj h11
        exact Kj11
      · replace h11 := i_neg c12 h11
        refine e_k 2 (f' := (102, [(4, .long v7), (3, .int x6), (0, .ref 112), (1, .int p2), (2, .int p3)], [.int p2, .ref 112])) rfl ?_
        obtain ⟨v15, I15, J15, h15, h11⟩ := oc_call h11
        refine r_cv (z := m_Model_pop) (As := [.int p2]) (rest := []) rfl rfl rfl rfl rfl (x_ltn rfl) rfl rfl (E_Model_pop  h15 ⟨_, rfl, ?_⟩)
        refine e_k 3 (f' := (108, [(4, .long v7), (3, .int x6), (0, .ref 112), (1, .int p2), (2, .int p3)], [.int 0, .int x6, .ref 112, .long v15])) rfl ?_
        obtain ⟨v16, I16, J16, h16, h11⟩ := oc_call h11
        refine r_cv (z := m_Model_error) (As := [.int x6, .int 0]) (rest := [.long v15]) rfl rfl rfl rfl rfl (x_ltn rfl) rfl rfl (E_Model_error  h16 ⟨_, rfl, ?_⟩)
        obtain ⟨v17, I17, J17, h17, h11⟩ := oc_call h11
        refine r_cs (z := m_Model_plus) (As := [.long v15, .long v16]) (rest := []) rfl rfl rfl rfl rfl rfl (E_Model_plus  h17 ⟨_, rfl, ?_⟩)
        refine e_k 1 (f' := (128, [(4, .long v7), (3, .int x6), (0, .ref 112), (1, .int p2), (2, .int p3)], [.long v17])) rfl ?_
        refine e_sub (ls := [(0, .ref 112), (1, .int p2), (2, .int p3), (3, .int x6), (4, .long v7)]) rfl ⟨rfl, rfl, rfl, rfl, rfl, trivial⟩ ?_
        obtain ⟨rfl, rfl, rfl⟩ := s_inj h11
        exact Kj11
    · replace hb := i_neg c4 hb
      refine e_k 1 (f' := (79, [(0, .ref 112), (1, .int p2), (2, .int p3)], [.int 0])) rfl ?_
      obtain ⟨rfl, rfl, rfl⟩ := s_inj hb
      exact e_r rfl rfl K
  · replace hb := i_neg c2 hb
    refine e_k 5 (f' := (if ¬ p3 = 7 then 21 else 17, [(0, .ref 112), (1, .int p2), (2, .int p3)], [.int p2, .ref 112])) rfl ?_
    obtain ⟨v27, h27, hb⟩ := p_nn hb
    have Kj27 : am_E (gG L xs) (d + 3) m_Model_joint (22, [(0, .ref 112), (1, .int p2), (2, .int p3)], [.int v27, .int p2, .ref 112]) (hX X I J) P := by
      refine e_k 1 (f' := (23, [(0, .ref 112), (1, .int p2), (2, .int p3)], [.long 0, .int v27, .int p2, .ref 112])) rfl ?_
      obtain ⟨v29, I29, J29, h29, hb⟩ := oc_call hb
      refine r_cv (z := m_Model_send) (As := [.int p2, .int v27, .long 0]) (rest := []) rfl rfl rfl rfl rfl (x_ltn rfl) rfl rfl (E_Model_send  h29 ⟨_, rfl, ?_⟩)
      refine e_k 1 (f' := (if ¬ v29 = 0 then 31 else 29, [(0, .ref 112), (1, .int p2), (2, .int p3)], [])) rfl ?_
      refine e_if (fun c30 => ?_) (fun c30 => ?_)
      · replace hb := i_pos c30 hb
        refine e_k 3 (f' := (if ¬ p3 = 7 then 50 else 37, [(0, .ref 112), (1, .int p2), (2, .int p3)], [])) rfl ?_
        obtain ⟨v35, I35, J35, h35, hb⟩ := oc_call hb
        have Kj35 : am_E (gG L xs) (d + 3) m_Model_joint (60, [(0, .ref 112), (1, .int p2)], []) (hX X I35 J35) P := by
          refine e_k 1 (f' := (61, [(0, .ref 112), (1, .int p2)], [.ref 112])) rfl ?_
          refine r_getr rfl (x_ltn rfl) rfl rfl ?_
          refine e_k 2 (f' := (66, [(0, .ref 112), (1, .int p2)], [.int 1, .int p2, .ref 128])) rfl ?_
          obtain ⟨o43, hb⟩ := ob_in hb
          obtain ⟨I44, eI44, hb⟩ := p_nm hb
          refine r_iast' rfl (x_ltn rfl) rfl o43 eI44 ?_
          refine e_k 1 (f' := (68, [(0, .ref 112), (1, .int p2)], [.int 1])) rfl ?_
          obtain ⟨rfl, rfl, rfl⟩ := s_inj hb
          exact e_r rfl rfl K
        clear hb
        refine e_if (fun c36 => ?_) (fun c36 => ?_)
        · replace h35 := i_pos c36 h35
          refine e_k 1 (f' := (51, [(0, .ref 112), (1, .int p2), (2, .int p3)], [.ref 112])) rfl ?_
          refine r_getr rfl (x_ltn rfl) rfl rfl ?_
          refine e_k 2 (f' := (56, [(0, .ref 112), (1, .int p2), (2, .int p3)], [.int p2, .ref 122, .int p2, .ref 122])) rfl ?_
          obtain ⟨o37, h35⟩ := ob_in h35
          refine r_iald rfl rfl (x_ltn rfl) rfl o37 ?_
          refine e_k 2 (f' := (59, [(0, .ref 112), (1, .int p2), (2, .int p3)], [.int ((I29 122 (Int32.toNatClampNeg p2)) + 1), .int p2, .ref 122])) rfl ?_
          obtain ⟨o38, h35⟩ := ob_in h35
          obtain ⟨I39, eI39, h35⟩ := p_nm h35
          refine r_iast' rfl (x_ltn rfl) rfl o38 eI39 ?_
          refine e_sub (ls := [(0, .ref 112), (1, .int p2)]) rfl ⟨rfl, rfl, trivial⟩ ?_
          obtain ⟨rfl, rfl, rfl⟩ := s_inj h35
          exact Kj35
        · replace h35 := i_neg c36 h35
          refine e_k 1 (f' := (38, [(0, .ref 112), (1, .int p2), (2, .int p3)], [.ref 112])) rfl ?_
          refine r_getr rfl (x_ltn rfl) rfl rfl ?_
          refine e_k 2 (f' := (43, [(0, .ref 112), (1, .int p2), (2, .int p3)], [.int p2, .ref 121, .int p2, .ref 121])) rfl ?_
          obtain ⟨o40, h35⟩ := ob_in h35
          refine r_iald rfl rfl (x_ltn rfl) rfl o40 ?_
          refine e_k 2 (f' := (46, [(0, .ref 112), (1, .int p2), (2, .int p3)], [.int ((I29 121 (Int32.toNatClampNeg p2)) + 1), .int p2, .ref 121])) rfl ?_
          obtain ⟨o41, h35⟩ := ob_in h35
          obtain ⟨I42, eI42, h35⟩ := p_nm h35
          refine r_iast' rfl (x_ltn rfl) rfl o41 eI42 ?_
          refine e_k 1 (f' := (60, [(0, .ref 112), (1, .int p2), (2, .int p3)], [])) rfl ?_
          refine e_sub (ls := [(0, .ref 112), (1, .int p2)]) rfl ⟨rfl, rfl, trivial⟩ ?_
          obtain ⟨rfl, rfl, rfl⟩ := s_inj h35
          exact Kj35
      · replace hb := i_neg c30 hb
        refine e_k 1 (f' := (30, [(0, .ref 112), (1, .int p2), (2, .int p3)], [.int 0])) rfl ?_
        obtain ⟨rfl, rfl, rfl⟩ := s_inj hb
        exact e_r rfl rfl K
    clear hb
    refine e_if (fun c28 => ?_) (fun c28 => ?_)
    · replace h27 := i_pos c28 h27
      refine e_k 1 (f' := (22, [(0, .ref 112), (1, .int p2), (2, .int p3)], [.int 3, .int p2, .ref 112])) rfl ?_
      refine e_sub (ls := [(0, .ref 112), (1, .int p2), (2, .int p3)]) rfl ⟨rfl, rfl, rfl, trivial⟩ ?_
      subst h27
      exact Kj27
    · replace h27 := i_neg c28 h27
      refine e_k 2 (f' := (22, [(0, .ref 112), (1, .int p2), (2, .int p3)], [.int 2, .int p2, .ref 112])) rfl ?_
      refine e_sub (ls := [(0, .ref 112), (1, .int p2), (2, .int p3)]) rfl ⟨rfl, rfl, rfl, trivial⟩ ?_
      subst h27
      exact Kj27
theorem E_Model_input {p2 : Int32} {p3 : Int32} {p4 : Int32} {X : MX} {I : MI} {J : MJ} {v : Int32} {I' : MI} {J' : MJ} (hb : f_Model_input p2 p3 p4 I J = some (v, I', J')) (K : P (.inl (some (.int v))) (hX X I' J')) : am_E (gG L xs) (d + 3) m_Model_input (0, lv_args 0 [.ref 112, .int p2, .int p3, .int p4], []) (hX X I J) P := by
  unfold f_Model_input at hb
  refine e_k 3 (f' := (if ¬ p2 = p4 then 70 else 5, [(0, .ref 112), (1, .int p2), (2, .int p3), (3, .int p4)], [])) rfl ?_
  refine e_if (fun c1 => ?_) (fun c1 => ?_)
  · replace hb := i_pos c1 hb
    refine e_k 3 (f' := (73, [(0, .ref 112), (1, .int p2), (2, .int p3), (3, .int p4)], [.int p4, .int p2, .ref 112])) rfl ?_
    obtain ⟨v2, I2, J2, h2, hb⟩ := oc_call hb
    refine r_cv (z := m_Model_receive) (As := [.int p2, .int p4]) (rest := []) rfl rfl rfl rfl rfl (x_ltn rfl) rfl rfl (E_Model_receive  h2 ⟨_, rfl, ?_⟩)
    refine e_k 1 (f' := (if ¬ v2 = 0 then 81 else 79, [(0, .ref 112), (1, .int p2), (2, .int p3), (3, .int p4)], [])) rfl ?_
    refine e_if (fun c3 => ?_) (fun c3 => ?_)
    · replace hb := i_pos c3 hb
      refine e_k 1 (f' := (82, [(0, .ref 112), (1, .int p2), (2, .int p3), (3, .int p4)], [.ref 112])) rfl ?_
      refine r_getr rfl (x_ltn rfl) rfl rfl ?_
      refine e_k 2 (f' := (87, [(0, .ref 112), (1, .int p2), (2, .int p3), (3, .int p4)], [.ref 112, .int p3, .ref 143])) rfl ?_
      refine r_getr rfl (x_ltn rfl) rfl rfl ?_
      refine e_k 1 (f' := (91, [(0, .ref 112), (1, .int p2), (2, .int p3), (3, .int p4)], [.ref 112, .ref 152, .int p3, .ref 143])) rfl ?_
      refine r_getr rfl (x_ltn rfl) rfl rfl ?_
      refine e_k 1 (f' := (95, [(0, .ref 112), (1, .int p2), (2, .int p3), (3, .int p4)], [.int p2, .ref 135, .ref 152, .int p3, .ref 143])) rfl ?_
      obtain ⟨o4, hb⟩ := ob_in hb
      refine r_iald rfl rfl (x_ltn rfl) rfl o4 ?_
      obtain ⟨o5, hb⟩ := ob_in hb
      refine r_lald rfl rfl (x_ltn rfl) rfl o5 ?_
      refine e_k 2 (f' := (99, [(0, .ref 112), (1, .int p2), (2, .int p3), (3, .int p4)], [.ref 112, .ref 112, .long (J2 152 (Int32.toNatClampNeg (I2 135 (Int32.toNatClampNeg p2)))), .int p3, .ref 143])) rfl ?_
      refine r_getr rfl (x_ltn rfl) rfl rfl ?_
      refine e_k 1 (f' := (103, [(0, .ref 112), (1, .int p2), (2, .int p3), (3, .int p4)], [.int p2, .ref 135, .ref 112, .long (J2 152 (Int32.toNatClampNeg (I2 135 (Int32.toNatClampNeg p2)))), .int p3, .ref 143])) rfl ?_
      obtain ⟨o6, hb⟩ := ob_in hb
      refine r_iald rfl rfl (x_ltn rfl) rfl o6 ?_
      refine e_k 1 (f' := (105, [(0, .ref 112), (1, .int p2), (2, .int p3), (3, .int p4)], [.int 0, .int (I2 135 (Int32.toNatClampNeg p2)), .ref 112, .long (J2 152 (Int32.toNatClampNeg (I2 135 (Int32.toNatClampNeg p2)))), .int p3, .ref 143])) rfl ?_
      obtain ⟨v7, I7, J7, h7, hb⟩ := oc_call hb
      refine r_cv (z := m_Model_error) (As := [.int (I2 135 (Int32.toNatClampNeg p2)), .int 0]) (rest := [.long (J2 152 (Int32.toNatClampNeg (I2 135 (Int32.toNatClampNeg p2)))), .int p3, .ref 143]) rfl rfl rfl rfl rfl (x_ltn rfl) rfl rfl (E_Model_error  h7 ⟨_, rfl, ?_⟩)
      obtain ⟨v8, I8, J8, h8, hb⟩ := oc_call hb
      refine r_cs (z := m_Model_plus) (As := [.long (J2 152 (Int32.toNatClampNeg (I2 135 (Int32.toNatClampNeg p2)))), .long v7]) (rest := [.int p3, .ref 143]) rfl rfl rfl rfl rfl rfl (E_Model_plus  h8 ⟨_, rfl, ?_⟩)
      obtain ⟨o9, hb⟩ := ob_in hb
      obtain ⟨J10, eJ10, hb⟩ := p_nm hb
      refine r_last' rfl (x_ltn rfl) rfl o9 eJ10 ?_
      refine e_k 2 (f' := (114, [(0, .ref 112), (1, .int p2), (2, .int p3), (3, .int p4)], [.int p2, .ref 112])) rfl ?_
      obtain ⟨v11, I11, J11, h11, hb⟩ := oc_call hb
      refine r_cv (z := m_Model_received) (As := [.int p2]) (rest := []) rfl rfl rfl rfl rfl (x_ltn rfl) rfl rfl (E_Model_received  h11 ⟨_, rfl, ?_⟩)
      refine e_k 1 (f' := (118, [(0, .ref 112), (1, .int p2), (2, .int p3), (3, .int p4)], [.int 1])) rfl ?_
      obtain ⟨rfl, rfl, rfl⟩ := s_inj hb
      exact e_r rfl rfl K
    · replace hb := i_neg c3 hb
      refine e_k 1 (f' := (80, [(0, .ref 112), (1, .int p2), (2, .int p3), (3, .int p4)], [.int 0])) rfl ?_
      obtain ⟨rfl, rfl, rfl⟩ := s_inj hb
      exact e_r rfl rfl K
  · replace hb := i_neg c1 hb
    refine e_k 1 (f' := (6, [(0, .ref 112), (1, .int p2), (2, .int p3), (3, .int p4)], [.ref 112])) rfl ?_
    refine r_getr rfl (x_ltn rfl) rfl rfl ?_
    refine e_k 1 (f' := (10, [(0, .ref 112), (1, .int p2), (2, .int p3), (3, .int p4)], [.int p2, .ref 128])) rfl ?_
    obtain ⟨o12, hb⟩ := ob_in hb
    refine r_iald rfl rfl (x_ltn rfl) rfl o12 ?_
    refine e_k 1 (f' := (if ¬ (I 128 (Int32.toNatClampNeg p2)) = 0 then 70 else 14, [(0, .ref 112), (1, .int p2), (2, .int p3), (3, .int p4)], [])) rfl ?_
    refine e_if (fun c13 => ?_) (fun c13 => ?_)
    · replace hb := i_pos c13 hb
      refine e_k 3 (f' := (73, [(0, .ref 112), (1, .int p2), (2, .int p3), (3, .int p4)], [.int p4, .int p2, .ref 112])) rfl ?_
      obtain ⟨v14, I14, J14, h14, hb⟩ := oc_call hb
      refine r_cv (z := m_Model_receive) (As := [.int p2, .int p4]) (rest := []) rfl rfl rfl rfl rfl (x_ltn rfl) rfl rfl (E_Model_receive  h14 ⟨_, rfl, ?_⟩)
      refine e_k 1 (f' := (if ¬ v14 = 0 then 81 else 79, [(0, .ref 112), (1, .int p2), (2, .int p3), (3, .int p4)], [])) rfl ?_
      refine e_if (fun c15 => ?_) (fun c15 => ?_)
      · replace hb := i_pos c15 hb
        refine e_k 1 (f' := (82, [(0, .ref 112), (1, .int p2), (2, .int p3), (3, .int p4)], [.ref 112])) rfl ?_
        refine r_getr rfl (x_ltn rfl) rfl rfl ?_
        refine e_k 2 (f' := (87, [(0, .ref 112), (1, .int p2), (2, .int p3), (3, .int p4)], [.ref 112, .int p3, .ref 143])) rfl ?_
        refine r_getr rfl (x_ltn rfl) rfl rfl ?_
        refine e_k 1 (f' := (91, [(0, .ref 112), (1, .int p2), (2, .int p3), (3, .int p4)], [.ref 112, .ref 152, .int p3, .ref 143])) rfl ?_
        refine r_getr rfl (x_ltn rfl) rfl rfl ?_
        refine e_k 1 (f' := (95, [(0, .ref 112), (1, .int p2), (2, .int p3), (3, .int p4)], [.int p2, .ref 135, .ref 152, .int p3, .ref 143])) rfl ?_
        obtain ⟨o16, hb⟩ := ob_in hb
        refine r_iald rfl rfl (x_ltn rfl) rfl o16 ?_
        obtain ⟨o17, hb⟩ := ob_in hb
        refine r_lald rfl rfl (x_ltn rfl) rfl o17 ?_
        refine e_k 2 (f' := (99, [(0, .ref 112), (1, .int p2), (2, .int p3), (3, .int p4)], [.ref 112, .ref 112, .long (J14 152 (Int32.toNatClampNeg (I14 135 (Int32.toNatClampNeg p2)))), .int p3, .ref 143])) rfl ?_
        refine r_getr rfl (x_ltn rfl) rfl rfl ?_
        refine e_k 1 (f' := (103, [(0, .ref 112), (1, .int p2), (2, .int p3), (3, .int p4)], [.int p2, .ref 135, .ref 112, .long (J14 152 (Int32.toNatClampNeg (I14 135 (Int32.toNatClampNeg p2)))), .int p3, .ref 143])) rfl ?_
        obtain ⟨o18, hb⟩ := ob_in hb
        refine r_iald rfl rfl (x_ltn rfl) rfl o18 ?_
        refine e_k 1 (f' := (105, [(0, .ref 112), (1, .int p2), (2, .int p3), (3, .int p4)], [.int 0, .int (I14 135 (Int32.toNatClampNeg p2)), .ref 112, .long (J14 152 (Int32.toNatClampNeg (I14 135 (Int32.toNatClampNeg p2)))), .int p3, .ref 143])) rfl ?_
        obtain ⟨v19, I19, J19, h19, hb⟩ := oc_call hb
        refine r_cv (z := m_Model_error) (As := [.int (I14 135 (Int32.toNatClampNeg p2)), .int 0]) (rest := [.long (J14 152 (Int32.toNatClampNeg (I14 135 (Int32.toNatClampNeg p2)))), .int p3, .ref 143]) rfl rfl rfl rfl rfl (x_ltn rfl) rfl rfl (E_Model_error  h19 ⟨_, rfl, ?_⟩)
        obtain ⟨v20, I20, J20, h20, hb⟩ := oc_call hb
        refine r_cs (z := m_Model_plus) (As := [.long (J14 152 (Int32.toNatClampNeg (I14 135 (Int32.toNatClampNeg p2)))), .long v19]) (rest := [.int p3, .ref 143]) rfl rfl rfl rfl rfl rfl (E_Model_plus  h20 ⟨_, rfl, ?_⟩)
        obtain ⟨o21, hb⟩ := ob_in hb
        obtain ⟨J22, eJ22, hb⟩ := p_nm hb
        refine r_last' rfl (x_ltn rfl) rfl o21 eJ22 ?_
        refine e_k 2 (f' := (114, [(0, .ref 112), (1, .int p2), (2, .int p3), (3, .int p4)], [.int p2, .ref 112])) rfl ?_
        obtain ⟨v23, I23, J23, h23, hb⟩ := oc_call hb
        refine r_cv (z := m_Model_received) (As := [.int p2]) (rest := []) rfl rfl rfl rfl rfl (x_ltn rfl) rfl rfl (E_Model_received  h23 ⟨_, rfl, ?_⟩)
        refine e_k 1 (f' := (118, [(0, .ref 112), (1, .int p2), (2, .int p3), (3, .int p4)], [.int 1])) rfl ?_
        obtain ⟨rfl, rfl, rfl⟩ := s_inj hb
        exact e_r rfl rfl K
      · replace hb := i_neg c15 hb
        refine e_k 1 (f' := (80, [(0, .ref 112), (1, .int p2), (2, .int p3), (3, .int p4)], [.int 0])) rfl ?_
        obtain ⟨rfl, rfl, rfl⟩ := s_inj hb
        exact e_r rfl rfl K
    · replace hb := i_neg c13 hb
      refine e_k 4 (f' := (18, [(0, .ref 112), (1, .int p2), (2, .int p3), (3, .int p4)], [.ref 112, .int 1, .int p2, .ref 112])) rfl ?_
      refine r_getr rfl (x_ltn rfl) rfl rfl ?_
      refine e_k 4 (f' := (26, [(0, .ref 112), (1, .int p2), (2, .int p3), (3, .int p4)], [.ref 112, .int (100 * p2), .ref 124, .int 1, .int p2, .ref 112])) rfl ?_
      refine r_getr rfl (x_ltn rfl) rfl rfl ?_
      refine e_k 1 (f' := (30, [(0, .ref 112), (1, .int p2), (2, .int p3), (3, .int p4)], [.int p2, .ref 126, .int (100 * p2), .ref 124, .int 1, .int p2, .ref 112])) rfl ?_
      obtain ⟨o24, hb⟩ := ob_in hb
      refine r_iald rfl rfl (x_ltn rfl) rfl o24 ?_
      refine e_k 1 (f' := (32, [(0, .ref 112), (1, .int p2), (2, .int p3), (3, .int p4)], [.int ((100 * p2) + (I 126 (Int32.toNatClampNeg p2))), .ref 124, .int 1, .int p2, .ref 112])) rfl ?_
      obtain ⟨o25, hb⟩ := ob_in hb
      refine r_lald rfl rfl (x_ltn rfl) rfl o25 ?_
      obtain ⟨v26, I26, J26, h26, hb⟩ := oc_call hb
      refine r_cv (z := m_Model_send) (As := [.int p2, .int 1, .long (J 124 (Int32.toNatClampNeg ((100 * p2) + (I 126 (Int32.toNatClampNeg p2)))))]) (rest := []) rfl rfl rfl rfl rfl (x_ltn rfl) rfl rfl (E_Model_send  h26 ⟨_, rfl, ?_⟩)
      refine e_k 1 (f' := (if ¬ v26 = 0 then 41 else 39, [(0, .ref 112), (1, .int p2), (2, .int p3), (3, .int p4)], [])) rfl ?_
      refine e_if (fun c27 => ?_) (fun c27 => ?_)
      · replace hb := i_pos c27 hb
        refine e_k 1 (f' := (42, [(0, .ref 112), (1, .int p2), (2, .int p3), (3, .int p4)], [.ref 112])) rfl ?_
        refine r_getr rfl (x_ltn rfl) rfl rfl ?_
        refine e_k 2 (f' := (47, [(0, .ref 112), (1, .int p2), (2, .int p3), (3, .int p4)], [.int p2, .ref 126, .int p2, .ref 126])) rfl ?_
        obtain ⟨o28, hb⟩ := ob_in hb
        refine r_iald rfl rfl (x_ltn rfl) rfl o28 ?_
        refine e_k 2 (f' := (50, [(0, .ref 112), (1, .int p2), (2, .int p3), (3, .int p4)], [.int ((I26 126 (Int32.toNatClampNeg p2)) + 1), .int p2, .ref 126])) rfl ?_
        obtain ⟨o29, hb⟩ := ob_in hb
        obtain ⟨I30, eI30, hb⟩ := p_nm hb
        refine r_iast' rfl (x_ltn rfl) rfl o29 eI30 ?_
        refine e_k 1 (f' := (52, [(0, .ref 112), (1, .int p2), (2, .int p3), (3, .int p4)], [.ref 112])) rfl ?_
        refine r_getr rfl (x_ltn rfl) rfl rfl ?_
        refine e_k 2 (f' := (57, [(0, .ref 112), (1, .int p2), (2, .int p3), (3, .int p4)], [.int p2, .ref 119, .int p2, .ref 119])) rfl ?_
        obtain ⟨o31, hb⟩ := ob_in hb
        refine r_iald rfl rfl (x_ltn rfl) rfl o31 ?_
        refine e_k 2 (f' := (60, [(0, .ref 112), (1, .int p2), (2, .int p3), (3, .int p4)], [.int ((I30 119 (Int32.toNatClampNeg p2)) - 1), .int p2, .ref 119])) rfl ?_
        obtain ⟨o32, hb⟩ := ob_in hb
        obtain ⟨I33, eI33, hb⟩ := p_nm hb
        refine r_iast' rfl (x_ltn rfl) rfl o32 eI33 ?_
        refine e_k 1 (f' := (62, [(0, .ref 112), (1, .int p2), (2, .int p3), (3, .int p4)], [.ref 112])) rfl ?_
        refine r_getr rfl (x_ltn rfl) rfl rfl ?_
        refine e_k 2 (f' := (67, [(0, .ref 112), (1, .int p2), (2, .int p3), (3, .int p4)], [.int 1, .int p2, .ref 128])) rfl ?_
        obtain ⟨o34, hb⟩ := ob_in hb
        obtain ⟨I35, eI35, hb⟩ := p_nm hb
        refine r_iast' rfl (x_ltn rfl) rfl o34 eI35 ?_
        refine e_k 1 (f' := (69, [(0, .ref 112), (1, .int p2), (2, .int p3), (3, .int p4)], [.int 1])) rfl ?_
        obtain ⟨rfl, rfl, rfl⟩ := s_inj hb
        exact e_r rfl rfl K
      · replace hb := i_neg c27 hb
        refine e_k 1 (f' := (40, [(0, .ref 112), (1, .int p2), (2, .int p3), (3, .int p4)], [.int 0])) rfl ?_
        obtain ⟨rfl, rfl, rfl⟩ := s_inj hb
        exact e_r rfl rfl K
end AUTO
