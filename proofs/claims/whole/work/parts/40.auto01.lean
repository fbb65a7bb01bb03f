section AUTO
variable {L : Nat} {xs : Nat → Int32} {d : Nat} {P : am_R → am_H → Prop}
theorem E_Model_drawn {p2 : Int64} {p3 : Int32} {X : MX} {I : MI} {J : MJ} {v : Int64} {I' : MI} {J' : MJ} (hb : f_Model_drawn p2 p3 I J = some (v, I', J')) (K : P (.inl (some (.long v))) (hX X I' J')) : am_E (gG L xs) (d + 2) m_Model_drawn (0, lv_args 0 [.ref 112, .long p2, .int p3], []) (hX X I J) P := by
  unfold f_Model_drawn at hb
  refine e_k 4 (f' := (4, [(0, .ref 112), (1, .long p2), (3, .int p3)], [.long (Int32.toInt64 p3), .long p2, .ref 112])) rfl ?_
  obtain ⟨v1, I1, J1, h1, hb⟩ := oc_call hb
  refine r_cv (z := m_Model_digestOf) (As := [.long p2, .long (Int32.toInt64 p3)]) (rest := []) rfl rfl rfl rfl rfl (x_ltn rfl) rfl rfl (E_Model_digestOf  h1 ⟨_, rfl, ?_⟩)
  refine e_k 1 (f' := (8, [(0, .ref 112), (1, .long p2), (3, .int p3)], [.ref 112])) rfl ?_
  refine r_getr rfl (x_ltn rfl) rfl rfl ?_
  refine e_k 1 (f' := (12, [(0, .ref 112), (1, .long p2), (3, .int p3)], [.int 0, .ref 161])) rfl ?_
  obtain ⟨o2, hb⟩ := ob_in hb
  refine r_iald rfl rfl (x_ltn rfl) rfl o2 ?_
  refine e_k 4 (f' := (18, [(0, .ref 112), (1, .long p2), (3, .int p3)], [.ref 112, .long ((Int32.toInt64 (I1 161 (Int32.toNatClampNeg 0))) <<< ((Int32.toInt64 32) &&& 63))])) rfl ?_
  refine r_getr rfl (x_ltn rfl) rfl rfl ?_
  refine e_k 1 (f' := (22, [(0, .ref 112), (1, .long p2), (3, .int p3)], [.int 1, .ref 161, .long ((Int32.toInt64 (I1 161 (Int32.toNatClampNeg 0))) <<< ((Int32.toInt64 32) &&& 63))])) rfl ?_
  obtain ⟨o3, hb⟩ := ob_in hb
  refine r_iald rfl rfl (x_ltn rfl) rfl o3 ?_
  refine e_k 6 (f' := (31, [(0, .ref 112), (1, .long p2), (3, .int p3)], [.long ((Int64.toUInt64 (((Int32.toInt64 (I1 161 (Int32.toNatClampNeg 0))) <<< ((Int32.toInt64 32) &&& 63)) ||| ((Int32.toInt64 (I1 161 (Int32.toNatClampNeg 1))) &&& 4294967295)) >>> (Int64.toUInt64 (Int32.toInt64 3) &&& Int64.toUInt64 63)).toInt64)])) rfl ?_
  obtain ⟨v4, I4, J4, h4, hb⟩ := oc_call hb
  refine r_cs (z := m_Model_reduced) (As := [.long ((Int64.toUInt64 (((Int32.toInt64 (I1 161 (Int32.toNatClampNeg 0))) <<< ((Int32.toInt64 32) &&& 63)) ||| ((Int32.toInt64 (I1 161 (Int32.toNatClampNeg 1))) &&& 4294967295)) >>> (Int64.toUInt64 (Int32.toInt64 3) &&& Int64.toUInt64 63)).toInt64)]) (rest := []) rfl rfl rfl rfl rfl rfl (E_Model_reduced  h4 ⟨_, rfl, ?_⟩)
  obtain ⟨rfl, rfl, rfl⟩ := s_inj hb
  exact e_r rfl rfl K
theorem E_Model_takeOwn {p2 : Int32} {X : MX} {I : MI} {J : MJ} {v : Int64} {I' : MI} {J' : MJ} (hb : f_Model_takeOwn p2 I J = some (v, I', J')) (K : P (.inl (some (.long v))) (hX X I' J')) : am_E (gG L xs) (d + 3) m_Model_takeOwn (0, lv_args 0 [.ref 112, .int p2], []) (hX X I J) P := by
  unfold f_Model_takeOwn at hb
  refine e_k 1 (f' := (1, [(0, .ref 112), (1, .int p2)], [.ref 112])) rfl ?_
  refine r_getr rfl (x_ltn rfl) rfl rfl ?_
  refine e_k 2 (f' := (6, [(0, .ref 112), (1, .int p2)], [.int p2, .ref 118, .int p2, .ref 118])) rfl ?_
  obtain ⟨o1, hb⟩ := ob_in hb
  refine r_iald rfl rfl (x_ltn rfl) rfl o1 ?_
  refine e_k 2 (f' := (9, [(0, .ref 112), (1, .int p2)], [.int ((I 118 (Int32.toNatClampNeg p2)) + 1), .int p2, .ref 118])) rfl ?_
  obtain ⟨o2, hb⟩ := ob_in hb
  obtain ⟨I3, eI3, hb⟩ := p_nm hb
  refine r_iast' rfl (x_ltn rfl) rfl o2 eI3 ?_
  refine e_k 2 (f' := (12, [(0, .ref 112), (1, .int p2)], [.ref 112, .ref 112])) rfl ?_
  refine r_getr rfl (x_ltn rfl) rfl rfl ?_
  refine e_k 1 (f' := (16, [(0, .ref 112), (1, .int p2)], [.int p2, .ref 117, .ref 112])) rfl ?_
  obtain ⟨o4, hb⟩ := ob_in hb
  refine r_lald rfl rfl (x_ltn rfl) rfl o4 ?_
  refine e_k 1 (f' := (18, [(0, .ref 112), (1, .int p2)], [.ref 112, .long (J 117 (Int32.toNatClampNeg p2)), .ref 112])) rfl ?_
  refine r_getr rfl (x_ltn rfl) rfl rfl ?_
  refine e_k 1 (f' := (22, [(0, .ref 112), (1, .int p2)], [.int p2, .ref 118, .long (J 117 (Int32.toNatClampNeg p2)), .ref 112])) rfl ?_
  obtain ⟨o5, hb⟩ := ob_in hb
  refine r_iald rfl rfl (x_ltn rfl) rfl o5 ?_
  refine e_k 2 (f' := (25, [(0, .ref 112), (1, .int p2)], [.int ((I3 118 (Int32.toNatClampNeg p2)) - 1), .long (J 117 (Int32.toNatClampNeg p2)), .ref 112])) rfl ?_
  obtain ⟨v6, I6, J6, h6, hb⟩ := oc_call hb
  refine r_cv (z := m_Model_drawn) (As := [.long (J 117 (Int32.toNatClampNeg p2)), .int ((I3 118 (Int32.toNatClampNeg p2)) - 1)]) (rest := []) rfl rfl rfl rfl rfl (x_ltn rfl) rfl rfl (E_Model_drawn  h6 ⟨_, rfl, ?_⟩)
  obtain ⟨rfl, rfl, rfl⟩ := s_inj hb
  exact e_r rfl rfl K
theorem E_Model_type_33 {X : MX} {p2 : Int64} {p3 : Int32} : ∀ (fu : Nat) {l1 : Int64} {l3 : Int32} {l4 : Int32} {I : MI} {J : MJ} {r : (Int32 ⊕ (Unit))} {I' : MI} {J' : MJ}, f_Model_type_33 p2 p3 fu l1 l3 l4 I J = some (r, I', J') → (∀ v, r = .inl v → P (.inl (some (.int v))) (hX X I' J')) → (∀ u, r = .inr u → am_E (gG L xs) d m_Model_type (75, [(0, .ref 112), (1, .long l1), (3, .int l3)], []) (hX X I' J') P) → am_E (gG L xs) d m_Model_type (33, [(0, .ref 112), (1, .long l1), (3, .int l3), (4, .int l4)], []) (hX X I J) P := by
  intro fu
  induction fu with
  | zero =>
    intros
    rename_i hb _ _
    cases hb
  | succ fu ih =>
    intro l1 l3 l4 I J r I' J' hb K1 K2
    unfold f_Model_type_33 at hb
    refine e_k 3 (f' := (if l3 ≤ l4 then 75 else 39, [(0, .ref 112), (1, .long l1), (3, .int l3), (4, .int l4)], [])) rfl ?_
    refine e_if (fun c5 => ?_) (fun c5 => ?_)
    · replace hb := i_pos c5 hb
      refine e_sub (ls := [(0, .ref 112), (1, .long l1), (3, .int l3)]) rfl ⟨rfl, rfl, rfl, trivial⟩ ?_
      obtain ⟨rfl, rfl, rfl⟩ := s_inj hb
      exact K2 _ rfl
    · replace hb := i_neg c5 hb
      refine e_k 9 (f' := (53, [(5, .int (Int64.toInt32 ((l1 >>> ((Int32.toInt64 (8 * l4)) &&& 63)) &&& 255))), (0, .ref 112), (1, .long l1), (3, .int l3), (4, .int l4)], [])) rfl ?_
      obtain ⟨x6, ex6, hb⟩ := p_nm hb
      rw [← ex6]
      refine e_k 3 (f' := (if x6 < 32 then 67 else 60, [(5, .int x6), (0, .ref 112), (1, .long l1), (3, .int l3), (4, .int l4)], [])) rfl ?_
      refine e_if (fun c7 => ?_) (fun c7 => ?_)
      · replace hb := i_pos c7 hb
        refine e_k 1 (f' := (68, [(5, .int x6), (0, .ref 112), (1, .long l1), (3, .int l3), (4, .int l4)], [.int 0])) rfl ?_
        obtain ⟨rfl, rfl, rfl⟩ := s_inj hb
        exact e_r rfl rfl (K1 _ rfl)
      · replace hb := i_neg c7 hb
        refine e_k 3 (f' := (if x6 ≤ 126 then 69 else 67, [(5, .int x6), (0, .ref 112), (1, .long l1), (3, .int l3), (4, .int l4)], [])) rfl ?_
        refine e_if (fun c8 => ?_) (fun c8 => ?_)
        · replace hb := i_pos c8 hb
          refine e_k 2 (f' := (33, [(4, .int (l4 + 1)), (5, .int x6), (0, .ref 112), (1, .long l1), (3, .int l3)], [])) rfl ?_
          refine e_sub (ls := [(0, .ref 112), (1, .long l1), (3, .int l3), (4, .int (l4 + 1))]) rfl ⟨rfl, rfl, rfl, rfl, trivial⟩ ?_
          exact ih  hb K1 K2
        · replace hb := i_neg c8 hb
          refine e_k 1 (f' := (68, [(5, .int x6), (0, .ref 112), (1, .long l1), (3, .int l3), (4, .int l4)], [.int 0])) rfl ?_
          obtain ⟨rfl, rfl, rfl⟩ := s_inj hb
          exact e_r rfl rfl (K1 _ rfl)
theorem E_Model_type_80 {X : MX} {p2 : Int64} {p3 : Int32} : ∀ (fu : Nat) {l1 : Int64} {l4 : Int32} {I : MI} {J : MJ} {r : (Unit)} {I' : MI} {J' : MJ}, f_Model_type_80 p2 p3 fu l1 l4 I J = some (r, I', J') → am_E (gG L xs) d m_Model_type (122, [], []) (hX X I' J') P → am_E (gG L xs) d m_Model_type (80, [(0, .ref 112), (1, .long l1), (4, .int l4)], []) (hX X I J) P := by
  intro fu
  induction fu with
  | zero =>
    intros
    rename_i hb _
    cases hb
  | succ fu ih =>
    intro l1 l4 I J r I' J' hb K
    unfold f_Model_type_80 at hb
    refine e_k 2 (f' := (if l4 < 0 then 122 else 85, [(0, .ref 112), (1, .long l1), (4, .int l4)], [])) rfl ?_
    refine e_if (fun c11 => ?_) (fun c11 => ?_)
    · replace hb := i_pos c11 hb
      refine e_sub (ls := []) rfl ⟨⟩ ?_
      obtain ⟨rfl, rfl, rfl⟩ := s_inj hb
      exact K
    · replace hb := i_neg c11 hb
      refine e_k 1 (f' := (86, [(0, .ref 112), (1, .long l1), (4, .int l4)], [.ref 112])) rfl ?_
      refine r_getr rfl (x_ltn rfl) rfl rfl ?_
      refine e_k 1 (f' := (90, [(0, .ref 112), (1, .long l1), (4, .int l4)], [.ref 112, .ref 113])) rfl ?_
      refine r_geti rfl (x_ltn rfl) rfl rfl ?_
      refine e_k 8 (f' := (105, [(0, .ref 112), (1, .long l1), (4, .int l4)], [.int (Int64.toInt32 ((l1 >>> ((Int32.toInt64 (8 * l4)) &&& 63)) &&& 255)), .int (I 112 2), .ref 113])) rfl ?_
      obtain ⟨o12, hb⟩ := ob_in hb
      obtain ⟨I13, eI13, hb⟩ := p_nm hb
      refine r_iast' rfl (x_ltn rfl) rfl o12 eI13 ?_
      refine e_k 2 (f' := (108, [(0, .ref 112), (1, .long l1), (4, .int l4)], [.ref 112, .ref 112])) rfl ?_
      refine r_geti rfl (x_ltn rfl) rfl rfl ?_
      refine e_k 2 (f' := (113, [(0, .ref 112), (1, .long l1), (4, .int l4)], [.int ((I13 112 2) + 1), .ref 112])) rfl ?_
      obtain ⟨I14, eI14, hb⟩ := p_nm hb
      refine r_puti' rfl (x_ltn rfl) rfl rfl eI14 ?_
      refine e_k 2 (f' := (80, [(4, .int (l4 + (-1))), (0, .ref 112), (1, .long l1)], [])) rfl ?_
      refine e_sub (ls := [(0, .ref 112), (1, .long l1), (4, .int (l4 + (-1)))]) rfl ⟨rfl, rfl, rfl, trivial⟩ ?_
      exact ih  hb K
theorem E_Model_type {p2 : Int64} {p3 : Int32} {X : MX} {I : MI} {J : MJ} {v : Int32} {I' : MI} {J' : MJ} (hb : f_Model_type p2 p3 I J = some (v, I', J')) (K : P (.inl (some (.int v))) (hX X I' J')) : am_E (gG L xs) d m_Model_type (0, lv_args 0 [.ref 112, .long p2, .int p3], []) (hX X I J) P := by
  unfold f_Model_type at hb
  refine e_k 2 (f' := (2, [(0, .ref 112), (1, .long p2), (3, .int p3)], [.int 0, .ref 112])) rfl ?_
  obtain ⟨I1, eI1, hb⟩ := p_nm hb
  refine r_puti' rfl (x_ltn rfl) rfl rfl eI1 ?_
  refine e_k 3 (f' := (if p3 < 1 then 28 else 10, [(0, .ref 112), (1, .long p2), (3, .int p3)], [])) rfl ?_
  refine e_if (fun c2 => ?_) (fun c2 => ?_)
  · replace hb := i_pos c2 hb
    refine e_k 1 (f' := (29, [(0, .ref 112), (1, .long p2), (3, .int p3)], [.int 0])) rfl ?_
    obtain ⟨rfl, rfl, rfl⟩ := s_inj hb
    exact e_r rfl rfl K
  · replace hb := i_neg c2 hb
    refine e_k 3 (f' := (if 8 < p3 then 28 else 16, [(0, .ref 112), (1, .long p2), (3, .int p3)], [])) rfl ?_
    refine e_if (fun c3 => ?_) (fun c3 => ?_)
    · replace hb := i_pos c3 hb
      refine e_k 1 (f' := (29, [(0, .ref 112), (1, .long p2), (3, .int p3)], [.int 0])) rfl ?_
      obtain ⟨rfl, rfl, rfl⟩ := s_inj hb
      exact e_r rfl rfl K
    · replace hb := i_neg c3 hb
      refine e_k 1 (f' := (17, [(0, .ref 112), (1, .long p2), (3, .int p3)], [.ref 112])) rfl ?_
      refine r_geti rfl (x_ltn rfl) rfl rfl ?_
      refine e_k 4 (f' := (if ((I1 112 2) + p3) ≤ 400 then 30 else 28, [(0, .ref 112), (1, .long p2), (3, .int p3)], [])) rfl ?_
      refine e_if (fun c4 => ?_) (fun c4 => ?_)
      · replace hb := i_pos c4 hb
        refine e_k 2 (f' := (33, [(4, .int 0), (0, .ref 112), (1, .long p2), (3, .int p3)], [])) rfl ?_
        refine e_sub (ls := [(0, .ref 112), (1, .long p2), (3, .int p3), (4, .int 0)]) rfl ⟨rfl, rfl, rfl, rfl, trivial⟩ ?_
        obtain ⟨q9, I9, J9, h9, hb⟩ := oc_call hb
        refine E_Model_type_33  gF  h9 (fun y9 ey9 => ?_) (fun u9 ey9 => ?_)
        · subst ey9
          replace hb := oe_l hb
          obtain ⟨rfl, rfl, rfl⟩ := s_inj hb
          exact K
        · subst ey9
          replace hb := oe_r hb
          refine e_k 4 (f' := (80, [(4, .int (p3 - 1)), (0, .ref 112), (1, .long p2), (3, .int p3)], [])) rfl ?_
          obtain ⟨x10, ex10, hb⟩ := p_nm hb
          rw [← ex10]
          refine e_sub (ls := [(0, .ref 112), (1, .long p2), (4, .int x10)]) rfl ⟨rfl, rfl, rfl, trivial⟩ ?_
          obtain ⟨u15, I15, J15, h15, hb⟩ := oc_call hb
          refine E_Model_type_80  gF  h15 ?_
          refine e_k 1 (f' := (123, [], [.int 1])) rfl ?_
          obtain ⟨rfl, rfl, rfl⟩ := s_inj hb
          exact e_r rfl rfl K
      · replace hb := i_neg c4 hb
        refine e_k 1 (f' := (29, [(0, .ref 112), (1, .long p2), (3, .int p3)], [.int 0])) rfl ?_
        obtain ⟨rfl, rfl, rfl⟩ := s_inj hb
        exact e_r rfl rfl K
theorem E_Model_put_35 {X : MX} {p2 : Int64} {p3 : Int32} : ∀ (fu : Nat) {l1 : Int64} {l4 : Int32} {I : MI} {J : MJ} {r : (Unit)} {I' : MI} {J' : MJ}, f_Model_put_35 p2 p3 fu l1 l4 I J = some (r, I', J') → am_E (gG L xs) d m_Model_put (77, [], []) (hX X I' J') P → am_E (gG L xs) d m_Model_put (35, [(0, .ref 112), (1, .long l1), (4, .int l4)], []) (hX X I J) P := by
  intro fu
  induction fu with
  | zero =>
    intros
    rename_i hb _
    cases hb
  | succ fu ih =>
    intro l1 l4 I J r I' J' hb K
    unfold f_Model_put_35 at hb
    refine e_k 2 (f' := (if l4 < 0 then 77 else 40, [(0, .ref 112), (1, .long l1), (4, .int l4)], [])) rfl ?_
    refine e_if (fun c6 => ?_) (fun c6 => ?_)
    · replace hb := i_pos c6 hb
      refine e_sub (ls := []) rfl ⟨⟩ ?_
      obtain ⟨rfl, rfl, rfl⟩ := s_inj hb
      exact K
    · replace hb := i_neg c6 hb
      refine e_k 1 (f' := (41, [(0, .ref 112), (1, .long l1), (4, .int l4)], [.ref 112])) rfl ?_
      refine r_getr rfl (x_ltn rfl) rfl rfl ?_
      refine e_k 1 (f' := (45, [(0, .ref 112), (1, .long l1), (4, .int l4)], [.ref 112, .ref 116])) rfl ?_
      refine r_geti rfl (x_ltn rfl) rfl rfl ?_
      refine e_k 8 (f' := (60, [(0, .ref 112), (1, .long l1), (4, .int l4)], [.int (Int64.toInt32 ((l1 >>> ((Int32.toInt64 (8 * l4)) &&& 63)) &&& 255)), .int (I 112 12), .ref 116])) rfl ?_
      obtain ⟨o7, hb⟩ := ob_in hb
      obtain ⟨I8, eI8, hb⟩ := p_nm hb
      refine r_iast' rfl (x_ltn rfl) rfl o7 eI8 ?_
      refine e_k 2 (f' := (63, [(0, .ref 112), (1, .long l1), (4, .int l4)], [.ref 112, .ref 112])) rfl ?_
      refine r_geti rfl (x_ltn rfl) rfl rfl ?_
      refine e_k 2 (f' := (68, [(0, .ref 112), (1, .long l1), (4, .int l4)], [.int ((I8 112 12) + 1), .ref 112])) rfl ?_
      obtain ⟨I9, eI9, hb⟩ := p_nm hb
      refine r_puti' rfl (x_ltn rfl) rfl rfl eI9 ?_
      refine e_k 2 (f' := (35, [(4, .int (l4 + (-1))), (0, .ref 112), (1, .long l1)], [])) rfl ?_
      refine e_sub (ls := [(0, .ref 112), (1, .long l1), (4, .int (l4 + (-1)))]) rfl ⟨rfl, rfl, rfl, trivial⟩ ?_
      exact ih  hb K
theorem E_Model_put {p2 : Int64} {p3 : Int32} {X : MX} {I : MI} {J : MJ} {v : Int32} {I' : MI} {J' : MJ} (hb : f_Model_put p2 p3 I J = some (v, I', J')) (K : P (.inl (some (.int v))) (hX X I' J')) : am_E (gG L xs) d m_Model_put (0, lv_args 0 [.ref 112, .long p2, .int p3], []) (hX X I J) P := by
  unfold f_Model_put at hb
  refine e_k 2 (f' := (2, [(0, .ref 112), (1, .long p2), (3, .int p3)], [.int 0, .ref 112])) rfl ?_
  obtain ⟨I1, eI1, hb⟩ := p_nm hb
  refine r_puti' rfl (x_ltn rfl) rfl rfl eI1 ?_
  refine e_k 3 (f' := (if p3 < 1 then 28 else 10, [(0, .ref 112), (1, .long p2), (3, .int p3)], [])) rfl ?_
  refine e_if (fun c2 => ?_) (fun c2 => ?_)
  · replace hb := i_pos c2 hb
    refine e_k 1 (f' := (29, [(0, .ref 112), (1, .long p2), (3, .int p3)], [.int 0])) rfl ?_
    obtain ⟨rfl, rfl, rfl⟩ := s_inj hb
    exact e_r rfl rfl K
  · replace hb := i_neg c2 hb
    refine e_k 3 (f' := (if 8 < p3 then 28 else 16, [(0, .ref 112), (1, .long p2), (3, .int p3)], [])) rfl ?_
    refine e_if (fun c3 => ?_) (fun c3 => ?_)
    · replace hb := i_pos c3 hb
      refine e_k 1 (f' := (29, [(0, .ref 112), (1, .long p2), (3, .int p3)], [.int 0])) rfl ?_
      obtain ⟨rfl, rfl, rfl⟩ := s_inj hb
      exact e_r rfl rfl K
    · replace hb := i_neg c3 hb
      refine e_k 1 (f' := (17, [(0, .ref 112), (1, .long p2), (3, .int p3)], [.ref 112])) rfl ?_
      refine r_geti rfl (x_ltn rfl) rfl rfl ?_
      refine e_k 4 (f' := (if ((I1 112 12) + p3) ≤ 2000 then 30 else 28, [(0, .ref 112), (1, .long p2), (3, .int p3)], [])) rfl ?_
      refine e_if (fun c4 => ?_) (fun c4 => ?_)
      · replace hb := i_pos c4 hb
        refine e_k 4 (f' := (35, [(4, .int (p3 - 1)), (0, .ref 112), (1, .long p2), (3, .int p3)], [])) rfl ?_
        obtain ⟨x5, ex5, hb⟩ := p_nm hb
        rw [← ex5]
        refine e_sub (ls := [(0, .ref 112), (1, .long p2), (4, .int x5)]) rfl ⟨rfl, rfl, rfl, trivial⟩ ?_
        obtain ⟨u10, I10, J10, h10, hb⟩ := oc_call hb
        refine E_Model_put_35  gF  h10 ?_
        refine e_k 1 (f' := (78, [], [.int 1])) rfl ?_
        obtain ⟨rfl, rfl, rfl⟩ := s_inj hb
        exact e_r rfl rfl K
      · replace hb := i_neg c4 hb
        refine e_k 1 (f' := (29, [(0, .ref 112), (1, .long p2), (3, .int p3)], [.int 0])) rfl ?_
        obtain ⟨rfl, rfl, rfl⟩ := s_inj hb
        exact e_r rfl rfl K
theorem E_Model_see_0 {X : MX} : ∀ (fu : Nat) {I : MI} {J : MJ} {r : (Unit)} {I' : MI} {J' : MJ}, f_Model_see_0  fu  I J = some (r, I', J') → am_E (gG L xs) d m_Model_see (38, [(0, .ref 112)], []) (hX X I' J') P → am_E (gG L xs) d m_Model_see (0, [(0, .ref 112)], []) (hX X I J) P := by
  intro fu
  induction fu with
  | zero =>
    intros
    rename_i hb _
    cases hb
  | succ fu ih =>
    intro I J r I' J' hb K
    unfold f_Model_see_0 at hb
    refine e_k 1 (f' := (1, [(0, .ref 112)], [.ref 112])) rfl ?_
    refine r_geti rfl (x_ltn rfl) rfl rfl ?_
    refine e_k 1 (f' := (5, [(0, .ref 112)], [.ref 112, .int (I 112 5)])) rfl ?_
    refine r_geti rfl (x_ltn rfl) rfl rfl ?_
    refine e_k 1 (f' := (if (I 112 2) ≤ (I 112 5) then 38 else 11, [(0, .ref 112)], [])) rfl ?_
    refine e_if (fun c1 => ?_) (fun c1 => ?_)
    · replace hb := i_pos c1 hb
      refine e_sub (ls := [(0, .ref 112)]) rfl ⟨rfl, trivial⟩ ?_
      obtain ⟨rfl, rfl, rfl⟩ := s_inj hb
      exact K
    · replace hb := i_neg c1 hb
      refine e_k 1 (f' := (12, [(0, .ref 112)], [.ref 112])) rfl ?_
      refine r_getr rfl (x_ltn rfl) rfl rfl ?_
      refine e_k 1 (f' := (16, [(0, .ref 112)], [.ref 112, .ref 113])) rfl ?_
      refine r_geti rfl (x_ltn rfl) rfl rfl ?_
      obtain ⟨o2, hb⟩ := ob_in hb
      refine r_iald rfl rfl (x_ltn rfl) rfl o2 ?_
      refine e_k 2 (f' := (if ¬ (I 113 (Int32.toNatClampNeg (I 112 5))) = 32 then 38 else 25, [(0, .ref 112)], [])) rfl ?_
      refine e_if (fun c3 => ?_) (fun c3 => ?_)
      · replace hb := i_pos c3 hb
        refine e_sub (ls := [(0, .ref 112)]) rfl ⟨rfl, trivial⟩ ?_
        obtain ⟨rfl, rfl, rfl⟩ := s_inj hb
        exact K
      · replace hb := i_neg c3 hb
        refine e_k 2 (f' := (27, [(0, .ref 112)], [.ref 112, .ref 112])) rfl ?_
        refine r_geti rfl (x_ltn rfl) rfl rfl ?_
        refine e_k 2 (f' := (32, [(0, .ref 112)], [.int ((I 112 5) + 1), .ref 112])) rfl ?_
        obtain ⟨I4, eI4, hb⟩ := p_nm hb
        refine r_puti' rfl (x_ltn rfl) rfl rfl eI4 ?_
        refine e_k 1 (f' := (0, [(0, .ref 112)], [])) rfl ?_
        refine e_sub (ls := [(0, .ref 112)]) rfl ⟨rfl, trivial⟩ ?_
        exact ih  hb K
theorem E_Model_see {X : MX} {I : MI} {J : MJ} {v : Int32} {I' : MI} {J' : MJ} (hb : f_Model_see  I J = some (v, I', J')) (K : P (.inl (some (.int v))) (hX X I' J')) : am_E (gG L xs) d m_Model_see (0, lv_args 0 [.ref 112], []) (hX X I J) P := by
  unfold f_Model_see at hb
  refine e_sub (ls := [(0, .ref 112)]) rfl ⟨rfl, trivial⟩ ?_
  obtain ⟨u5, I5, J5, h5, hb⟩ := oc_call hb
  refine E_Model_see_0  gF  h5 ?_
  refine e_k 1 (f' := (39, [(0, .ref 112)], [.ref 112])) rfl ?_
  refine r_geti rfl (x_ltn rfl) rfl rfl ?_
  refine e_k 1 (f' := (43, [(0, .ref 112)], [.ref 112, .int (I5 112 5)])) rfl ?_
  refine r_geti rfl (x_ltn rfl) rfl rfl ?_
  refine e_k 1 (f' := (if (I5 112 2) ≤ (I5 112 5) then 61 else 49, [(0, .ref 112)], [])) rfl ?_
  refine e_if (fun c6 => ?_) (fun c6 => ?_)
  · replace hb := i_pos c6 hb
    refine e_k 1 (f' := (62, [(0, .ref 112)], [.int 0])) rfl ?_
    obtain ⟨rfl, rfl, rfl⟩ := s_inj hb
    exact e_r rfl rfl K
  · replace hb := i_neg c6 hb
    refine e_k 1 (f' := (50, [(0, .ref 112)], [.ref 112])) rfl ?_
    refine r_getr rfl (x_ltn rfl) rfl rfl ?_
    refine e_k 1 (f' := (54, [(0, .ref 112)], [.ref 112, .ref 113])) rfl ?_
    refine r_geti rfl (x_ltn rfl) rfl rfl ?_
    obtain ⟨o7, hb⟩ := ob_in hb
    refine r_iald rfl rfl (x_ltn rfl) rfl o7 ?_
    refine e_k 1 (f' := (62, [(0, .ref 112)], [.int (I5 113 (Int32.toNatClampNeg (I5 112 5)))])) rfl ?_
    obtain ⟨rfl, rfl, rfl⟩ := s_inj hb
    exact e_r rfl rfl K
theorem E_Model_refuse {X : MX} {I : MI} {J : MJ} {v : Int32} {I' : MI} {J' : MJ} (hb : f_Model_refuse  I J = some (v, I', J')) (K : P (.inl (some (.int v))) (hX X I' J')) : am_E (gG L xs) (d + 1) m_Model_refuse (0, lv_args 0 [.ref 112], []) (hX X I J) P := by
  unfold f_Model_refuse at hb
  refine e_k 1 (f' := (1, [(0, .ref 112)], [.ref 112])) rfl ?_
  obtain ⟨v1, I1, J1, h1, hb⟩ := oc_call hb
  refine r_cv (z := m_Model_see) (As := []) (rest := []) rfl rfl rfl rfl rfl (x_ltn rfl) rfl rfl (E_Model_see  h1 ⟨_, rfl, ?_⟩)
  refine e_k 3 (f' := (7, [(0, .ref 112)], [.int 1, .ref 112])) rfl ?_
  obtain ⟨I2, eI2, hb⟩ := p_nm hb
  refine r_puti' rfl (x_ltn rfl) rfl rfl eI2 ?_
  refine e_k 2 (f' := (12, [(0, .ref 112)], [.ref 112, .ref 112])) rfl ?_
  refine r_geti rfl (x_ltn rfl) rfl rfl ?_
  obtain ⟨I3, eI3, hb⟩ := p_nm hb
  refine r_puti' rfl (x_ltn rfl) rfl rfl eI3 ?_
  refine e_k 1 (f' := (19, [(0, .ref 112)], [.int 0])) rfl ?_
  obtain ⟨rfl, rfl, rfl⟩ := s_inj hb
  exact e_r rfl rfl K
theorem E_Model_note {p2 : Int32} {p3 : Int32} {X : MX} {I : MI} {J : MJ} {v : Unit} {I' : MI} {J' : MJ} (hb : f_Model_note p2 p3 I J = some (v, I', J')) (K : P (.inl (none)) (hX X I' J')) : am_E (gG L xs) d m_Model_note (0, lv_args 0 [.ref 112, .int p2, .int p3], []) (hX X I J) P := by
  unfold f_Model_note at hb
  refine e_k 1 (f' := (1, [(0, .ref 112), (1, .int p2), (2, .int p3)], [.ref 112])) rfl ?_
  refine r_geti rfl (x_ltn rfl) rfl rfl ?_
  refine e_k 1 (f' := (if (I 112 13) = 0 then 31 else 7, [(0, .ref 112), (1, .int p2), (2, .int p3)], [])) rfl ?_
  refine e_if (fun c1 => ?_) (fun c1 => ?_)
  · replace hb := i_pos c1 hb
    refine e_k 2 (f' := (33, [(0, .ref 112), (1, .int p2), (2, .int p3)], [.int p2, .ref 112])) rfl ?_
    obtain ⟨I2, eI2, hb⟩ := p_nm hb
    refine r_puti' rfl (x_ltn rfl) rfl rfl eI2 ?_
    refine e_k 2 (f' := (38, [(0, .ref 112), (1, .int p2), (2, .int p3)], [.int p3, .ref 112])) rfl ?_
    obtain ⟨I3, eI3, hb⟩ := p_nm hb
    refine r_puti' rfl (x_ltn rfl) rfl rfl eI3 ?_
    obtain ⟨rfl, rfl, rfl⟩ := s_inj hb
    exact e_r rfl rfl K
  · replace hb := i_neg c1 hb
    refine e_k 2 (f' := (9, [(0, .ref 112), (1, .int p2), (2, .int p3)], [.ref 112, .int p3])) rfl ?_
    refine r_geti rfl (x_ltn rfl) rfl rfl ?_
    refine e_k 1 (f' := (if p3 < (I 112 14) then 31 else 15, [(0, .ref 112), (1, .int p2), (2, .int p3)], [])) rfl ?_
    refine e_if (fun c4 => ?_) (fun c4 => ?_)
    · replace hb := i_pos c4 hb
      refine e_k 2 (f' := (33, [(0, .ref 112), (1, .int p2), (2, .int p3)], [.int p2, .ref 112])) rfl ?_
      obtain ⟨I5, eI5, hb⟩ := p_nm hb
      refine r_puti' rfl (x_ltn rfl) rfl rfl eI5 ?_
      refine e_k 2 (f' := (38, [(0, .ref 112), (1, .int p2), (2, .int p3)], [.int p3, .ref 112])) rfl ?_
      obtain ⟨I6, eI6, hb⟩ := p_nm hb
      refine r_puti' rfl (x_ltn rfl) rfl rfl eI6 ?_
      obtain ⟨rfl, rfl, rfl⟩ := s_inj hb
      exact e_r rfl rfl K
    · replace hb := i_neg c4 hb
      refine e_k 2 (f' := (17, [(0, .ref 112), (1, .int p2), (2, .int p3)], [.ref 112, .int p3])) rfl ?_
      refine r_geti rfl (x_ltn rfl) rfl rfl ?_
      refine e_k 1 (f' := (if ¬ p3 = (I 112 14) then 41 else 23, [(0, .ref 112), (1, .int p2), (2, .int p3)], [])) rfl ?_
      refine e_if (fun c7 => ?_) (fun c7 => ?_)
      · replace hb := i_pos c7 hb
        obtain ⟨rfl, rfl, rfl⟩ := s_inj hb
        exact e_r rfl rfl K
      · replace hb := i_neg c7 hb
        refine e_k 2 (f' := (25, [(0, .ref 112), (1, .int p2), (2, .int p3)], [.ref 112, .int p2])) rfl ?_
        refine r_geti rfl (x_ltn rfl) rfl rfl ?_
        refine e_k 1 (f' := (if (I 112 13) ≤ p2 then 41 else 31, [(0, .ref 112), (1, .int p2), (2, .int p3)], [])) rfl ?_
        refine e_if (fun c8 => ?_) (fun c8 => ?_)
        · replace hb := i_pos c8 hb
          obtain ⟨rfl, rfl, rfl⟩ := s_inj hb
          exact e_r rfl rfl K
        · replace hb := i_neg c8 hb
          refine e_k 2 (f' := (33, [(0, .ref 112), (1, .int p2), (2, .int p3)], [.int p2, .ref 112])) rfl ?_
          obtain ⟨I9, eI9, hb⟩ := p_nm hb
          refine r_puti' rfl (x_ltn rfl) rfl rfl eI9 ?_
          refine e_k 2 (f' := (38, [(0, .ref 112), (1, .int p2), (2, .int p3)], [.int p3, .ref 112])) rfl ?_
          obtain ⟨I10, eI10, hb⟩ := p_nm hb
          refine r_puti' rfl (x_ltn rfl) rfl rfl eI10 ?_
          obtain ⟨rfl, rfl, rfl⟩ := s_inj hb
          exact e_r rfl rfl K
theorem E_Model_takes {p2 : Int32} {X : MX} {I : MI} {J : MJ} {v : Int32} {I' : MI} {J' : MJ} (hb : f_Model_takes p2 I J = some (v, I', J')) (K : P (.inl (some (.int v))) (hX X I' J')) : am_E (gG L xs) (d + 1) m_Model_takes (0, lv_args 0 [.ref 112, .int p2], []) (hX X I J) P := by
  unfold f_Model_takes at hb
  refine e_k 1 (f' := (1, [(0, .ref 112), (1, .int p2)], [.ref 112])) rfl ?_
  obtain ⟨v1, I1, J1, h1, hb⟩ := oc_call hb
  refine r_cv (z := m_Model_see) (As := []) (rest := []) rfl rfl rfl rfl rfl (x_ltn rfl) rfl rfl (E_Model_see  h1 ⟨_, rfl, ?_⟩)
  refine e_k 2 (f' := (if ¬ v1 = p2 then 12 else 8, [(0, .ref 112), (1, .int p2)], [])) rfl ?_
  obtain ⟨v3, h3, hb⟩ := p_nn hb
  have Kj3 : am_E (gG L xs) (d + 1) m_Model_takes (13, [(0, .ref 112)], [.int v3]) (hX X I1 J1) P := by
    refine e_k 3 (f' := (if v3 = 0 then 28 else 18, [(2, .int v3), (0, .ref 112)], [])) rfl ?_
    refine e_if (fun c5 => ?_) (fun c5 => ?_)
    · replace hb := i_pos c5 hb
      refine e_k 1 (f' := (29, [(2, .int v3), (0, .ref 112)], [.int v3])) rfl ?_
      obtain ⟨o6, hb⟩ := ob_if hb
      obtain ⟨rfl, rfl, rfl⟩ := s_inj hb
      exact e_r rfl (if_pos o6) K
    · replace hb := i_neg c5 hb
      refine e_k 2 (f' := (20, [(2, .int v3), (0, .ref 112)], [.ref 112, .ref 112])) rfl ?_
      refine r_geti rfl (x_ltn rfl) rfl rfl ?_
      refine e_k 2 (f' := (25, [(2, .int v3), (0, .ref 112)], [.int ((I1 112 5) + 1), .ref 112])) rfl ?_
      obtain ⟨I7, eI7, hb⟩ := p_nm hb
      refine r_puti' rfl (x_ltn rfl) rfl rfl eI7 ?_
      refine e_k 1 (f' := (29, [(2, .int v3), (0, .ref 112)], [.int v3])) rfl ?_
      obtain ⟨o8, hb⟩ := ob_if hb
      obtain ⟨rfl, rfl, rfl⟩ := s_inj hb
      exact e_r rfl (if_pos o8) K
  clear hb
  refine e_if (fun c4 => ?_) (fun c4 => ?_)
  · replace h3 := i_pos c4 h3
    refine e_k 1 (f' := (13, [(0, .ref 112), (1, .int p2)], [.int 0])) rfl ?_
    refine e_sub (ls := [(0, .ref 112)]) rfl ⟨rfl, trivial⟩ ?_
    subst h3
    exact Kj3
  · replace h3 := i_neg c4 h3
    refine e_k 2 (f' := (13, [(0, .ref 112), (1, .int p2)], [.int 1])) rfl ?_
    refine e_sub (ls := [(0, .ref 112)]) rfl ⟨rfl, trivial⟩ ?_
    subst h3
    exact Kj3
theorem E_Model_want {p2 : Int32} {X : MX} {I : MI} {J : MJ} {v : Int32} {I' : MI} {J' : MJ} (hb : f_Model_want p2 I J = some (v, I', J')) (K : P (.inl (some (.int v))) (hX X I' J')) : am_E (gG L xs) (d + 2) m_Model_want (0, lv_args 0 [.ref 112, .int p2], []) (hX X I J) P := by
  unfold f_Model_want at hb
  refine e_k 2 (f' := (2, [(0, .ref 112), (1, .int p2)], [.int p2, .ref 112])) rfl ?_
  obtain ⟨v1, I1, J1, h1, hb⟩ := oc_call hb
  refine r_cv (z := m_Model_takes) (As := [.int p2]) (rest := []) rfl rfl rfl rfl rfl (x_ltn rfl) rfl rfl (E_Model_takes  h1 ⟨_, rfl, ?_⟩)
  refine e_k 1 (f' := (if ¬ v1 = 0 then 15 else 8, [(0, .ref 112), (1, .int p2)], [])) rfl ?_
  refine e_if (fun c2 => ?_) (fun c2 => ?_)
  · replace hb := i_pos c2 hb
    refine e_k 2 (f' := (20, [(0, .ref 112), (1, .int p2)], [.int 1])) rfl ?_
    obtain ⟨rfl, rfl, rfl⟩ := s_inj hb
    exact e_r rfl rfl K
  · replace hb := i_neg c2 hb
    refine e_k 1 (f' := (9, [(0, .ref 112), (1, .int p2)], [.ref 112])) rfl ?_
    obtain ⟨v3, I3, J3, h3, hb⟩ := oc_call hb
    refine r_cv (z := m_Model_refuse) (As := []) (rest := []) rfl rfl rfl rfl rfl (x_ltn rfl) rfl rfl (E_Model_refuse  h3 ⟨_, rfl, ?_⟩)
    refine e_k 1 (f' := (if v3 = 0 then 19 else 15, [(0, .ref 112), (1, .int p2)], [])) rfl ?_
    refine e_if (fun c4 => ?_) (fun c4 => ?_)
    · replace hb := i_pos c4 hb
      refine e_k 1 (f' := (20, [(0, .ref 112), (1, .int p2)], [.int 0])) rfl ?_
      obtain ⟨rfl, rfl, rfl⟩ := s_inj hb
      exact e_r rfl rfl K
    · replace hb := i_neg c4 hb
      refine e_k 2 (f' := (20, [(0, .ref 112), (1, .int p2)], [.int 1])) rfl ?_
      obtain ⟨rfl, rfl, rfl⟩ := s_inj hb
      exact e_r rfl rfl K
theorem E_Model_isClear {p1 : Int32} {X : MX} {I : MI} {J : MJ} {v : Int32} {I' : MI} {J' : MJ} (hb : f_Model_isClear p1 I J = some (v, I', J')) (K : P (.inl (some (.int v))) (hX X I' J')) : am_E (gG L xs) d m_Model_isClear (0, lv_args 0 [.int p1], []) (hX X I J) P := by
  unfold f_Model_isClear at hb
  refine e_k 3 (f' := (if p1 < 97 then 16 else 6, [(0, .int p1)], [])) rfl ?_
  refine e_if (fun c1 => ?_) (fun c1 => ?_)
  · replace hb := i_pos c1 hb
    refine e_k 1 (f' := (17, [(0, .int p1)], [.int 0])) rfl ?_
    obtain ⟨rfl, rfl, rfl⟩ := s_inj hb
    exact e_r rfl rfl K
  · replace hb := i_neg c1 hb
    refine e_k 3 (f' := (if 109 < p1 then 16 else 12, [(0, .int p1)], [])) rfl ?_
    refine e_if (fun c2 => ?_) (fun c2 => ?_)
    · replace hb := i_pos c2 hb
      refine e_k 1 (f' := (17, [(0, .int p1)], [.int 0])) rfl ?_
      obtain ⟨rfl, rfl, rfl⟩ := s_inj hb
      exact e_r rfl rfl K
    · replace hb := i_neg c2 hb
      refine e_k 2 (f' := (17, [(0, .int p1)], [.int 1])) rfl ?_
      obtain ⟨rfl, rfl, rfl⟩ := s_inj hb
      exact e_r rfl rfl K
theorem E_Model_isSecret {p1 : Int32} {X : MX} {I : MI} {J : MJ} {v : Int32} {I' : MI} {J' : MJ} (hb : f_Model_isSecret p1 I J = some (v, I', J')) (K : P (.inl (some (.int v))) (hX X I' J')) : am_E (gG L xs) d m_Model_isSecret (0, lv_args 0 [.int p1], []) (hX X I J) P := by
  unfold f_Model_isSecret at hb
  refine e_k 3 (f' := (if p1 < 110 then 16 else 6, [(0, .int p1)], [])) rfl ?_
  refine e_if (fun c1 => ?_) (fun c1 => ?_)
  · replace hb := i_pos c1 hb
    refine e_k 1 (f' := (17, [(0, .int p1)], [.int 0])) rfl ?_
    obtain ⟨rfl, rfl, rfl⟩ := s_inj hb
    exact e_r rfl rfl K
  · replace hb := i_neg c1 hb
    refine e_k 3 (f' := (if 122 < p1 then 16 else 12, [(0, .int p1)], [])) rfl ?_
    refine e_if (fun c2 => ?_) (fun c2 => ?_)
    · replace hb := i_pos c2 hb
      refine e_k 1 (f' := (17, [(0, .int p1)], [.int 0])) rfl ?_
      obtain ⟨rfl, rfl, rfl⟩ := s_inj hb
      exact e_r rfl rfl K
    · replace hb := i_neg c2 hb
      refine e_k 2 (f' := (17, [(0, .int p1)], [.int 1])) rfl ?_
      obtain ⟨rfl, rfl, rfl⟩ := s_inj hb
      exact e_r rfl rfl K
theorem E_Model_isVariable {X : MX} {I : MI} {J : MJ} {v : Int32} {I' : MI} {J' : MJ} (hb : f_Model_isVariable  I J = some (v, I', J')) (K : P (.inl (some (.int v))) (hX X I' J')) : am_E (gG L xs) (d + 1) m_Model_isVariable (0, lv_args 0 [.ref 112], []) (hX X I J) P := by
  unfold f_Model_isVariable at hb
  refine e_k 1 (f' := (1, [(0, .ref 112)], [.ref 112])) rfl ?_
  obtain ⟨v1, I1, J1, h1, hb⟩ := oc_call hb
  refine r_cv (z := m_Model_see) (As := []) (rest := []) rfl rfl rfl rfl rfl (x_ltn rfl) rfl rfl (E_Model_see  h1 ⟨_, rfl, ?_⟩)
  obtain ⟨v2, I2, J2, h2, hb⟩ := oc_call hb
  refine r_cs (z := m_Model_isClear) (As := [.int v1]) (rest := []) rfl rfl rfl rfl rfl rfl (E_Model_isClear  h2 ⟨_, rfl, ?_⟩)
  refine e_k 1 (f' := (if ¬ v2 = 0 then 20 else 10, [(0, .ref 112)], [])) rfl ?_
  refine e_if (fun c3 => ?_) (fun c3 => ?_)
  · replace hb := i_pos c3 hb
    refine e_k 2 (f' := (25, [(0, .ref 112)], [.int 1])) rfl ?_
    obtain ⟨rfl, rfl, rfl⟩ := s_inj hb
    exact e_r rfl rfl K
  · replace hb := i_neg c3 hb
    refine e_k 1 (f' := (11, [(0, .ref 112)], [.ref 112])) rfl ?_
    obtain ⟨v4, I4, J4, h4, hb⟩ := oc_call hb
    refine r_cv (z := m_Model_see) (As := []) (rest := []) rfl rfl rfl rfl rfl (x_ltn rfl) rfl rfl (E_Model_see  h4 ⟨_, rfl, ?_⟩)
    obtain ⟨v5, I5, J5, h5, hb⟩ := oc_call hb
    refine r_cs (z := m_Model_isSecret) (As := [.int v4]) (rest := []) rfl rfl rfl rfl rfl rfl (E_Model_isSecret  h5 ⟨_, rfl, ?_⟩)
    refine e_k 1 (f' := (if v5 = 0 then 24 else 20, [(0, .ref 112)], [])) rfl ?_
    refine e_if (fun c6 => ?_) (fun c6 => ?_)
    · replace hb := i_pos c6 hb
      refine e_k 1 (f' := (25, [(0, .ref 112)], [.int 0])) rfl ?_
      obtain ⟨rfl, rfl, rfl⟩ := s_inj hb
      exact e_r rfl rfl K
    · replace hb := i_neg c6 hb
      refine e_k 2 (f' := (25, [(0, .ref 112)], [.int 1])) rfl ?_
      obtain ⟨rfl, rfl, rfl⟩ := s_inj hb
      exact e_r rfl rfl K
theorem E_Model_isRow {X : MX} {I : MI} {J : MJ} {v : Int32} {I' : MI} {J' : MJ} (hb : f_Model_isRow  I J = some (v, I', J')) (K : P (.inl (some (.int v))) (hX X I' J')) : am_E (gG L xs) (d + 1) m_Model_isRow (0, lv_args 0 [.ref 112], []) (hX X I J) P := by
  unfold f_Model_isRow at hb
  refine e_k 1 (f' := (1, [(0, .ref 112)], [.ref 112])) rfl ?_
  obtain ⟨v1, I1, J1, h1, hb⟩ := oc_call hb
  refine r_cv (z := m_Model_see) (As := []) (rest := []) rfl rfl rfl rfl rfl (x_ltn rfl) rfl rfl (E_Model_see  h1 ⟨_, rfl, ?_⟩)
  refine e_k 2 (f' := (if v1 < 65 then 22 else 9, [(0, .ref 112)], [])) rfl ?_
  refine e_if (fun c2 => ?_) (fun c2 => ?_)
  · replace hb := i_pos c2 hb
    refine e_k 1 (f' := (23, [(0, .ref 112)], [.int 0])) rfl ?_
    obtain ⟨rfl, rfl, rfl⟩ := s_inj hb
    exact e_r rfl rfl K
  · replace hb := i_neg c2 hb
    refine e_k 1 (f' := (10, [(0, .ref 112)], [.ref 112])) rfl ?_
    obtain ⟨v3, I3, J3, h3, hb⟩ := oc_call hb
    refine r_cv (z := m_Model_see) (As := []) (rest := []) rfl rfl rfl rfl rfl (x_ltn rfl) rfl rfl (E_Model_see  h3 ⟨_, rfl, ?_⟩)
    refine e_k 2 (f' := (if 72 < v3 then 22 else 18, [(0, .ref 112)], [])) rfl ?_
    refine e_if (fun c4 => ?_) (fun c4 => ?_)
    · replace hb := i_pos c4 hb
      refine e_k 1 (f' := (23, [(0, .ref 112)], [.int 0])) rfl ?_
      obtain ⟨rfl, rfl, rfl⟩ := s_inj hb
      exact e_r rfl rfl K
    · replace hb := i_neg c4 hb
      refine e_k 2 (f' := (23, [(0, .ref 112)], [.int 1])) rfl ?_
      obtain ⟨rfl, rfl, rfl⟩ := s_inj hb
      exact e_r rfl rfl K
theorem E_Model_isSecretRow {p1 : Int32} {X : MX} {I : MI} {J : MJ} {v : Int32} {I' : MI} {J' : MJ} (hb : f_Model_isSecretRow p1 I J = some (v, I', J')) (K : P (.inl (some (.int v))) (hX X I' J')) : am_E (gG L xs) d m_Model_isSecretRow (0, lv_args 0 [.int p1], []) (hX X I J) P := by
  unfold f_Model_isSecretRow at hb
  refine e_k 3 (f' := (if p1 < 69 then 10 else 6, [(0, .int p1)], [])) rfl ?_
  refine e_if (fun c1 => ?_) (fun c1 => ?_)
  · replace hb := i_pos c1 hb
    refine e_k 1 (f' := (11, [(0, .int p1)], [.int 0])) rfl ?_
    obtain ⟨rfl, rfl, rfl⟩ := s_inj hb
    exact e_r rfl rfl K
  · replace hb := i_neg c1 hb
    refine e_k 2 (f' := (11, [(0, .int p1)], [.int 1])) rfl ?_
    obtain ⟨rfl, rfl, rfl⟩ := s_inj hb
    exact e_r rfl rfl K
theorem E_Model_numberOf {p1 : Int32} {X : MX} {I : MI} {J : MJ} {v : Int32} {I' : MI} {J' : MJ} (hb : f_Model_numberOf p1 I J = some (v, I', J')) (K : P (.inl (some (.int v))) (hX X I' J')) : am_E (gG L xs) (d + 1) m_Model_numberOf (0, lv_args 0 [.int p1], []) (hX X I J) P := by
  unfold f_Model_numberOf at hb
  refine e_k 1 (f' := (1, [(0, .int p1)], [.int p1])) rfl ?_
  obtain ⟨v1, I1, J1, h1, hb⟩ := oc_call hb
  refine r_cs (z := m_Model_isClear) (As := [.int p1]) (rest := []) rfl rfl rfl rfl rfl rfl (E_Model_isClear  h1 ⟨_, rfl, ?_⟩)
  refine e_k 1 (f' := (if v1 = 0 then 14 else 7, [(0, .int p1)], [])) rfl ?_
  refine e_if (fun c2 => ?_) (fun c2 => ?_)
  · replace hb := i_pos c2 hb
    refine e_k 3 (f' := (18, [(0, .int p1)], [.int (p1 - 110)])) rfl ?_
    obtain ⟨rfl, rfl, rfl⟩ := s_inj hb
    exact e_r rfl rfl K
  · replace hb := i_neg c2 hb
    refine e_k 4 (f' := (18, [(0, .int p1)], [.int (p1 - 97)])) rfl ?_
    obtain ⟨rfl, rfl, rfl⟩ := s_inj hb
    exact e_r rfl rfl K
theorem E_Model_isDigit {X : MX} {I : MI} {J : MJ} {v : Int32} {I' : MI} {J' : MJ} (hb : f_Model_isDigit  I J = some (v, I', J')) (K : P (.inl (some (.int v))) (hX X I' J')) : am_E (gG L xs) (d + 1) m_Model_isDigit (0, lv_args 0 [.ref 112], []) (hX X I J) P := by
  unfold f_Model_isDigit at hb
  refine e_k 1 (f' := (1, [(0, .ref 112)], [.ref 112])) rfl ?_
  obtain ⟨v1, I1, J1, h1, hb⟩ := oc_call hb
  refine r_cv (z := m_Model_see) (As := []) (rest := []) rfl rfl rfl rfl rfl (x_ltn rfl) rfl rfl (E_Model_see  h1 ⟨_, rfl, ?_⟩)
  refine e_k 2 (f' := (if v1 < 48 then 22 else 9, [(0, .ref 112)], [])) rfl ?_
  refine e_if (fun c2 => ?_) (fun c2 => ?_)
  · replace hb := i_pos c2 hb
    refine e_k 1 (f' := (23, [(0, .ref 112)], [.int 0])) rfl ?_
    obtain ⟨rfl, rfl, rfl⟩ := s_inj hb
    exact e_r rfl rfl K
  · replace hb := i_neg c2 hb
    refine e_k 1 (f' := (10, [(0, .ref 112)], [.ref 112])) rfl ?_
    obtain ⟨v3, I3, J3, h3, hb⟩ := oc_call hb
    refine r_cv (z := m_Model_see) (As := []) (rest := []) rfl rfl rfl rfl rfl (x_ltn rfl) rfl rfl (E_Model_see  h3 ⟨_, rfl, ?_⟩)
    refine e_k 2 (f' := (if 57 < v3 then 22 else 18, [(0, .ref 112)], [])) rfl ?_
    refine e_if (fun c4 => ?_) (fun c4 => ?_)
    · replace hb := i_pos c4 hb
      refine e_k 1 (f' := (23, [(0, .ref 112)], [.int 0])) rfl ?_
      obtain ⟨rfl, rfl, rfl⟩ := s_inj hb
      exact e_r rfl rfl K
    · replace hb := i_neg c4 hb
      refine e_k 2 (f' := (23, [(0, .ref 112)], [.int 1])) rfl ?_
      obtain ⟨rfl, rfl, rfl⟩ := s_inj hb
      exact e_r rfl rfl K
theorem E_Model_lay_IV {p2 : Int32} {X : MX} {I : MI} {J : MJ} {v : Unit} {I' : MI} {J' : MJ} (hb : f_Model_lay_IV p2 I J = some (v, I', J')) (K : P (.inl (none)) (hX X I' J')) : am_E (gG L xs) d m_Model_lay_IV (0, lv_args 0 [.ref 112, .int p2], []) (hX X I J) P := by
  unfold f_Model_lay_IV at hb
  refine e_k 1 (f' := (1, [(0, .ref 112), (1, .int p2)], [.ref 112])) rfl ?_
  refine r_getr rfl (x_ltn rfl) rfl rfl ?_
  refine e_k 1 (f' := (5, [(0, .ref 112), (1, .int p2)], [.ref 112, .ref 115])) rfl ?_
  refine r_geti rfl (x_ltn rfl) rfl rfl ?_
  refine e_k 1 (f' := (9, [(0, .ref 112), (1, .int p2)], [.int p2, .int (I 112 10), .ref 115])) rfl ?_
  obtain ⟨o1, hb⟩ := ob_in hb
  obtain ⟨I2, eI2, hb⟩ := p_nm hb
  refine r_iast' rfl (x_ltn rfl) rfl o1 eI2 ?_
  refine e_k 2 (f' := (12, [(0, .ref 112), (1, .int p2)], [.ref 112, .ref 112])) rfl ?_
  refine r_geti rfl (x_ltn rfl) rfl rfl ?_
  refine e_k 2 (f' := (17, [(0, .ref 112), (1, .int p2)], [.int ((I2 112 10) + 1), .ref 112])) rfl ?_
  obtain ⟨I3, eI3, hb⟩ := p_nm hb
  refine r_puti' rfl (x_ltn rfl) rfl rfl eI3 ?_
  obtain ⟨rfl, rfl, rfl⟩ := s_inj hb
  exact e_r rfl rfl K
theorem E_Model_lay_IIV {p2 : Int32} {p3 : Int32} {X : MX} {I : MI} {J : MJ} {v : Unit} {I' : MI} {J' : MJ} (hb : f_Model_lay_IIV p2 p3 I J = some (v, I', J')) (K : P (.inl (none)) (hX X I' J')) : am_E (gG L xs) (d + 1) m_Model_lay_IIV (0, lv_args 0 [.ref 112, .int p2, .int p3], []) (hX X I J) P := by
  unfold f_Model_lay_IIV at hb
  refine e_k 2 (f' := (2, [(0, .ref 112), (1, .int p2), (2, .int p3)], [.int p2, .ref 112])) rfl ?_
  obtain ⟨v1, I1, J1, h1, hb⟩ := oc_call hb
  refine r_cv (z := m_Model_lay_IV) (As := [.int p2]) (rest := []) rfl rfl rfl rfl rfl (x_ltn rfl) rfl rfl (E_Model_lay_IV  h1 ⟨_, rfl, ?_⟩)
  refine e_k 2 (f' := (7, [(0, .ref 112), (1, .int p2), (2, .int p3)], [.int p3, .ref 112])) rfl ?_
  obtain ⟨v2, I2, J2, h2, hb⟩ := oc_call hb
  refine r_cv (z := m_Model_lay_IV) (As := [.int p3]) (rest := []) rfl rfl rfl rfl rfl (x_ltn rfl) rfl rfl (E_Model_lay_IV  h2 ⟨_, rfl, ?_⟩)
  obtain ⟨rfl, rfl, rfl⟩ := s_inj hb
  exact e_r rfl rfl K
theorem E_Model_readX_14 {R : M3} {X : MX} (hR_0 : ∀ {I : MI} {J : MJ} {v : Int32} {I' : MI} {J' : MJ} {P : am_R → am_H → Prop}, R 0 0 0 I J = some (v, I', J') → P (.inl (some (.int v))) (hX X I' J') → am_E (gG L xs) d m_Model_readX (0, lv_args 0 [.ref 112], []) (hX X I J) P) (hR_1 : ∀ {I : MI} {J : MJ} {v : Int32} {I' : MI} {J' : MJ} {P : am_R → am_H → Prop}, R 1 0 0 I J = some (v, I', J') → P (.inl (some (.int v))) (hX X I' J') → am_E (gG L xs) d m_Model_readProduct (0, lv_args 0 [.ref 112], []) (hX X I J) P) (hR_2 : ∀ {I : MI} {J : MJ} {v : Int32} {I' : MI} {J' : MJ} {P : am_R → am_H → Prop}, R 2 0 0 I J = some (v, I', J') → P (.inl (some (.int v))) (hX X I' J') → am_E (gG L xs) d m_Model_readFactor (0, lv_args 0 [.ref 112], []) (hX X I J) P) (hR_3 : ∀ {I : MI} {J : MJ} {v : Int32} {I' : MI} {J' : MJ} {P : am_R → am_H → Prop}, R 3 0 0 I J = some (v, I', J') → P (.inl (some (.int v))) (hX X I' J') → am_E (gG L xs) d m_Model_readPart (0, lv_args 0 [.ref 112], []) (hX X I J) P) (hR_4 : ∀ {I : MI} {J : MJ} {v : Int32} {I' : MI} {J' : MJ} {P : am_R → am_H → Prop}, R 4 0 0 I J = some (v, I', J') → P (.inl (some (.int v))) (hX X I' J') → am_E (gG L xs) d m_Model_readPlace (0, lv_args 0 [.ref 112], []) (hX X I J) P) (hR_5 : ∀ {I : MI} {J : MJ} {v : Int32} {I' : MI} {J' : MJ} {P : am_R → am_H → Prop}, R 5 0 0 I J = some (v, I', J') → P (.inl (some (.int v))) (hX X I' J') → am_E (gG L xs) d m_Model_readStatements (0, lv_args 0 [.ref 112], []) (hX X I J) P) (hR_6 : ∀ {I : MI} {J : MJ} {v : Int32} {I' : MI} {J' : MJ} {P : am_R → am_H → Prop}, R 6 0 0 I J = some (v, I', J') → P (.inl (some (.int v))) (hX X I' J') → am_E (gG L xs) d m_Model_readStatement (0, lv_args 0 [.ref 112], []) (hX X I J) P) (hR_7 : ∀ {I : MI} {J : MJ} {v : Int32} {I' : MI} {J' : MJ} {P : am_R → am_H → Prop}, R 7 0 0 I J = some (v, I', J') → P (.inl (some (.int v))) (hX X I' J') → am_E (gG L xs) d m_Model_readRoutine (0, lv_args 0 [.ref 112], []) (hX X I J) P) (hR_8 : ∀ {a0 : Int32} {a1 : Int32} {I : MI} {J : MJ} {v : Int32} {I' : MI} {J' : MJ} {P : am_R → am_H → Prop}, R 8 a0 a1 I J = some (v, I', J') → P (.inl (some (.int v))) (hX X I' J') → am_E (gG L xs) d m_Model_readValue (0, lv_args 0 [.ref 112, .int a0, .int a1], []) (hX X I J) P) (hR_9 : ∀ {a0 : Int32} {I : MI} {J : MJ} {v : Int32} {I' : MI} {J' : MJ} {P : am_R → am_H → Prop}, R 9 a0 0 I J = some (v, I', J') → P (.inl (some (.int v))) (hX X I' J') → am_E (gG L xs) d m_Model_readRow (0, lv_args 0 [.ref 112, .int a0], []) (hX X I J) P) (hR_10 : ∀ {a0 : Int32} {I : MI} {J : MJ} {v : Int32} {I' : MI} {J' : MJ} {P : am_R → am_H → Prop}, R 10 a0 0 I J = some (v, I', J') → P (.inl (some (.int v))) (hX X I' J') → am_E (gG L xs) d m_Model_readTurn (0, lv_args 0 [.ref 112, .int a0], []) (hX X I J) P) : ∀ (fu : Nat) {l1 : Int32} {I : MI} {J : MJ} {r : (Int32 ⊕ (Int32))} {I' : MI} {J' : MJ}, f_Model_readX_14 R  fu l1 I J = some (r, I', J') → (∀ v, r = .inl v → P (.inl (some (.int v))) (hX X I' J')) → (∀ u, r = .inr u → am_E (gG L xs) (d + 1) m_Model_readX (91, [(0, .ref 112), (1, .int u)], []) (hX X I' J') P) → am_E (gG L xs) (d + 1) m_Model_readX (14, [(0, .ref 112), (1, .int l1)], []) (hX X I J) P := by
  intro fu
  induction fu with
  | zero =>
    intros
    rename_i hb _ _
    cases hb
  | succ fu ih =>
    intro l1 I J r I' J' hb K1 K2
    unfold f_Model_readX_14 at hb
    refine e_k 1 (f' := (15, [(0, .ref 112), (1, .int l1)], [.ref 112])) rfl ?_
    obtain ⟨v4, I4, J4, h4, hb⟩ := oc_call hb
    refine r_cv (z := m_Model_see) (As := []) (rest := []) rfl rfl rfl rfl rfl (x_ltn rfl) rfl rfl (E_Model_see  h4 ⟨_, rfl, ?_⟩)
    refine e_k 2 (f' := (if v4 = 43 then 32 else 23, [(0, .ref 112), (1, .int l1)], [])) rfl ?_
    refine e_if (fun c5 => ?_) (fun c5 => ?_)
    · replace hb := i_pos c5 hb
      refine e_k 1 (f' := (33, [(0, .ref 112), (1, .int l1)], [.ref 112])) rfl ?_
      obtain ⟨v6, I6, J6, h6, hb⟩ := oc_call hb
      refine r_cv (z := m_Model_see) (As := []) (rest := []) rfl rfl rfl rfl rfl (x_ltn rfl) rfl rfl (E_Model_see  h6 ⟨_, rfl, ?_⟩)
      refine e_k 2 (f' := (if ¬ v6 = 43 then 45 else 41, [(0, .ref 112), (1, .int l1)], [])) rfl ?_
      obtain ⟨v8, h8, hb⟩ := p_nn hb
      have Kj8 : am_E (gG L xs) (d + 1) m_Model_readX (46, [(0, .ref 112), (1, .int l1)], [.int v8]) (hX X I6 J6) P := by
        refine e_k 3 (f' := (49, [(2, .int v8), (0, .ref 112), (1, .int l1)], [.ref 112, .ref 112])) rfl ?_
        refine r_geti rfl (x_ltn rfl) rfl rfl ?_
        refine e_k 2 (f' := (54, [(2, .int v8), (0, .ref 112), (1, .int l1)], [.int ((I6 112 5) + 1), .ref 112])) rfl ?_
        obtain ⟨I10, eI10, hb⟩ := p_nm hb
        refine r_puti' rfl (x_ltn rfl) rfl rfl eI10 ?_
        refine e_k 1 (f' := (58, [(2, .int v8), (0, .ref 112), (1, .int l1)], [.ref 112])) rfl ?_
        obtain ⟨v11, I11, J11, h11, hb⟩ := oc_call hb
        refine r_cv (z := m_Model_readProduct) (As := []) (rest := []) rfl rfl rfl rfl rfl (x_ltn rfl) rfl rfl (hR_1  h11 ⟨_, rfl, ?_⟩)
        refine e_k 1 (f' := (if ¬ v11 = 0 then 66 else 64, [(2, .int v8), (0, .ref 112), (1, .int l1)], [])) rfl ?_
        refine e_if (fun c12 => ?_) (fun c12 => ?_)
        · replace hb := i_pos c12 hb
          refine e_k 2 (f' := (if ¬ l1 = 0 then 77 else 70, [(2, .int v8), (0, .ref 112), (1, .int l1)], [])) rfl ?_
          obtain ⟨v14, h14, hb⟩ := p_nn hb
          have Kj14 : am_E (gG L xs) (d + 1) m_Model_readX (82, [(0, .ref 112), (2, .int v8)], [.int v14]) (hX X I11 J11) P := by
            refine e_k 3 (f' := (85, [(1, .int v14), (0, .ref 112), (2, .int v8)], [.int v8, .ref 112])) rfl ?_
            obtain ⟨v17, I17, J17, h17, hb⟩ := oc_call hb
            refine r_cv (z := m_Model_lay_IV) (As := [.int v8]) (rest := []) rfl rfl rfl rfl rfl (x_ltn rfl) rfl rfl (E_Model_lay_IV  h17 ⟨_, rfl, ?_⟩)
            refine e_k 1 (f' := (14, [(1, .int v14), (0, .ref 112), (2, .int v8)], [])) rfl ?_
            refine e_sub (ls := [(0, .ref 112), (1, .int v14)]) rfl ⟨rfl, rfl, trivial⟩ ?_
            exact ih  hb K1 K2
          clear hb
          refine e_if (fun c15 => ?_) (fun c15 => ?_)
          · replace h14 := i_pos c15 h14
            refine e_k 2 (f' := (82, [(2, .int v8), (0, .ref 112), (1, .int l1)], [.int 1])) rfl ?_
            refine e_sub (ls := [(0, .ref 112), (2, .int v8)]) rfl ⟨rfl, rfl, trivial⟩ ?_
            subst h14
            exact Kj14
          · replace h14 := i_neg c15 h14
            refine e_k 1 (f' := (71, [(2, .int v8), (0, .ref 112), (1, .int l1)], [.ref 112])) rfl ?_
            refine r_geti rfl (x_ltn rfl) rfl rfl ?_
            refine e_k 1 (f' := (if (I11 112 73) = 0 then 81 else 77, [(2, .int v8), (0, .ref 112), (1, .int l1)], [])) rfl ?_
            refine e_if (fun c16 => ?_) (fun c16 => ?_)
            · replace h14 := i_pos c16 h14
              refine e_k 1 (f' := (82, [(2, .int v8), (0, .ref 112), (1, .int l1)], [.int 0])) rfl ?_
              refine e_sub (ls := [(0, .ref 112), (2, .int v8)]) rfl ⟨rfl, rfl, trivial⟩ ?_
              subst h14
              exact Kj14
            · replace h14 := i_neg c16 h14
              refine e_k 2 (f' := (82, [(2, .int v8), (0, .ref 112), (1, .int l1)], [.int 1])) rfl ?_
              refine e_sub (ls := [(0, .ref 112), (2, .int v8)]) rfl ⟨rfl, rfl, trivial⟩ ?_
              subst h14
              exact Kj14
        · replace hb := i_neg c12 hb
          refine e_k 1 (f' := (65, [(2, .int v8), (0, .ref 112), (1, .int l1)], [.int 0])) rfl ?_
          obtain ⟨rfl, rfl, rfl⟩ := s_inj hb
          exact e_r rfl rfl (K1 _ rfl)
      clear hb
      refine e_if (fun c9 => ?_) (fun c9 => ?_)
      · replace h8 := i_pos c9 h8
        refine e_k 1 (f' := (46, [(0, .ref 112), (1, .int l1)], [.int 5])) rfl ?_
        refine e_sub (ls := [(0, .ref 112), (1, .int l1)]) rfl ⟨rfl, rfl, trivial⟩ ?_
        subst h8
        exact Kj8
      · replace h8 := i_neg c9 h8
        refine e_k 2 (f' := (46, [(0, .ref 112), (1, .int l1)], [.int 4])) rfl ?_
        refine e_sub (ls := [(0, .ref 112), (1, .int l1)]) rfl ⟨rfl, rfl, trivial⟩ ?_
        subst h8
        exact Kj8
    · replace hb := i_neg c5 hb
      refine e_k 1 (f' := (24, [(0, .ref 112), (1, .int l1)], [.ref 112])) rfl ?_
      obtain ⟨v18, I18, J18, h18, hb⟩ := oc_call hb
      refine r_cv (z := m_Model_see) (As := []) (rest := []) rfl rfl rfl rfl rfl (x_ltn rfl) rfl rfl (E_Model_see  h18 ⟨_, rfl, ?_⟩)
      refine e_k 2 (f' := (if ¬ v18 = 45 then 91 else 32, [(0, .ref 112), (1, .int l1)], [])) rfl ?_
      refine e_if (fun c19 => ?_) (fun c19 => ?_)
      · replace hb := i_pos c19 hb
        refine e_sub (ls := [(0, .ref 112), (1, .int l1)]) rfl ⟨rfl, rfl, trivial⟩ ?_
        obtain ⟨rfl, rfl, rfl⟩ := s_inj hb
        exact K2 _ rfl
      · replace hb := i_neg c19 hb
        refine e_k 1 (f' := (33, [(0, .ref 112), (1, .int l1)], [.ref 112])) rfl ?_
        obtain ⟨v20, I20, J20, h20, hb⟩ := oc_call hb
        refine r_cv (z := m_Model_see) (As := []) (rest := []) rfl rfl rfl rfl rfl (x_ltn rfl) rfl rfl (E_Model_see  h20 ⟨_, rfl, ?_⟩)
        refine e_k 2 (f' := (if ¬ v20 = 43 then 45 else 41, [(0, .ref 112), (1, .int l1)], [])) rfl ?_
        obtain ⟨v22, h22, hb⟩ := p_nn hb
        have Kj22 : am_E (gG L xs) (d + 1) m_Model_readX (46, [(0, .ref 112), (1, .int l1)], [.int v22]) (hX X I20 J20) P := by
          refine e_k 3 (f' := (49, [(2, .int v22), (0, .ref 112), (1, .int l1)], [.ref 112, .ref 112])) rfl ?_
          refine r_geti rfl (x_ltn rfl) rfl rfl ?_
          refine e_k 2 (f' := (54, [(2, .int v22), (0, .ref 112), (1, .int l1)], [.int ((I20 112 5) + 1), .ref 112])) rfl ?_
          obtain ⟨I24, eI24, hb⟩ := p_nm hb
          refine r_puti' rfl (x_ltn rfl) rfl rfl eI24 ?_
          refine e_k 1 (f' := (58, [(2, .int v22), (0, .ref 112), (1, .int l1)], [.ref 112])) rfl ?_
          obtain ⟨v25, I25, J25, h25, hb⟩ := oc_call hb
          refine r_cv (z := m_Model_readProduct) (As := []) (rest := []) rfl rfl rfl rfl rfl (x_ltn rfl) rfl rfl (hR_1  h25 ⟨_, rfl, ?_⟩)
          refine e_k 1 (f' := (if ¬ v25 = 0 then 66 else 64, [(2, .int v22), (0, .ref 112), (1, .int l1)], [])) rfl ?_
          refine e_if (fun c26 => ?_) (fun c26 => ?_)
          · replace hb := i_pos c26 hb
            refine e_k 2 (f' := (if ¬ l1 = 0 then 77 else 70, [(2, .int v22), (0, .ref 112), (1, .int l1)], [])) rfl ?_
            obtain ⟨v28, h28, hb⟩ := p_nn hb
            have Kj28 : am_E (gG L xs) (d + 1) m_Model_readX (82, [(0, .ref 112), (2, .int v22)], [.int v28]) (hX X I25 J25) P := by
              refine e_k 3 (f' := (85, [(1, .int v28), (0, .ref 112), (2, .int v22)], [.int v22, .ref 112])) rfl ?_
              obtain ⟨v31, I31, J31, h31, hb⟩ := oc_call hb
              refine r_cv (z := m_Model_lay_IV) (As := [.int v22]) (rest := []) rfl rfl rfl rfl rfl (x_ltn rfl) rfl rfl (E_Model_lay_IV  h31 ⟨_, rfl, ?_⟩)
              refine e_k 1 (f' := (14, [(1, .int v28), (0, .ref 112), (2, .int v22)], [])) rfl ?_
              refine e_sub (ls := [(0, .ref 112), (1, .int v28)]) rfl ⟨rfl, rfl, trivial⟩ ?_
              exact ih  hb K1 K2
            clear hb
            refine e_if (fun c29 => ?_) (fun c29 => ?_)
            · replace h28 := i_pos c29 h28
              refine e_k 2 (f' := (82, [(2, .int v22), (0, .ref 112), (1, .int l1)], [.int 1])) rfl ?_
              refine e_sub (ls := [(0, .ref 112), (2, .int v22)]) rfl ⟨rfl, rfl, trivial⟩ ?_
              subst h28
              exact Kj28
            · replace h28 := i_neg c29 h28
              refine e_k 1 (f' := (71, [(2, .int v22), (0, .ref 112), (1, .int l1)], [.ref 112])) rfl ?_
              refine r_geti rfl (x_ltn rfl) rfl rfl ?_
              refine e_k 1 (f' := (if (I25 112 73) = 0 then 81 else 77, [(2, .int v22), (0, .ref 112), (1, .int l1)], [])) rfl ?_
              refine e_if (fun c30 => ?_) (fun c30 => ?_)
              · replace h28 := i_pos c30 h28
                refine e_k 1 (f' := (82, [(2, .int v22), (0, .ref 112), (1, .int l1)], [.int 0])) rfl ?_
                refine e_sub (ls := [(0, .ref 112), (2, .int v22)]) rfl ⟨rfl, rfl, trivial⟩ ?_
                subst h28
                exact Kj28
              · replace h28 := i_neg c30 h28
                refine e_k 2 (f' := (82, [(2, .int v22), (0, .ref 112), (1, .int l1)], [.int 1])) rfl ?_
                refine e_sub (ls := [(0, .ref 112), (2, .int v22)]) rfl ⟨rfl, rfl, trivial⟩ ?_
                subst h28
                exact Kj28
          · replace hb := i_neg c26 hb
            refine e_k 1 (f' := (65, [(2, .int v22), (0, .ref 112), (1, .int l1)], [.int 0])) rfl ?_
            obtain ⟨rfl, rfl, rfl⟩ := s_inj hb
            exact e_r rfl rfl (K1 _ rfl)
        clear hb
        refine e_if (fun c23 => ?_) (fun c23 => ?_)
        · replace h22 := i_pos c23 h22
          refine e_k 1 (f' := (46, [(0, .ref 112), (1, .int l1)], [.int 5])) rfl ?_
          refine e_sub (ls := [(0, .ref 112), (1, .int l1)]) rfl ⟨rfl, rfl, trivial⟩ ?_
          subst h22
          exact Kj22
        · replace h22 := i_neg c23 h22
          refine e_k 2 (f' := (46, [(0, .ref 112), (1, .int l1)], [.int 4])) rfl ?_
          refine e_sub (ls := [(0, .ref 112), (1, .int l1)]) rfl ⟨rfl, rfl, trivial⟩ ?_
          subst h22
          exact Kj22
theorem E_Model_readX {R : M3} {X : MX} {I : MI} {J : MJ} {v : Int32} {I' : MI} {J' : MJ} (hR_0 : ∀ {I : MI} {J : MJ} {v : Int32} {I' : MI} {J' : MJ} {P : am_R → am_H → Prop}, R 0 0 0 I J = some (v, I', J') → P (.inl (some (.int v))) (hX X I' J') → am_E (gG L xs) d m_Model_readX (0, lv_args 0 [.ref 112], []) (hX X I J) P) (hR_1 : ∀ {I : MI} {J : MJ} {v : Int32} {I' : MI} {J' : MJ} {P : am_R → am_H → Prop}, R 1 0 0 I J = some (v, I', J') → P (.inl (some (.int v))) (hX X I' J') → am_E (gG L xs) d m_Model_readProduct (0, lv_args 0 [.ref 112], []) (hX X I J) P) (hR_2 : ∀ {I : MI} {J : MJ} {v : Int32} {I' : MI} {J' : MJ} {P : am_R → am_H → Prop}, R 2 0 0 I J = some (v, I', J') → P (.inl (some (.int v))) (hX X I' J') → am_E (gG L xs) d m_Model_readFactor (0, lv_args 0 [.ref 112], []) (hX X I J) P) (hR_3 : ∀ {I : MI} {J : MJ} {v : Int32} {I' : MI} {J' : MJ} {P : am_R → am_H → Prop}, R 3 0 0 I J = some (v, I', J') → P (.inl (some (.int v))) (hX X I' J') → am_E (gG L xs) d m_Model_readPart (0, lv_args 0 [.ref 112], []) (hX X I J) P) (hR_4 : ∀ {I : MI} {J : MJ} {v : Int32} {I' : MI} {J' : MJ} {P : am_R → am_H → Prop}, R 4 0 0 I J = some (v, I', J') → P (.inl (some (.int v))) (hX X I' J') → am_E (gG L xs) d m_Model_readPlace (0, lv_args 0 [.ref 112], []) (hX X I J) P) (hR_5 : ∀ {I : MI} {J : MJ} {v : Int32} {I' : MI} {J' : MJ} {P : am_R → am_H → Prop}, R 5 0 0 I J = some (v, I', J') → P (.inl (some (.int v))) (hX X I' J') → am_E (gG L xs) d m_Model_readStatements (0, lv_args 0 [.ref 112], []) (hX X I J) P) (hR_6 : ∀ {I : MI} {J : MJ} {v : Int32} {I' : MI} {J' : MJ} {P : am_R → am_H → Prop}, R 6 0 0 I J = some (v, I', J') → P (.inl (some (.int v))) (hX X I' J') → am_E (gG L xs) d m_Model_readStatement (0, lv_args 0 [.ref 112], []) (hX X I J) P) (hR_7 : ∀ {I : MI} {J : MJ} {v : Int32} {I' : MI} {J' : MJ} {P : am_R → am_H → Prop}, R 7 0 0 I J = some (v, I', J') → P (.inl (some (.int v))) (hX X I' J') → am_E (gG L xs) d m_Model_readRoutine (0, lv_args 0 [.ref 112], []) (hX X I J) P) (hR_8 : ∀ {a0 : Int32} {a1 : Int32} {I : MI} {J : MJ} {v : Int32} {I' : MI} {J' : MJ} {P : am_R → am_H → Prop}, R 8 a0 a1 I J = some (v, I', J') → P (.inl (some (.int v))) (hX X I' J') → am_E (gG L xs) d m_Model_readValue (0, lv_args 0 [.ref 112, .int a0, .int a1], []) (hX X I J) P) (hR_9 : ∀ {a0 : Int32} {I : MI} {J : MJ} {v : Int32} {I' : MI} {J' : MJ} {P : am_R → am_H → Prop}, R 9 a0 0 I J = some (v, I', J') → P (.inl (some (.int v))) (hX X I' J') → am_E (gG L xs) d m_Model_readRow (0, lv_args 0 [.ref 112, .int a0], []) (hX X I J) P) (hR_10 : ∀ {a0 : Int32} {I : MI} {J : MJ} {v : Int32} {I' : MI} {J' : MJ} {P : am_R → am_H → Prop}, R 10 a0 0 I J = some (v, I', J') → P (.inl (some (.int v))) (hX X I' J') → am_E (gG L xs) d m_Model_readTurn (0, lv_args 0 [.ref 112, .int a0], []) (hX X I J) P) (hb : f_Model_readX R  I J = some (v, I', J')) (K : P (.inl (some (.int v))) (hX X I' J')) : am_E (gG L xs) (d + 1) m_Model_readX (0, lv_args 0 [.ref 112], []) (hX X I J) P := by
  unfold f_Model_readX at hb
  refine e_k 1 (f' := (1, [(0, .ref 112)], [.ref 112])) rfl ?_
  obtain ⟨v1, I1, J1, h1, hb⟩ := oc_call hb
  refine r_cv (z := m_Model_readProduct) (As := []) (rest := []) rfl rfl rfl rfl rfl (x_ltn rfl) rfl rfl (hR_1  h1 ⟨_, rfl, ?_⟩)
  refine e_k 1 (f' := (if ¬ v1 = 0 then 9 else 7, [(0, .ref 112)], [])) rfl ?_
  refine e_if (fun c2 => ?_) (fun c2 => ?_)
  · replace hb := i_pos c2 hb
    refine e_k 1 (f' := (10, [(0, .ref 112)], [.ref 112])) rfl ?_
    refine r_geti rfl (x_ltn rfl) rfl rfl ?_
    refine e_k 1 (f' := (14, [(1, .int (I1 112 73)), (0, .ref 112)], [])) rfl ?_
    obtain ⟨x3, ex3, hb⟩ := p_nm hb
    rw [← ex3]
    refine e_sub (ls := [(0, .ref 112), (1, .int x3)]) rfl ⟨rfl, rfl, trivial⟩ ?_
    obtain ⟨q32, I32, J32, h32, hb⟩ := oc_call hb
    refine E_Model_readX_14 hR_0 hR_1 hR_2 hR_3 hR_4 hR_5 hR_6 hR_7 hR_8 hR_9 hR_10 gF  h32 (fun y32 ey32 => ?_) (fun u32 ey32 => ?_)
    · subst ey32
      replace hb := oe_l hb
      obtain ⟨rfl, rfl, rfl⟩ := s_inj hb
      exact K
    · subst ey32
      replace hb := oe_r hb
      refine e_k 2 (f' := (93, [(0, .ref 112), (1, .int u32)], [.int u32, .ref 112])) rfl ?_
      obtain ⟨o34, hb⟩ := ob_if hb
      obtain ⟨I33, eI33, hb⟩ := p_nm hb
      refine r_putz' rfl (x_ltn rfl) rfl rfl o34 eI33 ?_
      refine e_k 1 (f' := (97, [(0, .ref 112), (1, .int u32)], [.int 1])) rfl ?_
      obtain ⟨rfl, rfl, rfl⟩ := s_inj hb
      exact e_r rfl rfl K
  · replace hb := i_neg c2 hb
    refine e_k 1 (f' := (8, [(0, .ref 112)], [.int 0])) rfl ?_
    obtain ⟨rfl, rfl, rfl⟩ := s_inj hb
    exact e_r rfl rfl K
theorem E_Model_readProduct_14 {R : M3} {X : MX} (hR_0 : ∀ {I : MI} {J : MJ} {v : Int32} {I' : MI} {J' : MJ} {P : am_R → am_H → Prop}, R 0 0 0 I J = some (v, I', J') → P (.inl (some (.int v))) (hX X I' J') → am_E (gG L xs) (d + 1) m_Model_readX (0, lv_args 0 [.ref 112], []) (hX X I J) P) (hR_1 : ∀ {I : MI} {J : MJ} {v : Int32} {I' : MI} {J' : MJ} {P : am_R → am_H → Prop}, R 1 0 0 I J = some (v, I', J') → P (.inl (some (.int v))) (hX X I' J') → am_E (gG L xs) (d + 1) m_Model_readProduct (0, lv_args 0 [.ref 112], []) (hX X I J) P) (hR_2 : ∀ {I : MI} {J : MJ} {v : Int32} {I' : MI} {J' : MJ} {P : am_R → am_H → Prop}, R 2 0 0 I J = some (v, I', J') → P (.inl (some (.int v))) (hX X I' J') → am_E (gG L xs) (d + 1) m_Model_readFactor (0, lv_args 0 [.ref 112], []) (hX X I J) P) (hR_3 : ∀ {I : MI} {J : MJ} {v : Int32} {I' : MI} {J' : MJ} {P : am_R → am_H → Prop}, R 3 0 0 I J = some (v, I', J') → P (.inl (some (.int v))) (hX X I' J') → am_E (gG L xs) (d + 1) m_Model_readPart (0, lv_args 0 [.ref 112], []) (hX X I J) P) (hR_4 : ∀ {I : MI} {J : MJ} {v : Int32} {I' : MI} {J' : MJ} {P : am_R → am_H → Prop}, R 4 0 0 I J = some (v, I', J') → P (.inl (some (.int v))) (hX X I' J') → am_E (gG L xs) (d + 1) m_Model_readPlace (0, lv_args 0 [.ref 112], []) (hX X I J) P) (hR_5 : ∀ {I : MI} {J : MJ} {v : Int32} {I' : MI} {J' : MJ} {P : am_R → am_H → Prop}, R 5 0 0 I J = some (v, I', J') → P (.inl (some (.int v))) (hX X I' J') → am_E (gG L xs) (d + 1) m_Model_readStatements (0, lv_args 0 [.ref 112], []) (hX X I J) P) (hR_6 : ∀ {I : MI} {J : MJ} {v : Int32} {I' : MI} {J' : MJ} {P : am_R → am_H → Prop}, R 6 0 0 I J = some (v, I', J') → P (.inl (some (.int v))) (hX X I' J') → am_E (gG L xs) (d + 1) m_Model_readStatement (0, lv_args 0 [.ref 112], []) (hX X I J) P) (hR_7 : ∀ {I : MI} {J : MJ} {v : Int32} {I' : MI} {J' : MJ} {P : am_R → am_H → Prop}, R 7 0 0 I J = some (v, I', J') → P (.inl (some (.int v))) (hX X I' J') → am_E (gG L xs) (d + 1) m_Model_readRoutine (0, lv_args 0 [.ref 112], []) (hX X I J) P) (hR_8 : ∀ {a0 : Int32} {a1 : Int32} {I : MI} {J : MJ} {v : Int32} {I' : MI} {J' : MJ} {P : am_R → am_H → Prop}, R 8 a0 a1 I J = some (v, I', J') → P (.inl (some (.int v))) (hX X I' J') → am_E (gG L xs) (d + 1) m_Model_readValue (0, lv_args 0 [.ref 112, .int a0, .int a1], []) (hX X I J) P) (hR_9 : ∀ {a0 : Int32} {I : MI} {J : MJ} {v : Int32} {I' : MI} {J' : MJ} {P : am_R → am_H → Prop}, R 9 a0 0 I J = some (v, I', J') → P (.inl (some (.int v))) (hX X I' J') → am_E (gG L xs) (d + 1) m_Model_readRow (0, lv_args 0 [.ref 112, .int a0], []) (hX X I J) P) (hR_10 : ∀ {a0 : Int32} {I : MI} {J : MJ} {v : Int32} {I' : MI} {J' : MJ} {P : am_R → am_H → Prop}, R 10 a0 0 I J = some (v, I', J') → P (.inl (some (.int v))) (hX X I' J') → am_E (gG L xs) (d + 1) m_Model_readTurn (0, lv_args 0 [.ref 112, .int a0], []) (hX X I J) P) : ∀ (fu : Nat) {l1 : Int32} {I : MI} {J : MJ} {r : (Int32 ⊕ (Int32))} {I' : MI} {J' : MJ}, f_Model_readProduct_14 R  fu l1 I J = some (r, I', J') → (∀ v, r = .inl v → P (.inl (some (.int v))) (hX X I' J')) → (∀ u, r = .inr u → am_E (gG L xs) (d + 2) m_Model_readProduct (74, [(0, .ref 112), (1, .int u)], []) (hX X I' J') P) → am_E (gG L xs) (d + 2) m_Model_readProduct (14, [(0, .ref 112), (1, .int l1)], []) (hX X I J) P := by
  intro fu
  induction fu with
  | zero =>
    intros
    rename_i hb _ _
    cases hb
  | succ fu ih =>
    intro l1 I J r I' J' hb K1 K2
    unfold f_Model_readProduct_14 at hb
    refine e_k 2 (f' := (17, [(0, .ref 112), (1, .int l1)], [.int 42, .ref 112])) rfl ?_
    obtain ⟨v4, I4, J4, h4, hb⟩ := oc_call hb
    refine r_cv (z := m_Model_takes) (As := [.int 42]) (rest := []) rfl rfl rfl rfl rfl (x_ltn rfl) rfl rfl (E_Model_takes  h4 ⟨_, rfl, ?_⟩)
    refine e_k 1 (f' := (if v4 = 0 then 74 else 23, [(0, .ref 112), (1, .int l1)], [])) rfl ?_
    refine e_if (fun c5 => ?_) (fun c5 => ?_)
    · replace hb := i_pos c5 hb
      refine e_sub (ls := [(0, .ref 112), (1, .int l1)]) rfl ⟨rfl, rfl, trivial⟩ ?_
      obtain ⟨rfl, rfl, rfl⟩ := s_inj hb
      exact K2 _ rfl
    · replace hb := i_neg c5 hb
      refine e_k 1 (f' := (24, [(0, .ref 112), (1, .int l1)], [.ref 112])) rfl ?_
      obtain ⟨v6, I6, J6, h6, hb⟩ := oc_call hb
      refine r_cv (z := m_Model_readFactor) (As := []) (rest := []) rfl rfl rfl rfl rfl (x_ltn rfl) rfl rfl (hR_2  h6 ⟨_, rfl, ?_⟩)
      refine e_k 1 (f' := (if ¬ v6 = 0 then 32 else 30, [(0, .ref 112), (1, .int l1)], [])) rfl ?_
      refine e_if (fun c7 => ?_) (fun c7 => ?_)
      · replace hb := i_pos c7 hb
        refine e_k 3 (f' := (if l1 = 0 then 49 else 37, [(0, .ref 112), (1, .int l1)], [.ref 112])) rfl ?_
        obtain ⟨v9, h9, hb⟩ := p_nn hb
        have Kj9 : am_E (gG L xs) (d + 2) m_Model_readProduct (51, [(0, .ref 112), (1, .int l1)], [.int v9, .ref 112]) (hX X I6 J6) P := by
          obtain ⟨v12, I12, J12, h12, hb⟩ := oc_call hb
          refine r_cv (z := m_Model_lay_IV) (As := [.int v9]) (rest := []) rfl rfl rfl rfl rfl (x_ltn rfl) rfl rfl (E_Model_lay_IV  h12 ⟨_, rfl, ?_⟩)
          refine e_k 2 (f' := (if ¬ l1 = 0 then 65 else 58, [(0, .ref 112), (1, .int l1)], [])) rfl ?_
          refine e_if (fun c13 => ?_) (fun c13 => ?_)
          · replace hb := i_pos c13 hb
            refine e_k 4 (f' := (14, [(1, .int 1), (0, .ref 112)], [])) rfl ?_
            refine e_sub (ls := [(0, .ref 112), (1, .int 1)]) rfl ⟨rfl, rfl, trivial⟩ ?_
            exact ih  hb K1 K2
          · replace hb := i_neg c13 hb
            refine e_k 1 (f' := (59, [(0, .ref 112), (1, .int l1)], [.ref 112])) rfl ?_
            refine r_geti rfl (x_ltn rfl) rfl rfl ?_
            refine e_k 1 (f' := (if (I12 112 73) = 0 then 69 else 65, [(0, .ref 112), (1, .int l1)], [])) rfl ?_
            refine e_if (fun c14 => ?_) (fun c14 => ?_)
            · replace hb := i_pos c14 hb
              refine e_k 3 (f' := (14, [(1, .int 0), (0, .ref 112)], [])) rfl ?_
              refine e_sub (ls := [(0, .ref 112), (1, .int 0)]) rfl ⟨rfl, rfl, trivial⟩ ?_
              exact ih  hb K1 K2
            · replace hb := i_neg c14 hb
              refine e_k 4 (f' := (14, [(1, .int 1), (0, .ref 112)], [])) rfl ?_
              refine e_sub (ls := [(0, .ref 112), (1, .int 1)]) rfl ⟨rfl, rfl, trivial⟩ ?_
              exact ih  hb K1 K2
        clear hb
        refine e_if (fun c10 => ?_) (fun c10 => ?_)
        · replace h9 := i_pos c10 h9
          refine e_k 1 (f' := (51, [(0, .ref 112), (1, .int l1)], [.int 6, .ref 112])) rfl ?_
          refine e_sub (ls := [(0, .ref 112), (1, .int l1)]) rfl ⟨rfl, rfl, trivial⟩ ?_
          subst h9
          exact Kj9
        · replace h9 := i_neg c10 h9
          refine e_k 1 (f' := (38, [(0, .ref 112), (1, .int l1)], [.ref 112, .ref 112])) rfl ?_
          refine r_geti rfl (x_ltn rfl) rfl rfl ?_
          refine e_k 1 (f' := (if (I6 112 73) = 0 then 49 else 44, [(0, .ref 112), (1, .int l1)], [.ref 112])) rfl ?_
          refine e_if (fun c11 => ?_) (fun c11 => ?_)
          · replace h9 := i_pos c11 h9
            refine e_k 1 (f' := (51, [(0, .ref 112), (1, .int l1)], [.int 6, .ref 112])) rfl ?_
            refine e_sub (ls := [(0, .ref 112), (1, .int l1)]) rfl ⟨rfl, rfl, trivial⟩ ?_
            subst h9
            exact Kj9
          · replace h9 := i_neg c11 h9
            refine e_k 2 (f' := (51, [(0, .ref 112), (1, .int l1)], [.int 7, .ref 112])) rfl ?_
            refine e_sub (ls := [(0, .ref 112), (1, .int l1)]) rfl ⟨rfl, rfl, trivial⟩ ?_
            subst h9
            exact Kj9
      · replace hb := i_neg c7 hb
        refine e_k 1 (f' := (31, [(0, .ref 112), (1, .int l1)], [.int 0])) rfl ?_
        obtain ⟨rfl, rfl, rfl⟩ := s_inj hb
        exact e_r rfl rfl (K1 _ rfl)
theorem E_Model_readProduct {R : M3} {X : MX} {I : MI} {J : MJ} {v : Int32} {I' : MI} {J' : MJ} (hR_0 : ∀ {I : MI} {J : MJ} {v : Int32} {I' : MI} {J' : MJ} {P : am_R → am_H → Prop}, R 0 0 0 I J = some (v, I', J') → P (.inl (some (.int v))) (hX X I' J') → am_E (gG L xs) (d + 1) m_Model_readX (0, lv_args 0 [.ref 112], []) (hX X I J) P) (hR_1 : ∀ {I : MI} {J : MJ} {v : Int32} {I' : MI} {J' : MJ} {P : am_R → am_H → Prop}, R 1 0 0 I J = some (v, I', J') → P (.inl (some (.int v))) (hX X I' J') → am_E (gG L xs) (d + 1) m_Model_readProduct (0, lv_args 0 [.ref 112], []) (hX X I J) P) (hR_2 : ∀ {I : MI} {J : MJ} {v : Int32} {I' : MI} {J' : MJ} {P : am_R → am_H → Prop}, R 2 0 0 I J = some (v, I', J') → P (.inl (some (.int v))) (hX X I' J') → am_E (gG L xs) (d + 1) m_Model_readFactor (0, lv_args 0 [.ref 112], []) (hX X I J) P) (hR_3 : ∀ {I : MI} {J : MJ} {v : Int32} {I' : MI} {J' : MJ} {P : am_R → am_H → Prop}, R 3 0 0 I J = some (v, I', J') → P (.inl (some (.int v))) (hX X I' J') → am_E (gG L xs) (d + 1) m_Model_readPart (0, lv_args 0 [.ref 112], []) (hX X I J) P) (hR_4 : ∀ {I : MI} {J : MJ} {v : Int32} {I' : MI} {J' : MJ} {P : am_R → am_H → Prop}, R 4 0 0 I J = some (v, I', J') → P (.inl (some (.int v))) (hX X I' J') → am_E (gG L xs) (d + 1) m_Model_readPlace (0, lv_args 0 [.ref 112], []) (hX X I J) P) (hR_5 : ∀ {I : MI} {J : MJ} {v : Int32} {I' : MI} {J' : MJ} {P : am_R → am_H → Prop}, R 5 0 0 I J = some (v, I', J') → P (.inl (some (.int v))) (hX X I' J') → am_E (gG L xs) (d + 1) m_Model_readStatements (0, lv_args 0 [.ref 112], []) (hX X I J) P) (hR_6 : ∀ {I : MI} {J : MJ} {v : Int32} {I' : MI} {J' : MJ} {P : am_R → am_H → Prop}, R 6 0 0 I J = some (v, I', J') → P (.inl (some (.int v))) (hX X I' J') → am_E (gG L xs) (d + 1) m_Model_readStatement (0, lv_args 0 [.ref 112], []) (hX X I J) P) (hR_7 : ∀ {I : MI} {J : MJ} {v : Int32} {I' : MI} {J' : MJ} {P : am_R → am_H → Prop}, R 7 0 0 I J = some (v, I', J') → P (.inl (some (.int v))) (hX X I' J') → am_E (gG L xs) (d + 1) m_Model_readRoutine (0, lv_args 0 [.ref 112], []) (hX X I J) P) (hR_8 : ∀ {a0 : Int32} {a1 : Int32} {I : MI} {J : MJ} {v : Int32} {I' : MI} {J' : MJ} {P : am_R → am_H → Prop}, R 8 a0 a1 I J = some (v, I', J') → P (.inl (some (.int v))) (hX X I' J') → am_E (gG L xs) (d + 1) m_Model_readValue (0, lv_args 0 [.ref 112, .int a0, .int a1], []) (hX X I J) P) (hR_9 : ∀ {a0 : Int32} {I : MI} {J : MJ} {v : Int32} {I' : MI} {J' : MJ} {P : am_R → am_H → Prop}, R 9 a0 0 I J = some (v, I', J') → P (.inl (some (.int v))) (hX X I' J') → am_E (gG L xs) (d + 1) m_Model_readRow (0, lv_args 0 [.ref 112, .int a0], []) (hX X I J) P) (hR_10 : ∀ {a0 : Int32} {I : MI} {J : MJ} {v : Int32} {I' : MI} {J' : MJ} {P : am_R → am_H → Prop}, R 10 a0 0 I J = some (v, I', J') → P (.inl (some (.int v))) (hX X I' J') → am_E (gG L xs) (d + 1) m_Model_readTurn (0, lv_args 0 [.ref 112, .int a0], []) (hX X I J) P) (hb : f_Model_readProduct R  I J = some (v, I', J')) (K : P (.inl (some (.int v))) (hX X I' J')) : am_E (gG L xs) (d + 2) m_Model_readProduct (0, lv_args 0 [.ref 112], []) (hX X I J) P := by
  unfold f_Model_readProduct at hb
  refine e_k 1 (f' := (1, [(0, .ref 112)], [.ref 112])) rfl ?_
  obtain ⟨v1, I1, J1, h1, hb⟩ := oc_call hb
  refine r_cv (z := m_Model_readFactor) (As := []) (rest := []) rfl rfl rfl rfl rfl (x_ltn rfl) rfl rfl (hR_2  h1 ⟨_, rfl, ?_⟩)
  refine e_k 1 (f' := (if ¬ v1 = 0 then 9 else 7, [(0, .ref 112)], [])) rfl ?_
  refine e_if (fun c2 => ?_) (fun c2 => ?_)
  · replace hb := i_pos c2 hb
    refine e_k 1 (f' := (10, [(0, .ref 112)], [.ref 112])) rfl ?_
    refine r_geti rfl (x_ltn rfl) rfl rfl ?_
    refine e_k 1 (f' := (14, [(1, .int (I1 112 73)), (0, .ref 112)], [])) rfl ?_
    obtain ⟨x3, ex3, hb⟩ := p_nm hb
    rw [← ex3]
    refine e_sub (ls := [(0, .ref 112), (1, .int x3)]) rfl ⟨rfl, rfl, trivial⟩ ?_
    obtain ⟨q15, I15, J15, h15, hb⟩ := oc_call hb
    refine E_Model_readProduct_14 hR_0 hR_1 hR_2 hR_3 hR_4 hR_5 hR_6 hR_7 hR_8 hR_9 hR_10 gF  h15 (fun y15 ey15 => ?_) (fun u15 ey15 => ?_)
    · subst ey15
      replace hb := oe_l hb
      obtain ⟨rfl, rfl, rfl⟩ := s_inj hb
      exact K
    · subst ey15
      replace hb := oe_r hb
      refine e_k 2 (f' := (76, [(0, .ref 112), (1, .int u15)], [.int u15, .ref 112])) rfl ?_
      obtain ⟨o17, hb⟩ := ob_if hb
      obtain ⟨I16, eI16, hb⟩ := p_nm hb
      refine r_putz' rfl (x_ltn rfl) rfl rfl o17 eI16 ?_
      refine e_k 1 (f' := (80, [(0, .ref 112), (1, .int u15)], [.int 1])) rfl ?_
      obtain ⟨rfl, rfl, rfl⟩ := s_inj hb
      exact e_r rfl rfl K
  · replace hb := i_neg c2 hb
    refine e_k 1 (f' := (8, [(0, .ref 112)], [.int 0])) rfl ?_
    obtain ⟨rfl, rfl, rfl⟩ := s_inj hb
    exact e_r rfl rfl K
end AUTO
