section AUTO
variable {L : Nat} {xs : Nat → Int32} {d : Nat} {P : am_R → am_H → Prop}
theorem E_Model_numbers {p1 : Int32} {X : MX} {I : MI} {J : MJ} {v : Int32} {I' : MI} {J' : MJ} (hb : f_Model_numbers p1 I J = some (v, I', J')) (K : P (.inl (some (.int v))) (hX X I' J')) : am_E (gG L xs) d m_Model_numbers (0, lv_args 0 [.int p1], []) (hX X I J) P := by
  unfold f_Model_numbers at hb
  refine e_k 3 (f' := (if ¬ p1 = 2 then 9 else 5, [(0, .int p1)], [])) rfl ?_
  refine e_if (fun c1 => ?_) (fun c1 => ?_)
  · replace hb := i_pos c1 hb
    refine e_k 3 (f' := (if ¬ p1 = 5 then 19 else 14, [(0, .int p1)], [])) rfl ?_
    refine e_if (fun c2 => ?_) (fun c2 => ?_)
    · replace hb := i_pos c2 hb
      refine e_k 3 (f' := (if ¬ p1 = 1 then 28 else 24, [(0, .int p1)], [])) rfl ?_
      refine e_if (fun c3 => ?_) (fun c3 => ?_)
      · replace hb := i_pos c3 hb
        refine e_k 1 (f' := (29, [(0, .int p1)], [.int 1])) rfl ?_
        obtain ⟨rfl, rfl, rfl⟩ := s_inj hb
        exact e_r rfl rfl K
      · replace hb := i_neg c3 hb
        refine e_k 2 (f' := (29, [(0, .int p1)], [.int 0])) rfl ?_
        obtain ⟨rfl, rfl, rfl⟩ := s_inj hb
        exact e_r rfl rfl K
    · replace hb := i_neg c2 hb
      refine e_k 2 (f' := (29, [(0, .int p1)], [.int 32])) rfl ?_
      obtain ⟨rfl, rfl, rfl⟩ := s_inj hb
      exact e_r rfl rfl K
  · replace hb := i_neg c1 hb
    refine e_k 2 (f' := (29, [(0, .int p1)], [.int 2])) rfl ?_
    obtain ⟨rfl, rfl, rfl⟩ := s_inj hb
    exact e_r rfl rfl K
theorem E_Model_push {p2 : Int32} {p3 : Int64} {X : MX} {I : MI} {J : MJ} {v : Unit} {I' : MI} {J' : MJ} (hb : f_Model_push p2 p3 I J = some (v, I', J')) (K : P (.inl (none)) (hX X I' J')) : am_E (gG L xs) d m_Model_push (0, lv_args 0 [.ref 112, .int p2, .long p3], []) (hX X I J) P := by
  unfold f_Model_push at hb
  refine e_k 1 (f' := (1, [(0, .ref 112), (1, .int p2), (2, .long p3)], [.ref 112])) rfl ?_
  refine r_getr rfl (x_ltn rfl) rfl rfl ?_
  refine e_k 4 (f' := (9, [(0, .ref 112), (1, .int p2), (2, .long p3)], [.ref 112, .int (65 * p2), .ref 144])) rfl ?_
  refine r_getr rfl (x_ltn rfl) rfl rfl ?_
  refine e_k 1 (f' := (13, [(0, .ref 112), (1, .int p2), (2, .long p3)], [.int p2, .ref 145, .int (65 * p2), .ref 144])) rfl ?_
  obtain ⟨o1, hb⟩ := ob_in hb
  refine r_iald rfl rfl (x_ltn rfl) rfl o1 ?_
  refine e_k 2 (f' := (16, [(0, .ref 112), (1, .int p2), (2, .long p3)], [.long p3, .int ((65 * p2) + (I 145 (Int32.toNatClampNeg p2))), .ref 144])) rfl ?_
  obtain ⟨o2, hb⟩ := ob_in hb
  obtain ⟨J3, eJ3, hb⟩ := p_nm hb
  refine r_last' rfl (x_ltn rfl) rfl o2 eJ3 ?_
  refine e_k 1 (f' := (18, [(0, .ref 112), (1, .int p2), (2, .long p3)], [.ref 112])) rfl ?_
  refine r_getr rfl (x_ltn rfl) rfl rfl ?_
  refine e_k 2 (f' := (23, [(0, .ref 112), (1, .int p2), (2, .long p3)], [.int p2, .ref 145, .int p2, .ref 145])) rfl ?_
  obtain ⟨o4, hb⟩ := ob_in hb
  refine r_iald rfl rfl (x_ltn rfl) rfl o4 ?_
  refine e_k 2 (f' := (26, [(0, .ref 112), (1, .int p2), (2, .long p3)], [.int ((I 145 (Int32.toNatClampNeg p2)) + 1), .int p2, .ref 145])) rfl ?_
  obtain ⟨o5, hb⟩ := ob_in hb
  obtain ⟨I6, eI6, hb⟩ := p_nm hb
  refine r_iast' rfl (x_ltn rfl) rfl o5 eI6 ?_
  obtain ⟨rfl, rfl, rfl⟩ := s_inj hb
  exact e_r rfl rfl K
theorem E_Model_pop {p2 : Int32} {X : MX} {I : MI} {J : MJ} {v : Int64} {I' : MI} {J' : MJ} (hb : f_Model_pop p2 I J = some (v, I', J')) (K : P (.inl (some (.long v))) (hX X I' J')) : am_E (gG L xs) d m_Model_pop (0, lv_args 0 [.ref 112, .int p2], []) (hX X I J) P := by
  unfold f_Model_pop at hb
  refine e_k 1 (f' := (1, [(0, .ref 112), (1, .int p2)], [.ref 112])) rfl ?_
  refine r_getr rfl (x_ltn rfl) rfl rfl ?_
  refine e_k 2 (f' := (6, [(0, .ref 112), (1, .int p2)], [.int p2, .ref 145, .int p2, .ref 145])) rfl ?_
  obtain ⟨o1, hb⟩ := ob_in hb
  refine r_iald rfl rfl (x_ltn rfl) rfl o1 ?_
  refine e_k 2 (f' := (9, [(0, .ref 112), (1, .int p2)], [.int ((I 145 (Int32.toNatClampNeg p2)) - 1), .int p2, .ref 145])) rfl ?_
  obtain ⟨o2, hb⟩ := ob_in hb
  obtain ⟨I3, eI3, hb⟩ := p_nm hb
  refine r_iast' rfl (x_ltn rfl) rfl o2 eI3 ?_
  refine e_k 1 (f' := (11, [(0, .ref 112), (1, .int p2)], [.ref 112])) rfl ?_
  refine r_getr rfl (x_ltn rfl) rfl rfl ?_
  refine e_k 4 (f' := (19, [(0, .ref 112), (1, .int p2)], [.ref 112, .int (65 * p2), .ref 144])) rfl ?_
  refine r_getr rfl (x_ltn rfl) rfl rfl ?_
  refine e_k 1 (f' := (23, [(0, .ref 112), (1, .int p2)], [.int p2, .ref 145, .int (65 * p2), .ref 144])) rfl ?_
  obtain ⟨o4, hb⟩ := ob_in hb
  refine r_iald rfl rfl (x_ltn rfl) rfl o4 ?_
  refine e_k 1 (f' := (25, [(0, .ref 112), (1, .int p2)], [.int ((65 * p2) + (I3 145 (Int32.toNatClampNeg p2))), .ref 144])) rfl ?_
  obtain ⟨o5, hb⟩ := ob_in hb
  refine r_lald rfl rfl (x_ltn rfl) rfl o5 ?_
  obtain ⟨rfl, rfl, rfl⟩ := s_inj hb
  exact e_r rfl rfl K
theorem E_Model_goOn_55 {X : MX} {p2 : Int32} : ∀ (fu : Nat) {l1 : Int32} {l2 : Int32} {l3 : Int32} {l4 : Int64} {l6 : Int32} {I : MI} {J : MJ} {r : (Int64)} {I' : MI} {J' : MJ}, f_Model_goOn_55 p2 fu l1 l2 l3 l4 l6 I J = some (r, I', J') → am_E (gG L xs) d m_Model_goOn (86, [(0, .ref 112), (1, .int l1), (3, .int l3), (4, .long r)], []) (hX X I' J') P → am_E (gG L xs) d m_Model_goOn (55, [(0, .ref 112), (1, .int l1), (2, .int l2), (3, .int l3), (4, .long l4), (6, .int l6)], []) (hX X I J) P := by
  intro fu
  induction fu with
  | zero =>
    intros
    rename_i hb _
    cases hb
  | succ fu ih =>
    intro l1 l2 l3 l4 l6 I J r I' J' hb K
    unfold f_Model_goOn_55 at hb
    refine e_k 3 (f' := (if 9 ≤ l6 then 86 else 62, [(0, .ref 112), (1, .int l1), (2, .int l2), (3, .int l3), (4, .long l4), (6, .int l6)], [])) rfl ?_
    refine e_if (fun c30 => ?_) (fun c30 => ?_)
    · replace hb := i_pos c30 hb
      refine e_sub (ls := [(0, .ref 112), (1, .int l1), (3, .int l3), (4, .long l4)]) rfl ⟨rfl, rfl, rfl, rfl, trivial⟩ ?_
      obtain ⟨rfl, rfl, rfl⟩ := s_inj hb
      exact K
    · replace hb := i_neg c30 hb
      refine e_k 4 (f' := (68, [(0, .ref 112), (1, .int l1), (2, .int l2), (3, .int l3), (4, .long l4), (6, .int l6)], [.ref 112, .long (l4 <<< ((Int32.toInt64 8) &&& 63))])) rfl ?_
      refine r_getr rfl (x_ltn rfl) rfl rfl ?_
      refine e_k 3 (f' := (75, [(0, .ref 112), (1, .int l1), (2, .int l2), (3, .int l3), (4, .long l4), (6, .int l6)], [.int (l2 + l6), .ref 114, .long (l4 <<< ((Int32.toInt64 8) &&& 63))])) rfl ?_
      obtain ⟨o31, hb⟩ := ob_in hb
      refine r_iald rfl rfl (x_ltn rfl) rfl o31 ?_
      refine e_k 3 (f' := (80, [(4, .long ((l4 <<< ((Int32.toInt64 8) &&& 63)) ||| (Int32.toInt64 (I 114 (Int32.toNatClampNeg (l2 + l6)))))), (0, .ref 112), (1, .int l1), (2, .int l2), (3, .int l3), (6, .int l6)], [])) rfl ?_
      obtain ⟨x32, ex32, hb⟩ := p_nm hb
      rw [← ex32]
      refine e_k 2 (f' := (55, [(6, .int (l6 + 1)), (4, .long x32), (0, .ref 112), (1, .int l1), (2, .int l2), (3, .int l3)], [])) rfl ?_
      refine e_sub (ls := [(0, .ref 112), (1, .int l1), (2, .int l2), (3, .int l3), (4, .long x32), (6, .int (l6 + 1))]) rfl ⟨rfl, rfl, rfl, rfl, rfl, rfl, trivial⟩ ?_
      exact ih  hb K
theorem E_Model_goOn_0 {X : MX} {p2 : Int32} : ∀ (fu : Nat) {l1 : Int32} {I : MI} {J : MJ} {r : (Unit)} {I' : MI} {J' : MJ}, f_Model_goOn_0 p2 fu l1 I J = some (r, I', J') → am_E (gG L xs) (d + 1) m_Model_goOn (155, [], []) (hX X I' J') P → am_E (gG L xs) (d + 1) m_Model_goOn (0, [(0, .ref 112), (1, .int l1)], []) (hX X I J) P := by
  intro fu
  induction fu with
  | zero =>
    intros
    rename_i hb _
    cases hb
  | succ fu ih =>
    intro l1 I J r I' J' hb K
    unfold f_Model_goOn_0 at hb
    refine e_k 1 (f' := (1, [(0, .ref 112), (1, .int l1)], [.ref 112])) rfl ?_
    refine r_getr rfl (x_ltn rfl) rfl rfl ?_
    refine e_k 1 (f' := (5, [(0, .ref 112), (1, .int l1)], [.ref 112, .ref 114])) rfl ?_
    refine r_getr rfl (x_ltn rfl) rfl rfl ?_
    refine e_k 1 (f' := (9, [(0, .ref 112), (1, .int l1)], [.int l1, .ref 127, .ref 114])) rfl ?_
    obtain ⟨o1, hb⟩ := ob_in hb
    refine r_iald rfl rfl (x_ltn rfl) rfl o1 ?_
    obtain ⟨o2, hb⟩ := ob_in hb
    refine r_iald rfl rfl (x_ltn rfl) rfl o2 ?_
    refine e_k 2 (f' := (if (I 114 (Int32.toNatClampNeg (I 127 (Int32.toNatClampNeg l1)))) < 1 then 155 else 15, [(0, .ref 112), (1, .int l1)], [])) rfl ?_
    refine e_if (fun c3 => ?_) (fun c3 => ?_)
    · replace hb := i_pos c3 hb
      refine e_sub (ls := []) rfl ⟨⟩ ?_
      obtain ⟨rfl, rfl, rfl⟩ := s_inj hb
      exact K
    · replace hb := i_neg c3 hb
      refine e_k 1 (f' := (16, [(0, .ref 112), (1, .int l1)], [.ref 112])) rfl ?_
      refine r_getr rfl (x_ltn rfl) rfl rfl ?_
      refine e_k 1 (f' := (20, [(0, .ref 112), (1, .int l1)], [.ref 112, .ref 114])) rfl ?_
      refine r_getr rfl (x_ltn rfl) rfl rfl ?_
      refine e_k 1 (f' := (24, [(0, .ref 112), (1, .int l1)], [.int l1, .ref 127, .ref 114])) rfl ?_
      obtain ⟨o4, hb⟩ := ob_in hb
      refine r_iald rfl rfl (x_ltn rfl) rfl o4 ?_
      obtain ⟨o5, hb⟩ := ob_in hb
      refine r_iald rfl rfl (x_ltn rfl) rfl o5 ?_
      refine e_k 2 (f' := (if 3 < (I 114 (Int32.toNatClampNeg (I 127 (Int32.toNatClampNeg l1)))) then 155 else 30, [(0, .ref 112), (1, .int l1)], [])) rfl ?_
      refine e_if (fun c6 => ?_) (fun c6 => ?_)
      · replace hb := i_pos c6 hb
        refine e_sub (ls := []) rfl ⟨⟩ ?_
        obtain ⟨rfl, rfl, rfl⟩ := s_inj hb
        exact K
      · replace hb := i_neg c6 hb
        refine e_k 1 (f' := (31, [(0, .ref 112), (1, .int l1)], [.ref 112])) rfl ?_
        refine r_getr rfl (x_ltn rfl) rfl rfl ?_
        refine e_k 1 (f' := (35, [(0, .ref 112), (1, .int l1)], [.int l1, .ref 127])) rfl ?_
        obtain ⟨o7, hb⟩ := ob_in hb
        refine r_iald rfl rfl (x_ltn rfl) rfl o7 ?_
        refine e_k 1 (f' := (37, [(2, .int (I 127 (Int32.toNatClampNeg l1))), (0, .ref 112), (1, .int l1)], [])) rfl ?_
        obtain ⟨x8, ex8, hb⟩ := p_nm hb
        rw [← ex8]
        refine e_k 1 (f' := (38, [(2, .int x8), (0, .ref 112), (1, .int l1)], [.ref 112])) rfl ?_
        refine r_getr rfl (x_ltn rfl) rfl rfl ?_
        refine e_k 1 (f' := (42, [(2, .int x8), (0, .ref 112), (1, .int l1)], [.int x8, .ref 114])) rfl ?_
        obtain ⟨o9, hb⟩ := ob_in hb
        refine r_iald rfl rfl (x_ltn rfl) rfl o9 ?_
        refine e_k 1 (f' := (44, [(3, .int (I 114 (Int32.toNatClampNeg x8))), (2, .int x8), (0, .ref 112), (1, .int l1)], [])) rfl ?_
        obtain ⟨x10, ex10, hb⟩ := p_nm hb
        rw [← ex10]
        refine e_k 3 (f' := (if ¬ x10 = 1 then 96 else 49, [(3, .int x10), (2, .int x8), (0, .ref 112), (1, .int l1)], [])) rfl ?_
        obtain ⟨v20, I20, J20, h20, hb⟩ := oc_call hb
        have Kj20 : am_E (gG L xs) (d + 1) m_Model_goOn (139, [(0, .ref 112), (1, .int l1), (3, .int x10)], []) (hX X I20 J20) P := by
          refine e_k 1 (f' := (140, [(0, .ref 112), (1, .int l1), (3, .int x10)], [.ref 112])) rfl ?_
          refine r_getr rfl (x_ltn rfl) rfl rfl ?_
          refine e_k 2 (f' := (145, [(0, .ref 112), (1, .int l1), (3, .int x10)], [.int l1, .ref 127, .int l1, .ref 127])) rfl ?_
          obtain ⟨o35, hb⟩ := ob_in hb
          refine r_iald rfl rfl (x_ltn rfl) rfl o35 ?_
          refine e_k 1 (f' := (147, [(0, .ref 112), (1, .int l1), (3, .int x10)], [.int x10, .int (I20 127 (Int32.toNatClampNeg l1)), .int l1, .ref 127])) rfl ?_
          obtain ⟨v36, I36, J36, h36, hb⟩ := oc_call hb
          refine r_cs (z := m_Model_longOf) (As := [.int x10]) (rest := [.int (I20 127 (Int32.toNatClampNeg l1)), .int l1, .ref 127]) rfl rfl rfl rfl rfl rfl (E_Model_longOf  h36 ⟨_, rfl, ?_⟩)
          refine e_k 1 (f' := (151, [(0, .ref 112), (1, .int l1), (3, .int x10)], [.int ((I20 127 (Int32.toNatClampNeg l1)) + v36), .int l1, .ref 127])) rfl ?_
          obtain ⟨o37, hb⟩ := ob_in hb
          obtain ⟨I38, eI38, hb⟩ := p_nm hb
          refine r_iast' rfl (x_ltn rfl) rfl o37 eI38 ?_
          refine e_k 1 (f' := (0, [(0, .ref 112), (1, .int l1), (3, .int x10)], [])) rfl ?_
          refine e_sub (ls := [(0, .ref 112), (1, .int l1)]) rfl ⟨rfl, rfl, trivial⟩ ?_
          exact ih  hb K
        clear hb
        refine e_if (fun c21 => ?_) (fun c21 => ?_)
        · replace h20 := i_pos c21 h20
          refine e_k 3 (f' := (99, [(3, .int x10), (2, .int x8), (0, .ref 112), (1, .int l1)], [.ref 112, .int l1, .ref 112])) rfl ?_
          refine r_getr rfl (x_ltn rfl) rfl rfl ?_
          refine e_k 6 (f' := (if ¬ x10 = 2 then 123 else 112, [(3, .int x10), (2, .int x8), (0, .ref 112), (1, .int l1)], [.int (154 * l1), .ref 143, .int l1, .ref 112])) rfl ?_
          obtain ⟨v24, I24, J24, h24, h20⟩ := oc_call h20
          have Kj24 : am_E (gG L xs) (d + 1) m_Model_goOn (134, [(0, .ref 112), (1, .int l1), (3, .int x10)], [.int v24, .int (154 * l1), .ref 143, .int l1, .ref 112]) (hX X I24 J24) P := by
            refine e_k 1 (f' := (135, [(0, .ref 112), (1, .int l1), (3, .int x10)], [.int ((154 * l1) + v24), .ref 143, .int l1, .ref 112])) rfl ?_
            obtain ⟨o28, h20⟩ := ob_in h20
            refine r_lald rfl rfl (x_ltn rfl) rfl o28 ?_
            obtain ⟨v29, I29, J29, h29, h20⟩ := oc_call h20
            refine r_cv (z := m_Model_push) (As := [.int l1, .long (J24 143 (Int32.toNatClampNeg ((154 * l1) + v24)))]) (rest := []) rfl rfl rfl rfl rfl (x_ltn rfl) rfl rfl (E_Model_push  h29 ⟨_, rfl, ?_⟩)
            refine e_sub (ls := [(0, .ref 112), (1, .int l1), (3, .int x10)]) rfl ⟨rfl, rfl, rfl, trivial⟩ ?_
            obtain ⟨rfl, rfl, rfl⟩ := s_inj h20
            exact Kj20
          clear h20
          refine e_if (fun c25 => ?_) (fun c25 => ?_)
          · replace h24 := i_pos c25 h24
            refine e_k 2 (f' := (126, [(3, .int x10), (2, .int x8), (0, .ref 112), (1, .int l1)], [.ref 112, .int 13, .int (154 * l1), .ref 143, .int l1, .ref 112])) rfl ?_
            refine r_getr rfl (x_ltn rfl) rfl rfl ?_
            refine e_k 3 (f' := (132, [(3, .int x10), (2, .int x8), (0, .ref 112), (1, .int l1)], [.int (x8 + 1), .ref 114, .int 13, .int (154 * l1), .ref 143, .int l1, .ref 112])) rfl ?_
            obtain ⟨o26, h24⟩ := ob_in h24
            refine r_iald rfl rfl (x_ltn rfl) rfl o26 ?_
            refine e_k 1 (f' := (134, [(3, .int x10), (2, .int x8), (0, .ref 112), (1, .int l1)], [.int (13 + (I 114 (Int32.toNatClampNeg (x8 + 1)))), .int (154 * l1), .ref 143, .int l1, .ref 112])) rfl ?_
            refine e_sub (ls := [(0, .ref 112), (1, .int l1), (3, .int x10)]) rfl ⟨rfl, rfl, rfl, trivial⟩ ?_
            obtain ⟨rfl, rfl, rfl⟩ := s_inj h24
            exact Kj24
          · replace h24 := i_neg c25 h24
            refine e_k 1 (f' := (113, [(3, .int x10), (2, .int x8), (0, .ref 112), (1, .int l1)], [.ref 112, .int (154 * l1), .ref 143, .int l1, .ref 112])) rfl ?_
            refine r_getr rfl (x_ltn rfl) rfl rfl ?_
            refine e_k 3 (f' := (119, [(3, .int x10), (2, .int x8), (0, .ref 112), (1, .int l1)], [.int (x8 + 1), .ref 114, .int (154 * l1), .ref 143, .int l1, .ref 112])) rfl ?_
            obtain ⟨o27, h24⟩ := ob_in h24
            refine r_iald rfl rfl (x_ltn rfl) rfl o27 ?_
            refine e_k 1 (f' := (134, [(3, .int x10), (2, .int x8), (0, .ref 112), (1, .int l1)], [.int (I 114 (Int32.toNatClampNeg (x8 + 1))), .int (154 * l1), .ref 143, .int l1, .ref 112])) rfl ?_
            refine e_sub (ls := [(0, .ref 112), (1, .int l1), (3, .int x10)]) rfl ⟨rfl, rfl, rfl, trivial⟩ ?_
            obtain ⟨rfl, rfl, rfl⟩ := s_inj h24
            exact Kj24
        · replace h20 := i_neg c21 h20
          refine e_k 4 (f' := (55, [(6, .int 1), (4, .long 0), (3, .int x10), (2, .int x8), (0, .ref 112), (1, .int l1)], [])) rfl ?_
          refine e_sub (ls := [(0, .ref 112), (1, .int l1), (2, .int x8), (3, .int x10), (4, .long 0), (6, .int 1)]) rfl ⟨rfl, rfl, rfl, rfl, rfl, rfl, trivial⟩ ?_
          obtain ⟨u33, I33, J33, h33, h20⟩ := oc_call h20
          refine E_Model_goOn_55  gF  h33 ?_
          refine e_k 3 (f' := (90, [(0, .ref 112), (1, .int l1), (3, .int x10), (4, .long u33)], [.long u33, .int l1, .ref 112])) rfl ?_
          obtain ⟨v34, I34, J34, h34, h20⟩ := oc_call h20
          refine r_cv (z := m_Model_push) (As := [.int l1, .long u33]) (rest := []) rfl rfl rfl rfl rfl (x_ltn rfl) rfl rfl (E_Model_push  h34 ⟨_, rfl, ?_⟩)
          refine e_k 1 (f' := (139, [(0, .ref 112), (1, .int l1), (3, .int x10), (4, .long u33)], [])) rfl ?_
          refine e_sub (ls := [(0, .ref 112), (1, .int l1), (3, .int x10)]) rfl ⟨rfl, rfl, rfl, trivial⟩ ?_
          obtain ⟨rfl, rfl, rfl⟩ := s_inj h20
          exact Kj20
theorem E_Model_goOn {p2 : Int32} {X : MX} {I : MI} {J : MJ} {v : Unit} {I' : MI} {J' : MJ} (hb : f_Model_goOn p2 I J = some (v, I', J')) (K : P (.inl (none)) (hX X I' J')) : am_E (gG L xs) (d + 1) m_Model_goOn (0, lv_args 0 [.ref 112, .int p2], []) (hX X I J) P := by
  unfold f_Model_goOn at hb
  refine e_sub (ls := [(0, .ref 112), (1, .int p2)]) rfl ⟨rfl, rfl, trivial⟩ ?_
  obtain ⟨u39, I39, J39, h39, hb⟩ := oc_call hb
  refine E_Model_goOn_0  gF  h39 ?_
  obtain ⟨rfl, rfl, rfl⟩ := s_inj hb
  exact e_r rfl rfl K
theorem E_Model_hasOpened_7 {X : MX} {p2 : Int32} : ∀ (fu : Nat) {l1 : Int32} {l2 : Int32} {I : MI} {J : MJ} {r : (Int32 ⊕ (Unit))} {I' : MI} {J' : MJ}, f_Model_hasOpened_7 p2 fu l1 l2 I J = some (r, I', J') → (∀ v, r = .inl v → P (.inl (some (.int v))) (hX X I' J')) → (∀ u, r = .inr u → am_E (gG L xs) d m_Model_hasOpened (35, [], []) (hX X I' J') P) → am_E (gG L xs) d m_Model_hasOpened (7, [(0, .ref 112), (1, .int l1), (2, .int l2)], []) (hX X I J) P := by
  intro fu
  induction fu with
  | zero =>
    intros
    rename_i hb _ _
    cases hb
  | succ fu ih =>
    intro l1 l2 I J r I' J' hb K1 K2
    unfold f_Model_hasOpened_7 at hb
    refine e_k 2 (f' := (9, [(0, .ref 112), (1, .int l1), (2, .int l2)], [.ref 112, .int l2])) rfl ?_
    refine r_getr rfl (x_ltn rfl) rfl rfl ?_
    refine e_k 1 (f' := (13, [(0, .ref 112), (1, .int l1), (2, .int l2)], [.int l1, .ref 135, .int l2])) rfl ?_
    obtain ⟨o3, hb⟩ := ob_in hb
    refine r_iald rfl rfl (x_ltn rfl) rfl o3 ?_
    refine e_k 1 (f' := (if (I 135 (Int32.toNatClampNeg l1)) ≤ l2 then 35 else 17, [(0, .ref 112), (1, .int l1), (2, .int l2)], [])) rfl ?_
    refine e_if (fun c4 => ?_) (fun c4 => ?_)
    · replace hb := i_pos c4 hb
      refine e_sub (ls := []) rfl ⟨⟩ ?_
      obtain ⟨rfl, rfl, rfl⟩ := s_inj hb
      exact K2 _ rfl
    · replace hb := i_neg c4 hb
      refine e_k 1 (f' := (18, [(0, .ref 112), (1, .int l1), (2, .int l2)], [.ref 112])) rfl ?_
      refine r_getr rfl (x_ltn rfl) rfl rfl ?_
      refine e_k 1 (f' := (22, [(0, .ref 112), (1, .int l1), (2, .int l2)], [.int l2, .ref 151])) rfl ?_
      obtain ⟨o5, hb⟩ := ob_in hb
      refine r_iald rfl rfl (x_ltn rfl) rfl o5 ?_
      refine e_k 2 (f' := (if (I 151 (Int32.toNatClampNeg l2)) = 1 then 29 else 27, [(0, .ref 112), (1, .int l1), (2, .int l2)], [])) rfl ?_
      refine e_if (fun c6 => ?_) (fun c6 => ?_)
      · replace hb := i_pos c6 hb
        refine e_k 2 (f' := (7, [(2, .int (l2 + 1)), (0, .ref 112), (1, .int l1)], [])) rfl ?_
        refine e_sub (ls := [(0, .ref 112), (1, .int l1), (2, .int (l2 + 1))]) rfl ⟨rfl, rfl, rfl, trivial⟩ ?_
        exact ih  hb K1 K2
      · replace hb := i_neg c6 hb
        refine e_k 1 (f' := (28, [(0, .ref 112), (1, .int l1), (2, .int l2)], [.int 1])) rfl ?_
        obtain ⟨rfl, rfl, rfl⟩ := s_inj hb
        exact e_r rfl rfl (K1 _ rfl)
theorem E_Model_hasOpened {p2 : Int32} {X : MX} {I : MI} {J : MJ} {v : Int32} {I' : MI} {J' : MJ} (hb : f_Model_hasOpened p2 I J = some (v, I', J')) (K : P (.inl (some (.int v))) (hX X I' J')) : am_E (gG L xs) d m_Model_hasOpened (0, lv_args 0 [.ref 112, .int p2], []) (hX X I J) P := by
  unfold f_Model_hasOpened at hb
  refine e_k 1 (f' := (1, [(0, .ref 112), (1, .int p2)], [.ref 112])) rfl ?_
  refine r_getr rfl (x_ltn rfl) rfl rfl ?_
  refine e_k 1 (f' := (5, [(0, .ref 112), (1, .int p2)], [.int p2, .ref 136])) rfl ?_
  obtain ⟨o1, hb⟩ := ob_in hb
  refine r_iald rfl rfl (x_ltn rfl) rfl o1 ?_
  refine e_k 1 (f' := (7, [(2, .int (I 136 (Int32.toNatClampNeg p2))), (0, .ref 112), (1, .int p2)], [])) rfl ?_
  obtain ⟨x2, ex2, hb⟩ := p_nm hb
  rw [← ex2]
  refine e_sub (ls := [(0, .ref 112), (1, .int p2), (2, .int x2)]) rfl ⟨rfl, rfl, rfl, trivial⟩ ?_
  obtain ⟨q7, I7, J7, h7, hb⟩ := oc_call hb
  refine E_Model_hasOpened_7  gF  h7 (fun y7 ey7 => ?_) (fun u7 ey7 => ?_)
  · subst ey7
    replace hb := oe_l hb
    obtain ⟨rfl, rfl, rfl⟩ := s_inj hb
    exact K
  · subst ey7
    replace hb := oe_r hb
    refine e_k 1 (f' := (36, [], [.int 0])) rfl ?_
    obtain ⟨rfl, rfl, rfl⟩ := s_inj hb
    exact e_r rfl rfl K
theorem E_Model_statusOf {p2 : Int32} {X : MX} {I : MI} {J : MJ} {v : Int32} {I' : MI} {J' : MJ} (hb : f_Model_statusOf p2 I J = some (v, I', J')) (K : P (.inl (some (.int v))) (hX X I' J')) : am_E (gG L xs) (d + 2) m_Model_statusOf (0, lv_args 0 [.ref 112, .int p2], []) (hX X I J) P := by
  unfold f_Model_statusOf at hb
  refine e_k 1 (f' := (1, [(0, .ref 112), (1, .int p2)], [.ref 112])) rfl ?_
  refine r_geti rfl (x_ltn rfl) rfl rfl ?_
  refine e_k 1 (f' := (if ¬ (I 112 34) = 0 then 9 else 7, [(0, .ref 112), (1, .int p2)], [])) rfl ?_
  refine e_if (fun c1 => ?_) (fun c1 => ?_)
  · replace hb := i_pos c1 hb
    refine e_k 1 (f' := (10, [(0, .ref 112), (1, .int p2)], [.ref 112])) rfl ?_
    refine r_getr rfl (x_ltn rfl) rfl rfl ?_
    refine e_k 1 (f' := (14, [(0, .ref 112), (1, .int p2)], [.int p2, .ref 137])) rfl ?_
    obtain ⟨o2, hb⟩ := ob_in hb
    refine r_iald rfl rfl (x_ltn rfl) rfl o2 ?_
    refine e_k 1 (f' := (if (I 137 (Int32.toNatClampNeg p2)) ≤ 0 then 20 else 18, [(0, .ref 112), (1, .int p2)], [])) rfl ?_
    refine e_if (fun c3 => ?_) (fun c3 => ?_)
    · replace hb := i_pos c3 hb
      refine e_k 1 (f' := (21, [(0, .ref 112), (1, .int p2)], [.ref 112])) rfl ?_
      refine r_getr rfl (x_ltn rfl) rfl rfl ?_
      refine e_k 1 (f' := (25, [(0, .ref 112), (1, .int p2)], [.int p2, .ref 138])) rfl ?_
      obtain ⟨o4, hb⟩ := ob_in hb
      refine r_iald rfl rfl (x_ltn rfl) rfl o4 ?_
      refine e_k 1 (f' := (if (I 138 (Int32.toNatClampNeg p2)) ≤ 0 then 31 else 29, [(0, .ref 112), (1, .int p2)], [])) rfl ?_
      refine e_if (fun c5 => ?_) (fun c5 => ?_)
      · replace hb := i_pos c5 hb
        refine e_k 2 (f' := (33, [(0, .ref 112), (1, .int p2)], [.int p2, .ref 112])) rfl ?_
        obtain ⟨v6, I6, J6, h6, hb⟩ := oc_call hb
        refine r_cv (z := m_Model_goOn) (As := [.int p2]) (rest := []) rfl rfl rfl rfl rfl (x_ltn rfl) rfl rfl (E_Model_goOn  h6 ⟨_, rfl, ?_⟩)
        refine e_k 1 (f' := (37, [(0, .ref 112), (1, .int p2)], [.ref 112])) rfl ?_
        refine r_getr rfl (x_ltn rfl) rfl rfl ?_
        refine e_k 1 (f' := (41, [(0, .ref 112), (1, .int p2)], [.ref 112, .ref 114])) rfl ?_
        refine r_getr rfl (x_ltn rfl) rfl rfl ?_
        refine e_k 1 (f' := (45, [(0, .ref 112), (1, .int p2)], [.int p2, .ref 127, .ref 114])) rfl ?_
        obtain ⟨o7, hb⟩ := ob_in hb
        refine r_iald rfl rfl (x_ltn rfl) rfl o7 ?_
        obtain ⟨o8, hb⟩ := ob_in hb
        refine r_iald rfl rfl (x_ltn rfl) rfl o8 ?_
        refine e_k 1 (f' := (if ¬ (I6 114 (Int32.toNatClampNeg (I6 127 (Int32.toNatClampNeg p2)))) = 0 then 54 else 50, [(0, .ref 112), (1, .int p2)], [])) rfl ?_
        refine e_if (fun c9 => ?_) (fun c9 => ?_)
        · replace hb := i_pos c9 hb
          refine e_k 1 (f' := (55, [(0, .ref 112), (1, .int p2)], [.int 1])) rfl ?_
          obtain ⟨rfl, rfl, rfl⟩ := s_inj hb
          exact e_r rfl rfl K
        · replace hb := i_neg c9 hb
          refine e_k 2 (f' := (55, [(0, .ref 112), (1, .int p2)], [.int 2])) rfl ?_
          obtain ⟨rfl, rfl, rfl⟩ := s_inj hb
          exact e_r rfl rfl K
      · replace hb := i_neg c5 hb
        refine e_k 1 (f' := (30, [(0, .ref 112), (1, .int p2)], [.int 4])) rfl ?_
        obtain ⟨rfl, rfl, rfl⟩ := s_inj hb
        exact e_r rfl rfl K
    · replace hb := i_neg c3 hb
      refine e_k 1 (f' := (19, [(0, .ref 112), (1, .int p2)], [.int 3])) rfl ?_
      obtain ⟨rfl, rfl, rfl⟩ := s_inj hb
      exact e_r rfl rfl K
  · replace hb := i_neg c1 hb
    refine e_k 1 (f' := (8, [(0, .ref 112), (1, .int p2)], [.int 2])) rfl ?_
    obtain ⟨rfl, rfl, rfl⟩ := s_inj hb
    exact e_r rfl rfl K
theorem E_Model_isSecretPart {p1 : Int32} {X : MX} {I : MI} {J : MJ} {v : Int32} {I' : MI} {J' : MJ} (hb : f_Model_isSecretPart p1 I J = some (v, I', J')) (K : P (.inl (some (.int v))) (hX X I' J')) : am_E (gG L xs) d m_Model_isSecretPart (0, lv_args 0 [.int p1], []) (hX X I J) P := by
  unfold f_Model_isSecretPart at hb
  refine e_k 3 (f' := (if p1 ≤ 3 then 9 else 5, [(0, .int p1)], [])) rfl ?_
  refine e_if (fun c1 => ?_) (fun c1 => ?_)
  · replace hb := i_pos c1 hb
    refine e_k 1 (f' := (10, [(0, .int p1)], [.int 0])) rfl ?_
    obtain ⟨rfl, rfl, rfl⟩ := s_inj hb
    exact e_r rfl rfl K
  · replace hb := i_neg c1 hb
    refine e_k 2 (f' := (10, [(0, .int p1)], [.int 1])) rfl ?_
    obtain ⟨rfl, rfl, rfl⟩ := s_inj hb
    exact e_r rfl rfl K
theorem E_Model_isJoint {p2 : Int32} {X : MX} {I : MI} {J : MJ} {v : Int32} {I' : MI} {J' : MJ} (hb : f_Model_isJoint p2 I J = some (v, I', J')) (K : P (.inl (some (.int v))) (hX X I' J')) : am_E (gG L xs) (d + 1) m_Model_isJoint (0, lv_args 0 [.ref 112, .int p2], []) (hX X I J) P := by
  unfold f_Model_isJoint at hb
  refine e_k 1 (f' := (1, [(0, .ref 112), (1, .int p2)], [.ref 112])) rfl ?_
  refine r_getr rfl (x_ltn rfl) rfl rfl ?_
  refine e_k 1 (f' := (5, [(0, .ref 112), (1, .int p2)], [.int p2, .ref 114])) rfl ?_
  obtain ⟨o1, hb⟩ := ob_in hb
  refine r_iald rfl rfl (x_ltn rfl) rfl o1 ?_
  refine e_k 2 (f' := (if ¬ (I 114 (Int32.toNatClampNeg p2)) = 25 then 47 else 11, [(0, .ref 112), (1, .int p2)], [])) rfl ?_
  refine e_if (fun c2 => ?_) (fun c2 => ?_)
  · replace hb := i_pos c2 hb
    refine e_k 1 (f' := (48, [(0, .ref 112), (1, .int p2)], [.ref 112])) rfl ?_
    refine r_getr rfl (x_ltn rfl) rfl rfl ?_
    refine e_k 1 (f' := (52, [(0, .ref 112), (1, .int p2)], [.int p2, .ref 114])) rfl ?_
    obtain ⟨o3, hb⟩ := ob_in hb
    refine r_iald rfl rfl (x_ltn rfl) rfl o3 ?_
    refine e_k 2 (f' := (if ¬ (I 114 (Int32.toNatClampNeg p2)) = 26 then 90 else 58, [(0, .ref 112), (1, .int p2)], [])) rfl ?_
    refine e_if (fun c4 => ?_) (fun c4 => ?_)
    · replace hb := i_pos c4 hb
      refine e_k 1 (f' := (91, [(0, .ref 112), (1, .int p2)], [.int 0])) rfl ?_
      obtain ⟨rfl, rfl, rfl⟩ := s_inj hb
      exact e_r rfl rfl K
    · replace hb := i_neg c4 hb
      refine e_k 1 (f' := (59, [(0, .ref 112), (1, .int p2)], [.ref 112])) rfl ?_
      refine r_getr rfl (x_ltn rfl) rfl rfl ?_
      refine e_k 3 (f' := (65, [(0, .ref 112), (1, .int p2)], [.int (p2 + 1), .ref 114])) rfl ?_
      obtain ⟨o5, hb⟩ := ob_in hb
      refine r_iald rfl rfl (x_ltn rfl) rfl o5 ?_
      obtain ⟨v6, I6, J6, h6, hb⟩ := oc_call hb
      refine r_cs (z := m_Model_isSecretPart) (As := [.int (I 114 (Int32.toNatClampNeg (p2 + 1)))]) (rest := []) rfl rfl rfl rfl rfl rfl (E_Model_isSecretPart  h6 ⟨_, rfl, ?_⟩)
      refine e_k 1 (f' := (if v6 = 0 then 90 else 72, [(0, .ref 112), (1, .int p2)], [])) rfl ?_
      refine e_if (fun c7 => ?_) (fun c7 => ?_)
      · replace hb := i_pos c7 hb
        refine e_k 1 (f' := (91, [(0, .ref 112), (1, .int p2)], [.int 0])) rfl ?_
        obtain ⟨rfl, rfl, rfl⟩ := s_inj hb
        exact e_r rfl rfl K
      · replace hb := i_neg c7 hb
        refine e_k 1 (f' := (73, [(0, .ref 112), (1, .int p2)], [.ref 112])) rfl ?_
        refine r_getr rfl (x_ltn rfl) rfl rfl ?_
        refine e_k 3 (f' := (79, [(0, .ref 112), (1, .int p2)], [.int (p2 + 2), .ref 114])) rfl ?_
        obtain ⟨o8, hb⟩ := ob_in hb
        refine r_iald rfl rfl (x_ltn rfl) rfl o8 ?_
        obtain ⟨v9, I9, J9, h9, hb⟩ := oc_call hb
        refine r_cs (z := m_Model_isSecretPart) (As := [.int (I6 114 (Int32.toNatClampNeg (p2 + 2)))]) (rest := []) rfl rfl rfl rfl rfl rfl (E_Model_isSecretPart  h9 ⟨_, rfl, ?_⟩)
        refine e_k 1 (f' := (if v9 = 0 then 90 else 86, [(0, .ref 112), (1, .int p2)], [])) rfl ?_
        refine e_if (fun c10 => ?_) (fun c10 => ?_)
        · replace hb := i_pos c10 hb
          refine e_k 1 (f' := (91, [(0, .ref 112), (1, .int p2)], [.int 0])) rfl ?_
          obtain ⟨rfl, rfl, rfl⟩ := s_inj hb
          exact e_r rfl rfl K
        · replace hb := i_neg c10 hb
          refine e_k 2 (f' := (91, [(0, .ref 112), (1, .int p2)], [.int 1])) rfl ?_
          obtain ⟨rfl, rfl, rfl⟩ := s_inj hb
          exact e_r rfl rfl K
  · replace hb := i_neg c2 hb
    refine e_k 1 (f' := (12, [(0, .ref 112), (1, .int p2)], [.ref 112])) rfl ?_
    refine r_getr rfl (x_ltn rfl) rfl rfl ?_
    refine e_k 3 (f' := (18, [(0, .ref 112), (1, .int p2)], [.int (p2 + 2), .ref 114])) rfl ?_
    obtain ⟨o11, hb⟩ := ob_in hb
    refine r_iald rfl rfl (x_ltn rfl) rfl o11 ?_
    obtain ⟨v12, I12, J12, h12, hb⟩ := oc_call hb
    refine r_cs (z := m_Model_isSecretPart) (As := [.int (I 114 (Int32.toNatClampNeg (p2 + 2)))]) (rest := []) rfl rfl rfl rfl rfl rfl (E_Model_isSecretPart  h12 ⟨_, rfl, ?_⟩)
    refine e_k 1 (f' := (if v12 = 0 then 43 else 25, [(0, .ref 112), (1, .int p2)], [])) rfl ?_
    refine e_if (fun c13 => ?_) (fun c13 => ?_)
    · replace hb := i_pos c13 hb
      refine e_k 2 (f' := (91, [(0, .ref 112), (1, .int p2)], [.int 0])) rfl ?_
      obtain ⟨rfl, rfl, rfl⟩ := s_inj hb
      exact e_r rfl rfl K
    · replace hb := i_neg c13 hb
      refine e_k 1 (f' := (26, [(0, .ref 112), (1, .int p2)], [.ref 112])) rfl ?_
      refine r_getr rfl (x_ltn rfl) rfl rfl ?_
      refine e_k 3 (f' := (32, [(0, .ref 112), (1, .int p2)], [.int (p2 + 3), .ref 114])) rfl ?_
      obtain ⟨o14, hb⟩ := ob_in hb
      refine r_iald rfl rfl (x_ltn rfl) rfl o14 ?_
      obtain ⟨v15, I15, J15, h15, hb⟩ := oc_call hb
      refine r_cs (z := m_Model_isSecretPart) (As := [.int (I12 114 (Int32.toNatClampNeg (p2 + 3)))]) (rest := []) rfl rfl rfl rfl rfl rfl (E_Model_isSecretPart  h15 ⟨_, rfl, ?_⟩)
      refine e_k 1 (f' := (if v15 = 0 then 43 else 39, [(0, .ref 112), (1, .int p2)], [])) rfl ?_
      refine e_if (fun c16 => ?_) (fun c16 => ?_)
      · replace hb := i_pos c16 hb
        refine e_k 2 (f' := (91, [(0, .ref 112), (1, .int p2)], [.int 0])) rfl ?_
        obtain ⟨rfl, rfl, rfl⟩ := s_inj hb
        exact e_r rfl rfl K
      · replace hb := i_neg c16 hb
        refine e_k 2 (f' := (91, [(0, .ref 112), (1, .int p2)], [.int 1])) rfl ?_
        obtain ⟨rfl, rfl, rfl⟩ := s_inj hb
        exact e_r rfl rfl K
theorem E_Model_lacking {p2 : Int32} {X : MX} {I : MI} {J : MJ} {v : Int32} {I' : MI} {J' : MJ} (hb : f_Model_lacking p2 I J = some (v, I', J')) (K : P (.inl (some (.int v))) (hX X I' J')) : am_E (gG L xs) (d + 2) m_Model_lacking (0, lv_args 0 [.ref 112, .int p2], []) (hX X I J) P := by
  unfold f_Model_lacking at hb
  refine e_k 1 (f' := (1, [(0, .ref 112), (1, .int p2)], [.ref 112])) rfl ?_
  refine r_getr rfl (x_ltn rfl) rfl rfl ?_
  refine e_k 1 (f' := (5, [(0, .ref 112), (1, .int p2)], [.int p2, .ref 127])) rfl ?_
  obtain ⟨o1, hb⟩ := ob_in hb
  refine r_iald rfl rfl (x_ltn rfl) rfl o1 ?_
  refine e_k 1 (f' := (7, [(2, .int (I 127 (Int32.toNatClampNeg p2))), (0, .ref 112), (1, .int p2)], [])) rfl ?_
  obtain ⟨x2, ex2, hb⟩ := p_nm hb
  rw [← ex2]
  refine e_k 1 (f' := (8, [(2, .int x2), (0, .ref 112), (1, .int p2)], [.ref 112])) rfl ?_
  refine r_getr rfl (x_ltn rfl) rfl rfl ?_
  refine e_k 1 (f' := (12, [(2, .int x2), (0, .ref 112), (1, .int p2)], [.int x2, .ref 114])) rfl ?_
  obtain ⟨o3, hb⟩ := ob_in hb
  refine r_iald rfl rfl (x_ltn rfl) rfl o3 ?_
  refine e_k 1 (f' := (14, [(3, .int (I 114 (Int32.toNatClampNeg x2))), (2, .int x2), (0, .ref 112), (1, .int p2)], [])) rfl ?_
  obtain ⟨x4, ex4, hb⟩ := p_nm hb
  rw [← ex4]
  refine e_k 3 (f' := (if x4 < 19 then 71 else 20, [(3, .int x4), (2, .int x2), (0, .ref 112), (1, .int p2)], [])) rfl ?_
  refine e_if (fun c5 => ?_) (fun c5 => ?_)
  · replace hb := i_pos c5 hb
    refine e_k 1 (f' := (72, [(3, .int x4), (2, .int x2), (0, .ref 112), (1, .int p2)], [.ref 112])) rfl ?_
    refine r_getr rfl (x_ltn rfl) rfl rfl ?_
    refine e_k 1 (f' := (76, [(3, .int x4), (2, .int x2), (0, .ref 112), (1, .int p2)], [.int p2, .ref 128])) rfl ?_
    obtain ⟨o6, hb⟩ := ob_in hb
    refine r_iald rfl rfl (x_ltn rfl) rfl o6 ?_
    refine e_k 1 (f' := (if (I 128 (Int32.toNatClampNeg p2)) = 0 then 82 else 80, [(3, .int x4), (2, .int x2), (0, .ref 112), (1, .int p2)], [])) rfl ?_
    refine e_if (fun c7 => ?_) (fun c7 => ?_)
    · replace hb := i_pos c7 hb
      refine e_k 3 (f' := (if ¬ x4 = 13 then 134 else 88, [(3, .int x4), (2, .int x2), (0, .ref 112), (1, .int p2)], [])) rfl ?_
      refine e_if (fun c8 => ?_) (fun c8 => ?_)
      · replace hb := i_pos c8 hb
        refine e_k 3 (f' := (if ¬ x4 = 10 then 159 else 140, [(3, .int x4), (2, .int x2), (0, .ref 112), (1, .int p2)], [])) rfl ?_
        refine e_if (fun c9 => ?_) (fun c9 => ?_)
        · replace hb := i_pos c9 hb
          refine e_k 3 (f' := (if ¬ x4 = 27 then 185 else 165, [(3, .int x4), (2, .int x2), (0, .ref 112), (1, .int p2)], [])) rfl ?_
          refine e_if (fun c10 => ?_) (fun c10 => ?_)
          · replace hb := i_pos c10 hb
            refine e_k 3 (f' := (if x4 = 28 then 197 else 191, [(3, .int x4), (2, .int x2), (0, .ref 112), (1, .int p2)], [])) rfl ?_
            refine e_if (fun c11 => ?_) (fun c11 => ?_)
            · replace hb := i_pos c11 hb
              refine e_k 1 (f' := (198, [(3, .int x4), (2, .int x2), (0, .ref 112), (1, .int p2)], [.ref 112])) rfl ?_
              refine r_getr rfl (x_ltn rfl) rfl rfl ?_
              refine e_k 1 (f' := (202, [(3, .int x4), (2, .int x2), (0, .ref 112), (1, .int p2)], [.int p2, .ref 141])) rfl ?_
              obtain ⟨o12, hb⟩ := ob_in hb
              refine r_iald rfl rfl (x_ltn rfl) rfl o12 ?_
              refine e_k 3 (f' := (if ¬ x4 = 28 then 214 else 209, [(3, .int x4), (2, .int x2), (0, .ref 112), (1, .int p2)], [.int (I 141 (Int32.toNatClampNeg p2))])) rfl ?_
              obtain ⟨v14, h14, hb⟩ := p_nn hb
              have Kj14 : am_E (gG L xs) (d + 2) m_Model_lacking (215, [], [.int v14, .int (I 141 (Int32.toNatClampNeg p2))]) (hX X I J) P := by
                refine e_k 1 (f' := (if ¬ (I 141 (Int32.toNatClampNeg p2)) = v14 then 223 else 218, [], [])) rfl ?_
                refine e_if (fun c16 => ?_) (fun c16 => ?_)
                · replace hb := i_pos c16 hb
                  refine e_k 1 (f' := (224, [], [.int 0])) rfl ?_
                  obtain ⟨rfl, rfl, rfl⟩ := s_inj hb
                  exact e_r rfl rfl K
                · replace hb := i_neg c16 hb
                  refine e_k 2 (f' := (224, [], [.int 7])) rfl ?_
                  obtain ⟨rfl, rfl, rfl⟩ := s_inj hb
                  exact e_r rfl rfl K
              clear hb
              refine e_if (fun c15 => ?_) (fun c15 => ?_)
              · replace h14 := i_pos c15 h14
                refine e_k 1 (f' := (215, [(3, .int x4), (2, .int x2), (0, .ref 112), (1, .int p2)], [.int 0, .int (I 141 (Int32.toNatClampNeg p2))])) rfl ?_
                refine e_sub (ls := []) rfl ⟨⟩ ?_
                subst h14
                exact Kj14
              · replace h14 := i_neg c15 h14
                refine e_k 2 (f' := (215, [(3, .int x4), (2, .int x2), (0, .ref 112), (1, .int p2)], [.int 16, .int (I 141 (Int32.toNatClampNeg p2))])) rfl ?_
                refine e_sub (ls := []) rfl ⟨⟩ ?_
                subst h14
                exact Kj14
            · replace hb := i_neg c11 hb
              refine e_k 3 (f' := (if ¬ x4 = 29 then 225 else 197, [(3, .int x4), (2, .int x2), (0, .ref 112), (1, .int p2)], [])) rfl ?_
              refine e_if (fun c17 => ?_) (fun c17 => ?_)
              · replace hb := i_pos c17 hb
                refine e_k 3 (f' := (if ¬ x4 = 7 then 244 else 231, [(3, .int x4), (2, .int x2), (0, .ref 112), (1, .int p2)], [])) rfl ?_
                refine e_if (fun c18 => ?_) (fun c18 => ?_)
                · replace hb := i_pos c18 hb
                  refine e_k 2 (f' := (246, [(3, .int x4), (2, .int x2), (0, .ref 112), (1, .int p2)], [.int x2, .ref 112])) rfl ?_
                  obtain ⟨v19, I19, J19, h19, hb⟩ := oc_call hb
                  refine r_cv (z := m_Model_isJoint) (As := [.int x2]) (rest := []) rfl rfl rfl rfl rfl (x_ltn rfl) rfl rfl (E_Model_isJoint  h19 ⟨_, rfl, ?_⟩)
                  refine e_k 1 (f' := (if v19 = 0 then 272 else 252, [(3, .int x4), (2, .int x2), (0, .ref 112), (1, .int p2)], [])) rfl ?_
                  refine e_if (fun c20 => ?_) (fun c20 => ?_)
                  · replace hb := i_pos c20 hb
                    refine e_k 1 (f' := (273, [(3, .int x4), (2, .int x2), (0, .ref 112), (1, .int p2)], [.int 0])) rfl ?_
                    obtain ⟨rfl, rfl, rfl⟩ := s_inj hb
                    exact e_r rfl rfl K
                  · replace hb := i_neg c20 hb
                    refine e_k 1 (f' := (253, [(3, .int x4), (2, .int x2), (0, .ref 112), (1, .int p2)], [.ref 112])) rfl ?_
                    refine r_getr rfl (x_ltn rfl) rfl rfl ?_
                    refine e_k 1 (f' := (257, [(3, .int x4), (2, .int x2), (0, .ref 112), (1, .int p2)], [.int p2, .ref 121])) rfl ?_
                    obtain ⟨o21, hb⟩ := ob_in hb
                    refine r_iald rfl rfl (x_ltn rfl) rfl o21 ?_
                    refine e_k 3 (f' := (262, [(3, .int x4), (2, .int x2), (0, .ref 112), (1, .int p2)], [.ref 112, .int ((I19 121 (Int32.toNatClampNeg p2)) + 16)])) rfl ?_
                    refine r_geti rfl (x_ltn rfl) rfl rfl ?_
                    refine e_k 1 (f' := (if ((I19 121 (Int32.toNatClampNeg p2)) + 16) ≤ (I19 112 24) then 272 else 268, [(3, .int x4), (2, .int x2), (0, .ref 112), (1, .int p2)], [])) rfl ?_
                    refine e_if (fun c22 => ?_) (fun c22 => ?_)
                    · replace hb := i_pos c22 hb
                      refine e_k 1 (f' := (273, [(3, .int x4), (2, .int x2), (0, .ref 112), (1, .int p2)], [.int 0])) rfl ?_
                      obtain ⟨rfl, rfl, rfl⟩ := s_inj hb
                      exact e_r rfl rfl K
                    · replace hb := i_neg c22 hb
                      refine e_k 2 (f' := (273, [(3, .int x4), (2, .int x2), (0, .ref 112), (1, .int p2)], [.int 3])) rfl ?_
                      obtain ⟨rfl, rfl, rfl⟩ := s_inj hb
                      exact e_r rfl rfl K
                · replace hb := i_neg c18 hb
                  refine e_k 1 (f' := (232, [(3, .int x4), (2, .int x2), (0, .ref 112), (1, .int p2)], [.ref 112])) rfl ?_
                  refine r_getr rfl (x_ltn rfl) rfl rfl ?_
                  refine e_k 1 (f' := (236, [(3, .int x4), (2, .int x2), (0, .ref 112), (1, .int p2)], [.int p2, .ref 121])) rfl ?_
                  obtain ⟨o23, hb⟩ := ob_in hb
                  refine r_iald rfl rfl (x_ltn rfl) rfl o23 ?_
                  refine e_k 1 (f' := (238, [(3, .int x4), (2, .int x2), (0, .ref 112), (1, .int p2)], [.ref 112, .int (I 121 (Int32.toNatClampNeg p2))])) rfl ?_
                  refine r_geti rfl (x_ltn rfl) rfl rfl ?_
                  refine e_k 1 (f' := (if (I 121 (Int32.toNatClampNeg p2)) = (I 112 24) then 268 else 244, [(3, .int x4), (2, .int x2), (0, .ref 112), (1, .int p2)], [])) rfl ?_
                  refine e_if (fun c24 => ?_) (fun c24 => ?_)
                  · replace hb := i_pos c24 hb
                    refine e_k 2 (f' := (273, [(3, .int x4), (2, .int x2), (0, .ref 112), (1, .int p2)], [.int 3])) rfl ?_
                    obtain ⟨rfl, rfl, rfl⟩ := s_inj hb
                    exact e_r rfl rfl K
                  · replace hb := i_neg c24 hb
                    refine e_k 2 (f' := (246, [(3, .int x4), (2, .int x2), (0, .ref 112), (1, .int p2)], [.int x2, .ref 112])) rfl ?_
                    obtain ⟨v25, I25, J25, h25, hb⟩ := oc_call hb
                    refine r_cv (z := m_Model_isJoint) (As := [.int x2]) (rest := []) rfl rfl rfl rfl rfl (x_ltn rfl) rfl rfl (E_Model_isJoint  h25 ⟨_, rfl, ?_⟩)
                    refine e_k 1 (f' := (if v25 = 0 then 272 else 252, [(3, .int x4), (2, .int x2), (0, .ref 112), (1, .int p2)], [])) rfl ?_
                    refine e_if (fun c26 => ?_) (fun c26 => ?_)
                    · replace hb := i_pos c26 hb
                      refine e_k 1 (f' := (273, [(3, .int x4), (2, .int x2), (0, .ref 112), (1, .int p2)], [.int 0])) rfl ?_
                      obtain ⟨rfl, rfl, rfl⟩ := s_inj hb
                      exact e_r rfl rfl K
                    · replace hb := i_neg c26 hb
                      refine e_k 1 (f' := (253, [(3, .int x4), (2, .int x2), (0, .ref 112), (1, .int p2)], [.ref 112])) rfl ?_
                      refine r_getr rfl (x_ltn rfl) rfl rfl ?_
                      refine e_k 1 (f' := (257, [(3, .int x4), (2, .int x2), (0, .ref 112), (1, .int p2)], [.int p2, .ref 121])) rfl ?_
                      obtain ⟨o27, hb⟩ := ob_in hb
                      refine r_iald rfl rfl (x_ltn rfl) rfl o27 ?_
                      refine e_k 3 (f' := (262, [(3, .int x4), (2, .int x2), (0, .ref 112), (1, .int p2)], [.ref 112, .int ((I25 121 (Int32.toNatClampNeg p2)) + 16)])) rfl ?_
                      refine r_geti rfl (x_ltn rfl) rfl rfl ?_
                      refine e_k 1 (f' := (if ((I25 121 (Int32.toNatClampNeg p2)) + 16) ≤ (I25 112 24) then 272 else 268, [(3, .int x4), (2, .int x2), (0, .ref 112), (1, .int p2)], [])) rfl ?_
                      refine e_if (fun c28 => ?_) (fun c28 => ?_)
                      · replace hb := i_pos c28 hb
                        refine e_k 1 (f' := (273, [(3, .int x4), (2, .int x2), (0, .ref 112), (1, .int p2)], [.int 0])) rfl ?_
                        obtain ⟨rfl, rfl, rfl⟩ := s_inj hb
                        exact e_r rfl rfl K
                      · replace hb := i_neg c28 hb
                        refine e_k 2 (f' := (273, [(3, .int x4), (2, .int x2), (0, .ref 112), (1, .int p2)], [.int 3])) rfl ?_
                        obtain ⟨rfl, rfl, rfl⟩ := s_inj hb
                        exact e_r rfl rfl K
              · replace hb := i_neg c17 hb
                refine e_k 1 (f' := (198, [(3, .int x4), (2, .int x2), (0, .ref 112), (1, .int p2)], [.ref 112])) rfl ?_
                refine r_getr rfl (x_ltn rfl) rfl rfl ?_
                refine e_k 1 (f' := (202, [(3, .int x4), (2, .int x2), (0, .ref 112), (1, .int p2)], [.int p2, .ref 141])) rfl ?_
                obtain ⟨o29, hb⟩ := ob_in hb
                refine r_iald rfl rfl (x_ltn rfl) rfl o29 ?_
                refine e_k 3 (f' := (if ¬ x4 = 28 then 214 else 209, [(3, .int x4), (2, .int x2), (0, .ref 112), (1, .int p2)], [.int (I 141 (Int32.toNatClampNeg p2))])) rfl ?_
                obtain ⟨v31, h31, hb⟩ := p_nn hb
                have Kj31 : am_E (gG L xs) (d + 2) m_Model_lacking (215, [], [.int v31, .int (I 141 (Int32.toNatClampNeg p2))]) (hX X I J) P := by
                  refine e_k 1 (f' := (if ¬ (I 141 (Int32.toNatClampNeg p2)) = v31 then 223 else 218, [], [])) rfl ?_
                  refine e_if (fun c33 => ?_) (fun c33 => ?_)
                  · replace hb := i_pos c33 hb
                    refine e_k 1 (f' := (224, [], [.int 0])) rfl ?_
                    obtain ⟨rfl, rfl, rfl⟩ := s_inj hb
                    exact e_r rfl rfl K
                  · replace hb := i_neg c33 hb
                    refine e_k 2 (f' := (224, [], [.int 7])) rfl ?_
                    obtain ⟨rfl, rfl, rfl⟩ := s_inj hb
                    exact e_r rfl rfl K
                clear hb
                refine e_if (fun c32 => ?_) (fun c32 => ?_)
                · replace h31 := i_pos c32 h31
                  refine e_k 1 (f' := (215, [(3, .int x4), (2, .int x2), (0, .ref 112), (1, .int p2)], [.int 0, .int (I 141 (Int32.toNatClampNeg p2))])) rfl ?_
                  refine e_sub (ls := []) rfl ⟨⟩ ?_
                  subst h31
                  exact Kj31
                · replace h31 := i_neg c32 h31
                  refine e_k 2 (f' := (215, [(3, .int x4), (2, .int x2), (0, .ref 112), (1, .int p2)], [.int 16, .int (I 141 (Int32.toNatClampNeg p2))])) rfl ?_
                  refine e_sub (ls := []) rfl ⟨⟩ ?_
                  subst h31
                  exact Kj31
          · replace hb := i_neg c10 hb
            refine e_k 1 (f' := (166, [(3, .int x4), (2, .int x2), (0, .ref 112), (1, .int p2)], [.ref 112])) rfl ?_
            refine r_getr rfl (x_ltn rfl) rfl rfl ?_
            refine e_k 1 (f' := (170, [(3, .int x4), (2, .int x2), (0, .ref 112), (1, .int p2)], [.int p2, .ref 123])) rfl ?_
            obtain ⟨o34, hb⟩ := ob_in hb
            refine r_iald rfl rfl (x_ltn rfl) rfl o34 ?_
            refine e_k 1 (f' := (172, [(3, .int x4), (2, .int x2), (0, .ref 112), (1, .int p2)], [.ref 112, .int (I 123 (Int32.toNatClampNeg p2))])) rfl ?_
            refine r_geti rfl (x_ltn rfl) rfl rfl ?_
            refine e_k 1 (f' := (if ¬ (I 123 (Int32.toNatClampNeg p2)) = (I 112 28) then 183 else 178, [(3, .int x4), (2, .int x2), (0, .ref 112), (1, .int p2)], [])) rfl ?_
            refine e_if (fun c35 => ?_) (fun c35 => ?_)
            · replace hb := i_pos c35 hb
              refine e_k 1 (f' := (184, [(3, .int x4), (2, .int x2), (0, .ref 112), (1, .int p2)], [.int 0])) rfl ?_
              obtain ⟨rfl, rfl, rfl⟩ := s_inj hb
              exact e_r rfl rfl K
            · replace hb := i_neg c35 hb
              refine e_k 2 (f' := (184, [(3, .int x4), (2, .int x2), (0, .ref 112), (1, .int p2)], [.int 6])) rfl ?_
              obtain ⟨rfl, rfl, rfl⟩ := s_inj hb
              exact e_r rfl rfl K
        · replace hb := i_neg c9 hb
          refine e_k 1 (f' := (141, [(3, .int x4), (2, .int x2), (0, .ref 112), (1, .int p2)], [.ref 112])) rfl ?_
          refine r_getr rfl (x_ltn rfl) rfl rfl ?_
          refine e_k 1 (f' := (145, [(3, .int x4), (2, .int x2), (0, .ref 112), (1, .int p2)], [.int p2, .ref 122])) rfl ?_
          obtain ⟨o36, hb⟩ := ob_in hb
          refine r_iald rfl rfl (x_ltn rfl) rfl o36 ?_
          refine e_k 1 (f' := (147, [(3, .int x4), (2, .int x2), (0, .ref 112), (1, .int p2)], [.ref 112, .int (I 122 (Int32.toNatClampNeg p2))])) rfl ?_
          refine r_geti rfl (x_ltn rfl) rfl rfl ?_
          refine e_k 1 (f' := (if ¬ (I 122 (Int32.toNatClampNeg p2)) = (I 112 26) then 157 else 153, [(3, .int x4), (2, .int x2), (0, .ref 112), (1, .int p2)], [])) rfl ?_
          refine e_if (fun c37 => ?_) (fun c37 => ?_)
          · replace hb := i_pos c37 hb
            refine e_k 1 (f' := (158, [(3, .int x4), (2, .int x2), (0, .ref 112), (1, .int p2)], [.int 0])) rfl ?_
            obtain ⟨rfl, rfl, rfl⟩ := s_inj hb
            exact e_r rfl rfl K
          · replace hb := i_neg c37 hb
            refine e_k 2 (f' := (158, [(3, .int x4), (2, .int x2), (0, .ref 112), (1, .int p2)], [.int 4])) rfl ?_
            obtain ⟨rfl, rfl, rfl⟩ := s_inj hb
            exact e_r rfl rfl K
      · replace hb := i_neg c8 hb
        refine e_k 1 (f' := (89, [(3, .int x4), (2, .int x2), (0, .ref 112), (1, .int p2)], [.ref 112])) rfl ?_
        refine r_getr rfl (x_ltn rfl) rfl rfl ?_
        refine e_k 3 (f' := (95, [(3, .int x4), (2, .int x2), (0, .ref 112), (1, .int p2)], [.int (x2 + 2), .ref 114])) rfl ?_
        obtain ⟨o38, hb⟩ := ob_in hb
        refine r_iald rfl rfl (x_ltn rfl) rfl o38 ?_
        refine e_k 2 (f' := (if ¬ (I 114 (Int32.toNatClampNeg (x2 + 2))) = p2 then 134 else 100, [(3, .int x4), (2, .int x2), (0, .ref 112), (1, .int p2)], [])) rfl ?_
        refine e_if (fun c39 => ?_) (fun c39 => ?_)
        · replace hb := i_pos c39 hb
          refine e_k 3 (f' := (if ¬ x4 = 10 then 159 else 140, [(3, .int x4), (2, .int x2), (0, .ref 112), (1, .int p2)], [])) rfl ?_
          refine e_if (fun c40 => ?_) (fun c40 => ?_)
          · replace hb := i_pos c40 hb
            refine e_k 3 (f' := (if ¬ x4 = 27 then 185 else 165, [(3, .int x4), (2, .int x2), (0, .ref 112), (1, .int p2)], [])) rfl ?_
            refine e_if (fun c41 => ?_) (fun c41 => ?_)
            · replace hb := i_pos c41 hb
              refine e_k 3 (f' := (if x4 = 28 then 197 else 191, [(3, .int x4), (2, .int x2), (0, .ref 112), (1, .int p2)], [])) rfl ?_
              refine e_if (fun c42 => ?_) (fun c42 => ?_)
              · replace hb := i_pos c42 hb
                refine e_k 1 (f' := (198, [(3, .int x4), (2, .int x2), (0, .ref 112), (1, .int p2)], [.ref 112])) rfl ?_
                refine r_getr rfl (x_ltn rfl) rfl rfl ?_
                refine e_k 1 (f' := (202, [(3, .int x4), (2, .int x2), (0, .ref 112), (1, .int p2)], [.int p2, .ref 141])) rfl ?_
                obtain ⟨o43, hb⟩ := ob_in hb
                refine r_iald rfl rfl (x_ltn rfl) rfl o43 ?_
                refine e_k 3 (f' := (if ¬ x4 = 28 then 214 else 209, [(3, .int x4), (2, .int x2), (0, .ref 112), (1, .int p2)], [.int (I 141 (Int32.toNatClampNeg p2))])) rfl ?_
                obtain ⟨v45, h45, hb⟩ := p_nn hb
                have Kj45 : am_E (gG L xs) (d + 2) m_Model_lacking (215, [], [.int v45, .int (I 141 (Int32.toNatClampNeg p2))]) (hX X I J) P := by
                  refine e_k 1 (f' := (if ¬ (I 141 (Int32.toNatClampNeg p2)) = v45 then 223 else 218, [], [])) rfl ?_
                  refine e_if (fun c47 => ?_) (fun c47 => ?_)
                  · replace hb := i_pos c47 hb
                    refine e_k 1 (f' := (224, [], [.int 0])) rfl ?_
                    obtain ⟨rfl, rfl, rfl⟩ := s_inj hb
                    exact e_r rfl rfl K
                  · replace hb := i_neg c47 hb
                    refine e_k 2 (f' := (224, [], [.int 7])) rfl ?_
                    obtain ⟨rfl, rfl, rfl⟩ := s_inj hb
                    exact e_r rfl rfl K
                clear hb
                refine e_if (fun c46 => ?_) (fun c46 => ?_)
                · replace h45 := i_pos c46 h45
                  refine e_k 1 (f' := (215, [(3, .int x4), (2, .int x2), (0, .ref 112), (1, .int p2)], [.int 0, .int (I 141 (Int32.toNatClampNeg p2))])) rfl ?_
                  refine e_sub (ls := []) rfl ⟨⟩ ?_
                  subst h45
                  exact Kj45
                · replace h45 := i_neg c46 h45
                  refine e_k 2 (f' := (215, [(3, .int x4), (2, .int x2), (0, .ref 112), (1, .int p2)], [.int 16, .int (I 141 (Int32.toNatClampNeg p2))])) rfl ?_
                  refine e_sub (ls := []) rfl ⟨⟩ ?_
                  subst h45
                  exact Kj45
              · replace hb := i_neg c42 hb
                refine e_k 3 (f' := (if ¬ x4 = 29 then 225 else 197, [(3, .int x4), (2, .int x2), (0, .ref 112), (1, .int p2)], [])) rfl ?_
                refine e_if (fun c48 => ?_) (fun c48 => ?_)
                · replace hb := i_pos c48 hb
                  refine e_k 3 (f' := (if ¬ x4 = 7 then 244 else 231, [(3, .int x4), (2, .int x2), (0, .ref 112), (1, .int p2)], [])) rfl ?_
                  refine e_if (fun c49 => ?_) (fun c49 => ?_)
                  · replace hb := i_pos c49 hb
                    refine e_k 2 (f' := (246, [(3, .int x4), (2, .int x2), (0, .ref 112), (1, .int p2)], [.int x2, .ref 112])) rfl ?_
                    obtain ⟨v50, I50, J50, h50, hb⟩ := oc_call hb
                    refine r_cv (z := m_Model_isJoint) (As := [.int x2]) (rest := []) rfl rfl rfl rfl rfl (x_ltn rfl) rfl rfl (E_Model_isJoint  h50 ⟨_, rfl, ?_⟩)
                    refine e_k 1 (f' := (if v50 = 0 then 272 else 252, [(3, .int x4), (2, .int x2), (0, .ref 112), (1, .int p2)], [])) rfl ?_
                    refine e_if (fun c51 => ?_) (fun c51 => ?_)
                    · replace hb := i_pos c51 hb
                      refine e_k 1 (f' := (273, [(3, .int x4), (2, .int x2), (0, .ref 112), (1, .int p2)], [.int 0])) rfl ?_
                      obtain ⟨rfl, rfl, rfl⟩ := s_inj hb
                      exact e_r rfl rfl K
                    · replace hb := i_neg c51 hb
                      refine e_k 1 (f' := (253, [(3, .int x4), (2, .int x2), (0, .ref 112), (1, .int p2)], [.ref 112])) rfl ?_
                      refine r_getr rfl (x_ltn rfl) rfl rfl ?_
                      refine e_k 1 (f' := (257, [(3, .int x4), (2, .int x2), (0, .ref 112), (1, .int p2)], [.int p2, .ref 121])) rfl ?_
                      obtain ⟨o52, hb⟩ := ob_in hb
                      refine r_iald rfl rfl (x_ltn rfl) rfl o52 ?_
                      refine e_k 3 (f' := (262, [(3, .int x4), (2, .int x2), (0, .ref 112), (1, .int p2)], [.ref 112, .int ((I50 121 (Int32.toNatClampNeg p2)) + 16)])) rfl ?_
                      refine r_geti rfl (x_ltn rfl) rfl rfl ?_
                      refine e_k 1 (f' := (if ((I50 121 (Int32.toNatClampNeg p2)) + 16) ≤ (I50 112 24) then 272 else 268, [(3, .int x4), (2, .int x2), (0, .ref 112), (1, .int p2)], [])) rfl ?_
                      refine e_if (fun c53 => ?_) (fun c53 => ?_)
                      · replace hb := i_pos c53 hb
                        refine e_k 1 (f' := (273, [(3, .int x4), (2, .int x2), (0, .ref 112), (1, .int p2)], [.int 0])) rfl ?_
                        obtain ⟨rfl, rfl, rfl⟩ := s_inj hb
                        exact e_r rfl rfl K
                      · replace hb := i_neg c53 hb
                        refine e_k 2 (f' := (273, [(3, .int x4), (2, .int x2), (0, .ref 112), (1, .int p2)], [.int 3])) rfl ?_
                        obtain ⟨rfl, rfl, rfl⟩ := s_inj hb
                        exact e_r rfl rfl K
                  · replace hb := i_neg c49 hb
                    refine e_k 1 (f' := (232, [(3, .int x4), (2, .int x2), (0, .ref 112), (1, .int p2)], [.ref 112])) rfl ?_
                    refine r_getr rfl (x_ltn rfl) rfl rfl ?_
                    refine e_k 1 (f' := (236, [(3, .int x4), (2, .int x2), (0, .ref 112), (1, .int p2)], [.int p2, .ref 121])) rfl ?_
                    obtain ⟨o54, hb⟩ := ob_in hb
                    refine r_iald rfl rfl (x_ltn rfl) rfl o54 ?_
                    refine e_k 1 (f' := (238, [(3, .int x4), (2, .int x2), (0, .ref 112), (1, .int p2)], [.ref 112, .int (I 121 (Int32.toNatClampNeg p2))])) rfl ?_
                    refine r_geti rfl (x_ltn rfl) rfl rfl ?_
                    refine e_k 1 (f' := (if (I 121 (Int32.toNatClampNeg p2)) = (I 112 24) then 268 else 244, [(3, .int x4), (2, .int x2), (0, .ref 112), (1, .int p2)], [])) rfl ?_
                    refine e_if (fun c55 => ?_) (fun c55 => ?_)
                    · replace hb := i_pos c55 hb
                      refine e_k 2 (f' := (273, [(3, .int x4), (2, .int x2), (0, .ref 112), (1, .int p2)], [.int 3])) rfl ?_
                      obtain ⟨rfl, rfl, rfl⟩ := s_inj hb
                      exact e_r rfl rfl K
                    · replace hb := i_neg c55 hb
                      refine e_k 2 (f' := (246, [(3, .int x4), (2, .int x2), (0, .ref 112), (1, .int p2)], [.int x2, .ref 112])) rfl ?_
                      obtain ⟨v56, I56, J56, h56, hb⟩ := oc_call hb
                      refine r_cv (z := m_Model_isJoint) (As := [.int x2]) (rest := []) rfl rfl rfl rfl rfl (x_ltn rfl) rfl rfl (E_Model_isJoint  h56 ⟨_, rfl, ?_⟩)
                      refine e_k 1 (f' := (if v56 = 0 then 272 else 252, [(3, .int x4), (2, .int x2), (0, .ref 112), (1, .int p2)], [])) rfl ?_
                      refine e_if (fun c57 => ?_) (fun c57 => ?_)
                      · replace hb := i_pos c57 hb
                        refine e_k 1 (f' := (273, [(3, .int x4), (2, .int x2), (0, .ref 112), (1, .int p2)], [.int 0])) rfl ?_
                        obtain ⟨rfl, rfl, rfl⟩ := s_inj hb
                        exact e_r rfl rfl K
                      · replace hb := i_neg c57 hb
                        refine e_k 1 (f' := (253, [(3, .int x4), (2, .int x2), (0, .ref 112), (1, .int p2)], [.ref 112])) rfl ?_
                        refine r_getr rfl (x_ltn rfl) rfl rfl ?_
                        refine e_k 1 (f' := (257, [(3, .int x4), (2, .int x2), (0, .ref 112), (1, .int p2)], [.int p2, .ref 121])) rfl ?_
                        obtain ⟨o58, hb⟩ := ob_in hb
                        refine r_iald rfl rfl (x_ltn rfl) rfl o58 ?_
                        refine e_k 3 (f' := (262, [(3, .int x4), (2, .int x2), (0, .ref 112), (1, .int p2)], [.ref 112, .int ((I56 121 (Int32.toNatClampNeg p2)) + 16)])) rfl ?_
                        refine r_geti rfl (x_ltn rfl) rfl rfl ?_
                        refine e_k 1 (f' := (if ((I56 121 (Int32.toNatClampNeg p2)) + 16) ≤ (I56 112 24) then 272 else 268, [(3, .int x4), (2, .int x2), (0, .ref 112), (1, .int p2)], [])) rfl ?_
                        refine e_if (fun c59 => ?_) (fun c59 => ?_)
                        · replace hb := i_pos c59 hb
                          refine e_k 1 (f' := (273, [(3, .int x4), (2, .int x2), (0, .ref 112), (1, .int p2)], [.int 0])) rfl ?_
                          obtain ⟨rfl, rfl, rfl⟩ := s_inj hb
                          exact e_r rfl rfl K
                        · replace hb := i_neg c59 hb
                          refine e_k 2 (f' := (273, [(3, .int x4), (2, .int x2), (0, .ref 112), (1, .int p2)], [.int 3])) rfl ?_
                          obtain ⟨rfl, rfl, rfl⟩ := s_inj hb
                          exact e_r rfl rfl K
                · replace hb := i_neg c48 hb
                  refine e_k 1 (f' := (198, [(3, .int x4), (2, .int x2), (0, .ref 112), (1, .int p2)], [.ref 112])) rfl ?_
                  refine r_getr rfl (x_ltn rfl) rfl rfl ?_
                  refine e_k 1 (f' := (202, [(3, .int x4), (2, .int x2), (0, .ref 112), (1, .int p2)], [.int p2, .ref 141])) rfl ?_
                  obtain ⟨o60, hb⟩ := ob_in hb
                  refine r_iald rfl rfl (x_ltn rfl) rfl o60 ?_
                  refine e_k 3 (f' := (if ¬ x4 = 28 then 214 else 209, [(3, .int x4), (2, .int x2), (0, .ref 112), (1, .int p2)], [.int (I 141 (Int32.toNatClampNeg p2))])) rfl ?_
                  obtain ⟨v62, h62, hb⟩ := p_nn hb
                  have Kj62 : am_E (gG L xs) (d + 2) m_Model_lacking (215, [], [.int v62, .int (I 141 (Int32.toNatClampNeg p2))]) (hX X I J) P := by
                    refine e_k 1 (f' := (if ¬ (I 141 (Int32.toNatClampNeg p2)) = v62 then 223 else 218, [], [])) rfl ?_
                    refine e_if (fun c64 => ?_) (fun c64 => ?_)
                    · replace hb := i_pos c64 hb
                      refine e_k 1 (f' := (224, [], [.int 0])) rfl ?_
                      obtain ⟨rfl, rfl, rfl⟩ := s_inj hb
                      exact e_r rfl rfl K
                    · replace hb := i_neg c64 hb
                      refine e_k 2 (f' := (224, [], [.int 7])) rfl ?_
                      obtain ⟨rfl, rfl, rfl⟩ := s_inj hb
                      exact e_r rfl rfl K
                  clear hb
                  refine e_if (fun c63 => ?_) (fun c63 => ?_)
                  · replace h62 := i_pos c63 h62
                    refine e_k 1 (f' := (215, [(3, .int x4), (2, .int x2), (0, .ref 112), (1, .int p2)], [.int 0, .int (I 141 (Int32.toNatClampNeg p2))])) rfl ?_
                    refine e_sub (ls := []) rfl ⟨⟩ ?_
                    subst h62
                    exact Kj62
                  · replace h62 := i_neg c63 h62
                    refine e_k 2 (f' := (215, [(3, .int x4), (2, .int x2), (0, .ref 112), (1, .int p2)], [.int 16, .int (I 141 (Int32.toNatClampNeg p2))])) rfl ?_
                    refine e_sub (ls := []) rfl ⟨⟩ ?_
                    subst h62
                    exact Kj62
            · replace hb := i_neg c41 hb
              refine e_k 1 (f' := (166, [(3, .int x4), (2, .int x2), (0, .ref 112), (1, .int p2)], [.ref 112])) rfl ?_
              refine r_getr rfl (x_ltn rfl) rfl rfl ?_
              refine e_k 1 (f' := (170, [(3, .int x4), (2, .int x2), (0, .ref 112), (1, .int p2)], [.int p2, .ref 123])) rfl ?_
              obtain ⟨o65, hb⟩ := ob_in hb
              refine r_iald rfl rfl (x_ltn rfl) rfl o65 ?_
              refine e_k 1 (f' := (172, [(3, .int x4), (2, .int x2), (0, .ref 112), (1, .int p2)], [.ref 112, .int (I 123 (Int32.toNatClampNeg p2))])) rfl ?_
              refine r_geti rfl (x_ltn rfl) rfl rfl ?_
              refine e_k 1 (f' := (if ¬ (I 123 (Int32.toNatClampNeg p2)) = (I 112 28) then 183 else 178, [(3, .int x4), (2, .int x2), (0, .ref 112), (1, .int p2)], [])) rfl ?_
              refine e_if (fun c66 => ?_) (fun c66 => ?_)
              · replace hb := i_pos c66 hb
                refine e_k 1 (f' := (184, [(3, .int x4), (2, .int x2), (0, .ref 112), (1, .int p2)], [.int 0])) rfl ?_
                obtain ⟨rfl, rfl, rfl⟩ := s_inj hb
                exact e_r rfl rfl K
              · replace hb := i_neg c66 hb
                refine e_k 2 (f' := (184, [(3, .int x4), (2, .int x2), (0, .ref 112), (1, .int p2)], [.int 6])) rfl ?_
                obtain ⟨rfl, rfl, rfl⟩ := s_inj hb
                exact e_r rfl rfl K
          · replace hb := i_neg c40 hb
            refine e_k 1 (f' := (141, [(3, .int x4), (2, .int x2), (0, .ref 112), (1, .int p2)], [.ref 112])) rfl ?_
            refine r_getr rfl (x_ltn rfl) rfl rfl ?_
            refine e_k 1 (f' := (145, [(3, .int x4), (2, .int x2), (0, .ref 112), (1, .int p2)], [.int p2, .ref 122])) rfl ?_
            obtain ⟨o67, hb⟩ := ob_in hb
            refine r_iald rfl rfl (x_ltn rfl) rfl o67 ?_
            refine e_k 1 (f' := (147, [(3, .int x4), (2, .int x2), (0, .ref 112), (1, .int p2)], [.ref 112, .int (I 122 (Int32.toNatClampNeg p2))])) rfl ?_
            refine r_geti rfl (x_ltn rfl) rfl rfl ?_
            refine e_k 1 (f' := (if ¬ (I 122 (Int32.toNatClampNeg p2)) = (I 112 26) then 157 else 153, [(3, .int x4), (2, .int x2), (0, .ref 112), (1, .int p2)], [])) rfl ?_
            refine e_if (fun c68 => ?_) (fun c68 => ?_)
            · replace hb := i_pos c68 hb
              refine e_k 1 (f' := (158, [(3, .int x4), (2, .int x2), (0, .ref 112), (1, .int p2)], [.int 0])) rfl ?_
              obtain ⟨rfl, rfl, rfl⟩ := s_inj hb
              exact e_r rfl rfl K
            · replace hb := i_neg c68 hb
              refine e_k 2 (f' := (158, [(3, .int x4), (2, .int x2), (0, .ref 112), (1, .int p2)], [.int 4])) rfl ?_
              obtain ⟨rfl, rfl, rfl⟩ := s_inj hb
              exact e_r rfl rfl K
        · replace hb := i_neg c39 hb
          refine e_k 1 (f' := (101, [(3, .int x4), (2, .int x2), (0, .ref 112), (1, .int p2)], [.ref 112])) rfl ?_
          refine r_getr rfl (x_ltn rfl) rfl rfl ?_
          refine e_k 1 (f' := (105, [(3, .int x4), (2, .int x2), (0, .ref 112), (1, .int p2)], [.int p2, .ref 126])) rfl ?_
          obtain ⟨o69, hb⟩ := ob_in hb
          refine r_iald rfl rfl (x_ltn rfl) rfl o69 ?_
          refine e_k 1 (f' := (107, [(3, .int x4), (2, .int x2), (0, .ref 112), (1, .int p2)], [.ref 112, .int (I 126 (Int32.toNatClampNeg p2))])) rfl ?_
          refine r_getr rfl (x_ltn rfl) rfl rfl ?_
          refine e_k 1 (f' := (111, [(3, .int x4), (2, .int x2), (0, .ref 112), (1, .int p2)], [.int p2, .ref 125, .int (I 126 (Int32.toNatClampNeg p2))])) rfl ?_
          obtain ⟨o70, hb⟩ := ob_in hb
          refine r_iald rfl rfl (x_ltn rfl) rfl o70 ?_
          refine e_k 1 (f' := (if ¬ (I 126 (Int32.toNatClampNeg p2)) = (I 125 (Int32.toNatClampNeg p2)) then 119 else 115, [(3, .int x4), (2, .int x2), (0, .ref 112), (1, .int p2)], [])) rfl ?_
          refine e_if (fun c71 => ?_) (fun c71 => ?_)
          · replace hb := i_pos c71 hb
            refine e_k 1 (f' := (120, [(3, .int x4), (2, .int x2), (0, .ref 112), (1, .int p2)], [.ref 112])) rfl ?_
            refine r_getr rfl (x_ltn rfl) rfl rfl ?_
            refine e_k 1 (f' := (124, [(3, .int x4), (2, .int x2), (0, .ref 112), (1, .int p2)], [.int p2, .ref 119])) rfl ?_
            obtain ⟨o72, hb⟩ := ob_in hb
            refine r_iald rfl rfl (x_ltn rfl) rfl o72 ?_
            refine e_k 1 (f' := (if ¬ (I 119 (Int32.toNatClampNeg p2)) = 0 then 132 else 128, [(3, .int x4), (2, .int x2), (0, .ref 112), (1, .int p2)], [])) rfl ?_
            refine e_if (fun c73 => ?_) (fun c73 => ?_)
            · replace hb := i_pos c73 hb
              refine e_k 1 (f' := (133, [(3, .int x4), (2, .int x2), (0, .ref 112), (1, .int p2)], [.int 0])) rfl ?_
              obtain ⟨rfl, rfl, rfl⟩ := s_inj hb
              exact e_r rfl rfl K
            · replace hb := i_neg c73 hb
              refine e_k 2 (f' := (133, [(3, .int x4), (2, .int x2), (0, .ref 112), (1, .int p2)], [.int 2])) rfl ?_
              obtain ⟨rfl, rfl, rfl⟩ := s_inj hb
              exact e_r rfl rfl K
          · replace hb := i_neg c71 hb
            refine e_k 2 (f' := (133, [(3, .int x4), (2, .int x2), (0, .ref 112), (1, .int p2)], [.int 1])) rfl ?_
            obtain ⟨rfl, rfl, rfl⟩ := s_inj hb
            exact e_r rfl rfl K
    · replace hb := i_neg c7 hb
      refine e_k 1 (f' := (81, [(3, .int x4), (2, .int x2), (0, .ref 112), (1, .int p2)], [.int 0])) rfl ?_
      obtain ⟨rfl, rfl, rfl⟩ := s_inj hb
      exact e_r rfl rfl K
  · replace hb := i_neg c5 hb
    refine e_k 3 (f' := (if 22 < x4 then 71 else 26, [(3, .int x4), (2, .int x2), (0, .ref 112), (1, .int p2)], [])) rfl ?_
    refine e_if (fun c74 => ?_) (fun c74 => ?_)
    · replace hb := i_pos c74 hb
      refine e_k 1 (f' := (72, [(3, .int x4), (2, .int x2), (0, .ref 112), (1, .int p2)], [.ref 112])) rfl ?_
      refine r_getr rfl (x_ltn rfl) rfl rfl ?_
      refine e_k 1 (f' := (76, [(3, .int x4), (2, .int x2), (0, .ref 112), (1, .int p2)], [.int p2, .ref 128])) rfl ?_
      obtain ⟨o75, hb⟩ := ob_in hb
      refine r_iald rfl rfl (x_ltn rfl) rfl o75 ?_
      refine e_k 1 (f' := (if (I 128 (Int32.toNatClampNeg p2)) = 0 then 82 else 80, [(3, .int x4), (2, .int x2), (0, .ref 112), (1, .int p2)], [])) rfl ?_
      refine e_if (fun c76 => ?_) (fun c76 => ?_)
      · replace hb := i_pos c76 hb
        refine e_k 3 (f' := (if ¬ x4 = 13 then 134 else 88, [(3, .int x4), (2, .int x2), (0, .ref 112), (1, .int p2)], [])) rfl ?_
        refine e_if (fun c77 => ?_) (fun c77 => ?_)
        · replace hb := i_pos c77 hb
          refine e_k 3 (f' := (if ¬ x4 = 10 then 159 else 140, [(3, .int x4), (2, .int x2), (0, .ref 112), (1, .int p2)], [])) rfl ?_
          refine e_if (fun c78 => ?_) (fun c78 => ?_)
          · replace hb := i_pos c78 hb
            refine e_k 3 (f' := (if ¬ x4 = 27 then 185 else 165, [(3, .int x4), (2, .int x2), (0, .ref 112), (1, .int p2)], [])) rfl ?_
            refine e_if (fun c79 => ?_) (fun c79 => ?_)
            · replace hb := i_pos c79 hb
              refine e_k 3 (f' := (if x4 = 28 then 197 else 191, [(3, .int x4), (2, .int x2), (0, .ref 112), (1, .int p2)], [])) rfl ?_
              refine e_if (fun c80 => ?_) (fun c80 => ?_)
              · replace hb := i_pos c80 hb
                refine e_k 1 (f' := (198, [(3, .int x4), (2, .int x2), (0, .ref 112), (1, .int p2)], [.ref 112])) rfl ?_
                refine r_getr rfl (x_ltn rfl) rfl rfl ?_
                refine e_k 1 (f' := (202, [(3, .int x4), (2, .int x2), (0, .ref 112), (1, .int p2)], [.int p2, .ref 141])) rfl ?_
                obtain ⟨o81, hb⟩ := ob_in hb
                refine r_iald rfl rfl (x_ltn rfl) rfl o81 ?_
                refine e_k 3 (f' := (if ¬ x4 = 28 then 214 else 209, [(3, .int x4), (2, .int x2), (0, .ref 112), (1, .int p2)], [.int (I 141 (Int32.toNatClampNeg p2))])) rfl ?_
                obtain ⟨v83, h83, hb⟩ := p_nn hb
                have Kj83 : am_E (gG L xs) (d + 2) m_Model_lacking (215, [], [.int v83, .int (I 141 (Int32.toNatClampNeg p2))]) (hX X I J) P := by
                  refine e_k 1 (f' := (if ¬ (I 141 (Int32.toNatClampNeg p2)) = v83 then 223 else 218, [], [])) rfl ?_
                  refine e_if (fun c85 => ?_) (fun c85 => ?_)
                  · replace hb := i_pos c85 hb
                    refine e_k 1 (f' := (224, [], [.int 0])) rfl ?_
                    obtain ⟨rfl, rfl, rfl⟩ := s_inj hb
                    exact e_r rfl rfl K
                  · replace hb := i_neg c85 hb
                    refine e_k 2 (f' := (224, [], [.int 7])) rfl ?_
                    obtain ⟨rfl, rfl, rfl⟩ := s_inj hb
                    exact e_r rfl rfl K
                clear hb
                refine e_if (fun c84 => ?_) (fun c84 => ?_)
                · replace h83 := i_pos c84 h83
                  refine e_k 1 (f' := (215, [(3, .int x4), (2, .int x2), (0, .ref 112), (1, .int p2)], [.int 0, .int (I 141 (Int32.toNatClampNeg p2))])) rfl ?_
                  refine e_sub (ls := []) rfl ⟨⟩ ?_
                  subst h83
                  exact Kj83
                · replace h83 := i_neg c84 h83
                  refine e_k 2 (f' := (215, [(3, .int x4), (2, .int x2), (0, .ref 112), (1, .int p2)], [.int 16, .int (I 141 (Int32.toNatClampNeg p2))])) rfl ?_
                  refine e_sub (ls := []) rfl ⟨⟩ ?_
                  subst h83
                  exact Kj83
              · replace hb := i_neg c80 hb
                refine e_k 3 (f' := (if ¬ x4 = 29 then 225 else 197, [(3, .int x4), (2, .int x2), (0, .ref 112), (1, .int p2)], [])) rfl ?_
                refine e_if (fun c86 => ?_) (fun c86 => ?_)
                · replace hb := i_pos c86 hb
                  refine e_k 3 (f' := (if ¬ x4 = 7 then 244 else 231, [(3, .int x4), (2, .int x2), (0, .ref 112), (1, .int p2)], [])) rfl ?_
                  refine e_if (fun c87 => ?_) (fun c87 => ?_)
                  · replace hb := i_pos c87 hb
                    refine e_k 2 (f' := (246, [(3, .int x4), (2, .int x2), (0, .ref 112), (1, .int p2)], [.int x2, .ref 112])) rfl ?_
                    obtain ⟨v88, I88, J88, h88, hb⟩ := oc_call hb
                    refine r_cv (z := m_Model_isJoint) (As := [.int x2]) (rest := []) rfl rfl rfl rfl rfl (x_ltn rfl) rfl rfl (E_Model_isJoint  h88 ⟨_, rfl, ?_⟩)
                    refine e_k 1 (f' := (if v88 = 0 then 272 else 252, [(3, .int x4), (2, .int x2), (0, .ref 112), (1, .int p2)], [])) rfl ?_
                    refine e_if (fun c89 => ?_) (fun c89 => ?_)
                    · replace hb := i_pos c89 hb
                      refine e_k 1 (f' := (273, [(3, .int x4), (2, .int x2), (0, .ref 112), (1, .int p2)], [.int 0])) rfl ?_
                      obtain ⟨rfl, rfl, rfl⟩ := s_inj hb
                      exact e_r rfl rfl K
                    · replace hb := i_neg c89 hb
                      refine e_k 1 (f' := (253, [(3, .int x4), (2, .int x2), (0, .ref 112), (1, .int p2)], [.ref 112])) rfl ?_
                      refine r_getr rfl (x_ltn rfl) rfl rfl ?_
                      refine e_k 1 (f' := (257, [(3, .int x4), (2, .int x2), (0, .ref 112), (1, .int p2)], [.int p2, .ref 121])) rfl ?_
                      obtain ⟨o90, hb⟩ := ob_in hb
                      refine r_iald rfl rfl (x_ltn rfl) rfl o90 ?_
                      refine e_k 3 (f' := (262, [(3, .int x4), (2, .int x2), (0, .ref 112), (1, .int p2)], [.ref 112, .int ((I88 121 (Int32.toNatClampNeg p2)) + 16)])) rfl ?_
                      refine r_geti rfl (x_ltn rfl) rfl rfl ?_
                      refine e_k 1 (f' := (if ((I88 121 (Int32.toNatClampNeg p2)) + 16) ≤ (I88 112 24) then 272 else 268, [(3, .int x4), (2, .int x2), (0, .ref 112), (1, .int p2)], [])) rfl ?_
                      refine e_if (fun c91 => ?_) (fun c91 => ?_)
                      · replace hb := i_pos c91 hb
                        refine e_k 1 (f' := (273, [(3, .int x4), (2, .int x2), (0, .ref 112), (1, .int p2)], [.int 0])) rfl ?_
                        obtain ⟨rfl, rfl, rfl⟩ := s_inj hb
                        exact e_r rfl rfl K
                      · replace hb := i_neg c91 hb
                        refine e_k 2 (f' := (273, [(3, .int x4), (2, .int x2), (0, .ref 112), (1, .int p2)], [.int 3])) rfl ?_
                        obtain ⟨rfl, rfl, rfl⟩ := s_inj hb
                        exact e_r rfl rfl K
                  · replace hb := i_neg c87 hb
                    refine e_k 1 (f' := (232, [(3, .int x4), (2, .int x2), (0, .ref 112), (1, .int p2)], [.ref 112])) rfl ?_
                    refine r_getr rfl (x_ltn rfl) rfl rfl ?_
                    refine e_k 1 (f' := (236, [(3, .int x4), (2, .int x2), (0, .ref 112), (1, .int p2)], [.int p2, .ref 121])) rfl ?_
                    obtain ⟨o92, hb⟩ := ob_in hb
                    refine r_iald rfl rfl (x_ltn rfl) rfl o92 ?_
                    refine e_k 1 (f' := (238, [(3, .int x4), (2, .int x2), (0, .ref 112), (1, .int p2)], [.ref 112, .int (I 121 (Int32.toNatClampNeg p2))])) rfl ?_
                    refine r_geti rfl (x_ltn rfl) rfl rfl ?_
                    refine e_k 1 (f' := (if (I 121 (Int32.toNatClampNeg p2)) = (I 112 24) then 268 else 244, [(3, .int x4), (2, .int x2), (0, .ref 112), (1, .int p2)], [])) rfl ?_
                    refine e_if (fun c93 => ?_) (fun c93 => ?_)
                    · replace hb := i_pos c93 hb
                      refine e_k 2 (f' := (273, [(3, .int x4), (2, .int x2), (0, .ref 112), (1, .int p2)], [.int 3])) rfl ?_
                      obtain ⟨rfl, rfl, rfl⟩ := s_inj hb
                      exact e_r rfl rfl K
                    · replace hb := i_neg c93 hb
                      refine e_k 2 (f' := (246, [(3, .int x4), (2, .int x2), (0, .ref 112), (1, .int p2)], [.int x2, .ref 112])) rfl ?_
                      obtain ⟨v94, I94, J94, h94, hb⟩ := oc_call hb
                      refine r_cv (z := m_Model_isJoint) (As := [.int x2]) (rest := []) rfl rfl rfl rfl rfl (x_ltn rfl) rfl rfl (E_Model_isJoint  h94 ⟨_, rfl, ?_⟩)
                      refine e_k 1 (f' := (if v94 = 0 then 272 else 252, [(3, .int x4), (2, .int x2), (0, .ref 112), (1, .int p2)], [])) rfl ?_
                      refine e_if (fun c95 => ?_) (fun c95 => ?_)
                      · replace hb := i_pos c95 hb
                        refine e_k 1 (f' := (273, [(3, .int x4), (2, .int x2), (0, .ref 112), (1, .int p2)], [.int 0])) rfl ?_
                        obtain ⟨rfl, rfl, rfl⟩ := s_inj hb
                        exact e_r rfl rfl K
                      · replace hb := i_neg c95 hb
                        refine e_k 1 (f' := (253, [(3, .int x4), (2, .int x2), (0, .ref 112), (1, .int p2)], [.ref 112])) rfl ?_
                        refine r_getr rfl (x_ltn rfl) rfl rfl ?_
                        refine e_k 1 (f' := (257, [(3, .int x4), (2, .int x2), (0, .ref 112), (1, .int p2)], [.int p2, .ref 121])) rfl ?_
                        obtain ⟨o96, hb⟩ := ob_in hb
                        refine r_iald rfl rfl (x_ltn rfl) rfl o96 ?_
                        refine e_k 3 (f' := (262, [(3, .int x4), (2, .int x2), (0, .ref 112), (1, .int p2)], [.ref 112, .int ((I94 121 (Int32.toNatClampNeg p2)) + 16)])) rfl ?_
                        refine r_geti rfl (x_ltn rfl) rfl rfl ?_
                        refine e_k 1 (f' := (if ((I94 121 (Int32.toNatClampNeg p2)) + 16) ≤ (I94 112 24) then 272 else 268, [(3, .int x4), (2, .int x2), (0, .ref 112), (1, .int p2)], [])) rfl ?_
                        refine e_if (fun c97 => ?_) (fun c97 => ?_)
                        · replace hb := i_pos c97 hb
                          refine e_k 1 (f' := (273, [(3, .int x4), (2, .int x2), (0, .ref 112), (1, .int p2)], [.int 0])) rfl ?_
                          obtain ⟨rfl, rfl, rfl⟩ := s_inj hb
                          exact e_r rfl rfl K
                        · replace hb := i_neg c97 hb
                          refine e_k 2 (f' := (273, [(3, .int x4), (2, .int x2), (0, .ref 112), (1, .int p2)], [.int 3])) rfl ?_
                          obtain ⟨rfl, rfl, rfl⟩ := s_inj hb
                          exact e_r rfl rfl K
                · replace hb := i_neg c86 hb
                  refine e_k 1 (f' := (198, [(3, .int x4), (2, .int x2), (0, .ref 112), (1, .int p2)], [.ref 112])) rfl ?_
                  refine r_getr rfl (x_ltn rfl) rfl rfl ?_
                  refine e_k 1 (f' := (202, [(3, .int x4), (2, .int x2), (0, .ref 112), (1, .int p2)], [.int p2, .ref 141])) rfl ?_
                  obtain ⟨o98, hb⟩ := ob_in hb
                  refine r_iald rfl rfl (x_ltn rfl) rfl o98 ?_
                  refine e_k 3 (f' := (if ¬ x4 = 28 then 214 else 209, [(3, .int x4), (2, .int x2), (0, .ref 112), (1, .int p2)], [.int (I 141 (Int32.toNatClampNeg p2))])) rfl ?_
                  obtain ⟨v100, h100, hb⟩ := p_nn hb
                  have Kj100 : am_E (gG L xs) (d + 2) m_Model_lacking (215, [], [.int v100, .int (I 141 (Int32.toNatClampNeg p2))]) (hX X I J) P := by
                    refine e_k 1 (f' := (if ¬ (I 141 (Int32.toNatClampNeg p2)) = v100 then 223 else 218, [], [])) rfl ?_
                    refine e_if (fun c102 => ?_) (fun c102 => ?_)
                    · replace hb := i_pos c102 hb
                      refine e_k 1 (f' := (224, [], [.int 0])) rfl ?_
                      obtain ⟨rfl, rfl, rfl⟩ := s_inj hb
                      exact e_r rfl rfl K
                    · replace hb := i_neg c102 hb
                      refine e_k 2 (f' := (224, [], [.int 7])) rfl ?_
                      obtain ⟨rfl, rfl, rfl⟩ := s_inj hb
                      exact e_r rfl rfl K
                  clear hb
                  refine e_if (fun c101 => ?_) (fun c101 => ?_)
                  · replace h100 := i_pos c101 h100
                    refine e_k 1 (f' := (215, [(3, .int x4), (2, .int x2), (0, .ref 112), (1, .int p2)], [.int 0, .int (I 141 (Int32.toNatClampNeg p2))])) rfl ?_
                    refine e_sub (ls := []) rfl ⟨⟩ ?_
                    subst h100
                    exact Kj100
                  · replace h100 := i_neg c101 h100
                    refine e_k 2 (f' := (215, [(3, .int x4), (2, .int x2), (0, .ref 112), (1, .int p2)], [.int 16, .int (I 141 (Int32.toNatClampNeg p2))])) rfl ?_
                    refine e_sub (ls := []) rfl ⟨⟩ ?_
                    subst h100
                    exact Kj100
            · replace hb := i_neg c79 hb
              refine e_k 1 (f' := (166, [(3, .int x4), (2, .int x2), (0, .ref 112), (1, .int p2)], [.ref 112])) rfl ?_
              refine r_getr rfl (x_ltn rfl) rfl rfl ?_
              refine e_k 1 (f' := (170, [(3, .int x4), (2, .int x2), (0, .ref 112), (1, .int p2)], [.int p2, .ref 123])) rfl ?_
              obtain ⟨o103, hb⟩ := ob_in hb
              refine r_iald rfl rfl (x_ltn rfl) rfl o103 ?_
              refine e_k 1 (f' := (172, [(3, .int x4), (2, .int x2), (0, .ref 112), (1, .int p2)], [.ref 112, .int (I 123 (Int32.toNatClampNeg p2))])) rfl ?_
              refine r_geti rfl (x_ltn rfl) rfl rfl ?_
              refine e_k 1 (f' := (if ¬ (I 123 (Int32.toNatClampNeg p2)) = (I 112 28) then 183 else 178, [(3, .int x4), (2, .int x2), (0, .ref 112), (1, .int p2)], [])) rfl ?_
              refine e_if (fun c104 => ?_) (fun c104 => ?_)
              · replace hb := i_pos c104 hb
                refine e_k 1 (f' := (184, [(3, .int x4), (2, .int x2), (0, .ref 112), (1, .int p2)], [.int 0])) rfl ?_
                obtain ⟨rfl, rfl, rfl⟩ := s_inj hb
                exact e_r rfl rfl K
              · replace hb := i_neg c104 hb
                refine e_k 2 (f' := (184, [(3, .int x4), (2, .int x2), (0, .ref 112), (1, .int p2)], [.int 6])) rfl ?_
                obtain ⟨rfl, rfl, rfl⟩ := s_inj hb
                exact e_r rfl rfl K
          · replace hb := i_neg c78 hb
            refine e_k 1 (f' := (141, [(3, .int x4), (2, .int x2), (0, .ref 112), (1, .int p2)], [.ref 112])) rfl ?_
            refine r_getr rfl (x_ltn rfl) rfl rfl ?_
            refine e_k 1 (f' := (145, [(3, .int x4), (2, .int x2), (0, .ref 112), (1, .int p2)], [.int p2, .ref 122])) rfl ?_
            obtain ⟨o105, hb⟩ := ob_in hb
            refine r_iald rfl rfl (x_ltn rfl) rfl o105 ?_
            refine e_k 1 (f' := (147, [(3, .int x4), (2, .int x2), (0, .ref 112), (1, .int p2)], [.ref 112, .int (I 122 (Int32.toNatClampNeg p2))])) rfl ?_
            refine r_geti rfl (x_ltn rfl) rfl rfl ?_
            refine e_k 1 (f' := (if ¬ (I 122 (Int32.toNatClampNeg p2)) = (I 112 26) then 157 else 153, [(3, .int x4), (2, .int x2), (0, .ref 112), (1, .int p2)], [])) rfl ?_
            refine e_if (fun c106 => ?_) (fun c106 => ?_)
            · replace hb := i_pos c106 hb
              refine e_k 1 (f' := (158, [(3, .int x4), (2, .int x2), (0, .ref 112), (1, .int p2)], [.int 0])) rfl ?_
              obtain ⟨rfl, rfl, rfl⟩ := s_inj hb
              exact e_r rfl rfl K
            · replace hb := i_neg c106 hb
              refine e_k 2 (f' := (158, [(3, .int x4), (2, .int x2), (0, .ref 112), (1, .int p2)], [.int 4])) rfl ?_
              obtain ⟨rfl, rfl, rfl⟩ := s_inj hb
              exact e_r rfl rfl K
        · replace hb := i_neg c77 hb
          refine e_k 1 (f' := (89, [(3, .int x4), (2, .int x2), (0, .ref 112), (1, .int p2)], [.ref 112])) rfl ?_
          refine r_getr rfl (x_ltn rfl) rfl rfl ?_
          refine e_k 3 (f' := (95, [(3, .int x4), (2, .int x2), (0, .ref 112), (1, .int p2)], [.int (x2 + 2), .ref 114])) rfl ?_
          obtain ⟨o107, hb⟩ := ob_in hb
          refine r_iald rfl rfl (x_ltn rfl) rfl o107 ?_
          refine e_k 2 (f' := (if ¬ (I 114 (Int32.toNatClampNeg (x2 + 2))) = p2 then 134 else 100, [(3, .int x4), (2, .int x2), (0, .ref 112), (1, .int p2)], [])) rfl ?_
          refine e_if (fun c108 => ?_) (fun c108 => ?_)
          · replace hb := i_pos c108 hb
            refine e_k 3 (f' := (if ¬ x4 = 10 then 159 else 140, [(3, .int x4), (2, .int x2), (0, .ref 112), (1, .int p2)], [])) rfl ?_
            refine e_if (fun c109 => ?_) (fun c109 => ?_)
            · replace hb := i_pos c109 hb
              refine e_k 3 (f' := (if ¬ x4 = 27 then 185 else 165, [(3, .int x4), (2, .int x2), (0, .ref 112), (1, .int p2)], [])) rfl ?_
              refine e_if (fun c110 => ?_) (fun c110 => ?_)
              · replace hb := i_pos c110 hb
                refine e_k 3 (f' := (if x4 = 28 then 197 else 191, [(3, .int x4), (2, .int x2), (0, .ref 112), (1, .int p2)], [])) rfl ?_
                refine e_if (fun c111 => ?_) (fun c111 => ?_)
                · replace hb := i_pos c111 hb
                  refine e_k 1 (f' := (198, [(3, .int x4), (2, .int x2), (0, .ref 112), (1, .int p2)], [.ref 112])) rfl ?_
                  refine r_getr rfl (x_ltn rfl) rfl rfl ?_
                  refine e_k 1 (f' := (202, [(3, .int x4), (2, .int x2), (0, .ref 112), (1, .int p2)], [.int p2, .ref 141])) rfl ?_
                  obtain ⟨o112, hb⟩ := ob_in hb
                  refine r_iald rfl rfl (x_ltn rfl) rfl o112 ?_
                  refine e_k 3 (f' := (if ¬ x4 = 28 then 214 else 209, [(3, .int x4), (2, .int x2), (0, .ref 112), (1, .int p2)], [.int (I 141 (Int32.toNatClampNeg p2))])) rfl ?_
                  obtain ⟨v114, h114, hb⟩ := p_nn hb
                  have Kj114 : am_E (gG L xs) (d + 2) m_Model_lacking (215, [], [.int v114, .int (I 141 (Int32.toNatClampNeg p2))]) (hX X I J) P := by
                    refine e_k 1 (f' := (if ¬ (I 141 (Int32.toNatClampNeg p2)) = v114 then 223 else 218, [], [])) rfl ?_
                    refine e_if (fun c116 => ?_) (fun c116 => ?_)
                    · replace hb := i_pos c116 hb
                      refine e_k 1 (f' := (224, [], [.int 0])) rfl ?_
                      obtain ⟨rfl, rfl, rfl⟩ := s_inj hb
                      exact e_r rfl rfl K
                    · replace hb := i_neg c116 hb
                      refine e_k 2 (f' := (224, [], [.int 7])) rfl ?_
                      obtain ⟨rfl, rfl, rfl⟩ := s_inj hb
                      exact e_r rfl rfl K
                  clear hb
                  refine e_if (fun c115 => ?_) (fun c115 => ?_)
                  · replace h114 := i_pos c115 h114
                    refine e_k 1 (f' := (215, [(3, .int x4), (2, .int x2), (0, .ref 112), (1, .int p2)], [.int 0, .int (I 141 (Int32.toNatClampNeg p2))])) rfl ?_
                    refine e_sub (ls := []) rfl ⟨⟩ ?_
                    subst h114
                    exact Kj114
                  · replace h114 := i_neg c115 h114
                    refine e_k 2 (f' := (215, [(3, .int x4), (2, .int x2), (0, .ref 112), (1, .int p2)], [.int 16, .int (I 141 (Int32.toNatClampNeg p2))])) rfl ?_
                    refine e_sub (ls := []) rfl ⟨⟩ ?_
                    subst h114
                    exact Kj114
                · replace hb := i_neg c111 hb
                  refine e_k 3 (f' := (if ¬ x4 = 29 then 225 else 197, [(3, .int x4), (2, .int x2), (0, .ref 112), (1, .int p2)], [])) rfl ?_
                  refine e_if (fun c117 => ?_) (fun c117 => ?_)
                  · replace hb := i_pos c117 hb
                    refine e_k 3 (f' := (if ¬ x4 = 7 then 244 else 231, [(3, .int x4), (2, .int x2), (0, .ref 112), (1, .int p2)], [])) rfl ?_
                    refine e_if (fun c118 => ?_) (fun c118 => ?_)
                    · replace hb := i_pos c118 hb
                      refine e_k 2 (f' := (246, [(3, .int x4), (2, .int x2), (0, .ref 112), (1, .int p2)], [.int x2, .ref 112])) rfl ?_
                      obtain ⟨v119, I119, J119, h119, hb⟩ := oc_call hb
                      refine r_cv (z := m_Model_isJoint) (As := [.int x2]) (rest := []) rfl rfl rfl rfl rfl (x_ltn rfl) rfl rfl (E_Model_isJoint  h119 ⟨_, rfl, ?_⟩)
                      refine e_k 1 (f' := (if v119 = 0 then 272 else 252, [(3, .int x4), (2, .int x2), (0, .ref 112), (1, .int p2)], [])) rfl ?_
                      refine e_if (fun c120 => ?_) (fun c120 => ?_)
                      · replace hb := i_pos c120 hb
                        refine e_k 1 (f' := (273, [(3, .int x4), (2, .int x2), (0, .ref 112), (1, .int p2)], [.int 0])) rfl ?_
                        obtain ⟨rfl, rfl, rfl⟩ := s_inj hb
                        exact e_r rfl rfl K
                      · replace hb := i_neg c120 hb
                        refine e_k 1 (f' := (253, [(3, .int x4), (2, .int x2), (0, .ref 112), (1, .int p2)], [.ref 112])) rfl ?_
                        refine r_getr rfl (x_ltn rfl) rfl rfl ?_
                        refine e_k 1 (f' := (257, [(3, .int x4), (2, .int x2), (0, .ref 112), (1, .int p2)], [.int p2, .ref 121])) rfl ?_
                        obtain ⟨o121, hb⟩ := ob_in hb
                        refine r_iald rfl rfl (x_ltn rfl) rfl o121 ?_
                        refine e_k 3 (f' := (262, [(3, .int x4), (2, .int x2), (0, .ref 112), (1, .int p2)], [.ref 112, .int ((I119 121 (Int32.toNatClampNeg p2)) + 16)])) rfl ?_
                        refine r_geti rfl (x_ltn rfl) rfl rfl ?_
                        refine e_k 1 (f' := (if ((I119 121 (Int32.toNatClampNeg p2)) + 16) ≤ (I119 112 24) then 272 else 268, [(3, .int x4), (2, .int x2), (0, .ref 112), (1, .int p2)], [])) rfl ?_
                        refine e_if (fun c122 => ?_) (fun c122 => ?_)
                        · replace hb := i_pos c122 hb
                          refine e_k 1 (f' := (273, [(3, .int x4), (2, .int x2), (0, .ref 112), (1, .int p2)], [.int 0])) rfl ?_
                          obtain ⟨rfl, rfl, rfl⟩ := s_inj hb
                          exact e_r rfl rfl K
                        · replace hb := i_neg c122 hb
                          refine e_k 2 (f' := (273, [(3, .int x4), (2, .int x2), (0, .ref 112), (1, .int p2)], [.int 3])) rfl ?_
                          obtain ⟨rfl, rfl, rfl⟩ := s_inj hb
                          exact e_r rfl rfl K
                    · replace hb := i_neg c118 hb
                      refine e_k 1 (f' := (232, [(3, .int x4), (2, .int x2), (0, .ref 112), (1, .int p2)], [.ref 112])) rfl ?_
                      refine r_getr rfl (x_ltn rfl) rfl rfl ?_
                      refine e_k 1 (f' := (236, [(3, .int x4), (2, .int x2), (0, .ref 112), (1, .int p2)], [.int p2, .ref 121])) rfl ?_
                      obtain ⟨o123, hb⟩ := ob_in hb
                      refine r_iald rfl rfl (x_ltn rfl) rfl o123 ?_
                      refine e_k 1 (f' := (238, [(3, .int x4), (2, .int x2), (0, .ref 112), (1, .int p2)], [.ref 112, .int (I 121 (Int32.toNatClampNeg p2))])) rfl ?_
                      refine r_geti rfl (x_ltn rfl) rfl rfl ?_
                      refine e_k 1 (f' := (if (I 121 (Int32.toNatClampNeg p2)) = (I 112 24) then 268 else 244, [(3, .int x4), (2, .int x2), (0, .ref 112), (1, .int p2)], [])) rfl ?_
                      refine e_if (fun c124 => ?_) (fun c124 => ?_)
                      · replace hb := i_pos c124 hb
                        refine e_k 2 (f' := (273, [(3, .int x4), (2, .int x2), (0, .ref 112), (1, .int p2)], [.int 3])) rfl ?_
                        obtain ⟨rfl, rfl, rfl⟩ := s_inj hb
                        exact e_r rfl rfl K
                      · replace hb := i_neg c124 hb
                        refine e_k 2 (f' := (246, [(3, .int x4), (2, .int x2), (0, .ref 112), (1, .int p2)], [.int x2, .ref 112])) rfl ?_
                        obtain ⟨v125, I125, J125, h125, hb⟩ := oc_call hb
                        refine r_cv (z := m_Model_isJoint) (As := [.int x2]) (rest := []) rfl rfl rfl rfl rfl (x_ltn rfl) rfl rfl (E_Model_isJoint  h125 ⟨_, rfl, ?_⟩)
                        refine e_k 1 (f' := (if v125 = 0 then 272 else 252, [(3, .int x4), (2, .int x2), (0, .ref 112), (1, .int p2)], [])) rfl ?_
                        refine e_if (fun c126 => ?_) (fun c126 => ?_)
                        · replace hb := i_pos c126 hb
                          refine e_k 1 (f' := (273, [(3, .int x4), (2, .int x2), (0, .ref 112), (1, .int p2)], [.int 0])) rfl ?_
                          obtain ⟨rfl, rfl, rfl⟩ := s_inj hb
                          exact e_r rfl rfl K
                        · replace hb := i_neg c126 hb
                          refine e_k 1 (f' := (253, [(3, .int x4), (2, .int x2), (0, .ref 112), (1, .int p2)], [.ref 112])) rfl ?_
                          refine r_getr rfl (x_ltn rfl) rfl rfl ?_
                          refine e_k 1 (f' := (257, [(3, .int x4), (2, .int x2), (0, .ref 112), (1, .int p2)], [.int p2, .ref 121])) rfl ?_
                          obtain ⟨o127, hb⟩ := ob_in hb
                          refine r_iald rfl rfl (x_ltn rfl) rfl o127 ?_
                          refine e_k 3 (f' := (262, [(3, .int x4), (2, .int x2), (0, .ref 112), (1, .int p2)], [.ref 112, .int ((I125 121 (Int32.toNatClampNeg p2)) + 16)])) rfl ?_
                          refine r_geti rfl (x_ltn rfl) rfl rfl ?_
                          refine e_k 1 (f' := (if ((I125 121 (Int32.toNatClampNeg p2)) + 16) ≤ (I125 112 24) then 272 else 268, [(3, .int x4), (2, .int x2), (0, .ref 112), (1, .int p2)], [])) rfl ?_
                          refine e_if (fun c128 => ?_) (fun c128 => ?_)
                          · replace hb := i_pos c128 hb
                            refine e_k 1 (f' := (273, [(3, .int x4), (2, .int x2), (0, .ref 112), (1, .int p2)], [.int 0])) rfl ?_
                            obtain ⟨rfl, rfl, rfl⟩ := s_inj hb
                            exact e_r rfl rfl K
                          · replace hb := i_neg c128 hb
                            refine e_k 2 (f' := (273, [(3, .int x4), (2, .int x2), (0, .ref 112), (1, .int p2)], [.int 3])) rfl ?_
                            obtain ⟨rfl, rfl, rfl⟩ := s_inj hb
                            exact e_r rfl rfl K
                  · replace hb := i_neg c117 hb
                    refine e_k 1 (f' := (198, [(3, .int x4), (2, .int x2), (0, .ref 112), (1, .int p2)], [.ref 112])) rfl ?_
                    refine r_getr rfl (x_ltn rfl) rfl rfl ?_
                    refine e_k 1 (f' := (202, [(3, .int x4), (2, .int x2), (0, .ref 112), (1, .int p2)], [.int p2, .ref 141])) rfl ?_
                    obtain ⟨o129, hb⟩ := ob_in hb
                    refine r_iald rfl rfl (x_ltn rfl) rfl o129 ?_
                    refine e_k 3 (f' := (if ¬ x4 = 28 then 214 else 209, [(3, .int x4), (2, .int x2), (0, .ref 112), (1, .int p2)], [.int (I 141 (Int32.toNatClampNeg p2))])) rfl ?_
                    obtain ⟨v131, h131, hb⟩ := p_nn hb
                    have Kj131 : am_E (gG L xs) (d + 2) m_Model_lacking (215, [], [.int v131, .int (I 141 (Int32.toNatClampNeg p2))]) (hX X I J) P := by
                      refine e_k 1 (f' := (if ¬ (I 141 (Int32.toNatClampNeg p2)) = v131 then 223 else 218, [], [])) rfl ?_
                      refine e_if (fun c133 => ?_) (fun c133 => ?_)
                      · replace hb := i_pos c133 hb
                        refine e_k 1 (f' := (224, [], [.int 0])) rfl ?_
                        obtain ⟨rfl, rfl, rfl⟩ := s_inj hb
                        exact e_r rfl rfl K
                      · replace hb := i_neg c133 hb
                        refine e_k 2 (f' := (224, [], [.int 7])) rfl ?_
                        obtain ⟨rfl, rfl, rfl⟩ := s_inj hb
                        exact e_r rfl rfl K
                    clear hb
                    refine e_if (fun c132 => ?_) (fun c132 => ?_)
                    · replace h131 := i_pos c132 h131
                      refine e_k 1 (f' := (215, [(3, .int x4), (2, .int x2), (0, .ref 112), (1, .int p2)], [.int 0, .int (I 141 (Int32.toNatClampNeg p2))])) rfl ?_
                      refine e_sub (ls := []) rfl ⟨⟩ ?_
                      subst h131
                      exact Kj131
                    · replace h131 := i_neg c132 h131
                      refine e_k 2 (f' := (215, [(3, .int x4), (2, .int x2), (0, .ref 112), (1, .int p2)], [.int 16, .int (I 141 (Int32.toNatClampNeg p2))])) rfl ?_
                      refine e_sub (ls := []) rfl ⟨⟩ ?_
                      subst h131
                      exact Kj131
              · replace hb := i_neg c110 hb
                refine e_k 1 (f' := (166, [(3, .int x4), (2, .int x2), (0, .ref 112), (1, .int p2)], [.ref 112])) rfl ?_
                refine r_getr rfl (x_ltn rfl) rfl rfl ?_
                refine e_k 1 (f' := (170, [(3, .int x4), (2, .int x2), (0, .ref 112), (1, .int p2)], [.int p2, .ref 123])) rfl ?_
                obtain ⟨o134, hb⟩ := ob_in hb
                refine r_iald rfl rfl (x_ltn rfl) rfl o134 ?_
                refine e_k 1 (f' := (172, [(3, .int x4), (2, .int x2), (0, .ref 112), (1, .int p2)], [.ref 112, .int (I 123 (Int32.toNatClampNeg p2))])) rfl ?_
                refine r_geti rfl (x_ltn rfl) rfl rfl ?_
                refine e_k 1 (f' := (if ¬ (I 123 (Int32.toNatClampNeg p2)) = (I 112 28) then 183 else 178, [(3, .int x4), (2, .int x2), (0, .ref 112), (1, .int p2)], [])) rfl ?_
                refine e_if (fun c135 => ?_) (fun c135 => ?_)
                · replace hb := i_pos c135 hb
                  refine e_k 1 (f' := (184, [(3, .int x4), (2, .int x2), (0, .ref 112), (1, .int p2)], [.int 0])) rfl ?_
                  obtain ⟨rfl, rfl, rfl⟩ := s_inj hb
                  exact e_r rfl rfl K
                · replace hb := i_neg c135 hb
                  refine e_k 2 (f' := (184, [(3, .int x4), (2, .int x2), (0, .ref 112), (1, .int p2)], [.int 6])) rfl ?_
                  obtain ⟨rfl, rfl, rfl⟩ := s_inj hb
                  exact e_r rfl rfl K
            · replace hb := i_neg c109 hb
              refine e_k 1 (f' := (141, [(3, .int x4), (2, .int x2), (0, .ref 112), (1, .int p2)], [.ref 112])) rfl ?_
              refine r_getr rfl (x_ltn rfl) rfl rfl ?_
              refine e_k 1 (f' := (145, [(3, .int x4), (2, .int x2), (0, .ref 112), (1, .int p2)], [.int p2, .ref 122])) rfl ?_
              obtain ⟨o136, hb⟩ := ob_in hb
              refine r_iald rfl rfl (x_ltn rfl) rfl o136 ?_
              refine e_k 1 (f' := (147, [(3, .int x4), (2, .int x2), (0, .ref 112), (1, .int p2)], [.ref 112, .int (I 122 (Int32.toNatClampNeg p2))])) rfl ?_
              refine r_geti rfl (x_ltn rfl) rfl rfl ?_
              refine e_k 1 (f' := (if ¬ (I 122 (Int32.toNatClampNeg p2)) = (I 112 26) then 157 else 153, [(3, .int x4), (2, .int x2), (0, .ref 112), (1, .int p2)], [])) rfl ?_
              refine e_if (fun c137 => ?_) (fun c137 => ?_)
              · replace hb := i_pos c137 hb
                refine e_k 1 (f' := (158, [(3, .int x4), (2, .int x2), (0, .ref 112), (1, .int p2)], [.int 0])) rfl ?_
                obtain ⟨rfl, rfl, rfl⟩ := s_inj hb
                exact e_r rfl rfl K
              · replace hb := i_neg c137 hb
                refine e_k 2 (f' := (158, [(3, .int x4), (2, .int x2), (0, .ref 112), (1, .int p2)], [.int 4])) rfl ?_
                obtain ⟨rfl, rfl, rfl⟩ := s_inj hb
                exact e_r rfl rfl K
          · replace hb := i_neg c108 hb
            refine e_k 1 (f' := (101, [(3, .int x4), (2, .int x2), (0, .ref 112), (1, .int p2)], [.ref 112])) rfl ?_
            refine r_getr rfl (x_ltn rfl) rfl rfl ?_
            refine e_k 1 (f' := (105, [(3, .int x4), (2, .int x2), (0, .ref 112), (1, .int p2)], [.int p2, .ref 126])) rfl ?_
            obtain ⟨o138, hb⟩ := ob_in hb
            refine r_iald rfl rfl (x_ltn rfl) rfl o138 ?_
            refine e_k 1 (f' := (107, [(3, .int x4), (2, .int x2), (0, .ref 112), (1, .int p2)], [.ref 112, .int (I 126 (Int32.toNatClampNeg p2))])) rfl ?_
            refine r_getr rfl (x_ltn rfl) rfl rfl ?_
            refine e_k 1 (f' := (111, [(3, .int x4), (2, .int x2), (0, .ref 112), (1, .int p2)], [.int p2, .ref 125, .int (I 126 (Int32.toNatClampNeg p2))])) rfl ?_
            obtain ⟨o139, hb⟩ := ob_in hb
            refine r_iald rfl rfl (x_ltn rfl) rfl o139 ?_
            refine e_k 1 (f' := (if ¬ (I 126 (Int32.toNatClampNeg p2)) = (I 125 (Int32.toNatClampNeg p2)) then 119 else 115, [(3, .int x4), (2, .int x2), (0, .ref 112), (1, .int p2)], [])) rfl ?_
            refine e_if (fun c140 => ?_) (fun c140 => ?_)
            · replace hb := i_pos c140 hb
              refine e_k 1 (f' := (120, [(3, .int x4), (2, .int x2), (0, .ref 112), (1, .int p2)], [.ref 112])) rfl ?_
              refine r_getr rfl (x_ltn rfl) rfl rfl ?_
              refine e_k 1 (f' := (124, [(3, .int x4), (2, .int x2), (0, .ref 112), (1, .int p2)], [.int p2, .ref 119])) rfl ?_
              obtain ⟨o141, hb⟩ := ob_in hb
              refine r_iald rfl rfl (x_ltn rfl) rfl o141 ?_
              refine e_k 1 (f' := (if ¬ (I 119 (Int32.toNatClampNeg p2)) = 0 then 132 else 128, [(3, .int x4), (2, .int x2), (0, .ref 112), (1, .int p2)], [])) rfl ?_
              refine e_if (fun c142 => ?_) (fun c142 => ?_)
              · replace hb := i_pos c142 hb
                refine e_k 1 (f' := (133, [(3, .int x4), (2, .int x2), (0, .ref 112), (1, .int p2)], [.int 0])) rfl ?_
                obtain ⟨rfl, rfl, rfl⟩ := s_inj hb
                exact e_r rfl rfl K
              · replace hb := i_neg c142 hb
                refine e_k 2 (f' := (133, [(3, .int x4), (2, .int x2), (0, .ref 112), (1, .int p2)], [.int 2])) rfl ?_
                obtain ⟨rfl, rfl, rfl⟩ := s_inj hb
                exact e_r rfl rfl K
            · replace hb := i_neg c140 hb
              refine e_k 2 (f' := (133, [(3, .int x4), (2, .int x2), (0, .ref 112), (1, .int p2)], [.int 1])) rfl ?_
              obtain ⟨rfl, rfl, rfl⟩ := s_inj hb
              exact e_r rfl rfl K
      · replace hb := i_neg c76 hb
        refine e_k 1 (f' := (81, [(3, .int x4), (2, .int x2), (0, .ref 112), (1, .int p2)], [.int 0])) rfl ?_
        obtain ⟨rfl, rfl, rfl⟩ := s_inj hb
        exact e_r rfl rfl K
    · replace hb := i_neg c74 hb
      refine e_k 1 (f' := (27, [(3, .int x4), (2, .int x2), (0, .ref 112), (1, .int p2)], [.ref 112])) rfl ?_
      refine r_getr rfl (x_ltn rfl) rfl rfl ?_
      refine e_k 4 (f' := (35, [(3, .int x4), (2, .int x2), (0, .ref 112), (1, .int p2)], [.ref 112, .int (65 * p2), .ref 144])) rfl ?_
      refine r_getr rfl (x_ltn rfl) rfl rfl ?_
      refine e_k 1 (f' := (39, [(3, .int x4), (2, .int x2), (0, .ref 112), (1, .int p2)], [.int p2, .ref 145, .int (65 * p2), .ref 144])) rfl ?_
      obtain ⟨o143, hb⟩ := ob_in hb
      refine r_iald rfl rfl (x_ltn rfl) rfl o143 ?_
      refine e_k 4 (f' := (if 21 ≤ x4 then 51 else 47, [(3, .int x4), (2, .int x2), (0, .ref 112), (1, .int p2)], [.int ((65 * p2) + (I 145 (Int32.toNatClampNeg p2))), .ref 144])) rfl ?_
      obtain ⟨v145, h145, hb⟩ := p_nn hb
      have Kj145 : am_E (gG L xs) (d + 2) m_Model_lacking (52, [], [.int v145, .int ((65 * p2) + (I 145 (Int32.toNatClampNeg p2))), .ref 144]) (hX X I J) P := by
        refine e_k 1 (f' := (53, [], [.int (((65 * p2) + (I 145 (Int32.toNatClampNeg p2))) - v145), .ref 144])) rfl ?_
        obtain ⟨o147, hb⟩ := ob_in hb
        refine r_lald rfl rfl (x_ltn rfl) rfl o147 ?_
        refine e_k 1 (f' := (56, [(4, .long (J 144 (Int32.toNatClampNeg (((65 * p2) + (I 145 (Int32.toNatClampNeg p2))) - v145))))], [])) rfl ?_
        obtain ⟨x148, ex148, hb⟩ := p_nm hb
        rw [← ex148]
        refine e_k 4 (f' := (if (lg_cmp x148 15) ≤ 0 then 69 else 65, [(4, .long x148)], [])) rfl ?_
        refine e_if (fun c149 => ?_) (fun c149 => ?_)
        · replace hb := i_pos c149 hb
          refine e_k 1 (f' := (70, [(4, .long x148)], [.int 0])) rfl ?_
          obtain ⟨rfl, rfl, rfl⟩ := s_inj hb
          exact e_r rfl rfl K
        · replace hb := i_neg c149 hb
          refine e_k 2 (f' := (70, [(4, .long x148)], [.int 5])) rfl ?_
          obtain ⟨rfl, rfl, rfl⟩ := s_inj hb
          exact e_r rfl rfl K
      clear hb
      refine e_if (fun c146 => ?_) (fun c146 => ?_)
      · replace h145 := i_pos c146 h145
        refine e_k 1 (f' := (52, [(3, .int x4), (2, .int x2), (0, .ref 112), (1, .int p2)], [.int 2, .int ((65 * p2) + (I 145 (Int32.toNatClampNeg p2))), .ref 144])) rfl ?_
        refine e_sub (ls := []) rfl ⟨⟩ ?_
        subst h145
        exact Kj145
      · replace h145 := i_neg c146 h145
        refine e_k 2 (f' := (52, [(3, .int x4), (2, .int x2), (0, .ref 112), (1, .int p2)], [.int 1, .int ((65 * p2) + (I 145 (Int32.toNatClampNeg p2))), .ref 144])) rfl ?_
        refine e_sub (ls := []) rfl ⟨⟩ ?_
        subst h145
        exact Kj145
end AUTO
