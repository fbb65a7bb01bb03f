section AUTO
variable {L : Nat} {xs : Nat → Int32} {d : Nat} {P : am_R → am_H → Prop}
theorem E_Model_fault {p2 : Int32} {X : MX} {I : MI} {J : MJ} {v : Int32} {I' : MI} {J' : MJ} (hb : f_Model_fault p2 I J = some (v, I', J')) (K : P (.inl (some (.int v))) (hX X I' J')) : am_E (gG L xs) d m_Model_fault (0, lv_args 0 [.ref 112, .int p2], []) (hX X I J) P := by
  unfold f_Model_fault at hb
  refine e_k 2 (f' := (2, [(0, .ref 112), (1, .int p2)], [.int 0, .ref 112])) rfl ?_
  obtain ⟨I1, eI1, hb⟩ := p_nm hb
  refine r_puti' rfl (x_ltn rfl) rfl rfl eI1 ?_
  refine e_k 2 (f' := (if ¬ p2 = 0 then 16 else 9, [(0, .ref 112), (1, .int p2)], [])) rfl ?_
  refine e_if (fun c2 => ?_) (fun c2 => ?_)
  · replace hb := i_pos c2 hb
    refine e_k 3 (f' := (if ¬ p2 = 1 then 28 else 21, [(0, .ref 112), (1, .int p2)], [])) rfl ?_
    refine e_if (fun c3 => ?_) (fun c3 => ?_)
    · replace hb := i_pos c3 hb
      refine e_k 1 (f' := (29, [(0, .ref 112), (1, .int p2)], [.int (-1)])) rfl ?_
      obtain ⟨rfl, rfl, rfl⟩ := s_inj hb
      exact e_r rfl rfl K
    · replace hb := i_neg c3 hb
      refine e_k 1 (f' := (22, [(0, .ref 112), (1, .int p2)], [.ref 112])) rfl ?_
      refine r_geti rfl (x_ltn rfl) rfl rfl ?_
      refine e_k 1 (f' := (29, [(0, .ref 112), (1, .int p2)], [.int (I1 112 4)])) rfl ?_
      obtain ⟨rfl, rfl, rfl⟩ := s_inj hb
      exact e_r rfl rfl K
  · replace hb := i_neg c2 hb
    refine e_k 1 (f' := (10, [(0, .ref 112), (1, .int p2)], [.ref 112])) rfl ?_
    refine r_geti rfl (x_ltn rfl) rfl rfl ?_
    refine e_k 1 (f' := (29, [(0, .ref 112), (1, .int p2)], [.int (I1 112 3)])) rfl ?_
    obtain ⟨rfl, rfl, rfl⟩ := s_inj hb
    exact e_r rfl rfl K
theorem E_Model_code {p2 : Int32} {X : MX} {I : MI} {J : MJ} {v : Int32} {I' : MI} {J' : MJ} (hb : f_Model_code p2 I J = some (v, I', J')) (K : P (.inl (some (.int v))) (hX X I' J')) : am_E (gG L xs) d m_Model_code (0, lv_args 0 [.ref 112, .int p2], []) (hX X I J) P := by
  unfold f_Model_code at hb
  refine e_k 2 (f' := (2, [(0, .ref 112), (1, .int p2)], [.int 0, .ref 112])) rfl ?_
  obtain ⟨I1, eI1, hb⟩ := p_nm hb
  refine r_puti' rfl (x_ltn rfl) rfl rfl eI1 ?_
  refine e_k 1 (f' := (6, [(0, .ref 112), (1, .int p2)], [.ref 112])) rfl ?_
  refine r_geti rfl (x_ltn rfl) rfl rfl ?_
  refine e_k 1 (f' := (if (I1 112 8) = 0 then 24 else 12, [(0, .ref 112), (1, .int p2)], [])) rfl ?_
  refine e_if (fun c2 => ?_) (fun c2 => ?_)
  · replace hb := i_pos c2 hb
    refine e_k 2 (f' := (34, [(0, .ref 112), (1, .int p2)], [.int (-1)])) rfl ?_
    obtain ⟨rfl, rfl, rfl⟩ := s_inj hb
    exact e_r rfl rfl K
  · replace hb := i_neg c2 hb
    refine e_k 2 (f' := (if p2 < 0 then 24 else 16, [(0, .ref 112), (1, .int p2)], [])) rfl ?_
    refine e_if (fun c3 => ?_) (fun c3 => ?_)
    · replace hb := i_pos c3 hb
      refine e_k 2 (f' := (34, [(0, .ref 112), (1, .int p2)], [.int (-1)])) rfl ?_
      obtain ⟨rfl, rfl, rfl⟩ := s_inj hb
      exact e_r rfl rfl K
    · replace hb := i_neg c3 hb
      refine e_k 2 (f' := (18, [(0, .ref 112), (1, .int p2)], [.ref 112, .int p2])) rfl ?_
      refine r_geti rfl (x_ltn rfl) rfl rfl ?_
      refine e_k 1 (f' := (if p2 < (I1 112 7) then 28 else 24, [(0, .ref 112), (1, .int p2)], [])) rfl ?_
      refine e_if (fun c4 => ?_) (fun c4 => ?_)
      · replace hb := i_pos c4 hb
        refine e_k 1 (f' := (29, [(0, .ref 112), (1, .int p2)], [.ref 112])) rfl ?_
        refine r_getr rfl (x_ltn rfl) rfl rfl ?_
        refine e_k 1 (f' := (33, [(0, .ref 112), (1, .int p2)], [.int p2, .ref 114])) rfl ?_
        obtain ⟨o5, hb⟩ := ob_in hb
        refine r_iald rfl rfl (x_ltn rfl) rfl o5 ?_
        obtain ⟨rfl, rfl, rfl⟩ := s_inj hb
        exact e_r rfl rfl K
      · replace hb := i_neg c4 hb
        refine e_k 2 (f' := (34, [(0, .ref 112), (1, .int p2)], [.int (-1)])) rfl ?_
        obtain ⟨rfl, rfl, rfl⟩ := s_inj hb
        exact e_r rfl rfl K
theorem E_Model_newHall_28 {X : MX} {p2 : Int32} {p3 : Int64} {p4 : Int32} : ∀ (fu : Nat) {l1 : Int32} {l2 : Int64} {l5 : Int32} {I : MI} {J : MJ} {r : (Unit)} {I' : MI} {J' : MJ}, f_Model_newHall_28 p2 p3 p4 fu l1 l2 l5 I J = some (r, I', J') → am_E (gG L xs) (d + 3) m_Model_newHall (84, [(0, .ref 112)], []) (hX X I' J') P → am_E (gG L xs) (d + 3) m_Model_newHall (28, [(0, .ref 112), (1, .int l1), (2, .long l2), (5, .int l5)], []) (hX X I J) P := by
  intro fu
  induction fu with
  | zero =>
    intros
    rename_i hb _
    cases hb
  | succ fu ih =>
    intro l1 l2 l5 I J r I' J' hb K
    unfold f_Model_newHall_28 at hb
    refine e_k 3 (f' := (if l1 ≤ l5 then 84 else 34, [(0, .ref 112), (1, .int l1), (2, .long l2), (5, .int l5)], [])) rfl ?_
    refine e_if (fun c5 => ?_) (fun c5 => ?_)
    · replace hb := i_pos c5 hb
      refine e_sub (ls := [(0, .ref 112)]) rfl ⟨rfl, trivial⟩ ?_
      obtain ⟨rfl, rfl, rfl⟩ := s_inj hb
      exact K
    · replace hb := i_neg c5 hb
      refine e_k 2 (f' := (36, [(0, .ref 112), (1, .int l1), (2, .long l2), (5, .int l5)], [.ref 112, .ref 112])) rfl ?_
      refine r_getl rfl (x_ltn rfl) rfl rfl ?_
      refine e_k 3 (f' := (43, [(0, .ref 112), (1, .int l1), (2, .long l2), (5, .int l5)], [.int l5, .long l2, .ref 112, .long (J 112 18), .ref 112])) rfl ?_
      obtain ⟨v6, I6, J6, h6, hb⟩ := oc_call hb
      refine r_cv (z := m_Model_drawn) (As := [.long l2, .int l5]) (rest := [.long (J 112 18), .ref 112]) rfl rfl rfl rfl rfl (x_ltn rfl) rfl rfl (E_Model_drawn  h6 ⟨_, rfl, ?_⟩)
      obtain ⟨v7, I7, J7, h7, hb⟩ := oc_call hb
      refine r_cs (z := m_Model_plus) (As := [.long (J 112 18), .long v6]) (rest := [.ref 112]) rfl rfl rfl rfl rfl rfl (E_Model_plus  h7 ⟨_, rfl, ?_⟩)
      obtain ⟨J8, eJ8, hb⟩ := p_nm hb
      refine r_putl' rfl (x_ltn rfl) rfl rfl eJ8 ?_
      refine e_k 1 (f' := (53, [(0, .ref 112), (1, .int l1), (2, .long l2), (5, .int l5)], [.ref 112])) rfl ?_
      refine r_getr rfl (x_ltn rfl) rfl rfl ?_
      refine e_k 9 (f' := (69, [(0, .ref 112), (1, .int l1), (2, .long l2), (5, .int l5)], [.long (l2 + (1000003 * (Int32.toInt64 (l5 + 1)))), .int l5, .ref 117])) rfl ?_
      obtain ⟨o9, hb⟩ := ob_in hb
      obtain ⟨J10, eJ10, hb⟩ := p_nm hb
      refine r_last' rfl (x_ltn rfl) rfl o9 eJ10 ?_
      refine e_k 1 (f' := (71, [(0, .ref 112), (1, .int l1), (2, .long l2), (5, .int l5)], [.ref 112])) rfl ?_
      refine r_getr rfl (x_ltn rfl) rfl rfl ?_
      refine e_k 2 (f' := (77, [(0, .ref 112), (1, .int l1), (2, .long l2), (5, .int l5)], [.int 0, .int l5, .ref 118])) rfl ?_
      obtain ⟨o11, hb⟩ := ob_in hb
      obtain ⟨I12, eI12, hb⟩ := p_nm hb
      refine r_iast' rfl (x_ltn rfl) rfl o11 eI12 ?_
      refine e_k 2 (f' := (28, [(5, .int (l5 + 1)), (0, .ref 112), (1, .int l1), (2, .long l2)], [])) rfl ?_
      refine e_sub (ls := [(0, .ref 112), (1, .int l1), (2, .long l2), (5, .int (l5 + 1))]) rfl ⟨rfl, rfl, rfl, rfl, trivial⟩ ?_
      exact ih  hb K
theorem E_Model_newHall_87 {X : MX} {p2 : Int32} {p3 : Int64} {p4 : Int32} : ∀ (fu : Nat) {l5 : Int32} {I : MI} {J : MJ} {r : (Unit)} {I' : MI} {J' : MJ}, f_Model_newHall_87 p2 p3 p4 fu l5 I J = some (r, I', J') → am_E (gG L xs) d m_Model_newHall (155, [(0, .ref 112)], []) (hX X I' J') P → am_E (gG L xs) d m_Model_newHall (87, [(0, .ref 112), (5, .int l5)], []) (hX X I J) P := by
  intro fu
  induction fu with
  | zero =>
    intros
    rename_i hb _
    cases hb
  | succ fu ih =>
    intro l5 I J r I' J' hb K
    unfold f_Model_newHall_87 at hb
    refine e_k 3 (f' := (if 4 ≤ l5 then 155 else 93, [(0, .ref 112), (5, .int l5)], [])) rfl ?_
    refine e_if (fun c14 => ?_) (fun c14 => ?_)
    · replace hb := i_pos c14 hb
      refine e_sub (ls := [(0, .ref 112)]) rfl ⟨rfl, trivial⟩ ?_
      obtain ⟨rfl, rfl, rfl⟩ := s_inj hb
      exact K
    · replace hb := i_neg c14 hb
      refine e_k 1 (f' := (94, [(0, .ref 112), (5, .int l5)], [.ref 112])) rfl ?_
      refine r_getr rfl (x_ltn rfl) rfl rfl ?_
      refine e_k 2 (f' := (100, [(0, .ref 112), (5, .int l5)], [.int 0, .int l5, .ref 119])) rfl ?_
      obtain ⟨o15, hb⟩ := ob_in hb
      obtain ⟨I16, eI16, hb⟩ := p_nm hb
      refine r_iast' rfl (x_ltn rfl) rfl o15 eI16 ?_
      refine e_k 1 (f' := (102, [(0, .ref 112), (5, .int l5)], [.ref 112])) rfl ?_
      refine r_getr rfl (x_ltn rfl) rfl rfl ?_
      refine e_k 2 (f' := (108, [(0, .ref 112), (5, .int l5)], [.int 0, .int l5, .ref 120])) rfl ?_
      obtain ⟨o17, hb⟩ := ob_in hb
      obtain ⟨I18, eI18, hb⟩ := p_nm hb
      refine r_iast' rfl (x_ltn rfl) rfl o17 eI18 ?_
      refine e_k 1 (f' := (110, [(0, .ref 112), (5, .int l5)], [.ref 112])) rfl ?_
      refine r_getr rfl (x_ltn rfl) rfl rfl ?_
      refine e_k 2 (f' := (116, [(0, .ref 112), (5, .int l5)], [.int 0, .int l5, .ref 121])) rfl ?_
      obtain ⟨o19, hb⟩ := ob_in hb
      obtain ⟨I20, eI20, hb⟩ := p_nm hb
      refine r_iast' rfl (x_ltn rfl) rfl o19 eI20 ?_
      refine e_k 1 (f' := (118, [(0, .ref 112), (5, .int l5)], [.ref 112])) rfl ?_
      refine r_getr rfl (x_ltn rfl) rfl rfl ?_
      refine e_k 2 (f' := (124, [(0, .ref 112), (5, .int l5)], [.int 0, .int l5, .ref 122])) rfl ?_
      obtain ⟨o21, hb⟩ := ob_in hb
      obtain ⟨I22, eI22, hb⟩ := p_nm hb
      refine r_iast' rfl (x_ltn rfl) rfl o21 eI22 ?_
      refine e_k 1 (f' := (126, [(0, .ref 112), (5, .int l5)], [.ref 112])) rfl ?_
      refine r_getr rfl (x_ltn rfl) rfl rfl ?_
      refine e_k 2 (f' := (132, [(0, .ref 112), (5, .int l5)], [.int 0, .int l5, .ref 123])) rfl ?_
      obtain ⟨o23, hb⟩ := ob_in hb
      obtain ⟨I24, eI24, hb⟩ := p_nm hb
      refine r_iast' rfl (x_ltn rfl) rfl o23 eI24 ?_
      refine e_k 1 (f' := (134, [(0, .ref 112), (5, .int l5)], [.ref 112])) rfl ?_
      refine r_getr rfl (x_ltn rfl) rfl rfl ?_
      refine e_k 2 (f' := (140, [(0, .ref 112), (5, .int l5)], [.int 0, .int l5, .ref 125])) rfl ?_
      obtain ⟨o25, hb⟩ := ob_in hb
      obtain ⟨I26, eI26, hb⟩ := p_nm hb
      refine r_iast' rfl (x_ltn rfl) rfl o25 eI26 ?_
      refine e_k 1 (f' := (142, [(0, .ref 112), (5, .int l5)], [.ref 112])) rfl ?_
      refine r_getr rfl (x_ltn rfl) rfl rfl ?_
      refine e_k 2 (f' := (148, [(0, .ref 112), (5, .int l5)], [.int 0, .int l5, .ref 126])) rfl ?_
      obtain ⟨o27, hb⟩ := ob_in hb
      obtain ⟨I28, eI28, hb⟩ := p_nm hb
      refine r_iast' rfl (x_ltn rfl) rfl o27 eI28 ?_
      refine e_k 2 (f' := (87, [(5, .int (l5 + 1)), (0, .ref 112)], [])) rfl ?_
      refine e_sub (ls := [(0, .ref 112), (5, .int (l5 + 1))]) rfl ⟨rfl, rfl, trivial⟩ ?_
      exact ih  hb K
theorem E_Model_newHall {p2 : Int32} {p3 : Int64} {p4 : Int32} {X : MX} {I : MI} {J : MJ} {v : Unit} {I' : MI} {J' : MJ} (hb : f_Model_newHall p2 p3 p4 I J = some (v, I', J')) (K : P (.inl (none)) (hX X I' J')) : am_E (gG L xs) (d + 3) m_Model_newHall (0, lv_args 0 [.ref 112, .int p2, .long p3, .int p4], []) (hX X I J) P := by
  unfold f_Model_newHall at hb
  refine e_k 2 (f' := (2, [(0, .ref 112), (1, .int p2), (2, .long p3), (4, .int p4)], [.int p2, .ref 112])) rfl ?_
  obtain ⟨I1, eI1, hb⟩ := p_nm hb
  refine r_puti' rfl (x_ltn rfl) rfl rfl eI1 ?_
  refine e_k 2 (f' := (8, [(0, .ref 112), (1, .int p2), (2, .long p3), (4, .int p4)], [.int p4, .ref 112])) rfl ?_
  obtain ⟨I2, eI2, hb⟩ := p_nm hb
  refine r_puti' rfl (x_ltn rfl) rfl rfl eI2 ?_
  refine e_k 4 (f' := (17, [(0, .ref 112), (1, .int p2), (2, .long p3), (4, .int p4)], [.long (p3 + 7000003), .ref 112])) rfl ?_
  obtain ⟨J3, eJ3, hb⟩ := p_nm hb
  refine r_putl' rfl (x_ltn rfl) rfl rfl eJ3 ?_
  refine e_k 2 (f' := (22, [(0, .ref 112), (1, .int p2), (2, .long p3), (4, .int p4)], [.long 0, .ref 112])) rfl ?_
  obtain ⟨J4, eJ4, hb⟩ := p_nm hb
  refine r_putl' rfl (x_ltn rfl) rfl rfl eJ4 ?_
  refine e_k 2 (f' := (28, [(5, .int 0), (0, .ref 112), (1, .int p2), (2, .long p3), (4, .int p4)], [])) rfl ?_
  refine e_sub (ls := [(0, .ref 112), (1, .int p2), (2, .long p3), (5, .int 0)]) rfl ⟨rfl, rfl, rfl, rfl, trivial⟩ ?_
  obtain ⟨u13, I13, J13, h13, hb⟩ := oc_call hb
  refine E_Model_newHall_28  gF  h13 ?_
  refine e_k 2 (f' := (87, [(5, .int 0), (0, .ref 112)], [])) rfl ?_
  refine e_sub (ls := [(0, .ref 112), (5, .int 0)]) rfl ⟨rfl, rfl, trivial⟩ ?_
  obtain ⟨u29, I29, J29, h29, hb⟩ := oc_call hb
  refine E_Model_newHall_87  gF  h29 ?_
  refine e_k 2 (f' := (157, [(0, .ref 112)], [.int 0, .ref 112])) rfl ?_
  obtain ⟨I30, eI30, hb⟩ := p_nm hb
  refine r_puti' rfl (x_ltn rfl) rfl rfl eI30 ?_
  refine e_k 2 (f' := (162, [(0, .ref 112)], [.int 0, .ref 112])) rfl ?_
  obtain ⟨I31, eI31, hb⟩ := p_nm hb
  refine r_puti' rfl (x_ltn rfl) rfl rfl eI31 ?_
  refine e_k 2 (f' := (167, [(0, .ref 112)], [.int 0, .ref 112])) rfl ?_
  obtain ⟨I32, eI32, hb⟩ := p_nm hb
  refine r_puti' rfl (x_ltn rfl) rfl rfl eI32 ?_
  refine e_k 2 (f' := (172, [(0, .ref 112)], [.int 0, .ref 112])) rfl ?_
  obtain ⟨I33, eI33, hb⟩ := p_nm hb
  refine r_putz' rfl (x_ltn rfl) rfl rfl (Or.inl rfl) eI33 ?_
  refine e_k 2 (f' := (177, [(0, .ref 112)], [.int 0, .ref 112])) rfl ?_
  obtain ⟨I34, eI34, hb⟩ := p_nm hb
  refine r_putz' rfl (x_ltn rfl) rfl rfl (Or.inl rfl) eI34 ?_
  obtain ⟨rfl, rfl, rfl⟩ := s_inj hb
  exact e_r rfl rfl K
theorem E_Model_hall {p2 : Int32} {p3 : Int64} {p4 : Int32} {X : MX} {I : MI} {J : MJ} {v : Int32} {I' : MI} {J' : MJ} (hb : f_Model_hall p2 p3 p4 I J = some (v, I', J')) (K : P (.inl (some (.int v))) (hX X I' J')) : am_E (gG L xs) (d + 4) m_Model_hall (0, lv_args 0 [.ref 112, .int p2, .long p3, .int p4], []) (hX X I J) P := by
  unfold f_Model_hall at hb
  refine e_k 2 (f' := (2, [(0, .ref 112), (1, .int p2), (2, .long p3), (4, .int p4)], [.int 0, .ref 112])) rfl ?_
  obtain ⟨I1, eI1, hb⟩ := p_nm hb
  refine r_puti' rfl (x_ltn rfl) rfl rfl eI1 ?_
  refine e_k 3 (f' := (if p2 < 2 then 37 else 10, [(0, .ref 112), (1, .int p2), (2, .long p3), (4, .int p4)], [])) rfl ?_
  refine e_if (fun c2 => ?_) (fun c2 => ?_)
  · replace hb := i_pos c2 hb
    refine e_k 1 (f' := (38, [(0, .ref 112), (1, .int p2), (2, .long p3), (4, .int p4)], [.int 0])) rfl ?_
    obtain ⟨rfl, rfl, rfl⟩ := s_inj hb
    exact e_r rfl rfl K
  · replace hb := i_neg c2 hb
    refine e_k 3 (f' := (if 4 < p2 then 37 else 15, [(0, .ref 112), (1, .int p2), (2, .long p3), (4, .int p4)], [])) rfl ?_
    refine e_if (fun c3 => ?_) (fun c3 => ?_)
    · replace hb := i_pos c3 hb
      refine e_k 1 (f' := (38, [(0, .ref 112), (1, .int p2), (2, .long p3), (4, .int p4)], [.int 0])) rfl ?_
      obtain ⟨rfl, rfl, rfl⟩ := s_inj hb
      exact e_r rfl rfl K
    · replace hb := i_neg c3 hb
      refine e_k 3 (f' := (if p4 < 1 then 37 else 21, [(0, .ref 112), (1, .int p2), (2, .long p3), (4, .int p4)], [])) rfl ?_
      refine e_if (fun c4 => ?_) (fun c4 => ?_)
      · replace hb := i_pos c4 hb
        refine e_k 1 (f' := (38, [(0, .ref 112), (1, .int p2), (2, .long p3), (4, .int p4)], [.int 0])) rfl ?_
        obtain ⟨rfl, rfl, rfl⟩ := s_inj hb
        exact e_r rfl rfl K
      · replace hb := i_neg c4 hb
        refine e_k 3 (f' := (if 4 < p4 then 37 else 27, [(0, .ref 112), (1, .int p2), (2, .long p3), (4, .int p4)], [])) rfl ?_
        refine e_if (fun c5 => ?_) (fun c5 => ?_)
        · replace hb := i_pos c5 hb
          refine e_k 1 (f' := (38, [(0, .ref 112), (1, .int p2), (2, .long p3), (4, .int p4)], [.int 0])) rfl ?_
          obtain ⟨rfl, rfl, rfl⟩ := s_inj hb
          exact e_r rfl rfl K
        · replace hb := i_neg c5 hb
          refine e_k 1 (f' := (28, [(0, .ref 112), (1, .int p2), (2, .long p3), (4, .int p4)], [.ref 112])) rfl ?_
          refine r_geti rfl (x_ltn rfl) rfl rfl ?_
          refine e_k 2 (f' := (if ¬ (I1 112 85) = 300 then 39 else 37, [(0, .ref 112), (1, .int p2), (2, .long p3), (4, .int p4)], [])) rfl ?_
          refine e_if (fun c6 => ?_) (fun c6 => ?_)
          · replace hb := i_pos c6 hb
            refine e_k 2 (f' := (41, [(0, .ref 112), (1, .int p2), (2, .long p3), (4, .int p4)], [.ref 112, .ref 112])) rfl ?_
            refine r_geti rfl (x_ltn rfl) rfl rfl ?_
            refine e_k 2 (f' := (46, [(0, .ref 112), (1, .int p2), (2, .long p3), (4, .int p4)], [.int ((I1 112 85) + 1), .ref 112])) rfl ?_
            obtain ⟨I7, eI7, hb⟩ := p_nm hb
            refine r_puti' rfl (x_ltn rfl) rfl rfl eI7 ?_
            refine e_k 4 (f' := (54, [(0, .ref 112), (1, .int p2), (2, .long p3), (4, .int p4)], [.int p4, .long p3, .int p2, .ref 112])) rfl ?_
            obtain ⟨v8, I8, J8, h8, hb⟩ := oc_call hb
            refine r_cv (z := m_Model_newHall) (As := [.int p2, .long p3, .int p4]) (rest := []) rfl rfl rfl rfl rfl (x_ltn rfl) rfl rfl (E_Model_newHall  h8 ⟨_, rfl, ?_⟩)
            refine e_k 1 (f' := (58, [(0, .ref 112), (1, .int p2), (2, .long p3), (4, .int p4)], [.int 1])) rfl ?_
            obtain ⟨rfl, rfl, rfl⟩ := s_inj hb
            exact e_r rfl rfl K
          · replace hb := i_neg c6 hb
            refine e_k 1 (f' := (38, [(0, .ref 112), (1, .int p2), (2, .long p3), (4, .int p4)], [.int 0])) rfl ?_
            obtain ⟨rfl, rfl, rfl⟩ := s_inj hb
            exact e_r rfl rfl K
theorem E_Model_isParty {p2 : Int32} {X : MX} {I : MI} {J : MJ} {v : Int32} {I' : MI} {J' : MJ} (hb : f_Model_isParty p2 I J = some (v, I', J')) (K : P (.inl (some (.int v))) (hX X I' J')) : am_E (gG L xs) d m_Model_isParty (0, lv_args 0 [.ref 112, .int p2], []) (hX X I J) P := by
  unfold f_Model_isParty at hb
  refine e_k 2 (f' := (if p2 < 0 then 16 else 4, [(0, .ref 112), (1, .int p2)], [])) rfl ?_
  refine e_if (fun c1 => ?_) (fun c1 => ?_)
  · replace hb := i_pos c1 hb
    refine e_k 1 (f' := (17, [(0, .ref 112), (1, .int p2)], [.int 0])) rfl ?_
    obtain ⟨rfl, rfl, rfl⟩ := s_inj hb
    exact e_r rfl rfl K
  · replace hb := i_neg c1 hb
    refine e_k 2 (f' := (6, [(0, .ref 112), (1, .int p2)], [.ref 112, .int p2])) rfl ?_
    refine r_geti rfl (x_ltn rfl) rfl rfl ?_
    refine e_k 1 (f' := (if (I 112 16) ≤ p2 then 16 else 12, [(0, .ref 112), (1, .int p2)], [])) rfl ?_
    refine e_if (fun c2 => ?_) (fun c2 => ?_)
    · replace hb := i_pos c2 hb
      refine e_k 1 (f' := (17, [(0, .ref 112), (1, .int p2)], [.int 0])) rfl ?_
      obtain ⟨rfl, rfl, rfl⟩ := s_inj hb
      exact e_r rfl rfl K
    · replace hb := i_neg c2 hb
      refine e_k 2 (f' := (17, [(0, .ref 112), (1, .int p2)], [.int 1])) rfl ?_
      obtain ⟨rfl, rfl, rfl⟩ := s_inj hb
      exact e_r rfl rfl K
theorem E_Model_dealt {p2 : Int32} {X : MX} {I : MI} {J : MJ} {v : Int32} {I' : MI} {J' : MJ} (hb : f_Model_dealt p2 I J = some (v, I', J')) (K : P (.inl (some (.int v))) (hX X I' J')) : am_E (gG L xs) d m_Model_dealt (0, lv_args 0 [.ref 112, .int p2], []) (hX X I J) P := by
  unfold f_Model_dealt at hb
  refine e_k 3 (f' := (if ¬ p2 = (-1) then 12 else 5, [(0, .ref 112), (1, .int p2)], [])) rfl ?_
  refine e_if (fun c1 => ?_) (fun c1 => ?_)
  · replace hb := i_pos c1 hb
    refine e_k 3 (f' := (if ¬ p2 = (-2) then 25 else 18, [(0, .ref 112), (1, .int p2)], [])) rfl ?_
    refine e_if (fun c2 => ?_) (fun c2 => ?_)
    · replace hb := i_pos c2 hb
      refine e_k 3 (f' := (if ¬ p2 = (-3) then 38 else 31, [(0, .ref 112), (1, .int p2)], [])) rfl ?_
      refine e_if (fun c3 => ?_) (fun c3 => ?_)
      · replace hb := i_pos c3 hb
        refine e_k 1 (f' := (39, [(0, .ref 112), (1, .int p2)], [.ref 112])) rfl ?_
        refine r_getr rfl (x_ltn rfl) rfl rfl ?_
        refine e_k 1 (f' := (43, [(0, .ref 112), (1, .int p2)], [.int p2, .ref 120])) rfl ?_
        obtain ⟨o4, hb⟩ := ob_in hb
        refine r_iald rfl rfl (x_ltn rfl) rfl o4 ?_
        obtain ⟨rfl, rfl, rfl⟩ := s_inj hb
        exact e_r rfl rfl K
      · replace hb := i_neg c3 hb
        refine e_k 1 (f' := (32, [(0, .ref 112), (1, .int p2)], [.ref 112])) rfl ?_
        refine r_geti rfl (x_ltn rfl) rfl rfl ?_
        refine e_k 1 (f' := (44, [(0, .ref 112), (1, .int p2)], [.int (I 112 28)])) rfl ?_
        obtain ⟨rfl, rfl, rfl⟩ := s_inj hb
        exact e_r rfl rfl K
    · replace hb := i_neg c2 hb
      refine e_k 1 (f' := (19, [(0, .ref 112), (1, .int p2)], [.ref 112])) rfl ?_
      refine r_geti rfl (x_ltn rfl) rfl rfl ?_
      refine e_k 1 (f' := (44, [(0, .ref 112), (1, .int p2)], [.int (I 112 26)])) rfl ?_
      obtain ⟨rfl, rfl, rfl⟩ := s_inj hb
      exact e_r rfl rfl K
  · replace hb := i_neg c1 hb
    refine e_k 1 (f' := (6, [(0, .ref 112), (1, .int p2)], [.ref 112])) rfl ?_
    refine r_geti rfl (x_ltn rfl) rfl rfl ?_
    refine e_k 1 (f' := (44, [(0, .ref 112), (1, .int p2)], [.int (I 112 24)])) rfl ?_
    obtain ⟨rfl, rfl, rfl⟩ := s_inj hb
    exact e_r rfl rfl K
theorem E_Model_least_6 {X : MX} {a2 : Nat} {m2 : Nat} (hA_a2 : isArr X 0 a2 m2) : ∀ (fu : Nat) {l2 : Int32} {l3 : Int32} {I : MI} {J : MJ} {r : (Int32)} {I' : MI} {J' : MJ}, f_Model_least_6 a2 m2 fu l2 l3 I J = some (r, I', J') → am_E (gG L xs) d m_Model_least (35, [(2, .int r)], []) (hX X I' J') P → am_E (gG L xs) d m_Model_least (6, [(0, .ref 112), (1, .ref a2), (2, .int l2), (3, .int l3)], []) (hX X I J) P := by
  intro fu
  induction fu with
  | zero =>
    intros
    rename_i hb _
    cases hb
  | succ fu ih =>
    intro l2 l3 I J r I' J' hb K
    unfold f_Model_least_6 at hb
    refine e_k 2 (f' := (8, [(0, .ref 112), (1, .ref a2), (2, .int l2), (3, .int l3)], [.ref 112, .int l3])) rfl ?_
    refine r_geti rfl (x_ltn rfl) rfl rfl ?_
    refine e_k 1 (f' := (if (I 112 16) ≤ l3 then 35 else 14, [(0, .ref 112), (1, .ref a2), (2, .int l2), (3, .int l3)], [])) rfl ?_
    refine e_if (fun c3 => ?_) (fun c3 => ?_)
    · replace hb := i_pos c3 hb
      refine e_sub (ls := [(2, .int l2)]) rfl ⟨rfl, trivial⟩ ?_
      obtain ⟨rfl, rfl, rfl⟩ := s_inj hb
      exact K
    · replace hb := i_neg c3 hb
      refine e_k 2 (f' := (16, [(0, .ref 112), (1, .ref a2), (2, .int l2), (3, .int l3)], [.int l3, .ref a2])) rfl ?_
      obtain ⟨o4, hb⟩ := ob_in hb
      refine r_iald rfl hA_a2.2.1 hA_a2.1 hA_a2.2.2 o4 ?_
      refine e_k 2 (f' := (if l2 ≤ (I a2 (Int32.toNatClampNeg l3)) then 27 else 21, [(0, .ref 112), (1, .ref a2), (2, .int l2), (3, .int l3)], [])) rfl ?_
      obtain ⟨v6, I6, J6, h6, hb⟩ := oc_call hb
      have Kj6 : am_E (gG L xs) d m_Model_least (28, [(0, .ref 112), (1, .ref a2), (3, .int l3)], [.int v6]) (hX X I6 J6) P := by
        refine e_k 3 (f' := (6, [(3, .int (l3 + 1)), (2, .int v6), (0, .ref 112), (1, .ref a2)], [])) rfl ?_
        refine e_sub (ls := [(0, .ref 112), (1, .ref a2), (2, .int v6), (3, .int (l3 + 1))]) rfl ⟨rfl, rfl, rfl, rfl, trivial⟩ ?_
        exact ih  hb K
      clear hb
      refine e_if (fun c7 => ?_) (fun c7 => ?_)
      · replace h6 := i_pos c7 h6
        refine e_k 1 (f' := (28, [(0, .ref 112), (1, .ref a2), (2, .int l2), (3, .int l3)], [.int l2])) rfl ?_
        refine e_sub (ls := [(0, .ref 112), (1, .ref a2), (3, .int l3)]) rfl ⟨rfl, rfl, rfl, trivial⟩ ?_
        obtain ⟨rfl, rfl, rfl⟩ := s_inj h6
        exact Kj6
      · replace h6 := i_neg c7 h6
        refine e_k 2 (f' := (23, [(0, .ref 112), (1, .ref a2), (2, .int l2), (3, .int l3)], [.int l3, .ref a2])) rfl ?_
        obtain ⟨o8, h6⟩ := ob_in h6
        refine r_iald rfl hA_a2.2.1 hA_a2.1 hA_a2.2.2 o8 ?_
        refine e_k 1 (f' := (28, [(0, .ref 112), (1, .ref a2), (2, .int l2), (3, .int l3)], [.int (I a2 (Int32.toNatClampNeg l3))])) rfl ?_
        refine e_sub (ls := [(0, .ref 112), (1, .ref a2), (3, .int l3)]) rfl ⟨rfl, rfl, rfl, trivial⟩ ?_
        obtain ⟨rfl, rfl, rfl⟩ := s_inj h6
        exact Kj6
theorem E_Model_least {a2 : Nat} {m2 : Nat} {X : MX} {I : MI} {J : MJ} {v : Int32} {I' : MI} {J' : MJ} (hA_a2 : isArr X 0 a2 m2) (hb : f_Model_least a2 m2 I J = some (v, I', J')) (K : P (.inl (some (.int v))) (hX X I' J')) : am_E (gG L xs) d m_Model_least (0, lv_args 0 [.ref 112, .ref a2], []) (hX X I J) P := by
  unfold f_Model_least at hb
  refine e_k 2 (f' := (2, [(0, .ref 112), (1, .ref a2)], [.int 0, .ref a2])) rfl ?_
  obtain ⟨o1, hb⟩ := ob_in hb
  refine r_iald rfl hA_a2.2.1 hA_a2.1 hA_a2.2.2 o1 ?_
  refine e_k 1 (f' := (4, [(2, .int (I a2 (Int32.toNatClampNeg 0))), (0, .ref 112), (1, .ref a2)], [])) rfl ?_
  obtain ⟨x2, ex2, hb⟩ := p_nm hb
  rw [← ex2]
  refine e_k 2 (f' := (6, [(3, .int 1), (2, .int x2), (0, .ref 112), (1, .ref a2)], [])) rfl ?_
  refine e_sub (ls := [(0, .ref 112), (1, .ref a2), (2, .int x2), (3, .int 1)]) rfl ⟨rfl, rfl, rfl, rfl, trivial⟩ ?_
  obtain ⟨u9, I9, J9, h9, hb⟩ := oc_call hb
  refine E_Model_least_6 hA_a2 gF  h9 ?_
  refine e_k 1 (f' := (36, [(2, .int u9)], [.int u9])) rfl ?_
  obtain ⟨rfl, rfl, rfl⟩ := s_inj hb
  exact e_r rfl rfl K
theorem E_Model_level_4 {X : MX} {a2 : Nat} {m2 : Nat} (hA_a2 : isArr X 0 a2 m2) : ∀ (fu : Nat) {l2 : Int32} {l3 : Int32} {I : MI} {J : MJ} {r : (Int32)} {I' : MI} {J' : MJ}, f_Model_level_4 a2 m2 fu l2 l3 I J = some (r, I', J') → am_E (gG L xs) d m_Model_level (33, [(0, .ref 112), (1, .ref a2), (2, .int r)], []) (hX X I' J') P → am_E (gG L xs) d m_Model_level (4, [(0, .ref 112), (1, .ref a2), (2, .int l2), (3, .int l3)], []) (hX X I J) P := by
  intro fu
  induction fu with
  | zero =>
    intros
    rename_i hb _
    cases hb
  | succ fu ih =>
    intro l2 l3 I J r I' J' hb K
    unfold f_Model_level_4 at hb
    refine e_k 2 (f' := (6, [(0, .ref 112), (1, .ref a2), (2, .int l2), (3, .int l3)], [.ref 112, .int l3])) rfl ?_
    refine r_geti rfl (x_ltn rfl) rfl rfl ?_
    refine e_k 1 (f' := (if (I 112 16) ≤ l3 then 33 else 12, [(0, .ref 112), (1, .ref a2), (2, .int l2), (3, .int l3)], [])) rfl ?_
    refine e_if (fun c1 => ?_) (fun c1 => ?_)
    · replace hb := i_pos c1 hb
      refine e_sub (ls := [(0, .ref 112), (1, .ref a2), (2, .int l2)]) rfl ⟨rfl, rfl, rfl, trivial⟩ ?_
      obtain ⟨rfl, rfl, rfl⟩ := s_inj hb
      exact K
    · replace hb := i_neg c1 hb
      refine e_k 2 (f' := (14, [(0, .ref 112), (1, .ref a2), (2, .int l2), (3, .int l3)], [.int l3, .ref a2])) rfl ?_
      obtain ⟨o2, hb⟩ := ob_in hb
      refine r_iald rfl hA_a2.2.1 hA_a2.1 hA_a2.2.2 o2 ?_
      refine e_k 2 (f' := (if (I a2 (Int32.toNatClampNeg l3)) ≤ l2 then 25 else 19, [(0, .ref 112), (1, .ref a2), (2, .int l2), (3, .int l3)], [])) rfl ?_
      obtain ⟨v4, I4, J4, h4, hb⟩ := oc_call hb
      have Kj4 : am_E (gG L xs) d m_Model_level (26, [(0, .ref 112), (1, .ref a2), (3, .int l3)], [.int v4]) (hX X I4 J4) P := by
        refine e_k 3 (f' := (4, [(3, .int (l3 + 1)), (2, .int v4), (0, .ref 112), (1, .ref a2)], [])) rfl ?_
        refine e_sub (ls := [(0, .ref 112), (1, .ref a2), (2, .int v4), (3, .int (l3 + 1))]) rfl ⟨rfl, rfl, rfl, rfl, trivial⟩ ?_
        exact ih  hb K
      clear hb
      refine e_if (fun c5 => ?_) (fun c5 => ?_)
      · replace h4 := i_pos c5 h4
        refine e_k 1 (f' := (26, [(0, .ref 112), (1, .ref a2), (2, .int l2), (3, .int l3)], [.int l2])) rfl ?_
        refine e_sub (ls := [(0, .ref 112), (1, .ref a2), (3, .int l3)]) rfl ⟨rfl, rfl, rfl, trivial⟩ ?_
        obtain ⟨rfl, rfl, rfl⟩ := s_inj h4
        exact Kj4
      · replace h4 := i_neg c5 h4
        refine e_k 2 (f' := (21, [(0, .ref 112), (1, .ref a2), (2, .int l2), (3, .int l3)], [.int l3, .ref a2])) rfl ?_
        obtain ⟨o6, h4⟩ := ob_in h4
        refine r_iald rfl hA_a2.2.1 hA_a2.1 hA_a2.2.2 o6 ?_
        refine e_k 1 (f' := (26, [(0, .ref 112), (1, .ref a2), (2, .int l2), (3, .int l3)], [.int (I a2 (Int32.toNatClampNeg l3))])) rfl ?_
        refine e_sub (ls := [(0, .ref 112), (1, .ref a2), (3, .int l3)]) rfl ⟨rfl, rfl, rfl, trivial⟩ ?_
        obtain ⟨rfl, rfl, rfl⟩ := s_inj h4
        exact Kj4
theorem E_Model_level_35 {X : MX} {a2 : Nat} {m2 : Nat} (hA_a2 : isArr X 0 a2 m2) : ∀ (fu : Nat) {l2 : Int32} {l3 : Int32} {I : MI} {J : MJ} {r : (Unit)} {I' : MI} {J' : MJ}, f_Model_level_35 a2 m2 fu l2 l3 I J = some (r, I', J') → am_E (gG L xs) d m_Model_level (53, [], []) (hX X I' J') P → am_E (gG L xs) d m_Model_level (35, [(0, .ref 112), (1, .ref a2), (2, .int l2), (3, .int l3)], []) (hX X I J) P := by
  intro fu
  induction fu with
  | zero =>
    intros
    rename_i hb _
    cases hb
  | succ fu ih =>
    intro l2 l3 I J r I' J' hb K
    unfold f_Model_level_35 at hb
    refine e_k 2 (f' := (37, [(0, .ref 112), (1, .ref a2), (2, .int l2), (3, .int l3)], [.ref 112, .int l3])) rfl ?_
    refine r_geti rfl (x_ltn rfl) rfl rfl ?_
    refine e_k 1 (f' := (if (I 112 16) ≤ l3 then 53 else 43, [(0, .ref 112), (1, .ref a2), (2, .int l2), (3, .int l3)], [])) rfl ?_
    refine e_if (fun c8 => ?_) (fun c8 => ?_)
    · replace hb := i_pos c8 hb
      refine e_sub (ls := []) rfl ⟨⟩ ?_
      obtain ⟨rfl, rfl, rfl⟩ := s_inj hb
      exact K
    · replace hb := i_neg c8 hb
      refine e_k 3 (f' := (46, [(0, .ref 112), (1, .ref a2), (2, .int l2), (3, .int l3)], [.int l2, .int l3, .ref a2])) rfl ?_
      obtain ⟨o9, hb⟩ := ob_in hb
      obtain ⟨I10, eI10, hb⟩ := p_nm hb
      refine r_iast' rfl hA_a2.1 hA_a2.2.2 o9 eI10 ?_
      refine e_k 2 (f' := (35, [(3, .int (l3 + 1)), (0, .ref 112), (1, .ref a2), (2, .int l2)], [])) rfl ?_
      refine e_sub (ls := [(0, .ref 112), (1, .ref a2), (2, .int l2), (3, .int (l3 + 1))]) rfl ⟨rfl, rfl, rfl, rfl, trivial⟩ ?_
      exact ih  hb K
theorem E_Model_level {a2 : Nat} {m2 : Nat} {X : MX} {I : MI} {J : MJ} {v : Unit} {I' : MI} {J' : MJ} (hA_a2 : isArr X 0 a2 m2) (hb : f_Model_level a2 m2 I J = some (v, I', J')) (K : P (.inl (none)) (hX X I' J')) : am_E (gG L xs) d m_Model_level (0, lv_args 0 [.ref 112, .ref a2], []) (hX X I J) P := by
  unfold f_Model_level at hb
  refine e_k 4 (f' := (4, [(3, .int 0), (2, .int 0), (0, .ref 112), (1, .ref a2)], [])) rfl ?_
  refine e_sub (ls := [(0, .ref 112), (1, .ref a2), (2, .int 0), (3, .int 0)]) rfl ⟨rfl, rfl, rfl, rfl, trivial⟩ ?_
  obtain ⟨u7, I7, J7, h7, hb⟩ := oc_call hb
  refine E_Model_level_4 hA_a2 gF  h7 ?_
  refine e_k 2 (f' := (35, [(3, .int 0), (0, .ref 112), (1, .ref a2), (2, .int u7)], [])) rfl ?_
  refine e_sub (ls := [(0, .ref 112), (1, .ref a2), (2, .int u7), (3, .int 0)]) rfl ⟨rfl, rfl, rfl, rfl, trivial⟩ ?_
  obtain ⟨u11, I11, J11, h11, hb⟩ := oc_call hb
  refine E_Model_level_35 hA_a2 gF  h11 ?_
  obtain ⟨rfl, rfl, rfl⟩ := s_inj hb
  exact e_r rfl rfl K
theorem E_Model_give {p2 : Int32} {p3 : Int64} {X : MX} {I : MI} {J : MJ} {v : Int32} {I' : MI} {J' : MJ} (hb : f_Model_give p2 p3 I J = some (v, I', J')) (K : P (.inl (some (.int v))) (hX X I' J')) : am_E (gG L xs) (d + 1) m_Model_give (0, lv_args 0 [.ref 112, .int p2, .long p3], []) (hX X I J) P := by
  unfold f_Model_give at hb
  refine e_k 2 (f' := (2, [(0, .ref 112), (1, .int p2), (2, .long p3)], [.int 0, .ref 112])) rfl ?_
  obtain ⟨I1, eI1, hb⟩ := p_nm hb
  refine r_puti' rfl (x_ltn rfl) rfl rfl eI1 ?_
  refine e_k 2 (f' := (7, [(0, .ref 112), (1, .int p2), (2, .long p3)], [.int p2, .ref 112])) rfl ?_
  obtain ⟨v2, I2, J2, h2, hb⟩ := oc_call hb
  refine r_cv (z := m_Model_isParty) (As := [.int p2]) (rest := []) rfl rfl rfl rfl rfl (x_ltn rfl) rfl rfl (E_Model_isParty  h2 ⟨_, rfl, ?_⟩)
  refine e_k 1 (f' := (if v2 = 0 then 24 else 13, [(0, .ref 112), (1, .int p2), (2, .long p3)], [])) rfl ?_
  refine e_if (fun c3 => ?_) (fun c3 => ?_)
  · replace hb := i_pos c3 hb
    refine e_k 1 (f' := (25, [(0, .ref 112), (1, .int p2), (2, .long p3)], [.int 0])) rfl ?_
    obtain ⟨rfl, rfl, rfl⟩ := s_inj hb
    exact e_r rfl rfl K
  · replace hb := i_neg c3 hb
    refine e_k 1 (f' := (14, [(0, .ref 112), (1, .int p2), (2, .long p3)], [.ref 112])) rfl ?_
    refine r_getr rfl (x_ltn rfl) rfl rfl ?_
    refine e_k 1 (f' := (18, [(0, .ref 112), (1, .int p2), (2, .long p3)], [.int p2, .ref 125])) rfl ?_
    obtain ⟨o4, hb⟩ := ob_in hb
    refine r_iald rfl rfl (x_ltn rfl) rfl o4 ?_
    refine e_k 2 (f' := (if ¬ (I2 125 (Int32.toNatClampNeg p2)) = 100 then 26 else 24, [(0, .ref 112), (1, .int p2), (2, .long p3)], [])) rfl ?_
    refine e_if (fun c5 => ?_) (fun c5 => ?_)
    · replace hb := i_pos c5 hb
      refine e_k 1 (f' := (27, [(0, .ref 112), (1, .int p2), (2, .long p3)], [.ref 112])) rfl ?_
      refine r_getr rfl (x_ltn rfl) rfl rfl ?_
      refine e_k 4 (f' := (35, [(0, .ref 112), (1, .int p2), (2, .long p3)], [.ref 112, .int (100 * p2), .ref 124])) rfl ?_
      refine r_getr rfl (x_ltn rfl) rfl rfl ?_
      refine e_k 1 (f' := (39, [(0, .ref 112), (1, .int p2), (2, .long p3)], [.int p2, .ref 125, .int (100 * p2), .ref 124])) rfl ?_
      obtain ⟨o6, hb⟩ := ob_in hb
      refine r_iald rfl rfl (x_ltn rfl) rfl o6 ?_
      refine e_k 2 (f' := (42, [(0, .ref 112), (1, .int p2), (2, .long p3)], [.long p3, .int ((100 * p2) + (I2 125 (Int32.toNatClampNeg p2))), .ref 124])) rfl ?_
      obtain ⟨v7, I7, J7, h7, hb⟩ := oc_call hb
      refine r_cs (z := m_Model_modulo) (As := [.long p3]) (rest := [.int ((100 * p2) + (I2 125 (Int32.toNatClampNeg p2))), .ref 124]) rfl rfl rfl rfl rfl rfl (E_Model_modulo  h7 ⟨_, rfl, ?_⟩)
      obtain ⟨o8, hb⟩ := ob_in hb
      obtain ⟨J9, eJ9, hb⟩ := p_nm hb
      refine r_last' rfl (x_ltn rfl) rfl o8 eJ9 ?_
      refine e_k 1 (f' := (47, [(0, .ref 112), (1, .int p2), (2, .long p3)], [.ref 112])) rfl ?_
      refine r_getr rfl (x_ltn rfl) rfl rfl ?_
      refine e_k 2 (f' := (52, [(0, .ref 112), (1, .int p2), (2, .long p3)], [.int p2, .ref 125, .int p2, .ref 125])) rfl ?_
      obtain ⟨o10, hb⟩ := ob_in hb
      refine r_iald rfl rfl (x_ltn rfl) rfl o10 ?_
      refine e_k 2 (f' := (55, [(0, .ref 112), (1, .int p2), (2, .long p3)], [.int ((I7 125 (Int32.toNatClampNeg p2)) + 1), .int p2, .ref 125])) rfl ?_
      obtain ⟨o11, hb⟩ := ob_in hb
      obtain ⟨I12, eI12, hb⟩ := p_nm hb
      refine r_iast' rfl (x_ltn rfl) rfl o11 eI12 ?_
      refine e_k 1 (f' := (57, [(0, .ref 112), (1, .int p2), (2, .long p3)], [.int 1])) rfl ?_
      obtain ⟨rfl, rfl, rfl⟩ := s_inj hb
      exact e_r rfl rfl K
    · replace hb := i_neg c5 hb
      refine e_k 1 (f' := (25, [(0, .ref 112), (1, .int p2), (2, .long p3)], [.int 0])) rfl ?_
      obtain ⟨rfl, rfl, rfl⟩ := s_inj hb
      exact e_r rfl rfl K
theorem E_Model_begin_40 {X : MX} : ∀ (fu : Nat) {l1 : Int32} {I : MI} {J : MJ} {r : (Unit)} {I' : MI} {J' : MJ}, f_Model_begin_40  fu l1 I J = some (r, I', J') → am_E (gG L xs) d m_Model_begin (163, [(0, .ref 112)], []) (hX X I' J') P → am_E (gG L xs) d m_Model_begin (40, [(0, .ref 112), (1, .int l1)], []) (hX X I J) P := by
  intro fu
  induction fu with
  | zero =>
    intros
    rename_i hb _
    cases hb
  | succ fu ih =>
    intro l1 I J r I' J' hb K
    unfold f_Model_begin_40 at hb
    refine e_k 3 (f' := (if 4 ≤ l1 then 163 else 45, [(0, .ref 112), (1, .int l1)], [])) rfl ?_
    refine e_if (fun c6 => ?_) (fun c6 => ?_)
    · replace hb := i_pos c6 hb
      refine e_sub (ls := [(0, .ref 112)]) rfl ⟨rfl, trivial⟩ ?_
      obtain ⟨rfl, rfl, rfl⟩ := s_inj hb
      exact K
    · replace hb := i_neg c6 hb
      refine e_k 1 (f' := (46, [(0, .ref 112), (1, .int l1)], [.ref 112])) rfl ?_
      refine r_getr rfl (x_ltn rfl) rfl rfl ?_
      refine e_k 2 (f' := (51, [(0, .ref 112), (1, .int l1)], [.int 0, .int l1, .ref 127])) rfl ?_
      obtain ⟨o7, hb⟩ := ob_in hb
      obtain ⟨I8, eI8, hb⟩ := p_nm hb
      refine r_iast' rfl (x_ltn rfl) rfl o7 eI8 ?_
      refine e_k 1 (f' := (53, [(0, .ref 112), (1, .int l1)], [.ref 112])) rfl ?_
      refine r_getr rfl (x_ltn rfl) rfl rfl ?_
      refine e_k 2 (f' := (58, [(0, .ref 112), (1, .int l1)], [.int 0, .int l1, .ref 128])) rfl ?_
      obtain ⟨o9, hb⟩ := ob_in hb
      obtain ⟨I10, eI10, hb⟩ := p_nm hb
      refine r_iast' rfl (x_ltn rfl) rfl o9 eI10 ?_
      refine e_k 1 (f' := (60, [(0, .ref 112), (1, .int l1)], [.ref 112])) rfl ?_
      refine r_getr rfl (x_ltn rfl) rfl rfl ?_
      refine e_k 2 (f' := (65, [(0, .ref 112), (1, .int l1)], [.int 0, .int l1, .ref 129])) rfl ?_
      obtain ⟨o11, hb⟩ := ob_in hb
      obtain ⟨I12, eI12, hb⟩ := p_nm hb
      refine r_iast' rfl (x_ltn rfl) rfl o11 eI12 ?_
      refine e_k 1 (f' := (67, [(0, .ref 112), (1, .int l1)], [.ref 112])) rfl ?_
      refine r_getr rfl (x_ltn rfl) rfl rfl ?_
      refine e_k 2 (f' := (72, [(0, .ref 112), (1, .int l1)], [.int 0, .int l1, .ref 130])) rfl ?_
      obtain ⟨o13, hb⟩ := ob_in hb
      obtain ⟨I14, eI14, hb⟩ := p_nm hb
      refine r_iast' rfl (x_ltn rfl) rfl o13 eI14 ?_
      refine e_k 1 (f' := (74, [(0, .ref 112), (1, .int l1)], [.ref 112])) rfl ?_
      refine r_getr rfl (x_ltn rfl) rfl rfl ?_
      refine e_k 2 (f' := (79, [(0, .ref 112), (1, .int l1)], [.int 0, .int l1, .ref 131])) rfl ?_
      obtain ⟨o15, hb⟩ := ob_in hb
      obtain ⟨I16, eI16, hb⟩ := p_nm hb
      refine r_iast' rfl (x_ltn rfl) rfl o15 eI16 ?_
      refine e_k 1 (f' := (81, [(0, .ref 112), (1, .int l1)], [.ref 112])) rfl ?_
      refine r_getr rfl (x_ltn rfl) rfl rfl ?_
      refine e_k 2 (f' := (86, [(0, .ref 112), (1, .int l1)], [.int 0, .int l1, .ref 132])) rfl ?_
      obtain ⟨o17, hb⟩ := ob_in hb
      obtain ⟨I18, eI18, hb⟩ := p_nm hb
      refine r_iast' rfl (x_ltn rfl) rfl o17 eI18 ?_
      refine e_k 1 (f' := (88, [(0, .ref 112), (1, .int l1)], [.ref 112])) rfl ?_
      refine r_getr rfl (x_ltn rfl) rfl rfl ?_
      refine e_k 2 (f' := (93, [(0, .ref 112), (1, .int l1)], [.int 0, .int l1, .ref 133])) rfl ?_
      obtain ⟨o19, hb⟩ := ob_in hb
      obtain ⟨I20, eI20, hb⟩ := p_nm hb
      refine r_iast' rfl (x_ltn rfl) rfl o19 eI20 ?_
      refine e_k 1 (f' := (95, [(0, .ref 112), (1, .int l1)], [.ref 112])) rfl ?_
      refine r_getr rfl (x_ltn rfl) rfl rfl ?_
      refine e_k 2 (f' := (100, [(0, .ref 112), (1, .int l1)], [.int 0, .int l1, .ref 134])) rfl ?_
      obtain ⟨o21, hb⟩ := ob_in hb
      obtain ⟨I22, eI22, hb⟩ := p_nm hb
      refine r_iast' rfl (x_ltn rfl) rfl o21 eI22 ?_
      refine e_k 1 (f' := (102, [(0, .ref 112), (1, .int l1)], [.ref 112])) rfl ?_
      refine r_getr rfl (x_ltn rfl) rfl rfl ?_
      refine e_k 2 (f' := (107, [(0, .ref 112), (1, .int l1)], [.int 0, .int l1, .ref 135])) rfl ?_
      obtain ⟨o23, hb⟩ := ob_in hb
      obtain ⟨I24, eI24, hb⟩ := p_nm hb
      refine r_iast' rfl (x_ltn rfl) rfl o23 eI24 ?_
      refine e_k 1 (f' := (109, [(0, .ref 112), (1, .int l1)], [.ref 112])) rfl ?_
      refine r_getr rfl (x_ltn rfl) rfl rfl ?_
      refine e_k 2 (f' := (114, [(0, .ref 112), (1, .int l1)], [.int 0, .int l1, .ref 136])) rfl ?_
      obtain ⟨o25, hb⟩ := ob_in hb
      obtain ⟨I26, eI26, hb⟩ := p_nm hb
      refine r_iast' rfl (x_ltn rfl) rfl o25 eI26 ?_
      refine e_k 1 (f' := (116, [(0, .ref 112), (1, .int l1)], [.ref 112])) rfl ?_
      refine r_getr rfl (x_ltn rfl) rfl rfl ?_
      refine e_k 2 (f' := (121, [(0, .ref 112), (1, .int l1)], [.int 0, .int l1, .ref 137])) rfl ?_
      obtain ⟨o27, hb⟩ := ob_in hb
      obtain ⟨I28, eI28, hb⟩ := p_nm hb
      refine r_iast' rfl (x_ltn rfl) rfl o27 eI28 ?_
      refine e_k 1 (f' := (123, [(0, .ref 112), (1, .int l1)], [.ref 112])) rfl ?_
      refine r_getr rfl (x_ltn rfl) rfl rfl ?_
      refine e_k 2 (f' := (128, [(0, .ref 112), (1, .int l1)], [.int 0, .int l1, .ref 138])) rfl ?_
      obtain ⟨o29, hb⟩ := ob_in hb
      obtain ⟨I30, eI30, hb⟩ := p_nm hb
      refine r_iast' rfl (x_ltn rfl) rfl o29 eI30 ?_
      refine e_k 1 (f' := (130, [(0, .ref 112), (1, .int l1)], [.ref 112])) rfl ?_
      refine r_getr rfl (x_ltn rfl) rfl rfl ?_
      refine e_k 2 (f' := (135, [(0, .ref 112), (1, .int l1)], [.int 0, .int l1, .ref 139])) rfl ?_
      obtain ⟨o31, hb⟩ := ob_in hb
      obtain ⟨I32, eI32, hb⟩ := p_nm hb
      refine r_zast' rfl (x_ltn rfl) rfl o31 eI32 ?_
      refine e_k 1 (f' := (137, [(0, .ref 112), (1, .int l1)], [.ref 112])) rfl ?_
      refine r_getr rfl (x_ltn rfl) rfl rfl ?_
      refine e_k 2 (f' := (142, [(0, .ref 112), (1, .int l1)], [.int 0, .int l1, .ref 141])) rfl ?_
      obtain ⟨o33, hb⟩ := ob_in hb
      obtain ⟨I34, eI34, hb⟩ := p_nm hb
      refine r_iast' rfl (x_ltn rfl) rfl o33 eI34 ?_
      refine e_k 1 (f' := (144, [(0, .ref 112), (1, .int l1)], [.ref 112])) rfl ?_
      refine r_getr rfl (x_ltn rfl) rfl rfl ?_
      refine e_k 2 (f' := (149, [(0, .ref 112), (1, .int l1)], [.int (-1), .int l1, .ref 142])) rfl ?_
      obtain ⟨o35, hb⟩ := ob_in hb
      obtain ⟨I36, eI36, hb⟩ := p_nm hb
      refine r_iast' rfl (x_ltn rfl) rfl o35 eI36 ?_
      refine e_k 1 (f' := (151, [(0, .ref 112), (1, .int l1)], [.ref 112])) rfl ?_
      refine r_getr rfl (x_ltn rfl) rfl rfl ?_
      refine e_k 2 (f' := (156, [(0, .ref 112), (1, .int l1)], [.int 0, .int l1, .ref 145])) rfl ?_
      obtain ⟨o37, hb⟩ := ob_in hb
      obtain ⟨I38, eI38, hb⟩ := p_nm hb
      refine r_iast' rfl (x_ltn rfl) rfl o37 eI38 ?_
      refine e_k 2 (f' := (40, [(1, .int (l1 + 1)), (0, .ref 112)], [])) rfl ?_
      refine e_sub (ls := [(0, .ref 112), (1, .int (l1 + 1))]) rfl ⟨rfl, rfl, trivial⟩ ?_
      exact ih  hb K
theorem E_Model_begin_165 {X : MX} : ∀ (fu : Nat) {l1 : Int32} {I : MI} {J : MJ} {r : (Unit)} {I' : MI} {J' : MJ}, f_Model_begin_165  fu l1 I J = some (r, I', J') → am_E (gG L xs) d m_Model_begin (185, [(0, .ref 112)], []) (hX X I' J') P → am_E (gG L xs) d m_Model_begin (165, [(0, .ref 112), (1, .int l1)], []) (hX X I J) P := by
  intro fu
  induction fu with
  | zero =>
    intros
    rename_i hb _
    cases hb
  | succ fu ih =>
    intro l1 I J r I' J' hb K
    unfold f_Model_begin_165 at hb
    refine e_k 3 (f' := (if 616 ≤ l1 then 185 else 172, [(0, .ref 112), (1, .int l1)], [])) rfl ?_
    refine e_if (fun c40 => ?_) (fun c40 => ?_)
    · replace hb := i_pos c40 hb
      refine e_sub (ls := [(0, .ref 112)]) rfl ⟨rfl, trivial⟩ ?_
      obtain ⟨rfl, rfl, rfl⟩ := s_inj hb
      exact K
    · replace hb := i_neg c40 hb
      refine e_k 1 (f' := (173, [(0, .ref 112), (1, .int l1)], [.ref 112])) rfl ?_
      refine r_getr rfl (x_ltn rfl) rfl rfl ?_
      refine e_k 2 (f' := (178, [(0, .ref 112), (1, .int l1)], [.long 0, .int l1, .ref 143])) rfl ?_
      obtain ⟨o41, hb⟩ := ob_in hb
      obtain ⟨J42, eJ42, hb⟩ := p_nm hb
      refine r_last' rfl (x_ltn rfl) rfl o41 eJ42 ?_
      refine e_k 2 (f' := (165, [(1, .int (l1 + 1)), (0, .ref 112)], [])) rfl ?_
      refine e_sub (ls := [(0, .ref 112), (1, .int (l1 + 1))]) rfl ⟨rfl, rfl, trivial⟩ ?_
      exact ih  hb K
theorem E_Model_begin_187 {X : MX} : ∀ (fu : Nat) {l1 : Int32} {I : MI} {J : MJ} {r : (Unit)} {I' : MI} {J' : MJ}, f_Model_begin_187  fu l1 I J = some (r, I', J') → am_E (gG L xs) d m_Model_begin (220, [(0, .ref 112)], []) (hX X I' J') P → am_E (gG L xs) d m_Model_begin (187, [(0, .ref 112), (1, .int l1)], []) (hX X I J) P := by
  intro fu
  induction fu with
  | zero =>
    intros
    rename_i hb _
    cases hb
  | succ fu ih =>
    intro l1 I J r I' J' hb K
    unfold f_Model_begin_187 at hb
    refine e_k 3 (f' := (if 16 ≤ l1 then 220 else 193, [(0, .ref 112), (1, .int l1)], [])) rfl ?_
    refine e_if (fun c44 => ?_) (fun c44 => ?_)
    · replace hb := i_pos c44 hb
      refine e_sub (ls := [(0, .ref 112)]) rfl ⟨rfl, trivial⟩ ?_
      obtain ⟨rfl, rfl, rfl⟩ := s_inj hb
      exact K
    · replace hb := i_neg c44 hb
      refine e_k 1 (f' := (194, [(0, .ref 112), (1, .int l1)], [.ref 112])) rfl ?_
      refine r_getr rfl (x_ltn rfl) rfl rfl ?_
      refine e_k 2 (f' := (199, [(0, .ref 112), (1, .int l1)], [.int 0, .int l1, .ref 148])) rfl ?_
      obtain ⟨o45, hb⟩ := ob_in hb
      obtain ⟨I46, eI46, hb⟩ := p_nm hb
      refine r_iast' rfl (x_ltn rfl) rfl o45 eI46 ?_
      refine e_k 1 (f' := (201, [(0, .ref 112), (1, .int l1)], [.ref 112])) rfl ?_
      refine r_getr rfl (x_ltn rfl) rfl rfl ?_
      refine e_k 2 (f' := (206, [(0, .ref 112), (1, .int l1)], [.int 0, .int l1, .ref 149])) rfl ?_
      obtain ⟨o47, hb⟩ := ob_in hb
      obtain ⟨I48, eI48, hb⟩ := p_nm hb
      refine r_zast' rfl (x_ltn rfl) rfl o47 eI48 ?_
      refine e_k 1 (f' := (208, [(0, .ref 112), (1, .int l1)], [.ref 112])) rfl ?_
      refine r_getr rfl (x_ltn rfl) rfl rfl ?_
      refine e_k 2 (f' := (213, [(0, .ref 112), (1, .int l1)], [.int 0, .int l1, .ref 150])) rfl ?_
      obtain ⟨o49, hb⟩ := ob_in hb
      obtain ⟨I50, eI50, hb⟩ := p_nm hb
      refine r_iast' rfl (x_ltn rfl) rfl o49 eI50 ?_
      refine e_k 2 (f' := (187, [(1, .int (l1 + 1)), (0, .ref 112)], [])) rfl ?_
      refine e_sub (ls := [(0, .ref 112), (1, .int (l1 + 1))]) rfl ⟨rfl, rfl, trivial⟩ ?_
      exact ih  hb K
theorem E_Model_begin {X : MX} {I : MI} {J : MJ} {v : Int32} {I' : MI} {J' : MJ} (hb : f_Model_begin  I J = some (v, I', J')) (K : P (.inl (some (.int v))) (hX X I' J')) : am_E (gG L xs) (d + 1) m_Model_begin (0, lv_args 0 [.ref 112], []) (hX X I J) P := by
  unfold f_Model_begin at hb
  refine e_k 2 (f' := (2, [(0, .ref 112)], [.int 0, .ref 112])) rfl ?_
  obtain ⟨I1, eI1, hb⟩ := p_nm hb
  refine r_puti' rfl (x_ltn rfl) rfl rfl eI1 ?_
  refine e_k 1 (f' := (6, [(0, .ref 112)], [.ref 112])) rfl ?_
  refine r_geti rfl (x_ltn rfl) rfl rfl ?_
  refine e_k 1 (f' := (if ¬ (I1 112 8) = 0 then 14 else 12, [(0, .ref 112)], [])) rfl ?_
  refine e_if (fun c2 => ?_) (fun c2 => ?_)
  · replace hb := i_pos c2 hb
    refine e_k 2 (f' := (16, [(0, .ref 112)], [.ref 112, .ref 112])) rfl ?_
    refine r_getr rfl (x_ltn rfl) rfl rfl ?_
    obtain ⟨v3, I3, J3, h3, hb⟩ := oc_call hb
    refine r_cv (z := m_Model_level) (As := [.ref 121]) (rest := []) rfl rfl rfl rfl rfl (x_ltn rfl) rfl rfl (E_Model_level ⟨(x_ltn rfl), rfl, rfl⟩ h3 ⟨_, rfl, ?_⟩)
    refine e_k 2 (f' := (24, [(0, .ref 112)], [.ref 112, .ref 112])) rfl ?_
    refine r_getr rfl (x_ltn rfl) rfl rfl ?_
    obtain ⟨v4, I4, J4, h4, hb⟩ := oc_call hb
    refine r_cv (z := m_Model_level) (As := [.ref 122]) (rest := []) rfl rfl rfl rfl rfl (x_ltn rfl) rfl rfl (E_Model_level ⟨(x_ltn rfl), rfl, rfl⟩ h4 ⟨_, rfl, ?_⟩)
    refine e_k 2 (f' := (32, [(0, .ref 112)], [.ref 112, .ref 112])) rfl ?_
    refine r_getr rfl (x_ltn rfl) rfl rfl ?_
    obtain ⟨v5, I5, J5, h5, hb⟩ := oc_call hb
    refine r_cv (z := m_Model_level) (As := [.ref 123]) (rest := []) rfl rfl rfl rfl rfl (x_ltn rfl) rfl rfl (E_Model_level ⟨(x_ltn rfl), rfl, rfl⟩ h5 ⟨_, rfl, ?_⟩)
    refine e_k 2 (f' := (40, [(1, .int 0), (0, .ref 112)], [])) rfl ?_
    refine e_sub (ls := [(0, .ref 112), (1, .int 0)]) rfl ⟨rfl, rfl, trivial⟩ ?_
    obtain ⟨u39, I39, J39, h39, hb⟩ := oc_call hb
    refine E_Model_begin_40  gF  h39 ?_
    refine e_k 2 (f' := (165, [(1, .int 0), (0, .ref 112)], [])) rfl ?_
    refine e_sub (ls := [(0, .ref 112), (1, .int 0)]) rfl ⟨rfl, rfl, trivial⟩ ?_
    obtain ⟨u43, I43, J43, h43, hb⟩ := oc_call hb
    refine E_Model_begin_165  gF  h43 ?_
    refine e_k 2 (f' := (187, [(1, .int 0), (0, .ref 112)], [])) rfl ?_
    refine e_sub (ls := [(0, .ref 112), (1, .int 0)]) rfl ⟨rfl, rfl, trivial⟩ ?_
    obtain ⟨u51, I51, J51, h51, hb⟩ := oc_call hb
    refine E_Model_begin_187  gF  h51 ?_
    refine e_k 2 (f' := (222, [(0, .ref 112)], [.int 0, .ref 112])) rfl ?_
    obtain ⟨I52, eI52, hb⟩ := p_nm hb
    refine r_puti' rfl (x_ltn rfl) rfl rfl eI52 ?_
    refine e_k 2 (f' := (227, [(0, .ref 112)], [.int 0, .ref 112])) rfl ?_
    obtain ⟨I53, eI53, hb⟩ := p_nm hb
    refine r_puti' rfl (x_ltn rfl) rfl rfl eI53 ?_
    refine e_k 2 (f' := (232, [(0, .ref 112)], [.int 1, .ref 112])) rfl ?_
    obtain ⟨I54, eI54, hb⟩ := p_nm hb
    refine r_putz' rfl (x_ltn rfl) rfl rfl (Or.inr rfl) eI54 ?_
    refine e_k 1 (f' := (236, [(0, .ref 112)], [.int 1])) rfl ?_
    obtain ⟨rfl, rfl, rfl⟩ := s_inj hb
    exact e_r rfl rfl K
  · replace hb := i_neg c2 hb
    refine e_k 1 (f' := (13, [(0, .ref 112)], [.int 0])) rfl ?_
    obtain ⟨rfl, rfl, rfl⟩ := s_inj hb
    exact e_r rfl rfl K
theorem E_Model_tamper {p2 : Int32} {p3 : Int32} {p4 : Int32} {p5 : Int64} {X : MX} {I : MI} {J : MJ} {v : Int32} {I' : MI} {J' : MJ} (hb : f_Model_tamper p2 p3 p4 p5 I J = some (v, I', J')) (K : P (.inl (some (.int v))) (hX X I' J')) : am_E (gG L xs) (d + 1) m_Model_tamper (0, lv_args 0 [.ref 112, .int p2, .int p3, .int p4, .long p5], []) (hX X I J) P := by
  unfold f_Model_tamper at hb
  refine e_k 2 (f' := (2, [(0, .ref 112), (1, .int p2), (2, .int p3), (3, .int p4), (4, .long p5)], [.int 0, .ref 112])) rfl ?_
  obtain ⟨I1, eI1, hb⟩ := p_nm hb
  refine r_puti' rfl (x_ltn rfl) rfl rfl eI1 ?_
  refine e_k 1 (f' := (6, [(0, .ref 112), (1, .int p2), (2, .int p3), (3, .int p4), (4, .long p5)], [.ref 112])) rfl ?_
  refine r_geti rfl (x_ltn rfl) rfl rfl ?_
  refine e_k 1 (f' := (if (I1 112 34) = 0 then 60 else 12, [(0, .ref 112), (1, .int p2), (2, .int p3), (3, .int p4), (4, .long p5)], [])) rfl ?_
  refine e_if (fun c2 => ?_) (fun c2 => ?_)
  · replace hb := i_pos c2 hb
    refine e_k 1 (f' := (61, [(0, .ref 112), (1, .int p2), (2, .int p3), (3, .int p4), (4, .long p5)], [.int 0])) rfl ?_
    obtain ⟨rfl, rfl, rfl⟩ := s_inj hb
    exact e_r rfl rfl K
  · replace hb := i_neg c2 hb
    refine e_k 2 (f' := (14, [(0, .ref 112), (1, .int p2), (2, .int p3), (3, .int p4), (4, .long p5)], [.int p2, .ref 112])) rfl ?_
    obtain ⟨v3, I3, J3, h3, hb⟩ := oc_call hb
    refine r_cv (z := m_Model_isParty) (As := [.int p2]) (rest := []) rfl rfl rfl rfl rfl (x_ltn rfl) rfl rfl (E_Model_isParty  h3 ⟨_, rfl, ?_⟩)
    refine e_k 1 (f' := (if v3 = 0 then 60 else 20, [(0, .ref 112), (1, .int p2), (2, .int p3), (3, .int p4), (4, .long p5)], [])) rfl ?_
    refine e_if (fun c4 => ?_) (fun c4 => ?_)
    · replace hb := i_pos c4 hb
      refine e_k 1 (f' := (61, [(0, .ref 112), (1, .int p2), (2, .int p3), (3, .int p4), (4, .long p5)], [.int 0])) rfl ?_
      obtain ⟨rfl, rfl, rfl⟩ := s_inj hb
      exact e_r rfl rfl K
    · replace hb := i_neg c4 hb
      refine e_k 2 (f' := (if p4 < 0 then 60 else 24, [(0, .ref 112), (1, .int p2), (2, .int p3), (3, .int p4), (4, .long p5)], [])) rfl ?_
      refine e_if (fun c5 => ?_) (fun c5 => ?_)
      · replace hb := i_pos c5 hb
        refine e_k 1 (f' := (61, [(0, .ref 112), (1, .int p2), (2, .int p3), (3, .int p4), (4, .long p5)], [.int 0])) rfl ?_
        obtain ⟨rfl, rfl, rfl⟩ := s_inj hb
        exact e_r rfl rfl K
      · replace hb := i_neg c5 hb
        refine e_k 3 (f' := (if 31 < p4 then 60 else 30, [(0, .ref 112), (1, .int p2), (2, .int p3), (3, .int p4), (4, .long p5)], [])) rfl ?_
        refine e_if (fun c6 => ?_) (fun c6 => ?_)
        · replace hb := i_pos c6 hb
          refine e_k 1 (f' := (61, [(0, .ref 112), (1, .int p2), (2, .int p3), (3, .int p4), (4, .long p5)], [.int 0])) rfl ?_
          obtain ⟨rfl, rfl, rfl⟩ := s_inj hb
          exact e_r rfl rfl K
        · replace hb := i_neg c6 hb
          refine e_k 2 (f' := (if p3 < 0 then 60 else 34, [(0, .ref 112), (1, .int p2), (2, .int p3), (3, .int p4), (4, .long p5)], [])) rfl ?_
          refine e_if (fun c7 => ?_) (fun c7 => ?_)
          · replace hb := i_pos c7 hb
            refine e_k 1 (f' := (61, [(0, .ref 112), (1, .int p2), (2, .int p3), (3, .int p4), (4, .long p5)], [.int 0])) rfl ?_
            obtain ⟨rfl, rfl, rfl⟩ := s_inj hb
            exact e_r rfl rfl K
          · replace hb := i_neg c7 hb
            refine e_k 3 (f' := (if 999 < p3 then 60 else 41, [(0, .ref 112), (1, .int p2), (2, .int p3), (3, .int p4), (4, .long p5)], [])) rfl ?_
            refine e_if (fun c8 => ?_) (fun c8 => ?_)
            · replace hb := i_pos c8 hb
              refine e_k 1 (f' := (61, [(0, .ref 112), (1, .int p2), (2, .int p3), (3, .int p4), (4, .long p5)], [.int 0])) rfl ?_
              obtain ⟨rfl, rfl, rfl⟩ := s_inj hb
              exact e_r rfl rfl K
            · replace hb := i_neg c8 hb
              refine e_k 2 (f' := (43, [(0, .ref 112), (1, .int p2), (2, .int p3), (3, .int p4), (4, .long p5)], [.ref 112, .int p3])) rfl ?_
              refine r_getr rfl (x_ltn rfl) rfl rfl ?_
              refine e_k 1 (f' := (47, [(0, .ref 112), (1, .int p2), (2, .int p3), (3, .int p4), (4, .long p5)], [.int p2, .ref 131, .int p3])) rfl ?_
              obtain ⟨o9, hb⟩ := ob_in hb
              refine r_iald rfl rfl (x_ltn rfl) rfl o9 ?_
              refine e_k 1 (f' := (if p3 < (I3 131 (Int32.toNatClampNeg p2)) then 60 else 51, [(0, .ref 112), (1, .int p2), (2, .int p3), (3, .int p4), (4, .long p5)], [])) rfl ?_
              refine e_if (fun c10 => ?_) (fun c10 => ?_)
              · replace hb := i_pos c10 hb
                refine e_k 1 (f' := (61, [(0, .ref 112), (1, .int p2), (2, .int p3), (3, .int p4), (4, .long p5)], [.int 0])) rfl ?_
                obtain ⟨rfl, rfl, rfl⟩ := s_inj hb
                exact e_r rfl rfl K
              · replace hb := i_neg c10 hb
                refine e_k 1 (f' := (52, [(0, .ref 112), (1, .int p2), (2, .int p3), (3, .int p4), (4, .long p5)], [.ref 112])) rfl ?_
                refine r_geti rfl (x_ltn rfl) rfl rfl ?_
                refine e_k 2 (f' := (if ¬ (I3 112 66) = 40 then 62 else 60, [(0, .ref 112), (1, .int p2), (2, .int p3), (3, .int p4), (4, .long p5)], [])) rfl ?_
                refine e_if (fun c11 => ?_) (fun c11 => ?_)
                · replace hb := i_pos c11 hb
                  refine e_k 1 (f' := (63, [(0, .ref 112), (1, .int p2), (2, .int p3), (3, .int p4), (4, .long p5)], [.ref 112])) rfl ?_
                  refine r_getr rfl (x_ltn rfl) rfl rfl ?_
                  refine e_k 1 (f' := (67, [(0, .ref 112), (1, .int p2), (2, .int p3), (3, .int p4), (4, .long p5)], [.ref 112, .ref 156])) rfl ?_
                  refine r_geti rfl (x_ltn rfl) rfl rfl ?_
                  refine e_k 1 (f' := (71, [(0, .ref 112), (1, .int p2), (2, .int p3), (3, .int p4), (4, .long p5)], [.int p2, .int (I3 112 66), .ref 156])) rfl ?_
                  obtain ⟨o12, hb⟩ := ob_in hb
                  obtain ⟨I13, eI13, hb⟩ := p_nm hb
                  refine r_iast' rfl (x_ltn rfl) rfl o12 eI13 ?_
                  refine e_k 1 (f' := (73, [(0, .ref 112), (1, .int p2), (2, .int p3), (3, .int p4), (4, .long p5)], [.ref 112])) rfl ?_
                  refine r_getr rfl (x_ltn rfl) rfl rfl ?_
                  refine e_k 1 (f' := (77, [(0, .ref 112), (1, .int p2), (2, .int p3), (3, .int p4), (4, .long p5)], [.ref 112, .ref 157])) rfl ?_
                  refine r_geti rfl (x_ltn rfl) rfl rfl ?_
                  refine e_k 1 (f' := (81, [(0, .ref 112), (1, .int p2), (2, .int p3), (3, .int p4), (4, .long p5)], [.int p3, .int (I13 112 66), .ref 157])) rfl ?_
                  obtain ⟨o14, hb⟩ := ob_in hb
                  obtain ⟨I15, eI15, hb⟩ := p_nm hb
                  refine r_iast' rfl (x_ltn rfl) rfl o14 eI15 ?_
                  refine e_k 1 (f' := (83, [(0, .ref 112), (1, .int p2), (2, .int p3), (3, .int p4), (4, .long p5)], [.ref 112])) rfl ?_
                  refine r_getr rfl (x_ltn rfl) rfl rfl ?_
                  refine e_k 1 (f' := (87, [(0, .ref 112), (1, .int p2), (2, .int p3), (3, .int p4), (4, .long p5)], [.ref 112, .ref 158])) rfl ?_
                  refine r_geti rfl (x_ltn rfl) rfl rfl ?_
                  refine e_k 1 (f' := (91, [(0, .ref 112), (1, .int p2), (2, .int p3), (3, .int p4), (4, .long p5)], [.int p4, .int (I15 112 66), .ref 158])) rfl ?_
                  obtain ⟨o16, hb⟩ := ob_in hb
                  obtain ⟨I17, eI17, hb⟩ := p_nm hb
                  refine r_iast' rfl (x_ltn rfl) rfl o16 eI17 ?_
                  refine e_k 1 (f' := (93, [(0, .ref 112), (1, .int p2), (2, .int p3), (3, .int p4), (4, .long p5)], [.ref 112])) rfl ?_
                  refine r_getr rfl (x_ltn rfl) rfl rfl ?_
                  refine e_k 1 (f' := (97, [(0, .ref 112), (1, .int p2), (2, .int p3), (3, .int p4), (4, .long p5)], [.ref 112, .ref 159])) rfl ?_
                  refine r_geti rfl (x_ltn rfl) rfl rfl ?_
                  refine e_k 1 (f' := (102, [(0, .ref 112), (1, .int p2), (2, .int p3), (3, .int p4), (4, .long p5)], [.long p5, .int (I17 112 66), .ref 159])) rfl ?_
                  obtain ⟨v18, I18, J18, h18, hb⟩ := oc_call hb
                  refine r_cs (z := m_Model_modulo) (As := [.long p5]) (rest := [.int (I17 112 66), .ref 159]) rfl rfl rfl rfl rfl rfl (E_Model_modulo  h18 ⟨_, rfl, ?_⟩)
                  obtain ⟨o19, hb⟩ := ob_in hb
                  obtain ⟨J20, eJ20, hb⟩ := p_nm hb
                  refine r_last' rfl (x_ltn rfl) rfl o19 eJ20 ?_
                  refine e_k 2 (f' := (108, [(0, .ref 112), (1, .int p2), (2, .int p3), (3, .int p4), (4, .long p5)], [.ref 112, .ref 112])) rfl ?_
                  refine r_geti rfl (x_ltn rfl) rfl rfl ?_
                  refine e_k 2 (f' := (113, [(0, .ref 112), (1, .int p2), (2, .int p3), (3, .int p4), (4, .long p5)], [.int ((I18 112 66) + 1), .ref 112])) rfl ?_
                  obtain ⟨I21, eI21, hb⟩ := p_nm hb
                  refine r_puti' rfl (x_ltn rfl) rfl rfl eI21 ?_
                  refine e_k 1 (f' := (117, [(0, .ref 112), (1, .int p2), (2, .int p3), (3, .int p4), (4, .long p5)], [.int 1])) rfl ?_
                  obtain ⟨rfl, rfl, rfl⟩ := s_inj hb
                  exact e_r rfl rfl K
                · replace hb := i_neg c11 hb
                  refine e_k 1 (f' := (61, [(0, .ref 112), (1, .int p2), (2, .int p3), (3, .int p4), (4, .long p5)], [.int 0])) rfl ?_
                  obtain ⟨rfl, rfl, rfl⟩ := s_inj hb
                  exact e_r rfl rfl K
theorem E_Model_error_5 {X : MX} {p2 : Int32} {p3 : Int32} : ∀ (fu : Nat) {l1 : Int32} {l2 : Int32} {l3 : Int64} {l5 : Int32} {I : MI} {J : MJ} {r : (Int64)} {I' : MI} {J' : MJ}, f_Model_error_5 p2 p3 fu l1 l2 l3 l5 I J = some (r, I', J') → am_E (gG L xs) (d + 2) m_Model_error (69, [(3, .long r)], []) (hX X I' J') P → am_E (gG L xs) (d + 2) m_Model_error (5, [(0, .ref 112), (1, .int l1), (2, .int l2), (3, .long l3), (5, .int l5)], []) (hX X I J) P := by
  intro fu
  induction fu with
  | zero =>
    intros
    rename_i hb _
    cases hb
  | succ fu ih =>
    intro l1 l2 l3 l5 I J r I' J' hb K
    unfold f_Model_error_5 at hb
    refine e_k 2 (f' := (8, [(0, .ref 112), (1, .int l1), (2, .int l2), (3, .long l3), (5, .int l5)], [.ref 112, .int l5])) rfl ?_
    refine r_geti rfl (x_ltn rfl) rfl rfl ?_
    refine e_k 1 (f' := (if (I 112 66) ≤ l5 then 69 else 14, [(0, .ref 112), (1, .int l1), (2, .int l2), (3, .long l3), (5, .int l5)], [])) rfl ?_
    refine e_if (fun c1 => ?_) (fun c1 => ?_)
    · replace hb := i_pos c1 hb
      refine e_sub (ls := [(3, .long l3)]) rfl ⟨rfl, trivial⟩ ?_
      obtain ⟨rfl, rfl, rfl⟩ := s_inj hb
      exact K
    · replace hb := i_neg c1 hb
      refine e_k 1 (f' := (15, [(0, .ref 112), (1, .int l1), (2, .int l2), (3, .long l3), (5, .int l5)], [.ref 112])) rfl ?_
      refine r_getr rfl (x_ltn rfl) rfl rfl ?_
      refine e_k 1 (f' := (20, [(0, .ref 112), (1, .int l1), (2, .int l2), (3, .long l3), (5, .int l5)], [.int l5, .ref 158])) rfl ?_
      obtain ⟨o2, hb⟩ := ob_in hb
      refine r_iald rfl rfl (x_ltn rfl) rfl o2 ?_
      refine e_k 2 (f' := (if ¬ (I 158 (Int32.toNatClampNeg l5)) = l2 then 63 else 25, [(0, .ref 112), (1, .int l1), (2, .int l2), (3, .long l3), (5, .int l5)], [])) rfl ?_
      refine e_if (fun c3 => ?_) (fun c3 => ?_)
      · replace hb := i_pos c3 hb
        refine e_k 2 (f' := (5, [(5, .int (l5 + 1)), (0, .ref 112), (1, .int l1), (2, .int l2), (3, .long l3)], [])) rfl ?_
        refine e_sub (ls := [(0, .ref 112), (1, .int l1), (2, .int l2), (3, .long l3), (5, .int (l5 + 1))]) rfl ⟨rfl, rfl, rfl, rfl, rfl, trivial⟩ ?_
        exact ih  hb K
      · replace hb := i_neg c3 hb
        refine e_k 1 (f' := (26, [(0, .ref 112), (1, .int l1), (2, .int l2), (3, .long l3), (5, .int l5)], [.ref 112])) rfl ?_
        refine r_getr rfl (x_ltn rfl) rfl rfl ?_
        refine e_k 4 (f' := (33, [(0, .ref 112), (1, .int l1), (2, .int l2), (3, .long l3), (5, .int l5)], [.ref 112, .int (4 * l1), .ref 153])) rfl ?_
        refine r_getr rfl (x_ltn rfl) rfl rfl ?_
        refine e_k 1 (f' := (38, [(0, .ref 112), (1, .int l1), (2, .int l2), (3, .long l3), (5, .int l5)], [.int l5, .ref 156, .int (4 * l1), .ref 153])) rfl ?_
        obtain ⟨o4, hb⟩ := ob_in hb
        refine r_iald rfl rfl (x_ltn rfl) rfl o4 ?_
        refine e_k 1 (f' := (40, [(0, .ref 112), (1, .int l1), (2, .int l2), (3, .long l3), (5, .int l5)], [.int ((4 * l1) + (I 156 (Int32.toNatClampNeg l5))), .ref 153])) rfl ?_
        obtain ⟨o5, hb⟩ := ob_in hb
        refine r_iald rfl rfl (x_ltn rfl) rfl o5 ?_
        refine e_k 1 (f' := (42, [(0, .ref 112), (1, .int l1), (2, .int l2), (3, .long l3), (5, .int l5)], [.ref 112, .int (I 153 (Int32.toNatClampNeg ((4 * l1) + (I 156 (Int32.toNatClampNeg l5)))))])) rfl ?_
        refine r_getr rfl (x_ltn rfl) rfl rfl ?_
        refine e_k 1 (f' := (47, [(0, .ref 112), (1, .int l1), (2, .int l2), (3, .long l3), (5, .int l5)], [.int l5, .ref 157, .int (I 153 (Int32.toNatClampNeg ((4 * l1) + (I 156 (Int32.toNatClampNeg l5)))))])) rfl ?_
        obtain ⟨o6, hb⟩ := ob_in hb
        refine r_iald rfl rfl (x_ltn rfl) rfl o6 ?_
        refine e_k 1 (f' := (if ¬ (I 153 (Int32.toNatClampNeg ((4 * l1) + (I 156 (Int32.toNatClampNeg l5))))) = (I 157 (Int32.toNatClampNeg l5)) then 63 else 51, [(0, .ref 112), (1, .int l1), (2, .int l2), (3, .long l3), (5, .int l5)], [])) rfl ?_
        refine e_if (fun c7 => ?_) (fun c7 => ?_)
        · replace hb := i_pos c7 hb
          refine e_k 2 (f' := (5, [(5, .int (l5 + 1)), (0, .ref 112), (1, .int l1), (2, .int l2), (3, .long l3)], [])) rfl ?_
          refine e_sub (ls := [(0, .ref 112), (1, .int l1), (2, .int l2), (3, .long l3), (5, .int (l5 + 1))]) rfl ⟨rfl, rfl, rfl, rfl, rfl, trivial⟩ ?_
          exact ih  hb K
        · replace hb := i_neg c7 hb
          refine e_k 2 (f' := (53, [(0, .ref 112), (1, .int l1), (2, .int l2), (3, .long l3), (5, .int l5)], [.ref 112, .long l3])) rfl ?_
          refine r_getr rfl (x_ltn rfl) rfl rfl ?_
          refine e_k 1 (f' := (58, [(0, .ref 112), (1, .int l1), (2, .int l2), (3, .long l3), (5, .int l5)], [.int l5, .ref 159, .long l3])) rfl ?_
          obtain ⟨o8, hb⟩ := ob_in hb
          refine r_lald rfl rfl (x_ltn rfl) rfl o8 ?_
          obtain ⟨v9, I9, J9, h9, hb⟩ := oc_call hb
          refine r_cs (z := m_Model_plus) (As := [.long l3, .long (J 159 (Int32.toNatClampNeg l5))]) (rest := []) rfl rfl rfl rfl rfl rfl (E_Model_plus  h9 ⟨_, rfl, ?_⟩)
          refine e_k 3 (f' := (5, [(5, .int (l5 + 1)), (3, .long v9), (0, .ref 112), (1, .int l1), (2, .int l2)], [])) rfl ?_
          refine e_sub (ls := [(0, .ref 112), (1, .int l1), (2, .int l2), (3, .long v9), (5, .int (l5 + 1))]) rfl ⟨rfl, rfl, rfl, rfl, rfl, trivial⟩ ?_
          exact ih  hb K
theorem E_Model_error {p2 : Int32} {p3 : Int32} {X : MX} {I : MI} {J : MJ} {v : Int64} {I' : MI} {J' : MJ} (hb : f_Model_error p2 p3 I J = some (v, I', J')) (K : P (.inl (some (.long v))) (hX X I' J')) : am_E (gG L xs) (d + 2) m_Model_error (0, lv_args 0 [.ref 112, .int p2, .int p3], []) (hX X I J) P := by
  unfold f_Model_error at hb
  refine e_k 4 (f' := (5, [(5, .int 0), (3, .long 0), (0, .ref 112), (1, .int p2), (2, .int p3)], [])) rfl ?_
  refine e_sub (ls := [(0, .ref 112), (1, .int p2), (2, .int p3), (3, .long 0), (5, .int 0)]) rfl ⟨rfl, rfl, rfl, rfl, rfl, trivial⟩ ?_
  obtain ⟨u10, I10, J10, h10, hb⟩ := oc_call hb
  refine E_Model_error_5  gF  h10 ?_
  refine e_k 1 (f' := (70, [(3, .long u10)], [.long u10])) rfl ?_
  obtain ⟨rfl, rfl, rfl⟩ := s_inj hb
  exact e_r rfl rfl K
end AUTO
