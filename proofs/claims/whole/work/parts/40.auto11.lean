section AUTO
variable {L : Nat} {xs : Nat → Int32} {d : Nat} {P : am_R → am_H → Prop}
theorem E_Errors_wipe {X : MX} {I : MI} {J : MJ} {v : Unit} {I' : MI} {J' : MJ} (hb : f_Errors_wipe  I J = some (v, I', J')) (K : P (.inl (none)) (hX X I' J')) : am_E (gG L xs) d m_Errors_wipe (0, lv_args 0 [.ref 103], []) (hX X I J) P := by
  unfold f_Errors_wipe at hb
  refine e_k 2 (f' := (2, [(0, .ref 103)], [.int 0, .ref 103])) rfl ?_
  obtain ⟨I1, eI1, hb⟩ := p_nm hb
  refine r_puti' rfl (x_ltn rfl) rfl rfl eI1 ?_
  obtain ⟨rfl, rfl, rfl⟩ := s_inj hb
  exact e_r rfl rfl K
theorem E_Errors_add {p2 : Int32} {p3 : Int32} {p4 : Int32} {p5 : Int64} {X : MX} {I : MI} {J : MJ} {v : Int32} {I' : MI} {J' : MJ} (hb : f_Errors_add p2 p3 p4 p5 I J = some (v, I', J')) (K : P (.inl (some (.int v))) (hX X I' J')) : am_E (gG L xs) d m_Errors_add (0, lv_args 0 [.ref 103, .int p2, .int p3, .int p4, .long p5], []) (hX X I J) P := by
  unfold f_Errors_add at hb
  refine e_k 1 (f' := (1, [(0, .ref 103), (1, .int p2), (2, .int p3), (3, .int p4), (4, .long p5)], [.ref 103])) rfl ?_
  refine r_geti rfl (x_ltn rfl) rfl rfl ?_
  refine e_k 1 (f' := (if (I 103 4) < 0 then 16 else 7, [(0, .ref 103), (1, .int p2), (2, .int p3), (3, .int p4), (4, .long p5)], [])) rfl ?_
  refine e_if (fun c1 => ?_) (fun c1 => ?_)
  · replace hb := i_pos c1 hb
    refine e_k 1 (f' := (17, [(0, .ref 103), (1, .int p2), (2, .int p3), (3, .int p4), (4, .long p5)], [.int 0])) rfl ?_
    obtain ⟨rfl, rfl, rfl⟩ := s_inj hb
    exact e_r rfl rfl K
  · replace hb := i_neg c1 hb
    refine e_k 1 (f' := (8, [(0, .ref 103), (1, .int p2), (2, .int p3), (3, .int p4), (4, .long p5)], [.ref 103])) rfl ?_
    refine r_geti rfl (x_ltn rfl) rfl rfl ?_
    refine e_k 2 (f' := (if (I 103 4) < 40 then 18 else 16, [(0, .ref 103), (1, .int p2), (2, .int p3), (3, .int p4), (4, .long p5)], [])) rfl ?_
    refine e_if (fun c2 => ?_) (fun c2 => ?_)
    · replace hb := i_pos c2 hb
      refine e_k 1 (f' := (19, [(0, .ref 103), (1, .int p2), (2, .int p3), (3, .int p4), (4, .long p5)], [.ref 103])) rfl ?_
      refine r_getr rfl (x_ltn rfl) rfl rfl ?_
      refine e_k 1 (f' := (23, [(0, .ref 103), (1, .int p2), (2, .int p3), (3, .int p4), (4, .long p5)], [.ref 103, .ref 104])) rfl ?_
      refine r_geti rfl (x_ltn rfl) rfl rfl ?_
      refine e_k 1 (f' := (27, [(0, .ref 103), (1, .int p2), (2, .int p3), (3, .int p4), (4, .long p5)], [.int p2, .int (I 103 4), .ref 104])) rfl ?_
      obtain ⟨o3, hb⟩ := ob_in hb
      obtain ⟨I4, eI4, hb⟩ := p_nm hb
      refine r_iast' rfl (x_ltn rfl) rfl o3 eI4 ?_
      refine e_k 1 (f' := (29, [(0, .ref 103), (1, .int p2), (2, .int p3), (3, .int p4), (4, .long p5)], [.ref 103])) rfl ?_
      refine r_getr rfl (x_ltn rfl) rfl rfl ?_
      refine e_k 1 (f' := (33, [(0, .ref 103), (1, .int p2), (2, .int p3), (3, .int p4), (4, .long p5)], [.ref 103, .ref 105])) rfl ?_
      refine r_geti rfl (x_ltn rfl) rfl rfl ?_
      refine e_k 1 (f' := (37, [(0, .ref 103), (1, .int p2), (2, .int p3), (3, .int p4), (4, .long p5)], [.int p3, .int (I4 103 4), .ref 105])) rfl ?_
      obtain ⟨o5, hb⟩ := ob_in hb
      obtain ⟨I6, eI6, hb⟩ := p_nm hb
      refine r_iast' rfl (x_ltn rfl) rfl o5 eI6 ?_
      refine e_k 1 (f' := (39, [(0, .ref 103), (1, .int p2), (2, .int p3), (3, .int p4), (4, .long p5)], [.ref 103])) rfl ?_
      refine r_getr rfl (x_ltn rfl) rfl rfl ?_
      refine e_k 1 (f' := (43, [(0, .ref 103), (1, .int p2), (2, .int p3), (3, .int p4), (4, .long p5)], [.ref 103, .ref 106])) rfl ?_
      refine r_geti rfl (x_ltn rfl) rfl rfl ?_
      refine e_k 1 (f' := (47, [(0, .ref 103), (1, .int p2), (2, .int p3), (3, .int p4), (4, .long p5)], [.int p4, .int (I6 103 4), .ref 106])) rfl ?_
      obtain ⟨o7, hb⟩ := ob_in hb
      obtain ⟨I8, eI8, hb⟩ := p_nm hb
      refine r_iast' rfl (x_ltn rfl) rfl o7 eI8 ?_
      refine e_k 1 (f' := (49, [(0, .ref 103), (1, .int p2), (2, .int p3), (3, .int p4), (4, .long p5)], [.ref 103])) rfl ?_
      refine r_getr rfl (x_ltn rfl) rfl rfl ?_
      refine e_k 1 (f' := (53, [(0, .ref 103), (1, .int p2), (2, .int p3), (3, .int p4), (4, .long p5)], [.ref 103, .ref 107])) rfl ?_
      refine r_geti rfl (x_ltn rfl) rfl rfl ?_
      refine e_k 1 (f' := (58, [(0, .ref 103), (1, .int p2), (2, .int p3), (3, .int p4), (4, .long p5)], [.long p5, .int (I8 103 4), .ref 107])) rfl ?_
      obtain ⟨o9, hb⟩ := ob_in hb
      obtain ⟨J10, eJ10, hb⟩ := p_nm hb
      refine r_last' rfl (x_ltn rfl) rfl o9 eJ10 ?_
      refine e_k 2 (f' := (61, [(0, .ref 103), (1, .int p2), (2, .int p3), (3, .int p4), (4, .long p5)], [.ref 103, .ref 103])) rfl ?_
      refine r_geti rfl (x_ltn rfl) rfl rfl ?_
      refine e_k 2 (f' := (66, [(0, .ref 103), (1, .int p2), (2, .int p3), (3, .int p4), (4, .long p5)], [.int ((I8 103 4) + 1), .ref 103])) rfl ?_
      obtain ⟨I11, eI11, hb⟩ := p_nm hb
      refine r_puti' rfl (x_ltn rfl) rfl rfl eI11 ?_
      refine e_k 1 (f' := (70, [(0, .ref 103), (1, .int p2), (2, .int p3), (3, .int p4), (4, .long p5)], [.int 1])) rfl ?_
      obtain ⟨rfl, rfl, rfl⟩ := s_inj hb
      exact e_r rfl rfl K
    · replace hb := i_neg c2 hb
      refine e_k 1 (f' := (17, [(0, .ref 103), (1, .int p2), (2, .int p3), (3, .int p4), (4, .long p5)], [.int 0])) rfl ?_
      obtain ⟨rfl, rfl, rfl⟩ := s_inj hb
      exact e_r rfl rfl K
theorem E_Errors_sum_6 {X : MX} {p2 : Int32} {p3 : Int32} {p4 : Int32} : ∀ (fu : Nat) {l1 : Int32} {l2 : Int32} {l3 : Int32} {l4 : Int64} {l6 : Int32} {I : MI} {J : MJ} {r : (Int64)} {I' : MI} {J' : MJ}, f_Errors_sum_6 p2 p3 p4 fu l1 l2 l3 l4 l6 I J = some (r, I', J') → am_E (gG L xs) (d + 1) m_Errors_sum (75, [(4, .long r)], []) (hX X I' J') P → am_E (gG L xs) (d + 1) m_Errors_sum (6, [(0, .ref 103), (1, .int l1), (2, .int l2), (3, .int l3), (4, .long l4), (6, .int l6)], []) (hX X I J) P := by
  intro fu
  induction fu with
  | zero =>
    intros
    rename_i hb _
    cases hb
  | succ fu ih =>
    intro l1 l2 l3 l4 l6 I J r I' J' hb K
    unfold f_Errors_sum_6 at hb
    refine e_k 2 (f' := (9, [(0, .ref 103), (1, .int l1), (2, .int l2), (3, .int l3), (4, .long l4), (6, .int l6)], [.ref 103, .int l6])) rfl ?_
    refine r_geti rfl (x_ltn rfl) rfl rfl ?_
    refine e_k 1 (f' := (if (I 103 4) ≤ l6 then 75 else 15, [(0, .ref 103), (1, .int l1), (2, .int l2), (3, .int l3), (4, .long l4), (6, .int l6)], [])) rfl ?_
    refine e_if (fun c1 => ?_) (fun c1 => ?_)
    · replace hb := i_pos c1 hb
      refine e_sub (ls := [(4, .long l4)]) rfl ⟨rfl, trivial⟩ ?_
      obtain ⟨rfl, rfl, rfl⟩ := s_inj hb
      exact K
    · replace hb := i_neg c1 hb
      refine e_k 3 (f' := (if 40 ≤ l6 then 75 else 22, [(0, .ref 103), (1, .int l1), (2, .int l2), (3, .int l3), (4, .long l4), (6, .int l6)], [])) rfl ?_
      refine e_if (fun c2 => ?_) (fun c2 => ?_)
      · replace hb := i_pos c2 hb
        refine e_sub (ls := [(4, .long l4)]) rfl ⟨rfl, trivial⟩ ?_
        obtain ⟨rfl, rfl, rfl⟩ := s_inj hb
        exact K
      · replace hb := i_neg c2 hb
        refine e_k 1 (f' := (23, [(0, .ref 103), (1, .int l1), (2, .int l2), (3, .int l3), (4, .long l4), (6, .int l6)], [.ref 103])) rfl ?_
        refine r_getr rfl (x_ltn rfl) rfl rfl ?_
        refine e_k 1 (f' := (28, [(0, .ref 103), (1, .int l1), (2, .int l2), (3, .int l3), (4, .long l4), (6, .int l6)], [.int l6, .ref 104])) rfl ?_
        obtain ⟨o3, hb⟩ := ob_in hb
        refine r_iald rfl rfl (x_ltn rfl) rfl o3 ?_
        refine e_k 2 (f' := (if ¬ (I 104 (Int32.toNatClampNeg l6)) = l1 then 69 else 33, [(0, .ref 103), (1, .int l1), (2, .int l2), (3, .int l3), (4, .long l4), (6, .int l6)], [])) rfl ?_
        refine e_if (fun c4 => ?_) (fun c4 => ?_)
        · replace hb := i_pos c4 hb
          refine e_k 2 (f' := (6, [(6, .int (l6 + 1)), (0, .ref 103), (1, .int l1), (2, .int l2), (3, .int l3), (4, .long l4)], [])) rfl ?_
          refine e_sub (ls := [(0, .ref 103), (1, .int l1), (2, .int l2), (3, .int l3), (4, .long l4), (6, .int (l6 + 1))]) rfl ⟨rfl, rfl, rfl, rfl, rfl, rfl, trivial⟩ ?_
          exact ih  hb K
        · replace hb := i_neg c4 hb
          refine e_k 1 (f' := (34, [(0, .ref 103), (1, .int l1), (2, .int l2), (3, .int l3), (4, .long l4), (6, .int l6)], [.ref 103])) rfl ?_
          refine r_getr rfl (x_ltn rfl) rfl rfl ?_
          refine e_k 1 (f' := (39, [(0, .ref 103), (1, .int l1), (2, .int l2), (3, .int l3), (4, .long l4), (6, .int l6)], [.int l6, .ref 105])) rfl ?_
          obtain ⟨o5, hb⟩ := ob_in hb
          refine r_iald rfl rfl (x_ltn rfl) rfl o5 ?_
          refine e_k 2 (f' := (if ¬ (I 105 (Int32.toNatClampNeg l6)) = l2 then 69 else 44, [(0, .ref 103), (1, .int l1), (2, .int l2), (3, .int l3), (4, .long l4), (6, .int l6)], [])) rfl ?_
          refine e_if (fun c6 => ?_) (fun c6 => ?_)
          · replace hb := i_pos c6 hb
            refine e_k 2 (f' := (6, [(6, .int (l6 + 1)), (0, .ref 103), (1, .int l1), (2, .int l2), (3, .int l3), (4, .long l4)], [])) rfl ?_
            refine e_sub (ls := [(0, .ref 103), (1, .int l1), (2, .int l2), (3, .int l3), (4, .long l4), (6, .int (l6 + 1))]) rfl ⟨rfl, rfl, rfl, rfl, rfl, rfl, trivial⟩ ?_
            exact ih  hb K
          · replace hb := i_neg c6 hb
            refine e_k 1 (f' := (45, [(0, .ref 103), (1, .int l1), (2, .int l2), (3, .int l3), (4, .long l4), (6, .int l6)], [.ref 103])) rfl ?_
            refine r_getr rfl (x_ltn rfl) rfl rfl ?_
            refine e_k 1 (f' := (50, [(0, .ref 103), (1, .int l1), (2, .int l2), (3, .int l3), (4, .long l4), (6, .int l6)], [.int l6, .ref 106])) rfl ?_
            obtain ⟨o7, hb⟩ := ob_in hb
            refine r_iald rfl rfl (x_ltn rfl) rfl o7 ?_
            refine e_k 2 (f' := (if ¬ (I 106 (Int32.toNatClampNeg l6)) = l3 then 69 else 55, [(0, .ref 103), (1, .int l1), (2, .int l2), (3, .int l3), (4, .long l4), (6, .int l6)], [])) rfl ?_
            refine e_if (fun c8 => ?_) (fun c8 => ?_)
            · replace hb := i_pos c8 hb
              refine e_k 2 (f' := (6, [(6, .int (l6 + 1)), (0, .ref 103), (1, .int l1), (2, .int l2), (3, .int l3), (4, .long l4)], [])) rfl ?_
              refine e_sub (ls := [(0, .ref 103), (1, .int l1), (2, .int l2), (3, .int l3), (4, .long l4), (6, .int (l6 + 1))]) rfl ⟨rfl, rfl, rfl, rfl, rfl, rfl, trivial⟩ ?_
              exact ih  hb K
            · replace hb := i_neg c8 hb
              refine e_k 2 (f' := (58, [(0, .ref 103), (1, .int l1), (2, .int l2), (3, .int l3), (4, .long l4), (6, .int l6)], [.ref 103, .long l4])) rfl ?_
              refine r_getr rfl (x_ltn rfl) rfl rfl ?_
              refine e_k 1 (f' := (63, [(0, .ref 103), (1, .int l1), (2, .int l2), (3, .int l3), (4, .long l4), (6, .int l6)], [.int l6, .ref 107, .long l4])) rfl ?_
              obtain ⟨o9, hb⟩ := ob_in hb
              refine r_lald rfl rfl (x_ltn rfl) rfl o9 ?_
              obtain ⟨v10, I10, J10, h10, hb⟩ := oc_call hb
              refine r_cs (z := m_Sh_plus) (As := [.long l4, .long (J 107 (Int32.toNatClampNeg l6))]) (rest := []) rfl rfl rfl rfl rfl rfl (E_Sh_plus  h10 ⟨_, rfl, ?_⟩)
              refine e_k 3 (f' := (6, [(6, .int (l6 + 1)), (4, .long v10), (0, .ref 103), (1, .int l1), (2, .int l2), (3, .int l3)], [])) rfl ?_
              refine e_sub (ls := [(0, .ref 103), (1, .int l1), (2, .int l2), (3, .int l3), (4, .long v10), (6, .int (l6 + 1))]) rfl ⟨rfl, rfl, rfl, rfl, rfl, rfl, trivial⟩ ?_
              exact ih  hb K
theorem E_Errors_sum {p2 : Int32} {p3 : Int32} {p4 : Int32} {X : MX} {I : MI} {J : MJ} {v : Int64} {I' : MI} {J' : MJ} (hb : f_Errors_sum p2 p3 p4 I J = some (v, I', J')) (K : P (.inl (some (.long v))) (hX X I' J')) : am_E (gG L xs) (d + 1) m_Errors_sum (0, lv_args 0 [.ref 103, .int p2, .int p3, .int p4], []) (hX X I J) P := by
  unfold f_Errors_sum at hb
  refine e_k 4 (f' := (6, [(6, .int 0), (4, .long 0), (0, .ref 103), (1, .int p2), (2, .int p3), (3, .int p4)], [])) rfl ?_
  refine e_sub (ls := [(0, .ref 103), (1, .int p2), (2, .int p3), (3, .int p4), (4, .long 0), (6, .int 0)]) rfl ⟨rfl, rfl, rfl, rfl, rfl, rfl, trivial⟩ ?_
  obtain ⟨u11, I11, J11, h11, hb⟩ := oc_call hb
  refine E_Errors_sum_6  gF  h11 ?_
  refine e_k 1 (f' := (77, [(4, .long u11)], [.long u11])) rfl ?_
  obtain ⟨rfl, rfl, rfl⟩ := s_inj hb
  exact e_r rfl rfl K
theorem E_Hall_has {p2 : Int32} {X : MX} {I : MI} {J : MJ} {v : Int32} {I' : MI} {J' : MJ} (hb : f_Hall_has p2 I J = some (v, I', J')) (K : P (.inl (some (.int v))) (hX X I' J')) : am_E (gG L xs) d m_Hall_has (0, lv_args 0 [.ref 14, .int p2], []) (hX X I J) P := by
  unfold f_Hall_has at hb
  refine e_k 2 (f' := (if p2 < 0 then 25 else 4, [(0, .ref 14), (1, .int p2)], [])) rfl ?_
  refine e_if (fun c1 => ?_) (fun c1 => ?_)
  · replace hb := i_pos c1 hb
    refine e_k 1 (f' := (26, [(0, .ref 14), (1, .int p2)], [.int 0])) rfl ?_
    obtain ⟨rfl, rfl, rfl⟩ := s_inj hb
    exact e_r rfl rfl K
  · replace hb := i_neg c1 hb
    refine e_k 2 (f' := (6, [(0, .ref 14), (1, .int p2)], [.ref 14, .int p2])) rfl ?_
    refine r_geti rfl (x_ltn rfl) rfl rfl ?_
    refine e_k 1 (f' := (if (I 14 6) ≤ p2 then 25 else 12, [(0, .ref 14), (1, .int p2)], [])) rfl ?_
    refine e_if (fun c2 => ?_) (fun c2 => ?_)
    · replace hb := i_pos c2 hb
      refine e_k 1 (f' := (26, [(0, .ref 14), (1, .int p2)], [.int 0])) rfl ?_
      obtain ⟨rfl, rfl, rfl⟩ := s_inj hb
      exact e_r rfl rfl K
    · replace hb := i_neg c2 hb
      refine e_k 2 (f' := (14, [(0, .ref 14), (1, .int p2)], [.ref 14, .int p2])) rfl ?_
      refine r_getr rfl (x_ltn rfl) rfl rfl ?_
      refine r_alen rfl rfl (x_ltn rfl) rfl rfl ?_
      refine e_k 1 (f' := (if (nI 4) ≤ p2 then 25 else 21, [(0, .ref 14), (1, .int p2)], [])) rfl ?_
      refine e_if (fun c3 => ?_) (fun c3 => ?_)
      · replace hb := i_pos c3 hb
        refine e_k 1 (f' := (26, [(0, .ref 14), (1, .int p2)], [.int 0])) rfl ?_
        obtain ⟨rfl, rfl, rfl⟩ := s_inj hb
        exact e_r rfl rfl K
      · replace hb := i_neg c3 hb
        refine e_k 2 (f' := (26, [(0, .ref 14), (1, .int p2)], [.int 1])) rfl ?_
        obtain ⟨rfl, rfl, rfl⟩ := s_inj hb
        exact e_r rfl rfl K
theorem E_Hall_left {w2 : Nat} {p3 : Int32} {X : MX} {I : MI} {J : MJ} {v : Int32} {I' : MI} {J' : MJ} (hw_w2 : w2 < 4) (hb : f_Hall_left w2 p3 I J = some (v, I', J')) (K : P (.inl (some (.int v))) (hX X I' J')) : am_E (gG L xs) d m_Hall_left (0, lv_args 0 [.ref 14, .ref (18 + 21 * w2), .int p3], []) (hX X I J) P := by
  unfold f_Hall_left at hb
  refine e_k 2 (f' := (if p3 < 0 then 28 else 4, [(0, .ref 14), (1, .ref (18 + 21 * w2)), (2, .int p3)], [])) rfl ?_
  refine e_if (fun c1 => ?_) (fun c1 => ?_)
  · replace hb := i_pos c1 hb
    refine e_k 1 (f' := (29, [(0, .ref 14), (1, .ref (18 + 21 * w2)), (2, .int p3)], [.int 0])) rfl ?_
    obtain ⟨rfl, rfl, rfl⟩ := s_inj hb
    exact e_r rfl rfl K
  · replace hb := i_neg c1 hb
    refine e_k 3 (f' := (if 3 ≤ p3 then 28 else 9, [(0, .ref 14), (1, .ref (18 + 21 * w2)), (2, .int p3)], [])) rfl ?_
    refine e_if (fun c2 => ?_) (fun c2 => ?_)
    · replace hb := i_pos c2 hb
      refine e_k 1 (f' := (29, [(0, .ref 14), (1, .ref (18 + 21 * w2)), (2, .int p3)], [.int 0])) rfl ?_
      obtain ⟨rfl, rfl, rfl⟩ := s_inj hb
      exact e_r rfl rfl K
    · replace hb := i_neg c2 hb
      refine e_k 1 (f' := (10, [(0, .ref 14), (1, .ref (18 + 21 * w2)), (2, .int p3)], [.ref 14])) rfl ?_
      refine r_getr rfl (x_ltn rfl) rfl rfl ?_
      refine e_k 1 (f' := (14, [(0, .ref 14), (1, .ref (18 + 21 * w2)), (2, .int p3)], [.int p3, .ref 102])) rfl ?_
      obtain ⟨o3, hb⟩ := ob_in hb
      refine r_iald rfl rfl (x_ltn rfl) rfl o3 ?_
      refine e_k 1 (f' := (16, [(0, .ref 14), (1, .ref (18 + 21 * w2)), (2, .int p3)], [.ref (18 + 21 * w2), .int (I 102 (Int32.toNatClampNeg p3))])) rfl ?_
      refine r_getr rfl (x_ltp hw_w2 (by decide)) (sS_p0 hw_w2) rfl ?_
      refine r_getr rfl (x_ltp hw_w2 (by decide)) (sS_p11 hw_w2) rfl ?_
      refine e_k 1 (f' := (23, [(0, .ref 14), (1, .ref (18 + 21 * w2)), (2, .int p3)], [.int p3, .ref (31 + 21 * w2), .int (I 102 (Int32.toNatClampNeg p3))])) rfl ?_
      obtain ⟨o4, hb⟩ := ob_in hb
      refine r_iald rfl (x_t0 hw_w2 (by decide)) (x_ltp hw_w2 (by decide)) (sS_p13 hw_w2) o4 ?_
      refine e_k 2 (f' := (29, [(0, .ref 14), (1, .ref (18 + 21 * w2)), (2, .int p3)], [.int ((I 102 (Int32.toNatClampNeg p3)) - (I (31 + 21 * w2) (Int32.toNatClampNeg p3)))])) rfl ?_
      obtain ⟨rfl, rfl, rfl⟩ := s_inj hb
      exact e_r rfl rfl K
theorem E_Hall_evenOut_4 {X : MX} {p2 : Int32} : ∀ (fu : Nat) {l1 : Int32} {l2 : Int32} {l3 : Int32} {I : MI} {J : MJ} {r : (Int32)} {I' : MI} {J' : MJ}, f_Hall_evenOut_4 p2 fu l1 l2 l3 I J = some (r, I', J') → am_E (gG L xs) d m_Hall_evenOut (37, [(0, .ref 14), (1, .int l1), (2, .int r)], []) (hX X I' J') P → am_E (gG L xs) d m_Hall_evenOut (4, [(0, .ref 14), (1, .int l1), (2, .int l2), (3, .int l3)], []) (hX X I J) P := by
  intro fu
  induction fu with
  | zero =>
    intros
    rename_i hb _
    cases hb
  | succ fu ih =>
    intro l1 l2 l3 I J r I' J' hb K
    unfold f_Hall_evenOut_4 at hb
    refine e_k 2 (f' := (6, [(0, .ref 14), (1, .int l1), (2, .int l2), (3, .int l3)], [.ref 14, .int l3])) rfl ?_
    refine r_geti rfl (x_ltn rfl) rfl rfl ?_
    refine e_k 1 (f' := (if (I 14 6) ≤ l3 then 37 else 12, [(0, .ref 14), (1, .int l1), (2, .int l2), (3, .int l3)], [])) rfl ?_
    refine e_if (fun c1 => ?_) (fun c1 => ?_)
    · replace hb := i_pos c1 hb
      refine e_sub (ls := [(0, .ref 14), (1, .int l1), (2, .int l2)]) rfl ⟨rfl, rfl, rfl, trivial⟩ ?_
      obtain ⟨rfl, rfl, rfl⟩ := s_inj hb
      exact K
    · replace hb := i_neg c1 hb
      refine e_k 2 (f' := (14, [(0, .ref 14), (1, .int l1), (2, .int l2), (3, .int l3)], [.ref 14, .int l2])) rfl ?_
      refine r_getr rfl (x_ltn rfl) rfl rfl ?_
      refine e_k 1 (f' := (18, [(0, .ref 14), (1, .int l1), (2, .int l2), (3, .int l3)], [.int l3, .ref 17, .int l2])) rfl ?_
      obtain ⟨o2, hb⟩ := ob_in hb
      refine r_pald rfl o2 ?_
      refine r_getr rfl (x_ltp (vp_lt o2) (by decide)) (sS_p0 (vp_lt o2)) rfl ?_
      refine r_getr rfl (x_ltp (vp_lt o2) (by decide)) (sS_p11 (vp_lt o2)) rfl ?_
      refine e_k 1 (f' := (26, [(0, .ref 14), (1, .int l1), (2, .int l2), (3, .int l3)], [.int l1, .ref (31 + 21 * (Int32.toNatClampNeg l3)), .int l2])) rfl ?_
      obtain ⟨o3, hb⟩ := ob_in hb
      refine r_iald rfl (x_t0 (vp_lt o2) (by decide)) (x_ltp (vp_lt o2) (by decide)) (sS_p13 (vp_lt o2)) o3 ?_
      refine e_k 2 (f' := (31, [(2, .int (if l2 < (I (31 + 21 * (Int32.toNatClampNeg l3)) (Int32.toNatClampNeg l1)) then (I (31 + 21 * (Int32.toNatClampNeg l3)) (Int32.toNatClampNeg l1)) else l2)), (0, .ref 14), (1, .int l1), (3, .int l3)], [])) rfl ?_
      obtain ⟨x4, ex4, hb⟩ := p_nm hb
      rw [← ex4]
      refine e_k 2 (f' := (4, [(3, .int (l3 + 1)), (2, .int x4), (0, .ref 14), (1, .int l1)], [])) rfl ?_
      refine e_sub (ls := [(0, .ref 14), (1, .int l1), (2, .int x4), (3, .int (l3 + 1))]) rfl ⟨rfl, rfl, rfl, rfl, trivial⟩ ?_
      exact ih  hb K
theorem E_Hall_evenOut_39 {X : MX} {p2 : Int32} : ∀ (fu : Nat) {l1 : Int32} {l2 : Int32} {l3 : Int32} {I : MI} {J : MJ} {r : (Unit)} {I' : MI} {J' : MJ}, f_Hall_evenOut_39 p2 fu l1 l2 l3 I J = some (r, I', J') → am_E (gG L xs) d m_Hall_evenOut (68, [], []) (hX X I' J') P → am_E (gG L xs) d m_Hall_evenOut (39, [(0, .ref 14), (1, .int l1), (2, .int l2), (3, .int l3)], []) (hX X I J) P := by
  intro fu
  induction fu with
  | zero =>
    intros
    rename_i hb _
    cases hb
  | succ fu ih =>
    intro l1 l2 l3 I J r I' J' hb K
    unfold f_Hall_evenOut_39 at hb
    refine e_k 2 (f' := (41, [(0, .ref 14), (1, .int l1), (2, .int l2), (3, .int l3)], [.ref 14, .int l3])) rfl ?_
    refine r_geti rfl (x_ltn rfl) rfl rfl ?_
    refine e_k 1 (f' := (if (I 14 6) ≤ l3 then 68 else 47, [(0, .ref 14), (1, .int l1), (2, .int l2), (3, .int l3)], [])) rfl ?_
    refine e_if (fun c6 => ?_) (fun c6 => ?_)
    · replace hb := i_pos c6 hb
      refine e_sub (ls := []) rfl ⟨⟩ ?_
      obtain ⟨rfl, rfl, rfl⟩ := s_inj hb
      exact K
    · replace hb := i_neg c6 hb
      refine e_k 1 (f' := (48, [(0, .ref 14), (1, .int l1), (2, .int l2), (3, .int l3)], [.ref 14])) rfl ?_
      refine r_getr rfl (x_ltn rfl) rfl rfl ?_
      refine e_k 1 (f' := (52, [(0, .ref 14), (1, .int l1), (2, .int l2), (3, .int l3)], [.int l3, .ref 17])) rfl ?_
      obtain ⟨o7, hb⟩ := ob_in hb
      refine r_pald rfl o7 ?_
      refine r_getr rfl (x_ltp (vp_lt o7) (by decide)) (sS_p0 (vp_lt o7)) rfl ?_
      refine r_getr rfl (x_ltp (vp_lt o7) (by decide)) (sS_p11 (vp_lt o7)) rfl ?_
      refine e_k 2 (f' := (61, [(0, .ref 14), (1, .int l1), (2, .int l2), (3, .int l3)], [.int l2, .int l1, .ref (31 + 21 * (Int32.toNatClampNeg l3))])) rfl ?_
      obtain ⟨o8, hb⟩ := ob_in hb
      obtain ⟨I9, eI9, hb⟩ := p_nm hb
      refine r_iast' rfl (x_ltp (vp_lt o7) (by decide)) (sS_p13 (vp_lt o7)) o8 eI9 ?_
      refine e_k 2 (f' := (39, [(3, .int (l3 + 1)), (0, .ref 14), (1, .int l1), (2, .int l2)], [])) rfl ?_
      refine e_sub (ls := [(0, .ref 14), (1, .int l1), (2, .int l2), (3, .int (l3 + 1))]) rfl ⟨rfl, rfl, rfl, rfl, trivial⟩ ?_
      exact ih  hb K
theorem E_Hall_evenOut {p2 : Int32} {X : MX} {I : MI} {J : MJ} {v : Unit} {I' : MI} {J' : MJ} (hb : f_Hall_evenOut p2 I J = some (v, I', J')) (K : P (.inl (none)) (hX X I' J')) : am_E (gG L xs) d m_Hall_evenOut (0, lv_args 0 [.ref 14, .int p2], []) (hX X I J) P := by
  unfold f_Hall_evenOut at hb
  refine e_k 4 (f' := (4, [(3, .int 0), (2, .int 0), (0, .ref 14), (1, .int p2)], [])) rfl ?_
  refine e_sub (ls := [(0, .ref 14), (1, .int p2), (2, .int 0), (3, .int 0)]) rfl ⟨rfl, rfl, rfl, rfl, trivial⟩ ?_
  obtain ⟨u5, I5, J5, h5, hb⟩ := oc_call hb
  refine E_Hall_evenOut_4  gF  h5 ?_
  refine e_k 2 (f' := (39, [(3, .int 0), (0, .ref 14), (1, .int p2), (2, .int u5)], [])) rfl ?_
  refine e_sub (ls := [(0, .ref 14), (1, .int p2), (2, .int u5), (3, .int 0)]) rfl ⟨rfl, rfl, rfl, rfl, trivial⟩ ?_
  obtain ⟨u10, I10, J10, h10, hb⟩ := oc_call hb
  refine E_Hall_evenOut_39  gF  h10 ?_
  obtain ⟨rfl, rfl, rfl⟩ := s_inj hb
  exact e_r rfl rfl K
theorem E_Hall_firstArrayAt {w1 : Nat} {p2 : Int32} {X : MX} {I : MI} {J : MJ} {v : Int32} {I' : MI} {J' : MJ} (hw_w1 : w1 < 4) (hb : f_Hall_firstArrayAt w1 p2 I J = some (v, I', J')) (K : P (.inl (some (.int v))) (hX X I' J')) : am_E (gG L xs) d m_Hall_firstArrayAt (0, lv_args 0 [.ref (18 + 21 * w1), .int p2], []) (hX X I J) P := by
  unfold f_Hall_firstArrayAt at hb
  refine e_k 1 (f' := (1, [(0, .ref (18 + 21 * w1)), (1, .int p2)], [.ref (18 + 21 * w1)])) rfl ?_
  refine r_geti rfl (x_ltp hw_w1 (by decide)) (sS_p0 hw_w1) rfl ?_
  refine e_k 3 (f' := (if ¬ p2 = 26 then 14 else 10, [(0, .ref (18 + 21 * w1)), (1, .int p2)], [.int (I (18 + 21 * w1) 8)])) rfl ?_
  refine e_if (fun c1 => ?_) (fun c1 => ?_)
  · replace hb := i_pos c1 hb
    refine e_k 2 (f' := (16, [(0, .ref (18 + 21 * w1)), (1, .int p2)], [.int ((I (18 + 21 * w1) 8) + 2)])) rfl ?_
    obtain ⟨rfl, rfl, rfl⟩ := s_inj hb
    exact e_r rfl rfl K
  · replace hb := i_neg c1 hb
    refine e_k 3 (f' := (16, [(0, .ref (18 + 21 * w1)), (1, .int p2)], [.int ((I (18 + 21 * w1) 8) + 1)])) rfl ?_
    obtain ⟨rfl, rfl, rfl⟩ := s_inj hb
    exact e_r rfl rfl K
theorem E_Hall_numbersOf {p1 : Int32} {X : MX} {I : MI} {J : MJ} {v : Int32} {I' : MI} {J' : MJ} (hb : f_Hall_numbersOf p1 I J = some (v, I', J')) (K : P (.inl (some (.int v))) (hX X I' J')) : am_E (gG L xs) d m_Hall_numbersOf (0, lv_args 0 [.int p1], []) (hX X I J) P := by
  unfold f_Hall_numbersOf at hb
  refine e_k 2 (f' := (am_sw p1 41 [(7, 36), (25, 38), (26, 38)], [(0, .int p1)], [])) rfl ?_
  by_cases c1 : p1 = 7
  · rw [show am_sw p1 41 [(7, 36), (25, 38), (26, 38)] = 36 from by rw [c1]; rfl]
    replace hb := i_pos c1 hb
    refine e_k 1 (f' := (37, [(0, .int p1)], [.int 2])) rfl ?_
    obtain ⟨rfl, rfl, rfl⟩ := s_inj hb
    exact e_r rfl rfl K
  replace hb := i_neg c1 hb
  by_cases c2 : p1 = 25 ∨ p1 = 26
  · rw [show am_sw p1 41 [(7, 36), (25, 38), (26, 38)] = 38 from by rcases c2 with c2 | c2 <;> rw [c2] <;> rfl]
    replace hb := i_pos c2 hb
    refine e_k 1 (f' := (40, [(0, .int p1)], [.int 32])) rfl ?_
    obtain ⟨rfl, rfl, rfl⟩ := s_inj hb
    exact e_r rfl rfl K
  replace hb := i_neg c2 hb
  rw [show am_sw p1 41 [(7, 36), (25, 38), (26, 38)] = 41 from (am_swd c1 (am_swd (fun e => c2 (Or.inl e)) (am_swd (fun e => c2 (Or.inr e)) rfl)))]
  refine e_k 1 (f' := (42, [(0, .int p1)], [.int 1])) rfl ?_
  obtain ⟨rfl, rfl, rfl⟩ := s_inj hb
  exact e_r rfl rfl K
theorem E_Hall_use {w1 : Nat} {p2 : Int32} {X : MX} {I : MI} {J : MJ} {v : Unit} {I' : MI} {J' : MJ} (hw_w1 : w1 < 4) (hb : f_Hall_use w1 p2 I J = some (v, I', J')) (K : P (.inl (none)) (hX X I' J')) : am_E (gG L xs) d m_Hall_use (0, lv_args 0 [.ref (29 + 21 * w1), .int p2], []) (hX X I J) P := by
  unfold f_Hall_use at hb
  refine e_k 2 (f' := (am_sw p2 115 [(7, 75), (10, 88), (13, 52), (25, 101), (26, 101)], [(0, .ref (29 + 21 * w1)), (1, .int p2)], [])) rfl ?_
  by_cases c1 : p2 = 7
  · rw [show am_sw p2 115 [(7, 75), (10, 88), (13, 52), (25, 101), (26, 101)] = 75 from by rw [c1]; rfl]
    replace hb := i_pos c1 hb
    refine e_k 1 (f' := (76, [(0, .ref (29 + 21 * w1)), (1, .int p2)], [.ref (29 + 21 * w1)])) rfl ?_
    refine r_getr rfl (x_ltp hw_w1 (by decide)) (sS_p11 hw_w1) rfl ?_
    refine e_k 2 (f' := (81, [(0, .ref (29 + 21 * w1)), (1, .int p2)], [.int 0, .ref (31 + 21 * w1), .int 0, .ref (31 + 21 * w1)])) rfl ?_
    obtain ⟨o2, hb⟩ := ob_in hb
    refine r_iald rfl (x_t0 hw_w1 (by decide)) (x_ltp hw_w1 (by decide)) (sS_p13 hw_w1) o2 ?_
    refine e_k 2 (f' := (84, [(0, .ref (29 + 21 * w1)), (1, .int p2)], [.int ((I (31 + 21 * w1) (Int32.toNatClampNeg 0)) + 1), .int 0, .ref (31 + 21 * w1)])) rfl ?_
    obtain ⟨o3, hb⟩ := ob_in hb
    obtain ⟨I4, eI4, hb⟩ := p_nm hb
    refine r_iast' rfl (x_ltp hw_w1 (by decide)) (sS_p13 hw_w1) o3 eI4 ?_
    refine e_k 1 (f' := (115, [(0, .ref (29 + 21 * w1)), (1, .int p2)], [])) rfl ?_
    obtain ⟨rfl, rfl, rfl⟩ := s_inj hb
    exact e_r rfl rfl K
  replace hb := i_neg c1 hb
  by_cases c5 : p2 = 10
  · rw [show am_sw p2 115 [(7, 75), (10, 88), (13, 52), (25, 101), (26, 101)] = 88 from by rw [c5]; rfl]
    replace hb := i_pos c5 hb
    refine e_k 1 (f' := (89, [(0, .ref (29 + 21 * w1)), (1, .int p2)], [.ref (29 + 21 * w1)])) rfl ?_
    refine r_getr rfl (x_ltp hw_w1 (by decide)) (sS_p11 hw_w1) rfl ?_
    refine e_k 2 (f' := (94, [(0, .ref (29 + 21 * w1)), (1, .int p2)], [.int 1, .ref (31 + 21 * w1), .int 1, .ref (31 + 21 * w1)])) rfl ?_
    obtain ⟨o6, hb⟩ := ob_in hb
    refine r_iald rfl (x_t0 hw_w1 (by decide)) (x_ltp hw_w1 (by decide)) (sS_p13 hw_w1) o6 ?_
    refine e_k 2 (f' := (97, [(0, .ref (29 + 21 * w1)), (1, .int p2)], [.int ((I (31 + 21 * w1) (Int32.toNatClampNeg 1)) + 1), .int 1, .ref (31 + 21 * w1)])) rfl ?_
    obtain ⟨o7, hb⟩ := ob_in hb
    obtain ⟨I8, eI8, hb⟩ := p_nm hb
    refine r_iast' rfl (x_ltp hw_w1 (by decide)) (sS_p13 hw_w1) o7 eI8 ?_
    refine e_k 1 (f' := (115, [(0, .ref (29 + 21 * w1)), (1, .int p2)], [])) rfl ?_
    obtain ⟨rfl, rfl, rfl⟩ := s_inj hb
    exact e_r rfl rfl K
  replace hb := i_neg c5 hb
  by_cases c9 : p2 = 13
  · rw [show am_sw p2 115 [(7, 75), (10, 88), (13, 52), (25, 101), (26, 101)] = 52 from by rw [c9]; rfl]
    replace hb := i_pos c9 hb
    refine e_k 2 (f' := (54, [(0, .ref (29 + 21 * w1)), (1, .int p2)], [.ref (29 + 21 * w1), .ref (29 + 21 * w1)])) rfl ?_
    refine r_geti rfl (x_ltp hw_w1 (by decide)) (sS_p11 hw_w1) rfl ?_
    refine e_k 2 (f' := (59, [(0, .ref (29 + 21 * w1)), (1, .int p2)], [.int ((I (29 + 21 * w1) 3) + 1), .ref (29 + 21 * w1)])) rfl ?_
    obtain ⟨I10, eI10, hb⟩ := p_nm hb
    refine r_puti' rfl (x_ltp hw_w1 (by decide)) (sS_p11 hw_w1) rfl eI10 ?_
    refine e_k 2 (f' := (64, [(0, .ref (29 + 21 * w1)), (1, .int p2)], [.ref (29 + 21 * w1), .ref (29 + 21 * w1)])) rfl ?_
    refine r_geti rfl (x_ltp hw_w1 (by decide)) (sS_p11 hw_w1) rfl ?_
    refine e_k 2 (f' := (69, [(0, .ref (29 + 21 * w1)), (1, .int p2)], [.int ((I10 (29 + 21 * w1) 5) + 1), .ref (29 + 21 * w1)])) rfl ?_
    obtain ⟨I11, eI11, hb⟩ := p_nm hb
    refine r_puti' rfl (x_ltp hw_w1 (by decide)) (sS_p11 hw_w1) rfl eI11 ?_
    refine e_k 1 (f' := (115, [(0, .ref (29 + 21 * w1)), (1, .int p2)], [])) rfl ?_
    obtain ⟨rfl, rfl, rfl⟩ := s_inj hb
    exact e_r rfl rfl K
  replace hb := i_neg c9 hb
  by_cases c12 : p2 = 25 ∨ p2 = 26
  · rw [show am_sw p2 115 [(7, 75), (10, 88), (13, 52), (25, 101), (26, 101)] = 101 from by rcases c12 with c12 | c12 <;> rw [c12] <;> rfl]
    replace hb := i_pos c12 hb
    refine e_k 1 (f' := (102, [(0, .ref (29 + 21 * w1)), (1, .int p2)], [.ref (29 + 21 * w1)])) rfl ?_
    refine r_getr rfl (x_ltp hw_w1 (by decide)) (sS_p11 hw_w1) rfl ?_
    refine e_k 2 (f' := (107, [(0, .ref (29 + 21 * w1)), (1, .int p2)], [.int 0, .ref (31 + 21 * w1), .int 0, .ref (31 + 21 * w1)])) rfl ?_
    obtain ⟨o13, hb⟩ := ob_in hb
    refine r_iald rfl (x_t0 hw_w1 (by decide)) (x_ltp hw_w1 (by decide)) (sS_p13 hw_w1) o13 ?_
    refine e_k 2 (f' := (111, [(0, .ref (29 + 21 * w1)), (1, .int p2)], [.int ((I (31 + 21 * w1) (Int32.toNatClampNeg 0)) + 16), .int 0, .ref (31 + 21 * w1)])) rfl ?_
    obtain ⟨o14, hb⟩ := ob_in hb
    obtain ⟨I15, eI15, hb⟩ := p_nm hb
    refine r_iast' rfl (x_ltp hw_w1 (by decide)) (sS_p13 hw_w1) o14 eI15 ?_
    refine e_k 1 (f' := (115, [(0, .ref (29 + 21 * w1)), (1, .int p2)], [])) rfl ?_
    obtain ⟨rfl, rfl, rfl⟩ := s_inj hb
    exact e_r rfl rfl K
  replace hb := i_neg c12 hb
  rw [show am_sw p2 115 [(7, 75), (10, 88), (13, 52), (25, 101), (26, 101)] = 115 from (am_swd c1 (am_swd c5 (am_swd c9 (am_swd (fun e => c12 (Or.inl e)) (am_swd (fun e => c12 (Or.inr e)) rfl)))))]
  obtain ⟨rfl, rfl, rfl⟩ := s_inj hb
  exact e_r rfl rfl K
theorem E_Hall_sends_7 {X : MX} {w2 : Nat} (hw_w2 : w2 < 4) : ∀ (fu : Nat) {l3 : Int32} {I : MI} {J : MJ} {r : (Int32 ⊕ (Unit))} {I' : MI} {J' : MJ}, f_Hall_sends_7 w2 fu l3 I J = some (r, I', J') → (∀ v, r = .inl v → P (.inl (some (.int v))) (hX X I' J')) → (∀ u, r = .inr u → am_E (gG L xs) d m_Hall_sends (36, [(0, .ref 14), (1, .ref (18 + 21 * w2)), (2, .ref (32 + 21 * w2))], []) (hX X I' J') P) → am_E (gG L xs) d m_Hall_sends (7, [(0, .ref 14), (1, .ref (18 + 21 * w2)), (2, .ref (32 + 21 * w2)), (3, .int l3)], []) (hX X I J) P := by
  intro fu
  induction fu with
  | zero =>
    intros
    rename_i hb _ _
    cases hb
  | succ fu ih =>
    intro l3 I J r I' J' hb K1 K2
    unfold f_Hall_sends_7 at hb
    refine e_k 2 (f' := (9, [(0, .ref 14), (1, .ref (18 + 21 * w2)), (2, .ref (32 + 21 * w2)), (3, .int l3)], [.ref 14, .int l3])) rfl ?_
    refine r_geti rfl (x_ltn rfl) rfl rfl ?_
    refine e_k 1 (f' := (if (I 14 6) ≤ l3 then 36 else 15, [(0, .ref 14), (1, .ref (18 + 21 * w2)), (2, .ref (32 + 21 * w2)), (3, .int l3)], [])) rfl ?_
    refine e_if (fun c1 => ?_) (fun c1 => ?_)
    · replace hb := i_pos c1 hb
      refine e_sub (ls := [(0, .ref 14), (1, .ref (18 + 21 * w2)), (2, .ref (32 + 21 * w2))]) rfl ⟨rfl, rfl, rfl, trivial⟩ ?_
      obtain ⟨rfl, rfl, rfl⟩ := s_inj hb
      exact K2 _ rfl
    · replace hb := i_neg c1 hb
      refine e_k 1 (f' := (16, [(0, .ref 14), (1, .ref (18 + 21 * w2)), (2, .ref (32 + 21 * w2)), (3, .int l3)], [.ref (32 + 21 * w2)])) rfl ?_
      refine r_getr rfl (x_ltp hw_w2 (by decide)) (sS_p14 hw_w2) rfl ?_
      refine e_k 1 (f' := (20, [(0, .ref 14), (1, .ref (18 + 21 * w2)), (2, .ref (32 + 21 * w2)), (3, .int l3)], [.int l3, .ref (33 + 21 * w2)])) rfl ?_
      obtain ⟨o2, hb⟩ := ob_in hb
      refine r_iald rfl (x_t0 hw_w2 (by decide)) (x_ltp hw_w2 (by decide)) (sS_p15 hw_w2) o2 ?_
      refine e_k 1 (f' := (22, [(0, .ref 14), (1, .ref (18 + 21 * w2)), (2, .ref (32 + 21 * w2)), (3, .int l3)], [.ref 14, .int (I (33 + 21 * w2) (Int32.toNatClampNeg l3))])) rfl ?_
      refine r_geti rfl (x_ltn rfl) rfl rfl ?_
      refine e_k 1 (f' := (if (I (33 + 21 * w2) (Int32.toNatClampNeg l3)) < (I 14 8) then 30 else 28, [(0, .ref 14), (1, .ref (18 + 21 * w2)), (2, .ref (32 + 21 * w2)), (3, .int l3)], [])) rfl ?_
      refine e_if (fun c3 => ?_) (fun c3 => ?_)
      · replace hb := i_pos c3 hb
        refine e_k 2 (f' := (7, [(3, .int (l3 + 1)), (0, .ref 14), (1, .ref (18 + 21 * w2)), (2, .ref (32 + 21 * w2))], [])) rfl ?_
        refine e_sub (ls := [(0, .ref 14), (1, .ref (18 + 21 * w2)), (2, .ref (32 + 21 * w2)), (3, .int (l3 + 1))]) rfl ⟨rfl, rfl, rfl, rfl, trivial⟩ ?_
        exact ih  hb K1 K2
      · replace hb := i_neg c3 hb
        refine e_k 1 (f' := (29, [(0, .ref 14), (1, .ref (18 + 21 * w2)), (2, .ref (32 + 21 * w2)), (3, .int l3)], [.int 0])) rfl ?_
        obtain ⟨rfl, rfl, rfl⟩ := s_inj hb
        exact e_r rfl rfl (K1 _ rfl)
theorem E_Hall_sends_38 {X : MX} {w2 : Nat} (hw_w2 : w2 < 4) : ∀ (fu : Nat) {l3 : Int32} {I : MI} {J : MJ} {r : (Unit)} {I' : MI} {J' : MJ}, f_Hall_sends_38 w2 fu l3 I J = some (r, I', J') → am_E (gG L xs) d m_Hall_sends (70, [(2, .ref (32 + 21 * w2))], []) (hX X I' J') P → am_E (gG L xs) d m_Hall_sends (38, [(0, .ref 14), (1, .ref (18 + 21 * w2)), (2, .ref (32 + 21 * w2)), (3, .int l3)], []) (hX X I J) P := by
  intro fu
  induction fu with
  | zero =>
    intros
    rename_i hb _
    cases hb
  | succ fu ih =>
    intro l3 I J r I' J' hb K
    unfold f_Hall_sends_38 at hb
    refine e_k 2 (f' := (40, [(0, .ref 14), (1, .ref (18 + 21 * w2)), (2, .ref (32 + 21 * w2)), (3, .int l3)], [.ref 14, .int l3])) rfl ?_
    refine r_geti rfl (x_ltn rfl) rfl rfl ?_
    refine e_k 1 (f' := (if (I 14 6) ≤ l3 then 70 else 46, [(0, .ref 14), (1, .ref (18 + 21 * w2)), (2, .ref (32 + 21 * w2)), (3, .int l3)], [])) rfl ?_
    refine e_if (fun c5 => ?_) (fun c5 => ?_)
    · replace hb := i_pos c5 hb
      refine e_sub (ls := [(2, .ref (32 + 21 * w2))]) rfl ⟨rfl, trivial⟩ ?_
      obtain ⟨rfl, rfl, rfl⟩ := s_inj hb
      exact K
    · replace hb := i_neg c5 hb
      refine e_k 2 (f' := (48, [(0, .ref 14), (1, .ref (18 + 21 * w2)), (2, .ref (32 + 21 * w2)), (3, .int l3)], [.ref (18 + 21 * w2), .int l3])) rfl ?_
      refine r_geti rfl (x_ltp hw_w2 (by decide)) (sS_p0 hw_w2) rfl ?_
      refine e_k 1 (f' := (if l3 = (I (18 + 21 * w2) 0) then 64 else 54, [(0, .ref 14), (1, .ref (18 + 21 * w2)), (2, .ref (32 + 21 * w2)), (3, .int l3)], [])) rfl ?_
      refine e_if (fun c6 => ?_) (fun c6 => ?_)
      · replace hb := i_pos c6 hb
        refine e_k 2 (f' := (38, [(3, .int (l3 + 1)), (0, .ref 14), (1, .ref (18 + 21 * w2)), (2, .ref (32 + 21 * w2))], [])) rfl ?_
        refine e_sub (ls := [(0, .ref 14), (1, .ref (18 + 21 * w2)), (2, .ref (32 + 21 * w2)), (3, .int (l3 + 1))]) rfl ⟨rfl, rfl, rfl, rfl, trivial⟩ ?_
        exact ih  hb K
      · replace hb := i_neg c6 hb
        refine e_k 1 (f' := (55, [(0, .ref 14), (1, .ref (18 + 21 * w2)), (2, .ref (32 + 21 * w2)), (3, .int l3)], [.ref (32 + 21 * w2)])) rfl ?_
        refine r_getr rfl (x_ltp hw_w2 (by decide)) (sS_p14 hw_w2) rfl ?_
        refine e_k 2 (f' := (60, [(0, .ref 14), (1, .ref (18 + 21 * w2)), (2, .ref (32 + 21 * w2)), (3, .int l3)], [.int l3, .ref (33 + 21 * w2), .int l3, .ref (33 + 21 * w2)])) rfl ?_
        obtain ⟨o7, hb⟩ := ob_in hb
        refine r_iald rfl (x_t0 hw_w2 (by decide)) (x_ltp hw_w2 (by decide)) (sS_p15 hw_w2) o7 ?_
        refine e_k 2 (f' := (63, [(0, .ref 14), (1, .ref (18 + 21 * w2)), (2, .ref (32 + 21 * w2)), (3, .int l3)], [.int ((I (33 + 21 * w2) (Int32.toNatClampNeg l3)) + 1), .int l3, .ref (33 + 21 * w2)])) rfl ?_
        obtain ⟨o8, hb⟩ := ob_in hb
        obtain ⟨I9, eI9, hb⟩ := p_nm hb
        refine r_iast' rfl (x_ltp hw_w2 (by decide)) (sS_p15 hw_w2) o8 eI9 ?_
        refine e_k 2 (f' := (38, [(3, .int (l3 + 1)), (0, .ref 14), (1, .ref (18 + 21 * w2)), (2, .ref (32 + 21 * w2))], [])) rfl ?_
        refine e_sub (ls := [(0, .ref 14), (1, .ref (18 + 21 * w2)), (2, .ref (32 + 21 * w2)), (3, .int (l3 + 1))]) rfl ⟨rfl, rfl, rfl, rfl, trivial⟩ ?_
        exact ih  hb K
theorem E_Hall_sends {w2 : Nat} {X : MX} {I : MI} {J : MJ} {v : Int32} {I' : MI} {J' : MJ} (hw_w2 : w2 < 4) (hb : f_Hall_sends w2 I J = some (v, I', J')) (K : P (.inl (some (.int v))) (hX X I' J')) : am_E (gG L xs) d m_Hall_sends (0, lv_args 0 [.ref 14, .ref (18 + 21 * w2)], []) (hX X I J) P := by
  unfold f_Hall_sends at hb
  refine e_k 1 (f' := (1, [(0, .ref 14), (1, .ref (18 + 21 * w2))], [.ref (18 + 21 * w2)])) rfl ?_
  refine r_getr rfl (x_ltp hw_w2 (by decide)) (sS_p0 hw_w2) rfl ?_
  refine e_k 3 (f' := (7, [(3, .int 0), (2, .ref (32 + 21 * w2)), (0, .ref 14), (1, .ref (18 + 21 * w2))], [])) rfl ?_
  refine e_sub (ls := [(0, .ref 14), (1, .ref (18 + 21 * w2)), (2, .ref (32 + 21 * w2)), (3, .int 0)]) rfl ⟨rfl, rfl, rfl, rfl, trivial⟩ ?_
  obtain ⟨q4, I4, J4, h4, hb⟩ := oc_call hb
  refine E_Hall_sends_7 hw_w2 gF  h4 (fun y4 ey4 => ?_) (fun u4 ey4 => ?_)
  · subst ey4
    replace hb := oe_l hb
    obtain ⟨rfl, rfl, rfl⟩ := s_inj hb
    exact K
  · subst ey4
    replace hb := oe_r hb
    refine e_k 2 (f' := (38, [(3, .int 0), (0, .ref 14), (1, .ref (18 + 21 * w2)), (2, .ref (32 + 21 * w2))], [])) rfl ?_
    refine e_sub (ls := [(0, .ref 14), (1, .ref (18 + 21 * w2)), (2, .ref (32 + 21 * w2)), (3, .int 0)]) rfl ⟨rfl, rfl, rfl, rfl, trivial⟩ ?_
    obtain ⟨u10, I10, J10, h10, hb⟩ := oc_call hb
    refine E_Hall_sends_38 hw_w2 gF  h10 ?_
    refine e_k 2 (f' := (72, [(2, .ref (32 + 21 * w2))], [.ref (32 + 21 * w2), .ref (32 + 21 * w2)])) rfl ?_
    refine r_geti rfl (x_ltp hw_w2 (by decide)) (sS_p14 hw_w2) rfl ?_
    refine e_k 2 (f' := (77, [(2, .ref (32 + 21 * w2))], [.int ((I10 (32 + 21 * w2) 5) + 1), .ref (32 + 21 * w2)])) rfl ?_
    obtain ⟨I11, eI11, hb⟩ := p_nm hb
    refine r_puti' rfl (x_ltp hw_w2 (by decide)) (sS_p14 hw_w2) rfl eI11 ?_
    refine e_k 1 (f' := (81, [(2, .ref (32 + 21 * w2))], [.int 1])) rfl ?_
    obtain ⟨rfl, rfl, rfl⟩ := s_inj hb
    exact e_r rfl rfl K
theorem E_Hall_receives_8 {X : MX} {w2 : Nat} {p3 : Int32} (hw_w2 : w2 < 4) : ∀ (fu : Nat) {l2 : Int32} {l4 : Int32} {I : MI} {J : MJ} {r : (Int32 ⊕ (Unit))} {I' : MI} {J' : MJ}, f_Hall_receives_8 w2 p3 fu l2 l4 I J = some (r, I', J') → (∀ v, r = .inl v → P (.inl (some (.int v))) (hX X I' J')) → (∀ u, r = .inr u → am_E (gG L xs) d m_Hall_receives (56, [(0, .ref 14), (1, .ref (18 + 21 * w2)), (2, .int l2), (3, .ref (32 + 21 * w2))], []) (hX X I' J') P) → am_E (gG L xs) d m_Hall_receives (8, [(0, .ref 14), (1, .ref (18 + 21 * w2)), (2, .int l2), (3, .ref (32 + 21 * w2)), (4, .int l4)], []) (hX X I J) P := by
  intro fu
  induction fu with
  | zero =>
    intros
    rename_i hb _ _
    cases hb
  | succ fu ih =>
    intro l2 l4 I J r I' J' hb K1 K2
    unfold f_Hall_receives_8 at hb
    refine e_k 2 (f' := (11, [(0, .ref 14), (1, .ref (18 + 21 * w2)), (2, .int l2), (3, .ref (32 + 21 * w2)), (4, .int l4)], [.ref 14, .int l4])) rfl ?_
    refine r_geti rfl (x_ltn rfl) rfl rfl ?_
    refine e_k 1 (f' := (if (I 14 6) ≤ l4 then 56 else 17, [(0, .ref 14), (1, .ref (18 + 21 * w2)), (2, .int l2), (3, .ref (32 + 21 * w2)), (4, .int l4)], [])) rfl ?_
    refine e_if (fun c1 => ?_) (fun c1 => ?_)
    · replace hb := i_pos c1 hb
      refine e_sub (ls := [(0, .ref 14), (1, .ref (18 + 21 * w2)), (2, .int l2), (3, .ref (32 + 21 * w2))]) rfl ⟨rfl, rfl, rfl, rfl, trivial⟩ ?_
      obtain ⟨rfl, rfl, rfl⟩ := s_inj hb
      exact K2 _ rfl
    · replace hb := i_neg c1 hb
      refine e_k 2 (f' := (20, [(0, .ref 14), (1, .ref (18 + 21 * w2)), (2, .int l2), (3, .ref (32 + 21 * w2)), (4, .int l4)], [.ref (18 + 21 * w2), .int l4])) rfl ?_
      refine r_geti rfl (x_ltp hw_w2 (by decide)) (sS_p0 hw_w2) rfl ?_
      refine e_k 1 (f' := (if l4 = (I (18 + 21 * w2) 0) then 50 else 26, [(0, .ref 14), (1, .ref (18 + 21 * w2)), (2, .int l2), (3, .ref (32 + 21 * w2)), (4, .int l4)], [])) rfl ?_
      refine e_if (fun c2 => ?_) (fun c2 => ?_)
      · replace hb := i_pos c2 hb
        refine e_k 2 (f' := (8, [(4, .int (l4 + 1)), (0, .ref 14), (1, .ref (18 + 21 * w2)), (2, .int l2), (3, .ref (32 + 21 * w2))], [])) rfl ?_
        refine e_sub (ls := [(0, .ref 14), (1, .ref (18 + 21 * w2)), (2, .int l2), (3, .ref (32 + 21 * w2)), (4, .int (l4 + 1))]) rfl ⟨rfl, rfl, rfl, rfl, rfl, trivial⟩ ?_
        exact ih  hb K1 K2
      · replace hb := i_neg c2 hb
        refine e_k 3 (f' := (if l2 = (-1) then 37 else 31, [(0, .ref 14), (1, .ref (18 + 21 * w2)), (2, .int l2), (3, .ref (32 + 21 * w2)), (4, .int l4)], [])) rfl ?_
        refine e_if (fun c3 => ?_) (fun c3 => ?_)
        · replace hb := i_pos c3 hb
          refine e_k 1 (f' := (38, [(0, .ref 14), (1, .ref (18 + 21 * w2)), (2, .int l2), (3, .ref (32 + 21 * w2)), (4, .int l4)], [.ref (32 + 21 * w2)])) rfl ?_
          refine r_getr rfl (x_ltp hw_w2 (by decide)) (sS_p14 hw_w2) rfl ?_
          refine e_k 1 (f' := (43, [(0, .ref 14), (1, .ref (18 + 21 * w2)), (2, .int l2), (3, .ref (32 + 21 * w2)), (4, .int l4)], [.int l4, .ref (35 + 21 * w2)])) rfl ?_
          obtain ⟨o4, hb⟩ := ob_in hb
          refine r_iald rfl (x_t0 hw_w2 (by decide)) (x_ltp hw_w2 (by decide)) (sS_p17 hw_w2) o4 ?_
          refine e_k 2 (f' := (if 1 ≤ (I (35 + 21 * w2) (Int32.toNatClampNeg l4)) then 50 else 48, [(0, .ref 14), (1, .ref (18 + 21 * w2)), (2, .int l2), (3, .ref (32 + 21 * w2)), (4, .int l4)], [])) rfl ?_
          refine e_if (fun c5 => ?_) (fun c5 => ?_)
          · replace hb := i_pos c5 hb
            refine e_k 2 (f' := (8, [(4, .int (l4 + 1)), (0, .ref 14), (1, .ref (18 + 21 * w2)), (2, .int l2), (3, .ref (32 + 21 * w2))], [])) rfl ?_
            refine e_sub (ls := [(0, .ref 14), (1, .ref (18 + 21 * w2)), (2, .int l2), (3, .ref (32 + 21 * w2)), (4, .int (l4 + 1))]) rfl ⟨rfl, rfl, rfl, rfl, rfl, trivial⟩ ?_
            exact ih  hb K1 K2
          · replace hb := i_neg c5 hb
            refine e_k 1 (f' := (49, [(0, .ref 14), (1, .ref (18 + 21 * w2)), (2, .int l2), (3, .ref (32 + 21 * w2)), (4, .int l4)], [.int 0])) rfl ?_
            obtain ⟨rfl, rfl, rfl⟩ := s_inj hb
            exact e_r rfl rfl (K1 _ rfl)
        · replace hb := i_neg c3 hb
          refine e_k 3 (f' := (if ¬ l2 = l4 then 50 else 37, [(0, .ref 14), (1, .ref (18 + 21 * w2)), (2, .int l2), (3, .ref (32 + 21 * w2)), (4, .int l4)], [])) rfl ?_
          refine e_if (fun c6 => ?_) (fun c6 => ?_)
          · replace hb := i_pos c6 hb
            refine e_k 2 (f' := (8, [(4, .int (l4 + 1)), (0, .ref 14), (1, .ref (18 + 21 * w2)), (2, .int l2), (3, .ref (32 + 21 * w2))], [])) rfl ?_
            refine e_sub (ls := [(0, .ref 14), (1, .ref (18 + 21 * w2)), (2, .int l2), (3, .ref (32 + 21 * w2)), (4, .int (l4 + 1))]) rfl ⟨rfl, rfl, rfl, rfl, rfl, trivial⟩ ?_
            exact ih  hb K1 K2
          · replace hb := i_neg c6 hb
            refine e_k 1 (f' := (38, [(0, .ref 14), (1, .ref (18 + 21 * w2)), (2, .int l2), (3, .ref (32 + 21 * w2)), (4, .int l4)], [.ref (32 + 21 * w2)])) rfl ?_
            refine r_getr rfl (x_ltp hw_w2 (by decide)) (sS_p14 hw_w2) rfl ?_
            refine e_k 1 (f' := (43, [(0, .ref 14), (1, .ref (18 + 21 * w2)), (2, .int l2), (3, .ref (32 + 21 * w2)), (4, .int l4)], [.int l4, .ref (35 + 21 * w2)])) rfl ?_
            obtain ⟨o7, hb⟩ := ob_in hb
            refine r_iald rfl (x_t0 hw_w2 (by decide)) (x_ltp hw_w2 (by decide)) (sS_p17 hw_w2) o7 ?_
            refine e_k 2 (f' := (if 1 ≤ (I (35 + 21 * w2) (Int32.toNatClampNeg l4)) then 50 else 48, [(0, .ref 14), (1, .ref (18 + 21 * w2)), (2, .int l2), (3, .ref (32 + 21 * w2)), (4, .int l4)], [])) rfl ?_
            refine e_if (fun c8 => ?_) (fun c8 => ?_)
            · replace hb := i_pos c8 hb
              refine e_k 2 (f' := (8, [(4, .int (l4 + 1)), (0, .ref 14), (1, .ref (18 + 21 * w2)), (2, .int l2), (3, .ref (32 + 21 * w2))], [])) rfl ?_
              refine e_sub (ls := [(0, .ref 14), (1, .ref (18 + 21 * w2)), (2, .int l2), (3, .ref (32 + 21 * w2)), (4, .int (l4 + 1))]) rfl ⟨rfl, rfl, rfl, rfl, rfl, trivial⟩ ?_
              exact ih  hb K1 K2
            · replace hb := i_neg c8 hb
              refine e_k 1 (f' := (49, [(0, .ref 14), (1, .ref (18 + 21 * w2)), (2, .int l2), (3, .ref (32 + 21 * w2)), (4, .int l4)], [.int 0])) rfl ?_
              obtain ⟨rfl, rfl, rfl⟩ := s_inj hb
              exact e_r rfl rfl (K1 _ rfl)
theorem E_Hall_receives_59 {X : MX} {w2 : Nat} {p3 : Int32} (hw_w2 : w2 < 4) : ∀ (fu : Nat) {l2 : Int32} {l4 : Int32} {I : MI} {J : MJ} {r : (Unit)} {I' : MI} {J' : MJ}, f_Hall_receives_59 w2 p3 fu l2 l4 I J = some (r, I', J') → am_E (gG L xs) d m_Hall_receives (105, [(3, .ref (32 + 21 * w2))], []) (hX X I' J') P → am_E (gG L xs) d m_Hall_receives (59, [(0, .ref 14), (1, .ref (18 + 21 * w2)), (2, .int l2), (3, .ref (32 + 21 * w2)), (4, .int l4)], []) (hX X I J) P := by
  intro fu
  induction fu with
  | zero =>
    intros
    rename_i hb _
    cases hb
  | succ fu ih =>
    intro l2 l4 I J r I' J' hb K
    unfold f_Hall_receives_59 at hb
    refine e_k 2 (f' := (62, [(0, .ref 14), (1, .ref (18 + 21 * w2)), (2, .int l2), (3, .ref (32 + 21 * w2)), (4, .int l4)], [.ref 14, .int l4])) rfl ?_
    refine r_geti rfl (x_ltn rfl) rfl rfl ?_
    refine e_k 1 (f' := (if (I 14 6) ≤ l4 then 105 else 68, [(0, .ref 14), (1, .ref (18 + 21 * w2)), (2, .int l2), (3, .ref (32 + 21 * w2)), (4, .int l4)], [])) rfl ?_
    refine e_if (fun c10 => ?_) (fun c10 => ?_)
    · replace hb := i_pos c10 hb
      refine e_sub (ls := [(3, .ref (32 + 21 * w2))]) rfl ⟨rfl, trivial⟩ ?_
      obtain ⟨rfl, rfl, rfl⟩ := s_inj hb
      exact K
    · replace hb := i_neg c10 hb
      refine e_k 2 (f' := (71, [(0, .ref 14), (1, .ref (18 + 21 * w2)), (2, .int l2), (3, .ref (32 + 21 * w2)), (4, .int l4)], [.ref (18 + 21 * w2), .int l4])) rfl ?_
      refine r_geti rfl (x_ltp hw_w2 (by decide)) (sS_p0 hw_w2) rfl ?_
      refine e_k 1 (f' := (if l4 = (I (18 + 21 * w2) 0) then 99 else 77, [(0, .ref 14), (1, .ref (18 + 21 * w2)), (2, .int l2), (3, .ref (32 + 21 * w2)), (4, .int l4)], [])) rfl ?_
      refine e_if (fun c11 => ?_) (fun c11 => ?_)
      · replace hb := i_pos c11 hb
        refine e_k 2 (f' := (59, [(4, .int (l4 + 1)), (0, .ref 14), (1, .ref (18 + 21 * w2)), (2, .int l2), (3, .ref (32 + 21 * w2))], [])) rfl ?_
        refine e_sub (ls := [(0, .ref 14), (1, .ref (18 + 21 * w2)), (2, .int l2), (3, .ref (32 + 21 * w2)), (4, .int (l4 + 1))]) rfl ⟨rfl, rfl, rfl, rfl, rfl, trivial⟩ ?_
        exact ih  hb K
      · replace hb := i_neg c11 hb
        refine e_k 3 (f' := (if l2 = (-1) then 88 else 82, [(0, .ref 14), (1, .ref (18 + 21 * w2)), (2, .int l2), (3, .ref (32 + 21 * w2)), (4, .int l4)], [])) rfl ?_
        refine e_if (fun c12 => ?_) (fun c12 => ?_)
        · replace hb := i_pos c12 hb
          refine e_k 1 (f' := (89, [(0, .ref 14), (1, .ref (18 + 21 * w2)), (2, .int l2), (3, .ref (32 + 21 * w2)), (4, .int l4)], [.ref (32 + 21 * w2)])) rfl ?_
          refine r_getr rfl (x_ltp hw_w2 (by decide)) (sS_p14 hw_w2) rfl ?_
          refine e_k 2 (f' := (95, [(0, .ref 14), (1, .ref (18 + 21 * w2)), (2, .int l2), (3, .ref (32 + 21 * w2)), (4, .int l4)], [.int l4, .ref (35 + 21 * w2), .int l4, .ref (35 + 21 * w2)])) rfl ?_
          obtain ⟨o13, hb⟩ := ob_in hb
          refine r_iald rfl (x_t0 hw_w2 (by decide)) (x_ltp hw_w2 (by decide)) (sS_p17 hw_w2) o13 ?_
          refine e_k 2 (f' := (98, [(0, .ref 14), (1, .ref (18 + 21 * w2)), (2, .int l2), (3, .ref (32 + 21 * w2)), (4, .int l4)], [.int ((I (35 + 21 * w2) (Int32.toNatClampNeg l4)) - 1), .int l4, .ref (35 + 21 * w2)])) rfl ?_
          obtain ⟨o14, hb⟩ := ob_in hb
          obtain ⟨I15, eI15, hb⟩ := p_nm hb
          refine r_iast' rfl (x_ltp hw_w2 (by decide)) (sS_p17 hw_w2) o14 eI15 ?_
          refine e_k 2 (f' := (59, [(4, .int (l4 + 1)), (0, .ref 14), (1, .ref (18 + 21 * w2)), (2, .int l2), (3, .ref (32 + 21 * w2))], [])) rfl ?_
          refine e_sub (ls := [(0, .ref 14), (1, .ref (18 + 21 * w2)), (2, .int l2), (3, .ref (32 + 21 * w2)), (4, .int (l4 + 1))]) rfl ⟨rfl, rfl, rfl, rfl, rfl, trivial⟩ ?_
          exact ih  hb K
        · replace hb := i_neg c12 hb
          refine e_k 3 (f' := (if ¬ l2 = l4 then 99 else 88, [(0, .ref 14), (1, .ref (18 + 21 * w2)), (2, .int l2), (3, .ref (32 + 21 * w2)), (4, .int l4)], [])) rfl ?_
          refine e_if (fun c16 => ?_) (fun c16 => ?_)
          · replace hb := i_pos c16 hb
            refine e_k 2 (f' := (59, [(4, .int (l4 + 1)), (0, .ref 14), (1, .ref (18 + 21 * w2)), (2, .int l2), (3, .ref (32 + 21 * w2))], [])) rfl ?_
            refine e_sub (ls := [(0, .ref 14), (1, .ref (18 + 21 * w2)), (2, .int l2), (3, .ref (32 + 21 * w2)), (4, .int (l4 + 1))]) rfl ⟨rfl, rfl, rfl, rfl, rfl, trivial⟩ ?_
            exact ih  hb K
          · replace hb := i_neg c16 hb
            refine e_k 1 (f' := (89, [(0, .ref 14), (1, .ref (18 + 21 * w2)), (2, .int l2), (3, .ref (32 + 21 * w2)), (4, .int l4)], [.ref (32 + 21 * w2)])) rfl ?_
            refine r_getr rfl (x_ltp hw_w2 (by decide)) (sS_p14 hw_w2) rfl ?_
            refine e_k 2 (f' := (95, [(0, .ref 14), (1, .ref (18 + 21 * w2)), (2, .int l2), (3, .ref (32 + 21 * w2)), (4, .int l4)], [.int l4, .ref (35 + 21 * w2), .int l4, .ref (35 + 21 * w2)])) rfl ?_
            obtain ⟨o17, hb⟩ := ob_in hb
            refine r_iald rfl (x_t0 hw_w2 (by decide)) (x_ltp hw_w2 (by decide)) (sS_p17 hw_w2) o17 ?_
            refine e_k 2 (f' := (98, [(0, .ref 14), (1, .ref (18 + 21 * w2)), (2, .int l2), (3, .ref (32 + 21 * w2)), (4, .int l4)], [.int ((I (35 + 21 * w2) (Int32.toNatClampNeg l4)) - 1), .int l4, .ref (35 + 21 * w2)])) rfl ?_
            obtain ⟨o18, hb⟩ := ob_in hb
            obtain ⟨I19, eI19, hb⟩ := p_nm hb
            refine r_iast' rfl (x_ltp hw_w2 (by decide)) (sS_p17 hw_w2) o18 eI19 ?_
            refine e_k 2 (f' := (59, [(4, .int (l4 + 1)), (0, .ref 14), (1, .ref (18 + 21 * w2)), (2, .int l2), (3, .ref (32 + 21 * w2))], [])) rfl ?_
            refine e_sub (ls := [(0, .ref 14), (1, .ref (18 + 21 * w2)), (2, .int l2), (3, .ref (32 + 21 * w2)), (4, .int (l4 + 1))]) rfl ⟨rfl, rfl, rfl, rfl, rfl, trivial⟩ ?_
            exact ih  hb K
theorem E_Hall_receives {w2 : Nat} {p3 : Int32} {X : MX} {I : MI} {J : MJ} {v : Int32} {I' : MI} {J' : MJ} (hw_w2 : w2 < 4) (hb : f_Hall_receives w2 p3 I J = some (v, I', J')) (K : P (.inl (some (.int v))) (hX X I' J')) : am_E (gG L xs) d m_Hall_receives (0, lv_args 0 [.ref 14, .ref (18 + 21 * w2), .int p3], []) (hX X I J) P := by
  unfold f_Hall_receives at hb
  refine e_k 1 (f' := (1, [(0, .ref 14), (1, .ref (18 + 21 * w2)), (2, .int p3)], [.ref (18 + 21 * w2)])) rfl ?_
  refine r_getr rfl (x_ltp hw_w2 (by decide)) (sS_p0 hw_w2) rfl ?_
  refine e_k 3 (f' := (8, [(4, .int 0), (3, .ref (32 + 21 * w2)), (0, .ref 14), (1, .ref (18 + 21 * w2)), (2, .int p3)], [])) rfl ?_
  refine e_sub (ls := [(0, .ref 14), (1, .ref (18 + 21 * w2)), (2, .int p3), (3, .ref (32 + 21 * w2)), (4, .int 0)]) rfl ⟨rfl, rfl, rfl, rfl, rfl, trivial⟩ ?_
  obtain ⟨q9, I9, J9, h9, hb⟩ := oc_call hb
  refine E_Hall_receives_8 hw_w2 gF  h9 (fun y9 ey9 => ?_) (fun u9 ey9 => ?_)
  · subst ey9
    replace hb := oe_l hb
    obtain ⟨rfl, rfl, rfl⟩ := s_inj hb
    exact K
  · subst ey9
    replace hb := oe_r hb
    refine e_k 2 (f' := (59, [(4, .int 0), (0, .ref 14), (1, .ref (18 + 21 * w2)), (2, .int p3), (3, .ref (32 + 21 * w2))], [])) rfl ?_
    refine e_sub (ls := [(0, .ref 14), (1, .ref (18 + 21 * w2)), (2, .int p3), (3, .ref (32 + 21 * w2)), (4, .int 0)]) rfl ⟨rfl, rfl, rfl, rfl, rfl, trivial⟩ ?_
    obtain ⟨u20, I20, J20, h20, hb⟩ := oc_call hb
    refine E_Hall_receives_59 hw_w2 gF  h20 ?_
    refine e_k 2 (f' := (107, [(3, .ref (32 + 21 * w2))], [.ref (32 + 21 * w2), .ref (32 + 21 * w2)])) rfl ?_
    refine r_geti rfl (x_ltp hw_w2 (by decide)) (sS_p14 hw_w2) rfl ?_
    refine e_k 2 (f' := (112, [(3, .ref (32 + 21 * w2))], [.int ((I20 (32 + 21 * w2) 7) + 1), .ref (32 + 21 * w2)])) rfl ?_
    obtain ⟨I21, eI21, hb⟩ := p_nm hb
    refine r_puti' rfl (x_ltp hw_w2 (by decide)) (sS_p14 hw_w2) rfl eI21 ?_
    refine e_k 1 (f' := (116, [(3, .ref (32 + 21 * w2))], [.int 1])) rfl ?_
    obtain ⟨rfl, rfl, rfl⟩ := s_inj hb
    exact e_r rfl rfl K
theorem E_Hall_gatherErrors_34 {X : MX} {w2 : Nat} {p3 : Int32} {p4 : Int32} (hw_w2 : w2 < 4) : ∀ (fu : Nat) {l2 : Int32} {l3 : Int32} {l5 : Int32} {l6 : Int64} {l8 : Int32} {I : MI} {J : MJ} {r : (Int64)} {I' : MI} {J' : MJ}, f_Hall_gatherErrors_34 w2 p3 p4 fu l2 l3 l5 l6 l8 I J = some (r, I', J') → am_E (gG L xs) (d + 2) m_Hall_gatherErrors (83, [(0, .ref 14), (1, .ref (18 + 21 * w2)), (2, .int l2), (3, .int l3), (4, .ref (36 + 21 * w2)), (5, .int l5), (6, .long r)], []) (hX X I' J') P → am_E (gG L xs) (d + 2) m_Hall_gatherErrors (34, [(0, .ref 14), (1, .ref (18 + 21 * w2)), (2, .int l2), (3, .int l3), (4, .ref (36 + 21 * w2)), (5, .int l5), (6, .long l6), (8, .int l8)], []) (hX X I J) P := by
  intro fu
  induction fu with
  | zero =>
    intros
    rename_i hb _
    cases hb
  | succ fu ih =>
    intro l2 l3 l5 l6 l8 I J r I' J' hb K
    unfold f_Hall_gatherErrors_34 at hb
    refine e_k 2 (f' := (37, [(0, .ref 14), (1, .ref (18 + 21 * w2)), (2, .int l2), (3, .int l3), (4, .ref (36 + 21 * w2)), (5, .int l5), (6, .long l6), (8, .int l8)], [.ref 14, .int l8])) rfl ?_
    refine r_geti rfl (x_ltn rfl) rfl rfl ?_
    refine e_k 1 (f' := (if (I 14 6) ≤ l8 then 83 else 43, [(0, .ref 14), (1, .ref (18 + 21 * w2)), (2, .int l2), (3, .int l3), (4, .ref (36 + 21 * w2)), (5, .int l5), (6, .long l6), (8, .int l8)], [])) rfl ?_
    refine e_if (fun c3 => ?_) (fun c3 => ?_)
    · replace hb := i_pos c3 hb
      refine e_sub (ls := [(0, .ref 14), (1, .ref (18 + 21 * w2)), (2, .int l2), (3, .int l3), (4, .ref (36 + 21 * w2)), (5, .int l5), (6, .long l6)]) rfl ⟨rfl, rfl, rfl, rfl, rfl, rfl, rfl, trivial⟩ ?_
      obtain ⟨rfl, rfl, rfl⟩ := s_inj hb
      exact K
    · replace hb := i_neg c3 hb
      refine e_k 3 (f' := (if l2 = (-1) then 54 else 48, [(0, .ref 14), (1, .ref (18 + 21 * w2)), (2, .int l2), (3, .int l3), (4, .ref (36 + 21 * w2)), (5, .int l5), (6, .long l6), (8, .int l8)], [])) rfl ?_
      refine e_if (fun c4 => ?_) (fun c4 => ?_)
      · replace hb := i_pos c4 hb
        refine e_k 2 (f' := (57, [(0, .ref 14), (1, .ref (18 + 21 * w2)), (2, .int l2), (3, .int l3), (4, .ref (36 + 21 * w2)), (5, .int l5), (6, .long l6), (8, .int l8)], [.ref 14, .long l6])) rfl ?_
        refine r_getr rfl (x_ltn rfl) rfl rfl ?_
        refine e_k 3 (f' := (66, [(0, .ref 14), (1, .ref (18 + 21 * w2)), (2, .int l2), (3, .int l3), (4, .ref (36 + 21 * w2)), (5, .int l5), (6, .long l6), (8, .int l8)], [.int l8, .ref (36 + 21 * w2), .int l8, .ref 103, .long l6])) rfl ?_
        obtain ⟨o5, hb⟩ := ob_in hb
        refine r_iald rfl (x_t0 hw_w2 (by decide)) (x_ltp hw_w2 (by decide)) (sS_p18 hw_w2) o5 ?_
        refine e_k 1 (f' := (69, [(0, .ref 14), (1, .ref (18 + 21 * w2)), (2, .int l2), (3, .int l3), (4, .ref (36 + 21 * w2)), (5, .int l5), (6, .long l6), (8, .int l8)], [.int l5, .int (I (36 + 21 * w2) (Int32.toNatClampNeg l8)), .int l8, .ref 103, .long l6])) rfl ?_
        obtain ⟨v6, I6, J6, h6, hb⟩ := oc_call hb
        refine r_cv (z := m_Errors_sum) (As := [.int l8, .int (I (36 + 21 * w2) (Int32.toNatClampNeg l8)), .int l5]) (rest := [.long l6]) rfl rfl rfl rfl rfl (x_ltn rfl) rfl rfl (E_Errors_sum  h6 ⟨_, rfl, ?_⟩)
        obtain ⟨v7, I7, J7, h7, hb⟩ := oc_call hb
        refine r_cs (z := m_Sh_plus) (As := [.long l6, .long v6]) (rest := []) rfl rfl rfl rfl rfl rfl (E_Sh_plus  h7 ⟨_, rfl, ?_⟩)
        refine e_k 3 (f' := (34, [(8, .int (l8 + 1)), (6, .long v7), (0, .ref 14), (1, .ref (18 + 21 * w2)), (2, .int l2), (3, .int l3), (4, .ref (36 + 21 * w2)), (5, .int l5)], [])) rfl ?_
        refine e_sub (ls := [(0, .ref 14), (1, .ref (18 + 21 * w2)), (2, .int l2), (3, .int l3), (4, .ref (36 + 21 * w2)), (5, .int l5), (6, .long v7), (8, .int (l8 + 1))]) rfl ⟨rfl, rfl, rfl, rfl, rfl, rfl, rfl, rfl, trivial⟩ ?_
        exact ih  hb K
      · replace hb := i_neg c4 hb
        refine e_k 3 (f' := (if ¬ l2 = l8 then 77 else 54, [(0, .ref 14), (1, .ref (18 + 21 * w2)), (2, .int l2), (3, .int l3), (4, .ref (36 + 21 * w2)), (5, .int l5), (6, .long l6), (8, .int l8)], [])) rfl ?_
        refine e_if (fun c8 => ?_) (fun c8 => ?_)
        · replace hb := i_pos c8 hb
          refine e_k 2 (f' := (34, [(8, .int (l8 + 1)), (0, .ref 14), (1, .ref (18 + 21 * w2)), (2, .int l2), (3, .int l3), (4, .ref (36 + 21 * w2)), (5, .int l5), (6, .long l6)], [])) rfl ?_
          refine e_sub (ls := [(0, .ref 14), (1, .ref (18 + 21 * w2)), (2, .int l2), (3, .int l3), (4, .ref (36 + 21 * w2)), (5, .int l5), (6, .long l6), (8, .int (l8 + 1))]) rfl ⟨rfl, rfl, rfl, rfl, rfl, rfl, rfl, rfl, trivial⟩ ?_
          exact ih  hb K
        · replace hb := i_neg c8 hb
          refine e_k 2 (f' := (57, [(0, .ref 14), (1, .ref (18 + 21 * w2)), (2, .int l2), (3, .int l3), (4, .ref (36 + 21 * w2)), (5, .int l5), (6, .long l6), (8, .int l8)], [.ref 14, .long l6])) rfl ?_
          refine r_getr rfl (x_ltn rfl) rfl rfl ?_
          refine e_k 3 (f' := (66, [(0, .ref 14), (1, .ref (18 + 21 * w2)), (2, .int l2), (3, .int l3), (4, .ref (36 + 21 * w2)), (5, .int l5), (6, .long l6), (8, .int l8)], [.int l8, .ref (36 + 21 * w2), .int l8, .ref 103, .long l6])) rfl ?_
          obtain ⟨o9, hb⟩ := ob_in hb
          refine r_iald rfl (x_t0 hw_w2 (by decide)) (x_ltp hw_w2 (by decide)) (sS_p18 hw_w2) o9 ?_
          refine e_k 1 (f' := (69, [(0, .ref 14), (1, .ref (18 + 21 * w2)), (2, .int l2), (3, .int l3), (4, .ref (36 + 21 * w2)), (5, .int l5), (6, .long l6), (8, .int l8)], [.int l5, .int (I (36 + 21 * w2) (Int32.toNatClampNeg l8)), .int l8, .ref 103, .long l6])) rfl ?_
          obtain ⟨v10, I10, J10, h10, hb⟩ := oc_call hb
          refine r_cv (z := m_Errors_sum) (As := [.int l8, .int (I (36 + 21 * w2) (Int32.toNatClampNeg l8)), .int l5]) (rest := [.long l6]) rfl rfl rfl rfl rfl (x_ltn rfl) rfl rfl (E_Errors_sum  h10 ⟨_, rfl, ?_⟩)
          obtain ⟨v11, I11, J11, h11, hb⟩ := oc_call hb
          refine r_cs (z := m_Sh_plus) (As := [.long l6, .long v10]) (rest := []) rfl rfl rfl rfl rfl rfl (E_Sh_plus  h11 ⟨_, rfl, ?_⟩)
          refine e_k 3 (f' := (34, [(8, .int (l8 + 1)), (6, .long v11), (0, .ref 14), (1, .ref (18 + 21 * w2)), (2, .int l2), (3, .int l3), (4, .ref (36 + 21 * w2)), (5, .int l5)], [])) rfl ?_
          refine e_sub (ls := [(0, .ref 14), (1, .ref (18 + 21 * w2)), (2, .int l2), (3, .int l3), (4, .ref (36 + 21 * w2)), (5, .int l5), (6, .long v11), (8, .int (l8 + 1))]) rfl ⟨rfl, rfl, rfl, rfl, rfl, rfl, rfl, rfl, trivial⟩ ?_
          exact ih  hb K
theorem E_Hall_gatherErrors_12 {X : MX} {w2 : Nat} {p3 : Int32} {p4 : Int32} (hw_w2 : w2 < 4) : ∀ (fu : Nat) {l2 : Int32} {l3 : Int32} {l5 : Int32} {I : MI} {J : MJ} {r : (Unit)} {I' : MI} {J' : MJ}, f_Hall_gatherErrors_12 w2 p3 p4 fu l2 l3 l5 I J = some (r, I', J') → am_E (gG L xs) (d + 2) m_Hall_gatherErrors (112, [(0, .ref 14), (2, .int l2), (4, .ref (36 + 21 * w2))], []) (hX X I' J') P → am_E (gG L xs) (d + 2) m_Hall_gatherErrors (12, [(0, .ref 14), (1, .ref (18 + 21 * w2)), (2, .int l2), (3, .int l3), (4, .ref (36 + 21 * w2)), (5, .int l5)], []) (hX X I J) P := by
  intro fu
  induction fu with
  | zero =>
    intros
    rename_i hb _
    cases hb
  | succ fu ih =>
    intro l2 l3 l5 I J r I' J' hb K
    unfold f_Hall_gatherErrors_12 at hb
    refine e_k 3 (f' := (if l3 ≤ l5 then 112 else 18, [(0, .ref 14), (1, .ref (18 + 21 * w2)), (2, .int l2), (3, .int l3), (4, .ref (36 + 21 * w2)), (5, .int l5)], [])) rfl ?_
    refine e_if (fun c1 => ?_) (fun c1 => ?_)
    · replace hb := i_pos c1 hb
      refine e_sub (ls := [(0, .ref 14), (2, .int l2), (4, .ref (36 + 21 * w2))]) rfl ⟨rfl, rfl, rfl, trivial⟩ ?_
      obtain ⟨rfl, rfl, rfl⟩ := s_inj hb
      exact K
    · replace hb := i_neg c1 hb
      refine e_k 2 (f' := (21, [(0, .ref 14), (1, .ref (18 + 21 * w2)), (2, .int l2), (3, .int l3), (4, .ref (36 + 21 * w2)), (5, .int l5)], [.ref 14, .int l5])) rfl ?_
      refine r_getr rfl (x_ltn rfl) rfl rfl ?_
      refine r_alen rfl rfl (x_ltn rfl) rfl rfl ?_
      refine e_k 1 (f' := (if (nI 32) ≤ l5 then 112 else 28, [(0, .ref 14), (1, .ref (18 + 21 * w2)), (2, .int l2), (3, .int l3), (4, .ref (36 + 21 * w2)), (5, .int l5)], [])) rfl ?_
      refine e_if (fun c2 => ?_) (fun c2 => ?_)
      · replace hb := i_pos c2 hb
        refine e_sub (ls := [(0, .ref 14), (2, .int l2), (4, .ref (36 + 21 * w2))]) rfl ⟨rfl, rfl, rfl, trivial⟩ ?_
        obtain ⟨rfl, rfl, rfl⟩ := s_inj hb
        exact K
      · replace hb := i_neg c2 hb
        refine e_k 4 (f' := (34, [(8, .int 0), (6, .long 0), (0, .ref 14), (1, .ref (18 + 21 * w2)), (2, .int l2), (3, .int l3), (4, .ref (36 + 21 * w2)), (5, .int l5)], [])) rfl ?_
        refine e_sub (ls := [(0, .ref 14), (1, .ref (18 + 21 * w2)), (2, .int l2), (3, .int l3), (4, .ref (36 + 21 * w2)), (5, .int l5), (6, .long 0), (8, .int 0)]) rfl ⟨rfl, rfl, rfl, rfl, rfl, rfl, rfl, rfl, trivial⟩ ?_
        obtain ⟨u12, I12, J12, h12, hb⟩ := oc_call hb
        refine E_Hall_gatherErrors_34 hw_w2 gF  h12 ?_
        refine e_k 1 (f' := (84, [(0, .ref 14), (1, .ref (18 + 21 * w2)), (2, .int l2), (3, .int l3), (4, .ref (36 + 21 * w2)), (5, .int l5), (6, .long u12)], [.ref 14])) rfl ?_
        refine r_getr rfl (x_ltn rfl) rfl rfl ?_
        refine e_k 2 (f' := (91, [(0, .ref 14), (1, .ref (18 + 21 * w2)), (2, .int l2), (3, .int l3), (4, .ref (36 + 21 * w2)), (5, .int l5), (6, .long u12)], [.long u12, .int l5, .ref 111])) rfl ?_
        obtain ⟨o13, hb⟩ := ob_in hb
        obtain ⟨J14, eJ14, hb⟩ := p_nm hb
        refine r_last' rfl (x_ltn rfl) rfl o13 eJ14 ?_
        refine e_k 3 (f' := (if ¬ l2 = (-1) then 106 else 97, [(0, .ref 14), (1, .ref (18 + 21 * w2)), (2, .int l2), (3, .int l3), (4, .ref (36 + 21 * w2)), (5, .int l5), (6, .long u12)], [])) rfl ?_
        refine e_if (fun c15 => ?_) (fun c15 => ?_)
        · replace hb := i_pos c15 hb
          refine e_k 2 (f' := (12, [(5, .int (l5 + 1)), (0, .ref 14), (1, .ref (18 + 21 * w2)), (2, .int l2), (3, .int l3), (4, .ref (36 + 21 * w2)), (6, .long u12)], [])) rfl ?_
          refine e_sub (ls := [(0, .ref 14), (1, .ref (18 + 21 * w2)), (2, .int l2), (3, .int l3), (4, .ref (36 + 21 * w2)), (5, .int (l5 + 1))]) rfl ⟨rfl, rfl, rfl, rfl, rfl, rfl, trivial⟩ ?_
          exact ih  hb K
        · replace hb := i_neg c15 hb
          refine e_k 1 (f' := (98, [(0, .ref 14), (1, .ref (18 + 21 * w2)), (2, .int l2), (3, .int l3), (4, .ref (36 + 21 * w2)), (5, .int l5), (6, .long u12)], [.ref (18 + 21 * w2)])) rfl ?_
          refine r_getr rfl (x_ltp hw_w2 (by decide)) (sS_p0 hw_w2) rfl ?_
          refine e_k 1 (f' := (103, [(0, .ref 14), (1, .ref (18 + 21 * w2)), (2, .int l2), (3, .int l3), (4, .ref (36 + 21 * w2)), (5, .int l5), (6, .long u12)], [.long u12, .ref (25 + 21 * w2)])) rfl ?_
          obtain ⟨v16, I16, J16, h16, hb⟩ := oc_call hb
          refine r_cv (z := m_Check_note) (As := [.long u12]) (rest := []) rfl rfl rfl rfl rfl (x_ltp hw_w2 (by decide)) (sS_p7 hw_w2) rfl (E_Check_note hw_w2 h16 ⟨_, rfl, ?_⟩)
          refine e_k 2 (f' := (12, [(5, .int (l5 + 1)), (0, .ref 14), (1, .ref (18 + 21 * w2)), (2, .int l2), (3, .int l3), (4, .ref (36 + 21 * w2)), (6, .long u12)], [])) rfl ?_
          refine e_sub (ls := [(0, .ref 14), (1, .ref (18 + 21 * w2)), (2, .int l2), (3, .int l3), (4, .ref (36 + 21 * w2)), (5, .int (l5 + 1))]) rfl ⟨rfl, rfl, rfl, rfl, rfl, rfl, trivial⟩ ?_
          exact ih  hb K
theorem E_Hall_gatherErrors_115 {X : MX} {w2 : Nat} {p3 : Int32} {p4 : Int32} (hw_w2 : w2 < 4) : ∀ (fu : Nat) {l2 : Int32} {l5 : Int32} {I : MI} {J : MJ} {r : (Unit)} {I' : MI} {J' : MJ}, f_Hall_gatherErrors_115 w2 p3 p4 fu l2 l5 I J = some (r, I', J') → am_E (gG L xs) d m_Hall_gatherErrors (150, [], []) (hX X I' J') P → am_E (gG L xs) d m_Hall_gatherErrors (115, [(0, .ref 14), (2, .int l2), (4, .ref (36 + 21 * w2)), (5, .int l5)], []) (hX X I J) P := by
  intro fu
  induction fu with
  | zero =>
    intros
    rename_i hb _
    cases hb
  | succ fu ih =>
    intro l2 l5 I J r I' J' hb K
    unfold f_Hall_gatherErrors_115 at hb
    refine e_k 2 (f' := (118, [(0, .ref 14), (2, .int l2), (4, .ref (36 + 21 * w2)), (5, .int l5)], [.ref 14, .int l5])) rfl ?_
    refine r_geti rfl (x_ltn rfl) rfl rfl ?_
    refine e_k 1 (f' := (if (I 14 6) ≤ l5 then 150 else 124, [(0, .ref 14), (2, .int l2), (4, .ref (36 + 21 * w2)), (5, .int l5)], [])) rfl ?_
    refine e_if (fun c18 => ?_) (fun c18 => ?_)
    · replace hb := i_pos c18 hb
      refine e_sub (ls := []) rfl ⟨⟩ ?_
      obtain ⟨rfl, rfl, rfl⟩ := s_inj hb
      exact K
    · replace hb := i_neg c18 hb
      refine e_k 3 (f' := (if l2 = (-1) then 135 else 129, [(0, .ref 14), (2, .int l2), (4, .ref (36 + 21 * w2)), (5, .int l5)], [])) rfl ?_
      refine e_if (fun c19 => ?_) (fun c19 => ?_)
      · replace hb := i_pos c19 hb
        refine e_k 3 (f' := (140, [(0, .ref 14), (2, .int l2), (4, .ref (36 + 21 * w2)), (5, .int l5)], [.int l5, .ref (36 + 21 * w2), .int l5, .ref (36 + 21 * w2)])) rfl ?_
        obtain ⟨o20, hb⟩ := ob_in hb
        refine r_iald rfl (x_t0 hw_w2 (by decide)) (x_ltp hw_w2 (by decide)) (sS_p18 hw_w2) o20 ?_
        refine e_k 2 (f' := (143, [(0, .ref 14), (2, .int l2), (4, .ref (36 + 21 * w2)), (5, .int l5)], [.int ((I (36 + 21 * w2) (Int32.toNatClampNeg l5)) + 1), .int l5, .ref (36 + 21 * w2)])) rfl ?_
        obtain ⟨o21, hb⟩ := ob_in hb
        obtain ⟨I22, eI22, hb⟩ := p_nm hb
        refine r_iast' rfl (x_ltp hw_w2 (by decide)) (sS_p18 hw_w2) o21 eI22 ?_
        refine e_k 2 (f' := (115, [(5, .int (l5 + 1)), (0, .ref 14), (2, .int l2), (4, .ref (36 + 21 * w2))], [])) rfl ?_
        refine e_sub (ls := [(0, .ref 14), (2, .int l2), (4, .ref (36 + 21 * w2)), (5, .int (l5 + 1))]) rfl ⟨rfl, rfl, rfl, rfl, trivial⟩ ?_
        exact ih  hb K
      · replace hb := i_neg c19 hb
        refine e_k 3 (f' := (if ¬ l2 = l5 then 144 else 135, [(0, .ref 14), (2, .int l2), (4, .ref (36 + 21 * w2)), (5, .int l5)], [])) rfl ?_
        refine e_if (fun c23 => ?_) (fun c23 => ?_)
        · replace hb := i_pos c23 hb
          refine e_k 2 (f' := (115, [(5, .int (l5 + 1)), (0, .ref 14), (2, .int l2), (4, .ref (36 + 21 * w2))], [])) rfl ?_
          refine e_sub (ls := [(0, .ref 14), (2, .int l2), (4, .ref (36 + 21 * w2)), (5, .int (l5 + 1))]) rfl ⟨rfl, rfl, rfl, rfl, trivial⟩ ?_
          exact ih  hb K
        · replace hb := i_neg c23 hb
          refine e_k 3 (f' := (140, [(0, .ref 14), (2, .int l2), (4, .ref (36 + 21 * w2)), (5, .int l5)], [.int l5, .ref (36 + 21 * w2), .int l5, .ref (36 + 21 * w2)])) rfl ?_
          obtain ⟨o24, hb⟩ := ob_in hb
          refine r_iald rfl (x_t0 hw_w2 (by decide)) (x_ltp hw_w2 (by decide)) (sS_p18 hw_w2) o24 ?_
          refine e_k 2 (f' := (143, [(0, .ref 14), (2, .int l2), (4, .ref (36 + 21 * w2)), (5, .int l5)], [.int ((I (36 + 21 * w2) (Int32.toNatClampNeg l5)) + 1), .int l5, .ref (36 + 21 * w2)])) rfl ?_
          obtain ⟨o25, hb⟩ := ob_in hb
          obtain ⟨I26, eI26, hb⟩ := p_nm hb
          refine r_iast' rfl (x_ltp hw_w2 (by decide)) (sS_p18 hw_w2) o25 eI26 ?_
          refine e_k 2 (f' := (115, [(5, .int (l5 + 1)), (0, .ref 14), (2, .int l2), (4, .ref (36 + 21 * w2))], [])) rfl ?_
          refine e_sub (ls := [(0, .ref 14), (2, .int l2), (4, .ref (36 + 21 * w2)), (5, .int (l5 + 1))]) rfl ⟨rfl, rfl, rfl, rfl, trivial⟩ ?_
          exact ih  hb K
theorem E_Hall_gatherErrors {w2 : Nat} {p3 : Int32} {p4 : Int32} {X : MX} {I : MI} {J : MJ} {v : Unit} {I' : MI} {J' : MJ} (hw_w2 : w2 < 4) (hb : f_Hall_gatherErrors w2 p3 p4 I J = some (v, I', J')) (K : P (.inl (none)) (hX X I' J')) : am_E (gG L xs) (d + 2) m_Hall_gatherErrors (0, lv_args 0 [.ref 14, .ref (18 + 21 * w2), .int p3, .int p4], []) (hX X I J) P := by
  unfold f_Hall_gatherErrors at hb
  refine e_k 1 (f' := (1, [(0, .ref 14), (1, .ref (18 + 21 * w2)), (2, .int p3), (3, .int p4)], [.ref (18 + 21 * w2)])) rfl ?_
  refine r_getr rfl (x_ltp hw_w2 (by decide)) (sS_p0 hw_w2) rfl ?_
  refine r_getr rfl (x_ltp hw_w2 (by decide)) (sS_p14 hw_w2) rfl ?_
  refine e_k 3 (f' := (12, [(5, .int 0), (4, .ref (36 + 21 * w2)), (0, .ref 14), (1, .ref (18 + 21 * w2)), (2, .int p3), (3, .int p4)], [])) rfl ?_
  refine e_sub (ls := [(0, .ref 14), (1, .ref (18 + 21 * w2)), (2, .int p3), (3, .int p4), (4, .ref (36 + 21 * w2)), (5, .int 0)]) rfl ⟨rfl, rfl, rfl, rfl, rfl, rfl, trivial⟩ ?_
  obtain ⟨u17, I17, J17, h17, hb⟩ := oc_call hb
  refine E_Hall_gatherErrors_12 hw_w2 gF  h17 ?_
  refine e_k 2 (f' := (115, [(5, .int 0), (0, .ref 14), (2, .int p3), (4, .ref (36 + 21 * w2))], [])) rfl ?_
  refine e_sub (ls := [(0, .ref 14), (2, .int p3), (4, .ref (36 + 21 * w2)), (5, .int 0)]) rfl ⟨rfl, rfl, rfl, rfl, trivial⟩ ?_
  obtain ⟨u27, I27, J27, h27, hb⟩ := oc_call hb
  refine E_Hall_gatherErrors_115 hw_w2 gF  h27 ?_
  obtain ⟨rfl, rfl, rfl⟩ := s_inj hb
  exact e_r rfl rfl K
end AUTO
