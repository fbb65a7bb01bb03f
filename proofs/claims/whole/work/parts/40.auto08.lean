section AUTO
variable {L : Nat} {xs : Nat → Int32} {d : Nat} {P : am_R → am_H → Prop}
theorem E_Model_open {p2 : Int32} {p3 : Int32} {p4 : Int32} {X : MX} {I : MI} {J : MJ} {v : Int32} {I' : MI} {J' : MJ} (hb : f_Model_open p2 p3 p4 I J = some (v, I', J')) (K : P (.inl (some (.int v))) (hX X I' J')) : am_E (gG L xs) (d + 3) m_Model_open (0, lv_args 0 [.ref 112, .int p2, .int p3, .int p4], []) (hX X I J) P := by
  unfold f_Model_open at hb
  refine e_k 1 (f' := (1, [(0, .ref 112), (1, .int p2), (2, .int p3), (3, .int p4)], [.ref 112])) rfl ?_
  refine r_getr rfl (x_ltn rfl) rfl rfl ?_
  refine e_k 1 (f' := (5, [(0, .ref 112), (1, .int p2), (2, .int p3), (3, .int p4)], [.int p2, .ref 128])) rfl ?_
  obtain ⟨o1, hb⟩ := ob_in hb
  refine r_iald rfl rfl (x_ltn rfl) rfl o1 ?_
  refine e_k 1 (f' := (if ¬ (I 128 (Int32.toNatClampNeg p2)) = 0 then 30 else 9, [(0, .ref 112), (1, .int p2), (2, .int p3), (3, .int p4)], [])) rfl ?_
  refine e_if (fun c2 => ?_) (fun c2 => ?_)
  · replace hb := i_pos c2 hb
    refine e_k 3 (f' := (33, [(0, .ref 112), (1, .int p2), (2, .int p3), (3, .int p4)], [.int (-1), .int p2, .ref 112])) rfl ?_
    obtain ⟨v3, I3, J3, h3, hb⟩ := oc_call hb
    refine r_cv (z := m_Model_receive) (As := [.int p2, .int (-1)]) (rest := []) rfl rfl rfl rfl rfl (x_ltn rfl) rfl rfl (E_Model_receive  h3 ⟨_, rfl, ?_⟩)
    refine e_k 1 (f' := (if ¬ v3 = 0 then 41 else 39, [(0, .ref 112), (1, .int p2), (2, .int p3), (3, .int p4)], [])) rfl ?_
    refine e_if (fun c4 => ?_) (fun c4 => ?_)
    · replace hb := i_pos c4 hb
      refine e_k 1 (f' := (42, [(0, .ref 112), (1, .int p2), (2, .int p3), (3, .int p4)], [.ref 112])) rfl ?_
      refine r_getr rfl (x_ltn rfl) rfl rfl ?_
      refine e_k 2 (f' := (47, [(0, .ref 112), (1, .int p2), (2, .int p3), (3, .int p4)], [.ref 112, .int p3, .ref 143])) rfl ?_
      refine r_getr rfl (x_ltn rfl) rfl rfl ?_
      refine e_k 1 (f' := (51, [(0, .ref 112), (1, .int p2), (2, .int p3), (3, .int p4)], [.int p4, .ref 143, .int p3, .ref 143])) rfl ?_
      obtain ⟨o5, hb⟩ := ob_in hb
      refine r_lald rfl rfl (x_ltn rfl) rfl o5 ?_
      refine e_k 2 (f' := (54, [(0, .ref 112), (1, .int p2), (2, .int p3), (3, .int p4)], [.ref 112, .ref 112, .long (J3 143 (Int32.toNatClampNeg p4)), .int p3, .ref 143])) rfl ?_
      refine r_getr rfl (x_ltn rfl) rfl rfl ?_
      refine e_k 1 (f' := (58, [(0, .ref 112), (1, .int p2), (2, .int p3), (3, .int p4)], [.int p2, .ref 135, .ref 112, .long (J3 143 (Int32.toNatClampNeg p4)), .int p3, .ref 143])) rfl ?_
      obtain ⟨o6, hb⟩ := ob_in hb
      refine r_iald rfl rfl (x_ltn rfl) rfl o6 ?_
      refine e_k 1 (f' := (60, [(0, .ref 112), (1, .int p2), (2, .int p3), (3, .int p4)], [.int 0, .int (I3 135 (Int32.toNatClampNeg p2)), .ref 112, .long (J3 143 (Int32.toNatClampNeg p4)), .int p3, .ref 143])) rfl ?_
      obtain ⟨v7, I7, J7, h7, hb⟩ := oc_call hb
      refine r_cv (z := m_Model_error) (As := [.int (I3 135 (Int32.toNatClampNeg p2)), .int 0]) (rest := [.long (J3 143 (Int32.toNatClampNeg p4)), .int p3, .ref 143]) rfl rfl rfl rfl rfl (x_ltn rfl) rfl rfl (E_Model_error  h7 ⟨_, rfl, ?_⟩)
      obtain ⟨v8, I8, J8, h8, hb⟩ := oc_call hb
      refine r_cs (z := m_Model_plus) (As := [.long (J3 143 (Int32.toNatClampNeg p4)), .long v7]) (rest := [.int p3, .ref 143]) rfl rfl rfl rfl rfl rfl (E_Model_plus  h8 ⟨_, rfl, ?_⟩)
      obtain ⟨o9, hb⟩ := ob_in hb
      obtain ⟨J10, eJ10, hb⟩ := p_nm hb
      refine r_last' rfl (x_ltn rfl) rfl o9 eJ10 ?_
      refine e_k 2 (f' := (69, [(0, .ref 112), (1, .int p2), (2, .int p3), (3, .int p4)], [.int p2, .ref 112])) rfl ?_
      obtain ⟨v11, I11, J11, h11, hb⟩ := oc_call hb
      refine r_cv (z := m_Model_received) (As := [.int p2]) (rest := []) rfl rfl rfl rfl rfl (x_ltn rfl) rfl rfl (E_Model_received  h11 ⟨_, rfl, ?_⟩)
      refine e_k 1 (f' := (73, [(0, .ref 112), (1, .int p2), (2, .int p3), (3, .int p4)], [.int 1])) rfl ?_
      obtain ⟨rfl, rfl, rfl⟩ := s_inj hb
      exact e_r rfl rfl K
    · replace hb := i_neg c4 hb
      refine e_k 1 (f' := (40, [(0, .ref 112), (1, .int p2), (2, .int p3), (3, .int p4)], [.int 0])) rfl ?_
      obtain ⟨rfl, rfl, rfl⟩ := s_inj hb
      exact e_r rfl rfl K
  · replace hb := i_neg c2 hb
    refine e_k 4 (f' := (13, [(0, .ref 112), (1, .int p2), (2, .int p3), (3, .int p4)], [.long 0, .int 4, .int p2, .ref 112])) rfl ?_
    obtain ⟨v12, I12, J12, h12, hb⟩ := oc_call hb
    refine r_cv (z := m_Model_send) (As := [.int p2, .int 4, .long 0]) (rest := []) rfl rfl rfl rfl rfl (x_ltn rfl) rfl rfl (E_Model_send  h12 ⟨_, rfl, ?_⟩)
    refine e_k 1 (f' := (if ¬ v12 = 0 then 21 else 19, [(0, .ref 112), (1, .int p2), (2, .int p3), (3, .int p4)], [])) rfl ?_
    refine e_if (fun c13 => ?_) (fun c13 => ?_)
    · replace hb := i_pos c13 hb
      refine e_k 1 (f' := (22, [(0, .ref 112), (1, .int p2), (2, .int p3), (3, .int p4)], [.ref 112])) rfl ?_
      refine r_getr rfl (x_ltn rfl) rfl rfl ?_
      refine e_k 2 (f' := (27, [(0, .ref 112), (1, .int p2), (2, .int p3), (3, .int p4)], [.int 1, .int p2, .ref 128])) rfl ?_
      obtain ⟨o14, hb⟩ := ob_in hb
      obtain ⟨I15, eI15, hb⟩ := p_nm hb
      refine r_iast' rfl (x_ltn rfl) rfl o14 eI15 ?_
      refine e_k 1 (f' := (29, [(0, .ref 112), (1, .int p2), (2, .int p3), (3, .int p4)], [.int 1])) rfl ?_
      obtain ⟨rfl, rfl, rfl⟩ := s_inj hb
      exact e_r rfl rfl K
    · replace hb := i_neg c13 hb
      refine e_k 1 (f' := (20, [(0, .ref 112), (1, .int p2), (2, .int p3), (3, .int p4)], [.int 0])) rfl ?_
      obtain ⟨rfl, rfl, rfl⟩ := s_inj hb
      exact e_r rfl rfl K
theorem E_Model_rows_130 {X : MX} {p2 : Int32} {p3 : Int32} : ∀ (fu : Nat) {l1 : Int32} {l2 : Int32} {l3 : Int32} {l4 : Int32} {l5 : Int32} {l6 : Int32} {l7 : Int64} {l9 : Int32} {I : MI} {J : MJ} {r : (Int64)} {I' : MI} {J' : MJ}, f_Model_rows_130 p2 p3 fu l1 l2 l3 l4 l5 l6 l7 l9 I J = some (r, I', J') → am_E (gG L xs) (d + 3) m_Model_rows (317, [(0, .ref 112), (1, .int l1), (3, .int l3), (4, .int l4), (7, .long r)], []) (hX X I' J') P → am_E (gG L xs) (d + 3) m_Model_rows (130, [(0, .ref 112), (1, .int l1), (2, .int l2), (3, .int l3), (4, .int l4), (5, .int l5), (6, .int l6), (7, .long l7), (9, .int l9)], []) (hX X I J) P := by
  intro fu
  induction fu with
  | zero =>
    intros
    rename_i hb _
    cases hb
  | succ fu ih =>
    intro l1 l2 l3 l4 l5 l6 l7 l9 I J r I' J' hb K
    unfold f_Model_rows_130 at hb
    refine e_k 3 (f' := (if 16 ≤ l9 then 317 else 137, [(0, .ref 112), (1, .int l1), (2, .int l2), (3, .int l3), (4, .int l4), (5, .int l5), (6, .int l6), (7, .long l7), (9, .int l9)], [])) rfl ?_
    refine e_if (fun c16 => ?_) (fun c16 => ?_)
    · replace hb := i_pos c16 hb
      refine e_sub (ls := [(0, .ref 112), (1, .int l1), (3, .int l3), (4, .int l4), (7, .long l7)]) rfl ⟨rfl, rfl, rfl, rfl, rfl, trivial⟩ ?_
      obtain ⟨rfl, rfl, rfl⟩ := s_inj hb
      exact K
    · replace hb := i_neg c16 hb
      refine e_k 2 (f' := (if l4 = 0 then 172 else 142, [(0, .ref 112), (1, .int l1), (2, .int l2), (3, .int l3), (4, .int l4), (5, .int l5), (6, .int l6), (7, .long l7), (9, .int l9)], [])) rfl ?_
      obtain ⟨v19, I19, J19, h19, hb⟩ := oc_call hb
      have Kj19 : am_E (gG L xs) (d + 3) m_Model_rows (182, [(0, .ref 112), (1, .int l1), (2, .int l2), (3, .int l3), (4, .int l4), (5, .int l5), (6, .int l6), (7, .long l7), (9, .int l9)], [.long v19]) (hX X I19 J19) P := by
        refine e_k 3 (f' := (if l4 = 0 then 221 else 189, [(10, .long v19), (0, .ref 112), (1, .int l1), (2, .int l2), (3, .int l3), (4, .int l4), (5, .int l5), (6, .int l6), (7, .long l7), (9, .int l9)], [])) rfl ?_
        obtain ⟨v28, I28, J28, h28, hb⟩ := oc_call hb
        have Kj28 : am_E (gG L xs) (d + 3) m_Model_rows (231, [(0, .ref 112), (1, .int l1), (2, .int l2), (3, .int l3), (4, .int l4), (5, .int l5), (6, .int l6), (7, .long l7), (9, .int l9), (10, .long v19)], [.long v28]) (hX X I28 J28) P := by
          refine e_k 4 (f' := (if ¬ l3 = 23 then 249 else 239, [(12, .long v28), (0, .ref 112), (1, .int l1), (2, .int l2), (3, .int l3), (4, .int l4), (5, .int l5), (6, .int l6), (7, .long l7), (9, .int l9), (10, .long v19)], [])) rfl ?_
          obtain ⟨v38, I38, J38, h38, hb⟩ := oc_call hb
          have Kj38 : am_E (gG L xs) (d + 3) m_Model_rows (272, [(0, .ref 112), (1, .int l1), (2, .int l2), (3, .int l3), (4, .int l4), (5, .int l5), (6, .int l6), (7, .long l7), (9, .int l9)], [.long v38]) (hX X I38 J38) P := by
            refine e_k 3 (f' := (278, [(14, .long v38), (0, .ref 112), (1, .int l1), (2, .int l2), (3, .int l3), (4, .int l4), (5, .int l5), (6, .int l6), (7, .long l7), (9, .int l9)], [.long v38, .long l7])) rfl ?_
            obtain ⟨v44, I44, J44, h44, hb⟩ := oc_call hb
            refine r_cs (z := m_Model_plus) (As := [.long l7, .long v38]) (rest := []) rfl rfl rfl rfl rfl rfl (E_Model_plus  h44 ⟨_, rfl, ?_⟩)
            refine e_k 4 (f' := (if l3 = 26 then 311 else 289, [(7, .long v44), (14, .long v38), (0, .ref 112), (1, .int l1), (2, .int l2), (3, .int l3), (4, .int l4), (5, .int l5), (6, .int l6), (9, .int l9)], [])) rfl ?_
            refine e_if (fun c45 => ?_) (fun c45 => ?_)
            · replace hb := i_pos c45 hb
              refine e_k 2 (f' := (130, [(9, .int (l9 + 1)), (7, .long v44), (14, .long v38), (0, .ref 112), (1, .int l1), (2, .int l2), (3, .int l3), (4, .int l4), (5, .int l5), (6, .int l6)], [])) rfl ?_
              refine e_sub (ls := [(0, .ref 112), (1, .int l1), (2, .int l2), (3, .int l3), (4, .int l4), (5, .int l5), (6, .int l6), (7, .long v44), (9, .int (l9 + 1))]) rfl ⟨rfl, rfl, rfl, rfl, rfl, rfl, rfl, rfl, rfl, trivial⟩ ?_
              exact ih  hb K
            · replace hb := i_neg c45 hb
              refine e_k 1 (f' := (290, [(7, .long v44), (14, .long v38), (0, .ref 112), (1, .int l1), (2, .int l2), (3, .int l3), (4, .int l4), (5, .int l5), (6, .int l6), (9, .int l9)], [.ref 112])) rfl ?_
              refine r_getr rfl (x_ltn rfl) rfl rfl ?_
              refine e_k 2 (f' := (295, [(7, .long v44), (14, .long v38), (0, .ref 112), (1, .int l1), (2, .int l2), (3, .int l3), (4, .int l4), (5, .int l5), (6, .int l6), (9, .int l9)], [.ref 112, .int l1, .ref 143])) rfl ?_
              refine r_getr rfl (x_ltn rfl) rfl rfl ?_
              refine e_k 3 (f' := (301, [(7, .long v44), (14, .long v38), (0, .ref 112), (1, .int l1), (2, .int l2), (3, .int l3), (4, .int l4), (5, .int l5), (6, .int l6), (9, .int l9)], [.int (l2 + 1), .ref 114, .int l1, .ref 143])) rfl ?_
              obtain ⟨o46, hb⟩ := ob_in hb
              refine r_iald rfl rfl (x_ltn rfl) rfl o46 ?_
              obtain ⟨v47, I47, J47, h47, hb⟩ := oc_call hb
              refine r_cs (z := m_Model_row) (As := [.int l1, .int (I44 114 (Int32.toNatClampNeg (l2 + 1)))]) (rest := [.ref 143]) rfl rfl rfl rfl rfl rfl (E_Model_row  h47 ⟨_, rfl, ?_⟩)
              refine e_k 3 (f' := (310, [(7, .long v44), (14, .long v38), (0, .ref 112), (1, .int l1), (2, .int l2), (3, .int l3), (4, .int l4), (5, .int l5), (6, .int l6), (9, .int l9)], [.long v38, .int (v47 + l9), .ref 143])) rfl ?_
              obtain ⟨o48, hb⟩ := ob_in hb
              obtain ⟨J49, eJ49, hb⟩ := p_nm hb
              refine r_last' rfl (x_ltn rfl) rfl o48 eJ49 ?_
              refine e_k 2 (f' := (130, [(9, .int (l9 + 1)), (7, .long v44), (14, .long v38), (0, .ref 112), (1, .int l1), (2, .int l2), (3, .int l3), (4, .int l4), (5, .int l5), (6, .int l6)], [])) rfl ?_
              refine e_sub (ls := [(0, .ref 112), (1, .int l1), (2, .int l2), (3, .int l3), (4, .int l4), (5, .int l5), (6, .int l6), (7, .long v44), (9, .int (l9 + 1))]) rfl ⟨rfl, rfl, rfl, rfl, rfl, rfl, rfl, rfl, rfl, trivial⟩ ?_
              exact ih  hb K
          clear hb
          refine e_if (fun c39 => ?_) (fun c39 => ?_)
          · replace h38 := i_pos c39 h38
            refine e_k 3 (f' := (if ¬ l3 = 24 then 265 else 255, [(12, .long v28), (0, .ref 112), (1, .int l1), (2, .int l2), (3, .int l3), (4, .int l4), (5, .int l5), (6, .int l6), (7, .long l7), (9, .int l9), (10, .long v19)], [])) rfl ?_
            refine e_if (fun c40 => ?_) (fun c40 => ?_)
            · replace h38 := i_pos c40 h38
              refine e_k 2 (f' := (269, [(12, .long v28), (0, .ref 112), (1, .int l1), (2, .int l2), (3, .int l3), (4, .int l4), (5, .int l5), (6, .int l6), (7, .long l7), (9, .int l9), (10, .long v19)], [.long v28, .long v19])) rfl ?_
              obtain ⟨v41, I41, J41, h41, h38⟩ := oc_call h38
              refine r_cs (z := m_Model_times) (As := [.long v19, .long v28]) (rest := []) rfl rfl rfl rfl rfl rfl (E_Model_times  h41 ⟨_, rfl, ?_⟩)
              refine e_sub (ls := [(0, .ref 112), (1, .int l1), (2, .int l2), (3, .int l3), (4, .int l4), (5, .int l5), (6, .int l6), (7, .long l7), (9, .int l9)]) rfl ⟨rfl, rfl, rfl, rfl, rfl, rfl, rfl, rfl, rfl, trivial⟩ ?_
              obtain ⟨rfl, rfl, rfl⟩ := s_inj h38
              exact Kj38
            · replace h38 := i_neg c40 h38
              refine e_k 2 (f' := (259, [(12, .long v28), (0, .ref 112), (1, .int l1), (2, .int l2), (3, .int l3), (4, .int l4), (5, .int l5), (6, .int l6), (7, .long l7), (9, .int l9), (10, .long v19)], [.long v28, .long v19])) rfl ?_
              obtain ⟨v42, I42, J42, h42, h38⟩ := oc_call h38
              refine r_cs (z := m_Model_minus) (As := [.long v19, .long v28]) (rest := []) rfl rfl rfl rfl rfl rfl (E_Model_minus  h42 ⟨_, rfl, ?_⟩)
              refine e_k 1 (f' := (272, [(12, .long v28), (0, .ref 112), (1, .int l1), (2, .int l2), (3, .int l3), (4, .int l4), (5, .int l5), (6, .int l6), (7, .long l7), (9, .int l9), (10, .long v19)], [.long v42])) rfl ?_
              refine e_sub (ls := [(0, .ref 112), (1, .int l1), (2, .int l2), (3, .int l3), (4, .int l4), (5, .int l5), (6, .int l6), (7, .long l7), (9, .int l9)]) rfl ⟨rfl, rfl, rfl, rfl, rfl, rfl, rfl, rfl, rfl, trivial⟩ ?_
              obtain ⟨rfl, rfl, rfl⟩ := s_inj h38
              exact Kj38
          · replace h38 := i_neg c39 h38
            refine e_k 2 (f' := (243, [(12, .long v28), (0, .ref 112), (1, .int l1), (2, .int l2), (3, .int l3), (4, .int l4), (5, .int l5), (6, .int l6), (7, .long l7), (9, .int l9), (10, .long v19)], [.long v28, .long v19])) rfl ?_
            obtain ⟨v43, I43, J43, h43, h38⟩ := oc_call h38
            refine r_cs (z := m_Model_plus) (As := [.long v19, .long v28]) (rest := []) rfl rfl rfl rfl rfl rfl (E_Model_plus  h43 ⟨_, rfl, ?_⟩)
            refine e_k 1 (f' := (272, [(12, .long v28), (0, .ref 112), (1, .int l1), (2, .int l2), (3, .int l3), (4, .int l4), (5, .int l5), (6, .int l6), (7, .long l7), (9, .int l9), (10, .long v19)], [.long v43])) rfl ?_
            refine e_sub (ls := [(0, .ref 112), (1, .int l1), (2, .int l2), (3, .int l3), (4, .int l4), (5, .int l5), (6, .int l6), (7, .long l7), (9, .int l9)]) rfl ⟨rfl, rfl, rfl, rfl, rfl, rfl, rfl, rfl, rfl, trivial⟩ ?_
            obtain ⟨rfl, rfl, rfl⟩ := s_inj h38
            exact Kj38
        clear hb
        refine e_if (fun c29 => ?_) (fun c29 => ?_)
        · replace h28 := i_pos c29 h28
          refine e_k 1 (f' := (222, [(10, .long v19), (0, .ref 112), (1, .int l1), (2, .int l2), (3, .int l3), (4, .int l4), (5, .int l5), (6, .int l6), (7, .long l7), (9, .int l9)], [.ref 112])) rfl ?_
          refine r_getr rfl (x_ltn rfl) rfl rfl ?_
          refine e_k 3 (f' := (230, [(10, .long v19), (0, .ref 112), (1, .int l1), (2, .int l2), (3, .int l3), (4, .int l4), (5, .int l5), (6, .int l6), (7, .long l7), (9, .int l9)], [.int (l6 + l9), .ref 143])) rfl ?_
          obtain ⟨o30, h28⟩ := ob_in h28
          refine r_lald rfl rfl (x_ltn rfl) rfl o30 ?_
          refine e_sub (ls := [(0, .ref 112), (1, .int l1), (2, .int l2), (3, .int l3), (4, .int l4), (5, .int l5), (6, .int l6), (7, .long l7), (9, .int l9), (10, .long v19)]) rfl ⟨rfl, rfl, rfl, rfl, rfl, rfl, rfl, rfl, rfl, rfl, trivial⟩ ?_
          obtain ⟨rfl, rfl, rfl⟩ := s_inj h28
          exact Kj28
        · replace h28 := i_neg c29 h28
          refine e_k 1 (f' := (190, [(10, .long v19), (0, .ref 112), (1, .int l1), (2, .int l2), (3, .int l3), (4, .int l4), (5, .int l5), (6, .int l6), (7, .long l7), (9, .int l9)], [.ref 112])) rfl ?_
          refine r_getr rfl (x_ltn rfl) rfl rfl ?_
          refine e_k 3 (f' := (198, [(10, .long v19), (0, .ref 112), (1, .int l1), (2, .int l2), (3, .int l3), (4, .int l4), (5, .int l5), (6, .int l6), (7, .long l7), (9, .int l9)], [.int (l6 + l9), .ref 143])) rfl ?_
          obtain ⟨o31, h28⟩ := ob_in h28
          refine r_lald rfl rfl (x_ltn rfl) rfl o31 ?_
          refine e_k 2 (f' := (201, [(10, .long v19), (0, .ref 112), (1, .int l1), (2, .int l2), (3, .int l3), (4, .int l4), (5, .int l5), (6, .int l6), (7, .long l7), (9, .int l9)], [.ref 112, .ref 112, .long (J19 143 (Int32.toNatClampNeg (l6 + l9)))])) rfl ?_
          refine r_getr rfl (x_ltn rfl) rfl rfl ?_
          refine e_k 1 (f' := (205, [(10, .long v19), (0, .ref 112), (1, .int l1), (2, .int l2), (3, .int l3), (4, .int l4), (5, .int l5), (6, .int l6), (7, .long l7), (9, .int l9)], [.int l1, .ref 135, .ref 112, .long (J19 143 (Int32.toNatClampNeg (l6 + l9)))])) rfl ?_
          obtain ⟨o32, h28⟩ := ob_in h28
          refine r_iald rfl rfl (x_ltn rfl) rfl o32 ?_
          refine e_k 5 (f' := (212, [(10, .long v19), (0, .ref 112), (1, .int l1), (2, .int l2), (3, .int l3), (4, .int l4), (5, .int l5), (6, .int l6), (7, .long l7), (9, .int l9)], [.int ((2 * l9) + 1), .int (I19 135 (Int32.toNatClampNeg l1)), .ref 112, .long (J19 143 (Int32.toNatClampNeg (l6 + l9)))])) rfl ?_
          obtain ⟨v33, I33, J33, h33, h28⟩ := oc_call h28
          refine r_cv (z := m_Model_error) (As := [.int (I19 135 (Int32.toNatClampNeg l1)), .int ((2 * l9) + 1)]) (rest := [.long (J19 143 (Int32.toNatClampNeg (l6 + l9)))]) rfl rfl rfl rfl rfl (x_ltn rfl) rfl rfl (E_Model_error  h33 ⟨_, rfl, ?_⟩)
          obtain ⟨v34, I34, J34, h34, h28⟩ := oc_call h28
          refine r_cs (z := m_Model_plus) (As := [.long (J19 143 (Int32.toNatClampNeg (l6 + l9))), .long v33]) (rest := []) rfl rfl rfl rfl rfl rfl (E_Model_plus  h34 ⟨_, rfl, ?_⟩)
          refine e_k 1 (f' := (231, [(10, .long v19), (0, .ref 112), (1, .int l1), (2, .int l2), (3, .int l3), (4, .int l4), (5, .int l5), (6, .int l6), (7, .long l7), (9, .int l9)], [.long v34])) rfl ?_
          refine e_sub (ls := [(0, .ref 112), (1, .int l1), (2, .int l2), (3, .int l3), (4, .int l4), (5, .int l5), (6, .int l6), (7, .long l7), (9, .int l9), (10, .long v19)]) rfl ⟨rfl, rfl, rfl, rfl, rfl, rfl, rfl, rfl, rfl, rfl, trivial⟩ ?_
          obtain ⟨rfl, rfl, rfl⟩ := s_inj h28
          exact Kj28
      clear hb
      refine e_if (fun c20 => ?_) (fun c20 => ?_)
      · replace h19 := i_pos c20 h19
        refine e_k 1 (f' := (173, [(0, .ref 112), (1, .int l1), (2, .int l2), (3, .int l3), (4, .int l4), (5, .int l5), (6, .int l6), (7, .long l7), (9, .int l9)], [.ref 112])) rfl ?_
        refine r_getr rfl (x_ltn rfl) rfl rfl ?_
        refine e_k 3 (f' := (181, [(0, .ref 112), (1, .int l1), (2, .int l2), (3, .int l3), (4, .int l4), (5, .int l5), (6, .int l6), (7, .long l7), (9, .int l9)], [.int (l5 + l9), .ref 143])) rfl ?_
        obtain ⟨o21, h19⟩ := ob_in h19
        refine r_lald rfl rfl (x_ltn rfl) rfl o21 ?_
        refine e_sub (ls := [(0, .ref 112), (1, .int l1), (2, .int l2), (3, .int l3), (4, .int l4), (5, .int l5), (6, .int l6), (7, .long l7), (9, .int l9)]) rfl ⟨rfl, rfl, rfl, rfl, rfl, rfl, rfl, rfl, rfl, trivial⟩ ?_
        obtain ⟨rfl, rfl, rfl⟩ := s_inj h19
        exact Kj19
      · replace h19 := i_neg c20 h19
        refine e_k 1 (f' := (143, [(0, .ref 112), (1, .int l1), (2, .int l2), (3, .int l3), (4, .int l4), (5, .int l5), (6, .int l6), (7, .long l7), (9, .int l9)], [.ref 112])) rfl ?_
        refine r_getr rfl (x_ltn rfl) rfl rfl ?_
        refine e_k 3 (f' := (151, [(0, .ref 112), (1, .int l1), (2, .int l2), (3, .int l3), (4, .int l4), (5, .int l5), (6, .int l6), (7, .long l7), (9, .int l9)], [.int (l5 + l9), .ref 143])) rfl ?_
        obtain ⟨o22, h19⟩ := ob_in h19
        refine r_lald rfl rfl (x_ltn rfl) rfl o22 ?_
        refine e_k 2 (f' := (154, [(0, .ref 112), (1, .int l1), (2, .int l2), (3, .int l3), (4, .int l4), (5, .int l5), (6, .int l6), (7, .long l7), (9, .int l9)], [.ref 112, .ref 112, .long (J 143 (Int32.toNatClampNeg (l5 + l9)))])) rfl ?_
        refine r_getr rfl (x_ltn rfl) rfl rfl ?_
        refine e_k 1 (f' := (158, [(0, .ref 112), (1, .int l1), (2, .int l2), (3, .int l3), (4, .int l4), (5, .int l5), (6, .int l6), (7, .long l7), (9, .int l9)], [.int l1, .ref 135, .ref 112, .long (J 143 (Int32.toNatClampNeg (l5 + l9)))])) rfl ?_
        obtain ⟨o23, h19⟩ := ob_in h19
        refine r_iald rfl rfl (x_ltn rfl) rfl o23 ?_
        refine e_k 3 (f' := (163, [(0, .ref 112), (1, .int l1), (2, .int l2), (3, .int l3), (4, .int l4), (5, .int l5), (6, .int l6), (7, .long l7), (9, .int l9)], [.int (2 * l9), .int (I 135 (Int32.toNatClampNeg l1)), .ref 112, .long (J 143 (Int32.toNatClampNeg (l5 + l9)))])) rfl ?_
        obtain ⟨v24, I24, J24, h24, h19⟩ := oc_call h19
        refine r_cv (z := m_Model_error) (As := [.int (I 135 (Int32.toNatClampNeg l1)), .int (2 * l9)]) (rest := [.long (J 143 (Int32.toNatClampNeg (l5 + l9)))]) rfl rfl rfl rfl rfl (x_ltn rfl) rfl rfl (E_Model_error  h24 ⟨_, rfl, ?_⟩)
        obtain ⟨v25, I25, J25, h25, h19⟩ := oc_call h19
        refine r_cs (z := m_Model_plus) (As := [.long (J 143 (Int32.toNatClampNeg (l5 + l9))), .long v24]) (rest := []) rfl rfl rfl rfl rfl rfl (E_Model_plus  h25 ⟨_, rfl, ?_⟩)
        refine e_k 1 (f' := (182, [(0, .ref 112), (1, .int l1), (2, .int l2), (3, .int l3), (4, .int l4), (5, .int l5), (6, .int l6), (7, .long l7), (9, .int l9)], [.long v25])) rfl ?_
        refine e_sub (ls := [(0, .ref 112), (1, .int l1), (2, .int l2), (3, .int l3), (4, .int l4), (5, .int l5), (6, .int l6), (7, .long l7), (9, .int l9)]) rfl ⟨rfl, rfl, rfl, rfl, rfl, rfl, rfl, rfl, rfl, trivial⟩ ?_
        obtain ⟨rfl, rfl, rfl⟩ := s_inj h19
        exact Kj19
theorem E_Model_rows {p2 : Int32} {p3 : Int32} {X : MX} {I : MI} {J : MJ} {v : Int32} {I' : MI} {J' : MJ} (hb : f_Model_rows p2 p3 I J = some (v, I', J')) (K : P (.inl (some (.int v))) (hX X I' J')) : am_E (gG L xs) (d + 3) m_Model_rows (0, lv_args 0 [.ref 112, .int p2, .int p3], []) (hX X I J) P := by
  unfold f_Model_rows at hb
  refine e_k 1 (f' := (1, [(0, .ref 112), (1, .int p2), (2, .int p3)], [.ref 112])) rfl ?_
  refine r_getr rfl (x_ltn rfl) rfl rfl ?_
  refine e_k 1 (f' := (5, [(0, .ref 112), (1, .int p2), (2, .int p3)], [.int p3, .ref 114])) rfl ?_
  obtain ⟨o1, hb⟩ := ob_in hb
  refine r_iald rfl rfl (x_ltn rfl) rfl o1 ?_
  refine e_k 1 (f' := (7, [(3, .int (I 114 (Int32.toNatClampNeg p3))), (0, .ref 112), (1, .int p2), (2, .int p3)], [])) rfl ?_
  obtain ⟨x2, ex2, hb⟩ := p_nm hb
  rw [← ex2]
  refine e_k 2 (f' := (9, [(3, .int x2), (0, .ref 112), (1, .int p2), (2, .int p3)], [.int p3, .ref 112])) rfl ?_
  obtain ⟨v3, I3, J3, h3, hb⟩ := oc_call hb
  refine r_cv (z := m_Model_isJoint) (As := [.int p3]) (rest := []) rfl rfl rfl rfl rfl (x_ltn rfl) rfl rfl (E_Model_isJoint  h3 ⟨_, rfl, ?_⟩)
  refine e_k 3 (f' := (if v3 = 0 then 60 else 19, [(4, .int v3), (3, .int x2), (0, .ref 112), (1, .int p2), (2, .int p3)], [])) rfl ?_
  refine e_if (fun c4 => ?_) (fun c4 => ?_)
  · replace hb := i_pos c4 hb
    refine e_k 2 (f' := (if v3 = 0 then 76 else 65, [(4, .int v3), (3, .int x2), (0, .ref 112), (1, .int p2), (2, .int p3)], [])) rfl ?_
    refine e_if (fun c5 => ?_) (fun c5 => ?_)
    · replace hb := i_pos c5 hb
      refine e_k 2 (f' := (78, [(4, .int v3), (3, .int x2), (0, .ref 112), (1, .int p2), (2, .int p3)], [.ref 112, .int p2])) rfl ?_
      refine r_getr rfl (x_ltn rfl) rfl rfl ?_
      refine e_k 4 (f' := (if ¬ x2 = 26 then 92 else 88, [(4, .int v3), (3, .int x2), (0, .ref 112), (1, .int p2), (2, .int p3)], [.int p3, .ref 114, .int p2])) rfl ?_
      obtain ⟨v7, h7, hb⟩ := p_nn hb
      have Kj7 : am_E (gG L xs) (d + 3) m_Model_rows (93, [(0, .ref 112), (1, .int p2), (2, .int p3), (3, .int x2), (4, .int v3)], [.int v7, .int p3, .ref 114, .int p2]) (hX X I3 J3) P := by
        refine e_k 1 (f' := (94, [(0, .ref 112), (1, .int p2), (2, .int p3), (3, .int x2), (4, .int v3)], [.int (p3 + v7), .ref 114, .int p2])) rfl ?_
        obtain ⟨o9, hb⟩ := ob_in hb
        refine r_iald rfl rfl (x_ltn rfl) rfl o9 ?_
        obtain ⟨v10, I10, J10, h10, hb⟩ := oc_call hb
        refine r_cs (z := m_Model_row) (As := [.int p2, .int (I3 114 (Int32.toNatClampNeg (p3 + v7)))]) (rest := []) rfl rfl rfl rfl rfl rfl (E_Model_row  h10 ⟨_, rfl, ?_⟩)
        refine e_k 3 (f' := (102, [(5, .int v10), (0, .ref 112), (1, .int p2), (2, .int p3), (3, .int x2), (4, .int v3)], [.ref 112, .int p2])) rfl ?_
        refine r_getr rfl (x_ltn rfl) rfl rfl ?_
        refine e_k 4 (f' := (if ¬ x2 = 26 then 116 else 112, [(5, .int v10), (0, .ref 112), (1, .int p2), (2, .int p3), (3, .int x2), (4, .int v3)], [.int p3, .ref 114, .int p2])) rfl ?_
        obtain ⟨v12, h12, hb⟩ := p_nn hb
        have Kj12 : am_E (gG L xs) (d + 3) m_Model_rows (117, [(0, .ref 112), (1, .int p2), (2, .int p3), (3, .int x2), (4, .int v3), (5, .int v10)], [.int v12, .int p3, .ref 114, .int p2]) (hX X I10 J10) P := by
          refine e_k 1 (f' := (118, [(0, .ref 112), (1, .int p2), (2, .int p3), (3, .int x2), (4, .int v3), (5, .int v10)], [.int (p3 + v12), .ref 114, .int p2])) rfl ?_
          obtain ⟨o14, hb⟩ := ob_in hb
          refine r_iald rfl rfl (x_ltn rfl) rfl o14 ?_
          obtain ⟨v15, I15, J15, h15, hb⟩ := oc_call hb
          refine r_cs (z := m_Model_row) (As := [.int p2, .int (I10 114 (Int32.toNatClampNeg (p3 + v12)))]) (rest := []) rfl rfl rfl rfl rfl rfl (E_Model_row  h15 ⟨_, rfl, ?_⟩)
          refine e_k 5 (f' := (130, [(9, .int 0), (7, .long 0), (6, .int v15), (0, .ref 112), (1, .int p2), (2, .int p3), (3, .int x2), (4, .int v3), (5, .int v10)], [])) rfl ?_
          refine e_sub (ls := [(0, .ref 112), (1, .int p2), (2, .int p3), (3, .int x2), (4, .int v3), (5, .int v10), (6, .int v15), (7, .long 0), (9, .int 0)]) rfl ⟨rfl, rfl, rfl, rfl, rfl, rfl, rfl, rfl, rfl, trivial⟩ ?_
          obtain ⟨u50, I50, J50, h50, hb⟩ := oc_call hb
          refine E_Model_rows_130  gF  h50 ?_
          refine e_k 3 (f' := (if ¬ x2 = 26 then 330 else 323, [(0, .ref 112), (1, .int p2), (3, .int x2), (4, .int v3), (7, .long u50)], [])) rfl ?_
          obtain ⟨v52, I52, J52, h52, hb⟩ := oc_call hb
          have Kj52 : am_E (gG L xs) (d + 3) m_Model_rows (330, [(0, .ref 112), (1, .int p2), (4, .int v3)], []) (hX X I52 J52) P := by
            refine e_k 2 (f' := (if v3 = 0 then 343 else 335, [(0, .ref 112), (1, .int p2), (4, .int v3)], [])) rfl ?_
            refine e_if (fun c55 => ?_) (fun c55 => ?_)
            · replace hb := i_pos c55 hb
              refine e_k 2 (f' := (345, [(0, .ref 112), (1, .int p2), (4, .int v3)], [.int p2, .ref 112])) rfl ?_
              obtain ⟨v56, I56, J56, h56, hb⟩ := oc_call hb
              refine r_cv (z := m_Model_next) (As := [.int p2]) (rest := []) rfl rfl rfl rfl rfl (x_ltn rfl) rfl rfl (E_Model_next  h56 ⟨_, rfl, ?_⟩)
              refine e_k 1 (f' := (349, [(0, .ref 112), (1, .int p2), (4, .int v3)], [.int 1])) rfl ?_
              obtain ⟨rfl, rfl, rfl⟩ := s_inj hb
              exact e_r rfl rfl K
            · replace hb := i_neg c55 hb
              refine e_k 2 (f' := (337, [(0, .ref 112), (1, .int p2), (4, .int v3)], [.int p2, .ref 112])) rfl ?_
              obtain ⟨v57, I57, J57, h57, hb⟩ := oc_call hb
              refine r_cv (z := m_Model_received) (As := [.int p2]) (rest := []) rfl rfl rfl rfl rfl (x_ltn rfl) rfl rfl (E_Model_received  h57 ⟨_, rfl, ?_⟩)
              refine e_k 2 (f' := (349, [(0, .ref 112), (1, .int p2), (4, .int v3)], [.int 1])) rfl ?_
              obtain ⟨rfl, rfl, rfl⟩ := s_inj hb
              exact e_r rfl rfl K
          clear hb
          refine e_if (fun c53 => ?_) (fun c53 => ?_)
          · replace h52 := i_pos c53 h52
            refine e_sub (ls := [(0, .ref 112), (1, .int p2), (4, .int v3)]) rfl ⟨rfl, rfl, rfl, trivial⟩ ?_
            obtain ⟨rfl, rfl, rfl⟩ := s_inj h52
            exact Kj52
          · replace h52 := i_neg c53 h52
            refine e_k 3 (f' := (327, [(0, .ref 112), (1, .int p2), (3, .int x2), (4, .int v3), (7, .long u50)], [.long u50, .int p2, .ref 112])) rfl ?_
            obtain ⟨v54, I54, J54, h54, h52⟩ := oc_call h52
            refine r_cv (z := m_Model_push) (As := [.int p2, .long u50]) (rest := []) rfl rfl rfl rfl rfl (x_ltn rfl) rfl rfl (E_Model_push  h54 ⟨_, rfl, ?_⟩)
            refine e_sub (ls := [(0, .ref 112), (1, .int p2), (4, .int v3)]) rfl ⟨rfl, rfl, rfl, trivial⟩ ?_
            obtain ⟨rfl, rfl, rfl⟩ := s_inj h52
            exact Kj52
        clear hb
        refine e_if (fun c13 => ?_) (fun c13 => ?_)
        · replace h12 := i_pos c13 h12
          refine e_k 1 (f' := (117, [(5, .int v10), (0, .ref 112), (1, .int p2), (2, .int p3), (3, .int x2), (4, .int v3)], [.int 3, .int p3, .ref 114, .int p2])) rfl ?_
          refine e_sub (ls := [(0, .ref 112), (1, .int p2), (2, .int p3), (3, .int x2), (4, .int v3), (5, .int v10)]) rfl ⟨rfl, rfl, rfl, rfl, rfl, rfl, trivial⟩ ?_
          subst h12
          exact Kj12
        · replace h12 := i_neg c13 h12
          refine e_k 2 (f' := (117, [(5, .int v10), (0, .ref 112), (1, .int p2), (2, .int p3), (3, .int x2), (4, .int v3)], [.int 2, .int p3, .ref 114, .int p2])) rfl ?_
          refine e_sub (ls := [(0, .ref 112), (1, .int p2), (2, .int p3), (3, .int x2), (4, .int v3), (5, .int v10)]) rfl ⟨rfl, rfl, rfl, rfl, rfl, rfl, trivial⟩ ?_
          subst h12
          exact Kj12
      clear hb
      refine e_if (fun c8 => ?_) (fun c8 => ?_)
      · replace h7 := i_pos c8 h7
        refine e_k 1 (f' := (93, [(4, .int v3), (3, .int x2), (0, .ref 112), (1, .int p2), (2, .int p3)], [.int 2, .int p3, .ref 114, .int p2])) rfl ?_
        refine e_sub (ls := [(0, .ref 112), (1, .int p2), (2, .int p3), (3, .int x2), (4, .int v3)]) rfl ⟨rfl, rfl, rfl, rfl, rfl, trivial⟩ ?_
        subst h7
        exact Kj7
      · replace h7 := i_neg c8 h7
        refine e_k 2 (f' := (93, [(4, .int v3), (3, .int x2), (0, .ref 112), (1, .int p2), (2, .int p3)], [.int 1, .int p3, .ref 114, .int p2])) rfl ?_
        refine e_sub (ls := [(0, .ref 112), (1, .int p2), (2, .int p3), (3, .int x2), (4, .int v3)]) rfl ⟨rfl, rfl, rfl, rfl, rfl, trivial⟩ ?_
        subst h7
        exact Kj7
    · replace hb := i_neg c5 hb
      refine e_k 3 (f' := (68, [(4, .int v3), (3, .int x2), (0, .ref 112), (1, .int p2), (2, .int p3)], [.int (-1), .int p2, .ref 112])) rfl ?_
      obtain ⟨v58, I58, J58, h58, hb⟩ := oc_call hb
      refine r_cv (z := m_Model_receive) (As := [.int p2, .int (-1)]) (rest := []) rfl rfl rfl rfl rfl (x_ltn rfl) rfl rfl (E_Model_receive  h58 ⟨_, rfl, ?_⟩)
      refine e_k 1 (f' := (if ¬ v58 = 0 then 76 else 74, [(4, .int v3), (3, .int x2), (0, .ref 112), (1, .int p2), (2, .int p3)], [])) rfl ?_
      refine e_if (fun c59 => ?_) (fun c59 => ?_)
      · replace hb := i_pos c59 hb
        refine e_k 2 (f' := (78, [(4, .int v3), (3, .int x2), (0, .ref 112), (1, .int p2), (2, .int p3)], [.ref 112, .int p2])) rfl ?_
        refine r_getr rfl (x_ltn rfl) rfl rfl ?_
        refine e_k 4 (f' := (if ¬ x2 = 26 then 92 else 88, [(4, .int v3), (3, .int x2), (0, .ref 112), (1, .int p2), (2, .int p3)], [.int p3, .ref 114, .int p2])) rfl ?_
        obtain ⟨v61, h61, hb⟩ := p_nn hb
        have Kj61 : am_E (gG L xs) (d + 3) m_Model_rows (93, [(0, .ref 112), (1, .int p2), (2, .int p3), (3, .int x2), (4, .int v3)], [.int v61, .int p3, .ref 114, .int p2]) (hX X I58 J58) P := by
          refine e_k 1 (f' := (94, [(0, .ref 112), (1, .int p2), (2, .int p3), (3, .int x2), (4, .int v3)], [.int (p3 + v61), .ref 114, .int p2])) rfl ?_
          obtain ⟨o63, hb⟩ := ob_in hb
          refine r_iald rfl rfl (x_ltn rfl) rfl o63 ?_
          obtain ⟨v64, I64, J64, h64, hb⟩ := oc_call hb
          refine r_cs (z := m_Model_row) (As := [.int p2, .int (I58 114 (Int32.toNatClampNeg (p3 + v61)))]) (rest := []) rfl rfl rfl rfl rfl rfl (E_Model_row  h64 ⟨_, rfl, ?_⟩)
          refine e_k 3 (f' := (102, [(5, .int v64), (0, .ref 112), (1, .int p2), (2, .int p3), (3, .int x2), (4, .int v3)], [.ref 112, .int p2])) rfl ?_
          refine r_getr rfl (x_ltn rfl) rfl rfl ?_
          refine e_k 4 (f' := (if ¬ x2 = 26 then 116 else 112, [(5, .int v64), (0, .ref 112), (1, .int p2), (2, .int p3), (3, .int x2), (4, .int v3)], [.int p3, .ref 114, .int p2])) rfl ?_
          obtain ⟨v66, h66, hb⟩ := p_nn hb
          have Kj66 : am_E (gG L xs) (d + 3) m_Model_rows (117, [(0, .ref 112), (1, .int p2), (2, .int p3), (3, .int x2), (4, .int v3), (5, .int v64)], [.int v66, .int p3, .ref 114, .int p2]) (hX X I64 J64) P := by
            refine e_k 1 (f' := (118, [(0, .ref 112), (1, .int p2), (2, .int p3), (3, .int x2), (4, .int v3), (5, .int v64)], [.int (p3 + v66), .ref 114, .int p2])) rfl ?_
            obtain ⟨o68, hb⟩ := ob_in hb
            refine r_iald rfl rfl (x_ltn rfl) rfl o68 ?_
            obtain ⟨v69, I69, J69, h69, hb⟩ := oc_call hb
            refine r_cs (z := m_Model_row) (As := [.int p2, .int (I64 114 (Int32.toNatClampNeg (p3 + v66)))]) (rest := []) rfl rfl rfl rfl rfl rfl (E_Model_row  h69 ⟨_, rfl, ?_⟩)
            refine e_k 5 (f' := (130, [(9, .int 0), (7, .long 0), (6, .int v69), (0, .ref 112), (1, .int p2), (2, .int p3), (3, .int x2), (4, .int v3), (5, .int v64)], [])) rfl ?_
            refine e_sub (ls := [(0, .ref 112), (1, .int p2), (2, .int p3), (3, .int x2), (4, .int v3), (5, .int v64), (6, .int v69), (7, .long 0), (9, .int 0)]) rfl ⟨rfl, rfl, rfl, rfl, rfl, rfl, rfl, rfl, rfl, trivial⟩ ?_
            obtain ⟨u70, I70, J70, h70, hb⟩ := oc_call hb
            refine E_Model_rows_130  gF  h70 ?_
            refine e_k 3 (f' := (if ¬ x2 = 26 then 330 else 323, [(0, .ref 112), (1, .int p2), (3, .int x2), (4, .int v3), (7, .long u70)], [])) rfl ?_
            obtain ⟨v72, I72, J72, h72, hb⟩ := oc_call hb
            have Kj72 : am_E (gG L xs) (d + 3) m_Model_rows (330, [(0, .ref 112), (1, .int p2), (4, .int v3)], []) (hX X I72 J72) P := by
              refine e_k 2 (f' := (if v3 = 0 then 343 else 335, [(0, .ref 112), (1, .int p2), (4, .int v3)], [])) rfl ?_
              refine e_if (fun c75 => ?_) (fun c75 => ?_)
              · replace hb := i_pos c75 hb
                refine e_k 2 (f' := (345, [(0, .ref 112), (1, .int p2), (4, .int v3)], [.int p2, .ref 112])) rfl ?_
                obtain ⟨v76, I76, J76, h76, hb⟩ := oc_call hb
                refine r_cv (z := m_Model_next) (As := [.int p2]) (rest := []) rfl rfl rfl rfl rfl (x_ltn rfl) rfl rfl (E_Model_next  h76 ⟨_, rfl, ?_⟩)
                refine e_k 1 (f' := (349, [(0, .ref 112), (1, .int p2), (4, .int v3)], [.int 1])) rfl ?_
                obtain ⟨rfl, rfl, rfl⟩ := s_inj hb
                exact e_r rfl rfl K
              · replace hb := i_neg c75 hb
                refine e_k 2 (f' := (337, [(0, .ref 112), (1, .int p2), (4, .int v3)], [.int p2, .ref 112])) rfl ?_
                obtain ⟨v77, I77, J77, h77, hb⟩ := oc_call hb
                refine r_cv (z := m_Model_received) (As := [.int p2]) (rest := []) rfl rfl rfl rfl rfl (x_ltn rfl) rfl rfl (E_Model_received  h77 ⟨_, rfl, ?_⟩)
                refine e_k 2 (f' := (349, [(0, .ref 112), (1, .int p2), (4, .int v3)], [.int 1])) rfl ?_
                obtain ⟨rfl, rfl, rfl⟩ := s_inj hb
                exact e_r rfl rfl K
            clear hb
            refine e_if (fun c73 => ?_) (fun c73 => ?_)
            · replace h72 := i_pos c73 h72
              refine e_sub (ls := [(0, .ref 112), (1, .int p2), (4, .int v3)]) rfl ⟨rfl, rfl, rfl, trivial⟩ ?_
              obtain ⟨rfl, rfl, rfl⟩ := s_inj h72
              exact Kj72
            · replace h72 := i_neg c73 h72
              refine e_k 3 (f' := (327, [(0, .ref 112), (1, .int p2), (3, .int x2), (4, .int v3), (7, .long u70)], [.long u70, .int p2, .ref 112])) rfl ?_
              obtain ⟨v74, I74, J74, h74, h72⟩ := oc_call h72
              refine r_cv (z := m_Model_push) (As := [.int p2, .long u70]) (rest := []) rfl rfl rfl rfl rfl (x_ltn rfl) rfl rfl (E_Model_push  h74 ⟨_, rfl, ?_⟩)
              refine e_sub (ls := [(0, .ref 112), (1, .int p2), (4, .int v3)]) rfl ⟨rfl, rfl, rfl, trivial⟩ ?_
              obtain ⟨rfl, rfl, rfl⟩ := s_inj h72
              exact Kj72
          clear hb
          refine e_if (fun c67 => ?_) (fun c67 => ?_)
          · replace h66 := i_pos c67 h66
            refine e_k 1 (f' := (117, [(5, .int v64), (0, .ref 112), (1, .int p2), (2, .int p3), (3, .int x2), (4, .int v3)], [.int 3, .int p3, .ref 114, .int p2])) rfl ?_
            refine e_sub (ls := [(0, .ref 112), (1, .int p2), (2, .int p3), (3, .int x2), (4, .int v3), (5, .int v64)]) rfl ⟨rfl, rfl, rfl, rfl, rfl, rfl, trivial⟩ ?_
            subst h66
            exact Kj66
          · replace h66 := i_neg c67 h66
            refine e_k 2 (f' := (117, [(5, .int v64), (0, .ref 112), (1, .int p2), (2, .int p3), (3, .int x2), (4, .int v3)], [.int 2, .int p3, .ref 114, .int p2])) rfl ?_
            refine e_sub (ls := [(0, .ref 112), (1, .int p2), (2, .int p3), (3, .int x2), (4, .int v3), (5, .int v64)]) rfl ⟨rfl, rfl, rfl, rfl, rfl, rfl, trivial⟩ ?_
            subst h66
            exact Kj66
        clear hb
        refine e_if (fun c62 => ?_) (fun c62 => ?_)
        · replace h61 := i_pos c62 h61
          refine e_k 1 (f' := (93, [(4, .int v3), (3, .int x2), (0, .ref 112), (1, .int p2), (2, .int p3)], [.int 2, .int p3, .ref 114, .int p2])) rfl ?_
          refine e_sub (ls := [(0, .ref 112), (1, .int p2), (2, .int p3), (3, .int x2), (4, .int v3)]) rfl ⟨rfl, rfl, rfl, rfl, rfl, trivial⟩ ?_
          subst h61
          exact Kj61
        · replace h61 := i_neg c62 h61
          refine e_k 2 (f' := (93, [(4, .int v3), (3, .int x2), (0, .ref 112), (1, .int p2), (2, .int p3)], [.int 1, .int p3, .ref 114, .int p2])) rfl ?_
          refine e_sub (ls := [(0, .ref 112), (1, .int p2), (2, .int p3), (3, .int x2), (4, .int v3)]) rfl ⟨rfl, rfl, rfl, rfl, rfl, trivial⟩ ?_
          subst h61
          exact Kj61
      · replace hb := i_neg c59 hb
        refine e_k 1 (f' := (75, [(4, .int v3), (3, .int x2), (0, .ref 112), (1, .int p2), (2, .int p3)], [.int 0])) rfl ?_
        obtain ⟨rfl, rfl, rfl⟩ := s_inj hb
        exact e_r rfl rfl K
  · replace hb := i_neg c4 hb
    refine e_k 1 (f' := (20, [(4, .int v3), (3, .int x2), (0, .ref 112), (1, .int p2), (2, .int p3)], [.ref 112])) rfl ?_
    refine r_getr rfl (x_ltn rfl) rfl rfl ?_
    refine e_k 1 (f' := (24, [(4, .int v3), (3, .int x2), (0, .ref 112), (1, .int p2), (2, .int p3)], [.int p2, .ref 128])) rfl ?_
    obtain ⟨o78, hb⟩ := ob_in hb
    refine r_iald rfl rfl (x_ltn rfl) rfl o78 ?_
    refine e_k 1 (f' := (if ¬ (I3 128 (Int32.toNatClampNeg p2)) = 0 then 60 else 28, [(4, .int v3), (3, .int x2), (0, .ref 112), (1, .int p2), (2, .int p3)], [])) rfl ?_
    refine e_if (fun c79 => ?_) (fun c79 => ?_)
    · replace hb := i_pos c79 hb
      refine e_k 2 (f' := (if v3 = 0 then 76 else 65, [(4, .int v3), (3, .int x2), (0, .ref 112), (1, .int p2), (2, .int p3)], [])) rfl ?_
      refine e_if (fun c80 => ?_) (fun c80 => ?_)
      · replace hb := i_pos c80 hb
        refine e_k 2 (f' := (78, [(4, .int v3), (3, .int x2), (0, .ref 112), (1, .int p2), (2, .int p3)], [.ref 112, .int p2])) rfl ?_
        refine r_getr rfl (x_ltn rfl) rfl rfl ?_
        refine e_k 4 (f' := (if ¬ x2 = 26 then 92 else 88, [(4, .int v3), (3, .int x2), (0, .ref 112), (1, .int p2), (2, .int p3)], [.int p3, .ref 114, .int p2])) rfl ?_
        obtain ⟨v82, h82, hb⟩ := p_nn hb
        have Kj82 : am_E (gG L xs) (d + 3) m_Model_rows (93, [(0, .ref 112), (1, .int p2), (2, .int p3), (3, .int x2), (4, .int v3)], [.int v82, .int p3, .ref 114, .int p2]) (hX X I3 J3) P := by
          refine e_k 1 (f' := (94, [(0, .ref 112), (1, .int p2), (2, .int p3), (3, .int x2), (4, .int v3)], [.int (p3 + v82), .ref 114, .int p2])) rfl ?_
          obtain ⟨o84, hb⟩ := ob_in hb
          refine r_iald rfl rfl (x_ltn rfl) rfl o84 ?_
          obtain ⟨v85, I85, J85, h85, hb⟩ := oc_call hb
          refine r_cs (z := m_Model_row) (As := [.int p2, .int (I3 114 (Int32.toNatClampNeg (p3 + v82)))]) (rest := []) rfl rfl rfl rfl rfl rfl (E_Model_row  h85 ⟨_, rfl, ?_⟩)
          refine e_k 3 (f' := (102, [(5, .int v85), (0, .ref 112), (1, .int p2), (2, .int p3), (3, .int x2), (4, .int v3)], [.ref 112, .int p2])) rfl ?_
          refine r_getr rfl (x_ltn rfl) rfl rfl ?_
          refine e_k 4 (f' := (if ¬ x2 = 26 then 116 else 112, [(5, .int v85), (0, .ref 112), (1, .int p2), (2, .int p3), (3, .int x2), (4, .int v3)], [.int p3, .ref 114, .int p2])) rfl ?_
          obtain ⟨v87, h87, hb⟩ := p_nn hb
          have Kj87 : am_E (gG L xs) (d + 3) m_Model_rows (117, [(0, .ref 112), (1, .int p2), (2, .int p3), (3, .int x2), (4, .int v3), (5, .int v85)], [.int v87, .int p3, .ref 114, .int p2]) (hX X I85 J85) P := by
            refine e_k 1 (f' := (118, [(0, .ref 112), (1, .int p2), (2, .int p3), (3, .int x2), (4, .int v3), (5, .int v85)], [.int (p3 + v87), .ref 114, .int p2])) rfl ?_
            obtain ⟨o89, hb⟩ := ob_in hb
            refine r_iald rfl rfl (x_ltn rfl) rfl o89 ?_
            obtain ⟨v90, I90, J90, h90, hb⟩ := oc_call hb
            refine r_cs (z := m_Model_row) (As := [.int p2, .int (I85 114 (Int32.toNatClampNeg (p3 + v87)))]) (rest := []) rfl rfl rfl rfl rfl rfl (E_Model_row  h90 ⟨_, rfl, ?_⟩)
            refine e_k 5 (f' := (130, [(9, .int 0), (7, .long 0), (6, .int v90), (0, .ref 112), (1, .int p2), (2, .int p3), (3, .int x2), (4, .int v3), (5, .int v85)], [])) rfl ?_
            refine e_sub (ls := [(0, .ref 112), (1, .int p2), (2, .int p3), (3, .int x2), (4, .int v3), (5, .int v85), (6, .int v90), (7, .long 0), (9, .int 0)]) rfl ⟨rfl, rfl, rfl, rfl, rfl, rfl, rfl, rfl, rfl, trivial⟩ ?_
            obtain ⟨u91, I91, J91, h91, hb⟩ := oc_call hb
            refine E_Model_rows_130  gF  h91 ?_
            refine e_k 3 (f' := (if ¬ x2 = 26 then 330 else 323, [(0, .ref 112), (1, .int p2), (3, .int x2), (4, .int v3), (7, .long u91)], [])) rfl ?_
            obtain ⟨v93, I93, J93, h93, hb⟩ := oc_call hb
            have Kj93 : am_E (gG L xs) (d + 3) m_Model_rows (330, [(0, .ref 112), (1, .int p2), (4, .int v3)], []) (hX X I93 J93) P := by
              refine e_k 2 (f' := (if v3 = 0 then 343 else 335, [(0, .ref 112), (1, .int p2), (4, .int v3)], [])) rfl ?_
              refine e_if (fun c96 => ?_) (fun c96 => ?_)
              · replace hb := i_pos c96 hb
                refine e_k 2 (f' := (345, [(0, .ref 112), (1, .int p2), (4, .int v3)], [.int p2, .ref 112])) rfl ?_
                obtain ⟨v97, I97, J97, h97, hb⟩ := oc_call hb
                refine r_cv (z := m_Model_next) (As := [.int p2]) (rest := []) rfl rfl rfl rfl rfl (x_ltn rfl) rfl rfl (E_Model_next  h97 ⟨_, rfl, ?_⟩)
                refine e_k 1 (f' := (349, [(0, .ref 112), (1, .int p2), (4, .int v3)], [.int 1])) rfl ?_
                obtain ⟨rfl, rfl, rfl⟩ := s_inj hb
                exact e_r rfl rfl K
              · replace hb := i_neg c96 hb
                refine e_k 2 (f' := (337, [(0, .ref 112), (1, .int p2), (4, .int v3)], [.int p2, .ref 112])) rfl ?_
                obtain ⟨v98, I98, J98, h98, hb⟩ := oc_call hb
                refine r_cv (z := m_Model_received) (As := [.int p2]) (rest := []) rfl rfl rfl rfl rfl (x_ltn rfl) rfl rfl (E_Model_received  h98 ⟨_, rfl, ?_⟩)
                refine e_k 2 (f' := (349, [(0, .ref 112), (1, .int p2), (4, .int v3)], [.int 1])) rfl ?_
                obtain ⟨rfl, rfl, rfl⟩ := s_inj hb
                exact e_r rfl rfl K
            clear hb
            refine e_if (fun c94 => ?_) (fun c94 => ?_)
            · replace h93 := i_pos c94 h93
              refine e_sub (ls := [(0, .ref 112), (1, .int p2), (4, .int v3)]) rfl ⟨rfl, rfl, rfl, trivial⟩ ?_
              obtain ⟨rfl, rfl, rfl⟩ := s_inj h93
              exact Kj93
            · replace h93 := i_neg c94 h93
              refine e_k 3 (f' := (327, [(0, .ref 112), (1, .int p2), (3, .int x2), (4, .int v3), (7, .long u91)], [.long u91, .int p2, .ref 112])) rfl ?_
              obtain ⟨v95, I95, J95, h95, h93⟩ := oc_call h93
              refine r_cv (z := m_Model_push) (As := [.int p2, .long u91]) (rest := []) rfl rfl rfl rfl rfl (x_ltn rfl) rfl rfl (E_Model_push  h95 ⟨_, rfl, ?_⟩)
              refine e_sub (ls := [(0, .ref 112), (1, .int p2), (4, .int v3)]) rfl ⟨rfl, rfl, rfl, trivial⟩ ?_
              obtain ⟨rfl, rfl, rfl⟩ := s_inj h93
              exact Kj93
          clear hb
          refine e_if (fun c88 => ?_) (fun c88 => ?_)
          · replace h87 := i_pos c88 h87
            refine e_k 1 (f' := (117, [(5, .int v85), (0, .ref 112), (1, .int p2), (2, .int p3), (3, .int x2), (4, .int v3)], [.int 3, .int p3, .ref 114, .int p2])) rfl ?_
            refine e_sub (ls := [(0, .ref 112), (1, .int p2), (2, .int p3), (3, .int x2), (4, .int v3), (5, .int v85)]) rfl ⟨rfl, rfl, rfl, rfl, rfl, rfl, trivial⟩ ?_
            subst h87
            exact Kj87
          · replace h87 := i_neg c88 h87
            refine e_k 2 (f' := (117, [(5, .int v85), (0, .ref 112), (1, .int p2), (2, .int p3), (3, .int x2), (4, .int v3)], [.int 2, .int p3, .ref 114, .int p2])) rfl ?_
            refine e_sub (ls := [(0, .ref 112), (1, .int p2), (2, .int p3), (3, .int x2), (4, .int v3), (5, .int v85)]) rfl ⟨rfl, rfl, rfl, rfl, rfl, rfl, trivial⟩ ?_
            subst h87
            exact Kj87
        clear hb
        refine e_if (fun c83 => ?_) (fun c83 => ?_)
        · replace h82 := i_pos c83 h82
          refine e_k 1 (f' := (93, [(4, .int v3), (3, .int x2), (0, .ref 112), (1, .int p2), (2, .int p3)], [.int 2, .int p3, .ref 114, .int p2])) rfl ?_
          refine e_sub (ls := [(0, .ref 112), (1, .int p2), (2, .int p3), (3, .int x2), (4, .int v3)]) rfl ⟨rfl, rfl, rfl, rfl, rfl, trivial⟩ ?_
          subst h82
          exact Kj82
        · replace h82 := i_neg c83 h82
          refine e_k 2 (f' := (93, [(4, .int v3), (3, .int x2), (0, .ref 112), (1, .int p2), (2, .int p3)], [.int 1, .int p3, .ref 114, .int p2])) rfl ?_
          refine e_sub (ls := [(0, .ref 112), (1, .int p2), (2, .int p3), (3, .int x2), (4, .int v3)]) rfl ⟨rfl, rfl, rfl, rfl, rfl, trivial⟩ ?_
          subst h82
          exact Kj82
      · replace hb := i_neg c80 hb
        refine e_k 3 (f' := (68, [(4, .int v3), (3, .int x2), (0, .ref 112), (1, .int p2), (2, .int p3)], [.int (-1), .int p2, .ref 112])) rfl ?_
        obtain ⟨v99, I99, J99, h99, hb⟩ := oc_call hb
        refine r_cv (z := m_Model_receive) (As := [.int p2, .int (-1)]) (rest := []) rfl rfl rfl rfl rfl (x_ltn rfl) rfl rfl (E_Model_receive  h99 ⟨_, rfl, ?_⟩)
        refine e_k 1 (f' := (if ¬ v99 = 0 then 76 else 74, [(4, .int v3), (3, .int x2), (0, .ref 112), (1, .int p2), (2, .int p3)], [])) rfl ?_
        refine e_if (fun c100 => ?_) (fun c100 => ?_)
        · replace hb := i_pos c100 hb
          refine e_k 2 (f' := (78, [(4, .int v3), (3, .int x2), (0, .ref 112), (1, .int p2), (2, .int p3)], [.ref 112, .int p2])) rfl ?_
          refine r_getr rfl (x_ltn rfl) rfl rfl ?_
          refine e_k 4 (f' := (if ¬ x2 = 26 then 92 else 88, [(4, .int v3), (3, .int x2), (0, .ref 112), (1, .int p2), (2, .int p3)], [.int p3, .ref 114, .int p2])) rfl ?_
          obtain ⟨v102, h102, hb⟩ := p_nn hb
          have Kj102 : am_E (gG L xs) (d + 3) m_Model_rows (93, [(0, .ref 112), (1, .int p2), (2, .int p3), (3, .int x2), (4, .int v3)], [.int v102, .int p3, .ref 114, .int p2]) (hX X I99 J99) P := by
            refine e_k 1 (f' := (94, [(0, .ref 112), (1, .int p2), (2, .int p3), (3, .int x2), (4, .int v3)], [.int (p3 + v102), .ref 114, .int p2])) rfl ?_
            obtain ⟨o104, hb⟩ := ob_in hb
            refine r_iald rfl rfl (x_ltn rfl) rfl o104 ?_
            obtain ⟨v105, I105, J105, h105, hb⟩ := oc_call hb
            refine r_cs (z := m_Model_row) (As := [.int p2, .int (I99 114 (Int32.toNatClampNeg (p3 + v102)))]) (rest := []) rfl rfl rfl rfl rfl rfl (E_Model_row  h105 ⟨_, rfl, ?_⟩)
            refine e_k 3 (f' := (102, [(5, .int v105), (0, .ref 112), (1, .int p2), (2, .int p3), (3, .int x2), (4, .int v3)], [.ref 112, .int p2])) rfl ?_
            refine r_getr rfl (x_ltn rfl) rfl rfl ?_
            refine e_k 4 (f' := (if ¬ x2 = 26 then 116 else 112, [(5, .int v105), (0, .ref 112), (1, .int p2), (2, .int p3), (3, .int x2), (4, .int v3)], [.int p3, .ref 114, .int p2])) rfl ?_
            obtain ⟨v107, h107, hb⟩ := p_nn hb
            have Kj107 : am_E (gG L xs) (d + 3) m_Model_rows (117, [(0, .ref 112), (1, .int p2), (2, .int p3), (3, .int x2), (4, .int v3), (5, .int v105)], [.int v107, .int p3, .ref 114, .int p2]) (hX X I105 J105) P := by
              refine e_k 1 (f' := (118, [(0, .ref 112), (1, .int p2), (2, .int p3), (3, .int x2), (4, .int v3), (5, .int v105)], [.int (p3 + v107), .ref 114, .int p2])) rfl ?_
              obtain ⟨o109, hb⟩ := ob_in hb
              refine r_iald rfl rfl (x_ltn rfl) rfl o109 ?_
              obtain ⟨v110, I110, J110, h110, hb⟩ := oc_call hb
              refine r_cs (z := m_Model_row) (As := [.int p2, .int (I105 114 (Int32.toNatClampNeg (p3 + v107)))]) (rest := []) rfl rfl rfl rfl rfl rfl (E_Model_row  h110 ⟨_, rfl, ?_⟩)
              refine e_k 5 (f' := (130, [(9, .int 0), (7, .long 0), (6, .int v110), (0, .ref 112), (1, .int p2), (2, .int p3), (3, .int x2), (4, .int v3), (5, .int v105)], [])) rfl ?_
              refine e_sub (ls := [(0, .ref 112), (1, .int p2), (2, .int p3), (3, .int x2), (4, .int v3), (5, .int v105), (6, .int v110), (7, .long 0), (9, .int 0)]) rfl ⟨rfl, rfl, rfl, rfl, rfl, rfl, rfl, rfl, rfl, trivial⟩ ?_
              obtain ⟨u111, I111, J111, h111, hb⟩ := oc_call hb
              refine E_Model_rows_130  gF  h111 ?_
              refine e_k 3 (f' := (if ¬ x2 = 26 then 330 else 323, [(0, .ref 112), (1, .int p2), (3, .int x2), (4, .int v3), (7, .long u111)], [])) rfl ?_
              obtain ⟨v113, I113, J113, h113, hb⟩ := oc_call hb
              have Kj113 : am_E (gG L xs) (d + 3) m_Model_rows (330, [(0, .ref 112), (1, .int p2), (4, .int v3)], []) (hX X I113 J113) P := by
                refine e_k 2 (f' := (if v3 = 0 then 343 else 335, [(0, .ref 112), (1, .int p2), (4, .int v3)], [])) rfl ?_
                refine e_if (fun c116 => ?_) (fun c116 => ?_)
                · replace hb := i_pos c116 hb
                  refine e_k 2 (f' := (345, [(0, .ref 112), (1, .int p2), (4, .int v3)], [.int p2, .ref 112])) rfl ?_
                  obtain ⟨v117, I117, J117, h117, hb⟩ := oc_call hb
                  refine r_cv (z := m_Model_next) (As := [.int p2]) (rest := []) rfl rfl rfl rfl rfl (x_ltn rfl) rfl rfl (E_Model_next  h117 ⟨_, rfl, ?_⟩)
                  refine e_k 1 (f' := (349, [(0, .ref 112), (1, .int p2), (4, .int v3)], [.int 1])) rfl ?_
                  obtain ⟨rfl, rfl, rfl⟩ := s_inj hb
                  exact e_r rfl rfl K
                · replace hb := i_neg c116 hb
                  refine e_k 2 (f' := (337, [(0, .ref 112), (1, .int p2), (4, .int v3)], [.int p2, .ref 112])) rfl ?_
                  obtain ⟨v118, I118, J118, h118, hb⟩ := oc_call hb
                  refine r_cv (z := m_Model_received) (As := [.int p2]) (rest := []) rfl rfl rfl rfl rfl (x_ltn rfl) rfl rfl (E_Model_received  h118 ⟨_, rfl, ?_⟩)
                  refine e_k 2 (f' := (349, [(0, .ref 112), (1, .int p2), (4, .int v3)], [.int 1])) rfl ?_
                  obtain ⟨rfl, rfl, rfl⟩ := s_inj hb
                  exact e_r rfl rfl K
              clear hb
              refine e_if (fun c114 => ?_) (fun c114 => ?_)
              · replace h113 := i_pos c114 h113
                refine e_sub (ls := [(0, .ref 112), (1, .int p2), (4, .int v3)]) rfl ⟨rfl, rfl, rfl, trivial⟩ ?_
                obtain ⟨rfl, rfl, rfl⟩ := s_inj h113
                exact Kj113
              · replace h113 := i_neg c114 h113
                refine e_k 3 (f' := (327, [(0, .ref 112), (1, .int p2), (3, .int x2), (4, .int v3), (7, .long u111)], [.long u111, .int p2, .ref 112])) rfl ?_
                obtain ⟨v115, I115, J115, h115, h113⟩ := oc_call h113
                refine r_cv (z := m_Model_push) (As := [.int p2, .long u111]) (rest := []) rfl rfl rfl rfl rfl (x_ltn rfl) rfl rfl (E_Model_push  h115 ⟨_, rfl, ?_⟩)
                refine e_sub (ls := [(0, .ref 112), (1, .int p2), (4, .int v3)]) rfl ⟨rfl, rfl, rfl, trivial⟩ ?_
                obtain ⟨rfl, rfl, rfl⟩ := s_inj h113
                exact Kj113
            clear hb
            refine e_if (fun c108 => ?_) (fun c108 => ?_)
            · replace h107 := i_pos c108 h107
              refine e_k 1 (f' := (117, [(5, .int v105), (0, .ref 112), (1, .int p2), (2, .int p3), (3, .int x2), (4, .int v3)], [.int 3, .int p3, .ref 114, .int p2])) rfl ?_
              refine e_sub (ls := [(0, .ref 112), (1, .int p2), (2, .int p3), (3, .int x2), (4, .int v3), (5, .int v105)]) rfl ⟨rfl, rfl, rfl, rfl, rfl, rfl, trivial⟩ ?_
              subst h107
              exact Kj107
            · replace h107 := i_neg c108 h107
              refine e_k 2 (f' := (117, [(5, .int v105), (0, .ref 112), (1, .int p2), (2, .int p3), (3, .int x2), (4, .int v3)], [.int 2, .int p3, .ref 114, .int p2])) rfl ?_
              refine e_sub (ls := [(0, .ref 112), (1, .int p2), (2, .int p3), (3, .int x2), (4, .int v3), (5, .int v105)]) rfl ⟨rfl, rfl, rfl, rfl, rfl, rfl, trivial⟩ ?_
              subst h107
              exact Kj107
          clear hb
          refine e_if (fun c103 => ?_) (fun c103 => ?_)
          · replace h102 := i_pos c103 h102
            refine e_k 1 (f' := (93, [(4, .int v3), (3, .int x2), (0, .ref 112), (1, .int p2), (2, .int p3)], [.int 2, .int p3, .ref 114, .int p2])) rfl ?_
            refine e_sub (ls := [(0, .ref 112), (1, .int p2), (2, .int p3), (3, .int x2), (4, .int v3)]) rfl ⟨rfl, rfl, rfl, rfl, rfl, trivial⟩ ?_
            subst h102
            exact Kj102
          · replace h102 := i_neg c103 h102
            refine e_k 2 (f' := (93, [(4, .int v3), (3, .int x2), (0, .ref 112), (1, .int p2), (2, .int p3)], [.int 1, .int p3, .ref 114, .int p2])) rfl ?_
            refine e_sub (ls := [(0, .ref 112), (1, .int p2), (2, .int p3), (3, .int x2), (4, .int v3)]) rfl ⟨rfl, rfl, rfl, rfl, rfl, trivial⟩ ?_
            subst h102
            exact Kj102
        · replace hb := i_neg c100 hb
          refine e_k 1 (f' := (75, [(4, .int v3), (3, .int x2), (0, .ref 112), (1, .int p2), (2, .int p3)], [.int 0])) rfl ?_
          obtain ⟨rfl, rfl, rfl⟩ := s_inj hb
          exact e_r rfl rfl K
    · replace hb := i_neg c79 hb
      refine e_k 4 (f' := (32, [(4, .int v3), (3, .int x2), (0, .ref 112), (1, .int p2), (2, .int p3)], [.long 0, .int 5, .int p2, .ref 112])) rfl ?_
      obtain ⟨v119, I119, J119, h119, hb⟩ := oc_call hb
      refine r_cv (z := m_Model_send) (As := [.int p2, .int 5, .long 0]) (rest := []) rfl rfl rfl rfl rfl (x_ltn rfl) rfl rfl (E_Model_send  h119 ⟨_, rfl, ?_⟩)
      refine e_k 1 (f' := (if ¬ v119 = 0 then 40 else 38, [(4, .int v3), (3, .int x2), (0, .ref 112), (1, .int p2), (2, .int p3)], [])) rfl ?_
      refine e_if (fun c120 => ?_) (fun c120 => ?_)
      · replace hb := i_pos c120 hb
        refine e_k 1 (f' := (41, [(4, .int v3), (3, .int x2), (0, .ref 112), (1, .int p2), (2, .int p3)], [.ref 112])) rfl ?_
        refine r_getr rfl (x_ltn rfl) rfl rfl ?_
        refine e_k 2 (f' := (46, [(4, .int v3), (3, .int x2), (0, .ref 112), (1, .int p2), (2, .int p3)], [.int p2, .ref 121, .int p2, .ref 121])) rfl ?_
        obtain ⟨o121, hb⟩ := ob_in hb
        refine r_iald rfl rfl (x_ltn rfl) rfl o121 ?_
        refine e_k 2 (f' := (50, [(4, .int v3), (3, .int x2), (0, .ref 112), (1, .int p2), (2, .int p3)], [.int ((I119 121 (Int32.toNatClampNeg p2)) + 16), .int p2, .ref 121])) rfl ?_
        obtain ⟨o122, hb⟩ := ob_in hb
        obtain ⟨I123, eI123, hb⟩ := p_nm hb
        refine r_iast' rfl (x_ltn rfl) rfl o122 eI123 ?_
        refine e_k 1 (f' := (52, [(4, .int v3), (3, .int x2), (0, .ref 112), (1, .int p2), (2, .int p3)], [.ref 112])) rfl ?_
        refine r_getr rfl (x_ltn rfl) rfl rfl ?_
        refine e_k 2 (f' := (57, [(4, .int v3), (3, .int x2), (0, .ref 112), (1, .int p2), (2, .int p3)], [.int 1, .int p2, .ref 128])) rfl ?_
        obtain ⟨o124, hb⟩ := ob_in hb
        obtain ⟨I125, eI125, hb⟩ := p_nm hb
        refine r_iast' rfl (x_ltn rfl) rfl o124 eI125 ?_
        refine e_k 1 (f' := (59, [(4, .int v3), (3, .int x2), (0, .ref 112), (1, .int p2), (2, .int p3)], [.int 1])) rfl ?_
        obtain ⟨rfl, rfl, rfl⟩ := s_inj hb
        exact e_r rfl rfl K
      · replace hb := i_neg c120 hb
        refine e_k 1 (f' := (39, [(4, .int v3), (3, .int x2), (0, .ref 112), (1, .int p2), (2, .int p3)], [.int 0])) rfl ?_
        obtain ⟨rfl, rfl, rfl⟩ := s_inj hb
        exact e_r rfl rfl K
theorem E_Model_brings {p2 : Int32} {p3 : Int32} {X : MX} {I : MI} {J : MJ} {v : Int32} {I' : MI} {J' : MJ} (hb : f_Model_brings p2 p3 I J = some (v, I', J')) (K : P (.inl (some (.int v))) (hX X I' J')) : am_E (gG L xs) (d + 3) m_Model_brings (0, lv_args 0 [.ref 112, .int p2, .int p3], []) (hX X I J) P := by
  unfold f_Model_brings at hb
  refine e_k 6 (f' := (6, [(3, .int ((4 * p2) + p3)), (0, .ref 112), (1, .int p2), (2, .int p3)], [])) rfl ?_
  obtain ⟨x1, ex1, hb⟩ := p_nm hb
  rw [← ex1]
  refine e_k 1 (f' := (7, [(3, .int x1), (0, .ref 112), (1, .int p2), (2, .int p3)], [.ref 112])) rfl ?_
  refine r_getr rfl (x_ltn rfl) rfl rfl ?_
  refine e_k 1 (f' := (11, [(3, .int x1), (0, .ref 112), (1, .int p2), (2, .int p3)], [.int x1, .ref 148])) rfl ?_
  obtain ⟨o2, hb⟩ := ob_in hb
  refine r_iald rfl rfl (x_ltn rfl) rfl o2 ?_
  refine e_k 1 (f' := (if (I 148 (Int32.toNatClampNeg x1)) ≤ 0 then 37 else 15, [(3, .int x1), (0, .ref 112), (1, .int p2), (2, .int p3)], [])) rfl ?_
  refine e_if (fun c3 => ?_) (fun c3 => ?_)
  · replace hb := i_pos c3 hb
    refine e_k 1 (f' := (38, [(3, .int x1), (0, .ref 112), (1, .int p2), (2, .int p3)], [.ref 112])) rfl ?_
    refine r_getr rfl (x_ltn rfl) rfl rfl ?_
    refine e_k 1 (f' := (42, [(3, .int x1), (0, .ref 112), (1, .int p2), (2, .int p3)], [.int x1, .ref 149])) rfl ?_
    obtain ⟨o4, hb⟩ := ob_in hb
    refine r_zald rfl rfl (x_ltn rfl) rfl o4 ?_
    refine e_k 1 (f' := (if ¬ (I 149 (Int32.toNatClampNeg x1)) = 0 then 48 else 46, [(3, .int x1), (0, .ref 112), (1, .int p2), (2, .int p3)], [])) rfl ?_
    refine e_if (fun c5 => ?_) (fun c5 => ?_)
    · replace hb := i_pos c5 hb
      refine e_k 1 (f' := (49, [(3, .int x1), (0, .ref 112), (1, .int p2), (2, .int p3)], [.ref 112])) rfl ?_
      refine r_getr rfl (x_ltn rfl) rfl rfl ?_
      refine e_k 2 (f' := (54, [(3, .int x1), (0, .ref 112), (1, .int p2), (2, .int p3)], [.int 0, .int x1, .ref 149])) rfl ?_
      obtain ⟨o6, hb⟩ := ob_in hb
      obtain ⟨I7, eI7, hb⟩ := p_nm hb
      refine r_zast' rfl (x_ltn rfl) rfl o6 eI7 ?_
      refine e_k 1 (f' := (56, [(3, .int x1), (0, .ref 112), (1, .int p2), (2, .int p3)], [.ref 112])) rfl ?_
      refine r_getr rfl (x_ltn rfl) rfl rfl ?_
      refine e_k 2 (f' := (61, [(3, .int x1), (0, .ref 112), (1, .int p2), (2, .int p3)], [.ref 112, .int p3, .ref 139])) rfl ?_
      refine r_getr rfl (x_ltn rfl) rfl rfl ?_
      refine e_k 1 (f' := (65, [(3, .int x1), (0, .ref 112), (1, .int p2), (2, .int p3)], [.int p3, .ref 139, .int p3, .ref 139])) rfl ?_
      obtain ⟨o8, hb⟩ := ob_in hb
      refine r_zald rfl rfl (x_ltn rfl) rfl o8 ?_
      refine e_k 1 (f' := (if ¬ (I7 139 (Int32.toNatClampNeg p3)) = 0 then 78 else 69, [(3, .int x1), (0, .ref 112), (1, .int p2), (2, .int p3)], [.int p3, .ref 139])) rfl ?_
      obtain ⟨v10, I10, J10, h10, hb⟩ := oc_call hb
      have Kj10 : am_E (gG L xs) (d + 3) m_Model_brings (83, [], [.int v10, .int p3, .ref 139]) (hX X I10 J10) P := by
        obtain ⟨o14, hb⟩ := ob_in hb
        obtain ⟨I15, eI15, hb⟩ := p_nm hb
        refine r_zast' rfl (x_ltn rfl) rfl o14 eI15 ?_
        refine e_k 1 (f' := (85, [], [.int 1])) rfl ?_
        obtain ⟨rfl, rfl, rfl⟩ := s_inj hb
        exact e_r rfl rfl K
      clear hb
      refine e_if (fun c11 => ?_) (fun c11 => ?_)
      · replace h10 := i_pos c11 h10
        refine e_k 2 (f' := (83, [(3, .int x1), (0, .ref 112), (1, .int p2), (2, .int p3)], [.int 1, .int p3, .ref 139])) rfl ?_
        refine e_sub (ls := []) rfl ⟨⟩ ?_
        obtain ⟨rfl, rfl, rfl⟩ := s_inj h10
        exact Kj10
      · replace h10 := i_neg c11 h10
        refine e_k 2 (f' := (71, [(3, .int x1), (0, .ref 112), (1, .int p2), (2, .int p3)], [.int p3, .ref 112, .int p3, .ref 139])) rfl ?_
        obtain ⟨v12, I12, J12, h12, h10⟩ := oc_call h10
        refine r_cv (z := m_Model_statusOf) (As := [.int p3]) (rest := [.int p3, .ref 139]) rfl rfl rfl rfl rfl (x_ltn rfl) rfl rfl (E_Model_statusOf  h12 ⟨_, rfl, ?_⟩)
        refine e_k 2 (f' := (if ¬ v12 = 1 then 82 else 78, [(3, .int x1), (0, .ref 112), (1, .int p2), (2, .int p3)], [.int p3, .ref 139])) rfl ?_
        refine e_if (fun c13 => ?_) (fun c13 => ?_)
        · replace h10 := i_pos c13 h10
          refine e_k 1 (f' := (83, [(3, .int x1), (0, .ref 112), (1, .int p2), (2, .int p3)], [.int 0, .int p3, .ref 139])) rfl ?_
          refine e_sub (ls := []) rfl ⟨⟩ ?_
          obtain ⟨rfl, rfl, rfl⟩ := s_inj h10
          exact Kj10
        · replace h10 := i_neg c13 h10
          refine e_k 2 (f' := (83, [(3, .int x1), (0, .ref 112), (1, .int p2), (2, .int p3)], [.int 1, .int p3, .ref 139])) rfl ?_
          refine e_sub (ls := []) rfl ⟨⟩ ?_
          obtain ⟨rfl, rfl, rfl⟩ := s_inj h10
          exact Kj10
    · replace hb := i_neg c5 hb
      refine e_k 1 (f' := (47, [(3, .int x1), (0, .ref 112), (1, .int p2), (2, .int p3)], [.int 0])) rfl ?_
      obtain ⟨rfl, rfl, rfl⟩ := s_inj hb
      exact e_r rfl rfl K
  · replace hb := i_neg c3 hb
    refine e_k 1 (f' := (16, [(3, .int x1), (0, .ref 112), (1, .int p2), (2, .int p3)], [.ref 112])) rfl ?_
    refine r_getr rfl (x_ltn rfl) rfl rfl ?_
    refine e_k 2 (f' := (21, [(3, .int x1), (0, .ref 112), (1, .int p2), (2, .int p3)], [.int x1, .ref 148, .int x1, .ref 148])) rfl ?_
    obtain ⟨o16, hb⟩ := ob_in hb
    refine r_iald rfl rfl (x_ltn rfl) rfl o16 ?_
    refine e_k 2 (f' := (24, [(3, .int x1), (0, .ref 112), (1, .int p2), (2, .int p3)], [.int ((I 148 (Int32.toNatClampNeg x1)) - 1), .int x1, .ref 148])) rfl ?_
    obtain ⟨o17, hb⟩ := ob_in hb
    obtain ⟨I18, eI18, hb⟩ := p_nm hb
    refine r_iast' rfl (x_ltn rfl) rfl o17 eI18 ?_
    refine e_k 1 (f' := (26, [(3, .int x1), (0, .ref 112), (1, .int p2), (2, .int p3)], [.ref 112])) rfl ?_
    refine r_getr rfl (x_ltn rfl) rfl rfl ?_
    refine e_k 2 (f' := (31, [(3, .int x1), (0, .ref 112), (1, .int p2), (2, .int p3)], [.int x1, .ref 150, .int x1, .ref 150])) rfl ?_
    obtain ⟨o19, hb⟩ := ob_in hb
    refine r_iald rfl rfl (x_ltn rfl) rfl o19 ?_
    refine e_k 2 (f' := (34, [(3, .int x1), (0, .ref 112), (1, .int p2), (2, .int p3)], [.int ((I18 150 (Int32.toNatClampNeg x1)) + 1), .int x1, .ref 150])) rfl ?_
    obtain ⟨o20, hb⟩ := ob_in hb
    obtain ⟨I21, eI21, hb⟩ := p_nm hb
    refine r_iast' rfl (x_ltn rfl) rfl o20 eI21 ?_
    refine e_k 1 (f' := (36, [(3, .int x1), (0, .ref 112), (1, .int p2), (2, .int p3)], [.int 1])) rfl ?_
    obtain ⟨rfl, rfl, rfl⟩ := s_inj hb
    exact e_r rfl rfl K
end AUTO
