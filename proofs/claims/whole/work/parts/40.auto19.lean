section AUTO
variable {L : Nat} {xs : Nat → Int32} {d : Nat} {P : am_R → am_H → Prop}
theorem E_Hall_bondByte {w2 : Nat} {p3 : Int32} {p4 : Int32} {X : MX} {I : MI} {J : MJ} {v : Int32} {I' : MI} {J' : MJ} (hw_w2 : w2 < 4) (hb : f_Hall_bondByte w2 p3 p4 I J = some (v, I', J')) (K : P (.inl (some (.int v))) (hX X I' J')) : am_E (gG L xs) (d + 2) m_Hall_bondByte (0, lv_args 0 [.ref 14, .ref (18 + 21 * w2), .int p3, .int p4], []) (hX X I J) P := by
  unfold f_Hall_bondByte at hb
  refine e_k 2 (f' := (2, [(0, .ref 14), (1, .ref (18 + 21 * w2)), (2, .int p3), (3, .int p4)], [.int p3, .ref 14])) rfl ?_
  obtain ⟨v1, I1, J1, h1, hb⟩ := oc_call hb
  refine r_cv (z := m_Hall_has) (As := [.int p3]) (rest := []) rfl rfl rfl rfl rfl (x_ltn rfl) rfl rfl (E_Hall_has  h1 ⟨_, rfl, ?_⟩)
  refine e_k 1 (f' := (if v1 = 0 then 20 else 8, [(0, .ref 14), (1, .ref (18 + 21 * w2)), (2, .int p3), (3, .int p4)], [])) rfl ?_
  obtain ⟨v3, I3, J3, h3, hb⟩ := oc_call hb
  have Kj3 : am_E (gG L xs) (d + 2) m_Hall_bondByte (21, [(0, .ref 14), (2, .int p3), (3, .int p4)], [.int v3]) (hX X I3 J3) P := by
    refine e_k 2 (f' := (24, [(4, .int v3), (0, .ref 14), (2, .int p3), (3, .int p4)], [.ref 14])) rfl ?_
    refine r_getr rfl (x_ltn rfl) rfl rfl ?_
    refine e_k 2 (f' := (29, [(4, .int v3), (0, .ref 14), (2, .int p3), (3, .int p4)], [.int p3, .ref 14, .ref 108])) rfl ?_
    obtain ⟨v6, I6, J6, h6, hb⟩ := oc_call hb
    refine r_cv (z := m_Hall_ownSeed) (As := [.int p3]) (rest := [.ref 108]) rfl rfl rfl rfl rfl (x_ltn rfl) rfl rfl (E_Hall_ownSeed  h6 ⟨_, rfl, ?_⟩)
    refine e_k 2 (f' := (35, [(4, .int v3), (0, .ref 14), (2, .int p3), (3, .int p4)], [.long (Int32.toInt64 v3), .long v6, .ref 108])) rfl ?_
    obtain ⟨v7, I7, J7, h7, hb⟩ := oc_call hb
    refine r_cv (z := m_Digest_next) (As := [.long v6, .long (Int32.toInt64 v3)]) (rest := []) rfl rfl rfl rfl rfl (x_ltn rfl) rfl rfl (E_Digest_next  h7 ⟨_, rfl, ?_⟩)
    refine e_k 2 (f' := (41, [(5, .long v7), (4, .int v3), (0, .ref 14), (2, .int p3), (3, .int p4)], [.ref 14])) rfl ?_
    refine r_getr rfl (x_ltn rfl) rfl rfl ?_
    refine e_k 2 (f' := (46, [(5, .long v7), (4, .int v3), (0, .ref 14), (2, .int p3), (3, .int p4)], [.int p3, .ref 14, .ref 108])) rfl ?_
    obtain ⟨v8, I8, J8, h8, hb⟩ := oc_call hb
    refine r_cv (z := m_Hall_ownSeed) (As := [.int p3]) (rest := [.ref 108]) rfl rfl rfl rfl rfl (x_ltn rfl) rfl rfl (E_Hall_ownSeed  h8 ⟨_, rfl, ?_⟩)
    refine e_k 4 (f' := (54, [(5, .long v7), (4, .int v3), (0, .ref 14), (2, .int p3), (3, .int p4)], [.long (Int32.toInt64 (v3 + 1)), .long v8, .ref 108])) rfl ?_
    obtain ⟨v9, I9, J9, h9, hb⟩ := oc_call hb
    refine r_cv (z := m_Digest_next) (As := [.long v8, .long (Int32.toInt64 (v3 + 1))]) (rest := []) rfl rfl rfl rfl rfl (x_ltn rfl) rfl rfl (E_Digest_next  h9 ⟨_, rfl, ?_⟩)
    refine e_k 2 (f' := (60, [(7, .long v9), (5, .long v7), (4, .int v3), (0, .ref 14), (2, .int p3), (3, .int p4)], [.ref 14])) rfl ?_
    refine r_getr rfl (x_ltn rfl) rfl rfl ?_
    refine e_k 3 (f' := (68, [(7, .long v9), (5, .long v7), (4, .int v3), (0, .ref 14), (2, .int p3), (3, .int p4)], [.int p4, .long v9, .long v7, .ref 108])) rfl ?_
    obtain ⟨v10, I10, J10, h10, hb⟩ := oc_call hb
    refine r_cv (z := m_Digest_byteOf) (As := [.long v7, .long v9, .int p4]) (rest := []) rfl rfl rfl rfl rfl (x_ltn rfl) rfl rfl (E_Digest_byteOf  h10 ⟨_, rfl, ?_⟩)
    obtain ⟨rfl, rfl, rfl⟩ := s_inj hb
    exact e_r rfl rfl K
  clear hb
  refine e_if (fun c4 => ?_) (fun c4 => ?_)
  · replace h3 := i_pos c4 h3
    refine e_k 1 (f' := (21, [(0, .ref 14), (1, .ref (18 + 21 * w2)), (2, .int p3), (3, .int p4)], [.int 0])) rfl ?_
    refine e_sub (ls := [(0, .ref 14), (2, .int p3), (3, .int p4)]) rfl ⟨rfl, rfl, rfl, trivial⟩ ?_
    obtain ⟨rfl, rfl, rfl⟩ := s_inj h3
    exact Kj3
  · replace h3 := i_neg c4 h3
    refine e_k 1 (f' := (9, [(0, .ref 14), (1, .ref (18 + 21 * w2)), (2, .int p3), (3, .int p4)], [.ref (18 + 21 * w2)])) rfl ?_
    refine r_getr rfl (x_ltp hw_w2 (by decide)) (sS_p0 hw_w2) rfl ?_
    refine r_getr rfl (x_ltp hw_w2 (by decide)) (sS_p7 hw_w2) rfl ?_
    refine e_k 1 (f' := (16, [(0, .ref 14), (1, .ref (18 + 21 * w2)), (2, .int p3), (3, .int p4)], [.int p3, .ref (28 + 21 * w2)])) rfl ?_
    obtain ⟨o5, h3⟩ := ob_in h3
    refine r_iald rfl (x_t0 hw_w2 (by decide)) (x_ltp hw_w2 (by decide)) (sS_p10 hw_w2) o5 ?_
    refine e_k 1 (f' := (21, [(0, .ref 14), (1, .ref (18 + 21 * w2)), (2, .int p3), (3, .int p4)], [.int (I1 (28 + 21 * w2) (Int32.toNatClampNeg p3))])) rfl ?_
    refine e_sub (ls := [(0, .ref 14), (2, .int p3), (3, .int p4)]) rfl ⟨rfl, rfl, rfl, trivial⟩ ?_
    obtain ⟨rfl, rfl, rfl⟩ := s_inj h3
    exact Kj3
theorem E_Party_startAnew {w1 : Nat} {X : MX} {I : MI} {J : MJ} {v : Unit} {I' : MI} {J' : MJ} (hw_w1 : w1 < 4) (hb : f_Party_startAnew w1 I J = some (v, I', J')) (K : P (.inl (none)) (hX X I' J')) : am_E (gG L xs) (d + 2) m_Party_startAnew (0, lv_args 0 [.ref (18 + 21 * w1)], []) (hX X I J) P := by
  unfold f_Party_startAnew at hb
  refine e_k 1 (f' := (1, [(0, .ref (18 + 21 * w1))], [.ref (18 + 21 * w1)])) rfl ?_
  refine r_getr rfl (x_ltp hw_w1 (by decide)) (sS_p0 hw_w1) rfl ?_
  obtain ⟨v1, I1, J1, h1, hb⟩ := oc_call hb
  refine r_cv (z := m_Memory_wipe) (As := []) (rest := []) rfl rfl rfl rfl rfl (x_ltp hw_w1 (by decide)) (sS_p1 hw_w1) rfl (E_Memory_wipe hw_w1 h1 ⟨_, rfl, ?_⟩)
  refine e_k 1 (f' := (8, [(0, .ref (18 + 21 * w1))], [.ref (18 + 21 * w1)])) rfl ?_
  refine r_getr rfl (x_ltp hw_w1 (by decide)) (sS_p0 hw_w1) rfl ?_
  obtain ⟨v2, I2, J2, h2, hb⟩ := oc_call hb
  refine r_cv (z := m_Check_startAnew) (As := []) (rest := []) rfl rfl rfl rfl rfl (x_ltp hw_w1 (by decide)) (sS_p7 hw_w1) rfl (E_Check_startAnew hw_w1 h2 ⟨_, rfl, ?_⟩)
  refine e_k 1 (f' := (15, [(0, .ref (18 + 21 * w1))], [.ref (18 + 21 * w1)])) rfl ?_
  refine r_getr rfl (x_ltp hw_w1 (by decide)) (sS_p0 hw_w1) rfl ?_
  obtain ⟨v3, I3, J3, h3, hb⟩ := oc_call hb
  refine r_cv (z := m_Post_wipe) (As := []) (rest := []) rfl rfl rfl rfl rfl (x_ltp hw_w1 (by decide)) (sS_p14 hw_w1) rfl (E_Post_wipe hw_w1 h3 ⟨_, rfl, ?_⟩)
  refine e_k 2 (f' := (23, [(0, .ref (18 + 21 * w1))], [.int 0, .ref (18 + 21 * w1)])) rfl ?_
  obtain ⟨I4, eI4, hb⟩ := p_nm hb
  refine r_puti' rfl (x_ltp hw_w1 (by decide)) (sS_p0 hw_w1) rfl eI4 ?_
  refine e_k 2 (f' := (28, [(0, .ref (18 + 21 * w1))], [.int 0, .ref (18 + 21 * w1)])) rfl ?_
  obtain ⟨I5, eI5, hb⟩ := p_nm hb
  refine r_puti' rfl (x_ltp hw_w1 (by decide)) (sS_p0 hw_w1) rfl eI5 ?_
  refine e_k 2 (f' := (33, [(0, .ref (18 + 21 * w1))], [.int 0, .ref (18 + 21 * w1)])) rfl ?_
  obtain ⟨I6, eI6, hb⟩ := p_nm hb
  refine r_puti' rfl (x_ltp hw_w1 (by decide)) (sS_p0 hw_w1) rfl eI6 ?_
  refine e_k 2 (f' := (38, [(0, .ref (18 + 21 * w1))], [.int 0, .ref (18 + 21 * w1)])) rfl ?_
  obtain ⟨I7, eI7, hb⟩ := p_nm hb
  refine r_puti' rfl (x_ltp hw_w1 (by decide)) (sS_p0 hw_w1) rfl eI7 ?_
  obtain ⟨rfl, rfl, rfl⟩ := s_inj hb
  exact e_r rfl rfl K
theorem E_Translator_finish_22 {X : MX} : ∀ (fu : Nat) {l1 : Int32} {I : MI} {J : MJ} {r : (Unit)} {I' : MI} {J' : MJ}, f_Translator_finish_22  fu l1 I J = some (r, I', J') → am_E (gG L xs) (d + 1) m_Translator_finish (77, [(0, .ref 3)], []) (hX X I' J') P → am_E (gG L xs) (d + 1) m_Translator_finish (22, [(0, .ref 3), (1, .int l1)], []) (hX X I J) P := by
  intro fu
  induction fu with
  | zero =>
    intros
    rename_i hb _
    cases hb
  | succ fu ih =>
    intro l1 I J r I' J' hb K
    unfold f_Translator_finish_22 at hb
    refine e_k 2 (f' := (24, [(0, .ref 3), (1, .int l1)], [.ref 3, .int l1])) rfl ?_
    refine r_getr rfl (x_ltn rfl) rfl rfl ?_
    refine r_alen rfl rfl (x_ltn rfl) rfl rfl ?_
    refine e_k 1 (f' := (if (nI 10) ≤ l1 then 77 else 31, [(0, .ref 3), (1, .int l1)], [])) rfl ?_
    refine e_if (fun c7 => ?_) (fun c7 => ?_)
    · replace hb := i_pos c7 hb
      refine e_sub (ls := [(0, .ref 3)]) rfl ⟨rfl, trivial⟩ ?_
      obtain ⟨rfl, rfl, rfl⟩ := s_inj hb
      exact K
    · replace hb := i_neg c7 hb
      refine e_k 2 (f' := (33, [(0, .ref 3), (1, .int l1)], [.ref 3, .int l1])) rfl ?_
      refine r_getr rfl (x_ltn rfl) rfl rfl ?_
      refine r_alen rfl rfl (x_ltn rfl) rfl rfl ?_
      refine e_k 1 (f' := (if (nI 10) ≤ l1 then 77 else 40, [(0, .ref 3), (1, .int l1)], [])) rfl ?_
      refine e_if (fun c8 => ?_) (fun c8 => ?_)
      · replace hb := i_pos c8 hb
        refine e_sub (ls := [(0, .ref 3)]) rfl ⟨rfl, trivial⟩ ?_
        obtain ⟨rfl, rfl, rfl⟩ := s_inj hb
        exact K
      · replace hb := i_neg c8 hb
        refine e_k 1 (f' := (41, [(0, .ref 3), (1, .int l1)], [.ref 3])) rfl ?_
        refine r_getr rfl (x_ltn rfl) rfl rfl ?_
        refine e_k 1 (f' := (45, [(0, .ref 3), (1, .int l1)], [.int l1, .ref 9])) rfl ?_
        obtain ⟨o9, hb⟩ := ob_in hb
        refine r_iald rfl rfl (x_ltn rfl) rfl o9 ?_
        refine e_k 2 (f' := (if (I 9 (Int32.toNatClampNeg l1)) = (-1) then 71 else 50, [(0, .ref 3), (1, .int l1)], [])) rfl ?_
        refine e_if (fun c10 => ?_) (fun c10 => ?_)
        · replace hb := i_pos c10 hb
          refine e_k 2 (f' := (22, [(1, .int (l1 + 1)), (0, .ref 3)], [])) rfl ?_
          refine e_sub (ls := [(0, .ref 3), (1, .int (l1 + 1))]) rfl ⟨rfl, rfl, trivial⟩ ?_
          exact ih  hb K
        · replace hb := i_neg c10 hb
          refine e_k 1 (f' := (51, [(0, .ref 3), (1, .int l1)], [.ref 3])) rfl ?_
          refine r_getr rfl (x_ltn rfl) rfl rfl ?_
          refine e_k 1 (f' := (55, [(0, .ref 3), (1, .int l1)], [.int l1, .ref 8])) rfl ?_
          obtain ⟨o11, hb⟩ := ob_in hb
          refine r_iald rfl rfl (x_ltn rfl) rfl o11 ?_
          refine e_k 2 (f' := (if ¬ (I 8 (Int32.toNatClampNeg l1)) = (-1) then 71 else 60, [(0, .ref 3), (1, .int l1)], [])) rfl ?_
          refine e_if (fun c12 => ?_) (fun c12 => ?_)
          · replace hb := i_pos c12 hb
            refine e_k 2 (f' := (22, [(1, .int (l1 + 1)), (0, .ref 3)], [])) rfl ?_
            refine e_sub (ls := [(0, .ref 3), (1, .int (l1 + 1))]) rfl ⟨rfl, rfl, trivial⟩ ?_
            exact ih  hb K
          · replace hb := i_neg c12 hb
            refine e_k 3 (f' := (63, [(0, .ref 3), (1, .int l1)], [.ref 3, .int 5, .ref 3])) rfl ?_
            refine r_getr rfl (x_ltn rfl) rfl rfl ?_
            refine e_k 1 (f' := (67, [(0, .ref 3), (1, .int l1)], [.int l1, .ref 9, .int 5, .ref 3])) rfl ?_
            obtain ⟨o13, hb⟩ := ob_in hb
            refine r_iald rfl rfl (x_ltn rfl) rfl o13 ?_
            obtain ⟨v14, I14, J14, h14, hb⟩ := oc_call hb
            refine r_cv (z := m_Translator_blame) (As := [.int 5, .int (I 9 (Int32.toNatClampNeg l1))]) (rest := []) rfl rfl rfl rfl rfl (x_ltn rfl) rfl rfl (E_Translator_blame  h14 ⟨_, rfl, ?_⟩)
            refine e_k 2 (f' := (22, [(1, .int (l1 + 1)), (0, .ref 3)], [])) rfl ?_
            refine e_sub (ls := [(0, .ref 3), (1, .int (l1 + 1))]) rfl ⟨rfl, rfl, trivial⟩ ?_
            exact ih  hb K
theorem E_Translator_finish_81 {X : MX} : ∀ (fu : Nat) {l1 : Int32} {l2 : Int32} {I : MI} {J : MJ} {r : (Unit)} {I' : MI} {J' : MJ}, f_Translator_finish_81  fu l1 l2 I J = some (r, I', J') → am_E (gG L xs) (d + 2) m_Translator_finish (179, [], []) (hX X I' J') P → am_E (gG L xs) (d + 2) m_Translator_finish (81, [(0, .ref 3), (1, .int l1), (2, .int l2)], []) (hX X I J) P := by
  intro fu
  induction fu with
  | zero =>
    intros
    rename_i hb _
    cases hb
  | succ fu ih =>
    intro l1 l2 I J r I' J' hb K
    unfold f_Translator_finish_81 at hb
    refine e_k 3 (f' := (if 2000 ≤ l2 then 179 else 88, [(0, .ref 3), (1, .int l1), (2, .int l2)], [])) rfl ?_
    refine e_if (fun c16 => ?_) (fun c16 => ?_)
    · replace hb := i_pos c16 hb
      refine e_sub (ls := []) rfl ⟨⟩ ?_
      obtain ⟨rfl, rfl, rfl⟩ := s_inj hb
      exact K
    · replace hb := i_neg c16 hb
      refine e_k 1 (f' := (89, [(0, .ref 3), (1, .int l1), (2, .int l2)], [.ref 3])) rfl ?_
      refine r_geti rfl (x_ltn rfl) rfl rfl ?_
      refine e_k 1 (f' := (if ¬ (I 3 9) = 0 then 179 else 95, [(0, .ref 3), (1, .int l1), (2, .int l2)], [])) rfl ?_
      refine e_if (fun c17 => ?_) (fun c17 => ?_)
      · replace hb := i_pos c17 hb
        refine e_sub (ls := []) rfl ⟨⟩ ?_
        obtain ⟨rfl, rfl, rfl⟩ := s_inj hb
        exact K
      · replace hb := i_neg c17 hb
        refine e_k 2 (f' := (97, [(0, .ref 3), (1, .int l1), (2, .int l2)], [.ref 3, .int l1])) rfl ?_
        refine r_getr rfl (x_ltn rfl) rfl rfl ?_
        refine r_geti rfl (x_ltn rfl) rfl rfl ?_
        refine e_k 1 (f' := (if (I 6 1) ≤ l1 then 179 else 106, [(0, .ref 3), (1, .int l1), (2, .int l2)], [])) rfl ?_
        refine e_if (fun c18 => ?_) (fun c18 => ?_)
        · replace hb := i_pos c18 hb
          refine e_sub (ls := []) rfl ⟨⟩ ?_
          obtain ⟨rfl, rfl, rfl⟩ := s_inj hb
          exact K
        · replace hb := i_neg c18 hb
          refine e_k 1 (f' := (107, [(0, .ref 3), (1, .int l1), (2, .int l2)], [.ref 3])) rfl ?_
          refine r_getr rfl (x_ltn rfl) rfl rfl ?_
          refine e_k 3 (f' := (113, [(0, .ref 3), (1, .int l1), (2, .int l2)], [.int (l1 + 2), .ref 6])) rfl ?_
          obtain ⟨v19, I19, J19, h19, hb⟩ := oc_call hb
          refine r_cv (z := m_Row_at) (As := [.int (l1 + 2)]) (rest := []) rfl rfl rfl rfl rfl (x_ltn rfl) rfl rfl (E_Row_at row_6 h19 ⟨_, rfl, ?_⟩)
          refine e_k 2 (f' := (118, [(3, .int v19), (0, .ref 3), (1, .int l1), (2, .int l2)], [.ref 3])) rfl ?_
          refine r_getr rfl (x_ltn rfl) rfl rfl ?_
          refine e_k 1 (f' := (122, [(3, .int v19), (0, .ref 3), (1, .int l1), (2, .int l2)], [.int l1, .ref 6])) rfl ?_
          obtain ⟨v20, I20, J20, h20, hb⟩ := oc_call hb
          refine r_cv (z := m_Row_at) (As := [.int l1]) (rest := []) rfl rfl rfl rfl rfl (x_ltn rfl) rfl rfl (E_Row_at row_6 h20 ⟨_, rfl, ?_⟩)
          refine e_k 2 (f' := (if ¬ v20 = 28 then 159 else 130, [(3, .int v19), (0, .ref 3), (1, .int l1), (2, .int l2)], [])) rfl ?_
          obtain ⟨v22, I22, J22, h22, hb⟩ := oc_call hb
          have Kj22 : am_E (gG L xs) (d + 2) m_Translator_finish (159, [(0, .ref 3), (1, .int l1), (2, .int l2)], []) (hX X I22 J22) P := by
            refine e_k 2 (f' := (161, [(0, .ref 3), (1, .int l1), (2, .int l2)], [.ref 3, .int l1])) rfl ?_
            refine r_getr rfl (x_ltn rfl) rfl rfl ?_
            refine e_k 1 (f' := (165, [(0, .ref 3), (1, .int l1), (2, .int l2)], [.int l1, .ref 6, .int l1])) rfl ?_
            obtain ⟨v28, I28, J28, h28, hb⟩ := oc_call hb
            refine r_cv (z := m_Row_at) (As := [.int l1]) (rest := [.int l1]) rfl rfl rfl rfl rfl (x_ltn rfl) rfl rfl (E_Row_at row_6 h28 ⟨_, rfl, ?_⟩)
            obtain ⟨v29, I29, J29, h29, hb⟩ := oc_call hb
            refine r_cs (z := m_Sh_lengthOf) (As := [.int v28]) (rest := [.int l1]) rfl rfl rfl rfl rfl rfl (E_Sh_lengthOf  h29 ⟨_, rfl, ?_⟩)
            refine e_k 2 (f' := (173, [(1, .int (l1 + v29)), (0, .ref 3), (2, .int l2)], [])) rfl ?_
            obtain ⟨x30, ex30, hb⟩ := p_nm hb
            rw [← ex30]
            refine e_k 2 (f' := (81, [(2, .int (l2 + 1)), (1, .int x30), (0, .ref 3)], [])) rfl ?_
            refine e_sub (ls := [(0, .ref 3), (1, .int x30), (2, .int (l2 + 1))]) rfl ⟨rfl, rfl, rfl, trivial⟩ ?_
            exact ih  hb K
          clear hb
          refine e_if (fun c23 => ?_) (fun c23 => ?_)
          · replace h22 := i_pos c23 h22
            refine e_sub (ls := [(0, .ref 3), (1, .int l1), (2, .int l2)]) rfl ⟨rfl, rfl, rfl, trivial⟩ ?_
            obtain ⟨rfl, rfl, rfl⟩ := s_inj h22
            exact Kj22
          · replace h22 := i_neg c23 h22
            refine e_k 2 (f' := (if v19 < 0 then 159 else 134, [(3, .int v19), (0, .ref 3), (1, .int l1), (2, .int l2)], [])) rfl ?_
            refine e_if (fun c24 => ?_) (fun c24 => ?_)
            · replace h22 := i_pos c24 h22
              refine e_sub (ls := [(0, .ref 3), (1, .int l1), (2, .int l2)]) rfl ⟨rfl, rfl, rfl, trivial⟩ ?_
              obtain ⟨rfl, rfl, rfl⟩ := s_inj h22
              exact Kj22
            · replace h22 := i_neg c24 h22
              refine e_k 2 (f' := (136, [(3, .int v19), (0, .ref 3), (1, .int l1), (2, .int l2)], [.ref 3, .int v19])) rfl ?_
              refine r_getr rfl (x_ltn rfl) rfl rfl ?_
              refine r_alen rfl rfl (x_ltn rfl) rfl rfl ?_
              refine e_k 1 (f' := (if (nI 10) ≤ v19 then 159 else 143, [(3, .int v19), (0, .ref 3), (1, .int l1), (2, .int l2)], [])) rfl ?_
              refine e_if (fun c25 => ?_) (fun c25 => ?_)
              · replace h22 := i_pos c25 h22
                refine e_sub (ls := [(0, .ref 3), (1, .int l1), (2, .int l2)]) rfl ⟨rfl, rfl, rfl, trivial⟩ ?_
                obtain ⟨rfl, rfl, rfl⟩ := s_inj h22
                exact Kj22
              · replace h22 := i_neg c25 h22
                refine e_k 1 (f' := (144, [(3, .int v19), (0, .ref 3), (1, .int l1), (2, .int l2)], [.ref 3])) rfl ?_
                refine r_getr rfl (x_ltn rfl) rfl rfl ?_
                refine e_k 4 (f' := (151, [(3, .int v19), (0, .ref 3), (1, .int l1), (2, .int l2)], [.ref 3, .int (l1 + 1), .ref 6])) rfl ?_
                refine r_getr rfl (x_ltn rfl) rfl rfl ?_
                refine e_k 1 (f' := (155, [(3, .int v19), (0, .ref 3), (1, .int l1), (2, .int l2)], [.int v19, .ref 8, .int (l1 + 1), .ref 6])) rfl ?_
                obtain ⟨o26, h22⟩ := ob_in h22
                refine r_iald rfl rfl (x_ltn rfl) rfl o26 ?_
                obtain ⟨v27, I27, J27, h27, h22⟩ := oc_call h22
                refine r_cv (z := m_Row_aim) (As := [.int (l1 + 1), .int (I20 8 (Int32.toNatClampNeg v19))]) (rest := []) rfl rfl rfl rfl rfl (x_ltn rfl) rfl rfl (E_Row_aim row_6 h27 ⟨_, rfl, ?_⟩)
                refine e_sub (ls := [(0, .ref 3), (1, .int l1), (2, .int l2)]) rfl ⟨rfl, rfl, rfl, trivial⟩ ?_
                obtain ⟨rfl, rfl, rfl⟩ := s_inj h22
                exact Kj22
theorem E_Translator_finish {X : MX} {I : MI} {J : MJ} {v : Unit} {I' : MI} {J' : MJ} (hb : f_Translator_finish  I J = some (v, I', J')) (K : P (.inl (none)) (hX X I' J')) : am_E (gG L xs) (d + 2) m_Translator_finish (0, lv_args 0 [.ref 3], []) (hX X I J) P := by
  unfold f_Translator_finish at hb
  refine e_k 1 (f' := (1, [(0, .ref 3)], [.ref 3])) rfl ?_
  obtain ⟨v1, I1, J1, h1, hb⟩ := oc_call hb
  refine r_cv (z := m_Translator_look) (As := []) (rest := []) rfl rfl rfl rfl rfl (x_ltn rfl) rfl rfl (E_Translator_look  h1 ⟨_, rfl, ?_⟩)
  refine e_k 2 (f' := (if v1 = (-1) then 12 else 8, [(0, .ref 3)], [])) rfl ?_
  obtain ⟨v3, I3, J3, h3, hb⟩ := oc_call hb
  have Kj3 : am_E (gG L xs) (d + 2) m_Translator_finish (12, [(0, .ref 3)], []) (hX X I3 J3) P := by
    refine e_k 5 (f' := (17, [(0, .ref 3)], [.int 0, .int 0, .int 0, .int 0, .ref 3])) rfl ?_
    obtain ⟨v6, I6, J6, h6, hb⟩ := oc_call hb
    refine r_cv (z := m_Translator_emit) (As := [.int 0, .int 0, .int 0, .int 0]) (rest := []) rfl rfl rfl rfl rfl (x_ltn rfl) rfl rfl (E_Translator_emit  h6 ⟨_, rfl, ?_⟩)
    refine e_k 2 (f' := (22, [(1, .int 0), (0, .ref 3)], [])) rfl ?_
    refine e_sub (ls := [(0, .ref 3), (1, .int 0)]) rfl ⟨rfl, rfl, trivial⟩ ?_
    obtain ⟨u15, I15, J15, h15, hb⟩ := oc_call hb
    refine E_Translator_finish_22  gF  h15 ?_
    refine e_k 4 (f' := (81, [(2, .int 0), (1, .int 0), (0, .ref 3)], [])) rfl ?_
    refine e_sub (ls := [(0, .ref 3), (1, .int 0), (2, .int 0)]) rfl ⟨rfl, rfl, rfl, trivial⟩ ?_
    obtain ⟨u31, I31, J31, h31, hb⟩ := oc_call hb
    refine E_Translator_finish_81  gF  h31 ?_
    obtain ⟨rfl, rfl, rfl⟩ := s_inj hb
    exact e_r rfl rfl K
  clear hb
  refine e_if (fun c4 => ?_) (fun c4 => ?_)
  · replace h3 := i_pos c4 h3
    refine e_sub (ls := [(0, .ref 3)]) rfl ⟨rfl, trivial⟩ ?_
    obtain ⟨rfl, rfl, rfl⟩ := s_inj h3
    exact Kj3
  · replace h3 := i_neg c4 h3
    refine e_k 1 (f' := (9, [(0, .ref 3)], [.ref 3])) rfl ?_
    obtain ⟨v5, I5, J5, h5, h3⟩ := oc_call h3
    refine r_cv (z := m_Translator_refuse) (As := []) (rest := []) rfl rfl rfl rfl rfl (x_ltn rfl) rfl rfl (E_Translator_refuse  h5 ⟨_, rfl, ?_⟩)
    refine e_sub (ls := [(0, .ref 3)]) rfl ⟨rfl, trivial⟩ ?_
    obtain ⟨rfl, rfl, rfl⟩ := s_inj h3
    exact Kj3
theorem E_Translator_expression_7 {R : M3} {X : MX} (hR_0 : ∀ {I : MI} {J : MJ} {v : Int32} {I' : MI} {J' : MJ} {P : am_R → am_H → Prop}, R 0 0 0 I J = some (v, I', J') → P (.inl (none)) (hX X I' J') → am_E (gG L xs) (d + 1) m_Translator_statements (0, lv_args 0 [.ref 3], []) (hX X I J) P) (hR_1 : ∀ {I : MI} {J : MJ} {v : Int32} {I' : MI} {J' : MJ} {P : am_R → am_H → Prop}, R 1 0 0 I J = some (v, I', J') → P (.inl (some (.int v))) (hX X I' J') → am_E (gG L xs) (d + 1) m_Translator_statement (0, lv_args 0 [.ref 3], []) (hX X I J) P) (hR_2 : ∀ {a0 : Int32} {a1 : Int32} {I : MI} {J : MJ} {v : Int32} {I' : MI} {J' : MJ} {P : am_R → am_H → Prop}, R 2 a0 a1 I J = some (v, I', J') → P (.inl (none)) (hX X I' J') → am_E (gG L xs) (d + 1) m_Translator_variableStatement (0, lv_args 0 [.ref 3, .int a0, .int a1], []) (hX X I J) P) (hR_3 : ∀ {a0 : Int32} {a1 : Int32} {I : MI} {J : MJ} {v : Int32} {I' : MI} {J' : MJ} {P : am_R → am_H → Prop}, R 3 a0 a1 I J = some (v, I', J') → P (.inl (none)) (hX X I' J') → am_E (gG L xs) (d + 1) m_Translator_assign (0, lv_args 0 [.ref 3, .int a0, .int a1], []) (hX X I J) P) (hR_4 : ∀ {a0 : Int32} {a1 : Int32} {I : MI} {J : MJ} {v : Int32} {I' : MI} {J' : MJ} {P : am_R → am_H → Prop}, R 4 a0 a1 I J = some (v, I', J') → P (.inl (none)) (hX X I' J') → am_E (gG L xs) (d + 1) m_Translator_arrayStatement (0, lv_args 0 [.ref 3, .int a0, .int a1], []) (hX X I J) P) (hR_5 : ∀ {a0 : Int32} {I : MI} {J : MJ} {v : Int32} {I' : MI} {J' : MJ} {P : am_R → am_H → Prop}, R 5 a0 0 I J = some (v, I', J') → P (.inl (none)) (hX X I' J') → am_E (gG L xs) (d + 1) m_Translator_routine (0, lv_args 0 [.ref 3, .int a0], []) (hX X I J) P) (hR_6 : ∀ {a0 : Int32} {a1 : Int32} {I : MI} {J : MJ} {v : Int32} {I' : MI} {J' : MJ} {P : am_R → am_H → Prop}, R 6 a0 a1 I J = some (v, I', J') → P (.inl (none)) (hX X I' J') → am_E (gG L xs) (d + 1) m_Translator_tell (0, lv_args 0 [.ref 3, .int a0, .int a1], []) (hX X I J) P) (hR_7 : ∀ {I : MI} {J : MJ} {v : Int32} {I' : MI} {J' : MJ} {P : am_R → am_H → Prop}, R 7 0 0 I J = some (v, I', J') → P (.inl (none)) (hX X I' J') → am_E (gG L xs) (d + 1) m_Translator_choice (0, lv_args 0 [.ref 3], []) (hX X I J) P) (hR_8 : ∀ {I : MI} {J : MJ} {v : Int32} {I' : MI} {J' : MJ} {P : am_R → am_H → Prop}, R 8 0 0 I J = some (v, I', J') → P (.inl (none)) (hX X I' J') → am_E (gG L xs) (d + 1) m_Translator_loop (0, lv_args 0 [.ref 3], []) (hX X I J) P) (hR_9 : ∀ {I : MI} {J : MJ} {v : Int32} {I' : MI} {J' : MJ} {P : am_R → am_H → Prop}, R 9 0 0 I J = some (v, I', J') → P (.inl (some (.int v))) (hX X I' J') → am_E (gG L xs) (d + 1) m_Translator_expression (0, lv_args 0 [.ref 3], []) (hX X I J) P) (hR_10 : ∀ {I : MI} {J : MJ} {v : Int32} {I' : MI} {J' : MJ} {P : am_R → am_H → Prop}, R 10 0 0 I J = some (v, I', J') → P (.inl (some (.int v))) (hX X I' J') → am_E (gG L xs) (d + 1) m_Translator_product (0, lv_args 0 [.ref 3], []) (hX X I J) P) (hR_11 : ∀ {I : MI} {J : MJ} {v : Int32} {I' : MI} {J' : MJ} {P : am_R → am_H → Prop}, R 11 0 0 I J = some (v, I', J') → P (.inl (some (.int v))) (hX X I' J') → am_E (gG L xs) (d + 1) m_Translator_factor (0, lv_args 0 [.ref 3], []) (hX X I J) P) (hR_12 : ∀ {I : MI} {J : MJ} {v : Int32} {I' : MI} {J' : MJ} {P : am_R → am_H → Prop}, R 12 0 0 I J = some (v, I', J') → P (.inl (some (.int v))) (hX X I' J') → am_E (gG L xs) (d + 1) m_Translator_atom (0, lv_args 0 [.ref 3], []) (hX X I J) P) (hR_13 : ∀ {I : MI} {J : MJ} {v : Int32} {I' : MI} {J' : MJ} {P : am_R → am_H → Prop}, R 13 0 0 I J = some (v, I', J') → P (.inl (none)) (hX X I' J') → am_E (gG L xs) (d + 1) m_Translator_index (0, lv_args 0 [.ref 3], []) (hX X I J) P) : ∀ (fu : Nat) {l1 : Int32} {l2 : Int32} {I : MI} {J : MJ} {r : (Int32)} {I' : MI} {J' : MJ}, f_Translator_expression_7 R  fu l1 l2 I J = some (r, I', J') → am_E (gG L xs) (d + 2) m_Translator_expression (86, [(1, .int r)], []) (hX X I' J') P → am_E (gG L xs) (d + 2) m_Translator_expression (7, [(0, .ref 3), (1, .int l1), (2, .int l2)], []) (hX X I J) P := by
  intro fu
  induction fu with
  | zero =>
    intros
    rename_i hb _
    cases hb
  | succ fu ih =>
    intro l1 l2 I J r I' J' hb K
    unfold f_Translator_expression_7 at hb
    refine e_k 3 (f' := (if 400 ≤ l2 then 86 else 14, [(0, .ref 3), (1, .int l1), (2, .int l2)], [])) rfl ?_
    refine e_if (fun c2 => ?_) (fun c2 => ?_)
    · replace hb := i_pos c2 hb
      refine e_sub (ls := [(1, .int l1)]) rfl ⟨rfl, trivial⟩ ?_
      obtain ⟨rfl, rfl, rfl⟩ := s_inj hb
      exact K
    · replace hb := i_neg c2 hb
      refine e_k 1 (f' := (15, [(0, .ref 3), (1, .int l1), (2, .int l2)], [.ref 3])) rfl ?_
      obtain ⟨v3, I3, J3, h3, hb⟩ := oc_call hb
      refine r_cv (z := m_Translator_look) (As := []) (rest := []) rfl rfl rfl rfl rfl (x_ltn rfl) rfl rfl (E_Translator_look  h3 ⟨_, rfl, ?_⟩)
      refine e_k 2 (f' := (if v3 = 43 then 32 else 23, [(0, .ref 3), (1, .int l1), (2, .int l2)], [])) rfl ?_
      refine e_if (fun c4 => ?_) (fun c4 => ?_)
      · replace hb := i_pos c4 hb
        refine e_k 1 (f' := (33, [(0, .ref 3), (1, .int l1), (2, .int l2)], [.ref 3])) rfl ?_
        obtain ⟨v5, I5, J5, h5, hb⟩ := oc_call hb
        refine r_cv (z := m_Translator_look) (As := []) (rest := []) rfl rfl rfl rfl rfl (x_ltn rfl) rfl rfl (E_Translator_look  h5 ⟨_, rfl, ?_⟩)
        refine e_k 2 (f' := (if ¬ v5 = 43 then 45 else 41, [(0, .ref 3), (1, .int l1), (2, .int l2)], [])) rfl ?_
        obtain ⟨v7, h7, hb⟩ := p_nn hb
        have Kj7 : am_E (gG L xs) (d + 2) m_Translator_expression (46, [(0, .ref 3), (1, .int l1), (2, .int l2)], [.int v7]) (hX X I5 J5) P := by
          refine e_k 2 (f' := (48, [(3, .int v7), (0, .ref 3), (1, .int l1), (2, .int l2)], [.ref 3])) rfl ?_
          obtain ⟨v9, I9, J9, h9, hb⟩ := oc_call hb
          refine r_cv (z := m_Translator_pass) (As := []) (rest := []) rfl rfl rfl rfl rfl (x_ltn rfl) rfl rfl (E_Translator_pass  h9 ⟨_, rfl, ?_⟩)
          refine e_k 1 (f' := (52, [(3, .int v7), (0, .ref 3), (1, .int l1), (2, .int l2)], [.ref 3])) rfl ?_
          obtain ⟨v10, I10, J10, h10, hb⟩ := oc_call hb
          refine r_cv (z := m_Translator_product) (As := []) (rest := []) rfl rfl rfl rfl rfl (x_ltn rfl) rfl rfl (hR_10  h10 ⟨_, rfl, ?_⟩)
          refine e_k 6 (f' := (62, [(4, .int v10), (3, .int v7), (0, .ref 3), (1, .int l1), (2, .int l2)], [.int 0, .int 0, .int 0, .int v7, .ref 3])) rfl ?_
          obtain ⟨v11, I11, J11, h11, hb⟩ := oc_call hb
          refine r_cv (z := m_Translator_emit) (As := [.int v7, .int 0, .int 0, .int 0]) (rest := []) rfl rfl rfl rfl rfl (x_ltn rfl) rfl rfl (E_Translator_emit  h11 ⟨_, rfl, ?_⟩)
          refine e_k 2 (f' := (if ¬ l1 = 0 then 74 else 69, [(4, .int v10), (3, .int v7), (0, .ref 3), (1, .int l1), (2, .int l2)], [])) rfl ?_
          obtain ⟨v13, h13, hb⟩ := p_nn hb
          have Kj13 : am_E (gG L xs) (d + 2) m_Translator_expression (79, [(0, .ref 3), (2, .int l2)], [.int v13]) (hX X I11 J11) P := by
            refine e_k 3 (f' := (7, [(2, .int (l2 + 1)), (1, .int v13), (0, .ref 3)], [])) rfl ?_
            refine e_sub (ls := [(0, .ref 3), (1, .int v13), (2, .int (l2 + 1))]) rfl ⟨rfl, rfl, rfl, trivial⟩ ?_
            exact ih  hb K
          clear hb
          refine e_if (fun c14 => ?_) (fun c14 => ?_)
          · replace h13 := i_pos c14 h13
            refine e_k 2 (f' := (79, [(4, .int v10), (3, .int v7), (0, .ref 3), (1, .int l1), (2, .int l2)], [.int 1])) rfl ?_
            refine e_sub (ls := [(0, .ref 3), (2, .int l2)]) rfl ⟨rfl, rfl, trivial⟩ ?_
            subst h13
            exact Kj13
          · replace h13 := i_neg c14 h13
            refine e_k 2 (f' := (if v10 = 0 then 78 else 74, [(4, .int v10), (3, .int v7), (0, .ref 3), (1, .int l1), (2, .int l2)], [])) rfl ?_
            refine e_if (fun c15 => ?_) (fun c15 => ?_)
            · replace h13 := i_pos c15 h13
              refine e_k 1 (f' := (79, [(4, .int v10), (3, .int v7), (0, .ref 3), (1, .int l1), (2, .int l2)], [.int 0])) rfl ?_
              refine e_sub (ls := [(0, .ref 3), (2, .int l2)]) rfl ⟨rfl, rfl, trivial⟩ ?_
              subst h13
              exact Kj13
            · replace h13 := i_neg c15 h13
              refine e_k 2 (f' := (79, [(4, .int v10), (3, .int v7), (0, .ref 3), (1, .int l1), (2, .int l2)], [.int 1])) rfl ?_
              refine e_sub (ls := [(0, .ref 3), (2, .int l2)]) rfl ⟨rfl, rfl, trivial⟩ ?_
              subst h13
              exact Kj13
        clear hb
        refine e_if (fun c8 => ?_) (fun c8 => ?_)
        · replace h7 := i_pos c8 h7
          refine e_k 1 (f' := (46, [(0, .ref 3), (1, .int l1), (2, .int l2)], [.int 5])) rfl ?_
          refine e_sub (ls := [(0, .ref 3), (1, .int l1), (2, .int l2)]) rfl ⟨rfl, rfl, rfl, trivial⟩ ?_
          subst h7
          exact Kj7
        · replace h7 := i_neg c8 h7
          refine e_k 2 (f' := (46, [(0, .ref 3), (1, .int l1), (2, .int l2)], [.int 4])) rfl ?_
          refine e_sub (ls := [(0, .ref 3), (1, .int l1), (2, .int l2)]) rfl ⟨rfl, rfl, rfl, trivial⟩ ?_
          subst h7
          exact Kj7
      · replace hb := i_neg c4 hb
        refine e_k 1 (f' := (24, [(0, .ref 3), (1, .int l1), (2, .int l2)], [.ref 3])) rfl ?_
        obtain ⟨v16, I16, J16, h16, hb⟩ := oc_call hb
        refine r_cv (z := m_Translator_look) (As := []) (rest := []) rfl rfl rfl rfl rfl (x_ltn rfl) rfl rfl (E_Translator_look  h16 ⟨_, rfl, ?_⟩)
        refine e_k 2 (f' := (if ¬ v16 = 45 then 86 else 32, [(0, .ref 3), (1, .int l1), (2, .int l2)], [])) rfl ?_
        refine e_if (fun c17 => ?_) (fun c17 => ?_)
        · replace hb := i_pos c17 hb
          refine e_sub (ls := [(1, .int l1)]) rfl ⟨rfl, trivial⟩ ?_
          obtain ⟨rfl, rfl, rfl⟩ := s_inj hb
          exact K
        · replace hb := i_neg c17 hb
          refine e_k 1 (f' := (33, [(0, .ref 3), (1, .int l1), (2, .int l2)], [.ref 3])) rfl ?_
          obtain ⟨v18, I18, J18, h18, hb⟩ := oc_call hb
          refine r_cv (z := m_Translator_look) (As := []) (rest := []) rfl rfl rfl rfl rfl (x_ltn rfl) rfl rfl (E_Translator_look  h18 ⟨_, rfl, ?_⟩)
          refine e_k 2 (f' := (if ¬ v18 = 43 then 45 else 41, [(0, .ref 3), (1, .int l1), (2, .int l2)], [])) rfl ?_
          obtain ⟨v20, h20, hb⟩ := p_nn hb
          have Kj20 : am_E (gG L xs) (d + 2) m_Translator_expression (46, [(0, .ref 3), (1, .int l1), (2, .int l2)], [.int v20]) (hX X I18 J18) P := by
            refine e_k 2 (f' := (48, [(3, .int v20), (0, .ref 3), (1, .int l1), (2, .int l2)], [.ref 3])) rfl ?_
            obtain ⟨v22, I22, J22, h22, hb⟩ := oc_call hb
            refine r_cv (z := m_Translator_pass) (As := []) (rest := []) rfl rfl rfl rfl rfl (x_ltn rfl) rfl rfl (E_Translator_pass  h22 ⟨_, rfl, ?_⟩)
            refine e_k 1 (f' := (52, [(3, .int v20), (0, .ref 3), (1, .int l1), (2, .int l2)], [.ref 3])) rfl ?_
            obtain ⟨v23, I23, J23, h23, hb⟩ := oc_call hb
            refine r_cv (z := m_Translator_product) (As := []) (rest := []) rfl rfl rfl rfl rfl (x_ltn rfl) rfl rfl (hR_10  h23 ⟨_, rfl, ?_⟩)
            refine e_k 6 (f' := (62, [(4, .int v23), (3, .int v20), (0, .ref 3), (1, .int l1), (2, .int l2)], [.int 0, .int 0, .int 0, .int v20, .ref 3])) rfl ?_
            obtain ⟨v24, I24, J24, h24, hb⟩ := oc_call hb
            refine r_cv (z := m_Translator_emit) (As := [.int v20, .int 0, .int 0, .int 0]) (rest := []) rfl rfl rfl rfl rfl (x_ltn rfl) rfl rfl (E_Translator_emit  h24 ⟨_, rfl, ?_⟩)
            refine e_k 2 (f' := (if ¬ l1 = 0 then 74 else 69, [(4, .int v23), (3, .int v20), (0, .ref 3), (1, .int l1), (2, .int l2)], [])) rfl ?_
            obtain ⟨v26, h26, hb⟩ := p_nn hb
            have Kj26 : am_E (gG L xs) (d + 2) m_Translator_expression (79, [(0, .ref 3), (2, .int l2)], [.int v26]) (hX X I24 J24) P := by
              refine e_k 3 (f' := (7, [(2, .int (l2 + 1)), (1, .int v26), (0, .ref 3)], [])) rfl ?_
              refine e_sub (ls := [(0, .ref 3), (1, .int v26), (2, .int (l2 + 1))]) rfl ⟨rfl, rfl, rfl, trivial⟩ ?_
              exact ih  hb K
            clear hb
            refine e_if (fun c27 => ?_) (fun c27 => ?_)
            · replace h26 := i_pos c27 h26
              refine e_k 2 (f' := (79, [(4, .int v23), (3, .int v20), (0, .ref 3), (1, .int l1), (2, .int l2)], [.int 1])) rfl ?_
              refine e_sub (ls := [(0, .ref 3), (2, .int l2)]) rfl ⟨rfl, rfl, trivial⟩ ?_
              subst h26
              exact Kj26
            · replace h26 := i_neg c27 h26
              refine e_k 2 (f' := (if v23 = 0 then 78 else 74, [(4, .int v23), (3, .int v20), (0, .ref 3), (1, .int l1), (2, .int l2)], [])) rfl ?_
              refine e_if (fun c28 => ?_) (fun c28 => ?_)
              · replace h26 := i_pos c28 h26
                refine e_k 1 (f' := (79, [(4, .int v23), (3, .int v20), (0, .ref 3), (1, .int l1), (2, .int l2)], [.int 0])) rfl ?_
                refine e_sub (ls := [(0, .ref 3), (2, .int l2)]) rfl ⟨rfl, rfl, trivial⟩ ?_
                subst h26
                exact Kj26
              · replace h26 := i_neg c28 h26
                refine e_k 2 (f' := (79, [(4, .int v23), (3, .int v20), (0, .ref 3), (1, .int l1), (2, .int l2)], [.int 1])) rfl ?_
                refine e_sub (ls := [(0, .ref 3), (2, .int l2)]) rfl ⟨rfl, rfl, trivial⟩ ?_
                subst h26
                exact Kj26
          clear hb
          refine e_if (fun c21 => ?_) (fun c21 => ?_)
          · replace h20 := i_pos c21 h20
            refine e_k 1 (f' := (46, [(0, .ref 3), (1, .int l1), (2, .int l2)], [.int 5])) rfl ?_
            refine e_sub (ls := [(0, .ref 3), (1, .int l1), (2, .int l2)]) rfl ⟨rfl, rfl, rfl, trivial⟩ ?_
            subst h20
            exact Kj20
          · replace h20 := i_neg c21 h20
            refine e_k 2 (f' := (46, [(0, .ref 3), (1, .int l1), (2, .int l2)], [.int 4])) rfl ?_
            refine e_sub (ls := [(0, .ref 3), (1, .int l1), (2, .int l2)]) rfl ⟨rfl, rfl, rfl, trivial⟩ ?_
            subst h20
            exact Kj20
theorem E_Translator_expression {R : M3} {X : MX} {I : MI} {J : MJ} {v : Int32} {I' : MI} {J' : MJ} (hR_0 : ∀ {I : MI} {J : MJ} {v : Int32} {I' : MI} {J' : MJ} {P : am_R → am_H → Prop}, R 0 0 0 I J = some (v, I', J') → P (.inl (none)) (hX X I' J') → am_E (gG L xs) (d + 1) m_Translator_statements (0, lv_args 0 [.ref 3], []) (hX X I J) P) (hR_1 : ∀ {I : MI} {J : MJ} {v : Int32} {I' : MI} {J' : MJ} {P : am_R → am_H → Prop}, R 1 0 0 I J = some (v, I', J') → P (.inl (some (.int v))) (hX X I' J') → am_E (gG L xs) (d + 1) m_Translator_statement (0, lv_args 0 [.ref 3], []) (hX X I J) P) (hR_2 : ∀ {a0 : Int32} {a1 : Int32} {I : MI} {J : MJ} {v : Int32} {I' : MI} {J' : MJ} {P : am_R → am_H → Prop}, R 2 a0 a1 I J = some (v, I', J') → P (.inl (none)) (hX X I' J') → am_E (gG L xs) (d + 1) m_Translator_variableStatement (0, lv_args 0 [.ref 3, .int a0, .int a1], []) (hX X I J) P) (hR_3 : ∀ {a0 : Int32} {a1 : Int32} {I : MI} {J : MJ} {v : Int32} {I' : MI} {J' : MJ} {P : am_R → am_H → Prop}, R 3 a0 a1 I J = some (v, I', J') → P (.inl (none)) (hX X I' J') → am_E (gG L xs) (d + 1) m_Translator_assign (0, lv_args 0 [.ref 3, .int a0, .int a1], []) (hX X I J) P) (hR_4 : ∀ {a0 : Int32} {a1 : Int32} {I : MI} {J : MJ} {v : Int32} {I' : MI} {J' : MJ} {P : am_R → am_H → Prop}, R 4 a0 a1 I J = some (v, I', J') → P (.inl (none)) (hX X I' J') → am_E (gG L xs) (d + 1) m_Translator_arrayStatement (0, lv_args 0 [.ref 3, .int a0, .int a1], []) (hX X I J) P) (hR_5 : ∀ {a0 : Int32} {I : MI} {J : MJ} {v : Int32} {I' : MI} {J' : MJ} {P : am_R → am_H → Prop}, R 5 a0 0 I J = some (v, I', J') → P (.inl (none)) (hX X I' J') → am_E (gG L xs) (d + 1) m_Translator_routine (0, lv_args 0 [.ref 3, .int a0], []) (hX X I J) P) (hR_6 : ∀ {a0 : Int32} {a1 : Int32} {I : MI} {J : MJ} {v : Int32} {I' : MI} {J' : MJ} {P : am_R → am_H → Prop}, R 6 a0 a1 I J = some (v, I', J') → P (.inl (none)) (hX X I' J') → am_E (gG L xs) (d + 1) m_Translator_tell (0, lv_args 0 [.ref 3, .int a0, .int a1], []) (hX X I J) P) (hR_7 : ∀ {I : MI} {J : MJ} {v : Int32} {I' : MI} {J' : MJ} {P : am_R → am_H → Prop}, R 7 0 0 I J = some (v, I', J') → P (.inl (none)) (hX X I' J') → am_E (gG L xs) (d + 1) m_Translator_choice (0, lv_args 0 [.ref 3], []) (hX X I J) P) (hR_8 : ∀ {I : MI} {J : MJ} {v : Int32} {I' : MI} {J' : MJ} {P : am_R → am_H → Prop}, R 8 0 0 I J = some (v, I', J') → P (.inl (none)) (hX X I' J') → am_E (gG L xs) (d + 1) m_Translator_loop (0, lv_args 0 [.ref 3], []) (hX X I J) P) (hR_9 : ∀ {I : MI} {J : MJ} {v : Int32} {I' : MI} {J' : MJ} {P : am_R → am_H → Prop}, R 9 0 0 I J = some (v, I', J') → P (.inl (some (.int v))) (hX X I' J') → am_E (gG L xs) (d + 1) m_Translator_expression (0, lv_args 0 [.ref 3], []) (hX X I J) P) (hR_10 : ∀ {I : MI} {J : MJ} {v : Int32} {I' : MI} {J' : MJ} {P : am_R → am_H → Prop}, R 10 0 0 I J = some (v, I', J') → P (.inl (some (.int v))) (hX X I' J') → am_E (gG L xs) (d + 1) m_Translator_product (0, lv_args 0 [.ref 3], []) (hX X I J) P) (hR_11 : ∀ {I : MI} {J : MJ} {v : Int32} {I' : MI} {J' : MJ} {P : am_R → am_H → Prop}, R 11 0 0 I J = some (v, I', J') → P (.inl (some (.int v))) (hX X I' J') → am_E (gG L xs) (d + 1) m_Translator_factor (0, lv_args 0 [.ref 3], []) (hX X I J) P) (hR_12 : ∀ {I : MI} {J : MJ} {v : Int32} {I' : MI} {J' : MJ} {P : am_R → am_H → Prop}, R 12 0 0 I J = some (v, I', J') → P (.inl (some (.int v))) (hX X I' J') → am_E (gG L xs) (d + 1) m_Translator_atom (0, lv_args 0 [.ref 3], []) (hX X I J) P) (hR_13 : ∀ {I : MI} {J : MJ} {v : Int32} {I' : MI} {J' : MJ} {P : am_R → am_H → Prop}, R 13 0 0 I J = some (v, I', J') → P (.inl (none)) (hX X I' J') → am_E (gG L xs) (d + 1) m_Translator_index (0, lv_args 0 [.ref 3], []) (hX X I J) P) (hb : f_Translator_expression R  I J = some (v, I', J')) (K : P (.inl (some (.int v))) (hX X I' J')) : am_E (gG L xs) (d + 2) m_Translator_expression (0, lv_args 0 [.ref 3], []) (hX X I J) P := by
  unfold f_Translator_expression at hb
  refine e_k 1 (f' := (1, [(0, .ref 3)], [.ref 3])) rfl ?_
  obtain ⟨v1, I1, J1, h1, hb⟩ := oc_call hb
  refine r_cv (z := m_Translator_product) (As := []) (rest := []) rfl rfl rfl rfl rfl (x_ltn rfl) rfl rfl (hR_10  h1 ⟨_, rfl, ?_⟩)
  refine e_k 3 (f' := (7, [(2, .int 0), (1, .int v1), (0, .ref 3)], [])) rfl ?_
  refine e_sub (ls := [(0, .ref 3), (1, .int v1), (2, .int 0)]) rfl ⟨rfl, rfl, rfl, trivial⟩ ?_
  obtain ⟨u29, I29, J29, h29, hb⟩ := oc_call hb
  refine E_Translator_expression_7 hR_0 hR_1 hR_2 hR_3 hR_4 hR_5 hR_6 hR_7 hR_8 hR_9 hR_10 hR_11 hR_12 hR_13 gF  h29 ?_
  refine e_k 1 (f' := (87, [(1, .int u29)], [.int u29])) rfl ?_
  obtain ⟨o30, hb⟩ := ob_if hb
  obtain ⟨rfl, rfl, rfl⟩ := s_inj hb
  exact e_r rfl (if_pos o30) K
theorem E_Translator_product_7 {R : M3} {X : MX} (hR_0 : ∀ {I : MI} {J : MJ} {v : Int32} {I' : MI} {J' : MJ} {P : am_R → am_H → Prop}, R 0 0 0 I J = some (v, I', J') → P (.inl (none)) (hX X I' J') → am_E (gG L xs) (d + 1) m_Translator_statements (0, lv_args 0 [.ref 3], []) (hX X I J) P) (hR_1 : ∀ {I : MI} {J : MJ} {v : Int32} {I' : MI} {J' : MJ} {P : am_R → am_H → Prop}, R 1 0 0 I J = some (v, I', J') → P (.inl (some (.int v))) (hX X I' J') → am_E (gG L xs) (d + 1) m_Translator_statement (0, lv_args 0 [.ref 3], []) (hX X I J) P) (hR_2 : ∀ {a0 : Int32} {a1 : Int32} {I : MI} {J : MJ} {v : Int32} {I' : MI} {J' : MJ} {P : am_R → am_H → Prop}, R 2 a0 a1 I J = some (v, I', J') → P (.inl (none)) (hX X I' J') → am_E (gG L xs) (d + 1) m_Translator_variableStatement (0, lv_args 0 [.ref 3, .int a0, .int a1], []) (hX X I J) P) (hR_3 : ∀ {a0 : Int32} {a1 : Int32} {I : MI} {J : MJ} {v : Int32} {I' : MI} {J' : MJ} {P : am_R → am_H → Prop}, R 3 a0 a1 I J = some (v, I', J') → P (.inl (none)) (hX X I' J') → am_E (gG L xs) (d + 1) m_Translator_assign (0, lv_args 0 [.ref 3, .int a0, .int a1], []) (hX X I J) P) (hR_4 : ∀ {a0 : Int32} {a1 : Int32} {I : MI} {J : MJ} {v : Int32} {I' : MI} {J' : MJ} {P : am_R → am_H → Prop}, R 4 a0 a1 I J = some (v, I', J') → P (.inl (none)) (hX X I' J') → am_E (gG L xs) (d + 1) m_Translator_arrayStatement (0, lv_args 0 [.ref 3, .int a0, .int a1], []) (hX X I J) P) (hR_5 : ∀ {a0 : Int32} {I : MI} {J : MJ} {v : Int32} {I' : MI} {J' : MJ} {P : am_R → am_H → Prop}, R 5 a0 0 I J = some (v, I', J') → P (.inl (none)) (hX X I' J') → am_E (gG L xs) (d + 1) m_Translator_routine (0, lv_args 0 [.ref 3, .int a0], []) (hX X I J) P) (hR_6 : ∀ {a0 : Int32} {a1 : Int32} {I : MI} {J : MJ} {v : Int32} {I' : MI} {J' : MJ} {P : am_R → am_H → Prop}, R 6 a0 a1 I J = some (v, I', J') → P (.inl (none)) (hX X I' J') → am_E (gG L xs) (d + 1) m_Translator_tell (0, lv_args 0 [.ref 3, .int a0, .int a1], []) (hX X I J) P) (hR_7 : ∀ {I : MI} {J : MJ} {v : Int32} {I' : MI} {J' : MJ} {P : am_R → am_H → Prop}, R 7 0 0 I J = some (v, I', J') → P (.inl (none)) (hX X I' J') → am_E (gG L xs) (d + 1) m_Translator_choice (0, lv_args 0 [.ref 3], []) (hX X I J) P) (hR_8 : ∀ {I : MI} {J : MJ} {v : Int32} {I' : MI} {J' : MJ} {P : am_R → am_H → Prop}, R 8 0 0 I J = some (v, I', J') → P (.inl (none)) (hX X I' J') → am_E (gG L xs) (d + 1) m_Translator_loop (0, lv_args 0 [.ref 3], []) (hX X I J) P) (hR_9 : ∀ {I : MI} {J : MJ} {v : Int32} {I' : MI} {J' : MJ} {P : am_R → am_H → Prop}, R 9 0 0 I J = some (v, I', J') → P (.inl (some (.int v))) (hX X I' J') → am_E (gG L xs) (d + 1) m_Translator_expression (0, lv_args 0 [.ref 3], []) (hX X I J) P) (hR_10 : ∀ {I : MI} {J : MJ} {v : Int32} {I' : MI} {J' : MJ} {P : am_R → am_H → Prop}, R 10 0 0 I J = some (v, I', J') → P (.inl (some (.int v))) (hX X I' J') → am_E (gG L xs) (d + 1) m_Translator_product (0, lv_args 0 [.ref 3], []) (hX X I J) P) (hR_11 : ∀ {I : MI} {J : MJ} {v : Int32} {I' : MI} {J' : MJ} {P : am_R → am_H → Prop}, R 11 0 0 I J = some (v, I', J') → P (.inl (some (.int v))) (hX X I' J') → am_E (gG L xs) (d + 1) m_Translator_factor (0, lv_args 0 [.ref 3], []) (hX X I J) P) (hR_12 : ∀ {I : MI} {J : MJ} {v : Int32} {I' : MI} {J' : MJ} {P : am_R → am_H → Prop}, R 12 0 0 I J = some (v, I', J') → P (.inl (some (.int v))) (hX X I' J') → am_E (gG L xs) (d + 1) m_Translator_atom (0, lv_args 0 [.ref 3], []) (hX X I J) P) (hR_13 : ∀ {I : MI} {J : MJ} {v : Int32} {I' : MI} {J' : MJ} {P : am_R → am_H → Prop}, R 13 0 0 I J = some (v, I', J') → P (.inl (none)) (hX X I' J') → am_E (gG L xs) (d + 1) m_Translator_index (0, lv_args 0 [.ref 3], []) (hX X I J) P) : ∀ (fu : Nat) {l1 : Int32} {l2 : Int32} {I : MI} {J : MJ} {r : (Int32)} {I' : MI} {J' : MJ}, f_Translator_product_7 R  fu l1 l2 I J = some (r, I', J') → am_E (gG L xs) (d + 2) m_Translator_product (74, [(1, .int r)], []) (hX X I' J') P → am_E (gG L xs) (d + 2) m_Translator_product (7, [(0, .ref 3), (1, .int l1), (2, .int l2)], []) (hX X I J) P := by
  intro fu
  induction fu with
  | zero =>
    intros
    rename_i hb _
    cases hb
  | succ fu ih =>
    intro l1 l2 I J r I' J' hb K
    unfold f_Translator_product_7 at hb
    refine e_k 3 (f' := (if 400 ≤ l2 then 74 else 14, [(0, .ref 3), (1, .int l1), (2, .int l2)], [])) rfl ?_
    refine e_if (fun c2 => ?_) (fun c2 => ?_)
    · replace hb := i_pos c2 hb
      refine e_sub (ls := [(1, .int l1)]) rfl ⟨rfl, trivial⟩ ?_
      obtain ⟨rfl, rfl, rfl⟩ := s_inj hb
      exact K
    · replace hb := i_neg c2 hb
      refine e_k 1 (f' := (15, [(0, .ref 3), (1, .int l1), (2, .int l2)], [.ref 3])) rfl ?_
      obtain ⟨v3, I3, J3, h3, hb⟩ := oc_call hb
      refine r_cv (z := m_Translator_look) (As := []) (rest := []) rfl rfl rfl rfl rfl (x_ltn rfl) rfl rfl (E_Translator_look  h3 ⟨_, rfl, ?_⟩)
      refine e_k 2 (f' := (if ¬ v3 = 42 then 74 else 23, [(0, .ref 3), (1, .int l1), (2, .int l2)], [])) rfl ?_
      refine e_if (fun c4 => ?_) (fun c4 => ?_)
      · replace hb := i_pos c4 hb
        refine e_sub (ls := [(1, .int l1)]) rfl ⟨rfl, trivial⟩ ?_
        obtain ⟨rfl, rfl, rfl⟩ := s_inj hb
        exact K
      · replace hb := i_neg c4 hb
        refine e_k 1 (f' := (24, [(0, .ref 3), (1, .int l1), (2, .int l2)], [.ref 3])) rfl ?_
        obtain ⟨v5, I5, J5, h5, hb⟩ := oc_call hb
        refine r_cv (z := m_Translator_pass) (As := []) (rest := []) rfl rfl rfl rfl rfl (x_ltn rfl) rfl rfl (E_Translator_pass  h5 ⟨_, rfl, ?_⟩)
        refine e_k 1 (f' := (28, [(0, .ref 3), (1, .int l1), (2, .int l2)], [.ref 3])) rfl ?_
        obtain ⟨v6, I6, J6, h6, hb⟩ := oc_call hb
        refine r_cv (z := m_Translator_factor) (As := []) (rest := []) rfl rfl rfl rfl rfl (x_ltn rfl) rfl rfl (hR_11  h6 ⟨_, rfl, ?_⟩)
        refine e_k 4 (f' := (if l1 = 0 then 46 else 37, [(3, .int v6), (0, .ref 3), (1, .int l1), (2, .int l2)], [.ref 3])) rfl ?_
        obtain ⟨v8, h8, hb⟩ := p_nn hb
        have Kj8 : am_E (gG L xs) (d + 2) m_Translator_product (48, [(0, .ref 3), (1, .int l1), (2, .int l2), (3, .int v6)], [.int v8, .ref 3]) (hX X I6 J6) P := by
          refine e_k 3 (f' := (51, [(0, .ref 3), (1, .int l1), (2, .int l2), (3, .int v6)], [.int 0, .int 0, .int 0, .int v8, .ref 3])) rfl ?_
          obtain ⟨v11, I11, J11, h11, hb⟩ := oc_call hb
          refine r_cv (z := m_Translator_emit) (As := [.int v8, .int 0, .int 0, .int 0]) (rest := []) rfl rfl rfl rfl rfl (x_ltn rfl) rfl rfl (E_Translator_emit  h11 ⟨_, rfl, ?_⟩)
          refine e_k 2 (f' := (if ¬ l1 = 0 then 62 else 58, [(0, .ref 3), (1, .int l1), (2, .int l2), (3, .int v6)], [])) rfl ?_
          obtain ⟨v13, h13, hb⟩ := p_nn hb
          have Kj13 : am_E (gG L xs) (d + 2) m_Translator_product (67, [(0, .ref 3), (2, .int l2)], [.int v13]) (hX X I11 J11) P := by
            refine e_k 3 (f' := (7, [(2, .int (l2 + 1)), (1, .int v13), (0, .ref 3)], [])) rfl ?_
            refine e_sub (ls := [(0, .ref 3), (1, .int v13), (2, .int (l2 + 1))]) rfl ⟨rfl, rfl, rfl, trivial⟩ ?_
            exact ih  hb K
          clear hb
          refine e_if (fun c14 => ?_) (fun c14 => ?_)
          · replace h13 := i_pos c14 h13
            refine e_k 2 (f' := (67, [(0, .ref 3), (1, .int l1), (2, .int l2), (3, .int v6)], [.int 1])) rfl ?_
            refine e_sub (ls := [(0, .ref 3), (2, .int l2)]) rfl ⟨rfl, rfl, trivial⟩ ?_
            subst h13
            exact Kj13
          · replace h13 := i_neg c14 h13
            refine e_k 2 (f' := (if v6 = 0 then 66 else 62, [(0, .ref 3), (1, .int l1), (2, .int l2), (3, .int v6)], [])) rfl ?_
            refine e_if (fun c15 => ?_) (fun c15 => ?_)
            · replace h13 := i_pos c15 h13
              refine e_k 1 (f' := (67, [(0, .ref 3), (1, .int l1), (2, .int l2), (3, .int v6)], [.int 0])) rfl ?_
              refine e_sub (ls := [(0, .ref 3), (2, .int l2)]) rfl ⟨rfl, rfl, trivial⟩ ?_
              subst h13
              exact Kj13
            · replace h13 := i_neg c15 h13
              refine e_k 2 (f' := (67, [(0, .ref 3), (1, .int l1), (2, .int l2), (3, .int v6)], [.int 1])) rfl ?_
              refine e_sub (ls := [(0, .ref 3), (2, .int l2)]) rfl ⟨rfl, rfl, trivial⟩ ?_
              subst h13
              exact Kj13
        clear hb
        refine e_if (fun c9 => ?_) (fun c9 => ?_)
        · replace h8 := i_pos c9 h8
          refine e_k 1 (f' := (48, [(3, .int v6), (0, .ref 3), (1, .int l1), (2, .int l2)], [.int 6, .ref 3])) rfl ?_
          refine e_sub (ls := [(0, .ref 3), (1, .int l1), (2, .int l2), (3, .int v6)]) rfl ⟨rfl, rfl, rfl, rfl, trivial⟩ ?_
          subst h8
          exact Kj8
        · replace h8 := i_neg c9 h8
          refine e_k 2 (f' := (if v6 = 0 then 46 else 41, [(3, .int v6), (0, .ref 3), (1, .int l1), (2, .int l2)], [.ref 3])) rfl ?_
          refine e_if (fun c10 => ?_) (fun c10 => ?_)
          · replace h8 := i_pos c10 h8
            refine e_k 1 (f' := (48, [(3, .int v6), (0, .ref 3), (1, .int l1), (2, .int l2)], [.int 6, .ref 3])) rfl ?_
            refine e_sub (ls := [(0, .ref 3), (1, .int l1), (2, .int l2), (3, .int v6)]) rfl ⟨rfl, rfl, rfl, rfl, trivial⟩ ?_
            subst h8
            exact Kj8
          · replace h8 := i_neg c10 h8
            refine e_k 2 (f' := (48, [(3, .int v6), (0, .ref 3), (1, .int l1), (2, .int l2)], [.int 7, .ref 3])) rfl ?_
            refine e_sub (ls := [(0, .ref 3), (1, .int l1), (2, .int l2), (3, .int v6)]) rfl ⟨rfl, rfl, rfl, rfl, trivial⟩ ?_
            subst h8
            exact Kj8
theorem E_Translator_product {R : M3} {X : MX} {I : MI} {J : MJ} {v : Int32} {I' : MI} {J' : MJ} (hR_0 : ∀ {I : MI} {J : MJ} {v : Int32} {I' : MI} {J' : MJ} {P : am_R → am_H → Prop}, R 0 0 0 I J = some (v, I', J') → P (.inl (none)) (hX X I' J') → am_E (gG L xs) (d + 1) m_Translator_statements (0, lv_args 0 [.ref 3], []) (hX X I J) P) (hR_1 : ∀ {I : MI} {J : MJ} {v : Int32} {I' : MI} {J' : MJ} {P : am_R → am_H → Prop}, R 1 0 0 I J = some (v, I', J') → P (.inl (some (.int v))) (hX X I' J') → am_E (gG L xs) (d + 1) m_Translator_statement (0, lv_args 0 [.ref 3], []) (hX X I J) P) (hR_2 : ∀ {a0 : Int32} {a1 : Int32} {I : MI} {J : MJ} {v : Int32} {I' : MI} {J' : MJ} {P : am_R → am_H → Prop}, R 2 a0 a1 I J = some (v, I', J') → P (.inl (none)) (hX X I' J') → am_E (gG L xs) (d + 1) m_Translator_variableStatement (0, lv_args 0 [.ref 3, .int a0, .int a1], []) (hX X I J) P) (hR_3 : ∀ {a0 : Int32} {a1 : Int32} {I : MI} {J : MJ} {v : Int32} {I' : MI} {J' : MJ} {P : am_R → am_H → Prop}, R 3 a0 a1 I J = some (v, I', J') → P (.inl (none)) (hX X I' J') → am_E (gG L xs) (d + 1) m_Translator_assign (0, lv_args 0 [.ref 3, .int a0, .int a1], []) (hX X I J) P) (hR_4 : ∀ {a0 : Int32} {a1 : Int32} {I : MI} {J : MJ} {v : Int32} {I' : MI} {J' : MJ} {P : am_R → am_H → Prop}, R 4 a0 a1 I J = some (v, I', J') → P (.inl (none)) (hX X I' J') → am_E (gG L xs) (d + 1) m_Translator_arrayStatement (0, lv_args 0 [.ref 3, .int a0, .int a1], []) (hX X I J) P) (hR_5 : ∀ {a0 : Int32} {I : MI} {J : MJ} {v : Int32} {I' : MI} {J' : MJ} {P : am_R → am_H → Prop}, R 5 a0 0 I J = some (v, I', J') → P (.inl (none)) (hX X I' J') → am_E (gG L xs) (d + 1) m_Translator_routine (0, lv_args 0 [.ref 3, .int a0], []) (hX X I J) P) (hR_6 : ∀ {a0 : Int32} {a1 : Int32} {I : MI} {J : MJ} {v : Int32} {I' : MI} {J' : MJ} {P : am_R → am_H → Prop}, R 6 a0 a1 I J = some (v, I', J') → P (.inl (none)) (hX X I' J') → am_E (gG L xs) (d + 1) m_Translator_tell (0, lv_args 0 [.ref 3, .int a0, .int a1], []) (hX X I J) P) (hR_7 : ∀ {I : MI} {J : MJ} {v : Int32} {I' : MI} {J' : MJ} {P : am_R → am_H → Prop}, R 7 0 0 I J = some (v, I', J') → P (.inl (none)) (hX X I' J') → am_E (gG L xs) (d + 1) m_Translator_choice (0, lv_args 0 [.ref 3], []) (hX X I J) P) (hR_8 : ∀ {I : MI} {J : MJ} {v : Int32} {I' : MI} {J' : MJ} {P : am_R → am_H → Prop}, R 8 0 0 I J = some (v, I', J') → P (.inl (none)) (hX X I' J') → am_E (gG L xs) (d + 1) m_Translator_loop (0, lv_args 0 [.ref 3], []) (hX X I J) P) (hR_9 : ∀ {I : MI} {J : MJ} {v : Int32} {I' : MI} {J' : MJ} {P : am_R → am_H → Prop}, R 9 0 0 I J = some (v, I', J') → P (.inl (some (.int v))) (hX X I' J') → am_E (gG L xs) (d + 1) m_Translator_expression (0, lv_args 0 [.ref 3], []) (hX X I J) P) (hR_10 : ∀ {I : MI} {J : MJ} {v : Int32} {I' : MI} {J' : MJ} {P : am_R → am_H → Prop}, R 10 0 0 I J = some (v, I', J') → P (.inl (some (.int v))) (hX X I' J') → am_E (gG L xs) (d + 1) m_Translator_product (0, lv_args 0 [.ref 3], []) (hX X I J) P) (hR_11 : ∀ {I : MI} {J : MJ} {v : Int32} {I' : MI} {J' : MJ} {P : am_R → am_H → Prop}, R 11 0 0 I J = some (v, I', J') → P (.inl (some (.int v))) (hX X I' J') → am_E (gG L xs) (d + 1) m_Translator_factor (0, lv_args 0 [.ref 3], []) (hX X I J) P) (hR_12 : ∀ {I : MI} {J : MJ} {v : Int32} {I' : MI} {J' : MJ} {P : am_R → am_H → Prop}, R 12 0 0 I J = some (v, I', J') → P (.inl (some (.int v))) (hX X I' J') → am_E (gG L xs) (d + 1) m_Translator_atom (0, lv_args 0 [.ref 3], []) (hX X I J) P) (hR_13 : ∀ {I : MI} {J : MJ} {v : Int32} {I' : MI} {J' : MJ} {P : am_R → am_H → Prop}, R 13 0 0 I J = some (v, I', J') → P (.inl (none)) (hX X I' J') → am_E (gG L xs) (d + 1) m_Translator_index (0, lv_args 0 [.ref 3], []) (hX X I J) P) (hb : f_Translator_product R  I J = some (v, I', J')) (K : P (.inl (some (.int v))) (hX X I' J')) : am_E (gG L xs) (d + 2) m_Translator_product (0, lv_args 0 [.ref 3], []) (hX X I J) P := by
  unfold f_Translator_product at hb
  refine e_k 1 (f' := (1, [(0, .ref 3)], [.ref 3])) rfl ?_
  obtain ⟨v1, I1, J1, h1, hb⟩ := oc_call hb
  refine r_cv (z := m_Translator_factor) (As := []) (rest := []) rfl rfl rfl rfl rfl (x_ltn rfl) rfl rfl (hR_11  h1 ⟨_, rfl, ?_⟩)
  refine e_k 3 (f' := (7, [(2, .int 0), (1, .int v1), (0, .ref 3)], [])) rfl ?_
  refine e_sub (ls := [(0, .ref 3), (1, .int v1), (2, .int 0)]) rfl ⟨rfl, rfl, rfl, trivial⟩ ?_
  obtain ⟨u16, I16, J16, h16, hb⟩ := oc_call hb
  refine E_Translator_product_7 hR_0 hR_1 hR_2 hR_3 hR_4 hR_5 hR_6 hR_7 hR_8 hR_9 hR_10 hR_11 hR_12 hR_13 gF  h16 ?_
  refine e_k 1 (f' := (75, [(1, .int u16)], [.int u16])) rfl ?_
  obtain ⟨o17, hb⟩ := ob_if hb
  obtain ⟨rfl, rfl, rfl⟩ := s_inj hb
  exact e_r rfl (if_pos o17) K
theorem E_Translator_literal_4 {X : MX} : ∀ (fu : Nat) {l1 : Int64} {l3 : Int32} {I : MI} {J : MJ} {r : (Int64)} {I' : MI} {J' : MJ}, f_Translator_literal_4  fu l1 l3 I J = some (r, I', J') → am_E (gG L xs) (d + 1) m_Translator_literal (66, [(0, .ref 3), (1, .long r)], []) (hX X I' J') P → am_E (gG L xs) (d + 1) m_Translator_literal (4, [(0, .ref 3), (1, .long l1), (3, .int l3)], []) (hX X I J) P := by
  intro fu
  induction fu with
  | zero =>
    intros
    rename_i hb _
    cases hb
  | succ fu ih =>
    intro l1 l3 I J r I' J' hb K
    unfold f_Translator_literal_4 at hb
    refine e_k 3 (f' := (if 18 ≤ l3 then 66 else 10, [(0, .ref 3), (1, .long l1), (3, .int l3)], [])) rfl ?_
    refine e_if (fun c1 => ?_) (fun c1 => ?_)
    · replace hb := i_pos c1 hb
      refine e_sub (ls := [(0, .ref 3), (1, .long l1)]) rfl ⟨rfl, rfl, trivial⟩ ?_
      obtain ⟨rfl, rfl, rfl⟩ := s_inj hb
      exact K
    · replace hb := i_neg c1 hb
      refine e_k 1 (f' := (11, [(0, .ref 3), (1, .long l1), (3, .int l3)], [.ref 3])) rfl ?_
      refine r_getr rfl (x_ltn rfl) rfl rfl ?_
      refine e_k 1 (f' := (15, [(0, .ref 3), (1, .long l1), (3, .int l3)], [.ref 3, .ref 4])) rfl ?_
      refine r_geti rfl (x_ltn rfl) rfl rfl ?_
      obtain ⟨v2, I2, J2, h2, hb⟩ := oc_call hb
      refine r_cv (z := m_Row_at) (As := [.int (I 3 5)]) (rest := []) rfl rfl rfl rfl rfl (x_ltn rfl) rfl rfl (E_Row_at row_4 h2 ⟨_, rfl, ?_⟩)
      obtain ⟨v3, I3, J3, h3, hb⟩ := oc_call hb
      refine r_cs (z := m_Translator_isDigit) (As := [.int v2]) (rest := []) rfl rfl rfl rfl rfl rfl (E_Translator_isDigit  h3 ⟨_, rfl, ?_⟩)
      refine e_k 1 (f' := (if v3 = 0 then 66 else 27, [(0, .ref 3), (1, .long l1), (3, .int l3)], [])) rfl ?_
      refine e_if (fun c4 => ?_) (fun c4 => ?_)
      · replace hb := i_pos c4 hb
        refine e_sub (ls := [(0, .ref 3), (1, .long l1)]) rfl ⟨rfl, rfl, trivial⟩ ?_
        obtain ⟨rfl, rfl, rfl⟩ := s_inj hb
        exact K
      · replace hb := i_neg c4 hb
        refine e_k 4 (f' := (33, [(0, .ref 3), (1, .long l1), (3, .int l3)], [.ref 3, .long (10 * l1)])) rfl ?_
        refine r_getr rfl (x_ltn rfl) rfl rfl ?_
        refine e_k 1 (f' := (37, [(0, .ref 3), (1, .long l1), (3, .int l3)], [.ref 3, .ref 4, .long (10 * l1)])) rfl ?_
        refine r_geti rfl (x_ltn rfl) rfl rfl ?_
        obtain ⟨v5, I5, J5, h5, hb⟩ := oc_call hb
        refine r_cv (z := m_Row_at) (As := [.int (I3 3 5)]) (rest := [.long (10 * l1)]) rfl rfl rfl rfl rfl (x_ltn rfl) rfl rfl (E_Row_at row_4 h5 ⟨_, rfl, ?_⟩)
        refine e_k 5 (f' := (50, [(1, .long (((10 * l1) + (Int32.toInt64 v5)) - 48)), (0, .ref 3), (3, .int l3)], [])) rfl ?_
        obtain ⟨x6, ex6, hb⟩ := p_nm hb
        rw [← ex6]
        refine e_k 2 (f' := (52, [(1, .long x6), (0, .ref 3), (3, .int l3)], [.ref 3, .ref 3])) rfl ?_
        refine r_geti rfl (x_ltn rfl) rfl rfl ?_
        refine e_k 2 (f' := (57, [(1, .long x6), (0, .ref 3), (3, .int l3)], [.int ((I5 3 5) + 1), .ref 3])) rfl ?_
        obtain ⟨I7, eI7, hb⟩ := p_nm hb
        refine r_puti' rfl (x_ltn rfl) rfl rfl eI7 ?_
        refine e_k 2 (f' := (4, [(3, .int (l3 + 1)), (1, .long x6), (0, .ref 3)], [])) rfl ?_
        refine e_sub (ls := [(0, .ref 3), (1, .long x6), (3, .int (l3 + 1))]) rfl ⟨rfl, rfl, rfl, trivial⟩ ?_
        exact ih  hb K
theorem E_Translator_literal_77 {X : MX} : ∀ (fu : Nat) {l1 : Int64} {l3 : Int32} {I : MI} {J : MJ} {r : (Unit)} {I' : MI} {J' : MJ}, f_Translator_literal_77  fu l1 l3 I J = some (r, I', J') → am_E (gG L xs) (d + 1) m_Translator_literal (98, [], []) (hX X I' J') P → am_E (gG L xs) (d + 1) m_Translator_literal (77, [(0, .ref 3), (1, .long l1), (3, .int l3)], []) (hX X I J) P := by
  intro fu
  induction fu with
  | zero =>
    intros
    rename_i hb _
    cases hb
  | succ fu ih =>
    intro l1 l3 I J r I' J' hb K
    unfold f_Translator_literal_77 at hb
    refine e_k 2 (f' := (if l3 < 0 then 98 else 81, [(0, .ref 3), (1, .long l1), (3, .int l3)], [])) rfl ?_
    refine e_if (fun c10 => ?_) (fun c10 => ?_)
    · replace hb := i_pos c10 hb
      refine e_sub (ls := []) rfl ⟨⟩ ?_
      obtain ⟨rfl, rfl, rfl⟩ := s_inj hb
      exact K
    · replace hb := i_neg c10 hb
      refine e_k 1 (f' := (82, [(0, .ref 3), (1, .long l1), (3, .int l3)], [.ref 3])) rfl ?_
      refine r_getr rfl (x_ltn rfl) rfl rfl ?_
      refine e_k 4 (f' := (89, [(0, .ref 3), (1, .long l1), (3, .int l3)], [.int (Int64.toInt32 ((Int64.toUInt64 l1 >>> (Int64.toUInt64 (Int32.toInt64 l3) &&& Int64.toUInt64 63)).toInt64)), .ref 6])) rfl ?_
      obtain ⟨v11, I11, J11, h11, hb⟩ := oc_call hb
      refine r_cv (z := m_Row_add) (As := [.int (Int64.toInt32 ((Int64.toUInt64 l1 >>> (Int64.toUInt64 (Int32.toInt64 l3) &&& Int64.toUInt64 63)).toInt64))]) (rest := []) rfl rfl rfl rfl rfl (x_ltn rfl) rfl rfl (E_Row_add row_6 h11 ⟨_, rfl, ?_⟩)
      refine e_k 2 (f' := (77, [(3, .int (l3 + (-8))), (0, .ref 3), (1, .long l1)], [])) rfl ?_
      refine e_sub (ls := [(0, .ref 3), (1, .long l1), (3, .int (l3 + (-8)))]) rfl ⟨rfl, rfl, rfl, trivial⟩ ?_
      exact ih  hb K
theorem E_Translator_literal {X : MX} {I : MI} {J : MJ} {v : Unit} {I' : MI} {J' : MJ} (hb : f_Translator_literal  I J = some (v, I', J')) (K : P (.inl (none)) (hX X I' J')) : am_E (gG L xs) (d + 1) m_Translator_literal (0, lv_args 0 [.ref 3], []) (hX X I J) P := by
  unfold f_Translator_literal at hb
  refine e_k 4 (f' := (4, [(3, .int 0), (1, .long 0), (0, .ref 3)], [])) rfl ?_
  refine e_sub (ls := [(0, .ref 3), (1, .long 0), (3, .int 0)]) rfl ⟨rfl, rfl, rfl, trivial⟩ ?_
  obtain ⟨u8, I8, J8, h8, hb⟩ := oc_call hb
  refine E_Translator_literal_4  gF  h8 ?_
  refine e_k 1 (f' := (67, [(0, .ref 3), (1, .long u8)], [.ref 3])) rfl ?_
  refine r_getr rfl (x_ltn rfl) rfl rfl ?_
  refine e_k 1 (f' := (71, [(0, .ref 3), (1, .long u8)], [.int 1, .ref 6])) rfl ?_
  obtain ⟨v9, I9, J9, h9, hb⟩ := oc_call hb
  refine r_cv (z := m_Row_add) (As := [.int 1]) (rest := []) rfl rfl rfl rfl rfl (x_ltn rfl) rfl rfl (E_Row_add row_6 h9 ⟨_, rfl, ?_⟩)
  refine e_k 2 (f' := (77, [(3, .int 56), (0, .ref 3), (1, .long u8)], [])) rfl ?_
  refine e_sub (ls := [(0, .ref 3), (1, .long u8), (3, .int 56)]) rfl ⟨rfl, rfl, rfl, trivial⟩ ?_
  obtain ⟨u12, I12, J12, h12, hb⟩ := oc_call hb
  refine E_Translator_literal_77  gF  h12 ?_
  obtain ⟨rfl, rfl, rfl⟩ := s_inj hb
  exact e_r rfl rfl K
theorem E_Translator_enter {X : MX} {I : MI} {J : MJ} {v : Unit} {I' : MI} {J' : MJ} (hb : f_Translator_enter  I J = some (v, I', J')) (K : P (.inl (none)) (hX X I' J')) : am_E (gG L xs) (d + 1) m_Translator_enter (0, lv_args 0 [.ref 3], []) (hX X I J) P := by
  unfold f_Translator_enter at hb
  refine e_k 1 (f' := (1, [(0, .ref 3)], [.ref 3])) rfl ?_
  refine r_geti rfl (x_ltn rfl) rfl rfl ?_
  refine e_k 2 (f' := (if (I 3 6) < 20 then 13 else 9, [(0, .ref 3)], [])) rfl ?_
  obtain ⟨v2, I2, J2, h2, hb⟩ := oc_call hb
  have Kj2 : am_E (gG L xs) (d + 1) m_Translator_enter (13, [(0, .ref 3)], []) (hX X I2 J2) P := by
    refine e_k 2 (f' := (15, [(0, .ref 3)], [.ref 3, .ref 3])) rfl ?_
    refine r_geti rfl (x_ltn rfl) rfl rfl ?_
    refine e_k 2 (f' := (20, [(0, .ref 3)], [.int ((I2 3 6) + 1), .ref 3])) rfl ?_
    obtain ⟨I5, eI5, hb⟩ := p_nm hb
    refine r_puti' rfl (x_ltn rfl) rfl rfl eI5 ?_
    refine e_k 1 (f' := (24, [(0, .ref 3)], [.ref 3])) rfl ?_
    obtain ⟨v6, I6, J6, h6, hb⟩ := oc_call hb
    refine r_cv (z := m_Translator_pass) (As := []) (rest := []) rfl rfl rfl rfl rfl (x_ltn rfl) rfl rfl (E_Translator_pass  h6 ⟨_, rfl, ?_⟩)
    obtain ⟨rfl, rfl, rfl⟩ := s_inj hb
    exact e_r rfl rfl K
  clear hb
  refine e_if (fun c3 => ?_) (fun c3 => ?_)
  · replace h2 := i_pos c3 h2
    refine e_sub (ls := [(0, .ref 3)]) rfl ⟨rfl, trivial⟩ ?_
    obtain ⟨rfl, rfl, rfl⟩ := s_inj h2
    exact Kj2
  · replace h2 := i_neg c3 h2
    refine e_k 1 (f' := (10, [(0, .ref 3)], [.ref 3])) rfl ?_
    obtain ⟨v4, I4, J4, h4, h2⟩ := oc_call h2
    refine r_cv (z := m_Translator_refuse) (As := []) (rest := []) rfl rfl rfl rfl rfl (x_ltn rfl) rfl rfl (E_Translator_refuse  h4 ⟨_, rfl, ?_⟩)
    refine e_sub (ls := [(0, .ref 3)]) rfl ⟨rfl, trivial⟩ ?_
    obtain ⟨rfl, rfl, rfl⟩ := s_inj h2
    exact Kj2
end AUTO
