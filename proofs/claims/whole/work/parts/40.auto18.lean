section AUTO
variable {L : Nat} {xs : Nat → Int32} {d : Nat} {P : am_R → am_H → Prop}
theorem E_Check_startAnew {w1 : Nat} {X : MX} {I : MI} {J : MJ} {v : Unit} {I' : MI} {J' : MJ} (hw_w1 : w1 < 4) (hb : f_Check_startAnew w1 I J = some (v, I', J')) (K : P (.inl (none)) (hX X I' J')) : am_E (gG L xs) (d + 1) m_Check_startAnew (0, lv_args 0 [.ref (25 + 21 * w1)], []) (hX X I J) P := by
  unfold f_Check_startAnew at hb
  refine e_k 2 (f' := (2, [(0, .ref (25 + 21 * w1))], [.int 0, .ref (25 + 21 * w1)])) rfl ?_
  obtain ⟨I1, eI1, hb⟩ := p_nm hb
  refine r_puti' rfl (x_ltp hw_w1 (by decide)) (sS_p7 hw_w1) rfl eI1 ?_
  refine e_k 2 (f' := (7, [(0, .ref (25 + 21 * w1))], [.int 0, .ref (25 + 21 * w1)])) rfl ?_
  obtain ⟨I2, eI2, hb⟩ := p_nm hb
  refine r_putz' rfl (x_ltp hw_w1 (by decide)) (sS_p7 hw_w1) rfl (Or.inl rfl) eI2 ?_
  refine e_k 1 (f' := (11, [(0, .ref (25 + 21 * w1))], [.ref (25 + 21 * w1)])) rfl ?_
  obtain ⟨v3, I3, J3, h3, hb⟩ := oc_call hb
  refine r_cv (z := m_Check_forget) (As := []) (rest := []) rfl rfl rfl rfl rfl (x_ltp hw_w1 (by decide)) (sS_p7 hw_w1) rfl (E_Check_forget hw_w1 h3 ⟨_, rfl, ?_⟩)
  obtain ⟨rfl, rfl, rfl⟩ := s_inj hb
  exact e_r rfl rfl K
theorem E_Digest_next {p2 : Int64} {p3 : Int64} {X : MX} {I : MI} {J : MJ} {v : Int64} {I' : MI} {J' : MJ} (hb : f_Digest_next p2 p3 I J = some (v, I', J')) (K : P (.inl (some (.long v))) (hX X I' J')) : am_E (gG L xs) (d + 1) m_Digest_next (0, lv_args 0 [.ref 108, .long p2, .long p3], []) (hX X I J) P := by
  unfold f_Digest_next at hb
  refine e_k 3 (f' := (3, [(0, .ref 108), (1, .long p2), (3, .long p3)], [.long p3, .long p2, .ref 108])) rfl ?_
  obtain ⟨v1, I1, J1, h1, hb⟩ := oc_call hb
  refine r_cv (z := m_Digest_spread) (As := [.long p2, .long p3]) (rest := []) rfl rfl rfl rfl rfl (x_ltn rfl) rfl rfl (E_Digest_spread  h1 ⟨_, rfl, ?_⟩)
  refine e_k 1 (f' := (7, [(0, .ref 108), (1, .long p2), (3, .long p3)], [.ref 108])) rfl ?_
  obtain ⟨v2, I2, J2, h2, hb⟩ := oc_call hb
  refine r_cv (z := m_Digest_stir) (As := []) (rest := []) rfl rfl rfl rfl rfl (x_ltn rfl) rfl rfl (E_Digest_stir  h2 ⟨_, rfl, ?_⟩)
  refine e_k 1 (f' := (11, [(0, .ref 108), (1, .long p2), (3, .long p3)], [.ref 108])) rfl ?_
  refine r_getr rfl (x_ltn rfl) rfl rfl ?_
  refine e_k 1 (f' := (15, [(0, .ref 108), (1, .long p2), (3, .long p3)], [.int 0, .ref 110])) rfl ?_
  obtain ⟨o3, hb⟩ := ob_in hb
  refine r_iald rfl rfl (x_ltn rfl) rfl o3 ?_
  refine e_k 4 (f' := (21, [(0, .ref 108), (1, .long p2), (3, .long p3)], [.ref 108, .long ((Int32.toInt64 (I2 110 (Int32.toNatClampNeg 0))) <<< ((Int32.toInt64 32) &&& 63))])) rfl ?_
  refine r_getr rfl (x_ltn rfl) rfl rfl ?_
  refine e_k 1 (f' := (25, [(0, .ref 108), (1, .long p2), (3, .long p3)], [.int 1, .ref 110, .long ((Int32.toInt64 (I2 110 (Int32.toNatClampNeg 0))) <<< ((Int32.toInt64 32) &&& 63))])) rfl ?_
  obtain ⟨o4, hb⟩ := ob_in hb
  refine r_iald rfl rfl (x_ltn rfl) rfl o4 ?_
  refine e_k 7 (f' := (37, [(0, .ref 108), (1, .long p2), (3, .long p3)], [.long 2305843009213693951, .long ((Int64.toUInt64 (((Int32.toInt64 (I2 110 (Int32.toNatClampNeg 0))) <<< ((Int32.toInt64 32) &&& 63)) ||| ((Int32.toInt64 (I2 110 (Int32.toNatClampNeg 1))) &&& 4294967295)) >>> (Int64.toUInt64 (Int32.toInt64 3) &&& Int64.toUInt64 63)).toInt64)])) rfl ?_
  refine e_k 1 (f' := (38, [(0, .ref 108), (1, .long p2), (3, .long p3)], [.long (((Int64.toUInt64 (((Int32.toInt64 (I2 110 (Int32.toNatClampNeg 0))) <<< ((Int32.toInt64 32) &&& 63)) ||| ((Int32.toInt64 (I2 110 (Int32.toNatClampNeg 1))) &&& 4294967295)) >>> (Int64.toUInt64 (Int32.toInt64 3) &&& Int64.toUInt64 63)).toInt64) - ((Int64.toUInt64 (((Int32.toInt64 (I2 110 (Int32.toNatClampNeg 0))) <<< ((Int32.toInt64 32) &&& 63)) ||| ((Int32.toInt64 (I2 110 (Int32.toNatClampNeg 1))) &&& 4294967295)) >>> (Int64.toUInt64 (Int32.toInt64 3) &&& Int64.toUInt64 63)).toInt64) / 2305843009213693951 * 2305843009213693951)])) (am_lrem rfl (by decide)) ?_
  obtain ⟨rfl, rfl, rfl⟩ := s_inj hb
  exact e_r rfl rfl K
theorem E_Digest_byteOf {p2 : Int64} {p3 : Int64} {p4 : Int32} {X : MX} {I : MI} {J : MJ} {v : Int32} {I' : MI} {J' : MJ} (hb : f_Digest_byteOf p2 p3 p4 I J = some (v, I', J')) (K : P (.inl (some (.int v))) (hX X I' J')) : am_E (gG L xs) (d + 1) m_Digest_byteOf (0, lv_args 0 [.ref 108, .long p2, .long p3, .int p4], []) (hX X I J) P := by
  unfold f_Digest_byteOf at hb
  refine e_k 3 (f' := (3, [(0, .ref 108), (1, .long p2), (3, .long p3), (5, .int p4)], [.long p3, .long p2, .ref 108])) rfl ?_
  obtain ⟨v1, I1, J1, h1, hb⟩ := oc_call hb
  refine r_cv (z := m_Digest_spread) (As := [.long p2, .long p3]) (rest := []) rfl rfl rfl rfl rfl (x_ltn rfl) rfl rfl (E_Digest_spread  h1 ⟨_, rfl, ?_⟩)
  refine e_k 1 (f' := (7, [(0, .ref 108), (1, .long p2), (3, .long p3), (5, .int p4)], [.ref 108])) rfl ?_
  obtain ⟨v2, I2, J2, h2, hb⟩ := oc_call hb
  refine r_cv (z := m_Digest_stir) (As := []) (rest := []) rfl rfl rfl rfl rfl (x_ltn rfl) rfl rfl (E_Digest_stir  h2 ⟨_, rfl, ?_⟩)
  refine e_k 4 (f' := (16, [(6, .int (p4 >>> (2 &&& 31))), (0, .ref 108), (1, .long p2), (3, .long p3), (5, .int p4)], [])) rfl ?_
  obtain ⟨x3, ex3, hb⟩ := p_nm hb
  rw [← ex3]
  refine e_k 2 (f' := (if x3 < 0 then 56 else 21, [(6, .int x3), (0, .ref 108), (1, .long p2), (3, .long p3), (5, .int p4)], [])) rfl ?_
  refine e_if (fun c4 => ?_) (fun c4 => ?_)
  · replace hb := i_pos c4 hb
    refine e_k 1 (f' := (57, [(6, .int x3), (0, .ref 108), (1, .long p2), (3, .long p3), (5, .int p4)], [.int 0])) rfl ?_
    obtain ⟨rfl, rfl, rfl⟩ := s_inj hb
    exact e_r rfl rfl K
  · replace hb := i_neg c4 hb
    refine e_k 2 (f' := (24, [(6, .int x3), (0, .ref 108), (1, .long p2), (3, .long p3), (5, .int p4)], [.ref 108, .int x3])) rfl ?_
    refine r_getr rfl (x_ltn rfl) rfl rfl ?_
    refine r_alen rfl rfl (x_ltn rfl) rfl rfl ?_
    refine e_k 1 (f' := (if (nI 8) ≤ x3 then 56 else 31, [(6, .int x3), (0, .ref 108), (1, .long p2), (3, .long p3), (5, .int p4)], [])) rfl ?_
    refine e_if (fun c5 => ?_) (fun c5 => ?_)
    · replace hb := i_pos c5 hb
      refine e_k 1 (f' := (57, [(6, .int x3), (0, .ref 108), (1, .long p2), (3, .long p3), (5, .int p4)], [.int 0])) rfl ?_
      obtain ⟨rfl, rfl, rfl⟩ := s_inj hb
      exact e_r rfl rfl K
    · replace hb := i_neg c5 hb
      refine e_k 1 (f' := (32, [(6, .int x3), (0, .ref 108), (1, .long p2), (3, .long p3), (5, .int p4)], [.ref 108])) rfl ?_
      refine r_getr rfl (x_ltn rfl) rfl rfl ?_
      refine e_k 1 (f' := (37, [(6, .int x3), (0, .ref 108), (1, .long p2), (3, .long p3), (5, .int p4)], [.int x3, .ref 110])) rfl ?_
      obtain ⟨o6, hb⟩ := ob_in hb
      refine r_iald rfl rfl (x_ltn rfl) rfl o6 ?_
      refine e_k 11 (f' := (57, [(6, .int x3), (0, .ref 108), (1, .long p2), (3, .long p3), (5, .int p4)], [.int (((Int32.toUInt32 (I2 110 (Int32.toNatClampNeg x3)) >>> (Int32.toUInt32 (24 - (8 * (p4 &&& 3))) &&& Int32.toUInt32 31)).toInt32) &&& 255)])) rfl ?_
      obtain ⟨rfl, rfl, rfl⟩ := s_inj hb
      exact e_r rfl rfl K
theorem E_Hall_renew_38 {X : MX} {p2 : Int32} {p3 : Int64} {p4 : Int32} : ∀ (fu : Nat) {l5 : Int32} {I : MI} {J : MJ} {r : (Unit)} {I' : MI} {J' : MJ}, f_Hall_renew_38 p2 p3 p4 fu l5 I J = some (r, I', J') → am_E (gG L xs) (d + 2) m_Hall_renew (77, [], []) (hX X I' J') P → am_E (gG L xs) (d + 2) m_Hall_renew (38, [(0, .ref 14), (5, .int l5)], []) (hX X I J) P := by
  intro fu
  induction fu with
  | zero =>
    intros
    rename_i hb _
    cases hb
  | succ fu ih =>
    intro l5 I J r I' J' hb K
    unfold f_Hall_renew_38 at hb
    refine e_k 3 (f' := (if 4 ≤ l5 then 77 else 44, [(0, .ref 14), (5, .int l5)], [])) rfl ?_
    refine e_if (fun c7 => ?_) (fun c7 => ?_)
    · replace hb := i_pos c7 hb
      refine e_sub (ls := []) rfl ⟨⟩ ?_
      obtain ⟨rfl, rfl, rfl⟩ := s_inj hb
      exact K
    · replace hb := i_neg c7 hb
      refine e_k 1 (f' := (45, [(0, .ref 14), (5, .int l5)], [.ref 14])) rfl ?_
      refine r_getr rfl (x_ltn rfl) rfl rfl ?_
      refine e_k 1 (f' := (50, [(0, .ref 14), (5, .int l5)], [.int l5, .ref 17])) rfl ?_
      obtain ⟨o8, hb⟩ := ob_in hb
      refine r_pald rfl o8 ?_
      refine r_getr rfl (x_ltp (vp_lt o8) (by decide)) (sS_p0 (vp_lt o8)) rfl ?_
      obtain ⟨v9, I9, J9, h9, hb⟩ := oc_call hb
      refine r_cv (z := m_Stock_wipe) (As := []) (rest := []) rfl rfl rfl rfl rfl (x_ltp (vp_lt o8) (by decide)) (sS_p11 (vp_lt o8)) rfl (E_Stock_wipe (vp_lt o8) h9 ⟨_, rfl, ?_⟩)
      refine e_k 1 (f' := (58, [(0, .ref 14), (5, .int l5)], [.ref 14])) rfl ?_
      refine r_getr rfl (x_ltn rfl) rfl rfl ?_
      refine e_k 1 (f' := (63, [(0, .ref 14), (5, .int l5)], [.int l5, .ref 17])) rfl ?_
      obtain ⟨o10, hb⟩ := ob_in hb
      refine r_pald rfl o10 ?_
      refine r_getr rfl (x_ltp (vp_lt o10) (by decide)) (sS_p0 (vp_lt o10)) rfl ?_
      refine e_k 1 (f' := (68, [(0, .ref 14), (5, .int l5)], [.int 0, .ref (25 + 21 * (Int32.toNatClampNeg l5))])) rfl ?_
      obtain ⟨I11, eI11, hb⟩ := p_nm hb
      refine r_puti' rfl (x_ltp (vp_lt o10) (by decide)) (sS_p7 (vp_lt o10)) rfl eI11 ?_
      refine e_k 2 (f' := (38, [(5, .int (l5 + 1)), (0, .ref 14)], [])) rfl ?_
      refine e_sub (ls := [(0, .ref 14), (5, .int (l5 + 1))]) rfl ⟨rfl, rfl, trivial⟩ ?_
      exact ih  hb K
theorem E_Hall_renew {p2 : Int32} {p3 : Int64} {p4 : Int32} {X : MX} {I : MI} {J : MJ} {v : Unit} {I' : MI} {J' : MJ} (hb : f_Hall_renew p2 p3 p4 I J = some (v, I', J')) (K : P (.inl (none)) (hX X I' J')) : am_E (gG L xs) (d + 2) m_Hall_renew (0, lv_args 0 [.ref 14, .int p2, .long p3, .int p4], []) (hX X I J) P := by
  unfold f_Hall_renew at hb
  refine e_k 2 (f' := (2, [(0, .ref 14), (1, .int p2), (2, .long p3), (4, .int p4)], [.int p2, .ref 14])) rfl ?_
  obtain ⟨I1, eI1, hb⟩ := p_nm hb
  refine r_puti' rfl (x_ltn rfl) rfl rfl eI1 ?_
  refine e_k 2 (f' := (7, [(0, .ref 14), (1, .int p2), (2, .long p3), (4, .int p4)], [.long p3, .ref 14])) rfl ?_
  obtain ⟨J2, eJ2, hb⟩ := p_nm hb
  refine r_putl' rfl (x_ltn rfl) rfl rfl eJ2 ?_
  refine e_k 2 (f' := (13, [(0, .ref 14), (1, .int p2), (2, .long p3), (4, .int p4)], [.int p4, .ref 14])) rfl ?_
  obtain ⟨I3, eI3, hb⟩ := p_nm hb
  refine r_puti' rfl (x_ltn rfl) rfl rfl eI3 ?_
  refine e_k 2 (f' := (18, [(0, .ref 14), (1, .int p2), (2, .long p3), (4, .int p4)], [.int 0, .ref 14])) rfl ?_
  obtain ⟨I4, eI4, hb⟩ := p_nm hb
  refine r_putz' rfl (x_ltn rfl) rfl rfl (Or.inl rfl) eI4 ?_
  refine e_k 1 (f' := (22, [(0, .ref 14), (1, .int p2), (2, .long p3), (4, .int p4)], [.ref 14])) rfl ?_
  refine r_getr rfl (x_ltn rfl) rfl rfl ?_
  obtain ⟨v5, I5, J5, h5, hb⟩ := oc_call hb
  refine r_cv (z := m_Row_wipe) (As := []) (rest := []) rfl rfl rfl rfl rfl (x_ltn rfl) rfl rfl (E_Row_wipe row_15 h5 ⟨_, rfl, ?_⟩)
  refine e_k 1 (f' := (29, [(0, .ref 14), (1, .int p2), (2, .long p3), (4, .int p4)], [.ref 14])) rfl ?_
  refine r_getr rfl (x_ltn rfl) rfl rfl ?_
  obtain ⟨v6, I6, J6, h6, hb⟩ := oc_call hb
  refine r_cs (z := m_Sh_zeroInts) (As := [.ref 102]) (rest := []) rfl rfl rfl rfl rfl rfl (E_Sh_zeroInts ⟨(x_ltn rfl), rfl, rfl⟩ h6 ⟨_, rfl, ?_⟩)
  refine e_k 2 (f' := (38, [(5, .int 0), (0, .ref 14), (1, .int p2), (2, .long p3), (4, .int p4)], [])) rfl ?_
  refine e_sub (ls := [(0, .ref 14), (5, .int 0)]) rfl ⟨rfl, rfl, trivial⟩ ?_
  obtain ⟨u12, I12, J12, h12, hb⟩ := oc_call hb
  refine E_Hall_renew_38  gF  h12 ?_
  obtain ⟨rfl, rfl, rfl⟩ := s_inj hb
  exact e_r rfl rfl K
theorem E_Hall_take {r2 : Nat} {b2 : Nat} {m2 : Nat} {X : MX} {I : MI} {J : MJ} {v : Unit} {I' : MI} {J' : MJ} (hR_r2 : isRw X r2 b2 m2) (hb : f_Hall_take r2 b2 m2 I J = some (v, I', J')) (K : P (.inl (none)) (hX X I' J')) : am_E (gG L xs) (d + 2) m_Hall_take (0, lv_args 0 [.ref 14, .ref r2], []) (hX X I J) P := by
  unfold f_Hall_take at hb
  refine e_k 2 (f' := (2, [(0, .ref 14), (1, .ref r2)], [.int 0, .ref 14])) rfl ?_
  obtain ⟨I1, eI1, hb⟩ := p_nm hb
  refine r_putz' rfl (x_ltn rfl) rfl rfl (Or.inl rfl) eI1 ?_
  refine e_k 1 (f' := (6, [(0, .ref 14), (1, .ref r2)], [.ref 14])) rfl ?_
  refine r_getr rfl (x_ltn rfl) rfl rfl ?_
  refine e_k 1 (f' := (10, [(0, .ref 14), (1, .ref r2)], [.ref r2, .ref 15])) rfl ?_
  obtain ⟨v2, I2, J2, h2, hb⟩ := oc_call hb
  refine r_cv (z := m_Row_copy) (As := [.ref r2]) (rest := []) rfl rfl rfl rfl rfl (x_ltn rfl) rfl rfl (E_Row_copy row_15 hR_r2 h2 ⟨_, rfl, ?_⟩)
  obtain ⟨rfl, rfl, rfl⟩ := s_inj hb
  exact e_r rfl rfl K
theorem E_Hall_mostLeft_4 {X : MX} {p2 : Int32} : ∀ (fu : Nat) {l1 : Int32} {l2 : Int32} {l3 : Int32} {I : MI} {J : MJ} {r : (Int32)} {I' : MI} {J' : MJ}, f_Hall_mostLeft_4 p2 fu l1 l2 l3 I J = some (r, I', J') → am_E (gG L xs) (d + 1) m_Hall_mostLeft (34, [(2, .int r)], []) (hX X I' J') P → am_E (gG L xs) (d + 1) m_Hall_mostLeft (4, [(0, .ref 14), (1, .int l1), (2, .int l2), (3, .int l3)], []) (hX X I J) P := by
  intro fu
  induction fu with
  | zero =>
    intros
    rename_i hb _
    cases hb
  | succ fu ih =>
    intro l1 l2 l3 I J r I' J' hb K
    unfold f_Hall_mostLeft_4 at hb
    refine e_k 2 (f' := (6, [(0, .ref 14), (1, .int l1), (2, .int l2), (3, .int l3)], [.ref 14, .int l3])) rfl ?_
    refine r_geti rfl (x_ltn rfl) rfl rfl ?_
    refine e_k 1 (f' := (if (I 14 6) ≤ l3 then 34 else 12, [(0, .ref 14), (1, .int l1), (2, .int l2), (3, .int l3)], [])) rfl ?_
    refine e_if (fun c1 => ?_) (fun c1 => ?_)
    · replace hb := i_pos c1 hb
      refine e_sub (ls := [(2, .int l2)]) rfl ⟨rfl, trivial⟩ ?_
      obtain ⟨rfl, rfl, rfl⟩ := s_inj hb
      exact K
    · replace hb := i_neg c1 hb
      refine e_k 3 (f' := (15, [(0, .ref 14), (1, .int l1), (2, .int l2), (3, .int l3)], [.ref 14, .ref 14, .int l2])) rfl ?_
      refine r_getr rfl (x_ltn rfl) rfl rfl ?_
      refine e_k 1 (f' := (19, [(0, .ref 14), (1, .int l1), (2, .int l2), (3, .int l3)], [.int l3, .ref 17, .ref 14, .int l2])) rfl ?_
      obtain ⟨o2, hb⟩ := ob_in hb
      refine r_pald rfl o2 ?_
      refine e_k 1 (f' := (21, [(0, .ref 14), (1, .int l1), (2, .int l2), (3, .int l3)], [.int l1, .ref (18 + 21 * (Int32.toNatClampNeg l3)), .ref 14, .int l2])) rfl ?_
      obtain ⟨v3, I3, J3, h3, hb⟩ := oc_call hb
      refine r_cv (z := m_Hall_left) (As := [.ref (18 + 21 * (Int32.toNatClampNeg l3)), .int l1]) (rest := [.int l2]) rfl rfl rfl rfl rfl (x_ltn rfl) rfl rfl (E_Hall_left (vp_lt o2) h3 ⟨_, rfl, ?_⟩)
      refine e_k 2 (f' := (28, [(2, .int (if l2 < v3 then v3 else l2)), (0, .ref 14), (1, .int l1), (3, .int l3)], [])) rfl ?_
      obtain ⟨x4, ex4, hb⟩ := p_nm hb
      rw [← ex4]
      refine e_k 2 (f' := (4, [(3, .int (l3 + 1)), (2, .int x4), (0, .ref 14), (1, .int l1)], [])) rfl ?_
      refine e_sub (ls := [(0, .ref 14), (1, .int l1), (2, .int x4), (3, .int (l3 + 1))]) rfl ⟨rfl, rfl, rfl, rfl, trivial⟩ ?_
      exact ih  hb K
theorem E_Hall_mostLeft {p2 : Int32} {X : MX} {I : MI} {J : MJ} {v : Int32} {I' : MI} {J' : MJ} (hb : f_Hall_mostLeft p2 I J = some (v, I', J')) (K : P (.inl (some (.int v))) (hX X I' J')) : am_E (gG L xs) (d + 1) m_Hall_mostLeft (0, lv_args 0 [.ref 14, .int p2], []) (hX X I J) P := by
  unfold f_Hall_mostLeft at hb
  refine e_k 4 (f' := (4, [(3, .int 0), (2, .int 0), (0, .ref 14), (1, .int p2)], [])) rfl ?_
  refine e_sub (ls := [(0, .ref 14), (1, .int p2), (2, .int 0), (3, .int 0)]) rfl ⟨rfl, rfl, rfl, rfl, trivial⟩ ?_
  obtain ⟨u5, I5, J5, h5, hb⟩ := oc_call hb
  refine E_Hall_mostLeft_4  gF  h5 ?_
  refine e_k 1 (f' := (35, [(2, .int u5)], [.int u5])) rfl ?_
  obtain ⟨rfl, rfl, rfl⟩ := s_inj hb
  exact e_r rfl rfl K
theorem E_Hall_firstPhase {w2 : Nat} {p3 : Int32} {X : MX} {I : MI} {J : MJ} {v : Int32} {I' : MI} {J' : MJ} (hw_w2 : w2 < 4) (hb : f_Hall_firstPhase w2 p3 I J = some (v, I', J')) (K : P (.inl (some (.int v))) (hX X I' J')) : am_E (gG L xs) (d + 1) m_Hall_firstPhase (0, lv_args 0 [.ref 14, .ref (18 + 21 * w2), .int p3], []) (hX X I J) P := by
  unfold f_Hall_firstPhase at hb
  refine e_k 3 (f' := (if ¬ p3 = 13 then 32 else 6, [(0, .ref 14), (1, .ref (18 + 21 * w2)), (2, .int p3)], [])) rfl ?_
  refine e_if (fun c1 => ?_) (fun c1 => ?_)
  · replace hb := i_pos c1 hb
    refine e_k 3 (f' := (if p3 = 15 then 44 else 38, [(0, .ref 14), (1, .ref (18 + 21 * w2)), (2, .int p3)], [])) rfl ?_
    refine e_if (fun c2 => ?_) (fun c2 => ?_)
    · replace hb := i_pos c2 hb
      refine e_k 1 (f' := (45, [(0, .ref 14), (1, .ref (18 + 21 * w2)), (2, .int p3)], [.ref (18 + 21 * w2)])) rfl ?_
      refine r_getr rfl (x_ltp hw_w2 (by decide)) (sS_p0 hw_w2) rfl ?_
      refine r_geti rfl (x_ltp hw_w2 (by decide)) (sS_p7 hw_w2) rfl ?_
      refine e_k 1 (f' := (if (I (25 + 21 * w2) 4) ≤ 0 then 58 else 54, [(0, .ref 14), (1, .ref (18 + 21 * w2)), (2, .int p3)], [])) rfl ?_
      refine e_if (fun c3 => ?_) (fun c3 => ?_)
      · replace hb := i_pos c3 hb
        refine e_k 1 (f' := (60, [(0, .ref 14), (1, .ref (18 + 21 * w2)), (2, .int p3)], [.int 8])) rfl ?_
        obtain ⟨rfl, rfl, rfl⟩ := s_inj hb
        exact e_r rfl rfl K
      · replace hb := i_neg c3 hb
        refine e_k 2 (f' := (60, [(0, .ref 14), (1, .ref (18 + 21 * w2)), (2, .int p3)], [.int 0])) rfl ?_
        obtain ⟨rfl, rfl, rfl⟩ := s_inj hb
        exact e_r rfl rfl K
    · replace hb := i_neg c2 hb
      refine e_k 3 (f' := (if ¬ p3 = 16 then 61 else 44, [(0, .ref 14), (1, .ref (18 + 21 * w2)), (2, .int p3)], [])) rfl ?_
      refine e_if (fun c4 => ?_) (fun c4 => ?_)
      · replace hb := i_pos c4 hb
        refine e_k 1 (f' := (62, [(0, .ref 14), (1, .ref (18 + 21 * w2)), (2, .int p3)], [.int 0])) rfl ?_
        obtain ⟨rfl, rfl, rfl⟩ := s_inj hb
        exact e_r rfl rfl K
      · replace hb := i_neg c4 hb
        refine e_k 1 (f' := (45, [(0, .ref 14), (1, .ref (18 + 21 * w2)), (2, .int p3)], [.ref (18 + 21 * w2)])) rfl ?_
        refine r_getr rfl (x_ltp hw_w2 (by decide)) (sS_p0 hw_w2) rfl ?_
        refine r_geti rfl (x_ltp hw_w2 (by decide)) (sS_p7 hw_w2) rfl ?_
        refine e_k 1 (f' := (if (I (25 + 21 * w2) 4) ≤ 0 then 58 else 54, [(0, .ref 14), (1, .ref (18 + 21 * w2)), (2, .int p3)], [])) rfl ?_
        refine e_if (fun c5 => ?_) (fun c5 => ?_)
        · replace hb := i_pos c5 hb
          refine e_k 1 (f' := (60, [(0, .ref 14), (1, .ref (18 + 21 * w2)), (2, .int p3)], [.int 8])) rfl ?_
          obtain ⟨rfl, rfl, rfl⟩ := s_inj hb
          exact e_r rfl rfl K
        · replace hb := i_neg c5 hb
          refine e_k 2 (f' := (60, [(0, .ref 14), (1, .ref (18 + 21 * w2)), (2, .int p3)], [.int 0])) rfl ?_
          obtain ⟨rfl, rfl, rfl⟩ := s_inj hb
          exact e_r rfl rfl K
  · replace hb := i_neg c1 hb
    refine e_k 1 (f' := (7, [(0, .ref 14), (1, .ref (18 + 21 * w2)), (2, .int p3)], [.ref 14])) rfl ?_
    refine r_getr rfl (x_ltn rfl) rfl rfl ?_
    refine e_k 1 (f' := (11, [(0, .ref 14), (1, .ref (18 + 21 * w2)), (2, .int p3)], [.ref (18 + 21 * w2), .ref 15])) rfl ?_
    refine r_geti rfl (x_ltp hw_w2 (by decide)) (sS_p0 hw_w2) rfl ?_
    refine e_k 2 (f' := (16, [(0, .ref 14), (1, .ref (18 + 21 * w2)), (2, .int p3)], [.int ((I (18 + 21 * w2) 8) + 2), .ref 15])) rfl ?_
    obtain ⟨v6, I6, J6, h6, hb⟩ := oc_call hb
    refine r_cv (z := m_Row_at) (As := [.int ((I (18 + 21 * w2) 8) + 2)]) (rest := []) rfl rfl rfl rfl rfl (x_ltn rfl) rfl rfl (E_Row_at row_15 h6 ⟨_, rfl, ?_⟩)
    refine e_k 1 (f' := (20, [(0, .ref 14), (1, .ref (18 + 21 * w2)), (2, .int p3)], [.ref (18 + 21 * w2), .int v6])) rfl ?_
    refine r_geti rfl (x_ltp hw_w2 (by decide)) (sS_p0 hw_w2) rfl ?_
    refine e_k 1 (f' := (if ¬ v6 = (I6 (18 + 21 * w2) 0) then 30 else 26, [(0, .ref 14), (1, .ref (18 + 21 * w2)), (2, .int p3)], [])) rfl ?_
    refine e_if (fun c7 => ?_) (fun c7 => ?_)
    · replace hb := i_pos c7 hb
      refine e_k 1 (f' := (31, [(0, .ref 14), (1, .ref (18 + 21 * w2)), (2, .int p3)], [.int 1])) rfl ?_
      obtain ⟨rfl, rfl, rfl⟩ := s_inj hb
      exact e_r rfl rfl K
    · replace hb := i_neg c7 hb
      refine e_k 2 (f' := (31, [(0, .ref 14), (1, .ref (18 + 21 * w2)), (2, .int p3)], [.int 0])) rfl ?_
      obtain ⟨rfl, rfl, rfl⟩ := s_inj hb
      exact e_r rfl rfl K
theorem E_Hall_isShared {w2 : Nat} {p3 : Int32} {X : MX} {I : MI} {J : MJ} {v : Int32} {I' : MI} {J' : MJ} (hw_w2 : w2 < 4) (hb : f_Hall_isShared w2 p3 I J = some (v, I', J')) (K : P (.inl (some (.int v))) (hX X I' J')) : am_E (gG L xs) (d + 1) m_Hall_isShared (0, lv_args 0 [.ref 14, .ref (18 + 21 * w2), .int p3], []) (hX X I J) P := by
  unfold f_Hall_isShared at hb
  refine e_k 2 (f' := (am_sw p3 136 [(7, 96), (8, 136), (9, 136), (10, 96), (11, 136), (12, 136), (13, 96), (14, 96), (15, 136), (16, 136), (17, 136), (18, 136), (19, 136), (20, 136), (21, 136), (22, 136), (23, 136), (24, 136), (25, 98), (26, 98)], [(0, .ref 14), (1, .ref (18 + 21 * w2)), (2, .int p3)], [])) rfl ?_
  by_cases c1 : p3 = 7 ∨ p3 = 10 ∨ p3 = 13 ∨ p3 = 14
  · rw [show am_sw p3 136 [(7, 96), (8, 136), (9, 136), (10, 96), (11, 136), (12, 136), (13, 96), (14, 96), (15, 136), (16, 136), (17, 136), (18, 136), (19, 136), (20, 136), (21, 136), (22, 136), (23, 136), (24, 136), (25, 98), (26, 98)] = 96 from by rcases c1 with c1 | c1 | c1 | c1 <;> rw [c1] <;> rfl]
    replace hb := i_pos c1 hb
    refine e_k 1 (f' := (97, [(0, .ref 14), (1, .ref (18 + 21 * w2)), (2, .int p3)], [.int 1])) rfl ?_
    obtain ⟨rfl, rfl, rfl⟩ := s_inj hb
    exact e_r rfl rfl K
  replace hb := i_neg c1 hb
  by_cases c2 : p3 = 25 ∨ p3 = 26
  · rw [show am_sw p3 136 [(7, 96), (8, 136), (9, 136), (10, 96), (11, 136), (12, 136), (13, 96), (14, 96), (15, 136), (16, 136), (17, 136), (18, 136), (19, 136), (20, 136), (21, 136), (22, 136), (23, 136), (24, 136), (25, 98), (26, 98)] = 98 from by rcases c2 with c2 | c2 <;> rw [c2] <;> rfl]
    replace hb := i_pos c2 hb
    refine e_k 2 (f' := (100, [(0, .ref 14), (1, .ref (18 + 21 * w2)), (2, .int p3)], [.int p3, .ref (18 + 21 * w2)])) rfl ?_
    obtain ⟨v3, I3, J3, h3, hb⟩ := oc_call hb
    refine r_cs (z := m_Hall_firstArrayAt) (As := [.ref (18 + 21 * w2), .int p3]) (rest := []) rfl rfl rfl rfl rfl rfl (E_Hall_firstArrayAt hw_w2 h3 ⟨_, rfl, ?_⟩)
    refine e_k 2 (f' := (105, [(3, .int v3), (0, .ref 14), (1, .ref (18 + 21 * w2)), (2, .int p3)], [.ref 14])) rfl ?_
    refine r_getr rfl (x_ltn rfl) rfl rfl ?_
    refine e_k 1 (f' := (109, [(3, .int v3), (0, .ref 14), (1, .ref (18 + 21 * w2)), (2, .int p3)], [.int v3, .ref 15])) rfl ?_
    obtain ⟨v4, I4, J4, h4, hb⟩ := oc_call hb
    refine r_cv (z := m_Row_at) (As := [.int v3]) (rest := []) rfl rfl rfl rfl rfl (x_ltn rfl) rfl rfl (E_Row_at row_15 h4 ⟨_, rfl, ?_⟩)
    refine e_k 2 (f' := (if v4 < 4 then 134 else 116, [(3, .int v3), (0, .ref 14), (1, .ref (18 + 21 * w2)), (2, .int p3)], [])) rfl ?_
    refine e_if (fun c5 => ?_) (fun c5 => ?_)
    · replace hb := i_pos c5 hb
      refine e_k 1 (f' := (135, [(3, .int v3), (0, .ref 14), (1, .ref (18 + 21 * w2)), (2, .int p3)], [.int 0])) rfl ?_
      obtain ⟨rfl, rfl, rfl⟩ := s_inj hb
      exact e_r rfl rfl K
    · replace hb := i_neg c5 hb
      refine e_k 1 (f' := (117, [(3, .int v3), (0, .ref 14), (1, .ref (18 + 21 * w2)), (2, .int p3)], [.ref 14])) rfl ?_
      refine r_getr rfl (x_ltn rfl) rfl rfl ?_
      refine e_k 3 (f' := (123, [(3, .int v3), (0, .ref 14), (1, .ref (18 + 21 * w2)), (2, .int p3)], [.int (v3 + 1), .ref 15])) rfl ?_
      obtain ⟨v6, I6, J6, h6, hb⟩ := oc_call hb
      refine r_cv (z := m_Row_at) (As := [.int (v3 + 1)]) (rest := []) rfl rfl rfl rfl rfl (x_ltn rfl) rfl rfl (E_Row_at row_15 h6 ⟨_, rfl, ?_⟩)
      refine e_k 2 (f' := (if v6 < 4 then 134 else 130, [(3, .int v3), (0, .ref 14), (1, .ref (18 + 21 * w2)), (2, .int p3)], [])) rfl ?_
      refine e_if (fun c7 => ?_) (fun c7 => ?_)
      · replace hb := i_pos c7 hb
        refine e_k 1 (f' := (135, [(3, .int v3), (0, .ref 14), (1, .ref (18 + 21 * w2)), (2, .int p3)], [.int 0])) rfl ?_
        obtain ⟨rfl, rfl, rfl⟩ := s_inj hb
        exact e_r rfl rfl K
      · replace hb := i_neg c7 hb
        refine e_k 2 (f' := (135, [(3, .int v3), (0, .ref 14), (1, .ref (18 + 21 * w2)), (2, .int p3)], [.int 1])) rfl ?_
        obtain ⟨rfl, rfl, rfl⟩ := s_inj hb
        exact e_r rfl rfl K
  replace hb := i_neg c2 hb
  rw [show am_sw p3 136 [(7, 96), (8, 136), (9, 136), (10, 96), (11, 136), (12, 136), (13, 96), (14, 96), (15, 136), (16, 136), (17, 136), (18, 136), (19, 136), (20, 136), (21, 136), (22, 136), (23, 136), (24, 136), (25, 98), (26, 98)] = 136 from (am_swd (fun e => c1 (Or.inl e)) (am_swe (am_swe (am_swd (fun e => c1 (Or.inr (Or.inl e))) (am_swe (am_swe (am_swd (fun e => c1 (Or.inr (Or.inr (Or.inl e)))) (am_swd (fun e => c1 (Or.inr (Or.inr (Or.inr e)))) (am_swe (am_swe (am_swe (am_swe (am_swe (am_swe (am_swe (am_swe (am_swe (am_swe (am_swd (fun e => c2 (Or.inl e)) (am_swd (fun e => c2 (Or.inr e)) rfl))))))))))))))))))))]
  refine e_k 1 (f' := (137, [(0, .ref 14), (1, .ref (18 + 21 * w2)), (2, .int p3)], [.int 0])) rfl ?_
  obtain ⟨rfl, rfl, rfl⟩ := s_inj hb
  exact e_r rfl rfl K
theorem E_Hall_joinArrays_26 {X : MX} {w2 : Nat} {p3 : Int32} (hw_w2 : w2 < 4) : ∀ (fu : Nat) {l2 : Int32} {l4 : Int32} {l5 : Int32} {l6 : Int64} {l8 : Int32} {I : MI} {J : MJ} {r : (Int64)} {I' : MI} {J' : MJ}, f_Hall_joinArrays_26 w2 p3 fu l2 l4 l5 l6 l8 I J = some (r, I', J') → am_E (gG L xs) (d + 2) m_Hall_joinArrays (181, [(2, .int l2), (3, .ref (19 + 21 * w2)), (6, .long r)], []) (hX X I' J') P → am_E (gG L xs) (d + 2) m_Hall_joinArrays (26, [(0, .ref 14), (1, .ref (18 + 21 * w2)), (2, .int l2), (3, .ref (19 + 21 * w2)), (4, .int l4), (5, .int l5), (6, .long l6), (8, .int l8)], []) (hX X I J) P := by
  intro fu
  induction fu with
  | zero =>
    intros
    rename_i hb _
    cases hb
  | succ fu ih =>
    intro l2 l4 l5 l6 l8 I J r I' J' hb K
    unfold f_Hall_joinArrays_26 at hb
    refine e_k 3 (f' := (if 16 ≤ l8 then 181 else 33, [(0, .ref 14), (1, .ref (18 + 21 * w2)), (2, .int l2), (3, .ref (19 + 21 * w2)), (4, .int l4), (5, .int l5), (6, .long l6), (8, .int l8)], [])) rfl ?_
    refine e_if (fun c3 => ?_) (fun c3 => ?_)
    · replace hb := i_pos c3 hb
      refine e_sub (ls := [(2, .int l2), (3, .ref (19 + 21 * w2)), (6, .long l6)]) rfl ⟨rfl, rfl, rfl, trivial⟩ ?_
      obtain ⟨rfl, rfl, rfl⟩ := s_inj hb
      exact K
    · replace hb := i_neg c3 hb
      refine e_k 6 (f' := (40, [(0, .ref 14), (1, .ref (18 + 21 * w2)), (2, .int l2), (3, .ref (19 + 21 * w2)), (4, .int l4), (5, .int l5), (6, .long l6), (8, .int l8)], [.ref 14, .int ((2 * l8) + 1)])) rfl ?_
      refine r_getr rfl (x_ltn rfl) rfl rfl ?_
      refine r_alen rfl rfl (x_ltn rfl) rfl rfl ?_
      refine e_k 1 (f' := (if (nI 32) ≤ ((2 * l8) + 1) then 181 else 47, [(0, .ref 14), (1, .ref (18 + 21 * w2)), (2, .int l2), (3, .ref (19 + 21 * w2)), (4, .int l4), (5, .int l5), (6, .long l6), (8, .int l8)], [])) rfl ?_
      refine e_if (fun c4 => ?_) (fun c4 => ?_)
      · replace hb := i_pos c4 hb
        refine e_sub (ls := [(2, .int l2), (3, .ref (19 + 21 * w2)), (6, .long l6)]) rfl ⟨rfl, rfl, rfl, trivial⟩ ?_
        obtain ⟨rfl, rfl, rfl⟩ := s_inj hb
        exact K
      · replace hb := i_neg c4 hb
        refine e_k 2 (f' := (49, [(0, .ref 14), (1, .ref (18 + 21 * w2)), (2, .int l2), (3, .ref (19 + 21 * w2)), (4, .int l4), (5, .int l5), (6, .long l6), (8, .int l8)], [.ref 14, .ref (19 + 21 * w2)])) rfl ?_
        refine r_getr rfl (x_ltn rfl) rfl rfl ?_
        refine e_k 1 (f' := (54, [(0, .ref 14), (1, .ref (18 + 21 * w2)), (2, .int l2), (3, .ref (19 + 21 * w2)), (4, .int l4), (5, .int l5), (6, .long l6), (8, .int l8)], [.int l4, .ref 15, .ref (19 + 21 * w2)])) rfl ?_
        obtain ⟨v5, I5, J5, h5, hb⟩ := oc_call hb
        refine r_cv (z := m_Row_at) (As := [.int l4]) (rest := [.ref (19 + 21 * w2)]) rfl rfl rfl rfl rfl (x_ltn rfl) rfl rfl (E_Row_at row_15 h5 ⟨_, rfl, ?_⟩)
        refine e_k 2 (f' := (60, [(0, .ref 14), (1, .ref (18 + 21 * w2)), (2, .int l2), (3, .ref (19 + 21 * w2)), (4, .int l4), (5, .int l5), (6, .long l6), (8, .int l8)], [.long (Int32.toInt64 l8), .int v5, .ref (19 + 21 * w2)])) rfl ?_
        obtain ⟨v6, I6, J6, h6, hb⟩ := oc_call hb
        refine r_cv (z := m_Memory_cell) (As := [.int v5, .long (Int32.toInt64 l8)]) (rest := []) rfl rfl rfl rfl rfl (x_ltp hw_w2 (by decide)) (sS_p1 hw_w2) rfl (E_Memory_cell hw_w2 h6 ⟨_, rfl, ?_⟩)
        refine e_k 3 (f' := (67, [(9, .long v6), (0, .ref 14), (1, .ref (18 + 21 * w2)), (2, .int l2), (3, .ref (19 + 21 * w2)), (4, .int l4), (5, .int l5), (6, .long l6), (8, .int l8)], [.ref 14, .ref (19 + 21 * w2)])) rfl ?_
        refine r_getr rfl (x_ltn rfl) rfl rfl ?_
        refine e_k 3 (f' := (74, [(9, .long v6), (0, .ref 14), (1, .ref (18 + 21 * w2)), (2, .int l2), (3, .ref (19 + 21 * w2)), (4, .int l4), (5, .int l5), (6, .long l6), (8, .int l8)], [.int (l4 + 1), .ref 15, .ref (19 + 21 * w2)])) rfl ?_
        obtain ⟨v7, I7, J7, h7, hb⟩ := oc_call hb
        refine r_cv (z := m_Row_at) (As := [.int (l4 + 1)]) (rest := [.ref (19 + 21 * w2)]) rfl rfl rfl rfl rfl (x_ltn rfl) rfl rfl (E_Row_at row_15 h7 ⟨_, rfl, ?_⟩)
        refine e_k 2 (f' := (80, [(9, .long v6), (0, .ref 14), (1, .ref (18 + 21 * w2)), (2, .int l2), (3, .ref (19 + 21 * w2)), (4, .int l4), (5, .int l5), (6, .long l6), (8, .int l8)], [.long (Int32.toInt64 l8), .int v7, .ref (19 + 21 * w2)])) rfl ?_
        obtain ⟨v8, I8, J8, h8, hb⟩ := oc_call hb
        refine r_cv (z := m_Memory_cell) (As := [.int v7, .long (Int32.toInt64 l8)]) (rest := []) rfl rfl rfl rfl rfl (x_ltp hw_w2 (by decide)) (sS_p1 hw_w2) rfl (E_Memory_cell hw_w2 h8 ⟨_, rfl, ?_⟩)
        refine e_k 3 (f' := (if l5 = 0 then 124 else 90, [(11, .long v8), (9, .long v6), (0, .ref 14), (1, .ref (18 + 21 * w2)), (2, .int l2), (3, .ref (19 + 21 * w2)), (4, .int l4), (5, .int l5), (6, .long l6), (8, .int l8)], [])) rfl ?_
        obtain ⟨v10, I10, J10, h10, hb⟩ := oc_call hb
        have Kj10 : am_E (gG L xs) (d + 2) m_Hall_joinArrays (124, [(0, .ref 14), (1, .ref (18 + 21 * w2)), (2, .int l2), (3, .ref (19 + 21 * w2)), (4, .int l4), (5, .int l5), (6, .long l6), (8, .int l8), (9, .long v10.1), (11, .long v10.2)], []) (hX X I10 J10) P := by
          refine e_k 3 (f' := (if ¬ l2 = 26 then 147 else 130, [(0, .ref 14), (1, .ref (18 + 21 * w2)), (2, .int l2), (3, .ref (19 + 21 * w2)), (4, .int l4), (5, .int l5), (6, .long l6), (8, .int l8), (9, .long v10.1), (11, .long v10.2)], [])) rfl ?_
          refine e_if (fun c16 => ?_) (fun c16 => ?_)
          · replace hb := i_pos c16 hb
            refine e_k 2 (f' := (149, [(0, .ref 14), (1, .ref (18 + 21 * w2)), (2, .int l2), (3, .ref (19 + 21 * w2)), (4, .int l4), (5, .int l5), (6, .long l6), (8, .int l8), (9, .long v10.1), (11, .long v10.2)], [.ref 14, .ref (19 + 21 * w2)])) rfl ?_
            refine r_getr rfl (x_ltn rfl) rfl rfl ?_
            refine e_k 1 (f' := (153, [(0, .ref 14), (1, .ref (18 + 21 * w2)), (2, .int l2), (3, .ref (19 + 21 * w2)), (4, .int l4), (5, .int l5), (6, .long l6), (8, .int l8), (9, .long v10.1), (11, .long v10.2)], [.ref (18 + 21 * w2), .ref 15, .ref (19 + 21 * w2)])) rfl ?_
            refine r_geti rfl (x_ltp hw_w2 (by decide)) (sS_p0 hw_w2) rfl ?_
            refine e_k 2 (f' := (158, [(0, .ref 14), (1, .ref (18 + 21 * w2)), (2, .int l2), (3, .ref (19 + 21 * w2)), (4, .int l4), (5, .int l5), (6, .long l6), (8, .int l8), (9, .long v10.1), (11, .long v10.2)], [.int ((I10 (18 + 21 * w2) 8) + 1), .ref 15, .ref (19 + 21 * w2)])) rfl ?_
            obtain ⟨v17, I17, J17, h17, hb⟩ := oc_call hb
            refine r_cv (z := m_Row_at) (As := [.int ((I10 (18 + 21 * w2) 8) + 1)]) (rest := [.ref (19 + 21 * w2)]) rfl rfl rfl rfl rfl (x_ltn rfl) rfl rfl (E_Row_at row_15 h17 ⟨_, rfl, ?_⟩)
            refine e_k 5 (f' := (169, [(0, .ref 14), (1, .ref (18 + 21 * w2)), (2, .int l2), (3, .ref (19 + 21 * w2)), (4, .int l4), (5, .int l5), (6, .long l6), (8, .int l8), (9, .long v10.1), (11, .long v10.2)], [.long v10.2, .long v10.1, .int l2, .long (Int32.toInt64 l8), .int v17, .ref (19 + 21 * w2)])) rfl ?_
            obtain ⟨v18, I18, J18, h18, hb⟩ := oc_call hb
            refine r_cs (z := m_Hall_joined) (As := [.int l2, .long v10.1, .long v10.2]) (rest := [.long (Int32.toInt64 l8), .int v17, .ref (19 + 21 * w2)]) rfl rfl rfl rfl rfl rfl (E_Hall_joined  h18 ⟨_, rfl, ?_⟩)
            obtain ⟨v19, I19, J19, h19, hb⟩ := oc_call hb
            refine r_cv (z := m_Memory_setCell) (As := [.int v17, .long (Int32.toInt64 l8), .long v18]) (rest := []) rfl rfl rfl rfl rfl (x_ltp hw_w2 (by decide)) (sS_p1 hw_w2) rfl (E_Memory_setCell hw_w2 h19 ⟨_, rfl, ?_⟩)
            refine e_k 2 (f' := (26, [(8, .int (l8 + 1)), (0, .ref 14), (1, .ref (18 + 21 * w2)), (2, .int l2), (3, .ref (19 + 21 * w2)), (4, .int l4), (5, .int l5), (6, .long l6), (9, .long v10.1), (11, .long v10.2)], [])) rfl ?_
            refine e_sub (ls := [(0, .ref 14), (1, .ref (18 + 21 * w2)), (2, .int l2), (3, .ref (19 + 21 * w2)), (4, .int l4), (5, .int l5), (6, .long l6), (8, .int (l8 + 1))]) rfl ⟨rfl, rfl, rfl, rfl, rfl, rfl, rfl, rfl, trivial⟩ ?_
            exact ih  hb K
          · replace hb := i_neg c16 hb
            refine e_k 3 (f' := (136, [(0, .ref 14), (1, .ref (18 + 21 * w2)), (2, .int l2), (3, .ref (19 + 21 * w2)), (4, .int l4), (5, .int l5), (6, .long l6), (8, .int l8), (9, .long v10.1), (11, .long v10.2)], [.long v10.2, .long v10.1, .long l6])) rfl ?_
            obtain ⟨v20, I20, J20, h20, hb⟩ := oc_call hb
            refine r_cs (z := m_Sh_times) (As := [.long v10.1, .long v10.2]) (rest := [.long l6]) rfl rfl rfl rfl rfl rfl (E_Sh_times  h20 ⟨_, rfl, ?_⟩)
            obtain ⟨v21, I21, J21, h21, hb⟩ := oc_call hb
            refine r_cs (z := m_Sh_plus) (As := [.long l6, .long v20]) (rest := []) rfl rfl rfl rfl rfl rfl (E_Sh_plus  h21 ⟨_, rfl, ?_⟩)
            refine e_k 4 (f' := (26, [(8, .int (l8 + 1)), (6, .long v21), (0, .ref 14), (1, .ref (18 + 21 * w2)), (2, .int l2), (3, .ref (19 + 21 * w2)), (4, .int l4), (5, .int l5), (9, .long v10.1), (11, .long v10.2)], [])) rfl ?_
            refine e_sub (ls := [(0, .ref 14), (1, .ref (18 + 21 * w2)), (2, .int l2), (3, .ref (19 + 21 * w2)), (4, .int l4), (5, .int l5), (6, .long v21), (8, .int (l8 + 1))]) rfl ⟨rfl, rfl, rfl, rfl, rfl, rfl, rfl, rfl, trivial⟩ ?_
            exact ih  hb K
        clear hb
        refine e_if (fun c11 => ?_) (fun c11 => ?_)
        · replace h10 := i_pos c11 h10
          refine e_sub (ls := [(0, .ref 14), (1, .ref (18 + 21 * w2)), (2, .int l2), (3, .ref (19 + 21 * w2)), (4, .int l4), (5, .int l5), (6, .long l6), (8, .int l8), (9, .long v6), (11, .long v8)]) rfl ⟨rfl, rfl, rfl, rfl, rfl, rfl, rfl, rfl, rfl, rfl, trivial⟩ ?_
          obtain ⟨rfl, rfl, rfl⟩ := s_inj h10
          exact Kj10
        · replace h10 := i_neg c11 h10
          refine e_k 2 (f' := (93, [(11, .long v8), (9, .long v6), (0, .ref 14), (1, .ref (18 + 21 * w2)), (2, .int l2), (3, .ref (19 + 21 * w2)), (4, .int l4), (5, .int l5), (6, .long l6), (8, .int l8)], [.ref 14, .long v6])) rfl ?_
          refine r_getr rfl (x_ltn rfl) rfl rfl ?_
          refine e_k 3 (f' := (100, [(11, .long v8), (9, .long v6), (0, .ref 14), (1, .ref (18 + 21 * w2)), (2, .int l2), (3, .ref (19 + 21 * w2)), (4, .int l4), (5, .int l5), (6, .long l6), (8, .int l8)], [.int (2 * l8), .ref 111, .long v6])) rfl ?_
          obtain ⟨o12, h10⟩ := ob_in h10
          refine r_lald rfl rfl (x_ltn rfl) rfl o12 ?_
          obtain ⟨v13, I13, J13, h13, h10⟩ := oc_call h10
          refine r_cs (z := m_Sh_plus) (As := [.long v6, .long (J8 111 (Int32.toNatClampNeg (2 * l8)))]) (rest := []) rfl rfl rfl rfl rfl rfl (E_Sh_plus  h13 ⟨_, rfl, ?_⟩)
          refine e_k 3 (f' := (109, [(9, .long v13), (11, .long v8), (0, .ref 14), (1, .ref (18 + 21 * w2)), (2, .int l2), (3, .ref (19 + 21 * w2)), (4, .int l4), (5, .int l5), (6, .long l6), (8, .int l8)], [.ref 14, .long v8])) rfl ?_
          refine r_getr rfl (x_ltn rfl) rfl rfl ?_
          refine e_k 5 (f' := (118, [(9, .long v13), (11, .long v8), (0, .ref 14), (1, .ref (18 + 21 * w2)), (2, .int l2), (3, .ref (19 + 21 * w2)), (4, .int l4), (5, .int l5), (6, .long l6), (8, .int l8)], [.int ((2 * l8) + 1), .ref 111, .long v8])) rfl ?_
          obtain ⟨o14, h10⟩ := ob_in h10
          refine r_lald rfl rfl (x_ltn rfl) rfl o14 ?_
          obtain ⟨v15, I15, J15, h15, h10⟩ := oc_call h10
          refine r_cs (z := m_Sh_plus) (As := [.long v8, .long (J13 111 (Int32.toNatClampNeg ((2 * l8) + 1)))]) (rest := []) rfl rfl rfl rfl rfl rfl (E_Sh_plus  h15 ⟨_, rfl, ?_⟩)
          refine e_k 1 (f' := (124, [(11, .long v15), (9, .long v13), (0, .ref 14), (1, .ref (18 + 21 * w2)), (2, .int l2), (3, .ref (19 + 21 * w2)), (4, .int l4), (5, .int l5), (6, .long l6), (8, .int l8)], [])) rfl ?_
          refine e_sub (ls := [(0, .ref 14), (1, .ref (18 + 21 * w2)), (2, .int l2), (3, .ref (19 + 21 * w2)), (4, .int l4), (5, .int l5), (6, .long l6), (8, .int l8), (9, .long v13), (11, .long v15)]) rfl ⟨rfl, rfl, rfl, rfl, rfl, rfl, rfl, rfl, rfl, rfl, trivial⟩ ?_
          obtain ⟨rfl, rfl, rfl⟩ := s_inj h10
          exact Kj10
theorem E_Hall_joinArrays {w2 : Nat} {p3 : Int32} {X : MX} {I : MI} {J : MJ} {v : Unit} {I' : MI} {J' : MJ} (hw_w2 : w2 < 4) (hb : f_Hall_joinArrays w2 p3 I J = some (v, I', J')) (K : P (.inl (none)) (hX X I' J')) : am_E (gG L xs) (d + 2) m_Hall_joinArrays (0, lv_args 0 [.ref 14, .ref (18 + 21 * w2), .int p3], []) (hX X I J) P := by
  unfold f_Hall_joinArrays at hb
  refine e_k 1 (f' := (1, [(0, .ref 14), (1, .ref (18 + 21 * w2)), (2, .int p3)], [.ref (18 + 21 * w2)])) rfl ?_
  refine r_getr rfl (x_ltp hw_w2 (by decide)) (sS_p0 hw_w2) rfl ?_
  refine e_k 3 (f' := (7, [(3, .ref (19 + 21 * w2)), (0, .ref 14), (1, .ref (18 + 21 * w2)), (2, .int p3)], [.int p3, .ref (18 + 21 * w2)])) rfl ?_
  obtain ⟨v1, I1, J1, h1, hb⟩ := oc_call hb
  refine r_cs (z := m_Hall_firstArrayAt) (As := [.ref (18 + 21 * w2), .int p3]) (rest := []) rfl rfl rfl rfl rfl rfl (E_Hall_firstArrayAt hw_w2 h1 ⟨_, rfl, ?_⟩)
  refine e_k 4 (f' := (15, [(4, .int v1), (3, .ref (19 + 21 * w2)), (0, .ref 14), (1, .ref (18 + 21 * w2)), (2, .int p3)], [.int p3, .ref (18 + 21 * w2), .ref 14])) rfl ?_
  obtain ⟨v2, I2, J2, h2, hb⟩ := oc_call hb
  refine r_cv (z := m_Hall_isShared) (As := [.ref (18 + 21 * w2), .int p3]) (rest := []) rfl rfl rfl rfl rfl (x_ltn rfl) rfl rfl (E_Hall_isShared hw_w2 h2 ⟨_, rfl, ?_⟩)
  refine e_k 5 (f' := (26, [(8, .int 0), (6, .long 0), (5, .int v2), (4, .int v1), (3, .ref (19 + 21 * w2)), (0, .ref 14), (1, .ref (18 + 21 * w2)), (2, .int p3)], [])) rfl ?_
  refine e_sub (ls := [(0, .ref 14), (1, .ref (18 + 21 * w2)), (2, .int p3), (3, .ref (19 + 21 * w2)), (4, .int v1), (5, .int v2), (6, .long 0), (8, .int 0)]) rfl ⟨rfl, rfl, rfl, rfl, rfl, rfl, rfl, rfl, trivial⟩ ?_
  obtain ⟨u22, I22, J22, h22, hb⟩ := oc_call hb
  refine E_Hall_joinArrays_26 hw_w2 gF  h22 ?_
  refine e_k 3 (f' := (if ¬ p3 = 26 then 193 else 187, [(2, .int p3), (3, .ref (19 + 21 * w2)), (6, .long u22)], [])) rfl ?_
  refine e_if (fun c23 => ?_) (fun c23 => ?_)
  · replace hb := i_pos c23 hb
    obtain ⟨rfl, rfl, rfl⟩ := s_inj hb
    exact e_r rfl rfl K
  · replace hb := i_neg c23 hb
    refine e_k 2 (f' := (190, [(2, .int p3), (3, .ref (19 + 21 * w2)), (6, .long u22)], [.long u22, .ref (19 + 21 * w2)])) rfl ?_
    obtain ⟨v24, I24, J24, h24, hb⟩ := oc_call hb
    refine r_cv (z := m_Memory_push) (As := [.long u22]) (rest := []) rfl rfl rfl rfl rfl (x_ltp hw_w2 (by decide)) (sS_p1 hw_w2) rfl (E_Memory_push hw_w2 h24 ⟨_, rfl, ?_⟩)
    obtain ⟨rfl, rfl, rfl⟩ := s_inj hb
    exact e_r rfl rfl K
theorem E_Hall_visitPlace {w1 : Nat} {p2 : Int32} {p3 : Int32} {X : MX} {I : MI} {J : MJ} {v : Unit} {I' : MI} {J' : MJ} (hw_w1 : w1 < 4) (hb : f_Hall_visitPlace w1 p2 p3 I J = some (v, I', J')) (K : P (.inl (none)) (hX X I' J')) : am_E (gG L xs) (d + 2) m_Hall_visitPlace (0, lv_args 0 [.ref (19 + 21 * w1), .int p2, .int p3], []) (hX X I J) P := by
  unfold f_Hall_visitPlace at hb
  refine e_k 4 (f' := (4, [(3, .int (p3 + 4)), (0, .ref (19 + 21 * w1)), (1, .int p2), (2, .int p3)], [])) rfl ?_
  obtain ⟨x1, ex1, hb⟩ := p_nm hb
  rw [← ex1]
  refine e_k 3 (f' := (if ¬ p2 = 19 then 26 else 10, [(3, .int x1), (0, .ref (19 + 21 * w1)), (1, .int p2), (2, .int p3)], [])) rfl ?_
  refine e_if (fun c2 => ?_) (fun c2 => ?_)
  · replace hb := i_pos c2 hb
    refine e_k 3 (f' := (if ¬ p2 = 20 then 48 else 32, [(3, .int x1), (0, .ref (19 + 21 * w1)), (1, .int p2), (2, .int p3)], [])) rfl ?_
    refine e_if (fun c3 => ?_) (fun c3 => ?_)
    · replace hb := i_pos c3 hb
      refine e_k 1 (f' := (49, [(3, .int x1), (0, .ref (19 + 21 * w1)), (1, .int p2), (2, .int p3)], [.ref (19 + 21 * w1)])) rfl ?_
      obtain ⟨v4, I4, J4, h4, hb⟩ := oc_call hb
      refine r_cv (z := m_Memory_pop) (As := []) (rest := []) rfl rfl rfl rfl rfl (x_ltp hw_w1 (by decide)) (sS_p1 hw_w1) rfl (E_Memory_pop hw_w1 h4 ⟨_, rfl, ?_⟩)
      refine e_k 5 (f' := (if ¬ p2 = 21 then 65 else 61, [(4, .long v4), (3, .int x1), (0, .ref (19 + 21 * w1)), (1, .int p2), (2, .int p3)], [.ref (19 + 21 * w1)])) rfl ?_
      obtain ⟨v6, h6, hb⟩ := p_nn hb
      have Kj6 : am_E (gG L xs) (d + 2) m_Hall_visitPlace (66, [(0, .ref (19 + 21 * w1)), (4, .long v4)], [.int v6, .ref (19 + 21 * w1)]) (hX X I4 J4) P := by
        refine e_k 1 (f' := (67, [(0, .ref (19 + 21 * w1)), (4, .long v4)], [.ref (19 + 21 * w1), .int v6, .ref (19 + 21 * w1)])) rfl ?_
        obtain ⟨v8, I8, J8, h8, hb⟩ := oc_call hb
        refine r_cv (z := m_Memory_pop) (As := []) (rest := [.int v6, .ref (19 + 21 * w1)]) rfl rfl rfl rfl rfl (x_ltp hw_w1 (by decide)) (sS_p1 hw_w1) rfl (E_Memory_pop hw_w1 h8 ⟨_, rfl, ?_⟩)
        refine e_k 1 (f' := (72, [(0, .ref (19 + 21 * w1)), (4, .long v4)], [.long v4, .long v8, .int v6, .ref (19 + 21 * w1)])) rfl ?_
        obtain ⟨v9, I9, J9, h9, hb⟩ := oc_call hb
        refine r_cv (z := m_Memory_setCell) (As := [.int v6, .long v8, .long v4]) (rest := []) rfl rfl rfl rfl rfl (x_ltp hw_w1 (by decide)) (sS_p1 hw_w1) rfl (E_Memory_setCell hw_w1 h9 ⟨_, rfl, ?_⟩)
        obtain ⟨rfl, rfl, rfl⟩ := s_inj hb
        exact e_r rfl rfl K
      clear hb
      refine e_if (fun c7 => ?_) (fun c7 => ?_)
      · replace h6 := i_pos c7 h6
        refine e_k 1 (f' := (66, [(4, .long v4), (3, .int x1), (0, .ref (19 + 21 * w1)), (1, .int p2), (2, .int p3)], [.int x1, .ref (19 + 21 * w1)])) rfl ?_
        refine e_sub (ls := [(0, .ref (19 + 21 * w1)), (4, .long v4)]) rfl ⟨rfl, rfl, trivial⟩ ?_
        subst h6
        exact Kj6
      · replace h6 := i_neg c7 h6
        refine e_k 2 (f' := (66, [(4, .long v4), (3, .int x1), (0, .ref (19 + 21 * w1)), (1, .int p2), (2, .int p3)], [.int p3, .ref (19 + 21 * w1)])) rfl ?_
        refine e_sub (ls := [(0, .ref (19 + 21 * w1)), (4, .long v4)]) rfl ⟨rfl, rfl, trivial⟩ ?_
        subst h6
        exact Kj6
    · replace hb := i_neg c3 hb
      refine e_k 4 (f' := (36, [(3, .int x1), (0, .ref (19 + 21 * w1)), (1, .int p2), (2, .int p3)], [.ref (19 + 21 * w1), .int x1, .ref (19 + 21 * w1), .ref (19 + 21 * w1)])) rfl ?_
      obtain ⟨v10, I10, J10, h10, hb⟩ := oc_call hb
      refine r_cv (z := m_Memory_pop) (As := []) (rest := [.int x1, .ref (19 + 21 * w1), .ref (19 + 21 * w1)]) rfl rfl rfl rfl rfl (x_ltp hw_w1 (by decide)) (sS_p1 hw_w1) rfl (E_Memory_pop hw_w1 h10 ⟨_, rfl, ?_⟩)
      obtain ⟨v11, I11, J11, h11, hb⟩ := oc_call hb
      refine r_cv (z := m_Memory_cell) (As := [.int x1, .long v10]) (rest := [.ref (19 + 21 * w1)]) rfl rfl rfl rfl rfl (x_ltp hw_w1 (by decide)) (sS_p1 hw_w1) rfl (E_Memory_cell hw_w1 h11 ⟨_, rfl, ?_⟩)
      obtain ⟨v12, I12, J12, h12, hb⟩ := oc_call hb
      refine r_cv (z := m_Memory_push) (As := [.long v11]) (rest := []) rfl rfl rfl rfl rfl (x_ltp hw_w1 (by decide)) (sS_p1 hw_w1) rfl (E_Memory_push hw_w1 h12 ⟨_, rfl, ?_⟩)
      refine e_k 1 (f' := (75, [(3, .int x1), (0, .ref (19 + 21 * w1)), (1, .int p2), (2, .int p3)], [])) rfl ?_
      obtain ⟨rfl, rfl, rfl⟩ := s_inj hb
      exact e_r rfl rfl K
  · replace hb := i_neg c2 hb
    refine e_k 4 (f' := (14, [(3, .int x1), (0, .ref (19 + 21 * w1)), (1, .int p2), (2, .int p3)], [.ref (19 + 21 * w1), .int p3, .ref (19 + 21 * w1), .ref (19 + 21 * w1)])) rfl ?_
    obtain ⟨v13, I13, J13, h13, hb⟩ := oc_call hb
    refine r_cv (z := m_Memory_pop) (As := []) (rest := [.int p3, .ref (19 + 21 * w1), .ref (19 + 21 * w1)]) rfl rfl rfl rfl rfl (x_ltp hw_w1 (by decide)) (sS_p1 hw_w1) rfl (E_Memory_pop hw_w1 h13 ⟨_, rfl, ?_⟩)
    obtain ⟨v14, I14, J14, h14, hb⟩ := oc_call hb
    refine r_cv (z := m_Memory_cell) (As := [.int p3, .long v13]) (rest := [.ref (19 + 21 * w1)]) rfl rfl rfl rfl rfl (x_ltp hw_w1 (by decide)) (sS_p1 hw_w1) rfl (E_Memory_cell hw_w1 h14 ⟨_, rfl, ?_⟩)
    obtain ⟨v15, I15, J15, h15, hb⟩ := oc_call hb
    refine r_cv (z := m_Memory_push) (As := [.long v14]) (rest := []) rfl rfl rfl rfl rfl (x_ltp hw_w1 (by decide)) (sS_p1 hw_w1) rfl (E_Memory_push hw_w1 h15 ⟨_, rfl, ?_⟩)
    refine e_k 1 (f' := (75, [(3, .int x1), (0, .ref (19 + 21 * w1)), (1, .int p2), (2, .int p3)], [])) rfl ?_
    obtain ⟨rfl, rfl, rfl⟩ := s_inj hb
    exact e_r rfl rfl K
theorem E_Hall_nextBit {w2 : Nat} {X : MX} {I : MI} {J : MJ} {v : Int64} {I' : MI} {J' : MJ} (hw_w2 : w2 < 4) (hb : f_Hall_nextBit w2 I J = some (v, I', J')) (K : P (.inl (some (.long v))) (hX X I' J')) : am_E (gG L xs) (d + 2) m_Hall_nextBit (0, lv_args 0 [.ref 14, .ref (18 + 21 * w2)], []) (hX X I J) P := by
  unfold f_Hall_nextBit at hb
  refine e_k 1 (f' := (1, [(0, .ref 14), (1, .ref (18 + 21 * w2))], [.ref (18 + 21 * w2)])) rfl ?_
  refine r_getr rfl (x_ltp hw_w2 (by decide)) (sS_p0 hw_w2) rfl ?_
  refine r_getr rfl (x_ltp hw_w2 (by decide)) (sS_p11 hw_w2) rfl ?_
  refine e_k 1 (f' := (8, [(0, .ref 14), (1, .ref (18 + 21 * w2))], [.int 2, .ref (31 + 21 * w2)])) rfl ?_
  obtain ⟨o1, hb⟩ := ob_in hb
  refine r_iald rfl (x_t0 hw_w2 (by decide)) (x_ltp hw_w2 (by decide)) (sS_p13 hw_w2) o1 ?_
  refine e_k 1 (f' := (10, [(2, .int (I (31 + 21 * w2) (Int32.toNatClampNeg 2))), (0, .ref 14), (1, .ref (18 + 21 * w2))], [])) rfl ?_
  obtain ⟨x2, ex2, hb⟩ := p_nm hb
  rw [← ex2]
  refine e_k 1 (f' := (11, [(2, .int x2), (0, .ref 14), (1, .ref (18 + 21 * w2))], [.ref (18 + 21 * w2)])) rfl ?_
  refine r_getr rfl (x_ltp hw_w2 (by decide)) (sS_p0 hw_w2) rfl ?_
  refine r_getr rfl (x_ltp hw_w2 (by decide)) (sS_p11 hw_w2) rfl ?_
  refine e_k 2 (f' := (19, [(2, .int x2), (0, .ref 14), (1, .ref (18 + 21 * w2))], [.int 2, .ref (31 + 21 * w2), .int 2, .ref (31 + 21 * w2)])) rfl ?_
  obtain ⟨o3, hb⟩ := ob_in hb
  refine r_iald rfl (x_t0 hw_w2 (by decide)) (x_ltp hw_w2 (by decide)) (sS_p13 hw_w2) o3 ?_
  refine e_k 2 (f' := (22, [(2, .int x2), (0, .ref 14), (1, .ref (18 + 21 * w2))], [.int ((I (31 + 21 * w2) (Int32.toNatClampNeg 2)) + 1), .int 2, .ref (31 + 21 * w2)])) rfl ?_
  obtain ⟨o4, hb⟩ := ob_in hb
  obtain ⟨I5, eI5, hb⟩ := p_nm hb
  refine r_iast' rfl (x_ltp hw_w2 (by decide)) (sS_p13 hw_w2) o4 eI5 ?_
  refine e_k 1 (f' := (24, [(2, .int x2), (0, .ref 14), (1, .ref (18 + 21 * w2))], [.ref 14])) rfl ?_
  refine r_getr rfl (x_ltn rfl) rfl rfl ?_
  refine e_k 1 (f' := (28, [(2, .int x2), (0, .ref 14), (1, .ref (18 + 21 * w2))], [.ref 14, .ref 108])) rfl ?_
  refine r_getl rfl (x_ltn rfl) rfl rfl ?_
  refine e_k 4 (f' := (37, [(2, .int x2), (0, .ref 14), (1, .ref (18 + 21 * w2))], [.long (Int32.toInt64 x2), .long ((J 14 7) + 7000003), .ref 108])) rfl ?_
  obtain ⟨v6, I6, J6, h6, hb⟩ := oc_call hb
  refine r_cv (z := m_Digest_next) (As := [.long ((J 14 7) + 7000003), .long (Int32.toInt64 x2)]) (rest := []) rfl rfl rfl rfl rfl (x_ltn rfl) rfl rfl (E_Digest_next  h6 ⟨_, rfl, ?_⟩)
  refine e_k 2 (f' := (42, [(2, .int x2), (0, .ref 14), (1, .ref (18 + 21 * w2))], [.long (v6 &&& 1)])) rfl ?_
  obtain ⟨rfl, rfl, rfl⟩ := s_inj hb
  exact e_r rfl rfl K
theorem E_Hall_jump {w2 : Nat} {p3 : Int32} {p4 : Int32} {X : MX} {I : MI} {J : MJ} {v : Int32} {I' : MI} {J' : MJ} (hw_w2 : w2 < 4) (hb : f_Hall_jump w2 p3 p4 I J = some (v, I', J')) (K : P (.inl (some (.int v))) (hX X I' J')) : am_E (gG L xs) (d + 2) m_Hall_jump (0, lv_args 0 [.ref 14, .ref (18 + 21 * w2), .int p3, .int p4], []) (hX X I J) P := by
  unfold f_Hall_jump at hb
  refine e_k 1 (f' := (1, [(0, .ref 14), (1, .ref (18 + 21 * w2)), (2, .int p3), (3, .int p4)], [.ref (18 + 21 * w2)])) rfl ?_
  refine r_geti rfl (x_ltp hw_w2 (by decide)) (sS_p0 hw_w2) rfl ?_
  refine e_k 1 (f' := (6, [(4, .int (I (18 + 21 * w2) 8)), (0, .ref 14), (1, .ref (18 + 21 * w2)), (2, .int p3), (3, .int p4)], [])) rfl ?_
  obtain ⟨x1, ex1, hb⟩ := p_nm hb
  rw [← ex1]
  refine e_k 3 (f' := (if ¬ p3 = 17 then 54 else 12, [(4, .int x1), (0, .ref 14), (1, .ref (18 + 21 * w2)), (2, .int p3), (3, .int p4)], [])) rfl ?_
  refine e_if (fun c2 => ?_) (fun c2 => ?_)
  · replace hb := i_pos c2 hb
    refine e_k 3 (f' := (if ¬ p3 = 29 then 68 else 60, [(4, .int x1), (0, .ref 14), (1, .ref (18 + 21 * w2)), (2, .int p3), (3, .int p4)], [])) rfl ?_
    refine e_if (fun c3 => ?_) (fun c3 => ?_)
    · replace hb := i_pos c3 hb
      refine e_k 3 (f' := (if ¬ p3 = 28 then 82 else 74, [(4, .int x1), (0, .ref 14), (1, .ref (18 + 21 * w2)), (2, .int p3), (3, .int p4)], [])) rfl ?_
      obtain ⟨v5, I5, J5, h5, hb⟩ := oc_call hb
      have Kj5 : am_E (gG L xs) (d + 2) m_Hall_jump (82, [(0, .ref 14), (4, .int x1)], []) (hX X I5 J5) P := by
        refine e_k 1 (f' := (83, [(0, .ref 14), (4, .int x1)], [.ref 14])) rfl ?_
        refine r_getr rfl (x_ltn rfl) rfl rfl ?_
        refine e_k 3 (f' := (90, [(0, .ref 14), (4, .int x1)], [.int (x1 + 1), .ref 15])) rfl ?_
        obtain ⟨v8, I8, J8, h8, hb⟩ := oc_call hb
        refine r_cv (z := m_Row_target) (As := [.int (x1 + 1)]) (rest := []) rfl rfl rfl rfl rfl (x_ltn rfl) rfl rfl (E_Row_target row_15 h8 ⟨_, rfl, ?_⟩)
        obtain ⟨rfl, rfl, rfl⟩ := s_inj hb
        exact e_r rfl rfl K
      clear hb
      refine e_if (fun c6 => ?_) (fun c6 => ?_)
      · replace h5 := i_pos c6 h5
        refine e_sub (ls := [(0, .ref 14), (4, .int x1)]) rfl ⟨rfl, rfl, trivial⟩ ?_
        obtain ⟨rfl, rfl, rfl⟩ := s_inj h5
        exact Kj5
      · replace h5 := i_neg c6 h5
        refine e_k 1 (f' := (75, [(4, .int x1), (0, .ref 14), (1, .ref (18 + 21 * w2)), (2, .int p3), (3, .int p4)], [.ref (18 + 21 * w2)])) rfl ?_
        refine r_getr rfl (x_ltp hw_w2 (by decide)) (sS_p0 hw_w2) rfl ?_
        refine e_k 1 (f' := (79, [(4, .int x1), (0, .ref 14), (1, .ref (18 + 21 * w2)), (2, .int p3), (3, .int p4)], [.int p4, .ref (19 + 21 * w2)])) rfl ?_
        obtain ⟨v7, I7, J7, h7, h5⟩ := oc_call h5
        refine r_cv (z := m_Memory_keep) (As := [.int p4]) (rest := []) rfl rfl rfl rfl rfl (x_ltp hw_w2 (by decide)) (sS_p1 hw_w2) rfl (E_Memory_keep hw_w2 h7 ⟨_, rfl, ?_⟩)
        refine e_sub (ls := [(0, .ref 14), (4, .int x1)]) rfl ⟨rfl, rfl, trivial⟩ ?_
        obtain ⟨rfl, rfl, rfl⟩ := s_inj h5
        exact Kj5
    · replace hb := i_neg c3 hb
      refine e_k 1 (f' := (61, [(4, .int x1), (0, .ref 14), (1, .ref (18 + 21 * w2)), (2, .int p3), (3, .int p4)], [.ref (18 + 21 * w2)])) rfl ?_
      refine r_getr rfl (x_ltp hw_w2 (by decide)) (sS_p0 hw_w2) rfl ?_
      obtain ⟨v9, I9, J9, h9, hb⟩ := oc_call hb
      refine r_cv (z := m_Memory_lastKept) (As := []) (rest := []) rfl rfl rfl rfl rfl (x_ltp hw_w2 (by decide)) (sS_p1 hw_w2) rfl (E_Memory_lastKept hw_w2 h9 ⟨_, rfl, ?_⟩)
      obtain ⟨rfl, rfl, rfl⟩ := s_inj hb
      exact e_r rfl rfl K
  · replace hb := i_neg c2 hb
    refine e_k 1 (f' := (13, [(4, .int x1), (0, .ref 14), (1, .ref (18 + 21 * w2)), (2, .int p3), (3, .int p4)], [.ref (18 + 21 * w2)])) rfl ?_
    refine r_getr rfl (x_ltp hw_w2 (by decide)) (sS_p0 hw_w2) rfl ?_
    refine r_getr rfl (x_ltp hw_w2 (by decide)) (sS_p1 hw_w2) rfl ?_
    refine e_k 1 (f' := (20, [(4, .int x1), (0, .ref 14), (1, .ref (18 + 21 * w2)), (2, .int p3), (3, .int p4)], [.ref 14, .ref (20 + 21 * w2)])) rfl ?_
    refine r_getr rfl (x_ltn rfl) rfl rfl ?_
    refine e_k 3 (f' := (27, [(4, .int x1), (0, .ref 14), (1, .ref (18 + 21 * w2)), (2, .int p3), (3, .int p4)], [.int (x1 + 1), .ref 15, .ref (20 + 21 * w2)])) rfl ?_
    obtain ⟨v10, I10, J10, h10, hb⟩ := oc_call hb
    refine r_cv (z := m_Row_at) (As := [.int (x1 + 1)]) (rest := [.ref (20 + 21 * w2)]) rfl rfl rfl rfl rfl (x_ltn rfl) rfl rfl (E_Row_at row_15 h10 ⟨_, rfl, ?_⟩)
    obtain ⟨v11, I11, J11, h11, hb⟩ := oc_call hb
    refine r_cs (z := m_Sh_read) (As := [.ref (20 + 21 * w2), .int v10]) (rest := []) rfl rfl rfl rfl rfl rfl (E_Sh_read ⟨(x_ltp hw_w2 (by decide)), (x_t0 hw_w2 (by decide)), (sS_p2 hw_w2)⟩ h11 ⟨_, rfl, ?_⟩)
    refine e_k 3 (f' := (if ¬ (lg_cmp v11 0) = 0 then 52 else 38, [(4, .int x1), (0, .ref 14), (1, .ref (18 + 21 * w2)), (2, .int p3), (3, .int p4)], [])) rfl ?_
    refine e_if (fun c12 => ?_) (fun c12 => ?_)
    · replace hb := i_pos c12 hb
      refine e_k 1 (f' := (53, [(4, .int x1), (0, .ref 14), (1, .ref (18 + 21 * w2)), (2, .int p3), (3, .int p4)], [.int p4])) rfl ?_
      obtain ⟨rfl, rfl, rfl⟩ := s_inj hb
      exact e_r rfl rfl K
    · replace hb := i_neg c12 hb
      refine e_k 1 (f' := (39, [(4, .int x1), (0, .ref 14), (1, .ref (18 + 21 * w2)), (2, .int p3), (3, .int p4)], [.ref 14])) rfl ?_
      refine r_getr rfl (x_ltn rfl) rfl rfl ?_
      refine e_k 3 (f' := (46, [(4, .int x1), (0, .ref 14), (1, .ref (18 + 21 * w2)), (2, .int p3), (3, .int p4)], [.int (x1 + 2), .ref 15])) rfl ?_
      obtain ⟨v13, I13, J13, h13, hb⟩ := oc_call hb
      refine r_cv (z := m_Row_target) (As := [.int (x1 + 2)]) (rest := []) rfl rfl rfl rfl rfl (x_ltn rfl) rfl rfl (E_Row_target row_15 h13 ⟨_, rfl, ?_⟩)
      refine e_k 1 (f' := (53, [(4, .int x1), (0, .ref 14), (1, .ref (18 + 21 * w2)), (2, .int p3), (3, .int p4)], [.int v13])) rfl ?_
      obtain ⟨rfl, rfl, rfl⟩ := s_inj hb
      exact e_r rfl rfl K
theorem E_Hall_weightedErrors_8 {X : MX} {w2 : Nat} (hw_w2 : w2 < 4) : ∀ (fu : Nat) {l2 : Int64} {l4 : Int64} {l6 : Int32} {I : MI} {J : MJ} {r : (Int64 × Int64)} {I' : MI} {J' : MJ}, f_Hall_weightedErrors_8 w2 fu l2 l4 l6 I J = some (r, I', J') → am_E (gG L xs) (d + 2) m_Hall_weightedErrors (70, [(0, .ref 14), (1, .ref (25 + 21 * w2)), (2, .long r.1), (4, .long r.2)], []) (hX X I' J') P → am_E (gG L xs) (d + 2) m_Hall_weightedErrors (8, [(0, .ref 14), (1, .ref (25 + 21 * w2)), (2, .long l2), (4, .long l4), (6, .int l6)], []) (hX X I J) P := by
  intro fu
  induction fu with
  | zero =>
    intros
    rename_i hb _
    cases hb
  | succ fu ih =>
    intro l2 l4 l6 I J r I' J' hb K
    unfold f_Hall_weightedErrors_8 at hb
    refine e_k 2 (f' := (11, [(0, .ref 14), (1, .ref (25 + 21 * w2)), (2, .long l2), (4, .long l4), (6, .int l6)], [.ref 14, .int l6])) rfl ?_
    refine r_geti rfl (x_ltn rfl) rfl rfl ?_
    refine e_k 1 (f' := (if (I 14 6) ≤ l6 then 70 else 17, [(0, .ref 14), (1, .ref (25 + 21 * w2)), (2, .long l2), (4, .long l4), (6, .int l6)], [])) rfl ?_
    refine e_if (fun c1 => ?_) (fun c1 => ?_)
    · replace hb := i_pos c1 hb
      refine e_sub (ls := [(0, .ref 14), (1, .ref (25 + 21 * w2)), (2, .long l2), (4, .long l4)]) rfl ⟨rfl, rfl, rfl, rfl, trivial⟩ ?_
      obtain ⟨rfl, rfl, rfl⟩ := s_inj hb
      exact K
    · replace hb := i_neg c1 hb
      refine e_k 2 (f' := (19, [(0, .ref 14), (1, .ref (25 + 21 * w2)), (2, .long l2), (4, .long l4), (6, .int l6)], [.ref 14, .long l2])) rfl ?_
      refine r_getr rfl (x_ltn rfl) rfl rfl ?_
      refine e_k 1 (f' := (23, [(0, .ref 14), (1, .ref (25 + 21 * w2)), (2, .long l2), (4, .long l4), (6, .int l6)], [.ref 14, .ref 108, .long l2])) rfl ?_
      refine r_getl rfl (x_ltn rfl) rfl rfl ?_
      refine e_k 2 (f' := (29, [(0, .ref 14), (1, .ref (25 + 21 * w2)), (2, .long l2), (4, .long l4), (6, .int l6)], [.long (Int32.toInt64 l6), .long (J 14 7), .ref 108, .long l2])) rfl ?_
      obtain ⟨v2, I2, J2, h2, hb⟩ := oc_call hb
      refine r_cv (z := m_Digest_next) (As := [.long (J 14 7), .long (Int32.toInt64 l6)]) (rest := [.long l2]) rfl rfl rfl rfl rfl (x_ltn rfl) rfl rfl (E_Digest_next  h2 ⟨_, rfl, ?_⟩)
      obtain ⟨v3, I3, J3, h3, hb⟩ := oc_call hb
      refine r_cs (z := m_Sh_plus) (As := [.long l2, .long v2]) (rest := []) rfl rfl rfl rfl rfl rfl (E_Sh_plus  h3 ⟨_, rfl, ?_⟩)
      refine e_k 3 (f' := (39, [(2, .long v3), (0, .ref 14), (1, .ref (25 + 21 * w2)), (4, .long l4), (6, .int l6)], [.ref 14, .long l4])) rfl ?_
      refine r_getr rfl (x_ltn rfl) rfl rfl ?_
      refine e_k 2 (f' := (45, [(2, .long v3), (0, .ref 14), (1, .ref (25 + 21 * w2)), (4, .long l4), (6, .int l6)], [.int l6, .ref 14, .ref 108, .long l4])) rfl ?_
      obtain ⟨v4, I4, J4, h4, hb⟩ := oc_call hb
      refine r_cv (z := m_Hall_ownSeed) (As := [.int l6]) (rest := [.ref 108, .long l4]) rfl rfl rfl rfl rfl (x_ltn rfl) rfl rfl (E_Hall_ownSeed  h4 ⟨_, rfl, ?_⟩)
      refine e_k 1 (f' := (49, [(2, .long v3), (0, .ref 14), (1, .ref (25 + 21 * w2)), (4, .long l4), (6, .int l6)], [.ref (25 + 21 * w2), .long v4, .ref 108, .long l4])) rfl ?_
      refine r_getr rfl (x_ltp hw_w2 (by decide)) (sS_p7 hw_w2) rfl ?_
      refine e_k 1 (f' := (54, [(2, .long v3), (0, .ref 14), (1, .ref (25 + 21 * w2)), (4, .long l4), (6, .int l6)], [.int l6, .ref (28 + 21 * w2), .long v4, .ref 108, .long l4])) rfl ?_
      obtain ⟨o5, hb⟩ := ob_in hb
      refine r_iald rfl (x_t0 hw_w2 (by decide)) (x_ltp hw_w2 (by decide)) (sS_p10 hw_w2) o5 ?_
      refine e_k 1 (f' := (56, [(2, .long v3), (0, .ref 14), (1, .ref (25 + 21 * w2)), (4, .long l4), (6, .int l6)], [.long (Int32.toInt64 (I4 (28 + 21 * w2) (Int32.toNatClampNeg l6))), .long v4, .ref 108, .long l4])) rfl ?_
      obtain ⟨v6, I6, J6, h6, hb⟩ := oc_call hb
      refine r_cv (z := m_Digest_next) (As := [.long v4, .long (Int32.toInt64 (I4 (28 + 21 * w2) (Int32.toNatClampNeg l6)))]) (rest := [.long l4]) rfl rfl rfl rfl rfl (x_ltn rfl) rfl rfl (E_Digest_next  h6 ⟨_, rfl, ?_⟩)
      obtain ⟨v7, I7, J7, h7, hb⟩ := oc_call hb
      refine r_cs (z := m_Sh_plus) (As := [.long l4, .long v6]) (rest := []) rfl rfl rfl rfl rfl rfl (E_Sh_plus  h7 ⟨_, rfl, ?_⟩)
      refine e_k 3 (f' := (8, [(6, .int (l6 + 1)), (4, .long v7), (2, .long v3), (0, .ref 14), (1, .ref (25 + 21 * w2))], [])) rfl ?_
      refine e_sub (ls := [(0, .ref 14), (1, .ref (25 + 21 * w2)), (2, .long v3), (4, .long v7), (6, .int (l6 + 1))]) rfl ⟨rfl, rfl, rfl, rfl, rfl, trivial⟩ ?_
      exact ih  hb K
theorem E_Hall_weightedErrors_76 {X : MX} {w2 : Nat} (hw_w2 : w2 < 4) : ∀ (fu : Nat) {l2 : Int64} {l4 : Int64} {l6 : Int64} {l8 : Int32} {I : MI} {J : MJ} {r : (Int64)} {I' : MI} {J' : MJ}, f_Hall_weightedErrors_76 w2 fu l2 l4 l6 l8 I J = some (r, I', J') → am_E (gG L xs) (d + 2) m_Hall_weightedErrors (136, [(2, .long l2), (6, .long r)], []) (hX X I' J') P → am_E (gG L xs) (d + 2) m_Hall_weightedErrors (76, [(0, .ref 14), (1, .ref (25 + 21 * w2)), (2, .long l2), (4, .long l4), (6, .long l6), (8, .int l8)], []) (hX X I J) P := by
  intro fu
  induction fu with
  | zero =>
    intros
    rename_i hb _
    cases hb
  | succ fu ih =>
    intro l2 l4 l6 l8 I J r I' J' hb K
    unfold f_Hall_weightedErrors_76 at hb
    refine e_k 2 (f' := (79, [(0, .ref 14), (1, .ref (25 + 21 * w2)), (2, .long l2), (4, .long l4), (6, .long l6), (8, .int l8)], [.ref (25 + 21 * w2), .int l8])) rfl ?_
    refine r_geti rfl (x_ltp hw_w2 (by decide)) (sS_p7 hw_w2) rfl ?_
    refine e_k 1 (f' := (if (I (25 + 21 * w2) 3) ≤ l8 then 136 else 85, [(0, .ref 14), (1, .ref (25 + 21 * w2)), (2, .long l2), (4, .long l4), (6, .long l6), (8, .int l8)], [])) rfl ?_
    refine e_if (fun c9 => ?_) (fun c9 => ?_)
    · replace hb := i_pos c9 hb
      refine e_sub (ls := [(2, .long l2), (6, .long l6)]) rfl ⟨rfl, rfl, trivial⟩ ?_
      obtain ⟨rfl, rfl, rfl⟩ := s_inj hb
      exact K
    · replace hb := i_neg c9 hb
      refine e_k 3 (f' := (if 40 ≤ l8 then 136 else 92, [(0, .ref 14), (1, .ref (25 + 21 * w2)), (2, .long l2), (4, .long l4), (6, .long l6), (8, .int l8)], [])) rfl ?_
      refine e_if (fun c10 => ?_) (fun c10 => ?_)
      · replace hb := i_pos c10 hb
        refine e_sub (ls := [(2, .long l2), (6, .long l6)]) rfl ⟨rfl, rfl, trivial⟩ ?_
        obtain ⟨rfl, rfl, rfl⟩ := s_inj hb
        exact K
      · replace hb := i_neg c10 hb
        refine e_k 1 (f' := (93, [(0, .ref 14), (1, .ref (25 + 21 * w2)), (2, .long l2), (4, .long l4), (6, .long l6), (8, .int l8)], [.ref 14])) rfl ?_
        refine r_getr rfl (x_ltn rfl) rfl rfl ?_
        refine e_k 2 (f' := (99, [(0, .ref 14), (1, .ref (25 + 21 * w2)), (2, .long l2), (4, .long l4), (6, .long l6), (8, .int l8)], [.ref (25 + 21 * w2), .long l4, .ref 108])) rfl ?_
        refine r_getr rfl (x_ltp hw_w2 (by decide)) (sS_p7 hw_w2) rfl ?_
        refine e_k 1 (f' := (104, [(0, .ref 14), (1, .ref (25 + 21 * w2)), (2, .long l2), (4, .long l4), (6, .long l6), (8, .int l8)], [.int l8, .ref (26 + 21 * w2), .long l4, .ref 108])) rfl ?_
        obtain ⟨o11, hb⟩ := ob_in hb
        refine r_iald rfl (x_t0 hw_w2 (by decide)) (x_ltp hw_w2 (by decide)) (sS_p8 hw_w2) o11 ?_
        refine e_k 1 (f' := (106, [(0, .ref 14), (1, .ref (25 + 21 * w2)), (2, .long l2), (4, .long l4), (6, .long l6), (8, .int l8)], [.long (Int32.toInt64 (I (26 + 21 * w2) (Int32.toNatClampNeg l8))), .long l4, .ref 108])) rfl ?_
        obtain ⟨v12, I12, J12, h12, hb⟩ := oc_call hb
        refine r_cv (z := m_Digest_next) (As := [.long l4, .long (Int32.toInt64 (I (26 + 21 * w2) (Int32.toNatClampNeg l8)))]) (rest := []) rfl rfl rfl rfl rfl (x_ltn rfl) rfl rfl (E_Digest_next  h12 ⟨_, rfl, ?_⟩)
        refine e_k 4 (f' := (116, [(9, .long v12), (0, .ref 14), (1, .ref (25 + 21 * w2)), (2, .long l2), (4, .long l4), (6, .long l6), (8, .int l8)], [.ref (25 + 21 * w2), .long v12, .long l6])) rfl ?_
        refine r_getr rfl (x_ltp hw_w2 (by decide)) (sS_p7 hw_w2) rfl ?_
        refine e_k 1 (f' := (121, [(9, .long v12), (0, .ref 14), (1, .ref (25 + 21 * w2)), (2, .long l2), (4, .long l4), (6, .long l6), (8, .int l8)], [.int l8, .ref (27 + 21 * w2), .long v12, .long l6])) rfl ?_
        obtain ⟨o13, hb⟩ := ob_in hb
        refine r_lald rfl (x_t0 hw_w2 (by decide)) (x_ltp hw_w2 (by decide)) (sS_p9 hw_w2) o13 ?_
        obtain ⟨v14, I14, J14, h14, hb⟩ := oc_call hb
        refine r_cs (z := m_Sh_times) (As := [.long v12, .long (J12 (27 + 21 * w2) (Int32.toNatClampNeg l8))]) (rest := [.long l6]) rfl rfl rfl rfl rfl rfl (E_Sh_times  h14 ⟨_, rfl, ?_⟩)
        obtain ⟨v15, I15, J15, h15, hb⟩ := oc_call hb
        refine r_cs (z := m_Sh_plus) (As := [.long l6, .long v14]) (rest := []) rfl rfl rfl rfl rfl rfl (E_Sh_plus  h15 ⟨_, rfl, ?_⟩)
        refine e_k 3 (f' := (76, [(8, .int (l8 + 1)), (6, .long v15), (9, .long v12), (0, .ref 14), (1, .ref (25 + 21 * w2)), (2, .long l2), (4, .long l4)], [])) rfl ?_
        refine e_sub (ls := [(0, .ref 14), (1, .ref (25 + 21 * w2)), (2, .long l2), (4, .long l4), (6, .long v15), (8, .int (l8 + 1))]) rfl ⟨rfl, rfl, rfl, rfl, rfl, rfl, trivial⟩ ?_
        exact ih  hb K
theorem E_Hall_weightedErrors {w2 : Nat} {X : MX} {I : MI} {J : MJ} {v : Int64} {I' : MI} {J' : MJ} (hw_w2 : w2 < 4) (hb : f_Hall_weightedErrors w2 I J = some (v, I', J')) (K : P (.inl (some (.long v))) (hX X I' J')) : am_E (gG L xs) (d + 2) m_Hall_weightedErrors (0, lv_args 0 [.ref 14, .ref (25 + 21 * w2)], []) (hX X I J) P := by
  unfold f_Hall_weightedErrors at hb
  refine e_k 6 (f' := (8, [(6, .int 0), (4, .long 0), (2, .long 0), (0, .ref 14), (1, .ref (25 + 21 * w2))], [])) rfl ?_
  refine e_sub (ls := [(0, .ref 14), (1, .ref (25 + 21 * w2)), (2, .long 0), (4, .long 0), (6, .int 0)]) rfl ⟨rfl, rfl, rfl, rfl, rfl, trivial⟩ ?_
  obtain ⟨u8, I8, J8, h8, hb⟩ := oc_call hb
  refine E_Hall_weightedErrors_8 hw_w2 gF  h8 ?_
  refine e_k 4 (f' := (76, [(8, .int 0), (6, .long 0), (0, .ref 14), (1, .ref (25 + 21 * w2)), (2, .long u8.1), (4, .long u8.2)], [])) rfl ?_
  refine e_sub (ls := [(0, .ref 14), (1, .ref (25 + 21 * w2)), (2, .long u8.1), (4, .long u8.2), (6, .long 0), (8, .int 0)]) rfl ⟨rfl, rfl, rfl, rfl, rfl, rfl, trivial⟩ ?_
  obtain ⟨u16, I16, J16, h16, hb⟩ := oc_call hb
  refine E_Hall_weightedErrors_76 hw_w2 gF  h16 ?_
  refine e_k 2 (f' := (139, [(2, .long u8.1), (6, .long u16)], [.long u16, .long u8.1])) rfl ?_
  obtain ⟨v17, I17, J17, h17, hb⟩ := oc_call hb
  refine r_cs (z := m_Sh_times) (As := [.long u8.1, .long u16]) (rest := []) rfl rfl rfl rfl rfl rfl (E_Sh_times  h17 ⟨_, rfl, ?_⟩)
  obtain ⟨rfl, rfl, rfl⟩ := s_inj hb
  exact e_r rfl rfl K
end AUTO
