section AUTO
variable {L : Nat} {xs : Nat → Int32} {d : Nat} {P : am_R → am_H → Prop}
theorem E_Law_deal {p2 : Int32} {p3 : Int32} {X : MX} {I : MI} {J : MJ} {v : (Int32 ⊕ Nat)} {X' : MX} {I' : MI} {J' : MJ} (hb : f_Law_deal p2 p3 X I J = some (v, X', I', J')) (K1 : ∀ u, v = .inl u → P (.inl (some (.int u))) (hX X' I' J')) (K2 : ∀ x, v = .inr x → P (.inr x) (am_thr (hX X' I' J'))) : am_E (gG L xs) (d + 6) m_Law_deal (0, lv_args 0 [.ref 0, .int p2, .int p3, .ref 168], []) (hX X I J) P := by
  unfold f_Law_deal at hb
  refine e_k 5 (f' := (5, [(0, .ref 0), (1, .int p2), (2, .int p3), (3, .ref 168)], [.int p3, .int p2, .ref 0, .int 0, .ref 168])) rfl ?_
  obtain ⟨q1, I1, J1, h1, hb⟩ := oc_call hb
  refine r_tv (z := m_Sh_deal) (As := [.int p2, .int p3]) (rest := [.int 0, .ref 168]) rfl rfl rfl rfl rfl (x_ltn rfl) rfl rfl (E_Sh_deal  h1 (fun y1 e1 => Or.inl ⟨_, rfl, ?_⟩) (fun y1 e1 => Or.inr ⟨_, rfl, ?_⟩))
  · subst e1
    replace hb := oe_l hb
    refine e_k 1 (f' := (9, [(0, .ref 0), (1, .int p2), (2, .int p3), (3, .ref 168)], [.long (Int32.toInt64 y1), .int 0, .ref 168])) rfl ?_
    obtain ⟨o2, hb⟩ := o8_call hb
    obtain ⟨o3, hb⟩ := ob_in hb
    obtain ⟨J4, eJ4, hb⟩ := p_nm hb
    refine r_last' rfl o2.1 o2.2.2 o3 eJ4 ?_
    refine e_k 2 (f' := (18, [(0, .ref 0), (1, .int p2), (2, .int p3), (3, .ref 168)], [.int 0])) rfl ?_
    obtain ⟨rfl, rfl, rfl, rfl⟩ := s_inx hb
    exact e_r rfl rfl (K1 _ rfl)
  · subst e1
    replace hb := oe_r hb
    obtain ⟨rfl, rfl, rfl, rfl⟩ := s_inx hb
    exact K2 _ rfl
theorem E_Law_bound {p2 : Int32} {p3 : Int32} {p4 : Int32} {X : MX} {I : MI} {J : MJ} {v : (Int32 ⊕ Nat)} {X' : MX} {I' : MI} {J' : MJ} (hb : f_Law_bound p2 p3 p4 X I J = some (v, X', I', J')) (K1 : ∀ u, v = .inl u → P (.inl (some (.int u))) (hX X' I' J')) (K2 : ∀ x, v = .inr x → P (.inr x) (am_thr (hX X' I' J'))) : am_E (gG L xs) (d + 6) m_Law_bound (0, lv_args 0 [.ref 0, .int p2, .int p3, .int p4, .ref 168], []) (hX X I J) P := by
  unfold f_Law_bound at hb
  refine e_k 6 (f' := (7, [(0, .ref 0), (1, .int p2), (2, .int p3), (3, .int p4), (4, .ref 168)], [.int p4, .int p3, .int p2, .ref 0, .int 0, .ref 168])) rfl ?_
  obtain ⟨q1, I1, J1, h1, hb⟩ := oc_call hb
  refine r_tv (z := m_Sh_bound) (As := [.int p2, .int p3, .int p4]) (rest := [.int 0, .ref 168]) rfl rfl rfl rfl rfl (x_ltn rfl) rfl rfl (E_Sh_bound  h1 (fun y1 e1 => Or.inl ⟨_, rfl, ?_⟩) (fun y1 e1 => Or.inr ⟨_, rfl, ?_⟩))
  · subst e1
    replace hb := oe_l hb
    refine e_k 1 (f' := (11, [(0, .ref 0), (1, .int p2), (2, .int p3), (3, .int p4), (4, .ref 168)], [.long (Int32.toInt64 y1), .int 0, .ref 168])) rfl ?_
    obtain ⟨o2, hb⟩ := o8_call hb
    obtain ⟨o3, hb⟩ := ob_in hb
    obtain ⟨J4, eJ4, hb⟩ := p_nm hb
    refine r_last' rfl o2.1 o2.2.2 o3 eJ4 ?_
    refine e_k 2 (f' := (20, [(0, .ref 0), (1, .int p2), (2, .int p3), (3, .int p4), (4, .ref 168)], [.int 0])) rfl ?_
    obtain ⟨rfl, rfl, rfl, rfl⟩ := s_inx hb
    exact e_r rfl rfl (K1 _ rfl)
  · subst e1
    replace hb := oe_r hb
    obtain ⟨rfl, rfl, rfl, rfl⟩ := s_inx hb
    exact K2 _ rfl
theorem E_Hall_startAnew_2 {X : MX} : ∀ (fu : Nat) {l1 : Int32} {I : MI} {J : MJ} {r : (Unit)} {I' : MI} {J' : MJ}, f_Hall_startAnew_2  fu l1 I J = some (r, I', J') → am_E (gG L xs) (d + 1) m_Hall_startAnew (18, [(0, .ref 14)], []) (hX X I' J') P → am_E (gG L xs) (d + 1) m_Hall_startAnew (2, [(0, .ref 14), (1, .int l1)], []) (hX X I J) P := by
  intro fu
  induction fu with
  | zero =>
    intros
    rename_i hb _
    cases hb
  | succ fu ih =>
    intro l1 I J r I' J' hb K
    unfold f_Hall_startAnew_2 at hb
    refine e_k 3 (f' := (if 3 ≤ l1 then 18 else 7, [(0, .ref 14), (1, .int l1)], [])) rfl ?_
    refine e_if (fun c1 => ?_) (fun c1 => ?_)
    · replace hb := i_pos c1 hb
      refine e_sub (ls := [(0, .ref 14)]) rfl ⟨rfl, trivial⟩ ?_
      obtain ⟨rfl, rfl, rfl⟩ := s_inj hb
      exact K
    · replace hb := i_neg c1 hb
      refine e_k 2 (f' := (9, [(0, .ref 14), (1, .int l1)], [.int l1, .ref 14])) rfl ?_
      obtain ⟨v2, I2, J2, h2, hb⟩ := oc_call hb
      refine r_cv (z := m_Hall_evenOut) (As := [.int l1]) (rest := []) rfl rfl rfl rfl rfl (x_ltn rfl) rfl rfl (E_Hall_evenOut  h2 ⟨_, rfl, ?_⟩)
      refine e_k 2 (f' := (2, [(1, .int (l1 + 1)), (0, .ref 14)], [])) rfl ?_
      refine e_sub (ls := [(0, .ref 14), (1, .int (l1 + 1))]) rfl ⟨rfl, rfl, trivial⟩ ?_
      exact ih  hb K
theorem E_Hall_startAnew_53 {X : MX} : ∀ (fu : Nat) {l1 : Int32} {q2 : Nat} {l3 : Int32} {I : MI} {J : MJ} {r : (Unit)} {I' : MI} {J' : MJ}, q2 < 4 → f_Hall_startAnew_53  fu l1 q2 l3 I J = some (r, I', J') → am_E (gG L xs) d m_Hall_startAnew (88, [(0, .ref 14), (1, .int l1), (2, .ref (18 + 21 * q2))], []) (hX X I' J') P → am_E (gG L xs) d m_Hall_startAnew (53, [(0, .ref 14), (1, .int l1), (2, .ref (18 + 21 * q2)), (3, .int l3)], []) (hX X I J) P := by
  intro fu
  induction fu with
  | zero =>
    intros
    rename_i hb _
    cases hb
  | succ fu ih =>
    intro l1 q2 l3 I J r I' J' hq2 hb K
    unfold f_Hall_startAnew_53 at hb
    refine e_k 2 (f' := (55, [(0, .ref 14), (1, .int l1), (2, .ref (18 + 21 * q2)), (3, .int l3)], [.ref 14, .int l3])) rfl ?_
    refine r_geti rfl (x_ltn rfl) rfl rfl ?_
    refine e_k 1 (f' := (if (I 14 6) ≤ l3 then 88 else 61, [(0, .ref 14), (1, .int l1), (2, .ref (18 + 21 * q2)), (3, .int l3)], [])) rfl ?_
    refine e_if (fun c9 => ?_) (fun c9 => ?_)
    · replace hb := i_pos c9 hb
      refine e_sub (ls := [(0, .ref 14), (1, .int l1), (2, .ref (18 + 21 * q2))]) rfl ⟨rfl, rfl, rfl, trivial⟩ ?_
      obtain ⟨rfl, rfl, rfl⟩ := s_inj hb
      exact K
    · replace hb := i_neg c9 hb
      refine e_k 1 (f' := (62, [(0, .ref 14), (1, .int l1), (2, .ref (18 + 21 * q2)), (3, .int l3)], [.ref (18 + 21 * q2)])) rfl ?_
      refine r_getr rfl (x_ltp hq2 (by decide)) (sS_p0 hq2) rfl ?_
      refine r_getr rfl (x_ltp hq2 (by decide)) (sS_p14 hq2) rfl ?_
      refine e_k 2 (f' := (70, [(0, .ref 14), (1, .int l1), (2, .ref (18 + 21 * q2)), (3, .int l3)], [.ref 14, .int l3, .ref (37 + 21 * q2)])) rfl ?_
      refine r_getr rfl (x_ltn rfl) rfl rfl ?_
      refine e_k 1 (f' := (74, [(0, .ref 14), (1, .int l1), (2, .ref (18 + 21 * q2)), (3, .int l3)], [.int l3, .ref 17, .int l3, .ref (37 + 21 * q2)])) rfl ?_
      obtain ⟨o10, hb⟩ := ob_in hb
      refine r_pald rfl o10 ?_
      refine r_getr rfl (x_ltp (vp_lt o10) (by decide)) (sS_p0 (vp_lt o10)) rfl ?_
      refine r_geti rfl (x_ltp (vp_lt o10) (by decide)) (sS_p11 (vp_lt o10)) rfl ?_
      obtain ⟨o11, hb⟩ := ob_in hb
      obtain ⟨I12, eI12, hb⟩ := p_nm hb
      refine r_iast' rfl (x_ltp hq2 (by decide)) (sS_p19 hq2) o11 eI12 ?_
      refine e_k 2 (f' := (53, [(3, .int (l3 + 1)), (0, .ref 14), (1, .int l1), (2, .ref (18 + 21 * q2))], [])) rfl ?_
      refine e_sub (ls := [(0, .ref 14), (1, .int l1), (2, .ref (18 + 21 * q2)), (3, .int (l3 + 1))]) rfl ⟨rfl, rfl, rfl, rfl, trivial⟩ ?_
      exact ih hq2 hb K
theorem E_Hall_startAnew_32 {X : MX} : ∀ (fu : Nat) {l1 : Int32} {I : MI} {J : MJ} {r : (Unit)} {I' : MI} {J' : MJ}, f_Hall_startAnew_32  fu l1 I J = some (r, I', J') → am_E (gG L xs) (d + 3) m_Hall_startAnew (100, [], []) (hX X I' J') P → am_E (gG L xs) (d + 3) m_Hall_startAnew (32, [(0, .ref 14), (1, .int l1)], []) (hX X I J) P := by
  intro fu
  induction fu with
  | zero =>
    intros
    rename_i hb _
    cases hb
  | succ fu ih =>
    intro l1 I J r I' J' hb K
    unfold f_Hall_startAnew_32 at hb
    refine e_k 2 (f' := (34, [(0, .ref 14), (1, .int l1)], [.ref 14, .int l1])) rfl ?_
    refine r_geti rfl (x_ltn rfl) rfl rfl ?_
    refine e_k 1 (f' := (if (I 14 6) ≤ l1 then 100 else 40, [(0, .ref 14), (1, .int l1)], [])) rfl ?_
    refine e_if (fun c6 => ?_) (fun c6 => ?_)
    · replace hb := i_pos c6 hb
      refine e_sub (ls := []) rfl ⟨⟩ ?_
      obtain ⟨rfl, rfl, rfl⟩ := s_inj hb
      exact K
    · replace hb := i_neg c6 hb
      refine e_k 1 (f' := (41, [(0, .ref 14), (1, .int l1)], [.ref 14])) rfl ?_
      refine r_getr rfl (x_ltn rfl) rfl rfl ?_
      refine e_k 1 (f' := (45, [(0, .ref 14), (1, .int l1)], [.int l1, .ref 17])) rfl ?_
      obtain ⟨o7, hb⟩ := ob_in hb
      refine r_pald rfl o7 ?_
      refine e_k 2 (f' := (48, [(2, .ref (18 + 21 * (Int32.toNatClampNeg l1))), (0, .ref 14), (1, .int l1)], [.ref (18 + 21 * (Int32.toNatClampNeg l1))])) rfl ?_
      obtain ⟨v8, I8, J8, h8, hb⟩ := oc_call hb
      refine r_cv (z := m_Party_startAnew) (As := []) (rest := []) rfl rfl rfl rfl rfl (x_ltp (vp_lt o7) (by decide)) (sS_p0 (vp_lt o7)) rfl (E_Party_startAnew (vp_lt o7) h8 ⟨_, rfl, ?_⟩)
      refine e_k 2 (f' := (53, [(3, .int 0), (2, .ref (18 + 21 * (Int32.toNatClampNeg l1))), (0, .ref 14), (1, .int l1)], [])) rfl ?_
      refine e_sub (ls := [(0, .ref 14), (1, .int l1), (2, .ref (18 + 21 * (Int32.toNatClampNeg l1))), (3, .int 0)]) rfl ⟨rfl, rfl, rfl, rfl, trivial⟩ ?_
      obtain ⟨u13, I13, J13, h13, hb⟩ := oc_call hb
      refine E_Hall_startAnew_53  gF (vp_lt o7) h13 ?_
      refine e_k 3 (f' := (91, [(0, .ref 14), (1, .int l1), (2, .ref (18 + 21 * (Int32.toNatClampNeg l1)))], [.int 0, .ref (18 + 21 * (Int32.toNatClampNeg l1)), .ref 14])) rfl ?_
      obtain ⟨v14, I14, J14, h14, hb⟩ := oc_call hb
      refine r_cv (z := m_Hall_settle) (As := [.ref (18 + 21 * (Int32.toNatClampNeg l1)), .int 0]) (rest := []) rfl rfl rfl rfl rfl (x_ltn rfl) rfl rfl (E_Hall_settle (vp_lt o7) h14 ⟨_, rfl, ?_⟩)
      refine e_k 2 (f' := (32, [(1, .int (l1 + 1)), (0, .ref 14), (2, .ref (18 + 21 * (Int32.toNatClampNeg l1)))], [])) rfl ?_
      refine e_sub (ls := [(0, .ref 14), (1, .int (l1 + 1))]) rfl ⟨rfl, rfl, trivial⟩ ?_
      exact ih  hb K
theorem E_Hall_startAnew {X : MX} {I : MI} {J : MJ} {v : Unit} {I' : MI} {J' : MJ} (hb : f_Hall_startAnew  I J = some (v, I', J')) (K : P (.inl (none)) (hX X I' J')) : am_E (gG L xs) (d + 3) m_Hall_startAnew (0, lv_args 0 [.ref 14], []) (hX X I J) P := by
  unfold f_Hall_startAnew at hb
  refine e_k 2 (f' := (2, [(1, .int 0), (0, .ref 14)], [])) rfl ?_
  refine e_sub (ls := [(0, .ref 14), (1, .int 0)]) rfl ⟨rfl, rfl, trivial⟩ ?_
  obtain ⟨u3, I3, J3, h3, hb⟩ := oc_call hb
  refine E_Hall_startAnew_2  gF  h3 ?_
  refine e_k 1 (f' := (19, [(0, .ref 14)], [.ref 14])) rfl ?_
  refine r_getr rfl (x_ltn rfl) rfl rfl ?_
  obtain ⟨v4, I4, J4, h4, hb⟩ := oc_call hb
  refine r_cv (z := m_Errors_wipe) (As := []) (rest := []) rfl rfl rfl rfl rfl (x_ltn rfl) rfl rfl (E_Errors_wipe  h4 ⟨_, rfl, ?_⟩)
  refine e_k 2 (f' := (27, [(0, .ref 14)], [.int 1, .ref 14])) rfl ?_
  obtain ⟨I5, eI5, hb⟩ := p_nm hb
  refine r_putz' rfl (x_ltn rfl) rfl rfl (Or.inr rfl) eI5 ?_
  refine e_k 2 (f' := (32, [(1, .int 0), (0, .ref 14)], [])) rfl ?_
  refine e_sub (ls := [(0, .ref 14), (1, .int 0)]) rfl ⟨rfl, rfl, trivial⟩ ?_
  obtain ⟨u15, I15, J15, h15, hb⟩ := oc_call hb
  refine E_Hall_startAnew_32  gF  h15 ?_
  obtain ⟨rfl, rfl, rfl⟩ := s_inj hb
  exact e_r rfl rfl K
theorem E_Hall_exchange {w2 : Nat} {p3 : Int32} {X : MX} {I : MI} {J : MJ} {v : Int32} {I' : MI} {J' : MJ} (hw_w2 : w2 < 4) (hb : f_Hall_exchange w2 p3 I J = some (v, I', J')) (K : P (.inl (some (.int v))) (hX X I' J')) : am_E (gG L xs) (d + 4) m_Hall_exchange (0, lv_args 0 [.ref 14, .ref (18 + 21 * w2), .int p3], []) (hX X I J) P := by
  unfold f_Hall_exchange at hb
  refine e_k 1 (f' := (1, [(0, .ref 14), (1, .ref (18 + 21 * w2)), (2, .int p3)], [.ref (18 + 21 * w2)])) rfl ?_
  refine r_geti rfl (x_ltp hw_w2 (by decide)) (sS_p0 hw_w2) rfl ?_
  refine e_k 1 (f' := (if ¬ (I (18 + 21 * w2) 9) = 0 then 45 else 7, [(0, .ref 14), (1, .ref (18 + 21 * w2)), (2, .int p3)], [])) rfl ?_
  refine e_if (fun c1 => ?_) (fun c1 => ?_)
  · replace hb := i_pos c1 hb
    refine e_k 3 (f' := (if ¬ p3 = 13 then 67 else 51, [(0, .ref 14), (1, .ref (18 + 21 * w2)), (2, .int p3)], [])) rfl ?_
    obtain ⟨v3, I3, J3, h3, hb⟩ := oc_call hb
    have Kj3 : am_E (gG L xs) (d + 4) m_Hall_exchange (68, [(0, .ref 14), (1, .ref (18 + 21 * w2)), (2, .int p3)], [.int v3]) (hX X I3 J3) P := by
      refine e_k 4 (f' := (72, [(3, .int v3), (0, .ref 14), (1, .ref (18 + 21 * w2)), (2, .int p3)], [.int v3, .ref (18 + 21 * w2), .ref 14])) rfl ?_
      obtain ⟨v6, I6, J6, h6, hb⟩ := oc_call hb
      refine r_cv (z := m_Hall_receives) (As := [.ref (18 + 21 * w2), .int v3]) (rest := []) rfl rfl rfl rfl rfl (x_ltn rfl) rfl rfl (E_Hall_receives hw_w2 h6 ⟨_, rfl, ?_⟩)
      refine e_k 1 (f' := (if ¬ v6 = 0 then 80 else 78, [(3, .int v3), (0, .ref 14), (1, .ref (18 + 21 * w2)), (2, .int p3)], [])) rfl ?_
      refine e_if (fun c7 => ?_) (fun c7 => ?_)
      · replace hb := i_pos c7 hb
        refine e_k 4 (f' := (84, [(3, .int v3), (0, .ref 14), (1, .ref (18 + 21 * w2)), (2, .int p3)], [.int p3, .int v3, .ref (18 + 21 * w2), .ref 14])) rfl ?_
        obtain ⟨v8, I8, J8, h8, hb⟩ := oc_call hb
        refine r_cs (z := m_Hall_numbersOf) (As := [.int p3]) (rest := [.int v3, .ref (18 + 21 * w2), .ref 14]) rfl rfl rfl rfl rfl rfl (E_Hall_numbersOf  h8 ⟨_, rfl, ?_⟩)
        obtain ⟨v9, I9, J9, h9, hb⟩ := oc_call hb
        refine r_cv (z := m_Hall_gatherErrors) (As := [.ref (18 + 21 * w2), .int v3, .int v8]) (rest := []) rfl rfl rfl rfl rfl (x_ltn rfl) rfl rfl (E_Hall_gatherErrors hw_w2 h9 ⟨_, rfl, ?_⟩)
        refine e_k 3 (f' := (93, [(3, .int v3), (0, .ref 14), (1, .ref (18 + 21 * w2)), (2, .int p3)], [.int p3, .ref (18 + 21 * w2), .ref 14])) rfl ?_
        obtain ⟨v10, I10, J10, h10, hb⟩ := oc_call hb
        refine r_cv (z := m_Hall_conclude) (As := [.ref (18 + 21 * w2), .int p3]) (rest := []) rfl rfl rfl rfl rfl (x_ltn rfl) rfl rfl (E_Hall_conclude hw_w2 h10 ⟨_, rfl, ?_⟩)
        refine e_k 3 (f' := (99, [(3, .int v3), (0, .ref 14), (1, .ref (18 + 21 * w2)), (2, .int p3)], [.ref (18 + 21 * w2), .ref (18 + 21 * w2), .ref 14])) rfl ?_
        refine r_geti rfl (x_ltp hw_w2 (by decide)) (sS_p0 hw_w2) rfl ?_
        refine e_k 1 (f' := (103, [(3, .int v3), (0, .ref 14), (1, .ref (18 + 21 * w2)), (2, .int p3)], [.int p3, .int (I10 (18 + 21 * w2) 8), .ref (18 + 21 * w2), .ref 14])) rfl ?_
        obtain ⟨v11, I11, J11, h11, hb⟩ := oc_call hb
        refine r_cs (z := m_Sh_lengthOf) (As := [.int p3]) (rest := [.int (I10 (18 + 21 * w2) 8), .ref (18 + 21 * w2), .ref 14]) rfl rfl rfl rfl rfl rfl (E_Sh_lengthOf  h11 ⟨_, rfl, ?_⟩)
        refine e_k 1 (f' := (107, [(3, .int v3), (0, .ref 14), (1, .ref (18 + 21 * w2)), (2, .int p3)], [.int ((I10 (18 + 21 * w2) 8) + v11), .ref (18 + 21 * w2), .ref 14])) rfl ?_
        obtain ⟨v12, I12, J12, h12, hb⟩ := oc_call hb
        refine r_cv (z := m_Hall_settle) (As := [.ref (18 + 21 * w2), .int ((I10 (18 + 21 * w2) 8) + v11)]) (rest := []) rfl rfl rfl rfl rfl (x_ltn rfl) rfl rfl (E_Hall_settle hw_w2 h12 ⟨_, rfl, ?_⟩)
        refine e_k 1 (f' := (111, [(3, .int v3), (0, .ref 14), (1, .ref (18 + 21 * w2)), (2, .int p3)], [.int 1])) rfl ?_
        obtain ⟨rfl, rfl, rfl⟩ := s_inj hb
        exact e_r rfl rfl K
      · replace hb := i_neg c7 hb
        refine e_k 1 (f' := (79, [(3, .int v3), (0, .ref 14), (1, .ref (18 + 21 * w2)), (2, .int p3)], [.int 0])) rfl ?_
        obtain ⟨rfl, rfl, rfl⟩ := s_inj hb
        exact e_r rfl rfl K
    clear hb
    refine e_if (fun c4 => ?_) (fun c4 => ?_)
    · replace h3 := i_pos c4 h3
      refine e_k 1 (f' := (68, [(0, .ref 14), (1, .ref (18 + 21 * w2)), (2, .int p3)], [.int (-1)])) rfl ?_
      refine e_sub (ls := [(0, .ref 14), (1, .ref (18 + 21 * w2)), (2, .int p3)]) rfl ⟨rfl, rfl, rfl, trivial⟩ ?_
      obtain ⟨rfl, rfl, rfl⟩ := s_inj h3
      exact Kj3
    · replace h3 := i_neg c4 h3
      refine e_k 1 (f' := (52, [(0, .ref 14), (1, .ref (18 + 21 * w2)), (2, .int p3)], [.ref 14])) rfl ?_
      refine r_getr rfl (x_ltn rfl) rfl rfl ?_
      refine e_k 1 (f' := (56, [(0, .ref 14), (1, .ref (18 + 21 * w2)), (2, .int p3)], [.ref (18 + 21 * w2), .ref 15])) rfl ?_
      refine r_geti rfl (x_ltp hw_w2 (by decide)) (sS_p0 hw_w2) rfl ?_
      refine e_k 2 (f' := (61, [(0, .ref 14), (1, .ref (18 + 21 * w2)), (2, .int p3)], [.int ((I (18 + 21 * w2) 8) + 2), .ref 15])) rfl ?_
      obtain ⟨v5, I5, J5, h5, h3⟩ := oc_call h3
      refine r_cv (z := m_Row_at) (As := [.int ((I (18 + 21 * w2) 8) + 2)]) (rest := []) rfl rfl rfl rfl rfl (x_ltn rfl) rfl rfl (E_Row_at row_15 h5 ⟨_, rfl, ?_⟩)
      refine e_k 1 (f' := (68, [(0, .ref 14), (1, .ref (18 + 21 * w2)), (2, .int p3)], [.int v5])) rfl ?_
      refine e_sub (ls := [(0, .ref 14), (1, .ref (18 + 21 * w2)), (2, .int p3)]) rfl ⟨rfl, rfl, rfl, trivial⟩ ?_
      obtain ⟨rfl, rfl, rfl⟩ := s_inj h3
      exact Kj3
  · replace hb := i_neg c1 hb
    refine e_k 2 (f' := (9, [(0, .ref 14), (1, .ref (18 + 21 * w2)), (2, .int p3)], [.ref (18 + 21 * w2), .ref 14])) rfl ?_
    obtain ⟨v13, I13, J13, h13, hb⟩ := oc_call hb
    refine r_cv (z := m_Hall_sends) (As := [.ref (18 + 21 * w2)]) (rest := []) rfl rfl rfl rfl rfl (x_ltn rfl) rfl rfl (E_Hall_sends hw_w2 h13 ⟨_, rfl, ?_⟩)
    refine e_k 1 (f' := (if ¬ v13 = 0 then 17 else 15, [(0, .ref 14), (1, .ref (18 + 21 * w2)), (2, .int p3)], [])) rfl ?_
    refine e_if (fun c14 => ?_) (fun c14 => ?_)
    · replace hb := i_pos c14 hb
      refine e_k 1 (f' := (18, [(0, .ref 14), (1, .ref (18 + 21 * w2)), (2, .int p3)], [.ref (18 + 21 * w2)])) rfl ?_
      refine r_getr rfl (x_ltp hw_w2 (by decide)) (sS_p0 hw_w2) rfl ?_
      refine e_k 1 (f' := (22, [(0, .ref 14), (1, .ref (18 + 21 * w2)), (2, .int p3)], [.ref (32 + 21 * w2), .ref (32 + 21 * w2)])) rfl ?_
      refine r_geti rfl (x_ltp hw_w2 (by decide)) (sS_p14 hw_w2) rfl ?_
      refine e_k 2 (f' := (27, [(0, .ref 14), (1, .ref (18 + 21 * w2)), (2, .int p3)], [.int ((I13 (32 + 21 * w2) 6) + 1), .ref (32 + 21 * w2)])) rfl ?_
      obtain ⟨I15, eI15, hb⟩ := p_nm hb
      refine r_puti' rfl (x_ltp hw_w2 (by decide)) (sS_p14 hw_w2) rfl eI15 ?_
      refine e_k 1 (f' := (31, [(0, .ref 14), (1, .ref (18 + 21 * w2)), (2, .int p3)], [.ref (18 + 21 * w2)])) rfl ?_
      refine r_getr rfl (x_ltp hw_w2 (by decide)) (sS_p0 hw_w2) rfl ?_
      refine e_k 1 (f' := (35, [(0, .ref 14), (1, .ref (18 + 21 * w2)), (2, .int p3)], [.int p3, .ref (29 + 21 * w2)])) rfl ?_
      obtain ⟨v16, I16, J16, h16, hb⟩ := oc_call hb
      refine r_cs (z := m_Hall_use) (As := [.ref (29 + 21 * w2), .int p3]) (rest := []) rfl rfl rfl rfl rfl rfl (E_Hall_use hw_w2 h16 ⟨_, rfl, ?_⟩)
      refine e_k 2 (f' := (40, [(0, .ref 14), (1, .ref (18 + 21 * w2)), (2, .int p3)], [.int 1, .ref (18 + 21 * w2)])) rfl ?_
      obtain ⟨I17, eI17, hb⟩ := p_nm hb
      refine r_puti' rfl (x_ltp hw_w2 (by decide)) (sS_p0 hw_w2) rfl eI17 ?_
      refine e_k 1 (f' := (44, [(0, .ref 14), (1, .ref (18 + 21 * w2)), (2, .int p3)], [.int 1])) rfl ?_
      obtain ⟨rfl, rfl, rfl⟩ := s_inj hb
      exact e_r rfl rfl K
    · replace hb := i_neg c14 hb
      refine e_k 1 (f' := (16, [(0, .ref 14), (1, .ref (18 + 21 * w2)), (2, .int p3)], [.int 0])) rfl ?_
      obtain ⟨rfl, rfl, rfl⟩ := s_inj hb
      exact e_r rfl rfl K
theorem E_Hall_checkStep {w2 : Nat} {X : MX} {I : MI} {J : MJ} {v : Int32} {I' : MI} {J' : MJ} (hw_w2 : w2 < 4) (hb : f_Hall_checkStep w2 I J = some (v, I', J')) (K : P (.inl (some (.int v))) (hX X I' J')) : am_E (gG L xs) (d + 4) m_Hall_checkStep (0, lv_args 0 [.ref 14, .ref (18 + 21 * w2)], []) (hX X I J) P := by
  unfold f_Hall_checkStep at hb
  refine e_k 1 (f' := (1, [(0, .ref 14), (1, .ref (18 + 21 * w2))], [.ref (18 + 21 * w2)])) rfl ?_
  refine r_geti rfl (x_ltp hw_w2 (by decide)) (sS_p0 hw_w2) rfl ?_
  refine e_k 2 (f' := (if 8 ≤ (I (18 + 21 * w2) 9) then 16 else 9, [(0, .ref 14), (1, .ref (18 + 21 * w2))], [])) rfl ?_
  obtain ⟨v2, h2, hb⟩ := p_nn hb
  have Kj2 : am_E (gG L xs) (d + 4) m_Hall_checkStep (23, [(0, .ref 14), (1, .ref (18 + 21 * w2))], [.int v2]) (hX X I J) P := by
    refine e_k 5 (f' := (if ¬ (v2 &&& 1) = 0 then 38 else 30, [(2, .int v2), (0, .ref 14), (1, .ref (18 + 21 * w2))], [])) rfl ?_
    obtain ⟨v6, I6, J6, h6, hb⟩ := oc_call hb
    have Kj6 : am_E (gG L xs) (d + 4) m_Hall_checkStep (44, [(0, .ref 14), (1, .ref (18 + 21 * w2)), (2, .int v2)], [.int v6]) (hX X I6 J6) P := by
      refine e_k 3 (f' := (if ¬ v6 = 0 then 51 else 49, [(3, .int v6), (0, .ref 14), (1, .ref (18 + 21 * w2)), (2, .int v2)], [])) rfl ?_
      refine e_if (fun c10 => ?_) (fun c10 => ?_)
      · replace hb := i_pos c10 hb
        refine e_k 2 (f' := (53, [(3, .int v6), (0, .ref 14), (1, .ref (18 + 21 * w2)), (2, .int v2)], [.ref (18 + 21 * w2), .ref (18 + 21 * w2)])) rfl ?_
        refine r_geti rfl (x_ltp hw_w2 (by decide)) (sS_p0 hw_w2) rfl ?_
        refine e_k 2 (f' := (58, [(3, .int v6), (0, .ref 14), (1, .ref (18 + 21 * w2)), (2, .int v2)], [.int ((I6 (18 + 21 * w2) 9) + 1), .ref (18 + 21 * w2)])) rfl ?_
        obtain ⟨I11, eI11, hb⟩ := p_nm hb
        refine r_puti' rfl (x_ltp hw_w2 (by decide)) (sS_p0 hw_w2) rfl eI11 ?_
        refine e_k 2 (f' := (am_sw v2 142 [(0, 108), (1, 117), (2, 142), (3, 142), (4, 127), (5, 142), (6, 142), (7, 136)], [(3, .int v6), (0, .ref 14), (1, .ref (18 + 21 * w2)), (2, .int v2)], [])) rfl ?_
        by_cases c12 : v2 = 0
        · rw [show am_sw v2 142 [(0, 108), (1, 117), (2, 142), (3, 142), (4, 127), (5, 142), (6, 142), (7, 136)] = 108 from by rw [c12]; rfl]
          replace hb := i_pos c12 hb
          refine e_k 1 (f' := (109, [(3, .int v6), (0, .ref 14), (1, .ref (18 + 21 * w2)), (2, .int v2)], [.ref (18 + 21 * w2)])) rfl ?_
          refine r_getr rfl (x_ltp hw_w2 (by decide)) (sS_p0 hw_w2) rfl ?_
          obtain ⟨v13, I13, J13, h13, hb⟩ := oc_call hb
          refine r_cv (z := m_Check_drawCoinAndNonce) (As := []) (rest := []) rfl rfl rfl rfl rfl (x_ltp hw_w2 (by decide)) (sS_p7 hw_w2) rfl (E_Check_drawCoinAndNonce hw_w2 h13 ⟨_, rfl, ?_⟩)
          refine e_k 1 (f' := (116, [(3, .int v6), (0, .ref 14), (1, .ref (18 + 21 * w2)), (2, .int v2)], [.int 1])) rfl ?_
          obtain ⟨rfl, rfl, rfl⟩ := s_inj hb
          exact e_r rfl rfl K
        replace hb := i_neg c12 hb
        by_cases c14 : v2 = 1
        · rw [show am_sw v2 142 [(0, 108), (1, 117), (2, 142), (3, 142), (4, 127), (5, 142), (6, 142), (7, 136)] = 117 from by rw [c14]; rfl]
          replace hb := i_pos c14 hb
          refine e_k 2 (f' := (119, [(3, .int v6), (0, .ref 14), (1, .ref (18 + 21 * w2)), (2, .int v2)], [.ref (18 + 21 * w2), .ref 14])) rfl ?_
          refine r_getr rfl (x_ltp hw_w2 (by decide)) (sS_p0 hw_w2) rfl ?_
          obtain ⟨v15, I15, J15, h15, hb⟩ := oc_call hb
          refine r_cv (z := m_Hall_noteBonds) (As := [.ref (25 + 21 * w2)]) (rest := []) rfl rfl rfl rfl rfl (x_ltn rfl) rfl rfl (E_Hall_noteBonds hw_w2 h15 ⟨_, rfl, ?_⟩)
          refine e_k 1 (f' := (126, [(3, .int v6), (0, .ref 14), (1, .ref (18 + 21 * w2)), (2, .int v2)], [.int 1])) rfl ?_
          obtain ⟨rfl, rfl, rfl⟩ := s_inj hb
          exact e_r rfl rfl K
        replace hb := i_neg c14 hb
        by_cases c16 : v2 = 4
        · rw [show am_sw v2 142 [(0, 108), (1, 117), (2, 142), (3, 142), (4, 127), (5, 142), (6, 142), (7, 136)] = 127 from by rw [c16]; rfl]
          replace hb := i_pos c16 hb
          refine e_k 1 (f' := (128, [(3, .int v6), (0, .ref 14), (1, .ref (18 + 21 * w2)), (2, .int v2)], [.ref (18 + 21 * w2)])) rfl ?_
          refine r_getr rfl (x_ltp hw_w2 (by decide)) (sS_p0 hw_w2) rfl ?_
          obtain ⟨v17, I17, J17, h17, hb⟩ := oc_call hb
          refine r_cv (z := m_Check_drawNonce) (As := []) (rest := []) rfl rfl rfl rfl rfl (x_ltp hw_w2 (by decide)) (sS_p7 hw_w2) rfl (E_Check_drawNonce hw_w2 h17 ⟨_, rfl, ?_⟩)
          refine e_k 1 (f' := (135, [(3, .int v6), (0, .ref 14), (1, .ref (18 + 21 * w2)), (2, .int v2)], [.int 1])) rfl ?_
          obtain ⟨rfl, rfl, rfl⟩ := s_inj hb
          exact e_r rfl rfl K
        replace hb := i_neg c16 hb
        by_cases c18 : v2 = 7
        · rw [show am_sw v2 142 [(0, 108), (1, 117), (2, 142), (3, 142), (4, 127), (5, 142), (6, 142), (7, 136)] = 136 from by rw [c18]; rfl]
          replace hb := i_pos c18 hb
          refine e_k 2 (f' := (138, [(3, .int v6), (0, .ref 14), (1, .ref (18 + 21 * w2)), (2, .int v2)], [.ref (18 + 21 * w2), .ref 14])) rfl ?_
          obtain ⟨v19, I19, J19, h19, hb⟩ := oc_call hb
          refine r_cv (z := m_Hall_judge) (As := [.ref (18 + 21 * w2)]) (rest := []) rfl rfl rfl rfl rfl (x_ltn rfl) rfl rfl (E_Hall_judge hw_w2 h19 ⟨_, rfl, ?_⟩)
          obtain ⟨rfl, rfl, rfl⟩ := s_inj hb
          exact e_r rfl rfl K
        replace hb := i_neg c18 hb
        rw [show am_sw v2 142 [(0, 108), (1, 117), (2, 142), (3, 142), (4, 127), (5, 142), (6, 142), (7, 136)] = 142 from (am_swd c12 (am_swd c14 (am_swe (am_swe (am_swd c16 (am_swe (am_swe (am_swd c18 rfl))))))))]
        refine e_k 1 (f' := (143, [(3, .int v6), (0, .ref 14), (1, .ref (18 + 21 * w2)), (2, .int v2)], [.int 1])) rfl ?_
        obtain ⟨rfl, rfl, rfl⟩ := s_inj hb
        exact e_r rfl rfl K
      · replace hb := i_neg c10 hb
        refine e_k 1 (f' := (50, [(3, .int v6), (0, .ref 14), (1, .ref (18 + 21 * w2)), (2, .int v2)], [.int 0])) rfl ?_
        obtain ⟨rfl, rfl, rfl⟩ := s_inj hb
        exact e_r rfl rfl K
    clear hb
    refine e_if (fun c7 => ?_) (fun c7 => ?_)
    · replace h6 := i_pos c7 h6
      refine e_k 3 (f' := (41, [(2, .int v2), (0, .ref 14), (1, .ref (18 + 21 * w2))], [.int (-1), .ref (18 + 21 * w2), .ref 14])) rfl ?_
      obtain ⟨v8, I8, J8, h8, h6⟩ := oc_call h6
      refine r_cv (z := m_Hall_receives) (As := [.ref (18 + 21 * w2), .int (-1)]) (rest := []) rfl rfl rfl rfl rfl (x_ltn rfl) rfl rfl (E_Hall_receives hw_w2 h8 ⟨_, rfl, ?_⟩)
      refine e_sub (ls := [(0, .ref 14), (1, .ref (18 + 21 * w2)), (2, .int v2)]) rfl ⟨rfl, rfl, rfl, trivial⟩ ?_
      obtain ⟨rfl, rfl, rfl⟩ := s_inj h6
      exact Kj6
    · replace h6 := i_neg c7 h6
      refine e_k 2 (f' := (32, [(2, .int v2), (0, .ref 14), (1, .ref (18 + 21 * w2))], [.ref (18 + 21 * w2), .ref 14])) rfl ?_
      obtain ⟨v9, I9, J9, h9, h6⟩ := oc_call h6
      refine r_cv (z := m_Hall_sends) (As := [.ref (18 + 21 * w2)]) (rest := []) rfl rfl rfl rfl rfl (x_ltn rfl) rfl rfl (E_Hall_sends hw_w2 h9 ⟨_, rfl, ?_⟩)
      refine e_k 1 (f' := (44, [(2, .int v2), (0, .ref 14), (1, .ref (18 + 21 * w2))], [.int v9])) rfl ?_
      refine e_sub (ls := [(0, .ref 14), (1, .ref (18 + 21 * w2)), (2, .int v2)]) rfl ⟨rfl, rfl, rfl, trivial⟩ ?_
      obtain ⟨rfl, rfl, rfl⟩ := s_inj h6
      exact Kj6
  clear hb
  refine e_if (fun c3 => ?_) (fun c3 => ?_)
  · replace h2 := i_pos c3 h2
    refine e_k 1 (f' := (17, [(0, .ref 14), (1, .ref (18 + 21 * w2))], [.ref (18 + 21 * w2)])) rfl ?_
    refine r_geti rfl (x_ltp hw_w2 (by decide)) (sS_p0 hw_w2) rfl ?_
    refine e_k 2 (f' := (23, [(0, .ref 14), (1, .ref (18 + 21 * w2))], [.int ((I (18 + 21 * w2) 9) - 10)])) rfl ?_
    refine e_sub (ls := [(0, .ref 14), (1, .ref (18 + 21 * w2))]) rfl ⟨rfl, rfl, trivial⟩ ?_
    subst h2
    exact Kj2
  · replace h2 := i_neg c3 h2
    refine e_k 1 (f' := (10, [(0, .ref 14), (1, .ref (18 + 21 * w2))], [.ref (18 + 21 * w2)])) rfl ?_
    refine r_geti rfl (x_ltp hw_w2 (by decide)) (sS_p0 hw_w2) rfl ?_
    refine e_k 1 (f' := (23, [(0, .ref 14), (1, .ref (18 + 21 * w2))], [.int (I (18 + 21 * w2) 9)])) rfl ?_
    refine e_sub (ls := [(0, .ref 14), (1, .ref (18 + 21 * w2))]) rfl ⟨rfl, rfl, trivial⟩ ?_
    subst h2
    exact Kj2
theorem E_Translator_statement {R : M3} {X : MX} {I : MI} {J : MJ} {v : Int32} {I' : MI} {J' : MJ} (hR_0 : ∀ {I : MI} {J : MJ} {v : Int32} {I' : MI} {J' : MJ} {P : am_R → am_H → Prop}, R 0 0 0 I J = some (v, I', J') → P (.inl (none)) (hX X I' J') → am_E (gG L xs) (d + 3) m_Translator_statements (0, lv_args 0 [.ref 3], []) (hX X I J) P) (hR_1 : ∀ {I : MI} {J : MJ} {v : Int32} {I' : MI} {J' : MJ} {P : am_R → am_H → Prop}, R 1 0 0 I J = some (v, I', J') → P (.inl (some (.int v))) (hX X I' J') → am_E (gG L xs) (d + 3) m_Translator_statement (0, lv_args 0 [.ref 3], []) (hX X I J) P) (hR_2 : ∀ {a0 : Int32} {a1 : Int32} {I : MI} {J : MJ} {v : Int32} {I' : MI} {J' : MJ} {P : am_R → am_H → Prop}, R 2 a0 a1 I J = some (v, I', J') → P (.inl (none)) (hX X I' J') → am_E (gG L xs) (d + 3) m_Translator_variableStatement (0, lv_args 0 [.ref 3, .int a0, .int a1], []) (hX X I J) P) (hR_3 : ∀ {a0 : Int32} {a1 : Int32} {I : MI} {J : MJ} {v : Int32} {I' : MI} {J' : MJ} {P : am_R → am_H → Prop}, R 3 a0 a1 I J = some (v, I', J') → P (.inl (none)) (hX X I' J') → am_E (gG L xs) (d + 3) m_Translator_assign (0, lv_args 0 [.ref 3, .int a0, .int a1], []) (hX X I J) P) (hR_4 : ∀ {a0 : Int32} {a1 : Int32} {I : MI} {J : MJ} {v : Int32} {I' : MI} {J' : MJ} {P : am_R → am_H → Prop}, R 4 a0 a1 I J = some (v, I', J') → P (.inl (none)) (hX X I' J') → am_E (gG L xs) (d + 3) m_Translator_arrayStatement (0, lv_args 0 [.ref 3, .int a0, .int a1], []) (hX X I J) P) (hR_5 : ∀ {a0 : Int32} {I : MI} {J : MJ} {v : Int32} {I' : MI} {J' : MJ} {P : am_R → am_H → Prop}, R 5 a0 0 I J = some (v, I', J') → P (.inl (none)) (hX X I' J') → am_E (gG L xs) (d + 3) m_Translator_routine (0, lv_args 0 [.ref 3, .int a0], []) (hX X I J) P) (hR_6 : ∀ {a0 : Int32} {a1 : Int32} {I : MI} {J : MJ} {v : Int32} {I' : MI} {J' : MJ} {P : am_R → am_H → Prop}, R 6 a0 a1 I J = some (v, I', J') → P (.inl (none)) (hX X I' J') → am_E (gG L xs) (d + 3) m_Translator_tell (0, lv_args 0 [.ref 3, .int a0, .int a1], []) (hX X I J) P) (hR_7 : ∀ {I : MI} {J : MJ} {v : Int32} {I' : MI} {J' : MJ} {P : am_R → am_H → Prop}, R 7 0 0 I J = some (v, I', J') → P (.inl (none)) (hX X I' J') → am_E (gG L xs) (d + 3) m_Translator_choice (0, lv_args 0 [.ref 3], []) (hX X I J) P) (hR_8 : ∀ {I : MI} {J : MJ} {v : Int32} {I' : MI} {J' : MJ} {P : am_R → am_H → Prop}, R 8 0 0 I J = some (v, I', J') → P (.inl (none)) (hX X I' J') → am_E (gG L xs) (d + 3) m_Translator_loop (0, lv_args 0 [.ref 3], []) (hX X I J) P) (hR_9 : ∀ {I : MI} {J : MJ} {v : Int32} {I' : MI} {J' : MJ} {P : am_R → am_H → Prop}, R 9 0 0 I J = some (v, I', J') → P (.inl (some (.int v))) (hX X I' J') → am_E (gG L xs) (d + 3) m_Translator_expression (0, lv_args 0 [.ref 3], []) (hX X I J) P) (hR_10 : ∀ {I : MI} {J : MJ} {v : Int32} {I' : MI} {J' : MJ} {P : am_R → am_H → Prop}, R 10 0 0 I J = some (v, I', J') → P (.inl (some (.int v))) (hX X I' J') → am_E (gG L xs) (d + 3) m_Translator_product (0, lv_args 0 [.ref 3], []) (hX X I J) P) (hR_11 : ∀ {I : MI} {J : MJ} {v : Int32} {I' : MI} {J' : MJ} {P : am_R → am_H → Prop}, R 11 0 0 I J = some (v, I', J') → P (.inl (some (.int v))) (hX X I' J') → am_E (gG L xs) (d + 3) m_Translator_factor (0, lv_args 0 [.ref 3], []) (hX X I J) P) (hR_12 : ∀ {I : MI} {J : MJ} {v : Int32} {I' : MI} {J' : MJ} {P : am_R → am_H → Prop}, R 12 0 0 I J = some (v, I', J') → P (.inl (some (.int v))) (hX X I' J') → am_E (gG L xs) (d + 3) m_Translator_atom (0, lv_args 0 [.ref 3], []) (hX X I J) P) (hR_13 : ∀ {I : MI} {J : MJ} {v : Int32} {I' : MI} {J' : MJ} {P : am_R → am_H → Prop}, R 13 0 0 I J = some (v, I', J') → P (.inl (none)) (hX X I' J') → am_E (gG L xs) (d + 3) m_Translator_index (0, lv_args 0 [.ref 3], []) (hX X I J) P) (hb : f_Translator_statement R  I J = some (v, I', J')) (K : P (.inl (some (.int v))) (hX X I' J')) : am_E (gG L xs) (d + 4) m_Translator_statement (0, lv_args 0 [.ref 3], []) (hX X I J) P := by
  unfold f_Translator_statement at hb
  refine e_k 1 (f' := (1, [(0, .ref 3)], [.ref 3])) rfl ?_
  obtain ⟨v1, I1, J1, h1, hb⟩ := oc_call hb
  refine r_cv (z := m_Translator_look) (As := []) (rest := []) rfl rfl rfl rfl rfl (x_ltn rfl) rfl rfl (E_Translator_look  h1 ⟨_, rfl, ?_⟩)
  refine e_k 2 (f' := (6, [(1, .int v1), (0, .ref 3)], [.int v1])) rfl ?_
  obtain ⟨v2, I2, J2, h2, hb⟩ := oc_call hb
  refine r_cs (z := m_Translator_isVariable) (As := [.int v1]) (rest := []) rfl rfl rfl rfl rfl rfl (E_Translator_isVariable  h2 ⟨_, rfl, ?_⟩)
  refine e_k 1 (f' := (if v2 = 0 then 27 else 12, [(1, .int v1), (0, .ref 3)], [])) rfl ?_
  refine e_if (fun c3 => ?_) (fun c3 => ?_)
  · replace hb := i_pos c3 hb
    refine e_k 1 (f' := (28, [(1, .int v1), (0, .ref 3)], [.int v1])) rfl ?_
    obtain ⟨v4, I4, J4, h4, hb⟩ := oc_call hb
    refine r_cs (z := m_Translator_isArray) (As := [.int v1]) (rest := []) rfl rfl rfl rfl rfl rfl (E_Translator_isArray  h4 ⟨_, rfl, ?_⟩)
    refine e_k 1 (f' := (if v4 = 0 then 49 else 34, [(1, .int v1), (0, .ref 3)], [])) rfl ?_
    refine e_if (fun c5 => ?_) (fun c5 => ?_)
    · replace hb := i_pos c5 hb
      refine e_k 3 (f' := (if ¬ v1 = 62 then 62 else 55, [(1, .int v1), (0, .ref 3)], [])) rfl ?_
      refine e_if (fun c6 => ?_) (fun c6 => ?_)
      · replace hb := i_pos c6 hb
        refine e_k 3 (f' := (if ¬ v1 = 64 then 79 else 68, [(1, .int v1), (0, .ref 3)], [])) rfl ?_
        refine e_if (fun c7 => ?_) (fun c7 => ?_)
        · replace hb := i_pos c7 hb
          refine e_k 3 (f' := (if ¬ v1 = 63 then 92 else 85, [(1, .int v1), (0, .ref 3)], [])) rfl ?_
          refine e_if (fun c8 => ?_) (fun c8 => ?_)
          · replace hb := i_pos c8 hb
            refine e_k 3 (f' := (if ¬ v1 = 42 then 105 else 98, [(1, .int v1), (0, .ref 3)], [])) rfl ?_
            refine e_if (fun c9 => ?_) (fun c9 => ?_)
            · replace hb := i_pos c9 hb
              refine e_k 1 (f' := (106, [(1, .int v1), (0, .ref 3)], [.int 0])) rfl ?_
              obtain ⟨rfl, rfl, rfl⟩ := s_inj hb
              exact e_r rfl rfl K
            · replace hb := i_neg c9 hb
              refine e_k 1 (f' := (99, [(1, .int v1), (0, .ref 3)], [.ref 3])) rfl ?_
              obtain ⟨v10, I10, J10, h10, hb⟩ := oc_call hb
              refine r_cv (z := m_Translator_loop) (As := []) (rest := []) rfl rfl rfl rfl rfl (x_ltn rfl) rfl rfl (hR_8  h10 ⟨_, rfl, ?_⟩)
              refine e_k 2 (f' := (108, [(1, .int v1), (0, .ref 3)], [.int 1])) rfl ?_
              obtain ⟨rfl, rfl, rfl⟩ := s_inj hb
              exact e_r rfl rfl K
          · replace hb := i_neg c8 hb
            refine e_k 1 (f' := (86, [(1, .int v1), (0, .ref 3)], [.ref 3])) rfl ?_
            obtain ⟨v11, I11, J11, h11, hb⟩ := oc_call hb
            refine r_cv (z := m_Translator_choice) (As := []) (rest := []) rfl rfl rfl rfl rfl (x_ltn rfl) rfl rfl (hR_7  h11 ⟨_, rfl, ?_⟩)
            refine e_k 2 (f' := (108, [(1, .int v1), (0, .ref 3)], [.int 1])) rfl ?_
            obtain ⟨rfl, rfl, rfl⟩ := s_inj hb
            exact e_r rfl rfl K
        · replace hb := i_neg c7 hb
          refine e_k 2 (f' := (70, [(1, .int v1), (0, .ref 3)], [.ref 3, .ref 3])) rfl ?_
          refine r_geti rfl (x_ltn rfl) rfl rfl ?_
          obtain ⟨v12, I12, J12, h12, hb⟩ := oc_call hb
          refine r_cv (z := m_Translator_routine) (As := [.int (I4 3 5)]) (rest := []) rfl rfl rfl rfl rfl (x_ltn rfl) rfl rfl (hR_5  h12 ⟨_, rfl, ?_⟩)
          refine e_k 2 (f' := (108, [(1, .int v1), (0, .ref 3)], [.int 1])) rfl ?_
          obtain ⟨rfl, rfl, rfl⟩ := s_inj hb
          exact e_r rfl rfl K
      · replace hb := i_neg c6 hb
        refine e_k 1 (f' := (56, [(1, .int v1), (0, .ref 3)], [.ref 3])) rfl ?_
        obtain ⟨v13, I13, J13, h13, hb⟩ := oc_call hb
        refine r_cv (z := m_Translator_show) (As := []) (rest := []) rfl rfl rfl rfl rfl (x_ltn rfl) rfl rfl (E_Translator_show  h13 ⟨_, rfl, ?_⟩)
        refine e_k 2 (f' := (108, [(1, .int v1), (0, .ref 3)], [.int 1])) rfl ?_
        obtain ⟨rfl, rfl, rfl⟩ := s_inj hb
        exact e_r rfl rfl K
    · replace hb := i_neg c5 hb
      refine e_k 5 (f' := (40, [(1, .int v1), (0, .ref 3)], [.ref 3, .int (v1 - 65), .ref 3])) rfl ?_
      refine r_geti rfl (x_ltn rfl) rfl rfl ?_
      obtain ⟨v14, I14, J14, h14, hb⟩ := oc_call hb
      refine r_cv (z := m_Translator_arrayStatement) (As := [.int (v1 - 65), .int (I4 3 5)]) (rest := []) rfl rfl rfl rfl rfl (x_ltn rfl) rfl rfl (hR_4  h14 ⟨_, rfl, ?_⟩)
      refine e_k 2 (f' := (108, [(1, .int v1), (0, .ref 3)], [.int 1])) rfl ?_
      obtain ⟨rfl, rfl, rfl⟩ := s_inj hb
      exact e_r rfl rfl K
  · replace hb := i_neg c3 hb
    refine e_k 5 (f' := (18, [(1, .int v1), (0, .ref 3)], [.ref 3, .int (v1 - 97), .ref 3])) rfl ?_
    refine r_geti rfl (x_ltn rfl) rfl rfl ?_
    obtain ⟨v15, I15, J15, h15, hb⟩ := oc_call hb
    refine r_cv (z := m_Translator_variableStatement) (As := [.int (v1 - 97), .int (I2 3 5)]) (rest := []) rfl rfl rfl rfl rfl (x_ltn rfl) rfl rfl (hR_2  h15 ⟨_, rfl, ?_⟩)
    refine e_k 2 (f' := (108, [(1, .int v1), (0, .ref 3)], [.int 1])) rfl ?_
    obtain ⟨rfl, rfl, rfl⟩ := s_inj hb
    exact e_r rfl rfl K
theorem E_Translator_variableStatement {R : M3} {p2 : Int32} {p3 : Int32} {X : MX} {I : MI} {J : MJ} {v : Unit} {I' : MI} {J' : MJ} (hR_0 : ∀ {I : MI} {J : MJ} {v : Int32} {I' : MI} {J' : MJ} {P : am_R → am_H → Prop}, R 0 0 0 I J = some (v, I', J') → P (.inl (none)) (hX X I' J') → am_E (gG L xs) (d + 3) m_Translator_statements (0, lv_args 0 [.ref 3], []) (hX X I J) P) (hR_1 : ∀ {I : MI} {J : MJ} {v : Int32} {I' : MI} {J' : MJ} {P : am_R → am_H → Prop}, R 1 0 0 I J = some (v, I', J') → P (.inl (some (.int v))) (hX X I' J') → am_E (gG L xs) (d + 3) m_Translator_statement (0, lv_args 0 [.ref 3], []) (hX X I J) P) (hR_2 : ∀ {a0 : Int32} {a1 : Int32} {I : MI} {J : MJ} {v : Int32} {I' : MI} {J' : MJ} {P : am_R → am_H → Prop}, R 2 a0 a1 I J = some (v, I', J') → P (.inl (none)) (hX X I' J') → am_E (gG L xs) (d + 3) m_Translator_variableStatement (0, lv_args 0 [.ref 3, .int a0, .int a1], []) (hX X I J) P) (hR_3 : ∀ {a0 : Int32} {a1 : Int32} {I : MI} {J : MJ} {v : Int32} {I' : MI} {J' : MJ} {P : am_R → am_H → Prop}, R 3 a0 a1 I J = some (v, I', J') → P (.inl (none)) (hX X I' J') → am_E (gG L xs) (d + 3) m_Translator_assign (0, lv_args 0 [.ref 3, .int a0, .int a1], []) (hX X I J) P) (hR_4 : ∀ {a0 : Int32} {a1 : Int32} {I : MI} {J : MJ} {v : Int32} {I' : MI} {J' : MJ} {P : am_R → am_H → Prop}, R 4 a0 a1 I J = some (v, I', J') → P (.inl (none)) (hX X I' J') → am_E (gG L xs) (d + 3) m_Translator_arrayStatement (0, lv_args 0 [.ref 3, .int a0, .int a1], []) (hX X I J) P) (hR_5 : ∀ {a0 : Int32} {I : MI} {J : MJ} {v : Int32} {I' : MI} {J' : MJ} {P : am_R → am_H → Prop}, R 5 a0 0 I J = some (v, I', J') → P (.inl (none)) (hX X I' J') → am_E (gG L xs) (d + 3) m_Translator_routine (0, lv_args 0 [.ref 3, .int a0], []) (hX X I J) P) (hR_6 : ∀ {a0 : Int32} {a1 : Int32} {I : MI} {J : MJ} {v : Int32} {I' : MI} {J' : MJ} {P : am_R → am_H → Prop}, R 6 a0 a1 I J = some (v, I', J') → P (.inl (none)) (hX X I' J') → am_E (gG L xs) (d + 3) m_Translator_tell (0, lv_args 0 [.ref 3, .int a0, .int a1], []) (hX X I J) P) (hR_7 : ∀ {I : MI} {J : MJ} {v : Int32} {I' : MI} {J' : MJ} {P : am_R → am_H → Prop}, R 7 0 0 I J = some (v, I', J') → P (.inl (none)) (hX X I' J') → am_E (gG L xs) (d + 3) m_Translator_choice (0, lv_args 0 [.ref 3], []) (hX X I J) P) (hR_8 : ∀ {I : MI} {J : MJ} {v : Int32} {I' : MI} {J' : MJ} {P : am_R → am_H → Prop}, R 8 0 0 I J = some (v, I', J') → P (.inl (none)) (hX X I' J') → am_E (gG L xs) (d + 3) m_Translator_loop (0, lv_args 0 [.ref 3], []) (hX X I J) P) (hR_9 : ∀ {I : MI} {J : MJ} {v : Int32} {I' : MI} {J' : MJ} {P : am_R → am_H → Prop}, R 9 0 0 I J = some (v, I', J') → P (.inl (some (.int v))) (hX X I' J') → am_E (gG L xs) (d + 3) m_Translator_expression (0, lv_args 0 [.ref 3], []) (hX X I J) P) (hR_10 : ∀ {I : MI} {J : MJ} {v : Int32} {I' : MI} {J' : MJ} {P : am_R → am_H → Prop}, R 10 0 0 I J = some (v, I', J') → P (.inl (some (.int v))) (hX X I' J') → am_E (gG L xs) (d + 3) m_Translator_product (0, lv_args 0 [.ref 3], []) (hX X I J) P) (hR_11 : ∀ {I : MI} {J : MJ} {v : Int32} {I' : MI} {J' : MJ} {P : am_R → am_H → Prop}, R 11 0 0 I J = some (v, I', J') → P (.inl (some (.int v))) (hX X I' J') → am_E (gG L xs) (d + 3) m_Translator_factor (0, lv_args 0 [.ref 3], []) (hX X I J) P) (hR_12 : ∀ {I : MI} {J : MJ} {v : Int32} {I' : MI} {J' : MJ} {P : am_R → am_H → Prop}, R 12 0 0 I J = some (v, I', J') → P (.inl (some (.int v))) (hX X I' J') → am_E (gG L xs) (d + 3) m_Translator_atom (0, lv_args 0 [.ref 3], []) (hX X I J) P) (hR_13 : ∀ {I : MI} {J : MJ} {v : Int32} {I' : MI} {J' : MJ} {P : am_R → am_H → Prop}, R 13 0 0 I J = some (v, I', J') → P (.inl (none)) (hX X I' J') → am_E (gG L xs) (d + 3) m_Translator_index (0, lv_args 0 [.ref 3], []) (hX X I J) P) (hb : f_Translator_variableStatement R p2 p3 I J = some (v, I', J')) (K : P (.inl (none)) (hX X I' J')) : am_E (gG L xs) (d + 4) m_Translator_variableStatement (0, lv_args 0 [.ref 3, .int p2, .int p3], []) (hX X I J) P := by
  unfold f_Translator_variableStatement at hb
  refine e_k 1 (f' := (1, [(0, .ref 3), (1, .int p2), (2, .int p3)], [.ref 3])) rfl ?_
  obtain ⟨v1, I1, J1, h1, hb⟩ := oc_call hb
  refine r_cv (z := m_Translator_pass) (As := []) (rest := []) rfl rfl rfl rfl rfl (x_ltn rfl) rfl rfl (E_Translator_pass  h1 ⟨_, rfl, ?_⟩)
  refine e_k 1 (f' := (5, [(0, .ref 3), (1, .int p2), (2, .int p3)], [.ref 3])) rfl ?_
  obtain ⟨v2, I2, J2, h2, hb⟩ := oc_call hb
  refine r_cv (z := m_Translator_look) (As := []) (rest := []) rfl rfl rfl rfl rfl (x_ltn rfl) rfl rfl (E_Translator_look  h2 ⟨_, rfl, ?_⟩)
  refine e_k 4 (f' := (if ¬ v2 = 61 then 28 else 15, [(3, .int v2), (0, .ref 3), (1, .int p2), (2, .int p3)], [])) rfl ?_
  refine e_if (fun c3 => ?_) (fun c3 => ?_)
  · replace hb := i_pos c3 hb
    refine e_k 3 (f' := (if ¬ v2 = 60 then 47 else 34, [(3, .int v2), (0, .ref 3), (1, .int p2), (2, .int p3)], [])) rfl ?_
    refine e_if (fun c4 => ?_) (fun c4 => ?_)
    · replace hb := i_pos c4 hb
      refine e_k 3 (f' := (if ¬ v2 = 58 then 66 else 53, [(3, .int v2), (0, .ref 3), (1, .int p2), (2, .int p3)], [])) rfl ?_
      refine e_if (fun c5 => ?_) (fun c5 => ?_)
      · replace hb := i_pos c5 hb
        refine e_k 3 (f' := (if ¬ v2 = 33 then 103 else 72, [(3, .int v2), (0, .ref 3), (1, .int p2), (2, .int p3)], [])) rfl ?_
        refine e_if (fun c6 => ?_) (fun c6 => ?_)
        · replace hb := i_pos c6 hb
          refine e_k 1 (f' := (104, [(3, .int v2), (0, .ref 3), (1, .int p2), (2, .int p3)], [.ref 3])) rfl ?_
          obtain ⟨v7, I7, J7, h7, hb⟩ := oc_call hb
          refine r_cv (z := m_Translator_refuse) (As := []) (rest := []) rfl rfl rfl rfl rfl (x_ltn rfl) rfl rfl (E_Translator_refuse  h7 ⟨_, rfl, ?_⟩)
          obtain ⟨rfl, rfl, rfl⟩ := s_inj hb
          exact e_r rfl rfl K
        · replace hb := i_neg c6 hb
          refine e_k 1 (f' := (73, [(3, .int v2), (0, .ref 3), (1, .int p2), (2, .int p3)], [.ref 3])) rfl ?_
          obtain ⟨v8, I8, J8, h8, hb⟩ := oc_call hb
          refine r_cv (z := m_Translator_pass) (As := []) (rest := []) rfl rfl rfl rfl rfl (x_ltn rfl) rfl rfl (E_Translator_pass  h8 ⟨_, rfl, ?_⟩)
          refine e_k 2 (f' := (79, [(3, .int v2), (0, .ref 3), (1, .int p2), (2, .int p3)], [.int 59, .ref 3])) rfl ?_
          obtain ⟨v9, I9, J9, h9, hb⟩ := oc_call hb
          refine r_cv (z := m_Translator_expect) (As := [.int 59]) (rest := []) rfl rfl rfl rfl rfl (x_ltn rfl) rfl rfl (E_Translator_expect  h9 ⟨_, rfl, ?_⟩)
          refine e_k 3 (f' := (85, [(3, .int v2), (0, .ref 3), (1, .int p2), (2, .int p3)], [.int p3, .int p2, .ref 3])) rfl ?_
          obtain ⟨v10, I10, J10, h10, hb⟩ := oc_call hb
          refine r_cv (z := m_Translator_wantSecret) (As := [.int p2, .int p3]) (rest := []) rfl rfl rfl rfl rfl (x_ltn rfl) rfl rfl (E_Translator_wantSecret  h10 ⟨_, rfl, ?_⟩)
          refine e_k 7 (f' := (97, [(3, .int v2), (0, .ref 3), (1, .int p2), (2, .int p3)], [.int 0, .int 0, .int (p2 - 13), .int 27, .ref 3])) rfl ?_
          obtain ⟨v11, I11, J11, h11, hb⟩ := oc_call hb
          refine r_cv (z := m_Translator_emit) (As := [.int 27, .int (p2 - 13), .int 0, .int 0]) (rest := []) rfl rfl rfl rfl rfl (x_ltn rfl) rfl rfl (E_Translator_emit  h11 ⟨_, rfl, ?_⟩)
          refine e_k 1 (f' := (107, [(3, .int v2), (0, .ref 3), (1, .int p2), (2, .int p3)], [])) rfl ?_
          obtain ⟨rfl, rfl, rfl⟩ := s_inj hb
          exact e_r rfl rfl K
      · replace hb := i_neg c5 hb
        refine e_k 1 (f' := (54, [(3, .int v2), (0, .ref 3), (1, .int p2), (2, .int p3)], [.ref 3])) rfl ?_
        obtain ⟨v12, I12, J12, h12, hb⟩ := oc_call hb
        refine r_cv (z := m_Translator_pass) (As := []) (rest := []) rfl rfl rfl rfl rfl (x_ltn rfl) rfl rfl (E_Translator_pass  h12 ⟨_, rfl, ?_⟩)
        refine e_k 3 (f' := (60, [(3, .int v2), (0, .ref 3), (1, .int p2), (2, .int p3)], [.int p3, .int p2, .ref 3])) rfl ?_
        obtain ⟨v13, I13, J13, h13, hb⟩ := oc_call hb
        refine r_cv (z := m_Translator_opening) (As := [.int p2, .int p3]) (rest := []) rfl rfl rfl rfl rfl (x_ltn rfl) rfl rfl (E_Translator_opening  h13 ⟨_, rfl, ?_⟩)
        refine e_k 1 (f' := (107, [(3, .int v2), (0, .ref 3), (1, .int p2), (2, .int p3)], [])) rfl ?_
        obtain ⟨rfl, rfl, rfl⟩ := s_inj hb
        exact e_r rfl rfl K
    · replace hb := i_neg c4 hb
      refine e_k 1 (f' := (35, [(3, .int v2), (0, .ref 3), (1, .int p2), (2, .int p3)], [.ref 3])) rfl ?_
      obtain ⟨v14, I14, J14, h14, hb⟩ := oc_call hb
      refine r_cv (z := m_Translator_pass) (As := []) (rest := []) rfl rfl rfl rfl rfl (x_ltn rfl) rfl rfl (E_Translator_pass  h14 ⟨_, rfl, ?_⟩)
      refine e_k 3 (f' := (41, [(3, .int v2), (0, .ref 3), (1, .int p2), (2, .int p3)], [.int p3, .int p2, .ref 3])) rfl ?_
      obtain ⟨v15, I15, J15, h15, hb⟩ := oc_call hb
      refine r_cv (z := m_Translator_input) (As := [.int p2, .int p3]) (rest := []) rfl rfl rfl rfl rfl (x_ltn rfl) rfl rfl (E_Translator_input  h15 ⟨_, rfl, ?_⟩)
      refine e_k 1 (f' := (107, [(3, .int v2), (0, .ref 3), (1, .int p2), (2, .int p3)], [])) rfl ?_
      obtain ⟨rfl, rfl, rfl⟩ := s_inj hb
      exact e_r rfl rfl K
  · replace hb := i_neg c3 hb
    refine e_k 1 (f' := (16, [(3, .int v2), (0, .ref 3), (1, .int p2), (2, .int p3)], [.ref 3])) rfl ?_
    obtain ⟨v16, I16, J16, h16, hb⟩ := oc_call hb
    refine r_cv (z := m_Translator_pass) (As := []) (rest := []) rfl rfl rfl rfl rfl (x_ltn rfl) rfl rfl (E_Translator_pass  h16 ⟨_, rfl, ?_⟩)
    refine e_k 3 (f' := (22, [(3, .int v2), (0, .ref 3), (1, .int p2), (2, .int p3)], [.int p3, .int p2, .ref 3])) rfl ?_
    obtain ⟨v17, I17, J17, h17, hb⟩ := oc_call hb
    refine r_cv (z := m_Translator_assign) (As := [.int p2, .int p3]) (rest := []) rfl rfl rfl rfl rfl (x_ltn rfl) rfl rfl (hR_3  h17 ⟨_, rfl, ?_⟩)
    refine e_k 1 (f' := (107, [(3, .int v2), (0, .ref 3), (1, .int p2), (2, .int p3)], [])) rfl ?_
    obtain ⟨rfl, rfl, rfl⟩ := s_inj hb
    exact e_r rfl rfl K
theorem E_Translator_arrayStatement {R : M3} {p2 : Int32} {p3 : Int32} {X : MX} {I : MI} {J : MJ} {v : Unit} {I' : MI} {J' : MJ} (hR_0 : ∀ {I : MI} {J : MJ} {v : Int32} {I' : MI} {J' : MJ} {P : am_R → am_H → Prop}, R 0 0 0 I J = some (v, I', J') → P (.inl (none)) (hX X I' J') → am_E (gG L xs) (d + 3) m_Translator_statements (0, lv_args 0 [.ref 3], []) (hX X I J) P) (hR_1 : ∀ {I : MI} {J : MJ} {v : Int32} {I' : MI} {J' : MJ} {P : am_R → am_H → Prop}, R 1 0 0 I J = some (v, I', J') → P (.inl (some (.int v))) (hX X I' J') → am_E (gG L xs) (d + 3) m_Translator_statement (0, lv_args 0 [.ref 3], []) (hX X I J) P) (hR_2 : ∀ {a0 : Int32} {a1 : Int32} {I : MI} {J : MJ} {v : Int32} {I' : MI} {J' : MJ} {P : am_R → am_H → Prop}, R 2 a0 a1 I J = some (v, I', J') → P (.inl (none)) (hX X I' J') → am_E (gG L xs) (d + 3) m_Translator_variableStatement (0, lv_args 0 [.ref 3, .int a0, .int a1], []) (hX X I J) P) (hR_3 : ∀ {a0 : Int32} {a1 : Int32} {I : MI} {J : MJ} {v : Int32} {I' : MI} {J' : MJ} {P : am_R → am_H → Prop}, R 3 a0 a1 I J = some (v, I', J') → P (.inl (none)) (hX X I' J') → am_E (gG L xs) (d + 3) m_Translator_assign (0, lv_args 0 [.ref 3, .int a0, .int a1], []) (hX X I J) P) (hR_4 : ∀ {a0 : Int32} {a1 : Int32} {I : MI} {J : MJ} {v : Int32} {I' : MI} {J' : MJ} {P : am_R → am_H → Prop}, R 4 a0 a1 I J = some (v, I', J') → P (.inl (none)) (hX X I' J') → am_E (gG L xs) (d + 3) m_Translator_arrayStatement (0, lv_args 0 [.ref 3, .int a0, .int a1], []) (hX X I J) P) (hR_5 : ∀ {a0 : Int32} {I : MI} {J : MJ} {v : Int32} {I' : MI} {J' : MJ} {P : am_R → am_H → Prop}, R 5 a0 0 I J = some (v, I', J') → P (.inl (none)) (hX X I' J') → am_E (gG L xs) (d + 3) m_Translator_routine (0, lv_args 0 [.ref 3, .int a0], []) (hX X I J) P) (hR_6 : ∀ {a0 : Int32} {a1 : Int32} {I : MI} {J : MJ} {v : Int32} {I' : MI} {J' : MJ} {P : am_R → am_H → Prop}, R 6 a0 a1 I J = some (v, I', J') → P (.inl (none)) (hX X I' J') → am_E (gG L xs) (d + 3) m_Translator_tell (0, lv_args 0 [.ref 3, .int a0, .int a1], []) (hX X I J) P) (hR_7 : ∀ {I : MI} {J : MJ} {v : Int32} {I' : MI} {J' : MJ} {P : am_R → am_H → Prop}, R 7 0 0 I J = some (v, I', J') → P (.inl (none)) (hX X I' J') → am_E (gG L xs) (d + 3) m_Translator_choice (0, lv_args 0 [.ref 3], []) (hX X I J) P) (hR_8 : ∀ {I : MI} {J : MJ} {v : Int32} {I' : MI} {J' : MJ} {P : am_R → am_H → Prop}, R 8 0 0 I J = some (v, I', J') → P (.inl (none)) (hX X I' J') → am_E (gG L xs) (d + 3) m_Translator_loop (0, lv_args 0 [.ref 3], []) (hX X I J) P) (hR_9 : ∀ {I : MI} {J : MJ} {v : Int32} {I' : MI} {J' : MJ} {P : am_R → am_H → Prop}, R 9 0 0 I J = some (v, I', J') → P (.inl (some (.int v))) (hX X I' J') → am_E (gG L xs) (d + 3) m_Translator_expression (0, lv_args 0 [.ref 3], []) (hX X I J) P) (hR_10 : ∀ {I : MI} {J : MJ} {v : Int32} {I' : MI} {J' : MJ} {P : am_R → am_H → Prop}, R 10 0 0 I J = some (v, I', J') → P (.inl (some (.int v))) (hX X I' J') → am_E (gG L xs) (d + 3) m_Translator_product (0, lv_args 0 [.ref 3], []) (hX X I J) P) (hR_11 : ∀ {I : MI} {J : MJ} {v : Int32} {I' : MI} {J' : MJ} {P : am_R → am_H → Prop}, R 11 0 0 I J = some (v, I', J') → P (.inl (some (.int v))) (hX X I' J') → am_E (gG L xs) (d + 3) m_Translator_factor (0, lv_args 0 [.ref 3], []) (hX X I J) P) (hR_12 : ∀ {I : MI} {J : MJ} {v : Int32} {I' : MI} {J' : MJ} {P : am_R → am_H → Prop}, R 12 0 0 I J = some (v, I', J') → P (.inl (some (.int v))) (hX X I' J') → am_E (gG L xs) (d + 3) m_Translator_atom (0, lv_args 0 [.ref 3], []) (hX X I J) P) (hR_13 : ∀ {I : MI} {J : MJ} {v : Int32} {I' : MI} {J' : MJ} {P : am_R → am_H → Prop}, R 13 0 0 I J = some (v, I', J') → P (.inl (none)) (hX X I' J') → am_E (gG L xs) (d + 3) m_Translator_index (0, lv_args 0 [.ref 3], []) (hX X I J) P) (hb : f_Translator_arrayStatement R p2 p3 I J = some (v, I', J')) (K : P (.inl (none)) (hX X I' J')) : am_E (gG L xs) (d + 4) m_Translator_arrayStatement (0, lv_args 0 [.ref 3, .int p2, .int p3], []) (hX X I J) P := by
  unfold f_Translator_arrayStatement at hb
  refine e_k 1 (f' := (1, [(0, .ref 3), (1, .int p2), (2, .int p3)], [.ref 3])) rfl ?_
  obtain ⟨v1, I1, J1, h1, hb⟩ := oc_call hb
  refine r_cv (z := m_Translator_pass) (As := []) (rest := []) rfl rfl rfl rfl rfl (x_ltn rfl) rfl rfl (E_Translator_pass  h1 ⟨_, rfl, ?_⟩)
  refine e_k 1 (f' := (5, [(0, .ref 3), (1, .int p2), (2, .int p3)], [.ref 3])) rfl ?_
  obtain ⟨v2, I2, J2, h2, hb⟩ := oc_call hb
  refine r_cv (z := m_Translator_look) (As := []) (rest := []) rfl rfl rfl rfl rfl (x_ltn rfl) rfl rfl (E_Translator_look  h2 ⟨_, rfl, ?_⟩)
  refine e_k 4 (f' := (if ¬ v2 = 91 then 65 else 15, [(3, .int v2), (0, .ref 3), (1, .int p2), (2, .int p3)], [])) rfl ?_
  refine e_if (fun c3 => ?_) (fun c3 => ?_)
  · replace hb := i_pos c3 hb
    refine e_k 3 (f' := (if ¬ v2 = 61 then 84 else 71, [(3, .int v2), (0, .ref 3), (1, .int p2), (2, .int p3)], [])) rfl ?_
    refine e_if (fun c4 => ?_) (fun c4 => ?_)
    · replace hb := i_pos c4 hb
      refine e_k 1 (f' := (85, [(3, .int v2), (0, .ref 3), (1, .int p2), (2, .int p3)], [.ref 3])) rfl ?_
      obtain ⟨v5, I5, J5, h5, hb⟩ := oc_call hb
      refine r_cv (z := m_Translator_refuse) (As := []) (rest := []) rfl rfl rfl rfl rfl (x_ltn rfl) rfl rfl (E_Translator_refuse  h5 ⟨_, rfl, ?_⟩)
      obtain ⟨rfl, rfl, rfl⟩ := s_inj hb
      exact e_r rfl rfl K
    · replace hb := i_neg c4 hb
      refine e_k 1 (f' := (72, [(3, .int v2), (0, .ref 3), (1, .int p2), (2, .int p3)], [.ref 3])) rfl ?_
      obtain ⟨v6, I6, J6, h6, hb⟩ := oc_call hb
      refine r_cv (z := m_Translator_pass) (As := []) (rest := []) rfl rfl rfl rfl rfl (x_ltn rfl) rfl rfl (E_Translator_pass  h6 ⟨_, rfl, ?_⟩)
      refine e_k 3 (f' := (78, [(3, .int v2), (0, .ref 3), (1, .int p2), (2, .int p3)], [.int p3, .int p2, .ref 3])) rfl ?_
      obtain ⟨v7, I7, J7, h7, hb⟩ := oc_call hb
      refine r_cv (z := m_Translator_arrayByArray) (As := [.int p2, .int p3]) (rest := []) rfl rfl rfl rfl rfl (x_ltn rfl) rfl rfl (E_Translator_arrayByArray  h7 ⟨_, rfl, ?_⟩)
      refine e_k 1 (f' := (88, [(3, .int v2), (0, .ref 3), (1, .int p2), (2, .int p3)], [])) rfl ?_
      obtain ⟨rfl, rfl, rfl⟩ := s_inj hb
      exact e_r rfl rfl K
  · replace hb := i_neg c3 hb
    refine e_k 1 (f' := (16, [(3, .int v2), (0, .ref 3), (1, .int p2), (2, .int p3)], [.ref 3])) rfl ?_
    obtain ⟨v8, I8, J8, h8, hb⟩ := oc_call hb
    refine r_cv (z := m_Translator_index) (As := []) (rest := []) rfl rfl rfl rfl rfl (x_ltn rfl) rfl rfl (hR_13  h8 ⟨_, rfl, ?_⟩)
    refine e_k 2 (f' := (22, [(3, .int v2), (0, .ref 3), (1, .int p2), (2, .int p3)], [.int 61, .ref 3])) rfl ?_
    obtain ⟨v9, I9, J9, h9, hb⟩ := oc_call hb
    refine r_cv (z := m_Translator_expect) (As := [.int 61]) (rest := []) rfl rfl rfl rfl rfl (x_ltn rfl) rfl rfl (E_Translator_expect  h9 ⟨_, rfl, ?_⟩)
    refine e_k 1 (f' := (26, [(3, .int v2), (0, .ref 3), (1, .int p2), (2, .int p3)], [.ref 3])) rfl ?_
    obtain ⟨v10, I10, J10, h10, hb⟩ := oc_call hb
    refine r_cv (z := m_Translator_expression) (As := []) (rest := []) rfl rfl rfl rfl rfl (x_ltn rfl) rfl rfl (hR_9  h10 ⟨_, rfl, ?_⟩)
    refine e_k 3 (f' := (34, [(4, .int v10), (3, .int v2), (0, .ref 3), (1, .int p2), (2, .int p3)], [.int 59, .ref 3])) rfl ?_
    obtain ⟨v11, I11, J11, h11, hb⟩ := oc_call hb
    refine r_cv (z := m_Translator_expect) (As := [.int 59]) (rest := []) rfl rfl rfl rfl rfl (x_ltn rfl) rfl rfl (E_Translator_expect  h11 ⟨_, rfl, ?_⟩)
    refine e_k 3 (f' := (if 4 ≤ p2 then 53 else 42, [(4, .int v10), (3, .int v2), (0, .ref 3), (1, .int p2), (2, .int p3)], [])) rfl ?_
    obtain ⟨v13, I13, J13, h13, hb⟩ := oc_call hb
    have Kj13 : am_E (gG L xs) (d + 4) m_Translator_arrayStatement (53, [(0, .ref 3), (1, .int p2)], []) (hX X I13 J13) P := by
      refine e_k 4 (f' := (59, [(0, .ref 3), (1, .int p2)], [.int 22, .int 21, .int p2, .ref 3])) rfl ?_
      obtain ⟨v17, I17, J17, h17, hb⟩ := oc_call hb
      refine r_cv (z := m_Translator_emitPlace) (As := [.int p2, .int 21, .int 22]) (rest := []) rfl rfl rfl rfl rfl (x_ltn rfl) rfl rfl (E_Translator_emitPlace  h17 ⟨_, rfl, ?_⟩)
      refine e_k 1 (f' := (88, [(0, .ref 3), (1, .int p2)], [])) rfl ?_
      obtain ⟨rfl, rfl, rfl⟩ := s_inj hb
      exact e_r rfl rfl K
    clear hb
    refine e_if (fun c14 => ?_) (fun c14 => ?_)
    · replace h13 := i_pos c14 h13
      refine e_sub (ls := [(0, .ref 3), (1, .int p2)]) rfl ⟨rfl, rfl, trivial⟩ ?_
      obtain ⟨rfl, rfl, rfl⟩ := s_inj h13
      exact Kj13
    · replace h13 := i_neg c14 h13
      refine e_k 2 (f' := (if v10 = 0 then 53 else 47, [(4, .int v10), (3, .int v2), (0, .ref 3), (1, .int p2), (2, .int p3)], [])) rfl ?_
      refine e_if (fun c15 => ?_) (fun c15 => ?_)
      · replace h13 := i_pos c15 h13
        refine e_sub (ls := [(0, .ref 3), (1, .int p2)]) rfl ⟨rfl, rfl, trivial⟩ ?_
        obtain ⟨rfl, rfl, rfl⟩ := s_inj h13
        exact Kj13
      · replace h13 := i_neg c15 h13
        refine e_k 3 (f' := (50, [(4, .int v10), (3, .int v2), (0, .ref 3), (1, .int p2), (2, .int p3)], [.int p3, .int 3, .ref 3])) rfl ?_
        obtain ⟨v16, I16, J16, h16, h13⟩ := oc_call h13
        refine r_cv (z := m_Translator_blame) (As := [.int 3, .int p3]) (rest := []) rfl rfl rfl rfl rfl (x_ltn rfl) rfl rfl (E_Translator_blame  h16 ⟨_, rfl, ?_⟩)
        refine e_sub (ls := [(0, .ref 3), (1, .int p2)]) rfl ⟨rfl, rfl, trivial⟩ ?_
        obtain ⟨rfl, rfl, rfl⟩ := s_inj h13
        exact Kj13
theorem E_Translator_choice {R : M3} {X : MX} {I : MI} {J : MJ} {v : Unit} {I' : MI} {J' : MJ} (hR_0 : ∀ {I : MI} {J : MJ} {v : Int32} {I' : MI} {J' : MJ} {P : am_R → am_H → Prop}, R 0 0 0 I J = some (v, I', J') → P (.inl (none)) (hX X I' J') → am_E (gG L xs) (d + 3) m_Translator_statements (0, lv_args 0 [.ref 3], []) (hX X I J) P) (hR_1 : ∀ {I : MI} {J : MJ} {v : Int32} {I' : MI} {J' : MJ} {P : am_R → am_H → Prop}, R 1 0 0 I J = some (v, I', J') → P (.inl (some (.int v))) (hX X I' J') → am_E (gG L xs) (d + 3) m_Translator_statement (0, lv_args 0 [.ref 3], []) (hX X I J) P) (hR_2 : ∀ {a0 : Int32} {a1 : Int32} {I : MI} {J : MJ} {v : Int32} {I' : MI} {J' : MJ} {P : am_R → am_H → Prop}, R 2 a0 a1 I J = some (v, I', J') → P (.inl (none)) (hX X I' J') → am_E (gG L xs) (d + 3) m_Translator_variableStatement (0, lv_args 0 [.ref 3, .int a0, .int a1], []) (hX X I J) P) (hR_3 : ∀ {a0 : Int32} {a1 : Int32} {I : MI} {J : MJ} {v : Int32} {I' : MI} {J' : MJ} {P : am_R → am_H → Prop}, R 3 a0 a1 I J = some (v, I', J') → P (.inl (none)) (hX X I' J') → am_E (gG L xs) (d + 3) m_Translator_assign (0, lv_args 0 [.ref 3, .int a0, .int a1], []) (hX X I J) P) (hR_4 : ∀ {a0 : Int32} {a1 : Int32} {I : MI} {J : MJ} {v : Int32} {I' : MI} {J' : MJ} {P : am_R → am_H → Prop}, R 4 a0 a1 I J = some (v, I', J') → P (.inl (none)) (hX X I' J') → am_E (gG L xs) (d + 3) m_Translator_arrayStatement (0, lv_args 0 [.ref 3, .int a0, .int a1], []) (hX X I J) P) (hR_5 : ∀ {a0 : Int32} {I : MI} {J : MJ} {v : Int32} {I' : MI} {J' : MJ} {P : am_R → am_H → Prop}, R 5 a0 0 I J = some (v, I', J') → P (.inl (none)) (hX X I' J') → am_E (gG L xs) (d + 3) m_Translator_routine (0, lv_args 0 [.ref 3, .int a0], []) (hX X I J) P) (hR_6 : ∀ {a0 : Int32} {a1 : Int32} {I : MI} {J : MJ} {v : Int32} {I' : MI} {J' : MJ} {P : am_R → am_H → Prop}, R 6 a0 a1 I J = some (v, I', J') → P (.inl (none)) (hX X I' J') → am_E (gG L xs) (d + 3) m_Translator_tell (0, lv_args 0 [.ref 3, .int a0, .int a1], []) (hX X I J) P) (hR_7 : ∀ {I : MI} {J : MJ} {v : Int32} {I' : MI} {J' : MJ} {P : am_R → am_H → Prop}, R 7 0 0 I J = some (v, I', J') → P (.inl (none)) (hX X I' J') → am_E (gG L xs) (d + 3) m_Translator_choice (0, lv_args 0 [.ref 3], []) (hX X I J) P) (hR_8 : ∀ {I : MI} {J : MJ} {v : Int32} {I' : MI} {J' : MJ} {P : am_R → am_H → Prop}, R 8 0 0 I J = some (v, I', J') → P (.inl (none)) (hX X I' J') → am_E (gG L xs) (d + 3) m_Translator_loop (0, lv_args 0 [.ref 3], []) (hX X I J) P) (hR_9 : ∀ {I : MI} {J : MJ} {v : Int32} {I' : MI} {J' : MJ} {P : am_R → am_H → Prop}, R 9 0 0 I J = some (v, I', J') → P (.inl (some (.int v))) (hX X I' J') → am_E (gG L xs) (d + 3) m_Translator_expression (0, lv_args 0 [.ref 3], []) (hX X I J) P) (hR_10 : ∀ {I : MI} {J : MJ} {v : Int32} {I' : MI} {J' : MJ} {P : am_R → am_H → Prop}, R 10 0 0 I J = some (v, I', J') → P (.inl (some (.int v))) (hX X I' J') → am_E (gG L xs) (d + 3) m_Translator_product (0, lv_args 0 [.ref 3], []) (hX X I J) P) (hR_11 : ∀ {I : MI} {J : MJ} {v : Int32} {I' : MI} {J' : MJ} {P : am_R → am_H → Prop}, R 11 0 0 I J = some (v, I', J') → P (.inl (some (.int v))) (hX X I' J') → am_E (gG L xs) (d + 3) m_Translator_factor (0, lv_args 0 [.ref 3], []) (hX X I J) P) (hR_12 : ∀ {I : MI} {J : MJ} {v : Int32} {I' : MI} {J' : MJ} {P : am_R → am_H → Prop}, R 12 0 0 I J = some (v, I', J') → P (.inl (some (.int v))) (hX X I' J') → am_E (gG L xs) (d + 3) m_Translator_atom (0, lv_args 0 [.ref 3], []) (hX X I J) P) (hR_13 : ∀ {I : MI} {J : MJ} {v : Int32} {I' : MI} {J' : MJ} {P : am_R → am_H → Prop}, R 13 0 0 I J = some (v, I', J') → P (.inl (none)) (hX X I' J') → am_E (gG L xs) (d + 3) m_Translator_index (0, lv_args 0 [.ref 3], []) (hX X I J) P) (hb : f_Translator_choice R  I J = some (v, I', J')) (K : P (.inl (none)) (hX X I' J')) : am_E (gG L xs) (d + 4) m_Translator_choice (0, lv_args 0 [.ref 3], []) (hX X I J) P := by
  unfold f_Translator_choice at hb
  refine e_k 1 (f' := (1, [(0, .ref 3)], [.ref 3])) rfl ?_
  obtain ⟨v1, I1, J1, h1, hb⟩ := oc_call hb
  refine r_cv (z := m_Translator_enter) (As := []) (rest := []) rfl rfl rfl rfl rfl (x_ltn rfl) rfl rfl (E_Translator_enter  h1 ⟨_, rfl, ?_⟩)
  refine e_k 1 (f' := (5, [(0, .ref 3)], [.ref 3])) rfl ?_
  obtain ⟨v2, I2, J2, h2, hb⟩ := oc_call hb
  refine r_cv (z := m_Translator_decider) (As := []) (rest := []) rfl rfl rfl rfl rfl (x_ltn rfl) rfl rfl (E_Translator_decider  h2 ⟨_, rfl, ?_⟩)
  refine e_k 3 (f' := (12, [(1, .int v2), (0, .ref 3)], [.int 91, .ref 3])) rfl ?_
  obtain ⟨v3, I3, J3, h3, hb⟩ := oc_call hb
  refine r_cv (z := m_Translator_expect) (As := [.int 91]) (rest := []) rfl rfl rfl rfl rfl (x_ltn rfl) rfl rfl (E_Translator_expect  h3 ⟨_, rfl, ?_⟩)
  refine e_k 2 (f' := (17, [(1, .int v2), (0, .ref 3)], [.ref 3, .ref 3])) rfl ?_
  refine r_geti rfl (x_ltn rfl) rfl rfl ?_
  refine e_k 2 (f' := (22, [(1, .int v2), (0, .ref 3)], [.int ((I3 3 7) + 1), .ref 3])) rfl ?_
  obtain ⟨I4, eI4, hb⟩ := p_nm hb
  refine r_puti' rfl (x_ltn rfl) rfl rfl eI4 ?_
  refine e_k 1 (f' := (26, [(1, .int v2), (0, .ref 3)], [.ref 3])) rfl ?_
  refine r_getr rfl (x_ltn rfl) rfl rfl ?_
  refine r_geti rfl (x_ltn rfl) rfl rfl ?_
  refine e_k 1 (f' := (33, [(2, .int (I4 6 1)), (1, .int v2), (0, .ref 3)], [])) rfl ?_
  obtain ⟨x5, ex5, hb⟩ := p_nm hb
  rw [← ex5]
  refine e_k 5 (f' := (39, [(2, .int x5), (1, .int v2), (0, .ref 3)], [.int 0, .int 0, .int v2, .int 17, .ref 3])) rfl ?_
  obtain ⟨v6, I6, J6, h6, hb⟩ := oc_call hb
  refine r_cv (z := m_Translator_emit) (As := [.int 17, .int v2, .int 0, .int 0]) (rest := []) rfl rfl rfl rfl rfl (x_ltn rfl) rfl rfl (E_Translator_emit  h6 ⟨_, rfl, ?_⟩)
  refine e_k 1 (f' := (43, [(2, .int x5), (1, .int v2), (0, .ref 3)], [.ref 3])) rfl ?_
  obtain ⟨v7, I7, J7, h7, hb⟩ := oc_call hb
  refine r_cv (z := m_Translator_statements) (As := []) (rest := []) rfl rfl rfl rfl rfl (x_ltn rfl) rfl rfl (hR_0  h7 ⟨_, rfl, ?_⟩)
  refine e_k 2 (f' := (49, [(2, .int x5), (1, .int v2), (0, .ref 3)], [.int 124, .ref 3])) rfl ?_
  obtain ⟨v8, I8, J8, h8, hb⟩ := oc_call hb
  refine r_cv (z := m_Translator_expect) (As := [.int 124]) (rest := []) rfl rfl rfl rfl rfl (x_ltn rfl) rfl rfl (E_Translator_expect  h8 ⟨_, rfl, ?_⟩)
  refine e_k 1 (f' := (53, [(2, .int x5), (1, .int v2), (0, .ref 3)], [.ref 3])) rfl ?_
  refine r_getr rfl (x_ltn rfl) rfl rfl ?_
  refine r_geti rfl (x_ltn rfl) rfl rfl ?_
  refine e_k 1 (f' := (60, [(3, .int (I8 6 1)), (2, .int x5), (1, .int v2), (0, .ref 3)], [])) rfl ?_
  obtain ⟨x9, ex9, hb⟩ := p_nm hb
  rw [← ex9]
  refine e_k 5 (f' := (66, [(3, .int x9), (2, .int x5), (1, .int v2), (0, .ref 3)], [.int 0, .int 0, .int 0, .int 18, .ref 3])) rfl ?_
  obtain ⟨v10, I10, J10, h10, hb⟩ := oc_call hb
  refine r_cv (z := m_Translator_emit) (As := [.int 18, .int 0, .int 0, .int 0]) (rest := []) rfl rfl rfl rfl rfl (x_ltn rfl) rfl rfl (E_Translator_emit  h10 ⟨_, rfl, ?_⟩)
  refine e_k 1 (f' := (70, [(3, .int x9), (2, .int x5), (1, .int v2), (0, .ref 3)], [.ref 3])) rfl ?_
  refine r_getr rfl (x_ltn rfl) rfl rfl ?_
  refine e_k 4 (f' := (77, [(3, .int x9), (2, .int x5), (1, .int v2), (0, .ref 3)], [.ref 3, .int (x5 + 2), .ref 6])) rfl ?_
  refine r_getr rfl (x_ltn rfl) rfl rfl ?_
  refine r_geti rfl (x_ltn rfl) rfl rfl ?_
  obtain ⟨v11, I11, J11, h11, hb⟩ := oc_call hb
  refine r_cv (z := m_Row_aim) (As := [.int (x5 + 2), .int (I10 6 1)]) (rest := []) rfl rfl rfl rfl rfl (x_ltn rfl) rfl rfl (E_Row_aim row_6 h11 ⟨_, rfl, ?_⟩)
  refine e_k 1 (f' := (87, [(3, .int x9), (2, .int x5), (1, .int v2), (0, .ref 3)], [.ref 3])) rfl ?_
  obtain ⟨v12, I12, J12, h12, hb⟩ := oc_call hb
  refine r_cv (z := m_Translator_statements) (As := []) (rest := []) rfl rfl rfl rfl rfl (x_ltn rfl) rfl rfl (hR_0  h12 ⟨_, rfl, ?_⟩)
  refine e_k 2 (f' := (93, [(3, .int x9), (2, .int x5), (1, .int v2), (0, .ref 3)], [.int 93, .ref 3])) rfl ?_
  obtain ⟨v13, I13, J13, h13, hb⟩ := oc_call hb
  refine r_cv (z := m_Translator_expect) (As := [.int 93]) (rest := []) rfl rfl rfl rfl rfl (x_ltn rfl) rfl rfl (E_Translator_expect  h13 ⟨_, rfl, ?_⟩)
  refine e_k 2 (f' := (98, [(3, .int x9), (2, .int x5), (1, .int v2), (0, .ref 3)], [.ref 3, .ref 3])) rfl ?_
  refine r_geti rfl (x_ltn rfl) rfl rfl ?_
  refine e_k 2 (f' := (103, [(3, .int x9), (2, .int x5), (1, .int v2), (0, .ref 3)], [.int ((I13 3 7) - 1), .ref 3])) rfl ?_
  obtain ⟨I14, eI14, hb⟩ := p_nm hb
  refine r_puti' rfl (x_ltn rfl) rfl rfl eI14 ?_
  refine e_k 1 (f' := (107, [(3, .int x9), (2, .int x5), (1, .int v2), (0, .ref 3)], [.ref 3])) rfl ?_
  obtain ⟨v15, I15, J15, h15, hb⟩ := oc_call hb
  refine r_cv (z := m_Translator_leave) (As := []) (rest := []) rfl rfl rfl rfl rfl (x_ltn rfl) rfl rfl (E_Translator_leave  h15 ⟨_, rfl, ?_⟩)
  refine e_k 1 (f' := (111, [(3, .int x9), (2, .int x5), (1, .int v2), (0, .ref 3)], [.ref 3])) rfl ?_
  refine r_getr rfl (x_ltn rfl) rfl rfl ?_
  refine e_k 4 (f' := (118, [(3, .int x9), (2, .int x5), (1, .int v2), (0, .ref 3)], [.ref 3, .int (x9 + 1), .ref 6])) rfl ?_
  refine r_getr rfl (x_ltn rfl) rfl rfl ?_
  refine r_geti rfl (x_ltn rfl) rfl rfl ?_
  obtain ⟨v16, I16, J16, h16, hb⟩ := oc_call hb
  refine r_cv (z := m_Row_aim) (As := [.int (x9 + 1), .int (I15 6 1)]) (rest := []) rfl rfl rfl rfl rfl (x_ltn rfl) rfl rfl (E_Row_aim row_6 h16 ⟨_, rfl, ?_⟩)
  obtain ⟨rfl, rfl, rfl⟩ := s_inj hb
  exact e_r rfl rfl K
end AUTO
