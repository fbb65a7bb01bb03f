section AUTO
variable {L : Nat} {xs : Nat → Int32} {d : Nat} {P : am_R → am_H → Prop}
theorem E_Sh_run_63 {p2 : Int32} : ∀ (fu : Nat) {l1 : Int32} {l2 : Int32} {l4 : Int32} {l5 : Int32} {l6 : Int32} {X : MX} {I : MI} {J : MJ} {r : (Unit)} {X' : MX} {I' : MI} {J' : MJ}, f_Sh_run_63 p2 fu l1 l2 l4 l5 l6 X I J = some (r, X', I', J') → am_E (gG L xs) (d + 7) m_Sh_run (112, [(0, .ref 0), (1, .int l1), (2, .int l2), (4, .int l4), (5, .int l5)], []) (hX X' I' J') P → am_E (gG L xs) (d + 7) m_Sh_run (63, [(0, .ref 0), (1, .int l1), (2, .int l2), (4, .int l4), (5, .int l5), (6, .int l6)], []) (hX X I J) P := by
  intro fu
  induction fu with
  | zero =>
    intros
    rename_i hb _
    cases hb
  | succ fu ih =>
    intro l1 l2 l4 l5 l6 X I J r X' I' J' hb K
    unfold f_Sh_run_63 at hb
    refine e_k 2 (f' := (66, [(0, .ref 0), (1, .int l1), (2, .int l2), (4, .int l4), (5, .int l5), (6, .int l6)], [.ref 0, .int l6])) rfl ?_
    refine r_getr rfl (x_ltn rfl) rfl rfl ?_
    refine r_geti rfl (x_ltn rfl) rfl rfl ?_
    refine e_k 1 (f' := (if (I 14 6) ≤ l6 then 112 else 75, [(0, .ref 0), (1, .int l1), (2, .int l2), (4, .int l4), (5, .int l5), (6, .int l6)], [])) rfl ?_
    refine e_if (fun c8 => ?_) (fun c8 => ?_)
    · replace hb := i_pos c8 hb
      refine e_sub (ls := [(0, .ref 0), (1, .int l1), (2, .int l2), (4, .int l4), (5, .int l5)]) rfl ⟨rfl, rfl, rfl, rfl, rfl, trivial⟩ ?_
      obtain ⟨rfl, rfl, rfl, rfl⟩ := s_inx hb
      exact K
    · replace hb := i_neg c8 hb
      refine e_k 1 (f' := (76, [(0, .ref 0), (1, .int l1), (2, .int l2), (4, .int l4), (5, .int l5), (6, .int l6)], [.ref 0])) rfl ?_
      refine r_getr rfl (x_ltn rfl) rfl rfl ?_
      refine r_geti rfl (x_ltn rfl) rfl rfl ?_
      refine e_k 2 (f' := (if 30000 ≤ (I 14 10) then 112 else 88, [(0, .ref 0), (1, .int l1), (2, .int l2), (4, .int l4), (5, .int l5), (6, .int l6)], [])) rfl ?_
      refine e_if (fun c9 => ?_) (fun c9 => ?_)
      · replace hb := i_pos c9 hb
        refine e_sub (ls := [(0, .ref 0), (1, .int l1), (2, .int l2), (4, .int l4), (5, .int l5)]) rfl ⟨rfl, rfl, rfl, rfl, rfl, trivial⟩ ?_
        obtain ⟨rfl, rfl, rfl, rfl⟩ := s_inx hb
        exact K
      · replace hb := i_neg c9 hb
        refine e_k 1 (f' := (89, [(0, .ref 0), (1, .int l1), (2, .int l2), (4, .int l4), (5, .int l5), (6, .int l6)], [.ref 0])) rfl ?_
        refine r_getr rfl (x_ltn rfl) rfl rfl ?_
        refine e_k 1 (f' := (93, [(0, .ref 0), (1, .int l1), (2, .int l2), (4, .int l4), (5, .int l5), (6, .int l6)], [.ref 0, .ref 14])) rfl ?_
        refine r_getr rfl (x_ltn rfl) rfl rfl ?_
        refine r_getr rfl (x_ltn rfl) rfl rfl ?_
        refine e_k 1 (f' := (101, [(0, .ref 0), (1, .int l1), (2, .int l2), (4, .int l4), (5, .int l5), (6, .int l6)], [.int l6, .ref 17, .ref 14])) rfl ?_
        obtain ⟨o10, hb⟩ := ob_in hb
        refine r_pald rfl o10 ?_
        obtain ⟨v11, X11, I11, J11, h11, hb⟩ := ob_call hb
        refine r_cv (z := m_Hall_stepOf) (As := [.ref (18 + 21 * (Int32.toNatClampNeg l6))]) (rest := []) rfl rfl rfl rfl rfl (x_ltn rfl) rfl rfl (E_Hall_stepOf (vp_lt o10) h11 ⟨_, rfl, ?_⟩)
        refine e_k 3 (f' := (63, [(6, .int (l6 + 1)), (0, .ref 0), (1, .int l1), (2, .int l2), (4, .int l4), (5, .int l5)], [])) rfl ?_
        refine e_sub (ls := [(0, .ref 0), (1, .int l1), (2, .int l2), (4, .int l4), (5, .int l5), (6, .int (l6 + 1))]) rfl ⟨rfl, rfl, rfl, rfl, rfl, rfl, trivial⟩ ?_
        exact ih  hb K
theorem E_Sh_run_41 {p2 : Int32} : ∀ (fu : Nat) {l1 : Int32} {l2 : Int32} {l3 : Int32} {l4 : Int32} {X : MX} {I : MI} {J : MJ} {r : (Unit)} {X' : MX} {I' : MI} {J' : MJ}, f_Sh_run_41 p2 fu l1 l2 l3 l4 X I J = some (r, X', I', J') → am_E (gG L xs) (d + 7) m_Sh_run (150, [(0, .ref 0), (2, .int l2)], []) (hX X' I' J') P → am_E (gG L xs) (d + 7) m_Sh_run (41, [(0, .ref 0), (1, .int l1), (2, .int l2), (3, .int l3), (4, .int l4)], []) (hX X I J) P := by
  intro fu
  induction fu with
  | zero =>
    intros
    rename_i hb _
    cases hb
  | succ fu ih =>
    intro l1 l2 l3 l4 X I J r X' I' J' hb K
    unfold f_Sh_run_41 at hb
    refine e_k 3 (f' := (if l1 ≤ l4 then 150 else 47, [(0, .ref 0), (1, .int l1), (2, .int l2), (3, .int l3), (4, .int l4)], [])) rfl ?_
    refine e_if (fun c5 => ?_) (fun c5 => ?_)
    · replace hb := i_pos c5 hb
      refine e_sub (ls := [(0, .ref 0), (2, .int l2)]) rfl ⟨rfl, rfl, trivial⟩ ?_
      obtain ⟨rfl, rfl, rfl, rfl⟩ := s_inx hb
      exact K
    · replace hb := i_neg c5 hb
      refine e_k 2 (f' := (if l3 = 0 then 150 else 51, [(0, .ref 0), (1, .int l1), (2, .int l2), (3, .int l3), (4, .int l4)], [])) rfl ?_
      refine e_if (fun c6 => ?_) (fun c6 => ?_)
      · replace hb := i_pos c6 hb
        refine e_sub (ls := [(0, .ref 0), (2, .int l2)]) rfl ⟨rfl, rfl, trivial⟩ ?_
        obtain ⟨rfl, rfl, rfl, rfl⟩ := s_inx hb
        exact K
      · replace hb := i_neg c6 hb
        refine e_k 1 (f' := (52, [(0, .ref 0), (1, .int l1), (2, .int l2), (3, .int l3), (4, .int l4)], [.ref 0])) rfl ?_
        refine r_getr rfl (x_ltn rfl) rfl rfl ?_
        refine r_geti rfl (x_ltn rfl) rfl rfl ?_
        refine e_k 1 (f' := (60, [(5, .int (I 14 10)), (0, .ref 0), (1, .int l1), (2, .int l2), (3, .int l3), (4, .int l4)], [])) rfl ?_
        obtain ⟨x7, ex7, hb⟩ := p_nm hb
        rw [← ex7]
        refine e_k 2 (f' := (63, [(6, .int 0), (5, .int x7), (0, .ref 0), (1, .int l1), (2, .int l2), (3, .int l3), (4, .int l4)], [])) rfl ?_
        refine e_sub (ls := [(0, .ref 0), (1, .int l1), (2, .int l2), (4, .int l4), (5, .int x7), (6, .int 0)]) rfl ⟨rfl, rfl, rfl, rfl, rfl, rfl, trivial⟩ ?_
        obtain ⟨u12, X12, I12, J12, h12, hb⟩ := ob_call hb
        refine E_Sh_run_63  gF  h12 ?_
        refine e_k 1 (f' := (113, [(0, .ref 0), (1, .int l1), (2, .int l2), (4, .int l4), (5, .int x7)], [.ref 0])) rfl ?_
        refine r_getr rfl (x_ltn rfl) rfl rfl ?_
        obtain ⟨v13, I13, J13, h13, hb⟩ := oc_call hb
        refine r_cv (z := m_Hall_bringAll) (As := []) (rest := []) rfl rfl rfl rfl rfl (x_ltn rfl) rfl rfl (E_Hall_bringAll  h13 ⟨_, rfl, ?_⟩)
        refine e_k 3 (f' := (if ¬ v13 = 0 then 138 else 126, [(6, .int v13), (0, .ref 0), (1, .int l1), (2, .int l2), (4, .int l4), (5, .int x7)], [])) rfl ?_
        obtain ⟨v15, h15, hb⟩ := p_nn hb
        have Kj15 : am_E (gG L xs) (d + 7) m_Sh_run (143, [(0, .ref 0), (1, .int l1), (2, .int l2), (4, .int l4)], [.int v15]) (hX X12 I13 J13) P := by
          refine e_k 3 (f' := (41, [(4, .int (l4 + 1)), (3, .int v15), (0, .ref 0), (1, .int l1), (2, .int l2)], [])) rfl ?_
          refine e_sub (ls := [(0, .ref 0), (1, .int l1), (2, .int l2), (3, .int v15), (4, .int (l4 + 1))]) rfl ⟨rfl, rfl, rfl, rfl, rfl, trivial⟩ ?_
          exact ih  hb K
        clear hb
        refine e_if (fun c16 => ?_) (fun c16 => ?_)
        · replace h15 := i_pos c16 h15
          refine e_k 2 (f' := (143, [(6, .int v13), (0, .ref 0), (1, .int l1), (2, .int l2), (4, .int l4), (5, .int x7)], [.int 1])) rfl ?_
          refine e_sub (ls := [(0, .ref 0), (1, .int l1), (2, .int l2), (4, .int l4)]) rfl ⟨rfl, rfl, rfl, rfl, trivial⟩ ?_
          subst h15
          exact Kj15
        · replace h15 := i_neg c16 h15
          refine e_k 1 (f' := (127, [(6, .int v13), (0, .ref 0), (1, .int l1), (2, .int l2), (4, .int l4), (5, .int x7)], [.ref 0])) rfl ?_
          refine r_getr rfl (x_ltn rfl) rfl rfl ?_
          refine r_geti rfl (x_ltn rfl) rfl rfl ?_
          refine e_k 2 (f' := (if (I13 14 10) ≤ x7 then 142 else 138, [(6, .int v13), (0, .ref 0), (1, .int l1), (2, .int l2), (4, .int l4), (5, .int x7)], [])) rfl ?_
          refine e_if (fun c17 => ?_) (fun c17 => ?_)
          · replace h15 := i_pos c17 h15
            refine e_k 1 (f' := (143, [(6, .int v13), (0, .ref 0), (1, .int l1), (2, .int l2), (4, .int l4), (5, .int x7)], [.int 0])) rfl ?_
            refine e_sub (ls := [(0, .ref 0), (1, .int l1), (2, .int l2), (4, .int l4)]) rfl ⟨rfl, rfl, rfl, rfl, trivial⟩ ?_
            subst h15
            exact Kj15
          · replace h15 := i_neg c17 h15
            refine e_k 2 (f' := (143, [(6, .int v13), (0, .ref 0), (1, .int l1), (2, .int l2), (4, .int l4), (5, .int x7)], [.int 1])) rfl ?_
            refine e_sub (ls := [(0, .ref 0), (1, .int l1), (2, .int l2), (4, .int l4)]) rfl ⟨rfl, rfl, rfl, rfl, trivial⟩ ?_
            subst h15
            exact Kj15
theorem E_Sh_run {p2 : Int32} {X : MX} {I : MI} {J : MJ} {v : (Int32 ⊕ Nat)} {X' : MX} {I' : MI} {J' : MJ} (hb : f_Sh_run p2 X I J = some (v, X', I', J')) (K1 : ∀ u, v = .inl u → P (.inl (some (.int u))) (hX X' I' J')) (K2 : ∀ x, v = .inr x → P (.inr x) (am_thr (hX X' I' J'))) : am_E (gG L xs) (d + 7) m_Sh_run (0, lv_args 0 [.ref 0, .int p2], []) (hX X I J) P := by
  unfold f_Sh_run at hb
  refine e_k 3 (f' := (if p2 < 1 then 12 else 5, [(0, .ref 0), (1, .int p2)], [])) rfl ?_
  refine e_if (fun c1 => ?_) (fun c1 => ?_)
  · replace hb := i_pos c1 hb
    obtain ⟨rfl, rfl, rfl, rfl⟩ := s_inx hb
    exact e_thr rfl (Nat.ble_eq_true_of_le (by omega)) (K2 _ rfl)
  · replace hb := i_neg c1 hb
    refine e_k 3 (f' := (if p2 ≤ 2000 then 22 else 12, [(0, .ref 0), (1, .int p2)], [])) rfl ?_
    refine e_if (fun c2 => ?_) (fun c2 => ?_)
    · replace hb := i_pos c2 hb
      refine e_k 1 (f' := (23, [(0, .ref 0), (1, .int p2)], [.ref 0])) rfl ?_
      refine r_getr rfl (x_ltn rfl) rfl rfl ?_
      refine r_geti rfl (x_ltn rfl) rfl rfl ?_
      refine e_k 1 (f' := (30, [(2, .int (I 14 10)), (0, .ref 0), (1, .int p2)], [])) rfl ?_
      obtain ⟨x3, ex3, hb⟩ := p_nm hb
      rw [← ex3]
      refine e_k 1 (f' := (31, [(2, .int x3), (0, .ref 0), (1, .int p2)], [.ref 0])) rfl ?_
      refine r_getr rfl (x_ltn rfl) rfl rfl ?_
      refine r_geti rfl (x_ltn rfl) rfl rfl ?_
      refine e_k 1 (f' := (38, [(3, .int (I 14 9)), (2, .int x3), (0, .ref 0), (1, .int p2)], [])) rfl ?_
      obtain ⟨x4, ex4, hb⟩ := p_nm hb
      rw [← ex4]
      refine e_k 2 (f' := (41, [(4, .int 0), (3, .int x4), (2, .int x3), (0, .ref 0), (1, .int p2)], [])) rfl ?_
      refine e_sub (ls := [(0, .ref 0), (1, .int p2), (2, .int x3), (3, .int x4), (4, .int 0)]) rfl ⟨rfl, rfl, rfl, rfl, rfl, trivial⟩ ?_
      obtain ⟨u18, X18, I18, J18, h18, hb⟩ := ob_call hb
      refine E_Sh_run_41  gF  h18 ?_
      refine e_k 1 (f' := (151, [(0, .ref 0), (2, .int x3)], [.ref 0])) rfl ?_
      refine r_getr rfl (x_ltn rfl) rfl rfl ?_
      refine r_geti rfl (x_ltn rfl) rfl rfl ?_
      refine e_k 2 (f' := (159, [(0, .ref 0), (2, .int x3)], [.int ((I18 14 10) - x3)])) rfl ?_
      obtain ⟨rfl, rfl, rfl, rfl⟩ := s_inx hb
      exact e_r rfl rfl (K1 _ rfl)
    · replace hb := i_neg c2 hb
      obtain ⟨rfl, rfl, rfl, rfl⟩ := s_inx hb
      exact e_thr rfl (Nat.ble_eq_true_of_le (by omega)) (K2 _ rfl)
theorem E_Law_step {p2 : Int32} {X : MX} {I : MI} {J : MJ} {v : (Int32 ⊕ Nat)} {X' : MX} {I' : MI} {J' : MJ} (hb : f_Law_step p2 X I J = some (v, X', I', J')) (K1 : ∀ u, v = .inl u → P (.inl (some (.int u))) (hX X' I' J')) (K2 : ∀ x, v = .inr x → P (.inr x) (am_thr (hX X' I' J'))) : am_E (gG L xs) (d + 8) m_Law_step (0, lv_args 0 [.ref 0, .int p2, .ref 168], []) (hX X I J) P := by
  unfold f_Law_step at hb
  refine e_k 4 (f' := (4, [(0, .ref 0), (1, .int p2), (2, .ref 168)], [.int p2, .ref 0, .int 0, .ref 168])) rfl ?_
  obtain ⟨q1, X1, I1, J1, h1, hb⟩ := ob_call hb
  refine r_tv (z := m_Sh_step) (As := [.int p2]) (rest := [.int 0, .ref 168]) rfl rfl rfl rfl rfl (x_ltn rfl) rfl rfl (E_Sh_step  h1 (fun y1 e1 => Or.inl ⟨_, rfl, ?_⟩) (fun y1 e1 => Or.inr ⟨_, rfl, ?_⟩))
  · subst e1
    replace hb := oe_l hb
    refine e_k 1 (f' := (8, [(0, .ref 0), (1, .int p2), (2, .ref 168)], [.long (Int32.toInt64 y1), .int 0, .ref 168])) rfl ?_
    obtain ⟨o2, hb⟩ := o8_call hb
    obtain ⟨o3, hb⟩ := ob_in hb
    obtain ⟨J4, eJ4, hb⟩ := p_nm hb
    refine r_last' rfl o2.1 o2.2.2 o3 eJ4 ?_
    refine e_k 2 (f' := (19, [(0, .ref 0), (1, .int p2), (2, .ref 168)], [.int 0])) rfl ?_
    obtain ⟨rfl, rfl, rfl, rfl⟩ := s_inx hb
    exact e_r rfl rfl (K1 _ rfl)
  · subst e1
    replace hb := oe_r hb
    obtain ⟨rfl, rfl, rfl, rfl⟩ := s_inx hb
    exact K2 _ rfl
theorem E_Law_run {p2 : Int32} {X : MX} {I : MI} {J : MJ} {v : (Int32 ⊕ Nat)} {X' : MX} {I' : MI} {J' : MJ} (hb : f_Law_run p2 X I J = some (v, X', I', J')) (K1 : ∀ u, v = .inl u → P (.inl (some (.int u))) (hX X' I' J')) (K2 : ∀ x, v = .inr x → P (.inr x) (am_thr (hX X' I' J'))) : am_E (gG L xs) (d + 8) m_Law_run (0, lv_args 0 [.ref 0, .int p2, .ref 168], []) (hX X I J) P := by
  unfold f_Law_run at hb
  refine e_k 4 (f' := (4, [(0, .ref 0), (1, .int p2), (2, .ref 168)], [.int p2, .ref 0, .int 0, .ref 168])) rfl ?_
  obtain ⟨q1, X1, I1, J1, h1, hb⟩ := ob_call hb
  refine r_tv (z := m_Sh_run) (As := [.int p2]) (rest := [.int 0, .ref 168]) rfl rfl rfl rfl rfl (x_ltn rfl) rfl rfl (E_Sh_run  h1 (fun y1 e1 => Or.inl ⟨_, rfl, ?_⟩) (fun y1 e1 => Or.inr ⟨_, rfl, ?_⟩))
  · subst e1
    replace hb := oe_l hb
    refine e_k 1 (f' := (8, [(0, .ref 0), (1, .int p2), (2, .ref 168)], [.long (Int32.toInt64 y1), .int 0, .ref 168])) rfl ?_
    obtain ⟨o2, hb⟩ := o8_call hb
    obtain ⟨o3, hb⟩ := ob_in hb
    obtain ⟨J4, eJ4, hb⟩ := p_nm hb
    refine r_last' rfl o2.1 o2.2.2 o3 eJ4 ?_
    refine e_k 2 (f' := (16, [(0, .ref 0), (1, .int p2), (2, .ref 168)], [.int 0])) rfl ?_
    obtain ⟨rfl, rfl, rfl, rfl⟩ := s_inx hb
    exact e_r rfl rfl (K1 _ rfl)
  · subst e1
    replace hb := oe_r hb
    obtain ⟨rfl, rfl, rfl, rfl⟩ := s_inx hb
    exact K2 _ rfl
theorem E_Law_law_23 {L : Nat} {xs : Nat → Int32} : ∀ (fu : Nat) {l4 : Int32} {X : MX} {I : MI} {J : MJ} {r : (Int32 ⊕ (Unit))} {X' : MX} {I' : MI} {J' : MJ}, f_Law_law_23 L xs fu l4 X I J = some (r, X', I', J') → (∀ v, r = .inl v → P (.inl (some (.int v))) (hX X' I' J')) → (∀ u, r = .inr u → am_E (gG L xs) (d + 207) m_Law_law (1163, [], []) (hX X' I' J') P) → am_E (gG L xs) (d + 207) m_Law_law (23, [(0, .ref 1000000005), (1, .ref 0), (2, .ref 112), (3, .ref 168), (4, .int l4)], []) (hX X I J) P := by
  intro fu
  induction fu with
  | zero =>
    intros
    rename_i hb _ _
    cases hb
  | succ fu ih =>
    intro l4 X I J r X' I' J' hb K1 K2
    unfold f_Law_law_23 at hb
    refine e_k 2 (f' := (26, [(0, .ref 1000000005), (1, .ref 0), (2, .ref 112), (3, .ref 168), (4, .int l4)], [.ref 1000000005, .int l4])) rfl ?_
    refine r_tlen (k := 5) rfl (by decide) rfl ?_
    refine e_k 3 (f' := (if ((nI L) - 6) < l4 then 1163 else 33, [(0, .ref 1000000005), (1, .ref 0), (2, .ref 112), (3, .ref 168), (4, .int l4)], [])) rfl ?_
    refine e_if (fun c1 => ?_) (fun c1 => ?_)
    · replace hb := i_pos c1 hb
      refine e_sub (ls := []) rfl ⟨⟩ ?_
      obtain ⟨rfl, rfl, rfl, rfl⟩ := s_inx hb
      exact K2 _ rfl
    · replace hb := i_neg c1 hb
      refine e_k 2 (f' := (36, [(0, .ref 1000000005), (1, .ref 0), (2, .ref 112), (3, .ref 168), (4, .int l4)], [.int l4, .ref 1000000005])) rfl ?_
      obtain ⟨o2, hb⟩ := ob_in hb
      refine r_tald (k := 5) rfl (by decide) rfl o2 ?_
      refine e_k 3 (f' := (am_sw ((xs (Int32.toNatClampNeg l4)) &&& 31) 1157 [(0, 132), (1, 201), (2, 270), (3, 351), (4, 395), (5, 439), (6, 464), (7, 489), (8, 557), (9, 626), (10, 639), (11, 732), (12, 788), (13, 825), (14, 881), (15, 918), (16, 985), (17, 1052), (18, 1132)], [(0, .ref 1000000005), (1, .ref 0), (2, .ref 112), (3, .ref 168), (4, .int l4)], [])) rfl ?_
      by_cases c3 : ((xs (Int32.toNatClampNeg l4)) &&& 31) = 0
      · rw [show am_sw ((xs (Int32.toNatClampNeg l4)) &&& 31) 1157 [(0, 132), (1, 201), (2, 270), (3, 351), (4, 395), (5, 439), (6, 464), (7, 489), (8, 557), (9, 626), (10, 639), (11, 732), (12, 788), (13, 825), (14, 881), (15, 918), (16, 985), (17, 1052), (18, 1132)] = 132 from by rw [c3]; rfl]
        replace hb := i_pos c3 hb
        refine e_k 5 (f' := (138, [(0, .ref 1000000005), (1, .ref 0), (2, .ref 112), (3, .ref 168), (4, .int l4)], [.int (l4 + 1), .ref 1000000005, .ref 0])) rfl ?_
        obtain ⟨o4, hb⟩ := ob_in hb
        refine r_tald (k := 5) rfl (by decide) rfl o4 ?_
        refine e_k 7 (f' := (148, [(0, .ref 1000000005), (1, .ref 0), (2, .ref 112), (3, .ref 168), (4, .int l4)], [.int (l4 + 2), .ref 1000000005, .long ((Int32.toInt64 (xs (Int32.toNatClampNeg (l4 + 1)))) <<< ((Int32.toInt64 32) &&& 63)), .ref 0])) rfl ?_
        obtain ⟨o5, hb⟩ := ob_in hb
        refine r_tald (k := 5) rfl (by decide) rfl o5 ?_
        refine e_k 8 (f' := (160, [(0, .ref 1000000005), (1, .ref 0), (2, .ref 112), (3, .ref 168), (4, .int l4)], [.int (l4 + 3), .ref 1000000005, .long (((Int32.toInt64 (xs (Int32.toNatClampNeg (l4 + 1)))) <<< ((Int32.toInt64 32) &&& 63)) ||| ((Int32.toInt64 (xs (Int32.toNatClampNeg (l4 + 2)))) &&& 4294967295)), .ref 0])) rfl ?_
        obtain ⟨o6, hb⟩ := ob_in hb
        refine r_tald (k := 5) rfl (by decide) rfl o6 ?_
        obtain ⟨v7, I7, J7, h7, hb⟩ := oc_call hb
        refine r_cv (z := m_Sh_type) (As := [.long (((Int32.toInt64 (xs (Int32.toNatClampNeg (l4 + 1)))) <<< ((Int32.toInt64 32) &&& 63)) ||| ((Int32.toInt64 (xs (Int32.toNatClampNeg (l4 + 2)))) &&& 4294967295)), .int (xs (Int32.toNatClampNeg (l4 + 3)))]) (rest := []) rfl rfl rfl rfl rfl (x_ltn rfl) rfl rfl (E_Sh_type  h7 ⟨_, rfl, ?_⟩)
        refine e_k 5 (f' := (170, [(0, .ref 1000000005), (1, .ref 0), (2, .ref 112), (3, .ref 168), (4, .int l4)], [.int (l4 + 1), .ref 1000000005, .ref 112, .int v7])) rfl ?_
        obtain ⟨o8, hb⟩ := ob_in hb
        refine r_tald (k := 5) rfl (by decide) rfl o8 ?_
        refine e_k 7 (f' := (180, [(0, .ref 1000000005), (1, .ref 0), (2, .ref 112), (3, .ref 168), (4, .int l4)], [.int (l4 + 2), .ref 1000000005, .long ((Int32.toInt64 (xs (Int32.toNatClampNeg (l4 + 1)))) <<< ((Int32.toInt64 32) &&& 63)), .ref 112, .int v7])) rfl ?_
        obtain ⟨o9, hb⟩ := ob_in hb
        refine r_tald (k := 5) rfl (by decide) rfl o9 ?_
        refine e_k 8 (f' := (192, [(0, .ref 1000000005), (1, .ref 0), (2, .ref 112), (3, .ref 168), (4, .int l4)], [.int (l4 + 3), .ref 1000000005, .long (((Int32.toInt64 (xs (Int32.toNatClampNeg (l4 + 1)))) <<< ((Int32.toInt64 32) &&& 63)) ||| ((Int32.toInt64 (xs (Int32.toNatClampNeg (l4 + 2)))) &&& 4294967295)), .ref 112, .int v7])) rfl ?_
        obtain ⟨o10, hb⟩ := ob_in hb
        refine r_tald (k := 5) rfl (by decide) rfl o10 ?_
        obtain ⟨v11, I11, J11, h11, hb⟩ := oc_call hb
        refine r_cv (z := m_Model_type) (As := [.long (((Int32.toInt64 (xs (Int32.toNatClampNeg (l4 + 1)))) <<< ((Int32.toInt64 32) &&& 63)) ||| ((Int32.toInt64 (xs (Int32.toNatClampNeg (l4 + 2)))) &&& 4294967295)), .int (xs (Int32.toNatClampNeg (l4 + 3)))]) (rest := [.int v7]) rfl rfl rfl rfl rfl (x_ltn rfl) rfl rfl (E_Model_type  h11 ⟨_, rfl, ?_⟩)
        refine e_k 1 (f' := (if v7 = v11 then 1157 else 199, [(0, .ref 1000000005), (1, .ref 0), (2, .ref 112), (3, .ref 168), (4, .int l4)], [])) rfl ?_
        refine e_if (fun c12 => ?_) (fun c12 => ?_)
        · replace hb := i_pos c12 hb
          refine e_k 2 (f' := (23, [(4, .int (l4 + 6)), (0, .ref 1000000005), (1, .ref 0), (2, .ref 112), (3, .ref 168)], [])) rfl ?_
          refine e_sub (ls := [(0, .ref 1000000005), (1, .ref 0), (2, .ref 112), (3, .ref 168), (4, .int (l4 + 6))]) rfl ⟨rfl, rfl, rfl, rfl, rfl, trivial⟩ ?_
          exact ih  hb K1 K2
        · replace hb := i_neg c12 hb
          refine e_k 1 (f' := (200, [(0, .ref 1000000005), (1, .ref 0), (2, .ref 112), (3, .ref 168), (4, .int l4)], [.int 0])) rfl ?_
          obtain ⟨rfl, rfl, rfl, rfl⟩ := s_inx hb
          exact e_r rfl rfl (K1 _ rfl)
      replace hb := i_neg c3 hb
      by_cases c13 : ((xs (Int32.toNatClampNeg l4)) &&& 31) = 1
      · rw [show am_sw ((xs (Int32.toNatClampNeg l4)) &&& 31) 1157 [(0, 132), (1, 201), (2, 270), (3, 351), (4, 395), (5, 439), (6, 464), (7, 489), (8, 557), (9, 626), (10, 639), (11, 732), (12, 788), (13, 825), (14, 881), (15, 918), (16, 985), (17, 1052), (18, 1132)] = 201 from by rw [c13]; rfl]
        replace hb := i_pos c13 hb
        refine e_k 5 (f' := (207, [(0, .ref 1000000005), (1, .ref 0), (2, .ref 112), (3, .ref 168), (4, .int l4)], [.int (l4 + 1), .ref 1000000005, .ref 0])) rfl ?_
        obtain ⟨o14, hb⟩ := ob_in hb
        refine r_tald (k := 5) rfl (by decide) rfl o14 ?_
        refine e_k 7 (f' := (217, [(0, .ref 1000000005), (1, .ref 0), (2, .ref 112), (3, .ref 168), (4, .int l4)], [.int (l4 + 2), .ref 1000000005, .long ((Int32.toInt64 (xs (Int32.toNatClampNeg (l4 + 1)))) <<< ((Int32.toInt64 32) &&& 63)), .ref 0])) rfl ?_
        obtain ⟨o15, hb⟩ := ob_in hb
        refine r_tald (k := 5) rfl (by decide) rfl o15 ?_
        refine e_k 8 (f' := (229, [(0, .ref 1000000005), (1, .ref 0), (2, .ref 112), (3, .ref 168), (4, .int l4)], [.int (l4 + 3), .ref 1000000005, .long (((Int32.toInt64 (xs (Int32.toNatClampNeg (l4 + 1)))) <<< ((Int32.toInt64 32) &&& 63)) ||| ((Int32.toInt64 (xs (Int32.toNatClampNeg (l4 + 2)))) &&& 4294967295)), .ref 0])) rfl ?_
        obtain ⟨o16, hb⟩ := ob_in hb
        refine r_tald (k := 5) rfl (by decide) rfl o16 ?_
        obtain ⟨v17, I17, J17, h17, hb⟩ := oc_call hb
        refine r_cv (z := m_Sh_put) (As := [.long (((Int32.toInt64 (xs (Int32.toNatClampNeg (l4 + 1)))) <<< ((Int32.toInt64 32) &&& 63)) ||| ((Int32.toInt64 (xs (Int32.toNatClampNeg (l4 + 2)))) &&& 4294967295)), .int (xs (Int32.toNatClampNeg (l4 + 3)))]) (rest := []) rfl rfl rfl rfl rfl (x_ltn rfl) rfl rfl (E_Sh_put  h17 ⟨_, rfl, ?_⟩)
        refine e_k 5 (f' := (239, [(0, .ref 1000000005), (1, .ref 0), (2, .ref 112), (3, .ref 168), (4, .int l4)], [.int (l4 + 1), .ref 1000000005, .ref 112, .int v17])) rfl ?_
        obtain ⟨o18, hb⟩ := ob_in hb
        refine r_tald (k := 5) rfl (by decide) rfl o18 ?_
        refine e_k 7 (f' := (249, [(0, .ref 1000000005), (1, .ref 0), (2, .ref 112), (3, .ref 168), (4, .int l4)], [.int (l4 + 2), .ref 1000000005, .long ((Int32.toInt64 (xs (Int32.toNatClampNeg (l4 + 1)))) <<< ((Int32.toInt64 32) &&& 63)), .ref 112, .int v17])) rfl ?_
        obtain ⟨o19, hb⟩ := ob_in hb
        refine r_tald (k := 5) rfl (by decide) rfl o19 ?_
        refine e_k 8 (f' := (261, [(0, .ref 1000000005), (1, .ref 0), (2, .ref 112), (3, .ref 168), (4, .int l4)], [.int (l4 + 3), .ref 1000000005, .long (((Int32.toInt64 (xs (Int32.toNatClampNeg (l4 + 1)))) <<< ((Int32.toInt64 32) &&& 63)) ||| ((Int32.toInt64 (xs (Int32.toNatClampNeg (l4 + 2)))) &&& 4294967295)), .ref 112, .int v17])) rfl ?_
        obtain ⟨o20, hb⟩ := ob_in hb
        refine r_tald (k := 5) rfl (by decide) rfl o20 ?_
        obtain ⟨v21, I21, J21, h21, hb⟩ := oc_call hb
        refine r_cv (z := m_Model_put) (As := [.long (((Int32.toInt64 (xs (Int32.toNatClampNeg (l4 + 1)))) <<< ((Int32.toInt64 32) &&& 63)) ||| ((Int32.toInt64 (xs (Int32.toNatClampNeg (l4 + 2)))) &&& 4294967295)), .int (xs (Int32.toNatClampNeg (l4 + 3)))]) (rest := [.int v17]) rfl rfl rfl rfl rfl (x_ltn rfl) rfl rfl (E_Model_put  h21 ⟨_, rfl, ?_⟩)
        refine e_k 1 (f' := (if v17 = v21 then 1157 else 268, [(0, .ref 1000000005), (1, .ref 0), (2, .ref 112), (3, .ref 168), (4, .int l4)], [])) rfl ?_
        refine e_if (fun c22 => ?_) (fun c22 => ?_)
        · replace hb := i_pos c22 hb
          refine e_k 2 (f' := (23, [(4, .int (l4 + 6)), (0, .ref 1000000005), (1, .ref 0), (2, .ref 112), (3, .ref 168)], [])) rfl ?_
          refine e_sub (ls := [(0, .ref 1000000005), (1, .ref 0), (2, .ref 112), (3, .ref 168), (4, .int (l4 + 6))]) rfl ⟨rfl, rfl, rfl, rfl, rfl, trivial⟩ ?_
          exact ih  hb K1 K2
        · replace hb := i_neg c22 hb
          refine e_k 1 (f' := (269, [(0, .ref 1000000005), (1, .ref 0), (2, .ref 112), (3, .ref 168), (4, .int l4)], [.int 0])) rfl ?_
          obtain ⟨rfl, rfl, rfl, rfl⟩ := s_inx hb
          exact e_r rfl rfl (K1 _ rfl)
      replace hb := i_neg c13 hb
      by_cases c23 : ((xs (Int32.toNatClampNeg l4)) &&& 31) = 2
      · rw [show am_sw ((xs (Int32.toNatClampNeg l4)) &&& 31) 1157 [(0, 132), (1, 201), (2, 270), (3, 351), (4, 395), (5, 439), (6, 464), (7, 489), (8, 557), (9, 626), (10, 639), (11, 732), (12, 788), (13, 825), (14, 881), (15, 918), (16, 985), (17, 1052), (18, 1132)] = 270 from by rw [c23]; rfl]
        replace hb := i_pos c23 hb
        refine e_k 5 (f' := (276, [(0, .ref 1000000005), (1, .ref 0), (2, .ref 112), (3, .ref 168), (4, .int l4)], [.int (l4 + 1), .ref 1000000005, .ref 0])) rfl ?_
        obtain ⟨o24, hb⟩ := ob_in hb
        refine r_tald (k := 5) rfl (by decide) rfl o24 ?_
        refine e_k 4 (f' := (282, [(0, .ref 1000000005), (1, .ref 0), (2, .ref 112), (3, .ref 168), (4, .int l4)], [.int (l4 + 2), .ref 1000000005, .int (xs (Int32.toNatClampNeg (l4 + 1))), .ref 0])) rfl ?_
        obtain ⟨o25, hb⟩ := ob_in hb
        refine r_tald (k := 5) rfl (by decide) rfl o25 ?_
        refine e_k 7 (f' := (292, [(0, .ref 1000000005), (1, .ref 0), (2, .ref 112), (3, .ref 168), (4, .int l4)], [.int (l4 + 3), .ref 1000000005, .long ((Int32.toInt64 (xs (Int32.toNatClampNeg (l4 + 2)))) <<< ((Int32.toInt64 32) &&& 63)), .int (xs (Int32.toNatClampNeg (l4 + 1))), .ref 0])) rfl ?_
        obtain ⟨o26, hb⟩ := ob_in hb
        refine r_tald (k := 5) rfl (by decide) rfl o26 ?_
        refine e_k 8 (f' := (304, [(0, .ref 1000000005), (1, .ref 0), (2, .ref 112), (3, .ref 168), (4, .int l4)], [.int (l4 + 4), .ref 1000000005, .long (((Int32.toInt64 (xs (Int32.toNatClampNeg (l4 + 2)))) <<< ((Int32.toInt64 32) &&& 63)) ||| ((Int32.toInt64 (xs (Int32.toNatClampNeg (l4 + 3)))) &&& 4294967295)), .int (xs (Int32.toNatClampNeg (l4 + 1))), .ref 0])) rfl ?_
        obtain ⟨o27, hb⟩ := ob_in hb
        refine r_tald (k := 5) rfl (by decide) rfl o27 ?_
        obtain ⟨v28, I28, J28, h28, hb⟩ := oc_call hb
        refine r_cv (z := m_Sh_hall) (As := [.int (xs (Int32.toNatClampNeg (l4 + 1))), .long (((Int32.toInt64 (xs (Int32.toNatClampNeg (l4 + 2)))) <<< ((Int32.toInt64 32) &&& 63)) ||| ((Int32.toInt64 (xs (Int32.toNatClampNeg (l4 + 3)))) &&& 4294967295)), .int (xs (Int32.toNatClampNeg (l4 + 4)))]) (rest := []) rfl rfl rfl rfl rfl (x_ltn rfl) rfl rfl (E_Sh_hall  h28 ⟨_, rfl, ?_⟩)
        refine e_k 5 (f' := (314, [(0, .ref 1000000005), (1, .ref 0), (2, .ref 112), (3, .ref 168), (4, .int l4)], [.int (l4 + 1), .ref 1000000005, .ref 112, .int v28])) rfl ?_
        obtain ⟨o29, hb⟩ := ob_in hb
        refine r_tald (k := 5) rfl (by decide) rfl o29 ?_
        refine e_k 4 (f' := (320, [(0, .ref 1000000005), (1, .ref 0), (2, .ref 112), (3, .ref 168), (4, .int l4)], [.int (l4 + 2), .ref 1000000005, .int (xs (Int32.toNatClampNeg (l4 + 1))), .ref 112, .int v28])) rfl ?_
        obtain ⟨o30, hb⟩ := ob_in hb
        refine r_tald (k := 5) rfl (by decide) rfl o30 ?_
        refine e_k 7 (f' := (330, [(0, .ref 1000000005), (1, .ref 0), (2, .ref 112), (3, .ref 168), (4, .int l4)], [.int (l4 + 3), .ref 1000000005, .long ((Int32.toInt64 (xs (Int32.toNatClampNeg (l4 + 2)))) <<< ((Int32.toInt64 32) &&& 63)), .int (xs (Int32.toNatClampNeg (l4 + 1))), .ref 112, .int v28])) rfl ?_
        obtain ⟨o31, hb⟩ := ob_in hb
        refine r_tald (k := 5) rfl (by decide) rfl o31 ?_
        refine e_k 8 (f' := (342, [(0, .ref 1000000005), (1, .ref 0), (2, .ref 112), (3, .ref 168), (4, .int l4)], [.int (l4 + 4), .ref 1000000005, .long (((Int32.toInt64 (xs (Int32.toNatClampNeg (l4 + 2)))) <<< ((Int32.toInt64 32) &&& 63)) ||| ((Int32.toInt64 (xs (Int32.toNatClampNeg (l4 + 3)))) &&& 4294967295)), .int (xs (Int32.toNatClampNeg (l4 + 1))), .ref 112, .int v28])) rfl ?_
        obtain ⟨o32, hb⟩ := ob_in hb
        refine r_tald (k := 5) rfl (by decide) rfl o32 ?_
        obtain ⟨v33, I33, J33, h33, hb⟩ := oc_call hb
        refine r_cv (z := m_Model_hall) (As := [.int (xs (Int32.toNatClampNeg (l4 + 1))), .long (((Int32.toInt64 (xs (Int32.toNatClampNeg (l4 + 2)))) <<< ((Int32.toInt64 32) &&& 63)) ||| ((Int32.toInt64 (xs (Int32.toNatClampNeg (l4 + 3)))) &&& 4294967295)), .int (xs (Int32.toNatClampNeg (l4 + 4)))]) (rest := [.int v28]) rfl rfl rfl rfl rfl (x_ltn rfl) rfl rfl (E_Model_hall  h33 ⟨_, rfl, ?_⟩)
        refine e_k 1 (f' := (if v28 = v33 then 1157 else 349, [(0, .ref 1000000005), (1, .ref 0), (2, .ref 112), (3, .ref 168), (4, .int l4)], [])) rfl ?_
        refine e_if (fun c34 => ?_) (fun c34 => ?_)
        · replace hb := i_pos c34 hb
          refine e_k 2 (f' := (23, [(4, .int (l4 + 6)), (0, .ref 1000000005), (1, .ref 0), (2, .ref 112), (3, .ref 168)], [])) rfl ?_
          refine e_sub (ls := [(0, .ref 1000000005), (1, .ref 0), (2, .ref 112), (3, .ref 168), (4, .int (l4 + 6))]) rfl ⟨rfl, rfl, rfl, rfl, rfl, trivial⟩ ?_
          exact ih  hb K1 K2
        · replace hb := i_neg c34 hb
          refine e_k 1 (f' := (350, [(0, .ref 1000000005), (1, .ref 0), (2, .ref 112), (3, .ref 168), (4, .int l4)], [.int 0])) rfl ?_
          obtain ⟨rfl, rfl, rfl, rfl⟩ := s_inx hb
          exact e_r rfl rfl (K1 _ rfl)
      replace hb := i_neg c23 hb
      by_cases c35 : ((xs (Int32.toNatClampNeg l4)) &&& 31) = 3
      · rw [show am_sw ((xs (Int32.toNatClampNeg l4)) &&& 31) 1157 [(0, 132), (1, 201), (2, 270), (3, 351), (4, 395), (5, 439), (6, 464), (7, 489), (8, 557), (9, 626), (10, 639), (11, 732), (12, 788), (13, 825), (14, 881), (15, 918), (16, 985), (17, 1052), (18, 1132)] = 351 from by rw [c35]; rfl]
        replace hb := i_pos c35 hb
        refine e_k 2 (f' := (353, [(0, .ref 1000000005), (1, .ref 0), (2, .ref 112), (3, .ref 168), (4, .int l4)], [.ref 168, .ref 0])) rfl ?_
        obtain ⟨v36, X36, I36, J36, h36, hb⟩ := ob_call hb
        have Kw36 : am_E (gG L xs) (d + 207) m_Law_law (356, [(0, .ref 1000000005), (1, .ref 0), (2, .ref 112), (3, .ref 168), (4, .int l4)], [.int v36]) (hX X36 I36 J36) P := by
          refine e_k 2 (f' := (359, [(5, .int v36), (0, .ref 1000000005), (1, .ref 0), (2, .ref 112), (3, .ref 168), (4, .int l4)], [.ref 112])) rfl ?_
          obtain ⟨v37, I37, J37, h37, hb⟩ := oc_call hb
          refine r_cv (z := m_Model_compile) (As := []) (rest := []) rfl rfl rfl rfl rfl (x_ltn rfl) rfl rfl (E_Model_compile  h37 ⟨_, rfl, ?_⟩)
          refine e_k 2 (f' := (365, [(6, .int v37), (5, .int v36), (0, .ref 1000000005), (1, .ref 0), (2, .ref 112), (3, .ref 168), (4, .int l4)], [.ref 112])) rfl ?_
          obtain ⟨v38, I38, J38, h38, hb⟩ := oc_call hb
          refine r_cv (z := m_Model_thrown) (As := []) (rest := []) rfl rfl rfl rfl rfl (x_ltn rfl) rfl rfl (E_Model_thrown  h38 ⟨_, rfl, ?_⟩)
          refine e_k 2 (f' := (if v38 = v36 then 375 else 373, [(6, .int v37), (5, .int v36), (0, .ref 1000000005), (1, .ref 0), (2, .ref 112), (3, .ref 168), (4, .int l4)], [])) rfl ?_
          refine e_if (fun c39 => ?_) (fun c39 => ?_)
          · replace hb := i_pos c39 hb
            refine e_k 2 (f' := (if ¬ v36 = 0 then 392 else 380, [(6, .int v37), (5, .int v36), (0, .ref 1000000005), (1, .ref 0), (2, .ref 112), (3, .ref 168), (4, .int l4)], [])) rfl ?_
            refine e_if (fun c40 => ?_) (fun c40 => ?_)
            · replace hb := i_pos c40 hb
              refine e_k 3 (f' := (23, [(4, .int (l4 + 6)), (6, .int v37), (5, .int v36), (0, .ref 1000000005), (1, .ref 0), (2, .ref 112), (3, .ref 168)], [])) rfl ?_
              refine e_sub (ls := [(0, .ref 1000000005), (1, .ref 0), (2, .ref 112), (3, .ref 168), (4, .int (l4 + 6))]) rfl ⟨rfl, rfl, rfl, rfl, rfl, trivial⟩ ?_
              exact ih  hb K1 K2
            · replace hb := i_neg c40 hb
              refine e_k 2 (f' := (382, [(6, .int v37), (5, .int v36), (0, .ref 1000000005), (1, .ref 0), (2, .ref 112), (3, .ref 168), (4, .int l4)], [.int 0, .ref 168])) rfl ?_
              obtain ⟨o41, hb⟩ := o8_call hb
              obtain ⟨o42, hb⟩ := ob_in hb
              refine r_lald rfl o41.2.1 o41.1 o41.2.2 o42 ?_
              refine e_k 4 (f' := (if (lg_cmp (J38 168 (Int32.toNatClampNeg 0)) (Int32.toInt64 v37)) = 0 then 392 else 390, [(6, .int v37), (5, .int v36), (0, .ref 1000000005), (1, .ref 0), (2, .ref 112), (3, .ref 168), (4, .int l4)], [])) rfl ?_
              refine e_if (fun c43 => ?_) (fun c43 => ?_)
              · replace hb := i_pos c43 hb
                refine e_k 3 (f' := (23, [(4, .int (l4 + 6)), (6, .int v37), (5, .int v36), (0, .ref 1000000005), (1, .ref 0), (2, .ref 112), (3, .ref 168)], [])) rfl ?_
                refine e_sub (ls := [(0, .ref 1000000005), (1, .ref 0), (2, .ref 112), (3, .ref 168), (4, .int (l4 + 6))]) rfl ⟨rfl, rfl, rfl, rfl, rfl, trivial⟩ ?_
                exact ih  hb K1 K2
              · replace hb := i_neg c43 hb
                refine e_k 1 (f' := (391, [(6, .int v37), (5, .int v36), (0, .ref 1000000005), (1, .ref 0), (2, .ref 112), (3, .ref 168), (4, .int l4)], [.int 0])) rfl ?_
                obtain ⟨rfl, rfl, rfl, rfl⟩ := s_inx hb
                exact e_r rfl rfl (K1 _ rfl)
          · replace hb := i_neg c39 hb
            refine e_k 1 (f' := (374, [(6, .int v37), (5, .int v36), (0, .ref 1000000005), (1, .ref 0), (2, .ref 112), (3, .ref 168), (4, .int l4)], [.int 0])) rfl ?_
            obtain ⟨rfl, rfl, rfl, rfl⟩ := s_inx hb
            exact e_r rfl rfl (K1 _ rfl)
        clear hb
        refine r_w (z := m_Law_compile) (As := [.ref 0, .ref 168]) (rest := []) rfl rfl rfl rfl rfl rfl ?_
        rcases oh_call h36 with z36 | ⟨e36, k36, Z36, z36, g36, rfl, rfl⟩
        · exact E_Law_compile  z36 (fun u eu => Or.inl ⟨_, rfl, by cases eu; exact Kw36⟩) (fun x ex => by cases ex)
        · exact E_Law_compile  z36 (fun u eu => by cases eu) (fun x ex => Or.inr ⟨x, _, rfl, by cases ex; exact g36, by cases ex; exact Kw36⟩)
      replace hb := i_neg c35 hb
      by_cases c44 : ((xs (Int32.toNatClampNeg l4)) &&& 31) = 4
      · rw [show am_sw ((xs (Int32.toNatClampNeg l4)) &&& 31) 1157 [(0, 132), (1, 201), (2, 270), (3, 351), (4, 395), (5, 439), (6, 464), (7, 489), (8, 557), (9, 626), (10, 639), (11, 732), (12, 788), (13, 825), (14, 881), (15, 918), (16, 985), (17, 1052), (18, 1132)] = 395 from by rw [c44]; rfl]
        replace hb := i_pos c44 hb
        refine e_k 2 (f' := (397, [(0, .ref 1000000005), (1, .ref 0), (2, .ref 112), (3, .ref 168), (4, .int l4)], [.ref 168, .ref 0])) rfl ?_
        obtain ⟨v45, X45, I45, J45, h45, hb⟩ := ob_call hb
        have Kw45 : am_E (gG L xs) (d + 207) m_Law_law (400, [(0, .ref 1000000005), (1, .ref 0), (2, .ref 112), (3, .ref 168), (4, .int l4)], [.int v45]) (hX X45 I45 J45) P := by
          refine e_k 2 (f' := (403, [(5, .int v45), (0, .ref 1000000005), (1, .ref 0), (2, .ref 112), (3, .ref 168), (4, .int l4)], [.ref 112])) rfl ?_
          obtain ⟨v46, I46, J46, h46, hb⟩ := oc_call hb
          refine r_cv (z := m_Model_load) (As := []) (rest := []) rfl rfl rfl rfl rfl (x_ltn rfl) rfl rfl (E_Model_load  h46 ⟨_, rfl, ?_⟩)
          refine e_k 2 (f' := (409, [(6, .int v46), (5, .int v45), (0, .ref 1000000005), (1, .ref 0), (2, .ref 112), (3, .ref 168), (4, .int l4)], [.ref 112])) rfl ?_
          obtain ⟨v47, I47, J47, h47, hb⟩ := oc_call hb
          refine r_cv (z := m_Model_thrown) (As := []) (rest := []) rfl rfl rfl rfl rfl (x_ltn rfl) rfl rfl (E_Model_thrown  h47 ⟨_, rfl, ?_⟩)
          refine e_k 2 (f' := (if v47 = v45 then 419 else 417, [(6, .int v46), (5, .int v45), (0, .ref 1000000005), (1, .ref 0), (2, .ref 112), (3, .ref 168), (4, .int l4)], [])) rfl ?_
          refine e_if (fun c48 => ?_) (fun c48 => ?_)
          · replace hb := i_pos c48 hb
            refine e_k 2 (f' := (if ¬ v45 = 0 then 436 else 424, [(6, .int v46), (5, .int v45), (0, .ref 1000000005), (1, .ref 0), (2, .ref 112), (3, .ref 168), (4, .int l4)], [])) rfl ?_
            refine e_if (fun c49 => ?_) (fun c49 => ?_)
            · replace hb := i_pos c49 hb
              refine e_k 3 (f' := (23, [(4, .int (l4 + 6)), (6, .int v46), (5, .int v45), (0, .ref 1000000005), (1, .ref 0), (2, .ref 112), (3, .ref 168)], [])) rfl ?_
              refine e_sub (ls := [(0, .ref 1000000005), (1, .ref 0), (2, .ref 112), (3, .ref 168), (4, .int (l4 + 6))]) rfl ⟨rfl, rfl, rfl, rfl, rfl, trivial⟩ ?_
              exact ih  hb K1 K2
            · replace hb := i_neg c49 hb
              refine e_k 2 (f' := (426, [(6, .int v46), (5, .int v45), (0, .ref 1000000005), (1, .ref 0), (2, .ref 112), (3, .ref 168), (4, .int l4)], [.int 0, .ref 168])) rfl ?_
              obtain ⟨o50, hb⟩ := o8_call hb
              obtain ⟨o51, hb⟩ := ob_in hb
              refine r_lald rfl o50.2.1 o50.1 o50.2.2 o51 ?_
              refine e_k 4 (f' := (if (lg_cmp (J47 168 (Int32.toNatClampNeg 0)) (Int32.toInt64 v46)) = 0 then 436 else 434, [(6, .int v46), (5, .int v45), (0, .ref 1000000005), (1, .ref 0), (2, .ref 112), (3, .ref 168), (4, .int l4)], [])) rfl ?_
              refine e_if (fun c52 => ?_) (fun c52 => ?_)
              · replace hb := i_pos c52 hb
                refine e_k 3 (f' := (23, [(4, .int (l4 + 6)), (6, .int v46), (5, .int v45), (0, .ref 1000000005), (1, .ref 0), (2, .ref 112), (3, .ref 168)], [])) rfl ?_
                refine e_sub (ls := [(0, .ref 1000000005), (1, .ref 0), (2, .ref 112), (3, .ref 168), (4, .int (l4 + 6))]) rfl ⟨rfl, rfl, rfl, rfl, rfl, trivial⟩ ?_
                exact ih  hb K1 K2
              · replace hb := i_neg c52 hb
                refine e_k 1 (f' := (435, [(6, .int v46), (5, .int v45), (0, .ref 1000000005), (1, .ref 0), (2, .ref 112), (3, .ref 168), (4, .int l4)], [.int 0])) rfl ?_
                obtain ⟨rfl, rfl, rfl, rfl⟩ := s_inx hb
                exact e_r rfl rfl (K1 _ rfl)
          · replace hb := i_neg c48 hb
            refine e_k 1 (f' := (418, [(6, .int v46), (5, .int v45), (0, .ref 1000000005), (1, .ref 0), (2, .ref 112), (3, .ref 168), (4, .int l4)], [.int 0])) rfl ?_
            obtain ⟨rfl, rfl, rfl, rfl⟩ := s_inx hb
            exact e_r rfl rfl (K1 _ rfl)
        clear hb
        refine r_w (z := m_Law_load) (As := [.ref 0, .ref 168]) (rest := []) rfl rfl rfl rfl rfl rfl ?_
        rcases oh_call h45 with z45 | ⟨e45, k45, Z45, z45, g45, rfl, rfl⟩
        · exact E_Law_load  z45 (fun u eu => Or.inl ⟨_, rfl, by cases eu; exact Kw45⟩) (fun x ex => by cases ex)
        · exact E_Law_load  z45 (fun u eu => by cases eu) (fun x ex => Or.inr ⟨x, _, rfl, by cases ex; exact g45, by cases ex; exact Kw45⟩)
      replace hb := i_neg c44 hb
      by_cases c53 : ((xs (Int32.toNatClampNeg l4)) &&& 31) = 5
      · rw [show am_sw ((xs (Int32.toNatClampNeg l4)) &&& 31) 1157 [(0, 132), (1, 201), (2, 270), (3, 351), (4, 395), (5, 439), (6, 464), (7, 489), (8, 557), (9, 626), (10, 639), (11, 732), (12, 788), (13, 825), (14, 881), (15, 918), (16, 985), (17, 1052), (18, 1132)] = 439 from by rw [c53]; rfl]
        replace hb := i_pos c53 hb
        refine e_k 5 (f' := (445, [(0, .ref 1000000005), (1, .ref 0), (2, .ref 112), (3, .ref 168), (4, .int l4)], [.int (l4 + 1), .ref 1000000005, .ref 0])) rfl ?_
        obtain ⟨o54, hb⟩ := ob_in hb
        refine r_tald (k := 5) rfl (by decide) rfl o54 ?_
        obtain ⟨v55, I55, J55, h55, hb⟩ := oc_call hb
        refine r_cv (z := m_Sh_fault) (As := [.int (xs (Int32.toNatClampNeg (l4 + 1)))]) (rest := []) rfl rfl rfl rfl rfl (x_ltn rfl) rfl rfl (E_Sh_fault  h55 ⟨_, rfl, ?_⟩)
        refine e_k 5 (f' := (455, [(0, .ref 1000000005), (1, .ref 0), (2, .ref 112), (3, .ref 168), (4, .int l4)], [.int (l4 + 1), .ref 1000000005, .ref 112, .int v55])) rfl ?_
        obtain ⟨o56, hb⟩ := ob_in hb
        refine r_tald (k := 5) rfl (by decide) rfl o56 ?_
        obtain ⟨v57, I57, J57, h57, hb⟩ := oc_call hb
        refine r_cv (z := m_Model_fault) (As := [.int (xs (Int32.toNatClampNeg (l4 + 1)))]) (rest := [.int v55]) rfl rfl rfl rfl rfl (x_ltn rfl) rfl rfl (E_Model_fault  h57 ⟨_, rfl, ?_⟩)
        refine e_k 1 (f' := (if v55 = v57 then 1157 else 462, [(0, .ref 1000000005), (1, .ref 0), (2, .ref 112), (3, .ref 168), (4, .int l4)], [])) rfl ?_
        refine e_if (fun c58 => ?_) (fun c58 => ?_)
        · replace hb := i_pos c58 hb
          refine e_k 2 (f' := (23, [(4, .int (l4 + 6)), (0, .ref 1000000005), (1, .ref 0), (2, .ref 112), (3, .ref 168)], [])) rfl ?_
          refine e_sub (ls := [(0, .ref 1000000005), (1, .ref 0), (2, .ref 112), (3, .ref 168), (4, .int (l4 + 6))]) rfl ⟨rfl, rfl, rfl, rfl, rfl, trivial⟩ ?_
          exact ih  hb K1 K2
        · replace hb := i_neg c58 hb
          refine e_k 1 (f' := (463, [(0, .ref 1000000005), (1, .ref 0), (2, .ref 112), (3, .ref 168), (4, .int l4)], [.int 0])) rfl ?_
          obtain ⟨rfl, rfl, rfl, rfl⟩ := s_inx hb
          exact e_r rfl rfl (K1 _ rfl)
      replace hb := i_neg c53 hb
      by_cases c59 : ((xs (Int32.toNatClampNeg l4)) &&& 31) = 6
      · rw [show am_sw ((xs (Int32.toNatClampNeg l4)) &&& 31) 1157 [(0, 132), (1, 201), (2, 270), (3, 351), (4, 395), (5, 439), (6, 464), (7, 489), (8, 557), (9, 626), (10, 639), (11, 732), (12, 788), (13, 825), (14, 881), (15, 918), (16, 985), (17, 1052), (18, 1132)] = 464 from by rw [c59]; rfl]
        replace hb := i_pos c59 hb
        refine e_k 5 (f' := (470, [(0, .ref 1000000005), (1, .ref 0), (2, .ref 112), (3, .ref 168), (4, .int l4)], [.int (l4 + 1), .ref 1000000005, .ref 0])) rfl ?_
        obtain ⟨o60, hb⟩ := ob_in hb
        refine r_tald (k := 5) rfl (by decide) rfl o60 ?_
        obtain ⟨v61, I61, J61, h61, hb⟩ := oc_call hb
        refine r_cv (z := m_Sh_code) (As := [.int (xs (Int32.toNatClampNeg (l4 + 1)))]) (rest := []) rfl rfl rfl rfl rfl (x_ltn rfl) rfl rfl (E_Sh_code  h61 ⟨_, rfl, ?_⟩)
        refine e_k 5 (f' := (480, [(0, .ref 1000000005), (1, .ref 0), (2, .ref 112), (3, .ref 168), (4, .int l4)], [.int (l4 + 1), .ref 1000000005, .ref 112, .int v61])) rfl ?_
        obtain ⟨o62, hb⟩ := ob_in hb
        refine r_tald (k := 5) rfl (by decide) rfl o62 ?_
        obtain ⟨v63, I63, J63, h63, hb⟩ := oc_call hb
        refine r_cv (z := m_Model_code) (As := [.int (xs (Int32.toNatClampNeg (l4 + 1)))]) (rest := [.int v61]) rfl rfl rfl rfl rfl (x_ltn rfl) rfl rfl (E_Model_code  h63 ⟨_, rfl, ?_⟩)
        refine e_k 1 (f' := (if v61 = v63 then 1157 else 487, [(0, .ref 1000000005), (1, .ref 0), (2, .ref 112), (3, .ref 168), (4, .int l4)], [])) rfl ?_
        refine e_if (fun c64 => ?_) (fun c64 => ?_)
        · replace hb := i_pos c64 hb
          refine e_k 2 (f' := (23, [(4, .int (l4 + 6)), (0, .ref 1000000005), (1, .ref 0), (2, .ref 112), (3, .ref 168)], [])) rfl ?_
          refine e_sub (ls := [(0, .ref 1000000005), (1, .ref 0), (2, .ref 112), (3, .ref 168), (4, .int (l4 + 6))]) rfl ⟨rfl, rfl, rfl, rfl, rfl, trivial⟩ ?_
          exact ih  hb K1 K2
        · replace hb := i_neg c64 hb
          refine e_k 1 (f' := (488, [(0, .ref 1000000005), (1, .ref 0), (2, .ref 112), (3, .ref 168), (4, .int l4)], [.int 0])) rfl ?_
          obtain ⟨rfl, rfl, rfl, rfl⟩ := s_inx hb
          exact e_r rfl rfl (K1 _ rfl)
      replace hb := i_neg c59 hb
      by_cases c65 : ((xs (Int32.toNatClampNeg l4)) &&& 31) = 7
      · rw [show am_sw ((xs (Int32.toNatClampNeg l4)) &&& 31) 1157 [(0, 132), (1, 201), (2, 270), (3, 351), (4, 395), (5, 439), (6, 464), (7, 489), (8, 557), (9, 626), (10, 639), (11, 732), (12, 788), (13, 825), (14, 881), (15, 918), (16, 985), (17, 1052), (18, 1132)] = 489 from by rw [c65]; rfl]
        replace hb := i_pos c65 hb
        refine e_k 5 (f' := (495, [(0, .ref 1000000005), (1, .ref 0), (2, .ref 112), (3, .ref 168), (4, .int l4)], [.int (l4 + 1), .ref 1000000005, .ref 0])) rfl ?_
        obtain ⟨o66, hb⟩ := ob_in hb
        refine r_tald (k := 5) rfl (by decide) rfl o66 ?_
        refine e_k 4 (f' := (501, [(0, .ref 1000000005), (1, .ref 0), (2, .ref 112), (3, .ref 168), (4, .int l4)], [.int (l4 + 2), .ref 1000000005, .int (xs (Int32.toNatClampNeg (l4 + 1))), .ref 0])) rfl ?_
        obtain ⟨o67, hb⟩ := ob_in hb
        refine r_tald (k := 5) rfl (by decide) rfl o67 ?_
        refine e_k 1 (f' := (503, [(0, .ref 1000000005), (1, .ref 0), (2, .ref 112), (3, .ref 168), (4, .int l4)], [.ref 168, .int (xs (Int32.toNatClampNeg (l4 + 2))), .int (xs (Int32.toNatClampNeg (l4 + 1))), .ref 0])) rfl ?_
        obtain ⟨v68, X68, I68, J68, h68, hb⟩ := ob_call hb
        have Kw68 : am_E (gG L xs) (d + 207) m_Law_law (506, [(0, .ref 1000000005), (1, .ref 0), (2, .ref 112), (3, .ref 168), (4, .int l4)], [.int v68]) (hX X68 I68 J68) P := by
          refine e_k 6 (f' := (514, [(5, .int v68), (0, .ref 1000000005), (1, .ref 0), (2, .ref 112), (3, .ref 168), (4, .int l4)], [.int (l4 + 1), .ref 1000000005, .ref 112])) rfl ?_
          obtain ⟨o69, hb⟩ := ob_in hb
          refine r_tald (k := 5) rfl (by decide) rfl o69 ?_
          refine e_k 4 (f' := (520, [(5, .int v68), (0, .ref 1000000005), (1, .ref 0), (2, .ref 112), (3, .ref 168), (4, .int l4)], [.int (l4 + 2), .ref 1000000005, .int (xs (Int32.toNatClampNeg (l4 + 1))), .ref 112])) rfl ?_
          obtain ⟨o70, hb⟩ := ob_in hb
          refine r_tald (k := 5) rfl (by decide) rfl o70 ?_
          obtain ⟨v71, I71, J71, h71, hb⟩ := oc_call hb
          refine r_cv (z := m_Model_deal) (As := [.int (xs (Int32.toNatClampNeg (l4 + 1))), .int (xs (Int32.toNatClampNeg (l4 + 2)))]) (rest := []) rfl rfl rfl rfl rfl (x_ltn rfl) rfl rfl (E_Model_deal  h71 ⟨_, rfl, ?_⟩)
          refine e_k 2 (f' := (527, [(6, .int v71), (5, .int v68), (0, .ref 1000000005), (1, .ref 0), (2, .ref 112), (3, .ref 168), (4, .int l4)], [.ref 112])) rfl ?_
          obtain ⟨v72, I72, J72, h72, hb⟩ := oc_call hb
          refine r_cv (z := m_Model_thrown) (As := []) (rest := []) rfl rfl rfl rfl rfl (x_ltn rfl) rfl rfl (E_Model_thrown  h72 ⟨_, rfl, ?_⟩)
          refine e_k 2 (f' := (if v72 = v68 then 537 else 535, [(6, .int v71), (5, .int v68), (0, .ref 1000000005), (1, .ref 0), (2, .ref 112), (3, .ref 168), (4, .int l4)], [])) rfl ?_
          refine e_if (fun c73 => ?_) (fun c73 => ?_)
          · replace hb := i_pos c73 hb
            refine e_k 2 (f' := (if ¬ v68 = 0 then 554 else 542, [(6, .int v71), (5, .int v68), (0, .ref 1000000005), (1, .ref 0), (2, .ref 112), (3, .ref 168), (4, .int l4)], [])) rfl ?_
            refine e_if (fun c74 => ?_) (fun c74 => ?_)
            · replace hb := i_pos c74 hb
              refine e_k 3 (f' := (23, [(4, .int (l4 + 6)), (6, .int v71), (5, .int v68), (0, .ref 1000000005), (1, .ref 0), (2, .ref 112), (3, .ref 168)], [])) rfl ?_
              refine e_sub (ls := [(0, .ref 1000000005), (1, .ref 0), (2, .ref 112), (3, .ref 168), (4, .int (l4 + 6))]) rfl ⟨rfl, rfl, rfl, rfl, rfl, trivial⟩ ?_
              exact ih  hb K1 K2
            · replace hb := i_neg c74 hb
              refine e_k 2 (f' := (544, [(6, .int v71), (5, .int v68), (0, .ref 1000000005), (1, .ref 0), (2, .ref 112), (3, .ref 168), (4, .int l4)], [.int 0, .ref 168])) rfl ?_
              obtain ⟨o75, hb⟩ := o8_call hb
              obtain ⟨o76, hb⟩ := ob_in hb
              refine r_lald rfl o75.2.1 o75.1 o75.2.2 o76 ?_
              refine e_k 4 (f' := (if (lg_cmp (J72 168 (Int32.toNatClampNeg 0)) (Int32.toInt64 v71)) = 0 then 554 else 552, [(6, .int v71), (5, .int v68), (0, .ref 1000000005), (1, .ref 0), (2, .ref 112), (3, .ref 168), (4, .int l4)], [])) rfl ?_
              refine e_if (fun c77 => ?_) (fun c77 => ?_)
              · replace hb := i_pos c77 hb
                refine e_k 3 (f' := (23, [(4, .int (l4 + 6)), (6, .int v71), (5, .int v68), (0, .ref 1000000005), (1, .ref 0), (2, .ref 112), (3, .ref 168)], [])) rfl ?_
                refine e_sub (ls := [(0, .ref 1000000005), (1, .ref 0), (2, .ref 112), (3, .ref 168), (4, .int (l4 + 6))]) rfl ⟨rfl, rfl, rfl, rfl, rfl, trivial⟩ ?_
                exact ih  hb K1 K2
              · replace hb := i_neg c77 hb
                refine e_k 1 (f' := (553, [(6, .int v71), (5, .int v68), (0, .ref 1000000005), (1, .ref 0), (2, .ref 112), (3, .ref 168), (4, .int l4)], [.int 0])) rfl ?_
                obtain ⟨rfl, rfl, rfl, rfl⟩ := s_inx hb
                exact e_r rfl rfl (K1 _ rfl)
          · replace hb := i_neg c73 hb
            refine e_k 1 (f' := (536, [(6, .int v71), (5, .int v68), (0, .ref 1000000005), (1, .ref 0), (2, .ref 112), (3, .ref 168), (4, .int l4)], [.int 0])) rfl ?_
            obtain ⟨rfl, rfl, rfl, rfl⟩ := s_inx hb
            exact e_r rfl rfl (K1 _ rfl)
        clear hb
        refine r_w (z := m_Law_deal) (As := [.ref 0, .int (xs (Int32.toNatClampNeg (l4 + 1))), .int (xs (Int32.toNatClampNeg (l4 + 2))), .ref 168]) (rest := []) rfl rfl rfl rfl rfl rfl ?_
        rcases oh_call h68 with z68 | ⟨e68, k68, Z68, z68, g68, rfl, rfl⟩
        · exact E_Law_deal  z68 (fun u eu => Or.inl ⟨_, rfl, by cases eu; exact Kw68⟩) (fun x ex => by cases ex)
        · exact E_Law_deal  z68 (fun u eu => by cases eu) (fun x ex => Or.inr ⟨x, _, rfl, by cases ex; exact g68, by cases ex; exact Kw68⟩)
      replace hb := i_neg c65 hb
      by_cases c78 : ((xs (Int32.toNatClampNeg l4)) &&& 31) = 8
      · rw [show am_sw ((xs (Int32.toNatClampNeg l4)) &&& 31) 1157 [(0, 132), (1, 201), (2, 270), (3, 351), (4, 395), (5, 439), (6, 464), (7, 489), (8, 557), (9, 626), (10, 639), (11, 732), (12, 788), (13, 825), (14, 881), (15, 918), (16, 985), (17, 1052), (18, 1132)] = 557 from by rw [c78]; rfl]
        replace hb := i_pos c78 hb
        refine e_k 5 (f' := (563, [(0, .ref 1000000005), (1, .ref 0), (2, .ref 112), (3, .ref 168), (4, .int l4)], [.int (l4 + 1), .ref 1000000005, .ref 0])) rfl ?_
        obtain ⟨o79, hb⟩ := ob_in hb
        refine r_tald (k := 5) rfl (by decide) rfl o79 ?_
        refine e_k 4 (f' := (569, [(0, .ref 1000000005), (1, .ref 0), (2, .ref 112), (3, .ref 168), (4, .int l4)], [.int (l4 + 2), .ref 1000000005, .int (xs (Int32.toNatClampNeg (l4 + 1))), .ref 0])) rfl ?_
        obtain ⟨o80, hb⟩ := ob_in hb
        refine r_tald (k := 5) rfl (by decide) rfl o80 ?_
        refine e_k 7 (f' := (579, [(0, .ref 1000000005), (1, .ref 0), (2, .ref 112), (3, .ref 168), (4, .int l4)], [.int (l4 + 3), .ref 1000000005, .long ((Int32.toInt64 (xs (Int32.toNatClampNeg (l4 + 2)))) <<< ((Int32.toInt64 32) &&& 63)), .int (xs (Int32.toNatClampNeg (l4 + 1))), .ref 0])) rfl ?_
        obtain ⟨o81, hb⟩ := ob_in hb
        refine r_tald (k := 5) rfl (by decide) rfl o81 ?_
        refine e_k 4 (f' := (586, [(0, .ref 1000000005), (1, .ref 0), (2, .ref 112), (3, .ref 168), (4, .int l4)], [.long (((Int32.toInt64 (xs (Int32.toNatClampNeg (l4 + 2)))) <<< ((Int32.toInt64 32) &&& 63)) ||| ((Int32.toInt64 (xs (Int32.toNatClampNeg (l4 + 3)))) &&& 4294967295)), .int (xs (Int32.toNatClampNeg (l4 + 1))), .ref 0])) rfl ?_
        obtain ⟨v82, I82, J82, h82, hb⟩ := oc_call hb
        refine r_cv (z := m_Sh_give) (As := [.int (xs (Int32.toNatClampNeg (l4 + 1))), .long (((Int32.toInt64 (xs (Int32.toNatClampNeg (l4 + 2)))) <<< ((Int32.toInt64 32) &&& 63)) ||| ((Int32.toInt64 (xs (Int32.toNatClampNeg (l4 + 3)))) &&& 4294967295))]) (rest := []) rfl rfl rfl rfl rfl (x_ltn rfl) rfl rfl (E_Sh_give  h82 ⟨_, rfl, ?_⟩)
        refine e_k 5 (f' := (595, [(0, .ref 1000000005), (1, .ref 0), (2, .ref 112), (3, .ref 168), (4, .int l4)], [.int (l4 + 1), .ref 1000000005, .ref 112, .int v82])) rfl ?_
        obtain ⟨o83, hb⟩ := ob_in hb
        refine r_tald (k := 5) rfl (by decide) rfl o83 ?_
        refine e_k 4 (f' := (601, [(0, .ref 1000000005), (1, .ref 0), (2, .ref 112), (3, .ref 168), (4, .int l4)], [.int (l4 + 2), .ref 1000000005, .int (xs (Int32.toNatClampNeg (l4 + 1))), .ref 112, .int v82])) rfl ?_
        obtain ⟨o84, hb⟩ := ob_in hb
        refine r_tald (k := 5) rfl (by decide) rfl o84 ?_
        refine e_k 7 (f' := (611, [(0, .ref 1000000005), (1, .ref 0), (2, .ref 112), (3, .ref 168), (4, .int l4)], [.int (l4 + 3), .ref 1000000005, .long ((Int32.toInt64 (xs (Int32.toNatClampNeg (l4 + 2)))) <<< ((Int32.toInt64 32) &&& 63)), .int (xs (Int32.toNatClampNeg (l4 + 1))), .ref 112, .int v82])) rfl ?_
        obtain ⟨o85, hb⟩ := ob_in hb
        refine r_tald (k := 5) rfl (by decide) rfl o85 ?_
        refine e_k 4 (f' := (618, [(0, .ref 1000000005), (1, .ref 0), (2, .ref 112), (3, .ref 168), (4, .int l4)], [.long (((Int32.toInt64 (xs (Int32.toNatClampNeg (l4 + 2)))) <<< ((Int32.toInt64 32) &&& 63)) ||| ((Int32.toInt64 (xs (Int32.toNatClampNeg (l4 + 3)))) &&& 4294967295)), .int (xs (Int32.toNatClampNeg (l4 + 1))), .ref 112, .int v82])) rfl ?_
        obtain ⟨v86, I86, J86, h86, hb⟩ := oc_call hb
        refine r_cv (z := m_Model_give) (As := [.int (xs (Int32.toNatClampNeg (l4 + 1))), .long (((Int32.toInt64 (xs (Int32.toNatClampNeg (l4 + 2)))) <<< ((Int32.toInt64 32) &&& 63)) ||| ((Int32.toInt64 (xs (Int32.toNatClampNeg (l4 + 3)))) &&& 4294967295))]) (rest := [.int v82]) rfl rfl rfl rfl rfl (x_ltn rfl) rfl rfl (E_Model_give  h86 ⟨_, rfl, ?_⟩)
        refine e_k 1 (f' := (if v82 = v86 then 1157 else 624, [(0, .ref 1000000005), (1, .ref 0), (2, .ref 112), (3, .ref 168), (4, .int l4)], [])) rfl ?_
        refine e_if (fun c87 => ?_) (fun c87 => ?_)
        · replace hb := i_pos c87 hb
          refine e_k 2 (f' := (23, [(4, .int (l4 + 6)), (0, .ref 1000000005), (1, .ref 0), (2, .ref 112), (3, .ref 168)], [])) rfl ?_
          refine e_sub (ls := [(0, .ref 1000000005), (1, .ref 0), (2, .ref 112), (3, .ref 168), (4, .int (l4 + 6))]) rfl ⟨rfl, rfl, rfl, rfl, rfl, trivial⟩ ?_
          exact ih  hb K1 K2
        · replace hb := i_neg c87 hb
          refine e_k 1 (f' := (625, [(0, .ref 1000000005), (1, .ref 0), (2, .ref 112), (3, .ref 168), (4, .int l4)], [.int 0])) rfl ?_
          obtain ⟨rfl, rfl, rfl, rfl⟩ := s_inx hb
          exact e_r rfl rfl (K1 _ rfl)
      replace hb := i_neg c78 hb
      by_cases c88 : ((xs (Int32.toNatClampNeg l4)) &&& 31) = 9
      · rw [show am_sw ((xs (Int32.toNatClampNeg l4)) &&& 31) 1157 [(0, 132), (1, 201), (2, 270), (3, 351), (4, 395), (5, 439), (6, 464), (7, 489), (8, 557), (9, 626), (10, 639), (11, 732), (12, 788), (13, 825), (14, 881), (15, 918), (16, 985), (17, 1052), (18, 1132)] = 626 from by rw [c88]; rfl]
        replace hb := i_pos c88 hb
        refine e_k 1 (f' := (627, [(0, .ref 1000000005), (1, .ref 0), (2, .ref 112), (3, .ref 168), (4, .int l4)], [.ref 0])) rfl ?_
        obtain ⟨v89, I89, J89, h89, hb⟩ := oc_call hb
        refine r_cv (z := m_Sh_begin) (As := []) (rest := []) rfl rfl rfl rfl rfl (x_ltn rfl) rfl rfl (E_Sh_begin  h89 ⟨_, rfl, ?_⟩)
        refine e_k 1 (f' := (631, [(0, .ref 1000000005), (1, .ref 0), (2, .ref 112), (3, .ref 168), (4, .int l4)], [.ref 112, .int v89])) rfl ?_
        obtain ⟨v90, I90, J90, h90, hb⟩ := oc_call hb
        refine r_cv (z := m_Model_begin) (As := []) (rest := [.int v89]) rfl rfl rfl rfl rfl (x_ltn rfl) rfl rfl (E_Model_begin  h90 ⟨_, rfl, ?_⟩)
        refine e_k 1 (f' := (if v89 = v90 then 1157 else 637, [(0, .ref 1000000005), (1, .ref 0), (2, .ref 112), (3, .ref 168), (4, .int l4)], [])) rfl ?_
        refine e_if (fun c91 => ?_) (fun c91 => ?_)
        · replace hb := i_pos c91 hb
          refine e_k 2 (f' := (23, [(4, .int (l4 + 6)), (0, .ref 1000000005), (1, .ref 0), (2, .ref 112), (3, .ref 168)], [])) rfl ?_
          refine e_sub (ls := [(0, .ref 1000000005), (1, .ref 0), (2, .ref 112), (3, .ref 168), (4, .int (l4 + 6))]) rfl ⟨rfl, rfl, rfl, rfl, rfl, trivial⟩ ?_
          exact ih  hb K1 K2
        · replace hb := i_neg c91 hb
          refine e_k 1 (f' := (638, [(0, .ref 1000000005), (1, .ref 0), (2, .ref 112), (3, .ref 168), (4, .int l4)], [.int 0])) rfl ?_
          obtain ⟨rfl, rfl, rfl, rfl⟩ := s_inx hb
          exact e_r rfl rfl (K1 _ rfl)
      replace hb := i_neg c88 hb
      by_cases c92 : ((xs (Int32.toNatClampNeg l4)) &&& 31) = 10
      · rw [show am_sw ((xs (Int32.toNatClampNeg l4)) &&& 31) 1157 [(0, 132), (1, 201), (2, 270), (3, 351), (4, 395), (5, 439), (6, 464), (7, 489), (8, 557), (9, 626), (10, 639), (11, 732), (12, 788), (13, 825), (14, 881), (15, 918), (16, 985), (17, 1052), (18, 1132)] = 639 from by rw [c92]; rfl]
        replace hb := i_pos c92 hb
        refine e_k 5 (f' := (645, [(0, .ref 1000000005), (1, .ref 0), (2, .ref 112), (3, .ref 168), (4, .int l4)], [.int (l4 + 1), .ref 1000000005, .ref 0])) rfl ?_
        obtain ⟨o93, hb⟩ := ob_in hb
        refine r_tald (k := 5) rfl (by decide) rfl o93 ?_
        refine e_k 4 (f' := (651, [(0, .ref 1000000005), (1, .ref 0), (2, .ref 112), (3, .ref 168), (4, .int l4)], [.int (l4 + 2), .ref 1000000005, .int (xs (Int32.toNatClampNeg (l4 + 1))), .ref 0])) rfl ?_
        obtain ⟨o94, hb⟩ := ob_in hb
        refine r_tald (k := 5) rfl (by decide) rfl o94 ?_
        refine e_k 4 (f' := (657, [(0, .ref 1000000005), (1, .ref 0), (2, .ref 112), (3, .ref 168), (4, .int l4)], [.int (l4 + 3), .ref 1000000005, .int (xs (Int32.toNatClampNeg (l4 + 2))), .int (xs (Int32.toNatClampNeg (l4 + 1))), .ref 0])) rfl ?_
        obtain ⟨o95, hb⟩ := ob_in hb
        refine r_tald (k := 5) rfl (by decide) rfl o95 ?_
        refine e_k 4 (f' := (663, [(0, .ref 1000000005), (1, .ref 0), (2, .ref 112), (3, .ref 168), (4, .int l4)], [.int (l4 + 4), .ref 1000000005, .int (xs (Int32.toNatClampNeg (l4 + 3))), .int (xs (Int32.toNatClampNeg (l4 + 2))), .int (xs (Int32.toNatClampNeg (l4 + 1))), .ref 0])) rfl ?_
        obtain ⟨o96, hb⟩ := ob_in hb
        refine r_tald (k := 5) rfl (by decide) rfl o96 ?_
        refine e_k 7 (f' := (673, [(0, .ref 1000000005), (1, .ref 0), (2, .ref 112), (3, .ref 168), (4, .int l4)], [.int (l4 + 5), .ref 1000000005, .long ((Int32.toInt64 (xs (Int32.toNatClampNeg (l4 + 4)))) <<< ((Int32.toInt64 32) &&& 63)), .int (xs (Int32.toNatClampNeg (l4 + 3))), .int (xs (Int32.toNatClampNeg (l4 + 2))), .int (xs (Int32.toNatClampNeg (l4 + 1))), .ref 0])) rfl ?_
        obtain ⟨o97, hb⟩ := ob_in hb
        refine r_tald (k := 5) rfl (by decide) rfl o97 ?_
        refine e_k 4 (f' := (680, [(0, .ref 1000000005), (1, .ref 0), (2, .ref 112), (3, .ref 168), (4, .int l4)], [.long (((Int32.toInt64 (xs (Int32.toNatClampNeg (l4 + 4)))) <<< ((Int32.toInt64 32) &&& 63)) ||| ((Int32.toInt64 (xs (Int32.toNatClampNeg (l4 + 5)))) &&& 4294967295)), .int (xs (Int32.toNatClampNeg (l4 + 3))), .int (xs (Int32.toNatClampNeg (l4 + 2))), .int (xs (Int32.toNatClampNeg (l4 + 1))), .ref 0])) rfl ?_
        obtain ⟨v98, I98, J98, h98, hb⟩ := oc_call hb
        refine r_cv (z := m_Sh_tamper) (As := [.int (xs (Int32.toNatClampNeg (l4 + 1))), .int (xs (Int32.toNatClampNeg (l4 + 2))), .int (xs (Int32.toNatClampNeg (l4 + 3))), .long (((Int32.toInt64 (xs (Int32.toNatClampNeg (l4 + 4)))) <<< ((Int32.toInt64 32) &&& 63)) ||| ((Int32.toInt64 (xs (Int32.toNatClampNeg (l4 + 5)))) &&& 4294967295))]) (rest := []) rfl rfl rfl rfl rfl (x_ltn rfl) rfl rfl (E_Sh_tamper  h98 ⟨_, rfl, ?_⟩)
        refine e_k 5 (f' := (689, [(0, .ref 1000000005), (1, .ref 0), (2, .ref 112), (3, .ref 168), (4, .int l4)], [.int (l4 + 1), .ref 1000000005, .ref 112, .int v98])) rfl ?_
        obtain ⟨o99, hb⟩ := ob_in hb
        refine r_tald (k := 5) rfl (by decide) rfl o99 ?_
        refine e_k 4 (f' := (695, [(0, .ref 1000000005), (1, .ref 0), (2, .ref 112), (3, .ref 168), (4, .int l4)], [.int (l4 + 2), .ref 1000000005, .int (xs (Int32.toNatClampNeg (l4 + 1))), .ref 112, .int v98])) rfl ?_
        obtain ⟨o100, hb⟩ := ob_in hb
        refine r_tald (k := 5) rfl (by decide) rfl o100 ?_
        refine e_k 4 (f' := (701, [(0, .ref 1000000005), (1, .ref 0), (2, .ref 112), (3, .ref 168), (4, .int l4)], [.int (l4 + 3), .ref 1000000005, .int (xs (Int32.toNatClampNeg (l4 + 2))), .int (xs (Int32.toNatClampNeg (l4 + 1))), .ref 112, .int v98])) rfl ?_
        obtain ⟨o101, hb⟩ := ob_in hb
        refine r_tald (k := 5) rfl (by decide) rfl o101 ?_
        refine e_k 4 (f' := (707, [(0, .ref 1000000005), (1, .ref 0), (2, .ref 112), (3, .ref 168), (4, .int l4)], [.int (l4 + 4), .ref 1000000005, .int (xs (Int32.toNatClampNeg (l4 + 3))), .int (xs (Int32.toNatClampNeg (l4 + 2))), .int (xs (Int32.toNatClampNeg (l4 + 1))), .ref 112, .int v98])) rfl ?_
        obtain ⟨o102, hb⟩ := ob_in hb
        refine r_tald (k := 5) rfl (by decide) rfl o102 ?_
        refine e_k 7 (f' := (717, [(0, .ref 1000000005), (1, .ref 0), (2, .ref 112), (3, .ref 168), (4, .int l4)], [.int (l4 + 5), .ref 1000000005, .long ((Int32.toInt64 (xs (Int32.toNatClampNeg (l4 + 4)))) <<< ((Int32.toInt64 32) &&& 63)), .int (xs (Int32.toNatClampNeg (l4 + 3))), .int (xs (Int32.toNatClampNeg (l4 + 2))), .int (xs (Int32.toNatClampNeg (l4 + 1))), .ref 112, .int v98])) rfl ?_
        obtain ⟨o103, hb⟩ := ob_in hb
        refine r_tald (k := 5) rfl (by decide) rfl o103 ?_
        refine e_k 4 (f' := (724, [(0, .ref 1000000005), (1, .ref 0), (2, .ref 112), (3, .ref 168), (4, .int l4)], [.long (((Int32.toInt64 (xs (Int32.toNatClampNeg (l4 + 4)))) <<< ((Int32.toInt64 32) &&& 63)) ||| ((Int32.toInt64 (xs (Int32.toNatClampNeg (l4 + 5)))) &&& 4294967295)), .int (xs (Int32.toNatClampNeg (l4 + 3))), .int (xs (Int32.toNatClampNeg (l4 + 2))), .int (xs (Int32.toNatClampNeg (l4 + 1))), .ref 112, .int v98])) rfl ?_
        obtain ⟨v104, I104, J104, h104, hb⟩ := oc_call hb
        refine r_cv (z := m_Model_tamper) (As := [.int (xs (Int32.toNatClampNeg (l4 + 1))), .int (xs (Int32.toNatClampNeg (l4 + 2))), .int (xs (Int32.toNatClampNeg (l4 + 3))), .long (((Int32.toInt64 (xs (Int32.toNatClampNeg (l4 + 4)))) <<< ((Int32.toInt64 32) &&& 63)) ||| ((Int32.toInt64 (xs (Int32.toNatClampNeg (l4 + 5)))) &&& 4294967295))]) (rest := [.int v98]) rfl rfl rfl rfl rfl (x_ltn rfl) rfl rfl (E_Model_tamper  h104 ⟨_, rfl, ?_⟩)
        refine e_k 1 (f' := (if v98 = v104 then 1157 else 730, [(0, .ref 1000000005), (1, .ref 0), (2, .ref 112), (3, .ref 168), (4, .int l4)], [])) rfl ?_
        refine e_if (fun c105 => ?_) (fun c105 => ?_)
        · replace hb := i_pos c105 hb
          refine e_k 2 (f' := (23, [(4, .int (l4 + 6)), (0, .ref 1000000005), (1, .ref 0), (2, .ref 112), (3, .ref 168)], [])) rfl ?_
          refine e_sub (ls := [(0, .ref 1000000005), (1, .ref 0), (2, .ref 112), (3, .ref 168), (4, .int (l4 + 6))]) rfl ⟨rfl, rfl, rfl, rfl, rfl, trivial⟩ ?_
          exact ih  hb K1 K2
        · replace hb := i_neg c105 hb
          refine e_k 1 (f' := (731, [(0, .ref 1000000005), (1, .ref 0), (2, .ref 112), (3, .ref 168), (4, .int l4)], [.int 0])) rfl ?_
          obtain ⟨rfl, rfl, rfl, rfl⟩ := s_inx hb
          exact e_r rfl rfl (K1 _ rfl)
      replace hb := i_neg c92 hb
      by_cases c106 : ((xs (Int32.toNatClampNeg l4)) &&& 31) = 11
      · rw [show am_sw ((xs (Int32.toNatClampNeg l4)) &&& 31) 1157 [(0, 132), (1, 201), (2, 270), (3, 351), (4, 395), (5, 439), (6, 464), (7, 489), (8, 557), (9, 626), (10, 639), (11, 732), (12, 788), (13, 825), (14, 881), (15, 918), (16, 985), (17, 1052), (18, 1132)] = 732 from by rw [c106]; rfl]
        replace hb := i_pos c106 hb
        refine e_k 5 (f' := (738, [(0, .ref 1000000005), (1, .ref 0), (2, .ref 112), (3, .ref 168), (4, .int l4)], [.int (l4 + 1), .ref 1000000005, .ref 0])) rfl ?_
        obtain ⟨o107, hb⟩ := ob_in hb
        refine r_tald (k := 5) rfl (by decide) rfl o107 ?_
        refine e_k 1 (f' := (740, [(0, .ref 1000000005), (1, .ref 0), (2, .ref 112), (3, .ref 168), (4, .int l4)], [.ref 168, .int (xs (Int32.toNatClampNeg (l4 + 1))), .ref 0])) rfl ?_
        obtain ⟨v108, X108, I108, J108, h108, hb⟩ := ob_call hb
        have Kw108 : am_E (gG L xs) (d + 207) m_Law_law (743, [(0, .ref 1000000005), (1, .ref 0), (2, .ref 112), (3, .ref 168), (4, .int l4)], [.int v108]) (hX X108 I108 J108) P := by
          refine e_k 6 (f' := (751, [(5, .int v108), (0, .ref 1000000005), (1, .ref 0), (2, .ref 112), (3, .ref 168), (4, .int l4)], [.int (l4 + 1), .ref 1000000005, .ref 112])) rfl ?_
          obtain ⟨o109, hb⟩ := ob_in hb
          refine r_tald (k := 5) rfl (by decide) rfl o109 ?_
          obtain ⟨v110, I110, J110, h110, hb⟩ := oc_call hb
          refine r_cv (z := m_Model_step) (As := [.int (xs (Int32.toNatClampNeg (l4 + 1)))]) (rest := []) rfl rfl rfl rfl rfl (x_ltn rfl) rfl rfl (E_Model_step  h110 ⟨_, rfl, ?_⟩)
          refine e_k 2 (f' := (758, [(6, .int v110), (5, .int v108), (0, .ref 1000000005), (1, .ref 0), (2, .ref 112), (3, .ref 168), (4, .int l4)], [.ref 112])) rfl ?_
          obtain ⟨v111, I111, J111, h111, hb⟩ := oc_call hb
          refine r_cv (z := m_Model_thrown) (As := []) (rest := []) rfl rfl rfl rfl rfl (x_ltn rfl) rfl rfl (E_Model_thrown  h111 ⟨_, rfl, ?_⟩)
          refine e_k 2 (f' := (if v111 = v108 then 768 else 766, [(6, .int v110), (5, .int v108), (0, .ref 1000000005), (1, .ref 0), (2, .ref 112), (3, .ref 168), (4, .int l4)], [])) rfl ?_
          refine e_if (fun c112 => ?_) (fun c112 => ?_)
          · replace hb := i_pos c112 hb
            refine e_k 2 (f' := (if ¬ v108 = 0 then 785 else 773, [(6, .int v110), (5, .int v108), (0, .ref 1000000005), (1, .ref 0), (2, .ref 112), (3, .ref 168), (4, .int l4)], [])) rfl ?_
            refine e_if (fun c113 => ?_) (fun c113 => ?_)
            · replace hb := i_pos c113 hb
              refine e_k 3 (f' := (23, [(4, .int (l4 + 6)), (6, .int v110), (5, .int v108), (0, .ref 1000000005), (1, .ref 0), (2, .ref 112), (3, .ref 168)], [])) rfl ?_
              refine e_sub (ls := [(0, .ref 1000000005), (1, .ref 0), (2, .ref 112), (3, .ref 168), (4, .int (l4 + 6))]) rfl ⟨rfl, rfl, rfl, rfl, rfl, trivial⟩ ?_
              exact ih  hb K1 K2
            · replace hb := i_neg c113 hb
              refine e_k 2 (f' := (775, [(6, .int v110), (5, .int v108), (0, .ref 1000000005), (1, .ref 0), (2, .ref 112), (3, .ref 168), (4, .int l4)], [.int 0, .ref 168])) rfl ?_
              obtain ⟨o114, hb⟩ := o8_call hb
              obtain ⟨o115, hb⟩ := ob_in hb
              refine r_lald rfl o114.2.1 o114.1 o114.2.2 o115 ?_
              refine e_k 4 (f' := (if (lg_cmp (J111 168 (Int32.toNatClampNeg 0)) (Int32.toInt64 v110)) = 0 then 785 else 783, [(6, .int v110), (5, .int v108), (0, .ref 1000000005), (1, .ref 0), (2, .ref 112), (3, .ref 168), (4, .int l4)], [])) rfl ?_
              refine e_if (fun c116 => ?_) (fun c116 => ?_)
              · replace hb := i_pos c116 hb
                refine e_k 3 (f' := (23, [(4, .int (l4 + 6)), (6, .int v110), (5, .int v108), (0, .ref 1000000005), (1, .ref 0), (2, .ref 112), (3, .ref 168)], [])) rfl ?_
                refine e_sub (ls := [(0, .ref 1000000005), (1, .ref 0), (2, .ref 112), (3, .ref 168), (4, .int (l4 + 6))]) rfl ⟨rfl, rfl, rfl, rfl, rfl, trivial⟩ ?_
                exact ih  hb K1 K2
              · replace hb := i_neg c116 hb
                refine e_k 1 (f' := (784, [(6, .int v110), (5, .int v108), (0, .ref 1000000005), (1, .ref 0), (2, .ref 112), (3, .ref 168), (4, .int l4)], [.int 0])) rfl ?_
                obtain ⟨rfl, rfl, rfl, rfl⟩ := s_inx hb
                exact e_r rfl rfl (K1 _ rfl)
          · replace hb := i_neg c112 hb
            refine e_k 1 (f' := (767, [(6, .int v110), (5, .int v108), (0, .ref 1000000005), (1, .ref 0), (2, .ref 112), (3, .ref 168), (4, .int l4)], [.int 0])) rfl ?_
            obtain ⟨rfl, rfl, rfl, rfl⟩ := s_inx hb
            exact e_r rfl rfl (K1 _ rfl)
        clear hb
        refine r_w (z := m_Law_step) (As := [.ref 0, .int (xs (Int32.toNatClampNeg (l4 + 1))), .ref 168]) (rest := []) rfl rfl rfl rfl rfl rfl ?_
        rcases oh_call h108 with z108 | ⟨e108, k108, Z108, z108, g108, rfl, rfl⟩
        · exact E_Law_step  z108 (fun u eu => Or.inl ⟨_, rfl, by cases eu; exact Kw108⟩) (fun x ex => by cases ex)
        · exact E_Law_step  z108 (fun u eu => by cases eu) (fun x ex => Or.inr ⟨x, _, rfl, by cases ex; exact g108, by cases ex; exact Kw108⟩)
      replace hb := i_neg c106 hb
      by_cases c117 : ((xs (Int32.toNatClampNeg l4)) &&& 31) = 12
      · rw [show am_sw ((xs (Int32.toNatClampNeg l4)) &&& 31) 1157 [(0, 132), (1, 201), (2, 270), (3, 351), (4, 395), (5, 439), (6, 464), (7, 489), (8, 557), (9, 626), (10, 639), (11, 732), (12, 788), (13, 825), (14, 881), (15, 918), (16, 985), (17, 1052), (18, 1132)] = 788 from by rw [c117]; rfl]
        replace hb := i_pos c117 hb
        refine e_k 5 (f' := (794, [(0, .ref 1000000005), (1, .ref 0), (2, .ref 112), (3, .ref 168), (4, .int l4)], [.int (l4 + 1), .ref 1000000005, .ref 0])) rfl ?_
        obtain ⟨o118, hb⟩ := ob_in hb
        refine r_tald (k := 5) rfl (by decide) rfl o118 ?_
        refine e_k 4 (f' := (800, [(0, .ref 1000000005), (1, .ref 0), (2, .ref 112), (3, .ref 168), (4, .int l4)], [.int (l4 + 2), .ref 1000000005, .int (xs (Int32.toNatClampNeg (l4 + 1))), .ref 0])) rfl ?_
        obtain ⟨o119, hb⟩ := ob_in hb
        refine r_tald (k := 5) rfl (by decide) rfl o119 ?_
        obtain ⟨v120, I120, J120, h120, hb⟩ := oc_call hb
        refine r_cv (z := m_Sh_deliver) (As := [.int (xs (Int32.toNatClampNeg (l4 + 1))), .int (xs (Int32.toNatClampNeg (l4 + 2)))]) (rest := []) rfl rfl rfl rfl rfl (x_ltn rfl) rfl rfl (E_Sh_deliver  h120 ⟨_, rfl, ?_⟩)
        refine e_k 5 (f' := (810, [(0, .ref 1000000005), (1, .ref 0), (2, .ref 112), (3, .ref 168), (4, .int l4)], [.int (l4 + 1), .ref 1000000005, .ref 112, .int v120])) rfl ?_
        obtain ⟨o121, hb⟩ := ob_in hb
        refine r_tald (k := 5) rfl (by decide) rfl o121 ?_
        refine e_k 4 (f' := (816, [(0, .ref 1000000005), (1, .ref 0), (2, .ref 112), (3, .ref 168), (4, .int l4)], [.int (l4 + 2), .ref 1000000005, .int (xs (Int32.toNatClampNeg (l4 + 1))), .ref 112, .int v120])) rfl ?_
        obtain ⟨o122, hb⟩ := ob_in hb
        refine r_tald (k := 5) rfl (by decide) rfl o122 ?_
        obtain ⟨v123, I123, J123, h123, hb⟩ := oc_call hb
        refine r_cv (z := m_Model_deliver) (As := [.int (xs (Int32.toNatClampNeg (l4 + 1))), .int (xs (Int32.toNatClampNeg (l4 + 2)))]) (rest := [.int v120]) rfl rfl rfl rfl rfl (x_ltn rfl) rfl rfl (E_Model_deliver  h123 ⟨_, rfl, ?_⟩)
        refine e_k 1 (f' := (if v120 = v123 then 1157 else 823, [(0, .ref 1000000005), (1, .ref 0), (2, .ref 112), (3, .ref 168), (4, .int l4)], [])) rfl ?_
        refine e_if (fun c124 => ?_) (fun c124 => ?_)
        · replace hb := i_pos c124 hb
          refine e_k 2 (f' := (23, [(4, .int (l4 + 6)), (0, .ref 1000000005), (1, .ref 0), (2, .ref 112), (3, .ref 168)], [])) rfl ?_
          refine e_sub (ls := [(0, .ref 1000000005), (1, .ref 0), (2, .ref 112), (3, .ref 168), (4, .int (l4 + 6))]) rfl ⟨rfl, rfl, rfl, rfl, rfl, trivial⟩ ?_
          exact ih  hb K1 K2
        · replace hb := i_neg c124 hb
          refine e_k 1 (f' := (824, [(0, .ref 1000000005), (1, .ref 0), (2, .ref 112), (3, .ref 168), (4, .int l4)], [.int 0])) rfl ?_
          obtain ⟨rfl, rfl, rfl, rfl⟩ := s_inx hb
          exact e_r rfl rfl (K1 _ rfl)
      replace hb := i_neg c117 hb
      by_cases c125 : ((xs (Int32.toNatClampNeg l4)) &&& 31) = 13
      · rw [show am_sw ((xs (Int32.toNatClampNeg l4)) &&& 31) 1157 [(0, 132), (1, 201), (2, 270), (3, 351), (4, 395), (5, 439), (6, 464), (7, 489), (8, 557), (9, 626), (10, 639), (11, 732), (12, 788), (13, 825), (14, 881), (15, 918), (16, 985), (17, 1052), (18, 1132)] = 825 from by rw [c125]; rfl]
        replace hb := i_pos c125 hb
        refine e_k 5 (f' := (831, [(0, .ref 1000000005), (1, .ref 0), (2, .ref 112), (3, .ref 168), (4, .int l4)], [.int (l4 + 1), .ref 1000000005, .ref 0])) rfl ?_
        obtain ⟨o126, hb⟩ := ob_in hb
        refine r_tald (k := 5) rfl (by decide) rfl o126 ?_
        refine e_k 1 (f' := (833, [(0, .ref 1000000005), (1, .ref 0), (2, .ref 112), (3, .ref 168), (4, .int l4)], [.ref 168, .int (xs (Int32.toNatClampNeg (l4 + 1))), .ref 0])) rfl ?_
        obtain ⟨v127, X127, I127, J127, h127, hb⟩ := ob_call hb
        have Kw127 : am_E (gG L xs) (d + 207) m_Law_law (836, [(0, .ref 1000000005), (1, .ref 0), (2, .ref 112), (3, .ref 168), (4, .int l4)], [.int v127]) (hX X127 I127 J127) P := by
          refine e_k 6 (f' := (844, [(5, .int v127), (0, .ref 1000000005), (1, .ref 0), (2, .ref 112), (3, .ref 168), (4, .int l4)], [.int (l4 + 1), .ref 1000000005, .ref 112])) rfl ?_
          obtain ⟨o128, hb⟩ := ob_in hb
          refine r_tald (k := 5) rfl (by decide) rfl o128 ?_
          obtain ⟨v129, I129, J129, h129, hb⟩ := oc_call hb
          refine r_cv (z := m_Model_run) (As := [.int (xs (Int32.toNatClampNeg (l4 + 1)))]) (rest := []) rfl rfl rfl rfl rfl (x_ltn rfl) rfl rfl (E_Model_run  h129 ⟨_, rfl, ?_⟩)
          refine e_k 2 (f' := (851, [(6, .int v129), (5, .int v127), (0, .ref 1000000005), (1, .ref 0), (2, .ref 112), (3, .ref 168), (4, .int l4)], [.ref 112])) rfl ?_
          obtain ⟨v130, I130, J130, h130, hb⟩ := oc_call hb
          refine r_cv (z := m_Model_thrown) (As := []) (rest := []) rfl rfl rfl rfl rfl (x_ltn rfl) rfl rfl (E_Model_thrown  h130 ⟨_, rfl, ?_⟩)
          refine e_k 2 (f' := (if v130 = v127 then 861 else 859, [(6, .int v129), (5, .int v127), (0, .ref 1000000005), (1, .ref 0), (2, .ref 112), (3, .ref 168), (4, .int l4)], [])) rfl ?_
          refine e_if (fun c131 => ?_) (fun c131 => ?_)
          · replace hb := i_pos c131 hb
            refine e_k 2 (f' := (if ¬ v127 = 0 then 878 else 866, [(6, .int v129), (5, .int v127), (0, .ref 1000000005), (1, .ref 0), (2, .ref 112), (3, .ref 168), (4, .int l4)], [])) rfl ?_
            refine e_if (fun c132 => ?_) (fun c132 => ?_)
            · replace hb := i_pos c132 hb
              refine e_k 3 (f' := (23, [(4, .int (l4 + 6)), (6, .int v129), (5, .int v127), (0, .ref 1000000005), (1, .ref 0), (2, .ref 112), (3, .ref 168)], [])) rfl ?_
              refine e_sub (ls := [(0, .ref 1000000005), (1, .ref 0), (2, .ref 112), (3, .ref 168), (4, .int (l4 + 6))]) rfl ⟨rfl, rfl, rfl, rfl, rfl, trivial⟩ ?_
              exact ih  hb K1 K2
            · replace hb := i_neg c132 hb
              refine e_k 2 (f' := (868, [(6, .int v129), (5, .int v127), (0, .ref 1000000005), (1, .ref 0), (2, .ref 112), (3, .ref 168), (4, .int l4)], [.int 0, .ref 168])) rfl ?_
              obtain ⟨o133, hb⟩ := o8_call hb
              obtain ⟨o134, hb⟩ := ob_in hb
              refine r_lald rfl o133.2.1 o133.1 o133.2.2 o134 ?_
              refine e_k 4 (f' := (if (lg_cmp (J130 168 (Int32.toNatClampNeg 0)) (Int32.toInt64 v129)) = 0 then 878 else 876, [(6, .int v129), (5, .int v127), (0, .ref 1000000005), (1, .ref 0), (2, .ref 112), (3, .ref 168), (4, .int l4)], [])) rfl ?_
              refine e_if (fun c135 => ?_) (fun c135 => ?_)
              · replace hb := i_pos c135 hb
                refine e_k 3 (f' := (23, [(4, .int (l4 + 6)), (6, .int v129), (5, .int v127), (0, .ref 1000000005), (1, .ref 0), (2, .ref 112), (3, .ref 168)], [])) rfl ?_
                refine e_sub (ls := [(0, .ref 1000000005), (1, .ref 0), (2, .ref 112), (3, .ref 168), (4, .int (l4 + 6))]) rfl ⟨rfl, rfl, rfl, rfl, rfl, trivial⟩ ?_
                exact ih  hb K1 K2
              · replace hb := i_neg c135 hb
                refine e_k 1 (f' := (877, [(6, .int v129), (5, .int v127), (0, .ref 1000000005), (1, .ref 0), (2, .ref 112), (3, .ref 168), (4, .int l4)], [.int 0])) rfl ?_
                obtain ⟨rfl, rfl, rfl, rfl⟩ := s_inx hb
                exact e_r rfl rfl (K1 _ rfl)
          · replace hb := i_neg c131 hb
            refine e_k 1 (f' := (860, [(6, .int v129), (5, .int v127), (0, .ref 1000000005), (1, .ref 0), (2, .ref 112), (3, .ref 168), (4, .int l4)], [.int 0])) rfl ?_
            obtain ⟨rfl, rfl, rfl, rfl⟩ := s_inx hb
            exact e_r rfl rfl (K1 _ rfl)
        clear hb
        refine r_w (z := m_Law_run) (As := [.ref 0, .int (xs (Int32.toNatClampNeg (l4 + 1))), .ref 168]) (rest := []) rfl rfl rfl rfl rfl rfl ?_
        rcases oh_call h127 with z127 | ⟨e127, k127, Z127, z127, g127, rfl, rfl⟩
        · exact E_Law_run  z127 (fun u eu => Or.inl ⟨_, rfl, by cases eu; exact Kw127⟩) (fun x ex => by cases ex)
        · exact E_Law_run  z127 (fun u eu => by cases eu) (fun x ex => Or.inr ⟨x, _, rfl, by cases ex; exact g127, by cases ex; exact Kw127⟩)
      replace hb := i_neg c125 hb
      by_cases c136 : ((xs (Int32.toNatClampNeg l4)) &&& 31) = 14
      · rw [show am_sw ((xs (Int32.toNatClampNeg l4)) &&& 31) 1157 [(0, 132), (1, 201), (2, 270), (3, 351), (4, 395), (5, 439), (6, 464), (7, 489), (8, 557), (9, 626), (10, 639), (11, 732), (12, 788), (13, 825), (14, 881), (15, 918), (16, 985), (17, 1052), (18, 1132)] = 881 from by rw [c136]; rfl]
        replace hb := i_pos c136 hb
        refine e_k 5 (f' := (887, [(0, .ref 1000000005), (1, .ref 0), (2, .ref 112), (3, .ref 168), (4, .int l4)], [.int (l4 + 1), .ref 1000000005, .ref 0])) rfl ?_
        obtain ⟨o137, hb⟩ := ob_in hb
        refine r_tald (k := 5) rfl (by decide) rfl o137 ?_
        refine e_k 4 (f' := (893, [(0, .ref 1000000005), (1, .ref 0), (2, .ref 112), (3, .ref 168), (4, .int l4)], [.int (l4 + 2), .ref 1000000005, .int (xs (Int32.toNatClampNeg (l4 + 1))), .ref 0])) rfl ?_
        obtain ⟨o138, hb⟩ := ob_in hb
        refine r_tald (k := 5) rfl (by decide) rfl o138 ?_
        obtain ⟨v139, I139, J139, h139, hb⟩ := oc_call hb
        refine r_cv (z := m_Sh_party) (As := [.int (xs (Int32.toNatClampNeg (l4 + 1))), .int (xs (Int32.toNatClampNeg (l4 + 2)))]) (rest := []) rfl rfl rfl rfl rfl (x_ltn rfl) rfl rfl (E_Sh_party  h139 ⟨_, rfl, ?_⟩)
        refine e_k 5 (f' := (903, [(0, .ref 1000000005), (1, .ref 0), (2, .ref 112), (3, .ref 168), (4, .int l4)], [.int (l4 + 1), .ref 1000000005, .ref 112, .int v139])) rfl ?_
        obtain ⟨o140, hb⟩ := ob_in hb
        refine r_tald (k := 5) rfl (by decide) rfl o140 ?_
        refine e_k 4 (f' := (909, [(0, .ref 1000000005), (1, .ref 0), (2, .ref 112), (3, .ref 168), (4, .int l4)], [.int (l4 + 2), .ref 1000000005, .int (xs (Int32.toNatClampNeg (l4 + 1))), .ref 112, .int v139])) rfl ?_
        obtain ⟨o141, hb⟩ := ob_in hb
        refine r_tald (k := 5) rfl (by decide) rfl o141 ?_
        obtain ⟨v142, I142, J142, h142, hb⟩ := oc_call hb
        refine r_cv (z := m_Model_party) (As := [.int (xs (Int32.toNatClampNeg (l4 + 1))), .int (xs (Int32.toNatClampNeg (l4 + 2)))]) (rest := [.int v139]) rfl rfl rfl rfl rfl (x_ltn rfl) rfl rfl (E_Model_party  h142 ⟨_, rfl, ?_⟩)
        refine e_k 1 (f' := (if v139 = v142 then 1157 else 916, [(0, .ref 1000000005), (1, .ref 0), (2, .ref 112), (3, .ref 168), (4, .int l4)], [])) rfl ?_
        refine e_if (fun c143 => ?_) (fun c143 => ?_)
        · replace hb := i_pos c143 hb
          refine e_k 2 (f' := (23, [(4, .int (l4 + 6)), (0, .ref 1000000005), (1, .ref 0), (2, .ref 112), (3, .ref 168)], [])) rfl ?_
          refine e_sub (ls := [(0, .ref 1000000005), (1, .ref 0), (2, .ref 112), (3, .ref 168), (4, .int (l4 + 6))]) rfl ⟨rfl, rfl, rfl, rfl, rfl, trivial⟩ ?_
          exact ih  hb K1 K2
        · replace hb := i_neg c143 hb
          refine e_k 1 (f' := (917, [(0, .ref 1000000005), (1, .ref 0), (2, .ref 112), (3, .ref 168), (4, .int l4)], [.int 0])) rfl ?_
          obtain ⟨rfl, rfl, rfl, rfl⟩ := s_inx hb
          exact e_r rfl rfl (K1 _ rfl)
      replace hb := i_neg c136 hb
      by_cases c144 : ((xs (Int32.toNatClampNeg l4)) &&& 31) = 15
      · rw [show am_sw ((xs (Int32.toNatClampNeg l4)) &&& 31) 1157 [(0, 132), (1, 201), (2, 270), (3, 351), (4, 395), (5, 439), (6, 464), (7, 489), (8, 557), (9, 626), (10, 639), (11, 732), (12, 788), (13, 825), (14, 881), (15, 918), (16, 985), (17, 1052), (18, 1132)] = 918 from by rw [c144]; rfl]
        replace hb := i_pos c144 hb
        refine e_k 5 (f' := (924, [(0, .ref 1000000005), (1, .ref 0), (2, .ref 112), (3, .ref 168), (4, .int l4)], [.int (l4 + 1), .ref 1000000005, .ref 0])) rfl ?_
        obtain ⟨o145, hb⟩ := ob_in hb
        refine r_tald (k := 5) rfl (by decide) rfl o145 ?_
        refine e_k 4 (f' := (930, [(0, .ref 1000000005), (1, .ref 0), (2, .ref 112), (3, .ref 168), (4, .int l4)], [.int (l4 + 2), .ref 1000000005, .int (xs (Int32.toNatClampNeg (l4 + 1))), .ref 0])) rfl ?_
        obtain ⟨o146, hb⟩ := ob_in hb
        refine r_tald (k := 5) rfl (by decide) rfl o146 ?_
        refine e_k 1 (f' := (932, [(0, .ref 1000000005), (1, .ref 0), (2, .ref 112), (3, .ref 168), (4, .int l4)], [.ref 168, .int (xs (Int32.toNatClampNeg (l4 + 2))), .int (xs (Int32.toNatClampNeg (l4 + 1))), .ref 0])) rfl ?_
        obtain ⟨v147, X147, I147, J147, h147, hb⟩ := ob_call hb
        have Kw147 : am_E (gG L xs) (d + 207) m_Law_law (935, [(0, .ref 1000000005), (1, .ref 0), (2, .ref 112), (3, .ref 168), (4, .int l4)], [.int v147]) (hX X147 I147 J147) P := by
          refine e_k 6 (f' := (943, [(5, .int v147), (0, .ref 1000000005), (1, .ref 0), (2, .ref 112), (3, .ref 168), (4, .int l4)], [.int (l4 + 1), .ref 1000000005, .ref 112])) rfl ?_
          obtain ⟨o148, hb⟩ := ob_in hb
          refine r_tald (k := 5) rfl (by decide) rfl o148 ?_
          refine e_k 4 (f' := (949, [(5, .int v147), (0, .ref 1000000005), (1, .ref 0), (2, .ref 112), (3, .ref 168), (4, .int l4)], [.int (l4 + 2), .ref 1000000005, .int (xs (Int32.toNatClampNeg (l4 + 1))), .ref 112])) rfl ?_
          obtain ⟨o149, hb⟩ := ob_in hb
          refine r_tald (k := 5) rfl (by decide) rfl o149 ?_
          obtain ⟨v150, I150, J150, h150, hb⟩ := oc_call hb
          refine r_cv (z := m_Model_output) (As := [.int (xs (Int32.toNatClampNeg (l4 + 1))), .int (xs (Int32.toNatClampNeg (l4 + 2)))]) (rest := []) rfl rfl rfl rfl rfl (x_ltn rfl) rfl rfl (E_Model_output  h150 ⟨_, rfl, ?_⟩)
          refine e_k 2 (f' := (956, [(6, .long v150), (5, .int v147), (0, .ref 1000000005), (1, .ref 0), (2, .ref 112), (3, .ref 168), (4, .int l4)], [.ref 112])) rfl ?_
          obtain ⟨v151, I151, J151, h151, hb⟩ := oc_call hb
          refine r_cv (z := m_Model_thrown) (As := []) (rest := []) rfl rfl rfl rfl rfl (x_ltn rfl) rfl rfl (E_Model_thrown  h151 ⟨_, rfl, ?_⟩)
          refine e_k 2 (f' := (if v151 = v147 then 966 else 964, [(6, .long v150), (5, .int v147), (0, .ref 1000000005), (1, .ref 0), (2, .ref 112), (3, .ref 168), (4, .int l4)], [])) rfl ?_
          refine e_if (fun c152 => ?_) (fun c152 => ?_)
          · replace hb := i_pos c152 hb
            refine e_k 2 (f' := (if ¬ v147 = 0 then 982 else 971, [(6, .long v150), (5, .int v147), (0, .ref 1000000005), (1, .ref 0), (2, .ref 112), (3, .ref 168), (4, .int l4)], [])) rfl ?_
            refine e_if (fun c153 => ?_) (fun c153 => ?_)
            · replace hb := i_pos c153 hb
              refine e_k 3 (f' := (23, [(4, .int (l4 + 6)), (6, .long v150), (5, .int v147), (0, .ref 1000000005), (1, .ref 0), (2, .ref 112), (3, .ref 168)], [])) rfl ?_
              refine e_sub (ls := [(0, .ref 1000000005), (1, .ref 0), (2, .ref 112), (3, .ref 168), (4, .int (l4 + 6))]) rfl ⟨rfl, rfl, rfl, rfl, rfl, trivial⟩ ?_
              exact ih  hb K1 K2
            · replace hb := i_neg c153 hb
              refine e_k 2 (f' := (973, [(6, .long v150), (5, .int v147), (0, .ref 1000000005), (1, .ref 0), (2, .ref 112), (3, .ref 168), (4, .int l4)], [.int 0, .ref 168])) rfl ?_
              obtain ⟨o154, hb⟩ := o8_call hb
              obtain ⟨o155, hb⟩ := ob_in hb
              refine r_lald rfl o154.2.1 o154.1 o154.2.2 o155 ?_
              refine e_k 3 (f' := (if (lg_cmp (J151 168 (Int32.toNatClampNeg 0)) v150) = 0 then 982 else 980, [(6, .long v150), (5, .int v147), (0, .ref 1000000005), (1, .ref 0), (2, .ref 112), (3, .ref 168), (4, .int l4)], [])) rfl ?_
              refine e_if (fun c156 => ?_) (fun c156 => ?_)
              · replace hb := i_pos c156 hb
                refine e_k 3 (f' := (23, [(4, .int (l4 + 6)), (6, .long v150), (5, .int v147), (0, .ref 1000000005), (1, .ref 0), (2, .ref 112), (3, .ref 168)], [])) rfl ?_
                refine e_sub (ls := [(0, .ref 1000000005), (1, .ref 0), (2, .ref 112), (3, .ref 168), (4, .int (l4 + 6))]) rfl ⟨rfl, rfl, rfl, rfl, rfl, trivial⟩ ?_
                exact ih  hb K1 K2
              · replace hb := i_neg c156 hb
                refine e_k 1 (f' := (981, [(6, .long v150), (5, .int v147), (0, .ref 1000000005), (1, .ref 0), (2, .ref 112), (3, .ref 168), (4, .int l4)], [.int 0])) rfl ?_
                obtain ⟨rfl, rfl, rfl, rfl⟩ := s_inx hb
                exact e_r rfl rfl (K1 _ rfl)
          · replace hb := i_neg c152 hb
            refine e_k 1 (f' := (965, [(6, .long v150), (5, .int v147), (0, .ref 1000000005), (1, .ref 0), (2, .ref 112), (3, .ref 168), (4, .int l4)], [.int 0])) rfl ?_
            obtain ⟨rfl, rfl, rfl, rfl⟩ := s_inx hb
            exact e_r rfl rfl (K1 _ rfl)
        clear hb
        refine r_w (z := m_Law_output) (As := [.ref 0, .int (xs (Int32.toNatClampNeg (l4 + 1))), .int (xs (Int32.toNatClampNeg (l4 + 2))), .ref 168]) (rest := []) rfl rfl rfl rfl rfl rfl ?_
        rcases oh_call h147 with z147 | ⟨e147, k147, Z147, z147, g147, rfl, rfl⟩
        · exact E_Law_output  z147 (fun u eu => Or.inl ⟨_, rfl, by cases eu; exact Kw147⟩) (fun x ex => by cases ex)
        · exact E_Law_output  z147 (fun u eu => by cases eu) (fun x ex => Or.inr ⟨x, _, rfl, by cases ex; exact g147, by cases ex; exact Kw147⟩)
      replace hb := i_neg c144 hb
      by_cases c157 : ((xs (Int32.toNatClampNeg l4)) &&& 31) = 16
      · rw [show am_sw ((xs (Int32.toNatClampNeg l4)) &&& 31) 1157 [(0, 132), (1, 201), (2, 270), (3, 351), (4, 395), (5, 439), (6, 464), (7, 489), (8, 557), (9, 626), (10, 639), (11, 732), (12, 788), (13, 825), (14, 881), (15, 918), (16, 985), (17, 1052), (18, 1132)] = 985 from by rw [c157]; rfl]
        replace hb := i_pos c157 hb
        refine e_k 5 (f' := (991, [(0, .ref 1000000005), (1, .ref 0), (2, .ref 112), (3, .ref 168), (4, .int l4)], [.int (l4 + 1), .ref 1000000005, .ref 0])) rfl ?_
        obtain ⟨o158, hb⟩ := ob_in hb
        refine r_tald (k := 5) rfl (by decide) rfl o158 ?_
        refine e_k 4 (f' := (997, [(0, .ref 1000000005), (1, .ref 0), (2, .ref 112), (3, .ref 168), (4, .int l4)], [.int (l4 + 2), .ref 1000000005, .int (xs (Int32.toNatClampNeg (l4 + 1))), .ref 0])) rfl ?_
        obtain ⟨o159, hb⟩ := ob_in hb
        refine r_tald (k := 5) rfl (by decide) rfl o159 ?_
        refine e_k 1 (f' := (999, [(0, .ref 1000000005), (1, .ref 0), (2, .ref 112), (3, .ref 168), (4, .int l4)], [.ref 168, .int (xs (Int32.toNatClampNeg (l4 + 2))), .int (xs (Int32.toNatClampNeg (l4 + 1))), .ref 0])) rfl ?_
        obtain ⟨v160, X160, I160, J160, h160, hb⟩ := ob_call hb
        have Kw160 : am_E (gG L xs) (d + 207) m_Law_law (1002, [(0, .ref 1000000005), (1, .ref 0), (2, .ref 112), (3, .ref 168), (4, .int l4)], [.int v160]) (hX X160 I160 J160) P := by
          refine e_k 6 (f' := (1010, [(5, .int v160), (0, .ref 1000000005), (1, .ref 0), (2, .ref 112), (3, .ref 168), (4, .int l4)], [.int (l4 + 1), .ref 1000000005, .ref 112])) rfl ?_
          obtain ⟨o161, hb⟩ := ob_in hb
          refine r_tald (k := 5) rfl (by decide) rfl o161 ?_
          refine e_k 4 (f' := (1016, [(5, .int v160), (0, .ref 1000000005), (1, .ref 0), (2, .ref 112), (3, .ref 168), (4, .int l4)], [.int (l4 + 2), .ref 1000000005, .int (xs (Int32.toNatClampNeg (l4 + 1))), .ref 112])) rfl ?_
          obtain ⟨o162, hb⟩ := ob_in hb
          refine r_tald (k := 5) rfl (by decide) rfl o162 ?_
          obtain ⟨v163, I163, J163, h163, hb⟩ := oc_call hb
          refine r_cv (z := m_Model_clear) (As := [.int (xs (Int32.toNatClampNeg (l4 + 1))), .int (xs (Int32.toNatClampNeg (l4 + 2)))]) (rest := []) rfl rfl rfl rfl rfl (x_ltn rfl) rfl rfl (E_Model_clear  h163 ⟨_, rfl, ?_⟩)
          refine e_k 2 (f' := (1023, [(6, .long v163), (5, .int v160), (0, .ref 1000000005), (1, .ref 0), (2, .ref 112), (3, .ref 168), (4, .int l4)], [.ref 112])) rfl ?_
          obtain ⟨v164, I164, J164, h164, hb⟩ := oc_call hb
          refine r_cv (z := m_Model_thrown) (As := []) (rest := []) rfl rfl rfl rfl rfl (x_ltn rfl) rfl rfl (E_Model_thrown  h164 ⟨_, rfl, ?_⟩)
          refine e_k 2 (f' := (if v164 = v160 then 1033 else 1031, [(6, .long v163), (5, .int v160), (0, .ref 1000000005), (1, .ref 0), (2, .ref 112), (3, .ref 168), (4, .int l4)], [])) rfl ?_
          refine e_if (fun c165 => ?_) (fun c165 => ?_)
          · replace hb := i_pos c165 hb
            refine e_k 2 (f' := (if ¬ v160 = 0 then 1049 else 1038, [(6, .long v163), (5, .int v160), (0, .ref 1000000005), (1, .ref 0), (2, .ref 112), (3, .ref 168), (4, .int l4)], [])) rfl ?_
            refine e_if (fun c166 => ?_) (fun c166 => ?_)
            · replace hb := i_pos c166 hb
              refine e_k 3 (f' := (23, [(4, .int (l4 + 6)), (6, .long v163), (5, .int v160), (0, .ref 1000000005), (1, .ref 0), (2, .ref 112), (3, .ref 168)], [])) rfl ?_
              refine e_sub (ls := [(0, .ref 1000000005), (1, .ref 0), (2, .ref 112), (3, .ref 168), (4, .int (l4 + 6))]) rfl ⟨rfl, rfl, rfl, rfl, rfl, trivial⟩ ?_
              exact ih  hb K1 K2
            · replace hb := i_neg c166 hb
              refine e_k 2 (f' := (1040, [(6, .long v163), (5, .int v160), (0, .ref 1000000005), (1, .ref 0), (2, .ref 112), (3, .ref 168), (4, .int l4)], [.int 0, .ref 168])) rfl ?_
              obtain ⟨o167, hb⟩ := o8_call hb
              obtain ⟨o168, hb⟩ := ob_in hb
              refine r_lald rfl o167.2.1 o167.1 o167.2.2 o168 ?_
              refine e_k 3 (f' := (if (lg_cmp (J164 168 (Int32.toNatClampNeg 0)) v163) = 0 then 1049 else 1047, [(6, .long v163), (5, .int v160), (0, .ref 1000000005), (1, .ref 0), (2, .ref 112), (3, .ref 168), (4, .int l4)], [])) rfl ?_
              refine e_if (fun c169 => ?_) (fun c169 => ?_)
              · replace hb := i_pos c169 hb
                refine e_k 3 (f' := (23, [(4, .int (l4 + 6)), (6, .long v163), (5, .int v160), (0, .ref 1000000005), (1, .ref 0), (2, .ref 112), (3, .ref 168)], [])) rfl ?_
                refine e_sub (ls := [(0, .ref 1000000005), (1, .ref 0), (2, .ref 112), (3, .ref 168), (4, .int (l4 + 6))]) rfl ⟨rfl, rfl, rfl, rfl, rfl, trivial⟩ ?_
                exact ih  hb K1 K2
              · replace hb := i_neg c169 hb
                refine e_k 1 (f' := (1048, [(6, .long v163), (5, .int v160), (0, .ref 1000000005), (1, .ref 0), (2, .ref 112), (3, .ref 168), (4, .int l4)], [.int 0])) rfl ?_
                obtain ⟨rfl, rfl, rfl, rfl⟩ := s_inx hb
                exact e_r rfl rfl (K1 _ rfl)
          · replace hb := i_neg c165 hb
            refine e_k 1 (f' := (1032, [(6, .long v163), (5, .int v160), (0, .ref 1000000005), (1, .ref 0), (2, .ref 112), (3, .ref 168), (4, .int l4)], [.int 0])) rfl ?_
            obtain ⟨rfl, rfl, rfl, rfl⟩ := s_inx hb
            exact e_r rfl rfl (K1 _ rfl)
        clear hb
        refine r_w (z := m_Law_clear) (As := [.ref 0, .int (xs (Int32.toNatClampNeg (l4 + 1))), .int (xs (Int32.toNatClampNeg (l4 + 2))), .ref 168]) (rest := []) rfl rfl rfl rfl rfl rfl ?_
        rcases oh_call h160 with z160 | ⟨e160, k160, Z160, z160, g160, rfl, rfl⟩
        · exact E_Law_clear  z160 (fun u eu => Or.inl ⟨_, rfl, by cases eu; exact Kw160⟩) (fun x ex => by cases ex)
        · exact E_Law_clear  z160 (fun u eu => by cases eu) (fun x ex => Or.inr ⟨x, _, rfl, by cases ex; exact g160, by cases ex; exact Kw160⟩)
      replace hb := i_neg c157 hb
      by_cases c170 : ((xs (Int32.toNatClampNeg l4)) &&& 31) = 17
      · rw [show am_sw ((xs (Int32.toNatClampNeg l4)) &&& 31) 1157 [(0, 132), (1, 201), (2, 270), (3, 351), (4, 395), (5, 439), (6, 464), (7, 489), (8, 557), (9, 626), (10, 639), (11, 732), (12, 788), (13, 825), (14, 881), (15, 918), (16, 985), (17, 1052), (18, 1132)] = 1052 from by rw [c170]; rfl]
        replace hb := i_pos c170 hb
        refine e_k 5 (f' := (1058, [(0, .ref 1000000005), (1, .ref 0), (2, .ref 112), (3, .ref 168), (4, .int l4)], [.int (l4 + 1), .ref 1000000005, .ref 0])) rfl ?_
        obtain ⟨o171, hb⟩ := ob_in hb
        refine r_tald (k := 5) rfl (by decide) rfl o171 ?_
        refine e_k 4 (f' := (1064, [(0, .ref 1000000005), (1, .ref 0), (2, .ref 112), (3, .ref 168), (4, .int l4)], [.int (l4 + 2), .ref 1000000005, .int (xs (Int32.toNatClampNeg (l4 + 1))), .ref 0])) rfl ?_
        obtain ⟨o172, hb⟩ := ob_in hb
        refine r_tald (k := 5) rfl (by decide) rfl o172 ?_
        refine e_k 4 (f' := (1070, [(0, .ref 1000000005), (1, .ref 0), (2, .ref 112), (3, .ref 168), (4, .int l4)], [.int (l4 + 3), .ref 1000000005, .int (xs (Int32.toNatClampNeg (l4 + 2))), .int (xs (Int32.toNatClampNeg (l4 + 1))), .ref 0])) rfl ?_
        obtain ⟨o173, hb⟩ := ob_in hb
        refine r_tald (k := 5) rfl (by decide) rfl o173 ?_
        refine e_k 1 (f' := (1072, [(0, .ref 1000000005), (1, .ref 0), (2, .ref 112), (3, .ref 168), (4, .int l4)], [.ref 168, .int (xs (Int32.toNatClampNeg (l4 + 3))), .int (xs (Int32.toNatClampNeg (l4 + 2))), .int (xs (Int32.toNatClampNeg (l4 + 1))), .ref 0])) rfl ?_
        obtain ⟨v174, X174, I174, J174, h174, hb⟩ := ob_call hb
        have Kw174 : am_E (gG L xs) (d + 207) m_Law_law (1075, [(0, .ref 1000000005), (1, .ref 0), (2, .ref 112), (3, .ref 168), (4, .int l4)], [.int v174]) (hX X174 I174 J174) P := by
          refine e_k 6 (f' := (1083, [(5, .int v174), (0, .ref 1000000005), (1, .ref 0), (2, .ref 112), (3, .ref 168), (4, .int l4)], [.int (l4 + 1), .ref 1000000005, .ref 112])) rfl ?_
          obtain ⟨o175, hb⟩ := ob_in hb
          refine r_tald (k := 5) rfl (by decide) rfl o175 ?_
          refine e_k 4 (f' := (1089, [(5, .int v174), (0, .ref 1000000005), (1, .ref 0), (2, .ref 112), (3, .ref 168), (4, .int l4)], [.int (l4 + 2), .ref 1000000005, .int (xs (Int32.toNatClampNeg (l4 + 1))), .ref 112])) rfl ?_
          obtain ⟨o176, hb⟩ := ob_in hb
          refine r_tald (k := 5) rfl (by decide) rfl o176 ?_
          refine e_k 4 (f' := (1095, [(5, .int v174), (0, .ref 1000000005), (1, .ref 0), (2, .ref 112), (3, .ref 168), (4, .int l4)], [.int (l4 + 3), .ref 1000000005, .int (xs (Int32.toNatClampNeg (l4 + 2))), .int (xs (Int32.toNatClampNeg (l4 + 1))), .ref 112])) rfl ?_
          obtain ⟨o177, hb⟩ := ob_in hb
          refine r_tald (k := 5) rfl (by decide) rfl o177 ?_
          obtain ⟨v178, I178, J178, h178, hb⟩ := oc_call hb
          refine r_cv (z := m_Model_bound) (As := [.int (xs (Int32.toNatClampNeg (l4 + 1))), .int (xs (Int32.toNatClampNeg (l4 + 2))), .int (xs (Int32.toNatClampNeg (l4 + 3)))]) (rest := []) rfl rfl rfl rfl rfl (x_ltn rfl) rfl rfl (E_Model_bound  h178 ⟨_, rfl, ?_⟩)
          refine e_k 2 (f' := (1102, [(6, .int v178), (5, .int v174), (0, .ref 1000000005), (1, .ref 0), (2, .ref 112), (3, .ref 168), (4, .int l4)], [.ref 112])) rfl ?_
          obtain ⟨v179, I179, J179, h179, hb⟩ := oc_call hb
          refine r_cv (z := m_Model_thrown) (As := []) (rest := []) rfl rfl rfl rfl rfl (x_ltn rfl) rfl rfl (E_Model_thrown  h179 ⟨_, rfl, ?_⟩)
          refine e_k 2 (f' := (if v179 = v174 then 1112 else 1110, [(6, .int v178), (5, .int v174), (0, .ref 1000000005), (1, .ref 0), (2, .ref 112), (3, .ref 168), (4, .int l4)], [])) rfl ?_
          refine e_if (fun c180 => ?_) (fun c180 => ?_)
          · replace hb := i_pos c180 hb
            refine e_k 2 (f' := (if ¬ v174 = 0 then 1129 else 1117, [(6, .int v178), (5, .int v174), (0, .ref 1000000005), (1, .ref 0), (2, .ref 112), (3, .ref 168), (4, .int l4)], [])) rfl ?_
            refine e_if (fun c181 => ?_) (fun c181 => ?_)
            · replace hb := i_pos c181 hb
              refine e_k 3 (f' := (23, [(4, .int (l4 + 6)), (6, .int v178), (5, .int v174), (0, .ref 1000000005), (1, .ref 0), (2, .ref 112), (3, .ref 168)], [])) rfl ?_
              refine e_sub (ls := [(0, .ref 1000000005), (1, .ref 0), (2, .ref 112), (3, .ref 168), (4, .int (l4 + 6))]) rfl ⟨rfl, rfl, rfl, rfl, rfl, trivial⟩ ?_
              exact ih  hb K1 K2
            · replace hb := i_neg c181 hb
              refine e_k 2 (f' := (1119, [(6, .int v178), (5, .int v174), (0, .ref 1000000005), (1, .ref 0), (2, .ref 112), (3, .ref 168), (4, .int l4)], [.int 0, .ref 168])) rfl ?_
              obtain ⟨o182, hb⟩ := o8_call hb
              obtain ⟨o183, hb⟩ := ob_in hb
              refine r_lald rfl o182.2.1 o182.1 o182.2.2 o183 ?_
              refine e_k 4 (f' := (if (lg_cmp (J179 168 (Int32.toNatClampNeg 0)) (Int32.toInt64 v178)) = 0 then 1129 else 1127, [(6, .int v178), (5, .int v174), (0, .ref 1000000005), (1, .ref 0), (2, .ref 112), (3, .ref 168), (4, .int l4)], [])) rfl ?_
              refine e_if (fun c184 => ?_) (fun c184 => ?_)
              · replace hb := i_pos c184 hb
                refine e_k 3 (f' := (23, [(4, .int (l4 + 6)), (6, .int v178), (5, .int v174), (0, .ref 1000000005), (1, .ref 0), (2, .ref 112), (3, .ref 168)], [])) rfl ?_
                refine e_sub (ls := [(0, .ref 1000000005), (1, .ref 0), (2, .ref 112), (3, .ref 168), (4, .int (l4 + 6))]) rfl ⟨rfl, rfl, rfl, rfl, rfl, trivial⟩ ?_
                exact ih  hb K1 K2
              · replace hb := i_neg c184 hb
                refine e_k 1 (f' := (1128, [(6, .int v178), (5, .int v174), (0, .ref 1000000005), (1, .ref 0), (2, .ref 112), (3, .ref 168), (4, .int l4)], [.int 0])) rfl ?_
                obtain ⟨rfl, rfl, rfl, rfl⟩ := s_inx hb
                exact e_r rfl rfl (K1 _ rfl)
          · replace hb := i_neg c180 hb
            refine e_k 1 (f' := (1111, [(6, .int v178), (5, .int v174), (0, .ref 1000000005), (1, .ref 0), (2, .ref 112), (3, .ref 168), (4, .int l4)], [.int 0])) rfl ?_
            obtain ⟨rfl, rfl, rfl, rfl⟩ := s_inx hb
            exact e_r rfl rfl (K1 _ rfl)
        clear hb
        refine r_w (z := m_Law_bound) (As := [.ref 0, .int (xs (Int32.toNatClampNeg (l4 + 1))), .int (xs (Int32.toNatClampNeg (l4 + 2))), .int (xs (Int32.toNatClampNeg (l4 + 3))), .ref 168]) (rest := []) rfl rfl rfl rfl rfl rfl ?_
        rcases oh_call h174 with z174 | ⟨e174, k174, Z174, z174, g174, rfl, rfl⟩
        · exact E_Law_bound  z174 (fun u eu => Or.inl ⟨_, rfl, by cases eu; exact Kw174⟩) (fun x ex => by cases ex)
        · exact E_Law_bound  z174 (fun u eu => by cases eu) (fun x ex => Or.inr ⟨x, _, rfl, by cases ex; exact g174, by cases ex; exact Kw174⟩)
      replace hb := i_neg c170 hb
      by_cases c185 : ((xs (Int32.toNatClampNeg l4)) &&& 31) = 18
      · rw [show am_sw ((xs (Int32.toNatClampNeg l4)) &&& 31) 1157 [(0, 132), (1, 201), (2, 270), (3, 351), (4, 395), (5, 439), (6, 464), (7, 489), (8, 557), (9, 626), (10, 639), (11, 732), (12, 788), (13, 825), (14, 881), (15, 918), (16, 985), (17, 1052), (18, 1132)] = 1132 from by rw [c185]; rfl]
        replace hb := i_pos c185 hb
        refine e_k 5 (f' := (1138, [(0, .ref 1000000005), (1, .ref 0), (2, .ref 112), (3, .ref 168), (4, .int l4)], [.int (l4 + 1), .ref 1000000005, .ref 0])) rfl ?_
        obtain ⟨o186, hb⟩ := ob_in hb
        refine r_tald (k := 5) rfl (by decide) rfl o186 ?_
        obtain ⟨v187, I187, J187, h187, hb⟩ := oc_call hb
        refine r_cv (z := m_Sh_total) (As := [.int (xs (Int32.toNatClampNeg (l4 + 1)))]) (rest := []) rfl rfl rfl rfl rfl (x_ltn rfl) rfl rfl (E_Sh_total  h187 ⟨_, rfl, ?_⟩)
        refine e_k 5 (f' := (1148, [(0, .ref 1000000005), (1, .ref 0), (2, .ref 112), (3, .ref 168), (4, .int l4)], [.int (l4 + 1), .ref 1000000005, .ref 112, .int v187])) rfl ?_
        obtain ⟨o188, hb⟩ := ob_in hb
        refine r_tald (k := 5) rfl (by decide) rfl o188 ?_
        obtain ⟨v189, I189, J189, h189, hb⟩ := oc_call hb
        refine r_cv (z := m_Model_total) (As := [.int (xs (Int32.toNatClampNeg (l4 + 1)))]) (rest := [.int v187]) rfl rfl rfl rfl rfl (x_ltn rfl) rfl rfl (E_Model_total  h189 ⟨_, rfl, ?_⟩)
        refine e_k 1 (f' := (if v187 = v189 then 1157 else 1155, [(0, .ref 1000000005), (1, .ref 0), (2, .ref 112), (3, .ref 168), (4, .int l4)], [])) rfl ?_
        refine e_if (fun c190 => ?_) (fun c190 => ?_)
        · replace hb := i_pos c190 hb
          refine e_k 2 (f' := (23, [(4, .int (l4 + 6)), (0, .ref 1000000005), (1, .ref 0), (2, .ref 112), (3, .ref 168)], [])) rfl ?_
          refine e_sub (ls := [(0, .ref 1000000005), (1, .ref 0), (2, .ref 112), (3, .ref 168), (4, .int (l4 + 6))]) rfl ⟨rfl, rfl, rfl, rfl, rfl, trivial⟩ ?_
          exact ih  hb K1 K2
        · replace hb := i_neg c190 hb
          refine e_k 1 (f' := (1156, [(0, .ref 1000000005), (1, .ref 0), (2, .ref 112), (3, .ref 168), (4, .int l4)], [.int 0])) rfl ?_
          obtain ⟨rfl, rfl, rfl, rfl⟩ := s_inx hb
          exact e_r rfl rfl (K1 _ rfl)
      replace hb := i_neg c185 hb
      rw [show am_sw ((xs (Int32.toNatClampNeg l4)) &&& 31) 1157 [(0, 132), (1, 201), (2, 270), (3, 351), (4, 395), (5, 439), (6, 464), (7, 489), (8, 557), (9, 626), (10, 639), (11, 732), (12, 788), (13, 825), (14, 881), (15, 918), (16, 985), (17, 1052), (18, 1132)] = 1157 from (am_swd c3 (am_swd c13 (am_swd c23 (am_swd c35 (am_swd c44 (am_swd c53 (am_swd c59 (am_swd c65 (am_swd c78 (am_swd c88 (am_swd c92 (am_swd c106 (am_swd c117 (am_swd c125 (am_swd c136 (am_swd c144 (am_swd c157 (am_swd c170 (am_swd c185 rfl)))))))))))))))))))]
      refine e_k 2 (f' := (23, [(4, .int (l4 + 6)), (0, .ref 1000000005), (1, .ref 0), (2, .ref 112), (3, .ref 168)], [])) rfl ?_
      refine e_sub (ls := [(0, .ref 1000000005), (1, .ref 0), (2, .ref 112), (3, .ref 168), (4, .int (l4 + 6))]) rfl ⟨rfl, rfl, rfl, rfl, rfl, trivial⟩ ?_
      exact ih  hb K1 K2
end AUTO
