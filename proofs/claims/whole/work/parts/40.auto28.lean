section AUTO
variable {L : Nat} {xs : Nat → Int32} {d : Nat} {P : am_R → am_H → Prop}
def f_Verifier_followPile_2 (r2 : Nat) (b2 : Nat) (m2 : Nat) : Nat → Int32 → MI → MJ → M2 (Unit ⊕ (Int32))
  | 0, _, _, _ => none
  | fu + 1, l2, I, J => if (I r2 1) ≤ l2 then (some (.inl (), I, J)) else (oc (f_Verifier_isMarked 11 2000 l2 I J) (fun v2 I2 J2 => if ¬ v2 = 0 then (oc (f_Verifier_isMarked 12 2000 l2 I2 J2) (fun v4 I4 J4 => if v4 = 0 then (oc (f_Verifier_fits r2 b2 m2 l2 I4 J4) (fun v6 I6 J6 => if ¬ v6 = 0 then (f_Verifier_followPile_2 r2 b2 m2 fu (l2 + 1) I6 J6) else (some (.inr l2, I6, J6)))) else (if 0 < (I4 10 3) then (some (.inr l2, I4, J4)) else (oc (f_Verifier_fits r2 b2 m2 l2 I4 J4) (fun v9 I9 J9 => if ¬ v9 = 0 then (f_Verifier_followPile_2 r2 b2 m2 fu (l2 + 1) I9 J9) else (some (.inr l2, I9, J9))))))) else (f_Verifier_followPile_2 r2 b2 m2 fu (l2 + 1) I2 J2)))
theorem E_Verifier_followPile_2 {X : MX} {r2 : Nat} {b2 : Nat} {m2 : Nat} (hR_r2 : isRw X r2 b2 m2) : ∀ (fu : Nat) {l2 : Int32} {I : MI} {J : MJ} {r : (Unit ⊕ (Int32))} {I' : MI} {J' : MJ}, f_Verifier_followPile_2 r2 b2 m2 fu l2 I J = some (r, I', J') → (∀ v, r = .inl v → P (.inl (none)) (hX X I' J')) → (∀ u, r = .inr u → am_E (gG L xs) (d + 4) m_Verifier_followPile (51, [(0, .ref 10), (2, .int u)], []) (hX X I' J') P) → am_E (gG L xs) (d + 4) m_Verifier_followPile (2, [(0, .ref 10), (1, .ref r2), (2, .int l2)], []) (hX X I J) P := by
  intro fu
  induction fu with
  | zero =>
    intros
    rename_i hb _ _
    cases hb
  | succ fu ih =>
    intro l2 I J r I' J' hb K1 K2
    unfold f_Verifier_followPile_2 at hb
    refine e_k 2 (f' := (4, [(0, .ref 10), (1, .ref r2), (2, .int l2)], [.ref r2, .int l2])) rfl ?_
    refine r_geti rfl hR_r2.1 hR_r2.2.1 rfl ?_
    refine e_k 1 (f' := (if (I r2 1) ≤ l2 then 64 else 10, [(0, .ref 10), (1, .ref r2), (2, .int l2)], [])) rfl ?_
    refine e_if (fun c1 => ?_) (fun c1 => ?_)
    · replace hb := i_pos c1 hb
      obtain ⟨rfl, rfl, rfl⟩ := s_inj hb
      exact e_r rfl rfl (K1 _ rfl)
    · replace hb := i_neg c1 hb
      refine e_k 1 (f' := (11, [(0, .ref 10), (1, .ref r2), (2, .int l2)], [.ref 10])) rfl ?_
      refine r_getr rfl (x_ltn rfl) rfl rfl ?_
      refine e_k 1 (f' := (15, [(0, .ref 10), (1, .ref r2), (2, .int l2)], [.int l2, .ref 11])) rfl ?_
      obtain ⟨v2, I2, J2, h2, hb⟩ := oc_call hb
      refine r_cs (z := m_Verifier_isMarked) (As := [.ref 11, .int l2]) (rest := []) rfl rfl rfl rfl rfl rfl (E_Verifier_isMarked ⟨(x_ltn rfl), rfl, rfl⟩ h2 ⟨_, rfl, ?_⟩)
      refine e_k 1 (f' := (if ¬ v2 = 0 then 24 else 21, [(0, .ref 10), (1, .ref r2), (2, .int l2)], [])) rfl ?_
      refine e_if (fun c3 => ?_) (fun c3 => ?_)
      · replace hb := i_pos c3 hb
        refine e_k 1 (f' := (25, [(0, .ref 10), (1, .ref r2), (2, .int l2)], [.ref 10])) rfl ?_
        refine r_getr rfl (x_ltn rfl) rfl rfl ?_
        refine e_k 1 (f' := (29, [(0, .ref 10), (1, .ref r2), (2, .int l2)], [.int l2, .ref 12])) rfl ?_
        obtain ⟨v4, I4, J4, h4, hb⟩ := oc_call hb
        refine r_cs (z := m_Verifier_isMarked) (As := [.ref 12, .int l2]) (rest := []) rfl rfl rfl rfl rfl rfl (E_Verifier_isMarked ⟨(x_ltn rfl), rfl, rfl⟩ h4 ⟨_, rfl, ?_⟩)
        refine e_k 1 (f' := (if v4 = 0 then 42 else 35, [(0, .ref 10), (1, .ref r2), (2, .int l2)], [])) rfl ?_
        refine e_if (fun c5 => ?_) (fun c5 => ?_)
        · replace hb := i_pos c5 hb
          refine e_k 3 (f' := (45, [(0, .ref 10), (1, .ref r2), (2, .int l2)], [.int l2, .ref r2, .ref 10])) rfl ?_
          obtain ⟨v6, I6, J6, h6, hb⟩ := oc_call hb
          refine r_cv (z := m_Verifier_fits) (As := [.ref r2, .int l2]) (rest := []) rfl rfl rfl rfl rfl (x_ltn rfl) rfl rfl (E_Verifier_fits hR_r2 h6 ⟨_, rfl, ?_⟩)
          refine e_k 1 (f' := (if ¬ v6 = 0 then 58 else 51, [(0, .ref 10), (1, .ref r2), (2, .int l2)], [])) rfl ?_
          refine e_if (fun c7 => ?_) (fun c7 => ?_)
          · replace hb := i_pos c7 hb
            refine e_k 2 (f' := (2, [(2, .int (l2 + 1)), (0, .ref 10), (1, .ref r2)], [])) rfl ?_
            refine e_sub (ls := [(0, .ref 10), (1, .ref r2), (2, .int (l2 + 1))]) rfl ⟨rfl, rfl, rfl, trivial⟩ ?_
            exact ih  hb K1 K2
          · replace hb := i_neg c7 hb
            refine e_sub (ls := [(0, .ref 10), (2, .int l2)]) rfl ⟨rfl, rfl, trivial⟩ ?_
            obtain ⟨rfl, rfl, rfl⟩ := s_inj hb
            exact K2 _ rfl
        · replace hb := i_neg c5 hb
          refine e_k 1 (f' := (36, [(0, .ref 10), (1, .ref r2), (2, .int l2)], [.ref 10])) rfl ?_
          refine r_geti rfl (x_ltn rfl) rfl rfl ?_
          refine e_k 1 (f' := (if 0 < (I4 10 3) then 51 else 42, [(0, .ref 10), (1, .ref r2), (2, .int l2)], [])) rfl ?_
          refine e_if (fun c8 => ?_) (fun c8 => ?_)
          · replace hb := i_pos c8 hb
            refine e_sub (ls := [(0, .ref 10), (2, .int l2)]) rfl ⟨rfl, rfl, trivial⟩ ?_
            obtain ⟨rfl, rfl, rfl⟩ := s_inj hb
            exact K2 _ rfl
          · replace hb := i_neg c8 hb
            refine e_k 3 (f' := (45, [(0, .ref 10), (1, .ref r2), (2, .int l2)], [.int l2, .ref r2, .ref 10])) rfl ?_
            obtain ⟨v9, I9, J9, h9, hb⟩ := oc_call hb
            refine r_cv (z := m_Verifier_fits) (As := [.ref r2, .int l2]) (rest := []) rfl rfl rfl rfl rfl (x_ltn rfl) rfl rfl (E_Verifier_fits hR_r2 h9 ⟨_, rfl, ?_⟩)
            refine e_k 1 (f' := (if ¬ v9 = 0 then 58 else 51, [(0, .ref 10), (1, .ref r2), (2, .int l2)], [])) rfl ?_
            refine e_if (fun c10 => ?_) (fun c10 => ?_)
            · replace hb := i_pos c10 hb
              refine e_k 2 (f' := (2, [(2, .int (l2 + 1)), (0, .ref 10), (1, .ref r2)], [])) rfl ?_
              refine e_sub (ls := [(0, .ref 10), (1, .ref r2), (2, .int (l2 + 1))]) rfl ⟨rfl, rfl, rfl, trivial⟩ ?_
              exact ih  hb K1 K2
            · replace hb := i_neg c10 hb
              refine e_sub (ls := [(0, .ref 10), (2, .int l2)]) rfl ⟨rfl, rfl, trivial⟩ ?_
              obtain ⟨rfl, rfl, rfl⟩ := s_inj hb
              exact K2 _ rfl
      · replace hb := i_neg c3 hb
        refine e_k 3 (f' := (2, [(2, .int (l2 + 1)), (0, .ref 10), (1, .ref r2)], [])) rfl ?_
        refine e_sub (ls := [(0, .ref 10), (1, .ref r2), (2, .int (l2 + 1))]) rfl ⟨rfl, rfl, rfl, trivial⟩ ?_
        exact ih  hb K1 K2
def f_Verifier_followPile (r2 : Nat) (b2 : Nat) (m2 : Nat) (I : MI) (J : MJ) : M2 Unit := oc (f_Verifier_followPile_2 r2 b2 m2 gF 0 I J) (fun q11 I11 J11 => oe q11 (fun y11 => some (y11, I11, J11)) (fun u11 => oc (f_Verifier_refuse 3 u11 I11 J11) (fun v12 I12 J12 => some ((), I12, J12))))
theorem E_Verifier_followPile {r2 : Nat} {b2 : Nat} {m2 : Nat} {X : MX} {I : MI} {J : MJ} {v : Unit} {I' : MI} {J' : MJ} (hR_r2 : isRw X r2 b2 m2) (hb : f_Verifier_followPile r2 b2 m2 I J = some (v, I', J')) (K : P (.inl (none)) (hX X I' J')) : am_E (gG L xs) (d + 4) m_Verifier_followPile (0, lv_args 0 [.ref 10, .ref r2], []) (hX X I J) P := by
  unfold f_Verifier_followPile at hb
  refine e_k 2 (f' := (2, [(2, .int 0), (0, .ref 10), (1, .ref r2)], [])) rfl ?_
  refine e_sub (ls := [(0, .ref 10), (1, .ref r2), (2, .int 0)]) rfl ⟨rfl, rfl, rfl, trivial⟩ ?_
  obtain ⟨q11, I11, J11, h11, hb⟩ := oc_call hb
  refine E_Verifier_followPile_2 hR_r2 gF  h11 (fun y11 ey11 => ?_) (fun u11 ey11 => ?_)
  · subst ey11
    replace hb := oe_l hb
    obtain ⟨rfl, rfl, rfl⟩ := s_inj hb
    exact K
  · subst ey11
    replace hb := oe_r hb
    refine e_k 3 (f' := (54, [(0, .ref 10), (2, .int u11)], [.int u11, .int 3, .ref 10])) rfl ?_
    obtain ⟨v12, I12, J12, h12, hb⟩ := oc_call hb
    refine r_cv (z := m_Verifier_refuse) (As := [.int 3, .int u11]) (rest := []) rfl rfl rfl rfl rfl (x_ltn rfl) rfl rfl (E_Verifier_refuse  h12 ⟨_, rfl, ?_⟩)
    obtain ⟨rfl, rfl, rfl⟩ := s_inj hb
    exact e_r rfl rfl K
def f_Sh_begin (I : MI) (J : MJ) : M2 Int32 := if ¬ (I 15 1) = 0 then (oc (f_Hall_startAnew  I J) (fun v2 I2 J2 => some (1, I2, J2))) else (some (0, I, J))
theorem E_Sh_begin {X : MX} {I : MI} {J : MJ} {v : Int32} {I' : MI} {J' : MJ} (hb : f_Sh_begin  I J = some (v, I', J')) (K : P (.inl (some (.int v))) (hX X I' J')) : am_E (gG L xs) (d + 4) m_Sh_begin (0, lv_args 0 [.ref 0], []) (hX X I J) P := by
  unfold f_Sh_begin at hb
  refine e_k 1 (f' := (1, [(0, .ref 0)], [.ref 0])) rfl ?_
  refine r_getr rfl (x_ltn rfl) rfl rfl ?_
  refine r_getr rfl (x_ltn rfl) rfl rfl ?_
  refine r_geti rfl (x_ltn rfl) rfl rfl ?_
  refine e_k 1 (f' := (if ¬ (I 15 1) = 0 then 15 else 13, [(0, .ref 0)], [])) rfl ?_
  refine e_if (fun c1 => ?_) (fun c1 => ?_)
  · replace hb := i_pos c1 hb
    refine e_k 1 (f' := (16, [(0, .ref 0)], [.ref 0])) rfl ?_
    refine r_getr rfl (x_ltn rfl) rfl rfl ?_
    obtain ⟨v2, I2, J2, h2, hb⟩ := oc_call hb
    refine r_cv (z := m_Hall_startAnew) (As := []) (rest := []) rfl rfl rfl rfl rfl (x_ltn rfl) rfl rfl (E_Hall_startAnew  h2 ⟨_, rfl, ?_⟩)
    refine e_k 1 (f' := (23, [(0, .ref 0)], [.int 1])) rfl ?_
    obtain ⟨rfl, rfl, rfl⟩ := s_inj hb
    exact e_r rfl rfl K
  · replace hb := i_neg c1 hb
    refine e_k 1 (f' := (14, [(0, .ref 0)], [.int 0])) rfl ?_
    obtain ⟨rfl, rfl, rfl⟩ := s_inj hb
    exact e_r rfl rfl K
def f_Verifier_lets_2 (r2 : Nat) (b2 : Nat) (m2 : Nat) (p3 : Int32) : Nat → Int32 → Int32 → MI → MJ → M2 (Unit)
  | 0, _, _, _, _ => none
  | fu + 1, l2, l3, I, J => if 2000 ≤ l3 then (some ((), I, J)) else (if l3 < 0 ∨ 2000 ≤ Int32.toNatClampNeg l3 then none else (pl (va_up I 11 (upd (I 11) (Int32.toNatClampNeg l3) (0 &&& 1))) (fun I3 => if l3 < 0 ∨ 2000 ≤ Int32.toNatClampNeg l3 then none else (pl (va_up I3 12 (upd (I3 12) (Int32.toNatClampNeg l3) (0 &&& 1))) (fun I5 => f_Verifier_lets_2 r2 b2 m2 p3 fu l2 (l3 + 1) I5 J)))))
theorem E_Verifier_lets_2 {X : MX} {r2 : Nat} {b2 : Nat} {m2 : Nat} {p3 : Int32} (hR_r2 : isRw X r2 b2 m2) : ∀ (fu : Nat) {l2 : Int32} {l3 : Int32} {I : MI} {J : MJ} {r : (Unit)} {I' : MI} {J' : MJ}, f_Verifier_lets_2 r2 b2 m2 p3 fu l2 l3 I J = some (r, I', J') → am_E (gG L xs) d m_Verifier_lets (29, [(0, .ref 10), (1, .ref r2), (2, .int l2)], []) (hX X I' J') P → am_E (gG L xs) d m_Verifier_lets (2, [(0, .ref 10), (1, .ref r2), (2, .int l2), (3, .int l3)], []) (hX X I J) P := by
  intro fu
  induction fu with
  | zero =>
    intros
    rename_i hb _
    cases hb
  | succ fu ih =>
    intro l2 l3 I J r I' J' hb K
    unfold f_Verifier_lets_2 at hb
    refine e_k 3 (f' := (if 2000 ≤ l3 then 29 else 9, [(0, .ref 10), (1, .ref r2), (2, .int l2), (3, .int l3)], [])) rfl ?_
    refine e_if (fun c1 => ?_) (fun c1 => ?_)
    · replace hb := i_pos c1 hb
      refine e_sub (ls := [(0, .ref 10), (1, .ref r2), (2, .int l2)]) rfl ⟨rfl, rfl, rfl, trivial⟩ ?_
      obtain ⟨rfl, rfl, rfl⟩ := s_inj hb
      exact K
    · replace hb := i_neg c1 hb
      refine e_k 1 (f' := (10, [(0, .ref 10), (1, .ref r2), (2, .int l2), (3, .int l3)], [.ref 10])) rfl ?_
      refine r_getr rfl (x_ltn rfl) rfl rfl ?_
      refine e_k 2 (f' := (15, [(0, .ref 10), (1, .ref r2), (2, .int l2), (3, .int l3)], [.int 0, .int l3, .ref 11])) rfl ?_
      obtain ⟨o2, hb⟩ := ob_in hb
      obtain ⟨I3, eI3, hb⟩ := p_nm hb
      refine r_zast' rfl (x_ltn rfl) rfl o2 eI3 ?_
      refine e_k 1 (f' := (17, [(0, .ref 10), (1, .ref r2), (2, .int l2), (3, .int l3)], [.ref 10])) rfl ?_
      refine r_getr rfl (x_ltn rfl) rfl rfl ?_
      refine e_k 2 (f' := (22, [(0, .ref 10), (1, .ref r2), (2, .int l2), (3, .int l3)], [.int 0, .int l3, .ref 12])) rfl ?_
      obtain ⟨o4, hb⟩ := ob_in hb
      obtain ⟨I5, eI5, hb⟩ := p_nm hb
      refine r_zast' rfl (x_ltn rfl) rfl o4 eI5 ?_
      refine e_k 2 (f' := (2, [(3, .int (l3 + 1)), (0, .ref 10), (1, .ref r2), (2, .int l2)], [])) rfl ?_
      refine e_sub (ls := [(0, .ref 10), (1, .ref r2), (2, .int l2), (3, .int (l3 + 1))]) rfl ⟨rfl, rfl, rfl, rfl, trivial⟩ ?_
      exact ih  hb K
def f_Verifier_lets (r2 : Nat) (b2 : Nat) (m2 : Nat) (p3 : Int32) (I : MI) (J : MJ) : M2 Int32 := oc (f_Verifier_lets_2 r2 b2 m2 p3 gF p3 0 I J) (fun u6 I6 J6 => pl (va_up I6 10 (upd (I6 10) 3 0)) (fun I7 => pl (va_up I7 10 (upd (I7 10) 4 0)) (fun I8 => pl (va_up I8 10 (upd (I8 10) 5 0)) (fun I9 => pl (va_up I9 10 (upd (I9 10) 6 0)) (fun I10 => oc (f_Verifier_findOperations r2 b2 m2 p3 I10 J6) (fun v11 I11 J11 => oc ((if ¬ (I11 10 5) = 0 then (some ((), I11, J11)) else (oc (f_Verifier_findTargets r2 b2 m2 I11 J11) (fun v15 I15 J15 => some ((), I15, J15)))) : M2 (Unit)) (fun v13 I13 J13 => oc ((if ¬ (I13 10 5) = 0 then (some ((), I13, J13)) else (oc (f_Verifier_followPile r2 b2 m2 I13 J13) (fun v19 I19 J19 => some ((), I19, J19)))) : M2 (Unit)) (fun v17 I17 J17 => if ¬ (I17 10 5) = 0 then (some (0, I17, J17)) else (some (1, I17, J17))))))))))
theorem E_Verifier_lets {r2 : Nat} {b2 : Nat} {m2 : Nat} {p3 : Int32} {X : MX} {I : MI} {J : MJ} {v : Int32} {I' : MI} {J' : MJ} (hR_r2 : isRw X r2 b2 m2) (hb : f_Verifier_lets r2 b2 m2 p3 I J = some (v, I', J')) (K : P (.inl (some (.int v))) (hX X I' J')) : am_E (gG L xs) (d + 5) m_Verifier_lets (0, lv_args 0 [.ref 10, .ref r2, .int p3], []) (hX X I J) P := by
  unfold f_Verifier_lets at hb
  refine e_k 2 (f' := (2, [(3, .int 0), (0, .ref 10), (1, .ref r2), (2, .int p3)], [])) rfl ?_
  refine e_sub (ls := [(0, .ref 10), (1, .ref r2), (2, .int p3), (3, .int 0)]) rfl ⟨rfl, rfl, rfl, rfl, trivial⟩ ?_
  obtain ⟨u6, I6, J6, h6, hb⟩ := oc_call hb
  refine E_Verifier_lets_2 hR_r2 gF  h6 ?_
  refine e_k 2 (f' := (31, [(0, .ref 10), (1, .ref r2), (2, .int p3)], [.int 0, .ref 10])) rfl ?_
  obtain ⟨I7, eI7, hb⟩ := p_nm hb
  refine r_puti' rfl (x_ltn rfl) rfl rfl eI7 ?_
  refine e_k 2 (f' := (36, [(0, .ref 10), (1, .ref r2), (2, .int p3)], [.int 0, .ref 10])) rfl ?_
  obtain ⟨I8, eI8, hb⟩ := p_nm hb
  refine r_puti' rfl (x_ltn rfl) rfl rfl eI8 ?_
  refine e_k 2 (f' := (41, [(0, .ref 10), (1, .ref r2), (2, .int p3)], [.int 0, .ref 10])) rfl ?_
  obtain ⟨I9, eI9, hb⟩ := p_nm hb
  refine r_puti' rfl (x_ltn rfl) rfl rfl eI9 ?_
  refine e_k 2 (f' := (46, [(0, .ref 10), (1, .ref r2), (2, .int p3)], [.int 0, .ref 10])) rfl ?_
  obtain ⟨I10, eI10, hb⟩ := p_nm hb
  refine r_puti' rfl (x_ltn rfl) rfl rfl eI10 ?_
  refine e_k 3 (f' := (52, [(0, .ref 10), (1, .ref r2), (2, .int p3)], [.int p3, .ref r2, .ref 10])) rfl ?_
  obtain ⟨v11, I11, J11, h11, hb⟩ := oc_call hb
  refine r_cv (z := m_Verifier_findOperations) (As := [.ref r2, .int p3]) (rest := []) rfl rfl rfl rfl rfl (x_ltn rfl) rfl rfl (E_Verifier_findOperations hR_r2 h11 ⟨_, rfl, ?_⟩)
  refine e_k 1 (f' := (56, [(0, .ref 10), (1, .ref r2), (2, .int p3)], [.ref 10])) rfl ?_
  refine r_geti rfl (x_ltn rfl) rfl rfl ?_
  refine e_k 1 (f' := (if ¬ (I11 10 5) = 0 then 67 else 62, [(0, .ref 10), (1, .ref r2), (2, .int p3)], [])) rfl ?_
  obtain ⟨v13, I13, J13, h13, hb⟩ := oc_call hb
  have Kj13 : am_E (gG L xs) (d + 5) m_Verifier_lets (67, [(0, .ref 10), (1, .ref r2)], []) (hX X I13 J13) P := by
    refine e_k 1 (f' := (68, [(0, .ref 10), (1, .ref r2)], [.ref 10])) rfl ?_
    refine r_geti rfl (x_ltn rfl) rfl rfl ?_
    refine e_k 1 (f' := (if ¬ (I13 10 5) = 0 then 79 else 74, [(0, .ref 10), (1, .ref r2)], [])) rfl ?_
    obtain ⟨v17, I17, J17, h17, hb⟩ := oc_call hb
    have Kj17 : am_E (gG L xs) (d + 5) m_Verifier_lets (79, [(0, .ref 10)], []) (hX X I17 J17) P := by
      refine e_k 1 (f' := (80, [(0, .ref 10)], [.ref 10])) rfl ?_
      refine r_geti rfl (x_ltn rfl) rfl rfl ?_
      refine e_k 1 (f' := (if ¬ (I17 10 5) = 0 then 90 else 86, [(0, .ref 10)], [])) rfl ?_
      refine e_if (fun c20 => ?_) (fun c20 => ?_)
      · replace hb := i_pos c20 hb
        refine e_k 1 (f' := (91, [(0, .ref 10)], [.int 0])) rfl ?_
        obtain ⟨rfl, rfl, rfl⟩ := s_inj hb
        exact e_r rfl rfl K
      · replace hb := i_neg c20 hb
        refine e_k 2 (f' := (91, [(0, .ref 10)], [.int 1])) rfl ?_
        obtain ⟨rfl, rfl, rfl⟩ := s_inj hb
        exact e_r rfl rfl K
    clear hb
    refine e_if (fun c18 => ?_) (fun c18 => ?_)
    · replace h17 := i_pos c18 h17
      refine e_sub (ls := [(0, .ref 10)]) rfl ⟨rfl, trivial⟩ ?_
      obtain ⟨rfl, rfl, rfl⟩ := s_inj h17
      exact Kj17
    · replace h17 := i_neg c18 h17
      refine e_k 2 (f' := (76, [(0, .ref 10), (1, .ref r2)], [.ref r2, .ref 10])) rfl ?_
      obtain ⟨v19, I19, J19, h19, h17⟩ := oc_call h17
      refine r_cv (z := m_Verifier_followPile) (As := [.ref r2]) (rest := []) rfl rfl rfl rfl rfl (x_ltn rfl) rfl rfl (E_Verifier_followPile hR_r2 h19 ⟨_, rfl, ?_⟩)
      refine e_sub (ls := [(0, .ref 10)]) rfl ⟨rfl, trivial⟩ ?_
      obtain ⟨rfl, rfl, rfl⟩ := s_inj h17
      exact Kj17
  clear hb
  refine e_if (fun c14 => ?_) (fun c14 => ?_)
  · replace h13 := i_pos c14 h13
    refine e_sub (ls := [(0, .ref 10), (1, .ref r2)]) rfl ⟨rfl, rfl, trivial⟩ ?_
    obtain ⟨rfl, rfl, rfl⟩ := s_inj h13
    exact Kj13
  · replace h13 := i_neg c14 h13
    refine e_k 2 (f' := (64, [(0, .ref 10), (1, .ref r2), (2, .int p3)], [.ref r2, .ref 10])) rfl ?_
    obtain ⟨v15, I15, J15, h15, h13⟩ := oc_call h13
    refine r_cv (z := m_Verifier_findTargets) (As := [.ref r2]) (rest := []) rfl rfl rfl rfl rfl (x_ltn rfl) rfl rfl (E_Verifier_findTargets hR_r2 h15 ⟨_, rfl, ?_⟩)
    refine e_sub (ls := [(0, .ref 10), (1, .ref r2)]) rfl ⟨rfl, rfl, trivial⟩ ?_
    obtain ⟨rfl, rfl, rfl⟩ := s_inj h13
    exact Kj13
end AUTO
