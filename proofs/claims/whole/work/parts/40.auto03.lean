section AUTO
variable {L : Nat} {xs : Nat → Int32} {d : Nat} {P : am_R → am_H → Prop}
def f_Model_readBit (p2 : Int32) (p3 : Int32) (I : MI) (J : MJ) : M2 Int32 := oc (f_Model_isClear p2 I J) (fun v1 I1 J1 => oc ((if v1 = 0 then (some ((), I1, J1)) else (oc (f_Model_note 2 p3 I1 J1) (fun v5 I5 J5 => some ((), I5, J5)))) : M2 (Unit)) (fun v3 I3 J3 => oc (f_Model_numberOf p2 I3 J3) (fun v6 I6 J6 => oc (f_Model_lay_IIV 27 v6 I6 J6) (fun v7 I7 J7 => oc (f_Model_want 59 I7 J7) (fun v8 I8 J8 => if v8 = 0 ∨ v8 = 1 then some (v8, I8, J8) else none)))))
theorem E_Model_readBit {p2 : Int32} {p3 : Int32} {X : MX} {I : MI} {J : MJ} {v : Int32} {I' : MI} {J' : MJ} (hb : f_Model_readBit p2 p3 I J = some (v, I', J')) (K : P (.inl (some (.int v))) (hX X I' J')) : am_E (gG L xs) (d + 3) m_Model_readBit (0, lv_args 0 [.ref 112, .int p2, .int p3], []) (hX X I J) P := by
  unfold f_Model_readBit at hb
  refine e_k 1 (f' := (1, [(0, .ref 112), (1, .int p2), (2, .int p3)], [.int p2])) rfl ?_
  obtain ⟨v1, I1, J1, h1, hb⟩ := oc_call hb
  refine r_cs (z := m_Model_isClear) (As := [.int p2]) (rest := []) rfl rfl rfl rfl rfl rfl (E_Model_isClear  h1 ⟨_, rfl, ?_⟩)
  refine e_k 1 (f' := (if v1 = 0 then 13 else 7, [(0, .ref 112), (1, .int p2), (2, .int p3)], [])) rfl ?_
  obtain ⟨v3, I3, J3, h3, hb⟩ := oc_call hb
  have Kj3 : am_E (gG L xs) (d + 3) m_Model_readBit (13, [(0, .ref 112), (1, .int p2)], []) (hX X I3 J3) P := by
    refine e_k 3 (f' := (17, [(0, .ref 112), (1, .int p2)], [.int p2, .int 27, .ref 112])) rfl ?_
    obtain ⟨v6, I6, J6, h6, hb⟩ := oc_call hb
    refine r_cs (z := m_Model_numberOf) (As := [.int p2]) (rest := [.int 27, .ref 112]) rfl rfl rfl rfl rfl rfl (E_Model_numberOf  h6 ⟨_, rfl, ?_⟩)
    obtain ⟨v7, I7, J7, h7, hb⟩ := oc_call hb
    refine r_cv (z := m_Model_lay_IIV) (As := [.int 27, .int v6]) (rest := []) rfl rfl rfl rfl rfl (x_ltn rfl) rfl rfl (E_Model_lay_IIV  h7 ⟨_, rfl, ?_⟩)
    refine e_k 2 (f' := (26, [(0, .ref 112), (1, .int p2)], [.int 59, .ref 112])) rfl ?_
    obtain ⟨v8, I8, J8, h8, hb⟩ := oc_call hb
    refine r_cv (z := m_Model_want) (As := [.int 59]) (rest := []) rfl rfl rfl rfl rfl (x_ltn rfl) rfl rfl (E_Model_want  h8 ⟨_, rfl, ?_⟩)
    obtain ⟨o9, hb⟩ := ob_if hb
    obtain ⟨rfl, rfl, rfl⟩ := s_inj hb
    exact e_r rfl (if_pos o9) K
  clear hb
  refine e_if (fun c4 => ?_) (fun c4 => ?_)
  · replace h3 := i_pos c4 h3
    refine e_sub (ls := [(0, .ref 112), (1, .int p2)]) rfl ⟨rfl, rfl, trivial⟩ ?_
    obtain ⟨rfl, rfl, rfl⟩ := s_inj h3
    exact Kj3
  · replace h3 := i_neg c4 h3
    refine e_k 3 (f' := (10, [(0, .ref 112), (1, .int p2), (2, .int p3)], [.int p3, .int 2, .ref 112])) rfl ?_
    obtain ⟨v5, I5, J5, h5, h3⟩ := oc_call h3
    refine r_cv (z := m_Model_note) (As := [.int 2, .int p3]) (rest := []) rfl rfl rfl rfl rfl (x_ltn rfl) rfl rfl (E_Model_note  h5 ⟨_, rfl, ?_⟩)
    refine e_sub (ls := [(0, .ref 112), (1, .int p2)]) rfl ⟨rfl, rfl, trivial⟩ ?_
    obtain ⟨rfl, rfl, rfl⟩ := s_inj h3
    exact Kj3
def f_Model_readInput (p2 : Int32) (p3 : Int32) (I : MI) (J : MJ) : M2 Int32 := oc (f_Model_isDigit  I J) (fun v1 I1 J1 => if ¬ v1 = 0 then (pl (I1 112 5 : Int32) (fun x3 => oc (f_Model_see  I1 J1) (fun v4 I4 J4 => pl (v4 - 48 : Int32) (fun x5 => pl (va_up I4 112 (upd (I4 112) 5 ((I4 112 5) + 1))) (fun I6 => oc (f_Model_isClear p2 I6 J4) (fun v7 I7 J7 => oc ((if v7 = 0 then (some ((), I7, J7)) else (oc (f_Model_note 2 p3 I7 J7) (fun v11 I11 J11 => some ((), I11, J11)))) : M2 (Unit)) (fun v9 I9 J9 => oc ((if x5 < (I9 112 16) then (some ((), I9, J9)) else (oc (f_Model_note 4 x3 I9 J9) (fun v15 I15 J15 => some ((), I15, J15)))) : M2 (Unit)) (fun v13 I13 J13 => oc (f_Model_numberOf p2 I13 J13) (fun v16 I16 J16 => oc (f_Model_lay_IIV 13 v16 I16 J16) (fun v17 I17 J17 => oc (f_Model_lay_IV x5 I17 J17) (fun v18 I18 J18 => oc (f_Model_want 59 I18 J18) (fun v19 I19 J19 => if v19 = 0 ∨ v19 = 1 then some (v19, I19, J19) else none)))))))))))) else (oc (f_Model_refuse  I1 J1) (fun v21 I21 J21 => if v21 = 0 ∨ v21 = 1 then some (v21, I21, J21) else none)))
theorem E_Model_readInput {p2 : Int32} {p3 : Int32} {X : MX} {I : MI} {J : MJ} {v : Int32} {I' : MI} {J' : MJ} (hb : f_Model_readInput p2 p3 I J = some (v, I', J')) (K : P (.inl (some (.int v))) (hX X I' J')) : am_E (gG L xs) (d + 3) m_Model_readInput (0, lv_args 0 [.ref 112, .int p2, .int p3], []) (hX X I J) P := by
  unfold f_Model_readInput at hb
  refine e_k 1 (f' := (1, [(0, .ref 112), (1, .int p2), (2, .int p3)], [.ref 112])) rfl ?_
  obtain ⟨v1, I1, J1, h1, hb⟩ := oc_call hb
  refine r_cv (z := m_Model_isDigit) (As := []) (rest := []) rfl rfl rfl rfl rfl (x_ltn rfl) rfl rfl (E_Model_isDigit  h1 ⟨_, rfl, ?_⟩)
  refine e_k 1 (f' := (if ¬ v1 = 0 then 12 else 7, [(0, .ref 112), (1, .int p2), (2, .int p3)], [])) rfl ?_
  refine e_if (fun c2 => ?_) (fun c2 => ?_)
  · replace hb := i_pos c2 hb
    refine e_k 1 (f' := (13, [(0, .ref 112), (1, .int p2), (2, .int p3)], [.ref 112])) rfl ?_
    refine r_geti rfl (x_ltn rfl) rfl rfl ?_
    refine e_k 1 (f' := (17, [(3, .int (I1 112 5)), (0, .ref 112), (1, .int p2), (2, .int p3)], [])) rfl ?_
    obtain ⟨x3, ex3, hb⟩ := p_nm hb
    rw [← ex3]
    refine e_k 1 (f' := (18, [(3, .int x3), (0, .ref 112), (1, .int p2), (2, .int p3)], [.ref 112])) rfl ?_
    obtain ⟨v4, I4, J4, h4, hb⟩ := oc_call hb
    refine r_cv (z := m_Model_see) (As := []) (rest := []) rfl rfl rfl rfl rfl (x_ltn rfl) rfl rfl (E_Model_see  h4 ⟨_, rfl, ?_⟩)
    refine e_k 3 (f' := (26, [(4, .int (v4 - 48)), (3, .int x3), (0, .ref 112), (1, .int p2), (2, .int p3)], [])) rfl ?_
    obtain ⟨x5, ex5, hb⟩ := p_nm hb
    rw [← ex5]
    refine e_k 2 (f' := (28, [(4, .int x5), (3, .int x3), (0, .ref 112), (1, .int p2), (2, .int p3)], [.ref 112, .ref 112])) rfl ?_
    refine r_geti rfl (x_ltn rfl) rfl rfl ?_
    refine e_k 2 (f' := (33, [(4, .int x5), (3, .int x3), (0, .ref 112), (1, .int p2), (2, .int p3)], [.int ((I4 112 5) + 1), .ref 112])) rfl ?_
    obtain ⟨I6, eI6, hb⟩ := p_nm hb
    refine r_puti' rfl (x_ltn rfl) rfl rfl eI6 ?_
    refine e_k 1 (f' := (37, [(4, .int x5), (3, .int x3), (0, .ref 112), (1, .int p2), (2, .int p3)], [.int p2])) rfl ?_
    obtain ⟨v7, I7, J7, h7, hb⟩ := oc_call hb
    refine r_cs (z := m_Model_isClear) (As := [.int p2]) (rest := []) rfl rfl rfl rfl rfl rfl (E_Model_isClear  h7 ⟨_, rfl, ?_⟩)
    refine e_k 1 (f' := (if v7 = 0 then 49 else 43, [(4, .int x5), (3, .int x3), (0, .ref 112), (1, .int p2), (2, .int p3)], [])) rfl ?_
    obtain ⟨v9, I9, J9, h9, hb⟩ := oc_call hb
    have Kj9 : am_E (gG L xs) (d + 3) m_Model_readInput (49, [(0, .ref 112), (1, .int p2), (3, .int x3), (4, .int x5)], []) (hX X I9 J9) P := by
      refine e_k 2 (f' := (52, [(0, .ref 112), (1, .int p2), (3, .int x3), (4, .int x5)], [.ref 112, .int x5])) rfl ?_
      refine r_geti rfl (x_ltn rfl) rfl rfl ?_
      refine e_k 1 (f' := (if x5 < (I9 112 16) then 64 else 58, [(0, .ref 112), (1, .int p2), (3, .int x3), (4, .int x5)], [])) rfl ?_
      obtain ⟨v13, I13, J13, h13, hb⟩ := oc_call hb
      have Kj13 : am_E (gG L xs) (d + 3) m_Model_readInput (64, [(0, .ref 112), (1, .int p2), (4, .int x5)], []) (hX X I13 J13) P := by
        refine e_k 3 (f' := (68, [(0, .ref 112), (1, .int p2), (4, .int x5)], [.int p2, .int 13, .ref 112])) rfl ?_
        obtain ⟨v16, I16, J16, h16, hb⟩ := oc_call hb
        refine r_cs (z := m_Model_numberOf) (As := [.int p2]) (rest := [.int 13, .ref 112]) rfl rfl rfl rfl rfl rfl (E_Model_numberOf  h16 ⟨_, rfl, ?_⟩)
        obtain ⟨v17, I17, J17, h17, hb⟩ := oc_call hb
        refine r_cv (z := m_Model_lay_IIV) (As := [.int 13, .int v16]) (rest := []) rfl rfl rfl rfl rfl (x_ltn rfl) rfl rfl (E_Model_lay_IIV  h17 ⟨_, rfl, ?_⟩)
        refine e_k 2 (f' := (77, [(0, .ref 112), (1, .int p2), (4, .int x5)], [.int x5, .ref 112])) rfl ?_
        obtain ⟨v18, I18, J18, h18, hb⟩ := oc_call hb
        refine r_cv (z := m_Model_lay_IV) (As := [.int x5]) (rest := []) rfl rfl rfl rfl rfl (x_ltn rfl) rfl rfl (E_Model_lay_IV  h18 ⟨_, rfl, ?_⟩)
        refine e_k 2 (f' := (83, [(0, .ref 112), (1, .int p2), (4, .int x5)], [.int 59, .ref 112])) rfl ?_
        obtain ⟨v19, I19, J19, h19, hb⟩ := oc_call hb
        refine r_cv (z := m_Model_want) (As := [.int 59]) (rest := []) rfl rfl rfl rfl rfl (x_ltn rfl) rfl rfl (E_Model_want  h19 ⟨_, rfl, ?_⟩)
        obtain ⟨o20, hb⟩ := ob_if hb
        obtain ⟨rfl, rfl, rfl⟩ := s_inj hb
        exact e_r rfl (if_pos o20) K
      clear hb
      refine e_if (fun c14 => ?_) (fun c14 => ?_)
      · replace h13 := i_pos c14 h13
        refine e_sub (ls := [(0, .ref 112), (1, .int p2), (4, .int x5)]) rfl ⟨rfl, rfl, rfl, trivial⟩ ?_
        obtain ⟨rfl, rfl, rfl⟩ := s_inj h13
        exact Kj13
      · replace h13 := i_neg c14 h13
        refine e_k 3 (f' := (61, [(0, .ref 112), (1, .int p2), (3, .int x3), (4, .int x5)], [.int x3, .int 4, .ref 112])) rfl ?_
        obtain ⟨v15, I15, J15, h15, h13⟩ := oc_call h13
        refine r_cv (z := m_Model_note) (As := [.int 4, .int x3]) (rest := []) rfl rfl rfl rfl rfl (x_ltn rfl) rfl rfl (E_Model_note  h15 ⟨_, rfl, ?_⟩)
        refine e_sub (ls := [(0, .ref 112), (1, .int p2), (4, .int x5)]) rfl ⟨rfl, rfl, rfl, trivial⟩ ?_
        obtain ⟨rfl, rfl, rfl⟩ := s_inj h13
        exact Kj13
    clear hb
    refine e_if (fun c10 => ?_) (fun c10 => ?_)
    · replace h9 := i_pos c10 h9
      refine e_sub (ls := [(0, .ref 112), (1, .int p2), (3, .int x3), (4, .int x5)]) rfl ⟨rfl, rfl, rfl, rfl, trivial⟩ ?_
      obtain ⟨rfl, rfl, rfl⟩ := s_inj h9
      exact Kj9
    · replace h9 := i_neg c10 h9
      refine e_k 3 (f' := (46, [(4, .int x5), (3, .int x3), (0, .ref 112), (1, .int p2), (2, .int p3)], [.int p3, .int 2, .ref 112])) rfl ?_
      obtain ⟨v11, I11, J11, h11, h9⟩ := oc_call h9
      refine r_cv (z := m_Model_note) (As := [.int 2, .int p3]) (rest := []) rfl rfl rfl rfl rfl (x_ltn rfl) rfl rfl (E_Model_note  h11 ⟨_, rfl, ?_⟩)
      refine e_sub (ls := [(0, .ref 112), (1, .int p2), (3, .int x3), (4, .int x5)]) rfl ⟨rfl, rfl, rfl, rfl, trivial⟩ ?_
      obtain ⟨rfl, rfl, rfl⟩ := s_inj h9
      exact Kj9
  · replace hb := i_neg c2 hb
    refine e_k 1 (f' := (8, [(0, .ref 112), (1, .int p2), (2, .int p3)], [.ref 112])) rfl ?_
    obtain ⟨v21, I21, J21, h21, hb⟩ := oc_call hb
    refine r_cv (z := m_Model_refuse) (As := []) (rest := []) rfl rfl rfl rfl rfl (x_ltn rfl) rfl rfl (E_Model_refuse  h21 ⟨_, rfl, ?_⟩)
    obtain ⟨o22, hb⟩ := ob_if hb
    obtain ⟨rfl, rfl, rfl⟩ := s_inj hb
    exact e_r rfl (if_pos o22) K
def f_Model_isSum_7 : Nat → Int32 → MI → MJ → M2 (Int32)
  | 0, _, _, _ => none
  | fu + 1, l1, I, J => if (I 112 2) ≤ l1 then (some (l1, I, J)) else (if l1 < 0 ∨ 400 ≤ Int32.toNatClampNeg l1 then none else (if ¬ (I 113 (Int32.toNatClampNeg l1)) = 32 then (some (l1, I, J)) else (f_Model_isSum_7  fu (l1 + 1) I J)))
theorem E_Model_isSum_7 {X : MX} : ∀ (fu : Nat) {l1 : Int32} {I : MI} {J : MJ} {r : (Int32)} {I' : MI} {J' : MJ}, f_Model_isSum_7  fu l1 I J = some (r, I', J') → am_E (gG L xs) d m_Model_isSum (32, [(0, .ref 112), (1, .int r)], []) (hX X I' J') P → am_E (gG L xs) d m_Model_isSum (7, [(0, .ref 112), (1, .int l1)], []) (hX X I J) P := by
  intro fu
  induction fu with
  | zero =>
    intros
    rename_i hb _
    cases hb
  | succ fu ih =>
    intro l1 I J r I' J' hb K
    unfold f_Model_isSum_7 at hb
    refine e_k 2 (f' := (9, [(0, .ref 112), (1, .int l1)], [.ref 112, .int l1])) rfl ?_
    refine r_geti rfl (x_ltn rfl) rfl rfl ?_
    refine e_k 1 (f' := (if (I 112 2) ≤ l1 then 32 else 15, [(0, .ref 112), (1, .int l1)], [])) rfl ?_
    refine e_if (fun c2 => ?_) (fun c2 => ?_)
    · replace hb := i_pos c2 hb
      refine e_sub (ls := [(0, .ref 112), (1, .int l1)]) rfl ⟨rfl, rfl, trivial⟩ ?_
      obtain ⟨rfl, rfl, rfl⟩ := s_inj hb
      exact K
    · replace hb := i_neg c2 hb
      refine e_k 1 (f' := (16, [(0, .ref 112), (1, .int l1)], [.ref 112])) rfl ?_
      refine r_getr rfl (x_ltn rfl) rfl rfl ?_
      refine e_k 1 (f' := (20, [(0, .ref 112), (1, .int l1)], [.int l1, .ref 113])) rfl ?_
      obtain ⟨o3, hb⟩ := ob_in hb
      refine r_iald rfl rfl (x_ltn rfl) rfl o3 ?_
      refine e_k 2 (f' := (if ¬ (I 113 (Int32.toNatClampNeg l1)) = 32 then 32 else 26, [(0, .ref 112), (1, .int l1)], [])) rfl ?_
      refine e_if (fun c4 => ?_) (fun c4 => ?_)
      · replace hb := i_pos c4 hb
        refine e_sub (ls := [(0, .ref 112), (1, .int l1)]) rfl ⟨rfl, rfl, trivial⟩ ?_
        obtain ⟨rfl, rfl, rfl⟩ := s_inj hb
        exact K
      · replace hb := i_neg c4 hb
        refine e_k 2 (f' := (7, [(1, .int (l1 + 1)), (0, .ref 112)], [])) rfl ?_
        refine e_sub (ls := [(0, .ref 112), (1, .int (l1 + 1))]) rfl ⟨rfl, rfl, trivial⟩ ?_
        exact ih  hb K
def f_Model_isSum (I : MI) (J : MJ) : M2 Int32 := pl ((I 112 5) + 1 : Int32) (fun x1 => oc (f_Model_isSum_7  gF x1 I J) (fun u5 I5 J5 => if (I5 112 2) ≤ u5 then (some (0, I5, J5)) else (if u5 < 0 ∨ 400 ≤ Int32.toNatClampNeg u5 then none else (if ¬ (I5 113 (Int32.toNatClampNeg u5)) = 46 then (some (0, I5, J5)) else (some (1, I5, J5))))))
theorem E_Model_isSum {X : MX} {I : MI} {J : MJ} {v : Int32} {I' : MI} {J' : MJ} (hb : f_Model_isSum  I J = some (v, I', J')) (K : P (.inl (some (.int v))) (hX X I' J')) : am_E (gG L xs) d m_Model_isSum (0, lv_args 0 [.ref 112], []) (hX X I J) P := by
  unfold f_Model_isSum at hb
  refine e_k 1 (f' := (1, [(0, .ref 112)], [.ref 112])) rfl ?_
  refine r_geti rfl (x_ltn rfl) rfl rfl ?_
  refine e_k 3 (f' := (7, [(1, .int ((I 112 5) + 1)), (0, .ref 112)], [])) rfl ?_
  obtain ⟨x1, ex1, hb⟩ := p_nm hb
  rw [← ex1]
  refine e_sub (ls := [(0, .ref 112), (1, .int x1)]) rfl ⟨rfl, rfl, trivial⟩ ?_
  obtain ⟨u5, I5, J5, h5, hb⟩ := oc_call hb
  refine E_Model_isSum_7  gF  h5 ?_
  refine e_k 2 (f' := (34, [(0, .ref 112), (1, .int u5)], [.ref 112, .int u5])) rfl ?_
  refine r_geti rfl (x_ltn rfl) rfl rfl ?_
  refine e_k 1 (f' := (if (I5 112 2) ≤ u5 then 55 else 40, [(0, .ref 112), (1, .int u5)], [])) rfl ?_
  refine e_if (fun c6 => ?_) (fun c6 => ?_)
  · replace hb := i_pos c6 hb
    refine e_k 1 (f' := (56, [(0, .ref 112), (1, .int u5)], [.int 0])) rfl ?_
    obtain ⟨rfl, rfl, rfl⟩ := s_inj hb
    exact e_r rfl rfl K
  · replace hb := i_neg c6 hb
    refine e_k 1 (f' := (41, [(0, .ref 112), (1, .int u5)], [.ref 112])) rfl ?_
    refine r_getr rfl (x_ltn rfl) rfl rfl ?_
    refine e_k 1 (f' := (45, [(0, .ref 112), (1, .int u5)], [.int u5, .ref 113])) rfl ?_
    obtain ⟨o7, hb⟩ := ob_in hb
    refine r_iald rfl rfl (x_ltn rfl) rfl o7 ?_
    refine e_k 2 (f' := (if ¬ (I5 113 (Int32.toNatClampNeg u5)) = 46 then 55 else 51, [(0, .ref 112), (1, .int u5)], [])) rfl ?_
    refine e_if (fun c8 => ?_) (fun c8 => ?_)
    · replace hb := i_pos c8 hb
      refine e_k 1 (f' := (56, [(0, .ref 112), (1, .int u5)], [.int 0])) rfl ?_
      obtain ⟨rfl, rfl, rfl⟩ := s_inj hb
      exact e_r rfl rfl K
    · replace hb := i_neg c8 hb
      refine e_k 2 (f' := (56, [(0, .ref 112), (1, .int u5)], [.int 1])) rfl ?_
      obtain ⟨rfl, rfl, rfl⟩ := s_inj hb
      exact e_r rfl rfl K
def f_Model_readRows (p2 : Int32) (p3 : Int32) (I : MI) (J : MJ) : M2 Int32 := oc (f_Model_isRow  I J) (fun v1 I1 J1 => if ¬ v1 = 0 then (oc (f_Model_see  I1 J1) (fun v3 I3 J3 => pl (va_up I3 112 (upd (I3 112) 5 ((I3 112 5) + 1))) (fun I4 => oc (f_Model_see  I4 J3) (fun v5 I5 J5 => if v5 = 43 then (pl (va_up I5 112 (upd (I5 112) 5 ((I5 112 5) + 1))) (fun I7 => oc (f_Model_isRow  I7 J5) (fun v8 I8 J8 => if ¬ v8 = 0 then (oc (f_Model_see  I8 J8) (fun v10 I10 J10 => pl (va_up I10 112 (upd (I10 112) 5 ((I10 112 5) + 1))) (fun I11 => oc (f_Model_isSecretRow p2 I11 J10) (fun v12 I12 J12 => oc ((if ¬ v12 = 0 then (some ((), I12, J12)) else (oc (f_Model_isSecretRow v3 I12 J12) (fun v16 I16 J16 => if ¬ v16 = 0 then (oc (f_Model_note 3 p3 I16 J16) (fun v18 I18 J18 => some ((), I18, J18))) else (oc (f_Model_isSecretRow v10 I16 J16) (fun v19 I19 J19 => if v19 = 0 then (some ((), I19, J19)) else (oc (f_Model_note 3 p3 I19 J19) (fun v21 I21 J21 => some ((), I21, J21)))))))) : M2 (Unit)) (fun v14 I14 J14 => pl ((if ¬ v5 = 43 then (if ¬ v5 = 45 then (25) else (24)) else (23)) : Int32) (fun v24 => oc (f_Model_lay_IIV v24 (p2 - 65) I14 J14) (fun v27 I27 J27 => oc (f_Model_lay_IV (v3 - 65) I27 J27) (fun v28 I28 J28 => oc (f_Model_lay_IV (v10 - 65) I28 J28) (fun v29 I29 J29 => oc (f_Model_want 59 I29 J29) (fun v30 I30 J30 => if v30 = 0 ∨ v30 = 1 then some (v30, I30, J30) else none)))))))))) else (oc (f_Model_refuse  I8 J8) (fun v32 I32 J32 => if v32 = 0 ∨ v32 = 1 then some (v32, I32, J32) else none))))) else (if v5 = 45 then (pl (va_up I5 112 (upd (I5 112) 5 ((I5 112 5) + 1))) (fun I35 => oc (f_Model_isRow  I35 J5) (fun v36 I36 J36 => if ¬ v36 = 0 then (oc (f_Model_see  I36 J36) (fun v38 I38 J38 => pl (va_up I38 112 (upd (I38 112) 5 ((I38 112 5) + 1))) (fun I39 => oc (f_Model_isSecretRow p2 I39 J38) (fun v40 I40 J40 => oc ((if ¬ v40 = 0 then (some ((), I40, J40)) else (oc (f_Model_isSecretRow v3 I40 J40) (fun v44 I44 J44 => if ¬ v44 = 0 then (oc (f_Model_note 3 p3 I44 J44) (fun v46 I46 J46 => some ((), I46, J46))) else (oc (f_Model_isSecretRow v38 I44 J44) (fun v47 I47 J47 => if v47 = 0 then (some ((), I47, J47)) else (oc (f_Model_note 3 p3 I47 J47) (fun v49 I49 J49 => some ((), I49, J49)))))))) : M2 (Unit)) (fun v42 I42 J42 => pl ((if ¬ v5 = 43 then (if ¬ v5 = 45 then (25) else (24)) else (23)) : Int32) (fun v52 => oc (f_Model_lay_IIV v52 (p2 - 65) I42 J42) (fun v55 I55 J55 => oc (f_Model_lay_IV (v3 - 65) I55 J55) (fun v56 I56 J56 => oc (f_Model_lay_IV (v38 - 65) I56 J56) (fun v57 I57 J57 => oc (f_Model_want 59 I57 J57) (fun v58 I58 J58 => if v58 = 0 ∨ v58 = 1 then some (v58, I58, J58) else none)))))))))) else (oc (f_Model_refuse  I36 J36) (fun v60 I60 J60 => if v60 = 0 ∨ v60 = 1 then some (v60, I60, J60) else none))))) else (if v5 = 42 then (pl (va_up I5 112 (upd (I5 112) 5 ((I5 112 5) + 1))) (fun I63 => oc (f_Model_isRow  I63 J5) (fun v64 I64 J64 => if ¬ v64 = 0 then (oc (f_Model_see  I64 J64) (fun v66 I66 J66 => pl (va_up I66 112 (upd (I66 112) 5 ((I66 112 5) + 1))) (fun I67 => oc (f_Model_isSecretRow p2 I67 J66) (fun v68 I68 J68 => oc ((if ¬ v68 = 0 then (some ((), I68, J68)) else (oc (f_Model_isSecretRow v3 I68 J68) (fun v72 I72 J72 => if ¬ v72 = 0 then (oc (f_Model_note 3 p3 I72 J72) (fun v74 I74 J74 => some ((), I74, J74))) else (oc (f_Model_isSecretRow v66 I72 J72) (fun v75 I75 J75 => if v75 = 0 then (some ((), I75, J75)) else (oc (f_Model_note 3 p3 I75 J75) (fun v77 I77 J77 => some ((), I77, J77)))))))) : M2 (Unit)) (fun v70 I70 J70 => pl ((if ¬ v5 = 43 then (if ¬ v5 = 45 then (25) else (24)) else (23)) : Int32) (fun v80 => oc (f_Model_lay_IIV v80 (p2 - 65) I70 J70) (fun v83 I83 J83 => oc (f_Model_lay_IV (v3 - 65) I83 J83) (fun v84 I84 J84 => oc (f_Model_lay_IV (v66 - 65) I84 J84) (fun v85 I85 J85 => oc (f_Model_want 59 I85 J85) (fun v86 I86 J86 => if v86 = 0 ∨ v86 = 1 then some (v86, I86, J86) else none)))))))))) else (oc (f_Model_refuse  I64 J64) (fun v88 I88 J88 => if v88 = 0 ∨ v88 = 1 then some (v88, I88, J88) else none))))) else (oc (f_Model_refuse  I5 J5) (fun v90 I90 J90 => if v90 = 0 ∨ v90 = 1 then some (v90, I90, J90) else none)))))))) else (oc (f_Model_refuse  I1 J1) (fun v92 I92 J92 => if v92 = 0 ∨ v92 = 1 then some (v92, I92, J92) else none)))
theorem E_Model_readRows {p2 : Int32} {p3 : Int32} {X : MX} {I : MI} {J : MJ} {v : Int32} {I' : MI} {J' : MJ} (hb : f_Model_readRows p2 p3 I J = some (v, I', J')) (K : P (.inl (some (.int v))) (hX X I' J')) : am_E (gG L xs) (d + 3) m_Model_readRows (0, lv_args 0 [.ref 112, .int p2, .int p3], []) (hX X I J) P := by
  unfold f_Model_readRows at hb
  refine e_k 1 (f' := (1, [(0, .ref 112), (1, .int p2), (2, .int p3)], [.ref 112])) rfl ?_
  obtain ⟨v1, I1, J1, h1, hb⟩ := oc_call hb
  refine r_cv (z := m_Model_isRow) (As := []) (rest := []) rfl rfl rfl rfl rfl (x_ltn rfl) rfl rfl (E_Model_isRow  h1 ⟨_, rfl, ?_⟩)
  refine e_k 1 (f' := (if ¬ v1 = 0 then 12 else 7, [(0, .ref 112), (1, .int p2), (2, .int p3)], [])) rfl ?_
  refine e_if (fun c2 => ?_) (fun c2 => ?_)
  · replace hb := i_pos c2 hb
    refine e_k 1 (f' := (13, [(0, .ref 112), (1, .int p2), (2, .int p3)], [.ref 112])) rfl ?_
    obtain ⟨v3, I3, J3, h3, hb⟩ := oc_call hb
    refine r_cv (z := m_Model_see) (As := []) (rest := []) rfl rfl rfl rfl rfl (x_ltn rfl) rfl rfl (E_Model_see  h3 ⟨_, rfl, ?_⟩)
    refine e_k 3 (f' := (19, [(3, .int v3), (0, .ref 112), (1, .int p2), (2, .int p3)], [.ref 112, .ref 112])) rfl ?_
    refine r_geti rfl (x_ltn rfl) rfl rfl ?_
    refine e_k 2 (f' := (24, [(3, .int v3), (0, .ref 112), (1, .int p2), (2, .int p3)], [.int ((I3 112 5) + 1), .ref 112])) rfl ?_
    obtain ⟨I4, eI4, hb⟩ := p_nm hb
    refine r_puti' rfl (x_ltn rfl) rfl rfl eI4 ?_
    refine e_k 1 (f' := (28, [(3, .int v3), (0, .ref 112), (1, .int p2), (2, .int p3)], [.ref 112])) rfl ?_
    obtain ⟨v5, I5, J5, h5, hb⟩ := oc_call hb
    refine r_cv (z := m_Model_see) (As := []) (rest := []) rfl rfl rfl rfl rfl (x_ltn rfl) rfl rfl (E_Model_see  h5 ⟨_, rfl, ?_⟩)
    refine e_k 4 (f' := (if v5 = 43 then 59 else 40, [(4, .int v5), (3, .int v3), (0, .ref 112), (1, .int p2), (2, .int p3)], [])) rfl ?_
    refine e_if (fun c6 => ?_) (fun c6 => ?_)
    · replace hb := i_pos c6 hb
      refine e_k 2 (f' := (61, [(4, .int v5), (3, .int v3), (0, .ref 112), (1, .int p2), (2, .int p3)], [.ref 112, .ref 112])) rfl ?_
      refine r_geti rfl (x_ltn rfl) rfl rfl ?_
      refine e_k 2 (f' := (66, [(4, .int v5), (3, .int v3), (0, .ref 112), (1, .int p2), (2, .int p3)], [.int ((I5 112 5) + 1), .ref 112])) rfl ?_
      obtain ⟨I7, eI7, hb⟩ := p_nm hb
      refine r_puti' rfl (x_ltn rfl) rfl rfl eI7 ?_
      refine e_k 1 (f' := (70, [(4, .int v5), (3, .int v3), (0, .ref 112), (1, .int p2), (2, .int p3)], [.ref 112])) rfl ?_
      obtain ⟨v8, I8, J8, h8, hb⟩ := oc_call hb
      refine r_cv (z := m_Model_isRow) (As := []) (rest := []) rfl rfl rfl rfl rfl (x_ltn rfl) rfl rfl (E_Model_isRow  h8 ⟨_, rfl, ?_⟩)
      refine e_k 1 (f' := (if ¬ v8 = 0 then 81 else 76, [(4, .int v5), (3, .int v3), (0, .ref 112), (1, .int p2), (2, .int p3)], [])) rfl ?_
      refine e_if (fun c9 => ?_) (fun c9 => ?_)
      · replace hb := i_pos c9 hb
        refine e_k 1 (f' := (82, [(4, .int v5), (3, .int v3), (0, .ref 112), (1, .int p2), (2, .int p3)], [.ref 112])) rfl ?_
        obtain ⟨v10, I10, J10, h10, hb⟩ := oc_call hb
        refine r_cv (z := m_Model_see) (As := []) (rest := []) rfl rfl rfl rfl rfl (x_ltn rfl) rfl rfl (E_Model_see  h10 ⟨_, rfl, ?_⟩)
        refine e_k 3 (f' := (89, [(5, .int v10), (4, .int v5), (3, .int v3), (0, .ref 112), (1, .int p2), (2, .int p3)], [.ref 112, .ref 112])) rfl ?_
        refine r_geti rfl (x_ltn rfl) rfl rfl ?_
        refine e_k 2 (f' := (94, [(5, .int v10), (4, .int v5), (3, .int v3), (0, .ref 112), (1, .int p2), (2, .int p3)], [.int ((I10 112 5) + 1), .ref 112])) rfl ?_
        obtain ⟨I11, eI11, hb⟩ := p_nm hb
        refine r_puti' rfl (x_ltn rfl) rfl rfl eI11 ?_
        refine e_k 1 (f' := (98, [(5, .int v10), (4, .int v5), (3, .int v3), (0, .ref 112), (1, .int p2), (2, .int p3)], [.int p2])) rfl ?_
        obtain ⟨v12, I12, J12, h12, hb⟩ := oc_call hb
        refine r_cs (z := m_Model_isSecretRow) (As := [.int p2]) (rest := []) rfl rfl rfl rfl rfl rfl (E_Model_isSecretRow  h12 ⟨_, rfl, ?_⟩)
        refine e_k 1 (f' := (if ¬ v12 = 0 then 125 else 104, [(5, .int v10), (4, .int v5), (3, .int v3), (0, .ref 112), (1, .int p2), (2, .int p3)], [])) rfl ?_
        obtain ⟨v14, I14, J14, h14, hb⟩ := oc_call hb
        have Kj14 : am_E (gG L xs) (d + 3) m_Model_readRows (125, [(0, .ref 112), (1, .int p2), (3, .int v3), (4, .int v5), (5, .int v10)], []) (hX X I14 J14) P := by
          refine e_k 4 (f' := (if ¬ v5 = 43 then 138 else 133, [(0, .ref 112), (1, .int p2), (3, .int v3), (4, .int v5), (5, .int v10)], [.ref 112])) rfl ?_
          obtain ⟨v24, h24, hb⟩ := p_nn hb
          have Kj24 : am_E (gG L xs) (d + 3) m_Model_readRows (152, [(0, .ref 112), (1, .int p2), (3, .int v3), (5, .int v10)], [.int v24, .ref 112]) (hX X I14 J14) P := by
            refine e_k 3 (f' := (156, [(0, .ref 112), (1, .int p2), (3, .int v3), (5, .int v10)], [.int (p2 - 65), .int v24, .ref 112])) rfl ?_
            obtain ⟨v27, I27, J27, h27, hb⟩ := oc_call hb
            refine r_cv (z := m_Model_lay_IIV) (As := [.int v24, .int (p2 - 65)]) (rest := []) rfl rfl rfl rfl rfl (x_ltn rfl) rfl rfl (E_Model_lay_IIV  h27 ⟨_, rfl, ?_⟩)
            refine e_k 4 (f' := (164, [(0, .ref 112), (1, .int p2), (3, .int v3), (5, .int v10)], [.int (v3 - 65), .ref 112])) rfl ?_
            obtain ⟨v28, I28, J28, h28, hb⟩ := oc_call hb
            refine r_cv (z := m_Model_lay_IV) (As := [.int (v3 - 65)]) (rest := []) rfl rfl rfl rfl rfl (x_ltn rfl) rfl rfl (E_Model_lay_IV  h28 ⟨_, rfl, ?_⟩)
            refine e_k 4 (f' := (173, [(0, .ref 112), (1, .int p2), (3, .int v3), (5, .int v10)], [.int (v10 - 65), .ref 112])) rfl ?_
            obtain ⟨v29, I29, J29, h29, hb⟩ := oc_call hb
            refine r_cv (z := m_Model_lay_IV) (As := [.int (v10 - 65)]) (rest := []) rfl rfl rfl rfl rfl (x_ltn rfl) rfl rfl (E_Model_lay_IV  h29 ⟨_, rfl, ?_⟩)
            refine e_k 2 (f' := (179, [(0, .ref 112), (1, .int p2), (3, .int v3), (5, .int v10)], [.int 59, .ref 112])) rfl ?_
            obtain ⟨v30, I30, J30, h30, hb⟩ := oc_call hb
            refine r_cv (z := m_Model_want) (As := [.int 59]) (rest := []) rfl rfl rfl rfl rfl (x_ltn rfl) rfl rfl (E_Model_want  h30 ⟨_, rfl, ?_⟩)
            obtain ⟨o31, hb⟩ := ob_if hb
            obtain ⟨rfl, rfl, rfl⟩ := s_inj hb
            exact e_r rfl (if_pos o31) K
          clear hb
          refine e_if (fun c25 => ?_) (fun c25 => ?_)
          · replace h24 := i_pos c25 h24
            refine e_k 3 (f' := (if ¬ v5 = 45 then 150 else 145, [(0, .ref 112), (1, .int p2), (3, .int v3), (4, .int v5), (5, .int v10)], [.ref 112])) rfl ?_
            refine e_if (fun c26 => ?_) (fun c26 => ?_)
            · replace h24 := i_pos c26 h24
              refine e_k 1 (f' := (152, [(0, .ref 112), (1, .int p2), (3, .int v3), (4, .int v5), (5, .int v10)], [.int 25, .ref 112])) rfl ?_
              refine e_sub (ls := [(0, .ref 112), (1, .int p2), (3, .int v3), (5, .int v10)]) rfl ⟨rfl, rfl, rfl, rfl, trivial⟩ ?_
              subst h24
              exact Kj24
            · replace h24 := i_neg c26 h24
              refine e_k 2 (f' := (152, [(0, .ref 112), (1, .int p2), (3, .int v3), (4, .int v5), (5, .int v10)], [.int 24, .ref 112])) rfl ?_
              refine e_sub (ls := [(0, .ref 112), (1, .int p2), (3, .int v3), (5, .int v10)]) rfl ⟨rfl, rfl, rfl, rfl, trivial⟩ ?_
              subst h24
              exact Kj24
          · replace h24 := i_neg c25 h24
            refine e_k 2 (f' := (152, [(0, .ref 112), (1, .int p2), (3, .int v3), (4, .int v5), (5, .int v10)], [.int 23, .ref 112])) rfl ?_
            refine e_sub (ls := [(0, .ref 112), (1, .int p2), (3, .int v3), (5, .int v10)]) rfl ⟨rfl, rfl, rfl, rfl, trivial⟩ ?_
            subst h24
            exact Kj24
        clear hb
        refine e_if (fun c15 => ?_) (fun c15 => ?_)
        · replace h14 := i_pos c15 h14
          refine e_sub (ls := [(0, .ref 112), (1, .int p2), (3, .int v3), (4, .int v5), (5, .int v10)]) rfl ⟨rfl, rfl, rfl, rfl, rfl, trivial⟩ ?_
          obtain ⟨rfl, rfl, rfl⟩ := s_inj h14
          exact Kj14
        · replace h14 := i_neg c15 h14
          refine e_k 1 (f' := (105, [(5, .int v10), (4, .int v5), (3, .int v3), (0, .ref 112), (1, .int p2), (2, .int p3)], [.int v3])) rfl ?_
          obtain ⟨v16, I16, J16, h16, h14⟩ := oc_call h14
          refine r_cs (z := m_Model_isSecretRow) (As := [.int v3]) (rest := []) rfl rfl rfl rfl rfl rfl (E_Model_isSecretRow  h16 ⟨_, rfl, ?_⟩)
          refine e_k 1 (f' := (if ¬ v16 = 0 then 119 else 111, [(5, .int v10), (4, .int v5), (3, .int v3), (0, .ref 112), (1, .int p2), (2, .int p3)], [])) rfl ?_
          refine e_if (fun c17 => ?_) (fun c17 => ?_)
          · replace h14 := i_pos c17 h14
            refine e_k 3 (f' := (122, [(5, .int v10), (4, .int v5), (3, .int v3), (0, .ref 112), (1, .int p2), (2, .int p3)], [.int p3, .int 3, .ref 112])) rfl ?_
            obtain ⟨v18, I18, J18, h18, h14⟩ := oc_call h14
            refine r_cv (z := m_Model_note) (As := [.int 3, .int p3]) (rest := []) rfl rfl rfl rfl rfl (x_ltn rfl) rfl rfl (E_Model_note  h18 ⟨_, rfl, ?_⟩)
            refine e_sub (ls := [(0, .ref 112), (1, .int p2), (3, .int v3), (4, .int v5), (5, .int v10)]) rfl ⟨rfl, rfl, rfl, rfl, rfl, trivial⟩ ?_
            obtain ⟨rfl, rfl, rfl⟩ := s_inj h14
            exact Kj14
          · replace h14 := i_neg c17 h14
            refine e_k 1 (f' := (113, [(5, .int v10), (4, .int v5), (3, .int v3), (0, .ref 112), (1, .int p2), (2, .int p3)], [.int v10])) rfl ?_
            obtain ⟨v19, I19, J19, h19, h14⟩ := oc_call h14
            refine r_cs (z := m_Model_isSecretRow) (As := [.int v10]) (rest := []) rfl rfl rfl rfl rfl rfl (E_Model_isSecretRow  h19 ⟨_, rfl, ?_⟩)
            refine e_k 1 (f' := (if v19 = 0 then 125 else 119, [(5, .int v10), (4, .int v5), (3, .int v3), (0, .ref 112), (1, .int p2), (2, .int p3)], [])) rfl ?_
            refine e_if (fun c20 => ?_) (fun c20 => ?_)
            · replace h14 := i_pos c20 h14
              refine e_sub (ls := [(0, .ref 112), (1, .int p2), (3, .int v3), (4, .int v5), (5, .int v10)]) rfl ⟨rfl, rfl, rfl, rfl, rfl, trivial⟩ ?_
              obtain ⟨rfl, rfl, rfl⟩ := s_inj h14
              exact Kj14
            · replace h14 := i_neg c20 h14
              refine e_k 3 (f' := (122, [(5, .int v10), (4, .int v5), (3, .int v3), (0, .ref 112), (1, .int p2), (2, .int p3)], [.int p3, .int 3, .ref 112])) rfl ?_
              obtain ⟨v21, I21, J21, h21, h14⟩ := oc_call h14
              refine r_cv (z := m_Model_note) (As := [.int 3, .int p3]) (rest := []) rfl rfl rfl rfl rfl (x_ltn rfl) rfl rfl (E_Model_note  h21 ⟨_, rfl, ?_⟩)
              refine e_sub (ls := [(0, .ref 112), (1, .int p2), (3, .int v3), (4, .int v5), (5, .int v10)]) rfl ⟨rfl, rfl, rfl, rfl, rfl, trivial⟩ ?_
              obtain ⟨rfl, rfl, rfl⟩ := s_inj h14
              exact Kj14
      · replace hb := i_neg c9 hb
        refine e_k 1 (f' := (77, [(4, .int v5), (3, .int v3), (0, .ref 112), (1, .int p2), (2, .int p3)], [.ref 112])) rfl ?_
        obtain ⟨v32, I32, J32, h32, hb⟩ := oc_call hb
        refine r_cv (z := m_Model_refuse) (As := []) (rest := []) rfl rfl rfl rfl rfl (x_ltn rfl) rfl rfl (E_Model_refuse  h32 ⟨_, rfl, ?_⟩)
        obtain ⟨o33, hb⟩ := ob_if hb
        obtain ⟨rfl, rfl, rfl⟩ := s_inj hb
        exact e_r rfl (if_pos o33) K
    · replace hb := i_neg c6 hb
      refine e_k 3 (f' := (if v5 = 45 then 59 else 47, [(4, .int v5), (3, .int v3), (0, .ref 112), (1, .int p2), (2, .int p3)], [])) rfl ?_
      refine e_if (fun c34 => ?_) (fun c34 => ?_)
      · replace hb := i_pos c34 hb
        refine e_k 2 (f' := (61, [(4, .int v5), (3, .int v3), (0, .ref 112), (1, .int p2), (2, .int p3)], [.ref 112, .ref 112])) rfl ?_
        refine r_geti rfl (x_ltn rfl) rfl rfl ?_
        refine e_k 2 (f' := (66, [(4, .int v5), (3, .int v3), (0, .ref 112), (1, .int p2), (2, .int p3)], [.int ((I5 112 5) + 1), .ref 112])) rfl ?_
        obtain ⟨I35, eI35, hb⟩ := p_nm hb
        refine r_puti' rfl (x_ltn rfl) rfl rfl eI35 ?_
        refine e_k 1 (f' := (70, [(4, .int v5), (3, .int v3), (0, .ref 112), (1, .int p2), (2, .int p3)], [.ref 112])) rfl ?_
        obtain ⟨v36, I36, J36, h36, hb⟩ := oc_call hb
        refine r_cv (z := m_Model_isRow) (As := []) (rest := []) rfl rfl rfl rfl rfl (x_ltn rfl) rfl rfl (E_Model_isRow  h36 ⟨_, rfl, ?_⟩)
        refine e_k 1 (f' := (if ¬ v36 = 0 then 81 else 76, [(4, .int v5), (3, .int v3), (0, .ref 112), (1, .int p2), (2, .int p3)], [])) rfl ?_
        refine e_if (fun c37 => ?_) (fun c37 => ?_)
        · replace hb := i_pos c37 hb
          refine e_k 1 (f' := (82, [(4, .int v5), (3, .int v3), (0, .ref 112), (1, .int p2), (2, .int p3)], [.ref 112])) rfl ?_
          obtain ⟨v38, I38, J38, h38, hb⟩ := oc_call hb
          refine r_cv (z := m_Model_see) (As := []) (rest := []) rfl rfl rfl rfl rfl (x_ltn rfl) rfl rfl (E_Model_see  h38 ⟨_, rfl, ?_⟩)
          refine e_k 3 (f' := (89, [(5, .int v38), (4, .int v5), (3, .int v3), (0, .ref 112), (1, .int p2), (2, .int p3)], [.ref 112, .ref 112])) rfl ?_
          refine r_geti rfl (x_ltn rfl) rfl rfl ?_
          refine e_k 2 (f' := (94, [(5, .int v38), (4, .int v5), (3, .int v3), (0, .ref 112), (1, .int p2), (2, .int p3)], [.int ((I38 112 5) + 1), .ref 112])) rfl ?_
          obtain ⟨I39, eI39, hb⟩ := p_nm hb
          refine r_puti' rfl (x_ltn rfl) rfl rfl eI39 ?_
          refine e_k 1 (f' := (98, [(5, .int v38), (4, .int v5), (3, .int v3), (0, .ref 112), (1, .int p2), (2, .int p3)], [.int p2])) rfl ?_
          obtain ⟨v40, I40, J40, h40, hb⟩ := oc_call hb
          refine r_cs (z := m_Model_isSecretRow) (As := [.int p2]) (rest := []) rfl rfl rfl rfl rfl rfl (E_Model_isSecretRow  h40 ⟨_, rfl, ?_⟩)
          refine e_k 1 (f' := (if ¬ v40 = 0 then 125 else 104, [(5, .int v38), (4, .int v5), (3, .int v3), (0, .ref 112), (1, .int p2), (2, .int p3)], [])) rfl ?_
          obtain ⟨v42, I42, J42, h42, hb⟩ := oc_call hb
          have Kj42 : am_E (gG L xs) (d + 3) m_Model_readRows (125, [(0, .ref 112), (1, .int p2), (3, .int v3), (4, .int v5), (5, .int v38)], []) (hX X I42 J42) P := by
            refine e_k 4 (f' := (if ¬ v5 = 43 then 138 else 133, [(0, .ref 112), (1, .int p2), (3, .int v3), (4, .int v5), (5, .int v38)], [.ref 112])) rfl ?_
            obtain ⟨v52, h52, hb⟩ := p_nn hb
            have Kj52 : am_E (gG L xs) (d + 3) m_Model_readRows (152, [(0, .ref 112), (1, .int p2), (3, .int v3), (5, .int v38)], [.int v52, .ref 112]) (hX X I42 J42) P := by
              refine e_k 3 (f' := (156, [(0, .ref 112), (1, .int p2), (3, .int v3), (5, .int v38)], [.int (p2 - 65), .int v52, .ref 112])) rfl ?_
              obtain ⟨v55, I55, J55, h55, hb⟩ := oc_call hb
              refine r_cv (z := m_Model_lay_IIV) (As := [.int v52, .int (p2 - 65)]) (rest := []) rfl rfl rfl rfl rfl (x_ltn rfl) rfl rfl (E_Model_lay_IIV  h55 ⟨_, rfl, ?_⟩)
              refine e_k 4 (f' := (164, [(0, .ref 112), (1, .int p2), (3, .int v3), (5, .int v38)], [.int (v3 - 65), .ref 112])) rfl ?_
              obtain ⟨v56, I56, J56, h56, hb⟩ := oc_call hb
              refine r_cv (z := m_Model_lay_IV) (As := [.int (v3 - 65)]) (rest := []) rfl rfl rfl rfl rfl (x_ltn rfl) rfl rfl (E_Model_lay_IV  h56 ⟨_, rfl, ?_⟩)
              refine e_k 4 (f' := (173, [(0, .ref 112), (1, .int p2), (3, .int v3), (5, .int v38)], [.int (v38 - 65), .ref 112])) rfl ?_
              obtain ⟨v57, I57, J57, h57, hb⟩ := oc_call hb
              refine r_cv (z := m_Model_lay_IV) (As := [.int (v38 - 65)]) (rest := []) rfl rfl rfl rfl rfl (x_ltn rfl) rfl rfl (E_Model_lay_IV  h57 ⟨_, rfl, ?_⟩)
              refine e_k 2 (f' := (179, [(0, .ref 112), (1, .int p2), (3, .int v3), (5, .int v38)], [.int 59, .ref 112])) rfl ?_
              obtain ⟨v58, I58, J58, h58, hb⟩ := oc_call hb
              refine r_cv (z := m_Model_want) (As := [.int 59]) (rest := []) rfl rfl rfl rfl rfl (x_ltn rfl) rfl rfl (E_Model_want  h58 ⟨_, rfl, ?_⟩)
              obtain ⟨o59, hb⟩ := ob_if hb
              obtain ⟨rfl, rfl, rfl⟩ := s_inj hb
              exact e_r rfl (if_pos o59) K
            clear hb
            refine e_if (fun c53 => ?_) (fun c53 => ?_)
            · replace h52 := i_pos c53 h52
              refine e_k 3 (f' := (if ¬ v5 = 45 then 150 else 145, [(0, .ref 112), (1, .int p2), (3, .int v3), (4, .int v5), (5, .int v38)], [.ref 112])) rfl ?_
              refine e_if (fun c54 => ?_) (fun c54 => ?_)
              · replace h52 := i_pos c54 h52
                refine e_k 1 (f' := (152, [(0, .ref 112), (1, .int p2), (3, .int v3), (4, .int v5), (5, .int v38)], [.int 25, .ref 112])) rfl ?_
                refine e_sub (ls := [(0, .ref 112), (1, .int p2), (3, .int v3), (5, .int v38)]) rfl ⟨rfl, rfl, rfl, rfl, trivial⟩ ?_
                subst h52
                exact Kj52
              · replace h52 := i_neg c54 h52
                refine e_k 2 (f' := (152, [(0, .ref 112), (1, .int p2), (3, .int v3), (4, .int v5), (5, .int v38)], [.int 24, .ref 112])) rfl ?_
                refine e_sub (ls := [(0, .ref 112), (1, .int p2), (3, .int v3), (5, .int v38)]) rfl ⟨rfl, rfl, rfl, rfl, trivial⟩ ?_
                subst h52
                exact Kj52
            · replace h52 := i_neg c53 h52
              refine e_k 2 (f' := (152, [(0, .ref 112), (1, .int p2), (3, .int v3), (4, .int v5), (5, .int v38)], [.int 23, .ref 112])) rfl ?_
              refine e_sub (ls := [(0, .ref 112), (1, .int p2), (3, .int v3), (5, .int v38)]) rfl ⟨rfl, rfl, rfl, rfl, trivial⟩ ?_
              subst h52
              exact Kj52
          clear hb
          refine e_if (fun c43 => ?_) (fun c43 => ?_)
          · replace h42 := i_pos c43 h42
            refine e_sub (ls := [(0, .ref 112), (1, .int p2), (3, .int v3), (4, .int v5), (5, .int v38)]) rfl ⟨rfl, rfl, rfl, rfl, rfl, trivial⟩ ?_
            obtain ⟨rfl, rfl, rfl⟩ := s_inj h42
            exact Kj42
          · replace h42 := i_neg c43 h42
            refine e_k 1 (f' := (105, [(5, .int v38), (4, .int v5), (3, .int v3), (0, .ref 112), (1, .int p2), (2, .int p3)], [.int v3])) rfl ?_
            obtain ⟨v44, I44, J44, h44, h42⟩ := oc_call h42
            refine r_cs (z := m_Model_isSecretRow) (As := [.int v3]) (rest := []) rfl rfl rfl rfl rfl rfl (E_Model_isSecretRow  h44 ⟨_, rfl, ?_⟩)
            refine e_k 1 (f' := (if ¬ v44 = 0 then 119 else 111, [(5, .int v38), (4, .int v5), (3, .int v3), (0, .ref 112), (1, .int p2), (2, .int p3)], [])) rfl ?_
            refine e_if (fun c45 => ?_) (fun c45 => ?_)
            · replace h42 := i_pos c45 h42
              refine e_k 3 (f' := (122, [(5, .int v38), (4, .int v5), (3, .int v3), (0, .ref 112), (1, .int p2), (2, .int p3)], [.int p3, .int 3, .ref 112])) rfl ?_
              obtain ⟨v46, I46, J46, h46, h42⟩ := oc_call h42
              refine r_cv (z := m_Model_note) (As := [.int 3, .int p3]) (rest := []) rfl rfl rfl rfl rfl (x_ltn rfl) rfl rfl (E_Model_note  h46 ⟨_, rfl, ?_⟩)
              refine e_sub (ls := [(0, .ref 112), (1, .int p2), (3, .int v3), (4, .int v5), (5, .int v38)]) rfl ⟨rfl, rfl, rfl, rfl, rfl, trivial⟩ ?_
              obtain ⟨rfl, rfl, rfl⟩ := s_inj h42
              exact Kj42
            · replace h42 := i_neg c45 h42
              refine e_k 1 (f' := (113, [(5, .int v38), (4, .int v5), (3, .int v3), (0, .ref 112), (1, .int p2), (2, .int p3)], [.int v38])) rfl ?_
              obtain ⟨v47, I47, J47, h47, h42⟩ := oc_call h42
              refine r_cs (z := m_Model_isSecretRow) (As := [.int v38]) (rest := []) rfl rfl rfl rfl rfl rfl (E_Model_isSecretRow  h47 ⟨_, rfl, ?_⟩)
              refine e_k 1 (f' := (if v47 = 0 then 125 else 119, [(5, .int v38), (4, .int v5), (3, .int v3), (0, .ref 112), (1, .int p2), (2, .int p3)], [])) rfl ?_
              refine e_if (fun c48 => ?_) (fun c48 => ?_)
              · replace h42 := i_pos c48 h42
                refine e_sub (ls := [(0, .ref 112), (1, .int p2), (3, .int v3), (4, .int v5), (5, .int v38)]) rfl ⟨rfl, rfl, rfl, rfl, rfl, trivial⟩ ?_
                obtain ⟨rfl, rfl, rfl⟩ := s_inj h42
                exact Kj42
              · replace h42 := i_neg c48 h42
                refine e_k 3 (f' := (122, [(5, .int v38), (4, .int v5), (3, .int v3), (0, .ref 112), (1, .int p2), (2, .int p3)], [.int p3, .int 3, .ref 112])) rfl ?_
                obtain ⟨v49, I49, J49, h49, h42⟩ := oc_call h42
                refine r_cv (z := m_Model_note) (As := [.int 3, .int p3]) (rest := []) rfl rfl rfl rfl rfl (x_ltn rfl) rfl rfl (E_Model_note  h49 ⟨_, rfl, ?_⟩)
                refine e_sub (ls := [(0, .ref 112), (1, .int p2), (3, .int v3), (4, .int v5), (5, .int v38)]) rfl ⟨rfl, rfl, rfl, rfl, rfl, trivial⟩ ?_
                obtain ⟨rfl, rfl, rfl⟩ := s_inj h42
                exact Kj42
        · replace hb := i_neg c37 hb
          refine e_k 1 (f' := (77, [(4, .int v5), (3, .int v3), (0, .ref 112), (1, .int p2), (2, .int p3)], [.ref 112])) rfl ?_
          obtain ⟨v60, I60, J60, h60, hb⟩ := oc_call hb
          refine r_cv (z := m_Model_refuse) (As := []) (rest := []) rfl rfl rfl rfl rfl (x_ltn rfl) rfl rfl (E_Model_refuse  h60 ⟨_, rfl, ?_⟩)
          obtain ⟨o61, hb⟩ := ob_if hb
          obtain ⟨rfl, rfl, rfl⟩ := s_inj hb
          exact e_r rfl (if_pos o61) K
      · replace hb := i_neg c34 hb
        refine e_k 3 (f' := (if v5 = 42 then 59 else 54, [(4, .int v5), (3, .int v3), (0, .ref 112), (1, .int p2), (2, .int p3)], [])) rfl ?_
        refine e_if (fun c62 => ?_) (fun c62 => ?_)
        · replace hb := i_pos c62 hb
          refine e_k 2 (f' := (61, [(4, .int v5), (3, .int v3), (0, .ref 112), (1, .int p2), (2, .int p3)], [.ref 112, .ref 112])) rfl ?_
          refine r_geti rfl (x_ltn rfl) rfl rfl ?_
          refine e_k 2 (f' := (66, [(4, .int v5), (3, .int v3), (0, .ref 112), (1, .int p2), (2, .int p3)], [.int ((I5 112 5) + 1), .ref 112])) rfl ?_
          obtain ⟨I63, eI63, hb⟩ := p_nm hb
          refine r_puti' rfl (x_ltn rfl) rfl rfl eI63 ?_
          refine e_k 1 (f' := (70, [(4, .int v5), (3, .int v3), (0, .ref 112), (1, .int p2), (2, .int p3)], [.ref 112])) rfl ?_
          obtain ⟨v64, I64, J64, h64, hb⟩ := oc_call hb
          refine r_cv (z := m_Model_isRow) (As := []) (rest := []) rfl rfl rfl rfl rfl (x_ltn rfl) rfl rfl (E_Model_isRow  h64 ⟨_, rfl, ?_⟩)
          refine e_k 1 (f' := (if ¬ v64 = 0 then 81 else 76, [(4, .int v5), (3, .int v3), (0, .ref 112), (1, .int p2), (2, .int p3)], [])) rfl ?_
          refine e_if (fun c65 => ?_) (fun c65 => ?_)
          · replace hb := i_pos c65 hb
            refine e_k 1 (f' := (82, [(4, .int v5), (3, .int v3), (0, .ref 112), (1, .int p2), (2, .int p3)], [.ref 112])) rfl ?_
            obtain ⟨v66, I66, J66, h66, hb⟩ := oc_call hb
            refine r_cv (z := m_Model_see) (As := []) (rest := []) rfl rfl rfl rfl rfl (x_ltn rfl) rfl rfl (E_Model_see  h66 ⟨_, rfl, ?_⟩)
            refine e_k 3 (f' := (89, [(5, .int v66), (4, .int v5), (3, .int v3), (0, .ref 112), (1, .int p2), (2, .int p3)], [.ref 112, .ref 112])) rfl ?_
            refine r_geti rfl (x_ltn rfl) rfl rfl ?_
            refine e_k 2 (f' := (94, [(5, .int v66), (4, .int v5), (3, .int v3), (0, .ref 112), (1, .int p2), (2, .int p3)], [.int ((I66 112 5) + 1), .ref 112])) rfl ?_
            obtain ⟨I67, eI67, hb⟩ := p_nm hb
            refine r_puti' rfl (x_ltn rfl) rfl rfl eI67 ?_
            refine e_k 1 (f' := (98, [(5, .int v66), (4, .int v5), (3, .int v3), (0, .ref 112), (1, .int p2), (2, .int p3)], [.int p2])) rfl ?_
            obtain ⟨v68, I68, J68, h68, hb⟩ := oc_call hb
            refine r_cs (z := m_Model_isSecretRow) (As := [.int p2]) (rest := []) rfl rfl rfl rfl rfl rfl (E_Model_isSecretRow  h68 ⟨_, rfl, ?_⟩)
            refine e_k 1 (f' := (if ¬ v68 = 0 then 125 else 104, [(5, .int v66), (4, .int v5), (3, .int v3), (0, .ref 112), (1, .int p2), (2, .int p3)], [])) rfl ?_
            obtain ⟨v70, I70, J70, h70, hb⟩ := oc_call hb
            have Kj70 : am_E (gG L xs) (d + 3) m_Model_readRows (125, [(0, .ref 112), (1, .int p2), (3, .int v3), (4, .int v5), (5, .int v66)], []) (hX X I70 J70) P := by
              refine e_k 4 (f' := (if ¬ v5 = 43 then 138 else 133, [(0, .ref 112), (1, .int p2), (3, .int v3), (4, .int v5), (5, .int v66)], [.ref 112])) rfl ?_
              obtain ⟨v80, h80, hb⟩ := p_nn hb
              have Kj80 : am_E (gG L xs) (d + 3) m_Model_readRows (152, [(0, .ref 112), (1, .int p2), (3, .int v3), (5, .int v66)], [.int v80, .ref 112]) (hX X I70 J70) P := by
                refine e_k 3 (f' := (156, [(0, .ref 112), (1, .int p2), (3, .int v3), (5, .int v66)], [.int (p2 - 65), .int v80, .ref 112])) rfl ?_
                obtain ⟨v83, I83, J83, h83, hb⟩ := oc_call hb
                refine r_cv (z := m_Model_lay_IIV) (As := [.int v80, .int (p2 - 65)]) (rest := []) rfl rfl rfl rfl rfl (x_ltn rfl) rfl rfl (E_Model_lay_IIV  h83 ⟨_, rfl, ?_⟩)
                refine e_k 4 (f' := (164, [(0, .ref 112), (1, .int p2), (3, .int v3), (5, .int v66)], [.int (v3 - 65), .ref 112])) rfl ?_
                obtain ⟨v84, I84, J84, h84, hb⟩ := oc_call hb
                refine r_cv (z := m_Model_lay_IV) (As := [.int (v3 - 65)]) (rest := []) rfl rfl rfl rfl rfl (x_ltn rfl) rfl rfl (E_Model_lay_IV  h84 ⟨_, rfl, ?_⟩)
                refine e_k 4 (f' := (173, [(0, .ref 112), (1, .int p2), (3, .int v3), (5, .int v66)], [.int (v66 - 65), .ref 112])) rfl ?_
                obtain ⟨v85, I85, J85, h85, hb⟩ := oc_call hb
                refine r_cv (z := m_Model_lay_IV) (As := [.int (v66 - 65)]) (rest := []) rfl rfl rfl rfl rfl (x_ltn rfl) rfl rfl (E_Model_lay_IV  h85 ⟨_, rfl, ?_⟩)
                refine e_k 2 (f' := (179, [(0, .ref 112), (1, .int p2), (3, .int v3), (5, .int v66)], [.int 59, .ref 112])) rfl ?_
                obtain ⟨v86, I86, J86, h86, hb⟩ := oc_call hb
                refine r_cv (z := m_Model_want) (As := [.int 59]) (rest := []) rfl rfl rfl rfl rfl (x_ltn rfl) rfl rfl (E_Model_want  h86 ⟨_, rfl, ?_⟩)
                obtain ⟨o87, hb⟩ := ob_if hb
                obtain ⟨rfl, rfl, rfl⟩ := s_inj hb
                exact e_r rfl (if_pos o87) K
              clear hb
              refine e_if (fun c81 => ?_) (fun c81 => ?_)
              · replace h80 := i_pos c81 h80
                refine e_k 3 (f' := (if ¬ v5 = 45 then 150 else 145, [(0, .ref 112), (1, .int p2), (3, .int v3), (4, .int v5), (5, .int v66)], [.ref 112])) rfl ?_
                refine e_if (fun c82 => ?_) (fun c82 => ?_)
                · replace h80 := i_pos c82 h80
                  refine e_k 1 (f' := (152, [(0, .ref 112), (1, .int p2), (3, .int v3), (4, .int v5), (5, .int v66)], [.int 25, .ref 112])) rfl ?_
                  refine e_sub (ls := [(0, .ref 112), (1, .int p2), (3, .int v3), (5, .int v66)]) rfl ⟨rfl, rfl, rfl, rfl, trivial⟩ ?_
                  subst h80
                  exact Kj80
                · replace h80 := i_neg c82 h80
                  refine e_k 2 (f' := (152, [(0, .ref 112), (1, .int p2), (3, .int v3), (4, .int v5), (5, .int v66)], [.int 24, .ref 112])) rfl ?_
                  refine e_sub (ls := [(0, .ref 112), (1, .int p2), (3, .int v3), (5, .int v66)]) rfl ⟨rfl, rfl, rfl, rfl, trivial⟩ ?_
                  subst h80
                  exact Kj80
              · replace h80 := i_neg c81 h80
                refine e_k 2 (f' := (152, [(0, .ref 112), (1, .int p2), (3, .int v3), (4, .int v5), (5, .int v66)], [.int 23, .ref 112])) rfl ?_
                refine e_sub (ls := [(0, .ref 112), (1, .int p2), (3, .int v3), (5, .int v66)]) rfl ⟨rfl, rfl, rfl, rfl, trivial⟩ ?_
                subst h80
                exact Kj80
            clear hb
            refine e_if (fun c71 => ?_) (fun c71 => ?_)
            · replace h70 := i_pos c71 h70
              refine e_sub (ls := [(0, .ref 112), (1, .int p2), (3, .int v3), (4, .int v5), (5, .int v66)]) rfl ⟨rfl, rfl, rfl, rfl, rfl, trivial⟩ ?_
              obtain ⟨rfl, rfl, rfl⟩ := s_inj h70
              exact Kj70
            · replace h70 := i_neg c71 h70
              refine e_k 1 (f' := (105, [(5, .int v66), (4, .int v5), (3, .int v3), (0, .ref 112), (1, .int p2), (2, .int p3)], [.int v3])) rfl ?_
              obtain ⟨v72, I72, J72, h72, h70⟩ := oc_call h70
              refine r_cs (z := m_Model_isSecretRow) (As := [.int v3]) (rest := []) rfl rfl rfl rfl rfl rfl (E_Model_isSecretRow  h72 ⟨_, rfl, ?_⟩)
              refine e_k 1 (f' := (if ¬ v72 = 0 then 119 else 111, [(5, .int v66), (4, .int v5), (3, .int v3), (0, .ref 112), (1, .int p2), (2, .int p3)], [])) rfl ?_
              refine e_if (fun c73 => ?_) (fun c73 => ?_)
              · replace h70 := i_pos c73 h70
                refine e_k 3 (f' := (122, [(5, .int v66), (4, .int v5), (3, .int v3), (0, .ref 112), (1, .int p2), (2, .int p3)], [.int p3, .int 3, .ref 112])) rfl ?_
                obtain ⟨v74, I74, J74, h74, h70⟩ := oc_call h70
                refine r_cv (z := m_Model_note) (As := [.int 3, .int p3]) (rest := []) rfl rfl rfl rfl rfl (x_ltn rfl) rfl rfl (E_Model_note  h74 ⟨_, rfl, ?_⟩)
                refine e_sub (ls := [(0, .ref 112), (1, .int p2), (3, .int v3), (4, .int v5), (5, .int v66)]) rfl ⟨rfl, rfl, rfl, rfl, rfl, trivial⟩ ?_
                obtain ⟨rfl, rfl, rfl⟩ := s_inj h70
                exact Kj70
              · replace h70 := i_neg c73 h70
                refine e_k 1 (f' := (113, [(5, .int v66), (4, .int v5), (3, .int v3), (0, .ref 112), (1, .int p2), (2, .int p3)], [.int v66])) rfl ?_
                obtain ⟨v75, I75, J75, h75, h70⟩ := oc_call h70
                refine r_cs (z := m_Model_isSecretRow) (As := [.int v66]) (rest := []) rfl rfl rfl rfl rfl rfl (E_Model_isSecretRow  h75 ⟨_, rfl, ?_⟩)
                refine e_k 1 (f' := (if v75 = 0 then 125 else 119, [(5, .int v66), (4, .int v5), (3, .int v3), (0, .ref 112), (1, .int p2), (2, .int p3)], [])) rfl ?_
                refine e_if (fun c76 => ?_) (fun c76 => ?_)
                · replace h70 := i_pos c76 h70
                  refine e_sub (ls := [(0, .ref 112), (1, .int p2), (3, .int v3), (4, .int v5), (5, .int v66)]) rfl ⟨rfl, rfl, rfl, rfl, rfl, trivial⟩ ?_
                  obtain ⟨rfl, rfl, rfl⟩ := s_inj h70
                  exact Kj70
                · replace h70 := i_neg c76 h70
                  refine e_k 3 (f' := (122, [(5, .int v66), (4, .int v5), (3, .int v3), (0, .ref 112), (1, .int p2), (2, .int p3)], [.int p3, .int 3, .ref 112])) rfl ?_
                  obtain ⟨v77, I77, J77, h77, h70⟩ := oc_call h70
                  refine r_cv (z := m_Model_note) (As := [.int 3, .int p3]) (rest := []) rfl rfl rfl rfl rfl (x_ltn rfl) rfl rfl (E_Model_note  h77 ⟨_, rfl, ?_⟩)
                  refine e_sub (ls := [(0, .ref 112), (1, .int p2), (3, .int v3), (4, .int v5), (5, .int v66)]) rfl ⟨rfl, rfl, rfl, rfl, rfl, trivial⟩ ?_
                  obtain ⟨rfl, rfl, rfl⟩ := s_inj h70
                  exact Kj70
          · replace hb := i_neg c65 hb
            refine e_k 1 (f' := (77, [(4, .int v5), (3, .int v3), (0, .ref 112), (1, .int p2), (2, .int p3)], [.ref 112])) rfl ?_
            obtain ⟨v88, I88, J88, h88, hb⟩ := oc_call hb
            refine r_cv (z := m_Model_refuse) (As := []) (rest := []) rfl rfl rfl rfl rfl (x_ltn rfl) rfl rfl (E_Model_refuse  h88 ⟨_, rfl, ?_⟩)
            obtain ⟨o89, hb⟩ := ob_if hb
            obtain ⟨rfl, rfl, rfl⟩ := s_inj hb
            exact e_r rfl (if_pos o89) K
        · replace hb := i_neg c62 hb
          refine e_k 1 (f' := (55, [(4, .int v5), (3, .int v3), (0, .ref 112), (1, .int p2), (2, .int p3)], [.ref 112])) rfl ?_
          obtain ⟨v90, I90, J90, h90, hb⟩ := oc_call hb
          refine r_cv (z := m_Model_refuse) (As := []) (rest := []) rfl rfl rfl rfl rfl (x_ltn rfl) rfl rfl (E_Model_refuse  h90 ⟨_, rfl, ?_⟩)
          obtain ⟨o91, hb⟩ := ob_if hb
          obtain ⟨rfl, rfl, rfl⟩ := s_inj hb
          exact e_r rfl (if_pos o91) K
  · replace hb := i_neg c2 hb
    refine e_k 1 (f' := (8, [(0, .ref 112), (1, .int p2), (2, .int p3)], [.ref 112])) rfl ?_
    obtain ⟨v92, I92, J92, h92, hb⟩ := oc_call hb
    refine r_cv (z := m_Model_refuse) (As := []) (rest := []) rfl rfl rfl rfl rfl (x_ltn rfl) rfl rfl (E_Model_refuse  h92 ⟨_, rfl, ?_⟩)
    obtain ⟨o93, hb⟩ := ob_if hb
    obtain ⟨rfl, rfl, rfl⟩ := s_inj hb
    exact e_r rfl (if_pos o93) K
def f_Model_readOut (I : MI) (J : MJ) : M2 Int32 := pl (va_up I 112 (upd (I 112) 5 ((I 112 5) + 1))) (fun I1 => oc (f_Model_isVariable  I1 J) (fun v2 I2 J2 => if ¬ v2 = 0 then (oc (f_Model_see  I2 J2) (fun v4 I4 J4 => pl (va_up I4 112 (upd (I4 112) 5 ((I4 112 5) + 1))) (fun I5 => oc (f_Model_isClear v4 I5 J4) (fun v6 I6 J6 => pl ((if v6 = 0 then (16) else (15)) : Int32) (fun v8 => oc (f_Model_numberOf v4 I6 J6) (fun v10 I10 J10 => oc (f_Model_lay_IIV v8 v10 I10 J10) (fun v11 I11 J11 => oc (f_Model_want 59 I11 J11) (fun v12 I12 J12 => if v12 = 0 ∨ v12 = 1 then some (v12, I12, J12) else none)))))))) else (oc (f_Model_refuse  I2 J2) (fun v14 I14 J14 => if v14 = 0 ∨ v14 = 1 then some (v14, I14, J14) else none))))
theorem E_Model_readOut {X : MX} {I : MI} {J : MJ} {v : Int32} {I' : MI} {J' : MJ} (hb : f_Model_readOut  I J = some (v, I', J')) (K : P (.inl (some (.int v))) (hX X I' J')) : am_E (gG L xs) (d + 3) m_Model_readOut (0, lv_args 0 [.ref 112], []) (hX X I J) P := by
  unfold f_Model_readOut at hb
  refine e_k 2 (f' := (2, [(0, .ref 112)], [.ref 112, .ref 112])) rfl ?_
  refine r_geti rfl (x_ltn rfl) rfl rfl ?_
  refine e_k 2 (f' := (7, [(0, .ref 112)], [.int ((I 112 5) + 1), .ref 112])) rfl ?_
  obtain ⟨I1, eI1, hb⟩ := p_nm hb
  refine r_puti' rfl (x_ltn rfl) rfl rfl eI1 ?_
  refine e_k 1 (f' := (11, [(0, .ref 112)], [.ref 112])) rfl ?_
  obtain ⟨v2, I2, J2, h2, hb⟩ := oc_call hb
  refine r_cv (z := m_Model_isVariable) (As := []) (rest := []) rfl rfl rfl rfl rfl (x_ltn rfl) rfl rfl (E_Model_isVariable  h2 ⟨_, rfl, ?_⟩)
  refine e_k 1 (f' := (if ¬ v2 = 0 then 22 else 17, [(0, .ref 112)], [])) rfl ?_
  refine e_if (fun c3 => ?_) (fun c3 => ?_)
  · replace hb := i_pos c3 hb
    refine e_k 1 (f' := (23, [(0, .ref 112)], [.ref 112])) rfl ?_
    obtain ⟨v4, I4, J4, h4, hb⟩ := oc_call hb
    refine r_cv (z := m_Model_see) (As := []) (rest := []) rfl rfl rfl rfl rfl (x_ltn rfl) rfl rfl (E_Model_see  h4 ⟨_, rfl, ?_⟩)
    refine e_k 3 (f' := (29, [(1, .int v4), (0, .ref 112)], [.ref 112, .ref 112])) rfl ?_
    refine r_geti rfl (x_ltn rfl) rfl rfl ?_
    refine e_k 2 (f' := (34, [(1, .int v4), (0, .ref 112)], [.int ((I4 112 5) + 1), .ref 112])) rfl ?_
    obtain ⟨I5, eI5, hb⟩ := p_nm hb
    refine r_puti' rfl (x_ltn rfl) rfl rfl eI5 ?_
    refine e_k 2 (f' := (39, [(1, .int v4), (0, .ref 112)], [.int v4, .ref 112])) rfl ?_
    obtain ⟨v6, I6, J6, h6, hb⟩ := oc_call hb
    refine r_cs (z := m_Model_isClear) (As := [.int v4]) (rest := [.ref 112]) rfl rfl rfl rfl rfl rfl (E_Model_isClear  h6 ⟨_, rfl, ?_⟩)
    refine e_k 1 (f' := (if v6 = 0 then 50 else 45, [(1, .int v4), (0, .ref 112)], [.ref 112])) rfl ?_
    obtain ⟨v8, h8, hb⟩ := p_nn hb
    have Kj8 : am_E (gG L xs) (d + 3) m_Model_readOut (52, [(0, .ref 112), (1, .int v4)], [.int v8, .ref 112]) (hX X I6 J6) P := by
      refine e_k 1 (f' := (53, [(0, .ref 112), (1, .int v4)], [.int v4, .int v8, .ref 112])) rfl ?_
      obtain ⟨v10, I10, J10, h10, hb⟩ := oc_call hb
      refine r_cs (z := m_Model_numberOf) (As := [.int v4]) (rest := [.int v8, .ref 112]) rfl rfl rfl rfl rfl rfl (E_Model_numberOf  h10 ⟨_, rfl, ?_⟩)
      obtain ⟨v11, I11, J11, h11, hb⟩ := oc_call hb
      refine r_cv (z := m_Model_lay_IIV) (As := [.int v8, .int v10]) (rest := []) rfl rfl rfl rfl rfl (x_ltn rfl) rfl rfl (E_Model_lay_IIV  h11 ⟨_, rfl, ?_⟩)
      refine e_k 2 (f' := (62, [(0, .ref 112), (1, .int v4)], [.int 59, .ref 112])) rfl ?_
      obtain ⟨v12, I12, J12, h12, hb⟩ := oc_call hb
      refine r_cv (z := m_Model_want) (As := [.int 59]) (rest := []) rfl rfl rfl rfl rfl (x_ltn rfl) rfl rfl (E_Model_want  h12 ⟨_, rfl, ?_⟩)
      obtain ⟨o13, hb⟩ := ob_if hb
      obtain ⟨rfl, rfl, rfl⟩ := s_inj hb
      exact e_r rfl (if_pos o13) K
    clear hb
    refine e_if (fun c9 => ?_) (fun c9 => ?_)
    · replace h8 := i_pos c9 h8
      refine e_k 1 (f' := (52, [(1, .int v4), (0, .ref 112)], [.int 16, .ref 112])) rfl ?_
      refine e_sub (ls := [(0, .ref 112), (1, .int v4)]) rfl ⟨rfl, rfl, trivial⟩ ?_
      subst h8
      exact Kj8
    · replace h8 := i_neg c9 h8
      refine e_k 2 (f' := (52, [(1, .int v4), (0, .ref 112)], [.int 15, .ref 112])) rfl ?_
      refine e_sub (ls := [(0, .ref 112), (1, .int v4)]) rfl ⟨rfl, rfl, trivial⟩ ?_
      subst h8
      exact Kj8
  · replace hb := i_neg c3 hb
    refine e_k 1 (f' := (18, [(0, .ref 112)], [.ref 112])) rfl ?_
    obtain ⟨v14, I14, J14, h14, hb⟩ := oc_call hb
    refine r_cv (z := m_Model_refuse) (As := []) (rest := []) rfl rfl rfl rfl rfl (x_ltn rfl) rfl rfl (E_Model_refuse  h14 ⟨_, rfl, ?_⟩)
    obtain ⟨o15, hb⟩ := ob_if hb
    obtain ⟨rfl, rfl, rfl⟩ := s_inj hb
    exact e_r rfl (if_pos o15) K
def f_Model_fill (p2 : Int32) (p3 : Int32) (I : MI) (J : MJ) : M2 Unit := if p2 < 0 ∨ 6000 ≤ Int32.toNatClampNeg p2 then none else (pl (va_up I 115 (upd (I 115) (Int32.toNatClampNeg p2) (p3 >>> (8 &&& 31)))) (fun I2 => if (p2 + 1) < 0 ∨ 6000 ≤ Int32.toNatClampNeg (p2 + 1) then none else (pl (va_up I2 115 (upd (I2 115) (Int32.toNatClampNeg (p2 + 1)) (p3 &&& 255))) (fun I4 => some ((), I4, J)))))
theorem E_Model_fill {p2 : Int32} {p3 : Int32} {X : MX} {I : MI} {J : MJ} {v : Unit} {I' : MI} {J' : MJ} (hb : f_Model_fill p2 p3 I J = some (v, I', J')) (K : P (.inl (none)) (hX X I' J')) : am_E (gG L xs) d m_Model_fill (0, lv_args 0 [.ref 112, .int p2, .int p3], []) (hX X I J) P := by
  unfold f_Model_fill at hb
  refine e_k 1 (f' := (1, [(0, .ref 112), (1, .int p2), (2, .int p3)], [.ref 112])) rfl ?_
  refine r_getr rfl (x_ltn rfl) rfl rfl ?_
  refine e_k 4 (f' := (9, [(0, .ref 112), (1, .int p2), (2, .int p3)], [.int (p3 >>> (8 &&& 31)), .int p2, .ref 115])) rfl ?_
  obtain ⟨o1, hb⟩ := ob_in hb
  obtain ⟨I2, eI2, hb⟩ := p_nm hb
  refine r_iast' rfl (x_ltn rfl) rfl o1 eI2 ?_
  refine e_k 1 (f' := (11, [(0, .ref 112), (1, .int p2), (2, .int p3)], [.ref 112])) rfl ?_
  refine r_getr rfl (x_ltn rfl) rfl rfl ?_
  refine e_k 6 (f' := (22, [(0, .ref 112), (1, .int p2), (2, .int p3)], [.int (p3 &&& 255), .int (p2 + 1), .ref 115])) rfl ?_
  obtain ⟨o3, hb⟩ := ob_in hb
  obtain ⟨I4, eI4, hb⟩ := p_nm hb
  refine r_iast' rfl (x_ltn rfl) rfl o3 eI4 ?_
  obtain ⟨rfl, rfl, rfl⟩ := s_inj hb
  exact e_r rfl rfl K
def f_Model_readTurn (R : M3) (p2 : Int32) (I : MI) (J : MJ) : M2 Int32 := if (I 112 15) < 20 then (pl (va_up I 112 (upd (I 112) 15 ((I 112 15) + 1))) (fun I2 => pl (va_up I2 112 (upd (I2 112) 79 ((I2 112 79) + 1))) (fun I3 => pl (va_up I3 112 (upd (I3 112) 5 ((I3 112 5) + 1))) (fun I4 => oc (f_Model_isVariable  I4 J) (fun v5 I5 J5 => if ¬ v5 = 0 then (oc (f_Model_see  I5 J5) (fun v7 I7 J7 => oc (f_Model_isSecret v7 I7 J7) (fun v8 I8 J8 => oc ((if v8 = 0 then (some ((), I8, J8)) else (oc (f_Model_note 2 (I8 112 5) I8 J8) (fun v12 I12 J12 => some ((), I12, J12)))) : M2 (Unit)) (fun v10 I10 J10 => oc (f_Model_see  I10 J10) (fun v13 I13 J13 => oc (f_Model_numberOf v13 I13 J13) (fun v14 I14 J14 => pl (va_up I14 112 (upd (I14 112) 5 ((I14 112 5) + 1))) (fun I15 => oc (f_Model_want 91 I15 J14) (fun v16 I16 J16 => if ¬ v16 = 0 then (pl (I16 112 10 : Int32) (fun x18 => oc (f_Model_lay_IIV 17 v14 I16 J16) (fun v19 I19 J19 => pl (I19 112 10 : Int32) (fun x20 => oc (f_Model_lay_IIV 0 0 I19 J19) (fun v21 I21 J21 => oc (R 5 0 0 I21 J21) (fun v22 I22 J22 => if ¬ v22 = 0 then (oc (f_Model_lay_IV 18 I22 J22) (fun v24 I24 J24 => pl (I24 112 10 : Int32) (fun x25 => oc (f_Model_lay_IIV 0 0 I24 J24) (fun v26 I26 J26 => if ¬ p2 = 63 then (oc (f_Model_fill x25 x18 I26 J26) (fun v28 I28 J28 => oc (f_Model_fill x20 (I28 112 10) I28 J28) (fun v29 I29 J29 => pl (va_up I29 112 (upd (I29 112) 15 ((I29 112 15) - 1))) (fun I30 => pl (va_up I30 112 (upd (I30 112) 79 ((I30 112 79) - 1))) (fun I31 => oc (f_Model_want 93 I31 J29) (fun v32 I32 J32 => if v32 = 0 ∨ v32 = 1 then some (v32, I32, J32) else none)))))) else (oc (f_Model_want 124 I26 J26) (fun v34 I34 J34 => if ¬ v34 = 0 then (oc (f_Model_fill x20 (I34 112 10) I34 J34) (fun v36 I36 J36 => oc (R 5 0 0 I36 J36) (fun v37 I37 J37 => if ¬ v37 = 0 then (oc (f_Model_fill x25 (I37 112 10) I37 J37) (fun v39 I39 J39 => pl (va_up I39 112 (upd (I39 112) 15 ((I39 112 15) - 1))) (fun I40 => pl (va_up I40 112 (upd (I40 112) 79 ((I40 112 79) - 1))) (fun I41 => oc (f_Model_want 93 I41 J39) (fun v42 I42 J42 => if v42 = 0 ∨ v42 = 1 then some (v42, I42, J42) else none))))) else (some (0, I37, J37))))) else (some (0, I34, J34)))))))) else (some (0, I22, J22)))))))) else (some (0, I16, J16)))))))))) else (oc (f_Model_refuse  I5 J5) (fun v44 I44 J44 => if v44 = 0 ∨ v44 = 1 then some (v44, I44, J44) else none))))))) else (oc (f_Model_refuse  I J) (fun v46 I46 J46 => if v46 = 0 ∨ v46 = 1 then some (v46, I46, J46) else none))
theorem E_Model_readTurn {R : M3} {p2 : Int32} {X : MX} {I : MI} {J : MJ} {v : Int32} {I' : MI} {J' : MJ} (hR_0 : ∀ {I : MI} {J : MJ} {v : Int32} {I' : MI} {J' : MJ} {P : am_R → am_H → Prop}, R 0 0 0 I J = some (v, I', J') → P (.inl (some (.int v))) (hX X I' J') → am_E (gG L xs) (d + 2) m_Model_readX (0, lv_args 0 [.ref 112], []) (hX X I J) P) (hR_1 : ∀ {I : MI} {J : MJ} {v : Int32} {I' : MI} {J' : MJ} {P : am_R → am_H → Prop}, R 1 0 0 I J = some (v, I', J') → P (.inl (some (.int v))) (hX X I' J') → am_E (gG L xs) (d + 2) m_Model_readProduct (0, lv_args 0 [.ref 112], []) (hX X I J) P) (hR_2 : ∀ {I : MI} {J : MJ} {v : Int32} {I' : MI} {J' : MJ} {P : am_R → am_H → Prop}, R 2 0 0 I J = some (v, I', J') → P (.inl (some (.int v))) (hX X I' J') → am_E (gG L xs) (d + 2) m_Model_readFactor (0, lv_args 0 [.ref 112], []) (hX X I J) P) (hR_3 : ∀ {I : MI} {J : MJ} {v : Int32} {I' : MI} {J' : MJ} {P : am_R → am_H → Prop}, R 3 0 0 I J = some (v, I', J') → P (.inl (some (.int v))) (hX X I' J') → am_E (gG L xs) (d + 2) m_Model_readPart (0, lv_args 0 [.ref 112], []) (hX X I J) P) (hR_4 : ∀ {I : MI} {J : MJ} {v : Int32} {I' : MI} {J' : MJ} {P : am_R → am_H → Prop}, R 4 0 0 I J = some (v, I', J') → P (.inl (some (.int v))) (hX X I' J') → am_E (gG L xs) (d + 2) m_Model_readPlace (0, lv_args 0 [.ref 112], []) (hX X I J) P) (hR_5 : ∀ {I : MI} {J : MJ} {v : Int32} {I' : MI} {J' : MJ} {P : am_R → am_H → Prop}, R 5 0 0 I J = some (v, I', J') → P (.inl (some (.int v))) (hX X I' J') → am_E (gG L xs) (d + 2) m_Model_readStatements (0, lv_args 0 [.ref 112], []) (hX X I J) P) (hR_6 : ∀ {I : MI} {J : MJ} {v : Int32} {I' : MI} {J' : MJ} {P : am_R → am_H → Prop}, R 6 0 0 I J = some (v, I', J') → P (.inl (some (.int v))) (hX X I' J') → am_E (gG L xs) (d + 2) m_Model_readStatement (0, lv_args 0 [.ref 112], []) (hX X I J) P) (hR_7 : ∀ {I : MI} {J : MJ} {v : Int32} {I' : MI} {J' : MJ} {P : am_R → am_H → Prop}, R 7 0 0 I J = some (v, I', J') → P (.inl (some (.int v))) (hX X I' J') → am_E (gG L xs) (d + 2) m_Model_readRoutine (0, lv_args 0 [.ref 112], []) (hX X I J) P) (hR_8 : ∀ {a0 : Int32} {a1 : Int32} {I : MI} {J : MJ} {v : Int32} {I' : MI} {J' : MJ} {P : am_R → am_H → Prop}, R 8 a0 a1 I J = some (v, I', J') → P (.inl (some (.int v))) (hX X I' J') → am_E (gG L xs) (d + 2) m_Model_readValue (0, lv_args 0 [.ref 112, .int a0, .int a1], []) (hX X I J) P) (hR_9 : ∀ {a0 : Int32} {I : MI} {J : MJ} {v : Int32} {I' : MI} {J' : MJ} {P : am_R → am_H → Prop}, R 9 a0 0 I J = some (v, I', J') → P (.inl (some (.int v))) (hX X I' J') → am_E (gG L xs) (d + 2) m_Model_readRow (0, lv_args 0 [.ref 112, .int a0], []) (hX X I J) P) (hR_10 : ∀ {a0 : Int32} {I : MI} {J : MJ} {v : Int32} {I' : MI} {J' : MJ} {P : am_R → am_H → Prop}, R 10 a0 0 I J = some (v, I', J') → P (.inl (some (.int v))) (hX X I' J') → am_E (gG L xs) (d + 2) m_Model_readTurn (0, lv_args 0 [.ref 112, .int a0], []) (hX X I J) P) (hb : f_Model_readTurn R p2 I J = some (v, I', J')) (K : P (.inl (some (.int v))) (hX X I' J')) : am_E (gG L xs) (d + 3) m_Model_readTurn (0, lv_args 0 [.ref 112, .int p2], []) (hX X I J) P := by
  unfold f_Model_readTurn at hb
  refine e_k 1 (f' := (1, [(0, .ref 112), (1, .int p2)], [.ref 112])) rfl ?_
  refine r_geti rfl (x_ltn rfl) rfl rfl ?_
  refine e_k 2 (f' := (if (I 112 15) < 20 then 14 else 9, [(0, .ref 112), (1, .int p2)], [])) rfl ?_
  refine e_if (fun c1 => ?_) (fun c1 => ?_)
  · replace hb := i_pos c1 hb
    refine e_k 2 (f' := (16, [(0, .ref 112), (1, .int p2)], [.ref 112, .ref 112])) rfl ?_
    refine r_geti rfl (x_ltn rfl) rfl rfl ?_
    refine e_k 2 (f' := (21, [(0, .ref 112), (1, .int p2)], [.int ((I 112 15) + 1), .ref 112])) rfl ?_
    obtain ⟨I2, eI2, hb⟩ := p_nm hb
    refine r_puti' rfl (x_ltn rfl) rfl rfl eI2 ?_
    refine e_k 2 (f' := (26, [(0, .ref 112), (1, .int p2)], [.ref 112, .ref 112])) rfl ?_
    refine r_geti rfl (x_ltn rfl) rfl rfl ?_
    refine e_k 2 (f' := (31, [(0, .ref 112), (1, .int p2)], [.int ((I2 112 79) + 1), .ref 112])) rfl ?_
    obtain ⟨I3, eI3, hb⟩ := p_nm hb
    refine r_puti' rfl (x_ltn rfl) rfl rfl eI3 ?_
    refine e_k 2 (f' := (36, [(0, .ref 112), (1, .int p2)], [.ref 112, .ref 112])) rfl ?_
    refine r_geti rfl (x_ltn rfl) rfl rfl ?_
    refine e_k 2 (f' := (41, [(0, .ref 112), (1, .int p2)], [.int ((I3 112 5) + 1), .ref 112])) rfl ?_
    obtain ⟨I4, eI4, hb⟩ := p_nm hb
    refine r_puti' rfl (x_ltn rfl) rfl rfl eI4 ?_
    refine e_k 1 (f' := (45, [(0, .ref 112), (1, .int p2)], [.ref 112])) rfl ?_
    obtain ⟨v5, I5, J5, h5, hb⟩ := oc_call hb
    refine r_cv (z := m_Model_isVariable) (As := []) (rest := []) rfl rfl rfl rfl rfl (x_ltn rfl) rfl rfl (E_Model_isVariable  h5 ⟨_, rfl, ?_⟩)
    refine e_k 1 (f' := (if ¬ v5 = 0 then 56 else 51, [(0, .ref 112), (1, .int p2)], [])) rfl ?_
    refine e_if (fun c6 => ?_) (fun c6 => ?_)
    · replace hb := i_pos c6 hb
      refine e_k 1 (f' := (57, [(0, .ref 112), (1, .int p2)], [.ref 112])) rfl ?_
      obtain ⟨v7, I7, J7, h7, hb⟩ := oc_call hb
      refine r_cv (z := m_Model_see) (As := []) (rest := []) rfl rfl rfl rfl rfl (x_ltn rfl) rfl rfl (E_Model_see  h7 ⟨_, rfl, ?_⟩)
      obtain ⟨v8, I8, J8, h8, hb⟩ := oc_call hb
      refine r_cs (z := m_Model_isSecret) (As := [.int v7]) (rest := []) rfl rfl rfl rfl rfl rfl (E_Model_isSecret  h8 ⟨_, rfl, ?_⟩)
      refine e_k 1 (f' := (if v8 = 0 then 75 else 66, [(0, .ref 112), (1, .int p2)], [])) rfl ?_
      obtain ⟨v10, I10, J10, h10, hb⟩ := oc_call hb
      have Kj10 : am_E (gG L xs) (d + 3) m_Model_readTurn (75, [(0, .ref 112), (1, .int p2)], []) (hX X I10 J10) P := by
        refine e_k 1 (f' := (76, [(0, .ref 112), (1, .int p2)], [.ref 112])) rfl ?_
        obtain ⟨v13, I13, J13, h13, hb⟩ := oc_call hb
        refine r_cv (z := m_Model_see) (As := []) (rest := []) rfl rfl rfl rfl rfl (x_ltn rfl) rfl rfl (E_Model_see  h13 ⟨_, rfl, ?_⟩)
        obtain ⟨v14, I14, J14, h14, hb⟩ := oc_call hb
        refine r_cs (z := m_Model_numberOf) (As := [.int v13]) (rest := []) rfl rfl rfl rfl rfl rfl (E_Model_numberOf  h14 ⟨_, rfl, ?_⟩)
        refine e_k 3 (f' := (85, [(2, .int v14), (0, .ref 112), (1, .int p2)], [.ref 112, .ref 112])) rfl ?_
        refine r_geti rfl (x_ltn rfl) rfl rfl ?_
        refine e_k 2 (f' := (90, [(2, .int v14), (0, .ref 112), (1, .int p2)], [.int ((I14 112 5) + 1), .ref 112])) rfl ?_
        obtain ⟨I15, eI15, hb⟩ := p_nm hb
        refine r_puti' rfl (x_ltn rfl) rfl rfl eI15 ?_
        refine e_k 2 (f' := (96, [(2, .int v14), (0, .ref 112), (1, .int p2)], [.int 91, .ref 112])) rfl ?_
        obtain ⟨v16, I16, J16, h16, hb⟩ := oc_call hb
        refine r_cv (z := m_Model_want) (As := [.int 91]) (rest := []) rfl rfl rfl rfl rfl (x_ltn rfl) rfl rfl (E_Model_want  h16 ⟨_, rfl, ?_⟩)
        refine e_k 1 (f' := (if ¬ v16 = 0 then 104 else 102, [(2, .int v14), (0, .ref 112), (1, .int p2)], [])) rfl ?_
        refine e_if (fun c17 => ?_) (fun c17 => ?_)
        · replace hb := i_pos c17 hb
          refine e_k 1 (f' := (105, [(2, .int v14), (0, .ref 112), (1, .int p2)], [.ref 112])) rfl ?_
          refine r_geti rfl (x_ltn rfl) rfl rfl ?_
          refine e_k 1 (f' := (109, [(3, .int (I16 112 10)), (2, .int v14), (0, .ref 112), (1, .int p2)], [])) rfl ?_
          obtain ⟨x18, ex18, hb⟩ := p_nm hb
          rw [← ex18]
          refine e_k 3 (f' := (113, [(3, .int x18), (2, .int v14), (0, .ref 112), (1, .int p2)], [.int v14, .int 17, .ref 112])) rfl ?_
          obtain ⟨v19, I19, J19, h19, hb⟩ := oc_call hb
          refine r_cv (z := m_Model_lay_IIV) (As := [.int 17, .int v14]) (rest := []) rfl rfl rfl rfl rfl (x_ltn rfl) rfl rfl (E_Model_lay_IIV  h19 ⟨_, rfl, ?_⟩)
          refine e_k 1 (f' := (117, [(3, .int x18), (2, .int v14), (0, .ref 112), (1, .int p2)], [.ref 112])) rfl ?_
          refine r_geti rfl (x_ltn rfl) rfl rfl ?_
          refine e_k 1 (f' := (122, [(4, .int (I19 112 10)), (3, .int x18), (2, .int v14), (0, .ref 112), (1, .int p2)], [])) rfl ?_
          obtain ⟨x20, ex20, hb⟩ := p_nm hb
          rw [← ex20]
          refine e_k 3 (f' := (125, [(4, .int x20), (3, .int x18), (2, .int v14), (0, .ref 112), (1, .int p2)], [.int 0, .int 0, .ref 112])) rfl ?_
          obtain ⟨v21, I21, J21, h21, hb⟩ := oc_call hb
          refine r_cv (z := m_Model_lay_IIV) (As := [.int 0, .int 0]) (rest := []) rfl rfl rfl rfl rfl (x_ltn rfl) rfl rfl (E_Model_lay_IIV  h21 ⟨_, rfl, ?_⟩)
          refine e_k 1 (f' := (129, [(4, .int x20), (3, .int x18), (2, .int v14), (0, .ref 112), (1, .int p2)], [.ref 112])) rfl ?_
          obtain ⟨v22, I22, J22, h22, hb⟩ := oc_call hb
          refine r_cv (z := m_Model_readStatements) (As := []) (rest := []) rfl rfl rfl rfl rfl (x_ltn rfl) rfl rfl (hR_5  h22 ⟨_, rfl, ?_⟩)
          refine e_k 1 (f' := (if ¬ v22 = 0 then 137 else 135, [(4, .int x20), (3, .int x18), (2, .int v14), (0, .ref 112), (1, .int p2)], [])) rfl ?_
          refine e_if (fun c23 => ?_) (fun c23 => ?_)
          · replace hb := i_pos c23 hb
            refine e_k 2 (f' := (140, [(4, .int x20), (3, .int x18), (2, .int v14), (0, .ref 112), (1, .int p2)], [.int 18, .ref 112])) rfl ?_
            obtain ⟨v24, I24, J24, h24, hb⟩ := oc_call hb
            refine r_cv (z := m_Model_lay_IV) (As := [.int 18]) (rest := []) rfl rfl rfl rfl rfl (x_ltn rfl) rfl rfl (E_Model_lay_IV  h24 ⟨_, rfl, ?_⟩)
            refine e_k 1 (f' := (144, [(4, .int x20), (3, .int x18), (2, .int v14), (0, .ref 112), (1, .int p2)], [.ref 112])) rfl ?_
            refine r_geti rfl (x_ltn rfl) rfl rfl ?_
            refine e_k 1 (f' := (149, [(5, .int (I24 112 10)), (4, .int x20), (3, .int x18), (2, .int v14), (0, .ref 112), (1, .int p2)], [])) rfl ?_
            obtain ⟨x25, ex25, hb⟩ := p_nm hb
            rw [← ex25]
            refine e_k 3 (f' := (152, [(5, .int x25), (4, .int x20), (3, .int x18), (2, .int v14), (0, .ref 112), (1, .int p2)], [.int 0, .int 0, .ref 112])) rfl ?_
            obtain ⟨v26, I26, J26, h26, hb⟩ := oc_call hb
            refine r_cv (z := m_Model_lay_IIV) (As := [.int 0, .int 0]) (rest := []) rfl rfl rfl rfl rfl (x_ltn rfl) rfl rfl (E_Model_lay_IIV  h26 ⟨_, rfl, ?_⟩)
            refine e_k 3 (f' := (if ¬ p2 = 63 then 204 else 161, [(5, .int x25), (4, .int x20), (3, .int x18), (2, .int v14), (0, .ref 112), (1, .int p2)], [])) rfl ?_
            refine e_if (fun c27 => ?_) (fun c27 => ?_)
            · replace hb := i_pos c27 hb
              refine e_k 3 (f' := (208, [(5, .int x25), (4, .int x20), (3, .int x18), (2, .int v14), (0, .ref 112), (1, .int p2)], [.int x18, .int x25, .ref 112])) rfl ?_
              obtain ⟨v28, I28, J28, h28, hb⟩ := oc_call hb
              refine r_cv (z := m_Model_fill) (As := [.int x25, .int x18]) (rest := []) rfl rfl rfl rfl rfl (x_ltn rfl) rfl rfl (E_Model_fill  h28 ⟨_, rfl, ?_⟩)
              refine e_k 3 (f' := (215, [(5, .int x25), (4, .int x20), (3, .int x18), (2, .int v14), (0, .ref 112), (1, .int p2)], [.ref 112, .int x20, .ref 112])) rfl ?_
              refine r_geti rfl (x_ltn rfl) rfl rfl ?_
              obtain ⟨v29, I29, J29, h29, hb⟩ := oc_call hb
              refine r_cv (z := m_Model_fill) (As := [.int x20, .int (I28 112 10)]) (rest := []) rfl rfl rfl rfl rfl (x_ltn rfl) rfl rfl (E_Model_fill  h29 ⟨_, rfl, ?_⟩)
              refine e_k 2 (f' := (223, [(5, .int x25), (4, .int x20), (3, .int x18), (2, .int v14), (0, .ref 112), (1, .int p2)], [.ref 112, .ref 112])) rfl ?_
              refine r_geti rfl (x_ltn rfl) rfl rfl ?_
              refine e_k 2 (f' := (228, [(5, .int x25), (4, .int x20), (3, .int x18), (2, .int v14), (0, .ref 112), (1, .int p2)], [.int ((I29 112 15) - 1), .ref 112])) rfl ?_
              obtain ⟨I30, eI30, hb⟩ := p_nm hb
              refine r_puti' rfl (x_ltn rfl) rfl rfl eI30 ?_
              refine e_k 2 (f' := (233, [(5, .int x25), (4, .int x20), (3, .int x18), (2, .int v14), (0, .ref 112), (1, .int p2)], [.ref 112, .ref 112])) rfl ?_
              refine r_geti rfl (x_ltn rfl) rfl rfl ?_
              refine e_k 2 (f' := (238, [(5, .int x25), (4, .int x20), (3, .int x18), (2, .int v14), (0, .ref 112), (1, .int p2)], [.int ((I30 112 79) - 1), .ref 112])) rfl ?_
              obtain ⟨I31, eI31, hb⟩ := p_nm hb
              refine r_puti' rfl (x_ltn rfl) rfl rfl eI31 ?_
              refine e_k 2 (f' := (244, [(5, .int x25), (4, .int x20), (3, .int x18), (2, .int v14), (0, .ref 112), (1, .int p2)], [.int 93, .ref 112])) rfl ?_
              obtain ⟨v32, I32, J32, h32, hb⟩ := oc_call hb
              refine r_cv (z := m_Model_want) (As := [.int 93]) (rest := []) rfl rfl rfl rfl rfl (x_ltn rfl) rfl rfl (E_Model_want  h32 ⟨_, rfl, ?_⟩)
              obtain ⟨o33, hb⟩ := ob_if hb
              obtain ⟨rfl, rfl, rfl⟩ := s_inj hb
              exact e_r rfl (if_pos o33) K
            · replace hb := i_neg c27 hb
              refine e_k 2 (f' := (164, [(5, .int x25), (4, .int x20), (3, .int x18), (2, .int v14), (0, .ref 112), (1, .int p2)], [.int 124, .ref 112])) rfl ?_
              obtain ⟨v34, I34, J34, h34, hb⟩ := oc_call hb
              refine r_cv (z := m_Model_want) (As := [.int 124]) (rest := []) rfl rfl rfl rfl rfl (x_ltn rfl) rfl rfl (E_Model_want  h34 ⟨_, rfl, ?_⟩)
              refine e_k 1 (f' := (if ¬ v34 = 0 then 172 else 170, [(5, .int x25), (4, .int x20), (3, .int x18), (2, .int v14), (0, .ref 112), (1, .int p2)], [])) rfl ?_
              refine e_if (fun c35 => ?_) (fun c35 => ?_)
              · replace hb := i_pos c35 hb
                refine e_k 3 (f' := (176, [(5, .int x25), (4, .int x20), (3, .int x18), (2, .int v14), (0, .ref 112), (1, .int p2)], [.ref 112, .int x20, .ref 112])) rfl ?_
                refine r_geti rfl (x_ltn rfl) rfl rfl ?_
                obtain ⟨v36, I36, J36, h36, hb⟩ := oc_call hb
                refine r_cv (z := m_Model_fill) (As := [.int x20, .int (I34 112 10)]) (rest := []) rfl rfl rfl rfl rfl (x_ltn rfl) rfl rfl (E_Model_fill  h36 ⟨_, rfl, ?_⟩)
                refine e_k 1 (f' := (183, [(5, .int x25), (4, .int x20), (3, .int x18), (2, .int v14), (0, .ref 112), (1, .int p2)], [.ref 112])) rfl ?_
                obtain ⟨v37, I37, J37, h37, hb⟩ := oc_call hb
                refine r_cv (z := m_Model_readStatements) (As := []) (rest := []) rfl rfl rfl rfl rfl (x_ltn rfl) rfl rfl (hR_5  h37 ⟨_, rfl, ?_⟩)
                refine e_k 1 (f' := (if ¬ v37 = 0 then 191 else 189, [(5, .int x25), (4, .int x20), (3, .int x18), (2, .int v14), (0, .ref 112), (1, .int p2)], [])) rfl ?_
                refine e_if (fun c38 => ?_) (fun c38 => ?_)
                · replace hb := i_pos c38 hb
                  refine e_k 3 (f' := (195, [(5, .int x25), (4, .int x20), (3, .int x18), (2, .int v14), (0, .ref 112), (1, .int p2)], [.ref 112, .int x25, .ref 112])) rfl ?_
                  refine r_geti rfl (x_ltn rfl) rfl rfl ?_
                  obtain ⟨v39, I39, J39, h39, hb⟩ := oc_call hb
                  refine r_cv (z := m_Model_fill) (As := [.int x25, .int (I37 112 10)]) (rest := []) rfl rfl rfl rfl rfl (x_ltn rfl) rfl rfl (E_Model_fill  h39 ⟨_, rfl, ?_⟩)
                  refine e_k 3 (f' := (223, [(5, .int x25), (4, .int x20), (3, .int x18), (2, .int v14), (0, .ref 112), (1, .int p2)], [.ref 112, .ref 112])) rfl ?_
                  refine r_geti rfl (x_ltn rfl) rfl rfl ?_
                  refine e_k 2 (f' := (228, [(5, .int x25), (4, .int x20), (3, .int x18), (2, .int v14), (0, .ref 112), (1, .int p2)], [.int ((I39 112 15) - 1), .ref 112])) rfl ?_
                  obtain ⟨I40, eI40, hb⟩ := p_nm hb
                  refine r_puti' rfl (x_ltn rfl) rfl rfl eI40 ?_
                  refine e_k 2 (f' := (233, [(5, .int x25), (4, .int x20), (3, .int x18), (2, .int v14), (0, .ref 112), (1, .int p2)], [.ref 112, .ref 112])) rfl ?_
                  refine r_geti rfl (x_ltn rfl) rfl rfl ?_
                  refine e_k 2 (f' := (238, [(5, .int x25), (4, .int x20), (3, .int x18), (2, .int v14), (0, .ref 112), (1, .int p2)], [.int ((I40 112 79) - 1), .ref 112])) rfl ?_
                  obtain ⟨I41, eI41, hb⟩ := p_nm hb
                  refine r_puti' rfl (x_ltn rfl) rfl rfl eI41 ?_
                  refine e_k 2 (f' := (244, [(5, .int x25), (4, .int x20), (3, .int x18), (2, .int v14), (0, .ref 112), (1, .int p2)], [.int 93, .ref 112])) rfl ?_
                  obtain ⟨v42, I42, J42, h42, hb⟩ := oc_call hb
                  refine r_cv (z := m_Model_want) (As := [.int 93]) (rest := []) rfl rfl rfl rfl rfl (x_ltn rfl) rfl rfl (E_Model_want  h42 ⟨_, rfl, ?_⟩)
                  obtain ⟨o43, hb⟩ := ob_if hb
                  obtain ⟨rfl, rfl, rfl⟩ := s_inj hb
                  exact e_r rfl (if_pos o43) K
                · replace hb := i_neg c38 hb
                  refine e_k 1 (f' := (190, [(5, .int x25), (4, .int x20), (3, .int x18), (2, .int v14), (0, .ref 112), (1, .int p2)], [.int 0])) rfl ?_
                  obtain ⟨rfl, rfl, rfl⟩ := s_inj hb
                  exact e_r rfl rfl K
              · replace hb := i_neg c35 hb
                refine e_k 1 (f' := (171, [(5, .int x25), (4, .int x20), (3, .int x18), (2, .int v14), (0, .ref 112), (1, .int p2)], [.int 0])) rfl ?_
                obtain ⟨rfl, rfl, rfl⟩ := s_inj hb
                exact e_r rfl rfl K
          · replace hb := i_neg c23 hb
            refine e_k 1 (f' := (136, [(4, .int x20), (3, .int x18), (2, .int v14), (0, .ref 112), (1, .int p2)], [.int 0])) rfl ?_
            obtain ⟨rfl, rfl, rfl⟩ := s_inj hb
            exact e_r rfl rfl K
        · replace hb := i_neg c17 hb
          refine e_k 1 (f' := (103, [(2, .int v14), (0, .ref 112), (1, .int p2)], [.int 0])) rfl ?_
          obtain ⟨rfl, rfl, rfl⟩ := s_inj hb
          exact e_r rfl rfl K
      clear hb
      refine e_if (fun c11 => ?_) (fun c11 => ?_)
      · replace h10 := i_pos c11 h10
        refine e_sub (ls := [(0, .ref 112), (1, .int p2)]) rfl ⟨rfl, rfl, trivial⟩ ?_
        obtain ⟨rfl, rfl, rfl⟩ := s_inj h10
        exact Kj10
      · replace h10 := i_neg c11 h10
        refine e_k 3 (f' := (69, [(0, .ref 112), (1, .int p2)], [.ref 112, .int 2, .ref 112])) rfl ?_
        refine r_geti rfl (x_ltn rfl) rfl rfl ?_
        obtain ⟨v12, I12, J12, h12, h10⟩ := oc_call h10
        refine r_cv (z := m_Model_note) (As := [.int 2, .int (I8 112 5)]) (rest := []) rfl rfl rfl rfl rfl (x_ltn rfl) rfl rfl (E_Model_note  h12 ⟨_, rfl, ?_⟩)
        refine e_sub (ls := [(0, .ref 112), (1, .int p2)]) rfl ⟨rfl, rfl, trivial⟩ ?_
        obtain ⟨rfl, rfl, rfl⟩ := s_inj h10
        exact Kj10
    · replace hb := i_neg c6 hb
      refine e_k 1 (f' := (52, [(0, .ref 112), (1, .int p2)], [.ref 112])) rfl ?_
      obtain ⟨v44, I44, J44, h44, hb⟩ := oc_call hb
      refine r_cv (z := m_Model_refuse) (As := []) (rest := []) rfl rfl rfl rfl rfl (x_ltn rfl) rfl rfl (E_Model_refuse  h44 ⟨_, rfl, ?_⟩)
      obtain ⟨o45, hb⟩ := ob_if hb
      obtain ⟨rfl, rfl, rfl⟩ := s_inj hb
      exact e_r rfl (if_pos o45) K
  · replace hb := i_neg c1 hb
    refine e_k 1 (f' := (10, [(0, .ref 112), (1, .int p2)], [.ref 112])) rfl ?_
    obtain ⟨v46, I46, J46, h46, hb⟩ := oc_call hb
    refine r_cv (z := m_Model_refuse) (As := []) (rest := []) rfl rfl rfl rfl rfl (x_ltn rfl) rfl rfl (E_Model_refuse  h46 ⟨_, rfl, ?_⟩)
    obtain ⟨o47, hb⟩ := ob_if hb
    obtain ⟨rfl, rfl, rfl⟩ := s_inj hb
    exact e_r rfl (if_pos o47) K
end AUTO
