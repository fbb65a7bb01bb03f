section AUTO
variable {L : Nat} {xs : Nat → Int32} {d : Nat} {P : am_R → am_H → Prop}
def f_Translator_literal_4 : Nat → Int64 → Int32 → MI → MJ → M2 (Int64)
  | 0, _, _, _, _ => none
  | fu + 1, l1, l3, I, J => if 18 ≤ l3 then (some (l1, I, J)) else (oc (f_Row_at 4 5 400 (I 3 5) I J) (fun v2 I2 J2 => oc (f_Translator_isDigit v2 I2 J2) (fun v3 I3 J3 => if v3 = 0 then (some (l1, I3, J3)) else (oc (f_Row_at 4 5 400 (I3 3 5) I3 J3) (fun v5 I5 J5 => pl (((10 * l1) + (Int32.toInt64 v5)) - 48 : Int64) (fun x6 => pl (va_up I5 3 (upd (I5 3) 5 ((I5 3 5) + 1))) (fun I7 => f_Translator_literal_4  fu x6 (l3 + 1) I7 J5)))))))
theorem E_Translator_literal_4 {X : MX} : ∀ (fu : Nat) {l1 : Int64} {l3 : Int32} {I : MI} {J : MJ} {r : (Int64)} {I' : MI} {J' : MJ}, f_Translator_literal_4  fu l1 l3 I J = some (r, I', J') → am_E (gG L xs) (d + 1) m_Translator_literal (66, [(0, .ref 3), (1, .long r)], []) (hX X I' J') P → am_E (gG L xs) (d + 1) m_Translator_literal (4, [(0, .ref 3), (1, .long l1), (3, .int l3)], []) (hX X I J) P := by
  intro fu
  induction fu with
  | zero =>
    intros
    rename_i hb _
    cases hb
  | succ fu ih =>
    intro l1 l3 I J r I' J' hb K
    unfold f_Translator_literal_4 at hb
    refine e_k 3 (f' := (if 18 ≤ l3 then 66 else 10, [(0, .ref 3), (1, .long l1), (3, .int l3)], [])) rfl ?_
    refine e_if (fun c1 => ?_) (fun c1 => ?_)
    · replace hb := i_pos c1 hb
      refine e_sub (ls := [(0, .ref 3), (1, .long l1)]) rfl ⟨rfl, rfl, trivial⟩ ?_
      obtain ⟨rfl, rfl, rfl⟩ := s_inj hb
      exact K
    · replace hb := i_neg c1 hb
      refine e_k 1 (f' := (11, [(0, .ref 3), (1, .long l1), (3, .int l3)], [.ref 3])) rfl ?_
      refine r_getr rfl (x_ltn rfl) rfl rfl ?_
      refine e_k 1 (f' := (15, [(0, .ref 3), (1, .long l1), (3, .int l3)], [.ref 3, .ref 4])) rfl ?_
      refine r_geti rfl (x_ltn rfl) rfl rfl ?_
      obtain ⟨v2, I2, J2, h2, hb⟩ := oc_call hb
      refine r_cv (z := m_Row_at) (As := [.int (I 3 5)]) (rest := []) rfl rfl rfl rfl rfl (x_ltn rfl) rfl rfl (E_Row_at row_4 h2 ⟨_, rfl, ?_⟩)
      obtain ⟨v3, I3, J3, h3, hb⟩ := oc_call hb
      refine r_cs (z := m_Translator_isDigit) (As := [.int v2]) (rest := []) rfl rfl rfl rfl rfl rfl (E_Translator_isDigit  h3 ⟨_, rfl, ?_⟩)
      refine e_k 1 (f' := (if v3 = 0 then 66 else 27, [(0, .ref 3), (1, .long l1), (3, .int l3)], [])) rfl ?_
      refine e_if (fun c4 => ?_) (fun c4 => ?_)
      · replace hb := i_pos c4 hb
        refine e_sub (ls := [(0, .ref 3), (1, .long l1)]) rfl ⟨rfl, rfl, trivial⟩ ?_
        obtain ⟨rfl, rfl, rfl⟩ := s_inj hb
        exact K
      · replace hb := i_neg c4 hb
        refine e_k 4 (f' := (33, [(0, .ref 3), (1, .long l1), (3, .int l3)], [.ref 3, .long (10 * l1)])) rfl ?_
        refine r_getr rfl (x_ltn rfl) rfl rfl ?_
        refine e_k 1 (f' := (37, [(0, .ref 3), (1, .long l1), (3, .int l3)], [.ref 3, .ref 4, .long (10 * l1)])) rfl ?_
        refine r_geti rfl (x_ltn rfl) rfl rfl ?_
        obtain ⟨v5, I5, J5, h5, hb⟩ := oc_call hb
        refine r_cv (z := m_Row_at) (As := [.int (I3 3 5)]) (rest := [.long (10 * l1)]) rfl rfl rfl rfl rfl (x_ltn rfl) rfl rfl (E_Row_at row_4 h5 ⟨_, rfl, ?_⟩)
        refine e_k 5 (f' := (50, [(1, .long (((10 * l1) + (Int32.toInt64 v5)) - 48)), (0, .ref 3), (3, .int l3)], [])) rfl ?_
        obtain ⟨x6, ex6, hb⟩ := p_nm hb
        rw [← ex6]
        refine e_k 2 (f' := (52, [(1, .long x6), (0, .ref 3), (3, .int l3)], [.ref 3, .ref 3])) rfl ?_
        refine r_geti rfl (x_ltn rfl) rfl rfl ?_
        refine e_k 2 (f' := (57, [(1, .long x6), (0, .ref 3), (3, .int l3)], [.int ((I5 3 5) + 1), .ref 3])) rfl ?_
        obtain ⟨I7, eI7, hb⟩ := p_nm hb
        refine r_puti' rfl (x_ltn rfl) rfl rfl eI7 ?_
        refine e_k 2 (f' := (4, [(3, .int (l3 + 1)), (1, .long x6), (0, .ref 3)], [])) rfl ?_
        refine e_sub (ls := [(0, .ref 3), (1, .long x6), (3, .int (l3 + 1))]) rfl ⟨rfl, rfl, rfl, trivial⟩ ?_
        exact ih  hb K
def f_Translator_literal_77 : Nat → Int64 → Int32 → MI → MJ → M2 (Unit)
  | 0, _, _, _, _ => none
  | fu + 1, l1, l3, I, J => if l3 < 0 then (some ((), I, J)) else (oc (f_Row_add 6 7 2000 (Int64.toInt32 ((Int64.toUInt64 l1 >>> (Int64.toUInt64 (Int32.toInt64 l3) &&& Int64.toUInt64 63)).toInt64)) I J) (fun v11 I11 J11 => f_Translator_literal_77  fu l1 (l3 + (-8)) I11 J11))
theorem E_Translator_literal_77 {X : MX} : ∀ (fu : Nat) {l1 : Int64} {l3 : Int32} {I : MI} {J : MJ} {r : (Unit)} {I' : MI} {J' : MJ}, f_Translator_literal_77  fu l1 l3 I J = some (r, I', J') → am_E (gG L xs) (d + 1) m_Translator_literal (98, [], []) (hX X I' J') P → am_E (gG L xs) (d + 1) m_Translator_literal (77, [(0, .ref 3), (1, .long l1), (3, .int l3)], []) (hX X I J) P := by
  intro fu
  induction fu with
  | zero =>
    intros
    rename_i hb _
    cases hb
  | succ fu ih =>
    intro l1 l3 I J r I' J' hb K
    unfold f_Translator_literal_77 at hb
    refine e_k 2 (f' := (if l3 < 0 then 98 else 81, [(0, .ref 3), (1, .long l1), (3, .int l3)], [])) rfl ?_
    refine e_if (fun c10 => ?_) (fun c10 => ?_)
    · replace hb := i_pos c10 hb
      refine e_sub (ls := []) rfl ⟨⟩ ?_
      obtain ⟨rfl, rfl, rfl⟩ := s_inj hb
      exact K
    · replace hb := i_neg c10 hb
      refine e_k 1 (f' := (82, [(0, .ref 3), (1, .long l1), (3, .int l3)], [.ref 3])) rfl ?_
      refine r_getr rfl (x_ltn rfl) rfl rfl ?_
      refine e_k 4 (f' := (89, [(0, .ref 3), (1, .long l1), (3, .int l3)], [.int (Int64.toInt32 ((Int64.toUInt64 l1 >>> (Int64.toUInt64 (Int32.toInt64 l3) &&& Int64.toUInt64 63)).toInt64)), .ref 6])) rfl ?_
      obtain ⟨v11, I11, J11, h11, hb⟩ := oc_call hb
      refine r_cv (z := m_Row_add) (As := [.int (Int64.toInt32 ((Int64.toUInt64 l1 >>> (Int64.toUInt64 (Int32.toInt64 l3) &&& Int64.toUInt64 63)).toInt64))]) (rest := []) rfl rfl rfl rfl rfl (x_ltn rfl) rfl rfl (E_Row_add row_6 h11 ⟨_, rfl, ?_⟩)
      refine e_k 2 (f' := (77, [(3, .int (l3 + (-8))), (0, .ref 3), (1, .long l1)], [])) rfl ?_
      refine e_sub (ls := [(0, .ref 3), (1, .long l1), (3, .int (l3 + (-8)))]) rfl ⟨rfl, rfl, rfl, trivial⟩ ?_
      exact ih  hb K
def f_Translator_literal (I : MI) (J : MJ) : M2 Unit := oc (f_Translator_literal_4  gF 0 0 I J) (fun u8 I8 J8 => oc (f_Row_add 6 7 2000 1 I8 J8) (fun v9 I9 J9 => oc (f_Translator_literal_77  gF u8 56 I9 J9) (fun u12 I12 J12 => some ((), I12, J12))))
theorem E_Translator_literal {X : MX} {I : MI} {J : MJ} {v : Unit} {I' : MI} {J' : MJ} (hb : f_Translator_literal  I J = some (v, I', J')) (K : P (.inl (none)) (hX X I' J')) : am_E (gG L xs) (d + 1) m_Translator_literal (0, lv_args 0 [.ref 3], []) (hX X I J) P := by
  unfold f_Translator_literal at hb
  refine e_k 4 (f' := (4, [(3, .int 0), (1, .long 0), (0, .ref 3)], [])) rfl ?_
  refine e_sub (ls := [(0, .ref 3), (1, .long 0), (3, .int 0)]) rfl ⟨rfl, rfl, rfl, trivial⟩ ?_
  obtain ⟨u8, I8, J8, h8, hb⟩ := oc_call hb
  refine E_Translator_literal_4  gF  h8 ?_
  refine e_k 1 (f' := (67, [(0, .ref 3), (1, .long u8)], [.ref 3])) rfl ?_
  refine r_getr rfl (x_ltn rfl) rfl rfl ?_
  refine e_k 1 (f' := (71, [(0, .ref 3), (1, .long u8)], [.int 1, .ref 6])) rfl ?_
  obtain ⟨v9, I9, J9, h9, hb⟩ := oc_call hb
  refine r_cv (z := m_Row_add) (As := [.int 1]) (rest := []) rfl rfl rfl rfl rfl (x_ltn rfl) rfl rfl (E_Row_add row_6 h9 ⟨_, rfl, ?_⟩)
  refine e_k 2 (f' := (77, [(3, .int 56), (0, .ref 3), (1, .long u8)], [])) rfl ?_
  refine e_sub (ls := [(0, .ref 3), (1, .long u8), (3, .int 56)]) rfl ⟨rfl, rfl, rfl, trivial⟩ ?_
  obtain ⟨u12, I12, J12, h12, hb⟩ := oc_call hb
  refine E_Translator_literal_77  gF  h12 ?_
  obtain ⟨rfl, rfl, rfl⟩ := s_inj hb
  exact e_r rfl rfl K
def f_Translator_enter (I : MI) (J : MJ) : M2 Unit := oc ((if (I 3 6) < 20 then (some ((), I, J)) else (oc (f_Translator_refuse  I J) (fun v4 I4 J4 => some ((), I4, J4)))) : M2 (Unit)) (fun v2 I2 J2 => pl (va_up I2 3 (upd (I2 3) 6 ((I2 3 6) + 1))) (fun I5 => oc (f_Translator_pass  I5 J2) (fun v6 I6 J6 => some ((), I6, J6))))
theorem E_Translator_enter {X : MX} {I : MI} {J : MJ} {v : Unit} {I' : MI} {J' : MJ} (hb : f_Translator_enter  I J = some (v, I', J')) (K : P (.inl (none)) (hX X I' J')) : am_E (gG L xs) (d + 1) m_Translator_enter (0, lv_args 0 [.ref 3], []) (hX X I J) P := by
  unfold f_Translator_enter at hb
  refine e_k 1 (f' := (1, [(0, .ref 3)], [.ref 3])) rfl ?_
  refine r_geti rfl (x_ltn rfl) rfl rfl ?_
  refine e_k 2 (f' := (if (I 3 6) < 20 then 13 else 9, [(0, .ref 3)], [])) rfl ?_
  obtain ⟨v2, I2, J2, h2, hb⟩ := oc_call hb
  have Kj2 : am_E (gG L xs) (d + 1) m_Translator_enter (13, [(0, .ref 3)], []) (hX X I2 J2) P := by
    refine e_k 2 (f' := (15, [(0, .ref 3)], [.ref 3, .ref 3])) rfl ?_
    refine r_geti rfl (x_ltn rfl) rfl rfl ?_
    refine e_k 2 (f' := (20, [(0, .ref 3)], [.int ((I2 3 6) + 1), .ref 3])) rfl ?_
    obtain ⟨I5, eI5, hb⟩ := p_nm hb
    refine r_puti' rfl (x_ltn rfl) rfl rfl eI5 ?_
    refine e_k 1 (f' := (24, [(0, .ref 3)], [.ref 3])) rfl ?_
    obtain ⟨v6, I6, J6, h6, hb⟩ := oc_call hb
    refine r_cv (z := m_Translator_pass) (As := []) (rest := []) rfl rfl rfl rfl rfl (x_ltn rfl) rfl rfl (E_Translator_pass  h6 ⟨_, rfl, ?_⟩)
    obtain ⟨rfl, rfl, rfl⟩ := s_inj hb
    exact e_r rfl rfl K
  clear hb
  refine e_if (fun c3 => ?_) (fun c3 => ?_)
  · replace h2 := i_pos c3 h2
    refine e_sub (ls := [(0, .ref 3)]) rfl ⟨rfl, trivial⟩ ?_
    obtain ⟨rfl, rfl, rfl⟩ := s_inj h2
    exact Kj2
  · replace h2 := i_neg c3 h2
    refine e_k 1 (f' := (10, [(0, .ref 3)], [.ref 3])) rfl ?_
    obtain ⟨v4, I4, J4, h4, h2⟩ := oc_call h2
    refine r_cv (z := m_Translator_refuse) (As := []) (rest := []) rfl rfl rfl rfl rfl (x_ltn rfl) rfl rfl (E_Translator_refuse  h4 ⟨_, rfl, ?_⟩)
    refine e_sub (ls := [(0, .ref 3)]) rfl ⟨rfl, trivial⟩ ?_
    obtain ⟨rfl, rfl, rfl⟩ := s_inj h2
    exact Kj2
def f_Translator_variable (I : MI) (J : MJ) : M2 Int32 := oc (f_Translator_look  I J) (fun v1 I1 J1 => oc (f_Translator_isVariable v1 I1 J1) (fun v2 I2 J2 => if ¬ v2 = 0 then (oc (f_Translator_pass  I2 J2) (fun v4 I4 J4 => some (v1 - 97, I4, J4))) else (oc (f_Translator_refuse  I2 J2) (fun v5 I5 J5 => some (0, I5, J5)))))
theorem E_Translator_variable {X : MX} {I : MI} {J : MJ} {v : Int32} {I' : MI} {J' : MJ} (hb : f_Translator_variable  I J = some (v, I', J')) (K : P (.inl (some (.int v))) (hX X I' J')) : am_E (gG L xs) (d + 2) m_Translator_variable (0, lv_args 0 [.ref 3], []) (hX X I J) P := by
  unfold f_Translator_variable at hb
  refine e_k 1 (f' := (1, [(0, .ref 3)], [.ref 3])) rfl ?_
  obtain ⟨v1, I1, J1, h1, hb⟩ := oc_call hb
  refine r_cv (z := m_Translator_look) (As := []) (rest := []) rfl rfl rfl rfl rfl (x_ltn rfl) rfl rfl (E_Translator_look  h1 ⟨_, rfl, ?_⟩)
  refine e_k 2 (f' := (6, [(1, .int v1), (0, .ref 3)], [.int v1])) rfl ?_
  obtain ⟨v2, I2, J2, h2, hb⟩ := oc_call hb
  refine r_cs (z := m_Translator_isVariable) (As := [.int v1]) (rest := []) rfl rfl rfl rfl rfl rfl (E_Translator_isVariable  h2 ⟨_, rfl, ?_⟩)
  refine e_k 1 (f' := (if ¬ v2 = 0 then 18 else 12, [(1, .int v1), (0, .ref 3)], [])) rfl ?_
  refine e_if (fun c3 => ?_) (fun c3 => ?_)
  · replace hb := i_pos c3 hb
    refine e_k 1 (f' := (19, [(1, .int v1), (0, .ref 3)], [.ref 3])) rfl ?_
    obtain ⟨v4, I4, J4, h4, hb⟩ := oc_call hb
    refine r_cv (z := m_Translator_pass) (As := []) (rest := []) rfl rfl rfl rfl rfl (x_ltn rfl) rfl rfl (E_Translator_pass  h4 ⟨_, rfl, ?_⟩)
    refine e_k 3 (f' := (26, [(1, .int v1), (0, .ref 3)], [.int (v1 - 97)])) rfl ?_
    obtain ⟨rfl, rfl, rfl⟩ := s_inj hb
    exact e_r rfl rfl K
  · replace hb := i_neg c3 hb
    refine e_k 1 (f' := (13, [(1, .int v1), (0, .ref 3)], [.ref 3])) rfl ?_
    obtain ⟨v5, I5, J5, h5, hb⟩ := oc_call hb
    refine r_cv (z := m_Translator_refuse) (As := []) (rest := []) rfl rfl rfl rfl rfl (x_ltn rfl) rfl rfl (E_Translator_refuse  h5 ⟨_, rfl, ?_⟩)
    refine e_k 1 (f' := (17, [(1, .int v1), (0, .ref 3)], [.int 0])) rfl ?_
    obtain ⟨rfl, rfl, rfl⟩ := s_inj hb
    exact e_r rfl rfl K
def f_Translator_array (I : MI) (J : MJ) : M2 Int32 := oc (f_Translator_look  I J) (fun v1 I1 J1 => oc (f_Translator_isArray v1 I1 J1) (fun v2 I2 J2 => if ¬ v2 = 0 then (oc (f_Translator_pass  I2 J2) (fun v4 I4 J4 => some (v1 - 65, I4, J4))) else (oc (f_Translator_refuse  I2 J2) (fun v5 I5 J5 => some (0, I5, J5)))))
theorem E_Translator_array {X : MX} {I : MI} {J : MJ} {v : Int32} {I' : MI} {J' : MJ} (hb : f_Translator_array  I J = some (v, I', J')) (K : P (.inl (some (.int v))) (hX X I' J')) : am_E (gG L xs) (d + 2) m_Translator_array (0, lv_args 0 [.ref 3], []) (hX X I J) P := by
  unfold f_Translator_array at hb
  refine e_k 1 (f' := (1, [(0, .ref 3)], [.ref 3])) rfl ?_
  obtain ⟨v1, I1, J1, h1, hb⟩ := oc_call hb
  refine r_cv (z := m_Translator_look) (As := []) (rest := []) rfl rfl rfl rfl rfl (x_ltn rfl) rfl rfl (E_Translator_look  h1 ⟨_, rfl, ?_⟩)
  refine e_k 2 (f' := (6, [(1, .int v1), (0, .ref 3)], [.int v1])) rfl ?_
  obtain ⟨v2, I2, J2, h2, hb⟩ := oc_call hb
  refine r_cs (z := m_Translator_isArray) (As := [.int v1]) (rest := []) rfl rfl rfl rfl rfl rfl (E_Translator_isArray  h2 ⟨_, rfl, ?_⟩)
  refine e_k 1 (f' := (if ¬ v2 = 0 then 18 else 12, [(1, .int v1), (0, .ref 3)], [])) rfl ?_
  refine e_if (fun c3 => ?_) (fun c3 => ?_)
  · replace hb := i_pos c3 hb
    refine e_k 1 (f' := (19, [(1, .int v1), (0, .ref 3)], [.ref 3])) rfl ?_
    obtain ⟨v4, I4, J4, h4, hb⟩ := oc_call hb
    refine r_cv (z := m_Translator_pass) (As := []) (rest := []) rfl rfl rfl rfl rfl (x_ltn rfl) rfl rfl (E_Translator_pass  h4 ⟨_, rfl, ?_⟩)
    refine e_k 3 (f' := (26, [(1, .int v1), (0, .ref 3)], [.int (v1 - 65)])) rfl ?_
    obtain ⟨rfl, rfl, rfl⟩ := s_inj hb
    exact e_r rfl rfl K
  · replace hb := i_neg c3 hb
    refine e_k 1 (f' := (13, [(1, .int v1), (0, .ref 3)], [.ref 3])) rfl ?_
    obtain ⟨v5, I5, J5, h5, hb⟩ := oc_call hb
    refine r_cv (z := m_Translator_refuse) (As := []) (rest := []) rfl rfl rfl rfl rfl (x_ltn rfl) rfl rfl (E_Translator_refuse  h5 ⟨_, rfl, ?_⟩)
    refine e_k 1 (f' := (17, [(1, .int v1), (0, .ref 3)], [.int 0])) rfl ?_
    obtain ⟨rfl, rfl, rfl⟩ := s_inj hb
    exact e_r rfl rfl K
def f_Translator_digit (I : MI) (J : MJ) : M2 Int32 := oc (f_Translator_look  I J) (fun v1 I1 J1 => oc (f_Translator_isDigit v1 I1 J1) (fun v2 I2 J2 => if ¬ v2 = 0 then (oc (f_Translator_pass  I2 J2) (fun v4 I4 J4 => some (v1 - 48, I4, J4))) else (oc (f_Translator_refuse  I2 J2) (fun v5 I5 J5 => some (0, I5, J5)))))
theorem E_Translator_digit {X : MX} {I : MI} {J : MJ} {v : Int32} {I' : MI} {J' : MJ} (hb : f_Translator_digit  I J = some (v, I', J')) (K : P (.inl (some (.int v))) (hX X I' J')) : am_E (gG L xs) (d + 2) m_Translator_digit (0, lv_args 0 [.ref 3], []) (hX X I J) P := by
  unfold f_Translator_digit at hb
  refine e_k 1 (f' := (1, [(0, .ref 3)], [.ref 3])) rfl ?_
  obtain ⟨v1, I1, J1, h1, hb⟩ := oc_call hb
  refine r_cv (z := m_Translator_look) (As := []) (rest := []) rfl rfl rfl rfl rfl (x_ltn rfl) rfl rfl (E_Translator_look  h1 ⟨_, rfl, ?_⟩)
  refine e_k 2 (f' := (6, [(1, .int v1), (0, .ref 3)], [.int v1])) rfl ?_
  obtain ⟨v2, I2, J2, h2, hb⟩ := oc_call hb
  refine r_cs (z := m_Translator_isDigit) (As := [.int v1]) (rest := []) rfl rfl rfl rfl rfl rfl (E_Translator_isDigit  h2 ⟨_, rfl, ?_⟩)
  refine e_k 1 (f' := (if ¬ v2 = 0 then 18 else 12, [(1, .int v1), (0, .ref 3)], [])) rfl ?_
  refine e_if (fun c3 => ?_) (fun c3 => ?_)
  · replace hb := i_pos c3 hb
    refine e_k 1 (f' := (19, [(1, .int v1), (0, .ref 3)], [.ref 3])) rfl ?_
    obtain ⟨v4, I4, J4, h4, hb⟩ := oc_call hb
    refine r_cv (z := m_Translator_pass) (As := []) (rest := []) rfl rfl rfl rfl rfl (x_ltn rfl) rfl rfl (E_Translator_pass  h4 ⟨_, rfl, ?_⟩)
    refine e_k 3 (f' := (26, [(1, .int v1), (0, .ref 3)], [.int (v1 - 48)])) rfl ?_
    obtain ⟨rfl, rfl, rfl⟩ := s_inj hb
    exact e_r rfl rfl K
  · replace hb := i_neg c3 hb
    refine e_k 1 (f' := (13, [(1, .int v1), (0, .ref 3)], [.ref 3])) rfl ?_
    obtain ⟨v5, I5, J5, h5, hb⟩ := oc_call hb
    refine r_cv (z := m_Translator_refuse) (As := []) (rest := []) rfl rfl rfl rfl rfl (x_ltn rfl) rfl rfl (E_Translator_refuse  h5 ⟨_, rfl, ?_⟩)
    refine e_k 1 (f' := (17, [(1, .int v1), (0, .ref 3)], [.int 0])) rfl ?_
    obtain ⟨rfl, rfl, rfl⟩ := s_inj hb
    exact e_r rfl rfl K
def f_Translator_expect (p2 : Int32) (I : MI) (J : MJ) : M2 Unit := oc (f_Translator_look  I J) (fun v1 I1 J1 => if ¬ v1 = p2 then (oc (f_Translator_refuse  I1 J1) (fun v3 I3 J3 => some ((), I3, J3))) else (oc (f_Translator_pass  I1 J1) (fun v4 I4 J4 => some ((), I4, J4))))
theorem E_Translator_expect {p2 : Int32} {X : MX} {I : MI} {J : MJ} {v : Unit} {I' : MI} {J' : MJ} (hb : f_Translator_expect p2 I J = some (v, I', J')) (K : P (.inl (none)) (hX X I' J')) : am_E (gG L xs) (d + 2) m_Translator_expect (0, lv_args 0 [.ref 3, .int p2], []) (hX X I J) P := by
  unfold f_Translator_expect at hb
  refine e_k 1 (f' := (1, [(0, .ref 3), (1, .int p2)], [.ref 3])) rfl ?_
  obtain ⟨v1, I1, J1, h1, hb⟩ := oc_call hb
  refine r_cv (z := m_Translator_look) (As := []) (rest := []) rfl rfl rfl rfl rfl (x_ltn rfl) rfl rfl (E_Translator_look  h1 ⟨_, rfl, ?_⟩)
  refine e_k 2 (f' := (if ¬ v1 = p2 then 15 else 8, [(0, .ref 3), (1, .int p2)], [])) rfl ?_
  refine e_if (fun c2 => ?_) (fun c2 => ?_)
  · replace hb := i_pos c2 hb
    refine e_k 1 (f' := (16, [(0, .ref 3), (1, .int p2)], [.ref 3])) rfl ?_
    obtain ⟨v3, I3, J3, h3, hb⟩ := oc_call hb
    refine r_cv (z := m_Translator_refuse) (As := []) (rest := []) rfl rfl rfl rfl rfl (x_ltn rfl) rfl rfl (E_Translator_refuse  h3 ⟨_, rfl, ?_⟩)
    obtain ⟨rfl, rfl, rfl⟩ := s_inj hb
    exact e_r rfl rfl K
  · replace hb := i_neg c2 hb
    refine e_k 1 (f' := (9, [(0, .ref 3), (1, .int p2)], [.ref 3])) rfl ?_
    obtain ⟨v4, I4, J4, h4, hb⟩ := oc_call hb
    refine r_cv (z := m_Translator_pass) (As := []) (rest := []) rfl rfl rfl rfl rfl (x_ltn rfl) rfl rfl (E_Translator_pass  h4 ⟨_, rfl, ?_⟩)
    refine e_k 1 (f' := (19, [(0, .ref 3), (1, .int p2)], [])) rfl ?_
    obtain ⟨rfl, rfl, rfl⟩ := s_inj hb
    exact e_r rfl rfl K
def f_Translator_wantClear (p2 : Int32) (p3 : Int32) (I : MI) (J : MJ) : M2 Unit := if p2 < 13 then (some ((), I, J)) else (oc (f_Translator_blame 2 p3 I J) (fun v2 I2 J2 => some ((), I2, J2)))
theorem E_Translator_wantClear {p2 : Int32} {p3 : Int32} {X : MX} {I : MI} {J : MJ} {v : Unit} {I' : MI} {J' : MJ} (hb : f_Translator_wantClear p2 p3 I J = some (v, I', J')) (K : P (.inl (none)) (hX X I' J')) : am_E (gG L xs) (d + 1) m_Translator_wantClear (0, lv_args 0 [.ref 3, .int p2, .int p3], []) (hX X I J) P := by
  unfold f_Translator_wantClear at hb
  refine e_k 3 (f' := (if p2 < 13 then 12 else 6, [(0, .ref 3), (1, .int p2), (2, .int p3)], [])) rfl ?_
  refine e_if (fun c1 => ?_) (fun c1 => ?_)
  · replace hb := i_pos c1 hb
    obtain ⟨rfl, rfl, rfl⟩ := s_inj hb
    exact e_r rfl rfl K
  · replace hb := i_neg c1 hb
    refine e_k 3 (f' := (9, [(0, .ref 3), (1, .int p2), (2, .int p3)], [.int p3, .int 2, .ref 3])) rfl ?_
    obtain ⟨v2, I2, J2, h2, hb⟩ := oc_call hb
    refine r_cv (z := m_Translator_blame) (As := [.int 2, .int p3]) (rest := []) rfl rfl rfl rfl rfl (x_ltn rfl) rfl rfl (E_Translator_blame  h2 ⟨_, rfl, ?_⟩)
    obtain ⟨rfl, rfl, rfl⟩ := s_inj hb
    exact e_r rfl rfl K
def f_Translator_wantSecret (p2 : Int32) (p3 : Int32) (I : MI) (J : MJ) : M2 Unit := if 13 ≤ p2 then (some ((), I, J)) else (oc (f_Translator_blame 2 p3 I J) (fun v2 I2 J2 => some ((), I2, J2)))
theorem E_Translator_wantSecret {p2 : Int32} {p3 : Int32} {X : MX} {I : MI} {J : MJ} {v : Unit} {I' : MI} {J' : MJ} (hb : f_Translator_wantSecret p2 p3 I J = some (v, I', J')) (K : P (.inl (none)) (hX X I' J')) : am_E (gG L xs) (d + 1) m_Translator_wantSecret (0, lv_args 0 [.ref 3, .int p2, .int p3], []) (hX X I J) P := by
  unfold f_Translator_wantSecret at hb
  refine e_k 3 (f' := (if 13 ≤ p2 then 12 else 6, [(0, .ref 3), (1, .int p2), (2, .int p3)], [])) rfl ?_
  refine e_if (fun c1 => ?_) (fun c1 => ?_)
  · replace hb := i_pos c1 hb
    obtain ⟨rfl, rfl, rfl⟩ := s_inj hb
    exact e_r rfl rfl K
  · replace hb := i_neg c1 hb
    refine e_k 3 (f' := (9, [(0, .ref 3), (1, .int p2), (2, .int p3)], [.int p3, .int 2, .ref 3])) rfl ?_
    obtain ⟨v2, I2, J2, h2, hb⟩ := oc_call hb
    refine r_cv (z := m_Translator_blame) (As := [.int 2, .int p3]) (rest := []) rfl rfl rfl rfl rfl (x_ltn rfl) rfl rfl (E_Translator_blame  h2 ⟨_, rfl, ?_⟩)
    obtain ⟨rfl, rfl, rfl⟩ := s_inj hb
    exact e_r rfl rfl K
def f_Verifier_findOperations_8 (r2 : Nat) (b2 : Nat) (m2 : Nat) (p3 : Int32) : Nat → Int32 → Int32 → Int32 → Int32 → MI → MJ → M2 (Unit ⊕ (Int32))
  | 0, _, _, _, _, _, _ => none
  | fu + 1, l2, l3, l4, l5, I, J => if 2000 ≤ l5 then (some (.inr l3, I, J)) else (if (I r2 1) ≤ l4 then (some (.inr l3, I, J)) else (oc (f_Row_at r2 b2 m2 l4 I J) (fun v3 I3 J3 => oc (f_Sh_lengthOf v3 I3 J3) (fun v4 I4 J4 => if v4 = 0 then (oc (f_Verifier_refuse 1 l4 I4 J4) (fun v6 I6 J6 => some (.inl (), I6, J6))) else (if (I4 r2 1) < (l4 + v4) then (oc (f_Verifier_refuse 1 l4 I4 J4) (fun v8 I8 J8 => some (.inl (), I8, J8))) else (oc (f_Verifier_namesWhatIs r2 b2 m2 l4 l2 I4 J4) (fun v9 I9 J9 => if ¬ v9 = 0 then (oc (f_Verifier_mark 11 2000 l4 I9 J9) (fun v11 I11 J11 => pl (va_up I11 10 (upd (I11 10) 4 ((I11 10 4) + 1))) (fun I12 => pl (l4 + v4 : Int32) (fun x13 => f_Verifier_findOperations_8 r2 b2 m2 p3 fu l2 v3 x13 (l5 + 1) I12 J11)))) else (oc (f_Verifier_refuse 1 l4 I9 J9) (fun v14 I14 J14 => some (.inl (), I14, J14))))))))))
theorem E_Verifier_findOperations_8 {X : MX} {r2 : Nat} {b2 : Nat} {m2 : Nat} {p3 : Int32} (hR_r2 : isRw X r2 b2 m2) : ∀ (fu : Nat) {l2 : Int32} {l3 : Int32} {l4 : Int32} {l5 : Int32} {I : MI} {J : MJ} {r : (Unit ⊕ (Int32))} {I' : MI} {J' : MJ}, f_Verifier_findOperations_8 r2 b2 m2 p3 fu l2 l3 l4 l5 I J = some (r, I', J') → (∀ v, r = .inl v → P (.inl (none)) (hX X I' J')) → (∀ u, r = .inr u → am_E (gG L xs) (d + 3) m_Verifier_findOperations (105, [(0, .ref 10), (1, .ref r2), (3, .int u)], []) (hX X I' J') P) → am_E (gG L xs) (d + 3) m_Verifier_findOperations (8, [(0, .ref 10), (1, .ref r2), (2, .int l2), (3, .int l3), (4, .int l4), (5, .int l5)], []) (hX X I J) P := by
  intro fu
  induction fu with
  | zero =>
    intros
    rename_i hb _ _
    cases hb
  | succ fu ih =>
    intro l2 l3 l4 l5 I J r I' J' hb K1 K2
    unfold f_Verifier_findOperations_8 at hb
    refine e_k 3 (f' := (if 2000 ≤ l5 then 105 else 16, [(0, .ref 10), (1, .ref r2), (2, .int l2), (3, .int l3), (4, .int l4), (5, .int l5)], [])) rfl ?_
    refine e_if (fun c1 => ?_) (fun c1 => ?_)
    · replace hb := i_pos c1 hb
      refine e_sub (ls := [(0, .ref 10), (1, .ref r2), (3, .int l3)]) rfl ⟨rfl, rfl, rfl, trivial⟩ ?_
      obtain ⟨rfl, rfl, rfl⟩ := s_inj hb
      exact K2 _ rfl
    · replace hb := i_neg c1 hb
      refine e_k 2 (f' := (19, [(0, .ref 10), (1, .ref r2), (2, .int l2), (3, .int l3), (4, .int l4), (5, .int l5)], [.ref r2, .int l4])) rfl ?_
      refine r_geti rfl hR_r2.1 hR_r2.2.1 rfl ?_
      refine e_k 1 (f' := (if (I r2 1) ≤ l4 then 105 else 25, [(0, .ref 10), (1, .ref r2), (2, .int l2), (3, .int l3), (4, .int l4), (5, .int l5)], [])) rfl ?_
      refine e_if (fun c2 => ?_) (fun c2 => ?_)
      · replace hb := i_pos c2 hb
        refine e_sub (ls := [(0, .ref 10), (1, .ref r2), (3, .int l3)]) rfl ⟨rfl, rfl, rfl, trivial⟩ ?_
        obtain ⟨rfl, rfl, rfl⟩ := s_inj hb
        exact K2 _ rfl
      · replace hb := i_neg c2 hb
        refine e_k 2 (f' := (28, [(0, .ref 10), (1, .ref r2), (2, .int l2), (3, .int l3), (4, .int l4), (5, .int l5)], [.int l4, .ref r2])) rfl ?_
        obtain ⟨v3, I3, J3, h3, hb⟩ := oc_call hb
        refine r_cv (z := m_Row_at) (As := [.int l4]) (rest := []) rfl rfl rfl rfl rfl hR_r2.1 hR_r2.2.1 rfl (E_Row_at hR_r2 h3 ⟨_, rfl, ?_⟩)
        refine e_k 2 (f' := (33, [(3, .int v3), (0, .ref 10), (1, .ref r2), (2, .int l2), (4, .int l4), (5, .int l5)], [.int v3])) rfl ?_
        obtain ⟨v4, I4, J4, h4, hb⟩ := oc_call hb
        refine r_cs (z := m_Sh_lengthOf) (As := [.int v3]) (rest := []) rfl rfl rfl rfl rfl rfl (E_Sh_lengthOf  h4 ⟨_, rfl, ?_⟩)
        refine e_k 3 (f' := (if v4 = 0 then 65 else 43, [(6, .int v4), (3, .int v3), (0, .ref 10), (1, .ref r2), (2, .int l2), (4, .int l4), (5, .int l5)], [])) rfl ?_
        refine e_if (fun c5 => ?_) (fun c5 => ?_)
        · replace hb := i_pos c5 hb
          refine e_k 3 (f' := (69, [(6, .int v4), (3, .int v3), (0, .ref 10), (1, .ref r2), (2, .int l2), (4, .int l4), (5, .int l5)], [.int l4, .int 1, .ref 10])) rfl ?_
          obtain ⟨v6, I6, J6, h6, hb⟩ := oc_call hb
          refine r_cv (z := m_Verifier_refuse) (As := [.int 1, .int l4]) (rest := []) rfl rfl rfl rfl rfl (x_ltn rfl) rfl rfl (E_Verifier_refuse  h6 ⟨_, rfl, ?_⟩)
          obtain ⟨rfl, rfl, rfl⟩ := s_inj hb
          exact e_r rfl rfl (K1 _ rfl)
        · replace hb := i_neg c5 hb
          refine e_k 4 (f' := (49, [(6, .int v4), (3, .int v3), (0, .ref 10), (1, .ref r2), (2, .int l2), (4, .int l4), (5, .int l5)], [.ref r2, .int (l4 + v4)])) rfl ?_
          refine r_geti rfl hR_r2.1 hR_r2.2.1 rfl ?_
          refine e_k 1 (f' := (if (I4 r2 1) < (l4 + v4) then 65 else 55, [(6, .int v4), (3, .int v3), (0, .ref 10), (1, .ref r2), (2, .int l2), (4, .int l4), (5, .int l5)], [])) rfl ?_
          refine e_if (fun c7 => ?_) (fun c7 => ?_)
          · replace hb := i_pos c7 hb
            refine e_k 3 (f' := (69, [(6, .int v4), (3, .int v3), (0, .ref 10), (1, .ref r2), (2, .int l2), (4, .int l4), (5, .int l5)], [.int l4, .int 1, .ref 10])) rfl ?_
            obtain ⟨v8, I8, J8, h8, hb⟩ := oc_call hb
            refine r_cv (z := m_Verifier_refuse) (As := [.int 1, .int l4]) (rest := []) rfl rfl rfl rfl rfl (x_ltn rfl) rfl rfl (E_Verifier_refuse  h8 ⟨_, rfl, ?_⟩)
            obtain ⟨rfl, rfl, rfl⟩ := s_inj hb
            exact e_r rfl rfl (K1 _ rfl)
          · replace hb := i_neg c7 hb
            refine e_k 3 (f' := (59, [(6, .int v4), (3, .int v3), (0, .ref 10), (1, .ref r2), (2, .int l2), (4, .int l4), (5, .int l5)], [.int l2, .int l4, .ref r2])) rfl ?_
            obtain ⟨v9, I9, J9, h9, hb⟩ := oc_call hb
            refine r_cs (z := m_Verifier_namesWhatIs) (As := [.ref r2, .int l4, .int l2]) (rest := []) rfl rfl rfl rfl rfl rfl (E_Verifier_namesWhatIs hR_r2 h9 ⟨_, rfl, ?_⟩)
            refine e_k 1 (f' := (if ¬ v9 = 0 then 73 else 65, [(6, .int v4), (3, .int v3), (0, .ref 10), (1, .ref r2), (2, .int l2), (4, .int l4), (5, .int l5)], [])) rfl ?_
            refine e_if (fun c10 => ?_) (fun c10 => ?_)
            · replace hb := i_pos c10 hb
              refine e_k 1 (f' := (74, [(6, .int v4), (3, .int v3), (0, .ref 10), (1, .ref r2), (2, .int l2), (4, .int l4), (5, .int l5)], [.ref 10])) rfl ?_
              refine r_getr rfl (x_ltn rfl) rfl rfl ?_
              refine e_k 1 (f' := (79, [(6, .int v4), (3, .int v3), (0, .ref 10), (1, .ref r2), (2, .int l2), (4, .int l4), (5, .int l5)], [.int l4, .ref 11])) rfl ?_
              obtain ⟨v11, I11, J11, h11, hb⟩ := oc_call hb
              refine r_cs (z := m_Verifier_mark) (As := [.ref 11, .int l4]) (rest := []) rfl rfl rfl rfl rfl rfl (E_Verifier_mark ⟨(x_ltn rfl), rfl, rfl⟩ h11 ⟨_, rfl, ?_⟩)
              refine e_k 2 (f' := (84, [(6, .int v4), (3, .int v3), (0, .ref 10), (1, .ref r2), (2, .int l2), (4, .int l4), (5, .int l5)], [.ref 10, .ref 10])) rfl ?_
              refine r_geti rfl (x_ltn rfl) rfl rfl ?_
              refine e_k 2 (f' := (89, [(6, .int v4), (3, .int v3), (0, .ref 10), (1, .ref r2), (2, .int l2), (4, .int l4), (5, .int l5)], [.int ((I11 10 4) + 1), .ref 10])) rfl ?_
              obtain ⟨I12, eI12, hb⟩ := p_nm hb
              refine r_puti' rfl (x_ltn rfl) rfl rfl eI12 ?_
              refine e_k 4 (f' := (99, [(4, .int (l4 + v4)), (6, .int v4), (3, .int v3), (0, .ref 10), (1, .ref r2), (2, .int l2), (5, .int l5)], [])) rfl ?_
              obtain ⟨x13, ex13, hb⟩ := p_nm hb
              rw [← ex13]
              refine e_k 2 (f' := (8, [(5, .int (l5 + 1)), (4, .int x13), (6, .int v4), (3, .int v3), (0, .ref 10), (1, .ref r2), (2, .int l2)], [])) rfl ?_
              refine e_sub (ls := [(0, .ref 10), (1, .ref r2), (2, .int l2), (3, .int v3), (4, .int x13), (5, .int (l5 + 1))]) rfl ⟨rfl, rfl, rfl, rfl, rfl, rfl, trivial⟩ ?_
              exact ih  hb K1 K2
            · replace hb := i_neg c10 hb
              refine e_k 3 (f' := (69, [(6, .int v4), (3, .int v3), (0, .ref 10), (1, .ref r2), (2, .int l2), (4, .int l4), (5, .int l5)], [.int l4, .int 1, .ref 10])) rfl ?_
              obtain ⟨v14, I14, J14, h14, hb⟩ := oc_call hb
              refine r_cv (z := m_Verifier_refuse) (As := [.int 1, .int l4]) (rest := []) rfl rfl rfl rfl rfl (x_ltn rfl) rfl rfl (E_Verifier_refuse  h14 ⟨_, rfl, ?_⟩)
              obtain ⟨rfl, rfl, rfl⟩ := s_inj hb
              exact e_r rfl rfl (K1 _ rfl)
def f_Verifier_findOperations (r2 : Nat) (b2 : Nat) (m2 : Nat) (p3 : Int32) (I : MI) (J : MJ) : M2 Unit := oc (f_Verifier_findOperations_8 r2 b2 m2 p3 gF p3 (-1) 0 0 I J) (fun q15 I15 J15 => oe q15 (fun y15 => some (y15, I15, J15)) (fun u15 => if u15 = 0 then (some ((), I15, J15)) else (oc (f_Verifier_refuse 1 (I15 r2 1) I15 J15) (fun v17 I17 J17 => some ((), I17, J17)))))
theorem E_Verifier_findOperations {r2 : Nat} {b2 : Nat} {m2 : Nat} {p3 : Int32} {X : MX} {I : MI} {J : MJ} {v : Unit} {I' : MI} {J' : MJ} (hR_r2 : isRw X r2 b2 m2) (hb : f_Verifier_findOperations r2 b2 m2 p3 I J = some (v, I', J')) (K : P (.inl (none)) (hX X I' J')) : am_E (gG L xs) (d + 3) m_Verifier_findOperations (0, lv_args 0 [.ref 10, .ref r2, .int p3], []) (hX X I J) P := by
  unfold f_Verifier_findOperations at hb
  refine e_k 6 (f' := (8, [(5, .int 0), (4, .int 0), (3, .int (-1)), (0, .ref 10), (1, .ref r2), (2, .int p3)], [])) rfl ?_
  refine e_sub (ls := [(0, .ref 10), (1, .ref r2), (2, .int p3), (3, .int (-1)), (4, .int 0), (5, .int 0)]) rfl ⟨rfl, rfl, rfl, rfl, rfl, rfl, trivial⟩ ?_
  obtain ⟨q15, I15, J15, h15, hb⟩ := oc_call hb
  refine E_Verifier_findOperations_8 hR_r2 gF  h15 (fun y15 ey15 => ?_) (fun u15 ey15 => ?_)
  · subst ey15
    replace hb := oe_l hb
    obtain ⟨rfl, rfl, rfl⟩ := s_inj hb
    exact K
  · subst ey15
    replace hb := oe_r hb
    refine e_k 2 (f' := (if u15 = 0 then 118 else 109, [(0, .ref 10), (1, .ref r2), (3, .int u15)], [])) rfl ?_
    refine e_if (fun c16 => ?_) (fun c16 => ?_)
    · replace hb := i_pos c16 hb
      obtain ⟨rfl, rfl, rfl⟩ := s_inj hb
      exact e_r rfl rfl K
    · replace hb := i_neg c16 hb
      refine e_k 3 (f' := (112, [(0, .ref 10), (1, .ref r2), (3, .int u15)], [.ref r2, .int 1, .ref 10])) rfl ?_
      refine r_geti rfl hR_r2.1 hR_r2.2.1 rfl ?_
      obtain ⟨v17, I17, J17, h17, hb⟩ := oc_call hb
      refine r_cv (z := m_Verifier_refuse) (As := [.int 1, .int (I15 r2 1)]) (rest := []) rfl rfl rfl rfl rfl (x_ltn rfl) rfl rfl (E_Verifier_refuse  h17 ⟨_, rfl, ?_⟩)
      obtain ⟨rfl, rfl, rfl⟩ := s_inj hb
      exact e_r rfl rfl K
def f_Verifier_findTargets_2 (r2 : Nat) (b2 : Nat) (m2 : Nat) : Nat → Int32 → MI → MJ → M2 (Unit ⊕ (Int32))
  | 0, _, _, _ => none
  | fu + 1, l2, I, J => if (I r2 1) ≤ l2 then (some (.inl (), I, J)) else (oc (f_Verifier_isMarked 11 2000 l2 I J) (fun v2 I2 J2 => oc ((if v2 = 0 then (some ((-1), I2, J2)) else (oc (f_Row_at r2 b2 m2 l2 I2 J2) (fun v6 I6 J6 => some (v6, I6, J6)))) : M2 (Int32)) (fun v4 I4 J4 => if v4 = 17 then (pl ((if ¬ v4 = 17 then (l2 + 1) else (l2 + 2)) : Int32) (fun v9 => oc (f_Row_target r2 b2 m2 v9 I4 J4) (fun v11 I11 J11 => oc (f_Verifier_isMarked 11 2000 v11 I11 J11) (fun v12 I12 J12 => if ¬ v12 = 0 then (oc (f_Verifier_mark 12 2000 v11 I12 J12) (fun v14 I14 J14 => f_Verifier_findTargets_2 r2 b2 m2 fu (l2 + 1) I14 J14)) else (some (.inr l2, I12, J12)))))) else (if v4 = 18 then (pl ((if ¬ v4 = 17 then (l2 + 1) else (l2 + 2)) : Int32) (fun v17 => oc (f_Row_target r2 b2 m2 v17 I4 J4) (fun v19 I19 J19 => oc (f_Verifier_isMarked 11 2000 v19 I19 J19) (fun v20 I20 J20 => if ¬ v20 = 0 then (oc (f_Verifier_mark 12 2000 v19 I20 J20) (fun v22 I22 J22 => f_Verifier_findTargets_2 r2 b2 m2 fu (l2 + 1) I22 J22)) else (some (.inr l2, I20, J20)))))) else (if ¬ v4 = 28 then (f_Verifier_findTargets_2 r2 b2 m2 fu (l2 + 1) I4 J4) else (pl ((if ¬ v4 = 17 then (l2 + 1) else (l2 + 2)) : Int32) (fun v25 => oc (f_Row_target r2 b2 m2 v25 I4 J4) (fun v27 I27 J27 => oc (f_Verifier_isMarked 11 2000 v27 I27 J27) (fun v28 I28 J28 => if ¬ v28 = 0 then (oc (f_Verifier_mark 12 2000 v27 I28 J28) (fun v30 I30 J30 => f_Verifier_findTargets_2 r2 b2 m2 fu (l2 + 1) I30 J30)) else (some (.inr l2, I28, J28)))))))))))
theorem E_Verifier_findTargets_2 {X : MX} {r2 : Nat} {b2 : Nat} {m2 : Nat} (hR_r2 : isRw X r2 b2 m2) : ∀ (fu : Nat) {l2 : Int32} {I : MI} {J : MJ} {r : (Unit ⊕ (Int32))} {I' : MI} {J' : MJ}, f_Verifier_findTargets_2 r2 b2 m2 fu l2 I J = some (r, I', J') → (∀ v, r = .inl v → P (.inl (none)) (hX X I' J')) → (∀ u, r = .inr u → am_E (gG L xs) (d + 2) m_Verifier_findTargets (82, [(0, .ref 10), (2, .int u)], []) (hX X I' J') P) → am_E (gG L xs) (d + 2) m_Verifier_findTargets (2, [(0, .ref 10), (1, .ref r2), (2, .int l2)], []) (hX X I J) P := by
  intro fu
  induction fu with
  | zero =>
    intros
    rename_i hb _ _
    cases hb
  | succ fu ih =>
    intro l2 I J r I' J' hb K1 K2
    unfold f_Verifier_findTargets_2 at hb
    refine e_k 2 (f' := (4, [(0, .ref 10), (1, .ref r2), (2, .int l2)], [.ref r2, .int l2])) rfl ?_
    refine r_geti rfl hR_r2.1 hR_r2.2.1 rfl ?_
    refine e_k 1 (f' := (if (I r2 1) ≤ l2 then 104 else 10, [(0, .ref 10), (1, .ref r2), (2, .int l2)], [])) rfl ?_
    refine e_if (fun c1 => ?_) (fun c1 => ?_)
    · replace hb := i_pos c1 hb
      obtain ⟨rfl, rfl, rfl⟩ := s_inj hb
      exact e_r rfl rfl (K1 _ rfl)
    · replace hb := i_neg c1 hb
      refine e_k 1 (f' := (11, [(0, .ref 10), (1, .ref r2), (2, .int l2)], [.ref 10])) rfl ?_
      refine r_getr rfl (x_ltn rfl) rfl rfl ?_
      refine e_k 1 (f' := (15, [(0, .ref 10), (1, .ref r2), (2, .int l2)], [.int l2, .ref 11])) rfl ?_
      obtain ⟨v2, I2, J2, h2, hb⟩ := oc_call hb
      refine r_cs (z := m_Verifier_isMarked) (As := [.ref 11, .int l2]) (rest := []) rfl rfl rfl rfl rfl rfl (E_Verifier_isMarked ⟨(x_ltn rfl), rfl, rfl⟩ h2 ⟨_, rfl, ?_⟩)
      refine e_k 1 (f' := (if v2 = 0 then 29 else 21, [(0, .ref 10), (1, .ref r2), (2, .int l2)], [])) rfl ?_
      obtain ⟨v4, I4, J4, h4, hb⟩ := oc_call hb
      have Kj4 : am_E (gG L xs) (d + 2) m_Verifier_findTargets (30, [(0, .ref 10), (1, .ref r2), (2, .int l2)], [.int v4]) (hX X I4 J4) P := by
        refine e_k 4 (f' := (if v4 = 17 then 49 else 37, [(3, .int v4), (0, .ref 10), (1, .ref r2), (2, .int l2)], [])) rfl ?_
        refine e_if (fun c7 => ?_) (fun c7 => ?_)
        · replace hb := i_pos c7 hb
          refine e_k 4 (f' := (if ¬ v4 = 17 then 62 else 56, [(3, .int v4), (0, .ref 10), (1, .ref r2), (2, .int l2)], [.ref r2])) rfl ?_
          obtain ⟨v9, h9, hb⟩ := p_nn hb
          have Kj9 : am_E (gG L xs) (d + 2) m_Verifier_findTargets (65, [(0, .ref 10), (1, .ref r2), (2, .int l2)], [.int v9, .ref r2]) (hX X I4 J4) P := by
            obtain ⟨v11, I11, J11, h11, hb⟩ := oc_call hb
            refine r_cv (z := m_Row_target) (As := [.int v9]) (rest := []) rfl rfl rfl rfl rfl hR_r2.1 hR_r2.2.1 rfl (E_Row_target hR_r2 h11 ⟨_, rfl, ?_⟩)
            refine e_k 2 (f' := (71, [(4, .int v11), (0, .ref 10), (1, .ref r2), (2, .int l2)], [.ref 10])) rfl ?_
            refine r_getr rfl (x_ltn rfl) rfl rfl ?_
            refine e_k 1 (f' := (76, [(4, .int v11), (0, .ref 10), (1, .ref r2), (2, .int l2)], [.int v11, .ref 11])) rfl ?_
            obtain ⟨v12, I12, J12, h12, hb⟩ := oc_call hb
            refine r_cs (z := m_Verifier_isMarked) (As := [.ref 11, .int v11]) (rest := []) rfl rfl rfl rfl rfl rfl (E_Verifier_isMarked ⟨(x_ltn rfl), rfl, rfl⟩ h12 ⟨_, rfl, ?_⟩)
            refine e_k 1 (f' := (if ¬ v12 = 0 then 89 else 82, [(4, .int v11), (0, .ref 10), (1, .ref r2), (2, .int l2)], [])) rfl ?_
            refine e_if (fun c13 => ?_) (fun c13 => ?_)
            · replace hb := i_pos c13 hb
              refine e_k 1 (f' := (90, [(4, .int v11), (0, .ref 10), (1, .ref r2), (2, .int l2)], [.ref 10])) rfl ?_
              refine r_getr rfl (x_ltn rfl) rfl rfl ?_
              refine e_k 1 (f' := (95, [(4, .int v11), (0, .ref 10), (1, .ref r2), (2, .int l2)], [.int v11, .ref 12])) rfl ?_
              obtain ⟨v14, I14, J14, h14, hb⟩ := oc_call hb
              refine r_cs (z := m_Verifier_mark) (As := [.ref 12, .int v11]) (rest := []) rfl rfl rfl rfl rfl rfl (E_Verifier_mark ⟨(x_ltn rfl), rfl, rfl⟩ h14 ⟨_, rfl, ?_⟩)
              refine e_k 2 (f' := (2, [(2, .int (l2 + 1)), (4, .int v11), (0, .ref 10), (1, .ref r2)], [])) rfl ?_
              refine e_sub (ls := [(0, .ref 10), (1, .ref r2), (2, .int (l2 + 1))]) rfl ⟨rfl, rfl, rfl, trivial⟩ ?_
              exact ih  hb K1 K2
            · replace hb := i_neg c13 hb
              refine e_sub (ls := [(0, .ref 10), (2, .int l2)]) rfl ⟨rfl, rfl, trivial⟩ ?_
              obtain ⟨rfl, rfl, rfl⟩ := s_inj hb
              exact K2 _ rfl
          clear hb
          refine e_if (fun c10 => ?_) (fun c10 => ?_)
          · replace h9 := i_pos c10 h9
            refine e_k 3 (f' := (65, [(3, .int v4), (0, .ref 10), (1, .ref r2), (2, .int l2)], [.int (l2 + 1), .ref r2])) rfl ?_
            refine e_sub (ls := [(0, .ref 10), (1, .ref r2), (2, .int l2)]) rfl ⟨rfl, rfl, rfl, trivial⟩ ?_
            subst h9
            exact Kj9
          · replace h9 := i_neg c10 h9
            refine e_k 4 (f' := (65, [(3, .int v4), (0, .ref 10), (1, .ref r2), (2, .int l2)], [.int (l2 + 2), .ref r2])) rfl ?_
            refine e_sub (ls := [(0, .ref 10), (1, .ref r2), (2, .int l2)]) rfl ⟨rfl, rfl, rfl, trivial⟩ ?_
            subst h9
            exact Kj9
        · replace hb := i_neg c7 hb
          refine e_k 3 (f' := (if v4 = 18 then 49 else 43, [(3, .int v4), (0, .ref 10), (1, .ref r2), (2, .int l2)], [])) rfl ?_
          refine e_if (fun c15 => ?_) (fun c15 => ?_)
          · replace hb := i_pos c15 hb
            refine e_k 4 (f' := (if ¬ v4 = 17 then 62 else 56, [(3, .int v4), (0, .ref 10), (1, .ref r2), (2, .int l2)], [.ref r2])) rfl ?_
            obtain ⟨v17, h17, hb⟩ := p_nn hb
            have Kj17 : am_E (gG L xs) (d + 2) m_Verifier_findTargets (65, [(0, .ref 10), (1, .ref r2), (2, .int l2)], [.int v17, .ref r2]) (hX X I4 J4) P := by
              obtain ⟨v19, I19, J19, h19, hb⟩ := oc_call hb
              refine r_cv (z := m_Row_target) (As := [.int v17]) (rest := []) rfl rfl rfl rfl rfl hR_r2.1 hR_r2.2.1 rfl (E_Row_target hR_r2 h19 ⟨_, rfl, ?_⟩)
              refine e_k 2 (f' := (71, [(4, .int v19), (0, .ref 10), (1, .ref r2), (2, .int l2)], [.ref 10])) rfl ?_
              refine r_getr rfl (x_ltn rfl) rfl rfl ?_
              refine e_k 1 (f' := (76, [(4, .int v19), (0, .ref 10), (1, .ref r2), (2, .int l2)], [.int v19, .ref 11])) rfl ?_
              obtain ⟨v20, I20, J20, h20, hb⟩ := oc_call hb
              refine r_cs (z := m_Verifier_isMarked) (As := [.ref 11, .int v19]) (rest := []) rfl rfl rfl rfl rfl rfl (E_Verifier_isMarked ⟨(x_ltn rfl), rfl, rfl⟩ h20 ⟨_, rfl, ?_⟩)
              refine e_k 1 (f' := (if ¬ v20 = 0 then 89 else 82, [(4, .int v19), (0, .ref 10), (1, .ref r2), (2, .int l2)], [])) rfl ?_
              refine e_if (fun c21 => ?_) (fun c21 => ?_)
              · replace hb := i_pos c21 hb
                refine e_k 1 (f' := (90, [(4, .int v19), (0, .ref 10), (1, .ref r2), (2, .int l2)], [.ref 10])) rfl ?_
                refine r_getr rfl (x_ltn rfl) rfl rfl ?_
                refine e_k 1 (f' := (95, [(4, .int v19), (0, .ref 10), (1, .ref r2), (2, .int l2)], [.int v19, .ref 12])) rfl ?_
                obtain ⟨v22, I22, J22, h22, hb⟩ := oc_call hb
                refine r_cs (z := m_Verifier_mark) (As := [.ref 12, .int v19]) (rest := []) rfl rfl rfl rfl rfl rfl (E_Verifier_mark ⟨(x_ltn rfl), rfl, rfl⟩ h22 ⟨_, rfl, ?_⟩)
                refine e_k 2 (f' := (2, [(2, .int (l2 + 1)), (4, .int v19), (0, .ref 10), (1, .ref r2)], [])) rfl ?_
                refine e_sub (ls := [(0, .ref 10), (1, .ref r2), (2, .int (l2 + 1))]) rfl ⟨rfl, rfl, rfl, trivial⟩ ?_
                exact ih  hb K1 K2
              · replace hb := i_neg c21 hb
                refine e_sub (ls := [(0, .ref 10), (2, .int l2)]) rfl ⟨rfl, rfl, trivial⟩ ?_
                obtain ⟨rfl, rfl, rfl⟩ := s_inj hb
                exact K2 _ rfl
            clear hb
            refine e_if (fun c18 => ?_) (fun c18 => ?_)
            · replace h17 := i_pos c18 h17
              refine e_k 3 (f' := (65, [(3, .int v4), (0, .ref 10), (1, .ref r2), (2, .int l2)], [.int (l2 + 1), .ref r2])) rfl ?_
              refine e_sub (ls := [(0, .ref 10), (1, .ref r2), (2, .int l2)]) rfl ⟨rfl, rfl, rfl, trivial⟩ ?_
              subst h17
              exact Kj17
            · replace h17 := i_neg c18 h17
              refine e_k 4 (f' := (65, [(3, .int v4), (0, .ref 10), (1, .ref r2), (2, .int l2)], [.int (l2 + 2), .ref r2])) rfl ?_
              refine e_sub (ls := [(0, .ref 10), (1, .ref r2), (2, .int l2)]) rfl ⟨rfl, rfl, rfl, trivial⟩ ?_
              subst h17
              exact Kj17
          · replace hb := i_neg c15 hb
            refine e_k 3 (f' := (if ¬ v4 = 28 then 98 else 49, [(3, .int v4), (0, .ref 10), (1, .ref r2), (2, .int l2)], [])) rfl ?_
            refine e_if (fun c23 => ?_) (fun c23 => ?_)
            · replace hb := i_pos c23 hb
              refine e_k 2 (f' := (2, [(2, .int (l2 + 1)), (3, .int v4), (0, .ref 10), (1, .ref r2)], [])) rfl ?_
              refine e_sub (ls := [(0, .ref 10), (1, .ref r2), (2, .int (l2 + 1))]) rfl ⟨rfl, rfl, rfl, trivial⟩ ?_
              exact ih  hb K1 K2
            · replace hb := i_neg c23 hb
              refine e_k 4 (f' := (if ¬ v4 = 17 then 62 else 56, [(3, .int v4), (0, .ref 10), (1, .ref r2), (2, .int l2)], [.ref r2])) rfl ?_
              obtain ⟨v25, h25, hb⟩ := p_nn hb
              have Kj25 : am_E (gG L xs) (d + 2) m_Verifier_findTargets (65, [(0, .ref 10), (1, .ref r2), (2, .int l2)], [.int v25, .ref r2]) (hX X I4 J4) P := by
                obtain ⟨v27, I27, J27, h27, hb⟩ := oc_call hb
                refine r_cv (z := m_Row_target) (As := [.int v25]) (rest := []) rfl rfl rfl rfl rfl hR_r2.1 hR_r2.2.1 rfl (E_Row_target hR_r2 h27 ⟨_, rfl, ?_⟩)
                refine e_k 2 (f' := (71, [(4, .int v27), (0, .ref 10), (1, .ref r2), (2, .int l2)], [.ref 10])) rfl ?_
                refine r_getr rfl (x_ltn rfl) rfl rfl ?_
                refine e_k 1 (f' := (76, [(4, .int v27), (0, .ref 10), (1, .ref r2), (2, .int l2)], [.int v27, .ref 11])) rfl ?_
                obtain ⟨v28, I28, J28, h28, hb⟩ := oc_call hb
                refine r_cs (z := m_Verifier_isMarked) (As := [.ref 11, .int v27]) (rest := []) rfl rfl rfl rfl rfl rfl (E_Verifier_isMarked ⟨(x_ltn rfl), rfl, rfl⟩ h28 ⟨_, rfl, ?_⟩)
                refine e_k 1 (f' := (if ¬ v28 = 0 then 89 else 82, [(4, .int v27), (0, .ref 10), (1, .ref r2), (2, .int l2)], [])) rfl ?_
                refine e_if (fun c29 => ?_) (fun c29 => ?_)
                · replace hb := i_pos c29 hb
                  refine e_k 1 (f' := (90, [(4, .int v27), (0, .ref 10), (1, .ref r2), (2, .int l2)], [.ref 10])) rfl ?_
                  refine r_getr rfl (x_ltn rfl) rfl rfl ?_
                  refine e_k 1 (f' := (95, [(4, .int v27), (0, .ref 10), (1, .ref r2), (2, .int l2)], [.int v27, .ref 12])) rfl ?_
                  obtain ⟨v30, I30, J30, h30, hb⟩ := oc_call hb
                  refine r_cs (z := m_Verifier_mark) (As := [.ref 12, .int v27]) (rest := []) rfl rfl rfl rfl rfl rfl (E_Verifier_mark ⟨(x_ltn rfl), rfl, rfl⟩ h30 ⟨_, rfl, ?_⟩)
                  refine e_k 2 (f' := (2, [(2, .int (l2 + 1)), (4, .int v27), (0, .ref 10), (1, .ref r2)], [])) rfl ?_
                  refine e_sub (ls := [(0, .ref 10), (1, .ref r2), (2, .int (l2 + 1))]) rfl ⟨rfl, rfl, rfl, trivial⟩ ?_
                  exact ih  hb K1 K2
                · replace hb := i_neg c29 hb
                  refine e_sub (ls := [(0, .ref 10), (2, .int l2)]) rfl ⟨rfl, rfl, trivial⟩ ?_
                  obtain ⟨rfl, rfl, rfl⟩ := s_inj hb
                  exact K2 _ rfl
              clear hb
              refine e_if (fun c26 => ?_) (fun c26 => ?_)
              · replace h25 := i_pos c26 h25
                refine e_k 3 (f' := (65, [(3, .int v4), (0, .ref 10), (1, .ref r2), (2, .int l2)], [.int (l2 + 1), .ref r2])) rfl ?_
                refine e_sub (ls := [(0, .ref 10), (1, .ref r2), (2, .int l2)]) rfl ⟨rfl, rfl, rfl, trivial⟩ ?_
                subst h25
                exact Kj25
              · replace h25 := i_neg c26 h25
                refine e_k 4 (f' := (65, [(3, .int v4), (0, .ref 10), (1, .ref r2), (2, .int l2)], [.int (l2 + 2), .ref r2])) rfl ?_
                refine e_sub (ls := [(0, .ref 10), (1, .ref r2), (2, .int l2)]) rfl ⟨rfl, rfl, rfl, trivial⟩ ?_
                subst h25
                exact Kj25
      clear hb
      refine e_if (fun c5 => ?_) (fun c5 => ?_)
      · replace h4 := i_pos c5 h4
        refine e_k 1 (f' := (30, [(0, .ref 10), (1, .ref r2), (2, .int l2)], [.int (-1)])) rfl ?_
        refine e_sub (ls := [(0, .ref 10), (1, .ref r2), (2, .int l2)]) rfl ⟨rfl, rfl, rfl, trivial⟩ ?_
        obtain ⟨rfl, rfl, rfl⟩ := s_inj h4
        exact Kj4
      · replace h4 := i_neg c5 h4
        refine e_k 2 (f' := (23, [(0, .ref 10), (1, .ref r2), (2, .int l2)], [.int l2, .ref r2])) rfl ?_
        obtain ⟨v6, I6, J6, h6, h4⟩ := oc_call h4
        refine r_cv (z := m_Row_at) (As := [.int l2]) (rest := []) rfl rfl rfl rfl rfl hR_r2.1 hR_r2.2.1 rfl (E_Row_at hR_r2 h6 ⟨_, rfl, ?_⟩)
        refine e_k 1 (f' := (30, [(0, .ref 10), (1, .ref r2), (2, .int l2)], [.int v6])) rfl ?_
        refine e_sub (ls := [(0, .ref 10), (1, .ref r2), (2, .int l2)]) rfl ⟨rfl, rfl, rfl, trivial⟩ ?_
        obtain ⟨rfl, rfl, rfl⟩ := s_inj h4
        exact Kj4
def f_Verifier_findTargets (r2 : Nat) (b2 : Nat) (m2 : Nat) (I : MI) (J : MJ) : M2 Unit := oc (f_Verifier_findTargets_2 r2 b2 m2 gF 0 I J) (fun q31 I31 J31 => oe q31 (fun y31 => some (y31, I31, J31)) (fun u31 => oc (f_Verifier_refuse 2 u31 I31 J31) (fun v32 I32 J32 => some ((), I32, J32))))
theorem E_Verifier_findTargets {r2 : Nat} {b2 : Nat} {m2 : Nat} {X : MX} {I : MI} {J : MJ} {v : Unit} {I' : MI} {J' : MJ} (hR_r2 : isRw X r2 b2 m2) (hb : f_Verifier_findTargets r2 b2 m2 I J = some (v, I', J')) (K : P (.inl (none)) (hX X I' J')) : am_E (gG L xs) (d + 2) m_Verifier_findTargets (0, lv_args 0 [.ref 10, .ref r2], []) (hX X I J) P := by
  unfold f_Verifier_findTargets at hb
  refine e_k 2 (f' := (2, [(2, .int 0), (0, .ref 10), (1, .ref r2)], [])) rfl ?_
  refine e_sub (ls := [(0, .ref 10), (1, .ref r2), (2, .int 0)]) rfl ⟨rfl, rfl, rfl, trivial⟩ ?_
  obtain ⟨q31, I31, J31, h31, hb⟩ := oc_call hb
  refine E_Verifier_findTargets_2 hR_r2 gF  h31 (fun y31 ey31 => ?_) (fun u31 ey31 => ?_)
  · subst ey31
    replace hb := oe_l hb
    obtain ⟨rfl, rfl, rfl⟩ := s_inj hb
    exact K
  · subst ey31
    replace hb := oe_r hb
    refine e_k 3 (f' := (85, [(0, .ref 10), (2, .int u31)], [.int u31, .int 2, .ref 10])) rfl ?_
    obtain ⟨v32, I32, J32, h32, hb⟩ := oc_call hb
    refine r_cv (z := m_Verifier_refuse) (As := [.int 2, .int u31]) (rest := []) rfl rfl rfl rfl rfl (x_ltn rfl) rfl rfl (E_Verifier_refuse  h32 ⟨_, rfl, ?_⟩)
    obtain ⟨rfl, rfl, rfl⟩ := s_inj hb
    exact e_r rfl rfl K
def f_Verifier_isSecret (p2 : Int32) (I : MI) (J : MJ) : M2 Int32 := oc (f_Verifier_isMarked 13 64 ((I 10 3) - p2) I J) (fun v1 I1 J1 => if v1 = 0 ∨ v1 = 1 then some (v1, I1, J1) else none)
theorem E_Verifier_isSecret {p2 : Int32} {X : MX} {I : MI} {J : MJ} {v : Int32} {I' : MI} {J' : MJ} (hb : f_Verifier_isSecret p2 I J = some (v, I', J')) (K : P (.inl (some (.int v))) (hX X I' J')) : am_E (gG L xs) (d + 1) m_Verifier_isSecret (0, lv_args 0 [.ref 10, .int p2], []) (hX X I J) P := by
  unfold f_Verifier_isSecret at hb
  refine e_k 1 (f' := (1, [(0, .ref 10), (1, .int p2)], [.ref 10])) rfl ?_
  refine r_getr rfl (x_ltn rfl) rfl rfl ?_
  refine e_k 1 (f' := (5, [(0, .ref 10), (1, .int p2)], [.ref 10, .ref 13])) rfl ?_
  refine r_geti rfl (x_ltn rfl) rfl rfl ?_
  refine e_k 2 (f' := (10, [(0, .ref 10), (1, .int p2)], [.int ((I 10 3) - p2), .ref 13])) rfl ?_
  obtain ⟨v1, I1, J1, h1, hb⟩ := oc_call hb
  refine r_cs (z := m_Verifier_isMarked) (As := [.ref 13, .int ((I 10 3) - p2)]) (rest := []) rfl rfl rfl rfl rfl rfl (E_Verifier_isMarked ⟨(x_ltn rfl), rfl, rfl⟩ h1 ⟨_, rfl, ?_⟩)
  obtain ⟨o2, hb⟩ := ob_if hb
  obtain ⟨rfl, rfl, rfl⟩ := s_inj hb
  exact e_r rfl (if_pos o2) K
def f_Verifier_joins (I : MI) (J : MJ) : M2 Int32 := oc (f_Verifier_isSecret 1 I J) (fun v1 I1 J1 => oc ((if ¬ v1 = 0 then (some (1, I1, J1)) else (oc (f_Verifier_isSecret 2 I1 J1) (fun v5 I5 J5 => if v5 = 0 then (some (0, I5, J5)) else (some (1, I5, J5))))) : M2 (Int32)) (fun v3 I3 J3 => oc (f_Verifier_drops 2 I3 J3) (fun v7 I7 J7 => if v7 = 0 then (some (0, I7, J7)) else (oc (f_Verifier_pushes v3 I7 J7) (fun v9 I9 J9 => if v9 = 0 then (some (0, I9, J9)) else (some (1, I9, J9)))))))
theorem E_Verifier_joins {X : MX} {I : MI} {J : MJ} {v : Int32} {I' : MI} {J' : MJ} (hb : f_Verifier_joins  I J = some (v, I', J')) (K : P (.inl (some (.int v))) (hX X I' J')) : am_E (gG L xs) (d + 2) m_Verifier_joins (0, lv_args 0 [.ref 10], []) (hX X I J) P := by
  unfold f_Verifier_joins at hb
  refine e_k 2 (f' := (2, [(0, .ref 10)], [.int 1, .ref 10])) rfl ?_
  obtain ⟨v1, I1, J1, h1, hb⟩ := oc_call hb
  refine r_cv (z := m_Verifier_isSecret) (As := [.int 1]) (rest := []) rfl rfl rfl rfl rfl (x_ltn rfl) rfl rfl (E_Verifier_isSecret  h1 ⟨_, rfl, ?_⟩)
  refine e_k 1 (f' := (if ¬ v1 = 0 then 16 else 8, [(0, .ref 10)], [])) rfl ?_
  obtain ⟨v3, I3, J3, h3, hb⟩ := oc_call hb
  have Kj3 : am_E (gG L xs) (d + 2) m_Verifier_joins (21, [(0, .ref 10)], [.int v3]) (hX X I3 J3) P := by
    refine e_k 3 (f' := (24, [(1, .int v3), (0, .ref 10)], [.int 2, .ref 10])) rfl ?_
    obtain ⟨v7, I7, J7, h7, hb⟩ := oc_call hb
    refine r_cv (z := m_Verifier_drops) (As := [.int 2]) (rest := []) rfl rfl rfl rfl rfl (x_ltn rfl) rfl rfl (E_Verifier_drops  h7 ⟨_, rfl, ?_⟩)
    refine e_k 1 (f' := (if v7 = 0 then 42 else 30, [(1, .int v3), (0, .ref 10)], [])) rfl ?_
    refine e_if (fun c8 => ?_) (fun c8 => ?_)
    · replace hb := i_pos c8 hb
      refine e_k 1 (f' := (43, [(1, .int v3), (0, .ref 10)], [.int 0])) rfl ?_
      obtain ⟨rfl, rfl, rfl⟩ := s_inj hb
      exact e_r rfl rfl K
    · replace hb := i_neg c8 hb
      refine e_k 2 (f' := (32, [(1, .int v3), (0, .ref 10)], [.int v3, .ref 10])) rfl ?_
      obtain ⟨v9, I9, J9, h9, hb⟩ := oc_call hb
      refine r_cv (z := m_Verifier_pushes) (As := [.int v3]) (rest := []) rfl rfl rfl rfl rfl (x_ltn rfl) rfl rfl (E_Verifier_pushes  h9 ⟨_, rfl, ?_⟩)
      refine e_k 1 (f' := (if v9 = 0 then 42 else 38, [(1, .int v3), (0, .ref 10)], [])) rfl ?_
      refine e_if (fun c10 => ?_) (fun c10 => ?_)
      · replace hb := i_pos c10 hb
        refine e_k 1 (f' := (43, [(1, .int v3), (0, .ref 10)], [.int 0])) rfl ?_
        obtain ⟨rfl, rfl, rfl⟩ := s_inj hb
        exact e_r rfl rfl K
      · replace hb := i_neg c10 hb
        refine e_k 2 (f' := (43, [(1, .int v3), (0, .ref 10)], [.int 1])) rfl ?_
        obtain ⟨rfl, rfl, rfl⟩ := s_inj hb
        exact e_r rfl rfl K
  clear hb
  refine e_if (fun c4 => ?_) (fun c4 => ?_)
  · replace h3 := i_pos c4 h3
    refine e_k 2 (f' := (21, [(0, .ref 10)], [.int 1])) rfl ?_
    refine e_sub (ls := [(0, .ref 10)]) rfl ⟨rfl, trivial⟩ ?_
    obtain ⟨rfl, rfl, rfl⟩ := s_inj h3
    exact Kj3
  · replace h3 := i_neg c4 h3
    refine e_k 2 (f' := (10, [(0, .ref 10)], [.int 2, .ref 10])) rfl ?_
    obtain ⟨v5, I5, J5, h5, h3⟩ := oc_call h3
    refine r_cv (z := m_Verifier_isSecret) (As := [.int 2]) (rest := []) rfl rfl rfl rfl rfl (x_ltn rfl) rfl rfl (E_Verifier_isSecret  h5 ⟨_, rfl, ?_⟩)
    refine e_k 1 (f' := (if v5 = 0 then 20 else 16, [(0, .ref 10)], [])) rfl ?_
    refine e_if (fun c6 => ?_) (fun c6 => ?_)
    · replace h3 := i_pos c6 h3
      refine e_k 1 (f' := (21, [(0, .ref 10)], [.int 0])) rfl ?_
      refine e_sub (ls := [(0, .ref 10)]) rfl ⟨rfl, trivial⟩ ?_
      obtain ⟨rfl, rfl, rfl⟩ := s_inj h3
      exact Kj3
    · replace h3 := i_neg c6 h3
      refine e_k 2 (f' := (21, [(0, .ref 10)], [.int 1])) rfl ?_
      refine e_sub (ls := [(0, .ref 10)]) rfl ⟨rfl, trivial⟩ ?_
      obtain ⟨rfl, rfl, rfl⟩ := s_inj h3
      exact Kj3
def f_Sh_hall (p2 : Int32) (p3 : Int64) (p4 : Int32) (I : MI) (J : MJ) : M2 Int32 := if p2 < 2 then (some (0, I, J)) else (if 4 < p2 then (some (0, I, J)) else (if p4 < 1 then (some (0, I, J)) else (if p4 ≤ 4 then (if (I 0 4) < 300 then (pl (va_up I 0 (upd (I 0) 4 ((I 0 4) + 1))) (fun I6 => oc (f_Hall_renew p2 p3 p4 I6 J) (fun v7 I7 J7 => some (1, I7, J7)))) else (some (0, I, J))) else (some (0, I, J)))))
theorem E_Sh_hall {p2 : Int32} {p3 : Int64} {p4 : Int32} {X : MX} {I : MI} {J : MJ} {v : Int32} {I' : MI} {J' : MJ} (hb : f_Sh_hall p2 p3 p4 I J = some (v, I', J')) (K : P (.inl (some (.int v))) (hX X I' J')) : am_E (gG L xs) (d + 3) m_Sh_hall (0, lv_args 0 [.ref 0, .int p2, .long p3, .int p4], []) (hX X I J) P := by
  unfold f_Sh_hall at hb
  refine e_k 3 (f' := (if p2 < 2 then 22 else 5, [(0, .ref 0), (1, .int p2), (2, .long p3), (4, .int p4)], [])) rfl ?_
  refine e_if (fun c1 => ?_) (fun c1 => ?_)
  · replace hb := i_pos c1 hb
    refine e_k 1 (f' := (23, [(0, .ref 0), (1, .int p2), (2, .long p3), (4, .int p4)], [.int 0])) rfl ?_
    obtain ⟨rfl, rfl, rfl⟩ := s_inj hb
    exact e_r rfl rfl K
  · replace hb := i_neg c1 hb
    refine e_k 3 (f' := (if 4 < p2 then 22 else 10, [(0, .ref 0), (1, .int p2), (2, .long p3), (4, .int p4)], [])) rfl ?_
    refine e_if (fun c2 => ?_) (fun c2 => ?_)
    · replace hb := i_pos c2 hb
      refine e_k 1 (f' := (23, [(0, .ref 0), (1, .int p2), (2, .long p3), (4, .int p4)], [.int 0])) rfl ?_
      obtain ⟨rfl, rfl, rfl⟩ := s_inj hb
      exact e_r rfl rfl K
    · replace hb := i_neg c2 hb
      refine e_k 3 (f' := (if p4 < 1 then 22 else 16, [(0, .ref 0), (1, .int p2), (2, .long p3), (4, .int p4)], [])) rfl ?_
      refine e_if (fun c3 => ?_) (fun c3 => ?_)
      · replace hb := i_pos c3 hb
        refine e_k 1 (f' := (23, [(0, .ref 0), (1, .int p2), (2, .long p3), (4, .int p4)], [.int 0])) rfl ?_
        obtain ⟨rfl, rfl, rfl⟩ := s_inj hb
        exact e_r rfl rfl K
      · replace hb := i_neg c3 hb
        refine e_k 3 (f' := (if p4 ≤ 4 then 24 else 22, [(0, .ref 0), (1, .int p2), (2, .long p3), (4, .int p4)], [])) rfl ?_
        refine e_if (fun c4 => ?_) (fun c4 => ?_)
        · replace hb := i_pos c4 hb
          refine e_k 1 (f' := (25, [(0, .ref 0), (1, .int p2), (2, .long p3), (4, .int p4)], [.ref 0])) rfl ?_
          refine r_geti rfl (x_ltn rfl) rfl rfl ?_
          refine e_k 2 (f' := (if (I 0 4) < 300 then 36 else 34, [(0, .ref 0), (1, .int p2), (2, .long p3), (4, .int p4)], [])) rfl ?_
          refine e_if (fun c5 => ?_) (fun c5 => ?_)
          · replace hb := i_pos c5 hb
            refine e_k 2 (f' := (38, [(0, .ref 0), (1, .int p2), (2, .long p3), (4, .int p4)], [.ref 0, .ref 0])) rfl ?_
            refine r_geti rfl (x_ltn rfl) rfl rfl ?_
            refine e_k 2 (f' := (43, [(0, .ref 0), (1, .int p2), (2, .long p3), (4, .int p4)], [.int ((I 0 4) + 1), .ref 0])) rfl ?_
            obtain ⟨I6, eI6, hb⟩ := p_nm hb
            refine r_puti' rfl (x_ltn rfl) rfl rfl eI6 ?_
            refine e_k 1 (f' := (47, [(0, .ref 0), (1, .int p2), (2, .long p3), (4, .int p4)], [.ref 0])) rfl ?_
            refine r_getr rfl (x_ltn rfl) rfl rfl ?_
            refine e_k 3 (f' := (54, [(0, .ref 0), (1, .int p2), (2, .long p3), (4, .int p4)], [.int p4, .long p3, .int p2, .ref 14])) rfl ?_
            obtain ⟨v7, I7, J7, h7, hb⟩ := oc_call hb
            refine r_cv (z := m_Hall_renew) (As := [.int p2, .long p3, .int p4]) (rest := []) rfl rfl rfl rfl rfl (x_ltn rfl) rfl rfl (E_Hall_renew  h7 ⟨_, rfl, ?_⟩)
            refine e_k 1 (f' := (58, [(0, .ref 0), (1, .int p2), (2, .long p3), (4, .int p4)], [.int 1])) rfl ?_
            obtain ⟨rfl, rfl, rfl⟩ := s_inj hb
            exact e_r rfl rfl K
          · replace hb := i_neg c5 hb
            refine e_k 1 (f' := (35, [(0, .ref 0), (1, .int p2), (2, .long p3), (4, .int p4)], [.int 0])) rfl ?_
            obtain ⟨rfl, rfl, rfl⟩ := s_inj hb
            exact e_r rfl rfl K
        · replace hb := i_neg c4 hb
          refine e_k 1 (f' := (23, [(0, .ref 0), (1, .int p2), (2, .long p3), (4, .int p4)], [.int 0])) rfl ?_
          obtain ⟨rfl, rfl, rfl⟩ := s_inj hb
          exact e_r rfl rfl K
def f_Sh_give (p2 : Int32) (p3 : Int64) (I : MI) (J : MJ) : M2 Int32 := oc (f_Hall_has p2 I J) (fun v1 I1 J1 => if v1 = 0 then (some (0, I1, J1)) else (if p2 < 0 ∨ 4 ≤ Int32.toNatClampNeg p2 then none else (oc (f_Sh_number p3 I1 J1) (fun v4 I4 J4 => oc (f_Stock_addInput (Int32.toNatClampNeg p2) v4 I4 J4) (fun v5 I5 J5 => if v5 = 0 then (some (0, I5, J5)) else (some (1, I5, J5)))))))
theorem E_Sh_give {p2 : Int32} {p3 : Int64} {X : MX} {I : MI} {J : MJ} {v : Int32} {I' : MI} {J' : MJ} (hb : f_Sh_give p2 p3 I J = some (v, I', J')) (K : P (.inl (some (.int v))) (hX X I' J')) : am_E (gG L xs) (d + 2) m_Sh_give (0, lv_args 0 [.ref 0, .int p2, .long p3], []) (hX X I J) P := by
  unfold f_Sh_give at hb
  refine e_k 1 (f' := (1, [(0, .ref 0), (1, .int p2), (2, .long p3)], [.ref 0])) rfl ?_
  refine r_getr rfl (x_ltn rfl) rfl rfl ?_
  refine e_k 1 (f' := (5, [(0, .ref 0), (1, .int p2), (2, .long p3)], [.int p2, .ref 14])) rfl ?_
  obtain ⟨v1, I1, J1, h1, hb⟩ := oc_call hb
  refine r_cv (z := m_Hall_has) (As := [.int p2]) (rest := []) rfl rfl rfl rfl rfl (x_ltn rfl) rfl rfl (E_Hall_has  h1 ⟨_, rfl, ?_⟩)
  refine e_k 1 (f' := (if v1 = 0 then 37 else 11, [(0, .ref 0), (1, .int p2), (2, .long p3)], [])) rfl ?_
  refine e_if (fun c2 => ?_) (fun c2 => ?_)
  · replace hb := i_pos c2 hb
    refine e_k 1 (f' := (38, [(0, .ref 0), (1, .int p2), (2, .long p3)], [.int 0])) rfl ?_
    obtain ⟨rfl, rfl, rfl⟩ := s_inj hb
    exact e_r rfl rfl K
  · replace hb := i_neg c2 hb
    refine e_k 1 (f' := (12, [(0, .ref 0), (1, .int p2), (2, .long p3)], [.ref 0])) rfl ?_
    refine r_getr rfl (x_ltn rfl) rfl rfl ?_
    refine r_getr rfl (x_ltn rfl) rfl rfl ?_
    refine e_k 1 (f' := (19, [(0, .ref 0), (1, .int p2), (2, .long p3)], [.int p2, .ref 17])) rfl ?_
    obtain ⟨o3, hb⟩ := ob_in hb
    refine r_pald rfl o3 ?_
    refine r_getr rfl (x_ltp (vp_lt o3) (by decide)) (sS_p0 (vp_lt o3)) rfl ?_
    refine e_k 1 (f' := (24, [(0, .ref 0), (1, .int p2), (2, .long p3)], [.long p3, .ref (29 + 21 * (Int32.toNatClampNeg p2))])) rfl ?_
    obtain ⟨v4, I4, J4, h4, hb⟩ := oc_call hb
    refine r_cs (z := m_Sh_number) (As := [.long p3]) (rest := [.ref (29 + 21 * (Int32.toNatClampNeg p2))]) rfl rfl rfl rfl rfl rfl (E_Sh_number  h4 ⟨_, rfl, ?_⟩)
    obtain ⟨v5, I5, J5, h5, hb⟩ := oc_call hb
    refine r_cv (z := m_Stock_addInput) (As := [.long v4]) (rest := []) rfl rfl rfl rfl rfl (x_ltp (vp_lt o3) (by decide)) (sS_p11 (vp_lt o3)) rfl (E_Stock_addInput (vp_lt o3) h5 ⟨_, rfl, ?_⟩)
    refine e_k 1 (f' := (if v5 = 0 then 37 else 33, [(0, .ref 0), (1, .int p2), (2, .long p3)], [])) rfl ?_
    refine e_if (fun c6 => ?_) (fun c6 => ?_)
    · replace hb := i_pos c6 hb
      refine e_k 1 (f' := (38, [(0, .ref 0), (1, .int p2), (2, .long p3)], [.int 0])) rfl ?_
      obtain ⟨rfl, rfl, rfl⟩ := s_inj hb
      exact e_r rfl rfl K
    · replace hb := i_neg c6 hb
      refine e_k 2 (f' := (38, [(0, .ref 0), (1, .int p2), (2, .long p3)], [.int 1])) rfl ?_
      obtain ⟨rfl, rfl, rfl⟩ := s_inj hb
      exact e_r rfl rfl K
def f_Sh_tamper (p2 : Int32) (p3 : Int32) (p4 : Int32) (p5 : Int64) (I : MI) (J : MJ) : M2 Int32 := if (I 14 9) = 0 then (some (0, I, J)) else (oc (f_Hall_has p2 I J) (fun v2 I2 J2 => if v2 = 0 then (some (0, I2, J2)) else (if p4 < 0 then (some (0, I2, J2)) else (if p4 < 32 then (if p2 < 0 ∨ 4 ≤ Int32.toNatClampNeg p2 then none else (if p3 < (I2 (32 + 21 * (Int32.toNatClampNeg p2)) 6) then (some (0, I2, J2)) else (if p3 < 1000 then (oc (f_Sh_number p5 I2 J2) (fun v9 I9 J9 => oc (f_Errors_add p2 p3 p4 v9 I9 J9) (fun v10 I10 J10 => if v10 = 0 ∨ v10 = 1 then some (v10, I10, J10) else none))) else (some (0, I2, J2))))) else (some (0, I2, J2))))))
theorem E_Sh_tamper {p2 : Int32} {p3 : Int32} {p4 : Int32} {p5 : Int64} {X : MX} {I : MI} {J : MJ} {v : Int32} {I' : MI} {J' : MJ} (hb : f_Sh_tamper p2 p3 p4 p5 I J = some (v, I', J')) (K : P (.inl (some (.int v))) (hX X I' J')) : am_E (gG L xs) (d + 2) m_Sh_tamper (0, lv_args 0 [.ref 0, .int p2, .int p3, .int p4, .long p5], []) (hX X I J) P := by
  unfold f_Sh_tamper at hb
  refine e_k 1 (f' := (1, [(0, .ref 0), (1, .int p2), (2, .int p3), (3, .int p4), (4, .long p5)], [.ref 0])) rfl ?_
  refine r_getr rfl (x_ltn rfl) rfl rfl ?_
  refine r_geti rfl (x_ltn rfl) rfl rfl ?_
  refine e_k 1 (f' := (if (I 14 9) = 0 then 31 else 10, [(0, .ref 0), (1, .int p2), (2, .int p3), (3, .int p4), (4, .long p5)], [])) rfl ?_
  refine e_if (fun c1 => ?_) (fun c1 => ?_)
  · replace hb := i_pos c1 hb
    refine e_k 1 (f' := (32, [(0, .ref 0), (1, .int p2), (2, .int p3), (3, .int p4), (4, .long p5)], [.int 0])) rfl ?_
    obtain ⟨rfl, rfl, rfl⟩ := s_inj hb
    exact e_r rfl rfl K
  · replace hb := i_neg c1 hb
    refine e_k 1 (f' := (11, [(0, .ref 0), (1, .int p2), (2, .int p3), (3, .int p4), (4, .long p5)], [.ref 0])) rfl ?_
    refine r_getr rfl (x_ltn rfl) rfl rfl ?_
    refine e_k 1 (f' := (15, [(0, .ref 0), (1, .int p2), (2, .int p3), (3, .int p4), (4, .long p5)], [.int p2, .ref 14])) rfl ?_
    obtain ⟨v2, I2, J2, h2, hb⟩ := oc_call hb
    refine r_cv (z := m_Hall_has) (As := [.int p2]) (rest := []) rfl rfl rfl rfl rfl (x_ltn rfl) rfl rfl (E_Hall_has  h2 ⟨_, rfl, ?_⟩)
    refine e_k 1 (f' := (if v2 = 0 then 31 else 21, [(0, .ref 0), (1, .int p2), (2, .int p3), (3, .int p4), (4, .long p5)], [])) rfl ?_
    refine e_if (fun c3 => ?_) (fun c3 => ?_)
    · replace hb := i_pos c3 hb
      refine e_k 1 (f' := (32, [(0, .ref 0), (1, .int p2), (2, .int p3), (3, .int p4), (4, .long p5)], [.int 0])) rfl ?_
      obtain ⟨rfl, rfl, rfl⟩ := s_inj hb
      exact e_r rfl rfl K
    · replace hb := i_neg c3 hb
      refine e_k 2 (f' := (if p4 < 0 then 31 else 25, [(0, .ref 0), (1, .int p2), (2, .int p3), (3, .int p4), (4, .long p5)], [])) rfl ?_
      refine e_if (fun c4 => ?_) (fun c4 => ?_)
      · replace hb := i_pos c4 hb
        refine e_k 1 (f' := (32, [(0, .ref 0), (1, .int p2), (2, .int p3), (3, .int p4), (4, .long p5)], [.int 0])) rfl ?_
        obtain ⟨rfl, rfl, rfl⟩ := s_inj hb
        exact e_r rfl rfl K
      · replace hb := i_neg c4 hb
        refine e_k 3 (f' := (if p4 < 32 then 33 else 31, [(0, .ref 0), (1, .int p2), (2, .int p3), (3, .int p4), (4, .long p5)], [])) rfl ?_
        refine e_if (fun c5 => ?_) (fun c5 => ?_)
        · replace hb := i_pos c5 hb
          refine e_k 2 (f' := (35, [(0, .ref 0), (1, .int p2), (2, .int p3), (3, .int p4), (4, .long p5)], [.ref 0, .int p3])) rfl ?_
          refine r_getr rfl (x_ltn rfl) rfl rfl ?_
          refine r_getr rfl (x_ltn rfl) rfl rfl ?_
          refine e_k 1 (f' := (42, [(0, .ref 0), (1, .int p2), (2, .int p3), (3, .int p4), (4, .long p5)], [.int p2, .ref 17, .int p3])) rfl ?_
          obtain ⟨o6, hb⟩ := ob_in hb
          refine r_pald rfl o6 ?_
          refine r_getr rfl (x_ltp (vp_lt o6) (by decide)) (sS_p0 (vp_lt o6)) rfl ?_
          refine r_geti rfl (x_ltp (vp_lt o6) (by decide)) (sS_p14 (vp_lt o6)) rfl ?_
          refine e_k 1 (f' := (if p3 < (I2 (32 + 21 * (Int32.toNatClampNeg p2)) 6) then 59 else 52, [(0, .ref 0), (1, .int p2), (2, .int p3), (3, .int p4), (4, .long p5)], [])) rfl ?_
          refine e_if (fun c7 => ?_) (fun c7 => ?_)
          · replace hb := i_pos c7 hb
            refine e_k 1 (f' := (60, [(0, .ref 0), (1, .int p2), (2, .int p3), (3, .int p4), (4, .long p5)], [.int 0])) rfl ?_
            obtain ⟨rfl, rfl, rfl⟩ := s_inj hb
            exact e_r rfl rfl K
          · replace hb := i_neg c7 hb
            refine e_k 3 (f' := (if p3 < 1000 then 61 else 59, [(0, .ref 0), (1, .int p2), (2, .int p3), (3, .int p4), (4, .long p5)], [])) rfl ?_
            refine e_if (fun c8 => ?_) (fun c8 => ?_)
            · replace hb := i_pos c8 hb
              refine e_k 1 (f' := (62, [(0, .ref 0), (1, .int p2), (2, .int p3), (3, .int p4), (4, .long p5)], [.ref 0])) rfl ?_
              refine r_getr rfl (x_ltn rfl) rfl rfl ?_
              refine r_getr rfl (x_ltn rfl) rfl rfl ?_
              refine e_k 4 (f' := (73, [(0, .ref 0), (1, .int p2), (2, .int p3), (3, .int p4), (4, .long p5)], [.long p5, .int p4, .int p3, .int p2, .ref 103])) rfl ?_
              obtain ⟨v9, I9, J9, h9, hb⟩ := oc_call hb
              refine r_cs (z := m_Sh_number) (As := [.long p5]) (rest := [.int p4, .int p3, .int p2, .ref 103]) rfl rfl rfl rfl rfl rfl (E_Sh_number  h9 ⟨_, rfl, ?_⟩)
              obtain ⟨v10, I10, J10, h10, hb⟩ := oc_call hb
              refine r_cv (z := m_Errors_add) (As := [.int p2, .int p3, .int p4, .long v9]) (rest := []) rfl rfl rfl rfl rfl (x_ltn rfl) rfl rfl (E_Errors_add  h10 ⟨_, rfl, ?_⟩)
              obtain ⟨o11, hb⟩ := ob_if hb
              obtain ⟨rfl, rfl, rfl⟩ := s_inj hb
              exact e_r rfl (if_pos o11) K
            · replace hb := i_neg c8 hb
              refine e_k 1 (f' := (60, [(0, .ref 0), (1, .int p2), (2, .int p3), (3, .int p4), (4, .long p5)], [.int 0])) rfl ?_
              obtain ⟨rfl, rfl, rfl⟩ := s_inj hb
              exact e_r rfl rfl K
        · replace hb := i_neg c5 hb
          refine e_k 1 (f' := (32, [(0, .ref 0), (1, .int p2), (2, .int p3), (3, .int p4), (4, .long p5)], [.int 0])) rfl ?_
          obtain ⟨rfl, rfl, rfl⟩ := s_inj hb
          exact e_r rfl rfl K
end AUTO
