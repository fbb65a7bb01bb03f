section AUTO
variable {L : Nat} {xs : Nat → Int32} {d : Nat} {P : am_R → am_H → Prop}
def f_Stock_addInput (w1 : Nat) (p2 : Int64) (I : MI) (J : MJ) : M2 Int32 := if (I (29 + 21 * w1) 2) < 0 then (some (0, I, J)) else (if (I (29 + 21 * w1) 2) < (nI 100) then (if (I (29 + 21 * w1) 2) < 0 ∨ 100 ≤ Int32.toNatClampNeg (I (29 + 21 * w1) 2) then none else (pl (va_up J (30 + 21 * w1) (vp_updL (J (30 + 21 * w1)) (Int32.toNatClampNeg (I (29 + 21 * w1) 2)) p2)) (fun J4 => pl (va_up I (29 + 21 * w1) (upd (I (29 + 21 * w1)) 2 ((I (29 + 21 * w1) 2) + 1))) (fun I5 => some (1, I5, J4))))) else (some (0, I, J)))
theorem E_Stock_addInput {w1 : Nat} {p2 : Int64} {X : MX} {I : MI} {J : MJ} {v : Int32} {I' : MI} {J' : MJ} (hw_w1 : w1 < 4) (hb : f_Stock_addInput w1 p2 I J = some (v, I', J')) (K : P (.inl (some (.int v))) (hX X I' J')) : am_E (gG L xs) d m_Stock_addInput (0, lv_args 0 [.ref (29 + 21 * w1), .long p2], []) (hX X I J) P := by
  unfold f_Stock_addInput at hb
  refine e_k 1 (f' := (1, [(0, .ref (29 + 21 * w1)), (1, .long p2)], [.ref (29 + 21 * w1)])) rfl ?_
  refine r_geti rfl (x_ltp hw_w1 (by decide)) (sS_p11 hw_w1) rfl ?_
  refine e_k 1 (f' := (if (I (29 + 21 * w1) 2) < 0 then 19 else 7, [(0, .ref (29 + 21 * w1)), (1, .long p2)], [])) rfl ?_
  refine e_if (fun c1 => ?_) (fun c1 => ?_)
  · replace hb := i_pos c1 hb
    refine e_k 1 (f' := (20, [(0, .ref (29 + 21 * w1)), (1, .long p2)], [.int 0])) rfl ?_
    obtain ⟨rfl, rfl, rfl⟩ := s_inj hb
    exact e_r rfl rfl K
  · replace hb := i_neg c1 hb
    refine e_k 1 (f' := (8, [(0, .ref (29 + 21 * w1)), (1, .long p2)], [.ref (29 + 21 * w1)])) rfl ?_
    refine r_geti rfl (x_ltp hw_w1 (by decide)) (sS_p11 hw_w1) rfl ?_
    refine e_k 1 (f' := (12, [(0, .ref (29 + 21 * w1)), (1, .long p2)], [.ref (29 + 21 * w1), .int (I (29 + 21 * w1) 2)])) rfl ?_
    refine r_getr rfl (x_ltp hw_w1 (by decide)) (sS_p11 hw_w1) rfl ?_
    refine r_alen rfl (x_t0 hw_w1 (by decide)) (x_ltp hw_w1 (by decide)) (sS_p12 hw_w1) rfl ?_
    refine e_k 1 (f' := (if (I (29 + 21 * w1) 2) < (nI 100) then 21 else 19, [(0, .ref (29 + 21 * w1)), (1, .long p2)], [])) rfl ?_
    refine e_if (fun c2 => ?_) (fun c2 => ?_)
    · replace hb := i_pos c2 hb
      refine e_k 1 (f' := (22, [(0, .ref (29 + 21 * w1)), (1, .long p2)], [.ref (29 + 21 * w1)])) rfl ?_
      refine r_getr rfl (x_ltp hw_w1 (by decide)) (sS_p11 hw_w1) rfl ?_
      refine e_k 1 (f' := (26, [(0, .ref (29 + 21 * w1)), (1, .long p2)], [.ref (29 + 21 * w1), .ref (30 + 21 * w1)])) rfl ?_
      refine r_geti rfl (x_ltp hw_w1 (by decide)) (sS_p11 hw_w1) rfl ?_
      refine e_k 1 (f' := (30, [(0, .ref (29 + 21 * w1)), (1, .long p2)], [.long p2, .int (I (29 + 21 * w1) 2), .ref (30 + 21 * w1)])) rfl ?_
      obtain ⟨o3, hb⟩ := ob_in hb
      obtain ⟨J4, eJ4, hb⟩ := p_nm hb
      refine r_last' rfl (x_ltp hw_w1 (by decide)) (sS_p12 hw_w1) o3 eJ4 ?_
      refine e_k 2 (f' := (33, [(0, .ref (29 + 21 * w1)), (1, .long p2)], [.ref (29 + 21 * w1), .ref (29 + 21 * w1)])) rfl ?_
      refine r_geti rfl (x_ltp hw_w1 (by decide)) (sS_p11 hw_w1) rfl ?_
      refine e_k 2 (f' := (38, [(0, .ref (29 + 21 * w1)), (1, .long p2)], [.int ((I (29 + 21 * w1) 2) + 1), .ref (29 + 21 * w1)])) rfl ?_
      obtain ⟨I5, eI5, hb⟩ := p_nm hb
      refine r_puti' rfl (x_ltp hw_w1 (by decide)) (sS_p11 hw_w1) rfl eI5 ?_
      refine e_k 1 (f' := (42, [(0, .ref (29 + 21 * w1)), (1, .long p2)], [.int 1])) rfl ?_
      obtain ⟨rfl, rfl, rfl⟩ := s_inj hb
      exact e_r rfl rfl K
    · replace hb := i_neg c2 hb
      refine e_k 1 (f' := (20, [(0, .ref (29 + 21 * w1)), (1, .long p2)], [.int 0])) rfl ?_
      obtain ⟨rfl, rfl, rfl⟩ := s_inj hb
      exact e_r rfl rfl K
def f_Stock_inputsLeft (w1 : Nat) (I : MI) (J : MJ) : M2 Int32 := some ((I (29 + 21 * w1) 2) - (I (29 + 21 * w1) 3), I, J)
theorem E_Stock_inputsLeft {w1 : Nat} {X : MX} {I : MI} {J : MJ} {v : Int32} {I' : MI} {J' : MJ} (hw_w1 : w1 < 4) (hb : f_Stock_inputsLeft w1 I J = some (v, I', J')) (K : P (.inl (some (.int v))) (hX X I' J')) : am_E (gG L xs) d m_Stock_inputsLeft (0, lv_args 0 [.ref (29 + 21 * w1)], []) (hX X I J) P := by
  unfold f_Stock_inputsLeft at hb
  refine e_k 1 (f' := (1, [(0, .ref (29 + 21 * w1))], [.ref (29 + 21 * w1)])) rfl ?_
  refine r_geti rfl (x_ltp hw_w1 (by decide)) (sS_p11 hw_w1) rfl ?_
  refine e_k 1 (f' := (5, [(0, .ref (29 + 21 * w1))], [.ref (29 + 21 * w1), .int (I (29 + 21 * w1) 2)])) rfl ?_
  refine r_geti rfl (x_ltp hw_w1 (by decide)) (sS_p11 hw_w1) rfl ?_
  refine e_k 1 (f' := (9, [(0, .ref (29 + 21 * w1))], [.int ((I (29 + 21 * w1) 2) - (I (29 + 21 * w1) 3))])) rfl ?_
  obtain ⟨rfl, rfl, rfl⟩ := s_inj hb
  exact e_r rfl rfl K
def f_Stock_masksLeft (w1 : Nat) (I : MI) (J : MJ) : M2 Int32 := some ((I (29 + 21 * w1) 4) - (I (29 + 21 * w1) 5), I, J)
theorem E_Stock_masksLeft {w1 : Nat} {X : MX} {I : MI} {J : MJ} {v : Int32} {I' : MI} {J' : MJ} (hw_w1 : w1 < 4) (hb : f_Stock_masksLeft w1 I J = some (v, I', J')) (K : P (.inl (some (.int v))) (hX X I' J')) : am_E (gG L xs) d m_Stock_masksLeft (0, lv_args 0 [.ref (29 + 21 * w1)], []) (hX X I J) P := by
  unfold f_Stock_masksLeft at hb
  refine e_k 1 (f' := (1, [(0, .ref (29 + 21 * w1))], [.ref (29 + 21 * w1)])) rfl ?_
  refine r_geti rfl (x_ltp hw_w1 (by decide)) (sS_p11 hw_w1) rfl ?_
  refine e_k 1 (f' := (5, [(0, .ref (29 + 21 * w1))], [.ref (29 + 21 * w1), .int (I (29 + 21 * w1) 4)])) rfl ?_
  refine r_geti rfl (x_ltp hw_w1 (by decide)) (sS_p11 hw_w1) rfl ?_
  refine e_k 1 (f' := (9, [(0, .ref (29 + 21 * w1))], [.int ((I (29 + 21 * w1) 4) - (I (29 + 21 * w1) 5))])) rfl ?_
  obtain ⟨rfl, rfl, rfl⟩ := s_inj hb
  exact e_r rfl rfl K
def f_Translator_startAnew_44 (p2 : Int32) : Nat → Int32 → MI → MJ → M2 (Unit)
  | 0, _, _, _ => none
  | fu + 1, l2, I, J => if (nI 10) ≤ l2 then (some ((), I, J)) else (if (nI 10) ≤ l2 then (some ((), I, J)) else (if l2 < 0 ∨ 10 ≤ Int32.toNatClampNeg l2 then none else (pl (va_up I 8 (upd (I 8) (Int32.toNatClampNeg l2) (-1))) (fun I12 => if l2 < 0 ∨ 10 ≤ Int32.toNatClampNeg l2 then none else (pl (va_up I12 9 (upd (I12 9) (Int32.toNatClampNeg l2) (-1))) (fun I14 => f_Translator_startAnew_44 p2 fu (l2 + 1) I14 J))))))
theorem E_Translator_startAnew_44 {X : MX} {p2 : Int32} : ∀ (fu : Nat) {l2 : Int32} {I : MI} {J : MJ} {r : (Unit)} {I' : MI} {J' : MJ}, f_Translator_startAnew_44 p2 fu l2 I J = some (r, I', J') → am_E (gG L xs) d m_Translator_startAnew (82, [], []) (hX X I' J') P → am_E (gG L xs) d m_Translator_startAnew (44, [(0, .ref 3), (2, .int l2)], []) (hX X I J) P := by
  intro fu
  induction fu with
  | zero =>
    intros
    rename_i hb _
    cases hb
  | succ fu ih =>
    intro l2 I J r I' J' hb K
    unfold f_Translator_startAnew_44 at hb
    refine e_k 2 (f' := (46, [(0, .ref 3), (2, .int l2)], [.ref 3, .int l2])) rfl ?_
    refine r_getr rfl (x_ltn rfl) rfl rfl ?_
    refine r_alen rfl rfl (x_ltn rfl) rfl rfl ?_
    refine e_k 1 (f' := (if (nI 10) ≤ l2 then 82 else 53, [(0, .ref 3), (2, .int l2)], [])) rfl ?_
    refine e_if (fun c9 => ?_) (fun c9 => ?_)
    · replace hb := i_pos c9 hb
      refine e_sub (ls := []) rfl ⟨⟩ ?_
      obtain ⟨rfl, rfl, rfl⟩ := s_inj hb
      exact K
    · replace hb := i_neg c9 hb
      refine e_k 2 (f' := (55, [(0, .ref 3), (2, .int l2)], [.ref 3, .int l2])) rfl ?_
      refine r_getr rfl (x_ltn rfl) rfl rfl ?_
      refine r_alen rfl rfl (x_ltn rfl) rfl rfl ?_
      refine e_k 1 (f' := (if (nI 10) ≤ l2 then 82 else 62, [(0, .ref 3), (2, .int l2)], [])) rfl ?_
      refine e_if (fun c10 => ?_) (fun c10 => ?_)
      · replace hb := i_pos c10 hb
        refine e_sub (ls := []) rfl ⟨⟩ ?_
        obtain ⟨rfl, rfl, rfl⟩ := s_inj hb
        exact K
      · replace hb := i_neg c10 hb
        refine e_k 1 (f' := (63, [(0, .ref 3), (2, .int l2)], [.ref 3])) rfl ?_
        refine r_getr rfl (x_ltn rfl) rfl rfl ?_
        refine e_k 2 (f' := (68, [(0, .ref 3), (2, .int l2)], [.int (-1), .int l2, .ref 8])) rfl ?_
        obtain ⟨o11, hb⟩ := ob_in hb
        obtain ⟨I12, eI12, hb⟩ := p_nm hb
        refine r_iast' rfl (x_ltn rfl) rfl o11 eI12 ?_
        refine e_k 1 (f' := (70, [(0, .ref 3), (2, .int l2)], [.ref 3])) rfl ?_
        refine r_getr rfl (x_ltn rfl) rfl rfl ?_
        refine e_k 2 (f' := (75, [(0, .ref 3), (2, .int l2)], [.int (-1), .int l2, .ref 9])) rfl ?_
        obtain ⟨o13, hb⟩ := ob_in hb
        obtain ⟨I14, eI14, hb⟩ := p_nm hb
        refine r_iast' rfl (x_ltn rfl) rfl o13 eI14 ?_
        refine e_k 2 (f' := (44, [(2, .int (l2 + 1)), (0, .ref 3)], [])) rfl ?_
        refine e_sub (ls := [(0, .ref 3), (2, .int (l2 + 1))]) rfl ⟨rfl, rfl, trivial⟩ ?_
        exact ih  hb K
def f_Translator_startAnew (p2 : Int32) (I : MI) (J : MJ) : M2 Unit := pl (va_up I 3 (upd (I 3) 4 p2)) (fun I1 => pl (va_up I1 3 (upd (I1 3) 5 0)) (fun I2 => pl (va_up I2 3 (upd (I2 3) 6 0)) (fun I3 => pl (va_up I3 3 (upd (I3 3) 7 0)) (fun I4 => pl (va_up I4 3 (upd (I4 3) 8 0)) (fun I5 => pl (va_up I5 3 (upd (I5 3) 9 0)) (fun I6 => pl (va_up I6 3 (upd (I6 3) 10 0)) (fun I7 => oc (f_Row_wipe 6 7 2000 I7 J) (fun v8 I8 J8 => oc (f_Translator_startAnew_44 p2 gF 0 I8 J8) (fun u15 I15 J15 => some ((), I15, J15))))))))))
theorem E_Translator_startAnew {p2 : Int32} {X : MX} {I : MI} {J : MJ} {v : Unit} {I' : MI} {J' : MJ} (hb : f_Translator_startAnew p2 I J = some (v, I', J')) (K : P (.inl (none)) (hX X I' J')) : am_E (gG L xs) (d + 1) m_Translator_startAnew (0, lv_args 0 [.ref 3, .int p2], []) (hX X I J) P := by
  unfold f_Translator_startAnew at hb
  refine e_k 2 (f' := (2, [(0, .ref 3), (1, .int p2)], [.int p2, .ref 3])) rfl ?_
  obtain ⟨I1, eI1, hb⟩ := p_nm hb
  refine r_puti' rfl (x_ltn rfl) rfl rfl eI1 ?_
  refine e_k 2 (f' := (7, [(0, .ref 3), (1, .int p2)], [.int 0, .ref 3])) rfl ?_
  obtain ⟨I2, eI2, hb⟩ := p_nm hb
  refine r_puti' rfl (x_ltn rfl) rfl rfl eI2 ?_
  refine e_k 2 (f' := (12, [(0, .ref 3), (1, .int p2)], [.int 0, .ref 3])) rfl ?_
  obtain ⟨I3, eI3, hb⟩ := p_nm hb
  refine r_puti' rfl (x_ltn rfl) rfl rfl eI3 ?_
  refine e_k 2 (f' := (17, [(0, .ref 3), (1, .int p2)], [.int 0, .ref 3])) rfl ?_
  obtain ⟨I4, eI4, hb⟩ := p_nm hb
  refine r_puti' rfl (x_ltn rfl) rfl rfl eI4 ?_
  refine e_k 2 (f' := (22, [(0, .ref 3), (1, .int p2)], [.int 0, .ref 3])) rfl ?_
  obtain ⟨I5, eI5, hb⟩ := p_nm hb
  refine r_putz' rfl (x_ltn rfl) rfl rfl (Or.inl rfl) eI5 ?_
  refine e_k 2 (f' := (27, [(0, .ref 3), (1, .int p2)], [.int 0, .ref 3])) rfl ?_
  obtain ⟨I6, eI6, hb⟩ := p_nm hb
  refine r_puti' rfl (x_ltn rfl) rfl rfl eI6 ?_
  refine e_k 2 (f' := (32, [(0, .ref 3), (1, .int p2)], [.int 0, .ref 3])) rfl ?_
  obtain ⟨I7, eI7, hb⟩ := p_nm hb
  refine r_puti' rfl (x_ltn rfl) rfl rfl eI7 ?_
  refine e_k 1 (f' := (36, [(0, .ref 3), (1, .int p2)], [.ref 3])) rfl ?_
  refine r_getr rfl (x_ltn rfl) rfl rfl ?_
  obtain ⟨v8, I8, J8, h8, hb⟩ := oc_call hb
  refine r_cv (z := m_Row_wipe) (As := []) (rest := []) rfl rfl rfl rfl rfl (x_ltn rfl) rfl rfl (E_Row_wipe row_6 h8 ⟨_, rfl, ?_⟩)
  refine e_k 2 (f' := (44, [(2, .int 0), (0, .ref 3), (1, .int p2)], [])) rfl ?_
  refine e_sub (ls := [(0, .ref 3), (2, .int 0)]) rfl ⟨rfl, rfl, trivial⟩ ?_
  obtain ⟨u15, I15, J15, h15, hb⟩ := oc_call hb
  refine E_Translator_startAnew_44  gF  h15 ?_
  obtain ⟨rfl, rfl, rfl⟩ := s_inj hb
  exact e_r rfl rfl K
def f_Translator_statements_2 (R : M3) : Nat → Int32 → MI → MJ → M2 (Unit ⊕ (Unit))
  | 0, _, _, _ => none
  | fu + 1, l1, I, J => if 400 ≤ l1 then (some (.inr (), I, J)) else (oc (R 1 0 0 I J) (fun v2 I2 J2 => if ¬ v2 = 0 then (f_Translator_statements_2 R  fu (l1 + 1) I2 J2) else (some (.inl (), I2, J2))))
theorem E_Translator_statements_2 {R : M3} {X : MX} (hR_0 : ∀ {I : MI} {J : MJ} {v : Int32} {I' : MI} {J' : MJ} {P : am_R → am_H → Prop}, R 0 0 0 I J = some (v, I', J') → P (.inl (none)) (hX X I' J') → am_E (gG L xs) d m_Translator_statements (0, lv_args 0 [.ref 3], []) (hX X I J) P) (hR_1 : ∀ {I : MI} {J : MJ} {v : Int32} {I' : MI} {J' : MJ} {P : am_R → am_H → Prop}, R 1 0 0 I J = some (v, I', J') → P (.inl (some (.int v))) (hX X I' J') → am_E (gG L xs) d m_Translator_statement (0, lv_args 0 [.ref 3], []) (hX X I J) P) (hR_2 : ∀ {a0 : Int32} {a1 : Int32} {I : MI} {J : MJ} {v : Int32} {I' : MI} {J' : MJ} {P : am_R → am_H → Prop}, R 2 a0 a1 I J = some (v, I', J') → P (.inl (none)) (hX X I' J') → am_E (gG L xs) d m_Translator_variableStatement (0, lv_args 0 [.ref 3, .int a0, .int a1], []) (hX X I J) P) (hR_3 : ∀ {a0 : Int32} {a1 : Int32} {I : MI} {J : MJ} {v : Int32} {I' : MI} {J' : MJ} {P : am_R → am_H → Prop}, R 3 a0 a1 I J = some (v, I', J') → P (.inl (none)) (hX X I' J') → am_E (gG L xs) d m_Translator_assign (0, lv_args 0 [.ref 3, .int a0, .int a1], []) (hX X I J) P) (hR_4 : ∀ {a0 : Int32} {a1 : Int32} {I : MI} {J : MJ} {v : Int32} {I' : MI} {J' : MJ} {P : am_R → am_H → Prop}, R 4 a0 a1 I J = some (v, I', J') → P (.inl (none)) (hX X I' J') → am_E (gG L xs) d m_Translator_arrayStatement (0, lv_args 0 [.ref 3, .int a0, .int a1], []) (hX X I J) P) (hR_5 : ∀ {a0 : Int32} {I : MI} {J : MJ} {v : Int32} {I' : MI} {J' : MJ} {P : am_R → am_H → Prop}, R 5 a0 0 I J = some (v, I', J') → P (.inl (none)) (hX X I' J') → am_E (gG L xs) d m_Translator_routine (0, lv_args 0 [.ref 3, .int a0], []) (hX X I J) P) (hR_6 : ∀ {a0 : Int32} {a1 : Int32} {I : MI} {J : MJ} {v : Int32} {I' : MI} {J' : MJ} {P : am_R → am_H → Prop}, R 6 a0 a1 I J = some (v, I', J') → P (.inl (none)) (hX X I' J') → am_E (gG L xs) d m_Translator_tell (0, lv_args 0 [.ref 3, .int a0, .int a1], []) (hX X I J) P) (hR_7 : ∀ {I : MI} {J : MJ} {v : Int32} {I' : MI} {J' : MJ} {P : am_R → am_H → Prop}, R 7 0 0 I J = some (v, I', J') → P (.inl (none)) (hX X I' J') → am_E (gG L xs) d m_Translator_choice (0, lv_args 0 [.ref 3], []) (hX X I J) P) (hR_8 : ∀ {I : MI} {J : MJ} {v : Int32} {I' : MI} {J' : MJ} {P : am_R → am_H → Prop}, R 8 0 0 I J = some (v, I', J') → P (.inl (none)) (hX X I' J') → am_E (gG L xs) d m_Translator_loop (0, lv_args 0 [.ref 3], []) (hX X I J) P) (hR_9 : ∀ {I : MI} {J : MJ} {v : Int32} {I' : MI} {J' : MJ} {P : am_R → am_H → Prop}, R 9 0 0 I J = some (v, I', J') → P (.inl (some (.int v))) (hX X I' J') → am_E (gG L xs) d m_Translator_expression (0, lv_args 0 [.ref 3], []) (hX X I J) P) (hR_10 : ∀ {I : MI} {J : MJ} {v : Int32} {I' : MI} {J' : MJ} {P : am_R → am_H → Prop}, R 10 0 0 I J = some (v, I', J') → P (.inl (some (.int v))) (hX X I' J') → am_E (gG L xs) d m_Translator_product (0, lv_args 0 [.ref 3], []) (hX X I J) P) (hR_11 : ∀ {I : MI} {J : MJ} {v : Int32} {I' : MI} {J' : MJ} {P : am_R → am_H → Prop}, R 11 0 0 I J = some (v, I', J') → P (.inl (some (.int v))) (hX X I' J') → am_E (gG L xs) d m_Translator_factor (0, lv_args 0 [.ref 3], []) (hX X I J) P) (hR_12 : ∀ {I : MI} {J : MJ} {v : Int32} {I' : MI} {J' : MJ} {P : am_R → am_H → Prop}, R 12 0 0 I J = some (v, I', J') → P (.inl (some (.int v))) (hX X I' J') → am_E (gG L xs) d m_Translator_atom (0, lv_args 0 [.ref 3], []) (hX X I J) P) (hR_13 : ∀ {I : MI} {J : MJ} {v : Int32} {I' : MI} {J' : MJ} {P : am_R → am_H → Prop}, R 13 0 0 I J = some (v, I', J') → P (.inl (none)) (hX X I' J') → am_E (gG L xs) d m_Translator_index (0, lv_args 0 [.ref 3], []) (hX X I J) P) : ∀ (fu : Nat) {l1 : Int32} {I : MI} {J : MJ} {r : (Unit ⊕ (Unit))} {I' : MI} {J' : MJ}, f_Translator_statements_2 R  fu l1 I J = some (r, I', J') → (∀ v, r = .inl v → P (.inl (none)) (hX X I' J')) → (∀ u, r = .inr u → am_E (gG L xs) (d + 1) m_Translator_statements (23, [], []) (hX X I' J') P) → am_E (gG L xs) (d + 1) m_Translator_statements (2, [(0, .ref 3), (1, .int l1)], []) (hX X I J) P := by
  intro fu
  induction fu with
  | zero =>
    intros
    rename_i hb _ _
    cases hb
  | succ fu ih =>
    intro l1 I J r I' J' hb K1 K2
    unfold f_Translator_statements_2 at hb
    refine e_k 3 (f' := (if 400 ≤ l1 then 23 else 9, [(0, .ref 3), (1, .int l1)], [])) rfl ?_
    refine e_if (fun c1 => ?_) (fun c1 => ?_)
    · replace hb := i_pos c1 hb
      refine e_sub (ls := []) rfl ⟨⟩ ?_
      obtain ⟨rfl, rfl, rfl⟩ := s_inj hb
      exact K2 _ rfl
    · replace hb := i_neg c1 hb
      refine e_k 1 (f' := (10, [(0, .ref 3), (1, .int l1)], [.ref 3])) rfl ?_
      obtain ⟨v2, I2, J2, h2, hb⟩ := oc_call hb
      refine r_cv (z := m_Translator_statement) (As := []) (rest := []) rfl rfl rfl rfl rfl (x_ltn rfl) rfl rfl (hR_1  h2 ⟨_, rfl, ?_⟩)
      refine e_k 1 (f' := (if ¬ v2 = 0 then 17 else 16, [(0, .ref 3), (1, .int l1)], [])) rfl ?_
      refine e_if (fun c3 => ?_) (fun c3 => ?_)
      · replace hb := i_pos c3 hb
        refine e_k 2 (f' := (2, [(1, .int (l1 + 1)), (0, .ref 3)], [])) rfl ?_
        refine e_sub (ls := [(0, .ref 3), (1, .int (l1 + 1))]) rfl ⟨rfl, rfl, trivial⟩ ?_
        exact ih  hb K1 K2
      · replace hb := i_neg c3 hb
        obtain ⟨rfl, rfl, rfl⟩ := s_inj hb
        exact e_r rfl rfl (K1 _ rfl)
def f_Translator_statements (R : M3) (I : MI) (J : MJ) : M2 Unit := oc (f_Translator_statements_2 R  gF 0 I J) (fun q4 I4 J4 => oe q4 (fun y4 => some (y4, I4, J4)) (fun u4 => some ((), I4, J4)))
theorem E_Translator_statements {R : M3} {X : MX} {I : MI} {J : MJ} {v : Unit} {I' : MI} {J' : MJ} (hR_0 : ∀ {I : MI} {J : MJ} {v : Int32} {I' : MI} {J' : MJ} {P : am_R → am_H → Prop}, R 0 0 0 I J = some (v, I', J') → P (.inl (none)) (hX X I' J') → am_E (gG L xs) d m_Translator_statements (0, lv_args 0 [.ref 3], []) (hX X I J) P) (hR_1 : ∀ {I : MI} {J : MJ} {v : Int32} {I' : MI} {J' : MJ} {P : am_R → am_H → Prop}, R 1 0 0 I J = some (v, I', J') → P (.inl (some (.int v))) (hX X I' J') → am_E (gG L xs) d m_Translator_statement (0, lv_args 0 [.ref 3], []) (hX X I J) P) (hR_2 : ∀ {a0 : Int32} {a1 : Int32} {I : MI} {J : MJ} {v : Int32} {I' : MI} {J' : MJ} {P : am_R → am_H → Prop}, R 2 a0 a1 I J = some (v, I', J') → P (.inl (none)) (hX X I' J') → am_E (gG L xs) d m_Translator_variableStatement (0, lv_args 0 [.ref 3, .int a0, .int a1], []) (hX X I J) P) (hR_3 : ∀ {a0 : Int32} {a1 : Int32} {I : MI} {J : MJ} {v : Int32} {I' : MI} {J' : MJ} {P : am_R → am_H → Prop}, R 3 a0 a1 I J = some (v, I', J') → P (.inl (none)) (hX X I' J') → am_E (gG L xs) d m_Translator_assign (0, lv_args 0 [.ref 3, .int a0, .int a1], []) (hX X I J) P) (hR_4 : ∀ {a0 : Int32} {a1 : Int32} {I : MI} {J : MJ} {v : Int32} {I' : MI} {J' : MJ} {P : am_R → am_H → Prop}, R 4 a0 a1 I J = some (v, I', J') → P (.inl (none)) (hX X I' J') → am_E (gG L xs) d m_Translator_arrayStatement (0, lv_args 0 [.ref 3, .int a0, .int a1], []) (hX X I J) P) (hR_5 : ∀ {a0 : Int32} {I : MI} {J : MJ} {v : Int32} {I' : MI} {J' : MJ} {P : am_R → am_H → Prop}, R 5 a0 0 I J = some (v, I', J') → P (.inl (none)) (hX X I' J') → am_E (gG L xs) d m_Translator_routine (0, lv_args 0 [.ref 3, .int a0], []) (hX X I J) P) (hR_6 : ∀ {a0 : Int32} {a1 : Int32} {I : MI} {J : MJ} {v : Int32} {I' : MI} {J' : MJ} {P : am_R → am_H → Prop}, R 6 a0 a1 I J = some (v, I', J') → P (.inl (none)) (hX X I' J') → am_E (gG L xs) d m_Translator_tell (0, lv_args 0 [.ref 3, .int a0, .int a1], []) (hX X I J) P) (hR_7 : ∀ {I : MI} {J : MJ} {v : Int32} {I' : MI} {J' : MJ} {P : am_R → am_H → Prop}, R 7 0 0 I J = some (v, I', J') → P (.inl (none)) (hX X I' J') → am_E (gG L xs) d m_Translator_choice (0, lv_args 0 [.ref 3], []) (hX X I J) P) (hR_8 : ∀ {I : MI} {J : MJ} {v : Int32} {I' : MI} {J' : MJ} {P : am_R → am_H → Prop}, R 8 0 0 I J = some (v, I', J') → P (.inl (none)) (hX X I' J') → am_E (gG L xs) d m_Translator_loop (0, lv_args 0 [.ref 3], []) (hX X I J) P) (hR_9 : ∀ {I : MI} {J : MJ} {v : Int32} {I' : MI} {J' : MJ} {P : am_R → am_H → Prop}, R 9 0 0 I J = some (v, I', J') → P (.inl (some (.int v))) (hX X I' J') → am_E (gG L xs) d m_Translator_expression (0, lv_args 0 [.ref 3], []) (hX X I J) P) (hR_10 : ∀ {I : MI} {J : MJ} {v : Int32} {I' : MI} {J' : MJ} {P : am_R → am_H → Prop}, R 10 0 0 I J = some (v, I', J') → P (.inl (some (.int v))) (hX X I' J') → am_E (gG L xs) d m_Translator_product (0, lv_args 0 [.ref 3], []) (hX X I J) P) (hR_11 : ∀ {I : MI} {J : MJ} {v : Int32} {I' : MI} {J' : MJ} {P : am_R → am_H → Prop}, R 11 0 0 I J = some (v, I', J') → P (.inl (some (.int v))) (hX X I' J') → am_E (gG L xs) d m_Translator_factor (0, lv_args 0 [.ref 3], []) (hX X I J) P) (hR_12 : ∀ {I : MI} {J : MJ} {v : Int32} {I' : MI} {J' : MJ} {P : am_R → am_H → Prop}, R 12 0 0 I J = some (v, I', J') → P (.inl (some (.int v))) (hX X I' J') → am_E (gG L xs) d m_Translator_atom (0, lv_args 0 [.ref 3], []) (hX X I J) P) (hR_13 : ∀ {I : MI} {J : MJ} {v : Int32} {I' : MI} {J' : MJ} {P : am_R → am_H → Prop}, R 13 0 0 I J = some (v, I', J') → P (.inl (none)) (hX X I' J') → am_E (gG L xs) d m_Translator_index (0, lv_args 0 [.ref 3], []) (hX X I J) P) (hb : f_Translator_statements R  I J = some (v, I', J')) (K : P (.inl (none)) (hX X I' J')) : am_E (gG L xs) (d + 1) m_Translator_statements (0, lv_args 0 [.ref 3], []) (hX X I J) P := by
  unfold f_Translator_statements at hb
  refine e_k 2 (f' := (2, [(1, .int 0), (0, .ref 3)], [])) rfl ?_
  refine e_sub (ls := [(0, .ref 3), (1, .int 0)]) rfl ⟨rfl, rfl, trivial⟩ ?_
  obtain ⟨q4, I4, J4, h4, hb⟩ := oc_call hb
  refine E_Translator_statements_2 hR_0 hR_1 hR_2 hR_3 hR_4 hR_5 hR_6 hR_7 hR_8 hR_9 hR_10 hR_11 hR_12 hR_13 gF  h4 (fun y4 ey4 => ?_) (fun u4 ey4 => ?_)
  · subst ey4
    replace hb := oe_l hb
    obtain ⟨rfl, rfl, rfl⟩ := s_inj hb
    exact K
  · subst ey4
    replace hb := oe_r hb
    obtain ⟨rfl, rfl, rfl⟩ := s_inj hb
    exact e_r rfl rfl K
def f_Translator_leave (I : MI) (J : MJ) : M2 Unit := pl (va_up I 3 (upd (I 3) 6 ((I 3 6) - 1))) (fun I1 => some ((), I1, J))
theorem E_Translator_leave {X : MX} {I : MI} {J : MJ} {v : Unit} {I' : MI} {J' : MJ} (hb : f_Translator_leave  I J = some (v, I', J')) (K : P (.inl (none)) (hX X I' J')) : am_E (gG L xs) d m_Translator_leave (0, lv_args 0 [.ref 3], []) (hX X I J) P := by
  unfold f_Translator_leave at hb
  refine e_k 2 (f' := (2, [(0, .ref 3)], [.ref 3, .ref 3])) rfl ?_
  refine r_geti rfl (x_ltn rfl) rfl rfl ?_
  refine e_k 2 (f' := (7, [(0, .ref 3)], [.int ((I 3 6) - 1), .ref 3])) rfl ?_
  obtain ⟨I1, eI1, hb⟩ := p_nm hb
  refine r_puti' rfl (x_ltn rfl) rfl rfl eI1 ?_
  obtain ⟨rfl, rfl, rfl⟩ := s_inj hb
  exact e_r rfl rfl K
def f_Translator_look_2 : Nat → Int32 → MI → MJ → M2 (Unit)
  | 0, _, _, _ => none
  | fu + 1, l1, I, J => if 400 ≤ l1 then (some ((), I, J)) else (oc (f_Row_at 4 5 400 (I 3 5) I J) (fun v2 I2 J2 => if ¬ v2 = 32 then (some ((), I2, J2)) else (pl (va_up I2 3 (upd (I2 3) 5 ((I2 3 5) + 1))) (fun I4 => f_Translator_look_2  fu (l1 + 1) I4 J2))))
theorem E_Translator_look_2 {X : MX} : ∀ (fu : Nat) {l1 : Int32} {I : MI} {J : MJ} {r : (Unit)} {I' : MI} {J' : MJ}, f_Translator_look_2  fu l1 I J = some (r, I', J') → am_E (gG L xs) (d + 1) m_Translator_look (41, [(0, .ref 3)], []) (hX X I' J') P → am_E (gG L xs) (d + 1) m_Translator_look (2, [(0, .ref 3), (1, .int l1)], []) (hX X I J) P := by
  intro fu
  induction fu with
  | zero =>
    intros
    rename_i hb _
    cases hb
  | succ fu ih =>
    intro l1 I J r I' J' hb K
    unfold f_Translator_look_2 at hb
    refine e_k 3 (f' := (if 400 ≤ l1 then 41 else 9, [(0, .ref 3), (1, .int l1)], [])) rfl ?_
    refine e_if (fun c1 => ?_) (fun c1 => ?_)
    · replace hb := i_pos c1 hb
      refine e_sub (ls := [(0, .ref 3)]) rfl ⟨rfl, trivial⟩ ?_
      obtain ⟨rfl, rfl, rfl⟩ := s_inj hb
      exact K
    · replace hb := i_neg c1 hb
      refine e_k 1 (f' := (10, [(0, .ref 3), (1, .int l1)], [.ref 3])) rfl ?_
      refine r_getr rfl (x_ltn rfl) rfl rfl ?_
      refine e_k 1 (f' := (14, [(0, .ref 3), (1, .int l1)], [.ref 3, .ref 4])) rfl ?_
      refine r_geti rfl (x_ltn rfl) rfl rfl ?_
      obtain ⟨v2, I2, J2, h2, hb⟩ := oc_call hb
      refine r_cv (z := m_Row_at) (As := [.int (I 3 5)]) (rest := []) rfl rfl rfl rfl rfl (x_ltn rfl) rfl rfl (E_Row_at row_4 h2 ⟨_, rfl, ?_⟩)
      refine e_k 2 (f' := (if ¬ v2 = 32 then 41 else 25, [(0, .ref 3), (1, .int l1)], [])) rfl ?_
      refine e_if (fun c3 => ?_) (fun c3 => ?_)
      · replace hb := i_pos c3 hb
        refine e_sub (ls := [(0, .ref 3)]) rfl ⟨rfl, trivial⟩ ?_
        obtain ⟨rfl, rfl, rfl⟩ := s_inj hb
        exact K
      · replace hb := i_neg c3 hb
        refine e_k 2 (f' := (27, [(0, .ref 3), (1, .int l1)], [.ref 3, .ref 3])) rfl ?_
        refine r_geti rfl (x_ltn rfl) rfl rfl ?_
        refine e_k 2 (f' := (32, [(0, .ref 3), (1, .int l1)], [.int ((I2 3 5) + 1), .ref 3])) rfl ?_
        obtain ⟨I4, eI4, hb⟩ := p_nm hb
        refine r_puti' rfl (x_ltn rfl) rfl rfl eI4 ?_
        refine e_k 2 (f' := (2, [(1, .int (l1 + 1)), (0, .ref 3)], [])) rfl ?_
        refine e_sub (ls := [(0, .ref 3), (1, .int (l1 + 1))]) rfl ⟨rfl, rfl, trivial⟩ ?_
        exact ih  hb K
def f_Translator_look (I : MI) (J : MJ) : M2 Int32 := oc (f_Translator_look_2  gF 0 I J) (fun u5 I5 J5 => if (I5 3 8) = 0 then (oc (f_Row_at 4 5 400 (I5 3 5) I5 J5) (fun v7 I7 J7 => some (v7, I7, J7))) else (some ((-1), I5, J5)))
theorem E_Translator_look {X : MX} {I : MI} {J : MJ} {v : Int32} {I' : MI} {J' : MJ} (hb : f_Translator_look  I J = some (v, I', J')) (K : P (.inl (some (.int v))) (hX X I' J')) : am_E (gG L xs) (d + 1) m_Translator_look (0, lv_args 0 [.ref 3], []) (hX X I J) P := by
  unfold f_Translator_look at hb
  refine e_k 2 (f' := (2, [(1, .int 0), (0, .ref 3)], [])) rfl ?_
  refine e_sub (ls := [(0, .ref 3), (1, .int 0)]) rfl ⟨rfl, rfl, trivial⟩ ?_
  obtain ⟨u5, I5, J5, h5, hb⟩ := oc_call hb
  refine E_Translator_look_2  gF  h5 ?_
  refine e_k 1 (f' := (42, [(0, .ref 3)], [.ref 3])) rfl ?_
  refine r_geti rfl (x_ltn rfl) rfl rfl ?_
  refine e_k 1 (f' := (if (I5 3 8) = 0 then 52 else 48, [(0, .ref 3)], [])) rfl ?_
  refine e_if (fun c6 => ?_) (fun c6 => ?_)
  · replace hb := i_pos c6 hb
    refine e_k 1 (f' := (53, [(0, .ref 3)], [.ref 3])) rfl ?_
    refine r_getr rfl (x_ltn rfl) rfl rfl ?_
    refine e_k 1 (f' := (57, [(0, .ref 3)], [.ref 3, .ref 4])) rfl ?_
    refine r_geti rfl (x_ltn rfl) rfl rfl ?_
    obtain ⟨v7, I7, J7, h7, hb⟩ := oc_call hb
    refine r_cv (z := m_Row_at) (As := [.int (I5 3 5)]) (rest := []) rfl rfl rfl rfl rfl (x_ltn rfl) rfl rfl (E_Row_at row_4 h7 ⟨_, rfl, ?_⟩)
    obtain ⟨rfl, rfl, rfl⟩ := s_inj hb
    exact e_r rfl rfl K
  · replace hb := i_neg c6 hb
    refine e_k 2 (f' := (63, [(0, .ref 3)], [.int (-1)])) rfl ?_
    obtain ⟨rfl, rfl, rfl⟩ := s_inj hb
    exact e_r rfl rfl K
def f_Translator_behindNext_9 : Nat → Int32 → Int32 → MI → MJ → M2 (Int32)
  | 0, _, _, _, _ => none
  | fu + 1, l1, l2, I, J => if 400 ≤ l2 then (some (l1, I, J)) else (oc (f_Row_at 4 5 400 l1 I J) (fun v3 I3 J3 => if ¬ v3 = 32 then (some (l1, I3, J3)) else (f_Translator_behindNext_9  fu (l1 + 1) (l2 + 1) I3 J3)))
theorem E_Translator_behindNext_9 {X : MX} : ∀ (fu : Nat) {l1 : Int32} {l2 : Int32} {I : MI} {J : MJ} {r : (Int32)} {I' : MI} {J' : MJ}, f_Translator_behindNext_9  fu l1 l2 I J = some (r, I', J') → am_E (gG L xs) (d + 1) m_Translator_behindNext (38, [(0, .ref 3), (1, .int r)], []) (hX X I' J') P → am_E (gG L xs) (d + 1) m_Translator_behindNext (9, [(0, .ref 3), (1, .int l1), (2, .int l2)], []) (hX X I J) P := by
  intro fu
  induction fu with
  | zero =>
    intros
    rename_i hb _
    cases hb
  | succ fu ih =>
    intro l1 l2 I J r I' J' hb K
    unfold f_Translator_behindNext_9 at hb
    refine e_k 3 (f' := (if 400 ≤ l2 then 38 else 16, [(0, .ref 3), (1, .int l1), (2, .int l2)], [])) rfl ?_
    refine e_if (fun c2 => ?_) (fun c2 => ?_)
    · replace hb := i_pos c2 hb
      refine e_sub (ls := [(0, .ref 3), (1, .int l1)]) rfl ⟨rfl, rfl, trivial⟩ ?_
      obtain ⟨rfl, rfl, rfl⟩ := s_inj hb
      exact K
    · replace hb := i_neg c2 hb
      refine e_k 1 (f' := (17, [(0, .ref 3), (1, .int l1), (2, .int l2)], [.ref 3])) rfl ?_
      refine r_getr rfl (x_ltn rfl) rfl rfl ?_
      refine e_k 1 (f' := (21, [(0, .ref 3), (1, .int l1), (2, .int l2)], [.int l1, .ref 4])) rfl ?_
      obtain ⟨v3, I3, J3, h3, hb⟩ := oc_call hb
      refine r_cv (z := m_Row_at) (As := [.int l1]) (rest := []) rfl rfl rfl rfl rfl (x_ltn rfl) rfl rfl (E_Row_at row_4 h3 ⟨_, rfl, ?_⟩)
      refine e_k 2 (f' := (if ¬ v3 = 32 then 38 else 29, [(0, .ref 3), (1, .int l1), (2, .int l2)], [])) rfl ?_
      refine e_if (fun c4 => ?_) (fun c4 => ?_)
      · replace hb := i_pos c4 hb
        refine e_sub (ls := [(0, .ref 3), (1, .int l1)]) rfl ⟨rfl, rfl, trivial⟩ ?_
        obtain ⟨rfl, rfl, rfl⟩ := s_inj hb
        exact K
      · replace hb := i_neg c4 hb
        refine e_k 3 (f' := (9, [(2, .int (l2 + 1)), (1, .int (l1 + 1)), (0, .ref 3)], [])) rfl ?_
        refine e_sub (ls := [(0, .ref 3), (1, .int (l1 + 1)), (2, .int (l2 + 1))]) rfl ⟨rfl, rfl, rfl, trivial⟩ ?_
        exact ih  hb K
def f_Translator_behindNext (I : MI) (J : MJ) : M2 Int32 := pl ((I 3 5) + 1 : Int32) (fun x1 => oc (f_Translator_behindNext_9  gF x1 0 I J) (fun u5 I5 J5 => oc (f_Row_at 4 5 400 u5 I5 J5) (fun v6 I6 J6 => some (v6, I6, J6))))
theorem E_Translator_behindNext {X : MX} {I : MI} {J : MJ} {v : Int32} {I' : MI} {J' : MJ} (hb : f_Translator_behindNext  I J = some (v, I', J')) (K : P (.inl (some (.int v))) (hX X I' J')) : am_E (gG L xs) (d + 1) m_Translator_behindNext (0, lv_args 0 [.ref 3], []) (hX X I J) P := by
  unfold f_Translator_behindNext at hb
  refine e_k 1 (f' := (1, [(0, .ref 3)], [.ref 3])) rfl ?_
  refine r_geti rfl (x_ltn rfl) rfl rfl ?_
  refine e_k 3 (f' := (7, [(1, .int ((I 3 5) + 1)), (0, .ref 3)], [])) rfl ?_
  obtain ⟨x1, ex1, hb⟩ := p_nm hb
  rw [← ex1]
  refine e_k 2 (f' := (9, [(2, .int 0), (1, .int x1), (0, .ref 3)], [])) rfl ?_
  refine e_sub (ls := [(0, .ref 3), (1, .int x1), (2, .int 0)]) rfl ⟨rfl, rfl, rfl, trivial⟩ ?_
  obtain ⟨u5, I5, J5, h5, hb⟩ := oc_call hb
  refine E_Translator_behindNext_9  gF  h5 ?_
  refine e_k 1 (f' := (39, [(0, .ref 3), (1, .int u5)], [.ref 3])) rfl ?_
  refine r_getr rfl (x_ltn rfl) rfl rfl ?_
  refine e_k 1 (f' := (43, [(0, .ref 3), (1, .int u5)], [.int u5, .ref 4])) rfl ?_
  obtain ⟨v6, I6, J6, h6, hb⟩ := oc_call hb
  refine r_cv (z := m_Row_at) (As := [.int u5]) (rest := []) rfl rfl rfl rfl rfl (x_ltn rfl) rfl rfl (E_Row_at row_4 h6 ⟨_, rfl, ?_⟩)
  obtain ⟨rfl, rfl, rfl⟩ := s_inj hb
  exact e_r rfl rfl K
def f_Translator_pass (I : MI) (J : MJ) : M2 Unit := if ¬ (I 3 8) = 0 then (some ((), I, J)) else (pl (va_up I 3 (upd (I 3) 5 ((I 3 5) + 1))) (fun I2 => some ((), I2, J)))
theorem E_Translator_pass {X : MX} {I : MI} {J : MJ} {v : Unit} {I' : MI} {J' : MJ} (hb : f_Translator_pass  I J = some (v, I', J')) (K : P (.inl (none)) (hX X I' J')) : am_E (gG L xs) d m_Translator_pass (0, lv_args 0 [.ref 3], []) (hX X I J) P := by
  unfold f_Translator_pass at hb
  refine e_k 1 (f' := (1, [(0, .ref 3)], [.ref 3])) rfl ?_
  refine r_geti rfl (x_ltn rfl) rfl rfl ?_
  refine e_k 1 (f' := (if ¬ (I 3 8) = 0 then 17 else 7, [(0, .ref 3)], [])) rfl ?_
  refine e_if (fun c1 => ?_) (fun c1 => ?_)
  · replace hb := i_pos c1 hb
    obtain ⟨rfl, rfl, rfl⟩ := s_inj hb
    exact e_r rfl rfl K
  · replace hb := i_neg c1 hb
    refine e_k 2 (f' := (9, [(0, .ref 3)], [.ref 3, .ref 3])) rfl ?_
    refine r_geti rfl (x_ltn rfl) rfl rfl ?_
    refine e_k 2 (f' := (14, [(0, .ref 3)], [.int ((I 3 5) + 1), .ref 3])) rfl ?_
    obtain ⟨I2, eI2, hb⟩ := p_nm hb
    refine r_puti' rfl (x_ltn rfl) rfl rfl eI2 ?_
    obtain ⟨rfl, rfl, rfl⟩ := s_inj hb
    exact e_r rfl rfl K
def f_Translator_refuse (I : MI) (J : MJ) : M2 Unit := if ¬ (I 3 8) = 0 then (some ((), I, J)) else (pl (va_up I 3 (upd (I 3) 8 1)) (fun I2 => pl (va_up I2 3 (upd (I2 3) 9 1)) (fun I3 => pl (va_up I3 3 (upd (I3 3) 10 (I3 3 5))) (fun I4 => some ((), I4, J)))))
theorem E_Translator_refuse {X : MX} {I : MI} {J : MJ} {v : Unit} {I' : MI} {J' : MJ} (hb : f_Translator_refuse  I J = some (v, I', J')) (K : P (.inl (none)) (hX X I' J')) : am_E (gG L xs) d m_Translator_refuse (0, lv_args 0 [.ref 3], []) (hX X I J) P := by
  unfold f_Translator_refuse at hb
  refine e_k 1 (f' := (1, [(0, .ref 3)], [.ref 3])) rfl ?_
  refine r_geti rfl (x_ltn rfl) rfl rfl ?_
  refine e_k 1 (f' := (if ¬ (I 3 8) = 0 then 25 else 7, [(0, .ref 3)], [])) rfl ?_
  refine e_if (fun c1 => ?_) (fun c1 => ?_)
  · replace hb := i_pos c1 hb
    obtain ⟨rfl, rfl, rfl⟩ := s_inj hb
    exact e_r rfl rfl K
  · replace hb := i_neg c1 hb
    refine e_k 2 (f' := (9, [(0, .ref 3)], [.int 1, .ref 3])) rfl ?_
    obtain ⟨I2, eI2, hb⟩ := p_nm hb
    refine r_putz' rfl (x_ltn rfl) rfl rfl (Or.inr rfl) eI2 ?_
    refine e_k 2 (f' := (14, [(0, .ref 3)], [.int 1, .ref 3])) rfl ?_
    obtain ⟨I3, eI3, hb⟩ := p_nm hb
    refine r_puti' rfl (x_ltn rfl) rfl rfl eI3 ?_
    refine e_k 2 (f' := (19, [(0, .ref 3)], [.ref 3, .ref 3])) rfl ?_
    refine r_geti rfl (x_ltn rfl) rfl rfl ?_
    obtain ⟨I4, eI4, hb⟩ := p_nm hb
    refine r_puti' rfl (x_ltn rfl) rfl rfl eI4 ?_
    obtain ⟨rfl, rfl, rfl⟩ := s_inj hb
    exact e_r rfl rfl K
def f_Translator_blame (p2 : Int32) (p3 : Int32) (I : MI) (J : MJ) : M2 Unit := if (I 3 8) = 0 then (if (I 3 9) = 0 then (pl (va_up I 3 (upd (I 3) 9 p2)) (fun I3 => pl (va_up I3 3 (upd (I3 3) 10 p3)) (fun I4 => some ((), I4, J)))) else (if p3 < (I 3 10) then (pl (va_up I 3 (upd (I 3) 9 p2)) (fun I6 => pl (va_up I6 3 (upd (I6 3) 10 p3)) (fun I7 => some ((), I7, J)))) else (if ¬ p3 = (I 3 10) then (some ((), I, J)) else (if (I 3 9) ≤ p2 then (some ((), I, J)) else (pl (va_up I 3 (upd (I 3) 9 p2)) (fun I10 => pl (va_up I10 3 (upd (I10 3) 10 p3)) (fun I11 => some ((), I11, J)))))))) else (some ((), I, J))
theorem E_Translator_blame {p2 : Int32} {p3 : Int32} {X : MX} {I : MI} {J : MJ} {v : Unit} {I' : MI} {J' : MJ} (hb : f_Translator_blame p2 p3 I J = some (v, I', J')) (K : P (.inl (none)) (hX X I' J')) : am_E (gG L xs) d m_Translator_blame (0, lv_args 0 [.ref 3, .int p2, .int p3], []) (hX X I J) P := by
  unfold f_Translator_blame at hb
  refine e_k 1 (f' := (1, [(0, .ref 3), (1, .int p2), (2, .int p3)], [.ref 3])) rfl ?_
  refine r_geti rfl (x_ltn rfl) rfl rfl ?_
  refine e_k 1 (f' := (if (I 3 8) = 0 then 8 else 7, [(0, .ref 3), (1, .int p2), (2, .int p3)], [])) rfl ?_
  refine e_if (fun c1 => ?_) (fun c1 => ?_)
  · replace hb := i_pos c1 hb
    refine e_k 1 (f' := (9, [(0, .ref 3), (1, .int p2), (2, .int p3)], [.ref 3])) rfl ?_
    refine r_geti rfl (x_ltn rfl) rfl rfl ?_
    refine e_k 1 (f' := (if (I 3 9) = 0 then 39 else 15, [(0, .ref 3), (1, .int p2), (2, .int p3)], [])) rfl ?_
    refine e_if (fun c2 => ?_) (fun c2 => ?_)
    · replace hb := i_pos c2 hb
      refine e_k 2 (f' := (41, [(0, .ref 3), (1, .int p2), (2, .int p3)], [.int p2, .ref 3])) rfl ?_
      obtain ⟨I3, eI3, hb⟩ := p_nm hb
      refine r_puti' rfl (x_ltn rfl) rfl rfl eI3 ?_
      refine e_k 2 (f' := (46, [(0, .ref 3), (1, .int p2), (2, .int p3)], [.int p3, .ref 3])) rfl ?_
      obtain ⟨I4, eI4, hb⟩ := p_nm hb
      refine r_puti' rfl (x_ltn rfl) rfl rfl eI4 ?_
      obtain ⟨rfl, rfl, rfl⟩ := s_inj hb
      exact e_r rfl rfl K
    · replace hb := i_neg c2 hb
      refine e_k 2 (f' := (17, [(0, .ref 3), (1, .int p2), (2, .int p3)], [.ref 3, .int p3])) rfl ?_
      refine r_geti rfl (x_ltn rfl) rfl rfl ?_
      refine e_k 1 (f' := (if p3 < (I 3 10) then 39 else 23, [(0, .ref 3), (1, .int p2), (2, .int p3)], [])) rfl ?_
      refine e_if (fun c5 => ?_) (fun c5 => ?_)
      · replace hb := i_pos c5 hb
        refine e_k 2 (f' := (41, [(0, .ref 3), (1, .int p2), (2, .int p3)], [.int p2, .ref 3])) rfl ?_
        obtain ⟨I6, eI6, hb⟩ := p_nm hb
        refine r_puti' rfl (x_ltn rfl) rfl rfl eI6 ?_
        refine e_k 2 (f' := (46, [(0, .ref 3), (1, .int p2), (2, .int p3)], [.int p3, .ref 3])) rfl ?_
        obtain ⟨I7, eI7, hb⟩ := p_nm hb
        refine r_puti' rfl (x_ltn rfl) rfl rfl eI7 ?_
        obtain ⟨rfl, rfl, rfl⟩ := s_inj hb
        exact e_r rfl rfl K
      · replace hb := i_neg c5 hb
        refine e_k 2 (f' := (25, [(0, .ref 3), (1, .int p2), (2, .int p3)], [.ref 3, .int p3])) rfl ?_
        refine r_geti rfl (x_ltn rfl) rfl rfl ?_
        refine e_k 1 (f' := (if ¬ p3 = (I 3 10) then 49 else 31, [(0, .ref 3), (1, .int p2), (2, .int p3)], [])) rfl ?_
        refine e_if (fun c8 => ?_) (fun c8 => ?_)
        · replace hb := i_pos c8 hb
          obtain ⟨rfl, rfl, rfl⟩ := s_inj hb
          exact e_r rfl rfl K
        · replace hb := i_neg c8 hb
          refine e_k 2 (f' := (33, [(0, .ref 3), (1, .int p2), (2, .int p3)], [.ref 3, .int p2])) rfl ?_
          refine r_geti rfl (x_ltn rfl) rfl rfl ?_
          refine e_k 1 (f' := (if (I 3 9) ≤ p2 then 49 else 39, [(0, .ref 3), (1, .int p2), (2, .int p3)], [])) rfl ?_
          refine e_if (fun c9 => ?_) (fun c9 => ?_)
          · replace hb := i_pos c9 hb
            obtain ⟨rfl, rfl, rfl⟩ := s_inj hb
            exact e_r rfl rfl K
          · replace hb := i_neg c9 hb
            refine e_k 2 (f' := (41, [(0, .ref 3), (1, .int p2), (2, .int p3)], [.int p2, .ref 3])) rfl ?_
            obtain ⟨I10, eI10, hb⟩ := p_nm hb
            refine r_puti' rfl (x_ltn rfl) rfl rfl eI10 ?_
            refine e_k 2 (f' := (46, [(0, .ref 3), (1, .int p2), (2, .int p3)], [.int p3, .ref 3])) rfl ?_
            obtain ⟨I11, eI11, hb⟩ := p_nm hb
            refine r_puti' rfl (x_ltn rfl) rfl rfl eI11 ?_
            obtain ⟨rfl, rfl, rfl⟩ := s_inj hb
            exact e_r rfl rfl K
  · replace hb := i_neg c1 hb
    obtain ⟨rfl, rfl, rfl⟩ := s_inj hb
    exact e_r rfl rfl K
def f_Translator_emit (p2 : Int32) (p3 : Int32) (p4 : Int32) (p5 : Int32) (I : MI) (J : MJ) : M2 Unit := oc (f_Sh_lengthOf p2 I J) (fun v1 I1 J1 => oc (f_Row_add 6 7 2000 p2 I1 J1) (fun v2 I2 J2 => oc ((if v1 ≤ 1 then (some ((), I2, J2)) else (oc (f_Row_add 6 7 2000 p3 I2 J2) (fun v6 I6 J6 => some ((), I6, J6)))) : M2 (Unit)) (fun v4 I4 J4 => oc ((if v1 ≤ 2 then (some ((), I4, J4)) else (oc (f_Row_add 6 7 2000 p4 I4 J4) (fun v10 I10 J10 => some ((), I10, J10)))) : M2 (Unit)) (fun v8 I8 J8 => if v1 ≤ 3 then (some ((), I8, J8)) else (oc (f_Row_add 6 7 2000 p5 I8 J8) (fun v12 I12 J12 => some ((), I12, J12)))))))
theorem E_Translator_emit {p2 : Int32} {p3 : Int32} {p4 : Int32} {p5 : Int32} {X : MX} {I : MI} {J : MJ} {v : Unit} {I' : MI} {J' : MJ} (hb : f_Translator_emit p2 p3 p4 p5 I J = some (v, I', J')) (K : P (.inl (none)) (hX X I' J')) : am_E (gG L xs) (d + 1) m_Translator_emit (0, lv_args 0 [.ref 3, .int p2, .int p3, .int p4, .int p5], []) (hX X I J) P := by
  unfold f_Translator_emit at hb
  refine e_k 1 (f' := (1, [(0, .ref 3), (1, .int p2), (2, .int p3), (3, .int p4), (4, .int p5)], [.int p2])) rfl ?_
  obtain ⟨v1, I1, J1, h1, hb⟩ := oc_call hb
  refine r_cs (z := m_Sh_lengthOf) (As := [.int p2]) (rest := []) rfl rfl rfl rfl rfl rfl (E_Sh_lengthOf  h1 ⟨_, rfl, ?_⟩)
  refine e_k 2 (f' := (7, [(5, .int v1), (0, .ref 3), (1, .int p2), (2, .int p3), (3, .int p4), (4, .int p5)], [.ref 3])) rfl ?_
  refine r_getr rfl (x_ltn rfl) rfl rfl ?_
  refine e_k 1 (f' := (11, [(5, .int v1), (0, .ref 3), (1, .int p2), (2, .int p3), (3, .int p4), (4, .int p5)], [.int p2, .ref 6])) rfl ?_
  obtain ⟨v2, I2, J2, h2, hb⟩ := oc_call hb
  refine r_cv (z := m_Row_add) (As := [.int p2]) (rest := []) rfl rfl rfl rfl rfl (x_ltn rfl) rfl rfl (E_Row_add row_6 h2 ⟨_, rfl, ?_⟩)
  refine e_k 3 (f' := (if v1 ≤ 1 then 28 else 20, [(5, .int v1), (0, .ref 3), (1, .int p2), (2, .int p3), (3, .int p4), (4, .int p5)], [])) rfl ?_
  obtain ⟨v4, I4, J4, h4, hb⟩ := oc_call hb
  have Kj4 : am_E (gG L xs) (d + 1) m_Translator_emit (28, [(0, .ref 3), (3, .int p4), (4, .int p5), (5, .int v1)], []) (hX X I4 J4) P := by
    refine e_k 3 (f' := (if v1 ≤ 2 then 42 else 34, [(0, .ref 3), (3, .int p4), (4, .int p5), (5, .int v1)], [])) rfl ?_
    obtain ⟨v8, I8, J8, h8, hb⟩ := oc_call hb
    have Kj8 : am_E (gG L xs) (d + 1) m_Translator_emit (42, [(0, .ref 3), (4, .int p5), (5, .int v1)], []) (hX X I8 J8) P := by
      refine e_k 3 (f' := (if v1 ≤ 3 then 57 else 48, [(0, .ref 3), (4, .int p5), (5, .int v1)], [])) rfl ?_
      refine e_if (fun c11 => ?_) (fun c11 => ?_)
      · replace hb := i_pos c11 hb
        obtain ⟨rfl, rfl, rfl⟩ := s_inj hb
        exact e_r rfl rfl K
      · replace hb := i_neg c11 hb
        refine e_k 1 (f' := (49, [(0, .ref 3), (4, .int p5), (5, .int v1)], [.ref 3])) rfl ?_
        refine r_getr rfl (x_ltn rfl) rfl rfl ?_
        refine e_k 1 (f' := (54, [(0, .ref 3), (4, .int p5), (5, .int v1)], [.int p5, .ref 6])) rfl ?_
        obtain ⟨v12, I12, J12, h12, hb⟩ := oc_call hb
        refine r_cv (z := m_Row_add) (As := [.int p5]) (rest := []) rfl rfl rfl rfl rfl (x_ltn rfl) rfl rfl (E_Row_add row_6 h12 ⟨_, rfl, ?_⟩)
        obtain ⟨rfl, rfl, rfl⟩ := s_inj hb
        exact e_r rfl rfl K
    clear hb
    refine e_if (fun c9 => ?_) (fun c9 => ?_)
    · replace h8 := i_pos c9 h8
      refine e_sub (ls := [(0, .ref 3), (4, .int p5), (5, .int v1)]) rfl ⟨rfl, rfl, rfl, trivial⟩ ?_
      obtain ⟨rfl, rfl, rfl⟩ := s_inj h8
      exact Kj8
    · replace h8 := i_neg c9 h8
      refine e_k 1 (f' := (35, [(0, .ref 3), (3, .int p4), (4, .int p5), (5, .int v1)], [.ref 3])) rfl ?_
      refine r_getr rfl (x_ltn rfl) rfl rfl ?_
      refine e_k 1 (f' := (39, [(0, .ref 3), (3, .int p4), (4, .int p5), (5, .int v1)], [.int p4, .ref 6])) rfl ?_
      obtain ⟨v10, I10, J10, h10, h8⟩ := oc_call h8
      refine r_cv (z := m_Row_add) (As := [.int p4]) (rest := []) rfl rfl rfl rfl rfl (x_ltn rfl) rfl rfl (E_Row_add row_6 h10 ⟨_, rfl, ?_⟩)
      refine e_sub (ls := [(0, .ref 3), (4, .int p5), (5, .int v1)]) rfl ⟨rfl, rfl, rfl, trivial⟩ ?_
      obtain ⟨rfl, rfl, rfl⟩ := s_inj h8
      exact Kj8
  clear hb
  refine e_if (fun c5 => ?_) (fun c5 => ?_)
  · replace h4 := i_pos c5 h4
    refine e_sub (ls := [(0, .ref 3), (3, .int p4), (4, .int p5), (5, .int v1)]) rfl ⟨rfl, rfl, rfl, rfl, trivial⟩ ?_
    obtain ⟨rfl, rfl, rfl⟩ := s_inj h4
    exact Kj4
  · replace h4 := i_neg c5 h4
    refine e_k 1 (f' := (21, [(5, .int v1), (0, .ref 3), (1, .int p2), (2, .int p3), (3, .int p4), (4, .int p5)], [.ref 3])) rfl ?_
    refine r_getr rfl (x_ltn rfl) rfl rfl ?_
    refine e_k 1 (f' := (25, [(5, .int v1), (0, .ref 3), (1, .int p2), (2, .int p3), (3, .int p4), (4, .int p5)], [.int p3, .ref 6])) rfl ?_
    obtain ⟨v6, I6, J6, h6, h4⟩ := oc_call h4
    refine r_cv (z := m_Row_add) (As := [.int p3]) (rest := []) rfl rfl rfl rfl rfl (x_ltn rfl) rfl rfl (E_Row_add row_6 h6 ⟨_, rfl, ?_⟩)
    refine e_sub (ls := [(0, .ref 3), (3, .int p4), (4, .int p5), (5, .int v1)]) rfl ⟨rfl, rfl, rfl, rfl, trivial⟩ ?_
    obtain ⟨rfl, rfl, rfl⟩ := s_inj h4
    exact Kj4
def f_Translator_emitPlace (p2 : Int32) (p3 : Int32) (p4 : Int32) (I : MI) (J : MJ) : M2 Unit := if 4 ≤ p2 then (oc (f_Translator_emit p4 (p2 - 4) 0 0 I J) (fun v2 I2 J2 => some ((), I2, J2))) else (oc (f_Translator_emit p3 p2 0 0 I J) (fun v3 I3 J3 => some ((), I3, J3)))
theorem E_Translator_emitPlace {p2 : Int32} {p3 : Int32} {p4 : Int32} {X : MX} {I : MI} {J : MJ} {v : Unit} {I' : MI} {J' : MJ} (hb : f_Translator_emitPlace p2 p3 p4 I J = some (v, I', J')) (K : P (.inl (none)) (hX X I' J')) : am_E (gG L xs) (d + 2) m_Translator_emitPlace (0, lv_args 0 [.ref 3, .int p2, .int p3, .int p4], []) (hX X I J) P := by
  unfold f_Translator_emitPlace at hb
  refine e_k 3 (f' := (if 4 ≤ p2 then 16 else 5, [(0, .ref 3), (1, .int p2), (2, .int p3), (3, .int p4)], [])) rfl ?_
  refine e_if (fun c1 => ?_) (fun c1 => ?_)
  · replace hb := i_pos c1 hb
    refine e_k 7 (f' := (23, [(0, .ref 3), (1, .int p2), (2, .int p3), (3, .int p4)], [.int 0, .int 0, .int (p2 - 4), .int p4, .ref 3])) rfl ?_
    obtain ⟨v2, I2, J2, h2, hb⟩ := oc_call hb
    refine r_cv (z := m_Translator_emit) (As := [.int p4, .int (p2 - 4), .int 0, .int 0]) (rest := []) rfl rfl rfl rfl rfl (x_ltn rfl) rfl rfl (E_Translator_emit  h2 ⟨_, rfl, ?_⟩)
    obtain ⟨rfl, rfl, rfl⟩ := s_inj hb
    exact e_r rfl rfl K
  · replace hb := i_neg c1 hb
    refine e_k 5 (f' := (10, [(0, .ref 3), (1, .int p2), (2, .int p3), (3, .int p4)], [.int 0, .int 0, .int p2, .int p3, .ref 3])) rfl ?_
    obtain ⟨v3, I3, J3, h3, hb⟩ := oc_call hb
    refine r_cv (z := m_Translator_emit) (As := [.int p3, .int p2, .int 0, .int 0]) (rest := []) rfl rfl rfl rfl rfl (x_ltn rfl) rfl rfl (E_Translator_emit  h3 ⟨_, rfl, ?_⟩)
    refine e_k 1 (f' := (26, [(0, .ref 3), (1, .int p2), (2, .int p3), (3, .int p4)], [])) rfl ?_
    obtain ⟨rfl, rfl, rfl⟩ := s_inj hb
    exact e_r rfl rfl K
def f_Translator_isVariable (p1 : Int32) (I : MI) (J : MJ) : M2 Int32 := if p1 < 97 then (some (0, I, J)) else (if 122 < p1 then (some (0, I, J)) else (some (1, I, J)))
theorem E_Translator_isVariable {p1 : Int32} {X : MX} {I : MI} {J : MJ} {v : Int32} {I' : MI} {J' : MJ} (hb : f_Translator_isVariable p1 I J = some (v, I', J')) (K : P (.inl (some (.int v))) (hX X I' J')) : am_E (gG L xs) d m_Translator_isVariable (0, lv_args 0 [.int p1], []) (hX X I J) P := by
  unfold f_Translator_isVariable at hb
  refine e_k 3 (f' := (if p1 < 97 then 16 else 6, [(0, .int p1)], [])) rfl ?_
  refine e_if (fun c1 => ?_) (fun c1 => ?_)
  · replace hb := i_pos c1 hb
    refine e_k 1 (f' := (17, [(0, .int p1)], [.int 0])) rfl ?_
    obtain ⟨rfl, rfl, rfl⟩ := s_inj hb
    exact e_r rfl rfl K
  · replace hb := i_neg c1 hb
    refine e_k 3 (f' := (if 122 < p1 then 16 else 12, [(0, .int p1)], [])) rfl ?_
    refine e_if (fun c2 => ?_) (fun c2 => ?_)
    · replace hb := i_pos c2 hb
      refine e_k 1 (f' := (17, [(0, .int p1)], [.int 0])) rfl ?_
      obtain ⟨rfl, rfl, rfl⟩ := s_inj hb
      exact e_r rfl rfl K
    · replace hb := i_neg c2 hb
      refine e_k 2 (f' := (17, [(0, .int p1)], [.int 1])) rfl ?_
      obtain ⟨rfl, rfl, rfl⟩ := s_inj hb
      exact e_r rfl rfl K
def f_Translator_isArray (p1 : Int32) (I : MI) (J : MJ) : M2 Int32 := if p1 < 65 then (some (0, I, J)) else (if 72 < p1 then (some (0, I, J)) else (some (1, I, J)))
theorem E_Translator_isArray {p1 : Int32} {X : MX} {I : MI} {J : MJ} {v : Int32} {I' : MI} {J' : MJ} (hb : f_Translator_isArray p1 I J = some (v, I', J')) (K : P (.inl (some (.int v))) (hX X I' J')) : am_E (gG L xs) d m_Translator_isArray (0, lv_args 0 [.int p1], []) (hX X I J) P := by
  unfold f_Translator_isArray at hb
  refine e_k 3 (f' := (if p1 < 65 then 16 else 6, [(0, .int p1)], [])) rfl ?_
  refine e_if (fun c1 => ?_) (fun c1 => ?_)
  · replace hb := i_pos c1 hb
    refine e_k 1 (f' := (17, [(0, .int p1)], [.int 0])) rfl ?_
    obtain ⟨rfl, rfl, rfl⟩ := s_inj hb
    exact e_r rfl rfl K
  · replace hb := i_neg c1 hb
    refine e_k 3 (f' := (if 72 < p1 then 16 else 12, [(0, .int p1)], [])) rfl ?_
    refine e_if (fun c2 => ?_) (fun c2 => ?_)
    · replace hb := i_pos c2 hb
      refine e_k 1 (f' := (17, [(0, .int p1)], [.int 0])) rfl ?_
      obtain ⟨rfl, rfl, rfl⟩ := s_inj hb
      exact e_r rfl rfl K
    · replace hb := i_neg c2 hb
      refine e_k 2 (f' := (17, [(0, .int p1)], [.int 1])) rfl ?_
      obtain ⟨rfl, rfl, rfl⟩ := s_inj hb
      exact e_r rfl rfl K
def f_Translator_isDigit (p1 : Int32) (I : MI) (J : MJ) : M2 Int32 := if p1 < 48 then (some (0, I, J)) else (if 57 < p1 then (some (0, I, J)) else (some (1, I, J)))
theorem E_Translator_isDigit {p1 : Int32} {X : MX} {I : MI} {J : MJ} {v : Int32} {I' : MI} {J' : MJ} (hb : f_Translator_isDigit p1 I J = some (v, I', J')) (K : P (.inl (some (.int v))) (hX X I' J')) : am_E (gG L xs) d m_Translator_isDigit (0, lv_args 0 [.int p1], []) (hX X I J) P := by
  unfold f_Translator_isDigit at hb
  refine e_k 3 (f' := (if p1 < 48 then 16 else 6, [(0, .int p1)], [])) rfl ?_
  refine e_if (fun c1 => ?_) (fun c1 => ?_)
  · replace hb := i_pos c1 hb
    refine e_k 1 (f' := (17, [(0, .int p1)], [.int 0])) rfl ?_
    obtain ⟨rfl, rfl, rfl⟩ := s_inj hb
    exact e_r rfl rfl K
  · replace hb := i_neg c1 hb
    refine e_k 3 (f' := (if 57 < p1 then 16 else 12, [(0, .int p1)], [])) rfl ?_
    refine e_if (fun c2 => ?_) (fun c2 => ?_)
    · replace hb := i_pos c2 hb
      refine e_k 1 (f' := (17, [(0, .int p1)], [.int 0])) rfl ?_
      obtain ⟨rfl, rfl, rfl⟩ := s_inj hb
      exact e_r rfl rfl K
    · replace hb := i_neg c2 hb
      refine e_k 2 (f' := (17, [(0, .int p1)], [.int 1])) rfl ?_
      obtain ⟨rfl, rfl, rfl⟩ := s_inj hb
      exact e_r rfl rfl K
def f_Verifier_refuse (p2 : Int32) (p3 : Int32) (I : MI) (J : MJ) : M2 Unit := pl (va_up I 10 (upd (I 10) 5 p2)) (fun I1 => pl (va_up I1 10 (upd (I1 10) 6 p3)) (fun I2 => some ((), I2, J)))
theorem E_Verifier_refuse {p2 : Int32} {p3 : Int32} {X : MX} {I : MI} {J : MJ} {v : Unit} {I' : MI} {J' : MJ} (hb : f_Verifier_refuse p2 p3 I J = some (v, I', J')) (K : P (.inl (none)) (hX X I' J')) : am_E (gG L xs) d m_Verifier_refuse (0, lv_args 0 [.ref 10, .int p2, .int p3], []) (hX X I J) P := by
  unfold f_Verifier_refuse at hb
  refine e_k 2 (f' := (2, [(0, .ref 10), (1, .int p2), (2, .int p3)], [.int p2, .ref 10])) rfl ?_
  obtain ⟨I1, eI1, hb⟩ := p_nm hb
  refine r_puti' rfl (x_ltn rfl) rfl rfl eI1 ?_
  refine e_k 2 (f' := (7, [(0, .ref 10), (1, .int p2), (2, .int p3)], [.int p3, .ref 10])) rfl ?_
  obtain ⟨I2, eI2, hb⟩ := p_nm hb
  refine r_puti' rfl (x_ltn rfl) rfl rfl eI2 ?_
  obtain ⟨rfl, rfl, rfl⟩ := s_inj hb
  exact e_r rfl rfl K
def f_Verifier_namesWhatIs (r1 : Nat) (b1 : Nat) (m1 : Nat) (p2 : Int32) (p3 : Int32) (I : MI) (J : MJ) : M2 Int32 := oc (f_Row_at r1 b1 m1 (p2 + 1) I J) (fun v1 I1 J1 => oc (f_Row_at r1 b1 m1 (p2 + 2) I1 J1) (fun v2 I2 J2 => oc (f_Row_at r1 b1 m1 p2 I2 J2) (fun v3 I3 J3 => if v3 = 1 then (oc (f_Row_longAt r1 b1 m1 (p2 + 1) I3 J3) (fun v5 I5 J5 => if (lg_cmp v5 0) < 0 then (some (0, I5, J5)) else (if 0 ≤ (lg_cmp v5 2305843009213693951) then (some (0, I5, J5)) else (some (1, I5, J5))))) else (if v3 = 2 ∨ v3 = 3 ∨ v3 = 11 ∨ v3 = 12 ∨ v3 = 15 ∨ v3 = 16 ∨ v3 = 17 ∨ v3 = 27 then (if 13 ≤ v1 then (some (0, I3, J3)) else (some (1, I3, J3))) else (if v3 = 13 then (if 13 ≤ v1 then (some (0, I3, J3)) else (if p3 ≤ v2 then (some (0, I3, J3)) else (some (1, I3, J3)))) else (if v3 = 14 then (if 13 ≤ v1 then (some (0, I3, J3)) else (if 13 ≤ v2 then (some (0, I3, J3)) else (some (1, I3, J3)))) else (if v3 = 19 ∨ v3 = 20 ∨ v3 = 21 ∨ v3 = 22 then (if 4 ≤ v1 then (some (0, I3, J3)) else (some (1, I3, J3))) else (if v3 = 23 ∨ v3 = 24 ∨ v3 = 25 then (if 8 ≤ v1 then (some (0, I3, J3)) else (if 8 ≤ v2 then (some (0, I3, J3)) else (oc (f_Row_at r1 b1 m1 (p2 + 3) I3 J3) (fun v21 I21 J21 => if 8 ≤ v21 then (some (0, I21, J21)) else (some (1, I21, J21)))))) else (if v3 = 26 then (if 8 ≤ v1 then (some (0, I3, J3)) else (if 8 ≤ v2 then (some (0, I3, J3)) else (some (1, I3, J3)))) else (some (1, I3, J3)))))))))))
theorem E_Verifier_namesWhatIs {r1 : Nat} {b1 : Nat} {m1 : Nat} {p2 : Int32} {p3 : Int32} {X : MX} {I : MI} {J : MJ} {v : Int32} {I' : MI} {J' : MJ} (hR_r1 : isRw X r1 b1 m1) (hb : f_Verifier_namesWhatIs r1 b1 m1 p2 p3 I J = some (v, I', J')) (K : P (.inl (some (.int v))) (hX X I' J')) : am_E (gG L xs) (d + 2) m_Verifier_namesWhatIs (0, lv_args 0 [.ref r1, .int p2, .int p3], []) (hX X I J) P := by
  unfold f_Verifier_namesWhatIs at hb
  refine e_k 4 (f' := (4, [(0, .ref r1), (1, .int p2), (2, .int p3)], [.int (p2 + 1), .ref r1])) rfl ?_
  obtain ⟨v1, I1, J1, h1, hb⟩ := oc_call hb
  refine r_cv (z := m_Row_at) (As := [.int (p2 + 1)]) (rest := []) rfl rfl rfl rfl rfl hR_r1.1 hR_r1.2.1 rfl (E_Row_at hR_r1 h1 ⟨_, rfl, ?_⟩)
  refine e_k 5 (f' := (12, [(3, .int v1), (0, .ref r1), (1, .int p2), (2, .int p3)], [.int (p2 + 2), .ref r1])) rfl ?_
  obtain ⟨v2, I2, J2, h2, hb⟩ := oc_call hb
  refine r_cv (z := m_Row_at) (As := [.int (p2 + 2)]) (rest := []) rfl rfl rfl rfl rfl hR_r1.1 hR_r1.2.1 rfl (E_Row_at hR_r1 h2 ⟨_, rfl, ?_⟩)
  refine e_k 3 (f' := (19, [(4, .int v2), (3, .int v1), (0, .ref r1), (1, .int p2), (2, .int p3)], [.int p2, .ref r1])) rfl ?_
  obtain ⟨v3, I3, J3, h3, hb⟩ := oc_call hb
  refine r_cv (z := m_Row_at) (As := [.int p2]) (rest := []) rfl rfl rfl rfl rfl hR_r1.1 hR_r1.2.1 rfl (E_Row_at hR_r1 h3 ⟨_, rfl, ?_⟩)
  refine e_k 1 (f' := (am_sw v3 285 [(1, 144), (2, 175), (3, 175), (4, 285), (5, 285), (6, 285), (7, 285), (8, 285), (9, 285), (10, 285), (11, 175), (12, 175), (13, 187), (14, 205), (15, 175), (16, 175), (17, 175), (18, 285), (19, 224), (20, 224), (21, 224), (22, 224), (23, 235), (24, 235), (25, 235), (26, 266), (27, 175)], [(4, .int v2), (3, .int v1), (0, .ref r1), (1, .int p2), (2, .int p3)], [])) rfl ?_
  by_cases c4 : v3 = 1
  · rw [show am_sw v3 285 [(1, 144), (2, 175), (3, 175), (4, 285), (5, 285), (6, 285), (7, 285), (8, 285), (9, 285), (10, 285), (11, 175), (12, 175), (13, 187), (14, 205), (15, 175), (16, 175), (17, 175), (18, 285), (19, 224), (20, 224), (21, 224), (22, 224), (23, 235), (24, 235), (25, 235), (26, 266), (27, 175)] = 144 from by rw [c4]; rfl]
    replace hb := i_pos c4 hb
    refine e_k 4 (f' := (148, [(4, .int v2), (3, .int v1), (0, .ref r1), (1, .int p2), (2, .int p3)], [.int (p2 + 1), .ref r1])) rfl ?_
    obtain ⟨v5, I5, J5, h5, hb⟩ := oc_call hb
    refine r_cv (z := m_Row_longAt) (As := [.int (p2 + 1)]) (rest := []) rfl rfl rfl rfl rfl hR_r1.1 hR_r1.2.1 rfl (E_Row_longAt hR_r1 h5 ⟨_, rfl, ?_⟩)
    refine e_k 5 (f' := (if (lg_cmp v5 0) < 0 then 173 else 160, [(5, .long v5), (4, .int v2), (3, .int v1), (0, .ref r1), (1, .int p2), (2, .int p3)], [])) rfl ?_
    refine e_if (fun c6 => ?_) (fun c6 => ?_)
    · replace hb := i_pos c6 hb
      refine e_k 1 (f' := (174, [(5, .long v5), (4, .int v2), (3, .int v1), (0, .ref r1), (1, .int p2), (2, .int p3)], [.int 0])) rfl ?_
      obtain ⟨rfl, rfl, rfl⟩ := s_inj hb
      exact e_r rfl rfl K
    · replace hb := i_neg c6 hb
      refine e_k 4 (f' := (if 0 ≤ (lg_cmp v5 2305843009213693951) then 173 else 169, [(5, .long v5), (4, .int v2), (3, .int v1), (0, .ref r1), (1, .int p2), (2, .int p3)], [])) rfl ?_
      refine e_if (fun c7 => ?_) (fun c7 => ?_)
      · replace hb := i_pos c7 hb
        refine e_k 1 (f' := (174, [(5, .long v5), (4, .int v2), (3, .int v1), (0, .ref r1), (1, .int p2), (2, .int p3)], [.int 0])) rfl ?_
        obtain ⟨rfl, rfl, rfl⟩ := s_inj hb
        exact e_r rfl rfl K
      · replace hb := i_neg c7 hb
        refine e_k 2 (f' := (174, [(5, .long v5), (4, .int v2), (3, .int v1), (0, .ref r1), (1, .int p2), (2, .int p3)], [.int 1])) rfl ?_
        obtain ⟨rfl, rfl, rfl⟩ := s_inj hb
        exact e_r rfl rfl K
  replace hb := i_neg c4 hb
  by_cases c8 : v3 = 2 ∨ v3 = 3 ∨ v3 = 11 ∨ v3 = 12 ∨ v3 = 15 ∨ v3 = 16 ∨ v3 = 17 ∨ v3 = 27
  · rw [show am_sw v3 285 [(1, 144), (2, 175), (3, 175), (4, 285), (5, 285), (6, 285), (7, 285), (8, 285), (9, 285), (10, 285), (11, 175), (12, 175), (13, 187), (14, 205), (15, 175), (16, 175), (17, 175), (18, 285), (19, 224), (20, 224), (21, 224), (22, 224), (23, 235), (24, 235), (25, 235), (26, 266), (27, 175)] = 175 from by rcases c8 with c8 | c8 | c8 | c8 | c8 | c8 | c8 | c8 <;> rw [c8] <;> rfl]
    replace hb := i_pos c8 hb
    refine e_k 3 (f' := (if 13 ≤ v1 then 185 else 181, [(4, .int v2), (3, .int v1), (0, .ref r1), (1, .int p2), (2, .int p3)], [])) rfl ?_
    refine e_if (fun c9 => ?_) (fun c9 => ?_)
    · replace hb := i_pos c9 hb
      refine e_k 1 (f' := (186, [(4, .int v2), (3, .int v1), (0, .ref r1), (1, .int p2), (2, .int p3)], [.int 0])) rfl ?_
      obtain ⟨rfl, rfl, rfl⟩ := s_inj hb
      exact e_r rfl rfl K
    · replace hb := i_neg c9 hb
      refine e_k 2 (f' := (186, [(4, .int v2), (3, .int v1), (0, .ref r1), (1, .int p2), (2, .int p3)], [.int 1])) rfl ?_
      obtain ⟨rfl, rfl, rfl⟩ := s_inj hb
      exact e_r rfl rfl K
  replace hb := i_neg c8 hb
  by_cases c10 : v3 = 13
  · rw [show am_sw v3 285 [(1, 144), (2, 175), (3, 175), (4, 285), (5, 285), (6, 285), (7, 285), (8, 285), (9, 285), (10, 285), (11, 175), (12, 175), (13, 187), (14, 205), (15, 175), (16, 175), (17, 175), (18, 285), (19, 224), (20, 224), (21, 224), (22, 224), (23, 235), (24, 235), (25, 235), (26, 266), (27, 175)] = 187 from by rw [c10]; rfl]
    replace hb := i_pos c10 hb
    refine e_k 3 (f' := (if 13 ≤ v1 then 203 else 193, [(4, .int v2), (3, .int v1), (0, .ref r1), (1, .int p2), (2, .int p3)], [])) rfl ?_
    refine e_if (fun c11 => ?_) (fun c11 => ?_)
    · replace hb := i_pos c11 hb
      refine e_k 1 (f' := (204, [(4, .int v2), (3, .int v1), (0, .ref r1), (1, .int p2), (2, .int p3)], [.int 0])) rfl ?_
      obtain ⟨rfl, rfl, rfl⟩ := s_inj hb
      exact e_r rfl rfl K
    · replace hb := i_neg c11 hb
      refine e_k 3 (f' := (if p3 ≤ v2 then 203 else 199, [(4, .int v2), (3, .int v1), (0, .ref r1), (1, .int p2), (2, .int p3)], [])) rfl ?_
      refine e_if (fun c12 => ?_) (fun c12 => ?_)
      · replace hb := i_pos c12 hb
        refine e_k 1 (f' := (204, [(4, .int v2), (3, .int v1), (0, .ref r1), (1, .int p2), (2, .int p3)], [.int 0])) rfl ?_
        obtain ⟨rfl, rfl, rfl⟩ := s_inj hb
        exact e_r rfl rfl K
      · replace hb := i_neg c12 hb
        refine e_k 2 (f' := (204, [(4, .int v2), (3, .int v1), (0, .ref r1), (1, .int p2), (2, .int p3)], [.int 1])) rfl ?_
        obtain ⟨rfl, rfl, rfl⟩ := s_inj hb
        exact e_r rfl rfl K
  replace hb := i_neg c10 hb
  by_cases c13 : v3 = 14
  · rw [show am_sw v3 285 [(1, 144), (2, 175), (3, 175), (4, 285), (5, 285), (6, 285), (7, 285), (8, 285), (9, 285), (10, 285), (11, 175), (12, 175), (13, 187), (14, 205), (15, 175), (16, 175), (17, 175), (18, 285), (19, 224), (20, 224), (21, 224), (22, 224), (23, 235), (24, 235), (25, 235), (26, 266), (27, 175)] = 205 from by rw [c13]; rfl]
    replace hb := i_pos c13 hb
    refine e_k 3 (f' := (if 13 ≤ v1 then 222 else 211, [(4, .int v2), (3, .int v1), (0, .ref r1), (1, .int p2), (2, .int p3)], [])) rfl ?_
    refine e_if (fun c14 => ?_) (fun c14 => ?_)
    · replace hb := i_pos c14 hb
      refine e_k 1 (f' := (223, [(4, .int v2), (3, .int v1), (0, .ref r1), (1, .int p2), (2, .int p3)], [.int 0])) rfl ?_
      obtain ⟨rfl, rfl, rfl⟩ := s_inj hb
      exact e_r rfl rfl K
    · replace hb := i_neg c14 hb
      refine e_k 3 (f' := (if 13 ≤ v2 then 222 else 218, [(4, .int v2), (3, .int v1), (0, .ref r1), (1, .int p2), (2, .int p3)], [])) rfl ?_
      refine e_if (fun c15 => ?_) (fun c15 => ?_)
      · replace hb := i_pos c15 hb
        refine e_k 1 (f' := (223, [(4, .int v2), (3, .int v1), (0, .ref r1), (1, .int p2), (2, .int p3)], [.int 0])) rfl ?_
        obtain ⟨rfl, rfl, rfl⟩ := s_inj hb
        exact e_r rfl rfl K
      · replace hb := i_neg c15 hb
        refine e_k 2 (f' := (223, [(4, .int v2), (3, .int v1), (0, .ref r1), (1, .int p2), (2, .int p3)], [.int 1])) rfl ?_
        obtain ⟨rfl, rfl, rfl⟩ := s_inj hb
        exact e_r rfl rfl K
  replace hb := i_neg c13 hb
  by_cases c16 : v3 = 19 ∨ v3 = 20 ∨ v3 = 21 ∨ v3 = 22
  · rw [show am_sw v3 285 [(1, 144), (2, 175), (3, 175), (4, 285), (5, 285), (6, 285), (7, 285), (8, 285), (9, 285), (10, 285), (11, 175), (12, 175), (13, 187), (14, 205), (15, 175), (16, 175), (17, 175), (18, 285), (19, 224), (20, 224), (21, 224), (22, 224), (23, 235), (24, 235), (25, 235), (26, 266), (27, 175)] = 224 from by rcases c16 with c16 | c16 | c16 | c16 <;> rw [c16] <;> rfl]
    replace hb := i_pos c16 hb
    refine e_k 3 (f' := (if 4 ≤ v1 then 233 else 229, [(4, .int v2), (3, .int v1), (0, .ref r1), (1, .int p2), (2, .int p3)], [])) rfl ?_
    refine e_if (fun c17 => ?_) (fun c17 => ?_)
    · replace hb := i_pos c17 hb
      refine e_k 1 (f' := (234, [(4, .int v2), (3, .int v1), (0, .ref r1), (1, .int p2), (2, .int p3)], [.int 0])) rfl ?_
      obtain ⟨rfl, rfl, rfl⟩ := s_inj hb
      exact e_r rfl rfl K
    · replace hb := i_neg c17 hb
      refine e_k 2 (f' := (234, [(4, .int v2), (3, .int v1), (0, .ref r1), (1, .int p2), (2, .int p3)], [.int 1])) rfl ?_
      obtain ⟨rfl, rfl, rfl⟩ := s_inj hb
      exact e_r rfl rfl K
  replace hb := i_neg c16 hb
  by_cases c18 : v3 = 23 ∨ v3 = 24 ∨ v3 = 25
  · rw [show am_sw v3 285 [(1, 144), (2, 175), (3, 175), (4, 285), (5, 285), (6, 285), (7, 285), (8, 285), (9, 285), (10, 285), (11, 175), (12, 175), (13, 187), (14, 205), (15, 175), (16, 175), (17, 175), (18, 285), (19, 224), (20, 224), (21, 224), (22, 224), (23, 235), (24, 235), (25, 235), (26, 266), (27, 175)] = 235 from by rcases c18 with c18 | c18 | c18 <;> rw [c18] <;> rfl]
    replace hb := i_pos c18 hb
    refine e_k 3 (f' := (if 8 ≤ v1 then 264 else 241, [(4, .int v2), (3, .int v1), (0, .ref r1), (1, .int p2), (2, .int p3)], [])) rfl ?_
    refine e_if (fun c19 => ?_) (fun c19 => ?_)
    · replace hb := i_pos c19 hb
      refine e_k 1 (f' := (265, [(4, .int v2), (3, .int v1), (0, .ref r1), (1, .int p2), (2, .int p3)], [.int 0])) rfl ?_
      obtain ⟨rfl, rfl, rfl⟩ := s_inj hb
      exact e_r rfl rfl K
    · replace hb := i_neg c19 hb
      refine e_k 3 (f' := (if 8 ≤ v2 then 264 else 248, [(4, .int v2), (3, .int v1), (0, .ref r1), (1, .int p2), (2, .int p3)], [])) rfl ?_
      refine e_if (fun c20 => ?_) (fun c20 => ?_)
      · replace hb := i_pos c20 hb
        refine e_k 1 (f' := (265, [(4, .int v2), (3, .int v1), (0, .ref r1), (1, .int p2), (2, .int p3)], [.int 0])) rfl ?_
        obtain ⟨rfl, rfl, rfl⟩ := s_inj hb
        exact e_r rfl rfl K
      · replace hb := i_neg c20 hb
        refine e_k 4 (f' := (252, [(4, .int v2), (3, .int v1), (0, .ref r1), (1, .int p2), (2, .int p3)], [.int (p2 + 3), .ref r1])) rfl ?_
        obtain ⟨v21, I21, J21, h21, hb⟩ := oc_call hb
        refine r_cv (z := m_Row_at) (As := [.int (p2 + 3)]) (rest := []) rfl rfl rfl rfl rfl hR_r1.1 hR_r1.2.1 rfl (E_Row_at hR_r1 h21 ⟨_, rfl, ?_⟩)
        refine e_k 2 (f' := (if 8 ≤ v21 then 264 else 260, [(4, .int v2), (3, .int v1), (0, .ref r1), (1, .int p2), (2, .int p3)], [])) rfl ?_
        refine e_if (fun c22 => ?_) (fun c22 => ?_)
        · replace hb := i_pos c22 hb
          refine e_k 1 (f' := (265, [(4, .int v2), (3, .int v1), (0, .ref r1), (1, .int p2), (2, .int p3)], [.int 0])) rfl ?_
          obtain ⟨rfl, rfl, rfl⟩ := s_inj hb
          exact e_r rfl rfl K
        · replace hb := i_neg c22 hb
          refine e_k 2 (f' := (265, [(4, .int v2), (3, .int v1), (0, .ref r1), (1, .int p2), (2, .int p3)], [.int 1])) rfl ?_
          obtain ⟨rfl, rfl, rfl⟩ := s_inj hb
          exact e_r rfl rfl K
  replace hb := i_neg c18 hb
  by_cases c23 : v3 = 26
  · rw [show am_sw v3 285 [(1, 144), (2, 175), (3, 175), (4, 285), (5, 285), (6, 285), (7, 285), (8, 285), (9, 285), (10, 285), (11, 175), (12, 175), (13, 187), (14, 205), (15, 175), (16, 175), (17, 175), (18, 285), (19, 224), (20, 224), (21, 224), (22, 224), (23, 235), (24, 235), (25, 235), (26, 266), (27, 175)] = 266 from by rw [c23]; rfl]
    replace hb := i_pos c23 hb
    refine e_k 3 (f' := (if 8 ≤ v1 then 283 else 272, [(4, .int v2), (3, .int v1), (0, .ref r1), (1, .int p2), (2, .int p3)], [])) rfl ?_
    refine e_if (fun c24 => ?_) (fun c24 => ?_)
    · replace hb := i_pos c24 hb
      refine e_k 1 (f' := (284, [(4, .int v2), (3, .int v1), (0, .ref r1), (1, .int p2), (2, .int p3)], [.int 0])) rfl ?_
      obtain ⟨rfl, rfl, rfl⟩ := s_inj hb
      exact e_r rfl rfl K
    · replace hb := i_neg c24 hb
      refine e_k 3 (f' := (if 8 ≤ v2 then 283 else 279, [(4, .int v2), (3, .int v1), (0, .ref r1), (1, .int p2), (2, .int p3)], [])) rfl ?_
      refine e_if (fun c25 => ?_) (fun c25 => ?_)
      · replace hb := i_pos c25 hb
        refine e_k 1 (f' := (284, [(4, .int v2), (3, .int v1), (0, .ref r1), (1, .int p2), (2, .int p3)], [.int 0])) rfl ?_
        obtain ⟨rfl, rfl, rfl⟩ := s_inj hb
        exact e_r rfl rfl K
      · replace hb := i_neg c25 hb
        refine e_k 2 (f' := (284, [(4, .int v2), (3, .int v1), (0, .ref r1), (1, .int p2), (2, .int p3)], [.int 1])) rfl ?_
        obtain ⟨rfl, rfl, rfl⟩ := s_inj hb
        exact e_r rfl rfl K
  replace hb := i_neg c23 hb
  rw [show am_sw v3 285 [(1, 144), (2, 175), (3, 175), (4, 285), (5, 285), (6, 285), (7, 285), (8, 285), (9, 285), (10, 285), (11, 175), (12, 175), (13, 187), (14, 205), (15, 175), (16, 175), (17, 175), (18, 285), (19, 224), (20, 224), (21, 224), (22, 224), (23, 235), (24, 235), (25, 235), (26, 266), (27, 175)] = 285 from (am_swd c4 (am_swd (fun e => c8 (Or.inl e)) (am_swd (fun e => c8 (Or.inr (Or.inl e))) (am_swe (am_swe (am_swe (am_swe (am_swe (am_swe (am_swe (am_swd (fun e => c8 (Or.inr (Or.inr (Or.inl e)))) (am_swd (fun e => c8 (Or.inr (Or.inr (Or.inr (Or.inl e))))) (am_swd c10 (am_swd c13 (am_swd (fun e => c8 (Or.inr (Or.inr (Or.inr (Or.inr (Or.inl e)))))) (am_swd (fun e => c8 (Or.inr (Or.inr (Or.inr (Or.inr (Or.inr (Or.inl e))))))) (am_swd (fun e => c8 (Or.inr (Or.inr (Or.inr (Or.inr (Or.inr (Or.inr (Or.inl e)))))))) (am_swe (am_swd (fun e => c16 (Or.inl e)) (am_swd (fun e => c16 (Or.inr (Or.inl e))) (am_swd (fun e => c16 (Or.inr (Or.inr (Or.inl e)))) (am_swd (fun e => c16 (Or.inr (Or.inr (Or.inr e)))) (am_swd (fun e => c18 (Or.inl e)) (am_swd (fun e => c18 (Or.inr (Or.inl e))) (am_swd (fun e => c18 (Or.inr (Or.inr e))) (am_swd c23 (am_swd (fun e => c8 (Or.inr (Or.inr (Or.inr (Or.inr (Or.inr (Or.inr (Or.inr e)))))))) rfl)))))))))))))))))))))))))))]
  refine e_k 1 (f' := (286, [(4, .int v2), (3, .int v1), (0, .ref r1), (1, .int p2), (2, .int p3)], [.int 1])) rfl ?_
  obtain ⟨rfl, rfl, rfl⟩ := s_inj hb
  exact e_r rfl rfl K
end AUTO
