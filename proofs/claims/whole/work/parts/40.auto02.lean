section AUTO
variable {L : Nat} {xs : Nat → Int32} {d : Nat} {P : am_R → am_H → Prop}
def f_Model_readProduct_14 (R : M3) : Nat → Int32 → MI → MJ → M2 (Int32 ⊕ (Int32))
  | 0, _, _, _ => none
  | fu + 1, l1, I, J => oc (f_Model_takes 42 I J) (fun v4 I4 J4 => if v4 = 0 then (some (.inr l1, I4, J4)) else (oc (R 2 0 0 I4 J4) (fun v6 I6 J6 => if ¬ v6 = 0 then (pl ((if l1 = 0 then (6) else (if (I6 112 73) = 0 then (6) else (7))) : Int32) (fun v9 => oc (f_Model_lay_IV v9 I6 J6) (fun v12 I12 J12 => if ¬ l1 = 0 then (f_Model_readProduct_14 R  fu 1 I12 J12) else (if (I12 112 73) = 0 then (f_Model_readProduct_14 R  fu 0 I12 J12) else (f_Model_readProduct_14 R  fu 1 I12 J12))))) else (some (.inl 0, I6, J6)))))
theorem E_Model_readProduct_14 {R : M3} {X : MX} (hR_0 : ∀ {I : MI} {J : MJ} {v : Int32} {I' : MI} {J' : MJ} {P : am_R → am_H → Prop}, R 0 0 0 I J = some (v, I', J') → P (.inl (some (.int v))) (hX X I' J') → am_E (gG L xs) (d + 1) m_Model_readX (0, lv_args 0 [.ref 112], []) (hX X I J) P) (hR_1 : ∀ {I : MI} {J : MJ} {v : Int32} {I' : MI} {J' : MJ} {P : am_R → am_H → Prop}, R 1 0 0 I J = some (v, I', J') → P (.inl (some (.int v))) (hX X I' J') → am_E (gG L xs) (d + 1) m_Model_readProduct (0, lv_args 0 [.ref 112], []) (hX X I J) P) (hR_2 : ∀ {I : MI} {J : MJ} {v : Int32} {I' : MI} {J' : MJ} {P : am_R → am_H → Prop}, R 2 0 0 I J = some (v, I', J') → P (.inl (some (.int v))) (hX X I' J') → am_E (gG L xs) (d + 1) m_Model_readFactor (0, lv_args 0 [.ref 112], []) (hX X I J) P) (hR_3 : ∀ {I : MI} {J : MJ} {v : Int32} {I' : MI} {J' : MJ} {P : am_R → am_H → Prop}, R 3 0 0 I J = some (v, I', J') → P (.inl (some (.int v))) (hX X I' J') → am_E (gG L xs) (d + 1) m_Model_readPart (0, lv_args 0 [.ref 112], []) (hX X I J) P) (hR_4 : ∀ {I : MI} {J : MJ} {v : Int32} {I' : MI} {J' : MJ} {P : am_R → am_H → Prop}, R 4 0 0 I J = some (v, I', J') → P (.inl (some (.int v))) (hX X I' J') → am_E (gG L xs) (d + 1) m_Model_readPlace (0, lv_args 0 [.ref 112], []) (hX X I J) P) (hR_5 : ∀ {I : MI} {J : MJ} {v : Int32} {I' : MI} {J' : MJ} {P : am_R → am_H → Prop}, R 5 0 0 I J = some (v, I', J') → P (.inl (some (.int v))) (hX X I' J') → am_E (gG L xs) (d + 1) m_Model_readStatements (0, lv_args 0 [.ref 112], []) (hX X I J) P) (hR_6 : ∀ {I : MI} {J : MJ} {v : Int32} {I' : MI} {J' : MJ} {P : am_R → am_H → Prop}, R 6 0 0 I J = some (v, I', J') → P (.inl (some (.int v))) (hX X I' J') → am_E (gG L xs) (d + 1) m_Model_readStatement (0, lv_args 0 [.ref 112], []) (hX X I J) P) (hR_7 : ∀ {I : MI} {J : MJ} {v : Int32} {I' : MI} {J' : MJ} {P : am_R → am_H → Prop}, R 7 0 0 I J = some (v, I', J') → P (.inl (some (.int v))) (hX X I' J') → am_E (gG L xs) (d + 1) m_Model_readRoutine (0, lv_args 0 [.ref 112], []) (hX X I J) P) (hR_8 : ∀ {a0 : Int32} {a1 : Int32} {I : MI} {J : MJ} {v : Int32} {I' : MI} {J' : MJ} {P : am_R → am_H → Prop}, R 8 a0 a1 I J = some (v, I', J') → P (.inl (some (.int v))) (hX X I' J') → am_E (gG L xs) (d + 1) m_Model_readValue (0, lv_args 0 [.ref 112, .int a0, .int a1], []) (hX X I J) P) (hR_9 : ∀ {a0 : Int32} {I : MI} {J : MJ} {v : Int32} {I' : MI} {J' : MJ} {P : am_R → am_H → Prop}, R 9 a0 0 I J = some (v, I', J') → P (.inl (some (.int v))) (hX X I' J') → am_E (gG L xs) (d + 1) m_Model_readRow (0, lv_args 0 [.ref 112, .int a0], []) (hX X I J) P) (hR_10 : ∀ {a0 : Int32} {I : MI} {J : MJ} {v : Int32} {I' : MI} {J' : MJ} {P : am_R → am_H → Prop}, R 10 a0 0 I J = some (v, I', J') → P (.inl (some (.int v))) (hX X I' J') → am_E (gG L xs) (d + 1) m_Model_readTurn (0, lv_args 0 [.ref 112, .int a0], []) (hX X I J) P) : ∀ (fu : Nat) {l1 : Int32} {I : MI} {J : MJ} {r : (Int32 ⊕ (Int32))} {I' : MI} {J' : MJ}, f_Model_readProduct_14 R  fu l1 I J = some (r, I', J') → (∀ v, r = .inl v → P (.inl (some (.int v))) (hX X I' J')) → (∀ u, r = .inr u → am_E (gG L xs) (d + 2) m_Model_readProduct (74, [(0, .ref 112), (1, .int u)], []) (hX X I' J') P) → am_E (gG L xs) (d + 2) m_Model_readProduct (14, [(0, .ref 112), (1, .int l1)], []) (hX X I J) P := by
  intro fu
  induction fu with
  | zero =>
    intros
    rename_i hb _ _
    cases hb
  | succ fu ih =>
    intro l1 I J r I' J' hb K1 K2
    unfold f_Model_readProduct_14 at hb
    refine e_k 2 (f' := (17, [(0, .ref 112), (1, .int l1)], [.int 42, .ref 112])) rfl ?_
    obtain ⟨v4, I4, J4, h4, hb⟩ := oc_call hb
    refine r_cv (z := m_Model_takes) (As := [.int 42]) (rest := []) rfl rfl rfl rfl rfl (x_ltn rfl) rfl rfl (E_Model_takes  h4 ⟨_, rfl, ?_⟩)
    refine e_k 1 (f' := (if v4 = 0 then 74 else 23, [(0, .ref 112), (1, .int l1)], [])) rfl ?_
    refine e_if (fun c5 => ?_) (fun c5 => ?_)
    · replace hb := i_pos c5 hb
      refine e_sub (ls := [(0, .ref 112), (1, .int l1)]) rfl ⟨rfl, rfl, trivial⟩ ?_
      obtain ⟨rfl, rfl, rfl⟩ := s_inj hb
      exact K2 _ rfl
    · replace hb := i_neg c5 hb
      refine e_k 1 (f' := (24, [(0, .ref 112), (1, .int l1)], [.ref 112])) rfl ?_
      obtain ⟨v6, I6, J6, h6, hb⟩ := oc_call hb
      refine r_cv (z := m_Model_readFactor) (As := []) (rest := []) rfl rfl rfl rfl rfl (x_ltn rfl) rfl rfl (hR_2  h6 ⟨_, rfl, ?_⟩)
      refine e_k 1 (f' := (if ¬ v6 = 0 then 32 else 30, [(0, .ref 112), (1, .int l1)], [])) rfl ?_
      refine e_if (fun c7 => ?_) (fun c7 => ?_)
      · replace hb := i_pos c7 hb
        refine e_k 3 (f' := (if l1 = 0 then 49 else 37, [(0, .ref 112), (1, .int l1)], [.ref 112])) rfl ?_
        obtain ⟨v9, h9, hb⟩ := p_nn hb
        have Kj9 : am_E (gG L xs) (d + 2) m_Model_readProduct (51, [(0, .ref 112), (1, .int l1)], [.int v9, .ref 112]) (hX X I6 J6) P := by
          obtain ⟨v12, I12, J12, h12, hb⟩ := oc_call hb
          refine r_cv (z := m_Model_lay_IV) (As := [.int v9]) (rest := []) rfl rfl rfl rfl rfl (x_ltn rfl) rfl rfl (E_Model_lay_IV  h12 ⟨_, rfl, ?_⟩)
          refine e_k 2 (f' := (if ¬ l1 = 0 then 65 else 58, [(0, .ref 112), (1, .int l1)], [])) rfl ?_
          refine e_if (fun c13 => ?_) (fun c13 => ?_)
          · replace hb := i_pos c13 hb
            refine e_k 4 (f' := (14, [(1, .int 1), (0, .ref 112)], [])) rfl ?_
            refine e_sub (ls := [(0, .ref 112), (1, .int 1)]) rfl ⟨rfl, rfl, trivial⟩ ?_
            exact ih  hb K1 K2
          · replace hb := i_neg c13 hb
            refine e_k 1 (f' := (59, [(0, .ref 112), (1, .int l1)], [.ref 112])) rfl ?_
            refine r_geti rfl (x_ltn rfl) rfl rfl ?_
            refine e_k 1 (f' := (if (I12 112 73) = 0 then 69 else 65, [(0, .ref 112), (1, .int l1)], [])) rfl ?_
            refine e_if (fun c14 => ?_) (fun c14 => ?_)
            · replace hb := i_pos c14 hb
              refine e_k 3 (f' := (14, [(1, .int 0), (0, .ref 112)], [])) rfl ?_
              refine e_sub (ls := [(0, .ref 112), (1, .int 0)]) rfl ⟨rfl, rfl, trivial⟩ ?_
              exact ih  hb K1 K2
            · replace hb := i_neg c14 hb
              refine e_k 4 (f' := (14, [(1, .int 1), (0, .ref 112)], [])) rfl ?_
              refine e_sub (ls := [(0, .ref 112), (1, .int 1)]) rfl ⟨rfl, rfl, trivial⟩ ?_
              exact ih  hb K1 K2
        clear hb
        refine e_if (fun c10 => ?_) (fun c10 => ?_)
        · replace h9 := i_pos c10 h9
          refine e_k 1 (f' := (51, [(0, .ref 112), (1, .int l1)], [.int 6, .ref 112])) rfl ?_
          refine e_sub (ls := [(0, .ref 112), (1, .int l1)]) rfl ⟨rfl, rfl, trivial⟩ ?_
          subst h9
          exact Kj9
        · replace h9 := i_neg c10 h9
          refine e_k 1 (f' := (38, [(0, .ref 112), (1, .int l1)], [.ref 112, .ref 112])) rfl ?_
          refine r_geti rfl (x_ltn rfl) rfl rfl ?_
          refine e_k 1 (f' := (if (I6 112 73) = 0 then 49 else 44, [(0, .ref 112), (1, .int l1)], [.ref 112])) rfl ?_
          refine e_if (fun c11 => ?_) (fun c11 => ?_)
          · replace h9 := i_pos c11 h9
            refine e_k 1 (f' := (51, [(0, .ref 112), (1, .int l1)], [.int 6, .ref 112])) rfl ?_
            refine e_sub (ls := [(0, .ref 112), (1, .int l1)]) rfl ⟨rfl, rfl, trivial⟩ ?_
            subst h9
            exact Kj9
          · replace h9 := i_neg c11 h9
            refine e_k 2 (f' := (51, [(0, .ref 112), (1, .int l1)], [.int 7, .ref 112])) rfl ?_
            refine e_sub (ls := [(0, .ref 112), (1, .int l1)]) rfl ⟨rfl, rfl, trivial⟩ ?_
            subst h9
            exact Kj9
      · replace hb := i_neg c7 hb
        refine e_k 1 (f' := (31, [(0, .ref 112), (1, .int l1)], [.int 0])) rfl ?_
        obtain ⟨rfl, rfl, rfl⟩ := s_inj hb
        exact e_r rfl rfl (K1 _ rfl)
def f_Model_readProduct (R : M3) (I : MI) (J : MJ) : M2 Int32 := oc (R 2 0 0 I J) (fun v1 I1 J1 => if ¬ v1 = 0 then (pl (I1 112 73 : Int32) (fun x3 => oc (f_Model_readProduct_14 R  gF x3 I1 J1) (fun q15 I15 J15 => oe q15 (fun y15 => some (y15, I15, J15)) (fun u15 => if u15 = 0 ∨ u15 = 1 then (pl (va_up I15 112 (upd (I15 112) 73 u15)) (fun I16 => some (1, I16, J15))) else none)))) else (some (0, I1, J1)))
theorem E_Model_readProduct {R : M3} {X : MX} {I : MI} {J : MJ} {v : Int32} {I' : MI} {J' : MJ} (hR_0 : ∀ {I : MI} {J : MJ} {v : Int32} {I' : MI} {J' : MJ} {P : am_R → am_H → Prop}, R 0 0 0 I J = some (v, I', J') → P (.inl (some (.int v))) (hX X I' J') → am_E (gG L xs) (d + 1) m_Model_readX (0, lv_args 0 [.ref 112], []) (hX X I J) P) (hR_1 : ∀ {I : MI} {J : MJ} {v : Int32} {I' : MI} {J' : MJ} {P : am_R → am_H → Prop}, R 1 0 0 I J = some (v, I', J') → P (.inl (some (.int v))) (hX X I' J') → am_E (gG L xs) (d + 1) m_Model_readProduct (0, lv_args 0 [.ref 112], []) (hX X I J) P) (hR_2 : ∀ {I : MI} {J : MJ} {v : Int32} {I' : MI} {J' : MJ} {P : am_R → am_H → Prop}, R 2 0 0 I J = some (v, I', J') → P (.inl (some (.int v))) (hX X I' J') → am_E (gG L xs) (d + 1) m_Model_readFactor (0, lv_args 0 [.ref 112], []) (hX X I J) P) (hR_3 : ∀ {I : MI} {J : MJ} {v : Int32} {I' : MI} {J' : MJ} {P : am_R → am_H → Prop}, R 3 0 0 I J = some (v, I', J') → P (.inl (some (.int v))) (hX X I' J') → am_E (gG L xs) (d + 1) m_Model_readPart (0, lv_args 0 [.ref 112], []) (hX X I J) P) (hR_4 : ∀ {I : MI} {J : MJ} {v : Int32} {I' : MI} {J' : MJ} {P : am_R → am_H → Prop}, R 4 0 0 I J = some (v, I', J') → P (.inl (some (.int v))) (hX X I' J') → am_E (gG L xs) (d + 1) m_Model_readPlace (0, lv_args 0 [.ref 112], []) (hX X I J) P) (hR_5 : ∀ {I : MI} {J : MJ} {v : Int32} {I' : MI} {J' : MJ} {P : am_R → am_H → Prop}, R 5 0 0 I J = some (v, I', J') → P (.inl (some (.int v))) (hX X I' J') → am_E (gG L xs) (d + 1) m_Model_readStatements (0, lv_args 0 [.ref 112], []) (hX X I J) P) (hR_6 : ∀ {I : MI} {J : MJ} {v : Int32} {I' : MI} {J' : MJ} {P : am_R → am_H → Prop}, R 6 0 0 I J = some (v, I', J') → P (.inl (some (.int v))) (hX X I' J') → am_E (gG L xs) (d + 1) m_Model_readStatement (0, lv_args 0 [.ref 112], []) (hX X I J) P) (hR_7 : ∀ {I : MI} {J : MJ} {v : Int32} {I' : MI} {J' : MJ} {P : am_R → am_H → Prop}, R 7 0 0 I J = some (v, I', J') → P (.inl (some (.int v))) (hX X I' J') → am_E (gG L xs) (d + 1) m_Model_readRoutine (0, lv_args 0 [.ref 112], []) (hX X I J) P) (hR_8 : ∀ {a0 : Int32} {a1 : Int32} {I : MI} {J : MJ} {v : Int32} {I' : MI} {J' : MJ} {P : am_R → am_H → Prop}, R 8 a0 a1 I J = some (v, I', J') → P (.inl (some (.int v))) (hX X I' J') → am_E (gG L xs) (d + 1) m_Model_readValue (0, lv_args 0 [.ref 112, .int a0, .int a1], []) (hX X I J) P) (hR_9 : ∀ {a0 : Int32} {I : MI} {J : MJ} {v : Int32} {I' : MI} {J' : MJ} {P : am_R → am_H → Prop}, R 9 a0 0 I J = some (v, I', J') → P (.inl (some (.int v))) (hX X I' J') → am_E (gG L xs) (d + 1) m_Model_readRow (0, lv_args 0 [.ref 112, .int a0], []) (hX X I J) P) (hR_10 : ∀ {a0 : Int32} {I : MI} {J : MJ} {v : Int32} {I' : MI} {J' : MJ} {P : am_R → am_H → Prop}, R 10 a0 0 I J = some (v, I', J') → P (.inl (some (.int v))) (hX X I' J') → am_E (gG L xs) (d + 1) m_Model_readTurn (0, lv_args 0 [.ref 112, .int a0], []) (hX X I J) P) (hb : f_Model_readProduct R  I J = some (v, I', J')) (K : P (.inl (some (.int v))) (hX X I' J')) : am_E (gG L xs) (d + 2) m_Model_readProduct (0, lv_args 0 [.ref 112], []) (hX X I J) P := by
  unfold f_Model_readProduct at hb
  refine e_k 1 (f' := (1, [(0, .ref 112)], [.ref 112])) rfl ?_
  obtain ⟨v1, I1, J1, h1, hb⟩ := oc_call hb
  refine r_cv (z := m_Model_readFactor) (As := []) (rest := []) rfl rfl rfl rfl rfl (x_ltn rfl) rfl rfl (hR_2  h1 ⟨_, rfl, ?_⟩)
  refine e_k 1 (f' := (if ¬ v1 = 0 then 9 else 7, [(0, .ref 112)], [])) rfl ?_
  refine e_if (fun c2 => ?_) (fun c2 => ?_)
  · replace hb := i_pos c2 hb
    refine e_k 1 (f' := (10, [(0, .ref 112)], [.ref 112])) rfl ?_
    refine r_geti rfl (x_ltn rfl) rfl rfl ?_
    refine e_k 1 (f' := (14, [(1, .int (I1 112 73)), (0, .ref 112)], [])) rfl ?_
    obtain ⟨x3, ex3, hb⟩ := p_nm hb
    rw [← ex3]
    refine e_sub (ls := [(0, .ref 112), (1, .int x3)]) rfl ⟨rfl, rfl, trivial⟩ ?_
    obtain ⟨q15, I15, J15, h15, hb⟩ := oc_call hb
    refine E_Model_readProduct_14 hR_0 hR_1 hR_2 hR_3 hR_4 hR_5 hR_6 hR_7 hR_8 hR_9 hR_10 gF  h15 (fun y15 ey15 => ?_) (fun u15 ey15 => ?_)
    · subst ey15
      replace hb := oe_l hb
      obtain ⟨rfl, rfl, rfl⟩ := s_inj hb
      exact K
    · subst ey15
      replace hb := oe_r hb
      refine e_k 2 (f' := (76, [(0, .ref 112), (1, .int u15)], [.int u15, .ref 112])) rfl ?_
      obtain ⟨o17, hb⟩ := ob_if hb
      obtain ⟨I16, eI16, hb⟩ := p_nm hb
      refine r_putz' rfl (x_ltn rfl) rfl rfl o17 eI16 ?_
      refine e_k 1 (f' := (80, [(0, .ref 112), (1, .int u15)], [.int 1])) rfl ?_
      obtain ⟨rfl, rfl, rfl⟩ := s_inj hb
      exact e_r rfl rfl K
  · replace hb := i_neg c2 hb
    refine e_k 1 (f' := (8, [(0, .ref 112)], [.int 0])) rfl ?_
    obtain ⟨rfl, rfl, rfl⟩ := s_inj hb
    exact e_r rfl rfl K
def f_Model_readFactor_79 (R : M3) : Nat → MI → MJ → M2 (Unit)
  | 0, _, _ => none
  | fu + 1, I, J => oc (f_Model_takes 94 I J) (fun v5 I5 J5 => if v5 = 0 then (some ((), I5, J5)) else (if (I5 112 73) = 0 then (oc (f_Model_lay_IV 9 I5 J5) (fun v8 I8 J8 => f_Model_readFactor_79 R  fu  I8 J8)) else (oc (f_Model_lay_IV 10 I5 J5) (fun v9 I9 J9 => f_Model_readFactor_79 R  fu  I9 J9))))
theorem E_Model_readFactor_79 {R : M3} {X : MX} (hR_0 : ∀ {I : MI} {J : MJ} {v : Int32} {I' : MI} {J' : MJ} {P : am_R → am_H → Prop}, R 0 0 0 I J = some (v, I', J') → P (.inl (some (.int v))) (hX X I' J') → am_E (gG L xs) (d + 1) m_Model_readX (0, lv_args 0 [.ref 112], []) (hX X I J) P) (hR_1 : ∀ {I : MI} {J : MJ} {v : Int32} {I' : MI} {J' : MJ} {P : am_R → am_H → Prop}, R 1 0 0 I J = some (v, I', J') → P (.inl (some (.int v))) (hX X I' J') → am_E (gG L xs) (d + 1) m_Model_readProduct (0, lv_args 0 [.ref 112], []) (hX X I J) P) (hR_2 : ∀ {I : MI} {J : MJ} {v : Int32} {I' : MI} {J' : MJ} {P : am_R → am_H → Prop}, R 2 0 0 I J = some (v, I', J') → P (.inl (some (.int v))) (hX X I' J') → am_E (gG L xs) (d + 1) m_Model_readFactor (0, lv_args 0 [.ref 112], []) (hX X I J) P) (hR_3 : ∀ {I : MI} {J : MJ} {v : Int32} {I' : MI} {J' : MJ} {P : am_R → am_H → Prop}, R 3 0 0 I J = some (v, I', J') → P (.inl (some (.int v))) (hX X I' J') → am_E (gG L xs) (d + 1) m_Model_readPart (0, lv_args 0 [.ref 112], []) (hX X I J) P) (hR_4 : ∀ {I : MI} {J : MJ} {v : Int32} {I' : MI} {J' : MJ} {P : am_R → am_H → Prop}, R 4 0 0 I J = some (v, I', J') → P (.inl (some (.int v))) (hX X I' J') → am_E (gG L xs) (d + 1) m_Model_readPlace (0, lv_args 0 [.ref 112], []) (hX X I J) P) (hR_5 : ∀ {I : MI} {J : MJ} {v : Int32} {I' : MI} {J' : MJ} {P : am_R → am_H → Prop}, R 5 0 0 I J = some (v, I', J') → P (.inl (some (.int v))) (hX X I' J') → am_E (gG L xs) (d + 1) m_Model_readStatements (0, lv_args 0 [.ref 112], []) (hX X I J) P) (hR_6 : ∀ {I : MI} {J : MJ} {v : Int32} {I' : MI} {J' : MJ} {P : am_R → am_H → Prop}, R 6 0 0 I J = some (v, I', J') → P (.inl (some (.int v))) (hX X I' J') → am_E (gG L xs) (d + 1) m_Model_readStatement (0, lv_args 0 [.ref 112], []) (hX X I J) P) (hR_7 : ∀ {I : MI} {J : MJ} {v : Int32} {I' : MI} {J' : MJ} {P : am_R → am_H → Prop}, R 7 0 0 I J = some (v, I', J') → P (.inl (some (.int v))) (hX X I' J') → am_E (gG L xs) (d + 1) m_Model_readRoutine (0, lv_args 0 [.ref 112], []) (hX X I J) P) (hR_8 : ∀ {a0 : Int32} {a1 : Int32} {I : MI} {J : MJ} {v : Int32} {I' : MI} {J' : MJ} {P : am_R → am_H → Prop}, R 8 a0 a1 I J = some (v, I', J') → P (.inl (some (.int v))) (hX X I' J') → am_E (gG L xs) (d + 1) m_Model_readValue (0, lv_args 0 [.ref 112, .int a0, .int a1], []) (hX X I J) P) (hR_9 : ∀ {a0 : Int32} {I : MI} {J : MJ} {v : Int32} {I' : MI} {J' : MJ} {P : am_R → am_H → Prop}, R 9 a0 0 I J = some (v, I', J') → P (.inl (some (.int v))) (hX X I' J') → am_E (gG L xs) (d + 1) m_Model_readRow (0, lv_args 0 [.ref 112, .int a0], []) (hX X I J) P) (hR_10 : ∀ {a0 : Int32} {I : MI} {J : MJ} {v : Int32} {I' : MI} {J' : MJ} {P : am_R → am_H → Prop}, R 10 a0 0 I J = some (v, I', J') → P (.inl (some (.int v))) (hX X I' J') → am_E (gG L xs) (d + 1) m_Model_readTurn (0, lv_args 0 [.ref 112, .int a0], []) (hX X I J) P) : ∀ (fu : Nat) {I : MI} {J : MJ} {r : (Unit)} {I' : MI} {J' : MJ}, f_Model_readFactor_79 R  fu  I J = some (r, I', J') → am_E (gG L xs) (d + 2) m_Model_readFactor (109, [], []) (hX X I' J') P → am_E (gG L xs) (d + 2) m_Model_readFactor (79, [(0, .ref 112)], []) (hX X I J) P := by
  intro fu
  induction fu with
  | zero =>
    intros
    rename_i hb _
    cases hb
  | succ fu ih =>
    intro I J r I' J' hb K
    unfold f_Model_readFactor_79 at hb
    refine e_k 2 (f' := (82, [(0, .ref 112)], [.int 94, .ref 112])) rfl ?_
    obtain ⟨v5, I5, J5, h5, hb⟩ := oc_call hb
    refine r_cv (z := m_Model_takes) (As := [.int 94]) (rest := []) rfl rfl rfl rfl rfl (x_ltn rfl) rfl rfl (E_Model_takes  h5 ⟨_, rfl, ?_⟩)
    refine e_k 1 (f' := (if v5 = 0 then 109 else 88, [(0, .ref 112)], [])) rfl ?_
    refine e_if (fun c6 => ?_) (fun c6 => ?_)
    · replace hb := i_pos c6 hb
      refine e_sub (ls := []) rfl ⟨⟩ ?_
      obtain ⟨rfl, rfl, rfl⟩ := s_inj hb
      exact K
    · replace hb := i_neg c6 hb
      refine e_k 2 (f' := (90, [(0, .ref 112)], [.ref 112, .ref 112])) rfl ?_
      refine r_geti rfl (x_ltn rfl) rfl rfl ?_
      refine e_k 1 (f' := (if (I5 112 73) = 0 then 101 else 96, [(0, .ref 112)], [.ref 112])) rfl ?_
      refine e_if (fun c7 => ?_) (fun c7 => ?_)
      · replace hb := i_pos c7 hb
        refine e_k 1 (f' := (103, [(0, .ref 112)], [.int 9, .ref 112])) rfl ?_
        obtain ⟨v8, I8, J8, h8, hb⟩ := oc_call hb
        refine r_cv (z := m_Model_lay_IV) (As := [.int 9]) (rest := []) rfl rfl rfl rfl rfl (x_ltn rfl) rfl rfl (E_Model_lay_IV  h8 ⟨_, rfl, ?_⟩)
        refine e_k 1 (f' := (79, [(0, .ref 112)], [])) rfl ?_
        refine e_sub (ls := [(0, .ref 112)]) rfl ⟨rfl, trivial⟩ ?_
        exact ih  hb K
      · replace hb := i_neg c7 hb
        refine e_k 2 (f' := (103, [(0, .ref 112)], [.int 10, .ref 112])) rfl ?_
        obtain ⟨v9, I9, J9, h9, hb⟩ := oc_call hb
        refine r_cv (z := m_Model_lay_IV) (As := [.int 10]) (rest := []) rfl rfl rfl rfl rfl (x_ltn rfl) rfl rfl (E_Model_lay_IV  h9 ⟨_, rfl, ?_⟩)
        refine e_k 1 (f' := (79, [(0, .ref 112)], [])) rfl ?_
        refine e_sub (ls := [(0, .ref 112)]) rfl ⟨rfl, trivial⟩ ?_
        exact ih  hb K
def f_Model_readFactor (R : M3) (I : MI) (J : MJ) : M2 Int32 := oc (f_Model_see  I J) (fun v1 I1 J1 => if ¬ v1 = 45 then (oc (R 3 0 0 I1 J1) (fun v3 I3 J3 => if ¬ v3 = 0 then (oc (f_Model_readFactor_79 R  gF  I3 J3) (fun u10 I10 J10 => some (1, I10, J10))) else (some (0, I3, J3)))) else (if (I1 112 15) < 20 then (pl (va_up I1 112 (upd (I1 112) 5 ((I1 112 5) + 1))) (fun I12 => pl (va_up I12 112 (upd (I12 112) 15 ((I12 112 15) + 1))) (fun I13 => oc (R 2 0 0 I13 J1) (fun v14 I14 J14 => pl (va_up I14 112 (upd (I14 112) 15 ((I14 112 15) - 1))) (fun I15 => if v14 = 0 then (if v14 = 0 ∨ v14 = 1 then some (v14, I15, J14) else none) else (oc (f_Model_lay_IV 8 I15 J14) (fun v18 I18 J18 => if v14 = 0 ∨ v14 = 1 then some (v14, I18, J18) else none))))))) else (oc (f_Model_refuse  I1 J1) (fun v20 I20 J20 => if v20 = 0 ∨ v20 = 1 then some (v20, I20, J20) else none))))
theorem E_Model_readFactor {R : M3} {X : MX} {I : MI} {J : MJ} {v : Int32} {I' : MI} {J' : MJ} (hR_0 : ∀ {I : MI} {J : MJ} {v : Int32} {I' : MI} {J' : MJ} {P : am_R → am_H → Prop}, R 0 0 0 I J = some (v, I', J') → P (.inl (some (.int v))) (hX X I' J') → am_E (gG L xs) (d + 1) m_Model_readX (0, lv_args 0 [.ref 112], []) (hX X I J) P) (hR_1 : ∀ {I : MI} {J : MJ} {v : Int32} {I' : MI} {J' : MJ} {P : am_R → am_H → Prop}, R 1 0 0 I J = some (v, I', J') → P (.inl (some (.int v))) (hX X I' J') → am_E (gG L xs) (d + 1) m_Model_readProduct (0, lv_args 0 [.ref 112], []) (hX X I J) P) (hR_2 : ∀ {I : MI} {J : MJ} {v : Int32} {I' : MI} {J' : MJ} {P : am_R → am_H → Prop}, R 2 0 0 I J = some (v, I', J') → P (.inl (some (.int v))) (hX X I' J') → am_E (gG L xs) (d + 1) m_Model_readFactor (0, lv_args 0 [.ref 112], []) (hX X I J) P) (hR_3 : ∀ {I : MI} {J : MJ} {v : Int32} {I' : MI} {J' : MJ} {P : am_R → am_H → Prop}, R 3 0 0 I J = some (v, I', J') → P (.inl (some (.int v))) (hX X I' J') → am_E (gG L xs) (d + 1) m_Model_readPart (0, lv_args 0 [.ref 112], []) (hX X I J) P) (hR_4 : ∀ {I : MI} {J : MJ} {v : Int32} {I' : MI} {J' : MJ} {P : am_R → am_H → Prop}, R 4 0 0 I J = some (v, I', J') → P (.inl (some (.int v))) (hX X I' J') → am_E (gG L xs) (d + 1) m_Model_readPlace (0, lv_args 0 [.ref 112], []) (hX X I J) P) (hR_5 : ∀ {I : MI} {J : MJ} {v : Int32} {I' : MI} {J' : MJ} {P : am_R → am_H → Prop}, R 5 0 0 I J = some (v, I', J') → P (.inl (some (.int v))) (hX X I' J') → am_E (gG L xs) (d + 1) m_Model_readStatements (0, lv_args 0 [.ref 112], []) (hX X I J) P) (hR_6 : ∀ {I : MI} {J : MJ} {v : Int32} {I' : MI} {J' : MJ} {P : am_R → am_H → Prop}, R 6 0 0 I J = some (v, I', J') → P (.inl (some (.int v))) (hX X I' J') → am_E (gG L xs) (d + 1) m_Model_readStatement (0, lv_args 0 [.ref 112], []) (hX X I J) P) (hR_7 : ∀ {I : MI} {J : MJ} {v : Int32} {I' : MI} {J' : MJ} {P : am_R → am_H → Prop}, R 7 0 0 I J = some (v, I', J') → P (.inl (some (.int v))) (hX X I' J') → am_E (gG L xs) (d + 1) m_Model_readRoutine (0, lv_args 0 [.ref 112], []) (hX X I J) P) (hR_8 : ∀ {a0 : Int32} {a1 : Int32} {I : MI} {J : MJ} {v : Int32} {I' : MI} {J' : MJ} {P : am_R → am_H → Prop}, R 8 a0 a1 I J = some (v, I', J') → P (.inl (some (.int v))) (hX X I' J') → am_E (gG L xs) (d + 1) m_Model_readValue (0, lv_args 0 [.ref 112, .int a0, .int a1], []) (hX X I J) P) (hR_9 : ∀ {a0 : Int32} {I : MI} {J : MJ} {v : Int32} {I' : MI} {J' : MJ} {P : am_R → am_H → Prop}, R 9 a0 0 I J = some (v, I', J') → P (.inl (some (.int v))) (hX X I' J') → am_E (gG L xs) (d + 1) m_Model_readRow (0, lv_args 0 [.ref 112, .int a0], []) (hX X I J) P) (hR_10 : ∀ {a0 : Int32} {I : MI} {J : MJ} {v : Int32} {I' : MI} {J' : MJ} {P : am_R → am_H → Prop}, R 10 a0 0 I J = some (v, I', J') → P (.inl (some (.int v))) (hX X I' J') → am_E (gG L xs) (d + 1) m_Model_readTurn (0, lv_args 0 [.ref 112, .int a0], []) (hX X I J) P) (hb : f_Model_readFactor R  I J = some (v, I', J')) (K : P (.inl (some (.int v))) (hX X I' J')) : am_E (gG L xs) (d + 2) m_Model_readFactor (0, lv_args 0 [.ref 112], []) (hX X I J) P := by
  unfold f_Model_readFactor at hb
  refine e_k 1 (f' := (1, [(0, .ref 112)], [.ref 112])) rfl ?_
  obtain ⟨v1, I1, J1, h1, hb⟩ := oc_call hb
  refine r_cv (z := m_Model_see) (As := []) (rest := []) rfl rfl rfl rfl rfl (x_ltn rfl) rfl rfl (E_Model_see  h1 ⟨_, rfl, ?_⟩)
  refine e_k 2 (f' := (if ¬ v1 = 45 then 70 else 9, [(0, .ref 112)], [])) rfl ?_
  refine e_if (fun c2 => ?_) (fun c2 => ?_)
  · replace hb := i_pos c2 hb
    refine e_k 1 (f' := (71, [(0, .ref 112)], [.ref 112])) rfl ?_
    obtain ⟨v3, I3, J3, h3, hb⟩ := oc_call hb
    refine r_cv (z := m_Model_readPart) (As := []) (rest := []) rfl rfl rfl rfl rfl (x_ltn rfl) rfl rfl (hR_3  h3 ⟨_, rfl, ?_⟩)
    refine e_k 1 (f' := (if ¬ v3 = 0 then 79 else 77, [(0, .ref 112)], [])) rfl ?_
    refine e_if (fun c4 => ?_) (fun c4 => ?_)
    · replace hb := i_pos c4 hb
      refine e_sub (ls := [(0, .ref 112)]) rfl ⟨rfl, trivial⟩ ?_
      obtain ⟨u10, I10, J10, h10, hb⟩ := oc_call hb
      refine E_Model_readFactor_79 hR_0 hR_1 hR_2 hR_3 hR_4 hR_5 hR_6 hR_7 hR_8 hR_9 hR_10 gF  h10 ?_
      refine e_k 1 (f' := (110, [], [.int 1])) rfl ?_
      obtain ⟨rfl, rfl, rfl⟩ := s_inj hb
      exact e_r rfl rfl K
    · replace hb := i_neg c4 hb
      refine e_k 1 (f' := (78, [(0, .ref 112)], [.int 0])) rfl ?_
      obtain ⟨rfl, rfl, rfl⟩ := s_inj hb
      exact e_r rfl rfl K
  · replace hb := i_neg c2 hb
    refine e_k 1 (f' := (10, [(0, .ref 112)], [.ref 112])) rfl ?_
    refine r_geti rfl (x_ltn rfl) rfl rfl ?_
    refine e_k 2 (f' := (if (I1 112 15) < 20 then 23 else 18, [(0, .ref 112)], [])) rfl ?_
    refine e_if (fun c11 => ?_) (fun c11 => ?_)
    · replace hb := i_pos c11 hb
      refine e_k 2 (f' := (25, [(0, .ref 112)], [.ref 112, .ref 112])) rfl ?_
      refine r_geti rfl (x_ltn rfl) rfl rfl ?_
      refine e_k 2 (f' := (30, [(0, .ref 112)], [.int ((I1 112 5) + 1), .ref 112])) rfl ?_
      obtain ⟨I12, eI12, hb⟩ := p_nm hb
      refine r_puti' rfl (x_ltn rfl) rfl rfl eI12 ?_
      refine e_k 2 (f' := (35, [(0, .ref 112)], [.ref 112, .ref 112])) rfl ?_
      refine r_geti rfl (x_ltn rfl) rfl rfl ?_
      refine e_k 2 (f' := (40, [(0, .ref 112)], [.int ((I12 112 15) + 1), .ref 112])) rfl ?_
      obtain ⟨I13, eI13, hb⟩ := p_nm hb
      refine r_puti' rfl (x_ltn rfl) rfl rfl eI13 ?_
      refine e_k 1 (f' := (44, [(0, .ref 112)], [.ref 112])) rfl ?_
      obtain ⟨v14, I14, J14, h14, hb⟩ := oc_call hb
      refine r_cv (z := m_Model_readFactor) (As := []) (rest := []) rfl rfl rfl rfl rfl (x_ltn rfl) rfl rfl (hR_2  h14 ⟨_, rfl, ?_⟩)
      refine e_k 3 (f' := (50, [(1, .int v14), (0, .ref 112)], [.ref 112, .ref 112])) rfl ?_
      refine r_geti rfl (x_ltn rfl) rfl rfl ?_
      refine e_k 2 (f' := (55, [(1, .int v14), (0, .ref 112)], [.int ((I14 112 15) - 1), .ref 112])) rfl ?_
      obtain ⟨I15, eI15, hb⟩ := p_nm hb
      refine r_puti' rfl (x_ltn rfl) rfl rfl eI15 ?_
      refine e_k 2 (f' := (if v14 = 0 then 68 else 62, [(1, .int v14), (0, .ref 112)], [])) rfl ?_
      refine e_if (fun c16 => ?_) (fun c16 => ?_)
      · replace hb := i_pos c16 hb
        refine e_k 1 (f' := (69, [(1, .int v14), (0, .ref 112)], [.int v14])) rfl ?_
        obtain ⟨o17, hb⟩ := ob_if hb
        obtain ⟨rfl, rfl, rfl⟩ := s_inj hb
        exact e_r rfl (if_pos o17) K
      · replace hb := i_neg c16 hb
        refine e_k 2 (f' := (65, [(1, .int v14), (0, .ref 112)], [.int 8, .ref 112])) rfl ?_
        obtain ⟨v18, I18, J18, h18, hb⟩ := oc_call hb
        refine r_cv (z := m_Model_lay_IV) (As := [.int 8]) (rest := []) rfl rfl rfl rfl rfl (x_ltn rfl) rfl rfl (E_Model_lay_IV  h18 ⟨_, rfl, ?_⟩)
        refine e_k 1 (f' := (69, [(1, .int v14), (0, .ref 112)], [.int v14])) rfl ?_
        obtain ⟨o19, hb⟩ := ob_if hb
        obtain ⟨rfl, rfl, rfl⟩ := s_inj hb
        exact e_r rfl (if_pos o19) K
    · replace hb := i_neg c11 hb
      refine e_k 1 (f' := (19, [(0, .ref 112)], [.ref 112])) rfl ?_
      obtain ⟨v20, I20, J20, h20, hb⟩ := oc_call hb
      refine r_cv (z := m_Model_refuse) (As := []) (rest := []) rfl rfl rfl rfl rfl (x_ltn rfl) rfl rfl (E_Model_refuse  h20 ⟨_, rfl, ?_⟩)
      obtain ⟨o21, hb⟩ := ob_if hb
      obtain ⟨rfl, rfl, rfl⟩ := s_inj hb
      exact e_r rfl (if_pos o21) K
def f_Model_readPlace (R : M3) (I : MI) (J : MJ) : M2 Int32 := oc (f_Model_see  I J) (fun v1 I1 J1 => pl (I1 112 5 : Int32) (fun x2 => oc (f_Model_see  I1 J1) (fun v3 I3 J3 => if ¬ v3 = 91 then (oc (f_Model_want 91 I3 J3) (fun v5 I5 J5 => if ¬ v5 = 0 then (pl (va_up I5 112 (upd (I5 112) 15 ((I5 112 15) + 1))) (fun I7 => oc (R 0 0 0 I7 J5) (fun v8 I8 J8 => oc ((if v8 = 0 then (some ((), I8, J8)) else (if (I8 112 73) = 0 then (some ((), I8, J8)) else (oc (f_Model_note 3 x2 I8 J8) (fun v13 I13 J13 => some ((), I13, J13))))) : M2 (Unit)) (fun v10 I10 J10 => oc ((if v8 = 0 then (some (0, I10, J10)) else (oc (f_Model_want 93 I10 J10) (fun v17 I17 J17 => if v17 = 0 then (some (0, I17, J17)) else (some (1, I17, J17))))) : M2 (Int32)) (fun v15 I15 J15 => pl (va_up I15 112 (upd (I15 112) 15 ((I15 112 15) - 1))) (fun I19 => if v15 = 0 ∨ v15 = 1 then some (v15, I19, J15) else none)))))) else (some (0, I5, J5)))) else (if (I3 112 15) < 20 then (oc (f_Model_want 91 I3 J3) (fun v22 I22 J22 => if ¬ v22 = 0 then (pl (va_up I22 112 (upd (I22 112) 15 ((I22 112 15) + 1))) (fun I24 => oc (R 0 0 0 I24 J22) (fun v25 I25 J25 => oc ((if v25 = 0 then (some ((), I25, J25)) else (if (I25 112 73) = 0 then (some ((), I25, J25)) else (oc (f_Model_note 3 x2 I25 J25) (fun v30 I30 J30 => some ((), I30, J30))))) : M2 (Unit)) (fun v27 I27 J27 => oc ((if v25 = 0 then (some (0, I27, J27)) else (oc (f_Model_want 93 I27 J27) (fun v34 I34 J34 => if v34 = 0 then (some (0, I34, J34)) else (some (1, I34, J34))))) : M2 (Int32)) (fun v32 I32 J32 => pl (va_up I32 112 (upd (I32 112) 15 ((I32 112 15) - 1))) (fun I36 => if v32 = 0 ∨ v32 = 1 then some (v32, I36, J32) else none)))))) else (some (0, I22, J22)))) else (oc (f_Model_refuse  I3 J3) (fun v38 I38 J38 => if v38 = 0 ∨ v38 = 1 then some (v38, I38, J38) else none))))))
theorem E_Model_readPlace {R : M3} {X : MX} {I : MI} {J : MJ} {v : Int32} {I' : MI} {J' : MJ} (hR_0 : ∀ {I : MI} {J : MJ} {v : Int32} {I' : MI} {J' : MJ} {P : am_R → am_H → Prop}, R 0 0 0 I J = some (v, I', J') → P (.inl (some (.int v))) (hX X I' J') → am_E (gG L xs) (d + 2) m_Model_readX (0, lv_args 0 [.ref 112], []) (hX X I J) P) (hR_1 : ∀ {I : MI} {J : MJ} {v : Int32} {I' : MI} {J' : MJ} {P : am_R → am_H → Prop}, R 1 0 0 I J = some (v, I', J') → P (.inl (some (.int v))) (hX X I' J') → am_E (gG L xs) (d + 2) m_Model_readProduct (0, lv_args 0 [.ref 112], []) (hX X I J) P) (hR_2 : ∀ {I : MI} {J : MJ} {v : Int32} {I' : MI} {J' : MJ} {P : am_R → am_H → Prop}, R 2 0 0 I J = some (v, I', J') → P (.inl (some (.int v))) (hX X I' J') → am_E (gG L xs) (d + 2) m_Model_readFactor (0, lv_args 0 [.ref 112], []) (hX X I J) P) (hR_3 : ∀ {I : MI} {J : MJ} {v : Int32} {I' : MI} {J' : MJ} {P : am_R → am_H → Prop}, R 3 0 0 I J = some (v, I', J') → P (.inl (some (.int v))) (hX X I' J') → am_E (gG L xs) (d + 2) m_Model_readPart (0, lv_args 0 [.ref 112], []) (hX X I J) P) (hR_4 : ∀ {I : MI} {J : MJ} {v : Int32} {I' : MI} {J' : MJ} {P : am_R → am_H → Prop}, R 4 0 0 I J = some (v, I', J') → P (.inl (some (.int v))) (hX X I' J') → am_E (gG L xs) (d + 2) m_Model_readPlace (0, lv_args 0 [.ref 112], []) (hX X I J) P) (hR_5 : ∀ {I : MI} {J : MJ} {v : Int32} {I' : MI} {J' : MJ} {P : am_R → am_H → Prop}, R 5 0 0 I J = some (v, I', J') → P (.inl (some (.int v))) (hX X I' J') → am_E (gG L xs) (d + 2) m_Model_readStatements (0, lv_args 0 [.ref 112], []) (hX X I J) P) (hR_6 : ∀ {I : MI} {J : MJ} {v : Int32} {I' : MI} {J' : MJ} {P : am_R → am_H → Prop}, R 6 0 0 I J = some (v, I', J') → P (.inl (some (.int v))) (hX X I' J') → am_E (gG L xs) (d + 2) m_Model_readStatement (0, lv_args 0 [.ref 112], []) (hX X I J) P) (hR_7 : ∀ {I : MI} {J : MJ} {v : Int32} {I' : MI} {J' : MJ} {P : am_R → am_H → Prop}, R 7 0 0 I J = some (v, I', J') → P (.inl (some (.int v))) (hX X I' J') → am_E (gG L xs) (d + 2) m_Model_readRoutine (0, lv_args 0 [.ref 112], []) (hX X I J) P) (hR_8 : ∀ {a0 : Int32} {a1 : Int32} {I : MI} {J : MJ} {v : Int32} {I' : MI} {J' : MJ} {P : am_R → am_H → Prop}, R 8 a0 a1 I J = some (v, I', J') → P (.inl (some (.int v))) (hX X I' J') → am_E (gG L xs) (d + 2) m_Model_readValue (0, lv_args 0 [.ref 112, .int a0, .int a1], []) (hX X I J) P) (hR_9 : ∀ {a0 : Int32} {I : MI} {J : MJ} {v : Int32} {I' : MI} {J' : MJ} {P : am_R → am_H → Prop}, R 9 a0 0 I J = some (v, I', J') → P (.inl (some (.int v))) (hX X I' J') → am_E (gG L xs) (d + 2) m_Model_readRow (0, lv_args 0 [.ref 112, .int a0], []) (hX X I J) P) (hR_10 : ∀ {a0 : Int32} {I : MI} {J : MJ} {v : Int32} {I' : MI} {J' : MJ} {P : am_R → am_H → Prop}, R 10 a0 0 I J = some (v, I', J') → P (.inl (some (.int v))) (hX X I' J') → am_E (gG L xs) (d + 2) m_Model_readTurn (0, lv_args 0 [.ref 112, .int a0], []) (hX X I J) P) (hb : f_Model_readPlace R  I J = some (v, I', J')) (K : P (.inl (some (.int v))) (hX X I' J')) : am_E (gG L xs) (d + 3) m_Model_readPlace (0, lv_args 0 [.ref 112], []) (hX X I J) P := by
  unfold f_Model_readPlace at hb
  refine e_k 1 (f' := (1, [(0, .ref 112)], [.ref 112])) rfl ?_
  obtain ⟨v1, I1, J1, h1, hb⟩ := oc_call hb
  refine r_cv (z := m_Model_see) (As := []) (rest := []) rfl rfl rfl rfl rfl (x_ltn rfl) rfl rfl (E_Model_see  h1 ⟨_, rfl, ?_⟩)
  refine e_k 2 (f' := (6, [(0, .ref 112)], [.ref 112])) rfl ?_
  refine r_geti rfl (x_ltn rfl) rfl rfl ?_
  refine e_k 1 (f' := (10, [(1, .int (I1 112 5)), (0, .ref 112)], [])) rfl ?_
  obtain ⟨x2, ex2, hb⟩ := p_nm hb
  rw [← ex2]
  refine e_k 1 (f' := (11, [(1, .int x2), (0, .ref 112)], [.ref 112])) rfl ?_
  obtain ⟨v3, I3, J3, h3, hb⟩ := oc_call hb
  refine r_cv (z := m_Model_see) (As := []) (rest := []) rfl rfl rfl rfl rfl (x_ltn rfl) rfl rfl (E_Model_see  h3 ⟨_, rfl, ?_⟩)
  refine e_k 2 (f' := (if ¬ v3 = 91 then 33 else 19, [(1, .int x2), (0, .ref 112)], [])) rfl ?_
  refine e_if (fun c4 => ?_) (fun c4 => ?_)
  · replace hb := i_pos c4 hb
    refine e_k 2 (f' := (36, [(1, .int x2), (0, .ref 112)], [.int 91, .ref 112])) rfl ?_
    obtain ⟨v5, I5, J5, h5, hb⟩ := oc_call hb
    refine r_cv (z := m_Model_want) (As := [.int 91]) (rest := []) rfl rfl rfl rfl rfl (x_ltn rfl) rfl rfl (E_Model_want  h5 ⟨_, rfl, ?_⟩)
    refine e_k 1 (f' := (if ¬ v5 = 0 then 44 else 42, [(1, .int x2), (0, .ref 112)], [])) rfl ?_
    refine e_if (fun c6 => ?_) (fun c6 => ?_)
    · replace hb := i_pos c6 hb
      refine e_k 2 (f' := (46, [(1, .int x2), (0, .ref 112)], [.ref 112, .ref 112])) rfl ?_
      refine r_geti rfl (x_ltn rfl) rfl rfl ?_
      refine e_k 2 (f' := (51, [(1, .int x2), (0, .ref 112)], [.int ((I5 112 15) + 1), .ref 112])) rfl ?_
      obtain ⟨I7, eI7, hb⟩ := p_nm hb
      refine r_puti' rfl (x_ltn rfl) rfl rfl eI7 ?_
      refine e_k 1 (f' := (55, [(1, .int x2), (0, .ref 112)], [.ref 112])) rfl ?_
      obtain ⟨v8, I8, J8, h8, hb⟩ := oc_call hb
      refine r_cv (z := m_Model_readX) (As := []) (rest := []) rfl rfl rfl rfl rfl (x_ltn rfl) rfl rfl (hR_0  h8 ⟨_, rfl, ?_⟩)
      refine e_k 3 (f' := (if v8 = 0 then 76 else 63, [(2, .int v8), (1, .int x2), (0, .ref 112)], [])) rfl ?_
      obtain ⟨v10, I10, J10, h10, hb⟩ := oc_call hb
      have Kj10 : am_E (gG L xs) (d + 3) m_Model_readPlace (76, [(0, .ref 112), (2, .int v8)], []) (hX X I10 J10) P := by
        refine e_k 2 (f' := (if v8 = 0 then 93 else 80, [(0, .ref 112), (2, .int v8)], [])) rfl ?_
        obtain ⟨v15, I15, J15, h15, hb⟩ := oc_call hb
        have Kj15 : am_E (gG L xs) (d + 3) m_Model_readPlace (94, [(0, .ref 112)], [.int v15]) (hX X I15 J15) P := by
          refine e_k 3 (f' := (97, [(2, .int v15), (0, .ref 112)], [.ref 112, .ref 112])) rfl ?_
          refine r_geti rfl (x_ltn rfl) rfl rfl ?_
          refine e_k 2 (f' := (102, [(2, .int v15), (0, .ref 112)], [.int ((I15 112 15) - 1), .ref 112])) rfl ?_
          obtain ⟨I19, eI19, hb⟩ := p_nm hb
          refine r_puti' rfl (x_ltn rfl) rfl rfl eI19 ?_
          refine e_k 1 (f' := (106, [(2, .int v15), (0, .ref 112)], [.int v15])) rfl ?_
          obtain ⟨o20, hb⟩ := ob_if hb
          obtain ⟨rfl, rfl, rfl⟩ := s_inj hb
          exact e_r rfl (if_pos o20) K
        clear hb
        refine e_if (fun c16 => ?_) (fun c16 => ?_)
        · replace h15 := i_pos c16 h15
          refine e_k 1 (f' := (94, [(0, .ref 112), (2, .int v8)], [.int 0])) rfl ?_
          refine e_sub (ls := [(0, .ref 112)]) rfl ⟨rfl, trivial⟩ ?_
          obtain ⟨rfl, rfl, rfl⟩ := s_inj h15
          exact Kj15
        · replace h15 := i_neg c16 h15
          refine e_k 2 (f' := (83, [(0, .ref 112), (2, .int v8)], [.int 93, .ref 112])) rfl ?_
          obtain ⟨v17, I17, J17, h17, h15⟩ := oc_call h15
          refine r_cv (z := m_Model_want) (As := [.int 93]) (rest := []) rfl rfl rfl rfl rfl (x_ltn rfl) rfl rfl (E_Model_want  h17 ⟨_, rfl, ?_⟩)
          refine e_k 1 (f' := (if v17 = 0 then 93 else 89, [(0, .ref 112), (2, .int v8)], [])) rfl ?_
          refine e_if (fun c18 => ?_) (fun c18 => ?_)
          · replace h15 := i_pos c18 h15
            refine e_k 1 (f' := (94, [(0, .ref 112), (2, .int v8)], [.int 0])) rfl ?_
            refine e_sub (ls := [(0, .ref 112)]) rfl ⟨rfl, trivial⟩ ?_
            obtain ⟨rfl, rfl, rfl⟩ := s_inj h15
            exact Kj15
          · replace h15 := i_neg c18 h15
            refine e_k 2 (f' := (94, [(0, .ref 112), (2, .int v8)], [.int 1])) rfl ?_
            refine e_sub (ls := [(0, .ref 112)]) rfl ⟨rfl, trivial⟩ ?_
            obtain ⟨rfl, rfl, rfl⟩ := s_inj h15
            exact Kj15
      clear hb
      refine e_if (fun c11 => ?_) (fun c11 => ?_)
      · replace h10 := i_pos c11 h10
        refine e_sub (ls := [(0, .ref 112), (2, .int v8)]) rfl ⟨rfl, rfl, trivial⟩ ?_
        obtain ⟨rfl, rfl, rfl⟩ := s_inj h10
        exact Kj10
      · replace h10 := i_neg c11 h10
        refine e_k 1 (f' := (64, [(2, .int v8), (1, .int x2), (0, .ref 112)], [.ref 112])) rfl ?_
        refine r_geti rfl (x_ltn rfl) rfl rfl ?_
        refine e_k 1 (f' := (if (I8 112 73) = 0 then 76 else 70, [(2, .int v8), (1, .int x2), (0, .ref 112)], [])) rfl ?_
        refine e_if (fun c12 => ?_) (fun c12 => ?_)
        · replace h10 := i_pos c12 h10
          refine e_sub (ls := [(0, .ref 112), (2, .int v8)]) rfl ⟨rfl, rfl, trivial⟩ ?_
          obtain ⟨rfl, rfl, rfl⟩ := s_inj h10
          exact Kj10
        · replace h10 := i_neg c12 h10
          refine e_k 3 (f' := (73, [(2, .int v8), (1, .int x2), (0, .ref 112)], [.int x2, .int 3, .ref 112])) rfl ?_
          obtain ⟨v13, I13, J13, h13, h10⟩ := oc_call h10
          refine r_cv (z := m_Model_note) (As := [.int 3, .int x2]) (rest := []) rfl rfl rfl rfl rfl (x_ltn rfl) rfl rfl (E_Model_note  h13 ⟨_, rfl, ?_⟩)
          refine e_sub (ls := [(0, .ref 112), (2, .int v8)]) rfl ⟨rfl, rfl, trivial⟩ ?_
          obtain ⟨rfl, rfl, rfl⟩ := s_inj h10
          exact Kj10
    · replace hb := i_neg c6 hb
      refine e_k 1 (f' := (43, [(1, .int x2), (0, .ref 112)], [.int 0])) rfl ?_
      obtain ⟨rfl, rfl, rfl⟩ := s_inj hb
      exact e_r rfl rfl K
  · replace hb := i_neg c4 hb
    refine e_k 1 (f' := (20, [(1, .int x2), (0, .ref 112)], [.ref 112])) rfl ?_
    refine r_geti rfl (x_ltn rfl) rfl rfl ?_
    refine e_k 2 (f' := (if (I3 112 15) < 20 then 33 else 28, [(1, .int x2), (0, .ref 112)], [])) rfl ?_
    refine e_if (fun c21 => ?_) (fun c21 => ?_)
    · replace hb := i_pos c21 hb
      refine e_k 2 (f' := (36, [(1, .int x2), (0, .ref 112)], [.int 91, .ref 112])) rfl ?_
      obtain ⟨v22, I22, J22, h22, hb⟩ := oc_call hb
      refine r_cv (z := m_Model_want) (As := [.int 91]) (rest := []) rfl rfl rfl rfl rfl (x_ltn rfl) rfl rfl (E_Model_want  h22 ⟨_, rfl, ?_⟩)
      refine e_k 1 (f' := (if ¬ v22 = 0 then 44 else 42, [(1, .int x2), (0, .ref 112)], [])) rfl ?_
      refine e_if (fun c23 => ?_) (fun c23 => ?_)
      · replace hb := i_pos c23 hb
        refine e_k 2 (f' := (46, [(1, .int x2), (0, .ref 112)], [.ref 112, .ref 112])) rfl ?_
        refine r_geti rfl (x_ltn rfl) rfl rfl ?_
        refine e_k 2 (f' := (51, [(1, .int x2), (0, .ref 112)], [.int ((I22 112 15) + 1), .ref 112])) rfl ?_
        obtain ⟨I24, eI24, hb⟩ := p_nm hb
        refine r_puti' rfl (x_ltn rfl) rfl rfl eI24 ?_
        refine e_k 1 (f' := (55, [(1, .int x2), (0, .ref 112)], [.ref 112])) rfl ?_
        obtain ⟨v25, I25, J25, h25, hb⟩ := oc_call hb
        refine r_cv (z := m_Model_readX) (As := []) (rest := []) rfl rfl rfl rfl rfl (x_ltn rfl) rfl rfl (hR_0  h25 ⟨_, rfl, ?_⟩)
        refine e_k 3 (f' := (if v25 = 0 then 76 else 63, [(2, .int v25), (1, .int x2), (0, .ref 112)], [])) rfl ?_
        obtain ⟨v27, I27, J27, h27, hb⟩ := oc_call hb
        have Kj27 : am_E (gG L xs) (d + 3) m_Model_readPlace (76, [(0, .ref 112), (2, .int v25)], []) (hX X I27 J27) P := by
          refine e_k 2 (f' := (if v25 = 0 then 93 else 80, [(0, .ref 112), (2, .int v25)], [])) rfl ?_
          obtain ⟨v32, I32, J32, h32, hb⟩ := oc_call hb
          have Kj32 : am_E (gG L xs) (d + 3) m_Model_readPlace (94, [(0, .ref 112)], [.int v32]) (hX X I32 J32) P := by
            refine e_k 3 (f' := (97, [(2, .int v32), (0, .ref 112)], [.ref 112, .ref 112])) rfl ?_
            refine r_geti rfl (x_ltn rfl) rfl rfl ?_
            refine e_k 2 (f' := (102, [(2, .int v32), (0, .ref 112)], [.int ((I32 112 15) - 1), .ref 112])) rfl ?_
            obtain ⟨I36, eI36, hb⟩ := p_nm hb
            refine r_puti' rfl (x_ltn rfl) rfl rfl eI36 ?_
            refine e_k 1 (f' := (106, [(2, .int v32), (0, .ref 112)], [.int v32])) rfl ?_
            obtain ⟨o37, hb⟩ := ob_if hb
            obtain ⟨rfl, rfl, rfl⟩ := s_inj hb
            exact e_r rfl (if_pos o37) K
          clear hb
          refine e_if (fun c33 => ?_) (fun c33 => ?_)
          · replace h32 := i_pos c33 h32
            refine e_k 1 (f' := (94, [(0, .ref 112), (2, .int v25)], [.int 0])) rfl ?_
            refine e_sub (ls := [(0, .ref 112)]) rfl ⟨rfl, trivial⟩ ?_
            obtain ⟨rfl, rfl, rfl⟩ := s_inj h32
            exact Kj32
          · replace h32 := i_neg c33 h32
            refine e_k 2 (f' := (83, [(0, .ref 112), (2, .int v25)], [.int 93, .ref 112])) rfl ?_
            obtain ⟨v34, I34, J34, h34, h32⟩ := oc_call h32
            refine r_cv (z := m_Model_want) (As := [.int 93]) (rest := []) rfl rfl rfl rfl rfl (x_ltn rfl) rfl rfl (E_Model_want  h34 ⟨_, rfl, ?_⟩)
            refine e_k 1 (f' := (if v34 = 0 then 93 else 89, [(0, .ref 112), (2, .int v25)], [])) rfl ?_
            refine e_if (fun c35 => ?_) (fun c35 => ?_)
            · replace h32 := i_pos c35 h32
              refine e_k 1 (f' := (94, [(0, .ref 112), (2, .int v25)], [.int 0])) rfl ?_
              refine e_sub (ls := [(0, .ref 112)]) rfl ⟨rfl, trivial⟩ ?_
              obtain ⟨rfl, rfl, rfl⟩ := s_inj h32
              exact Kj32
            · replace h32 := i_neg c35 h32
              refine e_k 2 (f' := (94, [(0, .ref 112), (2, .int v25)], [.int 1])) rfl ?_
              refine e_sub (ls := [(0, .ref 112)]) rfl ⟨rfl, trivial⟩ ?_
              obtain ⟨rfl, rfl, rfl⟩ := s_inj h32
              exact Kj32
        clear hb
        refine e_if (fun c28 => ?_) (fun c28 => ?_)
        · replace h27 := i_pos c28 h27
          refine e_sub (ls := [(0, .ref 112), (2, .int v25)]) rfl ⟨rfl, rfl, trivial⟩ ?_
          obtain ⟨rfl, rfl, rfl⟩ := s_inj h27
          exact Kj27
        · replace h27 := i_neg c28 h27
          refine e_k 1 (f' := (64, [(2, .int v25), (1, .int x2), (0, .ref 112)], [.ref 112])) rfl ?_
          refine r_geti rfl (x_ltn rfl) rfl rfl ?_
          refine e_k 1 (f' := (if (I25 112 73) = 0 then 76 else 70, [(2, .int v25), (1, .int x2), (0, .ref 112)], [])) rfl ?_
          refine e_if (fun c29 => ?_) (fun c29 => ?_)
          · replace h27 := i_pos c29 h27
            refine e_sub (ls := [(0, .ref 112), (2, .int v25)]) rfl ⟨rfl, rfl, trivial⟩ ?_
            obtain ⟨rfl, rfl, rfl⟩ := s_inj h27
            exact Kj27
          · replace h27 := i_neg c29 h27
            refine e_k 3 (f' := (73, [(2, .int v25), (1, .int x2), (0, .ref 112)], [.int x2, .int 3, .ref 112])) rfl ?_
            obtain ⟨v30, I30, J30, h30, h27⟩ := oc_call h27
            refine r_cv (z := m_Model_note) (As := [.int 3, .int x2]) (rest := []) rfl rfl rfl rfl rfl (x_ltn rfl) rfl rfl (E_Model_note  h30 ⟨_, rfl, ?_⟩)
            refine e_sub (ls := [(0, .ref 112), (2, .int v25)]) rfl ⟨rfl, rfl, trivial⟩ ?_
            obtain ⟨rfl, rfl, rfl⟩ := s_inj h27
            exact Kj27
      · replace hb := i_neg c23 hb
        refine e_k 1 (f' := (43, [(1, .int x2), (0, .ref 112)], [.int 0])) rfl ?_
        obtain ⟨rfl, rfl, rfl⟩ := s_inj hb
        exact e_r rfl rfl K
    · replace hb := i_neg c21 hb
      refine e_k 1 (f' := (29, [(1, .int x2), (0, .ref 112)], [.ref 112])) rfl ?_
      obtain ⟨v38, I38, J38, h38, hb⟩ := oc_call hb
      refine r_cv (z := m_Model_refuse) (As := []) (rest := []) rfl rfl rfl rfl rfl (x_ltn rfl) rfl rfl (E_Model_refuse  h38 ⟨_, rfl, ?_⟩)
      obtain ⟨o39, hb⟩ := ob_if hb
      obtain ⟨rfl, rfl, rfl⟩ := s_inj hb
      exact e_r rfl (if_pos o39) K
def f_Model_readNumber_4 : Nat → Int64 → Int32 → MI → MJ → M2 (Int32 ⊕ (Int64))
  | 0, _, _, _, _ => none
  | fu + 1, l1, l3, I, J => if (I 112 2) ≤ (I 112 5) then (some (.inr l1, I, J)) else (if (I 112 5) < 0 ∨ 400 ≤ Int32.toNatClampNeg (I 112 5) then none else (if (I 113 (Int32.toNatClampNeg (I 112 5))) < 48 then (some (.inr l1, I, J)) else (if (I 112 5) < 0 ∨ 400 ≤ Int32.toNatClampNeg (I 112 5) then none else (if 57 < (I 113 (Int32.toNatClampNeg (I 112 5))) then (some (.inr l1, I, J)) else (if ¬ l3 = 18 then (if (I 112 5) < 0 ∨ 400 ≤ Int32.toNatClampNeg (I 112 5) then none else (pl (((10 * l1) + (Int32.toInt64 (I 113 (Int32.toNatClampNeg (I 112 5))))) - 48 : Int64) (fun x8 => pl (va_up I 112 (upd (I 112) 5 ((I 112 5) + 1))) (fun I9 => f_Model_readNumber_4  fu x8 (l3 + 1) I9 J)))) else (pl (va_up I 112 (upd (I 112) 3 1)) (fun I10 => pl (va_up I10 112 (upd (I10 112) 4 (I10 112 5))) (fun I11 => some (.inl 0, I11, J)))))))))
theorem E_Model_readNumber_4 {X : MX} : ∀ (fu : Nat) {l1 : Int64} {l3 : Int32} {I : MI} {J : MJ} {r : (Int32 ⊕ (Int64))} {I' : MI} {J' : MJ}, f_Model_readNumber_4  fu l1 l3 I J = some (r, I', J') → (∀ v, r = .inl v → P (.inl (some (.int v))) (hX X I' J')) → (∀ u, r = .inr u → am_E (gG L xs) d m_Model_readNumber (101, [(0, .ref 112), (1, .long u)], []) (hX X I' J') P) → am_E (gG L xs) d m_Model_readNumber (4, [(0, .ref 112), (1, .long l1), (3, .int l3)], []) (hX X I J) P := by
  intro fu
  induction fu with
  | zero =>
    intros
    rename_i hb _ _
    cases hb
  | succ fu ih =>
    intro l1 l3 I J r I' J' hb K1 K2
    unfold f_Model_readNumber_4 at hb
    refine e_k 1 (f' := (5, [(0, .ref 112), (1, .long l1), (3, .int l3)], [.ref 112])) rfl ?_
    refine r_geti rfl (x_ltn rfl) rfl rfl ?_
    refine e_k 1 (f' := (9, [(0, .ref 112), (1, .long l1), (3, .int l3)], [.ref 112, .int (I 112 5)])) rfl ?_
    refine r_geti rfl (x_ltn rfl) rfl rfl ?_
    refine e_k 1 (f' := (if (I 112 2) ≤ (I 112 5) then 101 else 15, [(0, .ref 112), (1, .long l1), (3, .int l3)], [])) rfl ?_
    refine e_if (fun c1 => ?_) (fun c1 => ?_)
    · replace hb := i_pos c1 hb
      refine e_sub (ls := [(0, .ref 112), (1, .long l1)]) rfl ⟨rfl, rfl, trivial⟩ ?_
      obtain ⟨rfl, rfl, rfl⟩ := s_inj hb
      exact K2 _ rfl
    · replace hb := i_neg c1 hb
      refine e_k 1 (f' := (16, [(0, .ref 112), (1, .long l1), (3, .int l3)], [.ref 112])) rfl ?_
      refine r_getr rfl (x_ltn rfl) rfl rfl ?_
      refine e_k 1 (f' := (20, [(0, .ref 112), (1, .long l1), (3, .int l3)], [.ref 112, .ref 113])) rfl ?_
      refine r_geti rfl (x_ltn rfl) rfl rfl ?_
      obtain ⟨o2, hb⟩ := ob_in hb
      refine r_iald rfl rfl (x_ltn rfl) rfl o2 ?_
      refine e_k 2 (f' := (if (I 113 (Int32.toNatClampNeg (I 112 5))) < 48 then 101 else 29, [(0, .ref 112), (1, .long l1), (3, .int l3)], [])) rfl ?_
      refine e_if (fun c3 => ?_) (fun c3 => ?_)
      · replace hb := i_pos c3 hb
        refine e_sub (ls := [(0, .ref 112), (1, .long l1)]) rfl ⟨rfl, rfl, trivial⟩ ?_
        obtain ⟨rfl, rfl, rfl⟩ := s_inj hb
        exact K2 _ rfl
      · replace hb := i_neg c3 hb
        refine e_k 1 (f' := (30, [(0, .ref 112), (1, .long l1), (3, .int l3)], [.ref 112])) rfl ?_
        refine r_getr rfl (x_ltn rfl) rfl rfl ?_
        refine e_k 1 (f' := (34, [(0, .ref 112), (1, .long l1), (3, .int l3)], [.ref 112, .ref 113])) rfl ?_
        refine r_geti rfl (x_ltn rfl) rfl rfl ?_
        obtain ⟨o4, hb⟩ := ob_in hb
        refine r_iald rfl rfl (x_ltn rfl) rfl o4 ?_
        refine e_k 2 (f' := (if 57 < (I 113 (Int32.toNatClampNeg (I 112 5))) then 101 else 43, [(0, .ref 112), (1, .long l1), (3, .int l3)], [])) rfl ?_
        refine e_if (fun c5 => ?_) (fun c5 => ?_)
        · replace hb := i_pos c5 hb
          refine e_sub (ls := [(0, .ref 112), (1, .long l1)]) rfl ⟨rfl, rfl, trivial⟩ ?_
          obtain ⟨rfl, rfl, rfl⟩ := s_inj hb
          exact K2 _ rfl
        · replace hb := i_neg c5 hb
          refine e_k 3 (f' := (if ¬ l3 = 18 then 64 else 49, [(0, .ref 112), (1, .long l1), (3, .int l3)], [])) rfl ?_
          refine e_if (fun c6 => ?_) (fun c6 => ?_)
          · replace hb := i_pos c6 hb
            refine e_k 4 (f' := (70, [(0, .ref 112), (1, .long l1), (3, .int l3)], [.ref 112, .long (10 * l1)])) rfl ?_
            refine r_getr rfl (x_ltn rfl) rfl rfl ?_
            refine e_k 1 (f' := (74, [(0, .ref 112), (1, .long l1), (3, .int l3)], [.ref 112, .ref 113, .long (10 * l1)])) rfl ?_
            refine r_geti rfl (x_ltn rfl) rfl rfl ?_
            obtain ⟨o7, hb⟩ := ob_in hb
            refine r_iald rfl rfl (x_ltn rfl) rfl o7 ?_
            refine e_k 5 (f' := (85, [(1, .long (((10 * l1) + (Int32.toInt64 (I 113 (Int32.toNatClampNeg (I 112 5))))) - 48)), (0, .ref 112), (3, .int l3)], [])) rfl ?_
            obtain ⟨x8, ex8, hb⟩ := p_nm hb
            rw [← ex8]
            refine e_k 2 (f' := (87, [(1, .long x8), (0, .ref 112), (3, .int l3)], [.ref 112, .ref 112])) rfl ?_
            refine r_geti rfl (x_ltn rfl) rfl rfl ?_
            refine e_k 2 (f' := (92, [(1, .long x8), (0, .ref 112), (3, .int l3)], [.int ((I 112 5) + 1), .ref 112])) rfl ?_
            obtain ⟨I9, eI9, hb⟩ := p_nm hb
            refine r_puti' rfl (x_ltn rfl) rfl rfl eI9 ?_
            refine e_k 2 (f' := (4, [(3, .int (l3 + 1)), (1, .long x8), (0, .ref 112)], [])) rfl ?_
            refine e_sub (ls := [(0, .ref 112), (1, .long x8), (3, .int (l3 + 1))]) rfl ⟨rfl, rfl, rfl, trivial⟩ ?_
            exact ih  hb K1 K2
          · replace hb := i_neg c6 hb
            refine e_k 2 (f' := (51, [(0, .ref 112), (1, .long l1), (3, .int l3)], [.int 1, .ref 112])) rfl ?_
            obtain ⟨I10, eI10, hb⟩ := p_nm hb
            refine r_puti' rfl (x_ltn rfl) rfl rfl eI10 ?_
            refine e_k 2 (f' := (56, [(0, .ref 112), (1, .long l1), (3, .int l3)], [.ref 112, .ref 112])) rfl ?_
            refine r_geti rfl (x_ltn rfl) rfl rfl ?_
            obtain ⟨I11, eI11, hb⟩ := p_nm hb
            refine r_puti' rfl (x_ltn rfl) rfl rfl eI11 ?_
            refine e_k 1 (f' := (63, [(0, .ref 112), (1, .long l1), (3, .int l3)], [.int 0])) rfl ?_
            obtain ⟨rfl, rfl, rfl⟩ := s_inj hb
            exact e_r rfl rfl (K1 _ rfl)
def f_Model_readNumber_110 : Nat → Int64 → Int32 → MI → MJ → M2 (Unit)
  | 0, _, _, _, _ => none
  | fu + 1, l1, l4, I, J => if l4 < 0 then (some ((), I, J)) else (oc (f_Model_lay_IV (Int64.toInt32 ((l1 >>> ((Int32.toInt64 (8 * l4)) &&& 63)) &&& 255)) I J) (fun v15 I15 J15 => f_Model_readNumber_110  fu l1 (l4 + (-1)) I15 J15))
theorem E_Model_readNumber_110 {X : MX} : ∀ (fu : Nat) {l1 : Int64} {l4 : Int32} {I : MI} {J : MJ} {r : (Unit)} {I' : MI} {J' : MJ}, f_Model_readNumber_110  fu l1 l4 I J = some (r, I', J') → am_E (gG L xs) (d + 1) m_Model_readNumber (137, [], []) (hX X I' J') P → am_E (gG L xs) (d + 1) m_Model_readNumber (110, [(0, .ref 112), (1, .long l1), (4, .int l4)], []) (hX X I J) P := by
  intro fu
  induction fu with
  | zero =>
    intros
    rename_i hb _
    cases hb
  | succ fu ih =>
    intro l1 l4 I J r I' J' hb K
    unfold f_Model_readNumber_110 at hb
    refine e_k 2 (f' := (if l4 < 0 then 137 else 115, [(0, .ref 112), (1, .long l1), (4, .int l4)], [])) rfl ?_
    refine e_if (fun c14 => ?_) (fun c14 => ?_)
    · replace hb := i_pos c14 hb
      refine e_sub (ls := []) rfl ⟨⟩ ?_
      obtain ⟨rfl, rfl, rfl⟩ := s_inj hb
      exact K
    · replace hb := i_neg c14 hb
      refine e_k 9 (f' := (128, [(0, .ref 112), (1, .long l1), (4, .int l4)], [.int (Int64.toInt32 ((l1 >>> ((Int32.toInt64 (8 * l4)) &&& 63)) &&& 255)), .ref 112])) rfl ?_
      obtain ⟨v15, I15, J15, h15, hb⟩ := oc_call hb
      refine r_cv (z := m_Model_lay_IV) (As := [.int (Int64.toInt32 ((l1 >>> ((Int32.toInt64 (8 * l4)) &&& 63)) &&& 255))]) (rest := []) rfl rfl rfl rfl rfl (x_ltn rfl) rfl rfl (E_Model_lay_IV  h15 ⟨_, rfl, ?_⟩)
      refine e_k 2 (f' := (110, [(4, .int (l4 + (-1))), (0, .ref 112), (1, .long l1)], [])) rfl ?_
      refine e_sub (ls := [(0, .ref 112), (1, .long l1), (4, .int (l4 + (-1)))]) rfl ⟨rfl, rfl, rfl, trivial⟩ ?_
      exact ih  hb K
def f_Model_readNumber (I : MI) (J : MJ) : M2 Int32 := oc (f_Model_readNumber_4  gF 0 0 I J) (fun q12 I12 J12 => oe q12 (fun y12 => some (y12, I12, J12)) (fun u12 => oc (f_Model_lay_IV 1 I12 J12) (fun v13 I13 J13 => oc (f_Model_readNumber_110  gF u12 7 I13 J13) (fun u16 I16 J16 => some (1, I16, J16)))))
theorem E_Model_readNumber {X : MX} {I : MI} {J : MJ} {v : Int32} {I' : MI} {J' : MJ} (hb : f_Model_readNumber  I J = some (v, I', J')) (K : P (.inl (some (.int v))) (hX X I' J')) : am_E (gG L xs) (d + 1) m_Model_readNumber (0, lv_args 0 [.ref 112], []) (hX X I J) P := by
  unfold f_Model_readNumber at hb
  refine e_k 4 (f' := (4, [(3, .int 0), (1, .long 0), (0, .ref 112)], [])) rfl ?_
  refine e_sub (ls := [(0, .ref 112), (1, .long 0), (3, .int 0)]) rfl ⟨rfl, rfl, rfl, trivial⟩ ?_
  obtain ⟨q12, I12, J12, h12, hb⟩ := oc_call hb
  refine E_Model_readNumber_4  gF  h12 (fun y12 ey12 => ?_) (fun u12 ey12 => ?_)
  · subst ey12
    replace hb := oe_l hb
    obtain ⟨rfl, rfl, rfl⟩ := s_inj hb
    exact K
  · subst ey12
    replace hb := oe_r hb
    refine e_k 2 (f' := (103, [(0, .ref 112), (1, .long u12)], [.int 1, .ref 112])) rfl ?_
    obtain ⟨v13, I13, J13, h13, hb⟩ := oc_call hb
    refine r_cv (z := m_Model_lay_IV) (As := [.int 1]) (rest := []) rfl rfl rfl rfl rfl (x_ltn rfl) rfl rfl (E_Model_lay_IV  h13 ⟨_, rfl, ?_⟩)
    refine e_k 2 (f' := (110, [(4, .int 7), (0, .ref 112), (1, .long u12)], [])) rfl ?_
    refine e_sub (ls := [(0, .ref 112), (1, .long u12), (4, .int 7)]) rfl ⟨rfl, rfl, rfl, trivial⟩ ?_
    obtain ⟨u16, I16, J16, h16, hb⟩ := oc_call hb
    refine E_Model_readNumber_110  gF  h16 ?_
    refine e_k 1 (f' := (138, [], [.int 1])) rfl ?_
    obtain ⟨rfl, rfl, rfl⟩ := s_inj hb
    exact e_r rfl rfl K
def f_Model_readStatements_0 (R : M3) : Nat → MI → MJ → M2 (Int32 ⊕ (Unit))
  | 0, _, _ => none
  | fu + 1, I, J => oc (f_Model_see  I J) (fun v1 I1 J1 => if v1 = 0 then (some (.inr (), I1, J1)) else (oc (f_Model_see  I1 J1) (fun v3 I3 J3 => if v3 = 124 then (some (.inr (), I3, J3)) else (oc (f_Model_see  I3 J3) (fun v5 I5 J5 => if v5 = 93 then (some (.inr (), I5, J5)) else (oc (R 6 0 0 I5 J5) (fun v7 I7 J7 => if ¬ v7 = 0 then (f_Model_readStatements_0 R  fu  I7 J7) else (some (.inl 0, I7, J7)))))))))
theorem E_Model_readStatements_0 {R : M3} {X : MX} (hR_0 : ∀ {I : MI} {J : MJ} {v : Int32} {I' : MI} {J' : MJ} {P : am_R → am_H → Prop}, R 0 0 0 I J = some (v, I', J') → P (.inl (some (.int v))) (hX X I' J') → am_E (gG L xs) d m_Model_readX (0, lv_args 0 [.ref 112], []) (hX X I J) P) (hR_1 : ∀ {I : MI} {J : MJ} {v : Int32} {I' : MI} {J' : MJ} {P : am_R → am_H → Prop}, R 1 0 0 I J = some (v, I', J') → P (.inl (some (.int v))) (hX X I' J') → am_E (gG L xs) d m_Model_readProduct (0, lv_args 0 [.ref 112], []) (hX X I J) P) (hR_2 : ∀ {I : MI} {J : MJ} {v : Int32} {I' : MI} {J' : MJ} {P : am_R → am_H → Prop}, R 2 0 0 I J = some (v, I', J') → P (.inl (some (.int v))) (hX X I' J') → am_E (gG L xs) d m_Model_readFactor (0, lv_args 0 [.ref 112], []) (hX X I J) P) (hR_3 : ∀ {I : MI} {J : MJ} {v : Int32} {I' : MI} {J' : MJ} {P : am_R → am_H → Prop}, R 3 0 0 I J = some (v, I', J') → P (.inl (some (.int v))) (hX X I' J') → am_E (gG L xs) d m_Model_readPart (0, lv_args 0 [.ref 112], []) (hX X I J) P) (hR_4 : ∀ {I : MI} {J : MJ} {v : Int32} {I' : MI} {J' : MJ} {P : am_R → am_H → Prop}, R 4 0 0 I J = some (v, I', J') → P (.inl (some (.int v))) (hX X I' J') → am_E (gG L xs) d m_Model_readPlace (0, lv_args 0 [.ref 112], []) (hX X I J) P) (hR_5 : ∀ {I : MI} {J : MJ} {v : Int32} {I' : MI} {J' : MJ} {P : am_R → am_H → Prop}, R 5 0 0 I J = some (v, I', J') → P (.inl (some (.int v))) (hX X I' J') → am_E (gG L xs) d m_Model_readStatements (0, lv_args 0 [.ref 112], []) (hX X I J) P) (hR_6 : ∀ {I : MI} {J : MJ} {v : Int32} {I' : MI} {J' : MJ} {P : am_R → am_H → Prop}, R 6 0 0 I J = some (v, I', J') → P (.inl (some (.int v))) (hX X I' J') → am_E (gG L xs) d m_Model_readStatement (0, lv_args 0 [.ref 112], []) (hX X I J) P) (hR_7 : ∀ {I : MI} {J : MJ} {v : Int32} {I' : MI} {J' : MJ} {P : am_R → am_H → Prop}, R 7 0 0 I J = some (v, I', J') → P (.inl (some (.int v))) (hX X I' J') → am_E (gG L xs) d m_Model_readRoutine (0, lv_args 0 [.ref 112], []) (hX X I J) P) (hR_8 : ∀ {a0 : Int32} {a1 : Int32} {I : MI} {J : MJ} {v : Int32} {I' : MI} {J' : MJ} {P : am_R → am_H → Prop}, R 8 a0 a1 I J = some (v, I', J') → P (.inl (some (.int v))) (hX X I' J') → am_E (gG L xs) d m_Model_readValue (0, lv_args 0 [.ref 112, .int a0, .int a1], []) (hX X I J) P) (hR_9 : ∀ {a0 : Int32} {I : MI} {J : MJ} {v : Int32} {I' : MI} {J' : MJ} {P : am_R → am_H → Prop}, R 9 a0 0 I J = some (v, I', J') → P (.inl (some (.int v))) (hX X I' J') → am_E (gG L xs) d m_Model_readRow (0, lv_args 0 [.ref 112, .int a0], []) (hX X I J) P) (hR_10 : ∀ {a0 : Int32} {I : MI} {J : MJ} {v : Int32} {I' : MI} {J' : MJ} {P : am_R → am_H → Prop}, R 10 a0 0 I J = some (v, I', J') → P (.inl (some (.int v))) (hX X I' J') → am_E (gG L xs) d m_Model_readTurn (0, lv_args 0 [.ref 112, .int a0], []) (hX X I J) P) : ∀ (fu : Nat) {I : MI} {J : MJ} {r : (Int32 ⊕ (Unit))} {I' : MI} {J' : MJ}, f_Model_readStatements_0 R  fu  I J = some (r, I', J') → (∀ v, r = .inl v → P (.inl (some (.int v))) (hX X I' J')) → (∀ u, r = .inr u → am_E (gG L xs) (d + 1) m_Model_readStatements (34, [], []) (hX X I' J') P) → am_E (gG L xs) (d + 1) m_Model_readStatements (0, [(0, .ref 112)], []) (hX X I J) P := by
  intro fu
  induction fu with
  | zero =>
    intros
    rename_i hb _ _
    cases hb
  | succ fu ih =>
    intro I J r I' J' hb K1 K2
    unfold f_Model_readStatements_0 at hb
    refine e_k 1 (f' := (1, [(0, .ref 112)], [.ref 112])) rfl ?_
    obtain ⟨v1, I1, J1, h1, hb⟩ := oc_call hb
    refine r_cv (z := m_Model_see) (As := []) (rest := []) rfl rfl rfl rfl rfl (x_ltn rfl) rfl rfl (E_Model_see  h1 ⟨_, rfl, ?_⟩)
    refine e_k 1 (f' := (if v1 = 0 then 34 else 7, [(0, .ref 112)], [])) rfl ?_
    refine e_if (fun c2 => ?_) (fun c2 => ?_)
    · replace hb := i_pos c2 hb
      refine e_sub (ls := []) rfl ⟨⟩ ?_
      obtain ⟨rfl, rfl, rfl⟩ := s_inj hb
      exact K2 _ rfl
    · replace hb := i_neg c2 hb
      refine e_k 1 (f' := (8, [(0, .ref 112)], [.ref 112])) rfl ?_
      obtain ⟨v3, I3, J3, h3, hb⟩ := oc_call hb
      refine r_cv (z := m_Model_see) (As := []) (rest := []) rfl rfl rfl rfl rfl (x_ltn rfl) rfl rfl (E_Model_see  h3 ⟨_, rfl, ?_⟩)
      refine e_k 2 (f' := (if v3 = 124 then 34 else 16, [(0, .ref 112)], [])) rfl ?_
      refine e_if (fun c4 => ?_) (fun c4 => ?_)
      · replace hb := i_pos c4 hb
        refine e_sub (ls := []) rfl ⟨⟩ ?_
        obtain ⟨rfl, rfl, rfl⟩ := s_inj hb
        exact K2 _ rfl
      · replace hb := i_neg c4 hb
        refine e_k 1 (f' := (17, [(0, .ref 112)], [.ref 112])) rfl ?_
        obtain ⟨v5, I5, J5, h5, hb⟩ := oc_call hb
        refine r_cv (z := m_Model_see) (As := []) (rest := []) rfl rfl rfl rfl rfl (x_ltn rfl) rfl rfl (E_Model_see  h5 ⟨_, rfl, ?_⟩)
        refine e_k 2 (f' := (if v5 = 93 then 34 else 25, [(0, .ref 112)], [])) rfl ?_
        refine e_if (fun c6 => ?_) (fun c6 => ?_)
        · replace hb := i_pos c6 hb
          refine e_sub (ls := []) rfl ⟨⟩ ?_
          obtain ⟨rfl, rfl, rfl⟩ := s_inj hb
          exact K2 _ rfl
        · replace hb := i_neg c6 hb
          refine e_k 1 (f' := (26, [(0, .ref 112)], [.ref 112])) rfl ?_
          obtain ⟨v7, I7, J7, h7, hb⟩ := oc_call hb
          refine r_cv (z := m_Model_readStatement) (As := []) (rest := []) rfl rfl rfl rfl rfl (x_ltn rfl) rfl rfl (hR_6  h7 ⟨_, rfl, ?_⟩)
          refine e_k 1 (f' := (if ¬ v7 = 0 then 0 else 32, [(0, .ref 112)], [])) rfl ?_
          refine e_if (fun c8 => ?_) (fun c8 => ?_)
          · replace hb := i_pos c8 hb
            refine e_sub (ls := [(0, .ref 112)]) rfl ⟨rfl, trivial⟩ ?_
            exact ih  hb K1 K2
          · replace hb := i_neg c8 hb
            refine e_k 1 (f' := (33, [(0, .ref 112)], [.int 0])) rfl ?_
            obtain ⟨rfl, rfl, rfl⟩ := s_inj hb
            exact e_r rfl rfl (K1 _ rfl)
def f_Model_readStatements (R : M3) (I : MI) (J : MJ) : M2 Int32 := oc (f_Model_readStatements_0 R  gF  I J) (fun q9 I9 J9 => oe q9 (fun y9 => some (y9, I9, J9)) (fun u9 => some (1, I9, J9)))
theorem E_Model_readStatements {R : M3} {X : MX} {I : MI} {J : MJ} {v : Int32} {I' : MI} {J' : MJ} (hR_0 : ∀ {I : MI} {J : MJ} {v : Int32} {I' : MI} {J' : MJ} {P : am_R → am_H → Prop}, R 0 0 0 I J = some (v, I', J') → P (.inl (some (.int v))) (hX X I' J') → am_E (gG L xs) d m_Model_readX (0, lv_args 0 [.ref 112], []) (hX X I J) P) (hR_1 : ∀ {I : MI} {J : MJ} {v : Int32} {I' : MI} {J' : MJ} {P : am_R → am_H → Prop}, R 1 0 0 I J = some (v, I', J') → P (.inl (some (.int v))) (hX X I' J') → am_E (gG L xs) d m_Model_readProduct (0, lv_args 0 [.ref 112], []) (hX X I J) P) (hR_2 : ∀ {I : MI} {J : MJ} {v : Int32} {I' : MI} {J' : MJ} {P : am_R → am_H → Prop}, R 2 0 0 I J = some (v, I', J') → P (.inl (some (.int v))) (hX X I' J') → am_E (gG L xs) d m_Model_readFactor (0, lv_args 0 [.ref 112], []) (hX X I J) P) (hR_3 : ∀ {I : MI} {J : MJ} {v : Int32} {I' : MI} {J' : MJ} {P : am_R → am_H → Prop}, R 3 0 0 I J = some (v, I', J') → P (.inl (some (.int v))) (hX X I' J') → am_E (gG L xs) d m_Model_readPart (0, lv_args 0 [.ref 112], []) (hX X I J) P) (hR_4 : ∀ {I : MI} {J : MJ} {v : Int32} {I' : MI} {J' : MJ} {P : am_R → am_H → Prop}, R 4 0 0 I J = some (v, I', J') → P (.inl (some (.int v))) (hX X I' J') → am_E (gG L xs) d m_Model_readPlace (0, lv_args 0 [.ref 112], []) (hX X I J) P) (hR_5 : ∀ {I : MI} {J : MJ} {v : Int32} {I' : MI} {J' : MJ} {P : am_R → am_H → Prop}, R 5 0 0 I J = some (v, I', J') → P (.inl (some (.int v))) (hX X I' J') → am_E (gG L xs) d m_Model_readStatements (0, lv_args 0 [.ref 112], []) (hX X I J) P) (hR_6 : ∀ {I : MI} {J : MJ} {v : Int32} {I' : MI} {J' : MJ} {P : am_R → am_H → Prop}, R 6 0 0 I J = some (v, I', J') → P (.inl (some (.int v))) (hX X I' J') → am_E (gG L xs) d m_Model_readStatement (0, lv_args 0 [.ref 112], []) (hX X I J) P) (hR_7 : ∀ {I : MI} {J : MJ} {v : Int32} {I' : MI} {J' : MJ} {P : am_R → am_H → Prop}, R 7 0 0 I J = some (v, I', J') → P (.inl (some (.int v))) (hX X I' J') → am_E (gG L xs) d m_Model_readRoutine (0, lv_args 0 [.ref 112], []) (hX X I J) P) (hR_8 : ∀ {a0 : Int32} {a1 : Int32} {I : MI} {J : MJ} {v : Int32} {I' : MI} {J' : MJ} {P : am_R → am_H → Prop}, R 8 a0 a1 I J = some (v, I', J') → P (.inl (some (.int v))) (hX X I' J') → am_E (gG L xs) d m_Model_readValue (0, lv_args 0 [.ref 112, .int a0, .int a1], []) (hX X I J) P) (hR_9 : ∀ {a0 : Int32} {I : MI} {J : MJ} {v : Int32} {I' : MI} {J' : MJ} {P : am_R → am_H → Prop}, R 9 a0 0 I J = some (v, I', J') → P (.inl (some (.int v))) (hX X I' J') → am_E (gG L xs) d m_Model_readRow (0, lv_args 0 [.ref 112, .int a0], []) (hX X I J) P) (hR_10 : ∀ {a0 : Int32} {I : MI} {J : MJ} {v : Int32} {I' : MI} {J' : MJ} {P : am_R → am_H → Prop}, R 10 a0 0 I J = some (v, I', J') → P (.inl (some (.int v))) (hX X I' J') → am_E (gG L xs) d m_Model_readTurn (0, lv_args 0 [.ref 112, .int a0], []) (hX X I J) P) (hb : f_Model_readStatements R  I J = some (v, I', J')) (K : P (.inl (some (.int v))) (hX X I' J')) : am_E (gG L xs) (d + 1) m_Model_readStatements (0, lv_args 0 [.ref 112], []) (hX X I J) P := by
  unfold f_Model_readStatements at hb
  refine e_sub (ls := [(0, .ref 112)]) rfl ⟨rfl, trivial⟩ ?_
  obtain ⟨q9, I9, J9, h9, hb⟩ := oc_call hb
  refine E_Model_readStatements_0 hR_0 hR_1 hR_2 hR_3 hR_4 hR_5 hR_6 hR_7 hR_8 hR_9 hR_10 gF  h9 (fun y9 ey9 => ?_) (fun u9 ey9 => ?_)
  · subst ey9
    replace hb := oe_l hb
    obtain ⟨rfl, rfl, rfl⟩ := s_inj hb
    exact K
  · subst ey9
    replace hb := oe_r hb
    refine e_k 1 (f' := (35, [], [.int 1])) rfl ?_
    obtain ⟨rfl, rfl, rfl⟩ := s_inj hb
    exact e_r rfl rfl K
end AUTO
