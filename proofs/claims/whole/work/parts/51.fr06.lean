theorem K_Translator_assign {R : M3} {p2 : Int32} {p3 : Int32} {I : MI} {J : MJ} (hR : ∀ k a b I J, fk sC I J (R k a b I J)) : fk sC I J (f_Translator_assign R p2 p3 I J) := by
  unfold f_Translator_assign
  refine fk_oc (fr_rfl _ _ _) (K_Translator_look ) (fun v1 I1 J1 F1 => ?_)
  refine fk_oc F1 (K_Translator_isArray ) (fun v2 I2 J2 F2 => ?_)
  refine fk_ite (fun c3 => ?_) (fun c3 => ?_)
  · skip
    refine fk_oc F2 (hR 9 0 0 I2 J2) (fun v4 I4 J4 F4 => ?_)
    refine fk_oc F4 (K_Translator_expect ) (fun v5 I5 J5 F5 => ?_)
    refine fk_ite (fun c6 => ?_) (fun c6 => ?_)
    · skip
      refine fk_oc F5 ?_ (fun v8 I8 J8 F7 => ?_)
      · skip
        refine fk_ite (fun c8 => ?_) (fun c8 => ?_)
        · skip
          exact fk_some (fr_rfl _ _ _)
        · skip
          refine fk_oc (fr_rfl _ _ _) (K_Translator_blame ) (fun v10 I10 J10 F9 => ?_)
          exact fk_some F9
      · skip
        refine fk_oc F7 (K_Translator_emit ) (fun v11 I11 J11 F10 => ?_)
        exact fk_some F10
    · skip
      refine fk_oc F5 (K_Translator_emit ) (fun v12 I12 J12 F11 => ?_)
      exact fk_some F11
  · skip
    refine fk_oc F2 (K_Translator_behindNext ) (fun v13 I13 J13 F12 => ?_)
    refine fk_ite (fun c13 => ?_) (fun c13 => ?_)
    · skip
      refine fk_oc F12 (hR 9 0 0 I13 J13) (fun v15 I15 J15 F14 => ?_)
      refine fk_oc F14 (K_Translator_expect ) (fun v16 I16 J16 F15 => ?_)
      refine fk_ite (fun c16 => ?_) (fun c16 => ?_)
      · skip
        refine fk_oc F15 ?_ (fun v19 I19 J19 F17 => ?_)
        · skip
          refine fk_ite (fun c18 => ?_) (fun c18 => ?_)
          · skip
            exact fk_some (fr_rfl _ _ _)
          · skip
            refine fk_oc (fr_rfl _ _ _) (K_Translator_blame ) (fun v21 I21 J21 F19 => ?_)
            exact fk_some F19
        · skip
          refine fk_oc F17 (K_Translator_emit ) (fun v22 I22 J22 F20 => ?_)
          exact fk_some F20
      · skip
        refine fk_oc F15 (K_Translator_emit ) (fun v23 I23 J23 F21 => ?_)
        exact fk_some F21
    · skip
      refine fk_oc F12 (K_Translator_array ) (fun v24 I24 J24 F22 => ?_)
      refine fk_oc F22 (K_Translator_expect ) (fun v25 I25 J25 F23 => ?_)
      refine fk_oc F23 (K_Translator_array ) (fun v26 I26 J26 F24 => ?_)
      refine fk_oc F24 (K_Translator_expect ) (fun v27 I27 J27 F25 => ?_)
      refine fk_oc F25 (K_Translator_wantSecret ) (fun v28 I28 J28 F26 => ?_)
      refine fk_oc F26 (K_Translator_emit ) (fun v29 I29 J29 F27 => ?_)
      refine fk_oc F27 (K_Translator_emit ) (fun v30 I30 J30 F28 => ?_)
      exact fk_some F28
theorem K_Translator_input {p2 : Int32} {p3 : Int32} {I : MI} {J : MJ} : fk sC I J (f_Translator_input p2 p3 I J) := by
  unfold f_Translator_input
  refine fk_oc (fr_rfl _ _ _) (K_Translator_look ) (fun v1 I1 J1 F1 => ?_)
  refine fk_pv (fun x2 => ?_)
  refine fk_oc F1 (K_Translator_digit ) (fun v3 I3 J3 F2 => ?_)
  refine fk_oc F2 (K_Translator_expect ) (fun v4 I4 J4 F3 => ?_)
  refine fk_oc F3 (K_Translator_wantSecret ) (fun v5 I5 J5 F4 => ?_)
  refine fk_oc F4 ?_ (fun v7 I7 J7 F5 => ?_)
  · skip
    refine fk_ite (fun c6 => ?_) (fun c6 => ?_)
    · skip
      exact fk_some (fr_rfl _ _ _)
    · skip
      refine fk_oc (fr_rfl _ _ _) (K_Translator_blame ) (fun v9 I9 J9 F7 => ?_)
      exact fk_some F7
  · skip
    refine fk_oc F5 (K_Translator_emit ) (fun v10 I10 J10 F8 => ?_)
    exact fk_some F8
theorem K_Translator_opening {p2 : Int32} {p3 : Int32} {I : MI} {J : MJ} : fk sC I J (f_Translator_opening p2 p3 I J) := by
  unfold f_Translator_opening
  refine fk_oc (fr_rfl _ _ _) (K_Translator_look ) (fun v1 I1 J1 F1 => ?_)
  refine fk_pv (fun x2 => ?_)
  refine fk_oc F1 (K_Translator_variable ) (fun v3 I3 J3 F2 => ?_)
  refine fk_oc F2 (K_Translator_expect ) (fun v4 I4 J4 F3 => ?_)
  refine fk_oc F3 (K_Translator_wantClear ) (fun v5 I5 J5 F4 => ?_)
  refine fk_oc F4 (K_Translator_wantSecret ) (fun v6 I6 J6 F5 => ?_)
  refine fk_oc F5 (K_Translator_emit ) (fun v7 I7 J7 F6 => ?_)
  exact fk_some F6
theorem K_Translator_arrayByArray {p2 : Int32} {p3 : Int32} {I : MI} {J : MJ} : fk sC I J (f_Translator_arrayByArray p2 p3 I J) := by
  unfold f_Translator_arrayByArray
  refine fk_oc (fr_rfl _ _ _) (K_Translator_array ) (fun v1 I1 J1 F1 => ?_)
  refine fk_oc F1 (K_Translator_look ) (fun v2 I2 J2 F2 => ?_)
  refine fk_oc F2 ?_ (fun v5 I5 J5 F3 => ?_)
  · skip
    refine fk_ite (fun c4 => ?_) (fun c4 => ?_)
    · skip
      refine fk_oc (fr_rfl _ _ _) (K_Translator_pass ) (fun v7 I7 J7 F5 => ?_)
      exact fk_some F5
    · skip
      refine fk_ite (fun c6 => ?_) (fun c6 => ?_)
      · skip
        refine fk_oc (fr_rfl _ _ _) (K_Translator_pass ) (fun v9 I9 J9 F7 => ?_)
        exact fk_some F7
      · skip
        refine fk_ite (fun c8 => ?_) (fun c8 => ?_)
        · skip
          refine fk_oc (fr_rfl _ _ _) (K_Translator_refuse ) (fun v11 I11 J11 F9 => ?_)
          exact fk_some F9
        · skip
          refine fk_oc (fr_rfl _ _ _) (K_Translator_pass ) (fun v12 I12 J12 F10 => ?_)
          exact fk_some F10
  · skip
    refine fk_oc F3 (K_Translator_array ) (fun v13 I13 J13 F11 => ?_)
    refine fk_oc F11 (K_Translator_expect ) (fun v14 I14 J14 F12 => ?_)
    refine fk_oc F12 ?_ (fun v16 I16 J16 F13 => ?_)
    · skip
      refine fk_ite (fun c14 => ?_) (fun c14 => ?_)
      · skip
        exact fk_some (fr_rfl _ _ _)
      · skip
        refine fk_ite (fun c15 => ?_) (fun c15 => ?_)
        · skip
          refine fk_oc (fr_rfl _ _ _) (K_Translator_blame ) (fun v19 I19 J19 F16 => ?_)
          exact fk_some F16
        · skip
          refine fk_ite (fun c17 => ?_) (fun c17 => ?_)
          · skip
            exact fk_some (fr_rfl _ _ _)
          · skip
            refine fk_oc (fr_rfl _ _ _) (K_Translator_blame ) (fun v21 I21 J21 F18 => ?_)
            exact fk_some F18
    · skip
      refine fk_pv (fun v24 => ?_)
      refine fk_oc F13 (K_Translator_emit ) (fun v27 I27 J27 F19 => ?_)
      exact fk_some F19
theorem K_Translator_show {I : MI} {J : MJ} : fk sC I J (f_Translator_show  I J) := by
  unfold f_Translator_show
  refine fk_oc (fr_rfl _ _ _) (K_Translator_pass ) (fun v1 I1 J1 F1 => ?_)
  refine fk_oc F1 (K_Translator_variable ) (fun v2 I2 J2 F2 => ?_)
  refine fk_oc F2 (K_Translator_expect ) (fun v3 I3 J3 F3 => ?_)
  refine fk_ite (fun c4 => ?_) (fun c4 => ?_)
  · skip
    refine fk_oc F3 (K_Translator_emit ) (fun v5 I5 J5 F5 => ?_)
    exact fk_some F5
  · skip
    refine fk_oc F3 (K_Translator_emit ) (fun v6 I6 J6 F6 => ?_)
    exact fk_some F6
theorem K_Translator_routine {R : M3} {p2 : Int32} {I : MI} {J : MJ} (hR : ∀ k a b I J, fk sC I J (R k a b I J)) : fk sC I J (f_Translator_routine R p2 I J) := by
  unfold f_Translator_routine
  refine fk_oc (fr_rfl _ _ _) (K_Translator_pass ) (fun v1 I1 J1 F1 => ?_)
  refine fk_oc F1 (K_Translator_digit ) (fun v2 I2 J2 F2 => ?_)
  refine fk_oc F2 (K_Translator_look ) (fun v3 I3 J3 F3 => ?_)
  refine fk_ite (fun c4 => ?_) (fun c4 => ?_)
  · skip
    refine fk_oc F3 (K_Translator_expect ) (fun v5 I5 J5 F5 => ?_)
    refine fk_oc F5 ?_ (fun v7 I7 J7 F6 => ?_)
    · skip
      refine fk_ite (fun c7 => ?_) (fun c7 => ?_)
      · skip
        exact fk_some (fr_rfl _ _ _)
      · skip
        refine fk_ite (fun c8 => ?_) (fun c8 => ?_)
        · skip
          exact fk_none
        · skip
          refine fk_ite (fun c9 => ?_) (fun c9 => ?_)
          · skip
            exact fk_some (fr_rfl _ _ _)
          · skip
            refine fk_ite (fun c10 => ?_) (fun c10 => ?_)
            · skip
              exact fk_none
            · skip
              refine fk_pI (fr_rfl _ _ _) (by decide) (fun I12 F11 => ?_)
              exact fk_some F11
    · skip
      refine fk_oc F6 (K_Translator_emit ) (fun v13 I13 J13 F12 => ?_)
      exact fk_some F12
  · skip
    refine fk_ite (fun c13 => ?_) (fun c13 => ?_)
    · skip
      refine fk_oc F3 (K_Translator_expect ) (fun v15 I15 J15 F14 => ?_)
      refine fk_oc F14 ?_ (fun v17 I17 J17 F15 => ?_)
      · skip
        refine fk_ite (fun c16 => ?_) (fun c16 => ?_)
        · skip
          exact fk_some (fr_rfl _ _ _)
        · skip
          refine fk_ite (fun c17 => ?_) (fun c17 => ?_)
          · skip
            exact fk_none
          · skip
            refine fk_ite (fun c18 => ?_) (fun c18 => ?_)
            · skip
              exact fk_some (fr_rfl _ _ _)
            · skip
              refine fk_ite (fun c19 => ?_) (fun c19 => ?_)
              · skip
                exact fk_none
              · skip
                refine fk_pI (fr_rfl _ _ _) (by decide) (fun I22 F20 => ?_)
                exact fk_some F20
      · skip
        refine fk_oc F15 (K_Translator_emit ) (fun v23 I23 J23 F21 => ?_)
        exact fk_some F21
    · skip
      refine fk_oc F3 (hR 6 v2 p2 I3 J3) (fun v24 I24 J24 F22 => ?_)
      exact fk_some F22
theorem K_Translator_tell {R : M3} {p2 : Int32} {p3 : Int32} {I : MI} {J : MJ} (hR : ∀ k a b I J, fk sC I J (R k a b I J)) : fk sC I J (f_Translator_tell R p2 p3 I J) := by
  unfold f_Translator_tell
  refine fk_oc (fr_rfl _ _ _) (K_Translator_pass ) (fun v1 I1 J1 F1 => ?_)
  refine fk_pI F1 (by decide) (fun I2 F2 => ?_)
  refine fk_pv (fun x3 => ?_)
  refine fk_oc F2 (K_Translator_emit ) (fun v4 I4 J4 F3 => ?_)
  refine fk_oc F3 ?_ (fun v6 I6 J6 F4 => ?_)
  · skip
    refine fk_ite (fun c5 => ?_) (fun c5 => ?_)
    · skip
      exact fk_some (fr_rfl _ _ _)
    · skip
      refine fk_ite (fun c6 => ?_) (fun c6 => ?_)
      · skip
        exact fk_none
      · skip
        refine fk_oc (fr_rfl _ _ _) ?_ (fun v10 I10 J10 F7 => ?_)
        · skip
          refine fk_ite (fun c8 => ?_) (fun c8 => ?_)
          · skip
            exact fk_some (fr_rfl _ _ _)
          · skip
            refine fk_oc (fr_rfl _ _ _) (K_Translator_blame ) (fun v12 I12 J12 F9 => ?_)
            exact fk_some F9
        · skip
          refine fk_ite (fun c10 => ?_) (fun c10 => ?_)
          · skip
            exact fk_none
          · skip
            refine fk_pI F7 (by decide) (fun I14 F11 => ?_)
            exact fk_some F11
  · skip
    refine fk_oc F4 (hR 0 0 0 I6 J6) (fun v15 I15 J15 F12 => ?_)
    refine fk_oc F12 (K_Translator_expect ) (fun v16 I16 J16 F13 => ?_)
    refine fk_pI F13 (by decide) (fun I17 F14 => ?_)
    refine fk_oc F14 (K_Translator_emit ) (fun v18 I18 J18 F15 => ?_)
    refine fk_oc F15 (K_Row_aim (by decide) (by decide)) (fun v19 I19 J19 F16 => ?_)
    exact fk_some F16
theorem K_Translator_decider {I : MI} {J : MJ} : fk sC I J (f_Translator_decider  I J) := by
  unfold f_Translator_decider
  refine fk_oc (fr_rfl _ _ _) (K_Translator_look ) (fun v1 I1 J1 F1 => ?_)
  refine fk_pv (fun x2 => ?_)
  refine fk_oc F1 (K_Translator_variable ) (fun v3 I3 J3 F2 => ?_)
  refine fk_oc F2 (K_Translator_wantClear ) (fun v4 I4 J4 F3 => ?_)
  exact fk_some F3
theorem K_Translator_factor_40 {R : M3} (hR : ∀ k a b I J, fk sC I J (R k a b I J)) : ∀ (fu : Nat) {l1 : Int32} {l2 : Int32} {I : MI} {J : MJ}, fk sC I J (f_Translator_factor_40 R  fu l1 l2 I J) := by
  intro fu
  induction fu with
  | zero =>
    intros
    exact fk_none
  | succ fu ih =>
    intro l1 l2 I J 
    unfold f_Translator_factor_40
    refine fk_ite (fun c1 => ?_) (fun c1 => ?_)
    · skip
      exact fk_some (fr_rfl _ _ _)
    · skip
      refine fk_oc (fr_rfl _ _ _) (K_Translator_look ) (fun v5 I5 J5 F2 => ?_)
      refine fk_ite (fun c3 => ?_) (fun c3 => ?_)
      · skip
        exact fk_some F2
      · skip
        refine fk_oc F2 (K_Translator_pass ) (fun v7 I7 J7 F4 => ?_)
        refine fk_pv (fun v9 => ?_)
        refine fk_oc F4 (K_Translator_emit ) (fun v11 I11 J11 F5 => ?_)
        exact fk_tail F5 (ih )
theorem K_Translator_factor {R : M3} {I : MI} {J : MJ} (hR : ∀ k a b I J, fk sC I J (R k a b I J)) : fk sC I J (f_Translator_factor R  I J) := by
  unfold f_Translator_factor
  refine fk_oc (fr_rfl _ _ _) (K_Translator_look ) (fun v1 I1 J1 F1 => ?_)
  refine fk_ite (fun c2 => ?_) (fun c2 => ?_)
  · skip
    refine fk_oc F1 (hR 12 0 0 I1 J1) (fun v3 I3 J3 F3 => ?_)
    refine fk_oc F3 (K_Translator_factor_40 hR  gF ) (fun u12 I12 J12 F4 => ?_)
    refine fk_ite (fun c5 => ?_) (fun c5 => ?_)
    · skip
      exact fk_some F4
    · skip
      exact fk_none
  · skip
    refine fk_oc F1 (K_Translator_enter ) (fun v14 I14 J14 F6 => ?_)
    refine fk_oc F6 (hR 11 0 0 I14 J14) (fun v15 I15 J15 F7 => ?_)
    refine fk_oc F7 (K_Translator_leave ) (fun v16 I16 J16 F8 => ?_)
    refine fk_oc F8 (K_Translator_emit ) (fun v17 I17 J17 F9 => ?_)
    refine fk_ite (fun c10 => ?_) (fun c10 => ?_)
    · skip
      exact fk_some F9
    · skip
      exact fk_none
theorem K_Translator_atom {R : M3} {I : MI} {J : MJ} (hR : ∀ k a b I J, fk sC I J (R k a b I J)) : fk sC I J (f_Translator_atom R  I J) := by
  unfold f_Translator_atom
  refine fk_oc (fr_rfl _ _ _) (K_Translator_look ) (fun v1 I1 J1 F1 => ?_)
  refine fk_oc F1 (K_Translator_isVariable ) (fun v2 I2 J2 F2 => ?_)
  refine fk_ite (fun c3 => ?_) (fun c3 => ?_)
  · skip
    refine fk_oc F2 (K_Translator_isArray ) (fun v4 I4 J4 F4 => ?_)
    refine fk_ite (fun c5 => ?_) (fun c5 => ?_)
    · skip
      refine fk_ite (fun c6 => ?_) (fun c6 => ?_)
      · skip
        refine fk_oc F4 (K_Translator_isDigit ) (fun v7 I7 J7 F7 => ?_)
        refine fk_ite (fun c8 => ?_) (fun c8 => ?_)
        · skip
          refine fk_oc F7 (K_Translator_refuse ) (fun v9 I9 J9 F9 => ?_)
          exact fk_some F9
        · skip
          refine fk_oc F7 (K_Translator_literal ) (fun v10 I10 J10 F10 => ?_)
          exact fk_some F10
      · skip
        refine fk_oc F4 (K_Translator_enter ) (fun v11 I11 J11 F11 => ?_)
        refine fk_oc F11 (hR 9 0 0 I11 J11) (fun v12 I12 J12 F12 => ?_)
        refine fk_oc F12 (K_Translator_expect ) (fun v13 I13 J13 F13 => ?_)
        refine fk_oc F13 (K_Translator_leave ) (fun v14 I14 J14 F14 => ?_)
        refine fk_ite (fun c15 => ?_) (fun c15 => ?_)
        · skip
          exact fk_some F14
        · skip
          exact fk_none
    · skip
      refine fk_oc F4 (K_Translator_pass ) (fun v16 I16 J16 F16 => ?_)
      refine fk_oc F16 (hR 13 0 0 I16 J16) (fun v17 I17 J17 F17 => ?_)
      refine fk_oc F17 (K_Translator_emitPlace ) (fun v18 I18 J18 F18 => ?_)
      refine fk_ite (fun c19 => ?_) (fun c19 => ?_)
      · skip
        exact fk_some F18
      · skip
        exact fk_some F18
  · skip
    refine fk_oc F2 (K_Translator_pass ) (fun v20 I20 J20 F20 => ?_)
    refine fk_pv (fun x21 => ?_)
    refine fk_pv (fun v23 => ?_)
    refine fk_pv (fun v26 => ?_)
    refine fk_oc F20 (K_Translator_emit ) (fun v28 I28 J28 F21 => ?_)
    refine fk_ite (fun c22 => ?_) (fun c22 => ?_)
    · skip
      exact fk_some F21
    · skip
      exact fk_some F21
theorem K_Translator_index {R : M3} {I : MI} {J : MJ} (hR : ∀ k a b I J, fk sC I J (R k a b I J)) : fk sC I J (f_Translator_index R  I J) := by
  unfold f_Translator_index
  refine fk_oc (fr_rfl _ _ _) (K_Translator_look ) (fun v1 I1 J1 F1 => ?_)
  refine fk_oc F1 ?_ (fun v3 I3 J3 F2 => ?_)
  · skip
    refine fk_ite (fun c3 => ?_) (fun c3 => ?_)
    · skip
      exact fk_some (fr_rfl _ _ _)
    · skip
      refine fk_oc (fr_rfl _ _ _) (K_Translator_refuse ) (fun v5 I5 J5 F4 => ?_)
      exact fk_some F4
  · skip
    refine fk_pv (fun x6 => ?_)
    refine fk_oc F2 (K_Translator_enter ) (fun v7 I7 J7 F5 => ?_)
    refine fk_oc F5 (hR 9 0 0 I7 J7) (fun v8 I8 J8 F6 => ?_)
    refine fk_oc F6 (K_Translator_expect ) (fun v9 I9 J9 F7 => ?_)
    refine fk_oc F7 (K_Translator_leave ) (fun v10 I10 J10 F8 => ?_)
    refine fk_ite (fun c9 => ?_) (fun c9 => ?_)
    · skip
      exact fk_some F8
    · skip
      refine fk_oc F8 (K_Translator_blame ) (fun v12 I12 J12 F10 => ?_)
      exact fk_some F10
theorem K_Verifier_fits {r2 : Nat} {b2 : Nat} {m2 : Nat} {p3 : Int32} {I : MI} {J : MJ} (h_r2 : ¬ sC r2) (h_b2 : ¬ sC b2) : fk sC I J (f_Verifier_fits r2 b2 m2 p3 I J) := by
  unfold f_Verifier_fits
  refine fk_oc (fr_rfl _ _ _) (K_Row_at h_r2 h_b2) (fun v1 I1 J1 F1 => ?_)
  refine fk_ite (fun c2 => ?_) (fun c2 => ?_)
  · skip
    refine fk_ite (fun c3 => ?_) (fun c3 => ?_)
    · skip
      exact fk_some F1
    · skip
      exact fk_some F1
  · skip
    refine fk_ite (fun c4 => ?_) (fun c4 => ?_)
    · skip
      refine fk_oc F1 (K_Verifier_pushes ) (fun v5 I5 J5 F5 => ?_)
      refine fk_ite (fun c6 => ?_) (fun c6 => ?_)
      · skip
        exact fk_some F5
      · skip
        exact fk_none
    · skip
      refine fk_ite (fun c7 => ?_) (fun c7 => ?_)
      · skip
        refine fk_oc F1 (K_Verifier_pushes ) (fun v8 I8 J8 F8 => ?_)
        refine fk_ite (fun c9 => ?_) (fun c9 => ?_)
        · skip
          exact fk_some F8
        · skip
          exact fk_none
      · skip
        refine fk_ite (fun c10 => ?_) (fun c10 => ?_)
        · skip
          refine fk_ite (fun c11 => ?_) (fun c11 => ?_)
          · skip
            exact fk_some F1
          · skip
            refine fk_oc F1 (K_Verifier_joins ) (fun v12 I12 J12 F12 => ?_)
            refine fk_ite (fun c13 => ?_) (fun c13 => ?_)
            · skip
              exact fk_some F12
            · skip
              exact fk_some F12
        · skip
          refine fk_ite (fun c14 => ?_) (fun c14 => ?_)
          · skip
            refine fk_ite (fun c15 => ?_) (fun c15 => ?_)
            · skip
              exact fk_some F1
            · skip
              refine fk_oc F1 (K_Verifier_isSecret ) (fun v16 I16 J16 F16 => ?_)
              refine fk_ite (fun c17 => ?_) (fun c17 => ?_)
              · skip
                refine fk_oc F16 (K_Verifier_joins ) (fun v18 I18 J18 F18 => ?_)
                refine fk_ite (fun c19 => ?_) (fun c19 => ?_)
                · skip
                  exact fk_some F18
                · skip
                  exact fk_some F18
              · skip
                refine fk_oc F16 (K_Verifier_isSecret ) (fun v20 I20 J20 F20 => ?_)
                refine fk_ite (fun c21 => ?_) (fun c21 => ?_)
                · skip
                  exact fk_some F20
                · skip
                  refine fk_oc F20 (K_Verifier_joins ) (fun v22 I22 J22 F22 => ?_)
                  refine fk_ite (fun c23 => ?_) (fun c23 => ?_)
                  · skip
                    exact fk_some F22
                  · skip
                    exact fk_some F22
          · skip
            refine fk_ite (fun c24 => ?_) (fun c24 => ?_)
            · skip
              refine fk_ite (fun c25 => ?_) (fun c25 => ?_)
              · skip
                exact fk_some F1
              · skip
                refine fk_oc F1 (K_Verifier_isSecret ) (fun v26 I26 J26 F26 => ?_)
                refine fk_ite (fun c27 => ?_) (fun c27 => ?_)
                · skip
                  exact fk_some F26
                · skip
                  refine fk_oc F26 (K_Verifier_isSecret ) (fun v28 I28 J28 F28 => ?_)
                  refine fk_ite (fun c29 => ?_) (fun c29 => ?_)
                  · skip
                    exact fk_some F28
                  · skip
                    refine fk_oc F28 (K_Verifier_joins ) (fun v30 I30 J30 F30 => ?_)
                    refine fk_ite (fun c31 => ?_) (fun c31 => ?_)
                    · skip
                      exact fk_some F30
                    · skip
                      exact fk_some F30
            · skip
              refine fk_ite (fun c32 => ?_) (fun c32 => ?_)
              · skip
                refine fk_ite (fun c33 => ?_) (fun c33 => ?_)
                · skip
                  exact fk_some F1
                · skip
                  exact fk_some F1
              · skip
                refine fk_ite (fun c34 => ?_) (fun c34 => ?_)
                · skip
                  refine fk_ite (fun c35 => ?_) (fun c35 => ?_)
                  · skip
                    exact fk_some F1
                  · skip
                    refine fk_oc F1 (K_Verifier_isSecret ) (fun v36 I36 J36 F36 => ?_)
                    refine fk_ite (fun c37 => ?_) (fun c37 => ?_)
                    · skip
                      exact fk_some F36
                    · skip
                      exact fk_some F36
                · skip
                  refine fk_ite (fun c38 => ?_) (fun c38 => ?_)
                  · skip
                    refine fk_ite (fun c39 => ?_) (fun c39 => ?_)
                    · skip
                      exact fk_some F1
                    · skip
                      refine fk_oc F1 (K_Verifier_isSecret ) (fun v40 I40 J40 F40 => ?_)
                      refine fk_ite (fun c41 => ?_) (fun c41 => ?_)
                      · skip
                        exact fk_some F40
                      · skip
                        exact fk_some F40
                  · skip
                    refine fk_ite (fun c42 => ?_) (fun c42 => ?_)
                    · skip
                      refine fk_ite (fun c43 => ?_) (fun c43 => ?_)
                      · skip
                        exact fk_some F1
                      · skip
                        refine fk_oc F1 (K_Verifier_isSecret ) (fun v44 I44 J44 F44 => ?_)
                        refine fk_ite (fun c45 => ?_) (fun c45 => ?_)
                        · skip
                          exact fk_some F44
                        · skip
                          refine fk_oc F44 (K_Verifier_drops ) (fun v46 I46 J46 F46 => ?_)
                          refine fk_ite (fun c47 => ?_) (fun c47 => ?_)
                          · skip
                            exact fk_some F46
                          · skip
                            exact fk_some F46
                    · skip
                      refine fk_ite (fun c48 => ?_) (fun c48 => ?_)
                      · skip
                        refine fk_ite (fun c49 => ?_) (fun c49 => ?_)
                        · skip
                          exact fk_some F1
                        · skip
                          refine fk_oc F1 (K_Verifier_drops ) (fun v50 I50 J50 F50 => ?_)
                          refine fk_ite (fun c51 => ?_) (fun c51 => ?_)
                          · skip
                            exact fk_some F50
                          · skip
                            exact fk_some F50
                      · skip
                        refine fk_ite (fun c52 => ?_) (fun c52 => ?_)
                        · skip
                          refine fk_ite (fun c53 => ?_) (fun c53 => ?_)
                          · skip
                            exact fk_some F1
                          · skip
                            refine fk_oc F1 (K_Verifier_isSecret ) (fun v54 I54 J54 F54 => ?_)
                            refine fk_ite (fun c55 => ?_) (fun c55 => ?_)
                            · skip
                              exact fk_some F54
                            · skip
                              refine fk_oc F54 (K_Verifier_drops ) (fun v56 I56 J56 F56 => ?_)
                              refine fk_ite (fun c57 => ?_) (fun c57 => ?_)
                              · skip
                                exact fk_some F56
                              · skip
                                refine fk_oc F56 (K_Verifier_pushes ) (fun v58 I58 J58 F58 => ?_)
                                refine fk_ite (fun c59 => ?_) (fun c59 => ?_)
                                · skip
                                  exact fk_some F58
                                · skip
                                  exact fk_some F58
                        · skip
                          refine fk_ite (fun c60 => ?_) (fun c60 => ?_)
                          · skip
                            refine fk_ite (fun c61 => ?_) (fun c61 => ?_)
                            · skip
                              exact fk_some F1
                            · skip
                              refine fk_oc F1 (K_Verifier_isSecret ) (fun v62 I62 J62 F62 => ?_)
                              refine fk_ite (fun c63 => ?_) (fun c63 => ?_)
                              · skip
                                exact fk_some F62
                              · skip
                                refine fk_oc F62 (K_Verifier_isSecret ) (fun v64 I64 J64 F64 => ?_)
                                refine fk_ite (fun c65 => ?_) (fun c65 => ?_)
                                · skip
                                  exact fk_some F64
                                · skip
                                  refine fk_oc F64 (K_Verifier_drops ) (fun v66 I66 J66 F66 => ?_)
                                  refine fk_ite (fun c67 => ?_) (fun c67 => ?_)
                                  · skip
                                    exact fk_some F66
                                  · skip
                                    exact fk_some F66
                          · skip
                            refine fk_ite (fun c68 => ?_) (fun c68 => ?_)
                            · skip
                              refine fk_ite (fun c69 => ?_) (fun c69 => ?_)
                              · skip
                                exact fk_some F1
                              · skip
                                refine fk_oc F1 (K_Verifier_isSecret ) (fun v70 I70 J70 F70 => ?_)
                                refine fk_ite (fun c71 => ?_) (fun c71 => ?_)
                                · skip
                                  exact fk_some F70
                                · skip
                                  refine fk_oc F70 (K_Verifier_drops ) (fun v72 I72 J72 F72 => ?_)
                                  refine fk_ite (fun c73 => ?_) (fun c73 => ?_)
                                  · skip
                                    exact fk_some F72
                                  · skip
                                    exact fk_some F72
                            · skip
                              refine fk_ite (fun c74 => ?_) (fun c74 => ?_)
                              · skip
                                refine fk_oc F1 (K_Verifier_keepsSecret h_r2 h_b2) (fun v75 I75 J75 F75 => ?_)
                                refine fk_ite (fun c76 => ?_) (fun c76 => ?_)
                                · skip
                                  exact fk_some F75
                                · skip
                                  exact fk_none
                              · skip
                                exact fk_some F1
theorem K_Hall_startAnew_2 : ∀ (fu : Nat) {l1 : Int32} {I : MI} {J : MJ}, fk sC I J (f_Hall_startAnew_2  fu l1 I J) := by
  intro fu
  induction fu with
  | zero =>
    intros
    exact fk_none
  | succ fu ih =>
    intro l1 I J 
    unfold f_Hall_startAnew_2
    refine fk_ite (fun c1 => ?_) (fun c1 => ?_)
    · skip
      exact fk_some (fr_rfl _ _ _)
    · skip
      refine fk_oc (fr_rfl _ _ _) (K_Hall_evenOut ) (fun v2 I2 J2 F2 => ?_)
      exact fk_tail F2 (ih )
theorem K_Hall_startAnew_53 : ∀ (fu : Nat) {l1 : Int32} {q2 : Nat} {l3 : Int32} {I : MI} {J : MJ}, q2 < 4 → fk sC I J (f_Hall_startAnew_53  fu l1 q2 l3 I J) := by
  intro fu
  induction fu with
  | zero =>
    intros
    exact fk_none
  | succ fu ih =>
    intro l1 q2 l3 I J h_q2
    unfold f_Hall_startAnew_53
    refine fk_ite (fun c1 => ?_) (fun c1 => ?_)
    · skip
      exact fk_some (fr_rfl _ _ _)
    · skip
      refine fk_ite (fun c2 => ?_) (fun c2 => ?_)
      · skip
        exact fk_none
      · skip
        refine fk_ite (fun c3 => ?_) (fun c3 => ?_)
        · skip
          exact fk_none
        · skip
          refine fk_pI (fr_rfl _ _ _) (sC_p (by decide) h_q2) (fun I12 F4 => ?_)
          exact fk_tail F4 (ih h_q2)
theorem K_Hall_startAnew_32 : ∀ (fu : Nat) {l1 : Int32} {I : MI} {J : MJ}, fk sC I J (f_Hall_startAnew_32  fu l1 I J) := by
  intro fu
  induction fu with
  | zero =>
    intros
    exact fk_none
  | succ fu ih =>
    intro l1 I J 
    unfold f_Hall_startAnew_32
    refine fk_ite (fun c1 => ?_) (fun c1 => ?_)
    · skip
      exact fk_some (fr_rfl _ _ _)
    · skip
      refine fk_ite (fun c2 => ?_) (fun c2 => ?_)
      · skip
        exact fk_none
      · skip
        refine fk_oc (fr_rfl _ _ _) (K_Party_startAnew (vp_lt c2)) (fun v8 I8 J8 F3 => ?_)
        refine fk_oc F3 (K_Hall_startAnew_53  gF (vp_lt c2)) (fun u13 I13 J13 F4 => ?_)
        refine fk_oc F4 (K_Hall_settle (vp_lt c2)) (fun v14 I14 J14 F5 => ?_)
        exact fk_tail F5 (ih )
theorem K_Hall_startAnew {I : MI} {J : MJ} : fk sC I J (f_Hall_startAnew  I J) := by
  unfold f_Hall_startAnew
  refine fk_oc (fr_rfl _ _ _) (K_Hall_startAnew_2  gF ) (fun u3 I3 J3 F1 => ?_)
  refine fk_oc F1 (K_Errors_wipe ) (fun v4 I4 J4 F2 => ?_)
  refine fk_pI F2 (by decide) (fun I5 F3 => ?_)
  refine fk_oc F3 (K_Hall_startAnew_32  gF ) (fun u15 I15 J15 F4 => ?_)
  exact fk_some F4
theorem K_Hall_exchange {w2 : Nat} {p3 : Int32} {I : MI} {J : MJ} (h_w2 : w2 < 4) : fk sC I J (f_Hall_exchange w2 p3 I J) := by
  unfold f_Hall_exchange
  refine fk_ite (fun c1 => ?_) (fun c1 => ?_)
  · skip
    refine fk_oc (fr_rfl _ _ _) ?_ (fun v3 I3 J3 F2 => ?_)
    · skip
      refine fk_ite (fun c3 => ?_) (fun c3 => ?_)
      · skip
        exact fk_some (fr_rfl _ _ _)
      · skip
        refine fk_oc (fr_rfl _ _ _) (K_Row_at (by decide) (by decide)) (fun v5 I5 J5 F4 => ?_)
        exact fk_some F4
    · skip
      refine fk_oc F2 (K_Hall_receives h_w2) (fun v6 I6 J6 F5 => ?_)
      refine fk_ite (fun c6 => ?_) (fun c6 => ?_)
      · skip
        refine fk_oc F5 (K_Hall_numbersOf ) (fun v8 I8 J8 F7 => ?_)
        refine fk_oc F7 (K_Hall_gatherErrors h_w2) (fun v9 I9 J9 F8 => ?_)
        refine fk_oc F8 (K_Hall_conclude h_w2) (fun v10 I10 J10 F9 => ?_)
        refine fk_oc F9 (K_Sh_lengthOf ) (fun v11 I11 J11 F10 => ?_)
        refine fk_oc F10 (K_Hall_settle h_w2) (fun v12 I12 J12 F11 => ?_)
        exact fk_some F11
      · skip
        exact fk_some F5
  · skip
    refine fk_oc (fr_rfl _ _ _) (K_Hall_sends h_w2) (fun v13 I13 J13 F12 => ?_)
    refine fk_ite (fun c13 => ?_) (fun c13 => ?_)
    · skip
      refine fk_pI F12 (sC_p (by decide) h_w2) (fun I15 F14 => ?_)
      refine fk_oc F14 (K_Hall_use h_w2) (fun v16 I16 J16 F15 => ?_)
      refine fk_pI F15 (sC_p (by decide) h_w2) (fun I17 F16 => ?_)
      exact fk_some F16
    · skip
      exact fk_some F12
theorem K_Hall_checkStep {w2 : Nat} {I : MI} {J : MJ} (h_w2 : w2 < 4) : fk sC I J (f_Hall_checkStep w2 I J) := by
  unfold f_Hall_checkStep
  refine fk_pv (fun v2 => ?_)
  refine fk_oc (fr_rfl _ _ _) ?_ (fun v6 I6 J6 F1 => ?_)
  · skip
    refine fk_ite (fun c2 => ?_) (fun c2 => ?_)
    · skip
      refine fk_oc (fr_rfl _ _ _) (K_Hall_receives h_w2) (fun v8 I8 J8 F3 => ?_)
      exact fk_some F3
    · skip
      refine fk_oc (fr_rfl _ _ _) (K_Hall_sends h_w2) (fun v9 I9 J9 F4 => ?_)
      exact fk_some F4
  · skip
    refine fk_ite (fun c5 => ?_) (fun c5 => ?_)
    · skip
      refine fk_pI F1 (sC_p (by decide) h_w2) (fun I11 F6 => ?_)
      refine fk_ite (fun c7 => ?_) (fun c7 => ?_)
      · skip
        refine fk_oc F6 (K_Check_drawCoinAndNonce h_w2) (fun v13 I13 J13 F8 => ?_)
        exact fk_some F8
      · skip
        refine fk_ite (fun c9 => ?_) (fun c9 => ?_)
        · skip
          refine fk_oc F6 (K_Hall_noteBonds h_w2) (fun v15 I15 J15 F10 => ?_)
          exact fk_some F10
        · skip
          refine fk_ite (fun c11 => ?_) (fun c11 => ?_)
          · skip
            refine fk_oc F6 (K_Check_drawNonce h_w2) (fun v17 I17 J17 F12 => ?_)
            exact fk_some F12
          · skip
            refine fk_ite (fun c13 => ?_) (fun c13 => ?_)
            · skip
              refine fk_oc F6 (K_Hall_judge h_w2) (fun v19 I19 J19 F14 => ?_)
              exact fk_some F14
            · skip
              exact fk_some F6
    · skip
      exact fk_some F1
theorem K_Translator_statement {R : M3} {I : MI} {J : MJ} (hR : ∀ k a b I J, fk sC I J (R k a b I J)) : fk sC I J (f_Translator_statement R  I J) := by
  unfold f_Translator_statement
  refine fk_oc (fr_rfl _ _ _) (K_Translator_look ) (fun v1 I1 J1 F1 => ?_)
  refine fk_oc F1 (K_Translator_isVariable ) (fun v2 I2 J2 F2 => ?_)
  refine fk_ite (fun c3 => ?_) (fun c3 => ?_)
  · skip
    refine fk_oc F2 (K_Translator_isArray ) (fun v4 I4 J4 F4 => ?_)
    refine fk_ite (fun c5 => ?_) (fun c5 => ?_)
    · skip
      refine fk_ite (fun c6 => ?_) (fun c6 => ?_)
      · skip
        refine fk_ite (fun c7 => ?_) (fun c7 => ?_)
        · skip
          refine fk_ite (fun c8 => ?_) (fun c8 => ?_)
          · skip
            refine fk_ite (fun c9 => ?_) (fun c9 => ?_)
            · skip
              exact fk_some F4
            · skip
              refine fk_oc F4 (hR 8 0 0 I4 J4) (fun v10 I10 J10 F10 => ?_)
              exact fk_some F10
          · skip
            refine fk_oc F4 (hR 7 0 0 I4 J4) (fun v11 I11 J11 F11 => ?_)
            exact fk_some F11
        · skip
          refine fk_oc F4 (hR 5 (I4 3 5) 0 I4 J4) (fun v12 I12 J12 F12 => ?_)
          exact fk_some F12
      · skip
        refine fk_oc F4 (K_Translator_show ) (fun v13 I13 J13 F13 => ?_)
        exact fk_some F13
    · skip
      refine fk_oc F4 (hR 4 (v1 - 65) (I4 3 5) I4 J4) (fun v14 I14 J14 F14 => ?_)
      exact fk_some F14
  · skip
    refine fk_oc F2 (hR 2 (v1 - 97) (I2 3 5) I2 J2) (fun v15 I15 J15 F15 => ?_)
    exact fk_some F15
theorem K_Translator_variableStatement {R : M3} {p2 : Int32} {p3 : Int32} {I : MI} {J : MJ} (hR : ∀ k a b I J, fk sC I J (R k a b I J)) : fk sC I J (f_Translator_variableStatement R p2 p3 I J) := by
  unfold f_Translator_variableStatement
  refine fk_oc (fr_rfl _ _ _) (K_Translator_pass ) (fun v1 I1 J1 F1 => ?_)
  refine fk_oc F1 (K_Translator_look ) (fun v2 I2 J2 F2 => ?_)
  refine fk_ite (fun c3 => ?_) (fun c3 => ?_)
  · skip
    refine fk_ite (fun c4 => ?_) (fun c4 => ?_)
    · skip
      refine fk_ite (fun c5 => ?_) (fun c5 => ?_)
      · skip
        refine fk_ite (fun c6 => ?_) (fun c6 => ?_)
        · skip
          refine fk_oc F2 (K_Translator_refuse ) (fun v7 I7 J7 F7 => ?_)
          exact fk_some F7
        · skip
          refine fk_oc F2 (K_Translator_pass ) (fun v8 I8 J8 F8 => ?_)
          refine fk_oc F8 (K_Translator_expect ) (fun v9 I9 J9 F9 => ?_)
          refine fk_oc F9 (K_Translator_wantSecret ) (fun v10 I10 J10 F10 => ?_)
          refine fk_oc F10 (K_Translator_emit ) (fun v11 I11 J11 F11 => ?_)
          exact fk_some F11
      · skip
        refine fk_oc F2 (K_Translator_pass ) (fun v12 I12 J12 F12 => ?_)
        refine fk_oc F12 (K_Translator_opening ) (fun v13 I13 J13 F13 => ?_)
        exact fk_some F13
    · skip
      refine fk_oc F2 (K_Translator_pass ) (fun v14 I14 J14 F14 => ?_)
      refine fk_oc F14 (K_Translator_input ) (fun v15 I15 J15 F15 => ?_)
      exact fk_some F15
  · skip
    refine fk_oc F2 (K_Translator_pass ) (fun v16 I16 J16 F16 => ?_)
    refine fk_oc F16 (hR 3 p2 p3 I16 J16) (fun v17 I17 J17 F17 => ?_)
    exact fk_some F17
theorem K_Translator_arrayStatement {R : M3} {p2 : Int32} {p3 : Int32} {I : MI} {J : MJ} (hR : ∀ k a b I J, fk sC I J (R k a b I J)) : fk sC I J (f_Translator_arrayStatement R p2 p3 I J) := by
  unfold f_Translator_arrayStatement
  refine fk_oc (fr_rfl _ _ _) (K_Translator_pass ) (fun v1 I1 J1 F1 => ?_)
  refine fk_oc F1 (K_Translator_look ) (fun v2 I2 J2 F2 => ?_)
  refine fk_ite (fun c3 => ?_) (fun c3 => ?_)
  · skip
    refine fk_ite (fun c4 => ?_) (fun c4 => ?_)
    · skip
      refine fk_oc F2 (K_Translator_refuse ) (fun v5 I5 J5 F5 => ?_)
      exact fk_some F5
    · skip
      refine fk_oc F2 (K_Translator_pass ) (fun v6 I6 J6 F6 => ?_)
      refine fk_oc F6 (K_Translator_arrayByArray ) (fun v7 I7 J7 F7 => ?_)
      exact fk_some F7
  · skip
    refine fk_oc F2 (hR 13 0 0 I2 J2) (fun v8 I8 J8 F8 => ?_)
    refine fk_oc F8 (K_Translator_expect ) (fun v9 I9 J9 F9 => ?_)
    refine fk_oc F9 (hR 9 0 0 I9 J9) (fun v10 I10 J10 F10 => ?_)
    refine fk_oc F10 (K_Translator_expect ) (fun v11 I11 J11 F11 => ?_)
    refine fk_oc F11 ?_ (fun v13 I13 J13 F12 => ?_)
    · skip
      refine fk_ite (fun c13 => ?_) (fun c13 => ?_)
      · skip
        exact fk_some (fr_rfl _ _ _)
      · skip
        refine fk_ite (fun c14 => ?_) (fun c14 => ?_)
        · skip
          exact fk_some (fr_rfl _ _ _)
        · skip
          refine fk_oc (fr_rfl _ _ _) (K_Translator_blame ) (fun v16 I16 J16 F15 => ?_)
          exact fk_some F15
    · skip
      refine fk_oc F12 (K_Translator_emitPlace ) (fun v17 I17 J17 F16 => ?_)
      exact fk_some F16
theorem K_Translator_choice {R : M3} {I : MI} {J : MJ} (hR : ∀ k a b I J, fk sC I J (R k a b I J)) : fk sC I J (f_Translator_choice R  I J) := by
  unfold f_Translator_choice
  refine fk_oc (fr_rfl _ _ _) (K_Translator_enter ) (fun v1 I1 J1 F1 => ?_)
  refine fk_oc F1 (K_Translator_decider ) (fun v2 I2 J2 F2 => ?_)
  refine fk_oc F2 (K_Translator_expect ) (fun v3 I3 J3 F3 => ?_)
  refine fk_pI F3 (by decide) (fun I4 F4 => ?_)
  refine fk_pv (fun x5 => ?_)
  refine fk_oc F4 (K_Translator_emit ) (fun v6 I6 J6 F5 => ?_)
  refine fk_oc F5 (hR 0 0 0 I6 J6) (fun v7 I7 J7 F6 => ?_)
  refine fk_oc F6 (K_Translator_expect ) (fun v8 I8 J8 F7 => ?_)
  refine fk_pv (fun x9 => ?_)
  refine fk_oc F7 (K_Translator_emit ) (fun v10 I10 J10 F8 => ?_)
  refine fk_oc F8 (K_Row_aim (by decide) (by decide)) (fun v11 I11 J11 F9 => ?_)
  refine fk_oc F9 (hR 0 0 0 I11 J11) (fun v12 I12 J12 F10 => ?_)
  refine fk_oc F10 (K_Translator_expect ) (fun v13 I13 J13 F11 => ?_)
  refine fk_pI F11 (by decide) (fun I14 F12 => ?_)
  refine fk_oc F12 (K_Translator_leave ) (fun v15 I15 J15 F13 => ?_)
  refine fk_oc F13 (K_Row_aim (by decide) (by decide)) (fun v16 I16 J16 F14 => ?_)
  exact fk_some F14
theorem K_Translator_loop {R : M3} {I : MI} {J : MJ} (hR : ∀ k a b I J, fk sC I J (R k a b I J)) : fk sC I J (f_Translator_loop R  I J) := by
  unfold f_Translator_loop
  refine fk_oc (fr_rfl _ _ _) (K_Translator_enter ) (fun v1 I1 J1 F1 => ?_)
  refine fk_oc F1 (K_Translator_decider ) (fun v2 I2 J2 F2 => ?_)
  refine fk_oc F2 (K_Translator_expect ) (fun v3 I3 J3 F3 => ?_)
  refine fk_pI F3 (by decide) (fun I4 F4 => ?_)
  refine fk_pv (fun x5 => ?_)
  refine fk_oc F4 (K_Translator_emit ) (fun v6 I6 J6 F5 => ?_)
  refine fk_oc F5 (hR 0 0 0 I6 J6) (fun v7 I7 J7 F6 => ?_)
  refine fk_oc F6 (K_Translator_expect ) (fun v8 I8 J8 F7 => ?_)
  refine fk_pI F7 (by decide) (fun I9 F8 => ?_)
  refine fk_oc F8 (K_Translator_leave ) (fun v10 I10 J10 F9 => ?_)
  refine fk_pv (fun x11 => ?_)
  refine fk_oc F9 (K_Translator_emit ) (fun v12 I12 J12 F10 => ?_)
  refine fk_oc F10 (K_Row_aim (by decide) (by decide)) (fun v13 I13 J13 F11 => ?_)
  refine fk_oc F11 (K_Row_aim (by decide) (by decide)) (fun v14 I14 J14 F12 => ?_)
  exact fk_some F12
theorem K_RcT : ∀ (fu k : Nat) (a b : Int32) (I : MI) (J : MJ), fk sC I J (f_RcT fu k a b I J) := by
  intro fu
  induction fu with
  | zero =>
    intros
    exact fk_none
  | succ fu ih =>
    intro k a b I J
    unfold f_RcT
    refine fk_cond ?_ ?_
    · exact fk_oc (fr_rfl _ _ _) (K_Translator_statements ih) (fun _ _ _ F => fk_some F)
    refine fk_cond ?_ ?_
    · exact K_Translator_statement ih
    refine fk_cond ?_ ?_
    · exact fk_oc (fr_rfl _ _ _) (K_Translator_variableStatement ih) (fun _ _ _ F => fk_some F)
    refine fk_cond ?_ ?_
    · exact fk_oc (fr_rfl _ _ _) (K_Translator_assign ih) (fun _ _ _ F => fk_some F)
    refine fk_cond ?_ ?_
    · exact fk_oc (fr_rfl _ _ _) (K_Translator_arrayStatement ih) (fun _ _ _ F => fk_some F)
    refine fk_cond ?_ ?_
    · exact fk_oc (fr_rfl _ _ _) (K_Translator_routine ih) (fun _ _ _ F => fk_some F)
    refine fk_cond ?_ ?_
    · exact fk_oc (fr_rfl _ _ _) (K_Translator_tell ih) (fun _ _ _ F => fk_some F)
    refine fk_cond ?_ ?_
    · exact fk_oc (fr_rfl _ _ _) (K_Translator_choice ih) (fun _ _ _ F => fk_some F)
    refine fk_cond ?_ ?_
    · exact fk_oc (fr_rfl _ _ _) (K_Translator_loop ih) (fun _ _ _ F => fk_some F)
    refine fk_cond ?_ ?_
    · exact K_Translator_expression ih
    refine fk_cond ?_ ?_
    · exact K_Translator_product ih
    refine fk_cond ?_ ?_
    · exact K_Translator_factor ih
    refine fk_cond ?_ ?_
    · exact K_Translator_atom ih
    refine fk_cond ?_ ?_
    · exact fk_oc (fr_rfl _ _ _) (K_Translator_index ih) (fun _ _ _ F => fk_some F)
    exact fk_none
theorem K_Verifier_followPile_2 {r2 : Nat} {b2 : Nat} {m2 : Nat} (h_r2 : ¬ sC r2) (h_b2 : ¬ sC b2) : ∀ (fu : Nat) {l2 : Int32} {I : MI} {J : MJ}, fk sC I J (f_Verifier_followPile_2 r2 b2 m2 fu l2 I J) := by
  intro fu
  induction fu with
  | zero =>
    intros
    exact fk_none
  | succ fu ih =>
    intro l2 I J 
    unfold f_Verifier_followPile_2
    refine fk_ite (fun c1 => ?_) (fun c1 => ?_)
    · skip
      exact fk_some (fr_rfl _ _ _)
    · skip
      refine fk_oc (fr_rfl _ _ _) (K_Verifier_isMarked (by decide)) (fun v2 I2 J2 F2 => ?_)
      refine fk_ite (fun c3 => ?_) (fun c3 => ?_)
      · skip
        refine fk_oc F2 (K_Verifier_isMarked (by decide)) (fun v4 I4 J4 F4 => ?_)
        refine fk_ite (fun c5 => ?_) (fun c5 => ?_)
        · skip
          refine fk_oc F4 (K_Verifier_fits h_r2 h_b2) (fun v6 I6 J6 F6 => ?_)
          refine fk_ite (fun c7 => ?_) (fun c7 => ?_)
          · skip
            exact fk_tail F6 (ih )
          · skip
            exact fk_some F6
        · skip
          refine fk_ite (fun c8 => ?_) (fun c8 => ?_)
          · skip
            exact fk_some F4
          · skip
            refine fk_oc F4 (K_Verifier_fits h_r2 h_b2) (fun v9 I9 J9 F9 => ?_)
            refine fk_ite (fun c10 => ?_) (fun c10 => ?_)
            · skip
              exact fk_tail F9 (ih )
            · skip
              exact fk_some F9
      · skip
        exact fk_tail F2 (ih )
theorem K_Verifier_followPile {r2 : Nat} {b2 : Nat} {m2 : Nat} {I : MI} {J : MJ} (h_r2 : ¬ sC r2) (h_b2 : ¬ sC b2) : fk sC I J (f_Verifier_followPile r2 b2 m2 I J) := by
  unfold f_Verifier_followPile
  refine fk_oc (fr_rfl _ _ _) (K_Verifier_followPile_2 h_r2 h_b2 gF ) (fun q11 I11 J11 F1 => ?_)
  refine fk_oe (fun y11 => ?_) (fun u11 => ?_)
  · skip
    exact fk_some F1
  · skip
    refine fk_oc F1 (K_Verifier_refuse ) (fun v12 I12 J12 F2 => ?_)
    exact fk_some F2
theorem K_Sh_compile {I : MI} {J : MJ} : fk sC I J (f_Sh_compile  I J) := by
  unfold f_Sh_compile
  refine fk_oc (fr_rfl _ _ _) (K_Translator_startAnew ) (fun v1 I1 J1 F1 => ?_)
  refine fk_oc F1 (K_RcT 200 0 0 0 I1 J1) (fun v2 I2 J2 F2 => ?_)
  refine fk_oc F2 (K_Translator_finish ) (fun v3 I3 J3 F3 => ?_)
  refine fk_oc F3 (K_Row_wipe (by decide) (by decide)) (fun v4 I4 J4 F4 => ?_)
  refine fk_pI F4 (by decide) (fun I5 F5 => ?_)
  refine fk_pI F5 (by decide) (fun I6 F6 => ?_)
  refine fk_ite (fun c7 => ?_) (fun c7 => ?_)
  · skip
    refine fk_oc F6 (K_Hall_take (by decide) (by decide)) (fun v8 I8 J8 F8 => ?_)
    exact fk_some F8
  · skip
    exact fk_some F6
theorem K_Sh_begin {I : MI} {J : MJ} : fk sC I J (f_Sh_begin  I J) := by
  unfold f_Sh_begin
  refine fk_ite (fun c1 => ?_) (fun c1 => ?_)
  · skip
    refine fk_oc (fr_rfl _ _ _) (K_Hall_startAnew ) (fun v2 I2 J2 F2 => ?_)
    exact fk_some F2
  · skip
    exact fk_some (fr_rfl _ _ _)
theorem K_Verifier_lets_2 {r2 : Nat} {b2 : Nat} {m2 : Nat} {p3 : Int32} (h_r2 : ¬ sC r2) (h_b2 : ¬ sC b2) : ∀ (fu : Nat) {l2 : Int32} {l3 : Int32} {I : MI} {J : MJ}, fk sC I J (f_Verifier_lets_2 r2 b2 m2 p3 fu l2 l3 I J) := by
  intro fu
  induction fu with
  | zero =>
    intros
    exact fk_none
  | succ fu ih =>
    intro l2 l3 I J 
    unfold f_Verifier_lets_2
    refine fk_ite (fun c1 => ?_) (fun c1 => ?_)
    · skip
      exact fk_some (fr_rfl _ _ _)
    · skip
      refine fk_ite (fun c2 => ?_) (fun c2 => ?_)
      · skip
        exact fk_none
      · skip
        refine fk_pI (fr_rfl _ _ _) (by decide) (fun I3 F3 => ?_)
        refine fk_ite (fun c4 => ?_) (fun c4 => ?_)
        · skip
          exact fk_none
        · skip
          refine fk_pI F3 (by decide) (fun I5 F5 => ?_)
          exact fk_tail F5 (ih )
theorem K_Verifier_lets {r2 : Nat} {b2 : Nat} {m2 : Nat} {p3 : Int32} {I : MI} {J : MJ} (h_r2 : ¬ sC r2) (h_b2 : ¬ sC b2) : fk sC I J (f_Verifier_lets r2 b2 m2 p3 I J) := by
  unfold f_Verifier_lets
  refine fk_oc (fr_rfl _ _ _) (K_Verifier_lets_2 h_r2 h_b2 gF ) (fun u6 I6 J6 F1 => ?_)
  refine fk_pI F1 (by decide) (fun I7 F2 => ?_)
  refine fk_pI F2 (by decide) (fun I8 F3 => ?_)
  refine fk_pI F3 (by decide) (fun I9 F4 => ?_)
  refine fk_pI F4 (by decide) (fun I10 F5 => ?_)
  refine fk_oc F5 (K_Verifier_findOperations h_r2 h_b2) (fun v11 I11 J11 F6 => ?_)
  refine fk_oc F6 ?_ (fun v13 I13 J13 F7 => ?_)
  · skip
    refine fk_ite (fun c8 => ?_) (fun c8 => ?_)
    · skip
      exact fk_some (fr_rfl _ _ _)
    · skip
      refine fk_oc (fr_rfl _ _ _) (K_Verifier_findTargets h_r2 h_b2) (fun v15 I15 J15 F9 => ?_)
      exact fk_some F9
  · skip
    refine fk_oc F7 ?_ (fun v17 I17 J17 F10 => ?_)
    · skip
      refine fk_ite (fun c11 => ?_) (fun c11 => ?_)
      · skip
        exact fk_some (fr_rfl _ _ _)
      · skip
        refine fk_oc (fr_rfl _ _ _) (K_Verifier_followPile h_r2 h_b2) (fun v19 I19 J19 F12 => ?_)
        exact fk_some F12
    · skip
      refine fk_ite (fun c13 => ?_) (fun c13 => ?_)
      · skip
        exact fk_some F10
      · skip
        exact fk_some F10
theorem K_Sh_load {I : MI} {J : MJ} : fk sC I J (f_Sh_load  I J) := by
  unfold f_Sh_load
  refine fk_oc (fr_rfl _ _ _) (K_Verifier_lets (by decide) (by decide)) (fun v1 I1 J1 F1 => ?_)
  refine fk_pI F1 (by decide) (fun I2 F2 => ?_)
  refine fk_pI F2 (by decide) (fun I3 F3 => ?_)
  refine fk_ite (fun c4 => ?_) (fun c4 => ?_)
  · skip
    refine fk_oc F3 (K_Hall_take (by decide) (by decide)) (fun v5 I5 J5 F5 => ?_)
    refine fk_oc F5 (K_Row_wipe (by decide) (by decide)) (fun v6 I6 J6 F6 => ?_)
    exact fk_some F6
  · skip
    refine fk_oc F3 (K_Row_wipe (by decide) (by decide)) (fun v7 I7 J7 F7 => ?_)
    exact fk_some F7
