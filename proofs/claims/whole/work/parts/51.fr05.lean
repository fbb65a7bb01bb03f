theorem K_Translator_expression {R : M3} {I : MI} {J : MJ} (hR : ∀ k a b I J, fk sC I J (R k a b I J)) : fk sC I J (f_Translator_expression R  I J) := by
  unfold f_Translator_expression
  refine fk_oc (fr_rfl _ _ _) (hR 10 0 0 I J) (fun v1 I1 J1 F1 => ?_)
  refine fk_oc F1 (K_Translator_expression_7 hR  gF ) (fun u29 I29 J29 F2 => ?_)
  refine fk_ite (fun c3 => ?_) (fun c3 => ?_)
  · skip
    exact fk_some F2
  · skip
    exact fk_none
theorem K_Translator_product_7 {R : M3} (hR : ∀ k a b I J, fk sC I J (R k a b I J)) : ∀ (fu : Nat) {l1 : Int32} {l2 : Int32} {I : MI} {J : MJ}, fk sC I J (f_Translator_product_7 R  fu l1 l2 I J) := by
  intro fu
  induction fu with
  | zero =>
    intros
    exact fk_none
  | succ fu ih =>
    intro l1 l2 I J 
    unfold f_Translator_product_7
    refine fk_ite (fun c1 => ?_) (fun c1 => ?_)
    · skip
      exact fk_some (fr_rfl _ _ _)
    · skip
      refine fk_oc (fr_rfl _ _ _) (K_Translator_look ) (fun v3 I3 J3 F2 => ?_)
      refine fk_ite (fun c3 => ?_) (fun c3 => ?_)
      · skip
        exact fk_some F2
      · skip
        refine fk_oc F2 (K_Translator_pass ) (fun v5 I5 J5 F4 => ?_)
        refine fk_oc F4 (hR 11 0 0 I5 J5) (fun v6 I6 J6 F5 => ?_)
        refine fk_pv (fun v8 => ?_)
        refine fk_oc F5 (K_Translator_emit ) (fun v11 I11 J11 F6 => ?_)
        refine fk_pv (fun v13 => ?_)
        exact fk_tail F6 (ih )
theorem K_Translator_product {R : M3} {I : MI} {J : MJ} (hR : ∀ k a b I J, fk sC I J (R k a b I J)) : fk sC I J (f_Translator_product R  I J) := by
  unfold f_Translator_product
  refine fk_oc (fr_rfl _ _ _) (hR 11 0 0 I J) (fun v1 I1 J1 F1 => ?_)
  refine fk_oc F1 (K_Translator_product_7 hR  gF ) (fun u16 I16 J16 F2 => ?_)
  refine fk_ite (fun c3 => ?_) (fun c3 => ?_)
  · skip
    exact fk_some F2
  · skip
    exact fk_none
theorem K_Translator_literal_4 : ∀ (fu : Nat) {l1 : Int64} {l3 : Int32} {I : MI} {J : MJ}, fk sC I J (f_Translator_literal_4  fu l1 l3 I J) := by
  intro fu
  induction fu with
  | zero =>
    intros
    exact fk_none
  | succ fu ih =>
    intro l1 l3 I J 
    unfold f_Translator_literal_4
    refine fk_ite (fun c1 => ?_) (fun c1 => ?_)
    · skip
      exact fk_some (fr_rfl _ _ _)
    · skip
      refine fk_oc (fr_rfl _ _ _) (K_Row_at (by decide) (by decide)) (fun v2 I2 J2 F2 => ?_)
      refine fk_oc F2 (K_Translator_isDigit ) (fun v3 I3 J3 F3 => ?_)
      refine fk_ite (fun c4 => ?_) (fun c4 => ?_)
      · skip
        exact fk_some F3
      · skip
        refine fk_oc F3 (K_Row_at (by decide) (by decide)) (fun v5 I5 J5 F5 => ?_)
        refine fk_pv (fun x6 => ?_)
        refine fk_pI F5 (by decide) (fun I7 F6 => ?_)
        exact fk_tail F6 (ih )
theorem K_Translator_literal_77 : ∀ (fu : Nat) {l1 : Int64} {l3 : Int32} {I : MI} {J : MJ}, fk sC I J (f_Translator_literal_77  fu l1 l3 I J) := by
  intro fu
  induction fu with
  | zero =>
    intros
    exact fk_none
  | succ fu ih =>
    intro l1 l3 I J 
    unfold f_Translator_literal_77
    refine fk_ite (fun c1 => ?_) (fun c1 => ?_)
    · skip
      exact fk_some (fr_rfl _ _ _)
    · skip
      refine fk_oc (fr_rfl _ _ _) (K_Row_add (by decide) (by decide)) (fun v11 I11 J11 F2 => ?_)
      exact fk_tail F2 (ih )
theorem K_Translator_literal {I : MI} {J : MJ} : fk sC I J (f_Translator_literal  I J) := by
  unfold f_Translator_literal
  refine fk_oc (fr_rfl _ _ _) (K_Translator_literal_4  gF ) (fun u8 I8 J8 F1 => ?_)
  refine fk_oc F1 (K_Row_add (by decide) (by decide)) (fun v9 I9 J9 F2 => ?_)
  refine fk_oc F2 (K_Translator_literal_77  gF ) (fun u12 I12 J12 F3 => ?_)
  exact fk_some F3
theorem K_Translator_enter {I : MI} {J : MJ} : fk sC I J (f_Translator_enter  I J) := by
  unfold f_Translator_enter
  refine fk_oc (fr_rfl _ _ _) ?_ (fun v2 I2 J2 F1 => ?_)
  · skip
    refine fk_ite (fun c2 => ?_) (fun c2 => ?_)
    · skip
      exact fk_some (fr_rfl _ _ _)
    · skip
      refine fk_oc (fr_rfl _ _ _) (K_Translator_refuse ) (fun v4 I4 J4 F3 => ?_)
      exact fk_some F3
  · skip
    refine fk_pI F1 (by decide) (fun I5 F4 => ?_)
    refine fk_oc F4 (K_Translator_pass ) (fun v6 I6 J6 F5 => ?_)
    exact fk_some F5
theorem K_Translator_variable {I : MI} {J : MJ} : fk sC I J (f_Translator_variable  I J) := by
  unfold f_Translator_variable
  refine fk_oc (fr_rfl _ _ _) (K_Translator_look ) (fun v1 I1 J1 F1 => ?_)
  refine fk_oc F1 (K_Translator_isVariable ) (fun v2 I2 J2 F2 => ?_)
  refine fk_ite (fun c3 => ?_) (fun c3 => ?_)
  · skip
    refine fk_oc F2 (K_Translator_pass ) (fun v4 I4 J4 F4 => ?_)
    exact fk_some F4
  · skip
    refine fk_oc F2 (K_Translator_refuse ) (fun v5 I5 J5 F5 => ?_)
    exact fk_some F5
theorem K_Translator_array {I : MI} {J : MJ} : fk sC I J (f_Translator_array  I J) := by
  unfold f_Translator_array
  refine fk_oc (fr_rfl _ _ _) (K_Translator_look ) (fun v1 I1 J1 F1 => ?_)
  refine fk_oc F1 (K_Translator_isArray ) (fun v2 I2 J2 F2 => ?_)
  refine fk_ite (fun c3 => ?_) (fun c3 => ?_)
  · skip
    refine fk_oc F2 (K_Translator_pass ) (fun v4 I4 J4 F4 => ?_)
    exact fk_some F4
  · skip
    refine fk_oc F2 (K_Translator_refuse ) (fun v5 I5 J5 F5 => ?_)
    exact fk_some F5
theorem K_Translator_digit {I : MI} {J : MJ} : fk sC I J (f_Translator_digit  I J) := by
  unfold f_Translator_digit
  refine fk_oc (fr_rfl _ _ _) (K_Translator_look ) (fun v1 I1 J1 F1 => ?_)
  refine fk_oc F1 (K_Translator_isDigit ) (fun v2 I2 J2 F2 => ?_)
  refine fk_ite (fun c3 => ?_) (fun c3 => ?_)
  · skip
    refine fk_oc F2 (K_Translator_pass ) (fun v4 I4 J4 F4 => ?_)
    exact fk_some F4
  · skip
    refine fk_oc F2 (K_Translator_refuse ) (fun v5 I5 J5 F5 => ?_)
    exact fk_some F5
theorem K_Translator_expect {p2 : Int32} {I : MI} {J : MJ} : fk sC I J (f_Translator_expect p2 I J) := by
  unfold f_Translator_expect
  refine fk_oc (fr_rfl _ _ _) (K_Translator_look ) (fun v1 I1 J1 F1 => ?_)
  refine fk_ite (fun c2 => ?_) (fun c2 => ?_)
  · skip
    refine fk_oc F1 (K_Translator_refuse ) (fun v3 I3 J3 F3 => ?_)
    exact fk_some F3
  · skip
    refine fk_oc F1 (K_Translator_pass ) (fun v4 I4 J4 F4 => ?_)
    exact fk_some F4
theorem K_Translator_wantClear {p2 : Int32} {p3 : Int32} {I : MI} {J : MJ} : fk sC I J (f_Translator_wantClear p2 p3 I J) := by
  unfold f_Translator_wantClear
  refine fk_ite (fun c1 => ?_) (fun c1 => ?_)
  · skip
    exact fk_some (fr_rfl _ _ _)
  · skip
    refine fk_oc (fr_rfl _ _ _) (K_Translator_blame ) (fun v2 I2 J2 F2 => ?_)
    exact fk_some F2
theorem K_Translator_wantSecret {p2 : Int32} {p3 : Int32} {I : MI} {J : MJ} : fk sC I J (f_Translator_wantSecret p2 p3 I J) := by
  unfold f_Translator_wantSecret
  refine fk_ite (fun c1 => ?_) (fun c1 => ?_)
  · skip
    exact fk_some (fr_rfl _ _ _)
  · skip
    refine fk_oc (fr_rfl _ _ _) (K_Translator_blame ) (fun v2 I2 J2 F2 => ?_)
    exact fk_some F2
theorem K_Verifier_findOperations_8 {r2 : Nat} {b2 : Nat} {m2 : Nat} {p3 : Int32} (h_r2 : ¬ sC r2) (h_b2 : ¬ sC b2) : ∀ (fu : Nat) {l2 : Int32} {l3 : Int32} {l4 : Int32} {l5 : Int32} {I : MI} {J : MJ}, fk sC I J (f_Verifier_findOperations_8 r2 b2 m2 p3 fu l2 l3 l4 l5 I J) := by
  intro fu
  induction fu with
  | zero =>
    intros
    exact fk_none
  | succ fu ih =>
    intro l2 l3 l4 l5 I J 
    unfold f_Verifier_findOperations_8
    refine fk_ite (fun c1 => ?_) (fun c1 => ?_)
    · skip
      exact fk_some (fr_rfl _ _ _)
    · skip
      refine fk_ite (fun c2 => ?_) (fun c2 => ?_)
      · skip
        exact fk_some (fr_rfl _ _ _)
      · skip
        refine fk_oc (fr_rfl _ _ _) (K_Row_at h_r2 h_b2) (fun v3 I3 J3 F3 => ?_)
        refine fk_oc F3 (K_Sh_lengthOf ) (fun v4 I4 J4 F4 => ?_)
        refine fk_ite (fun c5 => ?_) (fun c5 => ?_)
        · skip
          refine fk_oc F4 (K_Verifier_refuse ) (fun v6 I6 J6 F6 => ?_)
          exact fk_some F6
        · skip
          refine fk_ite (fun c7 => ?_) (fun c7 => ?_)
          · skip
            refine fk_oc F4 (K_Verifier_refuse ) (fun v8 I8 J8 F8 => ?_)
            exact fk_some F8
          · skip
            refine fk_oc F4 (K_Verifier_namesWhatIs h_r2 h_b2) (fun v9 I9 J9 F9 => ?_)
            refine fk_ite (fun c10 => ?_) (fun c10 => ?_)
            · skip
              refine fk_oc F9 (K_Verifier_mark (by decide)) (fun v11 I11 J11 F11 => ?_)
              refine fk_pI F11 (by decide) (fun I12 F12 => ?_)
              refine fk_pv (fun x13 => ?_)
              exact fk_tail F12 (ih )
            · skip
              refine fk_oc F9 (K_Verifier_refuse ) (fun v14 I14 J14 F13 => ?_)
              exact fk_some F13
theorem K_Verifier_findOperations {r2 : Nat} {b2 : Nat} {m2 : Nat} {p3 : Int32} {I : MI} {J : MJ} (h_r2 : ¬ sC r2) (h_b2 : ¬ sC b2) : fk sC I J (f_Verifier_findOperations r2 b2 m2 p3 I J) := by
  unfold f_Verifier_findOperations
  refine fk_oc (fr_rfl _ _ _) (K_Verifier_findOperations_8 h_r2 h_b2 gF ) (fun q15 I15 J15 F1 => ?_)
  refine fk_oe (fun y15 => ?_) (fun u15 => ?_)
  · skip
    exact fk_some F1
  · skip
    refine fk_ite (fun c2 => ?_) (fun c2 => ?_)
    · skip
      exact fk_some F1
    · skip
      refine fk_oc F1 (K_Verifier_refuse ) (fun v17 I17 J17 F3 => ?_)
      exact fk_some F3
theorem K_Verifier_findTargets_2 {r2 : Nat} {b2 : Nat} {m2 : Nat} (h_r2 : ¬ sC r2) (h_b2 : ¬ sC b2) : ∀ (fu : Nat) {l2 : Int32} {I : MI} {J : MJ}, fk sC I J (f_Verifier_findTargets_2 r2 b2 m2 fu l2 I J) := by
  intro fu
  induction fu with
  | zero =>
    intros
    exact fk_none
  | succ fu ih =>
    intro l2 I J 
    unfold f_Verifier_findTargets_2
    refine fk_ite (fun c1 => ?_) (fun c1 => ?_)
    · skip
      exact fk_some (fr_rfl _ _ _)
    · skip
      refine fk_oc (fr_rfl _ _ _) (K_Verifier_isMarked (by decide)) (fun v2 I2 J2 F2 => ?_)
      refine fk_oc F2 ?_ (fun v4 I4 J4 F3 => ?_)
      · skip
        refine fk_ite (fun c4 => ?_) (fun c4 => ?_)
        · skip
          exact fk_some (fr_rfl _ _ _)
        · skip
          refine fk_oc (fr_rfl _ _ _) (K_Row_at h_r2 h_b2) (fun v6 I6 J6 F5 => ?_)
          exact fk_some F5
      · skip
        refine fk_ite (fun c6 => ?_) (fun c6 => ?_)
        · skip
          refine fk_pv (fun v9 => ?_)
          refine fk_oc F3 (K_Row_target h_r2 h_b2) (fun v11 I11 J11 F7 => ?_)
          refine fk_oc F7 (K_Verifier_isMarked (by decide)) (fun v12 I12 J12 F8 => ?_)
          refine fk_ite (fun c9 => ?_) (fun c9 => ?_)
          · skip
            refine fk_oc F8 (K_Verifier_mark (by decide)) (fun v14 I14 J14 F10 => ?_)
            exact fk_tail F10 (ih )
          · skip
            exact fk_some F8
        · skip
          refine fk_ite (fun c11 => ?_) (fun c11 => ?_)
          · skip
            refine fk_pv (fun v17 => ?_)
            refine fk_oc F3 (K_Row_target h_r2 h_b2) (fun v19 I19 J19 F12 => ?_)
            refine fk_oc F12 (K_Verifier_isMarked (by decide)) (fun v20 I20 J20 F13 => ?_)
            refine fk_ite (fun c14 => ?_) (fun c14 => ?_)
            · skip
              refine fk_oc F13 (K_Verifier_mark (by decide)) (fun v22 I22 J22 F15 => ?_)
              exact fk_tail F15 (ih )
            · skip
              exact fk_some F13
          · skip
            refine fk_ite (fun c16 => ?_) (fun c16 => ?_)
            · skip
              exact fk_tail F3 (ih )
            · skip
              refine fk_pv (fun v25 => ?_)
              refine fk_oc F3 (K_Row_target h_r2 h_b2) (fun v27 I27 J27 F17 => ?_)
              refine fk_oc F17 (K_Verifier_isMarked (by decide)) (fun v28 I28 J28 F18 => ?_)
              refine fk_ite (fun c19 => ?_) (fun c19 => ?_)
              · skip
                refine fk_oc F18 (K_Verifier_mark (by decide)) (fun v30 I30 J30 F20 => ?_)
                exact fk_tail F20 (ih )
              · skip
                exact fk_some F18
theorem K_Verifier_findTargets {r2 : Nat} {b2 : Nat} {m2 : Nat} {I : MI} {J : MJ} (h_r2 : ¬ sC r2) (h_b2 : ¬ sC b2) : fk sC I J (f_Verifier_findTargets r2 b2 m2 I J) := by
  unfold f_Verifier_findTargets
  refine fk_oc (fr_rfl _ _ _) (K_Verifier_findTargets_2 h_r2 h_b2 gF ) (fun q31 I31 J31 F1 => ?_)
  refine fk_oe (fun y31 => ?_) (fun u31 => ?_)
  · skip
    exact fk_some F1
  · skip
    refine fk_oc F1 (K_Verifier_refuse ) (fun v32 I32 J32 F2 => ?_)
    exact fk_some F2
theorem K_Verifier_isSecret {p2 : Int32} {I : MI} {J : MJ} : fk sC I J (f_Verifier_isSecret p2 I J) := by
  unfold f_Verifier_isSecret
  refine fk_oc (fr_rfl _ _ _) (K_Verifier_isMarked (by decide)) (fun v1 I1 J1 F1 => ?_)
  refine fk_ite (fun c2 => ?_) (fun c2 => ?_)
  · skip
    exact fk_some F1
  · skip
    exact fk_none
theorem K_Verifier_joins {I : MI} {J : MJ} : fk sC I J (f_Verifier_joins  I J) := by
  unfold f_Verifier_joins
  refine fk_oc (fr_rfl _ _ _) (K_Verifier_isSecret ) (fun v1 I1 J1 F1 => ?_)
  refine fk_oc F1 ?_ (fun v3 I3 J3 F2 => ?_)
  · skip
    refine fk_ite (fun c3 => ?_) (fun c3 => ?_)
    · skip
      exact fk_some (fr_rfl _ _ _)
    · skip
      refine fk_oc (fr_rfl _ _ _) (K_Verifier_isSecret ) (fun v5 I5 J5 F4 => ?_)
      refine fk_ite (fun c5 => ?_) (fun c5 => ?_)
      · skip
        exact fk_some F4
      · skip
        exact fk_some F4
  · skip
    refine fk_oc F2 (K_Verifier_drops ) (fun v7 I7 J7 F6 => ?_)
    refine fk_ite (fun c7 => ?_) (fun c7 => ?_)
    · skip
      exact fk_some F6
    · skip
      refine fk_oc F6 (K_Verifier_pushes ) (fun v9 I9 J9 F8 => ?_)
      refine fk_ite (fun c9 => ?_) (fun c9 => ?_)
      · skip
        exact fk_some F8
      · skip
        exact fk_some F8
theorem K_Sh_hall {p2 : Int32} {p3 : Int64} {p4 : Int32} {I : MI} {J : MJ} : fk sC I J (f_Sh_hall p2 p3 p4 I J) := by
  unfold f_Sh_hall
  refine fk_ite (fun c1 => ?_) (fun c1 => ?_)
  · skip
    exact fk_some (fr_rfl _ _ _)
  · skip
    refine fk_ite (fun c2 => ?_) (fun c2 => ?_)
    · skip
      exact fk_some (fr_rfl _ _ _)
    · skip
      refine fk_ite (fun c3 => ?_) (fun c3 => ?_)
      · skip
        exact fk_some (fr_rfl _ _ _)
      · skip
        refine fk_ite (fun c4 => ?_) (fun c4 => ?_)
        · skip
          refine fk_ite (fun c5 => ?_) (fun c5 => ?_)
          · skip
            refine fk_pI (fr_rfl _ _ _) (by decide) (fun I6 F6 => ?_)
            refine fk_oc F6 (K_Hall_renew ) (fun v7 I7 J7 F7 => ?_)
            exact fk_some F7
          · skip
            exact fk_some (fr_rfl _ _ _)
        · skip
          exact fk_some (fr_rfl _ _ _)
theorem K_Sh_deal {p2 : Int32} {p3 : Int32} {I : MI} {J : MJ} : fk sC I J (f_Sh_deal p2 p3 I J) := by
  unfold f_Sh_deal
  refine fk_oc (fr_rfl _ _ _) (K_Hall_has ) (fun v1 I1 J1 F1 => ?_)
  refine fk_pv (fun v3 => ?_)
  refine fk_ite (fun c2 => ?_) (fun c2 => ?_)
  · skip
    exact fk_some F1
  · skip
    refine fk_ite (fun c3 => ?_) (fun c3 => ?_)
    · skip
      refine fk_oc F1 ?_ (fun v9 I9 J9 F4 => ?_)
      · skip
        refine fk_ite (fun c5 => ?_) (fun c5 => ?_)
        · skip
          refine fk_ite (fun c6 => ?_) (fun c6 => ?_)
          · skip
            exact fk_none
          · skip
            exact fk_some (fr_rfl _ _ _)
        · skip
          refine fk_ite (fun c7 => ?_) (fun c7 => ?_)
          · skip
            exact fk_none
          · skip
            exact fk_some (fr_rfl _ _ _)
      · skip
        refine fk_ite (fun c8 => ?_) (fun c8 => ?_)
        · skip
          exact fk_some F4
        · skip
          refine fk_ite (fun c9 => ?_) (fun c9 => ?_)
          · skip
            exact fk_some F4
          · skip
            refine fk_ite (fun c10 => ?_) (fun c10 => ?_)
            · skip
              refine fk_pI F4 (by decide) (fun I16 F11 => ?_)
              refine fk_ite (fun c12 => ?_) (fun c12 => ?_)
              · skip
                refine fk_ite (fun c13 => ?_) (fun c13 => ?_)
                · skip
                  exact fk_none
                · skip
                  refine fk_ite (fun c14 => ?_) (fun c14 => ?_)
                  · skip
                    exact fk_none
                  · skip
                    refine fk_pI F11 (by decide) (fun I20 F15 => ?_)
                    refine fk_oc F15 (K_Hall_mostLeft ) (fun v21 I21 J21 F16 => ?_)
                    exact fk_some F16
              · skip
                refine fk_ite (fun c17 => ?_) (fun c17 => ?_)
                · skip
                  exact fk_none
                · skip
                  refine fk_pI F11 (sC_p (by decide) (vp_lt c17)) (fun I23 F18 => ?_)
                  refine fk_ite (fun c19 => ?_) (fun c19 => ?_)
                  · skip
                    exact fk_none
                  · skip
                    refine fk_oc F18 (K_Stock_masksLeft (vp_lt c19)) (fun v25 I25 J25 F20 => ?_)
                    exact fk_some F20
            · skip
              exact fk_some F4
    · skip
      exact fk_some F1
theorem K_Sh_give {p2 : Int32} {p3 : Int64} {I : MI} {J : MJ} : fk sC I J (f_Sh_give p2 p3 I J) := by
  unfold f_Sh_give
  refine fk_oc (fr_rfl _ _ _) (K_Hall_has ) (fun v1 I1 J1 F1 => ?_)
  refine fk_ite (fun c2 => ?_) (fun c2 => ?_)
  · skip
    exact fk_some F1
  · skip
    refine fk_ite (fun c3 => ?_) (fun c3 => ?_)
    · skip
      exact fk_none
    · skip
      refine fk_oc F1 (K_Sh_number ) (fun v4 I4 J4 F4 => ?_)
      refine fk_oc F4 (K_Stock_addInput (vp_lt c3)) (fun v5 I5 J5 F5 => ?_)
      refine fk_ite (fun c6 => ?_) (fun c6 => ?_)
      · skip
        exact fk_some F5
      · skip
        exact fk_some F5
theorem K_Sh_tamper {p2 : Int32} {p3 : Int32} {p4 : Int32} {p5 : Int64} {I : MI} {J : MJ} : fk sC I J (f_Sh_tamper p2 p3 p4 p5 I J) := by
  unfold f_Sh_tamper
  refine fk_ite (fun c1 => ?_) (fun c1 => ?_)
  · skip
    exact fk_some (fr_rfl _ _ _)
  · skip
    refine fk_oc (fr_rfl _ _ _) (K_Hall_has ) (fun v2 I2 J2 F2 => ?_)
    refine fk_ite (fun c3 => ?_) (fun c3 => ?_)
    · skip
      exact fk_some F2
    · skip
      refine fk_ite (fun c4 => ?_) (fun c4 => ?_)
      · skip
        exact fk_some F2
      · skip
        refine fk_ite (fun c5 => ?_) (fun c5 => ?_)
        · skip
          refine fk_ite (fun c6 => ?_) (fun c6 => ?_)
          · skip
            exact fk_none
          · skip
            refine fk_ite (fun c7 => ?_) (fun c7 => ?_)
            · skip
              exact fk_some F2
            · skip
              refine fk_ite (fun c8 => ?_) (fun c8 => ?_)
              · skip
                refine fk_oc F2 (K_Sh_number ) (fun v9 I9 J9 F9 => ?_)
                refine fk_oc F9 (K_Errors_add ) (fun v10 I10 J10 F10 => ?_)
                refine fk_ite (fun c11 => ?_) (fun c11 => ?_)
                · skip
                  exact fk_some F10
                · skip
                  exact fk_none
              · skip
                exact fk_some F2
        · skip
          exact fk_some F2
theorem K_Sh_party {p2 : Int32} {p3 : Int32} {I : MI} {J : MJ} : fk sC I J (f_Sh_party p2 p3 I J) := by
  unfold f_Sh_party
  refine fk_oc (fr_rfl _ _ _) (K_Hall_has ) (fun v1 I1 J1 F1 => ?_)
  refine fk_ite (fun c2 => ?_) (fun c2 => ?_)
  · skip
    refine fk_ite (fun c3 => ?_) (fun c3 => ?_)
    · skip
      exact fk_none
    · skip
      refine fk_ite (fun c4 => ?_) (fun c4 => ?_)
      · skip
        refine fk_ite (fun c5 => ?_) (fun c5 => ?_)
        · skip
          refine fk_ite (fun c6 => ?_) (fun c6 => ?_)
          · skip
            refine fk_ite (fun c7 => ?_) (fun c7 => ?_)
            · skip
              refine fk_ite (fun c8 => ?_) (fun c8 => ?_)
              · skip
                exact fk_some F1
              · skip
                refine fk_ite (fun c9 => ?_) (fun c9 => ?_)
                · skip
                  refine fk_ite (fun c10 => ?_) (fun c10 => ?_)
                  · skip
                    refine fk_oc F1 (K_Party_tell (vp_lt c3)) (fun v11 I11 J11 F11 => ?_)
                    exact fk_some F11
                  · skip
                    refine fk_ite (fun c12 => ?_) (fun c12 => ?_)
                    · skip
                      exact fk_some F1
                    · skip
                      exact fk_some F1
                · skip
                  exact fk_some F1
            · skip
              refine fk_ite (fun c13 => ?_) (fun c13 => ?_)
              · skip
                exact fk_some F1
              · skip
                exact fk_some F1
          · skip
            refine fk_ite (fun c14 => ?_) (fun c14 => ?_)
            · skip
              refine fk_ite (fun c15 => ?_) (fun c15 => ?_)
              · skip
                refine fk_ite (fun c16 => ?_) (fun c16 => ?_)
                · skip
                  exact fk_some F1
                · skip
                  refine fk_ite (fun c17 => ?_) (fun c17 => ?_)
                  · skip
                    refine fk_ite (fun c18 => ?_) (fun c18 => ?_)
                    · skip
                      refine fk_oc F1 (K_Party_tell (vp_lt c3)) (fun v19 I19 J19 F19 => ?_)
                      exact fk_some F19
                    · skip
                      refine fk_ite (fun c20 => ?_) (fun c20 => ?_)
                      · skip
                        exact fk_some F1
                      · skip
                        exact fk_some F1
                  · skip
                    exact fk_some F1
              · skip
                refine fk_ite (fun c21 => ?_) (fun c21 => ?_)
                · skip
                  exact fk_some F1
                · skip
                  exact fk_some F1
            · skip
              refine fk_pv (fun v23 => ?_)
              refine fk_oc F1 (K_Sh_countMails (vp_lt c3)) (fun v25 I25 J25 F22 => ?_)
              exact fk_some F22
        · skip
          refine fk_oc F1 (K_Stock_inputsLeft (vp_lt c3)) (fun v26 I26 J26 F23 => ?_)
          exact fk_some F23
      · skip
        refine fk_oc F1 (K_Stock_masksLeft (vp_lt c3)) (fun v27 I27 J27 F24 => ?_)
        exact fk_some F24
  · skip
    exact fk_some F1
theorem K_Sh_bound {p2 : Int32} {p3 : Int32} {p4 : Int32} {I : MI} {J : MJ} : fk sC I J (f_Sh_bound p2 p3 p4 I J) := by
  unfold f_Sh_bound
  refine fk_ite (fun c1 => ?_) (fun c1 => ?_)
  · skip
    exact fk_some (fr_rfl _ _ _)
  · skip
    refine fk_oc (fr_rfl _ _ _) (K_Hall_has ) (fun v2 I2 J2 F2 => ?_)
    refine fk_ite (fun c3 => ?_) (fun c3 => ?_)
    · skip
      exact fk_some F2
    · skip
      refine fk_oc F2 (K_Hall_has ) (fun v4 I4 J4 F4 => ?_)
      refine fk_ite (fun c5 => ?_) (fun c5 => ?_)
      · skip
        refine fk_ite (fun c6 => ?_) (fun c6 => ?_)
        · skip
          exact fk_none
        · skip
          refine fk_ite (fun c7 => ?_) (fun c7 => ?_)
          · skip
            exact fk_some F4
          · skip
            refine fk_ite (fun c8 => ?_) (fun c8 => ?_)
            · skip
              exact fk_some F4
            · skip
              refine fk_ite (fun c9 => ?_) (fun c9 => ?_)
              · skip
                refine fk_ite (fun c10 => ?_) (fun c10 => ?_)
                · skip
                  exact fk_none
                · skip
                  refine fk_oc F4 (K_Hall_bondByte (vp_lt c10)) (fun v11 I11 J11 F11 => ?_)
                  exact fk_some F11
              · skip
                exact fk_some F4
      · skip
        exact fk_some F4
theorem K_Sh_total {p2 : Int32} {I : MI} {J : MJ} : fk sC I J (f_Sh_total p2 I J) := by
  unfold f_Sh_total
  refine fk_ite (fun c1 => ?_) (fun c1 => ?_)
  · skip
    exact fk_some (fr_rfl _ _ _)
  · skip
    refine fk_ite (fun c2 => ?_) (fun c2 => ?_)
    · skip
      refine fk_oc (fr_rfl _ _ _) (K_Hall_mostLeft ) (fun v3 I3 J3 F3 => ?_)
      exact fk_some F3
    · skip
      refine fk_ite (fun c4 => ?_) (fun c4 => ?_)
      · skip
        exact fk_some (fr_rfl _ _ _)
      · skip
        refine fk_ite (fun c5 => ?_) (fun c5 => ?_)
        · skip
          exact fk_some (fr_rfl _ _ _)
        · skip
          refine fk_ite (fun c6 => ?_) (fun c6 => ?_)
          · skip
            refine fk_oc (fr_rfl _ _ _) (K_Hall_mostLeft ) (fun v7 I7 J7 F7 => ?_)
            exact fk_some F7
          · skip
            refine fk_ite (fun c8 => ?_) (fun c8 => ?_)
            · skip
              exact fk_some (fr_rfl _ _ _)
            · skip
              refine fk_ite (fun c9 => ?_) (fun c9 => ?_)
              · skip
                refine fk_oc (fr_rfl _ _ _) (K_Hall_mostLeft ) (fun v10 I10 J10 F10 => ?_)
                exact fk_some F10
              · skip
                exact fk_some (fr_rfl _ _ _)
theorem K_Model_isVerified_2 : ∀ (fu : Nat) {l1 : Int32} {I : MI} {J : MJ}, fk sM I J (f_Model_isVerified_2  fu l1 I J) := by
  intro fu
  induction fu with
  | zero =>
    intros
    exact fk_none
  | succ fu ih =>
    intro l1 I J 
    unfold f_Model_isVerified_2
    refine fk_ite (fun c1 => ?_) (fun c1 => ?_)
    · skip
      exact fk_some (fr_rfl _ _ _)
    · skip
      refine fk_ite (fun c2 => ?_) (fun c2 => ?_)
      · skip
        exact fk_none
      · skip
        refine fk_pI (fr_rfl _ _ _) (by decide) (fun I3 F3 => ?_)
        exact fk_tail F3 (ih )
theorem K_Model_isVerified_31 : ∀ (fu : Nat) {l1 : Int32} {l2 : Int32} {I : MI} {J : MJ}, fk sM I J (f_Model_isVerified_31  fu l1 l2 I J) := by
  intro fu
  induction fu with
  | zero =>
    intros
    exact fk_none
  | succ fu ih =>
    intro l1 l2 I J 
    unfold f_Model_isVerified_31
    refine fk_ite (fun c1 => ?_) (fun c1 => ?_)
    · skip
      exact fk_some (fr_rfl _ _ _)
    · skip
      refine fk_oc (fr_rfl _ _ _) (K_Model_isGood ) (fun v7 I7 J7 F2 => ?_)
      refine fk_ite (fun c3 => ?_) (fun c3 => ?_)
      · skip
        refine fk_ite (fun c4 => ?_) (fun c4 => ?_)
        · skip
          exact fk_none
        · skip
          refine fk_pI F2 (by decide) (fun I10 F5 => ?_)
          refine fk_pI F5 (by decide) (fun I11 F6 => ?_)
          refine fk_ite (fun c7 => ?_) (fun c7 => ?_)
          · skip
            exact fk_none
          · skip
            refine fk_pv (fun x13 => ?_)
            refine fk_ite (fun c8 => ?_) (fun c8 => ?_)
            · skip
              exact fk_none
            · skip
              refine fk_oc F6 (K_Model_longOf ) (fun v15 I15 J15 F9 => ?_)
              refine fk_pv (fun x16 => ?_)
              exact fk_tail F9 (ih )
      · skip
        refine fk_oc F2 (K_Model_refused ) (fun v17 I17 J17 F10 => ?_)
        refine fk_ite (fun c11 => ?_) (fun c11 => ?_)
        · skip
          exact fk_some F10
        · skip
          exact fk_none
theorem K_Model_isVerified_109 : ∀ (fu : Nat) {l2 : Int32} {I : MI} {J : MJ}, fk sM I J (f_Model_isVerified_109  fu l2 I J) := by
  intro fu
  induction fu with
  | zero =>
    intros
    exact fk_none
  | succ fu ih =>
    intro l2 I J 
    unfold f_Model_isVerified_109
    refine fk_ite (fun c1 => ?_) (fun c1 => ?_)
    · skip
      exact fk_some (fr_rfl _ _ _)
    · skip
      refine fk_ite (fun c2 => ?_) (fun c2 => ?_)
      · skip
        exact fk_none
      · skip
        refine fk_pI (fr_rfl _ _ _) (by decide) (fun I23 F3 => ?_)
        exact fk_tail F3 (ih )
theorem K_Model_isVerified_132 : ∀ (fu : Nat) {l2 : Int32} {I : MI} {J : MJ}, fk sM I J (f_Model_isVerified_132  fu l2 I J) := by
  intro fu
  induction fu with
  | zero =>
    intros
    exact fk_none
  | succ fu ih =>
    intro l2 I J 
    unfold f_Model_isVerified_132
    refine fk_ite (fun c1 => ?_) (fun c1 => ?_)
    · skip
      refine fk_oc (fr_rfl _ _ _) (K_Model_isFlowGood ) (fun v26 I26 J26 F2 => ?_)
      refine fk_ite (fun c3 => ?_) (fun c3 => ?_)
      · skip
        exact fk_some F2
      · skip
        exact fk_none
    · skip
      refine fk_ite (fun c4 => ?_) (fun c4 => ?_)
      · skip
        exact fk_none
      · skip
        refine fk_ite (fun c5 => ?_) (fun c5 => ?_)
        · skip
          refine fk_oc (fr_rfl _ _ _) (K_Model_goalOf (by decide)) (fun v30 I30 J30 F6 => ?_)
          refine fk_ite (fun c7 => ?_) (fun c7 => ?_)
          · skip
            exact fk_some F6
          · skip
            refine fk_ite (fun c8 => ?_) (fun c8 => ?_)
            · skip
              exact fk_none
            · skip
              refine fk_ite (fun c9 => ?_) (fun c9 => ?_)
              · skip
                refine fk_ite (fun c10 => ?_) (fun c10 => ?_)
                · skip
                  exact fk_none
                · skip
                  refine fk_pI F6 (by decide) (fun I35 F11 => ?_)
                  refine fk_ite (fun c12 => ?_) (fun c12 => ?_)
                  · skip
                    exact fk_none
                  · skip
                    refine fk_oc F11 (K_Model_longOf ) (fun v37 I37 J37 F13 => ?_)
                    refine fk_pv (fun x38 => ?_)
                    exact fk_tail F13 (ih )
              · skip
                exact fk_some F6
        · skip
          refine fk_ite (fun c14 => ?_) (fun c14 => ?_)
          · skip
            exact fk_none
          · skip
            refine fk_ite (fun c15 => ?_) (fun c15 => ?_)
            · skip
              refine fk_oc (fr_rfl _ _ _) (K_Model_goalOf (by decide)) (fun v41 I41 J41 F16 => ?_)
              refine fk_ite (fun c17 => ?_) (fun c17 => ?_)
              · skip
                exact fk_some F16
              · skip
                refine fk_ite (fun c18 => ?_) (fun c18 => ?_)
                · skip
                  exact fk_none
                · skip
                  refine fk_ite (fun c19 => ?_) (fun c19 => ?_)
                  · skip
                    refine fk_ite (fun c20 => ?_) (fun c20 => ?_)
                    · skip
                      exact fk_none
                    · skip
                      refine fk_pI F16 (by decide) (fun I46 F21 => ?_)
                      refine fk_ite (fun c22 => ?_) (fun c22 => ?_)
                      · skip
                        exact fk_none
                      · skip
                        refine fk_oc F21 (K_Model_longOf ) (fun v48 I48 J48 F23 => ?_)
                        refine fk_pv (fun x49 => ?_)
                        exact fk_tail F23 (ih )
                  · skip
                    exact fk_some F16
            · skip
              refine fk_ite (fun c24 => ?_) (fun c24 => ?_)
              · skip
                exact fk_none
              · skip
                refine fk_ite (fun c25 => ?_) (fun c25 => ?_)
                · skip
                  refine fk_oc (fr_rfl _ _ _) (K_Model_goalOf (by decide)) (fun v52 I52 J52 F26 => ?_)
                  refine fk_ite (fun c27 => ?_) (fun c27 => ?_)
                  · skip
                    exact fk_some F26
                  · skip
                    refine fk_ite (fun c28 => ?_) (fun c28 => ?_)
                    · skip
                      exact fk_none
                    · skip
                      refine fk_ite (fun c29 => ?_) (fun c29 => ?_)
                      · skip
                        refine fk_ite (fun c30 => ?_) (fun c30 => ?_)
                        · skip
                          exact fk_none
                        · skip
                          refine fk_pI F26 (by decide) (fun I57 F31 => ?_)
                          refine fk_ite (fun c32 => ?_) (fun c32 => ?_)
                          · skip
                            exact fk_none
                          · skip
                            refine fk_oc F31 (K_Model_longOf ) (fun v59 I59 J59 F33 => ?_)
                            refine fk_pv (fun x60 => ?_)
                            exact fk_tail F33 (ih )
                      · skip
                        exact fk_some F26
                · skip
                  refine fk_ite (fun c34 => ?_) (fun c34 => ?_)
                  · skip
                    exact fk_none
                  · skip
                    refine fk_oc (fr_rfl _ _ _) (K_Model_longOf ) (fun v62 I62 J62 F35 => ?_)
                    refine fk_pv (fun x63 => ?_)
                    exact fk_tail F35 (ih )
theorem K_Model_isVerified {I : MI} {J : MJ} : fk sM I J (f_Model_isVerified  I J) := by
  unfold f_Model_isVerified
  refine fk_oc (fr_rfl _ _ _) (K_Model_isVerified_2  gF ) (fun u4 I4 J4 F1 => ?_)
  refine fk_pI F1 (by decide) (fun I5 F2 => ?_)
  refine fk_oc F2 (K_Model_isVerified_31  gF ) (fun q19 I19 J19 F3 => ?_)
  refine fk_oe (fun y19 => ?_) (fun u19 => ?_)
  · skip
    exact fk_some F3
  · skip
    refine fk_ite (fun c4 => ?_) (fun c4 => ?_)
    · skip
      refine fk_oc F3 (K_Model_isVerified_109  gF ) (fun u24 I24 J24 F5 => ?_)
      refine fk_oc F5 (K_Model_isVerified_132  gF ) (fun q64 I64 J64 F6 => ?_)
      refine fk_oe (fun y64 => ?_) (fun u64 => ?_)
      · skip
        exact fk_some F6
      · skip
        refine fk_oc F6 (K_Model_refused ) (fun v65 I65 J65 F7 => ?_)
        refine fk_ite (fun c8 => ?_) (fun c8 => ?_)
        · skip
          exact fk_some F7
        · skip
          exact fk_none
    · skip
      refine fk_oc F3 (K_Model_refused ) (fun v67 I67 J67 F9 => ?_)
      refine fk_ite (fun c10 => ?_) (fun c10 => ?_)
      · skip
        exact fk_some F9
      · skip
        exact fk_none
theorem K_Model_load {I : MI} {J : MJ} : fk sM I J (f_Model_load  I J) := by
  unfold f_Model_load
  refine fk_pI (fr_rfl _ _ _) (by decide) (fun I1 F1 => ?_)
  refine fk_pI F1 (by decide) (fun I2 F2 => ?_)
  refine fk_oc F2 (K_Model_isVerified ) (fun v3 I3 J3 F3 => ?_)
  refine fk_pv (fun x4 => ?_)
  refine fk_pI F3 (by decide) (fun I5 F4 => ?_)
  refine fk_ite (fun c5 => ?_) (fun c5 => ?_)
  · skip
    refine fk_pI F4 (by decide) (fun I7 F6 => ?_)
    refine fk_oc F6 (K_Model_take (by decide)) (fun v8 I8 J8 F7 => ?_)
    exact fk_some F7
  · skip
    refine fk_oc F4 (K_Model_raise ) (fun v9 I9 J9 F8 => ?_)
    exact fk_some F8
theorem K_Model_act {p2 : Int32} {I : MI} {J : MJ} : fk sM I J (f_Model_act p2 I J) := by
  unfold f_Model_act
  refine fk_ite (fun c1 => ?_) (fun c1 => ?_)
  · skip
    exact fk_none
  · skip
    refine fk_pv (fun x2 => ?_)
    refine fk_ite (fun c2 => ?_) (fun c2 => ?_)
    · skip
      exact fk_none
    · skip
      refine fk_pv (fun x4 => ?_)
      refine fk_pv (fun x5 => ?_)
      refine fk_ite (fun c3 => ?_) (fun c3 => ?_)
      · skip
        refine fk_oc (fr_rfl _ _ _) (K_Model_pop ) (fun v7 I7 J7 F4 => ?_)
        refine fk_oc F4 (K_Model_pop ) (fun v8 I8 J8 F5 => ?_)
        refine fk_oc F5 ?_ (fun v12 I12 J12 F6 => ?_)
        · skip
          refine fk_ite (fun c7 => ?_) (fun c7 => ?_)
          · skip
            refine fk_ite (fun c8 => ?_) (fun c8 => ?_)
            · skip
              refine fk_oc (fr_rfl _ _ _) (K_Model_times ) (fun v15 I15 J15 F9 => ?_)
              exact fk_some F9
            · skip
              refine fk_oc (fr_rfl _ _ _) (K_Model_minus ) (fun v16 I16 J16 F10 => ?_)
              exact fk_some F10
          · skip
            refine fk_oc (fr_rfl _ _ _) (K_Model_plus ) (fun v17 I17 J17 F11 => ?_)
            exact fk_some F11
        · skip
          refine fk_oc F6 (K_Model_push ) (fun v18 I18 J18 F12 => ?_)
          refine fk_oc F12 (K_Model_next ) (fun v19 I19 J19 F13 => ?_)
          exact fk_some F13
      · skip
        refine fk_ite (fun c14 => ?_) (fun c14 => ?_)
        · skip
          refine fk_oc (fr_rfl _ _ _) (K_Model_joint ) (fun v21 I21 J21 F15 => ?_)
          refine fk_ite (fun c16 => ?_) (fun c16 => ?_)
          · skip
            exact fk_some F15
          · skip
            exact fk_none
        · skip
          refine fk_ite (fun c17 => ?_) (fun c17 => ?_)
          · skip
            refine fk_oc (fr_rfl _ _ _) (K_Model_pop ) (fun v24 I24 J24 F18 => ?_)
            refine fk_oc F18 (K_Model_minus ) (fun v25 I25 J25 F19 => ?_)
            refine fk_oc F19 (K_Model_push ) (fun v26 I26 J26 F20 => ?_)
            refine fk_oc F20 (K_Model_next ) (fun v27 I27 J27 F21 => ?_)
            exact fk_some F21
          · skip
            refine fk_ite (fun c22 => ?_) (fun c22 => ?_)
            · skip
              refine fk_oc (fr_rfl _ _ _) (K_Model_pop ) (fun v29 I29 J29 F23 => ?_)
              refine fk_oc F23 (K_Model_times ) (fun v30 I30 J30 F24 => ?_)
              refine fk_oc F24 (K_Model_push ) (fun v31 I31 J31 F25 => ?_)
              refine fk_oc F25 (K_Model_next ) (fun v32 I32 J32 F26 => ?_)
              exact fk_some F26
            · skip
              refine fk_ite (fun c27 => ?_) (fun c27 => ?_)
              · skip
                refine fk_oc (fr_rfl _ _ _) ?_ (fun v36 I36 J36 F28 => ?_)
                · skip
                  refine fk_ite (fun c29 => ?_) (fun c29 => ?_)
                  · skip
                    refine fk_ite (fun c30 => ?_) (fun c30 => ?_)
                    · skip
                      exact fk_none
                    · skip
                      exact fk_some (fr_rfl _ _ _)
                  · skip
                    refine fk_ite (fun c31 => ?_) (fun c31 => ?_)
                    · skip
                      exact fk_none
                    · skip
                      exact fk_some (fr_rfl _ _ _)
                · skip
                  refine fk_oc F28 (K_Model_pop ) (fun v40 I40 J40 F32 => ?_)
                  refine fk_ite (fun c33 => ?_) (fun c33 => ?_)
                  · skip
                    exact fk_none
                  · skip
                    refine fk_pJ F32 (by decide) (fun J42 F34 => ?_)
                    refine fk_oc F34 (K_Model_next ) (fun v43 I43 J43 F35 => ?_)
                    exact fk_some F35
              · skip
                refine fk_ite (fun c36 => ?_) (fun c36 => ?_)
                · skip
                  refine fk_ite (fun c37 => ?_) (fun c37 => ?_)
                  · skip
                    exact fk_none
                  · skip
                    refine fk_ite (fun c38 => ?_) (fun c38 => ?_)
                    · skip
                      exact fk_none
                    · skip
                      refine fk_oc (fr_rfl _ _ _) (K_Model_input ) (fun v47 I47 J47 F39 => ?_)
                      refine fk_ite (fun c40 => ?_) (fun c40 => ?_)
                      · skip
                        exact fk_some F39
                      · skip
                        exact fk_none
                · skip
                  refine fk_ite (fun c41 => ?_) (fun c41 => ?_)
                  · skip
                    refine fk_ite (fun c42 => ?_) (fun c42 => ?_)
                    · skip
                      exact fk_none
                    · skip
                      refine fk_ite (fun c43 => ?_) (fun c43 => ?_)
                      · skip
                        exact fk_none
                      · skip
                        refine fk_oc (fr_rfl _ _ _) (K_Model_open ) (fun v52 I52 J52 F44 => ?_)
                        refine fk_ite (fun c45 => ?_) (fun c45 => ?_)
                        · skip
                          exact fk_some F44
                        · skip
                          exact fk_none
                  · skip
                    refine fk_ite (fun c46 => ?_) (fun c46 => ?_)
                    · skip
                      refine fk_ite (fun c47 => ?_) (fun c47 => ?_)
                      · skip
                        exact fk_none
                      · skip
                        refine fk_oc (fr_rfl _ _ _) (K_Model_out ) (fun v56 I56 J56 F48 => ?_)
                        refine fk_ite (fun c49 => ?_) (fun c49 => ?_)
                        · skip
                          exact fk_some F48
                        · skip
                          exact fk_none
                    · skip
                      refine fk_ite (fun c50 => ?_) (fun c50 => ?_)
                      · skip
                        refine fk_ite (fun c51 => ?_) (fun c51 => ?_)
                        · skip
                          exact fk_none
                        · skip
                          refine fk_oc (fr_rfl _ _ _) (K_Model_out ) (fun v60 I60 J60 F52 => ?_)
                          refine fk_ite (fun c53 => ?_) (fun c53 => ?_)
                          · skip
                            exact fk_some F52
                          · skip
                            exact fk_none
                      · skip
                        refine fk_ite (fun c54 => ?_) (fun c54 => ?_)
                        · skip
                          refine fk_oc (fr_rfl _ _ _) (K_Model_next ) (fun v63 I63 J63 F55 => ?_)
                          refine fk_ite (fun c56 => ?_) (fun c56 => ?_)
                          · skip
                            exact fk_none
                          · skip
                            refine fk_ite (fun c57 => ?_) (fun c57 => ?_)
                            · skip
                              exact fk_none
                            · skip
                              refine fk_ite (fun c58 => ?_) (fun c58 => ?_)
                              · skip
                                exact fk_some F55
                              · skip
                                refine fk_oc F55 (K_Model_goalOf (by decide)) (fun v67 I67 J67 F59 => ?_)
                                refine fk_ite (fun c60 => ?_) (fun c60 => ?_)
                                · skip
                                  exact fk_none
                                · skip
                                  refine fk_pI F59 (by decide) (fun I69 F61 => ?_)
                                  exact fk_some F61
                        · skip
                          refine fk_ite (fun c62 => ?_) (fun c62 => ?_)
                          · skip
                            refine fk_oc (fr_rfl _ _ _) (K_Model_goalOf (by decide)) (fun v71 I71 J71 F63 => ?_)
                            refine fk_ite (fun c64 => ?_) (fun c64 => ?_)
                            · skip
                              exact fk_none
                            · skip
                              refine fk_pI F63 (by decide) (fun I73 F65 => ?_)
                              exact fk_some F65
                          · skip
                            refine fk_ite (fun c66 => ?_) (fun c66 => ?_)
                            · skip
                              refine fk_oc (fr_rfl _ _ _) ?_ (fun v77 I77 J77 F67 => ?_)
                              · skip
                                refine fk_ite (fun c68 => ?_) (fun c68 => ?_)
                                · skip
                                  refine fk_ite (fun c69 => ?_) (fun c69 => ?_)
                                  · skip
                                    exact fk_none
                                  · skip
                                    exact fk_some (fr_rfl _ _ _)
                                · skip
                                  refine fk_ite (fun c70 => ?_) (fun c70 => ?_)
                                  · skip
                                    exact fk_none
                                  · skip
                                    exact fk_some (fr_rfl _ _ _)
                              · skip
                                refine fk_oc F67 (K_Model_row ) (fun v81 I81 J81 F71 => ?_)
                                refine fk_oc F71 (K_Model_pop ) (fun v82 I82 J82 F72 => ?_)
                                refine fk_ite (fun c73 => ?_) (fun c73 => ?_)
                                · skip
                                  exact fk_none
                                · skip
                                  refine fk_oc F72 (K_Model_push ) (fun v84 I84 J84 F74 => ?_)
                                  refine fk_oc F74 (K_Model_next ) (fun v85 I85 J85 F75 => ?_)
                                  exact fk_some F75
                            · skip
                              refine fk_ite (fun c76 => ?_) (fun c76 => ?_)
                              · skip
                                refine fk_oc (fr_rfl _ _ _) (K_Model_pop ) (fun v87 I87 J87 F77 => ?_)
                                refine fk_oc F77 ?_ (fun v90 I90 J90 F78 => ?_)
                                · skip
                                  refine fk_ite (fun c79 => ?_) (fun c79 => ?_)
                                  · skip
                                    refine fk_ite (fun c80 => ?_) (fun c80 => ?_)
                                    · skip
                                      exact fk_none
                                    · skip
                                      exact fk_some (fr_rfl _ _ _)
                                  · skip
                                    refine fk_ite (fun c81 => ?_) (fun c81 => ?_)
                                    · skip
                                      exact fk_none
                                    · skip
                                      exact fk_some (fr_rfl _ _ _)
                                · skip
                                  refine fk_oc F78 (K_Model_row ) (fun v94 I94 J94 F82 => ?_)
                                  refine fk_oc F82 (K_Model_pop ) (fun v95 I95 J95 F83 => ?_)
                                  refine fk_ite (fun c84 => ?_) (fun c84 => ?_)
                                  · skip
                                    exact fk_none
                                  · skip
                                    refine fk_pJ F83 (by decide) (fun J97 F85 => ?_)
                                    refine fk_oc F85 (K_Model_next ) (fun v98 I98 J98 F86 => ?_)
                                    exact fk_some F86
                              · skip
                                refine fk_ite (fun c87 => ?_) (fun c87 => ?_)
                                · skip
                                  refine fk_ite (fun c88 => ?_) (fun c88 => ?_)
                                  · skip
                                    exact fk_none
                                  · skip
                                    refine fk_ite (fun c89 => ?_) (fun c89 => ?_)
                                    · skip
                                      exact fk_none
                                    · skip
                                      refine fk_oc (fr_rfl _ _ _) (K_Model_drawn ) (fun v102 I102 J102 F90 => ?_)
                                      refine fk_ite (fun c91 => ?_) (fun c91 => ?_)
                                      · skip
                                        exact fk_none
                                      · skip
                                        refine fk_pJ F90 (by decide) (fun J104 F92 => ?_)
                                        refine fk_ite (fun c93 => ?_) (fun c93 => ?_)
                                        · skip
                                          exact fk_none
                                        · skip
                                          refine fk_ite (fun c94 => ?_) (fun c94 => ?_)
                                          · skip
                                            exact fk_none
                                          · skip
                                            refine fk_pI F92 (by decide) (fun I107 F95 => ?_)
                                            refine fk_oc F95 (K_Model_next ) (fun v108 I108 J108 F96 => ?_)
                                            exact fk_some F96
                                · skip
                                  refine fk_ite (fun c97 => ?_) (fun c97 => ?_)
                                  · skip
                                    refine fk_ite (fun c98 => ?_) (fun c98 => ?_)
                                    · skip
                                      exact fk_none
                                    · skip
                                      refine fk_ite (fun c99 => ?_) (fun c99 => ?_)
                                      · skip
                                        exact fk_none
                                      · skip
                                        refine fk_pI (fr_rfl _ _ _) (by decide) (fun I112 F100 => ?_)
                                        refine fk_ite (fun c101 => ?_) (fun c101 => ?_)
                                        · skip
                                          exact fk_none
                                        · skip
                                          refine fk_ite (fun c102 => ?_) (fun c102 => ?_)
                                          · skip
                                            exact fk_none
                                          · skip
                                            refine fk_pI F100 (by decide) (fun I115 F103 => ?_)
                                            refine fk_oc F103 (K_Model_goalOf (by decide)) (fun v116 I116 J116 F104 => ?_)
                                            refine fk_ite (fun c105 => ?_) (fun c105 => ?_)
                                            · skip
                                              exact fk_none
                                            · skip
                                              refine fk_pI F104 (by decide) (fun I118 F106 => ?_)
                                              exact fk_some F106
                                  · skip
                                    refine fk_ite (fun c107 => ?_) (fun c107 => ?_)
                                    · skip
                                      refine fk_ite (fun c108 => ?_) (fun c108 => ?_)
                                      · skip
                                        exact fk_none
                                      · skip
                                        refine fk_ite (fun c109 => ?_) (fun c109 => ?_)
                                        · skip
                                          exact fk_none
                                        · skip
                                          refine fk_pI (fr_rfl _ _ _) (by decide) (fun I122 F110 => ?_)
                                          refine fk_ite (fun c111 => ?_) (fun c111 => ?_)
                                          · skip
                                            exact fk_none
                                          · skip
                                            refine fk_ite (fun c112 => ?_) (fun c112 => ?_)
                                            · skip
                                              exact fk_none
                                            · skip
                                              refine fk_ite (fun c113 => ?_) (fun c113 => ?_)
                                              · skip
                                                exact fk_none
                                              · skip
                                                refine fk_pI F110 (by decide) (fun I126 F114 => ?_)
                                                exact fk_some F114
                                    · skip
                                      refine fk_oc (fr_rfl _ _ _) (K_Model_rows ) (fun v127 I127 J127 F115 => ?_)
                                      refine fk_ite (fun c116 => ?_) (fun c116 => ?_)
                                      · skip
                                        exact fk_some F115
                                      · skip
                                        exact fk_none
theorem K_Model_stepOf {p2 : Int32} {I : MI} {J : MJ} : fk sM I J (f_Model_stepOf p2 I J) := by
  unfold f_Model_stepOf
  refine fk_pI (fr_rfl _ _ _) (by decide) (fun I1 F1 => ?_)
  refine fk_oc F1 (K_Model_statusOf ) (fun v2 I2 J2 F2 => ?_)
  refine fk_ite (fun c3 => ?_) (fun c3 => ?_)
  · skip
    refine fk_ite (fun c4 => ?_) (fun c4 => ?_)
    · skip
      exact fk_none
    · skip
      refine fk_ite (fun c5 => ?_) (fun c5 => ?_)
      · skip
        refine fk_oc F2 (K_Model_lacking ) (fun v6 I6 J6 F6 => ?_)
        refine fk_ite (fun c7 => ?_) (fun c7 => ?_)
        · skip
          exact fk_none
        · skip
          refine fk_pI F6 (by decide) (fun I8 F8 => ?_)
          refine fk_ite (fun c9 => ?_) (fun c9 => ?_)
          · skip
            exact fk_none
          · skip
            refine fk_ite (fun c10 => ?_) (fun c10 => ?_)
            · skip
              refine fk_oc F8 (K_Model_act ) (fun v11 I11 J11 F11 => ?_)
              refine fk_ite (fun c12 => ?_) (fun c12 => ?_)
              · skip
                refine fk_pI F11 (by decide) (fun I12 F13 => ?_)
                refine fk_ite (fun c14 => ?_) (fun c14 => ?_)
                · skip
                  refine fk_ite (fun c15 => ?_) (fun c15 => ?_)
                  · skip
                    exact fk_none
                  · skip
                    refine fk_ite (fun c16 => ?_) (fun c16 => ?_)
                    · skip
                      exact fk_none
                    · skip
                      refine fk_pI F13 (by decide) (fun I17 F17 => ?_)
                      refine fk_pI F17 (by decide) (fun I18 F18 => ?_)
                      refine fk_ite (fun c19 => ?_) (fun c19 => ?_)
                      · skip
                        exact fk_none
                      · skip
                        refine fk_ite (fun c20 => ?_) (fun c20 => ?_)
                        · skip
                          exact fk_some F18
                        · skip
                          exact fk_some F18
                · skip
                  exact fk_some F13
              · skip
                exact fk_none
            · skip
              exact fk_some F8
      · skip
        refine fk_ite (fun c21 => ?_) (fun c21 => ?_)
        · skip
          exact fk_none
        · skip
          refine fk_pI F2 (by decide) (fun I22 F22 => ?_)
          exact fk_some F22
  · skip
    exact fk_some F2
theorem K_Model_step {p2 : Int32} {I : MI} {J : MJ} : fk sM I J (f_Model_step p2 I J) := by
  unfold f_Model_step
  refine fk_oc (fr_rfl _ _ _) (K_Model_isParty ) (fun v1 I1 J1 F1 => ?_)
  refine fk_ite (fun c2 => ?_) (fun c2 => ?_)
  · skip
    refine fk_ite (fun c3 => ?_) (fun c3 => ?_)
    · skip
      refine fk_pI F1 (by decide) (fun I4 F4 => ?_)
      refine fk_oc F4 (K_Model_stepOf ) (fun v5 I5 J5 F5 => ?_)
      exact fk_some F5
    · skip
      refine fk_oc F1 (K_Model_raise ) (fun v6 I6 J6 F6 => ?_)
      exact fk_some F6
  · skip
    refine fk_oc F1 (K_Model_raise ) (fun v7 I7 J7 F7 => ?_)
    exact fk_some F7
theorem K_Model_run_48 {p2 : Int32} : ∀ (fu : Nat) {l1 : Int32} {l2 : Int32} {l3 : Int32} {l4 : Int32} {l5 : Int32} {I : MI} {J : MJ}, fk sM I J (f_Model_run_48 p2 fu l1 l2 l3 l4 l5 I J) := by
  intro fu
  induction fu with
  | zero =>
    intros
    exact fk_none
  | succ fu ih =>
    intro l1 l2 l3 l4 l5 I J 
    unfold f_Model_run_48
    refine fk_ite (fun c1 => ?_) (fun c1 => ?_)
    · skip
      exact fk_some (fr_rfl _ _ _)
    · skip
      refine fk_ite (fun c2 => ?_) (fun c2 => ?_)
      · skip
        exact fk_some (fr_rfl _ _ _)
      · skip
        refine fk_oc (fr_rfl _ _ _) (K_Model_stepOf ) (fun v10 I10 J10 F3 => ?_)
        refine fk_pv (fun v12 => ?_)
        refine fk_pv (fun x14 => ?_)
        refine fk_pv (fun v16 => ?_)
        exact fk_tail F3 (ih )
theorem K_Model_run_122 {p2 : Int32} : ∀ (fu : Nat) {l1 : Int32} {l2 : Int32} {l3 : Int32} {l4 : Int32} {l5 : Int32} {I : MI} {J : MJ}, fk sM I J (f_Model_run_122 p2 fu l1 l2 l3 l4 l5 I J) := by
  intro fu
  induction fu with
  | zero =>
    intros
    exact fk_none
  | succ fu ih =>
    intro l1 l2 l3 l4 l5 I J 
    unfold f_Model_run_122
    refine fk_ite (fun c1 => ?_) (fun c1 => ?_)
    · skip
      exact fk_some (fr_rfl _ _ _)
    · skip
      refine fk_ite (fun c2 => ?_) (fun c2 => ?_)
      · skip
        exact fk_some (fr_rfl _ _ _)
      · skip
        refine fk_oc (fr_rfl _ _ _) (K_Model_brings ) (fun v23 I23 J23 F3 => ?_)
        refine fk_ite (fun c4 => ?_) (fun c4 => ?_)
        · skip
          exact fk_some F3
        · skip
          exact fk_tail F3 (ih )
theorem K_Model_run_115 {p2 : Int32} : ∀ (fu : Nat) {l1 : Int32} {l2 : Int32} {l3 : Int32} {l4 : Int32} {l5 : Int32} {I : MI} {J : MJ}, fk sM I J (f_Model_run_115 p2 fu l1 l2 l3 l4 l5 I J) := by
  intro fu
  induction fu with
  | zero =>
    intros
    exact fk_none
  | succ fu ih =>
    intro l1 l2 l3 l4 l5 I J 
    unfold f_Model_run_115
    refine fk_ite (fun c1 => ?_) (fun c1 => ?_)
    · skip
      exact fk_some (fr_rfl _ _ _)
    · skip
      refine fk_oc (fr_rfl _ _ _) (K_Model_run_122  gF ) (fun u25 I25 J25 F2 => ?_)
      exact fk_tail F2 (ih )
theorem K_Model_run_33 {p2 : Int32} : ∀ (fu : Nat) {l1 : Int32} {l2 : Int32} {l3 : Int32} {l4 : Int32} {I : MI} {J : MJ}, fk sM I J (f_Model_run_33 p2 fu l1 l2 l3 l4 I J) := by
  intro fu
  induction fu with
  | zero =>
    intros
    exact fk_none
  | succ fu ih =>
    intro l1 l2 l3 l4 I J 
    unfold f_Model_run_33
    refine fk_ite (fun c1 => ?_) (fun c1 => ?_)
    · skip
      exact fk_some (fr_rfl _ _ _)
    · skip
      refine fk_ite (fun c2 => ?_) (fun c2 => ?_)
      · skip
        exact fk_some (fr_rfl _ _ _)
      · skip
        refine fk_oc (fr_rfl _ _ _) (K_Model_run_48  gF ) (fun u19 I19 J19 F3 => ?_)
        refine fk_oc F3 (K_Model_run_115  gF ) (fun u26 I26 J26 F4 => ?_)
        exact fk_tail F4 (ih )
theorem K_Model_run {p2 : Int32} {I : MI} {J : MJ} : fk sM I J (f_Model_run p2 I J) := by
  unfold f_Model_run
  refine fk_ite (fun c1 => ?_) (fun c1 => ?_)
  · skip
    refine fk_oc (fr_rfl _ _ _) (K_Model_raise ) (fun v2 I2 J2 F2 => ?_)
    exact fk_some F2
  · skip
    refine fk_ite (fun c3 => ?_) (fun c3 => ?_)
    · skip
      refine fk_pI (fr_rfl _ _ _) (by decide) (fun I4 F4 => ?_)
      refine fk_pv (fun x5 => ?_)
      refine fk_oc F4 (K_Model_run_33  gF ) (fun u27 I27 J27 F5 => ?_)
      exact fk_some F5
    · skip
      refine fk_oc (fr_rfl _ _ _) (K_Model_raise ) (fun v28 I28 J28 F6 => ?_)
      exact fk_some F6
theorem K_Hall_settle_7 {w2 : Nat} {p3 : Int32} (h_w2 : w2 < 4) : ∀ (fu : Nat) {l3 : Int32} {I : MI} {J : MJ}, fk sC I J (f_Hall_settle_7 w2 p3 fu l3 I J) := by
  intro fu
  induction fu with
  | zero =>
    intros
    exact fk_none
  | succ fu ih =>
    intro l3 I J 
    unfold f_Hall_settle_7
    refine fk_ite (fun c1 => ?_) (fun c1 => ?_)
    · skip
      exact fk_some (fr_rfl _ _ _)
    · skip
      refine fk_oc (fr_rfl _ _ _) (K_Row_at (by decide) (by decide)) (fun v3 I3 J3 F2 => ?_)
      refine fk_ite (fun c3 => ?_) (fun c3 => ?_)
      · skip
        refine fk_ite (fun c4 => ?_) (fun c4 => ?_)
        · skip
          refine fk_ite (fun c5 => ?_) (fun c5 => ?_)
          · skip
            refine fk_oc F2 (K_Hall_firstPhase h_w2) (fun v7 I7 J7 F6 => ?_)
            refine fk_pI F6 (sC_p (by decide) h_w2) (fun I8 F7 => ?_)
            refine fk_ite (fun c8 => ?_) (fun c8 => ?_)
            · skip
              refine fk_pI F7 (sC_p (by decide) h_w2) (fun I10 F9 => ?_)
              exact fk_some F9
            · skip
              refine fk_pI F7 (sC_p (by decide) h_w2) (fun I11 F10 => ?_)
              exact fk_some F10
          · skip
            refine fk_oc F2 (K_Row_at (by decide) (by decide)) (fun v12 I12 J12 F11 => ?_)
            refine fk_oc F11 (K_Sh_read (sC_p (by decide) h_w2)) (fun v13 I13 J13 F12 => ?_)
            refine fk_oc F12 (K_Memory_push h_w2) (fun v14 I14 J14 F13 => ?_)
            refine fk_oc F13 (K_Sh_lengthOf ) (fun v15 I15 J15 F14 => ?_)
            refine fk_pI F14 (sC_p (by decide) h_w2) (fun I16 F15 => ?_)
            exact fk_tail F15 (ih )
        · skip
          refine fk_oc F2 (K_Row_at (by decide) (by decide)) (fun v17 I17 J17 F16 => ?_)
          refine fk_oc F16 (K_Sh_read (sC_p (by decide) h_w2)) (fun v18 I18 J18 F17 => ?_)
          refine fk_oc F17 (K_Memory_push h_w2) (fun v19 I19 J19 F18 => ?_)
          refine fk_oc F18 (K_Sh_lengthOf ) (fun v20 I20 J20 F19 => ?_)
          refine fk_pI F19 (sC_p (by decide) h_w2) (fun I21 F20 => ?_)
          exact fk_tail F20 (ih )
      · skip
        refine fk_oc F2 (K_Row_longAt (by decide) (by decide)) (fun v22 I22 J22 F21 => ?_)
        refine fk_oc F21 (K_Memory_push h_w2) (fun v23 I23 J23 F22 => ?_)
        refine fk_oc F22 (K_Sh_lengthOf ) (fun v24 I24 J24 F23 => ?_)
        refine fk_pI F23 (sC_p (by decide) h_w2) (fun I25 F24 => ?_)
        exact fk_tail F24 (ih )
theorem K_Hall_settle {w2 : Nat} {p3 : Int32} {I : MI} {J : MJ} (h_w2 : w2 < 4) : fk sC I J (f_Hall_settle w2 p3 I J) := by
  unfold f_Hall_settle
  refine fk_pI (fr_rfl _ _ _) (sC_p (by decide) h_w2) (fun I1 F1 => ?_)
  refine fk_oc F1 (K_Hall_settle_7 h_w2 gF ) (fun q26 I26 J26 F2 => ?_)
  refine fk_oe (fun y26 => ?_) (fun u26 => ?_)
  · skip
    exact fk_some F2
  · skip
    exact fk_some F2
theorem K_Hall_lackFor {w2 : Nat} {p3 : Int32} {I : MI} {J : MJ} (h_w2 : w2 < 4) : fk sC I J (f_Hall_lackFor w2 p3 I J) := by
  unfold f_Hall_lackFor
  refine fk_ite (fun c1 => ?_) (fun c1 => ?_)
  · skip
    refine fk_oc (fr_rfl _ _ _) (K_Hall_left h_w2) (fun v2 I2 J2 F2 => ?_)
    refine fk_ite (fun c3 => ?_) (fun c3 => ?_)
    · skip
      exact fk_some F2
    · skip
      exact fk_some F2
  · skip
    refine fk_ite (fun c4 => ?_) (fun c4 => ?_)
    · skip
      refine fk_oc (fr_rfl _ _ _) (K_Hall_left h_w2) (fun v5 I5 J5 F5 => ?_)
      refine fk_ite (fun c6 => ?_) (fun c6 => ?_)
      · skip
        exact fk_some F5
      · skip
        exact fk_some F5
    · skip
      refine fk_ite (fun c7 => ?_) (fun c7 => ?_)
      · skip
        refine fk_oc (fr_rfl _ _ _) (K_Stock_inputsLeft h_w2) (fun v8 I8 J8 F8 => ?_)
        refine fk_ite (fun c9 => ?_) (fun c9 => ?_)
        · skip
          refine fk_oc F8 (K_Stock_masksLeft h_w2) (fun v10 I10 J10 F10 => ?_)
          refine fk_ite (fun c11 => ?_) (fun c11 => ?_)
          · skip
            exact fk_some F10
          · skip
            exact fk_some F10
        · skip
          exact fk_some F8
      · skip
        refine fk_ite (fun c12 => ?_) (fun c12 => ?_)
        · skip
          refine fk_oc (fr_rfl _ _ _) (K_Memory_fromTop h_w2) (fun v13 I13 J13 F13 => ?_)
          refine fk_ite (fun c14 => ?_) (fun c14 => ?_)
          · skip
            exact fk_some F13
          · skip
            exact fk_some F13
        · skip
          refine fk_ite (fun c15 => ?_) (fun c15 => ?_)
          · skip
            refine fk_oc (fr_rfl _ _ _) (K_Memory_fromTop h_w2) (fun v16 I16 J16 F16 => ?_)
            refine fk_ite (fun c17 => ?_) (fun c17 => ?_)
            · skip
              exact fk_some F16
            · skip
              exact fk_some F16
          · skip
            refine fk_ite (fun c18 => ?_) (fun c18 => ?_)
            · skip
              refine fk_oc (fr_rfl _ _ _) (K_Hall_isShared h_w2) (fun v19 I19 J19 F19 => ?_)
              refine fk_ite (fun c20 => ?_) (fun c20 => ?_)
              · skip
                exact fk_some F19
              · skip
                refine fk_oc F19 (K_Hall_left h_w2) (fun v21 I21 J21 F21 => ?_)
                refine fk_ite (fun c22 => ?_) (fun c22 => ?_)
                · skip
                  exact fk_some F21
                · skip
                  exact fk_some F21
            · skip
              refine fk_ite (fun c23 => ?_) (fun c23 => ?_)
              · skip
                refine fk_oc (fr_rfl _ _ _) (K_Hall_left h_w2) (fun v24 I24 J24 F24 => ?_)
                refine fk_ite (fun c25 => ?_) (fun c25 => ?_)
                · skip
                  exact fk_some F24
                · skip
                  exact fk_some F24
              · skip
                refine fk_ite (fun c26 => ?_) (fun c26 => ?_)
                · skip
                  refine fk_ite (fun c27 => ?_) (fun c27 => ?_)
                  · skip
                    exact fk_some (fr_rfl _ _ _)
                  · skip
                    exact fk_some (fr_rfl _ _ _)
                · skip
                  refine fk_ite (fun c28 => ?_) (fun c28 => ?_)
                  · skip
                    refine fk_ite (fun c29 => ?_) (fun c29 => ?_)
                    · skip
                      exact fk_some (fr_rfl _ _ _)
                    · skip
                      exact fk_some (fr_rfl _ _ _)
                  · skip
                    exact fk_some (fr_rfl _ _ _)
theorem K_Hall_conclude {w2 : Nat} {p3 : Int32} {I : MI} {J : MJ} (h_w2 : w2 < 4) : fk sC I J (f_Hall_conclude w2 p3 I J) := by
  unfold f_Hall_conclude
  refine fk_oc (fr_rfl _ _ _) (K_Row_at (by decide) (by decide)) (fun v1 I1 J1 F1 => ?_)
  refine fk_oc F1 (K_Row_at (by decide) (by decide)) (fun v2 I2 J2 F2 => ?_)
  refine fk_ite (fun c3 => ?_) (fun c3 => ?_)
  · skip
    refine fk_oc F2 (K_Memory_pop h_w2) (fun v4 I4 J4 F4 => ?_)
    refine fk_ite (fun c5 => ?_) (fun c5 => ?_)
    · skip
      exact fk_none
    · skip
      refine fk_oc F4 (K_Sh_plus ) (fun v6 I6 J6 F6 => ?_)
      refine fk_oc F6 (K_Memory_pop h_w2) (fun v7 I7 J7 F7 => ?_)
      refine fk_ite (fun c8 => ?_) (fun c8 => ?_)
      · skip
        exact fk_none
      · skip
        refine fk_oc F7 (K_Sh_plus ) (fun v9 I9 J9 F9 => ?_)
        refine fk_oc F9 (K_Sh_times ) (fun v10 I10 J10 F10 => ?_)
        refine fk_oc F10 (K_Memory_push h_w2) (fun v11 I11 J11 F11 => ?_)
        exact fk_some F11
  · skip
    refine fk_ite (fun c12 => ?_) (fun c12 => ?_)
    · skip
      refine fk_oc F2 (K_Memory_pop h_w2) (fun v13 I13 J13 F13 => ?_)
      refine fk_ite (fun c14 => ?_) (fun c14 => ?_)
      · skip
        exact fk_none
      · skip
        refine fk_oc F13 (K_Sh_plus ) (fun v15 I15 J15 F15 => ?_)
        refine fk_oc F15 (K_Sh_times ) (fun v16 I16 J16 F16 => ?_)
        refine fk_oc F16 (K_Memory_push h_w2) (fun v17 I17 J17 F17 => ?_)
        exact fk_some F17
    · skip
      refine fk_ite (fun c18 => ?_) (fun c18 => ?_)
      · skip
        refine fk_oc F2 (K_Hall_nextInput h_w2) (fun v19 I19 J19 F19 => ?_)
        refine fk_ite (fun c20 => ?_) (fun c20 => ?_)
        · skip
          exact fk_none
        · skip
          refine fk_oc F19 (K_Sh_plus ) (fun v21 I21 J21 F21 => ?_)
          refine fk_oc F21 (K_Sh_write (sC_p (by decide) h_w2)) (fun v22 I22 J22 F22 => ?_)
          exact fk_some F22
      · skip
        refine fk_ite (fun c23 => ?_) (fun c23 => ?_)
        · skip
          refine fk_oc F2 (K_Sh_read (sC_p (by decide) h_w2)) (fun v24 I24 J24 F24 => ?_)
          refine fk_ite (fun c25 => ?_) (fun c25 => ?_)
          · skip
            exact fk_none
          · skip
            refine fk_oc F24 (K_Sh_plus ) (fun v26 I26 J26 F26 => ?_)
            refine fk_oc F26 (K_Sh_write (sC_p (by decide) h_w2)) (fun v27 I27 J27 F27 => ?_)
            exact fk_some F27
        · skip
          refine fk_oc F2 (K_Hall_joinArrays h_w2) (fun v28 I28 J28 F28 => ?_)
          exact fk_some F28
theorem K_Hall_work {w2 : Nat} {p3 : Int32} {I : MI} {J : MJ} (h_w2 : w2 < 4) : fk sC I J (f_Hall_work w2 p3 I J) := by
  unfold f_Hall_work
  refine fk_oc (fr_rfl _ _ _) (K_Row_at (by decide) (by decide)) (fun v1 I1 J1 F1 => ?_)
  refine fk_oc F1 (K_Sh_lengthOf ) (fun v2 I2 J2 F2 => ?_)
  refine fk_pv (fun x3 => ?_)
  refine fk_oc F2 ?_ (fun v9 I9 J9 F3 => ?_)
  · skip
    refine fk_ite (fun c4 => ?_) (fun c4 => ?_)
    · skip
      refine fk_oc (fr_rfl _ _ _) (K_Memory_pop h_w2) (fun v11 I11 J11 F5 => ?_)
      refine fk_oc F5 (K_Memory_pop h_w2) (fun v12 I12 J12 F6 => ?_)
      refine fk_oc F6 (K_Hall_joined ) (fun v13 I13 J13 F7 => ?_)
      refine fk_oc F7 (K_Memory_push h_w2) (fun v14 I14 J14 F8 => ?_)
      exact fk_some F8
    · skip
      refine fk_ite (fun c9 => ?_) (fun c9 => ?_)
      · skip
        refine fk_oc (fr_rfl _ _ _) (K_Memory_pop h_w2) (fun v16 I16 J16 F10 => ?_)
        refine fk_oc F10 (K_Sh_minus ) (fun v17 I17 J17 F11 => ?_)
        refine fk_oc F11 (K_Memory_push h_w2) (fun v18 I18 J18 F12 => ?_)
        exact fk_some F12
      · skip
        refine fk_ite (fun c13 => ?_) (fun c13 => ?_)
        · skip
          refine fk_oc (fr_rfl _ _ _) (K_Memory_pop h_w2) (fun v20 I20 J20 F14 => ?_)
          refine fk_oc F14 (K_Sh_times ) (fun v21 I21 J21 F15 => ?_)
          refine fk_oc F15 (K_Memory_push h_w2) (fun v22 I22 J22 F16 => ?_)
          exact fk_some F16
        · skip
          refine fk_ite (fun c17 => ?_) (fun c17 => ?_)
          · skip
            refine fk_oc (fr_rfl _ _ _) (K_Memory_pop h_w2) (fun v24 I24 J24 F18 => ?_)
            refine fk_oc F18 (K_Sh_write (sC_p (by decide) h_w2)) (fun v25 I25 J25 F19 => ?_)
            exact fk_some F19
          · skip
            refine fk_ite (fun c20 => ?_) (fun c20 => ?_)
            · skip
              refine fk_oc (fr_rfl _ _ _) (K_Memory_pop h_w2) (fun v27 I27 J27 F21 => ?_)
              refine fk_oc F21 (K_Sh_write (sC_p (by decide) h_w2)) (fun v28 I28 J28 F22 => ?_)
              exact fk_some F22
            · skip
              refine fk_ite (fun c23 => ?_) (fun c23 => ?_)
              · skip
                refine fk_oc (fr_rfl _ _ _) (K_Hall_jump h_w2) (fun v30 I30 J30 F24 => ?_)
                exact fk_some F24
              · skip
                refine fk_ite (fun c25 => ?_) (fun c25 => ?_)
                · skip
                  refine fk_oc (fr_rfl _ _ _) (K_Hall_visitPlace h_w2) (fun v32 I32 J32 F26 => ?_)
                  exact fk_some F26
                · skip
                  refine fk_ite (fun c27 => ?_) (fun c27 => ?_)
                  · skip
                    refine fk_oc (fr_rfl _ _ _) (K_Hall_nextBit h_w2) (fun v34 I34 J34 F28 => ?_)
                    refine fk_oc F28 (K_Sh_write (sC_p (by decide) h_w2)) (fun v35 I35 J35 F29 => ?_)
                    exact fk_some F29
                  · skip
                    refine fk_oc (fr_rfl _ _ _) (K_Hall_joinArrays h_w2) (fun v36 I36 J36 F30 => ?_)
                    exact fk_some F30
  · skip
    refine fk_oc F3 (K_Hall_settle h_w2) (fun v37 I37 J37 F31 => ?_)
    exact fk_some F31
theorem K_Hall_judge_57 {w2 : Nat} (h_w2 : w2 < 4) : ∀ (fu : Nat) {l5 : Int32} {I : MI} {J : MJ}, fk sC I J (f_Hall_judge_57 w2 fu l5 I J) := by
  intro fu
  induction fu with
  | zero =>
    intros
    exact fk_none
  | succ fu ih =>
    intro l5 I J 
    unfold f_Hall_judge_57
    refine fk_ite (fun c1 => ?_) (fun c1 => ?_)
    · skip
      exact fk_some (fr_rfl _ _ _)
    · skip
      refine fk_pv (fun v12 => ?_)
      refine fk_ite (fun c2 => ?_) (fun c2 => ?_)
      · skip
        exact fk_none
      · skip
        refine fk_pI (fr_rfl _ _ _) (sC_p (by decide) h_w2) (fun I15 F3 => ?_)
        exact fk_tail F3 (ih )
theorem K_Hall_judge {w2 : Nat} {I : MI} {J : MJ} (h_w2 : w2 < 4) : fk sC I J (f_Hall_judge w2 I J) := by
  unfold f_Hall_judge
  refine fk_oc (fr_rfl _ _ _) ?_ (fun v2 I2 J2 F1 => ?_)
  · skip
    refine fk_ite (fun c2 => ?_) (fun c2 => ?_)
    · skip
      exact fk_some (fr_rfl _ _ _)
    · skip
      refine fk_oc (fr_rfl _ _ _) (K_Hall_weightedErrors h_w2) (fun v4 I4 J4 F3 => ?_)
      exact fk_some F3
  · skip
    refine fk_pI F1 (sC_p (by decide) h_w2) (fun I5 F4 => ?_)
    refine fk_oc F4 (K_Check_forget h_w2) (fun v6 I6 J6 F5 => ?_)
    refine fk_ite (fun c6 => ?_) (fun c6 => ?_)
    · skip
      refine fk_pI F5 (sC_p (by decide) h_w2) (fun I8 F7 => ?_)
      refine fk_pI F7 (sC_p (by decide) h_w2) (fun I9 F8 => ?_)
      refine fk_oc F8 (K_Hall_judge_57 h_w2 gF ) (fun u16 I16 J16 F9 => ?_)
      exact fk_some F9
    · skip
      exact fk_some F5
