theorem K_Errors_sum {p2 : Int32} {p3 : Int32} {p4 : Int32} {I : MI} {J : MJ} : fk sC I J (f_Errors_sum p2 p3 p4 I J) := by
  unfold f_Errors_sum
  refine fk_oc (fr_rfl _ _ _) (K_Errors_sum_6  gF ) (fun u11 I11 J11 F1 => ?_)
  exact fk_some F1
theorem K_Hall_has {p2 : Int32} {I : MI} {J : MJ} : fk sC I J (f_Hall_has p2 I J) := by
  unfold f_Hall_has
  refine fk_ite (fun c1 => ?_) (fun c1 => ?_)
  · skip
    exact fk_some (fr_rfl _ _ _)
  · skip
    refine fk_ite (fun c2 => ?_) (fun c2 => ?_)
    · skip
      exact fk_some (fr_rfl _ _ _)
    · skip
      refine fk_ite (fun c3 => ?_) (fun c3 => ?_)
      · skip
        exact fk_some (fr_rfl _ _ _)
      · skip
        exact fk_some (fr_rfl _ _ _)
theorem K_Hall_left {w2 : Nat} {p3 : Int32} {I : MI} {J : MJ} (h_w2 : w2 < 4) : fk sC I J (f_Hall_left w2 p3 I J) := by
  unfold f_Hall_left
  refine fk_ite (fun c1 => ?_) (fun c1 => ?_)
  · skip
    exact fk_some (fr_rfl _ _ _)
  · skip
    refine fk_ite (fun c2 => ?_) (fun c2 => ?_)
    · skip
      exact fk_some (fr_rfl _ _ _)
    · skip
      refine fk_ite (fun c3 => ?_) (fun c3 => ?_)
      · skip
        exact fk_none
      · skip
        refine fk_ite (fun c4 => ?_) (fun c4 => ?_)
        · skip
          exact fk_none
        · skip
          exact fk_some (fr_rfl _ _ _)
theorem K_Hall_evenOut_4 {p2 : Int32} : ∀ (fu : Nat) {l1 : Int32} {l2 : Int32} {l3 : Int32} {I : MI} {J : MJ}, fk sC I J (f_Hall_evenOut_4 p2 fu l1 l2 l3 I J) := by
  intro fu
  induction fu with
  | zero =>
    intros
    exact fk_none
  | succ fu ih =>
    intro l1 l2 l3 I J 
    unfold f_Hall_evenOut_4
    refine fk_ite (fun c1 => ?_) (fun c1 => ?_)
    · skip
      exact fk_some (fr_rfl _ _ _)
    · skip
      refine fk_ite (fun c2 => ?_) (fun c2 => ?_)
      · skip
        exact fk_none
      · skip
        refine fk_ite (fun c3 => ?_) (fun c3 => ?_)
        · skip
          exact fk_none
        · skip
          refine fk_pv (fun x4 => ?_)
          exact fk_tail (fr_rfl _ _ _) (ih )
theorem K_Hall_evenOut_39 {p2 : Int32} : ∀ (fu : Nat) {l1 : Int32} {l2 : Int32} {l3 : Int32} {I : MI} {J : MJ}, fk sC I J (f_Hall_evenOut_39 p2 fu l1 l2 l3 I J) := by
  intro fu
  induction fu with
  | zero =>
    intros
    exact fk_none
  | succ fu ih =>
    intro l1 l2 l3 I J 
    unfold f_Hall_evenOut_39
    refine fk_ite (fun c1 => ?_) (fun c1 => ?_)
    · skip
      exact fk_some (fr_rfl _ _ _)
    · skip
      refine fk_ite (fun c2 => ?_) (fun c2 => ?_)
      · skip
        exact fk_none
      · skip
        refine fk_ite (fun c3 => ?_) (fun c3 => ?_)
        · skip
          exact fk_none
        · skip
          refine fk_pI (fr_rfl _ _ _) (sC_p (by decide) (vp_lt c2)) (fun I9 F4 => ?_)
          exact fk_tail F4 (ih )
theorem K_Hall_evenOut {p2 : Int32} {I : MI} {J : MJ} : fk sC I J (f_Hall_evenOut p2 I J) := by
  unfold f_Hall_evenOut
  refine fk_oc (fr_rfl _ _ _) (K_Hall_evenOut_4  gF ) (fun u5 I5 J5 F1 => ?_)
  refine fk_oc F1 (K_Hall_evenOut_39  gF ) (fun u10 I10 J10 F2 => ?_)
  exact fk_some F2
theorem K_Hall_firstArrayAt {w1 : Nat} {p2 : Int32} {I : MI} {J : MJ} (h_w1 : w1 < 4) : fk sC I J (f_Hall_firstArrayAt w1 p2 I J) := by
  unfold f_Hall_firstArrayAt
  refine fk_ite (fun c1 => ?_) (fun c1 => ?_)
  · skip
    exact fk_some (fr_rfl _ _ _)
  · skip
    exact fk_some (fr_rfl _ _ _)
theorem K_Hall_numbersOf {p1 : Int32} {I : MI} {J : MJ} : fk sC I J (f_Hall_numbersOf p1 I J) := by
  unfold f_Hall_numbersOf
  refine fk_ite (fun c1 => ?_) (fun c1 => ?_)
  · skip
    exact fk_some (fr_rfl _ _ _)
  · skip
    refine fk_ite (fun c2 => ?_) (fun c2 => ?_)
    · skip
      exact fk_some (fr_rfl _ _ _)
    · skip
      exact fk_some (fr_rfl _ _ _)
theorem K_Hall_use {w1 : Nat} {p2 : Int32} {I : MI} {J : MJ} (h_w1 : w1 < 4) : fk sC I J (f_Hall_use w1 p2 I J) := by
  unfold f_Hall_use
  refine fk_ite (fun c1 => ?_) (fun c1 => ?_)
  · skip
    refine fk_ite (fun c2 => ?_) (fun c2 => ?_)
    · skip
      exact fk_none
    · skip
      refine fk_ite (fun c3 => ?_) (fun c3 => ?_)
      · skip
        exact fk_none
      · skip
        refine fk_pI (fr_rfl _ _ _) (sC_p (by decide) h_w1) (fun I4 F4 => ?_)
        exact fk_some F4
  · skip
    refine fk_ite (fun c5 => ?_) (fun c5 => ?_)
    · skip
      refine fk_ite (fun c6 => ?_) (fun c6 => ?_)
      · skip
        exact fk_none
      · skip
        refine fk_ite (fun c7 => ?_) (fun c7 => ?_)
        · skip
          exact fk_none
        · skip
          refine fk_pI (fr_rfl _ _ _) (sC_p (by decide) h_w1) (fun I8 F8 => ?_)
          exact fk_some F8
    · skip
      refine fk_ite (fun c9 => ?_) (fun c9 => ?_)
      · skip
        refine fk_pI (fr_rfl _ _ _) (sC_p (by decide) h_w1) (fun I10 F10 => ?_)
        refine fk_pI F10 (sC_p (by decide) h_w1) (fun I11 F11 => ?_)
        exact fk_some F11
      · skip
        refine fk_ite (fun c12 => ?_) (fun c12 => ?_)
        · skip
          refine fk_ite (fun c13 => ?_) (fun c13 => ?_)
          · skip
            exact fk_none
          · skip
            refine fk_ite (fun c14 => ?_) (fun c14 => ?_)
            · skip
              exact fk_none
            · skip
              refine fk_pI (fr_rfl _ _ _) (sC_p (by decide) h_w1) (fun I15 F15 => ?_)
              exact fk_some F15
        · skip
          exact fk_some (fr_rfl _ _ _)
theorem K_Hall_sends_7 {w2 : Nat} (h_w2 : w2 < 4) : ∀ (fu : Nat) {l3 : Int32} {I : MI} {J : MJ}, fk sC I J (f_Hall_sends_7 w2 fu l3 I J) := by
  intro fu
  induction fu with
  | zero =>
    intros
    exact fk_none
  | succ fu ih =>
    intro l3 I J 
    unfold f_Hall_sends_7
    refine fk_ite (fun c1 => ?_) (fun c1 => ?_)
    · skip
      exact fk_some (fr_rfl _ _ _)
    · skip
      refine fk_ite (fun c2 => ?_) (fun c2 => ?_)
      · skip
        exact fk_none
      · skip
        refine fk_ite (fun c3 => ?_) (fun c3 => ?_)
        · skip
          exact fk_tail (fr_rfl _ _ _) (ih )
        · skip
          exact fk_some (fr_rfl _ _ _)
theorem K_Hall_sends_38 {w2 : Nat} (h_w2 : w2 < 4) : ∀ (fu : Nat) {l3 : Int32} {I : MI} {J : MJ}, fk sC I J (f_Hall_sends_38 w2 fu l3 I J) := by
  intro fu
  induction fu with
  | zero =>
    intros
    exact fk_none
  | succ fu ih =>
    intro l3 I J 
    unfold f_Hall_sends_38
    refine fk_ite (fun c1 => ?_) (fun c1 => ?_)
    · skip
      exact fk_some (fr_rfl _ _ _)
    · skip
      refine fk_ite (fun c2 => ?_) (fun c2 => ?_)
      · skip
        exact fk_tail (fr_rfl _ _ _) (ih )
      · skip
        refine fk_ite (fun c3 => ?_) (fun c3 => ?_)
        · skip
          exact fk_none
        · skip
          refine fk_ite (fun c4 => ?_) (fun c4 => ?_)
          · skip
            exact fk_none
          · skip
            refine fk_pI (fr_rfl _ _ _) (sC_p (by decide) h_w2) (fun I9 F5 => ?_)
            exact fk_tail F5 (ih )
theorem K_Hall_sends {w2 : Nat} {I : MI} {J : MJ} (h_w2 : w2 < 4) : fk sC I J (f_Hall_sends w2 I J) := by
  unfold f_Hall_sends
  refine fk_oc (fr_rfl _ _ _) (K_Hall_sends_7 h_w2 gF ) (fun q4 I4 J4 F1 => ?_)
  refine fk_oe (fun y4 => ?_) (fun u4 => ?_)
  · skip
    exact fk_some F1
  · skip
    refine fk_oc F1 (K_Hall_sends_38 h_w2 gF ) (fun u10 I10 J10 F2 => ?_)
    refine fk_pI F2 (sC_p (by decide) h_w2) (fun I11 F3 => ?_)
    exact fk_some F3
theorem K_Hall_receives_8 {w2 : Nat} {p3 : Int32} (h_w2 : w2 < 4) : ∀ (fu : Nat) {l2 : Int32} {l4 : Int32} {I : MI} {J : MJ}, fk sC I J (f_Hall_receives_8 w2 p3 fu l2 l4 I J) := by
  intro fu
  induction fu with
  | zero =>
    intros
    exact fk_none
  | succ fu ih =>
    intro l2 l4 I J 
    unfold f_Hall_receives_8
    refine fk_ite (fun c1 => ?_) (fun c1 => ?_)
    · skip
      exact fk_some (fr_rfl _ _ _)
    · skip
      refine fk_ite (fun c2 => ?_) (fun c2 => ?_)
      · skip
        exact fk_tail (fr_rfl _ _ _) (ih )
      · skip
        refine fk_ite (fun c3 => ?_) (fun c3 => ?_)
        · skip
          refine fk_ite (fun c4 => ?_) (fun c4 => ?_)
          · skip
            exact fk_none
          · skip
            refine fk_ite (fun c5 => ?_) (fun c5 => ?_)
            · skip
              exact fk_tail (fr_rfl _ _ _) (ih )
            · skip
              exact fk_some (fr_rfl _ _ _)
        · skip
          refine fk_ite (fun c6 => ?_) (fun c6 => ?_)
          · skip
            exact fk_tail (fr_rfl _ _ _) (ih )
          · skip
            refine fk_ite (fun c7 => ?_) (fun c7 => ?_)
            · skip
              exact fk_none
            · skip
              refine fk_ite (fun c8 => ?_) (fun c8 => ?_)
              · skip
                exact fk_tail (fr_rfl _ _ _) (ih )
              · skip
                exact fk_some (fr_rfl _ _ _)
theorem K_Hall_receives_59 {w2 : Nat} {p3 : Int32} (h_w2 : w2 < 4) : ∀ (fu : Nat) {l2 : Int32} {l4 : Int32} {I : MI} {J : MJ}, fk sC I J (f_Hall_receives_59 w2 p3 fu l2 l4 I J) := by
  intro fu
  induction fu with
  | zero =>
    intros
    exact fk_none
  | succ fu ih =>
    intro l2 l4 I J 
    unfold f_Hall_receives_59
    refine fk_ite (fun c1 => ?_) (fun c1 => ?_)
    · skip
      exact fk_some (fr_rfl _ _ _)
    · skip
      refine fk_ite (fun c2 => ?_) (fun c2 => ?_)
      · skip
        exact fk_tail (fr_rfl _ _ _) (ih )
      · skip
        refine fk_ite (fun c3 => ?_) (fun c3 => ?_)
        · skip
          refine fk_ite (fun c4 => ?_) (fun c4 => ?_)
          · skip
            exact fk_none
          · skip
            refine fk_ite (fun c5 => ?_) (fun c5 => ?_)
            · skip
              exact fk_none
            · skip
              refine fk_pI (fr_rfl _ _ _) (sC_p (by decide) h_w2) (fun I15 F6 => ?_)
              exact fk_tail F6 (ih )
        · skip
          refine fk_ite (fun c7 => ?_) (fun c7 => ?_)
          · skip
            exact fk_tail (fr_rfl _ _ _) (ih )
          · skip
            refine fk_ite (fun c8 => ?_) (fun c8 => ?_)
            · skip
              exact fk_none
            · skip
              refine fk_ite (fun c9 => ?_) (fun c9 => ?_)
              · skip
                exact fk_none
              · skip
                refine fk_pI (fr_rfl _ _ _) (sC_p (by decide) h_w2) (fun I19 F10 => ?_)
                exact fk_tail F10 (ih )
theorem K_Hall_receives {w2 : Nat} {p3 : Int32} {I : MI} {J : MJ} (h_w2 : w2 < 4) : fk sC I J (f_Hall_receives w2 p3 I J) := by
  unfold f_Hall_receives
  refine fk_oc (fr_rfl _ _ _) (K_Hall_receives_8 h_w2 gF ) (fun q9 I9 J9 F1 => ?_)
  refine fk_oe (fun y9 => ?_) (fun u9 => ?_)
  · skip
    exact fk_some F1
  · skip
    refine fk_oc F1 (K_Hall_receives_59 h_w2 gF ) (fun u20 I20 J20 F2 => ?_)
    refine fk_pI F2 (sC_p (by decide) h_w2) (fun I21 F3 => ?_)
    exact fk_some F3
theorem K_Hall_gatherErrors_34 {w2 : Nat} {p3 : Int32} {p4 : Int32} (h_w2 : w2 < 4) : ∀ (fu : Nat) {l2 : Int32} {l3 : Int32} {l5 : Int32} {l6 : Int64} {l8 : Int32} {I : MI} {J : MJ}, fk sC I J (f_Hall_gatherErrors_34 w2 p3 p4 fu l2 l3 l5 l6 l8 I J) := by
  intro fu
  induction fu with
  | zero =>
    intros
    exact fk_none
  | succ fu ih =>
    intro l2 l3 l5 l6 l8 I J 
    unfold f_Hall_gatherErrors_34
    refine fk_ite (fun c1 => ?_) (fun c1 => ?_)
    · skip
      exact fk_some (fr_rfl _ _ _)
    · skip
      refine fk_ite (fun c2 => ?_) (fun c2 => ?_)
      · skip
        refine fk_ite (fun c3 => ?_) (fun c3 => ?_)
        · skip
          exact fk_none
        · skip
          refine fk_oc (fr_rfl _ _ _) (K_Errors_sum ) (fun v6 I6 J6 F4 => ?_)
          refine fk_oc F4 (K_Sh_plus ) (fun v7 I7 J7 F5 => ?_)
          exact fk_tail F5 (ih )
      · skip
        refine fk_ite (fun c6 => ?_) (fun c6 => ?_)
        · skip
          exact fk_tail (fr_rfl _ _ _) (ih )
        · skip
          refine fk_ite (fun c7 => ?_) (fun c7 => ?_)
          · skip
            exact fk_none
          · skip
            refine fk_oc (fr_rfl _ _ _) (K_Errors_sum ) (fun v10 I10 J10 F8 => ?_)
            refine fk_oc F8 (K_Sh_plus ) (fun v11 I11 J11 F9 => ?_)
            exact fk_tail F9 (ih )
theorem K_Hall_gatherErrors_12 {w2 : Nat} {p3 : Int32} {p4 : Int32} (h_w2 : w2 < 4) : ∀ (fu : Nat) {l2 : Int32} {l3 : Int32} {l5 : Int32} {I : MI} {J : MJ}, fk sC I J (f_Hall_gatherErrors_12 w2 p3 p4 fu l2 l3 l5 I J) := by
  intro fu
  induction fu with
  | zero =>
    intros
    exact fk_none
  | succ fu ih =>
    intro l2 l3 l5 I J 
    unfold f_Hall_gatherErrors_12
    refine fk_ite (fun c1 => ?_) (fun c1 => ?_)
    · skip
      exact fk_some (fr_rfl _ _ _)
    · skip
      refine fk_ite (fun c2 => ?_) (fun c2 => ?_)
      · skip
        exact fk_some (fr_rfl _ _ _)
      · skip
        refine fk_oc (fr_rfl _ _ _) (K_Hall_gatherErrors_34 h_w2 gF ) (fun u12 I12 J12 F3 => ?_)
        refine fk_ite (fun c4 => ?_) (fun c4 => ?_)
        · skip
          exact fk_none
        · skip
          refine fk_pJ F3 (by decide) (fun J14 F5 => ?_)
          refine fk_ite (fun c6 => ?_) (fun c6 => ?_)
          · skip
            exact fk_tail F5 (ih )
          · skip
            refine fk_oc F5 (K_Check_note h_w2) (fun v16 I16 J16 F7 => ?_)
            exact fk_tail F7 (ih )
theorem K_Hall_gatherErrors_115 {w2 : Nat} {p3 : Int32} {p4 : Int32} (h_w2 : w2 < 4) : ∀ (fu : Nat) {l2 : Int32} {l5 : Int32} {I : MI} {J : MJ}, fk sC I J (f_Hall_gatherErrors_115 w2 p3 p4 fu l2 l5 I J) := by
  intro fu
  induction fu with
  | zero =>
    intros
    exact fk_none
  | succ fu ih =>
    intro l2 l5 I J 
    unfold f_Hall_gatherErrors_115
    refine fk_ite (fun c1 => ?_) (fun c1 => ?_)
    · skip
      exact fk_some (fr_rfl _ _ _)
    · skip
      refine fk_ite (fun c2 => ?_) (fun c2 => ?_)
      · skip
        refine fk_ite (fun c3 => ?_) (fun c3 => ?_)
        · skip
          exact fk_none
        · skip
          refine fk_ite (fun c4 => ?_) (fun c4 => ?_)
          · skip
            exact fk_none
          · skip
            refine fk_pI (fr_rfl _ _ _) (sC_p (by decide) h_w2) (fun I22 F5 => ?_)
            exact fk_tail F5 (ih )
      · skip
        refine fk_ite (fun c6 => ?_) (fun c6 => ?_)
        · skip
          exact fk_tail (fr_rfl _ _ _) (ih )
        · skip
          refine fk_ite (fun c7 => ?_) (fun c7 => ?_)
          · skip
            exact fk_none
          · skip
            refine fk_ite (fun c8 => ?_) (fun c8 => ?_)
            · skip
              exact fk_none
            · skip
              refine fk_pI (fr_rfl _ _ _) (sC_p (by decide) h_w2) (fun I26 F9 => ?_)
              exact fk_tail F9 (ih )
theorem K_Hall_gatherErrors {w2 : Nat} {p3 : Int32} {p4 : Int32} {I : MI} {J : MJ} (h_w2 : w2 < 4) : fk sC I J (f_Hall_gatherErrors w2 p3 p4 I J) := by
  unfold f_Hall_gatherErrors
  refine fk_oc (fr_rfl _ _ _) (K_Hall_gatherErrors_12 h_w2 gF ) (fun u17 I17 J17 F1 => ?_)
  refine fk_oc F1 (K_Hall_gatherErrors_115 h_w2 gF ) (fun u27 I27 J27 F2 => ?_)
  exact fk_some F2
theorem K_Hall_nextInput {w2 : Nat} {p3 : Int32} {I : MI} {J : MJ} (h_w2 : w2 < 4) : fk sC I J (f_Hall_nextInput w2 p3 I J) := by
  unfold f_Hall_nextInput
  refine fk_oc (fr_rfl _ _ _) (K_Hall_has ) (fun v1 I1 J1 F1 => ?_)
  refine fk_ite (fun c2 => ?_) (fun c2 => ?_)
  · skip
    refine fk_ite (fun c3 => ?_) (fun c3 => ?_)
    · skip
      exact fk_none
    · skip
      refine fk_pv (fun x4 => ?_)
      refine fk_ite (fun c4 => ?_) (fun c4 => ?_)
      · skip
        exact fk_none
      · skip
        refine fk_ite (fun c5 => ?_) (fun c5 => ?_)
        · skip
          exact fk_none
        · skip
          refine fk_pI F1 (sC_p (by decide) h_w2) (fun I7 F6 => ?_)
          refine fk_ite (fun c7 => ?_) (fun c7 => ?_)
          · skip
            exact fk_none
          · skip
            refine fk_oc F6 (K_Sh_read (sC_p (by decide) (vp_lt c7))) (fun v9 I9 J9 F8 => ?_)
            exact fk_some F8
  · skip
    exact fk_some F1
theorem K_Hall_joined {p1 : Int32} {p2 : Int64} {p3 : Int64} {I : MI} {J : MJ} : fk sC I J (f_Hall_joined p1 p2 p3 I J) := by
  unfold f_Hall_joined
  refine fk_ite (fun c1 => ?_) (fun c1 => ?_)
  · skip
    refine fk_oc (fr_rfl _ _ _) (K_Sh_plus ) (fun v2 I2 J2 F2 => ?_)
    exact fk_some F2
  · skip
    refine fk_ite (fun c3 => ?_) (fun c3 => ?_)
    · skip
      refine fk_oc (fr_rfl _ _ _) (K_Sh_minus ) (fun v4 I4 J4 F4 => ?_)
      exact fk_some F4
    · skip
      refine fk_oc (fr_rfl _ _ _) (K_Sh_times ) (fun v5 I5 J5 F5 => ?_)
      exact fk_some F5
theorem K_Hall_isInCheck {w1 : Nat} {p2 : Int32} {I : MI} {J : MJ} (h_w1 : w1 < 4) : fk sC I J (f_Hall_isInCheck w1 p2 I J) := by
  unfold f_Hall_isInCheck
  refine fk_ite (fun c1 => ?_) (fun c1 => ?_)
  · skip
    refine fk_ite (fun c2 => ?_) (fun c2 => ?_)
    · skip
      exact fk_some (fr_rfl _ _ _)
    · skip
      refine fk_ite (fun c3 => ?_) (fun c3 => ?_)
      · skip
        exact fk_some (fr_rfl _ _ _)
      · skip
        refine fk_ite (fun c4 => ?_) (fun c4 => ?_)
        · skip
          exact fk_some (fr_rfl _ _ _)
        · skip
          exact fk_some (fr_rfl _ _ _)
  · skip
    exact fk_some (fr_rfl _ _ _)
theorem K_Hall_sendShown {w2 : Nat} {I : MI} {J : MJ} (h_w2 : w2 < 4) : fk sC I J (f_Hall_sendShown w2 I J) := by
  unfold f_Hall_sendShown
  refine fk_oc (fr_rfl _ _ _) (K_Hall_sends h_w2) (fun v1 I1 J1 F1 => ?_)
  refine fk_ite (fun c2 => ?_) (fun c2 => ?_)
  · skip
    refine fk_pI F1 (sC_p (by decide) h_w2) (fun I3 F3 => ?_)
    refine fk_pI F3 (sC_p (by decide) h_w2) (fun I4 F4 => ?_)
    exact fk_some F4
  · skip
    exact fk_some F1
theorem K_Hall_receiveShown {w2 : Nat} {p3 : Int32} {I : MI} {J : MJ} (h_w2 : w2 < 4) : fk sC I J (f_Hall_receiveShown w2 p3 I J) := by
  unfold f_Hall_receiveShown
  refine fk_oc (fr_rfl _ _ _) (K_Hall_receives h_w2) (fun v1 I1 J1 F1 => ?_)
  refine fk_ite (fun c2 => ?_) (fun c2 => ?_)
  · skip
    refine fk_oc F1 (K_Hall_gatherErrors h_w2) (fun v3 I3 J3 F3 => ?_)
    refine fk_oc F3 (K_Sh_read (sC_p (by decide) h_w2)) (fun v4 I4 J4 F4 => ?_)
    refine fk_ite (fun c5 => ?_) (fun c5 => ?_)
    · skip
      exact fk_none
    · skip
      refine fk_oc F4 (K_Sh_plus ) (fun v6 I6 J6 F6 => ?_)
      refine fk_pJ F6 (sC_p (by decide) h_w2) (fun J7 F7 => ?_)
      refine fk_pI F7 (sC_p (by decide) h_w2) (fun I8 F8 => ?_)
      exact fk_some F8
  · skip
    exact fk_some F1
theorem K_Hall_noteBonds_2 {w2 : Nat} (h_w2 : w2 < 4) : ∀ (fu : Nat) {l2 : Int32} {I : MI} {J : MJ}, fk sC I J (f_Hall_noteBonds_2 w2 fu l2 I J) := by
  intro fu
  induction fu with
  | zero =>
    intros
    exact fk_none
  | succ fu ih =>
    intro l2 I J 
    unfold f_Hall_noteBonds_2
    refine fk_ite (fun c1 => ?_) (fun c1 => ?_)
    · skip
      exact fk_some (fr_rfl _ _ _)
    · skip
      refine fk_ite (fun c2 => ?_) (fun c2 => ?_)
      · skip
        exact fk_none
      · skip
        refine fk_ite (fun c3 => ?_) (fun c3 => ?_)
        · skip
          exact fk_none
        · skip
          refine fk_pI (fr_rfl _ _ _) (sC_p (by decide) h_w2) (fun I4 F4 => ?_)
          exact fk_tail F4 (ih )
theorem K_Hall_noteBonds {w2 : Nat} {I : MI} {J : MJ} (h_w2 : w2 < 4) : fk sC I J (f_Hall_noteBonds w2 I J) := by
  unfold f_Hall_noteBonds
  refine fk_oc (fr_rfl _ _ _) (K_Hall_noteBonds_2 h_w2 gF ) (fun u5 I5 J5 F1 => ?_)
  refine fk_pI F1 (sC_p (by decide) h_w2) (fun I6 F2 => ?_)
  exact fk_some F2
theorem K_Hall_ownSeed {p2 : Int32} {I : MI} {J : MJ} : fk sC I J (f_Hall_ownSeed p2 I J) := by
  unfold f_Hall_ownSeed
  exact fk_some (fr_rfl _ _ _)
theorem K_Hall_bring {p2 : Int32} {p3 : Int32} {I : MI} {J : MJ} : fk sC I J (f_Hall_bring p2 p3 I J) := by
  unfold f_Hall_bring
  refine fk_oc (fr_rfl _ _ _) (K_Hall_has ) (fun v1 I1 J1 F1 => ?_)
  refine fk_ite (fun c2 => ?_) (fun c2 => ?_)
  · skip
    exact fk_some F1
  · skip
    refine fk_oc F1 (K_Hall_has ) (fun v3 I3 J3 F3 => ?_)
    refine fk_ite (fun c4 => ?_) (fun c4 => ?_)
    · skip
      refine fk_ite (fun c5 => ?_) (fun c5 => ?_)
      · skip
        exact fk_none
      · skip
        refine fk_ite (fun c6 => ?_) (fun c6 => ?_)
        · skip
          exact fk_none
        · skip
          refine fk_ite (fun c7 => ?_) (fun c7 => ?_)
          · skip
            exact fk_none
          · skip
            refine fk_ite (fun c8 => ?_) (fun c8 => ?_)
            · skip
              refine fk_ite (fun c9 => ?_) (fun c9 => ?_)
              · skip
                exact fk_none
              · skip
                refine fk_ite (fun c10 => ?_) (fun c10 => ?_)
                · skip
                  exact fk_some F3
                · skip
                  refine fk_ite (fun c11 => ?_) (fun c11 => ?_)
                  · skip
                    exact fk_none
                  · skip
                    refine fk_pI F3 (sC_p (by decide) (vp_lt c5)) (fun I12 F12 => ?_)
                    refine fk_pI F12 (sC_p (by decide) (vp_lt c11)) (fun I13 F13 => ?_)
                    exact fk_some F13
            · skip
              refine fk_ite (fun c14 => ?_) (fun c14 => ?_)
              · skip
                exact fk_none
              · skip
                refine fk_ite (fun c15 => ?_) (fun c15 => ?_)
                · skip
                  exact fk_none
                · skip
                  refine fk_pI F3 (sC_p (by decide) (vp_lt c5)) (fun I16 F16 => ?_)
                  refine fk_ite (fun c17 => ?_) (fun c17 => ?_)
                  · skip
                    exact fk_none
                  · skip
                    refine fk_ite (fun c18 => ?_) (fun c18 => ?_)
                    · skip
                      exact fk_none
                    · skip
                      refine fk_pI F16 (sC_p (by decide) (vp_lt c15)) (fun I19 F19 => ?_)
                      exact fk_some F19
    · skip
      exact fk_some F3
theorem K_Hall_bringAll_25 : ∀ (fu : Nat) {l1 : Int32} {l2 : Int32} {l3 : Int32} {l4 : Int32} {I : MI} {J : MJ}, fk sC I J (f_Hall_bringAll_25  fu l1 l2 l3 l4 I J) := by
  intro fu
  induction fu with
  | zero =>
    intros
    exact fk_none
  | succ fu ih =>
    intro l1 l2 l3 l4 I J 
    unfold f_Hall_bringAll_25
    refine fk_ite (fun c1 => ?_) (fun c1 => ?_)
    · skip
      exact fk_some (fr_rfl _ _ _)
    · skip
      refine fk_oc (fr_rfl _ _ _) (K_Hall_bring ) (fun v4 I4 J4 F2 => ?_)
      refine fk_ite (fun c3 => ?_) (fun c3 => ?_)
      · skip
        exact fk_some F2
      · skip
        exact fk_tail F2 (ih )
theorem K_Hall_bringAll_14 : ∀ (fu : Nat) {l1 : Int32} {l2 : Int32} {l3 : Int32} {I : MI} {J : MJ}, fk sC I J (f_Hall_bringAll_14  fu l1 l2 l3 I J) := by
  intro fu
  induction fu with
  | zero =>
    intros
    exact fk_none
  | succ fu ih =>
    intro l1 l2 l3 I J 
    unfold f_Hall_bringAll_14
    refine fk_ite (fun c1 => ?_) (fun c1 => ?_)
    · skip
      exact fk_some (fr_rfl _ _ _)
    · skip
      refine fk_oc (fr_rfl _ _ _) (K_Hall_bringAll_25  gF ) (fun u6 I6 J6 F2 => ?_)
      exact fk_tail F2 (ih )
theorem K_Hall_bringAll_4 : ∀ (fu : Nat) {l1 : Int32} {l2 : Int32} {I : MI} {J : MJ}, fk sC I J (f_Hall_bringAll_4  fu l1 l2 I J) := by
  intro fu
  induction fu with
  | zero =>
    intros
    exact fk_none
  | succ fu ih =>
    intro l1 l2 I J 
    unfold f_Hall_bringAll_4
    refine fk_ite (fun c1 => ?_) (fun c1 => ?_)
    · skip
      exact fk_some (fr_rfl _ _ _)
    · skip
      refine fk_oc (fr_rfl _ _ _) (K_Hall_bringAll_14  gF ) (fun u7 I7 J7 F2 => ?_)
      exact fk_tail F2 (ih )
theorem K_Hall_bringAll {I : MI} {J : MJ} : fk sC I J (f_Hall_bringAll  I J) := by
  unfold f_Hall_bringAll
  refine fk_oc (fr_rfl _ _ _) (K_Hall_bringAll_4  gF ) (fun u8 I8 J8 F1 => ?_)
  refine fk_ite (fun c2 => ?_) (fun c2 => ?_)
  · skip
    exact fk_some F1
  · skip
    exact fk_none
theorem K_Hall_onWire {p2 : Int32} {p3 : Int32} {I : MI} {J : MJ} : fk sC I J (f_Hall_onWire p2 p3 I J) := by
  unfold f_Hall_onWire
  refine fk_oc (fr_rfl _ _ _) (K_Hall_has ) (fun v1 I1 J1 F1 => ?_)
  refine fk_ite (fun c2 => ?_) (fun c2 => ?_)
  · skip
    exact fk_some F1
  · skip
    refine fk_oc F1 (K_Hall_has ) (fun v3 I3 J3 F3 => ?_)
    refine fk_ite (fun c4 => ?_) (fun c4 => ?_)
    · skip
      refine fk_ite (fun c5 => ?_) (fun c5 => ?_)
      · skip
        exact fk_none
      · skip
        refine fk_ite (fun c6 => ?_) (fun c6 => ?_)
        · skip
          exact fk_none
        · skip
          refine fk_ite (fun c7 => ?_) (fun c7 => ?_)
          · skip
            exact fk_none
          · skip
            refine fk_ite (fun c8 => ?_) (fun c8 => ?_)
            · skip
              exact fk_some F3
            · skip
              exact fk_some F3
    · skip
      exact fk_some F3
theorem K_Memory_wipe {w1 : Nat} {I : MI} {J : MJ} (h_w1 : w1 < 4) : fk sC I J (f_Memory_wipe w1 I J) := by
  unfold f_Memory_wipe
  refine fk_oc (fr_rfl _ _ _) (K_Sh_zeroLongs (sC_p (by decide) h_w1)) (fun v1 I1 J1 F1 => ?_)
  refine fk_oc F1 (K_Sh_zeroLongs (sC_p (by decide) h_w1)) (fun v2 I2 J2 F2 => ?_)
  refine fk_oc F2 (K_Sh_zeroLongs (sC_p (by decide) h_w1)) (fun v3 I3 J3 F3 => ?_)
  refine fk_pI F3 (sC_p (by decide) h_w1) (fun I4 F4 => ?_)
  refine fk_pI F4 (sC_p (by decide) h_w1) (fun I5 F5 => ?_)
  exact fk_some F5
theorem K_Memory_push {w1 : Nat} {p2 : Int64} {I : MI} {J : MJ} (h_w1 : w1 < 4) : fk sC I J (f_Memory_push w1 p2 I J) := by
  unfold f_Memory_push
  refine fk_ite (fun c1 => ?_) (fun c1 => ?_)
  · skip
    exact fk_some (fr_rfl _ _ _)
  · skip
    refine fk_ite (fun c2 => ?_) (fun c2 => ?_)
    · skip
      exact fk_some (fr_rfl _ _ _)
    · skip
      refine fk_ite (fun c3 => ?_) (fun c3 => ?_)
      · skip
        exact fk_none
      · skip
        refine fk_pJ (fr_rfl _ _ _) (sC_p (by decide) h_w1) (fun J4 F4 => ?_)
        refine fk_pI F4 (sC_p (by decide) h_w1) (fun I5 F5 => ?_)
        exact fk_some F5
theorem K_Memory_pop {w1 : Nat} {I : MI} {J : MJ} (h_w1 : w1 < 4) : fk sC I J (f_Memory_pop w1 I J) := by
  unfold f_Memory_pop
  refine fk_ite (fun c1 => ?_) (fun c1 => ?_)
  · skip
    exact fk_some (fr_rfl _ _ _)
  · skip
    refine fk_ite (fun c2 => ?_) (fun c2 => ?_)
    · skip
      refine fk_pI (fr_rfl _ _ _) (sC_p (by decide) h_w1) (fun I3 F3 => ?_)
      refine fk_ite (fun c4 => ?_) (fun c4 => ?_)
      · skip
        exact fk_none
      · skip
        exact fk_some F3
    · skip
      exact fk_some (fr_rfl _ _ _)
theorem K_Memory_fromTop {w1 : Nat} {p2 : Int32} {I : MI} {J : MJ} (h_w1 : w1 < 4) : fk sC I J (f_Memory_fromTop w1 p2 I J) := by
  unfold f_Memory_fromTop
  refine fk_oc (fr_rfl _ _ _) (K_Sh_read (sC_p (by decide) h_w1)) (fun v1 I1 J1 F1 => ?_)
  exact fk_some F1
theorem K_Memory_cell {w1 : Nat} {p2 : Int32} {p3 : Int64} {I : MI} {J : MJ} (h_w1 : w1 < 4) : fk sC I J (f_Memory_cell w1 p2 p3 I J) := by
  unfold f_Memory_cell
  refine fk_ite (fun c1 => ?_) (fun c1 => ?_)
  · skip
    exact fk_some (fr_rfl _ _ _)
  · skip
    refine fk_ite (fun c2 => ?_) (fun c2 => ?_)
    · skip
      exact fk_some (fr_rfl _ _ _)
    · skip
      refine fk_oc (fr_rfl _ _ _) (K_Sh_read (sC_p (by decide) h_w1)) (fun v3 I3 J3 F3 => ?_)
      exact fk_some F3
theorem K_Memory_setCell {w1 : Nat} {p2 : Int32} {p3 : Int64} {p4 : Int64} {I : MI} {J : MJ} (h_w1 : w1 < 4) : fk sC I J (f_Memory_setCell w1 p2 p3 p4 I J) := by
  unfold f_Memory_setCell
  refine fk_ite (fun c1 => ?_) (fun c1 => ?_)
  · skip
    exact fk_some (fr_rfl _ _ _)
  · skip
    refine fk_ite (fun c2 => ?_) (fun c2 => ?_)
    · skip
      exact fk_some (fr_rfl _ _ _)
    · skip
      refine fk_oc (fr_rfl _ _ _) (K_Sh_write (sC_p (by decide) h_w1)) (fun v3 I3 J3 F3 => ?_)
      exact fk_some F3
theorem K_Memory_keep {w1 : Nat} {p2 : Int32} {I : MI} {J : MJ} (h_w1 : w1 < 4) : fk sC I J (f_Memory_keep w1 p2 I J) := by
  unfold f_Memory_keep
  refine fk_ite (fun c1 => ?_) (fun c1 => ?_)
  · skip
    exact fk_some (fr_rfl _ _ _)
  · skip
    refine fk_ite (fun c2 => ?_) (fun c2 => ?_)
    · skip
      exact fk_some (fr_rfl _ _ _)
    · skip
      refine fk_ite (fun c3 => ?_) (fun c3 => ?_)
      · skip
        exact fk_none
      · skip
        refine fk_pI (fr_rfl _ _ _) (sC_p (by decide) h_w1) (fun I4 F4 => ?_)
        refine fk_pI F4 (sC_p (by decide) h_w1) (fun I5 F5 => ?_)
        exact fk_some F5
theorem K_Memory_lastKept {w1 : Nat} {I : MI} {J : MJ} (h_w1 : w1 < 4) : fk sC I J (f_Memory_lastKept w1 I J) := by
  unfold f_Memory_lastKept
  refine fk_ite (fun c1 => ?_) (fun c1 => ?_)
  · skip
    exact fk_some (fr_rfl _ _ _)
  · skip
    refine fk_ite (fun c2 => ?_) (fun c2 => ?_)
    · skip
      refine fk_pI (fr_rfl _ _ _) (sC_p (by decide) h_w1) (fun I3 F3 => ?_)
      refine fk_ite (fun c4 => ?_) (fun c4 => ?_)
      · skip
        exact fk_none
      · skip
        exact fk_some F3
    · skip
      exact fk_some (fr_rfl _ _ _)
theorem K_Party_tell {w1 : Nat} {p2 : Int32} {I : MI} {J : MJ} (h_w1 : w1 < 4) : fk sC I J (f_Party_tell w1 p2 I J) := by
  unfold f_Party_tell
  refine fk_ite (fun c1 => ?_) (fun c1 => ?_)
  · skip
    exact fk_some (fr_rfl _ _ _)
  · skip
    refine fk_ite (fun c2 => ?_) (fun c2 => ?_)
    · skip
      exact fk_some (fr_rfl _ _ _)
    · skip
      refine fk_ite (fun c3 => ?_) (fun c3 => ?_)
      · skip
        exact fk_some (fr_rfl _ _ _)
      · skip
        refine fk_ite (fun c4 => ?_) (fun c4 => ?_)
        · skip
          exact fk_some (fr_rfl _ _ _)
        · skip
          refine fk_ite (fun c5 => ?_) (fun c5 => ?_)
          · skip
            exact fk_some (fr_rfl _ _ _)
          · skip
            refine fk_ite (fun c6 => ?_) (fun c6 => ?_)
            · skip
              exact fk_some (fr_rfl _ _ _)
            · skip
              refine fk_ite (fun c7 => ?_) (fun c7 => ?_)
              · skip
                exact fk_some (fr_rfl _ _ _)
              · skip
                refine fk_ite (fun c8 => ?_) (fun c8 => ?_)
                · skip
                  exact fk_some (fr_rfl _ _ _)
                · skip
                  exact fk_some (fr_rfl _ _ _)
theorem K_Post_wipe_23 {w1 : Nat} (h_w1 : w1 < 4) : ∀ (fu : Nat) {l1 : Int32} {I : MI} {J : MJ}, fk sC I J (f_Post_wipe_23 w1 fu l1 I J) := by
  intro fu
  induction fu with
  | zero =>
    intros
    exact fk_none
  | succ fu ih =>
    intro l1 I J 
    unfold f_Post_wipe_23
    refine fk_ite (fun c1 => ?_) (fun c1 => ?_)
    · skip
      exact fk_some (fr_rfl _ _ _)
    · skip
      refine fk_ite (fun c2 => ?_) (fun c2 => ?_)
      · skip
        exact fk_none
      · skip
        refine fk_pI (fr_rfl _ _ _) (sC_p (by decide) h_w1) (fun I6 F3 => ?_)
        exact fk_tail F3 (ih )
theorem K_Post_wipe {w1 : Nat} {I : MI} {J : MJ} (h_w1 : w1 < 4) : fk sC I J (f_Post_wipe w1 I J) := by
  unfold f_Post_wipe
  refine fk_oc (fr_rfl _ _ _) (K_Sh_zeroInts (sC_p (by decide) h_w1)) (fun v1 I1 J1 F1 => ?_)
  refine fk_oc F1 (K_Sh_zeroInts (sC_p (by decide) h_w1)) (fun v2 I2 J2 F2 => ?_)
  refine fk_oc F2 (K_Sh_zeroInts (sC_p (by decide) h_w1)) (fun v3 I3 J3 F3 => ?_)
  refine fk_oc F3 (K_Post_wipe_23 h_w1 gF ) (fun u7 I7 J7 F4 => ?_)
  refine fk_pI F4 (sC_p (by decide) h_w1) (fun I8 F5 => ?_)
  refine fk_pI F5 (sC_p (by decide) h_w1) (fun I9 F6 => ?_)
  refine fk_pI F6 (sC_p (by decide) h_w1) (fun I10 F7 => ?_)
  refine fk_pI F7 (sC_p (by decide) h_w1) (fun I11 F8 => ?_)
  exact fk_some F8
theorem K_Row_at {r1 : Nat} {b1 : Nat} {m1 : Nat} {p2 : Int32} {I : MI} {J : MJ} (h_r1 : ¬ sC r1) (h_b1 : ¬ sC b1) : fk sC I J (f_Row_at r1 b1 m1 p2 I J) := by
  unfold f_Row_at
  refine fk_ite (fun c1 => ?_) (fun c1 => ?_)
  · skip
    exact fk_some (fr_rfl _ _ _)
  · skip
    refine fk_ite (fun c2 => ?_) (fun c2 => ?_)
    · skip
      exact fk_some (fr_rfl _ _ _)
    · skip
      refine fk_ite (fun c3 => ?_) (fun c3 => ?_)
      · skip
        exact fk_some (fr_rfl _ _ _)
      · skip
        refine fk_ite (fun c4 => ?_) (fun c4 => ?_)
        · skip
          exact fk_none
        · skip
          exact fk_some (fr_rfl _ _ _)
theorem K_Row_add {r1 : Nat} {b1 : Nat} {m1 : Nat} {p2 : Int32} {I : MI} {J : MJ} (h_r1 : ¬ sC r1) (h_b1 : ¬ sC b1) : fk sC I J (f_Row_add r1 b1 m1 p2 I J) := by
  unfold f_Row_add
  refine fk_ite (fun c1 => ?_) (fun c1 => ?_)
  · skip
    exact fk_some (fr_rfl _ _ _)
  · skip
    refine fk_ite (fun c2 => ?_) (fun c2 => ?_)
    · skip
      exact fk_none
    · skip
      refine fk_pI (fr_rfl _ _ _) h_b1 (fun I3 F3 => ?_)
      refine fk_pI F3 h_r1 (fun I4 F4 => ?_)
      exact fk_some F4
theorem K_Row_change {r1 : Nat} {b1 : Nat} {m1 : Nat} {p2 : Int32} {p3 : Int32} {I : MI} {J : MJ} (h_r1 : ¬ sC r1) (h_b1 : ¬ sC b1) : fk sC I J (f_Row_change r1 b1 m1 p2 p3 I J) := by
  unfold f_Row_change
  refine fk_ite (fun c1 => ?_) (fun c1 => ?_)
  · skip
    exact fk_some (fr_rfl _ _ _)
  · skip
    refine fk_ite (fun c2 => ?_) (fun c2 => ?_)
    · skip
      exact fk_some (fr_rfl _ _ _)
    · skip
      refine fk_ite (fun c3 => ?_) (fun c3 => ?_)
      · skip
        exact fk_some (fr_rfl _ _ _)
      · skip
        refine fk_ite (fun c4 => ?_) (fun c4 => ?_)
        · skip
          exact fk_none
        · skip
          refine fk_pI (fr_rfl _ _ _) h_b1 (fun I5 F5 => ?_)
          exact fk_some F5
theorem K_Row_addWord_30 {r1 : Nat} {b1 : Nat} {m1 : Nat} {p2 : Int64} {p3 : Int32} {p4 : Int32} {p5 : Int32} (h_r1 : ¬ sC r1) (h_b1 : ¬ sC b1) : ∀ (fu : Nat) {l1 : Int64} {l3 : Int32} {l4 : Int32} {l5 : Int32} {l6 : Int32} {I : MI} {J : MJ}, fk sC I J (f_Row_addWord_30 r1 b1 m1 p2 p3 p4 p5 fu l1 l3 l4 l5 l6 I J) := by
  intro fu
  induction fu with
  | zero =>
    intros
    exact fk_none
  | succ fu ih =>
    intro l1 l3 l4 l5 l6 I J 
    unfold f_Row_addWord_30
    refine fk_ite (fun c1 => ?_) (fun c1 => ?_)
    · skip
      exact fk_some (fr_rfl _ _ _)
    · skip
      refine fk_pv (fun x5 => ?_)
      refine fk_ite (fun c2 => ?_) (fun c2 => ?_)
      · skip
        exact fk_some (fr_rfl _ _ _)
      · skip
        refine fk_ite (fun c3 => ?_) (fun c3 => ?_)
        · skip
          exact fk_tail (fr_rfl _ _ _) (ih )
        · skip
          exact fk_some (fr_rfl _ _ _)
theorem K_Row_addWord_77 {r1 : Nat} {b1 : Nat} {m1 : Nat} {p2 : Int64} {p3 : Int32} {p4 : Int32} {p5 : Int32} (h_r1 : ¬ sC r1) (h_b1 : ¬ sC b1) : ∀ (fu : Nat) {l1 : Int64} {l6 : Int32} {I : MI} {J : MJ}, fk sC I J (f_Row_addWord_77 r1 b1 m1 p2 p3 p4 p5 fu l1 l6 I J) := by
  intro fu
  induction fu with
  | zero =>
    intros
    exact fk_none
  | succ fu ih =>
    intro l1 l6 I J 
    unfold f_Row_addWord_77
    refine fk_ite (fun c1 => ?_) (fun c1 => ?_)
    · skip
      exact fk_some (fr_rfl _ _ _)
    · skip
      refine fk_oc (fr_rfl _ _ _) (K_Row_add h_r1 h_b1) (fun v11 I11 J11 F2 => ?_)
      exact fk_tail F2 (ih )
theorem K_Row_addWord {r1 : Nat} {b1 : Nat} {m1 : Nat} {p2 : Int64} {p3 : Int32} {p4 : Int32} {p5 : Int32} {I : MI} {J : MJ} (h_r1 : ¬ sC r1) (h_b1 : ¬ sC b1) : fk sC I J (f_Row_addWord r1 b1 m1 p2 p3 p4 p5 I J) := by
  unfold f_Row_addWord
  refine fk_ite (fun c1 => ?_) (fun c1 => ?_)
  · skip
    exact fk_some (fr_rfl _ _ _)
  · skip
    refine fk_ite (fun c2 => ?_) (fun c2 => ?_)
    · skip
      exact fk_some (fr_rfl _ _ _)
    · skip
      refine fk_ite (fun c3 => ?_) (fun c3 => ?_)
      · skip
        refine fk_oc (fr_rfl _ _ _) (K_Row_addWord_30 h_r1 h_b1 gF ) (fun q8 I8 J8 F4 => ?_)
        refine fk_oe (fun y8 => ?_) (fun u8 => ?_)
        · skip
          exact fk_some F4
        · skip
          refine fk_pv (fun x9 => ?_)
          refine fk_oc F4 (K_Row_addWord_77 h_r1 h_b1 gF ) (fun u12 I12 J12 F5 => ?_)
          exact fk_some F5
      · skip
        exact fk_some (fr_rfl _ _ _)
theorem K_Row_target {r1 : Nat} {b1 : Nat} {m1 : Nat} {p2 : Int32} {I : MI} {J : MJ} (h_r1 : ¬ sC r1) (h_b1 : ¬ sC b1) : fk sC I J (f_Row_target r1 b1 m1 p2 I J) := by
  unfold f_Row_target
  refine fk_oc (fr_rfl _ _ _) (K_Row_at h_r1 h_b1) (fun v1 I1 J1 F1 => ?_)
  refine fk_oc F1 (K_Row_at h_r1 h_b1) (fun v2 I2 J2 F2 => ?_)
  exact fk_some F2
theorem K_Row_aim {r1 : Nat} {b1 : Nat} {m1 : Nat} {p2 : Int32} {p3 : Int32} {I : MI} {J : MJ} (h_r1 : ¬ sC r1) (h_b1 : ¬ sC b1) : fk sC I J (f_Row_aim r1 b1 m1 p2 p3 I J) := by
  unfold f_Row_aim
  refine fk_oc (fr_rfl _ _ _) (K_Row_change h_r1 h_b1) (fun v1 I1 J1 F1 => ?_)
  refine fk_oc F1 (K_Row_change h_r1 h_b1) (fun v2 I2 J2 F2 => ?_)
  exact fk_some F2
theorem K_Row_longAt_5 {r1 : Nat} {b1 : Nat} {m1 : Nat} {p2 : Int32} (h_r1 : ¬ sC r1) (h_b1 : ¬ sC b1) : ∀ (fu : Nat) {l1 : Int32} {l2 : Int64} {l4 : Int32} {I : MI} {J : MJ}, fk sC I J (f_Row_longAt_5 r1 b1 m1 p2 fu l1 l2 l4 I J) := by
  intro fu
  induction fu with
  | zero =>
    intros
    exact fk_none
  | succ fu ih =>
    intro l1 l2 l4 I J 
    unfold f_Row_longAt_5
    refine fk_ite (fun c1 => ?_) (fun c1 => ?_)
    · skip
      exact fk_some (fr_rfl _ _ _)
    · skip
      refine fk_oc (fr_rfl _ _ _) (K_Row_at h_r1 h_b1) (fun v2 I2 J2 F2 => ?_)
      refine fk_pv (fun x3 => ?_)
      exact fk_tail F2 (ih )
theorem K_Row_longAt {r1 : Nat} {b1 : Nat} {m1 : Nat} {p2 : Int32} {I : MI} {J : MJ} (h_r1 : ¬ sC r1) (h_b1 : ¬ sC b1) : fk sC I J (f_Row_longAt r1 b1 m1 p2 I J) := by
  unfold f_Row_longAt
  refine fk_oc (fr_rfl _ _ _) (K_Row_longAt_5 h_r1 h_b1 gF ) (fun u4 I4 J4 F1 => ?_)
  exact fk_some F1
theorem K_Row_copy_7 {r1 : Nat} {b1 : Nat} {m1 : Nat} {r2 : Nat} {b2 : Nat} {m2 : Nat} (h_r1 : ¬ sC r1) (h_b1 : ¬ sC b1) (h_r2 : ¬ sC r2) (h_b2 : ¬ sC b2) : ∀ (fu : Nat) {l2 : Int32} {I : MI} {J : MJ}, fk sC I J (f_Row_copy_7 r1 b1 m1 r2 b2 m2 fu l2 I J) := by
  intro fu
  induction fu with
  | zero =>
    intros
    exact fk_none
  | succ fu ih =>
    intro l2 I J 
    unfold f_Row_copy_7
    refine fk_ite (fun c1 => ?_) (fun c1 => ?_)
    · skip
      exact fk_some (fr_rfl _ _ _)
    · skip
      refine fk_oc (fr_rfl _ _ _) (K_Row_at h_r2 h_b2) (fun v3 I3 J3 F2 => ?_)
      refine fk_oc F2 (K_Row_add h_r1 h_b1) (fun v4 I4 J4 F3 => ?_)
      exact fk_tail F3 (ih )
theorem K_Row_copy {r1 : Nat} {b1 : Nat} {m1 : Nat} {r2 : Nat} {b2 : Nat} {m2 : Nat} {I : MI} {J : MJ} (h_r1 : ¬ sC r1) (h_b1 : ¬ sC b1) (h_r2 : ¬ sC r2) (h_b2 : ¬ sC b2) : fk sC I J (f_Row_copy r1 b1 m1 r2 b2 m2 I J) := by
  unfold f_Row_copy
  refine fk_pI (fr_rfl _ _ _) h_r1 (fun I1 F1 => ?_)
  refine fk_oc F1 (K_Row_copy_7 h_r1 h_b1 h_r2 h_b2 gF ) (fun u5 I5 J5 F2 => ?_)
  exact fk_some F2
theorem K_Row_wipe {r1 : Nat} {b1 : Nat} {m1 : Nat} {I : MI} {J : MJ} (h_r1 : ¬ sC r1) (h_b1 : ¬ sC b1) : fk sC I J (f_Row_wipe r1 b1 m1 I J) := by
  unfold f_Row_wipe
  refine fk_pI (fr_rfl _ _ _) h_r1 (fun I1 F1 => ?_)
  exact fk_some F1
theorem K_Stock_wipe {w1 : Nat} {I : MI} {J : MJ} (h_w1 : w1 < 4) : fk sC I J (f_Stock_wipe w1 I J) := by
  unfold f_Stock_wipe
  refine fk_oc (fr_rfl _ _ _) (K_Sh_zeroInts (sC_p (by decide) h_w1)) (fun v1 I1 J1 F1 => ?_)
  refine fk_pI F1 (sC_p (by decide) h_w1) (fun I2 F2 => ?_)
  refine fk_pI F2 (sC_p (by decide) h_w1) (fun I3 F3 => ?_)
  refine fk_pI F3 (sC_p (by decide) h_w1) (fun I4 F4 => ?_)
  refine fk_pI F4 (sC_p (by decide) h_w1) (fun I5 F5 => ?_)
  exact fk_some F5
theorem K_Stock_addInput {w1 : Nat} {p2 : Int64} {I : MI} {J : MJ} (h_w1 : w1 < 4) : fk sC I J (f_Stock_addInput w1 p2 I J) := by
  unfold f_Stock_addInput
  refine fk_ite (fun c1 => ?_) (fun c1 => ?_)
  · skip
    exact fk_some (fr_rfl _ _ _)
  · skip
    refine fk_ite (fun c2 => ?_) (fun c2 => ?_)
    · skip
      refine fk_ite (fun c3 => ?_) (fun c3 => ?_)
      · skip
        exact fk_none
      · skip
        refine fk_pJ (fr_rfl _ _ _) (sC_p (by decide) h_w1) (fun J4 F4 => ?_)
        refine fk_pI F4 (sC_p (by decide) h_w1) (fun I5 F5 => ?_)
        exact fk_some F5
    · skip
      exact fk_some (fr_rfl _ _ _)
theorem K_Stock_inputsLeft {w1 : Nat} {I : MI} {J : MJ} (h_w1 : w1 < 4) : fk sC I J (f_Stock_inputsLeft w1 I J) := by
  unfold f_Stock_inputsLeft
  exact fk_some (fr_rfl _ _ _)
theorem K_Stock_masksLeft {w1 : Nat} {I : MI} {J : MJ} (h_w1 : w1 < 4) : fk sC I J (f_Stock_masksLeft w1 I J) := by
  unfold f_Stock_masksLeft
  exact fk_some (fr_rfl _ _ _)
theorem K_Translator_startAnew_44 {p2 : Int32} : ∀ (fu : Nat) {l2 : Int32} {I : MI} {J : MJ}, fk sC I J (f_Translator_startAnew_44 p2 fu l2 I J) := by
  intro fu
  induction fu with
  | zero =>
    intros
    exact fk_none
  | succ fu ih =>
    intro l2 I J 
    unfold f_Translator_startAnew_44
    refine fk_ite (fun c1 => ?_) (fun c1 => ?_)
    · skip
      exact fk_some (fr_rfl _ _ _)
    · skip
      refine fk_ite (fun c2 => ?_) (fun c2 => ?_)
      · skip
        exact fk_some (fr_rfl _ _ _)
      · skip
        refine fk_ite (fun c3 => ?_) (fun c3 => ?_)
        · skip
          exact fk_none
        · skip
          refine fk_pI (fr_rfl _ _ _) (by decide) (fun I12 F4 => ?_)
          refine fk_ite (fun c5 => ?_) (fun c5 => ?_)
          · skip
            exact fk_none
          · skip
            refine fk_pI F4 (by decide) (fun I14 F6 => ?_)
            exact fk_tail F6 (ih )
theorem K_Translator_startAnew {p2 : Int32} {I : MI} {J : MJ} : fk sC I J (f_Translator_startAnew p2 I J) := by
  unfold f_Translator_startAnew
  refine fk_pI (fr_rfl _ _ _) (by decide) (fun I1 F1 => ?_)
  refine fk_pI F1 (by decide) (fun I2 F2 => ?_)
  refine fk_pI F2 (by decide) (fun I3 F3 => ?_)
  refine fk_pI F3 (by decide) (fun I4 F4 => ?_)
  refine fk_pI F4 (by decide) (fun I5 F5 => ?_)
  refine fk_pI F5 (by decide) (fun I6 F6 => ?_)
  refine fk_pI F6 (by decide) (fun I7 F7 => ?_)
  refine fk_oc F7 (K_Row_wipe (by decide) (by decide)) (fun v8 I8 J8 F8 => ?_)
  refine fk_oc F8 (K_Translator_startAnew_44  gF ) (fun u15 I15 J15 F9 => ?_)
  exact fk_some F9
theorem K_Translator_statements_2 {R : M3} (hR : ∀ k a b I J, fk sC I J (R k a b I J)) : ∀ (fu : Nat) {l1 : Int32} {I : MI} {J : MJ}, fk sC I J (f_Translator_statements_2 R  fu l1 I J) := by
  intro fu
  induction fu with
  | zero =>
    intros
    exact fk_none
  | succ fu ih =>
    intro l1 I J 
    unfold f_Translator_statements_2
    refine fk_ite (fun c1 => ?_) (fun c1 => ?_)
    · skip
      exact fk_some (fr_rfl _ _ _)
    · skip
      refine fk_oc (fr_rfl _ _ _) (hR 1 0 0 I J) (fun v2 I2 J2 F2 => ?_)
      refine fk_ite (fun c3 => ?_) (fun c3 => ?_)
      · skip
        exact fk_tail F2 (ih )
      · skip
        exact fk_some F2
theorem K_Translator_statements {R : M3} {I : MI} {J : MJ} (hR : ∀ k a b I J, fk sC I J (R k a b I J)) : fk sC I J (f_Translator_statements R  I J) := by
  unfold f_Translator_statements
  refine fk_oc (fr_rfl _ _ _) (K_Translator_statements_2 hR  gF ) (fun q4 I4 J4 F1 => ?_)
  refine fk_oe (fun y4 => ?_) (fun u4 => ?_)
  · skip
    exact fk_some F1
  · skip
    exact fk_some F1
theorem K_Translator_leave {I : MI} {J : MJ} : fk sC I J (f_Translator_leave  I J) := by
  unfold f_Translator_leave
  refine fk_pI (fr_rfl _ _ _) (by decide) (fun I1 F1 => ?_)
  exact fk_some F1
theorem K_Translator_look_2 : ∀ (fu : Nat) {l1 : Int32} {I : MI} {J : MJ}, fk sC I J (f_Translator_look_2  fu l1 I J) := by
  intro fu
  induction fu with
  | zero =>
    intros
    exact fk_none
  | succ fu ih =>
    intro l1 I J 
    unfold f_Translator_look_2
    refine fk_ite (fun c1 => ?_) (fun c1 => ?_)
    · skip
      exact fk_some (fr_rfl _ _ _)
    · skip
      refine fk_oc (fr_rfl _ _ _) (K_Row_at (by decide) (by decide)) (fun v2 I2 J2 F2 => ?_)
      refine fk_ite (fun c3 => ?_) (fun c3 => ?_)
      · skip
        exact fk_some F2
      · skip
        refine fk_pI F2 (by decide) (fun I4 F4 => ?_)
        exact fk_tail F4 (ih )
theorem K_Translator_look {I : MI} {J : MJ} : fk sC I J (f_Translator_look  I J) := by
  unfold f_Translator_look
  refine fk_oc (fr_rfl _ _ _) (K_Translator_look_2  gF ) (fun u5 I5 J5 F1 => ?_)
  refine fk_ite (fun c2 => ?_) (fun c2 => ?_)
  · skip
    refine fk_oc F1 (K_Row_at (by decide) (by decide)) (fun v7 I7 J7 F3 => ?_)
    exact fk_some F3
  · skip
    exact fk_some F1
theorem K_Translator_behindNext_9 : ∀ (fu : Nat) {l1 : Int32} {l2 : Int32} {I : MI} {J : MJ}, fk sC I J (f_Translator_behindNext_9  fu l1 l2 I J) := by
  intro fu
  induction fu with
  | zero =>
    intros
    exact fk_none
  | succ fu ih =>
    intro l1 l2 I J 
    unfold f_Translator_behindNext_9
    refine fk_ite (fun c1 => ?_) (fun c1 => ?_)
    · skip
      exact fk_some (fr_rfl _ _ _)
    · skip
      refine fk_oc (fr_rfl _ _ _) (K_Row_at (by decide) (by decide)) (fun v3 I3 J3 F2 => ?_)
      refine fk_ite (fun c3 => ?_) (fun c3 => ?_)
      · skip
        exact fk_some F2
      · skip
        exact fk_tail F2 (ih )
theorem K_Translator_behindNext {I : MI} {J : MJ} : fk sC I J (f_Translator_behindNext  I J) := by
  unfold f_Translator_behindNext
  refine fk_pv (fun x1 => ?_)
  refine fk_oc (fr_rfl _ _ _) (K_Translator_behindNext_9  gF ) (fun u5 I5 J5 F1 => ?_)
  refine fk_oc F1 (K_Row_at (by decide) (by decide)) (fun v6 I6 J6 F2 => ?_)
  exact fk_some F2
theorem K_Translator_pass {I : MI} {J : MJ} : fk sC I J (f_Translator_pass  I J) := by
  unfold f_Translator_pass
  refine fk_ite (fun c1 => ?_) (fun c1 => ?_)
  · skip
    exact fk_some (fr_rfl _ _ _)
  · skip
    refine fk_pI (fr_rfl _ _ _) (by decide) (fun I2 F2 => ?_)
    exact fk_some F2
theorem K_Translator_refuse {I : MI} {J : MJ} : fk sC I J (f_Translator_refuse  I J) := by
  unfold f_Translator_refuse
  refine fk_ite (fun c1 => ?_) (fun c1 => ?_)
  · skip
    exact fk_some (fr_rfl _ _ _)
  · skip
    refine fk_pI (fr_rfl _ _ _) (by decide) (fun I2 F2 => ?_)
    refine fk_pI F2 (by decide) (fun I3 F3 => ?_)
    refine fk_pI F3 (by decide) (fun I4 F4 => ?_)
    exact fk_some F4
theorem K_Translator_blame {p2 : Int32} {p3 : Int32} {I : MI} {J : MJ} : fk sC I J (f_Translator_blame p2 p3 I J) := by
  unfold f_Translator_blame
  refine fk_ite (fun c1 => ?_) (fun c1 => ?_)
  · skip
    refine fk_ite (fun c2 => ?_) (fun c2 => ?_)
    · skip
      refine fk_pI (fr_rfl _ _ _) (by decide) (fun I3 F3 => ?_)
      refine fk_pI F3 (by decide) (fun I4 F4 => ?_)
      exact fk_some F4
    · skip
      refine fk_ite (fun c5 => ?_) (fun c5 => ?_)
      · skip
        refine fk_pI (fr_rfl _ _ _) (by decide) (fun I6 F6 => ?_)
        refine fk_pI F6 (by decide) (fun I7 F7 => ?_)
        exact fk_some F7
      · skip
        refine fk_ite (fun c8 => ?_) (fun c8 => ?_)
        · skip
          exact fk_some (fr_rfl _ _ _)
        · skip
          refine fk_ite (fun c9 => ?_) (fun c9 => ?_)
          · skip
            exact fk_some (fr_rfl _ _ _)
          · skip
            refine fk_pI (fr_rfl _ _ _) (by decide) (fun I10 F10 => ?_)
            refine fk_pI F10 (by decide) (fun I11 F11 => ?_)
            exact fk_some F11
  · skip
    exact fk_some (fr_rfl _ _ _)
theorem K_Translator_emit {p2 : Int32} {p3 : Int32} {p4 : Int32} {p5 : Int32} {I : MI} {J : MJ} : fk sC I J (f_Translator_emit p2 p3 p4 p5 I J) := by
  unfold f_Translator_emit
  refine fk_oc (fr_rfl _ _ _) (K_Sh_lengthOf ) (fun v1 I1 J1 F1 => ?_)
  refine fk_oc F1 (K_Row_add (by decide) (by decide)) (fun v2 I2 J2 F2 => ?_)
  refine fk_oc F2 ?_ (fun v4 I4 J4 F3 => ?_)
  · skip
    refine fk_ite (fun c4 => ?_) (fun c4 => ?_)
    · skip
      exact fk_some (fr_rfl _ _ _)
    · skip
      refine fk_oc (fr_rfl _ _ _) (K_Row_add (by decide) (by decide)) (fun v6 I6 J6 F5 => ?_)
      exact fk_some F5
  · skip
    refine fk_oc F3 ?_ (fun v8 I8 J8 F6 => ?_)
    · skip
      refine fk_ite (fun c7 => ?_) (fun c7 => ?_)
      · skip
        exact fk_some (fr_rfl _ _ _)
      · skip
        refine fk_oc (fr_rfl _ _ _) (K_Row_add (by decide) (by decide)) (fun v10 I10 J10 F8 => ?_)
        exact fk_some F8
    · skip
      refine fk_ite (fun c9 => ?_) (fun c9 => ?_)
      · skip
        exact fk_some F6
      · skip
        refine fk_oc F6 (K_Row_add (by decide) (by decide)) (fun v12 I12 J12 F10 => ?_)
        exact fk_some F10
theorem K_Translator_emitPlace {p2 : Int32} {p3 : Int32} {p4 : Int32} {I : MI} {J : MJ} : fk sC I J (f_Translator_emitPlace p2 p3 p4 I J) := by
  unfold f_Translator_emitPlace
  refine fk_ite (fun c1 => ?_) (fun c1 => ?_)
  · skip
    refine fk_oc (fr_rfl _ _ _) (K_Translator_emit ) (fun v2 I2 J2 F2 => ?_)
    exact fk_some F2
  · skip
    refine fk_oc (fr_rfl _ _ _) (K_Translator_emit ) (fun v3 I3 J3 F3 => ?_)
    exact fk_some F3
theorem K_Translator_isVariable {p1 : Int32} {I : MI} {J : MJ} : fk sC I J (f_Translator_isVariable p1 I J) := by
  unfold f_Translator_isVariable
  refine fk_ite (fun c1 => ?_) (fun c1 => ?_)
  · skip
    exact fk_some (fr_rfl _ _ _)
  · skip
    refine fk_ite (fun c2 => ?_) (fun c2 => ?_)
    · skip
      exact fk_some (fr_rfl _ _ _)
    · skip
      exact fk_some (fr_rfl _ _ _)
theorem K_Translator_isArray {p1 : Int32} {I : MI} {J : MJ} : fk sC I J (f_Translator_isArray p1 I J) := by
  unfold f_Translator_isArray
  refine fk_ite (fun c1 => ?_) (fun c1 => ?_)
  · skip
    exact fk_some (fr_rfl _ _ _)
  · skip
    refine fk_ite (fun c2 => ?_) (fun c2 => ?_)
    · skip
      exact fk_some (fr_rfl _ _ _)
    · skip
      exact fk_some (fr_rfl _ _ _)
theorem K_Translator_isDigit {p1 : Int32} {I : MI} {J : MJ} : fk sC I J (f_Translator_isDigit p1 I J) := by
  unfold f_Translator_isDigit
  refine fk_ite (fun c1 => ?_) (fun c1 => ?_)
  · skip
    exact fk_some (fr_rfl _ _ _)
  · skip
    refine fk_ite (fun c2 => ?_) (fun c2 => ?_)
    · skip
      exact fk_some (fr_rfl _ _ _)
    · skip
      exact fk_some (fr_rfl _ _ _)
theorem K_Verifier_refuse {p2 : Int32} {p3 : Int32} {I : MI} {J : MJ} : fk sC I J (f_Verifier_refuse p2 p3 I J) := by
  unfold f_Verifier_refuse
  refine fk_pI (fr_rfl _ _ _) (by decide) (fun I1 F1 => ?_)
  refine fk_pI F1 (by decide) (fun I2 F2 => ?_)
  exact fk_some F2
theorem K_Verifier_namesWhatIs {r1 : Nat} {b1 : Nat} {m1 : Nat} {p2 : Int32} {p3 : Int32} {I : MI} {J : MJ} (h_r1 : ¬ sC r1) (h_b1 : ¬ sC b1) : fk sC I J (f_Verifier_namesWhatIs r1 b1 m1 p2 p3 I J) := by
  unfold f_Verifier_namesWhatIs
  refine fk_oc (fr_rfl _ _ _) (K_Row_at h_r1 h_b1) (fun v1 I1 J1 F1 => ?_)
  refine fk_oc F1 (K_Row_at h_r1 h_b1) (fun v2 I2 J2 F2 => ?_)
  refine fk_oc F2 (K_Row_at h_r1 h_b1) (fun v3 I3 J3 F3 => ?_)
  refine fk_ite (fun c4 => ?_) (fun c4 => ?_)
  · skip
    refine fk_oc F3 (K_Row_longAt h_r1 h_b1) (fun v5 I5 J5 F5 => ?_)
    refine fk_ite (fun c6 => ?_) (fun c6 => ?_)
    · skip
      exact fk_some F5
    · skip
      refine fk_ite (fun c7 => ?_) (fun c7 => ?_)
      · skip
        exact fk_some F5
      · skip
        exact fk_some F5
  · skip
    refine fk_ite (fun c8 => ?_) (fun c8 => ?_)
    · skip
      refine fk_ite (fun c9 => ?_) (fun c9 => ?_)
      · skip
        exact fk_some F3
      · skip
        exact fk_some F3
    · skip
      refine fk_ite (fun c10 => ?_) (fun c10 => ?_)
      · skip
        refine fk_ite (fun c11 => ?_) (fun c11 => ?_)
        · skip
          exact fk_some F3
        · skip
          refine fk_ite (fun c12 => ?_) (fun c12 => ?_)
          · skip
            exact fk_some F3
          · skip
            exact fk_some F3
      · skip
        refine fk_ite (fun c13 => ?_) (fun c13 => ?_)
        · skip
          refine fk_ite (fun c14 => ?_) (fun c14 => ?_)
          · skip
            exact fk_some F3
          · skip
            refine fk_ite (fun c15 => ?_) (fun c15 => ?_)
            · skip
              exact fk_some F3
            · skip
              exact fk_some F3
        · skip
          refine fk_ite (fun c16 => ?_) (fun c16 => ?_)
          · skip
            refine fk_ite (fun c17 => ?_) (fun c17 => ?_)
            · skip
              exact fk_some F3
            · skip
              exact fk_some F3
          · skip
            refine fk_ite (fun c18 => ?_) (fun c18 => ?_)
            · skip
              refine fk_ite (fun c19 => ?_) (fun c19 => ?_)
              · skip
                exact fk_some F3
              · skip
                refine fk_ite (fun c20 => ?_) (fun c20 => ?_)
                · skip
                  exact fk_some F3
                · skip
                  refine fk_oc F3 (K_Row_at h_r1 h_b1) (fun v21 I21 J21 F21 => ?_)
                  refine fk_ite (fun c22 => ?_) (fun c22 => ?_)
                  · skip
                    exact fk_some F21
                  · skip
                    exact fk_some F21
            · skip
              refine fk_ite (fun c23 => ?_) (fun c23 => ?_)
              · skip
                refine fk_ite (fun c24 => ?_) (fun c24 => ?_)
                · skip
                  exact fk_some F3
                · skip
                  refine fk_ite (fun c25 => ?_) (fun c25 => ?_)
                  · skip
                    exact fk_some F3
                  · skip
                    exact fk_some F3
              · skip
                exact fk_some F3
theorem K_Verifier_keepsSecret {r1 : Nat} {b1 : Nat} {m1 : Nat} {p2 : Int32} {I : MI} {J : MJ} (h_r1 : ¬ sC r1) (h_b1 : ¬ sC b1) : fk sC I J (f_Verifier_keepsSecret r1 b1 m1 p2 I J) := by
  unfold f_Verifier_keepsSecret
  refine fk_oc (fr_rfl _ _ _) (K_Row_at h_r1 h_b1) (fun v1 I1 J1 F1 => ?_)
  refine fk_oc F1 ?_ (fun v3 I3 J3 F2 => ?_)
  · skip
    refine fk_ite (fun c3 => ?_) (fun c3 => ?_)
    · skip
      exact fk_some (fr_rfl _ _ _)
    · skip
      refine fk_oc (fr_rfl _ _ _) (K_Row_at h_r1 h_b1) (fun v5 I5 J5 F4 => ?_)
      refine fk_ite (fun c5 => ?_) (fun c5 => ?_)
      · skip
        exact fk_some F4
      · skip
        exact fk_some F4
  · skip
    refine fk_oc F2 (K_Row_at h_r1 h_b1) (fun v7 I7 J7 F6 => ?_)
    refine fk_ite (fun c7 => ?_) (fun c7 => ?_)
    · skip
      exact fk_some F6
    · skip
      refine fk_ite (fun c8 => ?_) (fun c8 => ?_)
      · skip
        exact fk_some F6
      · skip
        exact fk_some F6
theorem K_Verifier_pushes {p2 : Int32} {I : MI} {J : MJ} : fk sC I J (f_Verifier_pushes p2 I J) := by
  unfold f_Verifier_pushes
  refine fk_ite (fun c1 => ?_) (fun c1 => ?_)
  · skip
    exact fk_some (fr_rfl _ _ _)
  · skip
    refine fk_ite (fun c2 => ?_) (fun c2 => ?_)
    · skip
      refine fk_ite (fun c3 => ?_) (fun c3 => ?_)
      · skip
        exact fk_none
      · skip
        refine fk_pI (fr_rfl _ _ _) (by decide) (fun I4 F4 => ?_)
        refine fk_pI F4 (by decide) (fun I5 F5 => ?_)
        exact fk_some F5
    · skip
      exact fk_some (fr_rfl _ _ _)
theorem K_Verifier_drops {p2 : Int32} {I : MI} {J : MJ} : fk sC I J (f_Verifier_drops p2 I J) := by
  unfold f_Verifier_drops
  refine fk_pI (fr_rfl _ _ _) (by decide) (fun I1 F1 => ?_)
  exact fk_some F1
theorem K_Verifier_mark {a1 : Nat} {m1 : Nat} {p2 : Int32} {I : MI} {J : MJ} (h_a1 : ¬ sC a1) : fk sC I J (f_Verifier_mark a1 m1 p2 I J) := by
  unfold f_Verifier_mark
  refine fk_ite (fun c1 => ?_) (fun c1 => ?_)
  · skip
    exact fk_some (fr_rfl _ _ _)
  · skip
    refine fk_ite (fun c2 => ?_) (fun c2 => ?_)
    · skip
      exact fk_some (fr_rfl _ _ _)
    · skip
      refine fk_ite (fun c3 => ?_) (fun c3 => ?_)
      · skip
        exact fk_none
      · skip
        refine fk_pI (fr_rfl _ _ _) h_a1 (fun I4 F4 => ?_)
        exact fk_some F4
theorem K_Verifier_isMarked {a1 : Nat} {m1 : Nat} {p2 : Int32} {I : MI} {J : MJ} (h_a1 : ¬ sC a1) : fk sC I J (f_Verifier_isMarked a1 m1 p2 I J) := by
  unfold f_Verifier_isMarked
  refine fk_ite (fun c1 => ?_) (fun c1 => ?_)
  · skip
    exact fk_some (fr_rfl _ _ _)
  · skip
    refine fk_ite (fun c2 => ?_) (fun c2 => ?_)
    · skip
      exact fk_some (fr_rfl _ _ _)
    · skip
      refine fk_ite (fun c3 => ?_) (fun c3 => ?_)
      · skip
        exact fk_none
      · skip
        refine fk_ite (fun c4 => ?_) (fun c4 => ?_)
        · skip
          exact fk_some (fr_rfl _ _ _)
        · skip
          exact fk_some (fr_rfl _ _ _)
theorem K_Math_floorMod {p1 : Int64} {p2 : Int64} {I : MI} {J : MJ} : fk sC I J (f_Math_floorMod p1 p2 I J) := by
  unfold f_Math_floorMod
  refine fk_ite (fun c1 => ?_) (fun c1 => ?_)
  · skip
    exact fk_none
  · skip
    refine fk_pv (fun x1 => ?_)
    refine fk_ite (fun c2 => ?_) (fun c2 => ?_)
    · skip
      exact fk_some (fr_rfl _ _ _)
    · skip
      refine fk_ite (fun c3 => ?_) (fun c3 => ?_)
      · skip
        exact fk_some (fr_rfl _ _ _)
      · skip
        exact fk_some (fr_rfl _ _ _)
theorem K_Sh_type {p2 : Int64} {p3 : Int32} {I : MI} {J : MJ} : fk sC I J (f_Sh_type p2 p3 I J) := by
  unfold f_Sh_type
  refine fk_oc (fr_rfl _ _ _) (K_Row_addWord (by decide) (by decide)) (fun v1 I1 J1 F1 => ?_)
  refine fk_ite (fun c2 => ?_) (fun c2 => ?_)
  · skip
    exact fk_some F1
  · skip
    exact fk_none
theorem K_Sh_put {p2 : Int64} {p3 : Int32} {I : MI} {J : MJ} : fk sC I J (f_Sh_put p2 p3 I J) := by
  unfold f_Sh_put
  refine fk_oc (fr_rfl _ _ _) (K_Row_addWord (by decide) (by decide)) (fun v1 I1 J1 F1 => ?_)
  refine fk_ite (fun c2 => ?_) (fun c2 => ?_)
  · skip
    exact fk_some F1
  · skip
    exact fk_none
theorem K_Sh_code {p2 : Int32} {I : MI} {J : MJ} : fk sC I J (f_Sh_code p2 I J) := by
  unfold f_Sh_code
  refine fk_oc (fr_rfl _ _ _) (K_Row_at (by decide) (by decide)) (fun v1 I1 J1 F1 => ?_)
  exact fk_some F1
theorem K_Sh_deliver {p2 : Int32} {p3 : Int32} {I : MI} {J : MJ} : fk sC I J (f_Sh_deliver p2 p3 I J) := by
  unfold f_Sh_deliver
  refine fk_ite (fun c1 => ?_) (fun c1 => ?_)
  · skip
    exact fk_some (fr_rfl _ _ _)
  · skip
    refine fk_oc (fr_rfl _ _ _) (K_Hall_bring ) (fun v2 I2 J2 F2 => ?_)
    refine fk_ite (fun c3 => ?_) (fun c3 => ?_)
    · skip
      exact fk_some F2
    · skip
      exact fk_some F2
theorem K_Sh_clear {p2 : Int32} {p3 : Int32} {I : MI} {J : MJ} : fk sC I J (f_Sh_clear p2 p3 I J) := by
  unfold f_Sh_clear
  refine fk_ite (fun c1 => ?_) (fun c1 => ?_)
  · skip
    exact fk_some (fr_rfl _ _ _)
  · skip
    refine fk_oc (fr_rfl _ _ _) (K_Hall_has ) (fun v2 I2 J2 F2 => ?_)
    refine fk_ite (fun c3 => ?_) (fun c3 => ?_)
    · skip
      refine fk_ite (fun c4 => ?_) (fun c4 => ?_)
      · skip
        exact fk_none
      · skip
        refine fk_ite (fun c5 => ?_) (fun c5 => ?_)
        · skip
          refine fk_ite (fun c6 => ?_) (fun c6 => ?_)
          · skip
            exact fk_some F2
          · skip
            refine fk_ite (fun c7 => ?_) (fun c7 => ?_)
            · skip
              refine fk_oc F2 (K_Sh_read (sC_p (by decide) (vp_lt c4))) (fun v8 I8 J8 F8 => ?_)
              exact fk_some F8
            · skip
              exact fk_some F2
        · skip
          refine fk_ite (fun c9 => ?_) (fun c9 => ?_)
          · skip
            refine fk_ite (fun c10 => ?_) (fun c10 => ?_)
            · skip
              exact fk_some F2
            · skip
              refine fk_ite (fun c11 => ?_) (fun c11 => ?_)
              · skip
                refine fk_oc F2 (K_Sh_read (sC_p (by decide) (vp_lt c4))) (fun v12 I12 J12 F12 => ?_)
                exact fk_some F12
              · skip
                exact fk_some F2
          · skip
            refine fk_oc F2 (K_Sh_read (sC_p (by decide) (vp_lt c4))) (fun v13 I13 J13 F13 => ?_)
            exact fk_some F13
    · skip
      exact fk_some F2
theorem K_Sh_countMails {w2 : Nat} {p3 : Int32} {p4 : Int32} {I : MI} {J : MJ} (h_w2 : w2 < 4) : fk sC I J (f_Sh_countMails w2 p3 p4 I J) := by
  unfold f_Sh_countMails
  refine fk_oc (fr_rfl _ _ _) (K_Hall_has ) (fun v1 I1 J1 F1 => ?_)
  refine fk_ite (fun c2 => ?_) (fun c2 => ?_)
  · skip
    refine fk_ite (fun c3 => ?_) (fun c3 => ?_)
    · skip
      exact fk_some F1
    · skip
      refine fk_ite (fun c4 => ?_) (fun c4 => ?_)
      · skip
        refine fk_ite (fun c5 => ?_) (fun c5 => ?_)
        · skip
          refine fk_ite (fun c6 => ?_) (fun c6 => ?_)
          · skip
            exact fk_none
          · skip
            exact fk_some F1
        · skip
          refine fk_oc F1 (K_Hall_onWire ) (fun v7 I7 J7 F7 => ?_)
          exact fk_some F7
      · skip
        exact fk_some F1
  · skip
    exact fk_some F1
theorem K_Sh_number {p1 : Int64} {I : MI} {J : MJ} : fk sC I J (f_Sh_number p1 I J) := by
  unfold f_Sh_number
  refine fk_oc (fr_rfl _ _ _) (K_Math_floorMod ) (fun v1 I1 J1 F1 => ?_)
  exact fk_some F1
theorem K_Model_readPart {R : M3} {I : MI} {J : MJ} (hR : ∀ k a b I J, fk sM I J (R k a b I J)) : fk sM I J (f_Model_readPart R  I J) := by
  unfold f_Model_readPart
  refine fk_oc (fr_rfl _ _ _) (K_Model_see ) (fun v1 I1 J1 F1 => ?_)
  refine fk_ite (fun c2 => ?_) (fun c2 => ?_)
  · skip
    refine fk_oc F1 (K_Model_isVariable ) (fun v3 I3 J3 F3 => ?_)
    refine fk_ite (fun c4 => ?_) (fun c4 => ?_)
    · skip
      refine fk_oc F3 (K_Model_isRow ) (fun v5 I5 J5 F5 => ?_)
      refine fk_ite (fun c6 => ?_) (fun c6 => ?_)
      · skip
        refine fk_pI F5 (by decide) (fun I7 F7 => ?_)
        refine fk_oc F7 (K_Model_isDigit ) (fun v8 I8 J8 F8 => ?_)
        refine fk_ite (fun c9 => ?_) (fun c9 => ?_)
        · skip
          refine fk_oc F8 (K_Model_refuse ) (fun v10 I10 J10 F10 => ?_)
          refine fk_ite (fun c11 => ?_) (fun c11 => ?_)
          · skip
            exact fk_some F10
          · skip
            exact fk_none
        · skip
          refine fk_oc F8 (K_Model_readNumber ) (fun v12 I12 J12 F12 => ?_)
          refine fk_ite (fun c13 => ?_) (fun c13 => ?_)
          · skip
            exact fk_some F12
          · skip
            exact fk_none
      · skip
        refine fk_pI F5 (by decide) (fun I14 F14 => ?_)
        refine fk_oc F14 (hR 4 0 0 I14 J5) (fun v15 I15 J15 F15 => ?_)
        refine fk_ite (fun c16 => ?_) (fun c16 => ?_)
        · skip
          refine fk_oc F15 (K_Model_isSecretRow ) (fun v17 I17 J17 F17 => ?_)
          refine fk_ite (fun c18 => ?_) (fun c18 => ?_)
          · skip
            refine fk_pI F17 (by decide) (fun I18 F19 => ?_)
            refine fk_pv (fun v21 => ?_)
            refine fk_pv (fun v24 => ?_)
            refine fk_oc F19 (K_Model_lay_IIV ) (fun v26 I26 J26 F20 => ?_)
            exact fk_some F20
          · skip
            exact fk_none
        · skip
          exact fk_some F15
    · skip
      refine fk_pI F3 (by decide) (fun I27 F21 => ?_)
      refine fk_oc F21 (K_Model_isClear ) (fun v28 I28 J28 F22 => ?_)
      refine fk_pv (fun v30 => ?_)
      refine fk_oc F22 (K_Model_numberOf ) (fun v32 I32 J32 F23 => ?_)
      refine fk_oc F23 (K_Model_lay_IIV ) (fun v33 I33 J33 F24 => ?_)
      refine fk_oc F24 (K_Model_isSecret ) (fun v34 I34 J34 F25 => ?_)
      refine fk_ite (fun c26 => ?_) (fun c26 => ?_)
      · skip
        refine fk_pI F25 (by decide) (fun I35 F27 => ?_)
        exact fk_some F27
      · skip
        exact fk_none
  · skip
    refine fk_ite (fun c28 => ?_) (fun c28 => ?_)
    · skip
      refine fk_pI F1 (by decide) (fun I38 F29 => ?_)
      refine fk_pI F29 (by decide) (fun I39 F30 => ?_)
      refine fk_oc F30 (hR 0 0 0 I39 J1) (fun v40 I40 J40 F31 => ?_)
      refine fk_oc F31 ?_ (fun v42 I42 J42 F32 => ?_)
      · skip
        refine fk_ite (fun c33 => ?_) (fun c33 => ?_)
        · skip
          exact fk_some (fr_rfl _ _ _)
        · skip
          refine fk_oc (fr_rfl _ _ _) (K_Model_want ) (fun v44 I44 J44 F34 => ?_)
          refine fk_ite (fun c35 => ?_) (fun c35 => ?_)
          · skip
            exact fk_some F34
          · skip
            exact fk_some F34
      · skip
        refine fk_pI F32 (by decide) (fun I46 F36 => ?_)
        refine fk_ite (fun c37 => ?_) (fun c37 => ?_)
        · skip
          exact fk_some F36
        · skip
          exact fk_none
    · skip
      refine fk_oc F1 (K_Model_refuse ) (fun v48 I48 J48 F38 => ?_)
      refine fk_ite (fun c39 => ?_) (fun c39 => ?_)
      · skip
        exact fk_some F38
      · skip
        exact fk_none
theorem K_Model_readStatement {R : M3} {I : MI} {J : MJ} (hR : ∀ k a b I J, fk sM I J (R k a b I J)) : fk sM I J (f_Model_readStatement R  I J) := by
  unfold f_Model_readStatement
  refine fk_oc (fr_rfl _ _ _) (K_Model_see ) (fun v1 I1 J1 F1 => ?_)
  refine fk_ite (fun c2 => ?_) (fun c2 => ?_)
  · skip
    refine fk_ite (fun c3 => ?_) (fun c3 => ?_)
    · skip
      refine fk_oc F1 (hR 10 v1 0 I1 J1) (fun v4 I4 J4 F4 => ?_)
      refine fk_ite (fun c5 => ?_) (fun c5 => ?_)
      · skip
        exact fk_some F4
      · skip
        exact fk_none
    · skip
      refine fk_ite (fun c6 => ?_) (fun c6 => ?_)
      · skip
        refine fk_ite (fun c7 => ?_) (fun c7 => ?_)
        · skip
          refine fk_oc F1 (K_Model_isRow ) (fun v8 I8 J8 F8 => ?_)
          refine fk_ite (fun c9 => ?_) (fun c9 => ?_)
          · skip
            refine fk_oc F8 (K_Model_isVariable ) (fun v10 I10 J10 F10 => ?_)
            refine fk_ite (fun c11 => ?_) (fun c11 => ?_)
            · skip
              refine fk_pv (fun x12 => ?_)
              refine fk_pI F10 (by decide) (fun I13 F12 => ?_)
              refine fk_oc F12 (K_Model_takes ) (fun v14 I14 J14 F13 => ?_)
              refine fk_ite (fun c14 => ?_) (fun c14 => ?_)
              · skip
                refine fk_oc F13 (K_Model_takes ) (fun v16 I16 J16 F15 => ?_)
                refine fk_ite (fun c16 => ?_) (fun c16 => ?_)
                · skip
                  refine fk_oc F15 (K_Model_takes ) (fun v18 I18 J18 F17 => ?_)
                  refine fk_ite (fun c18 => ?_) (fun c18 => ?_)
                  · skip
                    refine fk_oc F17 (K_Model_takes ) (fun v20 I20 J20 F19 => ?_)
                    refine fk_ite (fun c20 => ?_) (fun c20 => ?_)
                    · skip
                      refine fk_oc F19 (K_Model_isVariable ) (fun v22 I22 J22 F21 => ?_)
                      refine fk_ite (fun c22 => ?_) (fun c22 => ?_)
                      · skip
                        refine fk_oc F21 (K_Model_see ) (fun v24 I24 J24 F23 => ?_)
                        refine fk_oc F23 (K_Model_isSecret ) (fun v25 I25 J25 F24 => ?_)
                        refine fk_oc F24 ?_ (fun v27 I27 J27 F25 => ?_)
                        · skip
                          refine fk_ite (fun c26 => ?_) (fun c26 => ?_)
                          · skip
                            exact fk_some (fr_rfl _ _ _)
                          · skip
                            refine fk_oc (fr_rfl _ _ _) (K_Model_note ) (fun v29 I29 J29 F27 => ?_)
                            exact fk_some F27
                        · skip
                          refine fk_oc F25 (K_Model_isClear ) (fun v30 I30 J30 F28 => ?_)
                          refine fk_oc F28 ?_ (fun v32 I32 J32 F29 => ?_)
                          · skip
                            refine fk_ite (fun c30 => ?_) (fun c30 => ?_)
                            · skip
                              exact fk_some (fr_rfl _ _ _)
                            · skip
                              refine fk_oc (fr_rfl _ _ _) (K_Model_note ) (fun v34 I34 J34 F31 => ?_)
                              exact fk_some F31
                          · skip
                            refine fk_pI F29 (by decide) (fun I35 F32 => ?_)
                            refine fk_oc F32 (K_Model_numberOf ) (fun v36 I36 J36 F33 => ?_)
                            refine fk_oc F33 (K_Model_lay_IIV ) (fun v37 I37 J37 F34 => ?_)
                            refine fk_oc F34 (K_Model_numberOf ) (fun v38 I38 J38 F35 => ?_)
                            refine fk_oc F35 (K_Model_lay_IV ) (fun v39 I39 J39 F36 => ?_)
                            refine fk_oc F36 (K_Model_want ) (fun v40 I40 J40 F37 => ?_)
                            refine fk_ite (fun c38 => ?_) (fun c38 => ?_)
                            · skip
                              exact fk_some F37
                            · skip
                              exact fk_none
                      · skip
                        refine fk_oc F21 (K_Model_refuse ) (fun v42 I42 J42 F39 => ?_)
                        refine fk_ite (fun c40 => ?_) (fun c40 => ?_)
                        · skip
                          exact fk_some F39
                        · skip
                          exact fk_none
                    · skip
                      refine fk_oc F19 (K_Model_refuse ) (fun v44 I44 J44 F41 => ?_)
                      refine fk_ite (fun c42 => ?_) (fun c42 => ?_)
                      · skip
                        exact fk_some F41
                      · skip
                        exact fk_none
                  · skip
                    refine fk_oc F17 (K_Model_readBit ) (fun v46 I46 J46 F43 => ?_)
                    refine fk_ite (fun c44 => ?_) (fun c44 => ?_)
                    · skip
                      exact fk_some F43
                    · skip
                      exact fk_none
                · skip
                  refine fk_oc F15 (hR 8 v1 x12 I16 J16) (fun v48 I48 J48 F45 => ?_)
                  refine fk_ite (fun c46 => ?_) (fun c46 => ?_)
                  · skip
                    exact fk_some F45
                  · skip
                    exact fk_none
              · skip
                refine fk_oc F13 (K_Model_readInput ) (fun v50 I50 J50 F47 => ?_)
                refine fk_ite (fun c48 => ?_) (fun c48 => ?_)
                · skip
                  exact fk_some F47
                · skip
                  exact fk_none
            · skip
              refine fk_oc F10 (K_Model_refuse ) (fun v52 I52 J52 F49 => ?_)
              refine fk_ite (fun c50 => ?_) (fun c50 => ?_)
              · skip
                exact fk_some F49
              · skip
                exact fk_none
          · skip
            refine fk_oc F8 (hR 9 v1 0 I8 J8) (fun v54 I54 J54 F51 => ?_)
            refine fk_ite (fun c52 => ?_) (fun c52 => ?_)
            · skip
              exact fk_some F51
            · skip
              exact fk_none
        · skip
          refine fk_oc F1 (hR 7 0 0 I1 J1) (fun v56 I56 J56 F53 => ?_)
          refine fk_ite (fun c54 => ?_) (fun c54 => ?_)
          · skip
            exact fk_some F53
          · skip
            exact fk_none
      · skip
        refine fk_oc F1 (hR 10 v1 0 I1 J1) (fun v58 I58 J58 F55 => ?_)
        refine fk_ite (fun c56 => ?_) (fun c56 => ?_)
        · skip
          exact fk_some F55
        · skip
          exact fk_none
  · skip
    refine fk_oc F1 (K_Model_readOut ) (fun v60 I60 J60 F57 => ?_)
    refine fk_ite (fun c58 => ?_) (fun c58 => ?_)
    · skip
      exact fk_some F57
    · skip
      exact fk_none
theorem K_Model_readRoutine {R : M3} {I : MI} {J : MJ} (hR : ∀ k a b I J, fk sM I J (R k a b I J)) : fk sM I J (f_Model_readRoutine R  I J) := by
  unfold f_Model_readRoutine
  refine fk_pv (fun x1 => ?_)
  refine fk_pI (fr_rfl _ _ _) (by decide) (fun I2 F1 => ?_)
  refine fk_oc F1 (K_Model_isDigit ) (fun v3 I3 J3 F2 => ?_)
  refine fk_ite (fun c3 => ?_) (fun c3 => ?_)
  · skip
    refine fk_oc F2 (K_Model_see ) (fun v5 I5 J5 F4 => ?_)
    refine fk_pv (fun x6 => ?_)
    refine fk_pI F4 (by decide) (fun I7 F5 => ?_)
    refine fk_oc F5 (K_Model_takes ) (fun v8 I8 J8 F6 => ?_)
    refine fk_ite (fun c7 => ?_) (fun c7 => ?_)
    · skip
      refine fk_oc F6 (K_Model_see ) (fun v10 I10 J10 F8 => ?_)
      refine fk_ite (fun c9 => ?_) (fun c9 => ?_)
      · skip
        refine fk_oc F8 (K_Model_refuse ) (fun v12 I12 J12 F10 => ?_)
        refine fk_ite (fun c11 => ?_) (fun c11 => ?_)
        · skip
          exact fk_some F10
        · skip
          exact fk_none
      · skip
        refine fk_ite (fun c12 => ?_) (fun c12 => ?_)
        · skip
          refine fk_pI F8 (by decide) (fun I15 F13 => ?_)
          refine fk_ite (fun c14 => ?_) (fun c14 => ?_)
          · skip
            exact fk_none
          · skip
            refine fk_oc F13 ?_ (fun v18 I18 J18 F15 => ?_)
            · skip
              refine fk_ite (fun c16 => ?_) (fun c16 => ?_)
              · skip
                exact fk_some (fr_rfl _ _ _)
              · skip
                refine fk_oc (fr_rfl _ _ _) (K_Model_note ) (fun v20 I20 J20 F17 => ?_)
                exact fk_some F17
            · skip
              refine fk_oc F15 (K_Model_lay_IV ) (fun v21 I21 J21 F18 => ?_)
              refine fk_pv (fun x22 => ?_)
              refine fk_oc F18 (K_Model_lay_IIV ) (fun v23 I23 J23 F19 => ?_)
              refine fk_ite (fun c20 => ?_) (fun c20 => ?_)
              · skip
                exact fk_none
              · skip
                refine fk_pI F19 (by decide) (fun I25 F21 => ?_)
                refine fk_pI F21 (by decide) (fun I26 F22 => ?_)
                refine fk_oc F22 (hR 5 0 0 I26 J23) (fun v27 I27 J27 F23 => ?_)
                refine fk_ite (fun c24 => ?_) (fun c24 => ?_)
                · skip
                  refine fk_pI F23 (by decide) (fun I29 F25 => ?_)
                  refine fk_oc F25 (K_Model_lay_IV ) (fun v30 I30 J30 F26 => ?_)
                  refine fk_oc F26 (K_Model_fill ) (fun v31 I31 J31 F27 => ?_)
                  refine fk_oc F27 (K_Model_want ) (fun v32 I32 J32 F28 => ?_)
                  refine fk_ite (fun c29 => ?_) (fun c29 => ?_)
                  · skip
                    exact fk_some F28
                  · skip
                    exact fk_none
                · skip
                  exact fk_some F23
        · skip
          refine fk_oc F8 (K_Model_refuse ) (fun v34 I34 J34 F30 => ?_)
          refine fk_ite (fun c31 => ?_) (fun c31 => ?_)
          · skip
            exact fk_some F30
          · skip
            exact fk_none
    · skip
      refine fk_oc F6 (K_Model_lay_IV ) (fun v36 I36 J36 F32 => ?_)
      refine fk_ite (fun c33 => ?_) (fun c33 => ?_)
      · skip
        exact fk_none
      · skip
        refine fk_pI F32 (by decide) (fun I38 F34 => ?_)
        refine fk_ite (fun c35 => ?_) (fun c35 => ?_)
        · skip
          exact fk_none
        · skip
          refine fk_pI F34 (by decide) (fun I40 F36 => ?_)
          refine fk_ite (fun c37 => ?_) (fun c37 => ?_)
          · skip
            exact fk_none
          · skip
            refine fk_pI F36 (by decide) (fun I42 F38 => ?_)
            refine fk_pI F38 (by decide) (fun I43 F39 => ?_)
            refine fk_oc F39 (K_Model_lay_IIV ) (fun v44 I44 J44 F40 => ?_)
            exact fk_some F40
  · skip
    refine fk_oc F2 (K_Model_refuse ) (fun v45 I45 J45 F41 => ?_)
    refine fk_ite (fun c42 => ?_) (fun c42 => ?_)
    · skip
      exact fk_some F41
    · skip
      exact fk_none
