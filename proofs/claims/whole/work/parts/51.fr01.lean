theorem K_Model_goalOf {a1 : Nat} {m1 : Nat} {p2 : Int32} {I : MI} {J : MJ} (h_a1 : ¬ sM a1) : fk sM I J (f_Model_goalOf a1 m1 p2 I J) := by
  unfold f_Model_goalOf
  refine fk_ite (fun c1 => ?_) (fun c1 => ?_)
  · skip
    exact fk_none
  · skip
    refine fk_ite (fun c2 => ?_) (fun c2 => ?_)
    · skip
      refine fk_ite (fun c3 => ?_) (fun c3 => ?_)
      · skip
        exact fk_none
      · skip
        refine fk_ite (fun c4 => ?_) (fun c4 => ?_)
        · skip
          exact fk_none
        · skip
          exact fk_some (fr_rfl _ _ _)
    · skip
      refine fk_ite (fun c5 => ?_) (fun c5 => ?_)
      · skip
        exact fk_none
      · skip
        refine fk_ite (fun c6 => ?_) (fun c6 => ?_)
        · skip
          exact fk_none
        · skip
          exact fk_some (fr_rfl _ _ _)
theorem K_Model_gives {p2 : Int32} {I : MI} {J : MJ} : fk sM I J (f_Model_gives p2 I J) := by
  unfold f_Model_gives
  refine fk_pv (fun v2 => ?_)
  refine fk_pJ (fr_rfl _ _ _) (by decide) (fun J4 F1 => ?_)
  refine fk_pI F1 (by decide) (fun I5 F2 => ?_)
  refine fk_ite (fun c3 => ?_) (fun c3 => ?_)
  · skip
    exact fk_some F2
  · skip
    exact fk_some F2
theorem K_Model_drops {I : MI} {J : MJ} : fk sM I J (f_Model_drops  I J) := by
  unfold f_Model_drops
  refine fk_pv (fun v2 => ?_)
  refine fk_pJ (fr_rfl _ _ _) (by decide) (fun J4 F1 => ?_)
  refine fk_pI F1 (by decide) (fun I5 F2 => ?_)
  refine fk_ite (fun c3 => ?_) (fun c3 => ?_)
  · skip
    exact fk_some F2
  · skip
    exact fk_none
theorem K_Model_flows {p2 : Int32} {I : MI} {J : MJ} : fk sM I J (f_Model_flows p2 I J) := by
  unfold f_Model_flows
  refine fk_ite (fun c1 => ?_) (fun c1 => ?_)
  · skip
    exact fk_none
  · skip
    refine fk_pv (fun x2 => ?_)
    refine fk_pv (fun v5 => ?_)
    refine fk_ite (fun c2 => ?_) (fun c2 => ?_)
    · skip
      refine fk_ite (fun c3 => ?_) (fun c3 => ?_)
      · skip
        refine fk_oc (fr_rfl _ _ _) (K_Model_gives ) (fun v26 I26 J26 F4 => ?_)
        refine fk_ite (fun c5 => ?_) (fun c5 => ?_)
        · skip
          exact fk_some F4
        · skip
          exact fk_none
      · skip
        refine fk_ite (fun c6 => ?_) (fun c6 => ?_)
        · skip
          refine fk_ite (fun c7 => ?_) (fun c7 => ?_)
          · skip
            refine fk_oc (fr_rfl _ _ _) (K_Model_gives ) (fun v30 I30 J30 F8 => ?_)
            refine fk_ite (fun c9 => ?_) (fun c9 => ?_)
            · skip
              exact fk_some F8
            · skip
              exact fk_none
          · skip
            refine fk_ite (fun c10 => ?_) (fun c10 => ?_)
            · skip
              refine fk_ite (fun c11 => ?_) (fun c11 => ?_)
              · skip
                refine fk_ite (fun c12 => ?_) (fun c12 => ?_)
                · skip
                  refine fk_oc (fr_rfl _ _ _) (K_Model_drops ) (fun v35 I35 J35 F13 => ?_)
                  refine fk_ite (fun c14 => ?_) (fun c14 => ?_)
                  · skip
                    refine fk_ite (fun c15 => ?_) (fun c15 => ?_)
                    · skip
                      refine fk_ite (fun c16 => ?_) (fun c16 => ?_)
                      · skip
                        refine fk_pv (fun v40 => ?_)
                        refine fk_pv (fun v47 => ?_)
                        refine fk_oc F13 (K_Model_gives ) (fun v51 I51 J51 F17 => ?_)
                        refine fk_ite (fun c18 => ?_) (fun c18 => ?_)
                        · skip
                          exact fk_some F17
                        · skip
                          refine fk_ite (fun c19 => ?_) (fun c19 => ?_)
                          · skip
                            exact fk_some F17
                          · skip
                            exact fk_some F17
                      · skip
                        exact fk_some F13
                    · skip
                      refine fk_ite (fun c20 => ?_) (fun c20 => ?_)
                      · skip
                        exact fk_some F13
                      · skip
                        exact fk_some F13
                  · skip
                    refine fk_oc F13 (K_Model_drops ) (fun v55 I55 J55 F21 => ?_)
                    refine fk_ite (fun c22 => ?_) (fun c22 => ?_)
                    · skip
                      refine fk_ite (fun c23 => ?_) (fun c23 => ?_)
                      · skip
                        refine fk_pv (fun v60 => ?_)
                        refine fk_pv (fun v68 => ?_)
                        refine fk_oc F21 (K_Model_gives ) (fun v71 I71 J71 F24 => ?_)
                        refine fk_ite (fun c25 => ?_) (fun c25 => ?_)
                        · skip
                          exact fk_some F24
                        · skip
                          refine fk_ite (fun c26 => ?_) (fun c26 => ?_)
                          · skip
                            exact fk_some F24
                          · skip
                            exact fk_some F24
                      · skip
                        refine fk_ite (fun c27 => ?_) (fun c27 => ?_)
                        · skip
                          exact fk_some F21
                        · skip
                          exact fk_some F21
                    · skip
                      refine fk_ite (fun c28 => ?_) (fun c28 => ?_)
                      · skip
                        exact fk_some F21
                      · skip
                        refine fk_ite (fun c29 => ?_) (fun c29 => ?_)
                        · skip
                          exact fk_some F21
                        · skip
                          exact fk_some F21
                · skip
                  exact fk_some (fr_rfl _ _ _)
              · skip
                refine fk_ite (fun c30 => ?_) (fun c30 => ?_)
                · skip
                  refine fk_ite (fun c31 => ?_) (fun c31 => ?_)
                  · skip
                    refine fk_oc (fr_rfl _ _ _) (K_Model_drops ) (fun v79 I79 J79 F32 => ?_)
                    refine fk_ite (fun c33 => ?_) (fun c33 => ?_)
                    · skip
                      refine fk_ite (fun c34 => ?_) (fun c34 => ?_)
                      · skip
                        refine fk_ite (fun c35 => ?_) (fun c35 => ?_)
                        · skip
                          refine fk_pv (fun v84 => ?_)
                          refine fk_pv (fun v91 => ?_)
                          refine fk_oc F32 (K_Model_gives ) (fun v95 I95 J95 F36 => ?_)
                          refine fk_ite (fun c37 => ?_) (fun c37 => ?_)
                          · skip
                            exact fk_some F36
                          · skip
                            refine fk_ite (fun c38 => ?_) (fun c38 => ?_)
                            · skip
                              exact fk_some F36
                            · skip
                              exact fk_some F36
                        · skip
                          exact fk_some F32
                      · skip
                        refine fk_ite (fun c39 => ?_) (fun c39 => ?_)
                        · skip
                          exact fk_some F32
                        · skip
                          exact fk_some F32
                    · skip
                      refine fk_oc F32 (K_Model_drops ) (fun v99 I99 J99 F40 => ?_)
                      refine fk_ite (fun c41 => ?_) (fun c41 => ?_)
                      · skip
                        refine fk_ite (fun c42 => ?_) (fun c42 => ?_)
                        · skip
                          refine fk_pv (fun v104 => ?_)
                          refine fk_pv (fun v112 => ?_)
                          refine fk_oc F40 (K_Model_gives ) (fun v115 I115 J115 F43 => ?_)
                          refine fk_ite (fun c44 => ?_) (fun c44 => ?_)
                          · skip
                            exact fk_some F43
                          · skip
                            refine fk_ite (fun c45 => ?_) (fun c45 => ?_)
                            · skip
                              exact fk_some F43
                            · skip
                              exact fk_some F43
                        · skip
                          refine fk_ite (fun c46 => ?_) (fun c46 => ?_)
                          · skip
                            exact fk_some F40
                          · skip
                            exact fk_some F40
                      · skip
                        refine fk_ite (fun c47 => ?_) (fun c47 => ?_)
                        · skip
                          exact fk_some F40
                        · skip
                          refine fk_ite (fun c48 => ?_) (fun c48 => ?_)
                          · skip
                            exact fk_some F40
                          · skip
                            exact fk_some F40
                  · skip
                    exact fk_some (fr_rfl _ _ _)
                · skip
                  refine fk_ite (fun c49 => ?_) (fun c49 => ?_)
                  · skip
                    exact fk_none
                  · skip
                    refine fk_ite (fun c50 => ?_) (fun c50 => ?_)
                    · skip
                      exact fk_some (fr_rfl _ _ _)
                    · skip
                      refine fk_ite (fun c51 => ?_) (fun c51 => ?_)
                      · skip
                        exact fk_none
                      · skip
                        refine fk_ite (fun c52 => ?_) (fun c52 => ?_)
                        · skip
                          exact fk_some (fr_rfl _ _ _)
                        · skip
                          refine fk_ite (fun c53 => ?_) (fun c53 => ?_)
                          · skip
                            exact fk_none
                          · skip
                            refine fk_ite (fun c54 => ?_) (fun c54 => ?_)
                            · skip
                              exact fk_some (fr_rfl _ _ _)
                            · skip
                              exact fk_some (fr_rfl _ _ _)
            · skip
              refine fk_oc (fr_rfl _ _ _) (K_Model_gives ) (fun v127 I127 J127 F55 => ?_)
              refine fk_ite (fun c56 => ?_) (fun c56 => ?_)
              · skip
                exact fk_some F55
              · skip
                exact fk_none
        · skip
          refine fk_oc (fr_rfl _ _ _) (K_Model_gives ) (fun v129 I129 J129 F57 => ?_)
          refine fk_ite (fun c58 => ?_) (fun c58 => ?_)
          · skip
            exact fk_some F57
          · skip
            exact fk_none
    · skip
      exact fk_some (fr_rfl _ _ _)
theorem K_Model_fault {p2 : Int32} {I : MI} {J : MJ} : fk sM I J (f_Model_fault p2 I J) := by
  unfold f_Model_fault
  refine fk_pI (fr_rfl _ _ _) (by decide) (fun I1 F1 => ?_)
  refine fk_ite (fun c2 => ?_) (fun c2 => ?_)
  · skip
    refine fk_ite (fun c3 => ?_) (fun c3 => ?_)
    · skip
      exact fk_some F1
    · skip
      exact fk_some F1
  · skip
    exact fk_some F1
theorem K_Model_code {p2 : Int32} {I : MI} {J : MJ} : fk sM I J (f_Model_code p2 I J) := by
  unfold f_Model_code
  refine fk_pI (fr_rfl _ _ _) (by decide) (fun I1 F1 => ?_)
  refine fk_ite (fun c2 => ?_) (fun c2 => ?_)
  · skip
    exact fk_some F1
  · skip
    refine fk_ite (fun c3 => ?_) (fun c3 => ?_)
    · skip
      exact fk_some F1
    · skip
      refine fk_ite (fun c4 => ?_) (fun c4 => ?_)
      · skip
        refine fk_ite (fun c5 => ?_) (fun c5 => ?_)
        · skip
          exact fk_none
        · skip
          exact fk_some F1
      · skip
        exact fk_some F1
theorem K_Model_newHall_28 {p2 : Int32} {p3 : Int64} {p4 : Int32} : ∀ (fu : Nat) {l1 : Int32} {l2 : Int64} {l5 : Int32} {I : MI} {J : MJ}, fk sM I J (f_Model_newHall_28 p2 p3 p4 fu l1 l2 l5 I J) := by
  intro fu
  induction fu with
  | zero =>
    intros
    exact fk_none
  | succ fu ih =>
    intro l1 l2 l5 I J 
    unfold f_Model_newHall_28
    refine fk_ite (fun c1 => ?_) (fun c1 => ?_)
    · skip
      exact fk_some (fr_rfl _ _ _)
    · skip
      refine fk_oc (fr_rfl _ _ _) (K_Model_drawn ) (fun v6 I6 J6 F2 => ?_)
      refine fk_oc F2 (K_Model_plus ) (fun v7 I7 J7 F3 => ?_)
      refine fk_pJ F3 (by decide) (fun J8 F4 => ?_)
      refine fk_ite (fun c5 => ?_) (fun c5 => ?_)
      · skip
        exact fk_none
      · skip
        refine fk_pJ F4 (by decide) (fun J10 F6 => ?_)
        refine fk_ite (fun c7 => ?_) (fun c7 => ?_)
        · skip
          exact fk_none
        · skip
          refine fk_pI F6 (by decide) (fun I12 F8 => ?_)
          exact fk_tail F8 (ih )
theorem K_Model_newHall_87 {p2 : Int32} {p3 : Int64} {p4 : Int32} : ∀ (fu : Nat) {l5 : Int32} {I : MI} {J : MJ}, fk sM I J (f_Model_newHall_87 p2 p3 p4 fu l5 I J) := by
  intro fu
  induction fu with
  | zero =>
    intros
    exact fk_none
  | succ fu ih =>
    intro l5 I J 
    unfold f_Model_newHall_87
    refine fk_ite (fun c1 => ?_) (fun c1 => ?_)
    · skip
      exact fk_some (fr_rfl _ _ _)
    · skip
      refine fk_ite (fun c2 => ?_) (fun c2 => ?_)
      · skip
        exact fk_none
      · skip
        refine fk_pI (fr_rfl _ _ _) (by decide) (fun I16 F3 => ?_)
        refine fk_ite (fun c4 => ?_) (fun c4 => ?_)
        · skip
          exact fk_none
        · skip
          refine fk_pI F3 (by decide) (fun I18 F5 => ?_)
          refine fk_ite (fun c6 => ?_) (fun c6 => ?_)
          · skip
            exact fk_none
          · skip
            refine fk_pI F5 (by decide) (fun I20 F7 => ?_)
            refine fk_ite (fun c8 => ?_) (fun c8 => ?_)
            · skip
              exact fk_none
            · skip
              refine fk_pI F7 (by decide) (fun I22 F9 => ?_)
              refine fk_ite (fun c10 => ?_) (fun c10 => ?_)
              · skip
                exact fk_none
              · skip
                refine fk_pI F9 (by decide) (fun I24 F11 => ?_)
                refine fk_ite (fun c12 => ?_) (fun c12 => ?_)
                · skip
                  exact fk_none
                · skip
                  refine fk_pI F11 (by decide) (fun I26 F13 => ?_)
                  refine fk_ite (fun c14 => ?_) (fun c14 => ?_)
                  · skip
                    exact fk_none
                  · skip
                    refine fk_pI F13 (by decide) (fun I28 F15 => ?_)
                    exact fk_tail F15 (ih )
theorem K_Model_newHall {p2 : Int32} {p3 : Int64} {p4 : Int32} {I : MI} {J : MJ} : fk sM I J (f_Model_newHall p2 p3 p4 I J) := by
  unfold f_Model_newHall
  refine fk_pI (fr_rfl _ _ _) (by decide) (fun I1 F1 => ?_)
  refine fk_pI F1 (by decide) (fun I2 F2 => ?_)
  refine fk_pJ F2 (by decide) (fun J3 F3 => ?_)
  refine fk_pJ F3 (by decide) (fun J4 F4 => ?_)
  refine fk_oc F4 (K_Model_newHall_28  gF ) (fun u13 I13 J13 F5 => ?_)
  refine fk_oc F5 (K_Model_newHall_87  gF ) (fun u29 I29 J29 F6 => ?_)
  refine fk_pI F6 (by decide) (fun I30 F7 => ?_)
  refine fk_pI F7 (by decide) (fun I31 F8 => ?_)
  refine fk_pI F8 (by decide) (fun I32 F9 => ?_)
  refine fk_pI F9 (by decide) (fun I33 F10 => ?_)
  refine fk_pI F10 (by decide) (fun I34 F11 => ?_)
  exact fk_some F11
theorem K_Model_hall {p2 : Int32} {p3 : Int64} {p4 : Int32} {I : MI} {J : MJ} : fk sM I J (f_Model_hall p2 p3 p4 I J) := by
  unfold f_Model_hall
  refine fk_pI (fr_rfl _ _ _) (by decide) (fun I1 F1 => ?_)
  refine fk_ite (fun c2 => ?_) (fun c2 => ?_)
  · skip
    exact fk_some F1
  · skip
    refine fk_ite (fun c3 => ?_) (fun c3 => ?_)
    · skip
      exact fk_some F1
    · skip
      refine fk_ite (fun c4 => ?_) (fun c4 => ?_)
      · skip
        exact fk_some F1
      · skip
        refine fk_ite (fun c5 => ?_) (fun c5 => ?_)
        · skip
          exact fk_some F1
        · skip
          refine fk_ite (fun c6 => ?_) (fun c6 => ?_)
          · skip
            refine fk_pI F1 (by decide) (fun I7 F7 => ?_)
            refine fk_oc F7 (K_Model_newHall ) (fun v8 I8 J8 F8 => ?_)
            exact fk_some F8
          · skip
            exact fk_some F1
theorem K_Model_isParty {p2 : Int32} {I : MI} {J : MJ} : fk sM I J (f_Model_isParty p2 I J) := by
  unfold f_Model_isParty
  refine fk_ite (fun c1 => ?_) (fun c1 => ?_)
  · skip
    exact fk_some (fr_rfl _ _ _)
  · skip
    refine fk_ite (fun c2 => ?_) (fun c2 => ?_)
    · skip
      exact fk_some (fr_rfl _ _ _)
    · skip
      exact fk_some (fr_rfl _ _ _)
theorem K_Model_dealt {p2 : Int32} {I : MI} {J : MJ} : fk sM I J (f_Model_dealt p2 I J) := by
  unfold f_Model_dealt
  refine fk_ite (fun c1 => ?_) (fun c1 => ?_)
  · skip
    refine fk_ite (fun c2 => ?_) (fun c2 => ?_)
    · skip
      refine fk_ite (fun c3 => ?_) (fun c3 => ?_)
      · skip
        refine fk_ite (fun c4 => ?_) (fun c4 => ?_)
        · skip
          exact fk_none
        · skip
          exact fk_some (fr_rfl _ _ _)
      · skip
        exact fk_some (fr_rfl _ _ _)
    · skip
      exact fk_some (fr_rfl _ _ _)
  · skip
    exact fk_some (fr_rfl _ _ _)
theorem K_Model_least_6 {a2 : Nat} {m2 : Nat} (h_a2 : ¬ sM a2) : ∀ (fu : Nat) {l2 : Int32} {l3 : Int32} {I : MI} {J : MJ}, fk sM I J (f_Model_least_6 a2 m2 fu l2 l3 I J) := by
  intro fu
  induction fu with
  | zero =>
    intros
    exact fk_none
  | succ fu ih =>
    intro l2 l3 I J 
    unfold f_Model_least_6
    refine fk_ite (fun c1 => ?_) (fun c1 => ?_)
    · skip
      exact fk_some (fr_rfl _ _ _)
    · skip
      refine fk_ite (fun c2 => ?_) (fun c2 => ?_)
      · skip
        exact fk_none
      · skip
        refine fk_oc (fr_rfl _ _ _) ?_ (fun v6 I6 J6 F3 => ?_)
        · skip
          refine fk_ite (fun c4 => ?_) (fun c4 => ?_)
          · skip
            exact fk_some (fr_rfl _ _ _)
          · skip
            refine fk_ite (fun c5 => ?_) (fun c5 => ?_)
            · skip
              exact fk_none
            · skip
              exact fk_some (fr_rfl _ _ _)
        · skip
          exact fk_tail F3 (ih )
theorem K_Model_least {a2 : Nat} {m2 : Nat} {I : MI} {J : MJ} (h_a2 : ¬ sM a2) : fk sM I J (f_Model_least a2 m2 I J) := by
  unfold f_Model_least
  refine fk_ite (fun c1 => ?_) (fun c1 => ?_)
  · skip
    exact fk_none
  · skip
    refine fk_pv (fun x2 => ?_)
    refine fk_oc (fr_rfl _ _ _) (K_Model_least_6 h_a2 gF ) (fun u9 I9 J9 F2 => ?_)
    exact fk_some F2
theorem K_Model_level_4 {a2 : Nat} {m2 : Nat} (h_a2 : ¬ sM a2) : ∀ (fu : Nat) {l2 : Int32} {l3 : Int32} {I : MI} {J : MJ}, fk sM I J (f_Model_level_4 a2 m2 fu l2 l3 I J) := by
  intro fu
  induction fu with
  | zero =>
    intros
    exact fk_none
  | succ fu ih =>
    intro l2 l3 I J 
    unfold f_Model_level_4
    refine fk_ite (fun c1 => ?_) (fun c1 => ?_)
    · skip
      exact fk_some (fr_rfl _ _ _)
    · skip
      refine fk_ite (fun c2 => ?_) (fun c2 => ?_)
      · skip
        exact fk_none
      · skip
        refine fk_oc (fr_rfl _ _ _) ?_ (fun v4 I4 J4 F3 => ?_)
        · skip
          refine fk_ite (fun c4 => ?_) (fun c4 => ?_)
          · skip
            exact fk_some (fr_rfl _ _ _)
          · skip
            refine fk_ite (fun c5 => ?_) (fun c5 => ?_)
            · skip
              exact fk_none
            · skip
              exact fk_some (fr_rfl _ _ _)
        · skip
          exact fk_tail F3 (ih )
theorem K_Model_level_35 {a2 : Nat} {m2 : Nat} (h_a2 : ¬ sM a2) : ∀ (fu : Nat) {l2 : Int32} {l3 : Int32} {I : MI} {J : MJ}, fk sM I J (f_Model_level_35 a2 m2 fu l2 l3 I J) := by
  intro fu
  induction fu with
  | zero =>
    intros
    exact fk_none
  | succ fu ih =>
    intro l2 l3 I J 
    unfold f_Model_level_35
    refine fk_ite (fun c1 => ?_) (fun c1 => ?_)
    · skip
      exact fk_some (fr_rfl _ _ _)
    · skip
      refine fk_ite (fun c2 => ?_) (fun c2 => ?_)
      · skip
        exact fk_none
      · skip
        refine fk_pI (fr_rfl _ _ _) h_a2 (fun I10 F3 => ?_)
        exact fk_tail F3 (ih )
theorem K_Model_level {a2 : Nat} {m2 : Nat} {I : MI} {J : MJ} (h_a2 : ¬ sM a2) : fk sM I J (f_Model_level a2 m2 I J) := by
  unfold f_Model_level
  refine fk_oc (fr_rfl _ _ _) (K_Model_level_4 h_a2 gF ) (fun u7 I7 J7 F1 => ?_)
  refine fk_oc F1 (K_Model_level_35 h_a2 gF ) (fun u11 I11 J11 F2 => ?_)
  exact fk_some F2
theorem K_Model_give {p2 : Int32} {p3 : Int64} {I : MI} {J : MJ} : fk sM I J (f_Model_give p2 p3 I J) := by
  unfold f_Model_give
  refine fk_pI (fr_rfl _ _ _) (by decide) (fun I1 F1 => ?_)
  refine fk_oc F1 (K_Model_isParty ) (fun v2 I2 J2 F2 => ?_)
  refine fk_ite (fun c3 => ?_) (fun c3 => ?_)
  · skip
    exact fk_some F2
  · skip
    refine fk_ite (fun c4 => ?_) (fun c4 => ?_)
    · skip
      exact fk_none
    · skip
      refine fk_ite (fun c5 => ?_) (fun c5 => ?_)
      · skip
        refine fk_ite (fun c6 => ?_) (fun c6 => ?_)
        · skip
          exact fk_none
        · skip
          refine fk_oc F2 (K_Model_modulo ) (fun v7 I7 J7 F7 => ?_)
          refine fk_ite (fun c8 => ?_) (fun c8 => ?_)
          · skip
            exact fk_none
          · skip
            refine fk_pJ F7 (by decide) (fun J9 F9 => ?_)
            refine fk_ite (fun c10 => ?_) (fun c10 => ?_)
            · skip
              exact fk_none
            · skip
              refine fk_ite (fun c11 => ?_) (fun c11 => ?_)
              · skip
                exact fk_none
              · skip
                refine fk_pI F9 (by decide) (fun I12 F12 => ?_)
                exact fk_some F12
      · skip
        exact fk_some F2
theorem K_Model_begin_40 : ∀ (fu : Nat) {l1 : Int32} {I : MI} {J : MJ}, fk sM I J (f_Model_begin_40  fu l1 I J) := by
  intro fu
  induction fu with
  | zero =>
    intros
    exact fk_none
  | succ fu ih =>
    intro l1 I J 
    unfold f_Model_begin_40
    refine fk_ite (fun c1 => ?_) (fun c1 => ?_)
    · skip
      exact fk_some (fr_rfl _ _ _)
    · skip
      refine fk_ite (fun c2 => ?_) (fun c2 => ?_)
      · skip
        exact fk_none
      · skip
        refine fk_pI (fr_rfl _ _ _) (by decide) (fun I8 F3 => ?_)
        refine fk_ite (fun c4 => ?_) (fun c4 => ?_)
        · skip
          exact fk_none
        · skip
          refine fk_pI F3 (by decide) (fun I10 F5 => ?_)
          refine fk_ite (fun c6 => ?_) (fun c6 => ?_)
          · skip
            exact fk_none
          · skip
            refine fk_pI F5 (by decide) (fun I12 F7 => ?_)
            refine fk_ite (fun c8 => ?_) (fun c8 => ?_)
            · skip
              exact fk_none
            · skip
              refine fk_pI F7 (by decide) (fun I14 F9 => ?_)
              refine fk_ite (fun c10 => ?_) (fun c10 => ?_)
              · skip
                exact fk_none
              · skip
                refine fk_pI F9 (by decide) (fun I16 F11 => ?_)
                refine fk_ite (fun c12 => ?_) (fun c12 => ?_)
                · skip
                  exact fk_none
                · skip
                  refine fk_pI F11 (by decide) (fun I18 F13 => ?_)
                  refine fk_ite (fun c14 => ?_) (fun c14 => ?_)
                  · skip
                    exact fk_none
                  · skip
                    refine fk_pI F13 (by decide) (fun I20 F15 => ?_)
                    refine fk_ite (fun c16 => ?_) (fun c16 => ?_)
                    · skip
                      exact fk_none
                    · skip
                      refine fk_pI F15 (by decide) (fun I22 F17 => ?_)
                      refine fk_ite (fun c18 => ?_) (fun c18 => ?_)
                      · skip
                        exact fk_none
                      · skip
                        refine fk_pI F17 (by decide) (fun I24 F19 => ?_)
                        refine fk_ite (fun c20 => ?_) (fun c20 => ?_)
                        · skip
                          exact fk_none
                        · skip
                          refine fk_pI F19 (by decide) (fun I26 F21 => ?_)
                          refine fk_ite (fun c22 => ?_) (fun c22 => ?_)
                          · skip
                            exact fk_none
                          · skip
                            refine fk_pI F21 (by decide) (fun I28 F23 => ?_)
                            refine fk_ite (fun c24 => ?_) (fun c24 => ?_)
                            · skip
                              exact fk_none
                            · skip
                              refine fk_pI F23 (by decide) (fun I30 F25 => ?_)
                              refine fk_ite (fun c26 => ?_) (fun c26 => ?_)
                              · skip
                                exact fk_none
                              · skip
                                refine fk_pI F25 (by decide) (fun I32 F27 => ?_)
                                refine fk_ite (fun c28 => ?_) (fun c28 => ?_)
                                · skip
                                  exact fk_none
                                · skip
                                  refine fk_pI F27 (by decide) (fun I34 F29 => ?_)
                                  refine fk_ite (fun c30 => ?_) (fun c30 => ?_)
                                  · skip
                                    exact fk_none
                                  · skip
                                    refine fk_pI F29 (by decide) (fun I36 F31 => ?_)
                                    refine fk_ite (fun c32 => ?_) (fun c32 => ?_)
                                    · skip
                                      exact fk_none
                                    · skip
                                      refine fk_pI F31 (by decide) (fun I38 F33 => ?_)
                                      exact fk_tail F33 (ih )
theorem K_Model_begin_165 : ∀ (fu : Nat) {l1 : Int32} {I : MI} {J : MJ}, fk sM I J (f_Model_begin_165  fu l1 I J) := by
  intro fu
  induction fu with
  | zero =>
    intros
    exact fk_none
  | succ fu ih =>
    intro l1 I J 
    unfold f_Model_begin_165
    refine fk_ite (fun c1 => ?_) (fun c1 => ?_)
    · skip
      exact fk_some (fr_rfl _ _ _)
    · skip
      refine fk_ite (fun c2 => ?_) (fun c2 => ?_)
      · skip
        exact fk_none
      · skip
        refine fk_pJ (fr_rfl _ _ _) (by decide) (fun J42 F3 => ?_)
        exact fk_tail F3 (ih )
theorem K_Model_begin_187 : ∀ (fu : Nat) {l1 : Int32} {I : MI} {J : MJ}, fk sM I J (f_Model_begin_187  fu l1 I J) := by
  intro fu
  induction fu with
  | zero =>
    intros
    exact fk_none
  | succ fu ih =>
    intro l1 I J 
    unfold f_Model_begin_187
    refine fk_ite (fun c1 => ?_) (fun c1 => ?_)
    · skip
      exact fk_some (fr_rfl _ _ _)
    · skip
      refine fk_ite (fun c2 => ?_) (fun c2 => ?_)
      · skip
        exact fk_none
      · skip
        refine fk_pI (fr_rfl _ _ _) (by decide) (fun I46 F3 => ?_)
        refine fk_ite (fun c4 => ?_) (fun c4 => ?_)
        · skip
          exact fk_none
        · skip
          refine fk_pI F3 (by decide) (fun I48 F5 => ?_)
          refine fk_ite (fun c6 => ?_) (fun c6 => ?_)
          · skip
            exact fk_none
          · skip
            refine fk_pI F5 (by decide) (fun I50 F7 => ?_)
            exact fk_tail F7 (ih )
theorem K_Model_begin {I : MI} {J : MJ} : fk sM I J (f_Model_begin  I J) := by
  unfold f_Model_begin
  refine fk_pI (fr_rfl _ _ _) (by decide) (fun I1 F1 => ?_)
  refine fk_ite (fun c2 => ?_) (fun c2 => ?_)
  · skip
    refine fk_oc F1 (K_Model_level (by decide)) (fun v3 I3 J3 F3 => ?_)
    refine fk_oc F3 (K_Model_level (by decide)) (fun v4 I4 J4 F4 => ?_)
    refine fk_oc F4 (K_Model_level (by decide)) (fun v5 I5 J5 F5 => ?_)
    refine fk_oc F5 (K_Model_begin_40  gF ) (fun u39 I39 J39 F6 => ?_)
    refine fk_oc F6 (K_Model_begin_165  gF ) (fun u43 I43 J43 F7 => ?_)
    refine fk_oc F7 (K_Model_begin_187  gF ) (fun u51 I51 J51 F8 => ?_)
    refine fk_pI F8 (by decide) (fun I52 F9 => ?_)
    refine fk_pI F9 (by decide) (fun I53 F10 => ?_)
    refine fk_pI F10 (by decide) (fun I54 F11 => ?_)
    exact fk_some F11
  · skip
    exact fk_some F1
theorem K_Model_tamper {p2 : Int32} {p3 : Int32} {p4 : Int32} {p5 : Int64} {I : MI} {J : MJ} : fk sM I J (f_Model_tamper p2 p3 p4 p5 I J) := by
  unfold f_Model_tamper
  refine fk_pI (fr_rfl _ _ _) (by decide) (fun I1 F1 => ?_)
  refine fk_ite (fun c2 => ?_) (fun c2 => ?_)
  · skip
    exact fk_some F1
  · skip
    refine fk_oc F1 (K_Model_isParty ) (fun v3 I3 J3 F3 => ?_)
    refine fk_ite (fun c4 => ?_) (fun c4 => ?_)
    · skip
      exact fk_some F3
    · skip
      refine fk_ite (fun c5 => ?_) (fun c5 => ?_)
      · skip
        exact fk_some F3
      · skip
        refine fk_ite (fun c6 => ?_) (fun c6 => ?_)
        · skip
          exact fk_some F3
        · skip
          refine fk_ite (fun c7 => ?_) (fun c7 => ?_)
          · skip
            exact fk_some F3
          · skip
            refine fk_ite (fun c8 => ?_) (fun c8 => ?_)
            · skip
              exact fk_some F3
            · skip
              refine fk_ite (fun c9 => ?_) (fun c9 => ?_)
              · skip
                exact fk_none
              · skip
                refine fk_ite (fun c10 => ?_) (fun c10 => ?_)
                · skip
                  exact fk_some F3
                · skip
                  refine fk_ite (fun c11 => ?_) (fun c11 => ?_)
                  · skip
                    refine fk_ite (fun c12 => ?_) (fun c12 => ?_)
                    · skip
                      exact fk_none
                    · skip
                      refine fk_pI F3 (by decide) (fun I13 F13 => ?_)
                      refine fk_ite (fun c14 => ?_) (fun c14 => ?_)
                      · skip
                        exact fk_none
                      · skip
                        refine fk_pI F13 (by decide) (fun I15 F15 => ?_)
                        refine fk_ite (fun c16 => ?_) (fun c16 => ?_)
                        · skip
                          exact fk_none
                        · skip
                          refine fk_pI F15 (by decide) (fun I17 F17 => ?_)
                          refine fk_oc F17 (K_Model_modulo ) (fun v18 I18 J18 F18 => ?_)
                          refine fk_ite (fun c19 => ?_) (fun c19 => ?_)
                          · skip
                            exact fk_none
                          · skip
                            refine fk_pJ F18 (by decide) (fun J20 F20 => ?_)
                            refine fk_pI F20 (by decide) (fun I21 F21 => ?_)
                            exact fk_some F21
                  · skip
                    exact fk_some F3
theorem K_Model_error_5 {p2 : Int32} {p3 : Int32} : ∀ (fu : Nat) {l1 : Int32} {l2 : Int32} {l3 : Int64} {l5 : Int32} {I : MI} {J : MJ}, fk sM I J (f_Model_error_5 p2 p3 fu l1 l2 l3 l5 I J) := by
  intro fu
  induction fu with
  | zero =>
    intros
    exact fk_none
  | succ fu ih =>
    intro l1 l2 l3 l5 I J 
    unfold f_Model_error_5
    refine fk_ite (fun c1 => ?_) (fun c1 => ?_)
    · skip
      exact fk_some (fr_rfl _ _ _)
    · skip
      refine fk_ite (fun c2 => ?_) (fun c2 => ?_)
      · skip
        exact fk_none
      · skip
        refine fk_ite (fun c3 => ?_) (fun c3 => ?_)
        · skip
          exact fk_tail (fr_rfl _ _ _) (ih )
        · skip
          refine fk_ite (fun c4 => ?_) (fun c4 => ?_)
          · skip
            exact fk_none
          · skip
            refine fk_ite (fun c5 => ?_) (fun c5 => ?_)
            · skip
              exact fk_none
            · skip
              refine fk_ite (fun c6 => ?_) (fun c6 => ?_)
              · skip
                exact fk_none
              · skip
                refine fk_ite (fun c7 => ?_) (fun c7 => ?_)
                · skip
                  exact fk_tail (fr_rfl _ _ _) (ih )
                · skip
                  refine fk_ite (fun c8 => ?_) (fun c8 => ?_)
                  · skip
                    exact fk_none
                  · skip
                    refine fk_oc (fr_rfl _ _ _) (K_Model_plus ) (fun v9 I9 J9 F9 => ?_)
                    exact fk_tail F9 (ih )
theorem K_Model_error {p2 : Int32} {p3 : Int32} {I : MI} {J : MJ} : fk sM I J (f_Model_error p2 p3 I J) := by
  unfold f_Model_error
  refine fk_oc (fr_rfl _ _ _) (K_Model_error_5  gF ) (fun u10 I10 J10 F1 => ?_)
  exact fk_some F1
theorem K_Model_numbers {p1 : Int32} {I : MI} {J : MJ} : fk sM I J (f_Model_numbers p1 I J) := by
  unfold f_Model_numbers
  refine fk_ite (fun c1 => ?_) (fun c1 => ?_)
  · skip
    refine fk_ite (fun c2 => ?_) (fun c2 => ?_)
    · skip
      refine fk_ite (fun c3 => ?_) (fun c3 => ?_)
      · skip
        exact fk_some (fr_rfl _ _ _)
      · skip
        exact fk_some (fr_rfl _ _ _)
    · skip
      exact fk_some (fr_rfl _ _ _)
  · skip
    exact fk_some (fr_rfl _ _ _)
theorem K_Model_push {p2 : Int32} {p3 : Int64} {I : MI} {J : MJ} : fk sM I J (f_Model_push p2 p3 I J) := by
  unfold f_Model_push
  refine fk_ite (fun c1 => ?_) (fun c1 => ?_)
  · skip
    exact fk_none
  · skip
    refine fk_ite (fun c2 => ?_) (fun c2 => ?_)
    · skip
      exact fk_none
    · skip
      refine fk_pJ (fr_rfl _ _ _) (by decide) (fun J3 F3 => ?_)
      refine fk_ite (fun c4 => ?_) (fun c4 => ?_)
      · skip
        exact fk_none
      · skip
        refine fk_ite (fun c5 => ?_) (fun c5 => ?_)
        · skip
          exact fk_none
        · skip
          refine fk_pI F3 (by decide) (fun I6 F6 => ?_)
          exact fk_some F6
theorem K_Model_pop {p2 : Int32} {I : MI} {J : MJ} : fk sM I J (f_Model_pop p2 I J) := by
  unfold f_Model_pop
  refine fk_ite (fun c1 => ?_) (fun c1 => ?_)
  · skip
    exact fk_none
  · skip
    refine fk_ite (fun c2 => ?_) (fun c2 => ?_)
    · skip
      exact fk_none
    · skip
      refine fk_pI (fr_rfl _ _ _) (by decide) (fun I3 F3 => ?_)
      refine fk_ite (fun c4 => ?_) (fun c4 => ?_)
      · skip
        exact fk_none
      · skip
        refine fk_ite (fun c5 => ?_) (fun c5 => ?_)
        · skip
          exact fk_none
        · skip
          exact fk_some F3
theorem K_Model_goOn_55 {p2 : Int32} : ∀ (fu : Nat) {l1 : Int32} {l2 : Int32} {l3 : Int32} {l4 : Int64} {l6 : Int32} {I : MI} {J : MJ}, fk sM I J (f_Model_goOn_55 p2 fu l1 l2 l3 l4 l6 I J) := by
  intro fu
  induction fu with
  | zero =>
    intros
    exact fk_none
  | succ fu ih =>
    intro l1 l2 l3 l4 l6 I J 
    unfold f_Model_goOn_55
    refine fk_ite (fun c1 => ?_) (fun c1 => ?_)
    · skip
      exact fk_some (fr_rfl _ _ _)
    · skip
      refine fk_ite (fun c2 => ?_) (fun c2 => ?_)
      · skip
        exact fk_none
      · skip
        refine fk_pv (fun x32 => ?_)
        exact fk_tail (fr_rfl _ _ _) (ih )
theorem K_Model_goOn_0 {p2 : Int32} : ∀ (fu : Nat) {l1 : Int32} {I : MI} {J : MJ}, fk sM I J (f_Model_goOn_0 p2 fu l1 I J) := by
  intro fu
  induction fu with
  | zero =>
    intros
    exact fk_none
  | succ fu ih =>
    intro l1 I J 
    unfold f_Model_goOn_0
    refine fk_ite (fun c1 => ?_) (fun c1 => ?_)
    · skip
      exact fk_none
    · skip
      refine fk_ite (fun c2 => ?_) (fun c2 => ?_)
      · skip
        exact fk_none
      · skip
        refine fk_ite (fun c3 => ?_) (fun c3 => ?_)
        · skip
          exact fk_some (fr_rfl _ _ _)
        · skip
          refine fk_ite (fun c4 => ?_) (fun c4 => ?_)
          · skip
            exact fk_none
          · skip
            refine fk_ite (fun c5 => ?_) (fun c5 => ?_)
            · skip
              exact fk_none
            · skip
              refine fk_ite (fun c6 => ?_) (fun c6 => ?_)
              · skip
                exact fk_some (fr_rfl _ _ _)
              · skip
                refine fk_ite (fun c7 => ?_) (fun c7 => ?_)
                · skip
                  exact fk_none
                · skip
                  refine fk_pv (fun x8 => ?_)
                  refine fk_ite (fun c8 => ?_) (fun c8 => ?_)
                  · skip
                    exact fk_none
                  · skip
                    refine fk_pv (fun x10 => ?_)
                    refine fk_oc (fr_rfl _ _ _) ?_ (fun v20 I20 J20 F9 => ?_)
                    · skip
                      refine fk_ite (fun c10 => ?_) (fun c10 => ?_)
                      · skip
                        refine fk_oc (fr_rfl _ _ _) ?_ (fun v24 I24 J24 F11 => ?_)
                        · skip
                          refine fk_ite (fun c12 => ?_) (fun c12 => ?_)
                          · skip
                            refine fk_ite (fun c13 => ?_) (fun c13 => ?_)
                            · skip
                              exact fk_none
                            · skip
                              exact fk_some (fr_rfl _ _ _)
                          · skip
                            refine fk_ite (fun c14 => ?_) (fun c14 => ?_)
                            · skip
                              exact fk_none
                            · skip
                              exact fk_some (fr_rfl _ _ _)
                        · skip
                          refine fk_ite (fun c15 => ?_) (fun c15 => ?_)
                          · skip
                            exact fk_none
                          · skip
                            refine fk_oc F11 (K_Model_push ) (fun v29 I29 J29 F16 => ?_)
                            exact fk_some F16
                      · skip
                        refine fk_oc (fr_rfl _ _ _) (K_Model_goOn_55  gF ) (fun u33 I33 J33 F17 => ?_)
                        refine fk_oc F17 (K_Model_push ) (fun v34 I34 J34 F18 => ?_)
                        exact fk_some F18
                    · skip
                      refine fk_ite (fun c19 => ?_) (fun c19 => ?_)
                      · skip
                        exact fk_none
                      · skip
                        refine fk_oc F9 (K_Model_longOf ) (fun v36 I36 J36 F20 => ?_)
                        refine fk_ite (fun c21 => ?_) (fun c21 => ?_)
                        · skip
                          exact fk_none
                        · skip
                          refine fk_pI F20 (by decide) (fun I38 F22 => ?_)
                          exact fk_tail F22 (ih )
theorem K_Model_goOn {p2 : Int32} {I : MI} {J : MJ} : fk sM I J (f_Model_goOn p2 I J) := by
  unfold f_Model_goOn
  refine fk_oc (fr_rfl _ _ _) (K_Model_goOn_0  gF ) (fun u39 I39 J39 F1 => ?_)
  exact fk_some F1
theorem K_Model_hasOpened_7 {p2 : Int32} : ∀ (fu : Nat) {l1 : Int32} {l2 : Int32} {I : MI} {J : MJ}, fk sM I J (f_Model_hasOpened_7 p2 fu l1 l2 I J) := by
  intro fu
  induction fu with
  | zero =>
    intros
    exact fk_none
  | succ fu ih =>
    intro l1 l2 I J 
    unfold f_Model_hasOpened_7
    refine fk_ite (fun c1 => ?_) (fun c1 => ?_)
    · skip
      exact fk_none
    · skip
      refine fk_ite (fun c2 => ?_) (fun c2 => ?_)
      · skip
        exact fk_some (fr_rfl _ _ _)
      · skip
        refine fk_ite (fun c3 => ?_) (fun c3 => ?_)
        · skip
          exact fk_none
        · skip
          refine fk_ite (fun c4 => ?_) (fun c4 => ?_)
          · skip
            exact fk_tail (fr_rfl _ _ _) (ih )
          · skip
            exact fk_some (fr_rfl _ _ _)
theorem K_Model_hasOpened {p2 : Int32} {I : MI} {J : MJ} : fk sM I J (f_Model_hasOpened p2 I J) := by
  unfold f_Model_hasOpened
  refine fk_ite (fun c1 => ?_) (fun c1 => ?_)
  · skip
    exact fk_none
  · skip
    refine fk_pv (fun x2 => ?_)
    refine fk_oc (fr_rfl _ _ _) (K_Model_hasOpened_7  gF ) (fun q7 I7 J7 F2 => ?_)
    refine fk_oe (fun y7 => ?_) (fun u7 => ?_)
    · skip
      exact fk_some F2
    · skip
      exact fk_some F2
theorem K_Model_statusOf {p2 : Int32} {I : MI} {J : MJ} : fk sM I J (f_Model_statusOf p2 I J) := by
  unfold f_Model_statusOf
  refine fk_ite (fun c1 => ?_) (fun c1 => ?_)
  · skip
    refine fk_ite (fun c2 => ?_) (fun c2 => ?_)
    · skip
      exact fk_none
    · skip
      refine fk_ite (fun c3 => ?_) (fun c3 => ?_)
      · skip
        refine fk_ite (fun c4 => ?_) (fun c4 => ?_)
        · skip
          exact fk_none
        · skip
          refine fk_ite (fun c5 => ?_) (fun c5 => ?_)
          · skip
            refine fk_oc (fr_rfl _ _ _) (K_Model_goOn ) (fun v6 I6 J6 F6 => ?_)
            refine fk_ite (fun c7 => ?_) (fun c7 => ?_)
            · skip
              exact fk_none
            · skip
              refine fk_ite (fun c8 => ?_) (fun c8 => ?_)
              · skip
                exact fk_none
              · skip
                refine fk_ite (fun c9 => ?_) (fun c9 => ?_)
                · skip
                  exact fk_some F6
                · skip
                  exact fk_some F6
          · skip
            exact fk_some (fr_rfl _ _ _)
      · skip
        exact fk_some (fr_rfl _ _ _)
  · skip
    exact fk_some (fr_rfl _ _ _)
theorem K_Model_isSecretPart {p1 : Int32} {I : MI} {J : MJ} : fk sM I J (f_Model_isSecretPart p1 I J) := by
  unfold f_Model_isSecretPart
  refine fk_ite (fun c1 => ?_) (fun c1 => ?_)
  · skip
    exact fk_some (fr_rfl _ _ _)
  · skip
    exact fk_some (fr_rfl _ _ _)
theorem K_Model_isJoint {p2 : Int32} {I : MI} {J : MJ} : fk sM I J (f_Model_isJoint p2 I J) := by
  unfold f_Model_isJoint
  refine fk_ite (fun c1 => ?_) (fun c1 => ?_)
  · skip
    exact fk_none
  · skip
    refine fk_ite (fun c2 => ?_) (fun c2 => ?_)
    · skip
      refine fk_ite (fun c3 => ?_) (fun c3 => ?_)
      · skip
        exact fk_none
      · skip
        refine fk_ite (fun c4 => ?_) (fun c4 => ?_)
        · skip
          exact fk_some (fr_rfl _ _ _)
        · skip
          refine fk_ite (fun c5 => ?_) (fun c5 => ?_)
          · skip
            exact fk_none
          · skip
            refine fk_oc (fr_rfl _ _ _) (K_Model_isSecretPart ) (fun v6 I6 J6 F6 => ?_)
            refine fk_ite (fun c7 => ?_) (fun c7 => ?_)
            · skip
              exact fk_some F6
            · skip
              refine fk_ite (fun c8 => ?_) (fun c8 => ?_)
              · skip
                exact fk_none
              · skip
                refine fk_oc F6 (K_Model_isSecretPart ) (fun v9 I9 J9 F9 => ?_)
                refine fk_ite (fun c10 => ?_) (fun c10 => ?_)
                · skip
                  exact fk_some F9
                · skip
                  exact fk_some F9
    · skip
      refine fk_ite (fun c11 => ?_) (fun c11 => ?_)
      · skip
        exact fk_none
      · skip
        refine fk_oc (fr_rfl _ _ _) (K_Model_isSecretPart ) (fun v12 I12 J12 F12 => ?_)
        refine fk_ite (fun c13 => ?_) (fun c13 => ?_)
        · skip
          exact fk_some F12
        · skip
          refine fk_ite (fun c14 => ?_) (fun c14 => ?_)
          · skip
            exact fk_none
          · skip
            refine fk_oc F12 (K_Model_isSecretPart ) (fun v15 I15 J15 F15 => ?_)
            refine fk_ite (fun c16 => ?_) (fun c16 => ?_)
            · skip
              exact fk_some F15
            · skip
              exact fk_some F15
theorem K_Model_lacking {p2 : Int32} {I : MI} {J : MJ} : fk sM I J (f_Model_lacking p2 I J) := by
  unfold f_Model_lacking
  refine fk_ite (fun c1 => ?_) (fun c1 => ?_)
  · skip
    exact fk_none
  · skip
    refine fk_pv (fun x2 => ?_)
    refine fk_ite (fun c2 => ?_) (fun c2 => ?_)
    · skip
      exact fk_none
    · skip
      refine fk_pv (fun x4 => ?_)
      refine fk_ite (fun c3 => ?_) (fun c3 => ?_)
      · skip
        refine fk_ite (fun c4 => ?_) (fun c4 => ?_)
        · skip
          exact fk_none
        · skip
          refine fk_ite (fun c5 => ?_) (fun c5 => ?_)
          · skip
            refine fk_ite (fun c6 => ?_) (fun c6 => ?_)
            · skip
              refine fk_ite (fun c7 => ?_) (fun c7 => ?_)
              · skip
                refine fk_ite (fun c8 => ?_) (fun c8 => ?_)
                · skip
                  refine fk_ite (fun c9 => ?_) (fun c9 => ?_)
                  · skip
                    refine fk_ite (fun c10 => ?_) (fun c10 => ?_)
                    · skip
                      exact fk_none
                    · skip
                      refine fk_pv (fun v14 => ?_)
                      refine fk_ite (fun c11 => ?_) (fun c11 => ?_)
                      · skip
                        exact fk_some (fr_rfl _ _ _)
                      · skip
                        exact fk_some (fr_rfl _ _ _)
                  · skip
                    refine fk_ite (fun c12 => ?_) (fun c12 => ?_)
                    · skip
                      refine fk_ite (fun c13 => ?_) (fun c13 => ?_)
                      · skip
                        refine fk_oc (fr_rfl _ _ _) (K_Model_isJoint ) (fun v19 I19 J19 F14 => ?_)
                        refine fk_ite (fun c15 => ?_) (fun c15 => ?_)
                        · skip
                          exact fk_some F14
                        · skip
                          refine fk_ite (fun c16 => ?_) (fun c16 => ?_)
                          · skip
                            exact fk_none
                          · skip
                            refine fk_ite (fun c17 => ?_) (fun c17 => ?_)
                            · skip
                              exact fk_some F14
                            · skip
                              exact fk_some F14
                      · skip
                        refine fk_ite (fun c18 => ?_) (fun c18 => ?_)
                        · skip
                          exact fk_none
                        · skip
                          refine fk_ite (fun c19 => ?_) (fun c19 => ?_)
                          · skip
                            exact fk_some (fr_rfl _ _ _)
                          · skip
                            refine fk_oc (fr_rfl _ _ _) (K_Model_isJoint ) (fun v25 I25 J25 F20 => ?_)
                            refine fk_ite (fun c21 => ?_) (fun c21 => ?_)
                            · skip
                              exact fk_some F20
                            · skip
                              refine fk_ite (fun c22 => ?_) (fun c22 => ?_)
                              · skip
                                exact fk_none
                              · skip
                                refine fk_ite (fun c23 => ?_) (fun c23 => ?_)
                                · skip
                                  exact fk_some F20
                                · skip
                                  exact fk_some F20
                    · skip
                      refine fk_ite (fun c24 => ?_) (fun c24 => ?_)
                      · skip
                        exact fk_none
                      · skip
                        refine fk_pv (fun v31 => ?_)
                        refine fk_ite (fun c25 => ?_) (fun c25 => ?_)
                        · skip
                          exact fk_some (fr_rfl _ _ _)
                        · skip
                          exact fk_some (fr_rfl _ _ _)
                · skip
                  refine fk_ite (fun c26 => ?_) (fun c26 => ?_)
                  · skip
                    exact fk_none
                  · skip
                    refine fk_ite (fun c27 => ?_) (fun c27 => ?_)
                    · skip
                      exact fk_some (fr_rfl _ _ _)
                    · skip
                      exact fk_some (fr_rfl _ _ _)
              · skip
                refine fk_ite (fun c28 => ?_) (fun c28 => ?_)
                · skip
                  exact fk_none
                · skip
                  refine fk_ite (fun c29 => ?_) (fun c29 => ?_)
                  · skip
                    exact fk_some (fr_rfl _ _ _)
                  · skip
                    exact fk_some (fr_rfl _ _ _)
            · skip
              refine fk_ite (fun c30 => ?_) (fun c30 => ?_)
              · skip
                exact fk_none
              · skip
                refine fk_ite (fun c31 => ?_) (fun c31 => ?_)
                · skip
                  refine fk_ite (fun c32 => ?_) (fun c32 => ?_)
                  · skip
                    refine fk_ite (fun c33 => ?_) (fun c33 => ?_)
                    · skip
                      refine fk_ite (fun c34 => ?_) (fun c34 => ?_)
                      · skip
                        refine fk_ite (fun c35 => ?_) (fun c35 => ?_)
                        · skip
                          exact fk_none
                        · skip
                          refine fk_pv (fun v45 => ?_)
                          refine fk_ite (fun c36 => ?_) (fun c36 => ?_)
                          · skip
                            exact fk_some (fr_rfl _ _ _)
                          · skip
                            exact fk_some (fr_rfl _ _ _)
                      · skip
                        refine fk_ite (fun c37 => ?_) (fun c37 => ?_)
                        · skip
                          refine fk_ite (fun c38 => ?_) (fun c38 => ?_)
                          · skip
                            refine fk_oc (fr_rfl _ _ _) (K_Model_isJoint ) (fun v50 I50 J50 F39 => ?_)
                            refine fk_ite (fun c40 => ?_) (fun c40 => ?_)
                            · skip
                              exact fk_some F39
                            · skip
                              refine fk_ite (fun c41 => ?_) (fun c41 => ?_)
                              · skip
                                exact fk_none
                              · skip
                                refine fk_ite (fun c42 => ?_) (fun c42 => ?_)
                                · skip
                                  exact fk_some F39
                                · skip
                                  exact fk_some F39
                          · skip
                            refine fk_ite (fun c43 => ?_) (fun c43 => ?_)
                            · skip
                              exact fk_none
                            · skip
                              refine fk_ite (fun c44 => ?_) (fun c44 => ?_)
                              · skip
                                exact fk_some (fr_rfl _ _ _)
                              · skip
                                refine fk_oc (fr_rfl _ _ _) (K_Model_isJoint ) (fun v56 I56 J56 F45 => ?_)
                                refine fk_ite (fun c46 => ?_) (fun c46 => ?_)
                                · skip
                                  exact fk_some F45
                                · skip
                                  refine fk_ite (fun c47 => ?_) (fun c47 => ?_)
                                  · skip
                                    exact fk_none
                                  · skip
                                    refine fk_ite (fun c48 => ?_) (fun c48 => ?_)
                                    · skip
                                      exact fk_some F45
                                    · skip
                                      exact fk_some F45
                        · skip
                          refine fk_ite (fun c49 => ?_) (fun c49 => ?_)
                          · skip
                            exact fk_none
                          · skip
                            refine fk_pv (fun v62 => ?_)
                            refine fk_ite (fun c50 => ?_) (fun c50 => ?_)
                            · skip
                              exact fk_some (fr_rfl _ _ _)
                            · skip
                              exact fk_some (fr_rfl _ _ _)
                    · skip
                      refine fk_ite (fun c51 => ?_) (fun c51 => ?_)
                      · skip
                        exact fk_none
                      · skip
                        refine fk_ite (fun c52 => ?_) (fun c52 => ?_)
                        · skip
                          exact fk_some (fr_rfl _ _ _)
                        · skip
                          exact fk_some (fr_rfl _ _ _)
                  · skip
                    refine fk_ite (fun c53 => ?_) (fun c53 => ?_)
                    · skip
                      exact fk_none
                    · skip
                      refine fk_ite (fun c54 => ?_) (fun c54 => ?_)
                      · skip
                        exact fk_some (fr_rfl _ _ _)
                      · skip
                        exact fk_some (fr_rfl _ _ _)
                · skip
                  refine fk_ite (fun c55 => ?_) (fun c55 => ?_)
                  · skip
                    exact fk_none
                  · skip
                    refine fk_ite (fun c56 => ?_) (fun c56 => ?_)
                    · skip
                      exact fk_none
                    · skip
                      refine fk_ite (fun c57 => ?_) (fun c57 => ?_)
                      · skip
                        refine fk_ite (fun c58 => ?_) (fun c58 => ?_)
                        · skip
                          exact fk_none
                        · skip
                          refine fk_ite (fun c59 => ?_) (fun c59 => ?_)
                          · skip
                            exact fk_some (fr_rfl _ _ _)
                          · skip
                            exact fk_some (fr_rfl _ _ _)
                      · skip
                        exact fk_some (fr_rfl _ _ _)
          · skip
            exact fk_some (fr_rfl _ _ _)
      · skip
        refine fk_ite (fun c60 => ?_) (fun c60 => ?_)
        · skip
          refine fk_ite (fun c61 => ?_) (fun c61 => ?_)
          · skip
            exact fk_none
          · skip
            refine fk_ite (fun c62 => ?_) (fun c62 => ?_)
            · skip
              refine fk_ite (fun c63 => ?_) (fun c63 => ?_)
              · skip
                refine fk_ite (fun c64 => ?_) (fun c64 => ?_)
                · skip
                  refine fk_ite (fun c65 => ?_) (fun c65 => ?_)
                  · skip
                    refine fk_ite (fun c66 => ?_) (fun c66 => ?_)
                    · skip
                      refine fk_ite (fun c67 => ?_) (fun c67 => ?_)
                      · skip
                        exact fk_none
                      · skip
                        refine fk_pv (fun v83 => ?_)
                        refine fk_ite (fun c68 => ?_) (fun c68 => ?_)
                        · skip
                          exact fk_some (fr_rfl _ _ _)
                        · skip
                          exact fk_some (fr_rfl _ _ _)
                    · skip
                      refine fk_ite (fun c69 => ?_) (fun c69 => ?_)
                      · skip
                        refine fk_ite (fun c70 => ?_) (fun c70 => ?_)
                        · skip
                          refine fk_oc (fr_rfl _ _ _) (K_Model_isJoint ) (fun v88 I88 J88 F71 => ?_)
                          refine fk_ite (fun c72 => ?_) (fun c72 => ?_)
                          · skip
                            exact fk_some F71
                          · skip
                            refine fk_ite (fun c73 => ?_) (fun c73 => ?_)
                            · skip
                              exact fk_none
                            · skip
                              refine fk_ite (fun c74 => ?_) (fun c74 => ?_)
                              · skip
                                exact fk_some F71
                              · skip
                                exact fk_some F71
                        · skip
                          refine fk_ite (fun c75 => ?_) (fun c75 => ?_)
                          · skip
                            exact fk_none
                          · skip
                            refine fk_ite (fun c76 => ?_) (fun c76 => ?_)
                            · skip
                              exact fk_some (fr_rfl _ _ _)
                            · skip
                              refine fk_oc (fr_rfl _ _ _) (K_Model_isJoint ) (fun v94 I94 J94 F77 => ?_)
                              refine fk_ite (fun c78 => ?_) (fun c78 => ?_)
                              · skip
                                exact fk_some F77
                              · skip
                                refine fk_ite (fun c79 => ?_) (fun c79 => ?_)
                                · skip
                                  exact fk_none
                                · skip
                                  refine fk_ite (fun c80 => ?_) (fun c80 => ?_)
                                  · skip
                                    exact fk_some F77
                                  · skip
                                    exact fk_some F77
                      · skip
                        refine fk_ite (fun c81 => ?_) (fun c81 => ?_)
                        · skip
                          exact fk_none
                        · skip
                          refine fk_pv (fun v100 => ?_)
                          refine fk_ite (fun c82 => ?_) (fun c82 => ?_)
                          · skip
                            exact fk_some (fr_rfl _ _ _)
                          · skip
                            exact fk_some (fr_rfl _ _ _)
                  · skip
                    refine fk_ite (fun c83 => ?_) (fun c83 => ?_)
                    · skip
                      exact fk_none
                    · skip
                      refine fk_ite (fun c84 => ?_) (fun c84 => ?_)
                      · skip
                        exact fk_some (fr_rfl _ _ _)
                      · skip
                        exact fk_some (fr_rfl _ _ _)
                · skip
                  refine fk_ite (fun c85 => ?_) (fun c85 => ?_)
                  · skip
                    exact fk_none
                  · skip
                    refine fk_ite (fun c86 => ?_) (fun c86 => ?_)
                    · skip
                      exact fk_some (fr_rfl _ _ _)
                    · skip
                      exact fk_some (fr_rfl _ _ _)
              · skip
                refine fk_ite (fun c87 => ?_) (fun c87 => ?_)
                · skip
                  exact fk_none
                · skip
                  refine fk_ite (fun c88 => ?_) (fun c88 => ?_)
                  · skip
                    refine fk_ite (fun c89 => ?_) (fun c89 => ?_)
                    · skip
                      refine fk_ite (fun c90 => ?_) (fun c90 => ?_)
                      · skip
                        refine fk_ite (fun c91 => ?_) (fun c91 => ?_)
                        · skip
                          refine fk_ite (fun c92 => ?_) (fun c92 => ?_)
                          · skip
                            exact fk_none
                          · skip
                            refine fk_pv (fun v114 => ?_)
                            refine fk_ite (fun c93 => ?_) (fun c93 => ?_)
                            · skip
                              exact fk_some (fr_rfl _ _ _)
                            · skip
                              exact fk_some (fr_rfl _ _ _)
                        · skip
                          refine fk_ite (fun c94 => ?_) (fun c94 => ?_)
                          · skip
                            refine fk_ite (fun c95 => ?_) (fun c95 => ?_)
                            · skip
                              refine fk_oc (fr_rfl _ _ _) (K_Model_isJoint ) (fun v119 I119 J119 F96 => ?_)
                              refine fk_ite (fun c97 => ?_) (fun c97 => ?_)
                              · skip
                                exact fk_some F96
                              · skip
                                refine fk_ite (fun c98 => ?_) (fun c98 => ?_)
                                · skip
                                  exact fk_none
                                · skip
                                  refine fk_ite (fun c99 => ?_) (fun c99 => ?_)
                                  · skip
                                    exact fk_some F96
                                  · skip
                                    exact fk_some F96
                            · skip
                              refine fk_ite (fun c100 => ?_) (fun c100 => ?_)
                              · skip
                                exact fk_none
                              · skip
                                refine fk_ite (fun c101 => ?_) (fun c101 => ?_)
                                · skip
                                  exact fk_some (fr_rfl _ _ _)
                                · skip
                                  refine fk_oc (fr_rfl _ _ _) (K_Model_isJoint ) (fun v125 I125 J125 F102 => ?_)
                                  refine fk_ite (fun c103 => ?_) (fun c103 => ?_)
                                  · skip
                                    exact fk_some F102
                                  · skip
                                    refine fk_ite (fun c104 => ?_) (fun c104 => ?_)
                                    · skip
                                      exact fk_none
                                    · skip
                                      refine fk_ite (fun c105 => ?_) (fun c105 => ?_)
                                      · skip
                                        exact fk_some F102
                                      · skip
                                        exact fk_some F102
                          · skip
                            refine fk_ite (fun c106 => ?_) (fun c106 => ?_)
                            · skip
                              exact fk_none
                            · skip
                              refine fk_pv (fun v131 => ?_)
                              refine fk_ite (fun c107 => ?_) (fun c107 => ?_)
                              · skip
                                exact fk_some (fr_rfl _ _ _)
                              · skip
                                exact fk_some (fr_rfl _ _ _)
                      · skip
                        refine fk_ite (fun c108 => ?_) (fun c108 => ?_)
                        · skip
                          exact fk_none
                        · skip
                          refine fk_ite (fun c109 => ?_) (fun c109 => ?_)
                          · skip
                            exact fk_some (fr_rfl _ _ _)
                          · skip
                            exact fk_some (fr_rfl _ _ _)
                    · skip
                      refine fk_ite (fun c110 => ?_) (fun c110 => ?_)
                      · skip
                        exact fk_none
                      · skip
                        refine fk_ite (fun c111 => ?_) (fun c111 => ?_)
                        · skip
                          exact fk_some (fr_rfl _ _ _)
                        · skip
                          exact fk_some (fr_rfl _ _ _)
                  · skip
                    refine fk_ite (fun c112 => ?_) (fun c112 => ?_)
                    · skip
                      exact fk_none
                    · skip
                      refine fk_ite (fun c113 => ?_) (fun c113 => ?_)
                      · skip
                        exact fk_none
                      · skip
                        refine fk_ite (fun c114 => ?_) (fun c114 => ?_)
                        · skip
                          refine fk_ite (fun c115 => ?_) (fun c115 => ?_)
                          · skip
                            exact fk_none
                          · skip
                            refine fk_ite (fun c116 => ?_) (fun c116 => ?_)
                            · skip
                              exact fk_some (fr_rfl _ _ _)
                            · skip
                              exact fk_some (fr_rfl _ _ _)
                        · skip
                          exact fk_some (fr_rfl _ _ _)
            · skip
              exact fk_some (fr_rfl _ _ _)
        · skip
          refine fk_ite (fun c117 => ?_) (fun c117 => ?_)
          · skip
            exact fk_none
          · skip
            refine fk_pv (fun v145 => ?_)
            refine fk_ite (fun c118 => ?_) (fun c118 => ?_)
            · skip
              exact fk_none
            · skip
              refine fk_pv (fun x148 => ?_)
              refine fk_ite (fun c119 => ?_) (fun c119 => ?_)
              · skip
                exact fk_some (fr_rfl _ _ _)
              · skip
                exact fk_some (fr_rfl _ _ _)
theorem K_Model_isFull_2 {p2 : Int32} : ∀ (fu : Nat) {l1 : Int32} {l2 : Int32} {I : MI} {J : MJ}, fk sM I J (f_Model_isFull_2 p2 fu l1 l2 I J) := by
  intro fu
  induction fu with
  | zero =>
    intros
    exact fk_none
  | succ fu ih =>
    intro l1 l2 I J 
    unfold f_Model_isFull_2
    refine fk_ite (fun c1 => ?_) (fun c1 => ?_)
    · skip
      exact fk_some (fr_rfl _ _ _)
    · skip
      refine fk_ite (fun c2 => ?_) (fun c2 => ?_)
      · skip
        exact fk_tail (fr_rfl _ _ _) (ih )
      · skip
        refine fk_ite (fun c3 => ?_) (fun c3 => ?_)
        · skip
          exact fk_none
        · skip
          refine fk_ite (fun c4 => ?_) (fun c4 => ?_)
          · skip
            exact fk_tail (fr_rfl _ _ _) (ih )
          · skip
            exact fk_some (fr_rfl _ _ _)
theorem K_Model_isFull {p2 : Int32} {I : MI} {J : MJ} : fk sM I J (f_Model_isFull p2 I J) := by
  unfold f_Model_isFull
  refine fk_oc (fr_rfl _ _ _) (K_Model_isFull_2  gF ) (fun q5 I5 J5 F1 => ?_)
  refine fk_oe (fun y5 => ?_) (fun u5 => ?_)
  · skip
    exact fk_some F1
  · skip
    exact fk_some F1
theorem K_Model_mails_12 {p2 : Int32} : ∀ (fu : Nat) {l1 : Int32} {l2 : Int32} {I : MI} {J : MJ}, fk sM I J (f_Model_mails_12 p2 fu l1 l2 I J) := by
  intro fu
  induction fu with
  | zero =>
    intros
    exact fk_none
  | succ fu ih =>
    intro l1 l2 I J 
    unfold f_Model_mails_12
    refine fk_ite (fun c1 => ?_) (fun c1 => ?_)
    · skip
      exact fk_some (fr_rfl _ _ _)
    · skip
      refine fk_ite (fun c2 => ?_) (fun c2 => ?_)
      · skip
        exact fk_none
      · skip
        refine fk_pv (fun v6 => ?_)
        refine fk_ite (fun c3 => ?_) (fun c3 => ?_)
        · skip
          exact fk_none
        · skip
          refine fk_pI (fr_rfl _ _ _) (by decide) (fun I9 F4 => ?_)
          exact fk_tail F4 (ih )
theorem K_Model_mails {p2 : Int32} {I : MI} {J : MJ} : fk sM I J (f_Model_mails p2 I J) := by
  unfold f_Model_mails
  refine fk_oc (fr_rfl _ _ _) (K_Model_isFull ) (fun v1 I1 J1 F1 => ?_)
  refine fk_ite (fun c2 => ?_) (fun c2 => ?_)
  · skip
    refine fk_oc F1 (K_Model_mails_12  gF ) (fun u10 I10 J10 F3 => ?_)
    refine fk_ite (fun c4 => ?_) (fun c4 => ?_)
    · skip
      exact fk_none
    · skip
      refine fk_ite (fun c5 => ?_) (fun c5 => ?_)
      · skip
        exact fk_none
      · skip
        refine fk_pI F3 (by decide) (fun I13 F6 => ?_)
        exact fk_some F6
  · skip
    exact fk_some F1
theorem K_Model_send_38 {p2 : Int32} {p3 : Int32} {p4 : Int64} : ∀ (fu : Nat) {l1 : Int32} {l2 : Int32} {l3 : Int64} {l5 : Int32} {l6 : Int32} {I : MI} {J : MJ}, fk sM I J (f_Model_send_38 p2 p3 p4 fu l1 l2 l3 l5 l6 I J) := by
  intro fu
  induction fu with
  | zero =>
    intros
    exact fk_none
  | succ fu ih =>
    intro l1 l2 l3 l5 l6 I J 
    unfold f_Model_send_38
    refine fk_ite (fun c1 => ?_) (fun c1 => ?_)
    · skip
      exact fk_some (fr_rfl _ _ _)
    · skip
      refine fk_ite (fun c2 => ?_) (fun c2 => ?_)
      · skip
        exact fk_none
      · skip
        refine fk_pI (fr_rfl _ _ _) (by decide) (fun I12 F3 => ?_)
        exact fk_tail F3 (ih )
theorem K_Model_send {p2 : Int32} {p3 : Int32} {p4 : Int64} {I : MI} {J : MJ} : fk sM I J (f_Model_send p2 p3 p4 I J) := by
  unfold f_Model_send
  refine fk_oc (fr_rfl _ _ _) (K_Model_mails ) (fun v1 I1 J1 F1 => ?_)
  refine fk_ite (fun c2 => ?_) (fun c2 => ?_)
  · skip
    refine fk_ite (fun c3 => ?_) (fun c3 => ?_)
    · skip
      exact fk_none
    · skip
      refine fk_pv (fun x4 => ?_)
      refine fk_oc F1 ?_ (fun v6 I6 J6 F4 => ?_)
      · skip
        refine fk_ite (fun c5 => ?_) (fun c5 => ?_)
        · skip
          exact fk_some (fr_rfl _ _ _)
        · skip
          refine fk_ite (fun c6 => ?_) (fun c6 => ?_)
          · skip
            exact fk_none
          · skip
            refine fk_pI (fr_rfl _ _ _) (by decide) (fun I9 F7 => ?_)
            refine fk_oc F7 (K_Model_send_38  gF ) (fun u13 I13 J13 F8 => ?_)
            refine fk_pI F8 (by decide) (fun I14 F9 => ?_)
            exact fk_some F9
      · skip
        refine fk_oc F4 ?_ (fun v16 I16 J16 F10 => ?_)
        · skip
          refine fk_ite (fun c11 => ?_) (fun c11 => ?_)
          · skip
            exact fk_some (fr_rfl _ _ _)
          · skip
            refine fk_ite (fun c12 => ?_) (fun c12 => ?_)
            · skip
              exact fk_none
            · skip
              refine fk_pJ (fr_rfl _ _ _) (by decide) (fun J19 F13 => ?_)
              exact fk_some F13
        · skip
          refine fk_ite (fun c14 => ?_) (fun c14 => ?_)
          · skip
            exact fk_none
          · skip
            refine fk_ite (fun c15 => ?_) (fun c15 => ?_)
            · skip
              exact fk_none
            · skip
              refine fk_pI F10 (by decide) (fun I22 F16 => ?_)
              refine fk_ite (fun c17 => ?_) (fun c17 => ?_)
              · skip
                exact fk_none
              · skip
                refine fk_ite (fun c18 => ?_) (fun c18 => ?_)
                · skip
                  exact fk_none
                · skip
                  refine fk_pI F16 (by decide) (fun I25 F19 => ?_)
                  exact fk_some F19
  · skip
    exact fk_some F1
theorem K_Model_receive_2 {p2 : Int32} {p3 : Int32} : ∀ (fu : Nat) {l1 : Int32} {l2 : Int32} {l3 : Int32} {I : MI} {J : MJ}, fk sM I J (f_Model_receive_2 p2 p3 fu l1 l2 l3 I J) := by
  intro fu
  induction fu with
  | zero =>
    intros
    exact fk_none
  | succ fu ih =>
    intro l1 l2 l3 I J 
    unfold f_Model_receive_2
    refine fk_ite (fun c1 => ?_) (fun c1 => ?_)
    · skip
      exact fk_some (fr_rfl _ _ _)
    · skip
      refine fk_ite (fun c2 => ?_) (fun c2 => ?_)
      · skip
        exact fk_tail (fr_rfl _ _ _) (ih )
      · skip
        refine fk_ite (fun c3 => ?_) (fun c3 => ?_)
        · skip
          refine fk_ite (fun c4 => ?_) (fun c4 => ?_)
          · skip
            exact fk_none
          · skip
            refine fk_ite (fun c5 => ?_) (fun c5 => ?_)
            · skip
              exact fk_tail (fr_rfl _ _ _) (ih )
            · skip
              exact fk_some (fr_rfl _ _ _)
        · skip
          refine fk_ite (fun c6 => ?_) (fun c6 => ?_)
          · skip
            exact fk_tail (fr_rfl _ _ _) (ih )
          · skip
            refine fk_ite (fun c7 => ?_) (fun c7 => ?_)
            · skip
              exact fk_none
            · skip
              refine fk_ite (fun c8 => ?_) (fun c8 => ?_)
              · skip
                exact fk_tail (fr_rfl _ _ _) (ih )
              · skip
                exact fk_some (fr_rfl _ _ _)
