theorem K_Model_receive_48 {p2 : Int32} {p3 : Int32} : ∀ (fu : Nat) {l1 : Int32} {l2 : Int32} {l3 : Int32} {I : MI} {J : MJ}, fk sM I J (f_Model_receive_48 p2 p3 fu l1 l2 l3 I J) := by
  intro fu
  induction fu with
  | zero =>
    intros
    exact fk_none
  | succ fu ih =>
    intro l1 l2 l3 I J 
    unfold f_Model_receive_48
    refine fk_ite (fun c1 => ?_) (fun c1 => ?_)
    · skip
      exact fk_some (fr_rfl _ _ _)
    · skip
      refine fk_ite (fun c2 => ?_) (fun c2 => ?_)
      · skip
        exact fk_none
      · skip
        refine fk_pv (fun v13 => ?_)
        refine fk_ite (fun c3 => ?_) (fun c3 => ?_)
        · skip
          exact fk_none
        · skip
          refine fk_pI (fr_rfl _ _ _) (by decide) (fun I18 F4 => ?_)
          exact fk_tail F4 (ih )
theorem K_Model_receive {p2 : Int32} {p3 : Int32} {I : MI} {J : MJ} : fk sM I J (f_Model_receive p2 p3 I J) := by
  unfold f_Model_receive
  refine fk_oc (fr_rfl _ _ _) (K_Model_receive_2  gF ) (fun q9 I9 J9 F1 => ?_)
  refine fk_oe (fun y9 => ?_) (fun u9 => ?_)
  · skip
    exact fk_some F1
  · skip
    refine fk_oc F1 (K_Model_receive_48  gF ) (fun u19 I19 J19 F2 => ?_)
    refine fk_ite (fun c3 => ?_) (fun c3 => ?_)
    · skip
      exact fk_none
    · skip
      refine fk_ite (fun c4 => ?_) (fun c4 => ?_)
      · skip
        exact fk_none
      · skip
        refine fk_pI F2 (by decide) (fun I22 F5 => ?_)
        exact fk_some F5
theorem K_Model_next {p2 : Int32} {I : MI} {J : MJ} : fk sM I J (f_Model_next p2 I J) := by
  unfold f_Model_next
  refine fk_ite (fun c1 => ?_) (fun c1 => ?_)
  · skip
    exact fk_none
  · skip
    refine fk_ite (fun c2 => ?_) (fun c2 => ?_)
    · skip
      exact fk_none
    · skip
      refine fk_ite (fun c3 => ?_) (fun c3 => ?_)
      · skip
        exact fk_none
      · skip
        refine fk_oc (fr_rfl _ _ _) (K_Model_longOf ) (fun v4 I4 J4 F4 => ?_)
        refine fk_ite (fun c5 => ?_) (fun c5 => ?_)
        · skip
          exact fk_none
        · skip
          refine fk_pI F4 (by decide) (fun I6 F6 => ?_)
          refine fk_ite (fun c7 => ?_) (fun c7 => ?_)
          · skip
            exact fk_none
          · skip
            refine fk_pI F6 (by decide) (fun I8 F8 => ?_)
            exact fk_some F8
theorem K_Model_sum_5 {p2 : Int32} {p3 : Int32} : ∀ (fu : Nat) {l1 : Int32} {l2 : Int32} {l3 : Int64} {l5 : Int32} {I : MI} {J : MJ}, fk sM I J (f_Model_sum_5 p2 p3 fu l1 l2 l3 l5 I J) := by
  intro fu
  induction fu with
  | zero =>
    intros
    exact fk_none
  | succ fu ih =>
    intro l1 l2 l3 l5 I J 
    unfold f_Model_sum_5
    refine fk_ite (fun c1 => ?_) (fun c1 => ?_)
    · skip
      exact fk_some (fr_rfl _ _ _)
    · skip
      refine fk_ite (fun c2 => ?_) (fun c2 => ?_)
      · skip
        exact fk_none
      · skip
        refine fk_oc (fr_rfl _ _ _) (K_Model_plus ) (fun v3 I3 J3 F3 => ?_)
        exact fk_tail F3 (ih )
theorem K_Model_sum_64 {p2 : Int32} {p3 : Int32} : ∀ (fu : Nat) {l1 : Int32} {l3 : Int64} {l5 : Int32} {l6 : Int64} {l8 : Int32} {l9 : Int32} {I : MI} {J : MJ}, fk sM I J (f_Model_sum_64 p2 p3 fu l1 l3 l5 l6 l8 l9 I J) := by
  intro fu
  induction fu with
  | zero =>
    intros
    exact fk_none
  | succ fu ih =>
    intro l1 l3 l5 l6 l8 l9 I J 
    unfold f_Model_sum_64
    refine fk_ite (fun c1 => ?_) (fun c1 => ?_)
    · skip
      exact fk_none
    · skip
      refine fk_oc (fr_rfl _ _ _) (K_Model_numbers ) (fun v10 I10 J10 F2 => ?_)
      refine fk_ite (fun c3 => ?_) (fun c3 => ?_)
      · skip
        exact fk_some F2
      · skip
        refine fk_oc F2 (K_Model_drawn ) (fun v12 I12 J12 F4 => ?_)
        refine fk_oc F4 (K_Model_error ) (fun v13 I13 J13 F5 => ?_)
        refine fk_oc F5 (K_Model_times ) (fun v14 I14 J14 F6 => ?_)
        refine fk_oc F6 (K_Model_plus ) (fun v15 I15 J15 F7 => ?_)
        exact fk_tail F7 (ih )
theorem K_Model_sum_50 {p2 : Int32} {p3 : Int32} : ∀ (fu : Nat) {l1 : Int32} {l3 : Int64} {l5 : Int32} {l6 : Int64} {l8 : Int32} {I : MI} {J : MJ}, fk sM I J (f_Model_sum_50 p2 p3 fu l1 l3 l5 l6 l8 I J) := by
  intro fu
  induction fu with
  | zero =>
    intros
    exact fk_none
  | succ fu ih =>
    intro l1 l3 l5 l6 l8 I J 
    unfold f_Model_sum_50
    refine fk_ite (fun c1 => ?_) (fun c1 => ?_)
    · skip
      exact fk_none
    · skip
      refine fk_ite (fun c2 => ?_) (fun c2 => ?_)
      · skip
        exact fk_some (fr_rfl _ _ _)
      · skip
        refine fk_oc (fr_rfl _ _ _) (K_Model_sum_64  gF ) (fun u16 I16 J16 F3 => ?_)
        exact fk_tail F3 (ih )
theorem K_Model_sum_166 {p2 : Int32} {p3 : Int32} : ∀ (fu : Nat) {l1 : Int32} {l8 : Int32} {I : MI} {J : MJ}, fk sM I J (f_Model_sum_166 p2 p3 fu l1 l8 I J) := by
  intro fu
  induction fu with
  | zero =>
    intros
    exact fk_none
  | succ fu ih =>
    intro l1 l8 I J 
    unfold f_Model_sum_166
    refine fk_ite (fun c1 => ?_) (fun c1 => ?_)
    · skip
      exact fk_some (fr_rfl _ _ _)
    · skip
      refine fk_pv (fun v30 => ?_)
      refine fk_ite (fun c2 => ?_) (fun c2 => ?_)
      · skip
        exact fk_none
      · skip
        refine fk_pI (fr_rfl _ _ _) (by decide) (fun I33 F3 => ?_)
        exact fk_tail F3 (ih )
theorem K_Model_sum {p2 : Int32} {p3 : Int32} {I : MI} {J : MJ} : fk sM I J (f_Model_sum p2 p3 I J) := by
  unfold f_Model_sum
  refine fk_oc (fr_rfl _ _ _) (K_Model_sum_5  gF ) (fun u4 I4 J4 F1 => ?_)
  refine fk_ite (fun c2 => ?_) (fun c2 => ?_)
  · skip
    exact fk_none
  · skip
    refine fk_pv (fun x6 => ?_)
    refine fk_oc F1 (K_Model_sum_50  gF ) (fun u17 I17 J17 F3 => ?_)
    refine fk_ite (fun c4 => ?_) (fun c4 => ?_)
    · skip
      exact fk_none
    · skip
      refine fk_ite (fun c5 => ?_) (fun c5 => ?_)
      · skip
        exact fk_none
      · skip
        refine fk_pI F3 (by decide) (fun I20 F6 => ?_)
        refine fk_ite (fun c7 => ?_) (fun c7 => ?_)
        · skip
          exact fk_none
        · skip
          refine fk_ite (fun c8 => ?_) (fun c8 => ?_)
          · skip
            exact fk_none
          · skip
            refine fk_pI F6 (by decide) (fun I23 F9 => ?_)
            refine fk_oc F9 (K_Model_times ) (fun v24 I24 J24 F10 => ?_)
            refine fk_ite (fun c11 => ?_) (fun c11 => ?_)
            · skip
              refine fk_ite (fun c12 => ?_) (fun c12 => ?_)
              · skip
                exact fk_none
              · skip
                refine fk_pI F10 (by decide) (fun I27 F13 => ?_)
                refine fk_oc F13 (K_Model_sum_166  gF ) (fun u34 I34 J34 F14 => ?_)
                exact fk_some F14
            · skip
              exact fk_some F10
theorem K_Model_row {p1 : Int32} {p2 : Int32} {I : MI} {J : MJ} : fk sM I J (f_Model_row p1 p2 I J) := by
  unfold f_Model_row
  exact fk_some (fr_rfl _ _ _)
theorem K_Model_received {p2 : Int32} {I : MI} {J : MJ} : fk sM I J (f_Model_received p2 I J) := by
  unfold f_Model_received
  refine fk_ite (fun c1 => ?_) (fun c1 => ?_)
  · skip
    exact fk_none
  · skip
    refine fk_ite (fun c2 => ?_) (fun c2 => ?_)
    · skip
      exact fk_none
    · skip
      refine fk_pI (fr_rfl _ _ _) (by decide) (fun I3 F3 => ?_)
      refine fk_oc F3 (K_Model_next ) (fun v4 I4 J4 F4 => ?_)
      exact fk_some F4
theorem K_Model_joint {p2 : Int32} {p3 : Int32} {I : MI} {J : MJ} : fk sM I J (f_Model_joint p2 p3 I J) := by
  unfold f_Model_joint
  refine fk_ite (fun c1 => ?_) (fun c1 => ?_)
  · skip
    exact fk_none
  · skip
    refine fk_ite (fun c2 => ?_) (fun c2 => ?_)
    · skip
      refine fk_oc (fr_rfl _ _ _) (K_Model_receive ) (fun v3 I3 J3 F3 => ?_)
      refine fk_ite (fun c4 => ?_) (fun c4 => ?_)
      · skip
        refine fk_ite (fun c5 => ?_) (fun c5 => ?_)
        · skip
          exact fk_none
        · skip
          refine fk_pv (fun x6 => ?_)
          refine fk_oc F3 (K_Model_pop ) (fun v7 I7 J7 F6 => ?_)
          refine fk_oc F6 ?_ (fun v11 I11 J11 F7 => ?_)
          · skip
            refine fk_ite (fun c8 => ?_) (fun c8 => ?_)
            · skip
              refine fk_oc (fr_rfl _ _ _) (K_Model_error ) (fun v13 I13 J13 F9 => ?_)
              refine fk_oc F9 (K_Model_plus ) (fun v14 I14 J14 F10 => ?_)
              exact fk_some F10
            · skip
              refine fk_oc (fr_rfl _ _ _) (K_Model_pop ) (fun v15 I15 J15 F11 => ?_)
              refine fk_oc F11 (K_Model_error ) (fun v16 I16 J16 F12 => ?_)
              refine fk_oc F12 (K_Model_plus ) (fun v17 I17 J17 F13 => ?_)
              exact fk_some F13
          · skip
            refine fk_oc F7 ?_ (fun v19 I19 J19 F14 => ?_)
            · skip
              refine fk_ite (fun c15 => ?_) (fun c15 => ?_)
              · skip
                exact fk_some (fr_rfl _ _ _)
              · skip
                refine fk_oc (fr_rfl _ _ _) (K_Model_error ) (fun v21 I21 J21 F16 => ?_)
                refine fk_oc F16 (K_Model_plus ) (fun v22 I22 J22 F17 => ?_)
                exact fk_some F17
            · skip
              refine fk_oc F14 (K_Model_times ) (fun v23 I23 J23 F18 => ?_)
              refine fk_oc F18 (K_Model_push ) (fun v24 I24 J24 F19 => ?_)
              refine fk_oc F19 (K_Model_received ) (fun v25 I25 J25 F20 => ?_)
              exact fk_some F20
      · skip
        exact fk_some F3
    · skip
      refine fk_pv (fun v27 => ?_)
      refine fk_oc (fr_rfl _ _ _) (K_Model_send ) (fun v29 I29 J29 F21 => ?_)
      refine fk_ite (fun c22 => ?_) (fun c22 => ?_)
      · skip
        refine fk_oc F21 ?_ (fun v35 I35 J35 F23 => ?_)
        · skip
          refine fk_ite (fun c24 => ?_) (fun c24 => ?_)
          · skip
            refine fk_ite (fun c25 => ?_) (fun c25 => ?_)
            · skip
              exact fk_none
            · skip
              refine fk_ite (fun c26 => ?_) (fun c26 => ?_)
              · skip
                exact fk_none
              · skip
                refine fk_pI (fr_rfl _ _ _) (by decide) (fun I39 F27 => ?_)
                exact fk_some F27
          · skip
            refine fk_ite (fun c28 => ?_) (fun c28 => ?_)
            · skip
              exact fk_none
            · skip
              refine fk_ite (fun c29 => ?_) (fun c29 => ?_)
              · skip
                exact fk_none
              · skip
                refine fk_pI (fr_rfl _ _ _) (by decide) (fun I42 F30 => ?_)
                exact fk_some F30
        · skip
          refine fk_ite (fun c31 => ?_) (fun c31 => ?_)
          · skip
            exact fk_none
          · skip
            refine fk_pI F23 (by decide) (fun I44 F32 => ?_)
            exact fk_some F32
      · skip
        exact fk_some F21
theorem K_Model_input {p2 : Int32} {p3 : Int32} {p4 : Int32} {I : MI} {J : MJ} : fk sM I J (f_Model_input p2 p3 p4 I J) := by
  unfold f_Model_input
  refine fk_ite (fun c1 => ?_) (fun c1 => ?_)
  · skip
    refine fk_oc (fr_rfl _ _ _) (K_Model_receive ) (fun v2 I2 J2 F2 => ?_)
    refine fk_ite (fun c3 => ?_) (fun c3 => ?_)
    · skip
      refine fk_ite (fun c4 => ?_) (fun c4 => ?_)
      · skip
        exact fk_none
      · skip
        refine fk_ite (fun c5 => ?_) (fun c5 => ?_)
        · skip
          exact fk_none
        · skip
          refine fk_ite (fun c6 => ?_) (fun c6 => ?_)
          · skip
            exact fk_none
          · skip
            refine fk_oc F2 (K_Model_error ) (fun v7 I7 J7 F7 => ?_)
            refine fk_oc F7 (K_Model_plus ) (fun v8 I8 J8 F8 => ?_)
            refine fk_ite (fun c9 => ?_) (fun c9 => ?_)
            · skip
              exact fk_none
            · skip
              refine fk_pJ F8 (by decide) (fun J10 F10 => ?_)
              refine fk_oc F10 (K_Model_received ) (fun v11 I11 J11 F11 => ?_)
              exact fk_some F11
    · skip
      exact fk_some F2
  · skip
    refine fk_ite (fun c12 => ?_) (fun c12 => ?_)
    · skip
      exact fk_none
    · skip
      refine fk_ite (fun c13 => ?_) (fun c13 => ?_)
      · skip
        refine fk_oc (fr_rfl _ _ _) (K_Model_receive ) (fun v14 I14 J14 F14 => ?_)
        refine fk_ite (fun c15 => ?_) (fun c15 => ?_)
        · skip
          refine fk_ite (fun c16 => ?_) (fun c16 => ?_)
          · skip
            exact fk_none
          · skip
            refine fk_ite (fun c17 => ?_) (fun c17 => ?_)
            · skip
              exact fk_none
            · skip
              refine fk_ite (fun c18 => ?_) (fun c18 => ?_)
              · skip
                exact fk_none
              · skip
                refine fk_oc F14 (K_Model_error ) (fun v19 I19 J19 F19 => ?_)
                refine fk_oc F19 (K_Model_plus ) (fun v20 I20 J20 F20 => ?_)
                refine fk_ite (fun c21 => ?_) (fun c21 => ?_)
                · skip
                  exact fk_none
                · skip
                  refine fk_pJ F20 (by decide) (fun J22 F22 => ?_)
                  refine fk_oc F22 (K_Model_received ) (fun v23 I23 J23 F23 => ?_)
                  exact fk_some F23
        · skip
          exact fk_some F14
      · skip
        refine fk_ite (fun c24 => ?_) (fun c24 => ?_)
        · skip
          exact fk_none
        · skip
          refine fk_ite (fun c25 => ?_) (fun c25 => ?_)
          · skip
            exact fk_none
          · skip
            refine fk_oc (fr_rfl _ _ _) (K_Model_send ) (fun v26 I26 J26 F26 => ?_)
            refine fk_ite (fun c27 => ?_) (fun c27 => ?_)
            · skip
              refine fk_ite (fun c28 => ?_) (fun c28 => ?_)
              · skip
                exact fk_none
              · skip
                refine fk_ite (fun c29 => ?_) (fun c29 => ?_)
                · skip
                  exact fk_none
                · skip
                  refine fk_pI F26 (by decide) (fun I30 F30 => ?_)
                  refine fk_ite (fun c31 => ?_) (fun c31 => ?_)
                  · skip
                    exact fk_none
                  · skip
                    refine fk_ite (fun c32 => ?_) (fun c32 => ?_)
                    · skip
                      exact fk_none
                    · skip
                      refine fk_pI F30 (by decide) (fun I33 F33 => ?_)
                      refine fk_ite (fun c34 => ?_) (fun c34 => ?_)
                      · skip
                        exact fk_none
                      · skip
                        refine fk_pI F33 (by decide) (fun I35 F35 => ?_)
                        exact fk_some F35
            · skip
              exact fk_some F26
theorem K_Model_open {p2 : Int32} {p3 : Int32} {p4 : Int32} {I : MI} {J : MJ} : fk sM I J (f_Model_open p2 p3 p4 I J) := by
  unfold f_Model_open
  refine fk_ite (fun c1 => ?_) (fun c1 => ?_)
  · skip
    exact fk_none
  · skip
    refine fk_ite (fun c2 => ?_) (fun c2 => ?_)
    · skip
      refine fk_oc (fr_rfl _ _ _) (K_Model_receive ) (fun v3 I3 J3 F3 => ?_)
      refine fk_ite (fun c4 => ?_) (fun c4 => ?_)
      · skip
        refine fk_ite (fun c5 => ?_) (fun c5 => ?_)
        · skip
          exact fk_none
        · skip
          refine fk_ite (fun c6 => ?_) (fun c6 => ?_)
          · skip
            exact fk_none
          · skip
            refine fk_oc F3 (K_Model_error ) (fun v7 I7 J7 F7 => ?_)
            refine fk_oc F7 (K_Model_plus ) (fun v8 I8 J8 F8 => ?_)
            refine fk_ite (fun c9 => ?_) (fun c9 => ?_)
            · skip
              exact fk_none
            · skip
              refine fk_pJ F8 (by decide) (fun J10 F10 => ?_)
              refine fk_oc F10 (K_Model_received ) (fun v11 I11 J11 F11 => ?_)
              exact fk_some F11
      · skip
        exact fk_some F3
    · skip
      refine fk_oc (fr_rfl _ _ _) (K_Model_send ) (fun v12 I12 J12 F12 => ?_)
      refine fk_ite (fun c13 => ?_) (fun c13 => ?_)
      · skip
        refine fk_ite (fun c14 => ?_) (fun c14 => ?_)
        · skip
          exact fk_none
        · skip
          refine fk_pI F12 (by decide) (fun I15 F15 => ?_)
          exact fk_some F15
      · skip
        exact fk_some F12
theorem K_Model_rows_130 {p2 : Int32} {p3 : Int32} : ∀ (fu : Nat) {l1 : Int32} {l2 : Int32} {l3 : Int32} {l4 : Int32} {l5 : Int32} {l6 : Int32} {l7 : Int64} {l9 : Int32} {I : MI} {J : MJ}, fk sM I J (f_Model_rows_130 p2 p3 fu l1 l2 l3 l4 l5 l6 l7 l9 I J) := by
  intro fu
  induction fu with
  | zero =>
    intros
    exact fk_none
  | succ fu ih =>
    intro l1 l2 l3 l4 l5 l6 l7 l9 I J 
    unfold f_Model_rows_130
    refine fk_ite (fun c1 => ?_) (fun c1 => ?_)
    · skip
      exact fk_some (fr_rfl _ _ _)
    · skip
      refine fk_oc (fr_rfl _ _ _) ?_ (fun v19 I19 J19 F2 => ?_)
      · skip
        refine fk_ite (fun c3 => ?_) (fun c3 => ?_)
        · skip
          refine fk_ite (fun c4 => ?_) (fun c4 => ?_)
          · skip
            exact fk_none
          · skip
            exact fk_some (fr_rfl _ _ _)
        · skip
          refine fk_ite (fun c5 => ?_) (fun c5 => ?_)
          · skip
            exact fk_none
          · skip
            refine fk_ite (fun c6 => ?_) (fun c6 => ?_)
            · skip
              exact fk_none
            · skip
              refine fk_oc (fr_rfl _ _ _) (K_Model_error ) (fun v24 I24 J24 F7 => ?_)
              refine fk_oc F7 (K_Model_plus ) (fun v25 I25 J25 F8 => ?_)
              exact fk_some F8
      · skip
        refine fk_oc F2 ?_ (fun v28 I28 J28 F9 => ?_)
        · skip
          refine fk_ite (fun c10 => ?_) (fun c10 => ?_)
          · skip
            refine fk_ite (fun c11 => ?_) (fun c11 => ?_)
            · skip
              exact fk_none
            · skip
              exact fk_some (fr_rfl _ _ _)
          · skip
            refine fk_ite (fun c12 => ?_) (fun c12 => ?_)
            · skip
              exact fk_none
            · skip
              refine fk_ite (fun c13 => ?_) (fun c13 => ?_)
              · skip
                exact fk_none
              · skip
                refine fk_oc (fr_rfl _ _ _) (K_Model_error ) (fun v33 I33 J33 F14 => ?_)
                refine fk_oc F14 (K_Model_plus ) (fun v34 I34 J34 F15 => ?_)
                exact fk_some F15
        · skip
          refine fk_oc F9 ?_ (fun v38 I38 J38 F16 => ?_)
          · skip
            refine fk_ite (fun c17 => ?_) (fun c17 => ?_)
            · skip
              refine fk_ite (fun c18 => ?_) (fun c18 => ?_)
              · skip
                refine fk_oc (fr_rfl _ _ _) (K_Model_times ) (fun v41 I41 J41 F19 => ?_)
                exact fk_some F19
              · skip
                refine fk_oc (fr_rfl _ _ _) (K_Model_minus ) (fun v42 I42 J42 F20 => ?_)
                exact fk_some F20
            · skip
              refine fk_oc (fr_rfl _ _ _) (K_Model_plus ) (fun v43 I43 J43 F21 => ?_)
              exact fk_some F21
          · skip
            refine fk_oc F16 (K_Model_plus ) (fun v44 I44 J44 F22 => ?_)
            refine fk_ite (fun c23 => ?_) (fun c23 => ?_)
            · skip
              exact fk_tail F22 (ih )
            · skip
              refine fk_ite (fun c24 => ?_) (fun c24 => ?_)
              · skip
                exact fk_none
              · skip
                refine fk_oc F22 (K_Model_row ) (fun v47 I47 J47 F25 => ?_)
                refine fk_ite (fun c26 => ?_) (fun c26 => ?_)
                · skip
                  exact fk_none
                · skip
                  refine fk_pJ F25 (by decide) (fun J49 F27 => ?_)
                  exact fk_tail F27 (ih )
theorem K_Model_rows {p2 : Int32} {p3 : Int32} {I : MI} {J : MJ} : fk sM I J (f_Model_rows p2 p3 I J) := by
  unfold f_Model_rows
  refine fk_ite (fun c1 => ?_) (fun c1 => ?_)
  · skip
    exact fk_none
  · skip
    refine fk_pv (fun x2 => ?_)
    refine fk_oc (fr_rfl _ _ _) (K_Model_isJoint ) (fun v3 I3 J3 F2 => ?_)
    refine fk_ite (fun c3 => ?_) (fun c3 => ?_)
    · skip
      refine fk_ite (fun c4 => ?_) (fun c4 => ?_)
      · skip
        refine fk_pv (fun v7 => ?_)
        refine fk_ite (fun c5 => ?_) (fun c5 => ?_)
        · skip
          exact fk_none
        · skip
          refine fk_oc F2 (K_Model_row ) (fun v10 I10 J10 F6 => ?_)
          refine fk_pv (fun v12 => ?_)
          refine fk_ite (fun c7 => ?_) (fun c7 => ?_)
          · skip
            exact fk_none
          · skip
            refine fk_oc F6 (K_Model_row ) (fun v15 I15 J15 F8 => ?_)
            refine fk_oc F8 (K_Model_rows_130  gF ) (fun u50 I50 J50 F9 => ?_)
            refine fk_oc F9 ?_ (fun v52 I52 J52 F10 => ?_)
            · skip
              refine fk_ite (fun c11 => ?_) (fun c11 => ?_)
              · skip
                exact fk_some (fr_rfl _ _ _)
              · skip
                refine fk_oc (fr_rfl _ _ _) (K_Model_push ) (fun v54 I54 J54 F12 => ?_)
                exact fk_some F12
            · skip
              refine fk_ite (fun c13 => ?_) (fun c13 => ?_)
              · skip
                refine fk_oc F10 (K_Model_next ) (fun v56 I56 J56 F14 => ?_)
                exact fk_some F14
              · skip
                refine fk_oc F10 (K_Model_received ) (fun v57 I57 J57 F15 => ?_)
                exact fk_some F15
      · skip
        refine fk_oc F2 (K_Model_receive ) (fun v58 I58 J58 F16 => ?_)
        refine fk_ite (fun c17 => ?_) (fun c17 => ?_)
        · skip
          refine fk_pv (fun v61 => ?_)
          refine fk_ite (fun c18 => ?_) (fun c18 => ?_)
          · skip
            exact fk_none
          · skip
            refine fk_oc F16 (K_Model_row ) (fun v64 I64 J64 F19 => ?_)
            refine fk_pv (fun v66 => ?_)
            refine fk_ite (fun c20 => ?_) (fun c20 => ?_)
            · skip
              exact fk_none
            · skip
              refine fk_oc F19 (K_Model_row ) (fun v69 I69 J69 F21 => ?_)
              refine fk_oc F21 (K_Model_rows_130  gF ) (fun u70 I70 J70 F22 => ?_)
              refine fk_oc F22 ?_ (fun v72 I72 J72 F23 => ?_)
              · skip
                refine fk_ite (fun c24 => ?_) (fun c24 => ?_)
                · skip
                  exact fk_some (fr_rfl _ _ _)
                · skip
                  refine fk_oc (fr_rfl _ _ _) (K_Model_push ) (fun v74 I74 J74 F25 => ?_)
                  exact fk_some F25
              · skip
                refine fk_ite (fun c26 => ?_) (fun c26 => ?_)
                · skip
                  refine fk_oc F23 (K_Model_next ) (fun v76 I76 J76 F27 => ?_)
                  exact fk_some F27
                · skip
                  refine fk_oc F23 (K_Model_received ) (fun v77 I77 J77 F28 => ?_)
                  exact fk_some F28
        · skip
          exact fk_some F16
    · skip
      refine fk_ite (fun c29 => ?_) (fun c29 => ?_)
      · skip
        exact fk_none
      · skip
        refine fk_ite (fun c30 => ?_) (fun c30 => ?_)
        · skip
          refine fk_ite (fun c31 => ?_) (fun c31 => ?_)
          · skip
            refine fk_pv (fun v82 => ?_)
            refine fk_ite (fun c32 => ?_) (fun c32 => ?_)
            · skip
              exact fk_none
            · skip
              refine fk_oc F2 (K_Model_row ) (fun v85 I85 J85 F33 => ?_)
              refine fk_pv (fun v87 => ?_)
              refine fk_ite (fun c34 => ?_) (fun c34 => ?_)
              · skip
                exact fk_none
              · skip
                refine fk_oc F33 (K_Model_row ) (fun v90 I90 J90 F35 => ?_)
                refine fk_oc F35 (K_Model_rows_130  gF ) (fun u91 I91 J91 F36 => ?_)
                refine fk_oc F36 ?_ (fun v93 I93 J93 F37 => ?_)
                · skip
                  refine fk_ite (fun c38 => ?_) (fun c38 => ?_)
                  · skip
                    exact fk_some (fr_rfl _ _ _)
                  · skip
                    refine fk_oc (fr_rfl _ _ _) (K_Model_push ) (fun v95 I95 J95 F39 => ?_)
                    exact fk_some F39
                · skip
                  refine fk_ite (fun c40 => ?_) (fun c40 => ?_)
                  · skip
                    refine fk_oc F37 (K_Model_next ) (fun v97 I97 J97 F41 => ?_)
                    exact fk_some F41
                  · skip
                    refine fk_oc F37 (K_Model_received ) (fun v98 I98 J98 F42 => ?_)
                    exact fk_some F42
          · skip
            refine fk_oc F2 (K_Model_receive ) (fun v99 I99 J99 F43 => ?_)
            refine fk_ite (fun c44 => ?_) (fun c44 => ?_)
            · skip
              refine fk_pv (fun v102 => ?_)
              refine fk_ite (fun c45 => ?_) (fun c45 => ?_)
              · skip
                exact fk_none
              · skip
                refine fk_oc F43 (K_Model_row ) (fun v105 I105 J105 F46 => ?_)
                refine fk_pv (fun v107 => ?_)
                refine fk_ite (fun c47 => ?_) (fun c47 => ?_)
                · skip
                  exact fk_none
                · skip
                  refine fk_oc F46 (K_Model_row ) (fun v110 I110 J110 F48 => ?_)
                  refine fk_oc F48 (K_Model_rows_130  gF ) (fun u111 I111 J111 F49 => ?_)
                  refine fk_oc F49 ?_ (fun v113 I113 J113 F50 => ?_)
                  · skip
                    refine fk_ite (fun c51 => ?_) (fun c51 => ?_)
                    · skip
                      exact fk_some (fr_rfl _ _ _)
                    · skip
                      refine fk_oc (fr_rfl _ _ _) (K_Model_push ) (fun v115 I115 J115 F52 => ?_)
                      exact fk_some F52
                  · skip
                    refine fk_ite (fun c53 => ?_) (fun c53 => ?_)
                    · skip
                      refine fk_oc F50 (K_Model_next ) (fun v117 I117 J117 F54 => ?_)
                      exact fk_some F54
                    · skip
                      refine fk_oc F50 (K_Model_received ) (fun v118 I118 J118 F55 => ?_)
                      exact fk_some F55
            · skip
              exact fk_some F43
        · skip
          refine fk_oc F2 (K_Model_send ) (fun v119 I119 J119 F56 => ?_)
          refine fk_ite (fun c57 => ?_) (fun c57 => ?_)
          · skip
            refine fk_ite (fun c58 => ?_) (fun c58 => ?_)
            · skip
              exact fk_none
            · skip
              refine fk_ite (fun c59 => ?_) (fun c59 => ?_)
              · skip
                exact fk_none
              · skip
                refine fk_pI F56 (by decide) (fun I123 F60 => ?_)
                refine fk_ite (fun c61 => ?_) (fun c61 => ?_)
                · skip
                  exact fk_none
                · skip
                  refine fk_pI F60 (by decide) (fun I125 F62 => ?_)
                  exact fk_some F62
          · skip
            exact fk_some F56
theorem K_Model_brings {p2 : Int32} {p3 : Int32} {I : MI} {J : MJ} : fk sM I J (f_Model_brings p2 p3 I J) := by
  unfold f_Model_brings
  refine fk_pv (fun x1 => ?_)
  refine fk_ite (fun c1 => ?_) (fun c1 => ?_)
  · skip
    exact fk_none
  · skip
    refine fk_ite (fun c2 => ?_) (fun c2 => ?_)
    · skip
      refine fk_ite (fun c3 => ?_) (fun c3 => ?_)
      · skip
        exact fk_none
      · skip
        refine fk_ite (fun c4 => ?_) (fun c4 => ?_)
        · skip
          refine fk_ite (fun c5 => ?_) (fun c5 => ?_)
          · skip
            exact fk_none
          · skip
            refine fk_pI (fr_rfl _ _ _) (by decide) (fun I7 F6 => ?_)
            refine fk_ite (fun c7 => ?_) (fun c7 => ?_)
            · skip
              exact fk_none
            · skip
              refine fk_oc F6 ?_ (fun v10 I10 J10 F8 => ?_)
              · skip
                refine fk_ite (fun c9 => ?_) (fun c9 => ?_)
                · skip
                  exact fk_some (fr_rfl _ _ _)
                · skip
                  refine fk_oc (fr_rfl _ _ _) (K_Model_statusOf ) (fun v12 I12 J12 F10 => ?_)
                  refine fk_ite (fun c11 => ?_) (fun c11 => ?_)
                  · skip
                    exact fk_some F10
                  · skip
                    exact fk_some F10
              · skip
                refine fk_ite (fun c12 => ?_) (fun c12 => ?_)
                · skip
                  exact fk_none
                · skip
                  refine fk_pI F8 (by decide) (fun I15 F13 => ?_)
                  exact fk_some F13
        · skip
          exact fk_some (fr_rfl _ _ _)
    · skip
      refine fk_ite (fun c14 => ?_) (fun c14 => ?_)
      · skip
        exact fk_none
      · skip
        refine fk_ite (fun c15 => ?_) (fun c15 => ?_)
        · skip
          exact fk_none
        · skip
          refine fk_pI (fr_rfl _ _ _) (by decide) (fun I18 F16 => ?_)
          refine fk_ite (fun c17 => ?_) (fun c17 => ?_)
          · skip
            exact fk_none
          · skip
            refine fk_ite (fun c18 => ?_) (fun c18 => ?_)
            · skip
              exact fk_none
            · skip
              refine fk_pI F16 (by decide) (fun I21 F19 => ?_)
              exact fk_some F19
theorem K_Model_deliver {p2 : Int32} {p3 : Int32} {I : MI} {J : MJ} : fk sM I J (f_Model_deliver p2 p3 I J) := by
  unfold f_Model_deliver
  refine fk_pI (fr_rfl _ _ _) (by decide) (fun I1 F1 => ?_)
  refine fk_ite (fun c2 => ?_) (fun c2 => ?_)
  · skip
    exact fk_some F1
  · skip
    refine fk_oc F1 (K_Model_isParty ) (fun v3 I3 J3 F3 => ?_)
    refine fk_ite (fun c4 => ?_) (fun c4 => ?_)
    · skip
      exact fk_some F3
    · skip
      refine fk_oc F3 (K_Model_isParty ) (fun v5 I5 J5 F5 => ?_)
      refine fk_ite (fun c6 => ?_) (fun c6 => ?_)
      · skip
        exact fk_some F5
      · skip
        refine fk_ite (fun c7 => ?_) (fun c7 => ?_)
        · skip
          exact fk_some F5
        · skip
          refine fk_oc F5 (K_Model_brings ) (fun v8 I8 J8 F8 => ?_)
          refine fk_ite (fun c9 => ?_) (fun c9 => ?_)
          · skip
            exact fk_some F8
          · skip
            exact fk_some F8
theorem K_Model_party {p2 : Int32} {p3 : Int32} {I : MI} {J : MJ} : fk sM I J (f_Model_party p2 p3 I J) := by
  unfold f_Model_party
  refine fk_pI (fr_rfl _ _ _) (by decide) (fun I1 F1 => ?_)
  refine fk_oc F1 (K_Model_isParty ) (fun v2 I2 J2 F2 => ?_)
  refine fk_ite (fun c3 => ?_) (fun c3 => ?_)
  · skip
    refine fk_oc F2 (K_Model_statusOf ) (fun v4 I4 J4 F4 => ?_)
    refine fk_ite (fun c5 => ?_) (fun c5 => ?_)
    · skip
      refine fk_ite (fun c6 => ?_) (fun c6 => ?_)
      · skip
        refine fk_ite (fun c7 => ?_) (fun c7 => ?_)
        · skip
          exact fk_some F4
        · skip
          refine fk_ite (fun c8 => ?_) (fun c8 => ?_)
          · skip
            refine fk_ite (fun c9 => ?_) (fun c9 => ?_)
            · skip
              exact fk_some F4
            · skip
              refine fk_ite (fun c10 => ?_) (fun c10 => ?_)
              · skip
                exact fk_none
              · skip
                exact fk_some F4
          · skip
            refine fk_ite (fun c11 => ?_) (fun c11 => ?_)
            · skip
              refine fk_ite (fun c12 => ?_) (fun c12 => ?_)
              · skip
                exact fk_some F4
              · skip
                refine fk_ite (fun c13 => ?_) (fun c13 => ?_)
                · skip
                  exact fk_none
                · skip
                  exact fk_some F4
            · skip
              refine fk_ite (fun c14 => ?_) (fun c14 => ?_)
              · skip
                refine fk_ite (fun c15 => ?_) (fun c15 => ?_)
                · skip
                  exact fk_some F4
                · skip
                  refine fk_ite (fun c16 => ?_) (fun c16 => ?_)
                  · skip
                    exact fk_none
                  · skip
                    exact fk_some F4
              · skip
                refine fk_ite (fun c17 => ?_) (fun c17 => ?_)
                · skip
                  refine fk_ite (fun c18 => ?_) (fun c18 => ?_)
                  · skip
                    exact fk_some F4
                  · skip
                    refine fk_ite (fun c19 => ?_) (fun c19 => ?_)
                    · skip
                      exact fk_none
                    · skip
                      exact fk_some F4
                · skip
                  refine fk_ite (fun c20 => ?_) (fun c20 => ?_)
                  · skip
                    refine fk_ite (fun c21 => ?_) (fun c21 => ?_)
                    · skip
                      exact fk_none
                    · skip
                      exact fk_some F4
                  · skip
                    refine fk_ite (fun c22 => ?_) (fun c22 => ?_)
                    · skip
                      refine fk_ite (fun c23 => ?_) (fun c23 => ?_)
                      · skip
                        exact fk_none
                      · skip
                        refine fk_ite (fun c24 => ?_) (fun c24 => ?_)
                        · skip
                          exact fk_none
                        · skip
                          exact fk_some F4
                    · skip
                      refine fk_ite (fun c25 => ?_) (fun c25 => ?_)
                      · skip
                        refine fk_ite (fun c26 => ?_) (fun c26 => ?_)
                        · skip
                          exact fk_some F4
                        · skip
                          refine fk_ite (fun c27 => ?_) (fun c27 => ?_)
                          · skip
                            exact fk_none
                          · skip
                            exact fk_some F4
                      · skip
                        refine fk_ite (fun c28 => ?_) (fun c28 => ?_)
                        · skip
                          refine fk_ite (fun c29 => ?_) (fun c29 => ?_)
                          · skip
                            exact fk_some F4
                          · skip
                            refine fk_ite (fun c30 => ?_) (fun c30 => ?_)
                            · skip
                              exact fk_none
                            · skip
                              exact fk_some F4
                        · skip
                          refine fk_ite (fun c31 => ?_) (fun c31 => ?_)
                          · skip
                            refine fk_ite (fun c32 => ?_) (fun c32 => ?_)
                            · skip
                              exact fk_some F4
                            · skip
                              refine fk_ite (fun c33 => ?_) (fun c33 => ?_)
                              · skip
                                exact fk_none
                              · skip
                                exact fk_some F4
                          · skip
                            refine fk_ite (fun c34 => ?_) (fun c34 => ?_)
                            · skip
                              refine fk_ite (fun c35 => ?_) (fun c35 => ?_)
                              · skip
                                exact fk_some F4
                              · skip
                                refine fk_ite (fun c36 => ?_) (fun c36 => ?_)
                                · skip
                                  exact fk_none
                                · skip
                                  exact fk_some F4
                            · skip
                              exact fk_some F4
      · skip
        refine fk_ite (fun c37 => ?_) (fun c37 => ?_)
        · skip
          refine fk_ite (fun c38 => ?_) (fun c38 => ?_)
          · skip
            exact fk_some F4
          · skip
            refine fk_ite (fun c39 => ?_) (fun c39 => ?_)
            · skip
              refine fk_ite (fun c40 => ?_) (fun c40 => ?_)
              · skip
                exact fk_some F4
              · skip
                refine fk_ite (fun c41 => ?_) (fun c41 => ?_)
                · skip
                  exact fk_none
                · skip
                  exact fk_some F4
            · skip
              refine fk_ite (fun c42 => ?_) (fun c42 => ?_)
              · skip
                refine fk_ite (fun c43 => ?_) (fun c43 => ?_)
                · skip
                  exact fk_some F4
                · skip
                  refine fk_ite (fun c44 => ?_) (fun c44 => ?_)
                  · skip
                    exact fk_none
                  · skip
                    exact fk_some F4
              · skip
                refine fk_ite (fun c45 => ?_) (fun c45 => ?_)
                · skip
                  refine fk_ite (fun c46 => ?_) (fun c46 => ?_)
                  · skip
                    exact fk_some F4
                  · skip
                    refine fk_ite (fun c47 => ?_) (fun c47 => ?_)
                    · skip
                      exact fk_none
                    · skip
                      exact fk_some F4
                · skip
                  refine fk_ite (fun c48 => ?_) (fun c48 => ?_)
                  · skip
                    refine fk_ite (fun c49 => ?_) (fun c49 => ?_)
                    · skip
                      exact fk_some F4
                    · skip
                      refine fk_ite (fun c50 => ?_) (fun c50 => ?_)
                      · skip
                        exact fk_none
                      · skip
                        exact fk_some F4
                  · skip
                    refine fk_ite (fun c51 => ?_) (fun c51 => ?_)
                    · skip
                      refine fk_ite (fun c52 => ?_) (fun c52 => ?_)
                      · skip
                        exact fk_none
                      · skip
                        exact fk_some F4
                    · skip
                      refine fk_ite (fun c53 => ?_) (fun c53 => ?_)
                      · skip
                        refine fk_ite (fun c54 => ?_) (fun c54 => ?_)
                        · skip
                          exact fk_none
                        · skip
                          refine fk_ite (fun c55 => ?_) (fun c55 => ?_)
                          · skip
                            exact fk_none
                          · skip
                            exact fk_some F4
                      · skip
                        refine fk_ite (fun c56 => ?_) (fun c56 => ?_)
                        · skip
                          refine fk_ite (fun c57 => ?_) (fun c57 => ?_)
                          · skip
                            exact fk_some F4
                          · skip
                            refine fk_ite (fun c58 => ?_) (fun c58 => ?_)
                            · skip
                              exact fk_none
                            · skip
                              exact fk_some F4
                        · skip
                          refine fk_ite (fun c59 => ?_) (fun c59 => ?_)
                          · skip
                            refine fk_ite (fun c60 => ?_) (fun c60 => ?_)
                            · skip
                              exact fk_some F4
                            · skip
                              refine fk_ite (fun c61 => ?_) (fun c61 => ?_)
                              · skip
                                exact fk_none
                              · skip
                                exact fk_some F4
                          · skip
                            refine fk_ite (fun c62 => ?_) (fun c62 => ?_)
                            · skip
                              refine fk_ite (fun c63 => ?_) (fun c63 => ?_)
                              · skip
                                exact fk_some F4
                              · skip
                                refine fk_ite (fun c64 => ?_) (fun c64 => ?_)
                                · skip
                                  exact fk_none
                                · skip
                                  exact fk_some F4
                            · skip
                              refine fk_ite (fun c65 => ?_) (fun c65 => ?_)
                              · skip
                                refine fk_ite (fun c66 => ?_) (fun c66 => ?_)
                                · skip
                                  exact fk_some F4
                                · skip
                                  refine fk_ite (fun c67 => ?_) (fun c67 => ?_)
                                  · skip
                                    exact fk_none
                                  · skip
                                    exact fk_some F4
                              · skip
                                exact fk_some F4
        · skip
          refine fk_ite (fun c68 => ?_) (fun c68 => ?_)
          · skip
            exact fk_some F4
          · skip
            refine fk_ite (fun c69 => ?_) (fun c69 => ?_)
            · skip
              exact fk_none
            · skip
              exact fk_some F4
    · skip
      refine fk_ite (fun c70 => ?_) (fun c70 => ?_)
      · skip
        refine fk_ite (fun c71 => ?_) (fun c71 => ?_)
        · skip
          refine fk_ite (fun c72 => ?_) (fun c72 => ?_)
          · skip
            exact fk_some F4
          · skip
            refine fk_ite (fun c73 => ?_) (fun c73 => ?_)
            · skip
              refine fk_ite (fun c74 => ?_) (fun c74 => ?_)
              · skip
                exact fk_some F4
              · skip
                refine fk_ite (fun c75 => ?_) (fun c75 => ?_)
                · skip
                  exact fk_none
                · skip
                  exact fk_some F4
            · skip
              refine fk_ite (fun c76 => ?_) (fun c76 => ?_)
              · skip
                refine fk_ite (fun c77 => ?_) (fun c77 => ?_)
                · skip
                  exact fk_some F4
                · skip
                  refine fk_ite (fun c78 => ?_) (fun c78 => ?_)
                  · skip
                    exact fk_none
                  · skip
                    exact fk_some F4
              · skip
                refine fk_ite (fun c79 => ?_) (fun c79 => ?_)
                · skip
                  refine fk_ite (fun c80 => ?_) (fun c80 => ?_)
                  · skip
                    exact fk_some F4
                  · skip
                    refine fk_ite (fun c81 => ?_) (fun c81 => ?_)
                    · skip
                      exact fk_none
                    · skip
                      exact fk_some F4
                · skip
                  refine fk_ite (fun c82 => ?_) (fun c82 => ?_)
                  · skip
                    refine fk_ite (fun c83 => ?_) (fun c83 => ?_)
                    · skip
                      exact fk_some F4
                    · skip
                      refine fk_ite (fun c84 => ?_) (fun c84 => ?_)
                      · skip
                        exact fk_none
                      · skip
                        exact fk_some F4
                  · skip
                    refine fk_ite (fun c85 => ?_) (fun c85 => ?_)
                    · skip
                      refine fk_ite (fun c86 => ?_) (fun c86 => ?_)
                      · skip
                        exact fk_none
                      · skip
                        exact fk_some F4
                    · skip
                      refine fk_ite (fun c87 => ?_) (fun c87 => ?_)
                      · skip
                        refine fk_ite (fun c88 => ?_) (fun c88 => ?_)
                        · skip
                          exact fk_none
                        · skip
                          refine fk_ite (fun c89 => ?_) (fun c89 => ?_)
                          · skip
                            exact fk_none
                          · skip
                            exact fk_some F4
                      · skip
                        refine fk_ite (fun c90 => ?_) (fun c90 => ?_)
                        · skip
                          refine fk_ite (fun c91 => ?_) (fun c91 => ?_)
                          · skip
                            exact fk_some F4
                          · skip
                            refine fk_ite (fun c92 => ?_) (fun c92 => ?_)
                            · skip
                              exact fk_none
                            · skip
                              exact fk_some F4
                        · skip
                          refine fk_ite (fun c93 => ?_) (fun c93 => ?_)
                          · skip
                            refine fk_ite (fun c94 => ?_) (fun c94 => ?_)
                            · skip
                              exact fk_some F4
                            · skip
                              refine fk_ite (fun c95 => ?_) (fun c95 => ?_)
                              · skip
                                exact fk_none
                              · skip
                                exact fk_some F4
                          · skip
                            refine fk_ite (fun c96 => ?_) (fun c96 => ?_)
                            · skip
                              refine fk_ite (fun c97 => ?_) (fun c97 => ?_)
                              · skip
                                exact fk_some F4
                              · skip
                                refine fk_ite (fun c98 => ?_) (fun c98 => ?_)
                                · skip
                                  exact fk_none
                                · skip
                                  exact fk_some F4
                            · skip
                              refine fk_ite (fun c99 => ?_) (fun c99 => ?_)
                              · skip
                                refine fk_ite (fun c100 => ?_) (fun c100 => ?_)
                                · skip
                                  exact fk_some F4
                                · skip
                                  refine fk_ite (fun c101 => ?_) (fun c101 => ?_)
                                  · skip
                                    exact fk_none
                                  · skip
                                    exact fk_some F4
                              · skip
                                exact fk_some F4
        · skip
          refine fk_ite (fun c102 => ?_) (fun c102 => ?_)
          · skip
            refine fk_ite (fun c103 => ?_) (fun c103 => ?_)
            · skip
              exact fk_some F4
            · skip
              refine fk_ite (fun c104 => ?_) (fun c104 => ?_)
              · skip
                refine fk_ite (fun c105 => ?_) (fun c105 => ?_)
                · skip
                  exact fk_some F4
                · skip
                  refine fk_ite (fun c106 => ?_) (fun c106 => ?_)
                  · skip
                    exact fk_none
                  · skip
                    exact fk_some F4
              · skip
                refine fk_ite (fun c107 => ?_) (fun c107 => ?_)
                · skip
                  refine fk_ite (fun c108 => ?_) (fun c108 => ?_)
                  · skip
                    exact fk_some F4
                  · skip
                    refine fk_ite (fun c109 => ?_) (fun c109 => ?_)
                    · skip
                      exact fk_none
                    · skip
                      exact fk_some F4
                · skip
                  refine fk_ite (fun c110 => ?_) (fun c110 => ?_)
                  · skip
                    refine fk_ite (fun c111 => ?_) (fun c111 => ?_)
                    · skip
                      exact fk_some F4
                    · skip
                      refine fk_ite (fun c112 => ?_) (fun c112 => ?_)
                      · skip
                        exact fk_none
                      · skip
                        exact fk_some F4
                  · skip
                    refine fk_ite (fun c113 => ?_) (fun c113 => ?_)
                    · skip
                      refine fk_ite (fun c114 => ?_) (fun c114 => ?_)
                      · skip
                        exact fk_some F4
                      · skip
                        refine fk_ite (fun c115 => ?_) (fun c115 => ?_)
                        · skip
                          exact fk_none
                        · skip
                          exact fk_some F4
                    · skip
                      refine fk_ite (fun c116 => ?_) (fun c116 => ?_)
                      · skip
                        refine fk_ite (fun c117 => ?_) (fun c117 => ?_)
                        · skip
                          exact fk_none
                        · skip
                          exact fk_some F4
                      · skip
                        refine fk_ite (fun c118 => ?_) (fun c118 => ?_)
                        · skip
                          refine fk_ite (fun c119 => ?_) (fun c119 => ?_)
                          · skip
                            exact fk_none
                          · skip
                            refine fk_ite (fun c120 => ?_) (fun c120 => ?_)
                            · skip
                              exact fk_none
                            · skip
                              exact fk_some F4
                        · skip
                          refine fk_ite (fun c121 => ?_) (fun c121 => ?_)
                          · skip
                            refine fk_ite (fun c122 => ?_) (fun c122 => ?_)
                            · skip
                              exact fk_some F4
                            · skip
                              refine fk_ite (fun c123 => ?_) (fun c123 => ?_)
                              · skip
                                exact fk_none
                              · skip
                                exact fk_some F4
                          · skip
                            refine fk_ite (fun c124 => ?_) (fun c124 => ?_)
                            · skip
                              refine fk_ite (fun c125 => ?_) (fun c125 => ?_)
                              · skip
                                exact fk_some F4
                              · skip
                                refine fk_ite (fun c126 => ?_) (fun c126 => ?_)
                                · skip
                                  exact fk_none
                                · skip
                                  exact fk_some F4
                            · skip
                              refine fk_ite (fun c127 => ?_) (fun c127 => ?_)
                              · skip
                                refine fk_ite (fun c128 => ?_) (fun c128 => ?_)
                                · skip
                                  exact fk_some F4
                                · skip
                                  refine fk_ite (fun c129 => ?_) (fun c129 => ?_)
                                  · skip
                                    exact fk_none
                                  · skip
                                    exact fk_some F4
                              · skip
                                refine fk_ite (fun c130 => ?_) (fun c130 => ?_)
                                · skip
                                  refine fk_ite (fun c131 => ?_) (fun c131 => ?_)
                                  · skip
                                    exact fk_some F4
                                  · skip
                                    refine fk_ite (fun c132 => ?_) (fun c132 => ?_)
                                    · skip
                                      exact fk_none
                                    · skip
                                      exact fk_some F4
                                · skip
                                  exact fk_some F4
          · skip
            refine fk_ite (fun c133 => ?_) (fun c133 => ?_)
            · skip
              exact fk_some F4
            · skip
              refine fk_ite (fun c134 => ?_) (fun c134 => ?_)
              · skip
                exact fk_none
              · skip
                exact fk_some F4
      · skip
        refine fk_ite (fun c135 => ?_) (fun c135 => ?_)
        · skip
          exact fk_some F4
        · skip
          refine fk_ite (fun c136 => ?_) (fun c136 => ?_)
          · skip
            exact fk_none
          · skip
            refine fk_ite (fun c137 => ?_) (fun c137 => ?_)
            · skip
              exact fk_none
            · skip
              refine fk_pv (fun v139 => ?_)
              exact fk_some F4
  · skip
    exact fk_some F2
theorem K_Model_output {p2 : Int32} {p3 : Int32} {I : MI} {J : MJ} : fk sM I J (f_Model_output p2 p3 I J) := by
  unfold f_Model_output
  refine fk_oc (fr_rfl _ _ _) ?_ (fun v2 I2 J2 F1 => ?_)
  · skip
    refine fk_ite (fun c2 => ?_) (fun c2 => ?_)
    · skip
      exact fk_some (fr_rfl _ _ _)
    · skip
      refine fk_oc (fr_rfl _ _ _) (K_Model_isParty ) (fun v4 I4 J4 F3 => ?_)
      refine fk_ite (fun c4 => ?_) (fun c4 => ?_)
      · skip
        exact fk_some F3
      · skip
        refine fk_ite (fun c5 => ?_) (fun c5 => ?_)
        · skip
          exact fk_some F3
        · skip
          refine fk_ite (fun c6 => ?_) (fun c6 => ?_)
          · skip
            exact fk_none
          · skip
            refine fk_ite (fun c7 => ?_) (fun c7 => ?_)
            · skip
              exact fk_some F3
            · skip
              exact fk_some F3
  · skip
    refine fk_pI F1 (by decide) (fun I9 F8 => ?_)
    refine fk_ite (fun c9 => ?_) (fun c9 => ?_)
    · skip
      exact fk_some F8
    · skip
      refine fk_ite (fun c10 => ?_) (fun c10 => ?_)
      · skip
        exact fk_none
      · skip
        exact fk_some F8
theorem K_Model_clear {p2 : Int32} {p3 : Int32} {I : MI} {J : MJ} : fk sM I J (f_Model_clear p2 p3 I J) := by
  unfold f_Model_clear
  refine fk_pv (fun v2 => ?_)
  refine fk_oc (fr_rfl _ _ _) ?_ (fun v6 I6 J6 F1 => ?_)
  · skip
    refine fk_ite (fun c2 => ?_) (fun c2 => ?_)
    · skip
      exact fk_some (fr_rfl _ _ _)
    · skip
      refine fk_oc (fr_rfl _ _ _) (K_Model_isParty ) (fun v8 I8 J8 F3 => ?_)
      refine fk_ite (fun c4 => ?_) (fun c4 => ?_)
      · skip
        exact fk_some F3
      · skip
        refine fk_ite (fun c5 => ?_) (fun c5 => ?_)
        · skip
          exact fk_some F3
        · skip
          refine fk_ite (fun c6 => ?_) (fun c6 => ?_)
          · skip
            exact fk_some F3
          · skip
            refine fk_ite (fun c7 => ?_) (fun c7 => ?_)
            · skip
              exact fk_some F3
            · skip
              exact fk_some F3
  · skip
    refine fk_pI F1 (by decide) (fun I13 F8 => ?_)
    refine fk_ite (fun c9 => ?_) (fun c9 => ?_)
    · skip
      refine fk_pv (fun v16 => ?_)
      refine fk_ite (fun c10 => ?_) (fun c10 => ?_)
      · skip
        exact fk_none
      · skip
        exact fk_some F8
    · skip
      exact fk_some F8
theorem K_Model_bound {p2 : Int32} {p3 : Int32} {p4 : Int32} {I : MI} {J : MJ} : fk sM I J (f_Model_bound p2 p3 p4 I J) := by
  unfold f_Model_bound
  refine fk_oc (fr_rfl _ _ _) ?_ (fun v2 I2 J2 F1 => ?_)
  · skip
    refine fk_ite (fun c2 => ?_) (fun c2 => ?_)
    · skip
      exact fk_some (fr_rfl _ _ _)
    · skip
      refine fk_oc (fr_rfl _ _ _) (K_Model_isParty ) (fun v4 I4 J4 F3 => ?_)
      refine fk_ite (fun c4 => ?_) (fun c4 => ?_)
      · skip
        exact fk_some F3
      · skip
        refine fk_oc F3 (K_Model_isParty ) (fun v6 I6 J6 F5 => ?_)
        refine fk_ite (fun c6 => ?_) (fun c6 => ?_)
        · skip
          exact fk_some F5
        · skip
          refine fk_ite (fun c7 => ?_) (fun c7 => ?_)
          · skip
            exact fk_some F5
          · skip
            refine fk_ite (fun c8 => ?_) (fun c8 => ?_)
            · skip
              exact fk_some F5
            · skip
              refine fk_pv (fun v11 => ?_)
              refine fk_ite (fun c9 => ?_) (fun c9 => ?_)
              · skip
                exact fk_none
              · skip
                refine fk_ite (fun c10 => ?_) (fun c10 => ?_)
                · skip
                  exact fk_some F5
                · skip
                  exact fk_some F5
  · skip
    refine fk_pv (fun v17 => ?_)
    refine fk_pI F1 (by decide) (fun I19 F11 => ?_)
    refine fk_ite (fun c12 => ?_) (fun c12 => ?_)
    · skip
      refine fk_ite (fun c13 => ?_) (fun c13 => ?_)
      · skip
        exact fk_none
      · skip
        refine fk_pv (fun x22 => ?_)
        refine fk_ite (fun c14 => ?_) (fun c14 => ?_)
        · skip
          exact fk_none
        · skip
          refine fk_ite (fun c15 => ?_) (fun c15 => ?_)
          · skip
            exact fk_none
          · skip
            refine fk_oc F11 (K_Model_digestOf ) (fun v25 I25 J25 F16 => ?_)
            refine fk_ite (fun c17 => ?_) (fun c17 => ?_)
            · skip
              exact fk_none
            · skip
              exact fk_some F16
    · skip
      exact fk_some F11
theorem K_Model_total {p2 : Int32} {I : MI} {J : MJ} : fk sM I J (f_Model_total p2 I J) := by
  unfold f_Model_total
  refine fk_pI (fr_rfl _ _ _) (by decide) (fun I1 F1 => ?_)
  refine fk_ite (fun c2 => ?_) (fun c2 => ?_)
  · skip
    exact fk_some F1
  · skip
    refine fk_ite (fun c3 => ?_) (fun c3 => ?_)
    · skip
      refine fk_oc F1 (K_Model_least (by decide)) (fun v4 I4 J4 F4 => ?_)
      exact fk_some F4
    · skip
      refine fk_ite (fun c5 => ?_) (fun c5 => ?_)
      · skip
        exact fk_some F1
      · skip
        refine fk_ite (fun c6 => ?_) (fun c6 => ?_)
        · skip
          refine fk_ite (fun c7 => ?_) (fun c7 => ?_)
          · skip
            exact fk_some F1
          · skip
            exact fk_some F1
        · skip
          refine fk_ite (fun c8 => ?_) (fun c8 => ?_)
          · skip
            refine fk_oc F1 (K_Model_least (by decide)) (fun v9 I9 J9 F9 => ?_)
            exact fk_some F9
          · skip
            refine fk_ite (fun c10 => ?_) (fun c10 => ?_)
            · skip
              exact fk_some F1
            · skip
              refine fk_ite (fun c11 => ?_) (fun c11 => ?_)
              · skip
                refine fk_oc F1 (K_Model_least (by decide)) (fun v12 I12 J12 F12 => ?_)
                exact fk_some F12
              · skip
                exact fk_some F1
theorem K_Check_forget {w1 : Nat} {I : MI} {J : MJ} (h_w1 : w1 < 4) : fk sC I J (f_Check_forget w1 I J) := by
  unfold f_Check_forget
  refine fk_pI (fr_rfl _ _ _) (sC_p (by decide) h_w1) (fun I1 F1 => ?_)
  refine fk_pI F1 (sC_p (by decide) h_w1) (fun I2 F2 => ?_)
  exact fk_some F2
theorem K_Check_note {w1 : Nat} {p2 : Int64} {I : MI} {J : MJ} (h_w1 : w1 < 4) : fk sC I J (f_Check_note w1 p2 I J) := by
  unfold f_Check_note
  refine fk_oc (fr_rfl _ _ _) ?_ (fun v2 I2 J2 F1 => ?_)
  · skip
    refine fk_ite (fun c2 => ?_) (fun c2 => ?_)
    · skip
      exact fk_some (fr_rfl _ _ _)
    · skip
      refine fk_ite (fun c3 => ?_) (fun c3 => ?_)
      · skip
        exact fk_some (fr_rfl _ _ _)
      · skip
        refine fk_ite (fun c4 => ?_) (fun c4 => ?_)
        · skip
          exact fk_some (fr_rfl _ _ _)
        · skip
          refine fk_ite (fun c5 => ?_) (fun c5 => ?_)
          · skip
            exact fk_some (fr_rfl _ _ _)
          · skip
            refine fk_ite (fun c6 => ?_) (fun c6 => ?_)
            · skip
              exact fk_none
            · skip
              refine fk_pI (fr_rfl _ _ _) (sC_p (by decide) h_w1) (fun I8 F7 => ?_)
              refine fk_ite (fun c8 => ?_) (fun c8 => ?_)
              · skip
                exact fk_none
              · skip
                refine fk_pJ F7 (sC_p (by decide) h_w1) (fun J10 F9 => ?_)
                refine fk_pI F9 (sC_p (by decide) h_w1) (fun I11 F10 => ?_)
                exact fk_some F10
  · skip
    refine fk_pI F1 (sC_p (by decide) h_w1) (fun I12 F11 => ?_)
    exact fk_some F11
theorem K_Check_drawCoinAndNonce {w1 : Nat} {I : MI} {J : MJ} (h_w1 : w1 < 4) : fk sC I J (f_Check_drawCoinAndNonce w1 I J) := by
  unfold f_Check_drawCoinAndNonce
  refine fk_pI (fr_rfl _ _ _) (sC_p (by decide) h_w1) (fun I1 F1 => ?_)
  refine fk_pI F1 (sC_p (by decide) h_w1) (fun I2 F2 => ?_)
  exact fk_some F2
theorem K_Check_drawNonce {w1 : Nat} {I : MI} {J : MJ} (h_w1 : w1 < 4) : fk sC I J (f_Check_drawNonce w1 I J) := by
  unfold f_Check_drawNonce
  refine fk_pI (fr_rfl _ _ _) (sC_p (by decide) h_w1) (fun I1 F1 => ?_)
  exact fk_some F1
theorem K_Digest_spread_3 {p2 : Int64} {p3 : Int64} : ∀ (fu : Nat) {l1 : Int64} {l3 : Int64} {l5 : Int32} {I : MI} {J : MJ}, fk sC I J (f_Digest_spread_3 p2 p3 fu l1 l3 l5 I J) := by
  intro fu
  induction fu with
  | zero =>
    intros
    exact fk_none
  | succ fu ih =>
    intro l1 l3 l5 I J 
    unfold f_Digest_spread_3
    refine fk_ite (fun c1 => ?_) (fun c1 => ?_)
    · skip
      exact fk_some (fr_rfl _ _ _)
    · skip
      refine fk_ite (fun c2 => ?_) (fun c2 => ?_)
      · skip
        exact fk_none
      · skip
        refine fk_pI (fr_rfl _ _ _) (by decide) (fun I3 F3 => ?_)
        exact fk_tail F3 (ih )
theorem K_Digest_spread_84 {p2 : Int64} {p3 : Int64} : ∀ (fu : Nat) {l5 : Int32} {I : MI} {J : MJ}, fk sC I J (f_Digest_spread_84 p2 p3 fu l5 I J) := by
  intro fu
  induction fu with
  | zero =>
    intros
    exact fk_none
  | succ fu ih =>
    intro l5 I J 
    unfold f_Digest_spread_84
    refine fk_ite (fun c1 => ?_) (fun c1 => ?_)
    · skip
      exact fk_some (fr_rfl _ _ _)
    · skip
      refine fk_ite (fun c2 => ?_) (fun c2 => ?_)
      · skip
        exact fk_none
      · skip
        refine fk_pv (fun x19 => ?_)
        refine fk_ite (fun c3 => ?_) (fun c3 => ?_)
        · skip
          exact fk_none
        · skip
          refine fk_pv (fun x21 => ?_)
          refine fk_pv (fun x22 => ?_)
          refine fk_pv (fun x23 => ?_)
          refine fk_ite (fun c4 => ?_) (fun c4 => ?_)
          · skip
            exact fk_none
          · skip
            refine fk_ite (fun c5 => ?_) (fun c5 => ?_)
            · skip
              exact fk_none
            · skip
              refine fk_ite (fun c6 => ?_) (fun c6 => ?_)
              · skip
                exact fk_none
              · skip
                refine fk_pI (fr_rfl _ _ _) (by decide) (fun I27 F7 => ?_)
                exact fk_tail F7 (ih )
theorem K_Digest_spread {p2 : Int64} {p3 : Int64} {I : MI} {J : MJ} : fk sC I J (f_Digest_spread p2 p3 I J) := by
  unfold f_Digest_spread
  refine fk_oc (fr_rfl _ _ _) (K_Digest_spread_3  gF ) (fun u4 I4 J4 F1 => ?_)
  refine fk_ite (fun c2 => ?_) (fun c2 => ?_)
  · skip
    exact fk_none
  · skip
    refine fk_pI F1 (by decide) (fun I6 F3 => ?_)
    refine fk_ite (fun c4 => ?_) (fun c4 => ?_)
    · skip
      exact fk_none
    · skip
      refine fk_pI F3 (by decide) (fun I8 F5 => ?_)
      refine fk_ite (fun c6 => ?_) (fun c6 => ?_)
      · skip
        exact fk_none
      · skip
        refine fk_pI F5 (by decide) (fun I10 F7 => ?_)
        refine fk_ite (fun c8 => ?_) (fun c8 => ?_)
        · skip
          exact fk_none
        · skip
          refine fk_pI F7 (by decide) (fun I12 F9 => ?_)
          refine fk_ite (fun c10 => ?_) (fun c10 => ?_)
          · skip
            exact fk_none
          · skip
            refine fk_pI F9 (by decide) (fun I14 F11 => ?_)
            refine fk_ite (fun c12 => ?_) (fun c12 => ?_)
            · skip
              exact fk_none
            · skip
              refine fk_pI F11 (by decide) (fun I16 F13 => ?_)
              refine fk_oc F13 (K_Digest_spread_84  gF ) (fun u28 I28 J28 F14 => ?_)
              exact fk_some F14
theorem K_Digest_stir_2 : ∀ (fu : Nat) {l1 : Int32} {I : MI} {J : MJ}, fk sC I J (f_Digest_stir_2  fu l1 I J) := by
  intro fu
  induction fu with
  | zero =>
    intros
    exact fk_none
  | succ fu ih =>
    intro l1 I J 
    unfold f_Digest_stir_2
    refine fk_ite (fun c1 => ?_) (fun c1 => ?_)
    · skip
      exact fk_some (fr_rfl _ _ _)
    · skip
      refine fk_ite (fun c2 => ?_) (fun c2 => ?_)
      · skip
        exact fk_none
      · skip
        refine fk_ite (fun c3 => ?_) (fun c3 => ?_)
        · skip
          exact fk_none
        · skip
          refine fk_pI (fr_rfl _ _ _) (by decide) (fun I4 F4 => ?_)
          exact fk_tail F4 (ih )
theorem K_Digest_stir_195 : ∀ (fu : Nat) {l1 : Int32} {l6 : Int32} {l7 : Int32} {l8 : Int32} {l9 : Int32} {I : MI} {J : MJ}, fk sC I J (f_Digest_stir_195  fu l1 l6 l7 l8 l9 I J) := by
  intro fu
  induction fu with
  | zero =>
    intros
    exact fk_none
  | succ fu ih =>
    intro l1 l6 l7 l8 l9 I J 
    unfold f_Digest_stir_195
    refine fk_ite (fun c1 => ?_) (fun c1 => ?_)
    · skip
      exact fk_some (fr_rfl _ _ _)
    · skip
      refine fk_ite (fun c2 => ?_) (fun c2 => ?_)
      · skip
        exact fk_none
      · skip
        refine fk_ite (fun c3 => ?_) (fun c3 => ?_)
        · skip
          exact fk_none
        · skip
          refine fk_pI (fr_rfl _ _ _) (by decide) (fun I28 F4 => ?_)
          exact fk_tail F4 (ih )
theorem K_Digest_stir_27 : ∀ (fu : Nat) {l1 : Int32} {I : MI} {J : MJ}, fk sC I J (f_Digest_stir_27  fu l1 I J) := by
  intro fu
  induction fu with
  | zero =>
    intros
    exact fk_none
  | succ fu ih =>
    intro l1 I J 
    unfold f_Digest_stir_27
    refine fk_ite (fun c1 => ?_) (fun c1 => ?_)
    · skip
      exact fk_some (fr_rfl _ _ _)
    · skip
      refine fk_ite (fun c2 => ?_) (fun c2 => ?_)
      · skip
        exact fk_none
      · skip
        refine fk_pv (fun x8 => ?_)
        refine fk_ite (fun c3 => ?_) (fun c3 => ?_)
        · skip
          exact fk_none
        · skip
          refine fk_pv (fun x10 => ?_)
          refine fk_pv (fun x11 => ?_)
          refine fk_ite (fun c4 => ?_) (fun c4 => ?_)
          · skip
            exact fk_none
          · skip
            refine fk_ite (fun c5 => ?_) (fun c5 => ?_)
            · skip
              exact fk_none
            · skip
              refine fk_pv (fun x14 => ?_)
              refine fk_ite (fun c6 => ?_) (fun c6 => ?_)
              · skip
                exact fk_none
              · skip
                refine fk_ite (fun c7 => ?_) (fun c7 => ?_)
                · skip
                  exact fk_none
                · skip
                  refine fk_ite (fun c8 => ?_) (fun c8 => ?_)
                  · skip
                    exact fk_none
                  · skip
                    refine fk_pv (fun x18 => ?_)
                    refine fk_pv (fun x19 => ?_)
                    refine fk_ite (fun c9 => ?_) (fun c9 => ?_)
                    · skip
                      exact fk_none
                    · skip
                      refine fk_ite (fun c10 => ?_) (fun c10 => ?_)
                      · skip
                        exact fk_none
                      · skip
                        refine fk_ite (fun c11 => ?_) (fun c11 => ?_)
                        · skip
                          exact fk_none
                        · skip
                          refine fk_ite (fun c12 => ?_) (fun c12 => ?_)
                          · skip
                            exact fk_none
                          · skip
                            refine fk_pv (fun x24 => ?_)
                            refine fk_oc (fr_rfl _ _ _) (K_Digest_stir_195  gF ) (fun u29 I29 J29 F13 => ?_)
                            refine fk_ite (fun c14 => ?_) (fun c14 => ?_)
                            · skip
                              exact fk_none
                            · skip
                              refine fk_ite (fun c15 => ?_) (fun c15 => ?_)
                              · skip
                                exact fk_none
                              · skip
                                refine fk_pI F13 (by decide) (fun I32 F16 => ?_)
                                refine fk_ite (fun c17 => ?_) (fun c17 => ?_)
                                · skip
                                  exact fk_none
                                · skip
                                  refine fk_pI F16 (by decide) (fun I34 F18 => ?_)
                                  exact fk_tail F18 (ih )
theorem K_Digest_stir_255 : ∀ (fu : Nat) {l1 : Int32} {I : MI} {J : MJ}, fk sC I J (f_Digest_stir_255  fu l1 I J) := by
  intro fu
  induction fu with
  | zero =>
    intros
    exact fk_none
  | succ fu ih =>
    intro l1 I J 
    unfold f_Digest_stir_255
    refine fk_ite (fun c1 => ?_) (fun c1 => ?_)
    · skip
      exact fk_some (fr_rfl _ _ _)
    · skip
      refine fk_ite (fun c2 => ?_) (fun c2 => ?_)
      · skip
        exact fk_none
      · skip
        refine fk_ite (fun c3 => ?_) (fun c3 => ?_)
        · skip
          exact fk_none
        · skip
          refine fk_ite (fun c4 => ?_) (fun c4 => ?_)
          · skip
            exact fk_none
          · skip
            refine fk_pI (fr_rfl _ _ _) (by decide) (fun I40 F5 => ?_)
            exact fk_tail F5 (ih )
theorem K_Digest_stir {I : MI} {J : MJ} : fk sC I J (f_Digest_stir  I J) := by
  unfold f_Digest_stir
  refine fk_oc (fr_rfl _ _ _) (K_Digest_stir_2  gF ) (fun u5 I5 J5 F1 => ?_)
  refine fk_oc F1 (K_Digest_stir_27  gF ) (fun u35 I35 J35 F2 => ?_)
  refine fk_oc F2 (K_Digest_stir_255  gF ) (fun u41 I41 J41 F3 => ?_)
  exact fk_some F3
theorem K_Errors_wipe {I : MI} {J : MJ} : fk sC I J (f_Errors_wipe  I J) := by
  unfold f_Errors_wipe
  refine fk_pI (fr_rfl _ _ _) (by decide) (fun I1 F1 => ?_)
  exact fk_some F1
theorem K_Errors_add {p2 : Int32} {p3 : Int32} {p4 : Int32} {p5 : Int64} {I : MI} {J : MJ} : fk sC I J (f_Errors_add p2 p3 p4 p5 I J) := by
  unfold f_Errors_add
  refine fk_ite (fun c1 => ?_) (fun c1 => ?_)
  · skip
    exact fk_some (fr_rfl _ _ _)
  · skip
    refine fk_ite (fun c2 => ?_) (fun c2 => ?_)
    · skip
      refine fk_ite (fun c3 => ?_) (fun c3 => ?_)
      · skip
        exact fk_none
      · skip
        refine fk_pI (fr_rfl _ _ _) (by decide) (fun I4 F4 => ?_)
        refine fk_ite (fun c5 => ?_) (fun c5 => ?_)
        · skip
          exact fk_none
        · skip
          refine fk_pI F4 (by decide) (fun I6 F6 => ?_)
          refine fk_ite (fun c7 => ?_) (fun c7 => ?_)
          · skip
            exact fk_none
          · skip
            refine fk_pI F6 (by decide) (fun I8 F8 => ?_)
            refine fk_ite (fun c9 => ?_) (fun c9 => ?_)
            · skip
              exact fk_none
            · skip
              refine fk_pJ F8 (by decide) (fun J10 F10 => ?_)
              refine fk_pI F10 (by decide) (fun I11 F11 => ?_)
              exact fk_some F11
    · skip
      exact fk_some (fr_rfl _ _ _)
theorem K_Errors_sum_6 {p2 : Int32} {p3 : Int32} {p4 : Int32} : ∀ (fu : Nat) {l1 : Int32} {l2 : Int32} {l3 : Int32} {l4 : Int64} {l6 : Int32} {I : MI} {J : MJ}, fk sC I J (f_Errors_sum_6 p2 p3 p4 fu l1 l2 l3 l4 l6 I J) := by
  intro fu
  induction fu with
  | zero =>
    intros
    exact fk_none
  | succ fu ih =>
    intro l1 l2 l3 l4 l6 I J 
    unfold f_Errors_sum_6
    refine fk_ite (fun c1 => ?_) (fun c1 => ?_)
    · skip
      exact fk_some (fr_rfl _ _ _)
    · skip
      refine fk_ite (fun c2 => ?_) (fun c2 => ?_)
      · skip
        exact fk_some (fr_rfl _ _ _)
      · skip
        refine fk_ite (fun c3 => ?_) (fun c3 => ?_)
        · skip
          exact fk_none
        · skip
          refine fk_ite (fun c4 => ?_) (fun c4 => ?_)
          · skip
            exact fk_tail (fr_rfl _ _ _) (ih )
          · skip
            refine fk_ite (fun c5 => ?_) (fun c5 => ?_)
            · skip
              exact fk_none
            · skip
              refine fk_ite (fun c6 => ?_) (fun c6 => ?_)
              · skip
                exact fk_tail (fr_rfl _ _ _) (ih )
              · skip
                refine fk_ite (fun c7 => ?_) (fun c7 => ?_)
                · skip
                  exact fk_none
                · skip
                  refine fk_ite (fun c8 => ?_) (fun c8 => ?_)
                  · skip
                    exact fk_tail (fr_rfl _ _ _) (ih )
                  · skip
                    refine fk_ite (fun c9 => ?_) (fun c9 => ?_)
                    · skip
                      exact fk_none
                    · skip
                      refine fk_oc (fr_rfl _ _ _) (K_Sh_plus ) (fun v10 I10 J10 F10 => ?_)
                      exact fk_tail F10 (ih )
