theorem K_Model_place_2 : ∀ (fu : Nat) {l1 : Int32} {I : MI} {J : MJ}, fk sM I J (f_Model_place_2  fu l1 I J) := by
  intro fu
  induction fu with
  | zero =>
    intros
    exact fk_none
  | succ fu ih =>
    intro l1 I J 
    unfold f_Model_place_2
    refine fk_ite (fun c1 => ?_) (fun c1 => ?_)
    · skip
      exact fk_some (fr_rfl _ _ _)
    · skip
      refine fk_ite (fun c2 => ?_) (fun c2 => ?_)
      · skip
        exact fk_none
      · skip
        refine fk_ite (fun c3 => ?_) (fun c3 => ?_)
        · skip
          exact fk_none
        · skip
          refine fk_ite (fun c4 => ?_) (fun c4 => ?_)
          · skip
            refine fk_ite (fun c5 => ?_) (fun c5 => ?_)
            · skip
              exact fk_none
            · skip
              refine fk_ite (fun c6 => ?_) (fun c6 => ?_)
              · skip
                exact fk_none
              · skip
                refine fk_ite (fun c7 => ?_) (fun c7 => ?_)
                · skip
                  exact fk_none
                · skip
                  refine fk_oc (fr_rfl _ _ _) (K_Model_fill ) (fun v8 I8 J8 F8 => ?_)
                  exact fk_tail F8 (ih )
          · skip
            refine fk_ite (fun c9 => ?_) (fun c9 => ?_)
            · skip
              exact fk_none
            · skip
              refine fk_oc (fr_rfl _ _ _) (K_Model_note ) (fun v10 I10 J10 F10 => ?_)
              exact fk_tail F10 (ih )
theorem K_Model_place {I : MI} {J : MJ} : fk sM I J (f_Model_place  I J) := by
  unfold f_Model_place
  refine fk_oc (fr_rfl _ _ _) (K_Model_place_2  gF ) (fun u11 I11 J11 F1 => ?_)
  exact fk_some F1
theorem K_Model_readValue {R : M3} {p2 : Int32} {p3 : Int32} {I : MI} {J : MJ} (hR : ∀ k a b I J, fk sM I J (R k a b I J)) : fk sM I J (f_Model_readValue R p2 p3 I J) := by
  unfold f_Model_readValue
  refine fk_oc (fr_rfl _ _ _) (K_Model_isRow ) (fun v1 I1 J1 F1 => ?_)
  refine fk_ite (fun c2 => ?_) (fun c2 => ?_)
  · skip
    refine fk_oc F1 (hR 0 0 0 I1 J1) (fun v3 I3 J3 F3 => ?_)
    refine fk_ite (fun c4 => ?_) (fun c4 => ?_)
    · skip
      refine fk_oc F3 (K_Model_isClear ) (fun v5 I5 J5 F5 => ?_)
      refine fk_oc F5 ?_ (fun v7 I7 J7 F6 => ?_)
      · skip
        refine fk_ite (fun c7 => ?_) (fun c7 => ?_)
        · skip
          exact fk_some (fr_rfl _ _ _)
        · skip
          refine fk_ite (fun c8 => ?_) (fun c8 => ?_)
          · skip
            exact fk_some (fr_rfl _ _ _)
          · skip
            refine fk_oc (fr_rfl _ _ _) (K_Model_note ) (fun v10 I10 J10 F9 => ?_)
            exact fk_some F9
      · skip
        refine fk_oc F6 (K_Model_isClear ) (fun v11 I11 J11 F10 => ?_)
        refine fk_pv (fun v13 => ?_)
        refine fk_oc F10 (K_Model_numberOf ) (fun v15 I15 J15 F11 => ?_)
        refine fk_oc F11 (K_Model_lay_IIV ) (fun v16 I16 J16 F12 => ?_)
        refine fk_oc F12 (K_Model_want ) (fun v17 I17 J17 F13 => ?_)
        refine fk_ite (fun c14 => ?_) (fun c14 => ?_)
        · skip
          exact fk_some F13
        · skip
          exact fk_none
    · skip
      exact fk_some F3
  · skip
    refine fk_oc F1 (K_Model_isSum ) (fun v19 I19 J19 F15 => ?_)
    refine fk_ite (fun c16 => ?_) (fun c16 => ?_)
    · skip
      refine fk_oc F15 (hR 0 0 0 I19 J19) (fun v21 I21 J21 F17 => ?_)
      refine fk_ite (fun c18 => ?_) (fun c18 => ?_)
      · skip
        refine fk_oc F17 (K_Model_isClear ) (fun v23 I23 J23 F19 => ?_)
        refine fk_oc F19 ?_ (fun v25 I25 J25 F20 => ?_)
        · skip
          refine fk_ite (fun c21 => ?_) (fun c21 => ?_)
          · skip
            exact fk_some (fr_rfl _ _ _)
          · skip
            refine fk_ite (fun c22 => ?_) (fun c22 => ?_)
            · skip
              exact fk_some (fr_rfl _ _ _)
            · skip
              refine fk_oc (fr_rfl _ _ _) (K_Model_note ) (fun v28 I28 J28 F23 => ?_)
              exact fk_some F23
        · skip
          refine fk_oc F20 (K_Model_isClear ) (fun v29 I29 J29 F24 => ?_)
          refine fk_pv (fun v31 => ?_)
          refine fk_oc F24 (K_Model_numberOf ) (fun v33 I33 J33 F25 => ?_)
          refine fk_oc F25 (K_Model_lay_IIV ) (fun v34 I34 J34 F26 => ?_)
          refine fk_oc F26 (K_Model_want ) (fun v35 I35 J35 F27 => ?_)
          refine fk_ite (fun c28 => ?_) (fun c28 => ?_)
          · skip
            exact fk_some F27
          · skip
            exact fk_none
      · skip
        exact fk_some F17
    · skip
      refine fk_oc F15 (K_Model_see ) (fun v37 I37 J37 F29 => ?_)
      refine fk_pv (fun x38 => ?_)
      refine fk_pI F29 (by decide) (fun I39 F30 => ?_)
      refine fk_oc F30 (K_Model_takes ) (fun v40 I40 J40 F31 => ?_)
      refine fk_oc F31 (K_Model_isRow ) (fun v41 I41 J41 F32 => ?_)
      refine fk_ite (fun c33 => ?_) (fun c33 => ?_)
      · skip
        refine fk_oc F32 (K_Model_see ) (fun v43 I43 J43 F34 => ?_)
        refine fk_pv (fun x44 => ?_)
        refine fk_pI F34 (by decide) (fun I45 F35 => ?_)
        refine fk_oc F35 (K_Model_isClear ) (fun v46 I46 J46 F36 => ?_)
        refine fk_oc F36 ?_ (fun v48 I48 J48 F37 => ?_)
        · skip
          refine fk_ite (fun c38 => ?_) (fun c38 => ?_)
          · skip
            exact fk_some (fr_rfl _ _ _)
          · skip
            refine fk_oc (fr_rfl _ _ _) (K_Model_note ) (fun v50 I50 J50 F39 => ?_)
            exact fk_some F39
        · skip
          refine fk_oc F37 (K_Model_lay_IIV ) (fun v51 I51 J51 F40 => ?_)
          refine fk_oc F40 (K_Model_lay_IV ) (fun v52 I52 J52 F41 => ?_)
          refine fk_oc F41 (K_Model_numberOf ) (fun v53 I53 J53 F42 => ?_)
          refine fk_oc F42 (K_Model_lay_IIV ) (fun v54 I54 J54 F43 => ?_)
          refine fk_oc F43 (K_Model_want ) (fun v55 I55 J55 F44 => ?_)
          refine fk_ite (fun c45 => ?_) (fun c45 => ?_)
          · skip
            exact fk_some F44
          · skip
            exact fk_none
      · skip
        refine fk_oc F32 (K_Model_refuse ) (fun v57 I57 J57 F46 => ?_)
        refine fk_ite (fun c47 => ?_) (fun c47 => ?_)
        · skip
          exact fk_some F46
        · skip
          exact fk_none
theorem K_Model_readRow {R : M3} {p2 : Int32} {I : MI} {J : MJ} (hR : ∀ k a b I J, fk sM I J (R k a b I J)) : fk sM I J (f_Model_readRow R p2 I J) := by
  unfold f_Model_readRow
  refine fk_pv (fun x1 => ?_)
  refine fk_pI (fr_rfl _ _ _) (by decide) (fun I2 F1 => ?_)
  refine fk_oc F1 (K_Model_isSecretRow ) (fun v3 I3 J3 F2 => ?_)
  refine fk_pv (fun v5 => ?_)
  refine fk_oc F2 (K_Model_takes ) (fun v7 I7 J7 F3 => ?_)
  refine fk_ite (fun c4 => ?_) (fun c4 => ?_)
  · skip
    refine fk_oc F3 (K_Model_see ) (fun v9 I9 J9 F5 => ?_)
    refine fk_ite (fun c6 => ?_) (fun c6 => ?_)
    · skip
      refine fk_oc F5 (hR 4 0 0 I9 J9) (fun v11 I11 J11 F7 => ?_)
      refine fk_ite (fun c8 => ?_) (fun c8 => ?_)
      · skip
        exact fk_some F7
      · skip
        refine fk_oc F7 (K_Model_want ) (fun v13 I13 J13 F9 => ?_)
        refine fk_ite (fun c10 => ?_) (fun c10 => ?_)
        · skip
          exact fk_some F9
        · skip
          refine fk_oc F9 (hR 0 0 0 I13 J13) (fun v15 I15 J15 F11 => ?_)
          refine fk_ite (fun c12 => ?_) (fun c12 => ?_)
          · skip
            refine fk_oc F11 (K_Model_isSecretRow ) (fun v17 I17 J17 F13 => ?_)
            refine fk_oc F13 ?_ (fun v19 I19 J19 F14 => ?_)
            · skip
              refine fk_ite (fun c15 => ?_) (fun c15 => ?_)
              · skip
                exact fk_some (fr_rfl _ _ _)
              · skip
                refine fk_ite (fun c16 => ?_) (fun c16 => ?_)
                · skip
                  exact fk_some (fr_rfl _ _ _)
                · skip
                  refine fk_oc (fr_rfl _ _ _) (K_Model_note ) (fun v22 I22 J22 F17 => ?_)
                  exact fk_some F17
            · skip
              refine fk_oc F14 (K_Model_isSecretRow ) (fun v23 I23 J23 F18 => ?_)
              refine fk_pv (fun v25 => ?_)
              refine fk_oc F18 (K_Model_lay_IIV ) (fun v27 I27 J27 F19 => ?_)
              refine fk_oc F19 (K_Model_want ) (fun v28 I28 J28 F20 => ?_)
              refine fk_ite (fun c21 => ?_) (fun c21 => ?_)
              · skip
                exact fk_some F20
              · skip
                exact fk_none
          · skip
            exact fk_some F11
    · skip
      refine fk_oc F5 (K_Model_refuse ) (fun v30 I30 J30 F22 => ?_)
      refine fk_ite (fun c23 => ?_) (fun c23 => ?_)
      · skip
        exact fk_some F22
      · skip
        exact fk_none
  · skip
    refine fk_oc F3 (K_Model_readRows ) (fun v32 I32 J32 F24 => ?_)
    refine fk_ite (fun c25 => ?_) (fun c25 => ?_)
    · skip
      exact fk_some F24
    · skip
      exact fk_none
theorem K_RcM : ∀ (fu k : Nat) (a b : Int32) (I : MI) (J : MJ), fk sM I J (f_RcM fu k a b I J) := by
  intro fu
  induction fu with
  | zero =>
    intros
    exact fk_none
  | succ fu ih =>
    intro k a b I J
    unfold f_RcM
    refine fk_cond ?_ ?_
    · exact K_Model_readX ih
    refine fk_cond ?_ ?_
    · exact K_Model_readProduct ih
    refine fk_cond ?_ ?_
    · exact K_Model_readFactor ih
    refine fk_cond ?_ ?_
    · exact K_Model_readPart ih
    refine fk_cond ?_ ?_
    · exact K_Model_readPlace ih
    refine fk_cond ?_ ?_
    · exact K_Model_readStatements ih
    refine fk_cond ?_ ?_
    · exact K_Model_readStatement ih
    refine fk_cond ?_ ?_
    · exact K_Model_readRoutine ih
    refine fk_cond ?_ ?_
    · exact K_Model_readValue ih
    refine fk_cond ?_ ?_
    · exact K_Model_readRow ih
    refine fk_cond ?_ ?_
    · exact K_Model_readTurn ih
    exact fk_none
theorem K_Model_compile_47 : ∀ (fu : Nat) {l1 : Int32} {I : MI} {J : MJ}, fk sM I J (f_Model_compile_47  fu l1 I J) := by
  intro fu
  induction fu with
  | zero =>
    intros
    exact fk_none
  | succ fu ih =>
    intro l1 I J 
    unfold f_Model_compile_47
    refine fk_ite (fun c1 => ?_) (fun c1 => ?_)
    · skip
      exact fk_some (fr_rfl _ _ _)
    · skip
      refine fk_ite (fun c2 => ?_) (fun c2 => ?_)
      · skip
        exact fk_none
      · skip
        refine fk_pI (fr_rfl _ _ _) (by decide) (fun I12 F3 => ?_)
        exact fk_tail F3 (ih )
theorem K_Model_compile {I : MI} {J : MJ} : fk sM I J (f_Model_compile  I J) := by
  unfold f_Model_compile
  refine fk_pI (fr_rfl _ _ _) (by decide) (fun I1 F1 => ?_)
  refine fk_pI F1 (by decide) (fun I2 F2 => ?_)
  refine fk_pI F2 (by decide) (fun I3 F3 => ?_)
  refine fk_pI F3 (by decide) (fun I4 F4 => ?_)
  refine fk_pI F4 (by decide) (fun I5 F5 => ?_)
  refine fk_pI F5 (by decide) (fun I6 F6 => ?_)
  refine fk_pI F6 (by decide) (fun I7 F7 => ?_)
  refine fk_pI F7 (by decide) (fun I8 F8 => ?_)
  refine fk_pI F8 (by decide) (fun I9 F9 => ?_)
  refine fk_oc F9 (K_Model_compile_47  gF ) (fun u13 I13 J13 F10 => ?_)
  refine fk_oc F10 (K_RcM 200 5 0 0 I13 J13) (fun v14 I14 J14 F11 => ?_)
  refine fk_oc F11 ?_ (fun v16 I16 J16 F12 => ?_)
  · skip
    refine fk_ite (fun c13 => ?_) (fun c13 => ?_)
    · skip
      exact fk_some (fr_rfl _ _ _)
    · skip
      refine fk_oc (fr_rfl _ _ _) (K_Model_see ) (fun v18 I18 J18 F14 => ?_)
      refine fk_ite (fun c15 => ?_) (fun c15 => ?_)
      · skip
        exact fk_some F14
      · skip
        refine fk_oc F14 (K_Model_refuse ) (fun v20 I20 J20 F16 => ?_)
        refine fk_ite (fun c17 => ?_) (fun c17 => ?_)
        · skip
          exact fk_some F16
        · skip
          exact fk_some F16
  · skip
    refine fk_oc F12 (K_Model_place ) (fun v22 I22 J22 F18 => ?_)
    refine fk_pI F18 (by decide) (fun I23 F19 => ?_)
    refine fk_oc F19 ?_ (fun v25 I25 J25 F20 => ?_)
    · skip
      refine fk_ite (fun c21 => ?_) (fun c21 => ?_)
      · skip
        exact fk_some (fr_rfl _ _ _)
      · skip
        refine fk_ite (fun c22 => ?_) (fun c22 => ?_)
        · skip
          exact fk_some (fr_rfl _ _ _)
        · skip
          refine fk_pI (fr_rfl _ _ _) (by decide) (fun I28 F23 => ?_)
          refine fk_pI F23 (by decide) (fun I29 F24 => ?_)
          exact fk_some F24
    · skip
      refine fk_ite (fun c25 => ?_) (fun c25 => ?_)
      · skip
        refine fk_pI F20 (by decide) (fun I31 F26 => ?_)
        refine fk_oc F26 (K_Model_lay_IV ) (fun v32 I32 J32 F27 => ?_)
        refine fk_oc F27 (K_Model_take (by decide)) (fun v33 I33 J33 F28 => ?_)
        exact fk_some F28
      · skip
        refine fk_oc F20 (K_Model_raise ) (fun v34 I34 J34 F29 => ?_)
        exact fk_some F29
theorem K_Model_isFlowGood_12 : ∀ (fu : Nat) {l1 : Int32} {I : MI} {J : MJ}, fk sM I J (f_Model_isFlowGood_12  fu l1 I J) := by
  intro fu
  induction fu with
  | zero =>
    intros
    exact fk_none
  | succ fu ih =>
    intro l1 I J 
    unfold f_Model_isFlowGood_12
    refine fk_ite (fun c1 => ?_) (fun c1 => ?_)
    · skip
      exact fk_some (fr_rfl _ _ _)
    · skip
      refine fk_ite (fun c2 => ?_) (fun c2 => ?_)
      · skip
        refine fk_oc (fr_rfl _ _ _) (K_Model_flows ) (fun v5 I5 J5 F3 => ?_)
        refine fk_ite (fun c4 => ?_) (fun c4 => ?_)
        · skip
          refine fk_ite (fun c5 => ?_) (fun c5 => ?_)
          · skip
            exact fk_none
          · skip
            refine fk_oc F3 (K_Model_longOf ) (fun v8 I8 J8 F6 => ?_)
            refine fk_pv (fun x9 => ?_)
            exact fk_tail F6 (ih )
        · skip
          exact fk_some F3
      · skip
        refine fk_ite (fun c7 => ?_) (fun c7 => ?_)
        · skip
          exact fk_none
        · skip
          refine fk_ite (fun c8 => ?_) (fun c8 => ?_)
          · skip
            refine fk_oc (fr_rfl _ _ _) (K_Model_refused ) (fun v12 I12 J12 F9 => ?_)
            refine fk_ite (fun c10 => ?_) (fun c10 => ?_)
            · skip
              exact fk_some F9
            · skip
              exact fk_none
          · skip
            refine fk_ite (fun c11 => ?_) (fun c11 => ?_)
            · skip
              exact fk_none
            · skip
              refine fk_ite (fun c12 => ?_) (fun c12 => ?_)
              · skip
                refine fk_oc (fr_rfl _ _ _) (K_Model_refused ) (fun v16 I16 J16 F13 => ?_)
                refine fk_ite (fun c14 => ?_) (fun c14 => ?_)
                · skip
                  exact fk_some F13
                · skip
                  exact fk_none
              · skip
                refine fk_ite (fun c15 => ?_) (fun c15 => ?_)
                · skip
                  exact fk_none
                · skip
                  refine fk_ite (fun c16 => ?_) (fun c16 => ?_)
                  · skip
                    refine fk_oc (fr_rfl _ _ _) (K_Model_refused ) (fun v20 I20 J20 F17 => ?_)
                    refine fk_ite (fun c18 => ?_) (fun c18 => ?_)
                    · skip
                      exact fk_some F17
                    · skip
                      exact fk_none
                  · skip
                    refine fk_ite (fun c19 => ?_) (fun c19 => ?_)
                    · skip
                      exact fk_none
                    · skip
                      refine fk_ite (fun c20 => ?_) (fun c20 => ?_)
                      · skip
                        refine fk_oc (fr_rfl _ _ _) (K_Model_refused ) (fun v24 I24 J24 F21 => ?_)
                        refine fk_ite (fun c22 => ?_) (fun c22 => ?_)
                        · skip
                          exact fk_some F21
                        · skip
                          exact fk_none
                      · skip
                        refine fk_ite (fun c23 => ?_) (fun c23 => ?_)
                        · skip
                          exact fk_none
                        · skip
                          refine fk_ite (fun c24 => ?_) (fun c24 => ?_)
                          · skip
                            refine fk_oc (fr_rfl _ _ _) (K_Model_flows ) (fun v28 I28 J28 F25 => ?_)
                            refine fk_ite (fun c26 => ?_) (fun c26 => ?_)
                            · skip
                              refine fk_ite (fun c27 => ?_) (fun c27 => ?_)
                              · skip
                                exact fk_none
                              · skip
                                refine fk_oc F25 (K_Model_longOf ) (fun v31 I31 J31 F28 => ?_)
                                refine fk_pv (fun x32 => ?_)
                                exact fk_tail F28 (ih )
                            · skip
                              exact fk_some F25
                          · skip
                            refine fk_oc (fr_rfl _ _ _) (K_Model_refused ) (fun v33 I33 J33 F29 => ?_)
                            refine fk_ite (fun c30 => ?_) (fun c30 => ?_)
                            · skip
                              exact fk_some F29
                            · skip
                              exact fk_none
theorem K_Model_isFlowGood {I : MI} {J : MJ} : fk sM I J (f_Model_isFlowGood  I J) := by
  unfold f_Model_isFlowGood
  refine fk_pJ (fr_rfl _ _ _) (by decide) (fun J1 F1 => ?_)
  refine fk_pI F1 (by decide) (fun I2 F2 => ?_)
  refine fk_oc F2 (K_Model_isFlowGood_12  gF ) (fun q35 I35 J35 F3 => ?_)
  refine fk_oe (fun y35 => ?_) (fun u35 => ?_)
  · skip
    exact fk_some F3
  · skip
    refine fk_oc F3 (K_Model_refused ) (fun v36 I36 J36 F4 => ?_)
    refine fk_ite (fun c5 => ?_) (fun c5 => ?_)
    · skip
      exact fk_some F4
    · skip
      exact fk_none
theorem K_Model_deal {p2 : Int32} {p3 : Int32} {I : MI} {J : MJ} : fk sM I J (f_Model_deal p2 p3 I J) := by
  unfold f_Model_deal
  refine fk_oc (fr_rfl _ _ _) ?_ (fun v4 I4 J4 F1 => ?_)
  · skip
    refine fk_ite (fun c2 => ?_) (fun c2 => ?_)
    · skip
      refine fk_oc (fr_rfl _ _ _) (K_Model_isParty ) (fun v6 I6 J6 F3 => ?_)
      refine fk_ite (fun c4 => ?_) (fun c4 => ?_)
      · skip
        exact fk_some F3
      · skip
        refine fk_ite (fun c5 => ?_) (fun c5 => ?_)
        · skip
          exact fk_some F3
        · skip
          refine fk_ite (fun c6 => ?_) (fun c6 => ?_)
          · skip
            exact fk_some F3
          · skip
            refine fk_ite (fun c7 => ?_) (fun c7 => ?_)
            · skip
              exact fk_some F3
            · skip
              exact fk_some F3
    · skip
      refine fk_ite (fun c8 => ?_) (fun c8 => ?_)
      · skip
        refine fk_ite (fun c9 => ?_) (fun c9 => ?_)
        · skip
          exact fk_some (fr_rfl _ _ _)
        · skip
          refine fk_ite (fun c10 => ?_) (fun c10 => ?_)
          · skip
            exact fk_some (fr_rfl _ _ _)
          · skip
            refine fk_ite (fun c11 => ?_) (fun c11 => ?_)
            · skip
              exact fk_some (fr_rfl _ _ _)
            · skip
              exact fk_some (fr_rfl _ _ _)
      · skip
        refine fk_oc (fr_rfl _ _ _) (K_Model_isParty ) (fun v15 I15 J15 F12 => ?_)
        refine fk_ite (fun c13 => ?_) (fun c13 => ?_)
        · skip
          exact fk_some F12
        · skip
          refine fk_ite (fun c14 => ?_) (fun c14 => ?_)
          · skip
            exact fk_some F12
          · skip
            refine fk_ite (fun c15 => ?_) (fun c15 => ?_)
            · skip
              exact fk_some F12
            · skip
              refine fk_ite (fun c16 => ?_) (fun c16 => ?_)
              · skip
                exact fk_some F12
              · skip
                exact fk_some F12
  · skip
    refine fk_ite (fun c17 => ?_) (fun c17 => ?_)
    · skip
      refine fk_oc F1 (K_Model_raise ) (fun v21 I21 J21 F18 => ?_)
      exact fk_some F18
    · skip
      refine fk_oc F1 (K_Model_dealt ) (fun v22 I22 J22 F19 => ?_)
      refine fk_ite (fun c20 => ?_) (fun c20 => ?_)
      · skip
        refine fk_pI F19 (by decide) (fun I24 F21 => ?_)
        refine fk_pI F21 (by decide) (fun I25 F22 => ?_)
        refine fk_ite (fun c23 => ?_) (fun c23 => ?_)
        · skip
          refine fk_ite (fun c24 => ?_) (fun c24 => ?_)
          · skip
            refine fk_ite (fun c25 => ?_) (fun c25 => ?_)
            · skip
              refine fk_ite (fun c26 => ?_) (fun c26 => ?_)
              · skip
                exact fk_none
              · skip
                refine fk_ite (fun c27 => ?_) (fun c27 => ?_)
                · skip
                  exact fk_none
                · skip
                  refine fk_pI F22 (by decide) (fun I31 F28 => ?_)
                  refine fk_ite (fun c29 => ?_) (fun c29 => ?_)
                  · skip
                    exact fk_none
                  · skip
                    refine fk_ite (fun c30 => ?_) (fun c30 => ?_)
                    · skip
                      exact fk_none
                    · skip
                      refine fk_pI F28 (by decide) (fun I34 F31 => ?_)
                      refine fk_ite (fun c32 => ?_) (fun c32 => ?_)
                      · skip
                        exact fk_none
                      · skip
                        exact fk_some F31
            · skip
              refine fk_pI F22 (by decide) (fun I36 F33 => ?_)
              refine fk_oc F33 (K_Model_least (by decide)) (fun v37 I37 J37 F34 => ?_)
              exact fk_some F34
          · skip
            refine fk_pI F22 (by decide) (fun I38 F35 => ?_)
            refine fk_oc F35 (K_Model_least (by decide)) (fun v39 I39 J39 F36 => ?_)
            exact fk_some F36
        · skip
          refine fk_pI F22 (by decide) (fun I40 F37 => ?_)
          refine fk_oc F37 (K_Model_least (by decide)) (fun v41 I41 J41 F38 => ?_)
          exact fk_some F38
      · skip
        refine fk_oc F19 (K_Model_raise ) (fun v42 I42 J42 F39 => ?_)
        exact fk_some F39
theorem K_Model_check {p2 : Int32} {p3 : Int32} {I : MI} {J : MJ} : fk sM I J (f_Model_check p2 p3 I J) := by
  unfold f_Model_check
  refine fk_ite (fun c1 => ?_) (fun c1 => ?_)
  · skip
    exact fk_none
  · skip
    refine fk_pv (fun x2 => ?_)
    refine fk_ite (fun c2 => ?_) (fun c2 => ?_)
    · skip
      refine fk_oc (fr_rfl _ _ _) (K_Model_mails ) (fun v4 I4 J4 F3 => ?_)
      refine fk_ite (fun c4 => ?_) (fun c4 => ?_)
      · skip
        refine fk_oc F3 ?_ (fun v7 I7 J7 F5 => ?_)
        · skip
          refine fk_ite (fun c6 => ?_) (fun c6 => ?_)
          · skip
            exact fk_some (fr_rfl _ _ _)
          · skip
            refine fk_oc (fr_rfl _ _ _) (K_Model_takeOwn ) (fun v9 I9 J9 F7 => ?_)
            refine fk_ite (fun c8 => ?_) (fun c8 => ?_)
            · skip
              exact fk_none
            · skip
              refine fk_pJ F7 (by decide) (fun J11 F9 => ?_)
              refine fk_oc F9 (K_Model_takeOwn ) (fun v12 I12 J12 F10 => ?_)
              refine fk_ite (fun c11 => ?_) (fun c11 => ?_)
              · skip
                exact fk_none
              · skip
                refine fk_pJ F10 (by decide) (fun J14 F12 => ?_)
                exact fk_some F12
        · skip
          refine fk_ite (fun c13 => ?_) (fun c13 => ?_)
          · skip
            exact fk_some F5
          · skip
            refine fk_ite (fun c14 => ?_) (fun c14 => ?_)
            · skip
              exact fk_none
            · skip
              refine fk_ite (fun c15 => ?_) (fun c15 => ?_)
              · skip
                exact fk_none
              · skip
                refine fk_pI F5 (by decide) (fun I18 F16 => ?_)
                exact fk_some F16
      · skip
        exact fk_some F3
    · skip
      refine fk_oc (fr_rfl _ _ _) (K_Model_receive ) (fun v19 I19 J19 F17 => ?_)
      refine fk_ite (fun c18 => ?_) (fun c18 => ?_)
      · skip
        refine fk_oc F17 ?_ (fun v22 I22 J22 F19 => ?_)
        · skip
          refine fk_ite (fun c20 => ?_) (fun c20 => ?_)
          · skip
            exact fk_some (fr_rfl _ _ _)
          · skip
            refine fk_ite (fun c21 => ?_) (fun c21 => ?_)
            · skip
              exact fk_none
            · skip
              refine fk_pI (fr_rfl _ _ _) (by decide) (fun I25 F22 => ?_)
              exact fk_some F22
        · skip
          refine fk_ite (fun c23 => ?_) (fun c23 => ?_)
          · skip
            exact fk_some F19
          · skip
            refine fk_oc F19 (K_Model_sum ) (fun v27 I27 J27 F24 => ?_)
            exact fk_some F24
      · skip
        exact fk_some F17
theorem K_Model_out {p2 : Int32} {p3 : Int32} {p4 : Int32} {I : MI} {J : MJ} : fk sM I J (f_Model_out p2 p3 p4 I J) := by
  unfold f_Model_out
  refine fk_ite (fun c1 => ?_) (fun c1 => ?_)
  · skip
    exact fk_none
  · skip
    refine fk_oc (fr_rfl _ _ _) ?_ (fun v3 I3 J3 F2 => ?_)
    · skip
      refine fk_ite (fun c3 => ?_) (fun c3 => ?_)
      · skip
        exact fk_some (fr_rfl _ _ _)
      · skip
        refine fk_oc (fr_rfl _ _ _) (K_Model_hasOpened ) (fun v5 I5 J5 F4 => ?_)
        refine fk_ite (fun c5 => ?_) (fun c5 => ?_)
        · skip
          exact fk_some F4
        · skip
          refine fk_ite (fun c6 => ?_) (fun c6 => ?_)
          · skip
            exact fk_none
          · skip
            refine fk_pI F4 (by decide) (fun I8 F7 => ?_)
            exact fk_some F7
    · skip
      refine fk_ite (fun c8 => ?_) (fun c8 => ?_)
      · skip
        exact fk_none
      · skip
        refine fk_pv (fun x10 => ?_)
        refine fk_ite (fun c9 => ?_) (fun c9 => ?_)
        · skip
          refine fk_pv (fun v13 => ?_)
          refine fk_oc F2 (K_Model_check ) (fun v15 I15 J15 F10 => ?_)
          refine fk_ite (fun c11 => ?_) (fun c11 => ?_)
          · skip
            refine fk_ite (fun c12 => ?_) (fun c12 => ?_)
            · skip
              exact fk_none
            · skip
              refine fk_pI F10 (by decide) (fun I18 F13 => ?_)
              exact fk_some F13
          · skip
            exact fk_some F10
        · skip
          refine fk_ite (fun c14 => ?_) (fun c14 => ?_)
          · skip
            refine fk_ite (fun c15 => ?_) (fun c15 => ?_)
            · skip
              refine fk_ite (fun c16 => ?_) (fun c16 => ?_)
              · skip
                refine fk_ite (fun c17 => ?_) (fun c17 => ?_)
                · skip
                  exact fk_none
                · skip
                  refine fk_oc F2 ?_ (fun v25 I25 J25 F18 => ?_)
                  · skip
                    refine fk_ite (fun c19 => ?_) (fun c19 => ?_)
                    · skip
                      refine fk_ite (fun c20 => ?_) (fun c20 => ?_)
                      · skip
                        exact fk_none
                      · skip
                        exact fk_some (fr_rfl _ _ _)
                    · skip
                      refine fk_ite (fun c21 => ?_) (fun c21 => ?_)
                      · skip
                        exact fk_none
                      · skip
                        exact fk_some (fr_rfl _ _ _)
                  · skip
                    refine fk_ite (fun c22 => ?_) (fun c22 => ?_)
                    · skip
                      exact fk_none
                    · skip
                      refine fk_pJ F18 (by decide) (fun J30 F23 => ?_)
                      refine fk_ite (fun c24 => ?_) (fun c24 => ?_)
                      · skip
                        exact fk_none
                      · skip
                        refine fk_ite (fun c25 => ?_) (fun c25 => ?_)
                        · skip
                          exact fk_none
                        · skip
                          refine fk_pI F23 (by decide) (fun I33 F26 => ?_)
                          refine fk_oc F26 (K_Model_next ) (fun v34 I34 J34 F27 => ?_)
                          exact fk_some F27
              · skip
                refine fk_ite (fun c28 => ?_) (fun c28 => ?_)
                · skip
                  refine fk_ite (fun c29 => ?_) (fun c29 => ?_)
                  · skip
                    exact fk_none
                  · skip
                    refine fk_oc F2 ?_ (fun v39 I39 J39 F30 => ?_)
                    · skip
                      refine fk_ite (fun c31 => ?_) (fun c31 => ?_)
                      · skip
                        refine fk_ite (fun c32 => ?_) (fun c32 => ?_)
                        · skip
                          exact fk_none
                        · skip
                          exact fk_some (fr_rfl _ _ _)
                      · skip
                        refine fk_ite (fun c33 => ?_) (fun c33 => ?_)
                        · skip
                          exact fk_none
                        · skip
                          exact fk_some (fr_rfl _ _ _)
                    · skip
                      refine fk_ite (fun c34 => ?_) (fun c34 => ?_)
                      · skip
                        exact fk_none
                      · skip
                        refine fk_pJ F30 (by decide) (fun J44 F35 => ?_)
                        refine fk_ite (fun c36 => ?_) (fun c36 => ?_)
                        · skip
                          exact fk_none
                        · skip
                          refine fk_ite (fun c37 => ?_) (fun c37 => ?_)
                          · skip
                            exact fk_none
                          · skip
                            refine fk_pI F35 (by decide) (fun I47 F38 => ?_)
                            refine fk_oc F38 (K_Model_next ) (fun v48 I48 J48 F39 => ?_)
                            exact fk_some F39
                · skip
                  refine fk_oc F2 (K_Model_receive ) (fun v49 I49 J49 F40 => ?_)
                  refine fk_ite (fun c41 => ?_) (fun c41 => ?_)
                  · skip
                    refine fk_ite (fun c42 => ?_) (fun c42 => ?_)
                    · skip
                      exact fk_none
                    · skip
                      refine fk_ite (fun c43 => ?_) (fun c43 => ?_)
                      · skip
                        exact fk_none
                      · skip
                        refine fk_oc F40 (K_Model_error ) (fun v53 I53 J53 F44 => ?_)
                        refine fk_oc F44 (K_Model_plus ) (fun v54 I54 J54 F45 => ?_)
                        refine fk_ite (fun c46 => ?_) (fun c46 => ?_)
                        · skip
                          exact fk_none
                        · skip
                          refine fk_pJ F45 (by decide) (fun J56 F47 => ?_)
                          refine fk_ite (fun c48 => ?_) (fun c48 => ?_)
                          · skip
                            exact fk_none
                          · skip
                            refine fk_ite (fun c49 => ?_) (fun c49 => ?_)
                            · skip
                              exact fk_none
                            · skip
                              refine fk_pI F47 (by decide) (fun I59 F50 => ?_)
                              refine fk_ite (fun c51 => ?_) (fun c51 => ?_)
                              · skip
                                exact fk_none
                              · skip
                                refine fk_pI F50 (by decide) (fun I61 F52 => ?_)
                                exact fk_some F52
                  · skip
                    exact fk_some F40
            · skip
              refine fk_ite (fun c53 => ?_) (fun c53 => ?_)
              · skip
                refine fk_ite (fun c54 => ?_) (fun c54 => ?_)
                · skip
                  refine fk_ite (fun c55 => ?_) (fun c55 => ?_)
                  · skip
                    exact fk_none
                  · skip
                    refine fk_oc F2 ?_ (fun v67 I67 J67 F56 => ?_)
                    · skip
                      refine fk_ite (fun c57 => ?_) (fun c57 => ?_)
                      · skip
                        refine fk_ite (fun c58 => ?_) (fun c58 => ?_)
                        · skip
                          exact fk_none
                        · skip
                          exact fk_some (fr_rfl _ _ _)
                      · skip
                        refine fk_ite (fun c59 => ?_) (fun c59 => ?_)
                        · skip
                          exact fk_none
                        · skip
                          exact fk_some (fr_rfl _ _ _)
                    · skip
                      refine fk_ite (fun c60 => ?_) (fun c60 => ?_)
                      · skip
                        exact fk_none
                      · skip
                        refine fk_pJ F56 (by decide) (fun J72 F61 => ?_)
                        refine fk_ite (fun c62 => ?_) (fun c62 => ?_)
                        · skip
                          exact fk_none
                        · skip
                          refine fk_ite (fun c63 => ?_) (fun c63 => ?_)
                          · skip
                            exact fk_none
                          · skip
                            refine fk_pI F61 (by decide) (fun I75 F64 => ?_)
                            refine fk_oc F64 (K_Model_next ) (fun v76 I76 J76 F65 => ?_)
                            exact fk_some F65
                · skip
                  refine fk_ite (fun c66 => ?_) (fun c66 => ?_)
                  · skip
                    refine fk_ite (fun c67 => ?_) (fun c67 => ?_)
                    · skip
                      exact fk_none
                    · skip
                      refine fk_oc F2 ?_ (fun v81 I81 J81 F68 => ?_)
                      · skip
                        refine fk_ite (fun c69 => ?_) (fun c69 => ?_)
                        · skip
                          refine fk_ite (fun c70 => ?_) (fun c70 => ?_)
                          · skip
                            exact fk_none
                          · skip
                            exact fk_some (fr_rfl _ _ _)
                        · skip
                          refine fk_ite (fun c71 => ?_) (fun c71 => ?_)
                          · skip
                            exact fk_none
                          · skip
                            exact fk_some (fr_rfl _ _ _)
                      · skip
                        refine fk_ite (fun c72 => ?_) (fun c72 => ?_)
                        · skip
                          exact fk_none
                        · skip
                          refine fk_pJ F68 (by decide) (fun J86 F73 => ?_)
                          refine fk_ite (fun c74 => ?_) (fun c74 => ?_)
                          · skip
                            exact fk_none
                          · skip
                            refine fk_ite (fun c75 => ?_) (fun c75 => ?_)
                            · skip
                              exact fk_none
                            · skip
                              refine fk_pI F73 (by decide) (fun I89 F76 => ?_)
                              refine fk_oc F76 (K_Model_next ) (fun v90 I90 J90 F77 => ?_)
                              exact fk_some F77
                  · skip
                    refine fk_oc F2 (K_Model_receive ) (fun v91 I91 J91 F78 => ?_)
                    refine fk_ite (fun c79 => ?_) (fun c79 => ?_)
                    · skip
                      refine fk_ite (fun c80 => ?_) (fun c80 => ?_)
                      · skip
                        exact fk_none
                      · skip
                        refine fk_ite (fun c81 => ?_) (fun c81 => ?_)
                        · skip
                          exact fk_none
                        · skip
                          refine fk_oc F78 (K_Model_error ) (fun v95 I95 J95 F82 => ?_)
                          refine fk_oc F82 (K_Model_plus ) (fun v96 I96 J96 F83 => ?_)
                          refine fk_ite (fun c84 => ?_) (fun c84 => ?_)
                          · skip
                            exact fk_none
                          · skip
                            refine fk_pJ F83 (by decide) (fun J98 F85 => ?_)
                            refine fk_ite (fun c86 => ?_) (fun c86 => ?_)
                            · skip
                              exact fk_none
                            · skip
                              refine fk_ite (fun c87 => ?_) (fun c87 => ?_)
                              · skip
                                exact fk_none
                              · skip
                                refine fk_pI F85 (by decide) (fun I101 F88 => ?_)
                                refine fk_ite (fun c89 => ?_) (fun c89 => ?_)
                                · skip
                                  exact fk_none
                                · skip
                                  refine fk_pI F88 (by decide) (fun I103 F90 => ?_)
                                  exact fk_some F90
                    · skip
                      exact fk_some F78
              · skip
                refine fk_oc F2 (K_Model_send ) (fun v104 I104 J104 F91 => ?_)
                refine fk_ite (fun c92 => ?_) (fun c92 => ?_)
                · skip
                  refine fk_ite (fun c93 => ?_) (fun c93 => ?_)
                  · skip
                    exact fk_none
                  · skip
                    refine fk_pI F91 (by decide) (fun I107 F94 => ?_)
                    exact fk_some F94
                · skip
                  exact fk_some F91
          · skip
            refine fk_ite (fun c95 => ?_) (fun c95 => ?_)
            · skip
              refine fk_ite (fun c96 => ?_) (fun c96 => ?_)
              · skip
                refine fk_ite (fun c97 => ?_) (fun c97 => ?_)
                · skip
                  refine fk_ite (fun c98 => ?_) (fun c98 => ?_)
                  · skip
                    exact fk_none
                  · skip
                    refine fk_oc F2 ?_ (fun v114 I114 J114 F99 => ?_)
                    · skip
                      refine fk_ite (fun c100 => ?_) (fun c100 => ?_)
                      · skip
                        refine fk_ite (fun c101 => ?_) (fun c101 => ?_)
                        · skip
                          exact fk_none
                        · skip
                          exact fk_some (fr_rfl _ _ _)
                      · skip
                        refine fk_ite (fun c102 => ?_) (fun c102 => ?_)
                        · skip
                          exact fk_none
                        · skip
                          exact fk_some (fr_rfl _ _ _)
                    · skip
                      refine fk_ite (fun c103 => ?_) (fun c103 => ?_)
                      · skip
                        exact fk_none
                      · skip
                        refine fk_pJ F99 (by decide) (fun J119 F104 => ?_)
                        refine fk_ite (fun c105 => ?_) (fun c105 => ?_)
                        · skip
                          exact fk_none
                        · skip
                          refine fk_ite (fun c106 => ?_) (fun c106 => ?_)
                          · skip
                            exact fk_none
                          · skip
                            refine fk_pI F104 (by decide) (fun I122 F107 => ?_)
                            refine fk_oc F107 (K_Model_next ) (fun v123 I123 J123 F108 => ?_)
                            exact fk_some F108
                · skip
                  refine fk_ite (fun c109 => ?_) (fun c109 => ?_)
                  · skip
                    refine fk_ite (fun c110 => ?_) (fun c110 => ?_)
                    · skip
                      exact fk_none
                    · skip
                      refine fk_oc F2 ?_ (fun v128 I128 J128 F111 => ?_)
                      · skip
                        refine fk_ite (fun c112 => ?_) (fun c112 => ?_)
                        · skip
                          refine fk_ite (fun c113 => ?_) (fun c113 => ?_)
                          · skip
                            exact fk_none
                          · skip
                            exact fk_some (fr_rfl _ _ _)
                        · skip
                          refine fk_ite (fun c114 => ?_) (fun c114 => ?_)
                          · skip
                            exact fk_none
                          · skip
                            exact fk_some (fr_rfl _ _ _)
                      · skip
                        refine fk_ite (fun c115 => ?_) (fun c115 => ?_)
                        · skip
                          exact fk_none
                        · skip
                          refine fk_pJ F111 (by decide) (fun J133 F116 => ?_)
                          refine fk_ite (fun c117 => ?_) (fun c117 => ?_)
                          · skip
                            exact fk_none
                          · skip
                            refine fk_ite (fun c118 => ?_) (fun c118 => ?_)
                            · skip
                              exact fk_none
                            · skip
                              refine fk_pI F116 (by decide) (fun I136 F119 => ?_)
                              refine fk_oc F119 (K_Model_next ) (fun v137 I137 J137 F120 => ?_)
                              exact fk_some F120
                  · skip
                    refine fk_oc F2 (K_Model_receive ) (fun v138 I138 J138 F121 => ?_)
                    refine fk_ite (fun c122 => ?_) (fun c122 => ?_)
                    · skip
                      refine fk_ite (fun c123 => ?_) (fun c123 => ?_)
                      · skip
                        exact fk_none
                      · skip
                        refine fk_ite (fun c124 => ?_) (fun c124 => ?_)
                        · skip
                          exact fk_none
                        · skip
                          refine fk_oc F121 (K_Model_error ) (fun v142 I142 J142 F125 => ?_)
                          refine fk_oc F125 (K_Model_plus ) (fun v143 I143 J143 F126 => ?_)
                          refine fk_ite (fun c127 => ?_) (fun c127 => ?_)
                          · skip
                            exact fk_none
                          · skip
                            refine fk_pJ F126 (by decide) (fun J145 F128 => ?_)
                            refine fk_ite (fun c129 => ?_) (fun c129 => ?_)
                            · skip
                              exact fk_none
                            · skip
                              refine fk_ite (fun c130 => ?_) (fun c130 => ?_)
                              · skip
                                exact fk_none
                              · skip
                                refine fk_pI F128 (by decide) (fun I148 F131 => ?_)
                                refine fk_ite (fun c132 => ?_) (fun c132 => ?_)
                                · skip
                                  exact fk_none
                                · skip
                                  refine fk_pI F131 (by decide) (fun I150 F133 => ?_)
                                  exact fk_some F133
                    · skip
                      exact fk_some F121
              · skip
                refine fk_ite (fun c134 => ?_) (fun c134 => ?_)
                · skip
                  refine fk_ite (fun c135 => ?_) (fun c135 => ?_)
                  · skip
                    refine fk_ite (fun c136 => ?_) (fun c136 => ?_)
                    · skip
                      exact fk_none
                    · skip
                      refine fk_oc F2 ?_ (fun v156 I156 J156 F137 => ?_)
                      · skip
                        refine fk_ite (fun c138 => ?_) (fun c138 => ?_)
                        · skip
                          refine fk_ite (fun c139 => ?_) (fun c139 => ?_)
                          · skip
                            exact fk_none
                          · skip
                            exact fk_some (fr_rfl _ _ _)
                        · skip
                          refine fk_ite (fun c140 => ?_) (fun c140 => ?_)
                          · skip
                            exact fk_none
                          · skip
                            exact fk_some (fr_rfl _ _ _)
                      · skip
                        refine fk_ite (fun c141 => ?_) (fun c141 => ?_)
                        · skip
                          exact fk_none
                        · skip
                          refine fk_pJ F137 (by decide) (fun J161 F142 => ?_)
                          refine fk_ite (fun c143 => ?_) (fun c143 => ?_)
                          · skip
                            exact fk_none
                          · skip
                            refine fk_ite (fun c144 => ?_) (fun c144 => ?_)
                            · skip
                              exact fk_none
                            · skip
                              refine fk_pI F142 (by decide) (fun I164 F145 => ?_)
                              refine fk_oc F145 (K_Model_next ) (fun v165 I165 J165 F146 => ?_)
                              exact fk_some F146
                  · skip
                    refine fk_ite (fun c147 => ?_) (fun c147 => ?_)
                    · skip
                      refine fk_ite (fun c148 => ?_) (fun c148 => ?_)
                      · skip
                        exact fk_none
                      · skip
                        refine fk_oc F2 ?_ (fun v170 I170 J170 F149 => ?_)
                        · skip
                          refine fk_ite (fun c150 => ?_) (fun c150 => ?_)
                          · skip
                            refine fk_ite (fun c151 => ?_) (fun c151 => ?_)
                            · skip
                              exact fk_none
                            · skip
                              exact fk_some (fr_rfl _ _ _)
                          · skip
                            refine fk_ite (fun c152 => ?_) (fun c152 => ?_)
                            · skip
                              exact fk_none
                            · skip
                              exact fk_some (fr_rfl _ _ _)
                        · skip
                          refine fk_ite (fun c153 => ?_) (fun c153 => ?_)
                          · skip
                            exact fk_none
                          · skip
                            refine fk_pJ F149 (by decide) (fun J175 F154 => ?_)
                            refine fk_ite (fun c155 => ?_) (fun c155 => ?_)
                            · skip
                              exact fk_none
                            · skip
                              refine fk_ite (fun c156 => ?_) (fun c156 => ?_)
                              · skip
                                exact fk_none
                              · skip
                                refine fk_pI F154 (by decide) (fun I178 F157 => ?_)
                                refine fk_oc F157 (K_Model_next ) (fun v179 I179 J179 F158 => ?_)
                                exact fk_some F158
                    · skip
                      refine fk_oc F2 (K_Model_receive ) (fun v180 I180 J180 F159 => ?_)
                      refine fk_ite (fun c160 => ?_) (fun c160 => ?_)
                      · skip
                        refine fk_ite (fun c161 => ?_) (fun c161 => ?_)
                        · skip
                          exact fk_none
                        · skip
                          refine fk_ite (fun c162 => ?_) (fun c162 => ?_)
                          · skip
                            exact fk_none
                          · skip
                            refine fk_oc F159 (K_Model_error ) (fun v184 I184 J184 F163 => ?_)
                            refine fk_oc F163 (K_Model_plus ) (fun v185 I185 J185 F164 => ?_)
                            refine fk_ite (fun c165 => ?_) (fun c165 => ?_)
                            · skip
                              exact fk_none
                            · skip
                              refine fk_pJ F164 (by decide) (fun J187 F166 => ?_)
                              refine fk_ite (fun c167 => ?_) (fun c167 => ?_)
                              · skip
                                exact fk_none
                              · skip
                                refine fk_ite (fun c168 => ?_) (fun c168 => ?_)
                                · skip
                                  exact fk_none
                                · skip
                                  refine fk_pI F166 (by decide) (fun I190 F169 => ?_)
                                  refine fk_ite (fun c170 => ?_) (fun c170 => ?_)
                                  · skip
                                    exact fk_none
                                  · skip
                                    refine fk_pI F169 (by decide) (fun I192 F171 => ?_)
                                    exact fk_some F171
                      · skip
                        exact fk_some F159
                · skip
                  refine fk_oc F2 (K_Model_send ) (fun v193 I193 J193 F172 => ?_)
                  refine fk_ite (fun c173 => ?_) (fun c173 => ?_)
                  · skip
                    refine fk_ite (fun c174 => ?_) (fun c174 => ?_)
                    · skip
                      exact fk_none
                    · skip
                      refine fk_pI F172 (by decide) (fun I196 F175 => ?_)
                      exact fk_some F175
                  · skip
                    exact fk_some F172
            · skip
              refine fk_pv (fun v198 => ?_)
              refine fk_oc F2 (K_Model_check ) (fun v200 I200 J200 F176 => ?_)
              refine fk_ite (fun c177 => ?_) (fun c177 => ?_)
              · skip
                refine fk_ite (fun c178 => ?_) (fun c178 => ?_)
                · skip
                  exact fk_none
                · skip
                  refine fk_pI F176 (by decide) (fun I203 F179 => ?_)
                  exact fk_some F179
              · skip
                exact fk_some F176
theorem K_Check_startAnew {w1 : Nat} {I : MI} {J : MJ} (h_w1 : w1 < 4) : fk sC I J (f_Check_startAnew w1 I J) := by
  unfold f_Check_startAnew
  refine fk_pI (fr_rfl _ _ _) (sC_p (by decide) h_w1) (fun I1 F1 => ?_)
  refine fk_pI F1 (sC_p (by decide) h_w1) (fun I2 F2 => ?_)
  refine fk_oc F2 (K_Check_forget h_w1) (fun v3 I3 J3 F3 => ?_)
  exact fk_some F3
theorem K_Digest_next {p2 : Int64} {p3 : Int64} {I : MI} {J : MJ} : fk sC I J (f_Digest_next p2 p3 I J) := by
  unfold f_Digest_next
  refine fk_oc (fr_rfl _ _ _) (K_Digest_spread ) (fun v1 I1 J1 F1 => ?_)
  refine fk_oc F1 (K_Digest_stir ) (fun v2 I2 J2 F2 => ?_)
  refine fk_ite (fun c3 => ?_) (fun c3 => ?_)
  · skip
    exact fk_none
  · skip
    refine fk_ite (fun c4 => ?_) (fun c4 => ?_)
    · skip
      exact fk_none
    · skip
      exact fk_some F2
theorem K_Digest_byteOf {p2 : Int64} {p3 : Int64} {p4 : Int32} {I : MI} {J : MJ} : fk sC I J (f_Digest_byteOf p2 p3 p4 I J) := by
  unfold f_Digest_byteOf
  refine fk_oc (fr_rfl _ _ _) (K_Digest_spread ) (fun v1 I1 J1 F1 => ?_)
  refine fk_oc F1 (K_Digest_stir ) (fun v2 I2 J2 F2 => ?_)
  refine fk_pv (fun x3 => ?_)
  refine fk_ite (fun c3 => ?_) (fun c3 => ?_)
  · skip
    exact fk_some F2
  · skip
    refine fk_ite (fun c4 => ?_) (fun c4 => ?_)
    · skip
      exact fk_some F2
    · skip
      refine fk_ite (fun c5 => ?_) (fun c5 => ?_)
      · skip
        exact fk_none
      · skip
        exact fk_some F2
theorem K_Hall_renew_38 {p2 : Int32} {p3 : Int64} {p4 : Int32} : ∀ (fu : Nat) {l5 : Int32} {I : MI} {J : MJ}, fk sC I J (f_Hall_renew_38 p2 p3 p4 fu l5 I J) := by
  intro fu
  induction fu with
  | zero =>
    intros
    exact fk_none
  | succ fu ih =>
    intro l5 I J 
    unfold f_Hall_renew_38
    refine fk_ite (fun c1 => ?_) (fun c1 => ?_)
    · skip
      exact fk_some (fr_rfl _ _ _)
    · skip
      refine fk_ite (fun c2 => ?_) (fun c2 => ?_)
      · skip
        exact fk_none
      · skip
        refine fk_oc (fr_rfl _ _ _) (K_Stock_wipe (vp_lt c2)) (fun v9 I9 J9 F3 => ?_)
        refine fk_ite (fun c4 => ?_) (fun c4 => ?_)
        · skip
          exact fk_none
        · skip
          refine fk_pI F3 (sC_p (by decide) (vp_lt c4)) (fun I11 F5 => ?_)
          exact fk_tail F5 (ih )
theorem K_Hall_renew {p2 : Int32} {p3 : Int64} {p4 : Int32} {I : MI} {J : MJ} : fk sC I J (f_Hall_renew p2 p3 p4 I J) := by
  unfold f_Hall_renew
  refine fk_pI (fr_rfl _ _ _) (by decide) (fun I1 F1 => ?_)
  refine fk_pJ F1 (by decide) (fun J2 F2 => ?_)
  refine fk_pI F2 (by decide) (fun I3 F3 => ?_)
  refine fk_pI F3 (by decide) (fun I4 F4 => ?_)
  refine fk_oc F4 (K_Row_wipe (by decide) (by decide)) (fun v5 I5 J5 F5 => ?_)
  refine fk_oc F5 (K_Sh_zeroInts (by decide)) (fun v6 I6 J6 F6 => ?_)
  refine fk_oc F6 (K_Hall_renew_38  gF ) (fun u12 I12 J12 F7 => ?_)
  exact fk_some F7
theorem K_Hall_take {r2 : Nat} {b2 : Nat} {m2 : Nat} {I : MI} {J : MJ} (h_r2 : ¬ sC r2) (h_b2 : ¬ sC b2) : fk sC I J (f_Hall_take r2 b2 m2 I J) := by
  unfold f_Hall_take
  refine fk_pI (fr_rfl _ _ _) (by decide) (fun I1 F1 => ?_)
  refine fk_oc F1 (K_Row_copy (by decide) (by decide) h_r2 h_b2) (fun v2 I2 J2 F2 => ?_)
  exact fk_some F2
theorem K_Hall_mostLeft_4 {p2 : Int32} : ∀ (fu : Nat) {l1 : Int32} {l2 : Int32} {l3 : Int32} {I : MI} {J : MJ}, fk sC I J (f_Hall_mostLeft_4 p2 fu l1 l2 l3 I J) := by
  intro fu
  induction fu with
  | zero =>
    intros
    exact fk_none
  | succ fu ih =>
    intro l1 l2 l3 I J 
    unfold f_Hall_mostLeft_4
    refine fk_ite (fun c1 => ?_) (fun c1 => ?_)
    · skip
      exact fk_some (fr_rfl _ _ _)
    · skip
      refine fk_ite (fun c2 => ?_) (fun c2 => ?_)
      · skip
        exact fk_none
      · skip
        refine fk_oc (fr_rfl _ _ _) (K_Hall_left (vp_lt c2)) (fun v3 I3 J3 F3 => ?_)
        refine fk_pv (fun x4 => ?_)
        exact fk_tail F3 (ih )
theorem K_Hall_mostLeft {p2 : Int32} {I : MI} {J : MJ} : fk sC I J (f_Hall_mostLeft p2 I J) := by
  unfold f_Hall_mostLeft
  refine fk_oc (fr_rfl _ _ _) (K_Hall_mostLeft_4  gF ) (fun u5 I5 J5 F1 => ?_)
  exact fk_some F1
theorem K_Hall_firstPhase {w2 : Nat} {p3 : Int32} {I : MI} {J : MJ} (h_w2 : w2 < 4) : fk sC I J (f_Hall_firstPhase w2 p3 I J) := by
  unfold f_Hall_firstPhase
  refine fk_ite (fun c1 => ?_) (fun c1 => ?_)
  · skip
    refine fk_ite (fun c2 => ?_) (fun c2 => ?_)
    · skip
      refine fk_ite (fun c3 => ?_) (fun c3 => ?_)
      · skip
        exact fk_some (fr_rfl _ _ _)
      · skip
        exact fk_some (fr_rfl _ _ _)
    · skip
      refine fk_ite (fun c4 => ?_) (fun c4 => ?_)
      · skip
        exact fk_some (fr_rfl _ _ _)
      · skip
        refine fk_ite (fun c5 => ?_) (fun c5 => ?_)
        · skip
          exact fk_some (fr_rfl _ _ _)
        · skip
          exact fk_some (fr_rfl _ _ _)
  · skip
    refine fk_oc (fr_rfl _ _ _) (K_Row_at (by decide) (by decide)) (fun v6 I6 J6 F6 => ?_)
    refine fk_ite (fun c7 => ?_) (fun c7 => ?_)
    · skip
      exact fk_some F6
    · skip
      exact fk_some F6
theorem K_Hall_isShared {w2 : Nat} {p3 : Int32} {I : MI} {J : MJ} (h_w2 : w2 < 4) : fk sC I J (f_Hall_isShared w2 p3 I J) := by
  unfold f_Hall_isShared
  refine fk_ite (fun c1 => ?_) (fun c1 => ?_)
  · skip
    exact fk_some (fr_rfl _ _ _)
  · skip
    refine fk_ite (fun c2 => ?_) (fun c2 => ?_)
    · skip
      refine fk_oc (fr_rfl _ _ _) (K_Hall_firstArrayAt h_w2) (fun v3 I3 J3 F3 => ?_)
      refine fk_oc F3 (K_Row_at (by decide) (by decide)) (fun v4 I4 J4 F4 => ?_)
      refine fk_ite (fun c5 => ?_) (fun c5 => ?_)
      · skip
        exact fk_some F4
      · skip
        refine fk_oc F4 (K_Row_at (by decide) (by decide)) (fun v6 I6 J6 F6 => ?_)
        refine fk_ite (fun c7 => ?_) (fun c7 => ?_)
        · skip
          exact fk_some F6
        · skip
          exact fk_some F6
    · skip
      exact fk_some (fr_rfl _ _ _)
theorem K_Hall_joinArrays_26 {w2 : Nat} {p3 : Int32} (h_w2 : w2 < 4) : ∀ (fu : Nat) {l2 : Int32} {l4 : Int32} {l5 : Int32} {l6 : Int64} {l8 : Int32} {I : MI} {J : MJ}, fk sC I J (f_Hall_joinArrays_26 w2 p3 fu l2 l4 l5 l6 l8 I J) := by
  intro fu
  induction fu with
  | zero =>
    intros
    exact fk_none
  | succ fu ih =>
    intro l2 l4 l5 l6 l8 I J 
    unfold f_Hall_joinArrays_26
    refine fk_ite (fun c1 => ?_) (fun c1 => ?_)
    · skip
      exact fk_some (fr_rfl _ _ _)
    · skip
      refine fk_ite (fun c2 => ?_) (fun c2 => ?_)
      · skip
        exact fk_some (fr_rfl _ _ _)
      · skip
        refine fk_oc (fr_rfl _ _ _) (K_Row_at (by decide) (by decide)) (fun v5 I5 J5 F3 => ?_)
        refine fk_oc F3 (K_Memory_cell h_w2) (fun v6 I6 J6 F4 => ?_)
        refine fk_oc F4 (K_Row_at (by decide) (by decide)) (fun v7 I7 J7 F5 => ?_)
        refine fk_oc F5 (K_Memory_cell h_w2) (fun v8 I8 J8 F6 => ?_)
        refine fk_oc F6 ?_ (fun v10 I10 J10 F7 => ?_)
        · skip
          refine fk_ite (fun c8 => ?_) (fun c8 => ?_)
          · skip
            exact fk_some (fr_rfl _ _ _)
          · skip
            refine fk_ite (fun c9 => ?_) (fun c9 => ?_)
            · skip
              exact fk_none
            · skip
              refine fk_oc (fr_rfl _ _ _) (K_Sh_plus ) (fun v13 I13 J13 F10 => ?_)
              refine fk_ite (fun c11 => ?_) (fun c11 => ?_)
              · skip
                exact fk_none
              · skip
                refine fk_oc F10 (K_Sh_plus ) (fun v15 I15 J15 F12 => ?_)
                exact fk_some F12
        · skip
          refine fk_ite (fun c13 => ?_) (fun c13 => ?_)
          · skip
            refine fk_oc F7 (K_Row_at (by decide) (by decide)) (fun v17 I17 J17 F14 => ?_)
            refine fk_oc F14 (K_Hall_joined ) (fun v18 I18 J18 F15 => ?_)
            refine fk_oc F15 (K_Memory_setCell h_w2) (fun v19 I19 J19 F16 => ?_)
            exact fk_tail F16 (ih )
          · skip
            refine fk_oc F7 (K_Sh_times ) (fun v20 I20 J20 F17 => ?_)
            refine fk_oc F17 (K_Sh_plus ) (fun v21 I21 J21 F18 => ?_)
            exact fk_tail F18 (ih )
theorem K_Hall_joinArrays {w2 : Nat} {p3 : Int32} {I : MI} {J : MJ} (h_w2 : w2 < 4) : fk sC I J (f_Hall_joinArrays w2 p3 I J) := by
  unfold f_Hall_joinArrays
  refine fk_oc (fr_rfl _ _ _) (K_Hall_firstArrayAt h_w2) (fun v1 I1 J1 F1 => ?_)
  refine fk_oc F1 (K_Hall_isShared h_w2) (fun v2 I2 J2 F2 => ?_)
  refine fk_oc F2 (K_Hall_joinArrays_26 h_w2 gF ) (fun u22 I22 J22 F3 => ?_)
  refine fk_ite (fun c4 => ?_) (fun c4 => ?_)
  · skip
    exact fk_some F3
  · skip
    refine fk_oc F3 (K_Memory_push h_w2) (fun v24 I24 J24 F5 => ?_)
    exact fk_some F5
theorem K_Hall_visitPlace {w1 : Nat} {p2 : Int32} {p3 : Int32} {I : MI} {J : MJ} (h_w1 : w1 < 4) : fk sC I J (f_Hall_visitPlace w1 p2 p3 I J) := by
  unfold f_Hall_visitPlace
  refine fk_pv (fun x1 => ?_)
  refine fk_ite (fun c1 => ?_) (fun c1 => ?_)
  · skip
    refine fk_ite (fun c2 => ?_) (fun c2 => ?_)
    · skip
      refine fk_oc (fr_rfl _ _ _) (K_Memory_pop h_w1) (fun v4 I4 J4 F3 => ?_)
      refine fk_pv (fun v6 => ?_)
      refine fk_oc F3 (K_Memory_pop h_w1) (fun v8 I8 J8 F4 => ?_)
      refine fk_oc F4 (K_Memory_setCell h_w1) (fun v9 I9 J9 F5 => ?_)
      exact fk_some F5
    · skip
      refine fk_oc (fr_rfl _ _ _) (K_Memory_pop h_w1) (fun v10 I10 J10 F6 => ?_)
      refine fk_oc F6 (K_Memory_cell h_w1) (fun v11 I11 J11 F7 => ?_)
      refine fk_oc F7 (K_Memory_push h_w1) (fun v12 I12 J12 F8 => ?_)
      exact fk_some F8
  · skip
    refine fk_oc (fr_rfl _ _ _) (K_Memory_pop h_w1) (fun v13 I13 J13 F9 => ?_)
    refine fk_oc F9 (K_Memory_cell h_w1) (fun v14 I14 J14 F10 => ?_)
    refine fk_oc F10 (K_Memory_push h_w1) (fun v15 I15 J15 F11 => ?_)
    exact fk_some F11
theorem K_Hall_nextBit {w2 : Nat} {I : MI} {J : MJ} (h_w2 : w2 < 4) : fk sC I J (f_Hall_nextBit w2 I J) := by
  unfold f_Hall_nextBit
  refine fk_ite (fun c1 => ?_) (fun c1 => ?_)
  · skip
    exact fk_none
  · skip
    refine fk_pv (fun x2 => ?_)
    refine fk_ite (fun c2 => ?_) (fun c2 => ?_)
    · skip
      exact fk_none
    · skip
      refine fk_ite (fun c3 => ?_) (fun c3 => ?_)
      · skip
        exact fk_none
      · skip
        refine fk_pI (fr_rfl _ _ _) (sC_p (by decide) h_w2) (fun I5 F4 => ?_)
        refine fk_oc F4 (K_Digest_next ) (fun v6 I6 J6 F5 => ?_)
        exact fk_some F5
theorem K_Hall_jump {w2 : Nat} {p3 : Int32} {p4 : Int32} {I : MI} {J : MJ} (h_w2 : w2 < 4) : fk sC I J (f_Hall_jump w2 p3 p4 I J) := by
  unfold f_Hall_jump
  refine fk_pv (fun x1 => ?_)
  refine fk_ite (fun c1 => ?_) (fun c1 => ?_)
  · skip
    refine fk_ite (fun c2 => ?_) (fun c2 => ?_)
    · skip
      refine fk_oc (fr_rfl _ _ _) ?_ (fun v5 I5 J5 F3 => ?_)
      · skip
        refine fk_ite (fun c4 => ?_) (fun c4 => ?_)
        · skip
          exact fk_some (fr_rfl _ _ _)
        · skip
          refine fk_oc (fr_rfl _ _ _) (K_Memory_keep h_w2) (fun v7 I7 J7 F5 => ?_)
          exact fk_some F5
      · skip
        refine fk_oc F3 (K_Row_target (by decide) (by decide)) (fun v8 I8 J8 F6 => ?_)
        exact fk_some F6
    · skip
      refine fk_oc (fr_rfl _ _ _) (K_Memory_lastKept h_w2) (fun v9 I9 J9 F7 => ?_)
      exact fk_some F7
  · skip
    refine fk_oc (fr_rfl _ _ _) (K_Row_at (by decide) (by decide)) (fun v10 I10 J10 F8 => ?_)
    refine fk_oc F8 (K_Sh_read (sC_p (by decide) h_w2)) (fun v11 I11 J11 F9 => ?_)
    refine fk_ite (fun c10 => ?_) (fun c10 => ?_)
    · skip
      exact fk_some F9
    · skip
      refine fk_oc F9 (K_Row_target (by decide) (by decide)) (fun v13 I13 J13 F11 => ?_)
      exact fk_some F11
theorem K_Hall_weightedErrors_8 {w2 : Nat} (h_w2 : w2 < 4) : ∀ (fu : Nat) {l2 : Int64} {l4 : Int64} {l6 : Int32} {I : MI} {J : MJ}, fk sC I J (f_Hall_weightedErrors_8 w2 fu l2 l4 l6 I J) := by
  intro fu
  induction fu with
  | zero =>
    intros
    exact fk_none
  | succ fu ih =>
    intro l2 l4 l6 I J 
    unfold f_Hall_weightedErrors_8
    refine fk_ite (fun c1 => ?_) (fun c1 => ?_)
    · skip
      exact fk_some (fr_rfl _ _ _)
    · skip
      refine fk_oc (fr_rfl _ _ _) (K_Digest_next ) (fun v2 I2 J2 F2 => ?_)
      refine fk_oc F2 (K_Sh_plus ) (fun v3 I3 J3 F3 => ?_)
      refine fk_oc F3 (K_Hall_ownSeed ) (fun v4 I4 J4 F4 => ?_)
      refine fk_ite (fun c5 => ?_) (fun c5 => ?_)
      · skip
        exact fk_none
      · skip
        refine fk_oc F4 (K_Digest_next ) (fun v6 I6 J6 F6 => ?_)
        refine fk_oc F6 (K_Sh_plus ) (fun v7 I7 J7 F7 => ?_)
        exact fk_tail F7 (ih )
theorem K_Hall_weightedErrors_76 {w2 : Nat} (h_w2 : w2 < 4) : ∀ (fu : Nat) {l2 : Int64} {l4 : Int64} {l6 : Int64} {l8 : Int32} {I : MI} {J : MJ}, fk sC I J (f_Hall_weightedErrors_76 w2 fu l2 l4 l6 l8 I J) := by
  intro fu
  induction fu with
  | zero =>
    intros
    exact fk_none
  | succ fu ih =>
    intro l2 l4 l6 l8 I J 
    unfold f_Hall_weightedErrors_76
    refine fk_ite (fun c1 => ?_) (fun c1 => ?_)
    · skip
      exact fk_some (fr_rfl _ _ _)
    · skip
      refine fk_ite (fun c2 => ?_) (fun c2 => ?_)
      · skip
        exact fk_some (fr_rfl _ _ _)
      · skip
        refine fk_ite (fun c3 => ?_) (fun c3 => ?_)
        · skip
          exact fk_none
        · skip
          refine fk_oc (fr_rfl _ _ _) (K_Digest_next ) (fun v12 I12 J12 F4 => ?_)
          refine fk_ite (fun c5 => ?_) (fun c5 => ?_)
          · skip
            exact fk_none
          · skip
            refine fk_oc F4 (K_Sh_times ) (fun v14 I14 J14 F6 => ?_)
            refine fk_oc F6 (K_Sh_plus ) (fun v15 I15 J15 F7 => ?_)
            exact fk_tail F7 (ih )
theorem K_Hall_weightedErrors {w2 : Nat} {I : MI} {J : MJ} (h_w2 : w2 < 4) : fk sC I J (f_Hall_weightedErrors w2 I J) := by
  unfold f_Hall_weightedErrors
  refine fk_oc (fr_rfl _ _ _) (K_Hall_weightedErrors_8 h_w2 gF ) (fun u8 I8 J8 F1 => ?_)
  refine fk_oc F1 (K_Hall_weightedErrors_76 h_w2 gF ) (fun u16 I16 J16 F2 => ?_)
  refine fk_oc F2 (K_Sh_times ) (fun v17 I17 J17 F3 => ?_)
  exact fk_some F3
theorem K_Hall_bondByte {w2 : Nat} {p3 : Int32} {p4 : Int32} {I : MI} {J : MJ} (h_w2 : w2 < 4) : fk sC I J (f_Hall_bondByte w2 p3 p4 I J) := by
  unfold f_Hall_bondByte
  refine fk_oc (fr_rfl _ _ _) (K_Hall_has ) (fun v1 I1 J1 F1 => ?_)
  refine fk_oc F1 ?_ (fun v3 I3 J3 F2 => ?_)
  · skip
    refine fk_ite (fun c3 => ?_) (fun c3 => ?_)
    · skip
      exact fk_some (fr_rfl _ _ _)
    · skip
      refine fk_ite (fun c4 => ?_) (fun c4 => ?_)
      · skip
        exact fk_none
      · skip
        exact fk_some (fr_rfl _ _ _)
  · skip
    refine fk_oc F2 (K_Hall_ownSeed ) (fun v6 I6 J6 F5 => ?_)
    refine fk_oc F5 (K_Digest_next ) (fun v7 I7 J7 F6 => ?_)
    refine fk_oc F6 (K_Hall_ownSeed ) (fun v8 I8 J8 F7 => ?_)
    refine fk_oc F7 (K_Digest_next ) (fun v9 I9 J9 F8 => ?_)
    refine fk_oc F8 (K_Digest_byteOf ) (fun v10 I10 J10 F9 => ?_)
    exact fk_some F9
theorem K_Party_startAnew {w1 : Nat} {I : MI} {J : MJ} (h_w1 : w1 < 4) : fk sC I J (f_Party_startAnew w1 I J) := by
  unfold f_Party_startAnew
  refine fk_oc (fr_rfl _ _ _) (K_Memory_wipe h_w1) (fun v1 I1 J1 F1 => ?_)
  refine fk_oc F1 (K_Check_startAnew h_w1) (fun v2 I2 J2 F2 => ?_)
  refine fk_oc F2 (K_Post_wipe h_w1) (fun v3 I3 J3 F3 => ?_)
  refine fk_pI F3 (sC_p (by decide) h_w1) (fun I4 F4 => ?_)
  refine fk_pI F4 (sC_p (by decide) h_w1) (fun I5 F5 => ?_)
  refine fk_pI F5 (sC_p (by decide) h_w1) (fun I6 F6 => ?_)
  refine fk_pI F6 (sC_p (by decide) h_w1) (fun I7 F7 => ?_)
  exact fk_some F7
theorem K_Translator_finish_22 : ∀ (fu : Nat) {l1 : Int32} {I : MI} {J : MJ}, fk sC I J (f_Translator_finish_22  fu l1 I J) := by
  intro fu
  induction fu with
  | zero =>
    intros
    exact fk_none
  | succ fu ih =>
    intro l1 I J 
    unfold f_Translator_finish_22
    refine fk_ite (fun c1 => ?_) (fun c1 => ?_)
    · skip
      exact fk_some (fr_rfl _ _ _)
    · skip
      refine fk_ite (fun c2 => ?_) (fun c2 => ?_)
      · skip
        exact fk_some (fr_rfl _ _ _)
      · skip
        refine fk_ite (fun c3 => ?_) (fun c3 => ?_)
        · skip
          exact fk_none
        · skip
          refine fk_ite (fun c4 => ?_) (fun c4 => ?_)
          · skip
            exact fk_tail (fr_rfl _ _ _) (ih )
          · skip
            refine fk_ite (fun c5 => ?_) (fun c5 => ?_)
            · skip
              exact fk_none
            · skip
              refine fk_ite (fun c6 => ?_) (fun c6 => ?_)
              · skip
                exact fk_tail (fr_rfl _ _ _) (ih )
              · skip
                refine fk_ite (fun c7 => ?_) (fun c7 => ?_)
                · skip
                  exact fk_none
                · skip
                  refine fk_oc (fr_rfl _ _ _) (K_Translator_blame ) (fun v14 I14 J14 F8 => ?_)
                  exact fk_tail F8 (ih )
theorem K_Translator_finish_81 : ∀ (fu : Nat) {l1 : Int32} {l2 : Int32} {I : MI} {J : MJ}, fk sC I J (f_Translator_finish_81  fu l1 l2 I J) := by
  intro fu
  induction fu with
  | zero =>
    intros
    exact fk_none
  | succ fu ih =>
    intro l1 l2 I J 
    unfold f_Translator_finish_81
    refine fk_ite (fun c1 => ?_) (fun c1 => ?_)
    · skip
      exact fk_some (fr_rfl _ _ _)
    · skip
      refine fk_ite (fun c2 => ?_) (fun c2 => ?_)
      · skip
        exact fk_some (fr_rfl _ _ _)
      · skip
        refine fk_ite (fun c3 => ?_) (fun c3 => ?_)
        · skip
          exact fk_some (fr_rfl _ _ _)
        · skip
          refine fk_oc (fr_rfl _ _ _) (K_Row_at (by decide) (by decide)) (fun v19 I19 J19 F4 => ?_)
          refine fk_oc F4 (K_Row_at (by decide) (by decide)) (fun v20 I20 J20 F5 => ?_)
          refine fk_oc F5 ?_ (fun v22 I22 J22 F6 => ?_)
          · skip
            refine fk_ite (fun c7 => ?_) (fun c7 => ?_)
            · skip
              exact fk_some (fr_rfl _ _ _)
            · skip
              refine fk_ite (fun c8 => ?_) (fun c8 => ?_)
              · skip
                exact fk_some (fr_rfl _ _ _)
              · skip
                refine fk_ite (fun c9 => ?_) (fun c9 => ?_)
                · skip
                  exact fk_some (fr_rfl _ _ _)
                · skip
                  refine fk_ite (fun c10 => ?_) (fun c10 => ?_)
                  · skip
                    exact fk_none
                  · skip
                    refine fk_oc (fr_rfl _ _ _) (K_Row_aim (by decide) (by decide)) (fun v27 I27 J27 F11 => ?_)
                    exact fk_some F11
          · skip
            refine fk_oc F6 (K_Row_at (by decide) (by decide)) (fun v28 I28 J28 F12 => ?_)
            refine fk_oc F12 (K_Sh_lengthOf ) (fun v29 I29 J29 F13 => ?_)
            refine fk_pv (fun x30 => ?_)
            exact fk_tail F13 (ih )
theorem K_Translator_finish {I : MI} {J : MJ} : fk sC I J (f_Translator_finish  I J) := by
  unfold f_Translator_finish
  refine fk_oc (fr_rfl _ _ _) (K_Translator_look ) (fun v1 I1 J1 F1 => ?_)
  refine fk_oc F1 ?_ (fun v3 I3 J3 F2 => ?_)
  · skip
    refine fk_ite (fun c3 => ?_) (fun c3 => ?_)
    · skip
      exact fk_some (fr_rfl _ _ _)
    · skip
      refine fk_oc (fr_rfl _ _ _) (K_Translator_refuse ) (fun v5 I5 J5 F4 => ?_)
      exact fk_some F4
  · skip
    refine fk_oc F2 (K_Translator_emit ) (fun v6 I6 J6 F5 => ?_)
    refine fk_oc F5 (K_Translator_finish_22  gF ) (fun u15 I15 J15 F6 => ?_)
    refine fk_oc F6 (K_Translator_finish_81  gF ) (fun u31 I31 J31 F7 => ?_)
    exact fk_some F7
theorem K_Translator_expression_7 {R : M3} (hR : ∀ k a b I J, fk sC I J (R k a b I J)) : ∀ (fu : Nat) {l1 : Int32} {l2 : Int32} {I : MI} {J : MJ}, fk sC I J (f_Translator_expression_7 R  fu l1 l2 I J) := by
  intro fu
  induction fu with
  | zero =>
    intros
    exact fk_none
  | succ fu ih =>
    intro l1 l2 I J 
    unfold f_Translator_expression_7
    refine fk_ite (fun c1 => ?_) (fun c1 => ?_)
    · skip
      exact fk_some (fr_rfl _ _ _)
    · skip
      refine fk_oc (fr_rfl _ _ _) (K_Translator_look ) (fun v3 I3 J3 F2 => ?_)
      refine fk_ite (fun c3 => ?_) (fun c3 => ?_)
      · skip
        refine fk_oc F2 (K_Translator_look ) (fun v5 I5 J5 F4 => ?_)
        refine fk_pv (fun v7 => ?_)
        refine fk_oc F4 (K_Translator_pass ) (fun v9 I9 J9 F5 => ?_)
        refine fk_oc F5 (hR 10 0 0 I9 J9) (fun v10 I10 J10 F6 => ?_)
        refine fk_oc F6 (K_Translator_emit ) (fun v11 I11 J11 F7 => ?_)
        refine fk_pv (fun v13 => ?_)
        exact fk_tail F7 (ih )
      · skip
        refine fk_oc F2 (K_Translator_look ) (fun v16 I16 J16 F8 => ?_)
        refine fk_ite (fun c9 => ?_) (fun c9 => ?_)
        · skip
          exact fk_some F8
        · skip
          refine fk_oc F8 (K_Translator_look ) (fun v18 I18 J18 F10 => ?_)
          refine fk_pv (fun v20 => ?_)
          refine fk_oc F10 (K_Translator_pass ) (fun v22 I22 J22 F11 => ?_)
          refine fk_oc F11 (hR 10 0 0 I22 J22) (fun v23 I23 J23 F12 => ?_)
          refine fk_oc F12 (K_Translator_emit ) (fun v24 I24 J24 F13 => ?_)
          refine fk_pv (fun v26 => ?_)
          exact fk_tail F13 (ih )
