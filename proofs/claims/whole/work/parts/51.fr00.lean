/-! FRAMES: a function of the class leaves the reference's cells as they were, and one of the reference all others (wip/whole/tools/gen51.py) -/
abbrev sC (a : Nat) : Prop := 112 ≤ a ∧ a < 168
abbrev sM (a : Nat) : Prop := a < 112 ∨ 168 ≤ a
def fr (s : Nat → Prop) (I I' : MI) (J J' : MJ) : Prop := ∀ a, s a → I' a = I a ∧ J' a = J a
def fk {α : Type} (s : Nat → Prop) (I : MI) (J : MJ) (r : Option (α × MI × MJ)) : Prop := ∀ v I' J', r = some (v, I', J') → fr s I I' J J'
theorem fr_rfl (s : Nat → Prop) (I : MI) (J : MJ) : fr s I I J J := fun _ _ => ⟨rfl, rfl⟩
theorem fr.tr {s : Nat → Prop} {I I1 I2 : MI} {J J1 J2 : MJ} (h : fr s I I1 J J1) (k : fr s I1 I2 J1 J2) : fr s I I2 J J2 := fun a ha => ⟨(k a ha).1.trans (h a ha).1, (k a ha).2.trans (h a ha).2⟩
section FK
variable {α β γ : Type} {s : Nat → Prop} {I I1 : MI} {J J1 : MJ}
theorem fk_none : fk (α := α) s I J none := fun _ _ _ h => by cases h
theorem fk_some {v : α} (h : fr s I I1 J J1) : fk s I J (some (v, I1, J1)) := fun _ _ _ e => by obtain ⟨rfl, rfl, rfl⟩ := s_inj e; exact h
theorem fk_ite {c : Prop} [Decidable c] {a b : Option (α × MI × MJ)} (h1 : c → fk s I J a) (h2 : ¬ c → fk s I J b) : fk s I J (if c then a else b) := by
  by_cases q : c
  · rw [if_pos q]; exact h1 q
  · rw [if_neg q]; exact h2 q
theorem fk_pv {x : β} {f : β → Option (α × MI × MJ)} (h : ∀ y, fk s I J (f y)) : fk s I J (pl x f) := h x
theorem fk_pI {a : Nat} {w : Nat → Int32} {f : MI → Option (α × MI × MJ)} (hF : fr s I I1 J J1) (ha : ¬ s a) (h : ∀ I2, fr s I I2 J J1 → fk s I J (f I2)) : fk s I J (pl (va_up I1 a w) f) := h _ fun b hb => ⟨by
  have hne : b ≠ a := fun e => ha (e ▸ hb)
  rw [va_up_ne _ _ hne]
  exact (hF b hb).1, (hF b hb).2⟩
theorem fk_pJ {a : Nat} {w : Nat → Int64} {f : MJ → Option (α × MI × MJ)} (hF : fr s I I1 J J1) (ha : ¬ s a) (h : ∀ J2, fr s I I1 J J2 → fk s I J (f J2)) : fk s I J (pl (va_up J1 a w) f) := h _ fun b hb => ⟨(hF b hb).1, by
  have hne : b ≠ a := fun e => ha (e ▸ hb)
  rw [va_up_ne _ _ hne]
  exact (hF b hb).2⟩
theorem fk_oc {x : M2 β} {f : β → MI → MJ → Option (α × MI × MJ)} (hF : fr s I I1 J J1) (hx : fk s I1 J1 x) (h : ∀ v I2 J2, fr s I I2 J J2 → fk s I J (f v I2 J2)) : fk s I J (oc x f) := by
  intro v I' J' e
  obtain ⟨u, I2, J2, h1, h2⟩ := oc_call e
  exact h u I2 J2 (hF.tr (hx u I2 J2 h1)) v I' J' h2
theorem fk_oe {q : β ⊕ γ} {f : β → Option (α × MI × MJ)} {g : γ → Option (α × MI × MJ)} (h1 : ∀ y, fk s I J (f y)) (h2 : ∀ y, fk s I J (g y)) : fk s I J (oe q f g) := by
  cases q with
  | inl y => exact h1 y
  | inr y => exact h2 y
theorem fk_tail {x : Option (α × MI × MJ)} (hF : fr s I I1 J J1) (h : fk s I1 J1 x) : fk s I J x := fun v I' J' e => hF.tr (h v I' J' e)
end FK
theorem sC_p {k w : Nat} (hk : k ≤ 48) (hw : w < 4) : ¬ sC (k + 21 * w) := fun h => by
  have := h.1
  omega
theorem fk_cond {α : Type} {s : Nat → Prop} {I : MI} {J : MJ} {c : Bool} {a b : Option (α × MI × MJ)} (h1 : fk s I J a) (h2 : fk s I J b) : fk s I J (bif c then a else b) := by
  cases c with
  | true => exact h1
  | false => exact h2

theorem K_Sh_fault {p2 : Int32} {I : MI} {J : MJ} : fk sC I J (f_Sh_fault p2 I J) := by
  unfold f_Sh_fault
  refine fk_ite (fun c1 => ?_) (fun c1 => ?_)
  · skip
    refine fk_ite (fun c2 => ?_) (fun c2 => ?_)
    · skip
      exact fk_some (fr_rfl _ _ _)
    · skip
      exact fk_some (fr_rfl _ _ _)
  · skip
    exact fk_some (fr_rfl _ _ _)
theorem K_Sh_plus {p1 : Int64} {p2 : Int64} {I : MI} {J : MJ} : fk sC I J (f_Sh_plus p1 p2 I J) := by
  unfold f_Sh_plus
  refine fk_pv (fun x1 => ?_)
  refine fk_ite (fun c1 => ?_) (fun c1 => ?_)
  · skip
    exact fk_some (fr_rfl _ _ _)
  · skip
    exact fk_some (fr_rfl _ _ _)
theorem K_Sh_minus {p1 : Int64} {p2 : Int64} {I : MI} {J : MJ} : fk sC I J (f_Sh_minus p1 p2 I J) := by
  unfold f_Sh_minus
  refine fk_ite (fun c1 => ?_) (fun c1 => ?_)
  · skip
    exact fk_some (fr_rfl _ _ _)
  · skip
    exact fk_some (fr_rfl _ _ _)
theorem K_Sh_times {p1 : Int64} {p2 : Int64} {I : MI} {J : MJ} : fk sC I J (f_Sh_times p1 p2 I J) := by
  unfold f_Sh_times
  refine fk_pv (fun x1 => ?_)
  refine fk_pv (fun x2 => ?_)
  refine fk_pv (fun x3 => ?_)
  refine fk_pv (fun x4 => ?_)
  refine fk_pv (fun x5 => ?_)
  refine fk_pv (fun x6 => ?_)
  refine fk_pv (fun x7 => ?_)
  refine fk_pv (fun x8 => ?_)
  refine fk_pv (fun x9 => ?_)
  refine fk_ite (fun c1 => ?_) (fun c1 => ?_)
  · skip
    exact fk_some (fr_rfl _ _ _)
  · skip
    exact fk_some (fr_rfl _ _ _)
theorem K_Sh_read {a1 : Nat} {m1 : Nat} {p2 : Int32} {I : MI} {J : MJ} (h_a1 : ¬ sC a1) : fk sC I J (f_Sh_read a1 m1 p2 I J) := by
  unfold f_Sh_read
  refine fk_ite (fun c1 => ?_) (fun c1 => ?_)
  · skip
    exact fk_some (fr_rfl _ _ _)
  · skip
    refine fk_ite (fun c2 => ?_) (fun c2 => ?_)
    · skip
      exact fk_some (fr_rfl _ _ _)
    · skip
      refine fk_ite (fun c3 => ?_) (fun c3 => ?_)
      · skip
        exact fk_none
      · skip
        exact fk_some (fr_rfl _ _ _)
theorem K_Sh_write {a1 : Nat} {m1 : Nat} {p2 : Int32} {p3 : Int64} {I : MI} {J : MJ} (h_a1 : ¬ sC a1) : fk sC I J (f_Sh_write a1 m1 p2 p3 I J) := by
  unfold f_Sh_write
  refine fk_ite (fun c1 => ?_) (fun c1 => ?_)
  · skip
    exact fk_some (fr_rfl _ _ _)
  · skip
    refine fk_ite (fun c2 => ?_) (fun c2 => ?_)
    · skip
      exact fk_some (fr_rfl _ _ _)
    · skip
      refine fk_ite (fun c3 => ?_) (fun c3 => ?_)
      · skip
        exact fk_none
      · skip
        refine fk_pJ (fr_rfl _ _ _) h_a1 (fun J4 F4 => ?_)
        exact fk_some F4
theorem K_Sh_zeroLongs_2 {a1 : Nat} {m1 : Nat} (h_a1 : ¬ sC a1) : ∀ (fu : Nat) {l1 : Int32} {I : MI} {J : MJ}, fk sC I J (f_Sh_zeroLongs_2 a1 m1 fu l1 I J) := by
  intro fu
  induction fu with
  | zero =>
    intros
    exact fk_none
  | succ fu ih =>
    intro l1 I J 
    unfold f_Sh_zeroLongs_2
    refine fk_ite (fun c1 => ?_) (fun c1 => ?_)
    · skip
      exact fk_some (fr_rfl _ _ _)
    · skip
      refine fk_ite (fun c2 => ?_) (fun c2 => ?_)
      · skip
        exact fk_none
      · skip
        refine fk_pJ (fr_rfl _ _ _) h_a1 (fun J3 F3 => ?_)
        exact fk_tail F3 (ih )
theorem K_Sh_zeroLongs {a1 : Nat} {m1 : Nat} {I : MI} {J : MJ} (h_a1 : ¬ sC a1) : fk sC I J (f_Sh_zeroLongs a1 m1 I J) := by
  unfold f_Sh_zeroLongs
  refine fk_oc (fr_rfl _ _ _) (K_Sh_zeroLongs_2 h_a1 gF ) (fun u4 I4 J4 F1 => ?_)
  exact fk_some F1
theorem K_Sh_zeroInts_2 {a1 : Nat} {m1 : Nat} (h_a1 : ¬ sC a1) : ∀ (fu : Nat) {l1 : Int32} {I : MI} {J : MJ}, fk sC I J (f_Sh_zeroInts_2 a1 m1 fu l1 I J) := by
  intro fu
  induction fu with
  | zero =>
    intros
    exact fk_none
  | succ fu ih =>
    intro l1 I J 
    unfold f_Sh_zeroInts_2
    refine fk_ite (fun c1 => ?_) (fun c1 => ?_)
    · skip
      exact fk_some (fr_rfl _ _ _)
    · skip
      refine fk_ite (fun c2 => ?_) (fun c2 => ?_)
      · skip
        exact fk_none
      · skip
        refine fk_pI (fr_rfl _ _ _) h_a1 (fun I3 F3 => ?_)
        exact fk_tail F3 (ih )
theorem K_Sh_zeroInts {a1 : Nat} {m1 : Nat} {I : MI} {J : MJ} (h_a1 : ¬ sC a1) : fk sC I J (f_Sh_zeroInts a1 m1 I J) := by
  unfold f_Sh_zeroInts
  refine fk_oc (fr_rfl _ _ _) (K_Sh_zeroInts_2 h_a1 gF ) (fun u4 I4 J4 F1 => ?_)
  exact fk_some F1
theorem K_Sh_lengthOf {p1 : Int32} {I : MI} {J : MJ} : fk sC I J (f_Sh_lengthOf p1 I J) := by
  unfold f_Sh_lengthOf
  refine fk_ite (fun c1 => ?_) (fun c1 => ?_)
  · skip
    exact fk_some (fr_rfl _ _ _)
  · skip
    refine fk_ite (fun c2 => ?_) (fun c2 => ?_)
    · skip
      exact fk_some (fr_rfl _ _ _)
    · skip
      refine fk_ite (fun c3 => ?_) (fun c3 => ?_)
      · skip
        exact fk_none
      · skip
        exact fk_some (fr_rfl _ _ _)
theorem K_Model_thrown {I : MI} {J : MJ} : fk sM I J (f_Model_thrown  I J) := by
  unfold f_Model_thrown
  exact fk_some (fr_rfl _ _ _)
theorem K_Model_raise {p2 : Int32} {I : MI} {J : MJ} : fk sM I J (f_Model_raise p2 I J) := by
  unfold f_Model_raise
  refine fk_pI (fr_rfl _ _ _) (by decide) (fun I1 F1 => ?_)
  exact fk_some F1
theorem K_Model_reduced {p1 : Int64} {I : MI} {J : MJ} : fk sM I J (f_Model_reduced p1 I J) := by
  unfold f_Model_reduced
  refine fk_pv (fun x1 => ?_)
  refine fk_ite (fun c1 => ?_) (fun c1 => ?_)
  · skip
    exact fk_some (fr_rfl _ _ _)
  · skip
    exact fk_some (fr_rfl _ _ _)
theorem K_Model_modulo {p1 : Int64} {I : MI} {J : MJ} : fk sM I J (f_Model_modulo p1 I J) := by
  unfold f_Model_modulo
  refine fk_pv (fun x1 => ?_)
  refine fk_ite (fun c1 => ?_) (fun c1 => ?_)
  · skip
    exact fk_some (fr_rfl _ _ _)
  · skip
    exact fk_some (fr_rfl _ _ _)
theorem K_Model_plus {p1 : Int64} {p2 : Int64} {I : MI} {J : MJ} : fk sM I J (f_Model_plus p1 p2 I J) := by
  unfold f_Model_plus
  refine fk_oc (fr_rfl _ _ _) (K_Model_reduced ) (fun v1 I1 J1 F1 => ?_)
  exact fk_some F1
theorem K_Model_minus {p1 : Int64} {p2 : Int64} {I : MI} {J : MJ} : fk sM I J (f_Model_minus p1 p2 I J) := by
  unfold f_Model_minus
  refine fk_oc (fr_rfl _ _ _) (K_Model_reduced ) (fun v1 I1 J1 F1 => ?_)
  exact fk_some F1
theorem K_Model_times {p1 : Int64} {p2 : Int64} {I : MI} {J : MJ} : fk sM I J (f_Model_times p1 p2 I J) := by
  unfold f_Model_times
  refine fk_pv (fun x1 => ?_)
  refine fk_pv (fun x2 => ?_)
  refine fk_pv (fun x3 => ?_)
  refine fk_pv (fun x4 => ?_)
  refine fk_pv (fun x5 => ?_)
  refine fk_oc (fr_rfl _ _ _) (K_Model_reduced ) (fun v6 I6 J6 F1 => ?_)
  refine fk_oc F1 (K_Model_plus ) (fun v7 I7 J7 F2 => ?_)
  refine fk_oc F2 (K_Model_reduced ) (fun v8 I8 J8 F3 => ?_)
  refine fk_oc F3 (K_Model_plus ) (fun v9 I9 J9 F4 => ?_)
  refine fk_oc F4 (K_Model_reduced ) (fun v10 I10 J10 F5 => ?_)
  refine fk_oc F5 (K_Model_plus ) (fun v11 I11 J11 F6 => ?_)
  exact fk_some F6
theorem K_Model_turned {p1 : Int32} {p2 : Int32} {I : MI} {J : MJ} : fk sM I J (f_Model_turned p1 p2 I J) := by
  unfold f_Model_turned
  exact fk_some (fr_rfl _ _ _)
theorem K_Model_digestOf_45 {p2 : Int64} {p3 : Int64} : ∀ (fu : Nat) {l6 : Int32} {I : MI} {J : MJ}, fk sM I J (f_Model_digestOf_45 p2 p3 fu l6 I J) := by
  intro fu
  induction fu with
  | zero =>
    intros
    exact fk_none
  | succ fu ih =>
    intro l6 I J 
    unfold f_Model_digestOf_45
    refine fk_ite (fun c1 => ?_) (fun c1 => ?_)
    · skip
      exact fk_some (fr_rfl _ _ _)
    · skip
      refine fk_ite (fun c2 => ?_) (fun c2 => ?_)
      · skip
        exact fk_none
      · skip
        refine fk_pI (fr_rfl _ _ _) (by decide) (fun I13 F3 => ?_)
        exact fk_tail F3 (ih )
theorem K_Model_digestOf_76 {p2 : Int64} {p3 : Int64} : ∀ (fu : Nat) {l6 : Int32} {I : MI} {J : MJ}, fk sM I J (f_Model_digestOf_76 p2 p3 fu l6 I J) := by
  intro fu
  induction fu with
  | zero =>
    intros
    exact fk_none
  | succ fu ih =>
    intro l6 I J 
    unfold f_Model_digestOf_76
    refine fk_ite (fun c1 => ?_) (fun c1 => ?_)
    · skip
      exact fk_some (fr_rfl _ _ _)
    · skip
      refine fk_ite (fun c2 => ?_) (fun c2 => ?_)
      · skip
        exact fk_none
      · skip
        refine fk_pv (fun x19 => ?_)
        refine fk_ite (fun c3 => ?_) (fun c3 => ?_)
        · skip
          exact fk_none
        · skip
          refine fk_pv (fun x21 => ?_)
          refine fk_oc (fr_rfl _ _ _) (K_Model_turned ) (fun v22 I22 J22 F4 => ?_)
          refine fk_oc F4 (K_Model_turned ) (fun v23 I23 J23 F5 => ?_)
          refine fk_ite (fun c6 => ?_) (fun c6 => ?_)
          · skip
            exact fk_none
          · skip
            refine fk_oc F5 (K_Model_turned ) (fun v25 I25 J25 F7 => ?_)
            refine fk_oc F7 (K_Model_turned ) (fun v26 I26 J26 F8 => ?_)
            refine fk_ite (fun c9 => ?_) (fun c9 => ?_)
            · skip
              exact fk_none
            · skip
              refine fk_ite (fun c10 => ?_) (fun c10 => ?_)
              · skip
                exact fk_none
              · skip
                refine fk_pI F8 (by decide) (fun I29 F11 => ?_)
                exact fk_tail F11 (ih )
theorem K_Model_digestOf_182 {p2 : Int64} {p3 : Int64} : ∀ (fu : Nat) {l7 : Int32} {I : MI} {J : MJ}, fk sM I J (f_Model_digestOf_182 p2 p3 fu l7 I J) := by
  intro fu
  induction fu with
  | zero =>
    intros
    exact fk_none
  | succ fu ih =>
    intro l7 I J 
    unfold f_Model_digestOf_182
    refine fk_ite (fun c1 => ?_) (fun c1 => ?_)
    · skip
      exact fk_some (fr_rfl _ _ _)
    · skip
      refine fk_ite (fun c2 => ?_) (fun c2 => ?_)
      · skip
        exact fk_none
      · skip
        refine fk_ite (fun c3 => ?_) (fun c3 => ?_)
        · skip
          exact fk_none
        · skip
          refine fk_pI (fr_rfl _ _ _) (by decide) (fun I34 F4 => ?_)
          exact fk_tail F4 (ih )
theorem K_Model_digestOf_345 {p2 : Int64} {p3 : Int64} : ∀ (fu : Nat) {l7 : Int32} {l10 : Int32} {l11 : Int32} {l12 : Int32} {I : MI} {J : MJ}, fk sM I J (f_Model_digestOf_345 p2 p3 fu l7 l10 l11 l12 I J) := by
  intro fu
  induction fu with
  | zero =>
    intros
    exact fk_none
  | succ fu ih =>
    intro l7 l10 l11 l12 I J 
    unfold f_Model_digestOf_345
    refine fk_ite (fun c1 => ?_) (fun c1 => ?_)
    · skip
      exact fk_some (fr_rfl _ _ _)
    · skip
      refine fk_ite (fun c2 => ?_) (fun c2 => ?_)
      · skip
        exact fk_none
      · skip
        refine fk_ite (fun c3 => ?_) (fun c3 => ?_)
        · skip
          exact fk_none
        · skip
          refine fk_pI (fr_rfl _ _ _) (by decide) (fun I61 F4 => ?_)
          exact fk_tail F4 (ih )
theorem K_Model_digestOf_209 {p2 : Int64} {p3 : Int64} : ∀ (fu : Nat) {l7 : Int32} {I : MI} {J : MJ}, fk sM I J (f_Model_digestOf_209 p2 p3 fu l7 I J) := by
  intro fu
  induction fu with
  | zero =>
    intros
    exact fk_none
  | succ fu ih =>
    intro l7 I J 
    unfold f_Model_digestOf_209
    refine fk_ite (fun c1 => ?_) (fun c1 => ?_)
    · skip
      exact fk_some (fr_rfl _ _ _)
    · skip
      refine fk_ite (fun c2 => ?_) (fun c2 => ?_)
      · skip
        exact fk_none
      · skip
        refine fk_pv (fun x38 => ?_)
        refine fk_ite (fun c3 => ?_) (fun c3 => ?_)
        · skip
          exact fk_none
        · skip
          refine fk_pv (fun x40 => ?_)
          refine fk_ite (fun c4 => ?_) (fun c4 => ?_)
          · skip
            exact fk_none
          · skip
            refine fk_oc (fr_rfl _ _ _) (K_Model_turned ) (fun v42 I42 J42 F5 => ?_)
            refine fk_oc F5 (K_Model_turned ) (fun v43 I43 J43 F6 => ?_)
            refine fk_oc F6 (K_Model_turned ) (fun v44 I44 J44 F7 => ?_)
            refine fk_ite (fun c8 => ?_) (fun c8 => ?_)
            · skip
              exact fk_none
            · skip
              refine fk_ite (fun c9 => ?_) (fun c9 => ?_)
              · skip
                exact fk_none
              · skip
                refine fk_ite (fun c10 => ?_) (fun c10 => ?_)
                · skip
                  exact fk_none
                · skip
                  refine fk_ite (fun c11 => ?_) (fun c11 => ?_)
                  · skip
                    exact fk_none
                  · skip
                    refine fk_pv (fun x49 => ?_)
                    refine fk_oc F7 (K_Model_turned ) (fun v50 I50 J50 F12 => ?_)
                    refine fk_oc F12 (K_Model_turned ) (fun v51 I51 J51 F13 => ?_)
                    refine fk_oc F13 (K_Model_turned ) (fun v52 I52 J52 F14 => ?_)
                    refine fk_ite (fun c15 => ?_) (fun c15 => ?_)
                    · skip
                      exact fk_none
                    · skip
                      refine fk_ite (fun c16 => ?_) (fun c16 => ?_)
                      · skip
                        exact fk_none
                      · skip
                        refine fk_ite (fun c17 => ?_) (fun c17 => ?_)
                        · skip
                          exact fk_none
                        · skip
                          refine fk_ite (fun c18 => ?_) (fun c18 => ?_)
                          · skip
                            exact fk_none
                          · skip
                            refine fk_pv (fun x57 => ?_)
                            refine fk_oc F14 (K_Model_digestOf_345  gF ) (fun u62 I62 J62 F19 => ?_)
                            refine fk_ite (fun c20 => ?_) (fun c20 => ?_)
                            · skip
                              exact fk_none
                            · skip
                              refine fk_ite (fun c21 => ?_) (fun c21 => ?_)
                              · skip
                                exact fk_none
                              · skip
                                refine fk_pI F19 (by decide) (fun I65 F22 => ?_)
                                refine fk_ite (fun c23 => ?_) (fun c23 => ?_)
                                · skip
                                  exact fk_none
                                · skip
                                  refine fk_pI F22 (by decide) (fun I67 F24 => ?_)
                                  exact fk_tail F24 (ih )
theorem K_Model_digestOf_395 {p2 : Int64} {p3 : Int64} : ∀ (fu : Nat) {l7 : Int32} {I : MI} {J : MJ}, fk sM I J (f_Model_digestOf_395 p2 p3 fu l7 I J) := by
  intro fu
  induction fu with
  | zero =>
    intros
    exact fk_none
  | succ fu ih =>
    intro l7 I J 
    unfold f_Model_digestOf_395
    refine fk_ite (fun c1 => ?_) (fun c1 => ?_)
    · skip
      exact fk_some (fr_rfl _ _ _)
    · skip
      refine fk_ite (fun c2 => ?_) (fun c2 => ?_)
      · skip
        exact fk_none
      · skip
        refine fk_ite (fun c3 => ?_) (fun c3 => ?_)
        · skip
          exact fk_none
        · skip
          refine fk_ite (fun c4 => ?_) (fun c4 => ?_)
          · skip
            exact fk_none
          · skip
            refine fk_pI (fr_rfl _ _ _) (by decide) (fun I73 F5 => ?_)
            exact fk_tail F5 (ih )
theorem K_Model_digestOf {p2 : Int64} {p3 : Int64} {I : MI} {J : MJ} : fk sM I J (f_Model_digestOf p2 p3 I J) := by
  unfold f_Model_digestOf
  refine fk_ite (fun c1 => ?_) (fun c1 => ?_)
  · skip
    exact fk_none
  · skip
    refine fk_pI (fr_rfl _ _ _) (by decide) (fun I2 F2 => ?_)
    refine fk_ite (fun c3 => ?_) (fun c3 => ?_)
    · skip
      exact fk_none
    · skip
      refine fk_pI F2 (by decide) (fun I4 F4 => ?_)
      refine fk_ite (fun c5 => ?_) (fun c5 => ?_)
      · skip
        exact fk_none
      · skip
        refine fk_pI F4 (by decide) (fun I6 F6 => ?_)
        refine fk_ite (fun c7 => ?_) (fun c7 => ?_)
        · skip
          exact fk_none
        · skip
          refine fk_pI F6 (by decide) (fun I8 F8 => ?_)
          refine fk_ite (fun c9 => ?_) (fun c9 => ?_)
          · skip
            exact fk_none
          · skip
            refine fk_pI F8 (by decide) (fun I10 F10 => ?_)
            refine fk_oc F10 (K_Model_digestOf_45  gF ) (fun u14 I14 J14 F11 => ?_)
            refine fk_ite (fun c12 => ?_) (fun c12 => ?_)
            · skip
              exact fk_none
            · skip
              refine fk_pI F11 (by decide) (fun I16 F13 => ?_)
              refine fk_oc F13 (K_Model_digestOf_76  gF ) (fun u30 I30 J30 F14 => ?_)
              refine fk_oc F14 (K_Model_digestOf_182  gF ) (fun u35 I35 J35 F15 => ?_)
              refine fk_oc F15 (K_Model_digestOf_209  gF ) (fun u68 I68 J68 F16 => ?_)
              refine fk_oc F16 (K_Model_digestOf_395  gF ) (fun u74 I74 J74 F17 => ?_)
              exact fk_some F17
theorem K_Model_drawn {p2 : Int64} {p3 : Int32} {I : MI} {J : MJ} : fk sM I J (f_Model_drawn p2 p3 I J) := by
  unfold f_Model_drawn
  refine fk_oc (fr_rfl _ _ _) (K_Model_digestOf ) (fun v1 I1 J1 F1 => ?_)
  refine fk_ite (fun c2 => ?_) (fun c2 => ?_)
  · skip
    exact fk_none
  · skip
    refine fk_ite (fun c3 => ?_) (fun c3 => ?_)
    · skip
      exact fk_none
    · skip
      refine fk_oc F1 (K_Model_reduced ) (fun v4 I4 J4 F4 => ?_)
      exact fk_some F4
theorem K_Model_takeOwn {p2 : Int32} {I : MI} {J : MJ} : fk sM I J (f_Model_takeOwn p2 I J) := by
  unfold f_Model_takeOwn
  refine fk_ite (fun c1 => ?_) (fun c1 => ?_)
  · skip
    exact fk_none
  · skip
    refine fk_ite (fun c2 => ?_) (fun c2 => ?_)
    · skip
      exact fk_none
    · skip
      refine fk_pI (fr_rfl _ _ _) (by decide) (fun I3 F3 => ?_)
      refine fk_ite (fun c4 => ?_) (fun c4 => ?_)
      · skip
        exact fk_none
      · skip
        refine fk_ite (fun c5 => ?_) (fun c5 => ?_)
        · skip
          exact fk_none
        · skip
          refine fk_oc F3 (K_Model_drawn ) (fun v6 I6 J6 F6 => ?_)
          exact fk_some F6
theorem K_Model_type_33 {p2 : Int64} {p3 : Int32} : ∀ (fu : Nat) {l1 : Int64} {l3 : Int32} {l4 : Int32} {I : MI} {J : MJ}, fk sM I J (f_Model_type_33 p2 p3 fu l1 l3 l4 I J) := by
  intro fu
  induction fu with
  | zero =>
    intros
    exact fk_none
  | succ fu ih =>
    intro l1 l3 l4 I J 
    unfold f_Model_type_33
    refine fk_ite (fun c1 => ?_) (fun c1 => ?_)
    · skip
      exact fk_some (fr_rfl _ _ _)
    · skip
      refine fk_pv (fun x6 => ?_)
      refine fk_ite (fun c2 => ?_) (fun c2 => ?_)
      · skip
        exact fk_some (fr_rfl _ _ _)
      · skip
        refine fk_ite (fun c3 => ?_) (fun c3 => ?_)
        · skip
          exact fk_tail (fr_rfl _ _ _) (ih )
        · skip
          exact fk_some (fr_rfl _ _ _)
theorem K_Model_type_80 {p2 : Int64} {p3 : Int32} : ∀ (fu : Nat) {l1 : Int64} {l4 : Int32} {I : MI} {J : MJ}, fk sM I J (f_Model_type_80 p2 p3 fu l1 l4 I J) := by
  intro fu
  induction fu with
  | zero =>
    intros
    exact fk_none
  | succ fu ih =>
    intro l1 l4 I J 
    unfold f_Model_type_80
    refine fk_ite (fun c1 => ?_) (fun c1 => ?_)
    · skip
      exact fk_some (fr_rfl _ _ _)
    · skip
      refine fk_ite (fun c2 => ?_) (fun c2 => ?_)
      · skip
        exact fk_none
      · skip
        refine fk_pI (fr_rfl _ _ _) (by decide) (fun I13 F3 => ?_)
        refine fk_pI F3 (by decide) (fun I14 F4 => ?_)
        exact fk_tail F4 (ih )
theorem K_Model_type {p2 : Int64} {p3 : Int32} {I : MI} {J : MJ} : fk sM I J (f_Model_type p2 p3 I J) := by
  unfold f_Model_type
  refine fk_pI (fr_rfl _ _ _) (by decide) (fun I1 F1 => ?_)
  refine fk_ite (fun c2 => ?_) (fun c2 => ?_)
  · skip
    exact fk_some F1
  · skip
    refine fk_ite (fun c3 => ?_) (fun c3 => ?_)
    · skip
      exact fk_some F1
    · skip
      refine fk_ite (fun c4 => ?_) (fun c4 => ?_)
      · skip
        refine fk_oc F1 (K_Model_type_33  gF ) (fun q9 I9 J9 F5 => ?_)
        refine fk_oe (fun y9 => ?_) (fun u9 => ?_)
        · skip
          exact fk_some F5
        · skip
          refine fk_pv (fun x10 => ?_)
          refine fk_oc F5 (K_Model_type_80  gF ) (fun u15 I15 J15 F6 => ?_)
          exact fk_some F6
      · skip
        exact fk_some F1
theorem K_Model_put_35 {p2 : Int64} {p3 : Int32} : ∀ (fu : Nat) {l1 : Int64} {l4 : Int32} {I : MI} {J : MJ}, fk sM I J (f_Model_put_35 p2 p3 fu l1 l4 I J) := by
  intro fu
  induction fu with
  | zero =>
    intros
    exact fk_none
  | succ fu ih =>
    intro l1 l4 I J 
    unfold f_Model_put_35
    refine fk_ite (fun c1 => ?_) (fun c1 => ?_)
    · skip
      exact fk_some (fr_rfl _ _ _)
    · skip
      refine fk_ite (fun c2 => ?_) (fun c2 => ?_)
      · skip
        exact fk_none
      · skip
        refine fk_pI (fr_rfl _ _ _) (by decide) (fun I8 F3 => ?_)
        refine fk_pI F3 (by decide) (fun I9 F4 => ?_)
        exact fk_tail F4 (ih )
theorem K_Model_put {p2 : Int64} {p3 : Int32} {I : MI} {J : MJ} : fk sM I J (f_Model_put p2 p3 I J) := by
  unfold f_Model_put
  refine fk_pI (fr_rfl _ _ _) (by decide) (fun I1 F1 => ?_)
  refine fk_ite (fun c2 => ?_) (fun c2 => ?_)
  · skip
    exact fk_some F1
  · skip
    refine fk_ite (fun c3 => ?_) (fun c3 => ?_)
    · skip
      exact fk_some F1
    · skip
      refine fk_ite (fun c4 => ?_) (fun c4 => ?_)
      · skip
        refine fk_pv (fun x5 => ?_)
        refine fk_oc F1 (K_Model_put_35  gF ) (fun u10 I10 J10 F5 => ?_)
        exact fk_some F5
      · skip
        exact fk_some F1
theorem K_Model_see_0 : ∀ (fu : Nat) {I : MI} {J : MJ}, fk sM I J (f_Model_see_0  fu  I J) := by
  intro fu
  induction fu with
  | zero =>
    intros
    exact fk_none
  | succ fu ih =>
    intro I J 
    unfold f_Model_see_0
    refine fk_ite (fun c1 => ?_) (fun c1 => ?_)
    · skip
      exact fk_some (fr_rfl _ _ _)
    · skip
      refine fk_ite (fun c2 => ?_) (fun c2 => ?_)
      · skip
        exact fk_none
      · skip
        refine fk_ite (fun c3 => ?_) (fun c3 => ?_)
        · skip
          exact fk_some (fr_rfl _ _ _)
        · skip
          refine fk_pI (fr_rfl _ _ _) (by decide) (fun I4 F4 => ?_)
          exact fk_tail F4 (ih )
theorem K_Model_see {I : MI} {J : MJ} : fk sM I J (f_Model_see  I J) := by
  unfold f_Model_see
  refine fk_oc (fr_rfl _ _ _) (K_Model_see_0  gF ) (fun u5 I5 J5 F1 => ?_)
  refine fk_ite (fun c2 => ?_) (fun c2 => ?_)
  · skip
    exact fk_some F1
  · skip
    refine fk_ite (fun c3 => ?_) (fun c3 => ?_)
    · skip
      exact fk_none
    · skip
      exact fk_some F1
theorem K_Model_refuse {I : MI} {J : MJ} : fk sM I J (f_Model_refuse  I J) := by
  unfold f_Model_refuse
  refine fk_oc (fr_rfl _ _ _) (K_Model_see ) (fun v1 I1 J1 F1 => ?_)
  refine fk_pI F1 (by decide) (fun I2 F2 => ?_)
  refine fk_pI F2 (by decide) (fun I3 F3 => ?_)
  exact fk_some F3
theorem K_Model_note {p2 : Int32} {p3 : Int32} {I : MI} {J : MJ} : fk sM I J (f_Model_note p2 p3 I J) := by
  unfold f_Model_note
  refine fk_ite (fun c1 => ?_) (fun c1 => ?_)
  · skip
    refine fk_pI (fr_rfl _ _ _) (by decide) (fun I2 F2 => ?_)
    refine fk_pI F2 (by decide) (fun I3 F3 => ?_)
    exact fk_some F3
  · skip
    refine fk_ite (fun c4 => ?_) (fun c4 => ?_)
    · skip
      refine fk_pI (fr_rfl _ _ _) (by decide) (fun I5 F5 => ?_)
      refine fk_pI F5 (by decide) (fun I6 F6 => ?_)
      exact fk_some F6
    · skip
      refine fk_ite (fun c7 => ?_) (fun c7 => ?_)
      · skip
        exact fk_some (fr_rfl _ _ _)
      · skip
        refine fk_ite (fun c8 => ?_) (fun c8 => ?_)
        · skip
          exact fk_some (fr_rfl _ _ _)
        · skip
          refine fk_pI (fr_rfl _ _ _) (by decide) (fun I9 F9 => ?_)
          refine fk_pI F9 (by decide) (fun I10 F10 => ?_)
          exact fk_some F10
theorem K_Model_takes {p2 : Int32} {I : MI} {J : MJ} : fk sM I J (f_Model_takes p2 I J) := by
  unfold f_Model_takes
  refine fk_oc (fr_rfl _ _ _) (K_Model_see ) (fun v1 I1 J1 F1 => ?_)
  refine fk_pv (fun v3 => ?_)
  refine fk_ite (fun c2 => ?_) (fun c2 => ?_)
  · skip
    refine fk_ite (fun c3 => ?_) (fun c3 => ?_)
    · skip
      exact fk_some F1
    · skip
      exact fk_none
  · skip
    refine fk_pI F1 (by decide) (fun I7 F4 => ?_)
    refine fk_ite (fun c5 => ?_) (fun c5 => ?_)
    · skip
      exact fk_some F4
    · skip
      exact fk_none
theorem K_Model_want {p2 : Int32} {I : MI} {J : MJ} : fk sM I J (f_Model_want p2 I J) := by
  unfold f_Model_want
  refine fk_oc (fr_rfl _ _ _) (K_Model_takes ) (fun v1 I1 J1 F1 => ?_)
  refine fk_ite (fun c2 => ?_) (fun c2 => ?_)
  · skip
    exact fk_some F1
  · skip
    refine fk_oc F1 (K_Model_refuse ) (fun v3 I3 J3 F3 => ?_)
    refine fk_ite (fun c4 => ?_) (fun c4 => ?_)
    · skip
      exact fk_some F3
    · skip
      exact fk_some F3
theorem K_Model_isClear {p1 : Int32} {I : MI} {J : MJ} : fk sM I J (f_Model_isClear p1 I J) := by
  unfold f_Model_isClear
  refine fk_ite (fun c1 => ?_) (fun c1 => ?_)
  · skip
    exact fk_some (fr_rfl _ _ _)
  · skip
    refine fk_ite (fun c2 => ?_) (fun c2 => ?_)
    · skip
      exact fk_some (fr_rfl _ _ _)
    · skip
      exact fk_some (fr_rfl _ _ _)
theorem K_Model_isSecret {p1 : Int32} {I : MI} {J : MJ} : fk sM I J (f_Model_isSecret p1 I J) := by
  unfold f_Model_isSecret
  refine fk_ite (fun c1 => ?_) (fun c1 => ?_)
  · skip
    exact fk_some (fr_rfl _ _ _)
  · skip
    refine fk_ite (fun c2 => ?_) (fun c2 => ?_)
    · skip
      exact fk_some (fr_rfl _ _ _)
    · skip
      exact fk_some (fr_rfl _ _ _)
theorem K_Model_isVariable {I : MI} {J : MJ} : fk sM I J (f_Model_isVariable  I J) := by
  unfold f_Model_isVariable
  refine fk_oc (fr_rfl _ _ _) (K_Model_see ) (fun v1 I1 J1 F1 => ?_)
  refine fk_oc F1 (K_Model_isClear ) (fun v2 I2 J2 F2 => ?_)
  refine fk_ite (fun c3 => ?_) (fun c3 => ?_)
  · skip
    exact fk_some F2
  · skip
    refine fk_oc F2 (K_Model_see ) (fun v4 I4 J4 F4 => ?_)
    refine fk_oc F4 (K_Model_isSecret ) (fun v5 I5 J5 F5 => ?_)
    refine fk_ite (fun c6 => ?_) (fun c6 => ?_)
    · skip
      exact fk_some F5
    · skip
      exact fk_some F5
theorem K_Model_isRow {I : MI} {J : MJ} : fk sM I J (f_Model_isRow  I J) := by
  unfold f_Model_isRow
  refine fk_oc (fr_rfl _ _ _) (K_Model_see ) (fun v1 I1 J1 F1 => ?_)
  refine fk_ite (fun c2 => ?_) (fun c2 => ?_)
  · skip
    exact fk_some F1
  · skip
    refine fk_oc F1 (K_Model_see ) (fun v3 I3 J3 F3 => ?_)
    refine fk_ite (fun c4 => ?_) (fun c4 => ?_)
    · skip
      exact fk_some F3
    · skip
      exact fk_some F3
theorem K_Model_isSecretRow {p1 : Int32} {I : MI} {J : MJ} : fk sM I J (f_Model_isSecretRow p1 I J) := by
  unfold f_Model_isSecretRow
  refine fk_ite (fun c1 => ?_) (fun c1 => ?_)
  · skip
    exact fk_some (fr_rfl _ _ _)
  · skip
    exact fk_some (fr_rfl _ _ _)
theorem K_Model_numberOf {p1 : Int32} {I : MI} {J : MJ} : fk sM I J (f_Model_numberOf p1 I J) := by
  unfold f_Model_numberOf
  refine fk_oc (fr_rfl _ _ _) (K_Model_isClear ) (fun v1 I1 J1 F1 => ?_)
  refine fk_ite (fun c2 => ?_) (fun c2 => ?_)
  · skip
    exact fk_some F1
  · skip
    exact fk_some F1
theorem K_Model_isDigit {I : MI} {J : MJ} : fk sM I J (f_Model_isDigit  I J) := by
  unfold f_Model_isDigit
  refine fk_oc (fr_rfl _ _ _) (K_Model_see ) (fun v1 I1 J1 F1 => ?_)
  refine fk_ite (fun c2 => ?_) (fun c2 => ?_)
  · skip
    exact fk_some F1
  · skip
    refine fk_oc F1 (K_Model_see ) (fun v3 I3 J3 F3 => ?_)
    refine fk_ite (fun c4 => ?_) (fun c4 => ?_)
    · skip
      exact fk_some F3
    · skip
      exact fk_some F3
theorem K_Model_lay_IV {p2 : Int32} {I : MI} {J : MJ} : fk sM I J (f_Model_lay_IV p2 I J) := by
  unfold f_Model_lay_IV
  refine fk_ite (fun c1 => ?_) (fun c1 => ?_)
  · skip
    exact fk_none
  · skip
    refine fk_pI (fr_rfl _ _ _) (by decide) (fun I2 F2 => ?_)
    refine fk_pI F2 (by decide) (fun I3 F3 => ?_)
    exact fk_some F3
theorem K_Model_lay_IIV {p2 : Int32} {p3 : Int32} {I : MI} {J : MJ} : fk sM I J (f_Model_lay_IIV p2 p3 I J) := by
  unfold f_Model_lay_IIV
  refine fk_oc (fr_rfl _ _ _) (K_Model_lay_IV ) (fun v1 I1 J1 F1 => ?_)
  refine fk_oc F1 (K_Model_lay_IV ) (fun v2 I2 J2 F2 => ?_)
  exact fk_some F2
theorem K_Model_readX_14 {R : M3} (hR : ∀ k a b I J, fk sM I J (R k a b I J)) : ∀ (fu : Nat) {l1 : Int32} {I : MI} {J : MJ}, fk sM I J (f_Model_readX_14 R  fu l1 I J) := by
  intro fu
  induction fu with
  | zero =>
    intros
    exact fk_none
  | succ fu ih =>
    intro l1 I J 
    unfold f_Model_readX_14
    refine fk_oc (fr_rfl _ _ _) (K_Model_see ) (fun v4 I4 J4 F1 => ?_)
    refine fk_ite (fun c2 => ?_) (fun c2 => ?_)
    · skip
      refine fk_oc F1 (K_Model_see ) (fun v6 I6 J6 F3 => ?_)
      refine fk_pv (fun v8 => ?_)
      refine fk_pI F3 (by decide) (fun I10 F4 => ?_)
      refine fk_oc F4 (hR 1 0 0 I10 J6) (fun v11 I11 J11 F5 => ?_)
      refine fk_ite (fun c6 => ?_) (fun c6 => ?_)
      · skip
        refine fk_pv (fun v14 => ?_)
        refine fk_oc F5 (K_Model_lay_IV ) (fun v17 I17 J17 F7 => ?_)
        exact fk_tail F7 (ih )
      · skip
        exact fk_some F5
    · skip
      refine fk_oc F1 (K_Model_see ) (fun v18 I18 J18 F8 => ?_)
      refine fk_ite (fun c9 => ?_) (fun c9 => ?_)
      · skip
        exact fk_some F8
      · skip
        refine fk_oc F8 (K_Model_see ) (fun v20 I20 J20 F10 => ?_)
        refine fk_pv (fun v22 => ?_)
        refine fk_pI F10 (by decide) (fun I24 F11 => ?_)
        refine fk_oc F11 (hR 1 0 0 I24 J20) (fun v25 I25 J25 F12 => ?_)
        refine fk_ite (fun c13 => ?_) (fun c13 => ?_)
        · skip
          refine fk_pv (fun v28 => ?_)
          refine fk_oc F12 (K_Model_lay_IV ) (fun v31 I31 J31 F14 => ?_)
          exact fk_tail F14 (ih )
        · skip
          exact fk_some F12
theorem K_Model_readX {R : M3} {I : MI} {J : MJ} (hR : ∀ k a b I J, fk sM I J (R k a b I J)) : fk sM I J (f_Model_readX R  I J) := by
  unfold f_Model_readX
  refine fk_oc (fr_rfl _ _ _) (hR 1 0 0 I J) (fun v1 I1 J1 F1 => ?_)
  refine fk_ite (fun c2 => ?_) (fun c2 => ?_)
  · skip
    refine fk_pv (fun x3 => ?_)
    refine fk_oc F1 (K_Model_readX_14 hR  gF ) (fun q32 I32 J32 F3 => ?_)
    refine fk_oe (fun y32 => ?_) (fun u32 => ?_)
    · skip
      exact fk_some F3
    · skip
      refine fk_ite (fun c4 => ?_) (fun c4 => ?_)
      · skip
        refine fk_pI F3 (by decide) (fun I33 F5 => ?_)
        exact fk_some F5
      · skip
        exact fk_none
  · skip
    exact fk_some F1
theorem K_Model_readProduct_14 {R : M3} (hR : ∀ k a b I J, fk sM I J (R k a b I J)) : ∀ (fu : Nat) {l1 : Int32} {I : MI} {J : MJ}, fk sM I J (f_Model_readProduct_14 R  fu l1 I J) := by
  intro fu
  induction fu with
  | zero =>
    intros
    exact fk_none
  | succ fu ih =>
    intro l1 I J 
    unfold f_Model_readProduct_14
    refine fk_oc (fr_rfl _ _ _) (K_Model_takes ) (fun v4 I4 J4 F1 => ?_)
    refine fk_ite (fun c2 => ?_) (fun c2 => ?_)
    · skip
      exact fk_some F1
    · skip
      refine fk_oc F1 (hR 2 0 0 I4 J4) (fun v6 I6 J6 F3 => ?_)
      refine fk_ite (fun c4 => ?_) (fun c4 => ?_)
      · skip
        refine fk_pv (fun v9 => ?_)
        refine fk_oc F3 (K_Model_lay_IV ) (fun v12 I12 J12 F5 => ?_)
        refine fk_ite (fun c6 => ?_) (fun c6 => ?_)
        · skip
          exact fk_tail F5 (ih )
        · skip
          refine fk_ite (fun c7 => ?_) (fun c7 => ?_)
          · skip
            exact fk_tail F5 (ih )
          · skip
            exact fk_tail F5 (ih )
      · skip
        exact fk_some F3
theorem K_Model_readProduct {R : M3} {I : MI} {J : MJ} (hR : ∀ k a b I J, fk sM I J (R k a b I J)) : fk sM I J (f_Model_readProduct R  I J) := by
  unfold f_Model_readProduct
  refine fk_oc (fr_rfl _ _ _) (hR 2 0 0 I J) (fun v1 I1 J1 F1 => ?_)
  refine fk_ite (fun c2 => ?_) (fun c2 => ?_)
  · skip
    refine fk_pv (fun x3 => ?_)
    refine fk_oc F1 (K_Model_readProduct_14 hR  gF ) (fun q15 I15 J15 F3 => ?_)
    refine fk_oe (fun y15 => ?_) (fun u15 => ?_)
    · skip
      exact fk_some F3
    · skip
      refine fk_ite (fun c4 => ?_) (fun c4 => ?_)
      · skip
        refine fk_pI F3 (by decide) (fun I16 F5 => ?_)
        exact fk_some F5
      · skip
        exact fk_none
  · skip
    exact fk_some F1
theorem K_Model_readFactor_79 {R : M3} (hR : ∀ k a b I J, fk sM I J (R k a b I J)) : ∀ (fu : Nat) {I : MI} {J : MJ}, fk sM I J (f_Model_readFactor_79 R  fu  I J) := by
  intro fu
  induction fu with
  | zero =>
    intros
    exact fk_none
  | succ fu ih =>
    intro I J 
    unfold f_Model_readFactor_79
    refine fk_oc (fr_rfl _ _ _) (K_Model_takes ) (fun v5 I5 J5 F1 => ?_)
    refine fk_ite (fun c2 => ?_) (fun c2 => ?_)
    · skip
      exact fk_some F1
    · skip
      refine fk_ite (fun c3 => ?_) (fun c3 => ?_)
      · skip
        refine fk_oc F1 (K_Model_lay_IV ) (fun v8 I8 J8 F4 => ?_)
        exact fk_tail F4 (ih )
      · skip
        refine fk_oc F1 (K_Model_lay_IV ) (fun v9 I9 J9 F5 => ?_)
        exact fk_tail F5 (ih )
theorem K_Model_readFactor {R : M3} {I : MI} {J : MJ} (hR : ∀ k a b I J, fk sM I J (R k a b I J)) : fk sM I J (f_Model_readFactor R  I J) := by
  unfold f_Model_readFactor
  refine fk_oc (fr_rfl _ _ _) (K_Model_see ) (fun v1 I1 J1 F1 => ?_)
  refine fk_ite (fun c2 => ?_) (fun c2 => ?_)
  · skip
    refine fk_oc F1 (hR 3 0 0 I1 J1) (fun v3 I3 J3 F3 => ?_)
    refine fk_ite (fun c4 => ?_) (fun c4 => ?_)
    · skip
      refine fk_oc F3 (K_Model_readFactor_79 hR  gF ) (fun u10 I10 J10 F5 => ?_)
      exact fk_some F5
    · skip
      exact fk_some F3
  · skip
    refine fk_ite (fun c6 => ?_) (fun c6 => ?_)
    · skip
      refine fk_pI F1 (by decide) (fun I12 F7 => ?_)
      refine fk_pI F7 (by decide) (fun I13 F8 => ?_)
      refine fk_oc F8 (hR 2 0 0 I13 J1) (fun v14 I14 J14 F9 => ?_)
      refine fk_pI F9 (by decide) (fun I15 F10 => ?_)
      refine fk_ite (fun c11 => ?_) (fun c11 => ?_)
      · skip
        refine fk_ite (fun c12 => ?_) (fun c12 => ?_)
        · skip
          exact fk_some F10
        · skip
          exact fk_none
      · skip
        refine fk_oc F10 (K_Model_lay_IV ) (fun v18 I18 J18 F13 => ?_)
        refine fk_ite (fun c14 => ?_) (fun c14 => ?_)
        · skip
          exact fk_some F13
        · skip
          exact fk_none
    · skip
      refine fk_oc F1 (K_Model_refuse ) (fun v20 I20 J20 F15 => ?_)
      refine fk_ite (fun c16 => ?_) (fun c16 => ?_)
      · skip
        exact fk_some F15
      · skip
        exact fk_none
theorem K_Model_readPlace {R : M3} {I : MI} {J : MJ} (hR : ∀ k a b I J, fk sM I J (R k a b I J)) : fk sM I J (f_Model_readPlace R  I J) := by
  unfold f_Model_readPlace
  refine fk_oc (fr_rfl _ _ _) (K_Model_see ) (fun v1 I1 J1 F1 => ?_)
  refine fk_pv (fun x2 => ?_)
  refine fk_oc F1 (K_Model_see ) (fun v3 I3 J3 F2 => ?_)
  refine fk_ite (fun c3 => ?_) (fun c3 => ?_)
  · skip
    refine fk_oc F2 (K_Model_want ) (fun v5 I5 J5 F4 => ?_)
    refine fk_ite (fun c5 => ?_) (fun c5 => ?_)
    · skip
      refine fk_pI F4 (by decide) (fun I7 F6 => ?_)
      refine fk_oc F6 (hR 0 0 0 I7 J5) (fun v8 I8 J8 F7 => ?_)
      refine fk_oc F7 ?_ (fun v10 I10 J10 F8 => ?_)
      · skip
        refine fk_ite (fun c9 => ?_) (fun c9 => ?_)
        · skip
          exact fk_some (fr_rfl _ _ _)
        · skip
          refine fk_ite (fun c10 => ?_) (fun c10 => ?_)
          · skip
            exact fk_some (fr_rfl _ _ _)
          · skip
            refine fk_oc (fr_rfl _ _ _) (K_Model_note ) (fun v13 I13 J13 F11 => ?_)
            exact fk_some F11
      · skip
        refine fk_oc F8 ?_ (fun v15 I15 J15 F12 => ?_)
        · skip
          refine fk_ite (fun c13 => ?_) (fun c13 => ?_)
          · skip
            exact fk_some (fr_rfl _ _ _)
          · skip
            refine fk_oc (fr_rfl _ _ _) (K_Model_want ) (fun v17 I17 J17 F14 => ?_)
            refine fk_ite (fun c15 => ?_) (fun c15 => ?_)
            · skip
              exact fk_some F14
            · skip
              exact fk_some F14
        · skip
          refine fk_pI F12 (by decide) (fun I19 F16 => ?_)
          refine fk_ite (fun c17 => ?_) (fun c17 => ?_)
          · skip
            exact fk_some F16
          · skip
            exact fk_none
    · skip
      exact fk_some F4
  · skip
    refine fk_ite (fun c18 => ?_) (fun c18 => ?_)
    · skip
      refine fk_oc F2 (K_Model_want ) (fun v22 I22 J22 F19 => ?_)
      refine fk_ite (fun c20 => ?_) (fun c20 => ?_)
      · skip
        refine fk_pI F19 (by decide) (fun I24 F21 => ?_)
        refine fk_oc F21 (hR 0 0 0 I24 J22) (fun v25 I25 J25 F22 => ?_)
        refine fk_oc F22 ?_ (fun v27 I27 J27 F23 => ?_)
        · skip
          refine fk_ite (fun c24 => ?_) (fun c24 => ?_)
          · skip
            exact fk_some (fr_rfl _ _ _)
          · skip
            refine fk_ite (fun c25 => ?_) (fun c25 => ?_)
            · skip
              exact fk_some (fr_rfl _ _ _)
            · skip
              refine fk_oc (fr_rfl _ _ _) (K_Model_note ) (fun v30 I30 J30 F26 => ?_)
              exact fk_some F26
        · skip
          refine fk_oc F23 ?_ (fun v32 I32 J32 F27 => ?_)
          · skip
            refine fk_ite (fun c28 => ?_) (fun c28 => ?_)
            · skip
              exact fk_some (fr_rfl _ _ _)
            · skip
              refine fk_oc (fr_rfl _ _ _) (K_Model_want ) (fun v34 I34 J34 F29 => ?_)
              refine fk_ite (fun c30 => ?_) (fun c30 => ?_)
              · skip
                exact fk_some F29
              · skip
                exact fk_some F29
          · skip
            refine fk_pI F27 (by decide) (fun I36 F31 => ?_)
            refine fk_ite (fun c32 => ?_) (fun c32 => ?_)
            · skip
              exact fk_some F31
            · skip
              exact fk_none
      · skip
        exact fk_some F19
    · skip
      refine fk_oc F2 (K_Model_refuse ) (fun v38 I38 J38 F33 => ?_)
      refine fk_ite (fun c34 => ?_) (fun c34 => ?_)
      · skip
        exact fk_some F33
      · skip
        exact fk_none
theorem K_Model_readNumber_4 : ∀ (fu : Nat) {l1 : Int64} {l3 : Int32} {I : MI} {J : MJ}, fk sM I J (f_Model_readNumber_4  fu l1 l3 I J) := by
  intro fu
  induction fu with
  | zero =>
    intros
    exact fk_none
  | succ fu ih =>
    intro l1 l3 I J 
    unfold f_Model_readNumber_4
    refine fk_ite (fun c1 => ?_) (fun c1 => ?_)
    · skip
      exact fk_some (fr_rfl _ _ _)
    · skip
      refine fk_ite (fun c2 => ?_) (fun c2 => ?_)
      · skip
        exact fk_none
      · skip
        refine fk_ite (fun c3 => ?_) (fun c3 => ?_)
        · skip
          exact fk_some (fr_rfl _ _ _)
        · skip
          refine fk_ite (fun c4 => ?_) (fun c4 => ?_)
          · skip
            exact fk_none
          · skip
            refine fk_ite (fun c5 => ?_) (fun c5 => ?_)
            · skip
              exact fk_some (fr_rfl _ _ _)
            · skip
              refine fk_ite (fun c6 => ?_) (fun c6 => ?_)
              · skip
                refine fk_ite (fun c7 => ?_) (fun c7 => ?_)
                · skip
                  exact fk_none
                · skip
                  refine fk_pv (fun x8 => ?_)
                  refine fk_pI (fr_rfl _ _ _) (by decide) (fun I9 F8 => ?_)
                  exact fk_tail F8 (ih )
              · skip
                refine fk_pI (fr_rfl _ _ _) (by decide) (fun I10 F9 => ?_)
                refine fk_pI F9 (by decide) (fun I11 F10 => ?_)
                exact fk_some F10
theorem K_Model_readNumber_110 : ∀ (fu : Nat) {l1 : Int64} {l4 : Int32} {I : MI} {J : MJ}, fk sM I J (f_Model_readNumber_110  fu l1 l4 I J) := by
  intro fu
  induction fu with
  | zero =>
    intros
    exact fk_none
  | succ fu ih =>
    intro l1 l4 I J 
    unfold f_Model_readNumber_110
    refine fk_ite (fun c1 => ?_) (fun c1 => ?_)
    · skip
      exact fk_some (fr_rfl _ _ _)
    · skip
      refine fk_oc (fr_rfl _ _ _) (K_Model_lay_IV ) (fun v15 I15 J15 F2 => ?_)
      exact fk_tail F2 (ih )
theorem K_Model_readNumber {I : MI} {J : MJ} : fk sM I J (f_Model_readNumber  I J) := by
  unfold f_Model_readNumber
  refine fk_oc (fr_rfl _ _ _) (K_Model_readNumber_4  gF ) (fun q12 I12 J12 F1 => ?_)
  refine fk_oe (fun y12 => ?_) (fun u12 => ?_)
  · skip
    exact fk_some F1
  · skip
    refine fk_oc F1 (K_Model_lay_IV ) (fun v13 I13 J13 F2 => ?_)
    refine fk_oc F2 (K_Model_readNumber_110  gF ) (fun u16 I16 J16 F3 => ?_)
    exact fk_some F3
theorem K_Model_readStatements_0 {R : M3} (hR : ∀ k a b I J, fk sM I J (R k a b I J)) : ∀ (fu : Nat) {I : MI} {J : MJ}, fk sM I J (f_Model_readStatements_0 R  fu  I J) := by
  intro fu
  induction fu with
  | zero =>
    intros
    exact fk_none
  | succ fu ih =>
    intro I J 
    unfold f_Model_readStatements_0
    refine fk_oc (fr_rfl _ _ _) (K_Model_see ) (fun v1 I1 J1 F1 => ?_)
    refine fk_ite (fun c2 => ?_) (fun c2 => ?_)
    · skip
      exact fk_some F1
    · skip
      refine fk_oc F1 (K_Model_see ) (fun v3 I3 J3 F3 => ?_)
      refine fk_ite (fun c4 => ?_) (fun c4 => ?_)
      · skip
        exact fk_some F3
      · skip
        refine fk_oc F3 (K_Model_see ) (fun v5 I5 J5 F5 => ?_)
        refine fk_ite (fun c6 => ?_) (fun c6 => ?_)
        · skip
          exact fk_some F5
        · skip
          refine fk_oc F5 (hR 6 0 0 I5 J5) (fun v7 I7 J7 F7 => ?_)
          refine fk_ite (fun c8 => ?_) (fun c8 => ?_)
          · skip
            exact fk_tail F7 (ih )
          · skip
            exact fk_some F7
theorem K_Model_readStatements {R : M3} {I : MI} {J : MJ} (hR : ∀ k a b I J, fk sM I J (R k a b I J)) : fk sM I J (f_Model_readStatements R  I J) := by
  unfold f_Model_readStatements
  refine fk_oc (fr_rfl _ _ _) (K_Model_readStatements_0 hR  gF ) (fun q9 I9 J9 F1 => ?_)
  refine fk_oe (fun y9 => ?_) (fun u9 => ?_)
  · skip
    exact fk_some F1
  · skip
    exact fk_some F1
theorem K_Model_readBit {p2 : Int32} {p3 : Int32} {I : MI} {J : MJ} : fk sM I J (f_Model_readBit p2 p3 I J) := by
  unfold f_Model_readBit
  refine fk_oc (fr_rfl _ _ _) (K_Model_isClear ) (fun v1 I1 J1 F1 => ?_)
  refine fk_oc F1 ?_ (fun v3 I3 J3 F2 => ?_)
  · skip
    refine fk_ite (fun c3 => ?_) (fun c3 => ?_)
    · skip
      exact fk_some (fr_rfl _ _ _)
    · skip
      refine fk_oc (fr_rfl _ _ _) (K_Model_note ) (fun v5 I5 J5 F4 => ?_)
      exact fk_some F4
  · skip
    refine fk_oc F2 (K_Model_numberOf ) (fun v6 I6 J6 F5 => ?_)
    refine fk_oc F5 (K_Model_lay_IIV ) (fun v7 I7 J7 F6 => ?_)
    refine fk_oc F6 (K_Model_want ) (fun v8 I8 J8 F7 => ?_)
    refine fk_ite (fun c8 => ?_) (fun c8 => ?_)
    · skip
      exact fk_some F7
    · skip
      exact fk_none
theorem K_Model_readInput {p2 : Int32} {p3 : Int32} {I : MI} {J : MJ} : fk sM I J (f_Model_readInput p2 p3 I J) := by
  unfold f_Model_readInput
  refine fk_oc (fr_rfl _ _ _) (K_Model_isDigit ) (fun v1 I1 J1 F1 => ?_)
  refine fk_ite (fun c2 => ?_) (fun c2 => ?_)
  · skip
    refine fk_pv (fun x3 => ?_)
    refine fk_oc F1 (K_Model_see ) (fun v4 I4 J4 F3 => ?_)
    refine fk_pv (fun x5 => ?_)
    refine fk_pI F3 (by decide) (fun I6 F4 => ?_)
    refine fk_oc F4 (K_Model_isClear ) (fun v7 I7 J7 F5 => ?_)
    refine fk_oc F5 ?_ (fun v9 I9 J9 F6 => ?_)
    · skip
      refine fk_ite (fun c7 => ?_) (fun c7 => ?_)
      · skip
        exact fk_some (fr_rfl _ _ _)
      · skip
        refine fk_oc (fr_rfl _ _ _) (K_Model_note ) (fun v11 I11 J11 F8 => ?_)
        exact fk_some F8
    · skip
      refine fk_oc F6 ?_ (fun v13 I13 J13 F9 => ?_)
      · skip
        refine fk_ite (fun c10 => ?_) (fun c10 => ?_)
        · skip
          exact fk_some (fr_rfl _ _ _)
        · skip
          refine fk_oc (fr_rfl _ _ _) (K_Model_note ) (fun v15 I15 J15 F11 => ?_)
          exact fk_some F11
      · skip
        refine fk_oc F9 (K_Model_numberOf ) (fun v16 I16 J16 F12 => ?_)
        refine fk_oc F12 (K_Model_lay_IIV ) (fun v17 I17 J17 F13 => ?_)
        refine fk_oc F13 (K_Model_lay_IV ) (fun v18 I18 J18 F14 => ?_)
        refine fk_oc F14 (K_Model_want ) (fun v19 I19 J19 F15 => ?_)
        refine fk_ite (fun c16 => ?_) (fun c16 => ?_)
        · skip
          exact fk_some F15
        · skip
          exact fk_none
  · skip
    refine fk_oc F1 (K_Model_refuse ) (fun v21 I21 J21 F17 => ?_)
    refine fk_ite (fun c18 => ?_) (fun c18 => ?_)
    · skip
      exact fk_some F17
    · skip
      exact fk_none
theorem K_Model_isSum_7 : ∀ (fu : Nat) {l1 : Int32} {I : MI} {J : MJ}, fk sM I J (f_Model_isSum_7  fu l1 I J) := by
  intro fu
  induction fu with
  | zero =>
    intros
    exact fk_none
  | succ fu ih =>
    intro l1 I J 
    unfold f_Model_isSum_7
    refine fk_ite (fun c1 => ?_) (fun c1 => ?_)
    · skip
      exact fk_some (fr_rfl _ _ _)
    · skip
      refine fk_ite (fun c2 => ?_) (fun c2 => ?_)
      · skip
        exact fk_none
      · skip
        refine fk_ite (fun c3 => ?_) (fun c3 => ?_)
        · skip
          exact fk_some (fr_rfl _ _ _)
        · skip
          exact fk_tail (fr_rfl _ _ _) (ih )
theorem K_Model_isSum {I : MI} {J : MJ} : fk sM I J (f_Model_isSum  I J) := by
  unfold f_Model_isSum
  refine fk_pv (fun x1 => ?_)
  refine fk_oc (fr_rfl _ _ _) (K_Model_isSum_7  gF ) (fun u5 I5 J5 F1 => ?_)
  refine fk_ite (fun c2 => ?_) (fun c2 => ?_)
  · skip
    exact fk_some F1
  · skip
    refine fk_ite (fun c3 => ?_) (fun c3 => ?_)
    · skip
      exact fk_none
    · skip
      refine fk_ite (fun c4 => ?_) (fun c4 => ?_)
      · skip
        exact fk_some F1
      · skip
        exact fk_some F1
theorem K_Model_readRows {p2 : Int32} {p3 : Int32} {I : MI} {J : MJ} : fk sM I J (f_Model_readRows p2 p3 I J) := by
  unfold f_Model_readRows
  refine fk_oc (fr_rfl _ _ _) (K_Model_isRow ) (fun v1 I1 J1 F1 => ?_)
  refine fk_ite (fun c2 => ?_) (fun c2 => ?_)
  · skip
    refine fk_oc F1 (K_Model_see ) (fun v3 I3 J3 F3 => ?_)
    refine fk_pI F3 (by decide) (fun I4 F4 => ?_)
    refine fk_oc F4 (K_Model_see ) (fun v5 I5 J5 F5 => ?_)
    refine fk_ite (fun c6 => ?_) (fun c6 => ?_)
    · skip
      refine fk_pI F5 (by decide) (fun I7 F7 => ?_)
      refine fk_oc F7 (K_Model_isRow ) (fun v8 I8 J8 F8 => ?_)
      refine fk_ite (fun c9 => ?_) (fun c9 => ?_)
      · skip
        refine fk_oc F8 (K_Model_see ) (fun v10 I10 J10 F10 => ?_)
        refine fk_pI F10 (by decide) (fun I11 F11 => ?_)
        refine fk_oc F11 (K_Model_isSecretRow ) (fun v12 I12 J12 F12 => ?_)
        refine fk_oc F12 ?_ (fun v14 I14 J14 F13 => ?_)
        · skip
          refine fk_ite (fun c14 => ?_) (fun c14 => ?_)
          · skip
            exact fk_some (fr_rfl _ _ _)
          · skip
            refine fk_oc (fr_rfl _ _ _) (K_Model_isSecretRow ) (fun v16 I16 J16 F15 => ?_)
            refine fk_ite (fun c16 => ?_) (fun c16 => ?_)
            · skip
              refine fk_oc F15 (K_Model_note ) (fun v18 I18 J18 F17 => ?_)
              exact fk_some F17
            · skip
              refine fk_oc F15 (K_Model_isSecretRow ) (fun v19 I19 J19 F18 => ?_)
              refine fk_ite (fun c19 => ?_) (fun c19 => ?_)
              · skip
                exact fk_some F18
              · skip
                refine fk_oc F18 (K_Model_note ) (fun v21 I21 J21 F20 => ?_)
                exact fk_some F20
        · skip
          refine fk_pv (fun v24 => ?_)
          refine fk_oc F13 (K_Model_lay_IIV ) (fun v27 I27 J27 F21 => ?_)
          refine fk_oc F21 (K_Model_lay_IV ) (fun v28 I28 J28 F22 => ?_)
          refine fk_oc F22 (K_Model_lay_IV ) (fun v29 I29 J29 F23 => ?_)
          refine fk_oc F23 (K_Model_want ) (fun v30 I30 J30 F24 => ?_)
          refine fk_ite (fun c25 => ?_) (fun c25 => ?_)
          · skip
            exact fk_some F24
          · skip
            exact fk_none
      · skip
        refine fk_oc F8 (K_Model_refuse ) (fun v32 I32 J32 F26 => ?_)
        refine fk_ite (fun c27 => ?_) (fun c27 => ?_)
        · skip
          exact fk_some F26
        · skip
          exact fk_none
    · skip
      refine fk_ite (fun c28 => ?_) (fun c28 => ?_)
      · skip
        refine fk_pI F5 (by decide) (fun I35 F29 => ?_)
        refine fk_oc F29 (K_Model_isRow ) (fun v36 I36 J36 F30 => ?_)
        refine fk_ite (fun c31 => ?_) (fun c31 => ?_)
        · skip
          refine fk_oc F30 (K_Model_see ) (fun v38 I38 J38 F32 => ?_)
          refine fk_pI F32 (by decide) (fun I39 F33 => ?_)
          refine fk_oc F33 (K_Model_isSecretRow ) (fun v40 I40 J40 F34 => ?_)
          refine fk_oc F34 ?_ (fun v42 I42 J42 F35 => ?_)
          · skip
            refine fk_ite (fun c36 => ?_) (fun c36 => ?_)
            · skip
              exact fk_some (fr_rfl _ _ _)
            · skip
              refine fk_oc (fr_rfl _ _ _) (K_Model_isSecretRow ) (fun v44 I44 J44 F37 => ?_)
              refine fk_ite (fun c38 => ?_) (fun c38 => ?_)
              · skip
                refine fk_oc F37 (K_Model_note ) (fun v46 I46 J46 F39 => ?_)
                exact fk_some F39
              · skip
                refine fk_oc F37 (K_Model_isSecretRow ) (fun v47 I47 J47 F40 => ?_)
                refine fk_ite (fun c41 => ?_) (fun c41 => ?_)
                · skip
                  exact fk_some F40
                · skip
                  refine fk_oc F40 (K_Model_note ) (fun v49 I49 J49 F42 => ?_)
                  exact fk_some F42
          · skip
            refine fk_pv (fun v52 => ?_)
            refine fk_oc F35 (K_Model_lay_IIV ) (fun v55 I55 J55 F43 => ?_)
            refine fk_oc F43 (K_Model_lay_IV ) (fun v56 I56 J56 F44 => ?_)
            refine fk_oc F44 (K_Model_lay_IV ) (fun v57 I57 J57 F45 => ?_)
            refine fk_oc F45 (K_Model_want ) (fun v58 I58 J58 F46 => ?_)
            refine fk_ite (fun c47 => ?_) (fun c47 => ?_)
            · skip
              exact fk_some F46
            · skip
              exact fk_none
        · skip
          refine fk_oc F30 (K_Model_refuse ) (fun v60 I60 J60 F48 => ?_)
          refine fk_ite (fun c49 => ?_) (fun c49 => ?_)
          · skip
            exact fk_some F48
          · skip
            exact fk_none
      · skip
        refine fk_ite (fun c50 => ?_) (fun c50 => ?_)
        · skip
          refine fk_pI F5 (by decide) (fun I63 F51 => ?_)
          refine fk_oc F51 (K_Model_isRow ) (fun v64 I64 J64 F52 => ?_)
          refine fk_ite (fun c53 => ?_) (fun c53 => ?_)
          · skip
            refine fk_oc F52 (K_Model_see ) (fun v66 I66 J66 F54 => ?_)
            refine fk_pI F54 (by decide) (fun I67 F55 => ?_)
            refine fk_oc F55 (K_Model_isSecretRow ) (fun v68 I68 J68 F56 => ?_)
            refine fk_oc F56 ?_ (fun v70 I70 J70 F57 => ?_)
            · skip
              refine fk_ite (fun c58 => ?_) (fun c58 => ?_)
              · skip
                exact fk_some (fr_rfl _ _ _)
              · skip
                refine fk_oc (fr_rfl _ _ _) (K_Model_isSecretRow ) (fun v72 I72 J72 F59 => ?_)
                refine fk_ite (fun c60 => ?_) (fun c60 => ?_)
                · skip
                  refine fk_oc F59 (K_Model_note ) (fun v74 I74 J74 F61 => ?_)
                  exact fk_some F61
                · skip
                  refine fk_oc F59 (K_Model_isSecretRow ) (fun v75 I75 J75 F62 => ?_)
                  refine fk_ite (fun c63 => ?_) (fun c63 => ?_)
                  · skip
                    exact fk_some F62
                  · skip
                    refine fk_oc F62 (K_Model_note ) (fun v77 I77 J77 F64 => ?_)
                    exact fk_some F64
            · skip
              refine fk_pv (fun v80 => ?_)
              refine fk_oc F57 (K_Model_lay_IIV ) (fun v83 I83 J83 F65 => ?_)
              refine fk_oc F65 (K_Model_lay_IV ) (fun v84 I84 J84 F66 => ?_)
              refine fk_oc F66 (K_Model_lay_IV ) (fun v85 I85 J85 F67 => ?_)
              refine fk_oc F67 (K_Model_want ) (fun v86 I86 J86 F68 => ?_)
              refine fk_ite (fun c69 => ?_) (fun c69 => ?_)
              · skip
                exact fk_some F68
              · skip
                exact fk_none
          · skip
            refine fk_oc F52 (K_Model_refuse ) (fun v88 I88 J88 F70 => ?_)
            refine fk_ite (fun c71 => ?_) (fun c71 => ?_)
            · skip
              exact fk_some F70
            · skip
              exact fk_none
        · skip
          refine fk_oc F5 (K_Model_refuse ) (fun v90 I90 J90 F72 => ?_)
          refine fk_ite (fun c73 => ?_) (fun c73 => ?_)
          · skip
            exact fk_some F72
          · skip
            exact fk_none
  · skip
    refine fk_oc F1 (K_Model_refuse ) (fun v92 I92 J92 F74 => ?_)
    refine fk_ite (fun c75 => ?_) (fun c75 => ?_)
    · skip
      exact fk_some F74
    · skip
      exact fk_none
theorem K_Model_readOut {I : MI} {J : MJ} : fk sM I J (f_Model_readOut  I J) := by
  unfold f_Model_readOut
  refine fk_pI (fr_rfl _ _ _) (by decide) (fun I1 F1 => ?_)
  refine fk_oc F1 (K_Model_isVariable ) (fun v2 I2 J2 F2 => ?_)
  refine fk_ite (fun c3 => ?_) (fun c3 => ?_)
  · skip
    refine fk_oc F2 (K_Model_see ) (fun v4 I4 J4 F4 => ?_)
    refine fk_pI F4 (by decide) (fun I5 F5 => ?_)
    refine fk_oc F5 (K_Model_isClear ) (fun v6 I6 J6 F6 => ?_)
    refine fk_pv (fun v8 => ?_)
    refine fk_oc F6 (K_Model_numberOf ) (fun v10 I10 J10 F7 => ?_)
    refine fk_oc F7 (K_Model_lay_IIV ) (fun v11 I11 J11 F8 => ?_)
    refine fk_oc F8 (K_Model_want ) (fun v12 I12 J12 F9 => ?_)
    refine fk_ite (fun c10 => ?_) (fun c10 => ?_)
    · skip
      exact fk_some F9
    · skip
      exact fk_none
  · skip
    refine fk_oc F2 (K_Model_refuse ) (fun v14 I14 J14 F11 => ?_)
    refine fk_ite (fun c12 => ?_) (fun c12 => ?_)
    · skip
      exact fk_some F11
    · skip
      exact fk_none
theorem K_Model_fill {p2 : Int32} {p3 : Int32} {I : MI} {J : MJ} : fk sM I J (f_Model_fill p2 p3 I J) := by
  unfold f_Model_fill
  refine fk_ite (fun c1 => ?_) (fun c1 => ?_)
  · skip
    exact fk_none
  · skip
    refine fk_pI (fr_rfl _ _ _) (by decide) (fun I2 F2 => ?_)
    refine fk_ite (fun c3 => ?_) (fun c3 => ?_)
    · skip
      exact fk_none
    · skip
      refine fk_pI F2 (by decide) (fun I4 F4 => ?_)
      exact fk_some F4
theorem K_Model_readTurn {R : M3} {p2 : Int32} {I : MI} {J : MJ} (hR : ∀ k a b I J, fk sM I J (R k a b I J)) : fk sM I J (f_Model_readTurn R p2 I J) := by
  unfold f_Model_readTurn
  refine fk_ite (fun c1 => ?_) (fun c1 => ?_)
  · skip
    refine fk_pI (fr_rfl _ _ _) (by decide) (fun I2 F2 => ?_)
    refine fk_pI F2 (by decide) (fun I3 F3 => ?_)
    refine fk_pI F3 (by decide) (fun I4 F4 => ?_)
    refine fk_oc F4 (K_Model_isVariable ) (fun v5 I5 J5 F5 => ?_)
    refine fk_ite (fun c6 => ?_) (fun c6 => ?_)
    · skip
      refine fk_oc F5 (K_Model_see ) (fun v7 I7 J7 F7 => ?_)
      refine fk_oc F7 (K_Model_isSecret ) (fun v8 I8 J8 F8 => ?_)
      refine fk_oc F8 ?_ (fun v10 I10 J10 F9 => ?_)
      · skip
        refine fk_ite (fun c10 => ?_) (fun c10 => ?_)
        · skip
          exact fk_some (fr_rfl _ _ _)
        · skip
          refine fk_oc (fr_rfl _ _ _) (K_Model_note ) (fun v12 I12 J12 F11 => ?_)
          exact fk_some F11
      · skip
        refine fk_oc F9 (K_Model_see ) (fun v13 I13 J13 F12 => ?_)
        refine fk_oc F12 (K_Model_numberOf ) (fun v14 I14 J14 F13 => ?_)
        refine fk_pI F13 (by decide) (fun I15 F14 => ?_)
        refine fk_oc F14 (K_Model_want ) (fun v16 I16 J16 F15 => ?_)
        refine fk_ite (fun c16 => ?_) (fun c16 => ?_)
        · skip
          refine fk_pv (fun x18 => ?_)
          refine fk_oc F15 (K_Model_lay_IIV ) (fun v19 I19 J19 F17 => ?_)
          refine fk_pv (fun x20 => ?_)
          refine fk_oc F17 (K_Model_lay_IIV ) (fun v21 I21 J21 F18 => ?_)
          refine fk_oc F18 (hR 5 0 0 I21 J21) (fun v22 I22 J22 F19 => ?_)
          refine fk_ite (fun c20 => ?_) (fun c20 => ?_)
          · skip
            refine fk_oc F19 (K_Model_lay_IV ) (fun v24 I24 J24 F21 => ?_)
            refine fk_pv (fun x25 => ?_)
            refine fk_oc F21 (K_Model_lay_IIV ) (fun v26 I26 J26 F22 => ?_)
            refine fk_ite (fun c23 => ?_) (fun c23 => ?_)
            · skip
              refine fk_oc F22 (K_Model_fill ) (fun v28 I28 J28 F24 => ?_)
              refine fk_oc F24 (K_Model_fill ) (fun v29 I29 J29 F25 => ?_)
              refine fk_pI F25 (by decide) (fun I30 F26 => ?_)
              refine fk_pI F26 (by decide) (fun I31 F27 => ?_)
              refine fk_oc F27 (K_Model_want ) (fun v32 I32 J32 F28 => ?_)
              refine fk_ite (fun c29 => ?_) (fun c29 => ?_)
              · skip
                exact fk_some F28
              · skip
                exact fk_none
            · skip
              refine fk_oc F22 (K_Model_want ) (fun v34 I34 J34 F30 => ?_)
              refine fk_ite (fun c31 => ?_) (fun c31 => ?_)
              · skip
                refine fk_oc F30 (K_Model_fill ) (fun v36 I36 J36 F32 => ?_)
                refine fk_oc F32 (hR 5 0 0 I36 J36) (fun v37 I37 J37 F33 => ?_)
                refine fk_ite (fun c34 => ?_) (fun c34 => ?_)
                · skip
                  refine fk_oc F33 (K_Model_fill ) (fun v39 I39 J39 F35 => ?_)
                  refine fk_pI F35 (by decide) (fun I40 F36 => ?_)
                  refine fk_pI F36 (by decide) (fun I41 F37 => ?_)
                  refine fk_oc F37 (K_Model_want ) (fun v42 I42 J42 F38 => ?_)
                  refine fk_ite (fun c39 => ?_) (fun c39 => ?_)
                  · skip
                    exact fk_some F38
                  · skip
                    exact fk_none
                · skip
                  exact fk_some F33
              · skip
                exact fk_some F30
          · skip
            exact fk_some F19
        · skip
          exact fk_some F15
    · skip
      refine fk_oc F5 (K_Model_refuse ) (fun v44 I44 J44 F40 => ?_)
      refine fk_ite (fun c41 => ?_) (fun c41 => ?_)
      · skip
        exact fk_some F40
      · skip
        exact fk_none
  · skip
    refine fk_oc (fr_rfl _ _ _) (K_Model_refuse ) (fun v46 I46 J46 F42 => ?_)
    refine fk_ite (fun c43 => ?_) (fun c43 => ?_)
    · skip
      exact fk_some F42
    · skip
      exact fk_none
theorem K_Model_take_2 {a2 : Nat} {m2 : Nat} {p3 : Int32} (h_a2 : ¬ sM a2) : ∀ (fu : Nat) {l2 : Int32} {l3 : Int32} {I : MI} {J : MJ}, fk sM I J (f_Model_take_2 a2 m2 p3 fu l2 l3 I J) := by
  intro fu
  induction fu with
  | zero =>
    intros
    exact fk_none
  | succ fu ih =>
    intro l2 l3 I J 
    unfold f_Model_take_2
    refine fk_ite (fun c1 => ?_) (fun c1 => ?_)
    · skip
      exact fk_some (fr_rfl _ _ _)
    · skip
      refine fk_ite (fun c2 => ?_) (fun c2 => ?_)
      · skip
        exact fk_none
      · skip
        refine fk_ite (fun c3 => ?_) (fun c3 => ?_)
        · skip
          exact fk_none
        · skip
          refine fk_pI (fr_rfl _ _ _) (by decide) (fun I4 F4 => ?_)
          exact fk_tail F4 (ih )
theorem K_Model_take {a2 : Nat} {m2 : Nat} {p3 : Int32} {I : MI} {J : MJ} (h_a2 : ¬ sM a2) : fk sM I J (f_Model_take a2 m2 p3 I J) := by
  unfold f_Model_take
  refine fk_oc (fr_rfl _ _ _) (K_Model_take_2 h_a2 gF ) (fun u5 I5 J5 F1 => ?_)
  refine fk_pI F1 (by decide) (fun I6 F2 => ?_)
  refine fk_pI F2 (by decide) (fun I7 F3 => ?_)
  refine fk_pI F3 (by decide) (fun I8 F4 => ?_)
  exact fk_some F4
theorem K_Model_longOf {p1 : Int32} {I : MI} {J : MJ} : fk sM I J (f_Model_longOf p1 I J) := by
  unfold f_Model_longOf
  refine fk_ite (fun c1 => ?_) (fun c1 => ?_)
  · skip
    refine fk_ite (fun c2 => ?_) (fun c2 => ?_)
    · skip
      exact fk_some (fr_rfl _ _ _)
    · skip
      refine fk_ite (fun c3 => ?_) (fun c3 => ?_)
      · skip
        refine fk_ite (fun c4 => ?_) (fun c4 => ?_)
        · skip
          exact fk_some (fr_rfl _ _ _)
        · skip
          refine fk_ite (fun c5 => ?_) (fun c5 => ?_)
          · skip
            exact fk_some (fr_rfl _ _ _)
          · skip
            refine fk_ite (fun c6 => ?_) (fun c6 => ?_)
            · skip
              exact fk_some (fr_rfl _ _ _)
            · skip
              refine fk_ite (fun c7 => ?_) (fun c7 => ?_)
              · skip
                exact fk_some (fr_rfl _ _ _)
              · skip
                refine fk_ite (fun c8 => ?_) (fun c8 => ?_)
                · skip
                  refine fk_ite (fun c9 => ?_) (fun c9 => ?_)
                  · skip
                    exact fk_some (fr_rfl _ _ _)
                  · skip
                    refine fk_ite (fun c10 => ?_) (fun c10 => ?_)
                    · skip
                      exact fk_some (fr_rfl _ _ _)
                    · skip
                      refine fk_ite (fun c11 => ?_) (fun c11 => ?_)
                      · skip
                        exact fk_some (fr_rfl _ _ _)
                      · skip
                        refine fk_ite (fun c12 => ?_) (fun c12 => ?_)
                        · skip
                          exact fk_some (fr_rfl _ _ _)
                        · skip
                          refine fk_ite (fun c13 => ?_) (fun c13 => ?_)
                          · skip
                            exact fk_some (fr_rfl _ _ _)
                          · skip
                            refine fk_ite (fun c14 => ?_) (fun c14 => ?_)
                            · skip
                              exact fk_some (fr_rfl _ _ _)
                            · skip
                              refine fk_ite (fun c15 => ?_) (fun c15 => ?_)
                              · skip
                                refine fk_ite (fun c16 => ?_) (fun c16 => ?_)
                                · skip
                                  exact fk_some (fr_rfl _ _ _)
                                · skip
                                  exact fk_some (fr_rfl _ _ _)
                              · skip
                                refine fk_ite (fun c17 => ?_) (fun c17 => ?_)
                                · skip
                                  exact fk_some (fr_rfl _ _ _)
                                · skip
                                  refine fk_ite (fun c18 => ?_) (fun c18 => ?_)
                                  · skip
                                    exact fk_some (fr_rfl _ _ _)
                                  · skip
                                    exact fk_some (fr_rfl _ _ _)
                · skip
                  exact fk_some (fr_rfl _ _ _)
      · skip
        refine fk_ite (fun c19 => ?_) (fun c19 => ?_)
        · skip
          refine fk_ite (fun c20 => ?_) (fun c20 => ?_)
          · skip
            exact fk_some (fr_rfl _ _ _)
          · skip
            refine fk_ite (fun c21 => ?_) (fun c21 => ?_)
            · skip
              exact fk_some (fr_rfl _ _ _)
            · skip
              refine fk_ite (fun c22 => ?_) (fun c22 => ?_)
              · skip
                exact fk_some (fr_rfl _ _ _)
              · skip
                refine fk_ite (fun c23 => ?_) (fun c23 => ?_)
                · skip
                  exact fk_some (fr_rfl _ _ _)
                · skip
                  refine fk_ite (fun c24 => ?_) (fun c24 => ?_)
                  · skip
                    refine fk_ite (fun c25 => ?_) (fun c25 => ?_)
                    · skip
                      exact fk_some (fr_rfl _ _ _)
                    · skip
                      refine fk_ite (fun c26 => ?_) (fun c26 => ?_)
                      · skip
                        exact fk_some (fr_rfl _ _ _)
                      · skip
                        refine fk_ite (fun c27 => ?_) (fun c27 => ?_)
                        · skip
                          exact fk_some (fr_rfl _ _ _)
                        · skip
                          refine fk_ite (fun c28 => ?_) (fun c28 => ?_)
                          · skip
                            exact fk_some (fr_rfl _ _ _)
                          · skip
                            refine fk_ite (fun c29 => ?_) (fun c29 => ?_)
                            · skip
                              exact fk_some (fr_rfl _ _ _)
                            · skip
                              refine fk_ite (fun c30 => ?_) (fun c30 => ?_)
                              · skip
                                exact fk_some (fr_rfl _ _ _)
                              · skip
                                refine fk_ite (fun c31 => ?_) (fun c31 => ?_)
                                · skip
                                  refine fk_ite (fun c32 => ?_) (fun c32 => ?_)
                                  · skip
                                    exact fk_some (fr_rfl _ _ _)
                                  · skip
                                    exact fk_some (fr_rfl _ _ _)
                                · skip
                                  refine fk_ite (fun c33 => ?_) (fun c33 => ?_)
                                  · skip
                                    exact fk_some (fr_rfl _ _ _)
                                  · skip
                                    refine fk_ite (fun c34 => ?_) (fun c34 => ?_)
                                    · skip
                                      exact fk_some (fr_rfl _ _ _)
                                    · skip
                                      exact fk_some (fr_rfl _ _ _)
                  · skip
                    exact fk_some (fr_rfl _ _ _)
        · skip
          exact fk_some (fr_rfl _ _ _)
  · skip
    exact fk_some (fr_rfl _ _ _)
theorem K_Model_refused {p2 : Int32} {p3 : Int32} {I : MI} {J : MJ} : fk sM I J (f_Model_refused p2 p3 I J) := by
  unfold f_Model_refused
  refine fk_pI (fr_rfl _ _ _) (by decide) (fun I1 F1 => ?_)
  refine fk_pI F1 (by decide) (fun I2 F2 => ?_)
  exact fk_some F2
theorem K_Model_isGood_222 {p2 : Int32} : ∀ (fu : Nat) {l1 : Int32} {l6 : Int64} {l8 : Int32} {I : MI} {J : MJ}, fk sM I J (f_Model_isGood_222 p2 fu l1 l6 l8 I J) := by
  intro fu
  induction fu with
  | zero =>
    intros
    exact fk_none
  | succ fu ih =>
    intro l1 l6 l8 I J 
    unfold f_Model_isGood_222
    refine fk_ite (fun c1 => ?_) (fun c1 => ?_)
    · skip
      exact fk_some (fr_rfl _ _ _)
    · skip
      refine fk_ite (fun c2 => ?_) (fun c2 => ?_)
      · skip
        exact fk_none
      · skip
        refine fk_pv (fun x24 => ?_)
        exact fk_tail (fr_rfl _ _ _) (ih )
theorem K_Model_isGood {p2 : Int32} {I : MI} {J : MJ} : fk sM I J (f_Model_isGood p2 I J) := by
  unfold f_Model_isGood
  refine fk_ite (fun c1 => ?_) (fun c1 => ?_)
  · skip
    exact fk_none
  · skip
    refine fk_pv (fun x2 => ?_)
    refine fk_ite (fun c2 => ?_) (fun c2 => ?_)
    · skip
      exact fk_some (fr_rfl _ _ _)
    · skip
      refine fk_oc (fr_rfl _ _ _) (K_Model_longOf ) (fun v4 I4 J4 F3 => ?_)
      refine fk_ite (fun c4 => ?_) (fun c4 => ?_)
      · skip
        refine fk_oc F3 (K_Model_longOf ) (fun v6 I6 J6 F5 => ?_)
        refine fk_oc F5 ?_ (fun v8 I8 J8 F6 => ?_)
        · skip
          refine fk_ite (fun c7 => ?_) (fun c7 => ?_)
          · skip
            exact fk_some (fr_rfl _ _ _)
          · skip
            refine fk_ite (fun c8 => ?_) (fun c8 => ?_)
            · skip
              exact fk_none
            · skip
              exact fk_some (fr_rfl _ _ _)
        · skip
          refine fk_oc F6 (K_Model_longOf ) (fun v11 I11 J11 F9 => ?_)
          refine fk_oc F9 ?_ (fun v13 I13 J13 F10 => ?_)
          · skip
            refine fk_ite (fun c11 => ?_) (fun c11 => ?_)
            · skip
              exact fk_some (fr_rfl _ _ _)
            · skip
              refine fk_ite (fun c12 => ?_) (fun c12 => ?_)
              · skip
                exact fk_none
              · skip
                exact fk_some (fr_rfl _ _ _)
          · skip
            refine fk_oc F10 (K_Model_longOf ) (fun v16 I16 J16 F13 => ?_)
            refine fk_oc F13 ?_ (fun v18 I18 J18 F14 => ?_)
            · skip
              refine fk_ite (fun c15 => ?_) (fun c15 => ?_)
              · skip
                exact fk_some (fr_rfl _ _ _)
              · skip
                refine fk_ite (fun c16 => ?_) (fun c16 => ?_)
                · skip
                  exact fk_none
                · skip
                  exact fk_some (fr_rfl _ _ _)
            · skip
              refine fk_ite (fun c17 => ?_) (fun c17 => ?_)
              · skip
                refine fk_oc F14 (K_Model_isGood_222  gF ) (fun u25 I25 J25 F18 => ?_)
                refine fk_ite (fun c19 => ?_) (fun c19 => ?_)
                · skip
                  exact fk_some F18
                · skip
                  refine fk_ite (fun c20 => ?_) (fun c20 => ?_)
                  · skip
                    exact fk_some F18
                  · skip
                    exact fk_some F18
              · skip
                refine fk_ite (fun c21 => ?_) (fun c21 => ?_)
                · skip
                  refine fk_ite (fun c22 => ?_) (fun c22 => ?_)
                  · skip
                    exact fk_some F14
                  · skip
                    exact fk_some F14
                · skip
                  refine fk_ite (fun c23 => ?_) (fun c23 => ?_)
                  · skip
                    refine fk_ite (fun c24 => ?_) (fun c24 => ?_)
                    · skip
                      exact fk_some F14
                    · skip
                      refine fk_ite (fun c25 => ?_) (fun c25 => ?_)
                      · skip
                        exact fk_some F14
                      · skip
                        exact fk_some F14
                  · skip
                    refine fk_ite (fun c26 => ?_) (fun c26 => ?_)
                    · skip
                      refine fk_ite (fun c27 => ?_) (fun c27 => ?_)
                      · skip
                        exact fk_some F14
                      · skip
                        refine fk_ite (fun c28 => ?_) (fun c28 => ?_)
                        · skip
                          exact fk_some F14
                        · skip
                          exact fk_some F14
                    · skip
                      refine fk_ite (fun c29 => ?_) (fun c29 => ?_)
                      · skip
                        refine fk_ite (fun c30 => ?_) (fun c30 => ?_)
                        · skip
                          exact fk_some F14
                        · skip
                          exact fk_some F14
                      · skip
                        refine fk_ite (fun c31 => ?_) (fun c31 => ?_)
                        · skip
                          refine fk_ite (fun c32 => ?_) (fun c32 => ?_)
                          · skip
                            exact fk_some F14
                          · skip
                            refine fk_ite (fun c33 => ?_) (fun c33 => ?_)
                            · skip
                              exact fk_some F14
                            · skip
                              refine fk_ite (fun c34 => ?_) (fun c34 => ?_)
                              · skip
                                exact fk_some F14
                              · skip
                                exact fk_some F14
                        · skip
                          refine fk_ite (fun c35 => ?_) (fun c35 => ?_)
                          · skip
                            refine fk_ite (fun c36 => ?_) (fun c36 => ?_)
                            · skip
                              exact fk_some F14
                            · skip
                              refine fk_ite (fun c37 => ?_) (fun c37 => ?_)
                              · skip
                                exact fk_some F14
                              · skip
                                exact fk_some F14
                          · skip
                            exact fk_some F14
      · skip
        exact fk_some F3
