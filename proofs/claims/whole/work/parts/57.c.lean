/-! compile: what the reference leaves as it was (wip/whole/tools/gen57b.py) -/
def EY (I0 I : MI) : Prop := (∀ a, a ≠ 112 → a ≠ 115 → a ≠ 162 → a ≠ 163 → a ≠ 164 → a ≠ 165 → I a = I0 a) ∧ ∀ j, j ≠ 3 → j ≠ 4 → j ≠ 5 → j ≠ 10 → j ≠ 13 → j ≠ 14 → j ≠ 15 → j ≠ 73 → j ≠ 75 → j ≠ 79 → I 112 j = I0 112 j
def ey (I0 : MI) {α : Type} (r : M2 α) : Prop := ∀ v I' J', r = some (v, I', J') → EY I0 I'
section EYS
variable {I0 I : MI} {J : MJ} {α β γ : Type}
theorem ey_none : ey I0 (none : M2 α) := fun _ _ _ h => by cases h
theorem ey_some {v : α} (h : EY I0 I) : ey I0 (some (v, I, J)) := fun _ _ _ e => by
  obtain ⟨rfl, rfl, rfl⟩ := s_inj e
  exact h
theorem ey_oc {x : M2 α} {f : α → MI → MJ → M2 β} (h : ey I0 x) (k : ∀ v I1 J1, EY I0 I1 → ey I0 (f v I1 J1)) : ey I0 (oc x f) := by
  intro v I' J' e
  obtain ⟨u, I1, J1, e1, e2⟩ := oc_call e
  exact k u I1 J1 (h u I1 J1 e1) v I' J' e2
theorem ey_pl {a : α} {f : α → M2 β} (h : ∀ x, ey I0 (f x)) : ey I0 (pl a f) := h a
theorem ey_pi {I1 : MI} {f : MI → M2 β} (h : EY I0 I1) (k : ∀ I2, EY I0 I2 → ey I0 (f I2)) : ey I0 (pl I1 f) := k _ h
theorem ey_ite {c : Prop} [Decidable c] {a b : M2 α} (h1 : c → ey I0 a) (h2 : ¬ c → ey I0 b) : ey I0 (if c then a else b) := by
  by_cases q : c
  · rw [if_pos q]; exact h1 q
  · rw [if_neg q]; exact h2 q
theorem ey_oe {q : α ⊕ β} {f : α → M2 γ} {g : β → M2 γ} (h1 : ∀ y, ey I0 (f y)) (h2 : ∀ y, ey I0 (g y)) : ey I0 (oe q f g) := by
  cases q with
  | inl y => exact h1 y
  | inr y => exact h2 y
theorem EY_u {a : Nat} {w : Nat → Int32} (h : EY I0 I) (h1 : a = 115 ∨ a = 162 ∨ a = 163 ∨ a = 164 ∨ a = 165) : EY I0 (va_up I a w) := ⟨fun b hb1 hb2 hb3 hb4 hb5 hb6 => by
  rw [va_up_ne _ _ (by omega)]
  exact h.1 b hb1 hb2 hb3 hb4 hb5 hb6, by
  rw [va_up_ne _ _ (by omega)]
  exact h.2⟩
theorem EY_m {j : Nat} {x : Int32} (h : EY I0 I) (h1 : j = 3 ∨ j = 4 ∨ j = 5 ∨ j = 10 ∨ j = 13 ∨ j = 14 ∨ j = 15 ∨ j = 73 ∨ j = 75 ∨ j = 79) : EY I0 (va_up I 112 (upd (I 112) j x)) := ⟨fun b hb1 hb2 hb3 hb4 hb5 hb6 => by
  rw [va_up_ne _ _ hb1]
  exact h.1 b hb1 hb2 hb3 hb4 hb5 hb6, fun i q1 q2 q3 q4 q5 q6 q7 q8 q9 q10 => by
  rw [va_up_self, upd_n _ _ (by omega)]
  exact h.2 i q1 q2 q3 q4 q5 q6 q7 q8 q9 q10⟩
theorem EY_Model_see_0 : ∀ (fu : Nat)  (I : MI) (J : MJ), EY I0 I → ey I0 (f_Model_see_0  fu  I J) := by
  intro fu
  induction fu with
  | zero => intro  I J h; exact ey_none
  | succ fu ih =>
    intro  I J h
    rw [f_Model_see_0]
    refine ey_ite (fun _ => ?_) (fun _ => ?_)
    · skip
      exact ey_some h
    · skip
      refine ey_ite (fun _ => ?_) (fun _ => ?_)
      · skip
        exact ey_none
      · skip
        refine ey_ite (fun _ => ?_) (fun _ => ?_)
        · skip
          exact ey_some h
        · skip
          refine ey_pi (EY_m h (by decide)) (fun I4 h1 => ?_)
          exact ih  _ _ h1
theorem EY_Model_see (h : EY I0 I) : ey I0 (f_Model_see  I J) := by
  unfold f_Model_see
  refine ey_oc (EY_Model_see_0 _  _ _ h) (fun u5 I5 J5 h1 => ?_)
  refine ey_ite (fun _ => ?_) (fun _ => ?_)
  · skip
    exact ey_some h1
  · skip
    refine ey_ite (fun _ => ?_) (fun _ => ?_)
    · skip
      exact ey_none
    · skip
      exact ey_some h1
theorem EY_Model_refuse (h : EY I0 I) : ey I0 (f_Model_refuse  I J) := by
  unfold f_Model_refuse
  refine ey_oc (EY_Model_see h) (fun v1 I1 J1 h1 => ?_)
  refine ey_pi (EY_m h1 (by decide)) (fun I2 h2 => ?_)
  refine ey_pi (EY_m h2 (by decide)) (fun I3 h3 => ?_)
  exact ey_some h3
theorem EY_Model_note {p2 : Int32} {p3 : Int32} (h : EY I0 I) : ey I0 (f_Model_note p2 p3 I J) := by
  unfold f_Model_note
  refine ey_ite (fun _ => ?_) (fun _ => ?_)
  · skip
    refine ey_pi (EY_m h (by decide)) (fun I2 h1 => ?_)
    refine ey_pi (EY_m h1 (by decide)) (fun I3 h2 => ?_)
    exact ey_some h2
  · skip
    refine ey_ite (fun _ => ?_) (fun _ => ?_)
    · skip
      refine ey_pi (EY_m h (by decide)) (fun I5 h3 => ?_)
      refine ey_pi (EY_m h3 (by decide)) (fun I6 h4 => ?_)
      exact ey_some h4
    · skip
      refine ey_ite (fun _ => ?_) (fun _ => ?_)
      · skip
        exact ey_some h
      · skip
        refine ey_ite (fun _ => ?_) (fun _ => ?_)
        · skip
          exact ey_some h
        · skip
          refine ey_pi (EY_m h (by decide)) (fun I9 h5 => ?_)
          refine ey_pi (EY_m h5 (by decide)) (fun I10 h6 => ?_)
          exact ey_some h6
theorem EY_Model_takes {p2 : Int32} (h : EY I0 I) : ey I0 (f_Model_takes p2 I J) := by
  unfold f_Model_takes
  refine ey_oc (EY_Model_see h) (fun v1 I1 J1 h1 => ?_)
  refine ey_pl (fun v3 => ?_)
  refine ey_ite (fun _ => ?_) (fun _ => ?_)
  · skip
    refine ey_ite (fun _ => ?_) (fun _ => ?_)
    · skip
      exact ey_some h1
    · skip
      exact ey_none
  · skip
    refine ey_pi (EY_m h1 (by decide)) (fun I7 h2 => ?_)
    refine ey_ite (fun _ => ?_) (fun _ => ?_)
    · skip
      exact ey_some h2
    · skip
      exact ey_none
theorem EY_Model_want {p2 : Int32} (h : EY I0 I) : ey I0 (f_Model_want p2 I J) := by
  unfold f_Model_want
  refine ey_oc (EY_Model_takes h) (fun v1 I1 J1 h1 => ?_)
  refine ey_ite (fun _ => ?_) (fun _ => ?_)
  · skip
    exact ey_some h1
  · skip
    refine ey_oc (EY_Model_refuse h1) (fun v3 I3 J3 h2 => ?_)
    refine ey_ite (fun _ => ?_) (fun _ => ?_)
    · skip
      exact ey_some h2
    · skip
      exact ey_some h2
theorem EY_Model_isClear {p1 : Int32} (h : EY I0 I) : ey I0 (f_Model_isClear p1 I J) := by
  unfold f_Model_isClear
  refine ey_ite (fun _ => ?_) (fun _ => ?_)
  · skip
    exact ey_some h
  · skip
    refine ey_ite (fun _ => ?_) (fun _ => ?_)
    · skip
      exact ey_some h
    · skip
      exact ey_some h
theorem EY_Model_isSecret {p1 : Int32} (h : EY I0 I) : ey I0 (f_Model_isSecret p1 I J) := by
  unfold f_Model_isSecret
  refine ey_ite (fun _ => ?_) (fun _ => ?_)
  · skip
    exact ey_some h
  · skip
    refine ey_ite (fun _ => ?_) (fun _ => ?_)
    · skip
      exact ey_some h
    · skip
      exact ey_some h
theorem EY_Model_isVariable (h : EY I0 I) : ey I0 (f_Model_isVariable  I J) := by
  unfold f_Model_isVariable
  refine ey_oc (EY_Model_see h) (fun v1 I1 J1 h1 => ?_)
  refine ey_oc (EY_Model_isClear h1) (fun v2 I2 J2 h2 => ?_)
  refine ey_ite (fun _ => ?_) (fun _ => ?_)
  · skip
    exact ey_some h2
  · skip
    refine ey_oc (EY_Model_see h2) (fun v4 I4 J4 h3 => ?_)
    refine ey_oc (EY_Model_isSecret h3) (fun v5 I5 J5 h4 => ?_)
    refine ey_ite (fun _ => ?_) (fun _ => ?_)
    · skip
      exact ey_some h4
    · skip
      exact ey_some h4
theorem EY_Model_isRow (h : EY I0 I) : ey I0 (f_Model_isRow  I J) := by
  unfold f_Model_isRow
  refine ey_oc (EY_Model_see h) (fun v1 I1 J1 h1 => ?_)
  refine ey_ite (fun _ => ?_) (fun _ => ?_)
  · skip
    exact ey_some h1
  · skip
    refine ey_oc (EY_Model_see h1) (fun v3 I3 J3 h2 => ?_)
    refine ey_ite (fun _ => ?_) (fun _ => ?_)
    · skip
      exact ey_some h2
    · skip
      exact ey_some h2
theorem EY_Model_isSecretRow {p1 : Int32} (h : EY I0 I) : ey I0 (f_Model_isSecretRow p1 I J) := by
  unfold f_Model_isSecretRow
  refine ey_ite (fun _ => ?_) (fun _ => ?_)
  · skip
    exact ey_some h
  · skip
    exact ey_some h
theorem EY_Model_numberOf {p1 : Int32} (h : EY I0 I) : ey I0 (f_Model_numberOf p1 I J) := by
  unfold f_Model_numberOf
  refine ey_oc (EY_Model_isClear h) (fun v1 I1 J1 h1 => ?_)
  refine ey_ite (fun _ => ?_) (fun _ => ?_)
  · skip
    exact ey_some h1
  · skip
    exact ey_some h1
theorem EY_Model_isDigit (h : EY I0 I) : ey I0 (f_Model_isDigit  I J) := by
  unfold f_Model_isDigit
  refine ey_oc (EY_Model_see h) (fun v1 I1 J1 h1 => ?_)
  refine ey_ite (fun _ => ?_) (fun _ => ?_)
  · skip
    exact ey_some h1
  · skip
    refine ey_oc (EY_Model_see h1) (fun v3 I3 J3 h2 => ?_)
    refine ey_ite (fun _ => ?_) (fun _ => ?_)
    · skip
      exact ey_some h2
    · skip
      exact ey_some h2
theorem EY_Model_lay_IV {p2 : Int32} (h : EY I0 I) : ey I0 (f_Model_lay_IV p2 I J) := by
  unfold f_Model_lay_IV
  refine ey_ite (fun _ => ?_) (fun _ => ?_)
  · skip
    exact ey_none
  · skip
    refine ey_pi (EY_u h (by decide)) (fun I2 h1 => ?_)
    refine ey_pi (EY_m h1 (by decide)) (fun I3 h2 => ?_)
    exact ey_some h2
theorem EY_Model_lay_IIV {p2 : Int32} {p3 : Int32} (h : EY I0 I) : ey I0 (f_Model_lay_IIV p2 p3 I J) := by
  unfold f_Model_lay_IIV
  refine ey_oc (EY_Model_lay_IV h) (fun v1 I1 J1 h1 => ?_)
  refine ey_oc (EY_Model_lay_IV h1) (fun v2 I2 J2 h2 => ?_)
  exact ey_some h2
theorem EY_Model_readNumber_4 : ∀ (fu : Nat) (l1 : Int64) (l3 : Int32) (I : MI) (J : MJ), EY I0 I → ey I0 (f_Model_readNumber_4  fu l1 l3 I J) := by
  intro fu
  induction fu with
  | zero => intro l1 l3 I J h; exact ey_none
  | succ fu ih =>
    intro l1 l3 I J h
    rw [f_Model_readNumber_4]
    refine ey_ite (fun _ => ?_) (fun _ => ?_)
    · skip
      exact ey_some h
    · skip
      refine ey_ite (fun _ => ?_) (fun _ => ?_)
      · skip
        exact ey_none
      · skip
        refine ey_ite (fun _ => ?_) (fun _ => ?_)
        · skip
          exact ey_some h
        · skip
          refine ey_ite (fun _ => ?_) (fun _ => ?_)
          · skip
            exact ey_none
          · skip
            refine ey_ite (fun _ => ?_) (fun _ => ?_)
            · skip
              exact ey_some h
            · skip
              refine ey_ite (fun _ => ?_) (fun _ => ?_)
              · skip
                refine ey_ite (fun _ => ?_) (fun _ => ?_)
                · skip
                  exact ey_none
                · skip
                  refine ey_pl (fun x8 => ?_)
                  refine ey_pi (EY_m h (by decide)) (fun I9 h1 => ?_)
                  exact ih _ _ _ _ h1
              · skip
                refine ey_pi (EY_m h (by decide)) (fun I10 h2 => ?_)
                refine ey_pi (EY_m h2 (by decide)) (fun I11 h3 => ?_)
                exact ey_some h3
theorem EY_Model_readNumber_110 : ∀ (fu : Nat) (l1 : Int64) (l4 : Int32) (I : MI) (J : MJ), EY I0 I → ey I0 (f_Model_readNumber_110  fu l1 l4 I J) := by
  intro fu
  induction fu with
  | zero => intro l1 l4 I J h; exact ey_none
  | succ fu ih =>
    intro l1 l4 I J h
    rw [f_Model_readNumber_110]
    refine ey_ite (fun _ => ?_) (fun _ => ?_)
    · skip
      exact ey_some h
    · skip
      refine ey_oc (EY_Model_lay_IV h) (fun v15 I15 J15 h1 => ?_)
      exact ih _ _ _ _ h1
theorem EY_Model_readNumber (h : EY I0 I) : ey I0 (f_Model_readNumber  I J) := by
  unfold f_Model_readNumber
  refine ey_oc (EY_Model_readNumber_4 _ _ _ _ _ h) (fun q12 I12 J12 h1 => ?_)
  refine ey_oe (fun y12 => ?_) (fun u12 => ?_)
  · skip
    exact ey_some h1
  · skip
    refine ey_oc (EY_Model_lay_IV h1) (fun v13 I13 J13 h2 => ?_)
    refine ey_oc (EY_Model_readNumber_110 _ _ _ _ _ h2) (fun u16 I16 J16 h3 => ?_)
    exact ey_some h3
theorem EY_Model_readOut (h : EY I0 I) : ey I0 (f_Model_readOut  I J) := by
  unfold f_Model_readOut
  refine ey_pi (EY_m h (by decide)) (fun I1 h1 => ?_)
  refine ey_oc (EY_Model_isVariable h1) (fun v2 I2 J2 h2 => ?_)
  refine ey_ite (fun _ => ?_) (fun _ => ?_)
  · skip
    refine ey_oc (EY_Model_see h2) (fun v4 I4 J4 h3 => ?_)
    refine ey_pi (EY_m h3 (by decide)) (fun I5 h4 => ?_)
    refine ey_oc (EY_Model_isClear h4) (fun v6 I6 J6 h5 => ?_)
    refine ey_pl (fun v8 => ?_)
    refine ey_oc (EY_Model_numberOf h5) (fun v10 I10 J10 h6 => ?_)
    refine ey_oc (EY_Model_lay_IIV h6) (fun v11 I11 J11 h7 => ?_)
    refine ey_oc (EY_Model_want h7) (fun v12 I12 J12 h8 => ?_)
    refine ey_ite (fun _ => ?_) (fun _ => ?_)
    · skip
      exact ey_some h8
    · skip
      exact ey_none
  · skip
    refine ey_oc (EY_Model_refuse h2) (fun v14 I14 J14 h9 => ?_)
    refine ey_ite (fun _ => ?_) (fun _ => ?_)
    · skip
      exact ey_some h9
    · skip
      exact ey_none
theorem EY_Model_readInput {p2 : Int32} {p3 : Int32} (h : EY I0 I) : ey I0 (f_Model_readInput p2 p3 I J) := by
  unfold f_Model_readInput
  refine ey_oc (EY_Model_isDigit h) (fun v1 I1 J1 h1 => ?_)
  refine ey_ite (fun _ => ?_) (fun _ => ?_)
  · skip
    refine ey_pl (fun x3 => ?_)
    refine ey_oc (EY_Model_see h1) (fun v4 I4 J4 h2 => ?_)
    refine ey_pl (fun x5 => ?_)
    refine ey_pi (EY_m h2 (by decide)) (fun I6 h3 => ?_)
    refine ey_oc (EY_Model_isClear h3) (fun v7 I7 J7 h4 => ?_)
    refine ey_oc ?_ (fun v9 I9 J9 h5 => ?_)
    · skip
      refine ey_ite (fun _ => ?_) (fun _ => ?_)
      · skip
        exact ey_some h4
      · skip
        refine ey_oc (EY_Model_note h4) (fun v11 I11 J11 h6 => ?_)
        exact ey_some h6
    · skip
      refine ey_oc ?_ (fun v13 I13 J13 h7 => ?_)
      · skip
        refine ey_ite (fun _ => ?_) (fun _ => ?_)
        · skip
          exact ey_some h5
        · skip
          refine ey_oc (EY_Model_note h5) (fun v15 I15 J15 h8 => ?_)
          exact ey_some h8
      · skip
        refine ey_oc (EY_Model_numberOf h7) (fun v16 I16 J16 h9 => ?_)
        refine ey_oc (EY_Model_lay_IIV h9) (fun v17 I17 J17 h10 => ?_)
        refine ey_oc (EY_Model_lay_IV h10) (fun v18 I18 J18 h11 => ?_)
        refine ey_oc (EY_Model_want h11) (fun v19 I19 J19 h12 => ?_)
        refine ey_ite (fun _ => ?_) (fun _ => ?_)
        · skip
          exact ey_some h12
        · skip
          exact ey_none
  · skip
    refine ey_oc (EY_Model_refuse h1) (fun v21 I21 J21 h13 => ?_)
    refine ey_ite (fun _ => ?_) (fun _ => ?_)
    · skip
      exact ey_some h13
    · skip
      exact ey_none
theorem EY_Model_readBit {p2 : Int32} {p3 : Int32} (h : EY I0 I) : ey I0 (f_Model_readBit p2 p3 I J) := by
  unfold f_Model_readBit
  refine ey_oc (EY_Model_isClear h) (fun v1 I1 J1 h1 => ?_)
  refine ey_oc ?_ (fun v3 I3 J3 h2 => ?_)
  · skip
    refine ey_ite (fun _ => ?_) (fun _ => ?_)
    · skip
      exact ey_some h1
    · skip
      refine ey_oc (EY_Model_note h1) (fun v5 I5 J5 h3 => ?_)
      exact ey_some h3
  · skip
    refine ey_oc (EY_Model_numberOf h2) (fun v6 I6 J6 h4 => ?_)
    refine ey_oc (EY_Model_lay_IIV h4) (fun v7 I7 J7 h5 => ?_)
    refine ey_oc (EY_Model_want h5) (fun v8 I8 J8 h6 => ?_)
    refine ey_ite (fun _ => ?_) (fun _ => ?_)
    · skip
      exact ey_some h6
    · skip
      exact ey_none
theorem EY_Model_isSum_7 : ∀ (fu : Nat) (l1 : Int32) (I : MI) (J : MJ), EY I0 I → ey I0 (f_Model_isSum_7  fu l1 I J) := by
  intro fu
  induction fu with
  | zero => intro l1 I J h; exact ey_none
  | succ fu ih =>
    intro l1 I J h
    rw [f_Model_isSum_7]
    refine ey_ite (fun _ => ?_) (fun _ => ?_)
    · skip
      exact ey_some h
    · skip
      refine ey_ite (fun _ => ?_) (fun _ => ?_)
      · skip
        exact ey_none
      · skip
        refine ey_ite (fun _ => ?_) (fun _ => ?_)
        · skip
          exact ey_some h
        · skip
          exact ih _ _ _ h
theorem EY_Model_isSum (h : EY I0 I) : ey I0 (f_Model_isSum  I J) := by
  unfold f_Model_isSum
  refine ey_pl (fun x1 => ?_)
  refine ey_oc (EY_Model_isSum_7 _ _ _ _ h) (fun u5 I5 J5 h1 => ?_)
  refine ey_ite (fun _ => ?_) (fun _ => ?_)
  · skip
    exact ey_some h1
  · skip
    refine ey_ite (fun _ => ?_) (fun _ => ?_)
    · skip
      exact ey_none
    · skip
      refine ey_ite (fun _ => ?_) (fun _ => ?_)
      · skip
        exact ey_some h1
      · skip
        exact ey_some h1
theorem EY_Model_readRows {p2 : Int32} {p3 : Int32} (h : EY I0 I) : ey I0 (f_Model_readRows p2 p3 I J) := by
  unfold f_Model_readRows
  refine ey_oc (EY_Model_isRow h) (fun v1 I1 J1 h1 => ?_)
  refine ey_ite (fun _ => ?_) (fun _ => ?_)
  · skip
    refine ey_oc (EY_Model_see h1) (fun v3 I3 J3 h2 => ?_)
    refine ey_pi (EY_m h2 (by decide)) (fun I4 h3 => ?_)
    refine ey_oc (EY_Model_see h3) (fun v5 I5 J5 h4 => ?_)
    refine ey_ite (fun _ => ?_) (fun _ => ?_)
    · skip
      refine ey_pi (EY_m h4 (by decide)) (fun I7 h5 => ?_)
      refine ey_oc (EY_Model_isRow h5) (fun v8 I8 J8 h6 => ?_)
      refine ey_ite (fun _ => ?_) (fun _ => ?_)
      · skip
        refine ey_oc (EY_Model_see h6) (fun v10 I10 J10 h7 => ?_)
        refine ey_pi (EY_m h7 (by decide)) (fun I11 h8 => ?_)
        refine ey_oc (EY_Model_isSecretRow h8) (fun v12 I12 J12 h9 => ?_)
        refine ey_oc ?_ (fun v14 I14 J14 h10 => ?_)
        · skip
          refine ey_ite (fun _ => ?_) (fun _ => ?_)
          · skip
            exact ey_some h9
          · skip
            refine ey_oc (EY_Model_isSecretRow h9) (fun v16 I16 J16 h11 => ?_)
            refine ey_ite (fun _ => ?_) (fun _ => ?_)
            · skip
              refine ey_oc (EY_Model_note h11) (fun v18 I18 J18 h12 => ?_)
              exact ey_some h12
            · skip
              refine ey_oc (EY_Model_isSecretRow h11) (fun v19 I19 J19 h13 => ?_)
              refine ey_ite (fun _ => ?_) (fun _ => ?_)
              · skip
                exact ey_some h13
              · skip
                refine ey_oc (EY_Model_note h13) (fun v21 I21 J21 h14 => ?_)
                exact ey_some h14
        · skip
          refine ey_pl (fun v24 => ?_)
          refine ey_oc (EY_Model_lay_IIV h10) (fun v27 I27 J27 h15 => ?_)
          refine ey_oc (EY_Model_lay_IV h15) (fun v28 I28 J28 h16 => ?_)
          refine ey_oc (EY_Model_lay_IV h16) (fun v29 I29 J29 h17 => ?_)
          refine ey_oc (EY_Model_want h17) (fun v30 I30 J30 h18 => ?_)
          refine ey_ite (fun _ => ?_) (fun _ => ?_)
          · skip
            exact ey_some h18
          · skip
            exact ey_none
      · skip
        refine ey_oc (EY_Model_refuse h6) (fun v32 I32 J32 h19 => ?_)
        refine ey_ite (fun _ => ?_) (fun _ => ?_)
        · skip
          exact ey_some h19
        · skip
          exact ey_none
    · skip
      refine ey_ite (fun _ => ?_) (fun _ => ?_)
      · skip
        refine ey_pi (EY_m h4 (by decide)) (fun I35 h20 => ?_)
        refine ey_oc (EY_Model_isRow h20) (fun v36 I36 J36 h21 => ?_)
        refine ey_ite (fun _ => ?_) (fun _ => ?_)
        · skip
          refine ey_oc (EY_Model_see h21) (fun v38 I38 J38 h22 => ?_)
          refine ey_pi (EY_m h22 (by decide)) (fun I39 h23 => ?_)
          refine ey_oc (EY_Model_isSecretRow h23) (fun v40 I40 J40 h24 => ?_)
          refine ey_oc ?_ (fun v42 I42 J42 h25 => ?_)
          · skip
            refine ey_ite (fun _ => ?_) (fun _ => ?_)
            · skip
              exact ey_some h24
            · skip
              refine ey_oc (EY_Model_isSecretRow h24) (fun v44 I44 J44 h26 => ?_)
              refine ey_ite (fun _ => ?_) (fun _ => ?_)
              · skip
                refine ey_oc (EY_Model_note h26) (fun v46 I46 J46 h27 => ?_)
                exact ey_some h27
              · skip
                refine ey_oc (EY_Model_isSecretRow h26) (fun v47 I47 J47 h28 => ?_)
                refine ey_ite (fun _ => ?_) (fun _ => ?_)
                · skip
                  exact ey_some h28
                · skip
                  refine ey_oc (EY_Model_note h28) (fun v49 I49 J49 h29 => ?_)
                  exact ey_some h29
          · skip
            refine ey_pl (fun v52 => ?_)
            refine ey_oc (EY_Model_lay_IIV h25) (fun v55 I55 J55 h30 => ?_)
            refine ey_oc (EY_Model_lay_IV h30) (fun v56 I56 J56 h31 => ?_)
            refine ey_oc (EY_Model_lay_IV h31) (fun v57 I57 J57 h32 => ?_)
            refine ey_oc (EY_Model_want h32) (fun v58 I58 J58 h33 => ?_)
            refine ey_ite (fun _ => ?_) (fun _ => ?_)
            · skip
              exact ey_some h33
            · skip
              exact ey_none
        · skip
          refine ey_oc (EY_Model_refuse h21) (fun v60 I60 J60 h34 => ?_)
          refine ey_ite (fun _ => ?_) (fun _ => ?_)
          · skip
            exact ey_some h34
          · skip
            exact ey_none
      · skip
        refine ey_ite (fun _ => ?_) (fun _ => ?_)
        · skip
          refine ey_pi (EY_m h4 (by decide)) (fun I63 h35 => ?_)
          refine ey_oc (EY_Model_isRow h35) (fun v64 I64 J64 h36 => ?_)
          refine ey_ite (fun _ => ?_) (fun _ => ?_)
          · skip
            refine ey_oc (EY_Model_see h36) (fun v66 I66 J66 h37 => ?_)
            refine ey_pi (EY_m h37 (by decide)) (fun I67 h38 => ?_)
            refine ey_oc (EY_Model_isSecretRow h38) (fun v68 I68 J68 h39 => ?_)
            refine ey_oc ?_ (fun v70 I70 J70 h40 => ?_)
            · skip
              refine ey_ite (fun _ => ?_) (fun _ => ?_)
              · skip
                exact ey_some h39
              · skip
                refine ey_oc (EY_Model_isSecretRow h39) (fun v72 I72 J72 h41 => ?_)
                refine ey_ite (fun _ => ?_) (fun _ => ?_)
                · skip
                  refine ey_oc (EY_Model_note h41) (fun v74 I74 J74 h42 => ?_)
                  exact ey_some h42
                · skip
                  refine ey_oc (EY_Model_isSecretRow h41) (fun v75 I75 J75 h43 => ?_)
                  refine ey_ite (fun _ => ?_) (fun _ => ?_)
                  · skip
                    exact ey_some h43
                  · skip
                    refine ey_oc (EY_Model_note h43) (fun v77 I77 J77 h44 => ?_)
                    exact ey_some h44
            · skip
              refine ey_pl (fun v80 => ?_)
              refine ey_oc (EY_Model_lay_IIV h40) (fun v83 I83 J83 h45 => ?_)
              refine ey_oc (EY_Model_lay_IV h45) (fun v84 I84 J84 h46 => ?_)
              refine ey_oc (EY_Model_lay_IV h46) (fun v85 I85 J85 h47 => ?_)
              refine ey_oc (EY_Model_want h47) (fun v86 I86 J86 h48 => ?_)
              refine ey_ite (fun _ => ?_) (fun _ => ?_)
              · skip
                exact ey_some h48
              · skip
                exact ey_none
          · skip
            refine ey_oc (EY_Model_refuse h36) (fun v88 I88 J88 h49 => ?_)
            refine ey_ite (fun _ => ?_) (fun _ => ?_)
            · skip
              exact ey_some h49
            · skip
              exact ey_none
        · skip
          refine ey_oc (EY_Model_refuse h4) (fun v90 I90 J90 h50 => ?_)
          refine ey_ite (fun _ => ?_) (fun _ => ?_)
          · skip
            exact ey_some h50
          · skip
            exact ey_none
  · skip
    refine ey_oc (EY_Model_refuse h1) (fun v92 I92 J92 h51 => ?_)
    refine ey_ite (fun _ => ?_) (fun _ => ?_)
    · skip
      exact ey_some h51
    · skip
      exact ey_none
theorem EY_Model_fill {p2 : Int32} {p3 : Int32} (h : EY I0 I) : ey I0 (f_Model_fill p2 p3 I J) := by
  unfold f_Model_fill
  refine ey_ite (fun _ => ?_) (fun _ => ?_)
  · skip
    exact ey_none
  · skip
    refine ey_pi (EY_u h (by decide)) (fun I2 h1 => ?_)
    refine ey_ite (fun _ => ?_) (fun _ => ?_)
    · skip
      exact ey_none
    · skip
      refine ey_pi (EY_u h1 (by decide)) (fun I4 h2 => ?_)
      exact ey_some h2
theorem EY_Model_place_2 : ∀ (fu : Nat) (l1 : Int32) (I : MI) (J : MJ), EY I0 I → ey I0 (f_Model_place_2  fu l1 I J) := by
  intro fu
  induction fu with
  | zero => intro l1 I J h; exact ey_none
  | succ fu ih =>
    intro l1 I J h
    rw [f_Model_place_2]
    refine ey_ite (fun _ => ?_) (fun _ => ?_)
    · skip
      exact ey_some h
    · skip
      refine ey_ite (fun _ => ?_) (fun _ => ?_)
      · skip
        exact ey_none
      · skip
        refine ey_ite (fun _ => ?_) (fun _ => ?_)
        · skip
          exact ey_none
        · skip
          refine ey_ite (fun _ => ?_) (fun _ => ?_)
          · skip
            refine ey_ite (fun _ => ?_) (fun _ => ?_)
            · skip
              exact ey_none
            · skip
              refine ey_ite (fun _ => ?_) (fun _ => ?_)
              · skip
                exact ey_none
              · skip
                refine ey_ite (fun _ => ?_) (fun _ => ?_)
                · skip
                  exact ey_none
                · skip
                  refine ey_oc (EY_Model_fill h) (fun v8 I8 J8 h1 => ?_)
                  exact ih _ _ _ h1
          · skip
            refine ey_ite (fun _ => ?_) (fun _ => ?_)
            · skip
              exact ey_none
            · skip
              refine ey_oc (EY_Model_note h) (fun v10 I10 J10 h2 => ?_)
              exact ih _ _ _ h2
theorem EY_Model_place (h : EY I0 I) : ey I0 (f_Model_place  I J) := by
  unfold f_Model_place
  refine ey_oc (EY_Model_place_2 _ _ _ _ h) (fun u11 I11 J11 h1 => ?_)
  exact ey_some h1
theorem EY_Model_compile_47 : ∀ (fu : Nat) (l1 : Int32) (I : MI) (J : MJ), EY I0 I → ey I0 (f_Model_compile_47  fu l1 I J) := by
  intro fu
  induction fu with
  | zero => intro l1 I J h; exact ey_none
  | succ fu ih =>
    intro l1 I J h
    rw [f_Model_compile_47]
    refine ey_ite (fun _ => ?_) (fun _ => ?_)
    · skip
      exact ey_some h
    · skip
      refine ey_ite (fun _ => ?_) (fun _ => ?_)
      · skip
        exact ey_none
      · skip
        refine ey_pi (EY_u h (by decide)) (fun I12 h1 => ?_)
        exact ih _ _ _ h1
theorem EY_Model_readFactor_79 {R : M3} (hR : ∀ k a b I J, EY I0 I → ey I0 (R k a b I J)) : ∀ (fu : Nat)  (I : MI) (J : MJ), EY I0 I → ey I0 (f_Model_readFactor_79 R fu  I J) := by
  intro fu
  induction fu with
  | zero => intro  I J h; exact ey_none
  | succ fu ih =>
    intro  I J h
    rw [f_Model_readFactor_79]
    refine ey_oc (EY_Model_takes h) (fun v5 I5 J5 h1 => ?_)
    refine ey_ite (fun _ => ?_) (fun _ => ?_)
    · skip
      exact ey_some h1
    · skip
      refine ey_ite (fun _ => ?_) (fun _ => ?_)
      · skip
        refine ey_oc (EY_Model_lay_IV h1) (fun v8 I8 J8 h2 => ?_)
        exact ih  _ _ h2
      · skip
        refine ey_oc (EY_Model_lay_IV h1) (fun v9 I9 J9 h3 => ?_)
        exact ih  _ _ h3
theorem EY_Model_readProduct_14 {R : M3} (hR : ∀ k a b I J, EY I0 I → ey I0 (R k a b I J)) : ∀ (fu : Nat) (l1 : Int32) (I : MI) (J : MJ), EY I0 I → ey I0 (f_Model_readProduct_14 R fu l1 I J) := by
  intro fu
  induction fu with
  | zero => intro l1 I J h; exact ey_none
  | succ fu ih =>
    intro l1 I J h
    rw [f_Model_readProduct_14]
    refine ey_oc (EY_Model_takes h) (fun v4 I4 J4 h1 => ?_)
    refine ey_ite (fun _ => ?_) (fun _ => ?_)
    · skip
      exact ey_some h1
    · skip
      refine ey_oc (hR 2 _ _ _ _ h1) (fun v6 I6 J6 h2 => ?_)
      refine ey_ite (fun _ => ?_) (fun _ => ?_)
      · skip
        refine ey_pl (fun v9 => ?_)
        refine ey_oc (EY_Model_lay_IV h2) (fun v12 I12 J12 h3 => ?_)
        refine ey_ite (fun _ => ?_) (fun _ => ?_)
        · skip
          exact ih _ _ _ h3
        · skip
          refine ey_ite (fun _ => ?_) (fun _ => ?_)
          · skip
            exact ih _ _ _ h3
          · skip
            exact ih _ _ _ h3
      · skip
        exact ey_some h2
theorem EY_Model_readX_14 {R : M3} (hR : ∀ k a b I J, EY I0 I → ey I0 (R k a b I J)) : ∀ (fu : Nat) (l1 : Int32) (I : MI) (J : MJ), EY I0 I → ey I0 (f_Model_readX_14 R fu l1 I J) := by
  intro fu
  induction fu with
  | zero => intro l1 I J h; exact ey_none
  | succ fu ih =>
    intro l1 I J h
    rw [f_Model_readX_14]
    refine ey_oc (EY_Model_see h) (fun v4 I4 J4 h1 => ?_)
    refine ey_ite (fun _ => ?_) (fun _ => ?_)
    · skip
      refine ey_oc (EY_Model_see h1) (fun v6 I6 J6 h2 => ?_)
      refine ey_pl (fun v8 => ?_)
      refine ey_pi (EY_m h2 (by decide)) (fun I10 h3 => ?_)
      refine ey_oc (hR 1 _ _ _ _ h3) (fun v11 I11 J11 h4 => ?_)
      refine ey_ite (fun _ => ?_) (fun _ => ?_)
      · skip
        refine ey_pl (fun v14 => ?_)
        refine ey_oc (EY_Model_lay_IV h4) (fun v17 I17 J17 h5 => ?_)
        exact ih _ _ _ h5
      · skip
        exact ey_some h4
    · skip
      refine ey_oc (EY_Model_see h1) (fun v18 I18 J18 h6 => ?_)
      refine ey_ite (fun _ => ?_) (fun _ => ?_)
      · skip
        exact ey_some h6
      · skip
        refine ey_oc (EY_Model_see h6) (fun v20 I20 J20 h7 => ?_)
        refine ey_pl (fun v22 => ?_)
        refine ey_pi (EY_m h7 (by decide)) (fun I24 h8 => ?_)
        refine ey_oc (hR 1 _ _ _ _ h8) (fun v25 I25 J25 h9 => ?_)
        refine ey_ite (fun _ => ?_) (fun _ => ?_)
        · skip
          refine ey_pl (fun v28 => ?_)
          refine ey_oc (EY_Model_lay_IV h9) (fun v31 I31 J31 h10 => ?_)
          exact ih _ _ _ h10
        · skip
          exact ey_some h9
theorem EY_Model_readStatements_0 {R : M3} (hR : ∀ k a b I J, EY I0 I → ey I0 (R k a b I J)) : ∀ (fu : Nat)  (I : MI) (J : MJ), EY I0 I → ey I0 (f_Model_readStatements_0 R fu  I J) := by
  intro fu
  induction fu with
  | zero => intro  I J h; exact ey_none
  | succ fu ih =>
    intro  I J h
    rw [f_Model_readStatements_0]
    refine ey_oc (EY_Model_see h) (fun v1 I1 J1 h1 => ?_)
    refine ey_ite (fun _ => ?_) (fun _ => ?_)
    · skip
      exact ey_some h1
    · skip
      refine ey_oc (EY_Model_see h1) (fun v3 I3 J3 h2 => ?_)
      refine ey_ite (fun _ => ?_) (fun _ => ?_)
      · skip
        exact ey_some h2
      · skip
        refine ey_oc (EY_Model_see h2) (fun v5 I5 J5 h3 => ?_)
        refine ey_ite (fun _ => ?_) (fun _ => ?_)
        · skip
          exact ey_some h3
        · skip
          refine ey_oc (hR 6 _ _ _ _ h3) (fun v7 I7 J7 h4 => ?_)
          refine ey_ite (fun _ => ?_) (fun _ => ?_)
          · skip
            exact ih  _ _ h4
          · skip
            exact ey_some h4
theorem EY_Model_readStatements {R : M3} (hR : ∀ k a b I J, EY I0 I → ey I0 (R k a b I J)) (h : EY I0 I) : ey I0 (f_Model_readStatements R I J) := by
  unfold f_Model_readStatements
  refine ey_oc (EY_Model_readStatements_0 hR _  _ _ h) (fun q9 I9 J9 h1 => ?_)
  refine ey_oe (fun y9 => ?_) (fun u9 => ?_)
  · skip
    exact ey_some h1
  · skip
    exact ey_some h1
theorem EY_Model_readStatement {R : M3} (hR : ∀ k a b I J, EY I0 I → ey I0 (R k a b I J)) (h : EY I0 I) : ey I0 (f_Model_readStatement R I J) := by
  unfold f_Model_readStatement
  refine ey_oc (EY_Model_see h) (fun v1 I1 J1 h1 => ?_)
  refine ey_ite (fun _ => ?_) (fun _ => ?_)
  · skip
    refine ey_ite (fun _ => ?_) (fun _ => ?_)
    · skip
      refine ey_oc (hR 10 _ _ _ _ h1) (fun v4 I4 J4 h2 => ?_)
      refine ey_ite (fun _ => ?_) (fun _ => ?_)
      · skip
        exact ey_some h2
      · skip
        exact ey_none
    · skip
      refine ey_ite (fun _ => ?_) (fun _ => ?_)
      · skip
        refine ey_ite (fun _ => ?_) (fun _ => ?_)
        · skip
          refine ey_oc (EY_Model_isRow h1) (fun v8 I8 J8 h3 => ?_)
          refine ey_ite (fun _ => ?_) (fun _ => ?_)
          · skip
            refine ey_oc (EY_Model_isVariable h3) (fun v10 I10 J10 h4 => ?_)
            refine ey_ite (fun _ => ?_) (fun _ => ?_)
            · skip
              refine ey_pl (fun x12 => ?_)
              refine ey_pi (EY_m h4 (by decide)) (fun I13 h5 => ?_)
              refine ey_oc (EY_Model_takes h5) (fun v14 I14 J14 h6 => ?_)
              refine ey_ite (fun _ => ?_) (fun _ => ?_)
              · skip
                refine ey_oc (EY_Model_takes h6) (fun v16 I16 J16 h7 => ?_)
                refine ey_ite (fun _ => ?_) (fun _ => ?_)
                · skip
                  refine ey_oc (EY_Model_takes h7) (fun v18 I18 J18 h8 => ?_)
                  refine ey_ite (fun _ => ?_) (fun _ => ?_)
                  · skip
                    refine ey_oc (EY_Model_takes h8) (fun v20 I20 J20 h9 => ?_)
                    refine ey_ite (fun _ => ?_) (fun _ => ?_)
                    · skip
                      refine ey_oc (EY_Model_isVariable h9) (fun v22 I22 J22 h10 => ?_)
                      refine ey_ite (fun _ => ?_) (fun _ => ?_)
                      · skip
                        refine ey_oc (EY_Model_see h10) (fun v24 I24 J24 h11 => ?_)
                        refine ey_oc (EY_Model_isSecret h11) (fun v25 I25 J25 h12 => ?_)
                        refine ey_oc ?_ (fun v27 I27 J27 h13 => ?_)
                        · skip
                          refine ey_ite (fun _ => ?_) (fun _ => ?_)
                          · skip
                            exact ey_some h12
                          · skip
                            refine ey_oc (EY_Model_note h12) (fun v29 I29 J29 h14 => ?_)
                            exact ey_some h14
                        · skip
                          refine ey_oc (EY_Model_isClear h13) (fun v30 I30 J30 h15 => ?_)
                          refine ey_oc ?_ (fun v32 I32 J32 h16 => ?_)
                          · skip
                            refine ey_ite (fun _ => ?_) (fun _ => ?_)
                            · skip
                              exact ey_some h15
                            · skip
                              refine ey_oc (EY_Model_note h15) (fun v34 I34 J34 h17 => ?_)
                              exact ey_some h17
                          · skip
                            refine ey_pi (EY_m h16 (by decide)) (fun I35 h18 => ?_)
                            refine ey_oc (EY_Model_numberOf h18) (fun v36 I36 J36 h19 => ?_)
                            refine ey_oc (EY_Model_lay_IIV h19) (fun v37 I37 J37 h20 => ?_)
                            refine ey_oc (EY_Model_numberOf h20) (fun v38 I38 J38 h21 => ?_)
                            refine ey_oc (EY_Model_lay_IV h21) (fun v39 I39 J39 h22 => ?_)
                            refine ey_oc (EY_Model_want h22) (fun v40 I40 J40 h23 => ?_)
                            refine ey_ite (fun _ => ?_) (fun _ => ?_)
                            · skip
                              exact ey_some h23
                            · skip
                              exact ey_none
                      · skip
                        refine ey_oc (EY_Model_refuse h10) (fun v42 I42 J42 h24 => ?_)
                        refine ey_ite (fun _ => ?_) (fun _ => ?_)
                        · skip
                          exact ey_some h24
                        · skip
                          exact ey_none
                    · skip
                      refine ey_oc (EY_Model_refuse h9) (fun v44 I44 J44 h25 => ?_)
                      refine ey_ite (fun _ => ?_) (fun _ => ?_)
                      · skip
                        exact ey_some h25
                      · skip
                        exact ey_none
                  · skip
                    refine ey_oc (EY_Model_readBit h8) (fun v46 I46 J46 h26 => ?_)
                    refine ey_ite (fun _ => ?_) (fun _ => ?_)
                    · skip
                      exact ey_some h26
                    · skip
                      exact ey_none
                · skip
                  refine ey_oc (hR 8 _ _ _ _ h7) (fun v48 I48 J48 h27 => ?_)
                  refine ey_ite (fun _ => ?_) (fun _ => ?_)
                  · skip
                    exact ey_some h27
                  · skip
                    exact ey_none
              · skip
                refine ey_oc (EY_Model_readInput h6) (fun v50 I50 J50 h28 => ?_)
                refine ey_ite (fun _ => ?_) (fun _ => ?_)
                · skip
                  exact ey_some h28
                · skip
                  exact ey_none
            · skip
              refine ey_oc (EY_Model_refuse h4) (fun v52 I52 J52 h29 => ?_)
              refine ey_ite (fun _ => ?_) (fun _ => ?_)
              · skip
                exact ey_some h29
              · skip
                exact ey_none
          · skip
            refine ey_oc (hR 9 _ _ _ _ h3) (fun v54 I54 J54 h30 => ?_)
            refine ey_ite (fun _ => ?_) (fun _ => ?_)
            · skip
              exact ey_some h30
            · skip
              exact ey_none
        · skip
          refine ey_oc (hR 7 _ _ _ _ h1) (fun v56 I56 J56 h31 => ?_)
          refine ey_ite (fun _ => ?_) (fun _ => ?_)
          · skip
            exact ey_some h31
          · skip
            exact ey_none
      · skip
        refine ey_oc (hR 10 _ _ _ _ h1) (fun v58 I58 J58 h32 => ?_)
        refine ey_ite (fun _ => ?_) (fun _ => ?_)
        · skip
          exact ey_some h32
        · skip
          exact ey_none
  · skip
    refine ey_oc (EY_Model_readOut h1) (fun v60 I60 J60 h33 => ?_)
    refine ey_ite (fun _ => ?_) (fun _ => ?_)
    · skip
      exact ey_some h33
    · skip
      exact ey_none
theorem EY_Model_readRoutine {R : M3} (hR : ∀ k a b I J, EY I0 I → ey I0 (R k a b I J)) (h : EY I0 I) : ey I0 (f_Model_readRoutine R I J) := by
  unfold f_Model_readRoutine
  refine ey_pl (fun x1 => ?_)
  refine ey_pi (EY_m h (by decide)) (fun I2 h1 => ?_)
  refine ey_oc (EY_Model_isDigit h1) (fun v3 I3 J3 h2 => ?_)
  refine ey_ite (fun _ => ?_) (fun _ => ?_)
  · skip
    refine ey_oc (EY_Model_see h2) (fun v5 I5 J5 h3 => ?_)
    refine ey_pl (fun x6 => ?_)
    refine ey_pi (EY_m h3 (by decide)) (fun I7 h4 => ?_)
    refine ey_oc (EY_Model_takes h4) (fun v8 I8 J8 h5 => ?_)
    refine ey_ite (fun _ => ?_) (fun _ => ?_)
    · skip
      refine ey_oc (EY_Model_see h5) (fun v10 I10 J10 h6 => ?_)
      refine ey_ite (fun _ => ?_) (fun _ => ?_)
      · skip
        refine ey_oc (EY_Model_refuse h6) (fun v12 I12 J12 h7 => ?_)
        refine ey_ite (fun _ => ?_) (fun _ => ?_)
        · skip
          exact ey_some h7
        · skip
          exact ey_none
      · skip
        refine ey_ite (fun _ => ?_) (fun _ => ?_)
        · skip
          refine ey_pi (EY_m h6 (by decide)) (fun I15 h8 => ?_)
          refine ey_ite (fun _ => ?_) (fun _ => ?_)
          · skip
            exact ey_none
          · skip
            refine ey_oc ?_ (fun v18 I18 J18 h9 => ?_)
            · skip
              refine ey_ite (fun _ => ?_) (fun _ => ?_)
              · skip
                exact ey_some h8
              · skip
                refine ey_oc (EY_Model_note h8) (fun v20 I20 J20 h10 => ?_)
                exact ey_some h10
            · skip
              refine ey_oc (EY_Model_lay_IV h9) (fun v21 I21 J21 h11 => ?_)
              refine ey_pl (fun x22 => ?_)
              refine ey_oc (EY_Model_lay_IIV h11) (fun v23 I23 J23 h12 => ?_)
              refine ey_ite (fun _ => ?_) (fun _ => ?_)
              · skip
                exact ey_none
              · skip
                refine ey_pi (EY_u h12 (by decide)) (fun I25 h13 => ?_)
                refine ey_pi (EY_m h13 (by decide)) (fun I26 h14 => ?_)
                refine ey_oc (hR 5 _ _ _ _ h14) (fun v27 I27 J27 h15 => ?_)
                refine ey_ite (fun _ => ?_) (fun _ => ?_)
                · skip
                  refine ey_pi (EY_m h15 (by decide)) (fun I29 h16 => ?_)
                  refine ey_oc (EY_Model_lay_IV h16) (fun v30 I30 J30 h17 => ?_)
                  refine ey_oc (EY_Model_fill h17) (fun v31 I31 J31 h18 => ?_)
                  refine ey_oc (EY_Model_want h18) (fun v32 I32 J32 h19 => ?_)
                  refine ey_ite (fun _ => ?_) (fun _ => ?_)
                  · skip
                    exact ey_some h19
                  · skip
                    exact ey_none
                · skip
                  exact ey_some h15
        · skip
          refine ey_oc (EY_Model_refuse h6) (fun v34 I34 J34 h20 => ?_)
          refine ey_ite (fun _ => ?_) (fun _ => ?_)
          · skip
            exact ey_some h20
          · skip
            exact ey_none
    · skip
      refine ey_oc (EY_Model_lay_IV h5) (fun v36 I36 J36 h21 => ?_)
      refine ey_ite (fun _ => ?_) (fun _ => ?_)
      · skip
        exact ey_none
      · skip
        refine ey_pi (EY_u h21 (by decide)) (fun I38 h22 => ?_)
        refine ey_ite (fun _ => ?_) (fun _ => ?_)
        · skip
          exact ey_none
        · skip
          refine ey_pi (EY_u h22 (by decide)) (fun I40 h23 => ?_)
          refine ey_ite (fun _ => ?_) (fun _ => ?_)
          · skip
            exact ey_none
          · skip
            refine ey_pi (EY_u h23 (by decide)) (fun I42 h24 => ?_)
            refine ey_pi (EY_m h24 (by decide)) (fun I43 h25 => ?_)
            refine ey_oc (EY_Model_lay_IIV h25) (fun v44 I44 J44 h26 => ?_)
            exact ey_some h26
  · skip
    refine ey_oc (EY_Model_refuse h2) (fun v45 I45 J45 h27 => ?_)
    refine ey_ite (fun _ => ?_) (fun _ => ?_)
    · skip
      exact ey_some h27
    · skip
      exact ey_none
theorem EY_Model_readTurn {R : M3} {p2 : Int32} (hR : ∀ k a b I J, EY I0 I → ey I0 (R k a b I J)) (h : EY I0 I) : ey I0 (f_Model_readTurn R p2 I J) := by
  unfold f_Model_readTurn
  refine ey_ite (fun _ => ?_) (fun _ => ?_)
  · skip
    refine ey_pi (EY_m h (by decide)) (fun I2 h1 => ?_)
    refine ey_pi (EY_m h1 (by decide)) (fun I3 h2 => ?_)
    refine ey_pi (EY_m h2 (by decide)) (fun I4 h3 => ?_)
    refine ey_oc (EY_Model_isVariable h3) (fun v5 I5 J5 h4 => ?_)
    refine ey_ite (fun _ => ?_) (fun _ => ?_)
    · skip
      refine ey_oc (EY_Model_see h4) (fun v7 I7 J7 h5 => ?_)
      refine ey_oc (EY_Model_isSecret h5) (fun v8 I8 J8 h6 => ?_)
      refine ey_oc ?_ (fun v10 I10 J10 h7 => ?_)
      · skip
        refine ey_ite (fun _ => ?_) (fun _ => ?_)
        · skip
          exact ey_some h6
        · skip
          refine ey_oc (EY_Model_note h6) (fun v12 I12 J12 h8 => ?_)
          exact ey_some h8
      · skip
        refine ey_oc (EY_Model_see h7) (fun v13 I13 J13 h9 => ?_)
        refine ey_oc (EY_Model_numberOf h9) (fun v14 I14 J14 h10 => ?_)
        refine ey_pi (EY_m h10 (by decide)) (fun I15 h11 => ?_)
        refine ey_oc (EY_Model_want h11) (fun v16 I16 J16 h12 => ?_)
        refine ey_ite (fun _ => ?_) (fun _ => ?_)
        · skip
          refine ey_pl (fun x18 => ?_)
          refine ey_oc (EY_Model_lay_IIV h12) (fun v19 I19 J19 h13 => ?_)
          refine ey_pl (fun x20 => ?_)
          refine ey_oc (EY_Model_lay_IIV h13) (fun v21 I21 J21 h14 => ?_)
          refine ey_oc (hR 5 _ _ _ _ h14) (fun v22 I22 J22 h15 => ?_)
          refine ey_ite (fun _ => ?_) (fun _ => ?_)
          · skip
            refine ey_oc (EY_Model_lay_IV h15) (fun v24 I24 J24 h16 => ?_)
            refine ey_pl (fun x25 => ?_)
            refine ey_oc (EY_Model_lay_IIV h16) (fun v26 I26 J26 h17 => ?_)
            refine ey_ite (fun _ => ?_) (fun _ => ?_)
            · skip
              refine ey_oc (EY_Model_fill h17) (fun v28 I28 J28 h18 => ?_)
              refine ey_oc (EY_Model_fill h18) (fun v29 I29 J29 h19 => ?_)
              refine ey_pi (EY_m h19 (by decide)) (fun I30 h20 => ?_)
              refine ey_pi (EY_m h20 (by decide)) (fun I31 h21 => ?_)
              refine ey_oc (EY_Model_want h21) (fun v32 I32 J32 h22 => ?_)
              refine ey_ite (fun _ => ?_) (fun _ => ?_)
              · skip
                exact ey_some h22
              · skip
                exact ey_none
            · skip
              refine ey_oc (EY_Model_want h17) (fun v34 I34 J34 h23 => ?_)
              refine ey_ite (fun _ => ?_) (fun _ => ?_)
              · skip
                refine ey_oc (EY_Model_fill h23) (fun v36 I36 J36 h24 => ?_)
                refine ey_oc (hR 5 _ _ _ _ h24) (fun v37 I37 J37 h25 => ?_)
                refine ey_ite (fun _ => ?_) (fun _ => ?_)
                · skip
                  refine ey_oc (EY_Model_fill h25) (fun v39 I39 J39 h26 => ?_)
                  refine ey_pi (EY_m h26 (by decide)) (fun I40 h27 => ?_)
                  refine ey_pi (EY_m h27 (by decide)) (fun I41 h28 => ?_)
                  refine ey_oc (EY_Model_want h28) (fun v42 I42 J42 h29 => ?_)
                  refine ey_ite (fun _ => ?_) (fun _ => ?_)
                  · skip
                    exact ey_some h29
                  · skip
                    exact ey_none
                · skip
                  exact ey_some h25
              · skip
                exact ey_some h23
          · skip
            exact ey_some h15
        · skip
          exact ey_some h12
    · skip
      refine ey_oc (EY_Model_refuse h4) (fun v44 I44 J44 h30 => ?_)
      refine ey_ite (fun _ => ?_) (fun _ => ?_)
      · skip
        exact ey_some h30
      · skip
        exact ey_none
  · skip
    refine ey_oc (EY_Model_refuse h) (fun v46 I46 J46 h31 => ?_)
    refine ey_ite (fun _ => ?_) (fun _ => ?_)
    · skip
      exact ey_some h31
    · skip
      exact ey_none
theorem EY_Model_readValue {R : M3} {p2 : Int32} {p3 : Int32} (hR : ∀ k a b I J, EY I0 I → ey I0 (R k a b I J)) (h : EY I0 I) : ey I0 (f_Model_readValue R p2 p3 I J) := by
  unfold f_Model_readValue
  refine ey_oc (EY_Model_isRow h) (fun v1 I1 J1 h1 => ?_)
  refine ey_ite (fun _ => ?_) (fun _ => ?_)
  · skip
    refine ey_oc (hR 0 _ _ _ _ h1) (fun v3 I3 J3 h2 => ?_)
    refine ey_ite (fun _ => ?_) (fun _ => ?_)
    · skip
      refine ey_oc (EY_Model_isClear h2) (fun v5 I5 J5 h3 => ?_)
      refine ey_oc ?_ (fun v7 I7 J7 h4 => ?_)
      · skip
        refine ey_ite (fun _ => ?_) (fun _ => ?_)
        · skip
          exact ey_some h3
        · skip
          refine ey_ite (fun _ => ?_) (fun _ => ?_)
          · skip
            exact ey_some h3
          · skip
            refine ey_oc (EY_Model_note h3) (fun v10 I10 J10 h5 => ?_)
            exact ey_some h5
      · skip
        refine ey_oc (EY_Model_isClear h4) (fun v11 I11 J11 h6 => ?_)
        refine ey_pl (fun v13 => ?_)
        refine ey_oc (EY_Model_numberOf h6) (fun v15 I15 J15 h7 => ?_)
        refine ey_oc (EY_Model_lay_IIV h7) (fun v16 I16 J16 h8 => ?_)
        refine ey_oc (EY_Model_want h8) (fun v17 I17 J17 h9 => ?_)
        refine ey_ite (fun _ => ?_) (fun _ => ?_)
        · skip
          exact ey_some h9
        · skip
          exact ey_none
    · skip
      exact ey_some h2
  · skip
    refine ey_oc (EY_Model_isSum h1) (fun v19 I19 J19 h10 => ?_)
    refine ey_ite (fun _ => ?_) (fun _ => ?_)
    · skip
      refine ey_oc (hR 0 _ _ _ _ h10) (fun v21 I21 J21 h11 => ?_)
      refine ey_ite (fun _ => ?_) (fun _ => ?_)
      · skip
        refine ey_oc (EY_Model_isClear h11) (fun v23 I23 J23 h12 => ?_)
        refine ey_oc ?_ (fun v25 I25 J25 h13 => ?_)
        · skip
          refine ey_ite (fun _ => ?_) (fun _ => ?_)
          · skip
            exact ey_some h12
          · skip
            refine ey_ite (fun _ => ?_) (fun _ => ?_)
            · skip
              exact ey_some h12
            · skip
              refine ey_oc (EY_Model_note h12) (fun v28 I28 J28 h14 => ?_)
              exact ey_some h14
        · skip
          refine ey_oc (EY_Model_isClear h13) (fun v29 I29 J29 h15 => ?_)
          refine ey_pl (fun v31 => ?_)
          refine ey_oc (EY_Model_numberOf h15) (fun v33 I33 J33 h16 => ?_)
          refine ey_oc (EY_Model_lay_IIV h16) (fun v34 I34 J34 h17 => ?_)
          refine ey_oc (EY_Model_want h17) (fun v35 I35 J35 h18 => ?_)
          refine ey_ite (fun _ => ?_) (fun _ => ?_)
          · skip
            exact ey_some h18
          · skip
            exact ey_none
      · skip
        exact ey_some h11
    · skip
      refine ey_oc (EY_Model_see h10) (fun v37 I37 J37 h19 => ?_)
      refine ey_pl (fun x38 => ?_)
      refine ey_pi (EY_m h19 (by decide)) (fun I39 h20 => ?_)
      refine ey_oc (EY_Model_takes h20) (fun v40 I40 J40 h21 => ?_)
      refine ey_oc (EY_Model_isRow h21) (fun v41 I41 J41 h22 => ?_)
      refine ey_ite (fun _ => ?_) (fun _ => ?_)
      · skip
        refine ey_oc (EY_Model_see h22) (fun v43 I43 J43 h23 => ?_)
        refine ey_pl (fun x44 => ?_)
        refine ey_pi (EY_m h23 (by decide)) (fun I45 h24 => ?_)
        refine ey_oc (EY_Model_isClear h24) (fun v46 I46 J46 h25 => ?_)
        refine ey_oc ?_ (fun v48 I48 J48 h26 => ?_)
        · skip
          refine ey_ite (fun _ => ?_) (fun _ => ?_)
          · skip
            exact ey_some h25
          · skip
            refine ey_oc (EY_Model_note h25) (fun v50 I50 J50 h27 => ?_)
            exact ey_some h27
        · skip
          refine ey_oc (EY_Model_lay_IIV h26) (fun v51 I51 J51 h28 => ?_)
          refine ey_oc (EY_Model_lay_IV h28) (fun v52 I52 J52 h29 => ?_)
          refine ey_oc (EY_Model_numberOf h29) (fun v53 I53 J53 h30 => ?_)
          refine ey_oc (EY_Model_lay_IIV h30) (fun v54 I54 J54 h31 => ?_)
          refine ey_oc (EY_Model_want h31) (fun v55 I55 J55 h32 => ?_)
          refine ey_ite (fun _ => ?_) (fun _ => ?_)
          · skip
            exact ey_some h32
          · skip
            exact ey_none
      · skip
        refine ey_oc (EY_Model_refuse h22) (fun v57 I57 J57 h33 => ?_)
        refine ey_ite (fun _ => ?_) (fun _ => ?_)
        · skip
          exact ey_some h33
        · skip
          exact ey_none
theorem EY_Model_readRow {R : M3} {p2 : Int32} (hR : ∀ k a b I J, EY I0 I → ey I0 (R k a b I J)) (h : EY I0 I) : ey I0 (f_Model_readRow R p2 I J) := by
  unfold f_Model_readRow
  refine ey_pl (fun x1 => ?_)
  refine ey_pi (EY_m h (by decide)) (fun I2 h1 => ?_)
  refine ey_oc (EY_Model_isSecretRow h1) (fun v3 I3 J3 h2 => ?_)
  refine ey_pl (fun v5 => ?_)
  refine ey_oc (EY_Model_takes h2) (fun v7 I7 J7 h3 => ?_)
  refine ey_ite (fun _ => ?_) (fun _ => ?_)
  · skip
    refine ey_oc (EY_Model_see h3) (fun v9 I9 J9 h4 => ?_)
    refine ey_ite (fun _ => ?_) (fun _ => ?_)
    · skip
      refine ey_oc (hR 4 _ _ _ _ h4) (fun v11 I11 J11 h5 => ?_)
      refine ey_ite (fun _ => ?_) (fun _ => ?_)
      · skip
        exact ey_some h5
      · skip
        refine ey_oc (EY_Model_want h5) (fun v13 I13 J13 h6 => ?_)
        refine ey_ite (fun _ => ?_) (fun _ => ?_)
        · skip
          exact ey_some h6
        · skip
          refine ey_oc (hR 0 _ _ _ _ h6) (fun v15 I15 J15 h7 => ?_)
          refine ey_ite (fun _ => ?_) (fun _ => ?_)
          · skip
            refine ey_oc (EY_Model_isSecretRow h7) (fun v17 I17 J17 h8 => ?_)
            refine ey_oc ?_ (fun v19 I19 J19 h9 => ?_)
            · skip
              refine ey_ite (fun _ => ?_) (fun _ => ?_)
              · skip
                exact ey_some h8
              · skip
                refine ey_ite (fun _ => ?_) (fun _ => ?_)
                · skip
                  exact ey_some h8
                · skip
                  refine ey_oc (EY_Model_note h8) (fun v22 I22 J22 h10 => ?_)
                  exact ey_some h10
            · skip
              refine ey_oc (EY_Model_isSecretRow h9) (fun v23 I23 J23 h11 => ?_)
              refine ey_pl (fun v25 => ?_)
              refine ey_oc (EY_Model_lay_IIV h11) (fun v27 I27 J27 h12 => ?_)
              refine ey_oc (EY_Model_want h12) (fun v28 I28 J28 h13 => ?_)
              refine ey_ite (fun _ => ?_) (fun _ => ?_)
              · skip
                exact ey_some h13
              · skip
                exact ey_none
          · skip
            exact ey_some h7
    · skip
      refine ey_oc (EY_Model_refuse h4) (fun v30 I30 J30 h14 => ?_)
      refine ey_ite (fun _ => ?_) (fun _ => ?_)
      · skip
        exact ey_some h14
      · skip
        exact ey_none
  · skip
    refine ey_oc (EY_Model_readRows h3) (fun v32 I32 J32 h15 => ?_)
    refine ey_ite (fun _ => ?_) (fun _ => ?_)
    · skip
      exact ey_some h15
    · skip
      exact ey_none
theorem EY_Model_readX {R : M3} (hR : ∀ k a b I J, EY I0 I → ey I0 (R k a b I J)) (h : EY I0 I) : ey I0 (f_Model_readX R I J) := by
  unfold f_Model_readX
  refine ey_oc (hR 1 _ _ _ _ h) (fun v1 I1 J1 h1 => ?_)
  refine ey_ite (fun _ => ?_) (fun _ => ?_)
  · skip
    refine ey_pl (fun x3 => ?_)
    refine ey_oc (EY_Model_readX_14 hR _ _ _ _ h1) (fun q32 I32 J32 h2 => ?_)
    refine ey_oe (fun y32 => ?_) (fun u32 => ?_)
    · skip
      exact ey_some h2
    · skip
      refine ey_ite (fun _ => ?_) (fun _ => ?_)
      · skip
        refine ey_pi (EY_m h2 (by decide)) (fun I33 h3 => ?_)
        exact ey_some h3
      · skip
        exact ey_none
  · skip
    exact ey_some h1
theorem EY_Model_readProduct {R : M3} (hR : ∀ k a b I J, EY I0 I → ey I0 (R k a b I J)) (h : EY I0 I) : ey I0 (f_Model_readProduct R I J) := by
  unfold f_Model_readProduct
  refine ey_oc (hR 2 _ _ _ _ h) (fun v1 I1 J1 h1 => ?_)
  refine ey_ite (fun _ => ?_) (fun _ => ?_)
  · skip
    refine ey_pl (fun x3 => ?_)
    refine ey_oc (EY_Model_readProduct_14 hR _ _ _ _ h1) (fun q15 I15 J15 h2 => ?_)
    refine ey_oe (fun y15 => ?_) (fun u15 => ?_)
    · skip
      exact ey_some h2
    · skip
      refine ey_ite (fun _ => ?_) (fun _ => ?_)
      · skip
        refine ey_pi (EY_m h2 (by decide)) (fun I16 h3 => ?_)
        exact ey_some h3
      · skip
        exact ey_none
  · skip
    exact ey_some h1
theorem EY_Model_readFactor {R : M3} (hR : ∀ k a b I J, EY I0 I → ey I0 (R k a b I J)) (h : EY I0 I) : ey I0 (f_Model_readFactor R I J) := by
  unfold f_Model_readFactor
  refine ey_oc (EY_Model_see h) (fun v1 I1 J1 h1 => ?_)
  refine ey_ite (fun _ => ?_) (fun _ => ?_)
  · skip
    refine ey_oc (hR 3 _ _ _ _ h1) (fun v3 I3 J3 h2 => ?_)
    refine ey_ite (fun _ => ?_) (fun _ => ?_)
    · skip
      refine ey_oc (EY_Model_readFactor_79 hR _  _ _ h2) (fun u10 I10 J10 h3 => ?_)
      exact ey_some h3
    · skip
      exact ey_some h2
  · skip
    refine ey_ite (fun _ => ?_) (fun _ => ?_)
    · skip
      refine ey_pi (EY_m h1 (by decide)) (fun I12 h4 => ?_)
      refine ey_pi (EY_m h4 (by decide)) (fun I13 h5 => ?_)
      refine ey_oc (hR 2 _ _ _ _ h5) (fun v14 I14 J14 h6 => ?_)
      refine ey_pi (EY_m h6 (by decide)) (fun I15 h7 => ?_)
      refine ey_ite (fun _ => ?_) (fun _ => ?_)
      · skip
        refine ey_ite (fun _ => ?_) (fun _ => ?_)
        · skip
          exact ey_some h7
        · skip
          exact ey_none
      · skip
        refine ey_oc (EY_Model_lay_IV h7) (fun v18 I18 J18 h8 => ?_)
        refine ey_ite (fun _ => ?_) (fun _ => ?_)
        · skip
          exact ey_some h8
        · skip
          exact ey_none
    · skip
      refine ey_oc (EY_Model_refuse h1) (fun v20 I20 J20 h9 => ?_)
      refine ey_ite (fun _ => ?_) (fun _ => ?_)
      · skip
        exact ey_some h9
      · skip
        exact ey_none
theorem EY_Model_readPart {R : M3} (hR : ∀ k a b I J, EY I0 I → ey I0 (R k a b I J)) (h : EY I0 I) : ey I0 (f_Model_readPart R I J) := by
  unfold f_Model_readPart
  refine ey_oc (EY_Model_see h) (fun v1 I1 J1 h1 => ?_)
  refine ey_ite (fun _ => ?_) (fun _ => ?_)
  · skip
    refine ey_oc (EY_Model_isVariable h1) (fun v3 I3 J3 h2 => ?_)
    refine ey_ite (fun _ => ?_) (fun _ => ?_)
    · skip
      refine ey_oc (EY_Model_isRow h2) (fun v5 I5 J5 h3 => ?_)
      refine ey_ite (fun _ => ?_) (fun _ => ?_)
      · skip
        refine ey_pi (EY_m h3 (by decide)) (fun I7 h4 => ?_)
        refine ey_oc (EY_Model_isDigit h4) (fun v8 I8 J8 h5 => ?_)
        refine ey_ite (fun _ => ?_) (fun _ => ?_)
        · skip
          refine ey_oc (EY_Model_refuse h5) (fun v10 I10 J10 h6 => ?_)
          refine ey_ite (fun _ => ?_) (fun _ => ?_)
          · skip
            exact ey_some h6
          · skip
            exact ey_none
        · skip
          refine ey_oc (EY_Model_readNumber h5) (fun v12 I12 J12 h7 => ?_)
          refine ey_ite (fun _ => ?_) (fun _ => ?_)
          · skip
            exact ey_some h7
          · skip
            exact ey_none
      · skip
        refine ey_pi (EY_m h3 (by decide)) (fun I14 h8 => ?_)
        refine ey_oc (hR 4 _ _ _ _ h8) (fun v15 I15 J15 h9 => ?_)
        refine ey_ite (fun _ => ?_) (fun _ => ?_)
        · skip
          refine ey_oc (EY_Model_isSecretRow h9) (fun v17 I17 J17 h10 => ?_)
          refine ey_ite (fun _ => ?_) (fun _ => ?_)
          · skip
            refine ey_pi (EY_m h10 (by decide)) (fun I18 h11 => ?_)
            refine ey_pl (fun v21 => ?_)
            refine ey_pl (fun v24 => ?_)
            refine ey_oc (EY_Model_lay_IIV h11) (fun v26 I26 J26 h12 => ?_)
            exact ey_some h12
          · skip
            exact ey_none
        · skip
          exact ey_some h9
    · skip
      refine ey_pi (EY_m h2 (by decide)) (fun I27 h13 => ?_)
      refine ey_oc (EY_Model_isClear h13) (fun v28 I28 J28 h14 => ?_)
      refine ey_pl (fun v30 => ?_)
      refine ey_oc (EY_Model_numberOf h14) (fun v32 I32 J32 h15 => ?_)
      refine ey_oc (EY_Model_lay_IIV h15) (fun v33 I33 J33 h16 => ?_)
      refine ey_oc (EY_Model_isSecret h16) (fun v34 I34 J34 h17 => ?_)
      refine ey_ite (fun _ => ?_) (fun _ => ?_)
      · skip
        refine ey_pi (EY_m h17 (by decide)) (fun I35 h18 => ?_)
        exact ey_some h18
      · skip
        exact ey_none
  · skip
    refine ey_ite (fun _ => ?_) (fun _ => ?_)
    · skip
      refine ey_pi (EY_m h1 (by decide)) (fun I38 h19 => ?_)
      refine ey_pi (EY_m h19 (by decide)) (fun I39 h20 => ?_)
      refine ey_oc (hR 0 _ _ _ _ h20) (fun v40 I40 J40 h21 => ?_)
      refine ey_oc ?_ (fun v42 I42 J42 h22 => ?_)
      · skip
        refine ey_ite (fun _ => ?_) (fun _ => ?_)
        · skip
          exact ey_some h21
        · skip
          refine ey_oc (EY_Model_want h21) (fun v44 I44 J44 h23 => ?_)
          refine ey_ite (fun _ => ?_) (fun _ => ?_)
          · skip
            exact ey_some h23
          · skip
            exact ey_some h23
      · skip
        refine ey_pi (EY_m h22 (by decide)) (fun I46 h24 => ?_)
        refine ey_ite (fun _ => ?_) (fun _ => ?_)
        · skip
          exact ey_some h24
        · skip
          exact ey_none
    · skip
      refine ey_oc (EY_Model_refuse h1) (fun v48 I48 J48 h25 => ?_)
      refine ey_ite (fun _ => ?_) (fun _ => ?_)
      · skip
        exact ey_some h25
      · skip
        exact ey_none
theorem EY_Model_readPlace {R : M3} (hR : ∀ k a b I J, EY I0 I → ey I0 (R k a b I J)) (h : EY I0 I) : ey I0 (f_Model_readPlace R I J) := by
  unfold f_Model_readPlace
  refine ey_oc (EY_Model_see h) (fun v1 I1 J1 h1 => ?_)
  refine ey_pl (fun x2 => ?_)
  refine ey_oc (EY_Model_see h1) (fun v3 I3 J3 h2 => ?_)
  refine ey_ite (fun _ => ?_) (fun _ => ?_)
  · skip
    refine ey_oc (EY_Model_want h2) (fun v5 I5 J5 h3 => ?_)
    refine ey_ite (fun _ => ?_) (fun _ => ?_)
    · skip
      refine ey_pi (EY_m h3 (by decide)) (fun I7 h4 => ?_)
      refine ey_oc (hR 0 _ _ _ _ h4) (fun v8 I8 J8 h5 => ?_)
      refine ey_oc ?_ (fun v10 I10 J10 h6 => ?_)
      · skip
        refine ey_ite (fun _ => ?_) (fun _ => ?_)
        · skip
          exact ey_some h5
        · skip
          refine ey_ite (fun _ => ?_) (fun _ => ?_)
          · skip
            exact ey_some h5
          · skip
            refine ey_oc (EY_Model_note h5) (fun v13 I13 J13 h7 => ?_)
            exact ey_some h7
      · skip
        refine ey_oc ?_ (fun v15 I15 J15 h8 => ?_)
        · skip
          refine ey_ite (fun _ => ?_) (fun _ => ?_)
          · skip
            exact ey_some h6
          · skip
            refine ey_oc (EY_Model_want h6) (fun v17 I17 J17 h9 => ?_)
            refine ey_ite (fun _ => ?_) (fun _ => ?_)
            · skip
              exact ey_some h9
            · skip
              exact ey_some h9
        · skip
          refine ey_pi (EY_m h8 (by decide)) (fun I19 h10 => ?_)
          refine ey_ite (fun _ => ?_) (fun _ => ?_)
          · skip
            exact ey_some h10
          · skip
            exact ey_none
    · skip
      exact ey_some h3
  · skip
    refine ey_ite (fun _ => ?_) (fun _ => ?_)
    · skip
      refine ey_oc (EY_Model_want h2) (fun v22 I22 J22 h11 => ?_)
      refine ey_ite (fun _ => ?_) (fun _ => ?_)
      · skip
        refine ey_pi (EY_m h11 (by decide)) (fun I24 h12 => ?_)
        refine ey_oc (hR 0 _ _ _ _ h12) (fun v25 I25 J25 h13 => ?_)
        refine ey_oc ?_ (fun v27 I27 J27 h14 => ?_)
        · skip
          refine ey_ite (fun _ => ?_) (fun _ => ?_)
          · skip
            exact ey_some h13
          · skip
            refine ey_ite (fun _ => ?_) (fun _ => ?_)
            · skip
              exact ey_some h13
            · skip
              refine ey_oc (EY_Model_note h13) (fun v30 I30 J30 h15 => ?_)
              exact ey_some h15
        · skip
          refine ey_oc ?_ (fun v32 I32 J32 h16 => ?_)
          · skip
            refine ey_ite (fun _ => ?_) (fun _ => ?_)
            · skip
              exact ey_some h14
            · skip
              refine ey_oc (EY_Model_want h14) (fun v34 I34 J34 h17 => ?_)
              refine ey_ite (fun _ => ?_) (fun _ => ?_)
              · skip
                exact ey_some h17
              · skip
                exact ey_some h17
          · skip
            refine ey_pi (EY_m h16 (by decide)) (fun I36 h18 => ?_)
            refine ey_ite (fun _ => ?_) (fun _ => ?_)
            · skip
              exact ey_some h18
            · skip
              exact ey_none
      · skip
        exact ey_some h11
    · skip
      refine ey_oc (EY_Model_refuse h2) (fun v38 I38 J38 h19 => ?_)
      refine ey_ite (fun _ => ?_) (fun _ => ?_)
      · skip
        exact ey_some h19
      · skip
        exact ey_none
theorem EYM_all : ∀ (fu k : Nat) (a b : Int32) (I : MI) (J : MJ), EY I0 I → ey I0 (f_RcM fu k a b I J) := by
  intro fu
  induction fu with
  | zero => intro k a b I J h; exact ey_none
  | succ fu ih =>
    intro k a b I J h
    have cb : ∀ {α : Type} {c : Bool} {x y : M2 α}, ey I0 x → ey I0 y → ey I0 (bif c then x else y) := by
      intro α c x y hx hy
      cases c with
      | true => exact hx
      | false => exact hy
    unfold f_RcM
    refine cb (EY_Model_readX ih h) ?_
    refine cb (EY_Model_readProduct ih h) ?_
    refine cb (EY_Model_readFactor ih h) ?_
    refine cb (EY_Model_readPart ih h) ?_
    refine cb (EY_Model_readPlace ih h) ?_
    refine cb (EY_Model_readStatements ih h) ?_
    refine cb (EY_Model_readStatement ih h) ?_
    refine cb (EY_Model_readRoutine ih h) ?_
    refine cb (EY_Model_readValue ih h) ?_
    refine cb (EY_Model_readRow ih h) ?_
    exact cb (EY_Model_readTurn ih h) ey_none
end EYS
