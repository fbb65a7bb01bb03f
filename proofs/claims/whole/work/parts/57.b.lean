/-! compile: what it leaves as it was (wip/whole/tools/gen57b.py) -/
def EX (I0 I : MI) : Prop := ∀ a, (a < 3 ∨ 9 < a) → I a = I0 a
def ex (I0 : MI) {α : Type} (r : M2 α) : Prop := ∀ v I' J', r = some (v, I', J') → EX I0 I'
section EXS
variable {I0 I : MI} {J : MJ} {α β γ : Type}
theorem ex_none : ex I0 (none : M2 α) := fun _ _ _ h => by cases h
theorem ex_some {v : α} (h : EX I0 I) : ex I0 (some (v, I, J)) := fun _ _ _ e => by
  obtain ⟨rfl, rfl, rfl⟩ := s_inj e
  exact h
theorem ex_oc {x : M2 α} {f : α → MI → MJ → M2 β} (h : ex I0 x) (k : ∀ v I1 J1, EX I0 I1 → ex I0 (f v I1 J1)) : ex I0 (oc x f) := by
  intro v I' J' e
  obtain ⟨u, I1, J1, e1, e2⟩ := oc_call e
  exact k u I1 J1 (h u I1 J1 e1) v I' J' e2
theorem ex_pl {a : α} {f : α → M2 β} (h : ∀ x, ex I0 (f x)) : ex I0 (pl a f) := h a
theorem ex_pi {I1 : MI} {f : MI → M2 β} (h : EX I0 I1) (k : ∀ I2, EX I0 I2 → ex I0 (f I2)) : ex I0 (pl I1 f) := k _ h
theorem ex_ite {c : Prop} [Decidable c] {a b : M2 α} (h1 : c → ex I0 a) (h2 : ¬ c → ex I0 b) : ex I0 (if c then a else b) := by
  by_cases q : c
  · rw [if_pos q]; exact h1 q
  · rw [if_neg q]; exact h2 q
theorem ex_oe {q : α ⊕ β} {f : α → M2 γ} {g : β → M2 γ} (h1 : ∀ y, ex I0 (f y)) (h2 : ∀ y, ex I0 (g y)) : ex I0 (oe q f g) := by
  cases q with
  | inl y => exact h1 y
  | inr y => exact h2 y
theorem EX_u {a : Nat} {w : Nat → Int32} (h : EX I0 I) (h1 : 3 ≤ a) (h2 : a ≤ 9) : EX I0 (va_up I a w) := fun b hb => by
  rw [va_up_ne _ _ (by omega)]
  exact h b hb
theorem ex_pI {a : Nat} {w : Nat → Int32} {f : MI → M2 β} (h : EX I0 I) (h1 : 3 ≤ a) (h2 : a ≤ 9) (k : ∀ I1, EX I0 I1 → ex I0 (f I1)) : ex I0 (pl (va_up I a w) f) := k _ (EX_u h h1 h2)
theorem EX_Row_at {r b m : Nat} {p : Int32} (h : EX I0 I) : ex I0 (f_Row_at r b m p I J) := by
  unfold f_Row_at
  exact ex_ite (fun _ => ex_some h) (fun _ => ex_ite (fun _ => ex_some h) (fun _ => ex_ite (fun _ => ex_some h) (fun _ => ex_ite (fun _ => ex_none) (fun _ => ex_some h))))
theorem EX_Row_add {p : Int32} (h : EX I0 I) : ex I0 (f_Row_add 6 7 2000 p I J) := by
  unfold f_Row_add
  exact ex_ite (fun _ => ex_some h) (fun _ => ex_ite (fun _ => ex_none) (fun _ => ex_pI h (by decide) (by decide) (fun _ h => ex_pI h (by decide) (by decide) (fun _ h => ex_some h))))
theorem EX_Row_change {x p : Int32} (h : EX I0 I) : ex I0 (f_Row_change 6 7 2000 x p I J) := by
  unfold f_Row_change
  exact ex_ite (fun _ => ex_some h) (fun _ => ex_ite (fun _ => ex_some h) (fun _ => ex_ite (fun _ => ex_some h) (fun _ => ex_ite (fun _ => ex_none) (fun _ => ex_pI h (by decide) (by decide) (fun _ h => ex_some h)))))
theorem EX_Row_aim {x p : Int32} (h : EX I0 I) : ex I0 (f_Row_aim 6 7 2000 x p I J) := by
  unfold f_Row_aim
  exact ex_oc (EX_Row_change h) (fun _ _ _ h => ex_oc (EX_Row_change h) (fun _ _ _ h => ex_some h))
theorem EX_Row_wipe (h : EX I0 I) : ex I0 (f_Row_wipe 6 7 2000 I J) := by
  unfold f_Row_wipe
  exact ex_pI h (by decide) (by decide) (fun _ h => ex_some h)
theorem EX_Sh_lengthOf {p : Int32} (h : EX I0 I) : ex I0 (f_Sh_lengthOf p I J) := by
  unfold f_Sh_lengthOf
  exact ex_ite (fun _ => ex_some h) (fun _ => ex_ite (fun _ => ex_some h) (fun _ => ex_ite (fun _ => ex_none) (fun _ => ex_some h)))
theorem EX_Translator_look_2 : ∀ (fu : Nat) (l1 : Int32) (I : MI) (J : MJ), EX I0 I → ex I0 (f_Translator_look_2  fu l1 I J) := by
  intro fu
  induction fu with
  | zero => intro l1 I J h; exact ex_none
  | succ fu ih =>
    intro l1 I J h
    rw [f_Translator_look_2]
    refine ex_ite (fun _ => ?_) (fun _ => ?_)
    · skip
      exact ex_some h
    · skip
      refine ex_oc (EX_Row_at h) (fun v2 I2 J2 h1 => ?_)
      refine ex_ite (fun _ => ?_) (fun _ => ?_)
      · skip
        exact ex_some h1
      · skip
        refine ex_pi (EX_u h1 (by decide) (by decide)) (fun I4 h2 => ?_)
        exact ih _ _ _ h2
theorem EX_Translator_look (h : EX I0 I) : ex I0 (f_Translator_look  I J) := by
  unfold f_Translator_look
  refine ex_oc (EX_Translator_look_2 _ _ _ _ h) (fun u5 I5 J5 h1 => ?_)
  refine ex_ite (fun _ => ?_) (fun _ => ?_)
  · skip
    refine ex_oc (EX_Row_at h1) (fun v7 I7 J7 h2 => ?_)
    exact ex_some h2
  · skip
    exact ex_some h1
theorem EX_Translator_behindNext_9 : ∀ (fu : Nat) (l1 : Int32) (l2 : Int32) (I : MI) (J : MJ), EX I0 I → ex I0 (f_Translator_behindNext_9  fu l1 l2 I J) := by
  intro fu
  induction fu with
  | zero => intro l1 l2 I J h; exact ex_none
  | succ fu ih =>
    intro l1 l2 I J h
    rw [f_Translator_behindNext_9]
    refine ex_ite (fun _ => ?_) (fun _ => ?_)
    · skip
      exact ex_some h
    · skip
      refine ex_oc (EX_Row_at h) (fun v3 I3 J3 h1 => ?_)
      refine ex_ite (fun _ => ?_) (fun _ => ?_)
      · skip
        exact ex_some h1
      · skip
        exact ih _ _ _ _ h1
theorem EX_Translator_behindNext (h : EX I0 I) : ex I0 (f_Translator_behindNext  I J) := by
  unfold f_Translator_behindNext
  refine ex_pl (fun x1 => ?_)
  refine ex_oc (EX_Translator_behindNext_9 _ _ _ _ _ h) (fun u5 I5 J5 h1 => ?_)
  refine ex_oc (EX_Row_at h1) (fun v6 I6 J6 h2 => ?_)
  exact ex_some h2
theorem EX_Translator_pass (h : EX I0 I) : ex I0 (f_Translator_pass  I J) := by
  unfold f_Translator_pass
  refine ex_ite (fun _ => ?_) (fun _ => ?_)
  · skip
    exact ex_some h
  · skip
    refine ex_pi (EX_u h (by decide) (by decide)) (fun I2 h1 => ?_)
    exact ex_some h1
theorem EX_Translator_refuse (h : EX I0 I) : ex I0 (f_Translator_refuse  I J) := by
  unfold f_Translator_refuse
  refine ex_ite (fun _ => ?_) (fun _ => ?_)
  · skip
    exact ex_some h
  · skip
    refine ex_pi (EX_u h (by decide) (by decide)) (fun I2 h1 => ?_)
    refine ex_pi (EX_u h1 (by decide) (by decide)) (fun I3 h2 => ?_)
    refine ex_pi (EX_u h2 (by decide) (by decide)) (fun I4 h3 => ?_)
    exact ex_some h3
theorem EX_Translator_blame {p2 : Int32} {p3 : Int32} (h : EX I0 I) : ex I0 (f_Translator_blame p2 p3 I J) := by
  unfold f_Translator_blame
  refine ex_ite (fun _ => ?_) (fun _ => ?_)
  · skip
    refine ex_ite (fun _ => ?_) (fun _ => ?_)
    · skip
      refine ex_pi (EX_u h (by decide) (by decide)) (fun I3 h1 => ?_)
      refine ex_pi (EX_u h1 (by decide) (by decide)) (fun I4 h2 => ?_)
      exact ex_some h2
    · skip
      refine ex_ite (fun _ => ?_) (fun _ => ?_)
      · skip
        refine ex_pi (EX_u h (by decide) (by decide)) (fun I6 h3 => ?_)
        refine ex_pi (EX_u h3 (by decide) (by decide)) (fun I7 h4 => ?_)
        exact ex_some h4
      · skip
        refine ex_ite (fun _ => ?_) (fun _ => ?_)
        · skip
          exact ex_some h
        · skip
          refine ex_ite (fun _ => ?_) (fun _ => ?_)
          · skip
            exact ex_some h
          · skip
            refine ex_pi (EX_u h (by decide) (by decide)) (fun I10 h5 => ?_)
            refine ex_pi (EX_u h5 (by decide) (by decide)) (fun I11 h6 => ?_)
            exact ex_some h6
  · skip
    exact ex_some h
theorem EX_Translator_wantClear {p2 : Int32} {p3 : Int32} (h : EX I0 I) : ex I0 (f_Translator_wantClear p2 p3 I J) := by
  unfold f_Translator_wantClear
  refine ex_ite (fun _ => ?_) (fun _ => ?_)
  · skip
    exact ex_some h
  · skip
    refine ex_oc (EX_Translator_blame h) (fun v2 I2 J2 h1 => ?_)
    exact ex_some h1
theorem EX_Translator_wantSecret {p2 : Int32} {p3 : Int32} (h : EX I0 I) : ex I0 (f_Translator_wantSecret p2 p3 I J) := by
  unfold f_Translator_wantSecret
  refine ex_ite (fun _ => ?_) (fun _ => ?_)
  · skip
    exact ex_some h
  · skip
    refine ex_oc (EX_Translator_blame h) (fun v2 I2 J2 h1 => ?_)
    exact ex_some h1
theorem EX_Translator_expect {p2 : Int32} (h : EX I0 I) : ex I0 (f_Translator_expect p2 I J) := by
  unfold f_Translator_expect
  refine ex_oc (EX_Translator_look h) (fun v1 I1 J1 h1 => ?_)
  refine ex_ite (fun _ => ?_) (fun _ => ?_)
  · skip
    refine ex_oc (EX_Translator_refuse h1) (fun v3 I3 J3 h2 => ?_)
    exact ex_some h2
  · skip
    refine ex_oc (EX_Translator_pass h1) (fun v4 I4 J4 h3 => ?_)
    exact ex_some h3
theorem EX_Translator_enter (h : EX I0 I) : ex I0 (f_Translator_enter  I J) := by
  unfold f_Translator_enter
  refine ex_oc ?_ (fun v2 I2 J2 h1 => ?_)
  · skip
    refine ex_ite (fun _ => ?_) (fun _ => ?_)
    · skip
      exact ex_some h
    · skip
      refine ex_oc (EX_Translator_refuse h) (fun v4 I4 J4 h2 => ?_)
      exact ex_some h2
  · skip
    refine ex_pi (EX_u h1 (by decide) (by decide)) (fun I5 h3 => ?_)
    refine ex_oc (EX_Translator_pass h3) (fun v6 I6 J6 h4 => ?_)
    exact ex_some h4
theorem EX_Translator_leave (h : EX I0 I) : ex I0 (f_Translator_leave  I J) := by
  unfold f_Translator_leave
  refine ex_pi (EX_u h (by decide) (by decide)) (fun I1 h1 => ?_)
  exact ex_some h1
theorem EX_Translator_isVariable {p1 : Int32} (h : EX I0 I) : ex I0 (f_Translator_isVariable p1 I J) := by
  unfold f_Translator_isVariable
  refine ex_ite (fun _ => ?_) (fun _ => ?_)
  · skip
    exact ex_some h
  · skip
    refine ex_ite (fun _ => ?_) (fun _ => ?_)
    · skip
      exact ex_some h
    · skip
      exact ex_some h
theorem EX_Translator_isArray {p1 : Int32} (h : EX I0 I) : ex I0 (f_Translator_isArray p1 I J) := by
  unfold f_Translator_isArray
  refine ex_ite (fun _ => ?_) (fun _ => ?_)
  · skip
    exact ex_some h
  · skip
    refine ex_ite (fun _ => ?_) (fun _ => ?_)
    · skip
      exact ex_some h
    · skip
      exact ex_some h
theorem EX_Translator_isDigit {p1 : Int32} (h : EX I0 I) : ex I0 (f_Translator_isDigit p1 I J) := by
  unfold f_Translator_isDigit
  refine ex_ite (fun _ => ?_) (fun _ => ?_)
  · skip
    exact ex_some h
  · skip
    refine ex_ite (fun _ => ?_) (fun _ => ?_)
    · skip
      exact ex_some h
    · skip
      exact ex_some h
theorem EX_Translator_variable (h : EX I0 I) : ex I0 (f_Translator_variable  I J) := by
  unfold f_Translator_variable
  refine ex_oc (EX_Translator_look h) (fun v1 I1 J1 h1 => ?_)
  refine ex_oc (EX_Translator_isVariable h1) (fun v2 I2 J2 h2 => ?_)
  refine ex_ite (fun _ => ?_) (fun _ => ?_)
  · skip
    refine ex_oc (EX_Translator_pass h2) (fun v4 I4 J4 h3 => ?_)
    exact ex_some h3
  · skip
    refine ex_oc (EX_Translator_refuse h2) (fun v5 I5 J5 h4 => ?_)
    exact ex_some h4
theorem EX_Translator_array (h : EX I0 I) : ex I0 (f_Translator_array  I J) := by
  unfold f_Translator_array
  refine ex_oc (EX_Translator_look h) (fun v1 I1 J1 h1 => ?_)
  refine ex_oc (EX_Translator_isArray h1) (fun v2 I2 J2 h2 => ?_)
  refine ex_ite (fun _ => ?_) (fun _ => ?_)
  · skip
    refine ex_oc (EX_Translator_pass h2) (fun v4 I4 J4 h3 => ?_)
    exact ex_some h3
  · skip
    refine ex_oc (EX_Translator_refuse h2) (fun v5 I5 J5 h4 => ?_)
    exact ex_some h4
theorem EX_Translator_digit (h : EX I0 I) : ex I0 (f_Translator_digit  I J) := by
  unfold f_Translator_digit
  refine ex_oc (EX_Translator_look h) (fun v1 I1 J1 h1 => ?_)
  refine ex_oc (EX_Translator_isDigit h1) (fun v2 I2 J2 h2 => ?_)
  refine ex_ite (fun _ => ?_) (fun _ => ?_)
  · skip
    refine ex_oc (EX_Translator_pass h2) (fun v4 I4 J4 h3 => ?_)
    exact ex_some h3
  · skip
    refine ex_oc (EX_Translator_refuse h2) (fun v5 I5 J5 h4 => ?_)
    exact ex_some h4
theorem EX_Translator_decider (h : EX I0 I) : ex I0 (f_Translator_decider  I J) := by
  unfold f_Translator_decider
  refine ex_oc (EX_Translator_look h) (fun v1 I1 J1 h1 => ?_)
  refine ex_pl (fun x2 => ?_)
  refine ex_oc (EX_Translator_variable h1) (fun v3 I3 J3 h2 => ?_)
  refine ex_oc (EX_Translator_wantClear h2) (fun v4 I4 J4 h3 => ?_)
  exact ex_some h3
theorem EX_Translator_emit {p2 : Int32} {p3 : Int32} {p4 : Int32} {p5 : Int32} (h : EX I0 I) : ex I0 (f_Translator_emit p2 p3 p4 p5 I J) := by
  unfold f_Translator_emit
  refine ex_oc (EX_Sh_lengthOf h) (fun v1 I1 J1 h1 => ?_)
  refine ex_oc (EX_Row_add h1) (fun v2 I2 J2 h2 => ?_)
  refine ex_oc ?_ (fun v4 I4 J4 h3 => ?_)
  · skip
    refine ex_ite (fun _ => ?_) (fun _ => ?_)
    · skip
      exact ex_some h2
    · skip
      refine ex_oc (EX_Row_add h2) (fun v6 I6 J6 h4 => ?_)
      exact ex_some h4
  · skip
    refine ex_oc ?_ (fun v8 I8 J8 h5 => ?_)
    · skip
      refine ex_ite (fun _ => ?_) (fun _ => ?_)
      · skip
        exact ex_some h3
      · skip
        refine ex_oc (EX_Row_add h3) (fun v10 I10 J10 h6 => ?_)
        exact ex_some h6
    · skip
      refine ex_ite (fun _ => ?_) (fun _ => ?_)
      · skip
        exact ex_some h5
      · skip
        refine ex_oc (EX_Row_add h5) (fun v12 I12 J12 h7 => ?_)
        exact ex_some h7
theorem EX_Translator_emitPlace {p2 : Int32} {p3 : Int32} {p4 : Int32} (h : EX I0 I) : ex I0 (f_Translator_emitPlace p2 p3 p4 I J) := by
  unfold f_Translator_emitPlace
  refine ex_ite (fun _ => ?_) (fun _ => ?_)
  · skip
    refine ex_oc (EX_Translator_emit h) (fun v2 I2 J2 h1 => ?_)
    exact ex_some h1
  · skip
    refine ex_oc (EX_Translator_emit h) (fun v3 I3 J3 h2 => ?_)
    exact ex_some h2
theorem EX_Translator_literal_4 : ∀ (fu : Nat) (l1 : Int64) (l3 : Int32) (I : MI) (J : MJ), EX I0 I → ex I0 (f_Translator_literal_4  fu l1 l3 I J) := by
  intro fu
  induction fu with
  | zero => intro l1 l3 I J h; exact ex_none
  | succ fu ih =>
    intro l1 l3 I J h
    rw [f_Translator_literal_4]
    refine ex_ite (fun _ => ?_) (fun _ => ?_)
    · skip
      exact ex_some h
    · skip
      refine ex_oc (EX_Row_at h) (fun v2 I2 J2 h1 => ?_)
      refine ex_oc (EX_Translator_isDigit h1) (fun v3 I3 J3 h2 => ?_)
      refine ex_ite (fun _ => ?_) (fun _ => ?_)
      · skip
        exact ex_some h2
      · skip
        refine ex_oc (EX_Row_at h2) (fun v5 I5 J5 h3 => ?_)
        refine ex_pl (fun x6 => ?_)
        refine ex_pi (EX_u h3 (by decide) (by decide)) (fun I7 h4 => ?_)
        exact ih _ _ _ _ h4
theorem EX_Translator_literal_77 : ∀ (fu : Nat) (l1 : Int64) (l3 : Int32) (I : MI) (J : MJ), EX I0 I → ex I0 (f_Translator_literal_77  fu l1 l3 I J) := by
  intro fu
  induction fu with
  | zero => intro l1 l3 I J h; exact ex_none
  | succ fu ih =>
    intro l1 l3 I J h
    rw [f_Translator_literal_77]
    refine ex_ite (fun _ => ?_) (fun _ => ?_)
    · skip
      exact ex_some h
    · skip
      refine ex_oc (EX_Row_add h) (fun v11 I11 J11 h1 => ?_)
      exact ih _ _ _ _ h1
theorem EX_Translator_literal (h : EX I0 I) : ex I0 (f_Translator_literal  I J) := by
  unfold f_Translator_literal
  refine ex_oc (EX_Translator_literal_4 _ _ _ _ _ h) (fun u8 I8 J8 h1 => ?_)
  refine ex_oc (EX_Row_add h1) (fun v9 I9 J9 h2 => ?_)
  refine ex_oc (EX_Translator_literal_77 _ _ _ _ _ h2) (fun u12 I12 J12 h3 => ?_)
  exact ex_some h3
theorem EX_Translator_show (h : EX I0 I) : ex I0 (f_Translator_show  I J) := by
  unfold f_Translator_show
  refine ex_oc (EX_Translator_pass h) (fun v1 I1 J1 h1 => ?_)
  refine ex_oc (EX_Translator_variable h1) (fun v2 I2 J2 h2 => ?_)
  refine ex_oc (EX_Translator_expect h2) (fun v3 I3 J3 h3 => ?_)
  refine ex_ite (fun _ => ?_) (fun _ => ?_)
  · skip
    refine ex_oc (EX_Translator_emit h3) (fun v5 I5 J5 h4 => ?_)
    exact ex_some h4
  · skip
    refine ex_oc (EX_Translator_emit h3) (fun v6 I6 J6 h5 => ?_)
    exact ex_some h5
theorem EX_Translator_input {p2 : Int32} {p3 : Int32} (h : EX I0 I) : ex I0 (f_Translator_input p2 p3 I J) := by
  unfold f_Translator_input
  refine ex_oc (EX_Translator_look h) (fun v1 I1 J1 h1 => ?_)
  refine ex_pl (fun x2 => ?_)
  refine ex_oc (EX_Translator_digit h1) (fun v3 I3 J3 h2 => ?_)
  refine ex_oc (EX_Translator_expect h2) (fun v4 I4 J4 h3 => ?_)
  refine ex_oc (EX_Translator_wantSecret h3) (fun v5 I5 J5 h4 => ?_)
  refine ex_oc ?_ (fun v7 I7 J7 h5 => ?_)
  · skip
    refine ex_ite (fun _ => ?_) (fun _ => ?_)
    · skip
      exact ex_some h4
    · skip
      refine ex_oc (EX_Translator_blame h4) (fun v9 I9 J9 h6 => ?_)
      exact ex_some h6
  · skip
    refine ex_oc (EX_Translator_emit h5) (fun v10 I10 J10 h7 => ?_)
    exact ex_some h7
theorem EX_Translator_opening {p2 : Int32} {p3 : Int32} (h : EX I0 I) : ex I0 (f_Translator_opening p2 p3 I J) := by
  unfold f_Translator_opening
  refine ex_oc (EX_Translator_look h) (fun v1 I1 J1 h1 => ?_)
  refine ex_pl (fun x2 => ?_)
  refine ex_oc (EX_Translator_variable h1) (fun v3 I3 J3 h2 => ?_)
  refine ex_oc (EX_Translator_expect h2) (fun v4 I4 J4 h3 => ?_)
  refine ex_oc (EX_Translator_wantClear h3) (fun v5 I5 J5 h4 => ?_)
  refine ex_oc (EX_Translator_wantSecret h4) (fun v6 I6 J6 h5 => ?_)
  refine ex_oc (EX_Translator_emit h5) (fun v7 I7 J7 h6 => ?_)
  exact ex_some h6
theorem EX_Translator_arrayByArray {p2 : Int32} {p3 : Int32} (h : EX I0 I) : ex I0 (f_Translator_arrayByArray p2 p3 I J) := by
  unfold f_Translator_arrayByArray
  refine ex_oc (EX_Translator_array h) (fun v1 I1 J1 h1 => ?_)
  refine ex_oc (EX_Translator_look h1) (fun v2 I2 J2 h2 => ?_)
  refine ex_oc ?_ (fun v5 I5 J5 h3 => ?_)
  · skip
    refine ex_ite (fun _ => ?_) (fun _ => ?_)
    · skip
      refine ex_oc (EX_Translator_pass h2) (fun v7 I7 J7 h4 => ?_)
      exact ex_some h4
    · skip
      refine ex_ite (fun _ => ?_) (fun _ => ?_)
      · skip
        refine ex_oc (EX_Translator_pass h2) (fun v9 I9 J9 h5 => ?_)
        exact ex_some h5
      · skip
        refine ex_ite (fun _ => ?_) (fun _ => ?_)
        · skip
          refine ex_oc (EX_Translator_refuse h2) (fun v11 I11 J11 h6 => ?_)
          exact ex_some h6
        · skip
          refine ex_oc (EX_Translator_pass h2) (fun v12 I12 J12 h7 => ?_)
          exact ex_some h7
  · skip
    refine ex_oc (EX_Translator_array h3) (fun v13 I13 J13 h8 => ?_)
    refine ex_oc (EX_Translator_expect h8) (fun v14 I14 J14 h9 => ?_)
    refine ex_oc ?_ (fun v16 I16 J16 h10 => ?_)
    · skip
      refine ex_ite (fun _ => ?_) (fun _ => ?_)
      · skip
        exact ex_some h9
      · skip
        refine ex_ite (fun _ => ?_) (fun _ => ?_)
        · skip
          refine ex_oc (EX_Translator_blame h9) (fun v19 I19 J19 h11 => ?_)
          exact ex_some h11
        · skip
          refine ex_ite (fun _ => ?_) (fun _ => ?_)
          · skip
            exact ex_some h9
          · skip
            refine ex_oc (EX_Translator_blame h9) (fun v21 I21 J21 h12 => ?_)
            exact ex_some h12
    · skip
      refine ex_pl (fun v24 => ?_)
      refine ex_oc (EX_Translator_emit h10) (fun v27 I27 J27 h13 => ?_)
      exact ex_some h13
theorem EX_Translator_finish_22 : ∀ (fu : Nat) (l1 : Int32) (I : MI) (J : MJ), EX I0 I → ex I0 (f_Translator_finish_22  fu l1 I J) := by
  intro fu
  induction fu with
  | zero => intro l1 I J h; exact ex_none
  | succ fu ih =>
    intro l1 I J h
    rw [f_Translator_finish_22]
    refine ex_ite (fun _ => ?_) (fun _ => ?_)
    · skip
      exact ex_some h
    · skip
      refine ex_ite (fun _ => ?_) (fun _ => ?_)
      · skip
        exact ex_some h
      · skip
        refine ex_ite (fun _ => ?_) (fun _ => ?_)
        · skip
          exact ex_none
        · skip
          refine ex_ite (fun _ => ?_) (fun _ => ?_)
          · skip
            exact ih _ _ _ h
          · skip
            refine ex_ite (fun _ => ?_) (fun _ => ?_)
            · skip
              exact ex_none
            · skip
              refine ex_ite (fun _ => ?_) (fun _ => ?_)
              · skip
                exact ih _ _ _ h
              · skip
                refine ex_ite (fun _ => ?_) (fun _ => ?_)
                · skip
                  exact ex_none
                · skip
                  refine ex_oc (EX_Translator_blame h) (fun v14 I14 J14 h1 => ?_)
                  exact ih _ _ _ h1
theorem EX_Translator_finish_81 : ∀ (fu : Nat) (l1 : Int32) (l2 : Int32) (I : MI) (J : MJ), EX I0 I → ex I0 (f_Translator_finish_81  fu l1 l2 I J) := by
  intro fu
  induction fu with
  | zero => intro l1 l2 I J h; exact ex_none
  | succ fu ih =>
    intro l1 l2 I J h
    rw [f_Translator_finish_81]
    refine ex_ite (fun _ => ?_) (fun _ => ?_)
    · skip
      exact ex_some h
    · skip
      refine ex_ite (fun _ => ?_) (fun _ => ?_)
      · skip
        exact ex_some h
      · skip
        refine ex_ite (fun _ => ?_) (fun _ => ?_)
        · skip
          exact ex_some h
        · skip
          refine ex_oc (EX_Row_at h) (fun v19 I19 J19 h1 => ?_)
          refine ex_oc (EX_Row_at h1) (fun v20 I20 J20 h2 => ?_)
          refine ex_oc ?_ (fun v22 I22 J22 h3 => ?_)
          · skip
            refine ex_ite (fun _ => ?_) (fun _ => ?_)
            · skip
              exact ex_some h2
            · skip
              refine ex_ite (fun _ => ?_) (fun _ => ?_)
              · skip
                exact ex_some h2
              · skip
                refine ex_ite (fun _ => ?_) (fun _ => ?_)
                · skip
                  exact ex_some h2
                · skip
                  refine ex_ite (fun _ => ?_) (fun _ => ?_)
                  · skip
                    exact ex_none
                  · skip
                    refine ex_oc (EX_Row_aim h2) (fun v27 I27 J27 h4 => ?_)
                    exact ex_some h4
          · skip
            refine ex_oc (EX_Row_at h3) (fun v28 I28 J28 h5 => ?_)
            refine ex_oc (EX_Sh_lengthOf h5) (fun v29 I29 J29 h6 => ?_)
            refine ex_pl (fun x30 => ?_)
            exact ih _ _ _ _ h6
theorem EX_Translator_finish (h : EX I0 I) : ex I0 (f_Translator_finish  I J) := by
  unfold f_Translator_finish
  refine ex_oc (EX_Translator_look h) (fun v1 I1 J1 h1 => ?_)
  refine ex_oc ?_ (fun v3 I3 J3 h2 => ?_)
  · skip
    refine ex_ite (fun _ => ?_) (fun _ => ?_)
    · skip
      exact ex_some h1
    · skip
      refine ex_oc (EX_Translator_refuse h1) (fun v5 I5 J5 h3 => ?_)
      exact ex_some h3
  · skip
    refine ex_oc (EX_Translator_emit h2) (fun v6 I6 J6 h4 => ?_)
    refine ex_oc (EX_Translator_finish_22 _ _ _ _ h4) (fun u15 I15 J15 h5 => ?_)
    refine ex_oc (EX_Translator_finish_81 _ _ _ _ _ h5) (fun u31 I31 J31 h6 => ?_)
    exact ex_some h6
theorem EX_Translator_startAnew_44 {p2 : Int32} : ∀ (fu : Nat) (l2 : Int32) (I : MI) (J : MJ), EX I0 I → ex I0 (f_Translator_startAnew_44 p2 fu l2 I J) := by
  intro fu
  induction fu with
  | zero => intro l2 I J h; exact ex_none
  | succ fu ih =>
    intro l2 I J h
    rw [f_Translator_startAnew_44]
    refine ex_ite (fun _ => ?_) (fun _ => ?_)
    · skip
      exact ex_some h
    · skip
      refine ex_ite (fun _ => ?_) (fun _ => ?_)
      · skip
        exact ex_some h
      · skip
        refine ex_ite (fun _ => ?_) (fun _ => ?_)
        · skip
          exact ex_none
        · skip
          refine ex_pi (EX_u h (by decide) (by decide)) (fun I12 h1 => ?_)
          refine ex_ite (fun _ => ?_) (fun _ => ?_)
          · skip
            exact ex_none
          · skip
            refine ex_pi (EX_u h1 (by decide) (by decide)) (fun I14 h2 => ?_)
            exact ih _ _ _ h2
theorem EX_Translator_startAnew {p2 : Int32} (h : EX I0 I) : ex I0 (f_Translator_startAnew p2 I J) := by
  unfold f_Translator_startAnew
  refine ex_pi (EX_u h (by decide) (by decide)) (fun I1 h1 => ?_)
  refine ex_pi (EX_u h1 (by decide) (by decide)) (fun I2 h2 => ?_)
  refine ex_pi (EX_u h2 (by decide) (by decide)) (fun I3 h3 => ?_)
  refine ex_pi (EX_u h3 (by decide) (by decide)) (fun I4 h4 => ?_)
  refine ex_pi (EX_u h4 (by decide) (by decide)) (fun I5 h5 => ?_)
  refine ex_pi (EX_u h5 (by decide) (by decide)) (fun I6 h6 => ?_)
  refine ex_pi (EX_u h6 (by decide) (by decide)) (fun I7 h7 => ?_)
  refine ex_oc (EX_Row_wipe h7) (fun v8 I8 J8 h8 => ?_)
  refine ex_oc (EX_Translator_startAnew_44 _ _ _ _ h8) (fun u15 I15 J15 h9 => ?_)
  exact ex_some h9
theorem EX_Translator_factor_40 {R : M3} (hR : ∀ k a b I J, EX I0 I → ex I0 (R k a b I J)) : ∀ (fu : Nat) (l1 : Int32) (l2 : Int32) (I : MI) (J : MJ), EX I0 I → ex I0 (f_Translator_factor_40 R fu l1 l2 I J) := by
  intro fu
  induction fu with
  | zero => intro l1 l2 I J h; exact ex_none
  | succ fu ih =>
    intro l1 l2 I J h
    rw [f_Translator_factor_40]
    refine ex_ite (fun _ => ?_) (fun _ => ?_)
    · skip
      exact ex_some h
    · skip
      refine ex_oc (EX_Translator_look h) (fun v5 I5 J5 h1 => ?_)
      refine ex_ite (fun _ => ?_) (fun _ => ?_)
      · skip
        exact ex_some h1
      · skip
        refine ex_oc (EX_Translator_pass h1) (fun v7 I7 J7 h2 => ?_)
        refine ex_pl (fun v9 => ?_)
        refine ex_oc (EX_Translator_emit h2) (fun v11 I11 J11 h3 => ?_)
        exact ih _ _ _ _ h3
theorem EX_Translator_product_7 {R : M3} (hR : ∀ k a b I J, EX I0 I → ex I0 (R k a b I J)) : ∀ (fu : Nat) (l1 : Int32) (l2 : Int32) (I : MI) (J : MJ), EX I0 I → ex I0 (f_Translator_product_7 R fu l1 l2 I J) := by
  intro fu
  induction fu with
  | zero => intro l1 l2 I J h; exact ex_none
  | succ fu ih =>
    intro l1 l2 I J h
    rw [f_Translator_product_7]
    refine ex_ite (fun _ => ?_) (fun _ => ?_)
    · skip
      exact ex_some h
    · skip
      refine ex_oc (EX_Translator_look h) (fun v3 I3 J3 h1 => ?_)
      refine ex_ite (fun _ => ?_) (fun _ => ?_)
      · skip
        exact ex_some h1
      · skip
        refine ex_oc (EX_Translator_pass h1) (fun v5 I5 J5 h2 => ?_)
        refine ex_oc (hR 11 _ _ _ _ h2) (fun v6 I6 J6 h3 => ?_)
        refine ex_pl (fun v8 => ?_)
        refine ex_oc (EX_Translator_emit h3) (fun v11 I11 J11 h4 => ?_)
        refine ex_pl (fun v13 => ?_)
        exact ih _ _ _ _ h4
theorem EX_Translator_expression_7 {R : M3} (hR : ∀ k a b I J, EX I0 I → ex I0 (R k a b I J)) : ∀ (fu : Nat) (l1 : Int32) (l2 : Int32) (I : MI) (J : MJ), EX I0 I → ex I0 (f_Translator_expression_7 R fu l1 l2 I J) := by
  intro fu
  induction fu with
  | zero => intro l1 l2 I J h; exact ex_none
  | succ fu ih =>
    intro l1 l2 I J h
    rw [f_Translator_expression_7]
    refine ex_ite (fun _ => ?_) (fun _ => ?_)
    · skip
      exact ex_some h
    · skip
      refine ex_oc (EX_Translator_look h) (fun v3 I3 J3 h1 => ?_)
      refine ex_ite (fun _ => ?_) (fun _ => ?_)
      · skip
        refine ex_oc (EX_Translator_look h1) (fun v5 I5 J5 h2 => ?_)
        refine ex_pl (fun v7 => ?_)
        refine ex_oc (EX_Translator_pass h2) (fun v9 I9 J9 h3 => ?_)
        refine ex_oc (hR 10 _ _ _ _ h3) (fun v10 I10 J10 h4 => ?_)
        refine ex_oc (EX_Translator_emit h4) (fun v11 I11 J11 h5 => ?_)
        refine ex_pl (fun v13 => ?_)
        exact ih _ _ _ _ h5
      · skip
        refine ex_oc (EX_Translator_look h1) (fun v16 I16 J16 h6 => ?_)
        refine ex_ite (fun _ => ?_) (fun _ => ?_)
        · skip
          exact ex_some h6
        · skip
          refine ex_oc (EX_Translator_look h6) (fun v18 I18 J18 h7 => ?_)
          refine ex_pl (fun v20 => ?_)
          refine ex_oc (EX_Translator_pass h7) (fun v22 I22 J22 h8 => ?_)
          refine ex_oc (hR 10 _ _ _ _ h8) (fun v23 I23 J23 h9 => ?_)
          refine ex_oc (EX_Translator_emit h9) (fun v24 I24 J24 h10 => ?_)
          refine ex_pl (fun v26 => ?_)
          exact ih _ _ _ _ h10
theorem EX_Translator_statements_2 {R : M3} (hR : ∀ k a b I J, EX I0 I → ex I0 (R k a b I J)) : ∀ (fu : Nat) (l1 : Int32) (I : MI) (J : MJ), EX I0 I → ex I0 (f_Translator_statements_2 R fu l1 I J) := by
  intro fu
  induction fu with
  | zero => intro l1 I J h; exact ex_none
  | succ fu ih =>
    intro l1 I J h
    rw [f_Translator_statements_2]
    refine ex_ite (fun _ => ?_) (fun _ => ?_)
    · skip
      exact ex_some h
    · skip
      refine ex_oc (hR 1 _ _ _ _ h) (fun v2 I2 J2 h1 => ?_)
      refine ex_ite (fun _ => ?_) (fun _ => ?_)
      · skip
        exact ih _ _ _ h1
      · skip
        exact ex_some h1
theorem EX_Translator_statements {R : M3} (hR : ∀ k a b I J, EX I0 I → ex I0 (R k a b I J)) (h : EX I0 I) : ex I0 (f_Translator_statements R I J) := by
  unfold f_Translator_statements
  refine ex_oc (EX_Translator_statements_2 hR _ _ _ _ h) (fun q4 I4 J4 h1 => ?_)
  refine ex_oe (fun y4 => ?_) (fun u4 => ?_)
  · skip
    exact ex_some h1
  · skip
    exact ex_some h1
theorem EX_Translator_statement {R : M3} (hR : ∀ k a b I J, EX I0 I → ex I0 (R k a b I J)) (h : EX I0 I) : ex I0 (f_Translator_statement R I J) := by
  unfold f_Translator_statement
  refine ex_oc (EX_Translator_look h) (fun v1 I1 J1 h1 => ?_)
  refine ex_oc (EX_Translator_isVariable h1) (fun v2 I2 J2 h2 => ?_)
  refine ex_ite (fun _ => ?_) (fun _ => ?_)
  · skip
    refine ex_oc (EX_Translator_isArray h2) (fun v4 I4 J4 h3 => ?_)
    refine ex_ite (fun _ => ?_) (fun _ => ?_)
    · skip
      refine ex_ite (fun _ => ?_) (fun _ => ?_)
      · skip
        refine ex_ite (fun _ => ?_) (fun _ => ?_)
        · skip
          refine ex_ite (fun _ => ?_) (fun _ => ?_)
          · skip
            refine ex_ite (fun _ => ?_) (fun _ => ?_)
            · skip
              exact ex_some h3
            · skip
              refine ex_oc (hR 8 _ _ _ _ h3) (fun v10 I10 J10 h4 => ?_)
              exact ex_some h4
          · skip
            refine ex_oc (hR 7 _ _ _ _ h3) (fun v11 I11 J11 h5 => ?_)
            exact ex_some h5
        · skip
          refine ex_oc (hR 5 _ _ _ _ h3) (fun v12 I12 J12 h6 => ?_)
          exact ex_some h6
      · skip
        refine ex_oc (EX_Translator_show h3) (fun v13 I13 J13 h7 => ?_)
        exact ex_some h7
    · skip
      refine ex_oc (hR 4 _ _ _ _ h3) (fun v14 I14 J14 h8 => ?_)
      exact ex_some h8
  · skip
    refine ex_oc (hR 2 _ _ _ _ h2) (fun v15 I15 J15 h9 => ?_)
    exact ex_some h9
theorem EX_Translator_variableStatement {R : M3} {p2 : Int32} {p3 : Int32} (hR : ∀ k a b I J, EX I0 I → ex I0 (R k a b I J)) (h : EX I0 I) : ex I0 (f_Translator_variableStatement R p2 p3 I J) := by
  unfold f_Translator_variableStatement
  refine ex_oc (EX_Translator_pass h) (fun v1 I1 J1 h1 => ?_)
  refine ex_oc (EX_Translator_look h1) (fun v2 I2 J2 h2 => ?_)
  refine ex_ite (fun _ => ?_) (fun _ => ?_)
  · skip
    refine ex_ite (fun _ => ?_) (fun _ => ?_)
    · skip
      refine ex_ite (fun _ => ?_) (fun _ => ?_)
      · skip
        refine ex_ite (fun _ => ?_) (fun _ => ?_)
        · skip
          refine ex_oc (EX_Translator_refuse h2) (fun v7 I7 J7 h3 => ?_)
          exact ex_some h3
        · skip
          refine ex_oc (EX_Translator_pass h2) (fun v8 I8 J8 h4 => ?_)
          refine ex_oc (EX_Translator_expect h4) (fun v9 I9 J9 h5 => ?_)
          refine ex_oc (EX_Translator_wantSecret h5) (fun v10 I10 J10 h6 => ?_)
          refine ex_oc (EX_Translator_emit h6) (fun v11 I11 J11 h7 => ?_)
          exact ex_some h7
      · skip
        refine ex_oc (EX_Translator_pass h2) (fun v12 I12 J12 h8 => ?_)
        refine ex_oc (EX_Translator_opening h8) (fun v13 I13 J13 h9 => ?_)
        exact ex_some h9
    · skip
      refine ex_oc (EX_Translator_pass h2) (fun v14 I14 J14 h10 => ?_)
      refine ex_oc (EX_Translator_input h10) (fun v15 I15 J15 h11 => ?_)
      exact ex_some h11
  · skip
    refine ex_oc (EX_Translator_pass h2) (fun v16 I16 J16 h12 => ?_)
    refine ex_oc (hR 3 _ _ _ _ h12) (fun v17 I17 J17 h13 => ?_)
    exact ex_some h13
theorem EX_Translator_assign {R : M3} {p2 : Int32} {p3 : Int32} (hR : ∀ k a b I J, EX I0 I → ex I0 (R k a b I J)) (h : EX I0 I) : ex I0 (f_Translator_assign R p2 p3 I J) := by
  unfold f_Translator_assign
  refine ex_oc (EX_Translator_look h) (fun v1 I1 J1 h1 => ?_)
  refine ex_oc (EX_Translator_isArray h1) (fun v2 I2 J2 h2 => ?_)
  refine ex_ite (fun _ => ?_) (fun _ => ?_)
  · skip
    refine ex_oc (hR 9 _ _ _ _ h2) (fun v4 I4 J4 h3 => ?_)
    refine ex_oc (EX_Translator_expect h3) (fun v5 I5 J5 h4 => ?_)
    refine ex_ite (fun _ => ?_) (fun _ => ?_)
    · skip
      refine ex_oc ?_ (fun v8 I8 J8 h5 => ?_)
      · skip
        refine ex_ite (fun _ => ?_) (fun _ => ?_)
        · skip
          exact ex_some h4
        · skip
          refine ex_oc (EX_Translator_blame h4) (fun v10 I10 J10 h6 => ?_)
          exact ex_some h6
      · skip
        refine ex_oc (EX_Translator_emit h5) (fun v11 I11 J11 h7 => ?_)
        exact ex_some h7
    · skip
      refine ex_oc (EX_Translator_emit h4) (fun v12 I12 J12 h8 => ?_)
      exact ex_some h8
  · skip
    refine ex_oc (EX_Translator_behindNext h2) (fun v13 I13 J13 h9 => ?_)
    refine ex_ite (fun _ => ?_) (fun _ => ?_)
    · skip
      refine ex_oc (hR 9 _ _ _ _ h9) (fun v15 I15 J15 h10 => ?_)
      refine ex_oc (EX_Translator_expect h10) (fun v16 I16 J16 h11 => ?_)
      refine ex_ite (fun _ => ?_) (fun _ => ?_)
      · skip
        refine ex_oc ?_ (fun v19 I19 J19 h12 => ?_)
        · skip
          refine ex_ite (fun _ => ?_) (fun _ => ?_)
          · skip
            exact ex_some h11
          · skip
            refine ex_oc (EX_Translator_blame h11) (fun v21 I21 J21 h13 => ?_)
            exact ex_some h13
        · skip
          refine ex_oc (EX_Translator_emit h12) (fun v22 I22 J22 h14 => ?_)
          exact ex_some h14
      · skip
        refine ex_oc (EX_Translator_emit h11) (fun v23 I23 J23 h15 => ?_)
        exact ex_some h15
    · skip
      refine ex_oc (EX_Translator_array h9) (fun v24 I24 J24 h16 => ?_)
      refine ex_oc (EX_Translator_expect h16) (fun v25 I25 J25 h17 => ?_)
      refine ex_oc (EX_Translator_array h17) (fun v26 I26 J26 h18 => ?_)
      refine ex_oc (EX_Translator_expect h18) (fun v27 I27 J27 h19 => ?_)
      refine ex_oc (EX_Translator_wantSecret h19) (fun v28 I28 J28 h20 => ?_)
      refine ex_oc (EX_Translator_emit h20) (fun v29 I29 J29 h21 => ?_)
      refine ex_oc (EX_Translator_emit h21) (fun v30 I30 J30 h22 => ?_)
      exact ex_some h22
theorem EX_Translator_arrayStatement {R : M3} {p2 : Int32} {p3 : Int32} (hR : ∀ k a b I J, EX I0 I → ex I0 (R k a b I J)) (h : EX I0 I) : ex I0 (f_Translator_arrayStatement R p2 p3 I J) := by
  unfold f_Translator_arrayStatement
  refine ex_oc (EX_Translator_pass h) (fun v1 I1 J1 h1 => ?_)
  refine ex_oc (EX_Translator_look h1) (fun v2 I2 J2 h2 => ?_)
  refine ex_ite (fun _ => ?_) (fun _ => ?_)
  · skip
    refine ex_ite (fun _ => ?_) (fun _ => ?_)
    · skip
      refine ex_oc (EX_Translator_refuse h2) (fun v5 I5 J5 h3 => ?_)
      exact ex_some h3
    · skip
      refine ex_oc (EX_Translator_pass h2) (fun v6 I6 J6 h4 => ?_)
      refine ex_oc (EX_Translator_arrayByArray h4) (fun v7 I7 J7 h5 => ?_)
      exact ex_some h5
  · skip
    refine ex_oc (hR 13 _ _ _ _ h2) (fun v8 I8 J8 h6 => ?_)
    refine ex_oc (EX_Translator_expect h6) (fun v9 I9 J9 h7 => ?_)
    refine ex_oc (hR 9 _ _ _ _ h7) (fun v10 I10 J10 h8 => ?_)
    refine ex_oc (EX_Translator_expect h8) (fun v11 I11 J11 h9 => ?_)
    refine ex_oc ?_ (fun v13 I13 J13 h10 => ?_)
    · skip
      refine ex_ite (fun _ => ?_) (fun _ => ?_)
      · skip
        exact ex_some h9
      · skip
        refine ex_ite (fun _ => ?_) (fun _ => ?_)
        · skip
          exact ex_some h9
        · skip
          refine ex_oc (EX_Translator_blame h9) (fun v16 I16 J16 h11 => ?_)
          exact ex_some h11
    · skip
      refine ex_oc (EX_Translator_emitPlace h10) (fun v17 I17 J17 h12 => ?_)
      exact ex_some h12
theorem EX_Translator_routine {R : M3} {p2 : Int32} (hR : ∀ k a b I J, EX I0 I → ex I0 (R k a b I J)) (h : EX I0 I) : ex I0 (f_Translator_routine R p2 I J) := by
  unfold f_Translator_routine
  refine ex_oc (EX_Translator_pass h) (fun v1 I1 J1 h1 => ?_)
  refine ex_oc (EX_Translator_digit h1) (fun v2 I2 J2 h2 => ?_)
  refine ex_oc (EX_Translator_look h2) (fun v3 I3 J3 h3 => ?_)
  refine ex_ite (fun _ => ?_) (fun _ => ?_)
  · skip
    refine ex_oc (EX_Translator_expect h3) (fun v5 I5 J5 h4 => ?_)
    refine ex_oc ?_ (fun v7 I7 J7 h5 => ?_)
    · skip
      refine ex_ite (fun _ => ?_) (fun _ => ?_)
      · skip
        exact ex_some h4
      · skip
        refine ex_ite (fun _ => ?_) (fun _ => ?_)
        · skip
          exact ex_none
        · skip
          refine ex_ite (fun _ => ?_) (fun _ => ?_)
          · skip
            exact ex_some h4
          · skip
            refine ex_ite (fun _ => ?_) (fun _ => ?_)
            · skip
              exact ex_none
            · skip
              refine ex_pi (EX_u h4 (by decide) (by decide)) (fun I12 h6 => ?_)
              exact ex_some h6
    · skip
      refine ex_oc (EX_Translator_emit h5) (fun v13 I13 J13 h7 => ?_)
      exact ex_some h7
  · skip
    refine ex_ite (fun _ => ?_) (fun _ => ?_)
    · skip
      refine ex_oc (EX_Translator_expect h3) (fun v15 I15 J15 h8 => ?_)
      refine ex_oc ?_ (fun v17 I17 J17 h9 => ?_)
      · skip
        refine ex_ite (fun _ => ?_) (fun _ => ?_)
        · skip
          exact ex_some h8
        · skip
          refine ex_ite (fun _ => ?_) (fun _ => ?_)
          · skip
            exact ex_none
          · skip
            refine ex_ite (fun _ => ?_) (fun _ => ?_)
            · skip
              exact ex_some h8
            · skip
              refine ex_ite (fun _ => ?_) (fun _ => ?_)
              · skip
                exact ex_none
              · skip
                refine ex_pi (EX_u h8 (by decide) (by decide)) (fun I22 h10 => ?_)
                exact ex_some h10
      · skip
        refine ex_oc (EX_Translator_emit h9) (fun v23 I23 J23 h11 => ?_)
        exact ex_some h11
    · skip
      refine ex_oc (hR 6 _ _ _ _ h3) (fun v24 I24 J24 h12 => ?_)
      exact ex_some h12
theorem EX_Translator_tell {R : M3} {p2 : Int32} {p3 : Int32} (hR : ∀ k a b I J, EX I0 I → ex I0 (R k a b I J)) (h : EX I0 I) : ex I0 (f_Translator_tell R p2 p3 I J) := by
  unfold f_Translator_tell
  refine ex_oc (EX_Translator_pass h) (fun v1 I1 J1 h1 => ?_)
  refine ex_pi (EX_u h1 (by decide) (by decide)) (fun I2 h2 => ?_)
  refine ex_pl (fun x3 => ?_)
  refine ex_oc (EX_Translator_emit h2) (fun v4 I4 J4 h3 => ?_)
  refine ex_oc ?_ (fun v6 I6 J6 h4 => ?_)
  · skip
    refine ex_ite (fun _ => ?_) (fun _ => ?_)
    · skip
      exact ex_some h3
    · skip
      refine ex_ite (fun _ => ?_) (fun _ => ?_)
      · skip
        exact ex_none
      · skip
        refine ex_oc ?_ (fun v10 I10 J10 h5 => ?_)
        · skip
          refine ex_ite (fun _ => ?_) (fun _ => ?_)
          · skip
            exact ex_some h3
          · skip
            refine ex_oc (EX_Translator_blame h3) (fun v12 I12 J12 h6 => ?_)
            exact ex_some h6
        · skip
          refine ex_ite (fun _ => ?_) (fun _ => ?_)
          · skip
            exact ex_none
          · skip
            refine ex_pi (EX_u h5 (by decide) (by decide)) (fun I14 h7 => ?_)
            exact ex_some h7
  · skip
    refine ex_oc (hR 0 _ _ _ _ h4) (fun v15 I15 J15 h8 => ?_)
    refine ex_oc (EX_Translator_expect h8) (fun v16 I16 J16 h9 => ?_)
    refine ex_pi (EX_u h9 (by decide) (by decide)) (fun I17 h10 => ?_)
    refine ex_oc (EX_Translator_emit h10) (fun v18 I18 J18 h11 => ?_)
    refine ex_oc (EX_Row_aim h11) (fun v19 I19 J19 h12 => ?_)
    exact ex_some h12
theorem EX_Translator_choice {R : M3} (hR : ∀ k a b I J, EX I0 I → ex I0 (R k a b I J)) (h : EX I0 I) : ex I0 (f_Translator_choice R I J) := by
  unfold f_Translator_choice
  refine ex_oc (EX_Translator_enter h) (fun v1 I1 J1 h1 => ?_)
  refine ex_oc (EX_Translator_decider h1) (fun v2 I2 J2 h2 => ?_)
  refine ex_oc (EX_Translator_expect h2) (fun v3 I3 J3 h3 => ?_)
  refine ex_pi (EX_u h3 (by decide) (by decide)) (fun I4 h4 => ?_)
  refine ex_pl (fun x5 => ?_)
  refine ex_oc (EX_Translator_emit h4) (fun v6 I6 J6 h5 => ?_)
  refine ex_oc (hR 0 _ _ _ _ h5) (fun v7 I7 J7 h6 => ?_)
  refine ex_oc (EX_Translator_expect h6) (fun v8 I8 J8 h7 => ?_)
  refine ex_pl (fun x9 => ?_)
  refine ex_oc (EX_Translator_emit h7) (fun v10 I10 J10 h8 => ?_)
  refine ex_oc (EX_Row_aim h8) (fun v11 I11 J11 h9 => ?_)
  refine ex_oc (hR 0 _ _ _ _ h9) (fun v12 I12 J12 h10 => ?_)
  refine ex_oc (EX_Translator_expect h10) (fun v13 I13 J13 h11 => ?_)
  refine ex_pi (EX_u h11 (by decide) (by decide)) (fun I14 h12 => ?_)
  refine ex_oc (EX_Translator_leave h12) (fun v15 I15 J15 h13 => ?_)
  refine ex_oc (EX_Row_aim h13) (fun v16 I16 J16 h14 => ?_)
  exact ex_some h14
theorem EX_Translator_loop {R : M3} (hR : ∀ k a b I J, EX I0 I → ex I0 (R k a b I J)) (h : EX I0 I) : ex I0 (f_Translator_loop R I J) := by
  unfold f_Translator_loop
  refine ex_oc (EX_Translator_enter h) (fun v1 I1 J1 h1 => ?_)
  refine ex_oc (EX_Translator_decider h1) (fun v2 I2 J2 h2 => ?_)
  refine ex_oc (EX_Translator_expect h2) (fun v3 I3 J3 h3 => ?_)
  refine ex_pi (EX_u h3 (by decide) (by decide)) (fun I4 h4 => ?_)
  refine ex_pl (fun x5 => ?_)
  refine ex_oc (EX_Translator_emit h4) (fun v6 I6 J6 h5 => ?_)
  refine ex_oc (hR 0 _ _ _ _ h5) (fun v7 I7 J7 h6 => ?_)
  refine ex_oc (EX_Translator_expect h6) (fun v8 I8 J8 h7 => ?_)
  refine ex_pi (EX_u h7 (by decide) (by decide)) (fun I9 h8 => ?_)
  refine ex_oc (EX_Translator_leave h8) (fun v10 I10 J10 h9 => ?_)
  refine ex_pl (fun x11 => ?_)
  refine ex_oc (EX_Translator_emit h9) (fun v12 I12 J12 h10 => ?_)
  refine ex_oc (EX_Row_aim h10) (fun v13 I13 J13 h11 => ?_)
  refine ex_oc (EX_Row_aim h11) (fun v14 I14 J14 h12 => ?_)
  exact ex_some h12
theorem EX_Translator_expression {R : M3} (hR : ∀ k a b I J, EX I0 I → ex I0 (R k a b I J)) (h : EX I0 I) : ex I0 (f_Translator_expression R I J) := by
  unfold f_Translator_expression
  refine ex_oc (hR 10 _ _ _ _ h) (fun v1 I1 J1 h1 => ?_)
  refine ex_oc (EX_Translator_expression_7 hR _ _ _ _ _ h1) (fun u29 I29 J29 h2 => ?_)
  refine ex_ite (fun _ => ?_) (fun _ => ?_)
  · skip
    exact ex_some h2
  · skip
    exact ex_none
theorem EX_Translator_product {R : M3} (hR : ∀ k a b I J, EX I0 I → ex I0 (R k a b I J)) (h : EX I0 I) : ex I0 (f_Translator_product R I J) := by
  unfold f_Translator_product
  refine ex_oc (hR 11 _ _ _ _ h) (fun v1 I1 J1 h1 => ?_)
  refine ex_oc (EX_Translator_product_7 hR _ _ _ _ _ h1) (fun u16 I16 J16 h2 => ?_)
  refine ex_ite (fun _ => ?_) (fun _ => ?_)
  · skip
    exact ex_some h2
  · skip
    exact ex_none
theorem EX_Translator_factor {R : M3} (hR : ∀ k a b I J, EX I0 I → ex I0 (R k a b I J)) (h : EX I0 I) : ex I0 (f_Translator_factor R I J) := by
  unfold f_Translator_factor
  refine ex_oc (EX_Translator_look h) (fun v1 I1 J1 h1 => ?_)
  refine ex_ite (fun _ => ?_) (fun _ => ?_)
  · skip
    refine ex_oc (hR 12 _ _ _ _ h1) (fun v3 I3 J3 h2 => ?_)
    refine ex_oc (EX_Translator_factor_40 hR _ _ _ _ _ h2) (fun u12 I12 J12 h3 => ?_)
    refine ex_ite (fun _ => ?_) (fun _ => ?_)
    · skip
      exact ex_some h3
    · skip
      exact ex_none
  · skip
    refine ex_oc (EX_Translator_enter h1) (fun v14 I14 J14 h4 => ?_)
    refine ex_oc (hR 11 _ _ _ _ h4) (fun v15 I15 J15 h5 => ?_)
    refine ex_oc (EX_Translator_leave h5) (fun v16 I16 J16 h6 => ?_)
    refine ex_oc (EX_Translator_emit h6) (fun v17 I17 J17 h7 => ?_)
    refine ex_ite (fun _ => ?_) (fun _ => ?_)
    · skip
      exact ex_some h7
    · skip
      exact ex_none
theorem EX_Translator_atom {R : M3} (hR : ∀ k a b I J, EX I0 I → ex I0 (R k a b I J)) (h : EX I0 I) : ex I0 (f_Translator_atom R I J) := by
  unfold f_Translator_atom
  refine ex_oc (EX_Translator_look h) (fun v1 I1 J1 h1 => ?_)
  refine ex_oc (EX_Translator_isVariable h1) (fun v2 I2 J2 h2 => ?_)
  refine ex_ite (fun _ => ?_) (fun _ => ?_)
  · skip
    refine ex_oc (EX_Translator_isArray h2) (fun v4 I4 J4 h3 => ?_)
    refine ex_ite (fun _ => ?_) (fun _ => ?_)
    · skip
      refine ex_ite (fun _ => ?_) (fun _ => ?_)
      · skip
        refine ex_oc (EX_Translator_isDigit h3) (fun v7 I7 J7 h4 => ?_)
        refine ex_ite (fun _ => ?_) (fun _ => ?_)
        · skip
          refine ex_oc (EX_Translator_refuse h4) (fun v9 I9 J9 h5 => ?_)
          exact ex_some h5
        · skip
          refine ex_oc (EX_Translator_literal h4) (fun v10 I10 J10 h6 => ?_)
          exact ex_some h6
      · skip
        refine ex_oc (EX_Translator_enter h3) (fun v11 I11 J11 h7 => ?_)
        refine ex_oc (hR 9 _ _ _ _ h7) (fun v12 I12 J12 h8 => ?_)
        refine ex_oc (EX_Translator_expect h8) (fun v13 I13 J13 h9 => ?_)
        refine ex_oc (EX_Translator_leave h9) (fun v14 I14 J14 h10 => ?_)
        refine ex_ite (fun _ => ?_) (fun _ => ?_)
        · skip
          exact ex_some h10
        · skip
          exact ex_none
    · skip
      refine ex_oc (EX_Translator_pass h3) (fun v16 I16 J16 h11 => ?_)
      refine ex_oc (hR 13 _ _ _ _ h11) (fun v17 I17 J17 h12 => ?_)
      refine ex_oc (EX_Translator_emitPlace h12) (fun v18 I18 J18 h13 => ?_)
      refine ex_ite (fun _ => ?_) (fun _ => ?_)
      · skip
        exact ex_some h13
      · skip
        exact ex_some h13
  · skip
    refine ex_oc (EX_Translator_pass h2) (fun v20 I20 J20 h14 => ?_)
    refine ex_pl (fun x21 => ?_)
    refine ex_pl (fun v23 => ?_)
    refine ex_pl (fun v26 => ?_)
    refine ex_oc (EX_Translator_emit h14) (fun v28 I28 J28 h15 => ?_)
    refine ex_ite (fun _ => ?_) (fun _ => ?_)
    · skip
      exact ex_some h15
    · skip
      exact ex_some h15
theorem EX_Translator_index {R : M3} (hR : ∀ k a b I J, EX I0 I → ex I0 (R k a b I J)) (h : EX I0 I) : ex I0 (f_Translator_index R I J) := by
  unfold f_Translator_index
  refine ex_oc (EX_Translator_look h) (fun v1 I1 J1 h1 => ?_)
  refine ex_oc ?_ (fun v3 I3 J3 h2 => ?_)
  · skip
    refine ex_ite (fun _ => ?_) (fun _ => ?_)
    · skip
      exact ex_some h1
    · skip
      refine ex_oc (EX_Translator_refuse h1) (fun v5 I5 J5 h3 => ?_)
      exact ex_some h3
  · skip
    refine ex_pl (fun x6 => ?_)
    refine ex_oc (EX_Translator_enter h2) (fun v7 I7 J7 h4 => ?_)
    refine ex_oc (hR 9 _ _ _ _ h4) (fun v8 I8 J8 h5 => ?_)
    refine ex_oc (EX_Translator_expect h5) (fun v9 I9 J9 h6 => ?_)
    refine ex_oc (EX_Translator_leave h6) (fun v10 I10 J10 h7 => ?_)
    refine ex_ite (fun _ => ?_) (fun _ => ?_)
    · skip
      exact ex_some h7
    · skip
      refine ex_oc (EX_Translator_blame h7) (fun v12 I12 J12 h8 => ?_)
      exact ex_some h8
theorem EXT_all : ∀ (fu k : Nat) (a b : Int32) (I : MI) (J : MJ), EX I0 I → ex I0 (f_RcT fu k a b I J) := by
  intro fu
  induction fu with
  | zero => intro k a b I J h; exact ex_none
  | succ fu ih =>
    intro k a b I J h
    have cb : ∀ {α : Type} {c : Bool} {x y : M2 α}, ex I0 x → ex I0 y → ex I0 (bif c then x else y) := by
      intro α c x y hx hy
      cases c with
      | true => exact hx
      | false => exact hy
    unfold f_RcT
    refine cb (ex_oc (EX_Translator_statements ih h) (fun _ _ _ h => ex_some h)) ?_
    refine cb (EX_Translator_statement ih h) ?_
    refine cb (ex_oc (EX_Translator_variableStatement ih h) (fun _ _ _ h => ex_some h)) ?_
    refine cb (ex_oc (EX_Translator_assign ih h) (fun _ _ _ h => ex_some h)) ?_
    refine cb (ex_oc (EX_Translator_arrayStatement ih h) (fun _ _ _ h => ex_some h)) ?_
    refine cb (ex_oc (EX_Translator_routine ih h) (fun _ _ _ h => ex_some h)) ?_
    refine cb (ex_oc (EX_Translator_tell ih h) (fun _ _ _ h => ex_some h)) ?_
    refine cb (ex_oc (EX_Translator_choice ih h) (fun _ _ _ h => ex_some h)) ?_
    refine cb (ex_oc (EX_Translator_loop ih h) (fun _ _ _ h => ex_some h)) ?_
    refine cb (EX_Translator_expression ih h) ?_
    refine cb (EX_Translator_product ih h) ?_
    refine cb (EX_Translator_factor ih h) ?_
    refine cb (EX_Translator_atom ih h) ?_
    exact cb (ex_oc (EX_Translator_index ih h) (fun _ _ _ h => ex_some h)) ex_none
end EXS
