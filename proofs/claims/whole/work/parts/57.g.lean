/-! compile: without a fault there is no place of one (wip/whole/tools/gen57g.py) -/
def EP (I : MI) : Prop := I 3 9 = 0 → I 3 10 = 0
def ep {α : Type} (r : M2 α) : Prop := ∀ v I' J', r = some (v, I', J') → EP I'
section EPS
variable {I0 I : MI} {J : MJ} {α β γ : Type}
theorem ep_none : ep (none : M2 α) := fun _ _ _ h => by cases h
theorem ep_some {v : α} (h : EP I) : ep (some (v, I, J)) := fun _ _ _ e => by
  obtain ⟨rfl, rfl, rfl⟩ := s_inj e
  exact h
theorem ep_oc {x : M2 α} {f : α → MI → MJ → M2 β} (h : ep x) (k : ∀ v I1 J1, EP I1 → ep (f v I1 J1)) : ep (oc x f) := by
  intro v I' J' e
  obtain ⟨u, I1, J1, e1, e2⟩ := oc_call e
  exact k u I1 J1 (h u I1 J1 e1) v I' J' e2
theorem ep_pl {a : α} {f : α → M2 β} (h : ∀ x, ep (f x)) : ep (pl a f) := h a
theorem ep_pi {I1 : MI} {f : MI → M2 β} (h : EP I1) (k : ∀ I2, EP I2 → ep (f I2)) : ep (pl I1 f) := k _ h
theorem ep_ite {c : Prop} [Decidable c] {a b : M2 α} (h1 : c → ep a) (h2 : ¬ c → ep b) : ep (if c then a else b) := by
  by_cases q : c
  · rw [if_pos q]; exact h1 q
  · rw [if_neg q]; exact h2 q
theorem ep_oe {q : α ⊕ β} {f : α → M2 γ} {g : β → M2 γ} (h1 : ∀ y, ep (f y)) (h2 : ∀ y, ep (g y)) : ep (oe q f g) := by
  cases q with
  | inl y => exact h1 y
  | inr y => exact h2 y
theorem EP_o {a : Nat} {w : Nat → Int32} (h : EP I) (h1 : a ≠ 3) : EP (va_up I a w) := by
  unfold EP
  rw [va_up_ne _ _ (Ne.symm h1)]
  exact h
theorem EP_u {j : Nat} {x : Int32} (h : EP I) (h1 : j ≠ 9) (h2 : j ≠ 10) : EP (va_up I 3 (upd (I 3) j x)) := by
  unfold EP
  rw [va_up_self, upd_n _ _ (Ne.symm h1), upd_n _ _ (Ne.symm h2)]
  exact h
theorem EP_x {x y : Int32} (h : ¬ x = 0) : EP (va_up (va_up I 3 (upd (I 3) 9 x)) 3 (upd ((va_up I 3 (upd (I 3) 9 x)) 3) 10 y)) := by
  unfold EP
  rw [va_up_self, va_up_self, upd_n _ _ (by decide), upd_s]
  exact fun e => absurd e h
theorem EP_Row_at {r b m : Nat} {p : Int32} (h : EP I) : ep (f_Row_at r b m p I J) := by
  unfold f_Row_at
  exact ep_ite (fun _ => ep_some h) (fun _ => ep_ite (fun _ => ep_some h) (fun _ => ep_ite (fun _ => ep_some h) (fun _ => ep_ite (fun _ => ep_none) (fun _ => ep_some h))))
theorem EP_Row_add {p : Int32} (h : EP I) : ep (f_Row_add 6 7 2000 p I J) := by
  unfold f_Row_add
  exact ep_ite (fun _ => ep_some h) (fun _ => ep_ite (fun _ => ep_none) (fun _ => ep_pi (EP_o h (by decide)) (fun _ h => ep_pi (EP_o h (by decide)) (fun _ h => ep_some h))))
theorem EP_Row_change {x p : Int32} (h : EP I) : ep (f_Row_change 6 7 2000 x p I J) := by
  unfold f_Row_change
  exact ep_ite (fun _ => ep_some h) (fun _ => ep_ite (fun _ => ep_some h) (fun _ => ep_ite (fun _ => ep_some h) (fun _ => ep_ite (fun _ => ep_none) (fun _ => ep_pi (EP_o h (by decide)) (fun _ h => ep_some h)))))
theorem EP_Row_aim {x p : Int32} (h : EP I) : ep (f_Row_aim 6 7 2000 x p I J) := by
  unfold f_Row_aim
  exact ep_oc (EP_Row_change h) (fun _ _ _ h => ep_oc (EP_Row_change h) (fun _ _ _ h => ep_some h))
theorem EP_Row_wipe (h : EP I) : ep (f_Row_wipe 6 7 2000 I J) := by
  unfold f_Row_wipe
  exact ep_pi (EP_o h (by decide)) (fun _ h => ep_some h)
theorem EP_Sh_lengthOf {p : Int32} (h : EP I) : ep (f_Sh_lengthOf p I J) := by
  unfold f_Sh_lengthOf
  exact ep_ite (fun _ => ep_some h) (fun _ => ep_ite (fun _ => ep_some h) (fun _ => ep_ite (fun _ => ep_none) (fun _ => ep_some h)))
theorem EP_Translator_refuse (h : EP I) : ep (f_Translator_refuse I J) := by
  unfold f_Translator_refuse
  refine ep_ite (fun _ => ?_) (fun _ => ?_)
  · first
      | exact ep_some h
      | exact ep_pi (EP_u h (by decide) (by decide)) (fun I1 h1 => by rw [pl_eq, pl_eq]; exact ep_some (EP_x (by decide)))
  · first
      | exact ep_some h
      | exact ep_pi (EP_u h (by decide) (by decide)) (fun I1 h1 => by rw [pl_eq, pl_eq]; exact ep_some (EP_x (by decide)))
theorem EP_Translator_blame {a b : Int32} (ha : ¬ a = 0) (h : EP I) : ep (f_Translator_blame a b I J) := by
  have up : ep (pl (va_up I 3 (upd (I 3) 9 a)) (fun I2 => pl (va_up I2 3 (upd (I2 3) 10 b)) (fun I3 => some ((), I3, J))) : M2 Unit) := by
    rw [pl_eq, pl_eq]
    exact ep_some (EP_x ha)
  unfold f_Translator_blame
  repeat (first
    | exact up
    | exact ep_some h
    | refine ep_ite (fun _ => ?_) (fun _ => ?_))
theorem EP_Translator_look_2 : ∀ (fu : Nat) (l1 : Int32) (I : MI) (J : MJ), EP I → ep (f_Translator_look_2  fu l1 I J) := by
  intro fu
  induction fu with
  | zero => intro l1 I J h; exact ep_none
  | succ fu ih =>
    intro l1 I J h
    rw [f_Translator_look_2]
    refine ep_ite (fun _ => ?_) (fun _ => ?_)
    · skip
      exact ep_some h
    · skip
      refine ep_oc (EP_Row_at h) (fun v2 I2 J2 h1 => ?_)
      refine ep_ite (fun _ => ?_) (fun _ => ?_)
      · skip
        exact ep_some h1
      · skip
        refine ep_pi (EP_u h1 (by decide) (by decide)) (fun I4 h2 => ?_)
        exact ih _ _ _ h2
theorem EP_Translator_look (h : EP I) : ep (f_Translator_look  I J) := by
  unfold f_Translator_look
  refine ep_oc (EP_Translator_look_2 _ _ _ _ h) (fun u5 I5 J5 h1 => ?_)
  refine ep_ite (fun _ => ?_) (fun _ => ?_)
  · skip
    refine ep_oc (EP_Row_at h1) (fun v7 I7 J7 h2 => ?_)
    exact ep_some h2
  · skip
    exact ep_some h1
theorem EP_Translator_behindNext_9 : ∀ (fu : Nat) (l1 : Int32) (l2 : Int32) (I : MI) (J : MJ), EP I → ep (f_Translator_behindNext_9  fu l1 l2 I J) := by
  intro fu
  induction fu with
  | zero => intro l1 l2 I J h; exact ep_none
  | succ fu ih =>
    intro l1 l2 I J h
    rw [f_Translator_behindNext_9]
    refine ep_ite (fun _ => ?_) (fun _ => ?_)
    · skip
      exact ep_some h
    · skip
      refine ep_oc (EP_Row_at h) (fun v3 I3 J3 h1 => ?_)
      refine ep_ite (fun _ => ?_) (fun _ => ?_)
      · skip
        exact ep_some h1
      · skip
        exact ih _ _ _ _ h1
theorem EP_Translator_behindNext (h : EP I) : ep (f_Translator_behindNext  I J) := by
  unfold f_Translator_behindNext
  refine ep_pl (fun x1 => ?_)
  refine ep_oc (EP_Translator_behindNext_9 _ _ _ _ _ h) (fun u5 I5 J5 h1 => ?_)
  refine ep_oc (EP_Row_at h1) (fun v6 I6 J6 h2 => ?_)
  exact ep_some h2
theorem EP_Translator_pass (h : EP I) : ep (f_Translator_pass  I J) := by
  unfold f_Translator_pass
  refine ep_ite (fun _ => ?_) (fun _ => ?_)
  · skip
    exact ep_some h
  · skip
    refine ep_pi (EP_u h (by decide) (by decide)) (fun I2 h1 => ?_)
    exact ep_some h1
theorem EP_Translator_wantClear {p2 : Int32} {p3 : Int32} (h : EP I) : ep (f_Translator_wantClear p2 p3 I J) := by
  unfold f_Translator_wantClear
  refine ep_ite (fun _ => ?_) (fun _ => ?_)
  · skip
    exact ep_some h
  · skip
    refine ep_oc (EP_Translator_blame (by decide) h) (fun v2 I2 J2 h1 => ?_)
    exact ep_some h1
theorem EP_Translator_wantSecret {p2 : Int32} {p3 : Int32} (h : EP I) : ep (f_Translator_wantSecret p2 p3 I J) := by
  unfold f_Translator_wantSecret
  refine ep_ite (fun _ => ?_) (fun _ => ?_)
  · skip
    exact ep_some h
  · skip
    refine ep_oc (EP_Translator_blame (by decide) h) (fun v2 I2 J2 h1 => ?_)
    exact ep_some h1
theorem EP_Translator_expect {p2 : Int32} (h : EP I) : ep (f_Translator_expect p2 I J) := by
  unfold f_Translator_expect
  refine ep_oc (EP_Translator_look h) (fun v1 I1 J1 h1 => ?_)
  refine ep_ite (fun _ => ?_) (fun _ => ?_)
  · skip
    refine ep_oc (EP_Translator_refuse h1) (fun v3 I3 J3 h2 => ?_)
    exact ep_some h2
  · skip
    refine ep_oc (EP_Translator_pass h1) (fun v4 I4 J4 h3 => ?_)
    exact ep_some h3
theorem EP_Translator_enter (h : EP I) : ep (f_Translator_enter  I J) := by
  unfold f_Translator_enter
  refine ep_oc ?_ (fun v2 I2 J2 h1 => ?_)
  · skip
    refine ep_ite (fun _ => ?_) (fun _ => ?_)
    · skip
      exact ep_some h
    · skip
      refine ep_oc (EP_Translator_refuse h) (fun v4 I4 J4 h2 => ?_)
      exact ep_some h2
  · skip
    refine ep_pi (EP_u h1 (by decide) (by decide)) (fun I5 h3 => ?_)
    refine ep_oc (EP_Translator_pass h3) (fun v6 I6 J6 h4 => ?_)
    exact ep_some h4
theorem EP_Translator_leave (h : EP I) : ep (f_Translator_leave  I J) := by
  unfold f_Translator_leave
  refine ep_pi (EP_u h (by decide) (by decide)) (fun I1 h1 => ?_)
  exact ep_some h1
theorem EP_Translator_isVariable {p1 : Int32} (h : EP I) : ep (f_Translator_isVariable p1 I J) := by
  unfold f_Translator_isVariable
  refine ep_ite (fun _ => ?_) (fun _ => ?_)
  · skip
    exact ep_some h
  · skip
    refine ep_ite (fun _ => ?_) (fun _ => ?_)
    · skip
      exact ep_some h
    · skip
      exact ep_some h
theorem EP_Translator_isArray {p1 : Int32} (h : EP I) : ep (f_Translator_isArray p1 I J) := by
  unfold f_Translator_isArray
  refine ep_ite (fun _ => ?_) (fun _ => ?_)
  · skip
    exact ep_some h
  · skip
    refine ep_ite (fun _ => ?_) (fun _ => ?_)
    · skip
      exact ep_some h
    · skip
      exact ep_some h
theorem EP_Translator_isDigit {p1 : Int32} (h : EP I) : ep (f_Translator_isDigit p1 I J) := by
  unfold f_Translator_isDigit
  refine ep_ite (fun _ => ?_) (fun _ => ?_)
  · skip
    exact ep_some h
  · skip
    refine ep_ite (fun _ => ?_) (fun _ => ?_)
    · skip
      exact ep_some h
    · skip
      exact ep_some h
theorem EP_Translator_variable (h : EP I) : ep (f_Translator_variable  I J) := by
  unfold f_Translator_variable
  refine ep_oc (EP_Translator_look h) (fun v1 I1 J1 h1 => ?_)
  refine ep_oc (EP_Translator_isVariable h1) (fun v2 I2 J2 h2 => ?_)
  refine ep_ite (fun _ => ?_) (fun _ => ?_)
  · skip
    refine ep_oc (EP_Translator_pass h2) (fun v4 I4 J4 h3 => ?_)
    exact ep_some h3
  · skip
    refine ep_oc (EP_Translator_refuse h2) (fun v5 I5 J5 h4 => ?_)
    exact ep_some h4
theorem EP_Translator_array (h : EP I) : ep (f_Translator_array  I J) := by
  unfold f_Translator_array
  refine ep_oc (EP_Translator_look h) (fun v1 I1 J1 h1 => ?_)
  refine ep_oc (EP_Translator_isArray h1) (fun v2 I2 J2 h2 => ?_)
  refine ep_ite (fun _ => ?_) (fun _ => ?_)
  · skip
    refine ep_oc (EP_Translator_pass h2) (fun v4 I4 J4 h3 => ?_)
    exact ep_some h3
  · skip
    refine ep_oc (EP_Translator_refuse h2) (fun v5 I5 J5 h4 => ?_)
    exact ep_some h4
theorem EP_Translator_digit (h : EP I) : ep (f_Translator_digit  I J) := by
  unfold f_Translator_digit
  refine ep_oc (EP_Translator_look h) (fun v1 I1 J1 h1 => ?_)
  refine ep_oc (EP_Translator_isDigit h1) (fun v2 I2 J2 h2 => ?_)
  refine ep_ite (fun _ => ?_) (fun _ => ?_)
  · skip
    refine ep_oc (EP_Translator_pass h2) (fun v4 I4 J4 h3 => ?_)
    exact ep_some h3
  · skip
    refine ep_oc (EP_Translator_refuse h2) (fun v5 I5 J5 h4 => ?_)
    exact ep_some h4
theorem EP_Translator_decider (h : EP I) : ep (f_Translator_decider  I J) := by
  unfold f_Translator_decider
  refine ep_oc (EP_Translator_look h) (fun v1 I1 J1 h1 => ?_)
  refine ep_pl (fun x2 => ?_)
  refine ep_oc (EP_Translator_variable h1) (fun v3 I3 J3 h2 => ?_)
  refine ep_oc (EP_Translator_wantClear h2) (fun v4 I4 J4 h3 => ?_)
  exact ep_some h3
theorem EP_Translator_emit {p2 : Int32} {p3 : Int32} {p4 : Int32} {p5 : Int32} (h : EP I) : ep (f_Translator_emit p2 p3 p4 p5 I J) := by
  unfold f_Translator_emit
  refine ep_oc (EP_Sh_lengthOf h) (fun v1 I1 J1 h1 => ?_)
  refine ep_oc (EP_Row_add h1) (fun v2 I2 J2 h2 => ?_)
  refine ep_oc ?_ (fun v4 I4 J4 h3 => ?_)
  · skip
    refine ep_ite (fun _ => ?_) (fun _ => ?_)
    · skip
      exact ep_some h2
    · skip
      refine ep_oc (EP_Row_add h2) (fun v6 I6 J6 h4 => ?_)
      exact ep_some h4
  · skip
    refine ep_oc ?_ (fun v8 I8 J8 h5 => ?_)
    · skip
      refine ep_ite (fun _ => ?_) (fun _ => ?_)
      · skip
        exact ep_some h3
      · skip
        refine ep_oc (EP_Row_add h3) (fun v10 I10 J10 h6 => ?_)
        exact ep_some h6
    · skip
      refine ep_ite (fun _ => ?_) (fun _ => ?_)
      · skip
        exact ep_some h5
      · skip
        refine ep_oc (EP_Row_add h5) (fun v12 I12 J12 h7 => ?_)
        exact ep_some h7
theorem EP_Translator_emitPlace {p2 : Int32} {p3 : Int32} {p4 : Int32} (h : EP I) : ep (f_Translator_emitPlace p2 p3 p4 I J) := by
  unfold f_Translator_emitPlace
  refine ep_ite (fun _ => ?_) (fun _ => ?_)
  · skip
    refine ep_oc (EP_Translator_emit h) (fun v2 I2 J2 h1 => ?_)
    exact ep_some h1
  · skip
    refine ep_oc (EP_Translator_emit h) (fun v3 I3 J3 h2 => ?_)
    exact ep_some h2
theorem EP_Translator_literal_4 : ∀ (fu : Nat) (l1 : Int64) (l3 : Int32) (I : MI) (J : MJ), EP I → ep (f_Translator_literal_4  fu l1 l3 I J) := by
  intro fu
  induction fu with
  | zero => intro l1 l3 I J h; exact ep_none
  | succ fu ih =>
    intro l1 l3 I J h
    rw [f_Translator_literal_4]
    refine ep_ite (fun _ => ?_) (fun _ => ?_)
    · skip
      exact ep_some h
    · skip
      refine ep_oc (EP_Row_at h) (fun v2 I2 J2 h1 => ?_)
      refine ep_oc (EP_Translator_isDigit h1) (fun v3 I3 J3 h2 => ?_)
      refine ep_ite (fun _ => ?_) (fun _ => ?_)
      · skip
        exact ep_some h2
      · skip
        refine ep_oc (EP_Row_at h2) (fun v5 I5 J5 h3 => ?_)
        refine ep_pl (fun x6 => ?_)
        refine ep_pi (EP_u h3 (by decide) (by decide)) (fun I7 h4 => ?_)
        exact ih _ _ _ _ h4
theorem EP_Translator_literal_77 : ∀ (fu : Nat) (l1 : Int64) (l3 : Int32) (I : MI) (J : MJ), EP I → ep (f_Translator_literal_77  fu l1 l3 I J) := by
  intro fu
  induction fu with
  | zero => intro l1 l3 I J h; exact ep_none
  | succ fu ih =>
    intro l1 l3 I J h
    rw [f_Translator_literal_77]
    refine ep_ite (fun _ => ?_) (fun _ => ?_)
    · skip
      exact ep_some h
    · skip
      refine ep_oc (EP_Row_add h) (fun v11 I11 J11 h1 => ?_)
      exact ih _ _ _ _ h1
theorem EP_Translator_literal (h : EP I) : ep (f_Translator_literal  I J) := by
  unfold f_Translator_literal
  refine ep_oc (EP_Translator_literal_4 _ _ _ _ _ h) (fun u8 I8 J8 h1 => ?_)
  refine ep_oc (EP_Row_add h1) (fun v9 I9 J9 h2 => ?_)
  refine ep_oc (EP_Translator_literal_77 _ _ _ _ _ h2) (fun u12 I12 J12 h3 => ?_)
  exact ep_some h3
theorem EP_Translator_show (h : EP I) : ep (f_Translator_show  I J) := by
  unfold f_Translator_show
  refine ep_oc (EP_Translator_pass h) (fun v1 I1 J1 h1 => ?_)
  refine ep_oc (EP_Translator_variable h1) (fun v2 I2 J2 h2 => ?_)
  refine ep_oc (EP_Translator_expect h2) (fun v3 I3 J3 h3 => ?_)
  refine ep_ite (fun _ => ?_) (fun _ => ?_)
  · skip
    refine ep_oc (EP_Translator_emit h3) (fun v5 I5 J5 h4 => ?_)
    exact ep_some h4
  · skip
    refine ep_oc (EP_Translator_emit h3) (fun v6 I6 J6 h5 => ?_)
    exact ep_some h5
theorem EP_Translator_input {p2 : Int32} {p3 : Int32} (h : EP I) : ep (f_Translator_input p2 p3 I J) := by
  unfold f_Translator_input
  refine ep_oc (EP_Translator_look h) (fun v1 I1 J1 h1 => ?_)
  refine ep_pl (fun x2 => ?_)
  refine ep_oc (EP_Translator_digit h1) (fun v3 I3 J3 h2 => ?_)
  refine ep_oc (EP_Translator_expect h2) (fun v4 I4 J4 h3 => ?_)
  refine ep_oc (EP_Translator_wantSecret h3) (fun v5 I5 J5 h4 => ?_)
  refine ep_oc ?_ (fun v7 I7 J7 h5 => ?_)
  · skip
    refine ep_ite (fun _ => ?_) (fun _ => ?_)
    · skip
      exact ep_some h4
    · skip
      refine ep_oc (EP_Translator_blame (by decide) h4) (fun v9 I9 J9 h6 => ?_)
      exact ep_some h6
  · skip
    refine ep_oc (EP_Translator_emit h5) (fun v10 I10 J10 h7 => ?_)
    exact ep_some h7
theorem EP_Translator_opening {p2 : Int32} {p3 : Int32} (h : EP I) : ep (f_Translator_opening p2 p3 I J) := by
  unfold f_Translator_opening
  refine ep_oc (EP_Translator_look h) (fun v1 I1 J1 h1 => ?_)
  refine ep_pl (fun x2 => ?_)
  refine ep_oc (EP_Translator_variable h1) (fun v3 I3 J3 h2 => ?_)
  refine ep_oc (EP_Translator_expect h2) (fun v4 I4 J4 h3 => ?_)
  refine ep_oc (EP_Translator_wantClear h3) (fun v5 I5 J5 h4 => ?_)
  refine ep_oc (EP_Translator_wantSecret h4) (fun v6 I6 J6 h5 => ?_)
  refine ep_oc (EP_Translator_emit h5) (fun v7 I7 J7 h6 => ?_)
  exact ep_some h6
theorem EP_Translator_arrayByArray {p2 : Int32} {p3 : Int32} (h : EP I) : ep (f_Translator_arrayByArray p2 p3 I J) := by
  unfold f_Translator_arrayByArray
  refine ep_oc (EP_Translator_array h) (fun v1 I1 J1 h1 => ?_)
  refine ep_oc (EP_Translator_look h1) (fun v2 I2 J2 h2 => ?_)
  refine ep_oc ?_ (fun v5 I5 J5 h3 => ?_)
  · skip
    refine ep_ite (fun _ => ?_) (fun _ => ?_)
    · skip
      refine ep_oc (EP_Translator_pass h2) (fun v7 I7 J7 h4 => ?_)
      exact ep_some h4
    · skip
      refine ep_ite (fun _ => ?_) (fun _ => ?_)
      · skip
        refine ep_oc (EP_Translator_pass h2) (fun v9 I9 J9 h5 => ?_)
        exact ep_some h5
      · skip
        refine ep_ite (fun _ => ?_) (fun _ => ?_)
        · skip
          refine ep_oc (EP_Translator_refuse h2) (fun v11 I11 J11 h6 => ?_)
          exact ep_some h6
        · skip
          refine ep_oc (EP_Translator_pass h2) (fun v12 I12 J12 h7 => ?_)
          exact ep_some h7
  · skip
    refine ep_oc (EP_Translator_array h3) (fun v13 I13 J13 h8 => ?_)
    refine ep_oc (EP_Translator_expect h8) (fun v14 I14 J14 h9 => ?_)
    refine ep_oc ?_ (fun v16 I16 J16 h10 => ?_)
    · skip
      refine ep_ite (fun _ => ?_) (fun _ => ?_)
      · skip
        exact ep_some h9
      · skip
        refine ep_ite (fun _ => ?_) (fun _ => ?_)
        · skip
          refine ep_oc (EP_Translator_blame (by decide) h9) (fun v19 I19 J19 h11 => ?_)
          exact ep_some h11
        · skip
          refine ep_ite (fun _ => ?_) (fun _ => ?_)
          · skip
            exact ep_some h9
          · skip
            refine ep_oc (EP_Translator_blame (by decide) h9) (fun v21 I21 J21 h12 => ?_)
            exact ep_some h12
    · skip
      refine ep_pl (fun v24 => ?_)
      refine ep_oc (EP_Translator_emit h10) (fun v27 I27 J27 h13 => ?_)
      exact ep_some h13
theorem EP_Translator_finish_22 : ∀ (fu : Nat) (l1 : Int32) (I : MI) (J : MJ), EP I → ep (f_Translator_finish_22  fu l1 I J) := by
  intro fu
  induction fu with
  | zero => intro l1 I J h; exact ep_none
  | succ fu ih =>
    intro l1 I J h
    rw [f_Translator_finish_22]
    refine ep_ite (fun _ => ?_) (fun _ => ?_)
    · skip
      exact ep_some h
    · skip
      refine ep_ite (fun _ => ?_) (fun _ => ?_)
      · skip
        exact ep_some h
      · skip
        refine ep_ite (fun _ => ?_) (fun _ => ?_)
        · skip
          exact ep_none
        · skip
          refine ep_ite (fun _ => ?_) (fun _ => ?_)
          · skip
            exact ih _ _ _ h
          · skip
            refine ep_ite (fun _ => ?_) (fun _ => ?_)
            · skip
              exact ep_none
            · skip
              refine ep_ite (fun _ => ?_) (fun _ => ?_)
              · skip
                exact ih _ _ _ h
              · skip
                refine ep_ite (fun _ => ?_) (fun _ => ?_)
                · skip
                  exact ep_none
                · skip
                  refine ep_oc (EP_Translator_blame (by decide) h) (fun v14 I14 J14 h1 => ?_)
                  exact ih _ _ _ h1
theorem EP_Translator_finish_81 : ∀ (fu : Nat) (l1 : Int32) (l2 : Int32) (I : MI) (J : MJ), EP I → ep (f_Translator_finish_81  fu l1 l2 I J) := by
  intro fu
  induction fu with
  | zero => intro l1 l2 I J h; exact ep_none
  | succ fu ih =>
    intro l1 l2 I J h
    rw [f_Translator_finish_81]
    refine ep_ite (fun _ => ?_) (fun _ => ?_)
    · skip
      exact ep_some h
    · skip
      refine ep_ite (fun _ => ?_) (fun _ => ?_)
      · skip
        exact ep_some h
      · skip
        refine ep_ite (fun _ => ?_) (fun _ => ?_)
        · skip
          exact ep_some h
        · skip
          refine ep_oc (EP_Row_at h) (fun v19 I19 J19 h1 => ?_)
          refine ep_oc (EP_Row_at h1) (fun v20 I20 J20 h2 => ?_)
          refine ep_oc ?_ (fun v22 I22 J22 h3 => ?_)
          · skip
            refine ep_ite (fun _ => ?_) (fun _ => ?_)
            · skip
              exact ep_some h2
            · skip
              refine ep_ite (fun _ => ?_) (fun _ => ?_)
              · skip
                exact ep_some h2
              · skip
                refine ep_ite (fun _ => ?_) (fun _ => ?_)
                · skip
                  exact ep_some h2
                · skip
                  refine ep_ite (fun _ => ?_) (fun _ => ?_)
                  · skip
                    exact ep_none
                  · skip
                    refine ep_oc (EP_Row_aim h2) (fun v27 I27 J27 h4 => ?_)
                    exact ep_some h4
          · skip
            refine ep_oc (EP_Row_at h3) (fun v28 I28 J28 h5 => ?_)
            refine ep_oc (EP_Sh_lengthOf h5) (fun v29 I29 J29 h6 => ?_)
            refine ep_pl (fun x30 => ?_)
            exact ih _ _ _ _ h6
theorem EP_Translator_finish (h : EP I) : ep (f_Translator_finish  I J) := by
  unfold f_Translator_finish
  refine ep_oc (EP_Translator_look h) (fun v1 I1 J1 h1 => ?_)
  refine ep_oc ?_ (fun v3 I3 J3 h2 => ?_)
  · skip
    refine ep_ite (fun _ => ?_) (fun _ => ?_)
    · skip
      exact ep_some h1
    · skip
      refine ep_oc (EP_Translator_refuse h1) (fun v5 I5 J5 h3 => ?_)
      exact ep_some h3
  · skip
    refine ep_oc (EP_Translator_emit h2) (fun v6 I6 J6 h4 => ?_)
    refine ep_oc (EP_Translator_finish_22 _ _ _ _ h4) (fun u15 I15 J15 h5 => ?_)
    refine ep_oc (EP_Translator_finish_81 _ _ _ _ _ h5) (fun u31 I31 J31 h6 => ?_)
    exact ep_some h6
theorem EP_Translator_factor_40 {R : M3} (hR : ∀ k a b I J, EP I → ep (R k a b I J)) : ∀ (fu : Nat) (l1 : Int32) (l2 : Int32) (I : MI) (J : MJ), EP I → ep (f_Translator_factor_40 R fu l1 l2 I J) := by
  intro fu
  induction fu with
  | zero => intro l1 l2 I J h; exact ep_none
  | succ fu ih =>
    intro l1 l2 I J h
    rw [f_Translator_factor_40]
    refine ep_ite (fun _ => ?_) (fun _ => ?_)
    · skip
      exact ep_some h
    · skip
      refine ep_oc (EP_Translator_look h) (fun v5 I5 J5 h1 => ?_)
      refine ep_ite (fun _ => ?_) (fun _ => ?_)
      · skip
        exact ep_some h1
      · skip
        refine ep_oc (EP_Translator_pass h1) (fun v7 I7 J7 h2 => ?_)
        refine ep_pl (fun v9 => ?_)
        refine ep_oc (EP_Translator_emit h2) (fun v11 I11 J11 h3 => ?_)
        exact ih _ _ _ _ h3
theorem EP_Translator_product_7 {R : M3} (hR : ∀ k a b I J, EP I → ep (R k a b I J)) : ∀ (fu : Nat) (l1 : Int32) (l2 : Int32) (I : MI) (J : MJ), EP I → ep (f_Translator_product_7 R fu l1 l2 I J) := by
  intro fu
  induction fu with
  | zero => intro l1 l2 I J h; exact ep_none
  | succ fu ih =>
    intro l1 l2 I J h
    rw [f_Translator_product_7]
    refine ep_ite (fun _ => ?_) (fun _ => ?_)
    · skip
      exact ep_some h
    · skip
      refine ep_oc (EP_Translator_look h) (fun v3 I3 J3 h1 => ?_)
      refine ep_ite (fun _ => ?_) (fun _ => ?_)
      · skip
        exact ep_some h1
      · skip
        refine ep_oc (EP_Translator_pass h1) (fun v5 I5 J5 h2 => ?_)
        refine ep_oc (hR 11 _ _ _ _ h2) (fun v6 I6 J6 h3 => ?_)
        refine ep_pl (fun v8 => ?_)
        refine ep_oc (EP_Translator_emit h3) (fun v11 I11 J11 h4 => ?_)
        refine ep_pl (fun v13 => ?_)
        exact ih _ _ _ _ h4
theorem EP_Translator_expression_7 {R : M3} (hR : ∀ k a b I J, EP I → ep (R k a b I J)) : ∀ (fu : Nat) (l1 : Int32) (l2 : Int32) (I : MI) (J : MJ), EP I → ep (f_Translator_expression_7 R fu l1 l2 I J) := by
  intro fu
  induction fu with
  | zero => intro l1 l2 I J h; exact ep_none
  | succ fu ih =>
    intro l1 l2 I J h
    rw [f_Translator_expression_7]
    refine ep_ite (fun _ => ?_) (fun _ => ?_)
    · skip
      exact ep_some h
    · skip
      refine ep_oc (EP_Translator_look h) (fun v3 I3 J3 h1 => ?_)
      refine ep_ite (fun _ => ?_) (fun _ => ?_)
      · skip
        refine ep_oc (EP_Translator_look h1) (fun v5 I5 J5 h2 => ?_)
        refine ep_pl (fun v7 => ?_)
        refine ep_oc (EP_Translator_pass h2) (fun v9 I9 J9 h3 => ?_)
        refine ep_oc (hR 10 _ _ _ _ h3) (fun v10 I10 J10 h4 => ?_)
        refine ep_oc (EP_Translator_emit h4) (fun v11 I11 J11 h5 => ?_)
        refine ep_pl (fun v13 => ?_)
        exact ih _ _ _ _ h5
      · skip
        refine ep_oc (EP_Translator_look h1) (fun v16 I16 J16 h6 => ?_)
        refine ep_ite (fun _ => ?_) (fun _ => ?_)
        · skip
          exact ep_some h6
        · skip
          refine ep_oc (EP_Translator_look h6) (fun v18 I18 J18 h7 => ?_)
          refine ep_pl (fun v20 => ?_)
          refine ep_oc (EP_Translator_pass h7) (fun v22 I22 J22 h8 => ?_)
          refine ep_oc (hR 10 _ _ _ _ h8) (fun v23 I23 J23 h9 => ?_)
          refine ep_oc (EP_Translator_emit h9) (fun v24 I24 J24 h10 => ?_)
          refine ep_pl (fun v26 => ?_)
          exact ih _ _ _ _ h10
theorem EP_Translator_statements_2 {R : M3} (hR : ∀ k a b I J, EP I → ep (R k a b I J)) : ∀ (fu : Nat) (l1 : Int32) (I : MI) (J : MJ), EP I → ep (f_Translator_statements_2 R fu l1 I J) := by
  intro fu
  induction fu with
  | zero => intro l1 I J h; exact ep_none
  | succ fu ih =>
    intro l1 I J h
    rw [f_Translator_statements_2]
    refine ep_ite (fun _ => ?_) (fun _ => ?_)
    · skip
      exact ep_some h
    · skip
      refine ep_oc (hR 1 _ _ _ _ h) (fun v2 I2 J2 h1 => ?_)
      refine ep_ite (fun _ => ?_) (fun _ => ?_)
      · skip
        exact ih _ _ _ h1
      · skip
        exact ep_some h1
theorem EP_Translator_statements {R : M3} (hR : ∀ k a b I J, EP I → ep (R k a b I J)) (h : EP I) : ep (f_Translator_statements R I J) := by
  unfold f_Translator_statements
  refine ep_oc (EP_Translator_statements_2 hR _ _ _ _ h) (fun q4 I4 J4 h1 => ?_)
  refine ep_oe (fun y4 => ?_) (fun u4 => ?_)
  · skip
    exact ep_some h1
  · skip
    exact ep_some h1
theorem EP_Translator_statement {R : M3} (hR : ∀ k a b I J, EP I → ep (R k a b I J)) (h : EP I) : ep (f_Translator_statement R I J) := by
  unfold f_Translator_statement
  refine ep_oc (EP_Translator_look h) (fun v1 I1 J1 h1 => ?_)
  refine ep_oc (EP_Translator_isVariable h1) (fun v2 I2 J2 h2 => ?_)
  refine ep_ite (fun _ => ?_) (fun _ => ?_)
  · skip
    refine ep_oc (EP_Translator_isArray h2) (fun v4 I4 J4 h3 => ?_)
    refine ep_ite (fun _ => ?_) (fun _ => ?_)
    · skip
      refine ep_ite (fun _ => ?_) (fun _ => ?_)
      · skip
        refine ep_ite (fun _ => ?_) (fun _ => ?_)
        · skip
          refine ep_ite (fun _ => ?_) (fun _ => ?_)
          · skip
            refine ep_ite (fun _ => ?_) (fun _ => ?_)
            · skip
              exact ep_some h3
            · skip
              refine ep_oc (hR 8 _ _ _ _ h3) (fun v10 I10 J10 h4 => ?_)
              exact ep_some h4
          · skip
            refine ep_oc (hR 7 _ _ _ _ h3) (fun v11 I11 J11 h5 => ?_)
            exact ep_some h5
        · skip
          refine ep_oc (hR 5 _ _ _ _ h3) (fun v12 I12 J12 h6 => ?_)
          exact ep_some h6
      · skip
        refine ep_oc (EP_Translator_show h3) (fun v13 I13 J13 h7 => ?_)
        exact ep_some h7
    · skip
      refine ep_oc (hR 4 _ _ _ _ h3) (fun v14 I14 J14 h8 => ?_)
      exact ep_some h8
  · skip
    refine ep_oc (hR 2 _ _ _ _ h2) (fun v15 I15 J15 h9 => ?_)
    exact ep_some h9
theorem EP_Translator_variableStatement {R : M3} {p2 : Int32} {p3 : Int32} (hR : ∀ k a b I J, EP I → ep (R k a b I J)) (h : EP I) : ep (f_Translator_variableStatement R p2 p3 I J) := by
  unfold f_Translator_variableStatement
  refine ep_oc (EP_Translator_pass h) (fun v1 I1 J1 h1 => ?_)
  refine ep_oc (EP_Translator_look h1) (fun v2 I2 J2 h2 => ?_)
  refine ep_ite (fun _ => ?_) (fun _ => ?_)
  · skip
    refine ep_ite (fun _ => ?_) (fun _ => ?_)
    · skip
      refine ep_ite (fun _ => ?_) (fun _ => ?_)
      · skip
        refine ep_ite (fun _ => ?_) (fun _ => ?_)
        · skip
          refine ep_oc (EP_Translator_refuse h2) (fun v7 I7 J7 h3 => ?_)
          exact ep_some h3
        · skip
          refine ep_oc (EP_Translator_pass h2) (fun v8 I8 J8 h4 => ?_)
          refine ep_oc (EP_Translator_expect h4) (fun v9 I9 J9 h5 => ?_)
          refine ep_oc (EP_Translator_wantSecret h5) (fun v10 I10 J10 h6 => ?_)
          refine ep_oc (EP_Translator_emit h6) (fun v11 I11 J11 h7 => ?_)
          exact ep_some h7
      · skip
        refine ep_oc (EP_Translator_pass h2) (fun v12 I12 J12 h8 => ?_)
        refine ep_oc (EP_Translator_opening h8) (fun v13 I13 J13 h9 => ?_)
        exact ep_some h9
    · skip
      refine ep_oc (EP_Translator_pass h2) (fun v14 I14 J14 h10 => ?_)
      refine ep_oc (EP_Translator_input h10) (fun v15 I15 J15 h11 => ?_)
      exact ep_some h11
  · skip
    refine ep_oc (EP_Translator_pass h2) (fun v16 I16 J16 h12 => ?_)
    refine ep_oc (hR 3 _ _ _ _ h12) (fun v17 I17 J17 h13 => ?_)
    exact ep_some h13
theorem EP_Translator_assign {R : M3} {p2 : Int32} {p3 : Int32} (hR : ∀ k a b I J, EP I → ep (R k a b I J)) (h : EP I) : ep (f_Translator_assign R p2 p3 I J) := by
  unfold f_Translator_assign
  refine ep_oc (EP_Translator_look h) (fun v1 I1 J1 h1 => ?_)
  refine ep_oc (EP_Translator_isArray h1) (fun v2 I2 J2 h2 => ?_)
  refine ep_ite (fun _ => ?_) (fun _ => ?_)
  · skip
    refine ep_oc (hR 9 _ _ _ _ h2) (fun v4 I4 J4 h3 => ?_)
    refine ep_oc (EP_Translator_expect h3) (fun v5 I5 J5 h4 => ?_)
    refine ep_ite (fun _ => ?_) (fun _ => ?_)
    · skip
      refine ep_oc ?_ (fun v8 I8 J8 h5 => ?_)
      · skip
        refine ep_ite (fun _ => ?_) (fun _ => ?_)
        · skip
          exact ep_some h4
        · skip
          refine ep_oc (EP_Translator_blame (by decide) h4) (fun v10 I10 J10 h6 => ?_)
          exact ep_some h6
      · skip
        refine ep_oc (EP_Translator_emit h5) (fun v11 I11 J11 h7 => ?_)
        exact ep_some h7
    · skip
      refine ep_oc (EP_Translator_emit h4) (fun v12 I12 J12 h8 => ?_)
      exact ep_some h8
  · skip
    refine ep_oc (EP_Translator_behindNext h2) (fun v13 I13 J13 h9 => ?_)
    refine ep_ite (fun _ => ?_) (fun _ => ?_)
    · skip
      refine ep_oc (hR 9 _ _ _ _ h9) (fun v15 I15 J15 h10 => ?_)
      refine ep_oc (EP_Translator_expect h10) (fun v16 I16 J16 h11 => ?_)
      refine ep_ite (fun _ => ?_) (fun _ => ?_)
      · skip
        refine ep_oc ?_ (fun v19 I19 J19 h12 => ?_)
        · skip
          refine ep_ite (fun _ => ?_) (fun _ => ?_)
          · skip
            exact ep_some h11
          · skip
            refine ep_oc (EP_Translator_blame (by decide) h11) (fun v21 I21 J21 h13 => ?_)
            exact ep_some h13
        · skip
          refine ep_oc (EP_Translator_emit h12) (fun v22 I22 J22 h14 => ?_)
          exact ep_some h14
      · skip
        refine ep_oc (EP_Translator_emit h11) (fun v23 I23 J23 h15 => ?_)
        exact ep_some h15
    · skip
      refine ep_oc (EP_Translator_array h9) (fun v24 I24 J24 h16 => ?_)
      refine ep_oc (EP_Translator_expect h16) (fun v25 I25 J25 h17 => ?_)
      refine ep_oc (EP_Translator_array h17) (fun v26 I26 J26 h18 => ?_)
      refine ep_oc (EP_Translator_expect h18) (fun v27 I27 J27 h19 => ?_)
      refine ep_oc (EP_Translator_wantSecret h19) (fun v28 I28 J28 h20 => ?_)
      refine ep_oc (EP_Translator_emit h20) (fun v29 I29 J29 h21 => ?_)
      refine ep_oc (EP_Translator_emit h21) (fun v30 I30 J30 h22 => ?_)
      exact ep_some h22
theorem EP_Translator_arrayStatement {R : M3} {p2 : Int32} {p3 : Int32} (hR : ∀ k a b I J, EP I → ep (R k a b I J)) (h : EP I) : ep (f_Translator_arrayStatement R p2 p3 I J) := by
  unfold f_Translator_arrayStatement
  refine ep_oc (EP_Translator_pass h) (fun v1 I1 J1 h1 => ?_)
  refine ep_oc (EP_Translator_look h1) (fun v2 I2 J2 h2 => ?_)
  refine ep_ite (fun _ => ?_) (fun _ => ?_)
  · skip
    refine ep_ite (fun _ => ?_) (fun _ => ?_)
    · skip
      refine ep_oc (EP_Translator_refuse h2) (fun v5 I5 J5 h3 => ?_)
      exact ep_some h3
    · skip
      refine ep_oc (EP_Translator_pass h2) (fun v6 I6 J6 h4 => ?_)
      refine ep_oc (EP_Translator_arrayByArray h4) (fun v7 I7 J7 h5 => ?_)
      exact ep_some h5
  · skip
    refine ep_oc (hR 13 _ _ _ _ h2) (fun v8 I8 J8 h6 => ?_)
    refine ep_oc (EP_Translator_expect h6) (fun v9 I9 J9 h7 => ?_)
    refine ep_oc (hR 9 _ _ _ _ h7) (fun v10 I10 J10 h8 => ?_)
    refine ep_oc (EP_Translator_expect h8) (fun v11 I11 J11 h9 => ?_)
    refine ep_oc ?_ (fun v13 I13 J13 h10 => ?_)
    · skip
      refine ep_ite (fun _ => ?_) (fun _ => ?_)
      · skip
        exact ep_some h9
      · skip
        refine ep_ite (fun _ => ?_) (fun _ => ?_)
        · skip
          exact ep_some h9
        · skip
          refine ep_oc (EP_Translator_blame (by decide) h9) (fun v16 I16 J16 h11 => ?_)
          exact ep_some h11
    · skip
      refine ep_oc (EP_Translator_emitPlace h10) (fun v17 I17 J17 h12 => ?_)
      exact ep_some h12
theorem EP_Translator_routine {R : M3} {p2 : Int32} (hR : ∀ k a b I J, EP I → ep (R k a b I J)) (h : EP I) : ep (f_Translator_routine R p2 I J) := by
  unfold f_Translator_routine
  refine ep_oc (EP_Translator_pass h) (fun v1 I1 J1 h1 => ?_)
  refine ep_oc (EP_Translator_digit h1) (fun v2 I2 J2 h2 => ?_)
  refine ep_oc (EP_Translator_look h2) (fun v3 I3 J3 h3 => ?_)
  refine ep_ite (fun _ => ?_) (fun _ => ?_)
  · skip
    refine ep_oc (EP_Translator_expect h3) (fun v5 I5 J5 h4 => ?_)
    refine ep_oc ?_ (fun v7 I7 J7 h5 => ?_)
    · skip
      refine ep_ite (fun _ => ?_) (fun _ => ?_)
      · skip
        exact ep_some h4
      · skip
        refine ep_ite (fun _ => ?_) (fun _ => ?_)
        · skip
          exact ep_none
        · skip
          refine ep_ite (fun _ => ?_) (fun _ => ?_)
          · skip
            exact ep_some h4
          · skip
            refine ep_ite (fun _ => ?_) (fun _ => ?_)
            · skip
              exact ep_none
            · skip
              refine ep_pi (EP_o h4 (by decide)) (fun I12 h6 => ?_)
              exact ep_some h6
    · skip
      refine ep_oc (EP_Translator_emit h5) (fun v13 I13 J13 h7 => ?_)
      exact ep_some h7
  · skip
    refine ep_ite (fun _ => ?_) (fun _ => ?_)
    · skip
      refine ep_oc (EP_Translator_expect h3) (fun v15 I15 J15 h8 => ?_)
      refine ep_oc ?_ (fun v17 I17 J17 h9 => ?_)
      · skip
        refine ep_ite (fun _ => ?_) (fun _ => ?_)
        · skip
          exact ep_some h8
        · skip
          refine ep_ite (fun _ => ?_) (fun _ => ?_)
          · skip
            exact ep_none
          · skip
            refine ep_ite (fun _ => ?_) (fun _ => ?_)
            · skip
              exact ep_some h8
            · skip
              refine ep_ite (fun _ => ?_) (fun _ => ?_)
              · skip
                exact ep_none
              · skip
                refine ep_pi (EP_o h8 (by decide)) (fun I22 h10 => ?_)
                exact ep_some h10
      · skip
        refine ep_oc (EP_Translator_emit h9) (fun v23 I23 J23 h11 => ?_)
        exact ep_some h11
    · skip
      refine ep_oc (hR 6 _ _ _ _ h3) (fun v24 I24 J24 h12 => ?_)
      exact ep_some h12
theorem EP_Translator_tell {R : M3} {p2 : Int32} {p3 : Int32} (hR : ∀ k a b I J, EP I → ep (R k a b I J)) (h : EP I) : ep (f_Translator_tell R p2 p3 I J) := by
  unfold f_Translator_tell
  refine ep_oc (EP_Translator_pass h) (fun v1 I1 J1 h1 => ?_)
  refine ep_pi (EP_u h1 (by decide) (by decide)) (fun I2 h2 => ?_)
  refine ep_pl (fun x3 => ?_)
  refine ep_oc (EP_Translator_emit h2) (fun v4 I4 J4 h3 => ?_)
  refine ep_oc ?_ (fun v6 I6 J6 h4 => ?_)
  · skip
    refine ep_ite (fun _ => ?_) (fun _ => ?_)
    · skip
      exact ep_some h3
    · skip
      refine ep_ite (fun _ => ?_) (fun _ => ?_)
      · skip
        exact ep_none
      · skip
        refine ep_oc ?_ (fun v10 I10 J10 h5 => ?_)
        · skip
          refine ep_ite (fun _ => ?_) (fun _ => ?_)
          · skip
            exact ep_some h3
          · skip
            refine ep_oc (EP_Translator_blame (by decide) h3) (fun v12 I12 J12 h6 => ?_)
            exact ep_some h6
        · skip
          refine ep_ite (fun _ => ?_) (fun _ => ?_)
          · skip
            exact ep_none
          · skip
            refine ep_pi (EP_o h5 (by decide)) (fun I14 h7 => ?_)
            exact ep_some h7
  · skip
    refine ep_oc (hR 0 _ _ _ _ h4) (fun v15 I15 J15 h8 => ?_)
    refine ep_oc (EP_Translator_expect h8) (fun v16 I16 J16 h9 => ?_)
    refine ep_pi (EP_u h9 (by decide) (by decide)) (fun I17 h10 => ?_)
    refine ep_oc (EP_Translator_emit h10) (fun v18 I18 J18 h11 => ?_)
    refine ep_oc (EP_Row_aim h11) (fun v19 I19 J19 h12 => ?_)
    exact ep_some h12
theorem EP_Translator_choice {R : M3} (hR : ∀ k a b I J, EP I → ep (R k a b I J)) (h : EP I) : ep (f_Translator_choice R I J) := by
  unfold f_Translator_choice
  refine ep_oc (EP_Translator_enter h) (fun v1 I1 J1 h1 => ?_)
  refine ep_oc (EP_Translator_decider h1) (fun v2 I2 J2 h2 => ?_)
  refine ep_oc (EP_Translator_expect h2) (fun v3 I3 J3 h3 => ?_)
  refine ep_pi (EP_u h3 (by decide) (by decide)) (fun I4 h4 => ?_)
  refine ep_pl (fun x5 => ?_)
  refine ep_oc (EP_Translator_emit h4) (fun v6 I6 J6 h5 => ?_)
  refine ep_oc (hR 0 _ _ _ _ h5) (fun v7 I7 J7 h6 => ?_)
  refine ep_oc (EP_Translator_expect h6) (fun v8 I8 J8 h7 => ?_)
  refine ep_pl (fun x9 => ?_)
  refine ep_oc (EP_Translator_emit h7) (fun v10 I10 J10 h8 => ?_)
  refine ep_oc (EP_Row_aim h8) (fun v11 I11 J11 h9 => ?_)
  refine ep_oc (hR 0 _ _ _ _ h9) (fun v12 I12 J12 h10 => ?_)
  refine ep_oc (EP_Translator_expect h10) (fun v13 I13 J13 h11 => ?_)
  refine ep_pi (EP_u h11 (by decide) (by decide)) (fun I14 h12 => ?_)
  refine ep_oc (EP_Translator_leave h12) (fun v15 I15 J15 h13 => ?_)
  refine ep_oc (EP_Row_aim h13) (fun v16 I16 J16 h14 => ?_)
  exact ep_some h14
theorem EP_Translator_loop {R : M3} (hR : ∀ k a b I J, EP I → ep (R k a b I J)) (h : EP I) : ep (f_Translator_loop R I J) := by
  unfold f_Translator_loop
  refine ep_oc (EP_Translator_enter h) (fun v1 I1 J1 h1 => ?_)
  refine ep_oc (EP_Translator_decider h1) (fun v2 I2 J2 h2 => ?_)
  refine ep_oc (EP_Translator_expect h2) (fun v3 I3 J3 h3 => ?_)
  refine ep_pi (EP_u h3 (by decide) (by decide)) (fun I4 h4 => ?_)
  refine ep_pl (fun x5 => ?_)
  refine ep_oc (EP_Translator_emit h4) (fun v6 I6 J6 h5 => ?_)
  refine ep_oc (hR 0 _ _ _ _ h5) (fun v7 I7 J7 h6 => ?_)
  refine ep_oc (EP_Translator_expect h6) (fun v8 I8 J8 h7 => ?_)
  refine ep_pi (EP_u h7 (by decide) (by decide)) (fun I9 h8 => ?_)
  refine ep_oc (EP_Translator_leave h8) (fun v10 I10 J10 h9 => ?_)
  refine ep_pl (fun x11 => ?_)
  refine ep_oc (EP_Translator_emit h9) (fun v12 I12 J12 h10 => ?_)
  refine ep_oc (EP_Row_aim h10) (fun v13 I13 J13 h11 => ?_)
  refine ep_oc (EP_Row_aim h11) (fun v14 I14 J14 h12 => ?_)
  exact ep_some h12
theorem EP_Translator_expression {R : M3} (hR : ∀ k a b I J, EP I → ep (R k a b I J)) (h : EP I) : ep (f_Translator_expression R I J) := by
  unfold f_Translator_expression
  refine ep_oc (hR 10 _ _ _ _ h) (fun v1 I1 J1 h1 => ?_)
  refine ep_oc (EP_Translator_expression_7 hR _ _ _ _ _ h1) (fun u29 I29 J29 h2 => ?_)
  refine ep_ite (fun _ => ?_) (fun _ => ?_)
  · skip
    exact ep_some h2
  · skip
    exact ep_none
theorem EP_Translator_product {R : M3} (hR : ∀ k a b I J, EP I → ep (R k a b I J)) (h : EP I) : ep (f_Translator_product R I J) := by
  unfold f_Translator_product
  refine ep_oc (hR 11 _ _ _ _ h) (fun v1 I1 J1 h1 => ?_)
  refine ep_oc (EP_Translator_product_7 hR _ _ _ _ _ h1) (fun u16 I16 J16 h2 => ?_)
  refine ep_ite (fun _ => ?_) (fun _ => ?_)
  · skip
    exact ep_some h2
  · skip
    exact ep_none
theorem EP_Translator_factor {R : M3} (hR : ∀ k a b I J, EP I → ep (R k a b I J)) (h : EP I) : ep (f_Translator_factor R I J) := by
  unfold f_Translator_factor
  refine ep_oc (EP_Translator_look h) (fun v1 I1 J1 h1 => ?_)
  refine ep_ite (fun _ => ?_) (fun _ => ?_)
  · skip
    refine ep_oc (hR 12 _ _ _ _ h1) (fun v3 I3 J3 h2 => ?_)
    refine ep_oc (EP_Translator_factor_40 hR _ _ _ _ _ h2) (fun u12 I12 J12 h3 => ?_)
    refine ep_ite (fun _ => ?_) (fun _ => ?_)
    · skip
      exact ep_some h3
    · skip
      exact ep_none
  · skip
    refine ep_oc (EP_Translator_enter h1) (fun v14 I14 J14 h4 => ?_)
    refine ep_oc (hR 11 _ _ _ _ h4) (fun v15 I15 J15 h5 => ?_)
    refine ep_oc (EP_Translator_leave h5) (fun v16 I16 J16 h6 => ?_)
    refine ep_oc (EP_Translator_emit h6) (fun v17 I17 J17 h7 => ?_)
    refine ep_ite (fun _ => ?_) (fun _ => ?_)
    · skip
      exact ep_some h7
    · skip
      exact ep_none
theorem EP_Translator_atom {R : M3} (hR : ∀ k a b I J, EP I → ep (R k a b I J)) (h : EP I) : ep (f_Translator_atom R I J) := by
  unfold f_Translator_atom
  refine ep_oc (EP_Translator_look h) (fun v1 I1 J1 h1 => ?_)
  refine ep_oc (EP_Translator_isVariable h1) (fun v2 I2 J2 h2 => ?_)
  refine ep_ite (fun _ => ?_) (fun _ => ?_)
  · skip
    refine ep_oc (EP_Translator_isArray h2) (fun v4 I4 J4 h3 => ?_)
    refine ep_ite (fun _ => ?_) (fun _ => ?_)
    · skip
      refine ep_ite (fun _ => ?_) (fun _ => ?_)
      · skip
        refine ep_oc (EP_Translator_isDigit h3) (fun v7 I7 J7 h4 => ?_)
        refine ep_ite (fun _ => ?_) (fun _ => ?_)
        · skip
          refine ep_oc (EP_Translator_refuse h4) (fun v9 I9 J9 h5 => ?_)
          exact ep_some h5
        · skip
          refine ep_oc (EP_Translator_literal h4) (fun v10 I10 J10 h6 => ?_)
          exact ep_some h6
      · skip
        refine ep_oc (EP_Translator_enter h3) (fun v11 I11 J11 h7 => ?_)
        refine ep_oc (hR 9 _ _ _ _ h7) (fun v12 I12 J12 h8 => ?_)
        refine ep_oc (EP_Translator_expect h8) (fun v13 I13 J13 h9 => ?_)
        refine ep_oc (EP_Translator_leave h9) (fun v14 I14 J14 h10 => ?_)
        refine ep_ite (fun _ => ?_) (fun _ => ?_)
        · skip
          exact ep_some h10
        · skip
          exact ep_none
    · skip
      refine ep_oc (EP_Translator_pass h3) (fun v16 I16 J16 h11 => ?_)
      refine ep_oc (hR 13 _ _ _ _ h11) (fun v17 I17 J17 h12 => ?_)
      refine ep_oc (EP_Translator_emitPlace h12) (fun v18 I18 J18 h13 => ?_)
      refine ep_ite (fun _ => ?_) (fun _ => ?_)
      · skip
        exact ep_some h13
      · skip
        exact ep_some h13
  · skip
    refine ep_oc (EP_Translator_pass h2) (fun v20 I20 J20 h14 => ?_)
    refine ep_pl (fun x21 => ?_)
    refine ep_pl (fun v23 => ?_)
    refine ep_pl (fun v26 => ?_)
    refine ep_oc (EP_Translator_emit h14) (fun v28 I28 J28 h15 => ?_)
    refine ep_ite (fun _ => ?_) (fun _ => ?_)
    · skip
      exact ep_some h15
    · skip
      exact ep_some h15
theorem EP_Translator_index {R : M3} (hR : ∀ k a b I J, EP I → ep (R k a b I J)) (h : EP I) : ep (f_Translator_index R I J) := by
  unfold f_Translator_index
  refine ep_oc (EP_Translator_look h) (fun v1 I1 J1 h1 => ?_)
  refine ep_oc ?_ (fun v3 I3 J3 h2 => ?_)
  · skip
    refine ep_ite (fun _ => ?_) (fun _ => ?_)
    · skip
      exact ep_some h1
    · skip
      refine ep_oc (EP_Translator_refuse h1) (fun v5 I5 J5 h3 => ?_)
      exact ep_some h3
  · skip
    refine ep_pl (fun x6 => ?_)
    refine ep_oc (EP_Translator_enter h2) (fun v7 I7 J7 h4 => ?_)
    refine ep_oc (hR 9 _ _ _ _ h4) (fun v8 I8 J8 h5 => ?_)
    refine ep_oc (EP_Translator_expect h5) (fun v9 I9 J9 h6 => ?_)
    refine ep_oc (EP_Translator_leave h6) (fun v10 I10 J10 h7 => ?_)
    refine ep_ite (fun _ => ?_) (fun _ => ?_)
    · skip
      exact ep_some h7
    · skip
      refine ep_oc (EP_Translator_blame (by decide) h7) (fun v12 I12 J12 h8 => ?_)
      exact ep_some h8
theorem EPT_all : ∀ (fu k : Nat) (a b : Int32) (I : MI) (J : MJ), EP I → ep (f_RcT fu k a b I J) := by
  intro fu
  induction fu with
  | zero => intro k a b I J h; exact ep_none
  | succ fu ih =>
    intro k a b I J h
    have cb : ∀ {α : Type} {c : Bool} {x y : M2 α}, ep x → ep y → ep (bif c then x else y) := by
      intro α c x y hx hy
      cases c with
      | true => exact hx
      | false => exact hy
    unfold f_RcT
    refine cb (ep_oc (EP_Translator_statements ih h) (fun _ _ _ h => ep_some h)) ?_
    refine cb (EP_Translator_statement ih h) ?_
    refine cb (ep_oc (EP_Translator_variableStatement ih h) (fun _ _ _ h => ep_some h)) ?_
    refine cb (ep_oc (EP_Translator_assign ih h) (fun _ _ _ h => ep_some h)) ?_
    refine cb (ep_oc (EP_Translator_arrayStatement ih h) (fun _ _ _ h => ep_some h)) ?_
    refine cb (ep_oc (EP_Translator_routine ih h) (fun _ _ _ h => ep_some h)) ?_
    refine cb (ep_oc (EP_Translator_tell ih h) (fun _ _ _ h => ep_some h)) ?_
    refine cb (ep_oc (EP_Translator_choice ih h) (fun _ _ _ h => ep_some h)) ?_
    refine cb (ep_oc (EP_Translator_loop ih h) (fun _ _ _ h => ep_some h)) ?_
    refine cb (EP_Translator_expression ih h) ?_
    refine cb (EP_Translator_product ih h) ?_
    refine cb (EP_Translator_factor ih h) ?_
    refine cb (EP_Translator_atom ih h) ?_
    exact cb (ep_oc (EP_Translator_index ih h) (fun _ _ _ h => ep_some h)) ep_none
end EPS
def EQ (I : MI) : Prop := I 112 3 = 0 → I 112 4 = 0
def eq {α : Type} (r : M2 α) : Prop := ∀ v I' J', r = some (v, I', J') → EQ I'
section EQS
variable {I0 I : MI} {J : MJ} {α β γ : Type}
theorem eq_none : eq (none : M2 α) := fun _ _ _ h => by cases h
theorem eq_some {v : α} (h : EQ I) : eq (some (v, I, J)) := fun _ _ _ e => by
  obtain ⟨rfl, rfl, rfl⟩ := s_inj e
  exact h
theorem eq_oc {x : M2 α} {f : α → MI → MJ → M2 β} (h : eq x) (k : ∀ v I1 J1, EQ I1 → eq (f v I1 J1)) : eq (oc x f) := by
  intro v I' J' e
  obtain ⟨u, I1, J1, e1, e2⟩ := oc_call e
  exact k u I1 J1 (h u I1 J1 e1) v I' J' e2
theorem eq_pl {a : α} {f : α → M2 β} (h : ∀ x, eq (f x)) : eq (pl a f) := h a
theorem eq_pi {I1 : MI} {f : MI → M2 β} (h : EQ I1) (k : ∀ I2, EQ I2 → eq (f I2)) : eq (pl I1 f) := k _ h
theorem eq_ite {c : Prop} [Decidable c] {a b : M2 α} (h1 : c → eq a) (h2 : ¬ c → eq b) : eq (if c then a else b) := by
  by_cases q : c
  · rw [if_pos q]; exact h1 q
  · rw [if_neg q]; exact h2 q
theorem eq_oe {q : α ⊕ β} {f : α → M2 γ} {g : β → M2 γ} (h1 : ∀ y, eq (f y)) (h2 : ∀ y, eq (g y)) : eq (oe q f g) := by
  cases q with
  | inl y => exact h1 y
  | inr y => exact h2 y
theorem EQ_o {a : Nat} {w : Nat → Int32} (h : EQ I) (h1 : a ≠ 112) : EQ (va_up I a w) := by
  unfold EQ
  rw [va_up_ne _ _ (Ne.symm h1)]
  exact h
theorem EQ_u {j : Nat} {x : Int32} (h : EQ I) (h1 : j ≠ 3) (h2 : j ≠ 4) : EQ (va_up I 112 (upd (I 112) j x)) := by
  unfold EQ
  rw [va_up_self, upd_n _ _ (Ne.symm h1), upd_n _ _ (Ne.symm h2)]
  exact h
theorem EQ_x {x y : Int32} (h : ¬ x = 0) : EQ (va_up (va_up I 112 (upd (I 112) 3 x)) 112 (upd ((va_up I 112 (upd (I 112) 3 x)) 112) 4 y)) := by
  unfold EQ
  rw [va_up_self, va_up_self, upd_n _ _ (by decide), upd_s]
  exact fun e => absurd e h
theorem EQ_Model_see_0 : ∀ (fu : Nat)  (I : MI) (J : MJ), EQ I → eq (f_Model_see_0  fu  I J) := by
  intro fu
  induction fu with
  | zero => intro  I J h; exact eq_none
  | succ fu ih =>
    intro  I J h
    rw [f_Model_see_0]
    refine eq_ite (fun _ => ?_) (fun _ => ?_)
    · skip
      exact eq_some h
    · skip
      refine eq_ite (fun _ => ?_) (fun _ => ?_)
      · skip
        exact eq_none
      · skip
        refine eq_ite (fun _ => ?_) (fun _ => ?_)
        · skip
          exact eq_some h
        · skip
          refine eq_pi (EQ_u h (by decide) (by decide)) (fun I4 h1 => ?_)
          exact ih  _ _ h1
theorem EQ_Model_see (h : EQ I) : eq (f_Model_see  I J) := by
  unfold f_Model_see
  refine eq_oc (EQ_Model_see_0 _  _ _ h) (fun u5 I5 J5 h1 => ?_)
  refine eq_ite (fun _ => ?_) (fun _ => ?_)
  · skip
    exact eq_some h1
  · skip
    refine eq_ite (fun _ => ?_) (fun _ => ?_)
    · skip
      exact eq_none
    · skip
      exact eq_some h1
theorem EQ_Model_refuse (h : EQ I) : eq (f_Model_refuse I J) := by
  unfold f_Model_refuse
  refine eq_oc (EQ_Model_see h) (fun _ I1 J1 h1 => ?_)
  rw [pl_eq, pl_eq]
  exact eq_some (EQ_x (by decide))
theorem EQ_Model_note {p2 : Int32} {p3 : Int32} (h : EQ I) : eq (f_Model_note p2 p3 I J) := by
  unfold f_Model_note
  refine eq_ite (fun _ => ?_) (fun _ => ?_)
  · skip
    refine eq_pi (EQ_u h (by decide) (by decide)) (fun I2 h1 => ?_)
    refine eq_pi (EQ_u h1 (by decide) (by decide)) (fun I3 h2 => ?_)
    exact eq_some h2
  · skip
    refine eq_ite (fun _ => ?_) (fun _ => ?_)
    · skip
      refine eq_pi (EQ_u h (by decide) (by decide)) (fun I5 h3 => ?_)
      refine eq_pi (EQ_u h3 (by decide) (by decide)) (fun I6 h4 => ?_)
      exact eq_some h4
    · skip
      refine eq_ite (fun _ => ?_) (fun _ => ?_)
      · skip
        exact eq_some h
      · skip
        refine eq_ite (fun _ => ?_) (fun _ => ?_)
        · skip
          exact eq_some h
        · skip
          refine eq_pi (EQ_u h (by decide) (by decide)) (fun I9 h5 => ?_)
          refine eq_pi (EQ_u h5 (by decide) (by decide)) (fun I10 h6 => ?_)
          exact eq_some h6
theorem EQ_Model_takes {p2 : Int32} (h : EQ I) : eq (f_Model_takes p2 I J) := by
  unfold f_Model_takes
  refine eq_oc (EQ_Model_see h) (fun v1 I1 J1 h1 => ?_)
  refine eq_pl (fun v3 => ?_)
  refine eq_ite (fun _ => ?_) (fun _ => ?_)
  · skip
    refine eq_ite (fun _ => ?_) (fun _ => ?_)
    · skip
      exact eq_some h1
    · skip
      exact eq_none
  · skip
    refine eq_pi (EQ_u h1 (by decide) (by decide)) (fun I7 h2 => ?_)
    refine eq_ite (fun _ => ?_) (fun _ => ?_)
    · skip
      exact eq_some h2
    · skip
      exact eq_none
theorem EQ_Model_want {p2 : Int32} (h : EQ I) : eq (f_Model_want p2 I J) := by
  unfold f_Model_want
  refine eq_oc (EQ_Model_takes h) (fun v1 I1 J1 h1 => ?_)
  refine eq_ite (fun _ => ?_) (fun _ => ?_)
  · skip
    exact eq_some h1
  · skip
    refine eq_oc (EQ_Model_refuse h1) (fun v3 I3 J3 h2 => ?_)
    refine eq_ite (fun _ => ?_) (fun _ => ?_)
    · skip
      exact eq_some h2
    · skip
      exact eq_some h2
theorem EQ_Model_isClear {p1 : Int32} (h : EQ I) : eq (f_Model_isClear p1 I J) := by
  unfold f_Model_isClear
  refine eq_ite (fun _ => ?_) (fun _ => ?_)
  · skip
    exact eq_some h
  · skip
    refine eq_ite (fun _ => ?_) (fun _ => ?_)
    · skip
      exact eq_some h
    · skip
      exact eq_some h
theorem EQ_Model_isSecret {p1 : Int32} (h : EQ I) : eq (f_Model_isSecret p1 I J) := by
  unfold f_Model_isSecret
  refine eq_ite (fun _ => ?_) (fun _ => ?_)
  · skip
    exact eq_some h
  · skip
    refine eq_ite (fun _ => ?_) (fun _ => ?_)
    · skip
      exact eq_some h
    · skip
      exact eq_some h
theorem EQ_Model_isVariable (h : EQ I) : eq (f_Model_isVariable  I J) := by
  unfold f_Model_isVariable
  refine eq_oc (EQ_Model_see h) (fun v1 I1 J1 h1 => ?_)
  refine eq_oc (EQ_Model_isClear h1) (fun v2 I2 J2 h2 => ?_)
  refine eq_ite (fun _ => ?_) (fun _ => ?_)
  · skip
    exact eq_some h2
  · skip
    refine eq_oc (EQ_Model_see h2) (fun v4 I4 J4 h3 => ?_)
    refine eq_oc (EQ_Model_isSecret h3) (fun v5 I5 J5 h4 => ?_)
    refine eq_ite (fun _ => ?_) (fun _ => ?_)
    · skip
      exact eq_some h4
    · skip
      exact eq_some h4
theorem EQ_Model_isRow (h : EQ I) : eq (f_Model_isRow  I J) := by
  unfold f_Model_isRow
  refine eq_oc (EQ_Model_see h) (fun v1 I1 J1 h1 => ?_)
  refine eq_ite (fun _ => ?_) (fun _ => ?_)
  · skip
    exact eq_some h1
  · skip
    refine eq_oc (EQ_Model_see h1) (fun v3 I3 J3 h2 => ?_)
    refine eq_ite (fun _ => ?_) (fun _ => ?_)
    · skip
      exact eq_some h2
    · skip
      exact eq_some h2
theorem EQ_Model_isSecretRow {p1 : Int32} (h : EQ I) : eq (f_Model_isSecretRow p1 I J) := by
  unfold f_Model_isSecretRow
  refine eq_ite (fun _ => ?_) (fun _ => ?_)
  · skip
    exact eq_some h
  · skip
    exact eq_some h
theorem EQ_Model_numberOf {p1 : Int32} (h : EQ I) : eq (f_Model_numberOf p1 I J) := by
  unfold f_Model_numberOf
  refine eq_oc (EQ_Model_isClear h) (fun v1 I1 J1 h1 => ?_)
  refine eq_ite (fun _ => ?_) (fun _ => ?_)
  · skip
    exact eq_some h1
  · skip
    exact eq_some h1
theorem EQ_Model_isDigit (h : EQ I) : eq (f_Model_isDigit  I J) := by
  unfold f_Model_isDigit
  refine eq_oc (EQ_Model_see h) (fun v1 I1 J1 h1 => ?_)
  refine eq_ite (fun _ => ?_) (fun _ => ?_)
  · skip
    exact eq_some h1
  · skip
    refine eq_oc (EQ_Model_see h1) (fun v3 I3 J3 h2 => ?_)
    refine eq_ite (fun _ => ?_) (fun _ => ?_)
    · skip
      exact eq_some h2
    · skip
      exact eq_some h2
theorem EQ_Model_lay_IV {p2 : Int32} (h : EQ I) : eq (f_Model_lay_IV p2 I J) := by
  unfold f_Model_lay_IV
  refine eq_ite (fun _ => ?_) (fun _ => ?_)
  · skip
    exact eq_none
  · skip
    refine eq_pi (EQ_o h (by decide)) (fun I2 h1 => ?_)
    refine eq_pi (EQ_u h1 (by decide) (by decide)) (fun I3 h2 => ?_)
    exact eq_some h2
theorem EQ_Model_lay_IIV {p2 : Int32} {p3 : Int32} (h : EQ I) : eq (f_Model_lay_IIV p2 p3 I J) := by
  unfold f_Model_lay_IIV
  refine eq_oc (EQ_Model_lay_IV h) (fun v1 I1 J1 h1 => ?_)
  refine eq_oc (EQ_Model_lay_IV h1) (fun v2 I2 J2 h2 => ?_)
  exact eq_some h2
theorem EQ_Model_readNumber_4 : ∀ (fu : Nat) (l1 : Int64) (l3 : Int32) (I : MI) (J : MJ), EQ I → eq (f_Model_readNumber_4  fu l1 l3 I J) := by
  intro fu
  induction fu with
  | zero => intro l1 l3 I J h; exact eq_none
  | succ fu ih =>
    intro l1 l3 I J h
    rw [f_Model_readNumber_4]
    refine eq_ite (fun _ => eq_some h) (fun _ => eq_ite (fun _ => eq_none) (fun _ => eq_ite (fun _ => eq_some h) (fun _ => eq_ite (fun _ => eq_none) (fun _ => eq_ite (fun _ => eq_some h) (fun _ => eq_ite (fun _ => eq_ite (fun _ => eq_none) (fun _ => ?_)) (fun _ => ?_))))))
    · exact eq_pl (fun _ => eq_pi (EQ_u h (by decide) (by decide)) (fun _ h1 => ih _ _ _ _ h1))
    · rw [pl_eq, pl_eq]
      exact eq_some (EQ_x (by decide))
theorem EQ_Model_readNumber_110 : ∀ (fu : Nat) (l1 : Int64) (l4 : Int32) (I : MI) (J : MJ), EQ I → eq (f_Model_readNumber_110  fu l1 l4 I J) := by
  intro fu
  induction fu with
  | zero => intro l1 l4 I J h; exact eq_none
  | succ fu ih =>
    intro l1 l4 I J h
    rw [f_Model_readNumber_110]
    refine eq_ite (fun _ => ?_) (fun _ => ?_)
    · skip
      exact eq_some h
    · skip
      refine eq_oc (EQ_Model_lay_IV h) (fun v15 I15 J15 h1 => ?_)
      exact ih _ _ _ _ h1
theorem EQ_Model_readNumber (h : EQ I) : eq (f_Model_readNumber  I J) := by
  unfold f_Model_readNumber
  refine eq_oc (EQ_Model_readNumber_4 _ _ _ _ _ h) (fun q12 I12 J12 h1 => ?_)
  refine eq_oe (fun y12 => ?_) (fun u12 => ?_)
  · skip
    exact eq_some h1
  · skip
    refine eq_oc (EQ_Model_lay_IV h1) (fun v13 I13 J13 h2 => ?_)
    refine eq_oc (EQ_Model_readNumber_110 _ _ _ _ _ h2) (fun u16 I16 J16 h3 => ?_)
    exact eq_some h3
theorem EQ_Model_readOut (h : EQ I) : eq (f_Model_readOut  I J) := by
  unfold f_Model_readOut
  refine eq_pi (EQ_u h (by decide) (by decide)) (fun I1 h1 => ?_)
  refine eq_oc (EQ_Model_isVariable h1) (fun v2 I2 J2 h2 => ?_)
  refine eq_ite (fun _ => ?_) (fun _ => ?_)
  · skip
    refine eq_oc (EQ_Model_see h2) (fun v4 I4 J4 h3 => ?_)
    refine eq_pi (EQ_u h3 (by decide) (by decide)) (fun I5 h4 => ?_)
    refine eq_oc (EQ_Model_isClear h4) (fun v6 I6 J6 h5 => ?_)
    refine eq_pl (fun v8 => ?_)
    refine eq_oc (EQ_Model_numberOf h5) (fun v10 I10 J10 h6 => ?_)
    refine eq_oc (EQ_Model_lay_IIV h6) (fun v11 I11 J11 h7 => ?_)
    refine eq_oc (EQ_Model_want h7) (fun v12 I12 J12 h8 => ?_)
    refine eq_ite (fun _ => ?_) (fun _ => ?_)
    · skip
      exact eq_some h8
    · skip
      exact eq_none
  · skip
    refine eq_oc (EQ_Model_refuse h2) (fun v14 I14 J14 h9 => ?_)
    refine eq_ite (fun _ => ?_) (fun _ => ?_)
    · skip
      exact eq_some h9
    · skip
      exact eq_none
theorem EQ_Model_readInput {p2 : Int32} {p3 : Int32} (h : EQ I) : eq (f_Model_readInput p2 p3 I J) := by
  unfold f_Model_readInput
  refine eq_oc (EQ_Model_isDigit h) (fun v1 I1 J1 h1 => ?_)
  refine eq_ite (fun _ => ?_) (fun _ => ?_)
  · skip
    refine eq_pl (fun x3 => ?_)
    refine eq_oc (EQ_Model_see h1) (fun v4 I4 J4 h2 => ?_)
    refine eq_pl (fun x5 => ?_)
    refine eq_pi (EQ_u h2 (by decide) (by decide)) (fun I6 h3 => ?_)
    refine eq_oc (EQ_Model_isClear h3) (fun v7 I7 J7 h4 => ?_)
    refine eq_oc ?_ (fun v9 I9 J9 h5 => ?_)
    · skip
      refine eq_ite (fun _ => ?_) (fun _ => ?_)
      · skip
        exact eq_some h4
      · skip
        refine eq_oc (EQ_Model_note h4) (fun v11 I11 J11 h6 => ?_)
        exact eq_some h6
    · skip
      refine eq_oc ?_ (fun v13 I13 J13 h7 => ?_)
      · skip
        refine eq_ite (fun _ => ?_) (fun _ => ?_)
        · skip
          exact eq_some h5
        · skip
          refine eq_oc (EQ_Model_note h5) (fun v15 I15 J15 h8 => ?_)
          exact eq_some h8
      · skip
        refine eq_oc (EQ_Model_numberOf h7) (fun v16 I16 J16 h9 => ?_)
        refine eq_oc (EQ_Model_lay_IIV h9) (fun v17 I17 J17 h10 => ?_)
        refine eq_oc (EQ_Model_lay_IV h10) (fun v18 I18 J18 h11 => ?_)
        refine eq_oc (EQ_Model_want h11) (fun v19 I19 J19 h12 => ?_)
        refine eq_ite (fun _ => ?_) (fun _ => ?_)
        · skip
          exact eq_some h12
        · skip
          exact eq_none
  · skip
    refine eq_oc (EQ_Model_refuse h1) (fun v21 I21 J21 h13 => ?_)
    refine eq_ite (fun _ => ?_) (fun _ => ?_)
    · skip
      exact eq_some h13
    · skip
      exact eq_none
theorem EQ_Model_readBit {p2 : Int32} {p3 : Int32} (h : EQ I) : eq (f_Model_readBit p2 p3 I J) := by
  unfold f_Model_readBit
  refine eq_oc (EQ_Model_isClear h) (fun v1 I1 J1 h1 => ?_)
  refine eq_oc ?_ (fun v3 I3 J3 h2 => ?_)
  · skip
    refine eq_ite (fun _ => ?_) (fun _ => ?_)
    · skip
      exact eq_some h1
    · skip
      refine eq_oc (EQ_Model_note h1) (fun v5 I5 J5 h3 => ?_)
      exact eq_some h3
  · skip
    refine eq_oc (EQ_Model_numberOf h2) (fun v6 I6 J6 h4 => ?_)
    refine eq_oc (EQ_Model_lay_IIV h4) (fun v7 I7 J7 h5 => ?_)
    refine eq_oc (EQ_Model_want h5) (fun v8 I8 J8 h6 => ?_)
    refine eq_ite (fun _ => ?_) (fun _ => ?_)
    · skip
      exact eq_some h6
    · skip
      exact eq_none
theorem EQ_Model_isSum_7 : ∀ (fu : Nat) (l1 : Int32) (I : MI) (J : MJ), EQ I → eq (f_Model_isSum_7  fu l1 I J) := by
  intro fu
  induction fu with
  | zero => intro l1 I J h; exact eq_none
  | succ fu ih =>
    intro l1 I J h
    rw [f_Model_isSum_7]
    refine eq_ite (fun _ => ?_) (fun _ => ?_)
    · skip
      exact eq_some h
    · skip
      refine eq_ite (fun _ => ?_) (fun _ => ?_)
      · skip
        exact eq_none
      · skip
        refine eq_ite (fun _ => ?_) (fun _ => ?_)
        · skip
          exact eq_some h
        · skip
          exact ih _ _ _ h
theorem EQ_Model_isSum (h : EQ I) : eq (f_Model_isSum  I J) := by
  unfold f_Model_isSum
  refine eq_pl (fun x1 => ?_)
  refine eq_oc (EQ_Model_isSum_7 _ _ _ _ h) (fun u5 I5 J5 h1 => ?_)
  refine eq_ite (fun _ => ?_) (fun _ => ?_)
  · skip
    exact eq_some h1
  · skip
    refine eq_ite (fun _ => ?_) (fun _ => ?_)
    · skip
      exact eq_none
    · skip
      refine eq_ite (fun _ => ?_) (fun _ => ?_)
      · skip
        exact eq_some h1
      · skip
        exact eq_some h1
theorem EQ_Model_readRows {p2 : Int32} {p3 : Int32} (h : EQ I) : eq (f_Model_readRows p2 p3 I J) := by
  unfold f_Model_readRows
  refine eq_oc (EQ_Model_isRow h) (fun v1 I1 J1 h1 => ?_)
  refine eq_ite (fun _ => ?_) (fun _ => ?_)
  · skip
    refine eq_oc (EQ_Model_see h1) (fun v3 I3 J3 h2 => ?_)
    refine eq_pi (EQ_u h2 (by decide) (by decide)) (fun I4 h3 => ?_)
    refine eq_oc (EQ_Model_see h3) (fun v5 I5 J5 h4 => ?_)
    refine eq_ite (fun _ => ?_) (fun _ => ?_)
    · skip
      refine eq_pi (EQ_u h4 (by decide) (by decide)) (fun I7 h5 => ?_)
      refine eq_oc (EQ_Model_isRow h5) (fun v8 I8 J8 h6 => ?_)
      refine eq_ite (fun _ => ?_) (fun _ => ?_)
      · skip
        refine eq_oc (EQ_Model_see h6) (fun v10 I10 J10 h7 => ?_)
        refine eq_pi (EQ_u h7 (by decide) (by decide)) (fun I11 h8 => ?_)
        refine eq_oc (EQ_Model_isSecretRow h8) (fun v12 I12 J12 h9 => ?_)
        refine eq_oc ?_ (fun v14 I14 J14 h10 => ?_)
        · skip
          refine eq_ite (fun _ => ?_) (fun _ => ?_)
          · skip
            exact eq_some h9
          · skip
            refine eq_oc (EQ_Model_isSecretRow h9) (fun v16 I16 J16 h11 => ?_)
            refine eq_ite (fun _ => ?_) (fun _ => ?_)
            · skip
              refine eq_oc (EQ_Model_note h11) (fun v18 I18 J18 h12 => ?_)
              exact eq_some h12
            · skip
              refine eq_oc (EQ_Model_isSecretRow h11) (fun v19 I19 J19 h13 => ?_)
              refine eq_ite (fun _ => ?_) (fun _ => ?_)
              · skip
                exact eq_some h13
              · skip
                refine eq_oc (EQ_Model_note h13) (fun v21 I21 J21 h14 => ?_)
                exact eq_some h14
        · skip
          refine eq_pl (fun v24 => ?_)
          refine eq_oc (EQ_Model_lay_IIV h10) (fun v27 I27 J27 h15 => ?_)
          refine eq_oc (EQ_Model_lay_IV h15) (fun v28 I28 J28 h16 => ?_)
          refine eq_oc (EQ_Model_lay_IV h16) (fun v29 I29 J29 h17 => ?_)
          refine eq_oc (EQ_Model_want h17) (fun v30 I30 J30 h18 => ?_)
          refine eq_ite (fun _ => ?_) (fun _ => ?_)
          · skip
            exact eq_some h18
          · skip
            exact eq_none
      · skip
        refine eq_oc (EQ_Model_refuse h6) (fun v32 I32 J32 h19 => ?_)
        refine eq_ite (fun _ => ?_) (fun _ => ?_)
        · skip
          exact eq_some h19
        · skip
          exact eq_none
    · skip
      refine eq_ite (fun _ => ?_) (fun _ => ?_)
      · skip
        refine eq_pi (EQ_u h4 (by decide) (by decide)) (fun I35 h20 => ?_)
        refine eq_oc (EQ_Model_isRow h20) (fun v36 I36 J36 h21 => ?_)
        refine eq_ite (fun _ => ?_) (fun _ => ?_)
        · skip
          refine eq_oc (EQ_Model_see h21) (fun v38 I38 J38 h22 => ?_)
          refine eq_pi (EQ_u h22 (by decide) (by decide)) (fun I39 h23 => ?_)
          refine eq_oc (EQ_Model_isSecretRow h23) (fun v40 I40 J40 h24 => ?_)
          refine eq_oc ?_ (fun v42 I42 J42 h25 => ?_)
          · skip
            refine eq_ite (fun _ => ?_) (fun _ => ?_)
            · skip
              exact eq_some h24
            · skip
              refine eq_oc (EQ_Model_isSecretRow h24) (fun v44 I44 J44 h26 => ?_)
              refine eq_ite (fun _ => ?_) (fun _ => ?_)
              · skip
                refine eq_oc (EQ_Model_note h26) (fun v46 I46 J46 h27 => ?_)
                exact eq_some h27
              · skip
                refine eq_oc (EQ_Model_isSecretRow h26) (fun v47 I47 J47 h28 => ?_)
                refine eq_ite (fun _ => ?_) (fun _ => ?_)
                · skip
                  exact eq_some h28
                · skip
                  refine eq_oc (EQ_Model_note h28) (fun v49 I49 J49 h29 => ?_)
                  exact eq_some h29
          · skip
            refine eq_pl (fun v52 => ?_)
            refine eq_oc (EQ_Model_lay_IIV h25) (fun v55 I55 J55 h30 => ?_)
            refine eq_oc (EQ_Model_lay_IV h30) (fun v56 I56 J56 h31 => ?_)
            refine eq_oc (EQ_Model_lay_IV h31) (fun v57 I57 J57 h32 => ?_)
            refine eq_oc (EQ_Model_want h32) (fun v58 I58 J58 h33 => ?_)
            refine eq_ite (fun _ => ?_) (fun _ => ?_)
            · skip
              exact eq_some h33
            · skip
              exact eq_none
        · skip
          refine eq_oc (EQ_Model_refuse h21) (fun v60 I60 J60 h34 => ?_)
          refine eq_ite (fun _ => ?_) (fun _ => ?_)
          · skip
            exact eq_some h34
          · skip
            exact eq_none
      · skip
        refine eq_ite (fun _ => ?_) (fun _ => ?_)
        · skip
          refine eq_pi (EQ_u h4 (by decide) (by decide)) (fun I63 h35 => ?_)
          refine eq_oc (EQ_Model_isRow h35) (fun v64 I64 J64 h36 => ?_)
          refine eq_ite (fun _ => ?_) (fun _ => ?_)
          · skip
            refine eq_oc (EQ_Model_see h36) (fun v66 I66 J66 h37 => ?_)
            refine eq_pi (EQ_u h37 (by decide) (by decide)) (fun I67 h38 => ?_)
            refine eq_oc (EQ_Model_isSecretRow h38) (fun v68 I68 J68 h39 => ?_)
            refine eq_oc ?_ (fun v70 I70 J70 h40 => ?_)
            · skip
              refine eq_ite (fun _ => ?_) (fun _ => ?_)
              · skip
                exact eq_some h39
              · skip
                refine eq_oc (EQ_Model_isSecretRow h39) (fun v72 I72 J72 h41 => ?_)
                refine eq_ite (fun _ => ?_) (fun _ => ?_)
                · skip
                  refine eq_oc (EQ_Model_note h41) (fun v74 I74 J74 h42 => ?_)
                  exact eq_some h42
                · skip
                  refine eq_oc (EQ_Model_isSecretRow h41) (fun v75 I75 J75 h43 => ?_)
                  refine eq_ite (fun _ => ?_) (fun _ => ?_)
                  · skip
                    exact eq_some h43
                  · skip
                    refine eq_oc (EQ_Model_note h43) (fun v77 I77 J77 h44 => ?_)
                    exact eq_some h44
            · skip
              refine eq_pl (fun v80 => ?_)
              refine eq_oc (EQ_Model_lay_IIV h40) (fun v83 I83 J83 h45 => ?_)
              refine eq_oc (EQ_Model_lay_IV h45) (fun v84 I84 J84 h46 => ?_)
              refine eq_oc (EQ_Model_lay_IV h46) (fun v85 I85 J85 h47 => ?_)
              refine eq_oc (EQ_Model_want h47) (fun v86 I86 J86 h48 => ?_)
              refine eq_ite (fun _ => ?_) (fun _ => ?_)
              · skip
                exact eq_some h48
              · skip
                exact eq_none
          · skip
            refine eq_oc (EQ_Model_refuse h36) (fun v88 I88 J88 h49 => ?_)
            refine eq_ite (fun _ => ?_) (fun _ => ?_)
            · skip
              exact eq_some h49
            · skip
              exact eq_none
        · skip
          refine eq_oc (EQ_Model_refuse h4) (fun v90 I90 J90 h50 => ?_)
          refine eq_ite (fun _ => ?_) (fun _ => ?_)
          · skip
            exact eq_some h50
          · skip
            exact eq_none
  · skip
    refine eq_oc (EQ_Model_refuse h1) (fun v92 I92 J92 h51 => ?_)
    refine eq_ite (fun _ => ?_) (fun _ => ?_)
    · skip
      exact eq_some h51
    · skip
      exact eq_none
theorem EQ_Model_fill {p2 : Int32} {p3 : Int32} (h : EQ I) : eq (f_Model_fill p2 p3 I J) := by
  unfold f_Model_fill
  refine eq_ite (fun _ => ?_) (fun _ => ?_)
  · skip
    exact eq_none
  · skip
    refine eq_pi (EQ_o h (by decide)) (fun I2 h1 => ?_)
    refine eq_ite (fun _ => ?_) (fun _ => ?_)
    · skip
      exact eq_none
    · skip
      refine eq_pi (EQ_o h1 (by decide)) (fun I4 h2 => ?_)
      exact eq_some h2
theorem EQ_Model_place_2 : ∀ (fu : Nat) (l1 : Int32) (I : MI) (J : MJ), EQ I → eq (f_Model_place_2  fu l1 I J) := by
  intro fu
  induction fu with
  | zero => intro l1 I J h; exact eq_none
  | succ fu ih =>
    intro l1 I J h
    rw [f_Model_place_2]
    refine eq_ite (fun _ => ?_) (fun _ => ?_)
    · skip
      exact eq_some h
    · skip
      refine eq_ite (fun _ => ?_) (fun _ => ?_)
      · skip
        exact eq_none
      · skip
        refine eq_ite (fun _ => ?_) (fun _ => ?_)
        · skip
          exact eq_none
        · skip
          refine eq_ite (fun _ => ?_) (fun _ => ?_)
          · skip
            refine eq_ite (fun _ => ?_) (fun _ => ?_)
            · skip
              exact eq_none
            · skip
              refine eq_ite (fun _ => ?_) (fun _ => ?_)
              · skip
                exact eq_none
              · skip
                refine eq_ite (fun _ => ?_) (fun _ => ?_)
                · skip
                  exact eq_none
                · skip
                  refine eq_oc (EQ_Model_fill h) (fun v8 I8 J8 h1 => ?_)
                  exact ih _ _ _ h1
          · skip
            refine eq_ite (fun _ => ?_) (fun _ => ?_)
            · skip
              exact eq_none
            · skip
              refine eq_oc (EQ_Model_note h) (fun v10 I10 J10 h2 => ?_)
              exact ih _ _ _ h2
theorem EQ_Model_place (h : EQ I) : eq (f_Model_place  I J) := by
  unfold f_Model_place
  refine eq_oc (EQ_Model_place_2 _ _ _ _ h) (fun u11 I11 J11 h1 => ?_)
  exact eq_some h1
theorem EQ_Model_compile_47 : ∀ (fu : Nat) (l1 : Int32) (I : MI) (J : MJ), EQ I → eq (f_Model_compile_47  fu l1 I J) := by
  intro fu
  induction fu with
  | zero => intro l1 I J h; exact eq_none
  | succ fu ih =>
    intro l1 I J h
    rw [f_Model_compile_47]
    refine eq_ite (fun _ => ?_) (fun _ => ?_)
    · skip
      exact eq_some h
    · skip
      refine eq_ite (fun _ => ?_) (fun _ => ?_)
      · skip
        exact eq_none
      · skip
        refine eq_pi (EQ_o h (by decide)) (fun I12 h1 => ?_)
        exact ih _ _ _ h1
theorem EQ_Model_readFactor_79 {R : M3} (hR : ∀ k a b I J, EQ I → eq (R k a b I J)) : ∀ (fu : Nat)  (I : MI) (J : MJ), EQ I → eq (f_Model_readFactor_79 R fu  I J) := by
  intro fu
  induction fu with
  | zero => intro  I J h; exact eq_none
  | succ fu ih =>
    intro  I J h
    rw [f_Model_readFactor_79]
    refine eq_oc (EQ_Model_takes h) (fun v5 I5 J5 h1 => ?_)
    refine eq_ite (fun _ => ?_) (fun _ => ?_)
    · skip
      exact eq_some h1
    · skip
      refine eq_ite (fun _ => ?_) (fun _ => ?_)
      · skip
        refine eq_oc (EQ_Model_lay_IV h1) (fun v8 I8 J8 h2 => ?_)
        exact ih  _ _ h2
      · skip
        refine eq_oc (EQ_Model_lay_IV h1) (fun v9 I9 J9 h3 => ?_)
        exact ih  _ _ h3
theorem EQ_Model_readProduct_14 {R : M3} (hR : ∀ k a b I J, EQ I → eq (R k a b I J)) : ∀ (fu : Nat) (l1 : Int32) (I : MI) (J : MJ), EQ I → eq (f_Model_readProduct_14 R fu l1 I J) := by
  intro fu
  induction fu with
  | zero => intro l1 I J h; exact eq_none
  | succ fu ih =>
    intro l1 I J h
    rw [f_Model_readProduct_14]
    refine eq_oc (EQ_Model_takes h) (fun v4 I4 J4 h1 => ?_)
    refine eq_ite (fun _ => ?_) (fun _ => ?_)
    · skip
      exact eq_some h1
    · skip
      refine eq_oc (hR 2 _ _ _ _ h1) (fun v6 I6 J6 h2 => ?_)
      refine eq_ite (fun _ => ?_) (fun _ => ?_)
      · skip
        refine eq_pl (fun v9 => ?_)
        refine eq_oc (EQ_Model_lay_IV h2) (fun v12 I12 J12 h3 => ?_)
        refine eq_ite (fun _ => ?_) (fun _ => ?_)
        · skip
          exact ih _ _ _ h3
        · skip
          refine eq_ite (fun _ => ?_) (fun _ => ?_)
          · skip
            exact ih _ _ _ h3
          · skip
            exact ih _ _ _ h3
      · skip
        exact eq_some h2
theorem EQ_Model_readX_14 {R : M3} (hR : ∀ k a b I J, EQ I → eq (R k a b I J)) : ∀ (fu : Nat) (l1 : Int32) (I : MI) (J : MJ), EQ I → eq (f_Model_readX_14 R fu l1 I J) := by
  intro fu
  induction fu with
  | zero => intro l1 I J h; exact eq_none
  | succ fu ih =>
    intro l1 I J h
    rw [f_Model_readX_14]
    refine eq_oc (EQ_Model_see h) (fun v4 I4 J4 h1 => ?_)
    refine eq_ite (fun _ => ?_) (fun _ => ?_)
    · skip
      refine eq_oc (EQ_Model_see h1) (fun v6 I6 J6 h2 => ?_)
      refine eq_pl (fun v8 => ?_)
      refine eq_pi (EQ_u h2 (by decide) (by decide)) (fun I10 h3 => ?_)
      refine eq_oc (hR 1 _ _ _ _ h3) (fun v11 I11 J11 h4 => ?_)
      refine eq_ite (fun _ => ?_) (fun _ => ?_)
      · skip
        refine eq_pl (fun v14 => ?_)
        refine eq_oc (EQ_Model_lay_IV h4) (fun v17 I17 J17 h5 => ?_)
        exact ih _ _ _ h5
      · skip
        exact eq_some h4
    · skip
      refine eq_oc (EQ_Model_see h1) (fun v18 I18 J18 h6 => ?_)
      refine eq_ite (fun _ => ?_) (fun _ => ?_)
      · skip
        exact eq_some h6
      · skip
        refine eq_oc (EQ_Model_see h6) (fun v20 I20 J20 h7 => ?_)
        refine eq_pl (fun v22 => ?_)
        refine eq_pi (EQ_u h7 (by decide) (by decide)) (fun I24 h8 => ?_)
        refine eq_oc (hR 1 _ _ _ _ h8) (fun v25 I25 J25 h9 => ?_)
        refine eq_ite (fun _ => ?_) (fun _ => ?_)
        · skip
          refine eq_pl (fun v28 => ?_)
          refine eq_oc (EQ_Model_lay_IV h9) (fun v31 I31 J31 h10 => ?_)
          exact ih _ _ _ h10
        · skip
          exact eq_some h9
theorem EQ_Model_readStatements_0 {R : M3} (hR : ∀ k a b I J, EQ I → eq (R k a b I J)) : ∀ (fu : Nat)  (I : MI) (J : MJ), EQ I → eq (f_Model_readStatements_0 R fu  I J) := by
  intro fu
  induction fu with
  | zero => intro  I J h; exact eq_none
  | succ fu ih =>
    intro  I J h
    rw [f_Model_readStatements_0]
    refine eq_oc (EQ_Model_see h) (fun v1 I1 J1 h1 => ?_)
    refine eq_ite (fun _ => ?_) (fun _ => ?_)
    · skip
      exact eq_some h1
    · skip
      refine eq_oc (EQ_Model_see h1) (fun v3 I3 J3 h2 => ?_)
      refine eq_ite (fun _ => ?_) (fun _ => ?_)
      · skip
        exact eq_some h2
      · skip
        refine eq_oc (EQ_Model_see h2) (fun v5 I5 J5 h3 => ?_)
        refine eq_ite (fun _ => ?_) (fun _ => ?_)
        · skip
          exact eq_some h3
        · skip
          refine eq_oc (hR 6 _ _ _ _ h3) (fun v7 I7 J7 h4 => ?_)
          refine eq_ite (fun _ => ?_) (fun _ => ?_)
          · skip
            exact ih  _ _ h4
          · skip
            exact eq_some h4
theorem EQ_Model_readStatements {R : M3} (hR : ∀ k a b I J, EQ I → eq (R k a b I J)) (h : EQ I) : eq (f_Model_readStatements R I J) := by
  unfold f_Model_readStatements
  refine eq_oc (EQ_Model_readStatements_0 hR _  _ _ h) (fun q9 I9 J9 h1 => ?_)
  refine eq_oe (fun y9 => ?_) (fun u9 => ?_)
  · skip
    exact eq_some h1
  · skip
    exact eq_some h1
theorem EQ_Model_readStatement {R : M3} (hR : ∀ k a b I J, EQ I → eq (R k a b I J)) (h : EQ I) : eq (f_Model_readStatement R I J) := by
  unfold f_Model_readStatement
  refine eq_oc (EQ_Model_see h) (fun v1 I1 J1 h1 => ?_)
  refine eq_ite (fun _ => ?_) (fun _ => ?_)
  · skip
    refine eq_ite (fun _ => ?_) (fun _ => ?_)
    · skip
      refine eq_oc (hR 10 _ _ _ _ h1) (fun v4 I4 J4 h2 => ?_)
      refine eq_ite (fun _ => ?_) (fun _ => ?_)
      · skip
        exact eq_some h2
      · skip
        exact eq_none
    · skip
      refine eq_ite (fun _ => ?_) (fun _ => ?_)
      · skip
        refine eq_ite (fun _ => ?_) (fun _ => ?_)
        · skip
          refine eq_oc (EQ_Model_isRow h1) (fun v8 I8 J8 h3 => ?_)
          refine eq_ite (fun _ => ?_) (fun _ => ?_)
          · skip
            refine eq_oc (EQ_Model_isVariable h3) (fun v10 I10 J10 h4 => ?_)
            refine eq_ite (fun _ => ?_) (fun _ => ?_)
            · skip
              refine eq_pl (fun x12 => ?_)
              refine eq_pi (EQ_u h4 (by decide) (by decide)) (fun I13 h5 => ?_)
              refine eq_oc (EQ_Model_takes h5) (fun v14 I14 J14 h6 => ?_)
              refine eq_ite (fun _ => ?_) (fun _ => ?_)
              · skip
                refine eq_oc (EQ_Model_takes h6) (fun v16 I16 J16 h7 => ?_)
                refine eq_ite (fun _ => ?_) (fun _ => ?_)
                · skip
                  refine eq_oc (EQ_Model_takes h7) (fun v18 I18 J18 h8 => ?_)
                  refine eq_ite (fun _ => ?_) (fun _ => ?_)
                  · skip
                    refine eq_oc (EQ_Model_takes h8) (fun v20 I20 J20 h9 => ?_)
                    refine eq_ite (fun _ => ?_) (fun _ => ?_)
                    · skip
                      refine eq_oc (EQ_Model_isVariable h9) (fun v22 I22 J22 h10 => ?_)
                      refine eq_ite (fun _ => ?_) (fun _ => ?_)
                      · skip
                        refine eq_oc (EQ_Model_see h10) (fun v24 I24 J24 h11 => ?_)
                        refine eq_oc (EQ_Model_isSecret h11) (fun v25 I25 J25 h12 => ?_)
                        refine eq_oc ?_ (fun v27 I27 J27 h13 => ?_)
                        · skip
                          refine eq_ite (fun _ => ?_) (fun _ => ?_)
                          · skip
                            exact eq_some h12
                          · skip
                            refine eq_oc (EQ_Model_note h12) (fun v29 I29 J29 h14 => ?_)
                            exact eq_some h14
                        · skip
                          refine eq_oc (EQ_Model_isClear h13) (fun v30 I30 J30 h15 => ?_)
                          refine eq_oc ?_ (fun v32 I32 J32 h16 => ?_)
                          · skip
                            refine eq_ite (fun _ => ?_) (fun _ => ?_)
                            · skip
                              exact eq_some h15
                            · skip
                              refine eq_oc (EQ_Model_note h15) (fun v34 I34 J34 h17 => ?_)
                              exact eq_some h17
                          · skip
                            refine eq_pi (EQ_u h16 (by decide) (by decide)) (fun I35 h18 => ?_)
                            refine eq_oc (EQ_Model_numberOf h18) (fun v36 I36 J36 h19 => ?_)
                            refine eq_oc (EQ_Model_lay_IIV h19) (fun v37 I37 J37 h20 => ?_)
                            refine eq_oc (EQ_Model_numberOf h20) (fun v38 I38 J38 h21 => ?_)
                            refine eq_oc (EQ_Model_lay_IV h21) (fun v39 I39 J39 h22 => ?_)
                            refine eq_oc (EQ_Model_want h22) (fun v40 I40 J40 h23 => ?_)
                            refine eq_ite (fun _ => ?_) (fun _ => ?_)
                            · skip
                              exact eq_some h23
                            · skip
                              exact eq_none
                      · skip
                        refine eq_oc (EQ_Model_refuse h10) (fun v42 I42 J42 h24 => ?_)
                        refine eq_ite (fun _ => ?_) (fun _ => ?_)
                        · skip
                          exact eq_some h24
                        · skip
                          exact eq_none
                    · skip
                      refine eq_oc (EQ_Model_refuse h9) (fun v44 I44 J44 h25 => ?_)
                      refine eq_ite (fun _ => ?_) (fun _ => ?_)
                      · skip
                        exact eq_some h25
                      · skip
                        exact eq_none
                  · skip
                    refine eq_oc (EQ_Model_readBit h8) (fun v46 I46 J46 h26 => ?_)
                    refine eq_ite (fun _ => ?_) (fun _ => ?_)
                    · skip
                      exact eq_some h26
                    · skip
                      exact eq_none
                · skip
                  refine eq_oc (hR 8 _ _ _ _ h7) (fun v48 I48 J48 h27 => ?_)
                  refine eq_ite (fun _ => ?_) (fun _ => ?_)
                  · skip
                    exact eq_some h27
                  · skip
                    exact eq_none
              · skip
                refine eq_oc (EQ_Model_readInput h6) (fun v50 I50 J50 h28 => ?_)
                refine eq_ite (fun _ => ?_) (fun _ => ?_)
                · skip
                  exact eq_some h28
                · skip
                  exact eq_none
            · skip
              refine eq_oc (EQ_Model_refuse h4) (fun v52 I52 J52 h29 => ?_)
              refine eq_ite (fun _ => ?_) (fun _ => ?_)
              · skip
                exact eq_some h29
              · skip
                exact eq_none
          · skip
            refine eq_oc (hR 9 _ _ _ _ h3) (fun v54 I54 J54 h30 => ?_)
            refine eq_ite (fun _ => ?_) (fun _ => ?_)
            · skip
              exact eq_some h30
            · skip
              exact eq_none
        · skip
          refine eq_oc (hR 7 _ _ _ _ h1) (fun v56 I56 J56 h31 => ?_)
          refine eq_ite (fun _ => ?_) (fun _ => ?_)
          · skip
            exact eq_some h31
          · skip
            exact eq_none
      · skip
        refine eq_oc (hR 10 _ _ _ _ h1) (fun v58 I58 J58 h32 => ?_)
        refine eq_ite (fun _ => ?_) (fun _ => ?_)
        · skip
          exact eq_some h32
        · skip
          exact eq_none
  · skip
    refine eq_oc (EQ_Model_readOut h1) (fun v60 I60 J60 h33 => ?_)
    refine eq_ite (fun _ => ?_) (fun _ => ?_)
    · skip
      exact eq_some h33
    · skip
      exact eq_none
theorem EQ_Model_readRoutine {R : M3} (hR : ∀ k a b I J, EQ I → eq (R k a b I J)) (h : EQ I) : eq (f_Model_readRoutine R I J) := by
  unfold f_Model_readRoutine
  refine eq_pl (fun x1 => ?_)
  refine eq_pi (EQ_u h (by decide) (by decide)) (fun I2 h1 => ?_)
  refine eq_oc (EQ_Model_isDigit h1) (fun v3 I3 J3 h2 => ?_)
  refine eq_ite (fun _ => ?_) (fun _ => ?_)
  · skip
    refine eq_oc (EQ_Model_see h2) (fun v5 I5 J5 h3 => ?_)
    refine eq_pl (fun x6 => ?_)
    refine eq_pi (EQ_u h3 (by decide) (by decide)) (fun I7 h4 => ?_)
    refine eq_oc (EQ_Model_takes h4) (fun v8 I8 J8 h5 => ?_)
    refine eq_ite (fun _ => ?_) (fun _ => ?_)
    · skip
      refine eq_oc (EQ_Model_see h5) (fun v10 I10 J10 h6 => ?_)
      refine eq_ite (fun _ => ?_) (fun _ => ?_)
      · skip
        refine eq_oc (EQ_Model_refuse h6) (fun v12 I12 J12 h7 => ?_)
        refine eq_ite (fun _ => ?_) (fun _ => ?_)
        · skip
          exact eq_some h7
        · skip
          exact eq_none
      · skip
        refine eq_ite (fun _ => ?_) (fun _ => ?_)
        · skip
          refine eq_pi (EQ_u h6 (by decide) (by decide)) (fun I15 h8 => ?_)
          refine eq_ite (fun _ => ?_) (fun _ => ?_)
          · skip
            exact eq_none
          · skip
            refine eq_oc ?_ (fun v18 I18 J18 h9 => ?_)
            · skip
              refine eq_ite (fun _ => ?_) (fun _ => ?_)
              · skip
                exact eq_some h8
              · skip
                refine eq_oc (EQ_Model_note h8) (fun v20 I20 J20 h10 => ?_)
                exact eq_some h10
            · skip
              refine eq_oc (EQ_Model_lay_IV h9) (fun v21 I21 J21 h11 => ?_)
              refine eq_pl (fun x22 => ?_)
              refine eq_oc (EQ_Model_lay_IIV h11) (fun v23 I23 J23 h12 => ?_)
              refine eq_ite (fun _ => ?_) (fun _ => ?_)
              · skip
                exact eq_none
              · skip
                refine eq_pi (EQ_o h12 (by decide)) (fun I25 h13 => ?_)
                refine eq_pi (EQ_u h13 (by decide) (by decide)) (fun I26 h14 => ?_)
                refine eq_oc (hR 5 _ _ _ _ h14) (fun v27 I27 J27 h15 => ?_)
                refine eq_ite (fun _ => ?_) (fun _ => ?_)
                · skip
                  refine eq_pi (EQ_u h15 (by decide) (by decide)) (fun I29 h16 => ?_)
                  refine eq_oc (EQ_Model_lay_IV h16) (fun v30 I30 J30 h17 => ?_)
                  refine eq_oc (EQ_Model_fill h17) (fun v31 I31 J31 h18 => ?_)
                  refine eq_oc (EQ_Model_want h18) (fun v32 I32 J32 h19 => ?_)
                  refine eq_ite (fun _ => ?_) (fun _ => ?_)
                  · skip
                    exact eq_some h19
                  · skip
                    exact eq_none
                · skip
                  exact eq_some h15
        · skip
          refine eq_oc (EQ_Model_refuse h6) (fun v34 I34 J34 h20 => ?_)
          refine eq_ite (fun _ => ?_) (fun _ => ?_)
          · skip
            exact eq_some h20
          · skip
            exact eq_none
    · skip
      refine eq_oc (EQ_Model_lay_IV h5) (fun v36 I36 J36 h21 => ?_)
      refine eq_ite (fun _ => ?_) (fun _ => ?_)
      · skip
        exact eq_none
      · skip
        refine eq_pi (EQ_o h21 (by decide)) (fun I38 h22 => ?_)
        refine eq_ite (fun _ => ?_) (fun _ => ?_)
        · skip
          exact eq_none
        · skip
          refine eq_pi (EQ_o h22 (by decide)) (fun I40 h23 => ?_)
          refine eq_ite (fun _ => ?_) (fun _ => ?_)
          · skip
            exact eq_none
          · skip
            refine eq_pi (EQ_o h23 (by decide)) (fun I42 h24 => ?_)
            refine eq_pi (EQ_u h24 (by decide) (by decide)) (fun I43 h25 => ?_)
            refine eq_oc (EQ_Model_lay_IIV h25) (fun v44 I44 J44 h26 => ?_)
            exact eq_some h26
  · skip
    refine eq_oc (EQ_Model_refuse h2) (fun v45 I45 J45 h27 => ?_)
    refine eq_ite (fun _ => ?_) (fun _ => ?_)
    · skip
      exact eq_some h27
    · skip
      exact eq_none
theorem EQ_Model_readTurn {R : M3} {p2 : Int32} (hR : ∀ k a b I J, EQ I → eq (R k a b I J)) (h : EQ I) : eq (f_Model_readTurn R p2 I J) := by
  unfold f_Model_readTurn
  refine eq_ite (fun _ => ?_) (fun _ => ?_)
  · skip
    refine eq_pi (EQ_u h (by decide) (by decide)) (fun I2 h1 => ?_)
    refine eq_pi (EQ_u h1 (by decide) (by decide)) (fun I3 h2 => ?_)
    refine eq_pi (EQ_u h2 (by decide) (by decide)) (fun I4 h3 => ?_)
    refine eq_oc (EQ_Model_isVariable h3) (fun v5 I5 J5 h4 => ?_)
    refine eq_ite (fun _ => ?_) (fun _ => ?_)
    · skip
      refine eq_oc (EQ_Model_see h4) (fun v7 I7 J7 h5 => ?_)
      refine eq_oc (EQ_Model_isSecret h5) (fun v8 I8 J8 h6 => ?_)
      refine eq_oc ?_ (fun v10 I10 J10 h7 => ?_)
      · skip
        refine eq_ite (fun _ => ?_) (fun _ => ?_)
        · skip
          exact eq_some h6
        · skip
          refine eq_oc (EQ_Model_note h6) (fun v12 I12 J12 h8 => ?_)
          exact eq_some h8
      · skip
        refine eq_oc (EQ_Model_see h7) (fun v13 I13 J13 h9 => ?_)
        refine eq_oc (EQ_Model_numberOf h9) (fun v14 I14 J14 h10 => ?_)
        refine eq_pi (EQ_u h10 (by decide) (by decide)) (fun I15 h11 => ?_)
        refine eq_oc (EQ_Model_want h11) (fun v16 I16 J16 h12 => ?_)
        refine eq_ite (fun _ => ?_) (fun _ => ?_)
        · skip
          refine eq_pl (fun x18 => ?_)
          refine eq_oc (EQ_Model_lay_IIV h12) (fun v19 I19 J19 h13 => ?_)
          refine eq_pl (fun x20 => ?_)
          refine eq_oc (EQ_Model_lay_IIV h13) (fun v21 I21 J21 h14 => ?_)
          refine eq_oc (hR 5 _ _ _ _ h14) (fun v22 I22 J22 h15 => ?_)
          refine eq_ite (fun _ => ?_) (fun _ => ?_)
          · skip
            refine eq_oc (EQ_Model_lay_IV h15) (fun v24 I24 J24 h16 => ?_)
            refine eq_pl (fun x25 => ?_)
            refine eq_oc (EQ_Model_lay_IIV h16) (fun v26 I26 J26 h17 => ?_)
            refine eq_ite (fun _ => ?_) (fun _ => ?_)
            · skip
              refine eq_oc (EQ_Model_fill h17) (fun v28 I28 J28 h18 => ?_)
              refine eq_oc (EQ_Model_fill h18) (fun v29 I29 J29 h19 => ?_)
              refine eq_pi (EQ_u h19 (by decide) (by decide)) (fun I30 h20 => ?_)
              refine eq_pi (EQ_u h20 (by decide) (by decide)) (fun I31 h21 => ?_)
              refine eq_oc (EQ_Model_want h21) (fun v32 I32 J32 h22 => ?_)
              refine eq_ite (fun _ => ?_) (fun _ => ?_)
              · skip
                exact eq_some h22
              · skip
                exact eq_none
            · skip
              refine eq_oc (EQ_Model_want h17) (fun v34 I34 J34 h23 => ?_)
              refine eq_ite (fun _ => ?_) (fun _ => ?_)
              · skip
                refine eq_oc (EQ_Model_fill h23) (fun v36 I36 J36 h24 => ?_)
                refine eq_oc (hR 5 _ _ _ _ h24) (fun v37 I37 J37 h25 => ?_)
                refine eq_ite (fun _ => ?_) (fun _ => ?_)
                · skip
                  refine eq_oc (EQ_Model_fill h25) (fun v39 I39 J39 h26 => ?_)
                  refine eq_pi (EQ_u h26 (by decide) (by decide)) (fun I40 h27 => ?_)
                  refine eq_pi (EQ_u h27 (by decide) (by decide)) (fun I41 h28 => ?_)
                  refine eq_oc (EQ_Model_want h28) (fun v42 I42 J42 h29 => ?_)
                  refine eq_ite (fun _ => ?_) (fun _ => ?_)
                  · skip
                    exact eq_some h29
                  · skip
                    exact eq_none
                · skip
                  exact eq_some h25
              · skip
                exact eq_some h23
          · skip
            exact eq_some h15
        · skip
          exact eq_some h12
    · skip
      refine eq_oc (EQ_Model_refuse h4) (fun v44 I44 J44 h30 => ?_)
      refine eq_ite (fun _ => ?_) (fun _ => ?_)
      · skip
        exact eq_some h30
      · skip
        exact eq_none
  · skip
    refine eq_oc (EQ_Model_refuse h) (fun v46 I46 J46 h31 => ?_)
    refine eq_ite (fun _ => ?_) (fun _ => ?_)
    · skip
      exact eq_some h31
    · skip
      exact eq_none
theorem EQ_Model_readValue {R : M3} {p2 : Int32} {p3 : Int32} (hR : ∀ k a b I J, EQ I → eq (R k a b I J)) (h : EQ I) : eq (f_Model_readValue R p2 p3 I J) := by
  unfold f_Model_readValue
  refine eq_oc (EQ_Model_isRow h) (fun v1 I1 J1 h1 => ?_)
  refine eq_ite (fun _ => ?_) (fun _ => ?_)
  · skip
    refine eq_oc (hR 0 _ _ _ _ h1) (fun v3 I3 J3 h2 => ?_)
    refine eq_ite (fun _ => ?_) (fun _ => ?_)
    · skip
      refine eq_oc (EQ_Model_isClear h2) (fun v5 I5 J5 h3 => ?_)
      refine eq_oc ?_ (fun v7 I7 J7 h4 => ?_)
      · skip
        refine eq_ite (fun _ => ?_) (fun _ => ?_)
        · skip
          exact eq_some h3
        · skip
          refine eq_ite (fun _ => ?_) (fun _ => ?_)
          · skip
            exact eq_some h3
          · skip
            refine eq_oc (EQ_Model_note h3) (fun v10 I10 J10 h5 => ?_)
            exact eq_some h5
      · skip
        refine eq_oc (EQ_Model_isClear h4) (fun v11 I11 J11 h6 => ?_)
        refine eq_pl (fun v13 => ?_)
        refine eq_oc (EQ_Model_numberOf h6) (fun v15 I15 J15 h7 => ?_)
        refine eq_oc (EQ_Model_lay_IIV h7) (fun v16 I16 J16 h8 => ?_)
        refine eq_oc (EQ_Model_want h8) (fun v17 I17 J17 h9 => ?_)
        refine eq_ite (fun _ => ?_) (fun _ => ?_)
        · skip
          exact eq_some h9
        · skip
          exact eq_none
    · skip
      exact eq_some h2
  · skip
    refine eq_oc (EQ_Model_isSum h1) (fun v19 I19 J19 h10 => ?_)
    refine eq_ite (fun _ => ?_) (fun _ => ?_)
    · skip
      refine eq_oc (hR 0 _ _ _ _ h10) (fun v21 I21 J21 h11 => ?_)
      refine eq_ite (fun _ => ?_) (fun _ => ?_)
      · skip
        refine eq_oc (EQ_Model_isClear h11) (fun v23 I23 J23 h12 => ?_)
        refine eq_oc ?_ (fun v25 I25 J25 h13 => ?_)
        · skip
          refine eq_ite (fun _ => ?_) (fun _ => ?_)
          · skip
            exact eq_some h12
          · skip
            refine eq_ite (fun _ => ?_) (fun _ => ?_)
            · skip
              exact eq_some h12
            · skip
              refine eq_oc (EQ_Model_note h12) (fun v28 I28 J28 h14 => ?_)
              exact eq_some h14
        · skip
          refine eq_oc (EQ_Model_isClear h13) (fun v29 I29 J29 h15 => ?_)
          refine eq_pl (fun v31 => ?_)
          refine eq_oc (EQ_Model_numberOf h15) (fun v33 I33 J33 h16 => ?_)
          refine eq_oc (EQ_Model_lay_IIV h16) (fun v34 I34 J34 h17 => ?_)
          refine eq_oc (EQ_Model_want h17) (fun v35 I35 J35 h18 => ?_)
          refine eq_ite (fun _ => ?_) (fun _ => ?_)
          · skip
            exact eq_some h18
          · skip
            exact eq_none
      · skip
        exact eq_some h11
    · skip
      refine eq_oc (EQ_Model_see h10) (fun v37 I37 J37 h19 => ?_)
      refine eq_pl (fun x38 => ?_)
      refine eq_pi (EQ_u h19 (by decide) (by decide)) (fun I39 h20 => ?_)
      refine eq_oc (EQ_Model_takes h20) (fun v40 I40 J40 h21 => ?_)
      refine eq_oc (EQ_Model_isRow h21) (fun v41 I41 J41 h22 => ?_)
      refine eq_ite (fun _ => ?_) (fun _ => ?_)
      · skip
        refine eq_oc (EQ_Model_see h22) (fun v43 I43 J43 h23 => ?_)
        refine eq_pl (fun x44 => ?_)
        refine eq_pi (EQ_u h23 (by decide) (by decide)) (fun I45 h24 => ?_)
        refine eq_oc (EQ_Model_isClear h24) (fun v46 I46 J46 h25 => ?_)
        refine eq_oc ?_ (fun v48 I48 J48 h26 => ?_)
        · skip
          refine eq_ite (fun _ => ?_) (fun _ => ?_)
          · skip
            exact eq_some h25
          · skip
            refine eq_oc (EQ_Model_note h25) (fun v50 I50 J50 h27 => ?_)
            exact eq_some h27
        · skip
          refine eq_oc (EQ_Model_lay_IIV h26) (fun v51 I51 J51 h28 => ?_)
          refine eq_oc (EQ_Model_lay_IV h28) (fun v52 I52 J52 h29 => ?_)
          refine eq_oc (EQ_Model_numberOf h29) (fun v53 I53 J53 h30 => ?_)
          refine eq_oc (EQ_Model_lay_IIV h30) (fun v54 I54 J54 h31 => ?_)
          refine eq_oc (EQ_Model_want h31) (fun v55 I55 J55 h32 => ?_)
          refine eq_ite (fun _ => ?_) (fun _ => ?_)
          · skip
            exact eq_some h32
          · skip
            exact eq_none
      · skip
        refine eq_oc (EQ_Model_refuse h22) (fun v57 I57 J57 h33 => ?_)
        refine eq_ite (fun _ => ?_) (fun _ => ?_)
        · skip
          exact eq_some h33
        · skip
          exact eq_none
theorem EQ_Model_readRow {R : M3} {p2 : Int32} (hR : ∀ k a b I J, EQ I → eq (R k a b I J)) (h : EQ I) : eq (f_Model_readRow R p2 I J) := by
  unfold f_Model_readRow
  refine eq_pl (fun x1 => ?_)
  refine eq_pi (EQ_u h (by decide) (by decide)) (fun I2 h1 => ?_)
  refine eq_oc (EQ_Model_isSecretRow h1) (fun v3 I3 J3 h2 => ?_)
  refine eq_pl (fun v5 => ?_)
  refine eq_oc (EQ_Model_takes h2) (fun v7 I7 J7 h3 => ?_)
  refine eq_ite (fun _ => ?_) (fun _ => ?_)
  · skip
    refine eq_oc (EQ_Model_see h3) (fun v9 I9 J9 h4 => ?_)
    refine eq_ite (fun _ => ?_) (fun _ => ?_)
    · skip
      refine eq_oc (hR 4 _ _ _ _ h4) (fun v11 I11 J11 h5 => ?_)
      refine eq_ite (fun _ => ?_) (fun _ => ?_)
      · skip
        exact eq_some h5
      · skip
        refine eq_oc (EQ_Model_want h5) (fun v13 I13 J13 h6 => ?_)
        refine eq_ite (fun _ => ?_) (fun _ => ?_)
        · skip
          exact eq_some h6
        · skip
          refine eq_oc (hR 0 _ _ _ _ h6) (fun v15 I15 J15 h7 => ?_)
          refine eq_ite (fun _ => ?_) (fun _ => ?_)
          · skip
            refine eq_oc (EQ_Model_isSecretRow h7) (fun v17 I17 J17 h8 => ?_)
            refine eq_oc ?_ (fun v19 I19 J19 h9 => ?_)
            · skip
              refine eq_ite (fun _ => ?_) (fun _ => ?_)
              · skip
                exact eq_some h8
              · skip
                refine eq_ite (fun _ => ?_) (fun _ => ?_)
                · skip
                  exact eq_some h8
                · skip
                  refine eq_oc (EQ_Model_note h8) (fun v22 I22 J22 h10 => ?_)
                  exact eq_some h10
            · skip
              refine eq_oc (EQ_Model_isSecretRow h9) (fun v23 I23 J23 h11 => ?_)
              refine eq_pl (fun v25 => ?_)
              refine eq_oc (EQ_Model_lay_IIV h11) (fun v27 I27 J27 h12 => ?_)
              refine eq_oc (EQ_Model_want h12) (fun v28 I28 J28 h13 => ?_)
              refine eq_ite (fun _ => ?_) (fun _ => ?_)
              · skip
                exact eq_some h13
              · skip
                exact eq_none
          · skip
            exact eq_some h7
    · skip
      refine eq_oc (EQ_Model_refuse h4) (fun v30 I30 J30 h14 => ?_)
      refine eq_ite (fun _ => ?_) (fun _ => ?_)
      · skip
        exact eq_some h14
      · skip
        exact eq_none
  · skip
    refine eq_oc (EQ_Model_readRows h3) (fun v32 I32 J32 h15 => ?_)
    refine eq_ite (fun _ => ?_) (fun _ => ?_)
    · skip
      exact eq_some h15
    · skip
      exact eq_none
theorem EQ_Model_readX {R : M3} (hR : ∀ k a b I J, EQ I → eq (R k a b I J)) (h : EQ I) : eq (f_Model_readX R I J) := by
  unfold f_Model_readX
  refine eq_oc (hR 1 _ _ _ _ h) (fun v1 I1 J1 h1 => ?_)
  refine eq_ite (fun _ => ?_) (fun _ => ?_)
  · skip
    refine eq_pl (fun x3 => ?_)
    refine eq_oc (EQ_Model_readX_14 hR _ _ _ _ h1) (fun q32 I32 J32 h2 => ?_)
    refine eq_oe (fun y32 => ?_) (fun u32 => ?_)
    · skip
      exact eq_some h2
    · skip
      refine eq_ite (fun _ => ?_) (fun _ => ?_)
      · skip
        refine eq_pi (EQ_u h2 (by decide) (by decide)) (fun I33 h3 => ?_)
        exact eq_some h3
      · skip
        exact eq_none
  · skip
    exact eq_some h1
theorem EQ_Model_readProduct {R : M3} (hR : ∀ k a b I J, EQ I → eq (R k a b I J)) (h : EQ I) : eq (f_Model_readProduct R I J) := by
  unfold f_Model_readProduct
  refine eq_oc (hR 2 _ _ _ _ h) (fun v1 I1 J1 h1 => ?_)
  refine eq_ite (fun _ => ?_) (fun _ => ?_)
  · skip
    refine eq_pl (fun x3 => ?_)
    refine eq_oc (EQ_Model_readProduct_14 hR _ _ _ _ h1) (fun q15 I15 J15 h2 => ?_)
    refine eq_oe (fun y15 => ?_) (fun u15 => ?_)
    · skip
      exact eq_some h2
    · skip
      refine eq_ite (fun _ => ?_) (fun _ => ?_)
      · skip
        refine eq_pi (EQ_u h2 (by decide) (by decide)) (fun I16 h3 => ?_)
        exact eq_some h3
      · skip
        exact eq_none
  · skip
    exact eq_some h1
theorem EQ_Model_readFactor {R : M3} (hR : ∀ k a b I J, EQ I → eq (R k a b I J)) (h : EQ I) : eq (f_Model_readFactor R I J) := by
  unfold f_Model_readFactor
  refine eq_oc (EQ_Model_see h) (fun v1 I1 J1 h1 => ?_)
  refine eq_ite (fun _ => ?_) (fun _ => ?_)
  · skip
    refine eq_oc (hR 3 _ _ _ _ h1) (fun v3 I3 J3 h2 => ?_)
    refine eq_ite (fun _ => ?_) (fun _ => ?_)
    · skip
      refine eq_oc (EQ_Model_readFactor_79 hR _  _ _ h2) (fun u10 I10 J10 h3 => ?_)
      exact eq_some h3
    · skip
      exact eq_some h2
  · skip
    refine eq_ite (fun _ => ?_) (fun _ => ?_)
    · skip
      refine eq_pi (EQ_u h1 (by decide) (by decide)) (fun I12 h4 => ?_)
      refine eq_pi (EQ_u h4 (by decide) (by decide)) (fun I13 h5 => ?_)
      refine eq_oc (hR 2 _ _ _ _ h5) (fun v14 I14 J14 h6 => ?_)
      refine eq_pi (EQ_u h6 (by decide) (by decide)) (fun I15 h7 => ?_)
      refine eq_ite (fun _ => ?_) (fun _ => ?_)
      · skip
        refine eq_ite (fun _ => ?_) (fun _ => ?_)
        · skip
          exact eq_some h7
        · skip
          exact eq_none
      · skip
        refine eq_oc (EQ_Model_lay_IV h7) (fun v18 I18 J18 h8 => ?_)
        refine eq_ite (fun _ => ?_) (fun _ => ?_)
        · skip
          exact eq_some h8
        · skip
          exact eq_none
    · skip
      refine eq_oc (EQ_Model_refuse h1) (fun v20 I20 J20 h9 => ?_)
      refine eq_ite (fun _ => ?_) (fun _ => ?_)
      · skip
        exact eq_some h9
      · skip
        exact eq_none
theorem EQ_Model_readPart {R : M3} (hR : ∀ k a b I J, EQ I → eq (R k a b I J)) (h : EQ I) : eq (f_Model_readPart R I J) := by
  unfold f_Model_readPart
  refine eq_oc (EQ_Model_see h) (fun v1 I1 J1 h1 => ?_)
  refine eq_ite (fun _ => ?_) (fun _ => ?_)
  · skip
    refine eq_oc (EQ_Model_isVariable h1) (fun v3 I3 J3 h2 => ?_)
    refine eq_ite (fun _ => ?_) (fun _ => ?_)
    · skip
      refine eq_oc (EQ_Model_isRow h2) (fun v5 I5 J5 h3 => ?_)
      refine eq_ite (fun _ => ?_) (fun _ => ?_)
      · skip
        refine eq_pi (EQ_u h3 (by decide) (by decide)) (fun I7 h4 => ?_)
        refine eq_oc (EQ_Model_isDigit h4) (fun v8 I8 J8 h5 => ?_)
        refine eq_ite (fun _ => ?_) (fun _ => ?_)
        · skip
          refine eq_oc (EQ_Model_refuse h5) (fun v10 I10 J10 h6 => ?_)
          refine eq_ite (fun _ => ?_) (fun _ => ?_)
          · skip
            exact eq_some h6
          · skip
            exact eq_none
        · skip
          refine eq_oc (EQ_Model_readNumber h5) (fun v12 I12 J12 h7 => ?_)
          refine eq_ite (fun _ => ?_) (fun _ => ?_)
          · skip
            exact eq_some h7
          · skip
            exact eq_none
      · skip
        refine eq_pi (EQ_u h3 (by decide) (by decide)) (fun I14 h8 => ?_)
        refine eq_oc (hR 4 _ _ _ _ h8) (fun v15 I15 J15 h9 => ?_)
        refine eq_ite (fun _ => ?_) (fun _ => ?_)
        · skip
          refine eq_oc (EQ_Model_isSecretRow h9) (fun v17 I17 J17 h10 => ?_)
          refine eq_ite (fun _ => ?_) (fun _ => ?_)
          · skip
            refine eq_pi (EQ_u h10 (by decide) (by decide)) (fun I18 h11 => ?_)
            refine eq_pl (fun v21 => ?_)
            refine eq_pl (fun v24 => ?_)
            refine eq_oc (EQ_Model_lay_IIV h11) (fun v26 I26 J26 h12 => ?_)
            exact eq_some h12
          · skip
            exact eq_none
        · skip
          exact eq_some h9
    · skip
      refine eq_pi (EQ_u h2 (by decide) (by decide)) (fun I27 h13 => ?_)
      refine eq_oc (EQ_Model_isClear h13) (fun v28 I28 J28 h14 => ?_)
      refine eq_pl (fun v30 => ?_)
      refine eq_oc (EQ_Model_numberOf h14) (fun v32 I32 J32 h15 => ?_)
      refine eq_oc (EQ_Model_lay_IIV h15) (fun v33 I33 J33 h16 => ?_)
      refine eq_oc (EQ_Model_isSecret h16) (fun v34 I34 J34 h17 => ?_)
      refine eq_ite (fun _ => ?_) (fun _ => ?_)
      · skip
        refine eq_pi (EQ_u h17 (by decide) (by decide)) (fun I35 h18 => ?_)
        exact eq_some h18
      · skip
        exact eq_none
  · skip
    refine eq_ite (fun _ => ?_) (fun _ => ?_)
    · skip
      refine eq_pi (EQ_u h1 (by decide) (by decide)) (fun I38 h19 => ?_)
      refine eq_pi (EQ_u h19 (by decide) (by decide)) (fun I39 h20 => ?_)
      refine eq_oc (hR 0 _ _ _ _ h20) (fun v40 I40 J40 h21 => ?_)
      refine eq_oc ?_ (fun v42 I42 J42 h22 => ?_)
      · skip
        refine eq_ite (fun _ => ?_) (fun _ => ?_)
        · skip
          exact eq_some h21
        · skip
          refine eq_oc (EQ_Model_want h21) (fun v44 I44 J44 h23 => ?_)
          refine eq_ite (fun _ => ?_) (fun _ => ?_)
          · skip
            exact eq_some h23
          · skip
            exact eq_some h23
      · skip
        refine eq_pi (EQ_u h22 (by decide) (by decide)) (fun I46 h24 => ?_)
        refine eq_ite (fun _ => ?_) (fun _ => ?_)
        · skip
          exact eq_some h24
        · skip
          exact eq_none
    · skip
      refine eq_oc (EQ_Model_refuse h1) (fun v48 I48 J48 h25 => ?_)
      refine eq_ite (fun _ => ?_) (fun _ => ?_)
      · skip
        exact eq_some h25
      · skip
        exact eq_none
theorem EQ_Model_readPlace {R : M3} (hR : ∀ k a b I J, EQ I → eq (R k a b I J)) (h : EQ I) : eq (f_Model_readPlace R I J) := by
  unfold f_Model_readPlace
  refine eq_oc (EQ_Model_see h) (fun v1 I1 J1 h1 => ?_)
  refine eq_pl (fun x2 => ?_)
  refine eq_oc (EQ_Model_see h1) (fun v3 I3 J3 h2 => ?_)
  refine eq_ite (fun _ => ?_) (fun _ => ?_)
  · skip
    refine eq_oc (EQ_Model_want h2) (fun v5 I5 J5 h3 => ?_)
    refine eq_ite (fun _ => ?_) (fun _ => ?_)
    · skip
      refine eq_pi (EQ_u h3 (by decide) (by decide)) (fun I7 h4 => ?_)
      refine eq_oc (hR 0 _ _ _ _ h4) (fun v8 I8 J8 h5 => ?_)
      refine eq_oc ?_ (fun v10 I10 J10 h6 => ?_)
      · skip
        refine eq_ite (fun _ => ?_) (fun _ => ?_)
        · skip
          exact eq_some h5
        · skip
          refine eq_ite (fun _ => ?_) (fun _ => ?_)
          · skip
            exact eq_some h5
          · skip
            refine eq_oc (EQ_Model_note h5) (fun v13 I13 J13 h7 => ?_)
            exact eq_some h7
      · skip
        refine eq_oc ?_ (fun v15 I15 J15 h8 => ?_)
        · skip
          refine eq_ite (fun _ => ?_) (fun _ => ?_)
          · skip
            exact eq_some h6
          · skip
            refine eq_oc (EQ_Model_want h6) (fun v17 I17 J17 h9 => ?_)
            refine eq_ite (fun _ => ?_) (fun _ => ?_)
            · skip
              exact eq_some h9
            · skip
              exact eq_some h9
        · skip
          refine eq_pi (EQ_u h8 (by decide) (by decide)) (fun I19 h10 => ?_)
          refine eq_ite (fun _ => ?_) (fun _ => ?_)
          · skip
            exact eq_some h10
          · skip
            exact eq_none
    · skip
      exact eq_some h3
  · skip
    refine eq_ite (fun _ => ?_) (fun _ => ?_)
    · skip
      refine eq_oc (EQ_Model_want h2) (fun v22 I22 J22 h11 => ?_)
      refine eq_ite (fun _ => ?_) (fun _ => ?_)
      · skip
        refine eq_pi (EQ_u h11 (by decide) (by decide)) (fun I24 h12 => ?_)
        refine eq_oc (hR 0 _ _ _ _ h12) (fun v25 I25 J25 h13 => ?_)
        refine eq_oc ?_ (fun v27 I27 J27 h14 => ?_)
        · skip
          refine eq_ite (fun _ => ?_) (fun _ => ?_)
          · skip
            exact eq_some h13
          · skip
            refine eq_ite (fun _ => ?_) (fun _ => ?_)
            · skip
              exact eq_some h13
            · skip
              refine eq_oc (EQ_Model_note h13) (fun v30 I30 J30 h15 => ?_)
              exact eq_some h15
        · skip
          refine eq_oc ?_ (fun v32 I32 J32 h16 => ?_)
          · skip
            refine eq_ite (fun _ => ?_) (fun _ => ?_)
            · skip
              exact eq_some h14
            · skip
              refine eq_oc (EQ_Model_want h14) (fun v34 I34 J34 h17 => ?_)
              refine eq_ite (fun _ => ?_) (fun _ => ?_)
              · skip
                exact eq_some h17
              · skip
                exact eq_some h17
          · skip
            refine eq_pi (EQ_u h16 (by decide) (by decide)) (fun I36 h18 => ?_)
            refine eq_ite (fun _ => ?_) (fun _ => ?_)
            · skip
              exact eq_some h18
            · skip
              exact eq_none
      · skip
        exact eq_some h11
    · skip
      refine eq_oc (EQ_Model_refuse h2) (fun v38 I38 J38 h19 => ?_)
      refine eq_ite (fun _ => ?_) (fun _ => ?_)
      · skip
        exact eq_some h19
      · skip
        exact eq_none
theorem EQM_all : ∀ (fu k : Nat) (a b : Int32) (I : MI) (J : MJ), EQ I → eq (f_RcM fu k a b I J) := by
  intro fu
  induction fu with
  | zero => intro k a b I J h; exact eq_none
  | succ fu ih =>
    intro k a b I J h
    have cb : ∀ {α : Type} {c : Bool} {x y : M2 α}, eq x → eq y → eq (bif c then x else y) := by
      intro α c x y hx hy
      cases c with
      | true => exact hx
      | false => exact hy
    unfold f_RcM
    refine cb (EQ_Model_readX ih h) ?_
    refine cb (EQ_Model_readProduct ih h) ?_
    refine cb (EQ_Model_readFactor ih h) ?_
    refine cb (EQ_Model_readPart ih h) ?_
    refine cb (EQ_Model_readPlace ih h) ?_
    refine cb (EQ_Model_readStatements ih h) ?_
    refine cb (EQ_Model_readStatement ih h) ?_
    refine cb (EQ_Model_readRoutine ih h) ?_
    refine cb (EQ_Model_readValue ih h) ?_
    refine cb (EQ_Model_readRow ih h) ?_
    exact cb (EQ_Model_readTurn ih h) eq_none
end EQS
