/-! compile: what was laid before stays (wip/whole/tools/gen56t.py) -/
def LO (m0 : Nat) (I0 I : MI) : Prop := ∃ m, I 6 1 = nI m ∧ m0 ≤ m ∧ m ≤ 2000 ∧ ∀ j, j < m0 → I 7 j = I0 7 j
def lo (m0 : Nat) (I0 : MI) {α : Type} (r : M2 α) : Prop := ∀ v I' J', r = some (v, I', J') → LO m0 I0 I'
section LOO
variable {m0 : Nat} {I0 I : MI} {J : MJ} {α β γ : Type}
theorem lo_none : lo m0 I0 (none : M2 α) := fun _ _ _ h => by cases h
theorem lo_some {v : α} (h : LO m0 I0 I) : lo m0 I0 (some (v, I, J)) := fun _ _ _ e => by
  obtain ⟨rfl, rfl, rfl⟩ := s_inj e
  exact h
theorem lo_oc {x : M2 α} {f : α → MI → MJ → M2 β} (h : lo m0 I0 x) (k : ∀ v I1 J1, LO m0 I0 I1 → lo m0 I0 (f v I1 J1)) : lo m0 I0 (oc x f) := by
  intro v I' J' e
  obtain ⟨u, I1, J1, e1, e2⟩ := oc_call e
  exact k u I1 J1 (h u I1 J1 e1) v I' J' e2
theorem lo_pl {a : α} {f : α → M2 β} (h : ∀ x, lo m0 I0 (f x)) : lo m0 I0 (pl a f) := h a
theorem lo_pI {a : Nat} {w : Nat → Int32} {f : MI → M2 β} (h : LO m0 I0 I) (h6 : a ≠ 6) (h7 : a ≠ 7) (k : ∀ I1, LO m0 I0 I1 → lo m0 I0 (f I1)) : lo m0 I0 (pl (va_up I a w) f) := by
  refine k _ ?_
  obtain ⟨m, e1, e2, e3, e4⟩ := h
  refine ⟨m, ?_, e2, e3, fun j hj => ?_⟩
  · rw [va_up_ne _ _ (Ne.symm h6)]
    exact e1
  · rw [va_up_ne _ _ (Ne.symm h7)]
    exact e4 j hj
theorem lo_ite {c : Prop} [Decidable c] {a b : M2 α} (h1 : c → lo m0 I0 a) (h2 : ¬ c → lo m0 I0 b) : lo m0 I0 (if c then a else b) := by
  by_cases q : c
  · rw [if_pos q]; exact h1 q
  · rw [if_neg q]; exact h2 q
theorem lo_oe {q : α ⊕ β} {f : α → M2 γ} {g : β → M2 γ} (h1 : ∀ y, lo m0 I0 (f y)) (h2 : ∀ y, lo m0 I0 (g y)) : lo m0 I0 (oe q f g) := by
  cases q with
  | inl y => exact h1 y
  | inr y => exact h2 y
theorem L_Row_at {b m : Nat} {p : Int32} (h : LO m0 I0 I) : lo m0 I0 (f_Row_at 4 b m p I J) := by
  unfold f_Row_at
  exact lo_ite (fun _ => lo_some h) (fun _ => lo_ite (fun _ => lo_some h) (fun _ => lo_ite (fun _ => lo_some h) (fun _ => lo_ite (fun _ => lo_none) (fun _ => lo_some h))))
theorem L_Sh_lengthOf {p : Int32} (h : LO m0 I0 I) : lo m0 I0 (f_Sh_lengthOf p I J) := by
  unfold f_Sh_lengthOf
  exact lo_ite (fun _ => lo_some h) (fun _ => lo_ite (fun _ => lo_some h) (fun _ => lo_ite (fun _ => lo_none) (fun _ => lo_some h)))
theorem L_Row_add {p : Int32} (h : LO m0 I0 I) : lo m0 I0 (f_Row_add 6 7 2000 p I J) := by
  obtain ⟨m, e1, e2, e3, e4⟩ := h
  intro v I' J' e
  by_cases q : m < 2000
  · rw [w_add e1 q (by decide) (by decide)] at e
    obtain ⟨_, rfl, _⟩ := s_inj e
    refine ⟨m + 1, by simp (disch := omega) only [a11, a01, ↓li_m, ↓oc_some, ↓oc_ite, ↓oc_oc, ↓oc_pl, ↓oc_none, ↓oc_oe, ↓pl_eq, ↓oe_i, ↓oe_j, va_up_self, va_up_ne, va_up_up, upd_s, upd_n, updL_s, updL_n, nI_add, nI_1, nI_ltI, nI_leI, nI_eq, nI_clamp, li_n, m1_lt, m1_le, m1_gt, m1_ge, m1_ne, m1_en, m1_ad, nle_F, nle_T, nlt_F, nlt_T, neq_F, neq_T, or_self, or_false, false_or, true_or, or_true, and_self, and_false, false_and, true_and, and_true, not_true_eq_false, not_false_eq_true, ↓reduceIte, if_true, if_false, Nat.reduceAdd, ite_self, Bool.false_eq_true], by omega, q, fun j hj => ?_⟩
    simp (disch := omega) only [a11, a01, ↓li_m, ↓oc_some, ↓oc_ite, ↓oc_oc, ↓oc_pl, ↓oc_none, ↓oc_oe, ↓pl_eq, ↓oe_i, ↓oe_j, va_up_self, va_up_ne, va_up_up, upd_s, upd_n, updL_s, updL_n, nI_add, nI_1, nI_ltI, nI_leI, nI_eq, nI_clamp, li_n, m1_lt, m1_le, m1_gt, m1_ge, m1_ne, m1_en, m1_ad, nle_F, nle_T, nlt_F, nlt_T, neq_F, neq_T, or_self, or_false, false_or, true_or, or_true, and_self, and_false, false_and, true_and, and_true, not_true_eq_false, not_false_eq_true, ↓reduceIte, if_true, if_false, Nat.reduceAdd, ite_self, Bool.false_eq_true]
    exact e4 j hj
  · unfold f_Row_add at e
    rw [e1, if_pos (nI_le (by omega) (by omega))] at e
    obtain ⟨_, rfl, _⟩ := s_inj e
    exact ⟨m, e1, e2, e3, e4⟩
theorem L_chg {k : Nat} {p : Int32} (hk : m0 ≤ k) (hk2 : k < 2 ^ 31) (h : LO m0 I0 I) : lo m0 I0 (f_Row_change 6 7 2000 (nI k) p I J) := by
  unfold f_Row_change
  refine lo_ite (fun _ => lo_some h) (fun _ => lo_ite (fun _ => lo_some h) (fun _ => lo_ite (fun _ => lo_some h) (fun _ => lo_ite (fun _ => lo_none) (fun _ => ?_))))
  obtain ⟨m, e1, e2, e3, e4⟩ := h
  refine lo_some ⟨m, ?_, e2, e3, fun j hj => ?_⟩
  · simp (disch := omega) only [a11, a01, ↓li_m, ↓oc_some, ↓oc_ite, ↓oc_oc, ↓oc_pl, ↓oc_none, ↓oc_oe, ↓pl_eq, ↓oe_i, ↓oe_j, va_up_self, va_up_ne, va_up_up, upd_s, upd_n, updL_s, updL_n, nI_add, nI_1, nI_ltI, nI_leI, nI_eq, nI_clamp, li_n, m1_lt, m1_le, m1_gt, m1_ge, m1_ne, m1_en, m1_ad, nle_F, nle_T, nlt_F, nlt_T, neq_F, neq_T, or_self, or_false, false_or, true_or, or_true, and_self, and_false, false_and, true_and, and_true, not_true_eq_false, not_false_eq_true, ↓reduceIte, if_true, if_false, Nat.reduceAdd, ite_self, Bool.false_eq_true, e1]
  · simp (disch := omega) only [a11, a01, ↓li_m, ↓oc_some, ↓oc_ite, ↓oc_oc, ↓oc_pl, ↓oc_none, ↓oc_oe, ↓pl_eq, ↓oe_i, ↓oe_j, va_up_self, va_up_ne, va_up_up, upd_s, upd_n, updL_s, updL_n, nI_add, nI_1, nI_ltI, nI_leI, nI_eq, nI_clamp, li_n, m1_lt, m1_le, m1_gt, m1_ge, m1_ne, m1_en, m1_ad, nle_F, nle_T, nlt_F, nlt_T, neq_F, neq_T, or_self, or_false, false_or, true_or, or_true, and_self, and_false, false_and, true_and, and_true, not_true_eq_false, not_false_eq_true, ↓reduceIte, if_true, if_false, Nat.reduceAdd, ite_self, Bool.false_eq_true]
    exact e4 j hj
theorem L_aim {k : Nat} {p : Int32} (hk : m0 ≤ k) (hk2 : k < 2 ^ 30) (h : LO m0 I0 I) : lo m0 I0 (f_Row_aim 6 7 2000 (nI k) p I J) := by
  unfold f_Row_aim
  refine lo_oc (L_chg hk (by omega) h) (fun _ I1 J1 h1 => ?_)
  rw [nI_1]
  exact lo_oc (L_chg (by omega) (by omega) h1) (fun _ I2 J2 h2 => lo_some h2)
theorem LO_at {x : Nat} (h : LO m0 I0 I) : ∃ m, I 6 1 = nI m ∧ m0 ≤ m ∧ m ≤ 2000 := by
  obtain ⟨m, e1, e2, e3, _⟩ := h
  exact ⟨m, e1, e2, e3⟩
/-- the group of methods that call one another -/
def LR (m0 : Nat) (I0 : MI) (Rr : M3) : Prop := ∀ k a b I J, LO m0 I0 I → lo m0 I0 (Rr k a b I J)

theorem L_Translator_look_2 : ∀ (fu : Nat) (y0 : Int32) (I : MI) (J : MJ), LO m0 I0 I → lo m0 I0 (f_Translator_look_2  fu y0 I J) := by
  intro fu
  induction fu with
  | zero => intro y0 I J h; exact lo_none
  | succ fu ih =>
    intro y0 I J h
    rw [f_Translator_look_2]
    repeat (first
      | exact lo_none
      | exact lo_some (by assumption)
      | (with_reducible exact ih _ _ _ (by assumption))
      | (with_reducible refine lo_oc (L_Row_at (by assumption)) ?_) ; (intro _ _ _ _)
      | (with_reducible exact L_Row_at (by assumption))
      | (with_reducible refine lo_pI (by assumption) (by decide) (by decide) ?_) ; (intro _ _)
      | (with_reducible refine lo_pl ?_) ; (intro _)
      | (with_reducible refine lo_ite ?_ ?_) <;> (intro _)
      | (with_reducible refine lo_oe ?_ ?_) <;> (intro _)
      | (with_reducible refine lo_oc ?_ ?_)
      | (intro _ _ _ _))
theorem L_Translator_look (h : LO m0 I0 I) : lo m0 I0 (f_Translator_look  I J) := by
  unfold f_Translator_look
  repeat (first
    | exact lo_none
    | exact lo_some (by assumption)
    | (with_reducible refine lo_oc (L_Row_at (by assumption)) ?_) ; (intro _ _ _ _)
    | (with_reducible exact L_Row_at (by assumption))
    | (with_reducible refine lo_oc (L_Translator_look_2 _ _ _ _ (by assumption)) ?_) ; (intro _ _ _ _)
    | (with_reducible exact L_Translator_look_2 _ _ _ _ (by assumption))
    | (with_reducible refine lo_pI (by assumption) (by decide) (by decide) ?_) ; (intro _ _)
    | (with_reducible refine lo_pl ?_) ; (intro _)
    | (with_reducible refine lo_ite ?_ ?_) <;> (intro _)
    | (with_reducible refine lo_oe ?_ ?_) <;> (intro _)
    | (with_reducible refine lo_oc ?_ ?_)
    | (intro _ _ _ _))
theorem L_Translator_behindNext_9 : ∀ (fu : Nat) (y0 : Int32) (y1 : Int32) (I : MI) (J : MJ), LO m0 I0 I → lo m0 I0 (f_Translator_behindNext_9  fu y0 y1 I J) := by
  intro fu
  induction fu with
  | zero => intro y0 y1 I J h; exact lo_none
  | succ fu ih =>
    intro y0 y1 I J h
    rw [f_Translator_behindNext_9]
    repeat (first
      | exact lo_none
      | exact lo_some (by assumption)
      | (with_reducible exact ih _ _ _ _ (by assumption))
      | (with_reducible refine lo_oc (L_Row_at (by assumption)) ?_) ; (intro _ _ _ _)
      | (with_reducible exact L_Row_at (by assumption))
      | (with_reducible refine lo_pI (by assumption) (by decide) (by decide) ?_) ; (intro _ _)
      | (with_reducible refine lo_pl ?_) ; (intro _)
      | (with_reducible refine lo_ite ?_ ?_) <;> (intro _)
      | (with_reducible refine lo_oe ?_ ?_) <;> (intro _)
      | (with_reducible refine lo_oc ?_ ?_)
      | (intro _ _ _ _))
theorem L_Translator_behindNext (h : LO m0 I0 I) : lo m0 I0 (f_Translator_behindNext  I J) := by
  unfold f_Translator_behindNext
  repeat (first
    | exact lo_none
    | exact lo_some (by assumption)
    | (with_reducible refine lo_oc (L_Row_at (by assumption)) ?_) ; (intro _ _ _ _)
    | (with_reducible exact L_Row_at (by assumption))
    | (with_reducible refine lo_oc (L_Translator_behindNext_9 _ _ _ _ _ (by assumption)) ?_) ; (intro _ _ _ _)
    | (with_reducible exact L_Translator_behindNext_9 _ _ _ _ _ (by assumption))
    | (with_reducible refine lo_pI (by assumption) (by decide) (by decide) ?_) ; (intro _ _)
    | (with_reducible refine lo_pl ?_) ; (intro _)
    | (with_reducible refine lo_ite ?_ ?_) <;> (intro _)
    | (with_reducible refine lo_oe ?_ ?_) <;> (intro _)
    | (with_reducible refine lo_oc ?_ ?_)
    | (intro _ _ _ _))
theorem L_Translator_pass (h : LO m0 I0 I) : lo m0 I0 (f_Translator_pass  I J) := by
  unfold f_Translator_pass
  repeat (first
    | exact lo_none
    | exact lo_some (by assumption)
    | (with_reducible refine lo_pI (by assumption) (by decide) (by decide) ?_) ; (intro _ _)
    | (with_reducible refine lo_pl ?_) ; (intro _)
    | (with_reducible refine lo_ite ?_ ?_) <;> (intro _)
    | (with_reducible refine lo_oe ?_ ?_) <;> (intro _)
    | (with_reducible refine lo_oc ?_ ?_)
    | (intro _ _ _ _))
theorem L_Translator_refuse (h : LO m0 I0 I) : lo m0 I0 (f_Translator_refuse  I J) := by
  unfold f_Translator_refuse
  repeat (first
    | exact lo_none
    | exact lo_some (by assumption)
    | (with_reducible refine lo_pI (by assumption) (by decide) (by decide) ?_) ; (intro _ _)
    | (with_reducible refine lo_pl ?_) ; (intro _)
    | (with_reducible refine lo_ite ?_ ?_) <;> (intro _)
    | (with_reducible refine lo_oe ?_ ?_) <;> (intro _)
    | (with_reducible refine lo_oc ?_ ?_)
    | (intro _ _ _ _))
theorem L_Translator_blame {p2 : Int32} {p3 : Int32} (h : LO m0 I0 I) : lo m0 I0 (f_Translator_blame p2 p3 I J) := by
  unfold f_Translator_blame
  repeat (first
    | exact lo_none
    | exact lo_some (by assumption)
    | (with_reducible refine lo_pI (by assumption) (by decide) (by decide) ?_) ; (intro _ _)
    | (with_reducible refine lo_pl ?_) ; (intro _)
    | (with_reducible refine lo_ite ?_ ?_) <;> (intro _)
    | (with_reducible refine lo_oe ?_ ?_) <;> (intro _)
    | (with_reducible refine lo_oc ?_ ?_)
    | (intro _ _ _ _))
theorem L_Translator_wantClear {p2 : Int32} {p3 : Int32} (h : LO m0 I0 I) : lo m0 I0 (f_Translator_wantClear p2 p3 I J) := by
  unfold f_Translator_wantClear
  repeat (first
    | exact lo_none
    | exact lo_some (by assumption)
    | (with_reducible refine lo_oc (L_Translator_blame (by assumption)) ?_) ; (intro _ _ _ _)
    | (with_reducible exact L_Translator_blame (by assumption))
    | (with_reducible refine lo_pI (by assumption) (by decide) (by decide) ?_) ; (intro _ _)
    | (with_reducible refine lo_pl ?_) ; (intro _)
    | (with_reducible refine lo_ite ?_ ?_) <;> (intro _)
    | (with_reducible refine lo_oe ?_ ?_) <;> (intro _)
    | (with_reducible refine lo_oc ?_ ?_)
    | (intro _ _ _ _))
theorem L_Translator_wantSecret {p2 : Int32} {p3 : Int32} (h : LO m0 I0 I) : lo m0 I0 (f_Translator_wantSecret p2 p3 I J) := by
  unfold f_Translator_wantSecret
  repeat (first
    | exact lo_none
    | exact lo_some (by assumption)
    | (with_reducible refine lo_oc (L_Translator_blame (by assumption)) ?_) ; (intro _ _ _ _)
    | (with_reducible exact L_Translator_blame (by assumption))
    | (with_reducible refine lo_pI (by assumption) (by decide) (by decide) ?_) ; (intro _ _)
    | (with_reducible refine lo_pl ?_) ; (intro _)
    | (with_reducible refine lo_ite ?_ ?_) <;> (intro _)
    | (with_reducible refine lo_oe ?_ ?_) <;> (intro _)
    | (with_reducible refine lo_oc ?_ ?_)
    | (intro _ _ _ _))
theorem L_Translator_expect {p2 : Int32} (h : LO m0 I0 I) : lo m0 I0 (f_Translator_expect p2 I J) := by
  unfold f_Translator_expect
  repeat (first
    | exact lo_none
    | exact lo_some (by assumption)
    | (with_reducible refine lo_oc (L_Translator_look (by assumption)) ?_) ; (intro _ _ _ _)
    | (with_reducible exact L_Translator_look (by assumption))
    | (with_reducible refine lo_oc (L_Translator_pass (by assumption)) ?_) ; (intro _ _ _ _)
    | (with_reducible exact L_Translator_pass (by assumption))
    | (with_reducible refine lo_oc (L_Translator_refuse (by assumption)) ?_) ; (intro _ _ _ _)
    | (with_reducible exact L_Translator_refuse (by assumption))
    | (with_reducible refine lo_pI (by assumption) (by decide) (by decide) ?_) ; (intro _ _)
    | (with_reducible refine lo_pl ?_) ; (intro _)
    | (with_reducible refine lo_ite ?_ ?_) <;> (intro _)
    | (with_reducible refine lo_oe ?_ ?_) <;> (intro _)
    | (with_reducible refine lo_oc ?_ ?_)
    | (intro _ _ _ _))
theorem L_Translator_enter (h : LO m0 I0 I) : lo m0 I0 (f_Translator_enter  I J) := by
  unfold f_Translator_enter
  repeat (first
    | exact lo_none
    | exact lo_some (by assumption)
    | (with_reducible refine lo_oc (L_Translator_pass (by assumption)) ?_) ; (intro _ _ _ _)
    | (with_reducible exact L_Translator_pass (by assumption))
    | (with_reducible refine lo_oc (L_Translator_refuse (by assumption)) ?_) ; (intro _ _ _ _)
    | (with_reducible exact L_Translator_refuse (by assumption))
    | (with_reducible refine lo_pI (by assumption) (by decide) (by decide) ?_) ; (intro _ _)
    | (with_reducible refine lo_pl ?_) ; (intro _)
    | (with_reducible refine lo_ite ?_ ?_) <;> (intro _)
    | (with_reducible refine lo_oe ?_ ?_) <;> (intro _)
    | (with_reducible refine lo_oc ?_ ?_)
    | (intro _ _ _ _))
theorem L_Translator_leave (h : LO m0 I0 I) : lo m0 I0 (f_Translator_leave  I J) := by
  unfold f_Translator_leave
  repeat (first
    | exact lo_none
    | exact lo_some (by assumption)
    | (with_reducible refine lo_pI (by assumption) (by decide) (by decide) ?_) ; (intro _ _)
    | (with_reducible refine lo_pl ?_) ; (intro _)
    | (with_reducible refine lo_ite ?_ ?_) <;> (intro _)
    | (with_reducible refine lo_oe ?_ ?_) <;> (intro _)
    | (with_reducible refine lo_oc ?_ ?_)
    | (intro _ _ _ _))
theorem L_Translator_isVariable {p1 : Int32} (h : LO m0 I0 I) : lo m0 I0 (f_Translator_isVariable p1 I J) := by
  unfold f_Translator_isVariable
  repeat (first
    | exact lo_none
    | exact lo_some (by assumption)
    | (with_reducible refine lo_pI (by assumption) (by decide) (by decide) ?_) ; (intro _ _)
    | (with_reducible refine lo_pl ?_) ; (intro _)
    | (with_reducible refine lo_ite ?_ ?_) <;> (intro _)
    | (with_reducible refine lo_oe ?_ ?_) <;> (intro _)
    | (with_reducible refine lo_oc ?_ ?_)
    | (intro _ _ _ _))
theorem L_Translator_isArray {p1 : Int32} (h : LO m0 I0 I) : lo m0 I0 (f_Translator_isArray p1 I J) := by
  unfold f_Translator_isArray
  repeat (first
    | exact lo_none
    | exact lo_some (by assumption)
    | (with_reducible refine lo_pI (by assumption) (by decide) (by decide) ?_) ; (intro _ _)
    | (with_reducible refine lo_pl ?_) ; (intro _)
    | (with_reducible refine lo_ite ?_ ?_) <;> (intro _)
    | (with_reducible refine lo_oe ?_ ?_) <;> (intro _)
    | (with_reducible refine lo_oc ?_ ?_)
    | (intro _ _ _ _))
theorem L_Translator_isDigit {p1 : Int32} (h : LO m0 I0 I) : lo m0 I0 (f_Translator_isDigit p1 I J) := by
  unfold f_Translator_isDigit
  repeat (first
    | exact lo_none
    | exact lo_some (by assumption)
    | (with_reducible refine lo_pI (by assumption) (by decide) (by decide) ?_) ; (intro _ _)
    | (with_reducible refine lo_pl ?_) ; (intro _)
    | (with_reducible refine lo_ite ?_ ?_) <;> (intro _)
    | (with_reducible refine lo_oe ?_ ?_) <;> (intro _)
    | (with_reducible refine lo_oc ?_ ?_)
    | (intro _ _ _ _))
theorem L_Translator_variable (h : LO m0 I0 I) : lo m0 I0 (f_Translator_variable  I J) := by
  unfold f_Translator_variable
  repeat (first
    | exact lo_none
    | exact lo_some (by assumption)
    | (with_reducible refine lo_oc (L_Translator_look (by assumption)) ?_) ; (intro _ _ _ _)
    | (with_reducible exact L_Translator_look (by assumption))
    | (with_reducible refine lo_oc (L_Translator_pass (by assumption)) ?_) ; (intro _ _ _ _)
    | (with_reducible exact L_Translator_pass (by assumption))
    | (with_reducible refine lo_oc (L_Translator_refuse (by assumption)) ?_) ; (intro _ _ _ _)
    | (with_reducible exact L_Translator_refuse (by assumption))
    | (with_reducible refine lo_oc (L_Translator_isVariable (by assumption)) ?_) ; (intro _ _ _ _)
    | (with_reducible exact L_Translator_isVariable (by assumption))
    | (with_reducible refine lo_pI (by assumption) (by decide) (by decide) ?_) ; (intro _ _)
    | (with_reducible refine lo_pl ?_) ; (intro _)
    | (with_reducible refine lo_ite ?_ ?_) <;> (intro _)
    | (with_reducible refine lo_oe ?_ ?_) <;> (intro _)
    | (with_reducible refine lo_oc ?_ ?_)
    | (intro _ _ _ _))
theorem L_Translator_array (h : LO m0 I0 I) : lo m0 I0 (f_Translator_array  I J) := by
  unfold f_Translator_array
  repeat (first
    | exact lo_none
    | exact lo_some (by assumption)
    | (with_reducible refine lo_oc (L_Translator_look (by assumption)) ?_) ; (intro _ _ _ _)
    | (with_reducible exact L_Translator_look (by assumption))
    | (with_reducible refine lo_oc (L_Translator_pass (by assumption)) ?_) ; (intro _ _ _ _)
    | (with_reducible exact L_Translator_pass (by assumption))
    | (with_reducible refine lo_oc (L_Translator_refuse (by assumption)) ?_) ; (intro _ _ _ _)
    | (with_reducible exact L_Translator_refuse (by assumption))
    | (with_reducible refine lo_oc (L_Translator_isArray (by assumption)) ?_) ; (intro _ _ _ _)
    | (with_reducible exact L_Translator_isArray (by assumption))
    | (with_reducible refine lo_pI (by assumption) (by decide) (by decide) ?_) ; (intro _ _)
    | (with_reducible refine lo_pl ?_) ; (intro _)
    | (with_reducible refine lo_ite ?_ ?_) <;> (intro _)
    | (with_reducible refine lo_oe ?_ ?_) <;> (intro _)
    | (with_reducible refine lo_oc ?_ ?_)
    | (intro _ _ _ _))
theorem L_Translator_digit (h : LO m0 I0 I) : lo m0 I0 (f_Translator_digit  I J) := by
  unfold f_Translator_digit
  repeat (first
    | exact lo_none
    | exact lo_some (by assumption)
    | (with_reducible refine lo_oc (L_Translator_look (by assumption)) ?_) ; (intro _ _ _ _)
    | (with_reducible exact L_Translator_look (by assumption))
    | (with_reducible refine lo_oc (L_Translator_pass (by assumption)) ?_) ; (intro _ _ _ _)
    | (with_reducible exact L_Translator_pass (by assumption))
    | (with_reducible refine lo_oc (L_Translator_refuse (by assumption)) ?_) ; (intro _ _ _ _)
    | (with_reducible exact L_Translator_refuse (by assumption))
    | (with_reducible refine lo_oc (L_Translator_isDigit (by assumption)) ?_) ; (intro _ _ _ _)
    | (with_reducible exact L_Translator_isDigit (by assumption))
    | (with_reducible refine lo_pI (by assumption) (by decide) (by decide) ?_) ; (intro _ _)
    | (with_reducible refine lo_pl ?_) ; (intro _)
    | (with_reducible refine lo_ite ?_ ?_) <;> (intro _)
    | (with_reducible refine lo_oe ?_ ?_) <;> (intro _)
    | (with_reducible refine lo_oc ?_ ?_)
    | (intro _ _ _ _))
theorem L_Translator_decider (h : LO m0 I0 I) : lo m0 I0 (f_Translator_decider  I J) := by
  unfold f_Translator_decider
  repeat (first
    | exact lo_none
    | exact lo_some (by assumption)
    | (with_reducible refine lo_oc (L_Translator_look (by assumption)) ?_) ; (intro _ _ _ _)
    | (with_reducible exact L_Translator_look (by assumption))
    | (with_reducible refine lo_oc (L_Translator_wantClear (by assumption)) ?_) ; (intro _ _ _ _)
    | (with_reducible exact L_Translator_wantClear (by assumption))
    | (with_reducible refine lo_oc (L_Translator_variable (by assumption)) ?_) ; (intro _ _ _ _)
    | (with_reducible exact L_Translator_variable (by assumption))
    | (with_reducible refine lo_pI (by assumption) (by decide) (by decide) ?_) ; (intro _ _)
    | (with_reducible refine lo_pl ?_) ; (intro _)
    | (with_reducible refine lo_ite ?_ ?_) <;> (intro _)
    | (with_reducible refine lo_oe ?_ ?_) <;> (intro _)
    | (with_reducible refine lo_oc ?_ ?_)
    | (intro _ _ _ _))
theorem L_Translator_emit {p2 : Int32} {p3 : Int32} {p4 : Int32} {p5 : Int32} (h : LO m0 I0 I) : lo m0 I0 (f_Translator_emit p2 p3 p4 p5 I J) := by
  unfold f_Translator_emit
  repeat (first
    | exact lo_none
    | exact lo_some (by assumption)
    | (with_reducible refine lo_oc (L_Sh_lengthOf (by assumption)) ?_) ; (intro _ _ _ _)
    | (with_reducible exact L_Sh_lengthOf (by assumption))
    | (with_reducible refine lo_oc (L_Row_add (by assumption)) ?_) ; (intro _ _ _ _)
    | (with_reducible exact L_Row_add (by assumption))
    | (with_reducible refine lo_pI (by assumption) (by decide) (by decide) ?_) ; (intro _ _)
    | (with_reducible refine lo_pl ?_) ; (intro _)
    | (with_reducible refine lo_ite ?_ ?_) <;> (intro _)
    | (with_reducible refine lo_oe ?_ ?_) <;> (intro _)
    | (with_reducible refine lo_oc ?_ ?_)
    | (intro _ _ _ _))
theorem L_Translator_emitPlace {p2 : Int32} {p3 : Int32} {p4 : Int32} (h : LO m0 I0 I) : lo m0 I0 (f_Translator_emitPlace p2 p3 p4 I J) := by
  unfold f_Translator_emitPlace
  repeat (first
    | exact lo_none
    | exact lo_some (by assumption)
    | (with_reducible refine lo_oc (L_Translator_emit (by assumption)) ?_) ; (intro _ _ _ _)
    | (with_reducible exact L_Translator_emit (by assumption))
    | (with_reducible refine lo_pI (by assumption) (by decide) (by decide) ?_) ; (intro _ _)
    | (with_reducible refine lo_pl ?_) ; (intro _)
    | (with_reducible refine lo_ite ?_ ?_) <;> (intro _)
    | (with_reducible refine lo_oe ?_ ?_) <;> (intro _)
    | (with_reducible refine lo_oc ?_ ?_)
    | (intro _ _ _ _))
theorem L_Translator_literal_4 : ∀ (fu : Nat) (y0 : Int64) (y1 : Int32) (I : MI) (J : MJ), LO m0 I0 I → lo m0 I0 (f_Translator_literal_4  fu y0 y1 I J) := by
  intro fu
  induction fu with
  | zero => intro y0 y1 I J h; exact lo_none
  | succ fu ih =>
    intro y0 y1 I J h
    rw [f_Translator_literal_4]
    repeat (first
      | exact lo_none
      | exact lo_some (by assumption)
      | (with_reducible exact ih _ _ _ _ (by assumption))
      | (with_reducible refine lo_oc (L_Row_at (by assumption)) ?_) ; (intro _ _ _ _)
      | (with_reducible exact L_Row_at (by assumption))
      | (with_reducible refine lo_oc (L_Translator_isDigit (by assumption)) ?_) ; (intro _ _ _ _)
      | (with_reducible exact L_Translator_isDigit (by assumption))
      | (with_reducible refine lo_pI (by assumption) (by decide) (by decide) ?_) ; (intro _ _)
      | (with_reducible refine lo_pl ?_) ; (intro _)
      | (with_reducible refine lo_ite ?_ ?_) <;> (intro _)
      | (with_reducible refine lo_oe ?_ ?_) <;> (intro _)
      | (with_reducible refine lo_oc ?_ ?_)
      | (intro _ _ _ _))
theorem L_Translator_literal_77 : ∀ (fu : Nat) (y0 : Int64) (y1 : Int32) (I : MI) (J : MJ), LO m0 I0 I → lo m0 I0 (f_Translator_literal_77  fu y0 y1 I J) := by
  intro fu
  induction fu with
  | zero => intro y0 y1 I J h; exact lo_none
  | succ fu ih =>
    intro y0 y1 I J h
    rw [f_Translator_literal_77]
    repeat (first
      | exact lo_none
      | exact lo_some (by assumption)
      | (with_reducible exact ih _ _ _ _ (by assumption))
      | (with_reducible refine lo_oc (L_Row_add (by assumption)) ?_) ; (intro _ _ _ _)
      | (with_reducible exact L_Row_add (by assumption))
      | (with_reducible refine lo_pI (by assumption) (by decide) (by decide) ?_) ; (intro _ _)
      | (with_reducible refine lo_pl ?_) ; (intro _)
      | (with_reducible refine lo_ite ?_ ?_) <;> (intro _)
      | (with_reducible refine lo_oe ?_ ?_) <;> (intro _)
      | (with_reducible refine lo_oc ?_ ?_)
      | (intro _ _ _ _))
theorem L_Translator_literal (h : LO m0 I0 I) : lo m0 I0 (f_Translator_literal  I J) := by
  unfold f_Translator_literal
  repeat (first
    | exact lo_none
    | exact lo_some (by assumption)
    | (with_reducible refine lo_oc (L_Row_add (by assumption)) ?_) ; (intro _ _ _ _)
    | (with_reducible exact L_Row_add (by assumption))
    | (with_reducible refine lo_oc (L_Translator_literal_4 _ _ _ _ _ (by assumption)) ?_) ; (intro _ _ _ _)
    | (with_reducible exact L_Translator_literal_4 _ _ _ _ _ (by assumption))
    | (with_reducible refine lo_oc (L_Translator_literal_77 _ _ _ _ _ (by assumption)) ?_) ; (intro _ _ _ _)
    | (with_reducible exact L_Translator_literal_77 _ _ _ _ _ (by assumption))
    | (with_reducible refine lo_pI (by assumption) (by decide) (by decide) ?_) ; (intro _ _)
    | (with_reducible refine lo_pl ?_) ; (intro _)
    | (with_reducible refine lo_ite ?_ ?_) <;> (intro _)
    | (with_reducible refine lo_oe ?_ ?_) <;> (intro _)
    | (with_reducible refine lo_oc ?_ ?_)
    | (intro _ _ _ _))
theorem L_Translator_show (h : LO m0 I0 I) : lo m0 I0 (f_Translator_show  I J) := by
  unfold f_Translator_show
  repeat (first
    | exact lo_none
    | exact lo_some (by assumption)
    | (with_reducible refine lo_oc (L_Translator_pass (by assumption)) ?_) ; (intro _ _ _ _)
    | (with_reducible exact L_Translator_pass (by assumption))
    | (with_reducible refine lo_oc (L_Translator_expect (by assumption)) ?_) ; (intro _ _ _ _)
    | (with_reducible exact L_Translator_expect (by assumption))
    | (with_reducible refine lo_oc (L_Translator_variable (by assumption)) ?_) ; (intro _ _ _ _)
    | (with_reducible exact L_Translator_variable (by assumption))
    | (with_reducible refine lo_oc (L_Translator_emit (by assumption)) ?_) ; (intro _ _ _ _)
    | (with_reducible exact L_Translator_emit (by assumption))
    | (with_reducible refine lo_pI (by assumption) (by decide) (by decide) ?_) ; (intro _ _)
    | (with_reducible refine lo_pl ?_) ; (intro _)
    | (with_reducible refine lo_ite ?_ ?_) <;> (intro _)
    | (with_reducible refine lo_oe ?_ ?_) <;> (intro _)
    | (with_reducible refine lo_oc ?_ ?_)
    | (intro _ _ _ _))
theorem L_Translator_input {p2 : Int32} {p3 : Int32} (h : LO m0 I0 I) : lo m0 I0 (f_Translator_input p2 p3 I J) := by
  unfold f_Translator_input
  repeat (first
    | exact lo_none
    | exact lo_some (by assumption)
    | (with_reducible refine lo_oc (L_Translator_look (by assumption)) ?_) ; (intro _ _ _ _)
    | (with_reducible exact L_Translator_look (by assumption))
    | (with_reducible refine lo_oc (L_Translator_blame (by assumption)) ?_) ; (intro _ _ _ _)
    | (with_reducible exact L_Translator_blame (by assumption))
    | (with_reducible refine lo_oc (L_Translator_wantSecret (by assumption)) ?_) ; (intro _ _ _ _)
    | (with_reducible exact L_Translator_wantSecret (by assumption))
    | (with_reducible refine lo_oc (L_Translator_expect (by assumption)) ?_) ; (intro _ _ _ _)
    | (with_reducible exact L_Translator_expect (by assumption))
    | (with_reducible refine lo_oc (L_Translator_digit (by assumption)) ?_) ; (intro _ _ _ _)
    | (with_reducible exact L_Translator_digit (by assumption))
    | (with_reducible refine lo_oc (L_Translator_emit (by assumption)) ?_) ; (intro _ _ _ _)
    | (with_reducible exact L_Translator_emit (by assumption))
    | (with_reducible refine lo_pI (by assumption) (by decide) (by decide) ?_) ; (intro _ _)
    | (with_reducible refine lo_pl ?_) ; (intro _)
    | (with_reducible refine lo_ite ?_ ?_) <;> (intro _)
    | (with_reducible refine lo_oe ?_ ?_) <;> (intro _)
    | (with_reducible refine lo_oc ?_ ?_)
    | (intro _ _ _ _))
theorem L_Translator_opening {p2 : Int32} {p3 : Int32} (h : LO m0 I0 I) : lo m0 I0 (f_Translator_opening p2 p3 I J) := by
  unfold f_Translator_opening
  repeat (first
    | exact lo_none
    | exact lo_some (by assumption)
    | (with_reducible refine lo_oc (L_Translator_look (by assumption)) ?_) ; (intro _ _ _ _)
    | (with_reducible exact L_Translator_look (by assumption))
    | (with_reducible refine lo_oc (L_Translator_wantClear (by assumption)) ?_) ; (intro _ _ _ _)
    | (with_reducible exact L_Translator_wantClear (by assumption))
    | (with_reducible refine lo_oc (L_Translator_wantSecret (by assumption)) ?_) ; (intro _ _ _ _)
    | (with_reducible exact L_Translator_wantSecret (by assumption))
    | (with_reducible refine lo_oc (L_Translator_expect (by assumption)) ?_) ; (intro _ _ _ _)
    | (with_reducible exact L_Translator_expect (by assumption))
    | (with_reducible refine lo_oc (L_Translator_variable (by assumption)) ?_) ; (intro _ _ _ _)
    | (with_reducible exact L_Translator_variable (by assumption))
    | (with_reducible refine lo_oc (L_Translator_emit (by assumption)) ?_) ; (intro _ _ _ _)
    | (with_reducible exact L_Translator_emit (by assumption))
    | (with_reducible refine lo_pI (by assumption) (by decide) (by decide) ?_) ; (intro _ _)
    | (with_reducible refine lo_pl ?_) ; (intro _)
    | (with_reducible refine lo_ite ?_ ?_) <;> (intro _)
    | (with_reducible refine lo_oe ?_ ?_) <;> (intro _)
    | (with_reducible refine lo_oc ?_ ?_)
    | (intro _ _ _ _))
theorem L_Translator_arrayByArray {p2 : Int32} {p3 : Int32} (h : LO m0 I0 I) : lo m0 I0 (f_Translator_arrayByArray p2 p3 I J) := by
  unfold f_Translator_arrayByArray
  repeat (first
    | exact lo_none
    | exact lo_some (by assumption)
    | (with_reducible refine lo_oc (L_Translator_look (by assumption)) ?_) ; (intro _ _ _ _)
    | (with_reducible exact L_Translator_look (by assumption))
    | (with_reducible refine lo_oc (L_Translator_pass (by assumption)) ?_) ; (intro _ _ _ _)
    | (with_reducible exact L_Translator_pass (by assumption))
    | (with_reducible refine lo_oc (L_Translator_refuse (by assumption)) ?_) ; (intro _ _ _ _)
    | (with_reducible exact L_Translator_refuse (by assumption))
    | (with_reducible refine lo_oc (L_Translator_blame (by assumption)) ?_) ; (intro _ _ _ _)
    | (with_reducible exact L_Translator_blame (by assumption))
    | (with_reducible refine lo_oc (L_Translator_expect (by assumption)) ?_) ; (intro _ _ _ _)
    | (with_reducible exact L_Translator_expect (by assumption))
    | (with_reducible refine lo_oc (L_Translator_array (by assumption)) ?_) ; (intro _ _ _ _)
    | (with_reducible exact L_Translator_array (by assumption))
    | (with_reducible refine lo_oc (L_Translator_emit (by assumption)) ?_) ; (intro _ _ _ _)
    | (with_reducible exact L_Translator_emit (by assumption))
    | (with_reducible refine lo_pI (by assumption) (by decide) (by decide) ?_) ; (intro _ _)
    | (with_reducible refine lo_pl ?_) ; (intro _)
    | (with_reducible refine lo_ite ?_ ?_) <;> (intro _)
    | (with_reducible refine lo_oe ?_ ?_) <;> (intro _)
    | (with_reducible refine lo_oc ?_ ?_)
    | (intro _ _ _ _))
theorem L_Translator_factor_40 {R : M3} (hR : ∀ k a b I J, LO m0 I0 I → lo m0 I0 (R k a b I J)) : ∀ (fu : Nat) (y0 : Int32) (y1 : Int32) (I : MI) (J : MJ), LO m0 I0 I → lo m0 I0 (f_Translator_factor_40 R fu y0 y1 I J) := by
  intro fu
  induction fu with
  | zero => intro y0 y1 I J h; exact lo_none
  | succ fu ih =>
    intro y0 y1 I J h
    rw [f_Translator_factor_40]
    repeat (first
      | exact lo_none
      | exact lo_some (by assumption)
      | (with_reducible exact ih _ _ _ _ (by assumption))
      | (with_reducible refine lo_oc (L_Translator_look (by assumption)) ?_) ; (intro _ _ _ _)
      | (with_reducible exact L_Translator_look (by assumption))
      | (with_reducible refine lo_oc (L_Translator_pass (by assumption)) ?_) ; (intro _ _ _ _)
      | (with_reducible exact L_Translator_pass (by assumption))
      | (with_reducible refine lo_oc (L_Translator_emit (by assumption)) ?_) ; (intro _ _ _ _)
      | (with_reducible exact L_Translator_emit (by assumption))
      | (with_reducible refine lo_oc (hR _ _ _ _ _ (by assumption)) ?_) ; (intro _ _ _ _)
      | (with_reducible refine lo_pI (by assumption) (by decide) (by decide) ?_) ; (intro _ _)
      | (with_reducible refine lo_pl ?_) ; (intro _)
      | (with_reducible refine lo_ite ?_ ?_) <;> (intro _)
      | (with_reducible refine lo_oe ?_ ?_) <;> (intro _)
      | (with_reducible refine lo_oc ?_ ?_)
      | (intro _ _ _ _))
theorem L_Translator_product_7 {R : M3} (hR : ∀ k a b I J, LO m0 I0 I → lo m0 I0 (R k a b I J)) : ∀ (fu : Nat) (y0 : Int32) (y1 : Int32) (I : MI) (J : MJ), LO m0 I0 I → lo m0 I0 (f_Translator_product_7 R fu y0 y1 I J) := by
  intro fu
  induction fu with
  | zero => intro y0 y1 I J h; exact lo_none
  | succ fu ih =>
    intro y0 y1 I J h
    rw [f_Translator_product_7]
    repeat (first
      | exact lo_none
      | exact lo_some (by assumption)
      | (with_reducible exact ih _ _ _ _ (by assumption))
      | (with_reducible refine lo_oc (L_Translator_look (by assumption)) ?_) ; (intro _ _ _ _)
      | (with_reducible exact L_Translator_look (by assumption))
      | (with_reducible refine lo_oc (L_Translator_pass (by assumption)) ?_) ; (intro _ _ _ _)
      | (with_reducible exact L_Translator_pass (by assumption))
      | (with_reducible refine lo_oc (L_Translator_emit (by assumption)) ?_) ; (intro _ _ _ _)
      | (with_reducible exact L_Translator_emit (by assumption))
      | (with_reducible refine lo_oc (hR _ _ _ _ _ (by assumption)) ?_) ; (intro _ _ _ _)
      | (with_reducible refine lo_pI (by assumption) (by decide) (by decide) ?_) ; (intro _ _)
      | (with_reducible refine lo_pl ?_) ; (intro _)
      | (with_reducible refine lo_ite ?_ ?_) <;> (intro _)
      | (with_reducible refine lo_oe ?_ ?_) <;> (intro _)
      | (with_reducible refine lo_oc ?_ ?_)
      | (intro _ _ _ _))
theorem L_Translator_expression_7 {R : M3} (hR : ∀ k a b I J, LO m0 I0 I → lo m0 I0 (R k a b I J)) : ∀ (fu : Nat) (y0 : Int32) (y1 : Int32) (I : MI) (J : MJ), LO m0 I0 I → lo m0 I0 (f_Translator_expression_7 R fu y0 y1 I J) := by
  intro fu
  induction fu with
  | zero => intro y0 y1 I J h; exact lo_none
  | succ fu ih =>
    intro y0 y1 I J h
    rw [f_Translator_expression_7]
    repeat (first
      | exact lo_none
      | exact lo_some (by assumption)
      | (with_reducible exact ih _ _ _ _ (by assumption))
      | (with_reducible refine lo_oc (L_Translator_look (by assumption)) ?_) ; (intro _ _ _ _)
      | (with_reducible exact L_Translator_look (by assumption))
      | (with_reducible refine lo_oc (L_Translator_pass (by assumption)) ?_) ; (intro _ _ _ _)
      | (with_reducible exact L_Translator_pass (by assumption))
      | (with_reducible refine lo_oc (L_Translator_emit (by assumption)) ?_) ; (intro _ _ _ _)
      | (with_reducible exact L_Translator_emit (by assumption))
      | (with_reducible refine lo_oc (hR _ _ _ _ _ (by assumption)) ?_) ; (intro _ _ _ _)
      | (with_reducible refine lo_pI (by assumption) (by decide) (by decide) ?_) ; (intro _ _)
      | (with_reducible refine lo_pl ?_) ; (intro _)
      | (with_reducible refine lo_ite ?_ ?_) <;> (intro _)
      | (with_reducible refine lo_oe ?_ ?_) <;> (intro _)
      | (with_reducible refine lo_oc ?_ ?_)
      | (intro _ _ _ _))
theorem L_Translator_statements_2 {R : M3} (hR : ∀ k a b I J, LO m0 I0 I → lo m0 I0 (R k a b I J)) : ∀ (fu : Nat) (y0 : Int32) (I : MI) (J : MJ), LO m0 I0 I → lo m0 I0 (f_Translator_statements_2 R fu y0 I J) := by
  intro fu
  induction fu with
  | zero => intro y0 I J h; exact lo_none
  | succ fu ih =>
    intro y0 I J h
    rw [f_Translator_statements_2]
    repeat (first
      | exact lo_none
      | exact lo_some (by assumption)
      | (with_reducible exact ih _ _ _ (by assumption))
      | (with_reducible refine lo_oc (hR _ _ _ _ _ (by assumption)) ?_) ; (intro _ _ _ _)
      | (with_reducible refine lo_pI (by assumption) (by decide) (by decide) ?_) ; (intro _ _)
      | (with_reducible refine lo_pl ?_) ; (intro _)
      | (with_reducible refine lo_ite ?_ ?_) <;> (intro _)
      | (with_reducible refine lo_oe ?_ ?_) <;> (intro _)
      | (with_reducible refine lo_oc ?_ ?_)
      | (intro _ _ _ _))
theorem L_Translator_statements {R : M3} (hR : ∀ k a b I J, LO m0 I0 I → lo m0 I0 (R k a b I J)) (h : LO m0 I0 I) : lo m0 I0 (f_Translator_statements R I J) := by
  unfold f_Translator_statements
  repeat (first
    | exact lo_none
    | exact lo_some (by assumption)
    | (with_reducible refine lo_oc (L_Translator_statements_2 hR _ _ _ _ (by assumption)) ?_) ; (intro _ _ _ _)
    | (with_reducible exact L_Translator_statements_2 hR _ _ _ _ (by assumption))
    | (with_reducible refine lo_oc (hR _ _ _ _ _ (by assumption)) ?_) ; (intro _ _ _ _)
    | (with_reducible refine lo_pI (by assumption) (by decide) (by decide) ?_) ; (intro _ _)
    | (with_reducible refine lo_pl ?_) ; (intro _)
    | (with_reducible refine lo_ite ?_ ?_) <;> (intro _)
    | (with_reducible refine lo_oe ?_ ?_) <;> (intro _)
    | (with_reducible refine lo_oc ?_ ?_)
    | (intro _ _ _ _))
theorem L_Translator_statement {R : M3} (hR : ∀ k a b I J, LO m0 I0 I → lo m0 I0 (R k a b I J)) (h : LO m0 I0 I) : lo m0 I0 (f_Translator_statement R I J) := by
  unfold f_Translator_statement
  repeat (first
    | exact lo_none
    | exact lo_some (by assumption)
    | (with_reducible refine lo_oc (L_Translator_look (by assumption)) ?_) ; (intro _ _ _ _)
    | (with_reducible exact L_Translator_look (by assumption))
    | (with_reducible refine lo_oc (L_Translator_isVariable (by assumption)) ?_) ; (intro _ _ _ _)
    | (with_reducible exact L_Translator_isVariable (by assumption))
    | (with_reducible refine lo_oc (L_Translator_isArray (by assumption)) ?_) ; (intro _ _ _ _)
    | (with_reducible exact L_Translator_isArray (by assumption))
    | (with_reducible refine lo_oc (L_Translator_show (by assumption)) ?_) ; (intro _ _ _ _)
    | (with_reducible exact L_Translator_show (by assumption))
    | (with_reducible refine lo_oc (hR _ _ _ _ _ (by assumption)) ?_) ; (intro _ _ _ _)
    | (with_reducible refine lo_pI (by assumption) (by decide) (by decide) ?_) ; (intro _ _)
    | (with_reducible refine lo_pl ?_) ; (intro _)
    | (with_reducible refine lo_ite ?_ ?_) <;> (intro _)
    | (with_reducible refine lo_oe ?_ ?_) <;> (intro _)
    | (with_reducible refine lo_oc ?_ ?_)
    | (intro _ _ _ _))
theorem L_Translator_variableStatement {R : M3} {p2 : Int32} {p3 : Int32} (hR : ∀ k a b I J, LO m0 I0 I → lo m0 I0 (R k a b I J)) (h : LO m0 I0 I) : lo m0 I0 (f_Translator_variableStatement R p2 p3 I J) := by
  unfold f_Translator_variableStatement
  repeat (first
    | exact lo_none
    | exact lo_some (by assumption)
    | (with_reducible refine lo_oc (L_Translator_look (by assumption)) ?_) ; (intro _ _ _ _)
    | (with_reducible exact L_Translator_look (by assumption))
    | (with_reducible refine lo_oc (L_Translator_pass (by assumption)) ?_) ; (intro _ _ _ _)
    | (with_reducible exact L_Translator_pass (by assumption))
    | (with_reducible refine lo_oc (L_Translator_refuse (by assumption)) ?_) ; (intro _ _ _ _)
    | (with_reducible exact L_Translator_refuse (by assumption))
    | (with_reducible refine lo_oc (L_Translator_wantSecret (by assumption)) ?_) ; (intro _ _ _ _)
    | (with_reducible exact L_Translator_wantSecret (by assumption))
    | (with_reducible refine lo_oc (L_Translator_expect (by assumption)) ?_) ; (intro _ _ _ _)
    | (with_reducible exact L_Translator_expect (by assumption))
    | (with_reducible refine lo_oc (L_Translator_emit (by assumption)) ?_) ; (intro _ _ _ _)
    | (with_reducible exact L_Translator_emit (by assumption))
    | (with_reducible refine lo_oc (L_Translator_input (by assumption)) ?_) ; (intro _ _ _ _)
    | (with_reducible exact L_Translator_input (by assumption))
    | (with_reducible refine lo_oc (L_Translator_opening (by assumption)) ?_) ; (intro _ _ _ _)
    | (with_reducible exact L_Translator_opening (by assumption))
    | (with_reducible refine lo_oc (hR _ _ _ _ _ (by assumption)) ?_) ; (intro _ _ _ _)
    | (with_reducible refine lo_pI (by assumption) (by decide) (by decide) ?_) ; (intro _ _)
    | (with_reducible refine lo_pl ?_) ; (intro _)
    | (with_reducible refine lo_ite ?_ ?_) <;> (intro _)
    | (with_reducible refine lo_oe ?_ ?_) <;> (intro _)
    | (with_reducible refine lo_oc ?_ ?_)
    | (intro _ _ _ _))
theorem L_Translator_assign {R : M3} {p2 : Int32} {p3 : Int32} (hR : ∀ k a b I J, LO m0 I0 I → lo m0 I0 (R k a b I J)) (h : LO m0 I0 I) : lo m0 I0 (f_Translator_assign R p2 p3 I J) := by
  unfold f_Translator_assign
  repeat (first
    | exact lo_none
    | exact lo_some (by assumption)
    | (with_reducible refine lo_oc (L_Translator_look (by assumption)) ?_) ; (intro _ _ _ _)
    | (with_reducible exact L_Translator_look (by assumption))
    | (with_reducible refine lo_oc (L_Translator_behindNext (by assumption)) ?_) ; (intro _ _ _ _)
    | (with_reducible exact L_Translator_behindNext (by assumption))
    | (with_reducible refine lo_oc (L_Translator_blame (by assumption)) ?_) ; (intro _ _ _ _)
    | (with_reducible exact L_Translator_blame (by assumption))
    | (with_reducible refine lo_oc (L_Translator_wantSecret (by assumption)) ?_) ; (intro _ _ _ _)
    | (with_reducible exact L_Translator_wantSecret (by assumption))
    | (with_reducible refine lo_oc (L_Translator_expect (by assumption)) ?_) ; (intro _ _ _ _)
    | (with_reducible exact L_Translator_expect (by assumption))
    | (with_reducible refine lo_oc (L_Translator_isArray (by assumption)) ?_) ; (intro _ _ _ _)
    | (with_reducible exact L_Translator_isArray (by assumption))
    | (with_reducible refine lo_oc (L_Translator_array (by assumption)) ?_) ; (intro _ _ _ _)
    | (with_reducible exact L_Translator_array (by assumption))
    | (with_reducible refine lo_oc (L_Translator_emit (by assumption)) ?_) ; (intro _ _ _ _)
    | (with_reducible exact L_Translator_emit (by assumption))
    | (with_reducible refine lo_oc (hR _ _ _ _ _ (by assumption)) ?_) ; (intro _ _ _ _)
    | (with_reducible refine lo_pI (by assumption) (by decide) (by decide) ?_) ; (intro _ _)
    | (with_reducible refine lo_pl ?_) ; (intro _)
    | (with_reducible refine lo_ite ?_ ?_) <;> (intro _)
    | (with_reducible refine lo_oe ?_ ?_) <;> (intro _)
    | (with_reducible refine lo_oc ?_ ?_)
    | (intro _ _ _ _))
theorem L_Translator_arrayStatement {R : M3} {p2 : Int32} {p3 : Int32} (hR : ∀ k a b I J, LO m0 I0 I → lo m0 I0 (R k a b I J)) (h : LO m0 I0 I) : lo m0 I0 (f_Translator_arrayStatement R p2 p3 I J) := by
  unfold f_Translator_arrayStatement
  repeat (first
    | exact lo_none
    | exact lo_some (by assumption)
    | (with_reducible refine lo_oc (L_Translator_look (by assumption)) ?_) ; (intro _ _ _ _)
    | (with_reducible exact L_Translator_look (by assumption))
    | (with_reducible refine lo_oc (L_Translator_pass (by assumption)) ?_) ; (intro _ _ _ _)
    | (with_reducible exact L_Translator_pass (by assumption))
    | (with_reducible refine lo_oc (L_Translator_refuse (by assumption)) ?_) ; (intro _ _ _ _)
    | (with_reducible exact L_Translator_refuse (by assumption))
    | (with_reducible refine lo_oc (L_Translator_blame (by assumption)) ?_) ; (intro _ _ _ _)
    | (with_reducible exact L_Translator_blame (by assumption))
    | (with_reducible refine lo_oc (L_Translator_expect (by assumption)) ?_) ; (intro _ _ _ _)
    | (with_reducible exact L_Translator_expect (by assumption))
    | (with_reducible refine lo_oc (L_Translator_emitPlace (by assumption)) ?_) ; (intro _ _ _ _)
    | (with_reducible exact L_Translator_emitPlace (by assumption))
    | (with_reducible refine lo_oc (L_Translator_arrayByArray (by assumption)) ?_) ; (intro _ _ _ _)
    | (with_reducible exact L_Translator_arrayByArray (by assumption))
    | (with_reducible refine lo_oc (hR _ _ _ _ _ (by assumption)) ?_) ; (intro _ _ _ _)
    | (with_reducible refine lo_pI (by assumption) (by decide) (by decide) ?_) ; (intro _ _)
    | (with_reducible refine lo_pl ?_) ; (intro _)
    | (with_reducible refine lo_ite ?_ ?_) <;> (intro _)
    | (with_reducible refine lo_oe ?_ ?_) <;> (intro _)
    | (with_reducible refine lo_oc ?_ ?_)
    | (intro _ _ _ _))
theorem L_Translator_routine {R : M3} {p2 : Int32} (hR : ∀ k a b I J, LO m0 I0 I → lo m0 I0 (R k a b I J)) (h : LO m0 I0 I) : lo m0 I0 (f_Translator_routine R p2 I J) := by
  unfold f_Translator_routine
  repeat (first
    | exact lo_none
    | exact lo_some (by assumption)
    | (with_reducible refine lo_oc (L_Translator_look (by assumption)) ?_) ; (intro _ _ _ _)
    | (with_reducible exact L_Translator_look (by assumption))
    | (with_reducible refine lo_oc (L_Translator_pass (by assumption)) ?_) ; (intro _ _ _ _)
    | (with_reducible exact L_Translator_pass (by assumption))
    | (with_reducible refine lo_oc (L_Translator_expect (by assumption)) ?_) ; (intro _ _ _ _)
    | (with_reducible exact L_Translator_expect (by assumption))
    | (with_reducible refine lo_oc (L_Translator_digit (by assumption)) ?_) ; (intro _ _ _ _)
    | (with_reducible exact L_Translator_digit (by assumption))
    | (with_reducible refine lo_oc (L_Translator_emit (by assumption)) ?_) ; (intro _ _ _ _)
    | (with_reducible exact L_Translator_emit (by assumption))
    | (with_reducible refine lo_oc (hR _ _ _ _ _ (by assumption)) ?_) ; (intro _ _ _ _)
    | (with_reducible refine lo_pI (by assumption) (by decide) (by decide) ?_) ; (intro _ _)
    | (with_reducible refine lo_pl ?_) ; (intro _)
    | (with_reducible refine lo_ite ?_ ?_) <;> (intro _)
    | (with_reducible refine lo_oe ?_ ?_) <;> (intro _)
    | (with_reducible refine lo_oc ?_ ?_)
    | (intro _ _ _ _))
theorem L_Translator_tell {R : M3} {p2 : Int32} {p3 : Int32} (hR : ∀ k a b I J, LO m0 I0 I → lo m0 I0 (R k a b I J)) (h : LO m0 I0 I) : lo m0 I0 (f_Translator_tell R p2 p3 I J) := by
  unfold f_Translator_tell
  refine lo_oc (L_Translator_pass h) (fun _ I1 J1 h1 => ?_)
  refine lo_pI h1 (by decide) (by decide) (fun I2 h2 => ?_)
  obtain ⟨a, a1, a2, a3⟩ := LO_at (x := 0) h2
  rw [pl_eq, a1]
  refine lo_oc (L_Translator_emit h2) (fun _ I4 J4 h4 => ?_)
  refine lo_oc (m0 := m0) (I0 := I0) ?_ (fun _ I6 J6 h6 => ?_)
  · refine lo_ite (fun _ => lo_some h4) (fun _ => lo_ite (fun _ => lo_none) (fun _ => ?_))
    refine lo_oc (m0 := m0) (I0 := I0) (lo_ite (fun _ => lo_some h4) (fun _ => lo_oc (L_Translator_blame h4) (fun _ _ _ h => lo_some h))) (fun _ I5 J5 h5 => ?_)
    exact lo_ite (fun _ => lo_none) (fun _ => lo_pI h5 (by decide) (by decide) (fun _ h => lo_some h))
  refine lo_oc (hR _ _ _ _ _ h6) (fun _ I7 J7 h7 => ?_)
  refine lo_oc (L_Translator_expect h7) (fun _ I8 J8 h8 => ?_)
  refine lo_pI h8 (by decide) (by decide) (fun I9 h9 => ?_)
  refine lo_oc (L_Translator_emit h9) (fun _ I10 J10 h10 => ?_)
  rw [nI_1]
  exact lo_oc (L_aim (by omega) (by omega) h10) (fun _ _ _ h => lo_some h)
theorem L_Translator_choice {R : M3} (hR : ∀ k a b I J, LO m0 I0 I → lo m0 I0 (R k a b I J)) (h : LO m0 I0 I) : lo m0 I0 (f_Translator_choice R I J) := by
  unfold f_Translator_choice
  refine lo_oc (L_Translator_enter h) (fun _ I1 J1 h1 => ?_)
  refine lo_oc (L_Translator_decider h1) (fun _ I2 J2 h2 => ?_)
  refine lo_oc (L_Translator_expect h2) (fun _ I3 J3 h3 => ?_)
  refine lo_pI h3 (by decide) (by decide) (fun I4 h4 => ?_)
  obtain ⟨a, a1, a2, a3⟩ := LO_at (x := 0) h4
  rw [pl_eq, a1]
  refine lo_oc (L_Translator_emit h4) (fun _ I6 J6 h6 => ?_)
  refine lo_oc (hR _ _ _ _ _ h6) (fun _ I7 J7 h7 => ?_)
  refine lo_oc (L_Translator_expect h7) (fun _ I8 J8 h8 => ?_)
  obtain ⟨b, b1, b2, b3⟩ := LO_at (x := 0) h8
  rw [pl_eq, b1]
  refine lo_oc (L_Translator_emit h8) (fun _ I10 J10 h10 => ?_)
  rw [show nI a + 2 = nI (a + 2) from nI_add a 2, nI_1]
  refine lo_oc (L_aim (by omega) (by omega) h10) (fun _ I11 J11 h11 => ?_)
  refine lo_oc (hR _ _ _ _ _ h11) (fun _ I12 J12 h12 => ?_)
  refine lo_oc (L_Translator_expect h12) (fun _ I13 J13 h13 => ?_)
  refine lo_pI h13 (by decide) (by decide) (fun I14 h14 => ?_)
  refine lo_oc (L_Translator_leave h14) (fun _ I15 J15 h15 => ?_)
  exact lo_oc (L_aim (by omega) (by omega) h15) (fun _ _ _ h => lo_some h)
theorem L_Translator_loop {R : M3} (hR : ∀ k a b I J, LO m0 I0 I → lo m0 I0 (R k a b I J)) (h : LO m0 I0 I) : lo m0 I0 (f_Translator_loop R I J) := by
  unfold f_Translator_loop
  refine lo_oc (L_Translator_enter h) (fun _ I1 J1 h1 => ?_)
  refine lo_oc (L_Translator_decider h1) (fun _ I2 J2 h2 => ?_)
  refine lo_oc (L_Translator_expect h2) (fun _ I3 J3 h3 => ?_)
  refine lo_pI h3 (by decide) (by decide) (fun I4 h4 => ?_)
  obtain ⟨a, a1, a2, a3⟩ := LO_at (x := 0) h4
  rw [pl_eq, a1]
  refine lo_oc (L_Translator_emit h4) (fun _ I6 J6 h6 => ?_)
  refine lo_oc (hR _ _ _ _ _ h6) (fun _ I7 J7 h7 => ?_)
  refine lo_oc (L_Translator_expect h7) (fun _ I8 J8 h8 => ?_)
  refine lo_pI h8 (by decide) (by decide) (fun I9 h9 => ?_)
  refine lo_oc (L_Translator_leave h9) (fun _ I10 J10 h10 => ?_)
  obtain ⟨b, b1, b2, b3⟩ := LO_at (x := 0) h10
  rw [pl_eq, b1]
  refine lo_oc (L_Translator_emit h10) (fun _ I12 J12 h12 => ?_)
  rw [show nI a + 2 = nI (a + 2) from nI_add a 2, nI_1]
  refine lo_oc (L_aim (by omega) (by omega) h12) (fun _ I13 J13 h13 => ?_)
  exact lo_oc (L_aim (by omega) (by omega) h13) (fun _ _ _ h => lo_some h)
theorem L_Translator_expression {R : M3} (hR : ∀ k a b I J, LO m0 I0 I → lo m0 I0 (R k a b I J)) (h : LO m0 I0 I) : lo m0 I0 (f_Translator_expression R I J) := by
  unfold f_Translator_expression
  repeat (first
    | exact lo_none
    | exact lo_some (by assumption)
    | (with_reducible refine lo_oc (L_Translator_expression_7 hR _ _ _ _ _ (by assumption)) ?_) ; (intro _ _ _ _)
    | (with_reducible exact L_Translator_expression_7 hR _ _ _ _ _ (by assumption))
    | (with_reducible refine lo_oc (hR _ _ _ _ _ (by assumption)) ?_) ; (intro _ _ _ _)
    | (with_reducible refine lo_pI (by assumption) (by decide) (by decide) ?_) ; (intro _ _)
    | (with_reducible refine lo_pl ?_) ; (intro _)
    | (with_reducible refine lo_ite ?_ ?_) <;> (intro _)
    | (with_reducible refine lo_oe ?_ ?_) <;> (intro _)
    | (with_reducible refine lo_oc ?_ ?_)
    | (intro _ _ _ _))
theorem L_Translator_product {R : M3} (hR : ∀ k a b I J, LO m0 I0 I → lo m0 I0 (R k a b I J)) (h : LO m0 I0 I) : lo m0 I0 (f_Translator_product R I J) := by
  unfold f_Translator_product
  repeat (first
    | exact lo_none
    | exact lo_some (by assumption)
    | (with_reducible refine lo_oc (L_Translator_product_7 hR _ _ _ _ _ (by assumption)) ?_) ; (intro _ _ _ _)
    | (with_reducible exact L_Translator_product_7 hR _ _ _ _ _ (by assumption))
    | (with_reducible refine lo_oc (hR _ _ _ _ _ (by assumption)) ?_) ; (intro _ _ _ _)
    | (with_reducible refine lo_pI (by assumption) (by decide) (by decide) ?_) ; (intro _ _)
    | (with_reducible refine lo_pl ?_) ; (intro _)
    | (with_reducible refine lo_ite ?_ ?_) <;> (intro _)
    | (with_reducible refine lo_oe ?_ ?_) <;> (intro _)
    | (with_reducible refine lo_oc ?_ ?_)
    | (intro _ _ _ _))
theorem L_Translator_factor {R : M3} (hR : ∀ k a b I J, LO m0 I0 I → lo m0 I0 (R k a b I J)) (h : LO m0 I0 I) : lo m0 I0 (f_Translator_factor R I J) := by
  unfold f_Translator_factor
  repeat (first
    | exact lo_none
    | exact lo_some (by assumption)
    | (with_reducible refine lo_oc (L_Translator_look (by assumption)) ?_) ; (intro _ _ _ _)
    | (with_reducible exact L_Translator_look (by assumption))
    | (with_reducible refine lo_oc (L_Translator_enter (by assumption)) ?_) ; (intro _ _ _ _)
    | (with_reducible exact L_Translator_enter (by assumption))
    | (with_reducible refine lo_oc (L_Translator_leave (by assumption)) ?_) ; (intro _ _ _ _)
    | (with_reducible exact L_Translator_leave (by assumption))
    | (with_reducible refine lo_oc (L_Translator_emit (by assumption)) ?_) ; (intro _ _ _ _)
    | (with_reducible exact L_Translator_emit (by assumption))
    | (with_reducible refine lo_oc (L_Translator_factor_40 hR _ _ _ _ _ (by assumption)) ?_) ; (intro _ _ _ _)
    | (with_reducible exact L_Translator_factor_40 hR _ _ _ _ _ (by assumption))
    | (with_reducible refine lo_oc (hR _ _ _ _ _ (by assumption)) ?_) ; (intro _ _ _ _)
    | (with_reducible refine lo_pI (by assumption) (by decide) (by decide) ?_) ; (intro _ _)
    | (with_reducible refine lo_pl ?_) ; (intro _)
    | (with_reducible refine lo_ite ?_ ?_) <;> (intro _)
    | (with_reducible refine lo_oe ?_ ?_) <;> (intro _)
    | (with_reducible refine lo_oc ?_ ?_)
    | (intro _ _ _ _))
theorem L_Translator_atom {R : M3} (hR : ∀ k a b I J, LO m0 I0 I → lo m0 I0 (R k a b I J)) (h : LO m0 I0 I) : lo m0 I0 (f_Translator_atom R I J) := by
  unfold f_Translator_atom
  repeat (first
    | exact lo_none
    | exact lo_some (by assumption)
    | (with_reducible refine lo_oc (L_Translator_look (by assumption)) ?_) ; (intro _ _ _ _)
    | (with_reducible exact L_Translator_look (by assumption))
    | (with_reducible refine lo_oc (L_Translator_pass (by assumption)) ?_) ; (intro _ _ _ _)
    | (with_reducible exact L_Translator_pass (by assumption))
    | (with_reducible refine lo_oc (L_Translator_refuse (by assumption)) ?_) ; (intro _ _ _ _)
    | (with_reducible exact L_Translator_refuse (by assumption))
    | (with_reducible refine lo_oc (L_Translator_expect (by assumption)) ?_) ; (intro _ _ _ _)
    | (with_reducible exact L_Translator_expect (by assumption))
    | (with_reducible refine lo_oc (L_Translator_enter (by assumption)) ?_) ; (intro _ _ _ _)
    | (with_reducible exact L_Translator_enter (by assumption))
    | (with_reducible refine lo_oc (L_Translator_leave (by assumption)) ?_) ; (intro _ _ _ _)
    | (with_reducible exact L_Translator_leave (by assumption))
    | (with_reducible refine lo_oc (L_Translator_isVariable (by assumption)) ?_) ; (intro _ _ _ _)
    | (with_reducible exact L_Translator_isVariable (by assumption))
    | (with_reducible refine lo_oc (L_Translator_isArray (by assumption)) ?_) ; (intro _ _ _ _)
    | (with_reducible exact L_Translator_isArray (by assumption))
    | (with_reducible refine lo_oc (L_Translator_isDigit (by assumption)) ?_) ; (intro _ _ _ _)
    | (with_reducible exact L_Translator_isDigit (by assumption))
    | (with_reducible refine lo_oc (L_Translator_emit (by assumption)) ?_) ; (intro _ _ _ _)
    | (with_reducible exact L_Translator_emit (by assumption))
    | (with_reducible refine lo_oc (L_Translator_emitPlace (by assumption)) ?_) ; (intro _ _ _ _)
    | (with_reducible exact L_Translator_emitPlace (by assumption))
    | (with_reducible refine lo_oc (L_Translator_literal (by assumption)) ?_) ; (intro _ _ _ _)
    | (with_reducible exact L_Translator_literal (by assumption))
    | (with_reducible refine lo_oc (hR _ _ _ _ _ (by assumption)) ?_) ; (intro _ _ _ _)
    | (with_reducible refine lo_pI (by assumption) (by decide) (by decide) ?_) ; (intro _ _)
    | (with_reducible refine lo_pl ?_) ; (intro _)
    | (with_reducible refine lo_ite ?_ ?_) <;> (intro _)
    | (with_reducible refine lo_oe ?_ ?_) <;> (intro _)
    | (with_reducible refine lo_oc ?_ ?_)
    | (intro _ _ _ _))
theorem L_Translator_index {R : M3} (hR : ∀ k a b I J, LO m0 I0 I → lo m0 I0 (R k a b I J)) (h : LO m0 I0 I) : lo m0 I0 (f_Translator_index R I J) := by
  unfold f_Translator_index
  repeat (first
    | exact lo_none
    | exact lo_some (by assumption)
    | (with_reducible refine lo_oc (L_Translator_look (by assumption)) ?_) ; (intro _ _ _ _)
    | (with_reducible exact L_Translator_look (by assumption))
    | (with_reducible refine lo_oc (L_Translator_refuse (by assumption)) ?_) ; (intro _ _ _ _)
    | (with_reducible exact L_Translator_refuse (by assumption))
    | (with_reducible refine lo_oc (L_Translator_blame (by assumption)) ?_) ; (intro _ _ _ _)
    | (with_reducible exact L_Translator_blame (by assumption))
    | (with_reducible refine lo_oc (L_Translator_expect (by assumption)) ?_) ; (intro _ _ _ _)
    | (with_reducible exact L_Translator_expect (by assumption))
    | (with_reducible refine lo_oc (L_Translator_enter (by assumption)) ?_) ; (intro _ _ _ _)
    | (with_reducible exact L_Translator_enter (by assumption))
    | (with_reducible refine lo_oc (L_Translator_leave (by assumption)) ?_) ; (intro _ _ _ _)
    | (with_reducible exact L_Translator_leave (by assumption))
    | (with_reducible refine lo_oc (hR _ _ _ _ _ (by assumption)) ?_) ; (intro _ _ _ _)
    | (with_reducible refine lo_pI (by assumption) (by decide) (by decide) ?_) ; (intro _ _)
    | (with_reducible refine lo_pl ?_) ; (intro _)
    | (with_reducible refine lo_ite ?_ ?_) <;> (intro _)
    | (with_reducible refine lo_oe ?_ ?_) <;> (intro _)
    | (with_reducible refine lo_oc ?_ ?_)
    | (intro _ _ _ _))
theorem L_all : ∀ (fu k : Nat) (a b : Int32) (I : MI) (J : MJ), LO m0 I0 I → lo m0 I0 (f_RcT fu k a b I J) := by
  intro fu
  induction fu with
  | zero => intro k a b I J h; exact lo_none
  | succ fu ih =>
    intro k a b I J h
    have cb : ∀ {α : Type} {c : Bool} {x y : M2 α}, lo m0 I0 x → lo m0 I0 y → lo m0 I0 (bif c then x else y) := by
      intro α c x y hx hy
      cases c with
      | true => exact hx
      | false => exact hy
    unfold f_RcT
    refine cb (lo_oc (L_Translator_statements ih h) (fun _ _ _ h => lo_some h)) ?_
    refine cb (L_Translator_statement ih h) ?_
    refine cb (lo_oc (L_Translator_variableStatement ih h) (fun _ _ _ h => lo_some h)) ?_
    refine cb (lo_oc (L_Translator_assign ih h) (fun _ _ _ h => lo_some h)) ?_
    refine cb (lo_oc (L_Translator_arrayStatement ih h) (fun _ _ _ h => lo_some h)) ?_
    refine cb (lo_oc (L_Translator_routine ih h) (fun _ _ _ h => lo_some h)) ?_
    refine cb (lo_oc (L_Translator_tell ih h) (fun _ _ _ h => lo_some h)) ?_
    refine cb (lo_oc (L_Translator_choice ih h) (fun _ _ _ h => lo_some h)) ?_
    refine cb (lo_oc (L_Translator_loop ih h) (fun _ _ _ h => lo_some h)) ?_
    refine cb (L_Translator_expression ih h) ?_
    refine cb (L_Translator_product ih h) ?_
    refine cb (L_Translator_factor ih h) ?_
    refine cb (L_Translator_atom ih h) ?_
    exact cb (lo_oc (L_Translator_index ih h) (fun _ _ _ h => lo_some h)) lo_none
end LOO
