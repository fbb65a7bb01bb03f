/-! compile: the reference's calls are well formed, also where it fails (wip/whole/tools/gen57.py) -/
def LM (I : MI) : Prop := ∃ c, c ≤ 200 ∧ I 112 75 = nI c ∧ ∀ i, i < c → (∃ d, d < 10 ∧ I 163 i = nI d) ∧ ∃ a, a + 1 < 6000 ∧ I 164 i = nI a
def lm {α : Type} (r : M2 α) : Prop := ∀ v I' J', r = some (v, I', J') → LM I'
section LMM
variable {I : MI} {J : MJ} {α β γ : Type}
theorem lm_none : lm (none : M2 α) := fun _ _ _ h => by cases h
theorem lm_some {v : α} (h : LM I) : lm (some (v, I, J)) := fun _ _ _ e => by
  obtain ⟨rfl, rfl, rfl⟩ := s_inj e
  exact h
theorem lm_oc {x : M2 α} {f : α → MI → MJ → M2 β} (h : lm x) (k : ∀ v I1 J1, LM I1 → lm (f v I1 J1)) : lm (oc x f) := by
  intro v I' J' e
  obtain ⟨u, I1, J1, e1, e2⟩ := oc_call e
  exact k u I1 J1 (h u I1 J1 e1) v I' J' e2
theorem lm_pl {a : α} {f : α → M2 β} (h : ∀ x, lm (f x)) : lm (pl a f) := h a
theorem LM_o {a : Nat} {w : Nat → Int32} (h : LM I) (h1 : a ≠ 112) (h2 : a ≠ 163) (h3 : a ≠ 164) : LM (va_up I a w) := by
  obtain ⟨c, e0, e1, e2⟩ := h
  refine ⟨c, e0, ?_, fun i hi => ?_⟩
  · rw [va_up_ne _ _ (Ne.symm h1)]
    exact e1
  · rw [va_up_ne _ _ (Ne.symm h2), va_up_ne _ _ (Ne.symm h3)]
    exact e2 i hi
theorem LM_m {j : Nat} {x : Int32} (h : LM I) (h1 : j ≠ 75) : LM (va_up I 112 (upd (I 112) j x)) := by
  obtain ⟨c, e0, e1, e2⟩ := h
  refine ⟨c, e0, ?_, fun i hi => ?_⟩
  · rw [va_up_self, upd_n _ _ (Ne.symm h1)]
    exact e1
  · rw [va_up_ne _ _ (by decide), va_up_ne _ _ (by decide)]
    exact e2 i hi
theorem lm_pI {a : Nat} {w : Nat → Int32} {f : MI → M2 β} (h : LM I) (h1 : a ≠ 112) (h2 : a ≠ 163) (h3 : a ≠ 164) (k : ∀ I1, LM I1 → lm (f I1)) : lm (pl (va_up I a w) f) := k _ (LM_o h h1 h2 h3)
theorem lm_pM {j : Nat} {x : Int32} {f : MI → M2 β} (h : LM I) (h1 : j ≠ 75) (k : ∀ I1, LM I1 → lm (f I1)) : lm (pl (va_up I 112 (upd (I 112) j x)) f) := k _ (LM_m h h1)
theorem lm_ite {c : Prop} [Decidable c] {a b : M2 α} (h1 : c → lm a) (h2 : ¬ c → lm b) : lm (if c then a else b) := by
  by_cases q : c
  · rw [if_pos q]; exact h1 q
  · rw [if_neg q]; exact h2 q
theorem lm_oe {q : α ⊕ β} {f : α → M2 γ} {g : β → M2 γ} (h1 : ∀ y, lm (f y)) (h2 : ∀ y, lm (g y)) : lm (oe q f g) := by
  cases q with
  | inl y => exact h1 y
  | inr y => exact h2 y

theorem M_Model_see_0 : ∀ (fu : Nat)  (I : MI) (J : MJ), LM I → lm (f_Model_see_0  fu  I J) := by
  intro fu
  induction fu with
  | zero => intro  I J h; exact lm_none
  | succ fu ih =>
    intro  I J h
    rw [f_Model_see_0]
    repeat (first
      | exact lm_none
      | exact lm_some (by assumption)
      | (with_reducible exact ih  _ _ (by assumption))
      | (with_reducible refine lm_pM (by assumption) (by decide) ?_) ; (intro _ _)
      | (with_reducible refine lm_pI (by assumption) (by decide) (by decide) (by decide) ?_) ; (intro _ _)
      | (with_reducible refine lm_pl ?_) ; (intro _)
      | (with_reducible refine lm_ite ?_ ?_) <;> (intro _)
      | (with_reducible refine lm_oe ?_ ?_) <;> (intro _)
      | (with_reducible refine lm_oc ?_ ?_)
      | (intro _ _ _ _))
theorem M_Model_see (h : LM I) : lm (f_Model_see  I J) := by
  unfold f_Model_see
  repeat (first
    | exact lm_none
    | exact lm_some (by assumption)
    | (with_reducible refine lm_oc (M_Model_see_0 _  _ _ (by assumption)) ?_) ; (intro _ _ _ _)
    | (with_reducible exact M_Model_see_0 _  _ _ (by assumption))
    | (with_reducible refine lm_pM (by assumption) (by decide) ?_) ; (intro _ _)
    | (with_reducible refine lm_pI (by assumption) (by decide) (by decide) (by decide) ?_) ; (intro _ _)
    | (with_reducible refine lm_pl ?_) ; (intro _)
    | (with_reducible refine lm_ite ?_ ?_) <;> (intro _)
    | (with_reducible refine lm_oe ?_ ?_) <;> (intro _)
    | (with_reducible refine lm_oc ?_ ?_)
    | (intro _ _ _ _))
theorem M_Model_refuse (h : LM I) : lm (f_Model_refuse  I J) := by
  unfold f_Model_refuse
  repeat (first
    | exact lm_none
    | exact lm_some (by assumption)
    | (with_reducible refine lm_oc (M_Model_see (by assumption)) ?_) ; (intro _ _ _ _)
    | (with_reducible exact M_Model_see (by assumption))
    | (with_reducible refine lm_pM (by assumption) (by decide) ?_) ; (intro _ _)
    | (with_reducible refine lm_pI (by assumption) (by decide) (by decide) (by decide) ?_) ; (intro _ _)
    | (with_reducible refine lm_pl ?_) ; (intro _)
    | (with_reducible refine lm_ite ?_ ?_) <;> (intro _)
    | (with_reducible refine lm_oe ?_ ?_) <;> (intro _)
    | (with_reducible refine lm_oc ?_ ?_)
    | (intro _ _ _ _))
theorem M_Model_note {p2 : Int32} {p3 : Int32} (h : LM I) : lm (f_Model_note p2 p3 I J) := by
  unfold f_Model_note
  repeat (first
    | exact lm_none
    | exact lm_some (by assumption)
    | (with_reducible refine lm_pM (by assumption) (by decide) ?_) ; (intro _ _)
    | (with_reducible refine lm_pI (by assumption) (by decide) (by decide) (by decide) ?_) ; (intro _ _)
    | (with_reducible refine lm_pl ?_) ; (intro _)
    | (with_reducible refine lm_ite ?_ ?_) <;> (intro _)
    | (with_reducible refine lm_oe ?_ ?_) <;> (intro _)
    | (with_reducible refine lm_oc ?_ ?_)
    | (intro _ _ _ _))
theorem M_Model_takes {p2 : Int32} (h : LM I) : lm (f_Model_takes p2 I J) := by
  unfold f_Model_takes
  repeat (first
    | exact lm_none
    | exact lm_some (by assumption)
    | (with_reducible refine lm_oc (M_Model_see (by assumption)) ?_) ; (intro _ _ _ _)
    | (with_reducible exact M_Model_see (by assumption))
    | (with_reducible refine lm_pM (by assumption) (by decide) ?_) ; (intro _ _)
    | (with_reducible refine lm_pI (by assumption) (by decide) (by decide) (by decide) ?_) ; (intro _ _)
    | (with_reducible refine lm_pl ?_) ; (intro _)
    | (with_reducible refine lm_ite ?_ ?_) <;> (intro _)
    | (with_reducible refine lm_oe ?_ ?_) <;> (intro _)
    | (with_reducible refine lm_oc ?_ ?_)
    | (intro _ _ _ _))
theorem M_Model_want {p2 : Int32} (h : LM I) : lm (f_Model_want p2 I J) := by
  unfold f_Model_want
  repeat (first
    | exact lm_none
    | exact lm_some (by assumption)
    | (with_reducible refine lm_oc (M_Model_refuse (by assumption)) ?_) ; (intro _ _ _ _)
    | (with_reducible exact M_Model_refuse (by assumption))
    | (with_reducible refine lm_oc (M_Model_takes (by assumption)) ?_) ; (intro _ _ _ _)
    | (with_reducible exact M_Model_takes (by assumption))
    | (with_reducible refine lm_pM (by assumption) (by decide) ?_) ; (intro _ _)
    | (with_reducible refine lm_pI (by assumption) (by decide) (by decide) (by decide) ?_) ; (intro _ _)
    | (with_reducible refine lm_pl ?_) ; (intro _)
    | (with_reducible refine lm_ite ?_ ?_) <;> (intro _)
    | (with_reducible refine lm_oe ?_ ?_) <;> (intro _)
    | (with_reducible refine lm_oc ?_ ?_)
    | (intro _ _ _ _))
theorem M_Model_isClear {p1 : Int32} (h : LM I) : lm (f_Model_isClear p1 I J) := by
  unfold f_Model_isClear
  repeat (first
    | exact lm_none
    | exact lm_some (by assumption)
    | (with_reducible refine lm_pM (by assumption) (by decide) ?_) ; (intro _ _)
    | (with_reducible refine lm_pI (by assumption) (by decide) (by decide) (by decide) ?_) ; (intro _ _)
    | (with_reducible refine lm_pl ?_) ; (intro _)
    | (with_reducible refine lm_ite ?_ ?_) <;> (intro _)
    | (with_reducible refine lm_oe ?_ ?_) <;> (intro _)
    | (with_reducible refine lm_oc ?_ ?_)
    | (intro _ _ _ _))
theorem M_Model_isSecret {p1 : Int32} (h : LM I) : lm (f_Model_isSecret p1 I J) := by
  unfold f_Model_isSecret
  repeat (first
    | exact lm_none
    | exact lm_some (by assumption)
    | (with_reducible refine lm_pM (by assumption) (by decide) ?_) ; (intro _ _)
    | (with_reducible refine lm_pI (by assumption) (by decide) (by decide) (by decide) ?_) ; (intro _ _)
    | (with_reducible refine lm_pl ?_) ; (intro _)
    | (with_reducible refine lm_ite ?_ ?_) <;> (intro _)
    | (with_reducible refine lm_oe ?_ ?_) <;> (intro _)
    | (with_reducible refine lm_oc ?_ ?_)
    | (intro _ _ _ _))
theorem M_Model_isVariable (h : LM I) : lm (f_Model_isVariable  I J) := by
  unfold f_Model_isVariable
  repeat (first
    | exact lm_none
    | exact lm_some (by assumption)
    | (with_reducible refine lm_oc (M_Model_see (by assumption)) ?_) ; (intro _ _ _ _)
    | (with_reducible exact M_Model_see (by assumption))
    | (with_reducible refine lm_oc (M_Model_isClear (by assumption)) ?_) ; (intro _ _ _ _)
    | (with_reducible exact M_Model_isClear (by assumption))
    | (with_reducible refine lm_oc (M_Model_isSecret (by assumption)) ?_) ; (intro _ _ _ _)
    | (with_reducible exact M_Model_isSecret (by assumption))
    | (with_reducible refine lm_pM (by assumption) (by decide) ?_) ; (intro _ _)
    | (with_reducible refine lm_pI (by assumption) (by decide) (by decide) (by decide) ?_) ; (intro _ _)
    | (with_reducible refine lm_pl ?_) ; (intro _)
    | (with_reducible refine lm_ite ?_ ?_) <;> (intro _)
    | (with_reducible refine lm_oe ?_ ?_) <;> (intro _)
    | (with_reducible refine lm_oc ?_ ?_)
    | (intro _ _ _ _))
theorem M_Model_isRow (h : LM I) : lm (f_Model_isRow  I J) := by
  unfold f_Model_isRow
  repeat (first
    | exact lm_none
    | exact lm_some (by assumption)
    | (with_reducible refine lm_oc (M_Model_see (by assumption)) ?_) ; (intro _ _ _ _)
    | (with_reducible exact M_Model_see (by assumption))
    | (with_reducible refine lm_pM (by assumption) (by decide) ?_) ; (intro _ _)
    | (with_reducible refine lm_pI (by assumption) (by decide) (by decide) (by decide) ?_) ; (intro _ _)
    | (with_reducible refine lm_pl ?_) ; (intro _)
    | (with_reducible refine lm_ite ?_ ?_) <;> (intro _)
    | (with_reducible refine lm_oe ?_ ?_) <;> (intro _)
    | (with_reducible refine lm_oc ?_ ?_)
    | (intro _ _ _ _))
theorem M_Model_isSecretRow {p1 : Int32} (h : LM I) : lm (f_Model_isSecretRow p1 I J) := by
  unfold f_Model_isSecretRow
  repeat (first
    | exact lm_none
    | exact lm_some (by assumption)
    | (with_reducible refine lm_pM (by assumption) (by decide) ?_) ; (intro _ _)
    | (with_reducible refine lm_pI (by assumption) (by decide) (by decide) (by decide) ?_) ; (intro _ _)
    | (with_reducible refine lm_pl ?_) ; (intro _)
    | (with_reducible refine lm_ite ?_ ?_) <;> (intro _)
    | (with_reducible refine lm_oe ?_ ?_) <;> (intro _)
    | (with_reducible refine lm_oc ?_ ?_)
    | (intro _ _ _ _))
theorem M_Model_numberOf {p1 : Int32} (h : LM I) : lm (f_Model_numberOf p1 I J) := by
  unfold f_Model_numberOf
  repeat (first
    | exact lm_none
    | exact lm_some (by assumption)
    | (with_reducible refine lm_oc (M_Model_isClear (by assumption)) ?_) ; (intro _ _ _ _)
    | (with_reducible exact M_Model_isClear (by assumption))
    | (with_reducible refine lm_pM (by assumption) (by decide) ?_) ; (intro _ _)
    | (with_reducible refine lm_pI (by assumption) (by decide) (by decide) (by decide) ?_) ; (intro _ _)
    | (with_reducible refine lm_pl ?_) ; (intro _)
    | (with_reducible refine lm_ite ?_ ?_) <;> (intro _)
    | (with_reducible refine lm_oe ?_ ?_) <;> (intro _)
    | (with_reducible refine lm_oc ?_ ?_)
    | (intro _ _ _ _))
theorem M_Model_isDigit (h : LM I) : lm (f_Model_isDigit  I J) := by
  unfold f_Model_isDigit
  repeat (first
    | exact lm_none
    | exact lm_some (by assumption)
    | (with_reducible refine lm_oc (M_Model_see (by assumption)) ?_) ; (intro _ _ _ _)
    | (with_reducible exact M_Model_see (by assumption))
    | (with_reducible refine lm_pM (by assumption) (by decide) ?_) ; (intro _ _)
    | (with_reducible refine lm_pI (by assumption) (by decide) (by decide) (by decide) ?_) ; (intro _ _)
    | (with_reducible refine lm_pl ?_) ; (intro _)
    | (with_reducible refine lm_ite ?_ ?_) <;> (intro _)
    | (with_reducible refine lm_oe ?_ ?_) <;> (intro _)
    | (with_reducible refine lm_oc ?_ ?_)
    | (intro _ _ _ _))
theorem M_Model_lay_IV {p2 : Int32} (h : LM I) : lm (f_Model_lay_IV p2 I J) := by
  unfold f_Model_lay_IV
  repeat (first
    | exact lm_none
    | exact lm_some (by assumption)
    | (with_reducible refine lm_pM (by assumption) (by decide) ?_) ; (intro _ _)
    | (with_reducible refine lm_pI (by assumption) (by decide) (by decide) (by decide) ?_) ; (intro _ _)
    | (with_reducible refine lm_pl ?_) ; (intro _)
    | (with_reducible refine lm_ite ?_ ?_) <;> (intro _)
    | (with_reducible refine lm_oe ?_ ?_) <;> (intro _)
    | (with_reducible refine lm_oc ?_ ?_)
    | (intro _ _ _ _))
theorem M_Model_lay_IIV {p2 : Int32} {p3 : Int32} (h : LM I) : lm (f_Model_lay_IIV p2 p3 I J) := by
  unfold f_Model_lay_IIV
  repeat (first
    | exact lm_none
    | exact lm_some (by assumption)
    | (with_reducible refine lm_oc (M_Model_lay_IV (by assumption)) ?_) ; (intro _ _ _ _)
    | (with_reducible exact M_Model_lay_IV (by assumption))
    | (with_reducible refine lm_pM (by assumption) (by decide) ?_) ; (intro _ _)
    | (with_reducible refine lm_pI (by assumption) (by decide) (by decide) (by decide) ?_) ; (intro _ _)
    | (with_reducible refine lm_pl ?_) ; (intro _)
    | (with_reducible refine lm_ite ?_ ?_) <;> (intro _)
    | (with_reducible refine lm_oe ?_ ?_) <;> (intro _)
    | (with_reducible refine lm_oc ?_ ?_)
    | (intro _ _ _ _))
theorem M_Model_readNumber_4 : ∀ (fu : Nat) (y0 : Int64) (y1 : Int32) (I : MI) (J : MJ), LM I → lm (f_Model_readNumber_4  fu y0 y1 I J) := by
  intro fu
  induction fu with
  | zero => intro y0 y1 I J h; exact lm_none
  | succ fu ih =>
    intro y0 y1 I J h
    rw [f_Model_readNumber_4]
    repeat (first
      | exact lm_none
      | exact lm_some (by assumption)
      | (with_reducible exact ih _ _ _ _ (by assumption))
      | (with_reducible refine lm_pM (by assumption) (by decide) ?_) ; (intro _ _)
      | (with_reducible refine lm_pI (by assumption) (by decide) (by decide) (by decide) ?_) ; (intro _ _)
      | (with_reducible refine lm_pl ?_) ; (intro _)
      | (with_reducible refine lm_ite ?_ ?_) <;> (intro _)
      | (with_reducible refine lm_oe ?_ ?_) <;> (intro _)
      | (with_reducible refine lm_oc ?_ ?_)
      | (intro _ _ _ _))
theorem M_Model_readNumber_110 : ∀ (fu : Nat) (y0 : Int64) (y1 : Int32) (I : MI) (J : MJ), LM I → lm (f_Model_readNumber_110  fu y0 y1 I J) := by
  intro fu
  induction fu with
  | zero => intro y0 y1 I J h; exact lm_none
  | succ fu ih =>
    intro y0 y1 I J h
    rw [f_Model_readNumber_110]
    repeat (first
      | exact lm_none
      | exact lm_some (by assumption)
      | (with_reducible exact ih _ _ _ _ (by assumption))
      | (with_reducible refine lm_oc (M_Model_lay_IV (by assumption)) ?_) ; (intro _ _ _ _)
      | (with_reducible exact M_Model_lay_IV (by assumption))
      | (with_reducible refine lm_pM (by assumption) (by decide) ?_) ; (intro _ _)
      | (with_reducible refine lm_pI (by assumption) (by decide) (by decide) (by decide) ?_) ; (intro _ _)
      | (with_reducible refine lm_pl ?_) ; (intro _)
      | (with_reducible refine lm_ite ?_ ?_) <;> (intro _)
      | (with_reducible refine lm_oe ?_ ?_) <;> (intro _)
      | (with_reducible refine lm_oc ?_ ?_)
      | (intro _ _ _ _))
theorem M_Model_readNumber (h : LM I) : lm (f_Model_readNumber  I J) := by
  unfold f_Model_readNumber
  repeat (first
    | exact lm_none
    | exact lm_some (by assumption)
    | (with_reducible refine lm_oc (M_Model_lay_IV (by assumption)) ?_) ; (intro _ _ _ _)
    | (with_reducible exact M_Model_lay_IV (by assumption))
    | (with_reducible refine lm_oc (M_Model_readNumber_4 _ _ _ _ _ (by assumption)) ?_) ; (intro _ _ _ _)
    | (with_reducible exact M_Model_readNumber_4 _ _ _ _ _ (by assumption))
    | (with_reducible refine lm_oc (M_Model_readNumber_110 _ _ _ _ _ (by assumption)) ?_) ; (intro _ _ _ _)
    | (with_reducible exact M_Model_readNumber_110 _ _ _ _ _ (by assumption))
    | (with_reducible refine lm_pM (by assumption) (by decide) ?_) ; (intro _ _)
    | (with_reducible refine lm_pI (by assumption) (by decide) (by decide) (by decide) ?_) ; (intro _ _)
    | (with_reducible refine lm_pl ?_) ; (intro _)
    | (with_reducible refine lm_ite ?_ ?_) <;> (intro _)
    | (with_reducible refine lm_oe ?_ ?_) <;> (intro _)
    | (with_reducible refine lm_oc ?_ ?_)
    | (intro _ _ _ _))
theorem M_Model_readOut (h : LM I) : lm (f_Model_readOut  I J) := by
  unfold f_Model_readOut
  repeat (first
    | exact lm_none
    | exact lm_some (by assumption)
    | (with_reducible refine lm_oc (M_Model_see (by assumption)) ?_) ; (intro _ _ _ _)
    | (with_reducible exact M_Model_see (by assumption))
    | (with_reducible refine lm_oc (M_Model_refuse (by assumption)) ?_) ; (intro _ _ _ _)
    | (with_reducible exact M_Model_refuse (by assumption))
    | (with_reducible refine lm_oc (M_Model_want (by assumption)) ?_) ; (intro _ _ _ _)
    | (with_reducible exact M_Model_want (by assumption))
    | (with_reducible refine lm_oc (M_Model_isClear (by assumption)) ?_) ; (intro _ _ _ _)
    | (with_reducible exact M_Model_isClear (by assumption))
    | (with_reducible refine lm_oc (M_Model_isVariable (by assumption)) ?_) ; (intro _ _ _ _)
    | (with_reducible exact M_Model_isVariable (by assumption))
    | (with_reducible refine lm_oc (M_Model_numberOf (by assumption)) ?_) ; (intro _ _ _ _)
    | (with_reducible exact M_Model_numberOf (by assumption))
    | (with_reducible refine lm_oc (M_Model_lay_IIV (by assumption)) ?_) ; (intro _ _ _ _)
    | (with_reducible exact M_Model_lay_IIV (by assumption))
    | (with_reducible refine lm_pM (by assumption) (by decide) ?_) ; (intro _ _)
    | (with_reducible refine lm_pI (by assumption) (by decide) (by decide) (by decide) ?_) ; (intro _ _)
    | (with_reducible refine lm_pl ?_) ; (intro _)
    | (with_reducible refine lm_ite ?_ ?_) <;> (intro _)
    | (with_reducible refine lm_oe ?_ ?_) <;> (intro _)
    | (with_reducible refine lm_oc ?_ ?_)
    | (intro _ _ _ _))
theorem M_Model_readInput {p2 : Int32} {p3 : Int32} (h : LM I) : lm (f_Model_readInput p2 p3 I J) := by
  unfold f_Model_readInput
  repeat (first
    | exact lm_none
    | exact lm_some (by assumption)
    | (with_reducible refine lm_oc (M_Model_see (by assumption)) ?_) ; (intro _ _ _ _)
    | (with_reducible exact M_Model_see (by assumption))
    | (with_reducible refine lm_oc (M_Model_refuse (by assumption)) ?_) ; (intro _ _ _ _)
    | (with_reducible exact M_Model_refuse (by assumption))
    | (with_reducible refine lm_oc (M_Model_note (by assumption)) ?_) ; (intro _ _ _ _)
    | (with_reducible exact M_Model_note (by assumption))
    | (with_reducible refine lm_oc (M_Model_want (by assumption)) ?_) ; (intro _ _ _ _)
    | (with_reducible exact M_Model_want (by assumption))
    | (with_reducible refine lm_oc (M_Model_isClear (by assumption)) ?_) ; (intro _ _ _ _)
    | (with_reducible exact M_Model_isClear (by assumption))
    | (with_reducible refine lm_oc (M_Model_numberOf (by assumption)) ?_) ; (intro _ _ _ _)
    | (with_reducible exact M_Model_numberOf (by assumption))
    | (with_reducible refine lm_oc (M_Model_isDigit (by assumption)) ?_) ; (intro _ _ _ _)
    | (with_reducible exact M_Model_isDigit (by assumption))
    | (with_reducible refine lm_oc (M_Model_lay_IV (by assumption)) ?_) ; (intro _ _ _ _)
    | (with_reducible exact M_Model_lay_IV (by assumption))
    | (with_reducible refine lm_oc (M_Model_lay_IIV (by assumption)) ?_) ; (intro _ _ _ _)
    | (with_reducible exact M_Model_lay_IIV (by assumption))
    | (with_reducible refine lm_pM (by assumption) (by decide) ?_) ; (intro _ _)
    | (with_reducible refine lm_pI (by assumption) (by decide) (by decide) (by decide) ?_) ; (intro _ _)
    | (with_reducible refine lm_pl ?_) ; (intro _)
    | (with_reducible refine lm_ite ?_ ?_) <;> (intro _)
    | (with_reducible refine lm_oe ?_ ?_) <;> (intro _)
    | (with_reducible refine lm_oc ?_ ?_)
    | (intro _ _ _ _))
theorem M_Model_readBit {p2 : Int32} {p3 : Int32} (h : LM I) : lm (f_Model_readBit p2 p3 I J) := by
  unfold f_Model_readBit
  repeat (first
    | exact lm_none
    | exact lm_some (by assumption)
    | (with_reducible refine lm_oc (M_Model_note (by assumption)) ?_) ; (intro _ _ _ _)
    | (with_reducible exact M_Model_note (by assumption))
    | (with_reducible refine lm_oc (M_Model_want (by assumption)) ?_) ; (intro _ _ _ _)
    | (with_reducible exact M_Model_want (by assumption))
    | (with_reducible refine lm_oc (M_Model_isClear (by assumption)) ?_) ; (intro _ _ _ _)
    | (with_reducible exact M_Model_isClear (by assumption))
    | (with_reducible refine lm_oc (M_Model_numberOf (by assumption)) ?_) ; (intro _ _ _ _)
    | (with_reducible exact M_Model_numberOf (by assumption))
    | (with_reducible refine lm_oc (M_Model_lay_IIV (by assumption)) ?_) ; (intro _ _ _ _)
    | (with_reducible exact M_Model_lay_IIV (by assumption))
    | (with_reducible refine lm_pM (by assumption) (by decide) ?_) ; (intro _ _)
    | (with_reducible refine lm_pI (by assumption) (by decide) (by decide) (by decide) ?_) ; (intro _ _)
    | (with_reducible refine lm_pl ?_) ; (intro _)
    | (with_reducible refine lm_ite ?_ ?_) <;> (intro _)
    | (with_reducible refine lm_oe ?_ ?_) <;> (intro _)
    | (with_reducible refine lm_oc ?_ ?_)
    | (intro _ _ _ _))
theorem M_Model_isSum_7 : ∀ (fu : Nat) (y0 : Int32) (I : MI) (J : MJ), LM I → lm (f_Model_isSum_7  fu y0 I J) := by
  intro fu
  induction fu with
  | zero => intro y0 I J h; exact lm_none
  | succ fu ih =>
    intro y0 I J h
    rw [f_Model_isSum_7]
    repeat (first
      | exact lm_none
      | exact lm_some (by assumption)
      | (with_reducible exact ih _ _ _ (by assumption))
      | (with_reducible refine lm_pM (by assumption) (by decide) ?_) ; (intro _ _)
      | (with_reducible refine lm_pI (by assumption) (by decide) (by decide) (by decide) ?_) ; (intro _ _)
      | (with_reducible refine lm_pl ?_) ; (intro _)
      | (with_reducible refine lm_ite ?_ ?_) <;> (intro _)
      | (with_reducible refine lm_oe ?_ ?_) <;> (intro _)
      | (with_reducible refine lm_oc ?_ ?_)
      | (intro _ _ _ _))
theorem M_Model_isSum (h : LM I) : lm (f_Model_isSum  I J) := by
  unfold f_Model_isSum
  repeat (first
    | exact lm_none
    | exact lm_some (by assumption)
    | (with_reducible refine lm_oc (M_Model_isSum_7 _ _ _ _ (by assumption)) ?_) ; (intro _ _ _ _)
    | (with_reducible exact M_Model_isSum_7 _ _ _ _ (by assumption))
    | (with_reducible refine lm_pM (by assumption) (by decide) ?_) ; (intro _ _)
    | (with_reducible refine lm_pI (by assumption) (by decide) (by decide) (by decide) ?_) ; (intro _ _)
    | (with_reducible refine lm_pl ?_) ; (intro _)
    | (with_reducible refine lm_ite ?_ ?_) <;> (intro _)
    | (with_reducible refine lm_oe ?_ ?_) <;> (intro _)
    | (with_reducible refine lm_oc ?_ ?_)
    | (intro _ _ _ _))
theorem M_Model_readRows {p2 : Int32} {p3 : Int32} (h : LM I) : lm (f_Model_readRows p2 p3 I J) := by
  unfold f_Model_readRows
  repeat (first
    | exact lm_none
    | exact lm_some (by assumption)
    | (with_reducible refine lm_oc (M_Model_see (by assumption)) ?_) ; (intro _ _ _ _)
    | (with_reducible exact M_Model_see (by assumption))
    | (with_reducible refine lm_oc (M_Model_refuse (by assumption)) ?_) ; (intro _ _ _ _)
    | (with_reducible exact M_Model_refuse (by assumption))
    | (with_reducible refine lm_oc (M_Model_note (by assumption)) ?_) ; (intro _ _ _ _)
    | (with_reducible exact M_Model_note (by assumption))
    | (with_reducible refine lm_oc (M_Model_want (by assumption)) ?_) ; (intro _ _ _ _)
    | (with_reducible exact M_Model_want (by assumption))
    | (with_reducible refine lm_oc (M_Model_isRow (by assumption)) ?_) ; (intro _ _ _ _)
    | (with_reducible exact M_Model_isRow (by assumption))
    | (with_reducible refine lm_oc (M_Model_isSecretRow (by assumption)) ?_) ; (intro _ _ _ _)
    | (with_reducible exact M_Model_isSecretRow (by assumption))
    | (with_reducible refine lm_oc (M_Model_lay_IV (by assumption)) ?_) ; (intro _ _ _ _)
    | (with_reducible exact M_Model_lay_IV (by assumption))
    | (with_reducible refine lm_oc (M_Model_lay_IIV (by assumption)) ?_) ; (intro _ _ _ _)
    | (with_reducible exact M_Model_lay_IIV (by assumption))
    | (with_reducible refine lm_pM (by assumption) (by decide) ?_) ; (intro _ _)
    | (with_reducible refine lm_pI (by assumption) (by decide) (by decide) (by decide) ?_) ; (intro _ _)
    | (with_reducible refine lm_pl ?_) ; (intro _)
    | (with_reducible refine lm_ite ?_ ?_) <;> (intro _)
    | (with_reducible refine lm_oe ?_ ?_) <;> (intro _)
    | (with_reducible refine lm_oc ?_ ?_)
    | (intro _ _ _ _))
theorem M_Model_fill {p2 : Int32} {p3 : Int32} (h : LM I) : lm (f_Model_fill p2 p3 I J) := by
  unfold f_Model_fill
  repeat (first
    | exact lm_none
    | exact lm_some (by assumption)
    | (with_reducible refine lm_pM (by assumption) (by decide) ?_) ; (intro _ _)
    | (with_reducible refine lm_pI (by assumption) (by decide) (by decide) (by decide) ?_) ; (intro _ _)
    | (with_reducible refine lm_pl ?_) ; (intro _)
    | (with_reducible refine lm_ite ?_ ?_) <;> (intro _)
    | (with_reducible refine lm_oe ?_ ?_) <;> (intro _)
    | (with_reducible refine lm_oc ?_ ?_)
    | (intro _ _ _ _))
theorem see0_id : ∀ (fu : Nat) (I : MI) (J : MJ) (u : Unit) (I1 : MI) (J1 : MJ), f_Model_see_0 fu I J = some (u, I1, J1) → ∀ fu', f_Model_see_0 (fu' + 1) I1 J1 = some ((), I1, J1) := by
  intro fu
  induction fu with
  | zero => intro I J u I1 J1 h; cases h
  | succ fu ih =>
    intro I J u I1 J1 h fu'
    rw [f_Model_see_0] at h
    by_cases c1 : (I 112 2) ≤ (I 112 5)
    · rw [if_pos c1] at h
      obtain ⟨rfl, rfl, rfl⟩ := s_inj h
      rw [f_Model_see_0, if_pos c1]
    · rw [if_neg c1] at h
      by_cases c2 : (I 112 5) < 0 ∨ 400 ≤ Int32.toNatClampNeg (I 112 5)
      · rw [if_pos c2] at h
        cases h
      · rw [if_neg c2] at h
        by_cases c3 : (I 113 (Int32.toNatClampNeg (I 112 5))) = 32
        · rw [if_neg (fun c => c c3), pl_eq] at h
          exact ih _ _ _ _ _ h fu'
        · rw [if_pos c3] at h
          obtain ⟨rfl, rfl, rfl⟩ := s_inj h
          rw [f_Model_see_0, if_neg c1, if_neg c2, if_pos c3]
theorem see_id {v : Int32} {I1 : MI} {J1 : MJ} (h : f_Model_see I J = some (v, I1, J1)) : f_Model_see I1 J1 = some (v, I1, J1) := by
  unfold f_Model_see at h
  obtain ⟨u, I2, J2, e1, e2⟩ := oc_call h
  have e3 := see0_id gF I J u I2 J2 e1 999999
  have e4 : f_Model_see_0 gF I2 J2 = some ((), I2, J2) := e3
  by_cases c1 : (I2 112 2) ≤ (I2 112 5)
  · rw [if_pos c1] at e2
    obtain ⟨rfl, rfl, rfl⟩ := s_inj e2
    unfold f_Model_see
    rw [e4, oc_some, if_pos c1]
  · rw [if_neg c1] at e2
    by_cases c2 : (I2 112 5) < 0 ∨ 400 ≤ Int32.toNatClampNeg (I2 112 5)
    · rw [if_pos c2] at e2
      cases e2
    · rw [if_neg c2] at e2
      obtain ⟨rfl, rfl, rfl⟩ := s_inj e2
      unfold f_Model_see
      rw [e4, oc_some, if_neg c1, if_neg c2]
theorem dig_id {v : Int32} {I1 : MI} {J1 : MJ} (h : f_Model_isDigit I J = some (v, I1, J1)) (hv : ¬ v = 0) : ∃ d, d < 10 ∧ f_Model_see I1 J1 = some (nI (d + 48), I1, J1) := by
  unfold f_Model_isDigit at h
  obtain ⟨v1, I2, J2, e1, e2⟩ := oc_call h
  have e1' := see_id e1
  by_cases c1 : v1 < 48
  · rw [if_pos c1] at e2
    obtain ⟨rfl, rfl, rfl⟩ := s_inj e2
    exact absurd rfl hv
  · rw [if_neg c1, e1', oc_some] at e2
    by_cases c2 : 57 < v1
    · rw [if_pos c2] at e2
      obtain ⟨rfl, rfl, rfl⟩ := s_inj e2
      exact absurd rfl hv
    · rw [if_neg c2] at e2
      obtain ⟨rfl, rfl, rfl⟩ := s_inj e2
      have c0 : ¬ v1 < 0 := fun c => c1 (Int32.lt_trans c (by decide))
      obtain ⟨j, hj, rfl⟩ := nI_of c0
      have d1 : ¬ j < 48 := fun c => c1 ((nI_ltI (b := 48) hj (by omega)).mpr c)
      have d2 : ¬ 57 < j := fun c => c2 ((nI_ltI (a := 57) (by omega) hj).mpr c)
      exact ⟨j - 48, by omega, by rw [show j - 48 + 48 = j by omega]; exact e1'⟩
theorem lay_in {p : Int32} {u : Unit} {I1 : MI} {J1 : MJ} (h : f_Model_lay_IV p I J = some (u, I1, J1)) : ∃ a, a < 6000 ∧ I 112 10 = nI a ∧ I1 112 10 = nI (a + 1) := by
  unfold f_Model_lay_IV at h
  by_cases c2 : (I 112 10) < 0 ∨ 6000 ≤ Int32.toNatClampNeg (I 112 10)
  · rw [if_pos c2] at h
    cases h
  · rw [if_neg c2, pl_eq, pl_eq] at h
    obtain ⟨rfl, rfl, rfl⟩ := s_inj h
    have c0 : ¬ I 112 10 < 0 := fun c => c2 (Or.inl c)
    obtain ⟨j, hj, e⟩ := nI_of c0
    have : ¬ 6000 ≤ j := fun c => c2 (Or.inr (by rw [e, nI_clamp hj]; exact c))
    refine ⟨j, by omega, e, ?_⟩
    rw [va_up_self, upd_s, va_up_ne _ _ (by decide), e]
    exact nI_add j 1
theorem M_mCal {x1 : Int32} {d : Nat} (hd : d < 10) (h : LM I) : lm (mCal x1 (nI d) I J) := by
  unfold mCal
  refine lm_oc (M_Model_lay_IV h) (fun _ I1 J1 h1 => ?_)
  obtain ⟨c, e0, e1, e2⟩ := h1
  refine lm_ite (fun _ => lm_none) (fun q => ?_)
  have hc : c < 200 := by
    by_cases w : c < 200
    · exact w
    · exact absurd (Or.inr (by rw [e1, nI_clamp (by omega)]; omega)) q
  rw [pl_eq]
  refine lm_ite (fun _ => lm_none) (fun _ => ?_)
  rw [pl_eq]
  refine lm_ite (fun _ => lm_none) (fun _ => ?_)
  rw [pl_eq, pl_eq]
  intro v I' J' e
  obtain ⟨u, I2, J2, f1, f2⟩ := oc_call e
  obtain ⟨_, rfl, _⟩ := s_inj f2
  have g1 := f1
  unfold f_Model_lay_IIV at g1
  obtain ⟨u1, I3, J3, g2, g3⟩ := oc_call g1
  obtain ⟨u2, I4, J4, g4, g5⟩ := oc_call g3
  obtain ⟨a, a1, a2, a3⟩ := lay_in g2
  obtain ⟨b, b1, b2, b3⟩ := lay_in g4
  have hab : b = a + 1 := (nI_eq (by omega) (by omega)).mp (b2.symm.trans a3)
  refine M_Model_lay_IIV ?_ u _ _ f1
  have a2' : I1 112 10 = nI a := by
    rw [← a2]
    simp (disch := omega) only [a11, a01, ↓li_m, ↓oc_some, ↓oc_ite, ↓oc_oc, ↓oc_pl, ↓oc_none, ↓oc_oe, ↓pl_eq, ↓oe_i, ↓oe_j, va_up_self, va_up_ne, va_up_up, upd_s, upd_n, updL_s, updL_n, nI_add, nI_1, nI_ltI, nI_leI, nI_eq, nI_clamp, li_n, m1_lt, m1_le, m1_gt, m1_ge, m1_ne, m1_en, m1_ad, nle_F, nle_T, nlt_F, nlt_T, neq_F, neq_T, or_self, or_false, false_or, true_or, or_true, and_self, and_false, false_and, true_and, and_true, not_true_eq_false, not_false_eq_true, ↓reduceIte, if_true, if_false, Nat.reduceAdd, ite_self, Bool.false_eq_true]
  have e75 := e1
  refine ⟨c + 1, by omega, ?_, fun i hi => ?_⟩
  · simp (disch := omega) only [a11, a01, ↓li_m, ↓oc_some, ↓oc_ite, ↓oc_oc, ↓oc_pl, ↓oc_none, ↓oc_oe, ↓pl_eq, ↓oe_i, ↓oe_j, va_up_self, va_up_ne, va_up_up, upd_s, upd_n, updL_s, updL_n, nI_add, nI_1, nI_ltI, nI_leI, nI_eq, nI_clamp, li_n, m1_lt, m1_le, m1_gt, m1_ge, m1_ne, m1_en, m1_ad, nle_F, nle_T, nlt_F, nlt_T, neq_F, neq_T, or_self, or_false, false_or, true_or, or_true, and_self, and_false, false_and, true_and, and_true, not_true_eq_false, not_false_eq_true, ↓reduceIte, if_true, if_false, Nat.reduceAdd, ite_self, Bool.false_eq_true, e75]
  · by_cases w : i = c
    · subst w
      refine ⟨⟨d, hd, ?_⟩, a, by omega, ?_⟩
      · simp (disch := omega) only [a11, a01, ↓li_m, ↓oc_some, ↓oc_ite, ↓oc_oc, ↓oc_pl, ↓oc_none, ↓oc_oe, ↓pl_eq, ↓oe_i, ↓oe_j, va_up_self, va_up_ne, va_up_up, upd_s, upd_n, updL_s, updL_n, nI_add, nI_1, nI_ltI, nI_leI, nI_eq, nI_clamp, li_n, m1_lt, m1_le, m1_gt, m1_ge, m1_ne, m1_en, m1_ad, nle_F, nle_T, nlt_F, nlt_T, neq_F, neq_T, or_self, or_false, false_or, true_or, or_true, and_self, and_false, false_and, true_and, and_true, not_true_eq_false, not_false_eq_true, ↓reduceIte, if_true, if_false, Nat.reduceAdd, ite_self, Bool.false_eq_true, e75]
      · simp (disch := omega) only [a11, a01, ↓li_m, ↓oc_some, ↓oc_ite, ↓oc_oc, ↓oc_pl, ↓oc_none, ↓oc_oe, ↓pl_eq, ↓oe_i, ↓oe_j, va_up_self, va_up_ne, va_up_up, upd_s, upd_n, updL_s, updL_n, nI_add, nI_1, nI_ltI, nI_leI, nI_eq, nI_clamp, li_n, m1_lt, m1_le, m1_gt, m1_ge, m1_ne, m1_en, m1_ad, nle_F, nle_T, nlt_F, nlt_T, neq_F, neq_T, or_self, or_false, false_or, true_or, or_true, and_self, and_false, false_and, true_and, and_true, not_true_eq_false, not_false_eq_true, ↓reduceIte, if_true, if_false, Nat.reduceAdd, ite_self, Bool.false_eq_true, e75, a2']
    · obtain ⟨z1, z2⟩ := e2 i (by omega)
      refine ⟨?_, ?_⟩
      · simp (disch := omega) only [a11, a01, ↓li_m, ↓oc_some, ↓oc_ite, ↓oc_oc, ↓oc_pl, ↓oc_none, ↓oc_oe, ↓pl_eq, ↓oe_i, ↓oe_j, va_up_self, va_up_ne, va_up_up, upd_s, upd_n, updL_s, updL_n, nI_add, nI_1, nI_ltI, nI_leI, nI_eq, nI_clamp, li_n, m1_lt, m1_le, m1_gt, m1_ge, m1_ne, m1_en, m1_ad, nle_F, nle_T, nlt_F, nlt_T, neq_F, neq_T, or_self, or_false, false_or, true_or, or_true, and_self, and_false, false_and, true_and, and_true, not_true_eq_false, not_false_eq_true, ↓reduceIte, if_true, if_false, Nat.reduceAdd, ite_self, Bool.false_eq_true, e75]
        exact z1
      · simp (disch := omega) only [a11, a01, ↓li_m, ↓oc_some, ↓oc_ite, ↓oc_oc, ↓oc_pl, ↓oc_none, ↓oc_oe, ↓pl_eq, ↓oe_i, ↓oe_j, va_up_self, va_up_ne, va_up_up, upd_s, upd_n, updL_s, updL_n, nI_add, nI_1, nI_ltI, nI_leI, nI_eq, nI_clamp, li_n, m1_lt, m1_le, m1_gt, m1_ge, m1_ne, m1_en, m1_ad, nle_F, nle_T, nlt_F, nlt_T, neq_F, neq_T, or_self, or_false, false_or, true_or, or_true, and_self, and_false, false_and, true_and, and_true, not_true_eq_false, not_false_eq_true, ↓reduceIte, if_true, if_false, Nat.reduceAdd, ite_self, Bool.false_eq_true, e75]
        exact z2
theorem M_mTel {R : M3} (hR : ∀ k a b I J, LM I → lm (R k a b I J)) {x1 x6 : Int32} (h : LM I) : lm (mTel R x1 x6 I J) := by
  unfold mTel mEnd
  repeat (first
    | exact lm_none
    | exact lm_some (by assumption)
    | (with_reducible refine lm_oc (M_Model_see (by assumption)) ?_) ; (intro _ _ _ _)
    | (with_reducible exact M_Model_see (by assumption))
    | (with_reducible refine lm_oc (M_Model_refuse (by assumption)) ?_) ; (intro _ _ _ _)
    | (with_reducible exact M_Model_refuse (by assumption))
    | (with_reducible refine lm_oc (M_Model_note (by assumption)) ?_) ; (intro _ _ _ _)
    | (with_reducible exact M_Model_note (by assumption))
    | (with_reducible refine lm_oc (M_Model_takes (by assumption)) ?_) ; (intro _ _ _ _)
    | (with_reducible exact M_Model_takes (by assumption))
    | (with_reducible refine lm_oc (M_Model_want (by assumption)) ?_) ; (intro _ _ _ _)
    | (with_reducible exact M_Model_want (by assumption))
    | (with_reducible refine lm_oc (M_Model_isDigit (by assumption)) ?_) ; (intro _ _ _ _)
    | (with_reducible exact M_Model_isDigit (by assumption))
    | (with_reducible refine lm_oc (M_Model_lay_IV (by assumption)) ?_) ; (intro _ _ _ _)
    | (with_reducible exact M_Model_lay_IV (by assumption))
    | (with_reducible refine lm_oc (M_Model_lay_IIV (by assumption)) ?_) ; (intro _ _ _ _)
    | (with_reducible exact M_Model_lay_IIV (by assumption))
    | (with_reducible refine lm_oc (M_Model_fill (by assumption)) ?_) ; (intro _ _ _ _)
    | (with_reducible exact M_Model_fill (by assumption))
    | (with_reducible refine lm_oc (hR _ _ _ _ _ (by assumption)) ?_) ; (intro _ _ _ _)
    | (with_reducible refine lm_pM (by assumption) (by decide) ?_) ; (intro _ _)
    | (with_reducible refine lm_pI (by assumption) (by decide) (by decide) (by decide) ?_) ; (intro _ _)
    | (with_reducible refine lm_pl ?_) ; (intro _)
    | (with_reducible refine lm_ite ?_ ?_) <;> (intro _)
    | (with_reducible refine lm_oe ?_ ?_) <;> (intro _)
    | (with_reducible refine lm_oc ?_ ?_)
    | (intro _ _ _ _))
theorem M_mNo (h : LM I) : lm (mNo I J) := by
  unfold mNo
  repeat (first
    | exact lm_none
    | exact lm_some (by assumption)
    | exact lm_none
    | exact lm_some (by assumption)
    | (with_reducible refine lm_oc (M_Model_see (by assumption)) ?_) ; (intro _ _ _ _)
    | (with_reducible exact M_Model_see (by assumption))
    | (with_reducible refine lm_oc (M_Model_refuse (by assumption)) ?_) ; (intro _ _ _ _)
    | (with_reducible exact M_Model_refuse (by assumption))
    | (with_reducible refine lm_oc (M_Model_note (by assumption)) ?_) ; (intro _ _ _ _)
    | (with_reducible exact M_Model_note (by assumption))
    | (with_reducible refine lm_oc (M_Model_takes (by assumption)) ?_) ; (intro _ _ _ _)
    | (with_reducible exact M_Model_takes (by assumption))
    | (with_reducible refine lm_oc (M_Model_want (by assumption)) ?_) ; (intro _ _ _ _)
    | (with_reducible exact M_Model_want (by assumption))
    | (with_reducible refine lm_oc (M_Model_isDigit (by assumption)) ?_) ; (intro _ _ _ _)
    | (with_reducible exact M_Model_isDigit (by assumption))
    | (with_reducible refine lm_oc (M_Model_lay_IV (by assumption)) ?_) ; (intro _ _ _ _)
    | (with_reducible exact M_Model_lay_IV (by assumption))
    | (with_reducible refine lm_oc (M_Model_lay_IIV (by assumption)) ?_) ; (intro _ _ _ _)
    | (with_reducible exact M_Model_lay_IIV (by assumption))
    | (with_reducible refine lm_oc (M_Model_fill (by assumption)) ?_) ; (intro _ _ _ _)
    | (with_reducible exact M_Model_fill (by assumption))
    | (with_reducible refine lm_pM (by assumption) (by decide) ?_) ; (intro _ _)
    | (with_reducible refine lm_pI (by assumption) (by decide) (by decide) (by decide) ?_) ; (intro _ _)
    | (with_reducible refine lm_pl ?_) ; (intro _)
    | (with_reducible refine lm_ite ?_ ?_) <;> (intro _)
    | (with_reducible refine lm_oe ?_ ?_) <;> (intro _)
    | (with_reducible refine lm_oc ?_ ?_)
    | (intro _ _ _ _))
theorem M_Model_readRoutine {R : M3} (hR : ∀ k a b I J, LM I → lm (R k a b I J)) (h : LM I) : lm (f_Model_readRoutine R I J) := by
  rw [rrout_eq]
  refine lm_pl (fun x1 => ?_)
  refine lm_pM h (by decide) (fun I2 h2 => ?_)
  intro v I' J' e
  obtain ⟨v3, I3, J3, e1, e2⟩ := oc_call e
  have h3 := M_Model_isDigit h2 _ _ _ e1
  by_cases c : ¬ v3 = 0
  · rw [if_pos c] at e2
    obtain ⟨d, d1, d2⟩ := dig_id e1 c
    rw [d2, oc_some, pl_eq, show nI (d + 48) - 48 = nI d from nI_sb (a := d + 48) (b := 48) (by omega)] at e2
    revert e2
    refine lm_pM h3 (by decide) (fun I7 h7 => ?_) _ _ _
    refine lm_oc (M_Model_takes h7) (fun _ I8 J8 h8 => ?_)
    refine lm_ite (fun _ => ?_) (fun _ => M_mCal d1 h8)
    refine lm_oc (M_Model_see h8) (fun _ I9 J9 h9 => ?_)
    refine lm_ite (fun _ => M_mNo h9) (fun _ => lm_ite (fun _ => ?_) (fun _ => M_mNo h9))
    exact lm_pM h9 (by decide) (fun I10 h10 => M_mTel hR h10)
  · rw [if_neg c] at e2
    exact M_mNo h3 _ _ _ e2
theorem M_Model_readFactor_79 {R : M3} (hR : ∀ k a b I J, LM I → lm (R k a b I J)) : ∀ (fu : Nat)  (I : MI) (J : MJ), LM I → lm (f_Model_readFactor_79 R fu  I J) := by
  intro fu
  induction fu with
  | zero => intro  I J h; exact lm_none
  | succ fu ih =>
    intro  I J h
    rw [f_Model_readFactor_79]
    repeat (first
      | exact lm_none
      | exact lm_some (by assumption)
      | (with_reducible exact ih  _ _ (by assumption))
      | (with_reducible refine lm_oc (M_Model_takes (by assumption)) ?_) ; (intro _ _ _ _)
      | (with_reducible exact M_Model_takes (by assumption))
      | (with_reducible refine lm_oc (M_Model_lay_IV (by assumption)) ?_) ; (intro _ _ _ _)
      | (with_reducible exact M_Model_lay_IV (by assumption))
      | (with_reducible refine lm_oc (hR _ _ _ _ _ (by assumption)) ?_) ; (intro _ _ _ _)
      | (with_reducible refine lm_pM (by assumption) (by decide) ?_) ; (intro _ _)
      | (with_reducible refine lm_pI (by assumption) (by decide) (by decide) (by decide) ?_) ; (intro _ _)
      | (with_reducible refine lm_pl ?_) ; (intro _)
      | (with_reducible refine lm_ite ?_ ?_) <;> (intro _)
      | (with_reducible refine lm_oe ?_ ?_) <;> (intro _)
      | (with_reducible refine lm_oc ?_ ?_)
      | (intro _ _ _ _))
theorem M_Model_readProduct_14 {R : M3} (hR : ∀ k a b I J, LM I → lm (R k a b I J)) : ∀ (fu : Nat) (y0 : Int32) (I : MI) (J : MJ), LM I → lm (f_Model_readProduct_14 R fu y0 I J) := by
  intro fu
  induction fu with
  | zero => intro y0 I J h; exact lm_none
  | succ fu ih =>
    intro y0 I J h
    rw [f_Model_readProduct_14]
    repeat (first
      | exact lm_none
      | exact lm_some (by assumption)
      | (with_reducible exact ih _ _ _ (by assumption))
      | (with_reducible refine lm_oc (M_Model_takes (by assumption)) ?_) ; (intro _ _ _ _)
      | (with_reducible exact M_Model_takes (by assumption))
      | (with_reducible refine lm_oc (M_Model_lay_IV (by assumption)) ?_) ; (intro _ _ _ _)
      | (with_reducible exact M_Model_lay_IV (by assumption))
      | (with_reducible refine lm_oc (hR _ _ _ _ _ (by assumption)) ?_) ; (intro _ _ _ _)
      | (with_reducible refine lm_pM (by assumption) (by decide) ?_) ; (intro _ _)
      | (with_reducible refine lm_pI (by assumption) (by decide) (by decide) (by decide) ?_) ; (intro _ _)
      | (with_reducible refine lm_pl ?_) ; (intro _)
      | (with_reducible refine lm_ite ?_ ?_) <;> (intro _)
      | (with_reducible refine lm_oe ?_ ?_) <;> (intro _)
      | (with_reducible refine lm_oc ?_ ?_)
      | (intro _ _ _ _))
theorem M_Model_readX_14 {R : M3} (hR : ∀ k a b I J, LM I → lm (R k a b I J)) : ∀ (fu : Nat) (y0 : Int32) (I : MI) (J : MJ), LM I → lm (f_Model_readX_14 R fu y0 I J) := by
  intro fu
  induction fu with
  | zero => intro y0 I J h; exact lm_none
  | succ fu ih =>
    intro y0 I J h
    rw [f_Model_readX_14]
    repeat (first
      | exact lm_none
      | exact lm_some (by assumption)
      | (with_reducible exact ih _ _ _ (by assumption))
      | (with_reducible refine lm_oc (M_Model_see (by assumption)) ?_) ; (intro _ _ _ _)
      | (with_reducible exact M_Model_see (by assumption))
      | (with_reducible refine lm_oc (M_Model_lay_IV (by assumption)) ?_) ; (intro _ _ _ _)
      | (with_reducible exact M_Model_lay_IV (by assumption))
      | (with_reducible refine lm_oc (hR _ _ _ _ _ (by assumption)) ?_) ; (intro _ _ _ _)
      | (with_reducible refine lm_pM (by assumption) (by decide) ?_) ; (intro _ _)
      | (with_reducible refine lm_pI (by assumption) (by decide) (by decide) (by decide) ?_) ; (intro _ _)
      | (with_reducible refine lm_pl ?_) ; (intro _)
      | (with_reducible refine lm_ite ?_ ?_) <;> (intro _)
      | (with_reducible refine lm_oe ?_ ?_) <;> (intro _)
      | (with_reducible refine lm_oc ?_ ?_)
      | (intro _ _ _ _))
theorem M_Model_readStatements_0 {R : M3} (hR : ∀ k a b I J, LM I → lm (R k a b I J)) : ∀ (fu : Nat)  (I : MI) (J : MJ), LM I → lm (f_Model_readStatements_0 R fu  I J) := by
  intro fu
  induction fu with
  | zero => intro  I J h; exact lm_none
  | succ fu ih =>
    intro  I J h
    rw [f_Model_readStatements_0]
    repeat (first
      | exact lm_none
      | exact lm_some (by assumption)
      | (with_reducible exact ih  _ _ (by assumption))
      | (with_reducible refine lm_oc (M_Model_see (by assumption)) ?_) ; (intro _ _ _ _)
      | (with_reducible exact M_Model_see (by assumption))
      | (with_reducible refine lm_oc (hR _ _ _ _ _ (by assumption)) ?_) ; (intro _ _ _ _)
      | (with_reducible refine lm_pM (by assumption) (by decide) ?_) ; (intro _ _)
      | (with_reducible refine lm_pI (by assumption) (by decide) (by decide) (by decide) ?_) ; (intro _ _)
      | (with_reducible refine lm_pl ?_) ; (intro _)
      | (with_reducible refine lm_ite ?_ ?_) <;> (intro _)
      | (with_reducible refine lm_oe ?_ ?_) <;> (intro _)
      | (with_reducible refine lm_oc ?_ ?_)
      | (intro _ _ _ _))
theorem M_Model_readStatements {R : M3} (hR : ∀ k a b I J, LM I → lm (R k a b I J)) (h : LM I) : lm (f_Model_readStatements R I J) := by
  unfold f_Model_readStatements
  repeat (first
    | exact lm_none
    | exact lm_some (by assumption)
    | (with_reducible refine lm_oc (M_Model_readStatements_0 hR _  _ _ (by assumption)) ?_) ; (intro _ _ _ _)
    | (with_reducible exact M_Model_readStatements_0 hR _  _ _ (by assumption))
    | (with_reducible refine lm_oc (hR _ _ _ _ _ (by assumption)) ?_) ; (intro _ _ _ _)
    | (with_reducible refine lm_pM (by assumption) (by decide) ?_) ; (intro _ _)
    | (with_reducible refine lm_pI (by assumption) (by decide) (by decide) (by decide) ?_) ; (intro _ _)
    | (with_reducible refine lm_pl ?_) ; (intro _)
    | (with_reducible refine lm_ite ?_ ?_) <;> (intro _)
    | (with_reducible refine lm_oe ?_ ?_) <;> (intro _)
    | (with_reducible refine lm_oc ?_ ?_)
    | (intro _ _ _ _))
theorem M_Model_readStatement {R : M3} (hR : ∀ k a b I J, LM I → lm (R k a b I J)) (h : LM I) : lm (f_Model_readStatement R I J) := by
  unfold f_Model_readStatement
  repeat (first
    | exact lm_none
    | exact lm_some (by assumption)
    | (with_reducible refine lm_oc (M_Model_see (by assumption)) ?_) ; (intro _ _ _ _)
    | (with_reducible exact M_Model_see (by assumption))
    | (with_reducible refine lm_oc (M_Model_refuse (by assumption)) ?_) ; (intro _ _ _ _)
    | (with_reducible exact M_Model_refuse (by assumption))
    | (with_reducible refine lm_oc (M_Model_note (by assumption)) ?_) ; (intro _ _ _ _)
    | (with_reducible exact M_Model_note (by assumption))
    | (with_reducible refine lm_oc (M_Model_takes (by assumption)) ?_) ; (intro _ _ _ _)
    | (with_reducible exact M_Model_takes (by assumption))
    | (with_reducible refine lm_oc (M_Model_want (by assumption)) ?_) ; (intro _ _ _ _)
    | (with_reducible exact M_Model_want (by assumption))
    | (with_reducible refine lm_oc (M_Model_isClear (by assumption)) ?_) ; (intro _ _ _ _)
    | (with_reducible exact M_Model_isClear (by assumption))
    | (with_reducible refine lm_oc (M_Model_isSecret (by assumption)) ?_) ; (intro _ _ _ _)
    | (with_reducible exact M_Model_isSecret (by assumption))
    | (with_reducible refine lm_oc (M_Model_isVariable (by assumption)) ?_) ; (intro _ _ _ _)
    | (with_reducible exact M_Model_isVariable (by assumption))
    | (with_reducible refine lm_oc (M_Model_isRow (by assumption)) ?_) ; (intro _ _ _ _)
    | (with_reducible exact M_Model_isRow (by assumption))
    | (with_reducible refine lm_oc (M_Model_numberOf (by assumption)) ?_) ; (intro _ _ _ _)
    | (with_reducible exact M_Model_numberOf (by assumption))
    | (with_reducible refine lm_oc (M_Model_lay_IV (by assumption)) ?_) ; (intro _ _ _ _)
    | (with_reducible exact M_Model_lay_IV (by assumption))
    | (with_reducible refine lm_oc (M_Model_lay_IIV (by assumption)) ?_) ; (intro _ _ _ _)
    | (with_reducible exact M_Model_lay_IIV (by assumption))
    | (with_reducible refine lm_oc (M_Model_readOut (by assumption)) ?_) ; (intro _ _ _ _)
    | (with_reducible exact M_Model_readOut (by assumption))
    | (with_reducible refine lm_oc (M_Model_readInput (by assumption)) ?_) ; (intro _ _ _ _)
    | (with_reducible exact M_Model_readInput (by assumption))
    | (with_reducible refine lm_oc (M_Model_readBit (by assumption)) ?_) ; (intro _ _ _ _)
    | (with_reducible exact M_Model_readBit (by assumption))
    | (with_reducible refine lm_oc (hR _ _ _ _ _ (by assumption)) ?_) ; (intro _ _ _ _)
    | (with_reducible refine lm_pM (by assumption) (by decide) ?_) ; (intro _ _)
    | (with_reducible refine lm_pI (by assumption) (by decide) (by decide) (by decide) ?_) ; (intro _ _)
    | (with_reducible refine lm_pl ?_) ; (intro _)
    | (with_reducible refine lm_ite ?_ ?_) <;> (intro _)
    | (with_reducible refine lm_oe ?_ ?_) <;> (intro _)
    | (with_reducible refine lm_oc ?_ ?_)
    | (intro _ _ _ _))
theorem M_Model_readTurn {R : M3} {p2 : Int32} (hR : ∀ k a b I J, LM I → lm (R k a b I J)) (h : LM I) : lm (f_Model_readTurn R p2 I J) := by
  unfold f_Model_readTurn
  repeat (first
    | exact lm_none
    | exact lm_some (by assumption)
    | (with_reducible refine lm_oc (M_Model_see (by assumption)) ?_) ; (intro _ _ _ _)
    | (with_reducible exact M_Model_see (by assumption))
    | (with_reducible refine lm_oc (M_Model_refuse (by assumption)) ?_) ; (intro _ _ _ _)
    | (with_reducible exact M_Model_refuse (by assumption))
    | (with_reducible refine lm_oc (M_Model_note (by assumption)) ?_) ; (intro _ _ _ _)
    | (with_reducible exact M_Model_note (by assumption))
    | (with_reducible refine lm_oc (M_Model_want (by assumption)) ?_) ; (intro _ _ _ _)
    | (with_reducible exact M_Model_want (by assumption))
    | (with_reducible refine lm_oc (M_Model_isSecret (by assumption)) ?_) ; (intro _ _ _ _)
    | (with_reducible exact M_Model_isSecret (by assumption))
    | (with_reducible refine lm_oc (M_Model_isVariable (by assumption)) ?_) ; (intro _ _ _ _)
    | (with_reducible exact M_Model_isVariable (by assumption))
    | (with_reducible refine lm_oc (M_Model_numberOf (by assumption)) ?_) ; (intro _ _ _ _)
    | (with_reducible exact M_Model_numberOf (by assumption))
    | (with_reducible refine lm_oc (M_Model_lay_IV (by assumption)) ?_) ; (intro _ _ _ _)
    | (with_reducible exact M_Model_lay_IV (by assumption))
    | (with_reducible refine lm_oc (M_Model_lay_IIV (by assumption)) ?_) ; (intro _ _ _ _)
    | (with_reducible exact M_Model_lay_IIV (by assumption))
    | (with_reducible refine lm_oc (M_Model_fill (by assumption)) ?_) ; (intro _ _ _ _)
    | (with_reducible exact M_Model_fill (by assumption))
    | (with_reducible refine lm_oc (hR _ _ _ _ _ (by assumption)) ?_) ; (intro _ _ _ _)
    | (with_reducible refine lm_pM (by assumption) (by decide) ?_) ; (intro _ _)
    | (with_reducible refine lm_pI (by assumption) (by decide) (by decide) (by decide) ?_) ; (intro _ _)
    | (with_reducible refine lm_pl ?_) ; (intro _)
    | (with_reducible refine lm_ite ?_ ?_) <;> (intro _)
    | (with_reducible refine lm_oe ?_ ?_) <;> (intro _)
    | (with_reducible refine lm_oc ?_ ?_)
    | (intro _ _ _ _))
theorem M_Model_readValue {R : M3} {p2 : Int32} {p3 : Int32} (hR : ∀ k a b I J, LM I → lm (R k a b I J)) (h : LM I) : lm (f_Model_readValue R p2 p3 I J) := by
  unfold f_Model_readValue
  repeat (first
    | exact lm_none
    | exact lm_some (by assumption)
    | (with_reducible refine lm_oc (M_Model_see (by assumption)) ?_) ; (intro _ _ _ _)
    | (with_reducible exact M_Model_see (by assumption))
    | (with_reducible refine lm_oc (M_Model_refuse (by assumption)) ?_) ; (intro _ _ _ _)
    | (with_reducible exact M_Model_refuse (by assumption))
    | (with_reducible refine lm_oc (M_Model_note (by assumption)) ?_) ; (intro _ _ _ _)
    | (with_reducible exact M_Model_note (by assumption))
    | (with_reducible refine lm_oc (M_Model_takes (by assumption)) ?_) ; (intro _ _ _ _)
    | (with_reducible exact M_Model_takes (by assumption))
    | (with_reducible refine lm_oc (M_Model_want (by assumption)) ?_) ; (intro _ _ _ _)
    | (with_reducible exact M_Model_want (by assumption))
    | (with_reducible refine lm_oc (M_Model_isClear (by assumption)) ?_) ; (intro _ _ _ _)
    | (with_reducible exact M_Model_isClear (by assumption))
    | (with_reducible refine lm_oc (M_Model_isRow (by assumption)) ?_) ; (intro _ _ _ _)
    | (with_reducible exact M_Model_isRow (by assumption))
    | (with_reducible refine lm_oc (M_Model_numberOf (by assumption)) ?_) ; (intro _ _ _ _)
    | (with_reducible exact M_Model_numberOf (by assumption))
    | (with_reducible refine lm_oc (M_Model_lay_IV (by assumption)) ?_) ; (intro _ _ _ _)
    | (with_reducible exact M_Model_lay_IV (by assumption))
    | (with_reducible refine lm_oc (M_Model_lay_IIV (by assumption)) ?_) ; (intro _ _ _ _)
    | (with_reducible exact M_Model_lay_IIV (by assumption))
    | (with_reducible refine lm_oc (M_Model_isSum (by assumption)) ?_) ; (intro _ _ _ _)
    | (with_reducible exact M_Model_isSum (by assumption))
    | (with_reducible refine lm_oc (hR _ _ _ _ _ (by assumption)) ?_) ; (intro _ _ _ _)
    | (with_reducible refine lm_pM (by assumption) (by decide) ?_) ; (intro _ _)
    | (with_reducible refine lm_pI (by assumption) (by decide) (by decide) (by decide) ?_) ; (intro _ _)
    | (with_reducible refine lm_pl ?_) ; (intro _)
    | (with_reducible refine lm_ite ?_ ?_) <;> (intro _)
    | (with_reducible refine lm_oe ?_ ?_) <;> (intro _)
    | (with_reducible refine lm_oc ?_ ?_)
    | (intro _ _ _ _))
theorem M_Model_readRow {R : M3} {p2 : Int32} (hR : ∀ k a b I J, LM I → lm (R k a b I J)) (h : LM I) : lm (f_Model_readRow R p2 I J) := by
  unfold f_Model_readRow
  repeat (first
    | exact lm_none
    | exact lm_some (by assumption)
    | (with_reducible refine lm_oc (M_Model_see (by assumption)) ?_) ; (intro _ _ _ _)
    | (with_reducible exact M_Model_see (by assumption))
    | (with_reducible refine lm_oc (M_Model_refuse (by assumption)) ?_) ; (intro _ _ _ _)
    | (with_reducible exact M_Model_refuse (by assumption))
    | (with_reducible refine lm_oc (M_Model_note (by assumption)) ?_) ; (intro _ _ _ _)
    | (with_reducible exact M_Model_note (by assumption))
    | (with_reducible refine lm_oc (M_Model_takes (by assumption)) ?_) ; (intro _ _ _ _)
    | (with_reducible exact M_Model_takes (by assumption))
    | (with_reducible refine lm_oc (M_Model_want (by assumption)) ?_) ; (intro _ _ _ _)
    | (with_reducible exact M_Model_want (by assumption))
    | (with_reducible refine lm_oc (M_Model_isSecretRow (by assumption)) ?_) ; (intro _ _ _ _)
    | (with_reducible exact M_Model_isSecretRow (by assumption))
    | (with_reducible refine lm_oc (M_Model_lay_IIV (by assumption)) ?_) ; (intro _ _ _ _)
    | (with_reducible exact M_Model_lay_IIV (by assumption))
    | (with_reducible refine lm_oc (M_Model_readRows (by assumption)) ?_) ; (intro _ _ _ _)
    | (with_reducible exact M_Model_readRows (by assumption))
    | (with_reducible refine lm_oc (hR _ _ _ _ _ (by assumption)) ?_) ; (intro _ _ _ _)
    | (with_reducible refine lm_pM (by assumption) (by decide) ?_) ; (intro _ _)
    | (with_reducible refine lm_pI (by assumption) (by decide) (by decide) (by decide) ?_) ; (intro _ _)
    | (with_reducible refine lm_pl ?_) ; (intro _)
    | (with_reducible refine lm_ite ?_ ?_) <;> (intro _)
    | (with_reducible refine lm_oe ?_ ?_) <;> (intro _)
    | (with_reducible refine lm_oc ?_ ?_)
    | (intro _ _ _ _))
theorem M_Model_readX {R : M3} (hR : ∀ k a b I J, LM I → lm (R k a b I J)) (h : LM I) : lm (f_Model_readX R I J) := by
  unfold f_Model_readX
  repeat (first
    | exact lm_none
    | exact lm_some (by assumption)
    | (with_reducible refine lm_oc (M_Model_readX_14 hR _ _ _ _ (by assumption)) ?_) ; (intro _ _ _ _)
    | (with_reducible exact M_Model_readX_14 hR _ _ _ _ (by assumption))
    | (with_reducible refine lm_oc (hR _ _ _ _ _ (by assumption)) ?_) ; (intro _ _ _ _)
    | (with_reducible refine lm_pM (by assumption) (by decide) ?_) ; (intro _ _)
    | (with_reducible refine lm_pI (by assumption) (by decide) (by decide) (by decide) ?_) ; (intro _ _)
    | (with_reducible refine lm_pl ?_) ; (intro _)
    | (with_reducible refine lm_ite ?_ ?_) <;> (intro _)
    | (with_reducible refine lm_oe ?_ ?_) <;> (intro _)
    | (with_reducible refine lm_oc ?_ ?_)
    | (intro _ _ _ _))
theorem M_Model_readProduct {R : M3} (hR : ∀ k a b I J, LM I → lm (R k a b I J)) (h : LM I) : lm (f_Model_readProduct R I J) := by
  unfold f_Model_readProduct
  repeat (first
    | exact lm_none
    | exact lm_some (by assumption)
    | (with_reducible refine lm_oc (M_Model_readProduct_14 hR _ _ _ _ (by assumption)) ?_) ; (intro _ _ _ _)
    | (with_reducible exact M_Model_readProduct_14 hR _ _ _ _ (by assumption))
    | (with_reducible refine lm_oc (hR _ _ _ _ _ (by assumption)) ?_) ; (intro _ _ _ _)
    | (with_reducible refine lm_pM (by assumption) (by decide) ?_) ; (intro _ _)
    | (with_reducible refine lm_pI (by assumption) (by decide) (by decide) (by decide) ?_) ; (intro _ _)
    | (with_reducible refine lm_pl ?_) ; (intro _)
    | (with_reducible refine lm_ite ?_ ?_) <;> (intro _)
    | (with_reducible refine lm_oe ?_ ?_) <;> (intro _)
    | (with_reducible refine lm_oc ?_ ?_)
    | (intro _ _ _ _))
theorem M_Model_readFactor {R : M3} (hR : ∀ k a b I J, LM I → lm (R k a b I J)) (h : LM I) : lm (f_Model_readFactor R I J) := by
  unfold f_Model_readFactor
  repeat (first
    | exact lm_none
    | exact lm_some (by assumption)
    | (with_reducible refine lm_oc (M_Model_see (by assumption)) ?_) ; (intro _ _ _ _)
    | (with_reducible exact M_Model_see (by assumption))
    | (with_reducible refine lm_oc (M_Model_refuse (by assumption)) ?_) ; (intro _ _ _ _)
    | (with_reducible exact M_Model_refuse (by assumption))
    | (with_reducible refine lm_oc (M_Model_lay_IV (by assumption)) ?_) ; (intro _ _ _ _)
    | (with_reducible exact M_Model_lay_IV (by assumption))
    | (with_reducible refine lm_oc (M_Model_readFactor_79 hR _  _ _ (by assumption)) ?_) ; (intro _ _ _ _)
    | (with_reducible exact M_Model_readFactor_79 hR _  _ _ (by assumption))
    | (with_reducible refine lm_oc (hR _ _ _ _ _ (by assumption)) ?_) ; (intro _ _ _ _)
    | (with_reducible refine lm_pM (by assumption) (by decide) ?_) ; (intro _ _)
    | (with_reducible refine lm_pI (by assumption) (by decide) (by decide) (by decide) ?_) ; (intro _ _)
    | (with_reducible refine lm_pl ?_) ; (intro _)
    | (with_reducible refine lm_ite ?_ ?_) <;> (intro _)
    | (with_reducible refine lm_oe ?_ ?_) <;> (intro _)
    | (with_reducible refine lm_oc ?_ ?_)
    | (intro _ _ _ _))
theorem M_Model_readPart {R : M3} (hR : ∀ k a b I J, LM I → lm (R k a b I J)) (h : LM I) : lm (f_Model_readPart R I J) := by
  unfold f_Model_readPart
  repeat (first
    | exact lm_none
    | exact lm_some (by assumption)
    | (with_reducible refine lm_oc (M_Model_see (by assumption)) ?_) ; (intro _ _ _ _)
    | (with_reducible exact M_Model_see (by assumption))
    | (with_reducible refine lm_oc (M_Model_refuse (by assumption)) ?_) ; (intro _ _ _ _)
    | (with_reducible exact M_Model_refuse (by assumption))
    | (with_reducible refine lm_oc (M_Model_want (by assumption)) ?_) ; (intro _ _ _ _)
    | (with_reducible exact M_Model_want (by assumption))
    | (with_reducible refine lm_oc (M_Model_isClear (by assumption)) ?_) ; (intro _ _ _ _)
    | (with_reducible exact M_Model_isClear (by assumption))
    | (with_reducible refine lm_oc (M_Model_isSecret (by assumption)) ?_) ; (intro _ _ _ _)
    | (with_reducible exact M_Model_isSecret (by assumption))
    | (with_reducible refine lm_oc (M_Model_isVariable (by assumption)) ?_) ; (intro _ _ _ _)
    | (with_reducible exact M_Model_isVariable (by assumption))
    | (with_reducible refine lm_oc (M_Model_isRow (by assumption)) ?_) ; (intro _ _ _ _)
    | (with_reducible exact M_Model_isRow (by assumption))
    | (with_reducible refine lm_oc (M_Model_isSecretRow (by assumption)) ?_) ; (intro _ _ _ _)
    | (with_reducible exact M_Model_isSecretRow (by assumption))
    | (with_reducible refine lm_oc (M_Model_numberOf (by assumption)) ?_) ; (intro _ _ _ _)
    | (with_reducible exact M_Model_numberOf (by assumption))
    | (with_reducible refine lm_oc (M_Model_isDigit (by assumption)) ?_) ; (intro _ _ _ _)
    | (with_reducible exact M_Model_isDigit (by assumption))
    | (with_reducible refine lm_oc (M_Model_lay_IIV (by assumption)) ?_) ; (intro _ _ _ _)
    | (with_reducible exact M_Model_lay_IIV (by assumption))
    | (with_reducible refine lm_oc (M_Model_readNumber (by assumption)) ?_) ; (intro _ _ _ _)
    | (with_reducible exact M_Model_readNumber (by assumption))
    | (with_reducible refine lm_oc (hR _ _ _ _ _ (by assumption)) ?_) ; (intro _ _ _ _)
    | (with_reducible refine lm_pM (by assumption) (by decide) ?_) ; (intro _ _)
    | (with_reducible refine lm_pI (by assumption) (by decide) (by decide) (by decide) ?_) ; (intro _ _)
    | (with_reducible refine lm_pl ?_) ; (intro _)
    | (with_reducible refine lm_ite ?_ ?_) <;> (intro _)
    | (with_reducible refine lm_oe ?_ ?_) <;> (intro _)
    | (with_reducible refine lm_oc ?_ ?_)
    | (intro _ _ _ _))
theorem M_Model_readPlace {R : M3} (hR : ∀ k a b I J, LM I → lm (R k a b I J)) (h : LM I) : lm (f_Model_readPlace R I J) := by
  unfold f_Model_readPlace
  repeat (first
    | exact lm_none
    | exact lm_some (by assumption)
    | (with_reducible refine lm_oc (M_Model_see (by assumption)) ?_) ; (intro _ _ _ _)
    | (with_reducible exact M_Model_see (by assumption))
    | (with_reducible refine lm_oc (M_Model_refuse (by assumption)) ?_) ; (intro _ _ _ _)
    | (with_reducible exact M_Model_refuse (by assumption))
    | (with_reducible refine lm_oc (M_Model_note (by assumption)) ?_) ; (intro _ _ _ _)
    | (with_reducible exact M_Model_note (by assumption))
    | (with_reducible refine lm_oc (M_Model_want (by assumption)) ?_) ; (intro _ _ _ _)
    | (with_reducible exact M_Model_want (by assumption))
    | (with_reducible refine lm_oc (hR _ _ _ _ _ (by assumption)) ?_) ; (intro _ _ _ _)
    | (with_reducible refine lm_pM (by assumption) (by decide) ?_) ; (intro _ _)
    | (with_reducible refine lm_pI (by assumption) (by decide) (by decide) (by decide) ?_) ; (intro _ _)
    | (with_reducible refine lm_pl ?_) ; (intro _)
    | (with_reducible refine lm_ite ?_ ?_) <;> (intro _)
    | (with_reducible refine lm_oe ?_ ?_) <;> (intro _)
    | (with_reducible refine lm_oc ?_ ?_)
    | (intro _ _ _ _))
theorem M_all : ∀ (fu k : Nat) (a b : Int32) (I : MI) (J : MJ), LM I → lm (f_RcM fu k a b I J) := by
  intro fu
  induction fu with
  | zero => intro k a b I J h; exact lm_none
  | succ fu ih =>
    intro k a b I J h
    have cb : ∀ {α : Type} {c : Bool} {x y : M2 α}, lm x → lm y → lm (bif c then x else y) := by
      intro α c x y hx hy
      cases c with
      | true => exact hx
      | false => exact hy
    unfold f_RcM
    refine cb (M_Model_readX ih h) ?_
    refine cb (M_Model_readProduct ih h) ?_
    refine cb (M_Model_readFactor ih h) ?_
    refine cb (M_Model_readPart ih h) ?_
    refine cb (M_Model_readPlace ih h) ?_
    refine cb (M_Model_readStatements ih h) ?_
    refine cb (M_Model_readStatement ih h) ?_
    refine cb (M_Model_readRoutine ih h) ?_
    refine cb (M_Model_readValue ih h) ?_
    refine cb (M_Model_readRow ih h) ?_
    exact cb (M_Model_readTurn ih h) lm_none
end LMM
