/-! the run: sending and receiving -/
def anyb (f : Nat → Bool) : Nat → Nat → Bool
  | 0, _ => false
  | d + 1, i => if f i = true then true else anyb f d (i + 1)
theorem anyb_t {f : Nat → Bool} : ∀ (d i : Nat), anyb f d i = true → ∃ j, i ≤ j ∧ j < i + d ∧ f j = true := by
  intro d
  induction d with
  | zero => intro i h; cases h
  | succ d ih =>
    intro i h
    rw [anyb] at h
    by_cases c : f i = true
    · exact ⟨i, Nat.le_refl _, by omega, c⟩
    · rw [if_neg c] at h
      obtain ⟨j, a, b, e⟩ := ih _ h
      exact ⟨j, by omega, by omega, e⟩
theorem anyb_f {f : Nat → Bool} : ∀ (d i : Nat), anyb f d i = false → ∀ j, i ≤ j → j < i + d → f j = false := by
  intro d
  induction d with
  | zero => intro i h j a b; omega
  | succ d ih =>
    intro i h j a b
    rw [anyb] at h
    by_cases c : f i = true
    · rw [if_pos c] at h
      cases h
    · rw [if_neg c] at h
      by_cases e : j = i
      · rw [e]
        exact Bool.eq_false_iff.mpr c
      · exact ih _ h j (by omega) (by omega)
theorem anyb_c {f g : Nat → Bool} : ∀ (d i : Nat), (∀ j, i ≤ j → j < i + d → f j = g j) → anyb f d i = anyb g d i := by
  intro d
  induction d with
  | zero => intro i _; rfl
  | succ d ih =>
    intro i h
    rw [anyb, anyb, h i (Nat.le_refl _) (by omega), ih (i + 1) (fun j a b => h j (by omega) (by omega))]
section WIRE
variable {w P B : Nat} {I : MI} {J : MJ}
theorem S7 {wr : Nat → Nat} (hP : P ≤ 4) (hB : B ≤ 4) (h6 : I 14 6 = nI P) (h8 : I 14 8 = nI B) (hw : ∀ j, j < P → wr j < 2 ^ 31 ∧ I (33 + 21 * w) j = nI (wr j)) : ∀ (d fu i : Nat), i + d = P → d < fu → f_Hall_sends_7 w fu (nI i) I J = some (if anyb (fun j => decide (B ≤ wr j)) d i = true then .inl 0 else .inr (), I, J) := by
  intro d
  induction d with
  | zero =>
    intro fu i h1 h2
    obtain ⟨g, rfl⟩ : ∃ g, fu = g + 1 := ⟨fu - 1, by omega⟩
    rw [f_Hall_sends_7, h6, if_pos (nI_le (by omega) (by omega))]
    rfl
  | succ d ih =>
    intro fu i h1 h2
    obtain ⟨g, rfl⟩ : ∃ g, fu = g + 1 := ⟨fu - 1, by omega⟩
    obtain ⟨b1, b2⟩ := hw i (by omega)
    rw [f_Hall_sends_7, h6, if_neg (nI_ge (by omega) (by omega)), if_neg (nI_in (by omega) (by decide)), nI_clamp (by omega), b2, h8, anyb]
    by_cases c : B ≤ wr i
    · rw [if_neg (fun x => by have := (nI_ltI b1 (by omega)).mp x; omega), if_pos (show decide (B ≤ wr i) = true from decide_eq_true c), if_pos rfl]
    · rw [if_pos ((nI_ltI b1 (by omega)).mpr (by omega)), if_neg (show ¬ decide (B ≤ wr i) = true from fun x => c (of_decide_eq_true x)), nI_1]
      exact ih g (i + 1) (by omega) (by omega)
theorem S38 (hP : P ≤ 4) (hw4 : w < 4) : ∀ (d fu i : Nat) (I : MI), i + d = P → d < fu → I 14 6 = nI P → I (18 + 21 * w) 0 = nI w → ∃ I1, f_Hall_sends_38 w fu (nI i) I J = some ((), I1, J) ∧ (∀ a, a ≠ 33 + 21 * w → I1 a = I a) ∧ (∀ j, I1 (33 + 21 * w) j = if i ≤ j ∧ j < P ∧ j ≠ w then I (33 + 21 * w) j + 1 else I (33 + 21 * w) j) := by
  intro d
  induction d with
  | zero =>
    intro fu i I h1 h2 h6 hx
    obtain ⟨g, rfl⟩ : ∃ g, fu = g + 1 := ⟨fu - 1, by omega⟩
    refine ⟨I, ?_, fun _ _ => rfl, fun j => by rw [if_neg (by omega)]⟩
    rw [f_Hall_sends_38, h6, if_pos (nI_le (by omega) (by omega))]
  | succ d ih =>
    intro fu i I h1 h2 h6 hx
    obtain ⟨g, rfl⟩ : ∃ g, fu = g + 1 := ⟨fu - 1, by omega⟩
    by_cases c : i = w
    · obtain ⟨I1, r1, r2, r3⟩ := ih g (i + 1) I (by omega) (by omega) h6 hx
      refine ⟨I1, ?_, r2, fun j => ?_⟩
      · rw [f_Hall_sends_38, h6, if_neg (nI_ge (by omega) (by omega)), hx, if_pos (by rw [c]), nI_1]
        exact r1
      · rw [r3 j]
        by_cases x : i + 1 ≤ j ∧ j < P ∧ j ≠ w
        · rw [if_pos x, if_pos (by omega)]
        · rw [if_neg x, if_neg (by omega)]
    · obtain ⟨I1, r1, r2, r3⟩ := ih g (i + 1) (va_up I (33 + 21 * w) (upd (I (33 + 21 * w)) i (I (33 + 21 * w) i + 1))) (by omega) (by omega) (by rw [va_up_ne _ _ (by omega)]; exact h6) (by rw [va_up_ne _ _ (by omega)]; exact hx)
      refine ⟨I1, ?_, fun a ha => by rw [r2 a ha, va_up_ne _ _ ha], fun j => ?_⟩
      · rw [f_Hall_sends_38, h6, if_neg (nI_ge (by omega) (by omega)), hx, if_neg (fun x => c ((nI_eq (by omega) (by omega)).mp x)), if_neg (nI_in (by omega) (by decide)), if_neg (nI_in (by omega) (by decide)), nI_clamp (by omega), pl_eq, nI_1]
        exact r1
      · rw [r3 j, va_up_self]
        by_cases y : j = i
        · subst y
          rw [if_neg (by omega), upd_s, if_pos (by omega)]
        · rw [upd_n _ _ y]
          by_cases x : i + 1 ≤ j ∧ j < P ∧ j ≠ w
          · rw [if_pos x, if_pos (by omega)]
          · rw [if_neg x, if_neg (by omega)]
/-- the class sends -/
theorem SNDC {wr : Nat → Nat} (hP : P ≤ 4) (hB : B ≤ 4) (hw4 : w < 4) (h6 : I 14 6 = nI P) (h8 : I 14 8 = nI B) (hx : I (18 + 21 * w) 0 = nI w) (hw : ∀ j, j < P → wr j < 2 ^ 31 ∧ I (33 + 21 * w) j = nI (wr j)) : (anyb (fun j => decide (B ≤ wr j)) P 0 = true ∧ ∀ {α : Type} {F : Int32 → MI → MJ → Option α}, oc (f_Hall_sends w I J) F = F (nI 0) I J) ∨ (anyb (fun j => decide (B ≤ wr j)) P 0 = false ∧ ∃ I1, (∀ {α : Type} {F : Int32 → MI → MJ → Option α}, oc (f_Hall_sends w I J) F = F (nI 1) I1 J) ∧ (∀ a, a ≠ 33 + 21 * w → a ≠ 32 + 21 * w → I1 a = I a) ∧ (∀ j, j ≠ 5 → I1 (32 + 21 * w) j = I (32 + 21 * w) j) ∧ I1 (32 + 21 * w) 5 = I (32 + 21 * w) 5 + 1 ∧ (∀ j, j < P → I1 (33 + 21 * w) j = nI (if j = w then wr j else wr j + 1))) := by
  have s7 := S7 (J := J) hP hB h6 h8 hw P gF 0 (by omega) (gF_lt (by omega))
  have s7' : f_Hall_sends_7 w gF 0 I J = some (if anyb (fun j => decide (B ≤ wr j)) P 0 = true then .inl 0 else .inr (), I, J) := s7
  cases hb : anyb (fun j => decide (B ≤ wr j)) P 0 with
  | true =>
    refine Or.inl ⟨rfl, fun {α F} => ?_⟩
    unfold f_Hall_sends
    rw [s7', hb, if_pos rfl, oc_some, oe_i, oc_some]
    rfl
  | false =>
    obtain ⟨I1, r1, r2, r3⟩ := S38 (J := J) hP hw4 P gF 0 I (by omega) (gF_lt (by omega)) h6 hx
    have r1' : f_Hall_sends_38 w gF 0 I J = some ((), I1, J) := r1
    refine Or.inr ⟨rfl, va_up I1 (32 + 21 * w) (upd (I1 (32 + 21 * w)) 5 (I1 (32 + 21 * w) 5 + 1)), fun {α F} => ?_, fun a a1 a2 => by rw [va_up_ne _ _ a2, r2 a a1], fun j hj => by rw [va_up_self, upd_n _ _ hj, r2 _ (by omega)], by rw [va_up_self, upd_s, r2 _ (by omega)], fun j hj => ?_⟩
    · unfold f_Hall_sends
      rw [s7', hb, if_neg (by decide), oc_some, oe_j, r1', oc_some, pl_eq, oc_some]
      rfl
    · rw [va_up_ne _ _ (by omega), r3 j, (hw j hj).2]
      by_cases y : j = w
      · rw [if_neg (by omega), if_pos y]
      · rw [if_pos (by omega), if_neg y, nI_1]
theorem mF2 {p2 : Int32} {wr : Nat → Nat} (hP : P ≤ 4) (hB : B ≤ 4) (hw4 : w < 4) (h6 : I 112 16 = nI P) (h8 : I 112 17 = nI B) (hw : ∀ j, j < P → wr j < 2 ^ 31 ∧ I 148 (4 * w + j) = nI (wr j)) (h0 : wr w < B) : ∀ (d fu i : Nat), i + d = P → d < fu → f_Model_isFull_2 p2 fu (nI w) (nI i) I J = some (if anyb (fun j => decide (B ≤ wr j)) d i = true then .inl 1 else .inr (), I, J) := by
  intro d
  induction d with
  | zero =>
    intro fu i h1 h2
    obtain ⟨g, rfl⟩ : ∃ g, fu = g + 1 := ⟨fu - 1, by omega⟩
    rw [f_Model_isFull_2, h6, if_pos (nI_le (by omega) (by omega))]
    rfl
  | succ d ih =>
    intro fu i h1 h2
    obtain ⟨g, rfl⟩ : ∃ g, fu = g + 1 := ⟨fu - 1, by omega⟩
    obtain ⟨b1, b2⟩ := hw i (by omega)
    have e4 : 4 * nI w + nI i = nI (4 * w + i) := by rw [show (4 : Int32) * nI w = nI (4 * w) from nI_mul 4 w, nI_add]
    rw [f_Model_isFull_2, h6, if_neg (nI_ge (by omega) (by omega)), anyb, nI_1]
    by_cases y : i = w
    · rw [if_pos (show nI i = nI w by rw [y]), if_neg (show ¬ decide (B ≤ wr i) = true from fun x => by have := of_decide_eq_true x; rw [y] at this; omega)]
      exact ih g (i + 1) (by omega) (by omega)
    · rw [if_neg (show ¬ nI i = nI w from fun x => y ((nI_eq (by omega) (by omega)).mp x)), e4, if_neg (nI_in (by omega) (by decide)), nI_clamp (by omega), b2, h8]
      by_cases c : B ≤ wr i
      · rw [if_neg (fun x => by have := (nI_ltI b1 (by omega)).mp x; omega), if_pos (show decide (B ≤ wr i) = true from decide_eq_true c), if_pos rfl]
      · rw [if_pos ((nI_ltI b1 (by omega)).mpr (by omega)), if_neg (show ¬ decide (B ≤ wr i) = true from fun x => c (of_decide_eq_true x))]
        exact ih g (i + 1) (by omega) (by omega)
theorem mM12 {p2 : Int32} (hP : P ≤ 4) (hw4 : w < 4) : ∀ (d fu i : Nat) (I : MI), i + d = P → d < fu → I 112 16 = nI P → ∃ I1, f_Model_mails_12 p2 fu (nI w) (nI i) I J = some ((), I1, J) ∧ (∀ a, a ≠ 148 → I1 a = I a) ∧ (∀ j, j < 4 → I1 148 (4 * w + j) = if i ≤ j ∧ j < P ∧ j ≠ w then I 148 (4 * w + j) + 1 else I 148 (4 * w + j)) ∧ (∀ q, q < 4 * w ∨ 4 * w + 4 ≤ q → I1 148 q = I 148 q) := by
  intro d
  induction d with
  | zero =>
    intro fu i I h1 h2 h6
    obtain ⟨g, rfl⟩ : ∃ g, fu = g + 1 := ⟨fu - 1, by omega⟩
    refine ⟨I, ?_, fun _ _ => rfl, fun j _ => by rw [if_neg (by omega)], fun _ _ => rfl⟩
    rw [f_Model_mails_12, h6, if_pos (nI_le (by omega) (by omega))]
  | succ d ih =>
    intro fu i I h1 h2 h6
    obtain ⟨g, rfl⟩ : ∃ g, fu = g + 1 := ⟨fu - 1, by omega⟩
    have e4 : 4 * nI w + nI i = nI (4 * w + i) := by rw [show (4 : Int32) * nI w = nI (4 * w) from nI_mul 4 w, nI_add]
    obtain ⟨I1, r1, r2, r3, r4⟩ := ih g (i + 1) (va_up I 148 (upd (I 148) (4 * w + i) (I 148 (4 * w + i) + (if i = w then 0 else 1)))) (by omega) (by omega) (by rw [va_up_ne _ _ (by decide)]; exact h6)
    refine ⟨I1, ?_, fun a ha => by rw [r2 a ha, va_up_ne _ _ ha], fun j hj => ?_, fun q hq => ?_⟩
    · have ei : (if nI i = nI w then (0 : Int32) else 1) = (if i = w then 0 else 1) := by
        by_cases y : i = w
        · rw [if_pos y, if_pos (by rw [y])]
        · rw [if_neg y, if_neg (fun x => y ((nI_eq (by omega) (by omega)).mp x))]
      rw [f_Model_mails_12, h6, if_neg (nI_ge (by omega) (by omega)), e4, if_neg (nI_in (by omega) (by decide)), pl_eq, if_neg (nI_in (by omega) (by decide)), nI_clamp (by omega), ei, pl_eq, nI_1]
      exact r1
    · rw [r3 j hj, va_up_self]
      by_cases y : j = i
      · subst y
        rw [if_neg (by omega), upd_s]
        by_cases z : j = w
        · rw [if_pos z, if_neg (by omega), Int32.add_zero]
        · rw [if_neg z, if_pos (by omega)]
      · rw [upd_n _ _ (by omega)]
        by_cases x : i + 1 ≤ j ∧ j < P ∧ j ≠ w
        · rw [if_pos x, if_pos (by omega)]
        · rw [if_neg x, if_neg (by omega)]
    · rw [r4 q hq, va_up_self, upd_n _ _ (by omega)]
/-- the reference mails -/
theorem SNDM {wr : Nat → Nat} (hP : P ≤ 4) (hwP : w < P) (hB : B ≤ 4) (h6 : I 112 16 = nI P) (h8 : I 112 17 = nI B) (hw : ∀ j, j < P → wr j < 2 ^ 31 ∧ I 148 (4 * w + j) = nI (wr j)) (h0 : wr w < B) : (anyb (fun j => decide (B ≤ wr j)) P 0 = true ∧ ∀ {α : Type} {F : Int32 → MI → MJ → Option α}, oc (f_Model_mails (nI w) I J) F = F (nI 0) I J) ∨ (anyb (fun j => decide (B ≤ wr j)) P 0 = false ∧ ∃ I1, (∀ {α : Type} {F : Int32 → MI → MJ → Option α}, oc (f_Model_mails (nI w) I J) F = F (nI 1) I1 J) ∧ (∀ a, a ≠ 148 → a ≠ 130 → I1 a = I a) ∧ (∀ i, i ≠ w → I1 130 i = I 130 i) ∧ I1 130 w = I 130 w + 1 ∧ (∀ j, j < P → I1 148 (4 * w + j) = nI (if j = w then wr j else wr j + 1)) ∧ (∀ q, q < 4 * w ∨ 4 * w + 4 ≤ q → I1 148 q = I 148 q)) := by
  have s7 := mF2 (J := J) (p2 := nI w) hP hB (by omega) h6 h8 hw h0 P gF 0 (by omega) (gF_lt (by omega))
  have s7' : f_Model_isFull_2 (nI w) gF (nI w) 0 I J = some (if anyb (fun j => decide (B ≤ wr j)) P 0 = true then .inl 1 else .inr (), I, J) := s7
  cases hb : anyb (fun j => decide (B ≤ wr j)) P 0 with
  | true =>
    refine Or.inl ⟨rfl, fun {α F} => ?_⟩
    unfold f_Model_mails f_Model_isFull
    rw [s7', hb, if_pos rfl, oc_some, oe_i, oc_some, if_neg (by decide), oc_some]
    rfl
  | false =>
    obtain ⟨I1, r1, r2, r3, r4⟩ := mM12 (J := J) (p2 := nI w) (w := w) hP (by omega) P gF 0 I (by omega) (gF_lt (by omega)) h6
    have r1' : f_Model_mails_12 (nI w) gF (nI w) 0 I J = some ((), I1, J) := r1
    refine Or.inr ⟨rfl, va_up I1 130 (upd (I1 130) w (I1 130 w + 1)), fun {α F} => ?_, fun a a1 a2 => by rw [va_up_ne _ _ a2, r2 a a1], fun j hj => by rw [va_up_self, upd_n _ _ hj, r2 _ (by decide)], by rw [va_up_self, upd_s, r2 _ (by decide)], fun j hj => ?_, fun q hq => by rw [va_up_ne _ _ (by decide), r4 q hq]⟩
    · unfold f_Model_mails f_Model_isFull
      rw [s7', hb, if_neg (by decide), oc_some, oe_j, oc_some, if_pos rfl, r1', oc_some, if_neg (nI_in (by omega) (by decide)), if_neg (nI_in (by omega) (by decide)), nI_clamp (by omega), pl_eq, oc_some]
      rfl
    · rw [va_up_ne _ _ (by decide), r3 j (by omega), (hw j hj).2]
      by_cases y : j = w
      · rw [if_neg (by omega), if_pos y]
      · rw [if_pos (by omega), if_neg y, nI_1]
end WIRE
