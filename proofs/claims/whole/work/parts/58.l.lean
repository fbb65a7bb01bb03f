/-! the run: receiving -/
/-- from whom: all, or one -/
def HF (v : Int32) (sd : Nat → Bool) : Prop := (v = m1 ∧ ∀ j, j < 4 → sd j = true) ∨ (∃ g, g < 4 ∧ v = nI g ∧ ∀ j, j < 4 → (sd j = true ↔ j = g))
section WIRE
variable {w P : Nat} {I : MI} {J : MJ} {v : Int32} {sd : Nat → Bool}
theorem HF_ite (h : HF v sd) {α : Type} {i : Nat} (hi : i < 4) {x y : α} : (if v = -1 then x else if ¬ v = nI i then y else x) = if sd i = true then x else y := by
  rcases h with ⟨h1, h2⟩ | ⟨g, g1, g2, g3⟩
  · rw [h1, if_pos (show m1 = -1 from rfl), if_pos (h2 i hi)]
  · rw [g2, if_neg (show ¬ nI g = -1 from fun e => by
      have e' : nI g = m1 := e
      rw [m1_en (by omega)] at e'
      exact e')]
    by_cases c : i = g
    · subst c
      rw [if_neg (fun x => x rfl), if_pos ((g3 i hi).mpr rfl)]
    · rw [if_pos (fun x => c ((nI_eq (by omega) (by omega)).mp x).symm), if_neg (fun x => c ((g3 i hi).mp x))]
theorem R8 {gt : Nat → Nat} {p3 : Int32} (hP : P ≤ 4) (hw4 : w < 4) (hv : HF v sd) (h6 : I 14 6 = nI P) (hx : I (18 + 21 * w) 0 = nI w) (hg : ∀ j, j < P → gt j < 2 ^ 31 ∧ I (35 + 21 * w) j = nI (gt j)) : ∀ (d fu i : Nat), i + d = P → d < fu → f_Hall_receives_8 w p3 fu v (nI i) I J = some (if anyb (fun j => decide (j ≠ w) && (sd j && decide (gt j = 0))) d i = true then .inl 0 else .inr (), I, J) := by
  intro d
  induction d with
  | zero =>
    intro fu i h1 h2
    obtain ⟨g, rfl⟩ : ∃ g, fu = g + 1 := ⟨fu - 1, by omega⟩
    rw [f_Hall_receives_8, h6, if_pos (nI_le (by omega) (by omega))]
    rfl
  | succ d ih =>
    intro fu i h1 h2
    obtain ⟨g, rfl⟩ : ∃ g, fu = g + 1 := ⟨fu - 1, by omega⟩
    obtain ⟨b1, b2⟩ := hg i (by omega)
    rw [f_Hall_receives_8, h6, if_neg (nI_ge (by omega) (by omega)), hx, anyb, nI_1, ih g (i + 1) (by omega) (by omega)]
    by_cases y : i = w
    · rw [if_pos (show nI i = nI w by rw [y]), if_neg (show ¬ (decide (i ≠ w) && (sd i && decide (gt i = 0))) = true from fun x => by
        rw [decide_eq_false (fun z => z y), Bool.false_and] at x
        cases x)]
    · rw [if_neg (show ¬ nI i = nI w from fun x => y ((nI_eq (by omega) (by omega)).mp x)), HF_ite hv (by omega), if_neg (nI_in (by omega) (by decide)), nI_clamp (by omega), b2]
      rw [decide_eq_true (show i ≠ w from y), Bool.true_and]
      by_cases s : sd i = true
      · rw [if_pos s, s, Bool.true_and]
        by_cases z : gt i = 0
        · rw [if_neg (show ¬ 1 ≤ nI (gt i) by rw [z]; decide), if_pos (decide_eq_true z), if_pos rfl]
        · rw [if_pos (show 1 ≤ nI (gt i) from nI_le (a := 1) (by omega) b1), if_neg (fun x => z (of_decide_eq_true x))]
      · rw [if_neg s, Bool.eq_false_iff.mpr s, Bool.false_and, if_neg (show ¬ false = true by decide)]
theorem R59 {p3 : Int32} (hP : P ≤ 4) (hw4 : w < 4) (hv : HF v sd) : ∀ (d fu i : Nat) (I : MI), i + d = P → d < fu → I 14 6 = nI P → I (18 + 21 * w) 0 = nI w → ∃ I1, f_Hall_receives_59 w p3 fu v (nI i) I J = some ((), I1, J) ∧ (∀ a, a ≠ 35 + 21 * w → I1 a = I a) ∧ (∀ j, I1 (35 + 21 * w) j = if i ≤ j ∧ j < P ∧ j ≠ w ∧ sd j = true then I (35 + 21 * w) j - 1 else I (35 + 21 * w) j) := by
  intro d
  induction d with
  | zero =>
    intro fu i I h1 h2 h6 hx
    obtain ⟨g, rfl⟩ : ∃ g, fu = g + 1 := ⟨fu - 1, by omega⟩
    refine ⟨I, ?_, fun _ _ => rfl, fun j => by rw [if_neg (fun x => by omega)]⟩
    rw [f_Hall_receives_59, h6, if_pos (nI_le (by omega) (by omega))]
  | succ d ih =>
    intro fu i I h1 h2 h6 hx
    obtain ⟨g, rfl⟩ : ∃ g, fu = g + 1 := ⟨fu - 1, by omega⟩
    have skip : ¬ (i ≠ w ∧ sd i = true) → f_Hall_receives_59 w p3 (g + 1) v (nI i) I J = f_Hall_receives_59 w p3 g v (nI (i + 1)) I J → ∃ I1, f_Hall_receives_59 w p3 (g + 1) v (nI i) I J = some ((), I1, J) ∧ (∀ a, a ≠ 35 + 21 * w → I1 a = I a) ∧ (∀ j, I1 (35 + 21 * w) j = if i ≤ j ∧ j < P ∧ j ≠ w ∧ sd j = true then I (35 + 21 * w) j - 1 else I (35 + 21 * w) j) := by
      intro hc e
      obtain ⟨I1, r1, r2, r3⟩ := ih g (i + 1) I (by omega) (by omega) h6 hx
      refine ⟨I1, e.trans r1, r2, fun j => ?_⟩
      rw [r3 j]
      by_cases y : j = i
      · subst y
        rw [if_neg (fun x => by omega), if_neg (fun x => hc ⟨x.2.2.1, x.2.2.2⟩)]
      · by_cases x : i + 1 ≤ j ∧ j < P ∧ j ≠ w ∧ sd j = true
        · rw [if_pos x, if_pos ⟨by omega, x.2⟩]
        · rw [if_neg x, if_neg (fun z => x ⟨by omega, z.2⟩)]
    by_cases c : i = w
    · refine skip (fun x => x.1 c) ?_
      rw [f_Hall_receives_59, h6, if_neg (nI_ge (by omega) (by omega)), hx, if_pos (by rw [c]), nI_1]
    · by_cases s : sd i = true
      · obtain ⟨I1, r1, r2, r3⟩ := ih g (i + 1) (va_up I (35 + 21 * w) (upd (I (35 + 21 * w)) i (I (35 + 21 * w) i - 1))) (by omega) (by omega) (by rw [va_up_ne _ _ (by omega)]; exact h6) (by rw [va_up_ne _ _ (by omega)]; exact hx)
        refine ⟨I1, ?_, fun a ha => by rw [r2 a ha, va_up_ne _ _ ha], fun j => ?_⟩
        · rw [f_Hall_receives_59, h6, if_neg (nI_ge (by omega) (by omega)), hx, if_neg (fun x => c ((nI_eq (by omega) (by omega)).mp x)), HF_ite hv (by omega), if_pos s, if_neg (nI_in (by omega) (by decide)), if_neg (nI_in (by omega) (by decide)), nI_clamp (by omega), pl_eq, nI_1]
          exact r1
        · rw [r3 j, va_up_self]
          by_cases y : j = i
          · subst y
            rw [if_neg (fun x => by omega), upd_s, if_pos ⟨Nat.le_refl _, by omega, c, s⟩]
          · rw [upd_n _ _ y]
            by_cases x : i + 1 ≤ j ∧ j < P ∧ j ≠ w ∧ sd j = true
            · rw [if_pos x, if_pos ⟨by omega, x.2⟩]
            · rw [if_neg x, if_neg (fun z => x ⟨by omega, z.2⟩)]
      · refine skip (fun x => s x.2) ?_
        rw [f_Hall_receives_59, h6, if_neg (nI_ge (by omega) (by omega)), hx, if_neg (fun x => c ((nI_eq (by omega) (by omega)).mp x)), HF_ite hv (by omega), if_neg s, nI_1]
/-- the class receives -/
theorem RCVC {gt : Nat → Nat} (hP : P ≤ 4) (hw4 : w < 4) (hv : HF v sd) (h6 : I 14 6 = nI P) (hx : I (18 + 21 * w) 0 = nI w) (hg : ∀ j, j < P → gt j < 2 ^ 31 ∧ I (35 + 21 * w) j = nI (gt j)) : (anyb (fun j => decide (j ≠ w) && (sd j && decide (gt j = 0))) P 0 = true ∧ ∀ {α : Type} {F : Int32 → MI → MJ → Option α}, oc (f_Hall_receives w v I J) F = F (nI 0) I J) ∨ (anyb (fun j => decide (j ≠ w) && (sd j && decide (gt j = 0))) P 0 = false ∧ ∃ I1, (∀ {α : Type} {F : Int32 → MI → MJ → Option α}, oc (f_Hall_receives w v I J) F = F (nI 1) I1 J) ∧ (∀ a, a ≠ 35 + 21 * w → a ≠ 32 + 21 * w → I1 a = I a) ∧ (∀ j, j ≠ 7 → I1 (32 + 21 * w) j = I (32 + 21 * w) j) ∧ I1 (32 + 21 * w) 7 = I (32 + 21 * w) 7 + 1 ∧ (∀ j, j < P → I1 (35 + 21 * w) j = nI (if j ≠ w ∧ sd j = true then gt j - 1 else gt j))) := by
  have s7 := R8 (J := J) (p3 := v) hP hw4 hv h6 hx hg P gF 0 (by omega) (gF_lt (by omega))
  have s7' : f_Hall_receives_8 w v gF v 0 I J = some (if anyb (fun j => decide (j ≠ w) && (sd j && decide (gt j = 0))) P 0 = true then .inl 0 else .inr (), I, J) := s7
  cases hb : anyb (fun j => decide (j ≠ w) && (sd j && decide (gt j = 0))) P 0 with
  | true =>
    refine Or.inl ⟨rfl, fun {α F} => ?_⟩
    unfold f_Hall_receives
    rw [s7', hb, if_pos rfl, oc_some, oe_i, oc_some]
    rfl
  | false =>
    obtain ⟨I1, r1, r2, r3⟩ := R59 (J := J) (p3 := v) hP hw4 hv P gF 0 I (by omega) (gF_lt (by omega)) h6 hx
    have r1' : f_Hall_receives_59 w v gF v 0 I J = some ((), I1, J) := r1
    refine Or.inr ⟨rfl, va_up I1 (32 + 21 * w) (upd (I1 (32 + 21 * w)) 7 (I1 (32 + 21 * w) 7 + 1)), fun {α F} => ?_, fun a a1 a2 => by rw [va_up_ne _ _ a2, r2 a a1], fun j hj => by rw [va_up_self, upd_n _ _ hj, r2 _ (by omega)], by rw [va_up_self, upd_s, r2 _ (by omega)], fun j hj => ?_⟩
    · unfold f_Hall_receives
      rw [s7', hb, if_neg (by decide), oc_some, oe_j, r1', oc_some, pl_eq, oc_some]
      rfl
    · have hno := anyb_f P 0 hb j (Nat.zero_le _) (by omega)
      rw [va_up_ne _ _ (by omega), r3 j, (hg j hj).2]
      by_cases y : j ≠ w ∧ sd j = true
      · rw [if_pos ⟨Nat.zero_le _, hj, y.1, y.2⟩, if_pos y]
        rw [decide_eq_true y.1, y.2, Bool.true_and, Bool.true_and] at hno
        have := of_decide_eq_false hno
        exact nI_sb (b := 1) (by omega)
      · rw [if_neg (fun z => y z.2.2), if_neg y]
theorem m2R {gt : Nat → Nat} {p2 p3 : Int32} (hP : P ≤ 4) (hw4 : w < 4) (hv : HF v sd) (h6 : I 112 16 = nI P) (hg : ∀ j, j < P → gt j < 2 ^ 31 ∧ I 150 (4 * j + w) = nI (gt j)) : ∀ (d fu i : Nat), i + d = P → d < fu → f_Model_receive_2 p2 p3 fu (nI w) v (nI i) I J = some (if anyb (fun j => decide (j ≠ w) && (sd j && decide (gt j = 0))) d i = true then .inl 0 else .inr (), I, J) := by
  intro d
  induction d with
  | zero =>
    intro fu i h1 h2
    obtain ⟨g, rfl⟩ : ∃ g, fu = g + 1 := ⟨fu - 1, by omega⟩
    rw [f_Model_receive_2, h6, if_pos (nI_le (by omega) (by omega))]
    rfl
  | succ d ih =>
    intro fu i h1 h2
    obtain ⟨g, rfl⟩ : ∃ g, fu = g + 1 := ⟨fu - 1, by omega⟩
    obtain ⟨b1, b2⟩ := hg i (by omega)
    have e4 : 4 * nI i + nI w = nI (4 * i + w) := by rw [show (4 : Int32) * nI i = nI (4 * i) from nI_mul 4 i, nI_add]
    rw [f_Model_receive_2, h6, if_neg (nI_ge (by omega) (by omega)), anyb, nI_1, ih g (i + 1) (by omega) (by omega), e4]
    by_cases y : i = w
    · rw [if_pos (show nI i = nI w by rw [y]), if_neg (show ¬ (decide (i ≠ w) && (sd i && decide (gt i = 0))) = true from fun x => by
        rw [decide_eq_false (fun z => z y), Bool.false_and] at x
        cases x)]
    · rw [if_neg (show ¬ nI i = nI w from fun x => y ((nI_eq (by omega) (by omega)).mp x)), HF_ite hv (by omega), if_neg (nI_in (by omega) (by decide)), nI_clamp (by omega), b2]
      rw [decide_eq_true (show i ≠ w from y), Bool.true_and]
      by_cases s : sd i = true
      · rw [if_pos s, s, Bool.true_and]
        by_cases z : gt i = 0
        · rw [if_neg (show ¬ ¬ nI (gt i) = 0 by rw [z]; decide), if_pos (decide_eq_true z), if_pos rfl]
        · rw [if_pos (show ¬ nI (gt i) = 0 from fun x => z ((nI_eq (b := 0) b1 (by omega)).mp x)), if_neg (fun x => z (of_decide_eq_true x))]
      · rw [if_neg s, Bool.eq_false_iff.mpr s, Bool.false_and, if_neg (show ¬ false = true by decide)]
theorem HF_v (h : HF v sd) {i : Nat} (hi : i < 4) : (if v = -1 then (1 : Int32) else if ¬ v = nI i then 0 else 1) = if sd i = true then 1 else 0 := HF_ite h hi
theorem m48R {p2 p3 : Int32} (hP : P ≤ 4) (hw4 : w < 4) (hv : HF v sd) : ∀ (d fu i : Nat) (I : MI), i + d = P → d < fu → I 112 16 = nI P → ∃ I1, f_Model_receive_48 p2 p3 fu (nI w) v (nI i) I J = some ((), I1, J) ∧ (∀ a, a ≠ 150 → I1 a = I a) ∧ (∀ j, j < 4 → I1 150 (4 * j + w) = if i ≤ j ∧ j < P ∧ j ≠ w ∧ sd j = true then I 150 (4 * j + w) - 1 else I 150 (4 * j + w)) ∧ (∀ q, q % 4 ≠ w → I1 150 q = I 150 q) := by
  intro d
  induction d with
  | zero =>
    intro fu i I h1 h2 h6
    obtain ⟨g, rfl⟩ : ∃ g, fu = g + 1 := ⟨fu - 1, by omega⟩
    refine ⟨I, ?_, fun _ _ => rfl, fun j _ => by rw [if_neg (fun x => by omega)], fun _ _ => rfl⟩
    rw [f_Model_receive_48, h6, if_pos (nI_le (by omega) (by omega))]
  | succ d ih =>
    intro fu i I h1 h2 h6
    obtain ⟨g, rfl⟩ : ∃ g, fu = g + 1 := ⟨fu - 1, by omega⟩
    have e4 : 4 * nI i + nI w = nI (4 * i + w) := by rw [show (4 : Int32) * nI i = nI (4 * i) from nI_mul 4 i, nI_add]
    obtain ⟨I1, r1, r2, r3, r4⟩ := ih g (i + 1) (va_up I 150 (upd (I 150) (4 * i + w) (I 150 (4 * i + w) - (if i = w then 0 else if sd i = true then 1 else 0)))) (by omega) (by omega) (by rw [va_up_ne _ _ (by decide)]; exact h6)
    refine ⟨I1, ?_, fun a ha => by rw [r2 a ha, va_up_ne _ _ ha], fun j hj => ?_, fun q hq => ?_⟩
    · have ei : (if nI i = nI w then (0 : Int32) else (if v = -1 then 1 else (if ¬ v = nI i then 0 else 1))) = (if i = w then 0 else if sd i = true then 1 else 0) := by
        rw [HF_v hv (by omega)]
        by_cases y : i = w
        · rw [if_pos y, if_pos (by rw [y])]
        · rw [if_neg y, if_neg (fun x => y ((nI_eq (by omega) (by omega)).mp x))]
      rw [f_Model_receive_48, h6, if_neg (nI_ge (by omega) (by omega)), e4, if_neg (nI_in (by omega) (by decide)), pl_eq, if_neg (nI_in (by omega) (by decide)), nI_clamp (by omega), ei, pl_eq, nI_1]
      exact r1
    · rw [r3 j hj, va_up_self]
      by_cases y : j = i
      · subst y
        rw [if_neg (fun x => by omega), upd_s]
        by_cases z : j = w
        · rw [if_pos z, if_neg (fun x => x.2.2.1 z), Int32.sub_zero]
        · rw [if_neg z]
          by_cases s : sd j = true
          · rw [if_pos s, if_pos ⟨Nat.le_refl _, by omega, z, s⟩]
          · rw [if_neg s, if_neg (fun x => s x.2.2.2), Int32.sub_zero]
      · rw [upd_n _ _ (by omega)]
        by_cases x : i + 1 ≤ j ∧ j < P ∧ j ≠ w ∧ sd j = true
        · rw [if_pos x, if_pos ⟨by omega, x.2⟩]
        · rw [if_neg x, if_neg (fun z => x ⟨by omega, z.2⟩)]
    · rw [r4 q hq, va_up_self, upd_n _ _ (by omega)]
/-- the reference receives -/
theorem RCVM {gt : Nat → Nat} (hP : P ≤ 4) (hwP : w < P) (hv : HF v sd) (h6 : I 112 16 = nI P) (hg : ∀ j, j < P → gt j < 2 ^ 31 ∧ I 150 (4 * j + w) = nI (gt j)) : (anyb (fun j => decide (j ≠ w) && (sd j && decide (gt j = 0))) P 0 = true ∧ ∀ {α : Type} {F : Int32 → MI → MJ → Option α}, oc (f_Model_receive (nI w) v I J) F = F (nI 0) I J) ∨ (anyb (fun j => decide (j ≠ w) && (sd j && decide (gt j = 0))) P 0 = false ∧ ∃ I1, (∀ {α : Type} {F : Int32 → MI → MJ → Option α}, oc (f_Model_receive (nI w) v I J) F = F (nI 1) I1 J) ∧ (∀ a, a ≠ 150 → a ≠ 132 → I1 a = I a) ∧ (∀ i, i ≠ w → I1 132 i = I 132 i) ∧ I1 132 w = I 132 w + 1 ∧ (∀ j, j < P → I1 150 (4 * j + w) = nI (if j ≠ w ∧ sd j = true then gt j - 1 else gt j)) ∧ (∀ q, q % 4 ≠ w → I1 150 q = I 150 q)) := by
  have s7 := m2R (J := J) (p2 := nI w) (p3 := v) hP (by omega) hv h6 hg P gF 0 (by omega) (gF_lt (by omega))
  have s7' : f_Model_receive_2 (nI w) v gF (nI w) v 0 I J = some (if anyb (fun j => decide (j ≠ w) && (sd j && decide (gt j = 0))) P 0 = true then .inl 0 else .inr (), I, J) := s7
  cases hb : anyb (fun j => decide (j ≠ w) && (sd j && decide (gt j = 0))) P 0 with
  | true =>
    refine Or.inl ⟨rfl, fun {α F} => ?_⟩
    unfold f_Model_receive
    rw [s7', hb, if_pos rfl, oc_some, oe_i, oc_some]
    rfl
  | false =>
    obtain ⟨I1, r1, r2, r3, r4⟩ := m48R (J := J) (p2 := nI w) (p3 := v) hP (show w < 4 by omega) hv P gF 0 I (by omega) (gF_lt (by omega)) h6
    have r1' : f_Model_receive_48 (nI w) v gF (nI w) v 0 I J = some ((), I1, J) := r1
    refine Or.inr ⟨rfl, va_up I1 132 (upd (I1 132) w (I1 132 w + 1)), fun {α F} => ?_, fun a a1 a2 => by rw [va_up_ne _ _ a2, r2 a a1], fun j hj => by rw [va_up_self, upd_n _ _ hj, r2 _ (by decide)], by rw [va_up_self, upd_s, r2 _ (by decide)], fun j hj => ?_, fun q hq => by rw [va_up_ne _ _ (by decide), r4 q hq]⟩
    · unfold f_Model_receive
      rw [s7', hb, if_neg (by decide), oc_some, oe_j, r1', oc_some, if_neg (nI_in (by omega) (by decide)), if_neg (nI_in (by omega) (by decide)), nI_clamp (by omega), pl_eq, oc_some]
      rfl
    · have hno := anyb_f P 0 hb j (Nat.zero_le _) (by omega)
      rw [va_up_ne _ _ (by decide), r3 j (by omega), (hg j hj).2]
      by_cases y : j ≠ w ∧ sd j = true
      · rw [if_pos ⟨Nat.zero_le _, hj, y.1, y.2⟩, if_pos y]
        rw [decide_eq_true y.1, y.2, Bool.true_and, Bool.true_and] at hno
        have := of_decide_eq_false hno
        exact nI_sb (b := 1) (by omega)
      · rw [if_neg (fun z => y z.2.2), if_neg y]
end WIRE
