/-! the run: the steps of a check, in the class -/
section CHK
variable {w P B sg s : Nat} {I : MI} {J : MJ}
def STG (sg s : Nat) : Prop := s < 8 ∧ (sg = s ∨ sg = s + 10)
theorem STG_v (h : STG sg s) : (if 8 ≤ nI sg then nI sg - 10 else nI sg) = nI s := by
  obtain ⟨h1, h2⟩ := h
  rcases h2 with e | e
  · rw [if_neg (show ¬ 8 ≤ nI sg from nI_ge (b := 8) (by omega) (by omega)), e]
  · rw [if_pos (show 8 ≤ nI sg from (nI_leI (a := 8) (by omega) (by omega)).mpr (by omega)), e]
    exact nI_sb (a := s + 10) (b := 10) (by omega)
theorem CHSC {wr : Nat → Nat} (hP : P ≤ 4) (hB : B ≤ 4) (hw4 : w < 4) (h6 : I 14 6 = nI P) (h8 : I 14 8 = nI B) (hx : I (18 + 21 * w) 0 = nI w) (hw : ∀ j, j < P → wr j < 2 ^ 31 ∧ I (33 + 21 * w) j = nI (wr j)) (hph : I (18 + 21 * w) 9 = nI sg) (hs : STG sg s) (hev : s % 2 = 0) : (anyb (fun j => decide (B ≤ wr j)) P 0 = true ∧ ∀ {α : Type} {F : Int32 → MI → MJ → Option α}, oc (f_Hall_checkStep w I J) F = F (nI 0) I J) ∨ (anyb (fun j => decide (B ≤ wr j)) P 0 = false ∧ ∃ I1, (∀ {α : Type} {F : Int32 → MI → MJ → Option α}, oc (f_Hall_checkStep w I J) F = F (nI 1) I1 J) ∧ (∀ a, a ≠ 33 + 21 * w → a ≠ 32 + 21 * w → a ≠ 18 + 21 * w → a ≠ 25 + 21 * w → I1 a = I a) ∧ (∀ j, j ≠ 5 → I1 (32 + 21 * w) j = I (32 + 21 * w) j) ∧ I1 (32 + 21 * w) 5 = I (32 + 21 * w) 5 + 1 ∧ (∀ j, j < P → I1 (33 + 21 * w) j = nI (if j = w then wr j else wr j + 1)) ∧ (∀ j, j ≠ 9 → I1 (18 + 21 * w) j = I (18 + 21 * w) j) ∧ I1 (18 + 21 * w) 9 = nI (sg + 1) ∧ (∀ j, j ≠ 6 → j ≠ 7 → I1 (25 + 21 * w) j = I (25 + 21 * w) j) ∧ I1 (25 + 21 * w) 7 = (if s = 0 then I (25 + 21 * w) 6 else I (25 + 21 * w) 7) ∧ I1 (25 + 21 * w) 6 = (if s = 0 then I (25 + 21 * w) 6 + 2 else if s = 4 then I (25 + 21 * w) 6 + 1 else I (25 + 21 * w) 6)) := by
  have hv := STG_v hs
  have s8 := hs.1
  rcases SNDC (J := J) hP hB hw4 h6 h8 hx hw with ⟨b1, b2⟩ | ⟨b1, I2, b2, b3, b4, b5, b6⟩
  · refine Or.inl ⟨b1, fun {α F} => ?_⟩
    unfold f_Hall_checkStep
    rw [hph, hv, pl_eq]
    rcases (show s = 0 ∨ s = 2 ∨ s = 4 ∨ s = 6 by omega) with e | e | e | e <;>
    · rw [e, if_neg (by decide), oc_oc, oc_oc, b2, oc_some, if_neg (show ¬ ¬ nI 0 = 0 from fun x => x rfl), oc_some]
      rfl
  · refine Or.inr ⟨b1, ?_⟩
    obtain ⟨A0, q0, r0, s0, t0⟩ := UP1 I2 (18 + 21 * w) 9 (nI (sg + 1))
    have k9 : I2 (18 + 21 * w) 9 = nI sg := by rw [b3 (18 + 21 * w) (by omega) (by omega)]; exact hph
    have f18 : ∀ j, j ≠ 9 → A0 (18 + 21 * w) j = I (18 + 21 * w) j := fun j hj => by rw [t0 j hj, b3 (18 + 21 * w) (by omega) (by omega)]
    have f25 : A0 (25 + 21 * w) = I (25 + 21 * w) := by rw [r0 (25 + 21 * w) (by omega), b3 (25 + 21 * w) (by omega) (by omega)]
    have f32 : A0 (32 + 21 * w) = I2 (32 + 21 * w) := r0 (32 + 21 * w) (by omega)
    have f33 : A0 (33 + 21 * w) = I2 (33 + 21 * w) := r0 (33 + 21 * w) (by omega)
    have fo : ∀ a, a ≠ 33 + 21 * w → a ≠ 32 + 21 * w → a ≠ 18 + 21 * w → A0 a = I a := fun a a1 a2 a3 => by rw [r0 a a3, b3 a a1 a2]
    by_cases e0 : s = 0
    · obtain ⟨A1, q1, r1, s1, t1⟩ := UP1 A0 (25 + 21 * w) 7 (A0 (25 + 21 * w) 6)
      obtain ⟨A2, q2, r2, s2, t2⟩ := UP1 A1 (25 + 21 * w) 6 (A1 (25 + 21 * w) 6 + 2)
      have g : ∀ a, a ≠ 25 + 21 * w → A2 a = A0 a := fun a ha => by rw [r2 a ha, r1 a ha]
      refine ⟨A2, fun {α F} => ?_, fun a a1 a2 a3 a4 => by rw [g a a4]; exact fo a a1 a2 a3, fun j hj => by rw [g _ (by omega), f32]; exact b4 j hj, by rw [g _ (by omega), f32]; exact b5, fun j hj => by rw [g _ (by omega), f33]; exact b6 j hj, fun j hj => by rw [g _ (by omega)]; exact f18 j hj, by rw [g _ (by omega)]; exact s0, fun j j1 j2 => by rw [t2 j j1, t1 j j2, f25], by rw [if_pos e0, t2 7 (by decide), s1, f25], by rw [if_pos e0, s2, t1 6 (by decide), f25]⟩
      unfold f_Hall_checkStep f_Check_drawCoinAndNonce
      rw [hph, hv, pl_eq, e0, if_neg (by decide), oc_oc, oc_oc, b2, oc_some, if_pos (show ¬ nI 1 = 0 by decide), k9, nI_1, q0, pl_eq, if_pos (show nI 0 = 0 from rfl), oc_oc, pl_eq, q1, pl_eq, q2, oc_some, oc_some]
      rfl
    · by_cases e4 : s = 4
      · obtain ⟨A2, q2, r2, s2, t2⟩ := UP1 A0 (25 + 21 * w) 6 (A0 (25 + 21 * w) 6 + 1)
        refine ⟨A2, fun {α F} => ?_, fun a a1 a2 a3 a4 => by rw [r2 a a4]; exact fo a a1 a2 a3, fun j hj => by rw [r2 _ (by omega), f32]; exact b4 j hj, by rw [r2 _ (by omega), f32]; exact b5, fun j hj => by rw [r2 _ (by omega), f33]; exact b6 j hj, fun j hj => by rw [r2 _ (by omega)]; exact f18 j hj, by rw [r2 _ (by omega)]; exact s0, fun j j1 _ => by rw [t2 j j1, f25], by rw [if_neg e0, t2 7 (by decide), f25], by rw [if_neg e0, if_pos e4, s2, f25]⟩
        unfold f_Hall_checkStep f_Check_drawNonce
        rw [hph, hv, pl_eq, e4, if_neg (by decide), oc_oc, oc_oc, b2, oc_some, if_pos (show ¬ nI 1 = 0 by decide), k9, nI_1, q0, pl_eq, if_neg (show ¬ nI 4 = 0 by decide), if_neg (show ¬ nI 4 = 1 by decide), if_pos (show nI 4 = 4 from rfl), oc_oc, pl_eq, q2, oc_some, oc_some]
        rfl
      · refine ⟨A0, fun {α F} => ?_, fun a a1 a2 a3 _ => fo a a1 a2 a3, by rw [f32]; exact b4, by rw [f32]; exact b5, by rw [f33]; exact b6, f18, s0, fun j _ _ => by rw [f25], by rw [if_neg e0, f25], by rw [if_neg e0, if_neg e4, f25]⟩
        unfold f_Hall_checkStep
        rw [hph, hv, pl_eq]
        rcases (show s = 2 ∨ s = 6 by omega) with e | e <;>
        · rw [e, if_neg (by decide), oc_oc, oc_oc, b2, oc_some, if_pos (show ¬ nI 1 = 0 by decide), k9, nI_1, q0, pl_eq, if_neg (by decide), if_neg (by decide), if_neg (by decide), if_neg (by decide), oc_some]
          rfl
theorem NB2 (hP : P ≤ 4) (hw : w < 4) : ∀ (d fu i : Nat) (I : MI), i + d = P → d < fu → I 14 6 = nI P → ∃ I1, f_Hall_noteBonds_2 w fu (nI i) I J = some ((), I1, J) ∧ (∀ a, a ≠ 28 + 21 * w → I1 a = I a) ∧ (∀ j, I1 (28 + 21 * w) j = if i ≤ j ∧ j < P then I (25 + 21 * j) 7 else I (28 + 21 * w) j) := by
  intro d
  induction d with
  | zero =>
    intro fu i I h1 h2 h3
    obtain ⟨g, rfl⟩ : ∃ g, fu = g + 1 := ⟨fu - 1, by omega⟩
    refine ⟨I, ?_, fun _ _ => rfl, fun j => by rw [if_neg (by omega)]⟩
    rw [f_Hall_noteBonds_2, h3, show i = P by omega, if_pos (nI_le (by omega) (by omega))]
  | succ d ih =>
    intro fu i I h1 h2 h3
    obtain ⟨g, rfl⟩ : ∃ g, fu = g + 1 := ⟨fu - 1, by omega⟩
    have zi := nin (show i < 4 by omega) (show 4 < 2 ^ 31 by decide)
    obtain ⟨I1, s1, s2, s3⟩ := ih g (i + 1) (va_up I (28 + 21 * w) (upd (I (28 + 21 * w)) i (I (25 + 21 * i) 7))) (by omega) (by omega) (by rw [va_up_ne _ _ (by omega)]; exact h3)
    refine ⟨I1, ?_, fun a ha => by rw [s2 a ha, va_up_ne _ _ ha], fun j => ?_⟩
    · rw [f_Hall_noteBonds_2, h3, if_neg (nI_ge (by omega) (by omega)), nI_clamp (n := i) (by omega), if_neg zi, if_neg zi, pl_eq, nI_1]
      exact s1
    · rw [s3 j, va_up_self, va_up_ne _ _ (show 25 + 21 * j ≠ 28 + 21 * w by omega)]
      by_cases e : j = i
      · rw [if_neg (show ¬ (i + 1 ≤ j ∧ j < P) by omega), if_pos (show i ≤ j ∧ j < P by omega), e, upd_s]
      · rw [upd_n _ _ e]
        by_cases y : i ≤ j ∧ j < P
        · rw [if_pos y, if_pos (by omega)]
        · rw [if_neg y, if_neg (by omega)]
/-- a receive of a check: what is the same for each -/
theorem CHRC {gt : Nat → Nat} (hP : P ≤ 4) (hw4 : w < 4) (h6 : I 14 6 = nI P) (hx : I (18 + 21 * w) 0 = nI w) (hg : ∀ j, j < P → gt j < 2 ^ 31 ∧ I (35 + 21 * w) j = nI (gt j)) (hph : I (18 + 21 * w) 9 = nI sg) (hs : STG sg s) (hod : s % 2 = 1) : (anyb (fun j => decide (j ≠ w) && (true && decide (gt j = 0))) P 0 = true ∧ ∀ {α : Type} {F : Int32 → MI → MJ → Option α}, oc (f_Hall_checkStep w I J) F = F (nI 0) I J) ∨ (anyb (fun j => decide (j ≠ w) && (true && decide (gt j = 0))) P 0 = false ∧ ∃ I1, (∀ {α : Type} {F : Int32 → MI → MJ → Option α}, oc (f_Hall_checkStep w I J) F = if s = 1 then oc (f_Hall_noteBonds w I1 J) (fun _ I9 J9 => F (nI 1) I9 J9) else if s = 7 then oc (f_Hall_judge w I1 J) F else F (nI 1) I1 J) ∧ (∀ a, a ≠ 35 + 21 * w → a ≠ 32 + 21 * w → a ≠ 18 + 21 * w → I1 a = I a) ∧ (∀ j, j ≠ 7 → I1 (32 + 21 * w) j = I (32 + 21 * w) j) ∧ I1 (32 + 21 * w) 7 = I (32 + 21 * w) 7 + 1 ∧ (∀ j, j < P → I1 (35 + 21 * w) j = nI (if j ≠ w then gt j - 1 else gt j)) ∧ (∀ j, j ≠ 9 → I1 (18 + 21 * w) j = I (18 + 21 * w) j) ∧ I1 (18 + 21 * w) 9 = nI (sg + 1)) := by
  have hv := STG_v hs
  have s8 := hs.1
  rcases RCVC (J := J) (v := m1) (sd := fun _ => true) hP hw4 (Or.inl ⟨rfl, fun _ _ => rfl⟩) h6 hx hg with ⟨b1, b2⟩ | ⟨b1, I2, b2, b3, b4, b5, b6⟩
  · refine Or.inl ⟨b1, fun {α F} => ?_⟩
    have b2' : ∀ {α : Type} {F : Int32 → MI → MJ → Option α}, oc (f_Hall_receives w (-1) I J) F = F (nI 0) I J := b2
    unfold f_Hall_checkStep
    rw [hph, hv, pl_eq]
    rcases (show s = 1 ∨ s = 3 ∨ s = 5 ∨ s = 7 by omega) with e | e | e | e <;>
    · rw [e, if_pos (by decide), oc_oc, oc_oc, b2', oc_some, if_neg (show ¬ ¬ nI 0 = 0 from fun x => x rfl), oc_some]
      rfl
  · refine Or.inr ⟨b1, ?_⟩
    have b2' : ∀ {α : Type} {F : Int32 → MI → MJ → Option α}, oc (f_Hall_receives w (-1) I J) F = F (nI 1) I2 J := b2
    obtain ⟨A0, q0, r0, s0, t0⟩ := UP1 I2 (18 + 21 * w) 9 (nI (sg + 1))
    have k9 : I2 (18 + 21 * w) 9 = nI sg := by rw [b3 (18 + 21 * w) (by omega) (by omega)]; exact hph
    refine ⟨A0, fun {α F} => ?_, fun a a1 a2 a3 => by rw [r0 a a3, b3 a a1 a2], fun j hj => by rw [r0 _ (by omega)]; exact b4 j hj, by rw [r0 _ (by omega)]; exact b5, fun j hj => ?_, fun j hj => by rw [t0 j hj, b3 (18 + 21 * w) (by omega) (by omega)], s0⟩
    · unfold f_Hall_checkStep
      rw [hph, hv, pl_eq]
      rcases (show s = 1 ∨ s = 7 ∨ s = 3 ∨ s = 5 by omega) with e | e | e
      · rw [e, if_pos (by decide), oc_oc, oc_oc, b2', oc_some, if_pos (show ¬ nI 1 = 0 by decide), k9, nI_1, q0, pl_eq, if_neg (show ¬ nI 1 = 0 by decide), if_pos (show nI 1 = 1 from rfl), oc_oc, if_pos rfl]
        rfl
      · rw [e, if_pos (by decide), oc_oc, oc_oc, b2', oc_some, if_pos (show ¬ nI 1 = 0 by decide), k9, nI_1, q0, pl_eq, if_neg (show ¬ nI 7 = 0 by decide), if_neg (show ¬ nI 7 = 1 by decide), if_neg (show ¬ nI 7 = 4 by decide), if_pos (show nI 7 = 7 from rfl), oc_oc, if_neg (show ¬ 7 = 1 by decide), if_pos rfl]
        rfl
      · rcases e with e | e <;>
        · rw [e, if_pos (by decide), oc_oc, oc_oc, b2', oc_some, if_pos (show ¬ nI 1 = 0 by decide), k9, nI_1, q0, pl_eq, if_neg (by decide), if_neg (by decide), if_neg (by decide), if_neg (by decide), oc_some, if_neg (by decide), if_neg (by decide)]
          rfl
    · rw [r0 _ (by omega), b6 j hj]
      by_cases y : j ≠ w
      · rw [if_pos ⟨y, rfl⟩, if_pos y]
      · rw [if_neg (fun z => y z.1), if_neg y]
theorem NBC (hP : P ≤ 4) (hw : w < 4) (h6 : I 14 6 = nI P) : ∃ I1, (∀ {α : Type} {F : Unit → MI → MJ → Option α}, oc (f_Hall_noteBonds w I J) F = F () I1 J) ∧ (∀ a, a ≠ 28 + 21 * w → a ≠ 25 + 21 * w → I1 a = I a) ∧ (∀ j, I1 (28 + 21 * w) j = if j < P then I (25 + 21 * j) 7 else I (28 + 21 * w) j) ∧ (∀ j, j ≠ 8 → I1 (25 + 21 * w) j = I (25 + 21 * w) j) ∧ I1 (25 + 21 * w) 8 = nI 1 := by
  obtain ⟨I2, a1, a2, a3⟩ := NB2 (J := J) hP hw P gF 0 I (by omega) (by unfold gF; omega) h6
  have a1' : f_Hall_noteBonds_2 w gF 0 I J = some ((), I2, J) := a1
  obtain ⟨A0, q0, r0, s0, t0⟩ := UP1 I2 (25 + 21 * w) 8 1
  refine ⟨A0, fun {α F} => ?_, fun a b1 b2 => by rw [r0 a b2, a2 a b1], fun j => ?_, fun j hj => by rw [t0 j hj, a2 (25 + 21 * w) (by omega)], s0⟩
  · unfold f_Hall_noteBonds
    rw [a1', oc_some, q0, pl_eq, oc_some]
  · rw [r0 _ (by omega), a3 j]
    by_cases y : j < P
    · rw [if_pos ⟨by omega, y⟩, if_pos y]
    · rw [if_neg (fun z => y z.2), if_neg y]
end CHK
