/-! bring, of the reference -/
section BRING
variable {P a b wr nt gt : Nat} {I : MI} {J : MJ}
theorem BRM (hP : P ≤ 4) (ha : a < P) (hb : b < P) (h148 : I 148 (4 * a + b) = nI wr) (hwr : wr < 2 ^ 31) (h149 : I 149 (4 * a + b) = nI nt) (hnt : nt ≤ 1) (h150 : I 150 (4 * a + b) = nI gt) : (wr = 0 ∧ nt = 0 ∧ ∀ {α : Type} {F : Int32 → MI → MJ → Option α}, oc (f_Model_brings (nI a) (nI b) I J) F = F (nI 0) I J) ∨ (wr = 0 ∧ nt = 1 ∧ ∃ I1, (∀ {α : Type} {F : Int32 → MI → MJ → Option α}, oc (f_Model_brings (nI a) (nI b) I J) F = if ¬ I 139 b = 0 then F (nI 1) (va_up I1 139 (upd (I1 139) b (nI 1))) J else oc (f_Model_statusOf (nI b) I1 J) (fun v I9 J9 => F (nI 1) (va_up I9 139 (upd (I9 139) b (if v = 1 then nI 1 else nI 0))) J9)) ∧ (∀ c, c ≠ 149 → I1 c = I c) ∧ I1 149 (4 * a + b) = nI 0 ∧ (∀ q, q ≠ 4 * a + b → I1 149 q = I 149 q)) ∨ (1 ≤ wr ∧ ∃ I1, (∀ {α : Type} {F : Int32 → MI → MJ → Option α}, oc (f_Model_brings (nI a) (nI b) I J) F = F (nI 1) I1 J) ∧ (∀ c, c ≠ 148 → c ≠ 150 → I1 c = I c) ∧ I1 148 (4 * a + b) = nI (wr - 1) ∧ (∀ q, q ≠ 4 * a + b → I1 148 q = I 148 q) ∧ I1 150 (4 * a + b) = nI (gt + 1) ∧ (∀ q, q ≠ 4 * a + b → I1 150 q = I 150 q)) := by
  have zb := nin (show b < 4 by omega) (show 4 < 2 ^ 31 by decide)
  have zq := nin (show 4 * a + b < 16 by omega) (show 16 < 2 ^ 31 by decide)
  have e4 : 4 * nI a + nI b = nI (4 * a + b) := by rw [show (4 : Int32) * nI a = nI (4 * a) from nI_mul 4 a, nI_add]
  by_cases x : wr = 0
  · by_cases y : nt = 0
    · refine Or.inl ⟨x, y, fun {α F} => ?_⟩
      unfold f_Model_brings
      rw [e4, pl_eq, nI_clamp (n := 4 * a + b) (by omega), if_neg zq, h148, x, if_pos (show nI 0 ≤ 0 by decide), if_neg zq, h149, y, if_neg (show ¬ ¬ nI 0 = 0 from fun z => z rfl), oc_some]
      rfl
    · obtain ⟨A0, q0, r0, s0, t0⟩ := UP1 I 149 (4 * a + b) (0 &&& 1)
      refine Or.inr (Or.inl ⟨x, by omega, A0, fun {α F} => ?_, r0, by rw [s0]; rfl, t0⟩)
      unfold f_Model_brings
      rw [e4, pl_eq, nI_clamp (n := 4 * a + b) (by omega), if_neg zq, h148, x, if_pos (show nI 0 ≤ 0 by decide), if_neg zq, h149, show nt = 1 by omega, if_pos (show ¬ nI 1 = 0 by decide), if_neg zq, q0, pl_eq, nI_clamp (n := b) (by omega), if_neg zb, r0 139 (by decide)]
      by_cases u : I 139 b = 0
      · rw [if_neg (fun z => z u), if_neg (fun z => z u), oc_oc, oc_oc]
        congr 1
        funext v I9 J9
        by_cases w1 : v = 1
        · rw [if_neg (fun z => z w1), oc_some, if_neg zb, pl_eq, oc_some, if_pos w1]
          rfl
        · rw [if_pos w1, oc_some, if_neg zb, pl_eq, oc_some, if_neg w1]
          rfl
      · rw [if_pos u, if_pos u, oc_oc, oc_some, if_neg zb, pl_eq, oc_some, r0 139 (by decide)]
        rfl
  · obtain ⟨A0, q0, r0, s0, t0⟩ := UP1 I 148 (4 * a + b) (nI (wr - 1))
    obtain ⟨A1, q1, r1, s1, t1⟩ := UP1 A0 150 (4 * a + b) (nI (gt + 1))
    have k150 : A0 150 (4 * a + b) = nI gt := by rw [r0 150 (by decide)]; exact h150
    refine Or.inr (Or.inr ⟨by omega, A1, fun {α F} => ?_, fun c c1 c2 => by rw [r1 c c2, r0 c c1], by rw [r1 148 (by decide)]; exact s0, fun q hq => by rw [r1 148 (by decide), t0 q hq], s1, fun q hq => by rw [t1 q hq, r0 150 (by decide)]⟩)
    unfold f_Model_brings
    rw [e4, pl_eq, nI_clamp (n := 4 * a + b) (by omega), if_neg zq, h148, if_neg (show ¬ nI wr ≤ 0 from nI_ge (a := 0) (by omega) (by omega)), if_neg zq, if_neg zq, show nI wr - 1 = nI (wr - 1) from nI_sb (b := 1) (by omega), q0, pl_eq, if_neg zq, if_neg zq, k150, nI_1, q1, pl_eq, oc_some]
    rfl
end BRING
