/-! give, of the class and of the reference -/
section GIVE
variable {P : Nat} {gi : Nat → Nat} {I I' : MI} {J J' : MJ} {p2 : Int32} {p3 : Int64}
theorem GIV (hP : P ≤ 4) (h6 : I 14 6 = nI P) (h16 : I' 112 16 = nI P) (hgi : ∀ a, a < P → gi a ≤ 100 ∧ I (29 + 21 * a) 2 = nI (gi a) ∧ I' 125 a = nI (gi a)) : (f_Sh_give p2 p3 I J = some (0, I, J) ∧ f_Model_give p2 p3 I' J' = some (0, va_up I' 112 (upd (I' 112) 0 0), J')) ∨ (∃ a I1 I1', a < P ∧ gi a < 100 ∧ p2 = nI a ∧ f_Sh_give p2 p3 I J = some (1, I1, va_up J (30 + 21 * a) (vp_updL (J (30 + 21 * a)) (gi a) (lN (nmod p3)))) ∧ f_Model_give p2 p3 I' J' = some (1, I1', va_up J' 124 (vp_updL (J' 124) (100 * a + gi a) (lN (nmod p3)))) ∧ (∀ c, c ≠ 29 + 21 * a → I1 c = I c) ∧ (∀ j, j ≠ 2 → I1 (29 + 21 * a) j = I (29 + 21 * a) j) ∧ I1 (29 + 21 * a) 2 = nI (gi a + 1) ∧ (∀ c, c ≠ 112 → c ≠ 125 → I1' c = I' c) ∧ (∀ j, j ≠ 0 → I1' 112 j = I' 112 j) ∧ I1' 112 0 = nI 0 ∧ (∀ i, i ≠ a → I1' 125 i = I' 125 i) ∧ I1' 125 a = nI (gi a + 1)) := by
  obtain ⟨Z, z0, z1, z2, z3⟩ := UP1 I' 112 0 0
  have z16 : Z 112 16 = nI P := by rw [z3 16 (by decide)]; exact h16
  have bad : ∀ {T : Prop}, (f_Sh_give p2 p3 I J = some (0, I, J)) → (f_Model_give p2 p3 I' J' = some (0, Z, J')) → ((f_Sh_give p2 p3 I J = some (0, I, J) ∧ f_Model_give p2 p3 I' J' = some (0, va_up I' 112 (upd (I' 112) 0 0), J')) ∨ T) := fun x y => Or.inl ⟨x, by rw [z0]; exact y⟩
  rcases PTY p2 hP with ⟨a, ha, e2⟩ | e2
  · have za := nin (show a < 4 by omega) (show 4 < 2 ^ 31 by decide)
    obtain ⟨s1, s2, s3⟩ := hgi a ha
    have y125 : Z 125 a = nI (gi a) := by rw [z1 125 (by decide)]; exact s3
    have ng : ¬ nI (gi a) < 0 := fun y => by have := (nI_ltI (b := 0) (by omega) (by omega)).mp y; omega
    subst e2
    by_cases x : gi a = 100
    · refine bad ?_ ?_
      · unfold f_Sh_give f_Stock_addInput
        rw [HAS1 hP h6 ha, if_neg (show ¬ nI 1 = 0 by decide), nI_clamp (n := a) (by omega), if_neg za, q_number, oc_some, s2, if_neg ng, x, if_neg (show ¬ nI 100 < nI 100 by decide), oc_some, if_pos (by decide)]
      · unfold f_Model_give
        rw [z0, pl_eq, ISP1 hP z16 ha, if_neg (show ¬ nI 1 = 0 by decide), nI_clamp (n := a) (by omega), if_neg za, y125, x, if_neg (show ¬ ¬ nI 100 = 100 from fun y => y rfl)]
    · right
      have hg : gi a < 100 := by omega
      have zg := nin hg (show 100 < 2 ^ 31 by decide)
      have e100 : (100 : Int32) * nI a + nI (gi a) = nI (100 * a + gi a) := by rw [show (100 : Int32) * nI a = nI (100 * a) from nI_mul 100 a, nI_add]
      obtain ⟨A0, a0, a1, a2, a3⟩ := UP1 I (29 + 21 * a) 2 (nI (gi a + 1))
      obtain ⟨B0, b0, b1, b2, b3⟩ := UP1 Z 125 a (nI (gi a + 1))
      refine ⟨a, A0, B0, ha, hg, rfl, ?_, ?_, a1, a3, a2, fun c c1 c2 => by rw [b1 c c2, z1 c c1], fun j hj => by rw [b1 112 (by decide), z3 j hj], by rw [b1 112 (by decide), z2]; rfl, fun i hi => by rw [b3 i hi, z1 125 (by decide)], b2⟩
      · unfold f_Sh_give f_Stock_addInput
        rw [HAS1 hP h6 ha, if_neg (show ¬ nI 1 = 0 by decide), nI_clamp (n := a) (by omega), if_neg za, q_number, oc_some, s2, if_neg ng, if_pos ((nI_ltI (by omega) (by omega)).mpr hg), nI_clamp (n := gi a) (by omega), if_neg zg, pl_eq, nI_1, a0, pl_eq, oc_some, if_neg (by decide)]
      · unfold f_Model_give
        rw [z0, pl_eq, ISP1 hP z16 ha, if_neg (show ¬ nI 1 = 0 by decide), nI_clamp (n := a) (by omega), if_neg za, y125, if_pos (show ¬ nI (gi a) = 100 from fun y => x ((nI_eq (b := 100) (by omega) (by omega)).mp y)), if_neg za, m_modulo, oc_some, e100, if_neg (nI_in (by omega) (by decide)), nI_clamp (n := 100 * a + gi a) (by omega), pl_eq, if_neg za, if_neg za, y125, nI_1, b0, pl_eq]
  · refine bad ?_ ?_
    · unfold f_Sh_give
      rw [HAS0 h6 e2, if_pos (show nI 0 = 0 from rfl)]
    · unfold f_Model_give
      rw [z0, pl_eq, ISP0 z16 e2, if_pos (show nI 0 = 0 from rfl)]
end GIVE
