/-! output, of the class and of the reference -/
section OUTPUT
variable {P : Nat} {no : Nat → Nat} {ou : Nat → Nat → Nat} {X : MX} {I I' : MI} {J J' : MJ} {p2 p3 : Int32}
theorem OPT (hP : P ≤ 4) (h6 : I 14 6 = nI P) (h16 : I' 112 16 = nI P) (h9 : ¬ I 14 9 = 0) (h34 : ¬ I' 112 34 = 0) (hX : 168 + X.2.2.1 < 1000000000) (hv : ∀ a, a < P → no a ≤ 30001 ∧ OV X J a (no a) (ou a) ∧ I (18 + 21 * a) 6 = nI (no a) ∧ I' 133 a = nI (no a) ∧ (∀ i, i < no a → J' 147 i = lN (ou a i))) : (f_Sh_output p2 p3 X I J = some (.inr 3, X, I, J) ∧ f_Model_output p2 p3 I' J' = some (0, va_up I' 112 (upd (I' 112) 0 1), J')) ∨ (∃ v, f_Sh_output p2 p3 X I J = some (.inl v, X, I, J) ∧ f_Model_output p2 p3 I' J' = some (v, va_up I' 112 (upd (I' 112) 0 0), J')) := by
  obtain ⟨Z, z0, z1, z2, z3⟩ := UP1 I' 112 0 0
  obtain ⟨Y, y0, y1, y2, y3⟩ := UP1 I' 112 0 1
  rw [z0, y0]
  rcases PTY p2 hP with ⟨a, ha, e2⟩ | e2
  · have za := nin (show a < 4 by omega) (show 4 < 2 ^ 31 by decide)
    obtain ⟨v1, ⟨o1, o2, o3, o4, o5, o6⟩, v3, v4, v5⟩ := hv a ha
    subst e2
    rcases nI_of3 p3 with e3 | ⟨k, kb, e3⟩
    · refine Or.inl ⟨?_, ?_⟩
      · unfold f_Sh_output
        rw [if_neg h9, HAS1 hP h6 ha, if_neg (show ¬ nI 1 = 0 by decide), if_pos e3]
      · unfold f_Model_output
        rw [if_neg h34, oc_oc, ISP1 hP h16 ha, if_neg (show ¬ nI 1 = 0 by decide), if_pos e3, oc_some, y0, pl_eq, y2, if_pos (by decide)]
    · have n3 : ¬ p3 < 0 := by rw [e3]; exact fun y => by have := (nI_ltI (b := 0) kb (by omega)).mp y; omega
      subst e3
      by_cases c1 : k < no a
      · refine Or.inr ⟨lN (ou a k), ?_, ?_⟩
        · unfold f_Sh_output oa
          rw [if_neg h9, HAS1 hP h6 ha, if_neg (show ¬ nI 1 = 0 by decide), if_neg n3, nI_clamp (n := a) (by omega), if_neg za, v3, if_pos ((nI_ltI (by omega) (by omega)).mpr c1), if_neg za, if_pos ⟨o1, by omega, o2⟩, rd_in (by omega) (by omega), o6 k c1]
        · unfold f_Model_output
          rw [if_neg h34, oc_oc, ISP1 hP h16 ha, if_neg (show ¬ nI 1 = 0 by decide), if_neg n3, nI_clamp (n := a) (by omega), if_neg za, v4, if_neg (nI_ge (by omega) (by omega)), oc_some, z0, pl_eq, z2, if_neg (show ¬ ¬ (0 : Int32) = 0 from fun y => y rfl), nI_clamp (n := k) (by omega), if_neg (nin (show k < 30001 by omega) (by decide)), v5 k c1]
      · refine Or.inl ⟨?_, ?_⟩
        · unfold f_Sh_output
          rw [if_neg h9, HAS1 hP h6 ha, if_neg (show ¬ nI 1 = 0 by decide), if_neg n3, nI_clamp (n := a) (by omega), if_neg za, v3, if_neg (fun y => c1 ((nI_ltI (by omega) (by omega)).mp y))]
        · unfold f_Model_output
          rw [if_neg h34, oc_oc, ISP1 hP h16 ha, if_neg (show ¬ nI 1 = 0 by decide), if_neg n3, nI_clamp (n := a) (by omega), if_neg za, v4, if_pos (nI_le (by omega) (by omega)), oc_some, y0, pl_eq, y2, if_pos (by decide)]
  · refine Or.inl ⟨?_, ?_⟩
    · unfold f_Sh_output
      rw [if_neg h9, HAS0 h6 e2, if_pos (show nI 0 = 0 from rfl)]
    · unfold f_Model_output
      rw [if_neg h34, oc_oc, ISP0 h16 e2, if_pos (show nI 0 = 0 from rfl), oc_some, y0, pl_eq, y2, if_pos (by decide)]
end OUTPUT
