/-! clear, of the class and of the reference -/
section CLEAR
variable {P : Nat} {va : Nat → Nat → Nat} {I I' : MI} {J J' : MJ} {p2 p3 : Int32}
theorem CLR (hP : P ≤ 4) (h6 : I 14 6 = nI P) (h16 : I' 112 16 = nI P) (h9 : ¬ I 14 9 = 0) (h34 : ¬ I' 112 34 = 0) (hv : ∀ a, a < P → (∀ i, i < 13 → J (20 + 21 * a) i = lN (va a i)) ∧ (∀ i, i < 128 → J (22 + 21 * a) i = lN (va a (26 + i))) ∧ (∀ i, i < 154 → J' 143 (154 * a + i) = lN (va a i))) : (f_Sh_clear p2 p3 I J = some (.inr 3, I, J) ∧ f_Model_clear p2 p3 I' J' = some (0, va_up I' 112 (upd (I' 112) 0 1), J')) ∨ (∃ v, f_Sh_clear p2 p3 I J = some (.inl v, I, J) ∧ f_Model_clear p2 p3 I' J' = some (v, va_up I' 112 (upd (I' 112) 0 0), J')) := by
  obtain ⟨Z, z0, z1, z2, z3⟩ := UP1 I' 112 0 0
  obtain ⟨Y, y0, y1, y2, y3⟩ := UP1 I' 112 0 1
  rw [z0, y0]
  rcases PTY p2 hP with ⟨a, ha, e2⟩ | e2
  · have za := nin (show a < 4 by omega) (show 4 < 2 ^ 31 by decide)
    obtain ⟨v1, v2, v3⟩ := hv a ha
    subst e2
    rcases nI_of3 p3 with e3 | ⟨k, kb, e3⟩
    · have l100 : p3 < 100 := Int32.lt_trans e3 (by decide)
      refine Or.inl ⟨?_, ?_⟩
      · unfold f_Sh_clear
        rw [if_neg h9, HAS1 hP h6 ha, if_pos (show ¬ nI 1 = 0 by decide), nI_clamp (n := a) (by omega), if_neg za, if_pos e3, if_pos l100]
      · unfold f_Model_clear
        rw [if_pos l100, pl_eq, if_neg h34, oc_oc, ISP1 hP h16 ha, if_neg (show ¬ nI 1 = 0 by decide), if_neg (show ¬ ¬ (0 : Int32) = 0 from fun y => y rfl), if_pos e3, oc_some, y0, pl_eq, y2, if_neg (by decide)]
    · have n3 : ¬ p3 < 0 := by rw [e3]; exact fun y => by have := (nI_ltI (b := 0) kb (by omega)).mp y; omega
      subst e3
      by_cases c1 : k < 13
      · have l100 : nI k < 100 := (nI_ltI (b := 100) (by omega) (by omega)).mpr (by omega)
        have n13 : ¬ 13 ≤ nI k := nI_ge (b := 13) (by omega) (by omega)
        refine Or.inr ⟨lN (va a k), ?_, ?_⟩
        · unfold f_Sh_clear
          rw [if_neg h9, HAS1 hP h6 ha, if_pos (show ¬ nI 1 = 0 by decide), nI_clamp (n := a) (by omega), if_neg za, if_neg n3, if_neg n13, rd_in c1 (by decide), v1 k c1]
        · unfold f_Model_clear
          rw [if_pos l100, pl_eq, if_neg h34, oc_oc, ISP1 hP h16 ha, if_neg (show ¬ nI 1 = 0 by decide), if_neg (show ¬ ¬ (0 : Int32) = 0 from fun y => y rfl), if_neg n3, if_neg n13, oc_some, z0, pl_eq, z2, if_pos (by decide), if_pos (show (0 : Int32) = 0 from rfl), pl_eq, n154', nI_add, if_neg (nI_in (by omega) (by decide)), nI_clamp (n := 154 * a + k) (by omega), v3 k (by omega)]
      · have g13 : 13 ≤ nI k := nI_le (a := 13) (by omega) (by omega)
        by_cases c2 : k < 100
        · have l100 : nI k < 100 := (nI_ltI (b := 100) (by omega) (by omega)).mpr c2
          refine Or.inl ⟨?_, ?_⟩
          · unfold f_Sh_clear
            rw [if_neg h9, HAS1 hP h6 ha, if_pos (show ¬ nI 1 = 0 by decide), nI_clamp (n := a) (by omega), if_neg za, if_neg n3, if_pos g13, if_pos l100]
          · unfold f_Model_clear
            rw [if_pos l100, pl_eq, if_neg h34, oc_oc, ISP1 hP h16 ha, if_neg (show ¬ nI 1 = 0 by decide), if_neg (show ¬ ¬ (0 : Int32) = 0 from fun y => y rfl), if_neg n3, if_pos g13, oc_some, y0, pl_eq, y2, if_neg (by decide)]
        · have n100 : ¬ nI k < 100 := fun y => c2 ((nI_ltI (b := 100) (by omega) (by omega)).mp y)
          by_cases c3 : k < 164
          · have l164 : nI k < 164 := (nI_ltI (b := 164) (by omega) (by omega)).mpr c3
            have n164 : ¬ 164 ≤ nI k := nI_ge (b := 164) (by omega) (by omega)
            have d1 : nI k - 100 = nI (k - 100) := nI_sb (b := 100) (by omega)
            have d2 : (26 + nI k) - 100 = nI (26 + k - 100) := by
              rw [show (26 : Int32) + nI k = nI (26 + k) from nI_add 26 k]
              exact nI_sb (b := 100) (by omega)
            refine Or.inr ⟨lN (va a (26 + (k - 100))), ?_, ?_⟩
            · unfold f_Sh_clear
              rw [if_neg h9, HAS1 hP h6 ha, if_pos (show ¬ nI 1 = 0 by decide), nI_clamp (n := a) (by omega), if_neg za, if_neg n3, if_pos g13, if_neg n100, if_pos l164, d1, rd_in (by omega) (by decide), v2 (k - 100) (by omega)]
            · unfold f_Model_clear
              rw [if_neg n100, if_neg n164, pl_eq, if_neg h34, oc_oc, ISP1 hP h16 ha, if_neg (show ¬ nI 1 = 0 by decide), if_pos (show ¬ (1 : Int32) = 0 by decide), oc_some, z0, pl_eq, z2, if_pos (by decide), if_neg (show ¬ (1 : Int32) = 0 by decide), pl_eq, d2, n154', nI_add, if_neg (nI_in (by omega) (by decide)), nI_clamp (n := 154 * a + (26 + k - 100)) (by omega), v3 (26 + k - 100) (by omega), show 26 + k - 100 = 26 + (k - 100) by omega]
          · have n164 : ¬ nI k < 164 := fun y => c3 ((nI_ltI (b := 164) (by omega) (by omega)).mp y)
            have g164 : 164 ≤ nI k := nI_le (a := 164) (by omega) (by omega)
            refine Or.inl ⟨?_, ?_⟩
            · unfold f_Sh_clear
              rw [if_neg h9, HAS1 hP h6 ha, if_pos (show ¬ nI 1 = 0 by decide), nI_clamp (n := a) (by omega), if_neg za, if_neg n3, if_pos g13, if_neg n100, if_neg n164]
            · unfold f_Model_clear
              rw [if_neg n100, if_pos g164, pl_eq, if_neg h34, oc_oc, ISP1 hP h16 ha, if_neg (show ¬ nI 1 = 0 by decide), if_neg (show ¬ ¬ (0 : Int32) = 0 from fun y => y rfl), if_neg n3, if_pos g13, oc_some, y0, pl_eq, y2, if_neg (by decide)]
  · refine Or.inl ⟨?_, ?_⟩
    · unfold f_Sh_clear
      rw [if_neg h9, HAS0 h6 e2, if_neg (show ¬ ¬ nI 0 = 0 from fun y => y rfl)]
    · unfold f_Model_clear
      rw [pl_eq, if_neg h34, oc_oc, ISP0 h16 e2, if_pos (show nI 0 = 0 from rfl), oc_some, y0, pl_eq, y2, if_neg (by decide)]
end CLEAR
