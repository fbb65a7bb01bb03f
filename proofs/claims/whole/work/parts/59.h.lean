/-! deal, of the class and of the reference -/
section DEAL
variable {P d0 d1 d2 tot : Nat} {t0 t1 t2 md mt : Nat → Nat} {I I' : MI} {J J' : MJ} {p2 p3 : Int32}
/-- which kind is meant: a party's masks, or one of three -/
theorem WHI (p : Int32) (hP : P ≤ 4) : (∃ a, a < P ∧ p = nI a) ∨ p = -1 ∨ p = -2 ∨ p = -3 ∨ ((p < 0 ∨ nI P ≤ p) ∧ ((-1 - p) < 0 ∨ ¬ (-1 - p) < 3) ∧ (p < 0 → p < -3)) := by
  rcases PTY p hP with h | h
  · exact Or.inl h
  right
  by_cases x1 : p = -1
  · exact Or.inl x1
  by_cases x2 : p = -2
  · exact Or.inr (Or.inl x2)
  by_cases x3 : p = -3
  · exact Or.inr (Or.inr (Or.inl x3))
  refine Or.inr (Or.inr (Or.inr ⟨h, ?_, fun hp => ?_⟩))
  · rcases nI_of3 (-1 - p) with q | ⟨j, j1, q⟩
    · exact Or.inl q
    · right
      intro r
      rw [q] at r
      have r3 := (nI_ltI (b := 3) j1 (by omega)).mp r
      have e : p = -1 - nI j := by
        rw [← q]
        apply Int32.toInt_inj.mp
        rw [Int32.toInt_sub, Int32.toInt_sub]
        have b1 := Int32.le_toInt p
        have b2 := Int32.toInt_lt p
        have m : (-1 : Int32).toInt = -1 := by decide
        rw [m]
        simp only [Int.bmod_def]
        omega
      rcases (show j = 0 ∨ j = 1 ∨ j = 2 by omega) with y | y | y
      · exact x1 (by rw [e, y]; decide)
      · exact x2 (by rw [e, y]; decide)
      · exact x3 (by rw [e, y]; decide)
  · have b2 := Int32.lt_iff_toInt_lt.mp hp
    have m0 : (0 : Int32).toInt = 0 := by decide
    have m1' : (-1 : Int32).toInt = -1 := by decide
    have m2' : (-2 : Int32).toInt = -2 := by decide
    have m3' : (-3 : Int32).toInt = -3 := by decide
    have y1 : p.toInt ≠ -1 := fun y => x1 (Int32.toInt_inj.mp (by rw [y, m1']))
    have y2 : p.toInt ≠ -2 := fun y => x2 (Int32.toInt_inj.mp (by rw [y, m2']))
    have y3 : p.toInt ≠ -3 := fun y => x3 (Int32.toInt_inj.mp (by rw [y, m3']))
    apply Int32.lt_iff_toInt_lt.mpr
    rw [m0] at b2
    rw [m3']
    omega
end DEAL
