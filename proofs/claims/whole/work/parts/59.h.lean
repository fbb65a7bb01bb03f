/-! deal, of the class and of the reference -/
section DEAL
variable {P d0 d1 d2 tot : Nat} {t0 t1 t2 md mt : Nat → Nat} {I I' : MI} {J J' : MJ} {p2 p3 : Int32}
/-- which kind is meant: a party's masks, or one of three -/
theorem WHI (p : Int32) (hP : P ≤ 4) : (∃ a, a < P ∧ p = nI a) ∨ p = -1 ∨ p = -2 ∨ p = -3 ∨ ((p < 0 ∨ nI P ≤ p) ∧ ((-1 - p) < 0 ∨ ¬ (-1 - p) < 3) ∧ (p < 0 → p < -3)) := by
  rcases PTY p hP with h | h
  · exact Or.inl h
  right
  by_cases x1 : p = -1
  · exact Or.inl x1
  by_cases x2 : p = -2
  · exact Or.inr (Or.inl x2)
  by_cases x3 : p = -3
  · exact Or.inr (Or.inr (Or.inl x3))
  refine Or.inr (Or.inr (Or.inr ⟨h, ?_, fun hp => ?_⟩))
  · rcases nI_of3 (-1 - p) with q | ⟨j, j1, q⟩
    · exact Or.inl q
    · right
      intro r
      rw [q] at r
      have r3 := (nI_ltI (b := 3) j1 (by omega)).mp r
      have e : p = -1 - nI j := by
        rw [← q]
        apply Int32.toInt_inj.mp
        rw [Int32.toInt_sub, Int32.toInt_sub]
        have b1 := Int32.le_toInt p
        have b2 := Int32.toInt_lt p
        have m : (-1 : Int32).toInt = -1 := by decide
        rw [m]
        simp only [Int.bmod_def]
        omega
      rcases (show j = 0 ∨ j = 1 ∨ j = 2 by omega) with y | y | y
      · exact x1 (by rw [e, y]; decide)
      · exact x2 (by rw [e, y]; decide)
      · exact x3 (by rw [e, y]; decide)
  · have b2 := Int32.lt_iff_toInt_lt.mp hp
    have m0 : (0 : Int32).toInt = 0 := by decide
    have m1' : (-1 : Int32).toInt = -1 := by decide
    have m2' : (-2 : Int32).toInt = -2 := by decide
    have m3' : (-3 : Int32).toInt = -3 := by decide
    have y1 : p.toInt ≠ -1 := fun y => x1 (Int32.toInt_inj.mp (by rw [y, m1']))
    have y2 : p.toInt ≠ -2 := fun y => x2 (Int32.toInt_inj.mp (by rw [y, m2']))
    have y3 : p.toInt ≠ -3 := fun y => x3 (Int32.toInt_inj.mp (by rw [y, m3']))
    apply Int32.lt_iff_toInt_lt.mpr
    rw [m0] at b2
    rw [m3']
    omega
theorem RAI {I : MI} {J : MJ} : f_Model_raise 1 I J = some (0, va_up I 112 (upd (I 112) 0 1), J) := rfl
theorem DEA0 (hP : P ≤ 4) (hP1 : 1 ≤ P) (h6 : I 14 6 = nI P) (h16 : I' 112 16 = nI P) (hD : DLT I I' P d0 d1 d2 t0 t1 t2) (hdb : d0 ≤ 200) (ht1 : I 0 5 = nI tot) (ht2 : I' 112 30 = nI tot) (ht3 : tot ≤ 3000) : (f_Sh_deal (-1) p3 I J = some (.inr 0, I, J) ∧ f_Model_deal (-1) p3 I' J' = some (0, va_up I' 112 (upd (I' 112) 0 1), J')) ∨ (∃ c v I1 I1', d0 + c ≤ 200 ∧ tot + c ≤ 3000 ∧ p3 = nI c ∧ f_Sh_deal (-1) p3 I J = some (.inl v, I1, J) ∧ f_Model_deal (-1) p3 I' J' = some (v, I1', J') ∧ DLT I1 I1' P (d0 + c) d1 d2 t0 t1 t2 ∧ I1 0 5 = nI (tot + c) ∧ I1' 112 30 = nI (tot + c) ∧ (∀ a, a ≠ 0 → a ≠ 102 → I1 a = I a) ∧ (∀ j, j ≠ 5 → I1 0 j = I 0 j) ∧ (∀ a, a ≠ 112 → I1' a = I' a) ∧ (∀ j, j ≠ 0 → j ≠ 30 → j ≠ 24 → I1' 112 j = I' 112 j) ∧ I1' 112 0 = nI 0) := by
  have hD' := hD
  obtain ⟨⟨a0, a1, a2⟩, ⟨b0, b1, b2⟩, ⟨c0, c1, c2⟩, e0, e1, e2⟩ := hD
  have lv : ((-1 : Int32) - (-1)) = nI 0 := by decide
  rcases nI_of3 p3 with e3 | ⟨c, cb, e3⟩
  · refine Or.inl ⟨?_, ?_⟩
    · unfold f_Sh_deal; rw [HAS0 h6 (Or.inl (by decide)), if_pos (show nI 0 = 0 from rfl), lv, pl_eq, if_neg (show ¬ nI 0 < 0 by decide), if_pos (show nI 0 < 3 by decide), if_pos (show nI 0 = 0 from rfl), if_neg (by decide), show Int32.toNatClampNeg (nI 0) = 0 from rfl, oc_some, a0, if_pos e3]
    · unfold f_Model_deal; rw [if_neg (show ¬ ((-1) : Int32) < -3 by decide), if_pos (show ((-1) : Int32) < 0 by decide), if_pos e3, oc_some, if_pos (show (0 : Int32) = 0 from rfl), RAI, oc_some]
  have n3 : ¬ p3 < 0 := by rw [e3]; exact fun y => by have := (nI_ltI (b := 0) cb (by omega)).mp y; omega
  subst e3
  have s2 : (200 : Int32) - nI d0 = nI (200 - d0) := nI_sb (a := 200) hdb
  have s3 : (3000 : Int32) - nI tot = nI (3000 - tot) := nI_sb (a := 3000) ht3
  have dl : f_Model_dealt (-1) I' J' = some (nI d0, I', J') := by unfold f_Model_dealt; rw [if_neg (by decide), b0]
  by_cases q1 : d0 + c ≤ 200
  · have n200 : ¬ 200 < nI c := fun y => by have := (nI_ltI (a := 200) (by omega) (by omega)).mp y; omega
    have m200 : ¬ nI (200 - d0) < nI c := fun y => by have := (nI_ltI (by omega) (by omega)).mp y; omega
    by_cases q2 : tot + c ≤ 3000
    · right
      obtain ⟨A0, f0, f1, f2, f3⟩ := UP1 I 0 5 (nI (tot + c))
      obtain ⟨A1, g0, g1, g2, g3⟩ := UP1 A0 102 0 (nI (d0 + c))
      obtain ⟨B0, i0, i1, i2, i3⟩ := UP1 I' 112 0 0
      obtain ⟨B1, j0, j1, j2, j3⟩ := UP1 B0 112 30 (nI (tot + c))
      obtain ⟨B2, k0, k1, k2, k3⟩ := UP1 B1 112 24 (nI (d0 + c))
      have fo : ∀ a, a ≠ 0 → a ≠ 102 → A1 a = I a := fun a x y => by rw [g1 a y, f1 a x]
      have ro : ∀ a, a ≠ 112 → B2 a = I' a := fun a x => by rw [k1 a x, j1 a x, i1 a x]
      have r112 : ∀ j, j ≠ 0 → j ≠ 30 → j ≠ 24 → B2 112 j = I' 112 j := fun j x y z => by rw [k3 j z, j3 j y, i3 j x]
      have h102 : ∀ j, j ≠ 0 → A1 102 j = I 102 j := fun j x => by rw [g3 j x, f1 102 (by decide)]
      have ml : f_Hall_mostLeft (nI 0) A1 J = some (nI (d0 + c - lst t0 (P - 1)), A1, J) := MLC hP hP1 (by rw [fo 14 (by decide) (by decide)]; exact h6) (by decide) g2 (by omega) (fun j hj => ⟨by have := (e0 j hj).1; omega, by rw [fo _ (by omega) (by omega)]; exact (e0 j hj).2.1⟩)
      have ls : f_Model_least 121 4 B2 J' = some (nI (lst t0 (P - 1)), B2, J') := LSM hP hP1 (by rw [r112 16 (by decide) (by decide) (by decide)]; exact h16) (fun j hj => ⟨by have := (e0 j hj).1; omega, by rw [ro _ (by decide)]; exact (e0 j hj).2.2⟩)
      have lw := lst_lt (t := t0) (d := d0) (P - 1) (fun j hj => (e0 j (by omega)).1)
      have u30 : B0 112 30 = nI tot := by rw [i3 30 (by decide)]; exact ht2
      have uc : B1 112 24 = nI d0 := by rw [j3 24 (by decide), i3 24 (by decide)]; exact b0
      have u102 : A0 102 0 = nI d0 := by rw [f1 102 (by decide)]; exact a0
      refine ⟨c, nI (d0 + c - lst t0 (P - 1)), A1, B2, q1, q2, rfl, ?_, ?_, ⟨⟨g2, by rw [h102 1 (by decide)]; exact a1, by rw [h102 2 (by decide)]; exact a2⟩, ⟨k2, by rw [r112 26 (by decide) (by decide) (by decide)]; exact b1, by rw [r112 28 (by decide) (by decide) (by decide)]; exact b2⟩, ⟨by omega, c1, c2⟩, fun j hj => ⟨by have := (e0 j hj).1; omega, by rw [fo _ (by omega) (by omega)]; exact (e0 j hj).2.1, by rw [ro _ (by decide)]; exact (e0 j hj).2.2⟩, fun j hj => ⟨(e1 j hj).1, by rw [fo _ (by omega) (by omega)]; exact (e1 j hj).2.1, by rw [ro _ (by decide)]; exact (e1 j hj).2.2⟩, fun j hj => ⟨(e2 j hj).1, by rw [fo _ (by omega) (by omega)]; exact (e2 j hj).2.1, by rw [ro _ (by decide)]; exact (e2 j hj).2.2⟩⟩, by rw [g1 0 (by decide)]; exact f2, by rw [k3 30 (by decide)]; exact j2, fo, fun j hj => by rw [g1 0 (by decide), f3 j hj], ro, r112, by rw [k3 0 (by decide), j3 0 (by decide), i2]; rfl⟩
      · unfold f_Sh_deal; rw [HAS0 h6 (Or.inl (by decide)), if_pos (show nI 0 = 0 from rfl), lv, pl_eq, if_neg (show ¬ nI 0 < 0 by decide), if_pos (show nI 0 < 3 by decide), if_pos (show nI 0 = 0 from rfl), if_neg (by decide), show Int32.toNatClampNeg (nI 0) = 0 from rfl, oc_some, a0, if_neg n3, s2, if_neg m200, ht1, s3, if_pos (nI_le (by omega) (by omega)), nI_add, f0, pl_eq, if_pos (show nI 0 = 0 from rfl), if_neg (by decide), if_neg (by decide), u102, nI_add, g0, pl_eq, ml, oc_some]
      · unfold f_Model_deal; rw [if_neg (show ¬ ((-1) : Int32) < -3 by decide), if_pos (show ((-1) : Int32) < 0 by decide), if_neg n3, if_neg n200, ht2, nI_add, if_neg (show ¬ 3000 < nI (tot + c) from fun y => by have := (nI_ltI (a := 3000) (by omega) (by omega)).mp y; omega), oc_some, if_neg (show ¬ (1 : Int32) = 0 by decide), dl, oc_some, nI_add, if_pos (show nI (d0 + c) ≤ 200 from nI_le (b := 200) (by omega) (by omega)), i0, pl_eq, u30, nI_add, j0, pl_eq, if_neg (by decide), uc, nI_add, k0, pl_eq, ls, oc_some, k2, nI_sb (by omega)]
    · refine Or.inl ⟨?_, ?_⟩
      · unfold f_Sh_deal; rw [HAS0 h6 (Or.inl (by decide)), if_pos (show nI 0 = 0 from rfl), lv, pl_eq, if_neg (show ¬ nI 0 < 0 by decide), if_pos (show nI 0 < 3 by decide), if_pos (show nI 0 = 0 from rfl), if_neg (by decide), show Int32.toNatClampNeg (nI 0) = 0 from rfl, oc_some, a0, if_neg n3, s2, if_neg m200, ht1, s3, if_neg (nI_ge (by omega) (by omega))]
      · unfold f_Model_deal; rw [if_neg (show ¬ ((-1) : Int32) < -3 by decide), if_pos (show ((-1) : Int32) < 0 by decide), if_neg n3, if_neg n200, ht2, nI_add, if_pos (show 3000 < nI (tot + c) from (nI_ltI (a := 3000) (by omega) (by omega)).mpr (by omega)), oc_some, if_pos (show (0 : Int32) = 0 from rfl), RAI, oc_some]
  · refine Or.inl ⟨?_, ?_⟩
    · unfold f_Sh_deal; rw [HAS0 h6 (Or.inl (by decide)), if_pos (show nI 0 = 0 from rfl), lv, pl_eq, if_neg (show ¬ nI 0 < 0 by decide), if_pos (show nI 0 < 3 by decide), if_pos (show nI 0 = 0 from rfl), if_neg (by decide), show Int32.toNatClampNeg (nI 0) = 0 from rfl, oc_some, a0, if_neg n3, s2, if_pos ((nI_ltI (by omega) (by omega)).mpr (by omega))]
    · by_cases q2 : 200 < c
      · unfold f_Model_deal; rw [if_neg (show ¬ ((-1) : Int32) < -3 by decide), if_pos (show ((-1) : Int32) < 0 by decide), if_neg n3, if_pos (show 200 < nI c from (nI_ltI (a := 200) (by omega) (by omega)).mpr q2), oc_some, if_pos (show (0 : Int32) = 0 from rfl), RAI, oc_some]
      · have n200 : ¬ 200 < nI c := fun y => q2 ((nI_ltI (a := 200) (by omega) (by omega)).mp y)
        by_cases q3 : 3000 < tot + c
        · unfold f_Model_deal; rw [if_neg (show ¬ ((-1) : Int32) < -3 by decide), if_pos (show ((-1) : Int32) < 0 by decide), if_neg n3, if_neg n200, ht2, nI_add, if_pos (show 3000 < nI (tot + c) from (nI_ltI (a := 3000) (by omega) (by omega)).mpr q3), oc_some, if_pos (show (0 : Int32) = 0 from rfl), RAI, oc_some]
        · unfold f_Model_deal; rw [if_neg (show ¬ ((-1) : Int32) < -3 by decide), if_pos (show ((-1) : Int32) < 0 by decide), if_neg n3, if_neg n200, ht2, nI_add, if_neg (show ¬ 3000 < nI (tot + c) from fun y => q3 ((nI_ltI (a := 3000) (by omega) (by omega)).mp y)), oc_some, if_neg (show ¬ (1 : Int32) = 0 by decide), dl, oc_some, nI_add, if_neg (show ¬ nI (d0 + c) ≤ 200 from nI_ge (a := 200) (by omega) (by omega)), RAI, oc_some]
theorem DEA1 (hP : P ≤ 4) (hP1 : 1 ≤ P) (h6 : I 14 6 = nI P) (h16 : I' 112 16 = nI P) (hD : DLT I I' P d0 d1 d2 t0 t1 t2) (hdb : d1 ≤ 200) (ht1 : I 0 5 = nI tot) (ht2 : I' 112 30 = nI tot) (ht3 : tot ≤ 3000) : (f_Sh_deal (-2) p3 I J = some (.inr 0, I, J) ∧ f_Model_deal (-2) p3 I' J' = some (0, va_up I' 112 (upd (I' 112) 0 1), J')) ∨ (∃ c v I1 I1', d1 + c ≤ 200 ∧ tot + c ≤ 3000 ∧ p3 = nI c ∧ f_Sh_deal (-2) p3 I J = some (.inl v, I1, J) ∧ f_Model_deal (-2) p3 I' J' = some (v, I1', J') ∧ DLT I1 I1' P d0 (d1 + c) d2 t0 t1 t2 ∧ I1 0 5 = nI (tot + c) ∧ I1' 112 30 = nI (tot + c) ∧ (∀ a, a ≠ 0 → a ≠ 102 → I1 a = I a) ∧ (∀ j, j ≠ 5 → I1 0 j = I 0 j) ∧ (∀ a, a ≠ 112 → I1' a = I' a) ∧ (∀ j, j ≠ 0 → j ≠ 30 → j ≠ 26 → I1' 112 j = I' 112 j) ∧ I1' 112 0 = nI 0) := by
  have hD' := hD
  obtain ⟨⟨a0, a1, a2⟩, ⟨b0, b1, b2⟩, ⟨c0, c1, c2⟩, e0, e1, e2⟩ := hD
  have lv : ((-1 : Int32) - (-2)) = nI 1 := by decide
  rcases nI_of3 p3 with e3 | ⟨c, cb, e3⟩
  · refine Or.inl ⟨?_, ?_⟩
    · unfold f_Sh_deal; rw [HAS0 h6 (Or.inl (by decide)), if_pos (show nI 0 = 0 from rfl), lv, pl_eq, if_neg (show ¬ nI 1 < 0 by decide), if_pos (show nI 1 < 3 by decide), if_pos (show nI 0 = 0 from rfl), if_neg (by decide), show Int32.toNatClampNeg (nI 1) = 1 from rfl, oc_some, a1, if_pos e3]
    · unfold f_Model_deal; rw [if_neg (show ¬ ((-2) : Int32) < -3 by decide), if_pos (show ((-2) : Int32) < 0 by decide), if_pos e3, oc_some, if_pos (show (0 : Int32) = 0 from rfl), RAI, oc_some]
  have n3 : ¬ p3 < 0 := by rw [e3]; exact fun y => by have := (nI_ltI (b := 0) cb (by omega)).mp y; omega
  subst e3
  have s2 : (200 : Int32) - nI d1 = nI (200 - d1) := nI_sb (a := 200) hdb
  have s3 : (3000 : Int32) - nI tot = nI (3000 - tot) := nI_sb (a := 3000) ht3
  have dl : f_Model_dealt (-2) I' J' = some (nI d1, I', J') := by unfold f_Model_dealt; rw [if_pos (by decide), if_neg (by decide), b1]
  by_cases q1 : d1 + c ≤ 200
  · have n200 : ¬ 200 < nI c := fun y => by have := (nI_ltI (a := 200) (by omega) (by omega)).mp y; omega
    have m200 : ¬ nI (200 - d1) < nI c := fun y => by have := (nI_ltI (by omega) (by omega)).mp y; omega
    by_cases q2 : tot + c ≤ 3000
    · right
      obtain ⟨A0, f0, f1, f2, f3⟩ := UP1 I 0 5 (nI (tot + c))
      obtain ⟨A1, g0, g1, g2, g3⟩ := UP1 A0 102 1 (nI (d1 + c))
      obtain ⟨B0, i0, i1, i2, i3⟩ := UP1 I' 112 0 0
      obtain ⟨B1, j0, j1, j2, j3⟩ := UP1 B0 112 30 (nI (tot + c))
      obtain ⟨B2, k0, k1, k2, k3⟩ := UP1 B1 112 26 (nI (d1 + c))
      have fo : ∀ a, a ≠ 0 → a ≠ 102 → A1 a = I a := fun a x y => by rw [g1 a y, f1 a x]
      have ro : ∀ a, a ≠ 112 → B2 a = I' a := fun a x => by rw [k1 a x, j1 a x, i1 a x]
      have r112 : ∀ j, j ≠ 0 → j ≠ 30 → j ≠ 26 → B2 112 j = I' 112 j := fun j x y z => by rw [k3 j z, j3 j y, i3 j x]
      have h102 : ∀ j, j ≠ 1 → A1 102 j = I 102 j := fun j x => by rw [g3 j x, f1 102 (by decide)]
      have ml : f_Hall_mostLeft (nI 1) A1 J = some (nI (d1 + c - lst t1 (P - 1)), A1, J) := MLC hP hP1 (by rw [fo 14 (by decide) (by decide)]; exact h6) (by decide) g2 (by omega) (fun j hj => ⟨by have := (e1 j hj).1; omega, by rw [fo _ (by omega) (by omega)]; exact (e1 j hj).2.1⟩)
      have ls : f_Model_least 122 4 B2 J' = some (nI (lst t1 (P - 1)), B2, J') := LSM hP hP1 (by rw [r112 16 (by decide) (by decide) (by decide)]; exact h16) (fun j hj => ⟨by have := (e1 j hj).1; omega, by rw [ro _ (by decide)]; exact (e1 j hj).2.2⟩)
      have lw := lst_lt (t := t1) (d := d1) (P - 1) (fun j hj => (e1 j (by omega)).1)
      have u30 : B0 112 30 = nI tot := by rw [i3 30 (by decide)]; exact ht2
      have uc : B1 112 26 = nI d1 := by rw [j3 26 (by decide), i3 26 (by decide)]; exact b1
      have u102 : A0 102 1 = nI d1 := by rw [f1 102 (by decide)]; exact a1
      refine ⟨c, nI (d1 + c - lst t1 (P - 1)), A1, B2, q1, q2, rfl, ?_, ?_, ⟨⟨by rw [h102 0 (by decide)]; exact a0, g2, by rw [h102 2 (by decide)]; exact a2⟩, ⟨by rw [r112 24 (by decide) (by decide) (by decide)]; exact b0, k2, by rw [r112 28 (by decide) (by decide) (by decide)]; exact b2⟩, ⟨c0, by omega, c2⟩, fun j hj => ⟨(e0 j hj).1, by rw [fo _ (by omega) (by omega)]; exact (e0 j hj).2.1, by rw [ro _ (by decide)]; exact (e0 j hj).2.2⟩, fun j hj => ⟨by have := (e1 j hj).1; omega, by rw [fo _ (by omega) (by omega)]; exact (e1 j hj).2.1, by rw [ro _ (by decide)]; exact (e1 j hj).2.2⟩, fun j hj => ⟨(e2 j hj).1, by rw [fo _ (by omega) (by omega)]; exact (e2 j hj).2.1, by rw [ro _ (by decide)]; exact (e2 j hj).2.2⟩⟩, by rw [g1 0 (by decide)]; exact f2, by rw [k3 30 (by decide)]; exact j2, fo, fun j hj => by rw [g1 0 (by decide), f3 j hj], ro, r112, by rw [k3 0 (by decide), j3 0 (by decide), i2]; rfl⟩
      · unfold f_Sh_deal; rw [HAS0 h6 (Or.inl (by decide)), if_pos (show nI 0 = 0 from rfl), lv, pl_eq, if_neg (show ¬ nI 1 < 0 by decide), if_pos (show nI 1 < 3 by decide), if_pos (show nI 0 = 0 from rfl), if_neg (by decide), show Int32.toNatClampNeg (nI 1) = 1 from rfl, oc_some, a1, if_neg n3, s2, if_neg m200, ht1, s3, if_pos (nI_le (by omega) (by omega)), nI_add, f0, pl_eq, if_pos (show nI 0 = 0 from rfl), if_neg (by decide), if_neg (by decide), u102, nI_add, g0, pl_eq, ml, oc_some]
      · unfold f_Model_deal; rw [if_neg (show ¬ ((-2) : Int32) < -3 by decide), if_pos (show ((-2) : Int32) < 0 by decide), if_neg n3, if_neg n200, ht2, nI_add, if_neg (show ¬ 3000 < nI (tot + c) from fun y => by have := (nI_ltI (a := 3000) (by omega) (by omega)).mp y; omega), oc_some, if_neg (show ¬ (1 : Int32) = 0 by decide), dl, oc_some, nI_add, if_pos (show nI (d1 + c) ≤ 200 from nI_le (b := 200) (by omega) (by omega)), i0, pl_eq, u30, nI_add, j0, pl_eq, if_pos (by decide), if_neg (by decide), uc, nI_add, k0, pl_eq, ls, oc_some, k2, nI_sb (by omega)]
    · refine Or.inl ⟨?_, ?_⟩
      · unfold f_Sh_deal; rw [HAS0 h6 (Or.inl (by decide)), if_pos (show nI 0 = 0 from rfl), lv, pl_eq, if_neg (show ¬ nI 1 < 0 by decide), if_pos (show nI 1 < 3 by decide), if_pos (show nI 0 = 0 from rfl), if_neg (by decide), show Int32.toNatClampNeg (nI 1) = 1 from rfl, oc_some, a1, if_neg n3, s2, if_neg m200, ht1, s3, if_neg (nI_ge (by omega) (by omega))]
      · unfold f_Model_deal; rw [if_neg (show ¬ ((-2) : Int32) < -3 by decide), if_pos (show ((-2) : Int32) < 0 by decide), if_neg n3, if_neg n200, ht2, nI_add, if_pos (show 3000 < nI (tot + c) from (nI_ltI (a := 3000) (by omega) (by omega)).mpr (by omega)), oc_some, if_pos (show (0 : Int32) = 0 from rfl), RAI, oc_some]
  · refine Or.inl ⟨?_, ?_⟩
    · unfold f_Sh_deal; rw [HAS0 h6 (Or.inl (by decide)), if_pos (show nI 0 = 0 from rfl), lv, pl_eq, if_neg (show ¬ nI 1 < 0 by decide), if_pos (show nI 1 < 3 by decide), if_pos (show nI 0 = 0 from rfl), if_neg (by decide), show Int32.toNatClampNeg (nI 1) = 1 from rfl, oc_some, a1, if_neg n3, s2, if_pos ((nI_ltI (by omega) (by omega)).mpr (by omega))]
    · by_cases q2 : 200 < c
      · unfold f_Model_deal; rw [if_neg (show ¬ ((-2) : Int32) < -3 by decide), if_pos (show ((-2) : Int32) < 0 by decide), if_neg n3, if_pos (show 200 < nI c from (nI_ltI (a := 200) (by omega) (by omega)).mpr q2), oc_some, if_pos (show (0 : Int32) = 0 from rfl), RAI, oc_some]
      · have n200 : ¬ 200 < nI c := fun y => q2 ((nI_ltI (a := 200) (by omega) (by omega)).mp y)
        by_cases q3 : 3000 < tot + c
        · unfold f_Model_deal; rw [if_neg (show ¬ ((-2) : Int32) < -3 by decide), if_pos (show ((-2) : Int32) < 0 by decide), if_neg n3, if_neg n200, ht2, nI_add, if_pos (show 3000 < nI (tot + c) from (nI_ltI (a := 3000) (by omega) (by omega)).mpr q3), oc_some, if_pos (show (0 : Int32) = 0 from rfl), RAI, oc_some]
        · unfold f_Model_deal; rw [if_neg (show ¬ ((-2) : Int32) < -3 by decide), if_pos (show ((-2) : Int32) < 0 by decide), if_neg n3, if_neg n200, ht2, nI_add, if_neg (show ¬ 3000 < nI (tot + c) from fun y => q3 ((nI_ltI (a := 3000) (by omega) (by omega)).mp y)), oc_some, if_neg (show ¬ (1 : Int32) = 0 by decide), dl, oc_some, nI_add, if_neg (show ¬ nI (d1 + c) ≤ 200 from nI_ge (a := 200) (by omega) (by omega)), RAI, oc_some]
theorem DEA2 (hP : P ≤ 4) (hP1 : 1 ≤ P) (h6 : I 14 6 = nI P) (h16 : I' 112 16 = nI P) (hD : DLT I I' P d0 d1 d2 t0 t1 t2) (hdb : d2 ≤ 200) (ht1 : I 0 5 = nI tot) (ht2 : I' 112 30 = nI tot) (ht3 : tot ≤ 3000) : (f_Sh_deal (-3) p3 I J = some (.inr 0, I, J) ∧ f_Model_deal (-3) p3 I' J' = some (0, va_up I' 112 (upd (I' 112) 0 1), J')) ∨ (∃ c v I1 I1', d2 + c ≤ 200 ∧ tot + c ≤ 3000 ∧ p3 = nI c ∧ f_Sh_deal (-3) p3 I J = some (.inl v, I1, J) ∧ f_Model_deal (-3) p3 I' J' = some (v, I1', J') ∧ DLT I1 I1' P d0 d1 (d2 + c) t0 t1 t2 ∧ I1 0 5 = nI (tot + c) ∧ I1' 112 30 = nI (tot + c) ∧ (∀ a, a ≠ 0 → a ≠ 102 → I1 a = I a) ∧ (∀ j, j ≠ 5 → I1 0 j = I 0 j) ∧ (∀ a, a ≠ 112 → I1' a = I' a) ∧ (∀ j, j ≠ 0 → j ≠ 30 → j ≠ 28 → I1' 112 j = I' 112 j) ∧ I1' 112 0 = nI 0) := by
  have hD' := hD
  obtain ⟨⟨a0, a1, a2⟩, ⟨b0, b1, b2⟩, ⟨c0, c1, c2⟩, e0, e1, e2⟩ := hD
  have lv : ((-1 : Int32) - (-3)) = nI 2 := by decide
  rcases nI_of3 p3 with e3 | ⟨c, cb, e3⟩
  · refine Or.inl ⟨?_, ?_⟩
    · unfold f_Sh_deal; rw [HAS0 h6 (Or.inl (by decide)), if_pos (show nI 0 = 0 from rfl), lv, pl_eq, if_neg (show ¬ nI 2 < 0 by decide), if_pos (show nI 2 < 3 by decide), if_pos (show nI 0 = 0 from rfl), if_neg (by decide), show Int32.toNatClampNeg (nI 2) = 2 from rfl, oc_some, a2, if_pos e3]
    · unfold f_Model_deal; rw [if_neg (show ¬ ((-3) : Int32) < -3 by decide), if_pos (show ((-3) : Int32) < 0 by decide), if_pos e3, oc_some, if_pos (show (0 : Int32) = 0 from rfl), RAI, oc_some]
  have n3 : ¬ p3 < 0 := by rw [e3]; exact fun y => by have := (nI_ltI (b := 0) cb (by omega)).mp y; omega
  subst e3
  have s2 : (200 : Int32) - nI d2 = nI (200 - d2) := nI_sb (a := 200) hdb
  have s3 : (3000 : Int32) - nI tot = nI (3000 - tot) := nI_sb (a := 3000) ht3
  have dl : f_Model_dealt (-3) I' J' = some (nI d2, I', J') := by unfold f_Model_dealt; rw [if_pos (by decide), if_pos (by decide), if_neg (by decide), b2]
  by_cases q1 : d2 + c ≤ 200
  · have n200 : ¬ 200 < nI c := fun y => by have := (nI_ltI (a := 200) (by omega) (by omega)).mp y; omega
    have m200 : ¬ nI (200 - d2) < nI c := fun y => by have := (nI_ltI (by omega) (by omega)).mp y; omega
    by_cases q2 : tot + c ≤ 3000
    · right
      obtain ⟨A0, f0, f1, f2, f3⟩ := UP1 I 0 5 (nI (tot + c))
      obtain ⟨A1, g0, g1, g2, g3⟩ := UP1 A0 102 2 (nI (d2 + c))
      obtain ⟨B0, i0, i1, i2, i3⟩ := UP1 I' 112 0 0
      obtain ⟨B1, j0, j1, j2, j3⟩ := UP1 B0 112 30 (nI (tot + c))
      obtain ⟨B2, k0, k1, k2, k3⟩ := UP1 B1 112 28 (nI (d2 + c))
      have fo : ∀ a, a ≠ 0 → a ≠ 102 → A1 a = I a := fun a x y => by rw [g1 a y, f1 a x]
      have ro : ∀ a, a ≠ 112 → B2 a = I' a := fun a x => by rw [k1 a x, j1 a x, i1 a x]
      have r112 : ∀ j, j ≠ 0 → j ≠ 30 → j ≠ 28 → B2 112 j = I' 112 j := fun j x y z => by rw [k3 j z, j3 j y, i3 j x]
      have h102 : ∀ j, j ≠ 2 → A1 102 j = I 102 j := fun j x => by rw [g3 j x, f1 102 (by decide)]
      have ml : f_Hall_mostLeft (nI 2) A1 J = some (nI (d2 + c - lst t2 (P - 1)), A1, J) := MLC hP hP1 (by rw [fo 14 (by decide) (by decide)]; exact h6) (by decide) g2 (by omega) (fun j hj => ⟨by have := (e2 j hj).1; omega, by rw [fo _ (by omega) (by omega)]; exact (e2 j hj).2.1⟩)
      have ls : f_Model_least 123 4 B2 J' = some (nI (lst t2 (P - 1)), B2, J') := LSM hP hP1 (by rw [r112 16 (by decide) (by decide) (by decide)]; exact h16) (fun j hj => ⟨by have := (e2 j hj).1; omega, by rw [ro _ (by decide)]; exact (e2 j hj).2.2⟩)
      have lw := lst_lt (t := t2) (d := d2) (P - 1) (fun j hj => (e2 j (by omega)).1)
      have u30 : B0 112 30 = nI tot := by rw [i3 30 (by decide)]; exact ht2
      have uc : B1 112 28 = nI d2 := by rw [j3 28 (by decide), i3 28 (by decide)]; exact b2
      have u102 : A0 102 2 = nI d2 := by rw [f1 102 (by decide)]; exact a2
      refine ⟨c, nI (d2 + c - lst t2 (P - 1)), A1, B2, q1, q2, rfl, ?_, ?_, ⟨⟨by rw [h102 0 (by decide)]; exact a0, by rw [h102 1 (by decide)]; exact a1, g2⟩, ⟨by rw [r112 24 (by decide) (by decide) (by decide)]; exact b0, by rw [r112 26 (by decide) (by decide) (by decide)]; exact b1, k2⟩, ⟨c0, c1, by omega⟩, fun j hj => ⟨(e0 j hj).1, by rw [fo _ (by omega) (by omega)]; exact (e0 j hj).2.1, by rw [ro _ (by decide)]; exact (e0 j hj).2.2⟩, fun j hj => ⟨(e1 j hj).1, by rw [fo _ (by omega) (by omega)]; exact (e1 j hj).2.1, by rw [ro _ (by decide)]; exact (e1 j hj).2.2⟩, fun j hj => ⟨by have := (e2 j hj).1; omega, by rw [fo _ (by omega) (by omega)]; exact (e2 j hj).2.1, by rw [ro _ (by decide)]; exact (e2 j hj).2.2⟩⟩, by rw [g1 0 (by decide)]; exact f2, by rw [k3 30 (by decide)]; exact j2, fo, fun j hj => by rw [g1 0 (by decide), f3 j hj], ro, r112, by rw [k3 0 (by decide), j3 0 (by decide), i2]; rfl⟩
      · unfold f_Sh_deal; rw [HAS0 h6 (Or.inl (by decide)), if_pos (show nI 0 = 0 from rfl), lv, pl_eq, if_neg (show ¬ nI 2 < 0 by decide), if_pos (show nI 2 < 3 by decide), if_pos (show nI 0 = 0 from rfl), if_neg (by decide), show Int32.toNatClampNeg (nI 2) = 2 from rfl, oc_some, a2, if_neg n3, s2, if_neg m200, ht1, s3, if_pos (nI_le (by omega) (by omega)), nI_add, f0, pl_eq, if_pos (show nI 0 = 0 from rfl), if_neg (by decide), if_neg (by decide), u102, nI_add, g0, pl_eq, ml, oc_some]
      · unfold f_Model_deal; rw [if_neg (show ¬ ((-3) : Int32) < -3 by decide), if_pos (show ((-3) : Int32) < 0 by decide), if_neg n3, if_neg n200, ht2, nI_add, if_neg (show ¬ 3000 < nI (tot + c) from fun y => by have := (nI_ltI (a := 3000) (by omega) (by omega)).mp y; omega), oc_some, if_neg (show ¬ (1 : Int32) = 0 by decide), dl, oc_some, nI_add, if_pos (show nI (d2 + c) ≤ 200 from nI_le (b := 200) (by omega) (by omega)), i0, pl_eq, u30, nI_add, j0, pl_eq, if_pos (by decide), if_pos (by decide), if_neg (by decide), uc, nI_add, k0, pl_eq, ls, oc_some, k2, nI_sb (by omega)]
    · refine Or.inl ⟨?_, ?_⟩
      · unfold f_Sh_deal; rw [HAS0 h6 (Or.inl (by decide)), if_pos (show nI 0 = 0 from rfl), lv, pl_eq, if_neg (show ¬ nI 2 < 0 by decide), if_pos (show nI 2 < 3 by decide), if_pos (show nI 0 = 0 from rfl), if_neg (by decide), show Int32.toNatClampNeg (nI 2) = 2 from rfl, oc_some, a2, if_neg n3, s2, if_neg m200, ht1, s3, if_neg (nI_ge (by omega) (by omega))]
      · unfold f_Model_deal; rw [if_neg (show ¬ ((-3) : Int32) < -3 by decide), if_pos (show ((-3) : Int32) < 0 by decide), if_neg n3, if_neg n200, ht2, nI_add, if_pos (show 3000 < nI (tot + c) from (nI_ltI (a := 3000) (by omega) (by omega)).mpr (by omega)), oc_some, if_pos (show (0 : Int32) = 0 from rfl), RAI, oc_some]
  · refine Or.inl ⟨?_, ?_⟩
    · unfold f_Sh_deal; rw [HAS0 h6 (Or.inl (by decide)), if_pos (show nI 0 = 0 from rfl), lv, pl_eq, if_neg (show ¬ nI 2 < 0 by decide), if_pos (show nI 2 < 3 by decide), if_pos (show nI 0 = 0 from rfl), if_neg (by decide), show Int32.toNatClampNeg (nI 2) = 2 from rfl, oc_some, a2, if_neg n3, s2, if_pos ((nI_ltI (by omega) (by omega)).mpr (by omega))]
    · by_cases q2 : 200 < c
      · unfold f_Model_deal; rw [if_neg (show ¬ ((-3) : Int32) < -3 by decide), if_pos (show ((-3) : Int32) < 0 by decide), if_neg n3, if_pos (show 200 < nI c from (nI_ltI (a := 200) (by omega) (by omega)).mpr q2), oc_some, if_pos (show (0 : Int32) = 0 from rfl), RAI, oc_some]
      · have n200 : ¬ 200 < nI c := fun y => q2 ((nI_ltI (a := 200) (by omega) (by omega)).mp y)
        by_cases q3 : 3000 < tot + c
        · unfold f_Model_deal; rw [if_neg (show ¬ ((-3) : Int32) < -3 by decide), if_pos (show ((-3) : Int32) < 0 by decide), if_neg n3, if_neg n200, ht2, nI_add, if_pos (show 3000 < nI (tot + c) from (nI_ltI (a := 3000) (by omega) (by omega)).mpr q3), oc_some, if_pos (show (0 : Int32) = 0 from rfl), RAI, oc_some]
        · unfold f_Model_deal; rw [if_neg (show ¬ ((-3) : Int32) < -3 by decide), if_pos (show ((-3) : Int32) < 0 by decide), if_neg n3, if_neg n200, ht2, nI_add, if_neg (show ¬ 3000 < nI (tot + c) from fun y => q3 ((nI_ltI (a := 3000) (by omega) (by omega)).mp y)), oc_some, if_neg (show ¬ (1 : Int32) = 0 by decide), dl, oc_some, nI_add, if_neg (show ¬ nI (d2 + c) ≤ 200 from nI_ge (a := 200) (by omega) (by omega)), RAI, oc_some]
end DEAL
