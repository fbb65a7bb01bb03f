/-! deal of masks, and deals that are refused, of the class and of the reference -/
section DEAM
variable {P tot a mda mta : Nat} {I I' : MI} {J J' : MJ} {p2 p3 : Int32}
theorem DEAX (h6 : I 14 6 = nI P) (h16 : I' 112 16 = nI P) (h : p2 < 0 ∨ nI P ≤ p2) (hq : (-1 - p2) < 0 ∨ ¬ (-1 - p2) < 3) (hn : p2 < 0 → p2 < -3) : f_Sh_deal p2 p3 I J = some (.inr 0, I, J) ∧ f_Model_deal p2 p3 I' J' = some (0, va_up I' 112 (upd (I' 112) 0 1), J') := by
  refine ⟨?_, ?_⟩
  · unfold f_Sh_deal
    rw [HAS0 h6 h, if_pos (show nI 0 = 0 from rfl), pl_eq]
    by_cases x : (-1 - p2) < 0
    · rw [if_pos x]
    · rw [if_neg x, if_neg (hq.resolve_left x)]
  · unfold f_Model_deal
    by_cases x : p2 < -3
    · rw [if_pos x, oc_oc, ISP0 h16 h, if_pos (show nI 0 = 0 from rfl), oc_some, if_pos (show (0 : Int32) = 0 from rfl), RAI, oc_some]
    · have y : ¬ p2 < 0 := fun z => x (hn z)
      rw [if_neg x, if_neg y, oc_oc, ISP0 h16 h, if_pos (show nI 0 = 0 from rfl), oc_some, if_pos (show (0 : Int32) = 0 from rfl), RAI, oc_some]
theorem DEAP (hP : P ≤ 4) (ha : a < P) (h6 : I 14 6 = nI P) (h16 : I' 112 16 = nI P) (hm1 : mta ≤ mda) (hm2 : mda ≤ 200) (hm3 : I (29 + 21 * a) 4 = nI mda) (hm4 : I (29 + 21 * a) 5 = nI mta) (hm5 : I' 120 a = nI mda) (hm6 : I' 119 a = nI (mda - mta)) (ht1 : I 0 5 = nI tot) (ht2 : I' 112 30 = nI tot) (ht3 : tot ≤ 3000) : (f_Sh_deal (nI a) p3 I J = some (.inr 0, I, J) ∧ f_Model_deal (nI a) p3 I' J' = some (0, va_up I' 112 (upd (I' 112) 0 1), J')) ∨ (∃ c I1 I1', mda + c ≤ 200 ∧ tot + c ≤ 3000 ∧ p3 = nI c ∧ f_Sh_deal (nI a) p3 I J = some (.inl (nI (mda + c - mta)), I1, J) ∧ f_Model_deal (nI a) p3 I' J' = some (nI (mda + c - mta), I1', J') ∧ I1 (29 + 21 * a) 4 = nI (mda + c) ∧ (∀ j, j ≠ 4 → I1 (29 + 21 * a) j = I (29 + 21 * a) j) ∧ I1' 120 a = nI (mda + c) ∧ I1' 119 a = nI (mda + c - mta) ∧ I1 0 5 = nI (tot + c) ∧ I1' 112 30 = nI (tot + c) ∧ (∀ b, b ≠ 0 → b ≠ 29 + 21 * a → I1 b = I b) ∧ (∀ j, j ≠ 5 → I1 0 j = I 0 j) ∧ (∀ b, b ≠ 112 → b ≠ 119 → b ≠ 120 → I1' b = I' b) ∧ (∀ i, i ≠ a → I1' 119 i = I' 119 i ∧ I1' 120 i = I' 120 i) ∧ (∀ j, j ≠ 0 → j ≠ 30 → I1' 112 j = I' 112 j) ∧ I1' 112 0 = nI 0) := by
  have za := nin (show a < 4 by omega) (show 4 < 2 ^ 31 by decide)
  have na : ¬ nI a < 0 := fun y => za (Or.inl y)
  have na3 : ¬ nI a < -3 := fun y => na (Int32.lt_trans y (by decide))
  have w1 : ¬ nI a = -1 := fun y => na (by rw [y]; decide)
  have w2 : ¬ nI a = -2 := fun y => na (by rw [y]; decide)
  have w3 : ¬ nI a = -3 := fun y => na (by rw [y]; decide)
  rcases nI_of3 p3 with e3 | ⟨c, cb, e3⟩
  · refine Or.inl ⟨?_, ?_⟩
    · unfold f_Sh_deal; rw [HAS1 hP h6 ha, if_neg (show ¬ nI 1 = 0 by decide), pl_eq, if_neg (by decide), if_pos (by decide), if_neg (show ¬ nI 1 = 0 by decide), nI_clamp (n := a) (by omega), if_neg za, oc_some, if_pos e3]
    · unfold f_Model_deal; rw [if_neg na3, if_neg na, oc_oc, ISP1 hP h16 ha, if_neg (show ¬ nI 1 = 0 by decide), if_pos e3, oc_some, if_pos (show (0 : Int32) = 0 from rfl), RAI, oc_some]
  have n3 : ¬ p3 < 0 := by rw [e3]; exact fun y => by have := (nI_ltI (b := 0) cb (by omega)).mp y; omega
  subst e3
  have s2 : (200 : Int32) - nI mda = nI (200 - mda) := nI_sb (a := 200) hm2
  have s3 : (3000 : Int32) - nI tot = nI (3000 - tot) := nI_sb (a := 3000) ht3
  have dl : f_Model_dealt (nI a) I' J' = some (nI mda, I', J') := by unfold f_Model_dealt; rw [if_pos w1, if_pos w2, if_pos w3, nI_clamp (n := a) (by omega), if_neg za, hm5]
  by_cases q1 : mda + c ≤ 200
  · have n200 : ¬ 200 < nI c := fun y => by have := (nI_ltI (a := 200) (by omega) (by omega)).mp y; omega
    have m200 : ¬ nI (200 - mda) < nI c := fun y => by have := (nI_ltI (by omega) (by omega)).mp y; omega
    by_cases q2 : tot + c ≤ 3000
    · right
      obtain ⟨A0, f0, f1, f2, f3⟩ := UP1 I 0 5 (nI (tot + c))
      obtain ⟨A1, g0, g1, g2, g3⟩ := UP1 A0 (29 + 21 * a) 4 (nI (mda + c))
      obtain ⟨B0, i0, i1, i2, i3⟩ := UP1 I' 112 0 0
      obtain ⟨B1, j0, j1, j2, j3⟩ := UP1 B0 112 30 (nI (tot + c))
      obtain ⟨B2, k0, k1, k2, k3⟩ := UP1 B1 120 a (nI (mda + c))
      obtain ⟨B3, l0, l1, l2, l3⟩ := UP1 B2 119 a (nI (mda + c - mta))
      have u30 : B0 112 30 = nI tot := by rw [i3 30 (by decide)]; exact ht2
      have u120 : B1 120 a = nI mda := by rw [j1 120 (by decide), i1 120 (by decide)]; exact hm5
      have u119 : B2 119 a = nI (mda - mta) := by rw [k1 119 (by decide), j1 119 (by decide), i1 119 (by decide)]; exact hm6
      have u4 : A0 (29 + 21 * a) 4 = nI mda := by rw [f1 _ (by omega)]; exact hm3
      have u5 : A1 (29 + 21 * a) 5 = nI mta := by rw [g3 5 (by decide), f1 _ (by omega)]; exact hm4
      refine ⟨c, A1, B3, q1, q2, rfl, ?_, ?_, g2, fun j hj => by rw [g3 j hj, f1 _ (by omega)], by rw [l1 120 (by decide)]; exact k2, l2, by rw [g1 0 (by omega)]; exact f2, by rw [l1 112 (by decide), k1 112 (by decide)]; exact j2, fun b x y => by rw [g1 b y, f1 b x], fun j hj => by rw [g1 0 (by omega), f3 j hj], fun b x y z => by rw [l1 b y, k1 b z, j1 b x, i1 b x], fun i hi => ⟨by rw [l3 i hi, k1 119 (by decide), j1 119 (by decide), i1 119 (by decide)], by rw [l1 120 (by decide), k3 i hi, j1 120 (by decide), i1 120 (by decide)]⟩, fun j x y => by rw [l1 112 (by decide), k1 112 (by decide), j3 j y, i3 j x], by rw [l1 112 (by decide), k1 112 (by decide), j3 0 (by decide), i2]; rfl⟩
      · unfold f_Sh_deal f_Stock_masksLeft; rw [HAS1 hP h6 ha, if_neg (show ¬ nI 1 = 0 by decide), pl_eq, if_neg (by decide), if_pos (by decide), if_neg (show ¬ nI 1 = 0 by decide), nI_clamp (n := a) (by omega), if_neg za, oc_some, if_neg n3, hm3, s2, if_neg m200, ht1, s3, if_pos (nI_le (by omega) (by omega)), nI_add, f0, pl_eq, if_neg (show ¬ nI 1 = 0 by decide), if_neg za, u4, nI_add, g0, pl_eq, if_neg za, g2, u5, oc_some, nI_sb (by omega)]
      · unfold f_Model_deal; rw [if_neg na3, if_neg na, oc_oc, ISP1 hP h16 ha, if_neg (show ¬ nI 1 = 0 by decide), if_neg n3, if_neg n200, ht2, nI_add, if_neg (show ¬ 3000 < nI (tot + c) from fun y => by have := (nI_ltI (a := 3000) (by omega) (by omega)).mp y; omega), oc_some, if_neg (show ¬ (1 : Int32) = 0 by decide), dl, oc_some, nI_add, if_pos (show nI (mda + c) ≤ 200 from nI_le (b := 200) (by omega) (by omega)), i0, pl_eq, u30, nI_add, j0, pl_eq, if_pos w1, if_pos w2, if_pos w3, nI_clamp (n := a) (by omega), if_neg za, if_neg za, u120, nI_add, k0, pl_eq, if_neg za, if_neg za, u119, nI_add, show mda - mta + c = mda + c - mta by omega, l0, pl_eq, if_neg za, l2]
    · refine Or.inl ⟨?_, ?_⟩
      · unfold f_Sh_deal; rw [HAS1 hP h6 ha, if_neg (show ¬ nI 1 = 0 by decide), pl_eq, if_neg (by decide), if_pos (by decide), if_neg (show ¬ nI 1 = 0 by decide), nI_clamp (n := a) (by omega), if_neg za, oc_some, if_neg n3, hm3, s2, if_neg m200, ht1, s3, if_neg (nI_ge (by omega) (by omega))]
      · unfold f_Model_deal; rw [if_neg na3, if_neg na, oc_oc, ISP1 hP h16 ha, if_neg (show ¬ nI 1 = 0 by decide), if_neg n3, if_neg n200, ht2, nI_add, if_pos (show 3000 < nI (tot + c) from (nI_ltI (a := 3000) (by omega) (by omega)).mpr (by omega)), oc_some, if_pos (show (0 : Int32) = 0 from rfl), RAI, oc_some]
  · refine Or.inl ⟨?_, ?_⟩
    · unfold f_Sh_deal; rw [HAS1 hP h6 ha, if_neg (show ¬ nI 1 = 0 by decide), pl_eq, if_neg (by decide), if_pos (by decide), if_neg (show ¬ nI 1 = 0 by decide), nI_clamp (n := a) (by omega), if_neg za, oc_some, if_neg n3, hm3, s2, if_pos ((nI_ltI (by omega) (by omega)).mpr (by omega))]
    · unfold f_Model_deal
      rw [if_neg na3, if_neg na, oc_oc, ISP1 hP h16 ha, if_neg (show ¬ nI 1 = 0 by decide), if_neg n3]
      by_cases q2 : 200 < c
      · rw [if_pos (show 200 < nI c from (nI_ltI (a := 200) (by omega) (by omega)).mpr q2), oc_some, if_pos (show (0 : Int32) = 0 from rfl), RAI, oc_some]
      · rw [if_neg (show ¬ 200 < nI c from fun y => q2 ((nI_ltI (a := 200) (by omega) (by omega)).mp y)), ht2, nI_add]
        by_cases q3 : 3000 < tot + c
        · rw [if_pos (show 3000 < nI (tot + c) from (nI_ltI (a := 3000) (by omega) (by omega)).mpr q3), oc_some, if_pos (show (0 : Int32) = 0 from rfl), RAI, oc_some]
        · rw [if_neg (show ¬ 3000 < nI (tot + c) from fun y => q3 ((nI_ltI (a := 3000) (by omega) (by omega)).mp y)), oc_some, if_neg (show ¬ (1 : Int32) = 0 by decide), dl, oc_some, nI_add, if_neg (show ¬ nI (mda + c) ≤ 200 from nI_ge (a := 200) (by omega) (by omega)), RAI, oc_some]
end DEAM
