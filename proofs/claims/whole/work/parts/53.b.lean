theorem mm_fin (v z : Int64) (hz : z.toInt = v.toInt.tmod 2305843009213693951) (I : MI) (J : MJ) : (if 0 ≤ lg_cmp z 0 then some (z, I, J) else some (z + 2305843009213693951, I, J)) = some (lN (nmod v), I, J) := by
  have hm := Int.tmod_add_mul_tdiv v.toInt 2305843009213693951
  have b1 := Int.tmod_lt_of_pos v.toInt (show (0 : Int) < 2305843009213693951 by decide)
  have b2 := Int.lt_tmod_of_pos v.toInt (show (0 : Int) < 2305843009213693951 by decide)
  generalize v.toInt.tdiv 2305843009213693951 = q at hm
  rw [← hz] at hm b1 b2
  have h0 : (0 : Int64).toInt = 0 := by decide
  have hn : (nmod v : Int) = v.toInt % 2305843009213693951 := by
    unfold nmod
    exact Int.toNat_of_nonneg (Int.emod_nonneg _ (by decide))
  by_cases h : 0 ≤ z.toInt
  · rw [if_pos ((lg_cmp_ge z 0).mpr (Int64.le_iff_toInt_le.mpr (by rw [h0]; exact h)))]
    have e : nmod v = z.toInt.toNat := by omega
    rw [e, ← nm_in h]
  · rw [if_neg (fun c => h (by have := Int64.le_iff_toInt_le.mp ((lg_cmp_ge z 0).mp c); rw [h0] at this; exact this))]
    have hP : (2305843009213693951 : Int64).toInt = 2305843009213693951 := by decide
    have e1 : (z + 2305843009213693951).toInt = z.toInt + 2305843009213693951 := by
      rw [Int64.toInt_add, hP]
      apply Int.bmod_eq_of_le <;> omega
    have e : nmod v = (z + 2305843009213693951).toInt.toNat := by
      rw [e1]
      omega
    rw [e, ← nm_in (by rw [e1]; omega)]
theorem m_modulo (v : Int64) (I : MI) (J : MJ) : f_Model_modulo v I J = some (lN (nmod v), I, J) := by
  unfold f_Model_modulo
  rw [pl_eq]
  exact mm_fin v _ (nm_rem v) I J
