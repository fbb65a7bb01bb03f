theorem nm_rem (v : Int64) : (v - v / 2305843009213693951 * 2305843009213693951).toInt = v.toInt.tmod 2305843009213693951 := by
  have hP : (2305843009213693951 : Int64).toInt = 2305843009213693951 := by decide
  have hd : (v / 2305843009213693951).toInt = v.toInt.tdiv 2305843009213693951 := by
    rw [Jvm.Kit.i64_div (by rw [hP]; omega), hP]
  have h1 : v.toInt < 2 ^ 63 := v.toInt_lt
  have h2 : -2 ^ 63 ≤ v.toInt := v.le_toInt
  have hm := Int.tmod_add_mul_tdiv v.toInt 2305843009213693951
  generalize v.toInt.tdiv 2305843009213693951 = q at hd hm
  generalize hr : v.toInt.tmod 2305843009213693951 = r at hm ⊢
  have hs1 : 0 ≤ v.toInt → 0 ≤ r := fun h => by
    rw [← hr]
    exact Int.tmod_nonneg _ h
  have hs2 : v.toInt ≤ 0 → r ≤ 0 := fun h => by
    have := Int.tmod_nonneg 2305843009213693951 (show 0 ≤ -v.toInt by omega)
    rw [Int.neg_tmod, hr] at this
    omega
  have hb : -2305843009213693951 < r ∧ r < 2305843009213693951 := by
    have b1 := Int.tmod_lt_of_pos v.toInt (show (0 : Int) < 2305843009213693951 by decide)
    have b2 := Int.lt_tmod_of_pos v.toInt (show (0 : Int) < 2305843009213693951 by decide)
    rw [hr] at b1 b2
    exact ⟨by omega, by omega⟩
  rw [Int64.toInt_sub, Int64.toInt_mul, hd, hP]
  have e1 : (q * 2305843009213693951).bmod (2 ^ 64) = q * 2305843009213693951 := by
    apply Int.bmod_eq_of_le <;> omega
  rw [e1]
  apply Eq.trans (b := v.toInt - q * 2305843009213693951)
  · apply Int.bmod_eq_of_le <;> omega
  · omega
