/-! numbers that are given: floorMod and modulo -/
theorem nm_in {z : Int64} (h0 : 0 ≤ z.toInt) : z = lN z.toInt.toNat := by
  apply Int64.toInt_inj.1
  have h1 : z.toInt < 2 ^ 63 := z.toInt_lt
  rw [lx_toInt (by omega)]
  omega
/-- what a long is by the modulus -/
def nmod (v : Int64) : Nat := (v.toInt % 2305843009213693951).toNat
theorem nmod_lt (v : Int64) : nmod v < pP := by
  unfold nmod
  show (v.toInt % 2305843009213693951).toNat < 2305843009213693951
  omega
