theorem nm_xor (v : Int64) : (0 ≤ lg_cmp (v ^^^ 2305843009213693951) 0) ↔ 0 ≤ v.toInt := by
  have h0 : (0 : Int64).toInt = 0 := by decide
  rw [lg_cmp_ge, Int64.le_iff_toInt_le, h0]
  have e1 : (v ^^^ 2305843009213693951).toBitVec.msb = v.toBitVec.msb := by
    rw [Int64.toBitVec_xor, BitVec.msb_xor]
    have : (2305843009213693951 : Int64).toBitVec.msb = false := by decide
    rw [this, Bool.xor_false]
  rw [BitVec.msb_eq_toInt, BitVec.msb_eq_toInt] at e1
  have e2 := decide_eq_decide.mp e1
  have e3 : (v ^^^ 2305843009213693951).toBitVec.toInt = (v ^^^ 2305843009213693951).toInt := rfl
  have e4 : v.toBitVec.toInt = v.toInt := rfl
  rw [e3, e4] at e2
  omega
theorem mf_fin (v z : Int64) (hz : z.toInt = v.toInt.tmod 2305843009213693951) (I : MI) (J : MJ) : (if 0 ≤ lg_cmp (v ^^^ 2305843009213693951) 0 then some (z, I, J) else if lg_cmp z 0 = 0 then some (z, I, J) else some (z + 2305843009213693951, I, J)) = some (lN (nmod v), I, J) := by
  rw [← mm_fin v z hz I J]
  have h0 : (0 : Int64).toInt = 0 := by decide
  have hs1 : 0 ≤ v.toInt → 0 ≤ z.toInt := fun h => by
    rw [hz]
    exact Int.tmod_nonneg _ h
  have hs2 : v.toInt ≤ 0 → z.toInt ≤ 0 := fun h => by
    have := Int.tmod_nonneg 2305843009213693951 (show 0 ≤ -v.toInt by omega)
    rw [Int.neg_tmod, ← hz] at this
    omega
  by_cases h : 0 ≤ v.toInt
  · rw [if_pos ((nm_xor v).mpr h), if_pos ((lg_cmp_ge z 0).mpr (Int64.le_iff_toInt_le.mpr (by rw [h0]; exact hs1 h)))]
  · rw [if_neg (fun c => h ((nm_xor v).mp c))]
    by_cases q : z = 0
    · rw [if_pos ((lg_cmp_eq z 0).mpr q), if_pos ((lg_cmp_ge z 0).mpr (Int64.le_iff_toInt_le.mpr (by rw [q]; exact Int.le_refl _)))]
    · rw [if_neg (fun c => q ((lg_cmp_eq z 0).mp c)), if_neg (fun c => q (by
        have c1 := Int64.le_iff_toInt_le.mp ((lg_cmp_ge z 0).mp c)
        rw [h0] at c1
        have c2 := hs2 (by omega)
        apply Int64.toInt_inj.1
        rw [h0]
        omega))]
theorem q_number (v : Int64) (I : MI) (J : MJ) : f_Sh_number v I J = some (lN (nmod v), I, J) := by
  unfold f_Sh_number f_Math_floorMod
  rw [if_neg (show ¬ (2305843009213693951 : Int64) = 0 by decide), pl_eq, mf_fin v _ (nm_rem v) I J, oc_some]
/-- byte i of a long -/
def wb (w : Int64) (i : Nat) : Nat := w.toBitVec.toNat / 2 ^ (8 * i) % 256
theorem wb_lt (w : Int64) (i : Nat) : wb w i < 256 := Nat.mod_lt _ (by decide)
theorem sh8 : ∀ i : Fin 8, Int32.toInt64 (8 * nI i.val) = Int32.toInt64 (nI (8 * i.val)) := by decide +kernel
theorem b255 (x : Int32) : x &&& 255 = nI (x.toBitVec.toNat % 256) := by
  apply Int32.toBitVec_inj.1
  rw [Int32.toBitVec_and]
  show x.toBitVec &&& BitVec.ofNat 32 255 = BitVec.ofNat 32 (x.toBitVec.toNat % 256)
  apply BitVec.eq_of_toNat_eq
  rw [BitVec.toNat_and, BitVec.toNat_ofNat, BitVec.toNat_ofNat]
  rw [show 255 % 2 ^ 32 = 2 ^ 8 - 1 by decide, Nat.and_two_pow_sub_one_eq_mod]
  omega
theorem wb_c (w : Int64) {i : Nat} (hi : i < 8) : Int64.toInt32 ((Int64.toUInt64 w >>> (Int64.toUInt64 (Int32.toInt64 (8 * nI i)) &&& Int64.toUInt64 63)).toInt64) &&& 255 = nI (wb w i) := by
  have hw : w = lN w.toBitVec.toNat := by
    apply Int64.toBitVec_inj.1
    show w.toBitVec = BitVec.ofNat 64 w.toBitVec.toNat
    rw [BitVec.ofNat_toNat, BitVec.setWidth_eq]
  rw [sh8 ⟨i, hi⟩]
  show Int64.toInt32 ((Int64.toUInt64 w >>> (Int64.toUInt64 (Int32.toInt64 (nI (8 * i))) &&& Int64.toUInt64 63)).toInt64) &&& 255 = _
  have hl : w.toBitVec.toNat < 2 ^ 64 := w.toBitVec.isLt
  generalize hn : w.toBitVec.toNat = n at hw hl
  unfold wb
  rw [hn, hw, lx_ush hl (by omega), lN_i, b255]
  congr 1
  show (BitVec.ofNat 32 (n / 2 ^ (8 * i))).toNat % 256 = _
  rw [BitVec.toNat_ofNat]
  omega
theorem wb_m (w : Int64) {i : Nat} (hi : i < 8) : Int64.toInt32 ((w >>> (Int32.toInt64 (8 * nI i) &&& 63)) &&& 255) = nI (wb w i) := by
  rw [sh8 ⟨i, hi⟩]
  show Int64.toInt32 ((w >>> (Int32.toInt64 (nI (8 * i)) &&& 63)) &&& 255) = _
  rw [← wb_c w hi, sh8 ⟨i, hi⟩]
  show _ = Int64.toInt32 ((Int64.toUInt64 w >>> (Int64.toUInt64 (Int32.toInt64 (nI (8 * i))) &&& Int64.toUInt64 63)).toInt64) &&& 255
  apply Int32.toBitVec_inj.1
  apply BitVec.eq_of_getLsbD_eq
  intro j hj
  rw [Int32.toBitVec_and, BitVec.getLsbD_and, Int64.toBitVec_toInt32, Int64.toBitVec_toInt32, BitVec.getLsbD_signExtend, BitVec.getLsbD_signExtend, if_pos (show j < 64 by omega), if_pos (show j < 64 by omega), Int64.toBitVec_and, BitVec.getLsbD_and, Int64.toBitVec_shiftRight]
  show (decide (j < 32) && ((w.toBitVec.sshiftRight ((Int32.toInt64 (nI (8 * i)) &&& 63).toBitVec.smod 64).toNat).getLsbD j && (255 : Int64).toBitVec.getLsbD j)) = ((decide (j < 32) && (w.toUInt64 >>> (Int64.toUInt64 (Int32.toInt64 (nI (8 * i))) &&& Int64.toUInt64 63)).toBitVec.getLsbD j) && (255 : Int32).toBitVec.getLsbD j)
  rw [UInt64.toBitVec_shiftRight]
  show _ = ((decide (j < 32) && (w.toBitVec >>> ((Int64.toUInt64 (Int32.toInt64 (nI (8 * i))) &&& Int64.toUInt64 63).toBitVec % 64).toNat).getLsbD j) && (255 : Int32).toBitVec.getLsbD j)
  have e1 : ((Int32.toInt64 (nI (8 * i)) &&& 63).toBitVec.smod 64).toNat = 8 * i := lx_cnl ⟨8 * i, by omega⟩
  have e2 : ((Int64.toUInt64 (Int32.toInt64 (nI (8 * i))) &&& Int64.toUInt64 63).toBitVec % 64).toNat = 8 * i := by
    rw [BitVec.toNat_umod]
    exact lx_cnt ⟨8 * i, by omega⟩
  rw [e1, e2, BitVec.getLsbD_ushiftRight, BitVec.getLsbD_sshiftRight, decide_eq_true (show j < 32 by omega), decide_eq_false (show ¬ 64 ≤ j by omega), Bool.true_and, Bool.true_and, Bool.not_false, Bool.true_and]
  have b1 : ∀ j : Fin 32, (255 : Int64).toBitVec.getLsbD j.val = (255 : Int32).toBitVec.getLsbD j.val := by decide +kernel
  have b2 : ∀ j : Fin 32, 8 ≤ j.val → (255 : Int32).toBitVec.getLsbD j.val = false := by decide +kernel
  rw [b1 ⟨j, hj⟩]
  by_cases q : 8 ≤ j
  · rw [b2 ⟨j, hj⟩ q, Bool.and_false, Bool.and_false]
  · rw [if_pos (show 8 * i + j < 64 by omega)]
