/-! longs as naturals; sums and products by 2^61 - 1 -/
theorem lx_and (a b : Nat) : lN a &&& lN b = lN (a &&& b) := by
  apply Int64.toBitVec_inj.1
  show BitVec.ofNat 64 a &&& BitVec.ofNat 64 b = BitVec.ofNat 64 (a &&& b)
  apply BitVec.eq_of_getLsbD_eq
  intro i hi
  simp [hi]
theorem lx_cnt : ∀ j : Fin 64, ((Int32.toInt64 (nI j.val)).toUInt64 &&& Int64.toUInt64 63).toNat % 64 = j.val := by decide +kernel
theorem lx_cnl : ∀ j : Fin 64, ((Int32.toInt64 (nI j.val) &&& 63).toBitVec.smod 64).toNat = j.val := by decide +kernel
theorem lx_ush {n k : Nat} (hn : n < 2 ^ 64) (hk : k < 64) : (Int64.toUInt64 (lN n) >>> (Int64.toUInt64 (Int32.toInt64 (nI k)) &&& Int64.toUInt64 63)).toInt64 = lN (n / 2 ^ k) := by
  have e : UInt64.ofNat n >>> (Int64.toUInt64 (Int32.toInt64 (nI k)) &&& Int64.toUInt64 63) = UInt64.ofNat (n / 2 ^ k) := by
    apply UInt64.toNat_inj.1
    have h1 : (UInt64.ofNat n).toNat = n := Nat.mod_eq_of_lt hn
    have h2 : (UInt64.ofNat (n / 2 ^ k)).toNat = n / 2 ^ k := Nat.mod_eq_of_lt (Nat.lt_of_le_of_lt (Nat.div_le_self _ _) hn)
    rw [UInt64.toNat_shiftRight, lx_cnt ⟨k, hk⟩, h1, h2, Nat.shiftRight_eq_div_pow]
  show (UInt64.ofNat n >>> (Int64.toUInt64 (Int32.toInt64 (nI k)) &&& Int64.toUInt64 63)).toInt64 = _
  rw [e]
  rfl
theorem lx_shl {n k : Nat} (hk : k < 64) : lN n <<< (Int32.toInt64 (nI k) &&& 63) = lN (n * 2 ^ k) := by
  apply Int64.toBitVec_inj.1
  rw [Int64.toBitVec_shiftLeft]
  show BitVec.ofNat 64 n <<< ((Int32.toInt64 (nI k) &&& 63).toBitVec.smod 64).toNat = BitVec.ofNat 64 (n * 2 ^ k)
  rw [lx_cnl ⟨k, hk⟩]
  apply BitVec.eq_of_toNat_eq
  rw [BitVec.toNat_shiftLeft, BitVec.toNat_ofNat, BitVec.toNat_ofNat, Nat.shiftLeft_eq]
  simp [Nat.mod_mul_mod]
theorem lx_toInt {n : Nat} (h : n < 2 ^ 63) : (lN n).toInt = (n : Int) := lg_ofNat_toInt h
theorem lx_lt {a b : Nat} (ha : a < 2 ^ 63) (hb : b < 2 ^ 63) : lN a < lN b ↔ a < b := by
  rw [Int64.lt_iff_toInt_lt, lx_toInt ha, lx_toInt hb]; omega
theorem lx_le {a b : Nat} (ha : a < 2 ^ 63) (hb : b < 2 ^ 63) : lN a ≤ lN b ↔ a ≤ b := by
  rw [Int64.le_iff_toInt_le, lx_toInt ha, lx_toInt hb]; omega
theorem lx_eq {a b : Nat} (ha : a < 2 ^ 63) (hb : b < 2 ^ 63) : lN a = lN b ↔ a = b := by
  rw [← Int64.toInt_inj, lx_toInt ha, lx_toInt hb]; omega
theorem lx_mask {n : Nat} (k : Nat) : lN n &&& lN (2 ^ k - 1) = lN (n % 2 ^ k) := by
  rw [lx_and, Nat.and_two_pow_sub_one_eq_mod]
abbrev pP : Nat := 2305843009213693951
/-- the parts of a product, 2^61 counted as 1 -/
theorem pp_mul (x y : Nat) (hx : x < 2 ^ 61) (hy : y < 2 ^ 61) :
    let hi := x / 2 ^ 31; let lo := x % 2 ^ 31; let hj := y / 2 ^ 31; let lj := y % 2 ^ 31
    let mid := hi * lj + lo * hj
    (2 * hi * hj + mid / 2 ^ 30 + mid % 2 ^ 30 * 2 ^ 31 + lo * lj) % pP = x * y % pP := by
  intro hi lo hj lj mid
  have ex : x = hi * 2 ^ 31 + lo := by show x = x / 2 ^ 31 * 2 ^ 31 + x % 2 ^ 31; omega
  have ey : y = hj * 2 ^ 31 + lj := by show y = y / 2 ^ 31 * 2 ^ 31 + y % 2 ^ 31; omega
  have em : mid = mid / 2 ^ 30 * 2 ^ 30 + mid % 2 ^ 30 := by omega
  have e : x * y = (2 * hi * hj + mid / 2 ^ 30 + mid % 2 ^ 30 * 2 ^ 31 + lo * lj) + pP * (2 * hi * hj + mid / 2 ^ 30) := by
    have e1 : x * y = hi * hj * 2 ^ 62 + mid * 2 ^ 31 + lo * lj := by
      rw [ex, ey]
      show (hi * 2 ^ 31 + lo) * (hj * 2 ^ 31 + lj) = hi * hj * 2 ^ 62 + (hi * lj + lo * hj) * 2 ^ 31 + lo * lj
      have : (hi * 2 ^ 31 + lo) * (hj * 2 ^ 31 + lj) = hi * 2 ^ 31 * (hj * 2 ^ 31) + hi * 2 ^ 31 * lj + (lo * (hj * 2 ^ 31) + lo * lj) := by
        rw [Nat.add_mul, Nat.mul_add, Nat.mul_add]
      rw [this]
      have a1 : hi * 2 ^ 31 * (hj * 2 ^ 31) = hi * hj * 2 ^ 62 := by
        rw [Nat.mul_mul_mul_comm]
      have a2 : hi * 2 ^ 31 * lj = hi * lj * 2 ^ 31 := by rw [Nat.mul_right_comm]
      have a3 : lo * (hj * 2 ^ 31) = lo * hj * 2 ^ 31 := by rw [Nat.mul_assoc]
      rw [a1, a2, a3, Nat.add_mul]
      omega
    have h2 : 2 * hi * hj = 2 * (hi * hj) := Nat.mul_assoc _ _ _
    rw [e1, h2]
    generalize hi * hj = z
    generalize lo * lj = u
    generalize mid / 2 ^ 30 = q at em ⊢
    generalize mid % 2 ^ 30 = r at em ⊢
    rw [em]
    show z * 2 ^ 62 + (q * 2 ^ 30 + r) * 2 ^ 31 + u = 2 * z + q + r * 2 ^ 31 + u + 2305843009213693951 * (2 * z + q)
    omega
  rw [e, Nat.add_mul_mod_self_left]
theorem lx_u30 {n : Nat} (hn : n < 2 ^ 64) : (Int64.toUInt64 (lN n) >>> (Int64.toUInt64 (Int32.toInt64 30) &&& Int64.toUInt64 63)).toInt64 = lN (n / 2 ^ 30) := lx_ush (k := 30) hn (by decide)
theorem lx_u31 {n : Nat} (hn : n < 2 ^ 64) : (Int64.toUInt64 (lN n) >>> (Int64.toUInt64 (Int32.toInt64 31) &&& Int64.toUInt64 63)).toInt64 = lN (n / 2 ^ 31) := lx_ush (k := 31) hn (by decide)
theorem lx_u61 {n : Nat} (hn : n < 2 ^ 64) : (Int64.toUInt64 (lN n) >>> (Int64.toUInt64 (Int32.toInt64 61) &&& Int64.toUInt64 63)).toInt64 = lN (n / 2 ^ 61) := lx_ush (k := 61) hn (by decide)
theorem lx_m30 {n : Nat} : lN n &&& 1073741823 = lN (n % 2 ^ 30) := lx_mask (n := n) 30
theorem lx_m31 {n : Nat} : lN n &&& 2147483647 = lN (n % 2 ^ 31) := lx_mask (n := n) 31
theorem lx_m61 {n : Nat} : lN n &&& 2305843009213693951 = lN (n % 2 ^ 61) := lx_mask (n := n) 61
theorem lx_s31 {n : Nat} : lN n <<< (Int32.toInt64 31 &&& 63) = lN (n * 2 ^ 31) := lx_shl (k := 31) (by decide)
theorem lx_P : (2305843009213693951 : Int64) = lN 2305843009213693951 := rfl
theorem lx_2 : (2 : Int64) = lN 2 := rfl
theorem pp_fold {x : Nat} : (x % 2 ^ 61 + x / 2 ^ 61) % pP = x % pP := by
  have e : x = (x % 2 ^ 61 + x / 2 ^ 61) + pP * (x / 2 ^ 61) := by
    show x = (x % 2 ^ 61 + x / 2 ^ 61) + 2305843009213693951 * (x / 2 ^ 61)
    omega
  have h := Nat.add_mul_mod_self_left (x % 2 ^ 61 + x / 2 ^ 61) pP (x / 2 ^ 61)
  rw [← e] at h
  exact h.symm
theorem q_sub {y : Nat} (h : y < 2 * pP) (I : MI) (J : MJ) : (if (lg_cmp (lN y) 2305843009213693951) < 0 then some (lN y, I, J) else some (lN y - 2305843009213693951, I, J)) = some (lN (y % pP), I, J) := by
  have h0 : y < 2 * 2305843009213693951 := h
  rw [lx_P]
  by_cases q : y < 2305843009213693951
  · rw [if_pos ((lg_cmp_lt _ _).mpr ((lx_lt (by omega) (by omega)).mpr q)), Nat.mod_eq_of_lt q]
  · rw [if_neg (fun z => q ((lx_lt (by omega) (by omega)).mp ((lg_cmp_lt _ _).mp z))), lN_sub (by omega), show y - 2305843009213693951 = y % pP from by show y - 2305843009213693951 = y % 2305843009213693951; omega]
theorem q_plus {n m : Nat} (hn : n < pP) (hm : m < pP) (I : MI) (J : MJ) : f_Sh_plus (lN n) (lN m) I J = some (lN ((n + m) % pP), I, J) := by
  have hn : n < 2305843009213693951 := hn
  have hm : m < 2305843009213693951 := hm
  unfold f_Sh_plus
  simp only [pl_eq]
  rw [lN_add]
  exact q_sub (by show n + m < 2 * 2305843009213693951; omega) I J
theorem q_minus {n m : Nat} (hn : n < pP) (hm : m < pP) (I : MI) (J : MJ) : f_Sh_minus (lN n) (lN m) I J = some (lN ((n + pP - m) % pP), I, J) := by
  have hn : n < 2305843009213693951 := hn
  have hm : m < 2305843009213693951 := hm
  unfold f_Sh_minus
  rw [lx_P]
  by_cases q : n < m
  · rw [if_pos ((lg_cmp_lt _ _).mpr ((lx_lt (by omega) (by omega)).mpr q))]
    have e : lN n - lN m + lN 2305843009213693951 = lN (n + pP - m) := by
      have e1 : lN n + lN 2305843009213693951 - lN m = lN (n + 2305843009213693951 - m) := by rw [lN_add, lN_sub (by omega)]
      rw [show lN (n + pP - m) = lN (n + 2305843009213693951 - m) from rfl, ← e1, Int64.sub_eq_add_neg, Int64.sub_eq_add_neg, Int64.add_assoc, Int64.add_assoc, Int64.add_comm (-lN m)]
    rw [e, show (n + pP - m) % pP = n + pP - m from Nat.mod_eq_of_lt (by show n + 2305843009213693951 - m < 2305843009213693951; omega)]
  · rw [if_neg (fun z => q ((lx_lt (by omega) (by omega)).mp ((lg_cmp_lt _ _).mp z))), lN_sub (by omega), show n - m = (n + pP - m) % pP from by show n - m = (n + 2305843009213693951 - m) % 2305843009213693951; omega]
theorem q_times {n m : Nat} (hn : n < pP) (hm : m < pP) (I : MI) (J : MJ) : f_Sh_times (lN n) (lN m) I J = some (lN (n * m % pP), I, J) := by
  have hn : n < 2305843009213693951 := hn
  have hm : m < 2305843009213693951 := hm
  have hp := pp_mul n m (by omega) (by omega)
  unfold f_Sh_times
  simp only [pl_eq]
  rw [lx_u31 (n := n) (by omega), lx_u31 (n := m) (by omega), lx_m31 (n := n), lx_m31 (n := m)]
  simp only at hp
  generalize e1 : n / 2 ^ 31 = hi at hp ⊢
  generalize e2 : n % 2 ^ 31 = lo at hp ⊢
  generalize e3 : m / 2 ^ 31 = hj at hp ⊢
  generalize e4 : m % 2 ^ 31 = lj at hp ⊢
  have b1 : hi ≤ 2 ^ 30 - 1 := by omega
  have b2 : lo ≤ 2 ^ 31 - 1 := by omega
  have b3 : hj ≤ 2 ^ 30 - 1 := by omega
  have b4 : lj ≤ 2 ^ 31 - 1 := by omega
  have c1 : hi * hj ≤ (2 ^ 30 - 1) * (2 ^ 30 - 1) := Nat.mul_le_mul b1 b3
  have c2 : hi * lj ≤ (2 ^ 30 - 1) * (2 ^ 31 - 1) := Nat.mul_le_mul b1 b4
  have c3 : lo * hj ≤ (2 ^ 31 - 1) * (2 ^ 30 - 1) := Nat.mul_le_mul b2 b3
  have c4 : lo * lj ≤ (2 ^ 31 - 1) * (2 ^ 31 - 1) := Nat.mul_le_mul b2 b4
  rw [lx_2]
  simp only [lN_mul]
  have h2 : 2 * hi * hj = 2 * (hi * hj) := Nat.mul_assoc _ _ _
  rw [h2] at hp ⊢
  generalize hi * hj = A at hp c1 ⊢
  generalize hi * lj = B at hp c2 ⊢
  generalize lo * hj = C at hp c3 ⊢
  generalize lo * lj = D at hp c4 ⊢
  have d1 : B + C < 2 ^ 63 := by omega
  rw [lN_add B C]
  rw [lx_u30 (n := B + C) (by omega), lx_m30, lx_s31, lN_add, lN_add, lx_m61, lx_u61 (n := D) (by omega), lN_add, lN_add]
  have d2 : 2 * A + (B + C) / 2 ^ 30 + (B + C) % 2 ^ 30 * 2 ^ 31 + (D % 2 ^ 61 + D / 2 ^ 61) < 2 ^ 63 := by omega
  have d3 : (2 * A + (B + C) / 2 ^ 30 + (B + C) % 2 ^ 30 * 2 ^ 31 + (D % 2 ^ 61 + D / 2 ^ 61)) % pP = n * m % pP := by
    rw [← hp, Nat.add_mod, pp_fold, ← Nat.add_mod]
  generalize 2 * A + (B + C) / 2 ^ 30 + (B + C) % 2 ^ 30 * 2 ^ 31 + (D % 2 ^ 61 + D / 2 ^ 61) = Z at d2 d3 ⊢
  rw [lx_m61, lx_u61 (n := Z) (by omega), lN_add, q_sub (by show Z % 2 ^ 61 + Z / 2 ^ 61 < 2 * 2305843009213693951; omega), pp_fold, d3]
theorem m_red {n : Nat} (h : n < 2 ^ 63) (I : MI) (J : MJ) : f_Model_reduced (lN n) I J = some (lN (n % pP), I, J) := by
  unfold f_Model_reduced
  simp only [pl_eq]
  rw [lx_m61, lx_u61 (n := n) (by omega), lN_add, q_sub (by show n % 2 ^ 61 + n / 2 ^ 61 < 2 * 2305843009213693951; omega), pp_fold]
theorem m_plus {n m : Nat} (h : n + m < 2 ^ 63) (I : MI) (J : MJ) : f_Model_plus (lN n) (lN m) I J = some (lN ((n + m) % pP), I, J) := by
  unfold f_Model_plus
  rw [lN_add, m_red h]
  rfl
theorem m_minus {n m : Nat} (hn : n < pP) (hm : m < pP) (I : MI) (J : MJ) : f_Model_minus (lN n) (lN m) I J = some (lN ((n + pP - m) % pP), I, J) := by
  have hn : n < 2305843009213693951 := hn
  have hm : m < 2305843009213693951 := hm
  unfold f_Model_minus
  rw [lx_P, lN_add, lN_sub (by omega), m_red (by omega)]
  rfl
theorem md4 (P a b c d : Nat) : (((a % P + b) % P + c % P) % P + d % P) % P = (a + b + c + d) % P := by
  simp [Nat.add_mod]
theorem mt_abs {P : Nat} {I : MI} {J : MJ} {red : Int64 → MI → MJ → M2 Int64} {pls : Int64 → Int64 → MI → MJ → M2 Int64} (hr : ∀ n, n < 2 ^ 63 → red (lN n) I J = some (lN (n % P), I, J)) (hp : ∀ n m, n + m < 2 ^ 63 → pls (lN n) (lN m) I J = some (lN ((n + m) % P), I, J)) (hP : 0 < P) (hP2 : P < 2 ^ 61) {a b c d : Nat} (ha : a < 2 ^ 63) (hb : b < 2 ^ 62) (hc : c < 2 ^ 63) (hd : d < 2 ^ 63) :
    oc (red (lN a) I J) (fun v6 I6 J6 => oc (pls v6 (lN b) I6 J6) (fun v7 I7 J7 => oc (red (lN c) I7 J7) (fun v8 I8 J8 => oc (pls v7 v8 I8 J8) (fun v9 I9 J9 => oc (red (lN d) I9 J9) (fun v10 I10 J10 => oc (pls v9 v10 I10 J10) (fun v11 I11 J11 => some (v11, I11, J11))))))) = some (lN ((a + b + c + d) % P), I, J) := by
  have s1 : ∀ x, x % P < 2 ^ 61 := fun x => Nat.lt_trans (Nat.mod_lt x hP) hP2
  have k1 := s1 a
  have k2 := s1 (a % P + b)
  have k3 := s1 c
  have k4 := s1 ((a % P + b) % P + c % P)
  have k5 := s1 d
  rw [hr a ha]
  show oc (pls (lN (a % P)) (lN b) I J) _ = _
  rw [hp _ _ (by omega)]
  show oc (red (lN c) I J) _ = _
  rw [hr c hc]
  show oc (pls (lN ((a % P + b) % P)) (lN (c % P)) I J) _ = _
  rw [hp _ _ (by omega)]
  show oc (red (lN d) I J) _ = _
  rw [hr d hd]
  show oc (pls (lN (((a % P + b) % P + c % P) % P)) (lN (d % P)) I J) _ = _
  rw [hp _ _ (by omega)]
  show some (lN ((((a % P + b) % P + c % P) % P + d % P) % P), I, J) = _
  rw [md4]
theorem m_times {n m : Nat} (hn : n < pP) (hm : m < pP) (I : MI) (J : MJ) : f_Model_times (lN n) (lN m) I J = some (lN (n * m % pP), I, J) := by
  have hn : n < 2305843009213693951 := hn
  have hm : m < 2305843009213693951 := hm
  have hp := pp_mul n m (by omega) (by omega)
  unfold f_Model_times
  simp only [pl_eq]
  rw [lx_u31 (n := n) (by omega), lx_u31 (n := m) (by omega), lx_m31 (n := n), lx_m31 (n := m)]
  simp only at hp
  generalize e1 : n / 2 ^ 31 = hi at hp ⊢
  generalize e2 : n % 2 ^ 31 = lo at hp ⊢
  generalize e3 : m / 2 ^ 31 = hj at hp ⊢
  generalize e4 : m % 2 ^ 31 = lj at hp ⊢
  have b1 : hi ≤ 2 ^ 30 - 1 := by omega
  have b2 : lo ≤ 2 ^ 31 - 1 := by omega
  have b3 : hj ≤ 2 ^ 30 - 1 := by omega
  have b4 : lj ≤ 2 ^ 31 - 1 := by omega
  have c1 : hi * hj ≤ (2 ^ 30 - 1) * (2 ^ 30 - 1) := Nat.mul_le_mul b1 b3
  have c2 : hi * lj ≤ (2 ^ 30 - 1) * (2 ^ 31 - 1) := Nat.mul_le_mul b1 b4
  have c3 : lo * hj ≤ (2 ^ 31 - 1) * (2 ^ 30 - 1) := Nat.mul_le_mul b2 b3
  have c4 : lo * lj ≤ (2 ^ 31 - 1) * (2 ^ 31 - 1) := Nat.mul_le_mul b2 b4
  rw [lx_2]
  simp only [lN_mul]
  have h2 : 2 * hi * hj = 2 * (hi * hj) := Nat.mul_assoc _ _ _
  rw [h2] at hp ⊢
  generalize hi * hj = A at hp c1 ⊢
  generalize hi * lj = B at hp c2 ⊢
  generalize lo * hj = C at hp c3 ⊢
  generalize lo * lj = D at hp c4 ⊢
  have d1 : B + C < 2 ^ 63 := by omega
  rw [lN_add B C]
  rw [lx_u30 (n := B + C) (by omega), lx_m30, lx_s31]
  refine (mt_abs (P := pP) (red := f_Model_reduced) (pls := f_Model_plus) (fun n h => m_red h I J) (fun n m h => m_plus h I J) (by decide) (by decide) (by omega) (by omega) (by omega) (by omega)).trans ?_
  rw [hp]
