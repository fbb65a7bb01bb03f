/-! The usual rules by which a method's function is reckoned out -/
theorem oe_i {α β γ : Type} {v : α} {f : α → β} {g : γ → β} : oe (.inl v) f g = f v := rfl
theorem oe_j {α β γ : Type} {v : γ} {f : α → β} {g : γ → β} : oe (.inr v) f g = g v := rfl
theorem upd_s (f : Nat → Int32) (k : Nat) (x : Int32) : upd f k x k = x := by simp [upd]
theorem upd_n (f : Nat → Int32) {k j : Nat} (x : Int32) (h : j ≠ k) : upd f k x j = f j := by simp [upd, h]
theorem updL_s (f : Nat → Int64) (k : Nat) (x : Int64) : vp_updL f k x k = x := by simp [vp_updL]
theorem updL_n (f : Nat → Int64) {k j : Nat} (x : Int64) (h : j ≠ k) : vp_updL f k x j = f j := by simp [vp_updL, h]
theorem upd_u (f : Nat → Int32) (k : Nat) (x y : Int32) : upd (upd f k x) k y = upd f k y := by
  funext j
  by_cases h : j = k
  · simp [upd, h]
  · simp [upd, h]
theorem li_n (n : Nat) : (OfNat.ofNat n : Int32) = nI (OfNat.ofNat n) := rfl
theorem nle_F {m k : Nat} (h : k < m) : (m ≤ k) = False := eq_false (by omega)
theorem nle_T {m k : Nat} (h : m ≤ k) : (m ≤ k) = True := eq_true h
theorem nlt_F {m k : Nat} (h : k ≤ m) : (m < k) = False := eq_false (by omega)
theorem nlt_T {m k : Nat} (h : m < k) : (m < k) = True := eq_true h
theorem neq_F {m k : Nat} (h : m ≠ k) : (m = k) = False := eq_false h
theorem neq_T {m k : Nat} (h : m = k) : (m = k) = True := eq_true h
theorem nI_of3 (x : Int32) : x < 0 ∨ ∃ j : Nat, j < 2 ^ 31 ∧ x = nI j := by
  by_cases h : x < 0
  · exact Or.inl h
  · exact Or.inr (nI_of h)
def m1 : Int32 := -1
theorem li_m : (-1 : Int32) = m1 := rfl
theorem m1_i : m1.toInt = -1 := by decide
theorem m1_lt {n : Nat} (h : n < 2 ^ 31) : (m1 < nI n) = True := eq_true (by
  rw [Int32.lt_iff_toInt_lt, nI_toInt h, m1_i]
  omega)
theorem m1_le {n : Nat} (h : n < 2 ^ 31) : (m1 ≤ nI n) = True := eq_true (by
  rw [Int32.le_iff_toInt_le, nI_toInt h, m1_i]
  omega)
theorem m1_gt {n : Nat} (h : n < 2 ^ 31) : (nI n < m1) = False := eq_false (by
  rw [Int32.lt_iff_toInt_lt, nI_toInt h, m1_i]
  omega)
theorem m1_ge {n : Nat} (h : n < 2 ^ 31) : (nI n ≤ m1) = False := eq_false (by
  rw [Int32.le_iff_toInt_le, nI_toInt h, m1_i]
  omega)
theorem m1_ne {n : Nat} (h : n < 2 ^ 31) : (m1 = nI n) = False := eq_false (fun e => by
  have := congrArg Int32.toInt e
  rw [nI_toInt h, m1_i] at this
  omega)
theorem m1_en {n : Nat} (h : n < 2 ^ 31) : (nI n = m1) = False := eq_false (fun e => by
  have := congrArg Int32.toInt e
  rw [nI_toInt h, m1_i] at this
  omega)
theorem m1_ad {n : Nat} (h : 1 ≤ n) : nI n + m1 = nI (n - 1) := by
  obtain ⟨k, rfl⟩ : ∃ k, n = k + 1 := ⟨n - 1, by omega⟩
  exact nI_pd k
theorem gF_lt {k : Nat} (h : k ≤ 900000) : k < gF := Nat.lt_of_le_of_lt h (by decide)
/-- rows of bytes -/
theorem w_at {r b m n k : Nat} {I : MI} {J : MJ} (h : I r 1 = nI n) (hn : n ≤ m) (hm : m < 2 ^ 31) (hk : k < 2 ^ 31) : f_Row_at r b m (nI k) I J = some (if k < n then I b k else m1, I, J) := by
  unfold f_Row_at
  by_cases q : k < n
  · simp (disch := omega) only [↓li_m, oc_some, pl_eq, oe_i, oe_j, va_up_self, va_up_ne, va_up_up, upd_s, upd_n, updL_s, updL_n, nI_add, nI_1, nI_ltI, nI_leI, nI_eq, nI_clamp, li_n, m1_lt, m1_le, m1_gt, m1_ge, m1_ne, m1_en, m1_ad, nle_F, nle_T, nlt_F, nlt_T, neq_F, neq_T, or_self, or_false, false_or, true_or, or_true, and_self, and_false, false_and, true_and, and_true, not_true_eq_false, not_false_eq_true, ↓reduceIte, if_true, if_false, Nat.reduceAdd, ite_self, Bool.false_eq_true, h, q]
  · simp (disch := omega) only [↓li_m, oc_some, pl_eq, oe_i, oe_j, va_up_self, va_up_ne, va_up_up, upd_s, upd_n, updL_s, updL_n, nI_add, nI_1, nI_ltI, nI_leI, nI_eq, nI_clamp, li_n, m1_lt, m1_le, m1_gt, m1_ge, m1_ne, m1_en, m1_ad, nle_F, nle_T, nlt_F, nlt_T, neq_F, neq_T, or_self, or_false, false_or, true_or, or_true, and_self, and_false, false_and, true_and, and_true, not_true_eq_false, not_false_eq_true, ↓reduceIte, if_true, if_false, Nat.reduceAdd, ite_self, Bool.false_eq_true, h, q]
theorem w_add {r b m n : Nat} {v : Int32} {I : MI} {J : MJ} (h : I r 1 = nI n) (hn : n < m) (hm : m < 2 ^ 31) (hr : r ≠ b) : f_Row_add r b m v I J = some ((), va_up (va_up I b (upd (I b) n (v &&& 255))) r (upd (I r) 1 (nI (n + 1))), J) := by
  unfold f_Row_add
  simp (disch := omega) only [↓li_m, oc_some, pl_eq, oe_i, oe_j, va_up_self, va_up_ne, va_up_up, upd_s, upd_n, updL_s, updL_n, nI_add, nI_1, nI_ltI, nI_leI, nI_eq, nI_clamp, li_n, m1_lt, m1_le, m1_gt, m1_ge, m1_ne, m1_en, m1_ad, nle_F, nle_T, nlt_F, nlt_T, neq_F, neq_T, or_self, or_false, false_or, true_or, or_true, and_self, and_false, false_and, true_and, and_true, not_true_eq_false, not_false_eq_true, ↓reduceIte, if_true, if_false, Nat.reduceAdd, ite_self, Bool.false_eq_true, h]
theorem w_chg {r b m n k : Nat} {v : Int32} {I : MI} {J : MJ} (h : I r 1 = nI n) (hn : n ≤ m) (hm : m < 2 ^ 31) (hk : k < n) : f_Row_change r b m (nI k) v I J = some ((), va_up I b (upd (I b) k (v &&& 255)), J) := by
  unfold f_Row_change
  simp (disch := omega) only [↓li_m, oc_some, pl_eq, oe_i, oe_j, va_up_self, va_up_ne, va_up_up, upd_s, upd_n, updL_s, updL_n, nI_add, nI_1, nI_ltI, nI_leI, nI_eq, nI_clamp, li_n, m1_lt, m1_le, m1_gt, m1_ge, m1_ne, m1_en, m1_ad, nle_F, nle_T, nlt_F, nlt_T, neq_F, neq_T, or_self, or_false, false_or, true_or, or_true, and_self, and_false, false_and, true_and, and_true, not_true_eq_false, not_false_eq_true, ↓reduceIte, if_true, if_false, Nat.reduceAdd, ite_self, Bool.false_eq_true, h]
