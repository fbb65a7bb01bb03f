/-! load: lengths, literals, names -/
def t_opl : List Nat := [1, 9, 2, 2, 1, 1, 1, 1, 1, 1, 1, 2, 2, 3, 3, 2, 2, 4, 3, 2, 2, 2, 2, 4, 4, 4, 3, 2, 3, 1]
def opl (c : Nat) : Nat := g_get 0 t_opl c
theorem opl_pos : ∀ c : Fin 30, 1 ≤ opl c.val ∧ opl c.val ≤ 9 := by decide
theorem g_get_big {α : Type} (d : α) : ∀ (l : List α) (n : Nat), l.length ≤ n → g_get d l n = d := by
  intro l
  induction l with
  | nil => intro n _; rfl
  | cons x r ih =>
    intro n h
    obtain ⟨k, rfl⟩ : ∃ k, n = k + 1 := ⟨n - 1, by simp at h; omega⟩
    exact ih k (by simp at h; omega)
theorem opl_big {c : Nat} (h : 30 ≤ c) : opl c = 0 := g_get_big 0 t_opl c h
theorem opl_le (c : Nat) : opl c ≤ 9 := by
  by_cases h : c < 30
  · exact (opl_pos ⟨c, h⟩).2
  · rw [opl_big (by omega)]
    omega
theorem opl_t : ∀ c : Fin 30, g_get 0 t_lengths c.val = nI (opl c.val) := by decide +kernel
theorem q_len (c : Nat) (hc : c < 2 ^ 31) (I : MI) (J : MJ) : f_Sh_lengthOf (nI c) I J = some (nI (opl c), I, J) := by
  unfold f_Sh_lengthOf
  by_cases h : c < 30
  · simp (disch := omega) only [↓li_m, oc_some, pl_eq, oe_i, oe_j, va_up_self, va_up_ne, va_up_up, upd_s, upd_n, updL_s, updL_n, nI_add, nI_1, nI_ltI, nI_leI, nI_eq, nI_clamp, li_n, m1_lt, m1_le, m1_gt, m1_ge, m1_ne, m1_en, m1_ad, nle_F, nle_T, nlt_F, nlt_T, neq_F, neq_T, or_self, or_false, false_or, true_or, or_true, and_self, and_false, false_and, true_and, and_true, not_true_eq_false, not_false_eq_true, ↓reduceIte, if_true, if_false, Nat.reduceAdd, ite_self, Bool.false_eq_true]
    rw [show g_get (nI 0) t_lengths c = nI (opl c) from opl_t ⟨c, h⟩]
  · simp (disch := omega) only [↓li_m, oc_some, pl_eq, oe_i, oe_j, va_up_self, va_up_ne, va_up_up, upd_s, upd_n, updL_s, updL_n, nI_add, nI_1, nI_ltI, nI_leI, nI_eq, nI_clamp, li_n, m1_lt, m1_le, m1_gt, m1_ge, m1_ne, m1_en, m1_ad, nle_F, nle_T, nlt_F, nlt_T, neq_F, neq_T, or_self, or_false, false_or, true_or, or_true, and_self, and_false, false_and, true_and, and_true, not_true_eq_false, not_false_eq_true, ↓reduceIte, if_true, if_false, Nat.reduceAdd, ite_self, Bool.false_eq_true, opl_big (show 30 ≤ c by omega)]
theorem q_lenm (I : MI) (J : MJ) : f_Sh_lengthOf m1 I J = some (nI 0, I, J) := by
  unfold f_Sh_lengthOf
  rw [if_pos (show m1 < 0 by decide)]
  rfl
theorem c30 {c : Nat} (h : c ≤ 29) : c = 0 ∨ c = 1 ∨ c = 2 ∨ c = 3 ∨ c = 4 ∨ c = 5 ∨ c = 6 ∨ c = 7 ∨ c = 8 ∨ c = 9 ∨ c = 10 ∨ c = 11 ∨ c = 12 ∨ c = 13 ∨ c = 14 ∨ c = 15 ∨ c = 16 ∨ c = 17 ∨ c = 18 ∨ c = 19 ∨ c = 20 ∨ c = 21 ∨ c = 22 ∨ c = 23 ∨ c = 24 ∨ c = 25 ∨ c = 26 ∨ c = 27 ∨ c = 28 ∨ c = 29 := by omega
theorem m_len {c : Nat} (hc : c ≤ 29) (I : MI) (J : MJ) : f_Model_longOf (nI c) I J = some (nI (opl c), I, J) := by
  unfold f_Model_longOf
  rcases c30 hc with rfl | rfl | rfl | rfl | rfl | rfl | rfl | rfl | rfl | rfl | rfl | rfl | rfl | rfl | rfl | rfl | rfl | rfl | rfl | rfl | rfl | rfl | rfl | rfl | rfl | rfl | rfl | rfl | rfl | rfl

  · simp (disch := omega) only [↓li_m, oc_some, pl_eq, oe_i, oe_j, va_up_self, va_up_ne, va_up_up, upd_s, upd_n, updL_s, updL_n, nI_add, nI_1, nI_ltI, nI_leI, nI_eq, nI_clamp, li_n, m1_lt, m1_le, m1_gt, m1_ge, m1_ne, m1_en, m1_ad, nle_F, nle_T, nlt_F, nlt_T, neq_F, neq_T, or_self, or_false, false_or, true_or, or_true, and_self, and_false, false_and, true_and, and_true, not_true_eq_false, not_false_eq_true, ↓reduceIte, if_true, if_false, Nat.reduceAdd, ite_self, Bool.false_eq_true, show opl 0 = 1 from rfl]
  · simp (disch := omega) only [↓li_m, oc_some, pl_eq, oe_i, oe_j, va_up_self, va_up_ne, va_up_up, upd_s, upd_n, updL_s, updL_n, nI_add, nI_1, nI_ltI, nI_leI, nI_eq, nI_clamp, li_n, m1_lt, m1_le, m1_gt, m1_ge, m1_ne, m1_en, m1_ad, nle_F, nle_T, nlt_F, nlt_T, neq_F, neq_T, or_self, or_false, false_or, true_or, or_true, and_self, and_false, false_and, true_and, and_true, not_true_eq_false, not_false_eq_true, ↓reduceIte, if_true, if_false, Nat.reduceAdd, ite_self, Bool.false_eq_true, show opl 1 = 9 from rfl]
  · simp (disch := omega) only [↓li_m, oc_some, pl_eq, oe_i, oe_j, va_up_self, va_up_ne, va_up_up, upd_s, upd_n, updL_s, updL_n, nI_add, nI_1, nI_ltI, nI_leI, nI_eq, nI_clamp, li_n, m1_lt, m1_le, m1_gt, m1_ge, m1_ne, m1_en, m1_ad, nle_F, nle_T, nlt_F, nlt_T, neq_F, neq_T, or_self, or_false, false_or, true_or, or_true, and_self, and_false, false_and, true_and, and_true, not_true_eq_false, not_false_eq_true, ↓reduceIte, if_true, if_false, Nat.reduceAdd, ite_self, Bool.false_eq_true, show opl 2 = 2 from rfl]
  · simp (disch := omega) only [↓li_m, oc_some, pl_eq, oe_i, oe_j, va_up_self, va_up_ne, va_up_up, upd_s, upd_n, updL_s, updL_n, nI_add, nI_1, nI_ltI, nI_leI, nI_eq, nI_clamp, li_n, m1_lt, m1_le, m1_gt, m1_ge, m1_ne, m1_en, m1_ad, nle_F, nle_T, nlt_F, nlt_T, neq_F, neq_T, or_self, or_false, false_or, true_or, or_true, and_self, and_false, false_and, true_and, and_true, not_true_eq_false, not_false_eq_true, ↓reduceIte, if_true, if_false, Nat.reduceAdd, ite_self, Bool.false_eq_true, show opl 3 = 2 from rfl]
  · simp (disch := omega) only [↓li_m, oc_some, pl_eq, oe_i, oe_j, va_up_self, va_up_ne, va_up_up, upd_s, upd_n, updL_s, updL_n, nI_add, nI_1, nI_ltI, nI_leI, nI_eq, nI_clamp, li_n, m1_lt, m1_le, m1_gt, m1_ge, m1_ne, m1_en, m1_ad, nle_F, nle_T, nlt_F, nlt_T, neq_F, neq_T, or_self, or_false, false_or, true_or, or_true, and_self, and_false, false_and, true_and, and_true, not_true_eq_false, not_false_eq_true, ↓reduceIte, if_true, if_false, Nat.reduceAdd, ite_self, Bool.false_eq_true, show opl 4 = 1 from rfl]
  · simp (disch := omega) only [↓li_m, oc_some, pl_eq, oe_i, oe_j, va_up_self, va_up_ne, va_up_up, upd_s, upd_n, updL_s, updL_n, nI_add, nI_1, nI_ltI, nI_leI, nI_eq, nI_clamp, li_n, m1_lt, m1_le, m1_gt, m1_ge, m1_ne, m1_en, m1_ad, nle_F, nle_T, nlt_F, nlt_T, neq_F, neq_T, or_self, or_false, false_or, true_or, or_true, and_self, and_false, false_and, true_and, and_true, not_true_eq_false, not_false_eq_true, ↓reduceIte, if_true, if_false, Nat.reduceAdd, ite_self, Bool.false_eq_true, show opl 5 = 1 from rfl]
  · simp (disch := omega) only [↓li_m, oc_some, pl_eq, oe_i, oe_j, va_up_self, va_up_ne, va_up_up, upd_s, upd_n, updL_s, updL_n, nI_add, nI_1, nI_ltI, nI_leI, nI_eq, nI_clamp, li_n, m1_lt, m1_le, m1_gt, m1_ge, m1_ne, m1_en, m1_ad, nle_F, nle_T, nlt_F, nlt_T, neq_F, neq_T, or_self, or_false, false_or, true_or, or_true, and_self, and_false, false_and, true_and, and_true, not_true_eq_false, not_false_eq_true, ↓reduceIte, if_true, if_false, Nat.reduceAdd, ite_self, Bool.false_eq_true, show opl 6 = 1 from rfl]
  · simp (disch := omega) only [↓li_m, oc_some, pl_eq, oe_i, oe_j, va_up_self, va_up_ne, va_up_up, upd_s, upd_n, updL_s, updL_n, nI_add, nI_1, nI_ltI, nI_leI, nI_eq, nI_clamp, li_n, m1_lt, m1_le, m1_gt, m1_ge, m1_ne, m1_en, m1_ad, nle_F, nle_T, nlt_F, nlt_T, neq_F, neq_T, or_self, or_false, false_or, true_or, or_true, and_self, and_false, false_and, true_and, and_true, not_true_eq_false, not_false_eq_true, ↓reduceIte, if_true, if_false, Nat.reduceAdd, ite_self, Bool.false_eq_true, show opl 7 = 1 from rfl]
  · simp (disch := omega) only [↓li_m, oc_some, pl_eq, oe_i, oe_j, va_up_self, va_up_ne, va_up_up, upd_s, upd_n, updL_s, updL_n, nI_add, nI_1, nI_ltI, nI_leI, nI_eq, nI_clamp, li_n, m1_lt, m1_le, m1_gt, m1_ge, m1_ne, m1_en, m1_ad, nle_F, nle_T, nlt_F, nlt_T, neq_F, neq_T, or_self, or_false, false_or, true_or, or_true, and_self, and_false, false_and, true_and, and_true, not_true_eq_false, not_false_eq_true, ↓reduceIte, if_true, if_false, Nat.reduceAdd, ite_self, Bool.false_eq_true, show opl 8 = 1 from rfl]
  · simp (disch := omega) only [↓li_m, oc_some, pl_eq, oe_i, oe_j, va_up_self, va_up_ne, va_up_up, upd_s, upd_n, updL_s, updL_n, nI_add, nI_1, nI_ltI, nI_leI, nI_eq, nI_clamp, li_n, m1_lt, m1_le, m1_gt, m1_ge, m1_ne, m1_en, m1_ad, nle_F, nle_T, nlt_F, nlt_T, neq_F, neq_T, or_self, or_false, false_or, true_or, or_true, and_self, and_false, false_and, true_and, and_true, not_true_eq_false, not_false_eq_true, ↓reduceIte, if_true, if_false, Nat.reduceAdd, ite_self, Bool.false_eq_true, show opl 9 = 1 from rfl]
  · simp (disch := omega) only [↓li_m, oc_some, pl_eq, oe_i, oe_j, va_up_self, va_up_ne, va_up_up, upd_s, upd_n, updL_s, updL_n, nI_add, nI_1, nI_ltI, nI_leI, nI_eq, nI_clamp, li_n, m1_lt, m1_le, m1_gt, m1_ge, m1_ne, m1_en, m1_ad, nle_F, nle_T, nlt_F, nlt_T, neq_F, neq_T, or_self, or_false, false_or, true_or, or_true, and_self, and_false, false_and, true_and, and_true, not_true_eq_false, not_false_eq_true, ↓reduceIte, if_true, if_false, Nat.reduceAdd, ite_self, Bool.false_eq_true, show opl 10 = 1 from rfl]
  · simp (disch := omega) only [↓li_m, oc_some, pl_eq, oe_i, oe_j, va_up_self, va_up_ne, va_up_up, upd_s, upd_n, updL_s, updL_n, nI_add, nI_1, nI_ltI, nI_leI, nI_eq, nI_clamp, li_n, m1_lt, m1_le, m1_gt, m1_ge, m1_ne, m1_en, m1_ad, nle_F, nle_T, nlt_F, nlt_T, neq_F, neq_T, or_self, or_false, false_or, true_or, or_true, and_self, and_false, false_and, true_and, and_true, not_true_eq_false, not_false_eq_true, ↓reduceIte, if_true, if_false, Nat.reduceAdd, ite_self, Bool.false_eq_true, show opl 11 = 2 from rfl]
  · simp (disch := omega) only [↓li_m, oc_some, pl_eq, oe_i, oe_j, va_up_self, va_up_ne, va_up_up, upd_s, upd_n, updL_s, updL_n, nI_add, nI_1, nI_ltI, nI_leI, nI_eq, nI_clamp, li_n, m1_lt, m1_le, m1_gt, m1_ge, m1_ne, m1_en, m1_ad, nle_F, nle_T, nlt_F, nlt_T, neq_F, neq_T, or_self, or_false, false_or, true_or, or_true, and_self, and_false, false_and, true_and, and_true, not_true_eq_false, not_false_eq_true, ↓reduceIte, if_true, if_false, Nat.reduceAdd, ite_self, Bool.false_eq_true, show opl 12 = 2 from rfl]
  · simp (disch := omega) only [↓li_m, oc_some, pl_eq, oe_i, oe_j, va_up_self, va_up_ne, va_up_up, upd_s, upd_n, updL_s, updL_n, nI_add, nI_1, nI_ltI, nI_leI, nI_eq, nI_clamp, li_n, m1_lt, m1_le, m1_gt, m1_ge, m1_ne, m1_en, m1_ad, nle_F, nle_T, nlt_F, nlt_T, neq_F, neq_T, or_self, or_false, false_or, true_or, or_true, and_self, and_false, false_and, true_and, and_true, not_true_eq_false, not_false_eq_true, ↓reduceIte, if_true, if_false, Nat.reduceAdd, ite_self, Bool.false_eq_true, show opl 13 = 3 from rfl]
  · simp (disch := omega) only [↓li_m, oc_some, pl_eq, oe_i, oe_j, va_up_self, va_up_ne, va_up_up, upd_s, upd_n, updL_s, updL_n, nI_add, nI_1, nI_ltI, nI_leI, nI_eq, nI_clamp, li_n, m1_lt, m1_le, m1_gt, m1_ge, m1_ne, m1_en, m1_ad, nle_F, nle_T, nlt_F, nlt_T, neq_F, neq_T, or_self, or_false, false_or, true_or, or_true, and_self, and_false, false_and, true_and, and_true, not_true_eq_false, not_false_eq_true, ↓reduceIte, if_true, if_false, Nat.reduceAdd, ite_self, Bool.false_eq_true, show opl 14 = 3 from rfl]
  · simp (disch := omega) only [↓li_m, oc_some, pl_eq, oe_i, oe_j, va_up_self, va_up_ne, va_up_up, upd_s, upd_n, updL_s, updL_n, nI_add, nI_1, nI_ltI, nI_leI, nI_eq, nI_clamp, li_n, m1_lt, m1_le, m1_gt, m1_ge, m1_ne, m1_en, m1_ad, nle_F, nle_T, nlt_F, nlt_T, neq_F, neq_T, or_self, or_false, false_or, true_or, or_true, and_self, and_false, false_and, true_and, and_true, not_true_eq_false, not_false_eq_true, ↓reduceIte, if_true, if_false, Nat.reduceAdd, ite_self, Bool.false_eq_true, show opl 15 = 2 from rfl]
  · simp (disch := omega) only [↓li_m, oc_some, pl_eq, oe_i, oe_j, va_up_self, va_up_ne, va_up_up, upd_s, upd_n, updL_s, updL_n, nI_add, nI_1, nI_ltI, nI_leI, nI_eq, nI_clamp, li_n, m1_lt, m1_le, m1_gt, m1_ge, m1_ne, m1_en, m1_ad, nle_F, nle_T, nlt_F, nlt_T, neq_F, neq_T, or_self, or_false, false_or, true_or, or_true, and_self, and_false, false_and, true_and, and_true, not_true_eq_false, not_false_eq_true, ↓reduceIte, if_true, if_false, Nat.reduceAdd, ite_self, Bool.false_eq_true, show opl 16 = 2 from rfl]
  · simp (disch := omega) only [↓li_m, oc_some, pl_eq, oe_i, oe_j, va_up_self, va_up_ne, va_up_up, upd_s, upd_n, updL_s, updL_n, nI_add, nI_1, nI_ltI, nI_leI, nI_eq, nI_clamp, li_n, m1_lt, m1_le, m1_gt, m1_ge, m1_ne, m1_en, m1_ad, nle_F, nle_T, nlt_F, nlt_T, neq_F, neq_T, or_self, or_false, false_or, true_or, or_true, and_self, and_false, false_and, true_and, and_true, not_true_eq_false, not_false_eq_true, ↓reduceIte, if_true, if_false, Nat.reduceAdd, ite_self, Bool.false_eq_true, show opl 17 = 4 from rfl]
  · simp (disch := omega) only [↓li_m, oc_some, pl_eq, oe_i, oe_j, va_up_self, va_up_ne, va_up_up, upd_s, upd_n, updL_s, updL_n, nI_add, nI_1, nI_ltI, nI_leI, nI_eq, nI_clamp, li_n, m1_lt, m1_le, m1_gt, m1_ge, m1_ne, m1_en, m1_ad, nle_F, nle_T, nlt_F, nlt_T, neq_F, neq_T, or_self, or_false, false_or, true_or, or_true, and_self, and_false, false_and, true_and, and_true, not_true_eq_false, not_false_eq_true, ↓reduceIte, if_true, if_false, Nat.reduceAdd, ite_self, Bool.false_eq_true, show opl 18 = 3 from rfl]
  · simp (disch := omega) only [↓li_m, oc_some, pl_eq, oe_i, oe_j, va_up_self, va_up_ne, va_up_up, upd_s, upd_n, updL_s, updL_n, nI_add, nI_1, nI_ltI, nI_leI, nI_eq, nI_clamp, li_n, m1_lt, m1_le, m1_gt, m1_ge, m1_ne, m1_en, m1_ad, nle_F, nle_T, nlt_F, nlt_T, neq_F, neq_T, or_self, or_false, false_or, true_or, or_true, and_self, and_false, false_and, true_and, and_true, not_true_eq_false, not_false_eq_true, ↓reduceIte, if_true, if_false, Nat.reduceAdd, ite_self, Bool.false_eq_true, show opl 19 = 2 from rfl]
  · simp (disch := omega) only [↓li_m, oc_some, pl_eq, oe_i, oe_j, va_up_self, va_up_ne, va_up_up, upd_s, upd_n, updL_s, updL_n, nI_add, nI_1, nI_ltI, nI_leI, nI_eq, nI_clamp, li_n, m1_lt, m1_le, m1_gt, m1_ge, m1_ne, m1_en, m1_ad, nle_F, nle_T, nlt_F, nlt_T, neq_F, neq_T, or_self, or_false, false_or, true_or, or_true, and_self, and_false, false_and, true_and, and_true, not_true_eq_false, not_false_eq_true, ↓reduceIte, if_true, if_false, Nat.reduceAdd, ite_self, Bool.false_eq_true, show opl 20 = 2 from rfl]
  · simp (disch := omega) only [↓li_m, oc_some, pl_eq, oe_i, oe_j, va_up_self, va_up_ne, va_up_up, upd_s, upd_n, updL_s, updL_n, nI_add, nI_1, nI_ltI, nI_leI, nI_eq, nI_clamp, li_n, m1_lt, m1_le, m1_gt, m1_ge, m1_ne, m1_en, m1_ad, nle_F, nle_T, nlt_F, nlt_T, neq_F, neq_T, or_self, or_false, false_or, true_or, or_true, and_self, and_false, false_and, true_and, and_true, not_true_eq_false, not_false_eq_true, ↓reduceIte, if_true, if_false, Nat.reduceAdd, ite_self, Bool.false_eq_true, show opl 21 = 2 from rfl]
  · simp (disch := omega) only [↓li_m, oc_some, pl_eq, oe_i, oe_j, va_up_self, va_up_ne, va_up_up, upd_s, upd_n, updL_s, updL_n, nI_add, nI_1, nI_ltI, nI_leI, nI_eq, nI_clamp, li_n, m1_lt, m1_le, m1_gt, m1_ge, m1_ne, m1_en, m1_ad, nle_F, nle_T, nlt_F, nlt_T, neq_F, neq_T, or_self, or_false, false_or, true_or, or_true, and_self, and_false, false_and, true_and, and_true, not_true_eq_false, not_false_eq_true, ↓reduceIte, if_true, if_false, Nat.reduceAdd, ite_self, Bool.false_eq_true, show opl 22 = 2 from rfl]
  · simp (disch := omega) only [↓li_m, oc_some, pl_eq, oe_i, oe_j, va_up_self, va_up_ne, va_up_up, upd_s, upd_n, updL_s, updL_n, nI_add, nI_1, nI_ltI, nI_leI, nI_eq, nI_clamp, li_n, m1_lt, m1_le, m1_gt, m1_ge, m1_ne, m1_en, m1_ad, nle_F, nle_T, nlt_F, nlt_T, neq_F, neq_T, or_self, or_false, false_or, true_or, or_true, and_self, and_false, false_and, true_and, and_true, not_true_eq_false, not_false_eq_true, ↓reduceIte, if_true, if_false, Nat.reduceAdd, ite_self, Bool.false_eq_true, show opl 23 = 4 from rfl]
  · simp (disch := omega) only [↓li_m, oc_some, pl_eq, oe_i, oe_j, va_up_self, va_up_ne, va_up_up, upd_s, upd_n, updL_s, updL_n, nI_add, nI_1, nI_ltI, nI_leI, nI_eq, nI_clamp, li_n, m1_lt, m1_le, m1_gt, m1_ge, m1_ne, m1_en, m1_ad, nle_F, nle_T, nlt_F, nlt_T, neq_F, neq_T, or_self, or_false, false_or, true_or, or_true, and_self, and_false, false_and, true_and, and_true, not_true_eq_false, not_false_eq_true, ↓reduceIte, if_true, if_false, Nat.reduceAdd, ite_self, Bool.false_eq_true, show opl 24 = 4 from rfl]
  · simp (disch := omega) only [↓li_m, oc_some, pl_eq, oe_i, oe_j, va_up_self, va_up_ne, va_up_up, upd_s, upd_n, updL_s, updL_n, nI_add, nI_1, nI_ltI, nI_leI, nI_eq, nI_clamp, li_n, m1_lt, m1_le, m1_gt, m1_ge, m1_ne, m1_en, m1_ad, nle_F, nle_T, nlt_F, nlt_T, neq_F, neq_T, or_self, or_false, false_or, true_or, or_true, and_self, and_false, false_and, true_and, and_true, not_true_eq_false, not_false_eq_true, ↓reduceIte, if_true, if_false, Nat.reduceAdd, ite_self, Bool.false_eq_true, show opl 25 = 4 from rfl]
  · simp (disch := omega) only [↓li_m, oc_some, pl_eq, oe_i, oe_j, va_up_self, va_up_ne, va_up_up, upd_s, upd_n, updL_s, updL_n, nI_add, nI_1, nI_ltI, nI_leI, nI_eq, nI_clamp, li_n, m1_lt, m1_le, m1_gt, m1_ge, m1_ne, m1_en, m1_ad, nle_F, nle_T, nlt_F, nlt_T, neq_F, neq_T, or_self, or_false, false_or, true_or, or_true, and_self, and_false, false_and, true_and, and_true, not_true_eq_false, not_false_eq_true, ↓reduceIte, if_true, if_false, Nat.reduceAdd, ite_self, Bool.false_eq_true, show opl 26 = 3 from rfl]
  · simp (disch := omega) only [↓li_m, oc_some, pl_eq, oe_i, oe_j, va_up_self, va_up_ne, va_up_up, upd_s, upd_n, updL_s, updL_n, nI_add, nI_1, nI_ltI, nI_leI, nI_eq, nI_clamp, li_n, m1_lt, m1_le, m1_gt, m1_ge, m1_ne, m1_en, m1_ad, nle_F, nle_T, nlt_F, nlt_T, neq_F, neq_T, or_self, or_false, false_or, true_or, or_true, and_self, and_false, false_and, true_and, and_true, not_true_eq_false, not_false_eq_true, ↓reduceIte, if_true, if_false, Nat.reduceAdd, ite_self, Bool.false_eq_true, show opl 27 = 2 from rfl]
  · simp (disch := omega) only [↓li_m, oc_some, pl_eq, oe_i, oe_j, va_up_self, va_up_ne, va_up_up, upd_s, upd_n, updL_s, updL_n, nI_add, nI_1, nI_ltI, nI_leI, nI_eq, nI_clamp, li_n, m1_lt, m1_le, m1_gt, m1_ge, m1_ne, m1_en, m1_ad, nle_F, nle_T, nlt_F, nlt_T, neq_F, neq_T, or_self, or_false, false_or, true_or, or_true, and_self, and_false, false_and, true_and, and_true, not_true_eq_false, not_false_eq_true, ↓reduceIte, if_true, if_false, Nat.reduceAdd, ite_self, Bool.false_eq_true, show opl 28 = 3 from rfl]
  · simp (disch := omega) only [↓li_m, oc_some, pl_eq, oe_i, oe_j, va_up_self, va_up_ne, va_up_up, upd_s, upd_n, updL_s, updL_n, nI_add, nI_1, nI_ltI, nI_leI, nI_eq, nI_clamp, li_n, m1_lt, m1_le, m1_gt, m1_ge, m1_ne, m1_en, m1_ad, nle_F, nle_T, nlt_F, nlt_T, neq_F, neq_T, or_self, or_false, false_or, true_or, or_true, and_self, and_false, false_and, true_and, and_true, not_true_eq_false, not_false_eq_true, ↓reduceIte, if_true, if_false, Nat.reduceAdd, ite_self, Bool.false_eq_true, show opl 29 = 1 from rfl]
/-- eight bytes, the first one first -/
def litn (cd : Nat → Nat) (k : Nat) : Nat → Nat → Nat
  | 0, v => v
  | i + 1, v => litn cd (k + 1) i (v * 256 + cd k)
def lit (cd : Nat → Nat) (k : Nat) : Nat := litn cd k 8 0
theorem lx_or (a b : Nat) : lN a ||| lN b = lN (a ||| b) := by
  apply Int64.toBitVec_inj.1
  show BitVec.ofNat 64 a ||| BitVec.ofNat 64 b = BitVec.ofNat 64 (a ||| b)
  apply BitVec.eq_of_getLsbD_eq
  intro i hi
  simp [hi]
theorem lx_8 {v c : Nat} (hc : c < 256) : (lN v <<< (Int32.toInt64 8 &&& 63)) ||| lN c = lN (v * 256 + c) := by
  rw [show lN v <<< (Int32.toInt64 8 &&& 63) = lN (v * 2 ^ 8) from lx_shl (k := 8) (by decide), lx_or]
  congr 1
  rw [Nat.mul_comm, ← Nat.two_pow_add_eq_or_of_lt (show c < 2 ^ 8 by omega)]
theorem b255n {c : Nat} (h : c < 256) : nI c &&& 255 = nI c := by
  rw [b255]
  congr 1
  show (BitVec.ofNat 32 c).toNat % 256 = c
  rw [BitVec.toNat_ofNat]
  omega
theorem w_lit {r b m n : Nat} {cd : Nat → Nat} {I : MI} {J : MJ} (h : I r 1 = nI n) (hn : n ≤ m) (hm : m < 2 ^ 30) (hb : ∀ k, k < n → cd k < 256 ∧ I b k = nI (cd k)) {p2 : Int32} : ∀ (i fu k j v : Nat), j + i = 8 → k + 8 ≤ n → i < fu → f_Row_longAt_5 r b m p2 fu (nI k) (lN v) (nI j) I J = some (lN (litn cd (k + j) i v), I, J) := by
  intro i
  induction i with
  | zero =>
    intro fu k j v h1 h2 h3
    obtain ⟨f, rfl⟩ : ∃ f, fu = f + 1 := ⟨fu - 1, by omega⟩
    rw [f_Row_longAt_5]
    simp (disch := omega) only [↓li_m, oc_some, pl_eq, oe_i, oe_j, va_up_self, va_up_ne, va_up_up, upd_s, upd_n, updL_s, updL_n, nI_add, nI_1, nI_ltI, nI_leI, nI_eq, nI_clamp, li_n, m1_lt, m1_le, m1_gt, m1_ge, m1_ne, m1_en, m1_ad, nle_F, nle_T, nlt_F, nlt_T, neq_F, neq_T, or_self, or_false, false_or, true_or, or_true, and_self, and_false, false_and, true_and, and_true, not_true_eq_false, not_false_eq_true, ↓reduceIte, if_true, if_false, Nat.reduceAdd, ite_self, Bool.false_eq_true, litn]
  | succ i ih =>
    intro fu k j v h1 h2 h3
    obtain ⟨f, rfl⟩ : ∃ f, fu = f + 1 := ⟨fu - 1, by omega⟩
    have hc := hb (k + j) (by omega)
    rw [f_Row_longAt_5, nI_add, w_at h hn (by omega) (by omega), if_pos (show k + j < n by omega), hc.2, oc_some, pl_eq, b255n hc.1, nI_l (by omega), lx_8 hc.1, nI_1, ih f k (j + 1) _ (by omega) h2 (by omega), if_neg (show ¬ (8 : Int32) ≤ nI j from nI_ge (b := 8) (by omega) (by decide))]
    rfl
theorem w_long {r b m n k : Nat} {cd : Nat → Nat} {I : MI} {J : MJ} (h : I r 1 = nI n) (hn : n ≤ m) (hm : m < 2 ^ 30) (hb : ∀ k, k < n → cd k < 256 ∧ I b k = nI (cd k)) (hk : k + 8 ≤ n) : f_Row_longAt r b m (nI k) I J = some (lN (lit cd k), I, J) := by
  unfold f_Row_longAt
  have e := w_lit (J := J) h hn hm hb (p2 := nI k) 8 gF k 0 0 (by omega) hk (gF_lt (by omega))
  rw [show (0 : Int64) = lN 0 from rfl, show (0 : Int32) = nI 0 from rfl, e, oc_some]
  rfl
theorem m_lit {n : Nat} {cd : Nat → Nat} {I : MI} {J : MJ} (hn : n ≤ 2000) (hb : ∀ k, k < n → cd k < 256 ∧ I 116 k = nI (cd k)) {p2 : Int32} : ∀ (i fu k j v : Nat), j + i = 9 → k + 9 ≤ n → i < fu → f_Model_isGood_222 p2 fu (nI k) (lN v) (nI j) I J = some (lN (litn cd (k + j) i v), I, J) := by
  intro i
  induction i with
  | zero =>
    intro fu k j v h1 h2 h3
    obtain ⟨f, rfl⟩ : ∃ f, fu = f + 1 := ⟨fu - 1, by omega⟩
    rw [f_Model_isGood_222]
    simp (disch := omega) only [↓li_m, oc_some, pl_eq, oe_i, oe_j, va_up_self, va_up_ne, va_up_up, upd_s, upd_n, updL_s, updL_n, nI_add, nI_1, nI_ltI, nI_leI, nI_eq, nI_clamp, li_n, m1_lt, m1_le, m1_gt, m1_ge, m1_ne, m1_en, m1_ad, nle_F, nle_T, nlt_F, nlt_T, neq_F, neq_T, or_self, or_false, false_or, true_or, or_true, and_self, and_false, false_and, true_and, and_true, not_true_eq_false, not_false_eq_true, ↓reduceIte, if_true, if_false, Nat.reduceAdd, ite_self, Bool.false_eq_true, litn]
  | succ i ih =>
    intro fu k j v h1 h2 h3
    obtain ⟨f, rfl⟩ : ∃ f, fu = f + 1 := ⟨fu - 1, by omega⟩
    have hc := hb (k + j) (by omega)
    rw [f_Model_isGood_222, nI_add, if_neg (show ¬ (9 : Int32) ≤ nI j from nI_ge (b := 9) (by omega) (by decide)), if_neg (nI_in (by omega) (by omega)), nI_clamp (by omega), hc.2, pl_eq, nI_l (by omega), lx_8 hc.1, nI_1, ih f k (j + 1) _ (by omega) h2 (by omega)]
    rfl
theorem litn_lt {cd : Nat → Nat} {n : Nat} (hb : ∀ k, k < n → cd k < 256) : ∀ (i k v j : Nat), k + i ≤ n → v < 256 ^ j → litn cd k i v < 256 ^ (j + i) := by
  intro i
  induction i with
  | zero => intro k v j _ h; exact h
  | succ i ih =>
    intro k v j h1 h2
    have := ih (k + 1) (v * 256 + cd k) (j + 1) (by omega) (by
      have := hb k (by omega)
      rw [Nat.pow_succ]
      omega)
    rw [litn, show j + (i + 1) = j + 1 + i by omega]
    exact this
theorem lit_lt {cd : Nat → Nat} {n k : Nat} (hb : ∀ k, k < n → cd k < 256) (h : k + 8 ≤ n) : lit cd k < 2 ^ 64 := by
  have := litn_lt hb 8 k 0 0 h (by decide)
  exact this
theorem lx_rng {v : Nat} (hv : v < 2 ^ 64) {α : Type} (a b : α) : (if lg_cmp (lN v) 0 < 0 then a else if 0 ≤ lg_cmp (lN v) 2305843009213693951 then a else b) = if v < pP then b else a := by
  have hP : (2305843009213693951 : Int64) = lN 2305843009213693951 := rfl
  have h0 : (0 : Int64) = lN 0 := rfl
  by_cases q : v < 2 ^ 63
  · have e1 : ¬ lg_cmp (lN v) 0 < 0 := fun c => by
      have := (lg_cmp_lt _ _).mp c
      rw [h0, lx_lt q (by decide)] at this
      omega
    rw [if_neg e1]
    by_cases p : v < 2305843009213693951
    · rw [if_neg (fun c => by
        have := (lg_cmp_ge _ _).mp c
        rw [hP, lx_le (by decide) q] at this
        omega), if_pos p]
    · rw [if_pos ((lg_cmp_ge _ _).mpr (by rw [hP, lx_le (by decide) q]; omega)), if_neg p]
  · have e1 : lg_cmp (lN v) 0 < 0 := (lg_cmp_lt _ _).mpr (by
      rw [Int64.lt_iff_toInt_lt, h0, lx_toInt (n := 0) (by decide)]
      show (BitVec.ofNat 64 v).toInt < _
      rw [BitVec.toInt_eq_toNat_bmod, BitVec.toNat_ofNat, Int.bmod_def]
      omega)
    rw [if_pos e1, if_neg (show ¬ v < 2305843009213693951 by omega)]
