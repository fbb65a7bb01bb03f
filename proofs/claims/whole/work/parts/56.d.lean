/-! compile: the code that is laid is good -/
theorem litn_ext {f g : Nat → Nat} : ∀ (i k v : Nat), (∀ j, k ≤ j → j < k + i → f j = g j) → litn f k i v = litn g k i v := by
  intro i
  induction i with
  | zero => intro k v _; rfl
  | succ i ih =>
    intro k v h
    rw [litn, litn, h k (by omega) (by omega), ih (k + 1) _ (fun j h1 h2 => h j (by omega) (by omega))]
theorem opok_ext {f g : Nat → Nat} {P s : Nat} (ho : f s ≤ 29) (h : ∀ j, s ≤ j → j < s + opl (f s) → f j = g j) : opok f P s = opok g P s := by
  unfold opok opokb
  have h0 : f s = g s := h s (by omega) (by have := opl_1 ho; omega)
  rw [← h0]
  rcases c30 ho with hc | hc | hc | hc | hc | hc | hc | hc | hc | hc | hc | hc | hc | hc | hc | hc | hc | hc | hc | hc | hc | hc | hc | hc | hc | hc | hc | hc | hc | hc

  · rw [hc] at h ⊢
    simp (disch := omega) only [a11, a01, ↓li_m, ↓oc_some, ↓oc_ite, ↓oc_oc, ↓oc_pl, ↓oc_none, ↓oc_oe, ↓pl_eq, ↓oe_i, ↓oe_j, va_up_self, va_up_ne, va_up_up, upd_s, upd_n, updL_s, updL_n, nI_add, nI_1, nI_ltI, nI_leI, nI_eq, nI_clamp, li_n, m1_lt, m1_le, m1_gt, m1_ge, m1_ne, m1_en, m1_ad, nle_F, nle_T, nlt_F, nlt_T, neq_F, neq_T, or_self, or_false, false_or, true_or, or_true, and_self, and_false, false_and, true_and, and_true, not_true_eq_false, not_false_eq_true, ↓reduceIte, if_true, if_false, Nat.reduceAdd, ite_self, Bool.false_eq_true]
  · rw [hc] at h ⊢
    have e := litn_ext (f := f) (g := g) 8 (s + 1) 0 (fun j h1 h2 => h j (by omega) (by rw [show opl 1 = 9 from rfl]; omega))
    rw [show lit f (s + 1) = lit g (s + 1) from e]
    simp (disch := omega) only [a11, a01, ↓li_m, ↓oc_some, ↓oc_ite, ↓oc_oc, ↓oc_pl, ↓oc_none, ↓oc_oe, ↓pl_eq, ↓oe_i, ↓oe_j, va_up_self, va_up_ne, va_up_up, upd_s, upd_n, updL_s, updL_n, nI_add, nI_1, nI_ltI, nI_leI, nI_eq, nI_clamp, li_n, m1_lt, m1_le, m1_gt, m1_ge, m1_ne, m1_en, m1_ad, nle_F, nle_T, nlt_F, nlt_T, neq_F, neq_T, or_self, or_false, false_or, true_or, or_true, and_self, and_false, false_and, true_and, and_true, not_true_eq_false, not_false_eq_true, ↓reduceIte, if_true, if_false, Nat.reduceAdd, ite_self, Bool.false_eq_true]
  · rw [hc] at h ⊢
    have h1 := h (s + 1) (by omega) (by rw [show opl 2 = 2 from rfl]; omega)
    rw [h1]
    simp (disch := omega) only [a11, a01, ↓li_m, ↓oc_some, ↓oc_ite, ↓oc_oc, ↓oc_pl, ↓oc_none, ↓oc_oe, ↓pl_eq, ↓oe_i, ↓oe_j, va_up_self, va_up_ne, va_up_up, upd_s, upd_n, updL_s, updL_n, nI_add, nI_1, nI_ltI, nI_leI, nI_eq, nI_clamp, li_n, m1_lt, m1_le, m1_gt, m1_ge, m1_ne, m1_en, m1_ad, nle_F, nle_T, nlt_F, nlt_T, neq_F, neq_T, or_self, or_false, false_or, true_or, or_true, and_self, and_false, false_and, true_and, and_true, not_true_eq_false, not_false_eq_true, ↓reduceIte, if_true, if_false, Nat.reduceAdd, ite_self, Bool.false_eq_true]
  · rw [hc] at h ⊢
    have h1 := h (s + 1) (by omega) (by rw [show opl 3 = 2 from rfl]; omega)
    rw [h1]
    simp (disch := omega) only [a11, a01, ↓li_m, ↓oc_some, ↓oc_ite, ↓oc_oc, ↓oc_pl, ↓oc_none, ↓oc_oe, ↓pl_eq, ↓oe_i, ↓oe_j, va_up_self, va_up_ne, va_up_up, upd_s, upd_n, updL_s, updL_n, nI_add, nI_1, nI_ltI, nI_leI, nI_eq, nI_clamp, li_n, m1_lt, m1_le, m1_gt, m1_ge, m1_ne, m1_en, m1_ad, nle_F, nle_T, nlt_F, nlt_T, neq_F, neq_T, or_self, or_false, false_or, true_or, or_true, and_self, and_false, false_and, true_and, and_true, not_true_eq_false, not_false_eq_true, ↓reduceIte, if_true, if_false, Nat.reduceAdd, ite_self, Bool.false_eq_true]
  · rw [hc] at h ⊢
    simp (disch := omega) only [a11, a01, ↓li_m, ↓oc_some, ↓oc_ite, ↓oc_oc, ↓oc_pl, ↓oc_none, ↓oc_oe, ↓pl_eq, ↓oe_i, ↓oe_j, va_up_self, va_up_ne, va_up_up, upd_s, upd_n, updL_s, updL_n, nI_add, nI_1, nI_ltI, nI_leI, nI_eq, nI_clamp, li_n, m1_lt, m1_le, m1_gt, m1_ge, m1_ne, m1_en, m1_ad, nle_F, nle_T, nlt_F, nlt_T, neq_F, neq_T, or_self, or_false, false_or, true_or, or_true, and_self, and_false, false_and, true_and, and_true, not_true_eq_false, not_false_eq_true, ↓reduceIte, if_true, if_false, Nat.reduceAdd, ite_self, Bool.false_eq_true]
  · rw [hc] at h ⊢
    simp (disch := omega) only [a11, a01, ↓li_m, ↓oc_some, ↓oc_ite, ↓oc_oc, ↓oc_pl, ↓oc_none, ↓oc_oe, ↓pl_eq, ↓oe_i, ↓oe_j, va_up_self, va_up_ne, va_up_up, upd_s, upd_n, updL_s, updL_n, nI_add, nI_1, nI_ltI, nI_leI, nI_eq, nI_clamp, li_n, m1_lt, m1_le, m1_gt, m1_ge, m1_ne, m1_en, m1_ad, nle_F, nle_T, nlt_F, nlt_T, neq_F, neq_T, or_self, or_false, false_or, true_or, or_true, and_self, and_false, false_and, true_and, and_true, not_true_eq_false, not_false_eq_true, ↓reduceIte, if_true, if_false, Nat.reduceAdd, ite_self, Bool.false_eq_true]
  · rw [hc] at h ⊢
    simp (disch := omega) only [a11, a01, ↓li_m, ↓oc_some, ↓oc_ite, ↓oc_oc, ↓oc_pl, ↓oc_none, ↓oc_oe, ↓pl_eq, ↓oe_i, ↓oe_j, va_up_self, va_up_ne, va_up_up, upd_s, upd_n, updL_s, updL_n, nI_add, nI_1, nI_ltI, nI_leI, nI_eq, nI_clamp, li_n, m1_lt, m1_le, m1_gt, m1_ge, m1_ne, m1_en, m1_ad, nle_F, nle_T, nlt_F, nlt_T, neq_F, neq_T, or_self, or_false, false_or, true_or, or_true, and_self, and_false, false_and, true_and, and_true, not_true_eq_false, not_false_eq_true, ↓reduceIte, if_true, if_false, Nat.reduceAdd, ite_self, Bool.false_eq_true]
  · rw [hc] at h ⊢
    simp (disch := omega) only [a11, a01, ↓li_m, ↓oc_some, ↓oc_ite, ↓oc_oc, ↓oc_pl, ↓oc_none, ↓oc_oe, ↓pl_eq, ↓oe_i, ↓oe_j, va_up_self, va_up_ne, va_up_up, upd_s, upd_n, updL_s, updL_n, nI_add, nI_1, nI_ltI, nI_leI, nI_eq, nI_clamp, li_n, m1_lt, m1_le, m1_gt, m1_ge, m1_ne, m1_en, m1_ad, nle_F, nle_T, nlt_F, nlt_T, neq_F, neq_T, or_self, or_false, false_or, true_or, or_true, and_self, and_false, false_and, true_and, and_true, not_true_eq_false, not_false_eq_true, ↓reduceIte, if_true, if_false, Nat.reduceAdd, ite_self, Bool.false_eq_true]
  · rw [hc] at h ⊢
    simp (disch := omega) only [a11, a01, ↓li_m, ↓oc_some, ↓oc_ite, ↓oc_oc, ↓oc_pl, ↓oc_none, ↓oc_oe, ↓pl_eq, ↓oe_i, ↓oe_j, va_up_self, va_up_ne, va_up_up, upd_s, upd_n, updL_s, updL_n, nI_add, nI_1, nI_ltI, nI_leI, nI_eq, nI_clamp, li_n, m1_lt, m1_le, m1_gt, m1_ge, m1_ne, m1_en, m1_ad, nle_F, nle_T, nlt_F, nlt_T, neq_F, neq_T, or_self, or_false, false_or, true_or, or_true, and_self, and_false, false_and, true_and, and_true, not_true_eq_false, not_false_eq_true, ↓reduceIte, if_true, if_false, Nat.reduceAdd, ite_self, Bool.false_eq_true]
  · rw [hc] at h ⊢
    simp (disch := omega) only [a11, a01, ↓li_m, ↓oc_some, ↓oc_ite, ↓oc_oc, ↓oc_pl, ↓oc_none, ↓oc_oe, ↓pl_eq, ↓oe_i, ↓oe_j, va_up_self, va_up_ne, va_up_up, upd_s, upd_n, updL_s, updL_n, nI_add, nI_1, nI_ltI, nI_leI, nI_eq, nI_clamp, li_n, m1_lt, m1_le, m1_gt, m1_ge, m1_ne, m1_en, m1_ad, nle_F, nle_T, nlt_F, nlt_T, neq_F, neq_T, or_self, or_false, false_or, true_or, or_true, and_self, and_false, false_and, true_and, and_true, not_true_eq_false, not_false_eq_true, ↓reduceIte, if_true, if_false, Nat.reduceAdd, ite_self, Bool.false_eq_true]
  · rw [hc] at h ⊢
    simp (disch := omega) only [a11, a01, ↓li_m, ↓oc_some, ↓oc_ite, ↓oc_oc, ↓oc_pl, ↓oc_none, ↓oc_oe, ↓pl_eq, ↓oe_i, ↓oe_j, va_up_self, va_up_ne, va_up_up, upd_s, upd_n, updL_s, updL_n, nI_add, nI_1, nI_ltI, nI_leI, nI_eq, nI_clamp, li_n, m1_lt, m1_le, m1_gt, m1_ge, m1_ne, m1_en, m1_ad, nle_F, nle_T, nlt_F, nlt_T, neq_F, neq_T, or_self, or_false, false_or, true_or, or_true, and_self, and_false, false_and, true_and, and_true, not_true_eq_false, not_false_eq_true, ↓reduceIte, if_true, if_false, Nat.reduceAdd, ite_self, Bool.false_eq_true]
  · rw [hc] at h ⊢
    have h1 := h (s + 1) (by omega) (by rw [show opl 11 = 2 from rfl]; omega)
    rw [h1]
    simp (disch := omega) only [a11, a01, ↓li_m, ↓oc_some, ↓oc_ite, ↓oc_oc, ↓oc_pl, ↓oc_none, ↓oc_oe, ↓pl_eq, ↓oe_i, ↓oe_j, va_up_self, va_up_ne, va_up_up, upd_s, upd_n, updL_s, updL_n, nI_add, nI_1, nI_ltI, nI_leI, nI_eq, nI_clamp, li_n, m1_lt, m1_le, m1_gt, m1_ge, m1_ne, m1_en, m1_ad, nle_F, nle_T, nlt_F, nlt_T, neq_F, neq_T, or_self, or_false, false_or, true_or, or_true, and_self, and_false, false_and, true_and, and_true, not_true_eq_false, not_false_eq_true, ↓reduceIte, if_true, if_false, Nat.reduceAdd, ite_self, Bool.false_eq_true]
  · rw [hc] at h ⊢
    have h1 := h (s + 1) (by omega) (by rw [show opl 12 = 2 from rfl]; omega)
    rw [h1]
    simp (disch := omega) only [a11, a01, ↓li_m, ↓oc_some, ↓oc_ite, ↓oc_oc, ↓oc_pl, ↓oc_none, ↓oc_oe, ↓pl_eq, ↓oe_i, ↓oe_j, va_up_self, va_up_ne, va_up_up, upd_s, upd_n, updL_s, updL_n, nI_add, nI_1, nI_ltI, nI_leI, nI_eq, nI_clamp, li_n, m1_lt, m1_le, m1_gt, m1_ge, m1_ne, m1_en, m1_ad, nle_F, nle_T, nlt_F, nlt_T, neq_F, neq_T, or_self, or_false, false_or, true_or, or_true, and_self, and_false, false_and, true_and, and_true, not_true_eq_false, not_false_eq_true, ↓reduceIte, if_true, if_false, Nat.reduceAdd, ite_self, Bool.false_eq_true]
  · rw [hc] at h ⊢
    have h1 := h (s + 1) (by omega) (by rw [show opl 13 = 3 from rfl]; omega)
    have h2 := h (s + 2) (by omega) (by rw [show opl 13 = 3 from rfl]; omega)
    rw [h1, h2]
    simp (disch := omega) only [a11, a01, ↓li_m, ↓oc_some, ↓oc_ite, ↓oc_oc, ↓oc_pl, ↓oc_none, ↓oc_oe, ↓pl_eq, ↓oe_i, ↓oe_j, va_up_self, va_up_ne, va_up_up, upd_s, upd_n, updL_s, updL_n, nI_add, nI_1, nI_ltI, nI_leI, nI_eq, nI_clamp, li_n, m1_lt, m1_le, m1_gt, m1_ge, m1_ne, m1_en, m1_ad, nle_F, nle_T, nlt_F, nlt_T, neq_F, neq_T, or_self, or_false, false_or, true_or, or_true, and_self, and_false, false_and, true_and, and_true, not_true_eq_false, not_false_eq_true, ↓reduceIte, if_true, if_false, Nat.reduceAdd, ite_self, Bool.false_eq_true]
  · rw [hc] at h ⊢
    have h1 := h (s + 1) (by omega) (by rw [show opl 14 = 3 from rfl]; omega)
    have h2 := h (s + 2) (by omega) (by rw [show opl 14 = 3 from rfl]; omega)
    rw [h1, h2]
    simp (disch := omega) only [a11, a01, ↓li_m, ↓oc_some, ↓oc_ite, ↓oc_oc, ↓oc_pl, ↓oc_none, ↓oc_oe, ↓pl_eq, ↓oe_i, ↓oe_j, va_up_self, va_up_ne, va_up_up, upd_s, upd_n, updL_s, updL_n, nI_add, nI_1, nI_ltI, nI_leI, nI_eq, nI_clamp, li_n, m1_lt, m1_le, m1_gt, m1_ge, m1_ne, m1_en, m1_ad, nle_F, nle_T, nlt_F, nlt_T, neq_F, neq_T, or_self, or_false, false_or, true_or, or_true, and_self, and_false, false_and, true_and, and_true, not_true_eq_false, not_false_eq_true, ↓reduceIte, if_true, if_false, Nat.reduceAdd, ite_self, Bool.false_eq_true]
  · rw [hc] at h ⊢
    have h1 := h (s + 1) (by omega) (by rw [show opl 15 = 2 from rfl]; omega)
    rw [h1]
    simp (disch := omega) only [a11, a01, ↓li_m, ↓oc_some, ↓oc_ite, ↓oc_oc, ↓oc_pl, ↓oc_none, ↓oc_oe, ↓pl_eq, ↓oe_i, ↓oe_j, va_up_self, va_up_ne, va_up_up, upd_s, upd_n, updL_s, updL_n, nI_add, nI_1, nI_ltI, nI_leI, nI_eq, nI_clamp, li_n, m1_lt, m1_le, m1_gt, m1_ge, m1_ne, m1_en, m1_ad, nle_F, nle_T, nlt_F, nlt_T, neq_F, neq_T, or_self, or_false, false_or, true_or, or_true, and_self, and_false, false_and, true_and, and_true, not_true_eq_false, not_false_eq_true, ↓reduceIte, if_true, if_false, Nat.reduceAdd, ite_self, Bool.false_eq_true]
  · rw [hc] at h ⊢
    have h1 := h (s + 1) (by omega) (by rw [show opl 16 = 2 from rfl]; omega)
    rw [h1]
    simp (disch := omega) only [a11, a01, ↓li_m, ↓oc_some, ↓oc_ite, ↓oc_oc, ↓oc_pl, ↓oc_none, ↓oc_oe, ↓pl_eq, ↓oe_i, ↓oe_j, va_up_self, va_up_ne, va_up_up, upd_s, upd_n, updL_s, updL_n, nI_add, nI_1, nI_ltI, nI_leI, nI_eq, nI_clamp, li_n, m1_lt, m1_le, m1_gt, m1_ge, m1_ne, m1_en, m1_ad, nle_F, nle_T, nlt_F, nlt_T, neq_F, neq_T, or_self, or_false, false_or, true_or, or_true, and_self, and_false, false_and, true_and, and_true, not_true_eq_false, not_false_eq_true, ↓reduceIte, if_true, if_false, Nat.reduceAdd, ite_self, Bool.false_eq_true]
  · rw [hc] at h ⊢
    have h1 := h (s + 1) (by omega) (by rw [show opl 17 = 4 from rfl]; omega)
    rw [h1]
    simp (disch := omega) only [a11, a01, ↓li_m, ↓oc_some, ↓oc_ite, ↓oc_oc, ↓oc_pl, ↓oc_none, ↓oc_oe, ↓pl_eq, ↓oe_i, ↓oe_j, va_up_self, va_up_ne, va_up_up, upd_s, upd_n, updL_s, updL_n, nI_add, nI_1, nI_ltI, nI_leI, nI_eq, nI_clamp, li_n, m1_lt, m1_le, m1_gt, m1_ge, m1_ne, m1_en, m1_ad, nle_F, nle_T, nlt_F, nlt_T, neq_F, neq_T, or_self, or_false, false_or, true_or, or_true, and_self, and_false, false_and, true_and, and_true, not_true_eq_false, not_false_eq_true, ↓reduceIte, if_true, if_false, Nat.reduceAdd, ite_self, Bool.false_eq_true]
  · rw [hc] at h ⊢
    simp (disch := omega) only [a11, a01, ↓li_m, ↓oc_some, ↓oc_ite, ↓oc_oc, ↓oc_pl, ↓oc_none, ↓oc_oe, ↓pl_eq, ↓oe_i, ↓oe_j, va_up_self, va_up_ne, va_up_up, upd_s, upd_n, updL_s, updL_n, nI_add, nI_1, nI_ltI, nI_leI, nI_eq, nI_clamp, li_n, m1_lt, m1_le, m1_gt, m1_ge, m1_ne, m1_en, m1_ad, nle_F, nle_T, nlt_F, nlt_T, neq_F, neq_T, or_self, or_false, false_or, true_or, or_true, and_self, and_false, false_and, true_and, and_true, not_true_eq_false, not_false_eq_true, ↓reduceIte, if_true, if_false, Nat.reduceAdd, ite_self, Bool.false_eq_true]
  · rw [hc] at h ⊢
    have h1 := h (s + 1) (by omega) (by rw [show opl 19 = 2 from rfl]; omega)
    rw [h1]
    simp (disch := omega) only [a11, a01, ↓li_m, ↓oc_some, ↓oc_ite, ↓oc_oc, ↓oc_pl, ↓oc_none, ↓oc_oe, ↓pl_eq, ↓oe_i, ↓oe_j, va_up_self, va_up_ne, va_up_up, upd_s, upd_n, updL_s, updL_n, nI_add, nI_1, nI_ltI, nI_leI, nI_eq, nI_clamp, li_n, m1_lt, m1_le, m1_gt, m1_ge, m1_ne, m1_en, m1_ad, nle_F, nle_T, nlt_F, nlt_T, neq_F, neq_T, or_self, or_false, false_or, true_or, or_true, and_self, and_false, false_and, true_and, and_true, not_true_eq_false, not_false_eq_true, ↓reduceIte, if_true, if_false, Nat.reduceAdd, ite_self, Bool.false_eq_true]
  · rw [hc] at h ⊢
    have h1 := h (s + 1) (by omega) (by rw [show opl 20 = 2 from rfl]; omega)
    rw [h1]
    simp (disch := omega) only [a11, a01, ↓li_m, ↓oc_some, ↓oc_ite, ↓oc_oc, ↓oc_pl, ↓oc_none, ↓oc_oe, ↓pl_eq, ↓oe_i, ↓oe_j, va_up_self, va_up_ne, va_up_up, upd_s, upd_n, updL_s, updL_n, nI_add, nI_1, nI_ltI, nI_leI, nI_eq, nI_clamp, li_n, m1_lt, m1_le, m1_gt, m1_ge, m1_ne, m1_en, m1_ad, nle_F, nle_T, nlt_F, nlt_T, neq_F, neq_T, or_self, or_false, false_or, true_or, or_true, and_self, and_false, false_and, true_and, and_true, not_true_eq_false, not_false_eq_true, ↓reduceIte, if_true, if_false, Nat.reduceAdd, ite_self, Bool.false_eq_true]
  · rw [hc] at h ⊢
    have h1 := h (s + 1) (by omega) (by rw [show opl 21 = 2 from rfl]; omega)
    rw [h1]
    simp (disch := omega) only [a11, a01, ↓li_m, ↓oc_some, ↓oc_ite, ↓oc_oc, ↓oc_pl, ↓oc_none, ↓oc_oe, ↓pl_eq, ↓oe_i, ↓oe_j, va_up_self, va_up_ne, va_up_up, upd_s, upd_n, updL_s, updL_n, nI_add, nI_1, nI_ltI, nI_leI, nI_eq, nI_clamp, li_n, m1_lt, m1_le, m1_gt, m1_ge, m1_ne, m1_en, m1_ad, nle_F, nle_T, nlt_F, nlt_T, neq_F, neq_T, or_self, or_false, false_or, true_or, or_true, and_self, and_false, false_and, true_and, and_true, not_true_eq_false, not_false_eq_true, ↓reduceIte, if_true, if_false, Nat.reduceAdd, ite_self, Bool.false_eq_true]
  · rw [hc] at h ⊢
    have h1 := h (s + 1) (by omega) (by rw [show opl 22 = 2 from rfl]; omega)
    rw [h1]
    simp (disch := omega) only [a11, a01, ↓li_m, ↓oc_some, ↓oc_ite, ↓oc_oc, ↓oc_pl, ↓oc_none, ↓oc_oe, ↓pl_eq, ↓oe_i, ↓oe_j, va_up_self, va_up_ne, va_up_up, upd_s, upd_n, updL_s, updL_n, nI_add, nI_1, nI_ltI, nI_leI, nI_eq, nI_clamp, li_n, m1_lt, m1_le, m1_gt, m1_ge, m1_ne, m1_en, m1_ad, nle_F, nle_T, nlt_F, nlt_T, neq_F, neq_T, or_self, or_false, false_or, true_or, or_true, and_self, and_false, false_and, true_and, and_true, not_true_eq_false, not_false_eq_true, ↓reduceIte, if_true, if_false, Nat.reduceAdd, ite_self, Bool.false_eq_true]
  · rw [hc] at h ⊢
    have h1 := h (s + 1) (by omega) (by rw [show opl 23 = 4 from rfl]; omega)
    have h2 := h (s + 2) (by omega) (by rw [show opl 23 = 4 from rfl]; omega)
    have h3 := h (s + 3) (by omega) (by rw [show opl 23 = 4 from rfl]; omega)
    rw [h1, h2, h3]
    simp (disch := omega) only [a11, a01, ↓li_m, ↓oc_some, ↓oc_ite, ↓oc_oc, ↓oc_pl, ↓oc_none, ↓oc_oe, ↓pl_eq, ↓oe_i, ↓oe_j, va_up_self, va_up_ne, va_up_up, upd_s, upd_n, updL_s, updL_n, nI_add, nI_1, nI_ltI, nI_leI, nI_eq, nI_clamp, li_n, m1_lt, m1_le, m1_gt, m1_ge, m1_ne, m1_en, m1_ad, nle_F, nle_T, nlt_F, nlt_T, neq_F, neq_T, or_self, or_false, false_or, true_or, or_true, and_self, and_false, false_and, true_and, and_true, not_true_eq_false, not_false_eq_true, ↓reduceIte, if_true, if_false, Nat.reduceAdd, ite_self, Bool.false_eq_true]
  · rw [hc] at h ⊢
    have h1 := h (s + 1) (by omega) (by rw [show opl 24 = 4 from rfl]; omega)
    have h2 := h (s + 2) (by omega) (by rw [show opl 24 = 4 from rfl]; omega)
    have h3 := h (s + 3) (by omega) (by rw [show opl 24 = 4 from rfl]; omega)
    rw [h1, h2, h3]
    simp (disch := omega) only [a11, a01, ↓li_m, ↓oc_some, ↓oc_ite, ↓oc_oc, ↓oc_pl, ↓oc_none, ↓oc_oe, ↓pl_eq, ↓oe_i, ↓oe_j, va_up_self, va_up_ne, va_up_up, upd_s, upd_n, updL_s, updL_n, nI_add, nI_1, nI_ltI, nI_leI, nI_eq, nI_clamp, li_n, m1_lt, m1_le, m1_gt, m1_ge, m1_ne, m1_en, m1_ad, nle_F, nle_T, nlt_F, nlt_T, neq_F, neq_T, or_self, or_false, false_or, true_or, or_true, and_self, and_false, false_and, true_and, and_true, not_true_eq_false, not_false_eq_true, ↓reduceIte, if_true, if_false, Nat.reduceAdd, ite_self, Bool.false_eq_true]
  · rw [hc] at h ⊢
    have h1 := h (s + 1) (by omega) (by rw [show opl 25 = 4 from rfl]; omega)
    have h2 := h (s + 2) (by omega) (by rw [show opl 25 = 4 from rfl]; omega)
    have h3 := h (s + 3) (by omega) (by rw [show opl 25 = 4 from rfl]; omega)
    rw [h1, h2, h3]
    simp (disch := omega) only [a11, a01, ↓li_m, ↓oc_some, ↓oc_ite, ↓oc_oc, ↓oc_pl, ↓oc_none, ↓oc_oe, ↓pl_eq, ↓oe_i, ↓oe_j, va_up_self, va_up_ne, va_up_up, upd_s, upd_n, updL_s, updL_n, nI_add, nI_1, nI_ltI, nI_leI, nI_eq, nI_clamp, li_n, m1_lt, m1_le, m1_gt, m1_ge, m1_ne, m1_en, m1_ad, nle_F, nle_T, nlt_F, nlt_T, neq_F, neq_T, or_self, or_false, false_or, true_or, or_true, and_self, and_false, false_and, true_and, and_true, not_true_eq_false, not_false_eq_true, ↓reduceIte, if_true, if_false, Nat.reduceAdd, ite_self, Bool.false_eq_true]
  · rw [hc] at h ⊢
    have h1 := h (s + 1) (by omega) (by rw [show opl 26 = 3 from rfl]; omega)
    have h2 := h (s + 2) (by omega) (by rw [show opl 26 = 3 from rfl]; omega)
    rw [h1, h2]
    simp (disch := omega) only [a11, a01, ↓li_m, ↓oc_some, ↓oc_ite, ↓oc_oc, ↓oc_pl, ↓oc_none, ↓oc_oe, ↓pl_eq, ↓oe_i, ↓oe_j, va_up_self, va_up_ne, va_up_up, upd_s, upd_n, updL_s, updL_n, nI_add, nI_1, nI_ltI, nI_leI, nI_eq, nI_clamp, li_n, m1_lt, m1_le, m1_gt, m1_ge, m1_ne, m1_en, m1_ad, nle_F, nle_T, nlt_F, nlt_T, neq_F, neq_T, or_self, or_false, false_or, true_or, or_true, and_self, and_false, false_and, true_and, and_true, not_true_eq_false, not_false_eq_true, ↓reduceIte, if_true, if_false, Nat.reduceAdd, ite_self, Bool.false_eq_true]
  · rw [hc] at h ⊢
    have h1 := h (s + 1) (by omega) (by rw [show opl 27 = 2 from rfl]; omega)
    rw [h1]
    simp (disch := omega) only [a11, a01, ↓li_m, ↓oc_some, ↓oc_ite, ↓oc_oc, ↓oc_pl, ↓oc_none, ↓oc_oe, ↓pl_eq, ↓oe_i, ↓oe_j, va_up_self, va_up_ne, va_up_up, upd_s, upd_n, updL_s, updL_n, nI_add, nI_1, nI_ltI, nI_leI, nI_eq, nI_clamp, li_n, m1_lt, m1_le, m1_gt, m1_ge, m1_ne, m1_en, m1_ad, nle_F, nle_T, nlt_F, nlt_T, neq_F, neq_T, or_self, or_false, false_or, true_or, or_true, and_self, and_false, false_and, true_and, and_true, not_true_eq_false, not_false_eq_true, ↓reduceIte, if_true, if_false, Nat.reduceAdd, ite_self, Bool.false_eq_true]
  · rw [hc] at h ⊢
    simp (disch := omega) only [a11, a01, ↓li_m, ↓oc_some, ↓oc_ite, ↓oc_oc, ↓oc_pl, ↓oc_none, ↓oc_oe, ↓pl_eq, ↓oe_i, ↓oe_j, va_up_self, va_up_ne, va_up_up, upd_s, upd_n, updL_s, updL_n, nI_add, nI_1, nI_ltI, nI_leI, nI_eq, nI_clamp, li_n, m1_lt, m1_le, m1_gt, m1_ge, m1_ne, m1_en, m1_ad, nle_F, nle_T, nlt_F, nlt_T, neq_F, neq_T, or_self, or_false, false_or, true_or, or_true, and_self, and_false, false_and, true_and, and_true, not_true_eq_false, not_false_eq_true, ↓reduceIte, if_true, if_false, Nat.reduceAdd, ite_self, Bool.false_eq_true]
  · rw [hc] at h ⊢
    simp (disch := omega) only [a11, a01, ↓li_m, ↓oc_some, ↓oc_ite, ↓oc_oc, ↓oc_pl, ↓oc_none, ↓oc_oe, ↓pl_eq, ↓oe_i, ↓oe_j, va_up_self, va_up_ne, va_up_up, upd_s, upd_n, updL_s, updL_n, nI_add, nI_1, nI_ltI, nI_leI, nI_eq, nI_clamp, li_n, m1_lt, m1_le, m1_gt, m1_ge, m1_ne, m1_en, m1_ad, nle_F, nle_T, nlt_F, nlt_T, neq_F, neq_T, or_self, or_false, false_or, true_or, or_true, and_self, and_false, false_and, true_and, and_true, not_true_eq_false, not_false_eq_true, ↓reduceIte, if_true, if_false, Nat.reduceAdd, ite_self, Bool.false_eq_true]
theorem tgt_ext {f g : Nat → Nat} {s : Nat} (hj : isj (f s)) (h : ∀ j, s ≤ j → j < s + opl (f s) → f j = g j) : tgt f s = tgt g s := by
  unfold tgt
  rcases hj with hc | hc | hc
  · rw [hc, show opl 17 = 4 from rfl] at h
    rw [← h s (by omega) (by omega), hc, if_pos rfl, if_pos rfl, h (s + 2) (by omega) (by omega), h (s + 3) (by omega) (by omega)]
  · rw [hc, show opl 18 = 3 from rfl] at h
    rw [← h s (by omega) (by omega), hc, if_neg (by decide), if_neg (by decide), h (s + 1) (by omega) (by omega), h (s + 2) (by omega) (by omega)]
  · rw [hc, show opl 28 = 3 from rfl] at h
    rw [← h s (by omega) (by omega), hc, if_neg (by decide), if_neg (by decide), h (s + 1) (by omega) (by omega), h (s + 2) (by omega) (by omega)]
/-- one operation that was laid -/
def CO (P : Nat) (cc : Nat → Nat) (m : Nat) (st : Nat → Bool) (hg : Nat → Nat) (s : Nat) : Prop := cc s ≤ 29 ∧ cc s ≠ 0 ∧ s + opl (cc s) ≤ m ∧ opok cc P s = true ∧ nd (cc s) ≤ hg s ∧ hg (s + opl (cc s)) = hg s - nd (cc s) + gv (cc s) ∧ hg (s + opl (cc s)) ≤ 64 ∧ (s + opl (cc s) < m → st (s + opl (cc s)) = true) ∧ (∀ i, s < i → i < s + opl (cc s) → st i = false) ∧ (ctl (cc s) → hg s = 0) ∧ ((cc s = 17 ∨ cc s = 18) → tgt cc s ≤ m ∧ hg (tgt cc s) = 0 ∧ (tgt cc s < m → st (tgt cc s) = true))
def CODE (P : Nat) (cc cm : Nat → Nat) (m h : Nat) (f8 g3 g4 : Nat → Int32) (c : Nat) : Prop := ∃ (st : Nat → Bool) (hg : Nat → Nat), (hg 0 = 0 ∧ hg m = h ∧ h ≤ 64 ∧ (0 < m → st 0 = true) ∧ (∀ s, m ≤ s → st s = false) ∧ (∀ j, j < m → cc j < 256)) ∧ (∀ s, st s = true → CO P cc m st hg s) ∧ (∀ j, j < m → (∀ s, st s = true → cc s = 28 → j ≠ s + 2) → cm j = cc j) ∧ (∀ s, st s = true → cc s = 28 → cc (s + 1) = 0 ∧ cm (s + 2) = 0 ∧ cc (s + 2) < 10 ∧ ∃ i, i < c ∧ g4 i = nI (s + 1) ∧ g3 i = nI (cc (s + 2))) ∧ (∀ i, i < c → ∃ s, st s = true ∧ cc s = 28 ∧ g4 i = nI (s + 1) ∧ g3 i = nI (cc (s + 2))) ∧ (∀ d, d < 10 → f8 d = m1 ∨ ∃ r, f8 d = nI r ∧ r ≤ m ∧ hg r = 0 ∧ (r < m → st r = true))
theorem CODE_st {P m s : Nat} {cc : Nat → Nat} {st : Nat → Bool} {hg : Nat → Nat} (h : ∀ s, m ≤ s → st s = false) (hs : st s = true) : s < m := by
  by_cases q : s < m
  · exact q
  · rw [h s (by omega)] at hs
    cases hs
/-- another operation is laid, that is no call -/
theorem CODE_ext {P m h c o : Nat} {cc cm cc' cm' : Nat → Nat} {f8 g3 g4 : Nat → Int32} (H : CODE P cc cm m h f8 g3 g4 c) (e1 : ∀ j, j < m → cc' j = cc j) (e2 : ∀ j, j < m → cm' j = cm j) (e3 : ∀ j, m ≤ j → j < m + opl o → cm' j = cc' j ∧ cc' j < 256) (e4 : cc' m = o) (e5 : o ≤ 29) (e6 : o ≠ 0) (e7 : o ≠ 28) (e8 : opok cc' P m = true) (e9 : nd o ≤ h) (e10 : h - nd o + gv o ≤ 64) (e11 : ctl o → h = 0) (e12 : (o = 17 ∨ o = 18) → tgt cc' m = 0) : CODE P cc' cm' (m + opl o) (h - nd o + gv o) f8 g3 g4 c := by
  obtain ⟨st, hg, ⟨a1, a2, a3, a4, a5, a6⟩, b, d, f, g, r⟩ := H
  have ol := opl_1 e5
  have hlt : ∀ s, st s = true → s < m := fun s hs => CODE_st (P := P) (cc := cc) (hg := hg) a5 hs
  have hne : ∀ s, st s = true → s ≠ m := fun s hs => by have := hlt s hs; omega
  refine ⟨fun s => if s = m then true else st s, fun j => if j ≤ m then hg j else h - nd o + gv o, ⟨?_, ?_, e10, ?_, ?_, ?_⟩, ?_, ?_, ?_, ?_, ?_⟩
  · simp only [Nat.zero_le, if_true, a1]
  · simp only
    rw [if_neg (by omega)]
  · intro _
    simp only
    by_cases q : 0 = m
    · rw [if_pos q]
    · rw [if_neg q, a4 (by omega)]
  · intro s hs
    simp only
    rw [if_neg (by omega), a5 s (by omega)]
  · intro j hj
    by_cases q : j < m
    · rw [e1 j q]
      exact a6 j q
    · exact (e3 j (by omega) hj).2
  · intro s hs
    simp only at hs
    by_cases q : s = m
    · subst q
      refine ⟨by omega, by omega, by rw [e4]; omega, e8, ?_, ?_, ?_, ?_, ?_, ?_, ?_⟩
      · simp only [Nat.le_refl, if_true, e4, a2]
        exact e9
      · rw [e4]
        simp only [Nat.le_refl, if_true, a2]
        rw [if_neg (by omega)]
      · rw [e4]
        simp only
        rw [if_neg (by omega)]
        exact e10
      · rw [e4]
        intro c
        omega
      · rw [e4]
        intro i i1 i2
        simp only
        rw [if_neg (by omega), a5 i (by omega)]
      · rw [e4]
        simp only [Nat.le_refl, if_true, a2]
        exact e11
      · rw [e4]
        intro hc
        rw [e12 hc]
        refine ⟨by omega, ?_, fun _ => ?_⟩
        · simp only [Nat.zero_le, if_true, a1]
        · simp only
          by_cases q : 0 = s
          · rw [if_pos q]
          · rw [if_neg q, a4 (by omega)]
    · rw [if_neg q] at hs
      have hs' := hlt s hs
      obtain ⟨b1, b2, b3, b4, b5, b6, b7, b8, b9, b10, b11⟩ := b s hs
      have ecs : cc' s = cc s := e1 s hs'
      have eag : ∀ j, s ≤ j → j < s + opl (cc s) → cc j = cc' j := fun j _ hj => (e1 j (by omega)).symm
      refine ⟨by rw [ecs]; exact b1, by rw [ecs]; exact b2, by rw [ecs]; omega, ?_, ?_, ?_, ?_, ?_, ?_, ?_, ?_⟩
      · rw [← opok_ext (P := P) b1 eag]
        exact b4
      · rw [ecs]
        simp only
        rw [if_pos (by omega)]
        exact b5
      · rw [ecs]
        simp only
        rw [if_pos (by omega), if_pos (by omega)]
        exact b6
      · rw [ecs]
        simp only
        rw [if_pos (by omega)]
        exact b7
      · rw [ecs]
        intro _
        simp only
        by_cases x : s + opl (cc s) = m
        · rw [if_pos x]
        · rw [if_neg x]
          exact b8 (by omega)
      · rw [ecs]
        intro i i1 i2
        simp only
        rw [if_neg (by omega)]
        exact b9 i i1 i2
      · rw [ecs]
        simp only
        rw [if_pos (by omega)]
        exact b10
      · rw [ecs]
        intro hc
        rw [← tgt_ext (by rcases hc with hc | hc; exact Or.inl hc; exact Or.inr (Or.inl hc)) eag]
        obtain ⟨t1, t2, t3⟩ := b11 hc
        refine ⟨by omega, ?_, fun _ => ?_⟩
        · simp only
          rw [if_pos t1]
          exact t2
        · simp only
          by_cases x : tgt cc s = m
          · rw [if_pos x]
          · rw [if_neg x]
            exact t3 (by omega)
  · intro j hj hno
    by_cases q : j < m
    · rw [e2 j q, e1 j q]
      refine d j q (fun s hs hc => hno s ?_ ?_)
      · simp only
        rw [if_neg (hne s hs)]
        exact hs
      · rw [e1 s (hlt s hs)]
        exact hc
    · exact (e3 j (by omega) hj).1
  · intro s hs hc
    simp only at hs
    by_cases q : s = m
    · subst q
      exact absurd (e4.symm.trans hc) e7
    · rw [if_neg q] at hs
      have hs' := hlt s hs
      rw [e1 s hs'] at hc
      have b3 := (b s hs).2.2.1
      rw [hc, show opl 28 = 3 from rfl] at b3
      rw [e1 (s + 1) (by omega), e1 (s + 2) (by omega), e2 (s + 2) (by omega)]
      exact f s hs hc
  · intro i hi
    obtain ⟨s, s1, s2, s3, s4⟩ := g i hi
    have hs' := hlt s s1
    have b3 := (b s s1).2.2.1
    rw [s2, show opl 28 = 3 from rfl] at b3
    refine ⟨s, ?_, ?_, s3, ?_⟩
    · simp only
      rw [if_neg (hne s s1)]
      exact s1
    · rw [e1 s hs']
      exact s2
    · rw [e1 (s + 2) (by omega)]
      exact s4
  · intro x hx
    rcases r x hx with r1 | ⟨y, r1, r2, r3, r4⟩
    · exact Or.inl r1
    · refine Or.inr ⟨y, r1, by omega, ?_, fun _ => ?_⟩
      · simp only
        rw [if_pos r2]
        exact r3
      · simp only
        by_cases q : y = m
        · rw [if_pos q]
        · rw [if_neg q]
          exact r4 (by omega)

