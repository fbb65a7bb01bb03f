/-! load: good code; the passes read no more than they should -/
def nd (c : Nat) : Nat := if c = 4 ∨ c = 5 ∨ c = 6 ∨ c = 7 ∨ c = 21 ∨ c = 22 then 2 else if c = 8 ∨ c = 9 ∨ c = 10 ∨ c = 11 ∨ c = 12 ∨ c = 19 ∨ c = 20 then 1 else 0
def gv (c : Nat) : Nat := if c = 1 ∨ c = 2 ∨ c = 3 ∨ c = 26 ∨ c = 4 ∨ c = 5 ∨ c = 6 ∨ c = 7 ∨ c = 8 ∨ c = 9 ∨ c = 10 ∨ c = 19 ∨ c = 20 then 1 else 0
abbrev ctl (c : Nat) : Prop := c = 0 ∨ c = 17 ∨ c = 18 ∨ c = 28 ∨ c = 29
def WFc (cd : Nat → Nat) (n P : Nat) (st : Nat → Bool) (hg : Nat → Nat) : Prop := 1 ≤ n ∧ n ≤ 2000 ∧ (∀ k, k < n → cd k < 256) ∧ st 0 = true ∧ hg 0 = 0 ∧ ∀ k, st k = true → k < n ∧ cd k ≤ 29 ∧ k + opl (cd k) ≤ n ∧ opok cd P k = true ∧ nd (cd k) ≤ hg k ∧ hg k - nd (cd k) + gv (cd k) ≤ 64 ∧ (cd k ≠ 0 → cd k ≠ 18 → cd k ≠ 29 → st (k + opl (cd k)) = true ∧ hg (k + opl (cd k)) = hg k - nd (cd k) + gv (cd k)) ∧ (isj (cd k) → st (tgt cd k) = true ∧ hg (tgt cd k) = 0) ∧ (ctl (cd k) → hg k = 0)
theorem psh_h {b : Bool} {h : Nat} {sf : Nat → Bool} {x : Nat × (Nat → Bool)} (H : psh b h sf = some x) : h < 64 ∧ x.1 = h + 1 := by
  unfold psh at H
  obtain ⟨q, H⟩ := ob_if H
  cases H
  exact ⟨q, rfl⟩
theorem fl_h {op p q r h : Nat} {sf : Nat → Bool} {x : Nat × (Nat → Bool)} (H : fl op p q r h sf = some x) (ho : op ≤ 29) (h6 : h ≤ 64) : nd op ≤ h ∧ x.1 = h - nd op + gv op ∧ x.1 ≤ 64 ∧ (ctl op → h = 0) := by
  unfold fl at H
  rcases c30 ho with rfl | rfl | rfl | rfl | rfl | rfl | rfl | rfl | rfl | rfl | rfl | rfl | rfl | rfl | rfl | rfl | rfl | rfl | rfl | rfl | rfl | rfl | rfl | rfl | rfl | rfl | rfl | rfl | rfl | rfl

  · rw [show nd 0 = 0 from rfl, show gv 0 = 0 from rfl]
    simp (disch := omega) only [a11, a01, ↓li_m, ↓oc_some, ↓oc_ite, ↓oc_oc, ↓oc_pl, ↓oc_none, ↓oc_oe, ↓pl_eq, ↓oe_i, ↓oe_j, va_up_self, va_up_ne, va_up_up, upd_s, upd_n, updL_s, updL_n, nI_add, nI_1, nI_ltI, nI_leI, nI_eq, nI_clamp, li_n, m1_lt, m1_le, m1_gt, m1_ge, m1_ne, m1_en, m1_ad, nle_F, nle_T, nlt_F, nlt_T, neq_F, neq_T, or_self, or_false, false_or, true_or, or_true, and_self, and_false, false_and, true_and, and_true, not_true_eq_false, not_false_eq_true, ↓reduceIte, if_true, if_false, Nat.reduceAdd, ite_self, Bool.false_eq_true] at H
    obtain ⟨q1, H⟩ := ob_if H
    cases H
    exact ⟨by omega, by simp only; omega, by simp only; omega, fun c => by omega⟩
  · rw [show nd 1 = 0 from rfl, show gv 1 = 1 from rfl]
    simp (disch := omega) only [a11, a01, ↓li_m, ↓oc_some, ↓oc_ite, ↓oc_oc, ↓oc_pl, ↓oc_none, ↓oc_oe, ↓pl_eq, ↓oe_i, ↓oe_j, va_up_self, va_up_ne, va_up_up, upd_s, upd_n, updL_s, updL_n, nI_add, nI_1, nI_ltI, nI_leI, nI_eq, nI_clamp, li_n, m1_lt, m1_le, m1_gt, m1_ge, m1_ne, m1_en, m1_ad, nle_F, nle_T, nlt_F, nlt_T, neq_F, neq_T, or_self, or_false, false_or, true_or, or_true, and_self, and_false, false_and, true_and, and_true, not_true_eq_false, not_false_eq_true, ↓reduceIte, if_true, if_false, Nat.reduceAdd, ite_self, Bool.false_eq_true] at H
    have := psh_h H
    exact ⟨by omega, by omega, by omega, fun c => by omega⟩
  · rw [show nd 2 = 0 from rfl, show gv 2 = 1 from rfl]
    simp (disch := omega) only [a11, a01, ↓li_m, ↓oc_some, ↓oc_ite, ↓oc_oc, ↓oc_pl, ↓oc_none, ↓oc_oe, ↓pl_eq, ↓oe_i, ↓oe_j, va_up_self, va_up_ne, va_up_up, upd_s, upd_n, updL_s, updL_n, nI_add, nI_1, nI_ltI, nI_leI, nI_eq, nI_clamp, li_n, m1_lt, m1_le, m1_gt, m1_ge, m1_ne, m1_en, m1_ad, nle_F, nle_T, nlt_F, nlt_T, neq_F, neq_T, or_self, or_false, false_or, true_or, or_true, and_self, and_false, false_and, true_and, and_true, not_true_eq_false, not_false_eq_true, ↓reduceIte, if_true, if_false, Nat.reduceAdd, ite_self, Bool.false_eq_true] at H
    have := psh_h H
    exact ⟨by omega, by omega, by omega, fun c => by omega⟩
  · rw [show nd 3 = 0 from rfl, show gv 3 = 1 from rfl]
    simp (disch := omega) only [a11, a01, ↓li_m, ↓oc_some, ↓oc_ite, ↓oc_oc, ↓oc_pl, ↓oc_none, ↓oc_oe, ↓pl_eq, ↓oe_i, ↓oe_j, va_up_self, va_up_ne, va_up_up, upd_s, upd_n, updL_s, updL_n, nI_add, nI_1, nI_ltI, nI_leI, nI_eq, nI_clamp, li_n, m1_lt, m1_le, m1_gt, m1_ge, m1_ne, m1_en, m1_ad, nle_F, nle_T, nlt_F, nlt_T, neq_F, neq_T, or_self, or_false, false_or, true_or, or_true, and_self, and_false, false_and, true_and, and_true, not_true_eq_false, not_false_eq_true, ↓reduceIte, if_true, if_false, Nat.reduceAdd, ite_self, Bool.false_eq_true] at H
    have := psh_h H
    exact ⟨by omega, by omega, by omega, fun c => by omega⟩
  · rw [show nd 4 = 2 from rfl, show gv 4 = 1 from rfl]
    simp (disch := omega) only [a11, a01, ↓li_m, ↓oc_some, ↓oc_ite, ↓oc_oc, ↓oc_pl, ↓oc_none, ↓oc_oe, ↓pl_eq, ↓oe_i, ↓oe_j, va_up_self, va_up_ne, va_up_up, upd_s, upd_n, updL_s, updL_n, nI_add, nI_1, nI_ltI, nI_leI, nI_eq, nI_clamp, li_n, m1_lt, m1_le, m1_gt, m1_ge, m1_ne, m1_en, m1_ad, nle_F, nle_T, nlt_F, nlt_T, neq_F, neq_T, or_self, or_false, false_or, true_or, or_true, and_self, and_false, false_and, true_and, and_true, not_true_eq_false, not_false_eq_true, ↓reduceIte, if_true, if_false, Nat.reduceAdd, ite_self, Bool.false_eq_true] at H
    obtain ⟨q1, H⟩ := ob_if H
    have := psh_h H
    exact ⟨by omega, by omega, by omega, fun c => by omega⟩
  · rw [show nd 5 = 2 from rfl, show gv 5 = 1 from rfl]
    simp (disch := omega) only [a11, a01, ↓li_m, ↓oc_some, ↓oc_ite, ↓oc_oc, ↓oc_pl, ↓oc_none, ↓oc_oe, ↓pl_eq, ↓oe_i, ↓oe_j, va_up_self, va_up_ne, va_up_up, upd_s, upd_n, updL_s, updL_n, nI_add, nI_1, nI_ltI, nI_leI, nI_eq, nI_clamp, li_n, m1_lt, m1_le, m1_gt, m1_ge, m1_ne, m1_en, m1_ad, nle_F, nle_T, nlt_F, nlt_T, neq_F, neq_T, or_self, or_false, false_or, true_or, or_true, and_self, and_false, false_and, true_and, and_true, not_true_eq_false, not_false_eq_true, ↓reduceIte, if_true, if_false, Nat.reduceAdd, ite_self, Bool.false_eq_true] at H
    obtain ⟨q1, H⟩ := ob_if H
    have := psh_h H
    exact ⟨by omega, by omega, by omega, fun c => by omega⟩
  · rw [show nd 6 = 2 from rfl, show gv 6 = 1 from rfl]
    simp (disch := omega) only [a11, a01, ↓li_m, ↓oc_some, ↓oc_ite, ↓oc_oc, ↓oc_pl, ↓oc_none, ↓oc_oe, ↓pl_eq, ↓oe_i, ↓oe_j, va_up_self, va_up_ne, va_up_up, upd_s, upd_n, updL_s, updL_n, nI_add, nI_1, nI_ltI, nI_leI, nI_eq, nI_clamp, li_n, m1_lt, m1_le, m1_gt, m1_ge, m1_ne, m1_en, m1_ad, nle_F, nle_T, nlt_F, nlt_T, neq_F, neq_T, or_self, or_false, false_or, true_or, or_true, and_self, and_false, false_and, true_and, and_true, not_true_eq_false, not_false_eq_true, ↓reduceIte, if_true, if_false, Nat.reduceAdd, ite_self, Bool.false_eq_true] at H
    obtain ⟨q1, H⟩ := ob_if H
    have := psh_h H
    exact ⟨by omega, by omega, by omega, fun c => by omega⟩
  · rw [show nd 7 = 2 from rfl, show gv 7 = 1 from rfl]
    simp (disch := omega) only [a11, a01, ↓li_m, ↓oc_some, ↓oc_ite, ↓oc_oc, ↓oc_pl, ↓oc_none, ↓oc_oe, ↓pl_eq, ↓oe_i, ↓oe_j, va_up_self, va_up_ne, va_up_up, upd_s, upd_n, updL_s, updL_n, nI_add, nI_1, nI_ltI, nI_leI, nI_eq, nI_clamp, li_n, m1_lt, m1_le, m1_gt, m1_ge, m1_ne, m1_en, m1_ad, nle_F, nle_T, nlt_F, nlt_T, neq_F, neq_T, or_self, or_false, false_or, true_or, or_true, and_self, and_false, false_and, true_and, and_true, not_true_eq_false, not_false_eq_true, ↓reduceIte, if_true, if_false, Nat.reduceAdd, ite_self, Bool.false_eq_true] at H
    obtain ⟨q1, H⟩ := ob_if H
    have := psh_h H
    exact ⟨by omega, by omega, by omega, fun c => by omega⟩
  · rw [show nd 8 = 1 from rfl, show gv 8 = 1 from rfl]
    simp (disch := omega) only [a11, a01, ↓li_m, ↓oc_some, ↓oc_ite, ↓oc_oc, ↓oc_pl, ↓oc_none, ↓oc_oe, ↓pl_eq, ↓oe_i, ↓oe_j, va_up_self, va_up_ne, va_up_up, upd_s, upd_n, updL_s, updL_n, nI_add, nI_1, nI_ltI, nI_leI, nI_eq, nI_clamp, li_n, m1_lt, m1_le, m1_gt, m1_ge, m1_ne, m1_en, m1_ad, nle_F, nle_T, nlt_F, nlt_T, neq_F, neq_T, or_self, or_false, false_or, true_or, or_true, and_self, and_false, false_and, true_and, and_true, not_true_eq_false, not_false_eq_true, ↓reduceIte, if_true, if_false, Nat.reduceAdd, ite_self, Bool.false_eq_true] at H
    obtain ⟨q1, H⟩ := ob_if H
    cases H
    exact ⟨by omega, by simp only; omega, by simp only; omega, fun c => by omega⟩
  · rw [show nd 9 = 1 from rfl, show gv 9 = 1 from rfl]
    simp (disch := omega) only [a11, a01, ↓li_m, ↓oc_some, ↓oc_ite, ↓oc_oc, ↓oc_pl, ↓oc_none, ↓oc_oe, ↓pl_eq, ↓oe_i, ↓oe_j, va_up_self, va_up_ne, va_up_up, upd_s, upd_n, updL_s, updL_n, nI_add, nI_1, nI_ltI, nI_leI, nI_eq, nI_clamp, li_n, m1_lt, m1_le, m1_gt, m1_ge, m1_ne, m1_en, m1_ad, nle_F, nle_T, nlt_F, nlt_T, neq_F, neq_T, or_self, or_false, false_or, true_or, or_true, and_self, and_false, false_and, true_and, and_true, not_true_eq_false, not_false_eq_true, ↓reduceIte, if_true, if_false, Nat.reduceAdd, ite_self, Bool.false_eq_true] at H
    obtain ⟨q1, H⟩ := ob_if H
    cases H
    exact ⟨by omega, by simp only; omega, by simp only; omega, fun c => by omega⟩
  · rw [show nd 10 = 1 from rfl, show gv 10 = 1 from rfl]
    simp (disch := omega) only [a11, a01, ↓li_m, ↓oc_some, ↓oc_ite, ↓oc_oc, ↓oc_pl, ↓oc_none, ↓oc_oe, ↓pl_eq, ↓oe_i, ↓oe_j, va_up_self, va_up_ne, va_up_up, upd_s, upd_n, updL_s, updL_n, nI_add, nI_1, nI_ltI, nI_leI, nI_eq, nI_clamp, li_n, m1_lt, m1_le, m1_gt, m1_ge, m1_ne, m1_en, m1_ad, nle_F, nle_T, nlt_F, nlt_T, neq_F, neq_T, or_self, or_false, false_or, true_or, or_true, and_self, and_false, false_and, true_and, and_true, not_true_eq_false, not_false_eq_true, ↓reduceIte, if_true, if_false, Nat.reduceAdd, ite_self, Bool.false_eq_true] at H
    obtain ⟨q1, H⟩ := ob_if H
    cases H
    exact ⟨by omega, by simp only; omega, by simp only; omega, fun c => by omega⟩
  · rw [show nd 11 = 1 from rfl, show gv 11 = 0 from rfl]
    simp (disch := omega) only [a11, a01, ↓li_m, ↓oc_some, ↓oc_ite, ↓oc_oc, ↓oc_pl, ↓oc_none, ↓oc_oe, ↓pl_eq, ↓oe_i, ↓oe_j, va_up_self, va_up_ne, va_up_up, upd_s, upd_n, updL_s, updL_n, nI_add, nI_1, nI_ltI, nI_leI, nI_eq, nI_clamp, li_n, m1_lt, m1_le, m1_gt, m1_ge, m1_ne, m1_en, m1_ad, nle_F, nle_T, nlt_F, nlt_T, neq_F, neq_T, or_self, or_false, false_or, true_or, or_true, and_self, and_false, false_and, true_and, and_true, not_true_eq_false, not_false_eq_true, ↓reduceIte, if_true, if_false, Nat.reduceAdd, ite_self, Bool.false_eq_true] at H
    obtain ⟨q1, H⟩ := ob_if H
    cases H
    exact ⟨by omega, by simp only; omega, by simp only; omega, fun c => by omega⟩
  · rw [show nd 12 = 1 from rfl, show gv 12 = 0 from rfl]
    simp (disch := omega) only [a11, a01, ↓li_m, ↓oc_some, ↓oc_ite, ↓oc_oc, ↓oc_pl, ↓oc_none, ↓oc_oe, ↓pl_eq, ↓oe_i, ↓oe_j, va_up_self, va_up_ne, va_up_up, upd_s, upd_n, updL_s, updL_n, nI_add, nI_1, nI_ltI, nI_leI, nI_eq, nI_clamp, li_n, m1_lt, m1_le, m1_gt, m1_ge, m1_ne, m1_en, m1_ad, nle_F, nle_T, nlt_F, nlt_T, neq_F, neq_T, or_self, or_false, false_or, true_or, or_true, and_self, and_false, false_and, true_and, and_true, not_true_eq_false, not_false_eq_true, ↓reduceIte, if_true, if_false, Nat.reduceAdd, ite_self, Bool.false_eq_true] at H
    obtain ⟨q1, H⟩ := ob_if H
    cases H
    exact ⟨by omega, by simp only; omega, by simp only; omega, fun c => by omega⟩
  · rw [show nd 13 = 0 from rfl, show gv 13 = 0 from rfl]
    simp (disch := omega) only [a11, a01, ↓li_m, ↓oc_some, ↓oc_ite, ↓oc_oc, ↓oc_pl, ↓oc_none, ↓oc_oe, ↓pl_eq, ↓oe_i, ↓oe_j, va_up_self, va_up_ne, va_up_up, upd_s, upd_n, updL_s, updL_n, nI_add, nI_1, nI_ltI, nI_leI, nI_eq, nI_clamp, li_n, m1_lt, m1_le, m1_gt, m1_ge, m1_ne, m1_en, m1_ad, nle_F, nle_T, nlt_F, nlt_T, neq_F, neq_T, or_self, or_false, false_or, true_or, or_true, and_self, and_false, false_and, true_and, and_true, not_true_eq_false, not_false_eq_true, ↓reduceIte, if_true, if_false, Nat.reduceAdd, ite_self, Bool.false_eq_true] at H
    cases H
    exact ⟨by omega, by omega, h6, fun c => by omega⟩
  · rw [show nd 14 = 0 from rfl, show gv 14 = 0 from rfl]
    simp (disch := omega) only [a11, a01, ↓li_m, ↓oc_some, ↓oc_ite, ↓oc_oc, ↓oc_pl, ↓oc_none, ↓oc_oe, ↓pl_eq, ↓oe_i, ↓oe_j, va_up_self, va_up_ne, va_up_up, upd_s, upd_n, updL_s, updL_n, nI_add, nI_1, nI_ltI, nI_leI, nI_eq, nI_clamp, li_n, m1_lt, m1_le, m1_gt, m1_ge, m1_ne, m1_en, m1_ad, nle_F, nle_T, nlt_F, nlt_T, neq_F, neq_T, or_self, or_false, false_or, true_or, or_true, and_self, and_false, false_and, true_and, and_true, not_true_eq_false, not_false_eq_true, ↓reduceIte, if_true, if_false, Nat.reduceAdd, ite_self, Bool.false_eq_true] at H
    cases H
    exact ⟨by omega, by omega, h6, fun c => by omega⟩
  · rw [show nd 15 = 0 from rfl, show gv 15 = 0 from rfl]
    simp (disch := omega) only [a11, a01, ↓li_m, ↓oc_some, ↓oc_ite, ↓oc_oc, ↓oc_pl, ↓oc_none, ↓oc_oe, ↓pl_eq, ↓oe_i, ↓oe_j, va_up_self, va_up_ne, va_up_up, upd_s, upd_n, updL_s, updL_n, nI_add, nI_1, nI_ltI, nI_leI, nI_eq, nI_clamp, li_n, m1_lt, m1_le, m1_gt, m1_ge, m1_ne, m1_en, m1_ad, nle_F, nle_T, nlt_F, nlt_T, neq_F, neq_T, or_self, or_false, false_or, true_or, or_true, and_self, and_false, false_and, true_and, and_true, not_true_eq_false, not_false_eq_true, ↓reduceIte, if_true, if_false, Nat.reduceAdd, ite_self, Bool.false_eq_true] at H
    cases H
    exact ⟨by omega, by omega, h6, fun c => by omega⟩
  · rw [show nd 16 = 0 from rfl, show gv 16 = 0 from rfl]
    simp (disch := omega) only [a11, a01, ↓li_m, ↓oc_some, ↓oc_ite, ↓oc_oc, ↓oc_pl, ↓oc_none, ↓oc_oe, ↓pl_eq, ↓oe_i, ↓oe_j, va_up_self, va_up_ne, va_up_up, upd_s, upd_n, updL_s, updL_n, nI_add, nI_1, nI_ltI, nI_leI, nI_eq, nI_clamp, li_n, m1_lt, m1_le, m1_gt, m1_ge, m1_ne, m1_en, m1_ad, nle_F, nle_T, nlt_F, nlt_T, neq_F, neq_T, or_self, or_false, false_or, true_or, or_true, and_self, and_false, false_and, true_and, and_true, not_true_eq_false, not_false_eq_true, ↓reduceIte, if_true, if_false, Nat.reduceAdd, ite_self, Bool.false_eq_true] at H
    cases H
    exact ⟨by omega, by omega, h6, fun c => by omega⟩
  · rw [show nd 17 = 0 from rfl, show gv 17 = 0 from rfl]
    simp (disch := omega) only [a11, a01, ↓li_m, ↓oc_some, ↓oc_ite, ↓oc_oc, ↓oc_pl, ↓oc_none, ↓oc_oe, ↓pl_eq, ↓oe_i, ↓oe_j, va_up_self, va_up_ne, va_up_up, upd_s, upd_n, updL_s, updL_n, nI_add, nI_1, nI_ltI, nI_leI, nI_eq, nI_clamp, li_n, m1_lt, m1_le, m1_gt, m1_ge, m1_ne, m1_en, m1_ad, nle_F, nle_T, nlt_F, nlt_T, neq_F, neq_T, or_self, or_false, false_or, true_or, or_true, and_self, and_false, false_and, true_and, and_true, not_true_eq_false, not_false_eq_true, ↓reduceIte, if_true, if_false, Nat.reduceAdd, ite_self, Bool.false_eq_true] at H
    obtain ⟨q1, H⟩ := ob_if H
    cases H
    exact ⟨by omega, by simp only; omega, by simp only; omega, fun c => by omega⟩
  · rw [show nd 18 = 0 from rfl, show gv 18 = 0 from rfl]
    simp (disch := omega) only [a11, a01, ↓li_m, ↓oc_some, ↓oc_ite, ↓oc_oc, ↓oc_pl, ↓oc_none, ↓oc_oe, ↓pl_eq, ↓oe_i, ↓oe_j, va_up_self, va_up_ne, va_up_up, upd_s, upd_n, updL_s, updL_n, nI_add, nI_1, nI_ltI, nI_leI, nI_eq, nI_clamp, li_n, m1_lt, m1_le, m1_gt, m1_ge, m1_ne, m1_en, m1_ad, nle_F, nle_T, nlt_F, nlt_T, neq_F, neq_T, or_self, or_false, false_or, true_or, or_true, and_self, and_false, false_and, true_and, and_true, not_true_eq_false, not_false_eq_true, ↓reduceIte, if_true, if_false, Nat.reduceAdd, ite_self, Bool.false_eq_true] at H
    obtain ⟨q1, H⟩ := ob_if H
    cases H
    exact ⟨by omega, by simp only; omega, by simp only; omega, fun c => by omega⟩
  · rw [show nd 19 = 1 from rfl, show gv 19 = 1 from rfl]
    simp (disch := omega) only [a11, a01, ↓li_m, ↓oc_some, ↓oc_ite, ↓oc_oc, ↓oc_pl, ↓oc_none, ↓oc_oe, ↓pl_eq, ↓oe_i, ↓oe_j, va_up_self, va_up_ne, va_up_up, upd_s, upd_n, updL_s, updL_n, nI_add, nI_1, nI_ltI, nI_leI, nI_eq, nI_clamp, li_n, m1_lt, m1_le, m1_gt, m1_ge, m1_ne, m1_en, m1_ad, nle_F, nle_T, nlt_F, nlt_T, neq_F, neq_T, or_self, or_false, false_or, true_or, or_true, and_self, and_false, false_and, true_and, and_true, not_true_eq_false, not_false_eq_true, ↓reduceIte, if_true, if_false, Nat.reduceAdd, ite_self, Bool.false_eq_true] at H
    obtain ⟨q1, H⟩ := ob_if H
    cases H
    exact ⟨by omega, by simp only; omega, by simp only; omega, fun c => by omega⟩
  · rw [show nd 20 = 1 from rfl, show gv 20 = 1 from rfl]
    simp (disch := omega) only [a11, a01, ↓li_m, ↓oc_some, ↓oc_ite, ↓oc_oc, ↓oc_pl, ↓oc_none, ↓oc_oe, ↓pl_eq, ↓oe_i, ↓oe_j, va_up_self, va_up_ne, va_up_up, upd_s, upd_n, updL_s, updL_n, nI_add, nI_1, nI_ltI, nI_leI, nI_eq, nI_clamp, li_n, m1_lt, m1_le, m1_gt, m1_ge, m1_ne, m1_en, m1_ad, nle_F, nle_T, nlt_F, nlt_T, neq_F, neq_T, or_self, or_false, false_or, true_or, or_true, and_self, and_false, false_and, true_and, and_true, not_true_eq_false, not_false_eq_true, ↓reduceIte, if_true, if_false, Nat.reduceAdd, ite_self, Bool.false_eq_true] at H
    obtain ⟨q1, H⟩ := ob_if H
    have := psh_h H
    exact ⟨by omega, by omega, by omega, fun c => by omega⟩
  · rw [show nd 21 = 2 from rfl, show gv 21 = 0 from rfl]
    simp (disch := omega) only [a11, a01, ↓li_m, ↓oc_some, ↓oc_ite, ↓oc_oc, ↓oc_pl, ↓oc_none, ↓oc_oe, ↓pl_eq, ↓oe_i, ↓oe_j, va_up_self, va_up_ne, va_up_up, upd_s, upd_n, updL_s, updL_n, nI_add, nI_1, nI_ltI, nI_leI, nI_eq, nI_clamp, li_n, m1_lt, m1_le, m1_gt, m1_ge, m1_ne, m1_en, m1_ad, nle_F, nle_T, nlt_F, nlt_T, neq_F, neq_T, or_self, or_false, false_or, true_or, or_true, and_self, and_false, false_and, true_and, and_true, not_true_eq_false, not_false_eq_true, ↓reduceIte, if_true, if_false, Nat.reduceAdd, ite_self, Bool.false_eq_true] at H
    obtain ⟨q1, H⟩ := ob_if H
    cases H
    exact ⟨by omega, by simp only; omega, by simp only; omega, fun c => by omega⟩
  · rw [show nd 22 = 2 from rfl, show gv 22 = 0 from rfl]
    simp (disch := omega) only [a11, a01, ↓li_m, ↓oc_some, ↓oc_ite, ↓oc_oc, ↓oc_pl, ↓oc_none, ↓oc_oe, ↓pl_eq, ↓oe_i, ↓oe_j, va_up_self, va_up_ne, va_up_up, upd_s, upd_n, updL_s, updL_n, nI_add, nI_1, nI_ltI, nI_leI, nI_eq, nI_clamp, li_n, m1_lt, m1_le, m1_gt, m1_ge, m1_ne, m1_en, m1_ad, nle_F, nle_T, nlt_F, nlt_T, neq_F, neq_T, or_self, or_false, false_or, true_or, or_true, and_self, and_false, false_and, true_and, and_true, not_true_eq_false, not_false_eq_true, ↓reduceIte, if_true, if_false, Nat.reduceAdd, ite_self, Bool.false_eq_true] at H
    obtain ⟨q1, H⟩ := ob_if H
    cases H
    exact ⟨by omega, by simp only; omega, by simp only; omega, fun c => by omega⟩
  · rw [show nd 23 = 0 from rfl, show gv 23 = 0 from rfl]
    simp (disch := omega) only [a11, a01, ↓li_m, ↓oc_some, ↓oc_ite, ↓oc_oc, ↓oc_pl, ↓oc_none, ↓oc_oe, ↓pl_eq, ↓oe_i, ↓oe_j, va_up_self, va_up_ne, va_up_up, upd_s, upd_n, updL_s, updL_n, nI_add, nI_1, nI_ltI, nI_leI, nI_eq, nI_clamp, li_n, m1_lt, m1_le, m1_gt, m1_ge, m1_ne, m1_en, m1_ad, nle_F, nle_T, nlt_F, nlt_T, neq_F, neq_T, or_self, or_false, false_or, true_or, or_true, and_self, and_false, false_and, true_and, and_true, not_true_eq_false, not_false_eq_true, ↓reduceIte, if_true, if_false, Nat.reduceAdd, ite_self, Bool.false_eq_true] at H
    obtain ⟨q1, H⟩ := ob_if H
    cases H
    exact ⟨by omega, by simp only; omega, by simp only; omega, fun c => by omega⟩
  · rw [show nd 24 = 0 from rfl, show gv 24 = 0 from rfl]
    simp (disch := omega) only [a11, a01, ↓li_m, ↓oc_some, ↓oc_ite, ↓oc_oc, ↓oc_pl, ↓oc_none, ↓oc_oe, ↓pl_eq, ↓oe_i, ↓oe_j, va_up_self, va_up_ne, va_up_up, upd_s, upd_n, updL_s, updL_n, nI_add, nI_1, nI_ltI, nI_leI, nI_eq, nI_clamp, li_n, m1_lt, m1_le, m1_gt, m1_ge, m1_ne, m1_en, m1_ad, nle_F, nle_T, nlt_F, nlt_T, neq_F, neq_T, or_self, or_false, false_or, true_or, or_true, and_self, and_false, false_and, true_and, and_true, not_true_eq_false, not_false_eq_true, ↓reduceIte, if_true, if_false, Nat.reduceAdd, ite_self, Bool.false_eq_true] at H
    obtain ⟨q1, H⟩ := ob_if H
    cases H
    exact ⟨by omega, by simp only; omega, by simp only; omega, fun c => by omega⟩
  · rw [show nd 25 = 0 from rfl, show gv 25 = 0 from rfl]
    simp (disch := omega) only [a11, a01, ↓li_m, ↓oc_some, ↓oc_ite, ↓oc_oc, ↓oc_pl, ↓oc_none, ↓oc_oe, ↓pl_eq, ↓oe_i, ↓oe_j, va_up_self, va_up_ne, va_up_up, upd_s, upd_n, updL_s, updL_n, nI_add, nI_1, nI_ltI, nI_leI, nI_eq, nI_clamp, li_n, m1_lt, m1_le, m1_gt, m1_ge, m1_ne, m1_en, m1_ad, nle_F, nle_T, nlt_F, nlt_T, neq_F, neq_T, or_self, or_false, false_or, true_or, or_true, and_self, and_false, false_and, true_and, and_true, not_true_eq_false, not_false_eq_true, ↓reduceIte, if_true, if_false, Nat.reduceAdd, ite_self, Bool.false_eq_true] at H
    obtain ⟨q1, H⟩ := ob_if H
    cases H
    exact ⟨by omega, by simp only; omega, by simp only; omega, fun c => by omega⟩
  · rw [show nd 26 = 0 from rfl, show gv 26 = 1 from rfl]
    simp (disch := omega) only [a11, a01, ↓li_m, ↓oc_some, ↓oc_ite, ↓oc_oc, ↓oc_pl, ↓oc_none, ↓oc_oe, ↓pl_eq, ↓oe_i, ↓oe_j, va_up_self, va_up_ne, va_up_up, upd_s, upd_n, updL_s, updL_n, nI_add, nI_1, nI_ltI, nI_leI, nI_eq, nI_clamp, li_n, m1_lt, m1_le, m1_gt, m1_ge, m1_ne, m1_en, m1_ad, nle_F, nle_T, nlt_F, nlt_T, neq_F, neq_T, or_self, or_false, false_or, true_or, or_true, and_self, and_false, false_and, true_and, and_true, not_true_eq_false, not_false_eq_true, ↓reduceIte, if_true, if_false, Nat.reduceAdd, ite_self, Bool.false_eq_true] at H
    have := psh_h H
    exact ⟨by omega, by omega, by omega, fun c => by omega⟩
  · rw [show nd 27 = 0 from rfl, show gv 27 = 0 from rfl]
    simp (disch := omega) only [a11, a01, ↓li_m, ↓oc_some, ↓oc_ite, ↓oc_oc, ↓oc_pl, ↓oc_none, ↓oc_oe, ↓pl_eq, ↓oe_i, ↓oe_j, va_up_self, va_up_ne, va_up_up, upd_s, upd_n, updL_s, updL_n, nI_add, nI_1, nI_ltI, nI_leI, nI_eq, nI_clamp, li_n, m1_lt, m1_le, m1_gt, m1_ge, m1_ne, m1_en, m1_ad, nle_F, nle_T, nlt_F, nlt_T, neq_F, neq_T, or_self, or_false, false_or, true_or, or_true, and_self, and_false, false_and, true_and, and_true, not_true_eq_false, not_false_eq_true, ↓reduceIte, if_true, if_false, Nat.reduceAdd, ite_self, Bool.false_eq_true] at H
    cases H
    exact ⟨by omega, by omega, h6, fun c => by omega⟩
  · rw [show nd 28 = 0 from rfl, show gv 28 = 0 from rfl]
    simp (disch := omega) only [a11, a01, ↓li_m, ↓oc_some, ↓oc_ite, ↓oc_oc, ↓oc_pl, ↓oc_none, ↓oc_oe, ↓pl_eq, ↓oe_i, ↓oe_j, va_up_self, va_up_ne, va_up_up, upd_s, upd_n, updL_s, updL_n, nI_add, nI_1, nI_ltI, nI_leI, nI_eq, nI_clamp, li_n, m1_lt, m1_le, m1_gt, m1_ge, m1_ne, m1_en, m1_ad, nle_F, nle_T, nlt_F, nlt_T, neq_F, neq_T, or_self, or_false, false_or, true_or, or_true, and_self, and_false, false_and, true_and, and_true, not_true_eq_false, not_false_eq_true, ↓reduceIte, if_true, if_false, Nat.reduceAdd, ite_self, Bool.false_eq_true] at H
    obtain ⟨q1, H⟩ := ob_if H
    cases H
    exact ⟨by omega, by simp only; omega, by simp only; omega, fun c => by omega⟩
  · rw [show nd 29 = 0 from rfl, show gv 29 = 0 from rfl]
    simp (disch := omega) only [a11, a01, ↓li_m, ↓oc_some, ↓oc_ite, ↓oc_oc, ↓oc_pl, ↓oc_none, ↓oc_oe, ↓pl_eq, ↓oe_i, ↓oe_j, va_up_self, va_up_ne, va_up_up, upd_s, upd_n, updL_s, updL_n, nI_add, nI_1, nI_ltI, nI_leI, nI_eq, nI_clamp, li_n, m1_lt, m1_le, m1_gt, m1_ge, m1_ne, m1_en, m1_ad, nle_F, nle_T, nlt_F, nlt_T, neq_F, neq_T, or_self, or_false, false_or, true_or, or_true, and_self, and_false, false_and, true_and, and_true, not_true_eq_false, not_false_eq_true, ↓reduceIte, if_true, if_false, Nat.reduceAdd, ite_self, Bool.false_eq_true] at H
    obtain ⟨q1, H⟩ := ob_if H
    cases H
    exact ⟨by omega, by simp only; omega, by simp only; omega, fun c => by omega⟩
theorem p1_ext {cd : Nat → Nat} {n P N : Nat} : ∀ (d k o : Nat) (l : Int32) (g g' : Nat → Int32), (∀ j, j < N → g j = g' j) → (p1 cd n P d k l o g).1 = (p1 cd n P d k l o g').1 ∧ (p1 cd n P d k l o g).2.1 = (p1 cd n P d k l o g').2.1 ∧ (p1 cd n P d k l o g).2.2.1 = (p1 cd n P d k l o g').2.2.1 ∧ ∀ j, j < N → (p1 cd n P d k l o g).2.2.2 j = (p1 cd n P d k l o g').2.2.2 j := by
  intro d
  induction d with
  | zero => intro k o l g g' h; exact ⟨rfl, rfl, rfl, h⟩
  | succ d ih =>
    intro k o l g g' h
    rw [p1, p1]
    by_cases q : n ≤ k
    · rw [if_pos q, if_pos q]
      exact ⟨rfl, rfl, rfl, h⟩
    · rw [if_neg q, if_neg q]
      by_cases q1 : cd k ≤ 29 ∧ k + opl (cd k) ≤ n ∧ opok cd P k = true
      · rw [if_pos q1, if_pos q1]
        refine ih _ _ _ _ _ (fun j hj => ?_)
        by_cases e : j = k
        · rw [e, upd_s, upd_s]
        · rw [upd_n _ _ e, upd_n _ _ e, h j hj]
      · rw [if_neg q1, if_neg q1]
        exact ⟨rfl, rfl, rfl, h⟩
theorem c2_ext {cd : Nat → Nat} {n : Nat} {g g' : Nat → Int32} (hg : ∀ j, j < n → g j = g' j) : ∀ (d : Nat) (t t' : Nat → Int32), d ≤ n → (∀ j, j < n → t j = t' j) → (c2 cd n g d t).1 = (c2 cd n g' d t').1 ∧ ∀ j, j < n → (c2 cd n g d t).2 j = (c2 cd n g' d t').2 j := by
  intro d
  induction d with
  | zero => intro t t' _ h; exact ⟨rfl, h⟩
  | succ d ih =>
    intro t t' hd h
    rw [c2, c2, hg (n - (d + 1)) (by omega)]
    by_cases q : g' (n - (d + 1)) = nI 1 ∧ isj (cd (n - (d + 1)))
    · rw [if_pos q, if_pos q]
      by_cases q1 : tgt cd (n - (d + 1)) < n
      · rw [hg _ q1]
        by_cases q2 : g' (tgt cd (n - (d + 1))) = nI 1
        · rw [if_pos ⟨q1, q2⟩, if_pos ⟨q1, q2⟩]
          refine ih _ _ (by omega) (fun j hj => ?_)
          by_cases e : j = tgt cd (n - (d + 1))
          · rw [e, upd_s, upd_s]
          · rw [upd_n _ _ e, upd_n _ _ e, h j hj]
        · rw [if_neg (fun c => q2 c.2), if_neg (fun c => q2 c.2)]
          exact ⟨rfl, h⟩
      · rw [if_neg (fun c => q1 c.1), if_neg (fun c => q1 c.1)]
        exact ⟨rfl, h⟩
    · rw [if_neg q, if_neg q]
      exact ih _ _ (by omega) h
theorem c3_ext {cd : Nat → Nat} {n : Nat} {g g' t t' : Nat → Int32} (hg : ∀ j, j < n → g j = g' j) (ht : ∀ j, j < n → t j = t' j) : ∀ (d h : Nat) (sf : Nat → Bool), d ≤ n → c3 cd n g t d h sf = c3 cd n g' t' d h sf := by
  intro d
  induction d with
  | zero => intro h sf _; rfl
  | succ d ih =>
    intro h sf hd
    rw [c3, c3, hg _ (show n - (d + 1) < n by omega), ht _ (show n - (d + 1) < n by omega), ih h sf (by omega)]
    cases fl (cd (n - (d + 1))) (cd (n - (d + 1) + 1)) (cd (n - (d + 1) + 2)) (cd (n - (d + 1) + 3)) h sf with
    | none => rfl
    | some x =>
      show (if g' (n - (d + 1)) = nI 1 then (if ¬ t' (n - (d + 1)) = nI 0 ∧ 0 < h then some (n - (d + 1)) else c3 cd n g t d x.1 x.2) else c3 cd n g' t' d h sf) = _
      rw [ih x.1 x.2 (by omega)]
theorem c2_tg {cd : Nat → Nat} {n : Nat} {g : Nat → Int32} : ∀ (d : Nat) (t : Nat → Int32), d ≤ n → (c2 cd n g d t).1 = none → (∀ j, t j = nI 1 → (c2 cd n g d t).2 j = nI 1) ∧ ∀ k, n - d ≤ k → k < n → g k = nI 1 → isj (cd k) → tgt cd k < n ∧ g (tgt cd k) = nI 1 ∧ (c2 cd n g d t).2 (tgt cd k) = nI 1 := by
  intro d
  induction d with
  | zero => intro t _ _; exact ⟨fun j h => h, fun k h1 h2 => by omega⟩
  | succ d ih =>
    intro t hd H
    rw [c2] at H ⊢
    by_cases q : g (n - (d + 1)) = nI 1 ∧ isj (cd (n - (d + 1)))
    · rw [if_pos q] at H ⊢
      by_cases q2 : tgt cd (n - (d + 1)) < n ∧ g (tgt cd (n - (d + 1))) = nI 1
      · rw [if_pos q2] at H ⊢
        obtain ⟨i1, i2⟩ := ih _ (by omega) H
        refine ⟨fun j hj => i1 j ?_, fun k h1 h2 h3 h4 => ?_⟩
        · by_cases e : j = tgt cd (n - (d + 1))
          · rw [e, upd_s]
          · rw [upd_n _ _ e, hj]
        · by_cases e : k = n - (d + 1)
          · subst e
            exact ⟨q2.1, q2.2, i1 _ (upd_s _ _ _)⟩
          · exact i2 k (by omega) h2 h3 h4
      · rw [if_neg q2] at H
        cases H
    · rw [if_neg q] at H ⊢
      obtain ⟨i1, i2⟩ := ih _ (by omega) H
      refine ⟨i1, fun k h1 h2 h3 h4 => ?_⟩
      by_cases e : k = n - (d + 1)
      · subst e
        exact absurd ⟨h3, h4⟩ q
      · exact i2 k (by omega) h2 h3 h4
theorem c3_ok {cd : Nat → Nat} {n : Nat} {g t : Nat → Int32} (h29 : ∀ k, k < n → g k = nI 1 → cd k ≤ 29) : ∀ (d h : Nat) (sf : Nat → Bool), d ≤ n → h ≤ 64 → c3 cd n g t d h sf = none → ∃ hg : Nat → Nat, hg (n - d) = h ∧ ∀ k, n - d ≤ k → k < n → (g k = nI 1 → (¬ t k = nI 0 → hg k = 0) ∧ nd (cd k) ≤ hg k ∧ hg (k + 1) = hg k - nd (cd k) + gv (cd k) ∧ hg (k + 1) ≤ 64 ∧ (ctl (cd k) → hg k = 0)) ∧ (¬ g k = nI 1 → hg (k + 1) = hg k) := by
  intro d
  induction d with
  | zero => intro h sf _ _ _; exact ⟨fun _ => h, rfl, fun k h1 h2 => by omega⟩
  | succ d ih =>
    intro h sf hd h6 H
    rw [c3] at H
    have he : n - (d + 1) + 1 = n - d := by omega
    have hlt : n - (d + 1) < n := by omega
    generalize n - (d + 1) = a at he hlt H ⊢
    have fin : ∀ (hg : Nat → Nat), ((g a = nI 1 → (¬ t a = nI 0 → h = 0) ∧ nd (cd a) ≤ h ∧ hg (a + 1) = h - nd (cd a) + gv (cd a) ∧ hg (a + 1) ≤ 64 ∧ (ctl (cd a) → h = 0)) ∧ (¬ g a = nI 1 → hg (a + 1) = h)) → (∀ k, n - d ≤ k → k < n → (g k = nI 1 → (¬ t k = nI 0 → hg k = 0) ∧ nd (cd k) ≤ hg k ∧ hg (k + 1) = hg k - nd (cd k) + gv (cd k) ∧ hg (k + 1) ≤ 64 ∧ (ctl (cd k) → hg k = 0)) ∧ (¬ g k = nI 1 → hg (k + 1) = hg k)) → ∃ hg : Nat → Nat, hg a = h ∧ ∀ k, a ≤ k → k < n → (g k = nI 1 → (¬ t k = nI 0 → hg k = 0) ∧ nd (cd k) ≤ hg k ∧ hg (k + 1) = hg k - nd (cd k) + gv (cd k) ∧ hg (k + 1) ≤ 64 ∧ (ctl (cd k) → hg k = 0)) ∧ (¬ g k = nI 1 → hg (k + 1) = hg k) := by
      intro hg h1 h2
      refine ⟨fun j => if j = a then h else hg j, if_pos rfl, fun k hk1 hk2 => ?_⟩
      simp only
      rw [if_neg (show ¬ k + 1 = a by omega)]
      by_cases e : k = a
      · subst e
        rw [if_pos rfl]
        exact h1
      · rw [if_neg e]
        exact h2 k (by omega) hk2
    by_cases q : g a = nI 1
    · rw [if_pos q] at H
      by_cases qt : ¬ t a = nI 0 ∧ 0 < h
      · rw [if_pos qt] at H
        cases H
      · rw [if_neg qt] at H
        cases hfl : fl (cd a) (cd (a + 1)) (cd (a + 2)) (cd (a + 3)) h sf with
        | none => rw [hfl] at H; cases H
        | some x =>
          rw [hfl] at H
          obtain ⟨f1, f2, f3, f4⟩ := fl_h hfl (h29 a hlt q) h6
          obtain ⟨hg, i1, i2⟩ := ih x.1 x.2 (by omega) f3 H
          rw [← he] at i1
          refine fin hg ⟨fun _ => ⟨fun c => ?_, f1, by rw [i1, f2], by rw [i1]; exact f3, f4⟩, fun c => absurd q c⟩ i2
          have : ¬ 0 < h := fun c2 => qt ⟨c, c2⟩
          omega
    · rw [if_neg q] at H
      obtain ⟨hg, i1, i2⟩ := ih h sf (by omega) h6 H
      rw [← he] at i1
      exact fin hg ⟨fun c => absurd c q, fun _ => i1⟩ i2

