/-! compile: numbers -/
theorem lit_step {v c : Nat} (h1 : 48 ≤ c) (h2 : c < 2 ^ 31) : (10 * lN v + Int32.toInt64 (nI c)) - 48 = lN (10 * v + (c - 48)) := by
  rw [nI_l h2, show (10 : Int64) = lN 10 from rfl, lN_mul, lN_add, show (48 : Int64) = lN 48 from rfl, lN_sub (by omega)]
  congr 1
  omega
section CM
variable {n P m D U k p c : Nat} {t : Nat → Nat} {J J' : MJ} {f8 f9 g2 g3 g4 g5 : Nat → Int32} {cc cm : Nat → Nat}
theorem LIT (ht : tpOK n t) : ∀ (d fu fu' i q v : Nat) (I I' : MI), i + d = 18 → d < fu → d < fu' → v < 10 ^ i → CA n t P I q m D U k p f8 f9 cc → MA n t P I' q m D U k p g2 g3 g4 g5 c cm → ∃ v1 r I1 I1' q1, f_Translator_literal_4 fu (lN v) (nI i) I J = some (lN v1, I1, J) ∧ f_Model_readNumber_4 fu' (lN v) (nI i) I' J' = some (r, I1', J') ∧ q ≤ q1 ∧ (0 < d → q < n → 48 ≤ t q → t q ≤ 57 → q < q1) ∧ v1 < 10 ^ 18 ∧ CA n t P I1 q1 m D U k p f8 f9 cc ∧ I1' 112 73 = I' 112 73 ∧ ((r = .inr (lN v1) ∧ MA n t P I1' q1 m D U k p g2 g3 g4 g5 c cm) ∨ (r = .inl 0 ∧ q1 < n ∧ 48 ≤ t q1 ∧ t q1 ≤ 57 ∧ I1' 112 3 = nI 1 ∧ I1' 112 4 = nI q1)) := by
  intro d
  induction d with
  | zero =>
    intro fu fu' i q v I I' e1 e2 e3 e4 h h'
    obtain ⟨f, rfl⟩ : ∃ f, fu = f + 1 := ⟨fu - 1, by omega⟩
    obtain ⟨f', rfl⟩ : ∃ f, fu' = f + 1 := ⟨fu' - 1, by omega⟩
    have hi : i = 18 := by omega
    subst hi
    have hn := ht.1
    have c1 : f_Translator_literal_4 (f + 1) (lN v) (nI 18) I J = some (lN v, I, J) := by
      rw [f_Translator_literal_4]
      simp (disch := omega) only [a11, a01, ↓li_m, ↓oc_some, ↓oc_ite, ↓oc_oc, ↓oc_pl, ↓oc_none, ↓oc_oe, ↓pl_eq, ↓oe_i, ↓oe_j, va_up_self, va_up_ne, va_up_up, upd_s, upd_n, updL_s, updL_n, nI_add, nI_1, nI_ltI, nI_leI, nI_eq, nI_clamp, li_n, m1_lt, m1_le, m1_gt, m1_ge, m1_ne, m1_en, m1_ad, nle_F, nle_T, nlt_F, nlt_T, neq_F, neq_T, or_self, or_false, false_or, true_or, or_true, and_self, and_false, false_and, true_and, and_true, not_true_eq_false, not_false_eq_true, ↓reduceIte, if_true, if_false, Nat.reduceAdd, ite_self, Bool.false_eq_true]
    obtain ⟨⟨h1, h2⟩, h3, h4, h5, h6, h7, h8, h9, h10, h11, h16, h17⟩ := id h'
    by_cases x : q < n
    · have b1 := ht.2 q x
      have b2 := h2 q x
      by_cases y : 48 ≤ t q ∧ t q ≤ 57
      · refine ⟨v, .inl 0, I, va_up I' 112 (upd (upd (I' 112) 3 (nI 1)) 4 (nI q)), q, c1, ?_, Nat.le_refl q, fun c => by omega, e4, h, by simp (disch := omega) only [a11, a01, ↓li_m, ↓oc_some, ↓oc_ite, ↓oc_oc, ↓oc_pl, ↓oc_none, ↓oc_oe, ↓pl_eq, ↓oe_i, ↓oe_j, va_up_self, va_up_ne, va_up_up, upd_s, upd_n, updL_s, updL_n, nI_add, nI_1, nI_ltI, nI_leI, nI_eq, nI_clamp, li_n, m1_lt, m1_le, m1_gt, m1_ge, m1_ne, m1_en, m1_ad, nle_F, nle_T, nlt_F, nlt_T, neq_F, neq_T, or_self, or_false, false_or, true_or, or_true, and_self, and_false, false_and, true_and, and_true, not_true_eq_false, not_false_eq_true, ↓reduceIte, if_true, if_false, Nat.reduceAdd, ite_self, Bool.false_eq_true], Or.inr ⟨rfl, x, y.1, y.2, by simp (disch := omega) only [a11, a01, ↓li_m, ↓oc_some, ↓oc_ite, ↓oc_oc, ↓oc_pl, ↓oc_none, ↓oc_oe, ↓pl_eq, ↓oe_i, ↓oe_j, va_up_self, va_up_ne, va_up_up, upd_s, upd_n, updL_s, updL_n, nI_add, nI_1, nI_ltI, nI_leI, nI_eq, nI_clamp, li_n, m1_lt, m1_le, m1_gt, m1_ge, m1_ne, m1_en, m1_ad, nle_F, nle_T, nlt_F, nlt_T, neq_F, neq_T, or_self, or_false, false_or, true_or, or_true, and_self, and_false, false_and, true_and, and_true, not_true_eq_false, not_false_eq_true, ↓reduceIte, if_true, if_false, Nat.reduceAdd, ite_self, Bool.false_eq_true], by simp (disch := omega) only [a11, a01, ↓li_m, ↓oc_some, ↓oc_ite, ↓oc_oc, ↓oc_pl, ↓oc_none, ↓oc_oe, ↓pl_eq, ↓oe_i, ↓oe_j, va_up_self, va_up_ne, va_up_up, upd_s, upd_n, updL_s, updL_n, nI_add, nI_1, nI_ltI, nI_leI, nI_eq, nI_clamp, li_n, m1_lt, m1_le, m1_gt, m1_ge, m1_ne, m1_en, m1_ad, nle_F, nle_T, nlt_F, nlt_T, neq_F, neq_T, or_self, or_false, false_or, true_or, or_true, and_self, and_false, false_and, true_and, and_true, not_true_eq_false, not_false_eq_true, ↓reduceIte, if_true, if_false, Nat.reduceAdd, ite_self, Bool.false_eq_true]⟩⟩
        rw [f_Model_readNumber_4]
        simp (disch := omega) only [a11, a01, ↓li_m, ↓oc_some, ↓oc_ite, ↓oc_oc, ↓oc_pl, ↓oc_none, ↓oc_oe, ↓pl_eq, ↓oe_i, ↓oe_j, va_up_self, va_up_ne, va_up_up, upd_s, upd_n, updL_s, updL_n, nI_add, nI_1, nI_ltI, nI_leI, nI_eq, nI_clamp, li_n, m1_lt, m1_le, m1_gt, m1_ge, m1_ne, m1_en, m1_ad, nle_F, nle_T, nlt_F, nlt_T, neq_F, neq_T, or_self, or_false, false_or, true_or, or_true, and_self, and_false, false_and, true_and, and_true, not_true_eq_false, not_false_eq_true, ↓reduceIte, if_true, if_false, Nat.reduceAdd, ite_self, Bool.false_eq_true, h1, h4, b2]
      · refine ⟨v, .inr (lN v), I, I', q, c1, ?_, Nat.le_refl q, fun c => by omega, e4, h, rfl, Or.inl ⟨rfl, h'⟩⟩
        rw [f_Model_readNumber_4]
        by_cases z : t q < 48
        · simp (disch := omega) only [a11, a01, ↓li_m, ↓oc_some, ↓oc_ite, ↓oc_oc, ↓oc_pl, ↓oc_none, ↓oc_oe, ↓pl_eq, ↓oe_i, ↓oe_j, va_up_self, va_up_ne, va_up_up, upd_s, upd_n, updL_s, updL_n, nI_add, nI_1, nI_ltI, nI_leI, nI_eq, nI_clamp, li_n, m1_lt, m1_le, m1_gt, m1_ge, m1_ne, m1_en, m1_ad, nle_F, nle_T, nlt_F, nlt_T, neq_F, neq_T, or_self, or_false, false_or, true_or, or_true, and_self, and_false, false_and, true_and, and_true, not_true_eq_false, not_false_eq_true, ↓reduceIte, if_true, if_false, Nat.reduceAdd, ite_self, Bool.false_eq_true, h1, h4, b2]
        · simp (disch := omega) only [a11, a01, ↓li_m, ↓oc_some, ↓oc_ite, ↓oc_oc, ↓oc_pl, ↓oc_none, ↓oc_oe, ↓pl_eq, ↓oe_i, ↓oe_j, va_up_self, va_up_ne, va_up_up, upd_s, upd_n, updL_s, updL_n, nI_add, nI_1, nI_ltI, nI_leI, nI_eq, nI_clamp, li_n, m1_lt, m1_le, m1_gt, m1_ge, m1_ne, m1_en, m1_ad, nle_F, nle_T, nlt_F, nlt_T, neq_F, neq_T, or_self, or_false, false_or, true_or, or_true, and_self, and_false, false_and, true_and, and_true, not_true_eq_false, not_false_eq_true, ↓reduceIte, if_true, if_false, Nat.reduceAdd, ite_self, Bool.false_eq_true, h1, h4, b2]
    · refine ⟨v, .inr (lN v), I, I', q, c1, ?_, Nat.le_refl q, fun c => by omega, e4, h, rfl, Or.inl ⟨rfl, h'⟩⟩
      rw [f_Model_readNumber_4]
      simp (disch := omega) only [a11, a01, ↓li_m, ↓oc_some, ↓oc_ite, ↓oc_oc, ↓oc_pl, ↓oc_none, ↓oc_oe, ↓pl_eq, ↓oe_i, ↓oe_j, va_up_self, va_up_ne, va_up_up, upd_s, upd_n, updL_s, updL_n, nI_add, nI_1, nI_ltI, nI_leI, nI_eq, nI_clamp, li_n, m1_lt, m1_le, m1_gt, m1_ge, m1_ne, m1_en, m1_ad, nle_F, nle_T, nlt_F, nlt_T, neq_F, neq_T, or_self, or_false, false_or, true_or, or_true, and_self, and_false, false_and, true_and, and_true, not_true_eq_false, not_false_eq_true, ↓reduceIte, if_true, if_false, Nat.reduceAdd, ite_self, Bool.false_eq_true, h1, h4]
  | succ d ih =>
    intro fu fu' i q v I I' e1 e2 e3 e4 h h'
    obtain ⟨f, rfl⟩ : ∃ f, fu = f + 1 := ⟨fu - 1, by omega⟩
    obtain ⟨f', rfl⟩ : ∃ f, fu' = f + 1 := ⟨fu' - 1, by omega⟩
    have hn := ht.1
    obtain ⟨⟨h1, h2⟩, h3, h4, h5, h6, h7, h8, h9, h10, h11, h16, h17⟩ := id h'
    obtain ⟨⟨j1, j2⟩, j3, j4, j5, j6, j7, j8, j9, j10, j11, j12, j13, j14⟩ := id h
    by_cases x : q < n
    · have b1 := ht.2 q x
      have b2 := h2 q x
      have b3 := j2 q x
      by_cases y : 48 ≤ t q ∧ t q ≤ 57
      · obtain ⟨I2', p1, p2, p3, p4⟩ := PM h' x
        have hA : CA n t P (va_up I 3 (upd (I 3) 5 (nI (q + 1)))) (q + 1) m D U k p f8 f9 cc := ⟨⟨by simp (disch := omega) only [a11, a01, ↓li_m, ↓oc_some, ↓oc_ite, ↓oc_oc, ↓oc_pl, ↓oc_none, ↓oc_oe, ↓pl_eq, ↓oe_i, ↓oe_j, va_up_self, va_up_ne, va_up_up, upd_s, upd_n, updL_s, updL_n, nI_add, nI_1, nI_ltI, nI_leI, nI_eq, nI_clamp, li_n, m1_lt, m1_le, m1_gt, m1_ge, m1_ne, m1_en, m1_ad, nle_F, nle_T, nlt_F, nlt_T, neq_F, neq_T, or_self, or_false, false_or, true_or, or_true, and_self, and_false, false_and, true_and, and_true, not_true_eq_false, not_false_eq_true, ↓reduceIte, if_true, if_false, Nat.reduceAdd, ite_self, Bool.false_eq_true, j1], by simp (disch := omega) only [a11, a01, ↓li_m, ↓oc_some, ↓oc_ite, ↓oc_oc, ↓oc_pl, ↓oc_none, ↓oc_oe, ↓pl_eq, ↓oe_i, ↓oe_j, va_up_self, va_up_ne, va_up_up, upd_s, upd_n, updL_s, updL_n, nI_add, nI_1, nI_ltI, nI_leI, nI_eq, nI_clamp, li_n, m1_lt, m1_le, m1_gt, m1_ge, m1_ne, m1_en, m1_ad, nle_F, nle_T, nlt_F, nlt_T, neq_F, neq_T, or_self, or_false, false_or, true_or, or_true, and_self, and_false, false_and, true_and, and_true, not_true_eq_false, not_false_eq_true, ↓reduceIte, if_true, if_false, Nat.reduceAdd, ite_self, Bool.false_eq_true]; exact j2⟩, by simp (disch := omega) only [a11, a01, ↓li_m, ↓oc_some, ↓oc_ite, ↓oc_oc, ↓oc_pl, ↓oc_none, ↓oc_oe, ↓pl_eq, ↓oe_i, ↓oe_j, va_up_self, va_up_ne, va_up_up, upd_s, upd_n, updL_s, updL_n, nI_add, nI_1, nI_ltI, nI_leI, nI_eq, nI_clamp, li_n, m1_lt, m1_le, m1_gt, m1_ge, m1_ne, m1_en, m1_ad, nle_F, nle_T, nlt_F, nlt_T, neq_F, neq_T, or_self, or_false, false_or, true_or, or_true, and_self, and_false, false_and, true_and, and_true, not_true_eq_false, not_false_eq_true, ↓reduceIte, if_true, if_false, Nat.reduceAdd, ite_self, Bool.false_eq_true, j3], by simp (disch := omega) only [a11, a01, ↓li_m, ↓oc_some, ↓oc_ite, ↓oc_oc, ↓oc_pl, ↓oc_none, ↓oc_oe, ↓pl_eq, ↓oe_i, ↓oe_j, va_up_self, va_up_ne, va_up_up, upd_s, upd_n, updL_s, updL_n, nI_add, nI_1, nI_ltI, nI_leI, nI_eq, nI_clamp, li_n, m1_lt, m1_le, m1_gt, m1_ge, m1_ne, m1_en, m1_ad, nle_F, nle_T, nlt_F, nlt_T, neq_F, neq_T, or_self, or_false, false_or, true_or, or_true, and_self, and_false, false_and, true_and, and_true, not_true_eq_false, not_false_eq_true, ↓reduceIte, if_true, if_false, Nat.reduceAdd, ite_self, Bool.false_eq_true], by simp (disch := omega) only [a11, a01, ↓li_m, ↓oc_some, ↓oc_ite, ↓oc_oc, ↓oc_pl, ↓oc_none, ↓oc_oe, ↓pl_eq, ↓oe_i, ↓oe_j, va_up_self, va_up_ne, va_up_up, upd_s, upd_n, updL_s, updL_n, nI_add, nI_1, nI_ltI, nI_leI, nI_eq, nI_clamp, li_n, m1_lt, m1_le, m1_gt, m1_ge, m1_ne, m1_en, m1_ad, nle_F, nle_T, nlt_F, nlt_T, neq_F, neq_T, or_self, or_false, false_or, true_or, or_true, and_self, and_false, false_and, true_and, and_true, not_true_eq_false, not_false_eq_true, ↓reduceIte, if_true, if_false, Nat.reduceAdd, ite_self, Bool.false_eq_true, j5], by simp (disch := omega) only [a11, a01, ↓li_m, ↓oc_some, ↓oc_ite, ↓oc_oc, ↓oc_pl, ↓oc_none, ↓oc_oe, ↓pl_eq, ↓oe_i, ↓oe_j, va_up_self, va_up_ne, va_up_up, upd_s, upd_n, updL_s, updL_n, nI_add, nI_1, nI_ltI, nI_leI, nI_eq, nI_clamp, li_n, m1_lt, m1_le, m1_gt, m1_ge, m1_ne, m1_en, m1_ad, nle_F, nle_T, nlt_F, nlt_T, neq_F, neq_T, or_self, or_false, false_or, true_or, or_true, and_self, and_false, false_and, true_and, and_true, not_true_eq_false, not_false_eq_true, ↓reduceIte, if_true, if_false, Nat.reduceAdd, ite_self, Bool.false_eq_true, j6], by simp (disch := omega) only [a11, a01, ↓li_m, ↓oc_some, ↓oc_ite, ↓oc_oc, ↓oc_pl, ↓oc_none, ↓oc_oe, ↓pl_eq, ↓oe_i, ↓oe_j, va_up_self, va_up_ne, va_up_up, upd_s, upd_n, updL_s, updL_n, nI_add, nI_1, nI_ltI, nI_leI, nI_eq, nI_clamp, li_n, m1_lt, m1_le, m1_gt, m1_ge, m1_ne, m1_en, m1_ad, nle_F, nle_T, nlt_F, nlt_T, neq_F, neq_T, or_self, or_false, false_or, true_or, or_true, and_self, and_false, false_and, true_and, and_true, not_true_eq_false, not_false_eq_true, ↓reduceIte, if_true, if_false, Nat.reduceAdd, ite_self, Bool.false_eq_true, j7], by simp (disch := omega) only [a11, a01, ↓li_m, ↓oc_some, ↓oc_ite, ↓oc_oc, ↓oc_pl, ↓oc_none, ↓oc_oe, ↓pl_eq, ↓oe_i, ↓oe_j, va_up_self, va_up_ne, va_up_up, upd_s, upd_n, updL_s, updL_n, nI_add, nI_1, nI_ltI, nI_leI, nI_eq, nI_clamp, li_n, m1_lt, m1_le, m1_gt, m1_ge, m1_ne, m1_en, m1_ad, nle_F, nle_T, nlt_F, nlt_T, neq_F, neq_T, or_self, or_false, false_or, true_or, or_true, and_self, and_false, false_and, true_and, and_true, not_true_eq_false, not_false_eq_true, ↓reduceIte, if_true, if_false, Nat.reduceAdd, ite_self, Bool.false_eq_true, j8], by simp (disch := omega) only [a11, a01, ↓li_m, ↓oc_some, ↓oc_ite, ↓oc_oc, ↓oc_pl, ↓oc_none, ↓oc_oe, ↓pl_eq, ↓oe_i, ↓oe_j, va_up_self, va_up_ne, va_up_up, upd_s, upd_n, updL_s, updL_n, nI_add, nI_1, nI_ltI, nI_leI, nI_eq, nI_clamp, li_n, m1_lt, m1_le, m1_gt, m1_ge, m1_ne, m1_en, m1_ad, nle_F, nle_T, nlt_F, nlt_T, neq_F, neq_T, or_self, or_false, false_or, true_or, or_true, and_self, and_false, false_and, true_and, and_true, not_true_eq_false, not_false_eq_true, ↓reduceIte, if_true, if_false, Nat.reduceAdd, ite_self, Bool.false_eq_true, j9], by simp (disch := omega) only [a11, a01, ↓li_m, ↓oc_some, ↓oc_ite, ↓oc_oc, ↓oc_pl, ↓oc_none, ↓oc_oe, ↓pl_eq, ↓oe_i, ↓oe_j, va_up_self, va_up_ne, va_up_up, upd_s, upd_n, updL_s, updL_n, nI_add, nI_1, nI_ltI, nI_leI, nI_eq, nI_clamp, li_n, m1_lt, m1_le, m1_gt, m1_ge, m1_ne, m1_en, m1_ad, nle_F, nle_T, nlt_F, nlt_T, neq_F, neq_T, or_self, or_false, false_or, true_or, or_true, and_self, and_false, false_and, true_and, and_true, not_true_eq_false, not_false_eq_true, ↓reduceIte, if_true, if_false, Nat.reduceAdd, ite_self, Bool.false_eq_true, j10], by simp (disch := omega) only [a11, a01, ↓li_m, ↓oc_some, ↓oc_ite, ↓oc_oc, ↓oc_pl, ↓oc_none, ↓oc_oe, ↓pl_eq, ↓oe_i, ↓oe_j, va_up_self, va_up_ne, va_up_up, upd_s, upd_n, updL_s, updL_n, nI_add, nI_1, nI_ltI, nI_leI, nI_eq, nI_clamp, li_n, m1_lt, m1_le, m1_gt, m1_ge, m1_ne, m1_en, m1_ad, nle_F, nle_T, nlt_F, nlt_T, neq_F, neq_T, or_self, or_false, false_or, true_or, or_true, and_self, and_false, false_and, true_and, and_true, not_true_eq_false, not_false_eq_true, ↓reduceIte, if_true, if_false, Nat.reduceAdd, ite_self, Bool.false_eq_true, j11], by simp (disch := omega) only [a11, a01, ↓li_m, ↓oc_some, ↓oc_ite, ↓oc_oc, ↓oc_pl, ↓oc_none, ↓oc_oe, ↓pl_eq, ↓oe_i, ↓oe_j, va_up_self, va_up_ne, va_up_up, upd_s, upd_n, updL_s, updL_n, nI_add, nI_1, nI_ltI, nI_leI, nI_eq, nI_clamp, li_n, m1_lt, m1_le, m1_gt, m1_ge, m1_ne, m1_en, m1_ad, nle_F, nle_T, nlt_F, nlt_T, neq_F, neq_T, or_self, or_false, false_or, true_or, or_true, and_self, and_false, false_and, true_and, and_true, not_true_eq_false, not_false_eq_true, ↓reduceIte, if_true, if_false, Nat.reduceAdd, ite_self, Bool.false_eq_true, j12], by simp (disch := omega) only [a11, a01, ↓li_m, ↓oc_some, ↓oc_ite, ↓oc_oc, ↓oc_pl, ↓oc_none, ↓oc_oe, ↓pl_eq, ↓oe_i, ↓oe_j, va_up_self, va_up_ne, va_up_up, upd_s, upd_n, updL_s, updL_n, nI_add, nI_1, nI_ltI, nI_leI, nI_eq, nI_clamp, li_n, m1_lt, m1_le, m1_gt, m1_ge, m1_ne, m1_en, m1_ad, nle_F, nle_T, nlt_F, nlt_T, neq_F, neq_T, or_self, or_false, false_or, true_or, or_true, and_self, and_false, false_and, true_and, and_true, not_true_eq_false, not_false_eq_true, ↓reduceIte, if_true, if_false, Nat.reduceAdd, ite_self, Bool.false_eq_true]; exact j13, by omega⟩
        have hv : 10 * v + (t q - 48) < 10 ^ (i + 1) := by
          rw [Nat.pow_succ]
          omega
        obtain ⟨v1, r, I1, I1', q1, r1, r2, r3, r4, r5, r6, r7, r8⟩ := ih f f' (i + 1) (q + 1) (10 * v + (t q - 48)) _ I2' (by omega) (by omega) (by omega) hv hA p2
        refine ⟨v1, r, I1, I1', q1, ?_, ?_, by omega, fun _ _ _ _ => by omega, r5, r6, r7.trans p3, r8⟩
        · rw [f_Translator_literal_4]
          simp (disch := omega) only [a11, a01, ↓li_m, ↓oc_some, ↓oc_ite, ↓oc_oc, ↓oc_pl, ↓oc_none, ↓oc_oe, ↓pl_eq, ↓oe_i, ↓oe_j, va_up_self, va_up_ne, va_up_up, upd_s, upd_n, updL_s, updL_n, nI_add, nI_1, nI_ltI, nI_leI, nI_eq, nI_clamp, li_n, m1_lt, m1_le, m1_gt, m1_ge, m1_ne, m1_en, m1_ad, nle_F, nle_T, nlt_F, nlt_T, neq_F, neq_T, or_self, or_false, false_or, true_or, or_true, and_self, and_false, false_and, true_and, and_true, not_true_eq_false, not_false_eq_true, ↓reduceIte, if_true, if_false, Nat.reduceAdd, ite_self, Bool.false_eq_true, ↓U_Row_at, ↓U_Translator_isDigit, j1, j4, b3, n10e]
          rw [show (10 * lN v + Int32.toInt64 (nI (t q))) - 48 = lN (10 * v + (t q - 48)) from lit_step y.1 (by omega), r1]
        · rw [f_Model_readNumber_4]
          rw [← r2, ← lit_step y.1 (show t q < 2 ^ 31 by omega), ← p4, h4]
          simp (disch := omega) only [a11, a01, ↓li_m, ↓oc_some, ↓oc_ite, ↓oc_oc, ↓oc_pl, ↓oc_none, ↓oc_oe, ↓pl_eq, ↓oe_i, ↓oe_j, va_up_self, va_up_ne, va_up_up, upd_s, upd_n, updL_s, updL_n, nI_add, nI_1, nI_ltI, nI_leI, nI_eq, nI_clamp, li_n, m1_lt, m1_le, m1_gt, m1_ge, m1_ne, m1_en, m1_ad, nle_F, nle_T, nlt_F, nlt_T, neq_F, neq_T, or_self, or_false, false_or, true_or, or_true, and_self, and_false, false_and, true_and, and_true, not_true_eq_false, not_false_eq_true, ↓reduceIte, if_true, if_false, Nat.reduceAdd, ite_self, Bool.false_eq_true, h1, h4, b2]
      · refine ⟨v, .inr (lN v), I, I', q, ?_, ?_, Nat.le_refl q, fun _ _ c1 c2 => absurd ⟨c1, c2⟩ y, Nat.lt_of_lt_of_le e4 (Nat.pow_le_pow_right (by decide) (by omega)), h, rfl, Or.inl ⟨rfl, h'⟩⟩
        · rw [f_Translator_literal_4]
          by_cases z : t q < 48
          · simp (disch := omega) only [a11, a01, ↓li_m, ↓oc_some, ↓oc_ite, ↓oc_oc, ↓oc_pl, ↓oc_none, ↓oc_oe, ↓pl_eq, ↓oe_i, ↓oe_j, va_up_self, va_up_ne, va_up_up, upd_s, upd_n, updL_s, updL_n, nI_add, nI_1, nI_ltI, nI_leI, nI_eq, nI_clamp, li_n, m1_lt, m1_le, m1_gt, m1_ge, m1_ne, m1_en, m1_ad, nle_F, nle_T, nlt_F, nlt_T, neq_F, neq_T, or_self, or_false, false_or, true_or, or_true, and_self, and_false, false_and, true_and, and_true, not_true_eq_false, not_false_eq_true, ↓reduceIte, if_true, if_false, Nat.reduceAdd, ite_self, Bool.false_eq_true, ↓U_Row_at, ↓U_Translator_isDigit, j1, j4, b3]
          · simp (disch := omega) only [a11, a01, ↓li_m, ↓oc_some, ↓oc_ite, ↓oc_oc, ↓oc_pl, ↓oc_none, ↓oc_oe, ↓pl_eq, ↓oe_i, ↓oe_j, va_up_self, va_up_ne, va_up_up, upd_s, upd_n, updL_s, updL_n, nI_add, nI_1, nI_ltI, nI_leI, nI_eq, nI_clamp, li_n, m1_lt, m1_le, m1_gt, m1_ge, m1_ne, m1_en, m1_ad, nle_F, nle_T, nlt_F, nlt_T, neq_F, neq_T, or_self, or_false, false_or, true_or, or_true, and_self, and_false, false_and, true_and, and_true, not_true_eq_false, not_false_eq_true, ↓reduceIte, if_true, if_false, Nat.reduceAdd, ite_self, Bool.false_eq_true, ↓U_Row_at, ↓U_Translator_isDigit, j1, j4, b3]
        · rw [f_Model_readNumber_4]
          by_cases z : t q < 48
          · simp (disch := omega) only [a11, a01, ↓li_m, ↓oc_some, ↓oc_ite, ↓oc_oc, ↓oc_pl, ↓oc_none, ↓oc_oe, ↓pl_eq, ↓oe_i, ↓oe_j, va_up_self, va_up_ne, va_up_up, upd_s, upd_n, updL_s, updL_n, nI_add, nI_1, nI_ltI, nI_leI, nI_eq, nI_clamp, li_n, m1_lt, m1_le, m1_gt, m1_ge, m1_ne, m1_en, m1_ad, nle_F, nle_T, nlt_F, nlt_T, neq_F, neq_T, or_self, or_false, false_or, true_or, or_true, and_self, and_false, false_and, true_and, and_true, not_true_eq_false, not_false_eq_true, ↓reduceIte, if_true, if_false, Nat.reduceAdd, ite_self, Bool.false_eq_true, h1, h4, b2]
          · simp (disch := omega) only [a11, a01, ↓li_m, ↓oc_some, ↓oc_ite, ↓oc_oc, ↓oc_pl, ↓oc_none, ↓oc_oe, ↓pl_eq, ↓oe_i, ↓oe_j, va_up_self, va_up_ne, va_up_up, upd_s, upd_n, updL_s, updL_n, nI_add, nI_1, nI_ltI, nI_leI, nI_eq, nI_clamp, li_n, m1_lt, m1_le, m1_gt, m1_ge, m1_ne, m1_en, m1_ad, nle_F, nle_T, nlt_F, nlt_T, neq_F, neq_T, or_self, or_false, false_or, true_or, or_true, and_self, and_false, false_and, true_and, and_true, not_true_eq_false, not_false_eq_true, ↓reduceIte, if_true, if_false, Nat.reduceAdd, ite_self, Bool.false_eq_true, h1, h4, b2]
    · refine ⟨v, .inr (lN v), I, I', q, ?_, ?_, Nat.le_refl q, fun _ c => by omega, Nat.lt_of_lt_of_le e4 (Nat.pow_le_pow_right (by decide) (by omega)), h, rfl, Or.inl ⟨rfl, h'⟩⟩
      · rw [f_Translator_literal_4]
        simp (disch := omega) only [a11, a01, ↓li_m, ↓oc_some, ↓oc_ite, ↓oc_oc, ↓oc_pl, ↓oc_none, ↓oc_oe, ↓pl_eq, ↓oe_i, ↓oe_j, va_up_self, va_up_ne, va_up_up, upd_s, upd_n, updL_s, updL_n, nI_add, nI_1, nI_ltI, nI_leI, nI_eq, nI_clamp, li_n, m1_lt, m1_le, m1_gt, m1_ge, m1_ne, m1_en, m1_ad, nle_F, nle_T, nlt_F, nlt_T, neq_F, neq_T, or_self, or_false, false_or, true_or, or_true, and_self, and_false, false_and, true_and, and_true, not_true_eq_false, not_false_eq_true, ↓reduceIte, if_true, if_false, Nat.reduceAdd, ite_self, Bool.false_eq_true, ↓U_Row_at, ↓U_Translator_isDigit, j1, j4]
      · rw [f_Model_readNumber_4]
        simp (disch := omega) only [a11, a01, ↓li_m, ↓oc_some, ↓oc_ite, ↓oc_oc, ↓oc_pl, ↓oc_none, ↓oc_oe, ↓pl_eq, ↓oe_i, ↓oe_j, va_up_self, va_up_ne, va_up_up, upd_s, upd_n, updL_s, updL_n, nI_add, nI_1, nI_ltI, nI_leI, nI_eq, nI_clamp, li_n, m1_lt, m1_le, m1_gt, m1_ge, m1_ne, m1_en, m1_ad, nle_F, nle_T, nlt_F, nlt_T, neq_F, neq_T, or_self, or_false, false_or, true_or, or_true, and_self, and_false, false_and, true_and, and_true, not_true_eq_false, not_false_eq_true, ↓reduceIte, if_true, if_false, Nat.reduceAdd, ite_self, Bool.false_eq_true, h1, h4]
end CM
/-- r bytes of a long laid, the highest first -/
def ly (f : Nat → Nat) (m : Nat) (w : Int64) : Nat → Nat → Nat
  | 0 => f
  | r + 1 => ly (apn f m (wb w r)) (m + 1) w r
theorem ly_lo : ∀ (r : Nat) (f : Nat → Nat) (m : Nat) (w : Int64) (j : Nat), j < m → ly f m w r j = f j := by
  intro r
  induction r with
  | zero => intro f m w j _; rfl
  | succ r ih =>
    intro f m w j h
    rw [ly, ih _ _ _ _ (by omega), apn_n _ _ (by omega)]
theorem ly_eq : ∀ (r : Nat) (f g : Nat → Nat) (m : Nat) (w : Int64) (j : Nat), m ≤ j → j < m + r → ly f m w r j = ly g m w r j ∧ ly f m w r j < 256 := by
  intro r
  induction r with
  | zero => intro f g m w j _ _; omega
  | succ r ih =>
    intro f g m w j h1 h2
    rw [ly, ly]
    by_cases e : j = m
    · subst e
      rw [ly_lo _ _ _ _ _ (by omega), ly_lo _ _ _ _ _ (by omega), apn_s, apn_s]
      exact ⟨rfl, wb_lt w r⟩
    · exact ih _ _ _ _ _ (by omega) (by omega)
theorem ly_lit : ∀ (r : Nat) (f : Nat → Nat) (m : Nat) (w : Int64) (a : Nat), litn (ly f m w r) m r a = a * 256 ^ r + w.toBitVec.toNat % 256 ^ r := by
  intro r
  induction r with
  | zero =>
    intro f m w a
    rw [litn, Nat.pow_zero, Nat.mod_one, Nat.mul_one, Nat.add_zero]
  | succ r ih =>
    intro f m w a
    rw [litn, ly, ih, ly_lo _ _ _ _ _ (by omega), apn_s, Nat.mod_pow_succ]
    unfold wb
    rw [show 2 ^ (8 * r) = 256 ^ r by rw [Nat.pow_mul]]
    generalize w.toBitVec.toNat / 256 ^ r % 256 = b
    generalize w.toBitVec.toNat % 256 ^ r = y
    rw [Nat.pow_succ, Nat.add_mul]
    have e1 : a * 256 * 256 ^ r = a * (256 ^ r * 256) := by
      rw [Nat.mul_assoc, Nat.mul_comm 256]
    have e2 : b * 256 ^ r = 256 ^ r * b := Nat.mul_comm _ _
    omega
theorem wb_c8 (w : Int64) {r : Nat} (hr : r < 8) : Int64.toInt32 ((Int64.toUInt64 w >>> (Int64.toUInt64 (Int32.toInt64 (nI (8 * r))) &&& Int64.toUInt64 63)).toInt64) &&& 255 = nI (wb w r) := by
  rw [← wb_c w hr, sh8 ⟨r, hr⟩]
theorem n8 (r : Nat) : nI (8 * (r + 1)) + (-8) = nI (8 * r) := by
  rw [show 8 * (r + 1) = 8 * r + 8 by omega, ← nI_add, Int32.add_assoc, show nI 8 + (-8 : Int32) = 0 by decide, Int32.add_zero]
section CM
variable {n P D U k p c q : Nat} {t : Nat → Nat} {J J' : MJ} {f8 f9 g2 g3 g4 g5 : Nat → Int32}
theorem LYC (w : Int64) : ∀ (r fu m : Nat) (I : MI) (cc : Nat → Nat), r ≤ 8 → r < fu → m + r ≤ 2000 → CA n t P I q m D U k p f8 f9 cc → ∃ I1, f_Translator_literal_77 fu w (nI (8 * r) + (-8)) I J = some ((), I1, J) ∧ CA n t P I1 q (m + r) D U k p f8 f9 (ly cc m w r) := by
  intro r
  induction r with
  | zero =>
    intro fu m I cc h1 h2 h3 h
    obtain ⟨f, rfl⟩ : ∃ f, fu = f + 1 := ⟨fu - 1, by omega⟩
    refine ⟨I, ?_, h⟩
    rw [f_Translator_literal_77, if_pos (show nI (8 * 0) + (-8 : Int32) < 0 by decide)]
  | succ r ih =>
    intro fu m I cc h1 h2 h3 h
    obtain ⟨f, rfl⟩ : ∃ f, fu = f + 1 := ⟨fu - 1, by omega⟩
    obtain ⟨I1, a1, a2⟩ := AC (J := J) h (show m < 2000 by omega) (wb_c8 w (show r < 8 by omega))
    obtain ⟨I2, b1, b2⟩ := ih f (m + 1) I1 _ (by omega) (by omega) (by omega) a2
    refine ⟨I2, ?_, ?_⟩
    · rw [f_Translator_literal_77, n8, if_neg (nI_pos (by omega)), a1, b1]
    · rw [show m + (r + 1) = m + 1 + r by omega, ly]
      exact b2
theorem LYM (w : Int64) : ∀ (r fu m : Nat) (I : MI) (cm : Nat → Nat), r ≤ 8 → r < fu → m + r ≤ 2000 → MA n t P I q m D U k p g2 g3 g4 g5 c cm → ∃ I1, f_Model_readNumber_110 fu w (nI r + (-1)) I J' = some ((), I1, J') ∧ MA n t P I1 q (m + r) D U k p g2 g3 g4 g5 c (ly cm m w r) ∧ I1 112 73 = I 112 73 := by
  intro r
  induction r with
  | zero =>
    intro fu m I cc h1 h2 h3 h
    obtain ⟨f, rfl⟩ : ∃ f, fu = f + 1 := ⟨fu - 1, by omega⟩
    refine ⟨I, ?_, h, rfl⟩
    rw [f_Model_readNumber_110, if_pos (show nI 0 + (-1 : Int32) < 0 by decide)]
  | succ r ih =>
    intro fu m I cc h1 h2 h3 h
    obtain ⟨f, rfl⟩ : ∃ f, fu = f + 1 := ⟨fu - 1, by omega⟩
    obtain ⟨I1, a1, a2, a3⟩ := AM (J := J') h (show m < 2000 by omega) (wb_m w (show r < 8 by omega))
    obtain ⟨I2, b1, b2, b3⟩ := ih f (m + 1) I1 _ (by omega) (by omega) (by omega) a2
    refine ⟨I2, ?_, ?_, b3.trans a3⟩
    · rw [f_Model_readNumber_110, show nI (r + 1) + (-1 : Int32) = nI r from nI_pd r, if_neg (nI_pos (by omega)), a1, b1]
    · rw [show m + (r + 1) = m + 1 + r by omega, ly]
      exact b2
end CM
