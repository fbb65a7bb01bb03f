/-! load: what the first pass knows; rows made empty -/
def PI1 (cd : Nat → Nat) (n P k : Nat) (l : Int32) (g : Nat → Int32) : Prop := (∀ j, j < n → (g j = nI 0 ∨ g j = nI 1) ∧ (k ≤ j → g j = nI 0) ∧ (j < k → g j = nI 1 → cd j ≤ 29 ∧ j + opl (cd j) ≤ k ∧ opok cd P j = true ∧ (j + opl (cd j) < k → g (j + opl (cd j)) = nI 1) ∧ ∀ i, j < i → i < j + opl (cd j) → g i = nI 0)) ∧ (0 < k → g 0 = nI 1) ∧ (k = 0 → l = m1) ∧ (0 < k → ∃ s, s < k ∧ g s = nI 1 ∧ s + opl (cd s) = k ∧ l = nI (cd s))
theorem n01 : ¬ nI 0 = nI 1 := by decide
theorem p1_inv {cd : Nat → Nat} {n P : Nat} : ∀ (d k o : Nat) (l : Int32) (g : Nat → Int32), n < d + k → k ≤ n → PI1 cd n P k l g → (p1 cd n P d k l o g).1 = none → PI1 cd n P n (p1 cd n P d k l o g).2.1 (p1 cd n P d k l o g).2.2.2 := by
  intro d
  induction d with
  | zero => intro k o l g h1 h2; omega
  | succ d ih =>
    intro k o l g h1 h2 hI hnone
    rw [p1] at hnone ⊢
    by_cases q : n ≤ k
    · have e : k = n := by omega
      subst e
      rw [if_pos q]
      exact hI
    · rw [if_neg q] at hnone ⊢
      by_cases q1 : cd k ≤ 29 ∧ k + opl (cd k) ≤ n ∧ opok cd P k = true
      · rw [if_pos q1] at hnone ⊢
        obtain ⟨c1, c2, c3⟩ := q1
        have c4 := opl_1 c1
        refine ih (k + opl (cd k)) (o + 1) (nI (cd k)) (upd g k 1) (by omega) c2 ?_ hnone
        obtain ⟨i1, i2, i3, i4⟩ := hI
        refine ⟨?_, ?_, ?_, ?_⟩
        · intro j hj
          obtain ⟨a1, a2, a3⟩ := i1 j hj
          by_cases e : j = k
          · subst e
            refine ⟨Or.inr (upd_s _ _ _), fun h => by omega, fun _ _ => ⟨c1, by omega, c3, fun h => by omega, fun i h3 h4 => ?_⟩⟩
            rw [upd_n _ _ (by omega)]
            exact (i1 i (by omega)).2.1 (by omega)
          · rw [upd_n _ _ e]
            refine ⟨a1, fun h => a2 (by omega), fun h hg => ?_⟩
            by_cases f : j < k
            · obtain ⟨b1, b2, b3, b4, b5⟩ := a3 f hg
              refine ⟨b1, by omega, b3, fun h3 => ?_, fun i h3 h4 => ?_⟩
              · by_cases f2 : j + opl (cd j) = k
                · rw [f2]
                  exact upd_s _ _ _
                · rw [upd_n _ _ f2]
                  exact b4 (by omega)
              · rw [upd_n _ _ (by omega)]
                exact b5 i h3 h4
            · exact absurd ((a2 (by omega)).symm.trans hg) n01
        · intro _
          by_cases e : 0 = k
          · rw [← e]
            exact upd_s _ _ _
          · rw [upd_n _ _ e]
            exact i2 (by omega)
        · intro h
          omega
        · intro _
          exact ⟨k, by omega, upd_s _ _ _, rfl, rfl⟩
      · rw [if_neg q1] at hnone
        cases hnone
def zr (f : Nat → Int32) (k d : Nat) : Nat → Int32 := fun j => if k ≤ j ∧ j < k + d then nI 0 else f j
theorem zr_0 (f : Nat → Int32) (k : Nat) : zr f k 0 = f := by
  funext j
  unfold zr
  rw [if_neg (by omega)]
theorem zr_s (f : Nat → Int32) (k d : Nat) : zr (upd f k (nI 0)) (k + 1) d = zr f k (d + 1) := by
  funext j
  unfold zr
  by_cases e : j = k
  · subst e
    rw [if_neg (by omega), upd_s, if_pos (by omega)]
  · rw [upd_n _ _ e]
    by_cases q : k ≤ j ∧ j < k + (d + 1)
    · rw [if_pos (by omega), if_pos q]
    · rw [if_neg (by omega), if_neg q]
theorem zr_in {f : Nat → Int32} {k d j : Nat} (h1 : k ≤ j) (h2 : j < k + d) : zr f k d j = nI 0 := if_pos ⟨h1, h2⟩
theorem lets2 {r b m : Nat} {p3 : Int32} : ∀ (d fu k : Nat) (l : Int32) (I : MI) (J : MJ), k + d = 2000 → d < fu → f_Verifier_lets_2 r b m p3 fu l (nI k) I J = some ((), va_up (va_up I 11 (zr (I 11) k d)) 12 (zr (I 12) k d), J) := by
  intro d
  induction d with
  | zero =>
    intro fu k l I J h1 h2
    obtain ⟨f, rfl⟩ : ∃ f, fu = f + 1 := ⟨fu - 1, by omega⟩
    rw [f_Verifier_lets_2, zr_0, zr_0, va_up_id, va_up_id]
    simp (disch := omega) only [a11, a01, ↓li_m, ↓oc_some, ↓oc_ite, ↓oc_oc, ↓oc_pl, ↓oc_none, ↓oc_oe, ↓pl_eq, ↓oe_i, ↓oe_j, va_up_self, va_up_ne, va_up_up, upd_s, upd_n, updL_s, updL_n, nI_add, nI_1, nI_ltI, nI_leI, nI_eq, nI_clamp, li_n, m1_lt, m1_le, m1_gt, m1_ge, m1_ne, m1_en, m1_ad, nle_F, nle_T, nlt_F, nlt_T, neq_F, neq_T, or_self, or_false, false_or, true_or, or_true, and_self, and_false, false_and, true_and, and_true, not_true_eq_false, not_false_eq_true, ↓reduceIte, if_true, if_false, Nat.reduceAdd, ite_self, Bool.false_eq_true]
  | succ d ih =>
    intro fu k l I J h1 h2
    obtain ⟨f, rfl⟩ : ∃ f, fu = f + 1 := ⟨fu - 1, by omega⟩
    rw [f_Verifier_lets_2]
    simp (disch := omega) only [a11, a01, ↓li_m, ↓oc_some, ↓oc_ite, ↓oc_oc, ↓oc_pl, ↓oc_none, ↓oc_oe, ↓pl_eq, ↓oe_i, ↓oe_j, va_up_self, va_up_ne, va_up_up, upd_s, upd_n, updL_s, updL_n, nI_add, nI_1, nI_ltI, nI_leI, nI_eq, nI_clamp, li_n, m1_lt, m1_le, m1_gt, m1_ge, m1_ne, m1_en, m1_ad, nle_F, nle_T, nlt_F, nlt_T, neq_F, neq_T, or_self, or_false, false_or, true_or, or_true, and_self, and_false, false_and, true_and, and_true, not_true_eq_false, not_false_eq_true, ↓reduceIte, if_true, if_false, Nat.reduceAdd, ite_self, Bool.false_eq_true]
    rw [ih f (k + 1) l _ J (by omega) (by omega)]
    simp (disch := omega) only [a11, a01, ↓li_m, ↓oc_some, ↓oc_ite, ↓oc_oc, ↓oc_pl, ↓oc_none, ↓oc_oe, ↓pl_eq, ↓oe_i, ↓oe_j, va_up_self, va_up_ne, va_up_up, upd_s, upd_n, updL_s, updL_n, nI_add, nI_1, nI_ltI, nI_leI, nI_eq, nI_clamp, li_n, m1_lt, m1_le, m1_gt, m1_ge, m1_ne, m1_en, m1_ad, nle_F, nle_T, nlt_F, nlt_T, neq_F, neq_T, or_self, or_false, false_or, true_or, or_true, and_self, and_false, false_and, true_and, and_true, not_true_eq_false, not_false_eq_true, ↓reduceIte, if_true, if_false, Nat.reduceAdd, ite_self, Bool.false_eq_true, zr_s, va_4 _ _ _ _ _ (show 11 ≠ 12 by decide)]
theorem mv2 : ∀ (d fu k : Nat) (I : MI) (J : MJ), k + d = 2001 → d < fu → f_Model_isVerified_2 fu (nI k) I J = some ((), va_up I 166 (zr (I 166) k d), J) := by
  intro d
  induction d with
  | zero =>
    intro fu k I J h1 h2
    obtain ⟨f, rfl⟩ : ∃ f, fu = f + 1 := ⟨fu - 1, by omega⟩
    rw [f_Model_isVerified_2, zr_0, va_up_id]
    simp (disch := omega) only [a11, a01, ↓li_m, ↓oc_some, ↓oc_ite, ↓oc_oc, ↓oc_pl, ↓oc_none, ↓oc_oe, ↓pl_eq, ↓oe_i, ↓oe_j, va_up_self, va_up_ne, va_up_up, upd_s, upd_n, updL_s, updL_n, nI_add, nI_1, nI_ltI, nI_leI, nI_eq, nI_clamp, li_n, m1_lt, m1_le, m1_gt, m1_ge, m1_ne, m1_en, m1_ad, nle_F, nle_T, nlt_F, nlt_T, neq_F, neq_T, or_self, or_false, false_or, true_or, or_true, and_self, and_false, false_and, true_and, and_true, not_true_eq_false, not_false_eq_true, ↓reduceIte, if_true, if_false, Nat.reduceAdd, ite_self, Bool.false_eq_true]
  | succ d ih =>
    intro fu k I J h1 h2
    obtain ⟨f, rfl⟩ : ∃ f, fu = f + 1 := ⟨fu - 1, by omega⟩
    rw [f_Model_isVerified_2]
    simp (disch := omega) only [a11, a01, ↓li_m, ↓oc_some, ↓oc_ite, ↓oc_oc, ↓oc_pl, ↓oc_none, ↓oc_oe, ↓pl_eq, ↓oe_i, ↓oe_j, va_up_self, va_up_ne, va_up_up, upd_s, upd_n, updL_s, updL_n, nI_add, nI_1, nI_ltI, nI_leI, nI_eq, nI_clamp, li_n, m1_lt, m1_le, m1_gt, m1_ge, m1_ne, m1_en, m1_ad, nle_F, nle_T, nlt_F, nlt_T, neq_F, neq_T, or_self, or_false, false_or, true_or, or_true, and_self, and_false, false_and, true_and, and_true, not_true_eq_false, not_false_eq_true, ↓reduceIte, if_true, if_false, Nat.reduceAdd, ite_self, Bool.false_eq_true]
    rw [ih f (k + 1) _ J (by omega) (by omega)]
    simp (disch := omega) only [a11, a01, ↓li_m, ↓oc_some, ↓oc_ite, ↓oc_oc, ↓oc_pl, ↓oc_none, ↓oc_oe, ↓pl_eq, ↓oe_i, ↓oe_j, va_up_self, va_up_ne, va_up_up, upd_s, upd_n, updL_s, updL_n, nI_add, nI_1, nI_ltI, nI_leI, nI_eq, nI_clamp, li_n, m1_lt, m1_le, m1_gt, m1_ge, m1_ne, m1_en, m1_ad, nle_F, nle_T, nlt_F, nlt_T, neq_F, neq_T, or_self, or_false, false_or, true_or, or_true, and_self, and_false, false_and, true_and, and_true, not_true_eq_false, not_false_eq_true, ↓reduceIte, if_true, if_false, Nat.reduceAdd, ite_self, Bool.false_eq_true, zr_s]
theorem mv109 {n : Nat} (hn : n ≤ 2000) : ∀ (d fu k : Nat) (I : MI) (J : MJ), I 112 12 = nI n → k + d = n → d < fu → f_Model_isVerified_109 fu (nI k) I J = some ((), va_up I 167 (zr (I 167) k d), J) := by
  intro d
  induction d with
  | zero =>
    intro fu k I J h0 h1 h2
    obtain ⟨f, rfl⟩ : ∃ f, fu = f + 1 := ⟨fu - 1, by omega⟩
    rw [f_Model_isVerified_109, zr_0, va_up_id]
    simp (disch := omega) only [a11, a01, ↓li_m, ↓oc_some, ↓oc_ite, ↓oc_oc, ↓oc_pl, ↓oc_none, ↓oc_oe, ↓pl_eq, ↓oe_i, ↓oe_j, va_up_self, va_up_ne, va_up_up, upd_s, upd_n, updL_s, updL_n, nI_add, nI_1, nI_ltI, nI_leI, nI_eq, nI_clamp, li_n, m1_lt, m1_le, m1_gt, m1_ge, m1_ne, m1_en, m1_ad, nle_F, nle_T, nlt_F, nlt_T, neq_F, neq_T, or_self, or_false, false_or, true_or, or_true, and_self, and_false, false_and, true_and, and_true, not_true_eq_false, not_false_eq_true, ↓reduceIte, if_true, if_false, Nat.reduceAdd, ite_self, Bool.false_eq_true, h0]
  | succ d ih =>
    intro fu k I J h0 h1 h2
    obtain ⟨f, rfl⟩ : ∃ f, fu = f + 1 := ⟨fu - 1, by omega⟩
    rw [f_Model_isVerified_109]
    simp (disch := omega) only [a11, a01, ↓li_m, ↓oc_some, ↓oc_ite, ↓oc_oc, ↓oc_pl, ↓oc_none, ↓oc_oe, ↓pl_eq, ↓oe_i, ↓oe_j, va_up_self, va_up_ne, va_up_up, upd_s, upd_n, updL_s, updL_n, nI_add, nI_1, nI_ltI, nI_leI, nI_eq, nI_clamp, li_n, m1_lt, m1_le, m1_gt, m1_ge, m1_ne, m1_en, m1_ad, nle_F, nle_T, nlt_F, nlt_T, neq_F, neq_T, or_self, or_false, false_or, true_or, or_true, and_self, and_false, false_and, true_and, and_true, not_true_eq_false, not_false_eq_true, ↓reduceIte, if_true, if_false, Nat.reduceAdd, ite_self, Bool.false_eq_true, h0]
    rw [ih f (k + 1) _ J (by simp (disch := omega) only [a11, a01, ↓li_m, ↓oc_some, ↓oc_ite, ↓oc_oc, ↓oc_pl, ↓oc_none, ↓oc_oe, ↓pl_eq, ↓oe_i, ↓oe_j, va_up_self, va_up_ne, va_up_up, upd_s, upd_n, updL_s, updL_n, nI_add, nI_1, nI_ltI, nI_leI, nI_eq, nI_clamp, li_n, m1_lt, m1_le, m1_gt, m1_ge, m1_ne, m1_en, m1_ad, nle_F, nle_T, nlt_F, nlt_T, neq_F, neq_T, or_self, or_false, false_or, true_or, or_true, and_self, and_false, false_and, true_and, and_true, not_true_eq_false, not_false_eq_true, ↓reduceIte, if_true, if_false, Nat.reduceAdd, ite_self, Bool.false_eq_true, h0]) (by omega) (by omega)]
    simp (disch := omega) only [a11, a01, ↓li_m, ↓oc_some, ↓oc_ite, ↓oc_oc, ↓oc_pl, ↓oc_none, ↓oc_oe, ↓pl_eq, ↓oe_i, ↓oe_j, va_up_self, va_up_ne, va_up_up, upd_s, upd_n, updL_s, updL_n, nI_add, nI_1, nI_ltI, nI_leI, nI_eq, nI_clamp, li_n, m1_lt, m1_le, m1_gt, m1_ge, m1_ne, m1_en, m1_ad, nle_F, nle_T, nlt_F, nlt_T, neq_F, neq_T, or_self, or_false, false_or, true_or, or_true, and_self, and_false, false_and, true_and, and_true, not_true_eq_false, not_false_eq_true, ↓reduceIte, if_true, if_false, Nat.reduceAdd, ite_self, Bool.false_eq_true, zr_s]
