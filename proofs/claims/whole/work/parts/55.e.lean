/-! load: the second pass -/
theorem p1_out {cd : Nat → Nat} {n P : Nat} : ∀ (d k o : Nat) (l : Int32) (g : Nat → Int32), ∀ j, n ≤ j → (p1 cd n P d k l o g).2.2.2 j = g j := by
  intro d
  induction d with
  | zero => intro k o l g j h; rfl
  | succ d ih =>
    intro k o l g j h
    rw [p1]
    by_cases q : n ≤ k
    · rw [if_pos q]
    · rw [if_neg q]
      by_cases q1 : cd k ≤ 29 ∧ k + opl (cd k) ≤ n ∧ opok cd P k = true
      · rw [if_pos q1, ih _ _ _ _ j h, upd_n _ _ (by omega)]
      · rw [if_neg q1]
theorem im {a m k : Nat} {I : MI} {J : MJ} (hm : m < 2 ^ 31) (hk : k < 2 ^ 31) : f_Verifier_isMarked a m (nI k) I J = some (if k < m ∧ ¬ I a k = nI 0 then nI 1 else nI 0, I, J) := by
  unfold f_Verifier_isMarked
  by_cases q : k < m
  · by_cases p : I a k = nI 0
    · simp (disch := omega) only [a11, a01, ↓li_m, ↓oc_some, ↓oc_ite, ↓oc_oc, ↓oc_pl, ↓oc_none, ↓oc_oe, ↓pl_eq, ↓oe_i, ↓oe_j, va_up_self, va_up_ne, va_up_up, upd_s, upd_n, updL_s, updL_n, nI_add, nI_1, nI_ltI, nI_leI, nI_eq, nI_clamp, li_n, m1_lt, m1_le, m1_gt, m1_ge, m1_ne, m1_en, m1_ad, nle_F, nle_T, nlt_F, nlt_T, neq_F, neq_T, or_self, or_false, false_or, true_or, or_true, and_self, and_false, false_and, true_and, and_true, not_true_eq_false, not_false_eq_true, ↓reduceIte, if_true, if_false, Nat.reduceAdd, ite_self, Bool.false_eq_true, q, p]
    · simp (disch := omega) only [a11, a01, ↓li_m, ↓oc_some, ↓oc_ite, ↓oc_oc, ↓oc_pl, ↓oc_none, ↓oc_oe, ↓pl_eq, ↓oe_i, ↓oe_j, va_up_self, va_up_ne, va_up_up, upd_s, upd_n, updL_s, updL_n, nI_add, nI_1, nI_ltI, nI_leI, nI_eq, nI_clamp, li_n, m1_lt, m1_le, m1_gt, m1_ge, m1_ne, m1_en, m1_ad, nle_F, nle_T, nlt_F, nlt_T, neq_F, neq_T, or_self, or_false, false_or, true_or, or_true, and_self, and_false, false_and, true_and, and_true, not_true_eq_false, not_false_eq_true, ↓reduceIte, if_true, if_false, Nat.reduceAdd, ite_self, Bool.false_eq_true, q, p]
  · simp (disch := omega) only [a11, a01, ↓li_m, ↓oc_some, ↓oc_ite, ↓oc_oc, ↓oc_pl, ↓oc_none, ↓oc_oe, ↓pl_eq, ↓oe_i, ↓oe_j, va_up_self, va_up_ne, va_up_up, upd_s, upd_n, updL_s, updL_n, nI_add, nI_1, nI_ltI, nI_leI, nI_eq, nI_clamp, li_n, m1_lt, m1_le, m1_gt, m1_ge, m1_ne, m1_en, m1_ad, nle_F, nle_T, nlt_F, nlt_T, neq_F, neq_T, or_self, or_false, false_or, true_or, or_true, and_self, and_false, false_and, true_and, and_true, not_true_eq_false, not_false_eq_true, ↓reduceIte, if_true, if_false, Nat.reduceAdd, ite_self, Bool.false_eq_true, q]
def tgt (cd : Nat → Nat) (k : Nat) : Nat := if cd k = 17 then 256 * cd (k + 2) + cd (k + 3) else 256 * cd (k + 1) + cd (k + 2)
abbrev isj (c : Nat) : Prop := c = 17 ∨ c = 18 ∨ c = 28
theorem nI_ml (a b : Nat) : nI a * nI b = nI (a * b) := (Int32.ofNat_mul a b).symm
def c2 (cd : Nat → Nat) (n : Nat) (g : Nat → Int32) : Nat → (Nat → Int32) → Option Nat × (Nat → Int32)
  | 0, t => (none, t)
  | d + 1, t => if g (n - (d + 1)) = nI 1 ∧ isj (cd (n - (d + 1))) then (if tgt cd (n - (d + 1)) < n ∧ g (tgt cd (n - (d + 1))) = nI 1 then c2 cd n g d (upd t (tgt cd (n - (d + 1))) (nI 1)) else (some (n - (d + 1)), t)) else c2 cd n g d t
def c2C (I : MI) (J : MJ) (r : Option Nat × (Nat → Int32)) : M2 (Unit ⊕ Int32) := match r.1 with
  | none => some (.inl (), va_up I 12 r.2, J)
  | some k => some (.inr (nI k), va_up I 12 r.2, J)
theorem c2C_eq (I : MI) (J : MJ) (t : Nat → Int32) (r : Option Nat × (Nat → Int32)) : c2C (va_up I 12 t) J r = c2C I J r := by
  unfold c2C
  cases r.1 with
  | none => simp (disch := omega) only [a11, a01, ↓li_m, ↓oc_some, ↓oc_ite, ↓oc_oc, ↓oc_pl, ↓oc_none, ↓oc_oe, ↓pl_eq, ↓oe_i, ↓oe_j, va_up_self, va_up_ne, va_up_up, upd_s, upd_n, updL_s, updL_n, nI_add, nI_1, nI_ltI, nI_leI, nI_eq, nI_clamp, li_n, m1_lt, m1_le, m1_gt, m1_ge, m1_ne, m1_en, m1_ad, nle_F, nle_T, nlt_F, nlt_T, neq_F, neq_T, or_self, or_false, false_or, true_or, or_true, and_self, and_false, false_and, true_and, and_true, not_true_eq_false, not_false_eq_true, ↓reduceIte, if_true, if_false, Nat.reduceAdd, ite_self, Bool.false_eq_true]
  | some y => simp (disch := omega) only [a11, a01, ↓li_m, ↓oc_some, ↓oc_ite, ↓oc_oc, ↓oc_pl, ↓oc_none, ↓oc_oe, ↓pl_eq, ↓oe_i, ↓oe_j, va_up_self, va_up_ne, va_up_up, upd_s, upd_n, updL_s, updL_n, nI_add, nI_1, nI_ltI, nI_leI, nI_eq, nI_clamp, li_n, m1_lt, m1_le, m1_gt, m1_ge, m1_ne, m1_en, m1_ad, nle_F, nle_T, nlt_F, nlt_T, neq_F, neq_T, or_self, or_false, false_or, true_or, or_true, and_self, and_false, false_and, true_and, and_true, not_true_eq_false, not_false_eq_true, ↓reduceIte, if_true, if_false, Nat.reduceAdd, ite_self, Bool.false_eq_true]
theorem w_tgt {r b m n k : Nat} {cd : Nat → Nat} {I : MI} {J : MJ} (h : rowC I r b n cd) (hn : n ≤ m) (hm : m < 2 ^ 30) (hk : k + 1 < n) : f_Row_target r b m (nI k) I J = some (nI (256 * cd k + cd (k + 1)), I, J) := by
  unfold f_Row_target
  rw [w_at1 h hn hm (by omega), oc_some, nI_1, w_at1 h hn hm hk, oc_some, show (256 : Int32) = nI 256 from rfl, nI_ml, nI_add]
/-- the starts, as the first pass leaves them -/
def St (cd : Nat → Nat) (n : Nat) (g : Nat → Int32) : Prop := (∀ j, j < 2000 → g j = nI 0 ∨ g j = nI 1) ∧ (∀ j, n ≤ j → j < 2000 → g j = nI 0) ∧ (∀ j, j < n → g j = nI 1 → cd j ≤ 29 ∧ j + opl (cd j) ≤ n ∧ (j + opl (cd j) < n → g (j + opl (cd j)) = nI 1) ∧ ∀ i, j < i → i < j + opl (cd j) → g i = nI 0)
theorem c2_C {cd : Nat → Nat} {n : Nat} (hn : n ≤ 2000) : ∀ (d fu : Nat) (I : MI) (J : MJ), rowC I 1 2 n cd → St cd n (I 11) → d ≤ n → d < fu → f_Verifier_findTargets_2 1 2 2000 fu (nI (n - d)) I J = c2C I J (c2 cd n (I 11) d (I 12)) := by
  intro d
  induction d with
  | zero =>
    intro fu I J hr hS h1 h2
    obtain ⟨f, rfl⟩ : ∃ f, fu = f + 1 := ⟨fu - 1, by omega⟩
    have hr1 := hr.1
    rw [f_Verifier_findTargets_2, c2]
    unfold c2C
    simp (disch := omega) only [a11, a01, ↓li_m, ↓oc_some, ↓oc_ite, ↓oc_oc, ↓oc_pl, ↓oc_none, ↓oc_oe, ↓pl_eq, ↓oe_i, ↓oe_j, va_up_self, va_up_ne, va_up_up, upd_s, upd_n, updL_s, updL_n, nI_add, nI_1, nI_ltI, nI_leI, nI_eq, nI_clamp, li_n, m1_lt, m1_le, m1_gt, m1_ge, m1_ne, m1_en, m1_ad, nle_F, nle_T, nlt_F, nlt_T, neq_F, neq_T, or_self, or_false, false_or, true_or, or_true, and_self, and_false, false_and, true_and, and_true, not_true_eq_false, not_false_eq_true, ↓reduceIte, if_true, if_false, Nat.reduceAdd, ite_self, Bool.false_eq_true, hr1, va_up_id]
  | succ d ih =>
    intro fu I J hr hS h1 h2
    obtain ⟨f, rfl⟩ : ∃ f, fu = f + 1 := ⟨fu - 1, by omega⟩
    have hr1 := hr.1
    rw [f_Verifier_findTargets_2, c2]
    have he : n - (d + 1) + 1 = n - d := by omega
    have hlt : n - (d + 1) < n := by omega
    generalize n - (d + 1) = k at he hlt ⊢
    have a0 : ∀ {α : Type} {F : Int32 → MI → MJ → Option α}, oc (f_Verifier_isMarked 11 2000 (nI k) I J) F = F (if k < 2000 ∧ ¬ I 11 k = nI 0 then nI 1 else nI 0) I J := fun {α F} => by
      rw [im (by omega) (by omega), oc_some]
    have ih' := ih f I J hr hS (by omega) (by omega)
    rw [← he] at ih'
    rcases hS.1 k (by omega) with q | q
    · simp (disch := omega) only [a11, a01, ↓li_m, ↓oc_some, ↓oc_ite, ↓oc_oc, ↓oc_pl, ↓oc_none, ↓oc_oe, ↓pl_eq, ↓oe_i, ↓oe_j, va_up_self, va_up_ne, va_up_up, upd_s, upd_n, updL_s, updL_n, nI_add, nI_1, nI_ltI, nI_leI, nI_eq, nI_clamp, li_n, m1_lt, m1_le, m1_gt, m1_ge, m1_ne, m1_en, m1_ad, nle_F, nle_T, nlt_F, nlt_T, neq_F, neq_T, or_self, or_false, false_or, true_or, or_true, and_self, and_false, false_and, true_and, and_true, not_true_eq_false, not_false_eq_true, ↓reduceIte, if_true, if_false, Nat.reduceAdd, ite_self, Bool.false_eq_true, ↓a0, hr1, q, n01, ih']
    · obtain ⟨c1, c3, c4, c5⟩ := hS.2.2 k hlt q
      have hb := hr.2 k hlt
      have n10 : ¬ nI 1 = nI 0 := by decide
      have a1 : ∀ {α : Type} {F : Int32 → MI → MJ → Option α}, oc (f_Row_at 1 2 2000 (nI k) I J) F = F (nI (cd k)) I J := fun {α F} => by
        rw [w_at1 (m := 2000) hr hn (by omega) hlt, oc_some]
      have hgo : ∀ {p : Int32} {α : Type} {F : Int32 → MI → MJ → Option α}, isj (cd k) → p = (if cd k = 17 then nI (k + 2) else nI (k + 1)) → oc (f_Row_target 1 2 2000 p I J) F = F (nI (tgt cd k)) I J := by
        intro p α F hj hp
        unfold tgt
        by_cases e : cd k = 17
        · rw [if_pos e] at hp ⊢
          rw [e, show opl 17 = 4 from rfl] at c3
          rw [hp, w_tgt hr hn (by omega) (show k + 2 + 1 < n by omega), oc_some]
        · rw [if_neg e] at hp ⊢
          have : k + 3 ≤ n := by
            rcases hj with hj | hj | hj
            · exact absurd hj e
            · rw [hj] at c3
              exact c3
            · rw [hj] at c3
              exact c3
          rw [hp, w_tgt hr hn (by omega) (show k + 1 + 1 < n by omega), oc_some]
      by_cases hj : isj (cd k)
      · have ht : tgt cd k < 70000 := by
          have hb' : ∀ j, j < n → cd j < 256 := fun j hj => (hr.2 j hj).1
          unfold tgt
          by_cases e : cd k = 17
          · rw [if_pos e]
            rw [e, show opl 17 = 4 from rfl] at c3
            have := hb' (k + 2) (by omega)
            have := hb' (k + 3) (by omega)
            omega
          · rw [if_neg e]
            have : k + 3 ≤ n := by
              rcases hj with hj | hj | hj
              · exact absurd hj e
              · rw [hj] at c3
                exact c3
              · rw [hj] at c3
                exact c3
            have := hb' (k + 1) (by omega)
            have := hb' (k + 2) (by omega)
            omega
        have a2 : ∀ {α : Type} {F : Int32 → MI → MJ → Option α}, oc (f_Verifier_isMarked 11 2000 (nI (tgt cd k)) I J) F = F (if tgt cd k < 2000 ∧ ¬ I 11 (tgt cd k) = nI 0 then nI 1 else nI 0) I J := fun {α F} => by
          rw [im (by omega) (by omega), oc_some]
        by_cases ok : tgt cd k < n ∧ I 11 (tgt cd k) = nI 1
        · have hlt2 := ok.1
          have ih2 := ih f (va_up I 12 (upd (I 12) (tgt cd k) (nI 1))) J (by
            refine ⟨?_, fun j hj => ?_⟩
            · simp (disch := omega) only [a11, a01, ↓li_m, ↓oc_some, ↓oc_ite, ↓oc_oc, ↓oc_pl, ↓oc_none, ↓oc_oe, ↓pl_eq, ↓oe_i, ↓oe_j, va_up_self, va_up_ne, va_up_up, upd_s, upd_n, updL_s, updL_n, nI_add, nI_1, nI_ltI, nI_leI, nI_eq, nI_clamp, li_n, m1_lt, m1_le, m1_gt, m1_ge, m1_ne, m1_en, m1_ad, nle_F, nle_T, nlt_F, nlt_T, neq_F, neq_T, or_self, or_false, false_or, true_or, or_true, and_self, and_false, false_and, true_and, and_true, not_true_eq_false, not_false_eq_true, ↓reduceIte, if_true, if_false, Nat.reduceAdd, ite_self, Bool.false_eq_true, hr1]
            · simp (disch := omega) only [a11, a01, ↓li_m, ↓oc_some, ↓oc_ite, ↓oc_oc, ↓oc_pl, ↓oc_none, ↓oc_oe, ↓pl_eq, ↓oe_i, ↓oe_j, va_up_self, va_up_ne, va_up_up, upd_s, upd_n, updL_s, updL_n, nI_add, nI_1, nI_ltI, nI_leI, nI_eq, nI_clamp, li_n, m1_lt, m1_le, m1_gt, m1_ge, m1_ne, m1_en, m1_ad, nle_F, nle_T, nlt_F, nlt_T, neq_F, neq_T, or_self, or_false, false_or, true_or, or_true, and_self, and_false, false_and, true_and, and_true, not_true_eq_false, not_false_eq_true, ↓reduceIte, if_true, if_false, Nat.reduceAdd, ite_self, Bool.false_eq_true]
              exact hr.2 j hj) (by simp (disch := omega) only [a11, a01, ↓li_m, ↓oc_some, ↓oc_ite, ↓oc_oc, ↓oc_pl, ↓oc_none, ↓oc_oe, ↓pl_eq, ↓oe_i, ↓oe_j, va_up_self, va_up_ne, va_up_up, upd_s, upd_n, updL_s, updL_n, nI_add, nI_1, nI_ltI, nI_leI, nI_eq, nI_clamp, li_n, m1_lt, m1_le, m1_gt, m1_ge, m1_ne, m1_en, m1_ad, nle_F, nle_T, nlt_F, nlt_T, neq_F, neq_T, or_self, or_false, false_or, true_or, or_true, and_self, and_false, false_and, true_and, and_true, not_true_eq_false, not_false_eq_true, ↓reduceIte, if_true, if_false, Nat.reduceAdd, ite_self, Bool.false_eq_true]; exact hS) (by omega) (by omega)
          rw [← he, c2C_eq] at ih2
          have fin : ∀ {x : Nat}, nI x = (if cd k = 17 then nI (k + 2) else nI (k + 1)) → (oc (f_Row_target 1 2 2000 (nI x) I J) fun v11 I11 J11 => oc (f_Verifier_isMarked 11 2000 v11 I11 J11) fun v12 I12 J12 => if ¬ v12 = nI 0 then oc (f_Verifier_mark 12 2000 v11 I12 J12) fun v14 I14 J14 => f_Verifier_findTargets_2 1 2 2000 f (nI (k + 1)) I14 J14 else some (Sum.inr (nI k), I12, J12)) = c2C I J (c2 cd n (I 11) d (upd (I 12) (tgt cd k) (nI 1))) := by
            intro x hx
            rw [hgo hj hx, a2, if_pos (show tgt cd k < 2000 ∧ ¬ I 11 (tgt cd k) = nI 0 from ⟨by omega, by rw [ok.2]; exact n10⟩), if_pos (show ¬ nI 1 = nI 0 by decide)]
            simp (disch := omega) only [a11, a01, ↓li_m, ↓oc_some, ↓oc_ite, ↓oc_oc, ↓oc_pl, ↓oc_none, ↓oc_oe, ↓pl_eq, ↓oe_i, ↓oe_j, va_up_self, va_up_ne, va_up_up, upd_s, upd_n, updL_s, updL_n, nI_add, nI_1, nI_ltI, nI_leI, nI_eq, nI_clamp, li_n, m1_lt, m1_le, m1_gt, m1_ge, m1_ne, m1_en, m1_ad, nle_F, nle_T, nlt_F, nlt_T, neq_F, neq_T, or_self, or_false, false_or, true_or, or_true, and_self, and_false, false_and, true_and, and_true, not_true_eq_false, not_false_eq_true, ↓reduceIte, if_true, if_false, Nat.reduceAdd, ite_self, Bool.false_eq_true, ↓U_Verifier_mark, ih2]
          rcases hj with hj | hj | hj
          · simp (disch := omega) only [a11, a01, ↓li_m, ↓oc_some, ↓oc_ite, ↓oc_oc, ↓oc_pl, ↓oc_none, ↓oc_oe, ↓pl_eq, ↓oe_i, ↓oe_j, va_up_self, va_up_ne, va_up_up, upd_s, upd_n, updL_s, updL_n, nI_add, nI_1, nI_ltI, nI_leI, nI_eq, nI_clamp, li_n, m1_lt, m1_le, m1_gt, m1_ge, m1_ne, m1_en, m1_ad, nle_F, nle_T, nlt_F, nlt_T, neq_F, neq_T, or_self, or_false, false_or, true_or, or_true, and_self, and_false, false_and, true_and, and_true, not_true_eq_false, not_false_eq_true, ↓reduceIte, if_true, if_false, Nat.reduceAdd, ite_self, Bool.false_eq_true, ↓a0, ↓a1, hr1, q, n10, hj, ok.2, isj]
            exact fin (by rw [if_pos hj])
          · simp (disch := omega) only [a11, a01, ↓li_m, ↓oc_some, ↓oc_ite, ↓oc_oc, ↓oc_pl, ↓oc_none, ↓oc_oe, ↓pl_eq, ↓oe_i, ↓oe_j, va_up_self, va_up_ne, va_up_up, upd_s, upd_n, updL_s, updL_n, nI_add, nI_1, nI_ltI, nI_leI, nI_eq, nI_clamp, li_n, m1_lt, m1_le, m1_gt, m1_ge, m1_ne, m1_en, m1_ad, nle_F, nle_T, nlt_F, nlt_T, neq_F, neq_T, or_self, or_false, false_or, true_or, or_true, and_self, and_false, false_and, true_and, and_true, not_true_eq_false, not_false_eq_true, ↓reduceIte, if_true, if_false, Nat.reduceAdd, ite_self, Bool.false_eq_true, ↓a0, ↓a1, hr1, q, n10, hj, ok.2, isj]
            exact fin (by rw [if_neg (by omega)])
          · simp (disch := omega) only [a11, a01, ↓li_m, ↓oc_some, ↓oc_ite, ↓oc_oc, ↓oc_pl, ↓oc_none, ↓oc_oe, ↓pl_eq, ↓oe_i, ↓oe_j, va_up_self, va_up_ne, va_up_up, upd_s, upd_n, updL_s, updL_n, nI_add, nI_1, nI_ltI, nI_leI, nI_eq, nI_clamp, li_n, m1_lt, m1_le, m1_gt, m1_ge, m1_ne, m1_en, m1_ad, nle_F, nle_T, nlt_F, nlt_T, neq_F, neq_T, or_self, or_false, false_or, true_or, or_true, and_self, and_false, false_and, true_and, and_true, not_true_eq_false, not_false_eq_true, ↓reduceIte, if_true, if_false, Nat.reduceAdd, ite_self, Bool.false_eq_true, ↓a0, ↓a1, hr1, q, n10, hj, ok.2, isj]
            exact fin (by rw [if_neg (by omega)])
        · have nk : ¬ (tgt cd k < 2000 ∧ ¬ I 11 (tgt cd k) = nI 0) := by
            intro c
            by_cases c7 : tgt cd k < n
            · rcases hS.1 (tgt cd k) c.1 with c8 | c8
              · exact c.2 c8
              · exact ok ⟨c7, c8⟩
            · exact c.2 (hS.2.1 _ (by omega) c.1)
          have fin : ∀ {x : Nat}, nI x = (if cd k = 17 then nI (k + 2) else nI (k + 1)) → (oc (f_Row_target 1 2 2000 (nI x) I J) fun v11 I11 J11 => oc (f_Verifier_isMarked 11 2000 v11 I11 J11) fun v12 I12 J12 => if ¬ v12 = nI 0 then oc (f_Verifier_mark 12 2000 v11 I12 J12) fun v14 I14 J14 => f_Verifier_findTargets_2 1 2 2000 f (nI (k + 1)) I14 J14 else some (Sum.inr (nI k), I12, J12)) = c2C I J (some k, I 12) := by
            intro x hx
            rw [hgo hj hx, a2, if_neg nk, if_neg (show ¬ ¬ nI 0 = nI 0 by decide)]
            unfold c2C
            simp (disch := omega) only [a11, a01, ↓li_m, ↓oc_some, ↓oc_ite, ↓oc_oc, ↓oc_pl, ↓oc_none, ↓oc_oe, ↓pl_eq, ↓oe_i, ↓oe_j, va_up_self, va_up_ne, va_up_up, upd_s, upd_n, updL_s, updL_n, nI_add, nI_1, nI_ltI, nI_leI, nI_eq, nI_clamp, li_n, m1_lt, m1_le, m1_gt, m1_ge, m1_ne, m1_en, m1_ad, nle_F, nle_T, nlt_F, nlt_T, neq_F, neq_T, or_self, or_false, false_or, true_or, or_true, and_self, and_false, false_and, true_and, and_true, not_true_eq_false, not_false_eq_true, ↓reduceIte, if_true, if_false, Nat.reduceAdd, ite_self, Bool.false_eq_true, va_up_id]
          rcases hj with hj | hj | hj
          · simp (disch := omega) only [a11, a01, ↓li_m, ↓oc_some, ↓oc_ite, ↓oc_oc, ↓oc_pl, ↓oc_none, ↓oc_oe, ↓pl_eq, ↓oe_i, ↓oe_j, va_up_self, va_up_ne, va_up_up, upd_s, upd_n, updL_s, updL_n, nI_add, nI_1, nI_ltI, nI_leI, nI_eq, nI_clamp, li_n, m1_lt, m1_le, m1_gt, m1_ge, m1_ne, m1_en, m1_ad, nle_F, nle_T, nlt_F, nlt_T, neq_F, neq_T, or_self, or_false, false_or, true_or, or_true, and_self, and_false, false_and, true_and, and_true, not_true_eq_false, not_false_eq_true, ↓reduceIte, if_true, if_false, Nat.reduceAdd, ite_self, Bool.false_eq_true, ↓a0, ↓a1, hr1, q, n10, hj, ok, isj]
            exact fin (by rw [if_pos hj])
          · simp (disch := omega) only [a11, a01, ↓li_m, ↓oc_some, ↓oc_ite, ↓oc_oc, ↓oc_pl, ↓oc_none, ↓oc_oe, ↓pl_eq, ↓oe_i, ↓oe_j, va_up_self, va_up_ne, va_up_up, upd_s, upd_n, updL_s, updL_n, nI_add, nI_1, nI_ltI, nI_leI, nI_eq, nI_clamp, li_n, m1_lt, m1_le, m1_gt, m1_ge, m1_ne, m1_en, m1_ad, nle_F, nle_T, nlt_F, nlt_T, neq_F, neq_T, or_self, or_false, false_or, true_or, or_true, and_self, and_false, false_and, true_and, and_true, not_true_eq_false, not_false_eq_true, ↓reduceIte, if_true, if_false, Nat.reduceAdd, ite_self, Bool.false_eq_true, ↓a0, ↓a1, hr1, q, n10, hj, ok, isj]
            exact fin (by rw [if_neg (by omega)])
          · simp (disch := omega) only [a11, a01, ↓li_m, ↓oc_some, ↓oc_ite, ↓oc_oc, ↓oc_pl, ↓oc_none, ↓oc_oe, ↓pl_eq, ↓oe_i, ↓oe_j, va_up_self, va_up_ne, va_up_up, upd_s, upd_n, updL_s, updL_n, nI_add, nI_1, nI_ltI, nI_leI, nI_eq, nI_clamp, li_n, m1_lt, m1_le, m1_gt, m1_ge, m1_ne, m1_en, m1_ad, nle_F, nle_T, nlt_F, nlt_T, neq_F, neq_T, or_self, or_false, false_or, true_or, or_true, and_self, and_false, false_and, true_and, and_true, not_true_eq_false, not_false_eq_true, ↓reduceIte, if_true, if_false, Nat.reduceAdd, ite_self, Bool.false_eq_true, ↓a0, ↓a1, hr1, q, n10, hj, ok, isj]
            exact fin (by rw [if_neg (by omega)])
      · have e1 : ¬ cd k = 17 := fun c => hj (Or.inl c)
        have e2 : ¬ cd k = 18 := fun c => hj (Or.inr (Or.inl c))
        have e3 : ¬ cd k = 28 := fun c => hj (Or.inr (Or.inr c))
        simp (disch := omega) only [a11, a01, ↓li_m, ↓oc_some, ↓oc_ite, ↓oc_oc, ↓oc_pl, ↓oc_none, ↓oc_oe, ↓pl_eq, ↓oe_i, ↓oe_j, va_up_self, va_up_ne, va_up_up, upd_s, upd_n, updL_s, updL_n, nI_add, nI_1, nI_ltI, nI_leI, nI_eq, nI_clamp, li_n, m1_lt, m1_le, m1_gt, m1_ge, m1_ne, m1_en, m1_ad, nle_F, nle_T, nlt_F, nlt_T, neq_F, neq_T, or_self, or_false, false_or, true_or, or_true, and_self, and_false, false_and, true_and, and_true, not_true_eq_false, not_false_eq_true, ↓reduceIte, if_true, if_false, Nat.reduceAdd, ite_self, Bool.false_eq_true, ↓a0, ↓a1, hr1, q, n10, ih', hj]
theorem c2_skip {cd : Nat → Nat} {n : Nat} {g : Nat → Int32} (d : Nat) (t : Nat → Int32) : ∀ e, d + e ≤ n → (∀ i, n - (d + e) ≤ i → i < n - d → g i = nI 0) → c2 cd n g (d + e) t = c2 cd n g d t := by
  intro e
  induction e with
  | zero => intro _ _; rfl
  | succ e ih =>
    intro h1 h2
    rw [show d + (e + 1) = d + e + 1 by omega, c2, if_neg (fun c => n01 ((h2 _ (by omega) (by omega)).symm.trans c.1)), ih (by omega) (fun i h3 h4 => h2 i (by omega) h4)]
def c2M (I : MI) (J : MJ) (r : Option Nat × (Nat → Int32)) : M2 (Int32 ⊕ Int32) := match r.1 with
  | none => oc (f_Model_isFlowGood (va_up I 167 r.2) J) (fun v26 I26 J26 => if v26 = 0 ∨ v26 = 1 then some (.inl v26, I26, J26) else none)
  | some k => some (.inr (nI k), va_up I 167 r.2, J)
theorem c2M_eq (I : MI) (J : MJ) (t : Nat → Int32) (r : Option Nat × (Nat → Int32)) : c2M (va_up I 167 t) J r = c2M I J r := by
  unfold c2M
  cases r.1 with
  | none => rw [va_up_up]
  | some y => rw [va_up_up]
theorem m_goal {a m n k : Nat} {cd : Nat → Nat} {I : MI} {J : MJ} (hb : ∀ k, k < n → cd k < 256 ∧ I a k = nI (cd k)) (hn : n ≤ m) (hm : m < 2 ^ 30) (hj : isj (cd k)) (hk : k + opl (cd k) ≤ n) : f_Model_goalOf a m (nI k) I J = some (nI (tgt cd k), I, J) := by
  unfold f_Model_goalOf tgt
  rcases hj with hj | hj | hj
  · rw [hj, show opl 17 = 4 from rfl] at hk
    have e0 := (hb k (by omega)).2
    have e2 := (hb (k + 2) (by omega)).2
    have e3 := (hb (k + 3) (by omega)).2
    simp (disch := omega) only [a11, a01, ↓li_m, ↓oc_some, ↓oc_ite, ↓oc_oc, ↓oc_pl, ↓oc_none, ↓oc_oe, ↓pl_eq, ↓oe_i, ↓oe_j, va_up_self, va_up_ne, va_up_up, upd_s, upd_n, updL_s, updL_n, nI_add, nI_1, nI_ltI, nI_leI, nI_eq, nI_clamp, li_n, m1_lt, m1_le, m1_gt, m1_ge, m1_ne, m1_en, m1_ad, nle_F, nle_T, nlt_F, nlt_T, neq_F, neq_T, or_self, or_false, false_or, true_or, or_true, and_self, and_false, false_and, true_and, and_true, not_true_eq_false, not_false_eq_true, ↓reduceIte, if_true, if_false, Nat.reduceAdd, ite_self, Bool.false_eq_true, e0, e2, e3, hj, nI_ml]
  · rw [hj, show opl 18 = 3 from rfl] at hk
    have e0 := (hb k (by omega)).2
    have e2 := (hb (k + 2) (by omega)).2
    have e3 := (hb (k + 1) (by omega)).2
    simp (disch := omega) only [a11, a01, ↓li_m, ↓oc_some, ↓oc_ite, ↓oc_oc, ↓oc_pl, ↓oc_none, ↓oc_oe, ↓pl_eq, ↓oe_i, ↓oe_j, va_up_self, va_up_ne, va_up_up, upd_s, upd_n, updL_s, updL_n, nI_add, nI_1, nI_ltI, nI_leI, nI_eq, nI_clamp, li_n, m1_lt, m1_le, m1_gt, m1_ge, m1_ne, m1_en, m1_ad, nle_F, nle_T, nlt_F, nlt_T, neq_F, neq_T, or_self, or_false, false_or, true_or, or_true, and_self, and_false, false_and, true_and, and_true, not_true_eq_false, not_false_eq_true, ↓reduceIte, if_true, if_false, Nat.reduceAdd, ite_self, Bool.false_eq_true, e0, e2, e3, hj, nI_ml]
  · rw [hj, show opl 28 = 3 from rfl] at hk
    have e0 := (hb k (by omega)).2
    have e2 := (hb (k + 2) (by omega)).2
    have e3 := (hb (k + 1) (by omega)).2
    simp (disch := omega) only [a11, a01, ↓li_m, ↓oc_some, ↓oc_ite, ↓oc_oc, ↓oc_pl, ↓oc_none, ↓oc_oe, ↓pl_eq, ↓oe_i, ↓oe_j, va_up_self, va_up_ne, va_up_up, upd_s, upd_n, updL_s, updL_n, nI_add, nI_1, nI_ltI, nI_leI, nI_eq, nI_clamp, li_n, m1_lt, m1_le, m1_gt, m1_ge, m1_ne, m1_en, m1_ad, nle_F, nle_T, nlt_F, nlt_T, neq_F, neq_T, or_self, or_false, false_or, true_or, or_true, and_self, and_false, false_and, true_and, and_true, not_true_eq_false, not_false_eq_true, ↓reduceIte, if_true, if_false, Nat.reduceAdd, ite_self, Bool.false_eq_true, e0, e2, e3, hj, nI_ml]
theorem tgt_lt {n k : Nat} {cd : Nat → Nat} (hb : ∀ k, k < n → cd k < 256) (hj : isj (cd k)) (hk : k + opl (cd k) ≤ n) : tgt cd k < 70000 := by
  unfold tgt
  rcases hj with hj | hj | hj
  · rw [hj, show opl 17 = 4 from rfl] at hk
    rw [if_pos hj]
    have := hb (k + 2) (by omega)
    have := hb (k + 3) (by omega)
    omega
  · rw [hj, show opl 18 = 3 from rfl] at hk
    rw [if_neg (by omega)]
    have := hb (k + 1) (by omega)
    have := hb (k + 2) (by omega)
    omega
  · rw [hj, show opl 28 = 3 from rfl] at hk
    rw [if_neg (by omega)]
    have := hb (k + 1) (by omega)
    have := hb (k + 2) (by omega)
    omega
theorem c2_M {cd : Nat → Nat} {n : Nat} : ∀ (d fu k : Nat) (I : MI) (J : MJ), rowM I n cd → St cd n (I 166) → k ≤ n → (k < n → I 166 k = nI 1) → n < d + k → n < fu + k → f_Model_isVerified_132 fu (nI k) I J = c2M I J (c2 cd n (I 166) (n - k) (I 167)) := by
  intro d
  induction d with
  | zero => intro fu k I J _ _ _ _ _ _; omega
  | succ d ih =>
    intro fu k I J hr hS h1 hk h3 h4
    obtain ⟨f, rfl⟩ : ∃ f, fu = f + 1 := ⟨fu - 1, by omega⟩
    have hr1 := hr.1
    have hn := hr.2.1
    rw [f_Model_isVerified_132]
    by_cases q : n ≤ k
    · rw [show n - k = 0 by omega, c2]
      unfold c2M
      rw [va_up_id, hr1, if_pos (nI_le q (by omega))]
    · have hg := hk (by omega)
      obtain ⟨c1, c3, c4, c5⟩ := hS.2.2 k (by omega) hg
      have hb := hr.2.2 k (by omega)
      have c6 := opl_1 c1
      have hl9 := opl_le (cd k)
      have ml : ∀ {α : Type} {K : MI} {F : Int32 → MI → MJ → Option α}, oc (f_Model_longOf (nI (cd k)) K J) F = F (nI (opl (cd k))) K J := fun {α K F} => by
        rw [m_len c1, oc_some]
      have sk : ∀ t, c2 cd n (I 166) (n - k - 1) t = c2 cd n (I 166) (n - (k + opl (cd k))) t := by
        intro t
        have := c2_skip (cd := cd) (n := n) (g := I 166) (n - (k + opl (cd k))) t (opl (cd k) - 1) (by omega) (fun i h5 h6 => c5 i (by omega) (by omega))
        rw [← this]
        congr 1
        omega
      have e0 : n - k = n - k - 1 + 1 := by omega
      rw [e0, c2, show n - (n - k - 1 + 1) = k by omega]
      by_cases hj : isj (cd k)
      · have ht := tgt_lt (fun j hj => (hr.2.2 j hj).1) hj c3
        have go : ∀ {α : Type} {F : Int32 → MI → MJ → Option α}, oc (f_Model_goalOf 116 2000 (nI k) I J) F = F (nI (tgt cd k)) I J := fun {α F} => by
          rw [m_goal hr.2.2 hn (by omega) hj c3, oc_some]
        by_cases ok : tgt cd k < n ∧ I 166 (tgt cd k) = nI 1
        · have hlt2 := ok.1
          have n10 : ¬ nI 1 = nI 0 := by decide
          have ih2 := ih f (k + opl (cd k)) (va_up I 167 (upd (I 167) (tgt cd k) (nI 1))) J (by
            refine ⟨?_, hn, fun j hj => ?_⟩
            · simp (disch := omega) only [a11, a01, ↓li_m, ↓oc_some, ↓oc_ite, ↓oc_oc, ↓oc_pl, ↓oc_none, ↓oc_oe, ↓pl_eq, ↓oe_i, ↓oe_j, va_up_self, va_up_ne, va_up_up, upd_s, upd_n, updL_s, updL_n, nI_add, nI_1, nI_ltI, nI_leI, nI_eq, nI_clamp, li_n, m1_lt, m1_le, m1_gt, m1_ge, m1_ne, m1_en, m1_ad, nle_F, nle_T, nlt_F, nlt_T, neq_F, neq_T, or_self, or_false, false_or, true_or, or_true, and_self, and_false, false_and, true_and, and_true, not_true_eq_false, not_false_eq_true, ↓reduceIte, if_true, if_false, Nat.reduceAdd, ite_self, Bool.false_eq_true, hr1]
            · simp (disch := omega) only [a11, a01, ↓li_m, ↓oc_some, ↓oc_ite, ↓oc_oc, ↓oc_pl, ↓oc_none, ↓oc_oe, ↓pl_eq, ↓oe_i, ↓oe_j, va_up_self, va_up_ne, va_up_up, upd_s, upd_n, updL_s, updL_n, nI_add, nI_1, nI_ltI, nI_leI, nI_eq, nI_clamp, li_n, m1_lt, m1_le, m1_gt, m1_ge, m1_ne, m1_en, m1_ad, nle_F, nle_T, nlt_F, nlt_T, neq_F, neq_T, or_self, or_false, false_or, true_or, or_true, and_self, and_false, false_and, true_and, and_true, not_true_eq_false, not_false_eq_true, ↓reduceIte, if_true, if_false, Nat.reduceAdd, ite_self, Bool.false_eq_true]
              exact hr.2.2 j hj) (by simp (disch := omega) only [a11, a01, ↓li_m, ↓oc_some, ↓oc_ite, ↓oc_oc, ↓oc_pl, ↓oc_none, ↓oc_oe, ↓pl_eq, ↓oe_i, ↓oe_j, va_up_self, va_up_ne, va_up_up, upd_s, upd_n, updL_s, updL_n, nI_add, nI_1, nI_ltI, nI_leI, nI_eq, nI_clamp, li_n, m1_lt, m1_le, m1_gt, m1_ge, m1_ne, m1_en, m1_ad, nle_F, nle_T, nlt_F, nlt_T, neq_F, neq_T, or_self, or_false, false_or, true_or, or_true, and_self, and_false, false_and, true_and, and_true, not_true_eq_false, not_false_eq_true, ↓reduceIte, if_true, if_false, Nat.reduceAdd, ite_self, Bool.false_eq_true]; exact hS) c3 (by simp (disch := omega) only [a11, a01, ↓li_m, ↓oc_some, ↓oc_ite, ↓oc_oc, ↓oc_pl, ↓oc_none, ↓oc_oe, ↓pl_eq, ↓oe_i, ↓oe_j, va_up_self, va_up_ne, va_up_up, upd_s, upd_n, updL_s, updL_n, nI_add, nI_1, nI_ltI, nI_leI, nI_eq, nI_clamp, li_n, m1_lt, m1_le, m1_gt, m1_ge, m1_ne, m1_en, m1_ad, nle_F, nle_T, nlt_F, nlt_T, neq_F, neq_T, or_self, or_false, false_or, true_or, or_true, and_self, and_false, false_and, true_and, and_true, not_true_eq_false, not_false_eq_true, ↓reduceIte, if_true, if_false, Nat.reduceAdd, ite_self, Bool.false_eq_true]; exact c4) (by omega) (by omega)
          rw [c2M_eq, va_up_self, va_up_ne _ _ (show 166 ≠ 167 by decide), ← sk] at ih2
          rcases id hj with hj' | hj' | hj'
          · simp (disch := omega) only [a11, a01, ↓li_m, ↓oc_some, ↓oc_ite, ↓oc_oc, ↓oc_pl, ↓oc_none, ↓oc_oe, ↓pl_eq, ↓oe_i, ↓oe_j, va_up_self, va_up_ne, va_up_up, upd_s, upd_n, updL_s, updL_n, nI_add, nI_1, nI_ltI, nI_leI, nI_eq, nI_clamp, li_n, m1_lt, m1_le, m1_gt, m1_ge, m1_ne, m1_en, m1_ad, nle_F, nle_T, nlt_F, nlt_T, neq_F, neq_T, or_self, or_false, false_or, true_or, or_true, and_self, and_false, false_and, true_and, and_true, not_true_eq_false, not_false_eq_true, ↓reduceIte, if_true, if_false, Nat.reduceAdd, ite_self, Bool.false_eq_true, ↓go, hr1, hb.2, hg, hj', ok.2, n10, isj]
            rw [← hj', ml, nI_add, ih2]
          · simp (disch := omega) only [a11, a01, ↓li_m, ↓oc_some, ↓oc_ite, ↓oc_oc, ↓oc_pl, ↓oc_none, ↓oc_oe, ↓pl_eq, ↓oe_i, ↓oe_j, va_up_self, va_up_ne, va_up_up, upd_s, upd_n, updL_s, updL_n, nI_add, nI_1, nI_ltI, nI_leI, nI_eq, nI_clamp, li_n, m1_lt, m1_le, m1_gt, m1_ge, m1_ne, m1_en, m1_ad, nle_F, nle_T, nlt_F, nlt_T, neq_F, neq_T, or_self, or_false, false_or, true_or, or_true, and_self, and_false, false_and, true_and, and_true, not_true_eq_false, not_false_eq_true, ↓reduceIte, if_true, if_false, Nat.reduceAdd, ite_self, Bool.false_eq_true, ↓go, hr1, hb.2, hg, hj', ok.2, n10, isj]
            rw [← hj', ml, nI_add, ih2]
          · simp (disch := omega) only [a11, a01, ↓li_m, ↓oc_some, ↓oc_ite, ↓oc_oc, ↓oc_pl, ↓oc_none, ↓oc_oe, ↓pl_eq, ↓oe_i, ↓oe_j, va_up_self, va_up_ne, va_up_up, upd_s, upd_n, updL_s, updL_n, nI_add, nI_1, nI_ltI, nI_leI, nI_eq, nI_clamp, li_n, m1_lt, m1_le, m1_gt, m1_ge, m1_ne, m1_en, m1_ad, nle_F, nle_T, nlt_F, nlt_T, neq_F, neq_T, or_self, or_false, false_or, true_or, or_true, and_self, and_false, false_and, true_and, and_true, not_true_eq_false, not_false_eq_true, ↓reduceIte, if_true, if_false, Nat.reduceAdd, ite_self, Bool.false_eq_true, ↓go, hr1, hb.2, hg, hj', ok.2, n10, isj]
            rw [← hj', ml, nI_add, ih2]
        · have hen : c2M I J (some k, I 167) = some (.inr (nI k), I, J) := by
            unfold c2M
            simp (disch := omega) only [a11, a01, ↓li_m, ↓oc_some, ↓oc_ite, ↓oc_oc, ↓oc_pl, ↓oc_none, ↓oc_oe, ↓pl_eq, ↓oe_i, ↓oe_j, va_up_self, va_up_ne, va_up_up, upd_s, upd_n, updL_s, updL_n, nI_add, nI_1, nI_ltI, nI_leI, nI_eq, nI_clamp, li_n, m1_lt, m1_le, m1_gt, m1_ge, m1_ne, m1_en, m1_ad, nle_F, nle_T, nlt_F, nlt_T, neq_F, neq_T, or_self, or_false, false_or, true_or, or_true, and_self, and_false, false_and, true_and, and_true, not_true_eq_false, not_false_eq_true, ↓reduceIte, if_true, if_false, Nat.reduceAdd, ite_self, Bool.false_eq_true, va_up_id]
          by_cases c7 : n ≤ tgt cd k
          · rcases id hj with hj' | hj' | hj'
            · simp (disch := omega) only [a11, a01, ↓li_m, ↓oc_some, ↓oc_ite, ↓oc_oc, ↓oc_pl, ↓oc_none, ↓oc_oe, ↓pl_eq, ↓oe_i, ↓oe_j, va_up_self, va_up_ne, va_up_up, upd_s, upd_n, updL_s, updL_n, nI_add, nI_1, nI_ltI, nI_leI, nI_eq, nI_clamp, li_n, m1_lt, m1_le, m1_gt, m1_ge, m1_ne, m1_en, m1_ad, nle_F, nle_T, nlt_F, nlt_T, neq_F, neq_T, or_self, or_false, false_or, true_or, or_true, and_self, and_false, false_and, true_and, and_true, not_true_eq_false, not_false_eq_true, ↓reduceIte, if_true, if_false, Nat.reduceAdd, ite_self, Bool.false_eq_true, ↓go, hr1, hb.2, hg, hj', ok, isj, hen]
            · simp (disch := omega) only [a11, a01, ↓li_m, ↓oc_some, ↓oc_ite, ↓oc_oc, ↓oc_pl, ↓oc_none, ↓oc_oe, ↓pl_eq, ↓oe_i, ↓oe_j, va_up_self, va_up_ne, va_up_up, upd_s, upd_n, updL_s, updL_n, nI_add, nI_1, nI_ltI, nI_leI, nI_eq, nI_clamp, li_n, m1_lt, m1_le, m1_gt, m1_ge, m1_ne, m1_en, m1_ad, nle_F, nle_T, nlt_F, nlt_T, neq_F, neq_T, or_self, or_false, false_or, true_or, or_true, and_self, and_false, false_and, true_and, and_true, not_true_eq_false, not_false_eq_true, ↓reduceIte, if_true, if_false, Nat.reduceAdd, ite_self, Bool.false_eq_true, ↓go, hr1, hb.2, hg, hj', ok, isj, hen]
            · simp (disch := omega) only [a11, a01, ↓li_m, ↓oc_some, ↓oc_ite, ↓oc_oc, ↓oc_pl, ↓oc_none, ↓oc_oe, ↓pl_eq, ↓oe_i, ↓oe_j, va_up_self, va_up_ne, va_up_up, upd_s, upd_n, updL_s, updL_n, nI_add, nI_1, nI_ltI, nI_leI, nI_eq, nI_clamp, li_n, m1_lt, m1_le, m1_gt, m1_ge, m1_ne, m1_en, m1_ad, nle_F, nle_T, nlt_F, nlt_T, neq_F, neq_T, or_self, or_false, false_or, true_or, or_true, and_self, and_false, false_and, true_and, and_true, not_true_eq_false, not_false_eq_true, ↓reduceIte, if_true, if_false, Nat.reduceAdd, ite_self, Bool.false_eq_true, ↓go, hr1, hb.2, hg, hj', ok, isj, hen]
          · have c8 : I 166 (tgt cd k) = nI 0 := (hS.1 _ (by omega)).resolve_right (fun c => ok ⟨by omega, c⟩)
            rcases id hj with hj' | hj' | hj'
            · simp (disch := omega) only [a11, a01, ↓li_m, ↓oc_some, ↓oc_ite, ↓oc_oc, ↓oc_pl, ↓oc_none, ↓oc_oe, ↓pl_eq, ↓oe_i, ↓oe_j, va_up_self, va_up_ne, va_up_up, upd_s, upd_n, updL_s, updL_n, nI_add, nI_1, nI_ltI, nI_leI, nI_eq, nI_clamp, li_n, m1_lt, m1_le, m1_gt, m1_ge, m1_ne, m1_en, m1_ad, nle_F, nle_T, nlt_F, nlt_T, neq_F, neq_T, or_self, or_false, false_or, true_or, or_true, and_self, and_false, false_and, true_and, and_true, not_true_eq_false, not_false_eq_true, ↓reduceIte, if_true, if_false, Nat.reduceAdd, ite_self, Bool.false_eq_true, ↓go, hr1, hb.2, hg, hj', c8, n01, isj, hen]
            · simp (disch := omega) only [a11, a01, ↓li_m, ↓oc_some, ↓oc_ite, ↓oc_oc, ↓oc_pl, ↓oc_none, ↓oc_oe, ↓pl_eq, ↓oe_i, ↓oe_j, va_up_self, va_up_ne, va_up_up, upd_s, upd_n, updL_s, updL_n, nI_add, nI_1, nI_ltI, nI_leI, nI_eq, nI_clamp, li_n, m1_lt, m1_le, m1_gt, m1_ge, m1_ne, m1_en, m1_ad, nle_F, nle_T, nlt_F, nlt_T, neq_F, neq_T, or_self, or_false, false_or, true_or, or_true, and_self, and_false, false_and, true_and, and_true, not_true_eq_false, not_false_eq_true, ↓reduceIte, if_true, if_false, Nat.reduceAdd, ite_self, Bool.false_eq_true, ↓go, hr1, hb.2, hg, hj', c8, n01, isj, hen]
            · simp (disch := omega) only [a11, a01, ↓li_m, ↓oc_some, ↓oc_ite, ↓oc_oc, ↓oc_pl, ↓oc_none, ↓oc_oe, ↓pl_eq, ↓oe_i, ↓oe_j, va_up_self, va_up_ne, va_up_up, upd_s, upd_n, updL_s, updL_n, nI_add, nI_1, nI_ltI, nI_leI, nI_eq, nI_clamp, li_n, m1_lt, m1_le, m1_gt, m1_ge, m1_ne, m1_en, m1_ad, nle_F, nle_T, nlt_F, nlt_T, neq_F, neq_T, or_self, or_false, false_or, true_or, or_true, and_self, and_false, false_and, true_and, and_true, not_true_eq_false, not_false_eq_true, ↓reduceIte, if_true, if_false, Nat.reduceAdd, ite_self, Bool.false_eq_true, ↓go, hr1, hb.2, hg, hj', c8, n01, isj, hen]
      · have e1 : ¬ cd k = 17 := fun c => hj (Or.inl c)
        have e2 : ¬ cd k = 18 := fun c => hj (Or.inr (Or.inl c))
        have e3 : ¬ cd k = 28 := fun c => hj (Or.inr (Or.inr c))
        have ih2 := ih f (k + opl (cd k)) I J hr hS c3 c4 (by omega) (by omega)
        rw [← sk] at ih2
        simp (disch := omega) only [a11, a01, ↓li_m, ↓oc_some, ↓oc_ite, ↓oc_oc, ↓oc_pl, ↓oc_none, ↓oc_oe, ↓pl_eq, ↓oe_i, ↓oe_j, va_up_self, va_up_ne, va_up_up, upd_s, upd_n, updL_s, updL_n, nI_add, nI_1, nI_ltI, nI_leI, nI_eq, nI_clamp, li_n, m1_lt, m1_le, m1_gt, m1_ge, m1_ne, m1_en, m1_ad, nle_F, nle_T, nlt_F, nlt_T, neq_F, neq_T, or_self, or_false, false_or, true_or, or_true, and_self, and_false, false_and, true_and, and_true, not_true_eq_false, not_false_eq_true, ↓reduceIte, if_true, if_false, Nat.reduceAdd, ite_self, Bool.false_eq_true, hr1, hb.2, hj, and_false]
        rw [ml, nI_add, ih2]
