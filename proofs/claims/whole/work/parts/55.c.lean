/-! load: the first pass -/
theorem a11 : nI 1 &&& nI 1 = nI 1 := by decide
theorem a01 : nI 0 &&& nI 1 = nI 0 := by decide
def p1 (cd : Nat → Nat) (n P : Nat) : Nat → Nat → Int32 → Nat → (Nat → Int32) → Option Nat × Int32 × Nat × (Nat → Int32)
  | 0, _, l, o, g => (none, l, o, g)
  | fu + 1, k, l, o, g => if n ≤ k then (none, l, o, g) else if cd k ≤ 29 ∧ k + opl (cd k) ≤ n ∧ opok cd P k = true then p1 cd n P fu (k + opl (cd k)) (nI (cd k)) (o + 1) (upd g k 1) else (some k, l, o, g)
def p1C (I : MI) (J : MJ) (r : Option Nat × Int32 × Nat × (Nat → Int32)) : M2 (Unit ⊕ Int32) := match r.1 with
  | none => some (.inr r.2.1, va_up (va_up I 10 (upd (I 10) 4 (nI r.2.2.1))) 11 r.2.2.2, J)
  | some k => some (.inl (), va_up (va_up I 10 (upd (upd (upd (I 10) 4 (nI r.2.2.1)) 5 1) 6 (nI k))) 11 r.2.2.2, J)
def p1M (I : MI) (J : MJ) (r : Option Nat × Int32 × Nat × (Nat → Int32)) : M2 (Int32 ⊕ Int32) := match r.1 with
  | none => some (.inr r.2.1, va_up (va_up I 112 (upd (I 112) 82 (nI r.2.2.1))) 166 r.2.2.2, J)
  | some k => some (.inl 0, va_up (va_up I 112 (upd (upd (upd (I 112) 82 (nI r.2.2.1)) 3 1) 4 (nI k))) 166 r.2.2.2, J)
theorem opl_1 {c : Nat} (h : c ≤ 29) : 1 ≤ opl c := (opl_pos ⟨c, by omega⟩).1
theorem p1C_eq (I : MI) (J : MJ) (g : Nat → Int32) (x : Int32) (r : Option Nat × Int32 × Nat × (Nat → Int32)) : p1C (va_up (va_up I 11 g) 10 (upd (I 10) 4 x)) J r = p1C I J r := by
  unfold p1C
  cases r.1 with
  | none => simp (disch := omega) only [a11, a01, ↓li_m, ↓oc_some, ↓oc_ite, ↓oc_oc, ↓oc_pl, ↓oc_none, ↓oc_oe, ↓pl_eq, ↓oe_i, ↓oe_j, va_up_self, va_up_ne, va_up_up, upd_s, upd_n, updL_s, updL_n, nI_add, nI_1, nI_ltI, nI_leI, nI_eq, nI_clamp, li_n, m1_lt, m1_le, m1_gt, m1_ge, m1_ne, m1_en, m1_ad, nle_F, nle_T, nlt_F, nlt_T, neq_F, neq_T, or_self, or_false, false_or, true_or, or_true, and_self, and_false, false_and, true_and, and_true, not_true_eq_false, not_false_eq_true, ↓reduceIte, if_true, if_false, Nat.reduceAdd, ite_self, Bool.false_eq_true, upd_u, va_4 _ _ _ _ _ (show 11 ≠ 10 by decide), va_up_c _ _ _ (show 10 ≠ 11 by decide)]
  | some y => simp (disch := omega) only [a11, a01, ↓li_m, ↓oc_some, ↓oc_ite, ↓oc_oc, ↓oc_pl, ↓oc_none, ↓oc_oe, ↓pl_eq, ↓oe_i, ↓oe_j, va_up_self, va_up_ne, va_up_up, upd_s, upd_n, updL_s, updL_n, nI_add, nI_1, nI_ltI, nI_leI, nI_eq, nI_clamp, li_n, m1_lt, m1_le, m1_gt, m1_ge, m1_ne, m1_en, m1_ad, nle_F, nle_T, nlt_F, nlt_T, neq_F, neq_T, or_self, or_false, false_or, true_or, or_true, and_self, and_false, false_and, true_and, and_true, not_true_eq_false, not_false_eq_true, ↓reduceIte, if_true, if_false, Nat.reduceAdd, ite_self, Bool.false_eq_true, upd_u, va_4 _ _ _ _ _ (show 11 ≠ 10 by decide), va_up_c _ _ _ (show 10 ≠ 11 by decide)]
theorem p1M_eq (I : MI) (J : MJ) (g : Nat → Int32) (x : Int32) (r : Option Nat × Int32 × Nat × (Nat → Int32)) : p1M (va_up (va_up I 166 g) 112 (upd (I 112) 82 x)) J r = p1M I J r := by
  unfold p1M
  cases r.1 with
  | none => simp (disch := omega) only [a11, a01, ↓li_m, ↓oc_some, ↓oc_ite, ↓oc_oc, ↓oc_pl, ↓oc_none, ↓oc_oe, ↓pl_eq, ↓oe_i, ↓oe_j, va_up_self, va_up_ne, va_up_up, upd_s, upd_n, updL_s, updL_n, nI_add, nI_1, nI_ltI, nI_leI, nI_eq, nI_clamp, li_n, m1_lt, m1_le, m1_gt, m1_ge, m1_ne, m1_en, m1_ad, nle_F, nle_T, nlt_F, nlt_T, neq_F, neq_T, or_self, or_false, false_or, true_or, or_true, and_self, and_false, false_and, true_and, and_true, not_true_eq_false, not_false_eq_true, ↓reduceIte, if_true, if_false, Nat.reduceAdd, ite_self, Bool.false_eq_true, upd_u, va_4 _ _ _ _ _ (show 166 ≠ 112 by decide), va_up_c _ _ _ (show 112 ≠ 166 by decide)]
  | some y => simp (disch := omega) only [a11, a01, ↓li_m, ↓oc_some, ↓oc_ite, ↓oc_oc, ↓oc_pl, ↓oc_none, ↓oc_oe, ↓pl_eq, ↓oe_i, ↓oe_j, va_up_self, va_up_ne, va_up_up, upd_s, upd_n, updL_s, updL_n, nI_add, nI_1, nI_ltI, nI_leI, nI_eq, nI_clamp, li_n, m1_lt, m1_le, m1_gt, m1_ge, m1_ne, m1_en, m1_ad, nle_F, nle_T, nlt_F, nlt_T, neq_F, neq_T, or_self, or_false, false_or, true_or, or_true, and_self, and_false, false_and, true_and, and_true, not_true_eq_false, not_false_eq_true, ↓reduceIte, if_true, if_false, Nat.reduceAdd, ite_self, Bool.false_eq_true, upd_u, va_4 _ _ _ _ _ (show 166 ≠ 112 by decide), va_up_c _ _ _ (show 112 ≠ 166 by decide)]
theorem p1_C {cd : Nat → Nat} {n P : Nat} {p3 : Int32} (hn : n ≤ 2000) (hP : P ≤ 4) : ∀ (d fu k i o : Nat) (l : Int32) (I : MI) (J : MJ), rowC I 1 2 n cd → n < d + k → k ≤ n → i ≤ k → n < fu + k → I 10 4 = nI o → f_Verifier_findOperations_8 1 2 2000 p3 fu (nI P) l (nI k) (nI i) I J = p1C I J (p1 cd n P d k l o (I 11)) := by
  intro d
  induction d with
  | zero => intro fu k i o l I J _ h1 h2 _ _ _; omega
  | succ d ih =>
    intro fu k i o l I J hr h1 h2 h3 h4 h5
    obtain ⟨f, rfl⟩ : ∃ f, fu = f + 1 := ⟨fu - 1, by omega⟩
    have hr1 := hr.1
    rw [f_Verifier_findOperations_8, p1]
    by_cases q : n ≤ k
    · rw [if_pos q]
      unfold p1C
      simp (disch := omega) only [a11, a01, ↓li_m, ↓oc_some, ↓oc_ite, ↓oc_oc, ↓oc_pl, ↓oc_none, ↓oc_oe, ↓pl_eq, ↓oe_i, ↓oe_j, va_up_self, va_up_ne, va_up_up, upd_s, upd_n, updL_s, updL_n, nI_add, nI_1, nI_ltI, nI_leI, nI_eq, nI_clamp, li_n, m1_lt, m1_le, m1_gt, m1_ge, m1_ne, m1_en, m1_ad, nle_F, nle_T, nlt_F, nlt_T, neq_F, neq_T, or_self, or_false, false_or, true_or, or_true, and_self, and_false, false_and, true_and, and_true, not_true_eq_false, not_false_eq_true, ↓reduceIte, if_true, if_false, Nat.reduceAdd, ite_self, Bool.false_eq_true, hr1, upd_id _ _ _ h5, va_up_id]
    · rw [if_neg q]
      have hb := hr.2 k (by omega)
      have a0 : ∀ {α : Type} {F : Int32 → MI → MJ → Option α}, oc (f_Row_at 1 2 2000 (nI k) I J) F = F (nI (cd k)) I J := fun {α F} => by
        rw [w_at1 (m := 2000) hr hn (by omega) (by omega), oc_some]
      have a1 : ∀ {α : Type} {F : Int32 → MI → MJ → Option α}, oc (f_Sh_lengthOf (nI (cd k)) I J) F = F (nI (opl (cd k))) I J := fun {α F} => by
        rw [q_len _ (by omega), oc_some]
      have hl9 := opl_le (cd k)
      have hend : ∀ {z : Int32}, z = nI k → p1C I J (some k, l, o, I 11) = some (.inl (), va_up I 10 (upd (upd (I 10) 5 (nI 1)) 6 (nI k)), J) := by
        intro z hz
        unfold p1C
        simp (disch := omega) only [a11, a01, ↓li_m, ↓oc_some, ↓oc_ite, ↓oc_oc, ↓oc_pl, ↓oc_none, ↓oc_oe, ↓pl_eq, ↓oe_i, ↓oe_j, va_up_self, va_up_ne, va_up_up, upd_s, upd_n, updL_s, updL_n, nI_add, nI_1, nI_ltI, nI_leI, nI_eq, nI_clamp, li_n, m1_lt, m1_le, m1_gt, m1_ge, m1_ne, m1_en, m1_ad, nle_F, nle_T, nlt_F, nlt_T, neq_F, neq_T, or_self, or_false, false_or, true_or, or_true, and_self, and_false, false_and, true_and, and_true, not_true_eq_false, not_false_eq_true, ↓reduceIte, if_true, if_false, Nat.reduceAdd, ite_self, Bool.false_eq_true, upd_id _ _ _ h5, va_up_c _ _ _ (show 10 ≠ 11 by decide), va_up_id]
      by_cases q1 : cd k ≤ 29
      · have q4 := opl_1 q1
        by_cases q2 : k + opl (cd k) ≤ n
        · have a2 : ∀ {α : Type} {F : Int32 → MI → MJ → Option α}, oc (f_Verifier_namesWhatIs 1 2 2000 (nI k) (nI P) I J) F = F (if opok cd P k = true then 1 else 0) I J := fun {α F} => by
            rw [nw (m := 2000) hr hn (by omega) hP q1 q2, oc_some]
          by_cases q3 : opok cd P k = true
          · simp (disch := omega) only [a11, a01, ↓li_m, ↓oc_some, ↓oc_ite, ↓oc_oc, ↓oc_pl, ↓oc_none, ↓oc_oe, ↓pl_eq, ↓oe_i, ↓oe_j, va_up_self, va_up_ne, va_up_up, upd_s, upd_n, updL_s, updL_n, nI_add, nI_1, nI_ltI, nI_leI, nI_eq, nI_clamp, li_n, m1_lt, m1_le, m1_gt, m1_ge, m1_ne, m1_en, m1_ad, nle_F, nle_T, nlt_F, nlt_T, neq_F, neq_T, or_self, or_false, false_or, true_or, or_true, and_self, and_false, false_and, true_and, and_true, not_true_eq_false, not_false_eq_true, ↓reduceIte, if_true, if_false, Nat.reduceAdd, ite_self, Bool.false_eq_true, ↓a0, ↓a1, ↓a2, hr1, q3, ↓U_Verifier_mark, h5]
            rw [ih f (k + opl (cd k)) (i + 1) (o + 1) (nI (cd k)) _ J ?_ (by omega) q2 (by omega) (by omega) ?_, p1C_eq]
            · simp (disch := omega) only [a11, a01, ↓li_m, ↓oc_some, ↓oc_ite, ↓oc_oc, ↓oc_pl, ↓oc_none, ↓oc_oe, ↓pl_eq, ↓oe_i, ↓oe_j, va_up_self, va_up_ne, va_up_up, upd_s, upd_n, updL_s, updL_n, nI_add, nI_1, nI_ltI, nI_leI, nI_eq, nI_clamp, li_n, m1_lt, m1_le, m1_gt, m1_ge, m1_ne, m1_en, m1_ad, nle_F, nle_T, nlt_F, nlt_T, neq_F, neq_T, or_self, or_false, false_or, true_or, or_true, and_self, and_false, false_and, true_and, and_true, not_true_eq_false, not_false_eq_true, ↓reduceIte, if_true, if_false, Nat.reduceAdd, ite_self, Bool.false_eq_true]
            · refine ⟨?_, fun j hj => ?_⟩
              · simp (disch := omega) only [a11, a01, ↓li_m, ↓oc_some, ↓oc_ite, ↓oc_oc, ↓oc_pl, ↓oc_none, ↓oc_oe, ↓pl_eq, ↓oe_i, ↓oe_j, va_up_self, va_up_ne, va_up_up, upd_s, upd_n, updL_s, updL_n, nI_add, nI_1, nI_ltI, nI_leI, nI_eq, nI_clamp, li_n, m1_lt, m1_le, m1_gt, m1_ge, m1_ne, m1_en, m1_ad, nle_F, nle_T, nlt_F, nlt_T, neq_F, neq_T, or_self, or_false, false_or, true_or, or_true, and_self, and_false, false_and, true_and, and_true, not_true_eq_false, not_false_eq_true, ↓reduceIte, if_true, if_false, Nat.reduceAdd, ite_self, Bool.false_eq_true, hr1]
              · simp (disch := omega) only [a11, a01, ↓li_m, ↓oc_some, ↓oc_ite, ↓oc_oc, ↓oc_pl, ↓oc_none, ↓oc_oe, ↓pl_eq, ↓oe_i, ↓oe_j, va_up_self, va_up_ne, va_up_up, upd_s, upd_n, updL_s, updL_n, nI_add, nI_1, nI_ltI, nI_leI, nI_eq, nI_clamp, li_n, m1_lt, m1_le, m1_gt, m1_ge, m1_ne, m1_en, m1_ad, nle_F, nle_T, nlt_F, nlt_T, neq_F, neq_T, or_self, or_false, false_or, true_or, or_true, and_self, and_false, false_and, true_and, and_true, not_true_eq_false, not_false_eq_true, ↓reduceIte, if_true, if_false, Nat.reduceAdd, ite_self, Bool.false_eq_true]
                exact hr.2 j hj
            · simp (disch := omega) only [a11, a01, ↓li_m, ↓oc_some, ↓oc_ite, ↓oc_oc, ↓oc_pl, ↓oc_none, ↓oc_oe, ↓pl_eq, ↓oe_i, ↓oe_j, va_up_self, va_up_ne, va_up_up, upd_s, upd_n, updL_s, updL_n, nI_add, nI_1, nI_ltI, nI_leI, nI_eq, nI_clamp, li_n, m1_lt, m1_le, m1_gt, m1_ge, m1_ne, m1_en, m1_ad, nle_F, nle_T, nlt_F, nlt_T, neq_F, neq_T, or_self, or_false, false_or, true_or, or_true, and_self, and_false, false_and, true_and, and_true, not_true_eq_false, not_false_eq_true, ↓reduceIte, if_true, if_false, Nat.reduceAdd, ite_self, Bool.false_eq_true]
          · simp (disch := omega) only [a11, a01, ↓li_m, ↓oc_some, ↓oc_ite, ↓oc_oc, ↓oc_pl, ↓oc_none, ↓oc_oe, ↓pl_eq, ↓oe_i, ↓oe_j, va_up_self, va_up_ne, va_up_up, upd_s, upd_n, updL_s, updL_n, nI_add, nI_1, nI_ltI, nI_leI, nI_eq, nI_clamp, li_n, m1_lt, m1_le, m1_gt, m1_ge, m1_ne, m1_en, m1_ad, nle_F, nle_T, nlt_F, nlt_T, neq_F, neq_T, or_self, or_false, false_or, true_or, or_true, and_self, and_false, false_and, true_and, and_true, not_true_eq_false, not_false_eq_true, ↓reduceIte, if_true, if_false, Nat.reduceAdd, ite_self, Bool.false_eq_true, ↓a0, ↓a1, ↓a2, hr1, q3, ↓U_Verifier_refuse, hend rfl]
        · simp (disch := omega) only [a11, a01, ↓li_m, ↓oc_some, ↓oc_ite, ↓oc_oc, ↓oc_pl, ↓oc_none, ↓oc_oe, ↓pl_eq, ↓oe_i, ↓oe_j, va_up_self, va_up_ne, va_up_up, upd_s, upd_n, updL_s, updL_n, nI_add, nI_1, nI_ltI, nI_leI, nI_eq, nI_clamp, li_n, m1_lt, m1_le, m1_gt, m1_ge, m1_ne, m1_en, m1_ad, nle_F, nle_T, nlt_F, nlt_T, neq_F, neq_T, or_self, or_false, false_or, true_or, or_true, and_self, and_false, false_and, true_and, and_true, not_true_eq_false, not_false_eq_true, ↓reduceIte, if_true, if_false, Nat.reduceAdd, ite_self, Bool.false_eq_true, ↓a0, ↓a1, hr1, q2, ↓U_Verifier_refuse, hend rfl]
      · simp (disch := omega) only [a11, a01, ↓li_m, ↓oc_some, ↓oc_ite, ↓oc_oc, ↓oc_pl, ↓oc_none, ↓oc_oe, ↓pl_eq, ↓oe_i, ↓oe_j, va_up_self, va_up_ne, va_up_up, upd_s, upd_n, updL_s, updL_n, nI_add, nI_1, nI_ltI, nI_leI, nI_eq, nI_clamp, li_n, m1_lt, m1_le, m1_gt, m1_ge, m1_ne, m1_en, m1_ad, nle_F, nle_T, nlt_F, nlt_T, neq_F, neq_T, or_self, or_false, false_or, true_or, or_true, and_self, and_false, false_and, true_and, and_true, not_true_eq_false, not_false_eq_true, ↓reduceIte, if_true, if_false, Nat.reduceAdd, ite_self, Bool.false_eq_true, ↓a0, ↓a1, hr1, q1, ↓U_Verifier_refuse, hend rfl, opl_big (show 30 ≤ cd k by omega)]
theorem p1_M {cd : Nat → Nat} {n P : Nat} (hP : P ≤ 4) : ∀ (d fu k o : Nat) (l : Int32) (I : MI) (J : MJ), rowM I n cd → I 112 16 = nI P → n < d + k → k ≤ n → n < fu + k → I 112 82 = nI o → f_Model_isVerified_31 fu l (nI k) I J = p1M I J (p1 cd n P d k l o (I 166)) := by
  intro d
  induction d with
  | zero => intro fu k o l I J _ _ h1 h2 _ _; omega
  | succ d ih =>
    intro fu k o l I J hr hPP h1 h2 h4 h5
    obtain ⟨f, rfl⟩ : ∃ f, fu = f + 1 := ⟨fu - 1, by omega⟩
    have hr1 := hr.1
    have hn := hr.2.1
    rw [f_Model_isVerified_31, p1]
    by_cases q : n ≤ k
    · rw [if_pos q]
      unfold p1M
      simp (disch := omega) only [a11, a01, ↓li_m, ↓oc_some, ↓oc_ite, ↓oc_oc, ↓oc_pl, ↓oc_none, ↓oc_oe, ↓pl_eq, ↓oe_i, ↓oe_j, va_up_self, va_up_ne, va_up_up, upd_s, upd_n, updL_s, updL_n, nI_add, nI_1, nI_ltI, nI_leI, nI_eq, nI_clamp, li_n, m1_lt, m1_le, m1_gt, m1_ge, m1_ne, m1_en, m1_ad, nle_F, nle_T, nlt_F, nlt_T, neq_F, neq_T, or_self, or_false, false_or, true_or, or_true, and_self, and_false, false_and, true_and, and_true, not_true_eq_false, not_false_eq_true, ↓reduceIte, if_true, if_false, Nat.reduceAdd, ite_self, Bool.false_eq_true, hr1, upd_id _ _ _ h5, va_up_id]
    · rw [if_neg q]
      have hb := hr.2.2 k (by omega)
      have a0 : ∀ {α : Type} {F : Int32 → MI → MJ → Option α}, oc (f_Model_isGood (nI k) I J) F = F (if cd k ≤ 29 ∧ k + opl (cd k) ≤ n ∧ opok cd P k = true then 1 else 0) I J := fun {α F} => by
        rw [gm hr hP hPP (by omega), oc_some]
      by_cases q1 : cd k ≤ 29 ∧ k + opl (cd k) ≤ n ∧ opok cd P k = true
      · have q4 := opl_1 q1.1
        have a1 : ∀ {α : Type} {K : MI} {F : Int32 → MI → MJ → Option α}, oc (f_Model_longOf (nI (cd k)) K J) F = F (nI (opl (cd k))) K J := fun {α K F} => by
          rw [m_len q1.1, oc_some]
        have q2 := q1.2.1
        simp (disch := omega) only [a11, a01, ↓li_m, ↓oc_some, ↓oc_ite, ↓oc_oc, ↓oc_pl, ↓oc_none, ↓oc_oe, ↓pl_eq, ↓oe_i, ↓oe_j, va_up_self, va_up_ne, va_up_up, upd_s, upd_n, updL_s, updL_n, nI_add, nI_1, nI_ltI, nI_leI, nI_eq, nI_clamp, li_n, m1_lt, m1_le, m1_gt, m1_ge, m1_ne, m1_en, m1_ad, nle_F, nle_T, nlt_F, nlt_T, neq_F, neq_T, or_self, or_false, false_or, true_or, or_true, and_self, and_false, false_and, true_and, and_true, not_true_eq_false, not_false_eq_true, ↓reduceIte, if_true, if_false, Nat.reduceAdd, ite_self, Bool.false_eq_true, ↓a0, q1, hr1, h5, hb.2]
        rw [a1, nI_add, ih f (k + opl (cd k)) (o + 1) (nI (cd k)) _ J ?_ ?_ (by omega) q2 (by omega) ?_, p1M_eq]
        · simp (disch := omega) only [a11, a01, ↓li_m, ↓oc_some, ↓oc_ite, ↓oc_oc, ↓oc_pl, ↓oc_none, ↓oc_oe, ↓pl_eq, ↓oe_i, ↓oe_j, va_up_self, va_up_ne, va_up_up, upd_s, upd_n, updL_s, updL_n, nI_add, nI_1, nI_ltI, nI_leI, nI_eq, nI_clamp, li_n, m1_lt, m1_le, m1_gt, m1_ge, m1_ne, m1_en, m1_ad, nle_F, nle_T, nlt_F, nlt_T, neq_F, neq_T, or_self, or_false, false_or, true_or, or_true, and_self, and_false, false_and, true_and, and_true, not_true_eq_false, not_false_eq_true, ↓reduceIte, if_true, if_false, Nat.reduceAdd, ite_self, Bool.false_eq_true]
        · refine ⟨?_, hn, fun j hj => ?_⟩
          · simp (disch := omega) only [a11, a01, ↓li_m, ↓oc_some, ↓oc_ite, ↓oc_oc, ↓oc_pl, ↓oc_none, ↓oc_oe, ↓pl_eq, ↓oe_i, ↓oe_j, va_up_self, va_up_ne, va_up_up, upd_s, upd_n, updL_s, updL_n, nI_add, nI_1, nI_ltI, nI_leI, nI_eq, nI_clamp, li_n, m1_lt, m1_le, m1_gt, m1_ge, m1_ne, m1_en, m1_ad, nle_F, nle_T, nlt_F, nlt_T, neq_F, neq_T, or_self, or_false, false_or, true_or, or_true, and_self, and_false, false_and, true_and, and_true, not_true_eq_false, not_false_eq_true, ↓reduceIte, if_true, if_false, Nat.reduceAdd, ite_self, Bool.false_eq_true, hr1]
          · simp (disch := omega) only [a11, a01, ↓li_m, ↓oc_some, ↓oc_ite, ↓oc_oc, ↓oc_pl, ↓oc_none, ↓oc_oe, ↓pl_eq, ↓oe_i, ↓oe_j, va_up_self, va_up_ne, va_up_up, upd_s, upd_n, updL_s, updL_n, nI_add, nI_1, nI_ltI, nI_leI, nI_eq, nI_clamp, li_n, m1_lt, m1_le, m1_gt, m1_ge, m1_ne, m1_en, m1_ad, nle_F, nle_T, nlt_F, nlt_T, neq_F, neq_T, or_self, or_false, false_or, true_or, or_true, and_self, and_false, false_and, true_and, and_true, not_true_eq_false, not_false_eq_true, ↓reduceIte, if_true, if_false, Nat.reduceAdd, ite_self, Bool.false_eq_true]
            exact hr.2.2 j hj
        · simp (disch := omega) only [a11, a01, ↓li_m, ↓oc_some, ↓oc_ite, ↓oc_oc, ↓oc_pl, ↓oc_none, ↓oc_oe, ↓pl_eq, ↓oe_i, ↓oe_j, va_up_self, va_up_ne, va_up_up, upd_s, upd_n, updL_s, updL_n, nI_add, nI_1, nI_ltI, nI_leI, nI_eq, nI_clamp, li_n, m1_lt, m1_le, m1_gt, m1_ge, m1_ne, m1_en, m1_ad, nle_F, nle_T, nlt_F, nlt_T, neq_F, neq_T, or_self, or_false, false_or, true_or, or_true, and_self, and_false, false_and, true_and, and_true, not_true_eq_false, not_false_eq_true, ↓reduceIte, if_true, if_false, Nat.reduceAdd, ite_self, Bool.false_eq_true, hPP]
        · simp (disch := omega) only [a11, a01, ↓li_m, ↓oc_some, ↓oc_ite, ↓oc_oc, ↓oc_pl, ↓oc_none, ↓oc_oe, ↓pl_eq, ↓oe_i, ↓oe_j, va_up_self, va_up_ne, va_up_up, upd_s, upd_n, updL_s, updL_n, nI_add, nI_1, nI_ltI, nI_leI, nI_eq, nI_clamp, li_n, m1_lt, m1_le, m1_gt, m1_ge, m1_ne, m1_en, m1_ad, nle_F, nle_T, nlt_F, nlt_T, neq_F, neq_T, or_self, or_false, false_or, true_or, or_true, and_self, and_false, false_and, true_and, and_true, not_true_eq_false, not_false_eq_true, ↓reduceIte, if_true, if_false, Nat.reduceAdd, ite_self, Bool.false_eq_true]
      · rw [a0, if_neg q1, if_neg q1]
        unfold p1M
        simp (disch := omega) only [a11, a01, ↓li_m, ↓oc_some, ↓oc_ite, ↓oc_oc, ↓oc_pl, ↓oc_none, ↓oc_oe, ↓pl_eq, ↓oe_i, ↓oe_j, va_up_self, va_up_ne, va_up_up, upd_s, upd_n, updL_s, updL_n, nI_add, nI_1, nI_ltI, nI_leI, nI_eq, nI_clamp, li_n, m1_lt, m1_le, m1_gt, m1_ge, m1_ne, m1_en, m1_ad, nle_F, nle_T, nlt_F, nlt_T, neq_F, neq_T, or_self, or_false, false_or, true_or, or_true, and_self, and_false, false_and, true_and, and_true, not_true_eq_false, not_false_eq_true, ↓reduceIte, if_true, if_false, Nat.reduceAdd, ite_self, Bool.false_eq_true, hr1, ↓U_Model_refused, upd_id _ _ _ h5, va_up_c _ _ _ (show 112 ≠ 166 by decide), va_up_id]
