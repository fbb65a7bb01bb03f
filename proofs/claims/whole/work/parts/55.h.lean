/-! load: the third pass -/
def c3 (cd : Nat → Nat) (n : Nat) (g t : Nat → Int32) : Nat → Nat → (Nat → Bool) → Option Nat
  | 0, _, _ => none
  | d + 1, h, sf => if g (n - (d + 1)) = nI 1 then (if ¬ t (n - (d + 1)) = nI 0 ∧ 0 < h then some (n - (d + 1)) else match fl (cd (n - (d + 1))) (cd (n - (d + 1) + 1)) (cd (n - (d + 1) + 2)) (cd (n - (d + 1) + 3)) h sf with
    | none => some (n - (d + 1))
    | some x => c3 cd n g t d x.1 x.2) else c3 cd n g t d h sf
def c3r (o : Option Nat) : Unit ⊕ Int32 := match o with
  | none => .inl ()
  | some k => .inr (nI k)
theorem c3_C {cd : Nat → Nat} {n : Nat} (hn : n ≤ 2000) : ∀ (d fu h : Nat) (sf : Nat → Bool) (I : MI) (J : MJ), rowC I 1 2 n cd → St cd n (I 11) → rpC I h sf → d ≤ n → d < fu → ∃ I1, f_Verifier_followPile_2 1 2 2000 fu (nI (n - d)) I J = some (c3r (c3 cd n (I 11) (I 12) d h sf), I1, J) ∧ (∀ a, a ≠ 10 → a ≠ 13 → I1 a = I a) ∧ (∀ j, j ≠ 3 → I1 10 j = I 10 j) := by
  intro d
  induction d with
  | zero =>
    intro fu h sf I J hr hS H h1 h2
    obtain ⟨f, rfl⟩ : ∃ f, fu = f + 1 := ⟨fu - 1, by omega⟩
    have hr1 := hr.1
    refine ⟨I, ?_, fun _ _ _ => rfl, fun _ _ => rfl⟩
    rw [f_Verifier_followPile_2, c3, c3r]
    simp (disch := omega) only [a11, a01, ↓li_m, ↓oc_some, ↓oc_ite, ↓oc_oc, ↓oc_pl, ↓oc_none, ↓oc_oe, ↓pl_eq, ↓oe_i, ↓oe_j, va_up_self, va_up_ne, va_up_up, upd_s, upd_n, updL_s, updL_n, nI_add, nI_1, nI_ltI, nI_leI, nI_eq, nI_clamp, li_n, m1_lt, m1_le, m1_gt, m1_ge, m1_ne, m1_en, m1_ad, nle_F, nle_T, nlt_F, nlt_T, neq_F, neq_T, or_self, or_false, false_or, true_or, or_true, and_self, and_false, false_and, true_and, and_true, not_true_eq_false, not_false_eq_true, ↓reduceIte, if_true, if_false, Nat.reduceAdd, ite_self, Bool.false_eq_true, hr1]
  | succ d ih =>
    intro fu h sf I J hr hS H h1 h2
    obtain ⟨f, rfl⟩ : ∃ f, fu = f + 1 := ⟨fu - 1, by omega⟩
    have hr1 := hr.1
    have H1 := H.1
    have H2 := H.2.1
    rw [f_Verifier_followPile_2, c3]
    have he : n - (d + 1) + 1 = n - d := by omega
    have hlt : n - (d + 1) < n := by omega
    generalize n - (d + 1) = k at he hlt ⊢
    have a0 : ∀ {α : Type} {F : Int32 → MI → MJ → Option α}, oc (f_Verifier_isMarked 11 2000 (nI k) I J) F = F (if k < 2000 ∧ ¬ I 11 k = nI 0 then nI 1 else nI 0) I J := fun {α F} => by
      rw [im (by omega) (by omega), oc_some]
    have a1 : ∀ {α : Type} {F : Int32 → MI → MJ → Option α}, oc (f_Verifier_isMarked 12 2000 (nI k) I J) F = F (if k < 2000 ∧ ¬ I 12 k = nI 0 then nI 1 else nI 0) I J := fun {α F} => by
      rw [im (by omega) (by omega), oc_some]
    rcases hS.1 k (by omega) with q | q
    · obtain ⟨I1, e1, e2, e3⟩ := ih f h sf I J hr hS H (by omega) (by omega)
      rw [← he] at e1
      refine ⟨I1, ?_, e2, e3⟩
      rw [q, if_neg n01, ← e1]
      simp (disch := omega) only [a11, a01, ↓li_m, ↓oc_some, ↓oc_ite, ↓oc_oc, ↓oc_pl, ↓oc_none, ↓oc_oe, ↓pl_eq, ↓oe_i, ↓oe_j, va_up_self, va_up_ne, va_up_up, upd_s, upd_n, updL_s, updL_n, nI_add, nI_1, nI_ltI, nI_leI, nI_eq, nI_clamp, li_n, m1_lt, m1_le, m1_gt, m1_ge, m1_ne, m1_en, m1_ad, nle_F, nle_T, nlt_F, nlt_T, neq_F, neq_T, or_self, or_false, false_or, true_or, or_true, and_self, and_false, false_and, true_and, and_true, not_true_eq_false, not_false_eq_true, ↓reduceIte, if_true, if_false, Nat.reduceAdd, ite_self, Bool.false_eq_true, ↓a0, hr1, q]
    · obtain ⟨c1, c3', c4, c5⟩ := hS.2.2 k hlt q
      rw [q, if_pos rfl]
      have hf := fC (J := J) hr hn H c1 c3'
      obtain ⟨v, I1, f1, f2, f3, f4⟩ := hf
      have a2 : ∀ {α : Type} {F : Int32 → MI → MJ → Option α}, oc (f_Verifier_fits 1 2 2000 (nI k) I J) F = F v I1 J := fun {α F} => by
        rw [f1, oc_some]
      by_cases qt : I 12 k = nI 0
      · rw [if_neg (show ¬ (¬ I 12 k = nI 0 ∧ 0 < h) from fun c => c.1 qt)]
        cases hfl : fl (cd k) (cd (k + 1)) (cd (k + 2)) (cd (k + 3)) h sf with
        | none =>
          rw [hfl] at f4
          refine ⟨I1, ?_, f2, f3⟩
          simp (disch := omega) only [a11, a01, ↓li_m, ↓oc_some, ↓oc_ite, ↓oc_oc, ↓oc_pl, ↓oc_none, ↓oc_oe, ↓pl_eq, ↓oe_i, ↓oe_j, va_up_self, va_up_ne, va_up_up, upd_s, upd_n, updL_s, updL_n, nI_add, nI_1, nI_ltI, nI_leI, nI_eq, nI_clamp, li_n, m1_lt, m1_le, m1_gt, m1_ge, m1_ne, m1_en, m1_ad, nle_F, nle_T, nlt_F, nlt_T, neq_F, neq_T, or_self, or_false, false_or, true_or, or_true, and_self, and_false, false_and, true_and, and_true, not_true_eq_false, not_false_eq_true, ↓reduceIte, if_true, if_false, Nat.reduceAdd, ite_self, Bool.false_eq_true, ↓a0, ↓a1, ↓a2, hr1, q, qt, n10e, f4, c3r]
        | some x =>
          rw [hfl] at f4
          have g11 : I1 11 = I 11 := f2 11 (by decide) (by decide)
          have g12 : I1 12 = I 12 := f2 12 (by decide) (by decide)
          obtain ⟨I2, e1, e2, e3⟩ := ih f x.1 x.2 I1 J ⟨by rw [f2 1 (by decide) (by decide)]; exact hr1, by rw [f2 2 (by decide) (by decide)]; exact hr.2⟩ (by rw [g11]; exact hS) f4.2 (by omega) (by omega)
          rw [← he, g11, g12] at e1
          refine ⟨I2, ?_, fun a h1 h2 => (e2 a h1 h2).trans (f2 a h1 h2), fun j hj => (e3 j hj).trans (f3 j hj)⟩
          rw [← e1]
          simp (disch := omega) only [a11, a01, ↓li_m, ↓oc_some, ↓oc_ite, ↓oc_oc, ↓oc_pl, ↓oc_none, ↓oc_oe, ↓pl_eq, ↓oe_i, ↓oe_j, va_up_self, va_up_ne, va_up_up, upd_s, upd_n, updL_s, updL_n, nI_add, nI_1, nI_ltI, nI_leI, nI_eq, nI_clamp, li_n, m1_lt, m1_le, m1_gt, m1_ge, m1_ne, m1_en, m1_ad, nle_F, nle_T, nlt_F, nlt_T, neq_F, neq_T, or_self, or_false, false_or, true_or, or_true, and_self, and_false, false_and, true_and, and_true, not_true_eq_false, not_false_eq_true, ↓reduceIte, if_true, if_false, Nat.reduceAdd, ite_self, Bool.false_eq_true, ↓a0, ↓a1, ↓a2, hr1, q, qt, n10e, f4.1]
      · by_cases h0 : 0 < h
        · rw [if_pos (show ¬ I 12 k = nI 0 ∧ 0 < h from ⟨qt, h0⟩)]
          refine ⟨I, ?_, fun _ _ _ => rfl, fun _ _ => rfl⟩
          simp (disch := omega) only [a11, a01, ↓li_m, ↓oc_some, ↓oc_ite, ↓oc_oc, ↓oc_pl, ↓oc_none, ↓oc_oe, ↓pl_eq, ↓oe_i, ↓oe_j, va_up_self, va_up_ne, va_up_up, upd_s, upd_n, updL_s, updL_n, nI_add, nI_1, nI_ltI, nI_leI, nI_eq, nI_clamp, li_n, m1_lt, m1_le, m1_gt, m1_ge, m1_ne, m1_en, m1_ad, nle_F, nle_T, nlt_F, nlt_T, neq_F, neq_T, or_self, or_false, false_or, true_or, or_true, and_self, and_false, false_and, true_and, and_true, not_true_eq_false, not_false_eq_true, ↓reduceIte, if_true, if_false, Nat.reduceAdd, ite_self, Bool.false_eq_true, ↓a0, ↓a1, ↓a2, hr1, q, qt, n10e, H1, c3r]
        · rw [if_neg (show ¬ (¬ I 12 k = nI 0 ∧ 0 < h) from fun c => h0 c.2)]
          cases hfl : fl (cd k) (cd (k + 1)) (cd (k + 2)) (cd (k + 3)) h sf with
          | none =>
            rw [hfl] at f4
            refine ⟨I1, ?_, f2, f3⟩
            simp (disch := omega) only [a11, a01, ↓li_m, ↓oc_some, ↓oc_ite, ↓oc_oc, ↓oc_pl, ↓oc_none, ↓oc_oe, ↓pl_eq, ↓oe_i, ↓oe_j, va_up_self, va_up_ne, va_up_up, upd_s, upd_n, updL_s, updL_n, nI_add, nI_1, nI_ltI, nI_leI, nI_eq, nI_clamp, li_n, m1_lt, m1_le, m1_gt, m1_ge, m1_ne, m1_en, m1_ad, nle_F, nle_T, nlt_F, nlt_T, neq_F, neq_T, or_self, or_false, false_or, true_or, or_true, and_self, and_false, false_and, true_and, and_true, not_true_eq_false, not_false_eq_true, ↓reduceIte, if_true, if_false, Nat.reduceAdd, ite_self, Bool.false_eq_true, ↓a0, ↓a1, ↓a2, hr1, q, qt, n10e, f4, c3r, H1]
          | some x =>
            rw [hfl] at f4
            have g11 : I1 11 = I 11 := f2 11 (by decide) (by decide)
            have g12 : I1 12 = I 12 := f2 12 (by decide) (by decide)
            obtain ⟨I2, e1, e2, e3⟩ := ih f x.1 x.2 I1 J ⟨by rw [f2 1 (by decide) (by decide)]; exact hr1, by rw [f2 2 (by decide) (by decide)]; exact hr.2⟩ (by rw [g11]; exact hS) f4.2 (by omega) (by omega)
            rw [← he, g11, g12] at e1
            refine ⟨I2, ?_, fun a h1 h2 => (e2 a h1 h2).trans (f2 a h1 h2), fun j hj => (e3 j hj).trans (f3 j hj)⟩
            rw [← e1]
            simp (disch := omega) only [a11, a01, ↓li_m, ↓oc_some, ↓oc_ite, ↓oc_oc, ↓oc_pl, ↓oc_none, ↓oc_oe, ↓pl_eq, ↓oe_i, ↓oe_j, va_up_self, va_up_ne, va_up_up, upd_s, upd_n, updL_s, updL_n, nI_add, nI_1, nI_ltI, nI_leI, nI_eq, nI_clamp, li_n, m1_lt, m1_le, m1_gt, m1_ge, m1_ne, m1_en, m1_ad, nle_F, nle_T, nlt_F, nlt_T, neq_F, neq_T, or_self, or_false, false_or, true_or, or_true, and_self, and_false, false_and, true_and, and_true, not_true_eq_false, not_false_eq_true, ↓reduceIte, if_true, if_false, Nat.reduceAdd, ite_self, Bool.false_eq_true, ↓a0, ↓a1, ↓a2, hr1, q, qt, n10e, f4.1, H1]
theorem c3_skip {cd : Nat → Nat} {n : Nat} {g t : Nat → Int32} (d h : Nat) (sf : Nat → Bool) : ∀ e, d + e ≤ n → (∀ i, n - (d + e) ≤ i → i < n - d → g i = nI 0) → c3 cd n g t (d + e) h sf = c3 cd n g t d h sf := by
  intro e
  induction e with
  | zero => intro _ _; rfl
  | succ e ih =>
    intro h1 h2
    rw [show d + (e + 1) = d + e + 1 by omega, c3, if_neg (fun c => n01 ((h2 _ (by omega) (by omega)).symm.trans c)), ih (by omega) (fun i h3 h4 => h2 i (by omega) h4)]
/-- the third pass's end in the reference -/
def frN (I I1 : MI) (J J1 : MJ) : Prop := (∀ a, a ≠ 112 → I1 a = I a) ∧ (∀ j, j ≠ 84 → j ≠ 3 → j ≠ 4 → I1 112 j = I 112 j) ∧ (∀ a, a ≠ 112 → J1 a = J a) ∧ (∀ j, j ≠ 83 → J1 112 j = J 112 j)
theorem frM.toN {I I1 : MI} {J J1 : MJ} (h : frM I I1 J J1) : frN I I1 J J1 := ⟨h.1, fun j h1 _ _ => h.2.1 j h1, h.2.2.1, h.2.2.2⟩
theorem frN.tr {I I1 I2 : MI} {J J1 J2 : MJ} (h : frN I I1 J J1) (k : frN I1 I2 J1 J2) : frN I I2 J J2 := ⟨fun a ha => (k.1 a ha).trans (h.1 a ha), fun a h1 h2 h3 => (k.2.1 a h1 h2 h3).trans (h.2.1 a h1 h2 h3), fun a ha => (k.2.2.1 a ha).trans (h.2.2.1 a ha), fun a ha => (k.2.2.2 a ha).trans (h.2.2.2 a ha)⟩
theorem frN_rf (I : MI) (J : MJ) (x y : Int32) : frN I (va_up I 112 (upd (upd (I 112) 3 x) 4 y)) J J := by
  refine ⟨fun a ha => va_up_ne _ _ ha, fun j h1 h2 h3 => ?_, fun a ha => rfl, fun j hj => rfl⟩
  simp (disch := omega) only [a11, a01, ↓li_m, ↓oc_some, ↓oc_ite, ↓oc_oc, ↓oc_pl, ↓oc_none, ↓oc_oe, ↓pl_eq, ↓oe_i, ↓oe_j, va_up_self, va_up_ne, va_up_up, upd_s, upd_n, updL_s, updL_n, nI_add, nI_1, nI_ltI, nI_leI, nI_eq, nI_clamp, li_n, m1_lt, m1_le, m1_gt, m1_ge, m1_ne, m1_en, m1_ad, nle_F, nle_T, nlt_F, nlt_T, neq_F, neq_T, or_self, or_false, false_or, true_or, or_true, and_self, and_false, false_and, true_and, and_true, not_true_eq_false, not_false_eq_true, ↓reduceIte, if_true, if_false, Nat.reduceAdd, ite_self, Bool.false_eq_true]
def c3M (I : MI) (J : MJ) (o : Option Nat) (r : M2 Int32) : Prop := ∃ v I1 J1, r = some (v, I1, J1) ∧ frN I I1 J J1 ∧ match o with
  | none => v = nI 1 ∧ I1 112 3 = I 112 3 ∧ I1 112 4 = I 112 4
  | some k => v = nI 0 ∧ I1 112 3 = nI 3 ∧ I1 112 4 = nI k
theorem c3M_tr {I I1 : MI} {J J1 : MJ} {o : Option Nat} {r : M2 Int32} (hf : frM I I1 J J1) (h : c3M I1 J1 o r) : c3M I J o r := by
  obtain ⟨v, I2, J2, e1, e2, e3⟩ := h
  refine ⟨v, I2, J2, e1, hf.toN.tr e2, ?_⟩
  cases o with
  | none => exact ⟨e3.1, e3.2.1.trans (hf.2.1 3 (by decide)), e3.2.2.trans (hf.2.1 4 (by decide))⟩
  | some k => exact e3
def kM (q : Int32 ⊕ Int32) (I : MI) (J : MJ) : M2 Int32 := oe q (fun y35 => some (y35, I, J)) (fun u35 => oc (f_Model_refused 3 u35 I J) (fun v36 I36 J36 => if v36 = 0 ∨ v36 = 1 then some (v36, I36, J36) else none))
theorem kM_r {I : MI} {J : MJ} (k : Nat) : c3M I J (some k) (kM (.inr (nI k)) I J) := by
  unfold kM
  refine ⟨nI 0, va_up I 112 (upd (upd (I 112) 3 (nI 3)) 4 (nI k)), J, ?_, frN_rf _ _ _ _, rfl, ?_, ?_⟩
  · simp (disch := omega) only [a11, a01, ↓li_m, ↓oc_some, ↓oc_ite, ↓oc_oc, ↓oc_pl, ↓oc_none, ↓oc_oe, ↓pl_eq, ↓oe_i, ↓oe_j, va_up_self, va_up_ne, va_up_up, upd_s, upd_n, updL_s, updL_n, nI_add, nI_1, nI_ltI, nI_leI, nI_eq, nI_clamp, li_n, m1_lt, m1_le, m1_gt, m1_ge, m1_ne, m1_en, m1_ad, nle_F, nle_T, nlt_F, nlt_T, neq_F, neq_T, or_self, or_false, false_or, true_or, or_true, and_self, and_false, false_and, true_and, and_true, not_true_eq_false, not_false_eq_true, ↓reduceIte, if_true, if_false, Nat.reduceAdd, ite_self, Bool.false_eq_true, ↓U_Model_refused]
  · simp (disch := omega) only [a11, a01, ↓li_m, ↓oc_some, ↓oc_ite, ↓oc_oc, ↓oc_pl, ↓oc_none, ↓oc_oe, ↓pl_eq, ↓oe_i, ↓oe_j, va_up_self, va_up_ne, va_up_up, upd_s, upd_n, updL_s, updL_n, nI_add, nI_1, nI_ltI, nI_leI, nI_eq, nI_clamp, li_n, m1_lt, m1_le, m1_gt, m1_ge, m1_ne, m1_en, m1_ad, nle_F, nle_T, nlt_F, nlt_T, neq_F, neq_T, or_self, or_false, false_or, true_or, or_true, and_self, and_false, false_and, true_and, and_true, not_true_eq_false, not_false_eq_true, ↓reduceIte, if_true, if_false, Nat.reduceAdd, ite_self, Bool.false_eq_true]
  · simp (disch := omega) only [a11, a01, ↓li_m, ↓oc_some, ↓oc_ite, ↓oc_oc, ↓oc_pl, ↓oc_none, ↓oc_oe, ↓pl_eq, ↓oe_i, ↓oe_j, va_up_self, va_up_ne, va_up_up, upd_s, upd_n, updL_s, updL_n, nI_add, nI_1, nI_ltI, nI_leI, nI_eq, nI_clamp, li_n, m1_lt, m1_le, m1_gt, m1_ge, m1_ne, m1_en, m1_ad, nle_F, nle_T, nlt_F, nlt_T, neq_F, neq_T, or_self, or_false, false_or, true_or, or_true, and_self, and_false, false_and, true_and, and_true, not_true_eq_false, not_false_eq_true, ↓reduceIte, if_true, if_false, Nat.reduceAdd, ite_self, Bool.false_eq_true]
theorem kM_l {I : MI} {J : MJ} (k : Nat) : ∃ v I1 J1, f_Model_refused 3 (nI k) I J = some (v, I1, J1) ∧ v = nI 0 ∧ c3M I J (some k) (kM (.inl v) I1 J1) := by
  refine ⟨nI 0, va_up I 112 (upd (upd (I 112) 3 (nI 3)) 4 (nI k)), J, ?_, rfl, ?_⟩
  · unfold f_Model_refused
    simp (disch := omega) only [a11, a01, ↓li_m, ↓oc_some, ↓oc_ite, ↓oc_oc, ↓oc_pl, ↓oc_none, ↓oc_oe, ↓pl_eq, ↓oe_i, ↓oe_j, va_up_self, va_up_ne, va_up_up, upd_s, upd_n, updL_s, updL_n, nI_add, nI_1, nI_ltI, nI_leI, nI_eq, nI_clamp, li_n, m1_lt, m1_le, m1_gt, m1_ge, m1_ne, m1_en, m1_ad, nle_F, nle_T, nlt_F, nlt_T, neq_F, neq_T, or_self, or_false, false_or, true_or, or_true, and_self, and_false, false_and, true_and, and_true, not_true_eq_false, not_false_eq_true, ↓reduceIte, if_true, if_false, Nat.reduceAdd, ite_self, Bool.false_eq_true]
  · unfold kM
    refine ⟨nI 0, va_up I 112 (upd (upd (I 112) 3 (nI 3)) 4 (nI k)), J, rfl, frN_rf _ _ _ _, rfl, ?_, ?_⟩
    · simp (disch := omega) only [a11, a01, ↓li_m, ↓oc_some, ↓oc_ite, ↓oc_oc, ↓oc_pl, ↓oc_none, ↓oc_oe, ↓pl_eq, ↓oe_i, ↓oe_j, va_up_self, va_up_ne, va_up_up, upd_s, upd_n, updL_s, updL_n, nI_add, nI_1, nI_ltI, nI_leI, nI_eq, nI_clamp, li_n, m1_lt, m1_le, m1_gt, m1_ge, m1_ne, m1_en, m1_ad, nle_F, nle_T, nlt_F, nlt_T, neq_F, neq_T, or_self, or_false, false_or, true_or, or_true, and_self, and_false, false_and, true_and, and_true, not_true_eq_false, not_false_eq_true, ↓reduceIte, if_true, if_false, Nat.reduceAdd, ite_self, Bool.false_eq_true]
    · simp (disch := omega) only [a11, a01, ↓li_m, ↓oc_some, ↓oc_ite, ↓oc_oc, ↓oc_pl, ↓oc_none, ↓oc_oe, ↓pl_eq, ↓oe_i, ↓oe_j, va_up_self, va_up_ne, va_up_up, upd_s, upd_n, updL_s, updL_n, nI_add, nI_1, nI_ltI, nI_leI, nI_eq, nI_clamp, li_n, m1_lt, m1_le, m1_gt, m1_ge, m1_ne, m1_en, m1_ad, nle_F, nle_T, nlt_F, nlt_T, neq_F, neq_T, or_self, or_false, false_or, true_or, or_true, and_self, and_false, false_and, true_and, and_true, not_true_eq_false, not_false_eq_true, ↓reduceIte, if_true, if_false, Nat.reduceAdd, ite_self, Bool.false_eq_true]
theorem c3_M {cd : Nat → Nat} {n : Nat} : ∀ (d fu k h : Nat) (sf : Nat → Bool) (I : MI) (J : MJ), rowM I n cd → St cd n (I 166) → rpM I J h sf → k ≤ n → (k < n → I 166 k = nI 1) → n < d + k → n < fu + k → c3M I J (c3 cd n (I 166) (I 167) (n - k) h sf) (oc (f_Model_isFlowGood_12 fu (nI k) I J) kM) := by
  intro d
  induction d with
  | zero => intro fu k h sf I J _ _ _ _ _ _ _; omega
  | succ d ih =>
    intro fu k h sf I J hr hS H h1 hk h3 h4
    obtain ⟨f, rfl⟩ : ∃ f, fu = f + 1 := ⟨fu - 1, by omega⟩
    have hr1 := hr.1
    have hn := hr.2.1
    have H1 := H.1
    have H2 := H.2.1
    rw [f_Model_isFlowGood_12]
    by_cases q : n ≤ k
    · rw [show n - k = 0 by omega, c3]
      refine ⟨nI 1, I, J, ?_, (frM_rfl I J).toN, rfl, rfl, rfl⟩
      simp (disch := omega) only [a11, a01, ↓li_m, ↓oc_some, ↓oc_ite, ↓oc_oc, ↓oc_pl, ↓oc_none, ↓oc_oe, ↓pl_eq, ↓oe_i, ↓oe_j, va_up_self, va_up_ne, va_up_up, upd_s, upd_n, updL_s, updL_n, nI_add, nI_1, nI_ltI, nI_leI, nI_eq, nI_clamp, li_n, m1_lt, m1_le, m1_gt, m1_ge, m1_ne, m1_en, m1_ad, nle_F, nle_T, nlt_F, nlt_T, neq_F, neq_T, or_self, or_false, false_or, true_or, or_true, and_self, and_false, false_and, true_and, and_true, not_true_eq_false, not_false_eq_true, ↓reduceIte, if_true, if_false, Nat.reduceAdd, ite_self, Bool.false_eq_true, hr1, kM]
    · have hg := hk (by omega)
      obtain ⟨c1, c3', c4, c5⟩ := hS.2.2 k (by omega) hg
      have hb := hr.2.2 k (by omega)
      have c6 := opl_1 c1
      have hl9 := opl_le (cd k)
      have sk : ∀ h sf, c3 cd n (I 166) (I 167) (n - k - 1) h sf = c3 cd n (I 166) (I 167) (n - (k + opl (cd k))) h sf := by
        intro h sf
        have := c3_skip (cd := cd) (n := n) (g := I 166) (t := I 167) (n - (k + opl (cd k))) h sf (opl (cd k) - 1) (by omega) (fun i h5 h6 => c5 i (by omega) (by omega))
        rw [← this]
        congr 1
        omega
      have e0 : n - k = n - k - 1 + 1 := by omega
      rw [e0, c3, show n - (n - k - 1 + 1) = k by omega, if_pos hg]
      have rst : (¬ (0 < h ∧ (¬ I 167 k = nI 0 ∨ cd k = 0 ∨ cd k = 17 ∨ cd k = 18 ∨ 27 < cd k))) → c3M I J (match fl (cd k) (cd (k + 1)) (cd (k + 2)) (cd (k + 3)) h sf with
    | none => some k
    | some x => c3 cd n (I 166) (I 167) (n - k - 1) x.1 x.2) (oc (oc (f_Model_flows (nI k) I J) (fun v5 I5 J5 => if ¬ v5 = 0 then (if nI k < 0 ∨ 2000 ≤ Int32.toNatClampNeg (nI k) then none else (oc (f_Model_longOf (I5 116 (Int32.toNatClampNeg (nI k))) I5 J5) (fun v8 I8 J8 => pl (nI k + v8 : Int32) (fun x9 => f_Model_isFlowGood_12  f x9 I8 J8)))) else (some (.inr (nI k), I5, J5)))) kM) := by
        intro hno
        obtain ⟨v, I1, J1, f1, f2, f3⟩ := fM (J := J) hr H c1 c3' (fun hc => by
          by_cases h0 : 0 < h
          · exact absurd ⟨h0, by omega⟩ hno
          · omega)
        have a2 : ∀ {α : Type} {F : Int32 → MI → MJ → Option α}, oc (f_Model_flows (nI k) I J) F = F v I1 J1 := fun {α F} => by
          rw [f1, oc_some]
        cases hfl : fl (cd k) (cd (k + 1)) (cd (k + 2)) (cd (k + 3)) h sf with
        | none =>
          rw [hfl] at f3
          have f3 : v = nI 0 := f3
          refine c3M_tr f2 ?_
          have e : oc (oc (f_Model_flows (nI k) I J) (fun v5 I5 J5 => if ¬ v5 = 0 then (if nI k < 0 ∨ 2000 ≤ Int32.toNatClampNeg (nI k) then none else (oc (f_Model_longOf (I5 116 (Int32.toNatClampNeg (nI k))) I5 J5) (fun v8 I8 J8 => pl (nI k + v8 : Int32) (fun x9 => f_Model_isFlowGood_12  f x9 I8 J8)))) else (some (.inr (nI k), I5, J5)))) kM = kM (.inr (nI k)) I1 J1 := by
            simp (disch := omega) only [a11, a01, ↓li_m, ↓oc_some, ↓oc_ite, ↓oc_oc, ↓oc_pl, ↓oc_none, ↓oc_oe, ↓pl_eq, ↓oe_i, ↓oe_j, va_up_self, va_up_ne, va_up_up, upd_s, upd_n, updL_s, updL_n, nI_add, nI_1, nI_ltI, nI_leI, nI_eq, nI_clamp, li_n, m1_lt, m1_le, m1_gt, m1_ge, m1_ne, m1_en, m1_ad, nle_F, nle_T, nlt_F, nlt_T, neq_F, neq_T, or_self, or_false, false_or, true_or, or_true, and_self, and_false, false_and, true_and, and_true, not_true_eq_false, not_false_eq_true, ↓reduceIte, if_true, if_false, Nat.reduceAdd, ite_self, Bool.false_eq_true, ↓a2, f3]
          rw [e]
          exact kM_r k
        | some x =>
          rw [hfl] at f3
          have f3 : v = nI 1 ∧ rpM I1 J1 x.1 x.2 := f3
          have g166 : I1 166 = I 166 := f2.1 166 (by decide)
          have g167 : I1 167 = I 167 := f2.1 167 (by decide)
          have g116 : I1 116 = I 116 := f2.1 116 (by decide)
          have ih2 := ih f (k + opl (cd k)) x.1 x.2 I1 J1 ⟨by rw [f2.2.1 12 (by decide)]; exact hr1, hn, by rw [g116]; exact hr.2.2⟩ (by rw [g166]; exact hS) f3.2 c3' (by rw [g166]; exact c4) (by omega) (by omega)
          rw [g166, g167, ← sk] at ih2
          refine c3M_tr f2 ?_
          have e : oc (oc (f_Model_flows (nI k) I J) (fun v5 I5 J5 => if ¬ v5 = 0 then (if nI k < 0 ∨ 2000 ≤ Int32.toNatClampNeg (nI k) then none else (oc (f_Model_longOf (I5 116 (Int32.toNatClampNeg (nI k))) I5 J5) (fun v8 I8 J8 => pl (nI k + v8 : Int32) (fun x9 => f_Model_isFlowGood_12  f x9 I8 J8)))) else (some (.inr (nI k), I5, J5)))) kM = oc (f_Model_isFlowGood_12 f (nI (k + opl (cd k))) I1 J1) kM := by
            rw [oc_oc, a2, f3.1, if_pos (show ¬ nI 1 = 0 from n10), if_neg (nI_in (by omega) (by omega)), nI_clamp (by omega), g116, hb.2, m_len c1, oc_some, pl_eq, nI_add]
          rw [e]
          exact ih2
      obtain ⟨v, I1, J1, r1, r2, r3⟩ := kM_l (I := I) (J := J) k
      have rr : ∀ {α : Type} {F : Int32 → MI → MJ → Option α}, oc (f_Model_refused 3 (nI k) I J) F = F (nI 0) I1 J1 := fun {α F} => by
        rw [r1, oc_some, r2]
      rw [r2] at r3
      by_cases h0 : 0 < h
      · by_cases qt : I 167 k = nI 0
        · rw [if_neg (show ¬ (¬ I 167 k = nI 0 ∧ 0 < h) from fun c => c.1 qt)]
          by_cases qc : cd k = 0 ∨ cd k = 17 ∨ cd k = 18 ∨ 27 < cd k
          · have hfl : fl (cd k) (cd (k + 1)) (cd (k + 2)) (cd (k + 3)) h sf = none := by
              unfold fl
              rw [if_pos (show cd k = 0 ∨ cd k = 17 ∨ cd k = 18 ∨ cd k = 28 ∨ cd k = 29 by omega), if_neg (by omega)]
            rw [hfl]
            refine Eq.mp (congrArg (c3M I J (some k)) ?_) r3
            symm
            by_cases qa : cd k = 0
            · simp (disch := omega) only [a11, a01, ↓li_m, ↓oc_some, ↓oc_ite, ↓oc_oc, ↓oc_pl, ↓oc_none, ↓oc_oe, ↓pl_eq, ↓oe_i, ↓oe_j, va_up_self, va_up_ne, va_up_up, upd_s, upd_n, updL_s, updL_n, nI_add, nI_1, nI_ltI, nI_leI, nI_eq, nI_clamp, li_n, m1_lt, m1_le, m1_gt, m1_ge, m1_ne, m1_en, m1_ad, nle_F, nle_T, nlt_F, nlt_T, neq_F, neq_T, or_self, or_false, false_or, true_or, or_true, and_self, and_false, false_and, true_and, and_true, not_true_eq_false, not_false_eq_true, ↓reduceIte, if_true, if_false, Nat.reduceAdd, ite_self, Bool.false_eq_true, hr1, H1, qt, hb.2, qa, ↓rr]
            · by_cases qb : cd k = 17
              · simp (disch := omega) only [a11, a01, ↓li_m, ↓oc_some, ↓oc_ite, ↓oc_oc, ↓oc_pl, ↓oc_none, ↓oc_oe, ↓pl_eq, ↓oe_i, ↓oe_j, va_up_self, va_up_ne, va_up_up, upd_s, upd_n, updL_s, updL_n, nI_add, nI_1, nI_ltI, nI_leI, nI_eq, nI_clamp, li_n, m1_lt, m1_le, m1_gt, m1_ge, m1_ne, m1_en, m1_ad, nle_F, nle_T, nlt_F, nlt_T, neq_F, neq_T, or_self, or_false, false_or, true_or, or_true, and_self, and_false, false_and, true_and, and_true, not_true_eq_false, not_false_eq_true, ↓reduceIte, if_true, if_false, Nat.reduceAdd, ite_self, Bool.false_eq_true, hr1, H1, qt, hb.2, qb, ↓rr]
              · by_cases qd : cd k = 18
                · simp (disch := omega) only [a11, a01, ↓li_m, ↓oc_some, ↓oc_ite, ↓oc_oc, ↓oc_pl, ↓oc_none, ↓oc_oe, ↓pl_eq, ↓oe_i, ↓oe_j, va_up_self, va_up_ne, va_up_up, upd_s, upd_n, updL_s, updL_n, nI_add, nI_1, nI_ltI, nI_leI, nI_eq, nI_clamp, li_n, m1_lt, m1_le, m1_gt, m1_ge, m1_ne, m1_en, m1_ad, nle_F, nle_T, nlt_F, nlt_T, neq_F, neq_T, or_self, or_false, false_or, true_or, or_true, and_self, and_false, false_and, true_and, and_true, not_true_eq_false, not_false_eq_true, ↓reduceIte, if_true, if_false, Nat.reduceAdd, ite_self, Bool.false_eq_true, hr1, H1, qt, hb.2, qd, ↓rr]
                · simp (disch := omega) only [a11, a01, ↓li_m, ↓oc_some, ↓oc_ite, ↓oc_oc, ↓oc_pl, ↓oc_none, ↓oc_oe, ↓pl_eq, ↓oe_i, ↓oe_j, va_up_self, va_up_ne, va_up_up, upd_s, upd_n, updL_s, updL_n, nI_add, nI_1, nI_ltI, nI_leI, nI_eq, nI_clamp, li_n, m1_lt, m1_le, m1_gt, m1_ge, m1_ne, m1_en, m1_ad, nle_F, nle_T, nlt_F, nlt_T, neq_F, neq_T, or_self, or_false, false_or, true_or, or_true, and_self, and_false, false_and, true_and, and_true, not_true_eq_false, not_false_eq_true, ↓reduceIte, if_true, if_false, Nat.reduceAdd, ite_self, Bool.false_eq_true, hr1, H1, qt, hb.2, ↓rr]
          · have hnot : ¬ (0 < h ∧ (¬ I 167 k = nI 0 ∨ cd k = 0 ∨ cd k = 17 ∨ cd k = 18 ∨ 27 < cd k)) := fun c => c.2.elim (fun x => x qt) qc
            refine Eq.mp (congrArg (c3M I J _) ?_) (rst hnot)
            have x1 : ¬ cd k = 0 := by omega
            have x2 : ¬ cd k = 17 := by omega
            have x3 : ¬ cd k = 18 := by omega
            have x4 : cd k ≤ 27 := by omega
            simp (disch := omega) only [a11, a01, ↓li_m, ↓oc_some, ↓oc_ite, ↓oc_oc, ↓oc_pl, ↓oc_none, ↓oc_oe, ↓pl_eq, ↓oe_i, ↓oe_j, va_up_self, va_up_ne, va_up_up, upd_s, upd_n, updL_s, updL_n, nI_add, nI_1, nI_ltI, nI_leI, nI_eq, nI_clamp, li_n, m1_lt, m1_le, m1_gt, m1_ge, m1_ne, m1_en, m1_ad, nle_F, nle_T, nlt_F, nlt_T, neq_F, neq_T, or_self, or_false, false_or, true_or, or_true, and_self, and_false, false_and, true_and, and_true, not_true_eq_false, not_false_eq_true, ↓reduceIte, if_true, if_false, Nat.reduceAdd, ite_self, Bool.false_eq_true, hr1, H1, qt, hb.2]
        · rw [if_pos (show ¬ I 167 k = nI 0 ∧ 0 < h from ⟨qt, h0⟩)]
          refine Eq.mp (congrArg (c3M I J (some k)) ?_) r3
          symm
          simp (disch := omega) only [a11, a01, ↓li_m, ↓oc_some, ↓oc_ite, ↓oc_oc, ↓oc_pl, ↓oc_none, ↓oc_oe, ↓pl_eq, ↓oe_i, ↓oe_j, va_up_self, va_up_ne, va_up_up, upd_s, upd_n, updL_s, updL_n, nI_add, nI_1, nI_ltI, nI_leI, nI_eq, nI_clamp, li_n, m1_lt, m1_le, m1_gt, m1_ge, m1_ne, m1_en, m1_ad, nle_F, nle_T, nlt_F, nlt_T, neq_F, neq_T, or_self, or_false, false_or, true_or, or_true, and_self, and_false, false_and, true_and, and_true, not_true_eq_false, not_false_eq_true, ↓reduceIte, if_true, if_false, Nat.reduceAdd, ite_self, Bool.false_eq_true, hr1, H1, qt, ↓rr]
      · have hnot : ¬ (0 < h ∧ (¬ I 167 k = nI 0 ∨ cd k = 0 ∨ cd k = 17 ∨ cd k = 18 ∨ 27 < cd k)) := fun c => h0 c.1
        rw [if_neg (show ¬ (¬ I 167 k = nI 0 ∧ 0 < h) from fun c => h0 c.2)]
        refine Eq.mp (congrArg (c3M I J _) ?_) (rst hnot)
        simp (disch := omega) only [a11, a01, ↓li_m, ↓oc_some, ↓oc_ite, ↓oc_oc, ↓oc_pl, ↓oc_none, ↓oc_oe, ↓pl_eq, ↓oe_i, ↓oe_j, va_up_self, va_up_ne, va_up_up, upd_s, upd_n, updL_s, updL_n, nI_add, nI_1, nI_ltI, nI_leI, nI_eq, nI_clamp, li_n, m1_lt, m1_le, m1_gt, m1_ge, m1_ne, m1_en, m1_ad, nle_F, nle_T, nlt_F, nlt_T, neq_F, neq_T, or_self, or_false, false_or, true_or, or_true, and_self, and_false, false_and, true_and, and_true, not_true_eq_false, not_false_eq_true, ↓reduceIte, if_true, if_false, Nat.reduceAdd, ite_self, Bool.false_eq_true, hr1, H1, hb.2]
