/-! compile: how both begin, and what they do where it fails -/
section CM
variable {n P m D U k p c q : Nat} {t : Nat → Nat} {x : Int32} {I I' : MI} {J J' : MJ} {f8 f9 g2 g3 g4 g5 : Nat → Int32} {cc cm : Nat → Nat}
theorem SA44 {p2 : Int32} : ∀ (e fu d : Nat) (I : MI), d + e = 10 → e < fu → ∃ I1, f_Translator_startAnew_44 p2 fu (nI d) I J = some ((), I1, J) ∧ (∀ j, d ≤ j → j < 10 → I1 8 j = m1 ∧ I1 9 j = m1) ∧ (∀ j, j < d → I1 8 j = I 8 j ∧ I1 9 j = I 9 j) ∧ ∀ a, a ≠ 8 → a ≠ 9 → I1 a = I a := by
  intro e
  induction e with
  | zero =>
    intro fu d I h1 h2
    obtain ⟨g, rfl⟩ : ∃ g, fu = g + 1 := ⟨fu - 1, by omega⟩
    refine ⟨I, ?_, fun j h3 h4 => by omega, fun _ _ => ⟨rfl, rfl⟩, fun _ _ _ => rfl⟩
    rw [f_Translator_startAnew_44, if_pos (nI_le (by omega) (by omega))]
  | succ e ih =>
    intro fu d I h1 h2
    obtain ⟨g, rfl⟩ : ∃ g, fu = g + 1 := ⟨fu - 1, by omega⟩
    obtain ⟨I1, r1, r2, r3, r4⟩ := ih g (d + 1) (va_up (va_up I 8 (upd (I 8) d m1)) 9 (upd (I 9) d m1)) (by omega) (by omega)
    refine ⟨I1, ?_, fun j h3 h4 => ?_, fun j hj => ?_, fun a a1 a2 => ?_⟩
    · rw [← r1, f_Translator_startAnew_44]
      simp (disch := omega) only [a11, a01, ↓li_m, ↓oc_some, ↓oc_ite, ↓oc_oc, ↓oc_pl, ↓oc_none, ↓oc_oe, ↓pl_eq, ↓oe_i, ↓oe_j, va_up_self, va_up_ne, va_up_up, upd_s, upd_n, updL_s, updL_n, nI_add, nI_1, nI_ltI, nI_leI, nI_eq, nI_clamp, li_n, m1_lt, m1_le, m1_gt, m1_ge, m1_ne, m1_en, m1_ad, nle_F, nle_T, nlt_F, nlt_T, neq_F, neq_T, or_self, or_false, false_or, true_or, or_true, and_self, and_false, false_and, true_and, and_true, not_true_eq_false, not_false_eq_true, ↓reduceIte, if_true, if_false, Nat.reduceAdd, ite_self, Bool.false_eq_true]
    · by_cases w : j = d
      · subst w
        obtain ⟨z1, z2⟩ := r3 j (by omega)
        rw [z1, z2]
        simp (disch := omega) only [a11, a01, ↓li_m, ↓oc_some, ↓oc_ite, ↓oc_oc, ↓oc_pl, ↓oc_none, ↓oc_oe, ↓pl_eq, ↓oe_i, ↓oe_j, va_up_self, va_up_ne, va_up_up, upd_s, upd_n, updL_s, updL_n, nI_add, nI_1, nI_ltI, nI_leI, nI_eq, nI_clamp, li_n, m1_lt, m1_le, m1_gt, m1_ge, m1_ne, m1_en, m1_ad, nle_F, nle_T, nlt_F, nlt_T, neq_F, neq_T, or_self, or_false, false_or, true_or, or_true, and_self, and_false, false_and, true_and, and_true, not_true_eq_false, not_false_eq_true, ↓reduceIte, if_true, if_false, Nat.reduceAdd, ite_self, Bool.false_eq_true]
      · exact r2 j (by omega) h4
    · obtain ⟨z1, z2⟩ := r3 j (by omega)
      rw [z1, z2]
      simp (disch := omega) only [a11, a01, ↓li_m, ↓oc_some, ↓oc_ite, ↓oc_oc, ↓oc_pl, ↓oc_none, ↓oc_oe, ↓pl_eq, ↓oe_i, ↓oe_j, va_up_self, va_up_ne, va_up_up, upd_s, upd_n, updL_s, updL_n, nI_add, nI_1, nI_ltI, nI_leI, nI_eq, nI_clamp, li_n, m1_lt, m1_le, m1_gt, m1_ge, m1_ne, m1_en, m1_ad, nle_F, nle_T, nlt_F, nlt_T, neq_F, neq_T, or_self, or_false, false_or, true_or, or_true, and_self, and_false, false_and, true_and, and_true, not_true_eq_false, not_false_eq_true, ↓reduceIte, if_true, if_false, Nat.reduceAdd, ite_self, Bool.false_eq_true]
    · rw [r4 a a1 a2, va_up_ne _ _ a2, va_up_ne _ _ a1]
theorem STA (h4 : I 4 1 = nI n) (h5 : ∀ j, j < n → I 5 j = nI (t j)) : ∃ I1, (∀ {α : Type} {F : Unit → MI → MJ → Option α}, oc (f_Translator_startAnew (nI P) I J) F = F () I1 J) ∧ CA n t P I1 0 0 0 0 0 0 (I1 8) (I1 9) (fun _ => 0) ∧ (∀ d, d < 10 → I1 8 d = m1 ∧ I1 9 d = m1) ∧ EX I I1 := by
  obtain ⟨I1, r1, r2, r3, r4⟩ := SA44 (p2 := nI P) (J := J) 10 gF 0 (va_up (va_up I 3 (upd (upd (upd (upd (upd (upd (upd (I 3) 4 (nI P)) 5 0) 6 0) 7 0) 8 0) 9 0) 10 0)) 6 (upd (I 6) 1 0)) (by omega) (by decide)
  have e : f_Translator_startAnew (nI P) I J = some ((), I1, J) := by
    have r1' : f_Translator_startAnew_44 (nI P) gF 0 (va_up (va_up I 3 (upd (upd (upd (upd (upd (upd (upd (I 3) 4 (nI P)) 5 0) 6 0) 7 0) 8 0) 9 0) 10 0)) 6 (upd (I 6) 1 0)) J = some ((), I1, J) := r1
    unfold f_Translator_startAnew f_Row_wipe
    simp only [pl_eq, va_up_self, va_up_up, oc_some]
    rw [va_up_ne _ _ (show 6 ≠ 3 by decide), r1', oc_some]
  refine ⟨I1, fun {α F} => by rw [e, oc_some], ?_, fun d hd => r2 d (by omega) hd, EX_Translator_startAnew (fun _ _ => rfl) _ _ _ e⟩
  have q3 : I1 3 = _ := r4 3 (by decide) (by decide)
  have q6 : I1 6 = _ := r4 6 (by decide) (by decide)
  have q4 : I1 4 = _ := r4 4 (by decide) (by decide)
  have q5 : I1 5 = _ := r4 5 (by decide) (by decide)
  refine ⟨⟨?_, fun j hj => ?_⟩, ?_, ?_, ?_, ?_, ?_, ?_, ?_, ?_, rfl, rfl, fun j hj => absurd hj (Nat.not_lt_zero _), by omega⟩
  · rw [q4]
    simp (disch := omega) only [a11, a01, ↓li_m, ↓oc_some, ↓oc_ite, ↓oc_oc, ↓oc_pl, ↓oc_none, ↓oc_oe, ↓pl_eq, ↓oe_i, ↓oe_j, va_up_self, va_up_ne, va_up_up, upd_s, upd_n, updL_s, updL_n, nI_add, nI_1, nI_ltI, nI_leI, nI_eq, nI_clamp, li_n, m1_lt, m1_le, m1_gt, m1_ge, m1_ne, m1_en, m1_ad, nle_F, nle_T, nlt_F, nlt_T, neq_F, neq_T, or_self, or_false, false_or, true_or, or_true, and_self, and_false, false_and, true_and, and_true, not_true_eq_false, not_false_eq_true, ↓reduceIte, if_true, if_false, Nat.reduceAdd, ite_self, Bool.false_eq_true]
    exact h4
  · rw [q5]
    simp (disch := omega) only [a11, a01, ↓li_m, ↓oc_some, ↓oc_ite, ↓oc_oc, ↓oc_pl, ↓oc_none, ↓oc_oe, ↓pl_eq, ↓oe_i, ↓oe_j, va_up_self, va_up_ne, va_up_up, upd_s, upd_n, updL_s, updL_n, nI_add, nI_1, nI_ltI, nI_leI, nI_eq, nI_clamp, li_n, m1_lt, m1_le, m1_gt, m1_ge, m1_ne, m1_en, m1_ad, nle_F, nle_T, nlt_F, nlt_T, neq_F, neq_T, or_self, or_false, false_or, true_or, or_true, and_self, and_false, false_and, true_and, and_true, not_true_eq_false, not_false_eq_true, ↓reduceIte, if_true, if_false, Nat.reduceAdd, ite_self, Bool.false_eq_true]
    exact h5 j hj
  · rw [q3]
    simp (disch := omega) only [a11, a01, ↓li_m, ↓oc_some, ↓oc_ite, ↓oc_oc, ↓oc_pl, ↓oc_none, ↓oc_oe, ↓pl_eq, ↓oe_i, ↓oe_j, va_up_self, va_up_ne, va_up_up, upd_s, upd_n, updL_s, updL_n, nI_add, nI_1, nI_ltI, nI_leI, nI_eq, nI_clamp, li_n, m1_lt, m1_le, m1_gt, m1_ge, m1_ne, m1_en, m1_ad, nle_F, nle_T, nlt_F, nlt_T, neq_F, neq_T, or_self, or_false, false_or, true_or, or_true, and_self, and_false, false_and, true_and, and_true, not_true_eq_false, not_false_eq_true, ↓reduceIte, if_true, if_false, Nat.reduceAdd, ite_self, Bool.false_eq_true]
  · rw [q3]
    simp (disch := omega) only [a11, a01, ↓li_m, ↓oc_some, ↓oc_ite, ↓oc_oc, ↓oc_pl, ↓oc_none, ↓oc_oe, ↓pl_eq, ↓oe_i, ↓oe_j, va_up_self, va_up_ne, va_up_up, upd_s, upd_n, updL_s, updL_n, nI_add, nI_1, nI_ltI, nI_leI, nI_eq, nI_clamp, li_n, m1_lt, m1_le, m1_gt, m1_ge, m1_ne, m1_en, m1_ad, nle_F, nle_T, nlt_F, nlt_T, neq_F, neq_T, or_self, or_false, false_or, true_or, or_true, and_self, and_false, false_and, true_and, and_true, not_true_eq_false, not_false_eq_true, ↓reduceIte, if_true, if_false, Nat.reduceAdd, ite_self, Bool.false_eq_true]
  · rw [q3]
    simp (disch := omega) only [a11, a01, ↓li_m, ↓oc_some, ↓oc_ite, ↓oc_oc, ↓oc_pl, ↓oc_none, ↓oc_oe, ↓pl_eq, ↓oe_i, ↓oe_j, va_up_self, va_up_ne, va_up_up, upd_s, upd_n, updL_s, updL_n, nI_add, nI_1, nI_ltI, nI_leI, nI_eq, nI_clamp, li_n, m1_lt, m1_le, m1_gt, m1_ge, m1_ne, m1_en, m1_ad, nle_F, nle_T, nlt_F, nlt_T, neq_F, neq_T, or_self, or_false, false_or, true_or, or_true, and_self, and_false, false_and, true_and, and_true, not_true_eq_false, not_false_eq_true, ↓reduceIte, if_true, if_false, Nat.reduceAdd, ite_self, Bool.false_eq_true]
  · rw [q3]
    simp (disch := omega) only [a11, a01, ↓li_m, ↓oc_some, ↓oc_ite, ↓oc_oc, ↓oc_pl, ↓oc_none, ↓oc_oe, ↓pl_eq, ↓oe_i, ↓oe_j, va_up_self, va_up_ne, va_up_up, upd_s, upd_n, updL_s, updL_n, nI_add, nI_1, nI_ltI, nI_leI, nI_eq, nI_clamp, li_n, m1_lt, m1_le, m1_gt, m1_ge, m1_ne, m1_en, m1_ad, nle_F, nle_T, nlt_F, nlt_T, neq_F, neq_T, or_self, or_false, false_or, true_or, or_true, and_self, and_false, false_and, true_and, and_true, not_true_eq_false, not_false_eq_true, ↓reduceIte, if_true, if_false, Nat.reduceAdd, ite_self, Bool.false_eq_true]
  · rw [q3]
    simp (disch := omega) only [a11, a01, ↓li_m, ↓oc_some, ↓oc_ite, ↓oc_oc, ↓oc_pl, ↓oc_none, ↓oc_oe, ↓pl_eq, ↓oe_i, ↓oe_j, va_up_self, va_up_ne, va_up_up, upd_s, upd_n, updL_s, updL_n, nI_add, nI_1, nI_ltI, nI_leI, nI_eq, nI_clamp, li_n, m1_lt, m1_le, m1_gt, m1_ge, m1_ne, m1_en, m1_ad, nle_F, nle_T, nlt_F, nlt_T, neq_F, neq_T, or_self, or_false, false_or, true_or, or_true, and_self, and_false, false_and, true_and, and_true, not_true_eq_false, not_false_eq_true, ↓reduceIte, if_true, if_false, Nat.reduceAdd, ite_self, Bool.false_eq_true]
  · rw [q3]
    simp (disch := omega) only [a11, a01, ↓li_m, ↓oc_some, ↓oc_ite, ↓oc_oc, ↓oc_pl, ↓oc_none, ↓oc_oe, ↓pl_eq, ↓oe_i, ↓oe_j, va_up_self, va_up_ne, va_up_up, upd_s, upd_n, updL_s, updL_n, nI_add, nI_1, nI_ltI, nI_leI, nI_eq, nI_clamp, li_n, m1_lt, m1_le, m1_gt, m1_ge, m1_ne, m1_en, m1_ad, nle_F, nle_T, nlt_F, nlt_T, neq_F, neq_T, or_self, or_false, false_or, true_or, or_true, and_self, and_false, false_and, true_and, and_true, not_true_eq_false, not_false_eq_true, ↓reduceIte, if_true, if_false, Nat.reduceAdd, ite_self, Bool.false_eq_true]
  · rw [q3]
    simp (disch := omega) only [a11, a01, ↓li_m, ↓oc_some, ↓oc_ite, ↓oc_oc, ↓oc_pl, ↓oc_none, ↓oc_oe, ↓pl_eq, ↓oe_i, ↓oe_j, va_up_self, va_up_ne, va_up_up, upd_s, upd_n, updL_s, updL_n, nI_add, nI_1, nI_ltI, nI_leI, nI_eq, nI_clamp, li_n, m1_lt, m1_le, m1_gt, m1_ge, m1_ne, m1_en, m1_ad, nle_F, nle_T, nlt_F, nlt_T, neq_F, neq_T, or_self, or_false, false_or, true_or, or_true, and_self, and_false, false_and, true_and, and_true, not_true_eq_false, not_false_eq_true, ↓reduceIte, if_true, if_false, Nat.reduceAdd, ite_self, Bool.false_eq_true]
  · rw [q6]
    simp (disch := omega) only [a11, a01, ↓li_m, ↓oc_some, ↓oc_ite, ↓oc_oc, ↓oc_pl, ↓oc_none, ↓oc_oe, ↓pl_eq, ↓oe_i, ↓oe_j, va_up_self, va_up_ne, va_up_up, upd_s, upd_n, updL_s, updL_n, nI_add, nI_1, nI_ltI, nI_leI, nI_eq, nI_clamp, li_n, m1_lt, m1_le, m1_gt, m1_ge, m1_ne, m1_en, m1_ad, nle_F, nle_T, nlt_F, nlt_T, neq_F, neq_T, or_self, or_false, false_or, true_or, or_true, and_self, and_false, false_and, true_and, and_true, not_true_eq_false, not_false_eq_true, ↓reduceIte, if_true, if_false, Nat.reduceAdd, ite_self, Bool.false_eq_true]
theorem CM47 : ∀ (e fu d : Nat) (I : MI), d + e = 10 → e < fu → ∃ I1, f_Model_compile_47 fu (nI d) I J = some ((), I1, J) ∧ (∀ j, d ≤ j → j < 10 → I1 162 j = m1) ∧ (∀ j, j < d → I1 162 j = I 162 j) ∧ ∀ a, a ≠ 162 → I1 a = I a := by
  intro e
  induction e with
  | zero =>
    intro fu d I h1 h2
    obtain ⟨g, rfl⟩ : ∃ g, fu = g + 1 := ⟨fu - 1, by omega⟩
    refine ⟨I, ?_, fun j h3 h4 => by omega, fun _ _ => rfl, fun _ _ => rfl⟩
    rw [f_Model_compile_47, if_pos (show 10 ≤ nI d from nI_le (a := 10) (by omega) (by omega))]
  | succ e ih =>
    intro fu d I h1 h2
    obtain ⟨g, rfl⟩ : ∃ g, fu = g + 1 := ⟨fu - 1, by omega⟩
    obtain ⟨I1, r1, r2, r3, r4⟩ := ih g (d + 1) (va_up I 162 (upd (I 162) d m1)) (by omega) (by omega)
    refine ⟨I1, ?_, fun j h3 h4 => ?_, fun j hj => ?_, fun a a1 => ?_⟩
    · rw [← r1, f_Model_compile_47]
      simp (disch := omega) only [a11, a01, ↓li_m, ↓oc_some, ↓oc_ite, ↓oc_oc, ↓oc_pl, ↓oc_none, ↓oc_oe, ↓pl_eq, ↓oe_i, ↓oe_j, va_up_self, va_up_ne, va_up_up, upd_s, upd_n, updL_s, updL_n, nI_add, nI_1, nI_ltI, nI_leI, nI_eq, nI_clamp, li_n, m1_lt, m1_le, m1_gt, m1_ge, m1_ne, m1_en, m1_ad, nle_F, nle_T, nlt_F, nlt_T, neq_F, neq_T, or_self, or_false, false_or, true_or, or_true, and_self, and_false, false_and, true_and, and_true, not_true_eq_false, not_false_eq_true, ↓reduceIte, if_true, if_false, Nat.reduceAdd, ite_self, Bool.false_eq_true]
    · by_cases w : j = d
      · subst w
        rw [r3 j (by omega)]
        simp (disch := omega) only [a11, a01, ↓li_m, ↓oc_some, ↓oc_ite, ↓oc_oc, ↓oc_pl, ↓oc_none, ↓oc_oe, ↓pl_eq, ↓oe_i, ↓oe_j, va_up_self, va_up_ne, va_up_up, upd_s, upd_n, updL_s, updL_n, nI_add, nI_1, nI_ltI, nI_leI, nI_eq, nI_clamp, li_n, m1_lt, m1_le, m1_gt, m1_ge, m1_ne, m1_en, m1_ad, nle_F, nle_T, nlt_F, nlt_T, neq_F, neq_T, or_self, or_false, false_or, true_or, or_true, and_self, and_false, false_and, true_and, and_true, not_true_eq_false, not_false_eq_true, ↓reduceIte, if_true, if_false, Nat.reduceAdd, ite_self, Bool.false_eq_true]
      · exact r2 j (by omega) h4
    · rw [r3 j (by omega)]
      simp (disch := omega) only [a11, a01, ↓li_m, ↓oc_some, ↓oc_ite, ↓oc_oc, ↓oc_pl, ↓oc_none, ↓oc_oe, ↓pl_eq, ↓oe_i, ↓oe_j, va_up_self, va_up_ne, va_up_up, upd_s, upd_n, updL_s, updL_n, nI_add, nI_1, nI_ltI, nI_leI, nI_eq, nI_clamp, li_n, m1_lt, m1_le, m1_gt, m1_ge, m1_ne, m1_en, m1_ad, nle_F, nle_T, nlt_F, nlt_T, neq_F, neq_T, or_self, or_false, false_or, true_or, or_true, and_self, and_false, false_and, true_and, and_true, not_true_eq_false, not_false_eq_true, ↓reduceIte, if_true, if_false, Nat.reduceAdd, ite_self, Bool.false_eq_true]
    · rw [r4 a a1, va_up_ne _ _ a1]
def iS (I : MI) (j : Nat) : MI := va_up I 112 (upd (I 112) j 0)
theorem iS_s (I : MI) (j : Nat) : iS I j 112 j = nI 0 := by
  unfold iS
  rw [va_up_self, upd_s]
  rfl
theorem iS_n (I : MI) {i j : Nat} (h : i ≠ j) : iS I j 112 i = I 112 i := by
  unfold iS
  rw [va_up_self, upd_n _ _ h]
theorem iS_o (I : MI) {a j : Nat} (h : a ≠ 112) : iS I j a = I a := va_up_ne _ _ h
def mIni (I : MI) : MI := iS (iS (iS (iS (iS (iS (iS (iS (iS I 3) 4) 13) 14) 5) 15) 10) 79) 75
def mPost (v16 : Int32) (I22 : MI) (J22 : MJ) : M2 Int32 := pl (va_up I22 112 (upd (I22 112) 2 0)) (fun I23 => oc ((if v16 = 0 then (some ((), I23, J22)) else (if (I23 112 13) ≤ 0 then (some ((), I23, J22)) else (pl (va_up I23 112 (upd (I23 112) 3 (I23 112 13))) (fun I28 => pl (va_up I28 112 (upd (I28 112) 4 (I28 112 14))) (fun I29 => some ((), I29, J22)))))) : M2 (Unit)) (fun v25 I25 J25 => if (I25 112 3) = 0 then (pl (va_up I25 112 (upd (I25 112) 0 0)) (fun I31 => oc (f_Model_lay_IV 0 I31 J25) (fun v32 I32 J32 => oc (f_Model_take 115 6000 (I32 112 10) I32 J32) (fun v33 I33 J33 => some (I33 112 7, I33, J33))))) else (oc (f_Model_raise 1 I25 J25) (fun v34 I34 J34 => some (v34, I34, J34)))))
def mRest (I13 : MI) (J13 : MJ) : M2 Int32 := oc (f_RcM 200 5 0 0 I13 J13) (fun v14 I14 J14 => oc ((if v14 = 0 then (some (0, I14, J14)) else (oc (f_Model_see  I14 J14) (fun v18 I18 J18 => if v18 = 0 then (some (1, I18, J18)) else (oc (f_Model_refuse  I18 J18) (fun v20 I20 J20 => if v20 = 0 then (some (0, I20, J20)) else (some (1, I20, J20))))))) : M2 (Int32)) (fun v16 I16 J16 => oc (f_Model_place  I16 J16) (fun v22 I22 J22 => mPost v16 I22 J22)))
theorem mcomp_eq {I : MI} {J : MJ} : f_Model_compile I J = oc (f_Model_compile_47 gF 0 (mIni I) J) (fun u13 I13 J13 => mRest I13 J13) := rfl
theorem EY_mIni : EY I (mIni I) := by
  unfold mIni iS
  exact EY_m (EY_m (EY_m (EY_m (EY_m (EY_m (EY_m (EY_m (EY_m ⟨fun _ _ _ _ _ _ _ => rfl, fun _ _ _ _ _ _ _ _ _ _ _ => rfl⟩ (by decide)) (by decide)) (by decide)) (by decide)) (by decide)) (by decide)) (by decide)) (by decide)) (by decide)
theorem MST (h4 : I 112 2 = nI n) (h5 : ∀ j, j < n → I 113 j = nI (t j)) (hP : I 112 16 = nI P) : ∃ I1, f_Model_compile_47 gF 0 (mIni I) J = some ((), I1, J) ∧ MA n t P I1 0 0 0 0 0 0 (I1 162) (I1 163) (I1 164) (I1 165) 0 (fun _ => 0) ∧ (∀ d, d < 10 → I1 162 d = m1) ∧ EY I I1 ∧ LM I1 := by
  obtain ⟨I1, r1, r2, r3, r4⟩ := CM47 (J := J) 10 gF 0 (mIni I) (by omega) (by decide)
  have w : I1 112 = mIni I 112 := r4 112 (by decide)
  have w3 : I1 113 = mIni I 113 := r4 113 (by decide)
  have d : (mIni I) 112 3 = nI 0 ∧ (mIni I) 112 13 = nI 0 ∧ (mIni I) 112 14 = nI 0 ∧ (mIni I) 112 5 = nI 0 ∧ (mIni I) 112 15 = nI 0 ∧ (mIni I) 112 10 = nI 0 ∧ (mIni I) 112 79 = nI 0 ∧ (mIni I) 112 75 = nI 0 ∧ (mIni I) 112 2 = I 112 2 ∧ (mIni I) 112 16 = I 112 16 ∧ (mIni I) 113 = I 113 := by
    unfold mIni
    refine ⟨?_, ?_, ?_, ?_, ?_, ?_, ?_, ?_, ?_, ?_, ?_⟩
    · rw [iS_n _ (by decide), iS_n _ (by decide), iS_n _ (by decide), iS_n _ (by decide), iS_n _ (by decide), iS_n _ (by decide), iS_n _ (by decide), iS_n _ (by decide), iS_s]
    · rw [iS_n _ (by decide), iS_n _ (by decide), iS_n _ (by decide), iS_n _ (by decide), iS_n _ (by decide), iS_n _ (by decide), iS_s]
    · rw [iS_n _ (by decide), iS_n _ (by decide), iS_n _ (by decide), iS_n _ (by decide), iS_n _ (by decide), iS_s]
    · rw [iS_n _ (by decide), iS_n _ (by decide), iS_n _ (by decide), iS_n _ (by decide), iS_s]
    · rw [iS_n _ (by decide), iS_n _ (by decide), iS_n _ (by decide), iS_s]
    · rw [iS_n _ (by decide), iS_n _ (by decide), iS_s]
    · rw [iS_n _ (by decide), iS_s]
    · rw [iS_s]
    · rw [iS_n _ (by decide), iS_n _ (by decide), iS_n _ (by decide), iS_n _ (by decide), iS_n _ (by decide), iS_n _ (by decide), iS_n _ (by decide), iS_n _ (by decide), iS_n _ (by decide)]
    · rw [iS_n _ (by decide), iS_n _ (by decide), iS_n _ (by decide), iS_n _ (by decide), iS_n _ (by decide), iS_n _ (by decide), iS_n _ (by decide), iS_n _ (by decide), iS_n _ (by decide)]
    · rw [iS_o _ (by decide), iS_o _ (by decide), iS_o _ (by decide), iS_o _ (by decide), iS_o _ (by decide), iS_o _ (by decide), iS_o _ (by decide), iS_o _ (by decide), iS_o _ (by decide)]
  obtain ⟨d1, d2, d3, d4, d5, d6, d7, d8, d9, d10, d11⟩ := d
  refine ⟨I1, r1, ⟨⟨by rw [w, d9]; exact h4, by rw [w3, d11]; exact h5⟩, by rw [w, d10]; exact hP, by rw [w]; exact d4, by rw [w]; exact d5, by rw [w]; exact d7, by rw [w]; exact d1, by rw [w]; exact d2, by rw [w]; exact d3, by rw [w]; exact d6, ⟨rfl, rfl, rfl, rfl, by rw [w]; exact d8⟩, fun j hj => absurd hj (Nat.not_lt_zero _), by omega⟩, fun d hd => r2 d (by omega) hd, EY_Model_compile_47 _ _ _ _ EY_mIni _ _ _ r1, 0, by omega, by rw [w]; exact d8, fun i hi => absurd hi (Nat.not_lt_zero _)⟩
theorem zF22 : ∀ (e fu d : Nat) (I : MI), d + e = 10 → e < fu → SS n t x I → zk (SS n t x) J (f_Translator_finish_22 fu (nI d) I J) := by
  intro e
  induction e with
  | zero =>
    intro fu d I h1 h2 h
    obtain ⟨g, rfl⟩ : ∃ g, fu = g + 1 := ⟨fu - 1, by omega⟩
    rw [f_Translator_finish_22, if_pos (nI_le (by omega) (by omega))]
    exact zk_some h
  | succ e ih =>
    intro fu d I h1 h2 h
    obtain ⟨g, rfl⟩ : ∃ g, fu = g + 1 := ⟨fu - 1, by omega⟩
    rw [f_Translator_finish_22, if_neg (nI_ge (by omega) (by omega)), if_neg (nI_ge (by omega) (by omega)), if_neg (nI_in (by omega) (by omega)), nI_1]
    refine zk_ite (fun _ => ih g (d + 1) I (by omega) (by omega) h) (fun _ => ?_)
    rw [if_neg (nI_in (by omega) (by omega))]
    refine zk_ite (fun _ => ih g (d + 1) I (by omega) (by omega) h) (fun _ => ?_)
    rw [if_neg (nI_in (by omega) (by omega))]
    exact zk_oc (YB h) (fun _ I1 h1 => ih g (d + 1) I1 (by omega) (by omega) h1)
theorem zF81 (h : SS n t x I) : zk (SS n t x) J (f_Translator_finish_81 gF 0 0 I J) := by
  have w := h.2.2.1
  show zk (SS n t x) J (f_Translator_finish_81 (999999 + 1) 0 0 I J)
  rw [f_Translator_finish_81, if_neg (by decide), w, if_pos (by decide)]
  exact zk_some h
def cFin (I3 : MI) (J3 : MJ) : M2 Unit := oc (f_Translator_emit 0 0 0 0 I3 J3) (fun v6 I6 J6 => oc (f_Translator_finish_22  gF 0 I6 J6) (fun u15 I15 J15 => oc (f_Translator_finish_81  gF 0 0 I15 J15) (fun u31 I31 J31 => some ((), I31, J31))))
theorem fin_eq {I : MI} {J : MJ} : f_Translator_finish I J = oc (f_Translator_look  I J) (fun v1 I1 J1 => oc ((if v1 = (-1) then (some ((), I1, J1)) else (oc (f_Translator_refuse  I1 J1) (fun v5 I5 J5 => some ((), I5, J5)))) : M2 (Unit)) (fun v3 I3 J3 => cFin I3 J3)) := rfl
theorem zCF (h : SS n t x I) : zk (SS n t x) J (cFin I J) := by
  unfold cFin
  refine zk_oc (Y_emit h) (fun _ I1 h1 => zk_oc (zF22 10 gF 0 I1 (by omega) (by decide) h1) (fun _ I2 h2 => zk_oc (zF81 h2) (fun _ _ h3 => zk_some h3)))
theorem zFR (ht : tpOK n t) (hA : CA n t P I q m D U k p f8 f9 cc) (hl : lkd n t q) (hq : q < n) : zk (SS n t (nI q)) J (f_Translator_finish I J) := by
  have tb := ht.2 q hq
  have e := fun {α : Type} {F : Int32 → MI → MJ → Option α} => LC0 (J := J) ht hA hl (F := F)
  obtain ⟨I1, r1, r2⟩ := RC (J := J) hA
  rw [fin_eq, e, cC_lt hq, if_neg (show ¬ nI (t q) = -1 from fun w => by
    have w' : nI (t q) = m1 := w
    rw [m1_en (by omega)] at w'
    exact w'), oc_oc, r1, oc_some]
  exact zCF r2
theorem zFin (ht : tpOK n t) (h : SQ n t x I) : zk (SS n t x) J (f_Translator_finish I J) := by
  rcases h with h | ⟨P, q, m, D, U, k, p, f8, f9, cc, h, hl, hq, h1, h2, rfl⟩
  · obtain ⟨I1, e1, e3⟩ := Y_look (J := J) ht h
    rw [fin_eq, e1, if_pos (show m1 = -1 from rfl), oc_some]
    exact zCF e3
  · exact zFR ht h hl hq
theorem NTA {p2 p3 : Int32} : ∃ I1, f_Model_note p2 p3 I J = some ((), I1, J) ∧ (∀ a, a ≠ 112 → I1 a = I a) ∧ ∀ j, j ≠ 13 → j ≠ 14 → I1 112 j = I 112 j := by
  have up : ∃ I1, (pl (va_up I 112 (upd (I 112) 13 p2)) (fun I2 => pl (va_up I2 112 (upd (I2 112) 14 p3)) (fun I3 => some ((), I3, J))) : M2 Unit) = some ((), I1, J) ∧ (∀ a, a ≠ 112 → I1 a = I a) ∧ ∀ j, j ≠ 13 → j ≠ 14 → I1 112 j = I 112 j := by
    refine ⟨_, rfl, fun a ha => ?_, fun j h1 h2 => ?_⟩
    · rw [va_up_ne _ _ ha, va_up_ne _ _ ha]
    · rw [va_up_self, upd_n _ _ h2, va_up_self, upd_n _ _ h1]
  unfold f_Model_note
  by_cases c1 : (I 112 13) = 0
  · rw [if_pos c1]
    exact up
  · rw [if_neg c1]
    by_cases c2 : p3 < (I 112 14)
    · rw [if_pos c2]
      exact up
    · rw [if_neg c2]
      by_cases c3 : p3 = (I 112 14)
      · rw [if_neg (fun w => w c3)]
        by_cases c4 : (I 112 13) ≤ p2
        · rw [if_pos c4]
          exact ⟨I, rfl, fun _ _ => rfl, fun _ _ _ => rfl⟩
        · rw [if_neg c4]
          exact up
      · rw [if_pos c3]
        exact ⟨I, rfl, fun _ _ => rfl, fun _ _ _ => rfl⟩
theorem PLT : ∀ (e fu i c : Nat) (I : MI), i + e = c → e < fu → c ≤ 200 → I 112 75 = nI c → (∀ i, i < c → (∃ d, d < 10 ∧ I 163 i = nI d) ∧ ∃ a, a + 1 < 6000 ∧ I 164 i = nI a) → ∃ I1, f_Model_place_2 fu (nI i) I J = some ((), I1, J) ∧ I1 112 3 = I 112 3 ∧ I1 112 4 = I 112 4 := by
  intro e
  induction e with
  | zero =>
    intro fu i c I h1 h2 h3 h4 h5
    obtain ⟨g, rfl⟩ : ∃ g, fu = g + 1 := ⟨fu - 1, by omega⟩
    refine ⟨I, ?_, rfl, rfl⟩
    rw [f_Model_place_2, h4, if_pos (nI_le (by omega) (by omega))]
  | succ e ih =>
    intro fu i c I h1 h2 h3 h4 h5
    obtain ⟨g, rfl⟩ : ∃ g, fu = g + 1 := ⟨fu - 1, by omega⟩
    obtain ⟨⟨d, d1, d2⟩, a, a1, a2⟩ := h5 i (by omega)
    have z1 : ¬ (nI i < 0 ∨ 200 ≤ i) := by
      have := nI_in (show i < 200 by omega) (show 200 < 2 ^ 31 by omega)
      rwa [nI_clamp (by omega)] at this
    have z2 : ¬ (nI d < 0 ∨ 10 ≤ d) := by
      have := nI_in (show d < 10 by omega) (show 10 < 2 ^ 31 by omega)
      rwa [nI_clamp (by omega)] at this
    rw [f_Model_place_2, h4, if_neg (nI_ge (by omega) (by omega)), if_neg (nI_in (by omega) (by omega)), nI_clamp (n := i) (by omega), d2, if_neg (nI_in (by omega) (by omega)), nI_clamp (n := d) (by omega), a2, nI_1, if_neg z1, if_neg z1, if_neg z2, if_neg z1]
    by_cases c1 : I 162 d = -1
    · rw [if_neg (fun w => w c1)]
      obtain ⟨N1, n1, n2, n3⟩ := NTA (p2 := 5) (p3 := I 165 i) (I := I) (J := J)
      obtain ⟨I1, r1, r2, r3⟩ := ih g (i + 1) c N1 (by omega) (by omega) h3 (by rw [n3 _ (by decide) (by decide)]; exact h4) (by rw [n2 163 (by decide), n2 164 (by decide)]; exact h5)
      exact ⟨I1, by rw [n1, oc_some]; exact r1, by rw [r2, n3 _ (by decide) (by decide)], by rw [r3, n3 _ (by decide) (by decide)]⟩
    · rw [if_pos c1]
      have hf : ∃ N1, f_Model_fill (nI a) (I 162 d) I J = some ((), N1, J) ∧ ∀ b, b ≠ 115 → N1 b = I b := by
        refine ⟨va_up I 115 (upd (upd (I 115) a (I 162 d >>> (8 &&& 31))) (a + 1) (I 162 d &&& 255)), ?_, fun b hb => va_up_ne _ _ hb⟩
        unfold f_Model_fill
        rw [if_neg (nI_in (by omega) (by omega)), pl_eq, nI_1, if_neg (nI_in (by omega) (by omega)), pl_eq, nI_clamp (by omega), nI_clamp (by omega), va_up_self, va_up_up]
      obtain ⟨N1, n1, n2⟩ := hf
      obtain ⟨I1, r1, r2, r3⟩ := ih g (i + 1) c N1 (by omega) (by omega) h3 (by rw [n2 112 (by decide)]; exact h4) (by rw [n2 163 (by decide), n2 164 (by decide)]; exact h5)
      exact ⟨I1, by rw [n1, oc_some]; exact r1, by rw [r2, n2 112 (by decide)], by rw [r3, n2 112 (by decide)]⟩
/-- the reference, where it fails -/
theorem mFail (hL : LM I) (h3 : I 112 3 = nI 1) : ∃ I1, oc (f_Model_place I J) (fun v22 I22 J22 => mPost 0 I22 J22) = some (0, I1, J) ∧ I1 112 0 = nI 1 ∧ I1 112 2 = nI 0 ∧ I1 112 3 = nI 1 ∧ I1 112 4 = I 112 4 ∧ ∃ I2, EY I I2 ∧ (∀ a, a ≠ 112 → I1 a = I2 a) ∧ ∀ j, j ≠ 0 → j ≠ 2 → I1 112 j = I2 112 j := by
  obtain ⟨c, c1, c2, c3⟩ := hL
  obtain ⟨I2, r1, r2, r3⟩ := PLT (J := J) c gF 0 c I (by omega) (gF_lt (by omega)) c1 c2 c3
  have r1' : f_Model_place_2 gF 0 I J = some ((), I2, J) := r1
  have hy : EY I I2 := EY_Model_place_2 _ _ _ _ ⟨fun _ _ _ _ _ _ _ => rfl, fun _ _ _ _ _ _ _ _ _ _ _ => rfl⟩ _ _ _ r1
  refine ⟨va_up I2 112 (upd (upd (I2 112) 2 0) 0 1), ?_, ?_, ?_, ?_, ?_, I2, hy, fun a ha => va_up_ne _ _ ha, fun j h1 h2 => ?_⟩
  · unfold f_Model_place mPost
    rw [r1', oc_some, oc_some, pl_eq, if_pos rfl, oc_some, va_up_self, upd_n _ _ (by decide), r2, h3, if_neg (by decide)]
    unfold f_Model_raise
    rw [pl_eq, oc_some, va_up_self, va_up_up]
  · rw [va_up_self, upd_s]
    rfl
  · rw [va_up_self, upd_n _ _ (by decide), upd_s]
    rfl
  · rw [va_up_self, upd_n _ _ (by decide), upd_n _ _ (by decide), r2, h3]
  · rw [va_up_self, upd_n _ _ (by decide), upd_n _ _ (by decide), r3]
  · rw [va_up_self, upd_n _ _ h1, upd_n _ _ h2]
end CM
