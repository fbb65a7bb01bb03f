/-! compile: targets filled in, calls, routines that are told; deciders -/
theorem GH_u2 {P m h m1 h1 : Nat} {cc cc1 : Nat → Nat} {st st1 : Nat → Bool} {hg hg1 : Nat → Nat} (A : GH P cc m h st hg) (B : GH P cc1 m1 h1 st1 hg1) (hm : m ≤ m1) (hc : ∀ j, st j = true → cc1 j = cc j) : ∀ s, (st s = true ∨ s = m) → hg1 s = hg s ∧ (s < m1 → st1 s = true) := by
  obtain ⟨⟨a1, a2, a3, a4, a5, a6⟩, a7⟩ := A
  obtain ⟨⟨b1, b2, b3, b4, b5, b6⟩, b7⟩ := B
  intro s
  induction s using Nat.strongRecOn with
  | ind s ih =>
    intro hs
    have hsm : s ≤ m := by
      rcases hs with hs | hs
      · have := CODE_st (P := P) (cc := cc) (hg := hg) a5 hs
        omega
      · omega
    by_cases z : s = 0
    · subst z
      exact ⟨by rw [a1, b1], fun h => b4 h⟩
    · obtain ⟨p, p1, p2, p3⟩ := lastst (st := st) s (by omega) (a4 (by omega))
      obtain ⟨c1, c2, c3, c4, c5, c6, c7, c8, c9, c10, c11⟩ := a7 p p2
      have hp : p + opl (cc p) = s := by
        by_cases e1 : s < p + opl (cc p)
        · rcases hs with hs | hs
          · rw [c9 s p1 e1] at hs
            cases hs
          · omega
        · by_cases e2 : p + opl (cc p) < s
          · have ol := opl_1 c1
            have := p3 (p + opl (cc p)) (by omega) e2
            rw [c8 (by omega)] at this
            cases this
          · omega
      obtain ⟨i1, i2⟩ := ih p p1 (Or.inl p2)
      obtain ⟨d1, d2, d3, d4, d5, d6, d7, d8, d9, d10, d11⟩ := b7 p (i2 (by omega))
      have hcp := hc p p2
      rw [hcp, hp, i1] at d6
      rw [hcp, hp] at d8
      rw [hp] at c6
      exact ⟨by rw [d6, c6], d8⟩
/-- what was the end is a start, once something was laid behind it -/
theorem GH_end {P m M h c : Nat} {cc cm cc' : Nat → Nat} {f8 g3 g4 : Nat → Int32} (H : CODE P cc cm m 0 f8 g3 g4 c) (hm : m < M) (hc : ∀ j, j < m → cc' j = cc j) : ∀ st hg, GH P cc' M h st hg → st m = true ∧ hg m = 0 := by
  intro st hg B
  obtain ⟨st0, hg0, A⟩ := CODE_gh H
  obtain ⟨u1, u2⟩ := GH_un A B (by omega) hc m (Or.inr rfl)
  exact ⟨u2 hm, by rw [u1]; exact A.1.2.1⟩
theorem rs8 {r : Nat} (hr : r ≤ 2000) : nI r >>> (8 &&& 31) = nI (r / 256) := by
  have h : ∀ r : Fin 2001, nI r.val >>> (8 &&& 31) = nI (r.val / 256) := by decide +kernel
  exact h ⟨r, by omega⟩
theorem rs8u {r : Nat} (hr : r ≤ 2000) : (Int32.toUInt32 (nI r) >>> (Int32.toUInt32 8 &&& Int32.toUInt32 31)).toInt32 &&& 255 = nI (r / 256) := by
  have h : ∀ r : Fin 2001, (Int32.toUInt32 (nI r.val) >>> (Int32.toUInt32 8 &&& Int32.toUInt32 31)).toInt32 &&& 255 = nI (r.val / 256) := by decide +kernel
  exact h ⟨r, by omega⟩
theorem ra8 {r : Nat} (hr : r ≤ 2000) : nI r &&& 255 = nI (r % 256) := by
  have h : ∀ r : Fin 2001, nI r.val &&& 255 = nI (r.val % 256) := by decide +kernel
  exact h ⟨r, by omega⟩
section CM
variable {n P m D U k p c q : Nat} {t : Nat → Nat} {I I' : MI} {J J' : MJ} {f8 f9 g2 g3 g4 g5 : Nat → Int32} {cc cm : Nat → Nat}
theorem CGC {i b : Nat} {x v : Int32} (h : CA n t P I q m D U k p f8 f9 cc) (hx : x = nI i) (hi : i < m) (hv : v &&& 255 = nI b) : ∃ I1, (∀ {α : Type} {F : Unit → MI → MJ → Option α}, oc (f_Row_change 6 7 2000 x v I J) F = F () I1 J) ∧ CA n t P I1 q m D U k p f8 f9 (apn cc i b) := by
  subst hx
  obtain ⟨⟨h1, h2⟩, h3, h4, h5, h6, h7, h8, h9, h10, h11, h12, h13, h14⟩ := h
  refine ⟨va_up I 7 (upd (I 7) i (nI b)), ?_, ⟨?_, ?_⟩, ?_, ?_, ?_, ?_, ?_, ?_, ?_, ?_, ?_, ?_, ?_, h14⟩
  · intro α F
    rw [w_chg h10 h14.2.1 (by decide) hi, oc_some, hv]
  · simp (disch := omega) only [a11, a01, ↓li_m, ↓oc_some, ↓oc_ite, ↓oc_oc, ↓oc_pl, ↓oc_none, ↓oc_oe, ↓pl_eq, ↓oe_i, ↓oe_j, va_up_self, va_up_ne, va_up_up, upd_s, upd_n, updL_s, updL_n, nI_add, nI_1, nI_ltI, nI_leI, nI_eq, nI_clamp, li_n, m1_lt, m1_le, m1_gt, m1_ge, m1_ne, m1_en, m1_ad, nle_F, nle_T, nlt_F, nlt_T, neq_F, neq_T, or_self, or_false, false_or, true_or, or_true, and_self, and_false, false_and, true_and, and_true, not_true_eq_false, not_false_eq_true, ↓reduceIte, if_true, if_false, Nat.reduceAdd, ite_self, Bool.false_eq_true]
    exact h1
  · intro j hj
    simp (disch := omega) only [a11, a01, ↓li_m, ↓oc_some, ↓oc_ite, ↓oc_oc, ↓oc_pl, ↓oc_none, ↓oc_oe, ↓pl_eq, ↓oe_i, ↓oe_j, va_up_self, va_up_ne, va_up_up, upd_s, upd_n, updL_s, updL_n, nI_add, nI_1, nI_ltI, nI_leI, nI_eq, nI_clamp, li_n, m1_lt, m1_le, m1_gt, m1_ge, m1_ne, m1_en, m1_ad, nle_F, nle_T, nlt_F, nlt_T, neq_F, neq_T, or_self, or_false, false_or, true_or, or_true, and_self, and_false, false_and, true_and, and_true, not_true_eq_false, not_false_eq_true, ↓reduceIte, if_true, if_false, Nat.reduceAdd, ite_self, Bool.false_eq_true]
    exact h2 j hj
  · simp (disch := omega) only [a11, a01, ↓li_m, ↓oc_some, ↓oc_ite, ↓oc_oc, ↓oc_pl, ↓oc_none, ↓oc_oe, ↓pl_eq, ↓oe_i, ↓oe_j, va_up_self, va_up_ne, va_up_up, upd_s, upd_n, updL_s, updL_n, nI_add, nI_1, nI_ltI, nI_leI, nI_eq, nI_clamp, li_n, m1_lt, m1_le, m1_gt, m1_ge, m1_ne, m1_en, m1_ad, nle_F, nle_T, nlt_F, nlt_T, neq_F, neq_T, or_self, or_false, false_or, true_or, or_true, and_self, and_false, false_and, true_and, and_true, not_true_eq_false, not_false_eq_true, ↓reduceIte, if_true, if_false, Nat.reduceAdd, ite_self, Bool.false_eq_true]
    exact h3
  · simp (disch := omega) only [a11, a01, ↓li_m, ↓oc_some, ↓oc_ite, ↓oc_oc, ↓oc_pl, ↓oc_none, ↓oc_oe, ↓pl_eq, ↓oe_i, ↓oe_j, va_up_self, va_up_ne, va_up_up, upd_s, upd_n, updL_s, updL_n, nI_add, nI_1, nI_ltI, nI_leI, nI_eq, nI_clamp, li_n, m1_lt, m1_le, m1_gt, m1_ge, m1_ne, m1_en, m1_ad, nle_F, nle_T, nlt_F, nlt_T, neq_F, neq_T, or_self, or_false, false_or, true_or, or_true, and_self, and_false, false_and, true_and, and_true, not_true_eq_false, not_false_eq_true, ↓reduceIte, if_true, if_false, Nat.reduceAdd, ite_self, Bool.false_eq_true]
    exact h4
  · simp (disch := omega) only [a11, a01, ↓li_m, ↓oc_some, ↓oc_ite, ↓oc_oc, ↓oc_pl, ↓oc_none, ↓oc_oe, ↓pl_eq, ↓oe_i, ↓oe_j, va_up_self, va_up_ne, va_up_up, upd_s, upd_n, updL_s, updL_n, nI_add, nI_1, nI_ltI, nI_leI, nI_eq, nI_clamp, li_n, m1_lt, m1_le, m1_gt, m1_ge, m1_ne, m1_en, m1_ad, nle_F, nle_T, nlt_F, nlt_T, neq_F, neq_T, or_self, or_false, false_or, true_or, or_true, and_self, and_false, false_and, true_and, and_true, not_true_eq_false, not_false_eq_true, ↓reduceIte, if_true, if_false, Nat.reduceAdd, ite_self, Bool.false_eq_true]
    exact h5
  · simp (disch := omega) only [a11, a01, ↓li_m, ↓oc_some, ↓oc_ite, ↓oc_oc, ↓oc_pl, ↓oc_none, ↓oc_oe, ↓pl_eq, ↓oe_i, ↓oe_j, va_up_self, va_up_ne, va_up_up, upd_s, upd_n, updL_s, updL_n, nI_add, nI_1, nI_ltI, nI_leI, nI_eq, nI_clamp, li_n, m1_lt, m1_le, m1_gt, m1_ge, m1_ne, m1_en, m1_ad, nle_F, nle_T, nlt_F, nlt_T, neq_F, neq_T, or_self, or_false, false_or, true_or, or_true, and_self, and_false, false_and, true_and, and_true, not_true_eq_false, not_false_eq_true, ↓reduceIte, if_true, if_false, Nat.reduceAdd, ite_self, Bool.false_eq_true]
    exact h6
  · simp (disch := omega) only [a11, a01, ↓li_m, ↓oc_some, ↓oc_ite, ↓oc_oc, ↓oc_pl, ↓oc_none, ↓oc_oe, ↓pl_eq, ↓oe_i, ↓oe_j, va_up_self, va_up_ne, va_up_up, upd_s, upd_n, updL_s, updL_n, nI_add, nI_1, nI_ltI, nI_leI, nI_eq, nI_clamp, li_n, m1_lt, m1_le, m1_gt, m1_ge, m1_ne, m1_en, m1_ad, nle_F, nle_T, nlt_F, nlt_T, neq_F, neq_T, or_self, or_false, false_or, true_or, or_true, and_self, and_false, false_and, true_and, and_true, not_true_eq_false, not_false_eq_true, ↓reduceIte, if_true, if_false, Nat.reduceAdd, ite_self, Bool.false_eq_true]
    exact h7
  · simp (disch := omega) only [a11, a01, ↓li_m, ↓oc_some, ↓oc_ite, ↓oc_oc, ↓oc_pl, ↓oc_none, ↓oc_oe, ↓pl_eq, ↓oe_i, ↓oe_j, va_up_self, va_up_ne, va_up_up, upd_s, upd_n, updL_s, updL_n, nI_add, nI_1, nI_ltI, nI_leI, nI_eq, nI_clamp, li_n, m1_lt, m1_le, m1_gt, m1_ge, m1_ne, m1_en, m1_ad, nle_F, nle_T, nlt_F, nlt_T, neq_F, neq_T, or_self, or_false, false_or, true_or, or_true, and_self, and_false, false_and, true_and, and_true, not_true_eq_false, not_false_eq_true, ↓reduceIte, if_true, if_false, Nat.reduceAdd, ite_self, Bool.false_eq_true]
    exact h8
  · simp (disch := omega) only [a11, a01, ↓li_m, ↓oc_some, ↓oc_ite, ↓oc_oc, ↓oc_pl, ↓oc_none, ↓oc_oe, ↓pl_eq, ↓oe_i, ↓oe_j, va_up_self, va_up_ne, va_up_up, upd_s, upd_n, updL_s, updL_n, nI_add, nI_1, nI_ltI, nI_leI, nI_eq, nI_clamp, li_n, m1_lt, m1_le, m1_gt, m1_ge, m1_ne, m1_en, m1_ad, nle_F, nle_T, nlt_F, nlt_T, neq_F, neq_T, or_self, or_false, false_or, true_or, or_true, and_self, and_false, false_and, true_and, and_true, not_true_eq_false, not_false_eq_true, ↓reduceIte, if_true, if_false, Nat.reduceAdd, ite_self, Bool.false_eq_true]
    exact h9
  · simp (disch := omega) only [a11, a01, ↓li_m, ↓oc_some, ↓oc_ite, ↓oc_oc, ↓oc_pl, ↓oc_none, ↓oc_oe, ↓pl_eq, ↓oe_i, ↓oe_j, va_up_self, va_up_ne, va_up_up, upd_s, upd_n, updL_s, updL_n, nI_add, nI_1, nI_ltI, nI_leI, nI_eq, nI_clamp, li_n, m1_lt, m1_le, m1_gt, m1_ge, m1_ne, m1_en, m1_ad, nle_F, nle_T, nlt_F, nlt_T, neq_F, neq_T, or_self, or_false, false_or, true_or, or_true, and_self, and_false, false_and, true_and, and_true, not_true_eq_false, not_false_eq_true, ↓reduceIte, if_true, if_false, Nat.reduceAdd, ite_self, Bool.false_eq_true]
    exact h10
  · simp (disch := omega) only [a11, a01, ↓li_m, ↓oc_some, ↓oc_ite, ↓oc_oc, ↓oc_pl, ↓oc_none, ↓oc_oe, ↓pl_eq, ↓oe_i, ↓oe_j, va_up_self, va_up_ne, va_up_up, upd_s, upd_n, updL_s, updL_n, nI_add, nI_1, nI_ltI, nI_leI, nI_eq, nI_clamp, li_n, m1_lt, m1_le, m1_gt, m1_ge, m1_ne, m1_en, m1_ad, nle_F, nle_T, nlt_F, nlt_T, neq_F, neq_T, or_self, or_false, false_or, true_or, or_true, and_self, and_false, false_and, true_and, and_true, not_true_eq_false, not_false_eq_true, ↓reduceIte, if_true, if_false, Nat.reduceAdd, ite_self, Bool.false_eq_true]
    exact h11
  · simp (disch := omega) only [a11, a01, ↓li_m, ↓oc_some, ↓oc_ite, ↓oc_oc, ↓oc_pl, ↓oc_none, ↓oc_oe, ↓pl_eq, ↓oe_i, ↓oe_j, va_up_self, va_up_ne, va_up_up, upd_s, upd_n, updL_s, updL_n, nI_add, nI_1, nI_ltI, nI_leI, nI_eq, nI_clamp, li_n, m1_lt, m1_le, m1_gt, m1_ge, m1_ne, m1_en, m1_ad, nle_F, nle_T, nlt_F, nlt_T, neq_F, neq_T, or_self, or_false, false_or, true_or, or_true, and_self, and_false, false_and, true_and, and_true, not_true_eq_false, not_false_eq_true, ↓reduceIte, if_true, if_false, Nat.reduceAdd, ite_self, Bool.false_eq_true]
    exact h12
  · intro j hj
    rw [va_up_self]
    by_cases e : j = i
    · subst e
      rw [upd_s, apn_s]
    · rw [upd_n _ _ e, apn_n _ _ e]
      exact h13 j hj
theorem FLC {i r : Nat} {x y : Int32} (h : CA n t P I q m D U k p f8 f9 cc) (hx : x = nI i) (hy : y = nI r) (hi : i + 1 < m) (hr : r ≤ 2000) : ∃ I1, (∀ {α : Type} {F : Unit → MI → MJ → Option α}, oc (f_Row_aim 6 7 2000 x y I J) F = F () I1 J) ∧ CA n t P I1 q m D U k p f8 f9 (fil cc i r) := by
  subst hx
  subst hy
  obtain ⟨I1, a1, a2⟩ := CGC (J := J) h (x := nI i) rfl (by omega) (rs8u hr)
  obtain ⟨I2, b1, b2⟩ := CGC (J := J) a2 (x := nI i + 1) (i := i + 1) (nI_add i 1) (by omega) (ra8 hr)
  refine ⟨I2, ?_, b2⟩
  intro α F
  unfold f_Row_aim
  rw [oc_oc, a1, oc_oc, b1]
  rfl
theorem CGM {i b : Nat} (h : MA n t P I q m D U k p g2 g3 g4 g5 c cm) (hi : i < m) : MA n t P (va_up I 115 (upd (I 115) i (nI b))) q m D U k p g2 g3 g4 g5 c (apn cm i b) := by
  obtain ⟨⟨h1, h2⟩, h3, h4, h5, h6, h7, h8, h9, h10, ⟨h11, h12, h13, h14, h15⟩, h16, h17⟩ := h
  refine ⟨⟨?_, ?_⟩, ?_, ?_, ?_, ?_, ?_, ?_, ?_, ?_, ⟨?_, ?_, ?_, ?_, ?_⟩, ?_, h17⟩
  · simp (disch := omega) only [a11, a01, ↓li_m, ↓oc_some, ↓oc_ite, ↓oc_oc, ↓oc_pl, ↓oc_none, ↓oc_oe, ↓pl_eq, ↓oe_i, ↓oe_j, va_up_self, va_up_ne, va_up_up, upd_s, upd_n, updL_s, updL_n, nI_add, nI_1, nI_ltI, nI_leI, nI_eq, nI_clamp, li_n, m1_lt, m1_le, m1_gt, m1_ge, m1_ne, m1_en, m1_ad, nle_F, nle_T, nlt_F, nlt_T, neq_F, neq_T, or_self, or_false, false_or, true_or, or_true, and_self, and_false, false_and, true_and, and_true, not_true_eq_false, not_false_eq_true, ↓reduceIte, if_true, if_false, Nat.reduceAdd, ite_self, Bool.false_eq_true]
    exact h1
  · intro j hj
    simp (disch := omega) only [a11, a01, ↓li_m, ↓oc_some, ↓oc_ite, ↓oc_oc, ↓oc_pl, ↓oc_none, ↓oc_oe, ↓pl_eq, ↓oe_i, ↓oe_j, va_up_self, va_up_ne, va_up_up, upd_s, upd_n, updL_s, updL_n, nI_add, nI_1, nI_ltI, nI_leI, nI_eq, nI_clamp, li_n, m1_lt, m1_le, m1_gt, m1_ge, m1_ne, m1_en, m1_ad, nle_F, nle_T, nlt_F, nlt_T, neq_F, neq_T, or_self, or_false, false_or, true_or, or_true, and_self, and_false, false_and, true_and, and_true, not_true_eq_false, not_false_eq_true, ↓reduceIte, if_true, if_false, Nat.reduceAdd, ite_self, Bool.false_eq_true]
    exact h2 j hj
  · simp (disch := omega) only [a11, a01, ↓li_m, ↓oc_some, ↓oc_ite, ↓oc_oc, ↓oc_pl, ↓oc_none, ↓oc_oe, ↓pl_eq, ↓oe_i, ↓oe_j, va_up_self, va_up_ne, va_up_up, upd_s, upd_n, updL_s, updL_n, nI_add, nI_1, nI_ltI, nI_leI, nI_eq, nI_clamp, li_n, m1_lt, m1_le, m1_gt, m1_ge, m1_ne, m1_en, m1_ad, nle_F, nle_T, nlt_F, nlt_T, neq_F, neq_T, or_self, or_false, false_or, true_or, or_true, and_self, and_false, false_and, true_and, and_true, not_true_eq_false, not_false_eq_true, ↓reduceIte, if_true, if_false, Nat.reduceAdd, ite_self, Bool.false_eq_true]
    exact h3
  · simp (disch := omega) only [a11, a01, ↓li_m, ↓oc_some, ↓oc_ite, ↓oc_oc, ↓oc_pl, ↓oc_none, ↓oc_oe, ↓pl_eq, ↓oe_i, ↓oe_j, va_up_self, va_up_ne, va_up_up, upd_s, upd_n, updL_s, updL_n, nI_add, nI_1, nI_ltI, nI_leI, nI_eq, nI_clamp, li_n, m1_lt, m1_le, m1_gt, m1_ge, m1_ne, m1_en, m1_ad, nle_F, nle_T, nlt_F, nlt_T, neq_F, neq_T, or_self, or_false, false_or, true_or, or_true, and_self, and_false, false_and, true_and, and_true, not_true_eq_false, not_false_eq_true, ↓reduceIte, if_true, if_false, Nat.reduceAdd, ite_self, Bool.false_eq_true]
    exact h4
  · simp (disch := omega) only [a11, a01, ↓li_m, ↓oc_some, ↓oc_ite, ↓oc_oc, ↓oc_pl, ↓oc_none, ↓oc_oe, ↓pl_eq, ↓oe_i, ↓oe_j, va_up_self, va_up_ne, va_up_up, upd_s, upd_n, updL_s, updL_n, nI_add, nI_1, nI_ltI, nI_leI, nI_eq, nI_clamp, li_n, m1_lt, m1_le, m1_gt, m1_ge, m1_ne, m1_en, m1_ad, nle_F, nle_T, nlt_F, nlt_T, neq_F, neq_T, or_self, or_false, false_or, true_or, or_true, and_self, and_false, false_and, true_and, and_true, not_true_eq_false, not_false_eq_true, ↓reduceIte, if_true, if_false, Nat.reduceAdd, ite_self, Bool.false_eq_true]
    exact h5
  · simp (disch := omega) only [a11, a01, ↓li_m, ↓oc_some, ↓oc_ite, ↓oc_oc, ↓oc_pl, ↓oc_none, ↓oc_oe, ↓pl_eq, ↓oe_i, ↓oe_j, va_up_self, va_up_ne, va_up_up, upd_s, upd_n, updL_s, updL_n, nI_add, nI_1, nI_ltI, nI_leI, nI_eq, nI_clamp, li_n, m1_lt, m1_le, m1_gt, m1_ge, m1_ne, m1_en, m1_ad, nle_F, nle_T, nlt_F, nlt_T, neq_F, neq_T, or_self, or_false, false_or, true_or, or_true, and_self, and_false, false_and, true_and, and_true, not_true_eq_false, not_false_eq_true, ↓reduceIte, if_true, if_false, Nat.reduceAdd, ite_self, Bool.false_eq_true]
    exact h6
  · simp (disch := omega) only [a11, a01, ↓li_m, ↓oc_some, ↓oc_ite, ↓oc_oc, ↓oc_pl, ↓oc_none, ↓oc_oe, ↓pl_eq, ↓oe_i, ↓oe_j, va_up_self, va_up_ne, va_up_up, upd_s, upd_n, updL_s, updL_n, nI_add, nI_1, nI_ltI, nI_leI, nI_eq, nI_clamp, li_n, m1_lt, m1_le, m1_gt, m1_ge, m1_ne, m1_en, m1_ad, nle_F, nle_T, nlt_F, nlt_T, neq_F, neq_T, or_self, or_false, false_or, true_or, or_true, and_self, and_false, false_and, true_and, and_true, not_true_eq_false, not_false_eq_true, ↓reduceIte, if_true, if_false, Nat.reduceAdd, ite_self, Bool.false_eq_true]
    exact h7
  · simp (disch := omega) only [a11, a01, ↓li_m, ↓oc_some, ↓oc_ite, ↓oc_oc, ↓oc_pl, ↓oc_none, ↓oc_oe, ↓pl_eq, ↓oe_i, ↓oe_j, va_up_self, va_up_ne, va_up_up, upd_s, upd_n, updL_s, updL_n, nI_add, nI_1, nI_ltI, nI_leI, nI_eq, nI_clamp, li_n, m1_lt, m1_le, m1_gt, m1_ge, m1_ne, m1_en, m1_ad, nle_F, nle_T, nlt_F, nlt_T, neq_F, neq_T, or_self, or_false, false_or, true_or, or_true, and_self, and_false, false_and, true_and, and_true, not_true_eq_false, not_false_eq_true, ↓reduceIte, if_true, if_false, Nat.reduceAdd, ite_self, Bool.false_eq_true]
    exact h8
  · simp (disch := omega) only [a11, a01, ↓li_m, ↓oc_some, ↓oc_ite, ↓oc_oc, ↓oc_pl, ↓oc_none, ↓oc_oe, ↓pl_eq, ↓oe_i, ↓oe_j, va_up_self, va_up_ne, va_up_up, upd_s, upd_n, updL_s, updL_n, nI_add, nI_1, nI_ltI, nI_leI, nI_eq, nI_clamp, li_n, m1_lt, m1_le, m1_gt, m1_ge, m1_ne, m1_en, m1_ad, nle_F, nle_T, nlt_F, nlt_T, neq_F, neq_T, or_self, or_false, false_or, true_or, or_true, and_self, and_false, false_and, true_and, and_true, not_true_eq_false, not_false_eq_true, ↓reduceIte, if_true, if_false, Nat.reduceAdd, ite_self, Bool.false_eq_true]
    exact h9
  · simp (disch := omega) only [a11, a01, ↓li_m, ↓oc_some, ↓oc_ite, ↓oc_oc, ↓oc_pl, ↓oc_none, ↓oc_oe, ↓pl_eq, ↓oe_i, ↓oe_j, va_up_self, va_up_ne, va_up_up, upd_s, upd_n, updL_s, updL_n, nI_add, nI_1, nI_ltI, nI_leI, nI_eq, nI_clamp, li_n, m1_lt, m1_le, m1_gt, m1_ge, m1_ne, m1_en, m1_ad, nle_F, nle_T, nlt_F, nlt_T, neq_F, neq_T, or_self, or_false, false_or, true_or, or_true, and_self, and_false, false_and, true_and, and_true, not_true_eq_false, not_false_eq_true, ↓reduceIte, if_true, if_false, Nat.reduceAdd, ite_self, Bool.false_eq_true]
    exact h10
  · simp (disch := omega) only [a11, a01, ↓li_m, ↓oc_some, ↓oc_ite, ↓oc_oc, ↓oc_pl, ↓oc_none, ↓oc_oe, ↓pl_eq, ↓oe_i, ↓oe_j, va_up_self, va_up_ne, va_up_up, upd_s, upd_n, updL_s, updL_n, nI_add, nI_1, nI_ltI, nI_leI, nI_eq, nI_clamp, li_n, m1_lt, m1_le, m1_gt, m1_ge, m1_ne, m1_en, m1_ad, nle_F, nle_T, nlt_F, nlt_T, neq_F, neq_T, or_self, or_false, false_or, true_or, or_true, and_self, and_false, false_and, true_and, and_true, not_true_eq_false, not_false_eq_true, ↓reduceIte, if_true, if_false, Nat.reduceAdd, ite_self, Bool.false_eq_true]
    exact h11
  · simp (disch := omega) only [a11, a01, ↓li_m, ↓oc_some, ↓oc_ite, ↓oc_oc, ↓oc_pl, ↓oc_none, ↓oc_oe, ↓pl_eq, ↓oe_i, ↓oe_j, va_up_self, va_up_ne, va_up_up, upd_s, upd_n, updL_s, updL_n, nI_add, nI_1, nI_ltI, nI_leI, nI_eq, nI_clamp, li_n, m1_lt, m1_le, m1_gt, m1_ge, m1_ne, m1_en, m1_ad, nle_F, nle_T, nlt_F, nlt_T, neq_F, neq_T, or_self, or_false, false_or, true_or, or_true, and_self, and_false, false_and, true_and, and_true, not_true_eq_false, not_false_eq_true, ↓reduceIte, if_true, if_false, Nat.reduceAdd, ite_self, Bool.false_eq_true]
    exact h12
  · simp (disch := omega) only [a11, a01, ↓li_m, ↓oc_some, ↓oc_ite, ↓oc_oc, ↓oc_pl, ↓oc_none, ↓oc_oe, ↓pl_eq, ↓oe_i, ↓oe_j, va_up_self, va_up_ne, va_up_up, upd_s, upd_n, updL_s, updL_n, nI_add, nI_1, nI_ltI, nI_leI, nI_eq, nI_clamp, li_n, m1_lt, m1_le, m1_gt, m1_ge, m1_ne, m1_en, m1_ad, nle_F, nle_T, nlt_F, nlt_T, neq_F, neq_T, or_self, or_false, false_or, true_or, or_true, and_self, and_false, false_and, true_and, and_true, not_true_eq_false, not_false_eq_true, ↓reduceIte, if_true, if_false, Nat.reduceAdd, ite_self, Bool.false_eq_true]
    exact h13
  · simp (disch := omega) only [a11, a01, ↓li_m, ↓oc_some, ↓oc_ite, ↓oc_oc, ↓oc_pl, ↓oc_none, ↓oc_oe, ↓pl_eq, ↓oe_i, ↓oe_j, va_up_self, va_up_ne, va_up_up, upd_s, upd_n, updL_s, updL_n, nI_add, nI_1, nI_ltI, nI_leI, nI_eq, nI_clamp, li_n, m1_lt, m1_le, m1_gt, m1_ge, m1_ne, m1_en, m1_ad, nle_F, nle_T, nlt_F, nlt_T, neq_F, neq_T, or_self, or_false, false_or, true_or, or_true, and_self, and_false, false_and, true_and, and_true, not_true_eq_false, not_false_eq_true, ↓reduceIte, if_true, if_false, Nat.reduceAdd, ite_self, Bool.false_eq_true]
    exact h14
  · simp (disch := omega) only [a11, a01, ↓li_m, ↓oc_some, ↓oc_ite, ↓oc_oc, ↓oc_pl, ↓oc_none, ↓oc_oe, ↓pl_eq, ↓oe_i, ↓oe_j, va_up_self, va_up_ne, va_up_up, upd_s, upd_n, updL_s, updL_n, nI_add, nI_1, nI_ltI, nI_leI, nI_eq, nI_clamp, li_n, m1_lt, m1_le, m1_gt, m1_ge, m1_ne, m1_en, m1_ad, nle_F, nle_T, nlt_F, nlt_T, neq_F, neq_T, or_self, or_false, false_or, true_or, or_true, and_self, and_false, false_and, true_and, and_true, not_true_eq_false, not_false_eq_true, ↓reduceIte, if_true, if_false, Nat.reduceAdd, ite_self, Bool.false_eq_true]
    exact h15
  · intro j hj
    rw [va_up_self]
    by_cases e : j = i
    · subst e
      rw [upd_s, apn_s]
    · rw [upd_n _ _ e, apn_n _ _ e]
      exact h16 j hj
theorem FLM {i r : Nat} {x y : Int32} (h : MA n t P I q m D U k p g2 g3 g4 g5 c cm) (hx : x = nI i) (hy : y = nI r) (hi : i + 1 < m) (hr : r ≤ 2000) : ∃ I1, (∀ {α : Type} {F : Unit → MI → MJ → Option α}, oc (f_Model_fill x y I J) F = F () I1 J) ∧ MA n t P I1 q m D U k p g2 g3 g4 g5 c (fil cm i r) := by
  subst hx
  subst hy
  have hm : m ≤ 2000 := h.2.2.2.2.2.2.2.2.2.2.2.2.1
  have a := CGM (i := i) (b := r / 256) h (by omega)
  have b := CGM (i := i + 1) (b := r % 256) a hi
  refine ⟨_, ?_, b⟩
  intro α F
  unfold f_Model_fill
  rw [rs8 hr, ra8 hr]
  simp (disch := omega) only [a11, a01, ↓li_m, ↓oc_some, ↓oc_ite, ↓oc_oc, ↓oc_pl, ↓oc_none, ↓oc_oe, ↓pl_eq, ↓oe_i, ↓oe_j, va_up_self, va_up_ne, va_up_up, upd_s, upd_n, updL_s, updL_n, nI_add, nI_1, nI_ltI, nI_leI, nI_eq, nI_clamp, li_n, m1_lt, m1_le, m1_gt, m1_ge, m1_ne, m1_en, m1_ad, nle_F, nle_T, nlt_F, nlt_T, neq_F, neq_T, or_self, or_false, false_or, true_or, or_true, and_self, and_false, false_and, true_and, and_true, not_true_eq_false, not_false_eq_true, ↓reduceIte, if_true, if_false, Nat.reduceAdd, ite_self, Bool.false_eq_true]
/-- a call is laid -/
theorem CODE_call {d : Nat} (H : CODE P cc cm m 0 f8 g3 g4 c) (hd : d < 10) : CODE P (apn (apn (apn cc m 28) (m + 1) 0) (m + 2) d) (apn (apn (apn cm m 28) (m + 1) 0) (m + 2) 0) (m + 3) 0 f8 (upd g3 c (nI d)) (upd g4 c (nI (m + 1))) (c + 1) := by
  obtain ⟨st, hg, ⟨a1, a2, a3, a4, a5, a6⟩, b, dd, f, g, r⟩ := H
  have e1 : ∀ j, j < m → apn (apn (apn cc m 28) (m + 1) 0) (m + 2) d j = cc j := fun j hj => by rw [apn_n _ _ (by omega), apn_n _ _ (by omega), apn_n _ _ (by omega)]
  have e2 : ∀ j, j < m → apn (apn (apn cm m 28) (m + 1) 0) (m + 2) 0 j = cm j := fun j hj => by rw [apn_n _ _ (by omega), apn_n _ _ (by omega), apn_n _ _ (by omega)]
  have x0 : apn (apn (apn cc m 28) (m + 1) 0) (m + 2) d m = 28 := by rw [apn_n _ _ (by omega), apn_n _ _ (by omega), apn_s]
  have x1 : apn (apn (apn cc m 28) (m + 1) 0) (m + 2) d (m + 1) = 0 := by rw [apn_n _ _ (by omega), apn_s]
  have x2 : apn (apn (apn cc m 28) (m + 1) 0) (m + 2) d (m + 2) = d := apn_s _ _ _
  have y0 : apn (apn (apn cm m 28) (m + 1) 0) (m + 2) 0 m = 28 := by rw [apn_n _ _ (by omega), apn_n _ _ (by omega), apn_s]
  have y1 : apn (apn (apn cm m 28) (m + 1) 0) (m + 2) 0 (m + 1) = 0 := by rw [apn_n _ _ (by omega), apn_s]
  have y2 : apn (apn (apn cm m 28) (m + 1) 0) (m + 2) 0 (m + 2) = 0 := apn_s _ _ _
  generalize apn (apn (apn cc m 28) (m + 1) 0) (m + 2) d = cc' at e1 x0 x1 x2 ⊢
  generalize apn (apn (apn cm m 28) (m + 1) 0) (m + 2) 0 = cm' at e2 y0 y1 y2 ⊢
  have hlt : ∀ s, st s = true → s < m := fun s hs => CODE_st (P := P) (cc := cc) (hg := hg) a5 hs
  have hne : ∀ s, st s = true → s ≠ m := fun s hs => by have := hlt s hs; omega
  have o28 : opl 28 = 3 := rfl
  refine ⟨fun s => if s = m then true else st s, fun j => if j ≤ m then hg j else 0, ⟨?_, ?_, by omega, ?_, ?_, ?_⟩, ?_, ?_, ?_, ?_, ?_⟩
  · simp only [Nat.zero_le, if_true, a1]
  · simp only
    rw [if_neg (by omega)]
  · intro _
    simp only
    by_cases q : 0 = m
    · rw [if_pos q]
    · rw [if_neg q, a4 (by omega)]
  · intro s hs
    simp only
    rw [if_neg (by omega), a5 s (by omega)]
  · intro j hj
    by_cases q : j < m
    · rw [e1 j q]
      exact a6 j q
    · by_cases q0 : j = m
      · rw [q0, x0]
        omega
      · by_cases q1 : j = m + 1
        · rw [q1, x1]
          omega
        · rw [show j = m + 2 by omega, x2]
          omega
  · intro s hs
    simp only at hs
    by_cases q : s = m
    · subst q
      refine ⟨by omega, by omega, by rw [x0, o28]; omega, ?_, ?_, ?_, ?_, ?_, ?_, ?_, ?_⟩
      · unfold opok opokb
        rw [x0]
        rfl
      · rw [x0]
        exact Nat.zero_le _
      · rw [x0, o28]
        simp only [Nat.le_refl, if_true, a2]
        rw [if_neg (by omega)]
        rfl
      · rw [x0, o28]
        simp only
        rw [if_neg (by omega)]
        omega
      · rw [x0, o28]
        intro c
        omega
      · rw [x0, o28]
        intro i i1 i2
        simp only
        rw [if_neg (by omega), a5 i (by omega)]
      · rw [x0]
        intro _
        simp only [Nat.le_refl, if_true, a2]
      · rw [x0]
        intro hc
        omega
    · rw [if_neg q] at hs
      have hs' := hlt s hs
      obtain ⟨b1, b2, b3, b4, b5, b6, b7, b8, b9, b10, b11⟩ := b s hs
      have ecs : cc' s = cc s := e1 s hs'
      have eag : ∀ j, s ≤ j → j < s + opl (cc s) → cc j = cc' j := fun j _ hj => (e1 j (by omega)).symm
      refine ⟨by rw [ecs]; exact b1, by rw [ecs]; exact b2, by rw [ecs]; omega, ?_, ?_, ?_, ?_, ?_, ?_, ?_, ?_⟩
      · rw [← opok_ext (P := P) b1 eag]
        exact b4
      · rw [ecs]
        simp only
        rw [if_pos (by omega)]
        exact b5
      · rw [ecs]
        simp only
        rw [if_pos (by omega), if_pos (by omega)]
        exact b6
      · rw [ecs]
        simp only
        rw [if_pos (by omega)]
        exact b7
      · rw [ecs]
        intro _
        simp only
        by_cases x : s + opl (cc s) = m
        · rw [if_pos x]
        · rw [if_neg x]
          exact b8 (by omega)
      · rw [ecs]
        intro i i1 i2
        simp only
        rw [if_neg (by omega)]
        exact b9 i i1 i2
      · rw [ecs]
        simp only
        rw [if_pos (by omega)]
        exact b10
      · rw [ecs]
        intro hc
        rw [← tgt_ext (by rcases hc with hc | hc; exact Or.inl hc; exact Or.inr (Or.inl hc)) eag]
        obtain ⟨t1, t2, t3⟩ := b11 hc
        refine ⟨by omega, ?_, fun _ => ?_⟩
        · simp only
          rw [if_pos t1]
          exact t2
        · simp only
          by_cases x : tgt cc s = m
          · rw [if_pos x]
          · rw [if_neg x]
            exact t3 (by omega)
  · intro j hj hno
    by_cases q : j < m
    · rw [e2 j q, e1 j q]
      refine dd j q (fun s hs hc => hno s ?_ ?_)
      · simp only
        rw [if_neg (hne s hs)]
        exact hs
      · rw [e1 s (hlt s hs)]
        exact hc
    · by_cases q0 : j = m
      · rw [q0, x0, y0]
      · by_cases q1 : j = m + 1
        · rw [q1, x1, y1]
        · exact absurd (show j = m + 2 by omega) (hno m (by simp only [if_true]) x0)
  · intro s hs hc
    simp only at hs
    by_cases q : s = m
    · subst q
      rw [x1, x2, y2]
      exact ⟨rfl, rfl, hd, c, by omega, upd_s _ _ _, upd_s _ _ _⟩
    · rw [if_neg q] at hs
      have hs' := hlt s hs
      rw [e1 s hs'] at hc
      have b3 := (b s hs).2.2.1
      rw [hc, o28] at b3
      rw [e1 (s + 1) (by omega), e1 (s + 2) (by omega), e2 (s + 2) (by omega)]
      obtain ⟨f1, f2, f3, i, f4, f5, f6⟩ := f s hs hc
      exact ⟨f1, f2, f3, i, by omega, by rw [upd_n _ _ (by omega)]; exact f5, by rw [upd_n _ _ (by omega)]; exact f6⟩
  · intro i hi
    by_cases q : i = c
    · subst q
      refine ⟨m, by simp only [if_true], x0, upd_s _ _ _, ?_⟩
      rw [x2]
      exact upd_s _ _ _
    · obtain ⟨s, s1, s2, s3, s4⟩ := g i (by omega)
      have hs' := hlt s s1
      have b3 := (b s s1).2.2.1
      rw [s2, o28] at b3
      refine ⟨s, ?_, ?_, ?_, ?_⟩
      · simp only
        rw [if_neg (hne s s1)]
        exact s1
      · rw [e1 s hs']
        exact s2
      · rw [upd_n _ _ q]
        exact s3
      · rw [e1 (s + 2) (by omega), upd_n _ _ q]
        exact s4
  · intro x hx
    rcases r x hx with r1 | ⟨y, r1, r2, r3, r4⟩
    · exact Or.inl r1
    · refine Or.inr ⟨y, r1, by omega, ?_, fun _ => ?_⟩
      · simp only
        rw [if_pos r2]
        exact r3
      · simp only
        by_cases q : y = m
        · rw [if_pos q]
        · rw [if_neg q]
          exact r4 (by omega)
/-- a routine is told here -/
theorem CODE_told {d : Nat} (H : CODE P cc cm m 0 f8 g3 g4 c) : CODE P cc cm m 0 (upd f8 d (nI m)) g3 g4 c := by
  obtain ⟨st, hg, ⟨a1, a2, a3, a4, a5, a6⟩, b, dd, f, g, r⟩ := H
  refine ⟨st, hg, ⟨a1, a2, a3, a4, a5, a6⟩, b, dd, f, g, ?_⟩
  intro x hx
  by_cases e : x = d
  · subst e
    exact Or.inr ⟨m, upd_s _ _ _, Nat.le_refl _, a2, fun h => absurd h (Nat.lt_irrefl _)⟩
  · rw [upd_n _ _ e]
    exact r x hx
theorem TB_told {d r : Nat} (hr : r ≤ 2000) (h : TB f8 f9 g2 g3 g5 c q) : TB (upd f8 d (nI r)) f9 (upd g2 d (nI r)) g3 g5 c q := by
  obtain ⟨h1, h2, h3, h4⟩ := h
  refine ⟨fun x hx => ?_, h2, h3, h4⟩
  by_cases e : x = d
  · subst e
    rw [upd_s, upd_s]
    exact ⟨rfl, Or.inr ⟨r, rfl, hr⟩⟩
  · rw [upd_n _ _ e, upd_n _ _ e]
    exact h1 x hx
theorem TB_call {d a q' : Nat} (hd : d < 10) (ha : q ≤ a) (hq : a + 3 ≤ q') (hq' : q' ≤ 400) (h : TB f8 f9 g2 g3 g5 c q) : TB f8 (if f9 d = m1 then upd f9 d (nI a) else f9) g2 (upd g3 c (nI d)) (upd g5 c (nI a)) (c + 1) q' := by
  obtain ⟨h1, h2, h3, h4⟩ := h
  refine ⟨h1, by omega, fun i hi => ?_, fun x hx => ?_⟩
  · by_cases e : i = c
    · subst e
      exact ⟨d, a, hd, by omega, upd_s _ _ _, upd_s _ _ _⟩
    · obtain ⟨y, z, z1, z2, z3, z4⟩ := h3 i (by omega)
      exact ⟨y, z, z1, by omega, by rw [upd_n _ _ e]; exact z3, by rw [upd_n _ _ e]; exact z4⟩
  · have ne : ∀ {x y : Nat}, x < 10 → y < 10 → x ≠ y → ¬ nI x = nI y := fun h1 h2 h3 e => h3 ((nI_eq (by omega) (by omega)).mp e)
    by_cases ex : x = d
    · subst ex
      right
      rcases h4 x hx with ⟨y1, y2⟩ | ⟨y, y1, y2, ⟨i, y3, y4, y5⟩, y6⟩
      · refine ⟨a, by omega, by rw [if_pos y1, upd_s], ⟨c, by omega, upd_s _ _ _, upd_s _ _ _⟩, fun i y hi hy e1 e2 => ?_⟩
        by_cases e : i = c
        · subst e
          rw [upd_s] at e2
          have := (nI_eq (by omega) hy).mp e2
          omega
        · rw [upd_n _ _ e] at e1
          exact absurd e1 (y2 i (by omega))
      · have hn : ¬ f9 x = m1 := fun e => by
          rw [y2] at e
          rw [m1_en (by omega)] at e
          exact e
        refine ⟨y, by omega, by rw [if_neg hn]; exact y2, ⟨i, by omega, by rw [upd_n _ _ (by omega)]; exact y4, by rw [upd_n _ _ (by omega)]; exact y5⟩, fun i' z hi hz e1 e2 => ?_⟩
        by_cases e : i' = c
        · subst e
          rw [upd_s] at e2
          have := (nI_eq (by omega) hz).mp e2
          omega
        · rw [upd_n _ _ e] at e1 e2
          exact y6 i' z (by omega) hz e1 e2
    · have hf : (if f9 d = m1 then upd f9 d (nI a) else f9) x = f9 x := by
        by_cases e : f9 d = m1
        · rw [if_pos e, upd_n _ _ ex]
        · rw [if_neg e]
      rw [hf]
      rcases h4 x hx with ⟨y1, y2⟩ | ⟨y, y1, y2, ⟨i, y3, y4, y5⟩, y6⟩
      · refine Or.inl ⟨y1, fun i hi => ?_⟩
        by_cases e : i = c
        · subst e
          rw [upd_s]
          exact ne hd hx (Ne.symm ex)
        · rw [upd_n _ _ e]
          exact y2 i (by omega)
      · refine Or.inr ⟨y, by omega, y2, ⟨i, by omega, by rw [upd_n _ _ (by omega)]; exact y4, by rw [upd_n _ _ (by omega)]; exact y5⟩, fun i' z hi hz e1 e2 => ?_⟩
        by_cases e : i' = c
        · subst e
          rw [upd_s] at e1
          exact absurd e1 (ne hd hx (Ne.symm ex))
        · rw [upd_n _ _ e] at e1 e2
          exact y6 i' z (by omega) hz e1 e2
/-- the clear variable that decides -/
theorem DEC (ht : tpOK n t) (hA : CA n t P I q m D U k p f8 f9 cc) : (isV n t (spq n t q) ∧ ∃ I1, (∀ {α : Type} {F : Int32 → MI → MJ → Option α}, oc (f_Translator_decider I J) F = F (nI (t (spq n t q) - 97)) I1 J) ∧ CA n t P I1 (spq n t q + 1) m D U (if t (spq n t q) < 110 then k else ntk k p 2 (spq n t q)) (if t (spq n t q) < 110 then p else ntp k p 2 (spq n t q)) f8 f9 cc) ∨ (¬ isV n t (spq n t q) ∧ ∃ I1, (∀ {α : Type} {F : Int32 → MI → MJ → Option α}, oc (f_Translator_decider I J) F = F (nI 0) I1 J) ∧ SS n t (nI (spq n t q)) I1) := by
  have hn := ht.1
  obtain ⟨I1, a1, a2, a3, a4, a5⟩ := LC (J := J) ht hA
  have vC := VARC (J := J) ht a2
  rw [spq_id a3] at vC
  generalize spq n t q = s at a1 a2 a3 a4 a5 vC ⊢
  have p5 : I1 3 5 = nI s := a2.2.2.1
  rcases vC with ⟨w, I3, e1, e2⟩ | ⟨w, I3, e1, e2⟩
  · have w1 := w.1
    have w2 := w.2
    refine Or.inl ⟨w, ?_⟩
    by_cases z : t s < 110
    · rw [if_pos z, if_pos z]
      refine ⟨I3, ?_, e2⟩
      intro α F
      unfold f_Translator_decider
      simp (disch := omega) only [a11, a01, ↓li_m, ↓oc_some, ↓oc_ite, ↓oc_oc, ↓oc_pl, ↓oc_none, ↓oc_oe, ↓pl_eq, ↓oe_i, ↓oe_j, va_up_self, va_up_ne, va_up_up, upd_s, upd_n, updL_s, updL_n, nI_add, nI_1, nI_ltI, nI_leI, nI_eq, nI_clamp, li_n, m1_lt, m1_le, m1_gt, m1_ge, m1_ne, m1_en, m1_ad, nle_F, nle_T, nlt_F, nlt_T, neq_F, neq_T, or_self, or_false, false_or, true_or, or_true, and_self, and_false, false_and, true_and, and_true, not_true_eq_false, not_false_eq_true, ↓reduceIte, if_true, if_false, Nat.reduceAdd, ite_self, Bool.false_eq_true, ↓a1, ↓p5, ↓e1, ↓U_Translator_wantClear]
    · rw [if_neg z, if_neg z]
      obtain ⟨B1, o1, o2⟩ := BC (J := J) (a := 2) (x := s) e2 (by omega) (by omega)
      refine ⟨B1, ?_, o2⟩
      intro α F
      unfold f_Translator_decider
      simp (disch := omega) only [a11, a01, ↓li_m, ↓oc_some, ↓oc_ite, ↓oc_oc, ↓oc_pl, ↓oc_none, ↓oc_oe, ↓pl_eq, ↓oe_i, ↓oe_j, va_up_self, va_up_ne, va_up_up, upd_s, upd_n, updL_s, updL_n, nI_add, nI_1, nI_ltI, nI_leI, nI_eq, nI_clamp, li_n, m1_lt, m1_le, m1_gt, m1_ge, m1_ne, m1_en, m1_ad, nle_F, nle_T, nlt_F, nlt_T, neq_F, neq_T, or_self, or_false, false_or, true_or, or_true, and_self, and_false, false_and, true_and, and_true, not_true_eq_false, not_false_eq_true, ↓reduceIte, if_true, if_false, Nat.reduceAdd, ite_self, Bool.false_eq_true, ↓a1, ↓p5, ↓e1, ↓U_Translator_wantClear, ↓o1]
  · refine Or.inr ⟨w, I3, ?_, e2⟩
    have ew := fun {b : Int32} => Y_wC (J := J) (a := nI 0) (b := b) e2
    intro α F
    unfold f_Translator_decider
    simp (disch := omega) only [a11, a01, ↓li_m, ↓oc_some, ↓oc_ite, ↓oc_oc, ↓oc_pl, ↓oc_none, ↓oc_oe, ↓pl_eq, ↓oe_i, ↓oe_j, va_up_self, va_up_ne, va_up_up, upd_s, upd_n, updL_s, updL_n, nI_add, nI_1, nI_ltI, nI_leI, nI_eq, nI_clamp, li_n, m1_lt, m1_le, m1_gt, m1_ge, m1_ne, m1_en, m1_ad, nle_F, nle_T, nlt_F, nlt_T, neq_F, neq_T, or_self, or_false, false_or, true_or, or_true, and_self, and_false, false_and, true_and, and_true, not_true_eq_false, not_false_eq_true, ↓reduceIte, if_true, if_false, Nat.reduceAdd, ite_self, Bool.false_eq_true, ↓a1, ↓p5, ↓e1, ↓ew]
end CM
