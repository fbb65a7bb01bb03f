/-! compile: routines that are done and never told -/
def Fin2 (S : Nat → Prop) (k p k' p' : Nat) : Prop := (k' = k ∧ p' = p ∧ ∀ x, S x → k ≠ 0 ∧ p ≤ x) ∨ (k' = 5 ∧ S p' ∧ (∀ x, S x → p' ≤ x) ∧ (k = 0 ∨ p' < p))
theorem Fin2_un {S S' : Nat → Prop} {k p k1 p1 k2 p2 : Nat} (h1 : Fin2 S k p k1 p1) (h2 : Fin2 S' k p k2 p2) (a : ∀ x, S x → S' x) (b : ∀ x, S' x → ∃ y, S y ∧ y ≤ x) : k1 = k2 ∧ p1 = p2 := by
  rcases h1 with ⟨rfl, rfl, h1⟩ | ⟨rfl, h11, h12, h13⟩
  · rcases h2 with ⟨rfl, rfl, h2⟩ | ⟨rfl, h21, h22, h23⟩
    · exact ⟨rfl, rfl⟩
    · obtain ⟨y, y1, y2⟩ := b p2 h21
      have := h1 y y1
      omega
  · rcases h2 with ⟨rfl, rfl, h2⟩ | ⟨rfl, h21, h22, h23⟩
    · have := h2 p1 (a p1 h11)
      omega
    · obtain ⟨y, y1, y2⟩ := b p2 h21
      have z1 := h12 y y1
      have z2 := h22 p1 (a p1 h11)
      exact ⟨rfl, by omega⟩
theorem Fin2_0 {k p : Nat} {S : Nat → Prop} (h : ∀ x, ¬ S x) : Fin2 S k p k p := Or.inl ⟨rfl, rfl, fun x hx => absurd hx (h x)⟩
theorem Fin2_ext {S S' : Nat → Prop} {k p k' p' : Nat} (h : Fin2 S k p k' p') (e : ∀ x, S x ↔ S' x) : Fin2 S' k p k' p' := by
  rcases h with ⟨h1, h2, h3⟩ | ⟨h1, h2, h3, h4⟩
  · exact Or.inl ⟨h1, h2, fun x hx => h3 x ((e x).mpr hx)⟩
  · exact Or.inr ⟨h1, (e _).mp h2, fun x hx => h3 x ((e x).mpr hx), h4⟩
theorem Fin2_s {S : Nat → Prop} {k p k' p' x : Nat} (hk : k ≤ 5) (h : Fin2 S (ntk k p 5 x) (ntp k p 5 x) k' p') : Fin2 (fun y => S y ∨ y = x) k p k' p' := by
  unfold ntk ntp at h
  by_cases c : k = 0 ∨ x < p ∨ (x = p ∧ 5 < k)
  · rw [if_pos c, if_pos c] at h
    rcases h with ⟨h1, h2, h3⟩ | ⟨h1, h2, h3, h4⟩
    · refine Or.inr ⟨h1, Or.inr h2, fun y hy => ?_, by omega⟩
      rcases hy with hy | hy
      · rw [h2]
        exact (h3 y hy).2
      · omega
    · refine Or.inr ⟨h1, Or.inl h2, fun y hy => ?_, by omega⟩
      rcases hy with hy | hy
      · exact h3 y hy
      · omega
  · rw [if_neg c, if_neg c] at h
    rcases h with ⟨h1, h2, h3⟩ | ⟨h1, h2, h3, h4⟩
    · refine Or.inl ⟨h1, h2, fun y hy => ?_⟩
      rcases hy with hy | hy
      · exact h3 y hy
      · omega
    · refine Or.inr ⟨h1, Or.inl h2, fun y hy => ?_, h4⟩
      rcases hy with hy | hy
      · exact h3 y hy
      · omega
section CM
variable {n P m D U k p c q : Nat} {t : Nat → Nat} {I I' : MI} {J J' : MJ} {f8 f9 g2 g3 g4 g5 : Nat → Int32} {cc cm : Nat → Nat}
def SC (f8 f9 : Nat → Int32) (d : Nat) (x : Nat) : Prop := ∃ e, d ≤ e ∧ e < 10 ∧ f9 e = nI x ∧ x < 2 ^ 31 ∧ f8 e = m1
theorem F22 (hf9 : ∀ d, d < 10 → f9 d = m1 ∨ ∃ x, x ≤ 400 ∧ f9 d = nI x) : ∀ (e fu d k p : Nat) (I : MI), d + e = 10 → e < fu → CA n t P I q m D U k p f8 f9 cc → ∃ I1 k' p', f_Translator_finish_22 fu (nI d) I J = some ((), I1, J) ∧ CA n t P I1 q m D U k' p' f8 f9 cc ∧ Fin2 (SC f8 f9 d) k p k' p' := by
  intro e
  induction e with
  | zero =>
    intro fu d k p I h1 h2 hA
    obtain ⟨g, rfl⟩ : ∃ g, fu = g + 1 := ⟨fu - 1, by omega⟩
    refine ⟨I, k, p, ?_, hA, Fin2_0 (fun x hx => ?_)⟩
    · show (if nI 10 ≤ nI d then _ else _) = _
      rw [if_pos (nI_le (by omega) (by omega))]
    · obtain ⟨e, e1, e2, _⟩ := hx
      omega
  | succ e ih =>
    intro fu d k p I h1 h2 hA
    obtain ⟨g, rfl⟩ : ∃ g, fu = g + 1 := ⟨fu - 1, by omega⟩
    have w8 : I 8 = f8 := hA.2.2.2.2.2.2.2.2.2.1
    have w9 : I 9 = f9 := hA.2.2.2.2.2.2.2.2.2.2.1
    have hk : k ≤ 5 := hA.2.2.2.2.2.2.2.2.2.2.2.2.2.2.2.2.1
    have hs : f_Translator_finish_22 (g + 1) (nI d) I J = if f9 d = m1 then f_Translator_finish_22 g (nI (d + 1)) I J else if ¬ f8 d = m1 then f_Translator_finish_22 g (nI (d + 1)) I J else oc (f_Translator_blame 5 (f9 d) I J) (fun v14 I14 J14 => f_Translator_finish_22 g (nI (d + 1)) I14 J14) := by
      rw [f_Translator_finish_22]
      rw [if_neg (nI_ge (by omega) (by omega)), if_neg (nI_ge (by omega) (by omega)), if_neg (nI_in (by omega) (by omega)), if_neg (nI_in (by omega) (by omega)), if_neg (nI_in (by omega) (by omega)), nI_clamp (by omega), w8, w9, nI_1]
      rfl
    rw [hs]
    by_cases c1 : f9 d = m1
    · rw [if_pos c1]
      obtain ⟨I1, k', p', r1, r2, r3⟩ := ih g (d + 1) k p I (by omega) (by omega) hA
      refine ⟨I1, k', p', r1, r2, Fin2_ext r3 (fun x => ⟨fun ⟨e, e1, e2, e3⟩ => ⟨e, by omega, e2, e3⟩, fun ⟨e, e1, e2, e3, e4, e5⟩ => ?_⟩)⟩
      by_cases w : e = d
      · subst w
        rw [c1, m1_ne e4] at e3
        exact e3.elim
      · exact ⟨e, by omega, e2, e3, e4, e5⟩
    · rw [if_neg c1]
      by_cases c2 : f8 d = m1
      · rw [if_neg (fun w => w c2)]
        obtain ⟨x, x1, x2⟩ := (hf9 d (by omega)).resolve_left c1
        obtain ⟨B1, o1, o2⟩ := BC (J := J) (a := 5) (x := x) hA (by omega) x1
        obtain ⟨I1, k', p', r1, r2, r3⟩ := ih g (d + 1) _ _ B1 (by omega) (by omega) o2
        refine ⟨I1, k', p', ?_, r2, Fin2_ext (Fin2_s hk r3) (fun y => ⟨fun hy => ?_, fun ⟨e, e1, e2, e3, e4, e5⟩ => ?_⟩)⟩
        · rw [x2]
          exact (o1 (F := fun v14 I14 J14 => f_Translator_finish_22 g (nI (d + 1)) I14 J14)).trans r1
        · rcases hy with ⟨e, e1, e2, e3⟩ | rfl
          · exact ⟨e, by omega, e2, e3⟩
          · exact ⟨d, Nat.le_refl _, by omega, x2, by omega, c2⟩
        · by_cases w : e = d
          · subst w
            rw [x2] at e3
            exact Or.inr ((nI_eq (by omega) e4).mp e3).symm
          · exact Or.inl ⟨e, by omega, e2, e3, e4, e5⟩
      · rw [if_pos c2]
        obtain ⟨I1, k', p', r1, r2, r3⟩ := ih g (d + 1) k p I (by omega) (by omega) hA
        refine ⟨I1, k', p', r1, r2, Fin2_ext r3 (fun x => ⟨fun ⟨e, e1, e2, e3⟩ => ⟨e, by omega, e2, e3⟩, fun ⟨e, e1, e2, e3, e4, e5⟩ => ?_⟩)⟩
        by_cases w : e = d
        · subst w
          exact absurd e5 c2
        · exact ⟨e, by omega, e2, e3, e4, e5⟩
theorem FLM' {i r : Nat} {x y : Int32} (h : MA n t P I q m D U k p g2 g3 g4 g5 c cm) (hx : x = nI i) (hy : y = nI r) (hi : i + 1 < 6000) (hr : r ≤ 2000) : ∃ I1, (∀ {α : Type} {F : Unit → MI → MJ → Option α}, oc (f_Model_fill x y I J) F = F () I1 J) ∧ MA n t P I1 q m D U k p g2 g3 g4 g5 c (fil cm i r) := by
  subst hx
  subst hy
  have cg : ∀ {I : MI} {cm : Nat → Nat} {i b : Nat}, MA n t P I q m D U k p g2 g3 g4 g5 c cm → MA n t P (va_up I 115 (upd (I 115) i (nI b))) q m D U k p g2 g3 g4 g5 c (apn cm i b) := by
    intro I cm i b h
    obtain ⟨⟨h1, h2⟩, h3, h4, h5, h6, h7, h8, h9, h10, ⟨h11, h12, h13, h14, h15⟩, h16, h17⟩ := h
    refine ⟨⟨?_, ?_⟩, ?_, ?_, ?_, ?_, ?_, ?_, ?_, ?_, ⟨?_, ?_, ?_, ?_, ?_⟩, ?_, h17⟩
    · simp (disch := omega) only [a11, a01, ↓li_m, ↓oc_some, ↓oc_ite, ↓oc_oc, ↓oc_pl, ↓oc_none, ↓oc_oe, ↓pl_eq, ↓oe_i, ↓oe_j, va_up_self, va_up_ne, va_up_up, upd_s, upd_n, updL_s, updL_n, nI_add, nI_1, nI_ltI, nI_leI, nI_eq, nI_clamp, li_n, m1_lt, m1_le, m1_gt, m1_ge, m1_ne, m1_en, m1_ad, nle_F, nle_T, nlt_F, nlt_T, neq_F, neq_T, or_self, or_false, false_or, true_or, or_true, and_self, and_false, false_and, true_and, and_true, not_true_eq_false, not_false_eq_true, ↓reduceIte, if_true, if_false, Nat.reduceAdd, ite_self, Bool.false_eq_true]
      exact h1
    · intro j hj
      simp (disch := omega) only [a11, a01, ↓li_m, ↓oc_some, ↓oc_ite, ↓oc_oc, ↓oc_pl, ↓oc_none, ↓oc_oe, ↓pl_eq, ↓oe_i, ↓oe_j, va_up_self, va_up_ne, va_up_up, upd_s, upd_n, updL_s, updL_n, nI_add, nI_1, nI_ltI, nI_leI, nI_eq, nI_clamp, li_n, m1_lt, m1_le, m1_gt, m1_ge, m1_ne, m1_en, m1_ad, nle_F, nle_T, nlt_F, nlt_T, neq_F, neq_T, or_self, or_false, false_or, true_or, or_true, and_self, and_false, false_and, true_and, and_true, not_true_eq_false, not_false_eq_true, ↓reduceIte, if_true, if_false, Nat.reduceAdd, ite_self, Bool.false_eq_true]
      exact h2 j hj
    · simp (disch := omega) only [a11, a01, ↓li_m, ↓oc_some, ↓oc_ite, ↓oc_oc, ↓oc_pl, ↓oc_none, ↓oc_oe, ↓pl_eq, ↓oe_i, ↓oe_j, va_up_self, va_up_ne, va_up_up, upd_s, upd_n, updL_s, updL_n, nI_add, nI_1, nI_ltI, nI_leI, nI_eq, nI_clamp, li_n, m1_lt, m1_le, m1_gt, m1_ge, m1_ne, m1_en, m1_ad, nle_F, nle_T, nlt_F, nlt_T, neq_F, neq_T, or_self, or_false, false_or, true_or, or_true, and_self, and_false, false_and, true_and, and_true, not_true_eq_false, not_false_eq_true, ↓reduceIte, if_true, if_false, Nat.reduceAdd, ite_self, Bool.false_eq_true]
      exact h3
    · simp (disch := omega) only [a11, a01, ↓li_m, ↓oc_some, ↓oc_ite, ↓oc_oc, ↓oc_pl, ↓oc_none, ↓oc_oe, ↓pl_eq, ↓oe_i, ↓oe_j, va_up_self, va_up_ne, va_up_up, upd_s, upd_n, updL_s, updL_n, nI_add, nI_1, nI_ltI, nI_leI, nI_eq, nI_clamp, li_n, m1_lt, m1_le, m1_gt, m1_ge, m1_ne, m1_en, m1_ad, nle_F, nle_T, nlt_F, nlt_T, neq_F, neq_T, or_self, or_false, false_or, true_or, or_true, and_self, and_false, false_and, true_and, and_true, not_true_eq_false, not_false_eq_true, ↓reduceIte, if_true, if_false, Nat.reduceAdd, ite_self, Bool.false_eq_true]
      exact h4
    · simp (disch := omega) only [a11, a01, ↓li_m, ↓oc_some, ↓oc_ite, ↓oc_oc, ↓oc_pl, ↓oc_none, ↓oc_oe, ↓pl_eq, ↓oe_i, ↓oe_j, va_up_self, va_up_ne, va_up_up, upd_s, upd_n, updL_s, updL_n, nI_add, nI_1, nI_ltI, nI_leI, nI_eq, nI_clamp, li_n, m1_lt, m1_le, m1_gt, m1_ge, m1_ne, m1_en, m1_ad, nle_F, nle_T, nlt_F, nlt_T, neq_F, neq_T, or_self, or_false, false_or, true_or, or_true, and_self, and_false, false_and, true_and, and_true, not_true_eq_false, not_false_eq_true, ↓reduceIte, if_true, if_false, Nat.reduceAdd, ite_self, Bool.false_eq_true]
      exact h5
    · simp (disch := omega) only [a11, a01, ↓li_m, ↓oc_some, ↓oc_ite, ↓oc_oc, ↓oc_pl, ↓oc_none, ↓oc_oe, ↓pl_eq, ↓oe_i, ↓oe_j, va_up_self, va_up_ne, va_up_up, upd_s, upd_n, updL_s, updL_n, nI_add, nI_1, nI_ltI, nI_leI, nI_eq, nI_clamp, li_n, m1_lt, m1_le, m1_gt, m1_ge, m1_ne, m1_en, m1_ad, nle_F, nle_T, nlt_F, nlt_T, neq_F, neq_T, or_self, or_false, false_or, true_or, or_true, and_self, and_false, false_and, true_and, and_true, not_true_eq_false, not_false_eq_true, ↓reduceIte, if_true, if_false, Nat.reduceAdd, ite_self, Bool.false_eq_true]
      exact h6
    · simp (disch := omega) only [a11, a01, ↓li_m, ↓oc_some, ↓oc_ite, ↓oc_oc, ↓oc_pl, ↓oc_none, ↓oc_oe, ↓pl_eq, ↓oe_i, ↓oe_j, va_up_self, va_up_ne, va_up_up, upd_s, upd_n, updL_s, updL_n, nI_add, nI_1, nI_ltI, nI_leI, nI_eq, nI_clamp, li_n, m1_lt, m1_le, m1_gt, m1_ge, m1_ne, m1_en, m1_ad, nle_F, nle_T, nlt_F, nlt_T, neq_F, neq_T, or_self, or_false, false_or, true_or, or_true, and_self, and_false, false_and, true_and, and_true, not_true_eq_false, not_false_eq_true, ↓reduceIte, if_true, if_false, Nat.reduceAdd, ite_self, Bool.false_eq_true]
      exact h7
    · simp (disch := omega) only [a11, a01, ↓li_m, ↓oc_some, ↓oc_ite, ↓oc_oc, ↓oc_pl, ↓oc_none, ↓oc_oe, ↓pl_eq, ↓oe_i, ↓oe_j, va_up_self, va_up_ne, va_up_up, upd_s, upd_n, updL_s, updL_n, nI_add, nI_1, nI_ltI, nI_leI, nI_eq, nI_clamp, li_n, m1_lt, m1_le, m1_gt, m1_ge, m1_ne, m1_en, m1_ad, nle_F, nle_T, nlt_F, nlt_T, neq_F, neq_T, or_self, or_false, false_or, true_or, or_true, and_self, and_false, false_and, true_and, and_true, not_true_eq_false, not_false_eq_true, ↓reduceIte, if_true, if_false, Nat.reduceAdd, ite_self, Bool.false_eq_true]
      exact h8
    · simp (disch := omega) only [a11, a01, ↓li_m, ↓oc_some, ↓oc_ite, ↓oc_oc, ↓oc_pl, ↓oc_none, ↓oc_oe, ↓pl_eq, ↓oe_i, ↓oe_j, va_up_self, va_up_ne, va_up_up, upd_s, upd_n, updL_s, updL_n, nI_add, nI_1, nI_ltI, nI_leI, nI_eq, nI_clamp, li_n, m1_lt, m1_le, m1_gt, m1_ge, m1_ne, m1_en, m1_ad, nle_F, nle_T, nlt_F, nlt_T, neq_F, neq_T, or_self, or_false, false_or, true_or, or_true, and_self, and_false, false_and, true_and, and_true, not_true_eq_false, not_false_eq_true, ↓reduceIte, if_true, if_false, Nat.reduceAdd, ite_self, Bool.false_eq_true]
      exact h9
    · simp (disch := omega) only [a11, a01, ↓li_m, ↓oc_some, ↓oc_ite, ↓oc_oc, ↓oc_pl, ↓oc_none, ↓oc_oe, ↓pl_eq, ↓oe_i, ↓oe_j, va_up_self, va_up_ne, va_up_up, upd_s, upd_n, updL_s, updL_n, nI_add, nI_1, nI_ltI, nI_leI, nI_eq, nI_clamp, li_n, m1_lt, m1_le, m1_gt, m1_ge, m1_ne, m1_en, m1_ad, nle_F, nle_T, nlt_F, nlt_T, neq_F, neq_T, or_self, or_false, false_or, true_or, or_true, and_self, and_false, false_and, true_and, and_true, not_true_eq_false, not_false_eq_true, ↓reduceIte, if_true, if_false, Nat.reduceAdd, ite_self, Bool.false_eq_true]
      exact h10
    · simp (disch := omega) only [a11, a01, ↓li_m, ↓oc_some, ↓oc_ite, ↓oc_oc, ↓oc_pl, ↓oc_none, ↓oc_oe, ↓pl_eq, ↓oe_i, ↓oe_j, va_up_self, va_up_ne, va_up_up, upd_s, upd_n, updL_s, updL_n, nI_add, nI_1, nI_ltI, nI_leI, nI_eq, nI_clamp, li_n, m1_lt, m1_le, m1_gt, m1_ge, m1_ne, m1_en, m1_ad, nle_F, nle_T, nlt_F, nlt_T, neq_F, neq_T, or_self, or_false, false_or, true_or, or_true, and_self, and_false, false_and, true_and, and_true, not_true_eq_false, not_false_eq_true, ↓reduceIte, if_true, if_false, Nat.reduceAdd, ite_self, Bool.false_eq_true]
      exact h11
    · simp (disch := omega) only [a11, a01, ↓li_m, ↓oc_some, ↓oc_ite, ↓oc_oc, ↓oc_pl, ↓oc_none, ↓oc_oe, ↓pl_eq, ↓oe_i, ↓oe_j, va_up_self, va_up_ne, va_up_up, upd_s, upd_n, updL_s, updL_n, nI_add, nI_1, nI_ltI, nI_leI, nI_eq, nI_clamp, li_n, m1_lt, m1_le, m1_gt, m1_ge, m1_ne, m1_en, m1_ad, nle_F, nle_T, nlt_F, nlt_T, neq_F, neq_T, or_self, or_false, false_or, true_or, or_true, and_self, and_false, false_and, true_and, and_true, not_true_eq_false, not_false_eq_true, ↓reduceIte, if_true, if_false, Nat.reduceAdd, ite_self, Bool.false_eq_true]
      exact h12
    · simp (disch := omega) only [a11, a01, ↓li_m, ↓oc_some, ↓oc_ite, ↓oc_oc, ↓oc_pl, ↓oc_none, ↓oc_oe, ↓pl_eq, ↓oe_i, ↓oe_j, va_up_self, va_up_ne, va_up_up, upd_s, upd_n, updL_s, updL_n, nI_add, nI_1, nI_ltI, nI_leI, nI_eq, nI_clamp, li_n, m1_lt, m1_le, m1_gt, m1_ge, m1_ne, m1_en, m1_ad, nle_F, nle_T, nlt_F, nlt_T, neq_F, neq_T, or_self, or_false, false_or, true_or, or_true, and_self, and_false, false_and, true_and, and_true, not_true_eq_false, not_false_eq_true, ↓reduceIte, if_true, if_false, Nat.reduceAdd, ite_self, Bool.false_eq_true]
      exact h13
    · simp (disch := omega) only [a11, a01, ↓li_m, ↓oc_some, ↓oc_ite, ↓oc_oc, ↓oc_pl, ↓oc_none, ↓oc_oe, ↓pl_eq, ↓oe_i, ↓oe_j, va_up_self, va_up_ne, va_up_up, upd_s, upd_n, updL_s, updL_n, nI_add, nI_1, nI_ltI, nI_leI, nI_eq, nI_clamp, li_n, m1_lt, m1_le, m1_gt, m1_ge, m1_ne, m1_en, m1_ad, nle_F, nle_T, nlt_F, nlt_T, neq_F, neq_T, or_self, or_false, false_or, true_or, or_true, and_self, and_false, false_and, true_and, and_true, not_true_eq_false, not_false_eq_true, ↓reduceIte, if_true, if_false, Nat.reduceAdd, ite_self, Bool.false_eq_true]
      exact h14
    · simp (disch := omega) only [a11, a01, ↓li_m, ↓oc_some, ↓oc_ite, ↓oc_oc, ↓oc_pl, ↓oc_none, ↓oc_oe, ↓pl_eq, ↓oe_i, ↓oe_j, va_up_self, va_up_ne, va_up_up, upd_s, upd_n, updL_s, updL_n, nI_add, nI_1, nI_ltI, nI_leI, nI_eq, nI_clamp, li_n, m1_lt, m1_le, m1_gt, m1_ge, m1_ne, m1_en, m1_ad, nle_F, nle_T, nlt_F, nlt_T, neq_F, neq_T, or_self, or_false, false_or, true_or, or_true, and_self, and_false, false_and, true_and, and_true, not_true_eq_false, not_false_eq_true, ↓reduceIte, if_true, if_false, Nat.reduceAdd, ite_self, Bool.false_eq_true]
      exact h15
    · intro j hj
      rw [va_up_self]
      by_cases e : j = i
      · subst e
        rw [upd_s, apn_s]
      · rw [upd_n _ _ e, apn_n _ _ e]
        exact h16 j hj
  have a := cg (i := i) (b := r / 256) h
  have b := cg (i := i + 1) (b := r % 256) a
  refine ⟨_, ?_, b⟩
  intro α F
  unfold f_Model_fill
  rw [rs8 hr, ra8 hr]
  simp (disch := omega) only [a11, a01, ↓li_m, ↓oc_some, ↓oc_ite, ↓oc_oc, ↓oc_pl, ↓oc_none, ↓oc_oe, ↓pl_eq, ↓oe_i, ↓oe_j, va_up_self, va_up_ne, va_up_up, upd_s, upd_n, updL_s, updL_n, nI_add, nI_1, nI_ltI, nI_leI, nI_eq, nI_clamp, li_n, m1_lt, m1_le, m1_gt, m1_ge, m1_ne, m1_en, m1_ad, nle_F, nle_T, nlt_F, nlt_T, neq_F, neq_T, or_self, or_false, false_or, true_or, or_true, and_self, and_false, false_and, true_and, and_true, not_true_eq_false, not_false_eq_true, ↓reduceIte, if_true, if_false, Nat.reduceAdd, ite_self, Bool.false_eq_true]
def SMM (g2 g3 g5 : Nat → Int32) (c i : Nat) (x : Nat) : Prop := ∃ i', i ≤ i' ∧ i' < c ∧ (∃ d, d < 10 ∧ g3 i' = nI d ∧ g2 d = m1) ∧ g5 i' = nI x ∧ x < 2 ^ 31
theorem PLC {Q : Nat → (Nat → Nat) → Prop} (hg2 : ∀ d, d < 10 → g2 d = m1 ∨ ∃ r, g2 d = nI r ∧ r ≤ 2000) (hg3 : ∀ i, i < c → ∃ d x, d < 10 ∧ x ≤ 400 ∧ g3 i = nI d ∧ g5 i = nI x) (hg4 : ∀ i, i < c → ∃ a, a + 1 < 6000 ∧ g4 i = nI a) (hc : c ≤ 200) (hQ1 : ∀ i cm d r a, i < c → d < 10 → g3 i = nI d → g2 d = nI r → r ≤ 2000 → g4 i = nI a → a + 1 < 6000 → Q i cm → Q (i + 1) (fil cm a r)) (hQ2 : ∀ i cm d, i < c → d < 10 → g3 i = nI d → g2 d = m1 → Q i cm → Q (i + 1) cm) : ∀ (e fu i k p : Nat) (I : MI) (cm : Nat → Nat), i + e = c → e < fu → MA n t P I q m D U k p g2 g3 g4 g5 c cm → Q i cm → ∃ I1 cm' k' p', f_Model_place_2 fu (nI i) I J = some ((), I1, J) ∧ MA n t P I1 q m D U k' p' g2 g3 g4 g5 c cm' ∧ Q c cm' ∧ Fin2 (SMM g2 g3 g5 c i) k p k' p' := by
  intro e
  induction e with
  | zero =>
    intro fu i k p I cm h1 h2 hM hQ
    obtain ⟨g, rfl⟩ : ∃ g, fu = g + 1 := ⟨fu - 1, by omega⟩
    have p75 : I 112 75 = nI c := hM.2.2.2.2.2.2.2.2.2.1.2.2.2.2
    have : i = c := by omega
    subst this
    refine ⟨I, cm, k, p, ?_, hM, hQ, Fin2_0 (fun x hx => ?_)⟩
    · rw [f_Model_place_2, p75, if_pos (nI_le (Nat.le_refl _) (by omega))]
    · obtain ⟨e, e1, e2, _⟩ := hx
      omega
  | succ e ih =>
    intro fu i k p I cm h1 h2 hM hQ
    obtain ⟨g, rfl⟩ : ∃ g, fu = g + 1 := ⟨fu - 1, by omega⟩
    have hk : k ≤ 5 := hM.2.2.2.2.2.2.2.2.2.2.2.2.2.2.2.1
    have p75 : I 112 75 = nI c := hM.2.2.2.2.2.2.2.2.2.1.2.2.2.2
    have w2 : I 162 = g2 := hM.2.2.2.2.2.2.2.2.2.1.1
    have w3 : I 163 = g3 := hM.2.2.2.2.2.2.2.2.2.1.2.1
    have w4 : I 164 = g4 := hM.2.2.2.2.2.2.2.2.2.1.2.2.1
    have w5 : I 165 = g5 := hM.2.2.2.2.2.2.2.2.2.1.2.2.2.1
    obtain ⟨d, x, d1, d2, d3, d4⟩ := hg3 i (by omega)
    obtain ⟨a, a1, a2⟩ := hg4 i (by omega)
    have hs : f_Model_place_2 (g + 1) (nI i) I J = if ¬ g2 d = m1 then oc (f_Model_fill (nI a) (g2 d) I J) (fun v8 I8 J8 => f_Model_place_2 g (nI (i + 1)) I8 J8) else oc (f_Model_note 5 (nI x) I J) (fun v10 I10 J10 => f_Model_place_2 g (nI (i + 1)) I10 J10) := by
      rw [f_Model_place_2]
      rw [p75, w2, w3, w4, w5, if_neg (nI_ge (by omega) (by omega)), if_neg (nI_in (by omega) (by omega)), nI_clamp (n := i) (by omega), d3, if_neg (nI_in (by omega) (by omega)), nI_clamp (n := d) (by omega), a2, d4, nI_1]
      have z1 : ¬ (nI i < 0 ∨ 200 ≤ i) := by
        have := nI_in (show i < 200 by omega) (show 200 < 2 ^ 31 by omega)
        rwa [nI_clamp (by omega)] at this
      have z2 : ¬ (nI d < 0 ∨ 10 ≤ d) := by
        have := nI_in (show d < 10 by omega) (show 10 < 2 ^ 31 by omega)
        rwa [nI_clamp (by omega)] at this
      rw [if_neg z1, if_neg z1, if_neg z2, if_neg z1]
      rfl
    rw [hs]
    by_cases c1 : g2 d = m1
    · rw [if_neg (fun w => w c1)]
      obtain ⟨N1, n1, n2, _⟩ := NM (J := J) (a := 5) (x := x) hM (by omega) d2
      obtain ⟨I1, cm', k', p', r1, r2, r3, r4⟩ := ih g (i + 1) _ _ N1 cm (by omega) (by omega) n2 (hQ2 i cm d (by omega) d1 d3 c1 hQ)
      refine ⟨I1, cm', k', p', (n1 (F := fun v14 I14 J14 => f_Model_place_2 g (nI (i + 1)) I14 J14)).trans r1, r2, r3, Fin2_ext (Fin2_s hk r4) (fun y => ⟨fun hy => ?_, fun ⟨e, e1, e2, e3, e4, e5⟩ => ?_⟩)⟩
      · rcases hy with ⟨e, e1, e2, e3⟩ | rfl
        · exact ⟨e, by omega, e2, e3⟩
        · exact ⟨i, Nat.le_refl _, by omega, ⟨d, d1, d3, c1⟩, d4, by omega⟩
      · by_cases w : e = i
        · subst w
          rw [d4] at e4
          exact Or.inr ((nI_eq (by omega) e5).mp e4).symm
        · exact Or.inl ⟨e, by omega, e2, e3, e4, e5⟩
    · rw [if_pos c1]
      obtain ⟨r, r1, r2⟩ := (hg2 d d1).resolve_left c1
      obtain ⟨N1, n1, n2⟩ := FLM' (J := J) (x := nI a) (y := nI r) hM rfl rfl a1 r2
      obtain ⟨I1, cm', k', p', s1, s2, s3, s4⟩ := ih g (i + 1) _ _ N1 _ (by omega) (by omega) n2 (hQ1 i cm d r a (by omega) d1 d3 r1 r2 a2 a1 hQ)
      refine ⟨I1, cm', k', p', ?_, s2, s3, Fin2_ext s4 (fun y => ⟨fun ⟨e, e1, e2, e3⟩ => ⟨e, by omega, e2, e3⟩, fun ⟨e, e1, e2, ⟨d', f1, f2, f3⟩, e4⟩ => ?_⟩)⟩
      · rw [r1, n1]
        exact s1
      · by_cases w : e = i
        · subst w
          rw [d3] at f2
          have : d = d' := (nI_eq (by omega) (by omega)).mp f2
          subst this
          exact absurd f3 c1
        · exact ⟨e, by omega, e2, ⟨d', f1, f2, f3⟩, e4⟩
end CM
