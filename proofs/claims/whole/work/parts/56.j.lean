/-! compile: products and sums -/
/-- what a loop over parts comes to -/
def OL (n : Nat) (t : Nat → Nat) (P D U : Nat) (f8 f9 g2 g3 g4 g5 : Nat → Int32) (c : Nat) (J J' : MJ) (q m h k : Nat) (rC : M2 Int32) (rM : M2 (Int32 ⊕ Int32)) : Prop := ∃ v I1 r I1', rC = some (v, I1, J) ∧ rM = some (r, I1', J') ∧ (v = nI 0 ∨ v = nI 1) ∧ ((r = .inl 0 ∧ FX n t I1 I1') ∨ (r = .inr v ∧ ∃ q' m' k' p' cc' cm', CA n t P I1 q' m' D U k' p' f8 f9 cc' ∧ MA n t P I1' q' m' D U k' p' g2 g3 g4 g5 c cm' ∧ q ≤ q' ∧ m' ≤ m + 5 * (q' - q) ∧ (k' = 0 → k = 0 ∧ CODE P cc' cm' m' h f8 g3 g4 c)))
section CM
variable {n P D U c : Nat} {t : Nat → Nat} {J J' : MJ} {f8 f9 g2 g3 g4 g5 : Nat → Int32}
theorem PLP (ht : tpOK n t) (hD : D ≤ 20) {f f' hh : Nat} (h1 : 1 ≤ hh) (h2 : hh ≤ 2 * D + 3) (hf : 5 * (21 - D) + 2 ≤ f) (hf' : 5 * (21 - D) + 2 ≤ f') (hF : FACT n t P D U f8 f9 g2 g3 g4 g5 c J J') : ∀ (d fu fu' i q m k p : Nat) (l : Int32) (I I' : MI) (cc cm : Nat → Nat), (l = nI 0 ∨ l = nI 1) → n ≤ q + d → i ≤ q → d + 1 < fu → d < fu' → m + 6 ≤ 5 * q → CA n t P I q m D U k p f8 f9 cc → MA n t P I' q m D U k p g2 g3 g4 g5 c cm → (k = 0 → CODE P cc cm m hh f8 g3 g4 c) → OL n t P D U f8 f9 g2 g3 g4 g5 c J J' q m hh k (f_Translator_product_7 (f_RcT f) fu l (nI i) I J) (f_Model_readProduct_14 (f_RcM f') fu' l I' J') := by
  intro d
  induction d with
  | zero =>
    intro fu fu' i q m k p l I I' cc cm hl e1 e2 e3 e4 e5 hA hM hC
    obtain ⟨g, rfl⟩ : ∃ g, fu = g + 1 := ⟨fu - 1, by omega⟩
    obtain ⟨g', rfl⟩ : ∃ g, fu' = g + 1 := ⟨fu' - 1, by omega⟩
    have hq : q ≤ n := hA.2.2.2.2.2.2.2.2.2.2.2.2.1
    have hn := ht.1
    have hk : lkd n t q := fun c => by omega
    refine ⟨l, I, .inr l, I', ?_, ?_, hl, Or.inr ⟨rfl, q, m, k, p, cc, cm, hA, hM, Nat.le_refl q, by omega, fun hk => ⟨hk, hC hk⟩⟩⟩
    · rw [f_Translator_product_7]
      have a0 := fun {α : Type} {F : Int32 → MI → MJ → Option α} => LC0 (J := J) ht hA hk (F := F)
      by_cases x : 400 ≤ i
      · simp (disch := omega) only [a11, a01, ↓li_m, ↓oc_some, ↓oc_ite, ↓oc_oc, ↓oc_pl, ↓oc_none, ↓oc_oe, ↓pl_eq, ↓oe_i, ↓oe_j, va_up_self, va_up_ne, va_up_up, upd_s, upd_n, updL_s, updL_n, nI_add, nI_1, nI_ltI, nI_leI, nI_eq, nI_clamp, li_n, m1_lt, m1_le, m1_gt, m1_ge, m1_ne, m1_en, m1_ad, nle_F, nle_T, nlt_F, nlt_T, neq_F, neq_T, or_self, or_false, false_or, true_or, or_true, and_self, and_false, false_and, true_and, and_true, not_true_eq_false, not_false_eq_true, ↓reduceIte, if_true, if_false, Nat.reduceAdd, ite_self, Bool.false_eq_true]
      · simp (disch := omega) only [a11, a01, ↓li_m, ↓oc_some, ↓oc_ite, ↓oc_oc, ↓oc_pl, ↓oc_none, ↓oc_oe, ↓pl_eq, ↓oe_i, ↓oe_j, va_up_self, va_up_ne, va_up_up, upd_s, upd_n, updL_s, updL_n, nI_add, nI_1, nI_ltI, nI_leI, nI_eq, nI_clamp, li_n, m1_lt, m1_le, m1_gt, m1_ge, m1_ne, m1_en, m1_ad, nle_F, nle_T, nlt_F, nlt_T, neq_F, neq_T, or_self, or_false, false_or, true_or, or_true, and_self, and_false, false_and, true_and, and_true, not_true_eq_false, not_false_eq_true, ↓reduceIte, if_true, if_false, Nat.reduceAdd, ite_self, Bool.false_eq_true, ↓a0, cC_ge (show n ≤ q by omega)]
    · rw [f_Model_readProduct_14]
      have b0 := fun {α : Type} {F : Int32 → MI → MJ → Option α} => SM0 (J := J') ht hM hk (F := F)
      simp (disch := omega) only [a11, a01, ↓li_m, ↓oc_some, ↓oc_ite, ↓oc_oc, ↓oc_pl, ↓oc_none, ↓oc_oe, ↓pl_eq, ↓oe_i, ↓oe_j, va_up_self, va_up_ne, va_up_up, upd_s, upd_n, updL_s, updL_n, nI_add, nI_1, nI_ltI, nI_leI, nI_eq, nI_clamp, li_n, m1_lt, m1_le, m1_gt, m1_ge, m1_ne, m1_en, m1_ad, nle_F, nle_T, nlt_F, nlt_T, neq_F, neq_T, or_self, or_false, false_or, true_or, or_true, and_self, and_false, false_and, true_and, and_true, not_true_eq_false, not_false_eq_true, ↓reduceIte, if_true, if_false, Nat.reduceAdd, ite_self, Bool.false_eq_true, ↓U_Model_takes, ↓b0, cM_ge (show n ≤ q by omega)]
  | succ d ih =>
    intro fu fu' i q m k p l I I' cc cm hl e1 e2 e3 e4 e5 hA hM hC
    obtain ⟨g, rfl⟩ : ∃ g, fu = g + 1 := ⟨fu - 1, by omega⟩
    obtain ⟨g', rfl⟩ : ∃ g, fu' = g + 1 := ⟨fu' - 1, by omega⟩
    have hq : q ≤ n := hA.2.2.2.2.2.2.2.2.2.2.2.2.1
    have hn := ht.1
    obtain ⟨I1, a1, a2, a3, a4, a5⟩ := LC (J := J) ht hA
    obtain ⟨I1', b1, b2, b3⟩ := SM (J := J') ht hM
    generalize spq n t q = s at a1 a2 a3 a4 a5 b1 b2
    by_cases e : s < n ∧ t s = 42
    · obtain ⟨I2, c1, c2⟩ := PC (J := J) a2 e.1
      obtain ⟨I2', d1, d2, d3, d4⟩ := PM b2 e.1
      rw [cC_lt e.1, e.2] at a1
      rw [cM_lt e.1, e.2] at b1
      obtain ⟨v, I3, v', I3', x1, x2, x3, x4⟩ := hF f f' (s + 1) m k p hh I2 I2' cc cm hf hf' (by omega) h2 c2 d2 hC
      have x1' : ∀ {α : Type} {F : Int32 → MI → MJ → Option α}, oc (f_RcT f 11 0 0 I2 J) F = F v I3 J := fun {α F} => by rw [x1, oc_some]
      have x2' : ∀ {α : Type} {F : Int32 → MI → MJ → Option α}, oc (f_RcM f' 2 (nI 0) (nI 0) I2' J') F = F v' I3' J' := fun {α F} => by rw [show f_RcM f' 2 (nI 0) (nI 0) I2' J' = _ from x2, oc_some]
      have ex : ∃ o l', (o = 6 ∨ o = 7) ∧ (l' = nI 0 ∨ l' = nI 1) ∧ (if l = 0 then (6 : Int32) else if v = 0 then 6 else 7) = nI o ∧ (if ¬ l = 0 then (1 : Int32) else if v = 0 then 0 else 1) = l' := by
        rcases hl with hl | hl
        · rcases x3 with hv | hv
          · exact ⟨6, nI 0, Or.inl rfl, Or.inl rfl, by simp (disch := omega) only [a11, a01, ↓li_m, ↓oc_some, ↓oc_ite, ↓oc_oc, ↓oc_pl, ↓oc_none, ↓oc_oe, ↓pl_eq, ↓oe_i, ↓oe_j, va_up_self, va_up_ne, va_up_up, upd_s, upd_n, updL_s, updL_n, nI_add, nI_1, nI_ltI, nI_leI, nI_eq, nI_clamp, li_n, m1_lt, m1_le, m1_gt, m1_ge, m1_ne, m1_en, m1_ad, nle_F, nle_T, nlt_F, nlt_T, neq_F, neq_T, or_self, or_false, false_or, true_or, or_true, and_self, and_false, false_and, true_and, and_true, not_true_eq_false, not_false_eq_true, ↓reduceIte, if_true, if_false, Nat.reduceAdd, ite_self, Bool.false_eq_true, hl, hv], by simp (disch := omega) only [a11, a01, ↓li_m, ↓oc_some, ↓oc_ite, ↓oc_oc, ↓oc_pl, ↓oc_none, ↓oc_oe, ↓pl_eq, ↓oe_i, ↓oe_j, va_up_self, va_up_ne, va_up_up, upd_s, upd_n, updL_s, updL_n, nI_add, nI_1, nI_ltI, nI_leI, nI_eq, nI_clamp, li_n, m1_lt, m1_le, m1_gt, m1_ge, m1_ne, m1_en, m1_ad, nle_F, nle_T, nlt_F, nlt_T, neq_F, neq_T, or_self, or_false, false_or, true_or, or_true, and_self, and_false, false_and, true_and, and_true, not_true_eq_false, not_false_eq_true, ↓reduceIte, if_true, if_false, Nat.reduceAdd, ite_self, Bool.false_eq_true, hl, hv]⟩
          · exact ⟨6, nI 1, Or.inl rfl, Or.inr rfl, by simp (disch := omega) only [a11, a01, ↓li_m, ↓oc_some, ↓oc_ite, ↓oc_oc, ↓oc_pl, ↓oc_none, ↓oc_oe, ↓pl_eq, ↓oe_i, ↓oe_j, va_up_self, va_up_ne, va_up_up, upd_s, upd_n, updL_s, updL_n, nI_add, nI_1, nI_ltI, nI_leI, nI_eq, nI_clamp, li_n, m1_lt, m1_le, m1_gt, m1_ge, m1_ne, m1_en, m1_ad, nle_F, nle_T, nlt_F, nlt_T, neq_F, neq_T, or_self, or_false, false_or, true_or, or_true, and_self, and_false, false_and, true_and, and_true, not_true_eq_false, not_false_eq_true, ↓reduceIte, if_true, if_false, Nat.reduceAdd, ite_self, Bool.false_eq_true, hl, hv], by simp (disch := omega) only [a11, a01, ↓li_m, ↓oc_some, ↓oc_ite, ↓oc_oc, ↓oc_pl, ↓oc_none, ↓oc_oe, ↓pl_eq, ↓oe_i, ↓oe_j, va_up_self, va_up_ne, va_up_up, upd_s, upd_n, updL_s, updL_n, nI_add, nI_1, nI_ltI, nI_leI, nI_eq, nI_clamp, li_n, m1_lt, m1_le, m1_gt, m1_ge, m1_ne, m1_en, m1_ad, nle_F, nle_T, nlt_F, nlt_T, neq_F, neq_T, or_self, or_false, false_or, true_or, or_true, and_self, and_false, false_and, true_and, and_true, not_true_eq_false, not_false_eq_true, ↓reduceIte, if_true, if_false, Nat.reduceAdd, ite_self, Bool.false_eq_true, hl, hv, n10e]⟩
        · rcases x3 with hv | hv
          · exact ⟨6, nI 1, Or.inl rfl, Or.inr rfl, by simp (disch := omega) only [a11, a01, ↓li_m, ↓oc_some, ↓oc_ite, ↓oc_oc, ↓oc_pl, ↓oc_none, ↓oc_oe, ↓pl_eq, ↓oe_i, ↓oe_j, va_up_self, va_up_ne, va_up_up, upd_s, upd_n, updL_s, updL_n, nI_add, nI_1, nI_ltI, nI_leI, nI_eq, nI_clamp, li_n, m1_lt, m1_le, m1_gt, m1_ge, m1_ne, m1_en, m1_ad, nle_F, nle_T, nlt_F, nlt_T, neq_F, neq_T, or_self, or_false, false_or, true_or, or_true, and_self, and_false, false_and, true_and, and_true, not_true_eq_false, not_false_eq_true, ↓reduceIte, if_true, if_false, Nat.reduceAdd, ite_self, Bool.false_eq_true, hl, hv], by simp (disch := omega) only [a11, a01, ↓li_m, ↓oc_some, ↓oc_ite, ↓oc_oc, ↓oc_pl, ↓oc_none, ↓oc_oe, ↓pl_eq, ↓oe_i, ↓oe_j, va_up_self, va_up_ne, va_up_up, upd_s, upd_n, updL_s, updL_n, nI_add, nI_1, nI_ltI, nI_leI, nI_eq, nI_clamp, li_n, m1_lt, m1_le, m1_gt, m1_ge, m1_ne, m1_en, m1_ad, nle_F, nle_T, nlt_F, nlt_T, neq_F, neq_T, or_self, or_false, false_or, true_or, or_true, and_self, and_false, false_and, true_and, and_true, not_true_eq_false, not_false_eq_true, ↓reduceIte, if_true, if_false, Nat.reduceAdd, ite_self, Bool.false_eq_true, hl, hv, n10e]⟩
          · exact ⟨7, nI 1, Or.inr rfl, Or.inr rfl, by simp (disch := omega) only [a11, a01, ↓li_m, ↓oc_some, ↓oc_ite, ↓oc_oc, ↓oc_pl, ↓oc_none, ↓oc_oe, ↓pl_eq, ↓oe_i, ↓oe_j, va_up_self, va_up_ne, va_up_up, upd_s, upd_n, updL_s, updL_n, nI_add, nI_1, nI_ltI, nI_leI, nI_eq, nI_clamp, li_n, m1_lt, m1_le, m1_gt, m1_ge, m1_ne, m1_en, m1_ad, nle_F, nle_T, nlt_F, nlt_T, neq_F, neq_T, or_self, or_false, false_or, true_or, or_true, and_self, and_false, false_and, true_and, and_true, not_true_eq_false, not_false_eq_true, ↓reduceIte, if_true, if_false, Nat.reduceAdd, ite_self, Bool.false_eq_true, hl, hv, n10e], by simp (disch := omega) only [a11, a01, ↓li_m, ↓oc_some, ↓oc_ite, ↓oc_oc, ↓oc_pl, ↓oc_none, ↓oc_oe, ↓pl_eq, ↓oe_i, ↓oe_j, va_up_self, va_up_ne, va_up_up, upd_s, upd_n, updL_s, updL_n, nI_add, nI_1, nI_ltI, nI_leI, nI_eq, nI_clamp, li_n, m1_lt, m1_le, m1_gt, m1_ge, m1_ne, m1_en, m1_ad, nle_F, nle_T, nlt_F, nlt_T, neq_F, neq_T, or_self, or_false, false_or, true_or, or_true, and_self, and_false, false_and, true_and, and_true, not_true_eq_false, not_false_eq_true, ↓reduceIte, if_true, if_false, Nat.reduceAdd, ite_self, Bool.false_eq_true, hl, hv, n10e]⟩
      obtain ⟨o, l', ho, hl', ho2, hl2⟩ := ex
      rcases x4 with ⟨y1, x, y2, y3, y4⟩ | ⟨y1, q1, m1', k1, p1', cc1, cm1, y2, y3, y4, y5, y6, y7⟩
      · obtain ⟨_, I4, z1, z2⟩ := Z_emit (J := J) (o := nI o) (u := 0) (v := 0) (w := 0) y2
        have z1' : ∀ {α : Type} {F : Unit → MI → MJ → Option α}, oc (f_Translator_emit (nI o) 0 0 0 I3 J) F = F () I4 J := fun {α F} => by rw [z1, oc_some]
        obtain ⟨I5, z3, z4⟩ := Z_p7 (J := J) (R := f_RcT f) (l := l') (fu := g) (i := i + 1) ht (by omega) (by omega) z2
        refine ⟨l', I5, .inl 0, I3', ?_, ?_, hl', Or.inl ⟨rfl, x, z4, y3, y4⟩⟩
        · rw [f_Translator_product_7, if_neg (show ¬ (400 : Int32) ≤ nI i from nI_ge (b := 400) (by omega) (by decide)), a1, if_neg (show ¬ ¬ nI 42 = 42 from fun x => x rfl), c1, x1', pl_eq, ho2, z1', pl_eq, hl2, nI_1, z3]
        · rw [f_Model_readProduct_14]
          simp (disch := omega) only [a11, a01, ↓li_m, ↓oc_some, ↓oc_ite, ↓oc_oc, ↓oc_pl, ↓oc_none, ↓oc_oe, ↓pl_eq, ↓oe_i, ↓oe_j, va_up_self, va_up_ne, va_up_up, upd_s, upd_n, updL_s, updL_n, nI_add, nI_1, nI_ltI, nI_leI, nI_eq, nI_clamp, li_n, m1_lt, m1_le, m1_gt, m1_ge, m1_ne, m1_en, m1_ad, nle_F, nle_T, nlt_F, nlt_T, neq_F, neq_T, or_self, or_false, false_or, true_or, or_true, and_self, and_false, false_and, true_and, and_true, not_true_eq_false, not_false_eq_true, ↓reduceIte, if_true, if_false, Nat.reduceAdd, ite_self, Bool.false_eq_true, ↓U_Model_takes, ↓b1, n10e, d4, x2', y1]
      · have hq1 : q1 ≤ n := y2.2.2.2.2.2.2.2.2.2.2.2.2.1
        have ol : opl o = 1 := by rcases ho with rfl | rfl <;> rfl
        have on : nd o = 2 := by rcases ho with rfl | rfl <;> rfl
        have og : gv o = 1 := by rcases ho with rfl | rfl <;> rfl
        obtain ⟨I4, z1', z2⟩ := EM1' (J := J) (a := nI o) (u := 0) (v := 0) (w := 0) (o := o) y2 rfl (by omega) ol (by omega)
        obtain ⟨I4', l1, l2, l3⟩ := AM (J := J') (b := o) (v := nI o) y3 (by omega) rfl
        have X : k1 = 0 → CODE P (apn cc1 m1' o) (apn cm1 m1' o) (m1' + 1) hh f8 g3 g4 c := fun hk => by
          have X := CODE_1 (o := o) (y7 hk).2 (by omega) (by omega) (by omega) (fun x => by omega)
          rw [on, og, show hh + 1 - 2 + 1 = hh by omega] at X
          exact X
        obtain ⟨w, I5, r, I5', r1, r2, r3, r4⟩ := ih g g' (i + 1) q1 (m1' + 1) k1 p1' l' I4 I4' _ _ hl' (by omega) (by omega) (by omega) (by omega) (by omega) z2 l2 X
        refine ⟨w, I5, r, I5', ?_, ?_, r3, ?_⟩
        · rw [f_Translator_product_7, if_neg (show ¬ (400 : Int32) ≤ nI i from nI_ge (b := 400) (by omega) (by decide)), a1, if_neg (show ¬ ¬ nI 42 = 42 from fun x => x rfl), c1, x1', pl_eq, ho2, z1', pl_eq, hl2, nI_1, r1]
        · rw [f_Model_readProduct_14]
          have l373 : I4' 112 73 = v := l3.trans y4
          have tk : ∀ {α : Type} {F : Int32 → MI → MJ → Option α}, oc (f_Model_takes 42 I' J') F = F (nI 1) I2' J' := by
            intro α F
            unfold f_Model_takes
            simp (disch := omega) only [a11, a01, ↓li_m, ↓oc_some, ↓oc_ite, ↓oc_oc, ↓oc_pl, ↓oc_none, ↓oc_oe, ↓pl_eq, ↓oe_i, ↓oe_j, va_up_self, va_up_ne, va_up_up, upd_s, upd_n, updL_s, updL_n, nI_add, nI_1, nI_ltI, nI_leI, nI_eq, nI_clamp, li_n, m1_lt, m1_le, m1_gt, m1_ge, m1_ne, m1_en, m1_ad, nle_F, nle_T, nlt_F, nlt_T, neq_F, neq_T, or_self, or_false, false_or, true_or, or_true, and_self, and_false, false_and, true_and, and_true, not_true_eq_false, not_false_eq_true, ↓reduceIte, if_true, if_false, Nat.reduceAdd, ite_self, Bool.false_eq_true, ↓b1, n10e, d4]
          rw [tk, if_neg (show ¬ nI 1 = 0 by decide), show f_RcM f' 2 0 0 I2' J' = _ from x2, oc_some, y1, if_pos (show ¬ nI 1 = 0 by decide), pl_eq, y4, ho2, l1, l373]
          rcases hl with hl | hl
          · rcases x3 with hv | hv
            · rw [hl, hv] at hl2 ⊢
              rw [if_neg (show ¬ ¬ nI 0 = 0 from fun x => x rfl), if_pos (show nI 0 = 0 from rfl), ← r2, ← hl2]
              rfl
            · rw [hl, hv] at hl2 ⊢
              rw [if_neg (show ¬ ¬ nI 0 = 0 from fun x => x rfl), if_neg (show ¬ nI 1 = 0 by decide), ← r2, ← hl2]
              rfl
          · rw [hl] at hl2 ⊢
            rw [if_pos (show ¬ nI 1 = 0 by decide), ← r2, ← hl2]
            rfl
        · rcases r4 with r4 | ⟨r4, q2, m2, k2, p2, cc2, cm2, r5, r6, r7, r8, r9⟩
          · exact Or.inl r4
          · exact Or.inr ⟨r4, q2, m2, k2, p2, cc2, cm2, r5, r6, by omega, by omega, fun hk => ⟨(y7 (r9 hk).1).1, (r9 hk).2⟩⟩
    · have hne : ¬ cCq n t s = nI 42 := by
        by_cases q : s < n
        · rw [cC_lt q]
          exact fun c => e ⟨q, (nI_eq (by have := (ht.2 s q).2; omega) (by omega)).mp c⟩
        · rw [cC_ge (by omega)]
          decide
      have hne' : ¬ cM n t s = nI 42 := by
        by_cases q : s < n
        · rw [cM_lt q]
          exact fun c => e ⟨q, (nI_eq (by have := (ht.2 s q).2; omega) (by omega)).mp c⟩
        · rw [cM_ge (by omega)]
          decide
      have eM : f_Model_readProduct_14 (f_RcM f') (g' + 1) l I' J' = some (.inr l, I1', J') := by
        rw [f_Model_readProduct_14]
        simp (disch := omega) only [a11, a01, ↓li_m, ↓oc_some, ↓oc_ite, ↓oc_oc, ↓oc_pl, ↓oc_none, ↓oc_oe, ↓pl_eq, ↓oe_i, ↓oe_j, va_up_self, va_up_ne, va_up_up, upd_s, upd_n, updL_s, updL_n, nI_add, nI_1, nI_ltI, nI_leI, nI_eq, nI_clamp, li_n, m1_lt, m1_le, m1_gt, m1_ge, m1_ne, m1_en, m1_ad, nle_F, nle_T, nlt_F, nlt_T, neq_F, neq_T, or_self, or_false, false_or, true_or, or_true, and_self, and_false, false_and, true_and, and_true, not_true_eq_false, not_false_eq_true, ↓reduceIte, if_true, if_false, Nat.reduceAdd, ite_self, Bool.false_eq_true, ↓U_Model_takes, ↓b1, hne']
      by_cases x : 400 ≤ i
      · have hsq : s = q := by omega
        subst hsq
        refine ⟨l, I, .inr l, I1', ?_, eM, hl, Or.inr ⟨rfl, s, m, k, p, cc, cm, hA, b2, Nat.le_refl s, by omega, fun hk => ⟨hk, hC hk⟩⟩⟩
        rw [f_Translator_product_7]
        simp (disch := omega) only [a11, a01, ↓li_m, ↓oc_some, ↓oc_ite, ↓oc_oc, ↓oc_pl, ↓oc_none, ↓oc_oe, ↓pl_eq, ↓oe_i, ↓oe_j, va_up_self, va_up_ne, va_up_up, upd_s, upd_n, updL_s, updL_n, nI_add, nI_1, nI_ltI, nI_leI, nI_eq, nI_clamp, li_n, m1_lt, m1_le, m1_gt, m1_ge, m1_ne, m1_en, m1_ad, nle_F, nle_T, nlt_F, nlt_T, neq_F, neq_T, or_self, or_false, false_or, true_or, or_true, and_self, and_false, false_and, true_and, and_true, not_true_eq_false, not_false_eq_true, ↓reduceIte, if_true, if_false, Nat.reduceAdd, ite_self, Bool.false_eq_true]
      · refine ⟨l, I1, .inr l, I1', ?_, eM, hl, Or.inr ⟨rfl, s, m, k, p, cc, cm, a2, b2, a4, by omega, fun hk => ⟨hk, hC hk⟩⟩⟩
        rw [f_Translator_product_7]
        simp (disch := omega) only [a11, a01, ↓li_m, ↓oc_some, ↓oc_ite, ↓oc_oc, ↓oc_pl, ↓oc_none, ↓oc_oe, ↓pl_eq, ↓oe_i, ↓oe_j, va_up_self, va_up_ne, va_up_up, upd_s, upd_n, updL_s, updL_n, nI_add, nI_1, nI_ltI, nI_leI, nI_eq, nI_clamp, li_n, m1_lt, m1_le, m1_gt, m1_ge, m1_ne, m1_en, m1_ad, nle_F, nle_T, nlt_F, nlt_T, neq_F, neq_T, or_self, or_false, false_or, true_or, or_true, and_self, and_false, false_and, true_and, and_true, not_true_eq_false, not_false_eq_true, ↓reduceIte, if_true, if_false, Nat.reduceAdd, ite_self, Bool.false_eq_true, ↓a1, hne]
theorem PROD_of (ht : tpOK n t) (hD : D ≤ 20) (hF : FACT n t P D U f8 f9 g2 g3 g4 g5 c J J') : PROD n t P D U f8 f9 g2 g3 g4 g5 c J J' := by
  intro fc fm q m k p h I I' cc cm e1 e2 e3 e4 hA hM hC
  obtain ⟨f, rfl⟩ : ∃ f, fc = f + 1 := ⟨fc - 1, by omega⟩
  obtain ⟨f', rfl⟩ : ∃ f, fm = f + 1 := ⟨fm - 1, by omega⟩
  have hn := ht.1
  rw [RT10, RM1]
  unfold f_Translator_product f_Model_readProduct
  obtain ⟨v, I3, v', I3', x1, x2, x3, x4⟩ := hF f f' q m k p h I I' cc cm (by omega) (by omega) e3 (by omega) hA hM hC
  rcases x4 with ⟨y1, x, y2, y3, y4⟩ | ⟨y1, q1, m1', k1, p1', cc1, cm1, y2, y3, y4, y5, y6, y7⟩
  · obtain ⟨I5, z3, z4⟩ := Z_p7 (J := J) (R := f_RcT f) (l := v) (fu := gF) (i := 0) ht (by decide) (by omega) y2
    refine ⟨v, I5, nI 0, I3', ?_, ?_, x3, Or.inl ⟨rfl, x, z4, y3, y4⟩⟩
    · rw [x1, oc_some, show f_Translator_product_7 (f_RcT f) gF v 0 I3 J = _ from z3, oc_some, if_pos (show v = 0 ∨ v = 1 from x3)]
    · rw [x2, oc_some, y1, if_neg (show ¬ ¬ nI 0 = 0 from fun x => x rfl)]
      rfl
  · have hq1 : q1 ≤ n := y2.2.2.2.2.2.2.2.2.2.2.2.2.1
    obtain ⟨w, I5, r, I5', r1, r2, r3, r4⟩ := PLP (J := J) (J' := J') (f := f) (f' := f') ht hD (hh := h + 1) (by omega) (by omega) (by omega) (by omega) hF n gF gF 0 q1 m1' k1 p1' v I3 I3' cc1 cm1 x3 (by omega) (by omega) (gF_lt (by omega)) (gF_lt (by omega)) (by omega) y2 y3 (fun hk => (y7 hk).2)
    have eC : f_Translator_product_7 (f_RcT f) gF v 0 I3 J = some (w, I5, J) := r1
    rcases r4 with ⟨r4, r5⟩ | ⟨r4, q2, m2, k2, p2, cc2, cm2, r5, r6, r7, r8, r9⟩
    · refine ⟨w, I5, nI 0, I5', ?_, ?_, r3, Or.inl ⟨rfl, r5⟩⟩
      · rw [x1, oc_some, eC, oc_some, if_pos (show w = 0 ∨ w = 1 from r3)]
      · rw [x2, oc_some, y1, if_pos (show ¬ nI 1 = 0 by decide), pl_eq, y4, r2, oc_some, r4, oe_i]
        rfl
    · refine ⟨w, I5, nI 1, va_up I5' 112 (upd (I5' 112) 73 w), ?_, ?_, r3, Or.inr ⟨rfl, q2, m2, k2, p2, cc2, cm2, r5, XM r6, by simp (disch := omega) only [a11, a01, ↓li_m, ↓oc_some, ↓oc_ite, ↓oc_oc, ↓oc_pl, ↓oc_none, ↓oc_oe, ↓pl_eq, ↓oe_i, ↓oe_j, va_up_self, va_up_ne, va_up_up, upd_s, upd_n, updL_s, updL_n, nI_add, nI_1, nI_ltI, nI_leI, nI_eq, nI_clamp, li_n, m1_lt, m1_le, m1_gt, m1_ge, m1_ne, m1_en, m1_ad, nle_F, nle_T, nlt_F, nlt_T, neq_F, neq_T, or_self, or_false, false_or, true_or, or_true, and_self, and_false, false_and, true_and, and_true, not_true_eq_false, not_false_eq_true, ↓reduceIte, if_true, if_false, Nat.reduceAdd, ite_self, Bool.false_eq_true], by omega, by omega, fun hk => ⟨(y7 (r9 hk).1).1, (r9 hk).2⟩⟩⟩
      · rw [x1, oc_some, eC, oc_some, if_pos (show w = 0 ∨ w = 1 from r3)]
      · rw [x2, oc_some, y1, if_pos (show ¬ nI 1 = 0 by decide), pl_eq, y4, r2, oc_some, r4, oe_j, if_pos (show w = 0 ∨ w = 1 from r3)]
        rfl
end CM
