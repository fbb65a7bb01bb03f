/-! compile: sums; expressions as a whole -/
section CM
variable {n P D U c : Nat} {t : Nat → Nat} {J J' : MJ} {f8 f9 g2 g3 g4 g5 : Nat → Int32}
theorem XLP (ht : tpOK n t) (hD : D ≤ 20) {f f' hh : Nat} (h1 : 1 ≤ hh) (h2 : hh ≤ 2 * D + 2) (hf : 5 * (21 - D) + 3 ≤ f) (hf' : 5 * (21 - D) + 3 ≤ f') (hF : PROD n t P D U f8 f9 g2 g3 g4 g5 c J J') : ∀ (d fu fu' i q m k p : Nat) (l : Int32) (I I' : MI) (cc cm : Nat → Nat), (l = nI 0 ∨ l = nI 1) → n ≤ q + d → i ≤ q → d + 1 < fu → d < fu' → m + 6 ≤ 5 * q → CA n t P I q m D U k p f8 f9 cc → MA n t P I' q m D U k p g2 g3 g4 g5 c cm → (k = 0 → CODE P cc cm m hh f8 g3 g4 c) → OL n t P D U f8 f9 g2 g3 g4 g5 c J J' q m hh k (f_Translator_expression_7 (f_RcT f) fu l (nI i) I J) (f_Model_readX_14 (f_RcM f') fu' l I' J') := by
  intro d
  induction d with
  | zero =>
    intro fu fu' i q m k p l I I' cc cm hl e1 e2 e3 e4 e5 hA hM hC
    obtain ⟨g, rfl⟩ : ∃ g, fu = g + 1 := ⟨fu - 1, by omega⟩
    obtain ⟨g', rfl⟩ : ∃ g, fu' = g + 1 := ⟨fu' - 1, by omega⟩
    have hq : q ≤ n := hA.2.2.2.2.2.2.2.2.2.2.2.2.1
    have hn := ht.1
    have hk : lkd n t q := fun c => by omega
    refine ⟨l, I, .inr l, I', ?_, ?_, hl, Or.inr ⟨rfl, q, m, k, p, cc, cm, hA, hM, Nat.le_refl q, by omega, fun hk => ⟨hk, hC hk⟩⟩⟩
    · rw [f_Translator_expression_7]
      have a0 := fun {α : Type} {F : Int32 → MI → MJ → Option α} => LC0 (J := J) ht hA hk (F := F)
      by_cases x : 400 ≤ i
      · simp (disch := omega) only [a11, a01, ↓li_m, ↓oc_some, ↓oc_ite, ↓oc_oc, ↓oc_pl, ↓oc_none, ↓oc_oe, ↓pl_eq, ↓oe_i, ↓oe_j, va_up_self, va_up_ne, va_up_up, upd_s, upd_n, updL_s, updL_n, nI_add, nI_1, nI_ltI, nI_leI, nI_eq, nI_clamp, li_n, m1_lt, m1_le, m1_gt, m1_ge, m1_ne, m1_en, m1_ad, nle_F, nle_T, nlt_F, nlt_T, neq_F, neq_T, or_self, or_false, false_or, true_or, or_true, and_self, and_false, false_and, true_and, and_true, not_true_eq_false, not_false_eq_true, ↓reduceIte, if_true, if_false, Nat.reduceAdd, ite_self, Bool.false_eq_true]
      · simp (disch := omega) only [a11, a01, ↓li_m, ↓oc_some, ↓oc_ite, ↓oc_oc, ↓oc_pl, ↓oc_none, ↓oc_oe, ↓pl_eq, ↓oe_i, ↓oe_j, va_up_self, va_up_ne, va_up_up, upd_s, upd_n, updL_s, updL_n, nI_add, nI_1, nI_ltI, nI_leI, nI_eq, nI_clamp, li_n, m1_lt, m1_le, m1_gt, m1_ge, m1_ne, m1_en, m1_ad, nle_F, nle_T, nlt_F, nlt_T, neq_F, neq_T, or_self, or_false, false_or, true_or, or_true, and_self, and_false, false_and, true_and, and_true, not_true_eq_false, not_false_eq_true, ↓reduceIte, if_true, if_false, Nat.reduceAdd, ite_self, Bool.false_eq_true, ↓a0, cC_ge (show n ≤ q by omega)]
    · rw [f_Model_readX_14]
      have b0 := fun {α : Type} {F : Int32 → MI → MJ → Option α} => SM0 (J := J') ht hM hk (F := F)
      simp (disch := omega) only [a11, a01, ↓li_m, ↓oc_some, ↓oc_ite, ↓oc_oc, ↓oc_pl, ↓oc_none, ↓oc_oe, ↓pl_eq, ↓oe_i, ↓oe_j, va_up_self, va_up_ne, va_up_up, upd_s, upd_n, updL_s, updL_n, nI_add, nI_1, nI_ltI, nI_leI, nI_eq, nI_clamp, li_n, m1_lt, m1_le, m1_gt, m1_ge, m1_ne, m1_en, m1_ad, nle_F, nle_T, nlt_F, nlt_T, neq_F, neq_T, or_self, or_false, false_or, true_or, or_true, and_self, and_false, false_and, true_and, and_true, not_true_eq_false, not_false_eq_true, ↓reduceIte, if_true, if_false, Nat.reduceAdd, ite_self, Bool.false_eq_true, ↓b0, cM_ge (show n ≤ q by omega)]
  | succ d ih =>
    intro fu fu' i q m k p l I I' cc cm hl e1 e2 e3 e4 e5 hA hM hC
    obtain ⟨g, rfl⟩ : ∃ g, fu = g + 1 := ⟨fu - 1, by omega⟩
    obtain ⟨g', rfl⟩ : ∃ g, fu' = g + 1 := ⟨fu' - 1, by omega⟩
    have hq : q ≤ n := hA.2.2.2.2.2.2.2.2.2.2.2.2.1
    have hn := ht.1
    obtain ⟨I1, a1, a2, a3, a4, a5⟩ := LC (J := J) ht hA
    obtain ⟨I1', b1, b2, b3⟩ := SM (J := J') ht hM
    generalize spq n t q = s at a1 a2 a3 a4 a5 b1 b2
    by_cases e : s < n ∧ t s = 43
    · skip
      have a0 := fun {α : Type} {F : Int32 → MI → MJ → Option α} => LC0 (J := J) ht a2 a3 (F := F)
      have b0 := fun {α : Type} {F : Int32 → MI → MJ → Option α} => SM0 (J := J') ht b2 a3 (F := F)
      obtain ⟨I2, c1, c2⟩ := PC (J := J) a2 e.1
      obtain ⟨I2', d1, d2, d3, d4⟩ := PM b2 e.1
      rw [cC_lt e.1, e.2] at a1 a0
      rw [cM_lt e.1, e.2] at b1 b0
      obtain ⟨v, I3, v', I3', x1, x2, x3, x4⟩ := hF f f' (s + 1) m k p hh I2 I2' cc cm hf hf' (by omega) h2 c2 d2 hC
      have x1' : ∀ {α : Type} {F : Int32 → MI → MJ → Option α}, oc (f_RcT f 10 0 0 I2 J) F = F v I3 J := fun {α F} => by rw [x1, oc_some]
      have ex : ∃ l', (l' = nI 0 ∨ l' = nI 1) ∧ (if ¬ l = 0 then (1 : Int32) else if v = 0 then 0 else 1) = l' := by
        rcases hl with hl | hl
        · rcases x3 with hv | hv
          · exact ⟨nI 0, Or.inl rfl, by simp (disch := omega) only [a11, a01, ↓li_m, ↓oc_some, ↓oc_ite, ↓oc_oc, ↓oc_pl, ↓oc_none, ↓oc_oe, ↓pl_eq, ↓oe_i, ↓oe_j, va_up_self, va_up_ne, va_up_up, upd_s, upd_n, updL_s, updL_n, nI_add, nI_1, nI_ltI, nI_leI, nI_eq, nI_clamp, li_n, m1_lt, m1_le, m1_gt, m1_ge, m1_ne, m1_en, m1_ad, nle_F, nle_T, nlt_F, nlt_T, neq_F, neq_T, or_self, or_false, false_or, true_or, or_true, and_self, and_false, false_and, true_and, and_true, not_true_eq_false, not_false_eq_true, ↓reduceIte, if_true, if_false, Nat.reduceAdd, ite_self, Bool.false_eq_true, hl, hv]⟩
          · exact ⟨nI 1, Or.inr rfl, by simp (disch := omega) only [a11, a01, ↓li_m, ↓oc_some, ↓oc_ite, ↓oc_oc, ↓oc_pl, ↓oc_none, ↓oc_oe, ↓pl_eq, ↓oe_i, ↓oe_j, va_up_self, va_up_ne, va_up_up, upd_s, upd_n, updL_s, updL_n, nI_add, nI_1, nI_ltI, nI_leI, nI_eq, nI_clamp, li_n, m1_lt, m1_le, m1_gt, m1_ge, m1_ne, m1_en, m1_ad, nle_F, nle_T, nlt_F, nlt_T, neq_F, neq_T, or_self, or_false, false_or, true_or, or_true, and_self, and_false, false_and, true_and, and_true, not_true_eq_false, not_false_eq_true, ↓reduceIte, if_true, if_false, Nat.reduceAdd, ite_self, Bool.false_eq_true, hl, hv, n10e]⟩
        · exact ⟨nI 1, Or.inr rfl, by simp (disch := omega) only [a11, a01, ↓li_m, ↓oc_some, ↓oc_ite, ↓oc_oc, ↓oc_pl, ↓oc_none, ↓oc_oe, ↓pl_eq, ↓oe_i, ↓oe_j, va_up_self, va_up_ne, va_up_up, upd_s, upd_n, updL_s, updL_n, nI_add, nI_1, nI_ltI, nI_leI, nI_eq, nI_clamp, li_n, m1_lt, m1_le, m1_gt, m1_ge, m1_ne, m1_en, m1_ad, nle_F, nle_T, nlt_F, nlt_T, neq_F, neq_T, or_self, or_false, false_or, true_or, or_true, and_self, and_false, false_and, true_and, and_true, not_true_eq_false, not_false_eq_true, ↓reduceIte, if_true, if_false, Nat.reduceAdd, ite_self, Bool.false_eq_true, hl, n10e]⟩
      obtain ⟨l', hl', hl2⟩ := ex
      rcases x4 with ⟨y1, x, y2, y3, y4⟩ | ⟨y1, q1, m1', k1, p1', cc1, cm1, y2, y3, y4, y5, y6, y7⟩
      · obtain ⟨_, I4, z1, z2⟩ := Z_emit (J := J) (o := nI 4) (u := 0) (v := 0) (w := 0) y2
        have z1' : ∀ {α : Type} {F : Unit → MI → MJ → Option α}, oc (f_Translator_emit (nI 4) 0 0 0 I3 J) F = F () I4 J := fun {α F} => by rw [z1, oc_some]
        obtain ⟨I5, z3, z4⟩ := Z_e7 (J := J) (R := f_RcT f) (l := l') (fu := g) (i := i + 1) ht (by omega) (by omega) z2
        refine ⟨l', I5, .inl 0, I3', ?_, ?_, hl', Or.inl ⟨rfl, x, z4, y3, y4⟩⟩
        · rw [f_Translator_expression_7, if_neg (show ¬ (400 : Int32) ≤ nI i from nI_ge (b := 400) (by omega) (by decide)), a1, if_pos (show nI 43 = 43 from rfl), a0, pl_eq, if_neg (show ¬ ¬ nI 43 = 43 from fun x => x rfl), c1, x1', show (4 : Int32) = nI 4 from rfl, z1', pl_eq, hl2, nI_1, z3]
        · rw [f_Model_readX_14, b1, if_pos (show nI 43 = 43 from rfl), b0, pl_eq, if_neg (show ¬ ¬ nI 43 = 43 from fun x => x rfl), d1, show f_RcM f' 1 0 0 I2' J' = _ from x2, oc_some, y1, if_neg (show ¬ ¬ nI 0 = 0 from fun x => x rfl)]
      · have hq1 : q1 ≤ n := y2.2.2.2.2.2.2.2.2.2.2.2.2.1
        obtain ⟨I4, z1', z2⟩ := EM1' (J := J) (a := nI 4) (u := 0) (v := 0) (w := 0) (o := 4) y2 rfl (by omega) rfl (by omega)
        obtain ⟨I4', l1, l2, l3⟩ := AM (J := J') (b := 4) (v := nI 4) y3 (by omega) rfl
        have X : k1 = 0 → CODE P (apn cc1 m1' 4) (apn cm1 m1' 4) (m1' + 1) hh f8 g3 g4 c := fun hk => by
          have X := CODE_1 (o := 4) (y7 hk).2 (by omega) (by rw [show nd 4 = 2 from rfl]; omega) (by omega) (fun x => by omega)
          rw [show nd 4 = 2 from rfl, show gv 4 = 1 from rfl, show hh + 1 - 2 + 1 = hh by omega] at X
          exact X
        obtain ⟨w, I5, r, I5', r1, r2, r3, r4⟩ := ih g g' (i + 1) q1 (m1' + 1) k1 p1' l' I4 I4' _ _ hl' (by omega) (by omega) (by omega) (by omega) (by omega) z2 l2 X
        refine ⟨w, I5, r, I5', ?_, ?_, r3, ?_⟩
        · rw [f_Translator_expression_7, if_neg (show ¬ (400 : Int32) ≤ nI i from nI_ge (b := 400) (by omega) (by decide)), a1, if_pos (show nI 43 = 43 from rfl), a0, pl_eq, if_neg (show ¬ ¬ nI 43 = 43 from fun x => x rfl), c1, x1', show (4 : Int32) = nI 4 from rfl, z1', pl_eq, hl2, nI_1, r1]
        · rw [f_Model_readX_14, b1, if_pos (show nI 43 = 43 from rfl), b0, pl_eq, if_neg (show ¬ ¬ nI 43 = 43 from fun x => x rfl), d1, show f_RcM f' 1 0 0 I2' J' = _ from x2, oc_some, y1, if_pos (show ¬ nI 1 = 0 by decide), pl_eq, y4, hl2, show (4 : Int32) = nI 4 from rfl, l1, r2]
        · rcases r4 with r4 | ⟨r4, q2, m2, k2, p2, cc2, cm2, r5, r6, r7, r8, r9⟩
          · exact Or.inl r4
          · exact Or.inr ⟨r4, q2, m2, k2, p2, cc2, cm2, r5, r6, by omega, by omega, fun hk => ⟨(y7 (r9 hk).1).1, (r9 hk).2⟩⟩
    · by_cases e' : s < n ∧ t s = 45
      · have e43 := e
        clear e
        have e := e'
        have a0 := fun {α : Type} {F : Int32 → MI → MJ → Option α} => LC0 (J := J) ht a2 a3 (F := F)
        have b0 := fun {α : Type} {F : Int32 → MI → MJ → Option α} => SM0 (J := J') ht b2 a3 (F := F)
        obtain ⟨I2, c1, c2⟩ := PC (J := J) a2 e.1
        obtain ⟨I2', d1, d2, d3, d4⟩ := PM b2 e.1
        rw [cC_lt e.1, e.2] at a1 a0
        rw [cM_lt e.1, e.2] at b1 b0
        obtain ⟨v, I3, v', I3', x1, x2, x3, x4⟩ := hF f f' (s + 1) m k p hh I2 I2' cc cm hf hf' (by omega) h2 c2 d2 hC
        have x1' : ∀ {α : Type} {F : Int32 → MI → MJ → Option α}, oc (f_RcT f 10 0 0 I2 J) F = F v I3 J := fun {α F} => by rw [x1, oc_some]
        have ex : ∃ l', (l' = nI 0 ∨ l' = nI 1) ∧ (if ¬ l = 0 then (1 : Int32) else if v = 0 then 0 else 1) = l' := by
          rcases hl with hl | hl
          · rcases x3 with hv | hv
            · exact ⟨nI 0, Or.inl rfl, by simp (disch := omega) only [a11, a01, ↓li_m, ↓oc_some, ↓oc_ite, ↓oc_oc, ↓oc_pl, ↓oc_none, ↓oc_oe, ↓pl_eq, ↓oe_i, ↓oe_j, va_up_self, va_up_ne, va_up_up, upd_s, upd_n, updL_s, updL_n, nI_add, nI_1, nI_ltI, nI_leI, nI_eq, nI_clamp, li_n, m1_lt, m1_le, m1_gt, m1_ge, m1_ne, m1_en, m1_ad, nle_F, nle_T, nlt_F, nlt_T, neq_F, neq_T, or_self, or_false, false_or, true_or, or_true, and_self, and_false, false_and, true_and, and_true, not_true_eq_false, not_false_eq_true, ↓reduceIte, if_true, if_false, Nat.reduceAdd, ite_self, Bool.false_eq_true, hl, hv]⟩
            · exact ⟨nI 1, Or.inr rfl, by simp (disch := omega) only [a11, a01, ↓li_m, ↓oc_some, ↓oc_ite, ↓oc_oc, ↓oc_pl, ↓oc_none, ↓oc_oe, ↓pl_eq, ↓oe_i, ↓oe_j, va_up_self, va_up_ne, va_up_up, upd_s, upd_n, updL_s, updL_n, nI_add, nI_1, nI_ltI, nI_leI, nI_eq, nI_clamp, li_n, m1_lt, m1_le, m1_gt, m1_ge, m1_ne, m1_en, m1_ad, nle_F, nle_T, nlt_F, nlt_T, neq_F, neq_T, or_self, or_false, false_or, true_or, or_true, and_self, and_false, false_and, true_and, and_true, not_true_eq_false, not_false_eq_true, ↓reduceIte, if_true, if_false, Nat.reduceAdd, ite_self, Bool.false_eq_true, hl, hv, n10e]⟩
          · exact ⟨nI 1, Or.inr rfl, by simp (disch := omega) only [a11, a01, ↓li_m, ↓oc_some, ↓oc_ite, ↓oc_oc, ↓oc_pl, ↓oc_none, ↓oc_oe, ↓pl_eq, ↓oe_i, ↓oe_j, va_up_self, va_up_ne, va_up_up, upd_s, upd_n, updL_s, updL_n, nI_add, nI_1, nI_ltI, nI_leI, nI_eq, nI_clamp, li_n, m1_lt, m1_le, m1_gt, m1_ge, m1_ne, m1_en, m1_ad, nle_F, nle_T, nlt_F, nlt_T, neq_F, neq_T, or_self, or_false, false_or, true_or, or_true, and_self, and_false, false_and, true_and, and_true, not_true_eq_false, not_false_eq_true, ↓reduceIte, if_true, if_false, Nat.reduceAdd, ite_self, Bool.false_eq_true, hl, n10e]⟩
        obtain ⟨l', hl', hl2⟩ := ex
        rcases x4 with ⟨y1, x, y2, y3, y4⟩ | ⟨y1, q1, m1', k1, p1', cc1, cm1, y2, y3, y4, y5, y6, y7⟩
        · obtain ⟨_, I4, z1, z2⟩ := Z_emit (J := J) (o := nI 5) (u := 0) (v := 0) (w := 0) y2
          have z1' : ∀ {α : Type} {F : Unit → MI → MJ → Option α}, oc (f_Translator_emit (nI 5) 0 0 0 I3 J) F = F () I4 J := fun {α F} => by rw [z1, oc_some]
          obtain ⟨I5, z3, z4⟩ := Z_e7 (J := J) (R := f_RcT f) (l := l') (fu := g) (i := i + 1) ht (by omega) (by omega) z2
          refine ⟨l', I5, .inl 0, I3', ?_, ?_, hl', Or.inl ⟨rfl, x, z4, y3, y4⟩⟩
          · rw [f_Translator_expression_7, if_neg (show ¬ (400 : Int32) ≤ nI i from nI_ge (b := 400) (by omega) (by decide)), a1, if_neg (show ¬ nI 45 = 43 by decide), a0, if_neg (show ¬ ¬ nI 45 = 45 from fun x => x rfl), a0, pl_eq, if_pos (show ¬ nI 45 = 43 by decide), c1, x1', show (5 : Int32) = nI 5 from rfl, z1', pl_eq, hl2, nI_1, z3]
          · rw [f_Model_readX_14, b1, if_neg (show ¬ nI 45 = 43 by decide), b0, if_neg (show ¬ ¬ nI 45 = 45 from fun x => x rfl), b0, pl_eq, if_pos (show ¬ nI 45 = 43 by decide), d1, show f_RcM f' 1 0 0 I2' J' = _ from x2, oc_some, y1, if_neg (show ¬ ¬ nI 0 = 0 from fun x => x rfl)]
        · have hq1 : q1 ≤ n := y2.2.2.2.2.2.2.2.2.2.2.2.2.1
          obtain ⟨I4, z1', z2⟩ := EM1' (J := J) (a := nI 5) (u := 0) (v := 0) (w := 0) (o := 5) y2 rfl (by omega) rfl (by omega)
          obtain ⟨I4', l1, l2, l3⟩ := AM (J := J') (b := 5) (v := nI 5) y3 (by omega) rfl
          have X : k1 = 0 → CODE P (apn cc1 m1' 5) (apn cm1 m1' 5) (m1' + 1) hh f8 g3 g4 c := fun hk => by
            have X := CODE_1 (o := 5) (y7 hk).2 (by omega) (by rw [show nd 5 = 2 from rfl]; omega) (by omega) (fun x => by omega)
            rw [show nd 5 = 2 from rfl, show gv 5 = 1 from rfl, show hh + 1 - 2 + 1 = hh by omega] at X
            exact X
          obtain ⟨w, I5, r, I5', r1, r2, r3, r4⟩ := ih g g' (i + 1) q1 (m1' + 1) k1 p1' l' I4 I4' _ _ hl' (by omega) (by omega) (by omega) (by omega) (by omega) z2 l2 X
          refine ⟨w, I5, r, I5', ?_, ?_, r3, ?_⟩
          · rw [f_Translator_expression_7, if_neg (show ¬ (400 : Int32) ≤ nI i from nI_ge (b := 400) (by omega) (by decide)), a1, if_neg (show ¬ nI 45 = 43 by decide), a0, if_neg (show ¬ ¬ nI 45 = 45 from fun x => x rfl), a0, pl_eq, if_pos (show ¬ nI 45 = 43 by decide), c1, x1', show (5 : Int32) = nI 5 from rfl, z1', pl_eq, hl2, nI_1, r1]
          · rw [f_Model_readX_14, b1, if_neg (show ¬ nI 45 = 43 by decide), b0, if_neg (show ¬ ¬ nI 45 = 45 from fun x => x rfl), b0, pl_eq, if_pos (show ¬ nI 45 = 43 by decide), d1, show f_RcM f' 1 0 0 I2' J' = _ from x2, oc_some, y1, if_pos (show ¬ nI 1 = 0 by decide), pl_eq, y4, hl2, show (5 : Int32) = nI 5 from rfl, l1, r2]
          · rcases r4 with r4 | ⟨r4, q2, m2, k2, p2, cc2, cm2, r5, r6, r7, r8, r9⟩
            · exact Or.inl r4
            · exact Or.inr ⟨r4, q2, m2, k2, p2, cc2, cm2, r5, r6, by omega, by omega, fun hk => ⟨(y7 (r9 hk).1).1, (r9 hk).2⟩⟩
      · have hne : ∀ x, (x = 43 ∨ x = 45) → ¬ cCq n t s = nI x := by
          intro x hx
          by_cases q : s < n
          · rw [cC_lt q]
            exact fun c => by
              have := (nI_eq (by have := (ht.2 s q).2; omega) (by omega)).mp c
              rcases hx with rfl | rfl
              · exact e ⟨q, this⟩
              · exact e' ⟨q, this⟩
          · rw [cC_ge (by omega)]
            rcases hx with rfl | rfl <;> decide
        have hne' : ∀ x, (x = 43 ∨ x = 45) → ¬ cM n t s = nI x := by
          intro x hx
          by_cases q : s < n
          · rw [cM_lt q]
            exact fun c => by
              have := (nI_eq (by have := (ht.2 s q).2; omega) (by omega)).mp c
              rcases hx with rfl | rfl
              · exact e ⟨q, this⟩
              · exact e' ⟨q, this⟩
          · rw [cM_ge (by omega)]
            rcases hx with rfl | rfl <;> decide
        have a0 := fun {α : Type} {F : Int32 → MI → MJ → Option α} => LC0 (J := J) ht a2 a3 (F := F)
        have b0 := fun {α : Type} {F : Int32 → MI → MJ → Option α} => SM0 (J := J') ht b2 a3 (F := F)
        have n1 := hne 43 (by omega)
        have n2 := hne 45 (by omega)
        have n3 := hne' 43 (by omega)
        have n4 := hne' 45 (by omega)
        have eM : f_Model_readX_14 (f_RcM f') (g' + 1) l I' J' = some (.inr l, I1', J') := by
          rw [f_Model_readX_14]
          simp (disch := omega) only [a11, a01, ↓li_m, ↓oc_some, ↓oc_ite, ↓oc_oc, ↓oc_pl, ↓oc_none, ↓oc_oe, ↓pl_eq, ↓oe_i, ↓oe_j, va_up_self, va_up_ne, va_up_up, upd_s, upd_n, updL_s, updL_n, nI_add, nI_1, nI_ltI, nI_leI, nI_eq, nI_clamp, li_n, m1_lt, m1_le, m1_gt, m1_ge, m1_ne, m1_en, m1_ad, nle_F, nle_T, nlt_F, nlt_T, neq_F, neq_T, or_self, or_false, false_or, true_or, or_true, and_self, and_false, false_and, true_and, and_true, not_true_eq_false, not_false_eq_true, ↓reduceIte, if_true, if_false, Nat.reduceAdd, ite_self, Bool.false_eq_true, ↓b1, ↓b0, n3, n4]
        by_cases x : 400 ≤ i
        · have hsq : s = q := by omega
          subst hsq
          refine ⟨l, I, .inr l, I1', ?_, eM, hl, Or.inr ⟨rfl, s, m, k, p, cc, cm, hA, b2, Nat.le_refl s, by omega, fun hk => ⟨hk, hC hk⟩⟩⟩
          rw [f_Translator_expression_7]
          simp (disch := omega) only [a11, a01, ↓li_m, ↓oc_some, ↓oc_ite, ↓oc_oc, ↓oc_pl, ↓oc_none, ↓oc_oe, ↓pl_eq, ↓oe_i, ↓oe_j, va_up_self, va_up_ne, va_up_up, upd_s, upd_n, updL_s, updL_n, nI_add, nI_1, nI_ltI, nI_leI, nI_eq, nI_clamp, li_n, m1_lt, m1_le, m1_gt, m1_ge, m1_ne, m1_en, m1_ad, nle_F, nle_T, nlt_F, nlt_T, neq_F, neq_T, or_self, or_false, false_or, true_or, or_true, and_self, and_false, false_and, true_and, and_true, not_true_eq_false, not_false_eq_true, ↓reduceIte, if_true, if_false, Nat.reduceAdd, ite_self, Bool.false_eq_true]
        · refine ⟨l, I1, .inr l, I1', ?_, eM, hl, Or.inr ⟨rfl, s, m, k, p, cc, cm, a2, b2, a4, by omega, fun hk => ⟨hk, hC hk⟩⟩⟩
          rw [f_Translator_expression_7]
          simp (disch := omega) only [a11, a01, ↓li_m, ↓oc_some, ↓oc_ite, ↓oc_oc, ↓oc_pl, ↓oc_none, ↓oc_oe, ↓pl_eq, ↓oe_i, ↓oe_j, va_up_self, va_up_ne, va_up_up, upd_s, upd_n, updL_s, updL_n, nI_add, nI_1, nI_ltI, nI_leI, nI_eq, nI_clamp, li_n, m1_lt, m1_le, m1_gt, m1_ge, m1_ne, m1_en, m1_ad, nle_F, nle_T, nlt_F, nlt_T, neq_F, neq_T, or_self, or_false, false_or, true_or, or_true, and_self, and_false, false_and, true_and, and_true, not_true_eq_false, not_false_eq_true, ↓reduceIte, if_true, if_false, Nat.reduceAdd, ite_self, Bool.false_eq_true, ↓a1, ↓a0, n1, n2]
theorem EXPR_of (ht : tpOK n t) (hD : D ≤ 20) (hF : PROD n t P D U f8 f9 g2 g3 g4 g5 c J J') : EXPR n t P D U f8 f9 g2 g3 g4 g5 c J J' := by
  intro fc fm q m k p h I I' cc cm e1 e2 e3 e4 hA hM hC
  obtain ⟨f, rfl⟩ : ∃ f, fc = f + 1 := ⟨fc - 1, by omega⟩
  obtain ⟨f', rfl⟩ : ∃ f, fm = f + 1 := ⟨fm - 1, by omega⟩
  have hn := ht.1
  rw [RT9, RM0]
  unfold f_Translator_expression f_Model_readX
  obtain ⟨v, I3, v', I3', x1, x2, x3, x4⟩ := hF f f' q m k p h I I' cc cm (by omega) (by omega) e3 (by omega) hA hM hC
  rcases x4 with ⟨y1, x, y2, y3, y4⟩ | ⟨y1, q1, m1', k1, p1', cc1, cm1, y2, y3, y4, y5, y6, y7⟩
  · obtain ⟨I5, z3, z4⟩ := Z_e7 (J := J) (R := f_RcT f) (l := v) (fu := gF) (i := 0) ht (by decide) (by omega) y2
    refine ⟨v, I5, nI 0, I3', ?_, ?_, x3, Or.inl ⟨rfl, x, z4, y3, y4⟩⟩
    · rw [x1, oc_some, show f_Translator_expression_7 (f_RcT f) gF v 0 I3 J = _ from z3, oc_some, if_pos (show v = 0 ∨ v = 1 from x3)]
    · rw [x2, oc_some, y1, if_neg (show ¬ ¬ nI 0 = 0 from fun x => x rfl)]
      rfl
  · have hq1 : q1 ≤ n := y2.2.2.2.2.2.2.2.2.2.2.2.2.1
    obtain ⟨w, I5, r, I5', r1, r2, r3, r4⟩ := XLP (J := J) (J' := J') (f := f) (f' := f') ht hD (hh := h + 1) (by omega) (by omega) (by omega) (by omega) hF n gF gF 0 q1 m1' k1 p1' v I3 I3' cc1 cm1 x3 (by omega) (by omega) (gF_lt (by omega)) (gF_lt (by omega)) (by omega) y2 y3 (fun hk => (y7 hk).2)
    have eC : f_Translator_expression_7 (f_RcT f) gF v 0 I3 J = some (w, I5, J) := r1
    rcases r4 with ⟨r4, r5⟩ | ⟨r4, q2, m2, k2, p2, cc2, cm2, r5, r6, r7, r8, r9⟩
    · refine ⟨w, I5, nI 0, I5', ?_, ?_, r3, Or.inl ⟨rfl, r5⟩⟩
      · rw [x1, oc_some, eC, oc_some, if_pos (show w = 0 ∨ w = 1 from r3)]
      · rw [x2, oc_some, y1, if_pos (show ¬ nI 1 = 0 by decide), pl_eq, y4, r2, oc_some, r4, oe_i]
        rfl
    · refine ⟨w, I5, nI 1, va_up I5' 112 (upd (I5' 112) 73 w), ?_, ?_, r3, Or.inr ⟨rfl, q2, m2, k2, p2, cc2, cm2, r5, XM r6, by simp (disch := omega) only [a11, a01, ↓li_m, ↓oc_some, ↓oc_ite, ↓oc_oc, ↓oc_pl, ↓oc_none, ↓oc_oe, ↓pl_eq, ↓oe_i, ↓oe_j, va_up_self, va_up_ne, va_up_up, upd_s, upd_n, updL_s, updL_n, nI_add, nI_1, nI_ltI, nI_leI, nI_eq, nI_clamp, li_n, m1_lt, m1_le, m1_gt, m1_ge, m1_ne, m1_en, m1_ad, nle_F, nle_T, nlt_F, nlt_T, neq_F, neq_T, or_self, or_false, false_or, true_or, or_true, and_self, and_false, false_and, true_and, and_true, not_true_eq_false, not_false_eq_true, ↓reduceIte, if_true, if_false, Nat.reduceAdd, ite_self, Bool.false_eq_true], by omega, by omega, fun hk => ⟨(y7 (r9 hk).1).1, (r9 hk).2⟩⟩⟩
      · rw [x1, oc_some, eC, oc_some, if_pos (show w = 0 ∨ w = 1 from r3)]
      · rw [x2, oc_some, y1, if_pos (show ¬ nI 1 = 0 by decide), pl_eq, y4, r2, oc_some, r4, oe_j, if_pos (show w = 0 ∨ w = 1 from r3)]
        rfl
theorem EX_all (ht : tpOK n t) : ∀ (j D : Nat), D + j = 20 → EXPR n t P D U f8 f9 g2 g3 g4 g5 c J J' ∧ FACT n t P D U f8 f9 g2 g3 g4 g5 c J J' ∧ INDX n t P D U f8 f9 g2 g3 g4 g5 c J J' := by
  intro j
  induction j with
  | zero =>
    intro D hD
    have hI := INDX_of (P := P) (D := D) (U := U) (f8 := f8) (f9 := f9) (g2 := g2) (g3 := g3) (g4 := g4) (g5 := g5) (c := c) (J := J) (J' := J') ht (by omega) (fun x => by omega)
    have hA := ATOM_of ht (by omega) (fun x => by omega) hI
    have hF := FACT_of ht (by omega) (fun x => by omega) hA
    exact ⟨EXPR_of ht (by omega) (PROD_of ht (by omega) hF), hF, hI⟩
  | succ j ih =>
    intro D hD
    obtain ⟨i1, i2, _⟩ := ih (D + 1) (by omega)
    have hI := INDX_of (P := P) (D := D) (U := U) (f8 := f8) (f9 := f9) (g2 := g2) (g3 := g3) (g4 := g4) (g5 := g5) (c := c) (J := J) (J' := J') ht (by omega) (fun _ => i1)
    have hA := ATOM_of ht (by omega) (fun _ => i1) hI
    have hF := FACT_of ht (by omega) (fun _ => i2) hA
    exact ⟨EXPR_of ht (by omega) (PROD_of ht (by omega) hF), hF, hI⟩
end CM
