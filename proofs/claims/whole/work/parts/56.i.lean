/-! compile: factors, products, sums -/
def FACT (n : Nat) (t : Nat → Nat) (P D U : Nat) (f8 f9 g2 g3 g4 g5 : Nat → Int32) (c : Nat) (J J' : MJ) : Prop := ∀ (fc fm q m k p h : Nat) (I I' : MI) (cc cm : Nat → Nat), 5 * (21 - D) + 2 ≤ fc → 5 * (21 - D) + 2 ≤ fm → m + 10 ≤ 5 * q → h ≤ 2 * D + 3 → CA n t P I q m D U k p f8 f9 cc → MA n t P I' q m D U k p g2 g3 g4 g5 c cm → (k = 0 → CODE P cc cm m h f8 g3 g4 c) → OX n t P D U f8 f9 g2 g3 g4 g5 c J J' q m h k (f_RcT fc 11 0 0 I J) (f_RcM fm 2 0 0 I' J')
def PROD (n : Nat) (t : Nat → Nat) (P D U : Nat) (f8 f9 g2 g3 g4 g5 : Nat → Int32) (c : Nat) (J J' : MJ) : Prop := ∀ (fc fm q m k p h : Nat) (I I' : MI) (cc cm : Nat → Nat), 5 * (21 - D) + 3 ≤ fc → 5 * (21 - D) + 3 ≤ fm → m + 10 ≤ 5 * q → h ≤ 2 * D + 2 → CA n t P I q m D U k p f8 f9 cc → MA n t P I' q m D U k p g2 g3 g4 g5 c cm → (k = 0 → CODE P cc cm m h f8 g3 g4 c) → OX n t P D U f8 f9 g2 g3 g4 g5 c J J' q m h k (f_RcT fc 10 0 0 I J) (f_RcM fm 1 0 0 I' J')
/-- one byte more: an operation without operands -/
theorem CODE_1 {P m h o c : Nat} {cc cm : Nat → Nat} {f8 g3 g4 : Nat → Int32} (H : CODE P cc cm m h f8 g3 g4 c) (ho : o = 4 ∨ o = 5 ∨ o = 6 ∨ o = 7 ∨ o = 8 ∨ o = 29) (hn : nd o ≤ h) (h6 : h ≤ 60) (h29 : o = 29 → h = 0) : CODE P (apn cc m o) (apn cm m o) (m + 1) (h - nd o + gv o) f8 g3 g4 c := by
  have ol : opl o = 1 := by rcases ho with rfl | rfl | rfl | rfl | rfl | rfl <;> rfl
  have og : gv o ≤ 1 := by rcases ho with rfl | rfl | rfl | rfl | rfl | rfl <;> decide
  have X := CODE_ext (o := o) (cc' := apn cc m o) (cm' := apn cm m o) H (fun j hj => apn_n _ _ (by omega)) (fun j hj => apn_n _ _ (by omega)) (fun j j1 j2 => by
    rw [ol] at j2
    rw [show j = m by omega, apn_s, apn_s]
    exact ⟨rfl, by omega⟩) (apn_s _ _ _) (by omega) (by omega) (by omega) (by
    unfold opok
    rw [apn_s]
    rcases ho with rfl | rfl | rfl | rfl | rfl | rfl <;> rfl) hn (by omega) (fun x => h29 (by omega)) (fun x => by omega)
  rw [ol] at X
  exact X
section CM
variable {n P m D U k p c q : Nat} {t : Nat → Nat} {I I' : MI} {J J' : MJ} {f8 f9 g2 g3 g4 g5 : Nat → Int32} {cc cm : Nat → Nat}
theorem RM2 {fu : Nat} {a b : Int32} : f_RcM (fu + 1) 2 a b I J = f_Model_readFactor (f_RcM fu) I J := rfl
theorem RM1 {fu : Nat} {a b : Int32} : f_RcM (fu + 1) 1 a b I J = f_Model_readProduct (f_RcM fu) I J := rfl
theorem RM0 {fu : Nat} {a b : Int32} : f_RcM (fu + 1) 0 a b I J = f_Model_readX (f_RcM fu) I J := rfl
theorem CODE_64 {h : Nat} (H : CODE P cc cm m h f8 g3 g4 c) : h ≤ 64 := by
  obtain ⟨st, hg, ⟨_, _, x, _⟩, _⟩ := H
  exact x
theorem Z_f40 (ht : tpOK n t) {x : Int32} {R : M3} {l : Int32} (h : SD n t x I) : ∃ I1, f_Translator_factor_40 R gF l 0 I J = some ((), I1, J) ∧ SD n t x I1 := by
  obtain ⟨v, I1, e1, e2, e3⟩ := Z_look (J := J) ht h
  refine ⟨I1, ?_, e3⟩
  show f_Translator_factor_40 R (999999 + 1) l 0 I J = _
  rw [f_Translator_factor_40, if_neg (by decide), e1, if_pos (show ¬ v = 94 from dv_ne (c := 94) e2 (by omega) (by omega))]
theorem Z_p7 (ht : tpOK n t) {x : Int32} {R : M3} {l : Int32} {fu i : Nat} (hf : 1 ≤ fu) (hi : i ≤ 401) (h : SD n t x I) : ∃ I1, f_Translator_product_7 R fu l (nI i) I J = some (l, I1, J) ∧ SD n t x I1 := by
  obtain ⟨f, rfl⟩ : ∃ f, fu = f + 1 := ⟨fu - 1, by omega⟩
  obtain ⟨v, I1, e1, e2, e3⟩ := Z_look (J := J) ht h
  by_cases q : 400 ≤ i
  · refine ⟨I, ?_, h⟩
    rw [f_Translator_product_7, if_pos (show (400 : Int32) ≤ nI i from nI_le (a := 400) q (by omega))]
  · refine ⟨I1, ?_, e3⟩
    rw [f_Translator_product_7, if_neg (show ¬ (400 : Int32) ≤ nI i from nI_ge (b := 400) (by omega) (by decide)), e1, if_pos (show ¬ v = 42 from dv_ne (c := 42) e2 (by omega) (by omega))]
theorem Z_e7 (ht : tpOK n t) {x : Int32} {R : M3} {l : Int32} {fu i : Nat} (hf : 1 ≤ fu) (hi : i ≤ 401) (h : SD n t x I) : ∃ I1, f_Translator_expression_7 R fu l (nI i) I J = some (l, I1, J) ∧ SD n t x I1 := by
  obtain ⟨f, rfl⟩ : ∃ f, fu = f + 1 := ⟨fu - 1, by omega⟩
  obtain ⟨v, I1, e1, e2, e3⟩ := Z_look (J := J) ht h
  obtain ⟨v2, I2, e4, e5, e6⟩ := Z_look (J := J) ht e3
  by_cases q : 400 ≤ i
  · refine ⟨I, ?_, h⟩
    rw [f_Translator_expression_7, if_pos (show (400 : Int32) ≤ nI i from nI_le (a := 400) q (by omega))]
  · refine ⟨I2, ?_, e6⟩
    rw [f_Translator_expression_7, if_neg (show ¬ (400 : Int32) ≤ nI i from nI_ge (b := 400) (by omega) (by decide)), e1, if_neg (show ¬ v = 43 from dv_ne (c := 43) e2 (by omega) (by omega)), e4, if_pos (show ¬ v2 = 45 from dv_ne (c := 45) e5 (by omega) (by omega))]
theorem FACT_of (ht : tpOK n t) (hD : D ≤ 20) (hF : D < 20 → FACT n t P (D + 1) U f8 f9 g2 g3 g4 g5 c J J') (hA0 : ATOM n t P D U f8 f9 g2 g3 g4 g5 c J J') : FACT n t P D U f8 f9 g2 g3 g4 g5 c J J' := by
  intro fc fm q m k p h I I' cc cm e1 e2 e3 e4 hA hM hC
  obtain ⟨f, rfl⟩ : ∃ f, fc = f + 1 := ⟨fc - 1, by omega⟩
  obtain ⟨f', rfl⟩ : ∃ f, fm = f + 1 := ⟨fm - 1, by omega⟩
  have hn := ht.1
  rw [RT11, RM2]
  unfold f_Translator_factor f_Model_readFactor
  obtain ⟨I1, a1, a2, a3, a4, a5⟩ := LC (J := J) ht hA
  obtain ⟨I1', b1, b2, b3⟩ := SM (J := J') ht hM
  generalize spq n t q = s at a1 a2 a3 a4 a5 b1 b2
  have pM15 : I1' 112 15 = nI D := b2.2.2.2.1
  have pM5 : I1' 112 5 = nI s := b2.2.2.1
  by_cases w : s < n ∧ t s = 45
  · obtain ⟨hs, w5⟩ := w
    rw [cC_lt hs, w5] at a1
    rw [cM_lt hs, w5] at b1
    obtain ⟨I2', d1, d2, d3, d4⟩ := PM b2 hs
    by_cases hD2 : D < 20
    · obtain ⟨K2, k1', k2⟩ := EnC (J := J) ht a2 hs hD2
      have d5 := DM (y := I2' 112 15 + 1) d2 (show D + 1 ≤ 20 by omega) (by rw [d2.2.2.2.1, nI_1])
      have hN : va_up I2' 112 (upd (I2' 112) 15 (I2' 112 15 + 1)) = va_up I1' 112 (upd (upd (I1' 112) 5 (nI (s + 1))) 15 (nI (D + 1))) := by
        rw [← d4]
        simp (disch := omega) only [a11, a01, ↓li_m, ↓oc_some, ↓oc_ite, ↓oc_oc, ↓oc_pl, ↓oc_none, ↓oc_oe, ↓pl_eq, ↓oe_i, ↓oe_j, va_up_self, va_up_ne, va_up_up, upd_s, upd_n, updL_s, updL_n, nI_add, nI_1, nI_ltI, nI_leI, nI_eq, nI_clamp, li_n, m1_lt, m1_le, m1_gt, m1_ge, m1_ne, m1_en, m1_ad, nle_F, nle_T, nlt_F, nlt_T, neq_F, neq_T, or_self, or_false, false_or, true_or, or_true, and_self, and_false, false_and, true_and, and_true, not_true_eq_false, not_false_eq_true, ↓reduceIte, if_true, if_false, Nat.reduceAdd, ite_self, Bool.false_eq_true, pM5, pM15]
      rw [hN] at d5
      obtain ⟨v, I3, v', I3', x1, x2, x3, x4⟩ := hF hD2 f f' (s + 1) m k p h K2 _ cc cm (by omega) (by omega) (by omega) (by omega) k2 d5 hC
      have x1' : ∀ {α : Type} {F : Int32 → MI → MJ → Option α}, oc (f_RcT f 11 0 0 K2 J) F = F v I3 J := fun {α F} => by rw [x1, oc_some]
      have x2' : ∀ {α : Type} {F : Int32 → MI → MJ → Option α}, oc (f_RcM f' 2 (nI 0) (nI 0) (va_up I1' 112 (upd (upd (I1' 112) 5 (nI (s + 1))) 15 (nI (D + 1)))) J') F = F v' I3' J' := fun {α F} => by rw [show f_RcM f' 2 (nI 0) (nI 0) (va_up I1' 112 (upd (upd (I1' 112) 5 (nI (s + 1))) 15 (nI (D + 1)))) J' = _ from x2, oc_some]
      have hvv : (v = nI 0 ∨ v = nI 1) := x3
      rcases x4 with ⟨y1, x, y2, y3, y4⟩ | ⟨y1, q1, m1', k1, p1', cc1, cm1, y2, y3, y4, y5, y6, y7⟩
      · obtain ⟨_, I4, z1, z2⟩ := Z_leave (J := J) y2
        have z1' : ∀ {α : Type} {F : Unit → MI → MJ → Option α}, oc (f_Translator_leave I3 J) F = F () I4 J := fun {α F} => by rw [z1, oc_some]
        obtain ⟨_, I5, z3, z4⟩ := Z_emit (J := J) (o := 8) (u := 0) (v := 0) (w := 0) z2
        have z3' : ∀ {α : Type} {F : Unit → MI → MJ → Option α}, oc (f_Translator_emit 8 0 0 0 I4 J) F = F () I5 J := fun {α F} => by rw [z3, oc_some]
        refine ⟨v, I5, nI 0, va_up I3' 112 (upd (I3' 112) 15 (I3' 112 15 - nI 1)), ?_, ?_, hvv, Or.inl ⟨rfl, x, z4, by simp (disch := omega) only [a11, a01, ↓li_m, ↓oc_some, ↓oc_ite, ↓oc_oc, ↓oc_pl, ↓oc_none, ↓oc_oe, ↓pl_eq, ↓oe_i, ↓oe_j, va_up_self, va_up_ne, va_up_up, upd_s, upd_n, updL_s, updL_n, nI_add, nI_1, nI_ltI, nI_leI, nI_eq, nI_clamp, li_n, m1_lt, m1_le, m1_gt, m1_ge, m1_ne, m1_en, m1_ad, nle_F, nle_T, nlt_F, nlt_T, neq_F, neq_T, or_self, or_false, false_or, true_or, or_true, and_self, and_false, false_and, true_and, and_true, not_true_eq_false, not_false_eq_true, ↓reduceIte, if_true, if_false, Nat.reduceAdd, ite_self, Bool.false_eq_true, y3], by simp (disch := omega) only [a11, a01, ↓li_m, ↓oc_some, ↓oc_ite, ↓oc_oc, ↓oc_pl, ↓oc_none, ↓oc_oe, ↓pl_eq, ↓oe_i, ↓oe_j, va_up_self, va_up_ne, va_up_up, upd_s, upd_n, updL_s, updL_n, nI_add, nI_1, nI_ltI, nI_leI, nI_eq, nI_clamp, li_n, m1_lt, m1_le, m1_gt, m1_ge, m1_ne, m1_en, m1_ad, nle_F, nle_T, nlt_F, nlt_T, neq_F, neq_T, or_self, or_false, false_or, true_or, or_true, and_self, and_false, false_and, true_and, and_true, not_true_eq_false, not_false_eq_true, ↓reduceIte, if_true, if_false, Nat.reduceAdd, ite_self, Bool.false_eq_true, y4]⟩⟩
        · rcases hvv with hv | hv
          · simp (disch := omega) only [a11, a01, ↓li_m, ↓oc_some, ↓oc_ite, ↓oc_oc, ↓oc_pl, ↓oc_none, ↓oc_oe, ↓pl_eq, ↓oe_i, ↓oe_j, va_up_self, va_up_ne, va_up_up, upd_s, upd_n, updL_s, updL_n, nI_add, nI_1, nI_ltI, nI_leI, nI_eq, nI_clamp, li_n, m1_lt, m1_le, m1_gt, m1_ge, m1_ne, m1_en, m1_ad, nle_F, nle_T, nlt_F, nlt_T, neq_F, neq_T, or_self, or_false, false_or, true_or, or_true, and_self, and_false, false_and, true_and, and_true, not_true_eq_false, not_false_eq_true, ↓reduceIte, if_true, if_false, Nat.reduceAdd, ite_self, Bool.false_eq_true, ↓a1, ↓k1', ↓x1', ↓z1', ↓z3', hv]
          · simp (disch := omega) only [a11, a01, ↓li_m, ↓oc_some, ↓oc_ite, ↓oc_oc, ↓oc_pl, ↓oc_none, ↓oc_oe, ↓pl_eq, ↓oe_i, ↓oe_j, va_up_self, va_up_ne, va_up_up, upd_s, upd_n, updL_s, updL_n, nI_add, nI_1, nI_ltI, nI_leI, nI_eq, nI_clamp, li_n, m1_lt, m1_le, m1_gt, m1_ge, m1_ne, m1_en, m1_ad, nle_F, nle_T, nlt_F, nlt_T, neq_F, neq_T, or_self, or_false, false_or, true_or, or_true, and_self, and_false, false_and, true_and, and_true, not_true_eq_false, not_false_eq_true, ↓reduceIte, if_true, if_false, Nat.reduceAdd, ite_self, Bool.false_eq_true, ↓a1, ↓k1', ↓x1', ↓z1', ↓z3', hv]
        · simp (disch := omega) only [a11, a01, ↓li_m, ↓oc_some, ↓oc_ite, ↓oc_oc, ↓oc_pl, ↓oc_none, ↓oc_oe, ↓pl_eq, ↓oe_i, ↓oe_j, va_up_self, va_up_ne, va_up_up, upd_s, upd_n, updL_s, updL_n, nI_add, nI_1, nI_ltI, nI_leI, nI_eq, nI_clamp, li_n, m1_lt, m1_le, m1_gt, m1_ge, m1_ne, m1_en, m1_ad, nle_F, nle_T, nlt_F, nlt_T, neq_F, neq_T, or_self, or_false, false_or, true_or, or_true, and_self, and_false, false_and, true_and, and_true, not_true_eq_false, not_false_eq_true, ↓reduceIte, if_true, if_false, Nat.reduceAdd, ite_self, Bool.false_eq_true, ↓b1, pM15, pM5, x2', y1]
      · have hq1 : q1 ≤ n := y2.2.2.2.2.2.2.2.2.2.2.2.2.1
        have y315 : I3' 112 15 = nI (D + 1) := y3.2.2.2.1
        obtain ⟨I4, z1', z2⟩ := LvC (J := J) y2 (by omega)
        obtain ⟨I5, z3', z4⟩ := EM1' (J := J) (a := 8) (u := 0) (v := 0) (w := 0) (o := 8) z2 rfl (by decide) (by decide) (by omega)
        have u5 := DM (x := D) (y := nI D) y3 (by omega) rfl
        obtain ⟨I5', l1, l2, l3⟩ := AM (J := J') (b := 8) (v := nI 8) u5 (by omega) rfl
        refine ⟨v, I5, nI 1, I5', ?_, ?_, hvv, Or.inr ⟨rfl, q1, m1' + 1, k1, p1', _, _, z4, l2, ?_, by omega, by omega, fun hk => ⟨(y7 hk).1, ?_⟩⟩⟩
        · rcases hvv with hv | hv
          · simp (disch := omega) only [a11, a01, ↓li_m, ↓oc_some, ↓oc_ite, ↓oc_oc, ↓oc_pl, ↓oc_none, ↓oc_oe, ↓pl_eq, ↓oe_i, ↓oe_j, va_up_self, va_up_ne, va_up_up, upd_s, upd_n, updL_s, updL_n, nI_add, nI_1, nI_ltI, nI_leI, nI_eq, nI_clamp, li_n, m1_lt, m1_le, m1_gt, m1_ge, m1_ne, m1_en, m1_ad, nle_F, nle_T, nlt_F, nlt_T, neq_F, neq_T, or_self, or_false, false_or, true_or, or_true, and_self, and_false, false_and, true_and, and_true, not_true_eq_false, not_false_eq_true, ↓reduceIte, if_true, if_false, Nat.reduceAdd, ite_self, Bool.false_eq_true, ↓a1, ↓k1', ↓x1', ↓z1', ↓z3', hv]
          · simp (disch := omega) only [a11, a01, ↓li_m, ↓oc_some, ↓oc_ite, ↓oc_oc, ↓oc_pl, ↓oc_none, ↓oc_oe, ↓pl_eq, ↓oe_i, ↓oe_j, va_up_self, va_up_ne, va_up_up, upd_s, upd_n, updL_s, updL_n, nI_add, nI_1, nI_ltI, nI_leI, nI_eq, nI_clamp, li_n, m1_lt, m1_le, m1_gt, m1_ge, m1_ne, m1_en, m1_ad, nle_F, nle_T, nlt_F, nlt_T, neq_F, neq_T, or_self, or_false, false_or, true_or, or_true, and_self, and_false, false_and, true_and, and_true, not_true_eq_false, not_false_eq_true, ↓reduceIte, if_true, if_false, Nat.reduceAdd, ite_self, Bool.false_eq_true, ↓a1, ↓k1', ↓x1', ↓z1', ↓z3', hv]
        · have e1 : D + 1 - 1 = D := by omega
          simp (disch := omega) only [a11, a01, ↓li_m, ↓oc_some, ↓oc_ite, ↓oc_oc, ↓oc_pl, ↓oc_none, ↓oc_oe, ↓pl_eq, ↓oe_i, ↓oe_j, va_up_self, va_up_ne, va_up_up, upd_s, upd_n, updL_s, updL_n, nI_add, nI_1, nI_ltI, nI_leI, nI_eq, nI_clamp, li_n, m1_lt, m1_le, m1_gt, m1_ge, m1_ne, m1_en, m1_ad, nle_F, nle_T, nlt_F, nlt_T, neq_F, neq_T, or_self, or_false, false_or, true_or, or_true, and_self, and_false, false_and, true_and, and_true, not_true_eq_false, not_false_eq_true, ↓reduceIte, if_true, if_false, Nat.reduceAdd, ite_self, Bool.false_eq_true, ↓b1, pM15, pM5, x2', y1, n10e, y315, nI_sb, e1, l1]
        · rw [l3]
          simp (disch := omega) only [a11, a01, ↓li_m, ↓oc_some, ↓oc_ite, ↓oc_oc, ↓oc_pl, ↓oc_none, ↓oc_oe, ↓pl_eq, ↓oe_i, ↓oe_j, va_up_self, va_up_ne, va_up_up, upd_s, upd_n, updL_s, updL_n, nI_add, nI_1, nI_ltI, nI_leI, nI_eq, nI_clamp, li_n, m1_lt, m1_le, m1_gt, m1_ge, m1_ne, m1_en, m1_ad, nle_F, nle_T, nlt_F, nlt_T, neq_F, neq_T, or_self, or_false, false_or, true_or, or_true, and_self, and_false, false_and, true_and, and_true, not_true_eq_false, not_false_eq_true, ↓reduceIte, if_true, if_false, Nat.reduceAdd, ite_self, Bool.false_eq_true, y4]
        · have X := CODE_1 (o := 8) (y7 hk).2 (by omega) (by rw [show nd 8 = 1 from rfl]; omega) (by omega) (fun x => by omega)
          rw [show nd 8 = 1 from rfl, show gv 8 = 1 from rfl, show h + 1 - 1 + 1 = h + 1 by omega] at X
          exact X
    · have hD3 : D = 20 := by omega
      obtain ⟨K2, k1', k2⟩ := EnR (J := J) a2 hD3
      obtain ⟨R1', r3, r4, r5⟩ := RM (J := J') ht b2 a3
      obtain ⟨I3, x1, x2⟩ := Y_11 (J := J) (a := 0) (b := 0) ht (show 2 ≤ f by omega) k2
      have x1' : ∀ {α : Type} {F : Int32 → MI → MJ → Option α}, oc (f_RcT f 11 0 0 K2 J) F = F (nI 0) I3 J := fun {α F} => by rw [x1, oc_some]
      obtain ⟨_, I4, z1, z2⟩ := Y_leave (J := J) x2
      have z1' : ∀ {α : Type} {F : Unit → MI → MJ → Option α}, oc (f_Translator_leave I3 J) F = F () I4 J := fun {α F} => by rw [z1, oc_some]
      obtain ⟨_, I5, z3, z4⟩ := Y_emit (J := J) (o := 8) (u := 0) (v := 0) (w := 0) z2
      have z3' : ∀ {α : Type} {F : Unit → MI → MJ → Option α}, oc (f_Translator_emit 8 0 0 0 I4 J) F = F () I5 J := fun {α F} => by rw [z3, oc_some]
      refine ⟨nI 0, I5, nI 0, R1', ?_, ?_, Or.inl rfl, Or.inl ⟨rfl, nI s, z4.sd, r4, r5⟩⟩
      · simp (disch := omega) only [a11, a01, ↓li_m, ↓oc_some, ↓oc_ite, ↓oc_oc, ↓oc_pl, ↓oc_none, ↓oc_oe, ↓pl_eq, ↓oe_i, ↓oe_j, va_up_self, va_up_ne, va_up_up, upd_s, upd_n, updL_s, updL_n, nI_add, nI_1, nI_ltI, nI_leI, nI_eq, nI_clamp, li_n, m1_lt, m1_le, m1_gt, m1_ge, m1_ne, m1_en, m1_ad, nle_F, nle_T, nlt_F, nlt_T, neq_F, neq_T, or_self, or_false, false_or, true_or, or_true, and_self, and_false, false_and, true_and, and_true, not_true_eq_false, not_false_eq_true, ↓reduceIte, if_true, if_false, Nat.reduceAdd, ite_self, Bool.false_eq_true, ↓a1, ↓k1', ↓x1', ↓z1', ↓z3']
      · simp (disch := omega) only [a11, a01, ↓li_m, ↓oc_some, ↓oc_ite, ↓oc_oc, ↓oc_pl, ↓oc_none, ↓oc_oe, ↓pl_eq, ↓oe_i, ↓oe_j, va_up_self, va_up_ne, va_up_up, upd_s, upd_n, updL_s, updL_n, nI_add, nI_1, nI_ltI, nI_leI, nI_eq, nI_clamp, li_n, m1_lt, m1_le, m1_gt, m1_ge, m1_ne, m1_en, m1_ad, nle_F, nle_T, nlt_F, nlt_T, neq_F, neq_T, or_self, or_false, false_or, true_or, or_true, and_self, and_false, false_and, true_and, and_true, not_true_eq_false, not_false_eq_true, ↓reduceIte, if_true, if_false, Nat.reduceAdd, ite_self, Bool.false_eq_true, ↓b1, pM15, ↓r3]
  · have hne : ¬ cCq n t s = nI 45 := by
      by_cases q : s < n
      · rw [cC_lt q]
        exact fun c => w ⟨q, (nI_eq (by have := (ht.2 s q).2; omega) (by omega)).mp c⟩
      · rw [cC_ge (by omega)]
        decide
    have hne' : ¬ cM n t s = nI 45 := by
      by_cases q : s < n
      · rw [cM_lt q]
        exact fun c => w ⟨q, (nI_eq (by have := (ht.2 s q).2; omega) (by omega)).mp c⟩
      · rw [cM_ge (by omega)]
        decide
    obtain ⟨v, I3, v', I3', x1, x2, x3, x4⟩ := hA0 f f' s m k p h I1 I1' cc cm (by omega) (by omega) (by omega) e4 a2 b2 hC
    have x1' : ∀ {α : Type} {F : Int32 → MI → MJ → Option α}, oc (f_RcT f 12 0 0 I1 J) F = F v I3 J := fun {α F} => by rw [x1, oc_some]
    have x2' : ∀ {α : Type} {F : Int32 → MI → MJ → Option α}, oc (f_RcM f' 3 0 0 I1' J') F = F v' I3' J' := fun {α F} => by rw [x2, oc_some]
    have hvv : (v = nI 0 ∨ v = nI 1) := x3
    rcases x4 with ⟨y1, x, y2, y3⟩ | ⟨y1, q1, m1', k1, p1', cc1, cm1, y2, y3, y4, y5, y6, y7⟩
    · obtain ⟨I4, z1, z2⟩ := Z_f40 (J := J) (R := f_RcT f) (l := v) ht y2
      refine ⟨v, I4, nI 0, I3', ?_, ?_, hvv, Or.inl ⟨rfl, x, z2, y3⟩⟩
      · rw [a1, if_pos (show ¬ cCq n t s = 45 from hne), x1', z1, oc_some, if_pos (show v = 0 ∨ v = 1 from hvv)]
      · rw [b1, if_pos (show ¬ cM n t s = 45 from hne'), x2', y1, if_neg (show ¬ ¬ nI 0 = 0 from fun x => x rfl)]
        rfl
    · have hq1 : q1 ≤ n := y2.2.2.2.2.2.2.2.2.2.2.2.2.1
      obtain ⟨I4, I4', q2, m2, cc2, cm2, r1, r2, r3, r4, r5, r6, r7, r8⟩ := FLP (J := J) (J' := J') (R := f_RcT f) (R' := f_RcM f') ht (l := v) (hh := h + 1) hvv (by omega) n gF gF 0 q1 m1' I3 I3' cc1 cm1 (by omega) (by omega) (gF_lt (by omega)) (gF_lt (by omega)) (by omega) y2 y3 y4 (fun hk => (y7 hk).2)
      refine ⟨v, I4, nI 1, I4', ?_, ?_, hvv, Or.inr ⟨rfl, q2, m2, k1, p1', cc2, cm2, r3, r4, r5, by omega, by omega, fun hk => ⟨(y7 hk).1, r8 hk⟩⟩⟩
      · rw [a1, if_pos (show ¬ cCq n t s = 45 from hne), x1', show f_Translator_factor_40 (f_RcT f) gF v 0 I3 J = _ from r1, oc_some, if_pos (show v = 0 ∨ v = 1 from hvv)]
      · rw [b1, if_pos (show ¬ cM n t s = 45 from hne'), x2', y1, if_pos (show ¬ nI 1 = 0 by decide), r2, oc_some]
        rfl
end CM
