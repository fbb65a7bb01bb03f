/-! compile: statements; what a translator does that is stuck -/
section ZK
variable {n : Nat} {t : Nat → Nat} {x : Int32} {I : MI} {J : MJ}
theorem YX (ht : tpOK n t) {c : Int32} (h : SS n t x I) (hc : ¬ m1 = c) : zk (SS n t x) J (f_Translator_expect c I J) := by
  unfold f_Translator_expect
  obtain ⟨I1, e1, e3⟩ := Y_look (J := J) ht h
  rw [e1, if_pos hc, Y_refuse e3, oc_some]
  exact zk_some e3
theorem YB {a b : Int32} (h : SS n t x I) : zk (SS n t x) J (f_Translator_blame a b I J) := ⟨_, _, Y_blame h, h⟩
theorem YwS {a b : Int32} (h : SS n t x I) : zk (SS n t x) J (f_Translator_wantSecret a b I J) := ⟨_, _, Y_wS h, h⟩
theorem YwC {a b : Int32} (h : SS n t x I) : zk (SS n t x) J (f_Translator_wantClear a b I J) := ⟨_, _, Y_wC h, h⟩
theorem YP (h : SS n t x I) : zk (SS n t x) J (f_Translator_pass I J) := ⟨_, _, Y_pass h, h⟩
theorem YRf (h : SS n t x I) : zk (SS n t x) J (f_Translator_refuse I J) := ⟨_, _, Y_refuse h, h⟩
theorem zk_of {α : Type} {r : M2 α} {v : α} {I1 : MI} (e : ∀ {β : Type} {F : α → MI → MJ → Option β}, oc r F = F v I1 J) (h : SS n t x I1) : zk (SS n t x) J r := by
  have := e (F := fun v I J => some (v, I, J))
  cases r with
  | none => exact absurd this (by intro c; cases c)
  | some y =>
    obtain ⟨a, b, d⟩ := y
    have this : some (a, b, d) = some (v, I1, J) := this
    obtain ⟨rfl, rfl, rfl⟩ := s_inj this
    exact ⟨_, _, rfl, h⟩
theorem Yar (ht : tpOK n t) (h : SS n t x I) : zk (SS n t x) J (f_Translator_array I J) := by
  obtain ⟨I1, e, h1⟩ := Y_arr (J := J) ht h
  exact zk_of e h1
theorem Yva (ht : tpOK n t) (h : SS n t x I) : zk (SS n t x) J (f_Translator_variable I J) := by
  obtain ⟨I1, e, h1⟩ := Y_var (J := J) ht h
  exact zk_of e h1
theorem YL (ht : tpOK n t) (h : SS n t x I) : zk (SS n t x) J (f_Translator_look I J) := by
  obtain ⟨I1, e, h1⟩ := Y_look (J := J) ht h
  exact zk_of e h1
theorem Ydc (ht : tpOK n t) (h : SS n t x I) : zk (SS n t x) J (f_Translator_decider I J) := by
  unfold f_Translator_decider
  refine zk_oc (YL ht h) fun _ I1 h1 => ?_
  refine zk_pl ?_
  refine zk_oc (Yva ht h1) fun _ I2 h2 => ?_
  refine zk_oc (YwC h2) fun _ I3 h3 => ?_
  exact zk_some h3
theorem YR0 (ht : tpOK n t) {fu : Nat} (hf : 2 ≤ fu) (h : SS n t x I) : zk (SS n t x) J (f_RcT fu 0 0 0 I J) := by
  obtain ⟨I1, e, h1⟩ := Y_0 (J := J) (a := 0) (b := 0) ht hf h
  exact ⟨_, _, e, h1⟩
theorem YR9 (ht : tpOK n t) {fu : Nat} (hf : 4 ≤ fu) (h : SS n t x I) : zk (SS n t x) J (f_RcT fu 9 0 0 I J) := by
  obtain ⟨I1, e, h1⟩ := Y_9 (J := J) (a := 0) (b := 0) ht hf h
  exact ⟨_, _, e, h1⟩
theorem Y_chg {a b : Int32} (h : SS n t x I) : zk (SS n t x) J (f_Row_change 6 7 2000 a b I J) := by
  obtain ⟨m, b1, b2⟩ := h.2.2.2.2.2
  unfold f_Row_change
  by_cases h1 : a < 0
  · rw [if_pos h1]
    exact zk_some h
  · rw [if_neg h1]
    obtain ⟨j, hj, rfl⟩ := nI_of h1
    by_cases h2 : m ≤ j
    · rw [b1, if_pos (nI_le h2 hj)]
      exact zk_some h
    · rw [b1, if_neg (nI_ge (by omega) (by omega)), if_neg (nI_ge (by omega) (by omega)), if_neg (nI_in (by omega) (by omega))]
      exact zk_pl (zk_some (SS_o h (by decide) (by decide) (by decide) (by decide)))
theorem Y_aim {a b : Int32} (h : SS n t x I) : zk (SS n t x) J (f_Row_aim 6 7 2000 a b I J) := by
  unfold f_Row_aim
  refine zk_oc (Y_chg h) fun _ I1 h1 => ?_
  refine zk_oc (Y_chg h1) fun _ I2 h2 => ?_
  exact zk_some h2
theorem zk_7 {α : Type} {W : MI → Prop} {y : Int32} {F : MI → M2 α} (h : SS n t x I) (k : ∀ I1, SS n t x I1 → zk W J (F I1)) : zk W J (pl (va_up I 3 (upd (I 3) 7 y)) F) := k _ (SS_3 h (by decide) (by decide) (by decide) (by decide))
theorem zk_9 {α : Type} {W : MI → Prop} {y : Nat → Int32} {F : MI → M2 α} (h : SS n t x I) (k : ∀ I1, SS n t x I1 → zk W J (F I1)) : zk W J (pl (va_up I 9 y) F) := k _ (SS_o h (by decide) (by decide) (by decide) (by decide))
theorem zk_8 {α : Type} {W : MI → Prop} {y : Nat → Int32} {F : MI → M2 α} (h : SS n t x I) (k : ∀ I1, SS n t x I1 → zk W J (F I1)) : zk W J (pl (va_up I 8 y) F) := k _ (SS_o h (by decide) (by decide) (by decide) (by decide))
end ZK
section ZR
variable {n : Nat} {t : Nat → Nat} {x : Int32} {I : MI} {J : MJ} {α : Type} {W : MI → Prop} {a b c d : Int32}
theorem z_x (ht : tpOK n t) (h : SS n t x I) (hc : ¬ m1 = c) {F : Unit → MI → MJ → M2 α} (k : ∀ v I1, SS n t x I1 → zk W J (F v I1 J)) : zk W J (oc (f_Translator_expect c I J) F) := zk_oc (YX ht h hc) k
theorem z_oc {β : Type} {r : M2 β} {F : β → MI → MJ → M2 α} (h : zk (SS n t x) J r) (k : ∀ v I1, SS n t x I1 → zk (SS n t x) J (F v I1 J)) : zk (SS n t x) J (oc r F) := zk_oc h k
theorem z_em (h : SS n t x I) {F : Unit → MI → MJ → M2 α} (k : ∀ v I1, SS n t x I1 → zk W J (F v I1 J)) : zk W J (oc (f_Translator_emit a b c d I J) F) := zk_oc (Y_emit h) k
theorem z_ep (h : SS n t x I) {F : Unit → MI → MJ → M2 α} (k : ∀ v I1, SS n t x I1 → zk W J (F v I1 J)) : zk W J (oc (f_Translator_emitPlace a b c I J) F) := zk_oc (Y_emitPlace h) k
theorem z_b (h : SS n t x I) {F : Unit → MI → MJ → M2 α} (k : ∀ v I1, SS n t x I1 → zk W J (F v I1 J)) : zk W J (oc (f_Translator_blame a b I J) F) := zk_oc (YB h) k
theorem z_wS (h : SS n t x I) {F : Unit → MI → MJ → M2 α} (k : ∀ v I1, SS n t x I1 → zk W J (F v I1 J)) : zk W J (oc (f_Translator_wantSecret a b I J) F) := zk_oc (YwS h) k
theorem z_wC (h : SS n t x I) {F : Unit → MI → MJ → M2 α} (k : ∀ v I1, SS n t x I1 → zk W J (F v I1 J)) : zk W J (oc (f_Translator_wantClear a b I J) F) := zk_oc (YwC h) k
theorem z_p (h : SS n t x I) {F : Unit → MI → MJ → M2 α} (k : ∀ v I1, SS n t x I1 → zk W J (F v I1 J)) : zk W J (oc (f_Translator_pass I J) F) := zk_oc (YP h) k
theorem z_r (h : SS n t x I) {F : Unit → MI → MJ → M2 α} (k : ∀ v I1, SS n t x I1 → zk W J (F v I1 J)) : zk W J (oc (f_Translator_refuse I J) F) := zk_oc (YRf h) k
theorem z_en (h : SS n t x I) {F : Unit → MI → MJ → M2 α} (k : ∀ v I1, SS n t x I1 → zk W J (F v I1 J)) : zk W J (oc (f_Translator_enter I J) F) := zk_oc (Y_enter h) k
theorem z_lv (h : SS n t x I) {F : Unit → MI → MJ → M2 α} (k : ∀ v I1, SS n t x I1 → zk W J (F v I1 J)) : zk W J (oc (f_Translator_leave I J) F) := zk_oc (Y_leave h) k
theorem z_am (h : SS n t x I) {F : Unit → MI → MJ → M2 α} (k : ∀ v I1, SS n t x I1 → zk W J (F v I1 J)) : zk W J (oc (f_Row_aim 6 7 2000 a b I J) F) := zk_oc (Y_aim h) k
theorem z_ar (ht : tpOK n t) (h : SS n t x I) {F : Int32 → MI → MJ → M2 α} (k : ∀ v I1, SS n t x I1 → zk W J (F v I1 J)) : zk W J (oc (f_Translator_array I J) F) := zk_oc (Yar ht h) k
theorem z_va (ht : tpOK n t) (h : SS n t x I) {F : Int32 → MI → MJ → M2 α} (k : ∀ v I1, SS n t x I1 → zk W J (F v I1 J)) : zk W J (oc (f_Translator_variable I J) F) := zk_oc (Yva ht h) k
theorem z_lk (ht : tpOK n t) (h : SS n t x I) {F : Int32 → MI → MJ → M2 α} (k : ∀ v I1, SS n t x I1 → zk W J (F v I1 J)) : zk W J (oc (f_Translator_look I J) F) := zk_oc (YL ht h) k
theorem z_dc (ht : tpOK n t) (h : SS n t x I) {F : Int32 → MI → MJ → M2 α} (k : ∀ v I1, SS n t x I1 → zk W J (F v I1 J)) : zk W J (oc (f_Translator_decider I J) F) := zk_oc (Ydc ht h) k
theorem z_r0 (ht : tpOK n t) {fu : Nat} (hf : 2 ≤ fu) (h : SS n t x I) {F : Int32 → MI → MJ → M2 α} (k : ∀ v I1, SS n t x I1 → zk W J (F v I1 J)) : zk W J (oc (f_RcT fu 0 0 0 I J) F) := zk_oc (YR0 ht hf h) k
theorem z_r9 (ht : tpOK n t) {fu : Nat} (hf : 4 ≤ fu) (h : SS n t x I) {F : Int32 → MI → MJ → M2 α} (k : ∀ v I1, SS n t x I1 → zk W J (F v I1 J)) : zk W J (oc (f_RcT fu 9 0 0 I J) F) := zk_oc (YR9 ht hf h) k
end ZR
/-- routines and calls of both -/
def TB (f8 f9 g2 g3 g5 : Nat → Int32) (c q : Nat) : Prop := (∀ d, d < 10 → f8 d = g2 d ∧ (f8 d = m1 ∨ ∃ r, f8 d = nI r ∧ r ≤ 2000)) ∧ 3 * c ≤ q ∧ (∀ i, i < c → ∃ d x, d < 10 ∧ x < q ∧ g3 i = nI d ∧ g5 i = nI x) ∧ (∀ d, d < 10 → (f9 d = m1 ∧ ∀ i, i < c → ¬ g3 i = nI d) ∨ (∃ x, x < q ∧ f9 d = nI x ∧ (∃ i, i < c ∧ g3 i = nI d ∧ g5 i = nI x) ∧ ∀ i y, i < c → y < 2 ^ 31 → g3 i = nI d → g5 i = nI y → x ≤ y))
theorem TB_mono {f8 f9 g2 g3 g5 : Nat → Int32} {c q q' : Nat} (h : TB f8 f9 g2 g3 g5 c q) (hq : q ≤ q') : TB f8 f9 g2 g3 g5 c q' := by
  obtain ⟨h1, h2, h3, h4⟩ := h
  refine ⟨h1, by omega, fun i hi => ?_, fun d hd => ?_⟩
  · obtain ⟨d, x, a, b, e⟩ := h3 i hi
    exact ⟨d, x, a, by omega, e⟩
  · rcases h4 d hd with h | ⟨x, a, b⟩
    · exact Or.inl h
    · exact Or.inr ⟨x, by omega, b⟩
/-- what a statement comes to -/
def OS (n : Nat) (t : Nat → Nat) (P D U : Nat) (J J' : MJ) (q m k : Nat) {α : Type} (rC : M2 α) (rM : M2 Int32) : Prop := (∃ x I1', zk (SS n t x) J rC ∧ rM = some (nI 0, I1', J') ∧ I1' 112 3 = nI 1 ∧ I1' 112 4 = x) ∨ (∃ v I1 I1' q' m' k' p' f8 f9 g2 g3 g4 g5 c cc cm, rC = some (v, I1, J) ∧ rM = some (nI 1, I1', J') ∧ CA n t P I1 q' m' D U k' p' f8 f9 cc ∧ MA n t P I1' q' m' D U k' p' g2 g3 g4 g5 c cm ∧ TB f8 f9 g2 g3 g5 c q' ∧ q < q' ∧ m' + 5 ≤ m + 5 * (q' - q) ∧ (k' = 0 → k = 0 ∧ CODE P cc cm m' 0 f8 g3 g4 c))
section CM
variable {n P m D U k p c q : Nat} {t : Nat → Nat} {I I' : MI} {J J' : MJ} {f8 f9 g2 g3 g4 g5 : Nat → Int32} {cc cm : Nat → Nat}
theorem ntk0 {k p a x : Nat} (h : ntk k p a x = 0) (ha : a ≠ 0) : False := by
  unfold ntk at h
  by_cases w : k = 0 ∨ x < p ∨ (x = p ∧ a < k)
  · rw [if_pos w] at h
    exact ha h
  · rw [if_neg w] at h
    exact w (Or.inl h)
abbrev isV (n : Nat) (t : Nat → Nat) (s : Nat) : Prop := s < n ∧ 97 ≤ t s ∧ t s ≤ 122
abbrev isA (n : Nat) (t : Nat → Nat) (s : Nat) : Prop := s < n ∧ 65 ≤ t s ∧ t s ≤ 72
abbrev isG (n : Nat) (t : Nat → Nat) (s : Nat) : Prop := s < n ∧ 48 ≤ t s ∧ t s ≤ 57
theorem VARC (ht : tpOK n t) (hA : CA n t P I q m D U k p f8 f9 cc) : (isV n t (spq n t q) ∧ ∃ I1, (∀ {α : Type} {F : Int32 → MI → MJ → Option α}, oc (f_Translator_variable I J) F = F (nI (t (spq n t q) - 97)) I1 J) ∧ CA n t P I1 (spq n t q + 1) m D U k p f8 f9 cc) ∨ (¬ isV n t (spq n t q) ∧ ∃ I1, (∀ {α : Type} {F : Int32 → MI → MJ → Option α}, oc (f_Translator_variable I J) F = F (nI 0) I1 J) ∧ SS n t (nI (spq n t q)) I1) := by
  obtain ⟨I2, c1, c2, c3, c4, c5⟩ := LC (J := J) ht hA
  generalize spq n t q = s at c1 c2 c3 c4 c5 ⊢
  by_cases w : isV n t s
  · obtain ⟨I3, e1, e2⟩ := PC (J := J) c2 w.1
    refine Or.inl ⟨w, I3, ?_, e2⟩
    rw [cC_lt w.1] at c1
    have w2 := w.2
    intro α F
    unfold f_Translator_variable
    simp (disch := omega) only [a11, a01, ↓li_m, ↓oc_some, ↓oc_ite, ↓oc_oc, ↓oc_pl, ↓oc_none, ↓oc_oe, ↓pl_eq, ↓oe_i, ↓oe_j, va_up_self, va_up_ne, va_up_up, upd_s, upd_n, updL_s, updL_n, nI_add, nI_1, nI_ltI, nI_leI, nI_eq, nI_clamp, li_n, m1_lt, m1_le, m1_gt, m1_ge, m1_ne, m1_en, m1_ad, nle_F, nle_T, nlt_F, nlt_T, neq_F, neq_T, or_self, or_false, false_or, true_or, or_true, and_self, and_false, false_and, true_and, and_true, not_true_eq_false, not_false_eq_true, ↓reduceIte, if_true, if_false, Nat.reduceAdd, ite_self, Bool.false_eq_true, ↓c1, ↓U_Translator_isVariable, ↓e1, n10e, nI_sb]
  · obtain ⟨I3, e1, e2⟩ := RC (J := J) c2
    refine Or.inr ⟨w, I3, ?_, e2⟩
    intro α F
    unfold f_Translator_variable
    by_cases hs : s < n
    · have := ht.2 s hs
      rw [cC_lt hs] at c1
      by_cases w1 : t s < 97
      · simp (disch := omega) only [a11, a01, ↓li_m, ↓oc_some, ↓oc_ite, ↓oc_oc, ↓oc_pl, ↓oc_none, ↓oc_oe, ↓pl_eq, ↓oe_i, ↓oe_j, va_up_self, va_up_ne, va_up_up, upd_s, upd_n, updL_s, updL_n, nI_add, nI_1, nI_ltI, nI_leI, nI_eq, nI_clamp, li_n, m1_lt, m1_le, m1_gt, m1_ge, m1_ne, m1_en, m1_ad, nle_F, nle_T, nlt_F, nlt_T, neq_F, neq_T, or_self, or_false, false_or, true_or, or_true, and_self, and_false, false_and, true_and, and_true, not_true_eq_false, not_false_eq_true, ↓reduceIte, if_true, if_false, Nat.reduceAdd, ite_self, Bool.false_eq_true, ↓c1, ↓U_Translator_isVariable, ↓e1]
      · simp (disch := omega) only [a11, a01, ↓li_m, ↓oc_some, ↓oc_ite, ↓oc_oc, ↓oc_pl, ↓oc_none, ↓oc_oe, ↓pl_eq, ↓oe_i, ↓oe_j, va_up_self, va_up_ne, va_up_up, upd_s, upd_n, updL_s, updL_n, nI_add, nI_1, nI_ltI, nI_leI, nI_eq, nI_clamp, li_n, m1_lt, m1_le, m1_gt, m1_ge, m1_ne, m1_en, m1_ad, nle_F, nle_T, nlt_F, nlt_T, neq_F, neq_T, or_self, or_false, false_or, true_or, or_true, and_self, and_false, false_and, true_and, and_true, not_true_eq_false, not_false_eq_true, ↓reduceIte, if_true, if_false, Nat.reduceAdd, ite_self, Bool.false_eq_true, ↓c1, ↓U_Translator_isVariable, ↓e1]
    · rw [cC_ge (by omega)] at c1
      simp (disch := omega) only [a11, a01, ↓li_m, ↓oc_some, ↓oc_ite, ↓oc_oc, ↓oc_pl, ↓oc_none, ↓oc_oe, ↓pl_eq, ↓oe_i, ↓oe_j, va_up_self, va_up_ne, va_up_up, upd_s, upd_n, updL_s, updL_n, nI_add, nI_1, nI_ltI, nI_leI, nI_eq, nI_clamp, li_n, m1_lt, m1_le, m1_gt, m1_ge, m1_ne, m1_en, m1_ad, nle_F, nle_T, nlt_F, nlt_T, neq_F, neq_T, or_self, or_false, false_or, true_or, or_true, and_self, and_false, false_and, true_and, and_true, not_true_eq_false, not_false_eq_true, ↓reduceIte, if_true, if_false, Nat.reduceAdd, ite_self, Bool.false_eq_true, ↓c1, ↓U_Translator_isVariable, ↓e1]
theorem ARRC (ht : tpOK n t) (hA : CA n t P I q m D U k p f8 f9 cc) : (isA n t (spq n t q) ∧ ∃ I1, (∀ {α : Type} {F : Int32 → MI → MJ → Option α}, oc (f_Translator_array I J) F = F (nI (t (spq n t q) - 65)) I1 J) ∧ CA n t P I1 (spq n t q + 1) m D U k p f8 f9 cc) ∨ (¬ isA n t (spq n t q) ∧ ∃ I1, (∀ {α : Type} {F : Int32 → MI → MJ → Option α}, oc (f_Translator_array I J) F = F (nI 0) I1 J) ∧ SS n t (nI (spq n t q)) I1) := by
  obtain ⟨I2, c1, c2, c3, c4, c5⟩ := LC (J := J) ht hA
  generalize spq n t q = s at c1 c2 c3 c4 c5 ⊢
  by_cases w : isA n t s
  · obtain ⟨I3, e1, e2⟩ := PC (J := J) c2 w.1
    refine Or.inl ⟨w, I3, ?_, e2⟩
    rw [cC_lt w.1] at c1
    have w2 := w.2
    intro α F
    unfold f_Translator_array
    simp (disch := omega) only [a11, a01, ↓li_m, ↓oc_some, ↓oc_ite, ↓oc_oc, ↓oc_pl, ↓oc_none, ↓oc_oe, ↓pl_eq, ↓oe_i, ↓oe_j, va_up_self, va_up_ne, va_up_up, upd_s, upd_n, updL_s, updL_n, nI_add, nI_1, nI_ltI, nI_leI, nI_eq, nI_clamp, li_n, m1_lt, m1_le, m1_gt, m1_ge, m1_ne, m1_en, m1_ad, nle_F, nle_T, nlt_F, nlt_T, neq_F, neq_T, or_self, or_false, false_or, true_or, or_true, and_self, and_false, false_and, true_and, and_true, not_true_eq_false, not_false_eq_true, ↓reduceIte, if_true, if_false, Nat.reduceAdd, ite_self, Bool.false_eq_true, ↓c1, ↓U_Translator_isArray, ↓e1, n10e, nI_sb]
  · obtain ⟨I3, e1, e2⟩ := RC (J := J) c2
    refine Or.inr ⟨w, I3, ?_, e2⟩
    intro α F
    unfold f_Translator_array
    by_cases hs : s < n
    · have := ht.2 s hs
      rw [cC_lt hs] at c1
      by_cases w1 : t s < 65
      · simp (disch := omega) only [a11, a01, ↓li_m, ↓oc_some, ↓oc_ite, ↓oc_oc, ↓oc_pl, ↓oc_none, ↓oc_oe, ↓pl_eq, ↓oe_i, ↓oe_j, va_up_self, va_up_ne, va_up_up, upd_s, upd_n, updL_s, updL_n, nI_add, nI_1, nI_ltI, nI_leI, nI_eq, nI_clamp, li_n, m1_lt, m1_le, m1_gt, m1_ge, m1_ne, m1_en, m1_ad, nle_F, nle_T, nlt_F, nlt_T, neq_F, neq_T, or_self, or_false, false_or, true_or, or_true, and_self, and_false, false_and, true_and, and_true, not_true_eq_false, not_false_eq_true, ↓reduceIte, if_true, if_false, Nat.reduceAdd, ite_self, Bool.false_eq_true, ↓c1, ↓U_Translator_isArray, ↓e1]
      · simp (disch := omega) only [a11, a01, ↓li_m, ↓oc_some, ↓oc_ite, ↓oc_oc, ↓oc_pl, ↓oc_none, ↓oc_oe, ↓pl_eq, ↓oe_i, ↓oe_j, va_up_self, va_up_ne, va_up_up, upd_s, upd_n, updL_s, updL_n, nI_add, nI_1, nI_ltI, nI_leI, nI_eq, nI_clamp, li_n, m1_lt, m1_le, m1_gt, m1_ge, m1_ne, m1_en, m1_ad, nle_F, nle_T, nlt_F, nlt_T, neq_F, neq_T, or_self, or_false, false_or, true_or, or_true, and_self, and_false, false_and, true_and, and_true, not_true_eq_false, not_false_eq_true, ↓reduceIte, if_true, if_false, Nat.reduceAdd, ite_self, Bool.false_eq_true, ↓c1, ↓U_Translator_isArray, ↓e1]
    · rw [cC_ge (by omega)] at c1
      simp (disch := omega) only [a11, a01, ↓li_m, ↓oc_some, ↓oc_ite, ↓oc_oc, ↓oc_pl, ↓oc_none, ↓oc_oe, ↓pl_eq, ↓oe_i, ↓oe_j, va_up_self, va_up_ne, va_up_up, upd_s, upd_n, updL_s, updL_n, nI_add, nI_1, nI_ltI, nI_leI, nI_eq, nI_clamp, li_n, m1_lt, m1_le, m1_gt, m1_ge, m1_ne, m1_en, m1_ad, nle_F, nle_T, nlt_F, nlt_T, neq_F, neq_T, or_self, or_false, false_or, true_or, or_true, and_self, and_false, false_and, true_and, and_true, not_true_eq_false, not_false_eq_true, ↓reduceIte, if_true, if_false, Nat.reduceAdd, ite_self, Bool.false_eq_true, ↓c1, ↓U_Translator_isArray, ↓e1]
theorem DIGC (ht : tpOK n t) (hA : CA n t P I q m D U k p f8 f9 cc) : (isG n t (spq n t q) ∧ ∃ I1, (∀ {α : Type} {F : Int32 → MI → MJ → Option α}, oc (f_Translator_digit I J) F = F (nI (t (spq n t q) - 48)) I1 J) ∧ CA n t P I1 (spq n t q + 1) m D U k p f8 f9 cc) ∨ (¬ isG n t (spq n t q) ∧ ∃ I1, (∀ {α : Type} {F : Int32 → MI → MJ → Option α}, oc (f_Translator_digit I J) F = F (nI 0) I1 J) ∧ SS n t (nI (spq n t q)) I1) := by
  obtain ⟨I2, c1, c2, c3, c4, c5⟩ := LC (J := J) ht hA
  generalize spq n t q = s at c1 c2 c3 c4 c5 ⊢
  by_cases w : isG n t s
  · obtain ⟨I3, e1, e2⟩ := PC (J := J) c2 w.1
    refine Or.inl ⟨w, I3, ?_, e2⟩
    rw [cC_lt w.1] at c1
    have w2 := w.2
    intro α F
    unfold f_Translator_digit
    simp (disch := omega) only [a11, a01, ↓li_m, ↓oc_some, ↓oc_ite, ↓oc_oc, ↓oc_pl, ↓oc_none, ↓oc_oe, ↓pl_eq, ↓oe_i, ↓oe_j, va_up_self, va_up_ne, va_up_up, upd_s, upd_n, updL_s, updL_n, nI_add, nI_1, nI_ltI, nI_leI, nI_eq, nI_clamp, li_n, m1_lt, m1_le, m1_gt, m1_ge, m1_ne, m1_en, m1_ad, nle_F, nle_T, nlt_F, nlt_T, neq_F, neq_T, or_self, or_false, false_or, true_or, or_true, and_self, and_false, false_and, true_and, and_true, not_true_eq_false, not_false_eq_true, ↓reduceIte, if_true, if_false, Nat.reduceAdd, ite_self, Bool.false_eq_true, ↓c1, ↓U_Translator_isDigit, ↓e1, n10e, nI_sb]
  · obtain ⟨I3, e1, e2⟩ := RC (J := J) c2
    refine Or.inr ⟨w, I3, ?_, e2⟩
    intro α F
    unfold f_Translator_digit
    by_cases hs : s < n
    · have := ht.2 s hs
      rw [cC_lt hs] at c1
      by_cases w1 : t s < 48
      · simp (disch := omega) only [a11, a01, ↓li_m, ↓oc_some, ↓oc_ite, ↓oc_oc, ↓oc_pl, ↓oc_none, ↓oc_oe, ↓pl_eq, ↓oe_i, ↓oe_j, va_up_self, va_up_ne, va_up_up, upd_s, upd_n, updL_s, updL_n, nI_add, nI_1, nI_ltI, nI_leI, nI_eq, nI_clamp, li_n, m1_lt, m1_le, m1_gt, m1_ge, m1_ne, m1_en, m1_ad, nle_F, nle_T, nlt_F, nlt_T, neq_F, neq_T, or_self, or_false, false_or, true_or, or_true, and_self, and_false, false_and, true_and, and_true, not_true_eq_false, not_false_eq_true, ↓reduceIte, if_true, if_false, Nat.reduceAdd, ite_self, Bool.false_eq_true, ↓c1, ↓U_Translator_isDigit, ↓e1]
      · simp (disch := omega) only [a11, a01, ↓li_m, ↓oc_some, ↓oc_ite, ↓oc_oc, ↓oc_pl, ↓oc_none, ↓oc_oe, ↓pl_eq, ↓oe_i, ↓oe_j, va_up_self, va_up_ne, va_up_up, upd_s, upd_n, updL_s, updL_n, nI_add, nI_1, nI_ltI, nI_leI, nI_eq, nI_clamp, li_n, m1_lt, m1_le, m1_gt, m1_ge, m1_ne, m1_en, m1_ad, nle_F, nle_T, nlt_F, nlt_T, neq_F, neq_T, or_self, or_false, false_or, true_or, or_true, and_self, and_false, false_and, true_and, and_true, not_true_eq_false, not_false_eq_true, ↓reduceIte, if_true, if_false, Nat.reduceAdd, ite_self, Bool.false_eq_true, ↓c1, ↓U_Translator_isDigit, ↓e1]
    · rw [cC_ge (by omega)] at c1
      simp (disch := omega) only [a11, a01, ↓li_m, ↓oc_some, ↓oc_ite, ↓oc_oc, ↓oc_pl, ↓oc_none, ↓oc_oe, ↓pl_eq, ↓oe_i, ↓oe_j, va_up_self, va_up_ne, va_up_up, upd_s, upd_n, updL_s, updL_n, nI_add, nI_1, nI_ltI, nI_leI, nI_eq, nI_clamp, li_n, m1_lt, m1_le, m1_gt, m1_ge, m1_ne, m1_en, m1_ad, nle_F, nle_T, nlt_F, nlt_T, neq_F, neq_T, or_self, or_false, false_or, true_or, or_true, and_self, and_false, false_and, true_and, and_true, not_true_eq_false, not_false_eq_true, ↓reduceIte, if_true, if_false, Nat.reduceAdd, ite_self, Bool.false_eq_true, ↓c1, ↓U_Translator_isDigit, ↓e1]
theorem VARM (ht : tpOK n t) (hM : MA n t P I q m D U k p g2 g3 g4 g5 c cm) : ∃ I1, (∀ {α : Type} {F : Int32 → MI → MJ → Option α}, oc (f_Model_isVariable I J) F = F (if isV n t (spq n t q) then nI 1 else nI 0) I1 J) ∧ MA n t P I1 (spq n t q) m D U k p g2 g3 g4 g5 c cm ∧ I1 112 73 = I 112 73 := by
  obtain ⟨I2, d1, d2, d3⟩ := SM (J := J) ht hM
  have d0 := fun {α : Type} {F : Int32 → MI → MJ → Option α} => SM0 (J := J) ht d2 (spq_lk n t q) (F := F)
  generalize spq n t q = s at d1 d2 d0 ⊢
  refine ⟨I2, ?_, d2, d3⟩
  intro α F
  unfold f_Model_isVariable
  by_cases hs : s < n
  · have := ht.2 s hs
    rw [cM_lt hs] at d1 d0
    by_cases w1 : t s < 97
    · simp (disch := omega) only [a11, a01, ↓li_m, ↓oc_some, ↓oc_ite, ↓oc_oc, ↓oc_pl, ↓oc_none, ↓oc_oe, ↓pl_eq, ↓oe_i, ↓oe_j, va_up_self, va_up_ne, va_up_up, upd_s, upd_n, updL_s, updL_n, nI_add, nI_1, nI_ltI, nI_leI, nI_eq, nI_clamp, li_n, m1_lt, m1_le, m1_gt, m1_ge, m1_ne, m1_en, m1_ad, nle_F, nle_T, nlt_F, nlt_T, neq_F, neq_T, or_self, or_false, false_or, true_or, or_true, and_self, and_false, false_and, true_and, and_true, not_true_eq_false, not_false_eq_true, ↓reduceIte, if_true, if_false, Nat.reduceAdd, ite_self, Bool.false_eq_true, ↓d1, ↓d0, ↓U_Model_isClear, ↓U_Model_isSecret, isV]
    · by_cases w2 : t s ≤ 109
      · simp (disch := omega) only [a11, a01, ↓li_m, ↓oc_some, ↓oc_ite, ↓oc_oc, ↓oc_pl, ↓oc_none, ↓oc_oe, ↓pl_eq, ↓oe_i, ↓oe_j, va_up_self, va_up_ne, va_up_up, upd_s, upd_n, updL_s, updL_n, nI_add, nI_1, nI_ltI, nI_leI, nI_eq, nI_clamp, li_n, m1_lt, m1_le, m1_gt, m1_ge, m1_ne, m1_en, m1_ad, nle_F, nle_T, nlt_F, nlt_T, neq_F, neq_T, or_self, or_false, false_or, true_or, or_true, and_self, and_false, false_and, true_and, and_true, not_true_eq_false, not_false_eq_true, ↓reduceIte, if_true, if_false, Nat.reduceAdd, ite_self, Bool.false_eq_true, ↓d1, ↓d0, ↓U_Model_isClear, ↓U_Model_isSecret, isV, n10e]
      · by_cases w3 : t s ≤ 122
        · simp (disch := omega) only [a11, a01, ↓li_m, ↓oc_some, ↓oc_ite, ↓oc_oc, ↓oc_pl, ↓oc_none, ↓oc_oe, ↓pl_eq, ↓oe_i, ↓oe_j, va_up_self, va_up_ne, va_up_up, upd_s, upd_n, updL_s, updL_n, nI_add, nI_1, nI_ltI, nI_leI, nI_eq, nI_clamp, li_n, m1_lt, m1_le, m1_gt, m1_ge, m1_ne, m1_en, m1_ad, nle_F, nle_T, nlt_F, nlt_T, neq_F, neq_T, or_self, or_false, false_or, true_or, or_true, and_self, and_false, false_and, true_and, and_true, not_true_eq_false, not_false_eq_true, ↓reduceIte, if_true, if_false, Nat.reduceAdd, ite_self, Bool.false_eq_true, ↓d1, ↓d0, ↓U_Model_isClear, ↓U_Model_isSecret, isV, n10e]
        · simp (disch := omega) only [a11, a01, ↓li_m, ↓oc_some, ↓oc_ite, ↓oc_oc, ↓oc_pl, ↓oc_none, ↓oc_oe, ↓pl_eq, ↓oe_i, ↓oe_j, va_up_self, va_up_ne, va_up_up, upd_s, upd_n, updL_s, updL_n, nI_add, nI_1, nI_ltI, nI_leI, nI_eq, nI_clamp, li_n, m1_lt, m1_le, m1_gt, m1_ge, m1_ne, m1_en, m1_ad, nle_F, nle_T, nlt_F, nlt_T, neq_F, neq_T, or_self, or_false, false_or, true_or, or_true, and_self, and_false, false_and, true_and, and_true, not_true_eq_false, not_false_eq_true, ↓reduceIte, if_true, if_false, Nat.reduceAdd, ite_self, Bool.false_eq_true, ↓d1, ↓d0, ↓U_Model_isClear, ↓U_Model_isSecret, isV, n10e]
  · rw [cM_ge (by omega)] at d1 d0
    simp (disch := omega) only [a11, a01, ↓li_m, ↓oc_some, ↓oc_ite, ↓oc_oc, ↓oc_pl, ↓oc_none, ↓oc_oe, ↓pl_eq, ↓oe_i, ↓oe_j, va_up_self, va_up_ne, va_up_up, upd_s, upd_n, updL_s, updL_n, nI_add, nI_1, nI_ltI, nI_leI, nI_eq, nI_clamp, li_n, m1_lt, m1_le, m1_gt, m1_ge, m1_ne, m1_en, m1_ad, nle_F, nle_T, nlt_F, nlt_T, neq_F, neq_T, or_self, or_false, false_or, true_or, or_true, and_self, and_false, false_and, true_and, and_true, not_true_eq_false, not_false_eq_true, ↓reduceIte, if_true, if_false, Nat.reduceAdd, ite_self, Bool.false_eq_true, ↓d1, ↓d0, ↓U_Model_isClear, ↓U_Model_isSecret, isV]
theorem ARRM (ht : tpOK n t) (hM : MA n t P I q m D U k p g2 g3 g4 g5 c cm) : ∃ I1, (∀ {α : Type} {F : Int32 → MI → MJ → Option α}, oc (f_Model_isRow I J) F = F (if isA n t (spq n t q) then nI 1 else nI 0) I1 J) ∧ MA n t P I1 (spq n t q) m D U k p g2 g3 g4 g5 c cm ∧ I1 112 73 = I 112 73 := by
  obtain ⟨I2, d1, d2, d3⟩ := SM (J := J) ht hM
  have d0 := fun {α : Type} {F : Int32 → MI → MJ → Option α} => SM0 (J := J) ht d2 (spq_lk n t q) (F := F)
  generalize spq n t q = s at d1 d2 d0 ⊢
  refine ⟨I2, ?_, d2, d3⟩
  intro α F
  unfold f_Model_isRow
  by_cases hs : s < n
  · have := ht.2 s hs
    rw [cM_lt hs] at d1 d0
    by_cases w1 : t s < 65
    · simp (disch := omega) only [a11, a01, ↓li_m, ↓oc_some, ↓oc_ite, ↓oc_oc, ↓oc_pl, ↓oc_none, ↓oc_oe, ↓pl_eq, ↓oe_i, ↓oe_j, va_up_self, va_up_ne, va_up_up, upd_s, upd_n, updL_s, updL_n, nI_add, nI_1, nI_ltI, nI_leI, nI_eq, nI_clamp, li_n, m1_lt, m1_le, m1_gt, m1_ge, m1_ne, m1_en, m1_ad, nle_F, nle_T, nlt_F, nlt_T, neq_F, neq_T, or_self, or_false, false_or, true_or, or_true, and_self, and_false, false_and, true_and, and_true, not_true_eq_false, not_false_eq_true, ↓reduceIte, if_true, if_false, Nat.reduceAdd, ite_self, Bool.false_eq_true, ↓d1, ↓d0, isA]
    · by_cases w2 : t s ≤ 72
      · simp (disch := omega) only [a11, a01, ↓li_m, ↓oc_some, ↓oc_ite, ↓oc_oc, ↓oc_pl, ↓oc_none, ↓oc_oe, ↓pl_eq, ↓oe_i, ↓oe_j, va_up_self, va_up_ne, va_up_up, upd_s, upd_n, updL_s, updL_n, nI_add, nI_1, nI_ltI, nI_leI, nI_eq, nI_clamp, li_n, m1_lt, m1_le, m1_gt, m1_ge, m1_ne, m1_en, m1_ad, nle_F, nle_T, nlt_F, nlt_T, neq_F, neq_T, or_self, or_false, false_or, true_or, or_true, and_self, and_false, false_and, true_and, and_true, not_true_eq_false, not_false_eq_true, ↓reduceIte, if_true, if_false, Nat.reduceAdd, ite_self, Bool.false_eq_true, ↓d1, ↓d0, isA]
      · simp (disch := omega) only [a11, a01, ↓li_m, ↓oc_some, ↓oc_ite, ↓oc_oc, ↓oc_pl, ↓oc_none, ↓oc_oe, ↓pl_eq, ↓oe_i, ↓oe_j, va_up_self, va_up_ne, va_up_up, upd_s, upd_n, updL_s, updL_n, nI_add, nI_1, nI_ltI, nI_leI, nI_eq, nI_clamp, li_n, m1_lt, m1_le, m1_gt, m1_ge, m1_ne, m1_en, m1_ad, nle_F, nle_T, nlt_F, nlt_T, neq_F, neq_T, or_self, or_false, false_or, true_or, or_true, and_self, and_false, false_and, true_and, and_true, not_true_eq_false, not_false_eq_true, ↓reduceIte, if_true, if_false, Nat.reduceAdd, ite_self, Bool.false_eq_true, ↓d1, ↓d0, isA]
  · rw [cM_ge (by omega)] at d1 d0
    simp (disch := omega) only [a11, a01, ↓li_m, ↓oc_some, ↓oc_ite, ↓oc_oc, ↓oc_pl, ↓oc_none, ↓oc_oe, ↓pl_eq, ↓oe_i, ↓oe_j, va_up_self, va_up_ne, va_up_up, upd_s, upd_n, updL_s, updL_n, nI_add, nI_1, nI_ltI, nI_leI, nI_eq, nI_clamp, li_n, m1_lt, m1_le, m1_gt, m1_ge, m1_ne, m1_en, m1_ad, nle_F, nle_T, nlt_F, nlt_T, neq_F, neq_T, or_self, or_false, false_or, true_or, or_true, and_self, and_false, false_and, true_and, and_true, not_true_eq_false, not_false_eq_true, ↓reduceIte, if_true, if_false, Nat.reduceAdd, ite_self, Bool.false_eq_true, ↓d1, ↓d0, isA]
theorem DIGM (ht : tpOK n t) (hM : MA n t P I q m D U k p g2 g3 g4 g5 c cm) : ∃ I1, (∀ {α : Type} {F : Int32 → MI → MJ → Option α}, oc (f_Model_isDigit I J) F = F (if isG n t (spq n t q) then nI 1 else nI 0) I1 J) ∧ MA n t P I1 (spq n t q) m D U k p g2 g3 g4 g5 c cm ∧ I1 112 73 = I 112 73 := by
  obtain ⟨I2, d1, d2, d3⟩ := SM (J := J) ht hM
  have d0 := fun {α : Type} {F : Int32 → MI → MJ → Option α} => SM0 (J := J) ht d2 (spq_lk n t q) (F := F)
  generalize spq n t q = s at d1 d2 d0 ⊢
  refine ⟨I2, ?_, d2, d3⟩
  intro α F
  unfold f_Model_isDigit
  by_cases hs : s < n
  · have := ht.2 s hs
    rw [cM_lt hs] at d1 d0
    by_cases w1 : t s < 48
    · simp (disch := omega) only [a11, a01, ↓li_m, ↓oc_some, ↓oc_ite, ↓oc_oc, ↓oc_pl, ↓oc_none, ↓oc_oe, ↓pl_eq, ↓oe_i, ↓oe_j, va_up_self, va_up_ne, va_up_up, upd_s, upd_n, updL_s, updL_n, nI_add, nI_1, nI_ltI, nI_leI, nI_eq, nI_clamp, li_n, m1_lt, m1_le, m1_gt, m1_ge, m1_ne, m1_en, m1_ad, nle_F, nle_T, nlt_F, nlt_T, neq_F, neq_T, or_self, or_false, false_or, true_or, or_true, and_self, and_false, false_and, true_and, and_true, not_true_eq_false, not_false_eq_true, ↓reduceIte, if_true, if_false, Nat.reduceAdd, ite_self, Bool.false_eq_true, ↓d1, ↓d0, isG]
    · by_cases w2 : t s ≤ 57
      · simp (disch := omega) only [a11, a01, ↓li_m, ↓oc_some, ↓oc_ite, ↓oc_oc, ↓oc_pl, ↓oc_none, ↓oc_oe, ↓pl_eq, ↓oe_i, ↓oe_j, va_up_self, va_up_ne, va_up_up, upd_s, upd_n, updL_s, updL_n, nI_add, nI_1, nI_ltI, nI_leI, nI_eq, nI_clamp, li_n, m1_lt, m1_le, m1_gt, m1_ge, m1_ne, m1_en, m1_ad, nle_F, nle_T, nlt_F, nlt_T, neq_F, neq_T, or_self, or_false, false_or, true_or, or_true, and_self, and_false, false_and, true_and, and_true, not_true_eq_false, not_false_eq_true, ↓reduceIte, if_true, if_false, Nat.reduceAdd, ite_self, Bool.false_eq_true, ↓d1, ↓d0, isG]
      · simp (disch := omega) only [a11, a01, ↓li_m, ↓oc_some, ↓oc_ite, ↓oc_oc, ↓oc_pl, ↓oc_none, ↓oc_oe, ↓pl_eq, ↓oe_i, ↓oe_j, va_up_self, va_up_ne, va_up_up, upd_s, upd_n, updL_s, updL_n, nI_add, nI_1, nI_ltI, nI_leI, nI_eq, nI_clamp, li_n, m1_lt, m1_le, m1_gt, m1_ge, m1_ne, m1_en, m1_ad, nle_F, nle_T, nlt_F, nlt_T, neq_F, neq_T, or_self, or_false, false_or, true_or, or_true, and_self, and_false, false_and, true_and, and_true, not_true_eq_false, not_false_eq_true, ↓reduceIte, if_true, if_false, Nat.reduceAdd, ite_self, Bool.false_eq_true, ↓d1, ↓d0, isG]
  · rw [cM_ge (by omega)] at d1 d0
    simp (disch := omega) only [a11, a01, ↓li_m, ↓oc_some, ↓oc_ite, ↓oc_oc, ↓oc_pl, ↓oc_none, ↓oc_oe, ↓pl_eq, ↓oe_i, ↓oe_j, va_up_self, va_up_ne, va_up_up, upd_s, upd_n, updL_s, updL_n, nI_add, nI_1, nI_ltI, nI_leI, nI_eq, nI_clamp, li_n, m1_lt, m1_le, m1_gt, m1_ge, m1_ne, m1_en, m1_ad, nle_F, nle_T, nlt_F, nlt_T, neq_F, neq_T, or_self, or_false, false_or, true_or, or_true, and_self, and_false, false_and, true_and, and_true, not_true_eq_false, not_false_eq_true, ↓reduceIte, if_true, if_false, Nat.reduceAdd, ite_self, Bool.false_eq_true, ↓d1, ↓d0, isG]
end CM
