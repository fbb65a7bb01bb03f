/-! compile: the simple statements -/
section CM
variable {n P m D U k p c q : Nat} {t : Nat → Nat} {I I' : MI} {J J' : MJ} {f8 f9 g2 g3 g4 g5 : Nat → Int32} {cc cm : Nat → Nat}
/-- three bytes more -/
theorem CODE_3 {h o a b : Nat} (H : CODE P cc cm m h f8 g3 g4 c) (ho : o = 13 ∨ o = 14 ∨ o = 26) (h13 : o = 13 → a < 13 ∧ b < P) (h14 : o = 14 → a < 13 ∧ b < 13) (h26 : o = 26 → a < 8 ∧ b < 8) (hb : b < 256) (h6 : h ≤ 60) : CODE P (apn (apn (apn cc m o) (m + 1) a) (m + 2) b) (apn (apn (apn cm m o) (m + 1) a) (m + 2) b) (m + 3) (h + gv o) f8 g3 g4 c := by
  have ol : opl o = 3 := by rcases ho with rfl | rfl | rfl <;> rfl
  have on : nd o = 0 := by rcases ho with rfl | rfl | rfl <;> rfl
  have og : gv o ≤ 1 := by rcases ho with rfl | rfl | rfl <;> decide
  have a2 : a < 256 := by
    rcases ho with e | e | e
    · have := h13 e; omega
    · have := h14 e; omega
    · have := h26 e; omega
  have r0 : ∀ f : Nat → Nat, apn (apn (apn f m o) (m + 1) a) (m + 2) b m = o := fun f => by rw [apn_n _ _ (by omega), apn_n _ _ (by omega), apn_s]
  have r1 : ∀ f : Nat → Nat, apn (apn (apn f m o) (m + 1) a) (m + 2) b (m + 1) = a := fun f => by rw [apn_n _ _ (by omega), apn_s]
  have r2 : ∀ f : Nat → Nat, apn (apn (apn f m o) (m + 1) a) (m + 2) b (m + 2) = b := fun f => apn_s _ _ _
  have X := CODE_ext (o := o) (cc' := apn (apn (apn cc m o) (m + 1) a) (m + 2) b) (cm' := apn (apn (apn cm m o) (m + 1) a) (m + 2) b) H (fun j hj => by rw [apn_n _ _ (by omega), apn_n _ _ (by omega), apn_n _ _ (by omega)]) (fun j hj => by rw [apn_n _ _ (by omega), apn_n _ _ (by omega), apn_n _ _ (by omega)]) (fun j j1 j2 => by
    rw [ol] at j2
    by_cases e : j = m
    · rw [e, r0, r0]
      exact ⟨rfl, by omega⟩
    · by_cases e2 : j = m + 1
      · rw [e2, r1, r1]
        exact ⟨rfl, a2⟩
      · rw [show j = m + 2 by omega, r2, r2]
        exact ⟨rfl, hb⟩) (r0 cc) (by omega) (by omega) (by omega) (by
    unfold opok opokb
    rw [r0, r1, r2]
    rcases ho with rfl | rfl | rfl
    · have := h13 rfl
      simp (disch := omega) only [a11, a01, ↓li_m, ↓oc_some, ↓oc_ite, ↓oc_oc, ↓oc_pl, ↓oc_none, ↓oc_oe, ↓pl_eq, ↓oe_i, ↓oe_j, va_up_self, va_up_ne, va_up_up, upd_s, upd_n, updL_s, updL_n, nI_add, nI_1, nI_ltI, nI_leI, nI_eq, nI_clamp, li_n, m1_lt, m1_le, m1_gt, m1_ge, m1_ne, m1_en, m1_ad, nle_F, nle_T, nlt_F, nlt_T, neq_F, neq_T, or_self, or_false, false_or, true_or, or_true, and_self, and_false, false_and, true_and, and_true, not_true_eq_false, not_false_eq_true, ↓reduceIte, if_true, if_false, Nat.reduceAdd, ite_self, Bool.false_eq_true, decide_true]
    · have := h14 rfl
      simp (disch := omega) only [a11, a01, ↓li_m, ↓oc_some, ↓oc_ite, ↓oc_oc, ↓oc_pl, ↓oc_none, ↓oc_oe, ↓pl_eq, ↓oe_i, ↓oe_j, va_up_self, va_up_ne, va_up_up, upd_s, upd_n, updL_s, updL_n, nI_add, nI_1, nI_ltI, nI_leI, nI_eq, nI_clamp, li_n, m1_lt, m1_le, m1_gt, m1_ge, m1_ne, m1_en, m1_ad, nle_F, nle_T, nlt_F, nlt_T, neq_F, neq_T, or_self, or_false, false_or, true_or, or_true, and_self, and_false, false_and, true_and, and_true, not_true_eq_false, not_false_eq_true, ↓reduceIte, if_true, if_false, Nat.reduceAdd, ite_self, Bool.false_eq_true, decide_true]
    · have := h26 rfl
      simp (disch := omega) only [a11, a01, ↓li_m, ↓oc_some, ↓oc_ite, ↓oc_oc, ↓oc_pl, ↓oc_none, ↓oc_oe, ↓pl_eq, ↓oe_i, ↓oe_j, va_up_self, va_up_ne, va_up_up, upd_s, upd_n, updL_s, updL_n, nI_add, nI_1, nI_ltI, nI_leI, nI_eq, nI_clamp, li_n, m1_lt, m1_le, m1_gt, m1_ge, m1_ne, m1_en, m1_ad, nle_F, nle_T, nlt_F, nlt_T, neq_F, neq_T, or_self, or_false, false_or, true_or, or_true, and_self, and_false, false_and, true_and, and_true, not_true_eq_false, not_false_eq_true, ↓reduceIte, if_true, if_false, Nat.reduceAdd, ite_self, Bool.false_eq_true, decide_true]) (by omega) (by omega) (fun x => by omega) (fun x => by omega)
  rw [ol, on, Nat.sub_zero] at X
  exact X
theorem EM3' {o b d : Nat} {a u v w : Int32} (h : CA n t P I q m D U k p f8 f9 cc) (ha : a = nI o) (ho : o ≤ 29) (hl : opl o = 3) (hm : m + 2 < 2000) (hu : u &&& 255 = nI b) (hv : v &&& 255 = nI d) : ∃ I1, (∀ {α : Type} {F : Unit → MI → MJ → Option α}, oc (f_Translator_emit a u v w I J) F = F () I1 J) ∧ CA n t P I1 q (m + 3) D U k p f8 f9 (apn (apn (apn cc m o) (m + 1) b) (m + 2) d) := by
  subst ha
  exact EM3 h ho hl hm hu hv
theorem CODE_gv0 {h o : Nat} (ho : o = 13 ∨ o = 14) (H : CODE P cc cm m (h + gv o) f8 g3 g4 c) : CODE P cc cm m h f8 g3 g4 c := by
  have : gv o = 0 := by rcases ho with rfl | rfl <;> rfl
  rw [this] at H
  exact H
/-- show -/
theorem SHOW (ht : tpOK n t) (hA : CA n t P I q m D U k p f8 f9 cc) (hM : MA n t P I' q m D U k p g2 g3 g4 g5 c cm) (hT : TB f8 f9 g2 g3 g5 c q) (hC : k = 0 → CODE P cc cm m 0 f8 g3 g4 c) (hq : q < n) (hm : m ≤ 5 * q) : OS n t P D U J J' q m k (f_Translator_show I J) (f_Model_readOut I' J') := by
  have hn := ht.1
  obtain ⟨I1, a1, a2⟩ := PC (J := J) hA hq
  obtain ⟨I1', b1, b2, _, _⟩ := PM hM hq
  obtain ⟨I2', d1, d2, _⟩ := VARM (J := J') ht b2
  have hl := spq_lk n t (q + 1)
  have hle := spq_le (t := t) (show q + 1 ≤ n by omega)
  have d0 := fun {α : Type} {F : Int32 → MI → MJ → Option α} => SM0 (J := J') ht d2 hl (F := F)
  have vC := VARC (J := J) ht a2
  generalize spq n t (q + 1) = s at d1 d2 d0 vC hl hle
  unfold f_Translator_show f_Model_readOut
  rw [a1, b1, d1]
  rcases vC with ⟨w, I3, e1, e2⟩ | ⟨w, I3, e1, e2⟩
  · have w1 := w.1
    have w2 := w.2
    rw [cM_lt w1] at d0
    obtain ⟨I3', f1, f2, f3, f4⟩ := PM d2 w1
    rw [if_pos w, if_pos (show ¬ nI 1 = 0 by decide), d0, f1, e1]

    by_cases w3 : t s ≤ 109
    · obtain ⟨I4', l1, l2, l3⟩ := AM2 (J := J') (a := 15) (b := t s - 97) (v := nI 15) (w := nI (t s - 97)) f2 (by omega) rfl rfl
      obtain ⟨I5, I5', v', u1, u2, u3⟩ := WNT (J := J) (J' := J') ht (x := 59) (ch := 59) rfl (by omega) (by omega) e2 l2
      have u2' : ∀ {α : Type} {F : Int32 → MI → MJ → Option α}, oc (f_Model_want (nI 59) I4' J') F = F v' I5' J' := fun {α F} => u2
      rw [u1]
      rcases u3 with ⟨u3, x, u4, u5, u6⟩ | ⟨u3, q2, u4, u5, u6, u7⟩
      · refine Or.inl ⟨x, I5', ?_, ?_, u5, u6⟩
        · skip
          repeat (first
            | exact zk_some (by assumption)
            | (with_reducible refine z_x (by assumption) (by assumption) (by decide) ?_) ; (intro _ _ _)
            | (with_reducible refine z_em (by assumption) ?_) ; (intro _ _ _)
            | (with_reducible refine z_ep (by assumption) ?_) ; (intro _ _ _)
            | (with_reducible refine z_b (by assumption) ?_) ; (intro _ _ _)
            | (with_reducible refine z_wS (by assumption) ?_) ; (intro _ _ _)
            | (with_reducible refine z_wC (by assumption) ?_) ; (intro _ _ _)
            | (with_reducible refine z_p (by assumption) ?_) ; (intro _ _ _)
            | (with_reducible refine z_r (by assumption) ?_) ; (intro _ _ _)
            | (with_reducible refine z_en (by assumption) ?_) ; (intro _ _ _)
            | (with_reducible refine z_lv (by assumption) ?_) ; (intro _ _ _)
            | (with_reducible refine z_am (by assumption) ?_) ; (intro _ _ _)
            | (with_reducible refine z_ar (by assumption) (by assumption) ?_) ; (intro _ _ _)
            | (with_reducible refine z_va (by assumption) (by assumption) ?_) ; (intro _ _ _)
            | (with_reducible refine z_lk (by assumption) (by assumption) ?_) ; (intro _ _ _)
            | (with_reducible refine z_dc (by assumption) (by assumption) ?_) ; (intro _ _ _)
            | (with_reducible refine z_r0 (by assumption) (by omega) (by assumption) ?_) ; (intro _ _ _)
            | (with_reducible refine z_r9 (by assumption) (by omega) (by assumption) ?_) ; (intro _ _ _)
            | (with_reducible refine zk_7 (by assumption) ?_) ; (intro _ _)
            | (with_reducible refine zk_9 (by assumption) ?_) ; (intro _ _)
            | (with_reducible refine zk_8 (by assumption) ?_) ; (intro _ _)
            | (with_reducible refine zk_pl ?_)
            | (with_reducible refine zk_ite ?_ ?_) <;> (intro _)
            | (with_reducible refine z_oc ?_ ?_)
            | (intro _ _ _))
        · simp (disch := omega) only [a11, a01, ↓li_m, ↓oc_some, ↓oc_ite, ↓oc_oc, ↓oc_pl, ↓oc_none, ↓oc_oe, ↓pl_eq, ↓oe_i, ↓oe_j, va_up_self, va_up_ne, va_up_up, upd_s, upd_n, updL_s, updL_n, nI_add, nI_1, nI_ltI, nI_leI, nI_eq, nI_clamp, li_n, m1_lt, m1_le, m1_gt, m1_ge, m1_ne, m1_en, m1_ad, nle_F, nle_T, nlt_F, nlt_T, neq_F, neq_T, or_self, or_false, false_or, true_or, or_true, and_self, and_false, false_and, true_and, and_true, not_true_eq_false, not_false_eq_true, ↓reduceIte, if_true, if_false, Nat.reduceAdd, ite_self, Bool.false_eq_true, ↓U_Model_isClear, ↓U_Model_numberOf, nI_sb, l1, u2', u3]
      · obtain ⟨I6, g1, g2'⟩ := EM2' (J := J) (a := nI 15) (o := 15) (b := t s - 97) (u := nI (t s - 97)) (v := nI 0) (w := nI 0) u5 rfl (by decide) (by decide) (by omega) (b255n (by omega))
        refine Or.inr ⟨(), I6, I5', q2, m + 2, k, p, f8, f9, g2, g3, g4, g5, c, _, _, ?_, ?_, g2', u6, TB_mono hT (by omega), by omega, by omega, fun hk => ⟨hk, ?_⟩⟩
        · have e13 : t s - 97 - 13 = t s - 110 := by omega
          simp (disch := omega) only [a11, a01, ↓li_m, ↓oc_some, ↓oc_ite, ↓oc_oc, ↓oc_pl, ↓oc_none, ↓oc_oe, ↓pl_eq, ↓oe_i, ↓oe_j, va_up_self, va_up_ne, va_up_up, upd_s, upd_n, updL_s, updL_n, nI_add, nI_1, nI_ltI, nI_leI, nI_eq, nI_clamp, li_n, m1_lt, m1_le, m1_gt, m1_ge, m1_ne, m1_en, m1_ad, nle_F, nle_T, nlt_F, nlt_T, neq_F, neq_T, or_self, or_false, false_or, true_or, or_true, and_self, and_false, false_and, true_and, and_true, not_true_eq_false, not_false_eq_true, ↓reduceIte, if_true, if_false, Nat.reduceAdd, ite_self, Bool.false_eq_true, nI_sb, g1, e13]
        · simp (disch := omega) only [a11, a01, ↓li_m, ↓oc_some, ↓oc_ite, ↓oc_oc, ↓oc_pl, ↓oc_none, ↓oc_oe, ↓pl_eq, ↓oe_i, ↓oe_j, va_up_self, va_up_ne, va_up_up, upd_s, upd_n, updL_s, updL_n, nI_add, nI_1, nI_ltI, nI_leI, nI_eq, nI_clamp, li_n, m1_lt, m1_le, m1_gt, m1_ge, m1_ne, m1_en, m1_ad, nle_F, nle_T, nlt_F, nlt_T, neq_F, neq_T, or_self, or_false, false_or, true_or, or_true, and_self, and_false, false_and, true_and, and_true, not_true_eq_false, not_false_eq_true, ↓reduceIte, if_true, if_false, Nat.reduceAdd, ite_self, Bool.false_eq_true, ↓U_Model_isClear, ↓U_Model_numberOf, nI_sb, l1, u2', u3]
        · exact CODE_2 (h := 0) (o := 15) (hC hk) (by omega) (by omega) (fun x => by omega) (by rw [show nd 15 = 0 from rfl]; omega) (by omega)
    
    · obtain ⟨I4', l1, l2, l3⟩ := AM2 (J := J') (a := 16) (b := t s - 110) (v := nI 16) (w := nI (t s - 110)) f2 (by omega) rfl rfl
      obtain ⟨I5, I5', v', u1, u2, u3⟩ := WNT (J := J) (J' := J') ht (x := 59) (ch := 59) rfl (by omega) (by omega) e2 l2
      have u2' : ∀ {α : Type} {F : Int32 → MI → MJ → Option α}, oc (f_Model_want (nI 59) I4' J') F = F v' I5' J' := fun {α F} => u2
      rw [u1]
      rcases u3 with ⟨u3, x, u4, u5, u6⟩ | ⟨u3, q2, u4, u5, u6, u7⟩
      · refine Or.inl ⟨x, I5', ?_, ?_, u5, u6⟩
        · skip
          repeat (first
            | exact zk_some (by assumption)
            | (with_reducible refine z_x (by assumption) (by assumption) (by decide) ?_) ; (intro _ _ _)
            | (with_reducible refine z_em (by assumption) ?_) ; (intro _ _ _)
            | (with_reducible refine z_ep (by assumption) ?_) ; (intro _ _ _)
            | (with_reducible refine z_b (by assumption) ?_) ; (intro _ _ _)
            | (with_reducible refine z_wS (by assumption) ?_) ; (intro _ _ _)
            | (with_reducible refine z_wC (by assumption) ?_) ; (intro _ _ _)
            | (with_reducible refine z_p (by assumption) ?_) ; (intro _ _ _)
            | (with_reducible refine z_r (by assumption) ?_) ; (intro _ _ _)
            | (with_reducible refine z_en (by assumption) ?_) ; (intro _ _ _)
            | (with_reducible refine z_lv (by assumption) ?_) ; (intro _ _ _)
            | (with_reducible refine z_am (by assumption) ?_) ; (intro _ _ _)
            | (with_reducible refine z_ar (by assumption) (by assumption) ?_) ; (intro _ _ _)
            | (with_reducible refine z_va (by assumption) (by assumption) ?_) ; (intro _ _ _)
            | (with_reducible refine z_lk (by assumption) (by assumption) ?_) ; (intro _ _ _)
            | (with_reducible refine z_dc (by assumption) (by assumption) ?_) ; (intro _ _ _)
            | (with_reducible refine z_r0 (by assumption) (by omega) (by assumption) ?_) ; (intro _ _ _)
            | (with_reducible refine z_r9 (by assumption) (by omega) (by assumption) ?_) ; (intro _ _ _)
            | (with_reducible refine zk_7 (by assumption) ?_) ; (intro _ _)
            | (with_reducible refine zk_9 (by assumption) ?_) ; (intro _ _)
            | (with_reducible refine zk_8 (by assumption) ?_) ; (intro _ _)
            | (with_reducible refine zk_pl ?_)
            | (with_reducible refine zk_ite ?_ ?_) <;> (intro _)
            | (with_reducible refine z_oc ?_ ?_)
            | (intro _ _ _))
        · simp (disch := omega) only [a11, a01, ↓li_m, ↓oc_some, ↓oc_ite, ↓oc_oc, ↓oc_pl, ↓oc_none, ↓oc_oe, ↓pl_eq, ↓oe_i, ↓oe_j, va_up_self, va_up_ne, va_up_up, upd_s, upd_n, updL_s, updL_n, nI_add, nI_1, nI_ltI, nI_leI, nI_eq, nI_clamp, li_n, m1_lt, m1_le, m1_gt, m1_ge, m1_ne, m1_en, m1_ad, nle_F, nle_T, nlt_F, nlt_T, neq_F, neq_T, or_self, or_false, false_or, true_or, or_true, and_self, and_false, false_and, true_and, and_true, not_true_eq_false, not_false_eq_true, ↓reduceIte, if_true, if_false, Nat.reduceAdd, ite_self, Bool.false_eq_true, ↓U_Model_isClear, ↓U_Model_numberOf, nI_sb, l1, u2', u3]
      · obtain ⟨I6, g1, g2'⟩ := EM2' (J := J) (a := nI 16) (o := 16) (b := t s - 110) (u := nI (t s - 110)) (v := nI 0) (w := nI 0) u5 rfl (by decide) (by decide) (by omega) (b255n (by omega))
        refine Or.inr ⟨(), I6, I5', q2, m + 2, k, p, f8, f9, g2, g3, g4, g5, c, _, _, ?_, ?_, g2', u6, TB_mono hT (by omega), by omega, by omega, fun hk => ⟨hk, ?_⟩⟩
        · have e13 : t s - 97 - 13 = t s - 110 := by omega
          simp (disch := omega) only [a11, a01, ↓li_m, ↓oc_some, ↓oc_ite, ↓oc_oc, ↓oc_pl, ↓oc_none, ↓oc_oe, ↓pl_eq, ↓oe_i, ↓oe_j, va_up_self, va_up_ne, va_up_up, upd_s, upd_n, updL_s, updL_n, nI_add, nI_1, nI_ltI, nI_leI, nI_eq, nI_clamp, li_n, m1_lt, m1_le, m1_gt, m1_ge, m1_ne, m1_en, m1_ad, nle_F, nle_T, nlt_F, nlt_T, neq_F, neq_T, or_self, or_false, false_or, true_or, or_true, and_self, and_false, false_and, true_and, and_true, not_true_eq_false, not_false_eq_true, ↓reduceIte, if_true, if_false, Nat.reduceAdd, ite_self, Bool.false_eq_true, nI_sb, g1, e13]
        · simp (disch := omega) only [a11, a01, ↓li_m, ↓oc_some, ↓oc_ite, ↓oc_oc, ↓oc_pl, ↓oc_none, ↓oc_oe, ↓pl_eq, ↓oe_i, ↓oe_j, va_up_self, va_up_ne, va_up_up, upd_s, upd_n, updL_s, updL_n, nI_add, nI_1, nI_ltI, nI_leI, nI_eq, nI_clamp, li_n, m1_lt, m1_le, m1_gt, m1_ge, m1_ne, m1_en, m1_ad, nle_F, nle_T, nlt_F, nlt_T, neq_F, neq_T, or_self, or_false, false_or, true_or, or_true, and_self, and_false, false_and, true_and, and_true, not_true_eq_false, not_false_eq_true, ↓reduceIte, if_true, if_false, Nat.reduceAdd, ite_self, Bool.false_eq_true, ↓U_Model_isClear, ↓U_Model_numberOf, nI_sb, l1, u2', u3]
        · exact CODE_2 (h := 0) (o := 16) (hC hk) (by omega) (by omega) (fun x => by omega) (by rw [show nd 16 = 0 from rfl]; omega) (by omega)
  · obtain ⟨R1', r3, r4, r5⟩ := RM (J := J') ht d2 hl
    rw [if_neg w, if_neg (show ¬ ¬ nI 0 = 0 from fun x => x rfl), e1]
    refine Or.inl ⟨nI s, R1', ?_, ?_, r4, r5⟩
    · skip
      repeat (first
        | exact zk_some (by assumption)
        | (with_reducible refine z_x (by assumption) (by assumption) (by decide) ?_) ; (intro _ _ _)
        | (with_reducible refine z_em (by assumption) ?_) ; (intro _ _ _)
        | (with_reducible refine z_ep (by assumption) ?_) ; (intro _ _ _)
        | (with_reducible refine z_b (by assumption) ?_) ; (intro _ _ _)
        | (with_reducible refine z_wS (by assumption) ?_) ; (intro _ _ _)
        | (with_reducible refine z_wC (by assumption) ?_) ; (intro _ _ _)
        | (with_reducible refine z_p (by assumption) ?_) ; (intro _ _ _)
        | (with_reducible refine z_r (by assumption) ?_) ; (intro _ _ _)
        | (with_reducible refine z_en (by assumption) ?_) ; (intro _ _ _)
        | (with_reducible refine z_lv (by assumption) ?_) ; (intro _ _ _)
        | (with_reducible refine z_am (by assumption) ?_) ; (intro _ _ _)
        | (with_reducible refine z_ar (by assumption) (by assumption) ?_) ; (intro _ _ _)
        | (with_reducible refine z_va (by assumption) (by assumption) ?_) ; (intro _ _ _)
        | (with_reducible refine z_lk (by assumption) (by assumption) ?_) ; (intro _ _ _)
        | (with_reducible refine z_dc (by assumption) (by assumption) ?_) ; (intro _ _ _)
        | (with_reducible refine z_r0 (by assumption) (by omega) (by assumption) ?_) ; (intro _ _ _)
        | (with_reducible refine z_r9 (by assumption) (by omega) (by assumption) ?_) ; (intro _ _ _)
        | (with_reducible refine zk_7 (by assumption) ?_) ; (intro _ _)
        | (with_reducible refine zk_9 (by assumption) ?_) ; (intro _ _)
        | (with_reducible refine zk_8 (by assumption) ?_) ; (intro _ _)
        | (with_reducible refine zk_pl ?_)
        | (with_reducible refine zk_ite ?_ ?_) <;> (intro _)
        | (with_reducible refine z_oc ?_ ?_)
        | (intro _ _ _))
    · simp (disch := omega) only [a11, a01, ↓li_m, ↓oc_some, ↓oc_ite, ↓oc_oc, ↓oc_pl, ↓oc_none, ↓oc_oe, ↓pl_eq, ↓oe_i, ↓oe_j, va_up_self, va_up_ne, va_up_up, upd_s, upd_n, updL_s, updL_n, nI_add, nI_1, nI_ltI, nI_leI, nI_eq, nI_clamp, li_n, m1_lt, m1_le, m1_gt, m1_ge, m1_ne, m1_en, m1_ad, nle_F, nle_T, nlt_F, nlt_T, neq_F, neq_T, or_self, or_false, false_or, true_or, or_true, and_self, and_false, false_and, true_and, and_true, not_true_eq_false, not_false_eq_true, ↓reduceIte, if_true, if_false, Nat.reduceAdd, ite_self, Bool.false_eq_true, ↓r3]

/-- input -/
theorem INP {q0 v a0 : Nat} (ht : tpOK n t) (hv : v < 26) (ha : a0 ≤ 400) (hP : P ≤ 4) (hA : CA n t P I q m D U k p f8 f9 cc) (hM : MA n t P I' q m D U k p g2 g3 g4 g5 c cm) (hT : TB f8 f9 g2 g3 g5 c q) (hC : k = 0 → CODE P cc cm m 0 f8 g3 g4 c) (hq : q0 + 2 ≤ q) (hm : m ≤ 5 * q0) : OS n t P D U J J' q0 m k (f_Translator_input (nI v) (nI a0) I J) (f_Model_readInput (nI (v + 97)) (nI a0) I' J') := by
  have hn := ht.1
  obtain ⟨I1, a1, a2, a3, a4, a5⟩ := LC (J := J) ht hA
  obtain ⟨I1', b1, b2, _⟩ := DIGM (J := J') ht hM
  have d0 := fun {α : Type} {F : Int32 → MI → MJ → Option α} => SM0 (J := J') ht b2 a3 (F := F)
  have vC := DIGC (J := J) ht a2
  rw [spq_id a3] at vC
  generalize spq n t q = s at a1 a2 a3 a4 a5 b1 b2 d0 vC
  have pC5 : I1 3 5 = nI s := a2.2.2.1
  have pM5 : I1' 112 5 = nI s := b2.2.2.1
  unfold f_Translator_input f_Model_readInput
  rw [a1, b1, pl_eq, pC5]
  rcases vC with ⟨w, I3, e1, e2⟩ | ⟨w, I3, e1, e2⟩
  · have w1 := w.1
    have w2 := w.2
    rw [cM_lt w1] at d0
    obtain ⟨I3', f1, f2, f3, f4⟩ := PM b2 w1
    have pM16 : I3' 112 16 = nI P := f2.2.1
    rw [if_pos w, if_pos (show ¬ nI 1 = 0 by decide), pl_eq, pM5, d0, pl_eq, f1, e1]
    by_cases c1 : v < 13
    ·   by_cases c2 : t s - 48 < P
        · skip
          obtain ⟨N1', n1, n2, _⟩ := NM (J := J') (a := 2) (x := a0) f2 (by omega) ha
          have n16 : N1' 112 16 = nI P := n2.2.1
          obtain ⟨L1', l1, l2, _⟩ := AM2 (J := J') (a := 13) (b := v) (v := nI 13) (w := nI v) n2 (by omega) rfl rfl
          obtain ⟨L2', l3, l4, _⟩ := AM (J := J') (b := t s - 48) (v := nI (t s - 48)) l2 (by omega) rfl
          obtain ⟨I5, I5', v', u1, u2, u3⟩ := WNT (J := J) (J' := J') ht (x := 59) (ch := 59) rfl (by omega) (by omega) e2 l4
          have u2' : ∀ {α : Type} {F : Int32 → MI → MJ → Option α}, oc (f_Model_want (nI 59) L2' J') F = F v' I5' J' := fun {α F} => u2
          rw [u1]
          have e97 : v + 97 - 97 = v := by omega
          have e110 : v + 97 - 110 = v - 13 := by omega
          rcases u3 with ⟨u3, x, u4, u5, u6⟩ | ⟨u3, q2, u4, u5, u6, u7⟩
          · refine Or.inl ⟨x, I5', ?_, ?_, u5, u6⟩
            · skip
              repeat (first
                | exact zk_some (by assumption)
                | (with_reducible refine z_x (by assumption) (by assumption) (by decide) ?_) ; (intro _ _ _)
                | (with_reducible refine z_em (by assumption) ?_) ; (intro _ _ _)
                | (with_reducible refine z_ep (by assumption) ?_) ; (intro _ _ _)
                | (with_reducible refine z_b (by assumption) ?_) ; (intro _ _ _)
                | (with_reducible refine z_wS (by assumption) ?_) ; (intro _ _ _)
                | (with_reducible refine z_wC (by assumption) ?_) ; (intro _ _ _)
                | (with_reducible refine z_p (by assumption) ?_) ; (intro _ _ _)
                | (with_reducible refine z_r (by assumption) ?_) ; (intro _ _ _)
                | (with_reducible refine z_en (by assumption) ?_) ; (intro _ _ _)
                | (with_reducible refine z_lv (by assumption) ?_) ; (intro _ _ _)
                | (with_reducible refine z_am (by assumption) ?_) ; (intro _ _ _)
                | (with_reducible refine z_ar (by assumption) (by assumption) ?_) ; (intro _ _ _)
                | (with_reducible refine z_va (by assumption) (by assumption) ?_) ; (intro _ _ _)
                | (with_reducible refine z_lk (by assumption) (by assumption) ?_) ; (intro _ _ _)
                | (with_reducible refine z_dc (by assumption) (by assumption) ?_) ; (intro _ _ _)
                | (with_reducible refine z_r0 (by assumption) (by omega) (by assumption) ?_) ; (intro _ _ _)
                | (with_reducible refine z_r9 (by assumption) (by omega) (by assumption) ?_) ; (intro _ _ _)
                | (with_reducible refine zk_7 (by assumption) ?_) ; (intro _ _)
                | (with_reducible refine zk_9 (by assumption) ?_) ; (intro _ _)
                | (with_reducible refine zk_8 (by assumption) ?_) ; (intro _ _)
                | (with_reducible refine zk_pl ?_)
                | (with_reducible refine zk_ite ?_ ?_) <;> (intro _)
                | (with_reducible refine z_oc ?_ ?_)
                | (intro _ _ _))
            · simp (disch := omega) only [a11, a01, ↓li_m, ↓oc_some, ↓oc_ite, ↓oc_oc, ↓oc_pl, ↓oc_none, ↓oc_oe, ↓pl_eq, ↓oe_i, ↓oe_j, va_up_self, va_up_ne, va_up_up, upd_s, upd_n, updL_s, updL_n, nI_add, nI_1, nI_ltI, nI_leI, nI_eq, nI_clamp, li_n, m1_lt, m1_le, m1_gt, m1_ge, m1_ne, m1_en, m1_ad, nle_F, nle_T, nlt_F, nlt_T, neq_F, neq_T, or_self, or_false, false_or, true_or, or_true, and_self, and_false, false_and, true_and, and_true, not_true_eq_false, not_false_eq_true, ↓reduceIte, if_true, if_false, Nat.reduceAdd, ite_self, Bool.false_eq_true, ↓U_Model_isClear, ↓U_Model_numberOf, nI_sb, e97, e110, n1, n16, l1, l3, u2', u3, n10e, pM16]
          · have z16 : I5 3 4 = nI P := u5.2.1
            obtain ⟨B1, o1, o2⟩ := BC (J := J) (a := 2) (x := a0) u5 (by omega) ha
            have o16 : B1 3 4 = nI P := o2.2.1
            obtain ⟨I6, g1, g2'⟩ := EM3' (J := J) (a := nI 13) (o := 13) (u := nI v - nI 13) (v := nI (t s - 48)) (w := nI 0) o2 rfl (by decide) (by decide) (by omega) (b255 _) (b255n (by omega))
            refine Or.inr ⟨(), I6, I5', q2, m + 3, _, _, f8, f9, g2, g3, g4, g5, c, _, _, ?_, ?_, g2', u6, TB_mono hT (by omega), by omega, by omega, fun hk => ?_⟩
            · simp (disch := omega) only [a11, a01, ↓li_m, ↓oc_some, ↓oc_ite, ↓oc_oc, ↓oc_pl, ↓oc_none, ↓oc_oe, ↓pl_eq, ↓oe_i, ↓oe_j, va_up_self, va_up_ne, va_up_up, upd_s, upd_n, updL_s, updL_n, nI_add, nI_1, nI_ltI, nI_leI, nI_eq, nI_clamp, li_n, m1_lt, m1_le, m1_gt, m1_ge, m1_ne, m1_en, m1_ad, nle_F, nle_T, nlt_F, nlt_T, neq_F, neq_T, or_self, or_false, false_or, true_or, or_true, and_self, and_false, false_and, true_and, and_true, not_true_eq_false, not_false_eq_true, ↓reduceIte, if_true, if_false, Nat.reduceAdd, ite_self, Bool.false_eq_true, ↓U_Translator_wantSecret, nI_sb, z16, o1, o16, g1]
            · simp (disch := omega) only [a11, a01, ↓li_m, ↓oc_some, ↓oc_ite, ↓oc_oc, ↓oc_pl, ↓oc_none, ↓oc_oe, ↓pl_eq, ↓oe_i, ↓oe_j, va_up_self, va_up_ne, va_up_up, upd_s, upd_n, updL_s, updL_n, nI_add, nI_1, nI_ltI, nI_leI, nI_eq, nI_clamp, li_n, m1_lt, m1_le, m1_gt, m1_ge, m1_ne, m1_en, m1_ad, nle_F, nle_T, nlt_F, nlt_T, neq_F, neq_T, or_self, or_false, false_or, true_or, or_true, and_self, and_false, false_and, true_and, and_true, not_true_eq_false, not_false_eq_true, ↓reduceIte, if_true, if_false, Nat.reduceAdd, ite_self, Bool.false_eq_true, ↓U_Model_isClear, ↓U_Model_numberOf, nI_sb, e97, e110, n1, n16, l1, l3, u2', u3, n10e, pM16]
            · exact (ntk0 hk (by omega)).elim
        · skip
          obtain ⟨N1', n1, n2, _⟩ := NM (J := J') (a := 2) (x := a0) f2 (by omega) ha
          have n16 : N1' 112 16 = nI P := n2.2.1
          obtain ⟨N2', m1', m2', _⟩ := NM (J := J') (a := 4) (x := s) n2 (by omega) (by omega)
          obtain ⟨L1', l1, l2, _⟩ := AM2 (J := J') (a := 13) (b := v) (v := nI 13) (w := nI v) m2' (by omega) rfl rfl
          obtain ⟨L2', l3, l4, _⟩ := AM (J := J') (b := t s - 48) (v := nI (t s - 48)) l2 (by omega) rfl
          obtain ⟨I5, I5', v', u1, u2, u3⟩ := WNT (J := J) (J' := J') ht (x := 59) (ch := 59) rfl (by omega) (by omega) e2 l4
          have u2' : ∀ {α : Type} {F : Int32 → MI → MJ → Option α}, oc (f_Model_want (nI 59) L2' J') F = F v' I5' J' := fun {α F} => u2
          rw [u1]
          have e97 : v + 97 - 97 = v := by omega
          have e110 : v + 97 - 110 = v - 13 := by omega
          rcases u3 with ⟨u3, x, u4, u5, u6⟩ | ⟨u3, q2, u4, u5, u6, u7⟩
          · refine Or.inl ⟨x, I5', ?_, ?_, u5, u6⟩
            · skip
              repeat (first
                | exact zk_some (by assumption)
                | (with_reducible refine z_x (by assumption) (by assumption) (by decide) ?_) ; (intro _ _ _)
                | (with_reducible refine z_em (by assumption) ?_) ; (intro _ _ _)
                | (with_reducible refine z_ep (by assumption) ?_) ; (intro _ _ _)
                | (with_reducible refine z_b (by assumption) ?_) ; (intro _ _ _)
                | (with_reducible refine z_wS (by assumption) ?_) ; (intro _ _ _)
                | (with_reducible refine z_wC (by assumption) ?_) ; (intro _ _ _)
                | (with_reducible refine z_p (by assumption) ?_) ; (intro _ _ _)
                | (with_reducible refine z_r (by assumption) ?_) ; (intro _ _ _)
                | (with_reducible refine z_en (by assumption) ?_) ; (intro _ _ _)
                | (with_reducible refine z_lv (by assumption) ?_) ; (intro _ _ _)
                | (with_reducible refine z_am (by assumption) ?_) ; (intro _ _ _)
                | (with_reducible refine z_ar (by assumption) (by assumption) ?_) ; (intro _ _ _)
                | (with_reducible refine z_va (by assumption) (by assumption) ?_) ; (intro _ _ _)
                | (with_reducible refine z_lk (by assumption) (by assumption) ?_) ; (intro _ _ _)
                | (with_reducible refine z_dc (by assumption) (by assumption) ?_) ; (intro _ _ _)
                | (with_reducible refine z_r0 (by assumption) (by omega) (by assumption) ?_) ; (intro _ _ _)
                | (with_reducible refine z_r9 (by assumption) (by omega) (by assumption) ?_) ; (intro _ _ _)
                | (with_reducible refine zk_7 (by assumption) ?_) ; (intro _ _)
                | (with_reducible refine zk_9 (by assumption) ?_) ; (intro _ _)
                | (with_reducible refine zk_8 (by assumption) ?_) ; (intro _ _)
                | (with_reducible refine zk_pl ?_)
                | (with_reducible refine zk_ite ?_ ?_) <;> (intro _)
                | (with_reducible refine z_oc ?_ ?_)
                | (intro _ _ _))
            · simp (disch := omega) only [a11, a01, ↓li_m, ↓oc_some, ↓oc_ite, ↓oc_oc, ↓oc_pl, ↓oc_none, ↓oc_oe, ↓pl_eq, ↓oe_i, ↓oe_j, va_up_self, va_up_ne, va_up_up, upd_s, upd_n, updL_s, updL_n, nI_add, nI_1, nI_ltI, nI_leI, nI_eq, nI_clamp, li_n, m1_lt, m1_le, m1_gt, m1_ge, m1_ne, m1_en, m1_ad, nle_F, nle_T, nlt_F, nlt_T, neq_F, neq_T, or_self, or_false, false_or, true_or, or_true, and_self, and_false, false_and, true_and, and_true, not_true_eq_false, not_false_eq_true, ↓reduceIte, if_true, if_false, Nat.reduceAdd, ite_self, Bool.false_eq_true, ↓U_Model_isClear, ↓U_Model_numberOf, nI_sb, e97, e110, n1, n16, m1', l1, l3, u2', u3, n10e, pM16]
          · have z16 : I5 3 4 = nI P := u5.2.1
            obtain ⟨B1, o1, o2⟩ := BC (J := J) (a := 2) (x := a0) u5 (by omega) ha
            have o16 : B1 3 4 = nI P := o2.2.1
            obtain ⟨B2, o3, o4⟩ := BC (J := J) (a := 4) (x := s) o2 (by omega) (by omega)
            obtain ⟨I6, g1, g2'⟩ := EM3' (J := J) (a := nI 13) (o := 13) (u := nI v - nI 13) (v := nI (t s - 48)) (w := nI 0) o4 rfl (by decide) (by decide) (by omega) (b255 _) (b255n (by omega))
            refine Or.inr ⟨(), I6, I5', q2, m + 3, _, _, f8, f9, g2, g3, g4, g5, c, _, _, ?_, ?_, g2', u6, TB_mono hT (by omega), by omega, by omega, fun hk => ?_⟩
            · simp (disch := omega) only [a11, a01, ↓li_m, ↓oc_some, ↓oc_ite, ↓oc_oc, ↓oc_pl, ↓oc_none, ↓oc_oe, ↓pl_eq, ↓oe_i, ↓oe_j, va_up_self, va_up_ne, va_up_up, upd_s, upd_n, updL_s, updL_n, nI_add, nI_1, nI_ltI, nI_leI, nI_eq, nI_clamp, li_n, m1_lt, m1_le, m1_gt, m1_ge, m1_ne, m1_en, m1_ad, nle_F, nle_T, nlt_F, nlt_T, neq_F, neq_T, or_self, or_false, false_or, true_or, or_true, and_self, and_false, false_and, true_and, and_true, not_true_eq_false, not_false_eq_true, ↓reduceIte, if_true, if_false, Nat.reduceAdd, ite_self, Bool.false_eq_true, ↓U_Translator_wantSecret, nI_sb, z16, o1, o16, o3, g1]
            · simp (disch := omega) only [a11, a01, ↓li_m, ↓oc_some, ↓oc_ite, ↓oc_oc, ↓oc_pl, ↓oc_none, ↓oc_oe, ↓pl_eq, ↓oe_i, ↓oe_j, va_up_self, va_up_ne, va_up_up, upd_s, upd_n, updL_s, updL_n, nI_add, nI_1, nI_ltI, nI_leI, nI_eq, nI_clamp, li_n, m1_lt, m1_le, m1_gt, m1_ge, m1_ne, m1_en, m1_ad, nle_F, nle_T, nlt_F, nlt_T, neq_F, neq_T, or_self, or_false, false_or, true_or, or_true, and_self, and_false, false_and, true_and, and_true, not_true_eq_false, not_false_eq_true, ↓reduceIte, if_true, if_false, Nat.reduceAdd, ite_self, Bool.false_eq_true, ↓U_Model_isClear, ↓U_Model_numberOf, nI_sb, e97, e110, n1, n16, m1', l1, l3, u2', u3, n10e, pM16]
            · exact (ntk0 hk (by omega)).elim
    ·   by_cases c2 : t s - 48 < P
        · skip
          obtain ⟨L1', l1, l2, _⟩ := AM2 (J := J') (a := 13) (b := (v - 13)) (v := nI 13) (w := nI (v - 13)) f2 (by omega) rfl rfl
          obtain ⟨L2', l3, l4, _⟩ := AM (J := J') (b := t s - 48) (v := nI (t s - 48)) l2 (by omega) rfl
          obtain ⟨I5, I5', v', u1, u2, u3⟩ := WNT (J := J) (J' := J') ht (x := 59) (ch := 59) rfl (by omega) (by omega) e2 l4
          have u2' : ∀ {α : Type} {F : Int32 → MI → MJ → Option α}, oc (f_Model_want (nI 59) L2' J') F = F v' I5' J' := fun {α F} => u2
          rw [u1]
          have e97 : v + 97 - 97 = v := by omega
          have e110 : v + 97 - 110 = v - 13 := by omega
          rcases u3 with ⟨u3, x, u4, u5, u6⟩ | ⟨u3, q2, u4, u5, u6, u7⟩
          · refine Or.inl ⟨x, I5', ?_, ?_, u5, u6⟩
            · skip
              repeat (first
                | exact zk_some (by assumption)
                | (with_reducible refine z_x (by assumption) (by assumption) (by decide) ?_) ; (intro _ _ _)
                | (with_reducible refine z_em (by assumption) ?_) ; (intro _ _ _)
                | (with_reducible refine z_ep (by assumption) ?_) ; (intro _ _ _)
                | (with_reducible refine z_b (by assumption) ?_) ; (intro _ _ _)
                | (with_reducible refine z_wS (by assumption) ?_) ; (intro _ _ _)
                | (with_reducible refine z_wC (by assumption) ?_) ; (intro _ _ _)
                | (with_reducible refine z_p (by assumption) ?_) ; (intro _ _ _)
                | (with_reducible refine z_r (by assumption) ?_) ; (intro _ _ _)
                | (with_reducible refine z_en (by assumption) ?_) ; (intro _ _ _)
                | (with_reducible refine z_lv (by assumption) ?_) ; (intro _ _ _)
                | (with_reducible refine z_am (by assumption) ?_) ; (intro _ _ _)
                | (with_reducible refine z_ar (by assumption) (by assumption) ?_) ; (intro _ _ _)
                | (with_reducible refine z_va (by assumption) (by assumption) ?_) ; (intro _ _ _)
                | (with_reducible refine z_lk (by assumption) (by assumption) ?_) ; (intro _ _ _)
                | (with_reducible refine z_dc (by assumption) (by assumption) ?_) ; (intro _ _ _)
                | (with_reducible refine z_r0 (by assumption) (by omega) (by assumption) ?_) ; (intro _ _ _)
                | (with_reducible refine z_r9 (by assumption) (by omega) (by assumption) ?_) ; (intro _ _ _)
                | (with_reducible refine zk_7 (by assumption) ?_) ; (intro _ _)
                | (with_reducible refine zk_9 (by assumption) ?_) ; (intro _ _)
                | (with_reducible refine zk_8 (by assumption) ?_) ; (intro _ _)
                | (with_reducible refine zk_pl ?_)
                | (with_reducible refine zk_ite ?_ ?_) <;> (intro _)
                | (with_reducible refine z_oc ?_ ?_)
                | (intro _ _ _))
            · simp (disch := omega) only [a11, a01, ↓li_m, ↓oc_some, ↓oc_ite, ↓oc_oc, ↓oc_pl, ↓oc_none, ↓oc_oe, ↓pl_eq, ↓oe_i, ↓oe_j, va_up_self, va_up_ne, va_up_up, upd_s, upd_n, updL_s, updL_n, nI_add, nI_1, nI_ltI, nI_leI, nI_eq, nI_clamp, li_n, m1_lt, m1_le, m1_gt, m1_ge, m1_ne, m1_en, m1_ad, nle_F, nle_T, nlt_F, nlt_T, neq_F, neq_T, or_self, or_false, false_or, true_or, or_true, and_self, and_false, false_and, true_and, and_true, not_true_eq_false, not_false_eq_true, ↓reduceIte, if_true, if_false, Nat.reduceAdd, ite_self, Bool.false_eq_true, ↓U_Model_isClear, ↓U_Model_numberOf, nI_sb, e97, e110, l1, l3, u2', u3, n10e, pM16]
          · have z16 : I5 3 4 = nI P := u5.2.1
            obtain ⟨I6, g1, g2'⟩ := EM3' (J := J) (a := nI 13) (o := 13) (u := nI (v - 13)) (v := nI (t s - 48)) (w := nI 0) u5 rfl (by decide) (by decide) (by omega) (b255n (by omega)) (b255n (by omega))
            refine Or.inr ⟨(), I6, I5', q2, m + 3, _, _, f8, f9, g2, g3, g4, g5, c, _, _, ?_, ?_, g2', u6, TB_mono hT (by omega), by omega, by omega, fun hk => ?_⟩
            · simp (disch := omega) only [a11, a01, ↓li_m, ↓oc_some, ↓oc_ite, ↓oc_oc, ↓oc_pl, ↓oc_none, ↓oc_oe, ↓pl_eq, ↓oe_i, ↓oe_j, va_up_self, va_up_ne, va_up_up, upd_s, upd_n, updL_s, updL_n, nI_add, nI_1, nI_ltI, nI_leI, nI_eq, nI_clamp, li_n, m1_lt, m1_le, m1_gt, m1_ge, m1_ne, m1_en, m1_ad, nle_F, nle_T, nlt_F, nlt_T, neq_F, neq_T, or_self, or_false, false_or, true_or, or_true, and_self, and_false, false_and, true_and, and_true, not_true_eq_false, not_false_eq_true, ↓reduceIte, if_true, if_false, Nat.reduceAdd, ite_self, Bool.false_eq_true, ↓U_Translator_wantSecret, nI_sb, z16, g1]
            · simp (disch := omega) only [a11, a01, ↓li_m, ↓oc_some, ↓oc_ite, ↓oc_oc, ↓oc_pl, ↓oc_none, ↓oc_oe, ↓pl_eq, ↓oe_i, ↓oe_j, va_up_self, va_up_ne, va_up_up, upd_s, upd_n, updL_s, updL_n, nI_add, nI_1, nI_ltI, nI_leI, nI_eq, nI_clamp, li_n, m1_lt, m1_le, m1_gt, m1_ge, m1_ne, m1_en, m1_ad, nle_F, nle_T, nlt_F, nlt_T, neq_F, neq_T, or_self, or_false, false_or, true_or, or_true, and_self, and_false, false_and, true_and, and_true, not_true_eq_false, not_false_eq_true, ↓reduceIte, if_true, if_false, Nat.reduceAdd, ite_self, Bool.false_eq_true, ↓U_Model_isClear, ↓U_Model_numberOf, nI_sb, e97, e110, l1, l3, u2', u3, n10e, pM16]
            · exact ⟨hk, CODE_gv0 (Or.inl rfl) (CODE_3 (h := 0) (o := 13) (hC hk) (by omega) (fun _ => ⟨by omega, c2⟩) (fun x => by omega) (fun x => by omega) (by omega) (by omega))⟩
        · skip
          obtain ⟨N2', m1', m2', _⟩ := NM (J := J') (a := 4) (x := s) f2 (by omega) (by omega)
          obtain ⟨L1', l1, l2, _⟩ := AM2 (J := J') (a := 13) (b := (v - 13)) (v := nI 13) (w := nI (v - 13)) m2' (by omega) rfl rfl
          obtain ⟨L2', l3, l4, _⟩ := AM (J := J') (b := t s - 48) (v := nI (t s - 48)) l2 (by omega) rfl
          obtain ⟨I5, I5', v', u1, u2, u3⟩ := WNT (J := J) (J' := J') ht (x := 59) (ch := 59) rfl (by omega) (by omega) e2 l4
          have u2' : ∀ {α : Type} {F : Int32 → MI → MJ → Option α}, oc (f_Model_want (nI 59) L2' J') F = F v' I5' J' := fun {α F} => u2
          rw [u1]
          have e97 : v + 97 - 97 = v := by omega
          have e110 : v + 97 - 110 = v - 13 := by omega
          rcases u3 with ⟨u3, x, u4, u5, u6⟩ | ⟨u3, q2, u4, u5, u6, u7⟩
          · refine Or.inl ⟨x, I5', ?_, ?_, u5, u6⟩
            · skip
              repeat (first
                | exact zk_some (by assumption)
                | (with_reducible refine z_x (by assumption) (by assumption) (by decide) ?_) ; (intro _ _ _)
                | (with_reducible refine z_em (by assumption) ?_) ; (intro _ _ _)
                | (with_reducible refine z_ep (by assumption) ?_) ; (intro _ _ _)
                | (with_reducible refine z_b (by assumption) ?_) ; (intro _ _ _)
                | (with_reducible refine z_wS (by assumption) ?_) ; (intro _ _ _)
                | (with_reducible refine z_wC (by assumption) ?_) ; (intro _ _ _)
                | (with_reducible refine z_p (by assumption) ?_) ; (intro _ _ _)
                | (with_reducible refine z_r (by assumption) ?_) ; (intro _ _ _)
                | (with_reducible refine z_en (by assumption) ?_) ; (intro _ _ _)
                | (with_reducible refine z_lv (by assumption) ?_) ; (intro _ _ _)
                | (with_reducible refine z_am (by assumption) ?_) ; (intro _ _ _)
                | (with_reducible refine z_ar (by assumption) (by assumption) ?_) ; (intro _ _ _)
                | (with_reducible refine z_va (by assumption) (by assumption) ?_) ; (intro _ _ _)
                | (with_reducible refine z_lk (by assumption) (by assumption) ?_) ; (intro _ _ _)
                | (with_reducible refine z_dc (by assumption) (by assumption) ?_) ; (intro _ _ _)
                | (with_reducible refine z_r0 (by assumption) (by omega) (by assumption) ?_) ; (intro _ _ _)
                | (with_reducible refine z_r9 (by assumption) (by omega) (by assumption) ?_) ; (intro _ _ _)
                | (with_reducible refine zk_7 (by assumption) ?_) ; (intro _ _)
                | (with_reducible refine zk_9 (by assumption) ?_) ; (intro _ _)
                | (with_reducible refine zk_8 (by assumption) ?_) ; (intro _ _)
                | (with_reducible refine zk_pl ?_)
                | (with_reducible refine zk_ite ?_ ?_) <;> (intro _)
                | (with_reducible refine z_oc ?_ ?_)
                | (intro _ _ _))
            · simp (disch := omega) only [a11, a01, ↓li_m, ↓oc_some, ↓oc_ite, ↓oc_oc, ↓oc_pl, ↓oc_none, ↓oc_oe, ↓pl_eq, ↓oe_i, ↓oe_j, va_up_self, va_up_ne, va_up_up, upd_s, upd_n, updL_s, updL_n, nI_add, nI_1, nI_ltI, nI_leI, nI_eq, nI_clamp, li_n, m1_lt, m1_le, m1_gt, m1_ge, m1_ne, m1_en, m1_ad, nle_F, nle_T, nlt_F, nlt_T, neq_F, neq_T, or_self, or_false, false_or, true_or, or_true, and_self, and_false, false_and, true_and, and_true, not_true_eq_false, not_false_eq_true, ↓reduceIte, if_true, if_false, Nat.reduceAdd, ite_self, Bool.false_eq_true, ↓U_Model_isClear, ↓U_Model_numberOf, nI_sb, e97, e110, m1', l1, l3, u2', u3, n10e, pM16]
          · have z16 : I5 3 4 = nI P := u5.2.1
            obtain ⟨B2, o3, o4⟩ := BC (J := J) (a := 4) (x := s) u5 (by omega) (by omega)
            obtain ⟨I6, g1, g2'⟩ := EM3' (J := J) (a := nI 13) (o := 13) (u := nI (v - 13)) (v := nI (t s - 48)) (w := nI 0) o4 rfl (by decide) (by decide) (by omega) (b255n (by omega)) (b255n (by omega))
            refine Or.inr ⟨(), I6, I5', q2, m + 3, _, _, f8, f9, g2, g3, g4, g5, c, _, _, ?_, ?_, g2', u6, TB_mono hT (by omega), by omega, by omega, fun hk => ?_⟩
            · simp (disch := omega) only [a11, a01, ↓li_m, ↓oc_some, ↓oc_ite, ↓oc_oc, ↓oc_pl, ↓oc_none, ↓oc_oe, ↓pl_eq, ↓oe_i, ↓oe_j, va_up_self, va_up_ne, va_up_up, upd_s, upd_n, updL_s, updL_n, nI_add, nI_1, nI_ltI, nI_leI, nI_eq, nI_clamp, li_n, m1_lt, m1_le, m1_gt, m1_ge, m1_ne, m1_en, m1_ad, nle_F, nle_T, nlt_F, nlt_T, neq_F, neq_T, or_self, or_false, false_or, true_or, or_true, and_self, and_false, false_and, true_and, and_true, not_true_eq_false, not_false_eq_true, ↓reduceIte, if_true, if_false, Nat.reduceAdd, ite_self, Bool.false_eq_true, ↓U_Translator_wantSecret, nI_sb, z16, o3, g1]
            · simp (disch := omega) only [a11, a01, ↓li_m, ↓oc_some, ↓oc_ite, ↓oc_oc, ↓oc_pl, ↓oc_none, ↓oc_oe, ↓pl_eq, ↓oe_i, ↓oe_j, va_up_self, va_up_ne, va_up_up, upd_s, upd_n, updL_s, updL_n, nI_add, nI_1, nI_ltI, nI_leI, nI_eq, nI_clamp, li_n, m1_lt, m1_le, m1_gt, m1_ge, m1_ne, m1_en, m1_ad, nle_F, nle_T, nlt_F, nlt_T, neq_F, neq_T, or_self, or_false, false_or, true_or, or_true, and_self, and_false, false_and, true_and, and_true, not_true_eq_false, not_false_eq_true, ↓reduceIte, if_true, if_false, Nat.reduceAdd, ite_self, Bool.false_eq_true, ↓U_Model_isClear, ↓U_Model_numberOf, nI_sb, e97, e110, m1', l1, l3, u2', u3, n10e, pM16]
            · exact (ntk0 hk (by omega)).elim
  · obtain ⟨R1', r3, r4, r5⟩ := RM (J := J') ht b2 a3
    rw [if_neg w, if_neg (show ¬ ¬ nI 0 = 0 from fun x => x rfl), e1]
    refine Or.inl ⟨nI s, R1', ?_, ?_, r4, r5⟩
    · skip
      repeat (first
        | exact zk_some (by assumption)
        | (with_reducible refine z_x (by assumption) (by assumption) (by decide) ?_) ; (intro _ _ _)
        | (with_reducible refine z_em (by assumption) ?_) ; (intro _ _ _)
        | (with_reducible refine z_ep (by assumption) ?_) ; (intro _ _ _)
        | (with_reducible refine z_b (by assumption) ?_) ; (intro _ _ _)
        | (with_reducible refine z_wS (by assumption) ?_) ; (intro _ _ _)
        | (with_reducible refine z_wC (by assumption) ?_) ; (intro _ _ _)
        | (with_reducible refine z_p (by assumption) ?_) ; (intro _ _ _)
        | (with_reducible refine z_r (by assumption) ?_) ; (intro _ _ _)
        | (with_reducible refine z_en (by assumption) ?_) ; (intro _ _ _)
        | (with_reducible refine z_lv (by assumption) ?_) ; (intro _ _ _)
        | (with_reducible refine z_am (by assumption) ?_) ; (intro _ _ _)
        | (with_reducible refine z_ar (by assumption) (by assumption) ?_) ; (intro _ _ _)
        | (with_reducible refine z_va (by assumption) (by assumption) ?_) ; (intro _ _ _)
        | (with_reducible refine z_lk (by assumption) (by assumption) ?_) ; (intro _ _ _)
        | (with_reducible refine z_dc (by assumption) (by assumption) ?_) ; (intro _ _ _)
        | (with_reducible refine z_r0 (by assumption) (by omega) (by assumption) ?_) ; (intro _ _ _)
        | (with_reducible refine z_r9 (by assumption) (by omega) (by assumption) ?_) ; (intro _ _ _)
        | (with_reducible refine zk_7 (by assumption) ?_) ; (intro _ _)
        | (with_reducible refine zk_9 (by assumption) ?_) ; (intro _ _)
        | (with_reducible refine zk_8 (by assumption) ?_) ; (intro _ _)
        | (with_reducible refine zk_pl ?_)
        | (with_reducible refine zk_ite ?_ ?_) <;> (intro _)
        | (with_reducible refine z_oc ?_ ?_)
        | (intro _ _ _))
    · simp (disch := omega) only [a11, a01, ↓li_m, ↓oc_some, ↓oc_ite, ↓oc_oc, ↓oc_pl, ↓oc_none, ↓oc_oe, ↓pl_eq, ↓oe_i, ↓oe_j, va_up_self, va_up_ne, va_up_up, upd_s, upd_n, updL_s, updL_n, nI_add, nI_1, nI_ltI, nI_leI, nI_eq, nI_clamp, li_n, m1_lt, m1_le, m1_gt, m1_ge, m1_ne, m1_en, m1_ad, nle_F, nle_T, nlt_F, nlt_T, neq_F, neq_T, or_self, or_false, false_or, true_or, or_true, and_self, and_false, false_and, true_and, and_true, not_true_eq_false, not_false_eq_true, ↓reduceIte, if_true, if_false, Nat.reduceAdd, ite_self, Bool.false_eq_true, ↓r3]
end CM
