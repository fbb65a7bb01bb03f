/-! compile: sums of products, and values as a whole -/
section CM
variable {n P m D U k p c q : Nat} {t : Nat → Nat} {I I' : MI} {J J' : MJ} {f8 f9 g2 g3 g4 g5 : Nat → Int32} {cc cm : Nat → Nat}
/-- a character that is there is taken -/
theorem TKM (ht : tpOK n t) {x : Int32} {ch : Nat} (hx : x = nI ch) (hc : ch < 1000) (hM : MA n t P I q m D U k p g2 g3 g4 g5 c cm) (h1 : spq n t q < n) (h2 : t (spq n t q) = ch) : ∃ I1, (∀ {α : Type} {F : Int32 → MI → MJ → Option α}, oc (f_Model_takes x I J) F = F (nI 1) I1 J) ∧ MA n t P I1 (spq n t q + 1) m D U k p g2 g3 g4 g5 c cm ∧ I1 112 73 = I 112 73 := by
  subst hx
  obtain ⟨I2, d1, d2, d3⟩ := SM (J := J) ht hM
  obtain ⟨I3, f1, f2, f3, f4⟩ := PM d2 h1
  rw [cM_lt h1, h2] at d1
  refine ⟨I3, ?_, f2, f3.trans d3⟩
  intro α F
  unfold f_Model_takes
  simp (disch := omega) only [a11, a01, ↓li_m, ↓oc_some, ↓oc_ite, ↓oc_oc, ↓oc_pl, ↓oc_none, ↓oc_oe, ↓pl_eq, ↓oe_i, ↓oe_j, va_up_self, va_up_ne, va_up_up, upd_s, upd_n, updL_s, updL_n, nI_add, nI_1, nI_ltI, nI_leI, nI_eq, nI_clamp, li_n, m1_lt, m1_le, m1_gt, m1_ge, m1_ne, m1_en, m1_ad, nle_F, nle_T, nlt_F, nlt_T, neq_F, neq_T, or_self, or_false, false_or, true_or, or_true, and_self, and_false, false_and, true_and, and_true, not_true_eq_false, not_false_eq_true, ↓reduceIte, if_true, if_false, Nat.reduceAdd, ite_self, Bool.false_eq_true, ↓d1, n10e, f4]
theorem TKN (ht : tpOK n t) {x : Int32} {ch : Nat} (hx : x = nI ch) (hc0 : 0 < ch) (hc : ch < 1000) (hM : MA n t P I q m D U k p g2 g3 g4 g5 c cm) (h1 : ¬ (spq n t q < n ∧ t (spq n t q) = ch)) : ∃ I1, (∀ {α : Type} {F : Int32 → MI → MJ → Option α}, oc (f_Model_takes x I J) F = F (nI 0) I1 J) ∧ MA n t P I1 (spq n t q) m D U k p g2 g3 g4 g5 c cm ∧ I1 112 73 = I 112 73 := by
  subst hx
  obtain ⟨I2, d1, d2, d3⟩ := SM (J := J) ht hM
  refine ⟨I2, ?_, d2, d3⟩
  have hne' : ¬ cM n t (spq n t q) = nI ch := by
    by_cases q2 : spq n t q < n
    · rw [cM_lt q2]
      exact fun c => h1 ⟨q2, (nI_eq (by have := (ht.2 _ q2).2; omega) (by omega)).mp c⟩
    · rw [cM_ge (by omega)]
      exact fun c => by have := (nI_eq (by omega) (by omega)).mp c; omega
  intro α F
  unfold f_Model_takes
  simp (disch := omega) only [a11, a01, ↓li_m, ↓oc_some, ↓oc_ite, ↓oc_oc, ↓oc_pl, ↓oc_none, ↓oc_oe, ↓pl_eq, ↓oe_i, ↓oe_j, va_up_self, va_up_ne, va_up_up, upd_s, upd_n, updL_s, updL_n, nI_add, nI_1, nI_ltI, nI_leI, nI_eq, nI_clamp, li_n, m1_lt, m1_le, m1_gt, m1_ge, m1_ne, m1_en, m1_ad, nle_F, nle_T, nlt_F, nlt_T, neq_F, neq_T, or_self, or_false, false_or, true_or, or_true, and_self, and_false, false_and, true_and, and_true, not_true_eq_false, not_false_eq_true, ↓reduceIte, if_true, if_false, Nat.reduceAdd, ite_self, Bool.false_eq_true, ↓d1, hne']
/-- a character that is there is passed -/
theorem XPC (ht : tpOK n t) {x : Int32} {ch : Nat} (hx : x = nI ch) (hA : CA n t P I q m D U k p f8 f9 cc) (h1 : spq n t q < n) (h2 : t (spq n t q) = ch) : ∃ I1, (∀ {α : Type} {F : Unit → MI → MJ → Option α}, oc (f_Translator_expect x I J) F = F () I1 J) ∧ CA n t P I1 (spq n t q + 1) m D U k p f8 f9 cc := by
  subst hx
  obtain ⟨I2, d1, d2, d3⟩ := LC (J := J) ht hA
  obtain ⟨I3, f1, f2⟩ := PC (J := J) d2 h1
  rw [cC_lt h1, h2] at d1
  refine ⟨I3, ?_, f2⟩
  intro α F
  unfold f_Translator_expect
  simp (disch := omega) only [a11, a01, ↓li_m, ↓oc_some, ↓oc_ite, ↓oc_oc, ↓oc_pl, ↓oc_none, ↓oc_oe, ↓pl_eq, ↓oe_i, ↓oe_j, va_up_self, va_up_ne, va_up_up, upd_s, upd_n, updL_s, updL_n, nI_add, nI_1, nI_ltI, nI_leI, nI_eq, nI_clamp, li_n, m1_lt, m1_le, m1_gt, m1_ge, m1_ne, m1_en, m1_ad, nle_F, nle_T, nlt_F, nlt_T, neq_F, neq_T, or_self, or_false, false_or, true_or, or_true, and_self, and_false, false_and, true_and, and_true, not_true_eq_false, not_false_eq_true, ↓reduceIte, if_true, if_false, Nat.reduceAdd, ite_self, Bool.false_eq_true, ↓d1, ↓f1]
theorem ADOT {q0 v a0 : Nat} (ht : tpOK n t) (hv : v < 26) (ha : a0 ≤ 400) (hl : lkd n t q) (hs : isA n t q) (hd : spq n t (q + 1) < n) (hd2 : t (spq n t (q + 1)) = 46) (hA : CA n t P I q m D U k p f8 f9 cc) (hM : MA n t P I' q m D U k p g2 g3 g4 g5 c cm) (hT : TB f8 f9 g2 g3 g5 c q) (hC : k = 0 → CODE P cc cm m 0 f8 g3 g4 c) (hq : q0 + 2 ≤ q) (hm : m ≤ 5 * q0) : OS n t P D U J J' q0 m k (cDot (nI v) (nI a0) I J) (mDot (nI (v + 97)) (nI a0) I' J') := by
  have hn := ht.1
  have hs2 := hs.2
  have b0 := fun {α : Type} {F : Int32 → MI → MJ → Option α} => SM0 (J := J') ht hM hl (F := F)
  rw [cM_lt hs.1] at b0
  obtain ⟨I1', b1, b2, b3, b4⟩ := PM hM hs.1
  have hle := spq_le (t := t) (show q + 1 ≤ n by have := hs.1; omega)
  have vC := ARRC (J := J) ht hA
  rw [spq_id hl] at vC
  rcases vC with ⟨_, I1, e1, e2⟩ | ⟨w, _⟩
  · obtain ⟨I2, x1, x2⟩ := XPC (J := J) ht (x := 46) (ch := 46) rfl e2 hd hd2
    obtain ⟨I2', y1, y2, _⟩ := TKM (J := J') ht (x := 46) (ch := 46) rfl (by omega) b2 hd hd2
    obtain ⟨I3', z1, z2, _⟩ := ARRM (J := J') ht y2
    have vD := ARRC (J := J) ht x2
    have hle2 := spq_le (t := t) (show spq n t (q + 1) + 1 ≤ n by omega)
    have hl2 := spq_lk n t (spq n t (q + 1) + 1)
    generalize spq n t (spq n t (q + 1) + 1) = s at vD z1 z2 hle2 hl2
    have z0 := fun {α : Type} {F : Int32 → MI → MJ → Option α} => SM0 (J := J') ht z2 hl2 (F := F)
    unfold cDot mDot
    rw [e1, x1, b0, pl_eq, b1, y1, z1]
    rcases vD with ⟨w, I3, f1, f2⟩ | ⟨w, I3, f1, f2⟩
    · have w1 := w.1
      have w2 := w.2
      rw [cM_lt w1] at z0
      obtain ⟨I4', h1, h2, h3, h4⟩ := PM z2 w1
      rw [if_pos w, if_pos (show ¬ nI 1 = 0 by decide), z0, pl_eq, h1, f1]
      have e97 : v + 97 - 97 = v := by omega
      have e110 : v + 97 - 110 = v - 13 := by omega
      by_cases c1 : v < 13
      · skip
        obtain ⟨N1', n1, n2, _⟩ := NM (J := J') (a := 2) (x := a0) h2 (by omega) ha
        obtain ⟨L1', l1, l2, _⟩ := AM2 (J := J') (a := 26) (b := t q - 65) (v := nI 26) (w := nI (t q - 65)) n2 (by omega) rfl rfl
        obtain ⟨L2', l3, l4, _⟩ := AM (J := J') (b := t s - 65) (v := nI (t s - 65)) l2 (by omega) rfl
        obtain ⟨L3', l5, l6, _⟩ := AM2 (J := J') (a := 12) (b := v) (v := nI 12) (w := nI v) l4 (by omega) rfl rfl
        obtain ⟨I5, I5', v', u1, u2, u3⟩ := WNT (J := J) (J' := J') ht (x := 59) (ch := 59) rfl (by omega) (by omega) f2 l6
        have u2' : ∀ {α : Type} {F : Int32 → MI → MJ → Option α}, oc (f_Model_want (nI 59) L3' J') F = F v' I5' J' := fun {α F} => u2
        rw [u1]
        rcases u3 with ⟨u3, x, u4, u5, u6⟩ | ⟨u3, q2, u4, u5, u6, u7⟩
        · refine Or.inl ⟨x, I5', ?_, ?_, u5, u6⟩
          · skip
            repeat (first
              | exact zk_some (by assumption)
              | (with_reducible refine z_x (by assumption) (by assumption) (by decide) ?_) ; (intro _ _ _)
              | (with_reducible refine z_em (by assumption) ?_) ; (intro _ _ _)
              | (with_reducible refine z_ep (by assumption) ?_) ; (intro _ _ _)
              | (with_reducible refine z_b (by assumption) ?_) ; (intro _ _ _)
              | (with_reducible refine z_wS (by assumption) ?_) ; (intro _ _ _)
              | (with_reducible refine z_wC (by assumption) ?_) ; (intro _ _ _)
              | (with_reducible refine z_p (by assumption) ?_) ; (intro _ _ _)
              | (with_reducible refine z_r (by assumption) ?_) ; (intro _ _ _)
              | (with_reducible refine z_en (by assumption) ?_) ; (intro _ _ _)
              | (with_reducible refine z_lv (by assumption) ?_) ; (intro _ _ _)
              | (with_reducible refine z_am (by assumption) ?_) ; (intro _ _ _)
              | (with_reducible refine z_ar (by assumption) (by assumption) ?_) ; (intro _ _ _)
              | (with_reducible refine z_va (by assumption) (by assumption) ?_) ; (intro _ _ _)
              | (with_reducible refine z_lk (by assumption) (by assumption) ?_) ; (intro _ _ _)
              | (with_reducible refine z_dc (by assumption) (by assumption) ?_) ; (intro _ _ _)
              | (with_reducible refine z_r0 (by assumption) (by omega) (by assumption) ?_) ; (intro _ _ _)
              | (with_reducible refine z_r9 (by assumption) (by omega) (by assumption) ?_) ; (intro _ _ _)
              | (with_reducible refine zk_7 (by assumption) ?_) ; (intro _ _)
              | (with_reducible refine zk_9 (by assumption) ?_) ; (intro _ _)
              | (with_reducible refine zk_8 (by assumption) ?_) ; (intro _ _)
              | (with_reducible refine zk_pl ?_)
              | (with_reducible refine zk_ite ?_ ?_) <;> (intro _)
              | (with_reducible refine z_oc ?_ ?_)
              | (intro _ _ _))
          · simp (disch := omega) only [a11, a01, ↓li_m, ↓oc_some, ↓oc_ite, ↓oc_oc, ↓oc_pl, ↓oc_none, ↓oc_oe, ↓pl_eq, ↓oe_i, ↓oe_j, va_up_self, va_up_ne, va_up_up, upd_s, upd_n, updL_s, updL_n, nI_add, nI_1, nI_ltI, nI_leI, nI_eq, nI_clamp, li_n, m1_lt, m1_le, m1_gt, m1_ge, m1_ne, m1_en, m1_ad, nle_F, nle_T, nlt_F, nlt_T, neq_F, neq_T, or_self, or_false, false_or, true_or, or_true, and_self, and_false, false_and, true_and, and_true, not_true_eq_false, not_false_eq_true, ↓reduceIte, if_true, if_false, Nat.reduceAdd, ite_self, Bool.false_eq_true, ↓U_Model_isClear, ↓U_Model_numberOf, nI_sb, e97, e110, n1, l1, l3, l5, u2', u3, n10e]
        · skip
          obtain ⟨B1, o1, o2⟩ := BC (J := J) (a := 2) (x := a0) u5 (by omega) ha
          obtain ⟨I6, g1, g2'⟩ := EM3' (J := J) (a := nI 26) (o := 26) (u := nI (t q - 65)) (v := nI (t s - 65)) (w := nI 0) o2 rfl (by decide) (by decide) (by omega) (b255n (by omega)) (b255n (by omega))
          obtain ⟨I7, g3', g4'⟩ := EM2' (J := J) (a := nI 12) (o := 12) (u := nI v - nI 13) (v := nI 0) (w := nI 0) g2' rfl (by decide) (by decide) (by omega) (b255 _)
          refine Or.inr ⟨(), I7, I5', q2, m + 3 + 2, _, _, f8, f9, g2, g3, g4, g5, c, _, _, ?_, ?_, g4', u6, TB_mono hT (by omega), by omega, by omega, fun hk => ?_⟩
          · simp (disch := omega) only [a11, a01, ↓li_m, ↓oc_some, ↓oc_ite, ↓oc_oc, ↓oc_pl, ↓oc_none, ↓oc_oe, ↓pl_eq, ↓oe_i, ↓oe_j, va_up_self, va_up_ne, va_up_up, upd_s, upd_n, updL_s, updL_n, nI_add, nI_1, nI_ltI, nI_leI, nI_eq, nI_clamp, li_n, m1_lt, m1_le, m1_gt, m1_ge, m1_ne, m1_en, m1_ad, nle_F, nle_T, nlt_F, nlt_T, neq_F, neq_T, or_self, or_false, false_or, true_or, or_true, and_self, and_false, false_and, true_and, and_true, not_true_eq_false, not_false_eq_true, ↓reduceIte, if_true, if_false, Nat.reduceAdd, ite_self, Bool.false_eq_true, ↓U_Translator_wantSecret, nI_sb, o1, g1, g3']
          · simp (disch := omega) only [a11, a01, ↓li_m, ↓oc_some, ↓oc_ite, ↓oc_oc, ↓oc_pl, ↓oc_none, ↓oc_oe, ↓pl_eq, ↓oe_i, ↓oe_j, va_up_self, va_up_ne, va_up_up, upd_s, upd_n, updL_s, updL_n, nI_add, nI_1, nI_ltI, nI_leI, nI_eq, nI_clamp, li_n, m1_lt, m1_le, m1_gt, m1_ge, m1_ne, m1_en, m1_ad, nle_F, nle_T, nlt_F, nlt_T, neq_F, neq_T, or_self, or_false, false_or, true_or, or_true, and_self, and_false, false_and, true_and, and_true, not_true_eq_false, not_false_eq_true, ↓reduceIte, if_true, if_false, Nat.reduceAdd, ite_self, Bool.false_eq_true, ↓U_Model_isClear, ↓U_Model_numberOf, nI_sb, e97, e110, n1, l1, l3, l5, u2', u3, n10e]
          · exact (ntk0 hk (by omega)).elim
      · skip
        obtain ⟨L1', l1, l2, _⟩ := AM2 (J := J') (a := 26) (b := t q - 65) (v := nI 26) (w := nI (t q - 65)) h2 (by omega) rfl rfl
        obtain ⟨L2', l3, l4, _⟩ := AM (J := J') (b := t s - 65) (v := nI (t s - 65)) l2 (by omega) rfl
        obtain ⟨L3', l5, l6, _⟩ := AM2 (J := J') (a := 12) (b := (v - 13)) (v := nI 12) (w := nI (v - 13)) l4 (by omega) rfl rfl
        obtain ⟨I5, I5', v', u1, u2, u3⟩ := WNT (J := J) (J' := J') ht (x := 59) (ch := 59) rfl (by omega) (by omega) f2 l6
        have u2' : ∀ {α : Type} {F : Int32 → MI → MJ → Option α}, oc (f_Model_want (nI 59) L3' J') F = F v' I5' J' := fun {α F} => u2
        rw [u1]
        rcases u3 with ⟨u3, x, u4, u5, u6⟩ | ⟨u3, q2, u4, u5, u6, u7⟩
        · refine Or.inl ⟨x, I5', ?_, ?_, u5, u6⟩
          · skip
            repeat (first
              | exact zk_some (by assumption)
              | (with_reducible refine z_x (by assumption) (by assumption) (by decide) ?_) ; (intro _ _ _)
              | (with_reducible refine z_em (by assumption) ?_) ; (intro _ _ _)
              | (with_reducible refine z_ep (by assumption) ?_) ; (intro _ _ _)
              | (with_reducible refine z_b (by assumption) ?_) ; (intro _ _ _)
              | (with_reducible refine z_wS (by assumption) ?_) ; (intro _ _ _)
              | (with_reducible refine z_wC (by assumption) ?_) ; (intro _ _ _)
              | (with_reducible refine z_p (by assumption) ?_) ; (intro _ _ _)
              | (with_reducible refine z_r (by assumption) ?_) ; (intro _ _ _)
              | (with_reducible refine z_en (by assumption) ?_) ; (intro _ _ _)
              | (with_reducible refine z_lv (by assumption) ?_) ; (intro _ _ _)
              | (with_reducible refine z_am (by assumption) ?_) ; (intro _ _ _)
              | (with_reducible refine z_ar (by assumption) (by assumption) ?_) ; (intro _ _ _)
              | (with_reducible refine z_va (by assumption) (by assumption) ?_) ; (intro _ _ _)
              | (with_reducible refine z_lk (by assumption) (by assumption) ?_) ; (intro _ _ _)
              | (with_reducible refine z_dc (by assumption) (by assumption) ?_) ; (intro _ _ _)
              | (with_reducible refine z_r0 (by assumption) (by omega) (by assumption) ?_) ; (intro _ _ _)
              | (with_reducible refine z_r9 (by assumption) (by omega) (by assumption) ?_) ; (intro _ _ _)
              | (with_reducible refine zk_7 (by assumption) ?_) ; (intro _ _)
              | (with_reducible refine zk_9 (by assumption) ?_) ; (intro _ _)
              | (with_reducible refine zk_8 (by assumption) ?_) ; (intro _ _)
              | (with_reducible refine zk_pl ?_)
              | (with_reducible refine zk_ite ?_ ?_) <;> (intro _)
              | (with_reducible refine z_oc ?_ ?_)
              | (intro _ _ _))
          · simp (disch := omega) only [a11, a01, ↓li_m, ↓oc_some, ↓oc_ite, ↓oc_oc, ↓oc_pl, ↓oc_none, ↓oc_oe, ↓pl_eq, ↓oe_i, ↓oe_j, va_up_self, va_up_ne, va_up_up, upd_s, upd_n, updL_s, updL_n, nI_add, nI_1, nI_ltI, nI_leI, nI_eq, nI_clamp, li_n, m1_lt, m1_le, m1_gt, m1_ge, m1_ne, m1_en, m1_ad, nle_F, nle_T, nlt_F, nlt_T, neq_F, neq_T, or_self, or_false, false_or, true_or, or_true, and_self, and_false, false_and, true_and, and_true, not_true_eq_false, not_false_eq_true, ↓reduceIte, if_true, if_false, Nat.reduceAdd, ite_self, Bool.false_eq_true, ↓U_Model_isClear, ↓U_Model_numberOf, nI_sb, e97, e110, l1, l3, l5, u2', u3, n10e]
        · skip
          obtain ⟨I6, g1, g2'⟩ := EM3' (J := J) (a := nI 26) (o := 26) (u := nI (t q - 65)) (v := nI (t s - 65)) (w := nI 0) u5 rfl (by decide) (by decide) (by omega) (b255n (by omega)) (b255n (by omega))
          obtain ⟨I7, g3', g4'⟩ := EM2' (J := J) (a := nI 12) (o := 12) (u := nI (v - 13)) (v := nI 0) (w := nI 0) g2' rfl (by decide) (by decide) (by omega) (b255n (by omega))
          refine Or.inr ⟨(), I7, I5', q2, m + 3 + 2, _, _, f8, f9, g2, g3, g4, g5, c, _, _, ?_, ?_, g4', u6, TB_mono hT (by omega), by omega, by omega, fun hk => ?_⟩
          · simp (disch := omega) only [a11, a01, ↓li_m, ↓oc_some, ↓oc_ite, ↓oc_oc, ↓oc_pl, ↓oc_none, ↓oc_oe, ↓pl_eq, ↓oe_i, ↓oe_j, va_up_self, va_up_ne, va_up_up, upd_s, upd_n, updL_s, updL_n, nI_add, nI_1, nI_ltI, nI_leI, nI_eq, nI_clamp, li_n, m1_lt, m1_le, m1_gt, m1_ge, m1_ne, m1_en, m1_ad, nle_F, nle_T, nlt_F, nlt_T, neq_F, neq_T, or_self, or_false, false_or, true_or, or_true, and_self, and_false, false_and, true_and, and_true, not_true_eq_false, not_false_eq_true, ↓reduceIte, if_true, if_false, Nat.reduceAdd, ite_self, Bool.false_eq_true, ↓U_Translator_wantSecret, nI_sb, g1, g3']
          · simp (disch := omega) only [a11, a01, ↓li_m, ↓oc_some, ↓oc_ite, ↓oc_oc, ↓oc_pl, ↓oc_none, ↓oc_oe, ↓pl_eq, ↓oe_i, ↓oe_j, va_up_self, va_up_ne, va_up_up, upd_s, upd_n, updL_s, updL_n, nI_add, nI_1, nI_ltI, nI_leI, nI_eq, nI_clamp, li_n, m1_lt, m1_le, m1_gt, m1_ge, m1_ne, m1_en, m1_ad, nle_F, nle_T, nlt_F, nlt_T, neq_F, neq_T, or_self, or_false, false_or, true_or, or_true, and_self, and_false, false_and, true_and, and_true, not_true_eq_false, not_false_eq_true, ↓reduceIte, if_true, if_false, Nat.reduceAdd, ite_self, Bool.false_eq_true, ↓U_Model_isClear, ↓U_Model_numberOf, nI_sb, e97, e110, l1, l3, l5, u2', u3, n10e]
          · have X := CODE_3 (h := 0) (o := 26) (a := t q - 65) (b := t s - 65) (hC hk) (by omega) (fun x => by omega) (fun x => by omega) (fun _ => ⟨by omega, by omega⟩) (by omega) (by omega)
            rw [show gv 26 = 1 from rfl] at X
            have Y := CODE_2 (h := 0 + 1) (o := 12) (b := v - 13) X (by omega) (by omega) (fun x => by omega) (by rw [show nd 12 = 1 from rfl]; omega) (by omega)
            exact ⟨hk, Y⟩
    · obtain ⟨R1', r3, r4, r5⟩ := RM (J := J') ht z2 hl2
      rw [if_neg w, if_neg (show ¬ ¬ nI 0 = 0 from fun x => x rfl), f1]
      refine Or.inl ⟨nI s, R1', ?_, ?_, r4, r5⟩
      · skip
        repeat (first
          | exact zk_some (by assumption)
          | (with_reducible refine z_x (by assumption) (by assumption) (by decide) ?_) ; (intro _ _ _)
          | (with_reducible refine z_em (by assumption) ?_) ; (intro _ _ _)
          | (with_reducible refine z_ep (by assumption) ?_) ; (intro _ _ _)
          | (with_reducible refine z_b (by assumption) ?_) ; (intro _ _ _)
          | (with_reducible refine z_wS (by assumption) ?_) ; (intro _ _ _)
          | (with_reducible refine z_wC (by assumption) ?_) ; (intro _ _ _)
          | (with_reducible refine z_p (by assumption) ?_) ; (intro _ _ _)
          | (with_reducible refine z_r (by assumption) ?_) ; (intro _ _ _)
          | (with_reducible refine z_en (by assumption) ?_) ; (intro _ _ _)
          | (with_reducible refine z_lv (by assumption) ?_) ; (intro _ _ _)
          | (with_reducible refine z_am (by assumption) ?_) ; (intro _ _ _)
          | (with_reducible refine z_ar (by assumption) (by assumption) ?_) ; (intro _ _ _)
          | (with_reducible refine z_va (by assumption) (by assumption) ?_) ; (intro _ _ _)
          | (with_reducible refine z_lk (by assumption) (by assumption) ?_) ; (intro _ _ _)
          | (with_reducible refine z_dc (by assumption) (by assumption) ?_) ; (intro _ _ _)
          | (with_reducible refine z_r0 (by assumption) (by omega) (by assumption) ?_) ; (intro _ _ _)
          | (with_reducible refine z_r9 (by assumption) (by omega) (by assumption) ?_) ; (intro _ _ _)
          | (with_reducible refine zk_7 (by assumption) ?_) ; (intro _ _)
          | (with_reducible refine zk_9 (by assumption) ?_) ; (intro _ _)
          | (with_reducible refine zk_8 (by assumption) ?_) ; (intro _ _)
          | (with_reducible refine zk_pl ?_)
          | (with_reducible refine zk_ite ?_ ?_) <;> (intro _)
          | (with_reducible refine z_oc ?_ ?_)
          | (intro _ _ _))
      · simp (disch := omega) only [a11, a01, ↓li_m, ↓oc_some, ↓oc_ite, ↓oc_oc, ↓oc_pl, ↓oc_none, ↓oc_oe, ↓pl_eq, ↓oe_i, ↓oe_j, va_up_self, va_up_ne, va_up_up, upd_s, upd_n, updL_s, updL_n, nI_add, nI_1, nI_ltI, nI_leI, nI_eq, nI_clamp, li_n, m1_lt, m1_le, m1_gt, m1_ge, m1_ne, m1_en, m1_ad, nle_F, nle_T, nlt_F, nlt_T, neq_F, neq_T, or_self, or_false, false_or, true_or, or_true, and_self, and_false, false_and, true_and, and_true, not_true_eq_false, not_false_eq_true, ↓reduceIte, if_true, if_false, Nat.reduceAdd, ite_self, Bool.false_eq_true, ↓r3]
  · exact absurd hs w
theorem ASG {q0 v a0 f f' : Nat} (ht : tpOK n t) (hD : D ≤ 20) (hv : v < 26) (ha : a0 ≤ 400) (hf : 5 * (21 - D) + 4 ≤ f) (hf' : 5 * (21 - D) + 4 ≤ f') (hA : CA n t P I q m D U k p f8 f9 cc) (hM : MA n t P I' q m D U k p g2 g3 g4 g5 c cm) (hT : TB f8 f9 g2 g3 g5 c q) (hC : k = 0 → CODE P cc cm m 0 f8 g3 g4 c) (hq : q0 + 2 ≤ q) (hm : m ≤ 5 * q0) : OS n t P D U J J' q0 m k (f_Translator_assign (f_RcT f) (nI v) (nI a0) I J) (f_Model_readValue (f_RcM f') (nI (v + 97)) (nI a0) I' J') := by
  have hn := ht.1
  obtain ⟨I1, a1, a2, a3, a4, a5⟩ := LC (J := J) ht hA
  obtain ⟨I1', b1, b2, _⟩ := ARRM (J := J') ht hM
  generalize spq n t q = s at a1 a2 a3 a4 a5 b1 b2
  rw [assign_eq, value_eq, a1, b1]
  have main := AVAL (q0 := q0) (v := v) (a0 := a0) (f := f) (f' := f') (J := J) (J' := J') ht hD hv ha hf hf' a2 b2 (TB_mono hT a4) hC (by omega) hm
  by_cases w : isA n t s
  · have w1 := w.1
    have w2 := w.2
    have bn := fun {α : Type} {F : Int32 → MI → MJ → Option α} => BN (J := J) ht a2 w1 (F := F)
    have is := fun {α : Type} {F : Int32 → MI → MJ → Option α} => ISM (J := J') ht b2 w1 (F := F)
    have ar : ∀ {α : Type} {F : Int32 → MI → MJ → Option α}, oc (f_Translator_isArray (cCq n t s) I1 J) F = F (nI 1) I1 J := by
      intro α F
      rw [cC_lt w1]
      unfold f_Translator_isArray
      simp (disch := omega) only [a11, a01, ↓li_m, ↓oc_some, ↓oc_ite, ↓oc_oc, ↓oc_pl, ↓oc_none, ↓oc_oe, ↓pl_eq, ↓oe_i, ↓oe_j, va_up_self, va_up_ne, va_up_up, upd_s, upd_n, updL_s, updL_n, nI_add, nI_1, nI_ltI, nI_leI, nI_eq, nI_clamp, li_n, m1_lt, m1_le, m1_gt, m1_ge, m1_ne, m1_en, m1_ad, nle_F, nle_T, nlt_F, nlt_T, neq_F, neq_T, or_self, or_false, false_or, true_or, or_true, and_self, and_false, false_and, true_and, and_true, not_true_eq_false, not_false_eq_true, ↓reduceIte, if_true, if_false, Nat.reduceAdd, ite_self, Bool.false_eq_true]
    rw [ar, if_pos w, if_neg (show ¬ nI 1 = 0 by decide), if_neg (show ¬ nI 1 = 0 by decide), bn, is]
    by_cases e : spq n t (s + 1) < n ∧ t (spq n t (s + 1)) = 46
    · rw [if_pos e, cC_lt e.1, e.2, if_neg (show ¬ ¬ nI 46 = 46 from fun x => x rfl), if_neg (show ¬ nI 1 = 0 by decide)]
      exact ADOT ht hv ha a3 w e.1 e.2 a2 b2 (TB_mono hT a4) hC (by omega) hm
    · have hne : ¬ cCq n t (spq n t (s + 1)) = 46 := by
        by_cases q : spq n t (s + 1) < n
        · rw [cC_lt q]
          exact fun c => e ⟨q, (nI_eq (b := 46) (by have := (ht.2 _ q).2; omega) (by omega)).mp c⟩
        · rw [cC_ge (by omega)]
          decide
      rw [if_neg e, if_pos hne, if_pos (show nI 0 = 0 from rfl)]
      exact main
  · have ar : ∀ {α : Type} {F : Int32 → MI → MJ → Option α}, oc (f_Translator_isArray (cCq n t s) I1 J) F = F (nI 0) I1 J := by
      intro α F
      unfold f_Translator_isArray
      by_cases hs : s < n
      · have := ht.2 s hs
        rw [cC_lt hs]
        by_cases w1 : t s < 65
        · simp (disch := omega) only [a11, a01, ↓li_m, ↓oc_some, ↓oc_ite, ↓oc_oc, ↓oc_pl, ↓oc_none, ↓oc_oe, ↓pl_eq, ↓oe_i, ↓oe_j, va_up_self, va_up_ne, va_up_up, upd_s, upd_n, updL_s, updL_n, nI_add, nI_1, nI_ltI, nI_leI, nI_eq, nI_clamp, li_n, m1_lt, m1_le, m1_gt, m1_ge, m1_ne, m1_en, m1_ad, nle_F, nle_T, nlt_F, nlt_T, neq_F, neq_T, or_self, or_false, false_or, true_or, or_true, and_self, and_false, false_and, true_and, and_true, not_true_eq_false, not_false_eq_true, ↓reduceIte, if_true, if_false, Nat.reduceAdd, ite_self, Bool.false_eq_true]
        · simp (disch := omega) only [a11, a01, ↓li_m, ↓oc_some, ↓oc_ite, ↓oc_oc, ↓oc_pl, ↓oc_none, ↓oc_oe, ↓pl_eq, ↓oe_i, ↓oe_j, va_up_self, va_up_ne, va_up_up, upd_s, upd_n, updL_s, updL_n, nI_add, nI_1, nI_ltI, nI_leI, nI_eq, nI_clamp, li_n, m1_lt, m1_le, m1_gt, m1_ge, m1_ne, m1_en, m1_ad, nle_F, nle_T, nlt_F, nlt_T, neq_F, neq_T, or_self, or_false, false_or, true_or, or_true, and_self, and_false, false_and, true_and, and_true, not_true_eq_false, not_false_eq_true, ↓reduceIte, if_true, if_false, Nat.reduceAdd, ite_self, Bool.false_eq_true]
      · rw [cC_ge (by omega)]
        simp (disch := omega) only [a11, a01, ↓li_m, ↓oc_some, ↓oc_ite, ↓oc_oc, ↓oc_pl, ↓oc_none, ↓oc_oe, ↓pl_eq, ↓oe_i, ↓oe_j, va_up_self, va_up_ne, va_up_up, upd_s, upd_n, updL_s, updL_n, nI_add, nI_1, nI_ltI, nI_leI, nI_eq, nI_clamp, li_n, m1_lt, m1_le, m1_gt, m1_ge, m1_ne, m1_en, m1_ad, nle_F, nle_T, nlt_F, nlt_T, neq_F, neq_T, or_self, or_false, false_or, true_or, or_true, and_self, and_false, false_and, true_and, and_true, not_true_eq_false, not_false_eq_true, ↓reduceIte, if_true, if_false, Nat.reduceAdd, ite_self, Bool.false_eq_true]
    rw [ar, if_neg w, if_pos (show nI 0 = 0 from rfl), if_pos (show nI 0 = 0 from rfl)]
    exact main
end CM
