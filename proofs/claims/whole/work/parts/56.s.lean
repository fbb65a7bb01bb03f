/-! compile: statements that begin with a row -/
section CM
variable {n P m D U k p c q : Nat} {t : Nat → Nat} {I I' : MI} {J J' : MJ} {f8 f9 g2 g3 g4 g5 : Nat → Int32} {cc cm : Nat → Nat}
theorem AST {a f f' : Nat} (ht : tpOK n t) (hD : D ≤ 20) (ha : a < 8) (hq : q < n) (hf : 5 * (21 - D) + 5 ≤ f) (hf' : 5 * (21 - D) + 5 ≤ f') (hA : CA n t P I q m D U k p f8 f9 cc) (hM : MA n t P I' q m D U k p g2 g3 g4 g5 c cm) (hT : TB f8 f9 g2 g3 g5 c q) (hC : k = 0 → CODE P cc cm m 0 f8 g3 g4 c) (hm : m ≤ 5 * q) : OS n t P D U J J' q m k (f_Translator_arrayStatement (f_RcT f) (nI a) (nI q) I J) (f_Model_readRow (f_RcM f') (nI (a + 65)) I' J') := by
  have hn := ht.1
  obtain ⟨hEX, _, hIX⟩ := EX_all (P := P) (U := U) (f8 := f8) (f9 := f9) (g2 := g2) (g3 := g3) (g4 := g4) (g5 := g5) (c := c) (J := J) (J' := J') ht (20 - D) D (by omega)
  have p5 : I' 112 5 = nI q := hM.2.2.1
  obtain ⟨I1, a1, a2⟩ := PC (J := J) hA hq
  obtain ⟨I1', b1, b2, _, _⟩ := PM hM hq
  obtain ⟨I2, c1, c2, c3, c4, c5⟩ := LC (J := J) ht a2
  have eA : a + 65 - 65 = a := by omega
  have sr : ∀ {K : MI} {α : Type} {F : Int32 → MI → MJ → Option α}, oc (f_Model_isSecretRow (nI (a + 65)) K J') F = F (if a < 4 then nI 0 else nI 1) K J' := by
    intro K α F
    unfold f_Model_isSecretRow
    by_cases x : a < 4
    · simp (disch := omega) only [a11, a01, ↓li_m, ↓oc_some, ↓oc_ite, ↓oc_oc, ↓oc_pl, ↓oc_none, ↓oc_oe, ↓pl_eq, ↓oe_i, ↓oe_j, va_up_self, va_up_ne, va_up_up, upd_s, upd_n, updL_s, updL_n, nI_add, nI_1, nI_ltI, nI_leI, nI_eq, nI_clamp, li_n, m1_lt, m1_le, m1_gt, m1_ge, m1_ne, m1_en, m1_ad, nle_F, nle_T, nlt_F, nlt_T, neq_F, neq_T, or_self, or_false, false_or, true_or, or_true, and_self, and_false, false_and, true_and, and_true, not_true_eq_false, not_false_eq_true, ↓reduceIte, if_true, if_false, Nat.reduceAdd, ite_self, Bool.false_eq_true]
    · simp (disch := omega) only [a11, a01, ↓li_m, ↓oc_some, ↓oc_ite, ↓oc_oc, ↓oc_pl, ↓oc_none, ↓oc_oe, ↓pl_eq, ↓oe_i, ↓oe_j, va_up_self, va_up_ne, va_up_up, upd_s, upd_n, updL_s, updL_n, nI_add, nI_1, nI_ltI, nI_leI, nI_eq, nI_clamp, li_n, m1_lt, m1_le, m1_gt, m1_ge, m1_ne, m1_en, m1_ad, nle_F, nle_T, nlt_F, nlt_T, neq_F, neq_T, or_self, or_false, false_or, true_or, or_true, and_self, and_false, false_and, true_and, and_true, not_true_eq_false, not_false_eq_true, ↓reduceIte, if_true, if_false, Nat.reduceAdd, ite_self, Bool.false_eq_true]
  have rv : (if (if a < 4 then nI 0 else nI 1) = (0 : Int32) then (nI (a + 65) - 65) else (nI (a + 65) - 69)) = nI (if a < 4 then a else a - 4) := by
    have e69 : a + 65 - 69 = a - 4 := by omega
    by_cases x : a < 4
    · simp (disch := omega) only [a11, a01, ↓li_m, ↓oc_some, ↓oc_ite, ↓oc_oc, ↓oc_pl, ↓oc_none, ↓oc_oe, ↓pl_eq, ↓oe_i, ↓oe_j, va_up_self, va_up_ne, va_up_up, upd_s, upd_n, updL_s, updL_n, nI_add, nI_1, nI_ltI, nI_leI, nI_eq, nI_clamp, li_n, m1_lt, m1_le, m1_gt, m1_ge, m1_ne, m1_en, m1_ad, nle_F, nle_T, nlt_F, nlt_T, neq_F, neq_T, or_self, or_false, false_or, true_or, or_true, and_self, and_false, false_and, true_and, and_true, not_true_eq_false, not_false_eq_true, ↓reduceIte, if_true, if_false, Nat.reduceAdd, ite_self, Bool.false_eq_true, nI_sb, eA]
    · simp (disch := omega) only [a11, a01, ↓li_m, ↓oc_some, ↓oc_ite, ↓oc_oc, ↓oc_pl, ↓oc_none, ↓oc_oe, ↓pl_eq, ↓oe_i, ↓oe_j, va_up_self, va_up_ne, va_up_up, upd_s, upd_n, updL_s, updL_n, nI_add, nI_1, nI_ltI, nI_leI, nI_eq, nI_clamp, li_n, m1_lt, m1_le, m1_gt, m1_ge, m1_ne, m1_en, m1_ad, nle_F, nle_T, nlt_F, nlt_T, neq_F, neq_T, or_self, or_false, false_or, true_or, or_true, and_self, and_false, false_and, true_and, and_true, not_true_eq_false, not_false_eq_true, ↓reduceIte, if_true, if_false, Nat.reduceAdd, ite_self, Bool.false_eq_true, nI_sb, n10e, e69]
  unfold f_Translator_arrayStatement f_Model_readRow
  rw [a1, c1, pl_eq, b1, p5, sr, pl_eq, rv]
  by_cases w61 : spq n t (q + 1) < n ∧ t (spq n t (q + 1)) = 61
  · obtain ⟨T1, t1, t2, _⟩ := TKM (J := J') ht (x := 61) (ch := 61) rfl (by omega) b2 w61.1 w61.2
    obtain ⟨I3, d1, d2⟩ := PC (J := J) c2 w61.1
    rw [t1, if_neg (show ¬ nI 1 = 0 by decide), cC_lt w61.1, w61.2, if_pos (show ¬ nI 61 = 91 by decide), if_neg (show ¬ ¬ nI 61 = 61 from fun x => x rfl), d1]
    exact OS_map (ABA (q0 := q) ht ha (by omega) d2 t2 (TB_mono hT (by omega)) hC (by omega) hm)
  · obtain ⟨T1, t1, t2, _⟩ := TKN (J := J') ht (x := 61) (ch := 61) rfl (by omega) (by omega) b2 w61
    have k61 := cC_ne ht (show 61 < 1000 by omega) w61
    generalize spq n t (q + 1) = s at c1 c2 c3 c4 c5 t2 w61 k61
    have b0 := fun {α : Type} {F : Int32 → MI → MJ → Option α} => SM0 (J := J') ht t2 c3 (F := F)
    rw [t1, if_pos (show nI 0 = 0 from rfl), b0]
    by_cases w91 : s < n ∧ t s = 91
    · rw [cC_lt w91.1, cM_lt w91.1, w91.2, if_neg (show ¬ ¬ nI 91 = 91 from fun x => x rfl), if_pos (show nI 91 = 91 from rfl)]
      obtain ⟨I3, v', I3', x1, x2, x3⟩ := hIX f f' s m k p 0 I2 T1 cc cm (by omega) (by omega) (by omega) (by omega) c2 t2 hC
      rw [x1, x2, oc_some, oc_some]
      rcases x3 with ⟨y1, x, y2, y3, y4⟩ | ⟨y1, q1, m1', k1, p1', cc1, cm1, y2, y3, y4, y5, y6⟩
      · rw [y1, if_pos (show nI 0 = 0 from rfl)]
        refine Or.inl ⟨x, I3', ?_, rfl, y3, y4⟩
        repeat (first
          | exact zk_some (by assumption)
          | (with_reducible refine z_x (by assumption) (by assumption) (by decide) ?_) ; (intro _ _ _)
          | (with_reducible refine z_em (by assumption) ?_) ; (intro _ _ _)
          | (with_reducible refine z_ep (by assumption) ?_) ; (intro _ _ _)
          | (with_reducible refine z_b (by assumption) ?_) ; (intro _ _ _)
          | (with_reducible refine z_wS (by assumption) ?_) ; (intro _ _ _)
          | (with_reducible refine z_wC (by assumption) ?_) ; (intro _ _ _)
          | (with_reducible refine z_p (by assumption) ?_) ; (intro _ _ _)
          | (with_reducible refine z_r (by assumption) ?_) ; (intro _ _ _)
          | (with_reducible refine z_en (by assumption) ?_) ; (intro _ _ _)
          | (with_reducible refine z_lv (by assumption) ?_) ; (intro _ _ _)
          | (with_reducible refine z_am (by assumption) ?_) ; (intro _ _ _)
          | (with_reducible refine z_ar (by assumption) (by assumption) ?_) ; (intro _ _ _)
          | (with_reducible refine z_va (by assumption) (by assumption) ?_) ; (intro _ _ _)
          | (with_reducible refine z_lk (by assumption) (by assumption) ?_) ; (intro _ _ _)
          | (with_reducible refine z_dc (by assumption) (by assumption) ?_) ; (intro _ _ _)
          | (with_reducible refine z_r0 (by assumption) (by omega) (by assumption) ?_) ; (intro _ _ _)
          | (with_reducible refine z_r9 (by assumption) (by omega) (by assumption) ?_) ; (intro _ _ _)
          | (with_reducible refine zk_7 (by assumption) ?_) ; (intro _ _)
          | (with_reducible refine zk_9 (by assumption) ?_) ; (intro _ _)
          | (with_reducible refine zk_8 (by assumption) ?_) ; (intro _ _)
          | (with_reducible refine zk_pl ?_)
          | (with_reducible refine zk_ite ?_ ?_) <;> (intro _)
          | (with_reducible refine z_oc ?_ ?_)
          | (intro _ _ _))
      · have hq1 : q1 ≤ n := y2.2.2.2.2.2.2.2.2.2.2.2.2.1
        rw [y1, if_neg (show ¬ nI 1 = 0 by decide)]
        obtain ⟨I4, I4', w', u1, u2, u3⟩ := WNT (J := J) (J' := J') ht (x := 61) (ch := 61) rfl (by omega) (by omega) y2 y3
        rw [u1, u2]
        rcases u3 with ⟨u3, x, u4, u5, u6⟩ | ⟨u3, q2, u4, u5, u6, u7⟩
        · rw [u3, if_pos (show nI 0 = 0 from rfl)]
          refine Or.inl ⟨x, I4', ?_, rfl, u5, u6⟩
          repeat (first
            | exact zk_some (by assumption)
            | (with_reducible refine z_x (by assumption) (by assumption) (by decide) ?_) ; (intro _ _ _)
            | (with_reducible refine z_em (by assumption) ?_) ; (intro _ _ _)
            | (with_reducible refine z_ep (by assumption) ?_) ; (intro _ _ _)
            | (with_reducible refine z_b (by assumption) ?_) ; (intro _ _ _)
            | (with_reducible refine z_wS (by assumption) ?_) ; (intro _ _ _)
            | (with_reducible refine z_wC (by assumption) ?_) ; (intro _ _ _)
            | (with_reducible refine z_p (by assumption) ?_) ; (intro _ _ _)
            | (with_reducible refine z_r (by assumption) ?_) ; (intro _ _ _)
            | (with_reducible refine z_en (by assumption) ?_) ; (intro _ _ _)
            | (with_reducible refine z_lv (by assumption) ?_) ; (intro _ _ _)
            | (with_reducible refine z_am (by assumption) ?_) ; (intro _ _ _)
            | (with_reducible refine z_ar (by assumption) (by assumption) ?_) ; (intro _ _ _)
            | (with_reducible refine z_va (by assumption) (by assumption) ?_) ; (intro _ _ _)
            | (with_reducible refine z_lk (by assumption) (by assumption) ?_) ; (intro _ _ _)
            | (with_reducible refine z_dc (by assumption) (by assumption) ?_) ; (intro _ _ _)
            | (with_reducible refine z_r0 (by assumption) (by omega) (by assumption) ?_) ; (intro _ _ _)
            | (with_reducible refine z_r9 (by assumption) (by omega) (by assumption) ?_) ; (intro _ _ _)
            | (with_reducible refine zk_7 (by assumption) ?_) ; (intro _ _)
            | (with_reducible refine zk_9 (by assumption) ?_) ; (intro _ _)
            | (with_reducible refine zk_8 (by assumption) ?_) ; (intro _ _)
            | (with_reducible refine zk_pl ?_)
            | (with_reducible refine zk_ite ?_ ?_) <;> (intro _)
            | (with_reducible refine z_oc ?_ ?_)
            | (intro _ _ _))
        · have hq2 : q2 ≤ n := u5.2.2.2.2.2.2.2.2.2.2.2.2.1
          rw [u3, if_neg (show ¬ nI 1 = 0 by decide)]
          obtain ⟨vv, I5, v2', I5', z1, z2, z3, z4⟩ := hEX f f' q2 m1' k1 p1' 1 I4 I4' cc1 cm1 (by omega) (by omega) (by omega) (by omega) u5 u6 (fun hk => (y6 hk).2)
          rw [z1, z2, oc_some, oc_some]
          rcases z4 with ⟨h1, x, h2, h3, h4⟩ | ⟨h1, q3, m3, k3, p3, cc3, cm3, h2, h3, h4, h5, h6, h7⟩
          · rw [h1, if_neg (show ¬ ¬ nI 0 = 0 from fun x => x rfl)]
            refine Or.inl ⟨x, I5', ?_, rfl, h3, h4⟩
            refine zk_oc (Z_expect (c := 59) ht h2 (by omega) (by omega)) (fun _ _ _ => ?_)
            repeat (first
              | exact zk_some (by assumption)
              | (with_reducible refine z_x (by assumption) (by assumption) (by decide) ?_) ; (intro _ _ _)
              | (with_reducible refine z_em (by assumption) ?_) ; (intro _ _ _)
              | (with_reducible refine z_ep (by assumption) ?_) ; (intro _ _ _)
              | (with_reducible refine z_b (by assumption) ?_) ; (intro _ _ _)
              | (with_reducible refine z_wS (by assumption) ?_) ; (intro _ _ _)
              | (with_reducible refine z_wC (by assumption) ?_) ; (intro _ _ _)
              | (with_reducible refine z_p (by assumption) ?_) ; (intro _ _ _)
              | (with_reducible refine z_r (by assumption) ?_) ; (intro _ _ _)
              | (with_reducible refine z_en (by assumption) ?_) ; (intro _ _ _)
              | (with_reducible refine z_lv (by assumption) ?_) ; (intro _ _ _)
              | (with_reducible refine z_am (by assumption) ?_) ; (intro _ _ _)
              | (with_reducible refine z_ar (by assumption) (by assumption) ?_) ; (intro _ _ _)
              | (with_reducible refine z_va (by assumption) (by assumption) ?_) ; (intro _ _ _)
              | (with_reducible refine z_lk (by assumption) (by assumption) ?_) ; (intro _ _ _)
              | (with_reducible refine z_dc (by assumption) (by assumption) ?_) ; (intro _ _ _)
              | (with_reducible refine z_r0 (by assumption) (by omega) (by assumption) ?_) ; (intro _ _ _)
              | (with_reducible refine z_r9 (by assumption) (by omega) (by assumption) ?_) ; (intro _ _ _)
              | (with_reducible refine zk_7 (by assumption) ?_) ; (intro _ _)
              | (with_reducible refine zk_9 (by assumption) ?_) ; (intro _ _)
              | (with_reducible refine zk_8 (by assumption) ?_) ; (intro _ _)
              | (with_reducible refine zk_pl ?_)
              | (with_reducible refine zk_ite ?_ ?_) <;> (intro _)
              | (with_reducible refine z_oc ?_ ?_)
              | (intro _ _ _))
          · have hq3 : q3 ≤ n := h2.2.2.2.2.2.2.2.2.2.2.2.2.1
            rw [h1, if_pos (show ¬ nI 1 = 0 by decide), sr]
            have hk' : k3 = 0 → k = 0 := fun hk => (y6 (h7 hk).1).1
            have h473 : I5' 112 73 = vv := h4
            by_cases c1 : a < 4
            · rcases z3 with hvv | hvv
              · skip
                obtain ⟨L1', l1, l2, _⟩ := AM2 (J := J') (a := 21) (b := a) (v := nI 21) (w := nI a) h3 (by omega) rfl rfl
                obtain ⟨I8, I8', v', e1, e2, e3⟩ := WNT (J := J) (J' := J') ht (x := 59) (ch := 59) rfl (by omega) (by omega) h2 l2
                have e2' : ∀ {α : Type} {F : Int32 → MI → MJ → Option α}, oc (f_Model_want (nI 59) L1' J') F = F v' I8' J' := fun {α F} => e2
                rw [e1]
                rcases e3 with ⟨e3, xx, e4, e5, e6⟩ | ⟨e3, q4, e4, e5, e6, e7⟩
                · refine Or.inl ⟨xx, I8', ?_, ?_, e5, e6⟩
                  · skip
                    repeat (first
                      | exact zk_some (by assumption)
                      | (with_reducible refine z_x (by assumption) (by assumption) (by decide) ?_) ; (intro _ _ _)
                      | (with_reducible refine z_em (by assumption) ?_) ; (intro _ _ _)
                      | (with_reducible refine z_ep (by assumption) ?_) ; (intro _ _ _)
                      | (with_reducible refine z_b (by assumption) ?_) ; (intro _ _ _)
                      | (with_reducible refine z_wS (by assumption) ?_) ; (intro _ _ _)
                      | (with_reducible refine z_wC (by assumption) ?_) ; (intro _ _ _)
                      | (with_reducible refine z_p (by assumption) ?_) ; (intro _ _ _)
                      | (with_reducible refine z_r (by assumption) ?_) ; (intro _ _ _)
                      | (with_reducible refine z_en (by assumption) ?_) ; (intro _ _ _)
                      | (with_reducible refine z_lv (by assumption) ?_) ; (intro _ _ _)
                      | (with_reducible refine z_am (by assumption) ?_) ; (intro _ _ _)
                      | (with_reducible refine z_ar (by assumption) (by assumption) ?_) ; (intro _ _ _)
                      | (with_reducible refine z_va (by assumption) (by assumption) ?_) ; (intro _ _ _)
                      | (with_reducible refine z_lk (by assumption) (by assumption) ?_) ; (intro _ _ _)
                      | (with_reducible refine z_dc (by assumption) (by assumption) ?_) ; (intro _ _ _)
                      | (with_reducible refine z_r0 (by assumption) (by omega) (by assumption) ?_) ; (intro _ _ _)
                      | (with_reducible refine z_r9 (by assumption) (by omega) (by assumption) ?_) ; (intro _ _ _)
                      | (with_reducible refine zk_7 (by assumption) ?_) ; (intro _ _)
                      | (with_reducible refine zk_9 (by assumption) ?_) ; (intro _ _)
                      | (with_reducible refine zk_8 (by assumption) ?_) ; (intro _ _)
                      | (with_reducible refine zk_pl ?_)
                      | (with_reducible refine zk_ite ?_ ?_) <;> (intro _)
                      | (with_reducible refine z_oc ?_ ?_)
                      | (intro _ _ _))
                  · simp (disch := omega) only [a11, a01, ↓li_m, ↓oc_some, ↓oc_ite, ↓oc_oc, ↓oc_pl, ↓oc_none, ↓oc_oe, ↓pl_eq, ↓oe_i, ↓oe_j, va_up_self, va_up_ne, va_up_up, upd_s, upd_n, updL_s, updL_n, nI_add, nI_1, nI_ltI, nI_leI, nI_eq, nI_clamp, li_n, m1_lt, m1_le, m1_gt, m1_ge, m1_ne, m1_en, m1_ad, nle_F, nle_T, nlt_F, nlt_T, neq_F, neq_T, or_self, or_false, false_or, true_or, or_true, and_self, and_false, false_and, true_and, and_true, not_true_eq_false, not_false_eq_true, ↓reduceIte, if_true, if_false, Nat.reduceAdd, ite_self, Bool.false_eq_true, ↓sr, h473, hvv, l1, e2', e3, n10e]
                · skip
                  obtain ⟨I9, g1, g2'⟩ := EM2' (J := J) (a := nI 21) (o := 21) (u := nI a) (v := nI 0) (w := nI 0) e5 rfl (by decide) (by decide) (by omega) (b255n (by omega))
                  refine Or.inr ⟨(), I9, I8', q4, m3 + 2, _, _, f8, f9, g2, g3, g4, g5, c, _, _, ?_, ?_, g2', e6, TB_mono hT (by omega), by omega, by omega, fun hk => ?_⟩
                  · simp (disch := omega) only [a11, a01, ↓li_m, ↓oc_some, ↓oc_ite, ↓oc_oc, ↓oc_pl, ↓oc_none, ↓oc_oe, ↓pl_eq, ↓oe_i, ↓oe_j, va_up_self, va_up_ne, va_up_up, upd_s, upd_n, updL_s, updL_n, nI_add, nI_1, nI_ltI, nI_leI, nI_eq, nI_clamp, li_n, m1_lt, m1_le, m1_gt, m1_ge, m1_ne, m1_en, m1_ad, nle_F, nle_T, nlt_F, nlt_T, neq_F, neq_T, or_self, or_false, false_or, true_or, or_true, and_self, and_false, false_and, true_and, and_true, not_true_eq_false, not_false_eq_true, ↓reduceIte, if_true, if_false, Nat.reduceAdd, ite_self, Bool.false_eq_true, g1, hvv, n10e, ↓U_Translator_emitPlace, nI_sb]
                  · simp (disch := omega) only [a11, a01, ↓li_m, ↓oc_some, ↓oc_ite, ↓oc_oc, ↓oc_pl, ↓oc_none, ↓oc_oe, ↓pl_eq, ↓oe_i, ↓oe_j, va_up_self, va_up_ne, va_up_up, upd_s, upd_n, updL_s, updL_n, nI_add, nI_1, nI_ltI, nI_leI, nI_eq, nI_clamp, li_n, m1_lt, m1_le, m1_gt, m1_ge, m1_ne, m1_en, m1_ad, nle_F, nle_T, nlt_F, nlt_T, neq_F, neq_T, or_self, or_false, false_or, true_or, or_true, and_self, and_false, false_and, true_and, and_true, not_true_eq_false, not_false_eq_true, ↓reduceIte, if_true, if_false, Nat.reduceAdd, ite_self, Bool.false_eq_true, ↓sr, h473, hvv, l1, e2', e3, n10e]
                  · have X := CODE_2 (h := 1 + 1) (o := 21) (b := a) (h7 hk).2 (by omega) (by omega) (fun x => by omega) (by rw [show nd 21 = 2 from rfl]; omega) (by omega)
                    exact ⟨hk' hk, X⟩
              · skip
                obtain ⟨N1', n1, n2, _⟩ := NM (J := J') (a := 3) (x := q) h3 (by omega) (by omega)
                obtain ⟨L1', l1, l2, _⟩ := AM2 (J := J') (a := 21) (b := a) (v := nI 21) (w := nI a) n2 (by omega) rfl rfl
                obtain ⟨I8, I8', v', e1, e2, e3⟩ := WNT (J := J) (J' := J') ht (x := 59) (ch := 59) rfl (by omega) (by omega) h2 l2
                have e2' : ∀ {α : Type} {F : Int32 → MI → MJ → Option α}, oc (f_Model_want (nI 59) L1' J') F = F v' I8' J' := fun {α F} => e2
                rw [e1]
                rcases e3 with ⟨e3, xx, e4, e5, e6⟩ | ⟨e3, q4, e4, e5, e6, e7⟩
                · refine Or.inl ⟨xx, I8', ?_, ?_, e5, e6⟩
                  · skip
                    repeat (first
                      | exact zk_some (by assumption)
                      | (with_reducible refine z_x (by assumption) (by assumption) (by decide) ?_) ; (intro _ _ _)
                      | (with_reducible refine z_em (by assumption) ?_) ; (intro _ _ _)
                      | (with_reducible refine z_ep (by assumption) ?_) ; (intro _ _ _)
                      | (with_reducible refine z_b (by assumption) ?_) ; (intro _ _ _)
                      | (with_reducible refine z_wS (by assumption) ?_) ; (intro _ _ _)
                      | (with_reducible refine z_wC (by assumption) ?_) ; (intro _ _ _)
                      | (with_reducible refine z_p (by assumption) ?_) ; (intro _ _ _)
                      | (with_reducible refine z_r (by assumption) ?_) ; (intro _ _ _)
                      | (with_reducible refine z_en (by assumption) ?_) ; (intro _ _ _)
                      | (with_reducible refine z_lv (by assumption) ?_) ; (intro _ _ _)
                      | (with_reducible refine z_am (by assumption) ?_) ; (intro _ _ _)
                      | (with_reducible refine z_ar (by assumption) (by assumption) ?_) ; (intro _ _ _)
                      | (with_reducible refine z_va (by assumption) (by assumption) ?_) ; (intro _ _ _)
                      | (with_reducible refine z_lk (by assumption) (by assumption) ?_) ; (intro _ _ _)
                      | (with_reducible refine z_dc (by assumption) (by assumption) ?_) ; (intro _ _ _)
                      | (with_reducible refine z_r0 (by assumption) (by omega) (by assumption) ?_) ; (intro _ _ _)
                      | (with_reducible refine z_r9 (by assumption) (by omega) (by assumption) ?_) ; (intro _ _ _)
                      | (with_reducible refine zk_7 (by assumption) ?_) ; (intro _ _)
                      | (with_reducible refine zk_9 (by assumption) ?_) ; (intro _ _)
                      | (with_reducible refine zk_8 (by assumption) ?_) ; (intro _ _)
                      | (with_reducible refine zk_pl ?_)
                      | (with_reducible refine zk_ite ?_ ?_) <;> (intro _)
                      | (with_reducible refine z_oc ?_ ?_)
                      | (intro _ _ _))
                  · simp (disch := omega) only [a11, a01, ↓li_m, ↓oc_some, ↓oc_ite, ↓oc_oc, ↓oc_pl, ↓oc_none, ↓oc_oe, ↓pl_eq, ↓oe_i, ↓oe_j, va_up_self, va_up_ne, va_up_up, upd_s, upd_n, updL_s, updL_n, nI_add, nI_1, nI_ltI, nI_leI, nI_eq, nI_clamp, li_n, m1_lt, m1_le, m1_gt, m1_ge, m1_ne, m1_en, m1_ad, nle_F, nle_T, nlt_F, nlt_T, neq_F, neq_T, or_self, or_false, false_or, true_or, or_true, and_self, and_false, false_and, true_and, and_true, not_true_eq_false, not_false_eq_true, ↓reduceIte, if_true, if_false, Nat.reduceAdd, ite_self, Bool.false_eq_true, ↓sr, h473, hvv, n1, l1, e2', e3, n10e]
                · skip
                  obtain ⟨B1, o1, o2⟩ := BC (J := J) (a := 3) (x := q) e5 (by omega) (by omega)
                  obtain ⟨I9, g1, g2'⟩ := EM2' (J := J) (a := nI 21) (o := 21) (u := nI a) (v := nI 0) (w := nI 0) o2 rfl (by decide) (by decide) (by omega) (b255n (by omega))
                  refine Or.inr ⟨(), I9, I8', q4, m3 + 2, _, _, f8, f9, g2, g3, g4, g5, c, _, _, ?_, ?_, g2', e6, TB_mono hT (by omega), by omega, by omega, fun hk => ?_⟩
                  · simp (disch := omega) only [a11, a01, ↓li_m, ↓oc_some, ↓oc_ite, ↓oc_oc, ↓oc_pl, ↓oc_none, ↓oc_oe, ↓pl_eq, ↓oe_i, ↓oe_j, va_up_self, va_up_ne, va_up_up, upd_s, upd_n, updL_s, updL_n, nI_add, nI_1, nI_ltI, nI_leI, nI_eq, nI_clamp, li_n, m1_lt, m1_le, m1_gt, m1_ge, m1_ne, m1_en, m1_ad, nle_F, nle_T, nlt_F, nlt_T, neq_F, neq_T, or_self, or_false, false_or, true_or, or_true, and_self, and_false, false_and, true_and, and_true, not_true_eq_false, not_false_eq_true, ↓reduceIte, if_true, if_false, Nat.reduceAdd, ite_self, Bool.false_eq_true, o1, g1, hvv, n10e, ↓U_Translator_emitPlace, nI_sb]
                  · simp (disch := omega) only [a11, a01, ↓li_m, ↓oc_some, ↓oc_ite, ↓oc_oc, ↓oc_pl, ↓oc_none, ↓oc_oe, ↓pl_eq, ↓oe_i, ↓oe_j, va_up_self, va_up_ne, va_up_up, upd_s, upd_n, updL_s, updL_n, nI_add, nI_1, nI_ltI, nI_leI, nI_eq, nI_clamp, li_n, m1_lt, m1_le, m1_gt, m1_ge, m1_ne, m1_en, m1_ad, nle_F, nle_T, nlt_F, nlt_T, neq_F, neq_T, or_self, or_false, false_or, true_or, or_true, and_self, and_false, false_and, true_and, and_true, not_true_eq_false, not_false_eq_true, ↓reduceIte, if_true, if_false, Nat.reduceAdd, ite_self, Bool.false_eq_true, ↓sr, h473, hvv, n1, l1, e2', e3, n10e]
                  · exact (ntk0 hk (by omega)).elim
            · rcases z3 with hvv | hvv
              · skip
                obtain ⟨L1', l1, l2, _⟩ := AM2 (J := J') (a := 22) (b := (a - 4)) (v := nI 22) (w := nI (a - 4)) h3 (by omega) rfl rfl
                obtain ⟨I8, I8', v', e1, e2, e3⟩ := WNT (J := J) (J' := J') ht (x := 59) (ch := 59) rfl (by omega) (by omega) h2 l2
                have e2' : ∀ {α : Type} {F : Int32 → MI → MJ → Option α}, oc (f_Model_want (nI 59) L1' J') F = F v' I8' J' := fun {α F} => e2
                rw [e1]
                rcases e3 with ⟨e3, xx, e4, e5, e6⟩ | ⟨e3, q4, e4, e5, e6, e7⟩
                · refine Or.inl ⟨xx, I8', ?_, ?_, e5, e6⟩
                  · skip
                    repeat (first
                      | exact zk_some (by assumption)
                      | (with_reducible refine z_x (by assumption) (by assumption) (by decide) ?_) ; (intro _ _ _)
                      | (with_reducible refine z_em (by assumption) ?_) ; (intro _ _ _)
                      | (with_reducible refine z_ep (by assumption) ?_) ; (intro _ _ _)
                      | (with_reducible refine z_b (by assumption) ?_) ; (intro _ _ _)
                      | (with_reducible refine z_wS (by assumption) ?_) ; (intro _ _ _)
                      | (with_reducible refine z_wC (by assumption) ?_) ; (intro _ _ _)
                      | (with_reducible refine z_p (by assumption) ?_) ; (intro _ _ _)
                      | (with_reducible refine z_r (by assumption) ?_) ; (intro _ _ _)
                      | (with_reducible refine z_en (by assumption) ?_) ; (intro _ _ _)
                      | (with_reducible refine z_lv (by assumption) ?_) ; (intro _ _ _)
                      | (with_reducible refine z_am (by assumption) ?_) ; (intro _ _ _)
                      | (with_reducible refine z_ar (by assumption) (by assumption) ?_) ; (intro _ _ _)
                      | (with_reducible refine z_va (by assumption) (by assumption) ?_) ; (intro _ _ _)
                      | (with_reducible refine z_lk (by assumption) (by assumption) ?_) ; (intro _ _ _)
                      | (with_reducible refine z_dc (by assumption) (by assumption) ?_) ; (intro _ _ _)
                      | (with_reducible refine z_r0 (by assumption) (by omega) (by assumption) ?_) ; (intro _ _ _)
                      | (with_reducible refine z_r9 (by assumption) (by omega) (by assumption) ?_) ; (intro _ _ _)
                      | (with_reducible refine zk_7 (by assumption) ?_) ; (intro _ _)
                      | (with_reducible refine zk_9 (by assumption) ?_) ; (intro _ _)
                      | (with_reducible refine zk_8 (by assumption) ?_) ; (intro _ _)
                      | (with_reducible refine zk_pl ?_)
                      | (with_reducible refine zk_ite ?_ ?_) <;> (intro _)
                      | (with_reducible refine z_oc ?_ ?_)
                      | (intro _ _ _))
                  · simp (disch := omega) only [a11, a01, ↓li_m, ↓oc_some, ↓oc_ite, ↓oc_oc, ↓oc_pl, ↓oc_none, ↓oc_oe, ↓pl_eq, ↓oe_i, ↓oe_j, va_up_self, va_up_ne, va_up_up, upd_s, upd_n, updL_s, updL_n, nI_add, nI_1, nI_ltI, nI_leI, nI_eq, nI_clamp, li_n, m1_lt, m1_le, m1_gt, m1_ge, m1_ne, m1_en, m1_ad, nle_F, nle_T, nlt_F, nlt_T, neq_F, neq_T, or_self, or_false, false_or, true_or, or_true, and_self, and_false, false_and, true_and, and_true, not_true_eq_false, not_false_eq_true, ↓reduceIte, if_true, if_false, Nat.reduceAdd, ite_self, Bool.false_eq_true, ↓sr, h473, hvv, l1, e2', e3, n10e]
                · skip
                  obtain ⟨I9, g1, g2'⟩ := EM2' (J := J) (a := nI 22) (o := 22) (u := nI (a - 4)) (v := nI 0) (w := nI 0) e5 rfl (by decide) (by decide) (by omega) (b255n (by omega))
                  refine Or.inr ⟨(), I9, I8', q4, m3 + 2, _, _, f8, f9, g2, g3, g4, g5, c, _, _, ?_, ?_, g2', e6, TB_mono hT (by omega), by omega, by omega, fun hk => ?_⟩
                  · simp (disch := omega) only [a11, a01, ↓li_m, ↓oc_some, ↓oc_ite, ↓oc_oc, ↓oc_pl, ↓oc_none, ↓oc_oe, ↓pl_eq, ↓oe_i, ↓oe_j, va_up_self, va_up_ne, va_up_up, upd_s, upd_n, updL_s, updL_n, nI_add, nI_1, nI_ltI, nI_leI, nI_eq, nI_clamp, li_n, m1_lt, m1_le, m1_gt, m1_ge, m1_ne, m1_en, m1_ad, nle_F, nle_T, nlt_F, nlt_T, neq_F, neq_T, or_self, or_false, false_or, true_or, or_true, and_self, and_false, false_and, true_and, and_true, not_true_eq_false, not_false_eq_true, ↓reduceIte, if_true, if_false, Nat.reduceAdd, ite_self, Bool.false_eq_true, g1, hvv, n10e, ↓U_Translator_emitPlace, nI_sb]
                  · simp (disch := omega) only [a11, a01, ↓li_m, ↓oc_some, ↓oc_ite, ↓oc_oc, ↓oc_pl, ↓oc_none, ↓oc_oe, ↓pl_eq, ↓oe_i, ↓oe_j, va_up_self, va_up_ne, va_up_up, upd_s, upd_n, updL_s, updL_n, nI_add, nI_1, nI_ltI, nI_leI, nI_eq, nI_clamp, li_n, m1_lt, m1_le, m1_gt, m1_ge, m1_ne, m1_en, m1_ad, nle_F, nle_T, nlt_F, nlt_T, neq_F, neq_T, or_self, or_false, false_or, true_or, or_true, and_self, and_false, false_and, true_and, and_true, not_true_eq_false, not_false_eq_true, ↓reduceIte, if_true, if_false, Nat.reduceAdd, ite_self, Bool.false_eq_true, ↓sr, h473, hvv, l1, e2', e3, n10e]
                  · have X := CODE_2 (h := 1 + 1) (o := 22) (b := (a - 4)) (h7 hk).2 (by omega) (by omega) (fun x => by omega) (by rw [show nd 22 = 2 from rfl]; omega) (by omega)
                    exact ⟨hk' hk, X⟩
              · skip
                obtain ⟨L1', l1, l2, _⟩ := AM2 (J := J') (a := 22) (b := (a - 4)) (v := nI 22) (w := nI (a - 4)) h3 (by omega) rfl rfl
                obtain ⟨I8, I8', v', e1, e2, e3⟩ := WNT (J := J) (J' := J') ht (x := 59) (ch := 59) rfl (by omega) (by omega) h2 l2
                have e2' : ∀ {α : Type} {F : Int32 → MI → MJ → Option α}, oc (f_Model_want (nI 59) L1' J') F = F v' I8' J' := fun {α F} => e2
                rw [e1]
                rcases e3 with ⟨e3, xx, e4, e5, e6⟩ | ⟨e3, q4, e4, e5, e6, e7⟩
                · refine Or.inl ⟨xx, I8', ?_, ?_, e5, e6⟩
                  · skip
                    repeat (first
                      | exact zk_some (by assumption)
                      | (with_reducible refine z_x (by assumption) (by assumption) (by decide) ?_) ; (intro _ _ _)
                      | (with_reducible refine z_em (by assumption) ?_) ; (intro _ _ _)
                      | (with_reducible refine z_ep (by assumption) ?_) ; (intro _ _ _)
                      | (with_reducible refine z_b (by assumption) ?_) ; (intro _ _ _)
                      | (with_reducible refine z_wS (by assumption) ?_) ; (intro _ _ _)
                      | (with_reducible refine z_wC (by assumption) ?_) ; (intro _ _ _)
                      | (with_reducible refine z_p (by assumption) ?_) ; (intro _ _ _)
                      | (with_reducible refine z_r (by assumption) ?_) ; (intro _ _ _)
                      | (with_reducible refine z_en (by assumption) ?_) ; (intro _ _ _)
                      | (with_reducible refine z_lv (by assumption) ?_) ; (intro _ _ _)
                      | (with_reducible refine z_am (by assumption) ?_) ; (intro _ _ _)
                      | (with_reducible refine z_ar (by assumption) (by assumption) ?_) ; (intro _ _ _)
                      | (with_reducible refine z_va (by assumption) (by assumption) ?_) ; (intro _ _ _)
                      | (with_reducible refine z_lk (by assumption) (by assumption) ?_) ; (intro _ _ _)
                      | (with_reducible refine z_dc (by assumption) (by assumption) ?_) ; (intro _ _ _)
                      | (with_reducible refine z_r0 (by assumption) (by omega) (by assumption) ?_) ; (intro _ _ _)
                      | (with_reducible refine z_r9 (by assumption) (by omega) (by assumption) ?_) ; (intro _ _ _)
                      | (with_reducible refine zk_7 (by assumption) ?_) ; (intro _ _)
                      | (with_reducible refine zk_9 (by assumption) ?_) ; (intro _ _)
                      | (with_reducible refine zk_8 (by assumption) ?_) ; (intro _ _)
                      | (with_reducible refine zk_pl ?_)
                      | (with_reducible refine zk_ite ?_ ?_) <;> (intro _)
                      | (with_reducible refine z_oc ?_ ?_)
                      | (intro _ _ _))
                  · simp (disch := omega) only [a11, a01, ↓li_m, ↓oc_some, ↓oc_ite, ↓oc_oc, ↓oc_pl, ↓oc_none, ↓oc_oe, ↓pl_eq, ↓oe_i, ↓oe_j, va_up_self, va_up_ne, va_up_up, upd_s, upd_n, updL_s, updL_n, nI_add, nI_1, nI_ltI, nI_leI, nI_eq, nI_clamp, li_n, m1_lt, m1_le, m1_gt, m1_ge, m1_ne, m1_en, m1_ad, nle_F, nle_T, nlt_F, nlt_T, neq_F, neq_T, or_self, or_false, false_or, true_or, or_true, and_self, and_false, false_and, true_and, and_true, not_true_eq_false, not_false_eq_true, ↓reduceIte, if_true, if_false, Nat.reduceAdd, ite_self, Bool.false_eq_true, ↓sr, h473, hvv, l1, e2', e3, n10e]
                · skip
                  obtain ⟨I9, g1, g2'⟩ := EM2' (J := J) (a := nI 22) (o := 22) (u := nI (a - 4)) (v := nI 0) (w := nI 0) e5 rfl (by decide) (by decide) (by omega) (b255n (by omega))
                  refine Or.inr ⟨(), I9, I8', q4, m3 + 2, _, _, f8, f9, g2, g3, g4, g5, c, _, _, ?_, ?_, g2', e6, TB_mono hT (by omega), by omega, by omega, fun hk => ?_⟩
                  · simp (disch := omega) only [a11, a01, ↓li_m, ↓oc_some, ↓oc_ite, ↓oc_oc, ↓oc_pl, ↓oc_none, ↓oc_oe, ↓pl_eq, ↓oe_i, ↓oe_j, va_up_self, va_up_ne, va_up_up, upd_s, upd_n, updL_s, updL_n, nI_add, nI_1, nI_ltI, nI_leI, nI_eq, nI_clamp, li_n, m1_lt, m1_le, m1_gt, m1_ge, m1_ne, m1_en, m1_ad, nle_F, nle_T, nlt_F, nlt_T, neq_F, neq_T, or_self, or_false, false_or, true_or, or_true, and_self, and_false, false_and, true_and, and_true, not_true_eq_false, not_false_eq_true, ↓reduceIte, if_true, if_false, Nat.reduceAdd, ite_self, Bool.false_eq_true, g1, hvv, n10e, ↓U_Translator_emitPlace, nI_sb]
                  · simp (disch := omega) only [a11, a01, ↓li_m, ↓oc_some, ↓oc_ite, ↓oc_oc, ↓oc_pl, ↓oc_none, ↓oc_oe, ↓pl_eq, ↓oe_i, ↓oe_j, va_up_self, va_up_ne, va_up_up, upd_s, upd_n, updL_s, updL_n, nI_add, nI_1, nI_ltI, nI_leI, nI_eq, nI_clamp, li_n, m1_lt, m1_le, m1_gt, m1_ge, m1_ne, m1_en, m1_ad, nle_F, nle_T, nlt_F, nlt_T, neq_F, neq_T, or_self, or_false, false_or, true_or, or_true, and_self, and_false, false_and, true_and, and_true, not_true_eq_false, not_false_eq_true, ↓reduceIte, if_true, if_false, Nat.reduceAdd, ite_self, Bool.false_eq_true, ↓sr, h473, hvv, l1, e2', e3, n10e]
                  · have X := CODE_2 (h := 1 + 1) (o := 22) (b := (a - 4)) (h7 hk).2 (by omega) (by omega) (fun x => by omega) (by rw [show nd 22 = 2 from rfl]; omega) (by omega)
                    exact ⟨hk' hk, X⟩
    · have k91 := cC_ne ht (show 91 < 1000 by omega) w91
      have j91 := cM_ne ht (show 91 < 1000 by omega) (by omega) w91
      obtain ⟨K3, r1, r2⟩ := RC (J := J) c2
      obtain ⟨R1', r3, r4, r5⟩ := RM (J := J') ht t2 c3
      rw [if_pos (show ¬ cCq n t s = 91 from k91), if_pos (show ¬ cCq n t s = 61 from k61), if_neg (show ¬ cM n t s = 91 from j91), r1, r3]
      exact Or.inl ⟨nI s, R1', zk_some r2, rfl, r4, r5⟩
end CM
