/-! compile: values -/
def cVal (R : M3) (p2 p3 : Int32) (I2 : MI) (J2 : MJ) : M2 Unit := oc (R 9 0 0 I2 J2) (fun v4 I4 J4 => oc (f_Translator_expect 59 I4 J4) (fun v5 I5 J5 => if p2 < 13 then (oc ((if v4 = 0 then (some ((), I5, J5)) else (oc (f_Translator_blame 3 p3 I5 J5) (fun v10 I10 J10 => some ((), I10, J10)))) : M2 (Unit)) (fun v8 I8 J8 => oc (f_Translator_emit 11 p2 0 0 I8 J8) (fun v11 I11 J11 => some ((), I11, J11)))) else (oc (f_Translator_emit 12 (p2 - 13) 0 0 I5 J5) (fun v12 I12 J12 => some ((), I12, J12)))))
def cDot (p2 p3 : Int32) (I13 : MI) (J13 : MJ) : M2 Unit := oc (f_Translator_array  I13 J13) (fun v24 I24 J24 => oc (f_Translator_expect 46 I24 J24) (fun v25 I25 J25 => oc (f_Translator_array  I25 J25) (fun v26 I26 J26 => oc (f_Translator_expect 59 I26 J26) (fun v27 I27 J27 => oc (f_Translator_wantSecret p2 p3 I27 J27) (fun v28 I28 J28 => oc (f_Translator_emit 26 v24 v26 0 I28 J28) (fun v29 I29 J29 => oc (f_Translator_emit 12 (p2 - 13) 0 0 I29 J29) (fun v30 I30 J30 => some ((), I30, J30))))))))
def mVal (R : M3) (p2 p3 : Int32) (I1 : MI) (J1 : MJ) : M2 Int32 := oc (R 0 0 0 I1 J1) (fun v3 I3 J3 => if ¬ v3 = 0 then (oc (f_Model_isClear p2 I3 J3) (fun v5 I5 J5 => oc ((if v5 = 0 then (some ((), I5, J5)) else (if (I5 112 73) = 0 then (some ((), I5, J5)) else (oc (f_Model_note 3 p3 I5 J5) (fun v10 I10 J10 => some ((), I10, J10))))) : M2 (Unit)) (fun v7 I7 J7 => oc (f_Model_isClear p2 I7 J7) (fun v11 I11 J11 => pl ((if v11 = 0 then (12) else (11)) : Int32) (fun v13 => oc (f_Model_numberOf p2 I11 J11) (fun v15 I15 J15 => oc (f_Model_lay_IIV v13 v15 I15 J15) (fun v16 I16 J16 => oc (f_Model_want 59 I16 J16) (fun v17 I17 J17 => if v17 = 0 ∨ v17 = 1 then some (v17, I17, J17) else none)))))))) else (some (0, I3, J3)))
def mDot (p2 p3 : Int32) (I19 : MI) (J19 : MJ) : M2 Int32 := oc (f_Model_see  I19 J19) (fun v37 I37 J37 => pl (v37 - 65 : Int32) (fun x38 => pl (va_up I37 112 (upd (I37 112) 5 ((I37 112 5) + 1))) (fun I39 => oc (f_Model_takes 46 I39 J37) (fun v40 I40 J40 => oc (f_Model_isRow  I40 J40) (fun v41 I41 J41 => if ¬ v41 = 0 then (oc (f_Model_see  I41 J41) (fun v43 I43 J43 => pl (v43 - 65 : Int32) (fun x44 => pl (va_up I43 112 (upd (I43 112) 5 ((I43 112 5) + 1))) (fun I45 => oc (f_Model_isClear p2 I45 J43) (fun v46 I46 J46 => oc ((if v46 = 0 then (some ((), I46, J46)) else (oc (f_Model_note 2 p3 I46 J46) (fun v50 I50 J50 => some ((), I50, J50)))) : M2 (Unit)) (fun v48 I48 J48 => oc (f_Model_lay_IIV 26 x38 I48 J48) (fun v51 I51 J51 => oc (f_Model_lay_IV x44 I51 J51) (fun v52 I52 J52 => oc (f_Model_numberOf p2 I52 J52) (fun v53 I53 J53 => oc (f_Model_lay_IIV 12 v53 I53 J53) (fun v54 I54 J54 => oc (f_Model_want 59 I54 J54) (fun v55 I55 J55 => if v55 = 0 ∨ v55 = 1 then some (v55, I55, J55) else none))))))))))) else (oc (f_Model_refuse  I41 J41) (fun v57 I57 J57 => if v57 = 0 ∨ v57 = 1 then some (v57, I57, J57) else none)))))))
theorem assign_eq {R : M3} {p2 p3 : Int32} {I : MI} {J : MJ} : f_Translator_assign R p2 p3 I J = oc (f_Translator_look  I J) (fun v1 I1 J1 => oc (f_Translator_isArray v1 I1 J1) (fun v2 I2 J2 => if v2 = 0 then cVal R p2 p3 I2 J2 else (oc (f_Translator_behindNext  I2 J2) (fun v13 I13 J13 => if ¬ v13 = 46 then cVal R p2 p3 I13 J13 else cDot p2 p3 I13 J13)))) := rfl
theorem value_eq {R : M3} {p2 p3 : Int32} {I : MI} {J : MJ} : f_Model_readValue R p2 p3 I J = oc (f_Model_isRow  I J) (fun v1 I1 J1 => if v1 = 0 then mVal R p2 p3 I1 J1 else (oc (f_Model_isSum  I1 J1) (fun v19 I19 J19 => if v19 = 0 then mVal R p2 p3 I19 J19 else mDot p2 p3 I19 J19))) := rfl
section CM
variable {n P m D U k p c q : Nat} {t : Nat → Nat} {I I' : MI} {J J' : MJ} {f8 f9 g2 g3 g4 g5 : Nat → Int32} {cc cm : Nat → Nat}
theorem AVAL {q0 v a0 f f' : Nat} (ht : tpOK n t) (hD : D ≤ 20) (hv : v < 26) (ha : a0 ≤ 400) (hf : 5 * (21 - D) + 4 ≤ f) (hf' : 5 * (21 - D) + 4 ≤ f') (hA : CA n t P I q m D U k p f8 f9 cc) (hM : MA n t P I' q m D U k p g2 g3 g4 g5 c cm) (hT : TB f8 f9 g2 g3 g5 c q) (hC : k = 0 → CODE P cc cm m 0 f8 g3 g4 c) (hq : q0 + 2 ≤ q) (hm : m ≤ 5 * q0) : OS n t P D U J J' q0 m k (cVal (f_RcT f) (nI v) (nI a0) I J) (mVal (f_RcM f') (nI (v + 97)) (nI a0) I' J') := by
  have hn := ht.1
  obtain ⟨vv, I3, v', I3', x1, x2, x3, x4⟩ := (EX_all (P := P) (U := U) (f8 := f8) (f9 := f9) (g2 := g2) (g3 := g3) (g4 := g4) (g5 := g5) (c := c) (J := J) (J' := J') ht (20 - D) D (by omega)).1 f f' q m k p 0 I I' cc cm hf hf' (by omega) (by omega) hA hM hC
  unfold cVal mVal
  rw [x1, x2, oc_some, oc_some]
  have e97 : v + 97 - 97 = v := by omega
  have e110 : v + 97 - 110 = v - 13 := by omega
  rcases x4 with ⟨y1, x, y2, y3, y4⟩ | ⟨y1, q1, m1', k1, p1', cc1, cm1, y2, y3, y4, y5, y6, y7⟩
  · rw [y1, if_neg (show ¬ ¬ nI 0 = 0 from fun x => x rfl)]
    refine Or.inl ⟨x, I3', ?_, rfl, y3, y4⟩
    refine zk_oc (Z_expect (c := 59) ht y2 (by omega) (by omega)) (fun _ _ _ => ?_)
    repeat (first
      | exact zk_some (by assumption)
      | (with_reducible refine z_x (by assumption) (by assumption) (by decide) ?_) ; (intro _ _ _)
      | (with_reducible refine z_em (by assumption) ?_) ; (intro _ _ _)
      | (with_reducible refine z_ep (by assumption) ?_) ; (intro _ _ _)
      | (with_reducible refine z_b (by assumption) ?_) ; (intro _ _ _)
      | (with_reducible refine z_wS (by assumption) ?_) ; (intro _ _ _)
      | (with_reducible refine z_wC (by assumption) ?_) ; (intro _ _ _)
      | (with_reducible refine z_p (by assumption) ?_) ; (intro _ _ _)
      | (with_reducible refine z_r (by assumption) ?_) ; (intro _ _ _)
      | (with_reducible refine z_en (by assumption) ?_) ; (intro _ _ _)
      | (with_reducible refine z_lv (by assumption) ?_) ; (intro _ _ _)
      | (with_reducible refine z_am (by assumption) ?_) ; (intro _ _ _)
      | (with_reducible refine z_ar (by assumption) (by assumption) ?_) ; (intro _ _ _)
      | (with_reducible refine z_va (by assumption) (by assumption) ?_) ; (intro _ _ _)
      | (with_reducible refine z_lk (by assumption) (by assumption) ?_) ; (intro _ _ _)
      | (with_reducible refine z_dc (by assumption) (by assumption) ?_) ; (intro _ _ _)
      | (with_reducible refine z_r0 (by assumption) (by omega) (by assumption) ?_) ; (intro _ _ _)
      | (with_reducible refine z_r9 (by assumption) (by omega) (by assumption) ?_) ; (intro _ _ _)
      | (with_reducible refine zk_7 (by assumption) ?_) ; (intro _ _)
      | (with_reducible refine zk_9 (by assumption) ?_) ; (intro _ _)
      | (with_reducible refine zk_8 (by assumption) ?_) ; (intro _ _)
      | (with_reducible refine zk_pl ?_)
      | (with_reducible refine zk_ite ?_ ?_) <;> (intro _)
      | (with_reducible refine z_oc ?_ ?_)
      | (intro _ _ _))
  · have hq1 : q1 ≤ n := y2.2.2.2.2.2.2.2.2.2.2.2.2.1
    rw [y1, if_pos (show ¬ nI 1 = 0 by decide)]

    by_cases c1 : v < 13
    · rcases x3 with hvv | hvv
      · skip
        obtain ⟨L1', l1, l2, _⟩ := AM2 (J := J') (a := 11) (b := v) (v := nI 11) (w := nI v) y3 (by omega) rfl rfl
        obtain ⟨I5, I5', v', u1, u2, u3⟩ := WNT (J := J) (J' := J') ht (x := 59) (ch := 59) rfl (by omega) (by omega) y2 l2
        have u2' : ∀ {α : Type} {F : Int32 → MI → MJ → Option α}, oc (f_Model_want (nI 59) L1' J') F = F v' I5' J' := fun {α F} => u2
        rw [u1]
        rcases u3 with ⟨u3, x, u4, u5, u6⟩ | ⟨u3, q2, u4, u5, u6, u7⟩
        · refine Or.inl ⟨x, I5', ?_, ?_, u5, u6⟩
          · skip
            repeat (first
              | exact zk_some (by assumption)
              | (with_reducible refine z_x (by assumption) (by assumption) (by decide) ?_) ; (intro _ _ _)
              | (with_reducible refine z_em (by assumption) ?_) ; (intro _ _ _)
              | (with_reducible refine z_ep (by assumption) ?_) ; (intro _ _ _)
              | (with_reducible refine z_b (by assumption) ?_) ; (intro _ _ _)
              | (with_reducible refine z_wS (by assumption) ?_) ; (intro _ _ _)
              | (with_reducible refine z_wC (by assumption) ?_) ; (intro _ _ _)
              | (with_reducible refine z_p (by assumption) ?_) ; (intro _ _ _)
              | (with_reducible refine z_r (by assumption) ?_) ; (intro _ _ _)
              | (with_reducible refine z_en (by assumption) ?_) ; (intro _ _ _)
              | (with_reducible refine z_lv (by assumption) ?_) ; (intro _ _ _)
              | (with_reducible refine z_am (by assumption) ?_) ; (intro _ _ _)
              | (with_reducible refine z_ar (by assumption) (by assumption) ?_) ; (intro _ _ _)
              | (with_reducible refine z_va (by assumption) (by assumption) ?_) ; (intro _ _ _)
              | (with_reducible refine z_lk (by assumption) (by assumption) ?_) ; (intro _ _ _)
              | (with_reducible refine z_dc (by assumption) (by assumption) ?_) ; (intro _ _ _)
              | (with_reducible refine z_r0 (by assumption) (by omega) (by assumption) ?_) ; (intro _ _ _)
              | (with_reducible refine z_r9 (by assumption) (by omega) (by assumption) ?_) ; (intro _ _ _)
              | (with_reducible refine zk_7 (by assumption) ?_) ; (intro _ _)
              | (with_reducible refine zk_9 (by assumption) ?_) ; (intro _ _)
              | (with_reducible refine zk_8 (by assumption) ?_) ; (intro _ _)
              | (with_reducible refine zk_pl ?_)
              | (with_reducible refine zk_ite ?_ ?_) <;> (intro _)
              | (with_reducible refine z_oc ?_ ?_)
              | (intro _ _ _))
          · simp (disch := omega) only [a11, a01, ↓li_m, ↓oc_some, ↓oc_ite, ↓oc_oc, ↓oc_pl, ↓oc_none, ↓oc_oe, ↓pl_eq, ↓oe_i, ↓oe_j, va_up_self, va_up_ne, va_up_up, upd_s, upd_n, updL_s, updL_n, nI_add, nI_1, nI_ltI, nI_leI, nI_eq, nI_clamp, li_n, m1_lt, m1_le, m1_gt, m1_ge, m1_ne, m1_en, m1_ad, nle_F, nle_T, nlt_F, nlt_T, neq_F, neq_T, or_self, or_false, false_or, true_or, or_true, and_self, and_false, false_and, true_and, and_true, not_true_eq_false, not_false_eq_true, ↓reduceIte, if_true, if_false, Nat.reduceAdd, ite_self, Bool.false_eq_true, ↓U_Model_isClear, ↓U_Model_numberOf, nI_sb, e97, e110, y4, l1, u2', u3, n10e, hvv]
        · skip
          obtain ⟨I6, g1, g2'⟩ := EM2' (J := J) (a := nI 11) (o := 11) (u := nI v) (v := nI 0) (w := nI 0) u5 rfl (by decide) (by decide) (by omega) (b255n (by omega))
          refine Or.inr ⟨(), I6, I5', q2, m1' + 2, _, _, f8, f9, g2, g3, g4, g5, c, _, _, ?_, ?_, g2', u6, TB_mono hT (by omega), by omega, by omega, fun hk => ?_⟩
          · simp (disch := omega) only [a11, a01, ↓li_m, ↓oc_some, ↓oc_ite, ↓oc_oc, ↓oc_pl, ↓oc_none, ↓oc_oe, ↓pl_eq, ↓oe_i, ↓oe_j, va_up_self, va_up_ne, va_up_up, upd_s, upd_n, updL_s, updL_n, nI_add, nI_1, nI_ltI, nI_leI, nI_eq, nI_clamp, li_n, m1_lt, m1_le, m1_gt, m1_ge, m1_ne, m1_en, m1_ad, nle_F, nle_T, nlt_F, nlt_T, neq_F, neq_T, or_self, or_false, false_or, true_or, or_true, and_self, and_false, false_and, true_and, and_true, not_true_eq_false, not_false_eq_true, ↓reduceIte, if_true, if_false, Nat.reduceAdd, ite_self, Bool.false_eq_true, nI_sb, g1, n10e, hvv]
          · simp (disch := omega) only [a11, a01, ↓li_m, ↓oc_some, ↓oc_ite, ↓oc_oc, ↓oc_pl, ↓oc_none, ↓oc_oe, ↓pl_eq, ↓oe_i, ↓oe_j, va_up_self, va_up_ne, va_up_up, upd_s, upd_n, updL_s, updL_n, nI_add, nI_1, nI_ltI, nI_leI, nI_eq, nI_clamp, li_n, m1_lt, m1_le, m1_gt, m1_ge, m1_ne, m1_en, m1_ad, nle_F, nle_T, nlt_F, nlt_T, neq_F, neq_T, or_self, or_false, false_or, true_or, or_true, and_self, and_false, false_and, true_and, and_true, not_true_eq_false, not_false_eq_true, ↓reduceIte, if_true, if_false, Nat.reduceAdd, ite_self, Bool.false_eq_true, ↓U_Model_isClear, ↓U_Model_numberOf, nI_sb, e97, e110, y4, l1, u2', u3, n10e, hvv]
          · have X := CODE_2 (h := 0 + 1) (o := 11) (b := v) (y7 hk).2 (by omega) (by omega) (fun x => by omega) (by rw [show nd 11 = 1 from rfl]; omega) (by omega)
            exact ⟨(y7 hk).1, X⟩
      · skip
        obtain ⟨N1', n1, n2, _⟩ := NM (J := J') (a := 3) (x := a0) y3 (by omega) ha
        obtain ⟨L1', l1, l2, _⟩ := AM2 (J := J') (a := 11) (b := v) (v := nI 11) (w := nI v) n2 (by omega) rfl rfl
        obtain ⟨I5, I5', v', u1, u2, u3⟩ := WNT (J := J) (J' := J') ht (x := 59) (ch := 59) rfl (by omega) (by omega) y2 l2
        have u2' : ∀ {α : Type} {F : Int32 → MI → MJ → Option α}, oc (f_Model_want (nI 59) L1' J') F = F v' I5' J' := fun {α F} => u2
        rw [u1]
        rcases u3 with ⟨u3, x, u4, u5, u6⟩ | ⟨u3, q2, u4, u5, u6, u7⟩
        · refine Or.inl ⟨x, I5', ?_, ?_, u5, u6⟩
          · skip
            repeat (first
              | exact zk_some (by assumption)
              | (with_reducible refine z_x (by assumption) (by assumption) (by decide) ?_) ; (intro _ _ _)
              | (with_reducible refine z_em (by assumption) ?_) ; (intro _ _ _)
              | (with_reducible refine z_ep (by assumption) ?_) ; (intro _ _ _)
              | (with_reducible refine z_b (by assumption) ?_) ; (intro _ _ _)
              | (with_reducible refine z_wS (by assumption) ?_) ; (intro _ _ _)
              | (with_reducible refine z_wC (by assumption) ?_) ; (intro _ _ _)
              | (with_reducible refine z_p (by assumption) ?_) ; (intro _ _ _)
              | (with_reducible refine z_r (by assumption) ?_) ; (intro _ _ _)
              | (with_reducible refine z_en (by assumption) ?_) ; (intro _ _ _)
              | (with_reducible refine z_lv (by assumption) ?_) ; (intro _ _ _)
              | (with_reducible refine z_am (by assumption) ?_) ; (intro _ _ _)
              | (with_reducible refine z_ar (by assumption) (by assumption) ?_) ; (intro _ _ _)
              | (with_reducible refine z_va (by assumption) (by assumption) ?_) ; (intro _ _ _)
              | (with_reducible refine z_lk (by assumption) (by assumption) ?_) ; (intro _ _ _)
              | (with_reducible refine z_dc (by assumption) (by assumption) ?_) ; (intro _ _ _)
              | (with_reducible refine z_r0 (by assumption) (by omega) (by assumption) ?_) ; (intro _ _ _)
              | (with_reducible refine z_r9 (by assumption) (by omega) (by assumption) ?_) ; (intro _ _ _)
              | (with_reducible refine zk_7 (by assumption) ?_) ; (intro _ _)
              | (with_reducible refine zk_9 (by assumption) ?_) ; (intro _ _)
              | (with_reducible refine zk_8 (by assumption) ?_) ; (intro _ _)
              | (with_reducible refine zk_pl ?_)
              | (with_reducible refine zk_ite ?_ ?_) <;> (intro _)
              | (with_reducible refine z_oc ?_ ?_)
              | (intro _ _ _))
          · simp (disch := omega) only [a11, a01, ↓li_m, ↓oc_some, ↓oc_ite, ↓oc_oc, ↓oc_pl, ↓oc_none, ↓oc_oe, ↓pl_eq, ↓oe_i, ↓oe_j, va_up_self, va_up_ne, va_up_up, upd_s, upd_n, updL_s, updL_n, nI_add, nI_1, nI_ltI, nI_leI, nI_eq, nI_clamp, li_n, m1_lt, m1_le, m1_gt, m1_ge, m1_ne, m1_en, m1_ad, nle_F, nle_T, nlt_F, nlt_T, neq_F, neq_T, or_self, or_false, false_or, true_or, or_true, and_self, and_false, false_and, true_and, and_true, not_true_eq_false, not_false_eq_true, ↓reduceIte, if_true, if_false, Nat.reduceAdd, ite_self, Bool.false_eq_true, ↓U_Model_isClear, ↓U_Model_numberOf, nI_sb, e97, e110, y4, n1, l1, u2', u3, n10e, hvv]
        · skip
          obtain ⟨B1, o1, o2⟩ := BC (J := J) (a := 3) (x := a0) u5 (by omega) ha
          obtain ⟨I6, g1, g2'⟩ := EM2' (J := J) (a := nI 11) (o := 11) (u := nI v) (v := nI 0) (w := nI 0) o2 rfl (by decide) (by decide) (by omega) (b255n (by omega))
          refine Or.inr ⟨(), I6, I5', q2, m1' + 2, _, _, f8, f9, g2, g3, g4, g5, c, _, _, ?_, ?_, g2', u6, TB_mono hT (by omega), by omega, by omega, fun hk => ?_⟩
          · simp (disch := omega) only [a11, a01, ↓li_m, ↓oc_some, ↓oc_ite, ↓oc_oc, ↓oc_pl, ↓oc_none, ↓oc_oe, ↓pl_eq, ↓oe_i, ↓oe_j, va_up_self, va_up_ne, va_up_up, upd_s, upd_n, updL_s, updL_n, nI_add, nI_1, nI_ltI, nI_leI, nI_eq, nI_clamp, li_n, m1_lt, m1_le, m1_gt, m1_ge, m1_ne, m1_en, m1_ad, nle_F, nle_T, nlt_F, nlt_T, neq_F, neq_T, or_self, or_false, false_or, true_or, or_true, and_self, and_false, false_and, true_and, and_true, not_true_eq_false, not_false_eq_true, ↓reduceIte, if_true, if_false, Nat.reduceAdd, ite_self, Bool.false_eq_true, nI_sb, o1, g1, n10e, hvv]
          · simp (disch := omega) only [a11, a01, ↓li_m, ↓oc_some, ↓oc_ite, ↓oc_oc, ↓oc_pl, ↓oc_none, ↓oc_oe, ↓pl_eq, ↓oe_i, ↓oe_j, va_up_self, va_up_ne, va_up_up, upd_s, upd_n, updL_s, updL_n, nI_add, nI_1, nI_ltI, nI_leI, nI_eq, nI_clamp, li_n, m1_lt, m1_le, m1_gt, m1_ge, m1_ne, m1_en, m1_ad, nle_F, nle_T, nlt_F, nlt_T, neq_F, neq_T, or_self, or_false, false_or, true_or, or_true, and_self, and_false, false_and, true_and, and_true, not_true_eq_false, not_false_eq_true, ↓reduceIte, if_true, if_false, Nat.reduceAdd, ite_self, Bool.false_eq_true, ↓U_Model_isClear, ↓U_Model_numberOf, nI_sb, e97, e110, y4, n1, l1, u2', u3, n10e, hvv]
          · exact (ntk0 hk (by omega)).elim
    · rcases x3 with hvv | hvv
      · skip
        obtain ⟨L1', l1, l2, _⟩ := AM2 (J := J') (a := 12) (b := (v - 13)) (v := nI 12) (w := nI (v - 13)) y3 (by omega) rfl rfl
        obtain ⟨I5, I5', v', u1, u2, u3⟩ := WNT (J := J) (J' := J') ht (x := 59) (ch := 59) rfl (by omega) (by omega) y2 l2
        have u2' : ∀ {α : Type} {F : Int32 → MI → MJ → Option α}, oc (f_Model_want (nI 59) L1' J') F = F v' I5' J' := fun {α F} => u2
        rw [u1]
        rcases u3 with ⟨u3, x, u4, u5, u6⟩ | ⟨u3, q2, u4, u5, u6, u7⟩
        · refine Or.inl ⟨x, I5', ?_, ?_, u5, u6⟩
          · skip
            repeat (first
              | exact zk_some (by assumption)
              | (with_reducible refine z_x (by assumption) (by assumption) (by decide) ?_) ; (intro _ _ _)
              | (with_reducible refine z_em (by assumption) ?_) ; (intro _ _ _)
              | (with_reducible refine z_ep (by assumption) ?_) ; (intro _ _ _)
              | (with_reducible refine z_b (by assumption) ?_) ; (intro _ _ _)
              | (with_reducible refine z_wS (by assumption) ?_) ; (intro _ _ _)
              | (with_reducible refine z_wC (by assumption) ?_) ; (intro _ _ _)
              | (with_reducible refine z_p (by assumption) ?_) ; (intro _ _ _)
              | (with_reducible refine z_r (by assumption) ?_) ; (intro _ _ _)
              | (with_reducible refine z_en (by assumption) ?_) ; (intro _ _ _)
              | (with_reducible refine z_lv (by assumption) ?_) ; (intro _ _ _)
              | (with_reducible refine z_am (by assumption) ?_) ; (intro _ _ _)
              | (with_reducible refine z_ar (by assumption) (by assumption) ?_) ; (intro _ _ _)
              | (with_reducible refine z_va (by assumption) (by assumption) ?_) ; (intro _ _ _)
              | (with_reducible refine z_lk (by assumption) (by assumption) ?_) ; (intro _ _ _)
              | (with_reducible refine z_dc (by assumption) (by assumption) ?_) ; (intro _ _ _)
              | (with_reducible refine z_r0 (by assumption) (by omega) (by assumption) ?_) ; (intro _ _ _)
              | (with_reducible refine z_r9 (by assumption) (by omega) (by assumption) ?_) ; (intro _ _ _)
              | (with_reducible refine zk_7 (by assumption) ?_) ; (intro _ _)
              | (with_reducible refine zk_9 (by assumption) ?_) ; (intro _ _)
              | (with_reducible refine zk_8 (by assumption) ?_) ; (intro _ _)
              | (with_reducible refine zk_pl ?_)
              | (with_reducible refine zk_ite ?_ ?_) <;> (intro _)
              | (with_reducible refine z_oc ?_ ?_)
              | (intro _ _ _))
          · simp (disch := omega) only [a11, a01, ↓li_m, ↓oc_some, ↓oc_ite, ↓oc_oc, ↓oc_pl, ↓oc_none, ↓oc_oe, ↓pl_eq, ↓oe_i, ↓oe_j, va_up_self, va_up_ne, va_up_up, upd_s, upd_n, updL_s, updL_n, nI_add, nI_1, nI_ltI, nI_leI, nI_eq, nI_clamp, li_n, m1_lt, m1_le, m1_gt, m1_ge, m1_ne, m1_en, m1_ad, nle_F, nle_T, nlt_F, nlt_T, neq_F, neq_T, or_self, or_false, false_or, true_or, or_true, and_self, and_false, false_and, true_and, and_true, not_true_eq_false, not_false_eq_true, ↓reduceIte, if_true, if_false, Nat.reduceAdd, ite_self, Bool.false_eq_true, ↓U_Model_isClear, ↓U_Model_numberOf, nI_sb, e97, e110, y4, l1, u2', u3, n10e, hvv]
        · skip
          obtain ⟨I6, g1, g2'⟩ := EM2' (J := J) (a := nI 12) (o := 12) (u := nI (v - 13)) (v := nI 0) (w := nI 0) u5 rfl (by decide) (by decide) (by omega) (b255n (by omega))
          refine Or.inr ⟨(), I6, I5', q2, m1' + 2, _, _, f8, f9, g2, g3, g4, g5, c, _, _, ?_, ?_, g2', u6, TB_mono hT (by omega), by omega, by omega, fun hk => ?_⟩
          · simp (disch := omega) only [a11, a01, ↓li_m, ↓oc_some, ↓oc_ite, ↓oc_oc, ↓oc_pl, ↓oc_none, ↓oc_oe, ↓pl_eq, ↓oe_i, ↓oe_j, va_up_self, va_up_ne, va_up_up, upd_s, upd_n, updL_s, updL_n, nI_add, nI_1, nI_ltI, nI_leI, nI_eq, nI_clamp, li_n, m1_lt, m1_le, m1_gt, m1_ge, m1_ne, m1_en, m1_ad, nle_F, nle_T, nlt_F, nlt_T, neq_F, neq_T, or_self, or_false, false_or, true_or, or_true, and_self, and_false, false_and, true_and, and_true, not_true_eq_false, not_false_eq_true, ↓reduceIte, if_true, if_false, Nat.reduceAdd, ite_self, Bool.false_eq_true, nI_sb, g1, n10e, hvv]
          · simp (disch := omega) only [a11, a01, ↓li_m, ↓oc_some, ↓oc_ite, ↓oc_oc, ↓oc_pl, ↓oc_none, ↓oc_oe, ↓pl_eq, ↓oe_i, ↓oe_j, va_up_self, va_up_ne, va_up_up, upd_s, upd_n, updL_s, updL_n, nI_add, nI_1, nI_ltI, nI_leI, nI_eq, nI_clamp, li_n, m1_lt, m1_le, m1_gt, m1_ge, m1_ne, m1_en, m1_ad, nle_F, nle_T, nlt_F, nlt_T, neq_F, neq_T, or_self, or_false, false_or, true_or, or_true, and_self, and_false, false_and, true_and, and_true, not_true_eq_false, not_false_eq_true, ↓reduceIte, if_true, if_false, Nat.reduceAdd, ite_self, Bool.false_eq_true, ↓U_Model_isClear, ↓U_Model_numberOf, nI_sb, e97, e110, y4, l1, u2', u3, n10e, hvv]
          · have X := CODE_2 (h := 0 + 1) (o := 12) (b := (v - 13)) (y7 hk).2 (by omega) (by omega) (fun x => by omega) (by rw [show nd 12 = 1 from rfl]; omega) (by omega)
            exact ⟨(y7 hk).1, X⟩
      · skip
        obtain ⟨L1', l1, l2, _⟩ := AM2 (J := J') (a := 12) (b := (v - 13)) (v := nI 12) (w := nI (v - 13)) y3 (by omega) rfl rfl
        obtain ⟨I5, I5', v', u1, u2, u3⟩ := WNT (J := J) (J' := J') ht (x := 59) (ch := 59) rfl (by omega) (by omega) y2 l2
        have u2' : ∀ {α : Type} {F : Int32 → MI → MJ → Option α}, oc (f_Model_want (nI 59) L1' J') F = F v' I5' J' := fun {α F} => u2
        rw [u1]
        rcases u3 with ⟨u3, x, u4, u5, u6⟩ | ⟨u3, q2, u4, u5, u6, u7⟩
        · refine Or.inl ⟨x, I5', ?_, ?_, u5, u6⟩
          · skip
            repeat (first
              | exact zk_some (by assumption)
              | (with_reducible refine z_x (by assumption) (by assumption) (by decide) ?_) ; (intro _ _ _)
              | (with_reducible refine z_em (by assumption) ?_) ; (intro _ _ _)
              | (with_reducible refine z_ep (by assumption) ?_) ; (intro _ _ _)
              | (with_reducible refine z_b (by assumption) ?_) ; (intro _ _ _)
              | (with_reducible refine z_wS (by assumption) ?_) ; (intro _ _ _)
              | (with_reducible refine z_wC (by assumption) ?_) ; (intro _ _ _)
              | (with_reducible refine z_p (by assumption) ?_) ; (intro _ _ _)
              | (with_reducible refine z_r (by assumption) ?_) ; (intro _ _ _)
              | (with_reducible refine z_en (by assumption) ?_) ; (intro _ _ _)
              | (with_reducible refine z_lv (by assumption) ?_) ; (intro _ _ _)
              | (with_reducible refine z_am (by assumption) ?_) ; (intro _ _ _)
              | (with_reducible refine z_ar (by assumption) (by assumption) ?_) ; (intro _ _ _)
              | (with_reducible refine z_va (by assumption) (by assumption) ?_) ; (intro _ _ _)
              | (with_reducible refine z_lk (by assumption) (by assumption) ?_) ; (intro _ _ _)
              | (with_reducible refine z_dc (by assumption) (by assumption) ?_) ; (intro _ _ _)
              | (with_reducible refine z_r0 (by assumption) (by omega) (by assumption) ?_) ; (intro _ _ _)
              | (with_reducible refine z_r9 (by assumption) (by omega) (by assumption) ?_) ; (intro _ _ _)
              | (with_reducible refine zk_7 (by assumption) ?_) ; (intro _ _)
              | (with_reducible refine zk_9 (by assumption) ?_) ; (intro _ _)
              | (with_reducible refine zk_8 (by assumption) ?_) ; (intro _ _)
              | (with_reducible refine zk_pl ?_)
              | (with_reducible refine zk_ite ?_ ?_) <;> (intro _)
              | (with_reducible refine z_oc ?_ ?_)
              | (intro _ _ _))
          · simp (disch := omega) only [a11, a01, ↓li_m, ↓oc_some, ↓oc_ite, ↓oc_oc, ↓oc_pl, ↓oc_none, ↓oc_oe, ↓pl_eq, ↓oe_i, ↓oe_j, va_up_self, va_up_ne, va_up_up, upd_s, upd_n, updL_s, updL_n, nI_add, nI_1, nI_ltI, nI_leI, nI_eq, nI_clamp, li_n, m1_lt, m1_le, m1_gt, m1_ge, m1_ne, m1_en, m1_ad, nle_F, nle_T, nlt_F, nlt_T, neq_F, neq_T, or_self, or_false, false_or, true_or, or_true, and_self, and_false, false_and, true_and, and_true, not_true_eq_false, not_false_eq_true, ↓reduceIte, if_true, if_false, Nat.reduceAdd, ite_self, Bool.false_eq_true, ↓U_Model_isClear, ↓U_Model_numberOf, nI_sb, e97, e110, y4, l1, u2', u3, n10e, hvv]
        · skip
          obtain ⟨I6, g1, g2'⟩ := EM2' (J := J) (a := nI 12) (o := 12) (u := nI (v - 13)) (v := nI 0) (w := nI 0) u5 rfl (by decide) (by decide) (by omega) (b255n (by omega))
          refine Or.inr ⟨(), I6, I5', q2, m1' + 2, _, _, f8, f9, g2, g3, g4, g5, c, _, _, ?_, ?_, g2', u6, TB_mono hT (by omega), by omega, by omega, fun hk => ?_⟩
          · simp (disch := omega) only [a11, a01, ↓li_m, ↓oc_some, ↓oc_ite, ↓oc_oc, ↓oc_pl, ↓oc_none, ↓oc_oe, ↓pl_eq, ↓oe_i, ↓oe_j, va_up_self, va_up_ne, va_up_up, upd_s, upd_n, updL_s, updL_n, nI_add, nI_1, nI_ltI, nI_leI, nI_eq, nI_clamp, li_n, m1_lt, m1_le, m1_gt, m1_ge, m1_ne, m1_en, m1_ad, nle_F, nle_T, nlt_F, nlt_T, neq_F, neq_T, or_self, or_false, false_or, true_or, or_true, and_self, and_false, false_and, true_and, and_true, not_true_eq_false, not_false_eq_true, ↓reduceIte, if_true, if_false, Nat.reduceAdd, ite_self, Bool.false_eq_true, nI_sb, g1, n10e, hvv]
          · simp (disch := omega) only [a11, a01, ↓li_m, ↓oc_some, ↓oc_ite, ↓oc_oc, ↓oc_pl, ↓oc_none, ↓oc_oe, ↓pl_eq, ↓oe_i, ↓oe_j, va_up_self, va_up_ne, va_up_up, upd_s, upd_n, updL_s, updL_n, nI_add, nI_1, nI_ltI, nI_leI, nI_eq, nI_clamp, li_n, m1_lt, m1_le, m1_gt, m1_ge, m1_ne, m1_en, m1_ad, nle_F, nle_T, nlt_F, nlt_T, neq_F, neq_T, or_self, or_false, false_or, true_or, or_true, and_self, and_false, false_and, true_and, and_true, not_true_eq_false, not_false_eq_true, ↓reduceIte, if_true, if_false, Nat.reduceAdd, ite_self, Bool.false_eq_true, ↓U_Model_isClear, ↓U_Model_numberOf, nI_sb, e97, e110, y4, l1, u2', u3, n10e, hvv]
          · have X := CODE_2 (h := 0 + 1) (o := 12) (b := (v - 13)) (y7 hk).2 (by omega) (by omega) (fun x => by omega) (by rw [show nd 12 = 1 from rfl]; omega) (by omega)
            exact ⟨(y7 hk).1, X⟩
theorem bn9 (ht : tpOK n t) : ∀ (d fu i q : Nat) (I : MI) (J : MJ), I 4 1 = nI n → (∀ j, j < n → I 5 j = nI (t j)) → q ≤ n → n ≤ q + d → d + i ≤ 400 → d < fu → f_Translator_behindNext_9 fu (nI q) (nI i) I J = some (nI (sp n t d q), I, J) := by
  intro d
  induction d with
  | zero =>
    intro fu i q I J h1 h2 h4 h5 h6 h7
    obtain ⟨f, rfl⟩ : ∃ f, fu = f + 1 := ⟨fu - 1, by omega⟩
    have hn := ht.1
    rw [f_Translator_behindNext_9, sp]
    by_cases e : 400 ≤ i
    · simp (disch := omega) only [a11, a01, ↓li_m, ↓oc_some, ↓oc_ite, ↓oc_oc, ↓oc_pl, ↓oc_none, ↓oc_oe, ↓pl_eq, ↓oe_i, ↓oe_j, va_up_self, va_up_ne, va_up_up, upd_s, upd_n, updL_s, updL_n, nI_add, nI_1, nI_ltI, nI_leI, nI_eq, nI_clamp, li_n, m1_lt, m1_le, m1_gt, m1_ge, m1_ne, m1_en, m1_ad, nle_F, nle_T, nlt_F, nlt_T, neq_F, neq_T, or_self, or_false, false_or, true_or, or_true, and_self, and_false, false_and, true_and, and_true, not_true_eq_false, not_false_eq_true, ↓reduceIte, if_true, if_false, Nat.reduceAdd, ite_self, Bool.false_eq_true]
    · simp (disch := omega) only [a11, a01, ↓li_m, ↓oc_some, ↓oc_ite, ↓oc_oc, ↓oc_pl, ↓oc_none, ↓oc_oe, ↓pl_eq, ↓oe_i, ↓oe_j, va_up_self, va_up_ne, va_up_up, upd_s, upd_n, updL_s, updL_n, nI_add, nI_1, nI_ltI, nI_leI, nI_eq, nI_clamp, li_n, m1_lt, m1_le, m1_gt, m1_ge, m1_ne, m1_en, m1_ad, nle_F, nle_T, nlt_F, nlt_T, neq_F, neq_T, or_self, or_false, false_or, true_or, or_true, and_self, and_false, false_and, true_and, and_true, not_true_eq_false, not_false_eq_true, ↓reduceIte, if_true, if_false, Nat.reduceAdd, ite_self, Bool.false_eq_true, ↓U_Row_at, h1]
  | succ d ih =>
    intro fu i q I J h1 h2 h4 h5 h6 h7
    obtain ⟨f, rfl⟩ : ∃ f, fu = f + 1 := ⟨fu - 1, by omega⟩
    have hn := ht.1
    rw [f_Translator_behindNext_9, sp]
    by_cases c : q < n
    · have b1 := ht.2 q c
      have b2 := h2 q c
      by_cases e : t q = 32
      · rw [if_pos (show q < n ∧ t q = 32 from ⟨c, e⟩)]
        have ih' := ih f (i + 1) (q + 1) I J h1 h2 (by omega) (by omega) (by omega) (by omega)
        simp (disch := omega) only [a11, a01, ↓li_m, ↓oc_some, ↓oc_ite, ↓oc_oc, ↓oc_pl, ↓oc_none, ↓oc_oe, ↓pl_eq, ↓oe_i, ↓oe_j, va_up_self, va_up_ne, va_up_up, upd_s, upd_n, updL_s, updL_n, nI_add, nI_1, nI_ltI, nI_leI, nI_eq, nI_clamp, li_n, m1_lt, m1_le, m1_gt, m1_ge, m1_ne, m1_en, m1_ad, nle_F, nle_T, nlt_F, nlt_T, neq_F, neq_T, or_self, or_false, false_or, true_or, or_true, and_self, and_false, false_and, true_and, and_true, not_true_eq_false, not_false_eq_true, ↓reduceIte, if_true, if_false, Nat.reduceAdd, ite_self, Bool.false_eq_true, ↓U_Row_at, h1, b2, e, ih']
      · rw [if_neg (show ¬ (q < n ∧ t q = 32) from fun x => e x.2)]
        simp (disch := omega) only [a11, a01, ↓li_m, ↓oc_some, ↓oc_ite, ↓oc_oc, ↓oc_pl, ↓oc_none, ↓oc_oe, ↓pl_eq, ↓oe_i, ↓oe_j, va_up_self, va_up_ne, va_up_up, upd_s, upd_n, updL_s, updL_n, nI_add, nI_1, nI_ltI, nI_leI, nI_eq, nI_clamp, li_n, m1_lt, m1_le, m1_gt, m1_ge, m1_ne, m1_en, m1_ad, nle_F, nle_T, nlt_F, nlt_T, neq_F, neq_T, or_self, or_false, false_or, true_or, or_true, and_self, and_false, false_and, true_and, and_true, not_true_eq_false, not_false_eq_true, ↓reduceIte, if_true, if_false, Nat.reduceAdd, ite_self, Bool.false_eq_true, ↓U_Row_at, h1, b2, e]
    · rw [if_neg (show ¬ (q < n ∧ t q = 32) from fun x => c x.1)]
      simp (disch := omega) only [a11, a01, ↓li_m, ↓oc_some, ↓oc_ite, ↓oc_oc, ↓oc_pl, ↓oc_none, ↓oc_oe, ↓pl_eq, ↓oe_i, ↓oe_j, va_up_self, va_up_ne, va_up_up, upd_s, upd_n, updL_s, updL_n, nI_add, nI_1, nI_ltI, nI_leI, nI_eq, nI_clamp, li_n, m1_lt, m1_le, m1_gt, m1_ge, m1_ne, m1_en, m1_ad, nle_F, nle_T, nlt_F, nlt_T, neq_F, neq_T, or_self, or_false, false_or, true_or, or_true, and_self, and_false, false_and, true_and, and_true, not_true_eq_false, not_false_eq_true, ↓reduceIte, if_true, if_false, Nat.reduceAdd, ite_self, Bool.false_eq_true, ↓U_Row_at, h1]
theorem is7 (ht : tpOK n t) : ∀ (d fu q : Nat) (I : MI) (J : MJ), I 112 2 = nI n → (∀ j, j < n → I 113 j = nI (t j)) → q ≤ n → n ≤ q + d → d < fu → f_Model_isSum_7 fu (nI q) I J = some (nI (sp n t d q), I, J) := by
  intro d
  induction d with
  | zero =>
    intro fu q I J h1 h2 h4 h5 h7
    obtain ⟨f, rfl⟩ : ∃ f, fu = f + 1 := ⟨fu - 1, by omega⟩
    have hn := ht.1
    rw [f_Model_isSum_7, sp]
    simp (disch := omega) only [a11, a01, ↓li_m, ↓oc_some, ↓oc_ite, ↓oc_oc, ↓oc_pl, ↓oc_none, ↓oc_oe, ↓pl_eq, ↓oe_i, ↓oe_j, va_up_self, va_up_ne, va_up_up, upd_s, upd_n, updL_s, updL_n, nI_add, nI_1, nI_ltI, nI_leI, nI_eq, nI_clamp, li_n, m1_lt, m1_le, m1_gt, m1_ge, m1_ne, m1_en, m1_ad, nle_F, nle_T, nlt_F, nlt_T, neq_F, neq_T, or_self, or_false, false_or, true_or, or_true, and_self, and_false, false_and, true_and, and_true, not_true_eq_false, not_false_eq_true, ↓reduceIte, if_true, if_false, Nat.reduceAdd, ite_self, Bool.false_eq_true, h1]
  | succ d ih =>
    intro fu q I J h1 h2 h4 h5 h7
    obtain ⟨f, rfl⟩ : ∃ f, fu = f + 1 := ⟨fu - 1, by omega⟩
    have hn := ht.1
    rw [f_Model_isSum_7, sp]
    by_cases c : q < n
    · have b1 := ht.2 q c
      have b2 := h2 q c
      by_cases e : t q = 32
      · rw [if_pos (show q < n ∧ t q = 32 from ⟨c, e⟩)]
        have ih' := ih f (q + 1) I J h1 h2 (by omega) (by omega) (by omega)
        simp (disch := omega) only [a11, a01, ↓li_m, ↓oc_some, ↓oc_ite, ↓oc_oc, ↓oc_pl, ↓oc_none, ↓oc_oe, ↓pl_eq, ↓oe_i, ↓oe_j, va_up_self, va_up_ne, va_up_up, upd_s, upd_n, updL_s, updL_n, nI_add, nI_1, nI_ltI, nI_leI, nI_eq, nI_clamp, li_n, m1_lt, m1_le, m1_gt, m1_ge, m1_ne, m1_en, m1_ad, nle_F, nle_T, nlt_F, nlt_T, neq_F, neq_T, or_self, or_false, false_or, true_or, or_true, and_self, and_false, false_and, true_and, and_true, not_true_eq_false, not_false_eq_true, ↓reduceIte, if_true, if_false, Nat.reduceAdd, ite_self, Bool.false_eq_true, h1, b2, e, ih']
      · rw [if_neg (show ¬ (q < n ∧ t q = 32) from fun x => e x.2)]
        simp (disch := omega) only [a11, a01, ↓li_m, ↓oc_some, ↓oc_ite, ↓oc_oc, ↓oc_pl, ↓oc_none, ↓oc_oe, ↓pl_eq, ↓oe_i, ↓oe_j, va_up_self, va_up_ne, va_up_up, upd_s, upd_n, updL_s, updL_n, nI_add, nI_1, nI_ltI, nI_leI, nI_eq, nI_clamp, li_n, m1_lt, m1_le, m1_gt, m1_ge, m1_ne, m1_en, m1_ad, nle_F, nle_T, nlt_F, nlt_T, neq_F, neq_T, or_self, or_false, false_or, true_or, or_true, and_self, and_false, false_and, true_and, and_true, not_true_eq_false, not_false_eq_true, ↓reduceIte, if_true, if_false, Nat.reduceAdd, ite_self, Bool.false_eq_true, h1, b2, e]
    · rw [if_neg (show ¬ (q < n ∧ t q = 32) from fun x => c x.1)]
      simp (disch := omega) only [a11, a01, ↓li_m, ↓oc_some, ↓oc_ite, ↓oc_oc, ↓oc_pl, ↓oc_none, ↓oc_oe, ↓pl_eq, ↓oe_i, ↓oe_j, va_up_self, va_up_ne, va_up_up, upd_s, upd_n, updL_s, updL_n, nI_add, nI_1, nI_ltI, nI_leI, nI_eq, nI_clamp, li_n, m1_lt, m1_le, m1_gt, m1_ge, m1_ne, m1_en, m1_ad, nle_F, nle_T, nlt_F, nlt_T, neq_F, neq_T, or_self, or_false, false_or, true_or, or_true, and_self, and_false, false_and, true_and, and_true, not_true_eq_false, not_false_eq_true, ↓reduceIte, if_true, if_false, Nat.reduceAdd, ite_self, Bool.false_eq_true, h1]
theorem BN (ht : tpOK n t) (hA : CA n t P I q m D U k p f8 f9 cc) (hq : q < n) {α : Type} {F : Int32 → MI → MJ → Option α} : oc (f_Translator_behindNext I J) F = F (cCq n t (spq n t (q + 1))) I J := by
  have hn := ht.1
  obtain ⟨⟨h1, h2⟩, h3, h4, _⟩ := hA
  have e := bn9 ht (n - (q + 1)) gF 0 (q + 1) I J h1 h2 (by omega) (by omega) (by omega) (gF_lt (by omega))
  have hs := spq_le (t := t) (show q + 1 ≤ n by omega)
  unfold f_Translator_behindNext cCq
  rw [pl_eq, h4, nI_1, show (0 : Int32) = nI 0 from rfl, e]
  show oc (oc (some (nI (spq n t (q + 1)), I, J)) _) F = _
  generalize spq n t (q + 1) = s at hs ⊢
  by_cases c : s < n
  · have b2 := h2 s c
    simp (disch := omega) only [a11, a01, ↓li_m, ↓oc_some, ↓oc_ite, ↓oc_oc, ↓oc_pl, ↓oc_none, ↓oc_oe, ↓pl_eq, ↓oe_i, ↓oe_j, va_up_self, va_up_ne, va_up_up, upd_s, upd_n, updL_s, updL_n, nI_add, nI_1, nI_ltI, nI_leI, nI_eq, nI_clamp, li_n, m1_lt, m1_le, m1_gt, m1_ge, m1_ne, m1_en, m1_ad, nle_F, nle_T, nlt_F, nlt_T, neq_F, neq_T, or_self, or_false, false_or, true_or, or_true, and_self, and_false, false_and, true_and, and_true, not_true_eq_false, not_false_eq_true, ↓reduceIte, if_true, if_false, Nat.reduceAdd, ite_self, Bool.false_eq_true, ↓U_Row_at, h1, b2]
  · simp (disch := omega) only [a11, a01, ↓li_m, ↓oc_some, ↓oc_ite, ↓oc_oc, ↓oc_pl, ↓oc_none, ↓oc_oe, ↓pl_eq, ↓oe_i, ↓oe_j, va_up_self, va_up_ne, va_up_up, upd_s, upd_n, updL_s, updL_n, nI_add, nI_1, nI_ltI, nI_leI, nI_eq, nI_clamp, li_n, m1_lt, m1_le, m1_gt, m1_ge, m1_ne, m1_en, m1_ad, nle_F, nle_T, nlt_F, nlt_T, neq_F, neq_T, or_self, or_false, false_or, true_or, or_true, and_self, and_false, false_and, true_and, and_true, not_true_eq_false, not_false_eq_true, ↓reduceIte, if_true, if_false, Nat.reduceAdd, ite_self, Bool.false_eq_true, ↓U_Row_at, h1]
theorem ISM (ht : tpOK n t) (hM : MA n t P I q m D U k p g2 g3 g4 g5 c cm) (hq : q < n) {α : Type} {F : Int32 → MI → MJ → Option α} : oc (f_Model_isSum I J) F = F (if spq n t (q + 1) < n ∧ t (spq n t (q + 1)) = 46 then nI 1 else nI 0) I J := by
  have hn := ht.1
  obtain ⟨⟨h1, h2⟩, h3, h4, _⟩ := hM
  have e := is7 ht (n - (q + 1)) gF (q + 1) I J h1 h2 (by omega) (by omega) (gF_lt (by omega))
  have hs := spq_le (t := t) (show q + 1 ≤ n by omega)
  unfold f_Model_isSum
  rw [pl_eq, h4, nI_1, e]
  show oc (oc (some (nI (spq n t (q + 1)), I, J)) _) F = _
  generalize spq n t (q + 1) = s at hs ⊢
  by_cases c : s < n
  · have b2 := h2 s c
    have := ht.2 s c
    by_cases e : t s = 46
    · simp (disch := omega) only [a11, a01, ↓li_m, ↓oc_some, ↓oc_ite, ↓oc_oc, ↓oc_pl, ↓oc_none, ↓oc_oe, ↓pl_eq, ↓oe_i, ↓oe_j, va_up_self, va_up_ne, va_up_up, upd_s, upd_n, updL_s, updL_n, nI_add, nI_1, nI_ltI, nI_leI, nI_eq, nI_clamp, li_n, m1_lt, m1_le, m1_gt, m1_ge, m1_ne, m1_en, m1_ad, nle_F, nle_T, nlt_F, nlt_T, neq_F, neq_T, or_self, or_false, false_or, true_or, or_true, and_self, and_false, false_and, true_and, and_true, not_true_eq_false, not_false_eq_true, ↓reduceIte, if_true, if_false, Nat.reduceAdd, ite_self, Bool.false_eq_true, h1, b2, e]
    · simp (disch := omega) only [a11, a01, ↓li_m, ↓oc_some, ↓oc_ite, ↓oc_oc, ↓oc_pl, ↓oc_none, ↓oc_oe, ↓pl_eq, ↓oe_i, ↓oe_j, va_up_self, va_up_ne, va_up_up, upd_s, upd_n, updL_s, updL_n, nI_add, nI_1, nI_ltI, nI_leI, nI_eq, nI_clamp, li_n, m1_lt, m1_le, m1_gt, m1_ge, m1_ne, m1_en, m1_ad, nle_F, nle_T, nlt_F, nlt_T, neq_F, neq_T, or_self, or_false, false_or, true_or, or_true, and_self, and_false, false_and, true_and, and_true, not_true_eq_false, not_false_eq_true, ↓reduceIte, if_true, if_false, Nat.reduceAdd, ite_self, Bool.false_eq_true, h1, b2, e]
  · simp (disch := omega) only [a11, a01, ↓li_m, ↓oc_some, ↓oc_ite, ↓oc_oc, ↓oc_pl, ↓oc_none, ↓oc_oe, ↓pl_eq, ↓oe_i, ↓oe_j, va_up_self, va_up_ne, va_up_up, upd_s, upd_n, updL_s, updL_n, nI_add, nI_1, nI_ltI, nI_leI, nI_eq, nI_clamp, li_n, m1_lt, m1_le, m1_gt, m1_ge, m1_ne, m1_en, m1_ad, nle_F, nle_T, nlt_F, nlt_T, neq_F, neq_T, or_self, or_false, false_or, true_or, or_true, and_self, and_false, false_and, true_and, and_true, not_true_eq_false, not_false_eq_true, ↓reduceIte, if_true, if_false, Nat.reduceAdd, ite_self, Bool.false_eq_true, h1]
end CM
