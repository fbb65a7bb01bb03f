/-! compile: opening, bits -/
def mOpn (v1 x12 : Int32) (I20 : MI) (J20 : MJ) : M2 Int32 := oc (f_Model_isVariable  I20 J20) (fun v22 I22 J22 => if ¬ v22 = 0 then (oc (f_Model_see  I22 J22) (fun v24 I24 J24 => oc (f_Model_isSecret v1 I24 J24) (fun v25 I25 J25 => oc ((if v25 = 0 then (some ((), I25, J25)) else (oc (f_Model_note 2 x12 I25 J25) (fun v29 I29 J29 => some ((), I29, J29)))) : M2 (Unit)) (fun v27 I27 J27 => oc (f_Model_isClear v24 I27 J27) (fun v30 I30 J30 => oc ((if v30 = 0 then (some ((), I30, J30)) else (oc (f_Model_note 2 (I30 112 5) I30 J30) (fun v34 I34 J34 => some ((), I34, J34)))) : M2 (Unit)) (fun v32 I32 J32 => pl (va_up I32 112 (upd (I32 112) 5 ((I32 112 5) + 1))) (fun I35 => oc (f_Model_numberOf v1 I35 J32) (fun v36 I36 J36 => oc (f_Model_lay_IIV 14 v36 I36 J36) (fun v37 I37 J37 => oc (f_Model_numberOf v24 I37 J37) (fun v38 I38 J38 => oc (f_Model_lay_IV v38 I38 J38) (fun v39 I39 J39 => oc (f_Model_want 59 I39 J39) (fun v40 I40 J40 => if v40 = 0 ∨ v40 = 1 then some (v40, I40, J40) else none)))))))))))) else (oc (f_Model_refuse  I22 J22) (fun v42 I42 J42 => if v42 = 0 ∨ v42 = 1 then some (v42, I42, J42) else none)))
def cBit (p2 p3 : Int32) (I8 : MI) (J8 : MJ) : M2 Unit := oc (f_Translator_expect 59 I8 J8) (fun v9 I9 J9 => oc (f_Translator_wantSecret p2 p3 I9 J9) (fun v10 I10 J10 => oc (f_Translator_emit 27 (p2 - 13) 0 0 I10 J10) (fun v11 I11 J11 => some ((), I11, J11))))
section CM
variable {n P m D U k p c q : Nat} {t : Nat → Nat} {I I' : MI} {J J' : MJ} {f8 f9 g2 g3 g4 g5 : Nat → Int32} {cc cm : Nat → Nat}
theorem PM2 (h : MA n t P I q m D U k p g2 g3 g4 g5 c cm) (hq : q < n) : MA n t P (va_up I 112 (upd (I 112) 5 (nI (q + 1)))) (q + 1) m D U k p g2 g3 g4 g5 c cm := by
  obtain ⟨I1, a1, a2, a3, a4⟩ := PM h hq
  have h5 : I 112 5 = nI q := h.2.2.1
  rw [h5, nI_add] at a4
  rw [a4]
  exact a2
theorem OPN {q0 v a0 : Nat} (ht : tpOK n t) (hv : v < 26) (ha : a0 ≤ 400) (hA : CA n t P I q m D U k p f8 f9 cc) (hM : MA n t P I' q m D U k p g2 g3 g4 g5 c cm) (hT : TB f8 f9 g2 g3 g5 c q) (hC : k = 0 → CODE P cc cm m 0 f8 g3 g4 c) (hq : q0 + 2 ≤ q) (hm : m ≤ 5 * q0) : OS n t P D U J J' q0 m k (f_Translator_opening (nI v) (nI a0) I J) (mOpn (nI (v + 97)) (nI a0) I' J') := by
  have hn := ht.1
  obtain ⟨I1, a1, a2, a3, a4, a5⟩ := LC (J := J) ht hA
  obtain ⟨I1', b1, b2, _⟩ := VARM (J := J') ht hM
  have d0 := fun {α : Type} {F : Int32 → MI → MJ → Option α} => SM0 (J := J') ht b2 a3 (F := F)
  have vC := VARC (J := J) ht a2
  rw [spq_id a3] at vC
  generalize spq n t q = s at a1 a2 a3 a4 a5 b1 b2 d0 vC
  have pC5 : I1 3 5 = nI s := a2.2.2.1
  have pM5 : I1' 112 5 = nI s := b2.2.2.1
  unfold f_Translator_opening mOpn
  rw [a1, b1, pl_eq, pC5]
  rcases vC with ⟨w, I3, e1, e2⟩ | ⟨w, I3, e1, e2⟩
  · have w1 := w.1
    have w2 := w.2
    rw [cM_lt w1] at d0
    rw [if_pos w, if_pos (show ¬ nI 1 = 0 by decide), d0, e1]
    by_cases c1 : v < 13
    ·   by_cases c2 : t s ≤ 109
        · skip
          obtain ⟨N2', m1', m2', _⟩ := NM (J := J') (a := 2) (x := s) b2 (by omega) (by omega)
          have m5 : N2' 112 5 = nI s := m2'.2.2.1
          obtain ⟨L1', l1, l2, _⟩ := AM2 (J := J') (a := 14) (b := v) (v := nI 14) (w := nI v) (PM2 m2' w1) (by omega) rfl rfl
          obtain ⟨L2', l3, l4, _⟩ := AM (J := J') (b := (t s - 97)) (v := nI (t s - 97)) l2 (by omega) rfl
          obtain ⟨I5, I5', v', u1, u2, u3⟩ := WNT (J := J) (J' := J') ht (x := 59) (ch := 59) rfl (by omega) (by omega) e2 l4
          have u2' : ∀ {α : Type} {F : Int32 → MI → MJ → Option α}, oc (f_Model_want (nI 59) L2' J') F = F v' I5' J' := fun {α F} => u2
          rw [u1]
          have e97 : v + 97 - 97 = v := by omega
          have e110 : v + 97 - 110 = v - 13 := by omega
          rcases u3 with ⟨u3, x, u4, u5, u6⟩ | ⟨u3, q2, u4, u5, u6, u7⟩
          · refine Or.inl ⟨x, I5', ?_, ?_, u5, u6⟩
            · skip
              repeat (first
                | exact zk_some (by assumption)
                | (with_reducible refine z_x (by assumption) (by assumption) (by decide) ?_) ; (intro _ _ _)
                | (with_reducible refine z_em (by assumption) ?_) ; (intro _ _ _)
                | (with_reducible refine z_ep (by assumption) ?_) ; (intro _ _ _)
                | (with_reducible refine z_b (by assumption) ?_) ; (intro _ _ _)
                | (with_reducible refine z_wS (by assumption) ?_) ; (intro _ _ _)
                | (with_reducible refine z_wC (by assumption) ?_) ; (intro _ _ _)
                | (with_reducible refine z_p (by assumption) ?_) ; (intro _ _ _)
                | (with_reducible refine z_r (by assumption) ?_) ; (intro _ _ _)
                | (with_reducible refine z_en (by assumption) ?_) ; (intro _ _ _)
                | (with_reducible refine z_lv (by assumption) ?_) ; (intro _ _ _)
                | (with_reducible refine z_am (by assumption) ?_) ; (intro _ _ _)
                | (with_reducible refine z_ar (by assumption) (by assumption) ?_) ; (intro _ _ _)
                | (with_reducible refine z_va (by assumption) (by assumption) ?_) ; (intro _ _ _)
                | (with_reducible refine z_lk (by assumption) (by assumption) ?_) ; (intro _ _ _)
                | (with_reducible refine z_dc (by assumption) (by assumption) ?_) ; (intro _ _ _)
                | (with_reducible refine z_r0 (by assumption) (by omega) (by assumption) ?_) ; (intro _ _ _)
                | (with_reducible refine z_r9 (by assumption) (by omega) (by assumption) ?_) ; (intro _ _ _)
                | (with_reducible refine zk_7 (by assumption) ?_) ; (intro _ _)
                | (with_reducible refine zk_9 (by assumption) ?_) ; (intro _ _)
                | (with_reducible refine zk_8 (by assumption) ?_) ; (intro _ _)
                | (with_reducible refine zk_pl ?_)
                | (with_reducible refine zk_ite ?_ ?_) <;> (intro _)
                | (with_reducible refine z_oc ?_ ?_)
                | (intro _ _ _))
            · simp (disch := omega) only [a11, a01, ↓li_m, ↓oc_some, ↓oc_ite, ↓oc_oc, ↓oc_pl, ↓oc_none, ↓oc_oe, ↓pl_eq, ↓oe_i, ↓oe_j, va_up_self, va_up_ne, va_up_up, upd_s, upd_n, updL_s, updL_n, nI_add, nI_1, nI_ltI, nI_leI, nI_eq, nI_clamp, li_n, m1_lt, m1_le, m1_gt, m1_ge, m1_ne, m1_en, m1_ad, nle_F, nle_T, nlt_F, nlt_T, neq_F, neq_T, or_self, or_false, false_or, true_or, or_true, and_self, and_false, false_and, true_and, and_true, not_true_eq_false, not_false_eq_true, ↓reduceIte, if_true, if_false, Nat.reduceAdd, ite_self, Bool.false_eq_true, ↓U_Model_isClear, ↓U_Model_isSecret, ↓U_Model_numberOf, nI_sb, e97, e110, m1', m5, l1, l3, u2', u3, n10e, pM5]
          · skip
            obtain ⟨B2, o3, o4⟩ := BC (J := J) (a := 2) (x := s) u5 (by omega) (by omega)
            obtain ⟨I6, g1, g2'⟩ := EM3' (J := J) (a := nI 14) (o := 14) (u := nI v) (v := nI (t s - 97) - nI 13) (w := nI 0) o4 rfl (by decide) (by decide) (by omega) (b255n (by omega)) (b255 _)
            refine Or.inr ⟨(), I6, I5', q2, m + 3, _, _, f8, f9, g2, g3, g4, g5, c, _, _, ?_, ?_, g2', u6, TB_mono hT (by omega), by omega, by omega, fun hk => ?_⟩
            · simp (disch := omega) only [a11, a01, ↓li_m, ↓oc_some, ↓oc_ite, ↓oc_oc, ↓oc_pl, ↓oc_none, ↓oc_oe, ↓pl_eq, ↓oe_i, ↓oe_j, va_up_self, va_up_ne, va_up_up, upd_s, upd_n, updL_s, updL_n, nI_add, nI_1, nI_ltI, nI_leI, nI_eq, nI_clamp, li_n, m1_lt, m1_le, m1_gt, m1_ge, m1_ne, m1_en, m1_ad, nle_F, nle_T, nlt_F, nlt_T, neq_F, neq_T, or_self, or_false, false_or, true_or, or_true, and_self, and_false, false_and, true_and, and_true, not_true_eq_false, not_false_eq_true, ↓reduceIte, if_true, if_false, Nat.reduceAdd, ite_self, Bool.false_eq_true, ↓U_Translator_wantSecret, ↓U_Translator_wantClear, nI_sb, o3, g1]
            · simp (disch := omega) only [a11, a01, ↓li_m, ↓oc_some, ↓oc_ite, ↓oc_oc, ↓oc_pl, ↓oc_none, ↓oc_oe, ↓pl_eq, ↓oe_i, ↓oe_j, va_up_self, va_up_ne, va_up_up, upd_s, upd_n, updL_s, updL_n, nI_add, nI_1, nI_ltI, nI_leI, nI_eq, nI_clamp, li_n, m1_lt, m1_le, m1_gt, m1_ge, m1_ne, m1_en, m1_ad, nle_F, nle_T, nlt_F, nlt_T, neq_F, neq_T, or_self, or_false, false_or, true_or, or_true, and_self, and_false, false_and, true_and, and_true, not_true_eq_false, not_false_eq_true, ↓reduceIte, if_true, if_false, Nat.reduceAdd, ite_self, Bool.false_eq_true, ↓U_Model_isClear, ↓U_Model_isSecret, ↓U_Model_numberOf, nI_sb, e97, e110, m1', m5, l1, l3, u2', u3, n10e, pM5]
            · exact (ntk0 hk (by omega)).elim
        · skip
          obtain ⟨L1', l1, l2, _⟩ := AM2 (J := J') (a := 14) (b := v) (v := nI 14) (w := nI v) (PM2 b2 w1) (by omega) rfl rfl
          obtain ⟨L2', l3, l4, _⟩ := AM (J := J') (b := (t s - 110)) (v := nI (t s - 110)) l2 (by omega) rfl
          obtain ⟨I5, I5', v', u1, u2, u3⟩ := WNT (J := J) (J' := J') ht (x := 59) (ch := 59) rfl (by omega) (by omega) e2 l4
          have u2' : ∀ {α : Type} {F : Int32 → MI → MJ → Option α}, oc (f_Model_want (nI 59) L2' J') F = F v' I5' J' := fun {α F} => u2
          rw [u1]
          have e97 : v + 97 - 97 = v := by omega
          have e110 : v + 97 - 110 = v - 13 := by omega
          rcases u3 with ⟨u3, x, u4, u5, u6⟩ | ⟨u3, q2, u4, u5, u6, u7⟩
          · refine Or.inl ⟨x, I5', ?_, ?_, u5, u6⟩
            · skip
              repeat (first
                | exact zk_some (by assumption)
                | (with_reducible refine z_x (by assumption) (by assumption) (by decide) ?_) ; (intro _ _ _)
                | (with_reducible refine z_em (by assumption) ?_) ; (intro _ _ _)
                | (with_reducible refine z_ep (by assumption) ?_) ; (intro _ _ _)
                | (with_reducible refine z_b (by assumption) ?_) ; (intro _ _ _)
                | (with_reducible refine z_wS (by assumption) ?_) ; (intro _ _ _)
                | (with_reducible refine z_wC (by assumption) ?_) ; (intro _ _ _)
                | (with_reducible refine z_p (by assumption) ?_) ; (intro _ _ _)
                | (with_reducible refine z_r (by assumption) ?_) ; (intro _ _ _)
                | (with_reducible refine z_en (by assumption) ?_) ; (intro _ _ _)
                | (with_reducible refine z_lv (by assumption) ?_) ; (intro _ _ _)
                | (with_reducible refine z_am (by assumption) ?_) ; (intro _ _ _)
                | (with_reducible refine z_ar (by assumption) (by assumption) ?_) ; (intro _ _ _)
                | (with_reducible refine z_va (by assumption) (by assumption) ?_) ; (intro _ _ _)
                | (with_reducible refine z_lk (by assumption) (by assumption) ?_) ; (intro _ _ _)
                | (with_reducible refine z_dc (by assumption) (by assumption) ?_) ; (intro _ _ _)
                | (with_reducible refine z_r0 (by assumption) (by omega) (by assumption) ?_) ; (intro _ _ _)
                | (with_reducible refine z_r9 (by assumption) (by omega) (by assumption) ?_) ; (intro _ _ _)
                | (with_reducible refine zk_7 (by assumption) ?_) ; (intro _ _)
                | (with_reducible refine zk_9 (by assumption) ?_) ; (intro _ _)
                | (with_reducible refine zk_8 (by assumption) ?_) ; (intro _ _)
                | (with_reducible refine zk_pl ?_)
                | (with_reducible refine zk_ite ?_ ?_) <;> (intro _)
                | (with_reducible refine z_oc ?_ ?_)
                | (intro _ _ _))
            · simp (disch := omega) only [a11, a01, ↓li_m, ↓oc_some, ↓oc_ite, ↓oc_oc, ↓oc_pl, ↓oc_none, ↓oc_oe, ↓pl_eq, ↓oe_i, ↓oe_j, va_up_self, va_up_ne, va_up_up, upd_s, upd_n, updL_s, updL_n, nI_add, nI_1, nI_ltI, nI_leI, nI_eq, nI_clamp, li_n, m1_lt, m1_le, m1_gt, m1_ge, m1_ne, m1_en, m1_ad, nle_F, nle_T, nlt_F, nlt_T, neq_F, neq_T, or_self, or_false, false_or, true_or, or_true, and_self, and_false, false_and, true_and, and_true, not_true_eq_false, not_false_eq_true, ↓reduceIte, if_true, if_false, Nat.reduceAdd, ite_self, Bool.false_eq_true, ↓U_Model_isClear, ↓U_Model_isSecret, ↓U_Model_numberOf, nI_sb, e97, e110, l1, l3, u2', u3, n10e, pM5]
          · skip
            obtain ⟨I6, g1, g2'⟩ := EM3' (J := J) (a := nI 14) (o := 14) (u := nI v) (v := nI (t s - 110)) (w := nI 0) u5 rfl (by decide) (by decide) (by omega) (b255n (by omega)) (b255n (by omega))
            have e13 : t s - 97 - 13 = t s - 110 := by omega
            refine Or.inr ⟨(), I6, I5', q2, m + 3, _, _, f8, f9, g2, g3, g4, g5, c, _, _, ?_, ?_, g2', u6, TB_mono hT (by omega), by omega, by omega, fun hk => ?_⟩
            · simp (disch := omega) only [a11, a01, ↓li_m, ↓oc_some, ↓oc_ite, ↓oc_oc, ↓oc_pl, ↓oc_none, ↓oc_oe, ↓pl_eq, ↓oe_i, ↓oe_j, va_up_self, va_up_ne, va_up_up, upd_s, upd_n, updL_s, updL_n, nI_add, nI_1, nI_ltI, nI_leI, nI_eq, nI_clamp, li_n, m1_lt, m1_le, m1_gt, m1_ge, m1_ne, m1_en, m1_ad, nle_F, nle_T, nlt_F, nlt_T, neq_F, neq_T, or_self, or_false, false_or, true_or, or_true, and_self, and_false, false_and, true_and, and_true, not_true_eq_false, not_false_eq_true, ↓reduceIte, if_true, if_false, Nat.reduceAdd, ite_self, Bool.false_eq_true, ↓U_Translator_wantSecret, ↓U_Translator_wantClear, nI_sb, e13, g1]
            · simp (disch := omega) only [a11, a01, ↓li_m, ↓oc_some, ↓oc_ite, ↓oc_oc, ↓oc_pl, ↓oc_none, ↓oc_oe, ↓pl_eq, ↓oe_i, ↓oe_j, va_up_self, va_up_ne, va_up_up, upd_s, upd_n, updL_s, updL_n, nI_add, nI_1, nI_ltI, nI_leI, nI_eq, nI_clamp, li_n, m1_lt, m1_le, m1_gt, m1_ge, m1_ne, m1_en, m1_ad, nle_F, nle_T, nlt_F, nlt_T, neq_F, neq_T, or_self, or_false, false_or, true_or, or_true, and_self, and_false, false_and, true_and, and_true, not_true_eq_false, not_false_eq_true, ↓reduceIte, if_true, if_false, Nat.reduceAdd, ite_self, Bool.false_eq_true, ↓U_Model_isClear, ↓U_Model_isSecret, ↓U_Model_numberOf, nI_sb, e97, e110, l1, l3, u2', u3, n10e, pM5]
            · exact ⟨hk, CODE_gv0 (Or.inr rfl) (CODE_3 (h := 0) (o := 14) (hC hk) (by omega) (fun x => by omega) (fun _ => ⟨by omega, by omega⟩) (fun x => by omega) (by omega) (by omega))⟩
    ·   by_cases c2 : t s ≤ 109
        · skip
          obtain ⟨N1', n1, n2, _⟩ := NM (J := J') (a := 2) (x := a0) b2 (by omega) ha
          have n5 : N1' 112 5 = nI s := n2.2.2.1
          obtain ⟨N2', m1', m2', _⟩ := NM (J := J') (a := 2) (x := s) n2 (by omega) (by omega)
          have m5 : N2' 112 5 = nI s := m2'.2.2.1
          obtain ⟨L1', l1, l2, _⟩ := AM2 (J := J') (a := 14) (b := (v - 13)) (v := nI 14) (w := nI (v - 13)) (PM2 m2' w1) (by omega) rfl rfl
          obtain ⟨L2', l3, l4, _⟩ := AM (J := J') (b := (t s - 97)) (v := nI (t s - 97)) l2 (by omega) rfl
          obtain ⟨I5, I5', v', u1, u2, u3⟩ := WNT (J := J) (J' := J') ht (x := 59) (ch := 59) rfl (by omega) (by omega) e2 l4
          have u2' : ∀ {α : Type} {F : Int32 → MI → MJ → Option α}, oc (f_Model_want (nI 59) L2' J') F = F v' I5' J' := fun {α F} => u2
          rw [u1]
          have e97 : v + 97 - 97 = v := by omega
          have e110 : v + 97 - 110 = v - 13 := by omega
          rcases u3 with ⟨u3, x, u4, u5, u6⟩ | ⟨u3, q2, u4, u5, u6, u7⟩
          · refine Or.inl ⟨x, I5', ?_, ?_, u5, u6⟩
            · skip
              repeat (first
                | exact zk_some (by assumption)
                | (with_reducible refine z_x (by assumption) (by assumption) (by decide) ?_) ; (intro _ _ _)
                | (with_reducible refine z_em (by assumption) ?_) ; (intro _ _ _)
                | (with_reducible refine z_ep (by assumption) ?_) ; (intro _ _ _)
                | (with_reducible refine z_b (by assumption) ?_) ; (intro _ _ _)
                | (with_reducible refine z_wS (by assumption) ?_) ; (intro _ _ _)
                | (with_reducible refine z_wC (by assumption) ?_) ; (intro _ _ _)
                | (with_reducible refine z_p (by assumption) ?_) ; (intro _ _ _)
                | (with_reducible refine z_r (by assumption) ?_) ; (intro _ _ _)
                | (with_reducible refine z_en (by assumption) ?_) ; (intro _ _ _)
                | (with_reducible refine z_lv (by assumption) ?_) ; (intro _ _ _)
                | (with_reducible refine z_am (by assumption) ?_) ; (intro _ _ _)
                | (with_reducible refine z_ar (by assumption) (by assumption) ?_) ; (intro _ _ _)
                | (with_reducible refine z_va (by assumption) (by assumption) ?_) ; (intro _ _ _)
                | (with_reducible refine z_lk (by assumption) (by assumption) ?_) ; (intro _ _ _)
                | (with_reducible refine z_dc (by assumption) (by assumption) ?_) ; (intro _ _ _)
                | (with_reducible refine z_r0 (by assumption) (by omega) (by assumption) ?_) ; (intro _ _ _)
                | (with_reducible refine z_r9 (by assumption) (by omega) (by assumption) ?_) ; (intro _ _ _)
                | (with_reducible refine zk_7 (by assumption) ?_) ; (intro _ _)
                | (with_reducible refine zk_9 (by assumption) ?_) ; (intro _ _)
                | (with_reducible refine zk_8 (by assumption) ?_) ; (intro _ _)
                | (with_reducible refine zk_pl ?_)
                | (with_reducible refine zk_ite ?_ ?_) <;> (intro _)
                | (with_reducible refine z_oc ?_ ?_)
                | (intro _ _ _))
            · simp (disch := omega) only [a11, a01, ↓li_m, ↓oc_some, ↓oc_ite, ↓oc_oc, ↓oc_pl, ↓oc_none, ↓oc_oe, ↓pl_eq, ↓oe_i, ↓oe_j, va_up_self, va_up_ne, va_up_up, upd_s, upd_n, updL_s, updL_n, nI_add, nI_1, nI_ltI, nI_leI, nI_eq, nI_clamp, li_n, m1_lt, m1_le, m1_gt, m1_ge, m1_ne, m1_en, m1_ad, nle_F, nle_T, nlt_F, nlt_T, neq_F, neq_T, or_self, or_false, false_or, true_or, or_true, and_self, and_false, false_and, true_and, and_true, not_true_eq_false, not_false_eq_true, ↓reduceIte, if_true, if_false, Nat.reduceAdd, ite_self, Bool.false_eq_true, ↓U_Model_isClear, ↓U_Model_isSecret, ↓U_Model_numberOf, nI_sb, e97, e110, n1, n5, m1', m5, l1, l3, u2', u3, n10e, pM5]
          · skip
            obtain ⟨B1, o1, o2⟩ := BC (J := J) (a := 2) (x := a0) u5 (by omega) ha
            obtain ⟨B2, o3, o4⟩ := BC (J := J) (a := 2) (x := s) o2 (by omega) (by omega)
            obtain ⟨I6, g1, g2'⟩ := EM3' (J := J) (a := nI 14) (o := 14) (u := nI v) (v := nI (t s - 97) - nI 13) (w := nI 0) o4 rfl (by decide) (by decide) (by omega) (b255n (by omega)) (b255 _)
            refine Or.inr ⟨(), I6, I5', q2, m + 3, _, _, f8, f9, g2, g3, g4, g5, c, _, _, ?_, ?_, g2', u6, TB_mono hT (by omega), by omega, by omega, fun hk => ?_⟩
            · simp (disch := omega) only [a11, a01, ↓li_m, ↓oc_some, ↓oc_ite, ↓oc_oc, ↓oc_pl, ↓oc_none, ↓oc_oe, ↓pl_eq, ↓oe_i, ↓oe_j, va_up_self, va_up_ne, va_up_up, upd_s, upd_n, updL_s, updL_n, nI_add, nI_1, nI_ltI, nI_leI, nI_eq, nI_clamp, li_n, m1_lt, m1_le, m1_gt, m1_ge, m1_ne, m1_en, m1_ad, nle_F, nle_T, nlt_F, nlt_T, neq_F, neq_T, or_self, or_false, false_or, true_or, or_true, and_self, and_false, false_and, true_and, and_true, not_true_eq_false, not_false_eq_true, ↓reduceIte, if_true, if_false, Nat.reduceAdd, ite_self, Bool.false_eq_true, ↓U_Translator_wantSecret, ↓U_Translator_wantClear, nI_sb, o1, o3, g1]
            · simp (disch := omega) only [a11, a01, ↓li_m, ↓oc_some, ↓oc_ite, ↓oc_oc, ↓oc_pl, ↓oc_none, ↓oc_oe, ↓pl_eq, ↓oe_i, ↓oe_j, va_up_self, va_up_ne, va_up_up, upd_s, upd_n, updL_s, updL_n, nI_add, nI_1, nI_ltI, nI_leI, nI_eq, nI_clamp, li_n, m1_lt, m1_le, m1_gt, m1_ge, m1_ne, m1_en, m1_ad, nle_F, nle_T, nlt_F, nlt_T, neq_F, neq_T, or_self, or_false, false_or, true_or, or_true, and_self, and_false, false_and, true_and, and_true, not_true_eq_false, not_false_eq_true, ↓reduceIte, if_true, if_false, Nat.reduceAdd, ite_self, Bool.false_eq_true, ↓U_Model_isClear, ↓U_Model_isSecret, ↓U_Model_numberOf, nI_sb, e97, e110, n1, n5, m1', m5, l1, l3, u2', u3, n10e, pM5]
            · exact (ntk0 hk (by omega)).elim
        · skip
          obtain ⟨N1', n1, n2, _⟩ := NM (J := J') (a := 2) (x := a0) b2 (by omega) ha
          have n5 : N1' 112 5 = nI s := n2.2.2.1
          obtain ⟨L1', l1, l2, _⟩ := AM2 (J := J') (a := 14) (b := (v - 13)) (v := nI 14) (w := nI (v - 13)) (PM2 n2 w1) (by omega) rfl rfl
          obtain ⟨L2', l3, l4, _⟩ := AM (J := J') (b := (t s - 110)) (v := nI (t s - 110)) l2 (by omega) rfl
          obtain ⟨I5, I5', v', u1, u2, u3⟩ := WNT (J := J) (J' := J') ht (x := 59) (ch := 59) rfl (by omega) (by omega) e2 l4
          have u2' : ∀ {α : Type} {F : Int32 → MI → MJ → Option α}, oc (f_Model_want (nI 59) L2' J') F = F v' I5' J' := fun {α F} => u2
          rw [u1]
          have e97 : v + 97 - 97 = v := by omega
          have e110 : v + 97 - 110 = v - 13 := by omega
          rcases u3 with ⟨u3, x, u4, u5, u6⟩ | ⟨u3, q2, u4, u5, u6, u7⟩
          · refine Or.inl ⟨x, I5', ?_, ?_, u5, u6⟩
            · skip
              repeat (first
                | exact zk_some (by assumption)
                | (with_reducible refine z_x (by assumption) (by assumption) (by decide) ?_) ; (intro _ _ _)
                | (with_reducible refine z_em (by assumption) ?_) ; (intro _ _ _)
                | (with_reducible refine z_ep (by assumption) ?_) ; (intro _ _ _)
                | (with_reducible refine z_b (by assumption) ?_) ; (intro _ _ _)
                | (with_reducible refine z_wS (by assumption) ?_) ; (intro _ _ _)
                | (with_reducible refine z_wC (by assumption) ?_) ; (intro _ _ _)
                | (with_reducible refine z_p (by assumption) ?_) ; (intro _ _ _)
                | (with_reducible refine z_r (by assumption) ?_) ; (intro _ _ _)
                | (with_reducible refine z_en (by assumption) ?_) ; (intro _ _ _)
                | (with_reducible refine z_lv (by assumption) ?_) ; (intro _ _ _)
                | (with_reducible refine z_am (by assumption) ?_) ; (intro _ _ _)
                | (with_reducible refine z_ar (by assumption) (by assumption) ?_) ; (intro _ _ _)
                | (with_reducible refine z_va (by assumption) (by assumption) ?_) ; (intro _ _ _)
                | (with_reducible refine z_lk (by assumption) (by assumption) ?_) ; (intro _ _ _)
                | (with_reducible refine z_dc (by assumption) (by assumption) ?_) ; (intro _ _ _)
                | (with_reducible refine z_r0 (by assumption) (by omega) (by assumption) ?_) ; (intro _ _ _)
                | (with_reducible refine z_r9 (by assumption) (by omega) (by assumption) ?_) ; (intro _ _ _)
                | (with_reducible refine zk_7 (by assumption) ?_) ; (intro _ _)
                | (with_reducible refine zk_9 (by assumption) ?_) ; (intro _ _)
                | (with_reducible refine zk_8 (by assumption) ?_) ; (intro _ _)
                | (with_reducible refine zk_pl ?_)
                | (with_reducible refine zk_ite ?_ ?_) <;> (intro _)
                | (with_reducible refine z_oc ?_ ?_)
                | (intro _ _ _))
            · simp (disch := omega) only [a11, a01, ↓li_m, ↓oc_some, ↓oc_ite, ↓oc_oc, ↓oc_pl, ↓oc_none, ↓oc_oe, ↓pl_eq, ↓oe_i, ↓oe_j, va_up_self, va_up_ne, va_up_up, upd_s, upd_n, updL_s, updL_n, nI_add, nI_1, nI_ltI, nI_leI, nI_eq, nI_clamp, li_n, m1_lt, m1_le, m1_gt, m1_ge, m1_ne, m1_en, m1_ad, nle_F, nle_T, nlt_F, nlt_T, neq_F, neq_T, or_self, or_false, false_or, true_or, or_true, and_self, and_false, false_and, true_and, and_true, not_true_eq_false, not_false_eq_true, ↓reduceIte, if_true, if_false, Nat.reduceAdd, ite_self, Bool.false_eq_true, ↓U_Model_isClear, ↓U_Model_isSecret, ↓U_Model_numberOf, nI_sb, e97, e110, n1, n5, l1, l3, u2', u3, n10e, pM5]
          · skip
            obtain ⟨B1, o1, o2⟩ := BC (J := J) (a := 2) (x := a0) u5 (by omega) ha
            obtain ⟨I6, g1, g2'⟩ := EM3' (J := J) (a := nI 14) (o := 14) (u := nI v) (v := nI (t s - 110)) (w := nI 0) o2 rfl (by decide) (by decide) (by omega) (b255n (by omega)) (b255n (by omega))
            have e13 : t s - 97 - 13 = t s - 110 := by omega
            refine Or.inr ⟨(), I6, I5', q2, m + 3, _, _, f8, f9, g2, g3, g4, g5, c, _, _, ?_, ?_, g2', u6, TB_mono hT (by omega), by omega, by omega, fun hk => ?_⟩
            · simp (disch := omega) only [a11, a01, ↓li_m, ↓oc_some, ↓oc_ite, ↓oc_oc, ↓oc_pl, ↓oc_none, ↓oc_oe, ↓pl_eq, ↓oe_i, ↓oe_j, va_up_self, va_up_ne, va_up_up, upd_s, upd_n, updL_s, updL_n, nI_add, nI_1, nI_ltI, nI_leI, nI_eq, nI_clamp, li_n, m1_lt, m1_le, m1_gt, m1_ge, m1_ne, m1_en, m1_ad, nle_F, nle_T, nlt_F, nlt_T, neq_F, neq_T, or_self, or_false, false_or, true_or, or_true, and_self, and_false, false_and, true_and, and_true, not_true_eq_false, not_false_eq_true, ↓reduceIte, if_true, if_false, Nat.reduceAdd, ite_self, Bool.false_eq_true, ↓U_Translator_wantSecret, ↓U_Translator_wantClear, nI_sb, o1, e13, g1]
            · simp (disch := omega) only [a11, a01, ↓li_m, ↓oc_some, ↓oc_ite, ↓oc_oc, ↓oc_pl, ↓oc_none, ↓oc_oe, ↓pl_eq, ↓oe_i, ↓oe_j, va_up_self, va_up_ne, va_up_up, upd_s, upd_n, updL_s, updL_n, nI_add, nI_1, nI_ltI, nI_leI, nI_eq, nI_clamp, li_n, m1_lt, m1_le, m1_gt, m1_ge, m1_ne, m1_en, m1_ad, nle_F, nle_T, nlt_F, nlt_T, neq_F, neq_T, or_self, or_false, false_or, true_or, or_true, and_self, and_false, false_and, true_and, and_true, not_true_eq_false, not_false_eq_true, ↓reduceIte, if_true, if_false, Nat.reduceAdd, ite_self, Bool.false_eq_true, ↓U_Model_isClear, ↓U_Model_isSecret, ↓U_Model_numberOf, nI_sb, e97, e110, n1, n5, l1, l3, u2', u3, n10e, pM5]
            · exact (ntk0 hk (by omega)).elim
  · obtain ⟨R1', r3, r4, r5⟩ := RM (J := J') ht b2 a3
    rw [if_neg w, if_neg (show ¬ ¬ nI 0 = 0 from fun x => x rfl), e1]
    refine Or.inl ⟨nI s, R1', ?_, ?_, r4, r5⟩
    · skip
      repeat (first
        | exact zk_some (by assumption)
        | (with_reducible refine z_x (by assumption) (by assumption) (by decide) ?_) ; (intro _ _ _)
        | (with_reducible refine z_em (by assumption) ?_) ; (intro _ _ _)
        | (with_reducible refine z_ep (by assumption) ?_) ; (intro _ _ _)
        | (with_reducible refine z_b (by assumption) ?_) ; (intro _ _ _)
        | (with_reducible refine z_wS (by assumption) ?_) ; (intro _ _ _)
        | (with_reducible refine z_wC (by assumption) ?_) ; (intro _ _ _)
        | (with_reducible refine z_p (by assumption) ?_) ; (intro _ _ _)
        | (with_reducible refine z_r (by assumption) ?_) ; (intro _ _ _)
        | (with_reducible refine z_en (by assumption) ?_) ; (intro _ _ _)
        | (with_reducible refine z_lv (by assumption) ?_) ; (intro _ _ _)
        | (with_reducible refine z_am (by assumption) ?_) ; (intro _ _ _)
        | (with_reducible refine z_ar (by assumption) (by assumption) ?_) ; (intro _ _ _)
        | (with_reducible refine z_va (by assumption) (by assumption) ?_) ; (intro _ _ _)
        | (with_reducible refine z_lk (by assumption) (by assumption) ?_) ; (intro _ _ _)
        | (with_reducible refine z_dc (by assumption) (by assumption) ?_) ; (intro _ _ _)
        | (with_reducible refine z_r0 (by assumption) (by omega) (by assumption) ?_) ; (intro _ _ _)
        | (with_reducible refine z_r9 (by assumption) (by omega) (by assumption) ?_) ; (intro _ _ _)
        | (with_reducible refine zk_7 (by assumption) ?_) ; (intro _ _)
        | (with_reducible refine zk_9 (by assumption) ?_) ; (intro _ _)
        | (with_reducible refine zk_8 (by assumption) ?_) ; (intro _ _)
        | (with_reducible refine zk_pl ?_)
        | (with_reducible refine zk_ite ?_ ?_) <;> (intro _)
        | (with_reducible refine z_oc ?_ ?_)
        | (intro _ _ _))
    · simp (disch := omega) only [a11, a01, ↓li_m, ↓oc_some, ↓oc_ite, ↓oc_oc, ↓oc_pl, ↓oc_none, ↓oc_oe, ↓pl_eq, ↓oe_i, ↓oe_j, va_up_self, va_up_ne, va_up_up, upd_s, upd_n, updL_s, updL_n, nI_add, nI_1, nI_ltI, nI_leI, nI_eq, nI_clamp, li_n, m1_lt, m1_le, m1_gt, m1_ge, m1_ne, m1_en, m1_ad, nle_F, nle_T, nlt_F, nlt_T, neq_F, neq_T, or_self, or_false, false_or, true_or, or_true, and_self, and_false, false_and, true_and, and_true, not_true_eq_false, not_false_eq_true, ↓reduceIte, if_true, if_false, Nat.reduceAdd, ite_self, Bool.false_eq_true, ↓r3]
theorem BIT {q0 v a0 : Nat} (ht : tpOK n t) (hv : v < 26) (ha : a0 ≤ 400) (hA : CA n t P I q m D U k p f8 f9 cc) (hM : MA n t P I' q m D U k p g2 g3 g4 g5 c cm) (hT : TB f8 f9 g2 g3 g5 c q) (hC : k = 0 → CODE P cc cm m 0 f8 g3 g4 c) (hq : q0 + 2 ≤ q) (hm : m ≤ 5 * q0) : OS n t P D U J J' q0 m k (cBit (nI v) (nI a0) I J) (f_Model_readBit (nI (v + 97)) (nI a0) I' J') := by
  have hn := ht.1
  have hqn : q ≤ n := hA.2.2.2.2.2.2.2.2.2.2.2.2.1
  unfold cBit f_Model_readBit
  by_cases c1 : v < 13
  · skip
    obtain ⟨N1', n1, n2, _⟩ := NM (J := J') (a := 2) (x := a0) hM (by omega) ha
    obtain ⟨L1', l1, l2, _⟩ := AM2 (J := J') (a := 27) (b := v) (v := nI 27) (w := nI v) n2 (by omega) rfl rfl
    obtain ⟨I5, I5', v', u1, u2, u3⟩ := WNT (J := J) (J' := J') ht (x := 59) (ch := 59) rfl (by omega) (by omega) hA l2
    have u2' : ∀ {α : Type} {F : Int32 → MI → MJ → Option α}, oc (f_Model_want (nI 59) L1' J') F = F v' I5' J' := fun {α F} => u2
    rw [u1]
    have e97 : v + 97 - 97 = v := by omega
    have e110 : v + 97 - 110 = v - 13 := by omega
    rcases u3 with ⟨u3, x, u4, u5, u6⟩ | ⟨u3, q2, u4, u5, u6, u7⟩
    · refine Or.inl ⟨x, I5', ?_, ?_, u5, u6⟩
      · skip
        repeat (first
          | exact zk_some (by assumption)
          | (with_reducible refine z_x (by assumption) (by assumption) (by decide) ?_) ; (intro _ _ _)
          | (with_reducible refine z_em (by assumption) ?_) ; (intro _ _ _)
          | (with_reducible refine z_ep (by assumption) ?_) ; (intro _ _ _)
          | (with_reducible refine z_b (by assumption) ?_) ; (intro _ _ _)
          | (with_reducible refine z_wS (by assumption) ?_) ; (intro _ _ _)
          | (with_reducible refine z_wC (by assumption) ?_) ; (intro _ _ _)
          | (with_reducible refine z_p (by assumption) ?_) ; (intro _ _ _)
          | (with_reducible refine z_r (by assumption) ?_) ; (intro _ _ _)
          | (with_reducible refine z_en (by assumption) ?_) ; (intro _ _ _)
          | (with_reducible refine z_lv (by assumption) ?_) ; (intro _ _ _)
          | (with_reducible refine z_am (by assumption) ?_) ; (intro _ _ _)
          | (with_reducible refine z_ar (by assumption) (by assumption) ?_) ; (intro _ _ _)
          | (with_reducible refine z_va (by assumption) (by assumption) ?_) ; (intro _ _ _)
          | (with_reducible refine z_lk (by assumption) (by assumption) ?_) ; (intro _ _ _)
          | (with_reducible refine z_dc (by assumption) (by assumption) ?_) ; (intro _ _ _)
          | (with_reducible refine z_r0 (by assumption) (by omega) (by assumption) ?_) ; (intro _ _ _)
          | (with_reducible refine z_r9 (by assumption) (by omega) (by assumption) ?_) ; (intro _ _ _)
          | (with_reducible refine zk_7 (by assumption) ?_) ; (intro _ _)
          | (with_reducible refine zk_9 (by assumption) ?_) ; (intro _ _)
          | (with_reducible refine zk_8 (by assumption) ?_) ; (intro _ _)
          | (with_reducible refine zk_pl ?_)
          | (with_reducible refine zk_ite ?_ ?_) <;> (intro _)
          | (with_reducible refine z_oc ?_ ?_)
          | (intro _ _ _))
      · simp (disch := omega) only [a11, a01, ↓li_m, ↓oc_some, ↓oc_ite, ↓oc_oc, ↓oc_pl, ↓oc_none, ↓oc_oe, ↓pl_eq, ↓oe_i, ↓oe_j, va_up_self, va_up_ne, va_up_up, upd_s, upd_n, updL_s, updL_n, nI_add, nI_1, nI_ltI, nI_leI, nI_eq, nI_clamp, li_n, m1_lt, m1_le, m1_gt, m1_ge, m1_ne, m1_en, m1_ad, nle_F, nle_T, nlt_F, nlt_T, neq_F, neq_T, or_self, or_false, false_or, true_or, or_true, and_self, and_false, false_and, true_and, and_true, not_true_eq_false, not_false_eq_true, ↓reduceIte, if_true, if_false, Nat.reduceAdd, ite_self, Bool.false_eq_true, ↓U_Model_isClear, ↓U_Model_numberOf, nI_sb, e97, e110, n1, l1, u2', u3, n10e]
    · skip
      obtain ⟨B1, o1, o2⟩ := BC (J := J) (a := 2) (x := a0) u5 (by omega) ha
      obtain ⟨I6, g1, g2'⟩ := EM2' (J := J) (a := nI 27) (o := 27) (u := nI v - nI 13) (v := nI 0) (w := nI 0) o2 rfl (by decide) (by decide) (by omega) (b255 _)
      refine Or.inr ⟨(), I6, I5', q2, m + 2, _, _, f8, f9, g2, g3, g4, g5, c, _, _, ?_, ?_, g2', u6, TB_mono hT (by omega), by omega, by omega, fun hk => ?_⟩
      · simp (disch := omega) only [a11, a01, ↓li_m, ↓oc_some, ↓oc_ite, ↓oc_oc, ↓oc_pl, ↓oc_none, ↓oc_oe, ↓pl_eq, ↓oe_i, ↓oe_j, va_up_self, va_up_ne, va_up_up, upd_s, upd_n, updL_s, updL_n, nI_add, nI_1, nI_ltI, nI_leI, nI_eq, nI_clamp, li_n, m1_lt, m1_le, m1_gt, m1_ge, m1_ne, m1_en, m1_ad, nle_F, nle_T, nlt_F, nlt_T, neq_F, neq_T, or_self, or_false, false_or, true_or, or_true, and_self, and_false, false_and, true_and, and_true, not_true_eq_false, not_false_eq_true, ↓reduceIte, if_true, if_false, Nat.reduceAdd, ite_self, Bool.false_eq_true, ↓U_Translator_wantSecret, nI_sb, o1, g1]
      · simp (disch := omega) only [a11, a01, ↓li_m, ↓oc_some, ↓oc_ite, ↓oc_oc, ↓oc_pl, ↓oc_none, ↓oc_oe, ↓pl_eq, ↓oe_i, ↓oe_j, va_up_self, va_up_ne, va_up_up, upd_s, upd_n, updL_s, updL_n, nI_add, nI_1, nI_ltI, nI_leI, nI_eq, nI_clamp, li_n, m1_lt, m1_le, m1_gt, m1_ge, m1_ne, m1_en, m1_ad, nle_F, nle_T, nlt_F, nlt_T, neq_F, neq_T, or_self, or_false, false_or, true_or, or_true, and_self, and_false, false_and, true_and, and_true, not_true_eq_false, not_false_eq_true, ↓reduceIte, if_true, if_false, Nat.reduceAdd, ite_self, Bool.false_eq_true, ↓U_Model_isClear, ↓U_Model_numberOf, nI_sb, e97, e110, n1, l1, u2', u3, n10e]
      · exact (ntk0 hk (by omega)).elim
  · skip
    obtain ⟨L1', l1, l2, _⟩ := AM2 (J := J') (a := 27) (b := (v - 13)) (v := nI 27) (w := nI (v - 13)) hM (by omega) rfl rfl
    obtain ⟨I5, I5', v', u1, u2, u3⟩ := WNT (J := J) (J' := J') ht (x := 59) (ch := 59) rfl (by omega) (by omega) hA l2
    have u2' : ∀ {α : Type} {F : Int32 → MI → MJ → Option α}, oc (f_Model_want (nI 59) L1' J') F = F v' I5' J' := fun {α F} => u2
    rw [u1]
    have e97 : v + 97 - 97 = v := by omega
    have e110 : v + 97 - 110 = v - 13 := by omega
    rcases u3 with ⟨u3, x, u4, u5, u6⟩ | ⟨u3, q2, u4, u5, u6, u7⟩
    · refine Or.inl ⟨x, I5', ?_, ?_, u5, u6⟩
      · skip
        repeat (first
          | exact zk_some (by assumption)
          | (with_reducible refine z_x (by assumption) (by assumption) (by decide) ?_) ; (intro _ _ _)
          | (with_reducible refine z_em (by assumption) ?_) ; (intro _ _ _)
          | (with_reducible refine z_ep (by assumption) ?_) ; (intro _ _ _)
          | (with_reducible refine z_b (by assumption) ?_) ; (intro _ _ _)
          | (with_reducible refine z_wS (by assumption) ?_) ; (intro _ _ _)
          | (with_reducible refine z_wC (by assumption) ?_) ; (intro _ _ _)
          | (with_reducible refine z_p (by assumption) ?_) ; (intro _ _ _)
          | (with_reducible refine z_r (by assumption) ?_) ; (intro _ _ _)
          | (with_reducible refine z_en (by assumption) ?_) ; (intro _ _ _)
          | (with_reducible refine z_lv (by assumption) ?_) ; (intro _ _ _)
          | (with_reducible refine z_am (by assumption) ?_) ; (intro _ _ _)
          | (with_reducible refine z_ar (by assumption) (by assumption) ?_) ; (intro _ _ _)
          | (with_reducible refine z_va (by assumption) (by assumption) ?_) ; (intro _ _ _)
          | (with_reducible refine z_lk (by assumption) (by assumption) ?_) ; (intro _ _ _)
          | (with_reducible refine z_dc (by assumption) (by assumption) ?_) ; (intro _ _ _)
          | (with_reducible refine z_r0 (by assumption) (by omega) (by assumption) ?_) ; (intro _ _ _)
          | (with_reducible refine z_r9 (by assumption) (by omega) (by assumption) ?_) ; (intro _ _ _)
          | (with_reducible refine zk_7 (by assumption) ?_) ; (intro _ _)
          | (with_reducible refine zk_9 (by assumption) ?_) ; (intro _ _)
          | (with_reducible refine zk_8 (by assumption) ?_) ; (intro _ _)
          | (with_reducible refine zk_pl ?_)
          | (with_reducible refine zk_ite ?_ ?_) <;> (intro _)
          | (with_reducible refine z_oc ?_ ?_)
          | (intro _ _ _))
      · simp (disch := omega) only [a11, a01, ↓li_m, ↓oc_some, ↓oc_ite, ↓oc_oc, ↓oc_pl, ↓oc_none, ↓oc_oe, ↓pl_eq, ↓oe_i, ↓oe_j, va_up_self, va_up_ne, va_up_up, upd_s, upd_n, updL_s, updL_n, nI_add, nI_1, nI_ltI, nI_leI, nI_eq, nI_clamp, li_n, m1_lt, m1_le, m1_gt, m1_ge, m1_ne, m1_en, m1_ad, nle_F, nle_T, nlt_F, nlt_T, neq_F, neq_T, or_self, or_false, false_or, true_or, or_true, and_self, and_false, false_and, true_and, and_true, not_true_eq_false, not_false_eq_true, ↓reduceIte, if_true, if_false, Nat.reduceAdd, ite_self, Bool.false_eq_true, ↓U_Model_isClear, ↓U_Model_numberOf, nI_sb, e97, e110, l1, u2', u3, n10e]
    · skip
      obtain ⟨I6, g1, g2'⟩ := EM2' (J := J) (a := nI 27) (o := 27) (u := nI (v - 13)) (v := nI 0) (w := nI 0) u5 rfl (by decide) (by decide) (by omega) (b255n (by omega))
      refine Or.inr ⟨(), I6, I5', q2, m + 2, _, _, f8, f9, g2, g3, g4, g5, c, _, _, ?_, ?_, g2', u6, TB_mono hT (by omega), by omega, by omega, fun hk => ?_⟩
      · simp (disch := omega) only [a11, a01, ↓li_m, ↓oc_some, ↓oc_ite, ↓oc_oc, ↓oc_pl, ↓oc_none, ↓oc_oe, ↓pl_eq, ↓oe_i, ↓oe_j, va_up_self, va_up_ne, va_up_up, upd_s, upd_n, updL_s, updL_n, nI_add, nI_1, nI_ltI, nI_leI, nI_eq, nI_clamp, li_n, m1_lt, m1_le, m1_gt, m1_ge, m1_ne, m1_en, m1_ad, nle_F, nle_T, nlt_F, nlt_T, neq_F, neq_T, or_self, or_false, false_or, true_or, or_true, and_self, and_false, false_and, true_and, and_true, not_true_eq_false, not_false_eq_true, ↓reduceIte, if_true, if_false, Nat.reduceAdd, ite_self, Bool.false_eq_true, ↓U_Translator_wantSecret, nI_sb, g1]
      · simp (disch := omega) only [a11, a01, ↓li_m, ↓oc_some, ↓oc_ite, ↓oc_oc, ↓oc_pl, ↓oc_none, ↓oc_oe, ↓pl_eq, ↓oe_i, ↓oe_j, va_up_self, va_up_ne, va_up_up, upd_s, upd_n, updL_s, updL_n, nI_add, nI_1, nI_ltI, nI_leI, nI_eq, nI_clamp, li_n, m1_lt, m1_le, m1_gt, m1_ge, m1_ne, m1_en, m1_ad, nle_F, nle_T, nlt_F, nlt_T, neq_F, neq_T, or_self, or_false, false_or, true_or, or_true, and_self, and_false, false_and, true_and, and_true, not_true_eq_false, not_false_eq_true, ↓reduceIte, if_true, if_false, Nat.reduceAdd, ite_self, Bool.false_eq_true, ↓U_Model_isClear, ↓U_Model_numberOf, nI_sb, e97, e110, l1, u2', u3, n10e]
      · exact ⟨hk, CODE_2 (h := 0) (o := 27) (hC hk) (by omega) (by omega) (fun x => by omega) (by rw [show nd 27 = 0 from rfl]; omega) (by omega)⟩
end CM
