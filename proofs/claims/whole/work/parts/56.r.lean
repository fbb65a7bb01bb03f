/-! compile: rows by rows -/
def cRow2 (p2 p3 v1 v2 : Int32) (I5 : MI) (J5 : MJ) : M2 Unit := oc (f_Translator_array  I5 J5) (fun v13 I13 J13 => oc (f_Translator_expect 59 I13 J13) (fun v14 I14 J14 => oc ((if 4 ≤ p2 then (some ((), I14, J14)) else (if 4 ≤ v1 then (oc (f_Translator_blame 3 p3 I14 J14) (fun v19 I19 J19 => some ((), I19, J19))) else (if v13 < 4 then (some ((), I14, J14)) else (oc (f_Translator_blame 3 p3 I14 J14) (fun v21 I21 J21 => some ((), I21, J21)))))) : M2 (Unit)) (fun v16 I16 J16 => pl ((if ¬ v2 = 43 then (if ¬ v2 = 45 then (25) else (24)) else (23)) : Int32) (fun v24 => oc (f_Translator_emit v24 p2 v1 v13 I16 J16) (fun v27 I27 J27 => some ((), I27, J27))))))
def mRow2 (p2 p3 v3 v5 : Int32) (I5 : MI) (J5 : MJ) : M2 Int32 := pl (va_up I5 112 (upd (I5 112) 5 ((I5 112 5) + 1))) (fun I7 => oc (f_Model_isRow  I7 J5) (fun v8 I8 J8 => if ¬ v8 = 0 then (oc (f_Model_see  I8 J8) (fun v10 I10 J10 => pl (va_up I10 112 (upd (I10 112) 5 ((I10 112 5) + 1))) (fun I11 => oc (f_Model_isSecretRow p2 I11 J10) (fun v12 I12 J12 => oc ((if ¬ v12 = 0 then (some ((), I12, J12)) else (oc (f_Model_isSecretRow v3 I12 J12) (fun v16 I16 J16 => if ¬ v16 = 0 then (oc (f_Model_note 3 p3 I16 J16) (fun v18 I18 J18 => some ((), I18, J18))) else (oc (f_Model_isSecretRow v10 I16 J16) (fun v19 I19 J19 => if v19 = 0 then (some ((), I19, J19)) else (oc (f_Model_note 3 p3 I19 J19) (fun v21 I21 J21 => some ((), I21, J21)))))))) : M2 (Unit)) (fun v14 I14 J14 => pl ((if ¬ v5 = 43 then (if ¬ v5 = 45 then (25) else (24)) else (23)) : Int32) (fun v24 => oc (f_Model_lay_IIV v24 (p2 - 65) I14 J14) (fun v27 I27 J27 => oc (f_Model_lay_IV (v3 - 65) I27 J27) (fun v28 I28 J28 => oc (f_Model_lay_IV (v10 - 65) I28 J28) (fun v29 I29 J29 => oc (f_Model_want 59 I29 J29) (fun v30 I30 J30 => if v30 = 0 ∨ v30 = 1 then some (v30, I30, J30) else none)))))))))) else (oc (f_Model_refuse  I8 J8) (fun v32 I32 J32 => if v32 = 0 ∨ v32 = 1 then some (v32, I32, J32) else none))))
theorem aba_eq {p2 p3 : Int32} {I : MI} {J : MJ} : f_Translator_arrayByArray p2 p3 I J = oc (f_Translator_array  I J) (fun v1 I1 J1 => oc (f_Translator_look  I1 J1) (fun v2 I2 J2 => oc ((if v2 = 43 then (oc (f_Translator_pass  I2 J2) (fun v7 I7 J7 => some ((), I7, J7))) else (if v2 = 45 then (oc (f_Translator_pass  I2 J2) (fun v9 I9 J9 => some ((), I9, J9))) else (if ¬ v2 = 42 then (oc (f_Translator_refuse  I2 J2) (fun v11 I11 J11 => some ((), I11, J11))) else (oc (f_Translator_pass  I2 J2) (fun v12 I12 J12 => some ((), I12, J12)))))) : M2 (Unit)) (fun v5 I5 J5 => cRow2 p2 p3 v1 v2 I5 J5))) := rfl
theorem rows_eq {p2 p3 : Int32} {I : MI} {J : MJ} : f_Model_readRows p2 p3 I J = oc (f_Model_isRow  I J) (fun v1 I1 J1 => if ¬ v1 = 0 then (oc (f_Model_see  I1 J1) (fun v3 I3 J3 => pl (va_up I3 112 (upd (I3 112) 5 ((I3 112 5) + 1))) (fun I4 => oc (f_Model_see  I4 J3) (fun v5 I5 J5 => if v5 = 43 then mRow2 p2 p3 v3 v5 I5 J5 else (if v5 = 45 then mRow2 p2 p3 v3 v5 I5 J5 else (if v5 = 42 then mRow2 p2 p3 v3 v5 I5 J5 else (oc (f_Model_refuse  I5 J5) (fun v90 I90 J90 => if v90 = 0 ∨ v90 = 1 then some (v90, I90, J90) else none)))))))) else (oc (f_Model_refuse  I1 J1) (fun v92 I92 J92 => if v92 = 0 ∨ v92 = 1 then some (v92, I92, J92) else none))) := rfl
section CM
variable {n P m D U k p c q : Nat} {t : Nat → Nat} {I I' : MI} {J J' : MJ} {f8 f9 g2 g3 g4 g5 : Nat → Int32} {cc cm : Nat → Nat}
theorem EM4' {o b d e : Nat} {a u v w : Int32} (h : CA n t P I q m D U k p f8 f9 cc) (ha : a = nI o) (ho : o ≤ 29) (hl : opl o = 4) (hm : m + 3 < 2000) (hu : u &&& 255 = nI b) (hv : v &&& 255 = nI d) (hw : w &&& 255 = nI e) : ∃ I1, (∀ {α : Type} {F : Unit → MI → MJ → Option α}, oc (f_Translator_emit a u v w I J) F = F () I1 J) ∧ CA n t P I1 q (m + 4) D U k p f8 f9 (apn (apn (apn (apn cc m o) (m + 1) b) (m + 2) d) (m + 3) e) := by
  subst ha
  exact EM4 h ho hl hm hu hv hw
theorem CODE_4 {o a b d : Nat} (H : CODE P cc cm m 0 f8 g3 g4 c) (ho : o = 23 ∨ o = 24 ∨ o = 25) (ha : a < 8) (hb : b < 8) (hd : d < 8) : CODE P (apn (apn (apn (apn cc m o) (m + 1) a) (m + 2) b) (m + 3) d) (apn (apn (apn (apn cm m o) (m + 1) a) (m + 2) b) (m + 3) d) (m + 4) 0 f8 g3 g4 c := by
  have ol : opl o = 4 := by rcases ho with rfl | rfl | rfl <;> rfl
  have on : nd o = 0 := by rcases ho with rfl | rfl | rfl <;> rfl
  have og : gv o = 0 := by rcases ho with rfl | rfl | rfl <;> rfl
  have r0 : ∀ f : Nat → Nat, apn (apn (apn (apn f m o) (m + 1) a) (m + 2) b) (m + 3) d m = o := fun f => by rw [apn_n _ _ (by omega), apn_n _ _ (by omega), apn_n _ _ (by omega), apn_s]
  have r1 : ∀ f : Nat → Nat, apn (apn (apn (apn f m o) (m + 1) a) (m + 2) b) (m + 3) d (m + 1) = a := fun f => by rw [apn_n _ _ (by omega), apn_n _ _ (by omega), apn_s]
  have r2 : ∀ f : Nat → Nat, apn (apn (apn (apn f m o) (m + 1) a) (m + 2) b) (m + 3) d (m + 2) = b := fun f => by rw [apn_n _ _ (by omega), apn_s]
  have r3 : ∀ f : Nat → Nat, apn (apn (apn (apn f m o) (m + 1) a) (m + 2) b) (m + 3) d (m + 3) = d := fun f => apn_s _ _ _
  have X := CODE_ext (o := o) (cc' := apn (apn (apn (apn cc m o) (m + 1) a) (m + 2) b) (m + 3) d) (cm' := apn (apn (apn (apn cm m o) (m + 1) a) (m + 2) b) (m + 3) d) H (fun j hj => by rw [apn_n _ _ (by omega), apn_n _ _ (by omega), apn_n _ _ (by omega), apn_n _ _ (by omega)]) (fun j hj => by rw [apn_n _ _ (by omega), apn_n _ _ (by omega), apn_n _ _ (by omega), apn_n _ _ (by omega)]) (fun j j1 j2 => by
    rw [ol] at j2
    by_cases e : j = m
    · rw [e, r0, r0]
      exact ⟨rfl, by omega⟩
    · by_cases e2 : j = m + 1
      · rw [e2, r1, r1]
        exact ⟨rfl, by omega⟩
      · by_cases e3 : j = m + 2
        · rw [e3, r2, r2]
          exact ⟨rfl, by omega⟩
        · rw [show j = m + 3 by omega, r3, r3]
          exact ⟨rfl, by omega⟩) (r0 cc) (by omega) (by omega) (by omega) (by
    unfold opok opokb
    rw [r0, r1, r2, r3]
    rcases ho with rfl | rfl | rfl
    · simp (disch := omega) only [a11, a01, ↓li_m, ↓oc_some, ↓oc_ite, ↓oc_oc, ↓oc_pl, ↓oc_none, ↓oc_oe, ↓pl_eq, ↓oe_i, ↓oe_j, va_up_self, va_up_ne, va_up_up, upd_s, upd_n, updL_s, updL_n, nI_add, nI_1, nI_ltI, nI_leI, nI_eq, nI_clamp, li_n, m1_lt, m1_le, m1_gt, m1_ge, m1_ne, m1_en, m1_ad, nle_F, nle_T, nlt_F, nlt_T, neq_F, neq_T, or_self, or_false, false_or, true_or, or_true, and_self, and_false, false_and, true_and, and_true, not_true_eq_false, not_false_eq_true, ↓reduceIte, if_true, if_false, Nat.reduceAdd, ite_self, Bool.false_eq_true, decide_true]
    · simp (disch := omega) only [a11, a01, ↓li_m, ↓oc_some, ↓oc_ite, ↓oc_oc, ↓oc_pl, ↓oc_none, ↓oc_oe, ↓pl_eq, ↓oe_i, ↓oe_j, va_up_self, va_up_ne, va_up_up, upd_s, upd_n, updL_s, updL_n, nI_add, nI_1, nI_ltI, nI_leI, nI_eq, nI_clamp, li_n, m1_lt, m1_le, m1_gt, m1_ge, m1_ne, m1_en, m1_ad, nle_F, nle_T, nlt_F, nlt_T, neq_F, neq_T, or_self, or_false, false_or, true_or, or_true, and_self, and_false, false_and, true_and, and_true, not_true_eq_false, not_false_eq_true, ↓reduceIte, if_true, if_false, Nat.reduceAdd, ite_self, Bool.false_eq_true, decide_true]
    · simp (disch := omega) only [a11, a01, ↓li_m, ↓oc_some, ↓oc_ite, ↓oc_oc, ↓oc_pl, ↓oc_none, ↓oc_oe, ↓pl_eq, ↓oe_i, ↓oe_j, va_up_self, va_up_ne, va_up_up, upd_s, upd_n, updL_s, updL_n, nI_add, nI_1, nI_ltI, nI_leI, nI_eq, nI_clamp, li_n, m1_lt, m1_le, m1_gt, m1_ge, m1_ne, m1_en, m1_ad, nle_F, nle_T, nlt_F, nlt_T, neq_F, neq_T, or_self, or_false, false_or, true_or, or_true, and_self, and_false, false_and, true_and, and_true, not_true_eq_false, not_false_eq_true, ↓reduceIte, if_true, if_false, Nat.reduceAdd, ite_self, Bool.false_eq_true, decide_true]) (by omega) (by omega) (fun x => by omega) (fun x => by omega)
  rw [ol, on, og] at X
  exact X

theorem ROW2 {q0 a a0 x o l : Nat} (ht : tpOK n t) (ha : a < 8) (ha0 : a0 ≤ 400) (hl8 : l < 8) (ho : o = 23 ∨ o = 24 ∨ o = 25) (hxo : (if ¬ nI x = 43 then (if ¬ nI x = 45 then (25 : Int32) else (24)) else (23)) = nI o) (hq : q < n) (hA : CA n t P I (q + 1) m D U k p f8 f9 cc) (hM : MA n t P I' q m D U k p g2 g3 g4 g5 c cm) (hT : TB f8 f9 g2 g3 g5 c q) (hC : k = 0 → CODE P cc cm m 0 f8 g3 g4 c) (hq0 : q0 + 3 ≤ q) (hm : m ≤ 5 * q0) : OS n t P D U J J' q0 m k (cRow2 (nI a) (nI a0) (nI l) (nI x) I J) (mRow2 (nI (a + 65)) (nI a0) (nI (l + 65)) (nI x) I' J') := by
  have hn := ht.1
  obtain ⟨I5', h1, h2, _, _⟩ := PM hM hq
  obtain ⟨I6', z1, z2, _⟩ := ARRM (J := J') ht h2
  have vD := ARRC (J := J) ht hA
  have hl2 := spq_lk n t (q + 1)
  have hle2 := spq_le (t := t) (show q + 1 ≤ n by omega)
  generalize spq n t (q + 1) = s3 at vD z1 z2 hl2 hle2
  have z0 := fun {α : Type} {F : Int32 → MI → MJ → Option α} => SM0 (J := J') ht z2 hl2 (F := F)
  have eA : a + 65 - 65 = a := by omega
  have eL : l + 65 - 65 = l := by omega
  have ol : opl o = 4 := by rcases ho with rfl | rfl | rfl <;> rfl
  unfold cRow2 mRow2
  rw [h1, z1, hxo]
  rcases vD with ⟨y, I6, y1, y2⟩ | ⟨y, I6, y1, y2⟩
  · have y3 := y.1
    have y4 := y.2
    rw [cM_lt y3] at z0
    obtain ⟨I7', i1, i2, _, _⟩ := PM z2 y3
    rw [if_pos y, if_pos (show ¬ nI 1 = 0 by decide), z0, i1, y1]
    by_cases c1 : 4 ≤ a
    · skip
      obtain ⟨L1', l1, l2, _⟩ := AM2 (J := J') (a := o) (b := a) (v := nI o) (w := nI a) i2 (by omega) rfl rfl
      obtain ⟨L2', l3, l4, _⟩ := AM (J := J') (b := l) (v := nI l) l2 (by omega) rfl
      obtain ⟨L3', l5, l6, _⟩ := AM (J := J') (b := t s3 - 65) (v := nI (t s3 - 65)) l4 (by omega) rfl
      obtain ⟨I8, I8', v', u1, u2, u3⟩ := WNT (J := J) (J' := J') ht (x := 59) (ch := 59) rfl (by omega) (by omega) y2 l6
      have u2' : ∀ {α : Type} {F : Int32 → MI → MJ → Option α}, oc (f_Model_want (nI 59) L3' J') F = F v' I8' J' := fun {α F} => u2
      rw [u1]
      rcases u3 with ⟨u3, xx, u4, u5, u6⟩ | ⟨u3, q2, u4, u5, u6, u7⟩
      · refine Or.inl ⟨xx, I8', ?_, ?_, u5, u6⟩
        · skip
          repeat (first
            | exact zk_some (by assumption)
            | (with_reducible refine z_x (by assumption) (by assumption) (by decide) ?_) ; (intro _ _ _)
            | (with_reducible refine z_em (by assumption) ?_) ; (intro _ _ _)
            | (with_reducible refine z_ep (by assumption) ?_) ; (intro _ _ _)
            | (with_reducible refine z_b (by assumption) ?_) ; (intro _ _ _)
            | (with_reducible refine z_wS (by assumption) ?_) ; (intro _ _ _)
            | (with_reducible refine z_wC (by assumption) ?_) ; (intro _ _ _)
            | (with_reducible refine z_p (by assumption) ?_) ; (intro _ _ _)
            | (with_reducible refine z_r (by assumption) ?_) ; (intro _ _ _)
            | (with_reducible refine z_en (by assumption) ?_) ; (intro _ _ _)
            | (with_reducible refine z_lv (by assumption) ?_) ; (intro _ _ _)
            | (with_reducible refine z_am (by assumption) ?_) ; (intro _ _ _)
            | (with_reducible refine z_ar (by assumption) (by assumption) ?_) ; (intro _ _ _)
            | (with_reducible refine z_va (by assumption) (by assumption) ?_) ; (intro _ _ _)
            | (with_reducible refine z_lk (by assumption) (by assumption) ?_) ; (intro _ _ _)
            | (with_reducible refine z_dc (by assumption) (by assumption) ?_) ; (intro _ _ _)
            | (with_reducible refine z_r0 (by assumption) (by omega) (by assumption) ?_) ; (intro _ _ _)
            | (with_reducible refine z_r9 (by assumption) (by omega) (by assumption) ?_) ; (intro _ _ _)
            | (with_reducible refine zk_7 (by assumption) ?_) ; (intro _ _)
            | (with_reducible refine zk_9 (by assumption) ?_) ; (intro _ _)
            | (with_reducible refine zk_8 (by assumption) ?_) ; (intro _ _)
            | (with_reducible refine zk_pl ?_)
            | (with_reducible refine zk_ite ?_ ?_) <;> (intro _)
            | (with_reducible refine z_oc ?_ ?_)
            | (intro _ _ _))
        · simp (disch := omega) only [a11, a01, ↓li_m, ↓oc_some, ↓oc_ite, ↓oc_oc, ↓oc_pl, ↓oc_none, ↓oc_oe, ↓pl_eq, ↓oe_i, ↓oe_j, va_up_self, va_up_ne, va_up_up, upd_s, upd_n, updL_s, updL_n, nI_add, nI_1, nI_ltI, nI_leI, nI_eq, nI_clamp, li_n, m1_lt, m1_le, m1_gt, m1_ge, m1_ne, m1_en, m1_ad, nle_F, nle_T, nlt_F, nlt_T, neq_F, neq_T, or_self, or_false, false_or, true_or, or_true, and_self, and_false, false_and, true_and, and_true, not_true_eq_false, not_false_eq_true, ↓reduceIte, if_true, if_false, Nat.reduceAdd, ite_self, Bool.false_eq_true, ↓U_Model_isSecretRow, nI_sb, eA, eL, l1, l3, l5, u2', u3, n10e]
      · skip
        obtain ⟨I9, g1, g2'⟩ := EM4' (J := J) (a := nI o) (o := o) (u := nI a) (v := nI l) (w := nI (t s3 - 65)) u5 rfl (by omega) ol (by omega) (b255n (by omega)) (b255n (by omega)) (b255n (by omega))
        refine Or.inr ⟨(), I9, I8', q2, m + 4, _, _, f8, f9, g2, g3, g4, g5, c, _, _, ?_, ?_, g2', u6, TB_mono hT (by omega), by omega, by omega, fun hk => ?_⟩
        · simp (disch := omega) only [a11, a01, ↓li_m, ↓oc_some, ↓oc_ite, ↓oc_oc, ↓oc_pl, ↓oc_none, ↓oc_oe, ↓pl_eq, ↓oe_i, ↓oe_j, va_up_self, va_up_ne, va_up_up, upd_s, upd_n, updL_s, updL_n, nI_add, nI_1, nI_ltI, nI_leI, nI_eq, nI_clamp, li_n, m1_lt, m1_le, m1_gt, m1_ge, m1_ne, m1_en, m1_ad, nle_F, nle_T, nlt_F, nlt_T, neq_F, neq_T, or_self, or_false, false_or, true_or, or_true, and_self, and_false, false_and, true_and, and_true, not_true_eq_false, not_false_eq_true, ↓reduceIte, if_true, if_false, Nat.reduceAdd, ite_self, Bool.false_eq_true, g1]
        · simp (disch := omega) only [a11, a01, ↓li_m, ↓oc_some, ↓oc_ite, ↓oc_oc, ↓oc_pl, ↓oc_none, ↓oc_oe, ↓pl_eq, ↓oe_i, ↓oe_j, va_up_self, va_up_ne, va_up_up, upd_s, upd_n, updL_s, updL_n, nI_add, nI_1, nI_ltI, nI_leI, nI_eq, nI_clamp, li_n, m1_lt, m1_le, m1_gt, m1_ge, m1_ne, m1_en, m1_ad, nle_F, nle_T, nlt_F, nlt_T, neq_F, neq_T, or_self, or_false, false_or, true_or, or_true, and_self, and_false, false_and, true_and, and_true, not_true_eq_false, not_false_eq_true, ↓reduceIte, if_true, if_false, Nat.reduceAdd, ite_self, Bool.false_eq_true, ↓U_Model_isSecretRow, nI_sb, eA, eL, l1, l3, l5, u2', u3, n10e]
        · exact ⟨hk, CODE_4 (hC hk) ho ha (by omega) (by omega)⟩
    · by_cases c2 : 4 ≤ l
      · skip
        obtain ⟨N1', n1, n2, _⟩ := NM (J := J') (a := 3) (x := a0) i2 (by omega) ha0
        obtain ⟨L1', l1, l2, _⟩ := AM2 (J := J') (a := o) (b := a) (v := nI o) (w := nI a) n2 (by omega) rfl rfl
        obtain ⟨L2', l3, l4, _⟩ := AM (J := J') (b := l) (v := nI l) l2 (by omega) rfl
        obtain ⟨L3', l5, l6, _⟩ := AM (J := J') (b := t s3 - 65) (v := nI (t s3 - 65)) l4 (by omega) rfl
        obtain ⟨I8, I8', v', u1, u2, u3⟩ := WNT (J := J) (J' := J') ht (x := 59) (ch := 59) rfl (by omega) (by omega) y2 l6
        have u2' : ∀ {α : Type} {F : Int32 → MI → MJ → Option α}, oc (f_Model_want (nI 59) L3' J') F = F v' I8' J' := fun {α F} => u2
        rw [u1]
        rcases u3 with ⟨u3, xx, u4, u5, u6⟩ | ⟨u3, q2, u4, u5, u6, u7⟩
        · refine Or.inl ⟨xx, I8', ?_, ?_, u5, u6⟩
          · skip
            repeat (first
              | exact zk_some (by assumption)
              | (with_reducible refine z_x (by assumption) (by assumption) (by decide) ?_) ; (intro _ _ _)
              | (with_reducible refine z_em (by assumption) ?_) ; (intro _ _ _)
              | (with_reducible refine z_ep (by assumption) ?_) ; (intro _ _ _)
              | (with_reducible refine z_b (by assumption) ?_) ; (intro _ _ _)
              | (with_reducible refine z_wS (by assumption) ?_) ; (intro _ _ _)
              | (with_reducible refine z_wC (by assumption) ?_) ; (intro _ _ _)
              | (with_reducible refine z_p (by assumption) ?_) ; (intro _ _ _)
              | (with_reducible refine z_r (by assumption) ?_) ; (intro _ _ _)
              | (with_reducible refine z_en (by assumption) ?_) ; (intro _ _ _)
              | (with_reducible refine z_lv (by assumption) ?_) ; (intro _ _ _)
              | (with_reducible refine z_am (by assumption) ?_) ; (intro _ _ _)
              | (with_reducible refine z_ar (by assumption) (by assumption) ?_) ; (intro _ _ _)
              | (with_reducible refine z_va (by assumption) (by assumption) ?_) ; (intro _ _ _)
              | (with_reducible refine z_lk (by assumption) (by assumption) ?_) ; (intro _ _ _)
              | (with_reducible refine z_dc (by assumption) (by assumption) ?_) ; (intro _ _ _)
              | (with_reducible refine z_r0 (by assumption) (by omega) (by assumption) ?_) ; (intro _ _ _)
              | (with_reducible refine z_r9 (by assumption) (by omega) (by assumption) ?_) ; (intro _ _ _)
              | (with_reducible refine zk_7 (by assumption) ?_) ; (intro _ _)
              | (with_reducible refine zk_9 (by assumption) ?_) ; (intro _ _)
              | (with_reducible refine zk_8 (by assumption) ?_) ; (intro _ _)
              | (with_reducible refine zk_pl ?_)
              | (with_reducible refine zk_ite ?_ ?_) <;> (intro _)
              | (with_reducible refine z_oc ?_ ?_)
              | (intro _ _ _))
          · simp (disch := omega) only [a11, a01, ↓li_m, ↓oc_some, ↓oc_ite, ↓oc_oc, ↓oc_pl, ↓oc_none, ↓oc_oe, ↓pl_eq, ↓oe_i, ↓oe_j, va_up_self, va_up_ne, va_up_up, upd_s, upd_n, updL_s, updL_n, nI_add, nI_1, nI_ltI, nI_leI, nI_eq, nI_clamp, li_n, m1_lt, m1_le, m1_gt, m1_ge, m1_ne, m1_en, m1_ad, nle_F, nle_T, nlt_F, nlt_T, neq_F, neq_T, or_self, or_false, false_or, true_or, or_true, and_self, and_false, false_and, true_and, and_true, not_true_eq_false, not_false_eq_true, ↓reduceIte, if_true, if_false, Nat.reduceAdd, ite_self, Bool.false_eq_true, ↓U_Model_isSecretRow, nI_sb, eA, eL, n1, l1, l3, l5, u2', u3, n10e]
        · skip
          obtain ⟨B1, o1, o2⟩ := BC (J := J) (a := 3) (x := a0) u5 (by omega) ha0
          obtain ⟨I9, g1, g2'⟩ := EM4' (J := J) (a := nI o) (o := o) (u := nI a) (v := nI l) (w := nI (t s3 - 65)) o2 rfl (by omega) ol (by omega) (b255n (by omega)) (b255n (by omega)) (b255n (by omega))
          refine Or.inr ⟨(), I9, I8', q2, m + 4, _, _, f8, f9, g2, g3, g4, g5, c, _, _, ?_, ?_, g2', u6, TB_mono hT (by omega), by omega, by omega, fun hk => ?_⟩
          · simp (disch := omega) only [a11, a01, ↓li_m, ↓oc_some, ↓oc_ite, ↓oc_oc, ↓oc_pl, ↓oc_none, ↓oc_oe, ↓pl_eq, ↓oe_i, ↓oe_j, va_up_self, va_up_ne, va_up_up, upd_s, upd_n, updL_s, updL_n, nI_add, nI_1, nI_ltI, nI_leI, nI_eq, nI_clamp, li_n, m1_lt, m1_le, m1_gt, m1_ge, m1_ne, m1_en, m1_ad, nle_F, nle_T, nlt_F, nlt_T, neq_F, neq_T, or_self, or_false, false_or, true_or, or_true, and_self, and_false, false_and, true_and, and_true, not_true_eq_false, not_false_eq_true, ↓reduceIte, if_true, if_false, Nat.reduceAdd, ite_self, Bool.false_eq_true, o1, g1]
          · simp (disch := omega) only [a11, a01, ↓li_m, ↓oc_some, ↓oc_ite, ↓oc_oc, ↓oc_pl, ↓oc_none, ↓oc_oe, ↓pl_eq, ↓oe_i, ↓oe_j, va_up_self, va_up_ne, va_up_up, upd_s, upd_n, updL_s, updL_n, nI_add, nI_1, nI_ltI, nI_leI, nI_eq, nI_clamp, li_n, m1_lt, m1_le, m1_gt, m1_ge, m1_ne, m1_en, m1_ad, nle_F, nle_T, nlt_F, nlt_T, neq_F, neq_T, or_self, or_false, false_or, true_or, or_true, and_self, and_false, false_and, true_and, and_true, not_true_eq_false, not_false_eq_true, ↓reduceIte, if_true, if_false, Nat.reduceAdd, ite_self, Bool.false_eq_true, ↓U_Model_isSecretRow, nI_sb, eA, eL, n1, l1, l3, l5, u2', u3, n10e]
          · exact (ntk0 hk (by omega)).elim
      · by_cases c3 : t s3 < 69
        · skip
          obtain ⟨L1', l1, l2, _⟩ := AM2 (J := J') (a := o) (b := a) (v := nI o) (w := nI a) i2 (by omega) rfl rfl
          obtain ⟨L2', l3, l4, _⟩ := AM (J := J') (b := l) (v := nI l) l2 (by omega) rfl
          obtain ⟨L3', l5, l6, _⟩ := AM (J := J') (b := t s3 - 65) (v := nI (t s3 - 65)) l4 (by omega) rfl
          obtain ⟨I8, I8', v', u1, u2, u3⟩ := WNT (J := J) (J' := J') ht (x := 59) (ch := 59) rfl (by omega) (by omega) y2 l6
          have u2' : ∀ {α : Type} {F : Int32 → MI → MJ → Option α}, oc (f_Model_want (nI 59) L3' J') F = F v' I8' J' := fun {α F} => u2
          rw [u1]
          rcases u3 with ⟨u3, xx, u4, u5, u6⟩ | ⟨u3, q2, u4, u5, u6, u7⟩
          · refine Or.inl ⟨xx, I8', ?_, ?_, u5, u6⟩
            · skip
              repeat (first
                | exact zk_some (by assumption)
                | (with_reducible refine z_x (by assumption) (by assumption) (by decide) ?_) ; (intro _ _ _)
                | (with_reducible refine z_em (by assumption) ?_) ; (intro _ _ _)
                | (with_reducible refine z_ep (by assumption) ?_) ; (intro _ _ _)
                | (with_reducible refine z_b (by assumption) ?_) ; (intro _ _ _)
                | (with_reducible refine z_wS (by assumption) ?_) ; (intro _ _ _)
                | (with_reducible refine z_wC (by assumption) ?_) ; (intro _ _ _)
                | (with_reducible refine z_p (by assumption) ?_) ; (intro _ _ _)
                | (with_reducible refine z_r (by assumption) ?_) ; (intro _ _ _)
                | (with_reducible refine z_en (by assumption) ?_) ; (intro _ _ _)
                | (with_reducible refine z_lv (by assumption) ?_) ; (intro _ _ _)
                | (with_reducible refine z_am (by assumption) ?_) ; (intro _ _ _)
                | (with_reducible refine z_ar (by assumption) (by assumption) ?_) ; (intro _ _ _)
                | (with_reducible refine z_va (by assumption) (by assumption) ?_) ; (intro _ _ _)
                | (with_reducible refine z_lk (by assumption) (by assumption) ?_) ; (intro _ _ _)
                | (with_reducible refine z_dc (by assumption) (by assumption) ?_) ; (intro _ _ _)
                | (with_reducible refine z_r0 (by assumption) (by omega) (by assumption) ?_) ; (intro _ _ _)
                | (with_reducible refine z_r9 (by assumption) (by omega) (by assumption) ?_) ; (intro _ _ _)
                | (with_reducible refine zk_7 (by assumption) ?_) ; (intro _ _)
                | (with_reducible refine zk_9 (by assumption) ?_) ; (intro _ _)
                | (with_reducible refine zk_8 (by assumption) ?_) ; (intro _ _)
                | (with_reducible refine zk_pl ?_)
                | (with_reducible refine zk_ite ?_ ?_) <;> (intro _)
                | (with_reducible refine z_oc ?_ ?_)
                | (intro _ _ _))
            · simp (disch := omega) only [a11, a01, ↓li_m, ↓oc_some, ↓oc_ite, ↓oc_oc, ↓oc_pl, ↓oc_none, ↓oc_oe, ↓pl_eq, ↓oe_i, ↓oe_j, va_up_self, va_up_ne, va_up_up, upd_s, upd_n, updL_s, updL_n, nI_add, nI_1, nI_ltI, nI_leI, nI_eq, nI_clamp, li_n, m1_lt, m1_le, m1_gt, m1_ge, m1_ne, m1_en, m1_ad, nle_F, nle_T, nlt_F, nlt_T, neq_F, neq_T, or_self, or_false, false_or, true_or, or_true, and_self, and_false, false_and, true_and, and_true, not_true_eq_false, not_false_eq_true, ↓reduceIte, if_true, if_false, Nat.reduceAdd, ite_self, Bool.false_eq_true, ↓U_Model_isSecretRow, nI_sb, eA, eL, l1, l3, l5, u2', u3, n10e]
          · skip
            obtain ⟨I9, g1, g2'⟩ := EM4' (J := J) (a := nI o) (o := o) (u := nI a) (v := nI l) (w := nI (t s3 - 65)) u5 rfl (by omega) ol (by omega) (b255n (by omega)) (b255n (by omega)) (b255n (by omega))
            refine Or.inr ⟨(), I9, I8', q2, m + 4, _, _, f8, f9, g2, g3, g4, g5, c, _, _, ?_, ?_, g2', u6, TB_mono hT (by omega), by omega, by omega, fun hk => ?_⟩
            · simp (disch := omega) only [a11, a01, ↓li_m, ↓oc_some, ↓oc_ite, ↓oc_oc, ↓oc_pl, ↓oc_none, ↓oc_oe, ↓pl_eq, ↓oe_i, ↓oe_j, va_up_self, va_up_ne, va_up_up, upd_s, upd_n, updL_s, updL_n, nI_add, nI_1, nI_ltI, nI_leI, nI_eq, nI_clamp, li_n, m1_lt, m1_le, m1_gt, m1_ge, m1_ne, m1_en, m1_ad, nle_F, nle_T, nlt_F, nlt_T, neq_F, neq_T, or_self, or_false, false_or, true_or, or_true, and_self, and_false, false_and, true_and, and_true, not_true_eq_false, not_false_eq_true, ↓reduceIte, if_true, if_false, Nat.reduceAdd, ite_self, Bool.false_eq_true, g1]
            · simp (disch := omega) only [a11, a01, ↓li_m, ↓oc_some, ↓oc_ite, ↓oc_oc, ↓oc_pl, ↓oc_none, ↓oc_oe, ↓pl_eq, ↓oe_i, ↓oe_j, va_up_self, va_up_ne, va_up_up, upd_s, upd_n, updL_s, updL_n, nI_add, nI_1, nI_ltI, nI_leI, nI_eq, nI_clamp, li_n, m1_lt, m1_le, m1_gt, m1_ge, m1_ne, m1_en, m1_ad, nle_F, nle_T, nlt_F, nlt_T, neq_F, neq_T, or_self, or_false, false_or, true_or, or_true, and_self, and_false, false_and, true_and, and_true, not_true_eq_false, not_false_eq_true, ↓reduceIte, if_true, if_false, Nat.reduceAdd, ite_self, Bool.false_eq_true, ↓U_Model_isSecretRow, nI_sb, eA, eL, l1, l3, l5, u2', u3, n10e]
            · exact ⟨hk, CODE_4 (hC hk) ho ha (by omega) (by omega)⟩
        · skip
          obtain ⟨N1', n1, n2, _⟩ := NM (J := J') (a := 3) (x := a0) i2 (by omega) ha0
          obtain ⟨L1', l1, l2, _⟩ := AM2 (J := J') (a := o) (b := a) (v := nI o) (w := nI a) n2 (by omega) rfl rfl
          obtain ⟨L2', l3, l4, _⟩ := AM (J := J') (b := l) (v := nI l) l2 (by omega) rfl
          obtain ⟨L3', l5, l6, _⟩ := AM (J := J') (b := t s3 - 65) (v := nI (t s3 - 65)) l4 (by omega) rfl
          obtain ⟨I8, I8', v', u1, u2, u3⟩ := WNT (J := J) (J' := J') ht (x := 59) (ch := 59) rfl (by omega) (by omega) y2 l6
          have u2' : ∀ {α : Type} {F : Int32 → MI → MJ → Option α}, oc (f_Model_want (nI 59) L3' J') F = F v' I8' J' := fun {α F} => u2
          rw [u1]
          rcases u3 with ⟨u3, xx, u4, u5, u6⟩ | ⟨u3, q2, u4, u5, u6, u7⟩
          · refine Or.inl ⟨xx, I8', ?_, ?_, u5, u6⟩
            · skip
              repeat (first
                | exact zk_some (by assumption)
                | (with_reducible refine z_x (by assumption) (by assumption) (by decide) ?_) ; (intro _ _ _)
                | (with_reducible refine z_em (by assumption) ?_) ; (intro _ _ _)
                | (with_reducible refine z_ep (by assumption) ?_) ; (intro _ _ _)
                | (with_reducible refine z_b (by assumption) ?_) ; (intro _ _ _)
                | (with_reducible refine z_wS (by assumption) ?_) ; (intro _ _ _)
                | (with_reducible refine z_wC (by assumption) ?_) ; (intro _ _ _)
                | (with_reducible refine z_p (by assumption) ?_) ; (intro _ _ _)
                | (with_reducible refine z_r (by assumption) ?_) ; (intro _ _ _)
                | (with_reducible refine z_en (by assumption) ?_) ; (intro _ _ _)
                | (with_reducible refine z_lv (by assumption) ?_) ; (intro _ _ _)
                | (with_reducible refine z_am (by assumption) ?_) ; (intro _ _ _)
                | (with_reducible refine z_ar (by assumption) (by assumption) ?_) ; (intro _ _ _)
                | (with_reducible refine z_va (by assumption) (by assumption) ?_) ; (intro _ _ _)
                | (with_reducible refine z_lk (by assumption) (by assumption) ?_) ; (intro _ _ _)
                | (with_reducible refine z_dc (by assumption) (by assumption) ?_) ; (intro _ _ _)
                | (with_reducible refine z_r0 (by assumption) (by omega) (by assumption) ?_) ; (intro _ _ _)
                | (with_reducible refine z_r9 (by assumption) (by omega) (by assumption) ?_) ; (intro _ _ _)
                | (with_reducible refine zk_7 (by assumption) ?_) ; (intro _ _)
                | (with_reducible refine zk_9 (by assumption) ?_) ; (intro _ _)
                | (with_reducible refine zk_8 (by assumption) ?_) ; (intro _ _)
                | (with_reducible refine zk_pl ?_)
                | (with_reducible refine zk_ite ?_ ?_) <;> (intro _)
                | (with_reducible refine z_oc ?_ ?_)
                | (intro _ _ _))
            · simp (disch := omega) only [a11, a01, ↓li_m, ↓oc_some, ↓oc_ite, ↓oc_oc, ↓oc_pl, ↓oc_none, ↓oc_oe, ↓pl_eq, ↓oe_i, ↓oe_j, va_up_self, va_up_ne, va_up_up, upd_s, upd_n, updL_s, updL_n, nI_add, nI_1, nI_ltI, nI_leI, nI_eq, nI_clamp, li_n, m1_lt, m1_le, m1_gt, m1_ge, m1_ne, m1_en, m1_ad, nle_F, nle_T, nlt_F, nlt_T, neq_F, neq_T, or_self, or_false, false_or, true_or, or_true, and_self, and_false, false_and, true_and, and_true, not_true_eq_false, not_false_eq_true, ↓reduceIte, if_true, if_false, Nat.reduceAdd, ite_self, Bool.false_eq_true, ↓U_Model_isSecretRow, nI_sb, eA, eL, n1, l1, l3, l5, u2', u3, n10e]
          · skip
            obtain ⟨B1, o1, o2⟩ := BC (J := J) (a := 3) (x := a0) u5 (by omega) ha0
            obtain ⟨I9, g1, g2'⟩ := EM4' (J := J) (a := nI o) (o := o) (u := nI a) (v := nI l) (w := nI (t s3 - 65)) o2 rfl (by omega) ol (by omega) (b255n (by omega)) (b255n (by omega)) (b255n (by omega))
            refine Or.inr ⟨(), I9, I8', q2, m + 4, _, _, f8, f9, g2, g3, g4, g5, c, _, _, ?_, ?_, g2', u6, TB_mono hT (by omega), by omega, by omega, fun hk => ?_⟩
            · simp (disch := omega) only [a11, a01, ↓li_m, ↓oc_some, ↓oc_ite, ↓oc_oc, ↓oc_pl, ↓oc_none, ↓oc_oe, ↓pl_eq, ↓oe_i, ↓oe_j, va_up_self, va_up_ne, va_up_up, upd_s, upd_n, updL_s, updL_n, nI_add, nI_1, nI_ltI, nI_leI, nI_eq, nI_clamp, li_n, m1_lt, m1_le, m1_gt, m1_ge, m1_ne, m1_en, m1_ad, nle_F, nle_T, nlt_F, nlt_T, neq_F, neq_T, or_self, or_false, false_or, true_or, or_true, and_self, and_false, false_and, true_and, and_true, not_true_eq_false, not_false_eq_true, ↓reduceIte, if_true, if_false, Nat.reduceAdd, ite_self, Bool.false_eq_true, o1, g1]
            · simp (disch := omega) only [a11, a01, ↓li_m, ↓oc_some, ↓oc_ite, ↓oc_oc, ↓oc_pl, ↓oc_none, ↓oc_oe, ↓pl_eq, ↓oe_i, ↓oe_j, va_up_self, va_up_ne, va_up_up, upd_s, upd_n, updL_s, updL_n, nI_add, nI_1, nI_ltI, nI_leI, nI_eq, nI_clamp, li_n, m1_lt, m1_le, m1_gt, m1_ge, m1_ne, m1_en, m1_ad, nle_F, nle_T, nlt_F, nlt_T, neq_F, neq_T, or_self, or_false, false_or, true_or, or_true, and_self, and_false, false_and, true_and, and_true, not_true_eq_false, not_false_eq_true, ↓reduceIte, if_true, if_false, Nat.reduceAdd, ite_self, Bool.false_eq_true, ↓U_Model_isSecretRow, nI_sb, eA, eL, n1, l1, l3, l5, u2', u3, n10e]
            · exact (ntk0 hk (by omega)).elim
  · obtain ⟨R1', r3, r4, r5⟩ := RM (J := J') ht z2 hl2
    rw [if_neg y, if_neg (show ¬ ¬ nI 0 = 0 from fun x => x rfl), y1]
    refine Or.inl ⟨nI s3, R1', ?_, ?_, r4, r5⟩
    · skip
      repeat (first
        | exact zk_some (by assumption)
        | (with_reducible refine z_x (by assumption) (by assumption) (by decide) ?_) ; (intro _ _ _)
        | (with_reducible refine z_em (by assumption) ?_) ; (intro _ _ _)
        | (with_reducible refine z_ep (by assumption) ?_) ; (intro _ _ _)
        | (with_reducible refine z_b (by assumption) ?_) ; (intro _ _ _)
        | (with_reducible refine z_wS (by assumption) ?_) ; (intro _ _ _)
        | (with_reducible refine z_wC (by assumption) ?_) ; (intro _ _ _)
        | (with_reducible refine z_p (by assumption) ?_) ; (intro _ _ _)
        | (with_reducible refine z_r (by assumption) ?_) ; (intro _ _ _)
        | (with_reducible refine z_en (by assumption) ?_) ; (intro _ _ _)
        | (with_reducible refine z_lv (by assumption) ?_) ; (intro _ _ _)
        | (with_reducible refine z_am (by assumption) ?_) ; (intro _ _ _)
        | (with_reducible refine z_ar (by assumption) (by assumption) ?_) ; (intro _ _ _)
        | (with_reducible refine z_va (by assumption) (by assumption) ?_) ; (intro _ _ _)
        | (with_reducible refine z_lk (by assumption) (by assumption) ?_) ; (intro _ _ _)
        | (with_reducible refine z_dc (by assumption) (by assumption) ?_) ; (intro _ _ _)
        | (with_reducible refine z_r0 (by assumption) (by omega) (by assumption) ?_) ; (intro _ _ _)
        | (with_reducible refine z_r9 (by assumption) (by omega) (by assumption) ?_) ; (intro _ _ _)
        | (with_reducible refine zk_7 (by assumption) ?_) ; (intro _ _)
        | (with_reducible refine zk_9 (by assumption) ?_) ; (intro _ _)
        | (with_reducible refine zk_8 (by assumption) ?_) ; (intro _ _)
        | (with_reducible refine zk_pl ?_)
        | (with_reducible refine zk_ite ?_ ?_) <;> (intro _)
        | (with_reducible refine z_oc ?_ ?_)
        | (intro _ _ _))
    · simp (disch := omega) only [a11, a01, ↓li_m, ↓oc_some, ↓oc_ite, ↓oc_oc, ↓oc_pl, ↓oc_none, ↓oc_oe, ↓pl_eq, ↓oe_i, ↓oe_j, va_up_self, va_up_ne, va_up_up, upd_s, upd_n, updL_s, updL_n, nI_add, nI_1, nI_ltI, nI_leI, nI_eq, nI_clamp, li_n, m1_lt, m1_le, m1_gt, m1_ge, m1_ne, m1_en, m1_ad, nle_F, nle_T, nlt_F, nlt_T, neq_F, neq_T, or_self, or_false, false_or, true_or, or_true, and_self, and_false, false_and, true_and, and_true, not_true_eq_false, not_false_eq_true, ↓reduceIte, if_true, if_false, Nat.reduceAdd, ite_self, Bool.false_eq_true, ↓r3]
theorem ABA {q0 a a0 : Nat} (ht : tpOK n t) (ha : a < 8) (ha0 : a0 ≤ 400) (hA : CA n t P I q m D U k p f8 f9 cc) (hM : MA n t P I' q m D U k p g2 g3 g4 g5 c cm) (hT : TB f8 f9 g2 g3 g5 c q) (hC : k = 0 → CODE P cc cm m 0 f8 g3 g4 c) (hq : q0 + 2 ≤ q) (hm : m ≤ 5 * q0) : OS n t P D U J J' q0 m k (f_Translator_arrayByArray (nI a) (nI a0) I J) (f_Model_readRows (nI (a + 65)) (nI a0) I' J') := by
  have hn := ht.1
  have hqn : q ≤ n := hA.2.2.2.2.2.2.2.2.2.2.2.2.1
  obtain ⟨I1', b1, b2, _⟩ := ARRM (J := J') ht hM
  have hl := spq_lk n t q
  have hle := spq_le (t := t) hqn
  have b0 := fun {α : Type} {F : Int32 → MI → MJ → Option α} => SM0 (J := J') ht b2 hl (F := F)
  have vC := ARRC (J := J) ht hA
  generalize spq n t q = s at b1 b2 b0 vC hl hle
  rw [aba_eq, rows_eq, b1]
  rcases vC with ⟨w, I3, e1, e2⟩ | ⟨w, I3, e1, e2⟩
  · have w1 := w.1
    have w2 := w.2
    rw [cM_lt w1] at b0
    obtain ⟨I3', f1, f2, _, _⟩ := PM b2 w1
    obtain ⟨I4, c1, c2, c3, c4, c5⟩ := LC (J := J) ht e2
    obtain ⟨I4', d1, d2, _⟩ := SM (J := J') ht f2
    generalize spq n t (s + 1) = s2 at c1 c2 c3 c4 c5 d1 d2
    rw [if_pos w, if_pos (show ¬ nI 1 = 0 by decide), b0, f1, e1, c1, d1]
    have eT : t s - 65 + 65 = t s := by omega
    by_cases sg : s2 < n ∧ (t s2 = 43 ∨ t s2 = 45 ∨ t s2 = 42)
    · have sg1 := sg.1
      obtain ⟨I5, g1, g2'⟩ := PC (J := J) c2 sg1
      have R2 := fun (o : Nat) ho hxo => ROW2 (q0 := q0) (a := a) (a0 := a0) (x := t s2) (o := o) (l := t s - 65) (J := J) (J' := J') ht ha ha0 (by omega) ho hxo sg1 g2' d2 (TB_mono hT (by omega)) hC (by omega) hm
      rw [eT] at R2
      rw [cC_lt sg1, cM_lt sg1]
      rcases sg.2 with sc | sc | sc
      · rw [sc] at R2 ⊢
        rw [if_pos (show nI 43 = 43 from rfl), if_pos (show nI 43 = 43 from rfl), oc_oc, g1, oc_some]
        exact R2 23 (by omega) (by decide)
      · rw [sc] at R2 ⊢
        rw [if_neg (show ¬ nI 45 = 43 by decide), if_neg (show ¬ nI 45 = 43 by decide), if_pos (show nI 45 = 45 from rfl), if_pos (show nI 45 = 45 from rfl), oc_oc, g1, oc_some]
        exact R2 24 (by omega) (by decide)
      · rw [sc] at R2 ⊢
        rw [if_neg (show ¬ nI 42 = 43 by decide), if_neg (show ¬ nI 42 = 43 by decide), if_neg (show ¬ nI 42 = 45 by decide), if_neg (show ¬ nI 42 = 45 by decide), if_neg (show ¬ ¬ nI 42 = 42 from fun x => x rfl), if_pos (show nI 42 = 42 from rfl), oc_oc, g1, oc_some]
        exact R2 25 (by omega) (by decide)
    · have k43 := cC_ne (s := s2) ht (show 43 < 1000 by omega) (fun x => sg ⟨x.1, Or.inl x.2⟩)
      have k45 := cC_ne (s := s2) ht (show 45 < 1000 by omega) (fun x => sg ⟨x.1, Or.inr (Or.inl x.2)⟩)
      have k42 := cC_ne (s := s2) ht (show 42 < 1000 by omega) (fun x => sg ⟨x.1, Or.inr (Or.inr x.2)⟩)
      have j43 := cM_ne (s := s2) ht (show 43 < 1000 by omega) (by omega) (fun x => sg ⟨x.1, Or.inl x.2⟩)
      have j45 := cM_ne (s := s2) ht (show 45 < 1000 by omega) (by omega) (fun x => sg ⟨x.1, Or.inr (Or.inl x.2)⟩)
      have j42 := cM_ne (s := s2) ht (show 42 < 1000 by omega) (by omega) (fun x => sg ⟨x.1, Or.inr (Or.inr x.2)⟩)
      obtain ⟨K3, r1, r2⟩ := RC (J := J) c2
      have r2 : SS n t (nI s2) K3 := r2
      obtain ⟨R1', r3, r4, r5⟩ := RM (J := J') ht d2 c3
      rw [if_neg (show ¬ cCq n t s2 = 43 from k43), if_neg (show ¬ cCq n t s2 = 45 from k45), if_pos (show ¬ cCq n t s2 = 42 from k42), if_neg (show ¬ cM n t s2 = 43 from j43), if_neg (show ¬ cM n t s2 = 45 from j45), if_neg (show ¬ cM n t s2 = 42 from j42), oc_oc, r1, oc_some]
      unfold cRow2
      refine Or.inl ⟨nI s2, R1', ?_, ?_, r4, r5⟩
      · skip
        repeat (first
          | exact zk_some (by assumption)
          | (with_reducible refine z_x (by assumption) (by assumption) (by decide) ?_) ; (intro _ _ _)
          | (with_reducible refine z_em (by assumption) ?_) ; (intro _ _ _)
          | (with_reducible refine z_ep (by assumption) ?_) ; (intro _ _ _)
          | (with_reducible refine z_b (by assumption) ?_) ; (intro _ _ _)
          | (with_reducible refine z_wS (by assumption) ?_) ; (intro _ _ _)
          | (with_reducible refine z_wC (by assumption) ?_) ; (intro _ _ _)
          | (with_reducible refine z_p (by assumption) ?_) ; (intro _ _ _)
          | (with_reducible refine z_r (by assumption) ?_) ; (intro _ _ _)
          | (with_reducible refine z_en (by assumption) ?_) ; (intro _ _ _)
          | (with_reducible refine z_lv (by assumption) ?_) ; (intro _ _ _)
          | (with_reducible refine z_am (by assumption) ?_) ; (intro _ _ _)
          | (with_reducible refine z_ar (by assumption) (by assumption) ?_) ; (intro _ _ _)
          | (with_reducible refine z_va (by assumption) (by assumption) ?_) ; (intro _ _ _)
          | (with_reducible refine z_lk (by assumption) (by assumption) ?_) ; (intro _ _ _)
          | (with_reducible refine z_dc (by assumption) (by assumption) ?_) ; (intro _ _ _)
          | (with_reducible refine z_r0 (by assumption) (by omega) (by assumption) ?_) ; (intro _ _ _)
          | (with_reducible refine z_r9 (by assumption) (by omega) (by assumption) ?_) ; (intro _ _ _)
          | (with_reducible refine zk_7 (by assumption) ?_) ; (intro _ _)
          | (with_reducible refine zk_9 (by assumption) ?_) ; (intro _ _)
          | (with_reducible refine zk_8 (by assumption) ?_) ; (intro _ _)
          | (with_reducible refine zk_pl ?_)
          | (with_reducible refine zk_ite ?_ ?_) <;> (intro _)
          | (with_reducible refine z_oc ?_ ?_)
          | (intro _ _ _))
      · simp (disch := omega) only [a11, a01, ↓li_m, ↓oc_some, ↓oc_ite, ↓oc_oc, ↓oc_pl, ↓oc_none, ↓oc_oe, ↓pl_eq, ↓oe_i, ↓oe_j, va_up_self, va_up_ne, va_up_up, upd_s, upd_n, updL_s, updL_n, nI_add, nI_1, nI_ltI, nI_leI, nI_eq, nI_clamp, li_n, m1_lt, m1_le, m1_gt, m1_ge, m1_ne, m1_en, m1_ad, nle_F, nle_T, nlt_F, nlt_T, neq_F, neq_T, or_self, or_false, false_or, true_or, or_true, and_self, and_false, false_and, true_and, and_true, not_true_eq_false, not_false_eq_true, ↓reduceIte, if_true, if_false, Nat.reduceAdd, ite_self, Bool.false_eq_true, ↓r3]
  · obtain ⟨R1', r3, r4, r5⟩ := RM (J := J') ht b2 hl
    rw [if_neg w, if_neg (show ¬ ¬ nI 0 = 0 from fun x => x rfl), e1]
    unfold cRow2
    refine Or.inl ⟨nI s, R1', ?_, ?_, r4, r5⟩
    · skip
      repeat (first
        | exact zk_some (by assumption)
        | (with_reducible refine z_x (by assumption) (by assumption) (by decide) ?_) ; (intro _ _ _)
        | (with_reducible refine z_em (by assumption) ?_) ; (intro _ _ _)
        | (with_reducible refine z_ep (by assumption) ?_) ; (intro _ _ _)
        | (with_reducible refine z_b (by assumption) ?_) ; (intro _ _ _)
        | (with_reducible refine z_wS (by assumption) ?_) ; (intro _ _ _)
        | (with_reducible refine z_wC (by assumption) ?_) ; (intro _ _ _)
        | (with_reducible refine z_p (by assumption) ?_) ; (intro _ _ _)
        | (with_reducible refine z_r (by assumption) ?_) ; (intro _ _ _)
        | (with_reducible refine z_en (by assumption) ?_) ; (intro _ _ _)
        | (with_reducible refine z_lv (by assumption) ?_) ; (intro _ _ _)
        | (with_reducible refine z_am (by assumption) ?_) ; (intro _ _ _)
        | (with_reducible refine z_ar (by assumption) (by assumption) ?_) ; (intro _ _ _)
        | (with_reducible refine z_va (by assumption) (by assumption) ?_) ; (intro _ _ _)
        | (with_reducible refine z_lk (by assumption) (by assumption) ?_) ; (intro _ _ _)
        | (with_reducible refine z_dc (by assumption) (by assumption) ?_) ; (intro _ _ _)
        | (with_reducible refine z_r0 (by assumption) (by omega) (by assumption) ?_) ; (intro _ _ _)
        | (with_reducible refine z_r9 (by assumption) (by omega) (by assumption) ?_) ; (intro _ _ _)
        | (with_reducible refine zk_7 (by assumption) ?_) ; (intro _ _)
        | (with_reducible refine zk_9 (by assumption) ?_) ; (intro _ _)
        | (with_reducible refine zk_8 (by assumption) ?_) ; (intro _ _)
        | (with_reducible refine zk_pl ?_)
        | (with_reducible refine zk_ite ?_ ?_) <;> (intro _)
        | (with_reducible refine z_oc ?_ ?_)
        | (intro _ _ _))
    · simp (disch := omega) only [a11, a01, ↓li_m, ↓oc_some, ↓oc_ite, ↓oc_oc, ↓oc_pl, ↓oc_none, ↓oc_oe, ↓pl_eq, ↓oe_i, ↓oe_j, va_up_self, va_up_ne, va_up_up, upd_s, upd_n, updL_s, updL_n, nI_add, nI_1, nI_ltI, nI_leI, nI_eq, nI_clamp, li_n, m1_lt, m1_le, m1_gt, m1_ge, m1_ne, m1_en, m1_ad, nle_F, nle_T, nlt_F, nlt_T, neq_F, neq_T, or_self, or_false, false_or, true_or, or_true, and_self, and_false, false_and, true_and, and_true, not_true_eq_false, not_false_eq_true, ↓reduceIte, if_true, if_false, Nat.reduceAdd, ite_self, Bool.false_eq_true, ↓r3]
end CM
