/-! compile: choices and loops up to their first statements -/
def SQ (n : Nat) (t : Nat → Nat) (x : Int32) (I : MI) : Prop := SS n t x I ∨ ∃ P q m D U k p f8 f9 cc, CA n t P I q m D U k p f8 f9 cc ∧ lkd n t q ∧ q < n ∧ t q ≠ 124 ∧ t q ≠ 93 ∧ x = nI q
theorem SQX {n : Nat} {t : Nat → Nat} {x c : Int32} {I : MI} {J : MJ} (ht : tpOK n t) (hc : c = nI 124 ∨ c = nI 93) (h : SQ n t x I) : zk (SS n t x) J (f_Translator_expect c I J) := by
  rcases h with h | ⟨P, q, m, D, U, k, p, f8, f9, cc, h, hl, hq, h1, h2, rfl⟩
  · exact YX ht h (by rcases hc with rfl | rfl <;> decide)
  · have hk := ht.2 q hq
    have e := fun {α : Type} {F : Int32 → MI → MJ → Option α} => LC0 (J := J) ht h hl (F := F)
    obtain ⟨I1, r1, r2⟩ := RC (J := J) h
    have hne : ¬ nI (t q) = c := by
      rcases hc with rfl | rfl
      · exact fun e => h1 ((nI_eq (by omega) (by omega)).mp e)
      · exact fun e => h2 ((nI_eq (by omega) (by omega)).mp e)
    unfold f_Translator_expect
    rw [e, cC_lt hq, if_pos hne, r1]
    exact zk_some r2
/-- what statements come to -/
def OSS (n : Nat) (t : Nat → Nat) (P D U : Nat) (J J' : MJ) (q m k : Nat) {α : Type} (rC : M2 α) (rM : M2 Int32) : Prop := (∃ x I1', zk (SQ n t x) J rC ∧ rM = some (nI 0, I1', J') ∧ I1' 112 3 = nI 1 ∧ I1' 112 4 = x) ∨ (∃ v I1 I1' q' m' k' p' f8 f9 g2 g3 g4 g5 c cc cm, rC = some (v, I1, J) ∧ rM = some (nI 1, I1', J') ∧ CA n t P I1 q' m' D U k' p' f8 f9 cc ∧ MA n t P I1' q' m' D U k' p' g2 g3 g4 g5 c cm ∧ TB f8 f9 g2 g3 g5 c q' ∧ q ≤ q' ∧ lkd n t q' ∧ (m' = m ∨ m' + 5 ≤ m + 5 * (q' - q)) ∧ (k' = 0 → k = 0 ∧ CODE P cc cm m' 0 f8 g3 g4 c) ∧ (n ≤ q' ∨ t q' = 124 ∨ t q' = 93))
def FU (D U : Nat) : Nat := 5 * (21 - D) + 8 + (if U = 0 then 4 else 0)
theorem FU_le (D U : Nat) : FU D U ≤ 5 * (21 - D) + 12 := by
  unfold FU
  by_cases h : U = 0
  · rw [if_pos h]
    omega
  · rw [if_neg h]
    omega
theorem FU_s (D U : Nat) : FU D (U + 1) = 5 * (21 - D) + 8 := by
  unfold FU
  rw [if_neg (by omega)]
theorem FU_0 (D : Nat) : FU D 0 = 5 * (21 - D) + 12 := rfl
theorem FU_ge (D U : Nat) : 5 * (21 - D) + 8 ≤ FU D U := by
  unfold FU
  omega
def STS (n : Nat) (t : Nat → Nat) (P D U : Nat) (J J' : MJ) : Prop := ∀ (fc fm q m k p c : Nat) (I I' : MI) (f8 f9 g2 g3 g4 g5 : Nat → Int32) (cc cm : Nat → Nat), FU D U ≤ fc → FU D U ≤ fm → m ≤ 5 * q → CA n t P I q m D U k p f8 f9 cc → MA n t P I' q m D U k p g2 g3 g4 g5 c cm → TB f8 f9 g2 g3 g5 c q → (k = 0 → CODE P cc cm m 0 f8 g3 g4 c) → OSS n t P D U J J' q m k (f_RcT fc 0 0 0 I J) (f_RcM fm 5 0 0 I' J')
def cPre3 (R : M3) (K : Int32 → MI → MJ → M2 Unit) (v2 : Int32) (I3 : MI) (J3 : MJ) : M2 Unit := pl (va_up I3 3 (upd (I3 3) 7 ((I3 3 7) + 1))) (fun I4 => pl (I4 6 1 : Int32) (fun x5 => oc (f_Translator_emit 17 v2 0 0 I4 J3) (fun v6 I6 J6 => oc (R 0 0 0 I6 J6) (fun v7 I7 J7 => K x5 I7 J7))))
def cPre (R : M3) (K : Int32 → MI → MJ → M2 Unit) (I : MI) (J : MJ) : M2 Unit := oc (f_Translator_enter  I J) (fun v1 I1 J1 => oc (f_Translator_decider  I1 J1) (fun v2 I2 J2 => oc (f_Translator_expect 91 I2 J2) (fun v3 I3 J3 => cPre3 R K v2 I3 J3)))
def cCho (R : M3) (x5 : Int32) (I7 : MI) (J7 : MJ) : M2 Unit := oc (f_Translator_expect 124 I7 J7) (fun v8 I8 J8 => pl (I8 6 1 : Int32) (fun x9 => oc (f_Translator_emit 18 0 0 0 I8 J8) (fun v10 I10 J10 => oc (f_Row_aim 6 7 2000 (x5 + 2) (I10 6 1) I10 J10) (fun v11 I11 J11 => oc (R 0 0 0 I11 J11) (fun v12 I12 J12 => oc (f_Translator_expect 93 I12 J12) (fun v13 I13 J13 => pl (va_up I13 3 (upd (I13 3) 7 ((I13 3 7) - 1))) (fun I14 => oc (f_Translator_leave  I14 J13) (fun v15 I15 J15 => oc (f_Row_aim 6 7 2000 (x9 + 1) (I15 6 1) I15 J15) (fun v16 I16 J16 => some ((), I16, J16))))))))))
def cLoo (x5 : Int32) (I7 : MI) (J7 : MJ) : M2 Unit := oc (f_Translator_expect 93 I7 J7) (fun v8 I8 J8 => pl (va_up I8 3 (upd (I8 3) 7 ((I8 3 7) - 1))) (fun I9 => oc (f_Translator_leave  I9 J8) (fun v10 I10 J10 => pl (I10 6 1 : Int32) (fun x11 => oc (f_Translator_emit 18 0 0 0 I10 J10) (fun v12 I12 J12 => oc (f_Row_aim 6 7 2000 (x11 + 1) x5 I12 J12) (fun v13 I13 J13 => oc (f_Row_aim 6 7 2000 (x5 + 2) (I13 6 1) I13 J13) (fun v14 I14 J14 => some ((), I14, J14))))))))
theorem choice_eq {R : M3} {I : MI} {J : MJ} : f_Translator_choice R I J = cPre R (cCho R) I J := rfl
theorem loop_eq {R : M3} {I : MI} {J : MJ} : f_Translator_loop R I J = cPre R cLoo I J := rfl
def mDec (K : Int32 → MI → MJ → M2 Int32) (I5 : MI) (J5 : MJ) : M2 Int32 := oc (f_Model_see  I5 J5) (fun v7 I7 J7 => oc (f_Model_isSecret v7 I7 J7) (fun v8 I8 J8 => oc ((if v8 = 0 then (some ((), I8, J8)) else (oc (f_Model_note 2 (I8 112 5) I8 J8) (fun v12 I12 J12 => some ((), I12, J12)))) : M2 (Unit)) (fun v10 I10 J10 => oc (f_Model_see  I10 J10) (fun v13 I13 J13 => oc (f_Model_numberOf v13 I13 J13) (fun v14 I14 J14 => pl (va_up I14 112 (upd (I14 112) 5 ((I14 112 5) + 1))) (fun I15 => K v14 I15 J14))))))
def mEnd (I31 : MI) (J29 : MJ) : M2 Int32 := oc (f_Model_want 93 I31 J29) (fun v32 I32 J32 => if v32 = 0 ∨ v32 = 1 then some (v32, I32, J32) else none)
def mTail (R : M3) (p2 x18 x20 : Int32) (I22 : MI) (J22 : MJ) : M2 Int32 := oc (f_Model_lay_IV 18 I22 J22) (fun v24 I24 J24 => pl (I24 112 10 : Int32) (fun x25 => oc (f_Model_lay_IIV 0 0 I24 J24) (fun v26 I26 J26 => if ¬ p2 = 63 then (oc (f_Model_fill x25 x18 I26 J26) (fun v28 I28 J28 => oc (f_Model_fill x20 (I28 112 10) I28 J28) (fun v29 I29 J29 => pl (va_up I29 112 (upd (I29 112) 15 ((I29 112 15) - 1))) (fun I30 => pl (va_up I30 112 (upd (I30 112) 79 ((I30 112 79) - 1))) (fun I31 => mEnd I31 J29))))) else (oc (f_Model_want 124 I26 J26) (fun v34 I34 J34 => if ¬ v34 = 0 then (oc (f_Model_fill x20 (I34 112 10) I34 J34) (fun v36 I36 J36 => oc (R 5 0 0 I36 J36) (fun v37 I37 J37 => if ¬ v37 = 0 then (oc (f_Model_fill x25 (I37 112 10) I37 J37) (fun v39 I39 J39 => pl (va_up I39 112 (upd (I39 112) 15 ((I39 112 15) - 1))) (fun I40 => pl (va_up I40 112 (upd (I40 112) 79 ((I40 112 79) - 1))) (fun I41 => mEnd I41 J39)))) else (some (0, I37, J37))))) else (some (0, I34, J34)))))))
def mPre3 (R : M3) (p2 v14 : Int32) (I15 : MI) (J14 : MJ) : M2 Int32 := oc (f_Model_want 91 I15 J14) (fun v16 I16 J16 => if ¬ v16 = 0 then (pl (I16 112 10 : Int32) (fun x18 => oc (f_Model_lay_IIV 17 v14 I16 J16) (fun v19 I19 J19 => pl (I19 112 10 : Int32) (fun x20 => oc (f_Model_lay_IIV 0 0 I19 J19) (fun v21 I21 J21 => oc (R 5 0 0 I21 J21) (fun v22 I22 J22 => if ¬ v22 = 0 then mTail R p2 x18 x20 I22 J22 else (some (0, I22, J22)))))))) else (some (0, I16, J16)))
theorem turn_eq {R : M3} {p2 : Int32} {I : MI} {J : MJ} : f_Model_readTurn R p2 I J = if (I 112 15) < 20 then (pl (va_up I 112 (upd (I 112) 15 ((I 112 15) + 1))) (fun I2 => pl (va_up I2 112 (upd (I2 112) 79 ((I2 112 79) + 1))) (fun I3 => pl (va_up I3 112 (upd (I3 112) 5 ((I3 112 5) + 1))) (fun I4 => oc (f_Model_isVariable  I4 J) (fun v5 I5 J5 => if ¬ v5 = 0 then mDec (mPre3 R p2) I5 J5 else (oc (f_Model_refuse  I5 J5) (fun v44 I44 J44 => if v44 = 0 ∨ v44 = 1 then some (v44, I44, J44) else none))))))) else (oc (f_Model_refuse  I J) (fun v46 I46 J46 => if v46 = 0 ∨ v46 = 1 then some (v46, I46, J46) else none)) := rfl
section CM
variable {n P m D U k p c q : Nat} {t : Nat → Nat} {I I' : MI} {J J' : MJ} {f8 f9 g2 g3 g4 g5 : Nat → Int32} {cc cm : Nat → Nat}
theorem zPre3 (ht : tpOK n t) {x : Int32} {f : Nat} {K : Int32 → MI → MJ → M2 Unit} {v2 : Int32} (hf : 2 ≤ f) (hK : ∀ x5 I, SQ n t x I → zk (SS n t x) J (K x5 I J)) (h : SS n t x I) : zk (SS n t x) J (cPre3 (f_RcT f) K v2 I J) := by
  unfold cPre3
  exact zk_7 h (fun _ h1 => zk_pl (zk_oc (Y_emit h1) (fun _ _ h2 => zk_oc (YR0 ht hf h2) (fun _ _ h3 => hK _ _ (Or.inl h3)))))
theorem MDEC (ht : tpOK n t) (hM : MA n t P I' q m D U k p g2 g3 g4 g5 c cm) (hl : lkd n t q) (hv : isV n t q) : ∃ I1', (∀ {K : Int32 → MI → MJ → M2 Int32}, mDec K I' J' = K (nI (if t q < 110 then t q - 97 else t q - 110)) I1' J') ∧ MA n t P I1' (q + 1) m D U (if t q < 110 then k else ntk k p 2 q) (if t q < 110 then p else ntp k p 2 q) g2 g3 g4 g5 c cm := by
  have hn := ht.1
  have w1 := hv.1
  have w2 := hv.2
  have p5 : I' 112 5 = nI q := hM.2.2.1
  have d0 := fun {α : Type} {F : Int32 → MI → MJ → Option α} => SM0 (J := J') ht hM hl (F := F)
  rw [cM_lt w1] at d0
  by_cases z : t q < 110
  · rw [if_pos z, if_pos z, if_pos z]
    obtain ⟨I2', f1, f2, _, f4⟩ := PM hM w1
    refine ⟨I2', ?_, f2⟩
    intro K
    unfold mDec
    rw [d0]
    have f4' : va_up I' 112 (upd (I' 112) 5 (nI q + nI 1)) = I2' := by rw [← f4, p5]
    rw [nI_add] at f4'
    simp (disch := omega) only [a11, a01, ↓li_m, ↓oc_some, ↓oc_ite, ↓oc_oc, ↓oc_pl, ↓oc_none, ↓oc_oe, ↓pl_eq, ↓oe_i, ↓oe_j, va_up_self, va_up_ne, va_up_up, upd_s, upd_n, updL_s, updL_n, nI_add, nI_1, nI_ltI, nI_leI, nI_eq, nI_clamp, li_n, m1_lt, m1_le, m1_gt, m1_ge, m1_ne, m1_en, m1_ad, nle_F, nle_T, nlt_F, nlt_T, neq_F, neq_T, or_self, or_false, false_or, true_or, or_true, and_self, and_false, false_and, true_and, and_true, not_true_eq_false, not_false_eq_true, ↓reduceIte, if_true, if_false, Nat.reduceAdd, ite_self, Bool.false_eq_true, ↓U_Model_isSecret, ↓d0, ↓U_Model_numberOf, ↓U_Model_isClear, nI_sb, n10e, p5, f4']
  · rw [if_neg z, if_neg z, if_neg z]
    obtain ⟨N1', n1, n2, _⟩ := NM (J := J') (a := 2) (x := q) hM (by omega) (by omega)
    have d1 := fun {α : Type} {F : Int32 → MI → MJ → Option α} => SM0 (J := J') ht n2 hl (F := F)
    rw [cM_lt w1] at d1
    have p6 : N1' 112 5 = nI q := n2.2.2.1
    obtain ⟨I2', f1, f2, _, f4⟩ := PM n2 w1
    refine ⟨I2', ?_, f2⟩
    intro K
    unfold mDec
    rw [d0]
    have f4' : va_up N1' 112 (upd (N1' 112) 5 (nI q + nI 1)) = I2' := by rw [← f4, p6]
    rw [nI_add] at f4'
    simp (disch := omega) only [a11, a01, ↓li_m, ↓oc_some, ↓oc_ite, ↓oc_oc, ↓oc_pl, ↓oc_none, ↓oc_oe, ↓pl_eq, ↓oe_i, ↓oe_j, va_up_self, va_up_ne, va_up_up, upd_s, upd_n, updL_s, updL_n, nI_add, nI_1, nI_ltI, nI_leI, nI_eq, nI_clamp, li_n, m1_lt, m1_le, m1_gt, m1_ge, m1_ne, m1_en, m1_ad, nle_F, nle_T, nlt_F, nlt_T, neq_F, neq_T, or_self, or_false, false_or, true_or, or_true, and_self, and_false, false_and, true_and, and_true, not_true_eq_false, not_false_eq_true, ↓reduceIte, if_true, if_false, Nat.reduceAdd, ite_self, Bool.false_eq_true, ↓U_Model_isSecret, ↓d1, ↓U_Model_numberOf, ↓U_Model_isClear, nI_sb, n10e, p5, p6, ↓n1, f4']
theorem CODE_b {h : Nat} (H : CODE P cc cm m h f8 g3 g4 c) : ∀ j, j < m → cc j < 256 := by
  obtain ⟨st, hg, ⟨a1, a2, a3, a4, a5, a6⟩, _⟩ := H
  exact a6
theorem CODE_17 {v : Nat} (H : CODE P cc cm m 0 f8 g3 g4 c) (hv : v < 13) : CODE P (apn (apn (apn (apn cc m 17) (m + 1) v) (m + 2) 0) (m + 3) 0) (apn (apn (apn (apn cm m 17) (m + 1) v) (m + 2) 0) (m + 3) 0) (m + 4) 0 f8 g3 g4 c := by
  have y : ∀ f : Nat → Nat, (∀ j, j < m → apn (apn (apn (apn f m 17) (m + 1) v) (m + 2) 0) (m + 3) 0 j = f j) ∧ apn (apn (apn (apn f m 17) (m + 1) v) (m + 2) 0) (m + 3) 0 m = 17 ∧ apn (apn (apn (apn f m 17) (m + 1) v) (m + 2) 0) (m + 3) 0 (m + 1) = v ∧ apn (apn (apn (apn f m 17) (m + 1) v) (m + 2) 0) (m + 3) 0 (m + 2) = 0 ∧ apn (apn (apn (apn f m 17) (m + 1) v) (m + 2) 0) (m + 3) 0 (m + 3) = 0 := fun f => ⟨fun j hj => by rw [apn_n _ _ (by omega), apn_n _ _ (by omega), apn_n _ _ (by omega), apn_n _ _ (by omega)], by rw [apn_n _ _ (by omega), apn_n _ _ (by omega), apn_n _ _ (by omega), apn_s], by rw [apn_n _ _ (by omega), apn_n _ _ (by omega), apn_s], by rw [apn_n _ _ (by omega), apn_s], apn_s _ _ _⟩
  obtain ⟨e0, e1, e2, e3, e4⟩ := y cc
  obtain ⟨d0, d1, d2, d3, d4⟩ := y cm
  exact CODE_ext (o := 17) (h := 0) H e0 d0 (fun j j1 j2 => by
    rw [show opl 17 = 4 from rfl] at j2
    by_cases q0 : j = m
    · rw [q0, e1, d1]; omega
    · by_cases q1 : j = m + 1
      · rw [q1, e2, d2]; omega
      · by_cases q2 : j = m + 2
        · rw [q2, e3, d3]; omega
        · rw [show j = m + 3 by omega, e4, d4]; omega) e1 (by omega) (by omega) (by omega) (by
    unfold opok opokb
    rw [e1, e2]
    simp only [hv]
    rfl) (by decide) (by decide) (fun _ => rfl) (fun _ => by
    unfold tgt
    rw [e1, if_pos rfl, e3, e4])
theorem CODE_18 (H : CODE P cc cm m 0 f8 g3 g4 c) : CODE P (apn (apn (apn cc m 18) (m + 1) 0) (m + 2) 0) (apn (apn (apn cm m 18) (m + 1) 0) (m + 2) 0) (m + 3) 0 f8 g3 g4 c := by
  have y : ∀ f : Nat → Nat, (∀ j, j < m → apn (apn (apn f m 18) (m + 1) 0) (m + 2) 0 j = f j) ∧ apn (apn (apn f m 18) (m + 1) 0) (m + 2) 0 m = 18 ∧ apn (apn (apn f m 18) (m + 1) 0) (m + 2) 0 (m + 1) = 0 ∧ apn (apn (apn f m 18) (m + 1) 0) (m + 2) 0 (m + 2) = 0 := fun f => ⟨fun j hj => by rw [apn_n _ _ (by omega), apn_n _ _ (by omega), apn_n _ _ (by omega)], by rw [apn_n _ _ (by omega), apn_n _ _ (by omega), apn_s], by rw [apn_n _ _ (by omega), apn_s], apn_s _ _ _⟩
  obtain ⟨e0, e1, e2, e3⟩ := y cc
  obtain ⟨d0, d1, d2, d3⟩ := y cm
  exact CODE_ext (o := 18) (h := 0) H e0 d0 (fun j j1 j2 => by
    rw [show opl 18 = 3 from rfl] at j2
    by_cases q0 : j = m
    · rw [q0, e1, d1]; omega
    · by_cases q1 : j = m + 1
      · rw [q1, e2, d2]; omega
      · rw [show j = m + 2 by omega, e3, d3]; omega) e1 (by omega) (by omega) (by omega) (by
    unfold opok opokb
    rw [e1]
    rfl) (by decide) (by decide) (fun _ => rfl) (fun _ => by
    unfold tgt
    rw [e1, if_neg (by omega), e2, e3])
theorem FRM {q1 m1' D1 U1 k1 p1 fc kk : Nat} {a b v : Int32} {I1 : MI} {J1 : MJ} {f81 f91 : Nat → Int32} {cc1 : Nat → Nat} (hA : CA n t P I q m D U k p f8 f9 cc) (hA1 : CA n t P I1 q1 m1' D1 U1 k1 p1 f81 f91 cc1) (e : f_RcT fc kk a b I J = some (v, I1, J1)) : m ≤ m1' ∧ ∀ j, j < m → nI (cc1 j) = nI (cc j) := by
  have h10 : I 6 1 = nI m := hA.2.2.2.2.2.2.2.2.1
  have h13 := hA.2.2.2.2.2.2.2.2.2.2.2.1
  have h14 := hA.2.2.2.2.2.2.2.2.2.2.2.2
  have k10 : I1 6 1 = nI m1' := hA1.2.2.2.2.2.2.2.2.1
  have k13 := hA1.2.2.2.2.2.2.2.2.2.2.2.1
  have k14 := hA1.2.2.2.2.2.2.2.2.2.2.2.2
  obtain ⟨m2, e1, e2, e3, e4⟩ := L_all (m0 := m) (I0 := I) fc kk a b I J ⟨m, h10, Nat.le_refl _, h14.2.1, fun _ _ => rfl⟩ v I1 J1 e
  have : m2 = m1' := (nI_eq (by omega) (by omega)).mp (e1.symm.trans k10)
  subst this
  exact ⟨e2, fun j hj => by rw [← k13 j (by omega), e4 j hj, h13 j hj]⟩
theorem PRE {f f' : Nat} {p2 : Int32} (ht : tpOK n t) (hD : D ≤ 20) (hU : U ≤ D + 1) (hS : D < 20 → STS n t P (D + 1) (U + 1) J J') (hf : 5 * (21 - D) + 5 ≤ f) (hf' : 5 * (21 - D) + 5 ≤ f') (hq : q < n) (hl : lkd n t q) (hA : CA n t P I q m D U k p f8 f9 cc) (hM : MA n t P I' q m D U k p g2 g3 g4 g5 c cm) (hT : TB f8 f9 g2 g3 g5 c q) (hC : k = 0 → CODE P cc cm m 0 f8 g3 g4 c) (hm : m ≤ 5 * q) : (∃ x I1', (∀ K : Int32 → MI → MJ → M2 Unit, (∀ x5 I, SQ n t x I → zk (SS n t x) J (K x5 I J)) → zk (SS n t x) J (cPre (f_RcT f) K I J)) ∧ f_Model_readTurn (f_RcM f') p2 I' J' = some (nI 0, I1', J') ∧ I1' 112 3 = nI 1 ∧ I1' 112 4 = x) ∨ (D < 20 ∧ ∃ I1 I1' q' m' k' p' f8' f9' g2' g3' g4' g5' c' cc' cm', (∀ K : Int32 → MI → MJ → M2 Unit, cPre (f_RcT f) K I J = K (nI m) I1 J) ∧ f_Model_readTurn (f_RcM f') p2 I' J' = mTail (f_RcM f') p2 (nI m) (nI (m + 2)) I1' J' ∧ CA n t P I1 q' m' (D + 1) (U + 1) k' p' f8' f9' cc' ∧ MA n t P I1' q' m' (D + 1) (U + 1) k' p' g2' g3' g4' g5' c' cm' ∧ TB f8' f9' g2' g3' g5' c' q' ∧ q + 3 ≤ q' ∧ lkd n t q' ∧ m' + 11 ≤ m + 5 * (q' - q) ∧ m + 4 ≤ m' ∧ (k' = 0 → k = 0 ∧ CODE P cc' cm' m' 0 f8' g3' g4' c' ∧ (∀ j, j < m → cc' j = cc j) ∧ cc' m = 17)) := by
  have hn := ht.1
  have p15 : I' 112 15 = nI D := hM.2.2.2.1
  rw [turn_eq]
  by_cases hd : D < 20
  · obtain ⟨I1, a1, a2⟩ := EnC (J := J) ht hA hq hd
    have b0 := DM hM (x := D + 1) (y := I' 112 15 + 1) (by omega) (by rw [p15]; exact nI_add D 1)
    have p79 := b0.2.2.2.2.1
    have b0 := UM b0 (x := U + 1) (y := (va_up I' 112 (upd (I' 112) 15 ((I' 112 15) + 1))) 112 79 + 1) (by omega) (by rw [p79]; exact nI_add U 1)
    obtain ⟨I1', b1, b2, _, _⟩ := PM b0 hq
    obtain ⟨I2', d1, d2, _⟩ := VARM (J := J') ht b2
    have hl1 := spq_lk n t (q + 1)
    have hle := spq_le (t := t) (show q + 1 ≤ n by omega)
    have vC := DEC (J := J) ht a2
    rw [if_pos (show I' 112 15 < 20 by rw [p15]; show nI D < nI 20; exact (nI_ltI (by omega) (by omega)).mpr hd), pl_eq, pl_eq, b1, d1]
    generalize spq n t (q + 1) = s at d1 d2 vC hl1 hle
    rcases vC with ⟨w, I3, e1, e2⟩ | ⟨w, I3, e1, e2⟩
    · have w1 := w.1
      have w2 := w.2
      obtain ⟨I3', m1', m2'⟩ := MDEC (J' := J') ht d2 hl1 w
      rw [if_pos w, if_pos (show ¬ nI 1 = 0 by decide), m1']
      have hk1 : (if t s < 110 then k else ntk k p 2 s) = 0 → k = 0 ∧ t s < 110 := by
        intro h
        by_cases z : t s < 110
        · rw [if_pos z] at h
          exact ⟨h, z⟩
        · rw [if_neg z] at h
          exact (ntk0 h (by omega)).elim
      generalize (if t s < 110 then k else ntk k p 2 s) = k1 at e2 m2' hk1
      generalize (if t s < 110 then p else ntp k p 2 s) = p1 at e2 m2'
      have hvb : t s < 110 → (if t s < 110 then t s - 97 else t s - 110) = t s - 97 := fun z => if_pos z
      generalize (if t s < 110 then t s - 97 else t s - 110) = vb at m1' hvb
      unfold mPre3
      obtain ⟨I4, I4', v', u1, u2, u3⟩ := WNT (J := J) (J' := J') ht (x := 91) (ch := 91) rfl (by omega) (by omega) e2 m2'
      rw [u2]
      rcases u3 with ⟨u3, x, u4, u5, u6⟩ | ⟨u3, q2, u4, u5, u6, u7⟩
      · rw [u3, if_neg (show ¬ ¬ nI 0 = 0 from fun x => x rfl)]
        refine Or.inl ⟨x, I4', fun K hK => ?_, rfl, u5, u6⟩
        unfold cPre
        rw [a1, e1, u1]
        exact zPre3 ht (by omega) hK u4
      · have hq2 : q2 ≤ n := u5.2.2.2.2.2.2.2.2.2.2.2.2.1
        have q10 : I4' 112 10 = nI m := u6.2.2.2.2.2.2.2.2.1
        rw [u3, if_pos (show ¬ nI 1 = 0 by decide), pl_eq, q10]
        obtain ⟨L1', l1, l2, _⟩ := AM2 (J := J') (a := 17) (b := vb) (v := 17) (w := nI vb) u6 (by omega) rfl rfl
        have q10' : L1' 112 10 = nI (m + 2) := l2.2.2.2.2.2.2.2.2.1
        obtain ⟨L2', l3, l4, _⟩ := AM2 (J := J') (a := 0) (b := 0) (v := 0) (w := 0) l2 (by omega) rfl rfl
        rw [l1, pl_eq, q10', l3]
        have p7 : I4 3 7 = nI U := u5.2.2.2.2.1
        have v0 := UC u5 (x := U + 1) (y := I4 3 7 + 1) (by omega) (by rw [p7]; exact nI_add U 1)
        have s10 := v0.2.2.2.2.2.2.2.2.1
        obtain ⟨I5, g1, g2x⟩ := EM4' (J := J) (a := 17) (o := 17) (b := t s - 97) (d := 0) (e := 0) (u := nI (t s - 97)) (v := 0) (w := 0) v0 rfl (by decide) (by decide) (by omega) (b255n (by omega)) (by decide) (by decide)
        have cP : ∀ K : Int32 → MI → MJ → M2 Unit, cPre (f_RcT f) K I J = oc (f_RcT f 0 0 0 I5 J) (fun v7 I7 J7 => K (nI m) I7 J7) := by
          intro K
          unfold cPre cPre3
          rw [a1, e1, u1, pl_eq, pl_eq, s10, g1]
        have hCx : k1 = 0 → CODE P (apn (apn (apn (apn cc m 17) (m + 1) (t s - 97)) (m + 2) 0) (m + 3) 0) (apn (apn (apn (apn cm m 17) (m + 1) vb) (m + 2) 0) (m + 3) 0) (m + 4) 0 f8 g3 g4 c := by
          intro h
          obtain ⟨h1, h2⟩ := hk1 h
          rw [hvb h2]
          exact CODE_17 (hC h1) (by omega)
        have hfu := FU_s (D + 1) U
        have ST := hS hd f f' q2 (m + 4) k1 p1 c I5 L2' f8 f9 g2 g3 g4 g5 _ _ (by omega) (by omega) (by omega) g2x l4 (TB_mono hT (by omega)) hCx
        rcases ST with ⟨x, R1', r1, r2, r3, r4⟩ | ⟨v, R1, R1', q', m', k', p', f8', f9', g2', g3', g4', g5', c', cc', cm', r1, r2, r3, r4, r5, r6, r7, r8, r9, r10⟩
        · rw [r2, oc_some, if_neg (show ¬ ¬ nI 0 = 0 from fun x => x rfl)]
          refine Or.inl ⟨x, R1', fun K hK => ?_, rfl, r3, r4⟩
          rw [cP]
          exact zk_oc r1 (fun v I hs => hK _ _ hs)
        · rw [r2, oc_some, if_pos (show ¬ nI 1 = 0 by decide)]
          obtain ⟨x3, x4⟩ := FRM g2x r3 r1
          refine Or.inr ⟨hd, R1, R1', q', m', k', p', f8', f9', g2', g3', g4', g5', c', cc', cm', fun K => ?_, rfl, r3, r4, r5, by omega, r7, by omega, x3, fun hk => ?_⟩
          · rw [cP, r1, oc_some]
          · obtain ⟨x1, x2⟩ := r9 hk
            have bb := CODE_b (hCx x1)
            have bc := CODE_b x2
            have eq : ∀ j, j < m + 4 → cc' j = apn (apn (apn (apn cc m 17) (m + 1) (t s - 97)) (m + 2) 0) (m + 3) 0 j := fun j hj => (nI_eq (by have := bc j (by omega); omega) (by have := bb j (by omega); omega)).mp (x4 j hj)
            refine ⟨(hk1 x1).1, x2, fun j hj => ?_, ?_⟩
            · rw [eq j (by omega), apn_n _ _ (by omega), apn_n _ _ (by omega), apn_n _ _ (by omega), apn_n _ _ (by omega)]
            · rw [eq m (by omega), apn_n _ _ (by omega), apn_n _ _ (by omega), apn_n _ _ (by omega), apn_s]
    · obtain ⟨R1', r3, r4, r5⟩ := RM (J := J') ht d2 hl1
      rw [if_neg w, if_neg (show ¬ ¬ nI 0 = 0 from fun x => x rfl), r3, if_pos (show nI 0 = 0 ∨ nI 0 = 1 from Or.inl rfl)]
      refine Or.inl ⟨nI s, R1', fun K hK => ?_, rfl, r4, r5⟩
      unfold cPre
      rw [a1, e1]
      exact zk_oc (YX ht e2 (by decide)) (fun _ _ h => zPre3 ht (by omega) hK h)
  · obtain ⟨I1, a1, a2⟩ := EnR (J := J) hA (show D = 20 by omega)
    obtain ⟨R1', r3, r4, r5⟩ := RM (J := J') ht hM hl
    rw [if_neg (show ¬ I' 112 15 < 20 by rw [p15]; show ¬ nI D < nI 20; exact fun h => hd ((nI_ltI (by omega) (by omega)).mp h)), r3, if_pos (show nI 0 = 0 ∨ nI 0 = 1 from Or.inl rfl)]
    refine Or.inl ⟨nI q, R1', fun K hK => ?_, rfl, r4, r5⟩
    unfold cPre
    rw [a1]
    exact zk_oc (Ydc ht a2) (fun _ _ h => zk_oc (YX ht h (by decide)) (fun _ _ h => zPre3 ht (by omega) hK h))
end CM
