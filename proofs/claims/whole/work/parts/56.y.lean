/-! compile: routines -/
def cCal9 (v2 p2 : Int32) (I5 : MI) (J5 : MJ) : M2 Unit := if (nI 10) ≤ v2 then (some ((), I5, J5)) else (if v2 < 0 ∨ 10 ≤ Int32.toNatClampNeg v2 then none else (if ¬ (I5 9 (Int32.toNatClampNeg v2)) = (-1) then (some ((), I5, J5)) else (if v2 < 0 ∨ 10 ≤ Int32.toNatClampNeg v2 then none else (pl (va_up I5 9 (upd (I5 9) (Int32.toNatClampNeg v2) p2)) (fun I12 => some ((), I12, J5))))))
def cCal (v2 p2 : Int32) (I3 : MI) (J3 : MJ) : M2 Unit := oc (f_Translator_expect 59 I3 J3) (fun v5 I5 J5 => oc (cCal9 v2 p2 I5 J5) (fun v7 I7 J7 => oc (f_Translator_emit 28 0 v2 0 I7 J7) (fun v13 I13 J13 => some ((), I13, J13))))
theorem rout_eq {R : M3} {p2 : Int32} {I : MI} {J : MJ} : f_Translator_routine R p2 I J = oc (f_Translator_pass  I J) (fun v1 I1 J1 => oc (f_Translator_digit  I1 J1) (fun v2 I2 J2 => oc (f_Translator_look  I2 J2) (fun v3 I3 J3 => if ¬ v3 = 91 then cCal v2 p2 I3 J3 else (if ¬ (I3 3 7) = 0 then cCal v2 p2 I3 J3 else (oc (R 6 v2 p2 I3 J3) (fun v24 I24 J24 => some ((), I24, J24))))))) := rfl
def cTel8 (p2 p3 : Int32) (I4 : MI) (J4 : MJ) : M2 Unit := if (nI 10) ≤ p2 then (some ((), I4, J4)) else (if p2 < 0 ∨ 10 ≤ Int32.toNatClampNeg p2 then none else (oc ((if (I4 8 (Int32.toNatClampNeg p2)) = (-1) then (some ((), I4, J4)) else (oc (f_Translator_blame 5 p3 I4 J4) (fun v12 I12 J12 => some ((), I12, J12)))) : M2 (Unit)) (fun v10 I10 J10 => if p2 < 0 ∨ 10 ≤ Int32.toNatClampNeg p2 then none else (pl (va_up I10 8 (upd (I10 8) (Int32.toNatClampNeg p2) (I10 6 1))) (fun I14 => some ((), I14, J10))))))
theorem tell_eq {R : M3} {p2 p3 : Int32} {I : MI} {J : MJ} : f_Translator_tell R p2 p3 I J = oc (f_Translator_pass  I J) (fun v1 I1 J1 => pl (va_up I1 3 (upd (I1 3) 7 ((I1 3 7) + 1))) (fun I2 => pl (I2 6 1 : Int32) (fun x3 => oc (f_Translator_emit 18 0 0 0 I2 J1) (fun v4 I4 J4 => oc (cTel8 p2 p3 I4 J4) (fun v6 I6 J6 => oc (R 0 0 0 I6 J6) (fun v15 I15 J15 => oc (f_Translator_expect 93 I15 J15) (fun v16 I16 J16 => pl (va_up I16 3 (upd (I16 3) 7 ((I16 3 7) - 1))) (fun I17 => oc (f_Translator_emit 29 0 0 0 I17 J16) (fun v18 I18 J18 => oc (f_Row_aim 6 7 2000 (x3 + 1) (I18 6 1) I18 J18) (fun v19 I19 J19 => some ((), I19, J19))))))))))) := rfl
def mCal (x1 x6 : Int32) (I8 : MI) (J8 : MJ) : M2 Int32 := oc (f_Model_lay_IV 28 I8 J8) (fun v36 I36 J36 => if (I36 112 75) < 0 ∨ 200 ≤ Int32.toNatClampNeg (I36 112 75) then none else (pl (va_up I36 163 (upd (I36 163) (Int32.toNatClampNeg (I36 112 75)) x6)) (fun I38 => if (I38 112 75) < 0 ∨ 200 ≤ Int32.toNatClampNeg (I38 112 75) then none else (pl (va_up I38 164 (upd (I38 164) (Int32.toNatClampNeg (I38 112 75)) (I38 112 10))) (fun I40 => if (I40 112 75) < 0 ∨ 200 ≤ Int32.toNatClampNeg (I40 112 75) then none else (pl (va_up I40 165 (upd (I40 165) (Int32.toNatClampNeg (I40 112 75)) x1)) (fun I42 => pl (va_up I42 112 (upd (I42 112) 75 ((I42 112 75) + 1))) (fun I43 => oc (f_Model_lay_IIV 0 0 I43 J36) (fun v44 I44 J44 => some (1, I44, J44))))))))))
def mTel (R : M3) (x1 x6 : Int32) (I15 : MI) (J10 : MJ) : M2 Int32 := if x6 < 0 ∨ 10 ≤ Int32.toNatClampNeg x6 then none else (oc ((if (I15 162 (Int32.toNatClampNeg x6)) = (-1) then (some ((), I15, J10)) else (oc (f_Model_note 5 x1 I15 J10) (fun v20 I20 J20 => some ((), I20, J20)))) : M2 (Unit)) (fun v18 I18 J18 => oc (f_Model_lay_IV 18 I18 J18) (fun v21 I21 J21 => pl (I21 112 10 : Int32) (fun x22 => oc (f_Model_lay_IIV 0 0 I21 J21) (fun v23 I23 J23 => if x6 < 0 ∨ 10 ≤ Int32.toNatClampNeg x6 then none else (pl (va_up I23 162 (upd (I23 162) (Int32.toNatClampNeg x6) (I23 112 10))) (fun I25 => pl (va_up I25 112 (upd (I25 112) 79 ((I25 112 79) + 1))) (fun I26 => oc (R 5 0 0 I26 J23) (fun v27 I27 J27 => if ¬ v27 = 0 then (pl (va_up I27 112 (upd (I27 112) 79 ((I27 112 79) - 1))) (fun I29 => oc (f_Model_lay_IV 29 I29 J27) (fun v30 I30 J30 => oc (f_Model_fill x22 (I30 112 10) I30 J30) (fun v31 I31 J31 => mEnd I31 J31)))) else (some (0, I27, J27)))))))))))
def mNo (I : MI) (J : MJ) : M2 Int32 := oc (f_Model_refuse  I J) (fun v12 I12 J12 => if v12 = 0 ∨ v12 = 1 then some (v12, I12, J12) else none)
theorem rrout_eq {R : M3} {I : MI} {J : MJ} : f_Model_readRoutine R I J = pl (I 112 5 : Int32) (fun x1 => pl (va_up I 112 (upd (I 112) 5 ((I 112 5) + 1))) (fun I2 => oc (f_Model_isDigit  I2 J) (fun v3 I3 J3 => if ¬ v3 = 0 then (oc (f_Model_see  I3 J3) (fun v5 I5 J5 => pl (v5 - 48 : Int32) (fun x6 => pl (va_up I5 112 (upd (I5 112) 5 ((I5 112 5) + 1))) (fun I7 => oc (f_Model_takes 59 I7 J5) (fun v8 I8 J8 => if v8 = 0 then (oc (f_Model_see  I8 J8) (fun v10 I10 J10 => if ¬ v10 = 91 then mNo I10 J10 else (if (I10 112 79) ≤ 0 then (pl (va_up I10 112 (upd (I10 112) 5 ((I10 112 5) + 1))) (fun I15 => mTel R x1 x6 I15 J10)) else mNo I10 J10))) else mCal x1 x6 I8 J8))))) else mNo I3 J3))) := rfl
section CM
variable {n P m D U k p c q : Nat} {t : Nat → Nat} {I I' : MI} {J J' : MJ} {f8 f9 g2 g3 g4 g5 : Nat → Int32} {cc cm : Nat → Nat}
theorem RT6 {fu : Nat} {a b : Int32} : f_RcT (fu + 1) 6 a b I J = oc (f_Translator_tell (f_RcT fu) a b I J) (fun _ I J => some (0, I, J)) := rfl
theorem mNo_eq (ht : tpOK n t) (h : MA n t P I q m D U k p g2 g3 g4 g5 c cm) (hl : lkd n t q) : ∃ I1, mNo I J = some (nI 0, I1, J) ∧ I1 112 3 = nI 1 ∧ I1 112 4 = nI q := by
  obtain ⟨R1', r3, r4, r5⟩ := RM (J := J) ht h hl
  exact ⟨R1', by unfold mNo; rw [r3, if_pos (show nI 0 = 0 ∨ nI 0 = 1 from Or.inl rfl)], r4, r5⟩
theorem N9 {y : Nat → Int32} (h : CA n t P I q m D U k p f8 f9 cc) : CA n t P (va_up I 9 y) q m D U k p f8 y cc := by
  obtain ⟨⟨h1, h2⟩, h3, h4, h5, h6, h7, h8, h9, h10, h11, h12, h13, h14⟩ := h
  refine ⟨⟨?_, ?_⟩, ?_, ?_, ?_, ?_, ?_, ?_, ?_, ?_, ?_, ?_, ?_, h14⟩ <;> simp (disch := omega) only [a11, a01, ↓li_m, ↓oc_some, ↓oc_ite, ↓oc_oc, ↓oc_pl, ↓oc_none, ↓oc_oe, ↓pl_eq, ↓oe_i, ↓oe_j, va_up_self, va_up_ne, va_up_up, upd_s, upd_n, updL_s, updL_n, nI_add, nI_1, nI_ltI, nI_leI, nI_eq, nI_clamp, li_n, m1_lt, m1_le, m1_gt, m1_ge, m1_ne, m1_en, m1_ad, nle_F, nle_T, nlt_F, nlt_T, neq_F, neq_T, or_self, or_false, false_or, true_or, or_true, and_self, and_false, false_and, true_and, and_true, not_true_eq_false, not_false_eq_true, ↓reduceIte, if_true, if_false, Nat.reduceAdd, ite_self, Bool.false_eq_true]
  · exact h1
  · exact h2
  · exact h3
  · exact h4
  · exact h5
  · exact h6
  · exact h7
  · exact h8
  · exact h9
  · exact h10
  · exact h11
  · exact h13
theorem N8 {y : Nat → Int32} (h : CA n t P I q m D U k p f8 f9 cc) : CA n t P (va_up I 8 y) q m D U k p y f9 cc := by
  obtain ⟨⟨h1, h2⟩, h3, h4, h5, h6, h7, h8, h9, h10, h11, h12, h13, h14⟩ := h
  refine ⟨⟨?_, ?_⟩, ?_, ?_, ?_, ?_, ?_, ?_, ?_, ?_, ?_, ?_, ?_, h14⟩ <;> simp (disch := omega) only [a11, a01, ↓li_m, ↓oc_some, ↓oc_ite, ↓oc_oc, ↓oc_pl, ↓oc_none, ↓oc_oe, ↓pl_eq, ↓oe_i, ↓oe_j, va_up_self, va_up_ne, va_up_up, upd_s, upd_n, updL_s, updL_n, nI_add, nI_1, nI_ltI, nI_leI, nI_eq, nI_clamp, li_n, m1_lt, m1_le, m1_gt, m1_ge, m1_ne, m1_en, m1_ad, nle_F, nle_T, nlt_F, nlt_T, neq_F, neq_T, or_self, or_false, false_or, true_or, or_true, and_self, and_false, false_and, true_and, and_true, not_true_eq_false, not_false_eq_true, ↓reduceIte, if_true, if_false, Nat.reduceAdd, ite_self, Bool.false_eq_true]
  · exact h1
  · exact h2
  · exact h3
  · exact h4
  · exact h5
  · exact h6
  · exact h7
  · exact h8
  · exact h9
  · exact h10
  · exact h12
  · exact h13
theorem N62 {y : Nat → Int32} (h : MA n t P I q m D U k p g2 g3 g4 g5 c cm) : MA n t P (va_up I 162 y) q m D U k p y g3 g4 g5 c cm := by
  obtain ⟨⟨h1, h2⟩, h3, h4, h5, h6, h7, h8, h9, h10, ⟨h11, h12, h13, h14, h15⟩, h16, h17⟩ := h
  refine ⟨⟨?_, ?_⟩, ?_, ?_, ?_, ?_, ?_, ?_, ?_, ?_, ⟨?_, ?_, ?_, ?_, ?_⟩, ?_, h17⟩ <;> simp (disch := omega) only [a11, a01, ↓li_m, ↓oc_some, ↓oc_ite, ↓oc_oc, ↓oc_pl, ↓oc_none, ↓oc_oe, ↓pl_eq, ↓oe_i, ↓oe_j, va_up_self, va_up_ne, va_up_up, upd_s, upd_n, updL_s, updL_n, nI_add, nI_1, nI_ltI, nI_leI, nI_eq, nI_clamp, li_n, m1_lt, m1_le, m1_gt, m1_ge, m1_ne, m1_en, m1_ad, nle_F, nle_T, nlt_F, nlt_T, neq_F, neq_T, or_self, or_false, false_or, true_or, or_true, and_self, and_false, false_and, true_and, and_true, not_true_eq_false, not_false_eq_true, ↓reduceIte, if_true, if_false, Nat.reduceAdd, ite_self, Bool.false_eq_true]
  · exact h1
  · exact h2
  · exact h3
  · exact h4
  · exact h5
  · exact h6
  · exact h7
  · exact h8
  · exact h9
  · exact h10
  · exact h12
  · exact h13
  · exact h14
  · exact h15
  · exact h16
theorem NCL {y3 y4 y5 : Nat → Int32} {x : Int32} {c' : Nat} (hx : x = nI c') (h : MA n t P I q m D U k p g2 g3 g4 g5 c cm) : MA n t P (va_up (va_up (va_up (va_up I 163 y3) 164 y4) 165 y5) 112 (upd (I 112) 75 x)) q m D U k p g2 y3 y4 y5 c' cm := by
  subst hx
  obtain ⟨⟨h1, h2⟩, h3, h4, h5, h6, h7, h8, h9, h10, ⟨h11, h12, h13, h14, h15⟩, h16, h17⟩ := h
  refine ⟨⟨?_, ?_⟩, ?_, ?_, ?_, ?_, ?_, ?_, ?_, ?_, ⟨?_, ?_, ?_, ?_, ?_⟩, ?_, h17⟩ <;> simp (disch := omega) only [a11, a01, ↓li_m, ↓oc_some, ↓oc_ite, ↓oc_oc, ↓oc_pl, ↓oc_none, ↓oc_oe, ↓pl_eq, ↓oe_i, ↓oe_j, va_up_self, va_up_ne, va_up_up, upd_s, upd_n, updL_s, updL_n, nI_add, nI_1, nI_ltI, nI_leI, nI_eq, nI_clamp, li_n, m1_lt, m1_le, m1_gt, m1_ge, m1_ne, m1_en, m1_ad, nle_F, nle_T, nlt_F, nlt_T, neq_F, neq_T, or_self, or_false, false_or, true_or, or_true, and_self, and_false, false_and, true_and, and_true, not_true_eq_false, not_false_eq_true, ↓reduceIte, if_true, if_false, Nat.reduceAdd, ite_self, Bool.false_eq_true]
  · exact h1
  · exact h2
  · exact h3
  · exact h4
  · exact h5
  · exact h6
  · exact h7
  · exact h8
  · exact h9
  · exact h10
  · exact h11
  · exact h16
theorem CAL9 {d a : Nat} (hd : d < 10) (h : CA n t P I q m D U k p f8 f9 cc) : ∃ I1, cCal9 (nI d) (nI a) I J = some ((), I1, J) ∧ CA n t P I1 q m D U k p f8 (if f9 d = m1 then upd f9 d (nI a) else f9) cc := by
  have h12 : I 9 = f9 := h.2.2.2.2.2.2.2.2.2.2.1
  unfold cCal9
  by_cases e : f9 d = m1
  · rw [if_pos e]
    refine ⟨va_up I 9 (upd (I 9) d (nI a)), ?_, by rw [h12]; exact N9 h⟩
    have e' : I 9 d = m1 := by rw [h12]; exact e
    simp (disch := omega) only [a11, a01, ↓li_m, ↓oc_some, ↓oc_ite, ↓oc_oc, ↓oc_pl, ↓oc_none, ↓oc_oe, ↓pl_eq, ↓oe_i, ↓oe_j, va_up_self, va_up_ne, va_up_up, upd_s, upd_n, updL_s, updL_n, nI_add, nI_1, nI_ltI, nI_leI, nI_eq, nI_clamp, li_n, m1_lt, m1_le, m1_gt, m1_ge, m1_ne, m1_en, m1_ad, nle_F, nle_T, nlt_F, nlt_T, neq_F, neq_T, or_self, or_false, false_or, true_or, or_true, and_self, and_false, false_and, true_and, and_true, not_true_eq_false, not_false_eq_true, ↓reduceIte, if_true, if_false, Nat.reduceAdd, ite_self, Bool.false_eq_true, e']
  · rw [if_neg e]
    refine ⟨I, ?_, h⟩
    have e' : (I 9 d = m1) = False := by rw [h12]; exact eq_false e
    simp (disch := omega) only [a11, a01, ↓li_m, ↓oc_some, ↓oc_ite, ↓oc_oc, ↓oc_pl, ↓oc_none, ↓oc_oe, ↓pl_eq, ↓oe_i, ↓oe_j, va_up_self, va_up_ne, va_up_up, upd_s, upd_n, updL_s, updL_n, nI_add, nI_1, nI_ltI, nI_leI, nI_eq, nI_clamp, li_n, m1_lt, m1_le, m1_gt, m1_ge, m1_ne, m1_en, m1_ad, nle_F, nle_T, nlt_F, nlt_T, neq_F, neq_T, or_self, or_false, false_or, true_or, or_true, and_self, and_false, false_and, true_and, and_true, not_true_eq_false, not_false_eq_true, ↓reduceIte, if_true, if_false, Nat.reduceAdd, ite_self, Bool.false_eq_true, e']
theorem zCal (ht : tpOK n t) {x : Int32} {d : Nat} {p2 : Int32} (hd : d < 10) (h : SS n t x I) : zk (SS n t x) J (cCal (nI d) p2 I J) := by
  unfold cCal
  refine zk_oc (YX ht h (by decide)) (fun _ I1 h1 => ?_)
  refine zk_oc (Z := SS n t x) ?_ (fun _ I2 h2 => zk_oc (Y_emit h2) (fun _ _ h3 => zk_some h3))
  unfold cCal9
  rw [if_neg (nI_ge (by omega) (by omega)), if_neg (nI_in (by omega) (by omega))]
  exact zk_ite (fun _ => zk_some h1) (fun _ => by
    rw [if_neg (nI_in (by omega) (by omega))]
    exact zk_9 h1 (fun _ h2 => zk_some h2))
theorem XPF (ht : tpOK n t) {x : Int32} {ch : Nat} (hx : x = nI ch) (hc : ch < 1000) (hA : CA n t P I q m D U k p f8 f9 cc) (h1 : ¬ (spq n t q < n ∧ t (spq n t q) = ch)) : zk (SS n t (nI (spq n t q))) J (f_Translator_expect x I J) := by
  subst hx
  obtain ⟨I2, c1, c2, c3, c4, c5⟩ := LC (J := J) ht hA
  have k1 := cC_ne ht hc h1
  obtain ⟨I3, e1, e2⟩ := RC (J := J) c2
  unfold f_Translator_expect
  rw [c1, if_pos k1, e1]
  exact zk_some e2
theorem TEL8 {d a : Nat} (hd : d < 10) (ha : a ≤ 400) (h : CA n t P I q m D U k p f8 f9 cc) : ∃ I1, cTel8 (nI d) (nI a) I J = some ((), I1, J) ∧ CA n t P I1 q m D U (if f8 d = m1 then k else ntk k p 5 a) (if f8 d = m1 then p else ntp k p 5 a) (upd f8 d (nI m)) f9 cc := by
  have h11 : I 8 = f8 := h.2.2.2.2.2.2.2.2.2.1
  have h10 : I 6 1 = nI m := h.2.2.2.2.2.2.2.2.1
  unfold cTel8
  by_cases e : f8 d = m1
  · rw [if_pos e, if_pos e]
    refine ⟨va_up I 8 (upd (I 8) d (nI m)), ?_, by rw [h11]; exact N8 h⟩
    have e' : I 8 d = m1 := by rw [h11]; exact e
    simp (disch := omega) only [a11, a01, ↓li_m, ↓oc_some, ↓oc_ite, ↓oc_oc, ↓oc_pl, ↓oc_none, ↓oc_oe, ↓pl_eq, ↓oe_i, ↓oe_j, va_up_self, va_up_ne, va_up_up, upd_s, upd_n, updL_s, updL_n, nI_add, nI_1, nI_ltI, nI_leI, nI_eq, nI_clamp, li_n, m1_lt, m1_le, m1_gt, m1_ge, m1_ne, m1_en, m1_ad, nle_F, nle_T, nlt_F, nlt_T, neq_F, neq_T, or_self, or_false, false_or, true_or, or_true, and_self, and_false, false_and, true_and, and_true, not_true_eq_false, not_false_eq_true, ↓reduceIte, if_true, if_false, Nat.reduceAdd, ite_self, Bool.false_eq_true, e', h10]
  · rw [if_neg e, if_neg e]
    obtain ⟨B1, o1, o2⟩ := BC (J := J) (a := 5) (x := a) h (by omega) ha
    have h11 : B1 8 = f8 := o2.2.2.2.2.2.2.2.2.2.1
    have h10 : B1 6 1 = nI m := o2.2.2.2.2.2.2.2.2.1
    refine ⟨va_up B1 8 (upd (B1 8) d (nI m)), ?_, by rw [h11]; exact N8 o2⟩
    have e' : (I 8 d = m1) = False := by rw [h.2.2.2.2.2.2.2.2.2.1]; exact eq_false e
    simp (disch := omega) only [a11, a01, ↓li_m, ↓oc_some, ↓oc_ite, ↓oc_oc, ↓oc_pl, ↓oc_none, ↓oc_oe, ↓pl_eq, ↓oe_i, ↓oe_j, va_up_self, va_up_ne, va_up_up, upd_s, upd_n, updL_s, updL_n, nI_add, nI_1, nI_ltI, nI_leI, nI_eq, nI_clamp, li_n, m1_lt, m1_le, m1_gt, m1_ge, m1_ne, m1_en, m1_ad, nle_F, nle_T, nlt_F, nlt_T, neq_F, neq_T, or_self, or_false, false_or, true_or, or_true, and_self, and_false, false_and, true_and, and_true, not_true_eq_false, not_false_eq_true, ↓reduceIte, if_true, if_false, Nat.reduceAdd, ite_self, Bool.false_eq_true, e', h10, ↓o1]
theorem CALL {q0 d : Nat} (ht : tpOK n t) (hd : d < 10) (hq : q0 + 2 ≤ q) (h1 : spq n t q < n) (h2 : t (spq n t q) = 59) (hA : CA n t P I q m D U k p f8 f9 cc) {I8' : MI} (hM : MA n t P I8' (spq n t q + 1) m D U k p g2 g3 g4 g5 c cm) (hT : TB f8 f9 g2 g3 g5 c q0) (hC : k = 0 → CODE P cc cm m 0 f8 g3 g4 c) (hm : m ≤ 5 * q0) : OS n t P D U J J' q0 m k (cCal (nI d) (nI q0) I J) (mCal (nI q0) (nI d) I8' J') := by
  have hn := ht.1
  have hq' : q ≤ n := hA.2.2.2.2.2.2.2.2.2.2.2.2.1
  have hle := spq_le (t := t) hq'
  obtain ⟨I1, a1, a2⟩ := XPC (J := J) ht (x := 59) (ch := 59) rfl hA h1 h2
  obtain ⟨I2, b1, b2⟩ := CAL9 (J := J) (a := q0) hd a2
  obtain ⟨I3, e1, e2⟩ := EM3' (J := J) (a := 28) (o := 28) (b := 0) (d := d) (u := 0) (v := nI d) (w := 0) b2 rfl (by decide) (by decide) (by omega) (by decide) (b255n (by omega))
  obtain ⟨L1', l1, l2, _⟩ := AM (J := J') (b := 28) (v := 28) hM (by omega) rfl
  have c3 := hT.2.1
  have p75 : L1' 112 75 = nI c := l2.2.2.2.2.2.2.2.2.2.1.2.2.2.2
  have p10 : L1' 112 10 = nI (m + 1) := l2.2.2.2.2.2.2.2.2.1
  have w3 : L1' 163 = g3 := l2.2.2.2.2.2.2.2.2.2.1.2.1
  have w4 : L1' 164 = g4 := l2.2.2.2.2.2.2.2.2.2.1.2.2.1
  have w5 : L1' 165 = g5 := l2.2.2.2.2.2.2.2.2.2.1.2.2.2.1
  have cl := NCL (y3 := upd g3 c (nI d)) (y4 := upd g4 c (nI (m + 1))) (y5 := upd g5 c (nI q0)) (x := nI (c + 1)) rfl l2
  obtain ⟨L2', l3, l4, _⟩ := AM2 (J := J') (a := 0) (b := 0) (v := nI 0) (w := nI 0) cl (by omega) rfl rfl
  refine Or.inr ⟨(), I3, L2', spq n t q + 1, m + 3, k, p, f8, _, g2, _, _, _, c + 1, _, _, ?_, ?_, e2, l4, TB_call hd (Nat.le_refl _) (by omega) (by omega) hT, by omega, by omega, fun hk => ⟨hk, CODE_call (hC hk) hd⟩⟩
  · unfold cCal
    rw [a1, b1, oc_some, e1]
  · unfold mCal
    rw [l1]
    simp (disch := omega) only [a11, a01, ↓li_m, ↓oc_some, ↓oc_ite, ↓oc_oc, ↓oc_pl, ↓oc_none, ↓oc_oe, ↓pl_eq, ↓oe_i, ↓oe_j, va_up_self, va_up_ne, va_up_up, upd_s, upd_n, updL_s, updL_n, nI_add, nI_1, nI_ltI, nI_leI, nI_eq, nI_clamp, li_n, m1_lt, m1_le, m1_gt, m1_ge, m1_ne, m1_en, m1_ad, nle_F, nle_T, nlt_F, nlt_T, neq_F, neq_T, or_self, or_false, false_or, true_or, or_true, and_self, and_false, false_and, true_and, and_true, not_true_eq_false, not_false_eq_true, ↓reduceIte, if_true, if_false, Nat.reduceAdd, ite_self, Bool.false_eq_true, p75, p10, w3, w4, w5, ↓l3]
theorem ROU {f f' : Nat} (ht : tpOK n t) (hD : D ≤ 20) (hU : U ≤ D + 1) (hS : U = 0 → STS n t P D 1 J J') (hf : U = 0 → 5 * (21 - D) + 9 ≤ f) (hf' : U = 0 → 5 * (21 - D) + 8 ≤ f') (hq : q < n) (hl : lkd n t q) (hA : CA n t P I q m D U k p f8 f9 cc) (hM : MA n t P I' q m D U k p g2 g3 g4 g5 c cm) (hT : TB f8 f9 g2 g3 g5 c q) (hC : k = 0 → CODE P cc cm m 0 f8 g3 g4 c) (hm : m ≤ 5 * q) : OS n t P D U J J' q m k (f_Translator_routine (f_RcT f) (nI q) I J) (f_Model_readRoutine (f_RcM f') I' J') := by
  have hn := ht.1
  have p5 : I' 112 5 = nI q := hM.2.2.1
  obtain ⟨I1, a1, a2⟩ := PC (J := J) hA hq
  obtain ⟨I1', b1, b2, _, _⟩ := PM hM hq
  obtain ⟨I2', d1, d2, _⟩ := DIGM (J := J') ht b2
  have hl1 := spq_lk n t (q + 1)
  have hle := spq_le (t := t) (show q + 1 ≤ n by omega)
  have d0 := fun {α : Type} {F : Int32 → MI → MJ → Option α} => SM0 (J := J') ht d2 hl1 (F := F)
  have vC := DIGC (J := J) ht a2
  rw [rout_eq, rrout_eq, a1, pl_eq, b1, d1, p5]
  generalize spq n t (q + 1) = s at d1 d2 d0 vC hl1 hle
  rcases vC with ⟨w, I3, e1, e2⟩ | ⟨w, I3, e1, e2⟩
  · have w1 := w.1
    have w2 := w.2
    rw [cM_lt w1] at d0
    rw [if_pos w, if_pos (show ¬ nI 1 = 0 by decide), d0, pl_eq, e1]
    obtain ⟨I3', x1, x2, _, _⟩ := PM d2 w1
    obtain ⟨dg, hdg⟩ : ∃ dg, dg = t s - 48 := ⟨_, rfl⟩
    have ed : nI (t s) - 48 = nI dg := by rw [hdg]; exact nI_sb (b := 48) (by omega)
    rw [ed, x1, ← hdg]
    have hdg10 : dg < 10 := by omega
    obtain ⟨I4, y1, y2, y3, y4, y5⟩ := LC (J := J) ht e2
    have hid : spq n t (spq n t (s + 1)) = spq n t (s + 1) := spq_id y3
    by_cases z59 : spq n t (s + 1) < n ∧ t (spq n t (s + 1)) = 59
    · obtain ⟨T1, t1, t2, _⟩ := TKM (J := J') ht (x := 59) (ch := 59) rfl (by omega) x2 z59.1 z59.2
      rw [t1, if_neg (show ¬ nI 1 = 0 by decide), y1, cC_lt z59.1, z59.2, if_pos (show ¬ nI 59 = 91 by decide)]
      exact CALL (q := spq n t (s + 1)) (q0 := q) ht hdg10 (by omega) (by rw [hid]; exact z59.1) (by rw [hid]; exact z59.2) y2 (by rw [hid]; exact t2) hT hC hm
    · obtain ⟨T1, t1, t2, _⟩ := TKN (J := J') ht (x := 59) (ch := 59) rfl (by omega) (by omega) x2 z59
      have xp := XPF (J := J) ht (x := 59) (ch := 59) rfl (by omega) y2 (by rw [hid]; exact z59)
      rw [hid] at xp
      have k59 := cC_ne ht (show 59 < 1000 by omega) z59
      generalize spq n t (s + 1) = s2 at y1 y2 y3 y4 y5 t2 z59 xp k59
      have b0 := fun {α : Type} {F : Int32 → MI → MJ → Option α} => SM0 (J := J') ht t2 y3 (F := F)
      rw [t1, if_pos (show nI 0 = 0 from rfl), b0, y1]
      have bad : ∃ x I1', zk (SS n t x) J (cCal (nI dg) (nI q) I4 J) ∧ mNo T1 J' = some (nI 0, I1', J') ∧ I1' 112 3 = nI 1 ∧ I1' 112 4 = x := by
        obtain ⟨N1, n1, n2, n3⟩ := mNo_eq (J := J') ht t2 y3
        refine ⟨nI s2, N1, ?_, n1, n2, n3⟩
        unfold cCal
        refine zk_oc xp (fun _ I1 h1 => ?_)
        refine zk_oc (Z := SS n t (nI s2)) ?_ (fun _ I2 h2 => zk_oc (Y_emit h2) (fun _ _ h3 => zk_some h3))
        unfold cCal9
        rw [if_neg (nI_ge (by omega) (by omega)), if_neg (nI_in (by omega) (by omega))]
        exact zk_ite (fun _ => zk_some h1) (fun _ => by
          rw [if_neg (nI_in (by omega) (by omega))]
          exact zk_9 h1 (fun _ h2 => zk_some h2))
      have p7 : I4 3 7 = nI U := y2.2.2.2.2.1
      have p79 : T1 112 79 = nI U := t2.2.2.2.2.1
      by_cases w91 : s2 < n ∧ t s2 = 91
      · rw [cC_lt w91.1, cM_lt w91.1, w91.2, if_neg (show ¬ ¬ nI 91 = 91 from fun x => x rfl), if_neg (show ¬ ¬ nI 91 = 91 from fun x => x rfl), p7, p79]
        by_cases u0 : U = 0
        · subst u0
          have hf := hf rfl
          have hf' := hf' rfl
          rw [if_neg (show ¬ ¬ nI 0 = 0 from fun x => x rfl), if_pos (show nI 0 ≤ 0 by decide)]
          obtain ⟨g, rfl⟩ : ∃ g, f = g + 1 := ⟨f - 1, by omega⟩
          obtain ⟨A1', A2', A3', _, _⟩ := PM t2 w91.1
          rw [A2', RT6, oc_oc, tell_eq]
          refine OS_mc ?_
          obtain ⟨K1, c1, c2⟩ := PC (J := J) y2 w91.1
          have p7' : K1 3 7 = nI 0 := c2.2.2.2.2.1
          have v0 := UC c2 (x := 1) (y := K1 3 7 + 1) (by omega) (by rw [p7']; exact nI_add 0 1)
          have v10 := v0.2.2.2.2.2.2.2.2.1
          rw [c1, pl_eq, pl_eq, v10]
          obtain ⟨K2, c3, c4⟩ := EM3' (J := J) (a := 18) (o := 18) (b := 0) (d := 0) (u := 0) (v := 0) (w := 0) v0 rfl (by decide) (by decide) (by omega) (by decide) (by decide)
          obtain ⟨K3, c5, c6⟩ := TEL8 (J := J) (a := q) hdg10 (by omega) c4
          rw [c3, c5, oc_some]
          -- the reference
          have hfg := (hT.1 dg hdg10).1
          have w62 : A1' 162 = g2 := A3'.2.2.2.2.2.2.2.2.2.1.1
          have note : ∃ B1', (∀ {α : Type} {F : Unit → MI → MJ → Option α}, oc ((if (A1' 162 dg) = (-1) then (some ((), A1', J')) else (oc (f_Model_note 5 (nI q) A1' J') (fun v20 I20 J20 => some ((), I20, J20)))) : M2 (Unit)) F = F () B1' J') ∧ MA n t P B1' (s2 + 1) m D 0 (if f8 dg = m1 then k else ntk k p 5 q) (if f8 dg = m1 then p else ntp k p 5 q) g2 g3 g4 g5 c cm := by
            by_cases e : f8 dg = m1
            · rw [if_pos e, if_pos e]
              refine ⟨A1', ?_, A3'⟩
              intro α F
              rw [if_pos (show A1' 162 dg = -1 by rw [w62, ← hfg, e]; rfl), oc_some]
            · rw [if_neg e, if_neg e]
              obtain ⟨N1', n1, n2, _⟩ := NM (J := J') (a := 5) (x := q) A3' (by omega) (by omega)
              refine ⟨N1', ?_, n2⟩
              intro α F
              rw [if_neg (show ¬ A1' 162 dg = -1 by rw [w62, ← hfg]; exact e), oc_oc]
              exact n1 (F := fun v I J => oc (some ((), I, J)) F)
          obtain ⟨B1', n1, n2⟩ := note
          have hk1 : (if f8 dg = m1 then k else ntk k p 5 q) = 0 → k = 0 := by
            intro h
            by_cases z : f8 dg = m1
            · rw [if_pos z] at h
              exact h
            · rw [if_neg z] at h
              exact (ntk0 h (by omega)).elim
          generalize (if f8 dg = m1 then k else ntk k p 5 q) = k1 at c6 n2 hk1
          generalize (if f8 dg = m1 then p else ntp k p 5 q) = p1 at c6 n2
          obtain ⟨L1', l1, l2, _⟩ := AM (J := J') (b := 18) (v := 18) n2 (by omega) rfl
          have q10 : L1' 112 10 = nI (m + 1) := l2.2.2.2.2.2.2.2.2.1
          obtain ⟨L2', l3, l4, _⟩ := AM2 (J := J') (a := 0) (b := 0) (v := 0) (w := 0) l2 (by omega) rfl rfl
          have q10' : L2' 112 10 = nI (m + 3) := l4.2.2.2.2.2.2.2.2.1
          have h62 : L2' 162 = g2 := l4.2.2.2.2.2.2.2.2.2.1.1
          have l5 := N62 (y := upd (L2' 162) dg (L2' 112 10)) l4
          have p79' := l5.2.2.2.2.1
          have l6 := UM l5 (x := 1) (y := (va_up L2' 162 (upd (L2' 162) dg (L2' 112 10))) 112 79 + 1) (by omega) (by rw [p79']; exact nI_add 0 1)
          unfold mTel
          have hin : ¬ (nI dg < 0 ∨ 10 ≤ dg) := by
            have := nI_in (show dg < 10 by omega) (show 10 < 2 ^ 31 by omega)
            rwa [nI_clamp (by omega)] at this
          rw [nI_clamp (by omega), if_neg hin, n1, l1, pl_eq, q10, l3, if_neg hin, pl_eq, pl_eq]
          generalize va_up (va_up L2' 162 (upd (L2' 162) dg (L2' 112 10))) 112 (upd (va_up L2' 162 (upd (L2' 162) dg (L2' 112 10)) 112) 79 (va_up L2' 162 (upd (L2' 162) dg (L2' 112 10)) 112 79 + 1)) = L3' at l6 ⊢
          rw [h62, q10'] at l6
          have hfu : FU D 1 = 5 * (21 - D) + 8 := FU_s D 0
          have hCx : k1 = 0 → CODE P (apn (apn (apn cc m 18) (m + 1) 0) (m + 2) 0) (apn (apn (apn cm m 18) (m + 1) 0) (m + 2) 0) (m + 3) 0 (upd f8 dg (nI (m + 3))) g3 g4 c := fun h => CODE_told (CODE_18 (hC (hk1 h)))
          have ST := hS rfl g f' (s2 + 1) (m + 3) k1 p1 c K3 L3' _ f9 _ g3 g4 g5 _ _ (by omega) (by omega) (by omega) c6 l6 (TB_told (by omega) (TB_mono hT (by omega))) hCx
          rcases ST with ⟨x, R1', x1, x2, x3, x4⟩ | ⟨v, R1, R1', q5, m5, k5, p5, f85, f95, g25, g35, g45, g55, c5', cc5, cm5, x1, x2, x3, x4, x5, x6, x7, x8, x9, x10⟩
          · rw [x2, oc_some, if_neg (show ¬ ¬ nI 0 = 0 from fun x => x rfl)]
            refine Or.inl ⟨x, R1', ?_, rfl, x3, x4⟩
            refine zk_oc x1 (fun _ _ h => zk_oc (SQX ht (Or.inr rfl) h) (fun _ _ h => ?_))
            repeat (first
              | exact zk_some (by assumption)
              | (with_reducible refine z_x (by assumption) (by assumption) (by decide) ?_) ; (intro _ _ _)
              | (with_reducible refine z_em (by assumption) ?_) ; (intro _ _ _)
              | (with_reducible refine z_ep (by assumption) ?_) ; (intro _ _ _)
              | (with_reducible refine z_b (by assumption) ?_) ; (intro _ _ _)
              | (with_reducible refine z_wS (by assumption) ?_) ; (intro _ _ _)
              | (with_reducible refine z_wC (by assumption) ?_) ; (intro _ _ _)
              | (with_reducible refine z_p (by assumption) ?_) ; (intro _ _ _)
              | (with_reducible refine z_r (by assumption) ?_) ; (intro _ _ _)
              | (with_reducible refine z_en (by assumption) ?_) ; (intro _ _ _)
              | (with_reducible refine z_lv (by assumption) ?_) ; (intro _ _ _)
              | (with_reducible refine z_am (by assumption) ?_) ; (intro _ _ _)
              | (with_reducible refine z_ar (by assumption) (by assumption) ?_) ; (intro _ _ _)
              | (with_reducible refine z_va (by assumption) (by assumption) ?_) ; (intro _ _ _)
              | (with_reducible refine z_lk (by assumption) (by assumption) ?_) ; (intro _ _ _)
              | (with_reducible refine z_dc (by assumption) (by assumption) ?_) ; (intro _ _ _)
              | (with_reducible refine z_r0 (by assumption) (by omega) (by assumption) ?_) ; (intro _ _ _)
              | (with_reducible refine z_r9 (by assumption) (by omega) (by assumption) ?_) ; (intro _ _ _)
              | (with_reducible refine zk_7 (by assumption) ?_) ; (intro _ _)
              | (with_reducible refine zk_9 (by assumption) ?_) ; (intro _ _)
              | (with_reducible refine zk_8 (by assumption) ?_) ; (intro _ _)
              | (with_reducible refine zk_pl ?_)
              | (with_reducible refine zk_ite ?_ ?_) <;> (intro _)
              | (with_reducible refine z_oc ?_ ?_)
              | (intro _ _ _))
          · have hq5 : q5 ≤ n := x3.2.2.2.2.2.2.2.2.2.2.2.2.1
            obtain ⟨y3, y4⟩ := FRM c6 x3 x1
            have p79 : R1' 112 79 = nI 1 := x4.2.2.2.2.1
            have b0 := UM x4 (x := 0) (y := R1' 112 79 - 1) (by omega) (by rw [p79]; rfl)
            obtain ⟨L4', l7, l8, _⟩ := AM (J := J') (b := 29) (v := 29) b0 (by omega) rfl
            have t10 : L4' 112 10 = nI (m5 + 1) := l8.2.2.2.2.2.2.2.2.1
            obtain ⟨L5', l9, l10⟩ := FLM (J := J') (x := nI (m + 1)) (y := nI (m5 + 1)) (i := m + 1) (r := m5 + 1) l8 rfl rfl (by omega) (by omega)
            obtain ⟨K4, K4', w', w1', w2', w3'⟩ := WNT (J := J) (J' := J') ht (x := 93) (ch := 93) rfl (by omega) (by omega) x3 l10
            unfold mEnd
            rw [x1, oc_some, x2, oc_some, if_pos (show ¬ nI 1 = 0 by decide), pl_eq, l7, t10, l9, w1', w2']
            rcases w3' with ⟨w3', x, w4, w5, w6⟩ | ⟨w3', q6, w4, w5, w6, w7⟩
            · rw [w3', if_pos (show nI 0 = 0 ∨ nI 0 = 1 from Or.inl rfl)]
              refine Or.inl ⟨x, K4', ?_, rfl, w5, w6⟩
              repeat (first
                | exact zk_some (by assumption)
                | (with_reducible refine z_x (by assumption) (by assumption) (by decide) ?_) ; (intro _ _ _)
                | (with_reducible refine z_em (by assumption) ?_) ; (intro _ _ _)
                | (with_reducible refine z_ep (by assumption) ?_) ; (intro _ _ _)
                | (with_reducible refine z_b (by assumption) ?_) ; (intro _ _ _)
                | (with_reducible refine z_wS (by assumption) ?_) ; (intro _ _ _)
                | (with_reducible refine z_wC (by assumption) ?_) ; (intro _ _ _)
                | (with_reducible refine z_p (by assumption) ?_) ; (intro _ _ _)
                | (with_reducible refine z_r (by assumption) ?_) ; (intro _ _ _)
                | (with_reducible refine z_en (by assumption) ?_) ; (intro _ _ _)
                | (with_reducible refine z_lv (by assumption) ?_) ; (intro _ _ _)
                | (with_reducible refine z_am (by assumption) ?_) ; (intro _ _ _)
                | (with_reducible refine z_ar (by assumption) (by assumption) ?_) ; (intro _ _ _)
                | (with_reducible refine z_va (by assumption) (by assumption) ?_) ; (intro _ _ _)
                | (with_reducible refine z_lk (by assumption) (by assumption) ?_) ; (intro _ _ _)
                | (with_reducible refine z_dc (by assumption) (by assumption) ?_) ; (intro _ _ _)
                | (with_reducible refine z_r0 (by assumption) (by omega) (by assumption) ?_) ; (intro _ _ _)
                | (with_reducible refine z_r9 (by assumption) (by omega) (by assumption) ?_) ; (intro _ _ _)
                | (with_reducible refine zk_7 (by assumption) ?_) ; (intro _ _)
                | (with_reducible refine zk_9 (by assumption) ?_) ; (intro _ _)
                | (with_reducible refine zk_8 (by assumption) ?_) ; (intro _ _)
                | (with_reducible refine zk_pl ?_)
                | (with_reducible refine zk_ite ?_ ?_) <;> (intro _)
                | (with_reducible refine z_oc ?_ ?_)
                | (intro _ _ _))
            · have hq6 : q6 ≤ n := w5.2.2.2.2.2.2.2.2.2.2.2.2.1
              rw [w3', if_pos (show nI 1 = 0 ∨ nI 1 = 1 from Or.inr rfl)]
              have p7 : K4 3 7 = nI 1 := w5.2.2.2.2.1
              have v0 := UC w5 (x := 0) (y := K4 3 7 - 1) (by omega) (by rw [p7]; rfl)
              obtain ⟨K5, j1, j2⟩ := EM1' (J := J) (a := 29) (o := 29) (u := 0) (v := 0) (w := 0) v0 rfl (by decide) (by decide) (by omega)
              have v10 : K5 6 1 = nI (m5 + 1) := j2.2.2.2.2.2.2.2.2.1
              obtain ⟨K6, j3, j4⟩ := FLC (J := J) (x := nI m + 1) (y := nI (m5 + 1)) (i := m + 1) (r := m5 + 1) j2 (nI_add m 1) rfl (by omega) (by omega)
              refine Or.inr ⟨(), K6, K4', q6, m5 + 1, k5, p5, f85, f95, g25, g35, g45, g55, c5', _, _, ?_, rfl, j4, w6, TB_mono x5 (by omega), by omega, by omega, fun hk => ?_⟩
              · rw [pl_eq, j1, v10, j3]
              · obtain ⟨i1, i2⟩ := x9 hk
                have z1 := hk1 i1
                have bb := CODE_b (hCx i1)
                have bc := CODE_b i2
                have eq : ∀ j, j < m + 3 → cc5 j = apn (apn (apn cc m 18) (m + 1) 0) (m + 2) 0 j := fun j hj => (nI_eq (by have := bc j (by omega); omega) (by have := bb j (by omega); omega)).mp (y4 j hj)
                have X0 := CODE_1 (o := 29) i2 (by omega) (by decide) (by omega) (fun _ => rfl)
                refine ⟨z1, CODE_fill (s := m) (i := m + 1) (r := m5 + 1) X0 (fun st hg G => (GH_end (hC z1) (by omega) (fun j hj => ?_) st hg G).1) (fun st hg G => ⟨Nat.le_refl _, G.1.2.1, fun h => absurd h (Nat.lt_irrefl _)⟩) (Or.inr ⟨?_, rfl⟩) (by omega)⟩
                · rw [apn_n _ _ (by omega), eq j (by omega), apn_n _ _ (by omega), apn_n _ _ (by omega), apn_n _ _ (by omega)]
                · rw [apn_n _ _ (by omega), eq m (by omega), apn_n _ _ (by omega), apn_n _ _ (by omega), apn_s]
        · have hUl : U < 2 ^ 31 := by omega
          rw [if_pos (show ¬ nI U = 0 from fun e => u0 ((nI_eq (b := 0) hUl (by omega)).mp e)), if_neg (show ¬ nI U ≤ 0 from nI_ge (a := 0) (b := U) (by omega) hUl)]
          exact Or.inl bad
      · have k91 := cC_ne ht (show 91 < 1000 by omega) w91
        have j91 := cM_ne ht (show 91 < 1000 by omega) (by omega) w91
        rw [if_pos (show ¬ cCq n t s2 = 91 from k91), if_pos (show ¬ cM n t s2 = 91 from j91)]
        exact Or.inl bad
  · obtain ⟨N1, n1, n2, n3⟩ := mNo_eq (J := J') ht d2 hl1
    obtain ⟨I4, y1, y2⟩ := Y_look (J := J) ht e2
    rw [if_neg w, if_neg (show ¬ ¬ nI 0 = 0 from fun x => x rfl), e1, y1, if_pos (show ¬ m1 = 91 by decide)]
    exact Or.inl ⟨nI s, N1, zCal ht (by omega) y2, n1, n2, n3⟩
end CM
