/-! compile: statements -/
def cSt (R : M3) (v1 : Int32) (I1 : MI) (J1 : MJ) : M2 Int32 := oc (f_Translator_isVariable v1 I1 J1) (fun v2 I2 J2 => if v2 = 0 then (oc (f_Translator_isArray v1 I2 J2) (fun v4 I4 J4 => if v4 = 0 then (if ¬ v1 = 62 then (if ¬ v1 = 64 then (if ¬ v1 = 63 then (if ¬ v1 = 42 then (some (0, I4, J4)) else (oc (R 8 0 0 I4 J4) (fun v10 I10 J10 => some (1, I10, J10)))) else (oc (R 7 0 0 I4 J4) (fun v11 I11 J11 => some (1, I11, J11)))) else (oc (R 5 (I4 3 5) 0 I4 J4) (fun v12 I12 J12 => some (1, I12, J12)))) else (oc (f_Translator_show  I4 J4) (fun v13 I13 J13 => some (1, I13, J13)))) else (oc (R 4 (v1 - 65) (I4 3 5) I4 J4) (fun v14 I14 J14 => some (1, I14, J14))))) else (oc (R 2 (v1 - 97) (I2 3 5) I2 J2) (fun v15 I15 J15 => some (1, I15, J15))))
theorem st_eq {R : M3} {I : MI} {J : MJ} : f_Translator_statement R I J = oc (f_Translator_look I J) (fun v1 I1 J1 => cSt R v1 I1 J1) := rfl
def isS (v : Nat) : Prop := (97 ≤ v ∧ v ≤ 122) ∨ (65 ≤ v ∧ v ≤ 72) ∨ v = 62 ∨ v = 64 ∨ v = 63 ∨ v = 42
section CM
variable {n P m D U k p c q : Nat} {t : Nat → Nat} {I I' : MI} {J J' : MJ} {f8 f9 g2 g3 g4 g5 : Nat → Int32} {cc cm : Nat → Nat}
theorem RT2 {fu : Nat} {a b : Int32} : f_RcT (fu + 1) 2 a b I J = oc (f_Translator_variableStatement (f_RcT fu) a b I J) (fun _ I J => some (0, I, J)) := rfl
theorem RT4 {fu : Nat} {a b : Int32} : f_RcT (fu + 1) 4 a b I J = oc (f_Translator_arrayStatement (f_RcT fu) a b I J) (fun _ I J => some (0, I, J)) := rfl
theorem RT5 {fu : Nat} {a b : Int32} : f_RcT (fu + 1) 5 a b I J = oc (f_Translator_routine (f_RcT fu) a I J) (fun _ I J => some (0, I, J)) := rfl
theorem RT7 {fu : Nat} {a b : Int32} : f_RcT (fu + 1) 7 a b I J = oc (f_Translator_choice (f_RcT fu) I J) (fun _ I J => some (0, I, J)) := rfl
theorem RT8 {fu : Nat} {a b : Int32} : f_RcT (fu + 1) 8 a b I J = oc (f_Translator_loop (f_RcT fu) I J) (fun _ I J => some (0, I, J)) := rfl
theorem RM5 {fu : Nat} {a b : Int32} : f_RcM (fu + 1) 5 a b I J = f_Model_readStatements (f_RcM fu) I J := rfl
theorem RM6 {fu : Nat} {a b : Int32} : f_RcM (fu + 1) 6 a b I J = f_Model_readStatement (f_RcM fu) I J := rfl
theorem RM7 {fu : Nat} {a b : Int32} : f_RcM (fu + 1) 7 a b I J = f_Model_readRoutine (f_RcM fu) I J := rfl
theorem RM9 {fu : Nat} {a b : Int32} : f_RcM (fu + 1) 9 a b I J = f_Model_readRow (f_RcM fu) a I J := rfl
theorem RM10 {fu : Nat} {a b : Int32} : f_RcM (fu + 1) 10 a b I J = f_Model_readTurn (f_RcM fu) a I J := rfl
theorem oc_0 {α : Type} {r : M2 α} {w w' : Int32} : oc (oc r (fun _ I J => some (w, I, J))) (fun _ I J => some (w', I, J)) = oc r (fun _ I J => some (w', I, J)) := by
  rw [oc_oc]
  rfl
theorem CS0 {R : M3} {v : Nat} (h : 97 ≤ v ∧ v ≤ 122) (p5 : I 3 5 = nI q) : cSt R (nI v) I J = oc (R 2 (nI (v - 97)) (nI q) I J) (fun _ I J => some (1, I, J)) := by
  unfold cSt
  simp (disch := omega) only [a11, a01, ↓li_m, ↓oc_some, ↓oc_ite, ↓oc_oc, ↓oc_pl, ↓oc_none, ↓oc_oe, ↓pl_eq, ↓oe_i, ↓oe_j, va_up_self, va_up_ne, va_up_up, upd_s, upd_n, updL_s, updL_n, nI_add, nI_1, nI_ltI, nI_leI, nI_eq, nI_clamp, li_n, m1_lt, m1_le, m1_gt, m1_ge, m1_ne, m1_en, m1_ad, nle_F, nle_T, nlt_F, nlt_T, neq_F, neq_T, or_self, or_false, false_or, true_or, or_true, and_self, and_false, false_and, true_and, and_true, not_true_eq_false, not_false_eq_true, ↓reduceIte, if_true, if_false, Nat.reduceAdd, ite_self, Bool.false_eq_true, ↓U_Translator_isVariable, n10e, nI_sb, p5]
theorem CS1 {R : M3} {v : Nat} (h : 65 ≤ v ∧ v ≤ 72) (p5 : I 3 5 = nI q) : cSt R (nI v) I J = oc (R 4 (nI (v - 65)) (nI q) I J) (fun _ I J => some (1, I, J)) := by
  unfold cSt
  simp (disch := omega) only [a11, a01, ↓li_m, ↓oc_some, ↓oc_ite, ↓oc_oc, ↓oc_pl, ↓oc_none, ↓oc_oe, ↓pl_eq, ↓oe_i, ↓oe_j, va_up_self, va_up_ne, va_up_up, upd_s, upd_n, updL_s, updL_n, nI_add, nI_1, nI_ltI, nI_leI, nI_eq, nI_clamp, li_n, m1_lt, m1_le, m1_gt, m1_ge, m1_ne, m1_en, m1_ad, nle_F, nle_T, nlt_F, nlt_T, neq_F, neq_T, or_self, or_false, false_or, true_or, or_true, and_self, and_false, false_and, true_and, and_true, not_true_eq_false, not_false_eq_true, ↓reduceIte, if_true, if_false, Nat.reduceAdd, ite_self, Bool.false_eq_true, ↓U_Translator_isVariable, ↓U_Translator_isArray, n10e, nI_sb, p5]
theorem CS2 {R : M3} : cSt R (nI 62) I J = oc (f_Translator_show I J) (fun _ I J => some (1, I, J)) := by
  unfold cSt
  simp (disch := omega) only [a11, a01, ↓li_m, ↓oc_some, ↓oc_ite, ↓oc_oc, ↓oc_pl, ↓oc_none, ↓oc_oe, ↓pl_eq, ↓oe_i, ↓oe_j, va_up_self, va_up_ne, va_up_up, upd_s, upd_n, updL_s, updL_n, nI_add, nI_1, nI_ltI, nI_leI, nI_eq, nI_clamp, li_n, m1_lt, m1_le, m1_gt, m1_ge, m1_ne, m1_en, m1_ad, nle_F, nle_T, nlt_F, nlt_T, neq_F, neq_T, or_self, or_false, false_or, true_or, or_true, and_self, and_false, false_and, true_and, and_true, not_true_eq_false, not_false_eq_true, ↓reduceIte, if_true, if_false, Nat.reduceAdd, ite_self, Bool.false_eq_true, ↓U_Translator_isVariable, ↓U_Translator_isArray, n10e, nI_sb]
theorem CS3 {R : M3} (p5 : I 3 5 = nI q) : cSt R (nI 64) I J = oc (R 5 (nI q) 0 I J) (fun _ I J => some (1, I, J)) := by
  unfold cSt
  simp (disch := omega) only [a11, a01, ↓li_m, ↓oc_some, ↓oc_ite, ↓oc_oc, ↓oc_pl, ↓oc_none, ↓oc_oe, ↓pl_eq, ↓oe_i, ↓oe_j, va_up_self, va_up_ne, va_up_up, upd_s, upd_n, updL_s, updL_n, nI_add, nI_1, nI_ltI, nI_leI, nI_eq, nI_clamp, li_n, m1_lt, m1_le, m1_gt, m1_ge, m1_ne, m1_en, m1_ad, nle_F, nle_T, nlt_F, nlt_T, neq_F, neq_T, or_self, or_false, false_or, true_or, or_true, and_self, and_false, false_and, true_and, and_true, not_true_eq_false, not_false_eq_true, ↓reduceIte, if_true, if_false, Nat.reduceAdd, ite_self, Bool.false_eq_true, ↓U_Translator_isVariable, ↓U_Translator_isArray, n10e, nI_sb, p5]
theorem CS4 {R : M3} : cSt R (nI 63) I J = oc (R 7 0 0 I J) (fun _ I J => some (1, I, J)) := by
  unfold cSt
  simp (disch := omega) only [a11, a01, ↓li_m, ↓oc_some, ↓oc_ite, ↓oc_oc, ↓oc_pl, ↓oc_none, ↓oc_oe, ↓pl_eq, ↓oe_i, ↓oe_j, va_up_self, va_up_ne, va_up_up, upd_s, upd_n, updL_s, updL_n, nI_add, nI_1, nI_ltI, nI_leI, nI_eq, nI_clamp, li_n, m1_lt, m1_le, m1_gt, m1_ge, m1_ne, m1_en, m1_ad, nle_F, nle_T, nlt_F, nlt_T, neq_F, neq_T, or_self, or_false, false_or, true_or, or_true, and_self, and_false, false_and, true_and, and_true, not_true_eq_false, not_false_eq_true, ↓reduceIte, if_true, if_false, Nat.reduceAdd, ite_self, Bool.false_eq_true, ↓U_Translator_isVariable, ↓U_Translator_isArray, n10e, nI_sb]
theorem CS5 {R : M3} : cSt R (nI 42) I J = oc (R 8 0 0 I J) (fun _ I J => some (1, I, J)) := by
  unfold cSt
  simp (disch := omega) only [a11, a01, ↓li_m, ↓oc_some, ↓oc_ite, ↓oc_oc, ↓oc_pl, ↓oc_none, ↓oc_oe, ↓pl_eq, ↓oe_i, ↓oe_j, va_up_self, va_up_ne, va_up_up, upd_s, upd_n, updL_s, updL_n, nI_add, nI_1, nI_ltI, nI_leI, nI_eq, nI_clamp, li_n, m1_lt, m1_le, m1_gt, m1_ge, m1_ne, m1_en, m1_ad, nle_F, nle_T, nlt_F, nlt_T, neq_F, neq_T, or_self, or_false, false_or, true_or, or_true, and_self, and_false, false_and, true_and, and_true, not_true_eq_false, not_false_eq_true, ↓reduceIte, if_true, if_false, Nat.reduceAdd, ite_self, Bool.false_eq_true, ↓U_Translator_isVariable, ↓U_Translator_isArray, n10e, nI_sb]
theorem STM {f f' : Nat} (ht : tpOK n t) (hD : D ≤ 20) (hU : U ≤ D + 1) (hP : P ≤ 4) (hS1 : D < 20 → STS n t P (D + 1) (U + 1) J J') (hS2 : U = 0 → STS n t P D 1 J J') (hf : FU D U ≤ f + 2) (hf' : FU D U ≤ f' + 2) (hq : q < n) (hl : lkd n t q) (hs : isS (t q)) (hA : CA n t P I q m D U k p f8 f9 cc) (hM : MA n t P I' q m D U k p g2 g3 g4 g5 c cm) (hT : TB f8 f9 g2 g3 g5 c q) (hC : k = 0 → CODE P cc cm m 0 f8 g3 g4 c) (hm : m ≤ 5 * q) : ∃ r : M2 Unit, cSt (f_RcT f) (nI (t q)) I J = oc r (fun _ I J => some (1, I, J)) ∧ OS n t P D U J J' q m k r (f_Model_readStatement (f_RcM f') I' J') := by
  have hn := ht.1
  have hfu := FU_ge D U
  obtain ⟨g, rfl⟩ : ∃ g, f = g + 1 := ⟨f - 1, by omega⟩
  obtain ⟨g', rfl⟩ : ∃ g, f' = g + 1 := ⟨f' - 1, by omega⟩
  have p5 : I 3 5 = nI q := hA.2.2.1
  have b0 := fun {α : Type} {F : Int32 → MI → MJ → Option α} => SM0 (J := J') ht hM hl (F := F)
  rw [cM_lt hq] at b0
  rw [readSt_eq, b0]
  have tb := ht.2 q hq
  have f0 : U = 0 → FU D U = 5 * (21 - D) + 12 := fun h => by rw [h]; exact FU_0 D
  rcases hs with hs | hs | hs | hs | hs | hs
  · obtain ⟨A1', a1, a2, _⟩ := ARRM (J := J') ht hM
    obtain ⟨B1', b1, b2, _⟩ := VARM (J := J') ht a2
    rw [spq_id hl] at a1 a2 b1 b2
    rw [spq_id hl] at b1 b2
    have n1 : ¬ isA n t q := fun h => by have := h.2; omega
    have n2 : isV n t q := ⟨hq, hs⟩
    rw [if_neg n1] at a1
    rw [if_pos n2] at b1
    refine ⟨f_Translator_variableStatement (f_RcT g) (nI (t q - 97)) (nI q) I J, ?_, ?_⟩
    · rw [CS0 hs p5, RT2, oc_0]
    · rw [if_pos (show ¬ nI (t q) = 62 from fun e => by have := (nI_eq (b := 62) (by omega) (by omega)).mp e; omega), if_neg (show ¬ nI (t q) = 63 from fun e => by have := (nI_eq (b := 63) (by omega) (by omega)).mp e; omega), if_pos (show ¬ nI (t q) = 42 from fun e => by have := (nI_eq (b := 42) (by omega) (by omega)).mp e; omega), if_pos (show ¬ nI (t q) = 64 from fun e => by have := (nI_eq (b := 64) (by omega) (by omega)).mp e; omega), a1, if_pos (show nI 0 = 0 from rfl), b1, if_pos (show ¬ nI 1 = 0 by decide)]
      have V := VST (J := J) (J' := J') (v := t q - 97) (f := g) (f' := g' + 1) ht hD hP (by omega) hq (by omega) (by omega) hA b2 hT hC hm
      rw [show t q - 97 + 97 = t q by omega] at V
      exact V
  · obtain ⟨A1', a1, a2, _⟩ := ARRM (J := J') ht hM
    rw [spq_id hl] at a1 a2
    have n1 : isA n t q := ⟨hq, hs⟩
    rw [if_pos n1] at a1
    refine ⟨f_Translator_arrayStatement (f_RcT g) (nI (t q - 65)) (nI q) I J, ?_, ?_⟩
    · rw [CS1 hs p5, RT4, oc_0]
    · rw [if_pos (show ¬ nI (t q) = 62 from fun e => by have := (nI_eq (b := 62) (by omega) (by omega)).mp e; omega), if_neg (show ¬ nI (t q) = 63 from fun e => by have := (nI_eq (b := 63) (by omega) (by omega)).mp e; omega), if_pos (show ¬ nI (t q) = 42 from fun e => by have := (nI_eq (b := 42) (by omega) (by omega)).mp e; omega), if_pos (show ¬ nI (t q) = 64 from fun e => by have := (nI_eq (b := 64) (by omega) (by omega)).mp e; omega), a1, if_neg (show ¬ nI 1 = 0 by decide), RM9]
      have V := AST (J := J) (J' := J') (a := t q - 65) (f := g) (f' := g') ht hD (by omega) hq (by omega) (by omega) hA a2 hT hC hm
      rw [show t q - 65 + 65 = t q by omega] at V
      exact OS_id V
  · rw [hs]
    refine ⟨f_Translator_show I J, ?_, ?_⟩
    · exact CS2
    · rw [if_neg (show ¬ ¬ nI 62 = 62 from fun x => x rfl)]
      exact OS_id (SHOW ht hA hM hT hC hq hm)
  · rw [hs]
    refine ⟨f_Translator_routine (f_RcT g) (nI q) I J, ?_, ?_⟩
    · rw [CS3 p5, RT5, oc_0]
    · rw [if_pos (show ¬ nI 64 = 62 by decide), if_neg (show ¬ nI 64 = 63 by decide), if_pos (show ¬ nI 64 = 42 by decide), if_neg (show ¬ ¬ nI 64 = 64 from fun x => x rfl), RM7]
      exact OS_id (ROU ht hD hU hS2 (fun h => by have := f0 h; omega) (fun h => by have := f0 h; omega) hq hl hA hM hT hC hm)
  · rw [hs]
    refine ⟨f_Translator_choice (f_RcT g) I J, ?_, ?_⟩
    · rw [CS4, RT7, oc_0]
    · rw [if_pos (show ¬ nI 63 = 62 by decide), if_pos (show nI 63 = 63 from rfl), RM10]
      exact OS_id (CHO ht hD hU hS1 (by omega) (by omega) hq hl hA hM hT hC hm)
  · rw [hs]
    refine ⟨f_Translator_loop (f_RcT g) I J, ?_, ?_⟩
    · rw [CS5, RT8, oc_0]
    · rw [if_pos (show ¬ nI 42 = 62 by decide), if_neg (show ¬ nI 42 = 63 by decide), if_neg (show ¬ ¬ nI 42 = 42 from fun x => x rfl), RM10]
      exact OS_id (LOO ht hD hU hS1 (by omega) (by omega) hq hl hA hM hT hC hm)
theorem NST {R : M3} {v : Nat} (hv : v < 1000) (hs : ¬ isS v) : cSt R (nI v) I J = some (nI 0, I, J) := by
  unfold isS at hs
  have h1 : ¬ v = 62 := by omega
  have h2 : ¬ v = 64 := by omega
  have h3 : ¬ v = 63 := by omega
  have h4 : ¬ v = 42 := by omega
  unfold cSt
  by_cases a : v < 65
  · simp (disch := omega) only [a11, a01, ↓li_m, ↓oc_some, ↓oc_ite, ↓oc_oc, ↓oc_pl, ↓oc_none, ↓oc_oe, ↓pl_eq, ↓oe_i, ↓oe_j, va_up_self, va_up_ne, va_up_up, upd_s, upd_n, updL_s, updL_n, nI_add, nI_1, nI_ltI, nI_leI, nI_eq, nI_clamp, li_n, m1_lt, m1_le, m1_gt, m1_ge, m1_ne, m1_en, m1_ad, nle_F, nle_T, nlt_F, nlt_T, neq_F, neq_T, or_self, or_false, false_or, true_or, or_true, and_self, and_false, false_and, true_and, and_true, not_true_eq_false, not_false_eq_true, ↓reduceIte, if_true, if_false, Nat.reduceAdd, ite_self, Bool.false_eq_true, ↓U_Translator_isVariable, ↓U_Translator_isArray]
  · by_cases b : v < 97
    · simp (disch := omega) only [a11, a01, ↓li_m, ↓oc_some, ↓oc_ite, ↓oc_oc, ↓oc_pl, ↓oc_none, ↓oc_oe, ↓pl_eq, ↓oe_i, ↓oe_j, va_up_self, va_up_ne, va_up_up, upd_s, upd_n, updL_s, updL_n, nI_add, nI_1, nI_ltI, nI_leI, nI_eq, nI_clamp, li_n, m1_lt, m1_le, m1_gt, m1_ge, m1_ne, m1_en, m1_ad, nle_F, nle_T, nlt_F, nlt_T, neq_F, neq_T, or_self, or_false, false_or, true_or, or_true, and_self, and_false, false_and, true_and, and_true, not_true_eq_false, not_false_eq_true, ↓reduceIte, if_true, if_false, Nat.reduceAdd, ite_self, Bool.false_eq_true, ↓U_Translator_isVariable, ↓U_Translator_isArray]
    · simp (disch := omega) only [a11, a01, ↓li_m, ↓oc_some, ↓oc_ite, ↓oc_oc, ↓oc_pl, ↓oc_none, ↓oc_oe, ↓pl_eq, ↓oe_i, ↓oe_j, va_up_self, va_up_ne, va_up_up, upd_s, upd_n, updL_s, updL_n, nI_add, nI_1, nI_ltI, nI_leI, nI_eq, nI_clamp, li_n, m1_lt, m1_le, m1_gt, m1_ge, m1_ne, m1_en, m1_ad, nle_F, nle_T, nlt_F, nlt_T, neq_F, neq_T, or_self, or_false, false_or, true_or, or_true, and_self, and_false, false_and, true_and, and_true, not_true_eq_false, not_false_eq_true, ↓reduceIte, if_true, if_false, Nat.reduceAdd, ite_self, Bool.false_eq_true, ↓U_Translator_isVariable, ↓U_Translator_isArray]
theorem NSM {R : M3} : cSt R m1 I J = some (nI 0, I, J) := by
  unfold cSt
  simp (disch := omega) only [a11, a01, ↓li_m, ↓oc_some, ↓oc_ite, ↓oc_oc, ↓oc_pl, ↓oc_none, ↓oc_oe, ↓pl_eq, ↓oe_i, ↓oe_j, va_up_self, va_up_ne, va_up_up, upd_s, upd_n, updL_s, updL_n, nI_add, nI_1, nI_ltI, nI_leI, nI_eq, nI_clamp, li_n, m1_lt, m1_le, m1_gt, m1_ge, m1_ne, m1_en, m1_ad, nle_F, nle_T, nlt_F, nlt_T, neq_F, neq_T, or_self, or_false, false_or, true_or, or_true, and_self, and_false, false_and, true_and, and_true, not_true_eq_false, not_false_eq_true, ↓reduceIte, if_true, if_false, Nat.reduceAdd, ite_self, Bool.false_eq_true, ↓U_Translator_isVariable, ↓U_Translator_isArray]
theorem NSR {R : M3} (ht : tpOK n t) (hq : q < n) (hl : lkd n t q) (hs : ¬ isS (t q)) (hM : MA n t P I' q m D U k p g2 g3 g4 g5 c cm) : ∃ I1', f_Model_readStatement R I' J' = some (nI 0, I1', J') ∧ I1' 112 3 = nI 1 ∧ I1' 112 4 = nI q := by
  have tb := ht.2 q hq
  unfold isS at hs
  have b0 := fun {α : Type} {F : Int32 → MI → MJ → Option α} => SM0 (J := J') ht hM hl (F := F)
  rw [cM_lt hq] at b0
  obtain ⟨A1', a1, a2, _⟩ := ARRM (J := J') ht hM
  obtain ⟨B1', b1, b2, _⟩ := VARM (J := J') ht a2
  rw [spq_id hl] at a1 a2 b1 b2
  rw [spq_id hl] at b1 b2
  rw [if_neg (show ¬ isA n t q from fun h => by have := h.2; omega)] at a1
  rw [if_neg (show ¬ isV n t q from fun h => by have := h.2; omega)] at b1
  obtain ⟨N1, n1, n2, n3⟩ := mNo_eq (J := J') ht b2 hl
  refine ⟨N1, ?_, n2, n3⟩
  rw [readSt_eq, b0, if_pos (show ¬ nI (t q) = 62 from fun e => by have := (nI_eq (b := 62) (by omega) (by omega)).mp e; omega), if_neg (show ¬ nI (t q) = 63 from fun e => by have := (nI_eq (b := 63) (by omega) (by omega)).mp e; omega), if_pos (show ¬ nI (t q) = 42 from fun e => by have := (nI_eq (b := 42) (by omega) (by omega)).mp e; omega), if_pos (show ¬ nI (t q) = 64 from fun e => by have := (nI_eq (b := 64) (by omega) (by omega)).mp e; omega), a1, if_pos (show nI 0 = 0 from rfl), b1, if_neg (show ¬ ¬ nI 0 = 0 from fun x => x rfl)]
  exact n1
theorem YS2 (ht : tpOK n t) {x : Int32} {f fu : Nat} {l : Int32} (hf : 1 ≤ f) (hfu : 1 ≤ fu) (h : SS n t x I) : zk (SS n t x) J (f_Translator_statements_2 (f_RcT f) fu l I J) := by
  obtain ⟨g, rfl⟩ : ∃ g, fu = g + 1 := ⟨fu - 1, by omega⟩
  obtain ⟨I1, e1, e3⟩ := Y_1 (J := J) (a := 0) (b := 0) ht hf h
  show zk (SS n t x) J (if 400 ≤ l then (some (.inr (), I, J)) else (oc (f_RcT f 1 0 0 I J) (fun v2 I2 J2 => if ¬ v2 = 0 then (f_Translator_statements_2 (f_RcT f) g (l + 1) I2 J2) else (some (.inl (), I2, J2)))))
  refine zk_ite (fun _ => zk_some h) (fun _ => ?_)
  rw [e1, oc_some, if_neg (show ¬ ¬ nI 0 = 0 from fun x => x rfl)]
  exact zk_some e3
/-- what the loop over statements comes to -/
def OSL (n : Nat) (t : Nat → Nat) (P D U : Nat) (J J' : MJ) (q m k : Nat) {α : Type} (rC : M2 α) (rM : M2 (Int32 ⊕ Unit)) : Prop := (∃ x I1', zk (SQ n t x) J rC ∧ rM = some (.inl 0, I1', J') ∧ I1' 112 3 = nI 1 ∧ I1' 112 4 = x) ∨ (∃ v I1 I1' q' m' k' p' f8 f9 g2 g3 g4 g5 c cc cm, rC = some (v, I1, J) ∧ rM = some (.inr (), I1', J') ∧ CA n t P I1 q' m' D U k' p' f8 f9 cc ∧ MA n t P I1' q' m' D U k' p' g2 g3 g4 g5 c cm ∧ TB f8 f9 g2 g3 g5 c q' ∧ q ≤ q' ∧ lkd n t q' ∧ (m' = m ∨ m' + 5 ≤ m + 5 * (q' - q)) ∧ (k' = 0 → k = 0 ∧ CODE P cc cm m' 0 f8 g3 g4 c) ∧ (n ≤ q' ∨ t q' = 124 ∨ t q' = 93))
theorem STL {f f' : Nat} (ht : tpOK n t) (hD : D ≤ 20) (hU : U ≤ D + 1) (hP : P ≤ 4) (hS1 : D < 20 → STS n t P (D + 1) (U + 1) J J') (hS2 : U = 0 → STS n t P D 1 J J') (hf : FU D U ≤ f + 1) (hf' : FU D U ≤ f' + 1) : ∀ (d fu fu' i q m k p c : Nat) (I I' : MI) (f8 f9 g2 g3 g4 g5 : Nat → Int32) (cc cm : Nat → Nat), n ≤ q + d → i ≤ q → d + 1 < fu → d + 1 < fu' → m ≤ 5 * q → CA n t P I q m D U k p f8 f9 cc → MA n t P I' q m D U k p g2 g3 g4 g5 c cm → TB f8 f9 g2 g3 g5 c q → (k = 0 → CODE P cc cm m 0 f8 g3 g4 c) → OSL n t P D U J J' q m k (f_Translator_statements_2 (f_RcT f) fu (nI i) I J) (f_Model_readStatements_0 (f_RcM f') fu' I' J') := by
  have hn := ht.1
  have hfu := FU_ge D U
  obtain ⟨g, rfl⟩ : ∃ g, f = g + 1 := ⟨f - 1, by omega⟩
  obtain ⟨g', rfl⟩ : ∃ g, f' = g + 1 := ⟨f' - 1, by omega⟩
  intro d
  induction d with
  | zero =>
    intro fu fu' i q m k p c I I' f8 f9 g2 g3 g4 g5 cc cm e1 e2 e3 e4 e5 hA hM hT hC
    obtain ⟨v, rfl⟩ : ∃ v, fu = v + 1 := ⟨fu - 1, by omega⟩
    obtain ⟨v', rfl⟩ : ∃ v, fu' = v + 1 := ⟨fu' - 1, by omega⟩
    have hq : q ≤ n := hA.2.2.2.2.2.2.2.2.2.2.2.2.1
    have hl : lkd n t q := fun h => by omega
    obtain ⟨I1, a1, a2, a3, a4, a5⟩ := LC (J := J) ht hA
    obtain ⟨I1', b1, b2, _⟩ := SM (J := J') ht hM
    rw [spq_id hl] at a1 a2 b1 b2
    have hr : f_Model_readStatements_0 (f_RcM (g' + 1)) (v' + 1) I' J' = some (.inr (), I1', J') := by
      show oc (f_Model_see I' J') _ = _
      rw [b1, cM_ge (by omega), if_pos (show nI 0 = 0 from rfl)]
    by_cases c4 : 400 ≤ i
    · have hc : f_Translator_statements_2 (f_RcT (g + 1)) (v + 1) (nI i) I J = some (.inr (), I, J) := by
        show (if 400 ≤ nI i then _ else _) = _
        rw [if_pos (show 400 ≤ nI i from nI_le (a := 400) c4 (by omega))]
      exact Or.inr ⟨_, I, I1', q, m, k, p, f8, f9, g2, g3, g4, g5, c, cc, cm, hc, hr, hA, b2, hT, Nat.le_refl _, hl, by omega, fun hk => ⟨hk, hC hk⟩, Or.inl (by omega)⟩
    · have hc : f_Translator_statements_2 (f_RcT (g + 1)) (v + 1) (nI i) I J = some (.inl (), I1, J) := by
        show (if 400 ≤ nI i then _ else oc (f_RcT (g + 1) 1 0 0 I J) _) = _
        rw [if_neg (show ¬ 400 ≤ nI i from nI_ge (b := 400) (by omega) (by omega)), RT1, st_eq, oc_oc, a1, cC_ge (by omega), NSM, oc_some, if_neg (show ¬ ¬ nI 0 = 0 from fun x => x rfl)]
      exact Or.inr ⟨_, I1, I1', q, m, k, p, f8, f9, g2, g3, g4, g5, c, cc, cm, hc, hr, a2, b2, hT, Nat.le_refl _, hl, by omega, fun hk => ⟨hk, hC hk⟩, Or.inl (by omega)⟩
  | succ d ih =>
    intro fu fu' i q m k p c I I' f8 f9 g2 g3 g4 g5 cc cm e1 e2 e3 e4 e5 hA hM hT hC
    obtain ⟨v, rfl⟩ : ∃ v, fu = v + 1 := ⟨fu - 1, by omega⟩
    obtain ⟨v', rfl⟩ : ∃ v, fu' = v + 1 := ⟨fu' - 1, by omega⟩
    have hq : q ≤ n := hA.2.2.2.2.2.2.2.2.2.2.2.2.1
    by_cases hqn : q < n
    · obtain ⟨I1, a1, a2, a3, a4, a5⟩ := LC (J := J) ht hA
      obtain ⟨I1', b1, b2, _⟩ := SM (J := J') ht hM
      have b0 := fun {α : Type} {F : Int32 → MI → MJ → Option α} => SM0 (J := J') ht b2 a3 (F := F)
      generalize spq n t q = s at a1 a2 a3 a4 a5 b1 b2 b0
      have hc : f_Translator_statements_2 (f_RcT (g + 1)) (v + 1) (nI i) I J = oc (cSt (f_RcT g) (cCq n t s) I1 J) (fun v2 I2 J2 => if ¬ v2 = 0 then (f_Translator_statements_2 (f_RcT (g + 1)) v (nI i + 1) I2 J2) else (some (.inl (), I2, J2))) := by
        show (if 400 ≤ nI i then _ else oc (f_RcT (g + 1) 1 0 0 I J) _) = _
        rw [if_neg (show ¬ 400 ≤ nI i from nI_ge (b := 400) (by omega) (by omega)), RT1, st_eq, oc_oc, a1]
      have hr : f_Model_readStatements_0 (f_RcM (g' + 1)) (v' + 1) I' J' = if cM n t s = 0 then (some (.inr (), I1', J')) else (if cM n t s = 124 then (some (.inr (), I1', J')) else (if cM n t s = 93 then (some (.inr (), I1', J')) else (oc (f_Model_readStatement (f_RcM g') I1' J') (fun v7 I7 J7 => if ¬ v7 = 0 then (f_Model_readStatements_0 (f_RcM (g' + 1)) v' I7 J7) else (some (.inl 0, I7, J7)))))) := by
        show oc (f_Model_see I' J') _ = _
        rw [b1, b0, b0, RM6]
      rw [hc, hr]
      by_cases hs : s < n
      · have tb := ht.2 s hs
        have t32 := a3 hs
        rw [cC_lt hs, cM_lt hs, if_neg (show ¬ nI (t s) = 0 from fun e => by have := (nI_eq (b := 0) (by omega) (by omega)).mp e; omega)]
        by_cases hi : isS (t s)
        · have hi' := hi
          unfold isS at hi'
          rw [if_neg (show ¬ nI (t s) = 124 from fun e => by have := (nI_eq (b := 124) (by omega) (by omega)).mp e; omega), if_neg (show ¬ nI (t s) = 93 from fun e => by have := (nI_eq (b := 93) (by omega) (by omega)).mp e; omega)]
          obtain ⟨r, s1, s2⟩ := STM (f := g) (f' := g') ht hD hU hP hS1 hS2 (by omega) (by omega) hs a3 hi a2 b2 (TB_mono hT (by omega)) hC (by omega)
          rw [s1, oc_oc]
          rcases s2 with ⟨x, R1', x1, x2, x3, x4⟩ | ⟨w, R1, R1', q5, m5, k5, p5, f85, f95, g25, g35, g45, g55, c5, cc5, cm5, x1, x2, x3, x4, x5, x6, x7, x8⟩
          · rw [x2, oc_some, if_neg (show ¬ ¬ nI 0 = 0 from fun x => x rfl)]
            refine Or.inl ⟨x, R1', ?_, rfl, x3, x4⟩
            refine zk_oc x1 (fun _ I2 h => ?_)
            rw [oc_some, if_pos (show ¬ (1 : Int32) = 0 by decide)]
            exact zk_mono (YS2 ht (by omega) (by omega) h) (fun _ h => Or.inl h)
          · have hq5 : q5 ≤ n := x3.2.2.2.2.2.2.2.2.2.2.2.2.1
            rw [x1, x2, oc_some, oc_some, oc_some, if_pos (show ¬ (1 : Int32) = 0 by decide), if_pos (show ¬ nI 1 = 0 by decide), nI_1]
            have X := ih v v' (i + 1) q5 m5 k5 p5 c5 R1 R1' f85 f95 g25 g35 g45 g55 cc5 cm5 (by omega) (by omega) (by omega) (by omega) (by omega) x3 x4 x5 (fun hk => (x8 hk).2)
            rcases X with X | ⟨w', K1, K1', q6, m6, k6, p6, f86, f96, g26, g36, g46, g56, c6, cc6, cm6, y1, y2, y3, y4, y5, y6, y7, y8, y9, y10⟩
            · exact Or.inl X
            · exact Or.inr ⟨w', K1, K1', q6, m6, k6, p6, f86, f96, g26, g36, g46, g56, c6, cc6, cm6, y1, y2, y3, y4, y5, by omega, y7, by omega, fun hk => ⟨(x8 (y9 hk).1).1, (y9 hk).2⟩, y10⟩
        · rw [NST (by omega) hi, oc_some, if_neg (show ¬ ¬ nI 0 = 0 from fun x => x rfl)]
          by_cases h1 : t s = 124
          · rw [if_pos (show nI (t s) = 124 by rw [h1]; rfl)]
            exact Or.inr ⟨_, I1, I1', s, m, k, p, f8, f9, g2, g3, g4, g5, c, cc, cm, rfl, rfl, a2, b2, TB_mono hT (by omega), a4, a3, by omega, fun hk => ⟨hk, hC hk⟩, Or.inr (Or.inl h1)⟩
          · rw [if_neg (show ¬ nI (t s) = 124 from fun e => h1 ((nI_eq (b := 124) (by omega) (by omega)).mp e))]
            by_cases h2 : t s = 93
            · rw [if_pos (show nI (t s) = 93 by rw [h2]; rfl)]
              exact Or.inr ⟨_, I1, I1', s, m, k, p, f8, f9, g2, g3, g4, g5, c, cc, cm, rfl, rfl, a2, b2, TB_mono hT (by omega), a4, a3, by omega, fun hk => ⟨hk, hC hk⟩, Or.inr (Or.inr h2)⟩
            · rw [if_neg (show ¬ nI (t s) = 93 from fun e => h2 ((nI_eq (b := 93) (by omega) (by omega)).mp e))]
              obtain ⟨R1', r1, r2, r3⟩ := NSR (R := f_RcM g') (J' := J') ht hs a3 hi b2
              rw [r1, oc_some, if_neg (show ¬ ¬ nI 0 = 0 from fun x => x rfl)]
              exact Or.inl ⟨nI s, R1', zk_some (Or.inr ⟨P, s, m, D, U, k, p, f8, f9, cc, a2, a3, hs, h1, h2, rfl⟩), rfl, r2, r3⟩
      · rw [cC_ge (by omega), cM_ge (by omega), NSM, oc_some, if_neg (show ¬ ¬ nI 0 = 0 from fun x => x rfl), if_pos (show nI 0 = 0 from rfl)]
        exact Or.inr ⟨_, I1, I1', s, m, k, p, f8, f9, g2, g3, g4, g5, c, cc, cm, rfl, rfl, a2, b2, TB_mono hT (by omega), a4, a3, by omega, fun hk => ⟨hk, hC hk⟩, Or.inl (by omega)⟩
    · exact ih (v + 1) (v' + 1) i q m k p c I I' f8 f9 g2 g3 g4 g5 cc cm (by omega) e2 (by omega) (by omega) e5 hA hM hT hC
theorem STS_of (ht : tpOK n t) (hD : D ≤ 20) (hU : U ≤ D + 1) (hP : P ≤ 4) (hS1 : D < 20 → STS n t P (D + 1) (U + 1) J J') (hS2 : U = 0 → STS n t P D 1 J J') : STS n t P D U J J' := by
  intro fc fm q m k p c I I' f8 f9 g2 g3 g4 g5 cc cm h1 h2 h3 hA hM hT hC
  have hn := ht.1
  have hfu := FU_ge D U
  obtain ⟨g, rfl⟩ : ∃ g, fc = g + 1 := ⟨fc - 1, by omega⟩
  obtain ⟨g', rfl⟩ : ∃ g, fm = g + 1 := ⟨fm - 1, by omega⟩
  have X := STL (f := g) (f' := g') ht hD hU hP hS1 hS2 h1 h2 n gF gF 0 q m k p c I I' f8 f9 g2 g3 g4 g5 cc cm (by omega) (by omega) (gF_lt (by omega)) (gF_lt (by omega)) h3 hA hM hT hC
  rw [RT0, RM5]
  unfold f_Translator_statements f_Model_readStatements
  rw [oc_oc]
  rcases X with ⟨x, R1', x1, x2, x3, x4⟩ | ⟨w, R1, R1', q5, m5, k5, p5, f85, f95, g25, g35, g45, g55, c5, cc5, cm5, x1, x2, x3⟩
  · rw [x2, oc_some, oe_i]
    refine Or.inl ⟨x, R1', ?_, rfl, x3, x4⟩
    refine zk_oc x1 (fun v I2 h => ?_)
    cases v with
    | inl _ => exact zk_some h
    | inr _ => exact zk_some h
  · have x1' : f_Translator_statements_2 (f_RcT g) gF 0 I J = some (w, R1, J) := x1
    rw [x1', x2, oc_some, oc_some, oe_j]
    refine Or.inr ⟨0, R1, R1', q5, m5, k5, p5, f85, f95, g25, g35, g45, g55, c5, cc5, cm5, ?_, rfl, x3⟩
    cases w with
    | inl _ => rfl
    | inr _ => rfl
theorem STS_all (ht : tpOK n t) (hP : P ≤ 4) : ∀ (e D U : Nat), D ≤ 20 → U ≤ D + 1 → 2 * (20 - D) + (if U = 0 then 1 else 0) ≤ e → STS n t P D U J J' := by
  intro e
  induction e with
  | zero =>
    intro D U h1 h2 h3
    refine STS_of ht h1 h2 hP (fun h => ?_) (fun h => ?_)
    · omega
    · rw [if_pos h] at h3
      omega
  | succ e ih =>
    intro D U h1 h2 h3
    refine STS_of ht h1 h2 hP (fun h => ?_) (fun h => ?_)
    · refine ih (D + 1) (U + 1) (by omega) (by omega) ?_
      rw [if_neg (by omega)]
      omega
    · refine ih D 1 (by omega) (by omega) ?_
      rw [if_neg (by omega)]
      rw [if_pos h] at h3
      omega
end CM
