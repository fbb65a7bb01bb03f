/-! compile: what expressions are made of -/
def FX (n : Nat) (t : Nat → Nat) (I I' : MI) : Prop := ∃ x, SD n t x I ∧ I' 112 3 = nI 1 ∧ I' 112 4 = x
def FS (n : Nat) (t : Nat → Nat) (I I' : MI) : Prop := ∃ x, SS n t x I ∧ I' 112 3 = nI 1 ∧ I' 112 4 = x
theorem FS.fx {n : Nat} {t : Nat → Nat} {I I' : MI} (h : FS n t I I') : FX n t I I' := by
  obtain ⟨x, h1, h2⟩ := h
  exact ⟨x, h1.sd, h2⟩
/-- what a part of an expression comes to -/
def OX (n : Nat) (t : Nat → Nat) (P D U : Nat) (f8 f9 g2 g3 g4 g5 : Nat → Int32) (c : Nat) (J J' : MJ) (q m h k : Nat) (rC rM : M2 Int32) : Prop := ∃ v I1 v' I1', rC = some (v, I1, J) ∧ rM = some (v', I1', J') ∧ (v = nI 0 ∨ v = nI 1) ∧ ((v' = nI 0 ∧ FX n t I1 I1') ∨ (v' = nI 1 ∧ ∃ q' m' k' p' cc' cm', CA n t P I1 q' m' D U k' p' f8 f9 cc' ∧ MA n t P I1' q' m' D U k' p' g2 g3 g4 g5 c cm' ∧ I1' 112 73 = v ∧ q < q' ∧ m' ≤ m + 5 * (q' - q) + 4 ∧ (k' = 0 → k = 0 ∧ CODE P cc' cm' m' (h + 1) f8 g3 g4 c)))
theorem cC_lt {n q : Nat} {t : Nat → Nat} (h : q < n) : cCq n t q = nI (t q) := if_pos h
theorem cM_lt {n q : Nat} {t : Nat → Nat} (h : q < n) : cM n t q = nI (t q) := if_pos h
theorem cC_ge {n q : Nat} {t : Nat → Nat} (h : n ≤ q) : cCq n t q = m1 := if_neg (by omega)
theorem cM_ge {n q : Nat} {t : Nat → Nat} (h : n ≤ q) : cM n t q = nI 0 := if_neg (by omega)
section CM
variable {n P q m D U k p c : Nat} {t : Nat → Nat} {I I' : MI} {J J' : MJ} {f8 f9 g2 g3 g4 g5 : Nat → Int32} {cc cm : Nat → Nat}
theorem EM1' {o : Nat} {a u v w : Int32} (h : CA n t P I q m D U k p f8 f9 cc) (ha : a = nI o) (ho : o ≤ 29) (hl : opl o = 1) (hm : m < 2000) : ∃ I1, (∀ {α : Type} {F : Unit → MI → MJ → Option α}, oc (f_Translator_emit a u v w I J) F = F () I1 J) ∧ CA n t P I1 q (m + 1) D U k p f8 f9 (apn cc m o) := by
  subst ha
  exact EM1 h ho hl hm
theorem EM2' {o b : Nat} {a u v w : Int32} (h : CA n t P I q m D U k p f8 f9 cc) (ha : a = nI o) (ho : o ≤ 29) (hl : opl o = 2) (hm : m + 1 < 2000) (hu : u &&& 255 = nI b) : ∃ I1, (∀ {α : Type} {F : Unit → MI → MJ → Option α}, oc (f_Translator_emit a u v w I J) F = F () I1 J) ∧ CA n t P I1 q (m + 2) D U k p f8 f9 (apn (apn cc m o) (m + 1) b) := by
  subst ha
  exact EM2 h ho hl hm hu
/-- a character that must come -/
theorem WNT (ht : tpOK n t) {x : Int32} {ch m2 D2 U2 k2 p2 : Nat} (hx : x = nI ch) (h1 : 33 ≤ ch) (h2 : ch ≤ 126) (h : CA n t P I q m D U k p f8 f9 cc) (h' : MA n t P I' q m2 D2 U2 k2 p2 g2 g3 g4 g5 c cm) : ∃ I1 I1' v', (∀ {α : Type} {F : Unit → MI → MJ → Option α}, oc (f_Translator_expect x I J) F = F () I1 J) ∧ (∀ {α : Type} {F : Int32 → MI → MJ → Option α}, oc (f_Model_want x I' J') F = F v' I1' J') ∧ ((v' = nI 0 ∧ FS n t I1 I1') ∨ (v' = nI 1 ∧ ∃ q', q < q' ∧ CA n t P I1 q' m D U k p f8 f9 cc ∧ MA n t P I1' q' m2 D2 U2 k2 p2 g2 g3 g4 g5 c cm ∧ I1' 112 73 = I' 112 73)) := by
  subst hx
  obtain ⟨I1, a1, a2, a3, a4, a5⟩ := LC (J := J) ht h
  obtain ⟨I1', b1, b2, b3⟩ := SM (J := J') ht h'
  generalize spq n t q = s at a1 a2 a3 a4 a5 b1 b2
  by_cases e : s < n ∧ t s = ch
  · obtain ⟨I2, c1, c2⟩ := PC (J := J) a2 e.1
    obtain ⟨I2', d1, d2, d3, d4⟩ := PM b2 e.1
    refine ⟨I2, I2', nI 1, ?_, ?_, Or.inr ⟨rfl, s + 1, by omega, c2, d2, d3.trans b3⟩⟩
    · intro α F
      unfold f_Translator_expect
      simp (disch := omega) only [a11, a01, ↓li_m, ↓oc_some, ↓oc_ite, ↓oc_oc, ↓oc_pl, ↓oc_none, ↓oc_oe, ↓pl_eq, ↓oe_i, ↓oe_j, va_up_self, va_up_ne, va_up_up, upd_s, upd_n, updL_s, updL_n, nI_add, nI_1, nI_ltI, nI_leI, nI_eq, nI_clamp, li_n, m1_lt, m1_le, m1_gt, m1_ge, m1_ne, m1_en, m1_ad, nle_F, nle_T, nlt_F, nlt_T, neq_F, neq_T, or_self, or_false, false_or, true_or, or_true, and_self, and_false, false_and, true_and, and_true, not_true_eq_false, not_false_eq_true, ↓reduceIte, if_true, if_false, Nat.reduceAdd, ite_self, Bool.false_eq_true, ↓a1, ↓c1, cC_lt e.1, e.2]
    · intro α F
      unfold f_Model_want
      rw [cM_lt e.1, e.2] at b1
      simp (disch := omega) only [a11, a01, ↓li_m, ↓oc_some, ↓oc_ite, ↓oc_oc, ↓oc_pl, ↓oc_none, ↓oc_oe, ↓pl_eq, ↓oe_i, ↓oe_j, va_up_self, va_up_ne, va_up_up, upd_s, upd_n, updL_s, updL_n, nI_add, nI_1, nI_ltI, nI_leI, nI_eq, nI_clamp, li_n, m1_lt, m1_le, m1_gt, m1_ge, m1_ne, m1_en, m1_ad, nle_F, nle_T, nlt_F, nlt_T, neq_F, neq_T, or_self, or_false, false_or, true_or, or_true, and_self, and_false, false_and, true_and, and_true, not_true_eq_false, not_false_eq_true, ↓reduceIte, if_true, if_false, Nat.reduceAdd, ite_self, Bool.false_eq_true, ↓U_Model_takes, ↓b1, n10e, d4]
  · have hne : ¬ cCq n t s = nI ch := by
      by_cases q : s < n
      · rw [cC_lt q]
        exact fun c => e ⟨q, (nI_eq (by have := (ht.2 s q).2; omega) (by omega)).mp c⟩
      · rw [cC_ge (by omega)]
        exact fun c => by rw [m1_ne (n := ch) (by omega)] at c; exact c
    have hne' : ¬ cM n t s = nI ch := by
      by_cases q : s < n
      · rw [cM_lt q]
        exact fun c => e ⟨q, (nI_eq (by have := (ht.2 s q).2; omega) (by omega)).mp c⟩
      · rw [cM_ge (by omega)]
        exact fun c => by have := (nI_eq (by omega) (by omega)).mp c; omega
    obtain ⟨I2, c1, c2⟩ := RC (J := J) a2
    obtain ⟨I2', d1, d2, d3⟩ := RM (J := J') ht b2 a3
    refine ⟨I2, I2', nI 0, ?_, ?_, Or.inl ⟨rfl, nI s, c2, d2, d3⟩⟩
    · intro α F
      unfold f_Translator_expect
      simp (disch := omega) only [a11, a01, ↓li_m, ↓oc_some, ↓oc_ite, ↓oc_oc, ↓oc_pl, ↓oc_none, ↓oc_oe, ↓pl_eq, ↓oe_i, ↓oe_j, va_up_self, va_up_ne, va_up_up, upd_s, upd_n, updL_s, updL_n, nI_add, nI_1, nI_ltI, nI_leI, nI_eq, nI_clamp, li_n, m1_lt, m1_le, m1_gt, m1_ge, m1_ne, m1_en, m1_ad, nle_F, nle_T, nlt_F, nlt_T, neq_F, neq_T, or_self, or_false, false_or, true_or, or_true, and_self, and_false, false_and, true_and, and_true, not_true_eq_false, not_false_eq_true, ↓reduceIte, if_true, if_false, Nat.reduceAdd, ite_self, Bool.false_eq_true, ↓a1, ↓c1, hne]
    · intro α F
      unfold f_Model_want
      simp (disch := omega) only [a11, a01, ↓li_m, ↓oc_some, ↓oc_ite, ↓oc_oc, ↓oc_pl, ↓oc_none, ↓oc_oe, ↓pl_eq, ↓oe_i, ↓oe_j, va_up_self, va_up_ne, va_up_up, upd_s, upd_n, updL_s, updL_n, nI_add, nI_1, nI_ltI, nI_leI, nI_eq, nI_clamp, li_n, m1_lt, m1_le, m1_gt, m1_ge, m1_ne, m1_en, m1_ad, nle_F, nle_T, nlt_F, nlt_T, neq_F, neq_T, or_self, or_false, false_or, true_or, or_true, and_self, and_false, false_and, true_and, and_true, not_true_eq_false, not_false_eq_true, ↓reduceIte, if_true, if_false, Nat.reduceAdd, ite_self, Bool.false_eq_true, ↓U_Model_takes, ↓b1, hne', ↓d1]
/-- squares -/
theorem FLP (ht : tpOK n t) {R R' : M3} {l : Int32} {hh : Nat} (hl : l = nI 0 ∨ l = nI 1) (h1 : 1 ≤ hh) : ∀ (d fu fu' i q m : Nat) (I I' : MI) (cc cm : Nat → Nat), n ≤ q + d → i ≤ q → d < fu → d < fu' → m + 6 ≤ 5 * q → CA n t P I q m D U k p f8 f9 cc → MA n t P I' q m D U k p g2 g3 g4 g5 c cm → I' 112 73 = l → (k = 0 → CODE P cc cm m hh f8 g3 g4 c) → ∃ I1 I1' q' m' cc' cm', f_Translator_factor_40 R fu l (nI i) I J = some ((), I1, J) ∧ f_Model_readFactor_79 R' fu' I' J' = some ((), I1', J') ∧ CA n t P I1 q' m' D U k p f8 f9 cc' ∧ MA n t P I1' q' m' D U k p g2 g3 g4 g5 c cm' ∧ I1' 112 73 = l ∧ q ≤ q' ∧ m' ≤ m + 5 * (q' - q) ∧ (k = 0 → CODE P cc' cm' m' hh f8 g3 g4 c) := by
  intro d
  induction d with
  | zero =>
    intro fu fu' i q m I I' cc cm e1 e2 e3 e4 e5 h h' hs hC
    obtain ⟨f, rfl⟩ : ∃ f, fu = f + 1 := ⟨fu - 1, by omega⟩
    obtain ⟨f', rfl⟩ : ∃ f, fu' = f + 1 := ⟨fu' - 1, by omega⟩
    have hq : q ≤ n := h.2.2.2.2.2.2.2.2.2.2.2.2.1
    have hn := ht.1
    have hk : lkd n t q := fun c => by omega
    refine ⟨I, I', q, m, cc, cm, ?_, ?_, h, h', hs, Nat.le_refl q, by omega, hC⟩
    · rw [f_Translator_factor_40]
      have a0 := fun {α : Type} {F : Int32 → MI → MJ → Option α} => LC0 (J := J) ht h hk (F := F)
      by_cases x : 400 ≤ i
      · simp (disch := omega) only [a11, a01, ↓li_m, ↓oc_some, ↓oc_ite, ↓oc_oc, ↓oc_pl, ↓oc_none, ↓oc_oe, ↓pl_eq, ↓oe_i, ↓oe_j, va_up_self, va_up_ne, va_up_up, upd_s, upd_n, updL_s, updL_n, nI_add, nI_1, nI_ltI, nI_leI, nI_eq, nI_clamp, li_n, m1_lt, m1_le, m1_gt, m1_ge, m1_ne, m1_en, m1_ad, nle_F, nle_T, nlt_F, nlt_T, neq_F, neq_T, or_self, or_false, false_or, true_or, or_true, and_self, and_false, false_and, true_and, and_true, not_true_eq_false, not_false_eq_true, ↓reduceIte, if_true, if_false, Nat.reduceAdd, ite_self, Bool.false_eq_true]
      · simp (disch := omega) only [a11, a01, ↓li_m, ↓oc_some, ↓oc_ite, ↓oc_oc, ↓oc_pl, ↓oc_none, ↓oc_oe, ↓pl_eq, ↓oe_i, ↓oe_j, va_up_self, va_up_ne, va_up_up, upd_s, upd_n, updL_s, updL_n, nI_add, nI_1, nI_ltI, nI_leI, nI_eq, nI_clamp, li_n, m1_lt, m1_le, m1_gt, m1_ge, m1_ne, m1_en, m1_ad, nle_F, nle_T, nlt_F, nlt_T, neq_F, neq_T, or_self, or_false, false_or, true_or, or_true, and_self, and_false, false_and, true_and, and_true, not_true_eq_false, not_false_eq_true, ↓reduceIte, if_true, if_false, Nat.reduceAdd, ite_self, Bool.false_eq_true, ↓a0, cC_ge (show n ≤ q by omega)]
    · rw [f_Model_readFactor_79]
      have b0 := fun {α : Type} {F : Int32 → MI → MJ → Option α} => SM0 (J := J') ht h' hk (F := F)
      simp (disch := omega) only [a11, a01, ↓li_m, ↓oc_some, ↓oc_ite, ↓oc_oc, ↓oc_pl, ↓oc_none, ↓oc_oe, ↓pl_eq, ↓oe_i, ↓oe_j, va_up_self, va_up_ne, va_up_up, upd_s, upd_n, updL_s, updL_n, nI_add, nI_1, nI_ltI, nI_leI, nI_eq, nI_clamp, li_n, m1_lt, m1_le, m1_gt, m1_ge, m1_ne, m1_en, m1_ad, nle_F, nle_T, nlt_F, nlt_T, neq_F, neq_T, or_self, or_false, false_or, true_or, or_true, and_self, and_false, false_and, true_and, and_true, not_true_eq_false, not_false_eq_true, ↓reduceIte, if_true, if_false, Nat.reduceAdd, ite_self, Bool.false_eq_true, ↓U_Model_takes, ↓b0, cM_ge (show n ≤ q by omega)]
  | succ d ih =>
    intro fu fu' i q m I I' cc cm e1 e2 e3 e4 e5 h h' hs hC
    obtain ⟨f, rfl⟩ : ∃ f, fu = f + 1 := ⟨fu - 1, by omega⟩
    obtain ⟨f', rfl⟩ : ∃ f, fu' = f + 1 := ⟨fu' - 1, by omega⟩
    have hq : q ≤ n := h.2.2.2.2.2.2.2.2.2.2.2.2.1
    have hn := ht.1
    obtain ⟨I1, a1, a2, a3, a4, a5⟩ := LC (J := J) ht h
    obtain ⟨I1', b1, b2, b3⟩ := SM (J := J') ht h'
    generalize spq n t q = s at a1 a2 a3 a4 a5 b1 b2
    by_cases e : s < n ∧ t s = 94
    · obtain ⟨I2, c1, c2⟩ := PC (J := J) a2 e.1
      obtain ⟨I2', d1, d2, d3, d4⟩ := PM b2 e.1
      have hs2 : I2' 112 73 = l := d3.trans (b3.trans hs)
      have ex : ∃ o, (o = 9 ∨ o = 10) ∧ (if l = 0 then (9 : Int32) else 10) = nI o ∧ ∃ I3 I3', (∀ {α : Type} {F : Unit → MI → MJ → Option α}, oc (f_Translator_emit (if l = 0 then (9 : Int32) else 10) 0 0 0 I2 J) F = F () I3 J) ∧ CA n t P I3 (s + 1) (m + 1) D U k p f8 f9 (apn cc m o) ∧ (∀ {α : Type} {F : Unit → MI → MJ → Option α}, oc (f_Model_lay_IV (nI o) I2' J') F = F () I3' J') ∧ MA n t P I3' (s + 1) (m + 1) D U k p g2 g3 g4 g5 c (apn cm m o) ∧ I3' 112 73 = l := by
        rcases hl with hl | hl
        · obtain ⟨I3, f1, f2⟩ := EM1' (J := J) (a := (if l = 0 then (9 : Int32) else 10)) (u := 0) (v := 0) (w := 0) (o := 9) c2 (by rw [hl]; rfl) (by decide) (by decide) (by omega)
          obtain ⟨I3', g1, g2', g3'⟩ := AM (J := J') (b := 9) (v := nI 9) d2 (by omega) rfl
          exact ⟨9, Or.inl rfl, by rw [hl]; rfl, I3, I3', f1, f2, g1, g2', g3'.trans hs2⟩
        · obtain ⟨I3, f1, f2⟩ := EM1' (J := J) (a := (if l = 0 then (9 : Int32) else 10)) (u := 0) (v := 0) (w := 0) (o := 10) c2 (by rw [hl]; rfl) (by decide) (by decide) (by omega)
          obtain ⟨I3', g1, g2', g3'⟩ := AM (J := J') (b := 10) (v := nI 10) d2 (by omega) rfl
          exact ⟨10, Or.inr rfl, by rw [hl]; rfl, I3, I3', f1, f2, g1, g2', g3'.trans hs2⟩
      obtain ⟨o, ho, hol, I3, I3', f1, f2, g1, g2', g3'⟩ := ex
      have hC' : k = 0 → CODE P (apn cc m o) (apn cm m o) (m + 1) hh f8 g3 g4 c := by
        intro hk
        have ol : opl o = 1 := by rcases ho with rfl | rfl <;> rfl
        have on : nd o = 1 := by rcases ho with rfl | rfl <;> rfl
        have og : gv o = 1 := by rcases ho with rfl | rfl <;> rfl
        have H := hC hk
        have h64 : hh ≤ 64 := by
          obtain ⟨st, hg, ⟨_, _, x, _⟩, _⟩ := H
          exact x
        have X := CODE_ext (o := o) (cc' := apn cc m o) (cm' := apn cm m o) H (fun j hj => apn_n _ _ (by omega)) (fun j hj => apn_n _ _ (by omega)) (fun j j1 j2 => by
          rw [ol] at j2
          rw [show j = m by omega, apn_s, apn_s]
          exact ⟨rfl, by omega⟩) (apn_s _ _ _) (by omega) (by omega) (by omega) (by
          unfold opok
          rw [apn_s]
          rcases ho with rfl | rfl <;> rfl) (by omega) (by omega) (fun x => by omega) (fun x => by omega)
        rw [ol, on, og, show hh - 1 + 1 = hh by omega] at X
        exact X
      obtain ⟨I4, I4', q', m', cc', cm', r1, r2, r3, r4, r5, r6, r7, r8⟩ := ih f f' (i + 1) (s + 1) (m + 1) I3 I3' (apn cc m o) (apn cm m o) (by omega) (by omega) (by omega) (by omega) (by omega) f2 g2' g3' hC'
      refine ⟨I4, I4', q', m', cc', cm', ?_, ?_, r3, r4, r5, by omega, by omega, r8⟩
      · rw [f_Translator_factor_40, if_neg (show ¬ (400 : Int32) ≤ nI i from nI_ge (b := 400) (by omega) (by decide)), a1, cC_lt e.1, e.2, if_neg (show ¬ ¬ nI 94 = 94 from fun x => x rfl), c1, pl_eq, f1, nI_1, r1]
      · rw [f_Model_readFactor_79]
        rw [cM_lt e.1, e.2] at b1
        have fin : ∀ {α : Type} {F : Unit → MI → MJ → Option α}, (if I1' 112 73 = nI 0 then oc (f_Model_lay_IV (nI 9) I2' J') F else oc (f_Model_lay_IV (nI 10) I2' J') F) = F () I3' J' := by
          intro α F
          have g1' := g1 (F := F)
          rw [b3.trans hs]
          rcases hl with hl | hl
          · rw [hl] at hol ⊢
            rw [show nI o = nI 9 from hol.symm] at g1'
            rw [if_pos rfl, g1']
          · rw [hl] at hol ⊢
            rw [show nI o = nI 10 from hol.symm] at g1'
            rw [if_neg n10, g1']
        simp (disch := omega) only [a11, a01, ↓li_m, ↓oc_some, ↓oc_ite, ↓oc_oc, ↓oc_pl, ↓oc_none, ↓oc_oe, ↓pl_eq, ↓oe_i, ↓oe_j, va_up_self, va_up_ne, va_up_up, upd_s, upd_n, updL_s, updL_n, nI_add, nI_1, nI_ltI, nI_leI, nI_eq, nI_clamp, li_n, m1_lt, m1_le, m1_gt, m1_ge, m1_ne, m1_en, m1_ad, nle_F, nle_T, nlt_F, nlt_T, neq_F, neq_T, or_self, or_false, false_or, true_or, or_true, and_self, and_false, false_and, true_and, and_true, not_true_eq_false, not_false_eq_true, ↓reduceIte, if_true, if_false, Nat.reduceAdd, ite_self, Bool.false_eq_true, ↓U_Model_takes, ↓b1, n10e, d4]
        rw [← r2]
        exact fin
    · have hne : ¬ cCq n t s = nI 94 := by
        by_cases q : s < n
        · rw [cC_lt q]
          exact fun c => e ⟨q, (nI_eq (by have := (ht.2 s q).2; omega) (by omega)).mp c⟩
        · rw [cC_ge (by omega)]
          decide
      have hne' : ¬ cM n t s = nI 94 := by
        by_cases q : s < n
        · rw [cM_lt q]
          exact fun c => e ⟨q, (nI_eq (by have := (ht.2 s q).2; omega) (by omega)).mp c⟩
        · rw [cM_ge (by omega)]
          decide
      by_cases x : 400 ≤ i
      · have hsq : s = q := by omega
        subst hsq
        refine ⟨I, I1', s, m, cc, cm, ?_, ?_, h, b2, b3.trans hs, by omega, by omega, hC⟩
        · rw [f_Translator_factor_40]
          simp (disch := omega) only [a11, a01, ↓li_m, ↓oc_some, ↓oc_ite, ↓oc_oc, ↓oc_pl, ↓oc_none, ↓oc_oe, ↓pl_eq, ↓oe_i, ↓oe_j, va_up_self, va_up_ne, va_up_up, upd_s, upd_n, updL_s, updL_n, nI_add, nI_1, nI_ltI, nI_leI, nI_eq, nI_clamp, li_n, m1_lt, m1_le, m1_gt, m1_ge, m1_ne, m1_en, m1_ad, nle_F, nle_T, nlt_F, nlt_T, neq_F, neq_T, or_self, or_false, false_or, true_or, or_true, and_self, and_false, false_and, true_and, and_true, not_true_eq_false, not_false_eq_true, ↓reduceIte, if_true, if_false, Nat.reduceAdd, ite_self, Bool.false_eq_true]
        · rw [f_Model_readFactor_79]
          simp (disch := omega) only [a11, a01, ↓li_m, ↓oc_some, ↓oc_ite, ↓oc_oc, ↓oc_pl, ↓oc_none, ↓oc_oe, ↓pl_eq, ↓oe_i, ↓oe_j, va_up_self, va_up_ne, va_up_up, upd_s, upd_n, updL_s, updL_n, nI_add, nI_1, nI_ltI, nI_leI, nI_eq, nI_clamp, li_n, m1_lt, m1_le, m1_gt, m1_ge, m1_ne, m1_en, m1_ad, nle_F, nle_T, nlt_F, nlt_T, neq_F, neq_T, or_self, or_false, false_or, true_or, or_true, and_self, and_false, false_and, true_and, and_true, not_true_eq_false, not_false_eq_true, ↓reduceIte, if_true, if_false, Nat.reduceAdd, ite_self, Bool.false_eq_true, ↓U_Model_takes, ↓b1, hne']
      · refine ⟨I1, I1', s, m, cc, cm, ?_, ?_, a2, b2, b3.trans hs, by omega, by omega, hC⟩
        · rw [f_Translator_factor_40]
          simp (disch := omega) only [a11, a01, ↓li_m, ↓oc_some, ↓oc_ite, ↓oc_oc, ↓oc_pl, ↓oc_none, ↓oc_oe, ↓pl_eq, ↓oe_i, ↓oe_j, va_up_self, va_up_ne, va_up_up, upd_s, upd_n, updL_s, updL_n, nI_add, nI_1, nI_ltI, nI_leI, nI_eq, nI_clamp, li_n, m1_lt, m1_le, m1_gt, m1_ge, m1_ne, m1_en, m1_ad, nle_F, nle_T, nlt_F, nlt_T, neq_F, neq_T, or_self, or_false, false_or, true_or, or_true, and_self, and_false, false_and, true_and, and_true, not_true_eq_false, not_false_eq_true, ↓reduceIte, if_true, if_false, Nat.reduceAdd, ite_self, Bool.false_eq_true, ↓a1, hne]
        · rw [f_Model_readFactor_79]
          simp (disch := omega) only [a11, a01, ↓li_m, ↓oc_some, ↓oc_ite, ↓oc_oc, ↓oc_pl, ↓oc_none, ↓oc_oe, ↓pl_eq, ↓oe_i, ↓oe_j, va_up_self, va_up_ne, va_up_up, upd_s, upd_n, updL_s, updL_n, nI_add, nI_1, nI_ltI, nI_leI, nI_eq, nI_clamp, li_n, m1_lt, m1_le, m1_gt, m1_ge, m1_ne, m1_en, m1_ad, nle_F, nle_T, nlt_F, nlt_T, neq_F, neq_T, or_self, or_false, false_or, true_or, or_true, and_self, and_false, false_and, true_and, and_true, not_true_eq_false, not_false_eq_true, ↓reduceIte, if_true, if_false, Nat.reduceAdd, ite_self, Bool.false_eq_true, ↓U_Model_takes, ↓b1, hne']
end CM
