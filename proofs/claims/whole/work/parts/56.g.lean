/-! compile: numbers and places -/
theorem FX_15 {n : Nat} {t : Nat → Nat} {I I' : MI} {y : Int32} (h : FX n t I I') : FX n t I (va_up I' 112 (upd (I' 112) 15 y)) := by
  obtain ⟨x, h1, h2, h3⟩ := h
  exact ⟨x, h1, by simp (disch := omega) only [a11, a01, ↓li_m, ↓oc_some, ↓oc_ite, ↓oc_oc, ↓oc_pl, ↓oc_none, ↓oc_oe, ↓pl_eq, ↓oe_i, ↓oe_j, va_up_self, va_up_ne, va_up_up, upd_s, upd_n, updL_s, updL_n, nI_add, nI_1, nI_ltI, nI_leI, nI_eq, nI_clamp, li_n, m1_lt, m1_le, m1_gt, m1_ge, m1_ne, m1_en, m1_ad, nle_F, nle_T, nlt_F, nlt_T, neq_F, neq_T, or_self, or_false, false_or, true_or, or_true, and_self, and_false, false_and, true_and, and_true, not_true_eq_false, not_false_eq_true, ↓reduceIte, if_true, if_false, Nat.reduceAdd, ite_self, Bool.false_eq_true, h2], by simp (disch := omega) only [a11, a01, ↓li_m, ↓oc_some, ↓oc_ite, ↓oc_oc, ↓oc_pl, ↓oc_none, ↓oc_oe, ↓pl_eq, ↓oe_i, ↓oe_j, va_up_self, va_up_ne, va_up_up, upd_s, upd_n, updL_s, updL_n, nI_add, nI_1, nI_ltI, nI_leI, nI_eq, nI_clamp, li_n, m1_lt, m1_le, m1_gt, m1_ge, m1_ne, m1_en, m1_ad, nle_F, nle_T, nlt_F, nlt_T, neq_F, neq_T, or_self, or_false, false_or, true_or, or_true, and_self, and_false, false_and, true_and, and_true, not_true_eq_false, not_false_eq_true, ↓reduceIte, if_true, if_false, Nat.reduceAdd, ite_self, Bool.false_eq_true, h3]⟩
theorem FX_to {n : Nat} {t : Nat → Nat} {I I1 I' : MI} (h : FX n t I I') (k : ∀ x, SD n t x I → SD n t x I1) : FX n t I1 I' := by
  obtain ⟨x, h1, h2⟩ := h
  exact ⟨x, k x h1, h2⟩
def EXPR (n : Nat) (t : Nat → Nat) (P D U : Nat) (f8 f9 g2 g3 g4 g5 : Nat → Int32) (c : Nat) (J J' : MJ) : Prop := ∀ (fc fm q m k p h : Nat) (I I' : MI) (cc cm : Nat → Nat), 5 * (21 - D) + 4 ≤ fc → 5 * (21 - D) + 4 ≤ fm → m + 10 ≤ 5 * q → h ≤ 2 * D + 1 → CA n t P I q m D U k p f8 f9 cc → MA n t P I' q m D U k p g2 g3 g4 g5 c cm → (k = 0 → CODE P cc cm m h f8 g3 g4 c) → OX n t P D U f8 f9 g2 g3 g4 g5 c J J' q m h k (f_RcT fc 9 0 0 I J) (f_RcM fm 0 0 0 I' J')
def INDX (n : Nat) (t : Nat → Nat) (P D U : Nat) (f8 f9 g2 g3 g4 g5 : Nat → Int32) (c : Nat) (J J' : MJ) : Prop := ∀ (fc fm q m k p h : Nat) (I I' : MI) (cc cm : Nat → Nat), 5 * (21 - D) ≤ fc → 5 * (21 - D) ≤ fm → m + 5 ≤ 5 * q → h ≤ 2 * D + 3 → CA n t P I q m D U k p f8 f9 cc → MA n t P I' q m D U k p g2 g3 g4 g5 c cm → (k = 0 → CODE P cc cm m h f8 g3 g4 c) → ∃ I1 v' I1', f_RcT fc 13 0 0 I J = some (0, I1, J) ∧ f_RcM fm 4 0 0 I' J' = some (v', I1', J') ∧ ((v' = nI 0 ∧ FS n t I1 I1') ∨ (v' = nI 1 ∧ ∃ q' m' k' p' cc' cm', CA n t P I1 q' m' D U k' p' f8 f9 cc' ∧ MA n t P I1' q' m' D U k' p' g2 g3 g4 g5 c cm' ∧ q < q' ∧ m' + 6 ≤ m + 5 * (q' - q) ∧ (k' = 0 → k = 0 ∧ CODE P cc' cm' m' (h + 1) f8 g3 g4 c)))
section CM
variable {n P m D U k p c q : Nat} {t : Nat → Nat} {I I' : MI} {J J' : MJ} {f8 f9 g2 g3 g4 g5 : Nat → Int32} {cc cm : Nat → Nat}
theorem NUM (ht : tpOK n t) {h : Nat} (hA : CA n t P I q m D U k p f8 f9 cc) (hM : MA n t P I' q m D U k p g2 g3 g4 g5 c cm) (hC : k = 0 → CODE P cc cm m h f8 g3 g4 c) (hh : h ≤ 60) (hq : q < n) (h48 : 48 ≤ t q) (h57 : t q ≤ 57) (hm : m + 10 ≤ 5 * q) : ∃ I1 v' I1', (∀ {α : Type} {F : Unit → MI → MJ → Option α}, oc (f_Translator_literal I J) F = F () I1 J) ∧ (∀ {α : Type} {F : Int32 → MI → MJ → Option α}, oc (f_Model_readNumber I' J') F = F v' I1' J') ∧ ((v' = nI 0 ∧ FX n t I1 I1') ∨ (v' = nI 1 ∧ ∃ q' cc' cm', CA n t P I1 q' (m + 9) D U k p f8 f9 cc' ∧ MA n t P I1' q' (m + 9) D U k p g2 g3 g4 g5 c cm' ∧ I1' 112 73 = I' 112 73 ∧ q < q' ∧ (k = 0 → CODE P cc' cm' (m + 9) (h + 1) f8 g3 g4 c))) := by
  have hn := ht.1
  obtain ⟨v1, r, I1, I1', q1, r1, r2, r3, r4, r5, r6, r7, r8⟩ := LIT (J := J) (J' := J') ht 18 gF gF 0 q 0 I I' (by omega) (by decide) (by decide) (by decide) hA hM
  have r4 := r4 (by omega) hq h48 h57
  have hq1 : q1 ≤ n := r6.2.2.2.2.2.2.2.2.2.2.2.2.1
  obtain ⟨I2, a1, a2⟩ := AC (J := J) (b := 1) (v := 1) r6 (show m < 2000 by omega) rfl
  obtain ⟨I3, b1, b2⟩ := LYC (J := J) (lN v1) 8 gF (m + 1) I2 _ (by omega) (by decide) (by omega) a2
  have eC : ∀ {α : Type} {F : Unit → MI → MJ → Option α}, oc (f_Translator_literal I J) F = F () I3 J := by
    intro α F
    unfold f_Translator_literal
    rw [show f_Translator_literal_4 gF 0 0 I J = some (lN v1, I1, J) from r1, oc_some, a1, show f_Translator_literal_77 gF (lN v1) 56 I2 J = some ((), I3, J) from b1, oc_some, oc_some]
  rcases r8 with ⟨e1, e2⟩ | ⟨e1, e2, e3, e4, e5, e6⟩
  · obtain ⟨I2', c1, c2, c3⟩ := AM (J := J') (b := 1) (v := 1) e2 (show m < 2000 by omega) rfl
    obtain ⟨I3', d1, d2, d3⟩ := LYM (J' := J') (lN v1) 8 gF (m + 1) I2' _ (by omega) (by decide) (by omega) c2
    refine ⟨I3, nI 1, I3', eC, ?_, Or.inr ⟨rfl, q1, _, _, b2, d2, d3.trans (c3.trans r7), r4, fun hk => ?_⟩⟩
    · intro α F
      unfold f_Model_readNumber
      rw [show f_Model_readNumber_4 gF 0 0 I' J' = some (.inr (lN v1), I1', J') from e1 ▸ r2, oc_some, oe_j, c1, show f_Model_readNumber_110 gF (lN v1) 7 I2' J' = some ((), I3', J') from d1, oc_some, oc_some]
      rfl
    · have hb1 : (lN v1).toBitVec.toNat = v1 := by
        show (BitVec.ofNat 64 v1).toNat = v1
        rw [BitVec.toNat_ofNat]
        exact Nat.mod_eq_of_lt (by omega)
      have X := CODE_ext (o := 1) (cc' := ly (apn cc m 1) (m + 1) (lN v1) 8) (cm' := ly (apn cm m 1) (m + 1) (lN v1) 8) (hC hk) (fun j hj => by rw [ly_lo _ _ _ _ _ (by omega), apn_n _ _ (by omega)]) (fun j hj => by rw [ly_lo _ _ _ _ _ (by omega), apn_n _ _ (by omega)]) (fun j j1 j2 => by
        rw [show opl 1 = 9 from rfl] at j2
        by_cases e : j = m
        · rw [e, ly_lo _ _ _ _ _ (by omega), ly_lo _ _ _ _ _ (by omega), apn_s, apn_s]
          exact ⟨rfl, by omega⟩
        · have := ly_eq 8 (apn cc m 1) (apn cm m 1) (m + 1) (lN v1) j (by omega) (by omega)
          exact ⟨this.1.symm, this.2⟩) (by rw [ly_lo _ _ _ _ _ (by omega), apn_s]) (by omega) (by omega) (by omega) (by
        unfold opok opokb
        rw [ly_lo _ _ _ _ m (by omega), apn_s, if_pos rfl]
        refine decide_eq_true ?_
        show litn _ (m + 1) 8 0 < _
        rw [ly_lit, hb1, Nat.zero_mul, Nat.zero_add, Nat.mod_eq_of_lt (by omega)]
        show v1 < 2305843009213693951
        omega) (by rw [show nd 1 = 0 from rfl]; omega) (by rw [show nd 1 = 0 from rfl, show gv 1 = 1 from rfl]; omega) (fun x => by omega) (fun x => by omega)
      rw [show opl 1 = 9 from rfl, show nd 1 = 0 from rfl, show gv 1 = 1 from rfl, Nat.sub_zero] at X
      exact X
  · obtain ⟨⟨j1, j2⟩, j3, j4, j5, j6, j7, j8, j9, j10, j11, j12, j13, j14⟩ := b2
    refine ⟨I3, nI 0, I1', eC, ?_, Or.inl ⟨rfl, nI q1, ⟨⟨j1, j2⟩, ⟨m + 1 + 8, j10, by omega⟩, Or.inr ⟨j7, q1, e2, rfl, j4, e3, e4⟩⟩, e5, e6⟩⟩
    intro α F
    unfold f_Model_readNumber
    rw [show f_Model_readNumber_4 gF 0 0 I' J' = some (.inl 0, I1', J') from e1 ▸ r2, oc_some, oe_i, oc_some]
    rfl
theorem RT13 {fu : Nat} {a b : Int32} : f_RcT (fu + 1) 13 a b I J = oc (f_Translator_index (f_RcT fu) I J) (fun _ I J => some (0, I, J)) := rfl
theorem RM4 {fu : Nat} {a b : Int32} : f_RcM (fu + 1) 4 a b I J = f_Model_readPlace (f_RcM fu) I J := rfl
theorem INDX_of (ht : tpOK n t) (hD : D ≤ 20) (hX : D < 20 → EXPR n t P (D + 1) U f8 f9 g2 g3 g4 g5 c J J') : INDX n t P D U f8 f9 g2 g3 g4 g5 c J J' := by
  intro fc fm q m k p h I I' cc cm e1 e2 e3 e4 hA hM hC
  obtain ⟨f, rfl⟩ : ∃ f, fc = f + 1 := ⟨fc - 1, by omega⟩
  obtain ⟨f', rfl⟩ : ∃ f, fm = f + 1 := ⟨fm - 1, by omega⟩
  have hn := ht.1
  rw [RT13, RM4]
  obtain ⟨I1, a1, a2, a3, a4, a5⟩ := LC (J := J) ht hA
  obtain ⟨I1', b1, b2, b3⟩ := SM (J := J') ht hM
  generalize spq n t q = s at a1 a2 a3 a4 a5 b1 b2
  have b0 := fun {α : Type} {F : Int32 → MI → MJ → Option α} => SM0 (J := J') ht b2 a3 (F := F)
  have pC5 : I1 3 5 = nI s := a2.2.2.1
  have pM5 : I1' 112 5 = nI s := b2.2.2.1
  have pM15 : I1' 112 15 = nI D := b2.2.2.2.1
  by_cases e : s < n ∧ t s = 91
  · by_cases hD2 : D < 20
    · obtain ⟨I2, c1, c2⟩ := EnC (J := J) ht a2 e.1 hD2
      obtain ⟨I2', d1, d2, d3, d4⟩ := PM b2 e.1
      have d5 := DM (y := I2' 112 15 + 1) d2 (show D + 1 ≤ 20 by omega) (by rw [d2.2.2.2.1, nI_1])
      obtain ⟨v, I3, v', I3', x1, x2, x3, x4⟩ := hX hD2 f f' (s + 1) m k p h I2 _ cc cm (by omega) (by omega) (by omega) (by omega) c2 d5 hC
      have w1 : ∀ {α : Type} {F : Int32 → MI → MJ → Option α}, oc (f_Model_want 91 I1' J') F = F (nI 1) I2' J' := by
        intro α F
        unfold f_Model_want
        rw [cM_lt e.1, e.2] at b0
        simp (disch := omega) only [a11, a01, ↓li_m, ↓oc_some, ↓oc_ite, ↓oc_oc, ↓oc_pl, ↓oc_none, ↓oc_oe, ↓pl_eq, ↓oe_i, ↓oe_j, va_up_self, va_up_ne, va_up_up, upd_s, upd_n, updL_s, updL_n, nI_add, nI_1, nI_ltI, nI_leI, nI_eq, nI_clamp, li_n, m1_lt, m1_le, m1_gt, m1_ge, m1_ne, m1_en, m1_ad, nle_F, nle_T, nlt_F, nlt_T, neq_F, neq_T, or_self, or_false, false_or, true_or, or_true, and_self, and_false, false_and, true_and, and_true, not_true_eq_false, not_false_eq_true, ↓reduceIte, if_true, if_false, Nat.reduceAdd, ite_self, Bool.false_eq_true, ↓U_Model_takes, ↓b0, n10e, d4]
      rcases x4 with ⟨y1, y2⟩ | ⟨y1, q1, m1', k1, p1', cc1, cm1, y2, y3, y4, y5, y6, y7⟩
      · -- it fails inside
        obtain ⟨x, y2, y3, y4⟩ := y2
        have z1 := Z_expect (J := J) ht (c := 93) y2 (by omega) (by omega)
        obtain ⟨_, I4, z2, z3⟩ := z1
        obtain ⟨_, I5, z4, z5⟩ := Y_leave (J := J) z3
        refine ⟨I5, nI 0, va_up I3' 112 (upd (I3' 112) 15 (I3' 112 15 - 1)), ?_, ?_, Or.inl ⟨rfl, x, z5, by simp (disch := omega) only [a11, a01, ↓li_m, ↓oc_some, ↓oc_ite, ↓oc_oc, ↓oc_pl, ↓oc_none, ↓oc_oe, ↓pl_eq, ↓oe_i, ↓oe_j, va_up_self, va_up_ne, va_up_up, upd_s, upd_n, updL_s, updL_n, nI_add, nI_1, nI_ltI, nI_leI, nI_eq, nI_clamp, li_n, m1_lt, m1_le, m1_gt, m1_ge, m1_ne, m1_en, m1_ad, nle_F, nle_T, nlt_F, nlt_T, neq_F, neq_T, or_self, or_false, false_or, true_or, or_true, and_self, and_false, false_and, true_and, and_true, not_true_eq_false, not_false_eq_true, ↓reduceIte, if_true, if_false, Nat.reduceAdd, ite_self, Bool.false_eq_true, y3], by simp (disch := omega) only [a11, a01, ↓li_m, ↓oc_some, ↓oc_ite, ↓oc_oc, ↓oc_pl, ↓oc_none, ↓oc_oe, ↓pl_eq, ↓oe_i, ↓oe_j, va_up_self, va_up_ne, va_up_up, upd_s, upd_n, updL_s, updL_n, nI_add, nI_1, nI_ltI, nI_leI, nI_eq, nI_clamp, li_n, m1_lt, m1_le, m1_gt, m1_ge, m1_ne, m1_en, m1_ad, nle_F, nle_T, nlt_F, nlt_T, neq_F, neq_T, or_self, or_false, false_or, true_or, or_true, and_self, and_false, false_and, true_and, and_true, not_true_eq_false, not_false_eq_true, ↓reduceIte, if_true, if_false, Nat.reduceAdd, ite_self, Bool.false_eq_true, y4]⟩⟩
        · unfold f_Translator_index
          rw [oc_oc, a1, cC_lt e.1, e.2, if_pos (show nI 91 = 91 from rfl), oc_oc, oc_some, pl_eq, oc_oc, c1, oc_oc, x1, oc_some, show f_Translator_expect 93 I3 J = some (_, I4, J) from z2, oc_oc, oc_some, oc_oc, z4, oc_some]
          by_cases hv : v = 0
          · rw [if_pos hv, oc_some]
          · rw [if_neg hv, Y_blame z5, oc_some, oc_some]
        · unfold f_Model_readPlace
          rw [b1, pl_eq, b0, cM_lt e.1, e.2, if_neg (show ¬ ¬ nI 91 = 91 from fun x => x rfl), pM15, if_pos (show nI D < 20 from nI_lt (b := 20) hD2 (by decide)), w1, if_pos (show ¬ nI 1 = 0 by decide), pl_eq, x2, oc_some, y1]
          simp (disch := omega) only [a11, a01, ↓li_m, ↓oc_some, ↓oc_ite, ↓oc_oc, ↓oc_pl, ↓oc_none, ↓oc_oe, ↓pl_eq, ↓oe_i, ↓oe_j, va_up_self, va_up_ne, va_up_up, upd_s, upd_n, updL_s, updL_n, nI_add, nI_1, nI_ltI, nI_leI, nI_eq, nI_clamp, li_n, m1_lt, m1_le, m1_gt, m1_ge, m1_ne, m1_en, m1_ad, nle_F, nle_T, nlt_F, nlt_T, neq_F, neq_T, or_self, or_false, false_or, true_or, or_true, and_self, and_false, false_and, true_and, and_true, not_true_eq_false, not_false_eq_true, ↓reduceIte, if_true, if_false, Nat.reduceAdd, ite_self, Bool.false_eq_true]
      · have y1' : v' = nI 1 := y1
        have hs3 : s ≤ 400 := by omega
        rcases x3 with hv | hv
        · -- a clear place
          obtain ⟨I4, I4', w', u1, u2, u3⟩ := WNT (J := J) (J' := J') ht (x := 93) (ch := 93) rfl (by omega) (by omega) y2 y3
          have eM : f_Model_readPlace (f_RcM f') I' J' = some (w', va_up I4' 112 (upd (I4' 112) 15 (I4' 112 15 - 1)), J') := by
            unfold f_Model_readPlace
            rw [b1, pl_eq, b0, cM_lt e.1, e.2, if_neg (show ¬ ¬ nI 91 = 91 from fun x => x rfl), pM15, if_pos (show nI D < 20 from nI_lt (b := 20) hD2 (by decide)), w1, if_pos (show ¬ nI 1 = 0 by decide), pl_eq, x2, oc_some, y1']
            rw [hv] at y4
            rcases u3 with ⟨u3, _⟩ | ⟨u3, _⟩
            · simp (disch := omega) only [a11, a01, ↓li_m, ↓oc_some, ↓oc_ite, ↓oc_oc, ↓oc_pl, ↓oc_none, ↓oc_oe, ↓pl_eq, ↓oe_i, ↓oe_j, va_up_self, va_up_ne, va_up_up, upd_s, upd_n, updL_s, updL_n, nI_add, nI_1, nI_ltI, nI_leI, nI_eq, nI_clamp, li_n, m1_lt, m1_le, m1_gt, m1_ge, m1_ne, m1_en, m1_ad, nle_F, nle_T, nlt_F, nlt_T, neq_F, neq_T, or_self, or_false, false_or, true_or, or_true, and_self, and_false, false_and, true_and, and_true, not_true_eq_false, not_false_eq_true, ↓reduceIte, if_true, if_false, Nat.reduceAdd, ite_self, Bool.false_eq_true, y4, n10e, ↓u2, u3]
            · simp (disch := omega) only [a11, a01, ↓li_m, ↓oc_some, ↓oc_ite, ↓oc_oc, ↓oc_pl, ↓oc_none, ↓oc_oe, ↓pl_eq, ↓oe_i, ↓oe_j, va_up_self, va_up_ne, va_up_up, upd_s, upd_n, updL_s, updL_n, nI_add, nI_1, nI_ltI, nI_leI, nI_eq, nI_clamp, li_n, m1_lt, m1_le, m1_gt, m1_ge, m1_ne, m1_en, m1_ad, nle_F, nle_T, nlt_F, nlt_T, neq_F, neq_T, or_self, or_false, false_or, true_or, or_true, and_self, and_false, false_and, true_and, and_true, not_true_eq_false, not_false_eq_true, ↓reduceIte, if_true, if_false, Nat.reduceAdd, ite_self, Bool.false_eq_true, y4, n10e, ↓u2, u3]
          rcases u3 with ⟨u3, x, u4, u5, u6⟩ | ⟨u3, q2, u4, u5, u6, u7⟩
          · obtain ⟨_, I5, z4, z5⟩ := Y_leave (J := J) u4
            refine ⟨I5, w', _, ?_, eM, Or.inl ⟨u3, x, z5, by simp (disch := omega) only [a11, a01, ↓li_m, ↓oc_some, ↓oc_ite, ↓oc_oc, ↓oc_pl, ↓oc_none, ↓oc_oe, ↓pl_eq, ↓oe_i, ↓oe_j, va_up_self, va_up_ne, va_up_up, upd_s, upd_n, updL_s, updL_n, nI_add, nI_1, nI_ltI, nI_leI, nI_eq, nI_clamp, li_n, m1_lt, m1_le, m1_gt, m1_ge, m1_ne, m1_en, m1_ad, nle_F, nle_T, nlt_F, nlt_T, neq_F, neq_T, or_self, or_false, false_or, true_or, or_true, and_self, and_false, false_and, true_and, and_true, not_true_eq_false, not_false_eq_true, ↓reduceIte, if_true, if_false, Nat.reduceAdd, ite_self, Bool.false_eq_true, u5], by simp (disch := omega) only [a11, a01, ↓li_m, ↓oc_some, ↓oc_ite, ↓oc_oc, ↓oc_pl, ↓oc_none, ↓oc_oe, ↓pl_eq, ↓oe_i, ↓oe_j, va_up_self, va_up_ne, va_up_up, upd_s, upd_n, updL_s, updL_n, nI_add, nI_1, nI_ltI, nI_leI, nI_eq, nI_clamp, li_n, m1_lt, m1_le, m1_gt, m1_ge, m1_ne, m1_en, m1_ad, nle_F, nle_T, nlt_F, nlt_T, neq_F, neq_T, or_self, or_false, false_or, true_or, or_true, and_self, and_false, false_and, true_and, and_true, not_true_eq_false, not_false_eq_true, ↓reduceIte, if_true, if_false, Nat.reduceAdd, ite_self, Bool.false_eq_true, u6]⟩⟩
            unfold f_Translator_index
            rw [oc_oc, a1, cC_lt e.1, e.2, if_pos (show nI 91 = 91 from rfl), oc_oc, oc_some, pl_eq, oc_oc, c1, oc_oc, x1, oc_some, oc_oc, u1, oc_oc, z4, oc_some, hv, if_pos (show nI 0 = 0 from rfl), oc_some]
          · obtain ⟨I5, z4, z5⟩ := LvC (J := J) u5 (by omega)
            refine ⟨I5, w', _, ?_, eM, Or.inr ⟨u3, q2, m1', k1, p1', cc1, cm1, z5, DM u6 (by omega) (by rw [u6.2.2.2.1]; exact nI_pred D), by omega, by omega, y7⟩⟩
            unfold f_Translator_index
            rw [oc_oc, a1, cC_lt e.1, e.2, if_pos (show nI 91 = 91 from rfl), oc_oc, oc_some, pl_eq, oc_oc, c1, oc_oc, x1, oc_some, oc_oc, u1, oc_oc, z4, hv, if_pos (show nI 0 = 0 from rfl), oc_some]
        · -- a secret place
          obtain ⟨N1', n1, n2, n3⟩ := NM (J := J') (a := 3) (x := s) y3 (by omega) hs3
          obtain ⟨I4, I4', w', u1, u2, u3⟩ := WNT (J := J) (J' := J') ht (x := 93) (ch := 93) rfl (by omega) (by omega) y2 n2
          have n1' : ∀ {α : Type} {F : Unit → MI → MJ → Option α}, oc (f_Model_note 3 (I1' 112 5) I3' J') F = F () N1' J' := fun {α F} => by rw [pM5]; exact n1
          have eM : f_Model_readPlace (f_RcM f') I' J' = some (w', va_up I4' 112 (upd (I4' 112) 15 (I4' 112 15 - 1)), J') := by
            unfold f_Model_readPlace
            rw [b1, pl_eq, b0, cM_lt e.1, e.2, if_neg (show ¬ ¬ nI 91 = 91 from fun x => x rfl), pM15, if_pos (show nI D < 20 from nI_lt (b := 20) hD2 (by decide)), w1, if_pos (show ¬ nI 1 = 0 by decide), pl_eq, x2, oc_some, y1']
            rw [hv] at y4
            rcases u3 with ⟨u3, _⟩ | ⟨u3, _⟩
            · simp (disch := omega) only [a11, a01, ↓li_m, ↓oc_some, ↓oc_ite, ↓oc_oc, ↓oc_pl, ↓oc_none, ↓oc_oe, ↓pl_eq, ↓oe_i, ↓oe_j, va_up_self, va_up_ne, va_up_up, upd_s, upd_n, updL_s, updL_n, nI_add, nI_1, nI_ltI, nI_leI, nI_eq, nI_clamp, li_n, m1_lt, m1_le, m1_gt, m1_ge, m1_ne, m1_en, m1_ad, nle_F, nle_T, nlt_F, nlt_T, neq_F, neq_T, or_self, or_false, false_or, true_or, or_true, and_self, and_false, false_and, true_and, and_true, not_true_eq_false, not_false_eq_true, ↓reduceIte, if_true, if_false, Nat.reduceAdd, ite_self, Bool.false_eq_true, y4, n10e, ↓u2, u3, ↓n1']
            · simp (disch := omega) only [a11, a01, ↓li_m, ↓oc_some, ↓oc_ite, ↓oc_oc, ↓oc_pl, ↓oc_none, ↓oc_oe, ↓pl_eq, ↓oe_i, ↓oe_j, va_up_self, va_up_ne, va_up_up, upd_s, upd_n, updL_s, updL_n, nI_add, nI_1, nI_ltI, nI_leI, nI_eq, nI_clamp, li_n, m1_lt, m1_le, m1_gt, m1_ge, m1_ne, m1_en, m1_ad, nle_F, nle_T, nlt_F, nlt_T, neq_F, neq_T, or_self, or_false, false_or, true_or, or_true, and_self, and_false, false_and, true_and, and_true, not_true_eq_false, not_false_eq_true, ↓reduceIte, if_true, if_false, Nat.reduceAdd, ite_self, Bool.false_eq_true, y4, n10e, ↓u2, u3, ↓n1']
          rcases u3 with ⟨u3, x, u4, u5, u6⟩ | ⟨u3, q2, u4, u5, u6, u7⟩
          · obtain ⟨_, I5, z4, z5⟩ := Y_leave (J := J) u4
            refine ⟨I5, w', _, ?_, eM, Or.inl ⟨u3, x, z5, by simp (disch := omega) only [a11, a01, ↓li_m, ↓oc_some, ↓oc_ite, ↓oc_oc, ↓oc_pl, ↓oc_none, ↓oc_oe, ↓pl_eq, ↓oe_i, ↓oe_j, va_up_self, va_up_ne, va_up_up, upd_s, upd_n, updL_s, updL_n, nI_add, nI_1, nI_ltI, nI_leI, nI_eq, nI_clamp, li_n, m1_lt, m1_le, m1_gt, m1_ge, m1_ne, m1_en, m1_ad, nle_F, nle_T, nlt_F, nlt_T, neq_F, neq_T, or_self, or_false, false_or, true_or, or_true, and_self, and_false, false_and, true_and, and_true, not_true_eq_false, not_false_eq_true, ↓reduceIte, if_true, if_false, Nat.reduceAdd, ite_self, Bool.false_eq_true, u5], by simp (disch := omega) only [a11, a01, ↓li_m, ↓oc_some, ↓oc_ite, ↓oc_oc, ↓oc_pl, ↓oc_none, ↓oc_oe, ↓pl_eq, ↓oe_i, ↓oe_j, va_up_self, va_up_ne, va_up_up, upd_s, upd_n, updL_s, updL_n, nI_add, nI_1, nI_ltI, nI_leI, nI_eq, nI_clamp, li_n, m1_lt, m1_le, m1_gt, m1_ge, m1_ne, m1_en, m1_ad, nle_F, nle_T, nlt_F, nlt_T, neq_F, neq_T, or_self, or_false, false_or, true_or, or_true, and_self, and_false, false_and, true_and, and_true, not_true_eq_false, not_false_eq_true, ↓reduceIte, if_true, if_false, Nat.reduceAdd, ite_self, Bool.false_eq_true, u6]⟩⟩
            unfold f_Translator_index
            rw [oc_oc, a1, cC_lt e.1, e.2, if_pos (show nI 91 = 91 from rfl), oc_oc, oc_some, pl_eq, oc_oc, c1, oc_oc, x1, oc_some, oc_oc, u1, oc_oc, z4, oc_some, hv, if_neg (show ¬ nI 1 = 0 by decide), Y_blame z5, oc_some, oc_some]
          · obtain ⟨I5, z4, z5⟩ := LvC (J := J) u5 (by omega)
            obtain ⟨I6, t1, t2⟩ := BC (J := J) (a := 3) (x := s) z5 (by omega) hs3
            refine ⟨I6, w', _, ?_, eM, Or.inr ⟨u3, q2, m1', ntk k1 p1' 3 s, ntp k1 p1' 3 s, cc1, cm1, t2, DM u6 (by omega) (by rw [u6.2.2.2.1]; exact nI_pred D), by omega, by omega, fun hk => ?_⟩⟩
            · unfold f_Translator_index
              rw [oc_oc, a1, cC_lt e.1, e.2, if_pos (show nI 91 = 91 from rfl), oc_oc, oc_some, pl_eq, oc_oc, c1, oc_oc, x1, oc_some, oc_oc, u1, oc_oc, z4, hv, if_neg (show ¬ nI 1 = 0 by decide), pC5, oc_oc, show (3 : Int32) = nI 3 from rfl, t1, oc_some]
            · unfold ntk at hk
              by_cases w : k1 = 0 ∨ s < p1' ∨ (s = p1' ∧ 3 < k1)
              · rw [if_pos w] at hk
                omega
              · rw [if_neg w] at hk
                exact absurd (Or.inl hk) w
    · -- too deep
      have hD3 : D = 20 := by omega
      obtain ⟨I2, c1, c2⟩ := EnR (J := J) a2 hD3
      obtain ⟨I2', d1, d2, d3⟩ := RM (J := J') ht b2 a3
      obtain ⟨I3, x1, x2⟩ := Y_9 (J := J) (a := 0) (b := 0) ht (show 4 ≤ f by omega) c2
      obtain ⟨_, I4, z2, z3⟩ := Y_expect (J := J) ht (c := 93) x2 (by omega)
      obtain ⟨_, I5, z4, z5⟩ := Y_leave (J := J) z3
      refine ⟨I5, nI 0, I2', ?_, ?_, Or.inl ⟨rfl, nI s, z5, d2, d3⟩⟩
      · unfold f_Translator_index
        rw [oc_oc, a1, cC_lt e.1, e.2, if_pos (show nI 91 = 91 from rfl), oc_oc, oc_some, pl_eq, oc_oc, c1, oc_oc, x1, oc_some, oc_oc, show f_Translator_expect 93 I3 J = some (_, I4, J) from z2, oc_some, oc_oc, z4, oc_some, if_pos (show nI 0 = 0 from rfl), oc_some]
      · unfold f_Model_readPlace
        rw [b1, pl_eq, b0, cM_lt e.1, e.2, if_neg (show ¬ ¬ nI 91 = 91 from fun x => x rfl), pM15, if_neg (show ¬ nI D < 20 from nI_nlt (b := 20) (by omega) (by omega)), d1]
        simp (disch := omega) only [a11, a01, ↓li_m, ↓oc_some, ↓oc_ite, ↓oc_oc, ↓oc_pl, ↓oc_none, ↓oc_oe, ↓pl_eq, ↓oe_i, ↓oe_j, va_up_self, va_up_ne, va_up_up, upd_s, upd_n, updL_s, updL_n, nI_add, nI_1, nI_ltI, nI_leI, nI_eq, nI_clamp, li_n, m1_lt, m1_le, m1_gt, m1_ge, m1_ne, m1_en, m1_ad, nle_F, nle_T, nlt_F, nlt_T, neq_F, neq_T, or_self, or_false, false_or, true_or, or_true, and_self, and_false, false_and, true_and, and_true, not_true_eq_false, not_false_eq_true, ↓reduceIte, if_true, if_false, Nat.reduceAdd, ite_self, Bool.false_eq_true]
  · -- no bracket
    have hne : ¬ cCq n t s = 91 := by
      by_cases q : s < n
      · rw [cC_lt q]
        exact fun c => e ⟨q, (nI_eq (b := 91) (by have := (ht.2 s q).2; omega) (by omega)).mp c⟩
      · rw [cC_ge (by omega)]
        decide
    have hne' : ¬ cM n t s = 91 := by
      by_cases q : s < n
      · rw [cM_lt q]
        exact fun c => e ⟨q, (nI_eq (b := 91) (by have := (ht.2 s q).2; omega) (by omega)).mp c⟩
      · rw [cM_ge (by omega)]
        decide
    have hne2 : ¬ cM n t s = nI 91 := hne'
    obtain ⟨R1, c1, c2⟩ := RC (J := J) a2
    obtain ⟨I2', d1, d2, d3⟩ := RM (J := J') ht b2 a3
    obtain ⟨_, I2, c3, c4⟩ := Y_enter (J := J) (show SS n t (nI s) R1 from c2)
    obtain ⟨I3, x1, x2⟩ := Y_9 (J := J) (a := 0) (b := 0) ht (show 4 ≤ f by omega) c4
    obtain ⟨_, I4, z2, z3⟩ := Y_expect (J := J) ht (c := 93) x2 (by omega)
    obtain ⟨_, I5, z4, z5⟩ := Y_leave (J := J) z3
    refine ⟨I5, nI 0, I2', ?_, ?_, Or.inl ⟨rfl, nI s, z5, d2, d3⟩⟩
    · unfold f_Translator_index
      rw [oc_oc, a1, if_neg hne, oc_oc, c1, oc_some, pl_eq, oc_oc, c3, oc_some, oc_oc, x1, oc_some, oc_oc, show f_Translator_expect 93 I3 J = some (_, I4, J) from z2, oc_some, oc_oc, z4, oc_some, if_pos (show nI 0 = 0 from rfl), oc_some]
    · unfold f_Model_readPlace
      rw [b1, pl_eq, b0, if_pos hne']
      simp (disch := omega) only [a11, a01, ↓li_m, ↓oc_some, ↓oc_ite, ↓oc_oc, ↓oc_pl, ↓oc_none, ↓oc_oe, ↓pl_eq, ↓oe_i, ↓oe_j, va_up_self, va_up_ne, va_up_up, upd_s, upd_n, updL_s, updL_n, nI_add, nI_1, nI_ltI, nI_leI, nI_eq, nI_clamp, li_n, m1_lt, m1_le, m1_gt, m1_ge, m1_ne, m1_en, m1_ad, nle_F, nle_T, nlt_F, nlt_T, neq_F, neq_T, or_self, or_false, false_or, true_or, or_true, and_self, and_false, false_and, true_and, and_true, not_true_eq_false, not_false_eq_true, ↓reduceIte, if_true, if_false, Nat.reduceAdd, ite_self, Bool.false_eq_true, ↓U_Model_want, ↓U_Model_takes, ↓b0, hne2, ↓d1]
end CM
