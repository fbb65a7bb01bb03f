/-! compile, both -/
def frKC (I I1 : MI) : Prop := (∀ a, a ≠ 0 → (a < 3 ∨ 16 < a ∨ (9 < a ∧ a < 14)) → I1 a = I a) ∧ (∀ j, j ≠ 6 → j ≠ 7 → I1 0 j = I 0 j) ∧ (∀ j, j ≠ 9 → I1 14 j = I 14 j)
def frKM (I I1 : MI) : Prop := (∀ a, a ≠ 112 → a ≠ 114 → a ≠ 115 → a ≠ 162 → a ≠ 163 → a ≠ 164 → a ≠ 165 → I1 a = I a) ∧ (∀ j, j ≠ 0 → j ≠ 2 → j ≠ 3 → j ≠ 4 → j ≠ 5 → j ≠ 7 → j ≠ 8 → j ≠ 10 → j ≠ 13 → j ≠ 14 → j ≠ 15 → j ≠ 34 → j ≠ 73 → j ≠ 75 → j ≠ 79 → I1 112 j = I 112 j)
def cPost (I3 : MI) (J3 : MJ) : M2 (Int32 ⊕ Nat) := oc (f_Row_wipe 4 5 400 I3 J3) (fun v4 I4 J4 => pl (va_up I4 0 (upd (I4 0) 6 (I4 3 9))) (fun I5 => pl (va_up I5 0 (upd (I5 0) 7 (I5 3 10))) (fun I6 => if (I6 0 6) = 0 then (oc (f_Hall_take 6 7 2000 I6 J4) (fun v8 I8 J8 => some (.inl (I8 15 1), I8, J8))) else (some (.inr 0, I6, J4)))))
theorem comp_eq {I : MI} {J : MJ} : f_Sh_compile I J = oc (f_Translator_startAnew (I 14 6) I J) (fun v1 I1 J1 => oc (f_RcT 200 0 0 0 I1 J1) (fun v2 I2 J2 => oc (f_Translator_finish  I2 J2) (fun v3 I3 J3 => cPost I3 J3))) := rfl
section CM
variable {n P m D U k p c q : Nat} {t : Nat → Nat} {x : Int32} {I I' : MI} {J J' : MJ} {f8 f9 g2 g3 g4 g5 : Nat → Int32} {cc cm : Nat → Nat}
theorem wipe4 : f_Row_wipe 4 5 400 I J = some ((), va_up I 4 (upd (I 4) 1 0), J) := by
  unfold f_Row_wipe
  rw [pl_eq]
/-- the class, where it fails -/
theorem cFail {I3 : MI} (hk : ¬ I3 3 9 = 0) (hE : EX I I3) : ∃ I1, cPost I3 J = some (.inr 0, I1, J) ∧ I1 0 6 = I3 3 9 ∧ I1 0 7 = I3 3 10 ∧ I1 4 1 = nI 0 ∧ frKC I I1 ∧ I1 14 = I 14 ∧ I1 15 = I 15 ∧ I1 16 = I 16 := by
  refine ⟨va_up (va_up I3 4 (upd (I3 4) 1 0)) 0 (upd (upd (I3 0) 6 (I3 3 9)) 7 (I3 3 10)), ?_, ?_, ?_, ?_, ⟨fun a a1 a2 => ?_, fun j j1 j2 => ?_, fun j j1 => ?_⟩, ?_, ?_, ?_⟩
  · unfold cPost
    rw [wipe4, oc_some, pl_eq, pl_eq]
    simp only [va_up_self, va_up_up]
    rw [va_up_ne _ _ (show 3 ≠ 0 by decide), va_up_ne _ _ (show 3 ≠ 4 by decide), va_up_ne _ _ (show 0 ≠ 4 by decide), upd_n _ _ (show 6 ≠ 7 by decide), upd_s, if_neg hk]
  · rw [va_up_self, upd_n _ _ (by decide), upd_s]
  · rw [va_up_self, upd_s]
  · rw [va_up_ne _ _ (by decide), va_up_self, upd_s]
    rfl
  · rw [va_up_ne _ _ a1, va_up_ne _ _ (by omega)]
    exact hE a (by omega)
  · rw [va_up_self, upd_n _ _ j2, upd_n _ _ j1]
    rw [hE 0 (by decide)]
  · rw [va_up_ne _ _ (by decide), va_up_ne _ _ (by decide), hE 14 (by decide)]
  · rw [va_up_ne _ _ (by decide), va_up_ne _ _ (by decide), hE 14 (by decide)]
  · rw [va_up_ne _ _ (by decide), va_up_ne _ _ (by decide), hE 15 (by decide)]
  · rw [va_up_ne _ _ (by decide), va_up_ne _ _ (by decide), hE 16 (by decide)]
/-- the class, where it is good -/
theorem cGood {I3 : MI} {N : Nat} {T : Nat → Nat} (hk : I3 3 9 = 0) (hp : I3 3 10 = 0) (hN : N ≤ 2000) (hr : rowC I3 6 7 N T) (hE : EX I I3) : ∃ I1, cPost I3 J = some (.inl (nI N), I1, J) ∧ I1 0 6 = nI 0 ∧ I1 0 7 = nI 0 ∧ I1 4 1 = nI 0 ∧ frKC I I1 ∧ I1 14 9 = nI 0 ∧ rowC I1 15 16 N T := by
  have hr' : rowC (va_up (va_up I3 4 (upd (I3 4) 1 0)) 0 (upd (upd (I3 0) 6 (I3 3 9)) 7 (I3 3 10))) 6 7 N T := by
    refine ⟨?_, fun k hk => ⟨(hr.2 k hk).1, ?_⟩⟩
    · rw [va_up_ne _ _ (by decide), va_up_ne _ _ (by decide)]
      exact hr.1
    · rw [va_up_ne _ _ (by decide), va_up_ne _ _ (by decide)]
      exact (hr.2 k hk).2
  obtain ⟨I1, r1, r2, r3, r4, r5, r6⟩ := h_take (J := J) (m := 2000) hN hN (by decide) (by decide) (by decide) (by decide) (by decide) (by decide) (by decide) hr'
  refine ⟨I1, ?_, ?_, ?_, ?_, ⟨fun a a1 a2 => ?_, fun j j1 j2 => ?_, fun j j1 => ?_⟩, r4, r6⟩
  · unfold cPost
    rw [wipe4, oc_some, pl_eq, pl_eq]
    simp only [va_up_self, va_up_up]
    rw [va_up_ne _ _ (show 3 ≠ 0 by decide), va_up_ne _ _ (show 3 ≠ 4 by decide), va_up_ne _ _ (show 0 ≠ 4 by decide), upd_n _ _ (show 6 ≠ 7 by decide), upd_s, if_pos hk, r1, oc_some, r6.1]
  · rw [r2 0 (by decide) (by decide) (by decide), va_up_self, upd_n _ _ (by decide), upd_s, hk]
    rfl
  · rw [r2 0 (by decide) (by decide) (by decide), va_up_self, upd_s, hp]
    rfl
  · rw [r2 4 (by decide) (by decide) (by decide), va_up_ne _ _ (by decide), va_up_self, upd_s]
    rfl
  · rw [r2 a (by omega) (by omega) (by omega), va_up_ne _ _ a1, va_up_ne _ _ (by omega)]
    exact hE a (by omega)
  · rw [r2 0 (by decide) (by decide) (by decide), va_up_self, upd_n _ _ j2, upd_n _ _ j1, hE 0 (by decide)]
  · rw [r3 j j1, va_up_ne _ _ (by decide), va_up_ne _ _ (by decide), hE 14 (by decide)]
theorem EY_KM {I0 I1 I2 : MI} (h : EY I0 I1) (h1 : ∀ a, a ≠ 112 → a ≠ 114 → I2 a = I1 a) (h2 : ∀ j, j ≠ 0 → j ≠ 2 → j ≠ 3 → j ≠ 4 → j ≠ 7 → j ≠ 8 → j ≠ 10 → j ≠ 34 → I2 112 j = I1 112 j) : frKM I0 I2 := by
  refine ⟨fun a a1 a2 a3 a4 a5 a6 a7 => ?_, fun j j1 j2 j3 j4 j5 j6 j7 j8 j9 j10 j11 j12 j13 j14 j15 => ?_⟩
  · rw [h1 a a1 a2]
    exact h.1 a a1 a3 a4 a5 a6 a7
  · rw [h2 j j1 j2 j3 j4 j6 j7 j8 j12]
    exact h.2 j j3 j4 j5 j8 j9 j10 j11 j13 j14 j15
theorem EY_tr {I0 I1 I2 : MI} (h : EY I0 I1) (h' : EY I1 I2) : EY I0 I2 := ⟨fun a a1 a2 a3 a4 a5 a6 => (h'.1 a a1 a2 a3 a4 a5 a6).trans (h.1 a a1 a2 a3 a4 a5 a6), fun j a1 a2 a3 a4 a5 a6 a7 a8 a9 a10 => (h'.2 j a1 a2 a3 a4 a5 a6 a7 a8 a9 a10).trans (h.2 j a1 a2 a3 a4 a5 a6 a7 a8 a9 a10)⟩
theorem EY_rfl {I0 : MI} : EY I0 I0 := ⟨fun _ _ _ _ _ _ _ => rfl, fun _ _ _ _ _ _ _ _ _ _ _ => rfl⟩
theorem EX_rfl {I0 : MI} : EX I0 I0 := fun _ _ => rfl
theorem EX_tr {I0 I1 I2 : MI} (h : EX I0 I1) (h' : EX I1 I2) : EX I0 I2 := fun a ha => (h' a ha).trans (h a ha)
/-- what compile comes to -/
def CMP (P : Nat) (I I' : MI) (J J' : MJ) (rC : M2 (Int32 ⊕ Nat)) (rM : M2 Int32) : Prop := ∃ I1 I1', R_tape I1 I1' ∧ R_fault I1 I1' ∧ frKC I I1 ∧ frKM I' I1' ∧ ((∃ v, rC = some (.inr 0, I1, J) ∧ rM = some (v, I1', J') ∧ I1' 112 0 = nI 1 ∧ I1 14 9 = I 14 9 ∧ I1 15 = I 15 ∧ I1 16 = I 16 ∧ I1' 114 = I' 114 ∧ I1' 112 7 = I' 112 7 ∧ I1' 112 8 = I' 112 8 ∧ I1' 112 34 = I' 112 34) ∨ (∃ v n cd st hg, rC = some (.inl v, I1, J) ∧ rM = some (v, I1', J') ∧ I1' 112 0 = nI 0 ∧ I1 14 9 = nI 0 ∧ I1' 112 34 = nI 0 ∧ WFc cd n P st hg ∧ codeR I1 I1' n cd))
theorem R_t0 {I1 I1' : MI} (h1 : I1 4 1 = nI 0) (h2 : I1' 112 2 = nI 0) : R_tape I1 I1' := ⟨0, by omega, h1, h2, fun k hk => absurd hk (Nat.not_lt_zero _)⟩
/-- both fail at a character -/
theorem cmpF {I3 I16 : MI} (hS : SS n t x I3) (hE : EX I I3) (hL : LM I16) (h3 : I16 112 3 = nI 1) (h4 : I16 112 4 = x) (hY : EY I' I16) : CMP P I I' J J' (cPost I3 J) (oc (f_Model_place I16 J') (fun v22 I22 J22 => mPost 0 I22 J22)) := by
  have w9 : I3 3 9 = nI 1 := hS.2.2.1
  have w10 : I3 3 10 = x := hS.2.2.2.1
  obtain ⟨I1, a1, a2, a3, a4, a5, a6, a7, a8⟩ := cFail (J := J) (I := I) (I3 := I3) (by rw [w9]; decide) hE
  obtain ⟨I1', b1, b2, b3, b4, b5, I2', b6, b7, b8⟩ := mFail (J := J') hL h3
  have hy := EY_tr hY b6
  refine ⟨I1, I1', R_t0 a4 b3, ⟨by rw [a2, b4, w9], by rw [a3, b5, w10, h4]⟩, a5, EY_KM hy (fun a x1 _ => b7 a x1) (fun j x1 x2 _ _ _ _ _ _ => b8 j x1 x2), Or.inl ⟨0, a1, b1, b2, by rw [a6], a7, a8, ?_, ?_, ?_, ?_⟩⟩
  · rw [b7 114 (by decide)]
    exact hy.1 114 (by decide) (by decide) (by decide) (by decide) (by decide) (by decide)
  · rw [b8 7 (by decide) (by decide)]
    exact hy.2 7 (by decide) (by decide) (by decide) (by decide) (by decide) (by decide) (by decide) (by decide) (by decide) (by decide)
  · rw [b8 8 (by decide) (by decide)]
    exact hy.2 8 (by decide) (by decide) (by decide) (by decide) (by decide) (by decide) (by decide) (by decide) (by decide) (by decide)
  · rw [b8 34 (by decide) (by decide)]
    exact hy.2 34 (by decide) (by decide) (by decide) (by decide) (by decide) (by decide) (by decide) (by decide) (by decide) (by decide)
/-- both find another fault -/
theorem cmpK {I3 I22 : MI} (hk : k ≠ 0) (hk5 : k ≤ 5) (w9 : I3 3 9 = nI k) (w10 : I3 3 10 = nI p) (hE : EX I I3) (z3 : I22 112 3 = nI 0) (z13 : I22 112 13 = nI k) (z14 : I22 112 14 = nI p) (hY : EY I' I22) : CMP P I I' J J' (cPost I3 J) (mPost 1 I22 J') := by
  have hk0 : ¬ nI k = 0 := fun e => hk ((nI_eq (b := 0) (by omega) (by omega)).mp e)
  obtain ⟨I1, a1, a2, a3, a4, a5, a6, a7, a8⟩ := cFail (J := J) (I := I) (I3 := I3) (by rw [w9]; exact hk0) hE
  have e : mPost 1 I22 J' = some (0, va_up I22 112 (upd (upd (upd (upd (I22 112) 2 0) 3 (nI k)) 4 (nI p)) 0 1), J') := by
    unfold mPost f_Model_raise
    rw [pl_eq, if_neg (show ¬ (1 : Int32) = 0 by decide)]
    simp only [va_up_self, va_up_up, pl_eq, oc_some]
    rw [upd_n _ _ (show 13 ≠ 2 by decide), z13, if_neg (show ¬ nI k ≤ 0 from nI_ge (a := 0) (by omega) (by omega)), oc_some, va_up_self, upd_n _ _ (show 14 ≠ 3 by decide), upd_n _ _ (show 14 ≠ 2 by decide), z14, upd_n _ _ (show 3 ≠ 4 by decide), upd_s, if_neg hk0, va_up_up]
  refine ⟨I1, _, R_t0 a4 ?_, ⟨?_, ?_⟩, a5, EY_KM hY (fun a x1 _ => va_up_ne _ _ x1) (fun j x1 x2 x3 x4 _ _ _ _ => ?_), Or.inl ⟨0, a1, e, ?_, by rw [a6], a7, a8, ?_, ?_, ?_, ?_⟩⟩
  · rw [va_up_self, upd_n _ _ (by decide), upd_n _ _ (by decide), upd_n _ _ (by decide), upd_s]
    rfl
  · rw [a2, w9, va_up_self, upd_n _ _ (by decide), upd_n _ _ (by decide), upd_s]
  · rw [a3, w10, va_up_self, upd_n _ _ (by decide), upd_s]
  · rw [va_up_self, upd_n _ _ x1, upd_n _ _ x4, upd_n _ _ x3, upd_n _ _ x2]
  · rw [va_up_self, upd_s]
    rfl
  · rw [va_up_ne _ _ (by decide)]
    exact hY.1 114 (by decide) (by decide) (by decide) (by decide) (by decide) (by decide)
  · rw [va_up_self, upd_n _ _ (by decide), upd_n _ _ (by decide), upd_n _ _ (by decide), upd_n _ _ (by decide)]
    exact hY.2 7 (by decide) (by decide) (by decide) (by decide) (by decide) (by decide) (by decide) (by decide) (by decide) (by decide)
  · rw [va_up_self, upd_n _ _ (by decide), upd_n _ _ (by decide), upd_n _ _ (by decide), upd_n _ _ (by decide)]
    exact hY.2 8 (by decide) (by decide) (by decide) (by decide) (by decide) (by decide) (by decide) (by decide) (by decide) (by decide)
  · rw [va_up_self, upd_n _ _ (by decide), upd_n _ _ (by decide), upd_n _ _ (by decide), upd_n _ _ (by decide)]
    exact hY.2 34 (by decide) (by decide) (by decide) (by decide) (by decide) (by decide) (by decide) (by decide) (by decide) (by decide)
/-- both are good -/
theorem cmpG {I3 I22 : MI} {T : Nat → Nat} {st : Nat → Bool} {hg : Nat → Nat} (w9 : I3 3 9 = nI 0) (w10 : I3 3 10 = 0) (hr : rowC I3 6 7 (m + 1) T) (hm : m + 1 ≤ 2000) (hE : EX I I3) (z3 : I22 112 3 = nI 0) (z4 : I22 112 4 = 0) (z13 : I22 112 13 = nI 0) (z10 : I22 112 10 = nI m) (hT : ∀ j, j < m → I22 115 j = nI (T j)) (hTm : T m = 0) (hW : WFc T (m + 1) P st hg) (hY : EY I' I22) : CMP P I I' J J' (cPost I3 J) (mPost 1 I22 J') := by
  obtain ⟨I1, a1, a2, a3, a4, a5, a6, a7⟩ := cGood (J := J) (I := I) (I3 := I3) w9 w10 hm hr hE
  have e0 : mPost 1 I22 J' = oc (f_Model_take 115 6000 (nI (m + 1)) (va_up (va_up I22 115 (upd (I22 115) m 0)) 112 (upd (upd (upd (I22 112) 2 0) 0 0) 10 (nI (m + 1)))) J') (fun v33 I33 J33 => some (I33 112 7, I33, J33)) := by
    unfold mPost f_Model_lay_IV
    rw [pl_eq, if_neg (show ¬ (1 : Int32) = 0 by decide), va_up_self, upd_n _ _ (show 13 ≠ 2 by decide), z13, if_pos (show nI 0 ≤ 0 by decide), oc_some, va_up_self, upd_n _ _ (show 3 ≠ 2 by decide), z3, if_pos (show nI 0 = 0 from rfl), pl_eq, va_up_up, va_up_self, upd_n _ _ (show 10 ≠ 0 by decide), upd_n _ _ (show 10 ≠ 2 by decide), z10, if_neg (nI_in (by omega) (by omega)), pl_eq, pl_eq, nI_clamp (by omega), oc_some]
    rw [va_up_ne _ _ (show 115 ≠ 112 by decide), va_up_ne _ _ (show 112 ≠ 115 by decide)]
    simp only [va_up_self, upd_s]
    rw [upd_n _ _ (show 10 ≠ 0 by decide), upd_n _ _ (show 10 ≠ 2 by decide), z10, nI_1, va_up_c _ _ _ (show 112 ≠ 115 by decide), va_up_up]
  have hk := m_take (J := J') (a := 115) (m := 6000) (n := m + 1) (I := va_up (va_up I22 115 (upd (I22 115) m 0)) 112 (upd (upd (upd (I22 112) 2 0) 0 0) 10 (nI (m + 1)))) (by omega) (by omega) (by decide) (by decide) (by decide)
  rw [va_up_self] at hk
  rw [e0, hk, oc_some]
  refine ⟨I1, _, R_t0 a4 ?_, ⟨?_, ?_⟩, a5, ?_, Or.inr ⟨_, m + 1, T, st, hg, ?_, rfl, ?_, a6, ?_, hW, a7, ?_, ?_, fun k hk => ?_⟩⟩
  · simp (disch := omega) only [a11, a01, ↓li_m, ↓oc_some, ↓oc_ite, ↓oc_oc, ↓oc_pl, ↓oc_none, ↓oc_oe, ↓pl_eq, ↓oe_i, ↓oe_j, va_up_self, va_up_ne, va_up_up, upd_s, upd_n, updL_s, updL_n, nI_add, nI_1, nI_ltI, nI_leI, nI_eq, nI_clamp, li_n, m1_lt, m1_le, m1_gt, m1_ge, m1_ne, m1_en, m1_ad, nle_F, nle_T, nlt_F, nlt_T, neq_F, neq_T, or_self, or_false, false_or, true_or, or_true, and_self, and_false, false_and, true_and, and_true, not_true_eq_false, not_false_eq_true, ↓reduceIte, if_true, if_false, Nat.reduceAdd, ite_self, Bool.false_eq_true]
  · rw [a2]
    simp (disch := omega) only [a11, a01, ↓li_m, ↓oc_some, ↓oc_ite, ↓oc_oc, ↓oc_pl, ↓oc_none, ↓oc_oe, ↓pl_eq, ↓oe_i, ↓oe_j, va_up_self, va_up_ne, va_up_up, upd_s, upd_n, updL_s, updL_n, nI_add, nI_1, nI_ltI, nI_leI, nI_eq, nI_clamp, li_n, m1_lt, m1_le, m1_gt, m1_ge, m1_ne, m1_en, m1_ad, nle_F, nle_T, nlt_F, nlt_T, neq_F, neq_T, or_self, or_false, false_or, true_or, or_true, and_self, and_false, false_and, true_and, and_true, not_true_eq_false, not_false_eq_true, ↓reduceIte, if_true, if_false, Nat.reduceAdd, ite_self, Bool.false_eq_true, z3]
  · rw [a3]
    simp (disch := omega) only [a11, a01, ↓li_m, ↓oc_some, ↓oc_ite, ↓oc_oc, ↓oc_pl, ↓oc_none, ↓oc_oe, ↓pl_eq, ↓oe_i, ↓oe_j, va_up_self, va_up_ne, va_up_up, upd_s, upd_n, updL_s, updL_n, nI_add, nI_1, nI_ltI, nI_leI, nI_eq, nI_clamp, li_n, m1_lt, m1_le, m1_gt, m1_ge, m1_ne, m1_en, m1_ad, nle_F, nle_T, nlt_F, nlt_T, neq_F, neq_T, or_self, or_false, false_or, true_or, or_true, and_self, and_false, false_and, true_and, and_true, not_true_eq_false, not_false_eq_true, ↓reduceIte, if_true, if_false, Nat.reduceAdd, ite_self, Bool.false_eq_true, z4]
  · refine EY_KM (I1 := va_up I22 115 (upd (I22 115) m 0)) (EY_u hY (by decide)) (fun a x1 x2 => ?_) (fun j x1 x2 x3 x4 x5 x6 x7 x8 => ?_)
    · rw [va_up_ne _ _ x1, va_up_ne _ _ x2, va_up_ne _ _ x1]
    · rw [va_up_self, upd_n _ _ x8, upd_n _ _ x6, upd_n _ _ x5, upd_n _ _ x7, upd_n _ _ x1, upd_n _ _ x2, va_up_ne _ _ (by decide)]
  · rw [a1, va_up_self, upd_n _ _ (by decide), upd_n _ _ (by decide), upd_s]
  · simp (disch := omega) only [a11, a01, ↓li_m, ↓oc_some, ↓oc_ite, ↓oc_oc, ↓oc_pl, ↓oc_none, ↓oc_oe, ↓pl_eq, ↓oe_i, ↓oe_j, va_up_self, va_up_ne, va_up_up, upd_s, upd_n, updL_s, updL_n, nI_add, nI_1, nI_ltI, nI_leI, nI_eq, nI_clamp, li_n, m1_lt, m1_le, m1_gt, m1_ge, m1_ne, m1_en, m1_ad, nle_F, nle_T, nlt_F, nlt_T, neq_F, neq_T, or_self, or_false, false_or, true_or, or_true, and_self, and_false, false_and, true_and, and_true, not_true_eq_false, not_false_eq_true, ↓reduceIte, if_true, if_false, Nat.reduceAdd, ite_self, Bool.false_eq_true]
  · simp (disch := omega) only [a11, a01, ↓li_m, ↓oc_some, ↓oc_ite, ↓oc_oc, ↓oc_pl, ↓oc_none, ↓oc_oe, ↓pl_eq, ↓oe_i, ↓oe_j, va_up_self, va_up_ne, va_up_up, upd_s, upd_n, updL_s, updL_n, nI_add, nI_1, nI_ltI, nI_leI, nI_eq, nI_clamp, li_n, m1_lt, m1_le, m1_gt, m1_ge, m1_ne, m1_en, m1_ad, nle_F, nle_T, nlt_F, nlt_T, neq_F, neq_T, or_self, or_false, false_or, true_or, or_true, and_self, and_false, false_and, true_and, and_true, not_true_eq_false, not_false_eq_true, ↓reduceIte, if_true, if_false, Nat.reduceAdd, ite_self, Bool.false_eq_true]
  · simp (disch := omega) only [a11, a01, ↓li_m, ↓oc_some, ↓oc_ite, ↓oc_oc, ↓oc_pl, ↓oc_none, ↓oc_oe, ↓pl_eq, ↓oe_i, ↓oe_j, va_up_self, va_up_ne, va_up_up, upd_s, upd_n, updL_s, updL_n, nI_add, nI_1, nI_ltI, nI_leI, nI_eq, nI_clamp, li_n, m1_lt, m1_le, m1_gt, m1_ge, m1_ne, m1_en, m1_ad, nle_F, nle_T, nlt_F, nlt_T, neq_F, neq_T, or_self, or_false, false_or, true_or, or_true, and_self, and_false, false_and, true_and, and_true, not_true_eq_false, not_false_eq_true, ↓reduceIte, if_true, if_false, Nat.reduceAdd, ite_self, Bool.false_eq_true]
  · simp (disch := omega) only [a11, a01, ↓li_m, ↓oc_some, ↓oc_ite, ↓oc_oc, ↓oc_pl, ↓oc_none, ↓oc_oe, ↓pl_eq, ↓oe_i, ↓oe_j, va_up_self, va_up_ne, va_up_up, upd_s, upd_n, updL_s, updL_n, nI_add, nI_1, nI_ltI, nI_leI, nI_eq, nI_clamp, li_n, m1_lt, m1_le, m1_gt, m1_ge, m1_ne, m1_en, m1_ad, nle_F, nle_T, nlt_F, nlt_T, neq_F, neq_T, or_self, or_false, false_or, true_or, or_true, and_self, and_false, false_and, true_and, and_true, not_true_eq_false, not_false_eq_true, ↓reduceIte, if_true, if_false, Nat.reduceAdd, ite_self, Bool.false_eq_true]
  · rw [va_up_ne _ _ (by decide), va_up_self, cpy_in (by omega) hk, va_up_ne _ _ (by decide), va_up_self]
    by_cases e : k = m
    · subst e
      rw [upd_s, hTm]
      rfl
    · rw [upd_n _ _ e]
      exact hT k (by omega)
end CM
