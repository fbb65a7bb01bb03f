/-! the run: a party's memory in the reference -/
def RV (I : MI) (J : MJ) (w h : Nat) (sk va : Nat → Nat) (nk : Nat) (kp : Nat → Nat) : Prop := (I 145 w = nI h ∧ h ≤ 64) ∧ (∀ i, i < h → sk i < pP ∧ J 144 (65 * w + i) = lN (sk i)) ∧ (∀ i, i < 154 → va i < pP ∧ J 143 (154 * w + i) = lN (va i)) ∧ (I 141 w = nI nk ∧ nk ≤ 16) ∧ (∀ i, i < nk → I 140 (16 * w + i) = nI (kp i))
def FN (w : Nat) (I I1 : MI) (J J1 : MJ) : Prop := (∀ a, a ≠ 145 → a ≠ 140 → a ≠ 141 → I1 a = I a) ∧ (∀ i, i ≠ w → I1 145 i = I 145 i ∧ I1 141 i = I 141 i) ∧ (∀ i, i < 16 * w ∨ 16 * w + 16 ≤ i → I1 140 i = I 140 i) ∧ (∀ a, a ≠ 143 → a ≠ 144 → J1 a = J a) ∧ (∀ i, i < 154 * w ∨ 154 * w + 154 ≤ i → J1 143 i = J 143 i) ∧ (∀ i, i < 65 * w ∨ 65 * w + 65 ≤ i → J1 144 i = J 144 i)
theorem FN.tr {w : Nat} {I I1 I2 : MI} {J J1 J2 : MJ} (h : FN w I I1 J J1) (k : FN w I1 I2 J1 J2) : FN w I I2 J J2 := ⟨fun a a1 a2 a3 => (k.1 a a1 a2 a3).trans (h.1 a a1 a2 a3), fun i hi => ⟨(k.2.1 i hi).1.trans (h.2.1 i hi).1, (k.2.1 i hi).2.trans (h.2.1 i hi).2⟩, fun i hi => (k.2.2.1 i hi).trans (h.2.2.1 i hi), fun a a1 a2 => (k.2.2.2.1 a a1 a2).trans (h.2.2.2.1 a a1 a2), fun i hi => (k.2.2.2.2.1 i hi).trans (h.2.2.2.2.1 i hi), fun i hi => (k.2.2.2.2.2 i hi).trans (h.2.2.2.2.2 i hi)⟩
theorem FN.rfl {w : Nat} {I : MI} {J : MJ} : FN w I I J J := ⟨fun _ _ _ _ => Eq.refl _, fun _ _ => ⟨Eq.refl _, Eq.refl _⟩, fun _ _ => Eq.refl _, fun _ _ _ => Eq.refl _, fun _ _ => Eq.refl _, fun _ _ => Eq.refl _⟩
section MEM
variable {I : MI} {J : MJ} {w h nk : Nat} {sk va kp : Nat → Nat}
/-- another party's memory stays -/
theorem RV_fr {I1 : MI} {J1 : MJ} {w' : Nat} (hw : w ≠ w') (hf : FN w' I I1 J J1) (hv : RV I J w h sk va nk kp) : RV I1 J1 w h sk va nk kp := by
  obtain ⟨⟨h1, h2⟩, h3, h4, ⟨h8, h9⟩, h10⟩ := hv
  obtain ⟨f1, f2, f3, f4, f5, f6⟩ := hf
  refine ⟨⟨by rw [(f2 w hw).1]; exact h1, h2⟩, fun i hi => ⟨(h3 i hi).1, ?_⟩, fun i hi => ⟨(h4 i hi).1, ?_⟩, ⟨by rw [(f2 w hw).2]; exact h8, h9⟩, fun i hi => ?_⟩
  · rw [f6 _ (by omega)]
    exact (h3 i hi).2
  · rw [f5 _ (by omega)]
    exact (h4 i hi).2
  · rw [f3 _ (by omega)]
    exact h10 i hi
theorem RV_eq {I1 : MI} {J1 : MJ} (hv : RV I J w h sk va nk kp) (e1 : I1 145 w = I 145 w) (e2 : I1 141 w = I 141 w) (e3 : I1 140 = I 140) (e4 : J1 143 = J 143) (e5 : J1 144 = J 144) : RV I1 J1 w h sk va nk kp := by
  unfold RV
  rw [e1, e2, e3, e4, e5]
  exact hv
theorem n65 (a k : Nat) : 65 * nI a + nI k = nI (65 * a + k) := by
  rw [show (65 : Int32) = nI 65 from rfl, nI_mul, nI_add]
theorem n154 (a k : Nat) : 154 * nI a + nI k = nI (154 * a + k) := by
  rw [show (154 : Int32) = nI 154 from rfl, nI_mul, nI_add]
theorem n154' (a : Nat) : 154 * nI a = nI (154 * a) := by
  rw [show (154 : Int32) = nI 154 from rfl, nI_mul]
theorem nin {c N : Nat} (h : c < N) (hN : N < 2 ^ 31) : ¬ (nI c < 0 ∨ N ≤ c) := by
  have := nI_in h hN
  rwa [nI_clamp (by omega)] at this
theorem mPSH {v : Nat} (hw : w < 4) (hv : RV I J w h sk va nk kp) (hh : h < 64) (hp : v < pP) : ∃ I1 J1, (∀ {α : Type} {F : Unit → MI → MJ → Option α}, oc (f_Model_push (nI w) (lN v) I J) F = F () I1 J1) ∧ RV I1 J1 w (h + 1) (apn sk h v) va nk kp ∧ FN w I I1 J J1 := by
  obtain ⟨⟨h1, h2⟩, h3, h4, ⟨h8, h9⟩, h10⟩ := hv
  refine ⟨va_up I 145 (upd (I 145) w (nI (h + 1))), va_up J 144 (vp_updL (J 144) (65 * w + h) (lN v)), ?_, ⟨⟨?_, hh⟩, fun i hi => ?_, fun i hi => ?_, ⟨?_, h9⟩, fun i hi => ?_⟩, fun a a1 a2 a3 => va_up_ne _ _ a1, fun i hi => ⟨?_, ?_⟩, fun i hi => ?_, fun a a1 a2 => va_up_ne _ _ a2, fun i hi => ?_, fun i hi => ?_⟩
  · intro α F
    unfold f_Model_push
    rw [if_neg (nI_in hw (by decide)), nI_clamp (n := w) (by omega), h1, n65, if_neg (nI_in (by omega) (by decide)), nI_clamp (by omega), pl_eq, if_neg (nin hw (by decide)), if_neg (nin hw (by decide)), pl_eq, oc_some, nI_1]
  · rw [va_up_self, upd_s]
  · rw [va_up_self]
    by_cases e : i = h
    · subst e
      rw [updL_s, apn_s]
      exact ⟨hp, rfl⟩
    · rw [updL_n _ _ (by omega), apn_n _ _ e]
      exact h3 i (by omega)
  · rw [va_up_ne _ _ (by decide)]
    exact h4 i hi
  · rw [va_up_ne _ _ (by decide)]
    exact h8
  · rw [va_up_ne _ _ (by decide)]
    exact h10 i hi
  · rw [va_up_self, upd_n _ _ hi]
  · rw [va_up_ne _ _ (by decide)]
  · rw [va_up_ne _ _ (by decide)]
  · rw [va_up_ne _ _ (by decide)]
  · rw [va_up_self, updL_n _ _ (by omega)]
theorem mPOP (hw : w < 4) (hv : RV I J w h sk va nk kp) (hh : 1 ≤ h) : ∃ I1, (∀ {α : Type} {F : Int64 → MI → MJ → Option α}, oc (f_Model_pop (nI w) I J) F = F (lN (sk (h - 1))) I1 J) ∧ RV I1 J w (h - 1) sk va nk kp ∧ FN w I I1 J J := by
  obtain ⟨⟨h1, h2⟩, h3, h4, ⟨h8, h9⟩, h10⟩ := hv
  refine ⟨va_up I 145 (upd (I 145) w (nI (h - 1))), ?_, ⟨⟨?_, by omega⟩, fun i hi => h3 i (by omega), h4, ⟨?_, h9⟩, fun i hi => ?_⟩, fun a a1 a2 a3 => va_up_ne _ _ a1, fun i hi => ⟨?_, ?_⟩, fun i hi => ?_, fun a a1 a2 => rfl, fun i hi => rfl, fun i hi => rfl⟩
  · intro α F
    unfold f_Model_pop
    have e1 : nI h - 1 = nI (h - 1) := nI_sb (b := 1) hh
    rw [if_neg (nI_in hw (by decide)), nI_clamp (n := w) (by omega), if_neg (nin hw (by decide)), pl_eq, h1, e1, va_up_self, upd_s, if_neg (nin hw (by decide)), n65, if_neg (nI_in (by omega) (by decide)), nI_clamp (by omega), oc_some, (h3 (h - 1) (by omega)).2]
  · rw [va_up_self, upd_s]
  · rw [va_up_ne _ _ (by decide)]
    exact h8
  · rw [va_up_ne _ _ (by decide)]
    exact h10 i hi
  · rw [va_up_self, upd_n _ _ hi]
  · rw [va_up_ne _ _ (by decide)]
  · rw [va_up_ne _ _ (by decide)]
theorem mWRV (hv : RV I J w h sk va nk kp) {k v : Nat} (hk : k < 154) (hp : v < pP) : RV I (va_up J 143 (vp_updL (J 143) (154 * w + k) (lN v))) w h sk (apn va k v) nk kp ∧ FN w I I J (va_up J 143 (vp_updL (J 143) (154 * w + k) (lN v))) := by
  obtain ⟨⟨h1, h2⟩, h3, h4, ⟨h8, h9⟩, h10⟩ := hv
  refine ⟨⟨⟨h1, h2⟩, fun i hi => ?_, fun i hi => ?_, ⟨h8, h9⟩, h10⟩, fun _ _ _ _ => rfl, fun _ _ => ⟨rfl, rfl⟩, fun _ _ => rfl, fun a a1 a2 => va_up_ne _ _ a1, fun i hi => ?_, fun i hi => ?_⟩
  · rw [va_up_ne _ _ (by decide)]
    exact h3 i hi
  · rw [va_up_self]
    by_cases e : i = k
    · subst e
      rw [updL_s, apn_s]
      exact ⟨hp, rfl⟩
    · rw [updL_n _ _ (by omega), apn_n _ _ e]
      exact h4 i hi
  · rw [va_up_self, updL_n _ _ (by omega)]
  · rw [va_up_ne _ _ (by decide)]
theorem RV_sk (hv : RV I J w h sk va nk kp) {i : Nat} (hi : i < h) : sk i < pP := (hv.2.1 i hi).1
theorem RV_va (hv : RV I J w h sk va nk kp) {i : Nat} (hi : i < 154) : va i < pP := (hv.2.2.1 i hi).1
theorem RV_rd (hv : RV I J w h sk va nk kp) {i : Nat} (hi : i < 154) : J 143 (154 * w + i) = lN (va i) := (hv.2.2.1 i hi).2
theorem mKEP (hv : RV I J w h sk va nk kp) {v : Nat} (hk : nk < 16) : RV (va_up (va_up I 140 (upd (I 140) (16 * w + nk) (nI v))) 141 (upd (I 141) w (nI (nk + 1)))) J w h sk va (nk + 1) (apn kp nk v) ∧ FN w I (va_up (va_up I 140 (upd (I 140) (16 * w + nk) (nI v))) 141 (upd (I 141) w (nI (nk + 1)))) J J := by
  obtain ⟨⟨h1, h2⟩, h3, h4, ⟨h8, h9⟩, h10⟩ := hv
  refine ⟨⟨⟨?_, h2⟩, h3, h4, ⟨?_, hk⟩, fun i hi => ?_⟩, fun a a1 a2 a3 => ?_, fun i hi => ⟨?_, ?_⟩, fun i hi => ?_, fun a a1 a2 => rfl, fun i hi => rfl, fun i hi => rfl⟩
  · rw [va_up_ne _ _ (by decide), va_up_ne _ _ (by decide)]
    exact h1
  · rw [va_up_self, upd_s]
  · rw [va_up_ne _ _ (by decide), va_up_self]
    by_cases e : i = nk
    · subst e
      rw [upd_s, apn_s]
    · rw [upd_n _ _ (by omega), apn_n _ _ e]
      exact h10 i (by omega)
  · rw [va_up_ne _ _ a3, va_up_ne _ _ a2]
  · rw [va_up_ne _ _ (by decide), va_up_ne _ _ (by decide)]
  · rw [va_up_self, upd_n _ _ hi]
  · rw [va_up_ne _ _ (by decide), va_up_self, upd_n _ _ (by omega)]
theorem mLKP (hv : RV I J w h sk va nk kp) (hk : 1 ≤ nk) : RV (va_up I 141 (upd (I 141) w (nI (nk - 1)))) J w h sk va (nk - 1) kp ∧ FN w I (va_up I 141 (upd (I 141) w (nI (nk - 1)))) J J := by
  obtain ⟨⟨h1, h2⟩, h3, h4, ⟨h8, h9⟩, h10⟩ := hv
  refine ⟨⟨⟨?_, h2⟩, h3, h4, ⟨?_, by omega⟩, fun i hi => ?_⟩, fun a a1 a2 a3 => ?_, fun i hi => ⟨?_, ?_⟩, fun i hi => ?_, fun a a1 a2 => rfl, fun i hi => rfl, fun i hi => rfl⟩
  · rw [va_up_ne _ _ (by decide)]
    exact h1
  · rw [va_up_self, upd_s]
  · rw [va_up_ne _ _ (by decide)]
    exact h10 i (by omega)
  · rw [va_up_ne _ _ a3]
  · rw [va_up_ne _ _ (by decide)]
  · rw [va_up_self, upd_n _ _ hi]
  · rw [va_up_ne _ _ (by decide)]
end MEM
