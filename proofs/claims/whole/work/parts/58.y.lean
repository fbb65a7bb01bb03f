/-! the run: what a party puts out, in the class -/
/-- the outputs of a party, where they lie -/
def OV (X : MX) (J : MJ) (w no : Nat) (ou : Nat → Nat) : Prop := X.1 w < 168 + X.2.2.1 ∧ (X.1 w = 38 + 21 * w ∨ 168 ≤ X.1 w) ∧ no ≤ xlen X w ∧ 16 ≤ xlen X w ∧ xlen X w ≤ 65536 ∧ ∀ i, i < no → J (X.1 w) i = lN (ou i)
section PUT
variable {w no v : Nat} {ou : Nat → Nat} {X : MX} {I : MI} {J : MJ}
theorem xlen_g (X : MX) (w : Nat) : xlen (xgrow X w) w = 2 * xlen X w := by
  have e : (xgrow X w).1 w = 168 + X.2.2.1 := va_up_self _ _ _
  have e2 : (xgrow X w).2.1 (168 + X.2.2.1) = 2 * xlen X w := va_up_self _ _ _
  unfold xlen at e2 ⊢
  rw [e, show Nat.blt (168 + X.2.2.1) 168 = false from by
    cases q : Nat.blt (168 + X.2.2.1) 168 with
    | false => rfl
    | true => exact absurd (Nat.ble_eq.mp q) (by omega)]
  exact e2
theorem TAIL (hw : w < 4) (hb : X.1 w < 1000000000) (ha : X.1 w < 168 + X.2.2.1) (hc : X.1 w = 38 + 21 * w ∨ 168 ≤ X.1 w) (hl : no < xlen X w) (hm : xlen X w < 2 ^ 31) (h6 : I (18 + 21 * w) 6 = nI no) : ∃ I1, f_Party_tail w (lN v) X I J = some ((), X, I1, va_up J (X.1 w) (vp_updL (J (X.1 w)) no (lN v))) ∧ (∀ a, a ≠ 18 + 21 * w → I1 a = I a) ∧ (∀ j, j ≠ 6 → I1 (18 + 21 * w) j = I (18 + 21 * w) j) ∧ I1 (18 + 21 * w) 6 = nI (no + 1) := by
  obtain ⟨A0, q0, r0, s0, t0⟩ := UP1 I (18 + 21 * w) 6 (nI (no + 1))
  refine ⟨A0, ?_, r0, t0, s0⟩
  unfold f_Party_tail oa
  rw [if_pos ⟨ha, hb, hc⟩, h6, wr_in hl hm, h6, nI_1, q0, pl_eq]
theorem PUTC (hw : w < 4) (hv : OV X J w no ou) (hno : no < 30000) (hX : 168 + X.2.2.1 + 1 < 1000000000) (h6 : I (18 + 21 * w) 6 = nI no) : ∃ X1 I1 J1, (∀ {α : Type} {F : Unit → MX → MI → MJ → Option α}, ob (f_Party_putOut w (lN v) X I J) F = F () X1 I1 J1) ∧ OV X1 J1 w (no + 1) (apn ou no v) ∧ (X1 = X ∨ (X1 = xgrow X w ∧ no = xlen X w)) ∧ (∀ a, a ≠ 18 + 21 * w → I1 a = I a) ∧ (∀ j, j ≠ 6 → I1 (18 + 21 * w) j = I (18 + 21 * w) j) ∧ I1 (18 + 21 * w) 6 = nI (no + 1) ∧ (∀ a, a ≠ X.1 w → a < 168 + X.2.2.1 → J1 a = J a) := by
  obtain ⟨v1, v2, v3, v4, v5, v6⟩ := hv
  have hx : xlen X w < 2 ^ 31 := by omega
  by_cases e : no < xlen X w
  · obtain ⟨I1, a1, a2, a3, a4⟩ := TAIL (J := J) (v := v) hw (show X.1 w < 1000000000 by omega) v1 v2 e hx h6
    refine ⟨X, I1, va_up J (X.1 w) (vp_updL (J (X.1 w)) no (lN v)), fun {α F} => ?_, ⟨v1, v2, by omega, v4, by omega, fun i hi => ?_⟩, Or.inl rfl, a2, a3, a4, fun a b1 _ => va_up_ne _ _ b1⟩
    · unfold f_Party_putOut oa
      rw [if_pos ⟨v1, by omega, v2⟩, h6, if_pos ((nI_ltI (by omega) hx).mpr e), a1]
      rfl
    · rw [va_up_self]
      by_cases y : i = no
      · rw [y, updL_s, apn_s]
      · rw [updL_n _ _ y, apn_n _ _ y, v6 i (by omega)]
  · have e2 : no = xlen X w := by omega
    have g1 : (xgrow X w).1 w = 168 + X.2.2.1 := va_up_self _ _ _
    have g2 : (xgrow X w).2.2.1 = X.2.2.1 + 1 := rfl
    have g3 := xlen_g X w
    obtain ⟨I1, a1, a2, a3, a4⟩ := TAIL (X := xgrow X w) (J := va_up J (168 + X.2.2.1) (va_cpy (J (X.1 w)) (fun _ => 0) 0 0 (xlen X w))) (v := v) hw (by rw [g1]; omega) (by rw [g1, g2]; omega) (by rw [g1]; omega) (by rw [g3]; omega) (by rw [g3]; omega) h6
    rw [g1] at a1
    refine ⟨xgrow X w, I1, va_up (va_up J (168 + X.2.2.1) (va_cpy (J (X.1 w)) (fun _ => 0) 0 0 (xlen X w))) (168 + X.2.2.1) (vp_updL ((va_up J (168 + X.2.2.1) (va_cpy (J (X.1 w)) (fun _ => 0) 0 0 (xlen X w))) (168 + X.2.2.1)) no (lN v)), fun {α F} => ?_, ⟨by rw [g1, g2]; omega, by rw [g1]; omega, by rw [g3]; omega, by rw [g3]; omega, by rw [g3]; omega, fun i hi => ?_⟩, Or.inr ⟨rfl, e2⟩, a2, a3, a4, fun a b1 b2 => by rw [va_up_ne _ _ (by omega), va_up_ne _ _ (by omega)]⟩
    · unfold f_Party_putOut oa
      rw [if_pos ⟨v1, by omega, v2⟩, h6, if_neg (fun y => e ((nI_ltI (by omega) hx).mp y)), if_pos ⟨by omega, by omega⟩, a1]
      rfl
    · rw [g1, va_up_self, va_up_self]
      by_cases y : i = no
      · rw [y, updL_s, apn_s]
      · rw [updL_n _ _ y, apn_n _ _ y, pk_cpy_in (by omega) (by omega), show 0 + (i - 0) = i by omega, v6 i (by omega)]
end PUT
