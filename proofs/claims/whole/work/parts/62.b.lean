/-! the law's loop -/
/-- the room taken, after m calls -/
def RMX (X : MX) (m : Nat) : Prop := X.2.2.2.1 ≤ 168 + X.2.2.1 + m ∧ X.2.2.2.2 ≤ 339917 + 2 * xsum X + 6 * m
theorem RMX_r {X X1 : MX} {m : Nat} (h : RMX X m) (k : XR X X1) : RMX X1 m := by
  obtain ⟨h1, h2⟩ := h
  obtain ⟨k1, k2, k3, -⟩ := k
  exact ⟨by omega, by omega⟩
theorem RMX_s {X : MX} {m : Nat} (h : RMX X m) : RMX X (m + 1) := ⟨by have := h.1; omega, by have := h.2; omega⟩
theorem RMX_t {X : MX} {m : Nat} (h : RMX X m) : RMX (xthr X) (m + 1) := by
  obtain ⟨h1, h2⟩ := h
  refine ⟨?_, ?_⟩
  · show X.2.2.2.1 + 1 ≤ 168 + X.2.2.1 + (m + 1)
    omega
  · show X.2.2.2.2 + 6 ≤ 339917 + 2 * xsum X + 6 * (m + 1)
    omega
theorem RMX_m {X : MX} {m n : Nat} (h : RMX X m) (k : m ≤ n) : RMX X n := ⟨by have := h.1; omega, by have := h.2; omega⟩
theorem lawx : ∀ L, L < 6 → nI L - 6 < 0 := by decide
theorem law_x {L p : Nat} (hL : L ≤ 3072) (hp : p ≤ 3072) : nI L - 6 < nI p ↔ ¬ p + 6 ≤ L := by
  by_cases h : L < 6
  · refine ⟨fun _ => by omega, fun _ => Int32.lt_of_lt_of_le (lawx L h) (nI_le (a := 0) (by omega) (by omega))⟩
  · rw [show (6 : Int32) = nI 6 from rfl, nI_sb (by omega), nI_ltI (by omega) (by omega)]
    omega
section LAW
variable {L : Nat} {xs : Nat → Int32}
theorem LAW (hL : L ≤ 3072) : ∀ (fu m : Nat) (X : MX) (I : MI) (J : MJ), 6 * m ≤ L → L + 6 ≤ 6 * m + 6 * fu → REL X I J I J → RMX X m → ∃ X' I' J', f_Law_law_23 L xs fu (nI (6 * m)) X I J = some (.inr (), X', I', J') ∧ XI X' ∧ RMX X' 512
  | 0, m, X, I, J, hm, hf, hR, hX => by omega
  | fu + 1, m, X, I, J, hm, hf, hR, hX => by
    by_cases e : 6 * m + 6 ≤ L
    · have ee : ¬ nI L - 6 < nI (6 * m) := fun z => (law_x hL (by omega)).mp z e
      have cn : ∀ j, j < 6 → Int32.toNatClampNeg (nI (6 * m + j)) = 6 * m + j := fun j hj => nI_clamp (by omega)
      have bd : ∀ j, j < 6 → (nI (6 * m + j) < 0 ∨ L ≤ 6 * m + j) = False := fun j hj => eq_false (nin (by omega) (by omega))
      have k0 : Int32.toNatClampNeg (nI (6 * m)) = 6 * m := cn 0 (by omega)
      have b0 : (nI (6 * m) < 0 ∨ L ≤ 6 * m) = False := bd 0 (by omega)
      have a1 : nI (6 * m) + 1 = nI (6 * m + 1) := by rw [show (1 : Int32) = nI 1 from rfl, nI_add]
      have a2 : nI (6 * m) + 2 = nI (6 * m + 2) := by rw [show (2 : Int32) = nI 2 from rfl, nI_add]
      have a3 : nI (6 * m) + 3 = nI (6 * m + 3) := by rw [show (3 : Int32) = nI 3 from rfl, nI_add]
      have a4 : nI (6 * m) + 4 = nI (6 * m + 4) := by rw [show (4 : Int32) = nI 4 from rfl, nI_add]
      have a5 : nI (6 * m) + 5 = nI (6 * m + 5) := by rw [show (5 : Int32) = nI 5 from rfl, nI_add]
      have a6 : nI (6 * m) + 6 = nI (6 * m + 6) := by rw [show (6 : Int32) = nI 6 from rfl, nI_add]
      have nx : ∀ X1 I1 J1, REL X1 I1 J1 I1 J1 → RMX X1 (m + 1) → ∃ X' I' J', f_Law_law_23 L xs fu (nI (6 * m + 6)) X1 I1 J1 = some (.inr (), X', I', J') ∧ XI X' ∧ RMX X' 512 := fun X1 I1 J1 r1 r2 => LAW hL fu (m + 1) X1 I1 J1 (by omega) (by omega) r1 r2
      have n1 : ∀ I1 J1, REL X I1 J1 I1 J1 → ∃ X' I' J', f_Law_law_23 L xs fu (nI (6 * m + 6)) X I1 J1 = some (.inr (), X', I', J') ∧ XI X' ∧ RMX X' 512 := fun I1 J1 r1 => nx X I1 J1 r1 (RMX_s hX)
      have n2 : ∀ X1 X2 I2 J2, XR X X1 → (X2 = X1 ∨ X2 = xthr X1) → REL X2 I2 J2 I2 J2 → ∃ X' I' J', f_Law_law_23 L xs fu (nI (6 * m + 6)) X2 I2 J2 = some (.inr (), X', I', J') ∧ XI X' ∧ RMX X' 512 := fun X1 X2 I2 J2 r1 r2 r3 => nx X2 I2 J2 r3 (by
        rcases r2 with r2 | r2
        · rw [r2]
          exact RMX_s (RMX_r hX r1)
        · rw [r2]
          exact RMX_t (RMX_r hX r1))
      simp only [f_Law_law_23, a1, a2, a3, a4, a5, a6, k0, b0, cn 1 (by omega), cn 2 (by omega), cn 3 (by omega), cn 4 (by omega), cn 5 (by omega), bd 1 (by omega), bd 2 (by omega), bd 3 (by omega), bd 4 (by omega), bd 5 (by omega), if_neg ee, if_false]
      by_cases c0 : xs (6 * m) &&& 31 = 0
      · obtain ⟨I2, J2, h2, hh⟩ := CN_l (r := f_Sh_type (((Int32.toInt64 (xs (6 * m + 1))) <<< ((Int32.toInt64 32) &&& 63)) ||| ((Int32.toInt64 (xs (6 * m + 2))) &&& 4294967295)) (xs (6 * m + 3)) I J) (q := fun I J => f_Model_type (((Int32.toInt64 (xs (6 * m + 1))) <<< ((Int32.toInt64 32) &&& 63)) ||| ((Int32.toInt64 (xs (6 * m + 2))) &&& 4294967295)) (xs (6 * m + 3)) I J) K_Sh_type (fun _ _ => K_Model_type) (fun h => typeOK (((Int32.toInt64 (xs (6 * m + 1))) <<< ((Int32.toInt64 32) &&& 63)) ||| ((Int32.toInt64 (xs (6 * m + 2))) &&& 4294967295)) h) hR
        obtain ⟨X', I', J', e1, e2, e3⟩ := n1 I2 J2 h2
        rw [if_pos c0]
        exact ⟨X', I', J', (hh (fun I J => f_Law_law_23 L xs fu (nI (6 * m + 6)) X I J) (fun I J => some (.inl 0, X, I, J))).trans e1, e2, e3⟩
      rw [if_neg c0]
      by_cases c1 : xs (6 * m) &&& 31 = 1
      · obtain ⟨I2, J2, h2, hh⟩ := CN_l (r := f_Sh_put (((Int32.toInt64 (xs (6 * m + 1))) <<< ((Int32.toInt64 32) &&& 63)) ||| ((Int32.toInt64 (xs (6 * m + 2))) &&& 4294967295)) (xs (6 * m + 3)) I J) (q := fun I J => f_Model_put (((Int32.toInt64 (xs (6 * m + 1))) <<< ((Int32.toInt64 32) &&& 63)) ||| ((Int32.toInt64 (xs (6 * m + 2))) &&& 4294967295)) (xs (6 * m + 3)) I J) K_Sh_put (fun _ _ => K_Model_put) (fun h => putOK (((Int32.toInt64 (xs (6 * m + 1))) <<< ((Int32.toInt64 32) &&& 63)) ||| ((Int32.toInt64 (xs (6 * m + 2))) &&& 4294967295)) h) hR
        obtain ⟨X', I', J', e1, e2, e3⟩ := n1 I2 J2 h2
        rw [if_pos c1]
        exact ⟨X', I', J', (hh (fun I J => f_Law_law_23 L xs fu (nI (6 * m + 6)) X I J) (fun I J => some (.inl 0, X, I, J))).trans e1, e2, e3⟩
      rw [if_neg c1]
      by_cases c2 : xs (6 * m) &&& 31 = 2
      · obtain ⟨I2, J2, h2, hh⟩ := CN_l (r := f_Sh_hall (xs (6 * m + 1)) (((Int32.toInt64 (xs (6 * m + 2))) <<< ((Int32.toInt64 32) &&& 63)) ||| ((Int32.toInt64 (xs (6 * m + 3))) &&& 4294967295)) (xs (6 * m + 4)) I J) (q := fun I J => f_Model_hall (xs (6 * m + 1)) (((Int32.toInt64 (xs (6 * m + 2))) <<< ((Int32.toInt64 32) &&& 63)) ||| ((Int32.toInt64 (xs (6 * m + 3))) &&& 4294967295)) (xs (6 * m + 4)) I J) K_Sh_hall (fun _ _ => K_Model_hall) (fun h => hallC (((Int32.toInt64 (xs (6 * m + 2))) <<< ((Int32.toInt64 32) &&& 63)) ||| ((Int32.toInt64 (xs (6 * m + 3))) &&& 4294967295)) h) hR
        obtain ⟨X', I', J', e1, e2, e3⟩ := n1 I2 J2 h2
        rw [if_pos c2]
        exact ⟨X', I', J', (hh (fun I J => f_Law_law_23 L xs fu (nI (6 * m + 6)) X I J) (fun I J => some (.inl 0, X, I, J))).trans e1, e2, e3⟩
      rw [if_neg c2]
      by_cases c3 : xs (6 * m) &&& 31 = 3
      · obtain ⟨X2, I2, J2, hx, h2, hh⟩ := CT_l (φ := Int32.toInt64) (hk := [(1, 0)]) (r := f_Sh_compile I J) (q := fun I J => f_Model_compile I J) K_Sh_compile (fun _ _ => K_Model_compile) (fun h => compileOK h) hR
        obtain ⟨X', I', J', e1, e2, e3⟩ := n2 X X2 I2 J2 XR.rfl hx h2
        rw [if_pos c3]
        exact ⟨X', I', J', (hh (fun X I J => f_Law_law_23 L xs fu (nI (6 * m + 6)) X I J) (fun X I J => some (.inl 0, X, I, J))).trans e1, e2, e3⟩
      rw [if_neg c3]
      by_cases c4 : xs (6 * m) &&& 31 = 4
      · obtain ⟨X2, I2, J2, hx, h2, hh⟩ := CT_l (φ := Int32.toInt64) (hk := [(1, 0)]) (r := f_Sh_load I J) (q := fun I J => f_Model_load I J) K_Sh_load (fun _ _ => K_Model_load) (fun h => loadOK h) hR
        obtain ⟨X', I', J', e1, e2, e3⟩ := n2 X X2 I2 J2 XR.rfl hx h2
        rw [if_pos c4]
        exact ⟨X', I', J', (hh (fun X I J => f_Law_law_23 L xs fu (nI (6 * m + 6)) X I J) (fun X I J => some (.inl 0, X, I, J))).trans e1, e2, e3⟩
      rw [if_neg c4]
      by_cases c5 : xs (6 * m) &&& 31 = 5
      · obtain ⟨I2, J2, h2, hh⟩ := CN_l (r := f_Sh_fault (xs (6 * m + 1)) I J) (q := fun I J => f_Model_fault (xs (6 * m + 1)) I J) K_Sh_fault (fun _ _ => K_Model_fault) (fun h => faultOK h) hR
        obtain ⟨X', I', J', e1, e2, e3⟩ := n1 I2 J2 h2
        rw [if_pos c5]
        exact ⟨X', I', J', (hh (fun I J => f_Law_law_23 L xs fu (nI (6 * m + 6)) X I J) (fun I J => some (.inl 0, X, I, J))).trans e1, e2, e3⟩
      rw [if_neg c5]
      by_cases c6 : xs (6 * m) &&& 31 = 6
      · obtain ⟨I2, J2, h2, hh⟩ := CN_l (r := f_Sh_code (xs (6 * m + 1)) I J) (q := fun I J => f_Model_code (xs (6 * m + 1)) I J) K_Sh_code (fun _ _ => K_Model_code) (fun h => codeOK h) hR
        obtain ⟨X', I', J', e1, e2, e3⟩ := n1 I2 J2 h2
        rw [if_pos c6]
        exact ⟨X', I', J', (hh (fun I J => f_Law_law_23 L xs fu (nI (6 * m + 6)) X I J) (fun I J => some (.inl 0, X, I, J))).trans e1, e2, e3⟩
      rw [if_neg c6]
      by_cases c7 : xs (6 * m) &&& 31 = 7
      · obtain ⟨X2, I2, J2, hx, h2, hh⟩ := CT_l (φ := Int32.toInt64) (hk := [(1, 0)]) (r := f_Sh_deal (xs (6 * m + 1)) (xs (6 * m + 2)) I J) (q := fun I J => f_Model_deal (xs (6 * m + 1)) (xs (6 * m + 2)) I J) K_Sh_deal (fun _ _ => K_Model_deal) (fun h => dealC h) hR
        obtain ⟨X', I', J', e1, e2, e3⟩ := n2 X X2 I2 J2 XR.rfl hx h2
        rw [if_pos c7]
        exact ⟨X', I', J', (hh (fun X I J => f_Law_law_23 L xs fu (nI (6 * m + 6)) X I J) (fun X I J => some (.inl 0, X, I, J))).trans e1, e2, e3⟩
      rw [if_neg c7]
      by_cases c8 : xs (6 * m) &&& 31 = 8
      · obtain ⟨I2, J2, h2, hh⟩ := CN_l (r := f_Sh_give (xs (6 * m + 1)) (((Int32.toInt64 (xs (6 * m + 2))) <<< ((Int32.toInt64 32) &&& 63)) ||| ((Int32.toInt64 (xs (6 * m + 3))) &&& 4294967295)) I J) (q := fun I J => f_Model_give (xs (6 * m + 1)) (((Int32.toInt64 (xs (6 * m + 2))) <<< ((Int32.toInt64 32) &&& 63)) ||| ((Int32.toInt64 (xs (6 * m + 3))) &&& 4294967295)) I J) K_Sh_give (fun _ _ => K_Model_give) (fun h => giveC (((Int32.toInt64 (xs (6 * m + 2))) <<< ((Int32.toInt64 32) &&& 63)) ||| ((Int32.toInt64 (xs (6 * m + 3))) &&& 4294967295)) h) hR
        obtain ⟨X', I', J', e1, e2, e3⟩ := n1 I2 J2 h2
        rw [if_pos c8]
        exact ⟨X', I', J', (hh (fun I J => f_Law_law_23 L xs fu (nI (6 * m + 6)) X I J) (fun I J => some (.inl 0, X, I, J))).trans e1, e2, e3⟩
      rw [if_neg c8]
      by_cases c9 : xs (6 * m) &&& 31 = 9
      · obtain ⟨I2, J2, h2, hh⟩ := CN_l (r := f_Sh_begin I J) (q := fun I J => f_Model_begin I J) K_Sh_begin (fun _ _ => K_Model_begin) (fun h => beginC h) hR
        obtain ⟨X', I', J', e1, e2, e3⟩ := n1 I2 J2 h2
        rw [if_pos c9]
        exact ⟨X', I', J', (hh (fun I J => f_Law_law_23 L xs fu (nI (6 * m + 6)) X I J) (fun I J => some (.inl 0, X, I, J))).trans e1, e2, e3⟩
      rw [if_neg c9]
      by_cases c10 : xs (6 * m) &&& 31 = 10
      · obtain ⟨I2, J2, h2, hh⟩ := CN_l (r := f_Sh_tamper (xs (6 * m + 1)) (xs (6 * m + 2)) (xs (6 * m + 3)) (((Int32.toInt64 (xs (6 * m + 4))) <<< ((Int32.toInt64 32) &&& 63)) ||| ((Int32.toInt64 (xs (6 * m + 5))) &&& 4294967295)) I J) (q := fun I J => f_Model_tamper (xs (6 * m + 1)) (xs (6 * m + 2)) (xs (6 * m + 3)) (((Int32.toInt64 (xs (6 * m + 4))) <<< ((Int32.toInt64 32) &&& 63)) ||| ((Int32.toInt64 (xs (6 * m + 5))) &&& 4294967295)) I J) K_Sh_tamper (fun _ _ => K_Model_tamper) (fun h => tamperC h) hR
        obtain ⟨X', I', J', e1, e2, e3⟩ := n1 I2 J2 h2
        rw [if_pos c10]
        exact ⟨X', I', J', (hh (fun I J => f_Law_law_23 L xs fu (nI (6 * m + 6)) X I J) (fun I J => some (.inl 0, X, I, J))).trans e1, e2, e3⟩
      rw [if_neg c10]
      by_cases c11 : xs (6 * m) &&& 31 = 11
      · obtain ⟨X1, X2, I2, J2, hr, hx, h2, hh⟩ := CX_l (φ := Int32.toInt64) (hk := [(1, 1), (2, 2)]) (r := f_Sh_step (xs (6 * m + 1)) X I J) (q := fun I J => f_Model_step (xs (6 * m + 1)) I J) (fun _ _ => K_Model_step) (fun h => stepC h) hR
        obtain ⟨X', I', J', e1, e2, e3⟩ := n2 X1 X2 I2 J2 hr hx h2
        rw [if_pos c11]
        exact ⟨X', I', J', (hh (fun X I J => f_Law_law_23 L xs fu (nI (6 * m + 6)) X I J) (fun X I J => some (.inl 0, X, I, J))).trans e1, e2, e3⟩
      rw [if_neg c11]
      by_cases c12 : xs (6 * m) &&& 31 = 12
      · obtain ⟨I2, J2, h2, hh⟩ := CN_l (r := f_Sh_deliver (xs (6 * m + 1)) (xs (6 * m + 2)) I J) (q := fun I J => f_Model_deliver (xs (6 * m + 1)) (xs (6 * m + 2)) I J) K_Sh_deliver (fun _ _ => K_Model_deliver) (fun h => deliverC h) hR
        obtain ⟨X', I', J', e1, e2, e3⟩ := n1 I2 J2 h2
        rw [if_pos c12]
        exact ⟨X', I', J', (hh (fun I J => f_Law_law_23 L xs fu (nI (6 * m + 6)) X I J) (fun I J => some (.inl 0, X, I, J))).trans e1, e2, e3⟩
      rw [if_neg c12]
      by_cases c13 : xs (6 * m) &&& 31 = 13
      · obtain ⟨X1, X2, I2, J2, hr, hx, h2, hh⟩ := CX_l (φ := Int32.toInt64) (hk := [(1, 0)]) (r := f_Sh_run (xs (6 * m + 1)) X I J) (q := fun I J => f_Model_run (xs (6 * m + 1)) I J) (fun _ _ => K_Model_run) (fun h => runC h) hR
        obtain ⟨X', I', J', e1, e2, e3⟩ := n2 X1 X2 I2 J2 hr hx h2
        rw [if_pos c13]
        exact ⟨X', I', J', (hh (fun X I J => f_Law_law_23 L xs fu (nI (6 * m + 6)) X I J) (fun X I J => some (.inl 0, X, I, J))).trans e1, e2, e3⟩
      rw [if_neg c13]
      by_cases c14 : xs (6 * m) &&& 31 = 14
      · obtain ⟨I2, J2, h2, hh⟩ := CN_l (r := f_Sh_party (xs (6 * m + 1)) (xs (6 * m + 2)) I J) (q := fun I J => f_Model_party (xs (6 * m + 1)) (xs (6 * m + 2)) I J) K_Sh_party (fun _ _ => K_Model_party) (fun h => partyC h) hR
        obtain ⟨X', I', J', e1, e2, e3⟩ := n1 I2 J2 h2
        rw [if_pos c14]
        exact ⟨X', I', J', (hh (fun I J => f_Law_law_23 L xs fu (nI (6 * m + 6)) X I J) (fun I J => some (.inl 0, X, I, J))).trans e1, e2, e3⟩
      rw [if_neg c14]
      by_cases c15 : xs (6 * m) &&& 31 = 15
      · obtain ⟨X1, X2, I2, J2, hr, hx, h2, hh⟩ := CX_l (φ := (fun y => y)) (hk := [(1, 3)]) (r := f_Sh_output (xs (6 * m + 1)) (xs (6 * m + 2)) X I J) (q := fun I J => f_Model_output (xs (6 * m + 1)) (xs (6 * m + 2)) I J) (fun _ _ => K_Model_output) (fun h => outputC h) hR
        obtain ⟨X', I', J', e1, e2, e3⟩ := n2 X1 X2 I2 J2 hr hx h2
        rw [if_pos c15]
        exact ⟨X', I', J', (hh (fun X I J => f_Law_law_23 L xs fu (nI (6 * m + 6)) X I J) (fun X I J => some (.inl 0, X, I, J))).trans e1, e2, e3⟩
      rw [if_neg c15]
      by_cases c16 : xs (6 * m) &&& 31 = 16
      · obtain ⟨X2, I2, J2, hx, h2, hh⟩ := CT_l (φ := (fun y => y)) (hk := [(1, 3)]) (r := f_Sh_clear (xs (6 * m + 1)) (xs (6 * m + 2)) I J) (q := fun I J => f_Model_clear (xs (6 * m + 1)) (xs (6 * m + 2)) I J) K_Sh_clear (fun _ _ => K_Model_clear) (fun h => clearC h) hR
        obtain ⟨X', I', J', e1, e2, e3⟩ := n2 X X2 I2 J2 XR.rfl hx h2
        rw [if_pos c16]
        exact ⟨X', I', J', (hh (fun X I J => f_Law_law_23 L xs fu (nI (6 * m + 6)) X I J) (fun X I J => some (.inl 0, X, I, J))).trans e1, e2, e3⟩
      rw [if_neg c16]
      by_cases c17 : xs (6 * m) &&& 31 = 17
      · obtain ⟨X2, I2, J2, hx, h2, hh⟩ := CT_l (φ := Int32.toInt64) (hk := [(1, 3)]) (r := f_Sh_bound (xs (6 * m + 1)) (xs (6 * m + 2)) (xs (6 * m + 3)) I J) (q := fun I J => f_Model_bound (xs (6 * m + 1)) (xs (6 * m + 2)) (xs (6 * m + 3)) I J) K_Sh_bound (fun _ _ => K_Model_bound) (fun h => boundC h) hR
        obtain ⟨X', I', J', e1, e2, e3⟩ := n2 X X2 I2 J2 XR.rfl hx h2
        rw [if_pos c17]
        exact ⟨X', I', J', (hh (fun X I J => f_Law_law_23 L xs fu (nI (6 * m + 6)) X I J) (fun X I J => some (.inl 0, X, I, J))).trans e1, e2, e3⟩
      rw [if_neg c17]
      by_cases c18 : xs (6 * m) &&& 31 = 18
      · obtain ⟨I2, J2, h2, hh⟩ := CN_l (r := f_Sh_total (xs (6 * m + 1)) I J) (q := fun I J => f_Model_total (xs (6 * m + 1)) I J) K_Sh_total (fun _ _ => K_Model_total) (fun h => totalOK h) hR
        obtain ⟨X', I', J', e1, e2, e3⟩ := n1 I2 J2 h2
        rw [if_pos c18]
        exact ⟨X', I', J', (hh (fun I J => f_Law_law_23 L xs fu (nI (6 * m + 6)) X I J) (fun I J => some (.inl 0, X, I, J))).trans e1, e2, e3⟩
      rw [if_neg c18]
      exact n1 I J hR
    · have ee : nI L - 6 < nI (6 * m) := (law_x hL (by omega)).mpr e
      refine ⟨X, I, J, ?_, hR.2.2.1.1, RMX_m hX (by omega)⟩
      simp only [f_Law_law_23, if_pos ee]
end LAW
