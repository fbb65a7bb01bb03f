/-! the law's beginning, in both; and the whole -/
def z_I0 : MI := fun a k => bif Nat.beq a 14 then (bif Nat.beq k 6 then 2 else bif Nat.beq k 8 then 1 else 0) else bif Nat.beq a 39 then (bif Nat.beq k 0 then 1 else 0) else bif Nat.beq a 60 then (bif Nat.beq k 0 then 2 else 0) else bif Nat.beq a 81 then (bif Nat.beq k 0 then 3 else 0) else bif Nat.beq a 112 then (bif Nat.beq k 16 then 2 else bif Nat.beq k 17 then 1 else 0) else 0
def z_J0 : MJ := fun _ _ => 0
def z_X1 : MX := (fun w => 38 + 21 * w, va_up (fun _ => 0) 168 1, 1, 169, 340045)
theorem zz_len (w : Nat) (h : w < 4) : xlen z_X1 w = 16 := by
  have : w = 0 ∨ w = 1 ∨ w = 2 ∨ w = 3 := by omega
  rcases this with rfl | rfl | rfl | rfl <;> rfl
theorem z_sum : xsum z_X1 = 64 := by
  unfold xsum
  rw [zz_len 0 (by omega), zz_len 1 (by omega), zz_len 2 (by omega), zz_len 3 (by omega)]
theorem z_XI : XI z_X1 := by
  refine ⟨fun w hw => ⟨?_, Or.inl rfl, ?_, ?_⟩, fun a b ha hb hn => ?_, ?_⟩
  · show 38 + 21 * w < 168 + 1
    omega
  · rw [zz_len w hw]
    decide
  · rw [zz_len w hw]
    decide
  · show 38 + 21 * a ≠ 38 + 21 * b
    omega
  · rw [z_sum]
    show 16 * 1 + 48 ≤ 64
    decide
theorem START : ∃ I1 J1, f_Model_newHall 2 0 1 z_I0 z_J0 = some ((), I1, J1) ∧ REL z_X1 I1 (va_up J1 168 (fun _ => 0)) I1 (va_up J1 168 (fun _ => 0)) := by
  obtain ⟨I1, J1, e1, f1, f2, ⟨g8, g16, g17, g24, g26, g28, g34⟩, f3, f4, f5, f6, f7, f8, f9⟩ := NHL (P := 2) (sd := 0) (p4 := 1) (I := z_I0) (J := z_J0) (by decide)
  refine ⟨I1, J1, e1, ?_⟩
  have fi : ∀ a, a < 112 → I1 a = z_I0 a := fun a ha => f1 a (by unfold nhR; omega) (by omega) (by omega) (by omega) (by omega)
  have fj : ∀ a, a ≠ 112 → a ≠ 117 → a ≠ 168 → va_up J1 168 (fun _ => 0) a = z_J0 a := fun a a1 a2 a3 => by rw [va_up_ne _ _ a3, f5 a a1 a2]
  have fm : ∀ j, j ≠ 8 → j ≠ 16 → j ≠ 17 → j ≠ 24 → j ≠ 26 → j ≠ 28 → j ≠ 34 → I1 112 j = z_I0 112 j := f2
  refine ⟨⟨⟨0, by decide, by rw [fi 4 (by decide)]; rfl, by rw [fm 2 (by decide) (by decide) (by decide) (by decide) (by decide) (by decide) (by decide)]; rfl, fun k hk => absurd hk (Nat.not_lt_zero _)⟩, ⟨0, by decide, by rw [fi 1 (by decide)]; rfl, by rw [fm 12 (by decide) (by decide) (by decide) (by decide) (by decide) (by decide) (by decide)]; rfl, fun k hk => absurd hk (Nat.not_lt_zero _)⟩, ⟨by rw [fi 0 (by decide), fm 3 (by decide) (by decide) (by decide) (by decide) (by decide) (by decide) (by decide)]; rfl, by rw [fi 0 (by decide), fm 4 (by decide) (by decide) (by decide) (by decide) (by decide) (by decide) (by decide)]; rfl⟩⟩, ⟨0, 0, by decide, by rw [fi 0 (by decide)]; rfl, by rw [fm 30 (by decide) (by decide) (by decide) (by decide) (by decide) (by decide) (by decide)]; rfl, by decide, by rw [fi 0 (by decide)]; rfl, by rw [fm 85 (by decide) (by decide) (by decide) (by decide) (by decide) (by decide) (by decide)]; rfl⟩, ⟨z_XI, Nat.le_refl _, rfl, fun w hw => ?_⟩, 2, 1, 0, 0, fun _ => 0, ⟨⟨by rw [fi 15 (by decide)]; rfl, fun k hk => absurd hk (Nat.not_lt_zero _)⟩, by decide, Or.inl ⟨g8, rfl⟩⟩, ⟨fun z => absurd g8 z, fun z => absurd z (by decide)⟩, Or.inl ⟨fun _ _ => 0, fun _ _ => 0, ⟨⟨⟨by decide, by decide⟩, ⟨by decide, by decide⟩, ⟨by rw [fi 14 (by decide)]; rfl, by rw [fi 14 (by decide)]; rfl, by rw [fi 14 (by decide)]; rfl, by rw [fj 14 (by decide) (by decide) (by decide)]; rfl, by rw [fi 102 (by decide)]; rfl, by rw [fi 102 (by decide)]; rfl, by rw [fi 102 (by decide)]; rfl⟩, ⟨g16, g17, by rw [fm 35 (by decide) (by decide) (by decide) (by decide) (by decide) (by decide) (by decide)]; rfl, g24, g26, g28, by rw [va_up_ne _ _ (by decide)]; exact f7, by rw [va_up_ne _ _ (by decide)]; exact f8, fun j hj => by rw [va_up_ne _ _ (by decide)]; exact f9 j hj⟩, ⟨by decide, by decide, by decide, by decide⟩, fun x hx => ?_⟩, fun x hx => ?_⟩, by rw [fi 14 (by decide)]; rfl, g34⟩⟩
  · show 38 + 21 * w ≠ 168
    omega
  · rw [fi (18 + 21 * x) (by omega)]
    have : x = 0 ∨ x = 1 ∨ x = 2 ∨ x = 3 := by omega
    rcases this with rfl | rfl | rfl | rfl <;> rfl
  · have r := fun b hb => f3 b x hb (by omega)
    unfold HPY
    rw [fi (25 + 21 * x) (by omega), fi (29 + 21 * x) (by omega), fi (31 + 21 * x) (by omega), f4 x hx, r 125 (by unfold nhR; omega), r 126 (by unfold nhR; omega), r 120 (by unfold nhR; omega), r 119 (by unfold nhR; omega), r 121 (by unfold nhR; omega), r 122 (by unfold nhR; omega), r 123 (by unfold nhR; omega)]
    have : x = 0 ∨ x = 1 := by omega
    rcases this with rfl | rfl
    · exact ⟨rfl, rfl, rfl, rfl, rfl, rfl, rfl, rfl, fun k hk => absurd hk (Nat.not_lt_zero _), rfl, rfl, rfl, rfl, rfl, rfl, rfl, rfl, by decide⟩
    · exact ⟨rfl, rfl, rfl, rfl, rfl, rfl, rfl, rfl, fun k hk => absurd hk (Nat.not_lt_zero _), rfl, rfl, rfl, rfl, rfl, rfl, rfl, rfl, by decide⟩
theorem z_RMX : RMX z_X1 0 := by
  unfold RMX
  rw [z_sum]
  exact ⟨by decide, by decide⟩
/-- on every script the law comes to its end, within the room -/
theorem z_all (L : Nat) (xs : Nat → Int32) (hL : L ≤ 3072) : ∃ (I1 : MI) (J1 : MJ) (X' : MX) (I' : MI) (J' : MJ), f_Model_newHall 2 0 1 z_I0 z_J0 = some ((), I1, J1) ∧ f_Law_law_23 L xs gF 0 z_X1 I1 (va_up J1 168 (fun _ => 0)) = some (.inr (), X', I', J') ∧ X'.2.2.2.1 ≤ 601024 ∧ X'.2.2.2.2 ≤ 7293034 := by
  obtain ⟨I1, J1, e1, h⟩ := START
  obtain ⟨X', I', J', e2, hx, hm⟩ := LAW (xs := xs) hL gF 0 z_X1 I1 (va_up J1 168 (fun _ => 0)) (by omega) (by show L + 6 ≤ 6 * 0 + 6 * 1000000; omega) h z_RMX
  refine ⟨I1, J1, X', I', J', e1, e2, ?_, ?_⟩
  all_goals
    have h1 := (hx.1 0 (by omega)).2.2.2
    have h2 := (hx.1 1 (by omega)).2.2.2
    have h3 := (hx.1 2 (by omega)).2.2.2
    have h4 := (hx.1 3 (by omega)).2.2.2
    have h5 := hx.2.2
    obtain ⟨m1, m2⟩ := hm
    unfold xsum at h5 m2
    omega
