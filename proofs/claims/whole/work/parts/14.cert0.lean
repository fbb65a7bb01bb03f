/-! the code is that of the bytes -/
def ck_I (y pc : Nat) (q : am_I) : Bool := bif Nat.ble q.1 39 then am_ck y pc q else bif Nat.ble q.1 44 then ck_ret y pc q.1 else bif Nat.beq q.1 50 then ck_call y pc q.2.1 q.2.2.1 q.2.2.2.2 else bif Nat.beq q.1 52 then ck_call y pc q.2.1 q.2.2.1 q.2.2.2.2 && decide (y ∈ g_hp) && Nat.ble 2 (gK q.2.1) && (g_hh y).all (fun z => Nat.ble z.1 pc && Nat.blt pc z.2.1) else bif Nat.beq q.1 51 then ck_cW y pc q.2.1 q.2.2.1 q.2.2.2.2 else bif Nat.beq q.1 70 then ck_thr y pc q.2.1 else true
def ck_L (y : Nat) : Nat → List am_I → Bool
  | _, [] => true
  | pc, q :: r => ck_I y pc q && ck_L y (pc + 1) r
/-- a chunk after the other, each of 32 but the last -/
def ck_C (y : Nat) : Nat → List (List am_I) → Bool
  | _, [] => true
  | k, q :: r => ck_L y (32 * k) q && ck_C y (k + 1) r
theorem ck_L_at {y : Nat} : ∀ {l : List am_I} {pc : Nat}, ck_L y pc l = true → ∀ i, ck_I y (pc + i) (g_get gz l i) = true := by
  intro l
  induction l with
  | nil => intro pc _ i; rfl
  | cons q r ih =>
    intro pc h i
    unfold ck_L at h
    rw [Bool.and_eq_true] at h
    cases i with
    | zero => exact h.1
    | succ i =>
      have := ih h.2 i
      rw [show pc + (i + 1) = pc + 1 + i by omega]
      exact this
theorem ck_C_at {y : Nat} : ∀ {l : List (List am_I)} {k : Nat}, ck_C y k l = true → ∀ i, ck_L y (32 * (k + i)) (g_get [] l i) = true := by
  intro l
  induction l with
  | nil => intro k _ i; rfl
  | cons q r ih =>
    intro k h i
    unfold ck_C at h
    rw [Bool.and_eq_true] at h
    cases i with
    | zero => exact h.1
    | succ i =>
      have := ih h.2 i
      rw [show k + (i + 1) = k + 1 + i by omega]
      exact this
theorem ck_at {y : Nat} {l : List (List am_I)} (h : ck_C y 0 l = true) (pc : Nat) : ck_I y pc (g_get gz (g_get [] l (pc / 32)) (pc % 32)) = true := by
  have h1 := ck_L_at (ck_C_at h (pc / 32)) (pc % 32)
  rw [show 32 * (0 + pc / 32) + pc % 32 = pc by omega] at h1
  exact h1
theorem ck_C_c {y k : Nat} {q : List am_I} {r : List (List am_I)} (h1 : ck_L y (32 * k) q = true) (h2 : ck_C y (k + 1) r = true) : ck_C y k (q :: r) = true := by
  unfold ck_C
  rw [h1, h2]
  rfl
