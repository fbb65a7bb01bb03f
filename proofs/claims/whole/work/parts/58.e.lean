/-! the run: an operation, as all parties do it -/
def jnt (cd : Nat → Nat) (pos : Nat) : Prop := (cd pos = 25 ∧ 4 ≤ cd (pos + 2) ∧ 4 ≤ cd (pos + 3)) ∨ (cd pos = 26 ∧ 4 ≤ cd (pos + 1) ∧ 4 ≤ cd (pos + 2))
/-- places of arrays, one by one -/
def ajv (o : Nat → Nat → Nat) (ex ey : Nat → Nat) (A B C : Nat) : Nat → Nat → (Nat → Nat) → (Nat → Nat)
  | 0, _, va => va
  | d + 1, i, va => ajv o ex ey A B C d (i + 1) (apn va (26 + 16 * A + i) (o (pA (va (26 + 16 * B + i)) (ex i)) (pA (va (26 + 16 * C + i)) (ey i))))
def ajs (ex ey : Nat → Nat) (B C : Nat) (va : Nat → Nat) : Nat → Nat → Nat → Nat
  | 0, _, s => s
  | d + 1, i, s => ajs ex ey B C va d (i + 1) (pA s (pM (pA (va (26 + 16 * B + i)) (ex i)) (pA (va (26 + 16 * C + i)) (ey i))))
def aop (c : Nat) (x y : Nat) : Nat := if c = 4 ∨ c = 23 then pA x y else if c = 5 ∨ c = 24 then pS x y else pM x y
abbrev LO6 : Type := Nat × Nat × (Nat → Nat) × (Nat → Nat) × Nat × (Nat → Nat)
/-- next place, height, pile, variables, kept: e: errors (none of which where it isn't shared), inp: the input, bt: the bit -/
def lop (cd e : Nat → Nat) (inp bt pos h : Nat) (sk va : Nat → Nat) (nk : Nat) (kp : Nat → Nat) : LO6 :=
  if cd pos = 4 ∨ cd pos = 5 ∨ cd pos = 6 then (pos + 1, h - 1, apn sk (h - 2) (aop (cd pos) (sk (h - 2)) (sk (h - 1))), va, nk, kp)
  else if cd pos = 7 then (pos + 1, h - 1, apn sk (h - 2) (pM (pA (sk (h - 2)) (e 0)) (pA (sk (h - 1)) (e 1))), va, nk, kp)
  else if cd pos = 8 then (pos + 1, h, apn sk (h - 1) (pS 0 (sk (h - 1))), va, nk, kp)
  else if cd pos = 9 then (pos + 1, h, apn sk (h - 1) (pM (sk (h - 1)) (sk (h - 1))), va, nk, kp)
  else if cd pos = 10 then (pos + 1, h, apn sk (h - 1) (pM (pA (sk (h - 1)) (e 0)) (pA (sk (h - 1)) (e 0))), va, nk, kp)
  else if cd pos = 11 then (pos + 2, h - 1, sk, apn va (cd (pos + 1)) (sk (h - 1)), nk, kp)
  else if cd pos = 12 then (pos + 2, h - 1, sk, apn va (13 + cd (pos + 1)) (sk (h - 1)), nk, kp)
  else if cd pos = 13 then (pos + 3, h, sk, apn va (13 + cd (pos + 1)) (pA inp (e 0)), nk, kp)
  else if cd pos = 14 then (pos + 3, h, sk, apn va (cd (pos + 1)) (pA (va (13 + cd (pos + 2))) (e 0)), nk, kp)
  else if cd pos = 15 ∨ cd pos = 16 then (pos + 2, h, sk, va, nk, kp)
  else if cd pos = 17 then (if va (cd (pos + 1)) = 0 then tgt cd pos else pos + 4, h, sk, va, nk, kp)
  else if cd pos = 18 then (tgt cd pos, h, sk, va, nk, kp)
  else if cd pos = 19 then (pos + 2, h, apn sk (h - 1) (va (26 + 16 * cd (pos + 1) + sk (h - 1))), va, nk, kp)
  else if cd pos = 20 then (pos + 2, h, apn sk (h - 1) (va (26 + 16 * (cd (pos + 1) + 4) + sk (h - 1))), va, nk, kp)
  else if cd pos = 21 then (pos + 2, h - 2, sk, apn va (26 + 16 * cd (pos + 1) + sk (h - 2)) (sk (h - 1)), nk, kp)
  else if cd pos = 22 then (pos + 2, h - 2, sk, apn va (26 + 16 * (cd (pos + 1) + 4) + sk (h - 2)) (sk (h - 1)), nk, kp)
  else if cd pos = 23 ∨ cd pos = 24 ∨ cd pos = 25 then (pos + 4, h, sk, ajv (aop (cd pos)) (fun i => e (2 * i)) (fun i => e (2 * i + 1)) (cd (pos + 1)) (cd (pos + 2)) (cd (pos + 3)) 16 0 va, nk, kp)
  else if cd pos = 26 then (pos + 3, h + 1, apn sk h (ajs (fun i => e (2 * i)) (fun i => e (2 * i + 1)) (cd (pos + 1)) (cd (pos + 2)) va 16 0 0), va, nk, kp)
  else if cd pos = 27 then (pos + 2, h, sk, apn va (13 + cd (pos + 1)) bt, nk, kp)
  else if cd pos = 28 then (tgt cd pos, h, sk, va, nk + 1, apn kp nk (pos + 3))
  else if cd pos = 29 then (kp (nk - 1), h, sk, va, nk - 1, kp)
  else (pos, h, sk, va, nk, kp)
theorem pA_0 {x : Nat} (h : x < pP) : pA x 0 = x := Nat.mod_eq_of_lt h
theorem aop_lt (c x y : Nat) : aop c x y < pP := by
  unfold aop
  by_cases h1 : c = 4 ∨ c = 23
  · rw [if_pos h1]; exact pA_lt _ _
  · rw [if_neg h1]
    by_cases h2 : c = 5 ∨ c = 24
    · rw [if_pos h2]; exact pS_lt _ _
    · rw [if_neg h2]; exact pM_lt _ _
section OPS
variable {cd va : Nat → Nat} {n P : Nat} {st : Nat → Bool} {hg : Nat → Nat}
theorem WF_a (hW : WFc cd n P st hg) {pos : Nat} (hs : st pos = true) : (cd pos = 11 ∨ cd pos = 12 ∨ cd pos = 15 ∨ cd pos = 16 ∨ cd pos = 17 ∨ cd pos = 27 → cd (pos + 1) < 13) ∧ (cd pos = 13 → cd (pos + 1) < 13 ∧ cd (pos + 2) < P) ∧ (cd pos = 14 → cd (pos + 1) < 13 ∧ cd (pos + 2) < 13) ∧ (cd pos = 19 ∨ cd pos = 20 ∨ cd pos = 21 ∨ cd pos = 22 → cd (pos + 1) < 4) ∧ (cd pos = 23 ∨ cd pos = 24 ∨ cd pos = 25 → cd (pos + 1) < 8 ∧ cd (pos + 2) < 8 ∧ cd (pos + 3) < 8) ∧ (cd pos = 26 → cd (pos + 1) < 8 ∧ cd (pos + 2) < 8) := by
  have a4 := (hW.2.2.2.2.2 pos hs).2.2.2.1
  refine ⟨fun h => ?_, fun h => ?_, fun h => ?_, fun h => ?_, fun h => ?_, fun h => ?_⟩
  · rcases h with h | h | h | h | h | h <;> (unfold opok opokb at a4; rw [h] at a4; exact of_decide_eq_true a4)
  · unfold opok opokb at a4; rw [h] at a4; exact of_decide_eq_true a4
  · unfold opok opokb at a4; rw [h] at a4; exact of_decide_eq_true a4
  · rcases h with h | h | h | h <;> (unfold opok opokb at a4; rw [h] at a4; exact of_decide_eq_true a4)
  · rcases h with h | h | h <;> (unfold opok opokb at a4; rw [h] at a4; exact of_decide_eq_true a4)
  · unfold opok opokb at a4; rw [h] at a4; exact of_decide_eq_true a4
/-- what an operation needs of the pile, and leaves -/
theorem WF_h (hW : WFc cd n P st hg) {pos : Nat} (hs : st pos = true) : pos < n ∧ cd pos ≤ 29 ∧ pos + opl (cd pos) ≤ n ∧ nd (cd pos) ≤ hg pos ∧ hg pos - nd (cd pos) + gv (cd pos) ≤ 64 := by
  obtain ⟨a1, a2, a3, a4, a5, a6, _⟩ := hW.2.2.2.2.2 pos hs
  exact ⟨a1, a2, a3, a5, a6⟩
end OPS
