/-! party, of both -/
def PTL (v4 p2 p3 : Int32) (I4 : MI) (J4 : MJ) : M2 Int32 := if p3 = 0 then (some (v4, I4, J4)) else (if p3 = 1 then (if (I4 112 34) = 0 then (some (0, I4, J4)) else (if p2 < 0 ∨ 4 ≤ Int32.toNatClampNeg p2 then none else (some (I4 129 (Int32.toNatClampNeg p2), I4, J4)))) else (if p3 = 2 then (if (I4 112 34) = 0 then (some (0, I4, J4)) else (if p2 < 0 ∨ 4 ≤ Int32.toNatClampNeg p2 then none else (some (I4 130 (Int32.toNatClampNeg p2), I4, J4)))) else (if p3 = 3 then (if (I4 112 34) = 0 then (some (0, I4, J4)) else (if p2 < 0 ∨ 4 ≤ Int32.toNatClampNeg p2 then none else (some (I4 132 (Int32.toNatClampNeg p2), I4, J4)))) else (if p3 = 4 then (if (I4 112 34) = 0 then (some (0, I4, J4)) else (if p2 < 0 ∨ 4 ≤ Int32.toNatClampNeg p2 then none else (some (I4 133 (Int32.toNatClampNeg p2), I4, J4)))) else (if p3 = 5 then (if p2 < 0 ∨ 4 ≤ Int32.toNatClampNeg p2 then none else (some (I4 119 (Int32.toNatClampNeg p2), I4, J4))) else (if p3 = 6 then (if p2 < 0 ∨ 4 ≤ Int32.toNatClampNeg p2 then none else (if p2 < 0 ∨ 4 ≤ Int32.toNatClampNeg p2 then none else (some ((I4 125 (Int32.toNatClampNeg p2)) - (I4 126 (Int32.toNatClampNeg p2)), I4, J4)))) else (if p3 = 7 then (if (I4 112 34) = 0 then (some (0, I4, J4)) else (if p2 < 0 ∨ 4 ≤ Int32.toNatClampNeg p2 then none else (some (I4 138 (Int32.toNatClampNeg p2), I4, J4)))) else (if p3 = 8 then (if (I4 112 34) = 0 then (some (0, I4, J4)) else (if p2 < 0 ∨ 4 ≤ Int32.toNatClampNeg p2 then none else (some (I4 134 (Int32.toNatClampNeg p2), I4, J4)))) else (if p3 = 9 then (if (I4 112 34) = 0 then (some (0, I4, J4)) else (if p2 < 0 ∨ 4 ≤ Int32.toNatClampNeg p2 then none else (some (I4 137 (Int32.toNatClampNeg p2), I4, J4)))) else (if p3 = 30 then (if (I4 112 34) = 0 then (some (0, I4, J4)) else (if p2 < 0 ∨ 4 ≤ Int32.toNatClampNeg p2 then none else (some (I4 141 (Int32.toNatClampNeg p2), I4, J4)))) else (some ((-1), I4, J4))))))))))))
def PBD (v4 p2 p3 : Int32) (I4 : MI) (J4 : MJ) : M2 Int32 := if p3 < 10 then (if p3 < 20 then (PTL v4 p2 p3 I4 J4) else (if (20 + (I4 112 16)) ≤ p3 then (PTL v4 p2 p3 I4 J4) else (if (I4 112 34) = 0 then (some (0, I4, J4)) else (if ((4 * (p3 - 20)) + p2) < 0 ∨ 16 ≤ Int32.toNatClampNeg ((4 * (p3 - 20)) + p2) then none else (some (I4 150 (Int32.toNatClampNeg ((4 * (p3 - 20)) + p2)), I4, J4)))))) else (if (10 + (I4 112 16)) ≤ p3 then (if p3 < 20 then (PTL v4 p2 p3 I4 J4) else (if (20 + (I4 112 16)) ≤ p3 then (PTL v4 p2 p3 I4 J4) else (if (I4 112 34) = 0 then (some (0, I4, J4)) else (if ((4 * (p3 - 20)) + p2) < 0 ∨ 16 ≤ Int32.toNatClampNeg ((4 * (p3 - 20)) + p2) then none else (some (I4 150 (Int32.toNatClampNeg ((4 * (p3 - 20)) + p2)), I4, J4)))))) else (if (I4 112 34) = 0 then (some (0, I4, J4)) else (if (((4 * p2) + p3) - 10) < 0 ∨ 16 ≤ Int32.toNatClampNeg (((4 * p2) + p3) - 10) then none else (if (((4 * p2) + p3) - 10) < 0 ∨ 16 ≤ Int32.toNatClampNeg (((4 * p2) + p3) - 10) then none else (pl ((if (I4 149 (Int32.toNatClampNeg (((4 * p2) + p3) - 10))) = 0 then (0) else (1)) : Int32) (fun v139 => some ((I4 148 (Int32.toNatClampNeg (((4 * p2) + p3) - 10))) + v139, I4, J4)))))))
theorem PTY_e (p2 p3 : Int32) (I : MI) (J : MJ) : f_Model_party p2 p3 I J = pl (va_up I 112 (upd (I 112) 0 0)) (fun I1 => oc (f_Model_isParty p2 I1 J) (fun v2 I2 J2 => if ¬ v2 = 0 then (oc (f_Model_statusOf p2 I2 J2) (fun v4 I4 J4 => PBD v4 p2 p3 I4 J4)) else (some ((-1), I2, J2)))) := rfl
theorem rm10 : ∀ k, k < 30 → 10 ≤ k → nI k - nI k / 10 * 10 = nI (k % 10) := by decide
section PARTY
variable {P a k : Nat} {I I4 : MI} {J J4 : MJ} {v4 p3 : Int32}
/-- numbers that nothing answers to -/
theorem PTL_x (h : p3 < 0 ∨ (∃ k, 10 ≤ k ∧ k < 2 ^ 31 ∧ k ≠ 30 ∧ p3 = nI k)) (p2 : Int32) : PTL v4 p2 p3 I4 J4 = some (-1, I4, J4) := by
  have ne : ∀ j, j < 10 ∨ j = 30 → ¬ p3 = nI j := fun j hj e => by
    rcases h with h | ⟨k, k1, k2, k3, k4⟩
    · rw [e] at h
      have := (nI_ltI (b := 0) (by omega) (by omega)).mp h
      omega
    · rw [k4] at e
      have := (nI_eq (by omega) (by omega)).mp e
      omega
  unfold PTL
  rw [if_neg (show ¬ p3 = 0 from ne 0 (by omega)), if_neg (show ¬ p3 = 1 from ne 1 (by omega)), if_neg (show ¬ p3 = 2 from ne 2 (by omega)), if_neg (show ¬ p3 = 3 from ne 3 (by omega)), if_neg (show ¬ p3 = 4 from ne 4 (by omega)), if_neg (show ¬ p3 = 5 from ne 5 (by omega)), if_neg (show ¬ p3 = 6 from ne 6 (by omega)), if_neg (show ¬ p3 = 7 from ne 7 (by omega)), if_neg (show ¬ p3 = 8 from ne 8 (by omega)), if_neg (show ¬ p3 = 9 from ne 9 (by omega)), if_neg (show ¬ p3 = 30 from ne 30 (by omega))]
theorem PTB (hP : P ≤ 4) (ha : a < P) (h6 : I 14 6 = nI P) (h16 : I4 112 16 = nI P) (h9 : I 14 9 = 0 ↔ I4 112 34 = 0)
    (hm : I (29 + 21 * a) 4 - I (29 + 21 * a) 5 = I4 119 a) (hi : I (29 + 21 * a) 2 - I (29 + 21 * a) 3 = I4 125 a - I4 126 a) (h0 : I 14 9 = 0 → v4 = 2)
    (hr : ¬ I 14 9 = 0 → I (18 + 21 * a) 0 = nI a ∧ I (18 + 21 * a) 10 = v4 ∧ I (18 + 21 * a) 13 = I4 129 a ∧ I (32 + 21 * a) 5 = I4 130 a ∧ I (32 + 21 * a) 7 = I4 132 a ∧ I (18 + 21 * a) 6 = I4 133 a ∧ I (18 + 21 * a) 12 = I4 138 a ∧ I (25 + 21 * a) 5 = I4 134 a ∧ I (18 + 21 * a) 11 = I4 137 a ∧ I (19 + 21 * a) 6 = I4 141 a ∧ (∀ j, j < P → I (33 + 21 * a) j = I4 148 (4 * a + j) ∧ I (34 + 21 * a) j = I4 149 (4 * a + j) ∧ I (35 + 21 * a) j = I4 150 (4 * j + a)) ∧ I4 148 (4 * a + a) = nI 0 ∧ I4 149 (4 * a + a) = nI 0 ∧ I4 150 (4 * a + a) = nI 0) :
    ∃ u, f_Sh_party (nI a) p3 I J = some (u, I, J) ∧ PBD v4 (nI a) p3 I4 J4 = some (u, I4, J4) := by
  have za := nin (show a < 4 by omega) (show 4 < 2 ^ 31 by decide)
  have n1 : ¬ nI 1 = 0 := by decide
  have h34 : ¬ I 14 9 = 0 → ¬ I4 112 34 = 0 := fun r z => r (h9.mpr z)
  have e10 : (10 : Int32) + nI P = nI (10 + P) := by rw [show (10 : Int32) = nI 10 from rfl, nI_add]
  have e20 : (20 : Int32) + nI P = nI (20 + P) := by rw [show (20 : Int32) = nI 20 from rfl, nI_add]
  rcases nI_of3 p3 with q | ⟨k, k1, e⟩
  · have lt : ∀ j, j < 2 ^ 31 → p3 < nI j := fun j hj => Int32.lt_of_lt_of_le q (nI_le (a := 0) (by omega) (by omega))
    have ne : ∀ j, j < 2 ^ 31 → ¬ p3 = nI j := fun j hj z => Int32.lt_irrefl (z ▸ lt j hj)
    refine ⟨-1, ?_, ?_⟩
    · unfold f_Sh_party
      rw [HAS1 hP h6 ha, if_pos n1, nI_clamp (n := a) (by omega), if_neg za, if_pos (show ¬ p3 = 5 from ne 5 (by decide)), if_pos (show ¬ p3 = 6 from ne 6 (by decide)), if_pos (show p3 < 10 from lt 10 (by decide)), if_pos (show ¬ p3 = 30 from ne 30 (by decide)), if_pos q]
    · unfold PBD
      rw [if_pos (show p3 < 10 from lt 10 (by decide)), if_pos (show p3 < 20 from lt 20 (by decide)), PTL_x (Or.inl q)]
  · subst e
    by_cases k10 : k < 10
    · have kk : k = 0 ∨ k = 1 ∨ k = 2 ∨ k = 3 ∨ k = 4 ∨ k = 5 ∨ k = 6 ∨ k = 7 ∨ k = 8 ∨ k = 9 := by omega
      rcases kk with rfl | rfl | rfl | rfl | rfl | rfl | rfl | rfl | rfl | rfl
      · by_cases r : I 14 9 = 0
        · refine ⟨2, ?_, ?_⟩
          · unfold f_Sh_party
            rw [HAS1 hP h6 ha, if_pos n1, nI_clamp (n := a) (by omega), if_neg za, if_pos (show ¬ nI 0 = 5 by decide), if_pos (show ¬ nI 0 = 6 by decide), if_pos (show nI 0 < 10 by decide), if_pos (show ¬ nI 0 = 30 by decide), if_neg (show ¬ nI 0 < 0 by decide), if_pos (show nI 0 ≤ 9 by decide), if_neg (fun z => z r), if_neg (fun z => z rfl)]
          · unfold PBD PTL
            rw [if_pos (show nI 0 < 10 by decide), if_pos (show nI 0 < 20 by decide), if_pos (show nI 0 = 0 from rfl), h0 r]
        · obtain ⟨yi, y0, y1, y2, y3, y4, y7, y8, y9, y30, yw, yv, yn, yg⟩ := hr r
          refine ⟨I (18 + 21 * a) 10, ?_, ?_⟩
          · unfold f_Sh_party
            rw [HAS1 hP h6 ha, if_pos n1, nI_clamp (n := a) (by omega), if_neg za, if_pos (show ¬ nI 0 = 5 by decide), if_pos (show ¬ nI 0 = 6 by decide), if_pos (show nI 0 < 10 by decide), if_pos (show ¬ nI 0 = 30 by decide), if_neg (show ¬ nI 0 < 0 by decide), if_pos (show nI 0 ≤ 9 by decide), if_pos r]
            unfold f_Party_tell
            rw [if_pos (show nI 0 = 0 from rfl), oc_some]
          · unfold PBD PTL
            rw [if_pos (show nI 0 < 10 by decide), if_pos (show nI 0 < 20 by decide), if_pos (show nI 0 = 0 from rfl), y0]
      · by_cases r : I 14 9 = 0
        · refine ⟨0, ?_, ?_⟩
          · unfold f_Sh_party
            rw [HAS1 hP h6 ha, if_pos n1, nI_clamp (n := a) (by omega), if_neg za, if_pos (show ¬ nI 1 = 5 by decide), if_pos (show ¬ nI 1 = 6 by decide), if_pos (show nI 1 < 10 by decide), if_pos (show ¬ nI 1 = 30 by decide), if_neg (show ¬ nI 1 < 0 by decide), if_pos (show nI 1 ≤ 9 by decide), if_neg (fun z => z r), if_pos (show ¬ nI 1 = 0 by decide)]
          · unfold PBD PTL
            rw [if_pos (show nI 1 < 10 by decide), if_pos (show nI 1 < 20 by decide), if_neg (show ¬ nI 1 = 0 by decide), if_pos (show nI 1 = 1 from rfl), if_pos (h9.mp r)]
        · obtain ⟨yi, y0, y1, y2, y3, y4, y7, y8, y9, y30, yw, yv, yn, yg⟩ := hr r
          refine ⟨I (18 + 21 * a) 13, ?_, ?_⟩
          · unfold f_Sh_party
            rw [HAS1 hP h6 ha, if_pos n1, nI_clamp (n := a) (by omega), if_neg za, if_pos (show ¬ nI 1 = 5 by decide), if_pos (show ¬ nI 1 = 6 by decide), if_pos (show nI 1 < 10 by decide), if_pos (show ¬ nI 1 = 30 by decide), if_neg (show ¬ nI 1 < 0 by decide), if_pos (show nI 1 ≤ 9 by decide), if_pos r]
            unfold f_Party_tell
            rw [if_neg (show ¬ nI 1 = 0 by decide), if_pos (show nI 1 = 1 from rfl), oc_some]
          · unfold PBD PTL
            rw [if_pos (show nI 1 < 10 by decide), if_pos (show nI 1 < 20 by decide), if_neg (show ¬ nI 1 = 0 by decide), if_pos (show nI 1 = 1 from rfl), if_neg (h34 r), nI_clamp (n := a) (by omega), if_neg za, y1]
      · by_cases r : I 14 9 = 0
        · refine ⟨0, ?_, ?_⟩
          · unfold f_Sh_party
            rw [HAS1 hP h6 ha, if_pos n1, nI_clamp (n := a) (by omega), if_neg za, if_pos (show ¬ nI 2 = 5 by decide), if_pos (show ¬ nI 2 = 6 by decide), if_pos (show nI 2 < 10 by decide), if_pos (show ¬ nI 2 = 30 by decide), if_neg (show ¬ nI 2 < 0 by decide), if_pos (show nI 2 ≤ 9 by decide), if_neg (fun z => z r), if_pos (show ¬ nI 2 = 0 by decide)]
          · unfold PBD PTL
            rw [if_pos (show nI 2 < 10 by decide), if_pos (show nI 2 < 20 by decide), if_neg (show ¬ nI 2 = 0 by decide), if_neg (show ¬ nI 2 = 1 by decide), if_pos (show nI 2 = 2 from rfl), if_pos (h9.mp r)]
        · obtain ⟨yi, y0, y1, y2, y3, y4, y7, y8, y9, y30, yw, yv, yn, yg⟩ := hr r
          refine ⟨I (32 + 21 * a) 5, ?_, ?_⟩
          · unfold f_Sh_party
            rw [HAS1 hP h6 ha, if_pos n1, nI_clamp (n := a) (by omega), if_neg za, if_pos (show ¬ nI 2 = 5 by decide), if_pos (show ¬ nI 2 = 6 by decide), if_pos (show nI 2 < 10 by decide), if_pos (show ¬ nI 2 = 30 by decide), if_neg (show ¬ nI 2 < 0 by decide), if_pos (show nI 2 ≤ 9 by decide), if_pos r]
            unfold f_Party_tell
            rw [if_neg (show ¬ nI 2 = 0 by decide), if_neg (show ¬ nI 2 = 1 by decide), if_pos (show nI 2 = 2 from rfl), oc_some]
          · unfold PBD PTL
            rw [if_pos (show nI 2 < 10 by decide), if_pos (show nI 2 < 20 by decide), if_neg (show ¬ nI 2 = 0 by decide), if_neg (show ¬ nI 2 = 1 by decide), if_pos (show nI 2 = 2 from rfl), if_neg (h34 r), nI_clamp (n := a) (by omega), if_neg za, y2]
      · by_cases r : I 14 9 = 0
        · refine ⟨0, ?_, ?_⟩
          · unfold f_Sh_party
            rw [HAS1 hP h6 ha, if_pos n1, nI_clamp (n := a) (by omega), if_neg za, if_pos (show ¬ nI 3 = 5 by decide), if_pos (show ¬ nI 3 = 6 by decide), if_pos (show nI 3 < 10 by decide), if_pos (show ¬ nI 3 = 30 by decide), if_neg (show ¬ nI 3 < 0 by decide), if_pos (show nI 3 ≤ 9 by decide), if_neg (fun z => z r), if_pos (show ¬ nI 3 = 0 by decide)]
          · unfold PBD PTL
            rw [if_pos (show nI 3 < 10 by decide), if_pos (show nI 3 < 20 by decide), if_neg (show ¬ nI 3 = 0 by decide), if_neg (show ¬ nI 3 = 1 by decide), if_neg (show ¬ nI 3 = 2 by decide), if_pos (show nI 3 = 3 from rfl), if_pos (h9.mp r)]
        · obtain ⟨yi, y0, y1, y2, y3, y4, y7, y8, y9, y30, yw, yv, yn, yg⟩ := hr r
          refine ⟨I (32 + 21 * a) 7, ?_, ?_⟩
          · unfold f_Sh_party
            rw [HAS1 hP h6 ha, if_pos n1, nI_clamp (n := a) (by omega), if_neg za, if_pos (show ¬ nI 3 = 5 by decide), if_pos (show ¬ nI 3 = 6 by decide), if_pos (show nI 3 < 10 by decide), if_pos (show ¬ nI 3 = 30 by decide), if_neg (show ¬ nI 3 < 0 by decide), if_pos (show nI 3 ≤ 9 by decide), if_pos r]
            unfold f_Party_tell
            rw [if_neg (show ¬ nI 3 = 0 by decide), if_neg (show ¬ nI 3 = 1 by decide), if_neg (show ¬ nI 3 = 2 by decide), if_pos (show nI 3 = 3 from rfl), oc_some]
          · unfold PBD PTL
            rw [if_pos (show nI 3 < 10 by decide), if_pos (show nI 3 < 20 by decide), if_neg (show ¬ nI 3 = 0 by decide), if_neg (show ¬ nI 3 = 1 by decide), if_neg (show ¬ nI 3 = 2 by decide), if_pos (show nI 3 = 3 from rfl), if_neg (h34 r), nI_clamp (n := a) (by omega), if_neg za, y3]
      · by_cases r : I 14 9 = 0
        · refine ⟨0, ?_, ?_⟩
          · unfold f_Sh_party
            rw [HAS1 hP h6 ha, if_pos n1, nI_clamp (n := a) (by omega), if_neg za, if_pos (show ¬ nI 4 = 5 by decide), if_pos (show ¬ nI 4 = 6 by decide), if_pos (show nI 4 < 10 by decide), if_pos (show ¬ nI 4 = 30 by decide), if_neg (show ¬ nI 4 < 0 by decide), if_pos (show nI 4 ≤ 9 by decide), if_neg (fun z => z r), if_pos (show ¬ nI 4 = 0 by decide)]
          · unfold PBD PTL
            rw [if_pos (show nI 4 < 10 by decide), if_pos (show nI 4 < 20 by decide), if_neg (show ¬ nI 4 = 0 by decide), if_neg (show ¬ nI 4 = 1 by decide), if_neg (show ¬ nI 4 = 2 by decide), if_neg (show ¬ nI 4 = 3 by decide), if_pos (show nI 4 = 4 from rfl), if_pos (h9.mp r)]
        · obtain ⟨yi, y0, y1, y2, y3, y4, y7, y8, y9, y30, yw, yv, yn, yg⟩ := hr r
          refine ⟨I (18 + 21 * a) 6, ?_, ?_⟩
          · unfold f_Sh_party
            rw [HAS1 hP h6 ha, if_pos n1, nI_clamp (n := a) (by omega), if_neg za, if_pos (show ¬ nI 4 = 5 by decide), if_pos (show ¬ nI 4 = 6 by decide), if_pos (show nI 4 < 10 by decide), if_pos (show ¬ nI 4 = 30 by decide), if_neg (show ¬ nI 4 < 0 by decide), if_pos (show nI 4 ≤ 9 by decide), if_pos r]
            unfold f_Party_tell
            rw [if_neg (show ¬ nI 4 = 0 by decide), if_neg (show ¬ nI 4 = 1 by decide), if_neg (show ¬ nI 4 = 2 by decide), if_neg (show ¬ nI 4 = 3 by decide), if_pos (show nI 4 = 4 from rfl), oc_some]
          · unfold PBD PTL
            rw [if_pos (show nI 4 < 10 by decide), if_pos (show nI 4 < 20 by decide), if_neg (show ¬ nI 4 = 0 by decide), if_neg (show ¬ nI 4 = 1 by decide), if_neg (show ¬ nI 4 = 2 by decide), if_neg (show ¬ nI 4 = 3 by decide), if_pos (show nI 4 = 4 from rfl), if_neg (h34 r), nI_clamp (n := a) (by omega), if_neg za, y4]
      · refine ⟨I4 119 a, ?_, ?_⟩
        · unfold f_Sh_party
          rw [HAS1 hP h6 ha, if_pos n1, nI_clamp (n := a) (by omega), if_neg za, if_neg (fun z => z rfl)]
          unfold f_Stock_masksLeft
          rw [oc_some, hm]
        · unfold PBD PTL
          rw [if_pos (show nI 5 < 10 by decide), if_pos (show nI 5 < 20 by decide), if_neg (show ¬ nI 5 = 0 by decide), if_neg (show ¬ nI 5 = 1 by decide), if_neg (show ¬ nI 5 = 2 by decide), if_neg (show ¬ nI 5 = 3 by decide), if_neg (show ¬ nI 5 = 4 by decide), if_pos (show nI 5 = 5 from rfl), nI_clamp (n := a) (by omega), if_neg za]
      · refine ⟨I4 125 a - I4 126 a, ?_, ?_⟩
        · unfold f_Sh_party
          rw [HAS1 hP h6 ha, if_pos n1, nI_clamp (n := a) (by omega), if_neg za, if_pos (show ¬ nI 6 = 5 by decide), if_neg (fun z => z rfl)]
          unfold f_Stock_inputsLeft
          rw [oc_some, hi]
        · unfold PBD PTL
          rw [if_pos (show nI 6 < 10 by decide), if_pos (show nI 6 < 20 by decide), if_neg (show ¬ nI 6 = 0 by decide), if_neg (show ¬ nI 6 = 1 by decide), if_neg (show ¬ nI 6 = 2 by decide), if_neg (show ¬ nI 6 = 3 by decide), if_neg (show ¬ nI 6 = 4 by decide), if_neg (show ¬ nI 6 = 5 by decide), if_pos (show nI 6 = 6 from rfl), nI_clamp (n := a) (by omega), if_neg za, if_neg za]
      · by_cases r : I 14 9 = 0
        · refine ⟨0, ?_, ?_⟩
          · unfold f_Sh_party
            rw [HAS1 hP h6 ha, if_pos n1, nI_clamp (n := a) (by omega), if_neg za, if_pos (show ¬ nI 7 = 5 by decide), if_pos (show ¬ nI 7 = 6 by decide), if_pos (show nI 7 < 10 by decide), if_pos (show ¬ nI 7 = 30 by decide), if_neg (show ¬ nI 7 < 0 by decide), if_pos (show nI 7 ≤ 9 by decide), if_neg (fun z => z r), if_pos (show ¬ nI 7 = 0 by decide)]
          · unfold PBD PTL
            rw [if_pos (show nI 7 < 10 by decide), if_pos (show nI 7 < 20 by decide), if_neg (show ¬ nI 7 = 0 by decide), if_neg (show ¬ nI 7 = 1 by decide), if_neg (show ¬ nI 7 = 2 by decide), if_neg (show ¬ nI 7 = 3 by decide), if_neg (show ¬ nI 7 = 4 by decide), if_neg (show ¬ nI 7 = 5 by decide), if_neg (show ¬ nI 7 = 6 by decide), if_pos (show nI 7 = 7 from rfl), if_pos (h9.mp r)]
        · obtain ⟨yi, y0, y1, y2, y3, y4, y7, y8, y9, y30, yw, yv, yn, yg⟩ := hr r
          refine ⟨I (18 + 21 * a) 12, ?_, ?_⟩
          · unfold f_Sh_party
            rw [HAS1 hP h6 ha, if_pos n1, nI_clamp (n := a) (by omega), if_neg za, if_pos (show ¬ nI 7 = 5 by decide), if_pos (show ¬ nI 7 = 6 by decide), if_pos (show nI 7 < 10 by decide), if_pos (show ¬ nI 7 = 30 by decide), if_neg (show ¬ nI 7 < 0 by decide), if_pos (show nI 7 ≤ 9 by decide), if_pos r]
            unfold f_Party_tell
            rw [if_neg (show ¬ nI 7 = 0 by decide), if_neg (show ¬ nI 7 = 1 by decide), if_neg (show ¬ nI 7 = 2 by decide), if_neg (show ¬ nI 7 = 3 by decide), if_neg (show ¬ nI 7 = 4 by decide), if_pos (show nI 7 = 7 from rfl), oc_some]
          · unfold PBD PTL
            rw [if_pos (show nI 7 < 10 by decide), if_pos (show nI 7 < 20 by decide), if_neg (show ¬ nI 7 = 0 by decide), if_neg (show ¬ nI 7 = 1 by decide), if_neg (show ¬ nI 7 = 2 by decide), if_neg (show ¬ nI 7 = 3 by decide), if_neg (show ¬ nI 7 = 4 by decide), if_neg (show ¬ nI 7 = 5 by decide), if_neg (show ¬ nI 7 = 6 by decide), if_pos (show nI 7 = 7 from rfl), if_neg (h34 r), nI_clamp (n := a) (by omega), if_neg za, y7]
      · by_cases r : I 14 9 = 0
        · refine ⟨0, ?_, ?_⟩
          · unfold f_Sh_party
            rw [HAS1 hP h6 ha, if_pos n1, nI_clamp (n := a) (by omega), if_neg za, if_pos (show ¬ nI 8 = 5 by decide), if_pos (show ¬ nI 8 = 6 by decide), if_pos (show nI 8 < 10 by decide), if_pos (show ¬ nI 8 = 30 by decide), if_neg (show ¬ nI 8 < 0 by decide), if_pos (show nI 8 ≤ 9 by decide), if_neg (fun z => z r), if_pos (show ¬ nI 8 = 0 by decide)]
          · unfold PBD PTL
            rw [if_pos (show nI 8 < 10 by decide), if_pos (show nI 8 < 20 by decide), if_neg (show ¬ nI 8 = 0 by decide), if_neg (show ¬ nI 8 = 1 by decide), if_neg (show ¬ nI 8 = 2 by decide), if_neg (show ¬ nI 8 = 3 by decide), if_neg (show ¬ nI 8 = 4 by decide), if_neg (show ¬ nI 8 = 5 by decide), if_neg (show ¬ nI 8 = 6 by decide), if_neg (show ¬ nI 8 = 7 by decide), if_pos (show nI 8 = 8 from rfl), if_pos (h9.mp r)]
        · obtain ⟨yi, y0, y1, y2, y3, y4, y7, y8, y9, y30, yw, yv, yn, yg⟩ := hr r
          refine ⟨I (25 + 21 * a) 5, ?_, ?_⟩
          · unfold f_Sh_party
            rw [HAS1 hP h6 ha, if_pos n1, nI_clamp (n := a) (by omega), if_neg za, if_pos (show ¬ nI 8 = 5 by decide), if_pos (show ¬ nI 8 = 6 by decide), if_pos (show nI 8 < 10 by decide), if_pos (show ¬ nI 8 = 30 by decide), if_neg (show ¬ nI 8 < 0 by decide), if_pos (show nI 8 ≤ 9 by decide), if_pos r]
            unfold f_Party_tell
            rw [if_neg (show ¬ nI 8 = 0 by decide), if_neg (show ¬ nI 8 = 1 by decide), if_neg (show ¬ nI 8 = 2 by decide), if_neg (show ¬ nI 8 = 3 by decide), if_neg (show ¬ nI 8 = 4 by decide), if_neg (show ¬ nI 8 = 7 by decide), if_pos (show nI 8 = 8 from rfl), oc_some]
          · unfold PBD PTL
            rw [if_pos (show nI 8 < 10 by decide), if_pos (show nI 8 < 20 by decide), if_neg (show ¬ nI 8 = 0 by decide), if_neg (show ¬ nI 8 = 1 by decide), if_neg (show ¬ nI 8 = 2 by decide), if_neg (show ¬ nI 8 = 3 by decide), if_neg (show ¬ nI 8 = 4 by decide), if_neg (show ¬ nI 8 = 5 by decide), if_neg (show ¬ nI 8 = 6 by decide), if_neg (show ¬ nI 8 = 7 by decide), if_pos (show nI 8 = 8 from rfl), if_neg (h34 r), nI_clamp (n := a) (by omega), if_neg za, y8]
      · by_cases r : I 14 9 = 0
        · refine ⟨0, ?_, ?_⟩
          · unfold f_Sh_party
            rw [HAS1 hP h6 ha, if_pos n1, nI_clamp (n := a) (by omega), if_neg za, if_pos (show ¬ nI 9 = 5 by decide), if_pos (show ¬ nI 9 = 6 by decide), if_pos (show nI 9 < 10 by decide), if_pos (show ¬ nI 9 = 30 by decide), if_neg (show ¬ nI 9 < 0 by decide), if_pos (show nI 9 ≤ 9 by decide), if_neg (fun z => z r), if_pos (show ¬ nI 9 = 0 by decide)]
          · unfold PBD PTL
            rw [if_pos (show nI 9 < 10 by decide), if_pos (show nI 9 < 20 by decide), if_neg (show ¬ nI 9 = 0 by decide), if_neg (show ¬ nI 9 = 1 by decide), if_neg (show ¬ nI 9 = 2 by decide), if_neg (show ¬ nI 9 = 3 by decide), if_neg (show ¬ nI 9 = 4 by decide), if_neg (show ¬ nI 9 = 5 by decide), if_neg (show ¬ nI 9 = 6 by decide), if_neg (show ¬ nI 9 = 7 by decide), if_neg (show ¬ nI 9 = 8 by decide), if_pos (show nI 9 = 9 from rfl), if_pos (h9.mp r)]
        · obtain ⟨yi, y0, y1, y2, y3, y4, y7, y8, y9, y30, yw, yv, yn, yg⟩ := hr r
          refine ⟨I (18 + 21 * a) 11, ?_, ?_⟩
          · unfold f_Sh_party
            rw [HAS1 hP h6 ha, if_pos n1, nI_clamp (n := a) (by omega), if_neg za, if_pos (show ¬ nI 9 = 5 by decide), if_pos (show ¬ nI 9 = 6 by decide), if_pos (show nI 9 < 10 by decide), if_pos (show ¬ nI 9 = 30 by decide), if_neg (show ¬ nI 9 < 0 by decide), if_pos (show nI 9 ≤ 9 by decide), if_pos r]
            unfold f_Party_tell
            rw [if_neg (show ¬ nI 9 = 0 by decide), if_neg (show ¬ nI 9 = 1 by decide), if_neg (show ¬ nI 9 = 2 by decide), if_neg (show ¬ nI 9 = 3 by decide), if_neg (show ¬ nI 9 = 4 by decide), if_neg (show ¬ nI 9 = 7 by decide), if_neg (show ¬ nI 9 = 8 by decide), if_pos (show nI 9 = 9 from rfl), oc_some]
          · unfold PBD PTL
            rw [if_pos (show nI 9 < 10 by decide), if_pos (show nI 9 < 20 by decide), if_neg (show ¬ nI 9 = 0 by decide), if_neg (show ¬ nI 9 = 1 by decide), if_neg (show ¬ nI 9 = 2 by decide), if_neg (show ¬ nI 9 = 3 by decide), if_neg (show ¬ nI 9 = 4 by decide), if_neg (show ¬ nI 9 = 5 by decide), if_neg (show ¬ nI 9 = 6 by decide), if_neg (show ¬ nI 9 = 7 by decide), if_neg (show ¬ nI 9 = 8 by decide), if_pos (show nI 9 = 9 from rfl), if_neg (h34 r), nI_clamp (n := a) (by omega), if_neg za, y9]
    · have n5 : ¬ nI k = 5 := fun z => by have := (nI_eq (b := 5) (by omega) (by omega)).mp z; omega
      have n6 : ¬ nI k = 6 := fun z => by have := (nI_eq (b := 6) (by omega) (by omega)).mp z; omega
      have n10 : ¬ nI k < 10 := fun z => by have := (nI_ltI (b := 10) (by omega) (by omega)).mp z; omega
      by_cases k30 : 30 ≤ k
      · have t10 : nI (10 + P) ≤ nI k := (nI_leI (by omega) (by omega)).mpr (by omega)
        have t20 : nI (20 + P) ≤ nI k := (nI_leI (by omega) (by omega)).mpr (by omega)
        have n20 : ¬ nI k < 20 := fun z => by have := (nI_ltI (b := 20) (by omega) (by omega)).mp z; omega
        have g30 : (30 : Int32) ≤ nI k := (nI_leI (a := 30) (by omega) (by omega)).mpr k30
        by_cases e30 : k = 30
        · subst e30
          by_cases r : I 14 9 = 0
          · refine ⟨0, ?_, ?_⟩
            · unfold f_Sh_party
              rw [HAS1 hP h6 ha, if_pos n1, nI_clamp (n := a) (by omega), if_neg za, if_pos n5, if_pos n6, if_neg n10, if_pos g30, if_neg (fun z => z rfl), if_pos r]
            · unfold PBD PTL
              rw [if_neg n10, h16, e10, if_pos t10, if_neg n20, e20, if_pos t20, if_neg (show ¬ nI 30 = 0 by decide), if_neg (show ¬ nI 30 = 1 by decide), if_neg (show ¬ nI 30 = 2 by decide), if_neg (show ¬ nI 30 = 3 by decide), if_neg (show ¬ nI 30 = 4 by decide), if_neg (show ¬ nI 30 = 5 by decide), if_neg (show ¬ nI 30 = 6 by decide), if_neg (show ¬ nI 30 = 7 by decide), if_neg (show ¬ nI 30 = 8 by decide), if_neg (show ¬ nI 30 = 9 by decide), if_pos (show nI 30 = 30 from rfl), if_pos (h9.mp r)]
          · obtain ⟨yi, y0, y1, y2, y3, y4, y7, y8, y9, y30, yw, yv, yn, yg⟩ := hr r
            refine ⟨I (19 + 21 * a) 6, ?_, ?_⟩
            · unfold f_Sh_party
              rw [HAS1 hP h6 ha, if_pos n1, nI_clamp (n := a) (by omega), if_neg za, if_pos n5, if_pos n6, if_neg n10, if_pos g30, if_neg (fun z => z rfl), if_neg r]
            · unfold PBD PTL
              rw [if_neg n10, h16, e10, if_pos t10, if_neg n20, e20, if_pos t20, if_neg (show ¬ nI 30 = 0 by decide), if_neg (show ¬ nI 30 = 1 by decide), if_neg (show ¬ nI 30 = 2 by decide), if_neg (show ¬ nI 30 = 3 by decide), if_neg (show ¬ nI 30 = 4 by decide), if_neg (show ¬ nI 30 = 5 by decide), if_neg (show ¬ nI 30 = 6 by decide), if_neg (show ¬ nI 30 = 7 by decide), if_neg (show ¬ nI 30 = 8 by decide), if_neg (show ¬ nI 30 = 9 by decide), if_pos (show nI 30 = 30 from rfl), if_neg (h34 r), nI_clamp (n := a) (by omega), if_neg za, y30]
        · have n30 : ¬ nI k = 30 := fun z => by have := (nI_eq (b := 30) (by omega) (by omega)).mp z; omega
          refine ⟨-1, ?_, ?_⟩
          · unfold f_Sh_party
            rw [HAS1 hP h6 ha, if_pos n1, nI_clamp (n := a) (by omega), if_neg za, if_pos n5, if_pos n6, if_neg n10, if_pos g30, if_pos n30, if_neg (show ¬ nI k < 0 from fun z => by have := (nI_ltI (b := 0) (by omega) (by omega)).mp z; omega), if_neg (show ¬ nI k ≤ 9 from fun z => by have := (nI_leI (b := 9) (by omega) (by omega)).mp z; omega)]
          · unfold PBD
            rw [if_neg n10, h16, e10, if_pos t10, if_neg n20, e20, if_pos t20, PTL_x (Or.inr ⟨k, by omega, k1, e30, rfl⟩)]
      · have l30 : ¬ (30 : Int32) ≤ nI k := fun z => by have := (nI_leI (a := 30) (by omega) (by omega)).mp z; omega
        have hd := rm10 k (by omega) (by omega)
        have px : PTL v4 (nI a) (nI k) I4 J4 = some (-1, I4, J4) := PTL_x (Or.inr ⟨k, by omega, k1, by omega, rfl⟩) _
        have sh : ∀ u, f_Sh_countMails a (if (20 : Int32) ≤ nI k then 0 else 1) (nI (k % 10)) I J = some (u, I, J) → f_Sh_party (nI a) (nI k) I J = some (u, I, J) := fun u hu => by
          unfold f_Sh_party
          rw [HAS1 hP h6 ha, if_pos n1, nI_clamp (n := a) (by omega), if_neg za, if_pos n5, if_pos n6, if_neg n10, if_neg l30, pl_eq, hd, hu, oc_some]
        by_cases kp : k % 10 < P
        · have zk := nin (show k % 10 < 4 by omega) (show 4 < 2 ^ 31 by decide)
          by_cases r : I 14 9 = 0
          · refine ⟨0, sh 0 ?_, ?_⟩
            · unfold f_Sh_countMails
              rw [HAS1 hP h6 kp, if_pos n1, if_pos r]
            · unfold PBD
              by_cases k20 : k < 20
              · rw [if_neg n10, h16, e10, if_neg (show ¬ nI (10 + P) ≤ nI k from fun z => by have := (nI_leI (by omega) (by omega)).mp z; omega), if_pos (h9.mp r)]
              · rw [if_neg n10, h16, e10, if_pos (show nI (10 + P) ≤ nI k from (nI_leI (by omega) (by omega)).mpr (by omega)), if_neg (show ¬ nI k < 20 from fun z => by have := (nI_ltI (b := 20) (by omega) (by omega)).mp z; omega), e20, if_neg (show ¬ nI (20 + P) ≤ nI k from fun z => by have := (nI_leI (by omega) (by omega)).mp z; omega), if_pos (h9.mp r)]
          · obtain ⟨yi, y0, y1, y2, y3, y4, y7, y8, y9, y30, yw, yv, yn, yg⟩ := hr r
            obtain ⟨w1, w2, w3⟩ := yw _ kp
            by_cases k20 : k < 20
            · have f20 : (if (20 : Int32) ≤ nI k then (0 : Int32) else 1) = 1 := if_neg (fun z => by have := (nI_leI (a := 20) (by omega) (by omega)).mp z; omega)
              have ix : (4 : Int32) * nI a + nI k - 10 = nI (4 * a + k % 10) := by
                rw [show (4 : Int32) = nI 4 from rfl, nI_mul, nI_add, show (10 : Int32) = nI 10 from rfl, nI_sb (by omega)]
                congr 1
                omega
              have pb : PBD v4 (nI a) (nI k) I4 J4 = some (I4 148 (4 * a + k % 10) + (if I4 149 (4 * a + k % 10) = 0 then 0 else 1), I4, J4) := by
                unfold PBD
                rw [if_neg n10, h16, e10, if_neg (show ¬ nI (10 + P) ≤ nI k from fun z => by have := (nI_leI (by omega) (by omega)).mp z; omega), if_neg (h34 r), ix, nI_clamp (n := 4 * a + k % 10) (by omega), if_neg (nin (show 4 * a + k % 10 < 16 by omega) (by decide)), if_neg (nin (show 4 * a + k % 10 < 16 by omega) (by decide)), pl_eq]
              by_cases ka : k % 10 = a
              · refine ⟨0, sh 0 ?_, ?_⟩
                · unfold f_Sh_countMails
                  rw [HAS1 hP h6 kp, if_pos n1, if_neg r, yi, ka, if_neg (fun z => z rfl)]
                · rw [pb, ka, yv, yn]
                  rfl
              · refine ⟨_, sh _ ?_, pb⟩
                unfold f_Sh_countMails
                rw [HAS1 hP h6 kp, if_pos n1, if_neg r, yi, if_pos (show ¬ nI (k % 10) = nI a from fun z => ka ((nI_eq (by omega) (by omega)).mp z)), f20, if_neg (show ¬ (1 : Int32) = 0 by decide)]
                unfold f_Hall_onWire
                rw [HAS1 hP h6 ha, if_neg n1, HAS1 hP h6 kp, if_pos n1, nI_clamp (n := a) (by omega), nI_clamp (n := k % 10) (by omega), if_neg za, if_neg zk, if_neg zk, w1, w2]
                by_cases t : I4 149 (4 * a + k % 10) = 0
                · rw [if_pos t, if_pos t, oc_some]
                · rw [if_neg t, if_neg t, oc_some]
            · have f20 : (if (20 : Int32) ≤ nI k then (0 : Int32) else 1) = 0 := if_pos ((nI_leI (a := 20) (by omega) (by omega)).mpr (by omega))
              have ix : (4 : Int32) * (nI k - 20) + nI a = nI (4 * (k % 10) + a) := by
                rw [show (20 : Int32) = nI 20 from rfl, nI_sb (by omega), show (4 : Int32) = nI 4 from rfl, nI_mul, nI_add]
                congr 1
                omega
              have pb : PBD v4 (nI a) (nI k) I4 J4 = some (I4 150 (4 * (k % 10) + a), I4, J4) := by
                unfold PBD
                rw [if_neg n10, h16, e10, if_pos (show nI (10 + P) ≤ nI k from (nI_leI (by omega) (by omega)).mpr (by omega)), if_neg (show ¬ nI k < 20 from fun z => by have := (nI_ltI (b := 20) (by omega) (by omega)).mp z; omega), e20, if_neg (show ¬ nI (20 + P) ≤ nI k from fun z => by have := (nI_leI (by omega) (by omega)).mp z; omega), if_neg (h34 r), ix, nI_clamp (n := 4 * (k % 10) + a) (by omega), if_neg (nin (show 4 * (k % 10) + a < 16 by omega) (by decide))]
              by_cases ka : k % 10 = a
              · refine ⟨0, sh 0 ?_, ?_⟩
                · unfold f_Sh_countMails
                  rw [HAS1 hP h6 kp, if_pos n1, if_neg r, yi, ka, if_neg (fun z => z rfl)]
                · rw [pb, ka, yg]
                  rfl
              · refine ⟨_, sh _ ?_, pb⟩
                unfold f_Sh_countMails
                rw [HAS1 hP h6 kp, if_pos n1, if_neg r, yi, if_pos (show ¬ nI (k % 10) = nI a from fun z => ka ((nI_eq (by omega) (by omega)).mp z)), f20, if_pos rfl, nI_clamp (n := k % 10) (by omega), if_neg zk, w3]
        · refine ⟨-1, sh _ ?_, ?_⟩
          · unfold f_Sh_countMails
            rw [HAS0 h6 (Or.inr ((nI_leI (by omega) (by omega)).mpr (by omega))), if_neg (fun z => z rfl)]
          · unfold PBD
            rw [if_neg n10, h16, e10]
            by_cases k20 : k < 20
            · rw [if_pos (show nI (10 + P) ≤ nI k from (nI_leI (by omega) (by omega)).mpr (by omega)), if_pos (show nI k < 20 from (nI_ltI (b := 20) (by omega) (by omega)).mpr k20), px]
            · rw [if_pos (show nI (10 + P) ≤ nI k from (nI_leI (by omega) (by omega)).mpr (by omega)), if_neg (show ¬ nI k < 20 from fun z => by have := (nI_ltI (b := 20) (by omega) (by omega)).mp z; omega), e20, if_pos (show nI (20 + P) ≤ nI k from (nI_leI (by omega) (by omega)).mpr (by omega)), px]
end PARTY
