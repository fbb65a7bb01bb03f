/-! fault, code and total, of the class and of the reference -/
section ASK
variable {P n d0 d1 d2 : Nat} {cd t0 t1 t2 : Nat → Nat} {I I' : MI} {J J' : MJ} {p2 : Int32}
theorem FLT (h6 : I 0 6 = I' 112 3) (h7 : I 0 7 = I' 112 4) : ∃ v, f_Sh_fault p2 I J = some (v, I, J) ∧ f_Model_fault p2 I' J' = some (v, va_up I' 112 (upd (I' 112) 0 0), J') := by
  obtain ⟨Z, z0, z1, z2, z3⟩ := UP1 I' 112 0 0
  rw [z0]
  unfold f_Sh_fault f_Model_fault
  rw [z0, pl_eq, z3 4 (by decide), z3 3 (by decide), ← h6, ← h7]
  by_cases x : p2 = 0
  · refine ⟨I 0 6, ?_, ?_⟩
    · rw [if_neg (fun y => y x)]
    · rw [if_neg (fun y => y x)]
  · by_cases y : p2 = 1
    · refine ⟨I 0 7, ?_, ?_⟩
      · rw [if_pos x, if_neg (fun z => z y)]
      · rw [if_pos x, if_neg (fun z => z y)]
    · refine ⟨-1, ?_, ?_⟩
      · rw [if_pos x, if_pos y]
      · rw [if_pos x, if_pos y]
/-- the code loaded, in both -/
def LDC (I I' : MI) (n : Nat) (cd : Nat → Nat) : Prop := rowC I 15 16 n cd ∧ n ≤ 2000 ∧ ((I' 112 8 = 0 ∧ n = 0) ∨ (¬ I' 112 8 = 0 ∧ I' 112 7 = nI n ∧ ∀ k, k < n → I' 114 k = nI (cd k)))
theorem COD (hL : LDC I I' n cd) : ∃ v, f_Sh_code p2 I J = some (v, I, J) ∧ f_Model_code p2 I' J' = some (v, va_up I' 112 (upd (I' 112) 0 0), J') := by
  obtain ⟨h1, h2, h3⟩ := hL
  obtain ⟨Z, z0, z1, z2, z3⟩ := UP1 I' 112 0 0
  rw [z0]
  unfold f_Sh_code f_Model_code f_Row_at
  rw [z0, pl_eq, z3 8 (by decide), z3 7 (by decide), z1 114 (by decide), h1.1]
  rcases nI_of3 p2 with e | ⟨k, k1, e⟩
  · refine ⟨-1, by rw [if_pos e, oc_some], ?_⟩
    rcases h3 with ⟨a, _⟩ | ⟨a, b, c⟩
    · rw [if_pos a]
    · rw [if_neg a, if_pos e]
  · have nk : ¬ p2 < 0 := by rw [e]; exact fun y => by have := (nI_ltI (b := 0) k1 (by omega)).mp y; omega
    rw [e] at nk ⊢
    by_cases x : k < n
    · refine ⟨nI (cd k), ?_, ?_⟩
      · rw [if_neg nk, if_neg (nI_ge (by omega) (by omega)), if_neg (nI_ge (by omega) (by omega)), nI_clamp (n := k) (by omega), if_neg (nin (show k < 2000 by omega) (by decide)), (h1.2 k x).2, oc_some]
      · rcases h3 with ⟨a, b⟩ | ⟨a, b, c⟩
        · omega
        · rw [if_neg a, if_neg nk, b, if_pos ((nI_ltI (by omega) (by omega)).mpr x), nI_clamp (n := k) (by omega), if_neg (nin (show k < 2400 by omega) (by decide)), c k x]
    · refine ⟨-1, ?_, ?_⟩
      · rw [if_neg nk, if_pos (nI_le (by omega) (by omega)), oc_some]
      · rcases h3 with ⟨a, b⟩ | ⟨a, b, c⟩
        · rw [if_pos a]
        · rw [if_neg a, if_neg nk, b, if_neg (fun y => x ((nI_ltI (by omega) (by omega)).mp y))]
/-- the dealt and the taken, in both -/
def DLT (I I' : MI) (P d0 d1 d2 : Nat) (t0 t1 t2 : Nat → Nat) : Prop := (I 102 0 = nI d0 ∧ I 102 1 = nI d1 ∧ I 102 2 = nI d2) ∧ (I' 112 24 = nI d0 ∧ I' 112 26 = nI d1 ∧ I' 112 28 = nI d2) ∧ (d0 < 2 ^ 30 ∧ d1 < 2 ^ 30 ∧ d2 < 2 ^ 30) ∧ (∀ j, j < P → t0 j ≤ d0 ∧ I (31 + 21 * j) 0 = nI (t0 j) ∧ I' 121 j = nI (t0 j)) ∧ (∀ j, j < P → t1 j ≤ d1 ∧ I (31 + 21 * j) 1 = nI (t1 j) ∧ I' 122 j = nI (t1 j)) ∧ (∀ j, j < P → t2 j ≤ d2 ∧ I (31 + 21 * j) 2 = nI (t2 j) ∧ I' 123 j = nI (t2 j))
theorem TOT (hP : P ≤ 4) (hP1 : 1 ≤ P) (h6 : I 14 6 = nI P) (h16 : I' 112 16 = nI P) (hL : LDC I I' n cd) (hD : DLT I I' P d0 d1 d2 t0 t1 t2) (h10 : I 14 10 = I' 112 35) (h8 : I 14 8 = I' 112 17) : ∃ v, f_Sh_total p2 I J = some (v, I, J) ∧ f_Model_total p2 I' J' = some (v, va_up I' 112 (upd (I' 112) 0 0), J') := by
  obtain ⟨⟨a0, a1, a2⟩, ⟨b0, b1, b2⟩, ⟨c0, c1, c2⟩, e0, e1, e2⟩ := hD
  obtain ⟨Z, z0, z1, z2, z3⟩ := UP1 I' 112 0 0
  have z16 : Z 112 16 = nI P := by rw [z3 16 (by decide)]; exact h16
  have m0 : f_Hall_mostLeft 0 I J = some (nI (d0 - lst t0 (P - 1)), I, J) := MLC (k := 0) hP hP1 h6 (by decide) a0 c0 (fun j hj => ⟨(e0 j hj).1, (e0 j hj).2.1⟩)
  have m1' : f_Hall_mostLeft 1 I J = some (nI (d1 - lst t1 (P - 1)), I, J) := MLC (k := 1) hP hP1 h6 (by decide) a1 c1 (fun j hj => ⟨(e1 j hj).1, (e1 j hj).2.1⟩)
  have m2 : f_Hall_mostLeft 2 I J = some (nI (d2 - lst t2 (P - 1)), I, J) := MLC (k := 2) hP hP1 h6 (by decide) a2 c2 (fun j hj => ⟨(e2 j hj).1, (e2 j hj).2.1⟩)
  have l0 : f_Model_least 121 4 Z J' = some (nI (lst t0 (P - 1)), Z, J') := LSM hP hP1 z16 (fun j hj => ⟨by have := (e0 j hj).1; omega, by rw [z1 121 (by decide)]; exact (e0 j hj).2.2⟩)
  have l1 : f_Model_least 122 4 Z J' = some (nI (lst t1 (P - 1)), Z, J') := LSM hP hP1 z16 (fun j hj => ⟨by have := (e1 j hj).1; omega, by rw [z1 122 (by decide)]; exact (e1 j hj).2.2⟩)
  have l2 : f_Model_least 123 4 Z J' = some (nI (lst t2 (P - 1)), Z, J') := LSM hP hP1 z16 (fun j hj => ⟨by have := (e2 j hj).1; omega, by rw [z1 123 (by decide)]; exact (e2 j hj).2.2⟩)
  have w0 := lst_lt (t := t0) (d := d0) (P - 1) (fun j hj => (e0 j (by omega)).1)
  have w1 := lst_lt (t := t1) (d := d1) (P - 1) (fun j hj => (e1 j (by omega)).1)
  have w2 := lst_lt (t := t2) (d := d2) (P - 1) (fun j hj => (e2 j (by omega)).1)
  rw [z0]
  unfold f_Sh_total f_Model_total
  rw [z0, pl_eq, h6, z16, m0, m1', m2, l0, l1, l2, h10, h8, hL.1.1, z3 24 (by decide), z3 26 (by decide), z3 28 (by decide), z3 35 (by decide), z3 17 (by decide), z3 8 (by decide), z3 7 (by decide), b0, b1, b2, oc_some, oc_some, oc_some, oc_some, oc_some, oc_some, nI_sb w0, nI_sb w1, nI_sb w2]
  by_cases x0 : p2 = 0
  · exact ⟨nI P, by rw [if_pos x0], by rw [if_pos x0]⟩
  rw [if_neg x0, if_neg x0]
  by_cases x1 : p2 = 1
  · exact ⟨_, by rw [if_pos x1], by rw [if_pos x1]⟩
  rw [if_neg x1, if_neg x1]
  by_cases x2 : p2 = 2
  · exact ⟨_, by rw [if_pos x2], by rw [if_pos x2]⟩
  rw [if_neg x2, if_neg x2]
  by_cases x3 : p2 = 3
  · refine ⟨nI n, by rw [if_pos x3], ?_⟩
    rw [if_pos x3]
    rcases hL.2.2 with ⟨u, v⟩ | ⟨u, v, _⟩
    · rw [if_pos u, v]
      rfl
    · rw [if_neg u, v]
  rw [if_neg x3, if_neg x3]
  by_cases x4 : p2 = 4
  · exact ⟨_, by rw [if_pos x4], by rw [if_pos x4]⟩
  rw [if_neg x4, if_neg x4]
  by_cases x5 : p2 = 5
  · exact ⟨_, by rw [if_pos x5], by rw [if_pos x5]⟩
  rw [if_neg x5, if_neg x5]
  by_cases x6 : p2 = 6
  · exact ⟨_, by rw [if_pos x6], by rw [if_pos x6]⟩
  exact ⟨-1, by rw [if_neg x6], by rw [if_neg x6]⟩
end ASK
