/-! hall, of the class and of the reference -/
section HALLS
variable {P B w : Nat} {sd : Int64} {I : MI} {J : MJ} {p2 p4 : Int32} {p3 : Int64}
theorem STW : ∃ I1, (∀ {α : Type} {F : Unit → MI → MJ → Option α}, oc (f_Stock_wipe w I J) F = F () I1 J) ∧ (∀ b, b ≠ 29 + 21 * w → b ≠ 31 + 21 * w → I1 b = I b) ∧ (∀ j, 2 ≤ j → j ≤ 5 → I1 (29 + 21 * w) j = nI 0) ∧ (∀ j, j < 3 → I1 (31 + 21 * w) j = nI 0) := by
  obtain ⟨A1, a1, a2, a3⟩ := ZIG (a := 31 + 21 * w) (m := 3) (I := I) (J := J) (by decide)
  obtain ⟨A5, e1, e2, e3, e4⟩ := UP1 A1 (29 + 21 * w) 2 0
  obtain ⟨A6, f1, f2, f3, f4⟩ := UP1 A5 (29 + 21 * w) 3 0
  obtain ⟨A7, g1, g2, g3, g4⟩ := UP1 A6 (29 + 21 * w) 4 0
  obtain ⟨A8, h1, h2, h3, h4⟩ := UP1 A7 (29 + 21 * w) 5 0
  have fr : ∀ b, b ≠ 29 + 21 * w → A8 b = A1 b := fun b hb => by rw [h2 b hb, g2 b hb, f2 b hb, e2 b hb]
  refine ⟨A8, ?_, fun b x1 x2 => by rw [fr b x1, a2 b x2], fun j j1 j2 => ?_, fun j hj => by rw [fr _ (by omega)]; exact a3 j hj⟩
  · intro α F
    unfold f_Stock_wipe
    rw [oc_oc, a1, e1, pl_eq, f1, pl_eq, g1, pl_eq, h1, pl_eq, oc_some]
  · rcases (show j = 2 ∨ j = 3 ∨ j = 4 ∨ j = 5 by omega) with e | e | e | e <;> rw [e]
    · rw [h4 2 (by decide), g4 2 (by decide), f4 2 (by decide)]
      exact e3
    · rw [h4 3 (by decide), g4 3 (by decide)]
      exact f3
    · rw [h4 4 (by decide)]
      exact g3
    · exact h3
theorem RN38 : ∀ (d fu i : Nat) (I : MI), i + d = 4 → d < fu → ∃ I1, f_Hall_renew_38 p2 p3 p4 fu (nI i) I J = some ((), I1, J) ∧ (∀ b, (∀ x, x < 4 → b ≠ 25 + 21 * x ∧ b ≠ 29 + 21 * x ∧ b ≠ 31 + 21 * x) → I1 b = I b) ∧ (∀ x, i ≤ x → x < 4 → (∀ j, 2 ≤ j → j ≤ 5 → I1 (29 + 21 * x) j = nI 0) ∧ (∀ j, j < 3 → I1 (31 + 21 * x) j = nI 0) ∧ I1 (25 + 21 * x) 6 = nI 0) ∧ (∀ x, x < i → I1 (29 + 21 * x) = I (29 + 21 * x) ∧ I1 (31 + 21 * x) = I (31 + 21 * x) ∧ I1 (25 + 21 * x) = I (25 + 21 * x))
  | 0, fu, i, I, hi, hfu => by
    obtain ⟨fu', rfl⟩ : ∃ k, fu = k + 1 := ⟨fu - 1, by omega⟩
    refine ⟨I, ?_, fun _ _ => rfl, fun x h1 h2 => by omega, fun _ _ => ⟨rfl, rfl, rfl⟩⟩
    show (if 4 ≤ nI i then _ else _) = _
    rw [if_pos (show 4 ≤ nI i from (nI_leI (a := 4) (b := i) (by omega) (by omega)).mpr (by omega))]
  | d + 1, fu, i, I, hi, hfu => by
    obtain ⟨fu', rfl⟩ : ∃ k, fu = k + 1 := ⟨fu - 1, by omega⟩
    have z4 := nin (show i < 4 by omega) (show 4 < 2 ^ 31 by decide)
    obtain ⟨A, a1, a2, a3, a4⟩ := STW (w := i) (I := I) (J := J)
    obtain ⟨B, b1, b2, b3, b4⟩ := UP1 A (25 + 21 * i) 6 0
    obtain ⟨I1, x1, x2, x3, x4⟩ := RN38 d fu' (i + 1) B (by omega) (by omega)
    refine ⟨I1, ?_, fun b hb => by rw [x2 b hb, b2 b (hb i (by omega)).1, a2 b (hb i (by omega)).2.1 (hb i (by omega)).2.2], fun x h1 h2 => ?_, fun x hx => ?_⟩
    · show (if 4 ≤ nI i then _ else _) = _
      rw [if_neg (show ¬ 4 ≤ nI i from fun z => by
        have := (nI_leI (a := 4) (b := i) (by omega) (by omega)).mp z
        omega), nI_clamp (n := i) (by omega), if_neg z4, a1, if_neg z4, b1, pl_eq, nI_1]
      exact x1
    · by_cases z : x = i
      · rw [z, (x4 i (by omega)).1, (x4 i (by omega)).2.1, (x4 i (by omega)).2.2, b2 (29 + 21 * i) (by omega), b2 (31 + 21 * i) (by omega)]
        exact ⟨a3, a4, b3⟩
      · exact x3 x (by omega) h2
    · rw [(x4 x (by omega)).1, (x4 x (by omega)).2.1, (x4 x (by omega)).2.2, b2 (29 + 21 * x) (by omega), b2 (31 + 21 * x) (by omega), b2 (25 + 21 * x) (by omega), a2 _ (by omega) (by omega), a2 _ (by omega) (by omega), a2 _ (by omega) (by omega)]
      exact ⟨rfl, rfl, rfl⟩
theorem RNW : ∃ I1 J1, (∀ {α : Type} {F : Unit → MI → MJ → Option α}, oc (f_Hall_renew p2 p3 p4 I J) F = F () I1 J1) ∧ (∀ b, (∀ x, x < 4 → b ≠ 25 + 21 * x ∧ b ≠ 29 + 21 * x ∧ b ≠ 31 + 21 * x) → b ≠ 14 → b ≠ 15 → b ≠ 102 → I1 b = I b) ∧ (∀ j, j ≠ 6 → j ≠ 8 → j ≠ 9 → I1 14 j = I 14 j) ∧ (I1 14 6 = p2 ∧ I1 14 8 = p4 ∧ I1 14 9 = nI 0) ∧ I1 15 1 = nI 0 ∧ (∀ j, j < 3 → I1 102 j = nI 0) ∧ (∀ x, x < 4 → (∀ j, 2 ≤ j → j ≤ 5 → I1 (29 + 21 * x) j = nI 0) ∧ (∀ j, j < 3 → I1 (31 + 21 * x) j = nI 0) ∧ I1 (25 + 21 * x) 6 = nI 0) ∧ (∀ b, b ≠ 14 → J1 b = J b) ∧ J1 14 7 = p3 := by
  obtain ⟨A, a1, a2, a3, a4⟩ := UP1 I 14 6 p2
  obtain ⟨B, b1, b2, b3, b4⟩ := UP1 A 14 8 p4
  obtain ⟨C, c1, c2, c3, c4⟩ := UP1 B 14 9 0
  obtain ⟨D, d1, d2, d3, d4⟩ := UP1 C 15 1 0
  obtain ⟨E, e1, e2, e3⟩ := ZIG (a := 102) (m := 3) (I := D) (J := va_up J 14 (vp_updL (J 14) 7 p3)) (by decide)
  obtain ⟨G, g1, g2, g3, -⟩ := RN38 (p2 := p2) (p3 := p3) (p4 := p4) (J := va_up J 14 (vp_updL (J 14) 7 p3)) 4 gF 0 E (by omega) (gF_lt (by omega))
  have k14 : G 14 = C 14 := by rw [g2 14 (fun x hx => by omega), e2 14 (by decide), d2 14 (by decide)]
  refine ⟨G, va_up J 14 (vp_updL (J 14) 7 p3), ?_, fun b h1 h2 h3 h4 => by rw [g2 b h1, e2 b h4, d2 b h3, c2 b h2, b2 b h2, a2 b h2], fun j j1 j2 j3 => by rw [k14, c4 j j3, b4 j j2, a4 j j1], ⟨by rw [k14, c4 6 (by decide), b4 6 (by decide)]; exact a3, by rw [k14, c4 8 (by decide)]; exact b3, by rw [k14]; exact c3⟩, by rw [g2 15 (fun x hx => by omega), e2 15 (by decide)]; exact d3, fun j hj => by rw [g2 102 (fun x hx => by omega)]; exact e3 j hj, fun x hx => g3 x (by omega) hx, fun b hb => va_up_ne _ _ hb, by rw [va_up_self, updL_s]⟩
  intro α F
  have g1' : f_Hall_renew_38 p2 p3 p4 gF 0 E (va_up J 14 (vp_updL (J 14) 7 p3)) = some ((), G, va_up J 14 (vp_updL (J 14) 7 p3)) := g1
  unfold f_Hall_renew f_Row_wipe
  rw [a1, pl_eq, pl_eq, b1, pl_eq, c1, pl_eq, d1, pl_eq, oc_oc, oc_some, oc_oc, e1, oc_oc, g1', oc_some, oc_some]
theorem NH28 (hP : P ≤ 4) : ∀ (d fu i : Nat) (I : MI) (J : MJ), i + d = P → d < fu → J 112 18 = lN (csm (fun j => dg_n sd (Int32.toInt64 (nI j))) i) → (∀ j, j < i → J 117 j = own sd j) → ∃ I1 J1, f_Model_newHall_28 p2 p3 p4 fu (nI P) sd (nI i) I J = some ((), I1, J1) ∧ (∀ b, b ≠ 118 → b ≠ 160 → b ≠ 161 → I1 b = I b) ∧ (∀ x, i ≤ x → x < P → I1 118 x = nI 0) ∧ (∀ x, x < i → I1 118 x = I 118 x) ∧ (∀ b, b ≠ 112 → b ≠ 117 → J1 b = J b) ∧ (∀ j, j ≠ 18 → J1 112 j = J 112 j) ∧ J1 112 18 = lN (csm (fun j => dg_n sd (Int32.toInt64 (nI j))) P) ∧ (∀ j, j < P → J1 117 j = own sd j)
  | 0, fu, i, I, J, hi, hfu, h18, h17 => by
    obtain ⟨fu', rfl⟩ : ∃ k, fu = k + 1 := ⟨fu - 1, by omega⟩
    refine ⟨I, J, ?_, fun _ _ _ _ => rfl, fun x h1 h2 => by omega, fun _ _ => rfl, fun _ _ _ => rfl, fun _ _ => rfl, by rw [show P = i by omega]; exact h18, fun j hj => h17 j (by omega)⟩
    show (if nI P ≤ nI i then _ else _) = _
    rw [if_pos ((nI_leI (by omega) (by omega)).mpr (by omega))]
  | d + 1, fu, i, I, J, hi, hfu, h18, h17 => by
    obtain ⟨fu', rfl⟩ : ∃ k, fu = k + 1 := ⟨fu - 1, by omega⟩
    have z4 := nin (show i < 4 by omega) (show 4 < 2 ^ 31 by decide)
    obtain ⟨u, v, h1⟩ := dm_drawn sd (nI i) I J
    have hA : ∃ A : MI, va_up (va_up I 160 u) 161 v = A ∧ (∀ b, b ≠ 160 → b ≠ 161 → A b = I b) := ⟨_, rfl, fun b b1 b2 => by rw [va_up_ne _ _ b2, va_up_ne _ _ b1]⟩
    obtain ⟨A, qA, rA⟩ := hA
    rw [qA] at h1
    obtain ⟨B, b1, b2, b3, b4⟩ := UP1 A 118 i 0
    have hJ : ∃ Jb : MJ, va_up (va_up J 112 (vp_updL (J 112) 18 (lN (csm (fun j => dg_n sd (Int32.toInt64 (nI j))) (i + 1))))) 117 (vp_updL ((va_up J 112 (vp_updL (J 112) 18 (lN (csm (fun j => dg_n sd (Int32.toInt64 (nI j))) (i + 1))))) 117) i (own sd i)) = Jb ∧ (∀ b, b ≠ 112 → b ≠ 117 → Jb b = J b) ∧ (∀ j, j ≠ 18 → Jb 112 j = J 112 j) ∧ Jb 112 18 = lN (csm (fun j => dg_n sd (Int32.toInt64 (nI j))) (i + 1)) ∧ Jb 117 i = own sd i ∧ (∀ j, j ≠ i → Jb 117 j = J 117 j) := ⟨_, rfl, fun b b1 b2 => by rw [va_up_ne _ _ b2, va_up_ne _ _ b1], fun j hj => by rw [va_up_ne _ _ (by decide), va_up_self, updL_n _ _ hj], by rw [va_up_ne _ _ (by decide), va_up_self, updL_s], by rw [va_up_self, updL_s], fun j hj => by rw [va_up_self, updL_n _ _ hj, va_up_ne _ _ (by decide)]⟩
    obtain ⟨Jb, qb, r1, r2, r3, r4, r5⟩ := hJ
    obtain ⟨I1, J1, x1, x2, x3, x4, x5, x6, x7, x8⟩ := NH28 hP d fu' (i + 1) B Jb (by omega) (by omega) r3 (fun j hj => by
      by_cases z : j = i
      · rw [z]
        exact r4
      · rw [r5 j z]
        exact h17 j (by omega))
    refine ⟨I1, J1, ?_, fun b w1 w2 w3 => by rw [x2 b w1 w2 w3, b2 b w1, rA b w2 w3], fun x w1 w2 => ?_, fun x hx => by rw [x4 x (by omega), b4 x (by omega), rA 118 (by decide) (by decide)], fun b w1 w2 => by rw [x5 b w1 w2, r1 b w1 w2], fun j hj => by rw [x6 j hj, r2 j hj], x7, x8⟩
    · show (if nI P ≤ nI i then _ else _) = _
      have e18 : oc (f_Model_plus (lN (csm (fun j => dg_n sd (Int32.toInt64 (nI j))) i)) (lN (dg_n sd (Int32.toInt64 (nI i)))) A J) = fun (F : Int64 → MI → MJ → Option (Unit × MI × MJ)) => F (lN (csm (fun j => dg_n sd (Int32.toInt64 (nI j))) (i + 1))) A J := funext (fun F => o_mA (csm_lt _ _) (dg_lt _ _))
      rw [if_neg (fun z => by
        have := (nI_leI (a := P) (b := i) (by omega) (by omega)).mp z
        omega), h1, oc_some, h18, e18]
      show pl (va_up J 112 (vp_updL (J 112) 18 (lN (csm (fun j => dg_n sd (Int32.toInt64 (nI j))) (i + 1))))) _ = _
      rw [pl_eq, nI_clamp (n := i) (by omega), if_neg z4]
      show pl (va_up (va_up J 112 (vp_updL (J 112) 18 (lN (csm (fun j => dg_n sd (Int32.toInt64 (nI j))) (i + 1))))) 117 (vp_updL ((va_up J 112 (vp_updL (J 112) 18 (lN (csm (fun j => dg_n sd (Int32.toInt64 (nI j))) (i + 1))))) 117) i (own sd i))) _ = _
      rw [qb, pl_eq, if_neg z4, b1, pl_eq, nI_1]
      exact x1
    · by_cases z : x = i
      · rw [z, x4 i (by omega)]
        exact b3
      · exact x3 x (by omega) w2
def nhR (b : Nat) : Prop := (119 ≤ b ∧ b ≤ 123) ∨ b = 125 ∨ b = 126
theorem NH87 : ∀ (d fu i : Nat) (I : MI), i + d = 4 → d < fu → ∃ I1, f_Model_newHall_87 p2 p3 p4 fu (nI i) I J = some ((), I1, J) ∧ (∀ b, ¬ nhR b → I1 b = I b) ∧ (∀ b j, nhR b → i ≤ j → j < 4 → I1 b j = nI 0) ∧ (∀ b j, j < i → I1 b j = I b j)
  | 0, fu, i, I, hi, hfu => by
    obtain ⟨fu', rfl⟩ : ∃ k, fu = k + 1 := ⟨fu - 1, by omega⟩
    refine ⟨I, ?_, fun _ _ => rfl, fun b j _ h1 h2 => by omega, fun _ _ _ => rfl⟩
    show (if 4 ≤ nI i then _ else _) = _
    rw [if_pos (show 4 ≤ nI i from (nI_leI (a := 4) (b := i) (by omega) (by omega)).mpr (by omega))]
  | d + 1, fu, i, I, hi, hfu => by
    obtain ⟨fu', rfl⟩ : ∃ k, fu = k + 1 := ⟨fu - 1, by omega⟩
    have z4 := nin (show i < 4 by omega) (show 4 < 2 ^ 31 by decide)
    obtain ⟨A0, q0, r0, s0, u0⟩ := UP2 I 119 i 0
    obtain ⟨A1, q1, r1, s1, u1⟩ := UP2 A0 120 i 0
    obtain ⟨A2, q2, r2, s2, u2⟩ := UP2 A1 121 i 0
    obtain ⟨A3, q3, r3, s3, u3⟩ := UP2 A2 122 i 0
    obtain ⟨A4, q4, r4, s4, u4⟩ := UP2 A3 123 i 0
    obtain ⟨A5, q5, r5, s5, u5⟩ := UP2 A4 125 i 0
    obtain ⟨A6, q6, r6, s6, u6⟩ := UP2 A5 126 i 0
    obtain ⟨I1, x1, x2, x3, x4⟩ := NH87 d fu' (i + 1) A6 (by omega) (by omega)
    have fr : ∀ b, ¬ nhR b → A6 b = I b := fun b hb => by
      unfold nhR at hb
      rw [r6 b (by omega), r5 b (by omega), r4 b (by omega), r3 b (by omega), r2 b (by omega), r1 b (by omega), r0 b (by omega)]
    have fj : ∀ b j, j ≠ i → A6 b j = I b j := fun b j hj => by rw [u6 b j hj, u5 b j hj, u4 b j hj, u3 b j hj, u2 b j hj, u1 b j hj, u0 b j hj]
    have fv : ∀ b, nhR b → A6 b i = nI 0 := fun b hb => by
      unfold nhR at hb
      rcases (show b = 119 ∨ b = 120 ∨ b = 121 ∨ b = 122 ∨ b = 123 ∨ b = 125 ∨ b = 126 by omega) with e | e | e | e | e | e | e <;> rw [e]
      · rw [r6 119 (by decide), r5 119 (by decide), r4 119 (by decide), r3 119 (by decide), r2 119 (by decide), r1 119 (by decide)]
        exact s0
      · rw [r6 120 (by decide), r5 120 (by decide), r4 120 (by decide), r3 120 (by decide), r2 120 (by decide)]
        exact s1
      · rw [r6 121 (by decide), r5 121 (by decide), r4 121 (by decide), r3 121 (by decide)]
        exact s2
      · rw [r6 122 (by decide), r5 122 (by decide), r4 122 (by decide)]
        exact s3
      · rw [r6 123 (by decide), r5 123 (by decide)]
        exact s4
      · rw [r6 125 (by decide)]
        exact s5
      · exact s6
    refine ⟨I1, ?_, fun b hb => by rw [x2 b hb, fr b hb], fun b j hb h1 h2 => ?_, fun b j hj => by rw [x4 b j (by omega), fj b j (by omega)]⟩
    · show (if 4 ≤ nI i then _ else _) = _
      rw [if_neg (show ¬ 4 ≤ nI i from fun z => by
        have := (nI_leI (a := 4) (b := i) (by omega) (by omega)).mp z
        omega), nI_clamp (n := i) (by omega), if_neg z4, q0, pl_eq, if_neg z4, q1, pl_eq, if_neg z4, q2, pl_eq, if_neg z4, q3, pl_eq, if_neg z4, q4, pl_eq, if_neg z4, q5, pl_eq, if_neg z4, q6, pl_eq, nI_1]
      exact x1
    · by_cases z : j = i
      · rw [z, x4 b i (by omega)]
        exact fv b hb
      · exact x3 b j hb (by omega) h2
theorem NHL (hP : P ≤ 4) : ∃ I1 J1, f_Model_newHall (nI P) sd p4 I J = some ((), I1, J1) ∧ (∀ b, ¬ nhR b → b ≠ 112 → b ≠ 118 → b ≠ 160 → b ≠ 161 → I1 b = I b) ∧ (∀ j, j ≠ 8 → j ≠ 16 → j ≠ 17 → j ≠ 24 → j ≠ 26 → j ≠ 28 → j ≠ 34 → I1 112 j = I 112 j) ∧ (I1 112 8 = nI 0 ∧ I1 112 16 = nI P ∧ I1 112 17 = p4 ∧ I1 112 24 = nI 0 ∧ I1 112 26 = nI 0 ∧ I1 112 28 = nI 0 ∧ I1 112 34 = nI 0) ∧ (∀ b j, nhR b → j < 4 → I1 b j = nI 0) ∧ (∀ x, x < P → I1 118 x = nI 0) ∧ (∀ b, b ≠ 112 → b ≠ 117 → J1 b = J b) ∧ (∀ j, j ≠ 18 → j ≠ 21 → J1 112 j = J 112 j) ∧ J1 112 18 = lN (csm (fun j => dg_n sd (Int32.toInt64 (nI j))) P) ∧ J1 112 21 = sd + 7000003 ∧ (∀ j, j < P → J1 117 j = own sd j) := by
  obtain ⟨A, a1, a2, a3, a4⟩ := UP1 I 112 16 (nI P)
  obtain ⟨B, b1, b2, b3, b4⟩ := UP1 A 112 17 p4
  have hJ : ∃ Jb : MJ, va_up (va_up J 112 (vp_updL (J 112) 21 (sd + 7000003))) 112 (vp_updL ((va_up J 112 (vp_updL (J 112) 21 (sd + 7000003))) 112) 18 0) = Jb ∧ (∀ b, b ≠ 112 → Jb b = J b) ∧ (∀ j, j ≠ 18 → j ≠ 21 → Jb 112 j = J 112 j) ∧ Jb 112 18 = lN 0 ∧ Jb 112 21 = sd + 7000003 := ⟨_, rfl, fun b hb => by rw [va_up_ne _ _ hb, va_up_ne _ _ hb], fun j j1 j2 => by rw [va_up_self, updL_n _ _ j1, va_up_self, updL_n _ _ j2], by rw [va_up_self, updL_s]; rfl, by rw [va_up_self, updL_n _ _ (by decide), va_up_self, updL_s]⟩
  obtain ⟨Jb, qb, r1, r2, r3, r4⟩ := hJ
  obtain ⟨C, Jc, c1, c2, c3, -, c5, c6, c7, c8⟩ := NH28 (p2 := nI P) (p3 := sd) (p4 := p4) (sd := sd) hP P gF 0 B Jb (by omega) (gF_lt (by omega)) r3 (fun j hj => absurd hj (Nat.not_lt_zero _))
  obtain ⟨D, d1, d2, d3, -⟩ := NH87 (p2 := nI P) (p3 := sd) (p4 := p4) (J := Jc) 4 gF 0 C (by omega) (gF_lt (by omega))
  obtain ⟨E, e1, e2, e3, e4⟩ := UP1 D 112 24 0
  obtain ⟨G, g1, g2, g3, g4⟩ := UP1 E 112 26 0
  obtain ⟨H, h1, h2, h3, h4⟩ := UP1 G 112 28 0
  obtain ⟨K, k1, k2, k3, k4⟩ := UP1 H 112 8 0
  obtain ⟨M, m1', m2, m3, m4⟩ := UP1 K 112 34 0
  have nn : ∀ b, b = 112 ∨ b = 118 → ¬ nhR b := fun b hb => by
    unfold nhR
    omega
  have k112 : D 112 = B 112 := by rw [d2 112 (nn 112 (by omega)), c2 112 (by decide) (by decide) (by decide)]
  have fr : ∀ b, b ≠ 112 → M b = D b := fun b hb => by rw [m2 b hb, k2 b hb, h2 b hb, g2 b hb, e2 b hb]
  have fj : ∀ j, j ≠ 8 → j ≠ 24 → j ≠ 26 → j ≠ 28 → j ≠ 34 → M 112 j = B 112 j := fun j j1 j2 j3 j4 j5 => by rw [m4 j j5, k4 j j1, h4 j j4, g4 j j3, e4 j j2, k112]
  refine ⟨M, Jc, ?_, fun b w1 w2 w3 w4 w5 => by rw [fr b w2, d2 b w1, c2 b w3 w4 w5, b2 b w2, a2 b w2], fun j j8 j16 j17 j24 j26 j28 j34 => by rw [fj j j8 j24 j26 j28 j34, b4 j j17, a4 j j16], ⟨by rw [m4 8 (by decide)]; exact k3, by rw [fj 16 (by decide) (by decide) (by decide) (by decide) (by decide), b4 16 (by decide)]; exact a3, by rw [fj 17 (by decide) (by decide) (by decide) (by decide) (by decide)]; exact b3, by rw [m4 24 (by decide), k4 24 (by decide), h4 24 (by decide), g4 24 (by decide)]; exact e3, by rw [m4 26 (by decide), k4 26 (by decide), h4 26 (by decide)]; exact g3, by rw [m4 28 (by decide), k4 28 (by decide)]; exact h3, m3⟩, fun b j wb hj => ?_, fun x hx => by rw [fr 118 (by decide), d2 118 (nn 118 (by omega))]; exact c3 x (by omega) hx, fun b w1 w2 => by rw [c5 b w1 w2, r1 b w1], fun j j1 j2 => by rw [c6 j j1, r2 j j1 j2], c7, by rw [c6 21 (by decide)]; exact r4, c8⟩
  · have c1' : f_Model_newHall_28 (nI P) sd p4 gF (nI P) sd 0 B Jb = some ((), C, Jc) := c1
    have d1' : f_Model_newHall_87 (nI P) sd p4 gF 0 C Jc = some ((), D, Jc) := d1
    unfold f_Model_newHall
    rw [a1, pl_eq, b1, pl_eq, pl_eq, qb, pl_eq, c1', oc_some, d1', oc_some, e1, pl_eq, g1, pl_eq, h1, pl_eq, k1, pl_eq, m1', pl_eq]
  · rw [fr b (by unfold nhR at wb; omega)]
    exact d3 b j wb (by omega) hj
end HALLS
