/-! begin, in the reference, and of both -/
theorem UP2 (I : MI) (a w : Nat) (x : Int32) : ∃ A : MI, va_up I a (upd (I a) w x) = A ∧ (∀ b, b ≠ a → A b = I b) ∧ A a w = x ∧ (∀ b j, j ≠ w → A b j = I b j) := by
  obtain ⟨A, q, r, s, t⟩ := UP1 I a w x
  refine ⟨A, q, r, s, fun b j hj => ?_⟩
  by_cases y : b = a
  · rw [y]
    exact t j hj
  · rw [r b y]
section BEGM
variable {cd us : Nat → Nat} {P n k w a m : Nat} {st : Nat → Bool} {hg : Nat → Nat} {I : MI} {J : MJ}
/-- rows that are wiped, and with what -/
def wpR (b : Nat) : Prop := (127 ≤ b ∧ b ≤ 139) ∨ b = 141 ∨ b = 142 ∨ b = 145
def wpV (b : Nat) : Int32 := if b = 142 then m1 else nI 0
theorem B40 : ∀ (d fu i : Nat) (I : MI), i + d = 4 → d < fu → ∃ I1, f_Model_begin_40 fu (nI i) I J = some ((), I1, J) ∧ (∀ b, ¬ wpR b → I1 b = I b) ∧ (∀ b j, wpR b → i ≤ j → j < 4 → I1 b j = wpV b) ∧ (∀ b j, j < i → I1 b j = I b j)
  | 0, fu, i, I, hi, hfu => by
    obtain ⟨fu', rfl⟩ : ∃ k, fu = k + 1 := ⟨fu - 1, by omega⟩
    refine ⟨I, ?_, fun _ _ => rfl, fun b j _ h1 h2 => by omega, fun _ _ _ => rfl⟩
    show (if 4 ≤ nI i then _ else _) = _
    rw [if_pos (show 4 ≤ nI i from (nI_leI (a := 4) (b := i) (by omega) (by omega)).mpr (by omega))]
  | d + 1, fu, i, I, hi, hfu => by
    obtain ⟨fu', rfl⟩ : ∃ k, fu = k + 1 := ⟨fu - 1, by omega⟩
    have z4 := nin (show i < 4 by omega) (show 4 < 2 ^ 31 by decide)
    obtain ⟨A0, q0, r0, s0, u0⟩ := UP2 I 127 i 0
    obtain ⟨A1, q1, r1, s1, u1⟩ := UP2 A0 128 i 0
    obtain ⟨A2, q2, r2, s2, u2⟩ := UP2 A1 129 i 0
    obtain ⟨A3, q3, r3, s3, u3⟩ := UP2 A2 130 i 0
    obtain ⟨A4, q4, r4, s4, u4⟩ := UP2 A3 131 i 0
    obtain ⟨A5, q5, r5, s5, u5⟩ := UP2 A4 132 i 0
    obtain ⟨A6, q6, r6, s6, u6⟩ := UP2 A5 133 i 0
    obtain ⟨A7, q7, r7, s7, u7⟩ := UP2 A6 134 i 0
    obtain ⟨A8, q8, r8, s8, u8⟩ := UP2 A7 135 i 0
    obtain ⟨A9, q9, r9, s9, u9⟩ := UP2 A8 136 i 0
    obtain ⟨A10, q10, r10, s10, u10⟩ := UP2 A9 137 i 0
    obtain ⟨A11, q11, r11, s11, u11⟩ := UP2 A10 138 i 0
    obtain ⟨A12, q12, r12, s12, u12⟩ := UP2 A11 139 i (0 &&& 1)
    obtain ⟨A13, q13, r13, s13, u13⟩ := UP2 A12 141 i 0
    obtain ⟨A14, q14, r14, s14, u14⟩ := UP2 A13 142 i (-1)
    obtain ⟨A15, q15, r15, s15, u15⟩ := UP2 A14 145 i 0
    obtain ⟨I1, x1, x2, x3, x4⟩ := B40 d fu' (i + 1) A15 (by omega) (by omega)
    have fr : ∀ b, ¬ wpR b → A15 b = I b := fun b hb => by
      unfold wpR at hb
      rw [r15 b (by omega), r14 b (by omega), r13 b (by omega), r12 b (by omega), r11 b (by omega), r10 b (by omega), r9 b (by omega), r8 b (by omega), r7 b (by omega), r6 b (by omega), r5 b (by omega), r4 b (by omega), r3 b (by omega), r2 b (by omega), r1 b (by omega), r0 b (by omega)]
    have fj : ∀ b j, j ≠ i → A15 b j = I b j := fun b j hj => by rw [u15 b j hj, u14 b j hj, u13 b j hj, u12 b j hj, u11 b j hj, u10 b j hj, u9 b j hj, u8 b j hj, u7 b j hj, u6 b j hj, u5 b j hj, u4 b j hj, u3 b j hj, u2 b j hj, u1 b j hj, u0 b j hj]
    have fv : ∀ b, wpR b → A15 b i = wpV b := fun b hb => by
      unfold wpR at hb
      rcases (show b = 127 ∨ b = 128 ∨ b = 129 ∨ b = 130 ∨ b = 131 ∨ b = 132 ∨ b = 133 ∨ b = 134 ∨ b = 135 ∨ b = 136 ∨ b = 137 ∨ b = 138 ∨ b = 139 ∨ b = 141 ∨ b = 142 ∨ b = 145 by omega) with e | e | e | e | e | e | e | e | e | e | e | e | e | e | e | e <;> rw [e]
      · rw [r15 127 (by decide), r14 127 (by decide), r13 127 (by decide), r12 127 (by decide), r11 127 (by decide), r10 127 (by decide), r9 127 (by decide), r8 127 (by decide), r7 127 (by decide), r6 127 (by decide), r5 127 (by decide), r4 127 (by decide), r3 127 (by decide), r2 127 (by decide), r1 127 (by decide)]
        exact s0
      · rw [r15 128 (by decide), r14 128 (by decide), r13 128 (by decide), r12 128 (by decide), r11 128 (by decide), r10 128 (by decide), r9 128 (by decide), r8 128 (by decide), r7 128 (by decide), r6 128 (by decide), r5 128 (by decide), r4 128 (by decide), r3 128 (by decide), r2 128 (by decide)]
        exact s1
      · rw [r15 129 (by decide), r14 129 (by decide), r13 129 (by decide), r12 129 (by decide), r11 129 (by decide), r10 129 (by decide), r9 129 (by decide), r8 129 (by decide), r7 129 (by decide), r6 129 (by decide), r5 129 (by decide), r4 129 (by decide), r3 129 (by decide)]
        exact s2
      · rw [r15 130 (by decide), r14 130 (by decide), r13 130 (by decide), r12 130 (by decide), r11 130 (by decide), r10 130 (by decide), r9 130 (by decide), r8 130 (by decide), r7 130 (by decide), r6 130 (by decide), r5 130 (by decide), r4 130 (by decide)]
        exact s3
      · rw [r15 131 (by decide), r14 131 (by decide), r13 131 (by decide), r12 131 (by decide), r11 131 (by decide), r10 131 (by decide), r9 131 (by decide), r8 131 (by decide), r7 131 (by decide), r6 131 (by decide), r5 131 (by decide)]
        exact s4
      · rw [r15 132 (by decide), r14 132 (by decide), r13 132 (by decide), r12 132 (by decide), r11 132 (by decide), r10 132 (by decide), r9 132 (by decide), r8 132 (by decide), r7 132 (by decide), r6 132 (by decide)]
        exact s5
      · rw [r15 133 (by decide), r14 133 (by decide), r13 133 (by decide), r12 133 (by decide), r11 133 (by decide), r10 133 (by decide), r9 133 (by decide), r8 133 (by decide), r7 133 (by decide)]
        exact s6
      · rw [r15 134 (by decide), r14 134 (by decide), r13 134 (by decide), r12 134 (by decide), r11 134 (by decide), r10 134 (by decide), r9 134 (by decide), r8 134 (by decide)]
        exact s7
      · rw [r15 135 (by decide), r14 135 (by decide), r13 135 (by decide), r12 135 (by decide), r11 135 (by decide), r10 135 (by decide), r9 135 (by decide)]
        exact s8
      · rw [r15 136 (by decide), r14 136 (by decide), r13 136 (by decide), r12 136 (by decide), r11 136 (by decide), r10 136 (by decide)]
        exact s9
      · rw [r15 137 (by decide), r14 137 (by decide), r13 137 (by decide), r12 137 (by decide), r11 137 (by decide)]
        exact s10
      · rw [r15 138 (by decide), r14 138 (by decide), r13 138 (by decide), r12 138 (by decide)]
        exact s11
      · rw [r15 139 (by decide), r14 139 (by decide), r13 139 (by decide)]
        exact s12
      · rw [r15 141 (by decide), r14 141 (by decide)]
        exact s13
      · rw [r15 142 (by decide)]
        exact s14
      · exact s15
    refine ⟨I1, ?_, fun b hb => by rw [x2 b hb, fr b hb], fun b j hb h1 h2 => ?_, fun b j hj => by rw [x4 b j (by omega), fj b j (by omega)]⟩
    · show (if 4 ≤ nI i then _ else _) = _
      rw [if_neg (show ¬ 4 ≤ nI i from fun z => by
        have := (nI_leI (a := 4) (b := i) (by omega) (by omega)).mp z
        omega), nI_clamp (n := i) (by omega), if_neg z4, q0, pl_eq, if_neg z4, q1, pl_eq, if_neg z4, q2, pl_eq, if_neg z4, q3, pl_eq, if_neg z4, q4, pl_eq, if_neg z4, q5, pl_eq, if_neg z4, q6, pl_eq, if_neg z4, q7, pl_eq, if_neg z4, q8, pl_eq, if_neg z4, q9, pl_eq, if_neg z4, q10, pl_eq, if_neg z4, q11, pl_eq, if_neg z4, q12, pl_eq, if_neg z4, q13, pl_eq, if_neg z4, q14, pl_eq, if_neg z4, q15, pl_eq, nI_1]
      exact x1
    · by_cases z : j = i
      · rw [z, x4 b i (by omega)]
        exact fv b hb
      · exact x3 b j hb (by omega) h2
theorem B165 : ∀ (d fu i : Nat) (J : MJ), i + d = 616 → d < fu → ∃ J1, f_Model_begin_165 fu (nI i) I J = some ((), I, J1) ∧ (∀ b, b ≠ 143 → J1 b = J b) ∧ (∀ j, J1 143 j = if i ≤ j ∧ j < 616 then 0 else J 143 j)
  | 0, fu, i, J, hi, hfu => by
    obtain ⟨fu', rfl⟩ : ∃ k, fu = k + 1 := ⟨fu - 1, by omega⟩
    refine ⟨J, ?_, fun _ _ => rfl, fun j => by rw [if_neg (by omega)]⟩
    show (if 616 ≤ nI i then _ else _) = _
    rw [if_pos (show 616 ≤ nI i from (nI_leI (a := 616) (b := i) (by omega) (by omega)).mpr (by omega))]
  | d + 1, fu, i, J, hi, hfu => by
    obtain ⟨fu', rfl⟩ : ∃ k, fu = k + 1 := ⟨fu - 1, by omega⟩
    obtain ⟨J1, x1, x2, x3⟩ := B165 d fu' (i + 1) (va_up J 143 (vp_updL (J 143) i 0)) (by omega) (by omega)
    refine ⟨J1, ?_, fun b hb => by rw [x2 b hb, va_up_ne _ _ hb], fun j => ?_⟩
    · show (if 616 ≤ nI i then _ else _) = _
      rw [if_neg (show ¬ 616 ≤ nI i from fun z => by
        have := (nI_leI (a := 616) (b := i) (by omega) (by omega)).mp z
        omega), nI_clamp (n := i) (by omega), if_neg (nin (show i < 616 by omega) (by decide)), pl_eq, nI_1]
      exact x1
    · rw [x3 j, va_up_self]
      by_cases y : i + 1 ≤ j ∧ j < 616
      · rw [if_pos y, if_pos (by omega)]
      · rw [if_neg y]
        by_cases z : j = i
        · rw [z, updL_s, if_pos (by omega)]
        · rw [updL_n _ _ z, if_neg (by omega)]
theorem B187 : ∀ (d fu i : Nat) (I : MI), i + d = 16 → d < fu → ∃ I1, f_Model_begin_187 fu (nI i) I J = some ((), I1, J) ∧ (∀ b, b ≠ 148 → b ≠ 149 → b ≠ 150 → I1 b = I b) ∧ (∀ j, i ≤ j → j < 16 → I1 148 j = nI 0 ∧ I1 149 j = nI 0 ∧ I1 150 j = nI 0) ∧ (∀ b j, j < i → I1 b j = I b j)
  | 0, fu, i, I, hi, hfu => by
    obtain ⟨fu', rfl⟩ : ∃ k, fu = k + 1 := ⟨fu - 1, by omega⟩
    refine ⟨I, ?_, fun _ _ _ _ => rfl, fun j h1 h2 => by omega, fun _ _ _ => rfl⟩
    show (if 16 ≤ nI i then _ else _) = _
    rw [if_pos (show 16 ≤ nI i from (nI_leI (a := 16) (b := i) (by omega) (by omega)).mpr (by omega))]
  | d + 1, fu, i, I, hi, hfu => by
    obtain ⟨fu', rfl⟩ : ∃ k, fu = k + 1 := ⟨fu - 1, by omega⟩
    have z4 := nin (show i < 16 by omega) (show 16 < 2 ^ 31 by decide)
    obtain ⟨A0, q0, r0, s0, u0⟩ := UP2 I 148 i 0
    obtain ⟨A1, q1, r1, s1, u1⟩ := UP2 A0 149 i (0 &&& 1)
    obtain ⟨A2, q2, r2, s2, u2⟩ := UP2 A1 150 i 0
    obtain ⟨I1, x1, x2, x3, x4⟩ := B187 d fu' (i + 1) A2 (by omega) (by omega)
    refine ⟨I1, ?_, fun b h1 h2 h3 => by rw [x2 b h1 h2 h3, r2 b h3, r1 b h2, r0 b h1], fun j h1 h2 => ?_, fun b j hj => by rw [x4 b j (by omega), u2 b j (by omega), u1 b j (by omega), u0 b j (by omega)]⟩
    · show (if 16 ≤ nI i then _ else _) = _
      rw [if_neg (show ¬ 16 ≤ nI i from fun z => by
        have := (nI_leI (a := 16) (b := i) (by omega) (by omega)).mp z
        omega), nI_clamp (n := i) (by omega), if_neg z4, q0, pl_eq, if_neg z4, q1, pl_eq, if_neg z4, q2, pl_eq, nI_1]
      exact x1
    · by_cases z : j = i
      · rw [z, x4 148 i (by omega), x4 149 i (by omega), x4 150 i (by omega)]
        exact ⟨by rw [r2 148 (by decide), r1 148 (by decide)]; exact s0, by rw [r2 149 (by decide)]; exact s1, s2⟩
      · exact x3 j (by omega) h2
theorem BEGR {t0 t1 t2 : Nat → Nat} (hP : P ≤ 4) (h6 : I 112 16 = nI P) (h8 : ¬ I 112 8 = 0) (ht0 : ∀ j, j < P → t0 j ≤ 200 ∧ I 121 j = nI (t0 j)) (ht1 : ∀ j, j < P → t1 j ≤ 200 ∧ I 122 j = nI (t1 j)) (ht2 : ∀ j, j < P → t2 j ≤ 200 ∧ I 123 j = nI (t2 j)) : ∃ I1 J1, f_Model_begin I J = some (1, I1, J1) ∧ (∀ b, ¬ wpR b → b ≠ 112 → b ≠ 121 → b ≠ 122 → b ≠ 123 → b ≠ 148 → b ≠ 149 → b ≠ 150 → I1 b = I b) ∧ (∀ j, j ≠ 0 → j ≠ 34 → j ≠ 60 → j ≠ 66 → I1 112 j = I 112 j) ∧ (I1 112 0 = nI 0 ∧ I1 112 34 = nI 1 ∧ I1 112 60 = nI 0 ∧ I1 112 66 = nI 0) ∧ (∀ b j, wpR b → j < 4 → I1 b j = wpV b) ∧ (∀ j, j < 16 → I1 148 j = nI 0 ∧ I1 149 j = nI 0 ∧ I1 150 j = nI 0) ∧ (∀ x, x < P → I1 121 x = nI (mx t0 P) ∧ I1 122 x = nI (mx t1 P) ∧ I1 123 x = nI (mx t2 P)) ∧ (∀ b, b ≠ 143 → J1 b = J b) ∧ (∀ j, j < 616 → J1 143 j = 0) := by
  obtain ⟨T, t1', t2', t3', t4'⟩ := UP1 I 112 0 0
  have eT : ∀ b, b ≠ 112 → T b = I b := t2'
  obtain ⟨A, a1, a2, a3⟩ := LVL (a := 121) (I := T) (J := J) hP (by decide) (by rw [t4' 16 (by decide)]; exact h6) (fun j hj => ⟨(ht0 j hj).1, by rw [eT 121 (by decide)]; exact (ht0 j hj).2⟩)
  obtain ⟨B, b1, b2, b3⟩ := LVL (a := 122) (I := A) (J := J) hP (by decide) (by rw [a2 112 (by decide), t4' 16 (by decide)]; exact h6) (fun j hj => ⟨(ht1 j hj).1, by rw [a2 122 (by decide), eT 122 (by decide)]; exact (ht1 j hj).2⟩)
  obtain ⟨C, c1, c2, c3⟩ := LVL (a := 123) (I := B) (J := J) hP (by decide) (by rw [b2 112 (by decide), a2 112 (by decide), t4' 16 (by decide)]; exact h6) (fun j hj => ⟨(ht2 j hj).1, by rw [b2 123 (by decide), a2 123 (by decide), eT 123 (by decide)]; exact (ht2 j hj).2⟩)
  obtain ⟨D, d1, d2, d3, -⟩ := B40 (J := J) 4 gF 0 C (by omega) (gF_lt (by omega))
  obtain ⟨J1, e1, e2, e3⟩ := B165 (I := D) 616 gF 0 J (by omega) (gF_lt (by omega))
  obtain ⟨E, f1, f2, f3, -⟩ := B187 (J := J1) 16 gF 0 D (by omega) (gF_lt (by omega))
  obtain ⟨G, g1, g2, g3, g4⟩ := UP1 E 112 60 0
  obtain ⟨H, h1, h2, h3, h4⟩ := UP1 G 112 66 0
  obtain ⟨K, k1, k2, k3, k4⟩ := UP1 H 112 34 1
  have nw : ∀ b, b = 112 ∨ b = 121 ∨ b = 122 ∨ b = 123 ∨ b = 148 ∨ b = 149 ∨ b = 150 → ¬ wpR b := fun b hb => by
    unfold wpR
    omega
  have e112 : E 112 = T 112 := by rw [f2 112 (by decide) (by decide) (by decide), d2 112 (nw 112 (by omega)), c2 112 (by decide), b2 112 (by decide), a2 112 (by decide)]
  have fr : ∀ b, b ≠ 112 → K b = E b := fun b hb => by rw [k2 b hb, h2 b hb, g2 b hb]
  refine ⟨K, J1, ?_, fun b w0 w1 w2 w3 w4 w5 w6 w7 => by rw [fr b w1, f2 b w5 w6 w7, d2 b w0, c2 b w4, b2 b w3, a2 b w2, eT b w1], fun j j0 j34 j60 j66 => by rw [k4 j j34, h4 j j66, g4 j j60, e112, t4' j j0], ⟨by rw [k4 0 (by decide), h4 0 (by decide), g4 0 (by decide), e112]; exact t3', k3, by rw [k4 60 (by decide), h4 60 (by decide)]; exact g3, by rw [k4 66 (by decide)]; exact h3⟩, fun b j wb hj => ?_, fun j hj => ?_, fun x hx => ?_, e2, fun j hj => by rw [e3 j, if_pos ⟨by omega, hj⟩]⟩
  · have d1' : f_Model_begin_40 gF 0 C J = some ((), D, J) := d1
    have e1' : f_Model_begin_165 gF 0 D J = some ((), D, J1) := e1
    have f1' : f_Model_begin_187 gF 0 D J1 = some ((), E, J1) := f1
    unfold f_Model_begin
    rw [t1', pl_eq, if_pos (by rw [t4' 8 (by decide)]; exact h8), a1, b1, c1, d1', oc_some, e1', oc_some, f1', oc_some, g1, pl_eq, h1, pl_eq, k1, pl_eq]
  · rw [fr b (by unfold wpR at wb; omega), f2 b (by unfold wpR at wb; omega) (by unfold wpR at wb; omega) (by unfold wpR at wb; omega)]
    exact d3 b j wb (by omega) hj
  · rw [fr 148 (by decide), fr 149 (by decide), fr 150 (by decide)]
    exact f3 j (by omega) hj
  · have q : ∀ b, b = 121 ∨ b = 122 ∨ b = 123 → K b = C b := fun b hb => by rw [fr b (by omega), f2 b (by omega) (by omega) (by omega), d2 b (nw b (by omega))]
    rw [q 121 (by omega), q 122 (by omega), q 123 (by omega)]
    exact ⟨by rw [c2 121 (by decide), b2 121 (by decide)]; exact a3 x hx, by rw [c2 122 (by decide)]; exact b3 x hx, c3 x hx⟩
end BEGM
