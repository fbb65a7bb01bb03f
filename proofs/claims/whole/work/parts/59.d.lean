/-! who is a party; deliver and tamper -/
theorem PTY {P : Nat} (p : Int32) (hP : P ≤ 4) : (∃ a, a < P ∧ p = nI a) ∨ (p < 0 ∨ nI P ≤ p) := by
  rcases nI_of3 p with h | ⟨j, h1, h2⟩
  · exact Or.inr (Or.inl h)
  · by_cases x : j < P
    · exact Or.inl ⟨j, x, h2⟩
    · refine Or.inr (Or.inr ?_)
      rw [h2]
      exact nI_le (by omega) (by omega)
section WHO
variable {P a : Nat} {I : MI} {J : MJ} {p : Int32}
theorem HAS1 (hP : P ≤ 4) (h6 : I 14 6 = nI P) (ha : a < P) {α : Type} {F : Int32 → MI → MJ → Option α} : oc (f_Hall_has (nI a) I J) F = F (nI 1) I J := by
  unfold f_Hall_has
  rw [if_neg (show ¬ nI a < 0 from fun y => (nin ha (show P < 2 ^ 31 by omega)) (Or.inl y)), h6, if_neg (nI_ge (by omega) (by omega)), if_neg (nI_ge (b := 4) (by omega) (by omega)), oc_some]
  rfl
theorem HAS0 (h6 : I 14 6 = nI P) (h : p < 0 ∨ nI P ≤ p) {α : Type} {F : Int32 → MI → MJ → Option α} : oc (f_Hall_has p I J) F = F (nI 0) I J := by
  unfold f_Hall_has
  by_cases x : p < 0
  · rw [if_pos x, oc_some]
    rfl
  · rw [if_neg x, h6, if_pos (h.resolve_left x), oc_some]
    rfl
theorem ISP1 (hP : P ≤ 4) (h6 : I 112 16 = nI P) (ha : a < P) {α : Type} {F : Int32 → MI → MJ → Option α} : oc (f_Model_isParty (nI a) I J) F = F (nI 1) I J := by
  unfold f_Model_isParty
  rw [if_neg (show ¬ nI a < 0 from fun y => (nin ha (show P < 2 ^ 31 by omega)) (Or.inl y)), h6, if_neg (nI_ge (by omega) (by omega)), oc_some]
  rfl
theorem ISP0 (h6 : I 112 16 = nI P) (h : p < 0 ∨ nI P ≤ p) {α : Type} {F : Int32 → MI → MJ → Option α} : oc (f_Model_isParty p I J) F = F (nI 0) I J := by
  unfold f_Model_isParty
  by_cases x : p < 0
  · rw [if_pos x, oc_some]
    rfl
  · rw [if_neg x, h6, if_pos (h.resolve_left x), oc_some]
    rfl
theorem BRC {b wr nt gt : Nat} (hP : P ≤ 4) (h6 : I 14 6 = nI P) (ha : a < P) (hb : b < P) (h33 : I (33 + 21 * a) b = nI wr) (hwr : wr < 2 ^ 31) (h34 : I (34 + 21 * a) b = nI nt) (hnt : nt ≤ 1) (h35 : I (35 + 21 * b) a = nI gt) : (wr = 0 ∧ nt = 0 ∧ ∀ {α : Type} {F : Int32 → MI → MJ → Option α}, oc (f_Hall_bring (nI a) (nI b) I J) F = F (nI 0) I J) ∨ (wr = 0 ∧ nt = 1 ∧ ∃ I1, (∀ {α : Type} {F : Int32 → MI → MJ → Option α}, oc (f_Hall_bring (nI a) (nI b) I J) F = F (nI 1) I1 J) ∧ (∀ c, c ≠ 34 + 21 * a → c ≠ 32 + 21 * b → I1 c = I c) ∧ I1 (34 + 21 * a) b = nI 0 ∧ (∀ j, j ≠ b → I1 (34 + 21 * a) j = I (34 + 21 * a) j) ∧ I1 (32 + 21 * b) 8 = nI 1 ∧ (∀ j, j ≠ 8 → I1 (32 + 21 * b) j = I (32 + 21 * b) j)) ∨ (1 ≤ wr ∧ ∃ I1, (∀ {α : Type} {F : Int32 → MI → MJ → Option α}, oc (f_Hall_bring (nI a) (nI b) I J) F = F (nI 1) I1 J) ∧ (∀ c, c ≠ 33 + 21 * a → c ≠ 35 + 21 * b → I1 c = I c) ∧ I1 (33 + 21 * a) b = nI (wr - 1) ∧ (∀ j, j ≠ b → I1 (33 + 21 * a) j = I (33 + 21 * a) j) ∧ I1 (35 + 21 * b) a = nI (gt + 1) ∧ (∀ j, j ≠ a → I1 (35 + 21 * b) j = I (35 + 21 * b) j)) := by
  have za := nin (show a < 4 by omega) (show 4 < 2 ^ 31 by decide)
  have zb := nin (show b < 4 by omega) (show 4 < 2 ^ 31 by decide)
  by_cases x : wr = 0
  · by_cases y : nt = 0
    · refine Or.inl ⟨x, y, fun {α F} => ?_⟩
      unfold f_Hall_bring
      rw [oc_oc, HAS1 hP h6 ha, if_neg (show ¬ nI 1 = 0 by decide), oc_oc, HAS1 hP h6 hb, if_pos (show ¬ nI 1 = 0 by decide), nI_clamp (n := a) (by omega), nI_clamp (n := b) (by omega), if_neg za, if_neg zb, if_neg zb, h33, x, if_pos (show nI 0 ≤ 0 by decide), if_neg zb, h34, y, if_pos (show nI 0 = 0 from rfl), oc_some]
      rfl
    · obtain ⟨A0, q0, r0, s0, t0⟩ := UP1 I (34 + 21 * a) b (0 &&& 1)
      obtain ⟨A1, q1, r1, s1, t1⟩ := UP1 A0 (32 + 21 * b) 8 1
      refine Or.inr (Or.inl ⟨x, by omega, A1, fun {α F} => ?_, fun c c1 c2 => by rw [r1 c c2, r0 c c1], by rw [r1 _ (by omega), s0]; rfl, fun j hj => by rw [r1 _ (by omega), t0 j hj], by rw [s1]; rfl, fun j hj => by rw [t1 j hj, r0 _ (by omega)]⟩)
      unfold f_Hall_bring
      rw [oc_oc, HAS1 hP h6 ha, if_neg (show ¬ nI 1 = 0 by decide), oc_oc, HAS1 hP h6 hb, if_pos (show ¬ nI 1 = 0 by decide), nI_clamp (n := a) (by omega), nI_clamp (n := b) (by omega), if_neg za, if_neg zb, if_neg zb, h33, x, if_pos (show nI 0 ≤ 0 by decide), if_neg zb, h34, show nt = 1 by omega, if_neg (show ¬ nI 1 = 0 by decide), if_neg zb, q0, pl_eq, q1, pl_eq, oc_some]
      rfl
  · obtain ⟨A0, q0, r0, s0, t0⟩ := UP1 I (33 + 21 * a) b (nI (wr - 1))
    obtain ⟨A1, q1, r1, s1, t1⟩ := UP1 A0 (35 + 21 * b) a (nI (gt + 1))
    have k35 : A0 (35 + 21 * b) a = nI gt := by rw [r0 _ (by omega)]; exact h35
    refine Or.inr (Or.inr ⟨by omega, A1, fun {α F} => ?_, fun c c1 c2 => by rw [r1 c c2, r0 c c1], by rw [r1 _ (by omega)]; exact s0, fun j hj => by rw [r1 _ (by omega), t0 j hj], s1, fun j hj => by rw [t1 j hj, r0 _ (by omega)]⟩)
    unfold f_Hall_bring
    rw [oc_oc, HAS1 hP h6 ha, if_neg (show ¬ nI 1 = 0 by decide), oc_oc, HAS1 hP h6 hb, if_pos (show ¬ nI 1 = 0 by decide), nI_clamp (n := a) (by omega), nI_clamp (n := b) (by omega), if_neg za, if_neg zb, if_neg zb, h33, if_neg (show ¬ nI wr ≤ 0 from nI_ge (a := 0) (by omega) (by omega)), if_neg zb, if_neg zb, show nI wr - 1 = nI (wr - 1) from nI_sb (b := 1) (by omega), q0, pl_eq, if_neg za, if_neg za, k35, nI_1, q1, pl_eq, oc_some]
    rfl
end WHO
section TAMP
variable {P NT : Nat} {tp ts tk tb ps : Nat → Nat} {I I' : MI} {J J' : MJ} {p2 p3 p4 : Int32} {p5 : Int64}
/-- tamper, of the class and of the reference -/
theorem TMP (hP : P ≤ 4) (hT : TAM I I' J J' P NT tp ts tk tb) (h9 : ¬ I 14 9 = 0) (h34 : ¬ I' 112 34 = 0) (h6 : I 14 6 = nI P) (h16 : I' 112 16 = nI P) (hps : ∀ a, a < P → ps a < 2 ^ 31 ∧ I (32 + 21 * a) 6 = nI (ps a) ∧ I' 131 a = nI (ps a)) : (f_Sh_tamper p2 p3 p4 p5 I J = some (0, I, J) ∧ f_Model_tamper p2 p3 p4 p5 I' J' = some (0, va_up I' 112 (upd (I' 112) 0 0), J')) ∨ (∃ a m k I1 J1 I1' J1', a < P ∧ ps a ≤ m ∧ m < 1000 ∧ k < 32 ∧ f_Sh_tamper p2 p3 p4 p5 I J = some (1, I1, J1) ∧ f_Model_tamper p2 p3 p4 p5 I' J' = some (1, I1', J1') ∧ TAM I1 I1' J1 J1' P (NT + 1) (apn tp NT a) (apn ts NT m) (apn tk NT k) (apn tb NT (nmod p5)) ∧ (∀ c, c ≠ 103 → c ≠ 104 → c ≠ 105 → c ≠ 106 → I1 c = I c) ∧ (∀ c, c ≠ 107 → J1 c = J c) ∧ (∀ j, j ≠ 4 → I1 103 j = I 103 j) ∧ (∀ c, c ≠ 112 → c ≠ 156 → c ≠ 157 → c ≠ 158 → I1' c = I' c) ∧ (∀ c, c ≠ 159 → J1' c = J' c) ∧ (∀ j, j ≠ 0 → j ≠ 66 → I1' 112 j = I' 112 j) ∧ I1' 112 0 = nI 0) := by
  obtain ⟨t1, t2, t3, t4⟩ := hT
  obtain ⟨Z, z0, z1, z2, z3⟩ := UP1 I' 112 0 0
  have z34 : ¬ Z 112 34 = 0 := by rw [z3 34 (by decide)]; exact h34
  have z16 : Z 112 16 = nI P := by rw [z3 16 (by decide)]; exact h16
  have z66 : Z 112 66 = nI NT := by rw [z3 66 (by decide)]; exact t2
  have bad : ∀ {T : Prop}, (f_Sh_tamper p2 p3 p4 p5 I J = some (0, I, J)) → (f_Model_tamper p2 p3 p4 p5 I' J' = some (0, Z, J')) → ((f_Sh_tamper p2 p3 p4 p5 I J = some (0, I, J) ∧ f_Model_tamper p2 p3 p4 p5 I' J' = some (0, va_up I' 112 (upd (I' 112) 0 0), J')) ∨ T) := fun x y => Or.inl ⟨x, by rw [z0]; exact y⟩
  rcases PTY p2 hP with ⟨a, ha, e2⟩ | e2
  · have za := nin (show a < 4 by omega) (show 4 < 2 ^ 31 by decide)
    obtain ⟨s1, s2, s3⟩ := hps a ha
    have y131 : Z 131 a = nI (ps a) := by rw [z1 131 (by decide)]; exact s3
    subst e2
    rcases nI_of3 p4 with e4 | ⟨k, k1, e4⟩
    · refine bad ?_ ?_
      · unfold f_Sh_tamper
        rw [if_neg h9, HAS1 hP h6 ha, if_neg (show ¬ nI 1 = 0 by decide), if_pos e4]
      · unfold f_Model_tamper
        rw [z0, pl_eq, if_neg z34, ISP1 hP z16 ha, if_neg (show ¬ nI 1 = 0 by decide), if_pos e4]
    · have n4 : ¬ p4 < 0 := by rw [e4]; exact fun y => by have := (nI_ltI (b := 0) k1 (by omega)).mp y; omega
      subst e4
      by_cases k2 : k < 32
      · rcases nI_of3 p3 with e3 | ⟨m, m1', e3⟩
        · refine bad ?_ ?_
          · unfold f_Sh_tamper
            rw [if_neg h9, HAS1 hP h6 ha, if_neg (show ¬ nI 1 = 0 by decide), if_neg n4, if_pos (show nI k < 32 from (nI_ltI (b := 32) (by omega) (by omega)).mpr k2), nI_clamp (n := a) (by omega), if_neg za, s2, if_pos (show p3 < nI (ps a) from Int32.lt_of_lt_of_le e3 (nI_le (a := 0) (by omega) (by omega)))]
          · unfold f_Model_tamper
            rw [z0, pl_eq, if_neg z34, ISP1 hP z16 ha, if_neg (show ¬ nI 1 = 0 by decide), if_neg n4, if_neg (show ¬ 31 < nI k from fun y => by have := (nI_ltI (a := 31) (by omega) (by omega)).mp y; omega), if_pos e3]
        · have n3 : ¬ p3 < 0 := by rw [e3]; exact fun y => by have := (nI_ltI (b := 0) m1' (by omega)).mp y; omega
          subst e3
          by_cases c1 : m < ps a
          · refine bad ?_ ?_
            · unfold f_Sh_tamper
              rw [if_neg h9, HAS1 hP h6 ha, if_neg (show ¬ nI 1 = 0 by decide), if_neg n4, if_pos (show nI k < 32 from (nI_ltI (b := 32) (by omega) (by omega)).mpr k2), nI_clamp (n := a) (by omega), if_neg za, s2, if_pos ((nI_ltI (by omega) (by omega)).mpr c1)]
            · unfold f_Model_tamper
              by_cases c2 : 999 < m
              · rw [z0, pl_eq, if_neg z34, ISP1 hP z16 ha, if_neg (show ¬ nI 1 = 0 by decide), if_neg n4, if_neg (show ¬ 31 < nI k from fun y => by have := (nI_ltI (a := 31) (by omega) (by omega)).mp y; omega), if_neg n3, if_pos (show 999 < nI m from (nI_ltI (a := 999) (by omega) (by omega)).mpr c2)]
              · rw [z0, pl_eq, if_neg z34, ISP1 hP z16 ha, if_neg (show ¬ nI 1 = 0 by decide), if_neg n4, if_neg (show ¬ 31 < nI k from fun y => by have := (nI_ltI (a := 31) (by omega) (by omega)).mp y; omega), if_neg n3, if_neg (show ¬ 999 < nI m from fun y => c2 ((nI_ltI (a := 999) (by omega) (by omega)).mp y)), nI_clamp (n := a) (by omega), if_neg za, y131, if_pos ((nI_ltI (by omega) (by omega)).mpr c1)]
          · by_cases c2 : m < 1000
            · have n999 : ¬ 999 < nI m := fun y => by have := (nI_ltI (a := 999) (by omega) (by omega)).mp y; omega
              by_cases c3 : NT = 40
              · refine bad ?_ ?_
                · unfold f_Sh_tamper f_Errors_add
                  rw [if_neg h9, HAS1 hP h6 ha, if_neg (show ¬ nI 1 = 0 by decide), if_neg n4, if_pos (show nI k < 32 from (nI_ltI (b := 32) (by omega) (by omega)).mpr k2), nI_clamp (n := a) (by omega), if_neg za, s2, if_neg (fun y => c1 ((nI_ltI (by omega) (by omega)).mp y)), if_pos (show nI m < 1000 from (nI_ltI (b := 1000) (by omega) (by omega)).mpr c2), q_number, oc_some, t1, c3, if_neg (show ¬ nI 40 < 0 by decide), if_neg (show ¬ nI 40 < 40 by decide), oc_some, if_pos (by decide)]
                · unfold f_Model_tamper
                  rw [z0, pl_eq, if_neg z34, ISP1 hP z16 ha, if_neg (show ¬ nI 1 = 0 by decide), if_neg n4, if_neg (show ¬ 31 < nI k from fun y => by have := (nI_ltI (a := 31) (by omega) (by omega)).mp y; omega), if_neg n3, if_neg n999, nI_clamp (n := a) (by omega), if_neg za, y131, if_neg (fun y => c1 ((nI_ltI (by omega) (by omega)).mp y)), z66, c3, if_neg (show ¬ ¬ nI 40 = 40 from fun y => y rfl)]
              · right
                have hN : NT < 40 := by omega
                have zN := nin hN (show 40 < 2 ^ 31 by decide)
                obtain ⟨A0, a0, a1, a2, a3⟩ := UP1 I 104 NT (nI a)
                obtain ⟨A1, b0, b1, b2, b3⟩ := UP1 A0 105 NT (nI m)
                obtain ⟨A2, d0, d1, d2, d3⟩ := UP1 A1 106 NT (nI k)
                obtain ⟨A3, g0, g1, g2, g3⟩ := UP1 A2 103 4 (nI (NT + 1))
                have u0 : A0 103 4 = nI NT := by rw [a1 103 (by decide)]; exact t1
                have u1 : A1 103 4 = nI NT := by rw [b1 103 (by decide)]; exact u0
                have u2 : A2 103 4 = nI NT := by rw [d1 103 (by decide)]; exact u1
                obtain ⟨B0, e0, e1, e2, e3⟩ := UP1 Z 156 NT (nI a)
                obtain ⟨B1, f0, f1, f2, f3⟩ := UP1 B0 157 NT (nI m)
                obtain ⟨B2, i0, i1, i2, i3⟩ := UP1 B1 158 NT (nI k)
                obtain ⟨B3, j0, j1, j2, j3⟩ := UP1 B2 112 66 (nI (NT + 1))
                have v0 : B0 112 66 = nI NT := by rw [e1 112 (by decide)]; exact z66
                have v1 : B1 112 66 = nI NT := by rw [f1 112 (by decide)]; exact v0
                have v2 : B2 112 66 = nI NT := by rw [i1 112 (by decide)]; exact v1
                have z40 : ¬ nI NT = 40 := fun y => c3 ((nI_eq (b := 40) (by omega) (by omega)).mp y)
                refine ⟨a, m, k, A3, va_up J 107 (vp_updL (J 107) NT (lN (nmod p5))), B3, va_up J' 159 (vp_updL (J' 159) NT (lN (nmod p5))), ha, by omega, c2, k2, ?_, ?_, ⟨g2, j2, by omega, fun t ht => ?_⟩, fun c c1 c2 c3 c4 => by rw [g1 c c1, d1 c c4, b1 c c3, a1 c c2], fun c hc => va_up_ne _ _ hc, fun j hj => by rw [g3 j hj, d1 103 (by decide), b1 103 (by decide), a1 103 (by decide)], fun c c1 c2 c3 c4 => by rw [j1 c c1, i1 c c4, f1 c c3, e1 c c2, z1 c c1], fun c hc => va_up_ne _ _ hc, fun j h0 h66 => by rw [j3 j h66, i1 112 (by decide), f1 112 (by decide), e1 112 (by decide), z3 j h0], by rw [j3 0 (by decide), i1 112 (by decide), f1 112 (by decide), e1 112 (by decide), z2]; rfl⟩
                · unfold f_Sh_tamper f_Errors_add
                  rw [if_neg h9, HAS1 hP h6 ha, if_neg (show ¬ nI 1 = 0 by decide), if_neg n4, if_pos (show nI k < 32 from (nI_ltI (b := 32) (by omega) (by omega)).mpr k2), nI_clamp (n := a) (by omega), if_neg za, s2, if_neg (fun y => c1 ((nI_ltI (by omega) (by omega)).mp y)), if_pos (show nI m < 1000 from (nI_ltI (b := 1000) (by omega) (by omega)).mpr c2), q_number, oc_some, t1, if_neg (show ¬ nI NT < 0 from fun y => zN (Or.inl y)), if_pos (show nI NT < 40 from (nI_ltI (b := 40) (by omega) (by omega)).mpr hN), nI_clamp (n := NT) (by omega), if_neg zN, a0, pl_eq, u0, nI_clamp (n := NT) (by omega), if_neg zN, b0, pl_eq, u1, nI_clamp (n := NT) (by omega), if_neg zN, d0, pl_eq, u2, nI_clamp (n := NT) (by omega), if_neg zN, pl_eq, nI_1, g0, pl_eq, oc_some, if_pos (by decide)]
                · unfold f_Model_tamper
                  rw [z0, pl_eq, if_neg z34, ISP1 hP z16 ha, if_neg (show ¬ nI 1 = 0 by decide), if_neg n4, if_neg (show ¬ 31 < nI k from fun y => by have := (nI_ltI (a := 31) (by omega) (by omega)).mp y; omega), if_neg n3, if_neg n999, nI_clamp (n := a) (by omega), if_neg za, y131, if_neg (fun y => c1 ((nI_ltI (by omega) (by omega)).mp y)), z66, if_pos z40, nI_clamp (n := NT) (by omega), if_neg zN, e0, pl_eq, v0, nI_clamp (n := NT) (by omega), if_neg zN, f0, pl_eq, v1, nI_clamp (n := NT) (by omega), if_neg zN, i0, pl_eq, m_modulo, oc_some, v2, nI_clamp (n := NT) (by omega), if_neg zN, pl_eq, nI_1, j0, pl_eq]
                · rw [g1 104 (by decide), d1 104 (by decide), b1 104 (by decide), g1 105 (by decide), d1 105 (by decide), g1 106 (by decide), j1 156 (by decide), i1 156 (by decide), f1 156 (by decide), j1 157 (by decide), i1 157 (by decide), j1 158 (by decide), va_up_self, va_up_self]
                  by_cases y : t = NT
                  · rw [y, apn_s, apn_s, apn_s, apn_s, a2, b2, d2, e2, f2, i2, updL_s, updL_s]
                    exact ⟨⟨ha, c2, k2, nmod_lt p5⟩, ⟨rfl, rfl, rfl, rfl⟩, rfl, rfl, rfl, rfl⟩
                  · rw [apn_n _ _ y, apn_n _ _ y, apn_n _ _ y, apn_n _ _ y, a3 t y, b3 t y, d3 t y, e3 t y, f3 t y, i3 t y, updL_n _ _ y, updL_n _ _ y, a1 105 (by decide), b1 106 (by decide), a1 106 (by decide), z1 156 (by decide), e1 157 (by decide), z1 157 (by decide), f1 158 (by decide), e1 158 (by decide), z1 158 (by decide)]
                    exact t4 t (by omega)
            · refine bad ?_ ?_
              · unfold f_Sh_tamper
                rw [if_neg h9, HAS1 hP h6 ha, if_neg (show ¬ nI 1 = 0 by decide), if_neg n4, if_pos (show nI k < 32 from (nI_ltI (b := 32) (by omega) (by omega)).mpr k2), nI_clamp (n := a) (by omega), if_neg za, s2, if_neg (fun y => c1 ((nI_ltI (by omega) (by omega)).mp y)), if_neg (show ¬ nI m < 1000 from fun y => c2 ((nI_ltI (b := 1000) (by omega) (by omega)).mp y))]
              · unfold f_Model_tamper
                rw [z0, pl_eq, if_neg z34, ISP1 hP z16 ha, if_neg (show ¬ nI 1 = 0 by decide), if_neg n4, if_neg (show ¬ 31 < nI k from fun y => by have := (nI_ltI (a := 31) (by omega) (by omega)).mp y; omega), if_neg n3, if_pos (show 999 < nI m from (nI_ltI (a := 999) (by omega) (by omega)).mpr (by omega))]
      · refine bad ?_ ?_
        · unfold f_Sh_tamper
          rw [if_neg h9, HAS1 hP h6 ha, if_neg (show ¬ nI 1 = 0 by decide), if_neg n4, if_neg (show ¬ nI k < 32 from fun y => k2 ((nI_ltI (b := 32) (by omega) (by omega)).mp y))]
        · unfold f_Model_tamper
          rw [z0, pl_eq, if_neg z34, ISP1 hP z16 ha, if_neg (show ¬ nI 1 = 0 by decide), if_neg n4, if_pos (show 31 < nI k from (nI_ltI (a := 31) (by omega) (by omega)).mpr (by omega))]
  · refine bad ?_ ?_
    · unfold f_Sh_tamper
      rw [if_neg h9, HAS0 h6 e2, if_pos (show nI 0 = 0 from rfl)]
    · unfold f_Model_tamper
      rw [z0, pl_eq, if_neg z34, ISP0 z16 e2, if_pos (show nI 0 = 0 from rfl)]
end TAMP
