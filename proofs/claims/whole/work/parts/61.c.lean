/-! deal, of both -/
section DEALC
variable {V G G' : Nat → Nat → Nat} {P n B a x : Nat} {sd : Int64} {X : MX} {I I1 I' I1' : MI} {J J1 J' J1' : MJ} {p2 p3 : Int32}
theorem nI_i {a b : Nat} (h : nI a = nI b) (ha : a < 2 ^ 30) (hb : b < 2 ^ 30) : a = b := (nI_eq (by omega) (by omega)).mp h
/-- the stock is told by the memory -/
theorem HALL_u (h : HALL P B sd V G I I' J J') {V' : Nat → Nat → Nat} (h' : HALL P B sd V' G' I I' J J') : (G' 20 2 = G 20 2 ∧ G' 20 3 = G 20 3 ∧ G' 20 4 = G 20 4) ∧ ∀ x, x < P → G' 14 x = G 14 x ∧ G' 12 x = G 12 x := by
  obtain ⟨⟨hP, hB, ⟨m6, m8, m10, m7, md0, md1, md2⟩, hn, ⟨hsa, d0, d1, d2⟩, hix⟩, hp⟩ := h
  obtain ⟨⟨-, -, ⟨n6, n8, n10, n7, nd0, nd1, nd2⟩, hn', ⟨hsa', d0', d1', d2'⟩, hix'⟩, hp'⟩ := h'
  refine ⟨⟨nI_i (by rw [← nd0, md0]) (by omega) (by omega), nI_i (by rw [← nd1, md1]) (by omega) (by omega), nI_i (by rw [← nd2, md2]) (by omega) (by omega)⟩, fun x hx => ?_⟩
  obtain ⟨q1, q2, q3, q4, q5, q6, q7, q8, qi, r1, r2, r3, r4, r5, r6, r7, r8, qb⟩ := hp x hx
  obtain ⟨q1', q2', q3', q4', q5', q6', q7', q8', qi', r1', r2', r3', r4', r5', r6', r7', r8', qb'⟩ := hp' x hx
  exact ⟨nI_i (by rw [← q4', q4]) (by omega) (by omega), nI_i (by rw [← q5', q5]) (by omega) (by omega)⟩
theorem dealC (h : REL X I J I' J') : CT X (f_Sh_deal p2 p3 I J) (f_Model_deal p2 p3 I' J') [(1, 0)] := by
  obtain ⟨P, B, sd, n, cd, hL, hw, hr'⟩ := h.2.2.2
  obtain ⟨V, G, hH⟩ : ∃ V G, HALL P B sd V G I I' J J' := by
    rcases hr' with ⟨V, G, a1, -⟩ | ⟨V, c0, S, st, hg, a1, a2, a3⟩
    · exact ⟨V, G, a1⟩
    · exact ⟨V, _, RU_HALL a1 a2 a3⟩
  obtain ⟨tot, hn, t1, t2, t3, -⟩ := h.2.1
  have hD := HALL_D hH
  have hP := hH.1.1.2
  have hP1 : 1 ≤ P := by have := hH.1.1.1; omega
  have m6 := hH.1.2.2.1.1
  have n16 := hH.1.2.2.2.1.1
  have hd := hH.1.2.2.2.2.1.2
  have no : ∀ {r : M2 (Int32 ⊕ Nat)} {q : M2 Int32}, r = some (.inr 0, I, J) → q = some (0, va_up I' 112 (upd (I' 112) 0 1), J') → CT X r q [(1, 0)] := fun e1 e2 => Or.inl ⟨0, 1, 0, I, J, TH0 I' 1, J', rfl, by decide, e1, e2, TH_0, REL_th h⟩
  have k3 : ∀ (c : Nat) (I1 I1' : MI) (d0 d1 d2 : Nat), DLT I1 I1' P d0 d1 d2 (G 10) (G 11) (G 16) → (G 20 2 ≤ d0 ∧ G 20 3 ≤ d1 ∧ G 20 4 ≤ d2 ∧ d0 ≤ 200 ∧ d1 ≤ 200 ∧ d2 ≤ 200) → tot + c ≤ 3000 → I1 0 5 = nI (tot + c) → I1' 112 30 = nI (tot + c) → (∀ a, a ≠ 0 → a ≠ 102 → I1 a = I a) → (∀ j, j ≠ 5 → I1 0 j = I 0 j) → (∀ a, a ≠ 112 → I1' a = I' a) → (∀ j, j ≠ 0 → j ≠ 24 → j ≠ 26 → j ≠ 28 → j ≠ 30 → I1' 112 j = I' 112 j) → REL X I1 J I1' J' := fun c I1 I1' d0 d1 d2 y1 y2 y3 y4 y5 y6 y7 y8 y9 => by
    refine dealS h hL hw hr' ⟨fun c c0 c1 c2 => y6 c c0 c1, fun x hx j _ _ => by rw [y6 (29 + 21 * x) (by omega) (by omega)], fun _ _ => rfl⟩ ⟨fun c c1 _ _ _ => y8 c c1, fun j j0 j1 j2 j3 j4 => y9 j j0 j1 j2 j3 j4, fun _ _ => rfl⟩ y7 ⟨tot + c, y3, y4, y5⟩ (fun G' V' hH' => ⟨d0, d1, d2, G' 14, y1.1, y1.2.1, fun x hx => ?_, ?_⟩)
    · have hP4 := hP
      obtain ⟨q1, q2, q3, q4, q5, q6, q7, q8, qi, r1, r2, r3, r4, r5, r6, r7, r8, qb⟩ := hH'.2 x hx
      rw [y6 (29 + 21 * x) (by omega) (by omega), y8 125 (by decide), y8 120 (by decide), y8 119 (by decide)]
      exact ⟨rfl, q4, rfl, r4, r5, Nat.le_refl _, qb.2.2.2.1⟩
    · obtain ⟨⟨u1, u2, u3⟩, -⟩ := HALL_u hH hH'
      rw [u1, u2, u3]
      exact y2
  rcases WHI p2 hP with ⟨a, ha, e⟩ | e | e | e | ⟨e1, e2, e3⟩
  · rw [e]
    obtain ⟨q1, q2, q3, q4, q5, q6, q7, q8, qi, r1, r2, r3, r4, r5, r6, r7, r8, qb⟩ := hH.2 a ha
    rcases DEAP (p3 := p3) (J := J) (J' := J') hP ha m6 n16 qb.2.2.1 qb.2.2.2.1 q4 q5 r4 r5 t2 t3 t1 with ⟨x1, x2⟩ | ⟨c, I1, I1', c1, c2, c3, x1, x2, x3, x4, x5, x6, x7, x8, x9, x10, x11, x12, x13, x14⟩
    · exact no x1 x2
    · refine Or.inr ⟨_, I1, J, I1', J', x1, x2, x14, dealS h hL hw hr' ⟨fun c c0 c1 c2 => x9 c c0 (c2 a (by omega)), fun x hx j j2 j4 => ?_, fun _ _ => rfl⟩ ⟨fun c c1 c2 c3 _ => x11 c c1 c2 c3, fun j j0 j1 j2 j3 j4 => x13 j j0 j4, fun _ _ => rfl⟩ x10 ⟨tot + c, c2, x7, x8⟩ (fun G' V' hH' => ⟨G' 20 2, G' 20 3, G' 20 4, fun x => if x = a then G' 14 a + c else G' 14 x, ?_, ?_, fun x hx => ?_, ?_⟩)⟩
      · by_cases z : x = a
        · rw [z]
          exact x4 j j4
        · rw [x9 (29 + 21 * x) (by omega) (by omega)]
      · rw [x9 102 (by omega) (by omega)]
        exact hH'.1.2.2.1.2.2.2.2
      · rw [x13 24 (by decide) (by decide), x13 26 (by decide) (by decide), x13 28 (by decide) (by decide)]
        exact ⟨hH'.1.2.2.2.1.2.2.2.1, hH'.1.2.2.2.1.2.2.2.2.1, hH'.1.2.2.2.1.2.2.2.2.2.1⟩
      · obtain ⟨w1, w2⟩ := (HALL_u hH hH').2 x hx
        by_cases z : x = a
        · rw [z] at w1 w2 ⊢
          dsimp only
          rw [if_pos rfl, x4 2 (by decide), x11 125 (by decide) (by decide) (by decide), w1, w2]
          exact ⟨rfl, x3, rfl, x5, x6, by omega, c1⟩
        · obtain ⟨q1, q2, q3, q4, q5, q6, q7, q8, qi, r1, r2, r3, r4, r5, r6, r7, r8, qb⟩ := hH'.2 x hx
          dsimp only
          rw [if_neg z, x9 (29 + 21 * x) (by omega) (by omega), x11 125 (by decide) (by decide) (by decide), (x12 x z).1, (x12 x z).2]
          exact ⟨rfl, q4, rfl, r4, r5, Nat.le_refl _, qb.2.2.2.1⟩
      · exact ⟨Nat.le_refl _, Nat.le_refl _, Nat.le_refl _, hH'.1.2.2.2.2.1.2⟩
  · rw [e]
    rcases DEA0 (p3 := p3) (J := J) (J' := J') hP hP1 m6 n16 hD hd.1 t2 t3 t1 with ⟨x1, x2⟩ | ⟨c, v, I1, I1', c1, c2, c3, x1, x2, x3, x4, x5, x6, x7, x8, x9, x10⟩
    · exact no x1 x2
    · exact Or.inr ⟨v, I1, J, I1', J', x1, x2, x10, k3 c I1 I1' _ _ _ x3 (by omega) c2 x4 x5 x6 x7 x8 (fun j j0 j1 j2 j3 j4 => x9 j j0 j4 j1)⟩
  · rw [e]
    rcases DEA1 (p3 := p3) (J := J) (J' := J') hP hP1 m6 n16 hD hd.2.1 t2 t3 t1 with ⟨x1, x2⟩ | ⟨c, v, I1, I1', c1, c2, c3, x1, x2, x3, x4, x5, x6, x7, x8, x9, x10⟩
    · exact no x1 x2
    · exact Or.inr ⟨v, I1, J, I1', J', x1, x2, x10, k3 c I1 I1' _ _ _ x3 (by omega) c2 x4 x5 x6 x7 x8 (fun j j0 j1 j2 j3 j4 => x9 j j0 j4 j2)⟩
  · rw [e]
    rcases DEA2 (p3 := p3) (J := J) (J' := J') hP hP1 m6 n16 hD hd.2.2 t2 t3 t1 with ⟨x1, x2⟩ | ⟨c, v, I1, I1', c1, c2, c3, x1, x2, x3, x4, x5, x6, x7, x8, x9, x10⟩
    · exact no x1 x2
    · exact Or.inr ⟨v, I1, J, I1', J', x1, x2, x10, k3 c I1 I1' _ _ _ x3 (by omega) c2 x4 x5 x6 x7 x8 (fun j j0 j1 j2 j3 j4 => x9 j j0 j4 j3)⟩
  · obtain ⟨x1, x2⟩ := DEAX (p3 := p3) (J := J) (J' := J') m6 n16 e1 e2 e3
    exact no x1 x2
end DEALC
