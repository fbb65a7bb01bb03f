/-! give and deal -/
section STOCK
variable {cd : Nat → Nat} {sd : Int64} {V V' c0 G G' : Nat → Nat → Nat} {P n B a x : Nat} {st : Nat → Bool} {hg : Nat → Nat} {S S' : Nat → Nat → Nat} {X : MX} {I I1 I' I1' : MI} {J J1 J' J1' : MJ}
/-- cells of the stock alone have changed -/
def CSK (I I1 : MI) (J J1 : MJ) : Prop := (∀ c, c ≠ 0 → c ≠ 102 → (∀ x, x < 4 → c ≠ 29 + 21 * x) → I1 c = I c) ∧ (∀ x, x < 4 → ∀ j, j ≠ 2 → j ≠ 4 → I1 (29 + 21 * x) j = I (29 + 21 * x) j) ∧ (∀ c, (∀ x, x < 4 → c ≠ 30 + 21 * x) → J1 c = J c)
def RSK (I I1 : MI) (J J1 : MJ) : Prop := (∀ c, c ≠ 112 → c ≠ 119 → c ≠ 120 → c ≠ 125 → I1 c = I c) ∧ (∀ j, j ≠ 0 → j ≠ 24 → j ≠ 26 → j ≠ 28 → j ≠ 30 → I1 112 j = I 112 j) ∧ (∀ c, c ≠ 124 → J1 c = J c)
theorem RU_st (hS : ST cd st hg n P B c0) (hR : RU cd st hg n P B sd V c0 S X I J I' J') (hc : CSK I I1 J J1) (hr : RSK I' I1' J' J1') (hk : ∀ k, k ≠ 13 → k ≠ 14 → k ≠ 20 → S' k = S k) (h0 : S' 20 0 = S 20 0) (h1 : S' 20 1 = S 20 1)
    (d0 : I1 102 0 = nI (S' 20 2) ∧ I1 102 1 = nI (S' 20 3) ∧ I1 102 2 = nI (S' 20 4)) (d1 : I1' 112 24 = nI (S' 20 2) ∧ I1' 112 26 = nI (S' 20 3) ∧ I1' 112 28 = nI (S' 20 4))
    (hp : ∀ x, x < P → I1 (29 + 21 * x) 2 = nI (S' 13 x) ∧ I1 (29 + 21 * x) 4 = nI (S' 14 x) ∧ I1' 125 x = nI (S' 13 x) ∧ I1' 120 x = nI (S' 14 x) ∧ I1' 119 x = nI (S' 14 x - S 12 x) ∧ (∀ k, k < S' 13 x → V (10 + x) k < pP ∧ J1 (30 + 21 * x) k = lN (V (10 + x) k) ∧ J1' 124 (100 * x + k) = lN (V (10 + x) k)) ∧ (S 13 x ≤ S' 13 x ∧ S' 13 x ≤ 100 ∧ S 14 x ≤ S' 14 x ∧ S' 14 x ≤ 200)) (hd : S 20 2 ≤ S' 20 2 ∧ S 20 3 ≤ S' 20 3 ∧ S 20 4 ≤ S' 20 4 ∧ S' 20 2 ≤ 200 ∧ S' 20 3 ≤ 200 ∧ S' 20 4 ≤ 200) : RU cd st hg n P B sd V c0 S' X I1 J1 I1' J1' := by
  obtain ⟨hM, hMM, hT, hI, hN, hJ⟩ := hR
  have hP := hS.2.1.2
  obtain ⟨⟨m6, m8, m9, m10, m7, mr, md0, md1, md2⟩, hX, hpc⟩ := hM
  obtain ⟨⟨m16, m17, m34, m35, m60, m24, m26, m28, m114, mk, mb, mo⟩, hE, hKo, hpm⟩ := hMM
  have e0 := hk 0 (by decide) (by decide) (by decide)
  have e1 := hk 1 (by decide) (by decide) (by decide)
  have fc : ∀ c, c ≠ 0 → c ≠ 102 → (∀ x, x < 4 → c ≠ 29 + 21 * x) → I1 c = I c := hc.1
  have f14 := fc 14 (by decide) (by decide) (fun x hx => by omega)
  have g : ∀ c, c ≠ 112 → c ≠ 119 → c ≠ 120 → c ≠ 125 → I1' c = I' c := hr.1
  have g' : ∀ c, (112 < c ∧ c < 119) ∨ (120 < c ∧ c < 125) ∨ 125 < c → I1' c = I' c := fun c h => g c (by omega) (by omega) (by omega) (by omega)
  have fj := hr.2.1
  have gJ : ∀ c, c ≠ 124 → J1' c = J' c := hr.2.2
  have sn : ∀ i j, snt S' i j ↔ snt S i j := fun i j => by
    unfold snt
    rw [e0, e1]
  have hcs : ∀ j k, hco cd (sd + 7000003) V c0 S' j k ↔ hco cd (sd + 7000003) V c0 S j k := fun j k => by
    unfold hco
    rw [e0, e1]
  refine ⟨⟨⟨by rw [f14]; exact m6, by rw [f14]; exact m8, by rw [f14]; exact m9, by rw [f14, h0]; exact m10, by rw [hc.2.2 14 (fun x hx => by omega)]; exact m7, rowC_f2 mr (fc 15 (by decide) (by decide) (fun x hx => by omega)) (fc 16 (by decide) (by decide) (fun x hx => by omega)), d0.1, d0.2.1, d0.2.2⟩, hX, fun x hx => ?_⟩, ⟨⟨by rw [fj 16 (by decide) (by decide) (by decide) (by decide) (by decide)]; exact m16, by rw [fj 17 (by decide) (by decide) (by decide) (by decide) (by decide)]; exact m17, by rw [fj 34 (by decide) (by decide) (by decide) (by decide) (by decide)]; exact m34, by rw [fj 35 (by decide) (by decide) (by decide) (by decide) (by decide), h0]; exact m35, by rw [fj 60 (by decide) (by decide) (by decide) (by decide) (by decide), h1]; exact m60, d1.1, d1.2.1, d1.2.2, by rw [g' 114 (by omega)]; exact m114, by rw [gJ 112 (by decide)]; exact mk, by rw [gJ 112 (by decide)]; exact mb, by rw [gJ 117 (by decide)]; exact mo⟩, MRe_fr hE (g' 151 (by omega)) (g' 153 (by omega)) (gJ 152 (by decide)) (fun i _ ⟨p, hp, q⟩ => ⟨p, hp, (sn i p).mp q⟩) (fun i j _ _ _ => sn i j), MRk_fr hKo (gJ 154 (by decide)) (gJ 155 (by decide)) (fun j _ k h => (hcs j k).mp h) (fun j hj => hk (60 + j) (by omega) (by omega) (by omega)), fun x hx => ?_⟩, ?_, PI_eq hI e0 e1 (hk 9 (by decide) (by decide) (by decide)) h1 (fun j hj => hk (30 + j) (by omega) (by omega) (by omega)) (fun j hj => hk (40 + j) (by omega) (by omega) (by omega)), ⟨fun x hx => ?_, by rw [h0]; exact hN.2.1, by rw [h0, h1]; exact hN.2.2.1, hd.2.2.2.1, hd.2.2.2.2.1, hd.2.2.2.2.2⟩, fun x hx => ?_⟩
  · rw [e0]
    obtain ⟨ha, cv, ⟨⟨s, s1, s2, s3⟩, k5, k6, k7, k8⟩, ⟨t2, t3, t4, t5, u0, u1, u2, ui⟩, ho, ov⟩ := hpc x hx
    obtain ⟨y1, y2, y3, y4, y5, y6, y7⟩ := hp x hx
    have fx : ∀ c, 18 + 21 * x ≤ c → c < 39 + 21 * x → c ≠ 29 + 21 * x → I1 c = I c := fun c h1 h2 h3 => fc c (by omega) (by omega) (fun z hz => by omega)
    have jx : ∀ c, c ≠ 30 + 21 * x → 18 + 21 * x ≤ c → c < 39 + 21 * x → J1 c = J c := fun c h1 h2 h3 => hc.2.2 c (fun z hz => by omega)
    refine ⟨?_, CV_fr cv (fx _ (by omega) (by omega) (by omega)) (fx _ (by omega) (by omega) (by omega)) (jx _ (by omega) (by omega) (by omega)) (jx _ (by omega) (by omega) (by omega)) (jx _ (by omega) (by omega) (by omega)) (jx _ (by omega) (by omega) (by omega)), ⟨⟨s, CK_fr s1 (fx _ (by omega) (by omega) (by omega)) (fx _ (by omega) (by omega) (by omega)) (jx _ (by omega) (by omega) (by omega)), s2, s3⟩, ?_, ?_, ?_, ?_⟩, ⟨y1, ?_, y2, ?_, ?_, ?_, ?_, fun k hk => ⟨(y6 k hk).1, (y6 k hk).2.1⟩⟩, ?_, ?_⟩
    · unfold MCa at ha ⊢
      rw [fx (18 + 21 * x) (by omega) (by omega) (by omega), jx (18 + 21 * x) (by omega) (by omega) (by omega), e1, hk 2 (by decide) (by decide) (by decide), hk 3 (by decide) (by decide) (by decide), hk 5 (by decide) (by decide) (by decide)]
      exact ha
    · rw [fx (25 + 21 * x) (by omega) (by omega) (by omega)]
      exact k5
    · rw [fx (25 + 21 * x) (by omega) (by omega) (by omega), hk 8 (by decide) (by decide) (by decide)]
      exact k6
    · rw [fx (25 + 21 * x) (by omega) (by omega) (by omega), e1, hk (60 + x) (by omega) (by omega) (by omega)]
      exact k7
    · rw [fx (25 + 21 * x) (by omega) (by omega) (by omega), fx (28 + 21 * x) (by omega) (by omega) (by omega), hk 9 (by decide) (by decide) (by decide)]
      rcases k8 with y | ⟨z1, z2, z3⟩
      · exact Or.inl y
      · exact Or.inr ⟨z1, z2, fun j hj => by rw [hk (60 + j) (by omega) (by omega) (by omega)]; exact z3 j hj⟩
    · rw [hc.2.1 x (by omega) 3 (by decide) (by decide), e1]
      exact t3
    · rw [hc.2.1 x (by omega) 5 (by decide) (by decide), hk 12 (by decide) (by decide) (by decide)]
      exact t5
    · rw [fx (31 + 21 * x) (by omega) (by omega) (by omega), hk 10 (by decide) (by decide) (by decide)]
      exact u0
    · rw [fx (31 + 21 * x) (by omega) (by omega) (by omega), hk 11 (by decide) (by decide) (by decide)]
      exact u1
    · rw [fx (31 + 21 * x) (by omega) (by omega) (by omega)]
      exact u2
    · unfold MCo at ho ⊢
      rw [fx (32 + 21 * x) (by omega) (by omega) (by omega), fx (33 + 21 * x) (by omega) (by omega) (by omega), fx (34 + 21 * x) (by omega) (by omega) (by omega), fx (35 + 21 * x) (by omega) (by omega) (by omega), fx (36 + 21 * x) (by omega) (by omega) (by omega), fx (37 + 21 * x) (by omega) (by omega) (by omega), hk 6 (by decide) (by decide) (by decide), e1, hk 7 (by decide) (by decide) (by decide), hk 4 (by decide) (by decide) (by decide), hk (30 + x) (by omega) (by omega) (by omega), hk (40 + x) (by omega) (by omega) (by omega), hk (50 + x) (by omega) (by omega) (by omega)]
      exact ho
    · refine OV_fr ov rfl rfl (Nat.le_refl _) (hc.2.2 _ (fun z hz => ?_))
      have := ov.2.1
      omega
  · rw [e0]
    obtain ⟨⟨pos, h', sk, p1, p2, p3, p4, p5⟩, pb, ⟨r129, r130, r131, r132, r133, r134, r135, r136, r137, r138, r139, r142, r118, r121, r122, r123, r125, r126, r119, r120⟩, ⟨d1, d2, d3, d4, d5⟩, po⟩ := hpm x hx
    obtain ⟨y1, y2, y3, y4, y5, y6, y7⟩ := hp x hx
    refine ⟨⟨pos, h', sk, p1, p2, RV_eq p3 (by rw [g' 145 (by omega)]) (by rw [g' 141 (by omega)]) (g' 140 (by omega)) (gJ 143 (by decide)) (gJ 144 (by decide)), by rw [g' 127 (by omega)]; exact p4, p5⟩, ?_, ?_, ⟨by rw [gJ 146 (by decide)]; exact d1, fun k hk => ⟨(y6 k hk).1, (y6 k hk).2.2⟩, by rw [g' 148 (by omega), hk (30 + x) (by omega) (by omega) (by omega)]; exact d3, by rw [g' 149 (by omega), hk (50 + x) (by omega) (by omega) (by omega)]; exact d4, by rw [g' 150 (by omega), hk (40 + x) (by omega) (by omega) (by omega)]; exact d5⟩, by unfold MRo; rw [gJ 147 (by decide)]; exact po⟩
    · unfold MRb at pb ⊢
      rw [g' 128 (by omega), e1]
      exact pb
    · unfold MRc
      rw [g' 129 (by omega), g' 130 (by omega), g' 131 (by omega), g' 132 (by omega), g' 133 (by omega), g' 134 (by omega), g' 135 (by omega), g' 136 (by omega), g' 137 (by omega), g' 138 (by omega), g' 139 (by omega), g' 142 (by omega), g' 118 (by omega), g' 121 (by omega), g' 122 (by omega), g' 123 (by omega), g' 126 (by omega), e1, hk 2 (by decide) (by decide) (by decide), hk 3 (by decide) (by decide) (by decide), hk 4 (by decide) (by decide) (by decide), hk 5 (by decide) (by decide) (by decide), hk 6 (by decide) (by decide) (by decide), hk 7 (by decide) (by decide) (by decide), hk 8 (by decide) (by decide) (by decide), hk 9 (by decide) (by decide) (by decide), hk 10 (by decide) (by decide) (by decide), hk 11 (by decide) (by decide) (by decide), hk 12 (by decide) (by decide) (by decide)]
      exact ⟨r129, r130, r131, r132, r133, r134, r135, r136, r137, r138, r139, r142, r118, r121, r122, r123, y3, r126, y5, y4⟩
  · exact TAM_f2 (TAM_fr hT (fc 103 (by decide) (by decide) (fun x hx => by omega)) (fc 104 (by decide) (by decide) (fun x hx => by omega)) (fc 105 (by decide) (by decide) (fun x hx => by omega)) (fc 106 (by decide) (by decide) (fun x hx => by omega)) (hc.2.2 107 (fun x hx => by omega))) (fj 66 (by decide) (by decide) (by decide) (by decide) (by decide)) (g' 156 (by omega)) (g' 157 (by omega)) (g' 158 (by omega)) (gJ 159 (by decide))
  · obtain ⟨q1, q2, q3, q4, q5, q6, q7, q8⟩ := hN.1 x hx
    obtain ⟨y1, y2, y3, y4, y5, y6, y7⟩ := hp x hx
    rw [e0, e1, hk 10 (by decide) (by decide) (by decide), hk 11 (by decide) (by decide) (by decide), hk 12 (by decide) (by decide) (by decide), hk 2 (by decide) (by decide) (by decide), hk 3 (by decide) (by decide) (by decide), hk 4 (by decide) (by decide) (by decide), hk 8 (by decide) (by decide) (by decide), hk (50 + x) (by omega) (by omega) (by omega), h0]
    exact ⟨q1, ⟨by omega, by omega, by omega⟩, ⟨by omega, y7.2.1⟩, ⟨by omega, y7.2.2.2⟩, q5, q6, q7, q8⟩
  · rw [hk (40 + x) (by omega) (by omega) (by omega), hk (50 + x) (by omega) (by omega) (by omega), hk (30 + x) (by omega) (by omega) (by omega)]
    exact hJ x hx
theorem HALL_st (h : HALL P B sd V G I I' J J') (hc : CSK I I1 J J1) (hr : RSK I' I1' J' J1') (hk : ∀ k, k ≠ 13 → k ≠ 14 → k ≠ 20 → G' k = G k) (h0 : G' 20 0 = G 20 0)
    (d0 : I1 102 0 = nI (G' 20 2) ∧ I1 102 1 = nI (G' 20 3) ∧ I1 102 2 = nI (G' 20 4)) (d1 : I1' 112 24 = nI (G' 20 2) ∧ I1' 112 26 = nI (G' 20 3) ∧ I1' 112 28 = nI (G' 20 4))
    (hp : ∀ x, x < P → I1 (29 + 21 * x) 2 = nI (G' 13 x) ∧ I1 (29 + 21 * x) 4 = nI (G' 14 x) ∧ I1' 125 x = nI (G' 13 x) ∧ I1' 120 x = nI (G' 14 x) ∧ I1' 119 x = nI (G' 14 x - G 12 x) ∧ (∀ k, k < G' 13 x → V' (10 + x) k < pP ∧ J1 (30 + 21 * x) k = lN (V' (10 + x) k) ∧ J1' 124 (100 * x + k) = lN (V' (10 + x) k)) ∧ (G 13 x ≤ G' 13 x ∧ G' 13 x ≤ 100 ∧ G 14 x ≤ G' 14 x ∧ G' 14 x ≤ 200)) (hd : G 20 2 ≤ G' 20 2 ∧ G 20 3 ≤ G' 20 3 ∧ G 20 4 ≤ G' 20 4 ∧ G' 20 2 ≤ 200 ∧ G' 20 3 ≤ 200 ∧ G' 20 4 ≤ 200) : HALL P B sd V' G' I1 I1' J1 J1' := by
  obtain ⟨⟨hP, hB, ⟨m6, m8, m10, m7, md0, md1, md2⟩, ⟨n16, n17, n35, n24, n26, n28, nk, nb, no⟩, ⟨hsa, -⟩, hix⟩, hp0⟩ := h
  have fc : ∀ c, c ≠ 0 → c ≠ 102 → (∀ x, x < 4 → c ≠ 29 + 21 * x) → I1 c = I c := hc.1
  have f14 := fc 14 (by decide) (by decide) (fun x hx => by omega)
  have g' : ∀ c, (112 < c ∧ c < 119) ∨ (120 < c ∧ c < 125) ∨ 125 < c → I1' c = I' c := fun c h => hr.1 c (by omega) (by omega) (by omega) (by omega)
  have fj := hr.2.1
  have hP4 := hP.2
  refine ⟨⟨hP, hB, ⟨by rw [f14]; exact m6, by rw [f14]; exact m8, by rw [f14, h0]; exact m10, by rw [hc.2.2 14 (fun x hx => by omega)]; exact m7, d0⟩, ⟨by rw [fj 16 (by decide) (by decide) (by decide) (by decide) (by decide)]; exact n16, by rw [fj 17 (by decide) (by decide) (by decide) (by decide) (by decide)]; exact n17, by rw [fj 35 (by decide) (by decide) (by decide) (by decide) (by decide), h0]; exact n35, d1.1, d1.2.1, d1.2.2, by rw [hr.2.2 112 (by decide)]; exact nk, by rw [hr.2.2 112 (by decide)]; exact nb, by rw [hr.2.2 117 (by decide)]; exact no⟩, ⟨by rw [h0]; exact hsa, hd.2.2.2⟩, fun x hx => by rw [fc (18 + 21 * x) (by omega) (by omega) (fun z hz => by omega)]; exact hix x hx⟩, fun x hx => ?_⟩
  obtain ⟨q1, q2, q3, q4, q5, q6, q7, q8, qi, r1, r2, r3, r4, r5, r6, r7, r8, qb⟩ := hp0 x hx
  obtain ⟨y1, y2, y3, y4, y5, y6, y7⟩ := hp x hx
  have fx : ∀ c, 18 + 21 * x ≤ c → c < 39 + 21 * x → c ≠ 29 + 21 * x → I1 c = I c := fun c h1 h2 h3 => fc c (by omega) (by omega) (fun z hz => by omega)
  unfold HPY
  rw [fx (25 + 21 * x) (by omega) (by omega) (by omega), fx (31 + 21 * x) (by omega) (by omega) (by omega), hc.2.1 x (by omega) 3 (by decide) (by decide), hc.2.1 x (by omega) 5 (by decide) (by decide), g' 118 (by omega), g' 126 (by omega), g' 121 (by omega), g' 122 (by omega), g' 123 (by omega), hk 8 (by decide) (by decide) (by decide), hk 10 (by decide) (by decide) (by decide), hk 11 (by decide) (by decide) (by decide), hk 12 (by decide) (by decide) (by decide), hk 15 (by decide) (by decide) (by decide), hk 16 (by decide) (by decide) (by decide), h0]
  exact ⟨q1, y1, q3, y2, q5, q6, q7, q8, y6, r1, y3, r3, y4, y5, r6, r7, r8, by omega, y7.2.1, by omega, y7.2.2.2, by omega, by omega, by omega, qb.2.2.2.2.2.2.2⟩
/-- the rest of the relation, where the stock has changed -/
theorem REL_st (h : REL X I J I' J') (hc : CSK I I1 J J1) (hr : RSK I' I1' J' J1') (h0 : ∀ j, j ≠ 5 → I1 0 j = I 0 j) (ht : ∃ tot, tot ≤ 3000 ∧ I1 0 5 = nI tot ∧ I1' 112 30 = nI tot) (hs : HS X I1 J1 I1' J1') : REL X I1 J1 I1' J1' := by
  obtain ⟨⟨b1, b2, b3⟩, ⟨tot, hn, c1, c2, c3, c4, c5, c6⟩, hx, -⟩ := h
  obtain ⟨t, t1, t2, t3⟩ := ht
  have fc : ∀ c, 0 < c → c < 14 → I1 c = I c := fun c h1 h2 => hc.1 c (by omega) (by omega) (fun x hx => by omega)
  have fj := hr.2.1
  exact ⟨⟨R_tape_c b1 (by rw [fc 4 (by omega) (by omega)]) (fc 5 (by omega) (by omega)) (fj 2 (by decide) (by decide) (by decide) (by decide) (by decide)) (hr.1 113 (by decide) (by decide) (by decide) (by decide)), R_put_c b2 (by rw [fc 1 (by omega) (by omega)]) (fc 2 (by omega) (by omega)) (fj 12 (by decide) (by decide) (by decide) (by decide) (by decide)) (hr.1 116 (by decide) (by decide) (by decide) (by decide)), by unfold R_fault; rw [h0 6 (by decide), h0 7 (by decide), fj 3 (by decide) (by decide) (by decide) (by decide) (by decide), fj 4 (by decide) (by decide) (by decide) (by decide) (by decide)]; exact b3⟩, ⟨t, hn, t1, t2, t3, c4, by rw [h0 4 (by decide)]; exact c5, by rw [fj 85 (by decide) (by decide) (by decide) (by decide) (by decide)]; exact c6⟩, hx, hs⟩
theorem LDC_s {cd : Nat → Nat} (h : LDC I I' n cd) (hc : CSK I I1 J J1) (hr : RSK I' I1' J' J1') : LDC I1 I1' n cd := LDC_c h (hc.1 15 (by decide) (by decide) (fun x hx => by omega)) (hc.1 16 (by decide) (by decide) (fun x hx => by omega)) (hr.1 114 (by decide) (by decide) (by decide) (by decide)) (hr.2.1 7 (by decide) (by decide) (by decide) (by decide) (by decide)) (hr.2.1 8 (by decide) (by decide) (by decide) (by decide) (by decide))
end STOCK
