/-! the run: receives of a check and of what is shown, in the class, with all that is known -/
section CLS
variable {cd : Nat → Nat} {sd : Int64} {V c c' c0 : Nat → Nat → Nat} {P n B w : Nat} {st : Nat → Bool} {hg : Nat → Nat} {S S' : Nat → Nat → Nat} {X X1 : MX} {I I' I1 : MI} {J J' J1 : MJ}
theorem csm_c {f g : Nat → Nat} : ∀ m, (∀ j, j < m → f j = g j) → csm f m = csm g m
  | 0, _ => rfl
  | m + 1, h => by
    show pA (csm f m) (f m) = pA (csm g m) (g m)
    rw [h m (by omega), csm_c m (fun j hj => h j (by omega))]
theorem wgt_c {s : Int64} {a b : Nat → Int32} {er : Nat → Nat} {op : Nat} (h : ∀ j, j < P → a j = b j) : wgt s P a er op = wgt s P b er op := by
  unfold wgt
  rw [csm_c (f := fun j => dg_n (own s j) (Int32.toInt64 (a j))) (g := fun j => dg_n (own s j) (Int32.toInt64 (b j))) P (fun j hj => by rw [h j hj])]
theorem N2_n (h : ¬ (c 0 8 = 6 ∨ c 0 8 = 16)) : N2 c 0 5 = c 0 5 ∧ N2 c 0 7 = c 0 7 := by
  refine ⟨?_, ?_⟩
  · show c 0 5 + (if c 0 8 = 6 ∨ c 0 8 = 16 then 1 else 0) = c 0 5
    rw [if_neg h]
    rfl
  · show (if c 0 8 = 6 ∨ c 0 8 = 16 then 0 else c 0 7) = c 0 7
    rw [if_neg h]
theorem N2_e (h : c 0 8 = 6 ∨ c 0 8 = 16) : N2 c 0 5 = c 0 5 + 1 ∧ N2 c 0 7 = 0 := by
  refine ⟨?_, ?_⟩
  · show c 0 5 + (if c 0 8 = 6 ∨ c 0 8 = 16 then 1 else 0) = c 0 5 + 1
    rw [if_pos h]
  · show (if c 0 8 = 6 ∨ c 0 8 = 16 then 0 else c 0 7) = 0
    rw [if_pos h]
theorem psv_2 {f : Nat} (h : f = 0 ∨ evb cd c = false) : psv cd c f w = c 6 w := by
  unfold psv
  rw [if_neg (fun y => by
    rcases h with h | h
    · omega
    · rw [h] at y
      cases y.2)]
  rfl
/-- what a receive of a check makes of the memory -/
theorem CRC2 (hP : P ≤ 4) (hw : w < P) (hM : MC cd n P B sd V c0 S X I J) (hc : tr cd (sd + 7000003) V c0 (S 0 w) = c) (hb : BND (cd := cd) c) (hu : uk cd c = 2) (f1 : S 1 w = 1) (f2 : S 2 w = 0) (f3 : S 3 w = 0)
    (eI : ∀ a, a ≠ 18 + 21 * w → a ≠ 25 + 21 * w → a ≠ 28 + 21 * w → a ≠ 32 + 21 * w → a ≠ 34 + 21 * w → a ≠ 35 + 21 * w → a ≠ 109 → a ≠ 110 → I1 a = I a)
    (e18 : ∀ j, j ≠ 9 → j ≠ 10 → j ≠ 11 → I1 (18 + 21 * w) j = I (18 + 21 * w) j) (e9 : I1 (18 + 21 * w) 9 = nI (c 0 8 + 2)) (e10 : I1 (18 + 21 * w) 10 = if bdv cd sd P c S = 1 then nI 3 else I (18 + 21 * w) 10) (e11 : I1 (18 + 21 * w) 11 = if bdv cd sd P c S = 1 then nI 1 else I (18 + 21 * w) 11)
    (e32 : ∀ j, j ≠ 7 → I1 (32 + 21 * w) j = I (32 + 21 * w) j) (e327 : I1 (32 + 21 * w) 7 = I (32 + 21 * w) 7 + 1)
    (e35 : ∀ j, j < P → I1 (35 + 21 * w) j = nI (if j ≠ w then S (40 + w) j - 1 else S (40 + w) j))
    (e34 : ∀ j, j < P → I1 (34 + 21 * w) j = if bdv cd sd P c S = 1 then (if j = w then nI 0 else nI 1) else I (34 + 21 * w) j)
    (e256 : I1 (25 + 21 * w) 6 = I (25 + 21 * w) 6) (e257 : I1 (25 + 21 * w) 7 = I (25 + 21 * w) 7)
    (e253 : I1 (25 + 21 * w) 3 = if c 0 8 = 6 ∨ c 0 8 = 16 then nI 0 else I (25 + 21 * w) 3) (e254 : I1 (25 + 21 * w) 4 = if c 0 8 = 6 ∨ c 0 8 = 16 then nI 0 else I (25 + 21 * w) 4) (e255 : I1 (25 + 21 * w) 5 = if c 0 8 = 6 ∨ c 0 8 = 16 then I (25 + 21 * w) 5 + 1 else I (25 + 21 * w) 5)
    (e28 : (stv (c 0 8) = 0 ∧ I1 (25 + 21 * w) 8 = nI 1 ∧ ∀ j, j < P → I1 (28 + 21 * w) j = nI (S (60 + j) (c 0 5))) ∨ (stv (c 0 8) ≠ 0 ∧ I1 (25 + 21 * w) 8 = I (25 + 21 * w) 8 ∧ I1 (28 + 21 * w) = I (28 + 21 * w))) :
    MC cd n P B sd V c0 (SR cd sd P c S w) X I1 J ∧ CF w I I1 J J := by
  have hM' := hM
  obtain ⟨hG0, hX, hp⟩ := hM
  have hpw := hp w hw
  rw [hc] at hpw
  obtain ⟨⟨a0, a6, a8, a9, a10, a11, a12, a13, a14⟩, cv, ⟨⟨s, s1, s2, s3⟩, k5, k6, k7, k8⟩, ⟨t2, t3, t4, t5, u0, u1, u2, ui⟩, ⟨o5, o6, o7, o8, o33, o34, o35, o36, o37⟩, ov⟩ := hpw
  obtain ⟨z1, z2, z3, z4, z5⟩ := stv_S hb.2.2.2.2.2 hu
  have hf : CF w I I1 J J := ⟨fun a x1 x2 x3 => eI a (by omega) (by omega) (by omega) (by omega) (by omega) (by omega) x2 x3, fun a x1 x2 => rfl⟩
  refine ⟨MC_st hM' hP hw hf (OTH_R hP hw) (by rw [SR_20 (by omega)]) (by rw [SR_20 (by omega)]) (by rw [SR_20 (by omega)]) (by rw [SR_20 (by omega)]) ?_, hf⟩
  have r1 : SR cd sd P c S w 1 w = 0 := by rw [SR_1, apn_s]
  have ec : tr cd (sd + 7000003) V c0 (SR cd sd P c S w 0 w) = N2 c := by rw [SR_0, apn_s, tr_s, hc, nx2 hu]
  rw [ec]
  have hev : evb cd c = false := decide_eq_false (by omega)
  have n13 : cd (c 0 0) ≠ 13 := by omega
  have fr : ∀ a, a ≠ 18 + 21 * w → a ≠ 25 + 21 * w → a ≠ 28 + 21 * w → a ≠ 32 + 21 * w → a ≠ 34 + 21 * w → a ≠ 35 + 21 * w → a < 109 → I1 a = I a := fun a x1 x2 x3 x4 x5 x6 x7 => eI a x1 x2 x3 x4 x5 x6 (by omega) (by omega)
  refine ⟨⟨?_, ?_, ?_, ?_, ?_, ?_, ?_, ?_, ?_⟩, CV_fr cv (fr _ (by omega) (by omega) (by omega) (by omega) (by omega) (by omega) (by omega)) (fr _ (by omega) (by omega) (by omega) (by omega) (by omega) (by omega) (by omega)) rfl rfl rfl rfl, ⟨?_, ?_, ?_, ?_, ?_⟩, ⟨?_, ?_, ?_, ?_, ?_, ?_, ?_, ?_⟩, ⟨?_, ?_, ?_, ?_, ?_, ?_, ?_, ?_, ?_⟩, ov⟩
  · rw [e18 0 (by decide) (by decide) (by decide)]
    exact a0
  · rw [e18 6 (by decide) (by decide) (by decide)]
    exact a6
  · rw [e18 8 (by decide) (by decide) (by decide)]
    exact a8
  · rw [e9, r1]
    unfold cph
    rw [if_neg (show ¬ cd (N2 c 0 0) = 13 from n13)]
    rfl
  · rw [e10, SR_2, SR_3, apn_s, f3, a10, f2, f3]
    by_cases y : bdv cd sd P c S = 1
    · rw [if_pos y, if_pos y]
      rfl
    · rw [if_neg y, if_neg y]
      rfl
  · rw [e11, SR_2, apn_s, a11]
    by_cases y : bdv cd sd P c S = 1
    · rw [if_pos y, if_pos y]
    · rw [if_neg y, if_neg y]
  · rw [e18 12 (by decide) (by decide) (by decide), SR_3]
    exact a12
  · rw [e18 13 (by decide) (by decide) (by decide), SR_5]
    exact a13
  · intro y
    have y' : 10 ≤ c 0 8 + 2 := y
    exact a14 (by
      have := hb.2.2.2.2.2
      unfold SGV at this
      have u := UK cd c
      omega)
  · by_cases y : c 0 8 = 6 ∨ c 0 8 = 16
    · rw [if_pos y] at e253 e254
      refine ⟨(0, s.2.1, s.2.2.1, 0), ⟨⟨e253, Nat.zero_le _⟩, ⟨e254, show 0 < 2 ^ 30 by decide⟩, fun i hi => absurd hi (Nat.not_lt_zero _)⟩, ?_, ?_⟩
      · rw [(N2_e y).2]
        rfl
      · rw [(N2_e y).2]
    · rw [if_neg y] at e253 e254
      refine ⟨s, ?_, ?_, ?_⟩
      · unfold CK at s1 ⊢
        rw [e253, e254, fr (26 + 21 * w) (by omega) (by omega) (by omega) (by omega) (by omega) (by omega) (by omega)]
        exact s1
      · rw [(N2_n y).2]
        exact s2
      · rw [(N2_n y).2]
        exact s3
  · rw [e255, k5]
    by_cases y : c 0 8 = 6 ∨ c 0 8 = 16
    · rw [if_pos y, (N2_e y).1, nI_1]
    · rw [if_neg y, (N2_n y).1]
  · rw [e256, SR_8]
    exact k6
  · rw [r1, e257, SR_60 (by omega) (by omega)]
    intro y
    by_cases z : c 0 8 = 6 ∨ c 0 8 = 16
    · exfalso
      have := (uk_2e (bs := sd) (V := V) hb.2.2.2.2.2 hu z).1
      rw [nx2 hu] at this
      exact this y.1
    · rw [(N2_n z).1]
      exact k7 ⟨hu, Or.inr f1⟩
  · rw [SR_9]
    rcases e28 with ⟨x1, x2, x3⟩ | ⟨x1, x2, x3⟩
    · rw [if_pos ⟨hu, x1⟩, apn_s]
      refine Or.inr ⟨by omega, x2, fun j hj => ?_⟩
      rw [SR_60 (by omega) (by omega), show c 0 5 + 1 - 1 = c 0 5 by omega]
      exact x3 j hj
    · rw [if_neg (fun y => x1 y.2), x2, x3]
      rcases k8 with y | ⟨y1, y2, y3⟩
      · exact Or.inl y
      · exact Or.inr ⟨y1, y2, fun j hj => by rw [SR_60 (by omega) (by omega)]; exact y3 j hj⟩
  · rw [fr (29 + 21 * w) (by omega) (by omega) (by omega) (by omega) (by omega) (by omega) (by omega), SR_13]
    exact t2
  · rw [fr (29 + 21 * w) (by omega) (by omega) (by omega) (by omega) (by omega) (by omega) (by omega), r1, t3, usv_0 n13, usv_0 (show cd (N2 c 0 0) ≠ 13 from n13)]
    rfl
  · rw [fr (29 + 21 * w) (by omega) (by omega) (by omega) (by omega) (by omega) (by omega) (by omega), SR_14]
    exact t4
  · rw [fr (29 + 21 * w) (by omega) (by omega) (by omega) (by omega) (by omega) (by omega) (by omega), SR_12]
    exact t5
  · rw [fr (31 + 21 * w) (by omega) (by omega) (by omega) (by omega) (by omega) (by omega) (by omega), SR_10]
    exact u0
  · rw [fr (31 + 21 * w) (by omega) (by omega) (by omega) (by omega) (by omega) (by omega) (by omega), SR_11]
    exact u1
  · rw [fr (31 + 21 * w) (by omega) (by omega) (by omega) (by omega) (by omega) (by omega) (by omega)]
    exact u2
  · rw [SR_13]
    exact ui
  · rw [e32 5 (by decide), SR_6]
    exact o5
  · rw [e32 6 (by decide), r1, o6, psv_2 (Or.inr hev), psv_2 (Or.inl rfl)]
    rfl
  · rw [e327, o7, nI_1, SR_7, apn_s]
  · rw [e32 8 (by decide), SR_4]
    exact o8
  · rw [fr (33 + 21 * w) (by omega) (by omega) (by omega) (by omega) (by omega) (by omega) (by omega), SR_30 (by omega) (by omega)]
    exact o33
  · intro j hj
    rw [e34 j hj, SR_w5]
    by_cases y : bdv cd sd P c S = 1
    · rw [if_pos y, if_pos y]
      split <;> rfl
    · rw [if_neg y, if_neg y]
      exact o34 j hj
  · intro j hj
    rw [e35 j hj, SR_w4 (by omega)]
    show _ = nI (if j ≠ w ∧ snb cd c j = true then S (40 + w) j - 1 else S (40 + w) j)
    rw [snb_1 (Or.inr (Or.inl hu)), sdf_t n13]
    by_cases y : j = w
    · rw [if_neg (fun z => z y), if_neg (fun z => z.1 y)]
    · rw [if_pos y, if_pos ⟨y, rfl⟩]
  · rw [fr (36 + 21 * w) (by omega) (by omega) (by omega) (by omega) (by omega) (by omega) (by omega)]
    exact o36
  · rw [fr (37 + 21 * w) (by omega) (by omega) (by omega) (by omega) (by omega) (by omega) (by omega)]
    exact o37
theorem blr_2 (h : uk cd c = 2 ∨ uk cd c = 3) : blr cd P c S w = anyb (fun j => decide (j ≠ w) && (true && decide (S (40 + w) j = 0))) P 0 := anyb_c _ _ (fun j _ _ => by
  have u := UK cd c
  rw [snb_1 (by omega), sdf_t (by omega)])
theorem CA2r (hW : WFc cd n P st hg) (hP : P ≤ 4) (hw : w < P) (hM : MC cd n P B sd V c0 S X I J) (hc : tr cd (sd + 7000003) V c0 (S 0 w) = c) (hG : GD cd st hg c) (hb : BND (cd := cd) c) (f1 : S 1 w = 1) (f2 : S 2 w = 0) (f3 : S 3 w = 0) (hu : uk cd c = 2) (hgt : ∀ j, j < P → S (40 + w) j < 2 ^ 31) (hpc : blr cd P c S w = false → stv (c 0 8) = 0 → ∀ j, j < P → pas cd (tr cd (sd + 7000003) V c0 (S 0 j)) (S 1 j) ∧ tr cd (sd + 7000003) V c0 (S 0 j) 0 5 = c 0 5) (hbc : 1 ≤ stv (c 0 8) → S 9 w = c 0 5 + 1) : (blr cd P c S w = true ∧ f_Hall_act w X I J = some (0, X, I, J)) ∨ (blr cd P c S w = false ∧ ∃ I1, f_Hall_act w X I J = some (if bdv cd sd P c S = 1 then 3 else 1, X, I1, J) ∧ MC cd n P B sd V c0 (SR cd sd P c S w) X I1 J ∧ CF w I I1 J J) := by
  have hM' := hM
  obtain ⟨g1, g2, g3, g4⟩ := hG
  obtain ⟨hG0, hX, hp⟩ := hM
  have hpw := hp w hw
  rw [hc] at hpw
  obtain ⟨⟨a0, a6, a8, a9, a10, a11, a12, a13, a14⟩, cv, ⟨⟨s, s1, s2, s3⟩, k5, k6, k7, k8⟩, ⟨t2, t3, t4, t5, u0, u1, u2, ui⟩, ⟨o5, o6, o7, o8, o33, o34, o35, o36, o37⟩, ov⟩ := hpw
  obtain ⟨m6, m8, m9, m10, m7, mr, md0, md1, md2⟩ := hG0
  obtain ⟨z1, z2, z3, z4, z5⟩ := stv_S hb.2.2.2.2.2 hu
  have z8 : stv (c 0 8) < 8 := z1.1
  have wf := WF_h hW g1
  have nm := hW.2.1
  have ph : I (18 + 21 * w) 9 = nI (c 0 8 + 1) := by
    rw [a9, f1]
    unfold cph
    rw [if_neg (by omega)]
  have sg := hb.2.2.2.2.2
  have hsgb : c 0 8 + 1 < 8 ∨ (cd (c 0 0) = 16 ∧ 10 ≤ c 0 8 + 1 ∧ c 0 8 + 1 < 18) := by
    unfold SGV at sg
    omega
  have hST : STG (c 0 8 + 1) (stv (c 0 8) + 1) := ⟨by omega, by
    have := z1.2
    omega⟩
  have e2 := ACCO (X := X) (J := J) nm mr a8 wf.1 z3 ph (by omega)
  rw [if_pos hsgb] at e2
  rw [blr_2 (Or.inl hu)] at hpc ⊢
  rcases CHRC (J := J) hP (show w < 4 by omega) m6 a0 (fun j hj => ⟨hgt j hj, o35 j hj⟩) ph hST (by omega) with ⟨b1, b2⟩ | ⟨b1, I2, b2, b3, b4, b5, b6, b7, b8⟩
  · rw [b2] at e2
    exact Or.inl ⟨b1, e2⟩
  · refine Or.inr ⟨b1, ?_⟩
    rw [b2] at e2
    have m6' : I2 14 6 = nI P := by
      rw [b3 14 (by omega) (by omega) (by omega)]
      exact m6
    by_cases x0 : stv (c 0 8) = 0
    · rw [if_pos (by omega)] at e2
      obtain ⟨I3, d1, d2, d3, d4, d5⟩ := NBC (J := J) hP (show w < 4 by omega) m6'
      rw [d1] at e2
      have bd : bdv cd sd P c S = 0 := if_neg (fun y => by
        have := z5.mpr y.2.1
        omega)
      have ne : ¬ (c 0 8 = 6 ∨ c 0 8 = 16) := fun y => by
        have := z5.mpr y
        omega
      have fr : ∀ a, a ≠ 18 + 21 * w → a ≠ 25 + 21 * w → a ≠ 28 + 21 * w → a ≠ 32 + 21 * w → a ≠ 35 + 21 * w → I3 a = I a := fun a x1 x2 x3 x4 x5 => by rw [d2 a x3 x2, b3 a x5 x4 x1]
      have e18 : I3 (18 + 21 * w) = I2 (18 + 21 * w) := d2 _ (by omega) (by omega)
      have e32 : I3 (32 + 21 * w) = I2 (32 + 21 * w) := d2 _ (by omega) (by omega)
      have e35 : I3 (35 + 21 * w) = I2 (35 + 21 * w) := d2 _ (by omega) (by omega)
      have e25 : ∀ j, j ≠ 8 → I3 (25 + 21 * w) j = I (25 + 21 * w) j := fun j hj => by rw [d4 j hj, b3 _ (by omega) (by omega) (by omega)]
      refine ⟨I3, by rw [e2, bd]; rfl, CRC2 hP hw hM' hc hb hu f1 f2 f3 (fun a x1 x2 x3 x4 x5 x6 _ _ => fr a x1 x2 x3 x4 x6) (fun j x1 x2 x3 => by rw [e18, b7 j x1]) (by rw [e18, b8]) (by rw [bd, if_neg (by decide), e18, b7 10 (by decide)]) (by rw [bd, if_neg (by decide), e18, b7 11 (by decide)]) (fun j x1 => by rw [e32, b4 j x1]) (by rw [e32, b5]) (fun j hj => by rw [e35]; exact b6 j hj) (fun j hj => by rw [bd, if_neg (by decide), fr (34 + 21 * w) (by omega) (by omega) (by omega) (by omega) (by omega)]) (e25 6 (by decide)) (e25 7 (by decide)) (by rw [if_neg ne]; exact e25 3 (by decide)) (by rw [if_neg ne]; exact e25 4 (by decide)) (by rw [if_neg ne]; exact e25 5 (by decide)) (Or.inl ⟨x0, d5, fun j hj => ?_⟩)⟩
      obtain ⟨p1, p2⟩ := hpc b1 x0 j hj
      have q := (hp j hj).2.2.1.2.2.2.1 p1
      rw [d3, if_pos hj, b3 (25 + 21 * j) (by omega) (by omega) (by omega), q, p2]
    · rw [if_neg (by omega)] at e2
      have r9 := hbc (by omega)
      by_cases x6 : c 0 8 = 6 ∨ c 0 8 = 16
      · have s6 := z5.mpr x6
        rw [if_pos (by omega)] at e2
        have m25 : I2 (25 + 21 * w) = I (25 + 21 * w) := b3 _ (by omega) (by omega) (by omega)
        have m26 : I2 (26 + 21 * w) = I (26 + 21 * w) := b3 _ (by omega) (by omega) (by omega)
        have m28 : I2 (28 + 21 * w) = I (28 + 21 * w) := b3 _ (by omega) (by omega) (by omega)
        have m34 : I2 (34 + 21 * w) = I (34 + 21 * w) := b3 _ (by omega) (by omega) (by omega)
        obtain ⟨I3, d1, d2, d3, d4, d5, d6, d7, d8, d9, d10⟩ := JUDC (J := J) (I := I2) (cc := I (28 + 21 * w)) (er := c 5) (op := c 0 7) (nE := s.1) (at' := s.2.1) (of' := s.2.2.1) (show w < 4 by omega) hP s1.1.2 m6' (by rw [b7 0 (by decide)]; exact a0) m28 (by rw [m25]; exact s1.1.1) (fun k hk => by rw [m26]; exact (s1.2.2 k hk).2.1) (fun k hk => (s1.2.2 k hk).2.2) s2
        have hk : ∀ j, j < P → I (28 + 21 * w) j = nI (S (60 + j) (c 0 5)) := fun j hj => by
          rcases k8 with y | ⟨y1, y2, y3⟩
          · omega
          · rw [y3 j hj, r9, show c 0 5 + 1 - 1 = c 0 5 by omega]
        have ew : wgt (J 14 7) P (I (28 + 21 * w)) (c 5) (c 0 7) = wgt sd P (fun j => nI (S (60 + j) (c 0 5))) (c 5) (c 0 7) := by
          rw [m7]
          exact wgt_c hk
        rw [ew] at d1 d4 d5 d10
        have bdE : (wgt sd P (fun j => nI (S (60 + j) (c 0 5))) (c 5) (c 0 7) = 0 → bdv cd sd P c S = 0) ∧ (wgt sd P (fun j => nI (S (60 + j) (c 0 5))) (c 5) (c 0 7) ≠ 0 → bdv cd sd P c S = 1) := ⟨fun t => if_neg (fun r => r.2.2 t), fun t => if_pos ⟨hu, x6, t⟩⟩
        have bdi : ∀ {α : Type} (x y : α), (if wgt sd P (fun j => nI (S (60 + j) (c 0 5))) (c 5) (c 0 7) = 0 then x else y) = if bdv cd sd P c S = 1 then y else x := fun {α} x y => by
          by_cases t : wgt sd P (fun j => nI (S (60 + j) (c 0 5))) (c 5) (c 0 7) = 0
          · rw [if_pos t, bdE.1 t, if_neg (by decide)]
          · rw [if_neg t, bdE.2 t, if_pos rfl]
        rw [bdi] at d4 d5
        have d1' : ∀ {α : Type} {F : Int32 → MI → MJ → Option α}, oc (f_Hall_judge w I2 J) F = F (nI (if bdv cd sd P c S = 1 then 3 else 1)) I3 J := by
          intro α F
          rw [d1, bdi]
        rw [d1'] at e2
        have fr : ∀ a, a ≠ 18 + 21 * w → a ≠ 25 + 21 * w → a ≠ 32 + 21 * w → a ≠ 34 + 21 * w → a ≠ 35 + 21 * w → a ≠ 109 → a ≠ 110 → I3 a = I a := fun a x1 x2 x3 x4 x5 x6 x7 => by rw [d2 a x6 x7 x1 x2 x4, b3 a x5 x3 x1]
        have e32 : I3 (32 + 21 * w) = I2 (32 + 21 * w) := d2 _ (by omega) (by omega) (by omega) (by omega) (by omega)
        have e35 : I3 (35 + 21 * w) = I2 (35 + 21 * w) := d2 _ (by omega) (by omega) (by omega) (by omega) (by omega)
        refine ⟨I3, by rw [e2]; split <;> rfl, CRC2 hP hw hM' hc hb hu f1 f2 f3 (fun a x1 x2 x3 x4 x5 x6 x7 x8 => fr a x1 x2 x4 x5 x6 x7 x8) (fun j x1 x2 x3 => by rw [d3 j x2 x3, b7 j x1]) (by rw [d3 9 (by decide) (by decide), b8]) (by rw [d4, b7 10 (by decide)]) (by rw [d5, b7 11 (by decide)]) (fun j x1 => by rw [e32, b4 j x1]) (by rw [e32, b5]) (fun j hj => by rw [e35]; exact b6 j hj) (fun j hj => ?_) (by rw [d6 6 (by decide) (by decide) (by decide), m25]) (by rw [d6 7 (by decide) (by decide) (by decide), m25]) (by rw [if_pos x6]; exact d7) (by rw [if_pos x6]; exact d8) (by rw [if_pos x6, d9, m25]) (Or.inr ⟨x0, by rw [d6 8 (by decide) (by decide) (by decide), m25], fr _ (by omega) (by omega) (by omega) (by omega) (by omega) (by omega) (by omega)⟩)⟩
        rw [d10, m34]
        by_cases t : wgt sd P (fun j => nI (S (60 + j) (c 0 5))) (c 5) (c 0 7) = 0
        · rw [if_neg (fun r => r.2 t), bdE.1 t, if_neg (by decide)]
        · rw [if_pos ⟨hj, t⟩, bdE.2 t, if_pos rfl]
      · rw [if_neg (by omega)] at e2
        have bd : bdv cd sd P c S = 0 := if_neg (fun y => x6 y.2.1)
        have m25 : I2 (25 + 21 * w) = I (25 + 21 * w) := b3 _ (by omega) (by omega) (by omega)
        exact ⟨I2, by rw [e2, bd]; rfl, CRC2 hP hw hM' hc hb hu f1 f2 f3 (fun a x1 x2 x3 x4 x5 x6 _ _ => b3 a x6 x4 x1) (fun j x1 x2 x3 => b7 j x1) b8 (by rw [bd, if_neg (by decide), b7 10 (by decide)]) (by rw [bd, if_neg (by decide), b7 11 (by decide)]) b4 b5 b6 (fun j hj => by rw [bd, if_neg (by decide), b3 (34 + 21 * w) (by omega) (by omega) (by omega)]) (by rw [m25]) (by rw [m25]) (by rw [if_neg x6, m25]) (by rw [if_neg x6, m25]) (by rw [if_neg x6, m25]) (Or.inr ⟨x0, by rw [m25], b3 _ (by omega) (by omega) (by omega)⟩)⟩
end CLS
