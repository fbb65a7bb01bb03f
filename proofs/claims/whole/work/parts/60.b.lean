/-! the run: what is shown and put out, in the class, with all that is known -/
theorem lN_sur (x : Int64) : ∃ k, x = lN k := ⟨x.toBitVec.toNat, Int64.toBitVec_inj.mp (by
  show x.toBitVec = BitVec.ofNat 64 x.toBitVec.toNat
  simp)⟩
section CLS
variable {cd : Nat → Nat} {sd : Int64} {V c c' c0 : Nat → Nat → Nat} {P n B w : Nat} {st : Nat → Bool} {hg : Nat → Nat} {S S' : Nat → Nat → Nat} {X X1 : MX} {I I' I1 : MI} {J J' J1 : MJ}
theorem uE_3 (h : cd (c 0 0) ≠ 13) : uE cd V c = eE (V 0 0) (V 1) (V 2) (V 3) (V 4) (fun _ => true) (c 6) := by
  unfold uE
  rw [show sdf cd (c 0 0) = (fun _ => true) from funext (fun j => sdf_t h)]
theorem CA3r (hW : WFc cd n P st hg) (hP : P ≤ 4) (hw : w < P) (hM : MC cd n P B sd V c0 S X I J) (hT : TAM I I' J J' P (V 0 0) (V 1) (V 2) (V 3) (V 4)) (hc : tr cd (sd + 7000003) V c0 (S 0 w) = c) (hG : GD cd st hg c) (hb : BND (cd := cd) c) (hsc : c 0 10 ≤ 30000) (hpl : ∀ j, j < P → c 6 j < 2 ^ 31) (f1 : S 1 w = 1) (f2 : S 2 w = 0) (f3 : S 3 w = 0) (hu : uk cd c = 3) (hgt : ∀ j, j < P → S (40 + w) j < 2 ^ 31) (h40 : nzc (nx cd (sd + 7000003) V c 5) (nx cd (sd + 7000003) V c 0 7) ≤ 40) : (blr cd P c S w = true ∧ f_Hall_act w X I J = some (0, X, I, J)) ∨ (blr cd P c S w = false ∧ ∃ I1 J1, f_Hall_act w X I J = some (1, X, I1, J1) ∧ MC cd n P B sd V c0 (SR cd sd P c S w) X I1 J1 ∧ CF w I I1 J J1) := by
  have hM' := hM
  obtain ⟨g1, g2, g3, g4⟩ := hG
  obtain ⟨hG0, hX, hp⟩ := hM
  have hpw := hp w hw
  rw [hc] at hpw
  obtain ⟨⟨a0, a6, a8, a9, a10, a11, a12, a13, a14⟩, cv, ⟨⟨s, s1, s2, s3⟩, k5, k6, k7, k8⟩, ⟨t2, t3, t4, t5, u0, u1, u2, ui⟩, ⟨o5, o6, o7, o8, o33, o34, o35, o36, o37⟩, ov⟩ := hpw
  obtain ⟨m6, m8, m9, m10, m7, mr, md0, md1, md2⟩ := hG0
  have z3 : cd (c 0 0) = 16 ∧ c 0 8 = 8 := by
    have u := UK cd c
    omega
  have wf := WF_h hW g1
  have wa := WF_a hW g1
  have nm := hW.2.1
  have n13 : cd (c 0 0) ≠ 13 := by omega
  have ph : I (18 + 21 * w) 9 = nI 9 := by
    rw [a9, f1]
    unfold cph
    rw [if_neg n13, z3.2]
  have e2 := ACCO (X := X) (J := J) nm mr a8 wf.1 (Or.inr z3.1) ph (by omega)
  rw [if_neg (by omega), z3.1] at e2
  have lp : c 0 0 + 1 < n := by
    have := wf.2.2.1
    rw [z3.1, show opl 16 = 2 from rfl] at this
    omega
  have uE3 := uE_3 (V := V) n13
  have hnz : NZ (ape (c 5) (c 0 7) (uE cd V c)) (nts (uE cd V c) 1 0 s).2.1 (nts (uE cd V c) 1 0 s).2.2.1 (nts (uE cd V c) 1 0 s).2.2.2 (nts (uE cd V c) 1 0 s).1 := by
    refine NZ_s _ _ _ ?_ (fun j hj => ?_)
    · rw [s3]
      exact NZ_e _ _ s2 (fun k hk => ape_l hk)
    · rw [s3, ape_r, Nat.zero_add]
  have hmo := nts_mono (uE cd V c) 1 0 s
  have hop : c 0 7 ≤ 32 * c 0 10 := hb.2.2.1
  rw [blr_2 (Or.inr hu)]
  rcases SHRV (X := X) hP (show w < 4 by omega) mr nm lp (wa.1 (by omega)) cv a8 m6 a0 (fun j hj => ⟨hgt j hj, o35 j hj⟩) hT (fun j hj => ⟨hpl j hj, o36 j hj⟩) s1 ⟨by
      have e := NZ_n _ _ hnz
      rw [nx3 hu] at h40
      have h40' : nzc (ape (c 5) (c 0 7) (uE cd V c)) (c 0 7 + 1) ≤ 40 := h40
      rw [← uE3, e, hmo.2, s3]
      exact h40', by omega⟩ ph with ⟨b1, b2⟩ | ⟨b1, I1, J1, b2, b3, b4, b5, b6, b7, b8, b9, b10, b11, b12, b13, b14⟩
  · rw [b2] at e2
    exact Or.inl ⟨b1, e2⟩
  · rw [b2] at e2
    rw [← uE3] at b3 b4
    have hf : CF w I I1 J J1 := ⟨fun a x1 x2 x3 => b13 a (by omega) (by omega) (by omega) (by omega) (by omega) (by omega), fun a x1 x2 => b14 a x2 (by omega) (by omega)⟩
    refine Or.inr ⟨b1, I1, J1, e2, MC_st hM' hP hw hf (OTH_R hP hw) (by rw [SR_20 (by omega)]) (by rw [SR_20 (by omega)]) (by rw [SR_20 (by omega)]) (by rw [SR_20 (by omega)]) ?_, hf⟩
    have b0 : bdv cd sd P c S = 0 := bdv_0 (by omega)
    have r1 : SR cd sd P c S w 1 w = 0 := by rw [SR_1, apn_s]
    have r2 : SR cd sd P c S w 2 w = S 2 w := by rw [SR_2, apn_s, b0, if_neg (by decide)]
    have r9 : SR cd sd P c S w 9 = S 9 := by rw [SR_9, if_neg (by omega)]
    have ec : tr cd (sd + 7000003) V c0 (SR cd sd P c S w 0 w) = N3 cd V c := by rw [SR_0, apn_s, tr_s, hc, nx3 hu]
    rw [ec]
    have fr : ∀ a, a ≠ 18 + 21 * w → a ≠ 25 + 21 * w → a ≠ 26 + 21 * w → a ≠ 32 + 21 * w → a ≠ 35 + 21 * w → a ≠ 36 + 21 * w → I1 a = I a := b13
    refine ⟨⟨?_, ?_, ?_, ?_, ?_, ?_, ?_, ?_, ?_⟩, CV_fr cv (fr _ (by omega) (by omega) (by omega) (by omega) (by omega) (by omega)) (fr _ (by omega) (by omega) (by omega) (by omega) (by omega) (by omega)) (b14 _ (by omega) (by omega) (by omega)) (b14 _ (by omega) (by omega) (by omega)) (b14 _ (by omega) (by omega) (by omega)) (b14 _ (by omega) (by omega) (by omega)), ⟨⟨_, b3, ?_, ?_⟩, ?_, ?_, ?_, ?_⟩, ⟨?_, ?_, ?_, ?_, ?_, ?_, ?_, ?_⟩, ⟨?_, ?_, ?_, ?_, ?_, ?_, ?_, ?_, ?_⟩, ?_⟩
    · rw [b10 0 (by decide)]
      exact a0
    · rw [b10 6 (by decide)]
      exact a6
    · rw [b10 8 (by decide)]
      exact a8
    · rw [b11, r1]
      unfold cph
      rw [if_neg (show ¬ cd (N3 cd V c 0 0) = 13 from n13)]
      rfl
    · rw [b10 10 (by decide), r2, SR_3, a10]
      rfl
    · rw [b10 11 (by decide), r2, a11]
    · rw [b10 12 (by decide), SR_3, a12]
    · rw [b10 13 (by decide), SR_5, a13]
    · intro _
      exact b4
    · show NZ (ape (c 5) (c 0 7) (uE cd V c)) _ _ (c 0 7 + 1) _
      rw [hmo.2, s3] at hnz
      exact hnz
    · show _ = c 0 7 + 1
      rw [hmo.2, s3]
    · rw [b12 5 (by decide) (by decide)]
      exact k5
    · rw [b12 6 (by decide) (by decide), SR_8]
      exact k6
    · rw [r1]
      intro y
      exfalso
      have y2 : 1 ≤ stv 10 ∨ 0 = 1 := y.2
      have : stv 10 = 0 := rfl
      omega
    · rw [b12 8 (by decide) (by decide), fr (28 + 21 * w) (by omega) (by omega) (by omega) (by omega) (by omega) (by omega), r9]
      rcases k8 with y | ⟨y1, y2, y3⟩
      · exact Or.inl y
      · exact Or.inr ⟨y1, y2, fun j hj => by rw [SR_60 (by omega) (by omega)]; exact y3 j hj⟩
    · rw [fr (29 + 21 * w) (by omega) (by omega) (by omega) (by omega) (by omega) (by omega), SR_13]
      exact t2
    · rw [fr (29 + 21 * w) (by omega) (by omega) (by omega) (by omega) (by omega) (by omega), r1, t3, usv_0 n13, usv_0 (show cd (N3 cd V c 0 0) ≠ 13 from n13)]
      rfl
    · rw [fr (29 + 21 * w) (by omega) (by omega) (by omega) (by omega) (by omega) (by omega), SR_14]
      exact t4
    · rw [fr (29 + 21 * w) (by omega) (by omega) (by omega) (by omega) (by omega) (by omega), SR_12]
      exact t5
    · rw [fr (31 + 21 * w) (by omega) (by omega) (by omega) (by omega) (by omega) (by omega), SR_10]
      exact u0
    · rw [fr (31 + 21 * w) (by omega) (by omega) (by omega) (by omega) (by omega) (by omega), SR_11]
      exact u1
    · rw [fr (31 + 21 * w) (by omega) (by omega) (by omega) (by omega) (by omega) (by omega)]
      exact u2
    · rw [SR_13, b14 (30 + 21 * w) (by omega) (by omega) (by omega)]
      exact ui
    · rw [b8 5 (by decide), SR_6]
      exact o5
    · rw [b8 6 (by decide), r1, o6, f1, psv_2 (Or.inl rfl)]
      unfold psv
      rw [if_pos ⟨rfl, evb3 hu⟩]
      rfl
    · rw [b9, o7, nI_1, SR_7, apn_s]
    · rw [b8 8 (by decide), SR_4]
      exact o8
    · rw [fr (33 + 21 * w) (by omega) (by omega) (by omega) (by omega) (by omega) (by omega), SR_30 (by omega) (by omega)]
      exact o33
    · rw [fr (34 + 21 * w) (by omega) (by omega) (by omega) (by omega) (by omega) (by omega), SR_w5, b0, if_neg (by decide)]
      exact o34
    · intro j hj
      rw [b7 j hj, SR_w4 (by omega)]
      show _ = nI (if j ≠ w ∧ snb cd c j = true then S (40 + w) j - 1 else S (40 + w) j)
      rw [snb_1 (Or.inr (Or.inr hu)), sdf_t n13]
      by_cases y : j = w
      · rw [if_neg (fun z => z y), if_neg (fun z => z.1 y)]
      · rw [if_pos y, if_pos ⟨y, rfl⟩]
    · exact b6
    · rw [fr (37 + 21 * w) (by omega) (by omega) (by omega) (by omega) (by omega) (by omega)]
      exact o37
    · refine OV_fr ov rfl rfl (Nat.le_refl _) (b14 _ ?_ ?_ ?_)
      all_goals
        have := ov.2.1
        omega
theorem CA4 (hW : WFc cd n P st hg) (hP : P ≤ 4) (hw : w < P) (hM : MC cd n P B sd V c0 S X I J) (hc : tr cd (sd + 7000003) V c0 (S 0 w) = c) (hG : GD cd st hg c) (hb : BND (cd := cd) c) (hsc : c 0 10 < 30000) (f1 : S 1 w = 0) (f2 : S 2 w = 0) (f3 : S 3 w = 0) (hu : uk cd c = 4) : ∃ X1 I1 J1, f_Hall_act w X I J = some (1, X1, I1, J1) ∧ MC cd n P B sd V c0 (SL S w) X1 I1 J1 ∧ XR X X1 ∧ (∀ a, a < 18 + 21 * w ∨ 39 + 21 * w ≤ a → I1 a = I a ∧ (a < 168 → J1 a = J a)) := by
  have hM' := hM
  obtain ⟨g1, g2, g3, g4⟩ := hG
  obtain ⟨hG0, hX, hp⟩ := hM
  have hpw := hp w hw
  rw [hc] at hpw
  obtain ⟨⟨a0, a6, a8, a9, a10, a11, a12, a13, a14⟩, cv, ⟨⟨s, s1, s2, s3⟩, k5, k6, k7, k8⟩, ⟨t2, t3, t4, t5, u0, u1, u2, ui⟩, ⟨o5, o6, o7, o8, o33, o34, o35, o36, o37⟩, ov⟩ := hpw
  obtain ⟨m6, m8, m9, m10, m7, mr, md0, md1, md2⟩ := hG0
  have z3 : (cd (c 0 0) = 15 ∧ c 0 8 = 8) ∨ (cd (c 0 0) = 16 ∧ c 0 8 = 18) := by
    have u := UK cd c
    have := hb.2.2.2.2.2
    unfold SGV at this
    omega
  have wf := WF_h hW g1
  have nm := hW.2.1
  have n13 : cd (c 0 0) ≠ 13 := by omega
  have ph : I (18 + 21 * w) 9 = nI (c 0 8) := by
    rw [a9, f1]
    unfold cph
    rw [if_neg n13]
    rfl
  have e2 := ACCO (X := X) (J := J) nm mr a8 wf.1 (by omega) ph (by omega)
  rw [if_neg (by omega)] at e2
  obtain ⟨sh, hsh⟩ : ∃ sh, J (18 + 21 * w) 7 = lN sh ∧ (cd (c 0 0) = 16 → sh = c 0 9) := by
    rcases z3 with y | y
    · obtain ⟨k, hk⟩ := lN_sur (J (18 + 21 * w) 7)
      exact ⟨k, hk, fun e => by omega⟩
    · exact ⟨c 0 9, a14 (by omega), fun _ => rfl⟩
  have hno : c 0 3 ≤ c 0 10 := hb.2.1
  have hop : c 0 7 ≤ 32 * c 0 10 := hb.2.2.1
  obtain ⟨X1, I1, J1, b1, b2, b3, b4, b5, b6, b7, b8⟩ := SHP (X := X) hW (show w < 4 by omega) g1 g2 cv mr a8 a0 (o := c 0 7) (by omega) (by rw [← s3]; exact s1.2.1.1) (by
    rcases z3 with y | y
    · exact Or.inl y.1
    · exact Or.inr ⟨y.1, by omega, by omega, by omega⟩) ph hsh.1 ov (by omega) (XI_b hX) a6
  rw [b1] at e2
  have eL : uL cd (sd + 7000003) V c = (c 0 0 + 2, c 0 1, c 1, c 2, c 0 2, c 3) := by
    unfold uL
    rw [if_neg (fun y => by
      have z := shb_t.mp y
      unfold shd jnt at z
      omega)]
    unfold lop
    rcases z3 with y | y <;> (rw [y.1]; rfl)
  have eS : uS cd (sd + 7000003) V c = stl cd (c 2) 2000 (c 0 0 + 2) (c 0 1) (c 1) := by
    unfold uS
    rw [eL]
  obtain ⟨v1, v2, v3, v4⟩ := b2 _ eS
  have hXw := hX.1 w (by omega)
  have hx1 : XI X1 ∧ XR X X1 ∧ (∀ x, x < 4 → x ≠ w → xlen X1 x = xlen X x ∧ X1.1 x = X.1 x) ∧ X.2.2.1 ≤ X1.2.2.1 := by
    rcases b4 with y | ⟨y1, y2⟩
    · rw [y]
      exact ⟨hX, XR.rfl, fun _ _ _ => ⟨rfl, rfl⟩, Nat.le_refl _⟩
    · rw [y1]
      have q := XI_g hX (show w < 4 by omega) (by omega)
      exact ⟨q.1, q.2, fun x hx hn => xlen_o X hn (hX.1 x hx).1, Nat.le_succ _⟩
  have hout : ∀ a, a < 18 + 21 * w ∨ 39 + 21 * w ≤ a → a < 168 → I1 a = I a ∧ J1 a = J a := fun a x1 x2 => ⟨b5 a (by omega) (by omega) (by omega), b8 a (by omega) (by omega) (by omega) (by omega) (by omega) (by omega)⟩
  refine ⟨X1, I1, J1, e2, ⟨?_, hx1.1, fun x hx => ?_⟩, hx1.2.1, fun a x1 => ⟨b5 a (by omega) (by omega) (by omega), fun x2 => (hout a x1 x2).2⟩⟩
  · unfold MCg
    rw [(hout 14 (by omega) (by omega)).1, (hout 14 (by omega) (by omega)).2, (hout 102 (by omega) (by omega)).1, SL_20 (by omega)]
    exact ⟨m6, m8, m9, m10, m7, rowC_f2 mr (hout 15 (by omega) (by omega)).1 (hout 16 (by omega) (by omega)).1, md0, md1, md2⟩
  · by_cases hn : x = w
    · rw [hn]
      have ec : tr cd (sd + 7000003) V c0 (SL S w 0 w) = N4 cd (sd + 7000003) V c := by rw [SL_0, apn_s, tr_s, hc, nx4 hu]
      rw [ec]
      have fp : N4 cd (sd + 7000003) V c 0 8 = fp0 cd (N4 cd (sd + 7000003) V c 0 0) (c 0 7) := rfl
      have eJ : ∀ a, a < 168 → a ≠ 38 + 21 * w → a ≠ 20 + 21 * w → a ≠ 21 + 21 * w → a ≠ 22 + 21 * w → a ≠ 23 + 21 * w → J1 a = J a := fun a x0 x1 x2 x3 x4 x5 => b8 a (by omega) (by omega) x2 x3 x4 x5
      have e1 : N4 cd (sd + 7000003) V c 0 2 = c 0 2 := by
        show (uL cd (sd + 7000003) V c).2.2.2.2.1 = _
        rw [eL]
      have e3 : N4 cd (sd + 7000003) V c 3 = c 3 := by
        show (uL cd (sd + 7000003) V c).2.2.2.2.2 = _
        rw [eL]
      have e2' : N4 cd (sd + 7000003) V c 2 = c 2 := by
        show (uL cd (sd + 7000003) V c).2.2.2.1 = _
        rw [eL]
      refine ⟨MCa_n fp (by rw [SL_1]; exact f1) (by rw [SL_2]; exact f2) (by rw [SL_3]; exact f3) (by rw [b6 0 (by decide) (by decide) (by decide) (by decide)]; exact a0) b7 v2 v3 v4 (by rw [b6 11 (by decide) (by decide) (by decide) (by decide), a11, f2]) (by rw [b6 12 (by decide) (by decide) (by decide) (by decide), a12, f3]) (by rw [b6 13 (by decide) (by decide) (by decide) (by decide), a13, SL_5]), ?_, ⟨⟨s, CK_fr s1 (b5 _ (by omega) (by omega) (by omega)) (b5 _ (by omega) (by omega) (by omega)) (eJ _ (by omega) (by omega) (by omega) (by omega) (by omega) (by omega)), s2, s3⟩, ?_, ?_, ?_, ?_⟩, ⟨?_, ?_, ?_, ?_, ?_, ?_, ?_, ?_⟩, ⟨?_, ?_, ?_, ?_, ?_, ?_, ?_, ?_, ?_⟩, ?_⟩
      · rw [e1, e2', e3]
        exact v1
      · rw [b5 (25 + 21 * w) (by omega) (by omega) (by omega)]
        exact k5
      · rw [b5 (25 + 21 * w) (by omega) (by omega) (by omega), SL_8]
        exact k6
      · rw [SL_1, f1]
        exact fun y => absurd y (pas_n fp)
      · rw [b5 (25 + 21 * w) (by omega) (by omega) (by omega), b5 (28 + 21 * w) (by omega) (by omega) (by omega), SL_9]
        rcases k8 with y | ⟨y1, y2, y3⟩
        · exact Or.inl y
        · exact Or.inr ⟨y1, y2, fun j hj => by rw [SL_60 (by omega) (by omega)]; exact y3 j hj⟩
      · rw [b5 (29 + 21 * w) (by omega) (by omega) (by omega), SL_13]
        exact t2
      · rw [b5 (29 + 21 * w) (by omega) (by omega) (by omega), SL_1, t3, f1]
        rfl
      · rw [b5 (29 + 21 * w) (by omega) (by omega) (by omega), SL_14]
        exact t4
      · rw [b5 (29 + 21 * w) (by omega) (by omega) (by omega), SL_12]
        exact t5
      · rw [b5 (31 + 21 * w) (by omega) (by omega) (by omega), SL_10]
        exact u0
      · rw [b5 (31 + 21 * w) (by omega) (by omega) (by omega), SL_11]
        exact u1
      · rw [b5 (31 + 21 * w) (by omega) (by omega) (by omega)]
        exact u2
      · rw [SL_13, eJ (30 + 21 * w) (by omega) (by omega) (by omega) (by omega) (by omega) (by omega)]
        exact ui
      · rw [b5 (32 + 21 * w) (by omega) (by omega) (by omega), SL_6]
        exact o5
      · rw [b5 (32 + 21 * w) (by omega) (by omega) (by omega), SL_1, o6, f1]
        rfl
      · rw [b5 (32 + 21 * w) (by omega) (by omega) (by omega), SL_7]
        exact o7
      · rw [b5 (32 + 21 * w) (by omega) (by omega) (by omega), SL_4]
        exact o8
      · rw [b5 (33 + 21 * w) (by omega) (by omega) (by omega), SL_30 (by omega) (by omega)]
        exact o33
      · rw [b5 (34 + 21 * w) (by omega) (by omega) (by omega), SL_50 (by omega) (by omega)]
        exact o34
      · rw [b5 (35 + 21 * w) (by omega) (by omega) (by omega), SL_40 (by omega) (by omega)]
        exact o35
      · rw [b5 (36 + 21 * w) (by omega) (by omega) (by omega)]
        exact o36
      · rw [b5 (37 + 21 * w) (by omega) (by omega) (by omega)]
        exact o37
      · show OV X1 J1 w (c 0 3 + 1) (apn (c 4) (c 0 3) (if cd (c 0 0) = 15 then c 2 (cd (c 0 0 + 1)) else c 0 9))
        rcases z3 with y | y
        · rw [if_pos y.1] at b3 ⊢
          exact b3
        · rw [if_neg (by omega), hsh.2 y.1] at b3
          rw [if_neg (by omega)]
          exact b3
    · have q := hp x hx
      have e0 : SL S w 0 x = S 0 x := by rw [SL_0, apn_n _ _ hn]
      rw [e0]
      have r : ∀ a, 18 + 21 * x ≤ a → a < 39 + 21 * x → (a < 18 + 21 * w ∨ 39 + 21 * w ≤ a) ∧ a < 168 := fun a a1 a2 => by omega
      have xx := hX.1 x (by omega)
      have xd := hX.2.1 x w (by omega) (by omega) hn
      refine MCp_fr q (fun a a1 a2 => (hout a (r a a1 (by omega)).1 (r a a1 (by omega)).2).1) (fun a a1 a2 => (hout a (r a a1 (by omega)).1 (r a a1 (by omega)).2).2) (OV_fr q.2.2.2.2.2 (hx1.2.2.1 x (by omega) hn).2 (hx1.2.2.1 x (by omega) hn).1 hx1.2.2.2 (b8 _ xd xx.1 (by omega) (by omega) (by omega) (by omega))) (fun k hk => ?_) (fun j hj => ?_) (fun j hj => ?_) (fun j hj => ?_) (fun k => ?_) (fun _ j hj => ?_)
      · unfold SL
        by_cases y : k = 0
        · rw [y, sr_s, apn_n _ _ hn]
        · rw [sr_n _ _ y]
      · rw [SL_30 (by omega) (by omega)]
      · rw [SL_40 (by omega) (by omega)]
      · rw [SL_50 (by omega) (by omega)]
      · rw [SL_60 (by omega) (by omega)]
      · rw [SL_60 (by omega) (by omega)]
end CLS
