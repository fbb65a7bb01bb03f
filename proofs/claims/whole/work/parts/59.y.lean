/-! the run: sends, in the class, with all that is known -/
section CLS
variable {cd : Nat → Nat} {sd : Int64} {V c c' c0 : Nat → Nat → Nat} {P n B w : Nat} {st : Nat → Bool} {hg : Nat → Nat} {S S' : Nat → Nat → Nat} {X X1 : MX} {I I1 : MI} {J J1 : MJ}
/-- the coin that is drawn now is nobody's bound one -/
theorem SX_c {x j : Nat} (hx : j < 10) (hw : w < 10) {k : Nat} (h : uk cd c = 2 ∧ stv (c 0 8) = 0 → k ≠ c 0 5) : SX cd c S w (60 + j) k = S (60 + j) k := by
  by_cases y : j = w
  · rw [y, SX_w6]
    by_cases z : uk cd c = 2 ∧ stv (c 0 8) = 0
    · rw [if_pos z, apn_n _ _ (h z)]
    · rw [if_neg z]
  · rw [SX_60 hw hx y]
theorem OTH_X (hP : P ≤ 4) (hw : w < P) (hco : uk cd c = 2 ∧ stv (c 0 8) = 0 → ∀ x, x < P → S 9 x ≠ 0 → S 9 x - 1 ≠ c 0 5) : OTH P w S (SX cd c S w) := fun x hx hn => ⟨fun k hk => by
    rcases (show k = 0 ∨ k = 1 ∨ k = 2 ∨ k = 3 ∨ k = 4 ∨ k = 5 ∨ k = 6 ∨ k = 7 ∨ k = 8 ∨ k = 9 ∨ k = 10 ∨ k = 11 ∨ k = 12 ∨ k = 13 ∨ k = 14 by omega) with e | e | e | e | e | e | e | e | e | e | e | e | e | e | e <;> rw [e]
    · rw [SX_0]
    · rw [SX_1, apn_n _ _ hn]
    · rw [SX_2]
    · rw [SX_3]
    · rw [SX_4]
    · rw [SX_5]
    · rw [SX_6, apn_n _ _ hn]
    · rw [SX_7]
    · rw [SX_8, apn_n _ _ hn]
    · rw [SX_9]
    · rw [SX_10, apn_n _ _ hn]
    · rw [SX_11, apn_n _ _ hn]
    · rw [SX_12, apn_n _ _ hn]
    · rw [SX_13]
    · rw [SX_14], fun j hj => by rw [SX_30 (by omega) (by omega) hn], fun j hj => by rw [SX_40 (by omega) (by omega)], fun j hj => by rw [SX_50 (by omega) (by omega)], fun k => by rw [SX_60 (by omega) (by omega) hn], fun y j hj => SX_c (x := x) (by omega) (by omega) (fun z => hco z x hx y)⟩
theorem CSND (hP : P ≤ 4) (hw : w < P) (hM : MC cd n P B sd V c0 S X I J) (hc : tr cd (sd + 7000003) V c0 (S 0 w) = c) (f1 : S 1 w = 0) (hco : uk cd c = 2 ∧ stv (c 0 8) = 0 → ∀ x, x < P → S 9 x ≠ 0 → S 9 x - 1 ≠ c 0 5)
    (eI : ∀ a, a ≠ 18 + 21 * w → a ≠ 25 + 21 * w → a ≠ 29 + 21 * w → a ≠ 31 + 21 * w → a ≠ 32 + 21 * w → a ≠ 33 + 21 * w → I1 a = I a)
    (e18 : ∀ j, j ≠ 9 → I1 (18 + 21 * w) j = I (18 + 21 * w) j) (e9 : I1 (18 + 21 * w) 9 = nI (cph cd c 1 w))
    (e32 : ∀ j, j ≠ 5 → j ≠ 6 → I1 (32 + 21 * w) j = I (32 + 21 * w) j) (e5 : I1 (32 + 21 * w) 5 = I (32 + 21 * w) 5 + 1) (e6 : I1 (32 + 21 * w) 6 = nI (psv cd c 1 w))
    (e33 : ∀ j, j < P → I1 (33 + 21 * w) j = nI (if j = w then S (30 + w) j else S (30 + w) j + 1))
    (e310 : I1 (31 + 21 * w) 0 = nI (S 10 w + u10 (cd (c 0 0)))) (e311 : I1 (31 + 21 * w) 1 = nI (S 11 w + u11 (cd (c 0 0)))) (e312 : I1 (31 + 21 * w) 2 = I (31 + 21 * w) 2)
    (e292 : I1 (29 + 21 * w) 2 = I (29 + 21 * w) 2) (e294 : I1 (29 + 21 * w) 4 = I (29 + 21 * w) 4) (e293 : I1 (29 + 21 * w) 3 = nI (usv cd c 1 w)) (e295 : I1 (29 + 21 * w) 5 = nI (S 12 w + u12 (cd (c 0 0))))
    (e25 : ∀ j, j ≠ 6 → j ≠ 7 → I1 (25 + 21 * w) j = I (25 + 21 * w) j) (e256 : I1 (25 + 21 * w) 6 = nI (S 8 w + u8 cd c)) (e257 : uk cd c = 2 → I1 (25 + 21 * w) 7 = if stv (c 0 8) = 0 then I (25 + 21 * w) 6 else I (25 + 21 * w) 7) :
    MC cd n P B sd V c0 (SX cd c S w) X I1 J ∧ CF w I I1 J J := by
  obtain ⟨hG0, hX, hp⟩ := hM
  have hpw := hp w hw
  rw [hc] at hpw
  obtain ⟨⟨a0, a6, a8, a9, a10, a11, a12, a13, a14⟩, cv, ⟨⟨s, s1, s2, s3⟩, k5, k6, k7, k8⟩, ⟨t2, t3, t4, t5, u0, u1, u2, ui⟩, ⟨o5, o6, o7, o8, o33, o34, o35, o36, o37⟩, ov⟩ := hpw
  have hf : CF w I I1 J J := ⟨fun a b1 b2 b3 => eI a (by omega) (by omega) (by omega) (by omega) (by omega) (by omega), fun a b1 b2 => rfl⟩
  refine ⟨MC_st ⟨hG0, hX, hp⟩ hP hw hf (OTH_X hP hw hco) (by rw [SX_20 (by omega), apn_n _ _ (by decide)]) (by rw [SX_20 (by omega), apn_n _ _ (by decide)]) (by rw [SX_20 (by omega), apn_n _ _ (by decide)]) (by rw [SX_20 (by omega), apn_n _ _ (by decide)]) ?_, hf⟩
  rw [SX_0, hc]
  refine ⟨⟨?_, ?_, ?_, ?_, ?_, ?_, ?_, ?_, a14⟩, CV_fr cv (eI _ (by omega) (by omega) (by omega) (by omega) (by omega) (by omega)) (eI _ (by omega) (by omega) (by omega) (by omega) (by omega) (by omega)) rfl rfl rfl rfl, ⟨⟨s, ?_, s2, s3⟩, ?_, ?_, ?_, ?_⟩, ⟨?_, ?_, ?_, ?_, ?_, ?_, ?_, ?_⟩, ⟨?_, ?_, ?_, ?_, ?_, ?_, ?_, ?_, ?_⟩, ov⟩
  · rw [e18 0 (by decide)]
    exact a0
  · rw [e18 6 (by decide)]
    exact a6
  · rw [e18 8 (by decide)]
    exact a8
  · rw [e9, SX_1, apn_s]
  · rw [e18 10 (by decide), SX_2, SX_3]
    exact a10
  · rw [e18 11 (by decide), SX_2]
    exact a11
  · rw [e18 12 (by decide), SX_3]
    exact a12
  · rw [e18 13 (by decide), SX_5]
    exact a13
  · unfold CK at s1 ⊢
    rw [e25 3 (by decide) (by decide), e25 4 (by decide) (by decide), eI (26 + 21 * w) (by omega) (by omega) (by omega) (by omega) (by omega) (by omega)]
    exact s1
  · rw [e25 5 (by decide) (by decide)]
    exact k5
  · rw [e256, SX_8, apn_s]
  · rw [SX_1, apn_s]
    intro y
    rw [e257 y.1, SX_w6]
    by_cases z : stv (c 0 8) = 0
    · rw [if_pos z, if_pos ⟨y.1, z⟩, apn_s, k6]
    · rw [if_neg z, if_neg (fun q => z q.2)]
      exact k7 ⟨y.1, Or.inl (by omega)⟩
  · rw [e25 8 (by decide) (by decide), eI (28 + 21 * w) (by omega) (by omega) (by omega) (by omega) (by omega) (by omega), SX_9]
    rcases k8 with y | ⟨y1, y2, y3⟩
    · exact Or.inl y
    · exact Or.inr ⟨y1, y2, fun j hj => by rw [SX_c (x := w) (by omega) (by omega) (fun z => hco z w hw y1)]; exact y3 j hj⟩
  · rw [e292, SX_13]
    exact t2
  · rw [e293, SX_1, apn_s]
  · rw [e294, SX_14]
    exact t4
  · rw [e295, SX_12, apn_s]
  · rw [e310, SX_10, apn_s]
  · rw [e311, SX_11, apn_s]
  · rw [e312]
    exact u2
  · rw [SX_13]
    exact ui
  · rw [e5, o5, nI_1, SX_6, apn_s]
  · rw [e6, SX_1, apn_s]
  · rw [e32 7 (by decide) (by decide), SX_7]
    exact o7
  · rw [e32 8 (by decide) (by decide), SX_4]
    exact o8
  · rw [SX_w3 (by omega)]
    exact e33
  · rw [eI (34 + 21 * w) (by omega) (by omega) (by omega) (by omega) (by omega) (by omega), SX_50 (by omega) (by omega)]
    exact o34
  · rw [eI (35 + 21 * w) (by omega) (by omega) (by omega) (by omega) (by omega) (by omega), SX_40 (by omega) (by omega)]
    exact o35
  · rw [eI (36 + 21 * w) (by omega) (by omega) (by omega) (by omega) (by omega) (by omega)]
    exact o36
  · rw [eI (37 + 21 * w) (by omega) (by omega) (by omega) (by omega) (by omega) (by omega)]
    exact o37
/-- full wires -/
def blk (P B : Nat) (S : Nat → Nat → Nat) (w : Nat) : Bool := anyb (fun j => decide (B ≤ S (30 + w) j)) P 0
theorem CA1s (hW : WFc cd n P st hg) (hP : P ≤ 4) (hB : B ≤ 4) (hw : w < P) (hM : MC cd n P B sd V c0 S X I J) (hc : tr cd (sd + 7000003) V c0 (S 0 w) = c) (hG : GD cd st hg c) (hb : BND (cd := cd) c) (f1 : S 1 w = 0) (f3 : S 3 w = 0) (hu : uk cd c = 1) (hsn : snb cd c w = true) (hd : S 10 w ≤ S 20 2 ∧ S 11 w ≤ S 20 3 ∧ c 0 6 ≤ S 20 4) (hd2 : S 20 2 ≤ 200 ∧ S 20 3 ≤ 200 ∧ S 20 4 ≤ 200) (hus : usv cd c (S 1 w) w ≤ S 13 w ∧ S 13 w ≤ 100) (hmt : S 12 w ≤ S 14 w ∧ S 14 w ≤ 200) (hwr : ∀ j, j < P → S (30 + w) j < 2 ^ 31) (hlk : lkS cd c S w = 0) : (blk P B S w = true ∧ f_Hall_act w X I J = some (0, X, I, J)) ∨ (blk P B S w = false ∧ ∃ I1, f_Hall_act w X I J = some (1, X, I1, J) ∧ MC cd n P B sd V c0 (SX cd c S w) X I1 J ∧ CF w I I1 J J) := by
  letI := jdec cd (c 0 0)
  letI := sdec cd (c 0 0)
  have hM' := hM
  obtain ⟨g1, g2, g3, g4⟩ := hG
  obtain ⟨hG0, hX, hp⟩ := hM
  have hpw := hp w hw
  rw [hc] at hpw
  obtain ⟨⟨a0, a6, a8, a9, a10, a11, a12, a13, a14⟩, cv, ⟨⟨s, s1, s2, s3⟩, k5, k6, k7, k8⟩, ⟨t2, t3, t4, t5, u0, u1, u2, ui⟩, ⟨o5, o6, o7, o8, o33, o34, o35, o36, o37⟩, ov⟩ := hpw
  obtain ⟨m6, m8, m9, m10, m7, mr, md0, md1, md2⟩ := hG0
  have sdw := snb_sdf hsn
  have gvr : cd (c 0 0) = 13 → cd (c 0 0 + 2) = w := fun e => by
    unfold sdf at sdw
    rw [if_pos e] at sdw
    exact (of_decide_eq_true sdw).symm
  rcases UK cd c with ⟨u, -⟩ | ⟨u, q1, q2, q3⟩ | ⟨u, -⟩ | ⟨u, -⟩ | ⟨u, -⟩
  · omega
  · have sg : c 0 8 = 0 := by
      have := hb.2.2.2.2.2
      unfold SGV at this
      omega
    have wf := WF_h hW g1
    have cph1 : ∀ f, cph cd c f w = f := fun f => by
      unfold cph
      by_cases e : cd (c 0 0) = 13
      · rw [if_pos e, if_pos (gvr e)]
      · rw [if_neg e, sg]
        omega
    have ph : I (18 + 21 * w) 9 = nI 0 := by rw [a9, f1, cph1]
    have nm := hW.2.1
    have L := fun {α : Type} {F : Int32 → MI → MJ → Option α} => LCKC (α := α) (F := F) hW g1 g2 cv mr a8 gvr ⟨md0, md1, md2⟩ ⟨u0, u1, u2⟩ ⟨hd.1, hd.2.1, hd.2.2, by omega, by omega, by omega⟩ ⟨t2, t3, hus.1, by omega⟩ ⟨t4, t5, hmt.1, by omega⟩
    have hlk' : lck cd (c 0 0) w (c 0 1) (c 1) (c 0 2) (S 20 2) (S 20 3) (S 20 4) (S 10 w) (S 11 w) (c 0 6) (S 13 w) (usv cd c (S 1 w) w) (S 14 w) (S 12 w) = 0 := hlk
    rw [hlk'] at L
    obtain ⟨A, e1, e2⟩ := ACC0 (X := X) nm mr a8 wf.2.1 wf.2.2.1 wf.1 q1 q2 ph (by decide) L
    rw [upid (by rw [a12, f3])] at e1
    subst e1
    rw [if_pos rfl, if_pos q3] at e2
    rcases EXSC (J := J) (show w < 4 by omega) hP hB q3 wf.2.1 ph a0 m6 m8 (fun j hj => ⟨hwr j hj, o33 j hj⟩) with ⟨b1, b2⟩ | ⟨b1, I1, b2, b3, b4, b5, b6, b7, b8, b9, b10, b11⟩
    · rw [b2] at e2
      exact Or.inl ⟨b1, e2⟩
    · rw [b2] at e2
      refine Or.inr ⟨b1, I1, e2, CSND hP hw hM' hc f1 (fun y => by omega) (fun a x1 x2 x3 x4 x5 x6 => b3 a x1 x3 x4 x5 x6) b4 (by rw [b5, cph1]) b6 b7 ?_ b9 ?_ ?_ ?_ ?_ ?_ ?_ ?_ ?_ ?_ (fun y => by omega)⟩
      · rw [b8, o6, nI_1, f1]
        unfold psv
        rw [if_neg (show ¬ (0 = 1 ∧ evb cd c = true) from fun y => absurd y.1 (by decide)), if_pos ⟨rfl, evb1 hu⟩]
      · rw [b10]
        unfold u10
        by_cases y : cd (c 0 0) = 7
        · rw [if_pos ⟨rfl, y⟩, if_pos y, u0, nI_1]
        · rw [if_neg (fun z => y z.2), if_neg (fun z => absurd z.1 (by decide)), if_neg y]
          by_cases z : cd (c 0 0) = 25 ∨ cd (c 0 0) = 26
          · rw [if_pos ⟨rfl, z⟩, if_pos z, u0]
            exact nI_add _ _
          · rw [if_neg (fun t => z t.2), if_neg z]
            exact u0
      · rw [b10]
        unfold u11
        rw [if_neg (fun z => absurd z.1 (by decide))]
        by_cases y : cd (c 0 0) = 10
        · rw [if_pos ⟨rfl, y⟩, if_pos y, u1, nI_1]
        · rw [if_neg (fun z => y z.2), if_neg (fun z => absurd z.1 (by decide)), if_neg y]
          exact u1
      · rw [b10, if_neg (fun z => absurd z.1 (by decide)), if_neg (fun z => absurd z.1 (by decide)), if_neg (fun z => absurd z.1 (by decide))]
      · rw [b11, if_neg (fun z => absurd z.1 (by decide))]
      · rw [b11, if_neg (fun z => absurd z.1 (by decide))]
      · rw [b11]
        unfold usv
        by_cases y : cd (c 0 0) = 13
        · rw [if_pos ⟨Or.inl rfl, y⟩, if_pos ⟨rfl, y⟩, t3, nI_1, f1]
          unfold usv
          rw [if_neg (by omega)]
        · rw [if_neg (fun z => y z.2), if_neg (fun z => y z.2), t3, f1]
          rfl
      · rw [b11]
        unfold u12
        by_cases y : cd (c 0 0) = 13
        · rw [if_pos ⟨Or.inr rfl, y⟩, if_pos y, t5, nI_1]
        · rw [if_neg (fun z => y z.2), if_neg y]
          exact t5
      · intro j x1 x2
        rw [b3 (25 + 21 * w) (by omega) (by omega) (by omega) (by omega) (by omega)]
      · rw [b3 (25 + 21 * w) (by omega) (by omega) (by omega) (by omega) (by omega), k6]
        unfold u8
        rw [if_neg (by omega)]
        rfl
  · omega
  · omega
  · omega
theorem u10_0 {x : Nat} (h : x = 15 ∨ x = 16) : u10 x = 0 ∧ u11 x = 0 ∧ u12 x = 0 := by
  rcases h with h | h <;> (rw [h]; exact ⟨rfl, rfl, rfl⟩)
theorem usv_0 {f : Nat} (h : cd (c 0 0) ≠ 13) : usv cd c f w = c 8 w := by
  unfold usv
  rw [if_neg (fun z => h z.2)]
  rfl
theorem stv_S (hb : SGV (cd (c 0 0)) (c 0 8)) (hu : uk cd c = 2) : STG (c 0 8) (stv (c 0 8)) ∧ stv (c 0 8) % 2 = 0 ∧ (cd (c 0 0) = 15 ∨ cd (c 0 0) = 16) ∧ (c 0 8 < 8 ∨ (cd (c 0 0) = 16 ∧ 10 ≤ c 0 8 ∧ c 0 8 < 18)) ∧ (stv (c 0 8) = 6 ↔ (c 0 8 = 6 ∨ c 0 8 = 16)) := by
  obtain ⟨s, x1, x2, x3, x4⟩ := UK2 hb hu
  have u := UK cd c
  have e : stv (c 0 8) = s := by
    unfold stv
    rcases x3 with y | y
    · rw [if_pos (by omega)]
      exact y
    · rw [if_neg (by omega), if_pos (by omega)]
      omega
  rw [e]
  exact ⟨⟨x1, by omega⟩, x2, by omega, by omega, x4⟩
theorem CA2s (hW : WFc cd n P st hg) (hP : P ≤ 4) (hB : B ≤ 4) (hw : w < P) (hM : MC cd n P B sd V c0 S X I J) (hc : tr cd (sd + 7000003) V c0 (S 0 w) = c) (hG : GD cd st hg c) (hb : BND (cd := cd) c) (f1 : S 1 w = 0) (hu : uk cd c = 2) (hwr : ∀ j, j < P → S (30 + w) j < 2 ^ 31) (hco : uk cd c = 2 ∧ stv (c 0 8) = 0 → ∀ x, x < P → S 9 x ≠ 0 → S 9 x - 1 ≠ c 0 5) : (blk P B S w = true ∧ f_Hall_act w X I J = some (0, X, I, J)) ∨ (blk P B S w = false ∧ ∃ I1, f_Hall_act w X I J = some (1, X, I1, J) ∧ MC cd n P B sd V c0 (SX cd c S w) X I1 J ∧ CF w I I1 J J) := by
  have hM' := hM
  obtain ⟨g1, g2, g3, g4⟩ := hG
  obtain ⟨hG0, hX, hp⟩ := hM
  have hpw := hp w hw
  rw [hc] at hpw
  obtain ⟨⟨a0, a6, a8, a9, a10, a11, a12, a13, a14⟩, cv, ⟨⟨s, s1, s2, s3⟩, k5, k6, k7, k8⟩, ⟨t2, t3, t4, t5, u0, u1, u2, ui⟩, ⟨o5, o6, o7, o8, o33, o34, o35, o36, o37⟩, ov⟩ := hpw
  obtain ⟨m6, m8, m9, m10, m7, mr, md0, md1, md2⟩ := hG0
  obtain ⟨z1, z2, z3, z4, z5⟩ := stv_S hb.2.2.2.2.2 hu
  have wf := WF_h hW g1
  have nm := hW.2.1
  have cph1 : ∀ f, cph cd c f w = c 0 8 + f := fun f => by
    unfold cph
    rw [if_neg (by omega)]
  have ph : I (18 + 21 * w) 9 = nI (c 0 8) := by
    rw [a9, f1, cph1]
    rfl
  have e2 := ACCO (X := X) (J := J) nm mr a8 wf.1 z3 ph (by omega)
  rw [if_pos z4] at e2
  obtain ⟨ua, ub, uc⟩ := u10_0 z3
  have n13 : cd (c 0 0) ≠ 13 := by omega
  rcases CHSC (J := J) hP hB (show w < 4 by omega) m6 m8 a0 (fun j hj => ⟨hwr j hj, o33 j hj⟩) ph z1 z2 with ⟨b1, b2⟩ | ⟨b1, I1, b2, b3, b4, b5, b6, b7, b8, b9, b10, b11⟩
  · rw [b2] at e2
    exact Or.inl ⟨b1, e2⟩
  · rw [b2] at e2
    have fr : ∀ a, a ≠ 18 + 21 * w → a ≠ 25 + 21 * w → a ≠ 32 + 21 * w → a ≠ 33 + 21 * w → I1 a = I a := fun a x1 x2 x3 x4 => b3 a x4 x3 x1 x2
    refine Or.inr ⟨b1, I1, e2, CSND hP hw hM' hc f1 hco (fun a x1 x2 x3 x4 x5 x6 => b3 a x6 x5 x1 x2) b7 (by rw [b8, cph1]) (fun j x1 x2 => b4 j x1) b5 ?_ b6 ?_ ?_ ?_ ?_ ?_ ?_ ?_ b9 ?_ (fun _ => b10)⟩
    · rw [b4 6 (by decide), o6, f1]
      unfold psv evb
      rw [if_neg (by omega), if_neg (fun y => by have := of_decide_eq_true y.2; omega)]
    · rw [fr (31 + 21 * w) (by omega) (by omega) (by omega) (by omega), ua]
      exact u0
    · rw [fr (31 + 21 * w) (by omega) (by omega) (by omega) (by omega), ub]
      exact u1
    · rw [fr (31 + 21 * w) (by omega) (by omega) (by omega) (by omega)]
    · rw [fr (29 + 21 * w) (by omega) (by omega) (by omega) (by omega)]
    · rw [fr (29 + 21 * w) (by omega) (by omega) (by omega) (by omega)]
    · rw [fr (29 + 21 * w) (by omega) (by omega) (by omega) (by omega), t3, usv_0 n13, usv_0 n13]
    · rw [fr (29 + 21 * w) (by omega) (by omega) (by omega) (by omega), uc]
      exact t5
    · rw [b11]
      unfold u8
      rw [if_pos hu, k6]
      by_cases y : stv (c 0 8) = 0
      · rw [if_pos y, if_pos y]
        exact nI_add _ _
      · rw [if_neg y, if_neg y]
        by_cases x : stv (c 0 8) = 4
        · rw [if_pos x, if_pos x, nI_1]
        · rw [if_neg x, if_neg x]
          rfl
theorem CA3s (hW : WFc cd n P st hg) (hP : P ≤ 4) (hB : B ≤ 4) (hw : w < P) (hM : MC cd n P B sd V c0 S X I J) (hc : tr cd (sd + 7000003) V c0 (S 0 w) = c) (hG : GD cd st hg c) (f1 : S 1 w = 0) (hu : uk cd c = 3) (hwr : ∀ j, j < P → S (30 + w) j < 2 ^ 31) : (blk P B S w = true ∧ f_Hall_act w X I J = some (0, X, I, J)) ∨ (blk P B S w = false ∧ ∃ I1, f_Hall_act w X I J = some (1, X, I1, J) ∧ MC cd n P B sd V c0 (SX cd c S w) X I1 J ∧ CF w I I1 J J) := by
  have hM' := hM
  obtain ⟨g1, g2, g3, g4⟩ := hG
  obtain ⟨hG0, hX, hp⟩ := hM
  have hpw := hp w hw
  rw [hc] at hpw
  obtain ⟨⟨a0, a6, a8, a9, a10, a11, a12, a13, a14⟩, cv, ⟨⟨s, s1, s2, s3⟩, k5, k6, k7, k8⟩, ⟨t2, t3, t4, t5, u0, u1, u2, ui⟩, ⟨o5, o6, o7, o8, o33, o34, o35, o36, o37⟩, ov⟩ := hpw
  obtain ⟨m6, m8, m9, m10, m7, mr, md0, md1, md2⟩ := hG0
  have z3 : cd (c 0 0) = 16 ∧ c 0 8 = 8 := by
    have u := UK cd c
    omega
  have wf := WF_h hW g1
  have nm := hW.2.1
  have cph1 : ∀ f, cph cd c f w = 8 + f := fun f => by
    unfold cph
    rw [if_neg (by omega), z3.2]
  have ph : I (18 + 21 * w) 9 = nI 8 := by rw [a9, f1, cph1]
  have e2 := ACCO (X := X) (J := J) nm mr a8 wf.1 (Or.inr z3.1) ph (by omega)
  rw [if_neg (by omega), z3.1] at e2
  obtain ⟨ua, ub, uc⟩ := u10_0 (Or.inr z3.1)
  have n13 : cd (c 0 0) ≠ 13 := by omega
  have lp : c 0 0 + 1 < n := by
    have := wf.2.2.1
    rw [z3.1, show opl 16 = 2 from rfl] at this
    omega
  rcases SHS (X := X) (J := J) hP hB (show w < 4 by omega) mr nm lp a8 m6 m8 a0 (fun j hj => ⟨hwr j hj, o33 j hj⟩) ph with ⟨b1, b2⟩ | ⟨b1, I1, b2, b3, b4, b5, b6, b7, b8, b9⟩
  · rw [b2] at e2
    exact Or.inl ⟨b1, e2⟩
  · rw [b2] at e2
    have fr : ∀ a, a ≠ 18 + 21 * w → a ≠ 32 + 21 * w → a ≠ 33 + 21 * w → I1 a = I a := fun a x1 x3 x4 => b3 a x4 x3 x1
    refine Or.inr ⟨b1, I1, e2, CSND hP hw hM' hc f1 (fun y => by omega) (fun a x1 x2 x3 x4 x5 x6 => b3 a x6 x5 x1) b8 (by rw [b9, cph1]) b4 b5 ?_ b7 ?_ ?_ ?_ ?_ ?_ ?_ ?_ ?_ ?_ (fun y => by omega)⟩
    · rw [b6, o6, nI_1, f1]
      unfold psv
      rw [if_neg (show ¬ (0 = 1 ∧ evb cd c = true) from fun y => absurd y.1 (by decide)), if_pos ⟨rfl, evb3 hu⟩]
    · rw [fr (31 + 21 * w) (by omega) (by omega) (by omega), ua]
      exact u0
    · rw [fr (31 + 21 * w) (by omega) (by omega) (by omega), ub]
      exact u1
    · rw [fr (31 + 21 * w) (by omega) (by omega) (by omega)]
    · rw [fr (29 + 21 * w) (by omega) (by omega) (by omega)]
    · rw [fr (29 + 21 * w) (by omega) (by omega) (by omega)]
    · rw [fr (29 + 21 * w) (by omega) (by omega) (by omega), t3, usv_0 n13, usv_0 n13]
    · rw [fr (29 + 21 * w) (by omega) (by omega) (by omega), uc]
      exact t5
    · intro j x1 x2
      rw [fr (25 + 21 * w) (by omega) (by omega) (by omega)]
    · rw [fr (25 + 21 * w) (by omega) (by omega) (by omega), k6]
      unfold u8
      rw [if_neg (by omega)]
      rfl
end CLS
