/-! the run: sends, in the reference, with all that is known -/
section REF
variable {cd : Nat → Nat} {sd bs : Int64} {V c c' c0 : Nat → Nat → Nat} {P n B w : Nat} {st : Nat → Bool} {hg : Nat → Nat} {S S' : Nat → Nat → Nat} {I I1 : MI} {J J1 : MJ}
/-- one who stands settled -/
theorem MRa_s (hG : GD cd st hg c) (hv : RV I J w (c 0 1) (c 1) (c 2) (c 0 2) (c 3)) (hp : I 127 w = nI (c 0 0)) : MRa cd st hg c I J w := ⟨c 0 0, c 0 1, c 1, hG.1, hG.2.1, hv, hp, stl_no hG.2.2.1 2000⟩
theorem RSND (hP : P ≤ 4) (hw : w < P) (hM : MM cd st hg n P B sd V c0 S I J) (hc : tr cd (sd + 7000003) V c0 (S 0 w) = c) (hG : GD cd st hg c) (f1 : S 1 w = 0) (hco : uk cd c = 2 ∧ stv (c 0 8) = 0 → ∀ x, x < P → S 9 x ≠ 0 → S 9 x - 1 ≠ c 0 5) (hv : RV I J w (c 0 1) (c 1) (c 2) (c 0 2) (c 3)) (hp7 : I 127 w = nI (c 0 0))
    (eI : ∀ a, a ≠ 112 → a ≠ 118 → a ≠ 119 → a ≠ 121 → a ≠ 122 → a ≠ 126 → a ≠ 128 → a ≠ 130 → a ≠ 131 → a ≠ 148 → a ≠ 151 → a ≠ 153 → a ≠ 160 → a ≠ 161 → I1 a = I a)
    (e112 : ∀ j, j ≠ 60 → I1 112 j = I 112 j) (e60 : I1 112 60 = nI (SX cd c S w 20 1))
    (eo : ∀ x, x ≠ w → I1 118 x = I 118 x ∧ I1 119 x = I 119 x ∧ I1 121 x = I 121 x ∧ I1 122 x = I 122 x ∧ I1 126 x = I 126 x ∧ I1 128 x = I 128 x ∧ I1 130 x = I 130 x ∧ I1 131 x = I 131 x)
    (e128 : I1 128 w = nI (c 0 8 + 1)) (e130 : I1 130 w = I 130 w + 1) (e131 : I1 131 w = nI (psv cd c 1 w)) (e118 : I1 118 w = nI (S 8 w + u8 cd c)) (e121 : I1 121 w = nI (S 10 w + u10 (cd (c 0 0)))) (e122 : I1 122 w = nI (S 11 w + u11 (cd (c 0 0)))) (e126 : I1 126 w = nI (usv cd c 1 w)) (e119 : I1 119 w = nI (S 14 w - (S 12 w + u12 (cd (c 0 0)))))
    (e148 : ∀ j, j < P → I1 148 (4 * w + j) = nI (if j = w then S (30 + w) j else S (30 + w) j + 1)) (e148' : ∀ q, q < 4 * w ∨ 4 * w + 4 ≤ q → I1 148 q = I 148 q)
    (eJ : ∀ a, a ≠ 152 → a ≠ 154 → a ≠ 155 → J1 a = J a) (he : MRe cd (sd + 7000003) V c0 P (SX cd c S w) I1 J1) (hk : MRk cd sd V c0 P (SX cd c S w) J1) :
    MM cd st hg n P B sd V c0 (SX cd c S w) I1 J1 ∧ RT I I1 J J1 ∧ I1 137 = I 137 := by
  have hM' := hM
  obtain ⟨⟨m16, m17, m34, m35, m60, m24, m26, m28, m114, mk, mb, mo⟩, hE, hK, hp⟩ := hM
  have hpw := hp w hw
  rw [hc] at hpw
  obtain ⟨-, pb, ⟨r129, r130, r131, r132, r133, r134, r135, r136, r137, r138, r139, r142, r118, r121, r122, r123, r125, r126, r119, r120⟩, ⟨d1, d2, d3, d4, d5⟩, po⟩ := hpw
  have g' : ∀ a, (a < 112 ∨ 112 < a) ∧ (a < 118 ∨ 119 < a) ∧ (a < 121 ∨ 122 < a) ∧ (a < 126 ∨ 126 < a) ∧ (a < 128 ∨ 128 < a) ∧ (a < 130 ∨ 131 < a) ∧ (a < 148 ∨ 148 < a) ∧ (a < 151 ∨ 151 < a) ∧ (a < 153 ∨ 153 < a) ∧ (a < 160 ∨ 161 < a) → I1 a = I a := fun a h => eI a (by omega) (by omega) (by omega) (by omega) (by omega) (by omega) (by omega) (by omega) (by omega) (by omega) (by omega) (by omega) (by omega) (by omega)
  have hf : RF w I I1 J J1 := by
    refine ⟨fun x hx hn => ⟨fun a a1 a2 a3 => ?_, fun i _ _ => by rw [g' 140 (by decide)], fun i _ _ => by rw [eJ 143 (by decide) (by decide) (by decide)], fun i _ _ => by rw [eJ 144 (by decide) (by decide) (by decide)], by rw [eJ 146 (by decide) (by decide) (by decide)], eJ 124 (by decide) (by decide) (by decide), fun j hj => ⟨e148' _ (by omega), by rw [g' 149 (by decide)], by rw [g' 150 (by decide)]⟩⟩, g' 114 (by decide), fun j j1 _ => e112 j j1, eJ 112 (by decide) (by decide) (by decide), eJ 117 (by decide) (by decide) (by decide)⟩
    have q := eo x hn
    by_cases y1 : a = 118
    · rw [y1]
      exact q.1
    by_cases y2 : a = 119
    · rw [y2]
      exact q.2.1
    by_cases y3 : a = 121
    · rw [y3]
      exact q.2.2.1
    by_cases y4 : a = 122
    · rw [y4]
      exact q.2.2.2.1
    by_cases y5 : a = 126
    · rw [y5]
      exact q.2.2.2.2.1
    by_cases y6 : a = 128
    · rw [y6]
      exact q.2.2.2.2.2.1
    by_cases y7 : a = 130
    · rw [y7]
      exact q.2.2.2.2.2.2.1
    by_cases y8 : a = 131
    · rw [y8]
      exact q.2.2.2.2.2.2.2
    rw [eI a (by omega) y1 y2 y3 y4 y5 y6 y7 y8 (by omega) (by omega) (by omega) (by omega) (by omega)]
  have hlook : RT I I1 J J1 := ⟨fun a a1 a2 a3 a4 => eI a a2 (by omega) (by omega) (by omega) (by omega) (by omega) (by omega) (by omega) (by omega) (by omega) (by omega) (by omega) a3 a4, fun j j1 _ => e112 j j1, fun a a1 => eJ a (by omega) (by omega) (by omega)⟩
  refine ⟨MR_st hM' hP hw hf (OTH_X hP hw hco) e60 (by rw [SX_20 (by omega), apn_n _ _ (by decide)]) (by rw [SX_20 (by omega), apn_n _ _ (by decide)]) (by rw [SX_20 (by omega), apn_n _ _ (by decide)]) (by rw [SX_20 (by omega), apn_n _ _ (by decide)]) he hk (fun x hx hn => ?_) ?_, hlook, g' 137 (by decide)⟩
  · unfold MRo
    rw [eJ 147 (by decide) (by decide) (by decide)]
    exact (hp x hx).2.2.2.2
  · rw [SX_0, hc]
    refine ⟨MRa_s hG (RV_eq hv (by rw [g' 145 (by decide)]) (by rw [g' 141 (by decide)]) (g' 140 (by decide)) (eJ 143 (by decide) (by decide) (by decide)) (eJ 144 (by decide) (by decide) (by decide))) (by rw [g' 127 (by decide)]; exact hp7), Or.inl (by rw [SX_1, apn_s]; exact e128), ⟨?_, ?_, ?_, ?_, ?_, ?_, ?_, ?_, ?_, ?_, ?_, ?_, ?_, ?_, ?_, ?_, ?_, ?_, ?_, ?_⟩, ⟨?_, ?_, ?_, ?_, ?_⟩, ?_⟩
    · rw [g' 129 (by decide), SX_5]
      exact r129
    · rw [e130, r130, nI_1, SX_6, apn_s]
    · rw [e131, SX_1, apn_s]
    · rw [g' 132 (by decide), SX_7]
      exact r132
    · rw [g' 133 (by decide)]
      exact r133
    · rw [g' 134 (by decide)]
      exact r134
    · rw [g' 135 (by decide)]
      exact r135
    · rw [g' 136 (by decide)]
      exact r136
    · rw [g' 137 (by decide), SX_2]
      exact r137
    · rw [g' 138 (by decide), SX_3]
      exact r138
    · rw [g' 139 (by decide), SX_4, SX_2, SX_3]
      exact r139
    · rw [g' 142 (by decide), SX_9]
      exact r142
    · rw [e118, SX_8, apn_s]
    · rw [e121, SX_10, apn_s]
    · rw [e122, SX_11, apn_s]
    · rw [g' 123 (by decide)]
      exact r123
    · rw [g' 125 (by decide), SX_13]
      exact r125
    · rw [e126, SX_1, apn_s]
    · rw [e119, SX_14, SX_12, apn_s]
    · rw [g' 120 (by decide), SX_14]
      exact r120
    · rw [eJ 146 (by decide) (by decide) (by decide)]
      exact d1
    · rw [SX_13, eJ 124 (by decide) (by decide) (by decide)]
      exact d2
    · rw [SX_w3 (by omega)]
      exact e148
    · rw [g' 149 (by decide), SX_50 (by omega) (by omega)]
      exact d4
    · rw [g' 150 (by decide), SX_40 (by omega) (by omega)]
      exact d5
    · unfold MRo
      rw [eJ 147 (by decide) (by decide) (by decide)]
      exact po
theorem snt_X {i j : Nat} (h : i ≠ S 0 w ∨ j ≠ w) : snt (SX cd c S w) i j ↔ snt S i j := by
  unfold snt
  rw [SX_0, SX_1]
  by_cases z : j = w
  · rw [z, apn_s]
    omega
  · rw [apn_n _ _ z]
/-- events behind a send that belongs to one -/
theorem MRe_X (hw : w < P) (hP : P ≤ 4) (hI : PI cd (sd + 7000003) V c0 P S) (hE : MRe cd (sd + 7000003) V c0 P S I J) (hc : tr cd (sd + 7000003) V c0 (S 0 w) = c) (hev : evb cd c = true) (hsw : sdf cd (c 0 0) w = true) (f1 : S 1 w = 0)
    (e151 : ∀ e, I1 151 e = if c 0 4 = S 20 1 ∧ e = c 0 4 then nI (kdu cd c) else I 151 e) (e153 : ∀ q, I1 153 q = if q = 4 * c 0 4 + w then nI (c 6 w) else if c 0 4 = S 20 1 ∧ 4 * c 0 4 ≤ q ∧ q < 4 * c 0 4 + 4 then m1 else I 153 q) (e152 : ∀ e, e ≠ c 0 4 → J1 152 e = J 152 e) (e152' : c 0 4 ≠ S 20 1 → cd (c 0 0) ≠ 13 ∨ uk cd c ≠ 1 → J1 152 (c 0 4) = J 152 (c 0 4)) (e13 : uk cd c = 1 → cd (c 0 0) = 13 → J1 152 (c 0 4) = lN (uI cd V c)) : MRe cd (sd + 7000003) V c0 P (SX cd c S w) I1 J1 := fun i hi hbg => by
  have a6 := hI.2.2.2.2.2.1 w hw
  rw [hc] at a6
  have a7 := hI.2.2.2.2.2.2.1
  by_cases z : i = S 0 w
  · rw [z, hc]
    have a7w := a7 (S 0 w) (by rw [hc]; exact hev)
    rw [hc] at a7w
    by_cases y : c 0 4 = S 20 1
    · refine ⟨by rw [e151, if_pos ⟨y, rfl⟩], fun j hj => ⟨fun s1 s2 => ?_, fun s1 => ?_⟩, e13⟩
      · by_cases t : j = w
        · rw [e153, if_pos (by omega), t]
        · exfalso
          have := (snt_X (Or.inr t)).mp s2
          have := a7w.mpr ⟨j, hj, this⟩
          omega
      · by_cases t : j = w
        · exfalso
          apply s1
          rw [t]
          refine ⟨hsw, Or.inr ⟨by rw [SX_0], by rw [SX_1, apn_s]⟩⟩
        · rw [e153, if_neg (by omega), if_pos ⟨y, by omega, by omega⟩]
    · have q := hE (S 0 w) (by rw [hc]; exact hev) (a7w.mp (by omega))
      rw [hc] at q
      refine ⟨by rw [e151, if_neg (fun t => y t.1)]; exact q.1, fun j hj => ⟨fun s1 s2 => ?_, fun s1 => ?_⟩, e13⟩
      · by_cases t : j = w
        · rw [e153, if_pos (by omega), t]
        · rw [e153, if_neg (by omega), if_neg (fun r => y r.1)]
          exact (q.2.1 j hj).1 s1 ((snt_X (Or.inr t)).mp s2)
      · by_cases t : j = w
        · exfalso
          apply s1
          rw [t]
          refine ⟨hsw, Or.inr ⟨by rw [SX_0], by rw [SX_1, apn_s]⟩⟩
        · rw [e153, if_neg (by omega), if_neg (fun r => y r.1)]
          exact (q.2.1 j hj).2 (fun r => s1 ⟨r.1, (snt_X (Or.inr t)).mpr r.2⟩)
  · have hbg' : bgn P S i := by
      obtain ⟨p, hp, q⟩ := hbg
      exact ⟨p, hp, (snt_X (Or.inl z)).mp q⟩
    have hne : tr cd (sd + 7000003) V c0 i 0 4 ≠ c 0 4 := by
      rw [← hc]
      by_cases l : i < S 0 w
      · have := tr_evlt hi l
        omega
      · have := tr_evlt (cd := cd) (bs := sd + 7000003) (V := V) (c0 := c0) (i := S 0 w) (by rw [hc]; exact hev) (show S 0 w < i by omega)
        omega
    obtain ⟨q1, q2, q3⟩ := hE i hi hbg'
    refine ⟨by rw [e151, if_neg (fun t => hne t.2)]; exact q1, fun j hj => ⟨fun s1 s2 => ?_, fun s1 => ?_⟩, fun s1 s2 => by rw [e152 _ hne]; exact q3 s1 s2⟩
    · rw [e153, if_neg (by omega), if_neg (by omega)]
      exact (q2 j hj).1 s1 ((snt_X (Or.inl z)).mp s2)
    · rw [e153, if_neg (by omega), if_neg (by omega)]
      exact (q2 j hj).2 (fun r => s1 ⟨r.1, (snt_X (Or.inl z)).mpr r.2⟩)
/-- coins behind a send that is none of a check's -/
theorem hbk_X (hc : tr cd bs V c0 (S 0 w) = c) (hu : uk cd c ≠ 2) (j k : Nat) (h : hco cd bs V c0 (SX cd c S w) j k) : hco cd bs V c0 S j k := by
  unfold hco at h ⊢
  rw [SX_0, SX_1] at h
  by_cases z : j = w
  · rw [z] at h ⊢
    rw [hc] at h ⊢
    rcases h with h | ⟨h, q⟩
    · exact Or.inl h
    · exact absurd q.1 hu
  · rw [apn_n _ _ z] at h
    exact h
theorem RA1s (hW : WFc cd n P st hg) (hP : P ≤ 4) (hB : B ≤ 4) (hB1 : 1 ≤ B) (hw : w < P) (hM : MM cd st hg n P B sd V c0 S I J) (hI : PI cd (sd + 7000003) V c0 P S) (hc : tr cd (sd + 7000003) V c0 (S 0 w) = c) (hG : GD cd st hg c) (hb : BND (cd := cd) c) (f1 : S 1 w = 0) (hu : uk cd c = 1) (hsn : snb cd c w = true) (hus : usv cd c (S 1 w) w ≤ S 13 w ∧ S 13 w ≤ 100) (hmt : S 12 w ≤ S 14 w ∧ S 14 w ≤ 200) (hwr : ∀ j, j < P → S (30 + w) j < 2 ^ 31) (hEV : S 20 1 ≤ 30000) (hlk : lkS cd c S w = 0) (hv : RV I J w (c 0 1) (c 1) (c 2) (c 0 2) (c 3)) (hp7 : I 127 w = nI (c 0 0)) : (blk P B S w = true ∧ f_Model_act (nI w) I J = some (0, I, J)) ∨ (blk P B S w = false ∧ ∃ I1 J1, f_Model_act (nI w) I J = some (1, I1, J1) ∧ MM cd st hg n P B sd V c0 (SX cd c S w) I1 J1 ∧ RT I I1 J J1 ∧ I1 137 = I 137) := by
  letI := jdec cd (c 0 0)
  have hM' := hM
  have hG' := hG
  obtain ⟨g1, g2, g3, g4⟩ := hG
  obtain ⟨⟨m16, m17, m34, m35, m60, m24, m26, m28, m114, mk, mb, mo⟩, hE, hK, hp⟩ := hM
  have hpw := hp w hw
  rw [hc] at hpw
  obtain ⟨-, pb, ⟨r129, r130, r131, r132, r133, r134, r135, r136, r137, r138, r139, r142, r118, r121, r122, r123, r125, r126, r119, r120⟩, ⟨d1, d2, d3, d4, d5⟩, po⟩ := hpw
  have sdw := snb_sdf hsn
  have gvr : cd (c 0 0) = 13 → cd (c 0 0 + 2) = w := fun e => by
    unfold sdf at sdw
    rw [if_pos e] at sdw
    exact (of_decide_eq_true sdw).symm
  have a6 := hI.2.2.2.2.2.1 w hw
  rw [hc] at a6
  rcases UK cd c with ⟨u, -⟩ | ⟨u, q1, q2, q3⟩ | ⟨u, -⟩ | ⟨u, -⟩ | ⟨u, -⟩
  · omega
  · have sg : c 0 8 = 0 := by
      have := hb.2.2.2.2.2
      unfold SGV at this
      omega
    have ph : I 128 w = nI 0 := by
      rcases pb with y | y
      · rw [y, sg, f1]
      · omega
    have hlk' : lck cd (c 0 0) w (c 0 1) (c 1) (c 0 2) (S 20 2) (S 20 3) (S 20 4) (S 10 w) (S 11 w) (c 0 6) (S 13 w) (usv cd c (S 1 w) w) (S 14 w) (S 12 w) = 0 := hlk
    obtain ⟨-, -, -, -, -, -, -, -, l13⟩ := LK0 hlk'
    have w0 : S (30 + w) w = 0 := hI.2.2.2.1 w hw
    rcases mSEN (J := J) hW hw hP hB g1 m114 hp7 q3 gvr ph m16 m17 (fun j hj => ⟨hwr j hj, d3 j hj⟩) (by omega) r135 m60 a6 (by omega) r131 (us := usv cd c (S 1 w) w) (fun e => ⟨by
        have := (l13 e (gvr e)).1
        omega, r126⟩) with ⟨b1, b2⟩ | ⟨b1, I1, J1, b2, b3, b4, b5, b6, b7, b8, b9, b10, b11, b12, b13, b14, b15, b16, b17, b18, b19, b20, b21⟩
    · exact Or.inl ⟨b1, b2⟩
    · have hps : psv cd c (S 1 w) w = c 6 w := by
        rw [f1]
        exact psv_2 (Or.inl rfl)
      have hus0 : usv cd c (S 1 w) w = c 8 w := by
        rw [f1]
        unfold usv
        rw [if_neg (by omega)]
        rfl
      rw [hps] at b7 b9
      have ekd : kdu cd c = kdo (cd (c 0 0)) := kdu1 hu
      refine Or.inr ⟨b1, I1, J1, b2, RSND hP hw hM' hc hG' f1 (fun y => by omega) hv hp7 (fun a x1 x2 x3 x4 x5 x6 x7 x8 x9 x10 x11 x12 x13 x14 => b3 a x10 x8 x1 x11 x12 x9 x4 x5 x6 x3 x7) b4 ?_ (fun x hx => ⟨by rw [b3 118 (by decide) (by decide) (by decide) (by decide) (by decide) (by decide) (by decide) (by decide) (by decide) (by decide) (by decide)], by rw [b21, if_neg (fun t => hx t.1)], by rw [b18, if_neg (fun t => hx t.1), if_neg (fun t => hx t.1)], by rw [b19, if_neg (fun t => hx t.1)], by rw [b20, if_neg (fun t => hx t.1)], b17 x hx, b12 x hx, b8 x hx⟩) (by rw [b16, sg]) b13 ?_ ?_ ?_ ?_ ?_ ?_ b14 b15 (fun a x1 _ _ => b10 a x1) ?_ ?_⟩
      · rw [b5, SX_20 (by omega), apn_s]
        by_cases y : c 0 4 = S 20 1
        · rw [if_pos y, if_pos ⟨evb1 hu, y⟩]
        · rw [if_neg y, if_neg (fun t => y t.2)]
      · rw [b9]
        unfold psv
        rw [if_pos ⟨rfl, evb1 hu⟩]
      · rw [b3 118 (by decide) (by decide) (by decide) (by decide) (by decide) (by decide) (by decide) (by decide) (by decide) (by decide) (by decide), r118]
        unfold u8
        rw [if_neg (by omega)]
        rfl
      · rw [b18]
        unfold u10
        by_cases y : cd (c 0 0) = 7
        · rw [if_pos ⟨rfl, y⟩, if_pos y, r121, nI_1]
        · rw [if_neg (fun t => y t.2), if_neg y]
          by_cases z : cd (c 0 0) = 25 ∨ cd (c 0 0) = 26
          · rw [if_pos ⟨rfl, z⟩, if_pos z, r121]
            exact nI_add _ _
          · rw [if_neg (fun t => z t.2), if_neg z]
            exact r121
      · rw [b19]
        unfold u11
        by_cases y : cd (c 0 0) = 10
        · rw [if_pos ⟨rfl, y⟩, if_pos y, r122, nI_1]
        · rw [if_neg (fun t => y t.2), if_neg y]
          exact r122
      · rw [b20]
        unfold usv
        by_cases y : cd (c 0 0) = 13
        · rw [if_pos ⟨rfl, y⟩, if_pos ⟨rfl, y⟩, r126, nI_1, hus0]
        · rw [if_neg (fun t => y t.2), if_neg (fun t => y t.2), r126, hus0]
          rfl
      · rw [b21]
        unfold u12
        by_cases y : cd (c 0 0) = 13
        · have l := (l13 y (gvr y)).2
          rw [if_pos ⟨rfl, y⟩, if_pos y, r119]
          rw [show (1 : Int32) = nI 1 from rfl, nI_sb (by omega)]
          congr 1
        · rw [if_neg (fun t => y t.2), if_neg y]
          exact r119
      · refine MRe_X hw hP hI hE hc (evb1 hu) sdw f1 (fun e => by rw [b6, ekd]) b7 (fun e he => by rw [b11, if_neg (fun t => he t.2)]) (fun _ y => by
          rw [b11, if_neg (fun t => ?_)]
          rcases y with y | y
          · exact y t.1
          · exact y hu) (fun _ y => ?_)
        have l := (l13 y (gvr y)).1
        have q := d2 (c 8 w) (by omega)
        rw [b11, if_pos ⟨y, rfl⟩, hus0, q.2]
        unfold uI
        rw [if_pos y, gvr y]
      · refine MRk_fr hK (b10 154 (by decide)) (b10 155 (by decide)) (fun j _ k h => hbk_X hc (by omega) j k h) (fun j hj => ?_)
        by_cases y : j = w
        · rw [y, SX_w6, if_neg (by omega)]
        · rw [SX_60 (by omega) (by omega) y]
  · omega
  · omega
  · omega
end REF
