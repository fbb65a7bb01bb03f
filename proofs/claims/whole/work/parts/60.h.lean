/-! the run: receives, in the reference, with all that is known -/
section REF
variable {cd : Nat → Nat} {sd bs : Int64} {V c c' c0 : Nat → Nat → Nat} {P n B w : Nat} {st : Nat → Bool} {hg : Nat → Nat} {S S' : Nat → Nat → Nat} {I I1 I' : MI} {J J1 J' : MJ}
theorem RA1r (hW : WFc cd n P st hg) (hP : P ≤ 4) (hw : w < P) (hM : MM cd st hg n P B sd V c0 S I J) (hT : TAM I' I J' J P (V 0 0) (V 1) (V 2) (V 3) (V 4)) (hI : PI cd (sd + 7000003) V c0 P S) (hC : C0 cd c0) (hc : tr cd (sd + 7000003) V c0 (S 0 w) = c) (hG : GD cd st hg c) (hb : BND (cd := cd) c) (hsc : c 0 10 ≤ 30000) (hpl : ∀ j, j < P → c 6 j < 2 ^ 31) (f1 : S 1 w = bn (snb cd c w)) (f2 : S 2 w = 0) (f3 : S 3 w = 0) (hu : uk cd c = 1) (hgt : ∀ j, j < P → S (40 + w) j < 2 ^ 31) (hin : blr cd P c S w = false → cd (c 0 0) = 13 → c 8 (cd (c 0 0 + 2)) < S 13 (cd (c 0 0 + 2))) (hv : RV I J w (c 0 1) (c 1) (c 2) (c 0 2) (c 3)) (hp7 : I 127 w = nI (c 0 0)) : (blr cd P c S w = true ∧ f_Model_act (nI w) I J = some (0, I, J)) ∨ (blr cd P c S w = false ∧ ∃ I1 J1, f_Model_act (nI w) I J = some (1, I1, J1) ∧ MM cd st hg n P B sd V c0 (SR cd sd P c S w) I1 J1 ∧ RT I I1 J J1 ∧ I1 137 = I 137) := by
  letI := jdec cd (c 0 0)
  have hM' := hM
  have hG' := hG
  obtain ⟨g1, g2, g3, g4⟩ := hG
  obtain ⟨⟨m16, m17, m34, m35, m60, m24, m26, m28, m114, mk, mb, mo⟩, hE, hK, hp⟩ := hM
  have hpw := hp w hw
  rw [hc] at hpw
  obtain ⟨-, pb, ⟨r129, r130, r131, r132, r133, r134, r135, r136, r137, r138, r139, r142, r118, r121, r122, r123, r125, r126, r119, r120⟩, ⟨d1, d2, d3, d4, d5⟩, po⟩ := hpw
  rcases UK cd c with ⟨u, -⟩ | ⟨u, q1, q2, q3⟩ | ⟨u, -⟩ | ⟨u, -⟩ | ⟨u, -⟩
  · omega
  · have sg : c 0 8 = 0 := by
      have := hb.2.2.2.2.2
      unfold SGV at this
      omega
    have hu3 : uk cd c = 1 ∨ uk cd c = 2 ∨ uk cd c = 3 := Or.inl hu
    have wa := WF_a hW g1
    have f1' := f1
    rw [snb_1 hu3] at f1'
    have h4 : 4 ≤ cd (c 0 0) := by
      unfold shd jnt at q3
      omega
    have n29 : cd (c 0 0) ≠ 29 := by
      unfold shd jnt at q3
      omega
    have hph1 : cd (c 0 0) ≠ 13 ∨ cd (c 0 0 + 2) = w → I 128 w = nI 1 := fun y => by
      have s : sdf cd (c 0 0) w = true := by
        by_cases e : cd (c 0 0) = 13
        · unfold sdf
          rw [if_pos e]
          exact decide_eq_true (by omega)
        · exact sdf_t e
      rw [s, show bn true = 1 from rfl] at f1'
      rcases pb with y | y
      · rw [y, sg, f1']
      · omega
    have hbg : blr cd P c S w = false → bgn P S (S 0 w) := fun y => by
      by_cases e : cd (c 0 0) = 13
      · have q := (wa.2.1 e).2
        refine ⟨cd (c 0 0 + 2), q, blr_s hI hw hc f1 y _ q ?_⟩
        rw [snb_1 hu3]
        unfold sdf
        rw [if_pos e]
        exact decide_eq_true rfl
      · exact ⟨w, hw, blr_s hI hw hc f1 y _ hw (by rw [snb_1 hu3, sdf_t e])⟩
    have evE : blr cd P c S w = false → _ := fun y => hE (S 0 w) (by rw [hc]; exact evb1 hu) (hbg y)
    rw [hc] at evE
    have hev : c 0 4 ≤ c 0 10 := hb.1
    have bl1 := blr_1 (P := P) (S := S) (w := w) hu3
    have inb : blr cd P c S w = false → cd (c 0 0) = 13 → uI cd V c < pP := fun y e => by
      have q := (wa.2.1 e).2
      have z := hin y e
      unfold uI
      rw [if_pos e]
      exact ((hp _ q).2.2.2.1.2.1 _ z).1
    rcases mRCV (bt := 0) (inp := uI cd V c) (pl := c 6) hW hw hP g1 g2 hv m114 hp7 q3 hph1 m16 (fun j hj => ⟨hgt j hj, d5 j hj⟩) hT r135 (by omega) (fun y j hj => ⟨hpl j hj, by
        rw [← bl1] at y
        by_cases s : sdf cd (c 0 0) j = true
        · rw [if_pos s]
          exact ((evE y).2.1 j hj).1 s (blr_s hI hw hc f1 y j hj (by rw [snb_1 hu3]; exact s))
        · rw [if_neg s]
          exact ((evE y).2.1 j hj).2 (fun t => s t.1)⟩) (fun y e => by
        rw [← bl1] at y
        exact ⟨inb y e, (evE y).2.2 hu e⟩) with ⟨b1, b2⟩ | ⟨b1, I1, J1, b2, b3, b4, b5, b6, b7, b8⟩
    · rw [← bl1] at b1
      exact Or.inl ⟨b1, b2⟩
    · rw [← bl1] at b1
      have eL : uL cd (sd + 7000003) V c = lop cd (eE (V 0 0) (V 1) (V 2) (V 3) (V 4) (sdf cd (c 0 0)) (c 6)) (uI cd V c) 0 (c 0 0) (c 0 1) (c 1) (c 2) (c 0 2) (c 3) := if_pos (shb_t.mpr q3)
      obtain ⟨v1, v2⟩ := b3 _ eL
      have fI : ∀ a, a ≠ 145 → a ≠ 140 → a ≠ 141 → a ≠ 127 → a ≠ 128 → a ≠ 135 → a ≠ 150 → a ≠ 132 → I1 a = I a := b8.1
      have fJ : ∀ a, a ≠ 143 → a ≠ 144 → J1 a = J a := b8.2.2.2.2.1
      have g' : ∀ a, (a < 127 ∨ 128 < a) ∧ (a < 132 ∨ 132 < a) ∧ (a < 135 ∨ 135 < a) ∧ (a < 140 ∨ 141 < a) ∧ (a < 145 ∨ 145 < a) ∧ (a < 150 ∨ 150 < a) → I1 a = I a := fun a h => fI a (by omega) (by omega) (by omega) (by omega) (by omega) (by omega) (by omega) (by omega)
      have lt := GD_L (bs := sd + 7000003) (V := V) hW hG' h4 (fun y => absurd y n29)
      have b0 : bdv cd sd P c S = 0 := bdv_0 (by omega)
      have s1 : SR cd sd P c S w 1 w = 0 := by rw [SR_1, apn_s]
      have s2 : SR cd sd P c S w 2 w = S 2 w := by rw [SR_2, apn_s, b0, if_neg (by decide)]
      have s9 : SR cd sd P c S w 9 = S 9 := by rw [SR_9, if_neg (by omega)]
      refine Or.inr ⟨b1, I1, J1, b2, MR_st hM' hP hw (RF_FR b8 (by omega)) (OTH_R hP hw) (by rw [g' 112 (by decide), SR_20 (by omega)]; exact m60) (by rw [SR_20 (by omega)]) (by rw [SR_20 (by omega)]) (by rw [SR_20 (by omega)]) (by rw [SR_20 (by omega)]) (MRe_fr hE (g' 151 (by decide)) (g' 153 (by decide)) (fJ 152 (by decide) (by decide)) (fun i _ h => bgn_R hc (hbg b1) hw i h) (fun i j _ _ hs => snt_R hc hu3 f1 i j hs)) (MRk_fr hK (fJ 154 (by decide) (by decide)) (fJ 155 (by decide) (by decide)) (fun j _ k h => hbk_R hC.1.2.2.2.2.2 hc hu3 f1 j k h) (fun j hj => SR_60 (by omega) (by omega))) (fun x hx hn => ?_) ?_, ⟨fun a a1 a2 a3 a4 => fI a (by omega) (by omega) (by omega) (by omega) (by omega) (by omega) (by omega) (by omega), fun j _ _ => by rw [g' 112 (by decide)], fun a a1 => fJ a (by omega) (by omega)⟩, g' 137 (by decide)⟩
      · unfold MRo
        rw [fJ 147 (by decide) (by decide)]
        exact (hp x hx).2.2.2.2
      · have ec : tr cd (sd + 7000003) V c0 (SR cd sd P c S w 0 w) = N1 cd (sd + 7000003) V c := by rw [SR_0, apn_s, tr_s, hc, nx1 hu]
        rw [ec]
        have fp : N1 cd (sd + 7000003) V c 0 8 = fp0 cd (N1 cd (sd + 7000003) V c 0 0) (c 0 7 + (if cd (c 0 0) = 13 then 0 else nus (cd (c 0 0)))) := rfl
        refine ⟨⟨(uL cd (sd + 7000003) V c).1, (uL cd (sd + 7000003) V c).2.1, (uL cd (sd + 7000003) V c).2.2.1, lt.1, lt.2.1, v1, v2, rfl⟩, MRb_n fp rfl s1 b4, ⟨?_, ?_, ?_, ?_, ?_, ?_, ?_, ?_, ?_, ?_, ?_, ?_, ?_, ?_, ?_, ?_, ?_, ?_, ?_, ?_⟩, ⟨?_, ?_, ?_, ?_, ?_⟩, ?_⟩
        · rw [g' 129 (by decide), SR_5]
          exact r129
        · rw [g' 130 (by decide), SR_6]
          exact r130
        · rw [g' 131 (by decide), s1, r131, psv_2 (Or.inl rfl)]
          show nI (psv cd c (S 1 w) w) = nI (c 6 w + bn (sdf cd (c 0 0) w))
          unfold psv
          rw [f1', evb1 hu]
          cases sdf cd (c 0 0) w with
          | true => rfl
          | false => rfl
        · rw [b6, r132, nI_1, SR_7, apn_s]
        · rw [g' 133 (by decide)]
          exact r133
        · rw [g' 134 (by decide)]
          exact r134
        · exact b5
        · rw [g' 136 (by decide)]
          exact r136
        · rw [g' 137 (by decide), s2]
          exact r137
        · rw [g' 138 (by decide), SR_3]
          exact r138
        · intro _
          rw [g' 139 (by decide), SR_4]
          exact r139 (stt_1 f2 f3 (by omega))
        · rw [g' 142 (by decide), s9]
          exact r142
        · rw [g' 118 (by decide), SR_8]
          exact r118
        · rw [g' 121 (by decide), SR_10]
          exact r121
        · rw [g' 122 (by decide), SR_11]
          exact r122
        · rw [g' 123 (by decide)]
          exact r123
        · rw [g' 125 (by decide), SR_13]
          exact r125
        · rw [g' 126 (by decide), s1, r126]
          show nI (usv cd c (S 1 w) w) = nI (c 8 w + (if cd (c 0 0) = 13 ∧ w = cd (c 0 0 + 2) then 1 else 0) + (if 0 = 1 ∧ cd (N1 cd (sd + 7000003) V c 0 0) = 13 then 1 else 0))
          unfold usv
          rw [if_neg (show ¬ (0 = 1 ∧ cd (N1 cd (sd + 7000003) V c 0 0) = 13) from fun z => absurd z.1 (by decide))]
          by_cases y : cd (c 0 0) = 13
          · rw [f1', sdf_13 y]
            by_cases z : w = cd (c 0 0 + 2)
            · rw [if_pos z, if_pos ⟨rfl, y⟩, if_pos ⟨y, z⟩]
            · rw [if_neg z, if_neg (fun t => absurd t.1 (by decide)), if_neg (fun t => z t.2)]
          · rw [if_neg (fun t => y t.2), if_neg (fun t => y t.1)]
        · rw [g' 119 (by decide), SR_14, SR_12]
          exact r119
        · rw [g' 120 (by decide), SR_14]
          exact r120
        · intro y
          exfalso
          rw [fp] at y
          have := fp0_8 (cd := cd) (pos := N1 cd (sd + 7000003) V c 0 0) (o := c 0 7 + (if cd (c 0 0) = 13 then 0 else nus (cd (c 0 0))))
          omega
        · rw [SR_13, fJ 124 (by decide) (by decide)]
          exact d2
        · rw [g' 148 (by decide), SR_30 (by omega) (by omega)]
          exact d3
        · rw [g' 149 (by decide), SR_w5, b0, if_neg (by decide)]
          exact d4
        · intro j hj
          rw [b7 j hj, SR_w4 (by omega)]
          show _ = nI (if j ≠ w ∧ snb cd c j = true then S (40 + w) j - 1 else S (40 + w) j)
          rw [snb_1 hu3]
        · unfold MRo
          rw [fJ 147 (by decide) (by decide)]
          exact po
  · omega
  · omega
  · omega
/-- what a receive of a check makes of the memory -/
theorem RRC2 (hP : P ≤ 4) (hw : w < P) (hM : MM cd st hg n P B sd V c0 S I J) (hC : C0 cd c0) (hc : tr cd (sd + 7000003) V c0 (S 0 w) = c) (hG : GD cd st hg c) (hb : BND (cd := cd) c) (hu : uk cd c = 2) (f1 : S 1 w = 1) (f2 : S 2 w = 0) (f3 : S 3 w = 0) (hv : RV I J w (c 0 1) (c 1) (c 2) (c 0 2) (c 3)) (hp7 : I 127 w = nI (c 0 0))
    (eI : ∀ a, a ≠ 128 → a ≠ 132 → a ≠ 134 → a ≠ 136 → a ≠ 137 → a ≠ 142 → a ≠ 149 → a ≠ 150 → a ≠ 160 → a ≠ 161 → I1 a = I a)
    (eo : ∀ x, x ≠ w → I1 128 x = I 128 x ∧ I1 132 x = I 132 x ∧ I1 134 x = I 134 x ∧ I1 136 x = I 136 x ∧ I1 137 x = I 137 x ∧ I1 142 x = I 142 x)
    (e128 : I1 128 w = nI (c 0 8 + 2)) (e132 : I1 132 w = I 132 w + 1) (e134 : I1 134 w = nI (N2 c 0 5)) (e136 : I1 136 w = nI (N2 c 0 11)) (e137 : I1 137 w = if bdv cd sd P c S = 1 then nI 1 else I 137 w) (e142 : I1 142 w = if stv (c 0 8) = 0 then nI (c 0 5) else I 142 w)
    (e149 : ∀ j, j < P → I1 149 (4 * w + j) = if bdv cd sd P c S = 1 then (if j = w then nI 0 else nI 1) else I 149 (4 * w + j)) (e149' : ∀ q, q < 4 * w ∨ 4 * w + P ≤ q → I1 149 q = I 149 q)
    (e150 : ∀ j, j < P → I1 150 (4 * j + w) = nI (if j ≠ w then S (40 + w) j - 1 else S (40 + w) j)) (e150' : ∀ q, q % 4 ≠ w → I1 150 q = I 150 q) :
    MM cd st hg n P B sd V c0 (SR cd sd P c S w) I1 J ∧ RT I I1 J J := by
  have hM' := hM
  obtain ⟨⟨m16, m17, m34, m35, m60, m24, m26, m28, m114, mk, mb, mo⟩, hE, hK, hp⟩ := hM
  have hpw := hp w hw
  rw [hc] at hpw
  obtain ⟨-, pb, ⟨r129, r130, r131, r132, r133, r134, r135, r136, r137, r138, r139, r142, r118, r121, r122, r123, r125, r126, r119, r120⟩, ⟨d1, d2, d3, d4, d5⟩, po⟩ := hpw
  obtain ⟨z1, z2, z3, z4, z5⟩ := stv_S hb.2.2.2.2.2 hu
  have n13 : cd (c 0 0) ≠ 13 := by omega
  have hsn : ∀ j, snb cd c j = true := fun j => by rw [snb_1 (by omega), sdf_t n13]
  have fb : S 1 w = bn (snb cd c w) := by rw [hsn, f1]; rfl
  have hbg : bgn P S (S 0 w) := ⟨w, hw, Or.inr ⟨rfl, f1⟩⟩
  have hu3 : uk cd c = 1 ∨ uk cd c = 2 ∨ uk cd c = 3 := Or.inr (Or.inl hu)
  have hev : evb cd c = false := decide_eq_false (by omega)
  have g' : ∀ a, (a < 128 ∨ 128 < a) ∧ (a < 132 ∨ 132 < a) ∧ (a < 134 ∨ 134 < a) ∧ (a < 136 ∨ 137 < a) ∧ (a < 142 ∨ 142 < a) ∧ (a < 149 ∨ 150 < a) ∧ (a < 160 ∨ 161 < a) → I1 a = I a := fun a h => eI a (by omega) (by omega) (by omega) (by omega) (by omega) (by omega) (by omega) (by omega) (by omega) (by omega)
  have hf : RF w I I1 J J := by
    refine ⟨fun x hx hn => ⟨fun a a1 a2 a3 => ?_, fun i _ _ => by rw [g' 140 (by decide)], fun i _ _ => rfl, fun i _ _ => rfl, rfl, rfl, fun j hj => ⟨by rw [g' 148 (by decide)], e149' _ (by omega), e150' _ (by omega)⟩⟩, g' 114 (by decide), fun j _ _ => by rw [g' 112 (by decide)], rfl, rfl⟩
    have q := eo x hn
    by_cases y1 : a = 128
    · rw [y1]
      exact q.1
    by_cases y2 : a = 132
    · rw [y2]
      exact q.2.1
    by_cases y3 : a = 134
    · rw [y3]
      exact q.2.2.1
    by_cases y4 : a = 136
    · rw [y4]
      exact q.2.2.2.1
    by_cases y5 : a = 137
    · rw [y5]
      exact q.2.2.2.2.1
    by_cases y6 : a = 142
    · rw [y6]
      exact q.2.2.2.2.2
    rw [eI a y1 y2 y3 y4 y5 y6 (by omega) (by omega) (by omega) (by omega)]
  have s1 : SR cd sd P c S w 1 w = 0 := by rw [SR_1, apn_s]
  refine ⟨MR_st hM' hP hw hf (OTH_R hP hw) (by rw [g' 112 (by decide), SR_20 (by omega)]; exact m60) (by rw [SR_20 (by omega)]) (by rw [SR_20 (by omega)]) (by rw [SR_20 (by omega)]) (by rw [SR_20 (by omega)]) (MRe_fr hE (g' 151 (by decide)) (g' 153 (by decide)) rfl (fun i _ h => bgn_R hc hbg hw i h) (fun i j _ _ hs => snt_R hc hu3 fb i j hs)) (MRk_fr hK rfl rfl (fun j _ k h => hbk_R hC.1.2.2.2.2.2 hc hu3 fb j k h) (fun j hj => SR_60 (by omega) (by omega))) (fun x hx hn => (hp x hx).2.2.2.2) ?_, ⟨fun a a1 a2 a3 a4 => eI a (by omega) (by omega) (by omega) (by omega) (by omega) (by omega) (by omega) (by omega) a3 a4, fun j _ _ => by rw [g' 112 (by decide)], fun a a1 => rfl⟩⟩
  have ec : tr cd (sd + 7000003) V c0 (SR cd sd P c S w 0 w) = N2 c := by rw [SR_0, apn_s, tr_s, hc, nx2 hu]
  rw [ec]
  refine ⟨MRa_s (c := N2 c) hG (RV_eq hv (by rw [g' 145 (by decide)]) (by rw [g' 141 (by decide)]) (g' 140 (by decide)) rfl rfl) (by rw [g' 127 (by decide)]; exact hp7), Or.inl (by rw [s1]; exact e128), ⟨?_, ?_, ?_, ?_, ?_, ?_, ?_, ?_, ?_, ?_, ?_, ?_, ?_, ?_, ?_, ?_, ?_, ?_, ?_, ?_⟩, ⟨?_, ?_, ?_, ?_, ?_⟩, po⟩
  · rw [g' 129 (by decide), SR_5]
    exact r129
  · rw [g' 130 (by decide), SR_6]
    exact r130
  · rw [g' 131 (by decide), s1, r131, psv_2 (Or.inl rfl), psv_2 (Or.inr hev)]
    rfl
  · rw [e132, r132, nI_1, SR_7, apn_s]
  · rw [g' 133 (by decide)]
    exact r133
  · exact e134
  · rw [g' 135 (by decide)]
    exact r135
  · exact e136
  · rw [e137, SR_2, apn_s, r137]
    by_cases y : bdv cd sd P c S = 1
    · rw [if_pos y, if_pos y]
    · rw [if_neg y, if_neg y]
  · rw [g' 138 (by decide), SR_3]
    exact r138
  · intro _
    rw [g' 139 (by decide), SR_4]
    exact r139 (stt_1 f2 f3 (by omega))
  · rw [e142, SR_9]
    by_cases y : stv (c 0 8) = 0
    · rw [if_pos y, if_pos ⟨hu, y⟩, apn_s]
      exact Or.inr ⟨by omega, by rw [show c 0 5 + 1 - 1 = c 0 5 by omega]⟩
    · rw [if_neg y, if_neg (fun t => y t.2)]
      exact r142
  · rw [g' 118 (by decide), SR_8]
    exact r118
  · rw [g' 121 (by decide), SR_10]
    exact r121
  · rw [g' 122 (by decide), SR_11]
    exact r122
  · rw [g' 123 (by decide)]
    exact r123
  · rw [g' 125 (by decide), SR_13]
    exact r125
  · rw [g' 126 (by decide), s1, r126, usv_0 n13, usv_0 (show cd (N2 c 0 0) ≠ 13 from n13)]
    rfl
  · rw [g' 119 (by decide), SR_14, SR_12]
    exact r119
  · rw [g' 120 (by decide), SR_14]
    exact r120
  · intro y
    have y' : 10 ≤ c 0 8 + 2 := y
    exact d1 (by
      have := hb.2.2.2.2.2
      unfold SGV at this
      have u := UK cd c
      omega)
  · rw [SR_13]
    exact d2
  · rw [g' 148 (by decide), SR_30 (by omega) (by omega)]
    exact d3
  · intro j hj
    rw [e149 j hj, SR_w5]
    by_cases y : bdv cd sd P c S = 1
    · rw [if_pos y, if_pos y]
      split <;> rfl
    · rw [if_neg y, if_neg y]
      exact d4 j hj
  · intro j hj
    rw [e150 j hj, SR_w4 (by omega)]
    show _ = nI (if j ≠ w ∧ snb cd c j = true then S (40 + w) j - 1 else S (40 + w) j)
    rw [hsn]
    by_cases y : j = w
    · rw [if_neg (fun z => z y), if_neg (fun z => z.1 y)]
    · rw [if_pos y, if_pos ⟨y, rfl⟩]
/-- the errors since the last check, as the reference reads them -/
theorem ERRM {ix kd : Nat → Nat} (hP : P ≤ 4) (hw : w < P) (hE : MRe cd (sd + 7000003) V c0 P S I J) (hI : PI cd (sd + 7000003) V c0 P S) (hT : TAM I' I J' J P (V 0 0) (V 1) (V 2) (V 3) (V 4)) (hX : EIX cd (sd + 7000003) V c0 (S 0 w) ix kd) (hc : tr cd (sd + 7000003) V c0 (S 0 w) = c) (hC : C0 cd c0) (hsc : c 0 10 ≤ 30000) (hev : c 0 4 ≤ 30000) : ERR I J (c 5) ix kd (c 0 11) (c 0 4) := fun e h1 h2 => by
  have h1' := h1
  have h2' := h2
  rw [← hc] at h1' h2'
  obtain ⟨m, m1', m2, m3, m4, m5, m6, m7⟩ := hX.2.2 e h1' h2'
  have q := hE m m2 ⟨w, hw, Or.inl m1'⟩
  rw [m3] at q
  refine ⟨by rw [q.1, m4], by rw [m4]; exact kdu_b, m5, fun k hk => ?_⟩
  have v := m7 k hk
  rw [hc] at v
  rw [v]
  refine ⟨eE_lt, fun I2 hO {α F} => ?_⟩
  have T2 : TAM I' I2 J' J P (V 0 0) (V 1) (V 2) (V 3) (V 4) := TAM_f2 hT (by rw [hO 112 (by decide) (by decide)]) (hO 156 (by decide) (by decide)) (hO 157 (by decide) (by decide)) (hO 158 (by decide) (by decide)) rfl
  refine MER T2 hP (by omega) (fun j hj => ⟨?_, ?_⟩) (by
    have := num_le (kd e)
    omega) J rfl
  · have r := (tr_rb (bs := sd + 7000003) (V := V) hC j (S 0 w)).2
    have r2 := tr_pl (cd := cd) (bs := sd + 7000003) (V := V) (c0 := c0) j (Nat.le_of_lt m1')
    rw [hc] at r r2
    omega
  · rw [hO 153 (by decide) (by decide)]
    by_cases s : sdf cd (tr cd (sd + 7000003) V c0 m 0 0) j = true
    · rw [if_pos s]
      exact (q.2.1 j hj).1 s (hI.2.1 w hw m m1' j hj (snb_evb m2 s))
    · rw [if_neg s]
      exact (q.2.1 j hj).2 (fun t => s t.1)
end REF
