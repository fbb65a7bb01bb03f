/-! the run: what is shown and put out, in the reference, with all that is known -/
section REF
variable {cd : Nat → Nat} {sd bs : Int64} {V c c' c0 : Nat → Nat → Nat} {P n B w : Nat} {st : Nat → Bool} {hg : Nat → Nat} {S S' : Nat → Nat → Nat} {I I1 I' : MI} {J J1 J' : MJ}
theorem RA3s (hW : WFc cd n P st hg) (hP : P ≤ 4) (hB : B ≤ 4) (hB1 : 1 ≤ B) (hw : w < P) (hM : MM cd st hg n P B sd V c0 S I J) (hI : PI cd (sd + 7000003) V c0 P S) (hC : C0 cd c0) (h0 : SG0 cd c0) (hc : tr cd (sd + 7000003) V c0 (S 0 w) = c) (hG : GD cd st hg c) (hb : BND (cd := cd) c) (hsc : c 0 10 ≤ 30000) (f1 : S 1 w = 0) (hu : uk cd c = 3) (hwr : ∀ j, j < P → S (30 + w) j < 2 ^ 31) (hEV : S 20 1 ≤ 30000) (hv : RV I J w (c 0 1) (c 1) (c 2) (c 0 2) (c 3)) (hp7 : I 127 w = nI (c 0 0)) : (blk P B S w = true ∧ ∃ I1, f_Model_act (nI w) I J = some (0, I1, J) ∧ MM cd st hg n P B sd V c0 S I1 J ∧ RT I I1 J J) ∨ (blk P B S w = false ∧ ∃ I1 J1, f_Model_act (nI w) I J = some (1, I1, J1) ∧ MM cd st hg n P B sd V c0 (SX cd c S w) I1 J1 ∧ RT I I1 J J1 ∧ I1 137 = I 137) := by
  have z3 : cd (c 0 0) = 16 ∧ c 0 8 = 8 := by
    have u := UK cd c
    omega
  obtain ⟨I3, o1, o2, o3, o4, o5, o6, o7⟩ := ROPRE hP hw hM hC h0 hc hG hb hsc (by omega) (Or.inr z3.1) hv hp7
  rw [f1, z3.2] at o4
  obtain ⟨p, q, pq, e1, -, e16⟩ := AOUT (J := J) hW (show w < 4 by omega) hG hM.1.2.2.2.2.2.2.2.2.1 hp7 (Or.inr z3.1)
  rw [(e16 z3.1).1, OUTS (show w < 4 by omega) o1 o4] at e1
  have hM' := o2
  obtain ⟨⟨m16, m17, m34, m35, m60, m24, m26, m28, m114, mk, mb, mo⟩, hE, hK, hp⟩ := o2
  have hpw := hp w hw
  rw [hc] at hpw
  obtain ⟨-, pb, ⟨r129, r130, r131, r132, r133, r134, r135, r136, r137, r138, r139, r142, r118, r121, r122, r123, r125, r126, r119, r120⟩, ⟨d1, d2, d3, d4, d5⟩, po⟩ := hpw
  have w0 : S (30 + w) w = 0 := hI.2.2.2.1 w hw
  have a6 := hI.2.2.2.2.2.1 w hw
  rw [hc] at a6
  obtain ⟨ua, ub, uc⟩ := u10_0 (Or.inr z3.1)
  have n13 : cd (c 0 0) ≠ 13 := by omega
  have hps : psv cd c (S 1 w) w = c 6 w := by
    rw [f1]
    exact psv_2 (Or.inl rfl)
  rcases SENM (J := J) (kd := 4) (v := 0) hP hw hB m16 m17 (fun j hj => ⟨hwr j hj, d3 j hj⟩) (by omega) r135 m60 a6 (by omega) r131 (by omega) with ⟨b1, b2⟩ | ⟨b1, I2, J1, b2, b3, b4, b5, b6, b7, b8, b9, b10, b11, b12, b13, b14, b15⟩
  · rw [b2, if_neg (show ¬ ¬ nI 0 = 0 from fun x => x rfl), ok_0] at e1
    exact Or.inl ⟨b1, I3, e1, hM', o3⟩
  · rw [b2, if_pos (show ¬ nI 1 = 0 by decide), ok_1] at e1
    obtain ⟨A, x1, x2, x3, x4⟩ := UP1 I2 128 w (nI 9)
    rw [x1] at e1
    rw [hps] at b7 b9
    have g : ∀ a, a ≠ 128 → a ≠ 148 → a ≠ 130 → a ≠ 112 → a ≠ 151 → a ≠ 153 → a ≠ 131 → A a = I3 a := fun a y1 y2 y3 y4 y5 y6 y7 => by rw [x2 a y1, b3 a y2 y3 y4 y5 y6 y7]
    have g' : ∀ a, (a < 112 ∨ 112 < a) ∧ (a < 128 ∨ 128 < a) ∧ (a < 130 ∨ 131 < a) ∧ (a < 148 ∨ 148 < a) ∧ (a < 151 ∨ 151 < a) ∧ (a < 153 ∨ 153 < a) → A a = I3 a := fun a h => g a (by omega) (by omega) (by omega) (by omega) (by omega) (by omega) (by omega)
    have res := RSND (I1 := A) (J1 := J1) hP hw hM' hc hG f1 (fun y => by omega) o6 o7 (fun a y1 y2 y3 y4 y5 y6 y7 y8 y9 y10 y11 y12 y13 y14 => g a y7 y10 y8 y1 y11 y12 y9) (fun j hj => by rw [x2 112 (by decide)]; exact b4 j hj) (by
      rw [x2 112 (by decide), b5, SX_20 (by omega), apn_s]
      by_cases y : c 0 4 = S 20 1
      · rw [if_pos y, if_pos ⟨evb3 hu, y⟩]
      · rw [if_neg y, if_neg (fun t => y t.2)]) (fun x hx => ⟨by rw [g' 118 (by decide)], by rw [g' 119 (by decide)], by rw [g' 121 (by decide)], by rw [g' 122 (by decide)], by rw [g' 126 (by decide)], by rw [x4 x hx, b3 128 (by decide) (by decide) (by decide) (by decide) (by decide) (by decide)], by rw [x2 130 (by decide)]; exact b12 x hx, by rw [x2 131 (by decide)]; exact b8 x hx⟩) (by rw [x3, z3.2]) (by rw [x2 130 (by decide)]; exact b13) (by
      rw [x2 131 (by decide), b9]
      unfold psv
      rw [if_pos ⟨rfl, evb3 hu⟩]) (by
      rw [g' 118 (by decide), r118]
      unfold u8
      rw [if_neg (by omega)]
      rfl) (by rw [g' 121 (by decide), ua]; exact r121) (by rw [g' 122 (by decide), ub]; exact r122) (by rw [g' 126 (by decide), r126, usv_0 n13, usv_0 n13]) (by rw [g' 119 (by decide), uc]; exact r119) (fun j hj => by rw [x2 148 (by decide)]; exact b14 j hj) (fun q hq => by rw [x2 148 (by decide)]; exact b15 q hq) (fun a y1 _ _ => b10 a y1) (MRe_X hw hP hI hE hc (evb3 hu) (sdf_t n13) f1 (fun e => by rw [x2 151 (by decide), b6, kdu3 hu]) (fun q => by rw [x2 153 (by decide), b7]) (fun e he => by rw [b11, if_neg (fun t => absurd t.1 (by decide))]) (fun _ _ => by rw [b11, if_neg (fun t => absurd t.1 (by decide))]) (fun y => by omega)) (MRk_fr hK (b10 154 (by decide)) (b10 155 (by decide)) (fun j _ k h => hbk_X hc (by omega) j k h) (fun j hj => by
      by_cases y : j = w
      · rw [y, SX_w6, if_neg (by omega)]
      · rw [SX_60 (by omega) (by omega) y]))
    exact Or.inr ⟨b1, A, J1, e1, res.1, RT.tr o3 res.2.1, by rw [res.2.2]; exact o5 137 (by decide)⟩
/-- all that a unit needs has been sent, where nothing is wanting -/
theorem blr_s (hI : PI cd (sd + 7000003) V c0 P S) (hw : w < P) (hc : tr cd (sd + 7000003) V c0 (S 0 w) = c) (f1 : S 1 w = bn (snb cd c w)) (h : blr cd P c S w = false) (j : Nat) (hj : j < P) (hs : snb cd c j = true) : snt S (S 0 w) j := by
  by_cases y : j = w
  · rw [y] at hs ⊢
    rw [hs] at f1
    exact Or.inr ⟨rfl, f1⟩
  · refine snt_g hI hw hj y ?_
    have q := anyb_f _ _ h j (by omega) (by omega)
    have q' : (decide (j ≠ w) && (snb cd c j && decide (S (40 + w) j = 0))) = false := q
    rw [decide_eq_true y, hs, Bool.true_and, Bool.true_and] at q'
    have := of_decide_eq_false q'
    omega
theorem RA3r (hW : WFc cd n P st hg) (hP : P ≤ 4) (hw : w < P) (hM : MM cd st hg n P B sd V c0 S I J) (hT : TAM I' I J' J P (V 0 0) (V 1) (V 2) (V 3) (V 4)) (hI : PI cd (sd + 7000003) V c0 P S) (hC : C0 cd c0) (h0 : SG0 cd c0) (hc : tr cd (sd + 7000003) V c0 (S 0 w) = c) (hG : GD cd st hg c) (hb : BND (cd := cd) c) (hsc : c 0 10 ≤ 30000) (hpl : ∀ j, j < P → c 6 j < 2 ^ 31) (f1 : S 1 w = 1) (hu : uk cd c = 3) (hgt : ∀ j, j < P → S (40 + w) j < 2 ^ 31) (hv : RV I J w (c 0 1) (c 1) (c 2) (c 0 2) (c 3)) (hp7 : I 127 w = nI (c 0 0)) : (blr cd P c S w = true ∧ ∃ I1, f_Model_act (nI w) I J = some (0, I1, J) ∧ MM cd st hg n P B sd V c0 S I1 J ∧ RT I I1 J J) ∨ (blr cd P c S w = false ∧ ∃ I1 J1, f_Model_act (nI w) I J = some (1, I1, J1) ∧ MM cd st hg n P B sd V c0 (SR cd sd P c S w) I1 J1 ∧ RT I I1 J J1 ∧ I1 137 = I 137) := by
  have z3 : cd (c 0 0) = 16 ∧ c 0 8 = 8 := by
    have u := UK cd c
    omega
  have n13 : cd (c 0 0) ≠ 13 := by omega
  have hsn : ∀ j, snb cd c j = true := fun j => by rw [snb_1 (by omega), sdf_t n13]
  obtain ⟨I3, o1, o2, o3, o4, o5, o6, o7⟩ := ROPRE hP hw hM hC h0 hc hG hb hsc (by omega) (Or.inr z3.1) hv hp7
  rw [f1, z3.2] at o4
  obtain ⟨p, q, pq, e1, -, e16⟩ := AOUT (J := J) hW (show w < 4 by omega) hG hM.1.2.2.2.2.2.2.2.2.1 hp7 (Or.inr z3.1)
  have wa := (WF_a hW hG.1).1 (by omega)
  have hM' := o2
  obtain ⟨⟨m16, m17, m34, m35, m60, m24, m26, m28, m114, mk, mb, mo⟩, hE, hK, hp⟩ := o2
  have hpw := hp w hw
  rw [hc] at hpw
  obtain ⟨-, pb, ⟨r129, r130, r131, r132, r133, r134, r135, r136, r137, r138, r139, r142, r118, r121, r122, r123, r125, r126, r119, r120⟩, ⟨d1, d2, d3, d4, d5⟩, po⟩ := hpw
  have hev : c 0 4 ≤ c 0 10 := hb.1
  have fb : S 1 w = bn (snb cd c w) := by rw [hsn, f1]; rfl
  have hbg : bgn P S (S 0 w) := ⟨w, hw, Or.inr ⟨rfl, f1⟩⟩
  have evE := hE (S 0 w) (by rw [hc]; exact evb3 hu) hbg
  rw [hc] at evE
  have bl2 := blr_2 (P := P) (S := S) (w := w) (Or.inr hu)
  have hq : J 143 q = lN (c 2 (13 + cd (c 0 0 + 1))) := by
    rw [(e16 z3.1).2, show 154 * w + 13 + cd (c 0 0 + 1) = 154 * w + (13 + cd (c 0 0 + 1)) by omega]
    exact RV_rd o6 (by omega)
  rw [(e16 z3.1).1] at e1
  rw [bl2]
  rcases OUTR (q := q) (v := c 2 (13 + cd (c 0 0 + 1))) (pn := c 6) hP hw o1 o4 m16 (fun j hj => ⟨hgt j hj, d5 j hj⟩) (RT.tam hT o3) r135 (by omega) pq (RV_va o6 (by omega)) hq (fun y j hj => ⟨hpl j hj, by
      rw [if_pos rfl]
      exact (evE.2.1 j hj).1 (sdf_t n13) (blr_s hI hw hc fb (by rw [bl2]; exact y) j hj (hsn j))⟩) with ⟨b1, b2⟩ | ⟨b1, I1, b2, b3, b4, b5, b6, b7, b8, b9⟩
  · rw [b2, ok_0] at e1
    exact Or.inl ⟨b1, I3, e1, hM', o3⟩
  · rw [b2, ok_1, ← uE_3 (V := V) n13] at e1
    have g : ∀ a, a ≠ 128 → a ≠ 135 → a ≠ 132 → a ≠ 150 → I1 a = I3 a := b8
    have g' : ∀ a, (a < 128 ∨ 128 < a) ∧ (a < 132 ∨ 132 < a) ∧ (a < 135 ∨ 135 < a) ∧ (a < 150 ∨ 150 < a) → I1 a = I3 a := fun a h => g a (by omega) (by omega) (by omega) (by omega)
    obtain ⟨J1, hJ⟩ : ∃ J1, va_up J 146 (vp_updL (J 146) w (lN (pA (c 2 (13 + cd (c 0 0 + 1))) (uE cd V c 0)))) = J1 := ⟨_, rfl⟩
    rw [hJ] at e1
    have jn : ∀ a, a ≠ 146 → J1 a = J a := fun a ha => by rw [← hJ, va_up_ne _ _ ha]
    have jw : J1 146 w = lN (pA (c 2 (13 + cd (c 0 0 + 1))) (uE cd V c 0)) := by rw [← hJ, va_up_self, updL_s]
    have jo : ∀ x, x ≠ w → J1 146 x = J 146 x := fun x hx => by rw [← hJ, va_up_self, updL_n _ _ hx]
    have hf : RF w I3 I1 J J1 := by
      refine ⟨fun x hx hn => ⟨fun a a1 a2 a3 => ?_, fun i _ _ => by rw [g' 140 (by decide)], fun i _ _ => by rw [jn 143 (by decide)], fun i _ _ => by rw [jn 144 (by decide)], jo x hn, jn 124 (by decide), fun j hj => ⟨by rw [g' 148 (by decide)], by rw [g' 149 (by decide)], b7 _ (by omega)⟩⟩, g' 114 (by decide), fun j _ _ => by rw [g' 112 (by decide)], jn 112 (by decide), jn 117 (by decide)⟩
      have q := b9 x hn
      by_cases y1 : a = 128
      · rw [y1]
        exact q.1
      by_cases y2 : a = 135
      · rw [y2]
        exact q.2.1
      by_cases y3 : a = 132
      · rw [y3]
        exact q.2.2
      rw [g a y1 y2 y3 (by omega)]
    have hRT : RT I3 I1 J J1 := ⟨fun a a1 a2 a3 a4 => g a (by omega) (by omega) (by omega) (by omega), fun j _ _ => by rw [g' 112 (by decide)], fun a a1 => jn a (by omega)⟩
    have hu3 : uk cd c = 1 ∨ uk cd c = 2 ∨ uk cd c = 3 := Or.inr (Or.inr hu)
    have b0 : bdv cd sd P c S = 0 := bdv_0 (by omega)
    have s1 : SR cd sd P c S w 1 w = 0 := by rw [SR_1, apn_s]
    have s2 : SR cd sd P c S w 2 w = S 2 w := by rw [SR_2, apn_s, b0, if_neg (by decide)]
    have s9 : SR cd sd P c S w 9 = S 9 := by rw [SR_9, if_neg (by omega)]
    refine Or.inr ⟨b1, I1, J1, e1, MR_st hM' hP hw hf (OTH_R hP hw) (by rw [g' 112 (by decide), SR_20 (by omega)]; exact m60) (by rw [SR_20 (by omega)]) (by rw [SR_20 (by omega)]) (by rw [SR_20 (by omega)]) (by rw [SR_20 (by omega)]) (MRe_fr hE (g' 151 (by decide)) (g' 153 (by decide)) (jn 152 (by decide)) (fun i _ h => bgn_R hc hbg hw i h) (fun i j _ _ hs => snt_R hc hu3 fb i j hs)) (MRk_fr hK (jn 154 (by decide)) (jn 155 (by decide)) (fun j _ k h => hbk_R hC.1.2.2.2.2.2 hc hu3 fb j k h) (fun j hj => SR_60 (by omega) (by omega))) (fun x hx hn => ?_) ?_, RT.tr o3 hRT, by rw [g' 137 (by decide)]; exact o5 137 (by decide)⟩
    · unfold MRo
      rw [jn 147 (by decide)]
      exact (hp x hx).2.2.2.2
    · have ec : tr cd (sd + 7000003) V c0 (SR cd sd P c S w 0 w) = N3 cd V c := by rw [SR_0, apn_s, tr_s, hc, nx3 hu]
      rw [ec]
      have hv1 : RV I1 J1 w (c 0 1) (c 1) (c 2) (c 0 2) (c 3) := RV_eq o6 (by rw [g' 145 (by decide)]) (by rw [g' 141 (by decide)]) (g' 140 (by decide)) (jn 143 (by decide)) (jn 144 (by decide))
      refine ⟨MRa_s (c := N3 cd V c) hG hv1 (by rw [g' 127 (by decide)]; exact o7), Or.inl (by rw [s1]; exact b3), ⟨?_, ?_, ?_, ?_, ?_, ?_, ?_, ?_, ?_, ?_, ?_, ?_, ?_, ?_, ?_, ?_, ?_, ?_, ?_, ?_⟩, ⟨?_, ?_, ?_, ?_, ?_⟩, ?_⟩
      · rw [g' 129 (by decide), SR_5]
        exact r129
      · rw [g' 130 (by decide), SR_6]
        exact r130
      · rw [g' 131 (by decide), s1, r131, f1, psv_2 (Or.inl rfl)]
        unfold psv
        rw [if_pos ⟨rfl, evb3 hu⟩]
        rfl
      · rw [b5, r132, nI_1, SR_7, apn_s]
      · rw [g' 133 (by decide)]
        exact r133
      · rw [g' 134 (by decide)]
        exact r134
      · exact b4
      · rw [g' 136 (by decide)]
        exact r136
      · rw [g' 137 (by decide), s2]
        exact r137
      · rw [g' 138 (by decide), SR_3]
        exact r138
      · rw [g' 139 (by decide), SR_4, s2, SR_3]
        exact r139
      · rw [g' 142 (by decide), s9]
        exact r142
      · rw [g' 118 (by decide), SR_8]
        exact r118
      · rw [g' 121 (by decide), SR_10]
        exact r121
      · rw [g' 122 (by decide), SR_11]
        exact r122
      · rw [g' 123 (by decide)]
        exact r123
      · rw [g' 125 (by decide), SR_13]
        exact r125
      · rw [g' 126 (by decide), s1, r126, usv_0 n13, usv_0 (show cd (N3 cd V c 0 0) ≠ 13 from n13)]
        rfl
      · rw [g' 119 (by decide), SR_14, SR_12]
        exact r119
      · rw [g' 120 (by decide), SR_14]
        exact r120
      · exact fun _ => jw
      · rw [SR_13, jn 124 (by decide)]
        exact d2
      · rw [g' 148 (by decide), SR_30 (by omega) (by omega)]
        exact d3
      · rw [g' 149 (by decide), SR_w5, b0, if_neg (by decide)]
        exact d4
      · intro j hj
        rw [b6 j hj, SR_w4 (by omega)]
        show _ = nI (if j ≠ w ∧ snb cd c j = true then S (40 + w) j - 1 else S (40 + w) j)
        rw [hsn]
        by_cases y : j = w
        · rw [if_neg (fun z => z y), if_neg (fun z => z.1 y)]
        · rw [if_pos y, if_pos ⟨y, rfl⟩]
      · unfold MRo
        rw [jn 147 (by decide)]
        exact po
/-- what one puts out stands where it stands for all -/
theorem MRo_u {x : Nat} (hc : tr cd bs V c0 (S 0 w) = c) (hu : uk cd c = 4) {v : Nat} (hv : v = (if cd (c 0 0) = 15 then c 2 (cd (c 0 0 + 1)) else c 0 9)) (h : MRo (tr cd bs V c0 (S 0 x)) J) : MRo (tr cd bs V c0 (S 0 x)) (va_up J 147 (vp_updL (J 147) (c 0 3) (lN v))) := fun i hi => by
  rw [va_up_self]
  by_cases y : i = c 0 3
  · rw [y, updL_s]
    have lt : S 0 w + 1 ≤ S 0 x := by
      by_cases z : S 0 w < S 0 x
      · exact z
      · exfalso
        have q := (tr_ou (cd := cd) (bs := bs) (V := V) (c0 := c0) (S 0 x) (S 0 w - S 0 x)).1
        rw [show S 0 x + (S 0 w - S 0 x) = S 0 w by omega, hc] at q
        omega
    have q := (tr_ou (cd := cd) (bs := bs) (V := V) (c0 := c0) (S 0 w + 1) (S 0 x - (S 0 w + 1))).2 (c 0 3) (by
      rw [tr_s, hc, nx4 hu]
      exact Nat.lt_succ_self _)
    rw [show S 0 w + 1 + (S 0 x - (S 0 w + 1)) = S 0 x by omega] at q
    rw [q, tr_s, hc, nx4 hu, hv]
    show _ = lN (apn (c 4) (c 0 3) _ (c 0 3))
    rw [apn_s]
  · rw [updL_n _ _ y]
    exact h i hi
theorem RA4 (hW : WFc cd n P st hg) (hP : P ≤ 4) (hw : w < P) (hM : MM cd st hg n P B sd V c0 S I J) (hC : C0 cd c0) (h0 : SG0 cd c0) (hc : tr cd (sd + 7000003) V c0 (S 0 w) = c) (hG : GD cd st hg c) (hb : BND (cd := cd) c) (hsc : c 0 10 ≤ 30000) (f1 : S 1 w = 0) (f2 : S 2 w = 0) (f3 : S 3 w = 0) (hu : uk cd c = 4) (hv : RV I J w (c 0 1) (c 1) (c 2) (c 0 2) (c 3)) (hp7 : I 127 w = nI (c 0 0)) : ∃ I1 J1, f_Model_act (nI w) I J = some (1, I1, J1) ∧ MM cd st hg n P B sd V c0 (SL S w) I1 J1 ∧ RT I I1 J J1 ∧ I1 137 = I 137 := by
  have z3 : (cd (c 0 0) = 15 ∧ c 0 8 = 8) ∨ (cd (c 0 0) = 16 ∧ c 0 8 = 18) := by
    have u := UK cd c
    have := hb.2.2.2.2.2
    unfold SGV at this
    omega
  have n13 : cd (c 0 0) ≠ 13 := by omega
  have wf := WF_h hW hG.1
  have opl2 : opl (cd (c 0 0)) = 2 := by
    rcases z3 with y | y <;> (rw [y.1]; rfl)
  obtain ⟨I3, o1, o2, o3, o4, o5, o6, o7⟩ := ROPRE hP hw hM hC h0 hc hG hb hsc (by omega) (by omega) hv hp7
  rw [f1] at o4
  obtain ⟨p, q, pq, e1, e15, e16⟩ := AOUT (J := J) hW (show w < 4 by omega) hG hM.1.2.2.2.2.2.2.2.2.1 hp7 (by omega)
  have wa := (WF_a hW hG.1).1 (by omega)
  have hM' := o2
  obtain ⟨⟨m16, m17, m34, m35, m60, m24, m26, m28, m114, mk, mb, mo⟩, hE, hK, hp⟩ := o2
  have hpw := hp w hw
  rw [hc] at hpw
  obtain ⟨-, pb, ⟨r129, r130, r131, r132, r133, r134, r135, r136, r137, r138, r139, r142, r118, r121, r122, r123, r125, r126, r119, r120⟩, ⟨d1, d2, d3, d4, d5⟩, po⟩ := hpw
  have hno : c 0 3 ≤ c 0 10 := hb.2.1
  obtain ⟨v, hvv, I1, b1, b2, b3, b4, b5⟩ : ∃ v, v = (if cd (c 0 0) = 15 then c 2 (cd (c 0 0 + 1)) else c 0 9) ∧ ∃ I1, f_Model_out (nI w) p (nI q) I J = some (1, I1, va_up J 147 (vp_updL (J 147) (c 0 3) (lN v))) ∧ I1 133 w = nI (c 0 3 + 1) ∧ I1 127 w = nI (c 0 0 + opl (cd (c 0 0))) ∧ I1 128 w = nI 0 ∧ FO w I3 I1 := by
    rcases z3 with y | y
    · refine ⟨_, rfl, ?_⟩
      rw [if_pos y.1, (e15 y.1).1]
      rw [y.2] at o4
      exact OUTP0 (show w < 4 by omega) o1 o4 hW.2.1 wf.1 wf.2.1 m114 o7 r133 (by omega) pq (by rw [(e15 y.1).2]; exact RV_rd o6 (by omega))
    · refine ⟨_, rfl, ?_⟩
      rw [if_neg (by omega), (e16 y.1).1]
      rw [y.2] at o4
      exact OUTP1 (show w < 4 by omega) o1 o4 hW.2.1 wf.1 wf.2.1 m114 o7 r133 (by omega) (d1 (by omega))
  rw [b1, ok_1] at e1
  have g : ∀ a, a ≠ 133 → a ≠ 127 → a ≠ 128 → I1 a = I3 a := b5.1
  obtain ⟨J1, hJ⟩ : ∃ J1, va_up J 147 (vp_updL (J 147) (c 0 3) (lN v)) = J1 := ⟨_, rfl⟩
  have oth : ∀ x, x < P → MRo (tr cd (sd + 7000003) V c0 (S 0 x)) J1 := fun x hx => by
    rw [← hJ]
    exact MRo_u hc hu hvv (hp x hx).2.2.2.2
  have own : MRo (N4 cd (sd + 7000003) V c) J1 := fun i hi => by
    have hi' : i < c 0 3 + 1 := hi
    rw [← hJ, va_up_self]
    show _ = lN (apn (c 4) (c 0 3) (if cd (c 0 0) = 15 then c 2 (cd (c 0 0 + 1)) else c 0 9) i)
    by_cases y : i = c 0 3
    · rw [y, updL_s, apn_s, hvv]
    · rw [updL_n _ _ y, apn_n _ _ y]
      exact po i (by omega)
  rw [hJ] at e1
  have jn : ∀ a, a ≠ 147 → J1 a = J a := fun a ha => by rw [← hJ, va_up_ne _ _ ha]
  have hf : RF w I3 I1 J J1 := by
    refine ⟨fun x hx hn => ⟨fun a a1 a2 a3 => ?_, fun i _ _ => by rw [g 140 (by decide) (by decide) (by decide)], fun i _ _ => by rw [jn 143 (by decide)], fun i _ _ => by rw [jn 144 (by decide)], by rw [jn 146 (by decide)], jn 124 (by decide), fun j hj => ⟨by rw [g 148 (by decide) (by decide) (by decide)], by rw [g 149 (by decide) (by decide) (by decide)], by rw [g 150 (by decide) (by decide) (by decide)]⟩⟩, g 114 (by decide) (by decide) (by decide), fun j _ _ => by rw [g 112 (by decide) (by decide) (by decide)], jn 112 (by decide), jn 117 (by decide)⟩
    have q := b5.2 x hn
    by_cases y1 : a = 133
    · rw [y1]
      exact q.1
    by_cases y2 : a = 127
    · rw [y2]
      exact q.2.1
    by_cases y3 : a = 128
    · rw [y3]
      exact q.2.2
    rw [g a y1 y2 y3]
  have hRT : RT I3 I1 J J1 := ⟨fun a a1 a2 a3 a4 => g a (by omega) (by omega) (by omega), fun j _ _ => by rw [g 112 (by decide) (by decide) (by decide)], fun a a1 => jn a (by omega)⟩
  have hu' : uk cd (tr cd (sd + 7000003) V c0 (S 0 w)) = 0 ∨ uk cd (tr cd (sd + 7000003) V c0 (S 0 w)) = 4 := Or.inr (by rw [hc]; exact hu)
  have eL : uL cd (sd + 7000003) V c = (c 0 0 + 2, c 0 1, c 1, c 2, c 0 2, c 3) := by
    unfold uL
    rw [if_neg (fun y => by
      have z := shb_t.mp y
      unfold shd jnt at z
      omega)]
    unfold lop
    rcases z3 with y | y <;> (rw [y.1]; rfl)
  have lt := GD_L (bs := sd + 7000003) (V := V) hW hG (by omega) (fun y => by omega)
  rw [eL] at lt
  refine ⟨I1, J1, e1, MR_st hM' hP hw hf (OTH_L hP hw) (by rw [g 112 (by decide) (by decide) (by decide), SL_20 (by omega)]; exact m60) (by rw [SL_20 (by omega)]) (by rw [SL_20 (by omega)]) (by rw [SL_20 (by omega)]) (by rw [SL_20 (by omega)]) (MRe_fr hE (g 151 (by decide) (by decide) (by decide)) (g 153 (by decide) (by decide) (by decide)) (jn 152 (by decide)) (fun i hi h => bgn_L hu' f1 i hi h) (fun i j _ hi _ => snt_L hu' f1 i j hi)) (MRk_fr hK (jn 154 (by decide)) (jn 155 (by decide)) (fun j _ k h => hbk_L hu' f1 j k h) (fun j hj => SL_60 (by omega) (by omega))) (fun x hx hn => oth x hx) ?_, RT.tr o3 hRT, by rw [g 137 (by decide) (by decide) (by decide)]; exact o5 137 (by decide)⟩
  have ec : tr cd (sd + 7000003) V c0 (SL S w 0 w) = N4 cd (sd + 7000003) V c := by rw [SL_0, apn_s, tr_s, hc, nx4 hu]
  rw [ec]
  have fp : N4 cd (sd + 7000003) V c 0 8 = fp0 cd (N4 cd (sd + 7000003) V c 0 0) (c 0 7) := rfl
  have hv1 : RV I1 J1 w (c 0 1) (c 1) (c 2) (c 0 2) (c 3) := RV_eq o6 (by rw [g 145 (by decide) (by decide) (by decide)]) (by rw [g 141 (by decide) (by decide) (by decide)]) (g 140 (by decide) (by decide) (by decide)) (jn 143 (by decide)) (jn 144 (by decide))
  have n2 : N4 cd (sd + 7000003) V c 2 = c 2 := by
    show (uL cd (sd + 7000003) V c).2.2.2.1 = _
    rw [eL]
  have n02 : N4 cd (sd + 7000003) V c 0 2 = c 0 2 := by
    show (uL cd (sd + 7000003) V c).2.2.2.2.1 = _
    rw [eL]
  have n3 : N4 cd (sd + 7000003) V c 3 = c 3 := by
    show (uL cd (sd + 7000003) V c).2.2.2.2.2 = _
    rw [eL]
  have eS : stl cd (c 2) 2000 (c 0 0 + 2) (c 0 1) (c 1) = (N4 cd (sd + 7000003) V c 0 0, N4 cd (sd + 7000003) V c 0 1, N4 cd (sd + 7000003) V c 1) := by
    show _ = uS cd (sd + 7000003) V c
    unfold uS
    rw [eL]
  rw [opl2] at b3
  refine ⟨⟨c 0 0 + 2, c 0 1, c 1, lt.1, lt.2.1, by rw [n2, n02, n3]; exact hv1, b3, by rw [n2]; exact eS⟩, MRb_n fp rfl (by rw [SL_1]; exact f1) b4, ⟨?_, ?_, ?_, ?_, ?_, ?_, ?_, ?_, ?_, ?_, ?_, ?_, ?_, ?_, ?_, ?_, ?_, ?_, ?_, ?_⟩, ⟨?_, ?_, ?_, ?_, ?_⟩, own⟩
  · rw [g 129 (by decide) (by decide) (by decide), SL_5]
    exact r129
  · rw [g 130 (by decide) (by decide) (by decide), SL_6]
    exact r130
  · rw [g 131 (by decide) (by decide) (by decide), SL_1, r131, f1]
    rfl
  · rw [g 132 (by decide) (by decide) (by decide), SL_7]
    exact r132
  · exact b2
  · rw [g 134 (by decide) (by decide) (by decide)]
    exact r134
  · rw [g 135 (by decide) (by decide) (by decide)]
    exact r135
  · rw [g 136 (by decide) (by decide) (by decide)]
    exact r136
  · rw [g 137 (by decide) (by decide) (by decide), SL_2]
    exact r137
  · rw [g 138 (by decide) (by decide) (by decide), SL_3]
    exact r138
  · intro _
    rw [g 139 (by decide) (by decide) (by decide), SL_4]
    exact r139 (stt_1 f2 f3 (by omega))
  · rw [g 142 (by decide) (by decide) (by decide), SL_9]
    exact r142
  · rw [g 118 (by decide) (by decide) (by decide), SL_8]
    exact r118
  · rw [g 121 (by decide) (by decide) (by decide), SL_10]
    exact r121
  · rw [g 122 (by decide) (by decide) (by decide), SL_11]
    exact r122
  · rw [g 123 (by decide) (by decide) (by decide)]
    exact r123
  · rw [g 125 (by decide) (by decide) (by decide), SL_13]
    exact r125
  · rw [g 126 (by decide) (by decide) (by decide), SL_1, r126, f1]
    rfl
  · rw [g 119 (by decide) (by decide) (by decide), SL_14, SL_12]
    exact r119
  · rw [g 120 (by decide) (by decide) (by decide), SL_14]
    exact r120
  · intro y
    exfalso
    rw [fp] at y
    have := fp0_8 (cd := cd) (pos := N4 cd (sd + 7000003) V c 0 0) (o := c 0 7)
    omega
  · rw [SL_13, jn 124 (by decide)]
    exact d2
  · rw [g 148 (by decide) (by decide) (by decide), SL_30 (by omega) (by omega)]
    exact d3
  · rw [g 149 (by decide) (by decide) (by decide), SL_50 (by omega) (by omega)]
    exact d4
  · rw [g 150 (by decide) (by decide) (by decide), SL_40 (by omega) (by omega)]
    exact d5
end REF
