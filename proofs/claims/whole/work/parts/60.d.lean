/-! the run: a step alone, in the reference, with all that is known -/
/-- no other rows of the reference -/
def RT (I I1 : MI) (J J1 : MJ) : Prop := (∀ a, a < 118 ∨ 155 < a → a ≠ 112 → a ≠ 160 → a ≠ 161 → I1 a = I a) ∧ (∀ j, j ≠ 60 → j ≠ 86 → I1 112 j = I 112 j) ∧ (∀ a, a < 143 ∨ 155 < a → J1 a = J a)
theorem RT.tr {I I1 I2 : MI} {J J1 J2 : MJ} (h : RT I I1 J J1) (k : RT I1 I2 J1 J2) : RT I I2 J J2 := ⟨fun a a1 a2 a3 a4 => (k.1 a a1 a2 a3 a4).trans (h.1 a a1 a2 a3 a4), fun j j1 j2 => (k.2.1 j j1 j2).trans (h.2.1 j j1 j2), fun a a1 => (k.2.2 a a1).trans (h.2.2 a a1)⟩
theorem RT.tam {P NT : Nat} {tp ts tk tb : Nat → Nat} {I I' I1' : MI} {J J' J1' : MJ} (h : TAM I I' J J' P NT tp ts tk tb) (k : RT I' I1' J' J1') : TAM I I1' J J1' P NT tp ts tk tb := TAM_f2 h (k.2.1 66 (by decide) (by decide)) (k.1 156 (by omega) (by omega) (by omega) (by omega)) (k.1 157 (by omega) (by omega) (by omega) (by omega)) (k.1 158 (by omega) (by omega) (by omega) (by omega)) (k.2.2 159 (by omega))
section PURE
variable {cd : Nat → Nat} {bs sd : Int64} {V c c0 : Nat → Nat → Nat} {P n B w x : Nat} {st : Nat → Bool} {hg : Nat → Nat} {S S' : Nat → Nat → Nat}
/-- coins and sends where one goes on alone -/
theorem hbk_L (hu : uk cd (tr cd bs V c0 (S 0 w)) = 0 ∨ uk cd (tr cd bs V c0 (S 0 w)) = 4) (f1 : S 1 w = 0) (j k : Nat) (h : hco cd bs V c0 (SL S w) j k) : hco cd bs V c0 S j k := by
  unfold hco at h ⊢
  rw [SL_0, SL_1] at h
  by_cases z : j = w
  · rw [z] at h ⊢
    rw [apn_s, tr_s, f1] at h
    have e : nx cd bs V (tr cd bs V c0 (S 0 w)) 0 5 = tr cd bs V c0 (S 0 w) 0 5 := by
      rw [nx_nc, if_neg (by omega)]
      rfl
    rw [e] at h
    rcases h with h | ⟨h, q⟩
    · exact Or.inl h
    · exfalso
      have : stv (nx cd bs V (tr cd bs V c0 (S 0 w)) 0 8) = 0 := by
        rcases hu with u | u
        · rw [nx0 u]
          exact stv_f _ _
        · rw [nx4 u]
          exact stv_f _ _
      unfold pas at q
      omega
  · rw [apn_n _ _ z] at h
    exact h
theorem snt_L (hu : uk cd (tr cd bs V c0 (S 0 w)) = 0 ∨ uk cd (tr cd bs V c0 (S 0 w)) = 4) (f1 : S 1 w = 0) (i j : Nat) (he : evb cd (tr cd bs V c0 i) = true) : snt (SL S w) i j ↔ snt S i j := by
  have hi : i ≠ S 0 w := fun z => by
    rw [z] at he
    have := of_decide_eq_true he
    omega
  unfold snt
  rw [SL_0, SL_1]
  by_cases z : j = w
  · rw [z, apn_s]
    omega
  · rw [apn_n _ _ z]
theorem bgn_L (hu : uk cd (tr cd bs V c0 (S 0 w)) = 0 ∨ uk cd (tr cd bs V c0 (S 0 w)) = 4) (f1 : S 1 w = 0) (i : Nat) (he : evb cd (tr cd bs V c0 i) = true) (h : bgn P (SL S w) i) : bgn P S i := by
  obtain ⟨p, hp, q⟩ := h
  exact ⟨p, hp, (snt_L hu f1 i p he).mp q⟩
/-- and where one has received -/
theorem hbk_R (hs : SGV (cd (c0 0 0)) (c0 0 8)) (hc : tr cd bs V c0 (S 0 w) = c) (hu : uk cd c = 1 ∨ uk cd c = 2 ∨ uk cd c = 3) (f1 : S 1 w = bn (snb cd c w)) (j k : Nat) (h : hco cd bs V c0 (SR cd sd P c S w) j k) : hco cd bs V c0 S j k := by
  have sg := tr_SGV (bs := bs) (V := V) hs (S 0 w)
  rw [hc] at sg
  unfold hco at h ⊢
  rw [SR_0, SR_1] at h
  by_cases z : j = w
  · rw [z] at h ⊢
    rw [apn_s, apn_s, tr_s, hc] at h
    rw [hc]
    rcases hu with u | u | u
    · have e : nx cd bs V c 0 5 = c 0 5 := by
        rw [nx_nc, if_neg (by omega)]
        rfl
      have e2 : stv (nx cd bs V c 0 8) = 0 := by
        rw [nx1 u]
        exact stv_f _ _
      rw [e] at h
      unfold pas at h
      rw [e2] at h
      omega
    · have su : snb cd c w = true := by
        have uu := UK cd c
        rw [snb_1 (by omega), sdf_t (by omega)]
      rw [su, show bn true = 1 from rfl] at f1
      by_cases y : c 0 8 = 6 ∨ c 0 8 = 16
      · have q := uk_2e (bs := bs) (V := V) sg u y
        rw [q.2] at h
        rcases h with h | ⟨h, h2⟩
        · by_cases t : k = c 0 5
          · exact Or.inr ⟨t, u, Or.inr f1⟩
          · exact Or.inl (by omega)
        · exact absurd h2.1 q.1
      · have q := uk_2s (bs := bs) (V := V) sg u y
        rw [q.2.2] at h
        rcases h with h | ⟨h, h2⟩
        · exact Or.inl h
        · exact Or.inr ⟨h, u, Or.inr f1⟩
    · have e : nx cd bs V c 0 5 = c 0 5 := by
        rw [nx_nc, if_neg (by omega)]
        rfl
      have e2 : stv (nx cd bs V c 0 8) = 0 := by
        rw [nx3 u]
        rfl
      rw [e] at h
      unfold pas at h
      rw [e2] at h
      omega
  · rw [apn_n _ _ z, apn_n _ _ z] at h
    exact h
theorem snt_R (hc : tr cd bs V c0 (S 0 w) = c) (hu : uk cd c = 1 ∨ uk cd c = 2 ∨ uk cd c = 3) (f1 : S 1 w = bn (snb cd c w)) (i j : Nat) (hj : sdf cd (tr cd bs V c0 i 0 0) j = true) : snt (SR cd sd P c S w) i j ↔ snt S i j := by
  unfold snt
  rw [SR_0, SR_1]
  by_cases z : j = w
  · rw [z, apn_s, apn_s]
    rw [z] at hj
    by_cases y : i = S 0 w
    · rw [y, hc] at hj
      rw [snb_1 hu, hj, show bn true = 1 from rfl] at f1
      omega
    · omega
  · rw [apn_n _ _ z, apn_n _ _ z]
theorem bgn_R (hc : tr cd bs V c0 (S 0 w) = c) (hbg : bgn P S (S 0 w)) (hw : w < P) (i : Nat) (h : bgn P (SR cd sd P c S w) i) : bgn P S i := by
  obtain ⟨p, hp, q⟩ := h
  unfold snt at q
  rw [SR_0, SR_1] at q
  by_cases z : p = w
  · rw [z, apn_s, apn_s] at q
    by_cases y : i = S 0 w
    · rw [y]
      exact hbg
    · exact ⟨w, hw, Or.inl (by omega)⟩
  · rw [apn_n _ _ z, apn_n _ _ z] at q
    exact ⟨p, hp, q⟩
end PURE
section REF
variable {cd : Nat → Nat} {sd : Int64} {V c c' c0 : Nat → Nat → Nat} {P n B w : Nat} {st : Nat → Bool} {hg : Nat → Nat} {S S' : Nat → Nat → Nat} {I I1 : MI} {J J1 : MJ}
theorem MRb_n {o : Nat} (h : c' 0 8 = fp0 cd (c' 0 0) o) (h7 : c' 0 7 = o) (s1 : S' 1 w = 0) (h128 : I1 128 w = nI 0) : MRb S' c' I1 w := by
  unfold MRb
  rw [h128, s1, h, h7]
  unfold fp0
  split
  · split
    · rename_i y
      exact Or.inr ⟨rfl, rfl, y, rfl⟩
    · exact Or.inl rfl
  · exact Or.inl rfl
theorem fp0_8 {pos o : Nat} : fp0 cd pos o ≤ 8 := by
  unfold fp0
  split
  · split <;> omega
  · omega
theorem stt_1 {cs lk : Nat} (h2 : cs = 0) (h3 : lk = 0) (h0 : cd (c 0 0) ≠ 0) : stt cd c cs lk = 1 := by
  unfold stt
  rw [if_neg (by omega), if_neg (by omega), if_neg h0]
theorem OTH_L (hP : P ≤ 4) (hw : w < P) : OTH P w S (SL S w) := fun x hx hn => ⟨fun k hk => by
    unfold SL
    by_cases y : k = 0
    · rw [y, sr_s, apn_n _ _ hn]
    · rw [sr_n _ _ y], fun j hj => by rw [SL_30 (by omega) (by omega)], fun j hj => by rw [SL_40 (by omega) (by omega)], fun j hj => by rw [SL_50 (by omega) (by omega)], fun k => by rw [SL_60 (by omega) (by omega)], fun _ j hj => by rw [SL_60 (by omega) (by omega)]⟩
theorem RA0 (hW : WFc cd n P st hg) (hP : P ≤ 4) (hw : w < P) (hM : MM cd st hg n P B sd V c0 S I J) (hc : tr cd (sd + 7000003) V c0 (S 0 w) = c) (hG : GD cd st hg c) (hb : BND (cd := cd) c) (f1 : S 1 w = 0) (f2 : S 2 w = 0) (f3 : S 3 w = 0) (h0 : cd (c 0 0) ≠ 0) (hu : uk cd c = 0) (hd : c 0 6 ≤ S 20 4 ∧ S 20 4 ≤ 200) (hlk : lkS cd c S w = 0) (hv : RV I J w (c 0 1) (c 1) (c 2) (c 0 2) (c 3)) (hp7 : I 127 w = nI (c 0 0)) : ∃ I1 J1, f_Model_act (nI w) I J = some (1, I1, J1) ∧ MM cd st hg n P B sd V c0 (SL S w) I1 J1 ∧ RT I I1 J J1 ∧ I1 137 = I 137 := by
  letI := jdec cd (c 0 0)
  have hM' := hM
  have hG' := hG
  obtain ⟨g1, g2, g3, g4⟩ := hG
  obtain ⟨⟨m16, m17, m34, m35, m60, m24, m26, m28, m114, mk, mb, mo⟩, hE, hK, hp⟩ := hM
  have hpw := hp w hw
  rw [hc] at hpw
  obtain ⟨-, pb, ⟨r129, r130, r131, r132, r133, r134, r135, r136, r137, r138, r139, r142, r118, r121, r122, r123, r125, r126, r119, r120⟩, ⟨d1, d2, d3, d4, d5⟩, po⟩ := hpw
  rcases UK cd c with ⟨u, q1, q2, q3⟩ | ⟨u, -⟩ | ⟨u, -⟩ | ⟨u, -⟩ | ⟨u, -⟩
  · have h13 : cd (c 0 0) ≠ 13 := fun e => q3 (Or.inr (Or.inr (Or.inl e)))
    have sg : c 0 8 = 0 := by
      have := hb.2.2.2.2.2
      unfold SGV at this
      omega
    have ph : I 128 w = nI 0 := by
      rcases pb with y | y
      · rw [y, sg, f1]
      · omega
    have hlk' : lck cd (c 0 0) w (c 0 1) (c 1) (c 0 2) (S 20 2) (S 20 3) (S 20 4) (S 10 w) (S 11 w) (c 0 6) (S 13 w) (usv cd c (S 1 w) w) (S 14 w) (S 12 w) = 0 := hlk
    obtain ⟨l1, l2, l3, l4, l5, -⟩ := LK0 hlk'
    obtain ⟨I1, J1, w1, w2, w3, w4, w5, w6, w7⟩ := mACT (bt := dg_n (sd + 7000003) (lN (c 0 6)) % 2) hW (show w < 4 by omega) g1 g2 hv m114 hp7 ph q3 (by omega) q1 q2 l1 l2 l3 l4 (fun e => ⟨c 0 6, by omega, r123, by rw [mb]⟩)
    have eL : uL cd (sd + 7000003) V c = lop cd (fun _ => 0) 0 (dg_n (sd + 7000003) (lN (c 0 6)) % 2) (c 0 0) (c 0 1) (c 1) (c 2) (c 0 2) (c 3) := if_neg (fun y => q3 (shb_t.mp y))
    rw [← eL] at w2 w3
    have fI : ∀ a, a ≠ 145 → a ≠ 140 → a ≠ 141 → a ≠ 127 → a ≠ 128 → a ≠ 123 → a ≠ 160 → a ≠ 161 → I1 a = I a := w5.1
    have fJ : ∀ a, a ≠ 143 → a ≠ 144 → J1 a = J a := w5.2.2.2.1
    have hu' : uk cd (tr cd (sd + 7000003) V c0 (S 0 w)) = 0 ∨ uk cd (tr cd (sd + 7000003) V c0 (S 0 w)) = 4 := Or.inl (by rw [hc]; exact hu)
    have lt := GD_L (bs := sd + 7000003) (V := V) hW hG' (by omega) l4
    refine ⟨I1, J1, w1, MR_st hM' hP hw (RF_FA w5) (OTH_L hP hw) ?_ (by rw [SL_20 (by omega)]) (by rw [SL_20 (by omega)]) (by rw [SL_20 (by omega)]) (by rw [SL_20 (by omega)]) (MRe_fr hE (fI 151 (by decide) (by decide) (by decide) (by decide) (by decide) (by decide) (by decide) (by decide)) (fI 153 (by decide) (by decide) (by decide) (by decide) (by decide) (by decide) (by decide) (by decide)) (fJ 152 (by decide) (by decide)) (fun i hi h => bgn_L hu' f1 i hi h) (fun i j _ hi _ => snt_L hu' f1 i j hi)) (MRk_fr hK (fJ 154 (by decide) (by decide)) (fJ 155 (by decide) (by decide)) (fun j _ k h => hbk_L hu' f1 j k h) (fun j hj => SL_60 (by omega) (by omega))) (fun x hx hn => ?_) ?_, ⟨fun a a1 a2 a3 a4 => fI a (by omega) (by omega) (by omega) (by omega) (by omega) (by omega) a3 a4, fun j _ _ => by rw [fI 112 (by decide) (by decide) (by decide) (by decide) (by decide) (by decide) (by decide) (by decide)], fun a a1 => fJ a (by omega) (by omega)⟩, fI 137 (by decide) (by decide) (by decide) (by decide) (by decide) (by decide) (by decide) (by decide)⟩
    · rw [fI 112 (by decide) (by decide) (by decide) (by decide) (by decide) (by decide) (by decide) (by decide), SL_20 (by omega)]
      exact m60
    · unfold MRo
      rw [fJ 147 (by decide) (by decide)]
      exact (hp x hx).2.2.2.2
    · have ec : tr cd (sd + 7000003) V c0 (SL S w 0 w) = N0 cd (sd + 7000003) V c := by rw [SL_0, apn_s, tr_s, hc, nx0 hu]
      rw [ec]
      have fp : N0 cd (sd + 7000003) V c 0 8 = fp0 cd (N0 cd (sd + 7000003) V c 0 0) (c 0 7) := rfl
      have g : ∀ a, a < 123 ∨ 123 < a → a < 127 ∨ 128 < a → a < 140 ∨ 141 < a → a < 145 ∨ 145 < a → a < 160 → I1 a = I a := fun a a1 a2 a3 a4 a5 => fI a (by omega) (by omega) (by omega) (by omega) (by omega) (by omega) (by omega) (by omega)
      have g' : ∀ a, (a < 123 ∨ 123 < a) ∧ (a < 127 ∨ 128 < a) ∧ (a < 140 ∨ 141 < a) ∧ (a < 145 ∨ 145 < a) ∧ a < 160 → I1 a = I a := fun a h => g a h.1 h.2.1 h.2.2.1 h.2.2.2.1 h.2.2.2.2
      refine ⟨⟨(uL cd (sd + 7000003) V c).1, (uL cd (sd + 7000003) V c).2.1, (uL cd (sd + 7000003) V c).2.2.1, lt.1, lt.2.1, w2, w3, rfl⟩, MRb_n fp rfl (by rw [SL_1]; exact f1) w4, ⟨?_, ?_, ?_, ?_, ?_, ?_, ?_, ?_, ?_, ?_, ?_, ?_, ?_, ?_, ?_, ?_, ?_, ?_, ?_, ?_⟩, ⟨?_, ?_, ?_, ?_, ?_⟩, ?_⟩
      · rw [g' 129 (by decide), SL_5]
        exact r129
      · rw [g' 130 (by decide), SL_6]
        exact r130
      · rw [g' 131 (by decide), SL_1, r131, f1]
        rfl
      · rw [g' 132 (by decide), SL_7]
        exact r132
      · rw [g' 133 (by decide)]
        exact r133
      · rw [g' 134 (by decide)]
        exact r134
      · rw [g' 135 (by decide)]
        exact r135
      · rw [g' 136 (by decide)]
        exact r136
      · rw [g' 137 (by decide), SL_2]
        exact r137
      · rw [g' 138 (by decide), SL_3]
        exact r138
      · intro _
        rw [g' 139 (by decide), SL_4]
        exact r139 (stt_1 f2 f3 h0)
      · rw [g' 142 (by decide), SL_9]
        exact r142
      · rw [g' 118 (by decide), SL_8]
        exact r118
      · rw [g' 121 (by decide), SL_10]
        exact r121
      · rw [g' 122 (by decide), SL_11]
        exact r122
      · show I1 123 w = nI (c 0 6 + (if cd (c 0 0) = 27 then 1 else 0))
        by_cases y : cd (c 0 0) = 27
        · rw [if_pos y, w7 y, r123, nI_1]
        · rw [if_neg y, w6 y]
          exact r123
      · rw [g' 125 (by decide), SL_13]
        exact r125
      · rw [g' 126 (by decide), SL_1, r126, f1]
        rfl
      · rw [g' 119 (by decide), SL_14, SL_12]
        exact r119
      · rw [g' 120 (by decide), SL_14]
        exact r120
      · intro y
        exfalso
        rw [fp] at y
        have := fp0_8 (cd := cd) (pos := N0 cd (sd + 7000003) V c 0 0) (o := c 0 7)
        omega
      · rw [SL_13, fJ 124 (by decide) (by decide)]
        exact d2
      · rw [g' 148 (by decide), SL_30 (by omega) (by omega)]
        exact d3
      · rw [g' 149 (by decide), SL_50 (by omega) (by omega)]
        exact d4
      · rw [g' 150 (by decide), SL_40 (by omega) (by omega)]
        exact d5
      · unfold MRo
        rw [fJ 147 (by decide) (by decide)]
        exact po
  · omega
  · omega
  · omega
  · omega
end REF
