/-! the run: sends of a check and of what is shown, in the reference, with all that is known -/
section TR0
variable {cd : Nat → Nat} {bs : Int64} {V c c0 : Nat → Nat → Nat}
/-- a check at its beginning has something to check -/
def SG0 (cd : Nat → Nat) (c : Nat → Nat → Nat) : Prop := (cd (c 0 0) = 15 ∨ cd (c 0 0) = 16) → c 0 8 = 0 → c 0 7 ≠ 0
theorem SG0_f {c' : Nat → Nat → Nat} {o : Nat} (h : c' 0 8 = fp0 cd (c' 0 0) o) (h7 : c' 0 7 = o) : SG0 cd c' := fun y z => by
  rw [h] at z
  unfold fp0 at z
  rw [if_pos y] at z
  rw [h7]
  intro t
  rw [if_pos t] at z
  cases z
theorem SG0_nx (h : SG0 cd c) : SG0 cd (nx cd bs V c) := by
  rcases UK cd c with ⟨u, q⟩ | ⟨u, q⟩ | ⟨u, q⟩ | ⟨u, q⟩ | ⟨u, q⟩
  · rw [nx0 u]
    exact SG0_f (o := c 0 7) rfl rfl
  · rw [nx1 u]
    exact SG0_f (o := c 0 7 + (if cd (c 0 0) = 13 then 0 else nus (cd (c 0 0)))) rfl rfl
  · rw [nx2 u]
    intro _ z
    have z' : c 0 8 + 2 = 0 := z
    omega
  · rw [nx3 u]
    intro _ z
    have z' : 10 = 0 := z
    omega
  · rw [nx4 u]
    exact SG0_f (o := c 0 7) rfl rfl
theorem tr_SG0 (h : SG0 cd c0) : ∀ i, SG0 cd (tr cd bs V c0 i)
  | 0 => h
  | i + 1 => SG0_nx (tr_SG0 h i)
theorem kdu_b : kdu cd c < 100 := by
  unfold kdu kdo
  split
  · omega
  · repeat' split
    all_goals omega
end TR0
def hco' (cd : Nat → Nat) (sd : Int64) (V c0 S : Nat → Nat → Nat) (j k : Nat) : Prop := hco cd (sd + 7000003) V c0 S j k
section REF
variable {cd : Nat → Nat} {sd bs : Int64} {V c c' c0 : Nat → Nat → Nat} {P n B w : Nat} {st : Nat → Bool} {hg : Nat → Nat} {S S' : Nat → Nat → Nat} {I I1 I' : MI} {J J1 J' : MJ}
theorem ok_0 : ok01 (some (0, I, J)) = some (0, I, J) := ok01_0 rfl
theorem ok_1 : ok01 (some (1, I, J)) = some (1, I, J) := ok01_1 rfl
/-- the kinds of the events since the last check, as the reference has them -/
theorem EVK {ix kd : Nat → Nat} (hw : w < P) (hE : MRe cd (sd + 7000003) V c0 P S I J) (hX : EIX cd (sd + 7000003) V c0 (S 0 w) ix kd) (hc : tr cd (sd + 7000003) V c0 (S 0 w) = c) : ∀ x, c 0 11 ≤ x → x < c 0 4 → I 151 x = nI (kd x) ∧ kd x < 100 ∧ ix (x + 1) = ix x + num (kd x) := fun x h1 h2 => by
  rw [← hc] at h1 h2
  obtain ⟨m, m1, m2, m3, m4, m5, m6, m7⟩ := hX.2.2 x h1 h2
  have q := (hE m m2 ⟨w, hw, Or.inl m1⟩).1
  rw [m3] at q
  exact ⟨by rw [q, m4], by rw [m4]; exact kdu_b, m5⟩
/-- the reference finds the first phase of an out -/
theorem ROPRE (hP : P ≤ 4) (hw : w < P) (hM : MM cd st hg n P B sd V c0 S I J) (hC : C0 cd c0) (h0 : SG0 cd c0) (hc : tr cd (sd + 7000003) V c0 (S 0 w) = c) (hG : GD cd st hg c) (hb : BND (cd := cd) c) (hsc : c 0 10 ≤ 30000) (f1 : S 1 w ≤ 1) (ho : cd (c 0 0) = 15 ∨ cd (c 0 0) = 16) (hv : RV I J w (c 0 1) (c 1) (c 2) (c 0 2) (c 3)) (hp7 : I 127 w = nI (c 0 0)) : ∃ I3, (∀ {α : Type} {F : Unit → MI → MJ → Option α}, oc (opre w I J) F = F () I3 J) ∧ MM cd st hg n P B sd V c0 S I3 J ∧ RT I I3 J J ∧ I3 128 w = nI (c 0 8 + S 1 w) ∧ (∀ a, a ≠ 128 → I3 a = I a) ∧ RV I3 J w (c 0 1) (c 1) (c 2) (c 0 2) (c 3) ∧ I3 127 w = nI (c 0 0) := by
  have hM' := hM
  obtain ⟨⟨m16, m17, m34, m35, m60, m24, m26, m28, m114, mk, mb, mo⟩, hE, hK, hp⟩ := hM
  have hpw := hp w hw
  rw [hc] at hpw
  obtain ⟨-, pb, ⟨r129, r130, r131, r132, r133, r134, r135, r136, r137, r138, r139, r142, r118, r121, r122, r123, r125, r126, r119, r120⟩, ⟨d1, d2, d3, d4, d5⟩, po⟩ := hpw
  obtain ⟨ix, kd, hX⟩ := TRI (bs := sd + 7000003) (V := V) hC.1 hC.2.2.1 hC.2.2.2.2.1 (S 0 w)
  have hX' := hX
  obtain ⟨x1, x2, -⟩ := hX
  rw [hc] at x1 x2
  have sg := hb.2.2.2.2.2
  have hev : c 0 4 ≤ c 0 10 := hb.1
  have sg0 := tr_SG0 (bs := sd + 7000003) (V := V) h0 (S 0 w)
  rw [hc] at sg0
  obtain ⟨r, hr, hrx⟩ : ∃ r, I 128 w = nI r ∧ (c 0 8 + S 1 w = if r = 0 then (if ix (c 0 4) = 0 then 8 else 0) else r) ∧ r < 100 := by
    unfold SGV at sg
    rcases pb with y | ⟨y1, y2, y3, y4⟩
    · refine ⟨_, y, ?_, by omega⟩
      by_cases z : c 0 8 + S 1 w = 0
      · have := sg0 ho (by omega)
        rw [if_pos z, if_neg (by omega)]
        exact z
      · rw [if_neg z]
    · refine ⟨0, y4, ?_, by omega⟩
      rw [if_pos rfl, if_pos (by omega)]
      omega
  obtain ⟨I3, o1, o2, o3, o4⟩ := OPRE (J := J) (x := c 0 8 + S 1 w) (show w < 4 by omega) (show c 0 4 ≤ 30001 by omega) hb.2.2.2.1 x1 r135 r136 (EVK hw hE hX' hc) hr hrx.2 hrx.1
  have e145 : I3 145 = I 145 := o2 145 (by decide)
  have hv3 : RV I3 J w (c 0 1) (c 1) (c 2) (c 0 2) (c 3) := RV_eq hv (by rw [e145]) (by rw [o2 141 (by decide)]) (o2 140 (by decide)) rfl rfl
  have hp3 : I3 127 w = nI (c 0 0) := by rw [o2 127 (by decide)]; exact hp7
  have hf : RF w I I3 J J := ⟨fun x hx hn => ⟨fun a a1 a2 a3 => by
      by_cases y : a = 128
      · rw [y]
        exact o4 x hn
      · rw [o2 a y], fun i _ _ => by rw [o2 140 (by decide)], fun i _ _ => rfl, fun i _ _ => rfl, rfl, rfl, fun j hj => ⟨by rw [o2 148 (by decide)], by rw [o2 149 (by decide)], by rw [o2 150 (by decide)]⟩⟩, o2 114 (by decide), fun j _ _ => by rw [o2 112 (by decide)], rfl, rfl⟩
  refine ⟨I3, o1, ?_, ⟨fun a a1 a2 a3 a4 => o2 a (by omega), fun j _ _ => by rw [o2 112 (by decide)], fun a a1 => rfl⟩, o3, o2, hv3, hp3⟩
  refine MR_st hM' hP hw hf (fun x hx hn => ⟨fun k hk => rfl, fun j hj => rfl, fun j hj => rfl, fun j hj => rfl, fun k => rfl, fun _ j hj => rfl⟩) (by rw [o2 112 (by decide)]; exact m60) rfl rfl rfl rfl (MRe_fr hE (o2 151 (by decide)) (o2 153 (by decide)) rfl (fun i _ h => h) (fun i j _ _ _ => Iff.rfl)) hK (fun x hx hn => (hp x hx).2.2.2.2) ?_
  rw [hc]
  refine ⟨MRa_s hG hv3 hp3, Or.inl o3, ?_, ⟨d1, d2, ?_, ?_, ?_⟩, po⟩
  · unfold MRc
    rw [o2 129 (by decide), o2 130 (by decide), o2 131 (by decide), o2 132 (by decide), o2 133 (by decide), o2 134 (by decide), o2 135 (by decide), o2 136 (by decide), o2 137 (by decide), o2 138 (by decide), o2 139 (by decide), o2 142 (by decide), o2 118 (by decide), o2 121 (by decide), o2 122 (by decide), o2 123 (by decide), o2 125 (by decide), o2 126 (by decide), o2 119 (by decide), o2 120 (by decide)]
    exact ⟨r129, r130, r131, r132, r133, r134, r135, r136, r137, r138, r139, r142, r118, r121, r122, r123, r125, r126, r119, r120⟩
  · rw [o2 148 (by decide)]
    exact d3
  · rw [o2 149 (by decide)]
    exact d4
  · rw [o2 150 (by decide)]
    exact d5
/-- act of an out is out -/
theorem AOUT (hW : WFc cd n P st hg) (hw : w < 4) (hG : GD cd st hg c) (h114 : ∀ k, k < n → I 114 k = nI (cd k)) (hp7 : I 127 w = nI (c 0 0)) (ho : cd (c 0 0) = 15 ∨ cd (c 0 0) = 16) : ∃ p q, q < 616 ∧ f_Model_act (nI w) I J = ok01 (f_Model_out (nI w) p (nI q) I J) ∧ (cd (c 0 0) = 15 → p = 0 ∧ q = 154 * w + cd (c 0 0 + 1)) ∧ (cd (c 0 0) = 16 → p = 1 ∧ q = 154 * w + 13 + cd (c 0 0 + 1)) := by
  have wf := WF_h hW hG.1
  have wa := (WF_a hW hG.1).1 (by omega)
  rcases ho with y | y
  · have l : c 0 0 + 1 < n := by
      have := wf.2.2.1
      rw [y, show opl 15 = 2 from rfl] at this
      omega
    exact ⟨0, 154 * w + cd (c 0 0 + 1), by omega, A15 hw hW.2.1 l (by omega) h114 hp7 y, fun _ => ⟨rfl, rfl⟩, fun e => by omega⟩
  · have l : c 0 0 + 1 < n := by
      have := wf.2.2.1
      rw [y, show opl 16 = 2 from rfl] at this
      omega
    exact ⟨1, 154 * w + 13 + cd (c 0 0 + 1), by omega, A16 hw hW.2.1 l (by omega) h114 hp7 y, fun e => by omega, fun _ => ⟨rfl, rfl⟩⟩
theorem RA2s (hW : WFc cd n P st hg) (hP : P ≤ 4) (hB : B ≤ 4) (hB1 : 1 ≤ B) (hw : w < P) (hM : MM cd st hg n P B sd V c0 S I J) (hI : PI cd (sd + 7000003) V c0 P S) (hC : C0 cd c0) (h0 : SG0 cd c0) (hc : tr cd (sd + 7000003) V c0 (S 0 w) = c) (hG : GD cd st hg c) (hb : BND (cd := cd) c) (hsc : c 0 10 ≤ 30000) (f1 : S 1 w = 0) (hu : uk cd c = 2) (hwr : ∀ j, j < P → S (30 + w) j < 2 ^ 31) (h8 : S 8 w ≤ 60000) (hcn : uk cd c = 2 ∧ stv (c 0 8) = 0 → ∀ x, x < P → S 9 x ≠ 0 → S 9 x - 1 ≠ c 0 5) (hv : RV I J w (c 0 1) (c 1) (c 2) (c 0 2) (c 3)) (hp7 : I 127 w = nI (c 0 0)) : (blk P B S w = true ∧ ∃ I1, f_Model_act (nI w) I J = some (0, I1, J) ∧ MM cd st hg n P B sd V c0 S I1 J ∧ RT I I1 J J) ∨ (blk P B S w = false ∧ ∃ I1 J1, f_Model_act (nI w) I J = some (1, I1, J1) ∧ MM cd st hg n P B sd V c0 (SX cd c S w) I1 J1 ∧ RT I I1 J J1 ∧ I1 137 = I 137) := by
  obtain ⟨z1, z2, z3, z4, z5⟩ := stv_S hb.2.2.2.2.2 hu
  have z8 : stv (c 0 8) < 8 := z1.1
  obtain ⟨I3, o1, o2, o3, o4, o5, o6, o7⟩ := ROPRE hP hw hM hC h0 hc hG hb hsc (by omega) z3 hv hp7
  rw [f1] at o4
  obtain ⟨p, q, pq, e1, -, -⟩ := AOUT (J := J) hW (show w < 4 by omega) hG hM.1.2.2.2.2.2.2.2.2.1 hp7 z3
  rw [OUTK (show w < 4 by omega) o1 o4 z1] at e1
  have hM' := o2
  obtain ⟨⟨m16, m17, m34, m35, m60, m24, m26, m28, m114, mk, mb, mo⟩, hE, hK, hp⟩ := o2
  have hpw := hp w hw
  rw [hc] at hpw
  obtain ⟨-, pb, ⟨r129, r130, r131, r132, r133, r134, r135, r136, r137, r138, r139, r142, r118, r121, r122, r123, r125, r126, r119, r120⟩, ⟨d1, d2, d3, d4, d5⟩, po⟩ := hpw
  have w0 : S (30 + w) w = 0 := hI.2.2.2.1 w hw
  have hnc : 8 * c 0 5 + stv (c 0 8) ≤ c 0 10 := hb.2.2.2.2.1
  obtain ⟨ua, ub, uc⟩ := u10_0 z3
  have n13 : cd (c 0 0) ≠ 13 := by omega
  have hev : evb cd c = false := decide_eq_false (by omega)
  rcases CHSM (J := J) hP hw hB m16 m17 (fun j hj => ⟨hwr j hj, d3 j hj⟩) (by omega) r134 (show c 0 5 < 4000 by omega) r118 (by omega) z8 z2 with ⟨b1, b2⟩ | ⟨b1, I2, J1, b2, b3, b4, b5, b6, b7, b8, b9, b10, b11, b12⟩
  · rw [b2, if_neg (show ¬ ¬ nI 0 = 0 from fun x => x rfl), ok_0] at e1
    exact Or.inl ⟨b1, I3, e1, hM', o3⟩
  · rw [b2, if_pos (show ¬ nI 1 = 0 by decide), ok_1] at e1
    obtain ⟨A, x1, x2, x3, x4⟩ := UP1 I2 128 w (nI (c 0 8 + 0 + 1))
    rw [x1] at e1
    have g : ∀ a, a ≠ 128 → a ≠ 148 → a ≠ 130 → a ≠ 118 → a ≠ 160 → a ≠ 161 → A a = I3 a := fun a y1 y2 y3 y4 y5 y6 => by rw [x2 a y1, b3 a y2 y3 y4 y5 y6]
    have res := RSND (I1 := A) (J1 := J1) hP hw hM' hc hG f1 hcn o6 o7 (fun a y1 y2 y3 y4 y5 y6 y7 y8 y9 y10 y11 y12 y13 y14 => g a y7 y10 y8 y2 y13 y14) (fun j _ => by rw [g 112 (by decide) (by decide) (by decide) (by decide) (by decide) (by decide)]) (by
      rw [g 112 (by decide) (by decide) (by decide) (by decide) (by decide) (by decide), SX_20 (by omega), apn_s, hev, if_neg (fun t => absurd t.1 (by decide))]
      exact m60) (fun x hx => ⟨by rw [x2 118 (by decide)]; exact b8 x hx, by rw [g 119 (by decide) (by decide) (by decide) (by decide) (by decide) (by decide)], by rw [g 121 (by decide) (by decide) (by decide) (by decide) (by decide) (by decide)], by rw [g 122 (by decide) (by decide) (by decide) (by decide) (by decide) (by decide)], by rw [g 126 (by decide) (by decide) (by decide) (by decide) (by decide) (by decide)], by rw [x4 x hx, b3 128 (by decide) (by decide) (by decide) (by decide) (by decide)], by rw [x2 130 (by decide)]; exact b4 x hx, by rw [g 131 (by decide) (by decide) (by decide) (by decide) (by decide) (by decide)]⟩) x3 (by rw [x2 130 (by decide)]; exact b5) (by
      rw [g 131 (by decide) (by decide) (by decide) (by decide) (by decide) (by decide), r131, psv_2 (Or.inr hev), psv_2 (Or.inr hev)]) (by
      rw [x2 118 (by decide), b9]
      unfold u8
      rw [if_pos hu]
      by_cases y : stv (c 0 8) = 0
      · rw [if_pos y, if_pos y]
      · rw [if_neg y, if_neg y]
        by_cases y2 : stv (c 0 8) = 4
        · rw [if_pos y2, if_pos y2]
        · rw [if_neg y2, if_neg y2]
          rfl) (by rw [g 121 (by decide) (by decide) (by decide) (by decide) (by decide) (by decide), ua]; exact r121) (by rw [g 122 (by decide) (by decide) (by decide) (by decide) (by decide) (by decide), ub]; exact r122) (by rw [g 126 (by decide) (by decide) (by decide) (by decide) (by decide) (by decide), r126, usv_0 n13, usv_0 n13]) (by rw [g 119 (by decide) (by decide) (by decide) (by decide) (by decide) (by decide), uc]; exact r119) (fun j hj => by rw [x2 148 (by decide)]; exact b6 j hj) (fun q hq => by rw [x2 148 (by decide)]; exact b7 q hq) (fun a _ y1 y2 => b10 a y1 y2) ?_ ?_
    · exact Or.inr ⟨b1, A, J1, e1, res.1, RT.tr o3 res.2.1, by rw [res.2.2]; exact o5 137 (by decide)⟩
    · refine MRe_fr hE (g 151 (by decide) (by decide) (by decide) (by decide) (by decide) (by decide)) (g 153 (by decide) (by decide) (by decide) (by decide) (by decide) (by decide)) (b10 152 (by decide) (by decide)) (fun i hi ⟨p, hp, q⟩ => ⟨p, hp, (snt_X (Or.inl ?_)).mp q⟩) (fun i j _ hi _ => snt_X (Or.inl ?_))
      · intro y
        rw [y, hc, hev] at hi
        cases hi
      · intro y
        rw [y, hc, hev] at hi
        cases hi
    · intro j hj k hk
      have old : hco' cd sd V c0 S j k ∨ (j = w ∧ k = c 0 5 ∧ stv (c 0 8) = 0) := by
        unfold hco'
        unfold hco at hk ⊢
        rw [SX_0, SX_1] at hk
        by_cases t : j = w
        · rw [t, apn_s, hc] at hk
          rw [t, hc]
          rcases hk with hk | ⟨hk, -⟩
          · exact Or.inl (Or.inl hk)
          · by_cases t2 : stv (c 0 8) = 0
            · exact Or.inr ⟨rfl, hk, t2⟩
            · exact Or.inl (Or.inr ⟨hk, hu, Or.inl (by omega)⟩)
        · rw [apn_n _ _ t] at hk
          exact Or.inl hk
      by_cases new : j = w ∧ k = c 0 5 ∧ stv (c 0 8) = 0
      · obtain ⟨n1, n2, n3⟩ := new
        rw [n1, n2, b11, if_pos ⟨n3, rfl⟩, b12, if_pos ⟨n3, rfl⟩, SX_w6, if_pos ⟨hu, n3⟩, apn_s, mo w hw]
        exact ⟨rfl, rfl⟩
      · have ho : hco' cd sd V c0 S j k := by
          rcases old with h | h
          · exact h
          · exact absurd h new
        have q := hK j hj k ho
        rw [b11, b12, if_neg (fun t => new ⟨by omega, by omega, t.1⟩), if_neg (fun t => new ⟨by omega, by omega, t.1⟩)]
        have es : SX cd c S w (60 + j) k = S (60 + j) k := by
          by_cases t : j = w
          · rw [t, SX_w6]
            by_cases t2 : uk cd c = 2 ∧ stv (c 0 8) = 0
            · rw [if_pos t2, apn_n _ _ (fun r => new ⟨t, r, t2.2⟩)]
            · rw [if_neg t2]
          · rw [SX_60 (by omega) (by omega) t]
        rw [es]
        exact q
end REF
