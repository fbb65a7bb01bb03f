/-! the run: receives of a check, in the reference, with all that is known -/
section REF
variable {cd : Nat → Nat} {sd bs : Int64} {V c c' c0 : Nat → Nat → Nat} {P n B w : Nat} {st : Nat → Bool} {hg : Nat → Nat} {S S' : Nat → Nat → Nat} {I I1 I' : MI} {J J1 J' : MJ}
theorem RA2r (hW : WFc cd n P st hg) (hP : P ≤ 4) (hw : w < P) (hM : MM cd st hg n P B sd V c0 S I J) (hT : TAM I' I J' J P (V 0 0) (V 1) (V 2) (V 3) (V 4)) (hI : PI cd (sd + 7000003) V c0 P S) (hC : C0 cd c0) (h0 : SG0 cd c0) (hc : tr cd (sd + 7000003) V c0 (S 0 w) = c) (hG : GD cd st hg c) (hb : BND (cd := cd) c) (hsc : c 0 10 ≤ 30000) (f1 : S 1 w = 1) (f2 : S 2 w = 0) (f3 : S 3 w = 0) (hu : uk cd c = 2) (hgt : ∀ j, j < P → S (40 + w) j < 2 ^ 31) (hv : RV I J w (c 0 1) (c 1) (c 2) (c 0 2) (c 3)) (hp7 : I 127 w = nI (c 0 0)) : (blr cd P c S w = true ∧ ∃ I1, f_Model_act (nI w) I J = some (0, I1, J) ∧ MM cd st hg n P B sd V c0 S I1 J ∧ RT I I1 J J) ∨ (blr cd P c S w = false ∧ ∃ I1, f_Model_act (nI w) I J = some (1, I1, J) ∧ MM cd st hg n P B sd V c0 (SR cd sd P c S w) I1 J ∧ RT I I1 J J) := by
  obtain ⟨z1, z2, z3, z4, z5⟩ := stv_S hb.2.2.2.2.2 hu
  have z8 : stv (c 0 8) < 8 := z1.1
  obtain ⟨I3, o1, o2, o3, o4, o5, o6, o7⟩ := ROPRE hP hw hM hC h0 hc hG hb hsc (by omega) z3 hv hp7
  rw [f1] at o4
  obtain ⟨p, q, pq, e1, -, -⟩ := AOUT (J := J) hW (show w < 4 by omega) hG hM.1.2.2.2.2.2.2.2.2.1 hp7 z3
  have hST : STG (c 0 8 + 1) (stv (c 0 8) + 1) := ⟨by omega, by
    have := z1.2
    omega⟩
  rw [OUTK (show w < 4 by omega) o1 o4 hST] at e1
  have hM' := o2
  obtain ⟨⟨m16, m17, m34, m35, m60, m24, m26, m28, m114, mk, mb, mo⟩, hE, hK, hp⟩ := o2
  have hpw := hp w hw
  rw [hc] at hpw
  obtain ⟨-, pb, ⟨r129, r130, r131, r132, r133, r134, r135, r136, r137, r138, r139, r142, r118, r121, r122, r123, r125, r126, r119, r120⟩, ⟨d1, d2, d3, d4, d5⟩, po⟩ := hpw
  have hnc : 8 * c 0 5 + stv (c 0 8) ≤ c 0 10 := hb.2.2.2.2.1
  rw [blr_2 (Or.inl hu)]
  rcases CHRM (J := J) hP hw m16 (fun j hj => ⟨hgt j hj, d5 j hj⟩) r134 hST.1 (by omega) with ⟨b1, b2⟩ | ⟨b1, I2, b2, b3, b4, b5, b6, b7, b8⟩
  · rw [b2, if_neg (show ¬ ¬ nI 0 = 0 from fun x => x rfl), ok_0] at e1
    exact Or.inl ⟨b1, I3, e1, hM', o3⟩
  · refine Or.inr ⟨b1, ?_⟩
    rw [b2] at e1
    by_cases x6 : c 0 8 = 6 ∨ c 0 8 = 16
    · have s6 := z5.mpr x6
      rw [if_pos (by omega)] at e1
      obtain ⟨ix, kd, hX⟩ := TRI (bs := sd + 7000003) (V := V) hC.1 hC.2.2.1 hC.2.2.2.2.1 (S 0 w)
      have hX' := hX
      obtain ⟨x1, x2, -⟩ := hX
      rw [hc] at x1 x2
      have hev : c 0 4 ≤ c 0 10 := hb.1
      have hE2 : MRe cd (sd + 7000003) V c0 P S I2 J := MRe_fr hE (b3 151 (by decide) (by decide) (by decide)) (b3 153 (by decide) (by decide) (by decide)) rfl (fun i _ h => h) (fun i j _ _ _ => Iff.rfl)
      have hT3 := RT.tam hT o3
      have hT2 : TAM I' I2 J' J P (V 0 0) (V 1) (V 2) (V 3) (V 4) := TAM_f2 hT3 (by rw [b3 112 (by decide) (by decide) (by decide)]) (b3 156 (by decide) (by decide) (by decide)) (b3 157 (by decide) (by decide) (by decide)) (b3 158 (by decide) (by decide) (by decide)) rfl
      have a5 := hI.2.2.2.2.1 w hw
      rw [hc] at a5
      have r9 := a5.2 hu (by omega)
      have hcoin := a5.1 (by omega)
      rw [r9, show c 0 5 + 1 - 1 = c 0 5 by omega] at hcoin
      obtain ⟨I4, d11, d12, d13, d14, d15, d16, d17⟩ := SUMM (J := J) (I := I2) (cn := fun j => dg_n (own sd j) (Int32.toInt64 (nI (S (60 + j) (c 0 5))))) (kk := csm (fun j => dg_n sd (Int32.toInt64 (nI j))) P) (show w < 4 by omega) hP (show c 0 5 < 4000 by omega) (by rw [b3 112 (by decide) (by decide) (by decide)]; exact m16) (fun j hj => ⟨dg_lt _ _, (hK j hj _ (hcoin j hj)).1⟩) (ERRM hP hw hE2 hI hT2 hX' hc hC hsc (by omega)) hb.2.2.2.1 x1 (by omega) (by rw [b3 135 (by decide) (by decide) (by decide)]; exact r135) (by rw [b3 136 (by decide) (by decide) (by decide)]; exact r136) ⟨csm_lt _ _, mk⟩ (by rw [b3 134 (by decide) (by decide) (by decide)]; exact r134)
      rw [x2] at d16 d17
      have ew : pM (csm (fun j => dg_n sd (Int32.toInt64 (nI j))) P) (wsm (lN (csm (fun j => dg_n (own sd j) (Int32.toInt64 (nI (S (60 + j) (c 0 5))))) P)) (c 5) (c 0 7)) = wgt sd P (fun j => nI (S (60 + j) (c 0 5))) (c 5) (c 0 7) := rfl
      rw [ew] at d16 d17
      have bdE : (wgt sd P (fun j => nI (S (60 + j) (c 0 5))) (c 5) (c 0 7) = 0 → bdv cd sd P c S = 0) ∧ (wgt sd P (fun j => nI (S (60 + j) (c 0 5))) (c 5) (c 0 7) ≠ 0 → bdv cd sd P c S = 1) := ⟨fun t => if_neg (fun r => r.2.2 t), fun t => if_pos ⟨hu, x6, t⟩⟩
      rw [d11, if_pos (show ¬ nI 1 = 0 by decide), ok_1] at e1
      obtain ⟨A, y1, y2, y3, y4⟩ := UP1 I4 128 w (nI (c 0 8 + 1 + 1))
      rw [y1] at e1
      have g : ∀ a, a ≠ 128 → a ≠ 132 → a ≠ 134 → a ≠ 136 → a ≠ 137 → a ≠ 142 → a ≠ 149 → a ≠ 150 → a ≠ 160 → a ≠ 161 → A a = I3 a := fun a q1 q2 q3 q4 q5 q6 q7 q8 q9 q10 => by rw [y2 a q1, d12 a q9 q10 q4 q3 q5 q7, b3 a q8 q2 q6]
      have m132 : A 132 = I2 132 := by rw [y2 132 (by decide), d12 132 (by decide) (by decide) (by decide) (by decide) (by decide) (by decide)]
      have m142 : A 142 = I2 142 := by rw [y2 142 (by decide), d12 142 (by decide) (by decide) (by decide) (by decide) (by decide) (by decide)]
      have m150 : A 150 = I2 150 := by rw [y2 150 (by decide), d12 150 (by decide) (by decide) (by decide) (by decide) (by decide) (by decide)]
      have m149 : A 149 = I4 149 := y2 149 (by decide)
      have n149 : I2 149 = I3 149 := b3 149 (by decide) (by decide) (by decide)
      have res := RRC2 (I1 := A) hP hw hM' hC hc hG hb hu f1 f2 f3 o6 o7 g (fun x hx => ⟨by rw [y4 x hx, d12 128 (by decide) (by decide) (by decide) (by decide) (by decide) (by decide), b3 128 (by decide) (by decide) (by decide)], by rw [m132]; exact (b4 x hx).1, by rw [y2 134 (by decide), (d13 x hx).2.1, b3 134 (by decide) (by decide) (by decide)], by rw [y2 136 (by decide), (d13 x hx).1, b3 136 (by decide) (by decide) (by decide)], by rw [y2 137 (by decide), (d13 x hx).2.2, b3 137 (by decide) (by decide) (by decide)], by rw [m142]; exact (b4 x hx).2⟩) y3 (by rw [m132]; exact b5) (by rw [y2 134 (by decide), d15, (N2_e x6).1]) (by
        rw [y2 136 (by decide), d14]
        show _ = nI (if c 0 8 = 6 ∨ c 0 8 = 16 then c 0 4 else c 0 11)
        rw [if_pos x6]) (by
        rw [y2 137 (by decide), d16, b3 137 (by decide) (by decide) (by decide)]
        by_cases t : wgt sd P (fun j => nI (S (60 + j) (c 0 5))) (c 5) (c 0 7) = 0
        · rw [if_pos t, bdE.1 t, if_neg (by decide)]
        · rw [if_neg t, bdE.2 t, if_pos rfl]) (by rw [m142, b6, if_neg (by omega), if_neg (by omega)]) (fun j hj => by
        rw [m149, d17, n149]
        by_cases t : wgt sd P (fun j => nI (S (60 + j) (c 0 5))) (c 5) (c 0 7) = 0
        · rw [if_neg (fun r => r.2 t), bdE.1 t, if_neg (by decide)]
        · rw [if_pos ⟨⟨by omega, by omega⟩, t⟩, bdE.2 t, if_pos rfl]
          by_cases v : j = w
          · rw [if_pos (by omega), if_pos v]
          · rw [if_neg (by omega), if_neg v]) (fun q hq => by
        rw [m149, d17, n149, if_neg (fun r => by omega)]) (fun j hj => by rw [m150]; exact b7 j hj) (fun q hq => by rw [m150]; exact b8 q hq)
      exact ⟨A, e1, res.1, RT.tr o3 res.2⟩
    · have s6 : stv (c 0 8) ≠ 6 := fun t => x6 (z5.mp t)
      rw [if_neg (by omega), if_pos (show ¬ nI 1 = 0 by decide), ok_1] at e1
      obtain ⟨A, y1, y2, y3, y4⟩ := UP1 I2 128 w (nI (c 0 8 + 1 + 1))
      rw [y1] at e1
      have bd : bdv cd sd P c S = 0 := if_neg (fun y => x6 y.2.1)
      have g : ∀ a, a ≠ 128 → a ≠ 132 → a ≠ 142 → a ≠ 150 → A a = I3 a := fun a q1 q2 q6 q8 => by rw [y2 a q1, b3 a q8 q2 q6]
      have res := RRC2 (I1 := A) hP hw hM' hC hc hG hb hu f1 f2 f3 o6 o7 (fun a q1 q2 q3 q4 q5 q6 q7 q8 q9 q10 => g a q1 q2 q6 q8) (fun x hx => ⟨by rw [y4 x hx, b3 128 (by decide) (by decide) (by decide)], by rw [y2 132 (by decide)]; exact (b4 x hx).1, by rw [g 134 (by decide) (by decide) (by decide) (by decide)], by rw [g 136 (by decide) (by decide) (by decide) (by decide)], by rw [g 137 (by decide) (by decide) (by decide) (by decide)], by rw [y2 142 (by decide)]; exact (b4 x hx).2⟩) y3 (by rw [y2 132 (by decide)]; exact b5) (by rw [g 134 (by decide) (by decide) (by decide) (by decide), (N2_n x6).1]; exact r134) (by
        rw [g 136 (by decide) (by decide) (by decide) (by decide)]
        show _ = nI (if c 0 8 = 6 ∨ c 0 8 = 16 then c 0 4 else c 0 11)
        rw [if_neg x6]
        exact r136) (by rw [g 137 (by decide) (by decide) (by decide) (by decide), bd, if_neg (by decide)]) (by
        rw [y2 142 (by decide), b6]
        by_cases t : stv (c 0 8) = 0
        · rw [if_pos (by omega), if_pos t]
        · rw [if_neg (by omega), if_neg t]) (fun j hj => by rw [g 149 (by decide) (by decide) (by decide) (by decide), bd, if_neg (by decide)]) (fun q _ => by rw [g 149 (by decide) (by decide) (by decide) (by decide)]) (fun j hj => by rw [y2 150 (by decide)]; exact b7 j hj) (fun q hq => by rw [y2 150 (by decide)]; exact b8 q hq)
      exact ⟨A, e1, res.1, RT.tr o3 res.2⟩
end REF
