/-! the run: receives of shared operations, in the class, with all that is known -/
section CLS
variable {cd : Nat → Nat} {sd : Int64} {V c c' c0 : Nat → Nat → Nat} {P n B w : Nat} {st : Nat → Bool} {hg : Nat → Nat} {S S' : Nat → Nat → Nat} {X X1 : MX} {I I' I1 : MI} {J J' J1 : MJ}
/-- nothing is there yet -/
def blr (cd : Nat → Nat) (P : Nat) (c S : Nat → Nat → Nat) (w : Nat) : Bool := anyb (fun j => decide (j ≠ w) && (snb cd c j && decide (S (40 + w) j = 0))) P 0
theorem snb_1 {j : Nat} (h : uk cd c = 1 ∨ uk cd c = 2 ∨ uk cd c = 3) : snb cd c j = sdf cd (c 0 0) j := by
  unfold snb
  rw [decide_eq_true h, Bool.true_and]
theorem blr_1 (h : uk cd c = 1 ∨ uk cd c = 2 ∨ uk cd c = 3) : blr cd P c S w = anyb (fun j => decide (j ≠ w) && (sdf cd (c 0 0) j && decide (S (40 + w) j = 0))) P 0 := anyb_c _ _ (fun j _ _ => by rw [snb_1 h])
theorem EXRB {pos : Nat} {gt : Nat → Nat} (hW : WFc cd n P st hg) (hw : w < 4) (hP : P ≤ 4) (hs : st pos = true) (hr : rowC I 15 16 n cd) (hp : I (18 + 21 * w) 8 = nI pos) (hx : I (18 + 21 * w) 0 = nI w) (hph : ¬ I (18 + 21 * w) 9 = 0) (h6 : I 14 6 = nI P) (hg : ∀ j, j < P → gt j < 2 ^ 31 ∧ I (35 + 21 * w) j = nI (gt j)) (hbl : anyb (fun j => decide (j ≠ w) && (sdf cd pos j && decide (gt j = 0))) P 0 = true) {α : Type} {F : Int32 → MI → MJ → Option α} : oc (f_Hall_exchange w (nI (cd pos)) I J) F = F (nI 0) I J := by
  obtain ⟨z1, z2, z3, z4, z5⟩ := WF_h hW hs
  have hn := hW.2.1
  obtain ⟨wa1, wa2, wa3, wa4, wa5, wa6⟩ := WF_a hW hs
  have hf := frm_HF (cd := cd) (pos := pos) (fun x => by have := (wa2 x).2; omega)
  have fr : ∀ {α : Type} {F : Int32 → MI → MJ → Option α}, oc ((if ¬ nI (cd pos) = 13 then (some ((-1), I, J)) else (oc (f_Row_at 15 16 2000 ((I (18 + 21 * w) 8) + 2) I J) (fun v5 I5 J5 => some (v5, I5, J5)))) : M2 (Int32)) F = F (frm cd pos) I J := by
    intro α F
    unfold frm
    by_cases x : cd pos = 13
    · rw [x, show opl 13 = 3 from rfl] at z3
      rw [if_neg (show ¬ ¬ nI (cd pos) = 13 from fun y => y (by rw [x]; rfl)), if_pos x, hp, show nI pos + 2 = nI (pos + 2) from nI_add pos 2, oc_oc, w_in hr hn (by omega), oc_some]
    · rw [if_pos (show ¬ nI (cd pos) = 13 from fun y => x ((nI_eq (b := 13) (by omega) (by omega)).mp y)), if_neg x, oc_some]
      rfl
  rcases RCVC (J := J) hP hw hf h6 hx hg with ⟨b1, b2⟩ | ⟨b1, -⟩
  · unfold f_Hall_exchange
    rw [if_pos hph, fr, oc_oc, b2, if_neg (show ¬ ¬ nI 0 = 0 from fun x => x rfl), oc_some]
    rfl
  · rw [hbl] at b1
    cases b1
theorem OTH_R (hP : P ≤ 4) (hw : w < P) : OTH P w S (SR cd sd P c S w) := fun x hx hn => ⟨fun k hk => by
    rcases (show k = 0 ∨ k = 1 ∨ k = 2 ∨ k = 3 ∨ k = 4 ∨ k = 5 ∨ k = 6 ∨ k = 7 ∨ k = 8 ∨ k = 9 ∨ k = 10 ∨ k = 11 ∨ k = 12 ∨ k = 13 ∨ k = 14 by omega) with e | e | e | e | e | e | e | e | e | e | e | e | e | e | e <;> rw [e]
    · rw [SR_0, apn_n _ _ hn]
    · rw [SR_1, apn_n _ _ hn]
    · rw [SR_2, apn_n _ _ hn]
    · rw [SR_3]
    · rw [SR_4]
    · rw [SR_5]
    · rw [SR_6]
    · rw [SR_7, apn_n _ _ hn]
    · rw [SR_8]
    · rw [SR_9]
      split
      · rw [apn_n _ _ hn]
      · rfl
    · rw [SR_10]
    · rw [SR_11]
    · rw [SR_12]
    · rw [SR_13]
    · rw [SR_14], fun j hj => by rw [SR_30 (by omega) (by omega)], fun j hj => by rw [SR_40 (by omega) (by omega) hn], fun j hj => by rw [SR_50 (by omega) (by omega) hn], fun k => by rw [SR_60 (by omega) (by omega)], fun y j hj => by rw [SR_60 (by omega) (by omega)]⟩
theorem bdv_0 (h : uk cd c ≠ 2) : bdv cd sd P c S = 0 := if_neg (fun y => h y.1)
theorem sdf_13 {j : Nat} (h : cd (c 0 0) = 13) : bn (sdf cd (c 0 0) j) = if j = cd (c 0 0 + 2) then 1 else 0 := by
  unfold sdf bn
  rw [if_pos h]
  by_cases y : j = cd (c 0 0 + 2)
  · rw [if_pos (decide_eq_true y), if_pos y]
  · rw [if_neg (fun z => y (of_decide_eq_true z)), if_neg y]
theorem CA1r (hW : WFc cd n P st hg) (hP : P ≤ 4) (hw : w < P) (hM : MC cd n P B sd V c0 S X I J) (hT : TAM I I' J J' P (V 0 0) (V 1) (V 2) (V 3) (V 4)) (hc : tr cd (sd + 7000003) V c0 (S 0 w) = c) (hG : GD cd st hg c) (hb : BND (cd := cd) c) (hsc : c 0 10 ≤ 30000) (hpl : ∀ j, j < P → c 6 j < 2 ^ 31) (f1 : S 1 w = bn (snb cd c w)) (f2 : S 2 w = 0) (f3 : S 3 w = 0) (hu : uk cd c = 1) (hgt : ∀ j, j < P → S (40 + w) j < 2 ^ 31) (hgi : ∀ j, j < P → S 13 j ≤ 100) (h40 : nzc (nx cd (sd + 7000003) V c 5) (nx cd (sd + 7000003) V c 0 7) ≤ 40) (hin : blr cd P c S w = false → cd (c 0 0) = 13 → c 8 (cd (c 0 0 + 2)) < S 13 (cd (c 0 0 + 2))) : (blr cd P c S w = true ∧ f_Hall_act w X I J = some (0, X, I, J)) ∨ (blr cd P c S w = false ∧ ∃ I1 J1, f_Hall_act w X I J = some (1, X, I1, J1) ∧ MC cd n P B sd V c0 (SR cd sd P c S w) X I1 J1 ∧ CF w I I1 J J1) := by
  letI := jdec cd (c 0 0)
  letI := sdec cd (c 0 0)
  have hM' := hM
  obtain ⟨g1, g2, g3, g4⟩ := hG
  obtain ⟨hG0, hX, hp⟩ := hM
  have hpw := hp w hw
  rw [hc] at hpw
  obtain ⟨⟨a0, a6, a8, a9, a10, a11, a12, a13, a14⟩, cv, ⟨⟨s, s1, s2, s3⟩, k5, k6, k7, k8⟩, ⟨t2, t3, t4, t5, u0, u1, u2, ui⟩, ⟨o5, o6, o7, o8, o33, o34, o35, o36, o37⟩, ov⟩ := hpw
  obtain ⟨m6, m8, m9, m10, m7, mr, md0, md1, md2⟩ := hG0
  rcases UK cd c with ⟨u, -⟩ | ⟨u, q1, q2, q3⟩ | ⟨u, -⟩ | ⟨u, -⟩ | ⟨u, -⟩
  · omega
  · have sg : c 0 8 = 0 := by
      have := hb.2.2.2.2.2
      unfold SGV at this
      omega
    have wf := WF_h hW g1
    have wa := WF_a hW g1
    have nm := hW.2.1
    rw [snb_1 (Or.inl hu)] at f1
    have ph : I (18 + 21 * w) 9 = nI 1 := by
      rw [a9]
      unfold cph
      by_cases e : cd (c 0 0) = 13
      · rw [if_pos e]
        by_cases y : cd (c 0 0 + 2) = w
        · rw [if_pos y, f1, sdf_13 e, if_pos y.symm]
        · rw [if_neg y]
      · rw [if_neg e, sg, f1, sdf_t e]
        rfl
    have ph' : ¬ I (18 + 21 * w) 9 = 0 := by
      rw [ph]
      decide
    have e2 := ACC1 (X := X) (J := J) nm mr a8 wf.2.1 wf.2.2.1 wf.1 q1 q2 ph' (by rw [a12, f3]) q3
    cases bl : blr cd P c S w with
    | true =>
      refine Or.inl ⟨rfl, ?_⟩
      rw [blr_1 (Or.inl hu)] at bl
      rw [e2, EXRB hW (by omega) hP g1 mr a8 a0 ph' m6 (fun j hj => ⟨hgt j hj, o35 j hj⟩) bl]
      rfl
    | false =>
      refine Or.inr ⟨rfl, ?_⟩
      have bl' := bl
      rw [blr_1 (Or.inl hu)] at bl
      have hnz : cd (c 0 0) ≠ 13 → NZ (ape (c 5) (c 0 7) (uE cd V c)) (nts (uE cd V c) (nus (cd (c 0 0))) 0 s).2.1 (nts (uE cd V c) (nus (cd (c 0 0))) 0 s).2.2.1 (nts (uE cd V c) (nus (cd (c 0 0))) 0 s).2.2.2 (nts (uE cd V c) (nus (cd (c 0 0))) 0 s).1 := fun y => by
        refine NZ_s _ _ _ ?_ (fun j hj => ?_)
        · rw [s3]
          exact NZ_e _ _ s2 (fun k hk => ape_l hk)
        · rw [s3, ape_r, Nat.zero_add]
      have hmo := nts_mono (uE cd V c) (nus (cd (c 0 0))) 0 s
      have hop : c 0 7 ≤ 32 * c 0 10 := hb.2.2.1
      have hnu := nus_le (cd (c 0 0))
      rcases EXRC (gt := fun j => S (40 + w) j) (bt := 0) (inp := uI cd V c) hW (show w < 4 by omega) hP g1 g2 cv mr a8 a0 q3 ph' m6 (fun j hj => ⟨hgt j hj, o35 j hj⟩) hT (fun j hj => ⟨hpl j hj, o36 j hj⟩) s1 (fun y => ⟨by
          have e := NZ_n _ _ (hnz y)
          rw [nx1 hu] at h40
          have h40' : nzc (if cd (c 0 0) = 13 then c 5 else ape (c 5) (c 0 7) (uE cd V c)) (c 0 7 + (if cd (c 0 0) = 13 then 0 else nus (cd (c 0 0)))) ≤ 40 := h40
          rw [if_neg y, if_neg y] at h40'
          show (nts (uE cd V c) (nus (cd (c 0 0))) 0 s).1 ≤ 40
          rw [e, hmo.2, s3]
          exact h40', by omega⟩) (fun y => by
          have q := wa.2.1 y
          have z := hin bl' y
          have zg := hgi _ q.2
          have mq := (hp _ q.2).2.2.2.1.2.2.2.2.2.2.2 (c 8 (cd (c 0 0 + 2))) z
          refine ⟨c 8 (cd (c 0 0 + 2)), by omega, o37 _ q.2, ?_, ?_⟩
          · unfold uI
            rw [if_pos y]
            exact mq.1
          · unfold uI
            rw [if_pos y]
            exact mq.2) with ⟨b1, -⟩ | ⟨b1, I1, J1, b2, b3, b4, b5, b6, b7, b8, b9⟩
      · rw [bl] at b1
        cases b1
      · have eL : uL cd (sd + 7000003) V c = lop cd (eE (V 0 0) (V 1) (V 2) (V 3) (V 4) (sdf cd (c 0 0)) (c 6)) (uI cd V c) 0 (c 0 0) (c 0 1) (c 1) (c 2) (c 0 2) (c 3) := if_pos (shb_t.mpr q3)
        obtain ⟨v1, v2, v3, v4, v5⟩ := b3 _ (uS cd (sd + 7000003) V c) _ eL rfl rfl
        rw [b2] at e2
        obtain ⟨n1, n2, n3, n4, n5, n28, n29, n31, n33, n34, nJ18, nJ30⟩ := b9
        have hf : CF w I I1 J J1 := ⟨fun a x1 x2 x3 => n1 a (by omega), fun a x1 x2 => n2 a x2 (by omega)⟩
        refine ⟨I1, J1, e2, MC_st hM' hP hw hf (OTH_R hP hw) (by rw [SR_20 (by omega)]) (by rw [SR_20 (by omega)]) (by rw [SR_20 (by omega)]) (by rw [SR_20 (by omega)]) ?_, hf⟩
        have b0 : bdv cd sd P c S = 0 := bdv_0 (by omega)
        have r1 : SR cd sd P c S w 1 w = 0 := by rw [SR_1, apn_s]
        have r2 : SR cd sd P c S w 2 w = 0 := by rw [SR_2, apn_s, b0, if_neg (by decide), f2]
        have r9 : SR cd sd P c S w 9 = S 9 := by rw [SR_9, if_neg (by omega)]
        have ec : tr cd (sd + 7000003) V c0 (SR cd sd P c S w 0 w) = N1 cd (sd + 7000003) V c := by rw [SR_0, apn_s, tr_s, hc, nx1 hu]
        rw [ec]
        have eo : (if cd (c 0 0) = 13 then s else nts (eE (V 0 0) (V 1) (V 2) (V 3) (V 4) (sdf cd (c 0 0)) (c 6)) (nus (cd (c 0 0))) 0 s).2.2.2 = c 0 7 + (if cd (c 0 0) = 13 then 0 else nus (cd (c 0 0))) := by
          by_cases y : cd (c 0 0) = 13
          · rw [if_pos y, if_pos y, s3]
            rfl
          · rw [if_neg y, if_neg y]
            show (nts (uE cd V c) (nus (cd (c 0 0))) 0 s).2.2.2 = _
            rw [hmo.2, s3]
        rw [eo] at v3
        have fp : N1 cd (sd + 7000003) V c 0 8 = fp0 cd (N1 cd (sd + 7000003) V c 0 0) (c 0 7 + (if cd (c 0 0) = 13 then 0 else nus (cd (c 0 0)))) := rfl
        refine ⟨MCa_n fp r1 r2 (by rw [SR_3]; exact f3) (by rw [n3 0 (by decide) (by decide) (by decide)]; exact a0) (by rw [n3 6 (by decide) (by decide) (by decide)]; exact a6) v2 v3 v4 (by rw [n3 11 (by decide) (by decide) (by decide), a11, f2]) (by rw [n3 12 (by decide) (by decide) (by decide), a12, f3]) (by rw [n3 13 (by decide) (by decide) (by decide), a13, SR_5]), v1, ⟨⟨_, v5, ?_, eo⟩, ?_, ?_, ?_, ?_⟩, ⟨?_, ?_, ?_, ?_, ?_, ?_, ?_, ?_⟩, ⟨?_, ?_, ?_, ?_, ?_, ?_, ?_, ?_, ?_⟩, ?_⟩
        · show NZ (if cd (c 0 0) = 13 then c 5 else ape (c 5) (c 0 7) (uE cd V c)) _ _ (c 0 7 + (if cd (c 0 0) = 13 then 0 else nus (cd (c 0 0)))) _
          by_cases y : cd (c 0 0) = 13
          · rw [if_pos y, if_pos y, if_pos y]
            exact s2
          · rw [if_neg y, if_neg y, if_neg y]
            have := hnz y
            rw [hmo.2, s3] at this
            exact this
        · rw [n4 5 (by decide) (by decide)]
          exact k5
        · rw [n4 6 (by decide) (by decide), SR_8]
          exact k6
        · rw [r1]
          exact fun y => absurd y (pas_n fp)
        · rw [n4 8 (by decide) (by decide), n28, r9]
          rcases k8 with y | ⟨y1, y2, y3⟩
          · exact Or.inl y
          · exact Or.inr ⟨y1, y2, fun j hj => by rw [SR_60 (by omega) (by omega)]; exact y3 j hj⟩
        · rw [n29, SR_13]
          exact t2
        · rw [n29, r1, t3]
          show nI (usv cd c (S 1 w) w) = nI (c 8 w + (if cd (c 0 0) = 13 ∧ w = cd (c 0 0 + 2) then 1 else 0) + (if 0 = 1 ∧ cd (N1 cd (sd + 7000003) V c 0 0) = 13 then 1 else 0))
          unfold usv
          rw [if_neg (show ¬ (0 = 1 ∧ cd (N1 cd (sd + 7000003) V c 0 0) = 13) from fun z => absurd z.1 (by decide))]
          by_cases y : cd (c 0 0) = 13
          · rw [f1, sdf_13 y]
            by_cases z : w = cd (c 0 0 + 2)
            · rw [if_pos z, if_pos ⟨rfl, y⟩, if_pos ⟨y, z⟩]
            · rw [if_neg z, if_neg (fun t => absurd t.1 (by decide)), if_neg (fun t => z t.2)]
          · rw [if_neg (fun t => y t.2), if_neg (fun t => y t.1)]
        · rw [n29, SR_14]
          exact t4
        · rw [n29, SR_12]
          exact t5
        · rw [n31, SR_10]
          exact u0
        · rw [n31, SR_11]
          exact u1
        · rw [n31]
          exact u2
        · rw [SR_13, nJ30]
          exact ui
        · rw [n5 5 (by decide), SR_6]
          exact o5
        · rw [n5 6 (by decide), r1, o6]
          show nI (psv cd c (S 1 w) w) = nI (c 6 w + bn (sdf cd (c 0 0) w) + (if 0 = 1 ∧ evb cd (N1 cd (sd + 7000003) V c) = true then 1 else 0))
          unfold psv
          rw [if_neg (show ¬ (0 = 1 ∧ evb cd (N1 cd (sd + 7000003) V c) = true) from fun z => absurd z.1 (by decide)), f1, evb1 hu]
          cases sdf cd (c 0 0) w with
          | true => rfl
          | false => rfl
        · rw [b6, o7, nI_1, SR_7, apn_s]
        · rw [n5 8 (by decide), SR_4]
          exact o8
        · rw [n33, SR_30 (by omega) (by omega)]
          exact o33
        · rw [n34, SR_w5, b0, if_neg (by decide)]
          exact o34
        · intro j hj
          rw [b5 j hj, SR_w4 (by omega)]
          show _ = nI (if j ≠ w ∧ snb cd c j = true then S (40 + w) j - 1 else S (40 + w) j)
          rw [snb_1 (Or.inl hu)]
        · intro j hj
          rw [b4 j hj]
          show _ = nI (c 6 j + bn (sdf cd (c 0 0) j))
          cases sdf cd (c 0 0) j with
          | true => rfl
          | false => rfl
        · intro j hj
          show _ = nI (c 8 j + (if cd (c 0 0) = 13 ∧ j = cd (c 0 0 + 2) then 1 else 0))
          by_cases y : cd (c 0 0) = 13
          · rw [b8 y]
            by_cases z : j = cd (c 0 0 + 2)
            · rw [if_pos z, if_pos ⟨y, z⟩, o37 j hj, nI_1]
            · rw [if_neg z, if_neg (fun t => z t.2), o37 j hj]
              rfl
          · rw [b7 y, if_neg (fun t => y t.1)]
            exact o37 j hj
        · refine OV_fr ov rfl rfl (Nat.le_refl _) (n2 _ ?_ ?_)
          all_goals
            have := ov.2.1
            omega
  · omega
  · omega
  · omega
end CLS
