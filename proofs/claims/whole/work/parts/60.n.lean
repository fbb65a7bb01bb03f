/-! the run: a step, of the class and of the reference -/
def OUTC (cd : Nat → Nat) (st : Nat → Bool) (hg : Nat → Nat) (n P B : Nat) (sd : Int64) (V c0 S : Nat → Nat → Nat) (X : MX) (I : MI) (J : MJ) (I' : MI) (J' : MJ) (w : Nat) : Prop := ∃ a d S1 X1 I1 J1 I1' J1', f_Hall_stepOf w X I J = some (nI a, X1, I1, J1) ∧ f_Model_stepOf (nI w) I' J' = some (nI a, I1', J1') ∧ RU cd st hg n P B sd V c0 S1 X1 I1 J1 I1' J1' ∧ XR X X1 ∧ d ≤ 1 ∧ S1 20 0 = S 20 0 + d ∧ I1' 112 86 = nI d ∧ CFG I I1 J J1 ∧ RTG I' I1' J' J1'
section STEP
variable {cd : Nat → Nat} {sd : Int64} {V c c0 : Nat → Nat → Nat} {P n B w : Nat} {st : Nat → Bool} {hg : Nat → Nat} {S S' : Nat → Nat → Nat} {X X1 : MX} {I I1 I2 I' I1' A : MI} {J J1 J2 J' J1' : MJ}
theorem CALK (hW : WFc cd n P st hg) (hP : P ≤ 4) (hw : w < P) (hM : MC cd n P B sd V c0 S X I J) (hc : tr cd (sd + 7000003) V c0 (S 0 w) = c) (hG : GD cd st hg c) (hb : BND (cd := cd) c) (hI : PI cd (sd + 7000003) V c0 P S) (hu : uk cd c = 0 ∨ (uk cd c = 1 ∧ snb cd c w = true ∧ S 1 w = 0)) (hd : S 10 w ≤ S 20 2 ∧ S 11 w ≤ S 20 3 ∧ c 0 6 ≤ S 20 4) (hd2 : S 20 2 ≤ 200 ∧ S 20 3 ≤ 200 ∧ S 20 4 ≤ 200) (hus : usv cd c (S 1 w) w ≤ S 13 w ∧ S 13 w ≤ 100) (hmt : S 12 w ≤ S 14 w ∧ S 14 w ≤ 200) (hlk : lkS cd c S w ≠ 0) : ∃ I1, f_Hall_act w X I J = some (nI 4, X, I1, J) ∧ (∀ b, b ≠ 18 + 21 * w → I1 b = I b) ∧ (∀ j, j ≠ 10 → j ≠ 12 → I1 (18 + 21 * w) j = I (18 + 21 * w) j) ∧ I1 (18 + 21 * w) 10 = nI 4 ∧ I1 (18 + 21 * w) 12 = nI (lkS cd c S w) := by
  letI := jdec cd (c 0 0)
  letI := sdec cd (c 0 0)
  obtain ⟨hG0, hX, hp⟩ := hM
  have hpw := hp w hw
  rw [hc] at hpw
  obtain ⟨⟨a0, a6, a8, a9, a10, a11, a12, a13, a14⟩, cv, -, ⟨t2, t3, t4, t5, u0, u1, u2, ui⟩, -, -⟩ := hpw
  obtain ⟨m6, m8, m9, m10, m7, mr, md0, md1, md2⟩ := hG0
  have wf := WF_h hW hG.1
  have sg := hb.2.2.2.2.2
  have a1 := hI.1 w hw
  rw [hc] at a1
  have uu := UK cd c
  have f1 : S 1 w = 0 := by
    rcases hu with u | u
    · by_cases t : S 1 w = 1
      · have := a1.2 t
        rw [snb_no (Or.inl u)] at this
        cases this
      · omega
    · exact u.2.2
  have n15 : cd (c 0 0) ≠ 15 ∧ cd (c 0 0) ≠ 16 := by omega
  have sg0 : c 0 8 = 0 := by
    unfold SGV at sg
    omega
  have gvr : cd (c 0 0) = 13 → cd (c 0 0 + 2) = w := fun e => by
    rcases hu with u | u
    · rcases uu with ⟨-, x1, x2, x3⟩ | ⟨x, -⟩ | ⟨x, -⟩ | ⟨x, -⟩ | ⟨x, -⟩
      · exact absurd (Or.inr (Or.inr (Or.inl e))) x3
      · omega
      · omega
      · omega
      · omega
    · have sdw := snb_sdf u.2.1
      unfold sdf at sdw
      rw [if_pos e] at sdw
      exact (of_decide_eq_true sdw).symm
  have ph : I (18 + 21 * w) 9 = nI 0 := by
    rw [a9, f1]
    unfold cph
    by_cases e : cd (c 0 0) = 13
    · rw [if_pos e, if_pos (gvr e)]
    · rw [if_neg e, sg0]
  have L := fun {α : Type} {F : Int32 → MI → MJ → Option α} => LCKC (α := α) (F := F) hW hG.1 hG.2.1 cv mr a8 gvr ⟨md0, md1, md2⟩ ⟨u0, u1, u2⟩ ⟨hd.1, hd.2.1, hd.2.2, by omega, by omega, by omega⟩ ⟨t2, t3, hus.1, by omega⟩ ⟨t4, t5, hmt.1, by omega⟩
  obtain ⟨A, e1, e2⟩ := ACC0 (X := X) hW.2.1 mr a8 wf.2.1 wf.2.2.1 wf.1 n15.1 n15.2 ph (by
    have := @lck_8 cd w (c 1) (c 0 0) (c 0 1) (c 0 2) (S 20 2) (S 20 3) (S 20 4) (S 10 w) (S 11 w) (c 0 6) (S 13 w) (usv cd c (S 1 w) w) (S 14 w) (S 12 w) (jdec cd (c 0 0))
    omega) L
  obtain ⟨A1, q, r, s, t⟩ := UP1 I (18 + 21 * w) 12 (nI (lkS cd c S w))
  obtain ⟨A2, q2, r2, s2, t2'⟩ := UP1 A1 (18 + 21 * w) 10 4
  have e1' : va_up I (18 + 21 * w) (upd (I (18 + 21 * w)) 12 (nI (lkS cd c S w))) = A := e1
  rw [q] at e1'
  have hlk' : ¬ lck cd (c 0 0) w (c 0 1) (c 1) (c 0 2) (S 20 2) (S 20 3) (S 20 4) (S 10 w) (S 11 w) (c 0 6) (S 13 w) (usv cd c (S 1 w) w) (S 14 w) (S 12 w) = 0 := hlk
  rw [← e1', if_neg hlk', q2] at e2
  exact ⟨A2, e2, fun b hb => by rw [r2 b hb, r b hb], fun j j1 j2 => by rw [t2' j j1, t j j2], s2, by rw [t2' 12 (by decide)]; exact s⟩
/-- the step was done -/
theorem STP1 {a : Nat} (hP : P ≤ 4) (hw : w < P) (h10 : I (18 + 21 * w) 10 = nI 1) (h8 : I (32 + 21 * w) 8 = nI 0) (hA : va_up I' 112 (upd (I' 112) 86 0) = A) (hst : ∀ {α : Type} {F : Int32 → MI → MJ → Option α}, oc (f_Model_statusOf (nI w) A J') F = F (nI 1) I2 J2) (h9 : I2 139 w = nI 0) (h138 : I2 138 w = nI 0) (hlk : ∀ {α : Type} {F : Int32 → MI → MJ → Option α}, oc (f_Model_lacking (nI w) I2 J2) F = F (nI 0) I2 J2) (hR : RTG I' I2 J' J2)
    (hac : f_Hall_act w X I J = some (nI a, X1, I1, J1)) (hbm : f_Model_act (nI w) I2 J2 = some (1, I1', J1')) (ha : a = if S' 2 w = 0 then 1 else 3) (hM : MC cd n P B sd V c0 S X I J) (hM1 : MC cd n P B sd V c0 S' X1 I1 J1) (hMM : MM cd st hg n P B sd V c0 S' I1' J1') (hT : TAM I I' J J' P (V 0 0) (V 1) (V 2) (V 3) (V 4)) (hxr : XR X X1) (hcf : CFG I I1 J J1) (hrt : RT I2 I1' J2 J1') (hI : PI cd (sd + 7000003) V c0 P S') (hN : NI cd (sd + 7000003) V c0 st hg P (cnt S' w)) (hJ : NJ P (cnt S' w)) (h20 : S' 20 0 = S 20 0) : OUTC cd st hg n P B sd V c0 S X I J I' J' w := by
  have ha' : a = 1 ∨ a = 3 := by
    rw [ha]
    split
    · exact Or.inl rfl
    · exact Or.inr rfl
  obtain ⟨Ic, x1, x2, x3, x4, x5, x6⟩ := HS_1 (show w < 4 by omega) h10 h8 ha' hac
  have cs := (hMM.2.2.2 w hw).2.2.1.2.2.2.2.2.2.2.2.1
  have csb := (hN.1 w hw).2.2.2.2.1.1
  rw [cnt_2] at csb
  obtain ⟨Im, y1, y2, y3, y4, y5, y6, y7⟩ := MS_a1 (show w < 4 by omega) hA hst h9 h138 hlk hbm cs (by omega)
  rw [← ha] at y1
  have hMc := FINC hP hw hM1 x2 x3 x4 x5 x6
  have c2 : CFG I1 Ic J1 J1 := ⟨fun b b1 b2 b3 b4 => x2 b (by omega) b2, fun j hj => x5 j hj, fun b _ _ _ => rfl, fun x hx => by
    by_cases z : x = w
    · rw [z]
      exact x3 0 (by decide)
    · rw [x2 (18 + 21 * x) (by omega) (by omega)]⟩
  have r2 : RTG I1' Im J1' J1' := ⟨fun b b1 b2 b3 b4 => y2 b b2 (by omega), fun j j1 j2 j3 => y3 j j2 j3, fun b _ => rfl⟩
  have cg := CFG.tr hcf c2
  have rg := RTG.tr hR (RTG.tr (RT.g hrt) r2)
  exact ⟨a, 1, cnt S' w, X1, Ic, J1, Im, J1', x1, y1, ⟨hMc, FINM hP hw hMM y2 y3 y5 y6 y7, CFG.tam (RTG.tam hT rg) cg, (K_cnt hP hw).pi hI, hN, hJ⟩, hxr, Nat.le_refl _, by rw [cnt_20, apn_s, h20], y4, cg, rg⟩
/-- it waits -/
theorem STP0 (hP : P ≤ 4) (hw : w < P) (h10 : I (18 + 21 * w) 10 = nI 1) (h8 : I (32 + 21 * w) 8 = nI 0) (hA : va_up I' 112 (upd (I' 112) 86 0) = A) (hst : ∀ {α : Type} {F : Int32 → MI → MJ → Option α}, oc (f_Model_statusOf (nI w) A J') F = F (nI 1) I2 J2) (h9 : I2 139 w = nI 0) (h138 : I2 138 w = nI 0) (hlk : ∀ {α : Type} {F : Int32 → MI → MJ → Option α}, oc (f_Model_lacking (nI w) I2 J2) F = F (nI 0) I2 J2) (hR : RTG I' I2 J' J2)
    (hac : f_Hall_act w X I J = some (0, X, I, J)) (hbm : f_Model_act (nI w) I2 J2 = some (0, I1', J2)) (hM : MC cd n P B sd V c0 S X I J) (hMM : MM cd st hg n P B sd V c0 S I1' J2) (hT : TAM I I' J J' P (V 0 0) (V 1) (V 2) (V 3) (V 4)) (hrt : RT I2 I1' J2 J2) (hI : PI cd (sd + 7000003) V c0 P S) (hN : NI cd (sd + 7000003) V c0 st hg P S) (hJ : NJ P S) : OUTC cd st hg n P B sd V c0 S X I J I' J' w := by
  have x1 := HS_0 (a := 0) h10 h8 (Or.inl rfl) hac
  obtain ⟨Im, y1, y2, y3, y4⟩ := MS_a0 (show w < 4 by omega) hA hst h9 h138 hlk hbm
  have r2 : RTG I1' Im J2 J2 := ⟨fun b b1 b2 b3 b4 => y2 b b2, fun j j1 j2 j3 => y3 j j2, fun b _ => rfl⟩
  have rg := RTG.tr hR (RTG.tr (RT.g hrt) r2)
  exact ⟨0, 0, S, X, I, J, Im, J2, x1, y1, ⟨hM, MM_86 (v := 0) hMM y2 (fun j j1 _ => y3 j j1), RTG.tam hT rg, hI, hN, hJ⟩, XR.rfl, Nat.zero_le _, rfl, y4, CFG.rfl, rg⟩
theorem stepOK (hS : ST cd st hg n P B c0) (hR : RU cd st hg n P B sd V c0 S X I J I' J') (hw : w < P) (hs : S 20 0 < 30000) : OUTC cd st hg n P B sd V c0 S X I J I' J' w := by
  obtain ⟨hW, ⟨hP2, hP⟩, ⟨hB1, hB⟩, hC, h0⟩ := hS
  obtain ⟨hM, hMM, hT, hI, hN, hJ⟩ := hR
  obtain ⟨c, hc⟩ : ∃ c, tr cd (sd + 7000003) V c0 (S 0 w) = c := ⟨_, rfl⟩
  have hNw := hN.1 w hw
  rw [hc] at hNw
  obtain ⟨hG, hd, hus, hmt, hq, hsc, h8o, hnt⟩ := hNw
  have hb : BND (cd := cd) c := by
    rw [← hc]
    exact tr_BND hC.1 (S 0 w)
  have hd2 : S 20 2 ≤ 200 ∧ S 20 3 ≤ 200 ∧ S 20 4 ≤ 200 := hN.2.2.2
  have hEV : S 20 1 ≤ S 20 0 := hN.2.2.1
  obtain ⟨A, hA, q1, q2, q3⟩ := MS_A I'
  have hMA : MM cd st hg n P B sd V c0 S A J' := MM_86 (v := 0) hMM q1 (fun j j1 _ => q3 j j1)
  have rA : RTG I' A J' J' := ⟨fun b b1 b2 b3 b4 => q1 b b2, fun j j1 j2 j3 => q3 j j2, fun b _ => rfl⟩
  have hpc := hM.2.2 w hw
  rw [hc] at hpc
  obtain ⟨⟨a0, a6, a8, a9, a10, a11, a12, a13, a14⟩, cv, -, -, ⟨o5, o6, o7, o8, -⟩, -⟩ := hpc
  have hpm := hMA.2.2.2 w hw
  rw [hc] at hpm
  obtain ⟨-, pb, ⟨r129, r130, r131, r132, r133, r134, r135, r136, r137, r138, r139, r142, -⟩, -, -⟩ := hpm
  have m34 : ¬ A 112 34 = 0 := by
    rw [hMA.1.2.2.1]
    decide
  by_cases f2 : S 2 w ≠ 0
  · have e : stt cd c (S 2 w) (S 3 w) = 3 := if_pos f2
    rw [e] at a10
    refine ⟨3, 0, S, X, I, J, A, J', HS_o a10 (by decide) (by decide), MS_o hA (STA3 (show w < 4 by omega) m34 r137 (by omega) f2) (by decide) (by decide), ⟨hM, hMA, RTG.tam hT rA, hI, hN, hJ⟩, XR.rfl, Nat.zero_le _, rfl, q2, CFG.rfl, rA⟩
  have f2 : S 2 w = 0 := by omega
  by_cases f3 : S 3 w ≠ 0
  · have e : stt cd c (S 2 w) (S 3 w) = 4 := by
      unfold stt
      rw [if_neg (by omega), if_pos f3]
    rw [e] at a10
    refine ⟨4, 0, S, X, I, J, A, J', HS_o a10 (by decide) (by decide), MS_o hA (STA4 (show w < 4 by omega) m34 (by rw [r137, f2]) r138 (by omega) f3) (by decide) (by decide), ⟨hM, hMA, RTG.tam hT rA, hI, hN, hJ⟩, XR.rfl, Nat.zero_le _, rfl, q2, CFG.rfl, rA⟩
  have f3 : S 3 w = 0 := by omega
  obtain ⟨I2, J2, s1, s2, s3, s4, s5, s6, s7, s8, s9, -⟩ := MM_set hW hP hw hMA hc hG f2 f3
  have rs : RTG I' I2 J' J2 := RTG.tr rA (RT.g s3)
  have i86 : I2 112 86 = nI 0 := by rw [s6]; exact q2
  by_cases hz : cd (c 0 0) = 0
  · have e : stt cd c (S 2 w) (S 3 w) = 2 := by
      unfold stt
      rw [if_neg (by omega), if_neg (by omega), if_pos hz]
    rw [e] at a10
    rw [if_pos hz] at s1
    exact ⟨2, 0, S, X, I, J, I2, J2, HS_o a10 (by decide) (by decide), MS_o hA s1 (by decide) (by decide), ⟨hM, s2, RTG.tam hT rs, hI, hN, hJ⟩, XR.rfl, Nat.zero_le _, rfl, i86, CFG.rfl, rs⟩
  have e1 : stt cd c (S 2 w) (S 3 w) = 1 := stt_1 f2 f3 hz
  have a10' := a10
  rw [e1] at a10'
  rw [if_neg hz] at s1
  have h139 : I2 139 w = nI (S 4 w) := by rw [s7]; exact r139 e1
  by_cases f4 : S 4 w = 1
  · rw [f4] at o8 h139
    obtain ⟨Ic, x1, x2, x3, x4, x5⟩ := HS_n (X := X) (J := J) a10' o8
    obtain ⟨Im, y1, y2, y3, y4⟩ := MS_n (show w < 4 by omega) hA s1 h139
    have K := K_sr (P := P) (w := w) (S := S) (m := 2) (v := 2) (Or.inl rfl)
    have r2 : sr S 2 (apn (S 2) w 2) 2 w = 2 := by rw [sr_s, apn_s]
    have r3 : sr S 2 (apn (S 2) w 2) 3 = S 3 := sr_n _ _ (by decide)
    have r20 : sr S 2 (apn (S 2) w 2) 20 = S 20 := sr_n _ _ (by decide)
    have cg : CFG I Ic J J := ⟨fun b b1 b2 b3 b4 => x2 b (by omega), fun j _ => by rw [x2 14 (by omega)], fun b _ _ _ => rfl, fun x hx => by
      by_cases z : x = w
      · rw [z]
        exact x3 0 (by decide) (by decide)
      · rw [x2 _ (by omega)]⟩
    have rg : RTG I' Im J' J2 := RTG.tr rs ⟨fun b b1 b2 b3 b4 => y2 b (by omega), fun j _ _ _ => by rw [y2 112 (by decide)], fun b _ => rfl⟩
    have hcn := (s2.2.2.2 w hw).2.2.1
    refine ⟨3, 0, sr S 2 (apn (S 2) w 2), X, Ic, J, Im, J2, x1, y1, ⟨MC_18 hP hw hM K (fun b b1 _ => x2 b b1) (fun j _ => by rw [x2 14 (by omega)]) (by rw [x2 14 (by omega), r20]; exact hM.1.2.2.2.1) ?_, MM_18 hP hw s2 K (fun b b1 b2 b3 b4 => y2 b b3) (fun j _ _ => by rw [y2 112 (by decide)]) (by rw [y2 112 (by decide), r20]; exact s2.1.2.2.2.1) (fun x hx => ⟨by rw [y2 129 (by decide)], y4 x hx, by rw [y2 138 (by decide)]⟩) (by rw [y2 129 (by decide), sr_n _ _ (by decide)]; exact hcn.1) (by rw [r2]; exact y3) (by rw [y2 138 (by decide), r3]; exact hcn.2.2.2.2.2.2.2.2.2.1) (fun y => ?_), CFG.tam (RTG.tam hT rg) cg, K.pi hI, ?_, K.nj hJ⟩, XR.rfl, Nat.zero_le _, by rw [r20]; rfl, by rw [y2 112 (by decide)]; exact i86, cg, rg⟩
    · rw [hc]
      refine ⟨by rw [x3 0 (by decide) (by decide)]; exact a0, by rw [x3 6 (by decide) (by decide)]; exact a6, by rw [x3 8 (by decide) (by decide)]; exact a8, by rw [x3 9 (by decide) (by decide), K.2.2.2.2.2.2.2.1]; exact a9, by rw [x4, r2]; rfl, by rw [x5, r2], by rw [x3 12 (by decide) (by decide), r3]; exact a12, by rw [x3 13 (by decide) (by decide), sr_n _ _ (by decide)]; exact a13, a14⟩
    · rw [r2] at y
      cases y
    · refine NI_st hN K.oth (by rw [r20]; exact Nat.le_refl _) (by rw [r20]) (by rw [r20]) (by rw [r20]) (by rw [r20]; omega) (by rw [r20]; exact hEV) ?_
      rw [K.2.2.2.2.2.2.1, hc]
      unfold NP
      rw [r2, r3, r20, K.2.2.2.2.2.2.2.1, sr_n _ _ (show 10 ≠ 2 by decide), sr_n _ _ (show 11 ≠ 2 by decide), sr_n _ _ (show 12 ≠ 2 by decide), sr_n _ _ (show 13 ≠ 2 by decide), sr_n _ _ (show 14 ≠ 2 by decide), sr_n _ _ (show 4 ≠ 2 by decide), sr_n _ _ (show 8 ≠ 2 by decide), sr_n _ _ (show 50 + w ≠ 2 by omega)]
      exact ⟨hG, hd, hus, hmt, ⟨by decide, hq.2⟩, hsc, h8o, hnt⟩
  have f4' : S 4 w = 0 := by omega
  rw [f4'] at o8 h139
  have LK := fun {α : Type} {F : Int32 → MI → MJ → Option α} => RLK (α := α) (F := F) hW hP hw s2 hc hG hb hI hd hd2 hus hmt s4 s5
  have hTm : TAM I I2 J J2 P (V 0 0) (V 1) (V 2) (V 3) (V 4) := RTG.tam hT rs
  by_cases hl : lkv cd c S w ≠ 0
  · have hu : uk cd c = 0 ∨ (uk cd c = 1 ∧ snb cd c w = true ∧ S 1 w = 0) := by
      by_cases y : uk cd c = 0 ∨ (uk cd c = 1 ∧ snb cd c w = true ∧ S 1 w = 0)
      · exact y
      · exact absurd (if_neg y) hl
    have hle : lkv cd c S w = lkS cd c S w := if_pos hu
    have hl8 := lkv_8 (cd := cd) (c := c) (S := S) (w := w)
    obtain ⟨Ic, x1, x2, x3, x4, x5⟩ := CALK hW hP hw hM hc hG hb hI hu hd hd2 hus hmt (by rw [← hle]; exact hl)
    rw [← hle] at x5
    have x1' := HS_0 (a := 4) a10' o8 (Or.inr rfl) x1
    obtain ⟨Im, y1, y2, y3, y4⟩ := MS_l (show w < 4 by omega) hA s1 h139 LK hl (by omega)
    have K := K_sr (P := P) (w := w) (S := S) (m := 3) (v := lkv cd c S w) (Or.inr rfl)
    have r3 : sr S 3 (apn (S 3) w (lkv cd c S w)) 3 w = lkv cd c S w := by rw [sr_s, apn_s]
    have r2 : sr S 3 (apn (S 3) w (lkv cd c S w)) 2 = S 2 := sr_n _ _ (by decide)
    have r20 : sr S 3 (apn (S 3) w (lkv cd c S w)) 20 = S 20 := sr_n _ _ (by decide)
    have e4 : stt cd c (S 2 w) (lkv cd c S w) = 4 := by
      unfold stt
      rw [if_neg (by omega), if_pos hl]
    have cg : CFG I Ic J J := ⟨fun b b1 b2 b3 b4 => x2 b (by omega), fun j _ => by rw [x2 14 (by omega)], fun b _ _ _ => rfl, fun x hx => by
      by_cases z : x = w
      · rw [z]
        exact x3 0 (by decide) (by decide)
      · rw [x2 _ (by omega)]⟩
    have rg : RTG I' Im J' J2 := RTG.tr rs ⟨fun b b1 b2 b3 b4 => y2 b (by omega), fun j _ _ _ => by rw [y2 112 (by decide)], fun b _ => rfl⟩
    have hcn := (s2.2.2.2 w hw).2.2.1
    refine ⟨4, 0, sr S 3 (apn (S 3) w (lkv cd c S w)), X, Ic, J, Im, J2, x1', y1, ⟨MC_18 hP hw hM K (fun b b1 _ => x2 b b1) (fun j _ => by rw [x2 14 (by omega)]) (by rw [x2 14 (by omega), r20]; exact hM.1.2.2.2.1) ?_, MM_18 hP hw s2 K (fun b b1 b2 b3 b4 => y2 b b4) (fun j _ _ => by rw [y2 112 (by decide)]) (by rw [y2 112 (by decide), r20]; exact s2.1.2.2.2.1) (fun x hx => ⟨by rw [y2 129 (by decide)], by rw [y2 137 (by decide)], y4 x hx⟩) (by rw [y2 129 (by decide), sr_n _ _ (by decide)]; exact hcn.1) (by rw [y2 137 (by decide), r2]; exact hcn.2.2.2.2.2.2.2.2.1) (by rw [r3]; exact y3) (fun y => ?_), CFG.tam (RTG.tam hT rg) cg, K.pi hI, ?_, K.nj hJ⟩, XR.rfl, Nat.zero_le _, by rw [r20]; rfl, by rw [y2 112 (by decide)]; exact i86, cg, rg⟩
    · rw [hc]
      refine ⟨by rw [x3 0 (by decide) (by decide)]; exact a0, by rw [x3 6 (by decide) (by decide)]; exact a6, by rw [x3 8 (by decide) (by decide)]; exact a8, by rw [x3 9 (by decide) (by decide), K.2.2.2.2.2.2.2.1]; exact a9, by rw [x4, r2, r3, e4], by rw [x3 11 (by decide) (by decide), r2]; exact a11, by rw [x5, r3], by rw [x3 13 (by decide) (by decide), sr_n _ _ (by decide)]; exact a13, a14⟩
    · rw [r2, r3, hc, e4] at y
      cases y
    · refine NI_st hN K.oth (by rw [r20]; exact Nat.le_refl _) (by rw [r20]) (by rw [r20]) (by rw [r20]) (by rw [r20]; omega) (by rw [r20]; exact hEV) ?_
      rw [K.2.2.2.2.2.2.1, hc]
      unfold NP
      rw [r2, r3, r20, K.2.2.2.2.2.2.2.1, sr_n _ _ (show 10 ≠ 3 by decide), sr_n _ _ (show 11 ≠ 3 by decide), sr_n _ _ (show 12 ≠ 3 by decide), sr_n _ _ (show 13 ≠ 3 by decide), sr_n _ _ (show 14 ≠ 3 by decide), sr_n _ _ (show 4 ≠ 3 by decide), sr_n _ _ (show 8 ≠ 3 by decide), sr_n _ _ (show 50 + w ≠ 3 by omega)]
      exact ⟨hG, hd, hus, hmt, ⟨hq.1, hl8, hq.2.2⟩, hsc, h8o, hnt⟩
  have hl : lkv cd c S w = 0 := by omega
  rw [hl] at LK
  have h138 : I2 138 w = nI 0 := by rw [s8, r138, f3]
  have hwr : ∀ j, j < P → S (30 + w) j < 2 ^ 31 := fun j hj => F_wr hP hC hI hN hw hj
  have hgt : ∀ j, j < P → S (40 + w) j < 2 ^ 31 := fun j hj => F_gt hP hC hI hN hJ hw hj
  have hpl : ∀ j, j < P → c 6 j < 2 ^ 31 := fun j _ => F_pl hC hN hw hc j
  have h40 : nzc (nx cd (sd + 7000003) V c 5) (nx cd (sd + 7000003) V c 0 7) ≤ 40 := by
    have := tr_40 (cd := cd) (bs := sd + 7000003) (V := V) (c0 := c0) hC.2.2.2.2.1 hT.2.2.1 (S 0 w + 1)
    rw [tr_s, hc] at this
    exact this
  have hsg := hC.1.2.2.2.2.2
  have fz : S 1 w = 0 ∨ S 1 w = 1 := by
    have := (hI.1 w hw).1
    omega
  have lkS0 : uk cd c = 0 ∨ (uk cd c = 1 ∧ snb cd c w = true ∧ S 1 w = 0) → lkS cd c S w = 0 := fun y => by
    have : lkv cd c S w = lkS cd c S w := if_pos y
    omega
  rcases UK cd c with ⟨u, p⟩ | ⟨u, p1, p2, p3⟩ | ⟨u, p⟩ | ⟨u, p⟩ | ⟨u, p⟩
  · -- alone
    have f1 : S 1 w = 0 := by
      have := F_f1 hI hw hc (fun t => by rw [snb_no (Or.inl u)] at t; cases t.1)
      rw [snb_no (Or.inl u)] at this
      exact this
    obtain ⟨I1, J1, x1, x2, x3⟩ := CA0 hW hP hw hM hc hG hb (by omega) f1 f2 f3 hz u hd hd2 hus hmt (lkS0 (Or.inl u))
    obtain ⟨I1', J1', y1, y2, y3, -⟩ := RA0 hW hP hw s2 hc hG hb f1 f2 f3 hz u ⟨hd.2.2, hd2.2.2⟩ (lkS0 (Or.inl u)) s4 s5
    exact STP1 hP hw a10' o8 hA s1 h139 h138 LK rs x1 y1 (by rw [SL_2, f2]; rfl) hM x2 y2 hT XR.rfl (CF.gM hP hw x3 hM x2) y3 (PI_loc hw hsg hI (Or.inl (by rw [hc]; exact u)) SL_0 SL_1 SL_9 (by rw [SL_20 (by omega)]) (fun j hj => SL_30 (by omega) (by omega)) (fun j hj => SL_40 (by omega) (by omega))) (NI_L hW hP hw hN hs hc f1 hz (Or.inl ⟨u, lkS0 (Or.inl u)⟩)) (NJ_L hP hw hJ) (by rw [SL_20 (by omega)])
  · -- shared
    by_cases hsd : snb cd c w = true ∧ S 1 w = 0
    · have l0 := lkS0 (Or.inr ⟨u, hsd⟩)
      have n2 : ¬ (uk cd c = 2 ∧ stv (c 0 8) = 0) := by omega
      rcases CA1s hW hP hB hw hM hc hG hb hsd.2 f3 u hsd.1 hd hd2 hus hmt hwr l0 with ⟨x1, x2⟩ | ⟨x1, I1, x2, x3, x4⟩
      · rcases RA1s hW hP hB hB1 hw s2 hI hc hG hb hsd.2 u hsd.1 hus hmt hwr (by omega) l0 s4 s5 with ⟨y1, y2⟩ | ⟨y1, -⟩
        · exact STP0 hP hw a10' o8 hA s1 h139 h138 LK rs x2 y2 hM s2 hT ⟨fun _ _ _ _ _ => rfl, fun _ _ _ => rfl, fun _ _ => rfl⟩ hI hN hJ
        · rw [x1] at y1
          cases y1
      · rcases RA1s hW hP hB hB1 hw s2 hI hc hG hb hsd.2 u hsd.1 hus hmt hwr (by omega) l0 s4 s5 with ⟨y1, -⟩ | ⟨y1, I1', J1', y2, y3, y4, -⟩
        · rw [x1] at y1
          cases y1
        · exact STP1 hP hw a10' o8 hA s1 h139 h138 LK rs x2 y2 (by rw [SX_2, f2]; rfl) hM x3 y3 hT XR.rfl (CF.gM hP hw x4 hM x3) y4 (PI_snd hw hI (by rw [hc]; exact hsd.1) hsd.2 SX_0 SX_1 SX_9 (by rw [SX_20 (by omega), apn_s, hc]) (fun j _ => by rw [SX_w3 (by omega)]) (fun j hj hn => SX_30 (by omega) (by omega) hn) (fun j hj => SX_40 (by omega) (by omega))) (NI_X hP hw hN hs hc hsd.2 hsd.1 (fun y => absurd y n2) (fun _ => l0)) (NJ_X hP hw hB x1 hJ) (by rw [SX_20 (by omega), apn_n _ _ (by decide)])
    · have fb := F_f1 hI hw hc hsd
      have hin := F_in hW hI hN hw hc hG fb u
      have hu3 : uk cd c = 1 ∨ uk cd c = 2 ∨ uk cd c = 3 := Or.inl u
      rcases CA1r hW hP hw hM hT hc hG hb (by omega) hpl fb f2 f3 u hgt (fun j hj => (hN.1 j hj).2.2.1.2) h40 hin with ⟨x1, x2⟩ | ⟨x1, I1, J1, x2, x3, x4⟩
      · rcases RA1r hW hP hw s2 hTm hI hC hc hG hb (by omega) hpl fb f2 f3 u hgt hin s4 s5 with ⟨y1, y2⟩ | ⟨y1, -⟩
        · exact STP0 hP hw a10' o8 hA s1 h139 h138 LK rs x2 y2 hM s2 hT ⟨fun _ _ _ _ _ => rfl, fun _ _ _ => rfl, fun _ _ => rfl⟩ hI hN hJ
        · rw [x1] at y1
          cases y1
      · rcases RA1r hW hP hw s2 hTm hI hC hc hG hb (by omega) hpl fb f2 f3 u hgt hin s4 s5 with ⟨y1, -⟩ | ⟨y1, I1', J1', y2, y3, y4, -⟩
        · rw [x1] at y1
          cases y1
        · have bd : bdv cd sd P c S = 0 := bdv_0 (by omega)
          refine STP1 hP hw a10' o8 hA s1 h139 h138 LK rs x2 y2 (by rw [SR_2, apn_s, bd, f2]; rfl) hM x3 y3 hT XR.rfl (CF.gM hP hw x4 hM x3) y4 (PI_rcv hw hsg hI (by rw [hc]; exact hu3) (by rw [hc]; exact fb) (fun j hj hn hsj => ?_) ?_ SR_0 SR_1 (by rw [SR_9, hc]) (by rw [SR_20 (by omega)]) (fun j hj => SR_30 (by omega) (by omega)) (fun j _ => by rw [SR_w4 (by omega), hc]) (fun j hj hn => SR_40 (by omega) (by omega) hn)) (NI_R hW hP hw hN hs hc fb hz hu3) (NJ_R hP hw hJ) (by rw [SR_20 (by omega)])
          · rw [hc] at hsj
            have q := anyb_f _ _ x1 j (by omega) (by omega)
            have q' : (decide (j ≠ w) && (snb cd c j && decide (S (40 + w) j = 0))) = false := q
            rw [decide_eq_true hn, hsj, Bool.true_and, Bool.true_and] at q'
            have := of_decide_eq_false q'
            omega
          · rw [hc]
            by_cases e : cd (c 0 0) = 13
            · refine ⟨cd (c 0 0 + 2), ((WF_a hW hG.1).2.1 e).2, ?_⟩
              rw [snb_1 hu3]
              unfold sdf
              rw [if_pos e]
              exact decide_eq_true rfl
            · exact ⟨w, hw, by rw [snb_1 hu3, sdf_t e]⟩
  · -- a check
    have n13 : cd (c 0 0) ≠ 13 := by omega
    have hu3 : uk cd c = 1 ∨ uk cd c = 2 ∨ uk cd c = 3 := Or.inr (Or.inl u)
    have hsn : ∀ j, snb cd c j = true := fun j => by rw [snb_1 hu3, sdf_t n13]
    rcases fz with f1 | f1
    · have hcn := F_co hI hw hc f1
      rcases CA2s hW hP hB hw hM hc hG hb f1 u hwr hcn with ⟨x1, x2⟩ | ⟨x1, I1, x2, x3, x4⟩
      · rcases RA2s hW hP hB hB1 hw s2 hI hC h0 hc hG hb (by omega) f1 u hwr (by omega) hcn s4 s5 with ⟨y1, I1', y2, y3, y4⟩ | ⟨y1, -⟩
        · exact STP0 hP hw a10' o8 hA s1 h139 h138 LK rs x2 y2 hM y3 hT y4 hI hN hJ
        · rw [x1] at y1
          cases y1
      · rcases RA2s hW hP hB hB1 hw s2 hI hC h0 hc hG hb (by omega) f1 u hwr (by omega) hcn s4 s5 with ⟨y1, -⟩ | ⟨y1, I1', J1', y2, y3, y4, -⟩
        · rw [x1] at y1
          cases y1
        · exact STP1 hP hw a10' o8 hA s1 h139 h138 LK rs x2 y2 (by rw [SX_2, f2]; rfl) hM x3 y3 hT XR.rfl (CF.gM hP hw x4 hM x3) y4 (PI_snd hw hI (by rw [hc]; exact hsn w) f1 SX_0 SX_1 SX_9 (by rw [SX_20 (by omega), apn_s, hc]) (fun j _ => by rw [SX_w3 (by omega)]) (fun j hj hn => SX_30 (by omega) (by omega) hn) (fun j hj => SX_40 (by omega) (by omega))) (NI_X hP hw hN hs hc f1 (hsn w) hcn (fun y => by omega)) (NJ_X hP hw hB x1 hJ) (by rw [SX_20 (by omega), apn_n _ _ (by decide)])
    · have fb : S 1 w = bn (snb cd c w) := by rw [hsn, f1]; rfl
      have hbc : 1 ≤ stv (c 0 8) → S 9 w = c 0 5 + 1 := fun y => by
        have := (hI.2.2.2.2.1 w hw).2 (by rw [hc]; exact u) (by rw [hc]; exact y)
        rw [hc] at this
        exact this
      rcases CA2r hW hP hw hM hc hG hb f1 f2 f3 u hgt (F_pc hC hI hw hc fb u) hbc with ⟨x1, x2⟩ | ⟨x1, I1, x2, x3, x4⟩
      · rcases RA2r hW hP hw s2 hTm hI hC h0 hc hG hb (by omega) f1 f2 f3 u hgt s4 s5 with ⟨y1, I1', y2, y3, y4⟩ | ⟨y1, -⟩
        · exact STP0 hP hw a10' o8 hA s1 h139 h138 LK rs x2 y2 hM y3 hT y4 hI hN hJ
        · rw [x1] at y1
          cases y1
      · rcases RA2r hW hP hw s2 hTm hI hC h0 hc hG hb (by omega) f1 f2 f3 u hgt s4 s5 with ⟨y1, -⟩ | ⟨y1, I1', y2, y3, y4⟩
        · rw [x1] at y1
          cases y1
        · have x2' : f_Hall_act w X I J = some (nI (if SR cd sd P c S w 2 w = 0 then 1 else 3), X, I1, J) := by
            rw [x2, SR_2, apn_s, f2]
            by_cases y : bdv cd sd P c S = 1
            · rw [if_pos y, if_pos y]
              rfl
            · rw [if_neg y, if_neg y]
              rfl
          refine STP1 hP hw a10' o8 hA s1 h139 h138 LK rs x2' y2 rfl hM x3 y3 hT XR.rfl (CF.gM hP hw x4 hM x3) y4 (PI_rcv hw hsg hI (by rw [hc]; exact hu3) (by rw [hc]; exact fb) (fun j hj hn hsj => ?_) ⟨w, hw, by rw [hc]; exact hsn w⟩ SR_0 SR_1 (by rw [SR_9, hc]) (by rw [SR_20 (by omega)]) (fun j hj => SR_30 (by omega) (by omega)) (fun j _ => by rw [SR_w4 (by omega), hc]) (fun j hj hn => SR_40 (by omega) (by omega) hn)) (NI_R hW hP hw hN hs hc fb hz hu3) (NJ_R hP hw hJ) (by rw [SR_20 (by omega)])
          rw [hc] at hsj
          have q := anyb_f _ _ x1 j (by omega) (by omega)
          have q' : (decide (j ≠ w) && (snb cd c j && decide (S (40 + w) j = 0))) = false := q
          rw [decide_eq_true hn, hsj, Bool.true_and, Bool.true_and] at q'
          have := of_decide_eq_false q'
          omega
  · -- what is shown
    have n13 : cd (c 0 0) ≠ 13 := by omega
    have hu3 : uk cd c = 1 ∨ uk cd c = 2 ∨ uk cd c = 3 := Or.inr (Or.inr u)
    have hsn : ∀ j, snb cd c j = true := fun j => by rw [snb_1 hu3, sdf_t n13]
    rcases fz with f1 | f1
    · have hcn := F_co hI hw hc f1
      rcases CA3s hW hP hB hw hM hc hG f1 u hwr with ⟨x1, x2⟩ | ⟨x1, I1, x2, x3, x4⟩
      · rcases RA3s hW hP hB hB1 hw s2 hI hC h0 hc hG hb (by omega) f1 u hwr (by omega) s4 s5 with ⟨y1, I1', y2, y3, y4⟩ | ⟨y1, -⟩
        · exact STP0 hP hw a10' o8 hA s1 h139 h138 LK rs x2 y2 hM y3 hT y4 hI hN hJ
        · rw [x1] at y1
          cases y1
      · rcases RA3s hW hP hB hB1 hw s2 hI hC h0 hc hG hb (by omega) f1 u hwr (by omega) s4 s5 with ⟨y1, -⟩ | ⟨y1, I1', J1', y2, y3, y4, -⟩
        · rw [x1] at y1
          cases y1
        · exact STP1 hP hw a10' o8 hA s1 h139 h138 LK rs x2 y2 (by rw [SX_2, f2]; rfl) hM x3 y3 hT XR.rfl (CF.gM hP hw x4 hM x3) y4 (PI_snd hw hI (by rw [hc]; exact hsn w) f1 SX_0 SX_1 SX_9 (by rw [SX_20 (by omega), apn_s, hc]) (fun j _ => by rw [SX_w3 (by omega)]) (fun j hj hn => SX_30 (by omega) (by omega) hn) (fun j hj => SX_40 (by omega) (by omega))) (NI_X hP hw hN hs hc f1 (hsn w) hcn (fun y => by omega)) (NJ_X hP hw hB x1 hJ) (by rw [SX_20 (by omega), apn_n _ _ (by decide)])
    · have fb : S 1 w = bn (snb cd c w) := by rw [hsn, f1]; rfl
      rcases CA3r hW hP hw hM hT hc hG hb (by omega) hpl f1 f2 f3 u hgt h40 with ⟨x1, x2⟩ | ⟨x1, I1, J1, x2, x3, x4⟩
      · rcases RA3r hW hP hw s2 hTm hI hC h0 hc hG hb (by omega) hpl f1 u hgt s4 s5 with ⟨y1, I1', y2, y3, y4⟩ | ⟨y1, -⟩
        · exact STP0 hP hw a10' o8 hA s1 h139 h138 LK rs x2 y2 hM y3 hT y4 hI hN hJ
        · rw [x1] at y1
          cases y1
      · rcases RA3r hW hP hw s2 hTm hI hC h0 hc hG hb (by omega) hpl f1 u hgt s4 s5 with ⟨y1, -⟩ | ⟨y1, I1', J1', y2, y3, y4, -⟩
        · rw [x1] at y1
          cases y1
        · have bd : bdv cd sd P c S = 0 := bdv_0 (by omega)
          refine STP1 hP hw a10' o8 hA s1 h139 h138 LK rs x2 y2 (by rw [SR_2, apn_s, bd, f2]; rfl) hM x3 y3 hT XR.rfl (CF.gM hP hw x4 hM x3) y4 (PI_rcv hw hsg hI (by rw [hc]; exact hu3) (by rw [hc]; exact fb) (fun j hj hn hsj => ?_) ⟨w, hw, by rw [hc]; exact hsn w⟩ SR_0 SR_1 (by rw [SR_9, hc]) (by rw [SR_20 (by omega)]) (fun j hj => SR_30 (by omega) (by omega)) (fun j _ => by rw [SR_w4 (by omega), hc]) (fun j hj hn => SR_40 (by omega) (by omega) hn)) (NI_R hW hP hw hN hs hc fb hz hu3) (NJ_R hP hw hJ) (by rw [SR_20 (by omega)])
          rw [hc] at hsj
          have q := anyb_f _ _ x1 j (by omega) (by omega)
          have q' : (decide (j ≠ w) && (snb cd c j && decide (S (40 + w) j = 0))) = false := q
          rw [decide_eq_true hn, hsj, Bool.true_and, Bool.true_and] at q'
          have := of_decide_eq_false q'
          omega
  · -- what is put out
    have f1 : S 1 w = 0 := by
      have := F_f1 hI hw hc (fun t => by rw [snb_no (Or.inr u)] at t; cases t.1)
      rw [snb_no (Or.inr u)] at this
      exact this
    obtain ⟨X1, I1, J1, x1, x2, x3, x4⟩ := CA4 hW hP hw hM hc hG hb (by omega) f1 f2 f3 u
    obtain ⟨I1', J1', y1, y2, y3, -⟩ := RA4 hW hP hw s2 hC h0 hc hG hb (by omega) f1 f2 f3 u s4 s5
    have cg : CFG I I1 J J1 := ⟨fun b b1 b2 b3 b4 => (x4 b (by omega)).1, fun j _ => by rw [(x4 14 (by omega)).1], fun b b1 b2 b3 => (x4 b (by omega)).2 b2, fun x hx => by
        by_cases z : x = w
        · rw [z, (x2.2.2 w hw).1.1, a0]
        · rw [(x4 (18 + 21 * x) (by omega)).1]⟩
    exact STP1 hP hw a10' o8 hA s1 h139 h138 LK rs x1 y1 (by rw [SL_2, f2]; rfl) hM x2 y2 hT x3 cg y3 (PI_loc hw hsg hI (Or.inr (by rw [hc]; exact u)) SL_0 SL_1 SL_9 (by rw [SL_20 (by omega)]) (fun j hj => SL_30 (by omega) (by omega)) (fun j hj => SL_40 (by omega) (by omega))) (NI_L hW hP hw hN hs hc f1 hz (Or.inr u)) (NJ_L hP hw hJ) (by rw [SL_20 (by omega)])
end STEP
