/-! the run: what is known of one who steps -/
def ST (cd : Nat → Nat) (st : Nat → Bool) (hg : Nat → Nat) (n P B : Nat) (c0 : Nat → Nat → Nat) : Prop := WFc cd n P st hg ∧ (2 ≤ P ∧ P ≤ 4) ∧ (1 ≤ B ∧ B ≤ 4) ∧ C0 cd c0 ∧ SG0 cd c0
def RU (cd : Nat → Nat) (st : Nat → Bool) (hg : Nat → Nat) (n P B : Nat) (sd : Int64) (V c0 S : Nat → Nat → Nat) (X : MX) (I : MI) (J : MJ) (I' : MI) (J' : MJ) : Prop := MC cd n P B sd V c0 S X I J ∧ MM cd st hg n P B sd V c0 S I' J' ∧ TAM I I' J J' P (V 0 0) (V 1) (V 2) (V 3) (V 4) ∧ PI cd (sd + 7000003) V c0 P S ∧ NI cd (sd + 7000003) V c0 st hg P S ∧ NJ P S
/-- what steps leave of the class's memory -/
def CFG (I I1 : MI) (J J1 : MJ) : Prop := (∀ a, a < 18 ∨ 102 ≤ a → a ≠ 14 → a ≠ 109 → a ≠ 110 → I1 a = I a) ∧ (∀ j, j ≠ 10 → I1 14 j = I 14 j) ∧ (∀ a, a < 18 ∨ 102 ≤ a → a < 168 → a ≠ 111 → J1 a = J a) ∧ (∀ x, x < 4 → I1 (18 + 21 * x) 0 = I (18 + 21 * x) 0)
/-- what steps leave of the reference's -/
def RTG (I I1 : MI) (J J1 : MJ) : Prop := (∀ a, a < 118 ∨ 155 < a → a ≠ 112 → a ≠ 160 → a ≠ 161 → I1 a = I a) ∧ (∀ j, j ≠ 60 → j ≠ 86 → j ≠ 35 → I1 112 j = I 112 j) ∧ (∀ a, a < 143 ∨ 155 < a → J1 a = J a)
theorem CFG.rfl {I : MI} {J : MJ} : CFG I I J J := ⟨fun _ _ _ _ _ => Eq.refl _, fun _ _ => Eq.refl _, fun _ _ _ _ => Eq.refl _, fun _ _ => Eq.refl _⟩
theorem RTG.rfl {I : MI} {J : MJ} : RTG I I J J := ⟨fun _ _ _ _ _ => Eq.refl _, fun _ _ _ _ => Eq.refl _, fun _ _ => Eq.refl _⟩
theorem CFG.tr {I I1 I2 : MI} {J J1 J2 : MJ} (h : CFG I I1 J J1) (k : CFG I1 I2 J1 J2) : CFG I I2 J J2 := ⟨fun a a1 a2 a3 a4 => (k.1 a a1 a2 a3 a4).trans (h.1 a a1 a2 a3 a4), fun j j1 => (k.2.1 j j1).trans (h.2.1 j j1), fun a a1 a2 a3 => (k.2.2.1 a a1 a2 a3).trans (h.2.2.1 a a1 a2 a3), fun x hx => (k.2.2.2 x hx).trans (h.2.2.2 x hx)⟩
theorem RTG.tr {I I1 I2 : MI} {J J1 J2 : MJ} (h : RTG I I1 J J1) (k : RTG I1 I2 J1 J2) : RTG I I2 J J2 := ⟨fun a a1 a2 a3 a4 => (k.1 a a1 a2 a3 a4).trans (h.1 a a1 a2 a3 a4), fun j j1 j2 j3 => (k.2.1 j j1 j2 j3).trans (h.2.1 j j1 j2 j3), fun a a1 => (k.2.2 a a1).trans (h.2.2 a a1)⟩
theorem RT.g {I I1 : MI} {J J1 : MJ} (h : RT I I1 J J1) : RTG I I1 J J1 := ⟨h.1, fun j j1 j2 _ => h.2.1 j j1 j2, h.2.2⟩
theorem RTG.tam {P NT : Nat} {tp ts tk tb : Nat → Nat} {I I' I1' : MI} {J J' J1' : MJ} (h : TAM I I' J J' P NT tp ts tk tb) (k : RTG I' I1' J' J1') : TAM I I1' J J1' P NT tp ts tk tb := TAM_f2 h (k.2.1 66 (by decide) (by decide) (by decide)) (k.1 156 (by omega) (by omega) (by omega) (by omega)) (k.1 157 (by omega) (by omega) (by omega) (by omega)) (k.1 158 (by omega) (by omega) (by omega) (by omega)) (k.2.2 159 (by omega))
theorem CFG.tam {P NT : Nat} {tp ts tk tb : Nat → Nat} {I I1 I' : MI} {J J1 J' : MJ} (h : TAM I I' J J' P NT tp ts tk tb) (k : CFG I I1 J J1) : TAM I1 I' J1 J' P NT tp ts tk tb := TAM_fr h (k.1 103 (by omega) (by omega) (by omega) (by omega)) (k.1 104 (by omega) (by omega) (by omega) (by omega)) (k.1 105 (by omega) (by omega) (by omega) (by omega)) (k.1 106 (by omega) (by omega) (by omega) (by omega)) (k.2.2.1 107 (by omega) (by omega) (by omega))
section FACTS
variable {cd : Nat → Nat} {sd : Int64} {V c c0 : Nat → Nat → Nat} {P n B w : Nat} {st : Nat → Bool} {hg : Nat → Nat} {S S' : Nat → Nat → Nat} {X X1 : MX} {I I1 I' I1' : MI} {J J1 J' J1' : MJ}
/-- own cells and the digest's, as a frame of all -/
theorem CF.g (hw : w < 4) (h : CF w I I1 J J1) (h0 : I1 (18 + 21 * w) 0 = I (18 + 21 * w) 0) : CFG I I1 J J1 := ⟨fun a a1 a2 a3 a4 => h.1 a (by omega) a3 a4, fun j _ => by rw [h.1 14 (by omega) (by omega) (by omega)], fun a a1 a2 a3 => h.2 a (by omega) a3, fun x hx => by
  by_cases z : x = w
  · rw [z]
    exact h0
  · rw [h.1 (18 + 21 * x) (by omega) (by omega) (by omega)]⟩
theorem CF.gM (hP : P ≤ 4) (hw : w < P) (h : CF w I I1 J J1) (hM : MC cd n P B sd V c0 S X I J) (hM1 : MC cd n P B sd V c0 S' X1 I1 J1) : CFG I I1 J J1 := CF.g (by omega) h (by rw [(hM.2.2 w hw).1.1, (hM1.2.2 w hw).1.1])
theorem F_wr (hP : P ≤ 4) (hC : C0 cd c0) (hI : PI cd (sd + 7000003) V c0 P S) (hN : NI cd (sd + 7000003) V c0 st hg P S) (hw : w < P) {j : Nat} (hj : j < P) : S (30 + w) j < 2 ^ 31 := by
  by_cases z : j = w
  · rw [z, hI.2.2.2.1 w hw]
    decide
  · have e := hI.2.2.1 w hw j hj (fun t => z t.symm)
    have r := (tr_rb (bs := sd + 7000003) (V := V) hC w (S 0 w)).1
    have q := (hN.1 w hw).2.2.2.2.2.1
    have t := hN.2.1
    omega
theorem F_gt (hP : P ≤ 4) (hC : C0 cd c0) (hI : PI cd (sd + 7000003) V c0 P S) (hN : NI cd (sd + 7000003) V c0 st hg P S) (hJ : NJ P S) (hw : w < P) {j : Nat} (hj : j < P) : S (40 + w) j < 2 ^ 31 := by
  by_cases z : j = w
  · rw [z, (hJ w hw).1]
    decide
  · have e := hI.2.2.1 j hj w hw z
    have r := (tr_rb (bs := sd + 7000003) (V := V) hC j (S 0 j)).1
    have q := (hN.1 j hj).2.2.2.2.2.1
    have t := hN.2.1
    omega
theorem F_sc (hN : NI cd (sd + 7000003) V c0 st hg P S) (hw : w < P) (hc : tr cd (sd + 7000003) V c0 (S 0 w) = c) : c 0 10 + S 1 w ≤ S 20 0 ∧ S 20 0 ≤ 30000 := by
  have q := (hN.1 w hw).2.2.2.2.2.1
  rw [hc] at q
  exact ⟨q, hN.2.1⟩
theorem F_pl (hC : C0 cd c0) (hN : NI cd (sd + 7000003) V c0 st hg P S) (hw : w < P) (hc : tr cd (sd + 7000003) V c0 (S 0 w) = c) (j : Nat) : c 6 j < 2 ^ 31 := by
  have q := F_sc hN hw hc
  have r := (tr_rb (bs := sd + 7000003) (V := V) hC j (S 0 w)).2
  rw [hc] at r
  omega
theorem F_co (hI : PI cd (sd + 7000003) V c0 P S) (hw : w < P) (hc : tr cd (sd + 7000003) V c0 (S 0 w) = c) (f1 : S 1 w = 0) : uk cd c = 2 ∧ stv (c 0 8) = 0 → ∀ x, x < P → S 9 x ≠ 0 → S 9 x - 1 ≠ c 0 5 := fun y x hx h9 e => by
  have q := (hI.2.2.2.2.1 x hx).1 h9 w hw
  unfold hco at q
  rw [hc] at q
  rcases q with q | ⟨-, q2⟩
  · omega
  · unfold pas at q2
    omega
theorem F_in (hW : WFc cd n P st hg) (hI : PI cd (sd + 7000003) V c0 P S) (hN : NI cd (sd + 7000003) V c0 st hg P S) (hw : w < P) (hc : tr cd (sd + 7000003) V c0 (S 0 w) = c) (hG : GD cd st hg c) (f1 : S 1 w = bn (snb cd c w)) (hu : uk cd c = 1) : blr cd P c S w = false → cd (c 0 0) = 13 → c 8 (cd (c 0 0 + 2)) < S 13 (cd (c 0 0 + 2)) := fun bl e => by
  have q := ((WF_a hW hG.1).2.1 e).2
  have sn := blr_s hI hw hc f1 bl (cd (c 0 0 + 2)) q (by
    rw [snb_1 (Or.inl hu)]
    unfold sdf
    rw [if_pos e]
    exact decide_eq_true rfl)
  have us := (hN.1 _ q).2.2.1.1
  rcases sn with y | ⟨y1, y2⟩
  · have m := tr_iu (cd := cd) (bs := sd + 7000003) (V := V) (c0 := c0) (cd (c 0 0 + 2)) (show S 0 w + 1 ≤ S 0 (cd (c 0 0 + 2)) from y)
    rw [tr_s, nx_iu, hc, if_pos ⟨hu, e, rfl⟩] at m
    unfold usv at us
    omega
  · rw [← y1, hc, y2] at us
    unfold usv at us
    rw [if_pos ⟨rfl, e⟩] at us
    omega
theorem F_pc (hC : C0 cd c0) (hI : PI cd (sd + 7000003) V c0 P S) (hw : w < P) (hc : tr cd (sd + 7000003) V c0 (S 0 w) = c) (f1 : S 1 w = bn (snb cd c w)) (hu : uk cd c = 2) : blr cd P c S w = false → stv (c 0 8) = 0 → ∀ j, j < P → pas cd (tr cd (sd + 7000003) V c0 (S 0 j)) (S 1 j) ∧ tr cd (sd + 7000003) V c0 (S 0 j) 0 5 = c 0 5 := fun bl s0 j hj => by
  have hs := hC.1.2.2.2.2.2
  have sgw := tr_SGV (bs := sd + 7000003) (V := V) hs (S 0 w)
  rw [hc] at sgw
  have uu := UK cd c
  have s0' := stv_0 s0 sgw hu rfl
  have ne : ¬ (c 0 8 = 6 ∨ c 0 8 = 16) := by omega
  have le := PI_2 hs hI hw hj (by rw [hc]; exact hu) (by rw [hc]; exact ne)
  have sn := blr_s hI hw hc f1 bl j hj (by rw [snb_1 (by omega), sdf_t (by omega)])
  unfold snt at sn
  by_cases t : S 0 j = S 0 w
  · rw [t, hc]
    exact ⟨⟨hu, Or.inr (by omega)⟩, rfl⟩
  · have t2 : S 0 j = S 0 w + 1 := by omega
    have q := uk_2s (bs := sd + 7000003) (V := V) sgw hu ne
    rw [t2, tr_s, hc]
    exact ⟨⟨q.1, Or.inl (by omega)⟩, q.2.2⟩
/-- who may receive: one who has sent, or who doesn't -/
theorem F_f1 (hI : PI cd (sd + 7000003) V c0 P S) (hw : w < P) (hc : tr cd (sd + 7000003) V c0 (S 0 w) = c) (h : ¬ (snb cd c w = true ∧ S 1 w = 0)) : S 1 w = bn (snb cd c w) := by
  have a := hI.1 w hw
  rw [hc] at a
  cases y : snb cd c w with
  | true =>
    have : ¬ S 1 w = 0 := fun t => h ⟨y, t⟩
    show S 1 w = 1
    omega
  | false =>
    by_cases t : S 1 w = 1
    · have := a.2 t
      rw [y] at this
      cases this
    · show S 1 w = 0
      omega
/-- counted -/
theorem FINC (hP : P ≤ 4) (hw : w < P) (hM : MC cd n P B sd V c0 S X I J) (e1 : ∀ b, b ≠ 18 + 21 * w → b ≠ 14 → I1 b = I b) (e2 : ∀ j, j ≠ 13 → I1 (18 + 21 * w) j = I (18 + 21 * w) j) (e3 : I1 (18 + 21 * w) 13 = I (18 + 21 * w) 13 + 1) (e4 : ∀ j, j ≠ 10 → I1 14 j = I 14 j) (e5 : I1 14 10 = I 14 10 + 1) : MC cd n P B sd V c0 (cnt S w) X I1 J := by
  have ha := (hM.2.2 w hw).1
  have m10 := hM.1.2.2.2.1
  refine MC_18 hP hw hM (K_cnt hP hw) e1 e4 (by rw [e5, m10, nI_1, cnt_20, apn_s]) ?_
  obtain ⟨a0, a6, a8, a9, a10, a11, a12, a13, a14⟩ := ha
  refine ⟨by rw [e2 0 (by decide)]; exact a0, by rw [e2 6 (by decide)]; exact a6, by rw [e2 8 (by decide)]; exact a8, by rw [e2 9 (by decide), cnt_1]; exact a9, by rw [e2 10 (by decide), cnt_2, cnt_3]; exact a10, by rw [e2 11 (by decide), cnt_2]; exact a11, by rw [e2 12 (by decide), cnt_3]; exact a12, by rw [e3, a13, nI_1, cnt_5, apn_s], a14⟩
theorem FINM (hP : P ≤ 4) (hw : w < P) (hM : MM cd st hg n P B sd V c0 S I J) (e1 : ∀ b, b ≠ 112 → b ≠ 129 → I1 b = I b) (e2 : ∀ j, j ≠ 86 → j ≠ 35 → I1 112 j = I 112 j) (e3 : I1 112 35 = I 112 35 + 1) (e4 : I1 129 w = I 129 w + 1) (e5 : ∀ i, i ≠ w → I1 129 i = I 129 i) : MM cd st hg n P B sd V c0 (cnt S w) I1 J := by
  have hc := (hM.2.2.2 w hw).2.2.1
  have m35 := hM.1.2.2.2.1
  refine MM_18 hP hw hM (K_cnt hP hw) (fun a a1 a2 a3 a4 => e1 a a1 a2) (fun j j1 j2 => e2 j j2 j1) (by rw [e3, m35, nI_1, cnt_20, apn_s]) (fun x hx => ⟨e5 x hx, by rw [e1 137 (by decide) (by decide)], by rw [e1 138 (by decide) (by decide)]⟩) (by rw [e4, hc.1, nI_1, cnt_5, apn_s]) (by rw [e1 137 (by decide) (by decide), cnt_2]; exact hc.2.2.2.2.2.2.2.2.1) (by rw [e1 138 (by decide) (by decide), cnt_3]; exact hc.2.2.2.2.2.2.2.2.2.1) (fun y => by rw [cnt_2, cnt_3] at y; exact y)
end FACTS
