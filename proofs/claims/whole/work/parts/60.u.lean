/-! the hall as both have it, and how a run begins -/
/-- what a hall has while none runs, or one runs: rows of G: 8 draws, 10 11 16 taken, 12 masks taken, 13 given, 14 masks, 15 inputs used, 20 steps and dealt -/
def HPY (V G : Nat → Nat → Nat) (I I' : MI) (J J' : MJ) (x : Nat) : Prop := I (25 + 21 * x) 6 = nI (G 8 x) ∧ I (29 + 21 * x) 2 = nI (G 13 x) ∧ I (29 + 21 * x) 3 = nI (G 15 x) ∧ I (29 + 21 * x) 4 = nI (G 14 x) ∧ I (29 + 21 * x) 5 = nI (G 12 x) ∧ I (31 + 21 * x) 0 = nI (G 10 x) ∧ I (31 + 21 * x) 1 = nI (G 11 x) ∧ I (31 + 21 * x) 2 = nI (G 16 x) ∧ (∀ k, k < G 13 x → V (10 + x) k < pP ∧ J (30 + 21 * x) k = lN (V (10 + x) k) ∧ J' 124 (100 * x + k) = lN (V (10 + x) k)) ∧ I' 118 x = nI (G 8 x) ∧ I' 125 x = nI (G 13 x) ∧ I' 126 x = nI (G 15 x) ∧ I' 120 x = nI (G 14 x) ∧ I' 119 x = nI (G 14 x - G 12 x) ∧ I' 121 x = nI (G 10 x) ∧ I' 122 x = nI (G 11 x) ∧ I' 123 x = nI (G 16 x) ∧ (G 15 x ≤ G 13 x ∧ G 13 x ≤ 100 ∧ G 12 x ≤ G 14 x ∧ G 14 x ≤ 200 ∧ G 10 x ≤ G 20 2 ∧ G 11 x ≤ G 20 3 ∧ G 16 x ≤ G 20 4 ∧ G 8 x ≤ 2 * G 20 0)
def HGL (P B : Nat) (sd : Int64) (G : Nat → Nat → Nat) (I I' : MI) (J J' : MJ) : Prop := (2 ≤ P ∧ P ≤ 4) ∧ (1 ≤ B ∧ B ≤ 4) ∧ (I 14 6 = nI P ∧ I 14 8 = nI B ∧ I 14 10 = nI (G 20 0) ∧ J 14 7 = sd ∧ I 102 0 = nI (G 20 2) ∧ I 102 1 = nI (G 20 3) ∧ I 102 2 = nI (G 20 4)) ∧ (I' 112 16 = nI P ∧ I' 112 17 = nI B ∧ I' 112 35 = nI (G 20 0) ∧ I' 112 24 = nI (G 20 2) ∧ I' 112 26 = nI (G 20 3) ∧ I' 112 28 = nI (G 20 4) ∧ J' 112 18 = lN (csm (fun j => dg_n sd (Int32.toInt64 (nI j))) P) ∧ J' 112 21 = sd + 7000003 ∧ ∀ j, j < P → J' 117 j = own sd j) ∧ (G 20 0 ≤ 30000 ∧ G 20 2 ≤ 200 ∧ G 20 3 ≤ 200 ∧ G 20 4 ≤ 200) ∧ ∀ x, x < 4 → I (18 + 21 * x) 0 = nI x
def HALL (P B : Nat) (sd : Int64) (V G : Nat → Nat → Nat) (I I' : MI) (J J' : MJ) : Prop := HGL P B sd G I I' J J' ∧ ∀ x, x < P → HPY V G I I' J J' x
/-- the first core -/
def cz (cd : Nat → Nat) (mb : Nat) (us : Nat → Nat) : Nat → Nat → Nat := fun k => match k with
  | 0 => fun i => match i with
    | 0 => (z0 cd).1
    | 1 => (z0 cd).2.1
    | 6 => mb
    | 8 => fp0 cd (z0 cd).1 0
    | _ => 0
  | 1 => (z0 cd).2.2
  | 8 => us
  | _ => fun _ => 0
def Sz (P : Nat) (G : Nat → Nat → Nat) : Nat → Nat → Nat := fun k => match k with
  | 8 => G 8
  | 10 => fun _ => mx (G 10) P
  | 11 => fun _ => mx (G 11) P
  | 12 => G 12
  | 13 => G 13
  | 14 => G 14
  | 20 => fun i => if i = 1 then 0 else G 20 i
  | _ => fun _ => 0
def Vz (V : Nat → Nat → Nat) : Nat → Nat → Nat := fun k => match k with
  | 0 => fun _ => 0
  | k + 1 => V (k + 1)
section START
variable {cd : Nat → Nat} {sd : Int64} {V G : Nat → Nat → Nat} {P n B x : Nat} {st : Nat → Bool} {hg : Nat → Nat} {X : MX} {I I' : MI} {J J' : MJ}
theorem Sz_3 {j : Nat} : Sz P G (30 + j) = fun _ => 0 := by
  unfold Sz
  split <;> first
    | rfl
    | (exfalso; omega)
theorem Sz_4 {j : Nat} : Sz P G (40 + j) = fun _ => 0 := by
  unfold Sz
  split <;> first
    | rfl
    | (exfalso; omega)
theorem Sz_5 {j : Nat} : Sz P G (50 + j) = fun _ => 0 := by
  unfold Sz
  split <;> first
    | rfl
    | (exfalso; omega)
theorem Vz_s {j : Nat} : Vz V (10 + j) = V (10 + j) := by
  rw [show 10 + j = (9 + j) + 1 by omega]
  rfl
theorem cz_C0 (mb : Nat) (us : Nat → Nat) : C0 cd (cz cd mb us) ∧ SG0 cd (cz cd mb us) := by
  have e : cz cd mb us 0 8 = fp0 cd (cz cd mb us 0 0) 0 := rfl
  refine ⟨⟨⟨Nat.le_refl _, Nat.le_refl _, Nat.le_refl _, Nat.le_refl _, ?_, ?_⟩, rfl, rfl, rfl, rfl, rfl, rfl, fun _ => rfl, fun _ => rfl⟩, SG0_f e rfl⟩
  · rw [e, stv_f]
    exact Nat.le_refl _
  · rw [e]
    exact SGV_0 _ _
theorem cz_GD (hW : WFc cd n P st hg) (mb : Nat) (us : Nat → Nat) : GD cd st hg (cz cd mb us) := by
  have q := stl_w (va := fun _ => 0) hW 2000 0 0 (fun _ => 0) (by have := hW.2.1; omega) hW.2.2.2.1 hW.2.2.2.2.1
  exact ⟨q.1, q.2.1, q.2.2, fun i hi => absurd hi (Nat.not_lt_zero _)⟩
theorem beginOK (hW : WFc cd n P st hg) (hH : HALL P B sd V G I I' J J') (hX : XI X) (hr : rowC I 15 16 n cd) (h8 : ¬ I' 112 8 = 0) (h114 : ∀ k, k < n → I' 114 k = nI (cd k)) : ∃ I1 J1 I1' J1', f_Sh_begin I J = some (1, I1, J1) ∧ f_Model_begin I' J' = some (1, I1', J1') ∧ RU cd st hg n P B sd (Vz V) (cz cd (mx (G 16) P) (G 15)) (Sz P G) X I1 J1 I1' J1' ∧ ST cd st hg n P B (cz cd (mx (G 16) P) (G 15)) ∧ (∀ b, b < 18 ∨ 102 ≤ b → b ≠ 14 → b ≠ 103 → I1 b = I b) ∧ (∀ j, j ≠ 9 → I1 14 j = I 14 j) ∧ (∀ b, b < 18 ∨ 102 ≤ b → J1 b = J b) ∧ (∀ x, x < 4 → I1 (18 + 21 * x) 0 = I (18 + 21 * x) 0) ∧ (∀ b, b < 118 ∨ 150 < b → b ≠ 112 → I1' b = I' b) ∧ (∀ j, j ≠ 0 → j ≠ 34 → j ≠ 60 → j ≠ 66 → I1' 112 j = I' 112 j) ∧ (∀ b, b ≠ 143 → J1' b = J' b) := by
  obtain ⟨⟨⟨hP2, hP⟩, hB, ⟨m6, m8, m10, m7, md0, md1, md2⟩, ⟨n16, n17, n35, n24, n26, n28, nk, nb, no⟩, ⟨hsa, hd0, hd1, hd2⟩, hix⟩, hp⟩ := hH
  have bnd : ∀ x, x < P → G 10 x ≤ 200 ∧ G 11 x ≤ 200 ∧ G 16 x ≤ 200 := fun x hx => by
    obtain ⟨-, -, -, -, -, -, -, -, -, -, -, -, -, -, -, -, -, b⟩ := hp x hx
    omega
  obtain ⟨I1, J1, a1, a2, a3, a4, a5, a6, a7, a8, a9, a10⟩ := BEGC (us := G 15) (t0 := G 10) (t1 := G 11) (t2 := G 16) (J := J) hW hP m6 hr (fun x hx => hix x (by omega)) (fun x hx => (hp x hx).2.2.1) (fun x hx => ⟨(bnd x hx).1, (hp x hx).2.2.2.2.2.1⟩) (fun x hx => ⟨(bnd x hx).2.1, (hp x hx).2.2.2.2.2.2.1⟩) (fun x hx => ⟨(bnd x hx).2.2, (hp x hx).2.2.2.2.2.2.2.1⟩)
  obtain ⟨I1', J1', c1, c2, c3, c4, c5, c6, c7, c8, c9⟩ := BEGR (t0 := G 10) (t1 := G 11) (t2 := G 16) (J := J') hP n16 h8 (fun x hx => ⟨(bnd x hx).1, by
      obtain ⟨-, -, -, -, -, -, -, -, -, -, -, -, -, -, q, -⟩ := hp x hx
      exact q⟩) (fun x hx => ⟨(bnd x hx).2.1, by
      obtain ⟨-, -, -, -, -, -, -, -, -, -, -, -, -, -, -, q, -⟩ := hp x hx
      exact q⟩) (fun x hx => ⟨(bnd x hx).2.2, by
      obtain ⟨-, -, -, -, -, -, -, -, -, -, -, -, -, -, -, -, q, -⟩ := hp x hx
      exact q⟩)
  have hC := cz_C0 (cd := cd) (mx (G 16) P) (G 15)
  have hG := cz_GD hW (mx (G 16) P) (G 15)
  obtain ⟨c0, hc0⟩ : ∃ c0, cz cd (mx (G 16) P) (G 15) = c0 := ⟨_, rfl⟩
  have mxb : mx (G 10) P ≤ G 20 2 ∧ mx (G 11) P ≤ G 20 3 ∧ mx (G 16) P ≤ G 20 4 := by
    refine ⟨mx_b P (fun j hj => ?_), mx_b P (fun j hj => ?_), mx_b P (fun j hj => ?_)⟩
    all_goals
      obtain ⟨-, -, -, -, -, -, -, -, -, -, -, -, -, -, -, -, -, b⟩ := hp j hj
      omega
  have S0 : ∀ x, Sz P G 0 x = 0 := fun _ => rfl
  have S1 : ∀ x, Sz P G 1 x = 0 := fun _ => rfl
  have nsn : ∀ i j, ¬ snt (Sz P G) i j := fun i j h => by
    unfold snt at h
    rw [S0, S1] at h
    omega
  have nbg : ∀ i, ¬ bgn P (Sz P G) i := fun i ⟨p, _, q⟩ => nsn i p q
  have fp : cz cd (mx (G 16) P) (G 15) 0 8 = fp0 cd (cz cd (mx (G 16) P) (G 15) 0 0) 0 := rfl
  have npas : ¬ pas cd (cz cd (mx (G 16) P) (G 15)) 0 := pas_n fp
  have nhco : ∀ j k, ¬ hco cd (sd + 7000003) (Vz V) (cz cd (mx (G 16) P) (G 15)) (Sz P G) j k := fun j k h => by
    unfold hco at h
    rw [S0, S1] at h
    rcases h with h | ⟨-, h⟩
    · exact absurd h (Nat.not_lt_zero _)
    · exact npas h
  have T0 : tr cd (sd + 7000003) (Vz V) (cz cd (mx (G 16) P) (G 15)) 0 = cz cd (mx (G 16) P) (G 15) := rfl
  have nwp : ∀ b, b < 127 ∨ b = 140 ∨ b = 143 ∨ b = 144 ∨ 145 < b → ¬ wpR b := fun b hb => by
    unfold wpR
    omega
  have kr : ∀ b, b < 118 ∨ 150 < b → b ≠ 112 → I1' b = I' b := fun b h1 h2 => c2 b (nwp b (by omega)) h2 (by omega) (by omega) (by omega) (by omega) (by omega) (by omega)
  refine ⟨I1, J1, I1', J1', a1, c1, ⟨⟨⟨by rw [a4 6 (by decide)]; exact m6, by rw [a4 8 (by decide)]; exact m8, a5, by rw [a4 10 (by decide)]; exact m10, by rw [a8 14 (by omega)]; exact m7, rowC_f2 hr (a3 15 (by omega) (by decide) (by decide)) (a3 16 (by omega) (by decide) (by decide)), by rw [a3 102 (by omega) (by decide) (by decide)]; exact md0, by rw [a3 102 (by omega) (by decide) (by decide)]; exact md1, by rw [a3 102 (by omega) (by decide) (by decide)]; exact md2⟩, hX, fun x hx => ?_⟩, ⟨⟨by rw [c3 16 (by decide) (by decide) (by decide) (by decide)]; exact n16, by rw [c3 17 (by decide) (by decide) (by decide) (by decide)]; exact n17, c4.2.1, by rw [c3 35 (by decide) (by decide) (by decide) (by decide)]; exact n35, c4.2.2.1, by rw [c3 24 (by decide) (by decide) (by decide) (by decide)]; exact n24, by rw [c3 26 (by decide) (by decide) (by decide) (by decide)]; exact n26, by rw [c3 28 (by decide) (by decide) (by decide) (by decide)]; exact n28, by rw [kr 114 (by omega) (by omega)]; exact h114, by rw [c8 112 (by decide)]; exact nk, by rw [c8 112 (by decide)]; exact nb, by rw [c8 117 (by decide)]; exact no⟩, fun i _ h => absurd h (nbg i), fun j _ k h => absurd h (nhco j k), fun x hx => ?_⟩, ⟨a7, c4.2.2.2, Nat.zero_le _, fun t ht => absurd ht (Nat.not_lt_zero _)⟩, ?_, ?_, fun x hx => ?_⟩, ⟨hW, ⟨hP2, hP⟩, hB, hC⟩, fun b b1 b2 b3 => a3 b b1 b2 b3, a4, a8, fun x hx => (a9 x hx).1, kr, c3, c8⟩
  · -- the class
    rw [S0, T0]
    obtain ⟨q1, q2, q3, q4, q5, q6, q7, q8, qi, r1, r2, r3, r4, r5, r6, r7, r8, qb⟩ := hp x hx
    obtain ⟨⟨g0, g6, g8, g9, g10, g11, g12, g13⟩, gv, gk, gp, gw, gi⟩ := a2 x hx
    obtain ⟨f18, f25, f29, fJ⟩ := a9 x (by omega)
    obtain ⟨t0, t1, t2⟩ := a10 x hx
    have xx := hX.1 x (by omega)
    refine ⟨⟨g0, g6, g8, ?_, g10, g11, g12, g13, fun y => ?_⟩, gv, ⟨⟨(0, fun _ => 0, fun _ => 0, 0), ⟨⟨gk.1, Nat.zero_le _⟩, ⟨gk.2.1, show 0 < 2 ^ 30 by decide⟩, fun i hi => absurd hi (Nat.not_lt_zero _)⟩, rfl, rfl⟩, gk.2.2.1, by rw [f25]; exact q1, fun y => absurd y npas, Or.inl ⟨rfl, gk.2.2.2⟩⟩, ⟨by rw [f29]; exact q2, by rw [f29]; exact q3, by rw [f29]; exact q4, by rw [f29]; exact q5, t0, t1, t2, fun k hk => by rw [Vz_s, fJ]; exact ⟨(qi k hk).1, (qi k hk).2.1⟩⟩, ⟨gp.1, gp.2.1, gp.2.2.1, gp.2.2.2, fun j hj => by rw [Sz_3]; exact (gw j (by omega)).1, fun j hj => by rw [Sz_5]; exact (gw j (by omega)).2.1, fun j hj => by rw [Sz_4]; exact (gw j (by omega)).2.2.1, fun j hj => (gw j (by omega)).2.2.2, gi⟩, ⟨xx.1, xx.2.1, Nat.zero_le _, xx.2.2.1, xx.2.2.2, fun i hi => absurd hi (Nat.not_lt_zero _)⟩⟩
    · rw [S1, ← fph_cph (w := x) fp]
      exact g9
    · exfalso
      rw [fp] at y
      have := fp0_8 (cd := cd) (pos := cz cd (mx (G 16) P) (G 15) 0 0) (o := 0)
      omega
  · -- the reference
    rw [S0, T0]
    obtain ⟨q1, q2, q3, q4, q5, q6, q7, q8, qi, r1, r2, r3, r4, r5, r6, r7, r8, qb⟩ := hp x hx
    have wv : ∀ b, wpR b → b ≠ 142 → I1' b x = nI 0 := fun b h1 h2 => by
      rw [c5 b x h1 (by omega)]
      exact if_neg h2
    have wr : ∀ b, (127 ≤ b ∧ b ≤ 139) ∨ b = 141 ∨ b = 145 → I1' b x = nI 0 := fun b h => wv b (by unfold wpR; omega) (by omega)
    have ws : ∀ b, (b < 121 ∨ (123 < b ∧ b < 127)) ∧ b ≠ 112 → I1' b = I' b := fun b h => c2 b (nwp b (by omega)) h.2 (by omega) (by omega) (by omega) (by omega) (by omega) (by omega)
    refine ⟨⟨0, 0, fun _ => 0, hW.2.2.2.1, hW.2.2.2.2.1, ⟨⟨wr 145 (by omega), Nat.zero_le _⟩, fun i hi => absurd hi (Nat.not_lt_zero _), fun i hi => ⟨pP_pos, c9 _ (by omega)⟩, ⟨wr 141 (by omega), Nat.zero_le _⟩, fun i hi => absurd hi (Nat.not_lt_zero _)⟩, wr 127 (by omega), rfl⟩, MRb_n fp rfl rfl (wr 128 (by omega)), ⟨wr 129 (by omega), wr 130 (by omega), wr 131 (by omega), wr 132 (by omega), wr 133 (by omega), wr 134 (by omega), wr 135 (by omega), wr 136 (by omega), wr 137 (by omega), wr 138 (by omega), fun _ => wr 139 (by omega), Or.inl ⟨rfl, by rw [c5 142 x (by unfold wpR; omega) (by omega)]; exact if_pos rfl⟩, by rw [ws 118 (by omega)]; exact r1, (c7 x hx).1, (c7 x hx).2.1, (c7 x hx).2.2, by rw [ws 125 (by omega)]; exact r2, by rw [ws 126 (by omega)]; exact r3, by rw [ws 119 (by omega)]; exact r5, by rw [ws 120 (by omega)]; exact r4⟩, ⟨fun y => ?_, fun k hk => by rw [Vz_s, c8 124 (by decide)]; exact ⟨(qi k hk).1, (qi k hk).2.2⟩, fun j hj => by rw [Sz_3]; exact (c6 _ (by omega)).1, fun j hj => by rw [Sz_5]; exact (c6 _ (by omega)).2.1, fun j hj => by rw [Sz_4]; exact (c6 _ (by omega)).2.2⟩, fun i hi => absurd hi (Nat.not_lt_zero _)⟩
    exfalso
    rw [fp] at y
    have := fp0_8 (cd := cd) (pos := cz cd (mx (G 16) P) (G 15) 0 0) (o := 0)
    omega
  · -- who is where
    refine ⟨fun x hx => ⟨by rw [S1]; decide, fun y => by rw [S1] at y; cases y⟩, fun p hp i hi => by rw [S0] at hi; exact absurd hi (Nat.not_lt_zero _), fun j hj p hp hne => ?_, fun x hx => by rw [Sz_3], fun x hx => ⟨fun y => absurd rfl y, fun y1 y2 => ?_⟩, fun x hx => Nat.le_refl _, fun i hi => ⟨fun y => absurd y (Nat.not_lt_zero _), fun y => absurd y (nbg i)⟩, fun i _ => Nat.zero_le _⟩
    · rw [Sz_3, Sz_4, S0, S0, S1, T0]
      rfl
    · exfalso
      rw [S0, T0, fp, stv_f] at y2
      omega
  · refine ⟨fun x hx => ?_, hsa, Nat.zero_le _, hd0, hd1, hd2⟩
    rw [S0, T0]
    obtain ⟨q1, q2, q3, q4, q5, q6, q7, q8, qi, r1, r2, r3, r4, r5, r6, r7, r8, qb⟩ := hp x hx
    refine ⟨hG, mxb, ⟨qb.1, qb.2.1⟩, ⟨qb.2.2.1, qb.2.2.2.1⟩, ⟨Nat.zero_le _, show 0 < 8 by decide, Nat.zero_le _⟩, Nat.zero_le _, qb.2.2.2.2.2.2.2, fun j hj => by rw [Sz_5]; exact Nat.zero_le _⟩
  · rw [Sz_4, Sz_5, Sz_3]
    exact ⟨rfl, rfl, fun _ _ => Nat.zero_le _⟩
end START
