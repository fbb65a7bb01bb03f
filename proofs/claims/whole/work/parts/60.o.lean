/-! the run: a mail is brought -/
section BRING
variable {cd : Nat → Nat} {sd : Int64} {V c c0 : Nat → Nat → Nat} {P n B w a b : Nat} {st : Nat → Bool} {hg : Nat → Nat} {S S' : Nat → Nat → Nat} {X : MX} {I I1 I' I1' : MI} {J J1 J' J1' : MJ}
/-- rows that stay where mail moves -/
def KM (P : Nat) (S S' : Nat → Nat → Nat) : Prop := (∀ k, k < 15 → k ≠ 4 → S' k = S k) ∧ (∀ j, j < P → S' (60 + j) = S (60 + j)) ∧ S' 20 = S 20
theorem MC_o (hP : P ≤ 4) (hM : MC cd n P B sd V c0 S X I J) (hK : KM P S S') (eI : ∀ c, (∀ x, x < 4 → c ≠ 32 + 21 * x ∧ c ≠ 33 + 21 * x ∧ c ≠ 34 + 21 * x ∧ c ≠ 35 + 21 * x) → I1 c = I c) (ho : ∀ x, x < P → MCo cd P S' (tr cd (sd + 7000003) V c0 (S 0 x)) I1 x) : MC cd n P B sd V c0 S' X I1 J := by
  obtain ⟨⟨m6, m8, m9, m10, m7, mr, md0, md1, md2⟩, hX, hp⟩ := hM
  obtain ⟨k1, k6, k20⟩ := hK
  refine ⟨⟨?_, ?_, ?_, ?_, m7, rowC_f2 mr (eI 15 (fun x hx => by omega)) (eI 16 (fun x hx => by omega)), ?_, ?_, ?_⟩, hX, fun x hx => ?_⟩
  · rw [eI 14 (fun x hx => by omega)]
    exact m6
  · rw [eI 14 (fun x hx => by omega)]
    exact m8
  · rw [eI 14 (fun x hx => by omega)]
    exact m9
  · rw [eI 14 (fun x hx => by omega), k20]
    exact m10
  · rw [eI 102 (fun x hx => by omega), k20]
    exact md0
  · rw [eI 102 (fun x hx => by omega), k20]
    exact md1
  · rw [eI 102 (fun x hx => by omega), k20]
    exact md2
  · rw [k1 0 (by decide) (by decide)]
    obtain ⟨ha, cv, ⟨⟨s, s1, s2, s3⟩, q5, q6, q7, q8⟩, hs, -, ov⟩ := hp x hx
    refine ⟨?_, CV_fr cv (eI _ (fun x hx => by omega)) (eI _ (fun x hx => by omega)) rfl rfl rfl rfl, ⟨⟨s, CK_fr s1 (eI _ (fun x hx => by omega)) (eI _ (fun x hx => by omega)) rfl, s2, s3⟩, ?_, ?_, ?_, ?_⟩, ?_, ho x hx, ov⟩
    · unfold MCa at ha ⊢
      rw [eI (18 + 21 * x) (fun x hx => by omega), k1 1 (by decide) (by decide), k1 2 (by decide) (by decide), k1 3 (by decide) (by decide), k1 5 (by decide) (by decide)]
      exact ha
    · rw [eI (25 + 21 * x) (fun x hx => by omega)]
      exact q5
    · rw [eI (25 + 21 * x) (fun x hx => by omega), k1 8 (by decide) (by decide)]
      exact q6
    · rw [eI (25 + 21 * x) (fun x hx => by omega), k1 1 (by decide) (by decide), k6 x hx]
      exact q7
    · rw [eI (25 + 21 * x) (fun x hx => by omega), eI (28 + 21 * x) (fun x hx => by omega), k1 9 (by decide) (by decide)]
      rcases q8 with y | ⟨y1, y2, y3⟩
      · exact Or.inl y
      · exact Or.inr ⟨y1, y2, fun j hj => by rw [k6 j hj]; exact y3 j hj⟩
    · unfold MCs at hs ⊢
      rw [eI (29 + 21 * x) (fun x hx => by omega), eI (31 + 21 * x) (fun x hx => by omega), k1 13 (by decide) (by decide), k1 1 (by decide) (by decide), k1 14 (by decide) (by decide), k1 12 (by decide) (by decide), k1 10 (by decide) (by decide), k1 11 (by decide) (by decide)]
      exact hs
theorem MM_o (hP : P ≤ 4) (hM : MM cd st hg n P B sd V c0 S I J) (hK : KM P S S') (eI : ∀ c, c ≠ 139 → c ≠ 148 → c ≠ 149 → c ≠ 150 → I1 c = I c) (h139 : ∀ x, x < P → stt cd (tr cd (sd + 7000003) V c0 (S 0 x)) (S 2 x) (S 3 x) = 1 → I1 139 x = nI (S' 4 x)) (hw : ∀ x, x < P → ∀ j, j < P → I1 148 (4 * x + j) = nI (S' (30 + x) j) ∧ I1 149 (4 * x + j) = nI (S' (50 + x) j) ∧ I1 150 (4 * j + x) = nI (S' (40 + x) j)) : MM cd st hg n P B sd V c0 S' I1 J := by
  obtain ⟨⟨m16, m17, m34, m35, m60, m24, m26, m28, m114, mk, mb, mo⟩, hE, hKo, hp⟩ := hM
  obtain ⟨k1, k6, k20⟩ := hK
  have h0 := k1 0 (by decide) (by decide)
  have h1 := k1 1 (by decide) (by decide)
  have g : ∀ c, (c < 139 ∨ 139 < c) ∧ (c < 148 ∨ 150 < c) → I1 c = I c := fun c h => eI c (by omega) (by omega) (by omega) (by omega)
  have sn : ∀ i j, snt S' i j ↔ snt S i j := fun i j => by
    unfold snt
    rw [h0, h1]
  have hcs : ∀ j k, hco cd (sd + 7000003) V c0 S' j k ↔ hco cd (sd + 7000003) V c0 S j k := fun j k => by
    unfold hco
    rw [h0, h1]
  have e112 := g 112 (by decide)
  refine ⟨by unfold MRg; rw [e112, g 114 (by decide), k20]; exact ⟨m16, m17, m34, m35, m60, m24, m26, m28, m114, mk, mb, mo⟩, MRe_fr hE (g 151 (by decide)) (g 153 (by decide)) rfl (fun i _ ⟨p, hp, q⟩ => ⟨p, hp, (sn i p).mp q⟩) (fun i j _ _ _ => sn i j), MRk_fr hKo rfl rfl (fun j _ k h => (hcs j k).mp h) k6, fun x hx => ?_⟩
  rw [h0]
  obtain ⟨⟨pos, h', sk, p1, p2, p3, p4, p5⟩, pb, ⟨r129, r130, r131, r132, r133, r134, r135, r136, r137, r138, r139, r142, r118, r121, r122, r123, r125, r126, r119, r120⟩, ⟨d1, d2, d3, d4, d5⟩, po⟩ := hp x hx
  refine ⟨⟨pos, h', sk, p1, p2, RV_eq p3 (by rw [g 145 (by decide)]) (by rw [g 141 (by decide)]) (g 140 (by decide)) rfl rfl, by rw [g 127 (by decide)]; exact p4, p5⟩, ?_, ?_, ⟨d1, ?_, fun j hj => (hw x hx j hj).1, fun j hj => (hw x hx j hj).2.1, fun j hj => (hw x hx j hj).2.2⟩, po⟩
  · unfold MRb at pb ⊢
    rw [g 128 (by decide), h1]
    exact pb
  · unfold MRc
    rw [g 129 (by decide), g 130 (by decide), g 131 (by decide), g 132 (by decide), g 133 (by decide), g 134 (by decide), g 135 (by decide), g 136 (by decide), g 137 (by decide), g 138 (by decide), g 142 (by decide), g 118 (by decide), g 121 (by decide), g 122 (by decide), g 123 (by decide), g 125 (by decide), g 126 (by decide), g 119 (by decide), g 120 (by decide), h1, k1 2 (by decide) (by decide), k1 3 (by decide) (by decide), k1 5 (by decide) (by decide), k1 6 (by decide) (by decide), k1 7 (by decide) (by decide), k1 8 (by decide) (by decide), k1 9 (by decide) (by decide), k1 10 (by decide) (by decide), k1 11 (by decide) (by decide), k1 12 (by decide) (by decide), k1 13 (by decide) (by decide), k1 14 (by decide) (by decide)]
    exact ⟨r129, r130, r131, r132, r133, r134, r135, r136, r137, r138, h139 x hx, r142, r118, r121, r122, r123, r125, r126, r119, r120⟩
  · rw [k1 13 (by decide) (by decide)]
    exact d2
/-- a mail moves -/
def SMv (S : Nat → Nat → Nat) (a b : Nat) : Nat → Nat → Nat := sr (sr S (30 + a) (apn (S (30 + a)) b (S (30 + a) b - 1))) (40 + b) (apn (S (40 + b)) a (S (40 + b) a + 1))
/-- a notice comes -/
def SN (S : Nat → Nat → Nat) (a b : Nat) : Nat → Nat → Nat := sr (sr S (50 + a) (apn (S (50 + a)) b 0)) 4 (apn (S 4) b 1)
theorem KM_M (hP : P ≤ 4) (ha : a < P) (hb : b < P) : KM P S (SMv S a b) := ⟨fun k hk _ => by unfold SMv; rw [sr_n _ _ (by omega), sr_n _ _ (by omega)], fun j hj => by unfold SMv; rw [sr_n _ _ (by omega), sr_n _ _ (by omega)], by unfold SMv; rw [sr_n _ _ (by omega), sr_n _ _ (by omega)]⟩
theorem KM_N (hP : P ≤ 4) (ha : a < P) : KM P S (SN S a b) := ⟨fun k hk h4 => by unfold SN; rw [sr_n _ _ h4, sr_n _ _ (by omega)], fun j hj => by unfold SN; rw [sr_n _ _ (by omega), sr_n _ _ (by omega)], by unfold SN; rw [sr_n _ _ (by omega), sr_n _ _ (by omega)]⟩
theorem SMv_3 (hP : P ≤ 4) (ha : a < P) (hb : b < P) {x j : Nat} (hx : x < P) : SMv S a b (30 + x) j = if x = a ∧ j = b then S (30 + x) j - 1 else S (30 + x) j := by
  unfold SMv
  rw [sr_n _ _ (by omega)]
  by_cases z : x = a
  · rw [z, sr_s]
    by_cases y : j = b
    · rw [y, apn_s, if_pos ⟨rfl, rfl⟩]
    · rw [apn_n _ _ y, if_neg (fun t => y t.2)]
  · rw [sr_n _ _ (by omega), if_neg (fun t => z t.1)]
theorem SMv_4 (hP : P ≤ 4) (ha : a < P) (hb : b < P) {x j : Nat} (hx : x < P) : SMv S a b (40 + x) j = if x = b ∧ j = a then S (40 + x) j + 1 else S (40 + x) j := by
  unfold SMv
  by_cases z : x = b
  · rw [z, sr_s]
    by_cases y : j = a
    · rw [y, apn_s, if_pos ⟨rfl, rfl⟩]
    · rw [apn_n _ _ y, if_neg (fun t => y t.2)]
  · rw [sr_n _ _ (by omega), sr_n _ _ (by omega), if_neg (fun t => z t.1)]
theorem SMv_5 (hP : P ≤ 4) (ha : a < P) (hb : b < P) {x : Nat} (hx : x < P) : SMv S a b (50 + x) = S (50 + x) := by
  unfold SMv
  rw [sr_n _ _ (by omega), sr_n _ _ (by omega)]
theorem SN_3 (hP : P ≤ 4) (ha : a < P) {x : Nat} (hx : x < P) : SN S a b (30 + x) = S (30 + x) := by
  unfold SN
  rw [sr_n _ _ (by omega), sr_n _ _ (by omega)]
theorem SN_4 (hP : P ≤ 4) (ha : a < P) {x : Nat} (hx : x < P) : SN S a b (40 + x) = S (40 + x) := by
  unfold SN
  rw [sr_n _ _ (by omega), sr_n _ _ (by omega)]
theorem SN_5 (hP : P ≤ 4) (ha : a < P) {x j : Nat} (hx : x < P) : SN S a b (50 + x) j = if x = a ∧ j = b then 0 else S (50 + x) j := by
  unfold SN
  rw [sr_n _ _ (by omega)]
  by_cases z : x = a
  · rw [z, sr_s]
    by_cases y : j = b
    · rw [y, apn_s, if_pos ⟨rfl, rfl⟩]
    · rw [apn_n _ _ y, if_neg (fun t => y t.2)]
  · rw [sr_n _ _ (by omega), if_neg (fun t => z t.1)]
theorem SN_q : SN S a b 4 = apn (S 4) b 1 := sr_s _ _ _
theorem PI_M (hP : P ≤ 4) (ha : a < P) (hb : b < P) (h1 : 1 ≤ S (30 + a) b) (h : PI cd (sd + 7000003) V c0 P S) : PI cd (sd + 7000003) V c0 P (SMv S a b) := by
  obtain ⟨k1, -, k20⟩ := KM_M (S := S) hP ha hb
  have e0 := k1 0 (by decide) (by decide)
  have e1 := k1 1 (by decide) (by decide)
  have e9 := k1 9 (by decide) (by decide)
  have hne : a ≠ b := fun t => by
    have := h.2.2.2.1 a ha
    rw [← t] at h1
    omega
  obtain ⟨a1, a2, a3, a4, a5, a6, a7, a8⟩ := h
  have sn : ∀ i j, snt (SMv S a b) i j ↔ snt S i j := fun i j => by
    unfold snt
    rw [e0, e1]
  have hc : ∀ j k, hco cd (sd + 7000003) V c0 (SMv S a b) j k ↔ hco cd (sd + 7000003) V c0 S j k := fun j k => by
    unfold hco
    rw [e0, e1]
  refine ⟨fun w hw => by rw [e0, e1]; exact a1 w hw, fun p hp i hi j hj y => (sn i j).mpr (a2 p hp i (by rw [e0] at hi; exact hi) j hj y), fun j hj p hp hn => ?_, fun w hw => ?_, fun w hw => ⟨fun y j hj => ?_, ?_⟩, fun w hw => by rw [e0, k20]; exact a6 w hw, fun i hi => ?_, fun i hi => by rw [k20]; exact a8 i (fun ⟨p, hp, q⟩ => hi ⟨p, hp, (sn i p).mpr q⟩)⟩
  · rw [SMv_3 hP ha hb hj, SMv_4 hP ha hb hp, e0, e1]
    have q := a3 j hj p hp hn
    by_cases y : j = a ∧ p = b
    · rw [if_pos y, if_pos ⟨y.2, y.1⟩]
      rw [y.1, y.2] at q ⊢
      omega
    · rw [if_neg y, if_neg (fun t => y ⟨t.2, t.1⟩)]
      exact q
  · rw [SMv_3 hP ha hb hw, if_neg (fun t => hne (t.1.symm.trans t.2))]
    exact a4 w hw
  · rw [e9] at y ⊢
    exact (hc j _).mpr ((a5 w hw).1 y j hj)
  · rw [e0, e9]
    exact (a5 w hw).2
  · rw [k20, a7 i hi]
    exact ⟨fun ⟨p, hp, q⟩ => ⟨p, hp, (sn i p).mpr q⟩, fun ⟨p, hp, q⟩ => ⟨p, hp, (sn i p).mp q⟩⟩
theorem NI_K (h : NI cd (sd + 7000003) V c0 st hg P S) (hK : KM P S S') (h4 : ∀ x, x < P → S' 4 x ≤ 1) (h5 : ∀ x, x < P → ∀ j, j < P → S' (50 + x) j ≤ 1) : NI cd (sd + 7000003) V c0 st hg P S' := by
  obtain ⟨k1, -, k20⟩ := hK
  refine ⟨fun x hx => ?_, by rw [k20]; exact h.2⟩
  obtain ⟨q1, q2, q3, q4, q5, q6, q7, q8⟩ := h.1 x hx
  rw [k1 0 (by decide) (by decide), k1 1 (by decide) (by decide), k1 2 (by decide) (by decide), k1 3 (by decide) (by decide), k1 8 (by decide) (by decide), k1 10 (by decide) (by decide), k1 11 (by decide) (by decide), k1 12 (by decide) (by decide), k1 13 (by decide) (by decide), k1 14 (by decide) (by decide), k20]
  exact ⟨q1, q2, q3, q4, ⟨q5.1, q5.2.1, h4 x hx⟩, q6, q7, h5 x hx⟩
theorem UPR (I : MI) (a : Nat) (f : Nat → Int32) : ∃ A : MI, va_up I a f = A ∧ (∀ b, b ≠ a → A b = I b) ∧ A a = f ∧ True := ⟨_, rfl, fun _ hb => va_up_ne _ _ hb, va_up_self _ _ _, trivial⟩
/-- settled, with any memory that is so framed -/
theorem MM_FG (hP : P ≤ 4) (hw : w < P) (hM : MM cd st hg n P B sd V c0 S I J) (hc : tr cd (sd + 7000003) V c0 (S 0 w) = c) (hG : GD cd st hg c) (b4 : FG w I I1 J J1) (b2 : RV I1 J1 w (c 0 1) (c 1) (c 2) (c 0 2) (c 3)) (b3 : I1 127 w = nI (c 0 0)) : MM cd st hg n P B sd V c0 S I1 J1 := by
  have hM' := hM
  obtain ⟨⟨m16, m17, m34, m35, m60, m24, m26, m28, m114, mk, mb, mo⟩, hE, hKo, hp⟩ := hM
  have hpw := hp w hw
  rw [hc] at hpw
  obtain ⟨-, pb, ⟨r129, r130, r131, r132, r133, r134, r135, r136, r137, r138, r139, r142, r118, r121, r122, r123, r125, r126, r119, r120⟩, ⟨d1, d2, d3, d4, d5⟩, po⟩ := hpw
  have fI : ∀ a, a ≠ 145 → a ≠ 140 → a ≠ 141 → a ≠ 127 → I1 a = I a := b4.1
  have fJ : ∀ a, a ≠ 143 → a ≠ 144 → J1 a = J a := b4.2.2.2.1
  have g : ∀ a, (a < 127 ∨ 127 < a) ∧ (a < 140 ∨ 141 < a) ∧ (a < 145 ∨ 145 < a) → I1 a = I a := fun a h => fI a (by omega) (by omega) (by omega) (by omega)
  refine MR_st hM' hP hw (RF_FG b4) (fun x hx hn => ⟨fun k hk => rfl, fun j hj => rfl, fun j hj => rfl, fun j hj => rfl, fun k => rfl, fun _ j hj => rfl⟩) (by rw [g 112 (by decide)]; exact m60) rfl rfl rfl rfl (MRe_fr hE (g 151 (by decide)) (g 153 (by decide)) (fJ 152 (by decide) (by decide)) (fun i _ h => h) (fun i j _ _ _ => Iff.rfl)) (MRk_fr hKo (fJ 154 (by decide) (by decide)) (fJ 155 (by decide) (by decide)) (fun j _ k h => h) (fun j hj => rfl)) (fun x hx hn => ?_) ?_
  · unfold MRo
    rw [fJ 147 (by decide) (by decide)]
    exact (hp x hx).2.2.2.2
  · rw [hc]
    refine ⟨MRa_s hG b2 b3, ?_, ?_, ⟨?_, ?_, ?_, ?_, ?_⟩, ?_⟩
    · unfold MRb at pb ⊢
      rw [g 128 (by decide)]
      exact pb
    · unfold MRc
      rw [g 129 (by decide), g 130 (by decide), g 131 (by decide), g 132 (by decide), g 133 (by decide), g 134 (by decide), g 135 (by decide), g 136 (by decide), g 137 (by decide), g 138 (by decide), g 139 (by decide), g 142 (by decide), g 118 (by decide), g 121 (by decide), g 122 (by decide), g 123 (by decide), g 125 (by decide), g 126 (by decide), g 119 (by decide), g 120 (by decide)]
      exact ⟨r129, r130, r131, r132, r133, r134, r135, r136, r137, r138, r139, r142, r118, r121, r122, r123, r125, r126, r119, r120⟩
    · rw [fJ 146 (by decide) (by decide)]
      exact d1
    · rw [fJ 124 (by decide) (by decide)]
      exact d2
    · rw [g 148 (by decide)]
      exact d3
    · rw [g 149 (by decide)]
      exact d4
    · rw [g 150 (by decide)]
      exact d5
    · unfold MRo
      rw [fJ 147 (by decide) (by decide)]
      exact po
/-- what is brought by both -/
def OUTB (cd : Nat → Nat) (st : Nat → Bool) (hg : Nat → Nat) (n P B : Nat) (sd : Int64) (V c0 S : Nat → Nat → Nat) (X : MX) (I : MI) (J : MJ) (I' : MI) (J' : MJ) (a b : Nat) : Prop := ∃ v S1 I1 I1' J1', v ≤ 1 ∧ (∀ {α : Type} {F : Int32 → MI → MJ → Option α}, oc (f_Hall_bring (nI a) (nI b) I J) F = F (nI v) I1 J) ∧ (∀ {α : Type} {F : Int32 → MI → MJ → Option α}, oc (f_Model_brings (nI a) (nI b) I' J') F = F (nI v) I1' J1') ∧ RU cd st hg n P B sd V c0 S1 X I1 J I1' J1' ∧ S1 20 = S 20 ∧ CFG I I1 J J ∧ RTG I' I1' J' J1' ∧ (v = 0 → S (30 + a) b = 0 ∧ S (50 + a) b = 0) ∧ (∀ x y, x < P → y < P → S1 (30 + x) y + S1 (50 + x) y + (if v = 1 ∧ x = a ∧ y = b then 1 else 0) = S (30 + x) y + S (50 + x) y)
theorem bringOK (hS : ST cd st hg n P B c0) (hR : RU cd st hg n P B sd V c0 S X I J I' J') (ha : a < P) (hb : b < P) : OUTB cd st hg n P B sd V c0 S X I J I' J' a b := by
  obtain ⟨hW, ⟨hP2, hP⟩, ⟨hB1, hB⟩, hC, h0⟩ := hS
  obtain ⟨hM, hMM, hT, hI, hN, hJ⟩ := hR
  have wr := F_wr hP hC hI hN ha hb
  have nt1 := (hN.1 a ha).2.2.2.2.2.2.2 b hb
  obtain ⟨-, -, -, -, ⟨o5, o6, o7, o8, o33, o34, o35, o36, o37⟩, -⟩ := hM.2.2 a ha
  have ob35 := (hM.2.2 b hb).2.2.2.2.1.2.2.2.2.2.2.1 a ha
  have md := (hMM.2.2.2 a ha).2.2.2.1
  have mdb := (hMM.2.2.2 b hb).2.2.2.1.2.2.2.2 a ha
  have hp := hM.2.2
  have hpm := hMM.2.2.2
  rcases BRC (J := J) hP hM.1.1 ha hb (o33 b hb) wr (o34 b hb) nt1 ob35 with ⟨x1, x2, x3⟩ | ⟨x1, x2, I1, x3, x4, x5, x6, x7, x8⟩ | ⟨x1, I1, x3, x4, x5, x6, x7, x8⟩
  · rcases BRM (J := J') hP ha hb (md.2.2.1 b hb) wr (md.2.2.2.1 b hb) nt1 mdb with ⟨y1, y2, y3⟩ | ⟨y1, y2, -⟩ | ⟨y1, -⟩
    · exact ⟨0, S, I, I', J', by decide, x3, y3, ⟨hM, hMM, hT, hI, hN, hJ⟩, rfl, CFG.rfl, RTG.rfl, fun _ => ⟨x1, x2⟩, fun x y _ _ => by rw [if_neg (fun t => absurd t.1 (by decide))]; rfl⟩
    · omega
    · omega
  · have hne : a ≠ b := fun t => by
      have := (hJ a ha).2.1
      rw [← t] at x2
      omega
    rcases BRM (J := J') hP ha hb (md.2.2.1 b hb) wr (md.2.2.2.1 b hb) nt1 mdb with ⟨y1, y2, -⟩ | ⟨y1, y2, I2, y3, y4, y5, y6⟩ | ⟨y1, -⟩
    · omega
    · have K := KM_N (S := S) (b := b) hP ha
      have hMC : MC cd n P B sd V c0 (SN S a b) X I1 J := by
        refine MC_o hP hM K (fun c hc => x4 c (hc a (by omega)).2.2.1 (hc b (by omega)).1) (fun x hx => ?_)
        obtain ⟨w5, w6, w7, w8, w33, w34, w35, w36, w37⟩ := (hp x hx).2.2.2.2.1
        have e32 : ∀ j, j ≠ 8 → I1 (32 + 21 * x) j = I (32 + 21 * x) j := fun j hj => by
          by_cases z : x = b
          · rw [z]
            exact x8 j hj
          · rw [x4 _ (by omega) (by omega)]
        refine ⟨by rw [e32 5 (by decide), K.1 6 (by decide) (by decide)]; exact w5, by rw [e32 6 (by decide), K.1 1 (by decide) (by decide)]; exact w6, by rw [e32 7 (by decide), K.1 7 (by decide) (by decide)]; exact w7, ?_, fun j hj => by rw [x4 _ (by omega) (by omega), SN_3 hP ha hx]; exact w33 j hj, fun j hj => ?_, fun j hj => by rw [x4 _ (by omega) (by omega), SN_4 hP ha hx]; exact w35 j hj, fun j hj => by rw [x4 _ (by omega) (by omega)]; exact w36 j hj, fun j hj => by rw [x4 _ (by omega) (by omega)]; exact w37 j hj⟩
        · rw [SN_q]
          by_cases z : x = b
          · rw [z, apn_s]
            exact x7
          · rw [apn_n _ _ z, x4 _ (by omega) (by omega)]
            exact w8
        · rw [SN_5 hP ha hx]
          by_cases z : x = a
          · by_cases y : j = b
            · rw [if_pos ⟨z, y⟩, z, y]
              exact x5
            · rw [if_neg (fun t => y t.2), z, x6 j y, ← z]
              exact w34 j hj
          · rw [if_neg (fun t => z t.1), x4 _ (by omega) (by omega)]
            exact w34 j hj
      have cg : CFG I I1 J J := ⟨fun c c1 c2 c3 c4 => x4 c (by omega) (by omega), fun j _ => by rw [x4 14 (by omega) (by omega)], fun c _ _ _ => rfl, fun x hx => by rw [x4 _ (by omega) (by omega)]⟩
      -- the reference
      obtain ⟨c, hc⟩ : ∃ c, tr cd (sd + 7000003) V c0 (S 0 b) = c := ⟨_, rfl⟩
      have hG := (hN.1 b hb).1
      rw [hc] at hG
      have hgen : ∃ I3 J3, (∀ {α : Type} {F : Int32 → MI → MJ → Option α}, oc (f_Model_brings (nI a) (nI b) I' J') F = F (nI 1) I3 J3) ∧ MM cd st hg n P B sd V c0 (SN S a b) I3 J3 ∧ RTG I' I3 J' J3 := by
        have wires : ∀ (I9 I4 : MI), I9 148 = I' 148 → I9 150 = I' 150 → I9 149 (4 * a + b) = nI 0 → (∀ q, q ≠ 4 * a + b → I9 149 q = I' 149 q) → ∀ x, x < P → ∀ j, j < P → I9 148 (4 * x + j) = nI (SN S a b (30 + x) j) ∧ I9 149 (4 * x + j) = nI (SN S a b (50 + x) j) ∧ I9 150 (4 * j + x) = nI (SN S a b (40 + x) j) := fun I9 _ e1 e2 e3 e4 x hx j hj => by
          have m := (hpm x hx).2.2.2.1
          rw [e1, e2, SN_3 hP ha hx, SN_4 hP ha hx, SN_5 hP ha hx]
          refine ⟨m.2.2.1 j hj, ?_, m.2.2.2.2 j hj⟩
          by_cases z : x = a ∧ j = b
          · rw [if_pos z, z.1, z.2]
            exact e3
          · rw [if_neg z, e4 _ (by omega)]
            exact m.2.2.2.1 j hj
        by_cases h9 : I' 139 b = 0
        · have y3' : ∀ {α : Type} {F : Int32 → MI → MJ → Option α}, oc (f_Model_brings (nI a) (nI b) I' J') F = oc (f_Model_statusOf (nI b) I2 J') (fun v I9 J9 => F (nI 1) (va_up I9 139 (upd (I9 139) b (if v = 1 then nI 1 else nI 0))) J9) := by
            intro α F
            rw [y3, if_neg (fun t => t h9)]
          -- memory behind the notice's leaving is no state of both, so the status is asked first of what is common
          have hmid : ∃ I4 J4 v, (∀ {α : Type} {F : Int32 → MI → MJ → Option α}, oc (f_Model_statusOf (nI b) I2 J') F = F (nI v) I4 J4) ∧ v < 100 ∧ (stt cd c (S 2 b) (S 3 b) = 1 → v = 1) ∧ ((I4 = I2 ∧ J4 = J') ∨ (∃ I5, MM cd st hg n P B sd V c0 S I5 J4 ∧ RT I' I5 J' J4 ∧ I5 139 = I' 139 ∧ I5 148 = I' 148 ∧ I5 149 = I' 149 ∧ I5 150 = I' 150 ∧ (∀ q, q ≠ 149 → I4 q = I5 q) ∧ I4 149 = I2 149)) := by
            have m34 : ¬ I2 112 34 = 0 := by
              rw [y4 112 (by decide), hMM.1.2.2.1]
              decide
            have rc := (hpm b hb).2.2.1
            have e137 : I2 137 b = nI (S 2 b) := by rw [y4 137 (by decide)]; exact rc.2.2.2.2.2.2.2.2.1
            have e138 : I2 138 b = nI (S 3 b) := by rw [y4 138 (by decide)]; exact rc.2.2.2.2.2.2.2.2.2.1
            have qb := (hN.1 b hb).2.2.2.2.1
            by_cases f2 : S 2 b ≠ 0
            · exact ⟨I2, J', 3, STA3 (show b < 4 by omega) m34 e137 (by omega) f2, by decide, fun t => by
                have : stt cd c (S 2 b) (S 3 b) = 3 := if_pos f2
                omega, Or.inl ⟨rfl, rfl⟩⟩
            · have f2 : S 2 b = 0 := by omega
              by_cases f3 : S 3 b ≠ 0
              · exact ⟨I2, J', 4, STA4 (show b < 4 by omega) m34 (by rw [e137, f2]) e138 (by omega) f3, by decide, fun t => by
                  have : stt cd c (S 2 b) (S 3 b) = 4 := by
                    unfold stt
                    rw [if_neg (by omega), if_pos f3]
                  omega, Or.inl ⟨rfl, rfl⟩⟩
              · have f3 : S 3 b = 0 := by omega
                -- settle over the memory with the notice still there, then carry over
                obtain ⟨⟨pos, h', sk, p1, p2, p3, p4, p5⟩, -⟩ := hpm b hb
                rw [hc] at p3 p5
                obtain ⟨I5, J5, s1, s2, s3, s4, s5, s6, s7, s8, s9, s10⟩ := MM_set hW hP hb hMM hc hG f2 f3
                obtain ⟨I4, J4, t1, t2, t3, t4⟩ := STA1 (J := J') hW (show b < 4 by omega) m34 (by rw [e137, f2]) (by rw [e138, f3]) p1 p2 (RV_eq p3 (by rw [y4 145 (by decide)]) (by rw [y4 141 (by decide)]) (y4 140 (by decide)) rfl rfl) (by rw [y4 114 (by decide)]; exact hMM.1.2.2.2.2.2.2.2.2.1) (by rw [y4 127 (by decide)]; exact p4)
                rw [p5] at t2 t3
                refine ⟨I4, J4, if cd (c 0 0) = 0 then 2 else 1, ?_, by split <;> decide, fun t => ?_, Or.inr ?_⟩
                · intro α F
                  rw [t1, p5]
                · by_cases z : cd (c 0 0) = 0
                  · have : stt cd c (S 2 b) (S 3 b) = 2 := by
                      unfold stt
                      rw [if_neg (by omega), if_neg (by omega), if_pos z]
                    omega
                  · rw [if_neg z]
                · obtain ⟨A, q, r, s, t⟩ := UPR I4 149 (I' 149)
                  have eA : ∀ q, q ≠ 149 → A q = I4 q := r
                  refine ⟨A, ?_, ?_, ?_, ?_, s, ?_, fun q hq => (r q hq).symm, t4.1 149 (by decide) (by decide) (by decide) (by decide)⟩
                  · have hFG : FG b I' A J' J4 := by
                      obtain ⟨g1, g2, g3, g4, g5, g6⟩ := t4
                      refine ⟨fun d d1 d2 d3 d4 => ?_, fun i hi => ?_, fun i hi => ?_, g4, g5, g6⟩
                      · by_cases z : d = 149
                        · rw [z, s]
                        · rw [r d z, g1 d d1 d2 d3 d4, y4 d z]
                      · rw [r 145 (by decide), r 141 (by decide), r 127 (by decide), (g2 i hi).1, (g2 i hi).2.1, (g2 i hi).2.2, y4 145 (by decide), y4 141 (by decide), y4 127 (by decide)]
                        exact ⟨rfl, rfl, rfl⟩
                      · rw [r 140 (by decide), g3 i hi, y4 140 (by decide)]
                    exact MM_FG hP hb hMM hc hG hFG (RV_eq t2 (by rw [r 145 (by decide)]) (by rw [r 141 (by decide)]) (r 140 (by decide)) rfl rfl) (by rw [r 127 (by decide)]; exact t3)
                  · obtain ⟨g1, g2, g3, g4, g5, g6⟩ := t4
                    refine ⟨fun d d1 d2 d3 d4 => ?_, fun j _ _ => ?_, fun d d1 => g4 d (by omega) (by omega)⟩
                    · rw [r d (by omega), g1 d (by omega) (by omega) (by omega) (by omega), y4 d (by omega)]
                    · rw [r 112 (by decide), g1 112 (by decide) (by decide) (by decide) (by decide), y4 112 (by decide)]
                  · rw [r 139 (by decide), t4.1 139 (by decide) (by decide) (by decide) (by decide), y4 139 (by decide)]
                  · rw [r 148 (by decide), t4.1 148 (by decide) (by decide) (by decide) (by decide), y4 148 (by decide)]
                  · rw [r 150 (by decide), t4.1 150 (by decide) (by decide) (by decide) (by decide), y4 150 (by decide)]
          obtain ⟨I4, J4, v, m1, m2, m3, m4⟩ := hmid
          obtain ⟨A, q, r, s, t⟩ := UP1 I4 139 b (if nI v = 1 then nI 1 else nI 0)
          refine ⟨A, J4, ?_, ?_, ?_⟩
          · intro α F
            rw [y3', m1, q]
          · have h139 : ∀ (Ib : MI), (∀ x, x < P → stt cd (tr cd (sd + 7000003) V c0 (S 0 x)) (S 2 x) (S 3 x) = 1 → Ib 139 x = nI (S 4 x)) → I4 139 = Ib 139 → ∀ x, x < P → stt cd (tr cd (sd + 7000003) V c0 (S 0 x)) (S 2 x) (S 3 x) = 1 → A 139 x = nI (SN S a b 4 x) := fun Ib hIb e9 x hx h1 => by
              rw [SN_q]
              by_cases z : x = b
              · rw [z, apn_s, s]
                rw [z, hc] at h1
                rw [if_pos (by rw [m3 h1]; rfl)]
              · rw [apn_n _ _ z, t x z, e9]
                exact hIb x hx h1
            rcases m4 with ⟨e1, e2⟩ | ⟨I5, z1, z2, z3, z4, z5, z6, z7, z8⟩
            · rw [e2]
              rw [e1] at r t h139
              refine MM_o hP hMM K (fun d d1 d2 d3 d4 => by rw [r d d1, y4 d d3]) (h139 I' (fun x hx => (hpm x hx).2.2.1.2.2.2.2.2.2.2.2.2.2.1) (y4 139 (by decide))) (wires A A (by rw [r 148 (by decide), y4 148 (by decide)]) (by rw [r 150 (by decide), y4 150 (by decide)]) (by rw [r 149 (by decide)]; exact y5) (fun q hq => by rw [r 149 (by decide)]; exact y6 q hq))
            · refine MM_o hP z1 K (fun d d1 d2 d3 d4 => by rw [r d d1, z7 d d3]) (h139 I5 (fun x hx => (z1.2.2.2 x hx).2.2.1.2.2.2.2.2.2.2.2.2.2.1) (z7 139 (by decide))) (wires A A (by rw [r 148 (by decide), z7 148 (by decide), z4]) (by rw [r 150 (by decide), z7 150 (by decide), z6]) (by rw [r 149 (by decide), z8]; exact y5) (fun q hq => by rw [r 149 (by decide), z8]; exact y6 q hq))
          · rcases m4 with ⟨e1, e2⟩ | ⟨I5, z1, z2, z3, z4, z5, z6, z7, z8⟩
            · rw [e2]
              rw [e1] at r
              exact ⟨fun d d1 d2 d3 d4 => by rw [r d (by omega), y4 d (by omega)], fun j _ _ _ => by rw [r 112 (by decide), y4 112 (by decide)], fun d _ => rfl⟩
            · exact RTG.tr (RT.g z2) ⟨fun d d1 d2 d3 d4 => by rw [r d (by omega), z7 d (by omega)], fun j _ _ _ => by rw [r 112 (by decide), z7 112 (by decide)], fun d _ => rfl⟩
        · obtain ⟨A, q, r, s, t⟩ := UP1 I2 139 b (nI 1)
          refine ⟨A, J', ?_, ?_, ?_⟩
          · intro α F
            rw [y3, if_pos h9, q]
          · refine MM_o hP hMM K (fun d d1 d2 d3 d4 => by rw [r d d1, y4 d d3]) (fun x hx h1 => ?_) (wires A A (by rw [r 148 (by decide), y4 148 (by decide)]) (by rw [r 150 (by decide), y4 150 (by decide)]) (by rw [r 149 (by decide)]; exact y5) (fun q hq => by rw [r 149 (by decide)]; exact y6 q hq))
            rw [SN_q]
            by_cases z : x = b
            · rw [z, apn_s]
              exact s
            · rw [apn_n _ _ z, t x z, y4 139 (by decide)]
              exact (hpm x hx).2.2.1.2.2.2.2.2.2.2.2.2.2.1 h1
          · exact ⟨fun d d1 d2 d3 d4 => by rw [r d (by omega), y4 d (by omega)], fun j _ _ _ => by rw [r 112 (by decide), y4 112 (by decide)], fun d _ => rfl⟩
      obtain ⟨I3, J3, g1, g2, g3⟩ := hgen
      refine ⟨1, SN S a b, I1, I3, J3, by decide, x3, g1, ⟨hMC, g2, CFG.tam (RTG.tam hT g3) cg, PI_eq hI (K.1 0 (by decide) (by decide)) (K.1 1 (by decide) (by decide)) (K.1 9 (by decide) (by decide)) (by rw [K.2.2]) (fun j hj => SN_3 hP ha hj) (fun j hj => SN_4 hP ha hj), NI_K hN K (fun x hx => ?_) (fun x hx j hj => ?_), fun x hx => ?_⟩, K.2.2, cg, g3, fun t => absurd t (by decide), fun x y hx hy => ?_⟩
      · rw [SN_q]
        by_cases z : x = b
        · rw [z, apn_s]
          decide
        · rw [apn_n _ _ z]
          exact (hN.1 x hx).2.2.2.2.1.2.2
      · rw [SN_5 hP ha hx]
        split
        · decide
        · exact (hN.1 x hx).2.2.2.2.2.2.2 j hj
      · rw [SN_4 hP ha hx, SN_5 hP ha hx, if_neg (fun t => hne (t.1.symm.trans t.2)), SN_3 hP ha hx]
        exact hJ x hx
      · rw [SN_3 hP ha hx, SN_5 hP ha hx]
        by_cases z : x = a ∧ y = b
        · rw [if_pos z, if_pos ⟨rfl, z⟩, z.1, z.2]
          omega
        · rw [if_neg z, if_neg (fun t => z t.2)]
          rfl
    · omega
  · have hne : a ≠ b := fun t => by
      have := hI.2.2.2.1 a ha
      rw [← t] at x1
      omega
    rcases BRM (J := J') hP ha hb (md.2.2.1 b hb) wr (md.2.2.2.1 b hb) nt1 mdb with ⟨y1, -⟩ | ⟨y1, -⟩ | ⟨y1, I1', y3, y4, y5, y6, y7, y8⟩
    · omega
    · omega
    · have K := KM_M (S := S) hP ha hb
      have hMC : MC cd n P B sd V c0 (SMv S a b) X I1 J := by
        refine MC_o hP hM K (fun c hc => x4 c (hc a (by omega)).2.1 (hc b (by omega)).2.2.2) (fun x hx => ?_)
        obtain ⟨w5, w6, w7, w8, w33, w34, w35, w36, w37⟩ := (hp x hx).2.2.2.2.1
        refine ⟨by rw [x4 _ (by omega) (by omega), K.1 6 (by decide) (by decide)]; exact w5, by rw [x4 _ (by omega) (by omega), K.1 1 (by decide) (by decide)]; exact w6, by rw [x4 _ (by omega) (by omega), K.1 7 (by decide) (by decide)]; exact w7, ?_, fun j hj => ?_, fun j hj => by rw [x4 _ (by omega) (by omega), SMv_5 hP ha hb hx]; exact w34 j hj, fun j hj => ?_, fun j hj => by rw [x4 _ (by omega) (by omega)]; exact w36 j hj, fun j hj => by rw [x4 _ (by omega) (by omega)]; exact w37 j hj⟩
        · rw [x4 _ (by omega) (by omega)]
          unfold SMv
          rw [sr_n _ _ (by omega), sr_n _ _ (by omega)]
          exact w8
        · rw [SMv_3 hP ha hb hx]
          by_cases z : x = a
          · by_cases y : j = b
            · rw [if_pos ⟨z, y⟩, z, y]
              exact x5
            · rw [if_neg (fun t => y t.2), z, x6 j y, ← z]
              exact w33 j hj
          · rw [if_neg (fun t => z t.1), x4 _ (by omega) (by omega)]
            exact w33 j hj
        · rw [SMv_4 hP ha hb hx]
          by_cases z : x = b
          · by_cases y : j = a
            · rw [if_pos ⟨z, y⟩, z, y]
              exact x7
            · rw [if_neg (fun t => y t.2), z, x8 j y, ← z]
              exact w35 j hj
          · rw [if_neg (fun t => z t.1), x4 _ (by omega) (by omega)]
            exact w35 j hj
      have cg : CFG I I1 J J := ⟨fun c c1 c2 c3 c4 => x4 c (by omega) (by omega), fun j _ => by rw [x4 14 (by omega) (by omega)], fun c _ _ _ => rfl, fun x hx => by rw [x4 _ (by omega) (by omega)]⟩
      have rg : RTG I' I1' J' J' := ⟨fun d d1 d2 d3 d4 => y4 d (by omega) (by omega), fun j _ _ _ => by rw [y4 112 (by decide) (by decide)], fun d _ => rfl⟩
      have hMM1 : MM cd st hg n P B sd V c0 (SMv S a b) I1' J' := by
        refine MM_o hP hMM K (fun d d1 d2 d3 d4 => y4 d d2 d4) (fun x hx h1 => ?_) (fun x hx j hj => ?_)
        · rw [y4 139 (by decide) (by decide)]
          have : SMv S a b 4 = S 4 := by
            unfold SMv
            rw [sr_n _ _ (by omega), sr_n _ _ (by omega)]
          rw [this]
          exact (hpm x hx).2.2.1.2.2.2.2.2.2.2.2.2.2.1 h1
        · have m := (hpm x hx).2.2.2.1
          rw [y4 149 (by decide) (by decide), SMv_3 hP ha hb hx, SMv_4 hP ha hb hx, SMv_5 hP ha hb hx]
          refine ⟨?_, m.2.2.2.1 j hj, ?_⟩
          · by_cases z : x = a ∧ j = b
            · rw [if_pos z, z.1, z.2]
              exact y5
            · rw [if_neg z, y6 _ (by omega)]
              exact m.2.2.1 j hj
          · by_cases z : x = b ∧ j = a
            · rw [if_pos z, z.1, z.2]
              exact y7
            · rw [if_neg z, y8 _ (by omega)]
              exact m.2.2.2.2 j hj
      refine ⟨1, SMv S a b, I1, I1', J', by decide, x3, y3, ⟨hMC, hMM1, CFG.tam (RTG.tam hT rg) cg, PI_M hP ha hb x1 hI, NI_K hN K (fun x hx => ?_) (fun x hx j hj => by rw [SMv_5 hP ha hb hx]; exact (hN.1 x hx).2.2.2.2.2.2.2 j hj), fun x hx => ?_⟩, K.2.2, cg, rg, fun t => absurd t (by decide), fun x y hx hy => ?_⟩
      · have : SMv S a b 4 = S 4 := by
          unfold SMv
          rw [sr_n _ _ (by omega), sr_n _ _ (by omega)]
        rw [this]
        exact (hN.1 x hx).2.2.2.2.1.2.2
      · rw [SMv_4 hP ha hb hx, SMv_5 hP ha hb hx, if_neg (fun t => hne (t.2.symm.trans t.1))]
        have qj := hJ x hx
        refine ⟨qj.1, qj.2.1, fun j hj => ?_⟩
        rw [SMv_3 hP ha hb hx]
        have := qj.2.2 j hj
        split <;> omega
      · rw [SMv_3 hP ha hb hx, SMv_5 hP ha hb hx]
        by_cases z : x = a ∧ y = b
        · rw [if_pos z, if_pos ⟨rfl, z⟩, z.1, z.2]
          omega
        · rw [if_neg z, if_neg (fun t => z t.2)]
          rfl
end BRING
