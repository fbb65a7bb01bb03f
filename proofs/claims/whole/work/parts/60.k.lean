/-! the run: counting, stopping, settling -/
section CNT
variable {cd : Nat → Nat} {sd : Int64} {V c c0 : Nat → Nat → Nat} {P n B w : Nat} {st : Nat → Bool} {hg : Nat → Nat} {S S' : Nat → Nat → Nat} {X : MX} {I I1 : MI} {J J1 : MJ}
/-- rows that stay where one stops or is counted -/
def KEEP (P w : Nat) (S S' : Nat → Nat → Nat) : Prop := (∀ x, x < P → ∀ k, k < 15 → (x = w → k ≠ 2 ∧ k ≠ 3 ∧ k ≠ 5) → S' k x = S k x) ∧ (∀ j, j < P → S' (30 + j) = S (30 + j) ∧ S' (40 + j) = S (40 + j) ∧ S' (50 + j) = S (50 + j) ∧ S' (60 + j) = S (60 + j)) ∧ S' 20 1 = S 20 1 ∧ S' 20 2 = S 20 2 ∧ S' 20 3 = S 20 3 ∧ S' 20 4 = S 20 4 ∧ S' 0 = S 0 ∧ S' 1 = S 1 ∧ S' 9 = S 9
theorem KEEP.oth (h : KEEP P w S S') : OTH P w S S' := fun x hx hn => ⟨fun k hk => h.1 x hx k hk (fun y => absurd y hn), fun j _ => by rw [(h.2.1 x hx).1], fun j _ => by rw [(h.2.1 x hx).2.1], fun j _ => by rw [(h.2.1 x hx).2.2.1], fun k => by rw [(h.2.1 x hx).2.2.2], fun _ j hj => by rw [(h.2.1 j hj).2.2.2]⟩
theorem KEEP.pi {bs : Int64} (h : KEEP P w S S') (k : PI cd bs V c0 P S) : PI cd bs V c0 P S' := PI_eq k h.2.2.2.2.2.2.1 h.2.2.2.2.2.2.2.1 h.2.2.2.2.2.2.2.2 h.2.2.1 (fun j hj => (h.2.1 j hj).1) (fun j hj => (h.2.1 j hj).2.1)
theorem KEEP.nj (h : KEEP P w S S') (k : NJ P S) : NJ P S' := fun x hx => by
  rw [(h.2.1 x hx).2.1, (h.2.1 x hx).2.2.1, (h.2.1 x hx).1]
  exact k x hx
theorem K_cnt (hP : P ≤ 4) (hw : w < P) : KEEP P w S (cnt S w) := ⟨fun x hx k hk y => by
    unfold cnt
    rw [sr_n _ _ (by omega)]
    by_cases z : k = 5
    · rw [z, sr_s, apn_n _ _ (fun t => (y t).2.2 z)]
    · rw [sr_n _ _ z], fun j hj => ⟨cnt_30 (by omega) (by omega), cnt_40 (by omega) (by omega), cnt_50 (by omega) (by omega), cnt_60 (by omega) (by omega)⟩, by rw [cnt_20, apn_n _ _ (by decide)], by rw [cnt_20, apn_n _ _ (by decide)], by rw [cnt_20, apn_n _ _ (by decide)], by rw [cnt_20, apn_n _ _ (by decide)], cnt_0, cnt_1, cnt_9⟩
theorem K_sr {m v : Nat} (hm : m = 2 ∨ m = 3) : KEEP P w S (sr S m (apn (S m) w v)) := ⟨fun x hx k hk y => by
    by_cases z : k = m
    · rw [z, sr_s, apn_n _ _ (fun t => by
        have := y t
        omega)]
    · rw [sr_n _ _ z], fun j hj => ⟨sr_n _ _ (by omega), sr_n _ _ (by omega), sr_n _ _ (by omega), sr_n _ _ (by omega)⟩, by rw [sr_n _ _ (by omega)], by rw [sr_n _ _ (by omega)], by rw [sr_n _ _ (by omega)], by rw [sr_n _ _ (by omega)], sr_n _ _ (by omega), sr_n _ _ (by omega), sr_n _ _ (by omega)⟩
theorem MC_18 (hP : P ≤ 4) (hw : w < P) (hM : MC cd n P B sd V c0 S X I J) (hK : KEEP P w S S') (eI : ∀ a, a ≠ 18 + 21 * w → a ≠ 14 → I1 a = I a) (e14 : ∀ j, j ≠ 10 → I1 14 j = I 14 j) (e10 : I1 14 10 = nI (S' 20 0)) (ha : MCa cd S' (tr cd (sd + 7000003) V c0 (S 0 w)) I1 J w) : MC cd n P B sd V c0 S' X I1 J := by
  obtain ⟨⟨m6, m8, m9, m10, m7, mr, md0, md1, md2⟩, hX, hp⟩ := hM
  have h0 := hK.2.2.2.2.2.2.1
  refine ⟨⟨by rw [e14 6 (by decide)]; exact m6, by rw [e14 8 (by decide)]; exact m8, by rw [e14 9 (by decide)]; exact m9, e10, m7, rowC_f2 mr (eI 15 (by omega) (by omega)) (eI 16 (by omega) (by omega)), by rw [eI 102 (by omega) (by omega), hK.2.2.2.1]; exact md0, by rw [eI 102 (by omega) (by omega), hK.2.2.2.2.1]; exact md1, by rw [eI 102 (by omega) (by omega), hK.2.2.2.2.2.1]; exact md2⟩, hX, fun x hx => ?_⟩
  rw [h0]
  by_cases z : x = w
  · rw [z]
    obtain ⟨-, cv, ⟨⟨s, s1, s2, s3⟩, k5, k6, k7, k8⟩, hs, ho, ov⟩ := hp w hw
    have e1 : ∀ k, k < 15 → k ≠ 2 → k ≠ 3 → k ≠ 5 → S' k w = S k w := fun k a b d f => hK.1 w hw k a (fun _ => ⟨b, d, f⟩)
    have r := hK.2.1
    refine ⟨ha, CV_fr cv (eI _ (by omega) (by omega)) (eI _ (by omega) (by omega)) rfl rfl rfl rfl, ⟨⟨s, CK_fr s1 (eI _ (by omega) (by omega)) (eI _ (by omega) (by omega)) rfl, s2, s3⟩, ?_, ?_, ?_, ?_⟩, ?_, ?_, ov⟩
    · rw [eI _ (by omega) (by omega)]
      exact k5
    · rw [eI _ (by omega) (by omega), e1 8 (by decide) (by decide) (by decide) (by decide)]
      exact k6
    · rw [eI _ (by omega) (by omega), e1 1 (by decide) (by decide) (by decide) (by decide), (r w hw).2.2.2]
      exact k7
    · rw [eI (25 + 21 * w) (by omega) (by omega), eI (28 + 21 * w) (by omega) (by omega), e1 9 (by decide) (by decide) (by decide) (by decide)]
      rcases k8 with y | ⟨y1, y2, y3⟩
      · exact Or.inl y
      · exact Or.inr ⟨y1, y2, fun j hj => by rw [(r j hj).2.2.2]; exact y3 j hj⟩
    · unfold MCs at hs ⊢
      rw [eI (29 + 21 * w) (by omega) (by omega), eI (31 + 21 * w) (by omega) (by omega), e1 13 (by decide) (by decide) (by decide) (by decide), e1 1 (by decide) (by decide) (by decide) (by decide), e1 14 (by decide) (by decide) (by decide) (by decide), e1 12 (by decide) (by decide) (by decide) (by decide), e1 10 (by decide) (by decide) (by decide) (by decide), e1 11 (by decide) (by decide) (by decide) (by decide)]
      exact hs
    · unfold MCo at ho ⊢
      rw [eI (32 + 21 * w) (by omega) (by omega), eI (33 + 21 * w) (by omega) (by omega), eI (34 + 21 * w) (by omega) (by omega), eI (35 + 21 * w) (by omega) (by omega), eI (36 + 21 * w) (by omega) (by omega), eI (37 + 21 * w) (by omega) (by omega), e1 6 (by decide) (by decide) (by decide) (by decide), e1 1 (by decide) (by decide) (by decide) (by decide), e1 7 (by decide) (by decide) (by decide) (by decide), e1 4 (by decide) (by decide) (by decide) (by decide), (r w hw).1, (r w hw).2.1, (r w hw).2.2.1]
      exact ho
  · obtain ⟨o1, o2, o3, o4, o5, o6⟩ := hK.oth x hx z
    exact MCp_fr (hp x hx) (fun a a1 a2 => eI a (by omega) (by omega)) (fun a a1 a2 => rfl) (hp x hx).2.2.2.2.2 o1 o2 o3 o4 o5 o6
theorem MM_18 (hP : P ≤ 4) (hw : w < P) (hM : MM cd st hg n P B sd V c0 S I J) (hK : KEEP P w S S') (eI : ∀ a, a ≠ 112 → a ≠ 129 → a ≠ 137 → a ≠ 138 → I1 a = I a) (e112 : ∀ j, j ≠ 35 → j ≠ 86 → I1 112 j = I 112 j) (e35 : I1 112 35 = nI (S' 20 0)) (eo : ∀ x, x ≠ w → I1 129 x = I 129 x ∧ I1 137 x = I 137 x ∧ I1 138 x = I 138 x) (e129 : I1 129 w = nI (S' 5 w)) (e137 : I1 137 w = nI (S' 2 w)) (e138 : I1 138 w = nI (S' 3 w)) (hs : stt cd (tr cd (sd + 7000003) V c0 (S 0 w)) (S' 2 w) (S' 3 w) = 1 → stt cd (tr cd (sd + 7000003) V c0 (S 0 w)) (S 2 w) (S 3 w) = 1) : MM cd st hg n P B sd V c0 S' I1 J := by
  obtain ⟨⟨m16, m17, m34, m35, m60, m24, m26, m28, m114, mk, mb, mo⟩, hE, hKo, hp⟩ := hM
  have h0 := hK.2.2.2.2.2.2.1
  have h1 := hK.2.2.2.2.2.2.2.1
  have sn : ∀ i j, snt S' i j ↔ snt S i j := fun i j => by
    unfold snt
    rw [h0, h1]
  have hcs : ∀ j k, hco cd (sd + 7000003) V c0 S' j k ↔ hco cd (sd + 7000003) V c0 S j k := fun j k => by
    unfold hco
    rw [h0, h1]
  have g : ∀ a, (a < 112 ∨ 112 < a) ∧ (a < 129 ∨ 129 < a) ∧ (a < 137 ∨ 138 < a) → I1 a = I a := fun a h => eI a (by omega) (by omega) (by omega) (by omega)
  refine ⟨⟨by rw [e112 16 (by decide) (by decide)]; exact m16, by rw [e112 17 (by decide) (by decide)]; exact m17, by rw [e112 34 (by decide) (by decide)]; exact m34, e35, by rw [e112 60 (by decide) (by decide), hK.2.2.1]; exact m60, by rw [e112 24 (by decide) (by decide), hK.2.2.2.1]; exact m24, by rw [e112 26 (by decide) (by decide), hK.2.2.2.2.1]; exact m26, by rw [e112 28 (by decide) (by decide), hK.2.2.2.2.2.1]; exact m28, by rw [g 114 (by decide)]; exact m114, mk, mb, mo⟩, MRe_fr hE (g 151 (by decide)) (g 153 (by decide)) rfl (fun i _ ⟨p, hp, q⟩ => ⟨p, hp, (sn i p).mp q⟩) (fun i j _ _ _ => sn i j), MRk_fr hKo rfl rfl (fun j _ k h => (hcs j k).mp h) (fun j hj => (hK.2.1 j hj).2.2.2), fun x hx => ?_⟩
  rw [h0]
  by_cases z : x = w
  · rw [z]
    obtain ⟨⟨pos, h', sk, p1, p2, p3, p4, p5⟩, pb, ⟨r129, r130, r131, r132, r133, r134, r135, r136, r137, r138, r139, r142, r118, r121, r122, r123, r125, r126, r119, r120⟩, ⟨d1, d2, d3, d4, d5⟩, po⟩ := hp w hw
    have e1 : ∀ k, k < 15 → k ≠ 2 → k ≠ 3 → k ≠ 5 → S' k w = S k w := fun k a b d f => hK.1 w hw k a (fun _ => ⟨b, d, f⟩)
    have e1' : ∀ k, k < 15 ∧ k ≠ 2 ∧ k ≠ 3 ∧ k ≠ 5 → S' k w = S k w := fun k a => e1 k a.1 a.2.1 a.2.2.1 a.2.2.2
    have r := hK.2.1 w hw
    refine ⟨⟨pos, h', sk, p1, p2, RV_eq p3 (by rw [g 145 (by decide)]) (by rw [g 141 (by decide)]) (g 140 (by decide)) rfl rfl, by rw [g 127 (by decide)]; exact p4, p5⟩, ?_, ⟨e129, ?_, ?_, ?_, ?_, ?_, ?_, ?_, e137, e138, ?_, ?_, ?_, ?_, ?_, ?_, ?_, ?_, ?_, ?_⟩, ⟨d1, ?_, ?_, ?_, ?_⟩, po⟩
    · unfold MRb at pb ⊢
      rw [g 128 (by decide), e1' 1 (by decide)]
      exact pb
    · rw [g 130 (by decide), e1' 6 (by decide)]
      exact r130
    · rw [g 131 (by decide), e1' 1 (by decide)]
      exact r131
    · rw [g 132 (by decide), e1' 7 (by decide)]
      exact r132
    · rw [g 133 (by decide)]
      exact r133
    · rw [g 134 (by decide)]
      exact r134
    · rw [g 135 (by decide)]
      exact r135
    · rw [g 136 (by decide)]
      exact r136
    · intro y
      rw [g 139 (by decide), e1' 4 (by decide)]
      exact r139 (hs y)
    · rw [g 142 (by decide), e1' 9 (by decide)]
      exact r142
    · rw [g 118 (by decide), e1' 8 (by decide)]
      exact r118
    · rw [g 121 (by decide), e1' 10 (by decide)]
      exact r121
    · rw [g 122 (by decide), e1' 11 (by decide)]
      exact r122
    · rw [g 123 (by decide)]
      exact r123
    · rw [g 125 (by decide), e1' 13 (by decide)]
      exact r125
    · rw [g 126 (by decide), e1' 1 (by decide)]
      exact r126
    · rw [g 119 (by decide), e1' 14 (by decide), e1' 12 (by decide)]
      exact r119
    · rw [g 120 (by decide), e1' 14 (by decide)]
      exact r120
    · rw [e1' 13 (by decide)]
      exact d2
    · rw [g 148 (by decide), r.1]
      exact d3
    · rw [g 149 (by decide), r.2.2.1]
      exact d4
    · rw [g 150 (by decide), r.2.1]
      exact d5
  · obtain ⟨o1, o2, o3, o4, o5, o6⟩ := hK.oth x hx z
    refine MRp_fr hP (hp x hx) ⟨fun a a1 a2 a3 => ?_, fun i _ _ => by rw [g 140 (by decide)], fun i _ _ => rfl, fun i _ _ => rfl, rfl, rfl, fun j hj => ⟨by rw [g 148 (by decide)], by rw [g 149 (by decide)], by rw [g 150 (by decide)]⟩⟩ (hp x hx).2.2.2.2 o1 o2 o3 o4
    have q := eo x z
    by_cases y1 : a = 129
    · rw [y1]
      exact q.1
    by_cases y2 : a = 137
    · rw [y2]
      exact q.2.1
    by_cases y3 : a = 138
    · rw [y3]
      exact q.2.2
    rw [eI a (by omega) y1 y2 y3]
/-- the reference's mark of having done something -/
theorem MM_86 {v : Int32} (hM : MM cd st hg n P B sd V c0 S I J) (e : ∀ a, a ≠ 112 → I1 a = I a) (e2 : ∀ j, j ≠ 86 → j ≠ 0 → I1 112 j = I 112 j) : MM cd st hg n P B sd V c0 S I1 J := by
  obtain ⟨⟨m16, m17, m34, m35, m60, m24, m26, m28, m114, mk, mb, mo⟩, hE, hKo, hp⟩ := hM
  refine ⟨⟨by rw [e2 16 (by decide) (by decide)]; exact m16, by rw [e2 17 (by decide) (by decide)]; exact m17, by rw [e2 34 (by decide) (by decide)]; exact m34, by rw [e2 35 (by decide) (by decide)]; exact m35, by rw [e2 60 (by decide) (by decide)]; exact m60, by rw [e2 24 (by decide) (by decide)]; exact m24, by rw [e2 26 (by decide) (by decide)]; exact m26, by rw [e2 28 (by decide) (by decide)]; exact m28, by rw [e 114 (by decide)]; exact m114, mk, mb, mo⟩, MRe_fr hE (e 151 (by decide)) (e 153 (by decide)) rfl (fun i _ h => h) (fun i j _ _ _ => Iff.rfl), hKo, fun x hx => ?_⟩
  obtain ⟨⟨pos, h', sk, p1, p2, p3, p4, p5⟩, pb, pc, ⟨d1, d2, d3, d4, d5⟩, po⟩ := hp x hx
  refine ⟨⟨pos, h', sk, p1, p2, RV_eq p3 (by rw [e 145 (by decide)]) (by rw [e 141 (by decide)]) (e 140 (by decide)) rfl rfl, by rw [e 127 (by decide)]; exact p4, p5⟩, ?_, ?_, ⟨d1, d2, by rw [e 148 (by decide)]; exact d3, by rw [e 149 (by decide)]; exact d4, by rw [e 150 (by decide)]; exact d5⟩, po⟩
  · unfold MRb at pb ⊢
    rw [e 128 (by decide)]
    exact pb
  · unfold MRc at pc ⊢
    rw [e 129 (by decide), e 130 (by decide), e 131 (by decide), e 132 (by decide), e 133 (by decide), e 134 (by decide), e 135 (by decide), e 136 (by decide), e 137 (by decide), e 138 (by decide), e 139 (by decide), e 142 (by decide), e 118 (by decide), e 121 (by decide), e 122 (by decide), e 123 (by decide), e 125 (by decide), e 126 (by decide), e 119 (by decide), e 120 (by decide)]
    exact pc
/-- the reference settles -/
theorem MM_set (hW : WFc cd n P st hg) (hP : P ≤ 4) (hw : w < P) (hM : MM cd st hg n P B sd V c0 S I J) (hc : tr cd (sd + 7000003) V c0 (S 0 w) = c) (hG : GD cd st hg c) (f2 : S 2 w = 0) (f3 : S 3 w = 0) : ∃ I1 J1, (∀ {α : Type} {F : Int32 → MI → MJ → Option α}, oc (f_Model_statusOf (nI w) I J) F = F (nI (if cd (c 0 0) = 0 then 2 else 1)) I1 J1) ∧ MM cd st hg n P B sd V c0 S I1 J1 ∧ RT I I1 J J1 ∧ RV I1 J1 w (c 0 1) (c 1) (c 2) (c 0 2) (c 3) ∧ I1 127 w = nI (c 0 0) ∧ I1 112 = I 112 ∧ I1 139 = I 139 ∧ I1 138 = I 138 ∧ I1 137 = I 137 ∧ FG w I I1 J J1 := by
  have hM' := hM
  obtain ⟨⟨m16, m17, m34, m35, m60, m24, m26, m28, m114, mk, mb, mo⟩, hE, hKo, hp⟩ := hM
  have hpw := hp w hw
  rw [hc] at hpw
  obtain ⟨⟨pos, h', sk, p1, p2, p3, p4, p5⟩, pb, ⟨r129, r130, r131, r132, r133, r134, r135, r136, r137, r138, r139, r142, r118, r121, r122, r123, r125, r126, r119, r120⟩, ⟨d1, d2, d3, d4, d5⟩, po⟩ := hpw
  obtain ⟨I1, J1, b1, b2, b3, b4⟩ := STA1 hW (show w < 4 by omega) (by rw [m34]; decide) (by rw [r137, f2]) (by rw [r138, f3]) p1 p2 p3 m114 p4
  rw [p5] at b2 b3
  have b1' : ∀ {α : Type} {F : Int32 → MI → MJ → Option α}, oc (f_Model_statusOf (nI w) I J) F = F (nI (if cd (c 0 0) = 0 then 2 else 1)) I1 J1 := by
    intro α F
    rw [b1, p5]
  have fI : ∀ a, a ≠ 145 → a ≠ 140 → a ≠ 141 → a ≠ 127 → I1 a = I a := b4.1
  have fJ : ∀ a, a ≠ 143 → a ≠ 144 → J1 a = J a := b4.2.2.2.1
  have g : ∀ a, (a < 127 ∨ 127 < a) ∧ (a < 140 ∨ 141 < a) ∧ (a < 145 ∨ 145 < a) → I1 a = I a := fun a h => fI a (by omega) (by omega) (by omega) (by omega)
  refine ⟨I1, J1, b1', ?_, ⟨fun a a1 a2 a3 a4 => fI a (by omega) (by omega) (by omega) (by omega), fun j _ _ => by rw [g 112 (by decide)], fun a a1 => fJ a (by omega) (by omega)⟩, b2, b3, g 112 (by decide), g 139 (by decide), g 138 (by decide), g 137 (by decide), b4⟩
  refine MR_st hM' hP hw (RF_FG b4) (fun x hx hn => ⟨fun k hk => rfl, fun j hj => rfl, fun j hj => rfl, fun j hj => rfl, fun k => rfl, fun _ j hj => rfl⟩) (by rw [g 112 (by decide)]; exact m60) rfl rfl rfl rfl (MRe_fr hE (g 151 (by decide)) (g 153 (by decide)) (fJ 152 (by decide) (by decide)) (fun i _ h => h) (fun i j _ _ _ => Iff.rfl)) (MRk_fr hKo (fJ 154 (by decide) (by decide)) (fJ 155 (by decide) (by decide)) (fun j _ k h => h) (fun j hj => rfl)) (fun x hx hn => ?_) ?_
  · unfold MRo
    rw [fJ 147 (by decide) (by decide)]
    exact (hp x hx).2.2.2.2
  · rw [hc]
    refine ⟨MRa_s hG b2 b3, ?_, ?_, ⟨?_, ?_, ?_, ?_, ?_⟩, ?_⟩
    · unfold MRb at pb ⊢
      rw [g 128 (by decide)]
      exact pb
    · unfold MRc
      rw [g 129 (by decide), g 130 (by decide), g 131 (by decide), g 132 (by decide), g 133 (by decide), g 134 (by decide), g 135 (by decide), g 136 (by decide), g 137 (by decide), g 138 (by decide), g 139 (by decide), g 142 (by decide), g 118 (by decide), g 121 (by decide), g 122 (by decide), g 123 (by decide), g 125 (by decide), g 126 (by decide), g 119 (by decide), g 120 (by decide)]
      exact ⟨r129, r130, r131, r132, r133, r134, r135, r136, r137, r138, r139, r142, r118, r121, r122, r123, r125, r126, r119, r120⟩
    · rw [fJ 146 (by decide) (by decide)]
      exact d1
    · rw [fJ 124 (by decide) (by decide)]
      exact d2
    · rw [g 148 (by decide)]
      exact d3
    · rw [g 149 (by decide)]
      exact d4
    · rw [g 150 (by decide)]
      exact d5
    · unfold MRo
      rw [fJ 147 (by decide) (by decide)]
      exact po
end CNT
