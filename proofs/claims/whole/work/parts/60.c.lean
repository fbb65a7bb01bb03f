/-! the run: the reference's memory of who is where -/
def MRa (cd : Nat → Nat) (st : Nat → Bool) (hg : Nat → Nat) (c : Nat → Nat → Nat) (I : MI) (J : MJ) (w : Nat) : Prop := ∃ pos h sk, st pos = true ∧ hg pos = h ∧ RV I J w h sk (c 2) (c 0 2) (c 3) ∧ I 127 w = nI pos ∧ stl cd (c 2) 2000 pos h sk = (c 0 0, c 0 1, c 1)
def MRb (S c : Nat → Nat → Nat) (I : MI) (w : Nat) : Prop := I 128 w = nI (c 0 8 + S 1 w) ∨ (S 1 w = 0 ∧ c 0 8 = 8 ∧ c 0 7 = 0 ∧ I 128 w = nI 0)
def MRc (cd : Nat → Nat) (S c : Nat → Nat → Nat) (I : MI) (w : Nat) : Prop := I 129 w = nI (S 5 w) ∧ I 130 w = nI (S 6 w) ∧ I 131 w = nI (psv cd c (S 1 w) w) ∧ I 132 w = nI (S 7 w) ∧ I 133 w = nI (c 0 3) ∧ I 134 w = nI (c 0 5) ∧ I 135 w = nI (c 0 4) ∧ I 136 w = nI (c 0 11) ∧ I 137 w = nI (S 2 w) ∧ I 138 w = nI (S 3 w) ∧ (stt cd c (S 2 w) (S 3 w) = 1 → I 139 w = nI (S 4 w)) ∧ ((S 9 w = 0 ∧ I 142 w = m1) ∨ (S 9 w ≠ 0 ∧ I 142 w = nI (S 9 w - 1))) ∧ I 118 w = nI (S 8 w) ∧ I 121 w = nI (S 10 w) ∧ I 122 w = nI (S 11 w) ∧ I 123 w = nI (c 0 6) ∧ I 125 w = nI (S 13 w) ∧ I 126 w = nI (usv cd c (S 1 w) w) ∧ I 119 w = nI (S 14 w - S 12 w) ∧ I 120 w = nI (S 14 w)
def MRd (P : Nat) (V S c : Nat → Nat → Nat) (I : MI) (J : MJ) (w : Nat) : Prop := (10 ≤ c 0 8 → J 146 w = lN (c 0 9)) ∧ (∀ k, k < S 13 w → V (10 + w) k < pP ∧ J 124 (100 * w + k) = lN (V (10 + w) k)) ∧ (∀ j, j < P → I 148 (4 * w + j) = nI (S (30 + w) j)) ∧ (∀ j, j < P → I 149 (4 * w + j) = nI (S (50 + w) j)) ∧ (∀ j, j < P → I 150 (4 * j + w) = nI (S (40 + w) j))
def MRo (c : Nat → Nat → Nat) (J : MJ) : Prop := ∀ i, i < c 0 3 → J 147 i = lN (c 4 i)
def MRp (cd : Nat → Nat) (st : Nat → Bool) (hg : Nat → Nat) (P : Nat) (V S c : Nat → Nat → Nat) (I : MI) (J : MJ) (w : Nat) : Prop := MRa cd st hg c I J w ∧ MRb S c I w ∧ MRc cd S c I w ∧ MRd P V S c I J w ∧ MRo c J
def MRg (cd : Nat → Nat) (n P B : Nat) (sd : Int64) (S : Nat → Nat → Nat) (I : MI) (J : MJ) : Prop := I 112 16 = nI P ∧ I 112 17 = nI B ∧ I 112 34 = nI 1 ∧ I 112 35 = nI (S 20 0) ∧ I 112 60 = nI (S 20 1) ∧ I 112 24 = nI (S 20 2) ∧ I 112 26 = nI (S 20 3) ∧ I 112 28 = nI (S 20 4) ∧ (∀ k, k < n → I 114 k = nI (cd k)) ∧ J 112 18 = lN (csm (fun j => dg_n sd (Int32.toInt64 (nI j))) P) ∧ J 112 21 = sd + 7000003 ∧ ∀ j, j < P → J 117 j = own sd j
def MRe (cd : Nat → Nat) (bs : Int64) (V c0 : Nat → Nat → Nat) (P : Nat) (S : Nat → Nat → Nat) (I : MI) (J : MJ) : Prop := ∀ i, evb cd (tr cd bs V c0 i) = true → bgn P S i → I 151 (tr cd bs V c0 i 0 4) = nI (kdu cd (tr cd bs V c0 i)) ∧ (∀ j, j < P → (sdf cd (tr cd bs V c0 i 0 0) j = true → snt S i j → I 153 (4 * tr cd bs V c0 i 0 4 + j) = nI (tr cd bs V c0 i 6 j)) ∧ (¬ (sdf cd (tr cd bs V c0 i 0 0) j = true ∧ snt S i j) → I 153 (4 * tr cd bs V c0 i 0 4 + j) = m1)) ∧ (uk cd (tr cd bs V c0 i) = 1 → cd (tr cd bs V c0 i 0 0) = 13 → J 152 (tr cd bs V c0 i 0 4) = lN (uI cd V (tr cd bs V c0 i)))
def MRk (cd : Nat → Nat) (sd : Int64) (V c0 : Nat → Nat → Nat) (P : Nat) (S : Nat → Nat → Nat) (J : MJ) : Prop := ∀ j, j < P → ∀ k, hco cd (sd + 7000003) V c0 S j k → J 154 (4 * k + j) = lN (dg_n (own sd j) (Int32.toInt64 (nI (S (60 + j) k)))) ∧ J 155 (4 * k + j) = lN (dg_n (own sd j) (Int32.toInt64 (nI (S (60 + j) k + 1))))
def MM (cd : Nat → Nat) (st : Nat → Bool) (hg : Nat → Nat) (n P B : Nat) (sd : Int64) (V c0 S : Nat → Nat → Nat) (I : MI) (J : MJ) : Prop := MRg cd n P B sd S I J ∧ MRe cd (sd + 7000003) V c0 P S I J ∧ MRk cd sd V c0 P S J ∧ ∀ w, w < P → MRp cd st hg P V S (tr cd (sd + 7000003) V c0 (S 0 w)) I J w
section FRAME
variable {cd : Nat → Nat} {sd : Int64} {V c c0 : Nat → Nat → Nat} {P n B w x : Nat} {st : Nat → Bool} {hg : Nat → Nat} {S S' : Nat → Nat → Nat} {I I1 I2 : MI} {J J1 J2 : MJ}
/-- what belongs to x stays -/
def SAM (x : Nat) (I I1 : MI) (J J1 : MJ) : Prop := (∀ a, 118 ≤ a → a ≤ 145 → a ≠ 140 → I1 a x = I a x) ∧ (∀ i, 16 * x ≤ i → i < 16 * x + 16 → I1 140 i = I 140 i) ∧ (∀ i, 154 * x ≤ i → i < 154 * x + 154 → J1 143 i = J 143 i) ∧ (∀ i, 65 * x ≤ i → i < 65 * x + 65 → J1 144 i = J 144 i) ∧ J1 146 x = J 146 x ∧ J1 124 = J 124 ∧ ∀ j, j < 4 → I1 148 (4 * x + j) = I 148 (4 * x + j) ∧ I1 149 (4 * x + j) = I 149 (4 * x + j) ∧ I1 150 (4 * j + x) = I 150 (4 * j + x)
theorem RV_sam {h nk : Nat} {sk va kp : Nat → Nat} (hv : RV I J x h sk va nk kp) (hs : SAM x I I1 J J1) : RV I1 J1 x h sk va nk kp := by
  obtain ⟨v1, v2, v3, v4, v5⟩ := hv
  obtain ⟨s1, s2, s3, s4, -⟩ := hs
  refine ⟨?_, fun i hi => ⟨(v2 i hi).1, ?_⟩, fun i hi => ⟨(v3 i hi).1, ?_⟩, ?_, fun i hi => ?_⟩
  · rw [s1 145 (by decide) (by decide) (by decide)]
    exact v1
  · rw [s4 _ (by omega) (by omega)]
    exact (v2 i hi).2
  · rw [s3 _ (by omega) (by omega)]
    exact (v3 i hi).2
  · rw [s1 141 (by decide) (by decide) (by decide)]
    exact v4
  · rw [s2 _ (by omega) (by omega)]
    exact v5 i hi
/-- another's memory stays -/
theorem MRp_fr (hP : P ≤ 4) (h : MRp cd st hg P V S c I J x) (hs : SAM x I I1 J J1) (ho : MRo c J1) (eS : ∀ k, k < 15 → S' k x = S k x) (e3 : ∀ j, j < P → S' (30 + x) j = S (30 + x) j) (e4 : ∀ j, j < P → S' (40 + x) j = S (40 + x) j) (e5 : ∀ j, j < P → S' (50 + x) j = S (50 + x) j) : MRp cd st hg P V S' c I1 J1 x := by
  obtain ⟨⟨pos, h', sk, p1, p2, p3, p4, p5⟩, h2, h3, ⟨d1, d2, d3, d4, d5⟩, -⟩ := h
  have s1 := hs.1
  refine ⟨⟨pos, h', sk, p1, p2, RV_sam p3 hs, by rw [s1 127 (by decide) (by decide) (by decide)]; exact p4, p5⟩, ?_, ?_, ⟨?_, ?_, ?_, ?_, ?_⟩, ho⟩
  · unfold MRb at h2 ⊢
    rw [s1 128 (by decide) (by decide) (by decide), eS 1 (by decide)]
    exact h2
  · unfold MRc at h3 ⊢
    rw [s1 129 (by decide) (by decide) (by decide), s1 130 (by decide) (by decide) (by decide), s1 131 (by decide) (by decide) (by decide), s1 132 (by decide) (by decide) (by decide), s1 133 (by decide) (by decide) (by decide), s1 134 (by decide) (by decide) (by decide), s1 135 (by decide) (by decide) (by decide), s1 136 (by decide) (by decide) (by decide), s1 137 (by decide) (by decide) (by decide), s1 138 (by decide) (by decide) (by decide), s1 139 (by decide) (by decide) (by decide), s1 142 (by decide) (by decide) (by decide), s1 118 (by decide) (by decide) (by decide), s1 121 (by decide) (by decide) (by decide), s1 122 (by decide) (by decide) (by decide), s1 123 (by decide) (by decide) (by decide), s1 125 (by decide) (by decide) (by decide), s1 126 (by decide) (by decide) (by decide), s1 119 (by decide) (by decide) (by decide), s1 120 (by decide) (by decide) (by decide), eS 1 (by decide), eS 2 (by decide), eS 3 (by decide), eS 4 (by decide), eS 5 (by decide), eS 6 (by decide), eS 7 (by decide), eS 8 (by decide), eS 9 (by decide), eS 10 (by decide), eS 11 (by decide), eS 12 (by decide), eS 13 (by decide), eS 14 (by decide)]
    exact h3
  · rw [hs.2.2.2.2.1]
    exact d1
  · rw [hs.2.2.2.2.2.1, eS 13 (by decide)]
    exact d2
  · intro j hj
    rw [(hs.2.2.2.2.2.2 j (by omega)).1, e3 j hj]
    exact d3 j hj
  · intro j hj
    rw [(hs.2.2.2.2.2.2 j (by omega)).2.1, e5 j hj]
    exact d4 j hj
  · intro j hj
    rw [(hs.2.2.2.2.2.2 j (by omega)).2.2, e4 j hj]
    exact d5 j hj
/-- what a step of w leaves, in the reference -/
def RF (w : Nat) (I I1 : MI) (J J1 : MJ) : Prop := (∀ x, x < 4 → x ≠ w → SAM x I I1 J J1) ∧ I1 114 = I 114 ∧ (∀ j, j ≠ 60 → j ≠ 86 → I1 112 j = I 112 j) ∧ J1 112 = J 112 ∧ J1 117 = J 117
theorem MRg_fr (h : MRg cd n P B sd S I J) (hf : RF w I I1 J J1) (e1 : I1 112 60 = nI (S' 20 1)) (e0 : S' 20 0 = S 20 0) (e2 : S' 20 2 = S 20 2) (e3 : S' 20 3 = S 20 3) (e4 : S' 20 4 = S 20 4) : MRg cd n P B sd S' I1 J1 := by
  obtain ⟨h1, h2, h3, h4, h5, h6, h7, h8, h9, h10, h11, h12⟩ := h
  obtain ⟨-, f1, f2, f3, f4⟩ := hf
  unfold MRg
  rw [f2 16 (by decide) (by decide), f2 17 (by decide) (by decide), f2 34 (by decide) (by decide), f2 35 (by decide) (by decide), e1, f2 24 (by decide) (by decide), f2 26 (by decide) (by decide), f2 28 (by decide) (by decide), f1, f3, f4, e0, e2, e3, e4]
  exact ⟨h1, h2, h3, h4, rfl, h6, h7, h8, h9, h10, h11, h12⟩
theorem MR_st (h : MM cd st hg n P B sd V c0 S I J) (hP : P ≤ 4) (hw : w < P) (hf : RF w I I1 J J1) (hO : OTH P w S S') (e1 : I1 112 60 = nI (S' 20 1)) (e0 : S' 20 0 = S 20 0) (e2 : S' 20 2 = S 20 2) (e3 : S' 20 3 = S 20 3) (e4 : S' 20 4 = S 20 4) (he : MRe cd (sd + 7000003) V c0 P S' I1 J1) (hk : MRk cd sd V c0 P S' J1) (ho : ∀ x, x < P → x ≠ w → MRo (tr cd (sd + 7000003) V c0 (S 0 x)) J1) (hp : MRp cd st hg P V S' (tr cd (sd + 7000003) V c0 (S' 0 w)) I1 J1 w) : MM cd st hg n P B sd V c0 S' I1 J1 := by
  obtain ⟨h1, h2, h3, h4⟩ := h
  refine ⟨MRg_fr h1 hf e1 e0 e2 e3 e4, he, hk, fun x hx => ?_⟩
  by_cases z : x = w
  · rw [z]
    exact hp
  · obtain ⟨o1, o2, o3, o4, o5, o6⟩ := hO x hx z
    rw [show S' 0 x = S 0 x from o1 0 (by decide)]
    exact MRp_fr hP (h4 x hx) (hf.1 x (by omega) z) (ho x hx z) o1 o2 o3 o4
/-- frames of parts before, as this one -/
theorem SAM_FG (hf : FG w I I1 J J1) (hx : x ≠ w) : SAM x I I1 J J1 := by
  obtain ⟨f1, f2, f3, f4, f5, f6⟩ := hf
  refine ⟨fun a a1 a2 a3 => ?_, fun i i1 i2 => f3 i (by omega), fun i i1 i2 => f5 i (by omega), fun i i1 i2 => f6 i (by omega), by rw [f4 146 (by decide) (by decide)], f4 124 (by decide) (by decide), fun j hj => by rw [f1 148 (by decide) (by decide) (by decide) (by decide), f1 149 (by decide) (by decide) (by decide) (by decide), f1 150 (by decide) (by decide) (by decide) (by decide)]; exact ⟨rfl, rfl, rfl⟩⟩
  have q := f2 x hx
  by_cases y1 : a = 145
  · rw [y1]
    exact q.1
  · by_cases y2 : a = 141
    · rw [y2]
      exact q.2.1
    · by_cases y3 : a = 127
      · rw [y3]
        exact q.2.2
      · rw [f1 a y1 a3 y2 y3]
theorem RF_FG (hf : FG w I I1 J J1) : RF w I I1 J J1 := ⟨fun x _ hn => SAM_FG hf hn, hf.1 114 (by decide) (by decide) (by decide) (by decide), fun j _ _ => by rw [hf.1 112 (by decide) (by decide) (by decide) (by decide)], hf.2.2.2.1 112 (by decide) (by decide), hf.2.2.2.1 117 (by decide) (by decide)⟩
theorem SAM_FA (hf : FA w I I1 J J1) (hx : x ≠ w) : SAM x I I1 J J1 := by
  obtain ⟨f1, f2, f3, f4, f5, f6⟩ := hf
  refine ⟨fun a a1 a2 a3 => ?_, fun i i1 i2 => f3 i (by omega), fun i i1 i2 => f5 i (by omega), fun i i1 i2 => f6 i (by omega), by rw [f4 146 (by decide) (by decide)], f4 124 (by decide) (by decide), fun j hj => by rw [f1 148 (by decide) (by decide) (by decide) (by decide) (by decide) (by decide) (by decide) (by decide), f1 149 (by decide) (by decide) (by decide) (by decide) (by decide) (by decide) (by decide) (by decide), f1 150 (by decide) (by decide) (by decide) (by decide) (by decide) (by decide) (by decide) (by decide)]; exact ⟨rfl, rfl, rfl⟩⟩
  have q := f2 x hx
  by_cases y1 : a = 145
  · rw [y1]
    exact q.1
  · by_cases y2 : a = 141
    · rw [y2]
      exact q.2.1
    · by_cases y3 : a = 127
      · rw [y3]
        exact q.2.2.1
      · by_cases y4 : a = 128
        · rw [y4]
          exact q.2.2.2.1
        · by_cases y5 : a = 123
          · rw [y5]
            exact q.2.2.2.2
          · rw [f1 a y1 a3 y2 y3 y4 y5 (by omega) (by omega)]
theorem RF_FA (hf : FA w I I1 J J1) : RF w I I1 J J1 := ⟨fun x _ hn => SAM_FA hf hn, hf.1 114 (by decide) (by decide) (by decide) (by decide) (by decide) (by decide) (by decide) (by decide), fun j _ _ => by rw [hf.1 112 (by decide) (by decide) (by decide) (by decide) (by decide) (by decide) (by decide) (by decide)], hf.2.2.2.1 112 (by decide) (by decide), hf.2.2.2.1 117 (by decide) (by decide)⟩
theorem SAM_FR (hf : FR w I I1 J J1) (hw : w < 4) (hx : x ≠ w) (hx4 : x < 4) : SAM x I I1 J J1 := by
  obtain ⟨f1, f2, f3, f7, f4, f5, f6⟩ := hf
  refine ⟨fun a a1 a2 a3 => ?_, fun i i1 i2 => f3 i (by omega), fun i i1 i2 => f5 i (by omega), fun i i1 i2 => f6 i (by omega), by rw [f4 146 (by decide) (by decide)], f4 124 (by decide) (by decide), fun j hj => by rw [f1 148 (by decide) (by decide) (by decide) (by decide) (by decide) (by decide) (by decide) (by decide), f1 149 (by decide) (by decide) (by decide) (by decide) (by decide) (by decide) (by decide) (by decide), f7 (4 * j + x) (by omega)]; exact ⟨rfl, rfl, rfl⟩⟩
  have q := f2 x hx
  by_cases y1 : a = 145
  · rw [y1]
    exact q.1
  · by_cases y2 : a = 141
    · rw [y2]
      exact q.2.1
    · by_cases y3 : a = 127
      · rw [y3]
        exact q.2.2.1
      · by_cases y4 : a = 128
        · rw [y4]
          exact q.2.2.2.1
        · by_cases y5 : a = 135
          · rw [y5]
            exact q.2.2.2.2.1
          · by_cases y6 : a = 132
            · rw [y6]
              exact q.2.2.2.2.2
            · rw [f1 a y1 a3 y2 y3 y4 y5 (by omega) y6]
theorem RF_FR (hf : FR w I I1 J J1) (hw : w < 4) : RF w I I1 J J1 := ⟨fun x hx hn => SAM_FR hf hw hn hx, hf.1 114 (by decide) (by decide) (by decide) (by decide) (by decide) (by decide) (by decide) (by decide), fun j _ _ => by rw [hf.1 112 (by decide) (by decide) (by decide) (by decide) (by decide) (by decide) (by decide) (by decide)], hf.2.2.2.2.1 112 (by decide) (by decide), hf.2.2.2.2.1 117 (by decide) (by decide)⟩
/-- coins and events where nothing is new -/
theorem MRk_fr (h : MRk cd sd V c0 P S J) (e1 : J1 154 = J 154) (e2 : J1 155 = J 155) (hb : ∀ j, j < P → ∀ k, hco cd (sd + 7000003) V c0 S' j k → hco cd (sd + 7000003) V c0 S j k) (es : ∀ j, j < P → S' (60 + j) = S (60 + j)) : MRk cd sd V c0 P S' J1 := fun j hj k hk => by
  rw [e1, e2, es j hj]
  exact h j hj k (hb j hj k hk)
theorem MRe_fr (h : MRe cd (sd + 7000003) V c0 P S I J) (e1 : I1 151 = I 151) (e2 : I1 153 = I 153) (e3 : J1 152 = J 152) (hb : ∀ i, evb cd (tr cd (sd + 7000003) V c0 i) = true → bgn P S' i → bgn P S i) (hs : ∀ i j, j < P → evb cd (tr cd (sd + 7000003) V c0 i) = true → sdf cd (tr cd (sd + 7000003) V c0 i 0 0) j = true → (snt S' i j ↔ snt S i j)) : MRe cd (sd + 7000003) V c0 P S' I1 J1 := fun i hi hbg => by
  rw [e1, e2, e3]
  obtain ⟨q1, q2, q3⟩ := h i hi (hb i hi hbg)
  exact ⟨q1, fun j hj => ⟨fun y z => (q2 j hj).1 y ((hs i j hj hi y).mp z), fun y => (q2 j hj).2 (fun z => y ⟨z.1, (hs i j hj hi z.1).mpr z.2⟩)⟩, q3⟩
end FRAME
