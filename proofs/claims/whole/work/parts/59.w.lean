/-! the run: the class's memory of who is where -/
def MCa (cd : Nat → Nat) (S c : Nat → Nat → Nat) (I : MI) (J : MJ) (w : Nat) : Prop := I (18 + 21 * w) 0 = nI w ∧ I (18 + 21 * w) 6 = nI (c 0 3) ∧ I (18 + 21 * w) 8 = nI (c 0 0) ∧ I (18 + 21 * w) 9 = nI (cph cd c (S 1 w) w) ∧ I (18 + 21 * w) 10 = nI (stt cd c (S 2 w) (S 3 w)) ∧ I (18 + 21 * w) 11 = nI (S 2 w) ∧ I (18 + 21 * w) 12 = nI (S 3 w) ∧ I (18 + 21 * w) 13 = nI (S 5 w) ∧ (10 ≤ c 0 8 → J (18 + 21 * w) 7 = lN (c 0 9))
def MCk (cd : Nat → Nat) (P : Nat) (S c : Nat → Nat → Nat) (I : MI) (J : MJ) (w : Nat) : Prop := (∃ s : NS4, CK I J w s ∧ NZ (c 5) s.2.1 s.2.2.1 (c 0 7) s.1 ∧ s.2.2.2 = c 0 7) ∧ I (25 + 21 * w) 5 = nI (c 0 5) ∧ I (25 + 21 * w) 6 = nI (S 8 w) ∧ (pas cd c (S 1 w) → I (25 + 21 * w) 7 = nI (S (60 + w) (c 0 5))) ∧ ((S 9 w = 0 ∧ I (25 + 21 * w) 8 = nI 0) ∨ (S 9 w ≠ 0 ∧ I (25 + 21 * w) 8 = nI 1 ∧ ∀ j, j < P → I (28 + 21 * w) j = nI (S (60 + j) (S 9 w - 1))))
def MCs (cd : Nat → Nat) (V S c : Nat → Nat → Nat) (I : MI) (J : MJ) (w : Nat) : Prop := I (29 + 21 * w) 2 = nI (S 13 w) ∧ I (29 + 21 * w) 3 = nI (usv cd c (S 1 w) w) ∧ I (29 + 21 * w) 4 = nI (S 14 w) ∧ I (29 + 21 * w) 5 = nI (S 12 w) ∧ I (31 + 21 * w) 0 = nI (S 10 w) ∧ I (31 + 21 * w) 1 = nI (S 11 w) ∧ I (31 + 21 * w) 2 = nI (c 0 6) ∧ ∀ k, k < S 13 w → V (10 + w) k < pP ∧ J (30 + 21 * w) k = lN (V (10 + w) k)
def MCo (cd : Nat → Nat) (P : Nat) (S c : Nat → Nat → Nat) (I : MI) (w : Nat) : Prop := I (32 + 21 * w) 5 = nI (S 6 w) ∧ I (32 + 21 * w) 6 = nI (psv cd c (S 1 w) w) ∧ I (32 + 21 * w) 7 = nI (S 7 w) ∧ I (32 + 21 * w) 8 = nI (S 4 w) ∧ (∀ j, j < P → I (33 + 21 * w) j = nI (S (30 + w) j)) ∧ (∀ j, j < P → I (34 + 21 * w) j = nI (S (50 + w) j)) ∧ (∀ j, j < P → I (35 + 21 * w) j = nI (S (40 + w) j)) ∧ (∀ j, j < P → I (36 + 21 * w) j = nI (c 6 j)) ∧ (∀ j, j < P → I (37 + 21 * w) j = nI (c 8 j))
def MCp (cd : Nat → Nat) (P : Nat) (V S c : Nat → Nat → Nat) (X : MX) (I : MI) (J : MJ) (w : Nat) : Prop := MCa cd S c I J w ∧ CV I J w (c 0 1) (c 1) (c 2) (c 0 2) (c 3) ∧ MCk cd P S c I J w ∧ MCs cd V S c I J w ∧ MCo cd P S c I w ∧ OV X J w (c 0 3) (c 4)
def MCg (cd : Nat → Nat) (n P B : Nat) (sd : Int64) (S : Nat → Nat → Nat) (I : MI) (J : MJ) : Prop := I 14 6 = nI P ∧ I 14 8 = nI B ∧ I 14 9 = nI 1 ∧ I 14 10 = nI (S 20 0) ∧ J 14 7 = sd ∧ rowC I 15 16 n cd ∧ I 102 0 = nI (S 20 2) ∧ I 102 1 = nI (S 20 3) ∧ I 102 2 = nI (S 20 4)
/-- where outputs lie: apart, and not too many -/
def xsum (X : MX) : Nat := xlen X 0 + xlen X 1 + xlen X 2 + xlen X 3
def XI (X : MX) : Prop := (∀ w, w < 4 → X.1 w < 168 + X.2.2.1 ∧ (X.1 w = 38 + 21 * w ∨ 168 ≤ X.1 w) ∧ 16 ≤ xlen X w ∧ xlen X w ≤ 65536) ∧ (∀ a b, a < 4 → b < 4 → a ≠ b → X.1 a ≠ X.1 b) ∧ 16 * X.2.2.1 + 48 ≤ xsum X
def XR (X X1 : MX) : Prop := X1.2.2.2.1 + X.2.2.1 = X.2.2.2.1 + X1.2.2.1 ∧ X1.2.2.2.2 + 2 * xsum X = X.2.2.2.2 + 2 * xsum X1 ∧ X.2.2.1 ≤ X1.2.2.1 ∧ (1 ≤ X.2.2.1 → X1.2.1 168 = X.2.1 168 ∧ ∀ w, X.1 w ≠ 168 → X1.1 w ≠ 168)
def MC (cd : Nat → Nat) (n P B : Nat) (sd : Int64) (V c0 S : Nat → Nat → Nat) (X : MX) (I : MI) (J : MJ) : Prop := MCg cd n P B sd S I J ∧ XI X ∧ ∀ w, w < P → MCp cd P V S (tr cd (sd + 7000003) V c0 (S 0 w)) X I J w
theorem XR.rfl {X : MX} : XR X X := ⟨by omega, by omega, Nat.le_refl _, fun _ => ⟨Eq.refl _, fun _ h => h⟩⟩
theorem XR.tr {X Y Z : MX} (h : XR X Y) (k : XR Y Z) : XR X Z := by
  obtain ⟨h1, h2, h3, h4⟩ := h
  obtain ⟨k1, k2, k3, k4⟩ := k
  exact ⟨by omega, by omega, by omega, fun y => ⟨(k4 (by omega)).1.trans (h4 y).1, fun w hw => (k4 (by omega)).2 w ((h4 y).2 w hw)⟩⟩
theorem XI_b {X : MX} (h : XI X) : 168 + X.2.2.1 + 1 < 1000000000 := by
  obtain ⟨a, -, b⟩ := h
  have := (a 0 (by decide)).2.2.2
  have := (a 1 (by decide)).2.2.2
  have := (a 2 (by decide)).2.2.2
  have := (a 3 (by decide)).2.2.2
  unfold xsum at b
  omega
/-- outputs grow -/
theorem xlen_o (X : MX) {w x : Nat} (h : x ≠ w) (hx : X.1 x < 168 + X.2.2.1) : xlen (xgrow X w) x = xlen X x ∧ (xgrow X w).1 x = X.1 x := by
  have e : (xgrow X w).1 x = X.1 x := va_up_ne _ _ h
  refine ⟨?_, e⟩
  unfold xlen
  rw [e]
  have : (xgrow X w).2.1 (X.1 x) = X.2.1 (X.1 x) := va_up_ne _ _ (by omega)
  rw [this]
theorem XI_g {X : MX} {w : Nat} (h : XI X) (hw : w < 4) (hl : xlen X w ≤ 30001) : XI (xgrow X w) ∧ XR X (xgrow X w) := by
  obtain ⟨a, b, d⟩ := h
  have g1 : (xgrow X w).1 w = 168 + X.2.2.1 := va_up_self _ _ _
  have g2 : (xgrow X w).2.2.1 = X.2.2.1 + 1 := rfl
  have g3 := xlen_g X w
  have g4 : (xgrow X w).2.2.2.1 = X.2.2.2.1 + 1 := rfl
  have g5 : (xgrow X w).2.2.2.2 = X.2.2.2.2 + 2 * xlen X w := rfl
  have o : ∀ x, x < 4 → x ≠ w → xlen (xgrow X w) x = xlen X x ∧ (xgrow X w).1 x = X.1 x := fun x hx hn => xlen_o X hn (a x hx).1
  have sm : xsum (xgrow X w) = xsum X + xlen X w := by
    unfold xsum
    rcases (show w = 0 ∨ w = 1 ∨ w = 2 ∨ w = 3 by omega) with e | e | e | e <;> rw [e] at g3 o ⊢
    · rw [g3, (o 1 (by decide) (by decide)).1, (o 2 (by decide) (by decide)).1, (o 3 (by decide) (by decide)).1]
      omega
    · rw [g3, (o 0 (by decide) (by decide)).1, (o 2 (by decide) (by decide)).1, (o 3 (by decide) (by decide)).1]
      omega
    · rw [g3, (o 0 (by decide) (by decide)).1, (o 1 (by decide) (by decide)).1, (o 3 (by decide) (by decide)).1]
      omega
    · rw [g3, (o 0 (by decide) (by decide)).1, (o 1 (by decide) (by decide)).1, (o 2 (by decide) (by decide)).1]
      omega
  have hw16 := (a w hw).2.2.1
  refine ⟨⟨fun x hx => ?_, fun x y hx hy hne => ?_, by omega⟩, by omega, by omega, by omega, fun h1 => ⟨va_up_ne _ _ (by omega), fun x hx => ?_⟩⟩
  case refine_3 =>
    by_cases z : x = w
    · rw [z, g1]
      omega
    · have : (xgrow X w).1 x = X.1 x := va_up_ne _ _ z
      rw [this]
      exact hx
  · by_cases z : x = w
    · rw [z, g1, g2, g3]
      omega
    · have q := a x hx
      rw [(o x hx z).2, (o x hx z).1, g2]
      omega
  · by_cases z : x = w
    · have z2 : y ≠ w := fun t => hne (z.trans t.symm)
      rw [z, g1, (o y hy z2).2]
      have := (a y hy).1
      omega
    · by_cases z2 : y = w
      · rw [z2, g1, (o x hx z).2]
        have := (a x hx).1
        omega
      · rw [(o x hx z).2, (o y hy z2).2]
        exact b x y hx hy hne
theorem OV_fr {X X1 : MX} {J J1 : MJ} {w no : Nat} {ou : Nat → Nat} (h : OV X J w no ou) (e1 : X1.1 w = X.1 w) (e2 : xlen X1 w = xlen X w) (e3 : X.2.2.1 ≤ X1.2.2.1) (e4 : J1 (X.1 w) = J (X.1 w)) : OV X1 J1 w no ou := by
  obtain ⟨v1, v2, v3, v4, v5, v6⟩ := h
  unfold OV
  rw [e1, e2, e4]
  exact ⟨by omega, v2, v3, v4, v5, v6⟩
section FRAME
variable {cd : Nat → Nat} {sd : Int64} {V c c0 : Nat → Nat → Nat} {P n B w : Nat} {S S' : Nat → Nat → Nat} {X X1 : MX} {I I1 : MI} {J J1 : MJ}
theorem CK_fr {s : NS4} (h : CK I J w s) (e1 : I1 (25 + 21 * w) = I (25 + 21 * w)) (e2 : I1 (26 + 21 * w) = I (26 + 21 * w)) (e3 : J1 (27 + 21 * w) = J (27 + 21 * w)) : CK I1 J1 w s := by
  unfold CK at h ⊢
  rw [e1, e2, e3]
  exact h
/-- another's memory stays -/
theorem MCp_fr (h : MCp cd P V S c X I J w) (eI : ∀ a, 18 + 21 * w ≤ a → a < 38 + 21 * w → I1 a = I a) (eJ : ∀ a, 18 + 21 * w ≤ a → a < 38 + 21 * w → J1 a = J a) (eo : OV X1 J1 w (c 0 3) (c 4)) (eS : ∀ k, k < 15 → S' k w = S k w) (e3 : ∀ j, j < P → S' (30 + w) j = S (30 + w) j) (e4 : ∀ j, j < P → S' (40 + w) j = S (40 + w) j) (e5 : ∀ j, j < P → S' (50 + w) j = S (50 + w) j) (e6 : ∀ k, S' (60 + w) k = S (60 + w) k) (e9 : S 9 w ≠ 0 → ∀ j, j < P → S' (60 + j) (S 9 w - 1) = S (60 + j) (S 9 w - 1)) : MCp cd P V S' c X1 I1 J1 w := by
  obtain ⟨h1, h2, ⟨⟨s, s1, s2⟩, k0, k1⟩, h4, h5, h6⟩ := h
  refine ⟨?_, CV_fr h2 (eI _ (by omega) (by omega)) (eI _ (by omega) (by omega)) (eJ _ (by omega) (by omega)) (eJ _ (by omega) (by omega)) (eJ _ (by omega) (by omega)) (eJ _ (by omega) (by omega)), ⟨⟨s, CK_fr s1 (eI _ (by omega) (by omega)) (eI _ (by omega) (by omega)) (eJ _ (by omega) (by omega)), s2⟩, ?_⟩, ?_, ?_, eo⟩
  · unfold MCa at h1 ⊢
    rw [eI (18 + 21 * w) (by omega) (by omega), eJ (18 + 21 * w) (by omega) (by omega), eS 1 (by decide), eS 2 (by decide), eS 3 (by decide), eS 5 (by decide)]
    exact h1
  · rw [eI (25 + 21 * w) (by omega) (by omega), eI (28 + 21 * w) (by omega) (by omega), eS 8 (by decide), eS 1 (by decide), eS 9 (by decide), e6]
    refine ⟨k0, k1.1, k1.2.1, ?_⟩
    rcases k1.2.2 with z | ⟨z1, z2, z3⟩
    · exact Or.inl z
    · exact Or.inr ⟨z1, z2, fun j hj => by rw [e9 z1 j hj]; exact z3 j hj⟩
  · unfold MCs at h4 ⊢
    rw [eI (29 + 21 * w) (by omega) (by omega), eI (31 + 21 * w) (by omega) (by omega), eJ (30 + 21 * w) (by omega) (by omega), eS 13 (by decide), eS 1 (by decide), eS 14 (by decide), eS 12 (by decide), eS 10 (by decide), eS 11 (by decide)]
    exact h4
  · obtain ⟨o1, o2, o3, o4, o5, o6, o7, o8, o9⟩ := h5
    unfold MCo
    rw [eI (32 + 21 * w) (by omega) (by omega), eI (33 + 21 * w) (by omega) (by omega), eI (34 + 21 * w) (by omega) (by omega), eI (35 + 21 * w) (by omega) (by omega), eI (36 + 21 * w) (by omega) (by omega), eI (37 + 21 * w) (by omega) (by omega), eS 6 (by decide), eS 1 (by decide), eS 7 (by decide), eS 4 (by decide)]
    exact ⟨o1, o2, o3, o4, fun j hj => by rw [e3 j hj]; exact o5 j hj, fun j hj => by rw [e5 j hj]; exact o6 j hj, fun j hj => by rw [e4 j hj]; exact o7 j hj, o8, o9⟩
/-- what a step of w leaves, in the class -/
def CF (w : Nat) (I I1 : MI) (J J1 : MJ) : Prop := (∀ a, a < 18 + 21 * w ∨ 39 + 21 * w ≤ a → a ≠ 109 → a ≠ 110 → I1 a = I a) ∧ (∀ a, a < 18 + 21 * w ∨ 39 + 21 * w ≤ a → a ≠ 111 → J1 a = J a)
/-- rows of the others -/
def OTH (P w : Nat) (S S' : Nat → Nat → Nat) : Prop := ∀ x, x < P → x ≠ w → (∀ k, k < 15 → S' k x = S k x) ∧ (∀ j, j < P → S' (30 + x) j = S (30 + x) j) ∧ (∀ j, j < P → S' (40 + x) j = S (40 + x) j) ∧ (∀ j, j < P → S' (50 + x) j = S (50 + x) j) ∧ (∀ k, S' (60 + x) k = S (60 + x) k) ∧ (S 9 x ≠ 0 → ∀ j, j < P → S' (60 + j) (S 9 x - 1) = S (60 + j) (S 9 x - 1))
theorem MCg_fr (h : MCg cd n P B sd S I J) (hw : w < 4) (hf : CF w I I1 J J1) (e0 : S' 20 0 = S 20 0) (e2 : S' 20 2 = S 20 2) (e3 : S' 20 3 = S 20 3) (e4 : S' 20 4 = S 20 4) : MCg cd n P B sd S' I1 J1 := by
  obtain ⟨h1, h2, h3, h4, h5, h6, h7⟩ := h
  unfold MCg
  rw [hf.1 14 (by omega) (by decide) (by decide), hf.2 14 (by omega) (by decide), hf.1 102 (by omega) (by decide) (by decide), e0, e2, e3, e4]
  exact ⟨h1, h2, h3, h4, h5, rowC_f2 h6 (hf.1 15 (by omega) (by decide) (by decide)) (hf.1 16 (by omega) (by decide) (by decide)), h7⟩
theorem MC_st (h : MC cd n P B sd V c0 S X I J) (hP : P ≤ 4) (hw : w < P) (hf : CF w I I1 J J1) (hO : OTH P w S S') (e0 : S' 20 0 = S 20 0) (e2 : S' 20 2 = S 20 2) (e3 : S' 20 3 = S 20 3) (e4 : S' 20 4 = S 20 4) (hp : MCp cd P V S' (tr cd (sd + 7000003) V c0 (S' 0 w)) X I1 J1 w) : MC cd n P B sd V c0 S' X I1 J1 := by
  obtain ⟨h1, h2, h3⟩ := h
  refine ⟨MCg_fr h1 (by omega) hf e0 e2 e3 e4, h2, fun x hx => ?_⟩
  by_cases z : x = w
  · rw [z]
    exact hp
  · obtain ⟨o1, o2, o3, o4, o5, o6⟩ := hO x hx z
    have q := h3 x hx
    rw [show S' 0 x = S 0 x from o1 0 (by decide)]
    have r : ∀ a, 18 + 21 * x ≤ a → a < 39 + 21 * x → (a < 18 + 21 * w ∨ 39 + 21 * w ≤ a) ∧ a ≠ 109 ∧ a ≠ 110 ∧ a ≠ 111 := fun a a1 a2 => by omega
    refine MCp_fr q (fun a a1 a2 => hf.1 a (r a a1 (by omega)).1 (r a a1 (by omega)).2.1 (r a a1 (by omega)).2.2.1) (fun a a1 a2 => hf.2 a (r a a1 (by omega)).1 (r a a1 (by omega)).2.2.2) ?_ o1 o2 o3 o4 o5 o6
    have ov := q.2.2.2.2.2
    have xx := h2.1 x (by omega)
    refine OV_fr ov rfl rfl (Nat.le_refl _) ?_
    rcases xx.2.1 with y | y
    · exact hf.2 _ (r _ (by omega) (by omega)).1 (r _ (by omega) (by omega)).2.2.2
    · exact hf.2 _ (by omega) (by omega)
end FRAME
