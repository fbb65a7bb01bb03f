/-! begin, in the class -/
section BEG
variable {cd us : Nat → Nat} {P n k w a m : Nat} {st : Nat → Bool} {hg : Nat → Nat} {t : Nat → Nat} {I : MI} {J : MJ}
theorem PW23 : ∀ (d fu i : Nat) (I : MI), i + d = 4 → d < fu → ∃ I1, f_Post_wipe_23 w fu (nI i) I J = some ((), I1, J) ∧ (∀ b, b ≠ 34 + 21 * w → I1 b = I b) ∧ (∀ j, I1 (34 + 21 * w) j = if i ≤ j ∧ j < 4 then 0 else I (34 + 21 * w) j)
  | 0, fu, i, I, hi, hfu => by
    obtain ⟨fu', rfl⟩ : ∃ k, fu = k + 1 := ⟨fu - 1, by omega⟩
    refine ⟨I, ?_, fun _ _ => rfl, fun j => by rw [if_neg (by omega)]⟩
    show (if nI 4 ≤ nI i then _ else _) = _
    rw [if_pos ((nI_leI (by omega) (by omega)).mpr (by omega))]
  | d + 1, fu, i, I, hi, hfu => by
    obtain ⟨fu', rfl⟩ : ∃ k, fu = k + 1 := ⟨fu - 1, by omega⟩
    obtain ⟨A, q, r, s, u⟩ := UP1 I (34 + 21 * w) i (0 &&& 1)
    obtain ⟨I1, x1, x2, x3⟩ := PW23 d fu' (i + 1) A (by omega) (by omega)
    refine ⟨I1, ?_, fun b hb => by rw [x2 b hb, r b hb], fun j => ?_⟩
    · show (if nI 4 ≤ nI i then _ else _) = _
      rw [if_neg (fun z => by
        have := (nI_leI (a := 4) (b := i) (by omega) (by omega)).mp z
        omega), nI_clamp (n := i) (by omega), if_neg (nin (show i < 4 by omega) (by decide)), q, pl_eq, nI_1]
      exact x1
    · rw [x3 j]
      by_cases y : i + 1 ≤ j ∧ j < 4
      · rw [if_pos y, if_pos (by omega)]
      · rw [if_neg y]
        by_cases z : j = i
        · rw [z, s, if_pos (by omega)]
          rfl
        · rw [u j z, if_neg (by omega)]
theorem PWP : ∃ I1, (∀ {α : Type} {F : Unit → MI → MJ → Option α}, oc (f_Post_wipe w I J) F = F () I1 J) ∧ (∀ b, b ≠ 32 + 21 * w → b ≠ 33 + 21 * w → b ≠ 34 + 21 * w → b ≠ 35 + 21 * w → b ≠ 36 + 21 * w → I1 b = I b) ∧ (I1 (32 + 21 * w) 5 = nI 0 ∧ I1 (32 + 21 * w) 6 = nI 0 ∧ I1 (32 + 21 * w) 7 = nI 0 ∧ I1 (32 + 21 * w) 8 = nI 0) ∧ (∀ j, j < 4 → I1 (33 + 21 * w) j = nI 0 ∧ I1 (34 + 21 * w) j = nI 0 ∧ I1 (35 + 21 * w) j = nI 0 ∧ I1 (36 + 21 * w) j = nI 0) := by
  obtain ⟨A1, a1, a2, a3⟩ := ZIG (a := 33 + 21 * w) (m := 4) (I := I) (J := J) (by decide)
  obtain ⟨A2, b1, b2, b3⟩ := ZIG (a := 35 + 21 * w) (m := 4) (I := A1) (J := J) (by decide)
  obtain ⟨A3, c1, c2, c3⟩ := ZIG (a := 36 + 21 * w) (m := 4) (I := A2) (J := J) (by decide)
  obtain ⟨A4, d1, d2, d3⟩ := PW23 (w := w) (J := J) 4 gF 0 A3 (by omega) (gF_lt (by omega))
  obtain ⟨A5, e1, e2, e3, e4⟩ := UP1 A4 (32 + 21 * w) 5 0
  obtain ⟨A6, f1, f2, f3, f4⟩ := UP1 A5 (32 + 21 * w) 6 0
  obtain ⟨A7, g1, g2, g3, g4⟩ := UP1 A6 (32 + 21 * w) 7 0
  obtain ⟨A8, h1, h2, h3, h4⟩ := UP1 A7 (32 + 21 * w) 8 0
  have fr : ∀ b, b ≠ 32 + 21 * w → A8 b = A4 b := fun b hb => by rw [h2 b hb, g2 b hb, f2 b hb, e2 b hb]
  refine ⟨A8, ?_, fun b x1 x2 x3 x4 x5 => by rw [fr b x1, d2 b x3, c2 b x5, b2 b x4, a2 b x2], ⟨by rw [h4 5 (by decide), g4 5 (by decide), f4 5 (by decide)]; exact e3, by rw [h4 6 (by decide), g4 6 (by decide)]; exact f3, by rw [h4 7 (by decide)]; exact g3, h3⟩, fun j hj => ⟨by rw [fr _ (by omega), d2 _ (by omega), c2 _ (by omega), b2 _ (by omega)]; exact a3 j hj, by rw [fr _ (by omega), d3 j, if_pos ⟨by omega, hj⟩]; rfl, by rw [fr _ (by omega), d2 _ (by omega), c2 _ (by omega)]; exact b3 j hj, by rw [fr _ (by omega), d2 _ (by omega)]; exact c3 j hj⟩⟩
  intro α F
  have d1' : f_Post_wipe_23 w gF 0 A3 J = some ((), A4, J) := d1
  unfold f_Post_wipe
  rw [oc_oc, a1, oc_oc, b1, oc_oc, c1, oc_oc, d1', oc_some, e1, pl_eq, f1, pl_eq, g1, pl_eq, h1, pl_eq, oc_some]
theorem CST : ∃ I1, (∀ {α : Type} {F : Unit → MI → MJ → Option α}, oc (f_Check_startAnew w I J) F = F () I1 J) ∧ (∀ b, b ≠ 25 + 21 * w → I1 b = I b) ∧ (I1 (25 + 21 * w) 3 = nI 0 ∧ I1 (25 + 21 * w) 4 = nI 0 ∧ I1 (25 + 21 * w) 5 = nI 0 ∧ I1 (25 + 21 * w) 8 = nI 0) ∧ I1 (25 + 21 * w) 6 = I (25 + 21 * w) 6 := by
  obtain ⟨A5, e1, e2, e3, e4⟩ := UP1 I (25 + 21 * w) 5 0
  obtain ⟨A6, f1, f2, f3, f4⟩ := UP1 A5 (25 + 21 * w) 8 0
  obtain ⟨A7, g1, g2, g3, g4⟩ := UP1 A6 (25 + 21 * w) 3 0
  obtain ⟨A8, h1, h2, h3, h4⟩ := UP1 A7 (25 + 21 * w) 4 0
  refine ⟨A8, ?_, fun b hb => by rw [h2 b hb, g2 b hb, f2 b hb, e2 b hb], ⟨by rw [h4 3 (by decide)]; exact g3, h3, by rw [h4 5 (by decide), g4 5 (by decide), f4 5 (by decide)]; exact e3, by rw [h4 8 (by decide), g4 8 (by decide)]; exact f3⟩, by rw [h4 6 (by decide), g4 6 (by decide), f4 6 (by decide), e4 6 (by decide)]⟩
  intro α F
  unfold f_Check_startAnew f_Check_forget
  rw [e1, pl_eq, f1, pl_eq, g1, pl_eq, h1, pl_eq, oc_oc, oc_some, oc_some]
theorem PST : ∃ I1 J1, (∀ {α : Type} {F : Unit → MI → MJ → Option α}, oc (f_Party_startAnew w I J) F = F () I1 J1) ∧ CV I1 J1 w 0 (fun _ => 0) (fun _ => 0) 0 (fun _ => 0) ∧ (I1 (18 + 21 * w) 6 = nI 0 ∧ I1 (18 + 21 * w) 11 = nI 0 ∧ I1 (18 + 21 * w) 12 = nI 0 ∧ I1 (18 + 21 * w) 13 = nI 0) ∧ I1 (18 + 21 * w) 0 = I (18 + 21 * w) 0 ∧ (I1 (25 + 21 * w) 3 = nI 0 ∧ I1 (25 + 21 * w) 4 = nI 0 ∧ I1 (25 + 21 * w) 5 = nI 0 ∧ I1 (25 + 21 * w) 8 = nI 0) ∧ I1 (25 + 21 * w) 6 = I (25 + 21 * w) 6 ∧ (I1 (32 + 21 * w) 5 = nI 0 ∧ I1 (32 + 21 * w) 6 = nI 0 ∧ I1 (32 + 21 * w) 7 = nI 0 ∧ I1 (32 + 21 * w) 8 = nI 0) ∧ (∀ j, j < 4 → I1 (33 + 21 * w) j = nI 0 ∧ I1 (34 + 21 * w) j = nI 0 ∧ I1 (35 + 21 * w) j = nI 0 ∧ I1 (36 + 21 * w) j = nI 0) ∧ (∀ b, b ≠ 18 + 21 * w → b ≠ 19 + 21 * w → b ≠ 25 + 21 * w → b ≠ 32 + 21 * w → b ≠ 33 + 21 * w → b ≠ 34 + 21 * w → b ≠ 35 + 21 * w → b ≠ 36 + 21 * w → I1 b = I b) ∧ (∀ b, b ≠ 20 + 21 * w → b ≠ 21 + 21 * w → b ≠ 22 + 21 * w → J1 b = J b) := by
  obtain ⟨M, Jm, m1, m2, m3, m4⟩ := MWP (w := w) (I := I) (J := J)
  obtain ⟨C, c1, c2, c3, c4⟩ := CST (w := w) (I := M) (J := Jm)
  obtain ⟨Q, q1, q2, q3, q4⟩ := PWP (w := w) (I := C) (J := Jm)
  obtain ⟨A5, e1, e2, e3, e4⟩ := UP1 Q (18 + 21 * w) 6 0
  obtain ⟨A6, f1, f2, f3, f4⟩ := UP1 A5 (18 + 21 * w) 11 0
  obtain ⟨A7, g1, g2, g3, g4⟩ := UP1 A6 (18 + 21 * w) 12 0
  obtain ⟨A8, h1, h2, h3, h4⟩ := UP1 A7 (18 + 21 * w) 13 0
  have fr : ∀ b, b ≠ 18 + 21 * w → A8 b = Q b := fun b hb => by rw [h2 b hb, g2 b hb, f2 b hb, e2 b hb]
  refine ⟨A8, Jm, ?_, CV_fr m4 (by rw [fr _ (by omega), q2 _ (by omega) (by omega) (by omega) (by omega) (by omega), c2 _ (by omega)]) (by rw [fr _ (by omega), q2 _ (by omega) (by omega) (by omega) (by omega) (by omega), c2 _ (by omega)]) rfl rfl rfl rfl, ⟨by rw [h4 6 (by decide), g4 6 (by decide), f4 6 (by decide)]; exact e3, by rw [h4 11 (by decide), g4 11 (by decide)]; exact f3, by rw [h4 12 (by decide)]; exact g3, h3⟩, by rw [h4 0 (by decide), g4 0 (by decide), f4 0 (by decide), e4 0 (by decide), q2 _ (by omega) (by omega) (by omega) (by omega) (by omega), c2 _ (by omega), m2 _ (by omega)], ?_, ?_, ?_, ?_, fun b x1 x2 x3 x4 x5 x6 x7 x8 => by rw [fr b x1, q2 b x4 x5 x6 x7 x8, c2 b x3, m2 b x2], m3⟩
  · intro α F
    unfold f_Party_startAnew
    rw [oc_oc, m1, oc_oc, c1, oc_oc, q1, e1, pl_eq, f1, pl_eq, g1, pl_eq, h1, pl_eq, oc_some]
  · rw [fr _ (by omega), q2 _ (by omega) (by omega) (by omega) (by omega) (by omega)]
    exact c3
  · rw [fr _ (by omega), q2 _ (by omega) (by omega) (by omega) (by omega) (by omega), c4, m2 _ (by omega)]
  · rw [fr _ (by omega)]
    exact q3
  · intro j hj
    rw [fr _ (by omega), fr _ (by omega), fr _ (by omega), fr _ (by omega)]
    exact q4 j hj
theorem SA53 {l1 : Int32} (hP : P ≤ 4) (hw : w < 4) : ∀ (d fu i : Nat) (I : MI), i + d = P → d < fu → I 14 6 = nI P → ∃ I1, f_Hall_startAnew_53 fu l1 w (nI i) I J = some ((), I1, J) ∧ (∀ b, b ≠ 37 + 21 * w → I1 b = I b) ∧ (∀ j, I1 (37 + 21 * w) j = if i ≤ j ∧ j < P then I (29 + 21 * j) 3 else I (37 + 21 * w) j)
  | 0, fu, i, I, hi, hfu, h6 => by
    obtain ⟨fu', rfl⟩ : ∃ k, fu = k + 1 := ⟨fu - 1, by omega⟩
    refine ⟨I, ?_, fun _ _ => rfl, fun j => by rw [if_neg (by omega)]⟩
    show (if I 14 6 ≤ nI i then _ else _) = _
    rw [h6, if_pos ((nI_leI (by omega) (by omega)).mpr (by omega))]
  | d + 1, fu, i, I, hi, hfu, h6 => by
    obtain ⟨fu', rfl⟩ : ∃ k, fu = k + 1 := ⟨fu - 1, by omega⟩
    obtain ⟨A, q, r, s, u⟩ := UP1 I (37 + 21 * w) i (I (29 + 21 * i) 3)
    obtain ⟨I1, x1, x2, x3⟩ := SA53 hP hw d fu' (i + 1) A (by omega) (by omega) (by rw [r 14 (by omega)]; exact h6)
    refine ⟨I1, ?_, fun b hb => by rw [x2 b hb, r b hb], fun j => ?_⟩
    · show (if I 14 6 ≤ nI i then _ else _) = _
      rw [h6, if_neg (fun z => by
        have := (nI_leI (a := P) (b := i) (by omega) (by omega)).mp z
        omega), nI_clamp (n := i) (by omega), if_neg (nin (show i < 4 by omega) (by decide)), if_neg (nin (show i < 4 by omega) (by decide)), q, pl_eq, nI_1]
      exact x1
    · rw [x3 j]
      by_cases y : i + 1 ≤ j ∧ j < P
      · rw [if_pos y, if_pos (by omega), r _ (by omega)]
      · rw [if_neg y]
        by_cases z : j = i
        · rw [z, s, if_pos (by omega)]
        · rw [u j z, if_neg (by omega)]
/-- where all begin -/
def z0 (cd : Nat → Nat) : Nat × Nat × (Nat → Nat) := stl cd (fun _ => 0) 2000 0 0 (fun _ => 0)
def BGp (cd us : Nat → Nat) (P : Nat) (I : MI) (J : MJ) (w : Nat) : Prop := (I (18 + 21 * w) 0 = nI w ∧ I (18 + 21 * w) 6 = nI 0 ∧ I (18 + 21 * w) 8 = nI (z0 cd).1 ∧ I (18 + 21 * w) 9 = nI (fph cd (z0 cd).1 w 0) ∧ I (18 + 21 * w) 10 = nI (if cd (z0 cd).1 = 0 then 2 else 1) ∧ I (18 + 21 * w) 11 = nI 0 ∧ I (18 + 21 * w) 12 = nI 0 ∧ I (18 + 21 * w) 13 = nI 0) ∧ CV I J w (z0 cd).2.1 (z0 cd).2.2 (fun _ => 0) 0 (fun _ => 0) ∧ (I (25 + 21 * w) 3 = nI 0 ∧ I (25 + 21 * w) 4 = nI 0 ∧ I (25 + 21 * w) 5 = nI 0 ∧ I (25 + 21 * w) 8 = nI 0) ∧ (I (32 + 21 * w) 5 = nI 0 ∧ I (32 + 21 * w) 6 = nI 0 ∧ I (32 + 21 * w) 7 = nI 0 ∧ I (32 + 21 * w) 8 = nI 0) ∧ (∀ j, j < 4 → I (33 + 21 * w) j = nI 0 ∧ I (34 + 21 * w) j = nI 0 ∧ I (35 + 21 * w) j = nI 0 ∧ I (36 + 21 * w) j = nI 0) ∧ ∀ j, j < P → I (37 + 21 * w) j = nI (us j)
theorem BGp_fr {I1 : MI} {J1 : MJ} (h : BGp cd us P I J w) (e : ∀ b, 18 + 21 * w ≤ b → b < 39 + 21 * w → I1 b = I b ∧ J1 b = J b) : BGp cd us P I1 J1 w := by
  obtain ⟨h1, h2, h3, h4, h5, h6⟩ := h
  unfold BGp
  rw [(e (18 + 21 * w) (by omega) (by omega)).1, (e (25 + 21 * w) (by omega) (by omega)).1, (e (32 + 21 * w) (by omega) (by omega)).1, (e (33 + 21 * w) (by omega) (by omega)).1, (e (34 + 21 * w) (by omega) (by omega)).1, (e (35 + 21 * w) (by omega) (by omega)).1, (e (36 + 21 * w) (by omega) (by omega)).1, (e (37 + 21 * w) (by omega) (by omega)).1]
  exact ⟨h1, CV_fr h2 (e _ (by omega) (by omega)).1 (e _ (by omega) (by omega)).1 (e _ (by omega) (by omega)).2 (e _ (by omega) (by omega)).2 (e _ (by omega) (by omega)).2 (e _ (by omega) (by omega)).2, h3, h4, h5, h6⟩
/-- one begins -/
theorem ONE (hW : WFc cd n P st hg) (hP : P ≤ 4) (hw : w < P) (h6 : I 14 6 = nI P) (hr : rowC I 15 16 n cd) (hx : I (18 + 21 * w) 0 = nI w) (hus : ∀ x, x < P → I (29 + 21 * x) 3 = nI (us x)) : ∃ I1 J1, (∀ {α : Type} {F : Unit → MI → MJ → Option α}, oc (f_Party_startAnew w I J) (fun _ I8 J8 => oc (f_Hall_startAnew_53 gF (nI w) w 0 I8 J8) (fun _ I13 J13 => oc (f_Hall_settle w 0 I13 J13) F)) = F () I1 J1) ∧ BGp cd us P I1 J1 w ∧ I1 (25 + 21 * w) 6 = I (25 + 21 * w) 6 ∧ (∀ b, b ≠ 18 + 21 * w → b ≠ 19 + 21 * w → b ≠ 24 + 21 * w → b ≠ 25 + 21 * w → b ≠ 32 + 21 * w → b ≠ 33 + 21 * w → b ≠ 34 + 21 * w → b ≠ 35 + 21 * w → b ≠ 36 + 21 * w → b ≠ 37 + 21 * w → I1 b = I b) ∧ (∀ b, b ≠ 20 + 21 * w → b ≠ 21 + 21 * w → b ≠ 22 + 21 * w → b ≠ 23 + 21 * w → J1 b = J b) := by
  obtain ⟨A, Ja, a1, a2, a3, a4, a5, a6, a7, a8, a9, a10⟩ := PST (w := w) (I := I) (J := J)
  obtain ⟨B, b1, b2, b3⟩ := SA53 (l1 := nI w) (J := Ja) hP (show w < 4 by omega) P gF 0 A (by omega) (gF_lt (by omega)) (by rw [a9 14 (by omega) (by omega) (by omega) (by omega) (by omega) (by omega) (by omega) (by omega)]; exact h6)
  have fr : ∀ b, b ≠ 18 + 21 * w → b ≠ 19 + 21 * w → b ≠ 25 + 21 * w → b ≠ 32 + 21 * w → b ≠ 33 + 21 * w → b ≠ 34 + 21 * w → b ≠ 35 + 21 * w → b ≠ 36 + 21 * w → b ≠ 37 + 21 * w → B b = I b := fun b x1 x2 x3 x4 x5 x6 x7 x8 x9 => by rw [b2 b x9, a9 b x1 x2 x3 x4 x5 x6 x7 x8]
  have fc : ∀ b, b < 18 → B b = I b := fun b hb => fr b (by omega) (by omega) (by omega) (by omega) (by omega) (by omega) (by omega) (by omega) (by omega)
  obtain ⟨C, Jc, c1, c2, c3, c4, c5, c6⟩ := SETC (va := fun _ => 0) (o := 0) (pos := 0) (h := 0) (sk := fun _ => 0) (nk := 0) (kp := fun _ => 0) (I := B) (J := Ja) hW (show w < 4 by omega) (by decide) hW.2.2.2.1 hW.2.2.2.2.1 (CV_fr a2 (b2 _ (by omega)) (b2 _ (by omega)) rfl rfl rfl rfl) (rowC_f2 hr (fc 15 (by omega)) (fc 16 (by omega))) (by rw [b2 _ (by omega), a4]; exact hx) (by rw [b2 _ (by omega)]; exact a5.2.1)
  have k18 : ∀ j, j ≠ 8 → j ≠ 9 → j ≠ 10 → C (18 + 21 * w) j = A (18 + 21 * w) j := fun j j1 j2 j3 => by rw [c6.2.1 j j1 j2 j3, b2 _ (by omega)]
  have kb : ∀ b, b ≠ 18 + 21 * w → b ≠ 19 + 21 * w → b ≠ 24 + 21 * w → b ≠ 37 + 21 * w → C b = A b := fun b x1 x2 x3 x4 => by rw [c6.1 b x1 x2 x3, b2 b x4]
  refine ⟨C, Jc, ?_, ⟨⟨by rw [k18 0 (by decide) (by decide) (by decide), a4]; exact hx, by rw [k18 6 (by decide) (by decide) (by decide)]; exact a3.1, c3, c4, c5, by rw [k18 11 (by decide) (by decide) (by decide)]; exact a3.2.1, by rw [k18 12 (by decide) (by decide) (by decide)]; exact a3.2.2.1, by rw [k18 13 (by decide) (by decide) (by decide)]; exact a3.2.2.2⟩, c2, by rw [kb _ (by omega) (by omega) (by omega) (by omega)]; exact a5, by rw [kb _ (by omega) (by omega) (by omega) (by omega)]; exact a7, fun j hj => by rw [kb (33 + 21 * w) (by omega) (by omega) (by omega) (by omega), kb (34 + 21 * w) (by omega) (by omega) (by omega) (by omega), kb (35 + 21 * w) (by omega) (by omega) (by omega) (by omega), kb (36 + 21 * w) (by omega) (by omega) (by omega) (by omega)]; exact a8 j hj, fun j hj => ?_⟩, by rw [kb _ (by omega) (by omega) (by omega) (by omega), a6], fun b x1 x2 x3 x4 x5 x6 x7 x8 x9 x10 => by rw [c6.1 b x1 x2 x3, fr b x1 x2 x4 x5 x6 x7 x8 x9 x10], fun b x1 x2 x3 x4 => by rw [c6.2.2 b x1 x2 x3 x4, a10 b x1 x2 x3]⟩
  · intro α F
    have b1' : f_Hall_startAnew_53 gF (nI w) w 0 A Ja = some ((), B, Ja) := b1
    rw [a1, b1', oc_some]
    show oc (f_Hall_settle w (nI 0) B Ja) F = _
    rw [c1]
  · rw [c6.1 _ (by omega) (by omega) (by omega), b3 j, if_pos ⟨by omega, hj⟩, a9 _ (by omega) (by omega) (by omega) (by omega) (by omega) (by omega) (by omega) (by omega)]
    exact hus j hj
theorem SA32 (hW : WFc cd n P st hg) (hP : P ≤ 4) : ∀ (d fu i : Nat) (I : MI) (J : MJ), i + d = P → d < fu → I 14 6 = nI P → rowC I 15 16 n cd → (∀ x, x < P → I (18 + 21 * x) 0 = nI x) → (∀ x, x < P → I (29 + 21 * x) 3 = nI (us x)) → (∀ x, x < i → BGp cd us P I J x) → ∃ I1 J1, f_Hall_startAnew_32 fu (nI i) I J = some ((), I1, J1) ∧ (∀ x, x < P → BGp cd us P I1 J1 x) ∧ (∀ b, b < 18 ∨ 102 ≤ b → I1 b = I b) ∧ (∀ b, b < 18 ∨ 102 ≤ b → J1 b = J b) ∧ (∀ x, x < 4 → I1 (18 + 21 * x) 0 = I (18 + 21 * x) 0 ∧ I1 (25 + 21 * x) 6 = I (25 + 21 * x) 6 ∧ I1 (29 + 21 * x) = I (29 + 21 * x) ∧ I1 (31 + 21 * x) = I (31 + 21 * x) ∧ J1 (30 + 21 * x) = J (30 + 21 * x))
  | 0, fu, i, I, J, hi, hfu, h6, hr, hx, hus, hb => by
    obtain ⟨fu', rfl⟩ : ∃ k, fu = k + 1 := ⟨fu - 1, by omega⟩
    refine ⟨I, J, ?_, fun x hx => hb x (by omega), fun _ _ => rfl, fun _ _ => rfl, fun _ _ => ⟨rfl, rfl, rfl, rfl, rfl⟩⟩
    show (if I 14 6 ≤ nI i then _ else _) = _
    rw [h6, if_pos ((nI_leI (by omega) (by omega)).mpr (by omega))]
  | d + 1, fu, i, I, J, hi, hfu, h6, hr, hx, hus, hb => by
    obtain ⟨fu', rfl⟩ : ∃ k, fu = k + 1 := ⟨fu - 1, by omega⟩
    obtain ⟨A, Ja, a1, a2, a3, a4, a5⟩ := ONE (J := J) hW hP (show i < P by omega) h6 hr (hx i (by omega)) hus
    have fc : ∀ b, b < 18 ∨ 102 ≤ b → A b = I b := fun b hb => a4 b (by omega) (by omega) (by omega) (by omega) (by omega) (by omega) (by omega) (by omega) (by omega) (by omega)
    have fx : ∀ x, x < 4 → x ≠ i → ∀ b, 18 + 21 * x ≤ b → b < 39 + 21 * x → A b = I b ∧ Ja b = J b := fun x h1 h2 b h3 h4 => ⟨a4 b (by omega) (by omega) (by omega) (by omega) (by omega) (by omega) (by omega) (by omega) (by omega) (by omega), a5 b (by omega) (by omega) (by omega) (by omega)⟩
    have f18 : ∀ x, x < 4 → A (18 + 21 * x) 0 = I (18 + 21 * x) 0 := fun x h1 => by
      by_cases z : x = i
      · rw [z, a2.1.1]
        exact (hx i (by omega)).symm
      · rw [(fx x h1 z (18 + 21 * x) (by omega) (by omega)).1]
    have f29 : ∀ x, x < 4 → A (29 + 21 * x) = I (29 + 21 * x) := fun x h1 => a4 _ (by omega) (by omega) (by omega) (by omega) (by omega) (by omega) (by omega) (by omega) (by omega) (by omega)
    obtain ⟨C, Jc, c1, c2, c3, c4, c5⟩ := SA32 hW hP d fu' (i + 1) A Ja (by omega) (by omega) (by rw [fc 14 (by omega)]; exact h6) (rowC_f2 hr (fc 15 (by omega)) (fc 16 (by omega))) (fun x h => by rw [f18 x (by omega)]; exact hx x h) (fun x h => by rw [f29 x (by omega)]; exact hus x h) (fun x h => by
      by_cases z : x = i
      · rw [z]
        exact a2
      · exact BGp_fr (hb x (by omega)) (fun b h1 h2 => fx x (by omega) z b h1 h2))
    refine ⟨C, Jc, ?_, c2, fun b hb => by rw [c3 b hb, fc b hb], fun b hb => by rw [c4 b hb, a5 b (by omega) (by omega) (by omega) (by omega)], fun x hx4 => ⟨by rw [(c5 x hx4).1, f18 x hx4], ?_, by rw [(c5 x hx4).2.2.1, f29 x hx4], by rw [(c5 x hx4).2.2.2.1, a4 _ (by omega) (by omega) (by omega) (by omega) (by omega) (by omega) (by omega) (by omega) (by omega) (by omega)], by rw [(c5 x hx4).2.2.2.2, a5 _ (by omega) (by omega) (by omega) (by omega)]⟩⟩
    · show (if I 14 6 ≤ nI i then _ else _) = _
      rw [h6, if_neg (fun z => by
        have := (nI_leI (a := P) (b := i) (by omega) (by omega)).mp z
        omega), nI_clamp (n := i) (by omega), if_neg (nin (show i < 4 by omega) (by decide)), a1, nI_1]
      exact c1
    · rw [(c5 x hx4).2.1]
      by_cases z : x = i
      · rw [z]
        exact a3
      · rw [(fx x hx4 z (25 + 21 * x) (by omega) (by omega)).1]
/-- begin -/
theorem BEGC {t0 t1 t2 : Nat → Nat} (hW : WFc cd n P st hg) (hP : P ≤ 4) (h6 : I 14 6 = nI P) (hr : rowC I 15 16 n cd) (hx : ∀ x, x < P → I (18 + 21 * x) 0 = nI x) (hus : ∀ x, x < P → I (29 + 21 * x) 3 = nI (us x)) (ht0 : ∀ j, j < P → t0 j ≤ 200 ∧ I (31 + 21 * j) 0 = nI (t0 j)) (ht1 : ∀ j, j < P → t1 j ≤ 200 ∧ I (31 + 21 * j) 1 = nI (t1 j)) (ht2 : ∀ j, j < P → t2 j ≤ 200 ∧ I (31 + 21 * j) 2 = nI (t2 j)) : ∃ I1 J1, f_Sh_begin I J = some (1, I1, J1) ∧ (∀ x, x < P → BGp cd us P I1 J1 x) ∧ (∀ b, b < 18 ∨ 102 ≤ b → b ≠ 14 → b ≠ 103 → I1 b = I b) ∧ (∀ j, j ≠ 9 → I1 14 j = I 14 j) ∧ I1 14 9 = nI 1 ∧ (∀ j, j ≠ 4 → I1 103 j = I 103 j) ∧ I1 103 4 = nI 0 ∧ (∀ b, b < 18 ∨ 102 ≤ b → J1 b = J b) ∧ (∀ x, x < 4 → I1 (18 + 21 * x) 0 = I (18 + 21 * x) 0 ∧ I1 (25 + 21 * x) 6 = I (25 + 21 * x) 6 ∧ I1 (29 + 21 * x) = I (29 + 21 * x) ∧ J1 (30 + 21 * x) = J (30 + 21 * x)) ∧ (∀ x, x < P → I1 (31 + 21 * x) 0 = nI (mx t0 P) ∧ I1 (31 + 21 * x) 1 = nI (mx t1 P) ∧ I1 (31 + 21 * x) 2 = nI (mx t2 P)) := by
  obtain ⟨A, a1, a2, a3⟩ := EVN (k := 0) (J := J) hP (by decide) h6 ht0
  have f14 : ∀ (I9 : MI), (∀ b, (∀ x, x < 4 → b ≠ 31 + 21 * x) → I9 b = I b) → I9 14 = I 14 := fun I9 h => h 14 (fun x hx => by omega)
  obtain ⟨B, b1, b2, b3⟩ := EVN (k := 1) (I := A) (J := J) hP (by decide) (by rw [a2 14 (fun x hx => by omega)]; exact h6) (fun j hj => ⟨(ht1 j hj).1, by rw [a3 j (by omega) 1, if_neg (fun z => absurd z.2 (by decide))]; exact (ht1 j hj).2⟩)
  obtain ⟨C, c1, c2, c3⟩ := EVN (k := 2) (I := B) (J := J) hP (by decide) (by rw [b2 14 (fun x hx => by omega), a2 14 (fun x hx => by omega)]; exact h6) (fun j hj => ⟨(ht2 j hj).1, by rw [b3 j (by omega) 2, if_neg (fun z => absurd z.2 (by decide)), a3 j (by omega) 2, if_neg (fun z => absurd z.2 (by decide))]; exact (ht2 j hj).2⟩)
  obtain ⟨D, d1, d2, d3, d4⟩ := UP1 C 103 4 0
  obtain ⟨E, e1, e2, e3, e4⟩ := UP1 D 14 9 1
  have fr : ∀ b, (∀ x, x < 4 → b ≠ 31 + 21 * x) → b ≠ 14 → b ≠ 103 → E b = I b := fun b h1 h2 h3 => by rw [e2 b h2, d2 b h3, c2 b h1, b2 b h1, a2 b h1]
  have e6 : E 14 6 = nI P := by
    rw [e4 6 (by decide), d2 14 (by decide), c2 14 (fun x hx => by omega), b2 14 (fun x hx => by omega), a2 14 (fun x hx => by omega)]
    exact h6
  obtain ⟨G, Jg, g1, g2, g3, g4, g5⟩ := SA32 (us := us) hW hP P gF 0 E J (by omega) (gF_lt (by omega)) e6 (rowC_f2 hr (fr 15 (fun x hx => by omega) (by omega) (by omega)) (fr 16 (fun x hx => by omega) (by omega) (by omega))) (fun x h => by rw [fr _ (fun x hx => by omega) (by omega) (by omega)]; exact hx x h) (fun x h => by rw [fr _ (fun x hx => by omega) (by omega) (by omega)]; exact hus x h) (fun x h => absurd h (Nat.not_lt_zero _))
  refine ⟨G, Jg, ?_, g2, fun b h1 h2 h3 => by rw [g3 b h1, fr b (fun x hx => by omega) h2 h3], fun j hj => by rw [g3 14 (by omega), e4 j hj, d2 14 (by decide), c2 14 (fun x hx => by omega), b2 14 (fun x hx => by omega), a2 14 (fun x hx => by omega)], by rw [g3 14 (by omega)]; exact e3, fun j hj => by rw [g3 103 (by omega), e2 103 (by decide), d4 j hj, c2 103 (fun x hx => by omega), b2 103 (fun x hx => by omega), a2 103 (fun x hx => by omega)], by rw [g3 103 (by omega), e2 103 (by decide)]; exact d3, g4, fun x hx4 => ⟨by rw [(g5 x hx4).1, fr _ (fun x hx => by omega) (by omega) (by omega)], by rw [(g5 x hx4).2.1, fr _ (fun x hx => by omega) (by omega) (by omega)], by rw [(g5 x hx4).2.2.1, fr _ (fun x hx => by omega) (by omega) (by omega)], (g5 x hx4).2.2.2.2⟩, fun x hxP => ?_⟩
  · have n0 : ¬ I 15 1 = 0 := fun z => by
      rw [hr.1] at z
      have := (nI_eq (a := n) (b := 0) (by have := hW.2.1; omega) (by omega)).mp z
      have := hW.1
      omega
    have g1' : f_Hall_startAnew_32 gF 0 E J = some ((), G, Jg) := g1
    obtain ⟨k3, hk⟩ : ∃ k, gF = k + 4 := ⟨gF - 4, by
      have := gF_lt (k := 10) (by omega)
      omega⟩
    have lp : f_Hall_startAnew_2 gF 0 I J = some ((), C, J) := by
      rw [hk]
      show (if 3 ≤ nI 0 then _ else oc (f_Hall_evenOut (nI 0) I J) _) = _
      rw [if_neg (by decide), a1]
      show (if 3 ≤ nI 1 then _ else oc (f_Hall_evenOut (nI 1) A J) _) = _
      rw [if_neg (by decide), b1]
      show (if 3 ≤ nI 2 then _ else oc (f_Hall_evenOut (nI 2) B J) _) = _
      rw [if_neg (by decide), c1]
      show (if 3 ≤ nI 3 then _ else _) = _
      rw [if_pos (by decide)]
    unfold f_Sh_begin f_Hall_startAnew f_Errors_wipe
    rw [if_pos n0, oc_oc, lp, oc_some, d1, pl_eq, oc_oc, oc_some, e1, pl_eq, oc_oc, g1', oc_some, oc_some]
  · rw [(g5 x (by omega)).2.2.2.1, e2 _ (by omega), d2 _ (by omega), c3 x (by omega) 0, c3 x (by omega) 1, c3 x (by omega) 2, if_neg (fun z => absurd z.2 (by decide)), if_neg (fun z => absurd z.2 (by decide)), if_pos ⟨hxP, rfl⟩, b3 x (by omega) 0, b3 x (by omega) 1, if_neg (fun z => absurd z.2 (by decide)), if_pos ⟨hxP, rfl⟩, a3 x (by omega) 0, if_pos ⟨hxP, rfl⟩]
    exact ⟨rfl, rfl, rfl⟩
end BEG
