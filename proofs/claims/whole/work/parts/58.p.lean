/-! the run: operations with a send and a receive, in the class -/
def sdf (cd : Nat → Nat) (pos : Nat) : Nat → Bool := fun j => if cd pos = 13 then decide (j = cd (pos + 2)) else true
def frm (cd : Nat → Nat) (pos : Nat) : Int32 := if cd pos = 13 then nI (cd (pos + 2)) else m1
theorem frm_HF {cd : Nat → Nat} {pos : Nat} (h : cd pos = 13 → cd (pos + 2) < 4) : HF (frm cd pos) (sdf cd pos) := by
  unfold frm sdf
  by_cases x : cd pos = 13
  · rw [if_pos x]
    refine Or.inr ⟨cd (pos + 2), h x, rfl, fun j _ => ?_⟩
    show (if cd pos = 13 then decide (j = cd (pos + 2)) else true) = true ↔ j = cd (pos + 2)
    rw [if_pos x]
    exact decide_eq_true_iff
  · rw [if_neg x]
    refine Or.inl ⟨rfl, fun j _ => ?_⟩
    show (if cd pos = 13 then decide (j = cd (pos + 2)) else true) = true
    rw [if_neg x]
/-- what a receive leaves -/
def FE (w : Nat) (I I1 : MI) (J J1 : MJ) : Prop := (∀ a, a < 18 + 21 * w ∨ 38 + 21 * w ≤ a → I1 a = I a) ∧ (∀ a, a ≠ 111 → a < 18 + 21 * w ∨ 38 + 21 * w ≤ a → J1 a = J a) ∧ (∀ j, j ≠ 8 → j ≠ 9 → j ≠ 10 → I1 (18 + 21 * w) j = I (18 + 21 * w) j) ∧ (∀ j, j ≠ 3 → j ≠ 4 → I1 (25 + 21 * w) j = I (25 + 21 * w) j) ∧ (∀ j, j ≠ 7 → I1 (32 + 21 * w) j = I (32 + 21 * w) j) ∧ I1 (28 + 21 * w) = I (28 + 21 * w) ∧ I1 (29 + 21 * w) = I (29 + 21 * w) ∧ I1 (31 + 21 * w) = I (31 + 21 * w) ∧ I1 (33 + 21 * w) = I (33 + 21 * w) ∧ I1 (34 + 21 * w) = I (34 + 21 * w) ∧ J1 (18 + 21 * w) = J (18 + 21 * w) ∧ J1 (30 + 21 * w) = J (30 + 21 * w)
section OPS
variable {cd va sk kp pl : Nat → Nat} {n P w h nk pos bt inp NT : Nat} {tp ts tk tb : Nat → Nat} {st : Nat → Bool} {hg : Nat → Nat} {I I' : MI} {J J' : MJ}
/-- the class receives what an operation needs -/
theorem EXRC [Decidable (shd cd pos)] {gt : Nat → Nat} {s : NS4} (hW : WFc cd n P st hg) (hw : w < 4) (hP : P ≤ 4) (hs : st pos = true) (hh : hg pos = h) (hv : CV I J w h sk va nk kp) (hr : rowC I 15 16 n cd) (hp : I (18 + 21 * w) 8 = nI pos) (hx : I (18 + 21 * w) 0 = nI w) (hop : shd cd pos) (hph : ¬ I (18 + 21 * w) 9 = 0) (h6 : I 14 6 = nI P) (hg : ∀ j, j < P → gt j < 2 ^ 31 ∧ I (35 + 21 * w) j = nI (gt j)) (hT : TAM I I' J J' P NT tp ts tk tb) (hpl : ∀ j, j < P → pl j < 2 ^ 31 ∧ I (36 + 21 * w) j = nI (pl j)) (hc : CK I J w s) (hcap : cd pos ≠ 13 → (nts (eE NT tp ts tk tb (sdf cd pos) pl) (nus (cd pos)) 0 s).1 ≤ 40 ∧ s.2.2.2 + nus (cd pos) < 2 ^ 30) (hin : cd pos = 13 → ∃ ia, ia < 100 ∧ I (37 + 21 * w) (cd (pos + 2)) = nI ia ∧ inp < pP ∧ J (30 + 21 * cd (pos + 2)) ia = lN inp) : (anyb (fun j => decide (j ≠ w) && (sdf cd pos j && decide (gt j = 0))) P 0 = true ∧ ∀ {α : Type} {F : Int32 → MI → MJ → Option α}, oc (f_Hall_exchange w (nI (cd pos)) I J) F = F (nI 0) I J) ∨ (anyb (fun j => decide (j ≠ w) && (sdf cd pos j && decide (gt j = 0))) P 0 = false ∧ ∃ I1 J1, (∀ {α : Type} {F : Int32 → MI → MJ → Option α}, oc (f_Hall_exchange w (nI (cd pos)) I J) F = F (nI 1) I1 J1) ∧ (∀ L S s', L = lop cd (eE NT tp ts tk tb (sdf cd pos) pl) inp bt pos h sk va nk kp → S = stl cd L.2.2.2.1 2000 L.1 L.2.1 L.2.2.1 → s' = (if cd pos = 13 then s else nts (eE NT tp ts tk tb (sdf cd pos) pl) (nus (cd pos)) 0 s) → CV I1 J1 w S.2.1 S.2.2 L.2.2.2.1 L.2.2.2.2.1 L.2.2.2.2.2 ∧ I1 (18 + 21 * w) 8 = nI S.1 ∧ I1 (18 + 21 * w) 9 = nI (fph cd S.1 w s'.2.2.2) ∧ I1 (18 + 21 * w) 10 = nI (if cd S.1 = 0 then 2 else 1) ∧ CK I1 J1 w s') ∧ (∀ j, j < P → I1 (36 + 21 * w) j = nI (if sdf cd pos j = true then pl j + 1 else pl j)) ∧ (∀ j, j < P → I1 (35 + 21 * w) j = nI (if j ≠ w ∧ sdf cd pos j = true then gt j - 1 else gt j)) ∧ I1 (32 + 21 * w) 7 = I (32 + 21 * w) 7 + 1 ∧ (cd pos ≠ 13 → I1 (37 + 21 * w) = I (37 + 21 * w)) ∧ (cd pos = 13 → ∀ j, I1 (37 + 21 * w) j = if j = cd (pos + 2) then I (37 + 21 * w) j + 1 else I (37 + 21 * w) j) ∧ FE w I I1 J J1) := by
  obtain ⟨z1, z2, z3, z4, z5⟩ := WF_h hW hs
  have hn := hW.2.1
  obtain ⟨wa1, wa2, wa3, wa4, wa5, wa6⟩ := WF_a hW hs
  have h4 : 4 ≤ cd pos := by
    rcases hop with x | x | x | x | x
    · omega
    · omega
    · omega
    · omega
    · rcases x with x | x <;> omega
  have n29 : cd pos ≠ 29 := by
    rcases hop with x | x | x | x | x
    · omega
    · omega
    · omega
    · omega
    · rcases x with x | x <;> omega
  have hf := frm_HF (cd := cd) (pos := pos) (fun x => by have := (wa2 x).2; omega)
  have hnu : nus (cd pos) ≤ 32 := by
    unfold nus
    by_cases x : cd pos = 7
    · rw [if_pos x]; omega
    · rw [if_neg x]
      by_cases y : cd pos = 25 ∨ cd pos = 26
      · rw [if_pos y]; omega
      · rw [if_neg y]; omega
  -- from whom
  have fr : ∀ {α : Type} {F : Int32 → MI → MJ → Option α}, oc ((if ¬ nI (cd pos) = 13 then (some ((-1), I, J)) else (oc (f_Row_at 15 16 2000 ((I (18 + 21 * w) 8) + 2) I J) (fun v5 I5 J5 => some (v5, I5, J5)))) : M2 (Int32)) F = F (frm cd pos) I J := by
    intro α F
    unfold frm
    by_cases x : cd pos = 13
    · rw [x, show opl 13 = 3 from rfl] at z3
      rw [if_neg (show ¬ ¬ nI (cd pos) = 13 from fun y => y (by rw [x]; rfl)), if_pos x, hp, show nI pos + 2 = nI (pos + 2) from nI_add pos 2, oc_oc, w_in hr hn (by omega), oc_some]
    · rw [if_pos (show ¬ nI (cd pos) = 13 from fun y => x ((nI_eq (b := 13) (by omega) (by omega)).mp y)), if_neg x, oc_some]
      rfl
  have ex : ∀ {α : Type} {F : Int32 → MI → MJ → Option α}, oc (f_Hall_exchange w (nI (cd pos)) I J) F = oc (oc (f_Hall_receives w (frm cd pos) I J) (fun v6 I6 J6 => if ¬ v6 = 0 then (oc (f_Hall_numbersOf (nI (cd pos)) I6 J6) (fun v8 I8 J8 => oc (f_Hall_gatherErrors w (frm cd pos) v8 I8 J8) (fun v9 I9 J9 => oc (f_Hall_conclude w (nI (cd pos)) I9 J9) (fun v10 I10 J10 => oc (f_Sh_lengthOf (nI (cd pos)) I10 J10) (fun v11 I11 J11 => oc (f_Hall_settle w ((I10 (18 + 21 * w) 8) + v11) I11 J11) (fun v12 I12 J12 => some (1, I12, J12))))))) else (some (0, I6, J6)))) F := by
    intro α F
    unfold f_Hall_exchange
    rw [if_pos hph, fr]
  rcases RCVC (J := J) hP hw hf h6 hx hg with ⟨b1, b2⟩ | ⟨b1, I2, b2, b3, b4, b5, b6⟩
  · refine Or.inl ⟨b1, fun {α F} => ?_⟩
    rw [ex, oc_oc, b2, if_neg (show ¬ ¬ nI 0 = 0 from fun x => x rfl), oc_some]
    rfl
  · refine Or.inr ⟨b1, ?_⟩
    have k2 : ∀ a, a ≠ 35 + 21 * w → a ≠ 32 + 21 * w → I2 a = I a := b3
    have hT2 : TAM I2 I' J J' P NT tp ts tk tb := TAM_fr hT (k2 _ (by omega) (by omega)) (k2 _ (by omega) (by omega)) (k2 _ (by omega) (by omega)) (k2 _ (by omega) (by omega)) rfl
    have hc2 : CK I2 J w s := by
      unfold CK
      rw [k2 _ (by omega) (by omega), k2 _ (by omega) (by omega)]
      exact hc
    have hal : (frm cd pos = m1 ∧ decide (cd pos ≠ 13) = true) ∨ (¬ frm cd pos = m1 ∧ decide (cd pos ≠ 13) = false) := by
      unfold frm
      by_cases x : cd pos = 13
      · rw [if_pos x]
        refine Or.inr ⟨fun y => ?_, decide_eq_false (fun y => y x)⟩
        have := (wa2 x).2
        rw [m1_en (by omega)] at y
        exact y
      · rw [if_neg x]
        exact Or.inl ⟨rfl, decide_eq_true x⟩
    obtain ⟨I3, J3, g1, g2, g3, g4, g5, g6, g7⟩ := GTH (s := s) hw hP hnu hf (decide (cd pos ≠ 13)) hal hT2 (by rw [k2 _ (by omega) (by omega)]; exact h6) (fun j hj => by rw [k2 _ (by omega) (by omega)]; exact hpl j hj) hc2 (fun x => hcap (of_decide_eq_true x))
    have k3 : ∀ a, a ≠ 35 + 21 * w → a ≠ 32 + 21 * w → a ≠ 25 + 21 * w → a ≠ 26 + 21 * w → a ≠ 36 + 21 * w → I3 a = I a := fun a a1 a2 a3 a4 a5 => (g5 a a3 a4 a5).trans (k2 a a1 a2)
    have hv3 : CV I3 J3 w h sk va nk kp := CV_fr hv (k3 _ (by omega) (by omega) (by omega) (by omega) (by omega)) (k3 _ (by omega) (by omega) (by omega) (by omega) (by omega)) (g7 _ (by omega) (by omega)) (g7 _ (by omega) (by omega)) (g7 _ (by omega) (by omega)) (g7 _ (by omega) (by omega))
    have hr3 : rowC I3 15 16 n cd := rowC_f2 hr (k3 _ (by omega) (by omega) (by omega) (by omega) (by omega)) (k3 _ (by omega) (by omega) (by omega) (by omega) (by omega))
    have w18 : I3 (18 + 21 * w) = I (18 + 21 * w) := k3 _ (by omega) (by omega) (by omega) (by omega) (by omega)
    obtain ⟨I4, J4, c1, c2, c3, c4, c5, c6⟩ := CNC (bt := bt) (inp := inp) (e := eE NT tp ts tk tb (sdf cd pos) pl) hW hw hP hs hh hv3 hr3 (by rw [w18]; exact hp) hop (fun k hk => ⟨eE_lt, g3 k hk⟩) (by rw [k3 _ (by omega) (by omega) (by omega) (by omega) (by omega)]; exact h6) (fun x => by
      obtain ⟨ia, i1, i2, i3, i4⟩ := hin x
      have := (wa2 x).2
      exact ⟨ia, i1, by rw [k3 _ (by omega) (by omega) (by omega) (by omega) (by omega)]; exact i2, i3, by rw [g7 _ (by omega) (by omega)]; exact i4⟩)
    obtain ⟨q1, q2⟩ := lop_st (e := eE NT tp ts tk tb (sdf cd pos) pl) (inp := inp) (bt := bt) (sk := sk) (va := va) (kp := kp) (nk := nk) hW hs hh h4 (fun x => absurd x n29)
    have k4 : ∀ a, a ≠ 19 + 21 * w → a ≠ 24 + 21 * w → a ≠ 37 + 21 * w → I4 a = I3 a := c4.1
    have hr4 : rowC I4 15 16 n cd := rowC_f2 hr3 (k4 _ (by omega) (by omega) (by omega)) (k4 _ (by omega) (by omega) (by omega))
    obtain ⟨s', hs'⟩ : ∃ s', s' = (if cd pos = 13 then s else nts (eE NT tp ts tk tb (sdf cd pos) pl) (nus (cd pos)) 0 s) := ⟨_, rfl⟩
    have hs2 : (if decide (cd pos ≠ 13) = true then nts (eE NT tp ts tk tb (sdf cd pos) pl) (nus (cd pos)) 0 s else s) = s' := by
      rw [hs']
      by_cases x : cd pos = 13
      · rw [if_pos x, if_neg (fun y => (of_decide_eq_true (p := cd pos ≠ 13) y) x)]
      · rw [if_neg x, if_pos (decide_eq_true x)]
    rw [hs2] at g2
    have w184 : I4 (18 + 21 * w) = I (18 + 21 * w) := (k4 _ (by omega) (by omega) (by omega)).trans w18
    have hck4 : CK I4 J4 w s' := by
      unfold CK
      rw [k4 _ (by omega) (by omega) (by omega), k4 _ (by omega) (by omega) (by omega), c4.2 _ (by omega) (by omega) (by omega) (by omega)]
      exact g2
    generalize hL : lop cd (eE NT tp ts tk tb (sdf cd pos) pl) inp bt pos h sk va nk kp = L at c2 c3 q1 q2
    obtain ⟨I1, J1, s1, s2, s3, s4, s5, s6⟩ := SETC (va := L.2.2.2.1) hW hw (show s'.2.2.2 < 2 ^ 31 by have := hck4.2.1.2; omega) q1 q2 c2 hr4 (by rw [w184]; exact hx) hck4.2.1.1
    have k1 : ∀ a, a ≠ 18 + 21 * w → a ≠ 19 + 21 * w → a ≠ 24 + 21 * w → I1 a = I4 a := s6.1
    have kk : ∀ a, a ≠ 18 + 21 * w → a ≠ 19 + 21 * w → a ≠ 24 + 21 * w → a ≠ 37 + 21 * w → a ≠ 35 + 21 * w → a ≠ 32 + 21 * w → a ≠ 25 + 21 * w → a ≠ 26 + 21 * w → a ≠ 36 + 21 * w → I1 a = I a := fun a a1 a2 a3 a4 a5 a6 a7 a8 a9 => (k1 a a1 a2 a3).trans ((k4 a a2 a3 a4).trans (k3 a a5 a6 a7 a8 a9))
    have jj : ∀ a, a ≠ 20 + 21 * w → a ≠ 21 + 21 * w → a ≠ 22 + 21 * w → a ≠ 23 + 21 * w → a ≠ 27 + 21 * w → a ≠ 111 → J1 a = J a := fun a a1 a2 a3 a4 a5 a6 => (s6.2.2 a a1 a2 a3 a4).trans ((c4.2 a a1 a2 a3 a4).trans (g7 a a6 a5))
    refine ⟨I1, J1, ?_, ?_, ?_, ?_, ?_, ?_, ?_, ?_⟩
    · intro α F
      have l4 : I4 (18 + 21 * w) 8 = nI pos := by rw [w184]; exact hp
      rw [ex, oc_oc, b2, if_pos (show ¬ nI 1 = 0 by decide), oc_oc, NUO z2, oc_oc, g1, oc_oc, c1, oc_oc, q_len _ (by omega), oc_some, l4, nI_add, ← c3, oc_oc, s1, oc_some]
      rfl
    · intro L' S s'' hL' hS hs''
      rw [hL'] at hS ⊢
      rw [← hs'] at hs''
      subst hs''
      subst hS
      refine ⟨s2, s3, s4, s5, ?_⟩
      unfold CK
      rw [k1 _ (by omega) (by omega) (by omega), k1 _ (by omega) (by omega) (by omega), s6.2.2 _ (by omega) (by omega) (by omega) (by omega)]
      exact hck4
    · intro j hj
      rw [k1 _ (by omega) (by omega) (by omega), k4 _ (by omega) (by omega) (by omega)]
      exact g4 j hj
    · intro j hj
      rw [k1 _ (by omega) (by omega) (by omega), k4 _ (by omega) (by omega) (by omega), g5 _ (by omega) (by omega) (by omega)]
      exact b6 j hj
    · rw [k1 _ (by omega) (by omega) (by omega), k4 _ (by omega) (by omega) (by omega), g5 _ (by omega) (by omega) (by omega)]
      exact b5
    · intro x
      rw [k1 _ (by omega) (by omega) (by omega), c5 x]
      exact k3 _ (by omega) (by omega) (by omega) (by omega) (by omega)
    · intro x j
      have e37 : I3 (37 + 21 * w) = I (37 + 21 * w) := k3 _ (by omega) (by omega) (by omega) (by omega) (by omega)
      rw [k1 _ (by omega) (by omega) (by omega), c6 x j, e37]
    · refine ⟨fun a ha => kk a (by omega) (by omega) (by omega) (by omega) (by omega) (by omega) (by omega) (by omega) (by omega), fun a a1 ha => jj a (by omega) (by omega) (by omega) (by omega) (by omega) a1, fun j j1 j2 j3 => by rw [s6.2.1 j j1 j2 j3, w184], fun j j1 j2 => ?_, fun j j1 => ?_, kk _ (by omega) (by omega) (by omega) (by omega) (by omega) (by omega) (by omega) (by omega) (by omega), kk _ (by omega) (by omega) (by omega) (by omega) (by omega) (by omega) (by omega) (by omega) (by omega), kk _ (by omega) (by omega) (by omega) (by omega) (by omega) (by omega) (by omega) (by omega) (by omega), kk _ (by omega) (by omega) (by omega) (by omega) (by omega) (by omega) (by omega) (by omega) (by omega), kk _ (by omega) (by omega) (by omega) (by omega) (by omega) (by omega) (by omega) (by omega) (by omega), jj _ (by omega) (by omega) (by omega) (by omega) (by omega) (by omega), jj _ (by omega) (by omega) (by omega) (by omega) (by omega) (by omega)⟩
      · rw [k1 _ (by omega) (by omega) (by omega), k4 _ (by omega) (by omega) (by omega), g6 j j1 j2, k2 _ (by omega) (by omega)]
      · rw [k1 _ (by omega) (by omega) (by omega), k4 _ (by omega) (by omega) (by omega), g5 _ (by omega) (by omega) (by omega)]
        exact b4 j j1
/-- what a send uses -/
theorem USE_ [Decidable (shd cd pos)] (hop : shd cd pos) (h29 : cd pos ≤ 29) : ∃ I1, (∀ {α : Type} {F : Unit → MI → MJ → Option α}, oc (f_Hall_use w (nI (cd pos)) I J) F = F () I1 J) ∧ (∀ a, a ≠ 31 + 21 * w → a ≠ 29 + 21 * w → I1 a = I a) ∧ (∀ j, I1 (31 + 21 * w) j = if j = 0 ∧ cd pos = 7 then I (31 + 21 * w) j + 1 else if j = 1 ∧ cd pos = 10 then I (31 + 21 * w) j + 1 else if j = 0 ∧ (cd pos = 25 ∨ cd pos = 26) then I (31 + 21 * w) j + 16 else I (31 + 21 * w) j) ∧ (∀ j, I1 (29 + 21 * w) j = if (j = 3 ∨ j = 5) ∧ cd pos = 13 then I (29 + 21 * w) j + 1 else I (29 + 21 * w) j) := by
  have c0 : Int32.toNatClampNeg 0 = 0 := by decide
  have c1' : Int32.toNatClampNeg 1 = 1 := by decide
  have y0 : ¬ ((0 : Int32) < 0 ∨ 3 ≤ 0) := by decide
  have y1 : ¬ ((1 : Int32) < 0 ∨ 3 ≤ 1) := by decide
  have big : cd pos = 7 ∨ cd pos = 10 ∨ cd pos = 13 ∨ cd pos = 14 ∨ cd pos = 25 ∨ cd pos = 26 := by
    rcases hop with x | x | x | x | x
    · exact Or.inl x
    · exact Or.inr (Or.inl x)
    · exact Or.inr (Or.inr (Or.inl x))
    · exact Or.inr (Or.inr (Or.inr (Or.inl x)))
    · rcases x with x | x
      · exact Or.inr (Or.inr (Or.inr (Or.inr (Or.inl x.1))))
      · exact Or.inr (Or.inr (Or.inr (Or.inr (Or.inr x.1))))
  unfold f_Hall_use
  rcases big with e1 | e1 | e1 | e1 | e1 | e1
  · refine ⟨va_up I (31 + 21 * w) (upd (I (31 + 21 * w)) 0 (I (31 + 21 * w) 0 + 1)), fun {α F} => ?_, fun a a1 a2 => va_up_ne _ _ a1, fun j => ?_, fun j => ?_⟩
    · rw [e1, if_pos (by decide), c0, if_neg y0, if_neg y0, pl_eq, oc_some]
    · rw [va_up_self]
      by_cases x : j = 0
      · subst x
        rw [upd_s, if_pos ⟨rfl, e1⟩]
      · rw [upd_n _ _ x, if_neg (fun y => x y.1), if_neg (fun y => by omega), if_neg (fun y => x y.1)]
    · rw [va_up_ne _ _ (by omega), if_neg (fun y => by omega)]
  · refine ⟨va_up I (31 + 21 * w) (upd (I (31 + 21 * w)) 1 (I (31 + 21 * w) 1 + 1)), fun {α F} => ?_, fun a a1 a2 => va_up_ne _ _ a1, fun j => ?_, fun j => ?_⟩
    · rw [e1, if_neg (by decide), if_pos (by decide), c1', if_neg y1, if_neg y1, pl_eq, oc_some]
    · rw [va_up_self]
      by_cases x : j = 1
      · subst x
        rw [upd_s, if_neg (fun y => by omega), if_pos ⟨rfl, e1⟩]
      · rw [upd_n _ _ x, if_neg (fun y => by omega), if_neg (fun y => x y.1), if_neg (fun y => by omega)]
    · rw [va_up_ne _ _ (by omega), if_neg (fun y => by omega)]
  · refine ⟨va_up I (29 + 21 * w) (upd (upd (I (29 + 21 * w)) 3 (I (29 + 21 * w) 3 + 1)) 5 (I (29 + 21 * w) 5 + 1)), fun {α F} => ?_, fun a a1 a2 => va_up_ne _ _ a2, fun j => ?_, fun j => ?_⟩
    · rw [e1, if_neg (by decide), if_neg (by decide), if_pos (by decide), pl_eq, pl_eq, oc_some, va_up_self, va_up_up, upd_n _ _ (show 5 ≠ 3 by decide)]
    · rw [va_up_ne _ _ (by omega), if_neg (fun y => by omega), if_neg (fun y => by omega), if_neg (fun y => by omega)]
    · rw [va_up_self]
      by_cases x : j = 5
      · subst x
        rw [upd_s, if_pos ⟨Or.inr rfl, e1⟩]
      · rw [upd_n _ _ x]
        by_cases y : j = 3
        · subst y
          rw [upd_s, if_pos ⟨Or.inl rfl, e1⟩]
        · rw [upd_n _ _ y, if_neg (fun z => by omega)]
  · refine ⟨I, fun {α F} => ?_, fun _ _ _ => rfl, fun j => ?_, fun j => ?_⟩
    · rw [e1, if_neg (by decide), if_neg (by decide), if_neg (by decide), if_neg (by decide), oc_some]
    · rw [if_neg (fun y => by omega), if_neg (fun y => by omega), if_neg (fun y => by omega)]
    · rw [if_neg (fun y => by omega)]
  · refine ⟨va_up I (31 + 21 * w) (upd (I (31 + 21 * w)) 0 (I (31 + 21 * w) 0 + 16)), fun {α F} => ?_, fun a a1 a2 => va_up_ne _ _ a1, fun j => ?_, fun j => ?_⟩
    · rw [e1, if_neg (by decide), if_neg (by decide), if_neg (by decide), if_pos (by decide), c0, if_neg y0, if_neg y0, pl_eq, oc_some]
    · rw [va_up_self]
      by_cases x : j = 0
      · subst x
        rw [upd_s, if_neg (fun y => by omega), if_neg (fun y => by omega), if_pos ⟨rfl, Or.inl e1⟩]
      · rw [upd_n _ _ x, if_neg (fun y => x y.1), if_neg (fun y => by omega), if_neg (fun y => x y.1)]
    · rw [va_up_ne _ _ (by omega), if_neg (fun y => by omega)]
  · refine ⟨va_up I (31 + 21 * w) (upd (I (31 + 21 * w)) 0 (I (31 + 21 * w) 0 + 16)), fun {α F} => ?_, fun a a1 a2 => va_up_ne _ _ a1, fun j => ?_, fun j => ?_⟩
    · rw [e1, if_neg (by decide), if_neg (by decide), if_neg (by decide), if_pos (by decide), c0, if_neg y0, if_neg y0, pl_eq, oc_some]
    · rw [va_up_self]
      by_cases x : j = 0
      · subst x
        rw [upd_s, if_neg (fun y => by omega), if_neg (fun y => by omega), if_pos ⟨rfl, Or.inr e1⟩]
      · rw [upd_n _ _ x, if_neg (fun y => x y.1), if_neg (fun y => by omega), if_neg (fun y => x y.1)]
    · rw [va_up_ne _ _ (by omega), if_neg (fun y => by omega)]
/-- the class sends what an operation needs -/
theorem EXSC [Decidable (shd cd pos)] {wr : Nat → Nat} {B : Nat} (hw : w < 4) (hP : P ≤ 4) (hB : B ≤ 4) (hop : shd cd pos) (h29 : cd pos ≤ 29) (hph : I (18 + 21 * w) 9 = nI 0) (hx : I (18 + 21 * w) 0 = nI w) (h6 : I 14 6 = nI P) (h8 : I 14 8 = nI B) (hwr : ∀ j, j < P → wr j < 2 ^ 31 ∧ I (33 + 21 * w) j = nI (wr j)) : (anyb (fun j => decide (B ≤ wr j)) P 0 = true ∧ ∀ {α : Type} {F : Int32 → MI → MJ → Option α}, oc (f_Hall_exchange w (nI (cd pos)) I J) F = F (nI 0) I J) ∨ (anyb (fun j => decide (B ≤ wr j)) P 0 = false ∧ ∃ I1, (∀ {α : Type} {F : Int32 → MI → MJ → Option α}, oc (f_Hall_exchange w (nI (cd pos)) I J) F = F (nI 1) I1 J) ∧ (∀ a, a ≠ 18 + 21 * w → a ≠ 29 + 21 * w → a ≠ 31 + 21 * w → a ≠ 32 + 21 * w → a ≠ 33 + 21 * w → I1 a = I a) ∧ (∀ j, j ≠ 9 → I1 (18 + 21 * w) j = I (18 + 21 * w) j) ∧ I1 (18 + 21 * w) 9 = nI 1 ∧ (∀ j, j ≠ 5 → j ≠ 6 → I1 (32 + 21 * w) j = I (32 + 21 * w) j) ∧ I1 (32 + 21 * w) 5 = I (32 + 21 * w) 5 + 1 ∧ I1 (32 + 21 * w) 6 = I (32 + 21 * w) 6 + 1 ∧ (∀ j, j < P → I1 (33 + 21 * w) j = nI (if j = w then wr j else wr j + 1)) ∧ (∀ j, I1 (31 + 21 * w) j = if j = 0 ∧ cd pos = 7 then I (31 + 21 * w) j + 1 else if j = 1 ∧ cd pos = 10 then I (31 + 21 * w) j + 1 else if j = 0 ∧ (cd pos = 25 ∨ cd pos = 26) then I (31 + 21 * w) j + 16 else I (31 + 21 * w) j) ∧ (∀ j, I1 (29 + 21 * w) j = if (j = 3 ∨ j = 5) ∧ cd pos = 13 then I (29 + 21 * w) j + 1 else I (29 + 21 * w) j)) := by
  have h0 : ¬ ¬ I (18 + 21 * w) 9 = 0 := fun x => x (by rw [hph]; rfl)
  rcases SNDC (J := J) hP hB hw h6 h8 hx hwr with ⟨b1, b2⟩ | ⟨b1, I2, b2, b3, b4, b5, b6⟩
  · refine Or.inl ⟨b1, fun {α F} => ?_⟩
    unfold f_Hall_exchange
    rw [if_neg h0, oc_oc, b2, if_neg (show ¬ ¬ nI 0 = 0 from fun x => x rfl), oc_some]
    rfl
  · obtain ⟨I3, u1, u2, u3, u4⟩ := USE_ (w := w) (I := va_up I2 (32 + 21 * w) (upd (I2 (32 + 21 * w)) 6 (I2 (32 + 21 * w) 6 + 1))) (J := J) hop h29
    have e29 : (va_up I2 (32 + 21 * w) (upd (I2 (32 + 21 * w)) 6 (I2 (32 + 21 * w) 6 + 1))) (29 + 21 * w) = I (29 + 21 * w) := by rw [va_up_ne _ _ (by omega), b3 _ (by omega) (by omega)]
    have e31 : (va_up I2 (32 + 21 * w) (upd (I2 (32 + 21 * w)) 6 (I2 (32 + 21 * w) 6 + 1))) (31 + 21 * w) = I (31 + 21 * w) := by rw [va_up_ne _ _ (by omega), b3 _ (by omega) (by omega)]
    have e32 : I3 (32 + 21 * w) = upd (I2 (32 + 21 * w)) 6 (I2 (32 + 21 * w) 6 + 1) := by rw [u2 _ (by omega) (by omega), va_up_self]
    have e18 : I3 (18 + 21 * w) = I (18 + 21 * w) := by rw [u2 _ (by omega) (by omega), va_up_ne _ _ (by omega), b3 _ (by omega) (by omega)]
    refine Or.inr ⟨b1, va_up I3 (18 + 21 * w) (upd (I3 (18 + 21 * w)) 9 1), fun {α F} => ?_, fun a a1 a2 a3 a4 a5 => ?_, fun j j1 => ?_, ?_, fun j j1 j2 => ?_, ?_, ?_, fun j hj => ?_, fun j => ?_, fun j => ?_⟩
    · unfold f_Hall_exchange
      rw [if_neg h0, oc_oc, b2, if_pos (show ¬ nI 1 = 0 by decide), pl_eq, oc_oc, u1, pl_eq, oc_some]
      rfl
    · rw [va_up_ne _ _ a1, u2 a a3 a2, va_up_ne _ _ a4, b3 a a5 a4]
    · rw [va_up_self, upd_n _ _ j1, e18]
    · rw [va_up_self, upd_s]
      rfl
    · rw [va_up_ne _ _ (by omega), e32, upd_n _ _ j2, b4 j j1]
    · rw [va_up_ne _ _ (by omega), e32, upd_n _ _ (by decide), b5]
    · rw [va_up_ne _ _ (by omega), e32, upd_s, b4 6 (by decide)]
    · rw [va_up_ne _ _ (by omega), u2 _ (by omega) (by omega), va_up_ne _ _ (by omega)]
      exact b6 j hj
    · rw [va_up_ne _ _ (by omega), u3 j, e31]
    · rw [va_up_ne _ _ (by omega), u4 j, e29]
end OPS
