/-! the run: a step without sending, in the class, whole -/
def FXX (w : Nat) (I I1 : MI) (J J1 : MJ) : Prop := (∀ a, a ≠ 18 + 21 * w → a ≠ 19 + 21 * w → a ≠ 24 + 21 * w → a ≠ 31 + 21 * w → a ≠ 109 → a ≠ 110 → I1 a = I a) ∧ (∀ j, j ≠ 8 → j ≠ 9 → j ≠ 10 → I1 (18 + 21 * w) j = I (18 + 21 * w) j) ∧ (∀ j, j ≠ 2 → I1 (31 + 21 * w) j = I (31 + 21 * w) j) ∧ (∀ a, a ≠ 20 + 21 * w → a ≠ 21 + 21 * w → a ≠ 22 + 21 * w → a ≠ 23 + 21 * w → J1 a = J a)
section OPS
variable {cd va sk kp e : Nat → Nat} {n P w h nk pos bt inp : Nat} {st : Nat → Bool} {hg : Nat → Nat} {I : MI} {J : MJ}
/-- an operation goes on at a start, and the pile is as high as it must be there -/
theorem lop_st (hW : WFc cd n P st hg) (hs : st pos = true) (hh : hg pos = h) (h4 : 4 ≤ cd pos) (hk : cd pos = 29 → st (kp (nk - 1)) = true ∧ hg (kp (nk - 1)) = 0) : st (lop cd e inp bt pos h sk va nk kp).1 = true ∧ hg (lop cd e inp bt pos h sk va nk kp).1 = (lop cd e inp bt pos h sk va nk kp).2.1 := by
  obtain ⟨a1, a2, a3, a4, a5, a6, a7, a8, a9⟩ := hW.2.2.2.2.2 pos hs
  rw [hh] at a5 a6 a7 a9
  have big : cd pos = 4 ∨ cd pos = 5 ∨ cd pos = 6 ∨ cd pos = 7 ∨ cd pos = 8 ∨ cd pos = 9 ∨ cd pos = 10 ∨ cd pos = 11 ∨ cd pos = 12 ∨ cd pos = 13 ∨ cd pos = 14 ∨ cd pos = 15 ∨ cd pos = 16 ∨ cd pos = 17 ∨ cd pos = 18 ∨ cd pos = 19 ∨ cd pos = 20 ∨ cd pos = 21 ∨ cd pos = 22 ∨ cd pos = 23 ∨ cd pos = 24 ∨ cd pos = 25 ∨ cd pos = 26 ∨ cd pos = 27 ∨ cd pos = 28 ∨ cd pos = 29 := by omega
  have nrm : ∀ {o k g : Nat}, cd pos = o → opl o = k → o ≠ 0 → o ≠ 18 → o ≠ 29 → h - nd o + gv o = g → st (pos + k) = true ∧ hg (pos + k) = g := by
    intro o k g e1 e2 e3 e4 e5 e6
    rw [e1] at a7
    obtain ⟨b1, b2⟩ := a7 e3 e4 e5
    rw [e2] at b1 b2
    exact ⟨b1, by rw [b2, e6]⟩
  have c0 : ctl (cd pos) → h = 0 := a9
  rcases big with e1 | e1 | e1 | e1 | e1 | e1 | e1 | e1 | e1 | e1 | e1 | e1 | e1 | e1 | e1 | e1 | e1 | e1 | e1 | e1 | e1 | e1 | e1 | e1 | e1 | e1
  · -- 4
    rw [e1] at a5
    have a5 : 2 ≤ h := a5
    have hL : (lop cd e inp bt pos h sk va nk kp).1 = pos + 1 ∧ (lop cd e inp bt pos h sk va nk kp).2.1 = h - 1 := by unfold lop; rw [e1]; exact ⟨rfl, rfl⟩
    rw [hL.1, hL.2]
    exact nrm (o := 4) e1 rfl (by decide) (by decide) (by decide) (by show h - 2 + 1 = h - 1; omega)
  · -- 5
    rw [e1] at a5
    have a5 : 2 ≤ h := a5
    have hL : (lop cd e inp bt pos h sk va nk kp).1 = pos + 1 ∧ (lop cd e inp bt pos h sk va nk kp).2.1 = h - 1 := by unfold lop; rw [e1]; exact ⟨rfl, rfl⟩
    rw [hL.1, hL.2]
    exact nrm (o := 5) e1 rfl (by decide) (by decide) (by decide) (by show h - 2 + 1 = h - 1; omega)
  · -- 6
    rw [e1] at a5
    have a5 : 2 ≤ h := a5
    have hL : (lop cd e inp bt pos h sk va nk kp).1 = pos + 1 ∧ (lop cd e inp bt pos h sk va nk kp).2.1 = h - 1 := by unfold lop; rw [e1]; exact ⟨rfl, rfl⟩
    rw [hL.1, hL.2]
    exact nrm (o := 6) e1 rfl (by decide) (by decide) (by decide) (by show h - 2 + 1 = h - 1; omega)
  · -- 7
    rw [e1] at a5
    have a5 : 2 ≤ h := a5
    have hL : (lop cd e inp bt pos h sk va nk kp).1 = pos + 1 ∧ (lop cd e inp bt pos h sk va nk kp).2.1 = h - 1 := by unfold lop; rw [e1]; exact ⟨rfl, rfl⟩
    rw [hL.1, hL.2]
    exact nrm (o := 7) e1 rfl (by decide) (by decide) (by decide) (by show h - 2 + 1 = h - 1; omega)
  · -- 8
    rw [e1] at a5
    have a5 : 1 ≤ h := a5
    have hL : (lop cd e inp bt pos h sk va nk kp).1 = pos + 1 ∧ (lop cd e inp bt pos h sk va nk kp).2.1 = h := by unfold lop; rw [e1]; exact ⟨rfl, rfl⟩
    rw [hL.1, hL.2]
    exact nrm (o := 8) e1 rfl (by decide) (by decide) (by decide) (by show h - 1 + 1 = h; omega)
  · -- 9
    rw [e1] at a5
    have a5 : 1 ≤ h := a5
    have hL : (lop cd e inp bt pos h sk va nk kp).1 = pos + 1 ∧ (lop cd e inp bt pos h sk va nk kp).2.1 = h := by unfold lop; rw [e1]; exact ⟨rfl, rfl⟩
    rw [hL.1, hL.2]
    exact nrm (o := 9) e1 rfl (by decide) (by decide) (by decide) (by show h - 1 + 1 = h; omega)
  · -- 10
    rw [e1] at a5
    have a5 : 1 ≤ h := a5
    have hL : (lop cd e inp bt pos h sk va nk kp).1 = pos + 1 ∧ (lop cd e inp bt pos h sk va nk kp).2.1 = h := by unfold lop; rw [e1]; exact ⟨rfl, rfl⟩
    rw [hL.1, hL.2]
    exact nrm (o := 10) e1 rfl (by decide) (by decide) (by decide) (by show h - 1 + 1 = h; omega)
  · -- 11
    rw [e1] at a5
    have a5 : 1 ≤ h := a5
    have hL : (lop cd e inp bt pos h sk va nk kp).1 = pos + 2 ∧ (lop cd e inp bt pos h sk va nk kp).2.1 = h - 1 := by unfold lop; rw [e1]; exact ⟨rfl, rfl⟩
    rw [hL.1, hL.2]
    exact nrm (o := 11) e1 rfl (by decide) (by decide) (by decide) (by show h - 1 + 0 = h - 1; omega)
  · -- 12
    rw [e1] at a5
    have a5 : 1 ≤ h := a5
    have hL : (lop cd e inp bt pos h sk va nk kp).1 = pos + 2 ∧ (lop cd e inp bt pos h sk va nk kp).2.1 = h - 1 := by unfold lop; rw [e1]; exact ⟨rfl, rfl⟩
    rw [hL.1, hL.2]
    exact nrm (o := 12) e1 rfl (by decide) (by decide) (by decide) (by show h - 1 + 0 = h - 1; omega)
  · -- 13
    rw [e1] at a5
    have a5 : 0 ≤ h := a5
    have hL : (lop cd e inp bt pos h sk va nk kp).1 = pos + 3 ∧ (lop cd e inp bt pos h sk va nk kp).2.1 = h := by unfold lop; rw [e1]; exact ⟨rfl, rfl⟩
    rw [hL.1, hL.2]
    exact nrm (o := 13) e1 rfl (by decide) (by decide) (by decide) (by show h - 0 + 0 = h; omega)
  · -- 14
    rw [e1] at a5
    have a5 : 0 ≤ h := a5
    have hL : (lop cd e inp bt pos h sk va nk kp).1 = pos + 3 ∧ (lop cd e inp bt pos h sk va nk kp).2.1 = h := by unfold lop; rw [e1]; exact ⟨rfl, rfl⟩
    rw [hL.1, hL.2]
    exact nrm (o := 14) e1 rfl (by decide) (by decide) (by decide) (by show h - 0 + 0 = h; omega)
  · -- 15
    rw [e1] at a5
    have a5 : 0 ≤ h := a5
    have hL : (lop cd e inp bt pos h sk va nk kp).1 = pos + 2 ∧ (lop cd e inp bt pos h sk va nk kp).2.1 = h := by unfold lop; rw [e1]; exact ⟨rfl, rfl⟩
    rw [hL.1, hL.2]
    exact nrm (o := 15) e1 rfl (by decide) (by decide) (by decide) (by show h - 0 + 0 = h; omega)
  · -- 16
    rw [e1] at a5
    have a5 : 0 ≤ h := a5
    have hL : (lop cd e inp bt pos h sk va nk kp).1 = pos + 2 ∧ (lop cd e inp bt pos h sk va nk kp).2.1 = h := by unfold lop; rw [e1]; exact ⟨rfl, rfl⟩
    rw [hL.1, hL.2]
    exact nrm (o := 16) e1 rfl (by decide) (by decide) (by decide) (by show h - 0 + 0 = h; omega)
  · -- 17
    rw [e1] at a5
    have a5 : 0 ≤ h := a5
    have h0 : h = 0 := c0 (by rw [e1]; decide)
    obtain ⟨b1, b2⟩ := nrm (o := 17) (k := 4) (g := h) e1 rfl (by decide) (by decide) (by decide) (by show h - 0 + 0 = h; omega)
    obtain ⟨b3, b4⟩ := a8 (Or.inl e1)
    have hL : lop cd e inp bt pos h sk va nk kp = (if va (cd (pos + 1)) = 0 then tgt cd pos else pos + 4, h, sk, va, nk, kp) := by unfold lop; rw [e1]; rfl
    rw [hL]
    simp only
    by_cases x : va (cd (pos + 1)) = 0
    · rw [if_pos x]; exact ⟨b3, by rw [b4, h0]⟩
    · rw [if_neg x]; exact ⟨b1, b2⟩
  · -- 18
    rw [e1] at a5
    have a5 : 0 ≤ h := a5
    have h0 : h = 0 := c0 (by rw [e1]; decide)
    obtain ⟨b3, b4⟩ := a8 (Or.inr (Or.inl e1))
    have hL : lop cd e inp bt pos h sk va nk kp = (tgt cd pos, h, sk, va, nk, kp) := by unfold lop; rw [e1]; rfl
    rw [hL]
    exact ⟨b3, by rw [h0]; exact b4⟩
  · -- 19
    rw [e1] at a5
    have a5 : 1 ≤ h := a5
    have hL : (lop cd e inp bt pos h sk va nk kp).1 = pos + 2 ∧ (lop cd e inp bt pos h sk va nk kp).2.1 = h := by unfold lop; rw [e1]; exact ⟨rfl, rfl⟩
    rw [hL.1, hL.2]
    exact nrm (o := 19) e1 rfl (by decide) (by decide) (by decide) (by show h - 1 + 1 = h; omega)
  · -- 20
    rw [e1] at a5
    have a5 : 1 ≤ h := a5
    have hL : (lop cd e inp bt pos h sk va nk kp).1 = pos + 2 ∧ (lop cd e inp bt pos h sk va nk kp).2.1 = h := by unfold lop; rw [e1]; exact ⟨rfl, rfl⟩
    rw [hL.1, hL.2]
    exact nrm (o := 20) e1 rfl (by decide) (by decide) (by decide) (by show h - 1 + 1 = h; omega)
  · -- 21
    rw [e1] at a5
    have a5 : 2 ≤ h := a5
    have hL : (lop cd e inp bt pos h sk va nk kp).1 = pos + 2 ∧ (lop cd e inp bt pos h sk va nk kp).2.1 = h - 2 := by unfold lop; rw [e1]; exact ⟨rfl, rfl⟩
    rw [hL.1, hL.2]
    exact nrm (o := 21) e1 rfl (by decide) (by decide) (by decide) (by show h - 2 + 0 = h - 2; omega)
  · -- 22
    rw [e1] at a5
    have a5 : 2 ≤ h := a5
    have hL : (lop cd e inp bt pos h sk va nk kp).1 = pos + 2 ∧ (lop cd e inp bt pos h sk va nk kp).2.1 = h - 2 := by unfold lop; rw [e1]; exact ⟨rfl, rfl⟩
    rw [hL.1, hL.2]
    exact nrm (o := 22) e1 rfl (by decide) (by decide) (by decide) (by show h - 2 + 0 = h - 2; omega)
  · -- 23
    rw [e1] at a5
    have a5 : 0 ≤ h := a5
    have hL : (lop cd e inp bt pos h sk va nk kp).1 = pos + 4 ∧ (lop cd e inp bt pos h sk va nk kp).2.1 = h := by unfold lop; rw [e1]; exact ⟨rfl, rfl⟩
    rw [hL.1, hL.2]
    exact nrm (o := 23) e1 rfl (by decide) (by decide) (by decide) (by show h - 0 + 0 = h; omega)
  · -- 24
    rw [e1] at a5
    have a5 : 0 ≤ h := a5
    have hL : (lop cd e inp bt pos h sk va nk kp).1 = pos + 4 ∧ (lop cd e inp bt pos h sk va nk kp).2.1 = h := by unfold lop; rw [e1]; exact ⟨rfl, rfl⟩
    rw [hL.1, hL.2]
    exact nrm (o := 24) e1 rfl (by decide) (by decide) (by decide) (by show h - 0 + 0 = h; omega)
  · -- 25
    rw [e1] at a5
    have a5 : 0 ≤ h := a5
    have hL : (lop cd e inp bt pos h sk va nk kp).1 = pos + 4 ∧ (lop cd e inp bt pos h sk va nk kp).2.1 = h := by unfold lop; rw [e1]; exact ⟨rfl, rfl⟩
    rw [hL.1, hL.2]
    exact nrm (o := 25) e1 rfl (by decide) (by decide) (by decide) (by show h - 0 + 0 = h; omega)
  · -- 26
    rw [e1] at a5
    have a5 : 0 ≤ h := a5
    have hL : (lop cd e inp bt pos h sk va nk kp).1 = pos + 3 ∧ (lop cd e inp bt pos h sk va nk kp).2.1 = h + 1 := by unfold lop; rw [e1]; exact ⟨rfl, rfl⟩
    rw [hL.1, hL.2]
    exact nrm (o := 26) e1 rfl (by decide) (by decide) (by decide) (by show h - 0 + 1 = h + 1; omega)
  · -- 27
    rw [e1] at a5
    have a5 : 0 ≤ h := a5
    have hL : (lop cd e inp bt pos h sk va nk kp).1 = pos + 2 ∧ (lop cd e inp bt pos h sk va nk kp).2.1 = h := by unfold lop; rw [e1]; exact ⟨rfl, rfl⟩
    rw [hL.1, hL.2]
    exact nrm (o := 27) e1 rfl (by decide) (by decide) (by decide) (by show h - 0 + 0 = h; omega)
  · -- 28
    rw [e1] at a5
    have a5 : 0 ≤ h := a5
    have h0 : h = 0 := c0 (by rw [e1]; decide)
    obtain ⟨b3, b4⟩ := a8 (Or.inr (Or.inr e1))
    have hL : lop cd e inp bt pos h sk va nk kp = (tgt cd pos, h, sk, va, nk + 1, apn kp nk (pos + 3)) := by unfold lop; rw [e1]; rfl
    rw [hL]
    exact ⟨b3, by rw [h0]; exact b4⟩
  · -- 29
    rw [e1] at a5
    have a5 : 0 ≤ h := a5
    have h0 : h = 0 := c0 (by rw [e1]; decide)
    obtain ⟨b3, b4⟩ := hk e1
    have hL : lop cd e inp bt pos h sk va nk kp = (kp (nk - 1), h, sk, va, nk - 1, kp) := by unfold lop; rw [e1]; rfl
    rw [hL]
    exact ⟨b3, by rw [h0]; exact b4⟩
/-- the class's step -/
theorem WRKC [Decidable (shd cd pos)] {o : Nat} (hW : WFc cd n P st hg) (hw : w < 4) (ho : o < 2 ^ 31) (hs : st pos = true) (hh : hg pos = h) (hv : CV I J w h sk va nk kp) (hr : rowC I 15 16 n cd) (hp : I (18 + 21 * w) 8 = nI pos) (hx : I (18 + 21 * w) 0 = nI w) (ho4 : I (25 + 21 * w) 4 = nI o) (hop : ¬ shd cd pos) (hop2 : 4 ≤ cd pos) (hop3 : cd pos ≠ 15) (hop4 : cd pos ≠ 16) (l1 : cd pos = 19 ∨ cd pos = 20 → sk (h - 1) < 16) (l2 : cd pos = 21 ∨ cd pos = 22 → sk (h - 2) < 16) (l3 : cd pos = 28 → nk < 16) (l4 : cd pos = 29 → 1 ≤ nk) (l5 : cd pos = 27 → ∃ b, b < 2 ^ 31 ∧ I (31 + 21 * w) 2 = nI b ∧ bt = dg_n (J 14 7 + 7000003) (lN b) % 2) (hk : cd pos = 29 → st (kp (nk - 1)) = true ∧ hg (kp (nk - 1)) = 0) : ∃ I1 J1, (∀ {α : Type} {F : Unit → MI → MJ → Option α}, oc (f_Hall_work w (nI (cd pos)) I J) F = F () I1 J1) ∧ (∀ L S, L = lop cd (fun _ => 0) 0 bt pos h sk va nk kp → S = stl cd L.2.2.2.1 2000 L.1 L.2.1 L.2.2.1 → CV I1 J1 w S.2.1 S.2.2 L.2.2.2.1 L.2.2.2.2.1 L.2.2.2.2.2 ∧ I1 (18 + 21 * w) 8 = nI S.1 ∧ I1 (18 + 21 * w) 9 = nI (fph cd S.1 w o) ∧ I1 (18 + 21 * w) 10 = nI (if cd S.1 = 0 then 2 else 1)) ∧ FXX w I I1 J J1 ∧ (cd pos ≠ 27 → I1 (31 + 21 * w) = I (31 + 21 * w)) ∧ (cd pos = 27 → I1 (31 + 21 * w) 2 = I (31 + 21 * w) 2 + 1) := by
  obtain ⟨z1, z2, z3, z4, z5⟩ := WF_h hW hs
  have hn := hW.2.1
  -- the byte behind
  have hv1 : ∃ v1, (∀ {α : Type} {F : Int32 → MI → MJ → Option α}, oc (f_Row_at 15 16 2000 (nI pos + 1) I J) F = F v1 I J) ∧ (2 ≤ opl (cd pos) → v1 = nI (cd (pos + 1))) := by
    rw [nI_1]
    by_cases x : pos + 1 < n
    · exact ⟨nI (cd (pos + 1)), fun {α F} => w_in hr hn x, fun _ => rfl⟩
    · exact ⟨m1, fun {α F} => by rw [w_at hr.1 hn (by decide) (by omega), oc_some, if_neg x], fun y => by omega⟩
  obtain ⟨v1, hv1, hv1'⟩ := hv1
  obtain ⟨I2, J2, m1', m2, m3, m4, m5⟩ := MID (bt := bt) hW hw hs hh hv hr hp hop hop2 hop3 hop4 hv1' l1 l2 l3 l4 l5
  obtain ⟨q1, q2⟩ := lop_st (e := fun _ => 0) (inp := 0) (bt := bt) (sk := sk) (va := va) (kp := kp) (nk := nk) hW hs hh hop2 hk
  generalize hL : lop cd (fun _ => 0) 0 bt pos h sk va nk kp = L at m1' m2 q1 q2
  have w18 : I2 (18 + 21 * w) = I (18 + 21 * w) := m3.1 _ (by omega) (by omega) (by omega) (by omega) (by omega)
  have hr2 : rowC I2 15 16 n cd := rowC_f2 hr (m3.1 15 (by omega) (by omega) (by omega) (by omega) (by omega)) (m3.1 16 (by omega) (by omega) (by omega) (by omega) (by omega))
  obtain ⟨I1, J1, s1, s2, s3, s4, s5, s6⟩ := SETC (va := L.2.2.2.1) hW hw ho q1 q2 m2 hr2 (by rw [w18]; exact hx) (by rw [m3.1 _ (by omega) (by omega) (by omega) (by omega) (by omega)]; exact ho4)
  have w31 : I1 (31 + 21 * w) = I2 (31 + 21 * w) := s6.1 _ (by omega) (by omega) (by omega)
  refine ⟨I1, J1, ?_, ?_, ⟨fun a a1 a2 a3 a4 a5 a6 => ?_, fun j j1 j2 j3 => ?_, fun j j1 => ?_, fun a a1 a2 a3 a4 => ?_⟩, fun x => by rw [w31]; exact m4 x, fun x => by rw [w31]; exact m5 x⟩
  · intro α F
    rw [work_eq, hp, oc_oc, hv1, oc_oc, q_len _ (by omega), oc_some, pl_eq, hp, nI_add, oc_oc, m1', oc_some, oc_oc, s1, oc_some]
  · intro L' S hL' hS
    subst hL'
    subst hS
    exact ⟨s2, s3, s4, s5⟩
  · rw [s6.1 a a1 a2 a3, m3.1 a a2 a3 a4 a5 a6]
  · rw [s6.2.1 j j1 j2 j3, w18]
  · rw [w31, m3.2.1 j j1]
  · rw [s6.2.2 a a1 a2 a3 a4, m3.2.2 a a1 a2 a3 a4]
end OPS
