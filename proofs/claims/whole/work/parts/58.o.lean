/-! the run: what a receive concludes, in the class -/
section OPS
variable {cd va sk kp e : Nat → Nat} {n P w h nk pos bt inp : Nat} {st : Nat → Bool} {hg : Nat → Nat} {I : MI} {J : MJ}
/-- how many numbers -/
def nus (c : Nat) : Nat := if c = 7 then 2 else if c = 25 ∨ c = 26 then 32 else 1
theorem NUO {c : Nat} (hc : c ≤ 29) {α : Type} {F : Int32 → MI → MJ → Option α} : oc (f_Hall_numbersOf (nI c) I J) F = F (nI (nus c)) I J := by
  unfold f_Hall_numbersOf nus
  by_cases x : c = 7
  · rw [if_pos (show nI c = 7 by rw [x]; rfl), if_pos x, oc_some]
    rfl
  · rw [if_neg (show ¬ nI c = 7 from fun y => x ((nI_eq (b := 7) (by omega) (by omega)).mp y)), if_neg x]
    by_cases y : c = 25 ∨ c = 26
    · rw [if_pos (show nI c = 25 ∨ nI c = 26 by
        rcases y with y | y
        · exact Or.inl (by rw [y]; rfl)
        · exact Or.inr (by rw [y]; rfl)), if_pos y, oc_some]
      rfl
    · rw [if_neg (show ¬ (nI c = 25 ∨ nI c = 26) from fun z => by
        rcases z with z | z
        · exact y (Or.inl ((nI_eq (b := 25) (by omega) (by omega)).mp z))
        · exact y (Or.inr ((nI_eq (b := 26) (by omega) (by omega)).mp z))), if_neg y, oc_some]
      rfl
def FI (w : Nat) (I I1 : MI) (J J1 : MJ) : Prop := (∀ a, a ≠ 19 + 21 * w → a ≠ 24 + 21 * w → a ≠ 37 + 21 * w → I1 a = I a) ∧ (∀ a, a ≠ 20 + 21 * w → a ≠ 21 + 21 * w → a ≠ 22 + 21 * w → a ≠ 23 + 21 * w → J1 a = J a)
theorem FM.fi {I1 : MI} {J1 : MJ} (h : FM w I I1 J J1) : FI w I I1 J J1 := ⟨fun a a1 a2 _ => h.1 a a1 a2, h.2⟩
theorem CNC [Decidable (shd cd pos)] (hW : WFc cd n P st hg) (hw : w < 4) (hP : P ≤ 4) (hs : st pos = true) (hh : hg pos = h) (hv : CV I J w h sk va nk kp) (hr : rowC I 15 16 n cd) (hp : I (18 + 21 * w) 8 = nI pos) (hop : shd cd pos) (he : ∀ k, k < nus (cd pos) → e k < pP ∧ J 111 k = lN (e k)) (h6 : I 14 6 = nI P) (hin : cd pos = 13 → ∃ ia, ia < 100 ∧ I (37 + 21 * w) (cd (pos + 2)) = nI ia ∧ inp < pP ∧ J (30 + 21 * cd (pos + 2)) ia = lN inp) : ∃ I1 J1, (∀ {α : Type} {F : Unit → MI → MJ → Option α}, oc (f_Hall_conclude w (nI (cd pos)) I J) F = F () I1 J1) ∧ CV I1 J1 w (lop cd e inp bt pos h sk va nk kp).2.1 (lop cd e inp bt pos h sk va nk kp).2.2.1 (lop cd e inp bt pos h sk va nk kp).2.2.2.1 (lop cd e inp bt pos h sk va nk kp).2.2.2.2.1 (lop cd e inp bt pos h sk va nk kp).2.2.2.2.2 ∧ (lop cd e inp bt pos h sk va nk kp).1 = pos + opl (cd pos) ∧ FI w I I1 J J1 ∧ (cd pos ≠ 13 → I1 (37 + 21 * w) = I (37 + 21 * w)) ∧ (cd pos = 13 → ∀ j, I1 (37 + 21 * w) j = if j = cd (pos + 2) then I (37 + 21 * w) j + 1 else I (37 + 21 * w) j) := by
  obtain ⟨z1, z2, z3, z4, z5⟩ := WF_h hW hs
  have hn := hW.2.1
  obtain ⟨wa1, wa2, wa3, wa4, wa5, wa6⟩ := WF_a hW hs
  rw [hh] at z4 z5
  have m37 : ∀ {I1 : MI} {J1 : MJ}, FM w I I1 J J1 → I1 (37 + 21 * w) = I (37 + 21 * w) := fun f => f.1 _ (by omega) (by omega)
  have c0 : Int32.toNatClampNeg 0 = 0 := by decide
  have c1' : Int32.toNatClampNeg 1 = 1 := by decide
  have y0 : ¬ ((0 : Int32) < 0 ∨ 32 ≤ 0) := by decide
  have y1 : ¬ ((1 : Int32) < 0 ∨ 32 ≤ 1) := by decide
  have a1' : nI pos + 1 = nI (pos + 1) := nI_1 pos
  have a2' : nI pos + 2 = nI (pos + 2) := nI_add pos 2
  -- the bytes behind
  have rb : ∀ k, k ≤ 2 → ∃ v, ∀ {α : Type} {F : Int32 → MI → MJ → Option α}, oc (f_Row_at 15 16 2000 (nI (pos + k)) I J) F = F v I J := fun k hk => ⟨_, fun {α F} => by rw [w_at hr.1 hn (by decide) (by omega), oc_some]⟩
  obtain ⟨b1, hb1⟩ := rb 1 (by omega)
  obtain ⟨b2, hb2⟩ := rb 2 (by omega)
  have in111 : ∀ {J2 : MJ} {I2 : MI} {k : Nat}, FM w I I2 J J2 → k < nus (cd pos) → J2 111 k = lN (e k) := fun f hk => by rw [f.2 111 (by omega) (by omega) (by omega) (by omega)]; exact (he _ hk).2
  have big : cd pos = 7 ∨ cd pos = 10 ∨ cd pos = 13 ∨ cd pos = 14 ∨ cd pos = 25 ∨ cd pos = 26 := by
    rcases hop with x | x | x | x | x
    · exact Or.inl x
    · exact Or.inr (Or.inl x)
    · exact Or.inr (Or.inr (Or.inl x))
    · exact Or.inr (Or.inr (Or.inr (Or.inl x)))
    · rcases x with x | x
      · exact Or.inr (Or.inr (Or.inr (Or.inr (Or.inl x.1))))
      · exact Or.inr (Or.inr (Or.inr (Or.inr (Or.inr x.1))))
  rcases big with e1 | e1 | e1 | e1 | e1 | e1
  · -- 7
    have z3 : pos + 1 ≤ n := by rw [e1] at z3; exact z3
    have z4 : 2 ≤ h := by rw [e1] at z4; exact z4
    have z5 : h - 2 + 1 ≤ 64 := by rw [e1] at z5; exact z5
    have hL : lop cd e inp bt pos h sk va nk kp = (pos + 1, h - 1, apn sk (h - 2) (pM (pA (sk (h - 2)) (e 0)) (pA (sk (h - 1)) (e 1))), va, nk, kp) := by unfold lop; rw [e1]; rfl
    have hnu : nus (cd pos) = 2 := by rw [e1]; rfl
    have hol : opl (cd pos) = 1 := by rw [e1]; rfl
    rw [hL, hol]
    have n13 : cd pos ≠ 13 := by omega
    obtain ⟨I2, a1, a2, a3⟩ := POP hv (by omega)
    obtain ⟨I3, d1, d2, d3⟩ := POP a2 (by omega)
    obtain ⟨I4, J4, c1, c2, c3⟩ := PSH d2 (v := pM (pA (sk (h - 2)) (e 0)) (pA (sk (h - 1)) (e 1))) (by omega) (pM_lt _ _)
    rw [show h - 1 - 1 = h - 2 by omega] at d1 c2
    rw [show h - 2 + 1 = h - 1 by omega] at c2
    refine ⟨I4, J4, ?_, c2, rfl, (a3.tr (d3.tr c3)).fi, fun _ => m37 (a3.tr (d3.tr c3)), fun x => absurd x n13⟩
    intro α F
    unfold f_Hall_conclude; rw [hp, a1', oc_oc, hb1, hp, a2', oc_oc, hb2, e1, if_pos (by decide), oc_oc, a1, c1', if_neg y1, (he 1 (by omega)).2, oc_oc, o_qA (CV_sk hv (by omega)) (he 1 (by omega)).1, oc_oc, d1, c0, if_neg y0, (he 0 (by omega)).2, oc_oc, o_qA (CV_sk hv (by omega)) (he 0 (by omega)).1, oc_oc, o_qM (pA_lt _ _) (pA_lt _ _), oc_oc, c1]
    rfl
  · -- 10
    have z3 : pos + 1 ≤ n := by rw [e1] at z3; exact z3
    have z4 : 1 ≤ h := by rw [e1] at z4; exact z4
    have z5 : h - 1 + 1 ≤ 64 := by rw [e1] at z5; exact z5
    have hL : lop cd e inp bt pos h sk va nk kp = (pos + 1, h, apn sk (h - 1) (pM (pA (sk (h - 1)) (e 0)) (pA (sk (h - 1)) (e 0))), va, nk, kp) := by unfold lop; rw [e1]; rfl
    have hnu : nus (cd pos) = 1 := by rw [e1]; rfl
    have hol : opl (cd pos) = 1 := by rw [e1]; rfl
    rw [hL, hol]
    have n13 : cd pos ≠ 13 := by omega
    obtain ⟨I2, a1, a2, a3⟩ := POP hv (by omega)
    obtain ⟨I4, J4, c1, c2, c3⟩ := PSH a2 (v := pM (pA (sk (h - 1)) (e 0)) (pA (sk (h - 1)) (e 0))) (by omega) (pM_lt _ _)
    rw [show h - 1 + 1 = h by omega] at c2
    refine ⟨I4, J4, ?_, c2, rfl, (a3.tr c3).fi, fun _ => m37 (a3.tr c3), fun x => absurd x n13⟩
    intro α F
    unfold f_Hall_conclude; rw [hp, a1', oc_oc, hb1, hp, a2', oc_oc, hb2, e1, if_neg (by decide), if_pos (by decide), oc_oc, a1, c0, if_neg y0, (he 0 (by omega)).2, oc_oc, o_qA (CV_sk hv (by omega)) (he 0 (by omega)).1, oc_oc, o_qM (pA_lt _ _) (pA_lt _ _), oc_oc, c1]
    rfl
  · -- 13
    have z3 : pos + 3 ≤ n := by rw [e1] at z3; exact z3
    have z4 : 0 ≤ h := by rw [e1] at z4; exact z4
    have z5 : h - 0 + 0 ≤ 64 := by rw [e1] at z5; exact z5
    have hL : lop cd e inp bt pos h sk va nk kp = (pos + 3, h, sk, apn va (13 + cd (pos + 1)) (pA inp (e 0)), nk, kp) := by unfold lop; rw [e1]; rfl
    have hnu : nus (cd pos) = 1 := by rw [e1]; rfl
    have hol : opl (cd pos) = 3 := by rw [e1]; rfl
    rw [hL, hol]
    have hb1' : b1 = nI (cd (pos + 1)) := by
      have x := hb1 (F := fun v _ _ => some v)
      rw [w_in hr hn (by omega)] at x
      exact (Option.some.inj x).symm
    have hb2' : b2 = nI (cd (pos + 2)) := by
      have x := hb2 (F := fun v _ _ => some v)
      rw [w_in hr hn (by omega)] at x
      exact (Option.some.inj x).symm
    obtain ⟨wp, wq⟩ := wa2 e1
    obtain ⟨ia, i1, i2, i3, i4⟩ := hin e1
    have hv2 : CV (va_up I (37 + 21 * w) (upd (I (37 + 21 * w)) (cd (pos + 2)) (nI (ia + 1)))) J w h sk va nk kp := CV_fr hv (va_up_ne _ _ (by omega)) (va_up_ne _ _ (by omega)) rfl rfl rfl rfl
    obtain ⟨J4, c1, c2, c3⟩ := WRS hv2 (k := cd (pos + 1)) (v := pA inp (e 0)) wp (pA_lt _ _)
    refine ⟨_, J4, ?_, c2, rfl, ⟨fun a a1 a2 a3 => va_up_ne _ _ a3, c3.2⟩, fun x => absurd e1 x, fun _ j => ?_⟩
    · intro α F
      have has : ∀ {α : Type} {F : Int32 → MI → MJ → Option α}, oc (f_Hall_has (nI (cd (pos + 2))) I J) F = F (nI 1) I J := fun {α F} => by
        unfold f_Hall_has
        rw [if_neg (fun x => nI_in (show cd (pos + 2) < 4 by omega) (by decide) (Or.inl x)), h6, if_neg (nI_ge wq (by omega)), if_neg (nI_ge (by omega) (by omega)), oc_some]
        rfl
      have zq : ¬ (nI (cd (pos + 2)) < 0 ∨ 4 ≤ cd (pos + 2)) := nin (by omega) (by decide)
      have nx : ∀ {α : Type} {F : Int64 → MI → MJ → Option α}, oc (f_Hall_nextInput w (nI (cd (pos + 2))) I J) F = F (lN inp) (va_up I (37 + 21 * w) (upd (I (37 + 21 * w)) (cd (pos + 2)) (nI (ia + 1)))) J := fun {α F} => by
        unfold f_Hall_nextInput
        rw [oc_oc, has, if_pos (show ¬ nI 1 = 0 by decide), nI_clamp (n := cd (pos + 2)) (by omega), if_neg zq, pl_eq, if_neg zq, if_neg zq, i2, nI_1, pl_eq, if_neg zq, oc_oc, rd_in i1 (by decide), oc_some, i4]
      unfold f_Hall_conclude; rw [hp, a1', oc_oc, hb1, hp, a2', oc_oc, hb2, e1, if_neg (by decide), if_neg (by decide), if_pos (by decide), hb2', oc_oc, nx, c0, if_neg y0, (he 0 (by omega)).2, oc_oc, o_qA i3 (he 0 (by omega)).1, hb1', oc_oc, c1]
      rfl
    · rw [va_up_self]
      by_cases x : j = cd (pos + 2)
      · rw [if_pos x, x, upd_s, i2, nI_1]
      · rw [if_neg x, upd_n _ _ x]
  · -- 14
    have z3 : pos + 3 ≤ n := by rw [e1] at z3; exact z3
    have z4 : 0 ≤ h := by rw [e1] at z4; exact z4
    have z5 : h - 0 + 0 ≤ 64 := by rw [e1] at z5; exact z5
    have hL : lop cd e inp bt pos h sk va nk kp = (pos + 3, h, sk, apn va (cd (pos + 1)) (pA (va (13 + cd (pos + 2))) (e 0)), nk, kp) := by unfold lop; rw [e1]; rfl
    have hnu : nus (cd pos) = 1 := by rw [e1]; rfl
    have hol : opl (cd pos) = 3 := by rw [e1]; rfl
    rw [hL, hol]
    have n13 : cd pos ≠ 13 := by omega
    have hb1' : b1 = nI (cd (pos + 1)) := by
      have x := hb1 (F := fun v _ _ => some v)
      rw [w_in hr hn (by omega)] at x
      exact (Option.some.inj x).symm
    have hb2' : b2 = nI (cd (pos + 2)) := by
      have x := hb2 (F := fun v _ _ => some v)
      rw [w_in hr hn (by omega)] at x
      exact (Option.some.inj x).symm
    obtain ⟨wp, wq⟩ := wa3 e1
    obtain ⟨J4, c1, c2, c3⟩ := WRC hv (k := cd (pos + 1)) (v := pA (va (13 + cd (pos + 2))) (e 0)) wp (pA_lt _ _)
    refine ⟨I, J4, ?_, c2, rfl, c3.fi, fun _ => rfl, fun x => absurd x n13⟩
    intro α F
    unfold f_Hall_conclude; rw [hp, a1', oc_oc, hb1, hp, a2', oc_oc, hb2, e1, if_neg (by decide), if_neg (by decide), if_neg (by decide), if_pos (by decide), hb2', oc_oc, RDS hv wq, c0, if_neg y0, (he 0 (by omega)).2, oc_oc, o_qA (CV_va hv (by omega)) (he 0 (by omega)).1, hb1', oc_oc, c1]
    rfl
  · -- 25
    have z3 : pos + 4 ≤ n := by rw [e1] at z3; exact z3
    have z4 : 0 ≤ h := by rw [e1] at z4; exact z4
    have z5 : h - 0 + 0 ≤ 64 := by rw [e1] at z5; exact z5
    have hL : lop cd e inp bt pos h sk va nk kp = (pos + 4, h, sk, ajv (aop 25) (fun i => e (2 * i)) (fun i => e (2 * i + 1)) (cd (pos + 1)) (cd (pos + 2)) (cd (pos + 3)) 16 0 va, nk, kp) := by unfold lop; rw [e1]; rfl
    have hnu : nus (cd pos) = 32 := by rw [e1]; rfl
    have hol : opl (cd pos) = 4 := by rw [e1]; rfl
    rw [hL, hol]
    have n13 : cd pos ≠ 13 := by omega
    have hb1' : b1 = nI (cd (pos + 1)) := by
      have x := hb1 (F := fun v _ _ => some v)
      rw [w_in hr hn (by omega)] at x
      exact (Option.some.inj x).symm
    have hb2' : b2 = nI (cd (pos + 2)) := by
      have x := hb2 (F := fun v _ _ => some v)
      rw [w_in hr hn (by omega)] at x
      exact (Option.some.inj x).symm
    obtain ⟨wp, wq, wr⟩ := wa5 (by omega)
    obtain ⟨J4, c1, c2, c3⟩ := JAV (e := e) (p3 := nI 25) (sh := nI 1) (c := 25) (a := pos + 2) hn (by decide) (by decide) wp wq wr (by omega) rfl rfl (by omega) rfl 16 gF 0 0 va J (by omega) (by decide) hv hr hp (Or.inr ⟨rfl, fun k hk => he k (by omega)⟩)
    have c1'' : f_Hall_joinArrays_26 w (nI 25) gF (nI 25) (nI (pos + 2)) (nI 1) 0 0 I J = some (0, I, J4) := c1
    have sr := fun {α : Type} {F : Int32 → MI → MJ → Option α} => SHR (F := F) (J := J) hn hr hp z2 (by rw [e1]; exact z3)
    rw [if_pos hop, e1] at sr
    refine ⟨I, J4, ?_, c2, rfl, c3.fi, fun _ => rfl, fun x => absurd x n13⟩
    intro α F
    unfold f_Hall_conclude; rw [hp, a1', oc_oc, hb1, hp, a2', oc_oc, hb2, e1, if_neg (by decide), if_neg (by decide), if_neg (by decide), if_neg (by decide)]
    unfold f_Hall_joinArrays f_Hall_firstArrayAt
    rw [hp, a2', if_pos (show ¬ nI 25 = 26 by decide), oc_some, oc_oc, oc_oc, sr, oc_oc, c1'', oc_some, if_pos (show ¬ nI 25 = 26 by decide), oc_some, oc_some]
  · -- 26
    have z3 : pos + 3 ≤ n := by rw [e1] at z3; exact z3
    have z4 : 0 ≤ h := by rw [e1] at z4; exact z4
    have z5 : h - 0 + 1 ≤ 64 := by rw [e1] at z5; exact z5
    have hL : lop cd e inp bt pos h sk va nk kp = (pos + 3, h + 1, apn sk h (ajs (fun i => e (2 * i)) (fun i => e (2 * i + 1)) (cd (pos + 1)) (cd (pos + 2)) va 16 0 0), va, nk, kp) := by unfold lop; rw [e1]; rfl
    have hnu : nus (cd pos) = 32 := by rw [e1]; rfl
    have hol : opl (cd pos) = 3 := by rw [e1]; rfl
    rw [hL, hol]
    have n13 : cd pos ≠ 13 := by omega
    have hb1' : b1 = nI (cd (pos + 1)) := by
      have x := hb1 (F := fun v _ _ => some v)
      rw [w_in hr hn (by omega)] at x
      exact (Option.some.inj x).symm
    have hb2' : b2 = nI (cd (pos + 2)) := by
      have x := hb2 (F := fun v _ _ => some v)
      rw [w_in hr hn (by omega)] at x
      exact (Option.some.inj x).symm
    obtain ⟨wp, wq⟩ := wa6 (by omega)
    obtain ⟨s1, s2⟩ := JAS (e := e) (p3 := nI 26) (sh := nI 1) (a := pos + 1) hn wp wq (by omega) rfl rfl hv hr (Or.inr ⟨rfl, fun k hk => he k (by omega)⟩) 16 gF 0 0 (by omega) (by decide) pP_pos
    have s1' : f_Hall_joinArrays_26 w (nI 26) gF (nI 26) (nI (pos + 1)) (nI 1) 0 0 I J = some (lN (ajs (fun i => e (2 * i)) (fun i => e (2 * i + 1)) (cd (pos + 1)) (cd (pos + 1 + 1)) va 16 0 0), I, J) := s1
    obtain ⟨I4, J4, c1, c2, c3⟩ := PSH hv (v := ajs (fun i => e (2 * i)) (fun i => e (2 * i + 1)) (cd (pos + 1)) (cd (pos + 1 + 1)) va 16 0 0) (by omega) s2
    have sr := fun {α : Type} {F : Int32 → MI → MJ → Option α} => SHR (F := F) (J := J) hn hr hp z2 (by rw [e1]; exact z3)
    rw [if_pos hop, e1] at sr
    refine ⟨I4, J4, ?_, c2, rfl, c3.fi, fun _ => m37 c3, fun x => absurd x n13⟩
    intro α F
    unfold f_Hall_conclude; rw [hp, a1', oc_oc, hb1, hp, a2', oc_oc, hb2, e1, if_neg (by decide), if_neg (by decide), if_neg (by decide), if_neg (by decide)]
    unfold f_Hall_joinArrays f_Hall_firstArrayAt
    rw [hp, a1', if_neg (show ¬ ¬ nI 26 = 26 from fun x => x rfl), oc_some, oc_oc, oc_oc, sr, oc_oc, s1', oc_some, if_neg (show ¬ ¬ nI 26 = 26 from fun x => x rfl), oc_oc, c1]
    rfl
end OPS
