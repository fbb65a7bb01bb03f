/-! the run: the class shows -/
section SHOW
variable {cd va sk kp ou pl : Nat → Nat} {n P w h nk pos no o sh sg B NT : Nat} {tp ts tk tb : Nat → Nat} {st : Nat → Bool} {hg : Nat → Nat} {X : MX} {I I' : MI} {J J' : MJ}
theorem SHP (hW : WFc cd n P st hg) (hw : w < 4) (hs : st pos = true) (hh : hg pos = h) (hv : CV I J w h sk va nk kp) (hr : rowC I 15 16 n cd) (hp : I (18 + 21 * w) 8 = nI pos) (hx : I (18 + 21 * w) 0 = nI w) (ho : o < 2 ^ 31) (ho4 : I (25 + 21 * w) 4 = nI o) (hop : cd pos = 15 ∨ (cd pos = 16 ∧ sg ≠ 8 ∧ sg ≠ 9 ∧ sg < 100)) (hph : I (18 + 21 * w) 9 = nI sg) (hsh : J (18 + 21 * w) 7 = lN sh) (hov : OV X J w no ou) (hno : no < 30000) (hX : 168 + X.2.2.1 + 1 < 1000000000) (h6 : I (18 + 21 * w) 6 = nI no) : ∃ X1 I1 J1, f_Hall_show w (nI (cd pos)) X I J = some (1, X1, I1, J1) ∧ (∀ S, S = stl cd va 2000 (pos + 2) h sk → CV I1 J1 w S.2.1 S.2.2 va nk kp ∧ I1 (18 + 21 * w) 8 = nI S.1 ∧ I1 (18 + 21 * w) 9 = nI (fph cd S.1 w o) ∧ I1 (18 + 21 * w) 10 = nI (if cd S.1 = 0 then 2 else 1)) ∧ OV X1 J1 w (no + 1) (apn ou no (if cd pos = 15 then va (cd (pos + 1)) else sh)) ∧ (X1 = X ∨ (X1 = xgrow X w ∧ no = xlen X w)) ∧ (∀ a, a ≠ 18 + 21 * w → a ≠ 19 + 21 * w → a ≠ 24 + 21 * w → I1 a = I a) ∧ (∀ j, j ≠ 6 → j ≠ 8 → j ≠ 9 → j ≠ 10 → I1 (18 + 21 * w) j = I (18 + 21 * w) j) ∧ I1 (18 + 21 * w) 6 = nI (no + 1) ∧ (∀ a, a ≠ X.1 w → a < 168 + X.2.2.1 → a ≠ 20 + 21 * w → a ≠ 21 + 21 * w → a ≠ 22 + 21 * w → a ≠ 23 + 21 * w → J1 a = J a) := by
  obtain ⟨z1, z2, z3, z4, z5⟩ := WF_h hW hs
  have hn := hW.2.1
  have wa1 := (WF_a hW hs).1 (by omega)
  have ol : opl (cd pos) = 2 := by
    rcases hop with e | e
    · rw [e]; rfl
    · rw [e.1]; rfl
  rw [ol] at z3
  have ls := lop_st (e := fun _ => 0) (inp := 0) (bt := 0) (sk := sk) (va := va) (nk := nk) (kp := kp) hW hs hh (by omega) (fun x => by omega)
  have hL : lop cd (fun _ => 0) 0 0 pos h sk va nk kp = (pos + 2, h, sk, va, nk, kp) := by
    rcases hop with e | e
    · unfold lop; rw [e]; rfl
    · unfold lop; rw [e.1]; rfl
  rw [hL] at ls
  obtain ⟨X2, I2, J2, p1, p2, p3, p4, p5, p6, p7⟩ := PUTC (v := if cd pos = 15 then va (cd (pos + 1)) else sh) hw hov hno hX h6
  have xw : X.1 w = 38 + 21 * w ∨ 168 ≤ X.1 w := hov.2.1
  have jk : ∀ a, a < 24 + 21 * w → J2 a = J a := fun a ha => p7 a (by omega) (by omega)
  have hv2 : CV I2 J2 w h sk va nk kp := CV_fr hv (p4 _ (by omega)) (p4 _ (by omega)) (jk _ (by omega)) (jk _ (by omega)) (jk _ (by omega)) (jk _ (by omega))
  obtain ⟨I3, J3, c1, c2, c3, c4, c5, c6⟩ := SETC (o := o) hW hw ho ls.1 ls.2 hv2 (rowC_f2 hr (p4 15 (by omega)) (p4 16 (by omega))) (by rw [p5 0 (by decide)]; exact hx) (by rw [p4 _ (by omega)]; exact ho4)
  have k8 : I2 (18 + 21 * w) 8 = nI pos := by rw [p5 8 (by decide)]; exact hp
  refine ⟨X2, I3, J3, ?_, fun S hS => by rw [hS]; exact ⟨c2, c3, c4, c5⟩, ?_, p3, fun a a1 a2 a3 => by rw [c6.1 a a1 a2 a3, p4 a a1], fun j j1 j2 j3 j4 => by rw [c6.2.1 j j2 j3 j4, p5 j j1], by rw [c6.2.1 6 (by decide) (by decide) (by decide)]; exact p6, fun a a1 a2 a3 a4 a5 a6 => by rw [c6.2.2 a a3 a4 a5 a6, p7 a a1 a2]⟩
  · unfold f_Hall_show
    rw [hp, show nI pos + 1 = nI (pos + 1) from nI_1 pos, w_in hr hn (by omega)]
    rcases hop with e | e
    · rw [if_pos e] at p1
      rw [if_neg (show ¬ ¬ nI (cd pos) = 15 from fun y => y (by rw [e]; rfl)), RDC hv (by omega), p1, q_len _ (by omega), oc_some, k8, ol, nI_add, c1]
    · rw [if_neg (show ¬ cd pos = 15 by omega)] at p1
      rw [if_pos (show ¬ nI (cd pos) = 15 from fun y => by have := (nI_eq (b := 15) (by omega) (by omega)).mp y; omega), hph, if_pos (show ¬ nI sg = 8 from fun y => e.2.1 ((nI_eq (b := 8) (by omega) (by omega)).mp y)), if_pos (show ¬ nI sg = 9 from fun y => e.2.2.1 ((nI_eq (b := 9) (by omega) (by omega)).mp y)), hsh, p1, q_len _ (by omega), oc_some, k8, ol, nI_add, c1]
  · obtain ⟨o1, o2, o3, o4, o5, o6⟩ := p2
    refine ⟨o1, o2, o3, o4, o5, fun i hi => ?_⟩
    rw [c6.2.2 _ (by omega) (by omega) (by omega) (by omega)]
    exact o6 i hi
theorem SHS {wr : Nat → Nat} (hP : P ≤ 4) (hB : B ≤ 4) (hw4 : w < 4) (hr : rowC I 15 16 n cd) (hn : n ≤ 2000) (hpn : pos + 1 < n) (hp : I (18 + 21 * w) 8 = nI pos) (h6 : I 14 6 = nI P) (h8 : I 14 8 = nI B) (hx : I (18 + 21 * w) 0 = nI w) (hw : ∀ j, j < P → wr j < 2 ^ 31 ∧ I (33 + 21 * w) j = nI (wr j)) (hph : I (18 + 21 * w) 9 = nI 8) : (anyb (fun j => decide (B ≤ wr j)) P 0 = true ∧ f_Hall_show w (nI 16) X I J = some (0, X, I, J)) ∨ (anyb (fun j => decide (B ≤ wr j)) P 0 = false ∧ ∃ I1, f_Hall_show w (nI 16) X I J = some (1, X, I1, J) ∧ (∀ a, a ≠ 33 + 21 * w → a ≠ 32 + 21 * w → a ≠ 18 + 21 * w → I1 a = I a) ∧ (∀ j, j ≠ 5 → j ≠ 6 → I1 (32 + 21 * w) j = I (32 + 21 * w) j) ∧ I1 (32 + 21 * w) 5 = I (32 + 21 * w) 5 + 1 ∧ I1 (32 + 21 * w) 6 = I (32 + 21 * w) 6 + 1 ∧ (∀ j, j < P → I1 (33 + 21 * w) j = nI (if j = w then wr j else wr j + 1)) ∧ (∀ j, j ≠ 9 → I1 (18 + 21 * w) j = I (18 + 21 * w) j) ∧ I1 (18 + 21 * w) 9 = nI 9) := by
  have hd : f_Hall_show w (nI 16) X I J = oc (oc (f_Hall_sends w I J) (fun v1 I1 J1 => if ¬ v1 = 0 then (pl (va_up I1 (32 + 21 * w) (upd (I1 (32 + 21 * w)) 6 ((I1 (32 + 21 * w) 6) + 1))) (fun I3 => pl (va_up I3 (18 + 21 * w) (upd (I3 (18 + 21 * w)) 9 9)) (fun I4 => some (1, I4, J1)))) else (some (0, I1, J1)))) (fun v9 I9 J9 => some (v9, X, I9, J9)) := by
    unfold f_Hall_show f_Hall_sendShown
    rw [hp, show nI pos + 1 = nI (pos + 1) from nI_1 pos, w_in hr hn hpn, if_pos (show ¬ nI 16 = 15 by decide), hph, if_neg (show ¬ ¬ nI 8 = 8 from fun y => y rfl)]
  rw [hd]
  rcases SNDC (J := J) hP hB hw4 h6 h8 hx hw with ⟨b1, b2⟩ | ⟨b1, I2, b2, b3, b4, b5, b6⟩
  · refine Or.inl ⟨b1, ?_⟩
    rw [oc_oc, b2, if_neg (show ¬ ¬ nI 0 = 0 from fun x => x rfl), oc_some]
  · refine Or.inr ⟨b1, ?_⟩
    obtain ⟨A0, q0, r0, s0, t0⟩ := UP1 I2 (32 + 21 * w) 6 (I2 (32 + 21 * w) 6 + 1)
    obtain ⟨A1, q1, r1, s1, t1⟩ := UP1 A0 (18 + 21 * w) 9 9
    refine ⟨A1, ?_, fun a a1 a2 a3 => by rw [r1 a a3, r0 a a2, b3 a a1 a2], fun j j1 j2 => by rw [r1 _ (by omega), t0 j j2, b4 j j1], by rw [r1 _ (by omega), t0 5 (by decide), b5], by rw [r1 _ (by omega), s0, b4 6 (by decide)], fun j hj => by rw [r1 _ (by omega), r0 _ (by omega), b6 j hj], fun j hj => by rw [t1 j hj, r0 _ (by omega), b3 _ (by omega) (by omega)], s1⟩
    rw [oc_oc, b2, if_pos (show ¬ nI 1 = 0 by decide), q0, pl_eq, q1, pl_eq, oc_some]
theorem SHRV {gt : Nat → Nat} {s : NS4} (hP : P ≤ 4) (hw : w < 4) (hr : rowC I 15 16 n cd) (hn : n ≤ 2000) (hpn : pos + 1 < n) (hk13 : cd (pos + 1) < 13) (hv : CV I J w h sk va nk kp) (hp : I (18 + 21 * w) 8 = nI pos) (h6 : I 14 6 = nI P) (hx : I (18 + 21 * w) 0 = nI w) (hg : ∀ j, j < P → gt j < 2 ^ 31 ∧ I (35 + 21 * w) j = nI (gt j)) (hT : TAM I I' J J' P NT tp ts tk tb) (hpl : ∀ j, j < P → pl j < 2 ^ 31 ∧ I (36 + 21 * w) j = nI (pl j)) (hc : CK I J w s) (hcap : (nts (eE NT tp ts tk tb (fun _ => true) pl) 1 0 s).1 ≤ 40 ∧ s.2.2.2 + 1 < 2 ^ 30) (hph : I (18 + 21 * w) 9 = nI 9) : (anyb (fun j => decide (j ≠ w) && (true && decide (gt j = 0))) P 0 = true ∧ f_Hall_show w (nI 16) X I J = some (0, X, I, J)) ∨ (anyb (fun j => decide (j ≠ w) && (true && decide (gt j = 0))) P 0 = false ∧ ∃ I1 J1, f_Hall_show w (nI 16) X I J = some (1, X, I1, J1) ∧ CK I1 J1 w (nts (eE NT tp ts tk tb (fun _ => true) pl) 1 0 s) ∧ J1 (18 + 21 * w) 7 = lN (pA (va (13 + cd (pos + 1))) (eE NT tp ts tk tb (fun _ => true) pl 0)) ∧ (∀ j, j ≠ 7 → J1 (18 + 21 * w) j = J (18 + 21 * w) j) ∧ (∀ j, j < P → I1 (36 + 21 * w) j = nI (pl j + 1)) ∧ (∀ j, j < P → I1 (35 + 21 * w) j = nI (if j ≠ w then gt j - 1 else gt j)) ∧ (∀ j, j ≠ 7 → I1 (32 + 21 * w) j = I (32 + 21 * w) j) ∧ I1 (32 + 21 * w) 7 = I (32 + 21 * w) 7 + 1 ∧ (∀ j, j ≠ 9 → I1 (18 + 21 * w) j = I (18 + 21 * w) j) ∧ I1 (18 + 21 * w) 9 = nI 10 ∧ (∀ j, j ≠ 3 → j ≠ 4 → I1 (25 + 21 * w) j = I (25 + 21 * w) j) ∧ (∀ a, a ≠ 18 + 21 * w → a ≠ 25 + 21 * w → a ≠ 26 + 21 * w → a ≠ 32 + 21 * w → a ≠ 35 + 21 * w → a ≠ 36 + 21 * w → I1 a = I a) ∧ (∀ a, a ≠ 111 → a ≠ 27 + 21 * w → a ≠ 18 + 21 * w → J1 a = J a)) := by
  have hd : f_Hall_show w (nI 16) X I J = oc (f_Hall_receiveShown w (nI (cd (pos + 1))) I J) (fun v8 I8 J8 => some (v8, X, I8, J8)) := by
    unfold f_Hall_show
    rw [hp, show nI pos + 1 = nI (pos + 1) from nI_1 pos, w_in hr hn hpn, if_pos (show ¬ nI 16 = 15 by decide), hph, if_pos (show ¬ nI 9 = 8 by decide), if_neg (show ¬ ¬ nI 9 = 9 from fun y => y rfl)]
  rw [hd]
  rcases RCVC (J := J) (v := m1) (sd := fun _ => true) hP hw (Or.inl ⟨rfl, fun _ _ => rfl⟩) h6 hx hg with ⟨b1, b2⟩ | ⟨b1, I2, b2, b3, b4, b5, b6⟩
  · refine Or.inl ⟨b1, ?_⟩
    have b2' : ∀ {α : Type} {F : Int32 → MI → MJ → Option α}, oc (f_Hall_receives w (-1) I J) F = F (nI 0) I J := b2
    unfold f_Hall_receiveShown
    rw [oc_oc, b2', if_neg (show ¬ ¬ nI 0 = 0 from fun x => x rfl), oc_some]
  · refine Or.inr ⟨b1, ?_⟩
    have b2' : ∀ {α : Type} {F : Int32 → MI → MJ → Option α}, oc (f_Hall_receives w (-1) I J) F = F (nI 1) I2 J := b2
    have k2 : ∀ a, a ≠ 35 + 21 * w → a ≠ 32 + 21 * w → I2 a = I a := b3
    have hT2 : TAM I2 I' J J' P NT tp ts tk tb := TAM_fr hT (k2 _ (by omega) (by omega)) (k2 _ (by omega) (by omega)) (k2 _ (by omega) (by omega)) (k2 _ (by omega) (by omega)) rfl
    have hc2 : CK I2 J w s := by
      unfold CK
      rw [k2 _ (by omega) (by omega), k2 _ (by omega) (by omega)]
      exact hc
    obtain ⟨I3, J3, g1, g2, g3, g4, g5, g6, g7⟩ := GTH (v := m1) (sd := fun _ => true) (nu := 1) hw hP (by decide) (Or.inl ⟨rfl, fun _ _ => rfl⟩) true (Or.inl ⟨rfl, rfl⟩) hT2 (by rw [k2 14 (by omega) (by omega)]; exact h6) (fun j hj => by rw [k2 (36 + 21 * w) (by omega) (by omega)]; exact hpl j hj) hc2 (fun _ => hcap)
    rw [if_pos rfl] at g2
    have g1' : ∀ {α : Type} {F : Unit → MI → MJ → Option α}, oc (f_Hall_gatherErrors w (-1) 1 I2 J) F = F () I3 J3 := g1
    have k3 : ∀ a, a ≠ 25 + 21 * w → a ≠ 26 + 21 * w → a ≠ 36 + 21 * w → I3 a = I2 a := g5
    have hv3 : CV I3 J3 w h sk va nk kp := CV_fr hv (by rw [k3 _ (by omega) (by omega) (by omega), k2 _ (by omega) (by omega)]) (by rw [k3 _ (by omega) (by omega) (by omega), k2 _ (by omega) (by omega)]) (g7 _ (by omega) (by omega)) (g7 _ (by omega) (by omega)) (g7 _ (by omega) (by omega)) (g7 _ (by omega) (by omega))
    obtain ⟨A1, q1, r1, s1, t1⟩ := UP1 I3 (18 + 21 * w) 9 10
    have e18 : I3 (18 + 21 * w) = I (18 + 21 * w) := by rw [k3 _ (by omega) (by omega) (by omega), k2 _ (by omega) (by omega)]
    have e111 : J3 111 0 = lN (eE NT tp ts tk tb (fun _ => true) pl 0) := g3 0 (by decide)
    refine ⟨A1, va_up J3 (18 + 21 * w) (vp_updL (J3 (18 + 21 * w)) 7 (lN (pA (va (13 + cd (pos + 1))) (eE NT tp ts tk tb (fun _ => true) pl 0)))), ?_, ?_, by rw [va_up_self, updL_s], fun j hj => by rw [va_up_self, updL_n _ _ hj, g7 _ (by omega) (by omega)], fun j hj => by rw [r1 _ (by omega), g4 j hj, if_pos rfl], fun j hj => ?_, fun j hj => by rw [r1 _ (by omega), k3 _ (by omega) (by omega) (by omega), b4 j hj], by rw [r1 _ (by omega), k3 _ (by omega) (by omega) (by omega), b5], fun j hj => by rw [t1 j hj, e18], s1, fun j j1 j2 => by rw [r1 _ (by omega), g6 j j1 j2, k2 _ (by omega) (by omega)], fun a a1 a2 a3 a4 a5 a6 => by rw [r1 a a1, k3 a a2 a3 a6, k2 a a5 a4], fun a a1 a2 a3 => by rw [va_up_ne _ _ a3, g7 a a1 a2]⟩
    · unfold f_Hall_receiveShown
      rw [oc_oc, b2', if_pos (show ¬ nI 1 = 0 by decide), oc_oc, g1', oc_oc, RDS hv3 hk13, if_neg (by decide), show Int32.toNatClampNeg 0 = 0 from rfl, e111, oc_oc, o_qA (CV_va hv (by omega)) eE_lt, pl_eq, q1, pl_eq, oc_some]
    · have r26 : A1 (26 + 21 * w) = I3 (26 + 21 * w) := r1 _ (by omega)
      have r25 : A1 (25 + 21 * w) = I3 (25 + 21 * w) := r1 _ (by omega)
      unfold CK
      rw [r25, r26, va_up_ne _ _ (show 27 + 21 * w ≠ 18 + 21 * w by omega)]
      exact g2
    · rw [r1 _ (by omega), k3 _ (by omega) (by omega) (by omega), b6 j hj]
      by_cases y : j ≠ w
      · rw [if_pos ⟨y, rfl⟩, if_pos y]
      · rw [if_neg (fun z => y z.1), if_neg y]
end SHOW
