/-! the run: what is done in one step, in the class -/
def cMid (w2 : Nat) (p3 v1 x3 : Int32) (I2 : MI) (J2 : MJ) : M2 Int32 := (if p3 = 4 ∨ p3 = 5 ∨ p3 = 6 then (oc (f_Memory_pop w2 I2 J2) (fun v11 I11 J11 => oc (f_Memory_pop w2 I11 J11) (fun v12 I12 J12 => oc (f_Hall_joined p3 v12 v11 I12 J12) (fun v13 I13 J13 => oc (f_Memory_push w2 v13 I13 J13) (fun v14 I14 J14 => some (x3, I14, J14)))))) else (if p3 = 8 then (oc (f_Memory_pop w2 I2 J2) (fun v16 I16 J16 => oc (f_Sh_minus 0 v16 I16 J16) (fun v17 I17 J17 => oc (f_Memory_push w2 v17 I17 J17) (fun v18 I18 J18 => some (x3, I18, J18))))) else (if p3 = 9 then (oc (f_Memory_pop w2 I2 J2) (fun v20 I20 J20 => oc (f_Sh_times v20 v20 I20 J20) (fun v21 I21 J21 => oc (f_Memory_push w2 v21 I21 J21) (fun v22 I22 J22 => some (x3, I22, J22))))) else (if p3 = 11 then (oc (f_Memory_pop w2 I2 J2) (fun v24 I24 J24 => oc (f_Sh_write (20 + 21 * w2) 13 v1 v24 I24 J24) (fun v25 I25 J25 => some (x3, I25, J25)))) else (if p3 = 12 then (oc (f_Memory_pop w2 I2 J2) (fun v27 I27 J27 => oc (f_Sh_write (21 + 21 * w2) 13 v1 v27 I27 J27) (fun v28 I28 J28 => some (x3, I28, J28)))) else (if p3 = 17 ∨ p3 = 18 ∨ p3 = 28 ∨ p3 = 29 then (oc (f_Hall_jump w2 p3 x3 I2 J2) (fun v30 I30 J30 => some (v30, I30, J30))) else (if p3 = 19 ∨ p3 = 20 ∨ p3 = 21 ∨ p3 = 22 then (oc (f_Hall_visitPlace w2 p3 v1 I2 J2) (fun v32 I32 J32 => some (x3, I32, J32))) else (if p3 = 27 then (oc (f_Hall_nextBit w2 I2 J2) (fun v34 I34 J34 => oc (f_Sh_write (21 + 21 * w2) 13 v1 v34 I34 J34) (fun v35 I35 J35 => some (x3, I35, J35)))) else (oc (f_Hall_joinArrays w2 p3 I2 J2) (fun v36 I36 J36 => some (x3, I36, J36)))))))))))
theorem work_eq {w2 : Nat} {p3 : Int32} {I : MI} {J : MJ} : f_Hall_work w2 p3 I J = oc (f_Row_at 15 16 2000 ((I (18 + 21 * w2) 8) + 1) I J) (fun v1 I1 J1 => oc (f_Sh_lengthOf p3 I1 J1) (fun v2 I2 J2 => pl ((I1 (18 + 21 * w2) 8) + v2 : Int32) (fun x3 => oc (cMid w2 p3 v1 x3 I2 J2) (fun v9 I9 J9 => oc (f_Hall_settle w2 v9 I9 J9) (fun v37 I37 J37 => some ((), I37, J37)))))) := rfl
/-- what one step leaves -/
def FW (w : Nat) (I I1 : MI) (J J1 : MJ) : Prop := (∀ a, a ≠ 19 + 21 * w → a ≠ 24 + 21 * w → a ≠ 31 + 21 * w → a ≠ 109 → a ≠ 110 → I1 a = I a) ∧ (∀ j, j ≠ 2 → I1 (31 + 21 * w) j = I (31 + 21 * w) j) ∧ (∀ a, a ≠ 20 + 21 * w → a ≠ 21 + 21 * w → a ≠ 22 + 21 * w → a ≠ 23 + 21 * w → J1 a = J a)
theorem FM.fw {w : Nat} {I I1 : MI} {J J1 : MJ} (h : FM w I I1 J J1) : FW w I I1 J J1 := ⟨fun a a1 a2 _ _ _ => h.1 a a1 a2, fun j _ => by rw [h.1 (31 + 21 * w) (by omega) (by omega)], h.2⟩
theorem TGTC {cd : Nat → Nat} {n k : Nat} {I : MI} {J : MJ} (hr : rowC I 15 16 n cd) (hn : n ≤ 2000) (hk : k + 1 < n) {α : Type} {F : Int32 → MI → MJ → Option α} : oc (f_Row_target 15 16 2000 (nI k) I J) F = F (nI (256 * cd k + cd (k + 1))) I J := by
  unfold f_Row_target
  rw [oc_oc, w_in hr hn (by omega), nI_1, oc_oc, w_in hr hn hk, oc_some, show (256 : Int32) * nI (cd k) = nI (256 * cd k) from nI_mul 256 _, nI_add]
section OPS
variable {cd va sk kp : Nat → Nat} {n P w h nk pos bt : Nat} {st : Nat → Bool} {hg : Nat → Nat} {I : MI} {J : MJ}
theorem cas20 {c : Nat} (h1 : c ≤ 29) (h2 : 4 ≤ c) (a : c ≠ 7) (b : c ≠ 10) (d : c ≠ 13) (f : c ≠ 14) (g : c ≠ 15) (i : c ≠ 16) : c = 4 ∨ c = 5 ∨ c = 6 ∨ c = 8 ∨ c = 9 ∨ c = 11 ∨ c = 12 ∨ c = 17 ∨ c = 18 ∨ c = 19 ∨ c = 20 ∨ c = 21 ∨ c = 22 ∨ c = 23 ∨ c = 24 ∨ c = 25 ∨ c = 26 ∨ c = 27 ∨ c = 28 ∨ c = 29 := by omega
theorem bit1 {m : Nat} (hm : m < pP) : lN m &&& 1 = lN (m % 2) := by
  have := lx_mask (n := m) 1
  exact this
theorem MID [Decidable (shd cd pos)] {v1 : Int32} (hW : WFc cd n P st hg) (hw : w < 4) (hs : st pos = true) (hh : hg pos = h) (hv : CV I J w h sk va nk kp) (hr : rowC I 15 16 n cd) (hp : I (18 + 21 * w) 8 = nI pos) (hop : ¬ shd cd pos) (hop2 : 4 ≤ cd pos) (hop3 : cd pos ≠ 15) (hop4 : cd pos ≠ 16) (hv1 : 2 ≤ opl (cd pos) → v1 = nI (cd (pos + 1))) (l1 : cd pos = 19 ∨ cd pos = 20 → sk (h - 1) < 16) (l2 : cd pos = 21 ∨ cd pos = 22 → sk (h - 2) < 16) (l3 : cd pos = 28 → nk < 16) (l4 : cd pos = 29 → 1 ≤ nk) (l5 : cd pos = 27 → ∃ b, b < 2 ^ 31 ∧ I (31 + 21 * w) 2 = nI b ∧ bt = dg_n (J 14 7 + 7000003) (lN b) % 2) : ∃ I1 J1, cMid w (nI (cd pos)) v1 (nI (pos + opl (cd pos))) I J = some (nI (lop cd (fun _ => 0) 0 bt pos h sk va nk kp).1, I1, J1) ∧ CV I1 J1 w (lop cd (fun _ => 0) 0 bt pos h sk va nk kp).2.1 (lop cd (fun _ => 0) 0 bt pos h sk va nk kp).2.2.1 (lop cd (fun _ => 0) 0 bt pos h sk va nk kp).2.2.2.1 (lop cd (fun _ => 0) 0 bt pos h sk va nk kp).2.2.2.2.1 (lop cd (fun _ => 0) 0 bt pos h sk va nk kp).2.2.2.2.2 ∧ FW w I I1 J J1 ∧ (cd pos ≠ 27 → I1 (31 + 21 * w) = I (31 + 21 * w)) ∧ (cd pos = 27 → I1 (31 + 21 * w) 2 = I (31 + 21 * w) 2 + 1) := by
  obtain ⟨z1, z2, z3, z4, z5⟩ := WF_h hW hs
  have hn := hW.2.1
  obtain ⟨wa1, wa2, wa3, wa4, wa5, wa6⟩ := WF_a hW hs
  rw [hh] at z4 z5
  have e111 : (nI 0 = nI 0 ∧ ∀ k, k < 32 → (fun _ : Nat => 0) k = 0) ∨ (nI 0 = nI 1 ∧ ∀ k, k < 32 → (fun _ : Nat => 0) k < pP ∧ J 111 k = lN ((fun _ : Nat => 0) k)) := Or.inl ⟨rfl, fun _ _ => rfl⟩
  have m31 : ∀ {I1 : MI} {J1 : MJ}, FM w I I1 J J1 → I1 (31 + 21 * w) = I (31 + 21 * w) := fun f => f.1 _ (by omega) (by omega)
  have cases' : cd pos = 4 ∨ cd pos = 5 ∨ cd pos = 6 ∨ cd pos = 8 ∨ cd pos = 9 ∨ cd pos = 11 ∨ cd pos = 12 ∨ cd pos = 17 ∨ cd pos = 18 ∨ cd pos = 19 ∨ cd pos = 20 ∨ cd pos = 21 ∨ cd pos = 22 ∨ cd pos = 23 ∨ cd pos = 24 ∨ cd pos = 25 ∨ cd pos = 26 ∨ cd pos = 27 ∨ cd pos = 28 ∨ cd pos = 29 := by
    refine cas20 z2 hop2 (fun x => hop (Or.inl x)) (fun x => hop (Or.inr (Or.inl x))) (fun x => hop (Or.inr (Or.inr (Or.inl x)))) (fun x => hop (Or.inr (Or.inr (Or.inr (Or.inl x))))) hop3 hop4
  rcases cases' with e | e | e | e | e | e | e | e | e | e | e | e | e | e | e | e | e | e | e | e
  · -- 4
    rw [e] at z3 z4 z5
    have z3 : pos + 1 ≤ n := z3
    have z4 : 2 ≤ h := z4
    have z5 : h - 2 + 1 ≤ 64 := z5
    have hL : lop cd (fun _ => 0) 0 bt pos h sk va nk kp = (pos + 1, h - 1, apn sk (h - 2) (aop 4 (sk (h - 2)) (sk (h - 1))), va, nk, kp) := by unfold lop; rw [e]; rfl
    rw [hL]
    have n27 : cd pos ≠ 27 := by omega
    rw [show opl (cd pos) = 1 by rw [e]; rfl]
    rw [e]
    unfold cMid
    obtain ⟨I2, a1, a2, a3⟩ := POP hv (by omega)
    obtain ⟨I3, b1, b2, b3⟩ := POP a2 (by omega)
    obtain ⟨I4, J4, c1, c2, c3⟩ := PSH b2 (v := aop 4 (sk (h - 2)) (sk (h - 1))) (by omega) (aop_lt _ _ _)
    rw [show h - 1 - 1 = h - 2 by omega] at b1 c2
    rw [show h - 2 + 1 = h - 1 by omega] at c2
    refine ⟨I4, J4, ?_, c2, (a3.tr (b3.tr c3)).fw, fun _ => m31 (a3.tr (b3.tr c3)), fun h => absurd h (by decide)⟩
    rw [if_pos (by decide), a1, b1, JND (by decide) (CV_sk hv (by omega)) (CV_sk hv (by omega)), c1]
  · -- 5
    rw [e] at z3 z4 z5
    have z3 : pos + 1 ≤ n := z3
    have z4 : 2 ≤ h := z4
    have z5 : h - 2 + 1 ≤ 64 := z5
    have hL : lop cd (fun _ => 0) 0 bt pos h sk va nk kp = (pos + 1, h - 1, apn sk (h - 2) (aop 5 (sk (h - 2)) (sk (h - 1))), va, nk, kp) := by unfold lop; rw [e]; rfl
    rw [hL]
    have n27 : cd pos ≠ 27 := by omega
    rw [show opl (cd pos) = 1 by rw [e]; rfl]
    rw [e]
    unfold cMid
    obtain ⟨I2, a1, a2, a3⟩ := POP hv (by omega)
    obtain ⟨I3, b1, b2, b3⟩ := POP a2 (by omega)
    obtain ⟨I4, J4, c1, c2, c3⟩ := PSH b2 (v := aop 5 (sk (h - 2)) (sk (h - 1))) (by omega) (aop_lt _ _ _)
    rw [show h - 1 - 1 = h - 2 by omega] at b1 c2
    rw [show h - 2 + 1 = h - 1 by omega] at c2
    refine ⟨I4, J4, ?_, c2, (a3.tr (b3.tr c3)).fw, fun _ => m31 (a3.tr (b3.tr c3)), fun h => absurd h (by decide)⟩
    rw [if_pos (by decide), a1, b1, JND (by decide) (CV_sk hv (by omega)) (CV_sk hv (by omega)), c1]
  · -- 6
    rw [e] at z3 z4 z5
    have z3 : pos + 1 ≤ n := z3
    have z4 : 2 ≤ h := z4
    have z5 : h - 2 + 1 ≤ 64 := z5
    have hL : lop cd (fun _ => 0) 0 bt pos h sk va nk kp = (pos + 1, h - 1, apn sk (h - 2) (aop 6 (sk (h - 2)) (sk (h - 1))), va, nk, kp) := by unfold lop; rw [e]; rfl
    rw [hL]
    have n27 : cd pos ≠ 27 := by omega
    rw [show opl (cd pos) = 1 by rw [e]; rfl]
    rw [e]
    unfold cMid
    obtain ⟨I2, a1, a2, a3⟩ := POP hv (by omega)
    obtain ⟨I3, b1, b2, b3⟩ := POP a2 (by omega)
    obtain ⟨I4, J4, c1, c2, c3⟩ := PSH b2 (v := aop 6 (sk (h - 2)) (sk (h - 1))) (by omega) (aop_lt _ _ _)
    rw [show h - 1 - 1 = h - 2 by omega] at b1 c2
    rw [show h - 2 + 1 = h - 1 by omega] at c2
    refine ⟨I4, J4, ?_, c2, (a3.tr (b3.tr c3)).fw, fun _ => m31 (a3.tr (b3.tr c3)), fun h => absurd h (by decide)⟩
    rw [if_pos (by decide), a1, b1, JND (by decide) (CV_sk hv (by omega)) (CV_sk hv (by omega)), c1]
  · -- 8
    rw [e] at z3 z4 z5
    have z3 : pos + 1 ≤ n := z3
    have z4 : 1 ≤ h := z4
    have z5 : h - 1 + 1 ≤ 64 := z5
    have hL : lop cd (fun _ => 0) 0 bt pos h sk va nk kp = (pos + 1, h, apn sk (h - 1) (pS 0 (sk (h - 1))), va, nk, kp) := by unfold lop; rw [e]; rfl
    rw [hL]
    have n27 : cd pos ≠ 27 := by omega
    rw [show opl (cd pos) = 1 by rw [e]; rfl]
    rw [e]
    unfold cMid
    obtain ⟨I2, a1, a2, a3⟩ := POP hv (by omega)
    obtain ⟨I4, J4, c1, c2, c3⟩ := PSH a2 (v := pS 0 (sk (h - 1))) (by omega) (pS_lt _ _)
    rw [show h - 1 + 1 = h by omega] at c2
    refine ⟨I4, J4, ?_, c2, (a3.tr c3).fw, fun _ => m31 (a3.tr c3), fun h => absurd h (by decide)⟩
    rw [if_neg (by decide), if_pos (by decide), a1, show (0 : Int64) = lN 0 from rfl, o_qS pP_pos (CV_sk hv (by omega)), c1]
  · -- 9
    rw [e] at z3 z4 z5
    have z3 : pos + 1 ≤ n := z3
    have z4 : 1 ≤ h := z4
    have z5 : h - 1 + 1 ≤ 64 := z5
    have hL : lop cd (fun _ => 0) 0 bt pos h sk va nk kp = (pos + 1, h, apn sk (h - 1) (pM (sk (h - 1)) (sk (h - 1))), va, nk, kp) := by unfold lop; rw [e]; rfl
    rw [hL]
    have n27 : cd pos ≠ 27 := by omega
    rw [show opl (cd pos) = 1 by rw [e]; rfl]
    rw [e]
    unfold cMid
    obtain ⟨I2, a1, a2, a3⟩ := POP hv (by omega)
    obtain ⟨I4, J4, c1, c2, c3⟩ := PSH a2 (v := pM (sk (h - 1)) (sk (h - 1))) (by omega) (pM_lt _ _)
    rw [show h - 1 + 1 = h by omega] at c2
    refine ⟨I4, J4, ?_, c2, (a3.tr c3).fw, fun _ => m31 (a3.tr c3), fun h => absurd h (by decide)⟩
    rw [if_neg (by decide), if_neg (by decide), if_pos (by decide), a1, o_qM (CV_sk hv (by omega)) (CV_sk hv (by omega)), c1]
  · -- 11
    rw [e] at z3 z4 z5
    have z3 : pos + 2 ≤ n := z3
    have z4 : 1 ≤ h := z4
    have z5 : h - 1 + 0 ≤ 64 := z5
    have hL : lop cd (fun _ => 0) 0 bt pos h sk va nk kp = (pos + 2, h - 1, sk, apn va (cd (pos + 1)) (sk (h - 1)), nk, kp) := by unfold lop; rw [e]; rfl
    rw [hL]
    have n27 : cd pos ≠ 27 := by omega
    rw [show opl (cd pos) = 2 by rw [e]; rfl]
    have hv1 : v1 = nI (cd (pos + 1)) := hv1 (by rw [e]; decide)
    subst hv1
    rw [e]
    unfold cMid
    obtain ⟨I2, a1, a2, a3⟩ := POP hv (by omega)
    obtain ⟨J4, c1, c2, c3⟩ := WRC a2 (k := cd (pos + 1)) (v := sk (h - 1)) (wa1 (by omega)) (CV_sk hv (by omega))
    refine ⟨I2, J4, ?_, c2, (a3.tr c3).fw, fun _ => m31 (a3.tr c3), fun h => absurd h (by decide)⟩
    rw [if_neg (by decide), if_neg (by decide), if_neg (by decide), if_pos (by decide), a1, c1]
  · -- 12
    rw [e] at z3 z4 z5
    have z3 : pos + 2 ≤ n := z3
    have z4 : 1 ≤ h := z4
    have z5 : h - 1 + 0 ≤ 64 := z5
    have hL : lop cd (fun _ => 0) 0 bt pos h sk va nk kp = (pos + 2, h - 1, sk, apn va (13 + cd (pos + 1)) (sk (h - 1)), nk, kp) := by unfold lop; rw [e]; rfl
    rw [hL]
    have n27 : cd pos ≠ 27 := by omega
    rw [show opl (cd pos) = 2 by rw [e]; rfl]
    have hv1 : v1 = nI (cd (pos + 1)) := hv1 (by rw [e]; decide)
    subst hv1
    rw [e]
    unfold cMid
    obtain ⟨I2, a1, a2, a3⟩ := POP hv (by omega)
    obtain ⟨J4, c1, c2, c3⟩ := WRS a2 (k := cd (pos + 1)) (v := sk (h - 1)) (wa1 (by omega)) (CV_sk hv (by omega))
    refine ⟨I2, J4, ?_, c2, (a3.tr c3).fw, fun _ => m31 (a3.tr c3), fun h => absurd h (by decide)⟩
    rw [if_neg (by decide), if_neg (by decide), if_neg (by decide), if_neg (by decide), if_pos (by decide), a1, c1]
  · -- 17
    rw [e] at z3 z4 z5
    have z3 : pos + 4 ≤ n := z3
    have z4 : 0 ≤ h := z4
    have z5 : h - 0 + 0 ≤ 64 := z5
    have hL : lop cd (fun _ => 0) 0 bt pos h sk va nk kp = (if va (cd (pos + 1)) = 0 then tgt cd pos else pos + 4, h, sk, va, nk, kp) := by unfold lop; rw [e]; rfl
    rw [hL]
    have n27 : cd pos ≠ 27 := by omega
    rw [show opl (cd pos) = 4 by rw [e]; rfl]
    have hv1 : v1 = nI (cd (pos + 1)) := hv1 (by rw [e]; decide)
    subst hv1
    rw [e]
    unfold cMid
    refine ⟨I, J, ?_, hv, FM.rfl.fw, fun _ => rfl, fun h => absurd h (by decide)⟩
    have wp := wa1 (by omega)
    unfold f_Hall_jump
    rw [if_neg (by decide), if_neg (by decide), if_neg (by decide), if_neg (by decide), if_neg (by decide), if_pos (by decide), pl_eq, hp, if_neg (show ¬ ¬ nI 17 = 17 from fun x => x rfl), oc_oc, nI_1 pos, w_in hr hn (by omega), oc_oc, RDC hv wp]
    by_cases x : va (cd (pos + 1)) = 0
    · rw [if_neg (show ¬ ¬ lg_cmp (lN (va (cd (pos + 1)))) 0 = 0 from fun y => y (by rw [x]; decide)), show nI pos + 2 = nI (pos + 2) from nI_add pos 2, oc_oc, TGTC hr hn (by omega), oc_some]
      have ht : tgt cd pos = 256 * cd (pos + 2) + cd (pos + 2 + 1) := by unfold tgt; rw [if_pos e]
      simp only [if_pos x, ht]
    · rw [if_pos (show ¬ lg_cmp (lN (va (cd (pos + 1)))) 0 = 0 from fun y => x ((lc_eq (m := 0) (lx_p (CV_va hv (by omega))) (by omega)).mp y)), oc_some]
      simp only [if_neg x]
  · -- 18
    rw [e] at z3 z4 z5
    have z3 : pos + 3 ≤ n := z3
    have z4 : 0 ≤ h := z4
    have z5 : h - 0 + 0 ≤ 64 := z5
    have hL : lop cd (fun _ => 0) 0 bt pos h sk va nk kp = (tgt cd pos, h, sk, va, nk, kp) := by unfold lop; rw [e]; rfl
    rw [hL]
    have n27 : cd pos ≠ 27 := by omega
    rw [show opl (cd pos) = 3 by rw [e]; rfl]
    have hv1 : v1 = nI (cd (pos + 1)) := hv1 (by rw [e]; decide)
    subst hv1
    rw [e]
    unfold cMid
    refine ⟨I, J, ?_, hv, FM.rfl.fw, fun _ => rfl, fun h => absurd h (by decide)⟩
    unfold f_Hall_jump
    rw [if_neg (by decide), if_neg (by decide), if_neg (by decide), if_neg (by decide), if_neg (by decide), if_pos (by decide), pl_eq, hp, if_pos (show ¬ nI 18 = 17 by decide), if_pos (show ¬ nI 18 = 29 by decide), if_pos (show ¬ nI 18 = 28 by decide), oc_some, nI_1 pos, oc_oc, TGTC hr hn (by omega), oc_some]
    have ht : tgt cd pos = 256 * cd (pos + 1) + cd (pos + 1 + 1) := by unfold tgt; rw [if_neg (by omega)]
    rw [ht]
  · -- 19
    rw [e] at z3 z4 z5
    have z3 : pos + 2 ≤ n := z3
    have z4 : 1 ≤ h := z4
    have z5 : h - 1 + 1 ≤ 64 := z5
    have hL : lop cd (fun _ => 0) 0 bt pos h sk va nk kp = (pos + 2, h, apn sk (h - 1) (va (26 + 16 * cd (pos + 1) + sk (h - 1))), va, nk, kp) := by unfold lop; rw [e]; rfl
    rw [hL]
    have n27 : cd pos ≠ 27 := by omega
    rw [show opl (cd pos) = 2 by rw [e]; rfl]
    have hv1 : v1 = nI (cd (pos + 1)) := hv1 (by rw [e]; decide)
    subst hv1
    rw [e]
    unfold cMid
    have wp := wa4 (by omega)
    have l1 := l1 (by omega)
    obtain ⟨I2, a1, a2, a3⟩ := POP hv (by omega)
    obtain ⟨I4, J4, c1, c2, c3⟩ := PSH a2 (v := va (26 + 16 * cd (pos + 1) + sk (h - 1))) (by omega) (CV_va hv (by omega))
    rw [show h - 1 + 1 = h by omega] at c2
    refine ⟨I4, J4, ?_, c2, (a3.tr c3).fw, fun _ => m31 (a3.tr c3), fun h => absurd h (by decide)⟩
    unfold f_Hall_visitPlace
    rw [if_neg (by decide), if_neg (by decide), if_neg (by decide), if_neg (by decide), if_neg (by decide), if_neg (by decide), if_pos (by decide), pl_eq, if_neg (show ¬ ¬ nI 19 = 19 from fun x => x rfl), oc_oc, a1, oc_oc, CEL a2 (show cd (pos + 1) < 8 by omega) l1, oc_oc, c1]
    rfl
  · -- 20
    rw [e] at z3 z4 z5
    have z3 : pos + 2 ≤ n := z3
    have z4 : 1 ≤ h := z4
    have z5 : h - 1 + 1 ≤ 64 := z5
    have hL : lop cd (fun _ => 0) 0 bt pos h sk va nk kp = (pos + 2, h, apn sk (h - 1) (va (26 + 16 * (cd (pos + 1) + 4) + sk (h - 1))), va, nk, kp) := by unfold lop; rw [e]; rfl
    rw [hL]
    have n27 : cd pos ≠ 27 := by omega
    rw [show opl (cd pos) = 2 by rw [e]; rfl]
    have hv1 : v1 = nI (cd (pos + 1)) := hv1 (by rw [e]; decide)
    subst hv1
    rw [e]
    unfold cMid
    have wp := wa4 (by omega)
    have l1 := l1 (by omega)
    obtain ⟨I2, a1, a2, a3⟩ := POP hv (by omega)
    obtain ⟨I4, J4, c1, c2, c3⟩ := PSH a2 (v := va (26 + 16 * (cd (pos + 1) + 4) + sk (h - 1))) (by omega) (CV_va hv (by omega))
    rw [show h - 1 + 1 = h by omega] at c2
    refine ⟨I4, J4, ?_, c2, (a3.tr c3).fw, fun _ => m31 (a3.tr c3), fun h => absurd h (by decide)⟩
    unfold f_Hall_visitPlace
    rw [if_neg (by decide), if_neg (by decide), if_neg (by decide), if_neg (by decide), if_neg (by decide), if_neg (by decide), if_pos (by decide), pl_eq, if_pos (show ¬ nI 20 = 19 by decide), if_neg (show ¬ ¬ nI 20 = 20 from fun x => x rfl), oc_oc, a1, show nI (cd (pos + 1)) + 4 = nI (cd (pos + 1) + 4) from nI_add _ 4, oc_oc, CEL a2 (show cd (pos + 1) + 4 < 8 by omega) l1, oc_oc, c1]
    rfl
  · -- 21
    rw [e] at z3 z4 z5
    have z3 : pos + 2 ≤ n := z3
    have z4 : 2 ≤ h := z4
    have z5 : h - 2 + 0 ≤ 64 := z5
    have hL : lop cd (fun _ => 0) 0 bt pos h sk va nk kp = (pos + 2, h - 2, sk, apn va (26 + 16 * cd (pos + 1) + sk (h - 2)) (sk (h - 1)), nk, kp) := by unfold lop; rw [e]; rfl
    rw [hL]
    have n27 : cd pos ≠ 27 := by omega
    rw [show opl (cd pos) = 2 by rw [e]; rfl]
    have hv1 : v1 = nI (cd (pos + 1)) := hv1 (by rw [e]; decide)
    subst hv1
    rw [e]
    unfold cMid
    have wp := wa4 (by omega)
    have l2 := l2 (by omega)
    obtain ⟨I2, a1, a2, a3⟩ := POP hv (by omega)
    obtain ⟨I3, b1, b2, b3⟩ := POP a2 (by omega)
    rw [show h - 1 - 1 = h - 2 by omega] at b1 b2
    obtain ⟨J4, c1, c2, c3⟩ := SCL b2 (a := cd (pos + 1)) (k := sk (h - 2)) (v := sk (h - 1)) (by omega) l2 (CV_sk hv (by omega))
    refine ⟨I3, J4, ?_, c2, (a3.tr (b3.tr c3)).fw, fun _ => m31 (a3.tr (b3.tr c3)), fun h => absurd h (by decide)⟩
    unfold f_Hall_visitPlace
    rw [if_neg (by decide), if_neg (by decide), if_neg (by decide), if_neg (by decide), if_neg (by decide), if_neg (by decide), if_pos (by decide), pl_eq, if_pos (show ¬ nI 21 = 19 by decide), if_pos (show ¬ nI 21 = 20 by decide), oc_oc, a1, pl_eq, if_neg (show ¬ ¬ nI 21 = 21 from fun x => x rfl), oc_oc, b1, oc_oc, c1]
    rfl
  · -- 22
    rw [e] at z3 z4 z5
    have z3 : pos + 2 ≤ n := z3
    have z4 : 2 ≤ h := z4
    have z5 : h - 2 + 0 ≤ 64 := z5
    have hL : lop cd (fun _ => 0) 0 bt pos h sk va nk kp = (pos + 2, h - 2, sk, apn va (26 + 16 * (cd (pos + 1) + 4) + sk (h - 2)) (sk (h - 1)), nk, kp) := by unfold lop; rw [e]; rfl
    rw [hL]
    have n27 : cd pos ≠ 27 := by omega
    rw [show opl (cd pos) = 2 by rw [e]; rfl]
    have hv1 : v1 = nI (cd (pos + 1)) := hv1 (by rw [e]; decide)
    subst hv1
    rw [e]
    unfold cMid
    have wp := wa4 (by omega)
    have l2 := l2 (by omega)
    obtain ⟨I2, a1, a2, a3⟩ := POP hv (by omega)
    obtain ⟨I3, b1, b2, b3⟩ := POP a2 (by omega)
    rw [show h - 1 - 1 = h - 2 by omega] at b1 b2
    obtain ⟨J4, c1, c2, c3⟩ := SCL b2 (a := (cd (pos + 1) + 4)) (k := sk (h - 2)) (v := sk (h - 1)) (by omega) l2 (CV_sk hv (by omega))
    refine ⟨I3, J4, ?_, c2, (a3.tr (b3.tr c3)).fw, fun _ => m31 (a3.tr (b3.tr c3)), fun h => absurd h (by decide)⟩
    unfold f_Hall_visitPlace
    rw [if_neg (by decide), if_neg (by decide), if_neg (by decide), if_neg (by decide), if_neg (by decide), if_neg (by decide), if_pos (by decide), pl_eq, if_pos (show ¬ nI 22 = 19 by decide), if_pos (show ¬ nI 22 = 20 by decide), oc_oc, a1, pl_eq, if_pos (show ¬ nI 22 = 21 by decide), show nI (cd (pos + 1)) + 4 = nI (cd (pos + 1) + 4) from nI_add _ 4, oc_oc, b1, oc_oc, c1]
    rfl
  · -- 23
    rw [e] at z3 z4 z5
    have z3 : pos + 4 ≤ n := z3
    have z4 : 0 ≤ h := z4
    have z5 : h - 0 + 0 ≤ 64 := z5
    have hL : lop cd (fun _ => 0) 0 bt pos h sk va nk kp = (pos + 4, h, sk, ajv (aop 23) (fun i => 0) (fun i => 0) (cd (pos + 1)) (cd (pos + 2)) (cd (pos + 3)) 16 0 va, nk, kp) := by unfold lop; rw [e]; rfl
    rw [hL]
    have n27 : cd pos ≠ 27 := by omega
    rw [show opl (cd pos) = 4 by rw [e]; rfl]
    have hv1 : v1 = nI (cd (pos + 1)) := hv1 (by rw [e]; decide)
    subst hv1
    rw [e]
    unfold cMid
    obtain ⟨wp, wq, wr⟩ := wa5 (by omega)
    obtain ⟨J4, c1, c2, c3⟩ := JAV (e := fun _ => 0) (p3 := nI 23) (sh := nI 0) (c := 23) (a := pos + 2) hn (by decide) (by decide) wp wq wr (by omega) rfl rfl (by omega) rfl 16 gF 0 0 va J (by omega) (by decide) hv hr hp (Or.inl ⟨rfl, fun _ _ => rfl⟩)
    have c1' : f_Hall_joinArrays_26 w (nI 23) gF (nI 23) (nI (pos + 2)) (nI 0) 0 0 I J = some (0, I, J4) := c1
    have sr := fun {α : Type} {F : Int32 → MI → MJ → Option α} => SHR (F := F) (J := J) hn hr hp z2 (by rw [e]; exact z3)
    rw [if_neg hop, e] at sr
    refine ⟨I, J4, ?_, c2, c3.fw, fun _ => rfl, fun h => absurd h (by decide)⟩
    unfold f_Hall_joinArrays f_Hall_firstArrayAt
    rw [if_neg (by decide), if_neg (by decide), if_neg (by decide), if_neg (by decide), if_neg (by decide), if_neg (by decide), if_neg (by decide), if_neg (by decide), hp, if_pos (show ¬ nI 23 = 26 by decide), oc_some, show nI pos + 2 = nI (pos + 2) from nI_add pos 2, oc_oc, sr, oc_oc, c1', oc_some, if_pos (show ¬ nI 23 = 26 by decide)]
    rfl
  · -- 24
    rw [e] at z3 z4 z5
    have z3 : pos + 4 ≤ n := z3
    have z4 : 0 ≤ h := z4
    have z5 : h - 0 + 0 ≤ 64 := z5
    have hL : lop cd (fun _ => 0) 0 bt pos h sk va nk kp = (pos + 4, h, sk, ajv (aop 24) (fun i => 0) (fun i => 0) (cd (pos + 1)) (cd (pos + 2)) (cd (pos + 3)) 16 0 va, nk, kp) := by unfold lop; rw [e]; rfl
    rw [hL]
    have n27 : cd pos ≠ 27 := by omega
    rw [show opl (cd pos) = 4 by rw [e]; rfl]
    have hv1 : v1 = nI (cd (pos + 1)) := hv1 (by rw [e]; decide)
    subst hv1
    rw [e]
    unfold cMid
    obtain ⟨wp, wq, wr⟩ := wa5 (by omega)
    obtain ⟨J4, c1, c2, c3⟩ := JAV (e := fun _ => 0) (p3 := nI 24) (sh := nI 0) (c := 24) (a := pos + 2) hn (by decide) (by decide) wp wq wr (by omega) rfl rfl (by omega) rfl 16 gF 0 0 va J (by omega) (by decide) hv hr hp (Or.inl ⟨rfl, fun _ _ => rfl⟩)
    have c1' : f_Hall_joinArrays_26 w (nI 24) gF (nI 24) (nI (pos + 2)) (nI 0) 0 0 I J = some (0, I, J4) := c1
    have sr := fun {α : Type} {F : Int32 → MI → MJ → Option α} => SHR (F := F) (J := J) hn hr hp z2 (by rw [e]; exact z3)
    rw [if_neg hop, e] at sr
    refine ⟨I, J4, ?_, c2, c3.fw, fun _ => rfl, fun h => absurd h (by decide)⟩
    unfold f_Hall_joinArrays f_Hall_firstArrayAt
    rw [if_neg (by decide), if_neg (by decide), if_neg (by decide), if_neg (by decide), if_neg (by decide), if_neg (by decide), if_neg (by decide), if_neg (by decide), hp, if_pos (show ¬ nI 24 = 26 by decide), oc_some, show nI pos + 2 = nI (pos + 2) from nI_add pos 2, oc_oc, sr, oc_oc, c1', oc_some, if_pos (show ¬ nI 24 = 26 by decide)]
    rfl
  · -- 25
    rw [e] at z3 z4 z5
    have z3 : pos + 4 ≤ n := z3
    have z4 : 0 ≤ h := z4
    have z5 : h - 0 + 0 ≤ 64 := z5
    have hL : lop cd (fun _ => 0) 0 bt pos h sk va nk kp = (pos + 4, h, sk, ajv (aop 25) (fun i => 0) (fun i => 0) (cd (pos + 1)) (cd (pos + 2)) (cd (pos + 3)) 16 0 va, nk, kp) := by unfold lop; rw [e]; rfl
    rw [hL]
    have n27 : cd pos ≠ 27 := by omega
    rw [show opl (cd pos) = 4 by rw [e]; rfl]
    have hv1 : v1 = nI (cd (pos + 1)) := hv1 (by rw [e]; decide)
    subst hv1
    rw [e]
    unfold cMid
    obtain ⟨wp, wq, wr⟩ := wa5 (by omega)
    obtain ⟨J4, c1, c2, c3⟩ := JAV (e := fun _ => 0) (p3 := nI 25) (sh := nI 0) (c := 25) (a := pos + 2) hn (by decide) (by decide) wp wq wr (by omega) rfl rfl (by omega) rfl 16 gF 0 0 va J (by omega) (by decide) hv hr hp (Or.inl ⟨rfl, fun _ _ => rfl⟩)
    have c1' : f_Hall_joinArrays_26 w (nI 25) gF (nI 25) (nI (pos + 2)) (nI 0) 0 0 I J = some (0, I, J4) := c1
    have sr := fun {α : Type} {F : Int32 → MI → MJ → Option α} => SHR (F := F) (J := J) hn hr hp z2 (by rw [e]; exact z3)
    rw [if_neg hop, e] at sr
    refine ⟨I, J4, ?_, c2, c3.fw, fun _ => rfl, fun h => absurd h (by decide)⟩
    unfold f_Hall_joinArrays f_Hall_firstArrayAt
    rw [if_neg (by decide), if_neg (by decide), if_neg (by decide), if_neg (by decide), if_neg (by decide), if_neg (by decide), if_neg (by decide), if_neg (by decide), hp, if_pos (show ¬ nI 25 = 26 by decide), oc_some, show nI pos + 2 = nI (pos + 2) from nI_add pos 2, oc_oc, sr, oc_oc, c1', oc_some, if_pos (show ¬ nI 25 = 26 by decide)]
    rfl
  · -- 26
    rw [e] at z3 z4 z5
    have z3 : pos + 3 ≤ n := z3
    have z4 : 0 ≤ h := z4
    have z5 : h - 0 + 1 ≤ 64 := z5
    have hL : lop cd (fun _ => 0) 0 bt pos h sk va nk kp = (pos + 3, h + 1, apn sk h (ajs (fun i => 0) (fun i => 0) (cd (pos + 1)) (cd (pos + 2)) va 16 0 0), va, nk, kp) := by unfold lop; rw [e]; rfl
    rw [hL]
    have n27 : cd pos ≠ 27 := by omega
    rw [show opl (cd pos) = 3 by rw [e]; rfl]
    have hv1 : v1 = nI (cd (pos + 1)) := hv1 (by rw [e]; decide)
    subst hv1
    rw [e]
    unfold cMid
    obtain ⟨wp, wq⟩ := wa6 (by omega)
    obtain ⟨s1, s2⟩ := JAS (e := fun _ => 0) (p3 := nI 26) (sh := nI 0) (a := pos + 1) hn wp wq (by omega) rfl rfl hv hr (Or.inl ⟨rfl, fun _ _ => rfl⟩) 16 gF 0 0 (by omega) (by decide) pP_pos
    have s1' : f_Hall_joinArrays_26 w (nI 26) gF (nI 26) (nI (pos + 1)) (nI 0) 0 0 I J = some (lN (ajs (fun i => 0) (fun i => 0) (cd (pos + 1)) (cd (pos + 1 + 1)) va 16 0 0), I, J) := s1
    obtain ⟨I4, J4, c1, c2, c3⟩ := PSH hv (v := ajs (fun i => 0) (fun i => 0) (cd (pos + 1)) (cd (pos + 1 + 1)) va 16 0 0) (by omega) s2
    have sr := fun {α : Type} {F : Int32 → MI → MJ → Option α} => SHR (F := F) (J := J) hn hr hp z2 (by rw [e]; exact z3)
    rw [if_neg hop, e] at sr
    refine ⟨I4, J4, ?_, c2, c3.fw, fun _ => m31 c3, fun h => absurd h (by decide)⟩
    unfold f_Hall_joinArrays f_Hall_firstArrayAt
    rw [if_neg (by decide), if_neg (by decide), if_neg (by decide), if_neg (by decide), if_neg (by decide), if_neg (by decide), if_neg (by decide), if_neg (by decide), hp, if_neg (show ¬ ¬ nI 26 = 26 from fun x => x rfl), oc_some, nI_1 pos, oc_oc, sr, oc_oc, s1', oc_some, if_neg (show ¬ ¬ nI 26 = 26 from fun x => x rfl), oc_oc, c1]
    rfl
  · -- 27
    rw [e] at z3 z4 z5
    have z3 : pos + 2 ≤ n := z3
    have z4 : 0 ≤ h := z4
    have z5 : h - 0 + 0 ≤ 64 := z5
    have hL : lop cd (fun _ => 0) 0 bt pos h sk va nk kp = (pos + 2, h, sk, apn va (13 + cd (pos + 1)) bt, nk, kp) := by unfold lop; rw [e]; rfl
    rw [hL]
    have n27 : cd pos = 27 := by omega
    rw [show opl (cd pos) = 2 by rw [e]; rfl]
    have hv1 : v1 = nI (cd (pos + 1)) := hv1 (by rw [e]; decide)
    subst hv1
    rw [e]
    unfold cMid
    obtain ⟨b, hb1, hb2, hb3⟩ := l5 e
    have wp := wa1 (by omega)
    obtain ⟨dw, dd, dn⟩ := dg_next (J 14 7 + 7000003) (lN b) (va_up I (31 + 21 * w) (upd (I (31 + 21 * w)) 2 (nI (b + 1)))) J
    have fr : ∀ a, a ≠ 31 + 21 * w → a ≠ 109 → a ≠ 110 → (va_up (va_up (va_up I (31 + 21 * w) (upd (I (31 + 21 * w)) 2 (nI (b + 1)))) 109 dw) 110 dd) a = I a := fun a a1 a2 a3 => by rw [va_up_ne _ _ a3, va_up_ne _ _ a2, va_up_ne _ _ a1]
    have hv2 : CV (va_up (va_up (va_up I (31 + 21 * w) (upd (I (31 + 21 * w)) 2 (nI (b + 1)))) 109 dw) 110 dd) J w h sk va nk kp := CV_fr hv (fr _ (by omega) (by omega) (by omega)) (fr _ (by omega) (by omega) (by omega)) rfl rfl rfl rfl
    have hbt : bt < pP := by rw [hb3]; have : pP = 2305843009213693951 := rfl; omega
    obtain ⟨J4, c1, c2, c3⟩ := WRS hv2 (k := cd (pos + 1)) (v := bt) wp hbt
    have k31 : (va_up (va_up (va_up I (31 + 21 * w) (upd (I (31 + 21 * w)) 2 (nI (b + 1)))) 109 dw) 110 dd) (31 + 21 * w) = upd (I (31 + 21 * w)) 2 (nI (b + 1)) := by rw [va_up_ne _ _ (by omega), va_up_ne _ _ (by omega), va_up_self]
    refine ⟨_, J4, ?_, c2, ⟨fun a a1 a2 a3 a4 a5 => fr a a3 a4 a5, fun j hj => by rw [k31, upd_n _ _ hj], c3.2⟩, fun h => absurd rfl h, fun _ => by rw [k31, upd_s, hb2, nI_1]⟩
    unfold f_Hall_nextBit
    have cl2 : Int32.toNatClampNeg 2 = 2 := by decide
    rw [if_neg (by decide), if_neg (by decide), if_neg (by decide), if_neg (by decide), if_neg (by decide), if_neg (by decide), if_neg (by decide), if_pos (by decide), cl2, if_neg (show ¬ ((2 : Int32) < 0 ∨ 3 ≤ 2) by decide), pl_eq, if_neg (show ¬ ((2 : Int32) < 0 ∨ 3 ≤ 2) by decide), if_neg (show ¬ ((2 : Int32) < 0 ∨ 3 ≤ 2) by decide), pl_eq, hb2, nI_1, nI_l hb1, oc_oc, dn, oc_some, oc_some, bit1 (m := dg_n (J 14 7 + 7000003) (lN b)) (Nat.mod_lt _ pP_pos), ← hb3, c1]
  · -- 28
    rw [e] at z3 z4 z5
    have z3 : pos + 3 ≤ n := z3
    have z4 : 0 ≤ h := z4
    have z5 : h - 0 + 0 ≤ 64 := z5
    have hL : lop cd (fun _ => 0) 0 bt pos h sk va nk kp = (tgt cd pos, h, sk, va, nk + 1, apn kp nk (pos + 3)) := by unfold lop; rw [e]; rfl
    rw [hL]
    have n27 : cd pos ≠ 27 := by omega
    rw [show opl (cd pos) = 3 by rw [e]; rfl]
    have hv1 : v1 = nI (cd (pos + 1)) := hv1 (by rw [e]; decide)
    subst hv1
    rw [e]
    unfold cMid
    obtain ⟨I2, a1, a2, a3⟩ := KEP hv (v := pos + 3) (l3 e)
    refine ⟨I2, J, ?_, a2, a3.fw, fun _ => m31 a3, fun h => absurd h (by decide)⟩
    have hr2 : rowC I2 15 16 n cd := rowC_f2 hr (a3.1 15 (by omega) (by omega)) (a3.1 16 (by omega) (by omega))
    unfold f_Hall_jump
    rw [if_neg (by decide), if_neg (by decide), if_neg (by decide), if_neg (by decide), if_neg (by decide), if_pos (by decide), pl_eq, hp, if_pos (show ¬ nI 28 = 17 by decide), if_pos (show ¬ nI 28 = 29 by decide), if_neg (show ¬ ¬ nI 28 = 28 from fun x => x rfl), oc_oc, oc_oc, a1, oc_some, nI_1 pos, oc_oc, TGTC hr2 hn (by omega), oc_some]
    have ht : tgt cd pos = 256 * cd (pos + 1) + cd (pos + 1 + 1) := by unfold tgt; rw [if_neg (by omega)]
    rw [ht]
  · -- 29
    rw [e] at z3 z4 z5
    have z3 : pos + 1 ≤ n := z3
    have z4 : 0 ≤ h := z4
    have z5 : h - 0 + 0 ≤ 64 := z5
    have hL : lop cd (fun _ => 0) 0 bt pos h sk va nk kp = (kp (nk - 1), h, sk, va, nk - 1, kp) := by unfold lop; rw [e]; rfl
    rw [hL]
    have n27 : cd pos ≠ 27 := by omega
    rw [show opl (cd pos) = 1 by rw [e]; rfl]
    rw [e]
    unfold cMid
    obtain ⟨I2, a1, a2, a3⟩ := LKP hv (l4 e)
    refine ⟨I2, J, ?_, a2, a3.fw, fun _ => m31 a3, fun h => absurd h (by decide)⟩
    unfold f_Hall_jump
    rw [if_neg (by decide), if_neg (by decide), if_neg (by decide), if_neg (by decide), if_neg (by decide), if_pos (by decide), pl_eq, if_pos (show ¬ nI 29 = 17 by decide), if_neg (show ¬ ¬ nI 29 = 29 from fun x => x rfl), oc_oc, a1]
    rfl
end OPS
