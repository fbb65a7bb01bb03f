/-! the run: a step without sending, in the reference -/
def FA (w : Nat) (I I1 : MI) (J J1 : MJ) : Prop := (∀ a, a ≠ 145 → a ≠ 140 → a ≠ 141 → a ≠ 127 → a ≠ 128 → a ≠ 123 → a ≠ 160 → a ≠ 161 → I1 a = I a) ∧ (∀ i, i ≠ w → I1 145 i = I 145 i ∧ I1 141 i = I 141 i ∧ I1 127 i = I 127 i ∧ I1 128 i = I 128 i ∧ I1 123 i = I 123 i) ∧ (∀ i, i < 16 * w ∨ 16 * w + 16 ≤ i → I1 140 i = I 140 i) ∧ (∀ a, a ≠ 143 → a ≠ 144 → J1 a = J a) ∧ (∀ i, i < 154 * w ∨ 154 * w + 154 ≤ i → J1 143 i = J 143 i) ∧ (∀ i, i < 65 * w ∨ 65 * w + 65 ≤ i → J1 144 i = J 144 i)
theorem FN.fa {w : Nat} {I I1 : MI} {J J1 : MJ} (h : FN w I I1 J J1) : FA w I I1 J J1 := ⟨fun a a1 a2 a3 _ _ _ _ _ => h.1 a a1 a2 a3, fun i hi => ⟨(h.2.1 i hi).1, (h.2.1 i hi).2, by rw [h.1 127 (by decide) (by decide) (by decide)], by rw [h.1 128 (by decide) (by decide) (by decide)], by rw [h.1 123 (by decide) (by decide) (by decide)]⟩, h.2.2⟩
theorem FA.tr {w : Nat} {I I1 I2 : MI} {J J1 J2 : MJ} (h : FA w I I1 J J1) (k : FA w I1 I2 J1 J2) : FA w I I2 J J2 := ⟨fun a a1 a2 a3 a4 a5 a6 a7 a8 => (k.1 a a1 a2 a3 a4 a5 a6 a7 a8).trans (h.1 a a1 a2 a3 a4 a5 a6 a7 a8), fun i hi => ⟨(k.2.1 i hi).1.trans (h.2.1 i hi).1, (k.2.1 i hi).2.1.trans (h.2.1 i hi).2.1, (k.2.1 i hi).2.2.1.trans (h.2.1 i hi).2.2.1, (k.2.1 i hi).2.2.2.1.trans (h.2.1 i hi).2.2.2.1, (k.2.1 i hi).2.2.2.2.trans (h.2.1 i hi).2.2.2.2⟩, fun i hi => (k.2.2.1 i hi).trans (h.2.2.1 i hi), fun a a1 a2 => (k.2.2.2.1 a a1 a2).trans (h.2.2.2.1 a a1 a2), fun i hi => (k.2.2.2.2.1 i hi).trans (h.2.2.2.2.1 i hi), fun i hi => (k.2.2.2.2.2 i hi).trans (h.2.2.2.2.2 i hi)⟩
/-- another row, at this party's place, or a row of none's -/
theorem FA_u {w a : Nat} {I : MI} {J : MJ} {x : Int32} (ha : a = 127 ∨ a = 128 ∨ a = 123) : FA w I (va_up I a (upd (I a) w x)) J J := by
  refine ⟨fun b _ _ _ b4 b5 b6 _ _ => va_up_ne _ _ (by omega), fun i hi => ⟨by rw [va_up_ne _ _ (by omega)], by rw [va_up_ne _ _ (by omega)], ?_, ?_, ?_⟩, fun i _ => by rw [va_up_ne _ _ (by omega)], fun _ _ _ => rfl, fun _ _ => rfl, fun _ _ => rfl⟩
  · by_cases e : a = 127
    · subst e
      rw [va_up_self, upd_n _ _ hi]
    · rw [va_up_ne _ _ (Ne.symm e)]
  · by_cases e : a = 128
    · subst e
      rw [va_up_self, upd_n _ _ hi]
    · rw [va_up_ne _ _ (Ne.symm e)]
  · by_cases e : a = 123
    · subst e
      rw [va_up_self, upd_n _ _ hi]
    · rw [va_up_ne _ _ (Ne.symm e)]
theorem aop4 (x y : Nat) : aop 4 x y = pA x y := by unfold aop; rw [if_pos (Or.inl rfl)]
theorem aop5 (x y : Nat) : aop 5 x y = pS x y := by unfold aop; rw [if_neg (by decide), if_pos (Or.inl rfl)]
theorem aop6 (x y : Nat) : aop 6 x y = pM x y := by unfold aop; rw [if_neg (by decide), if_neg (by decide)]
section OPS
variable {cd va sk kp e : Nat → Nat} {n P w h nk pos bt : Nat} {st : Nat → Bool} {hg : Nat → Nat} {I : MI} {J : MJ}
theorem FINN {I2 : MI} {J2 : MJ} (hw : w < 4) (hr : ∀ k, k < n → I 114 k = nI (cd k)) (hn : n ≤ 2000) (hp : I 127 w = nI pos) (hpn : pos < n) (hop : cd pos ≤ 29) (hv : RV I2 J2 w h sk va nk kp) (hf : FA w I I2 J J2) (h7 : I2 127 w = I 127 w) : ∃ I3, (∀ {α : Type} {F : Unit → MI → MJ → Option α}, oc (f_Model_next (nI w) I2 J2) F = F () I3 J2) ∧ RV I3 J2 w h sk va nk kp ∧ I3 127 w = nI (pos + opl (cd pos)) ∧ I3 128 w = nI 0 ∧ FA w I I3 J J2 ∧ I3 123 = I2 123 := by
  refine ⟨_, fun {α F} => mNXT hw (fun k hk => by rw [hf.1 114 (by decide) (by decide) (by decide) (by decide) (by decide) (by decide) (by decide) (by decide)]; exact hr k hk) hn (h7.trans hp) hpn hop, RV_o (by decide) (RV_o (by decide) hv), ?_, ?_, ?_, ?_⟩
  · rw [va_up_ne _ _ (by decide), va_up_self, upd_s]
  · rw [va_up_self, upd_s]
    rfl
  · have a1 := FA_u (w := w) (I := I2) (J := J2) (a := 127) (x := nI (pos + opl (cd pos))) (Or.inl rfl)
    have a2 := FA_u (w := w) (I := va_up I2 127 (upd (I2 127) w (nI (pos + opl (cd pos))))) (J := J2) (a := 128) (x := 0) (Or.inr (Or.inl rfl))
    rw [va_up_ne _ _ (show 128 ≠ 127 by decide)] at a2
    exact hf.tr (a1.tr a2)
  · rw [va_up_ne _ _ (by decide), va_up_ne _ _ (by decide)]
theorem mIJ (hr : ∀ k, k < n → I 114 k = nI (cd k)) (hb : ∀ k, k < n → cd k < 256) (hn : n ≤ 2000) (hpn : pos < n) (hop : cd pos ≤ 29) (hl : pos + opl (cd pos) ≤ n) [Decidable (jnt cd pos)] {α : Type} {F : Int32 → MI → MJ → Option α} : oc (f_Model_isJoint (nI pos) I J) F = F (if jnt cd pos then nI 1 else nI 0) I J := by
  have sp : ∀ {a : Nat}, a < 256 → ∀ {β : Type} {G : Int32 → MI → MJ → Option β}, oc (f_Model_isSecretPart (nI a) I J) G = G (if 4 ≤ a then nI 1 else nI 0) I J := by
    intro a ha β G
    unfold f_Model_isSecretPart
    by_cases x : 4 ≤ a
    · rw [if_pos x]
      first
        | rw [if_pos (show 3 < nI a from (nI_ltI (a := 3) (by omega) (by omega)).mpr (by omega)), oc_some]; rfl
        | rw [if_neg (show ¬ nI a ≤ 3 from nI_ge (a := 3) (by omega) (by omega)), oc_some]; rfl
    · rw [if_neg x]
      first
        | rw [if_neg (show ¬ 3 < nI a from fun y => by have := (nI_ltI (a := 3) (by omega) (by omega)).mp y; omega), oc_some]; rfl
        | rw [if_pos (show nI a ≤ 3 from nI_le (b := 3) (by omega) (by omega)), oc_some]; rfl
  have pair : ∀ a b, a < n → b < n → (jnt cd pos ↔ 4 ≤ cd a ∧ 4 ≤ cd b) → oc (oc (f_Model_isSecretPart (I 114 a) I J) (fun v6 I6 J6 => if v6 = 0 then (some ((0 : Int32), I6, J6)) else (if nI b < 0 ∨ 2400 ≤ Int32.toNatClampNeg (nI b) then none else (oc (f_Model_isSecretPart (I6 114 (Int32.toNatClampNeg (nI b))) I6 J6) (fun v9 I9 J9 => if v9 = 0 then (some (0, I9, J9)) else (some (1, I9, J9))))))) F = F (if jnt cd pos then nI 1 else nI 0) I J := by
    intro a b ha hb' hiff
    have b1 := hb a ha
    have b2 := hb b hb'
    rw [hr a ha, oc_oc, sp b1]
    by_cases x : 4 ≤ cd a
    · rw [if_pos x, if_neg (show ¬ nI 1 = 0 by decide), if_neg (nI_in (by omega) (by decide)), nI_clamp (by omega), hr b hb', oc_oc, sp b2]
      by_cases y : 4 ≤ cd b
      · rw [if_pos y, if_neg (show ¬ nI 1 = 0 by decide), oc_some, if_pos (hiff.mpr ⟨x, y⟩)]
        rfl
      · rw [if_neg y, if_pos (show nI 0 = 0 from rfl), oc_some, if_neg (fun z => y (hiff.mp z).2)]
        rfl
    · rw [if_neg x, if_pos (show nI 0 = 0 from rfl), oc_some, if_neg (fun z => x (hiff.mp z).1)]
      rfl
  have a1 : nI pos + 1 = nI (pos + 1) := nI_1 pos
  have a2 : nI pos + 2 = nI (pos + 2) := nI_add pos 2
  have a3 : nI pos + 3 = nI (pos + 3) := nI_add pos 3
  unfold f_Model_isJoint
  have z : ¬ (nI pos < 0 ∨ 2400 ≤ pos) := nin (by omega) (by decide)
  rw [nI_clamp (n := pos) (by omega), if_neg z, hr pos hpn, a1, a2, a3]
  by_cases x25 : cd pos = 25
  · rw [x25, show opl 25 = 4 from rfl] at hl
    rw [if_neg (show ¬ ¬ nI (cd pos) = 25 from fun y => y (by rw [x25]; rfl)), if_neg (nI_in (by omega) (by decide)), nI_clamp (n := pos + 2) (by omega)]
    exact pair (pos + 2) (pos + 3) (by omega) (by omega) (by unfold jnt; omega)
  · rw [if_pos (show ¬ nI (cd pos) = 25 from fun y => x25 ((nI_eq (b := 25) (by omega) (by omega)).mp y)), if_neg z]
    by_cases x26 : cd pos = 26
    · rw [x26, show opl 26 = 3 from rfl] at hl
      rw [if_neg (show ¬ ¬ nI (cd pos) = 26 from fun y => y (by rw [x26]; rfl)), if_neg (nI_in (by omega) (by decide)), nI_clamp (n := pos + 1) (by omega)]
      exact pair (pos + 1) (pos + 2) (by omega) (by omega) (by unfold jnt; omega)
    · rw [if_pos (show ¬ nI (cd pos) = 26 from fun y => x26 ((nI_eq (b := 26) (by omega) (by omega)).mp y)), oc_some, if_neg (show ¬ jnt cd pos by unfold jnt; omega)]
      rfl
theorem mACT [Decidable (jnt cd pos)] (hW : WFc cd n P st hg) (hw : w < 4) (hs : st pos = true) (hh : hg pos = h) (hv : RV I J w h sk va nk kp) (hr : ∀ k, k < n → I 114 k = nI (cd k)) (hp : I 127 w = nI pos) (hph : I 128 w = nI 0) (hop : ¬ shd cd pos) (hop2 : 4 ≤ cd pos) (hop3 : cd pos ≠ 15) (hop4 : cd pos ≠ 16) (l1 : cd pos = 19 ∨ cd pos = 20 → sk (h - 1) < 16) (l2 : cd pos = 21 ∨ cd pos = 22 → sk (h - 2) < 16) (l3 : cd pos = 28 → nk < 16) (l4 : cd pos = 29 → 1 ≤ nk) (l5 : cd pos = 27 → ∃ b, b < 2 ^ 31 ∧ I 123 w = nI b ∧ bt = dg_n (J 112 21) (lN b) % 2) : ∃ I1 J1, f_Model_act (nI w) I J = some (1, I1, J1) ∧ RV I1 J1 w (lop cd (fun _ => 0) 0 bt pos h sk va nk kp).2.1 (lop cd (fun _ => 0) 0 bt pos h sk va nk kp).2.2.1 (lop cd (fun _ => 0) 0 bt pos h sk va nk kp).2.2.2.1 (lop cd (fun _ => 0) 0 bt pos h sk va nk kp).2.2.2.2.1 (lop cd (fun _ => 0) 0 bt pos h sk va nk kp).2.2.2.2.2 ∧ I1 127 w = nI (lop cd (fun _ => 0) 0 bt pos h sk va nk kp).1 ∧ I1 128 w = nI 0 ∧ FA w I I1 J J1 ∧ (cd pos ≠ 27 → I1 123 = I 123) ∧ (cd pos = 27 → I1 123 w = I 123 w + 1) := by
  obtain ⟨z1, z2, z3, z4, z5⟩ := WF_h hW hs
  have hn := hW.2.1
  have hb := hW.2.2.1
  obtain ⟨wa1, wa2, wa3, wa4, wa5, wa6⟩ := WF_a hW hs
  rw [hh] at z4 z5
  have i114 : ∀ {I2 : MI} {J2 : MJ}, FN w I I2 J J2 → I2 114 = I 114 := fun f => f.1 114 (by decide) (by decide) (by decide)
  have i127 : ∀ {I2 : MI} {J2 : MJ}, FN w I I2 J J2 → I2 127 w = I 127 w := fun f => by rw [f.1 127 (by decide) (by decide) (by decide)]
  have i123 : ∀ {I2 : MI} {J2 : MJ}, FN w I I2 J J2 → I2 123 = I 123 := fun f => f.1 123 (by decide) (by decide) (by decide)
  have zw := nin hw (show 4 < 2 ^ 31 by decide)
  have zp : ¬ (nI pos < 0 ∨ 2400 ≤ pos) := nin (by omega) (by decide)
  have a1' : nI pos + 1 = nI (pos + 1) := nI_1 pos
  have nj : ¬ jnt cd pos := fun x => hop (Or.inr (Or.inr (Or.inr (Or.inr x))))
  have cases' := cas20 z2 hop2 (fun x => hop (Or.inl x)) (fun x => hop (Or.inr (Or.inl x))) (fun x => hop (Or.inr (Or.inr (Or.inl x)))) (fun x => hop (Or.inr (Or.inr (Or.inr (Or.inl x))))) hop3 hop4
  rcases cases' with e1 | e1 | e1 | e1 | e1 | e1 | e1 | e1 | e1 | e1 | e1 | e1 | e1 | e1 | e1 | e1 | e1 | e1 | e1 | e1
  · -- 4
    have z3 : pos + 1 ≤ n := by rw [e1] at z3; exact z3
    have z4 : 2 ≤ h := by rw [e1] at z4; exact z4
    have z5 : h - 2 + 1 ≤ 64 := by rw [e1] at z5; exact z5
    have hL : lop cd (fun _ => 0) 0 bt pos h sk va nk kp = (pos + 1, h - 1, apn sk (h - 2) (aop 4 (sk (h - 2)) (sk (h - 1))), va, nk, kp) := by unfold lop; rw [e1]; rfl
    rw [hL]
    have n27 : cd pos ≠ 27 := by omega
    obtain ⟨I2, a1, a2, a3⟩ := mPOP hw hv (by omega)
    obtain ⟨I3, b1, b2, b3⟩ := mPOP hw a2 (by omega)
    obtain ⟨I4, J4, c1, c2, c3⟩ := mPSH hw b2 (v := aop 4 (sk (h - 2)) (sk (h - 1))) (by omega) (aop_lt _ _ _)
    rw [show h - 1 - 1 = h - 2 by omega] at b1 c2
    rw [show h - 2 + 1 = h - 1 by omega] at c2
    obtain ⟨I9, f1, f2, f3, f4, f5, f6⟩ := FINN hw hr hn hp z1 z2 c2 (a3.tr (b3.tr c3)).fa (i127 (a3.tr (b3.tr c3)))
    rw [show opl (cd pos) = 1 by rw [e1]; rfl] at f3
    refine ⟨I9, J4, ?_, f2, f3, f4, f5, fun _ => f6.trans (i123 (a3.tr (b3.tr c3))), fun x => absurd x n27⟩
    rw [aop4] at c1
    unfold f_Model_act; rw [nI_clamp (n := w) (by omega), if_neg zw, pl_eq, hp, if_neg (nI_in (by omega) (by decide)), nI_clamp (n := pos) (by omega), pl_eq, pl_eq, hr pos z1, e1, if_pos (by decide), a1, b1, if_neg (show ¬ ¬ nI 4 = 4 from fun x => x rfl), oc_oc, o_mA (RV_sk hv (by omega)) (RV_sk hv (by omega)), oc_some, c1, f1]
  · -- 5
    have z3 : pos + 1 ≤ n := by rw [e1] at z3; exact z3
    have z4 : 2 ≤ h := by rw [e1] at z4; exact z4
    have z5 : h - 2 + 1 ≤ 64 := by rw [e1] at z5; exact z5
    have hL : lop cd (fun _ => 0) 0 bt pos h sk va nk kp = (pos + 1, h - 1, apn sk (h - 2) (aop 5 (sk (h - 2)) (sk (h - 1))), va, nk, kp) := by unfold lop; rw [e1]; rfl
    rw [hL]
    have n27 : cd pos ≠ 27 := by omega
    obtain ⟨I2, a1, a2, a3⟩ := mPOP hw hv (by omega)
    obtain ⟨I3, b1, b2, b3⟩ := mPOP hw a2 (by omega)
    obtain ⟨I4, J4, c1, c2, c3⟩ := mPSH hw b2 (v := aop 5 (sk (h - 2)) (sk (h - 1))) (by omega) (aop_lt _ _ _)
    rw [show h - 1 - 1 = h - 2 by omega] at b1 c2
    rw [show h - 2 + 1 = h - 1 by omega] at c2
    obtain ⟨I9, f1, f2, f3, f4, f5, f6⟩ := FINN hw hr hn hp z1 z2 c2 (a3.tr (b3.tr c3)).fa (i127 (a3.tr (b3.tr c3)))
    rw [show opl (cd pos) = 1 by rw [e1]; rfl] at f3
    refine ⟨I9, J4, ?_, f2, f3, f4, f5, fun _ => f6.trans (i123 (a3.tr (b3.tr c3))), fun x => absurd x n27⟩
    rw [aop5] at c1
    unfold f_Model_act; rw [nI_clamp (n := w) (by omega), if_neg zw, pl_eq, hp, if_neg (nI_in (by omega) (by decide)), nI_clamp (n := pos) (by omega), pl_eq, pl_eq, hr pos z1, e1, if_pos (by decide), a1, b1, if_pos (show ¬ nI 5 = 4 by decide), if_neg (show ¬ ¬ nI 5 = 5 from fun x => x rfl), oc_oc, o_mS (RV_sk hv (by omega)) (RV_sk hv (by omega)), oc_some, c1, f1]
  · -- 6
    have z3 : pos + 1 ≤ n := by rw [e1] at z3; exact z3
    have z4 : 2 ≤ h := by rw [e1] at z4; exact z4
    have z5 : h - 2 + 1 ≤ 64 := by rw [e1] at z5; exact z5
    have hL : lop cd (fun _ => 0) 0 bt pos h sk va nk kp = (pos + 1, h - 1, apn sk (h - 2) (aop 6 (sk (h - 2)) (sk (h - 1))), va, nk, kp) := by unfold lop; rw [e1]; rfl
    rw [hL]
    have n27 : cd pos ≠ 27 := by omega
    obtain ⟨I2, a1, a2, a3⟩ := mPOP hw hv (by omega)
    obtain ⟨I3, b1, b2, b3⟩ := mPOP hw a2 (by omega)
    obtain ⟨I4, J4, c1, c2, c3⟩ := mPSH hw b2 (v := aop 6 (sk (h - 2)) (sk (h - 1))) (by omega) (aop_lt _ _ _)
    rw [show h - 1 - 1 = h - 2 by omega] at b1 c2
    rw [show h - 2 + 1 = h - 1 by omega] at c2
    obtain ⟨I9, f1, f2, f3, f4, f5, f6⟩ := FINN hw hr hn hp z1 z2 c2 (a3.tr (b3.tr c3)).fa (i127 (a3.tr (b3.tr c3)))
    rw [show opl (cd pos) = 1 by rw [e1]; rfl] at f3
    refine ⟨I9, J4, ?_, f2, f3, f4, f5, fun _ => f6.trans (i123 (a3.tr (b3.tr c3))), fun x => absurd x n27⟩
    rw [aop6] at c1
    unfold f_Model_act; rw [nI_clamp (n := w) (by omega), if_neg zw, pl_eq, hp, if_neg (nI_in (by omega) (by decide)), nI_clamp (n := pos) (by omega), pl_eq, pl_eq, hr pos z1, e1, if_pos (by decide), a1, b1, if_pos (show ¬ nI 6 = 4 by decide), if_pos (show ¬ nI 6 = 5 by decide), oc_oc, o_mM (RV_sk hv (by omega)) (RV_sk hv (by omega)), oc_some, c1, f1]
  · -- 8
    have z3 : pos + 1 ≤ n := by rw [e1] at z3; exact z3
    have z4 : 1 ≤ h := by rw [e1] at z4; exact z4
    have z5 : h - 1 + 1 ≤ 64 := by rw [e1] at z5; exact z5
    have hL : lop cd (fun _ => 0) 0 bt pos h sk va nk kp = (pos + 1, h, apn sk (h - 1) (pS 0 (sk (h - 1))), va, nk, kp) := by unfold lop; rw [e1]; rfl
    rw [hL]
    have n27 : cd pos ≠ 27 := by omega
    obtain ⟨I2, a1, a2, a3⟩ := mPOP hw hv (by omega)
    obtain ⟨I4, J4, c1, c2, c3⟩ := mPSH hw a2 (v := pS 0 (sk (h - 1))) (by omega) (pS_lt _ _)
    rw [show h - 1 + 1 = h by omega] at c2
    obtain ⟨I9, f1, f2, f3, f4, f5, f6⟩ := FINN hw hr hn hp z1 z2 c2 (a3.tr c3).fa (i127 (a3.tr c3))
    rw [show opl (cd pos) = 1 by rw [e1]; rfl] at f3
    refine ⟨I9, J4, ?_, f2, f3, f4, f5, fun _ => f6.trans (i123 (a3.tr c3)), fun x => absurd x n27⟩
    unfold f_Model_act; rw [nI_clamp (n := w) (by omega), if_neg zw, pl_eq, hp, if_neg (nI_in (by omega) (by decide)), nI_clamp (n := pos) (by omega), pl_eq, pl_eq, hr pos z1, e1, if_neg (by decide), if_neg (by decide), if_pos (by decide), a1, show (0 : Int64) = lN 0 from rfl, o_mS pP_pos (RV_sk hv (by omega)), c1, f1]
  · -- 9
    have z3 : pos + 1 ≤ n := by rw [e1] at z3; exact z3
    have z4 : 1 ≤ h := by rw [e1] at z4; exact z4
    have z5 : h - 1 + 1 ≤ 64 := by rw [e1] at z5; exact z5
    have hL : lop cd (fun _ => 0) 0 bt pos h sk va nk kp = (pos + 1, h, apn sk (h - 1) (pM (sk (h - 1)) (sk (h - 1))), va, nk, kp) := by unfold lop; rw [e1]; rfl
    rw [hL]
    have n27 : cd pos ≠ 27 := by omega
    obtain ⟨I2, a1, a2, a3⟩ := mPOP hw hv (by omega)
    obtain ⟨I4, J4, c1, c2, c3⟩ := mPSH hw a2 (v := pM (sk (h - 1)) (sk (h - 1))) (by omega) (pM_lt _ _)
    rw [show h - 1 + 1 = h by omega] at c2
    obtain ⟨I9, f1, f2, f3, f4, f5, f6⟩ := FINN hw hr hn hp z1 z2 c2 (a3.tr c3).fa (i127 (a3.tr c3))
    rw [show opl (cd pos) = 1 by rw [e1]; rfl] at f3
    refine ⟨I9, J4, ?_, f2, f3, f4, f5, fun _ => f6.trans (i123 (a3.tr c3)), fun x => absurd x n27⟩
    unfold f_Model_act; rw [nI_clamp (n := w) (by omega), if_neg zw, pl_eq, hp, if_neg (nI_in (by omega) (by decide)), nI_clamp (n := pos) (by omega), pl_eq, pl_eq, hr pos z1, e1, if_neg (by decide), if_neg (by decide), if_neg (by decide), if_pos (by decide), a1, o_mM (RV_sk hv (by omega)) (RV_sk hv (by omega)), c1, f1]
  · -- 11
    have z3 : pos + 2 ≤ n := by rw [e1] at z3; exact z3
    have z4 : 1 ≤ h := by rw [e1] at z4; exact z4
    have z5 : h - 1 + 0 ≤ 64 := by rw [e1] at z5; exact z5
    have hL : lop cd (fun _ => 0) 0 bt pos h sk va nk kp = (pos + 2, h - 1, sk, apn va (cd (pos + 1)) (sk (h - 1)), nk, kp) := by unfold lop; rw [e1]; rfl
    rw [hL]
    have n27 : cd pos ≠ 27 := by omega
    have wp := wa1 (by omega)
    obtain ⟨I2, a1, a2, a3⟩ := mPOP hw hv (by omega)
    obtain ⟨c2, c3⟩ := mWRV a2 (k := cd (pos + 1)) (v := sk (h - 1)) (by omega) (RV_sk hv (by omega))
    obtain ⟨I9, f1, f2, f3, f4, f5, f6⟩ := FINN hw hr hn hp z1 z2 c2 (a3.tr c3).fa (i127 (a3.tr c3))
    rw [show opl (cd pos) = 2 by rw [e1]; rfl] at f3
    refine ⟨I9, _, ?_, f2, f3, f4, f5, fun _ => f6.trans (i123 (a3.tr c3)), fun x => absurd x n27⟩
    unfold f_Model_act; rw [nI_clamp (n := w) (by omega), if_neg zw, pl_eq, hp, if_neg (nI_in (by omega) (by decide)), nI_clamp (n := pos) (by omega), pl_eq, pl_eq, hr pos z1, e1, if_neg (by decide), if_neg (by decide), if_neg (by decide), if_neg (by decide), if_pos (by decide), if_neg (show ¬ ¬ nI 11 = 11 from fun x => x rfl), a1', if_neg (nI_in (by omega) (by decide)), nI_clamp (n := pos + 1) (by omega), hr (pos + 1) (by omega), oc_some, a1, n154, if_neg (nI_in (by omega) (by decide)), nI_clamp (by omega), pl_eq, f1]
  · -- 12
    have z3 : pos + 2 ≤ n := by rw [e1] at z3; exact z3
    have z4 : 1 ≤ h := by rw [e1] at z4; exact z4
    have z5 : h - 1 + 0 ≤ 64 := by rw [e1] at z5; exact z5
    have hL : lop cd (fun _ => 0) 0 bt pos h sk va nk kp = (pos + 2, h - 1, sk, apn va (13 + cd (pos + 1)) (sk (h - 1)), nk, kp) := by unfold lop; rw [e1]; rfl
    rw [hL]
    have n27 : cd pos ≠ 27 := by omega
    have wp := wa1 (by omega)
    obtain ⟨I2, a1, a2, a3⟩ := mPOP hw hv (by omega)
    obtain ⟨c2, c3⟩ := mWRV a2 (k := (13 + cd (pos + 1))) (v := sk (h - 1)) (by omega) (RV_sk hv (by omega))
    obtain ⟨I9, f1, f2, f3, f4, f5, f6⟩ := FINN hw hr hn hp z1 z2 c2 (a3.tr c3).fa (i127 (a3.tr c3))
    rw [show opl (cd pos) = 2 by rw [e1]; rfl] at f3
    refine ⟨I9, _, ?_, f2, f3, f4, f5, fun _ => f6.trans (i123 (a3.tr c3)), fun x => absurd x n27⟩
    unfold f_Model_act; rw [nI_clamp (n := w) (by omega), if_neg zw, pl_eq, hp, if_neg (nI_in (by omega) (by decide)), nI_clamp (n := pos) (by omega), pl_eq, pl_eq, hr pos z1, e1, if_neg (by decide), if_neg (by decide), if_neg (by decide), if_neg (by decide), if_pos (by decide), if_pos (show ¬ nI 12 = 11 by decide), a1', if_neg (nI_in (by omega) (by decide)), nI_clamp (n := pos + 1) (by omega), hr (pos + 1) (by omega), show (13 : Int32) + nI (cd (pos + 1)) = nI (13 + cd (pos + 1)) from nI_add 13 _, oc_some, a1, n154, if_neg (nI_in (by omega) (by decide)), nI_clamp (by omega), pl_eq, f1]
  · -- 17
    have z3 : pos + 4 ≤ n := by rw [e1] at z3; exact z3
    have z4 : 0 ≤ h := by rw [e1] at z4; exact z4
    have z5 : h - 0 + 0 ≤ 64 := by rw [e1] at z5; exact z5
    have hL : lop cd (fun _ => 0) 0 bt pos h sk va nk kp = (if va (cd (pos + 1)) = 0 then tgt cd pos else pos + 4, h, sk, va, nk, kp) := by unfold lop; rw [e1]; rfl
    rw [hL]
    have n27 : cd pos ≠ 27 := by omega
    have wp := wa1 (by omega)
    obtain ⟨I9, f1, f2, f3, f4, f5, f6⟩ := FINN hw hr hn hp z1 z2 hv (FN.rfl).fa (i127 (FN.rfl))
    rw [show opl (cd pos) = 4 by rw [e1]; rfl] at f3
    have rd := RV_rd hv (show cd (pos + 1) < 154 by omega)
    have h114 : I9 114 = I 114 := f5.1 114 (by decide) (by decide) (by decide) (by decide) (by decide) (by decide) (by decide) (by decide)
    by_cases x : va (cd (pos + 1)) = 0
    · refine ⟨va_up I9 127 (upd (I9 127) w (nI (tgt cd pos))), J, ?_, RV_o (by decide) f2, ?_, ?_, f5.tr (FA_u (Or.inl rfl)), fun _ => ?_, fun x => absurd x n27⟩
      · unfold f_Model_act; rw [nI_clamp (n := w) (by omega), if_neg zw, pl_eq, hp, if_neg (nI_in (by omega) (by decide)), nI_clamp (n := pos) (by omega), pl_eq, pl_eq, hr pos z1, e1, if_neg (by decide), if_neg (by decide), if_neg (by decide), if_neg (by decide), if_neg (by decide), if_neg (by decide), if_neg (by decide), if_neg (by decide), if_neg (by decide), if_pos (by decide), f1, a1', if_neg (nI_in (by omega) (by decide)), nI_clamp (n := pos + 1) (by omega), h114, hr (pos + 1) (by omega), n154, if_neg (nI_in (by omega) (by decide)), nI_clamp (by omega), rd, if_neg (show ¬ ¬ lg_cmp (lN (va (cd (pos + 1)))) 0 = 0 from fun y => y (by rw [x]; decide)), mGOL (n := n) (fun k hk => by rw [h114]; exact hr k hk) hn (Or.inl e1) (by rw [e1]; exact z3) hb, if_neg zw, pl_eq]
      · rw [va_up_self, upd_s]
        simp only [if_pos x]
      · rw [va_up_ne _ _ (by decide)]; exact f4
      · rw [va_up_ne _ _ (by decide)]; exact f6
    · refine ⟨I9, J, ?_, f2, ?_, f4, f5, fun _ => f6, fun x => absurd x n27⟩
      · unfold f_Model_act; rw [nI_clamp (n := w) (by omega), if_neg zw, pl_eq, hp, if_neg (nI_in (by omega) (by decide)), nI_clamp (n := pos) (by omega), pl_eq, pl_eq, hr pos z1, e1, if_neg (by decide), if_neg (by decide), if_neg (by decide), if_neg (by decide), if_neg (by decide), if_neg (by decide), if_neg (by decide), if_neg (by decide), if_neg (by decide), if_pos (by decide), f1, a1', if_neg (nI_in (by omega) (by decide)), nI_clamp (n := pos + 1) (by omega), h114, hr (pos + 1) (by omega), n154, if_neg (nI_in (by omega) (by decide)), nI_clamp (by omega), rd, if_pos (show ¬ lg_cmp (lN (va (cd (pos + 1)))) 0 = 0 from fun y => x ((lc_eq (m := 0) (lx_p (RV_va hv (by omega))) (by omega)).mp y))]
      · rw [f3]
        simp only [if_neg x]
  · -- 18
    have z3 : pos + 3 ≤ n := by rw [e1] at z3; exact z3
    have z4 : 0 ≤ h := by rw [e1] at z4; exact z4
    have z5 : h - 0 + 0 ≤ 64 := by rw [e1] at z5; exact z5
    have hL : lop cd (fun _ => 0) 0 bt pos h sk va nk kp = (tgt cd pos, h, sk, va, nk, kp) := by unfold lop; rw [e1]; rfl
    rw [hL]
    have n27 : cd pos ≠ 27 := by omega
    refine ⟨va_up I 127 (upd (I 127) w (nI (tgt cd pos))), J, ?_, RV_o (by decide) hv, by rw [va_up_self, upd_s], by rw [va_up_ne _ _ (by decide)]; exact hph, FA_u (Or.inl rfl), fun _ => va_up_ne _ _ (by decide), fun x => absurd x n27⟩
    unfold f_Model_act; rw [nI_clamp (n := w) (by omega), if_neg zw, pl_eq, hp, if_neg (nI_in (by omega) (by decide)), nI_clamp (n := pos) (by omega), pl_eq, pl_eq, hr pos z1, e1, if_neg (by decide), if_neg (by decide), if_neg (by decide), if_neg (by decide), if_neg (by decide), if_neg (by decide), if_neg (by decide), if_neg (by decide), if_neg (by decide), if_neg (by decide), if_pos (by decide), mGOL hr hn (Or.inr (Or.inl e1)) (by rw [e1]; exact z3) hb, if_neg zw, pl_eq]
  · -- 19
    have z3 : pos + 2 ≤ n := by rw [e1] at z3; exact z3
    have z4 : 1 ≤ h := by rw [e1] at z4; exact z4
    have z5 : h - 1 + 1 ≤ 64 := by rw [e1] at z5; exact z5
    have hL : lop cd (fun _ => 0) 0 bt pos h sk va nk kp = (pos + 2, h, apn sk (h - 1) (va (26 + 16 * cd (pos + 1) + sk (h - 1))), va, nk, kp) := by unfold lop; rw [e1]; rfl
    rw [hL]
    have n27 : cd pos ≠ 27 := by omega
    have wp := wa4 (by omega)
    have l1 := l1 (by omega)
    obtain ⟨I2, a1, a2, a3⟩ := mPOP hw hv (by omega)
    obtain ⟨I4, J4, c1, c2, c3⟩ := mPSH hw a2 (v := va (26 + 16 * cd (pos + 1) + sk (h - 1))) (by omega) (RV_va hv (by omega))
    rw [show h - 1 + 1 = h by omega] at c2
    obtain ⟨I9, f1, f2, f3, f4, f5, f6⟩ := FINN hw hr hn hp z1 z2 c2 (a3.tr c3).fa (i127 (a3.tr c3))
    rw [show opl (cd pos) = 2 by rw [e1]; rfl] at f3
    have rd := RV_rd a2 (show 26 + 16 * cd (pos + 1) + sk (h - 1) < 154 by omega)
    rw [show 154 * w + (26 + 16 * cd (pos + 1) + sk (h - 1)) = 154 * w + 26 + 16 * cd (pos + 1) + sk (h - 1) by omega] at rd
    refine ⟨I9, J4, ?_, f2, f3, f4, f5, fun _ => f6.trans (i123 (a3.tr c3)), fun x => absurd x n27⟩
    unfold f_Model_act; rw [nI_clamp (n := w) (by omega), if_neg zw, pl_eq, hp, if_neg (nI_in (by omega) (by decide)), nI_clamp (n := pos) (by omega), pl_eq, pl_eq, hr pos z1, e1, if_neg (by decide), if_neg (by decide), if_neg (by decide), if_neg (by decide), if_neg (by decide), if_neg (by decide), if_neg (by decide), if_neg (by decide), if_neg (by decide), if_neg (by decide), if_neg (by decide), if_pos (by decide), if_neg (show ¬ ¬ nI 19 = 19 from fun x => x rfl), a1', if_neg (nI_in (by omega) (by decide)), nI_clamp (n := pos + 1) (by omega), hr (pos + 1) (by omega), oc_some, mROW, a1, lN_i32 l1, nI_add, if_neg (nI_in (by omega) (by decide)), nI_clamp (by omega), rd, c1, f1]
  · -- 20
    have z3 : pos + 2 ≤ n := by rw [e1] at z3; exact z3
    have z4 : 1 ≤ h := by rw [e1] at z4; exact z4
    have z5 : h - 1 + 1 ≤ 64 := by rw [e1] at z5; exact z5
    have hL : lop cd (fun _ => 0) 0 bt pos h sk va nk kp = (pos + 2, h, apn sk (h - 1) (va (26 + 16 * (cd (pos + 1) + 4) + sk (h - 1))), va, nk, kp) := by unfold lop; rw [e1]; rfl
    rw [hL]
    have n27 : cd pos ≠ 27 := by omega
    have wp := wa4 (by omega)
    have l1 := l1 (by omega)
    obtain ⟨I2, a1, a2, a3⟩ := mPOP hw hv (by omega)
    obtain ⟨I4, J4, c1, c2, c3⟩ := mPSH hw a2 (v := va (26 + 16 * (cd (pos + 1) + 4) + sk (h - 1))) (by omega) (RV_va hv (by omega))
    rw [show h - 1 + 1 = h by omega] at c2
    obtain ⟨I9, f1, f2, f3, f4, f5, f6⟩ := FINN hw hr hn hp z1 z2 c2 (a3.tr c3).fa (i127 (a3.tr c3))
    rw [show opl (cd pos) = 2 by rw [e1]; rfl] at f3
    have rd := RV_rd a2 (show 26 + 16 * (cd (pos + 1) + 4) + sk (h - 1) < 154 by omega)
    rw [show 154 * w + (26 + 16 * (cd (pos + 1) + 4) + sk (h - 1)) = 154 * w + 26 + 16 * (cd (pos + 1) + 4) + sk (h - 1) by omega] at rd
    refine ⟨I9, J4, ?_, f2, f3, f4, f5, fun _ => f6.trans (i123 (a3.tr c3)), fun x => absurd x n27⟩
    unfold f_Model_act; rw [nI_clamp (n := w) (by omega), if_neg zw, pl_eq, hp, if_neg (nI_in (by omega) (by decide)), nI_clamp (n := pos) (by omega), pl_eq, pl_eq, hr pos z1, e1, if_neg (by decide), if_neg (by decide), if_neg (by decide), if_neg (by decide), if_neg (by decide), if_neg (by decide), if_neg (by decide), if_neg (by decide), if_neg (by decide), if_neg (by decide), if_neg (by decide), if_pos (by decide), if_pos (show ¬ nI 20 = 19 by decide), a1', if_neg (nI_in (by omega) (by decide)), nI_clamp (n := pos + 1) (by omega), hr (pos + 1) (by omega), show (4 : Int32) + nI (cd (pos + 1)) = nI (cd (pos + 1) + 4) by rw [show (4 : Int32) = nI 4 from rfl, nI_add, Nat.add_comm], oc_some, mROW, a1, lN_i32 l1, nI_add, if_neg (nI_in (by omega) (by decide)), nI_clamp (by omega), rd, c1, f1]
  · -- 21
    have z3 : pos + 2 ≤ n := by rw [e1] at z3; exact z3
    have z4 : 2 ≤ h := by rw [e1] at z4; exact z4
    have z5 : h - 2 + 0 ≤ 64 := by rw [e1] at z5; exact z5
    have hL : lop cd (fun _ => 0) 0 bt pos h sk va nk kp = (pos + 2, h - 2, sk, apn va (26 + 16 * cd (pos + 1) + sk (h - 2)) (sk (h - 1)), nk, kp) := by unfold lop; rw [e1]; rfl
    rw [hL]
    have n27 : cd pos ≠ 27 := by omega
    have wp := wa4 (by omega)
    have l2 := l2 (by omega)
    obtain ⟨I2, a1, a2, a3⟩ := mPOP hw hv (by omega)
    obtain ⟨I3, b1, b2, b3⟩ := mPOP hw a2 (by omega)
    rw [show h - 1 - 1 = h - 2 by omega] at b1 b2
    obtain ⟨c2, c3⟩ := mWRV b2 (k := 26 + 16 * cd (pos + 1) + sk (h - 2)) (v := sk (h - 1)) (by omega) (RV_sk hv (by omega))
    rw [show 154 * w + (26 + 16 * cd (pos + 1) + sk (h - 2)) = 154 * w + 26 + 16 * cd (pos + 1) + sk (h - 2) by omega] at c2 c3
    obtain ⟨I9, f1, f2, f3, f4, f5, f6⟩ := FINN hw hr hn hp z1 z2 c2 (a3.tr (b3.tr c3)).fa (i127 (a3.tr (b3.tr c3)))
    rw [show opl (cd pos) = 2 by rw [e1]; rfl] at f3
    have h114 : I2 114 = I 114 := i114 a3
    refine ⟨I9, _, ?_, f2, f3, f4, f5, fun _ => f6.trans (i123 (a3.tr (b3.tr c3))), fun x => absurd x n27⟩
    unfold f_Model_act; rw [nI_clamp (n := w) (by omega), if_neg zw, pl_eq, hp, if_neg (nI_in (by omega) (by decide)), nI_clamp (n := pos) (by omega), pl_eq, pl_eq, hr pos z1, e1, if_neg (by decide), if_neg (by decide), if_neg (by decide), if_neg (by decide), if_neg (by decide), if_neg (by decide), if_neg (by decide), if_neg (by decide), if_neg (by decide), if_neg (by decide), if_neg (by decide), if_neg (by decide), if_pos (by decide), a1, if_neg (show ¬ ¬ nI 21 = 21 from fun x => x rfl), a1', if_neg (nI_in (by omega) (by decide)), nI_clamp (n := pos + 1) (by omega), h114, hr (pos + 1) (by omega), oc_some, mROW, b1, lN_i32 l2, nI_add, if_neg (nI_in (by omega) (by decide)), nI_clamp (by omega), pl_eq, f1]
  · -- 22
    have z3 : pos + 2 ≤ n := by rw [e1] at z3; exact z3
    have z4 : 2 ≤ h := by rw [e1] at z4; exact z4
    have z5 : h - 2 + 0 ≤ 64 := by rw [e1] at z5; exact z5
    have hL : lop cd (fun _ => 0) 0 bt pos h sk va nk kp = (pos + 2, h - 2, sk, apn va (26 + 16 * (cd (pos + 1) + 4) + sk (h - 2)) (sk (h - 1)), nk, kp) := by unfold lop; rw [e1]; rfl
    rw [hL]
    have n27 : cd pos ≠ 27 := by omega
    have wp := wa4 (by omega)
    have l2 := l2 (by omega)
    obtain ⟨I2, a1, a2, a3⟩ := mPOP hw hv (by omega)
    obtain ⟨I3, b1, b2, b3⟩ := mPOP hw a2 (by omega)
    rw [show h - 1 - 1 = h - 2 by omega] at b1 b2
    obtain ⟨c2, c3⟩ := mWRV b2 (k := 26 + 16 * (cd (pos + 1) + 4) + sk (h - 2)) (v := sk (h - 1)) (by omega) (RV_sk hv (by omega))
    rw [show 154 * w + (26 + 16 * (cd (pos + 1) + 4) + sk (h - 2)) = 154 * w + 26 + 16 * (cd (pos + 1) + 4) + sk (h - 2) by omega] at c2 c3
    obtain ⟨I9, f1, f2, f3, f4, f5, f6⟩ := FINN hw hr hn hp z1 z2 c2 (a3.tr (b3.tr c3)).fa (i127 (a3.tr (b3.tr c3)))
    rw [show opl (cd pos) = 2 by rw [e1]; rfl] at f3
    have h114 : I2 114 = I 114 := i114 a3
    refine ⟨I9, _, ?_, f2, f3, f4, f5, fun _ => f6.trans (i123 (a3.tr (b3.tr c3))), fun x => absurd x n27⟩
    unfold f_Model_act; rw [nI_clamp (n := w) (by omega), if_neg zw, pl_eq, hp, if_neg (nI_in (by omega) (by decide)), nI_clamp (n := pos) (by omega), pl_eq, pl_eq, hr pos z1, e1, if_neg (by decide), if_neg (by decide), if_neg (by decide), if_neg (by decide), if_neg (by decide), if_neg (by decide), if_neg (by decide), if_neg (by decide), if_neg (by decide), if_neg (by decide), if_neg (by decide), if_neg (by decide), if_pos (by decide), a1, if_pos (show ¬ nI 22 = 21 by decide), a1', if_neg (nI_in (by omega) (by decide)), nI_clamp (n := pos + 1) (by omega), h114, hr (pos + 1) (by omega), show (4 : Int32) + nI (cd (pos + 1)) = nI (cd (pos + 1) + 4) by rw [show (4 : Int32) = nI 4 from rfl, nI_add, Nat.add_comm], oc_some, mROW, b1, lN_i32 l2, nI_add, if_neg (nI_in (by omega) (by decide)), nI_clamp (by omega), pl_eq, f1]
  · -- 23
    have z3 : pos + 4 ≤ n := by rw [e1] at z3; exact z3
    have z4 : 0 ≤ h := by rw [e1] at z4; exact z4
    have z5 : h - 0 + 0 ≤ 64 := by rw [e1] at z5; exact z5
    have hL : lop cd (fun _ => 0) 0 bt pos h sk va nk kp = (pos + 4, h, sk, ajv (aop 23) (fun i => 0) (fun i => 0) (cd (pos + 1)) (cd (pos + 2)) (cd (pos + 3)) 16 0 va, nk, kp) := by unfold lop; rw [e1]; rfl
    rw [hL]
    have n27 : cd pos ≠ 27 := by omega
    obtain ⟨wp, wq, wr⟩ := wa5 (by omega)
    obtain ⟨J4, s4, c1, c2, c3⟩ := mJAV (e := fun _ => 0) (p2 := nI w) (p3 := nI pos) (v3 := nI 0) (c := 23) hw hn (by omega) wp wq wr (by omega) rfl hr 16 gF 0 0 va J (by omega) (by decide) pP_pos hv (Or.inl ⟨rfl, fun _ _ => rfl⟩)
    have c1' : f_Model_rows_130 (nI w) (nI pos) gF (nI w) (nI pos) (nI 23) (nI 0) (nI (154 * w + 26 + 16 * cd (pos + 2))) (nI (154 * w + 26 + 16 * cd (pos + 3))) 0 0 I J = some (lN s4, I, J4) := c1
    have sr := fun {α : Type} {F : Int32 → MI → MJ → Option α} => mIJ (F := F) (J := J) hr hb hn z1 z2 (by rw [e1]; exact z3)
    rw [if_neg nj] at sr
    obtain ⟨I9, f1, f2, f3, f4, f5, f6⟩ := FINN hw hr hn hp z1 z2 c2 (c3).fa (i127 (c3))
    rw [show opl (cd pos) = 4 by rw [e1]; rfl] at f3
    refine ⟨I9, J4, ?_, f2, f3, f4, f5, fun _ => f6, fun x => absurd x n27⟩
    unfold f_Model_act; rw [nI_clamp (n := w) (by omega), if_neg zw, pl_eq, hp, if_neg (nI_in (by omega) (by decide)), nI_clamp (n := pos) (by omega), pl_eq, pl_eq, hr pos z1, e1, if_neg (by decide), if_neg (by decide), if_neg (by decide), if_neg (by decide), if_neg (by decide), if_neg (by decide), if_neg (by decide), if_neg (by decide), if_neg (by decide), if_neg (by decide), if_neg (by decide), if_neg (by decide), if_neg (by decide), if_neg (by decide), if_neg (by decide), if_neg (by decide)]
    unfold f_Model_rows
    rw [if_neg (nI_in (by omega) (by decide)), nI_clamp (n := pos) (by omega), pl_eq, hr pos z1, e1, oc_oc, sr, if_pos (show nI 0 = 0 from rfl), if_pos (show nI 0 = 0 from rfl), pl_eq, if_pos (show ¬ nI 23 = 26 by decide), show nI pos + 2 = nI (pos + 2) from nI_add pos 2, if_neg (nI_in (by omega) (by decide)), nI_clamp (n := pos + 2) (by omega), hr (pos + 2) (by omega), oc_oc, mROW, pl_eq, if_pos (show ¬ nI 23 = 26 by decide), show nI pos + 3 = nI (pos + 3) from nI_add pos 3, if_neg (nI_in (by omega) (by decide)), nI_clamp (n := pos + 3) (by omega), hr (pos + 3) (by omega), oc_oc, mROW, oc_oc, c1', oc_some, if_pos (show ¬ nI 23 = 26 by decide), oc_some, if_pos (show nI 0 = 0 from rfl), oc_oc, f1, oc_some, if_pos (show (1 : Int32) = 0 ∨ (1 : Int32) = 1 from Or.inr rfl)]
  · -- 24
    have z3 : pos + 4 ≤ n := by rw [e1] at z3; exact z3
    have z4 : 0 ≤ h := by rw [e1] at z4; exact z4
    have z5 : h - 0 + 0 ≤ 64 := by rw [e1] at z5; exact z5
    have hL : lop cd (fun _ => 0) 0 bt pos h sk va nk kp = (pos + 4, h, sk, ajv (aop 24) (fun i => 0) (fun i => 0) (cd (pos + 1)) (cd (pos + 2)) (cd (pos + 3)) 16 0 va, nk, kp) := by unfold lop; rw [e1]; rfl
    rw [hL]
    have n27 : cd pos ≠ 27 := by omega
    obtain ⟨wp, wq, wr⟩ := wa5 (by omega)
    obtain ⟨J4, s4, c1, c2, c3⟩ := mJAV (e := fun _ => 0) (p2 := nI w) (p3 := nI pos) (v3 := nI 0) (c := 24) hw hn (by omega) wp wq wr (by omega) rfl hr 16 gF 0 0 va J (by omega) (by decide) pP_pos hv (Or.inl ⟨rfl, fun _ _ => rfl⟩)
    have c1' : f_Model_rows_130 (nI w) (nI pos) gF (nI w) (nI pos) (nI 24) (nI 0) (nI (154 * w + 26 + 16 * cd (pos + 2))) (nI (154 * w + 26 + 16 * cd (pos + 3))) 0 0 I J = some (lN s4, I, J4) := c1
    have sr := fun {α : Type} {F : Int32 → MI → MJ → Option α} => mIJ (F := F) (J := J) hr hb hn z1 z2 (by rw [e1]; exact z3)
    rw [if_neg nj] at sr
    obtain ⟨I9, f1, f2, f3, f4, f5, f6⟩ := FINN hw hr hn hp z1 z2 c2 (c3).fa (i127 (c3))
    rw [show opl (cd pos) = 4 by rw [e1]; rfl] at f3
    refine ⟨I9, J4, ?_, f2, f3, f4, f5, fun _ => f6, fun x => absurd x n27⟩
    unfold f_Model_act; rw [nI_clamp (n := w) (by omega), if_neg zw, pl_eq, hp, if_neg (nI_in (by omega) (by decide)), nI_clamp (n := pos) (by omega), pl_eq, pl_eq, hr pos z1, e1, if_neg (by decide), if_neg (by decide), if_neg (by decide), if_neg (by decide), if_neg (by decide), if_neg (by decide), if_neg (by decide), if_neg (by decide), if_neg (by decide), if_neg (by decide), if_neg (by decide), if_neg (by decide), if_neg (by decide), if_neg (by decide), if_neg (by decide), if_neg (by decide)]
    unfold f_Model_rows
    rw [if_neg (nI_in (by omega) (by decide)), nI_clamp (n := pos) (by omega), pl_eq, hr pos z1, e1, oc_oc, sr, if_pos (show nI 0 = 0 from rfl), if_pos (show nI 0 = 0 from rfl), pl_eq, if_pos (show ¬ nI 24 = 26 by decide), show nI pos + 2 = nI (pos + 2) from nI_add pos 2, if_neg (nI_in (by omega) (by decide)), nI_clamp (n := pos + 2) (by omega), hr (pos + 2) (by omega), oc_oc, mROW, pl_eq, if_pos (show ¬ nI 24 = 26 by decide), show nI pos + 3 = nI (pos + 3) from nI_add pos 3, if_neg (nI_in (by omega) (by decide)), nI_clamp (n := pos + 3) (by omega), hr (pos + 3) (by omega), oc_oc, mROW, oc_oc, c1', oc_some, if_pos (show ¬ nI 24 = 26 by decide), oc_some, if_pos (show nI 0 = 0 from rfl), oc_oc, f1, oc_some, if_pos (show (1 : Int32) = 0 ∨ (1 : Int32) = 1 from Or.inr rfl)]
  · -- 25
    have z3 : pos + 4 ≤ n := by rw [e1] at z3; exact z3
    have z4 : 0 ≤ h := by rw [e1] at z4; exact z4
    have z5 : h - 0 + 0 ≤ 64 := by rw [e1] at z5; exact z5
    have hL : lop cd (fun _ => 0) 0 bt pos h sk va nk kp = (pos + 4, h, sk, ajv (aop 25) (fun i => 0) (fun i => 0) (cd (pos + 1)) (cd (pos + 2)) (cd (pos + 3)) 16 0 va, nk, kp) := by unfold lop; rw [e1]; rfl
    rw [hL]
    have n27 : cd pos ≠ 27 := by omega
    obtain ⟨wp, wq, wr⟩ := wa5 (by omega)
    obtain ⟨J4, s4, c1, c2, c3⟩ := mJAV (e := fun _ => 0) (p2 := nI w) (p3 := nI pos) (v3 := nI 0) (c := 25) hw hn (by omega) wp wq wr (by omega) rfl hr 16 gF 0 0 va J (by omega) (by decide) pP_pos hv (Or.inl ⟨rfl, fun _ _ => rfl⟩)
    have c1' : f_Model_rows_130 (nI w) (nI pos) gF (nI w) (nI pos) (nI 25) (nI 0) (nI (154 * w + 26 + 16 * cd (pos + 2))) (nI (154 * w + 26 + 16 * cd (pos + 3))) 0 0 I J = some (lN s4, I, J4) := c1
    have sr := fun {α : Type} {F : Int32 → MI → MJ → Option α} => mIJ (F := F) (J := J) hr hb hn z1 z2 (by rw [e1]; exact z3)
    rw [if_neg nj] at sr
    obtain ⟨I9, f1, f2, f3, f4, f5, f6⟩ := FINN hw hr hn hp z1 z2 c2 (c3).fa (i127 (c3))
    rw [show opl (cd pos) = 4 by rw [e1]; rfl] at f3
    refine ⟨I9, J4, ?_, f2, f3, f4, f5, fun _ => f6, fun x => absurd x n27⟩
    unfold f_Model_act; rw [nI_clamp (n := w) (by omega), if_neg zw, pl_eq, hp, if_neg (nI_in (by omega) (by decide)), nI_clamp (n := pos) (by omega), pl_eq, pl_eq, hr pos z1, e1, if_neg (by decide), if_neg (by decide), if_neg (by decide), if_neg (by decide), if_neg (by decide), if_neg (by decide), if_neg (by decide), if_neg (by decide), if_neg (by decide), if_neg (by decide), if_neg (by decide), if_neg (by decide), if_neg (by decide), if_neg (by decide), if_neg (by decide), if_neg (by decide)]
    unfold f_Model_rows
    rw [if_neg (nI_in (by omega) (by decide)), nI_clamp (n := pos) (by omega), pl_eq, hr pos z1, e1, oc_oc, sr, if_pos (show nI 0 = 0 from rfl), if_pos (show nI 0 = 0 from rfl), pl_eq, if_pos (show ¬ nI 25 = 26 by decide), show nI pos + 2 = nI (pos + 2) from nI_add pos 2, if_neg (nI_in (by omega) (by decide)), nI_clamp (n := pos + 2) (by omega), hr (pos + 2) (by omega), oc_oc, mROW, pl_eq, if_pos (show ¬ nI 25 = 26 by decide), show nI pos + 3 = nI (pos + 3) from nI_add pos 3, if_neg (nI_in (by omega) (by decide)), nI_clamp (n := pos + 3) (by omega), hr (pos + 3) (by omega), oc_oc, mROW, oc_oc, c1', oc_some, if_pos (show ¬ nI 25 = 26 by decide), oc_some, if_pos (show nI 0 = 0 from rfl), oc_oc, f1, oc_some, if_pos (show (1 : Int32) = 0 ∨ (1 : Int32) = 1 from Or.inr rfl)]
  · -- 26
    have z3 : pos + 3 ≤ n := by rw [e1] at z3; exact z3
    have z4 : 0 ≤ h := by rw [e1] at z4; exact z4
    have z5 : h - 0 + 1 ≤ 64 := by rw [e1] at z5; exact z5
    have hL : lop cd (fun _ => 0) 0 bt pos h sk va nk kp = (pos + 3, h + 1, apn sk h (ajs (fun i => 0) (fun i => 0) (cd (pos + 1)) (cd (pos + 2)) va 16 0 0), va, nk, kp) := by unfold lop; rw [e1]; rfl
    rw [hL]
    have n27 : cd pos ≠ 27 := by omega
    obtain ⟨wp, wq⟩ := wa6 (by omega)
    obtain ⟨s1, s2⟩ := mJAS (e := fun _ => 0) (p2 := nI w) (p3 := nI pos) (pos := pos) (v3 := nI 0) hw wp wq hv (Or.inl ⟨rfl, fun _ _ => rfl⟩) 16 gF 0 0 (by omega) (by decide) pP_pos
    have s1' : f_Model_rows_130 (nI w) (nI pos) gF (nI w) (nI pos) (nI 26) (nI 0) (nI (154 * w + 26 + 16 * cd (pos + 1))) (nI (154 * w + 26 + 16 * cd (pos + 2))) 0 0 I J = some (lN (ajs (fun i => 0) (fun i => 0) (cd (pos + 1)) (cd (pos + 2)) va 16 0 0), I, J) := s1
    obtain ⟨I4, J4, c1, c2, c3⟩ := mPSH hw hv (v := ajs (fun i => 0) (fun i => 0) (cd (pos + 1)) (cd (pos + 2)) va 16 0 0) (by omega) s2
    have sr := fun {α : Type} {F : Int32 → MI → MJ → Option α} => mIJ (F := F) (J := J) hr hb hn z1 z2 (by rw [e1]; exact z3)
    rw [if_neg nj] at sr
    obtain ⟨I9, f1, f2, f3, f4, f5, f6⟩ := FINN hw hr hn hp z1 z2 c2 (c3).fa (i127 (c3))
    rw [show opl (cd pos) = 3 by rw [e1]; rfl] at f3
    refine ⟨I9, J4, ?_, f2, f3, f4, f5, fun _ => f6.trans (i123 c3), fun x => absurd x n27⟩
    unfold f_Model_act; rw [nI_clamp (n := w) (by omega), if_neg zw, pl_eq, hp, if_neg (nI_in (by omega) (by decide)), nI_clamp (n := pos) (by omega), pl_eq, pl_eq, hr pos z1, e1, if_neg (by decide), if_neg (by decide), if_neg (by decide), if_neg (by decide), if_neg (by decide), if_neg (by decide), if_neg (by decide), if_neg (by decide), if_neg (by decide), if_neg (by decide), if_neg (by decide), if_neg (by decide), if_neg (by decide), if_neg (by decide), if_neg (by decide), if_neg (by decide)]
    unfold f_Model_rows
    rw [if_neg (nI_in (by omega) (by decide)), nI_clamp (n := pos) (by omega), pl_eq, hr pos z1, e1, oc_oc, sr, if_pos (show nI 0 = 0 from rfl), if_pos (show nI 0 = 0 from rfl), pl_eq, if_neg (show ¬ ¬ nI 26 = 26 from fun x => x rfl), a1', if_neg (nI_in (by omega) (by decide)), nI_clamp (n := pos + 1) (by omega), hr (pos + 1) (by omega), oc_oc, mROW, pl_eq, if_neg (show ¬ ¬ nI 26 = 26 from fun x => x rfl), show nI pos + 2 = nI (pos + 2) from nI_add pos 2, if_neg (nI_in (by omega) (by decide)), nI_clamp (n := pos + 2) (by omega), hr (pos + 2) (by omega), oc_oc, mROW, oc_oc, s1', oc_some, if_neg (show ¬ ¬ nI 26 = 26 from fun x => x rfl), oc_oc, oc_oc, c1, oc_some, if_pos (show nI 0 = 0 from rfl), oc_oc, f1, oc_some, if_pos (show (1 : Int32) = 0 ∨ (1 : Int32) = 1 from Or.inr rfl)]
  · -- 27
    have z3 : pos + 2 ≤ n := by rw [e1] at z3; exact z3
    have z4 : 0 ≤ h := by rw [e1] at z4; exact z4
    have z5 : h - 0 + 0 ≤ 64 := by rw [e1] at z5; exact z5
    have hL : lop cd (fun _ => 0) 0 bt pos h sk va nk kp = (pos + 2, h, sk, apn va (13 + cd (pos + 1)) bt, nk, kp) := by unfold lop; rw [e1]; rfl
    rw [hL]
    obtain ⟨b, hb1, hb2, hb3⟩ := l5 e1
    have wp := wa1 (by omega)
    obtain ⟨dw, dd, dn⟩ := dm_drawn (J 112 21) (nI b) I J
    rw [nI_l hb1] at dn
    have hbt : bt < pP := by rw [hb3]; have : pP = 2305843009213693951 := rfl; omega
    have fa0 : FA w I (va_up (va_up I 160 dw) 161 dd) J J := ⟨fun a _ _ _ _ _ _ a7 a8 => by rw [va_up_ne _ _ a8, va_up_ne _ _ a7], fun i _ => ⟨by rw [va_up_ne _ _ (by decide), va_up_ne _ _ (by decide)], by rw [va_up_ne _ _ (by decide), va_up_ne _ _ (by decide)], by rw [va_up_ne _ _ (by decide), va_up_ne _ _ (by decide)], by rw [va_up_ne _ _ (by decide), va_up_ne _ _ (by decide)], by rw [va_up_ne _ _ (by decide), va_up_ne _ _ (by decide)]⟩, fun i _ => by rw [va_up_ne _ _ (by decide), va_up_ne _ _ (by decide)], fun _ _ _ => rfl, fun _ _ => rfl, fun _ _ => rfl⟩
    have hv2 : RV (va_up (va_up I 160 dw) 161 dd) J w h sk va nk kp := RV_o (by decide) (RV_o (by decide) hv)
    obtain ⟨c2, c3⟩ := mWRV hv2 (k := 13 + cd (pos + 1)) (v := bt) (by omega) hbt
    rw [show 154 * w + (13 + cd (pos + 1)) = 154 * w + 13 + cd (pos + 1) by omega] at c2 c3
    have k123 : (va_up (va_up I 160 dw) 161 dd) 123 = I 123 := by rw [va_up_ne _ _ (by decide), va_up_ne _ _ (by decide)]
    have fa1 := fa0.tr (c3.fa.tr (FA_u (w := w) (a := 123) (x := nI (b + 1)) (Or.inr (Or.inr rfl))))
    rw [k123] at fa1
    obtain ⟨I9, f1, f2, f3, f4, f5, f6⟩ := FINN hw hr hn hp z1 z2 (RV_o (a := 123) (x := upd (I 123) w (nI (b + 1))) (by decide) c2) fa1 (by rw [va_up_ne _ _ (by decide), va_up_ne _ _ (by decide), va_up_ne _ _ (by decide)])
    rw [show opl (cd pos) = 2 by rw [e1]; rfl] at f3
    refine ⟨I9, _, ?_, f2, f3, f4, f5, fun x => absurd e1 x, fun _ => by rw [f6, va_up_self, upd_s, hb2, nI_1]⟩
    unfold f_Model_act; rw [nI_clamp (n := w) (by omega), if_neg zw, pl_eq, hp, if_neg (nI_in (by omega) (by decide)), nI_clamp (n := pos) (by omega), pl_eq, pl_eq, hr pos z1, e1, if_neg (by decide), if_neg (by decide), if_neg (by decide), if_neg (by decide), if_neg (by decide), if_neg (by decide), if_neg (by decide), if_neg (by decide), if_neg (by decide), if_neg (by decide), if_neg (by decide), if_neg (by decide), if_neg (by decide), if_pos (by decide), a1', if_neg (nI_in (by omega) (by decide)), if_neg zw, hb2, dn, oc_some, n154', show nI (154 * w) + 13 = nI (154 * w + 13) from nI_add _ 13, nI_clamp (n := pos + 1) (by omega), hr (pos + 1) (by omega), nI_add, if_neg (nI_in (by omega) (by decide)), nI_clamp (by omega), bit1 (m := dg_n (J 112 21) (lN b)) (Nat.mod_lt _ pP_pos), ← hb3, pl_eq, if_neg zw, if_neg zw, k123, hb2, nI_1, pl_eq, f1]
  · -- 28
    have z3 : pos + 3 ≤ n := by rw [e1] at z3; exact z3
    have z4 : 0 ≤ h := by rw [e1] at z4; exact z4
    have z5 : h - 0 + 0 ≤ 64 := by rw [e1] at z5; exact z5
    have hL : lop cd (fun _ => 0) 0 bt pos h sk va nk kp = (tgt cd pos, h, sk, va, nk + 1, apn kp nk (pos + 3)) := by unfold lop; rw [e1]; rfl
    rw [hL]
    have n27 : cd pos ≠ 27 := by omega
    obtain ⟨c2, c3⟩ := mKEP hv (v := pos + 3) (l3 e1)
    have k141 : I 141 w = nI nk := hv.2.2.2.1.1
    have l3 := l3 e1
    refine ⟨va_up (va_up (va_up I 140 (upd (I 140) (16 * w + nk) (nI (pos + 3)))) 141 (upd (I 141) w (nI (nk + 1)))) 127 (upd (I 127) w (nI (tgt cd pos))), J, ?_, RV_o (by decide) c2, by rw [va_up_self, upd_s], ?_, ?_, fun _ => ?_, fun x => absurd x n27⟩
    · have h114 : (va_up (va_up I 140 (upd (I 140) (16 * w + nk) (nI (pos + 3)))) 141 (upd (I 141) w (nI (nk + 1)))) 114 = I 114 := i114 c3
      unfold f_Model_act; rw [nI_clamp (n := w) (by omega), if_neg zw, pl_eq, hp, if_neg (nI_in (by omega) (by decide)), nI_clamp (n := pos) (by omega), pl_eq, pl_eq, hr pos z1, e1, if_neg (by decide), if_neg (by decide), if_neg (by decide), if_neg (by decide), if_neg (by decide), if_neg (by decide), if_neg (by decide), if_neg (by decide), if_neg (by decide), if_neg (by decide), if_neg (by decide), if_neg (by decide), if_neg (by decide), if_neg (by decide), if_pos (by decide), if_neg zw, k141, show (16 : Int32) * nI w = nI (16 * w) from nI_mul 16 w, nI_add, if_neg (nI_in (by omega) (by decide)), nI_clamp (n := 16 * w + nk) (by omega), pl_eq, if_neg zw, if_neg zw, show nI pos + 3 = nI (pos + 3) from nI_add pos 3, va_up_ne _ _ (show 141 ≠ 140 by decide), k141, nI_1, pl_eq, mGOL (n := n) (fun k hk => by rw [h114]; exact hr k hk) hn (Or.inr (Or.inr e1)) (by rw [e1]; exact z3) hb, if_neg zw, pl_eq, va_up_ne _ _ (show 127 ≠ 141 by decide), va_up_ne _ _ (show 127 ≠ 140 by decide)]
    · rw [va_up_ne _ _ (by decide), va_up_ne _ _ (by decide), va_up_ne _ _ (by decide)]; exact hph
    · have q := c3.fa.tr (FA_u (J := J) (a := 127) (x := nI (tgt cd pos)) (Or.inl rfl))
      rw [va_up_ne _ _ (show 127 ≠ 141 by decide), va_up_ne _ _ (show 127 ≠ 140 by decide)] at q
      exact q
    · rw [va_up_ne _ _ (by decide), va_up_ne _ _ (by decide), va_up_ne _ _ (by decide)]
  · -- 29
    have z3 : pos + 1 ≤ n := by rw [e1] at z3; exact z3
    have z4 : 0 ≤ h := by rw [e1] at z4; exact z4
    have z5 : h - 0 + 0 ≤ 64 := by rw [e1] at z5; exact z5
    have hL : lop cd (fun _ => 0) 0 bt pos h sk va nk kp = (kp (nk - 1), h, sk, va, nk - 1, kp) := by unfold lop; rw [e1]; rfl
    rw [hL]
    have n27 : cd pos ≠ 27 := by omega
    have l4 := l4 e1
    obtain ⟨c2, c3⟩ := mLKP hv l4
    have k141 : I 141 w = nI nk := hv.2.2.2.1.1
    have kk := hv.2.2.2.2 (nk - 1) (by omega)
    have k16 := hv.2.2.2.1.2
    refine ⟨va_up (va_up I 141 (upd (I 141) w (nI (nk - 1)))) 127 (upd (I 127) w (nI (kp (nk - 1)))), J, ?_, RV_o (by decide) c2, by rw [va_up_self, upd_s], ?_, ?_, fun _ => ?_, fun x => absurd x n27⟩
    · unfold f_Model_act; rw [nI_clamp (n := w) (by omega), if_neg zw, pl_eq, hp, if_neg (nI_in (by omega) (by decide)), nI_clamp (n := pos) (by omega), pl_eq, pl_eq, hr pos z1, e1, if_neg (by decide), if_neg (by decide), if_neg (by decide), if_neg (by decide), if_neg (by decide), if_neg (by decide), if_neg (by decide), if_neg (by decide), if_neg (by decide), if_neg (by decide), if_neg (by decide), if_neg (by decide), if_neg (by decide), if_neg (by decide), if_neg (by decide), if_pos (by decide), if_neg zw, if_neg zw, k141, show nI nk - 1 = nI (nk - 1) from nI_sb (b := 1) l4, pl_eq, if_neg zw, va_up_self, upd_s, show (16 : Int32) * nI w = nI (16 * w) from nI_mul 16 w, nI_add, if_neg (nI_in (by omega) (by decide)), nI_clamp (n := 16 * w + (nk - 1)) (by omega), if_neg zw, va_up_ne _ _ (show 140 ≠ 141 by decide), kk, pl_eq, va_up_ne _ _ (show 127 ≠ 141 by decide)]
    · rw [va_up_ne _ _ (by decide), va_up_ne _ _ (by decide)]; exact hph
    · have q := c3.fa.tr (FA_u (J := J) (a := 127) (x := nI (kp (nk - 1))) (Or.inl rfl))
      rw [va_up_ne _ _ (show 127 ≠ 141 by decide)] at q
      exact q
    · rw [va_up_ne _ _ (by decide), va_up_ne _ _ (by decide)]
end OPS
