/-! the run: a send of the program, in the reference -/
theorem UP1 (I : MI) (a w : Nat) (x : Int32) : ∃ A : MI, va_up I a (upd (I a) w x) = A ∧ (∀ b, b ≠ a → A b = I b) ∧ A a w = x ∧ (∀ i, i ≠ w → A a i = I a i) := ⟨_, rfl, fun b hb => va_up_ne _ _ hb, by rw [va_up_self, upd_s], fun i hi => by rw [va_up_self, upd_n _ _ hi]⟩
def kdo (c : Nat) : Nat := if c = 7 then 2 else if c = 10 then 3 else if c = 13 then 1 else if c = 14 then 4 else 5
section OPS
variable {cd : Nat → Nat} {n P w h pos B ev EV pls us : Nat} {st : Nat → Bool} {hg wr : Nat → Nat} {I : MI} {J : MJ}
theorem mSEN [Decidable (jnt cd pos)] (hW : WFc cd n P st hg) (hwP : w < P) (hP : P ≤ 4) (hB : B ≤ 4) (hs : st pos = true) (hr : ∀ k, k < n → I 114 k = nI (cd k)) (hp : I 127 w = nI pos) (hop : shd cd pos) (hgv : cd pos = 13 → cd (pos + 2) = w) (hph : I 128 w = nI 0) (h6 : I 112 16 = nI P) (h8 : I 112 17 = nI B) (hwr : ∀ j, j < P → wr j < 2 ^ 31 ∧ I 148 (4 * w + j) = nI (wr j)) (h0 : wr w < B) (hne : I 135 w = nI ev) (hEV : I 112 60 = nI EV) (hle : ev ≤ EV) (hev : EV < 30001) (hpl : I 131 w = nI pls) (hus : cd pos = 13 → us < 100 ∧ I 126 w = nI us) : (anyb (fun j => decide (B ≤ wr j)) P 0 = true ∧ f_Model_act (nI w) I J = some (0, I, J)) ∨ (anyb (fun j => decide (B ≤ wr j)) P 0 = false ∧ ∃ I1 J1, f_Model_act (nI w) I J = some (1, I1, J1) ∧ (∀ a, a ≠ 148 → a ≠ 130 → a ≠ 112 → a ≠ 151 → a ≠ 153 → a ≠ 131 → a ≠ 121 → a ≠ 122 → a ≠ 126 → a ≠ 119 → a ≠ 128 → I1 a = I a) ∧ (∀ j, j ≠ 60 → I1 112 j = I 112 j) ∧ I1 112 60 = nI (if ev = EV then EV + 1 else EV) ∧ (∀ e, I1 151 e = if ev = EV ∧ e = ev then nI (kdo (cd pos)) else I 151 e) ∧ (∀ q, I1 153 q = if q = 4 * ev + w then nI pls else if ev = EV ∧ 4 * ev ≤ q ∧ q < 4 * ev + 4 then m1 else I 153 q) ∧ (∀ i, i ≠ w → I1 131 i = I 131 i) ∧ I1 131 w = nI (pls + 1) ∧ (∀ a, a ≠ 152 → J1 a = J a) ∧ (∀ e, J1 152 e = if cd pos = 13 ∧ e = ev then J 124 (100 * w + us) else J 152 e) ∧ (∀ i, i ≠ w → I1 130 i = I 130 i) ∧ I1 130 w = I 130 w + 1 ∧ (∀ j, j < P → I1 148 (4 * w + j) = nI (if j = w then wr j else wr j + 1)) ∧ (∀ q, q < 4 * w ∨ 4 * w + 4 ≤ q → I1 148 q = I 148 q) ∧ I1 128 w = nI 1 ∧ (∀ i, i ≠ w → I1 128 i = I 128 i) ∧ (∀ i, I1 121 i = if i = w ∧ cd pos = 7 then I 121 i + 1 else if i = w ∧ (cd pos = 25 ∨ cd pos = 26) then I 121 i + 16 else I 121 i) ∧ (∀ i, I1 122 i = if i = w ∧ cd pos = 10 then I 122 i + 1 else I 122 i) ∧ (∀ i, I1 126 i = if i = w ∧ cd pos = 13 then I 126 i + 1 else I 126 i) ∧ (∀ i, I1 119 i = if i = w ∧ cd pos = 13 then I 119 i - 1 else I 119 i)) := by
  obtain ⟨z1, z2, z3, z4, z5⟩ := WF_h hW hs
  have hn := hW.2.1
  have hb := hW.2.2.1
  have hw : w < 4 := by omega
  obtain ⟨wa1, wa2, wa3, wa4, wa5, wa6⟩ := WF_a hW hs
  have zw := nin hw (show 4 < 2 ^ 31 by decide)
  have a1' : nI pos + 1 = nI (pos + 1) := nI_1 pos
  have a2' : nI pos + 2 = nI (pos + 2) := nI_add pos 2
  have big : cd pos = 7 ∨ cd pos = 10 ∨ cd pos = 13 ∨ cd pos = 14 ∨ (cd pos = 25 ∧ jnt cd pos) ∨ (cd pos = 26 ∧ jnt cd pos) := by
    rcases hop with x | x | x | x | x
    · exact Or.inl x
    · exact Or.inr (Or.inl x)
    · exact Or.inr (Or.inr (Or.inl x))
    · exact Or.inr (Or.inr (Or.inr (Or.inl x)))
    · rcases x with y | y
      · exact Or.inr (Or.inr (Or.inr (Or.inr (Or.inl ⟨y.1, Or.inl y⟩))))
      · exact Or.inr (Or.inr (Or.inr (Or.inr (Or.inr ⟨y.1, Or.inr y⟩))))
  rcases big with e1 | e1 | e1 | e1 | ⟨e1, ej⟩ | ⟨e1, ej⟩
  · -- 7
    have z3 : pos + 1 ≤ n := by rw [e1] at z3; exact z3
    have S := SENM (J := J) (kd := 2) (v := 0) hP hwP hB h6 h8 hwr h0 hne hEV hle hev hpl (by decide)
    rcases S with ⟨b1, b2⟩ | ⟨b1, I2, J2, b2, k1, k2, k3, k4, k5, k6, k7, k8, k9, k10, k11, k12, k13⟩
    · have b2' : ∀ {α : Type} {F : Int32 → MI → MJ → Option α}, oc (f_Model_send (nI w) 2 0 I J) F = F (nI 0) I J := b2
      refine Or.inl ⟨b1, ?_⟩
      unfold f_Model_act; rw [nI_clamp (n := w) (by omega), if_neg zw, pl_eq, hp, if_neg (nI_in (by omega) (by decide)), nI_clamp (n := pos) (by omega), pl_eq, pl_eq, hr pos z1, e1, if_neg (by decide), if_pos (by decide)]
      refine ok01_0 ?_
      unfold f_Model_joint
      rw [nI_clamp (n := w) (by omega), if_neg zw, hph, if_neg (show ¬ ¬ nI 0 = 0 from fun x => x rfl), if_neg (show ¬ ¬ nI 7 = 7 from fun x => x rfl), pl_eq, b2', if_neg (show ¬ ¬ nI 0 = 0 from fun x => x rfl)]
      rfl
    · have b2' : ∀ {α : Type} {F : Int32 → MI → MJ → Option α}, oc (f_Model_send (nI w) 2 0 I J) F = F (nI 1) I2 J2 := b2
      obtain ⟨A0, q0, r0, s0, t0⟩ := UP1 I2 121 w (I2 121 w + 1)
      obtain ⟨A1, q1, r1, s1, t1⟩ := UP1 A0 128 w 1
      have hk : kdo (cd pos) = 2 := by rw [e1]; rfl
      refine Or.inr ⟨b1, A1, J2, ?_, ?_, ?_, ?_, ?_, ?_, ?_, ?_, ?_, ?_, ?_, ?_, ?_, ?_, ?_, ?_, ?_, ?_, ?_, ?_⟩
      · skip
        unfold f_Model_act; rw [nI_clamp (n := w) (by omega), if_neg zw, pl_eq, hp, if_neg (nI_in (by omega) (by decide)), nI_clamp (n := pos) (by omega), pl_eq, pl_eq, hr pos z1, e1, if_neg (by decide), if_pos (by decide)]
        refine ok01_1 ?_
        unfold f_Model_joint
        rw [nI_clamp (n := w) (by omega), if_neg zw, hph, if_neg (show ¬ ¬ nI 0 = 0 from fun x => x rfl), if_neg (show ¬ ¬ nI 7 = 7 from fun x => x rfl), pl_eq, b2', if_pos (show ¬ nI 1 = 0 by decide), if_neg (show ¬ ¬ nI 7 = 7 from fun x => x rfl), if_neg zw, if_neg zw, pl_eq, q0, oc_some, if_neg zw, pl_eq, q1]
        rfl
      · exact fun a a1 a2 a3 a4 a5 a6 a7 a8 a9 a10 a11 => by rw [r1 a (by omega), r0 a (by omega), k1 a a1 a2 a3 a4 a5 a6]
      · exact fun j hj => by rw [r1 112 (by decide), r0 112 (by decide)]; exact k2 j hj
      · exact by rw [r1 112 (by decide), r0 112 (by decide)]; exact k3
      · exact fun e => by rw [r1 151 (by decide), r0 151 (by decide), hk]; exact k4 e
      · exact fun q => by rw [r1 153 (by decide), r0 153 (by decide)]; exact k5 q
      · exact fun i hi => by rw [r1 131 (by decide), r0 131 (by decide)]; exact k6 i hi
      · exact by rw [r1 131 (by decide), r0 131 (by decide)]; exact k7
      · exact k8
      · exact fun e => by
          rw [k9 e]
          rw [if_neg (by omega), if_neg (by omega)]
      · exact fun i hi => by rw [r1 130 (by decide), r0 130 (by decide)]; exact k10 i hi
      · exact by rw [r1 130 (by decide), r0 130 (by decide)]; exact k11
      · exact fun j hj => by rw [r1 148 (by decide), r0 148 (by decide)]; exact k12 j hj
      · exact fun q hq => by rw [r1 148 (by decide), r0 148 (by decide)]; exact k13 q hq
      · exact by rw [s1]; rfl
      · exact fun i hi => by rw [t1 i hi, r0 128 (by decide), k1 128 (by decide) (by decide) (by decide) (by decide) (by decide) (by decide)]
      · exact fun i => by
          by_cases x : i = w
          · rw [if_pos (by omega), x, r1 121 (by decide), s0, k1 121 (by decide) (by decide) (by decide) (by decide) (by decide) (by decide)]
          · rw [if_neg (by omega), if_neg (by omega), r1 121 (by decide), t0 i x, k1 121 (by decide) (by decide) (by decide) (by decide) (by decide) (by decide)]
      · exact fun i => by rw [if_neg (by omega), r1 122 (by decide), r0 122 (by decide), k1 122 (by decide) (by decide) (by decide) (by decide) (by decide) (by decide)]
      · exact fun i => by rw [if_neg (by omega), r1 126 (by decide), r0 126 (by decide), k1 126 (by decide) (by decide) (by decide) (by decide) (by decide) (by decide)]
      · exact fun i => by rw [if_neg (by omega), r1 119 (by decide), r0 119 (by decide), k1 119 (by decide) (by decide) (by decide) (by decide) (by decide) (by decide)]
  · -- 10
    have z3 : pos + 1 ≤ n := by rw [e1] at z3; exact z3
    have S := SENM (J := J) (kd := 3) (v := 0) hP hwP hB h6 h8 hwr h0 hne hEV hle hev hpl (by decide)
    rcases S with ⟨b1, b2⟩ | ⟨b1, I2, J2, b2, k1, k2, k3, k4, k5, k6, k7, k8, k9, k10, k11, k12, k13⟩
    · have b2' : ∀ {α : Type} {F : Int32 → MI → MJ → Option α}, oc (f_Model_send (nI w) 3 0 I J) F = F (nI 0) I J := b2
      refine Or.inl ⟨b1, ?_⟩
      unfold f_Model_act; rw [nI_clamp (n := w) (by omega), if_neg zw, pl_eq, hp, if_neg (nI_in (by omega) (by decide)), nI_clamp (n := pos) (by omega), pl_eq, pl_eq, hr pos z1, e1, if_neg (by decide), if_pos (by decide)]
      refine ok01_0 ?_
      unfold f_Model_joint
      rw [nI_clamp (n := w) (by omega), if_neg zw, hph, if_neg (show ¬ ¬ nI 0 = 0 from fun x => x rfl), if_pos (show ¬ nI 10 = 7 by decide), pl_eq, b2', if_neg (show ¬ ¬ nI 0 = 0 from fun x => x rfl)]
      rfl
    · have b2' : ∀ {α : Type} {F : Int32 → MI → MJ → Option α}, oc (f_Model_send (nI w) 3 0 I J) F = F (nI 1) I2 J2 := b2
      obtain ⟨A0, q0, r0, s0, t0⟩ := UP1 I2 122 w (I2 122 w + 1)
      obtain ⟨A1, q1, r1, s1, t1⟩ := UP1 A0 128 w 1
      have hk : kdo (cd pos) = 3 := by rw [e1]; rfl
      refine Or.inr ⟨b1, A1, J2, ?_, ?_, ?_, ?_, ?_, ?_, ?_, ?_, ?_, ?_, ?_, ?_, ?_, ?_, ?_, ?_, ?_, ?_, ?_, ?_⟩
      · skip
        unfold f_Model_act; rw [nI_clamp (n := w) (by omega), if_neg zw, pl_eq, hp, if_neg (nI_in (by omega) (by decide)), nI_clamp (n := pos) (by omega), pl_eq, pl_eq, hr pos z1, e1, if_neg (by decide), if_pos (by decide)]
        refine ok01_1 ?_
        unfold f_Model_joint
        rw [nI_clamp (n := w) (by omega), if_neg zw, hph, if_neg (show ¬ ¬ nI 0 = 0 from fun x => x rfl), if_pos (show ¬ nI 10 = 7 by decide), pl_eq, b2', if_pos (show ¬ nI 1 = 0 by decide), if_pos (show ¬ nI 10 = 7 by decide), if_neg zw, if_neg zw, pl_eq, q0, oc_some, if_neg zw, pl_eq, q1]
        rfl
      · exact fun a a1 a2 a3 a4 a5 a6 a7 a8 a9 a10 a11 => by rw [r1 a (by omega), r0 a (by omega), k1 a a1 a2 a3 a4 a5 a6]
      · exact fun j hj => by rw [r1 112 (by decide), r0 112 (by decide)]; exact k2 j hj
      · exact by rw [r1 112 (by decide), r0 112 (by decide)]; exact k3
      · exact fun e => by rw [r1 151 (by decide), r0 151 (by decide), hk]; exact k4 e
      · exact fun q => by rw [r1 153 (by decide), r0 153 (by decide)]; exact k5 q
      · exact fun i hi => by rw [r1 131 (by decide), r0 131 (by decide)]; exact k6 i hi
      · exact by rw [r1 131 (by decide), r0 131 (by decide)]; exact k7
      · exact k8
      · exact fun e => by
          rw [k9 e]
          rw [if_neg (by omega), if_neg (by omega)]
      · exact fun i hi => by rw [r1 130 (by decide), r0 130 (by decide)]; exact k10 i hi
      · exact by rw [r1 130 (by decide), r0 130 (by decide)]; exact k11
      · exact fun j hj => by rw [r1 148 (by decide), r0 148 (by decide)]; exact k12 j hj
      · exact fun q hq => by rw [r1 148 (by decide), r0 148 (by decide)]; exact k13 q hq
      · exact by rw [s1]; rfl
      · exact fun i hi => by rw [t1 i hi, r0 128 (by decide), k1 128 (by decide) (by decide) (by decide) (by decide) (by decide) (by decide)]
      · exact fun i => by rw [if_neg (by omega), if_neg (by omega), r1 121 (by decide), r0 121 (by decide), k1 121 (by decide) (by decide) (by decide) (by decide) (by decide) (by decide)]
      · exact fun i => by
          by_cases x : i = w
          · rw [if_pos (by omega), x, r1 122 (by decide), s0, k1 122 (by decide) (by decide) (by decide) (by decide) (by decide) (by decide)]
          · rw [if_neg (by omega), r1 122 (by decide), t0 i x, k1 122 (by decide) (by decide) (by decide) (by decide) (by decide) (by decide)]
      · exact fun i => by rw [if_neg (by omega), r1 126 (by decide), r0 126 (by decide), k1 126 (by decide) (by decide) (by decide) (by decide) (by decide) (by decide)]
      · exact fun i => by rw [if_neg (by omega), r1 119 (by decide), r0 119 (by decide), k1 119 (by decide) (by decide) (by decide) (by decide) (by decide) (by decide)]
  · -- 13
    have z3 : pos + 3 ≤ n := by rw [e1] at z3; exact z3
    obtain ⟨u1, u2⟩ := hus e1
    have gw := hgv e1
    have e100 : (100 : Int32) * nI w + nI us = nI (100 * w + us) := by rw [show (100 : Int32) * nI w = nI (100 * w) from nI_mul 100 w, nI_add]
    have S := SENM (J := J) (kd := 1) (v := (J 124 (100 * w + us))) hP hwP hB h6 h8 hwr h0 hne hEV hle hev hpl (by decide)
    rcases S with ⟨b1, b2⟩ | ⟨b1, I2, J2, b2, k1, k2, k3, k4, k5, k6, k7, k8, k9, k10, k11, k12, k13⟩
    · have b2' : ∀ {α : Type} {F : Int32 → MI → MJ → Option α}, oc (f_Model_send (nI w) 1 (J 124 (100 * w + us)) I J) F = F (nI 0) I J := b2
      refine Or.inl ⟨b1, ?_⟩
      unfold f_Model_act; rw [nI_clamp (n := w) (by omega), if_neg zw, pl_eq, hp, if_neg (nI_in (by omega) (by decide)), nI_clamp (n := pos) (by omega), pl_eq, pl_eq, hr pos z1, e1, if_neg (by decide), if_neg (by decide), if_neg (by decide), if_neg (by decide), if_neg (by decide), if_pos (by decide), a1', a2', if_neg (nI_in (by omega) (by decide)), if_neg (nI_in (by omega) (by decide)), nI_clamp (n := pos + 1) (by omega), nI_clamp (n := pos + 2) (by omega), hr (pos + 1) (by omega), hr (pos + 2) (by omega)]
      refine ok01_0 ?_
      unfold f_Model_input
      rw [if_neg (show ¬ ¬ nI w = nI (cd (pos + 2)) from fun y => y (by rw [gw])), nI_clamp (n := w) (by omega), if_neg zw, hph, if_neg (show ¬ ¬ nI 0 = 0 from fun x => x rfl), if_neg zw, u2, e100, if_neg (nI_in (by omega) (by decide)), nI_clamp (n := 100 * w + us) (by omega), b2', if_neg (show ¬ ¬ nI 0 = 0 from fun x => x rfl)]
      rfl
    · have b2' : ∀ {α : Type} {F : Int32 → MI → MJ → Option α}, oc (f_Model_send (nI w) 1 (J 124 (100 * w + us)) I J) F = F (nI 1) I2 J2 := b2
      obtain ⟨A0, q0, r0, s0, t0⟩ := UP1 I2 126 w (I2 126 w + 1)
      obtain ⟨A1, q1, r1, s1, t1⟩ := UP1 A0 119 w (A0 119 w - 1)
      obtain ⟨A2, q2, r2, s2, t2⟩ := UP1 A1 128 w 1
      have hk : kdo (cd pos) = 1 := by rw [e1]; rfl
      refine Or.inr ⟨b1, A2, J2, ?_, ?_, ?_, ?_, ?_, ?_, ?_, ?_, ?_, ?_, ?_, ?_, ?_, ?_, ?_, ?_, ?_, ?_, ?_, ?_⟩
      · skip
        unfold f_Model_act; rw [nI_clamp (n := w) (by omega), if_neg zw, pl_eq, hp, if_neg (nI_in (by omega) (by decide)), nI_clamp (n := pos) (by omega), pl_eq, pl_eq, hr pos z1, e1, if_neg (by decide), if_neg (by decide), if_neg (by decide), if_neg (by decide), if_neg (by decide), if_pos (by decide), a1', a2', if_neg (nI_in (by omega) (by decide)), if_neg (nI_in (by omega) (by decide)), nI_clamp (n := pos + 1) (by omega), nI_clamp (n := pos + 2) (by omega), hr (pos + 1) (by omega), hr (pos + 2) (by omega)]
        refine ok01_1 ?_
        unfold f_Model_input
        rw [if_neg (show ¬ ¬ nI w = nI (cd (pos + 2)) from fun y => y (by rw [gw])), nI_clamp (n := w) (by omega), if_neg zw, hph, if_neg (show ¬ ¬ nI 0 = 0 from fun x => x rfl), if_neg zw, u2, e100, if_neg (nI_in (by omega) (by decide)), nI_clamp (n := 100 * w + us) (by omega), b2', if_pos (show ¬ nI 1 = 0 by decide), if_neg zw, if_neg zw, pl_eq, q0, if_neg zw, if_neg zw, pl_eq, q1, if_neg zw, pl_eq, q2]
        rfl
      · exact fun a a1 a2 a3 a4 a5 a6 a7 a8 a9 a10 a11 => by rw [r2 a (by omega), r1 a (by omega), r0 a (by omega), k1 a a1 a2 a3 a4 a5 a6]
      · exact fun j hj => by rw [r2 112 (by decide), r1 112 (by decide), r0 112 (by decide)]; exact k2 j hj
      · exact by rw [r2 112 (by decide), r1 112 (by decide), r0 112 (by decide)]; exact k3
      · exact fun e => by rw [r2 151 (by decide), r1 151 (by decide), r0 151 (by decide), hk]; exact k4 e
      · exact fun q => by rw [r2 153 (by decide), r1 153 (by decide), r0 153 (by decide)]; exact k5 q
      · exact fun i hi => by rw [r2 131 (by decide), r1 131 (by decide), r0 131 (by decide)]; exact k6 i hi
      · exact by rw [r2 131 (by decide), r1 131 (by decide), r0 131 (by decide)]; exact k7
      · exact k8
      · exact fun e => by
          rw [k9 e]
          by_cases x : e = ev
          · rw [if_pos ⟨rfl, x⟩, if_pos ⟨e1, x⟩]
          · rw [if_neg (fun y => x y.2), if_neg (fun y => x y.2)]
      · exact fun i hi => by rw [r2 130 (by decide), r1 130 (by decide), r0 130 (by decide)]; exact k10 i hi
      · exact by rw [r2 130 (by decide), r1 130 (by decide), r0 130 (by decide)]; exact k11
      · exact fun j hj => by rw [r2 148 (by decide), r1 148 (by decide), r0 148 (by decide)]; exact k12 j hj
      · exact fun q hq => by rw [r2 148 (by decide), r1 148 (by decide), r0 148 (by decide)]; exact k13 q hq
      · exact by rw [s2]; rfl
      · exact fun i hi => by rw [t2 i hi, r1 128 (by decide), r0 128 (by decide), k1 128 (by decide) (by decide) (by decide) (by decide) (by decide) (by decide)]
      · exact fun i => by rw [if_neg (by omega), if_neg (by omega), r2 121 (by decide), r1 121 (by decide), r0 121 (by decide), k1 121 (by decide) (by decide) (by decide) (by decide) (by decide) (by decide)]
      · exact fun i => by rw [if_neg (by omega), r2 122 (by decide), r1 122 (by decide), r0 122 (by decide), k1 122 (by decide) (by decide) (by decide) (by decide) (by decide) (by decide)]
      · exact fun i => by
          by_cases x : i = w
          · rw [if_pos (by omega), x, r2 126 (by decide), r1 126 (by decide), s0, k1 126 (by decide) (by decide) (by decide) (by decide) (by decide) (by decide)]
          · rw [if_neg (by omega), r2 126 (by decide), r1 126 (by decide), t0 i x, k1 126 (by decide) (by decide) (by decide) (by decide) (by decide) (by decide)]
      · exact fun i => by
          by_cases x : i = w
          · rw [if_pos (by omega), x, r2 119 (by decide), s1, r0 119 (by decide), k1 119 (by decide) (by decide) (by decide) (by decide) (by decide) (by decide)]
          · rw [if_neg (by omega), r2 119 (by decide), t1 i x, r0 119 (by decide), k1 119 (by decide) (by decide) (by decide) (by decide) (by decide) (by decide)]
  · -- 14
    have z3 : pos + 3 ≤ n := by rw [e1] at z3; exact z3
    have S := SENM (J := J) (kd := 4) (v := 0) hP hwP hB h6 h8 hwr h0 hne hEV hle hev hpl (by decide)
    rcases S with ⟨b1, b2⟩ | ⟨b1, I2, J2, b2, k1, k2, k3, k4, k5, k6, k7, k8, k9, k10, k11, k12, k13⟩
    · have b2' : ∀ {α : Type} {F : Int32 → MI → MJ → Option α}, oc (f_Model_send (nI w) 4 0 I J) F = F (nI 0) I J := b2
      refine Or.inl ⟨b1, ?_⟩
      unfold f_Model_act; rw [nI_clamp (n := w) (by omega), if_neg zw, pl_eq, hp, if_neg (nI_in (by omega) (by decide)), nI_clamp (n := pos) (by omega), pl_eq, pl_eq, hr pos z1, e1, if_neg (by decide), if_neg (by decide), if_neg (by decide), if_neg (by decide), if_neg (by decide), if_neg (by decide), if_pos (by decide), a1', a2', if_neg (nI_in (by omega) (by decide)), if_neg (nI_in (by omega) (by decide))]
      refine ok01_0 ?_
      unfold f_Model_open
      rw [nI_clamp (n := w) (by omega), if_neg zw, hph, if_neg (show ¬ ¬ nI 0 = 0 from fun x => x rfl), b2', if_neg (show ¬ ¬ nI 0 = 0 from fun x => x rfl)]
      rfl
    · have b2' : ∀ {α : Type} {F : Int32 → MI → MJ → Option α}, oc (f_Model_send (nI w) 4 0 I J) F = F (nI 1) I2 J2 := b2
      obtain ⟨A0, q0, r0, s0, t0⟩ := UP1 I2 128 w 1
      have hk : kdo (cd pos) = 4 := by rw [e1]; rfl
      refine Or.inr ⟨b1, A0, J2, ?_, ?_, ?_, ?_, ?_, ?_, ?_, ?_, ?_, ?_, ?_, ?_, ?_, ?_, ?_, ?_, ?_, ?_, ?_, ?_⟩
      · skip
        unfold f_Model_act; rw [nI_clamp (n := w) (by omega), if_neg zw, pl_eq, hp, if_neg (nI_in (by omega) (by decide)), nI_clamp (n := pos) (by omega), pl_eq, pl_eq, hr pos z1, e1, if_neg (by decide), if_neg (by decide), if_neg (by decide), if_neg (by decide), if_neg (by decide), if_neg (by decide), if_pos (by decide), a1', a2', if_neg (nI_in (by omega) (by decide)), if_neg (nI_in (by omega) (by decide))]
        refine ok01_1 ?_
        unfold f_Model_open
        rw [nI_clamp (n := w) (by omega), if_neg zw, hph, if_neg (show ¬ ¬ nI 0 = 0 from fun x => x rfl), b2', if_pos (show ¬ nI 1 = 0 by decide), if_neg zw, pl_eq, q0]
        rfl
      · exact fun a a1 a2 a3 a4 a5 a6 a7 a8 a9 a10 a11 => by rw [r0 a (by omega), k1 a a1 a2 a3 a4 a5 a6]
      · exact fun j hj => by rw [r0 112 (by decide)]; exact k2 j hj
      · exact by rw [r0 112 (by decide)]; exact k3
      · exact fun e => by rw [r0 151 (by decide), hk]; exact k4 e
      · exact fun q => by rw [r0 153 (by decide)]; exact k5 q
      · exact fun i hi => by rw [r0 131 (by decide)]; exact k6 i hi
      · exact by rw [r0 131 (by decide)]; exact k7
      · exact k8
      · exact fun e => by
          rw [k9 e]
          rw [if_neg (by omega), if_neg (by omega)]
      · exact fun i hi => by rw [r0 130 (by decide)]; exact k10 i hi
      · exact by rw [r0 130 (by decide)]; exact k11
      · exact fun j hj => by rw [r0 148 (by decide)]; exact k12 j hj
      · exact fun q hq => by rw [r0 148 (by decide)]; exact k13 q hq
      · exact by rw [s0]; rfl
      · exact fun i hi => by rw [t0 i hi, k1 128 (by decide) (by decide) (by decide) (by decide) (by decide) (by decide)]
      · exact fun i => by rw [if_neg (by omega), if_neg (by omega), r0 121 (by decide), k1 121 (by decide) (by decide) (by decide) (by decide) (by decide) (by decide)]
      · exact fun i => by rw [if_neg (by omega), r0 122 (by decide), k1 122 (by decide) (by decide) (by decide) (by decide) (by decide) (by decide)]
      · exact fun i => by rw [if_neg (by omega), r0 126 (by decide), k1 126 (by decide) (by decide) (by decide) (by decide) (by decide) (by decide)]
      · exact fun i => by rw [if_neg (by omega), r0 119 (by decide), k1 119 (by decide) (by decide) (by decide) (by decide) (by decide) (by decide)]
  · -- 25
    have z3 : pos + 4 ≤ n := by rw [e1] at z3; exact z3
    have sr := fun {α : Type} {F : Int32 → MI → MJ → Option α} => mIJ (F := F) (J := J) hr hb hn z1 z2 (by rw [e1]; exact z3)
    rw [if_pos ej] at sr
    have S := SENM (J := J) (kd := 5) (v := 0) hP hwP hB h6 h8 hwr h0 hne hEV hle hev hpl (by decide)
    rcases S with ⟨b1, b2⟩ | ⟨b1, I2, J2, b2, k1, k2, k3, k4, k5, k6, k7, k8, k9, k10, k11, k12, k13⟩
    · have b2' : ∀ {α : Type} {F : Int32 → MI → MJ → Option α}, oc (f_Model_send (nI w) 5 0 I J) F = F (nI 0) I J := b2
      refine Or.inl ⟨b1, ?_⟩
      unfold f_Model_act; rw [nI_clamp (n := w) (by omega), if_neg zw, pl_eq, hp, if_neg (nI_in (by omega) (by decide)), nI_clamp (n := pos) (by omega), pl_eq, pl_eq, hr pos z1, e1, if_neg (by decide), if_neg (by decide), if_neg (by decide), if_neg (by decide), if_neg (by decide), if_neg (by decide), if_neg (by decide), if_neg (by decide), if_neg (by decide), if_neg (by decide), if_neg (by decide), if_neg (by decide), if_neg (by decide), if_neg (by decide), if_neg (by decide), if_neg (by decide)]
      refine ok01_0 ?_
      unfold f_Model_rows
      rw [if_neg (nI_in (by omega) (by decide)), nI_clamp (n := pos) (by omega), pl_eq, hr pos z1, e1, sr, if_neg (show ¬ nI 1 = 0 by decide), nI_clamp (n := w) (by omega), if_neg zw, hph, if_neg (show ¬ ¬ nI 0 = 0 from fun x => x rfl), b2', if_neg (show ¬ ¬ nI 0 = 0 from fun x => x rfl)]
      rfl
    · have b2' : ∀ {α : Type} {F : Int32 → MI → MJ → Option α}, oc (f_Model_send (nI w) 5 0 I J) F = F (nI 1) I2 J2 := b2
      obtain ⟨A0, q0, r0, s0, t0⟩ := UP1 I2 121 w (I2 121 w + 16)
      obtain ⟨A1, q1, r1, s1, t1⟩ := UP1 A0 128 w 1
      have hk : kdo (cd pos) = 5 := by rw [e1]; rfl
      refine Or.inr ⟨b1, A1, J2, ?_, ?_, ?_, ?_, ?_, ?_, ?_, ?_, ?_, ?_, ?_, ?_, ?_, ?_, ?_, ?_, ?_, ?_, ?_, ?_⟩
      · skip
        unfold f_Model_act; rw [nI_clamp (n := w) (by omega), if_neg zw, pl_eq, hp, if_neg (nI_in (by omega) (by decide)), nI_clamp (n := pos) (by omega), pl_eq, pl_eq, hr pos z1, e1, if_neg (by decide), if_neg (by decide), if_neg (by decide), if_neg (by decide), if_neg (by decide), if_neg (by decide), if_neg (by decide), if_neg (by decide), if_neg (by decide), if_neg (by decide), if_neg (by decide), if_neg (by decide), if_neg (by decide), if_neg (by decide), if_neg (by decide), if_neg (by decide)]
        refine ok01_1 ?_
        unfold f_Model_rows
        rw [if_neg (nI_in (by omega) (by decide)), nI_clamp (n := pos) (by omega), pl_eq, hr pos z1, e1, sr, if_neg (show ¬ nI 1 = 0 by decide), nI_clamp (n := w) (by omega), if_neg zw, hph, if_neg (show ¬ ¬ nI 0 = 0 from fun x => x rfl), b2', if_pos (show ¬ nI 1 = 0 by decide), if_neg zw, if_neg zw, pl_eq, q0, if_neg zw, pl_eq, q1]
        rfl
      · exact fun a a1 a2 a3 a4 a5 a6 a7 a8 a9 a10 a11 => by rw [r1 a (by omega), r0 a (by omega), k1 a a1 a2 a3 a4 a5 a6]
      · exact fun j hj => by rw [r1 112 (by decide), r0 112 (by decide)]; exact k2 j hj
      · exact by rw [r1 112 (by decide), r0 112 (by decide)]; exact k3
      · exact fun e => by rw [r1 151 (by decide), r0 151 (by decide), hk]; exact k4 e
      · exact fun q => by rw [r1 153 (by decide), r0 153 (by decide)]; exact k5 q
      · exact fun i hi => by rw [r1 131 (by decide), r0 131 (by decide)]; exact k6 i hi
      · exact by rw [r1 131 (by decide), r0 131 (by decide)]; exact k7
      · exact k8
      · exact fun e => by
          rw [k9 e]
          rw [if_neg (by omega), if_neg (by omega)]
      · exact fun i hi => by rw [r1 130 (by decide), r0 130 (by decide)]; exact k10 i hi
      · exact by rw [r1 130 (by decide), r0 130 (by decide)]; exact k11
      · exact fun j hj => by rw [r1 148 (by decide), r0 148 (by decide)]; exact k12 j hj
      · exact fun q hq => by rw [r1 148 (by decide), r0 148 (by decide)]; exact k13 q hq
      · exact by rw [s1]; rfl
      · exact fun i hi => by rw [t1 i hi, r0 128 (by decide), k1 128 (by decide) (by decide) (by decide) (by decide) (by decide) (by decide)]
      · exact fun i => by
          by_cases x : i = w
          · rw [if_neg (by omega), if_pos (by omega), x, r1 121 (by decide), s0, k1 121 (by decide) (by decide) (by decide) (by decide) (by decide) (by decide)]
          · rw [if_neg (by omega), if_neg (by omega), r1 121 (by decide), t0 i x, k1 121 (by decide) (by decide) (by decide) (by decide) (by decide) (by decide)]
      · exact fun i => by rw [if_neg (by omega), r1 122 (by decide), r0 122 (by decide), k1 122 (by decide) (by decide) (by decide) (by decide) (by decide) (by decide)]
      · exact fun i => by rw [if_neg (by omega), r1 126 (by decide), r0 126 (by decide), k1 126 (by decide) (by decide) (by decide) (by decide) (by decide) (by decide)]
      · exact fun i => by rw [if_neg (by omega), r1 119 (by decide), r0 119 (by decide), k1 119 (by decide) (by decide) (by decide) (by decide) (by decide) (by decide)]
  · -- 26
    have z3 : pos + 3 ≤ n := by rw [e1] at z3; exact z3
    have sr := fun {α : Type} {F : Int32 → MI → MJ → Option α} => mIJ (F := F) (J := J) hr hb hn z1 z2 (by rw [e1]; exact z3)
    rw [if_pos ej] at sr
    have S := SENM (J := J) (kd := 5) (v := 0) hP hwP hB h6 h8 hwr h0 hne hEV hle hev hpl (by decide)
    rcases S with ⟨b1, b2⟩ | ⟨b1, I2, J2, b2, k1, k2, k3, k4, k5, k6, k7, k8, k9, k10, k11, k12, k13⟩
    · have b2' : ∀ {α : Type} {F : Int32 → MI → MJ → Option α}, oc (f_Model_send (nI w) 5 0 I J) F = F (nI 0) I J := b2
      refine Or.inl ⟨b1, ?_⟩
      unfold f_Model_act; rw [nI_clamp (n := w) (by omega), if_neg zw, pl_eq, hp, if_neg (nI_in (by omega) (by decide)), nI_clamp (n := pos) (by omega), pl_eq, pl_eq, hr pos z1, e1, if_neg (by decide), if_neg (by decide), if_neg (by decide), if_neg (by decide), if_neg (by decide), if_neg (by decide), if_neg (by decide), if_neg (by decide), if_neg (by decide), if_neg (by decide), if_neg (by decide), if_neg (by decide), if_neg (by decide), if_neg (by decide), if_neg (by decide), if_neg (by decide)]
      refine ok01_0 ?_
      unfold f_Model_rows
      rw [if_neg (nI_in (by omega) (by decide)), nI_clamp (n := pos) (by omega), pl_eq, hr pos z1, e1, sr, if_neg (show ¬ nI 1 = 0 by decide), nI_clamp (n := w) (by omega), if_neg zw, hph, if_neg (show ¬ ¬ nI 0 = 0 from fun x => x rfl), b2', if_neg (show ¬ ¬ nI 0 = 0 from fun x => x rfl)]
      rfl
    · have b2' : ∀ {α : Type} {F : Int32 → MI → MJ → Option α}, oc (f_Model_send (nI w) 5 0 I J) F = F (nI 1) I2 J2 := b2
      obtain ⟨A0, q0, r0, s0, t0⟩ := UP1 I2 121 w (I2 121 w + 16)
      obtain ⟨A1, q1, r1, s1, t1⟩ := UP1 A0 128 w 1
      have hk : kdo (cd pos) = 5 := by rw [e1]; rfl
      refine Or.inr ⟨b1, A1, J2, ?_, ?_, ?_, ?_, ?_, ?_, ?_, ?_, ?_, ?_, ?_, ?_, ?_, ?_, ?_, ?_, ?_, ?_, ?_, ?_⟩
      · skip
        unfold f_Model_act; rw [nI_clamp (n := w) (by omega), if_neg zw, pl_eq, hp, if_neg (nI_in (by omega) (by decide)), nI_clamp (n := pos) (by omega), pl_eq, pl_eq, hr pos z1, e1, if_neg (by decide), if_neg (by decide), if_neg (by decide), if_neg (by decide), if_neg (by decide), if_neg (by decide), if_neg (by decide), if_neg (by decide), if_neg (by decide), if_neg (by decide), if_neg (by decide), if_neg (by decide), if_neg (by decide), if_neg (by decide), if_neg (by decide), if_neg (by decide)]
        refine ok01_1 ?_
        unfold f_Model_rows
        rw [if_neg (nI_in (by omega) (by decide)), nI_clamp (n := pos) (by omega), pl_eq, hr pos z1, e1, sr, if_neg (show ¬ nI 1 = 0 by decide), nI_clamp (n := w) (by omega), if_neg zw, hph, if_neg (show ¬ ¬ nI 0 = 0 from fun x => x rfl), b2', if_pos (show ¬ nI 1 = 0 by decide), if_neg zw, if_neg zw, pl_eq, q0, if_neg zw, pl_eq, q1]
        rfl
      · exact fun a a1 a2 a3 a4 a5 a6 a7 a8 a9 a10 a11 => by rw [r1 a (by omega), r0 a (by omega), k1 a a1 a2 a3 a4 a5 a6]
      · exact fun j hj => by rw [r1 112 (by decide), r0 112 (by decide)]; exact k2 j hj
      · exact by rw [r1 112 (by decide), r0 112 (by decide)]; exact k3
      · exact fun e => by rw [r1 151 (by decide), r0 151 (by decide), hk]; exact k4 e
      · exact fun q => by rw [r1 153 (by decide), r0 153 (by decide)]; exact k5 q
      · exact fun i hi => by rw [r1 131 (by decide), r0 131 (by decide)]; exact k6 i hi
      · exact by rw [r1 131 (by decide), r0 131 (by decide)]; exact k7
      · exact k8
      · exact fun e => by
          rw [k9 e]
          rw [if_neg (by omega), if_neg (by omega)]
      · exact fun i hi => by rw [r1 130 (by decide), r0 130 (by decide)]; exact k10 i hi
      · exact by rw [r1 130 (by decide), r0 130 (by decide)]; exact k11
      · exact fun j hj => by rw [r1 148 (by decide), r0 148 (by decide)]; exact k12 j hj
      · exact fun q hq => by rw [r1 148 (by decide), r0 148 (by decide)]; exact k13 q hq
      · exact by rw [s1]; rfl
      · exact fun i hi => by rw [t1 i hi, r0 128 (by decide), k1 128 (by decide) (by decide) (by decide) (by decide) (by decide) (by decide)]
      · exact fun i => by
          by_cases x : i = w
          · rw [if_neg (by omega), if_pos (by omega), x, r1 121 (by decide), s0, k1 121 (by decide) (by decide) (by decide) (by decide) (by decide) (by decide)]
          · rw [if_neg (by omega), if_neg (by omega), r1 121 (by decide), t0 i x, k1 121 (by decide) (by decide) (by decide) (by decide) (by decide) (by decide)]
      · exact fun i => by rw [if_neg (by omega), r1 122 (by decide), r0 122 (by decide), k1 122 (by decide) (by decide) (by decide) (by decide) (by decide) (by decide)]
      · exact fun i => by rw [if_neg (by omega), r1 126 (by decide), r0 126 (by decide), k1 126 (by decide) (by decide) (by decide) (by decide) (by decide) (by decide)]
      · exact fun i => by rw [if_neg (by omega), r1 119 (by decide), r0 119 (by decide), k1 119 (by decide) (by decide) (by decide) (by decide) (by decide) (by decide)]
end OPS
