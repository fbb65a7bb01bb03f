/-! the run: what a receive concludes, in the reference -/
def FR (w : Nat) (I I1 : MI) (J J1 : MJ) : Prop := (∀ a, a ≠ 145 → a ≠ 140 → a ≠ 141 → a ≠ 127 → a ≠ 128 → a ≠ 135 → a ≠ 150 → a ≠ 132 → I1 a = I a) ∧ (∀ i, i ≠ w → I1 145 i = I 145 i ∧ I1 141 i = I 141 i ∧ I1 127 i = I 127 i ∧ I1 128 i = I 128 i ∧ I1 135 i = I 135 i ∧ I1 132 i = I 132 i) ∧ (∀ i, i < 16 * w ∨ 16 * w + 16 ≤ i → I1 140 i = I 140 i) ∧ (∀ q, q % 4 ≠ w → I1 150 q = I 150 q) ∧ (∀ a, a ≠ 143 → a ≠ 144 → J1 a = J a) ∧ (∀ i, i < 154 * w ∨ 154 * w + 154 ≤ i → J1 143 i = J 143 i) ∧ (∀ i, i < 65 * w ∨ 65 * w + 65 ≤ i → J1 144 i = J 144 i)
theorem FR.tr {w : Nat} {I I1 I2 : MI} {J J1 J2 : MJ} (h : FR w I I1 J J1) (k : FR w I1 I2 J1 J2) : FR w I I2 J J2 := ⟨fun a a1 a2 a3 a4 a5 a6 a7 a8 => (k.1 a a1 a2 a3 a4 a5 a6 a7 a8).trans (h.1 a a1 a2 a3 a4 a5 a6 a7 a8), fun i hi => ⟨(k.2.1 i hi).1.trans (h.2.1 i hi).1, (k.2.1 i hi).2.1.trans (h.2.1 i hi).2.1, (k.2.1 i hi).2.2.1.trans (h.2.1 i hi).2.2.1, (k.2.1 i hi).2.2.2.1.trans (h.2.1 i hi).2.2.2.1, (k.2.1 i hi).2.2.2.2.1.trans (h.2.1 i hi).2.2.2.2.1, (k.2.1 i hi).2.2.2.2.2.trans (h.2.1 i hi).2.2.2.2.2⟩, fun i hi => (k.2.2.1 i hi).trans (h.2.2.1 i hi), fun q hq => (k.2.2.2.1 q hq).trans (h.2.2.2.1 q hq), fun a a1 a2 => (k.2.2.2.2.1 a a1 a2).trans (h.2.2.2.2.1 a a1 a2), fun i hi => (k.2.2.2.2.2.1 i hi).trans (h.2.2.2.2.2.1 i hi), fun i hi => (k.2.2.2.2.2.2 i hi).trans (h.2.2.2.2.2.2 i hi)⟩
theorem FN.fr {w : Nat} {I I1 : MI} {J J1 : MJ} (h : FN w I I1 J J1) : FR w I I1 J J1 := ⟨fun a a1 a2 a3 _ _ _ _ _ => h.1 a a1 a2 a3, fun i hi => ⟨(h.2.1 i hi).1, (h.2.1 i hi).2, by rw [h.1 127 (by decide) (by decide) (by decide)], by rw [h.1 128 (by decide) (by decide) (by decide)], by rw [h.1 135 (by decide) (by decide) (by decide)], by rw [h.1 132 (by decide) (by decide) (by decide)]⟩, h.2.2.1, fun q _ => by rw [h.1 150 (by decide) (by decide) (by decide)], h.2.2.2⟩
theorem FR_u {w a : Nat} {I : MI} {J : MJ} {x : Int32} (ha : a = 127 ∨ a = 128 ∨ a = 135 ∨ a = 132) : FR w I (va_up I a (upd (I a) w x)) J J := by
  have k : ∀ b, ∀ i, i ≠ w → (va_up I a (upd (I a) w x)) b i = I b i := by
    intro b i hi
    by_cases e : b = a
    · subst e
      rw [va_up_self, upd_n _ _ hi]
    · rw [va_up_ne _ _ e]
  exact ⟨fun b _ _ _ b4 b5 b6 _ b8 => va_up_ne _ _ (by omega), fun i hi => ⟨k _ i hi, k _ i hi, k _ i hi, k _ i hi, k _ i hi, k _ i hi⟩, fun i _ => by rw [va_up_ne _ _ (by omega)], fun q _ => by rw [va_up_ne _ _ (by omega)], fun _ _ _ => rfl, fun _ _ => rfl, fun _ _ => rfl⟩
theorem TAM_f2 {P NT : Nat} {tp ts tk tb : Nat → Nat} {I I' I1' : MI} {J J' J1' : MJ} (h : TAM I I' J J' P NT tp ts tk tb) (e1 : I1' 112 66 = I' 112 66) (e2 : I1' 156 = I' 156) (e3 : I1' 157 = I' 157) (e4 : I1' 158 = I' 158) (e5 : J1' 159 = J' 159) : TAM I I1' J J1' P NT tp ts tk tb := by
  unfold TAM
  rw [e1, e2, e3, e4, e5]
  exact h
def ok01 (r : M2 Int32) : M2 Int32 := oc r (fun v I J => if v = 0 ∨ v = 1 then some (v, I, J) else none)
theorem ok01_1 {r : M2 Int32} {I : MI} {J : MJ} (h : r = some (nI 1, I, J)) : ok01 r = some (1, I, J) := by
  unfold ok01
  rw [h, oc_some, if_pos (show nI 1 = 0 ∨ nI 1 = 1 from Or.inr rfl)]
  rfl
theorem ok01_0 {r : M2 Int32} {I : MI} {J : MJ} (h : r = some (nI 0, I, J)) : ok01 r = some (0, I, J) := by
  unfold ok01
  rw [h, oc_some, if_pos (show nI 0 = 0 ∨ nI 0 = 1 from Or.inl rfl)]
  rfl
section OPS
variable {cd va sk kp pl : Nat → Nat} {n P w h nk pos bt inp NT ev : Nat} {tp ts tk tb : Nat → Nat} {st : Nat → Bool} {hg : Nat → Nat} {I Ic : MI} {J Jc : MJ}
theorem FINR {I2 : MI} {J2 : MJ} (hw : w < 4) (hr : ∀ k, k < n → I2 114 k = nI (cd k)) (hn : n ≤ 2000) (hp : I2 127 w = nI pos) (hpn : pos < n) (hop : cd pos ≤ 29) (he : I2 135 w = nI ev) (hv : RV I2 J2 w h sk va nk kp) : ∃ I3, (∀ {α : Type} {F : Unit → MI → MJ → Option α}, oc (f_Model_received (nI w) I2 J2) F = F () I3 J2) ∧ RV I3 J2 w h sk va nk kp ∧ I3 127 w = nI (pos + opl (cd pos)) ∧ I3 128 w = nI 0 ∧ I3 135 w = nI (ev + 1) ∧ FR w I2 I3 J2 J2 ∧ I3 132 = I2 132 ∧ I3 150 = I2 150 := by
  have zw := nin hw (show 4 < 2 ^ 31 by decide)
  have nx := fun {α : Type} {F : Unit → MI → MJ → Option α} => mNXT (F := F) (J := J2) (I := va_up I2 135 (upd (I2 135) w (nI (ev + 1)))) hw (fun k hk => by rw [va_up_ne _ _ (by decide)]; exact hr k hk) hn (by rw [va_up_ne _ _ (by decide)]; exact hp) hpn hop
  refine ⟨va_up (va_up (va_up I2 135 (upd (I2 135) w (nI (ev + 1)))) 127 (upd ((va_up I2 135 (upd (I2 135) w (nI (ev + 1)))) 127) w (nI (pos + opl (cd pos))))) 128 (upd ((va_up I2 135 (upd (I2 135) w (nI (ev + 1)))) 128) w 0), fun {α F} => ?_, RV_o (a := 128) (by decide) (RV_o (a := 127) (by decide) (RV_o (a := 135) (x := upd (I2 135) w (nI (ev + 1))) (by decide) hv)), ?_, ?_, ?_, ?_, ?_, ?_⟩
  · unfold f_Model_received
    rw [nI_clamp (n := w) (by omega), if_neg zw, if_neg zw, he, nI_1, pl_eq, oc_oc, nx, oc_some]
  · rw [va_up_ne _ _ (by decide), va_up_self, upd_s]
  · rw [va_up_self, upd_s]
    rfl
  · rw [va_up_ne _ _ (by decide), va_up_ne _ _ (by decide), va_up_self, upd_s]
  · have a1 := FR_u (w := w) (I := I2) (J := J2) (a := 135) (x := nI (ev + 1)) (by decide)
    have a2 := FR_u (w := w) (I := va_up I2 135 (upd (I2 135) w (nI (ev + 1)))) (J := J2) (a := 127) (x := nI (pos + opl (cd pos))) (by decide)
    have a3 := FR_u (w := w) (I := va_up (va_up I2 135 (upd (I2 135) w (nI (ev + 1)))) 127 (upd ((va_up I2 135 (upd (I2 135) w (nI (ev + 1)))) 127) w (nI (pos + opl (cd pos))))) (J := J2) (a := 128) (x := 0) (by decide)
    rw [va_up_ne _ _ (show 128 ≠ 127 by decide)] at a3
    exact a1.tr (a2.tr a3)
  · rw [va_up_ne _ _ (by decide), va_up_ne _ _ (by decide), va_up_ne _ _ (by decide)]
  · rw [va_up_ne _ _ (by decide), va_up_ne _ _ (by decide), va_up_ne _ _ (by decide)]
theorem mRCV [Decidable (jnt cd pos)] {gt : Nat → Nat} (hW : WFc cd n P st hg) (hwP : w < P) (hP : P ≤ 4) (hs : st pos = true) (hh : hg pos = h) (hv : RV I J w h sk va nk kp) (hr : ∀ k, k < n → I 114 k = nI (cd k)) (hp : I 127 w = nI pos) (hop : shd cd pos) (hph1 : cd pos ≠ 13 ∨ cd (pos + 2) = w → I 128 w = nI 1) (h6 : I 112 16 = nI P) (hg : ∀ j, j < P → gt j < 2 ^ 31 ∧ I 150 (4 * j + w) = nI (gt j)) (hT : TAM Ic I Jc J P NT tp ts tk tb) (hne : I 135 w = nI ev) (hev : ev < 30001) (hso : anyb (fun j => decide (j ≠ w) && (sdf cd pos j && decide (gt j = 0))) P 0 = false → ∀ j, j < P → pl j < 2 ^ 31 ∧ I 153 (4 * ev + j) = if sdf cd pos j = true then nI (pl j) else m1) (hin : anyb (fun j => decide (j ≠ w) && (sdf cd pos j && decide (gt j = 0))) P 0 = false → cd pos = 13 → inp < pP ∧ J 152 ev = lN inp) : (anyb (fun j => decide (j ≠ w) && (sdf cd pos j && decide (gt j = 0))) P 0 = true ∧ f_Model_act (nI w) I J = some (0, I, J)) ∨ (anyb (fun j => decide (j ≠ w) && (sdf cd pos j && decide (gt j = 0))) P 0 = false ∧ ∃ I1 J1, f_Model_act (nI w) I J = some (1, I1, J1) ∧ (∀ L, L = lop cd (eE NT tp ts tk tb (sdf cd pos) pl) inp bt pos h sk va nk kp → RV I1 J1 w L.2.1 L.2.2.1 L.2.2.2.1 L.2.2.2.2.1 L.2.2.2.2.2 ∧ I1 127 w = nI L.1) ∧ I1 128 w = nI 0 ∧ I1 135 w = nI (ev + 1) ∧ I1 132 w = I 132 w + 1 ∧ (∀ j, j < P → I1 150 (4 * j + w) = nI (if j ≠ w ∧ sdf cd pos j = true then gt j - 1 else gt j)) ∧ FR w I I1 J J1) := by
  obtain ⟨z1, z2, z3, z4, z5⟩ := WF_h hW hs
  have hn := hW.2.1
  have hb := hW.2.2.1
  have hw : w < 4 := by omega
  obtain ⟨wa1, wa2, wa3, wa4, wa5, wa6⟩ := WF_a hW hs
  rw [hh] at z4 z5
  have zw := nin hw (show 4 < 2 ^ 31 by decide)
  have a1' : nI pos + 1 = nI (pos + 1) := nI_1 pos
  have a2' : nI pos + 2 = nI (pos + 2) := nI_add pos 2
  have a3' : nI pos + 3 = nI (pos + 3) := nI_add pos 3
  have hf := frm_HF (cd := cd) (pos := pos) (fun x => by have := (wa2 x).2; omega)
  have big : cd pos = 7 ∨ cd pos = 10 ∨ cd pos = 13 ∨ cd pos = 14 ∨ (cd pos = 25 ∧ jnt cd pos) ∨ (cd pos = 26 ∧ jnt cd pos) := by
    rcases hop with x | x | x | x | x
    · exact Or.inl x
    · exact Or.inr (Or.inl x)
    · exact Or.inr (Or.inr (Or.inl x))
    · exact Or.inr (Or.inr (Or.inr (Or.inl x)))
    · rcases x with y | y
      · exact Or.inr (Or.inr (Or.inr (Or.inr (Or.inl ⟨y.1, Or.inl y⟩))))
      · exact Or.inr (Or.inr (Or.inr (Or.inr (Or.inr ⟨y.1, Or.inr y⟩))))
  -- the act, by operation
  have hd : ∀ {op : Nat}, cd pos = op → f_Model_act (nI w) I J = f_Model_act (nI w) I J := fun _ => rfl
  rcases RCVM (J := J) hP hwP hf h6 hg with ⟨b1, b2⟩ | ⟨b1, I2, b2, b3, b4, b5, b6, b7⟩
  · refine Or.inl ⟨b1, ?_⟩
    rcases big with e1 | e1 | e1 | e1 | ⟨e1, ej⟩ | ⟨e1, ej⟩
    · -- 7
      have z3 : pos + 1 ≤ n := by rw [e1] at z3; exact z3
      have ph : I 128 w = nI 1 := hph1 (Or.inl (by omega))
      have fm : frm cd pos = -1 := by unfold frm; rw [if_neg (by omega)]; rfl
      rw [fm] at b2
      unfold f_Model_act; rw [nI_clamp (n := w) (by omega), if_neg zw, pl_eq, hp, if_neg (nI_in (by omega) (by decide)), nI_clamp (n := pos) (by omega), pl_eq, pl_eq, hr pos z1, e1, if_neg (by decide), if_pos (by decide)]
      refine ok01_0 ?_
      unfold f_Model_joint
      rw [nI_clamp (n := w) (by omega), if_neg zw, ph, if_pos (show ¬ nI 1 = 0 by decide), b2, if_neg (show ¬ ¬ nI 0 = 0 from fun x => x rfl)]
      rfl
    · -- 10
      have z3 : pos + 1 ≤ n := by rw [e1] at z3; exact z3
      have ph : I 128 w = nI 1 := hph1 (Or.inl (by omega))
      have fm : frm cd pos = -1 := by unfold frm; rw [if_neg (by omega)]; rfl
      rw [fm] at b2
      unfold f_Model_act; rw [nI_clamp (n := w) (by omega), if_neg zw, pl_eq, hp, if_neg (nI_in (by omega) (by decide)), nI_clamp (n := pos) (by omega), pl_eq, pl_eq, hr pos z1, e1, if_neg (by decide), if_pos (by decide)]
      refine ok01_0 ?_
      unfold f_Model_joint
      rw [nI_clamp (n := w) (by omega), if_neg zw, ph, if_pos (show ¬ nI 1 = 0 by decide), b2, if_neg (show ¬ ¬ nI 0 = 0 from fun x => x rfl)]
      rfl
    · -- 13
      have z3 : pos + 3 ≤ n := by rw [e1] at z3; exact z3
      have fm : frm cd pos = nI (cd (pos + 2)) := by unfold frm; rw [if_pos e1]
      rw [fm] at b2
      have wq := (wa2 e1).2
      unfold f_Model_act; rw [nI_clamp (n := w) (by omega), if_neg zw, pl_eq, hp, if_neg (nI_in (by omega) (by decide)), nI_clamp (n := pos) (by omega), pl_eq, pl_eq, hr pos z1, e1, if_neg (by decide), if_neg (by decide), if_neg (by decide), if_neg (by decide), if_neg (by decide), if_pos (by decide), a1', a2', if_neg (nI_in (by omega) (by decide)), if_neg (nI_in (by omega) (by decide)), nI_clamp (n := pos + 1) (by omega), nI_clamp (n := pos + 2) (by omega), hr (pos + 1) (by omega), hr (pos + 2) (by omega)]
      refine ok01_0 ?_
      unfold f_Model_input
      by_cases x : cd (pos + 2) = w
      · have ph : I 128 w = nI 1 := hph1 (Or.inr x)
        rw [if_neg (show ¬ ¬ nI w = nI (cd (pos + 2)) from fun y => y (by rw [x])), nI_clamp (n := w) (by omega), if_neg zw, ph, if_pos (show ¬ nI 1 = 0 by decide), b2, if_neg (show ¬ ¬ nI 0 = 0 from fun x => x rfl)]
        rfl
      · rw [if_pos (show ¬ nI w = nI (cd (pos + 2)) from fun y => x ((nI_eq (by omega) (by omega)).mp y).symm), b2, if_neg (show ¬ ¬ nI 0 = 0 from fun x => x rfl)]
        rfl
    · -- 14
      have z3 : pos + 3 ≤ n := by rw [e1] at z3; exact z3
      have ph : I 128 w = nI 1 := hph1 (Or.inl (by omega))
      have fm : frm cd pos = -1 := by unfold frm; rw [if_neg (by omega)]; rfl
      rw [fm] at b2
      unfold f_Model_act; rw [nI_clamp (n := w) (by omega), if_neg zw, pl_eq, hp, if_neg (nI_in (by omega) (by decide)), nI_clamp (n := pos) (by omega), pl_eq, pl_eq, hr pos z1, e1, if_neg (by decide), if_neg (by decide), if_neg (by decide), if_neg (by decide), if_neg (by decide), if_neg (by decide), if_pos (by decide), a1', a2', if_neg (nI_in (by omega) (by decide)), if_neg (nI_in (by omega) (by decide))]
      refine ok01_0 ?_
      unfold f_Model_open
      rw [nI_clamp (n := w) (by omega), if_neg zw, ph, if_pos (show ¬ nI 1 = 0 by decide), b2, if_neg (show ¬ ¬ nI 0 = 0 from fun x => x rfl)]
      rfl
    · -- 25
      have z3 : pos + 4 ≤ n := by rw [e1] at z3; exact z3
      have ph : I 128 w = nI 1 := hph1 (Or.inl (by omega))
      have fm : frm cd pos = -1 := by unfold frm; rw [if_neg (by omega)]; rfl
      rw [fm] at b2
      have sr := fun {α : Type} {F : Int32 → MI → MJ → Option α} => mIJ (F := F) (J := J) hr hb hn z1 z2 (by rw [e1]; exact z3)
      rw [if_pos ej] at sr
      unfold f_Model_act; rw [nI_clamp (n := w) (by omega), if_neg zw, pl_eq, hp, if_neg (nI_in (by omega) (by decide)), nI_clamp (n := pos) (by omega), pl_eq, pl_eq, hr pos z1, e1, if_neg (by decide), if_neg (by decide), if_neg (by decide), if_neg (by decide), if_neg (by decide), if_neg (by decide), if_neg (by decide), if_neg (by decide), if_neg (by decide), if_neg (by decide), if_neg (by decide), if_neg (by decide), if_neg (by decide), if_neg (by decide), if_neg (by decide), if_neg (by decide)]
      refine ok01_0 ?_
      unfold f_Model_rows
      rw [if_neg (nI_in (by omega) (by decide)), nI_clamp (n := pos) (by omega), pl_eq, hr pos z1, e1, sr, if_neg (show ¬ nI 1 = 0 by decide), nI_clamp (n := w) (by omega), if_neg zw, ph, if_pos (show ¬ nI 1 = 0 by decide), if_neg (show ¬ nI 1 = 0 by decide), b2, if_neg (show ¬ ¬ nI 0 = 0 from fun x => x rfl)]
      rfl
    · -- 26
      have z3 : pos + 3 ≤ n := by rw [e1] at z3; exact z3
      have ph : I 128 w = nI 1 := hph1 (Or.inl (by omega))
      have fm : frm cd pos = -1 := by unfold frm; rw [if_neg (by omega)]; rfl
      rw [fm] at b2
      have sr := fun {α : Type} {F : Int32 → MI → MJ → Option α} => mIJ (F := F) (J := J) hr hb hn z1 z2 (by rw [e1]; exact z3)
      rw [if_pos ej] at sr
      unfold f_Model_act; rw [nI_clamp (n := w) (by omega), if_neg zw, pl_eq, hp, if_neg (nI_in (by omega) (by decide)), nI_clamp (n := pos) (by omega), pl_eq, pl_eq, hr pos z1, e1, if_neg (by decide), if_neg (by decide), if_neg (by decide), if_neg (by decide), if_neg (by decide), if_neg (by decide), if_neg (by decide), if_neg (by decide), if_neg (by decide), if_neg (by decide), if_neg (by decide), if_neg (by decide), if_neg (by decide), if_neg (by decide), if_neg (by decide), if_neg (by decide)]
      refine ok01_0 ?_
      unfold f_Model_rows
      rw [if_neg (nI_in (by omega) (by decide)), nI_clamp (n := pos) (by omega), pl_eq, hr pos z1, e1, sr, if_neg (show ¬ nI 1 = 0 by decide), nI_clamp (n := w) (by omega), if_neg zw, ph, if_pos (show ¬ nI 1 = 0 by decide), if_neg (show ¬ nI 1 = 0 by decide), b2, if_neg (show ¬ ¬ nI 0 = 0 from fun x => x rfl)]
      rfl
  · refine Or.inr ⟨b1, ?_⟩
    have fr2 : FR w I I2 J J := ⟨fun a _ _ _ _ _ _ a7 a8 => b3 a a7 a8, fun i hi => ⟨by rw [b3 145 (by decide) (by decide)], by rw [b3 141 (by decide) (by decide)], by rw [b3 127 (by decide) (by decide)], by rw [b3 128 (by decide) (by decide)], by rw [b3 135 (by decide) (by decide)], b4 i hi⟩, fun i _ => by rw [b3 140 (by decide) (by decide)], b7, fun _ _ _ => rfl, fun _ _ => rfl, fun _ _ => rfl⟩
    have hv2 : RV I2 J w h sk va nk kp := RV_eq hv (by rw [b3 145 (by decide) (by decide)]) (by rw [b3 141 (by decide) (by decide)]) (by rw [b3 140 (by decide) (by decide)]) rfl rfl
    have hT2 : TAM Ic I2 Jc J P NT tp ts tk tb := TAM_f2 hT (by rw [b3 112 (by decide) (by decide)]) (b3 156 (by decide) (by decide)) (b3 157 (by decide) (by decide)) (b3 158 (by decide) (by decide)) rfl
    have hr2 : ∀ k, k < n → I2 114 k = nI (cd k) := fun k hk => by rw [b3 114 (by decide) (by decide)]; exact hr k hk
    have hp2 : I2 127 w = nI pos := by rw [b3 127 (by decide) (by decide)]; exact hp
    have he2 : I2 135 w = nI ev := by rw [b3 135 (by decide) (by decide)]; exact hne
    have so := hso b1
    have so2 : ∀ j, j < P → pl j < 2 ^ 31 ∧ I2 153 (4 * ev + j) = if sdf cd pos j = true then nI (pl j) else m1 := fun j hj => by rw [b3 153 (by decide) (by decide)]; exact so j hj
    -- errors, wherever the memory of this party has changed
    have er : ∀ {I3 : MI} {J3 : MJ} {k : Nat}, FN w I2 I3 J J3 → k < 32 → ∀ (Jx : MJ), Jx 159 = J3 159 → ∀ {α : Type} {F : Int64 → MI → MJ → Option α}, oc (f_Model_error (nI ev) (nI k) I3 Jx) F = F (lN (eE NT tp ts tk tb (sdf cd pos) pl k)) I3 Jx := by
      intro I3 J3 k f hk Jx hJ α F
      refine MER (TAM_f2 hT2 (by rw [f.1 112 (by decide) (by decide) (by decide)]) (f.1 156 (by decide) (by decide) (by decide)) (f.1 157 (by decide) (by decide) (by decide)) (f.1 158 (by decide) (by decide) (by decide)) (f.2.2.2.1 159 (by decide) (by decide))) hP hev (fun j hj => ?_) hk Jx hJ
      rw [f.1 153 (by decide) (by decide) (by decide)]
      exact so2 j hj
    have n114 : ∀ {I3 : MI} {J3 : MJ}, FN w I2 I3 J J3 → ∀ k, k < n → I3 114 k = nI (cd k) := fun f k hk => by rw [f.1 114 (by decide) (by decide) (by decide)]; exact hr2 k hk
    have n127 : ∀ {I3 : MI} {J3 : MJ}, FN w I2 I3 J J3 → I3 127 w = nI pos := fun f => by rw [f.1 127 (by decide) (by decide) (by decide)]; exact hp2
    have n135 : ∀ {I3 : MI} {J3 : MJ}, FN w I2 I3 J J3 → I3 135 w = nI ev := fun f => by rw [f.1 135 (by decide) (by decide) (by decide)]; exact he2
    have n132 : ∀ {I3 : MI} {J3 : MJ}, FN w I2 I3 J J3 → I3 132 w = I 132 w + 1 := fun f => by rw [f.1 132 (by decide) (by decide) (by decide)]; exact b5
    have n150 : ∀ {I3 : MI} {J3 : MJ}, FN w I2 I3 J J3 → ∀ j, j < P → I3 150 (4 * j + w) = nI (if j ≠ w ∧ sdf cd pos j = true then gt j - 1 else gt j) := fun f => by rw [f.1 150 (by decide) (by decide) (by decide)]; exact b6
    rcases big with e1 | e1 | e1 | e1 | ⟨e1, ej⟩ | ⟨e1, ej⟩
    · -- 7
      have z3 : pos + 1 ≤ n := by rw [e1] at z3; exact z3
      have ph : I 128 w = nI 1 := hph1 (Or.inl (by omega))
      have fm : frm cd pos = -1 := by unfold frm; rw [if_neg (by omega)]; rfl
      rw [fm] at b2
      have z4 : 2 ≤ h := by rw [e1] at z4; exact z4
      have z5 : h - 2 + 1 ≤ 64 := by rw [e1] at z5; exact z5
      have hL : lop cd (eE NT tp ts tk tb (sdf cd pos) pl) inp bt pos h sk va nk kp = (pos + 1, h - 1, apn sk (h - 2) (pM (pA (sk (h - 2)) (eE NT tp ts tk tb (sdf cd pos) pl 0)) (pA (sk (h - 1)) (eE NT tp ts tk tb (sdf cd pos) pl 1))), va, nk, kp) := by unfold lop; rw [e1]; rfl
      have hol : opl (cd pos) = 1 := by rw [e1]; rfl
      obtain ⟨I3, p1, p2, p3⟩ := mPOP hw hv2 (by omega)
      obtain ⟨I4, q1, q2, q3⟩ := mPOP hw p2 (by omega)
      rw [show h - 1 - 1 = h - 2 by omega] at q1 q2
      obtain ⟨I5, J5, c1, c2, c3⟩ := mPSH hw q2 (v := pM (pA (sk (h - 2)) (eE NT tp ts tk tb (sdf cd pos) pl 0)) (pA (sk (h - 1)) (eE NT tp ts tk tb (sdf cd pos) pl 1))) (by omega) (pM_lt _ _)
      rw [show h - 2 + 1 = h - 1 by omega] at c2
      obtain ⟨I9, f1, f2, f3, f4, f5, f6, f7, f8⟩ := FINR hw (n114 (p3.tr (q3.tr c3))) hn (n127 (p3.tr (q3.tr c3))) z1 z2 (n135 (p3.tr (q3.tr c3))) c2
      rw [hol] at f3
      refine ⟨I9, J5, ?_, fun L hl => by rw [hl, hL]; exact ⟨f2, f3⟩, f4, f5, by rw [f7]; exact n132 (p3.tr (q3.tr c3)), by rw [f8]; exact n150 (p3.tr (q3.tr c3)), fr2.tr ((p3.tr (q3.tr c3)).fr.tr f6)⟩
      have x0 := fun {α : Type} {F : Int64 → MI → MJ → Option α} => er (p3.tr q3) (k := 0) (by decide) J rfl (F := F)
      have x1 := fun {α : Type} {F : Int64 → MI → MJ → Option α} => er (p3.tr q3) (k := 1) (by decide) J rfl (F := F)
      have x0' : ∀ {α : Type} {F : Int64 → MI → MJ → Option α}, oc (f_Model_error (nI ev) 0 I4 J) F = F (lN (eE NT tp ts tk tb (sdf cd pos) pl 0)) I4 J := x0
      have x1' : ∀ {α : Type} {F : Int64 → MI → MJ → Option α}, oc (f_Model_error (nI ev) 1 I4 J) F = F (lN (eE NT tp ts tk tb (sdf cd pos) pl 1)) I4 J := x1
      unfold f_Model_act; rw [nI_clamp (n := w) (by omega), if_neg zw, pl_eq, hp, if_neg (nI_in (by omega) (by decide)), nI_clamp (n := pos) (by omega), pl_eq, pl_eq, hr pos z1, e1, if_neg (by decide), if_pos (by decide)]
      refine ok01_1 ?_
      unfold f_Model_joint
      rw [nI_clamp (n := w) (by omega), if_neg zw, ph, if_pos (show ¬ nI 1 = 0 by decide), b2, if_pos (show ¬ nI 1 = 0 by decide), if_neg zw, pl_eq, he2, p1, if_neg (show ¬ ¬ nI 7 = 7 from fun x => x rfl), oc_oc, q1, oc_oc, x0', oc_oc, o_mA (RV_sk hv (by omega)) eE_lt, oc_some, if_neg (show ¬ ¬ nI 7 = 7 from fun x => x rfl), oc_oc, x1', oc_oc, o_mA (RV_sk hv (by omega)) eE_lt, oc_some, o_mM (pA_lt _ _) (pA_lt _ _), c1, f1]
      rfl
    · -- 10
      have z3 : pos + 1 ≤ n := by rw [e1] at z3; exact z3
      have ph : I 128 w = nI 1 := hph1 (Or.inl (by omega))
      have fm : frm cd pos = -1 := by unfold frm; rw [if_neg (by omega)]; rfl
      rw [fm] at b2
      have z4 : 1 ≤ h := by rw [e1] at z4; exact z4
      have z5 : h - 1 + 1 ≤ 64 := by rw [e1] at z5; exact z5
      have hL : lop cd (eE NT tp ts tk tb (sdf cd pos) pl) inp bt pos h sk va nk kp = (pos + 1, h, apn sk (h - 1) (pM (pA (sk (h - 1)) (eE NT tp ts tk tb (sdf cd pos) pl 0)) (pA (sk (h - 1)) (eE NT tp ts tk tb (sdf cd pos) pl 0))), va, nk, kp) := by unfold lop; rw [e1]; rfl
      have hol : opl (cd pos) = 1 := by rw [e1]; rfl
      obtain ⟨I3, p1, p2, p3⟩ := mPOP hw hv2 (by omega)
      obtain ⟨I5, J5, c1, c2, c3⟩ := mPSH hw p2 (v := pM (pA (sk (h - 1)) (eE NT tp ts tk tb (sdf cd pos) pl 0)) (pA (sk (h - 1)) (eE NT tp ts tk tb (sdf cd pos) pl 0))) (by omega) (pM_lt _ _)
      rw [show h - 1 + 1 = h by omega] at c2
      obtain ⟨I9, f1, f2, f3, f4, f5, f6, f7, f8⟩ := FINR hw (n114 (p3.tr c3)) hn (n127 (p3.tr c3)) z1 z2 (n135 (p3.tr c3)) c2
      rw [hol] at f3
      refine ⟨I9, J5, ?_, fun L hl => by rw [hl, hL]; exact ⟨f2, f3⟩, f4, f5, by rw [f7]; exact n132 (p3.tr c3), by rw [f8]; exact n150 (p3.tr c3), fr2.tr ((p3.tr c3).fr.tr f6)⟩
      have x0 := fun {α : Type} {F : Int64 → MI → MJ → Option α} => er p3 (k := 0) (by decide) J rfl (F := F)
      have x0' : ∀ {α : Type} {F : Int64 → MI → MJ → Option α}, oc (f_Model_error (nI ev) 0 I3 J) F = F (lN (eE NT tp ts tk tb (sdf cd pos) pl 0)) I3 J := x0
      unfold f_Model_act; rw [nI_clamp (n := w) (by omega), if_neg zw, pl_eq, hp, if_neg (nI_in (by omega) (by decide)), nI_clamp (n := pos) (by omega), pl_eq, pl_eq, hr pos z1, e1, if_neg (by decide), if_pos (by decide)]
      refine ok01_1 ?_
      unfold f_Model_joint
      rw [nI_clamp (n := w) (by omega), if_neg zw, ph, if_pos (show ¬ nI 1 = 0 by decide), b2, if_pos (show ¬ nI 1 = 0 by decide), if_neg zw, pl_eq, he2, p1, if_pos (show ¬ nI 10 = 7 by decide), oc_oc, x0', oc_oc, o_mA (RV_sk hv (by omega)) eE_lt, oc_some, if_pos (show ¬ nI 10 = 7 by decide), oc_some, o_mM (pA_lt _ _) (pA_lt _ _), c1, f1]
      rfl
    · -- 13
      have z3 : pos + 3 ≤ n := by rw [e1] at z3; exact z3
      have z4 : 0 ≤ h := by rw [e1] at z4; exact z4
      have z5 : h - 0 + 0 ≤ 64 := by rw [e1] at z5; exact z5
      have hL : lop cd (eE NT tp ts tk tb (sdf cd pos) pl) inp bt pos h sk va nk kp = (pos + 3, h, sk, apn va (13 + cd (pos + 1)) (pA inp (eE NT tp ts tk tb (sdf cd pos) pl 0)), nk, kp) := by unfold lop; rw [e1]; rfl
      have hol : opl (cd pos) = 3 := by rw [e1]; rfl
      obtain ⟨wp, wq⟩ := wa2 e1
      obtain ⟨c2, c3⟩ := mWRV hv2 (k := 13 + cd (pos + 1)) (v := pA inp (eE NT tp ts tk tb (sdf cd pos) pl 0)) (by omega) (pA_lt _ _)
      rw [show 154 * w + (13 + cd (pos + 1)) = 154 * w + 13 + cd (pos + 1) by omega] at c2 c3
      obtain ⟨I9, f1, f2, f3, f4, f5, f6, f7, f8⟩ := FINR hw (n114 (c3)) hn (n127 (c3)) z1 z2 (n135 (c3)) c2
      rw [hol] at f3
      refine ⟨I9, _, ?_, fun L hl => by rw [hl, hL]; exact ⟨f2, f3⟩, f4, f5, by rw [f7]; exact n132 (c3), by rw [f8]; exact n150 (c3), fr2.tr ((c3).fr.tr f6)⟩
      have x0 := fun {α : Type} {F : Int64 → MI → MJ → Option α} => er (I3 := I2) (J3 := J) FN.rfl (k := 0) (by decide) J rfl (F := F)
      have x0' : ∀ {α : Type} {F : Int64 → MI → MJ → Option α}, oc (f_Model_error (nI ev) 0 I2 J) F = F (lN (eE NT tp ts tk tb (sdf cd pos) pl 0)) I2 J := x0
      have fm : frm cd pos = nI (cd (pos + 2)) := by unfold frm; rw [if_pos e1]
      rw [fm] at b2
      obtain ⟨i1, i2⟩ := hin b1 e1
      unfold f_Model_act; rw [nI_clamp (n := w) (by omega), if_neg zw, pl_eq, hp, if_neg (nI_in (by omega) (by decide)), nI_clamp (n := pos) (by omega), pl_eq, pl_eq, hr pos z1, e1, if_neg (by decide), if_neg (by decide), if_neg (by decide), if_neg (by decide), if_neg (by decide), if_pos (by decide), a1', a2', if_neg (nI_in (by omega) (by decide)), if_neg (nI_in (by omega) (by decide)), nI_clamp (n := pos + 1) (by omega), nI_clamp (n := pos + 2) (by omega), hr (pos + 1) (by omega), hr (pos + 2) (by omega), n154', show nI (154 * w) + 13 = nI (154 * w + 13) from nI_add _ 13, nI_add]
      refine ok01_1 ?_
      unfold f_Model_input
      by_cases x : cd (pos + 2) = w
      · have ph : I 128 w = nI 1 := hph1 (Or.inr x)
        rw [if_neg (show ¬ ¬ nI w = nI (cd (pos + 2)) from fun y => y (by rw [x])), nI_clamp (n := w) (by omega), if_neg zw, ph, if_pos (show ¬ nI 1 = 0 by decide), b2, if_pos (show ¬ nI 1 = 0 by decide), if_neg zw, he2, if_neg (nI_in (by omega) (by decide)), nI_clamp (n := ev) (by omega), if_neg zw, x0', i2, o_mA i1 eE_lt, if_neg (nI_in (by omega) (by decide)), nI_clamp (n := 154 * w + 13 + cd (pos + 1)) (by omega), pl_eq, f1]
        rfl
      · rw [if_pos (show ¬ nI w = nI (cd (pos + 2)) from fun y => x ((nI_eq (by omega) (by omega)).mp y).symm), nI_clamp (n := w) (by omega), b2, if_pos (show ¬ nI 1 = 0 by decide), if_neg zw, he2, if_neg (nI_in (by omega) (by decide)), nI_clamp (n := ev) (by omega), if_neg zw, x0', i2, o_mA i1 eE_lt, if_neg (nI_in (by omega) (by decide)), nI_clamp (n := 154 * w + 13 + cd (pos + 1)) (by omega), pl_eq, f1]
        rfl
    · -- 14
      have z3 : pos + 3 ≤ n := by rw [e1] at z3; exact z3
      have ph : I 128 w = nI 1 := hph1 (Or.inl (by omega))
      have fm : frm cd pos = -1 := by unfold frm; rw [if_neg (by omega)]; rfl
      rw [fm] at b2
      have z4 : 0 ≤ h := by rw [e1] at z4; exact z4
      have z5 : h - 0 + 0 ≤ 64 := by rw [e1] at z5; exact z5
      have hL : lop cd (eE NT tp ts tk tb (sdf cd pos) pl) inp bt pos h sk va nk kp = (pos + 3, h, sk, apn va (cd (pos + 1)) (pA (va (13 + cd (pos + 2))) (eE NT tp ts tk tb (sdf cd pos) pl 0)), nk, kp) := by unfold lop; rw [e1]; rfl
      have hol : opl (cd pos) = 3 := by rw [e1]; rfl
      obtain ⟨wp, wq⟩ := wa3 e1
      obtain ⟨c2, c3⟩ := mWRV hv2 (k := cd (pos + 1)) (v := pA (va (13 + cd (pos + 2))) (eE NT tp ts tk tb (sdf cd pos) pl 0)) (by omega) (pA_lt _ _)
      obtain ⟨I9, f1, f2, f3, f4, f5, f6, f7, f8⟩ := FINR hw (n114 (c3)) hn (n127 (c3)) z1 z2 (n135 (c3)) c2
      rw [hol] at f3
      refine ⟨I9, _, ?_, fun L hl => by rw [hl, hL]; exact ⟨f2, f3⟩, f4, f5, by rw [f7]; exact n132 (c3), by rw [f8]; exact n150 (c3), fr2.tr ((c3).fr.tr f6)⟩
      have x0 := fun {α : Type} {F : Int64 → MI → MJ → Option α} => er (I3 := I2) (J3 := J) FN.rfl (k := 0) (by decide) J rfl (F := F)
      have x0' : ∀ {α : Type} {F : Int64 → MI → MJ → Option α}, oc (f_Model_error (nI ev) 0 I2 J) F = F (lN (eE NT tp ts tk tb (sdf cd pos) pl 0)) I2 J := x0
      have rd := RV_rd hv2 (show 13 + cd (pos + 2) < 154 by omega)
      rw [show 154 * w + (13 + cd (pos + 2)) = 154 * w + 13 + cd (pos + 2) by omega] at rd
      unfold f_Model_act; rw [nI_clamp (n := w) (by omega), if_neg zw, pl_eq, hp, if_neg (nI_in (by omega) (by decide)), nI_clamp (n := pos) (by omega), pl_eq, pl_eq, hr pos z1, e1, if_neg (by decide), if_neg (by decide), if_neg (by decide), if_neg (by decide), if_neg (by decide), if_neg (by decide), if_pos (by decide), a1', a2', if_neg (nI_in (by omega) (by decide)), if_neg (nI_in (by omega) (by decide)), nI_clamp (n := pos + 1) (by omega), nI_clamp (n := pos + 2) (by omega), hr (pos + 1) (by omega), hr (pos + 2) (by omega), n154', show nI (154 * w) + 13 = nI (154 * w + 13) from nI_add _ 13, nI_add, nI_add]
      refine ok01_1 ?_
      unfold f_Model_open
      rw [nI_clamp (n := w) (by omega), if_neg zw, ph, if_pos (show ¬ nI 1 = 0 by decide), b2, if_pos (show ¬ nI 1 = 0 by decide), if_neg (nI_in (by omega) (by decide)), nI_clamp (n := 154 * w + 13 + cd (pos + 2)) (by omega), if_neg zw, he2, x0', rd, o_mA (RV_va hv2 (by omega)) eE_lt, if_neg (nI_in (by omega) (by decide)), nI_clamp (n := 154 * w + cd (pos + 1)) (by omega), pl_eq, f1]
      rfl
    · -- 25
      have z3 : pos + 4 ≤ n := by rw [e1] at z3; exact z3
      have ph : I 128 w = nI 1 := hph1 (Or.inl (by omega))
      have fm : frm cd pos = -1 := by unfold frm; rw [if_neg (by omega)]; rfl
      rw [fm] at b2
      have z4 : 0 ≤ h := by rw [e1] at z4; exact z4
      have z5 : h - 0 + 0 ≤ 64 := by rw [e1] at z5; exact z5
      have hL : lop cd (eE NT tp ts tk tb (sdf cd pos) pl) inp bt pos h sk va nk kp = (pos + 4, h, sk, ajv (aop 25) (fun i => eE NT tp ts tk tb (sdf cd pos) pl (2 * i)) (fun i => eE NT tp ts tk tb (sdf cd pos) pl (2 * i + 1)) (cd (pos + 1)) (cd (pos + 2)) (cd (pos + 3)) 16 0 va, nk, kp) := by unfold lop; rw [e1]; rfl
      have hol : opl (cd pos) = 4 := by rw [e1]; rfl
      have er2 : (nI 1 = nI 0 ∧ ∀ k, k < 32 → (eE NT tp ts tk tb (sdf cd pos) pl) k = 0) ∨ (nI 1 = nI 1 ∧ ∀ k, k < 32 → (eE NT tp ts tk tb (sdf cd pos) pl) k < pP ∧ ∀ {α : Type} {F : Int64 → MI → MJ → Option α} (Jx : MJ), Jx 159 = J 159 → oc (f_Model_error (I2 135 w) (nI k) I2 Jx) F = F (lN ((eE NT tp ts tk tb (sdf cd pos) pl) k)) I2 Jx) := Or.inr ⟨rfl, fun k hk => ⟨eE_lt, fun Jx hx => by rw [he2]; exact er (I3 := I2) (J3 := J) FN.rfl hk Jx hx⟩⟩
      have sr := fun {α : Type} {F : Int32 → MI → MJ → Option α} => mIJ (F := F) (J := J) hr hb hn z1 z2 (by rw [e1]; exact z3)
      rw [if_pos ej] at sr
      obtain ⟨wp, wq, wr⟩ := wa5 (by omega)
      obtain ⟨J4, s4, c1, c2, c3⟩ := mJAV (e := eE NT tp ts tk tb (sdf cd pos) pl) (p2 := nI w) (p3 := nI pos) (v3 := nI 1) (c := 25) hw hn (by omega) wp wq wr (by omega) rfl hr2 16 gF 0 0 va J (by omega) (by decide) pP_pos hv2 er2
      have c1' : f_Model_rows_130 (nI w) (nI pos) gF (nI w) (nI pos) (nI 25) (nI 1) (nI (154 * w + 26 + 16 * cd (pos + 2))) (nI (154 * w + 26 + 16 * cd (pos + 3))) 0 0 I2 J = some (lN s4, I2, J4) := c1
      obtain ⟨I9, f1, f2, f3, f4, f5, f6, f7, f8⟩ := FINR hw (n114 (c3)) hn (n127 (c3)) z1 z2 (n135 (c3)) c2
      rw [hol] at f3
      refine ⟨I9, J4, ?_, fun L hl => by rw [hl, hL]; exact ⟨f2, f3⟩, f4, f5, by rw [f7]; exact n132 (c3), by rw [f8]; exact n150 (c3), fr2.tr ((c3).fr.tr f6)⟩
      unfold f_Model_act; rw [nI_clamp (n := w) (by omega), if_neg zw, pl_eq, hp, if_neg (nI_in (by omega) (by decide)), nI_clamp (n := pos) (by omega), pl_eq, pl_eq, hr pos z1, e1, if_neg (by decide), if_neg (by decide), if_neg (by decide), if_neg (by decide), if_neg (by decide), if_neg (by decide), if_neg (by decide), if_neg (by decide), if_neg (by decide), if_neg (by decide), if_neg (by decide), if_neg (by decide), if_neg (by decide), if_neg (by decide), if_neg (by decide), if_neg (by decide)]
      refine ok01_1 ?_
      unfold f_Model_rows
      rw [if_neg (nI_in (by omega) (by decide)), nI_clamp (n := pos) (by omega), pl_eq, hr pos z1, e1, sr, if_neg (show ¬ nI 1 = 0 by decide), nI_clamp (n := w) (by omega), if_neg zw, ph, if_pos (show ¬ nI 1 = 0 by decide), if_neg (show ¬ nI 1 = 0 by decide), b2, if_pos (show ¬ nI 1 = 0 by decide), pl_eq, if_pos (show ¬ nI 25 = 26 by decide), a2', if_neg (nI_in (by omega) (by decide)), nI_clamp (n := pos + 2) (by omega), hr2 (pos + 2) (by omega), mROW, pl_eq, if_pos (show ¬ nI 25 = 26 by decide), a3', if_neg (nI_in (by omega) (by decide)), nI_clamp (n := pos + 3) (by omega), hr2 (pos + 3) (by omega), mROW, c1', oc_some, if_pos (show ¬ nI 25 = 26 by decide), oc_some, if_neg (show ¬ nI 1 = 0 by decide), f1]
      rfl
    · -- 26
      have z3 : pos + 3 ≤ n := by rw [e1] at z3; exact z3
      have ph : I 128 w = nI 1 := hph1 (Or.inl (by omega))
      have fm : frm cd pos = -1 := by unfold frm; rw [if_neg (by omega)]; rfl
      rw [fm] at b2
      have z4 : 0 ≤ h := by rw [e1] at z4; exact z4
      have z5 : h - 0 + 1 ≤ 64 := by rw [e1] at z5; exact z5
      have hL : lop cd (eE NT tp ts tk tb (sdf cd pos) pl) inp bt pos h sk va nk kp = (pos + 3, h + 1, apn sk h (ajs (fun i => eE NT tp ts tk tb (sdf cd pos) pl (2 * i)) (fun i => eE NT tp ts tk tb (sdf cd pos) pl (2 * i + 1)) (cd (pos + 1)) (cd (pos + 2)) va 16 0 0), va, nk, kp) := by unfold lop; rw [e1]; rfl
      have hol : opl (cd pos) = 3 := by rw [e1]; rfl
      have er2 : (nI 1 = nI 0 ∧ ∀ k, k < 32 → (eE NT tp ts tk tb (sdf cd pos) pl) k = 0) ∨ (nI 1 = nI 1 ∧ ∀ k, k < 32 → (eE NT tp ts tk tb (sdf cd pos) pl) k < pP ∧ ∀ {α : Type} {F : Int64 → MI → MJ → Option α} (Jx : MJ), Jx 159 = J 159 → oc (f_Model_error (I2 135 w) (nI k) I2 Jx) F = F (lN ((eE NT tp ts tk tb (sdf cd pos) pl) k)) I2 Jx) := Or.inr ⟨rfl, fun k hk => ⟨eE_lt, fun Jx hx => by rw [he2]; exact er (I3 := I2) (J3 := J) FN.rfl hk Jx hx⟩⟩
      have sr := fun {α : Type} {F : Int32 → MI → MJ → Option α} => mIJ (F := F) (J := J) hr hb hn z1 z2 (by rw [e1]; exact z3)
      rw [if_pos ej] at sr
      obtain ⟨wp, wq⟩ := wa6 (by omega)
      obtain ⟨s1, s2⟩ := mJAS (e := eE NT tp ts tk tb (sdf cd pos) pl) (p2 := nI w) (p3 := nI pos) (pos := pos) (v3 := nI 1) hw wp wq hv2 er2 16 gF 0 0 (by omega) (by decide) pP_pos
      have s1' : f_Model_rows_130 (nI w) (nI pos) gF (nI w) (nI pos) (nI 26) (nI 1) (nI (154 * w + 26 + 16 * cd (pos + 1))) (nI (154 * w + 26 + 16 * cd (pos + 2))) 0 0 I2 J = some (lN (ajs (fun i => eE NT tp ts tk tb (sdf cd pos) pl (2 * i)) (fun i => eE NT tp ts tk tb (sdf cd pos) pl (2 * i + 1)) (cd (pos + 1)) (cd (pos + 2)) va 16 0 0), I2, J) := s1
      obtain ⟨I4, J4, c1, c2, c3⟩ := mPSH hw hv2 (v := ajs (fun i => eE NT tp ts tk tb (sdf cd pos) pl (2 * i)) (fun i => eE NT tp ts tk tb (sdf cd pos) pl (2 * i + 1)) (cd (pos + 1)) (cd (pos + 2)) va 16 0 0) (by omega) s2
      obtain ⟨I9, f1, f2, f3, f4, f5, f6, f7, f8⟩ := FINR hw (n114 (c3)) hn (n127 (c3)) z1 z2 (n135 (c3)) c2
      rw [hol] at f3
      refine ⟨I9, J4, ?_, fun L hl => by rw [hl, hL]; exact ⟨f2, f3⟩, f4, f5, by rw [f7]; exact n132 (c3), by rw [f8]; exact n150 (c3), fr2.tr ((c3).fr.tr f6)⟩
      unfold f_Model_act; rw [nI_clamp (n := w) (by omega), if_neg zw, pl_eq, hp, if_neg (nI_in (by omega) (by decide)), nI_clamp (n := pos) (by omega), pl_eq, pl_eq, hr pos z1, e1, if_neg (by decide), if_neg (by decide), if_neg (by decide), if_neg (by decide), if_neg (by decide), if_neg (by decide), if_neg (by decide), if_neg (by decide), if_neg (by decide), if_neg (by decide), if_neg (by decide), if_neg (by decide), if_neg (by decide), if_neg (by decide), if_neg (by decide), if_neg (by decide)]
      refine ok01_1 ?_
      unfold f_Model_rows
      rw [if_neg (nI_in (by omega) (by decide)), nI_clamp (n := pos) (by omega), pl_eq, hr pos z1, e1, sr, if_neg (show ¬ nI 1 = 0 by decide), nI_clamp (n := w) (by omega), if_neg zw, ph, if_pos (show ¬ nI 1 = 0 by decide), if_neg (show ¬ nI 1 = 0 by decide), b2, if_pos (show ¬ nI 1 = 0 by decide), pl_eq, if_neg (show ¬ ¬ nI 26 = 26 from fun x => x rfl), a1', if_neg (nI_in (by omega) (by decide)), nI_clamp (n := pos + 1) (by omega), hr2 (pos + 1) (by omega), mROW, pl_eq, if_neg (show ¬ ¬ nI 26 = 26 from fun x => x rfl), a2', if_neg (nI_in (by omega) (by decide)), nI_clamp (n := pos + 2) (by omega), hr2 (pos + 2) (by omega), mROW, s1', oc_some, if_neg (show ¬ ¬ nI 26 = 26 from fun x => x rfl), oc_oc, c1, oc_some, if_neg (show ¬ nI 1 = 0 by decide), f1]
      rfl
end OPS
