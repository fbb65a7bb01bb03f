/-! the run: the reference shows (what it puts, sends, receives) -/
section OUTN
variable {cd va sk kp pn : Nat → Nat} {n P w h nk pos no v x B NT ev EV pls q : Nat} {tp ts tk tb : Nat → Nat} {I I3 Ic : MI} {J Jc : MJ}
def FO (w : Nat) (I I1 : MI) : Prop := (∀ a, a ≠ 133 → a ≠ 127 → a ≠ 128 → I1 a = I a) ∧ (∀ i, i ≠ w → I1 133 i = I 133 i ∧ I1 127 i = I 127 i ∧ I1 128 i = I 128 i)
theorem OUTF (hw : w < 4) (hn : n ≤ 2000) (hpn : pos < n) (hop : cd pos ≤ 29) (hr : ∀ k, k < n → I3 114 k = nI (cd k)) (hp : I3 127 w = nI pos) (h133 : I3 133 w = nI no) : ∃ I1, (∀ {α : Type} {F : Unit → MI → MJ → Option α} (J9 : MJ), oc (f_Model_next (nI w) (va_up I3 133 (upd (I3 133) w (nI (no + 1)))) J9) F = F () I1 J9) ∧ I1 133 w = nI (no + 1) ∧ I1 127 w = nI (pos + opl (cd pos)) ∧ I1 128 w = nI 0 ∧ FO w I3 I1 := by
  obtain ⟨A0, q0, r0, s0, t0⟩ := UP1 I3 133 w (nI (no + 1))
  rw [q0]
  obtain ⟨A1, q1, r1, s1, t1⟩ := UP1 A0 127 w (nI (pos + opl (cd pos)))
  have nx := fun {α : Type} {F : Unit → MI → MJ → Option α} (J9 : MJ) => mNXT (F := F) (J := J9) (I := A0) hw (fun k hk => by rw [r0 114 (by decide)]; exact hr k hk) hn (by rw [r0 127 (by decide)]; exact hp) hpn hop
  have e128 : upd (A0 128) w 0 = upd (A1 128) w 0 := by rw [r1 128 (by decide)]
  obtain ⟨A2, q2, r2, s2, t2⟩ := UP1 A1 128 w 0
  refine ⟨A2, fun {α F} J9 => ?_, by rw [r2 133 (by decide), r1 133 (by decide)]; exact s0, by rw [r2 127 (by decide)]; exact s1, by rw [s2]; rfl, fun a a1 a2 a3 => by rw [r2 a a3, r1 a a2, r0 a a1], fun i hi => ⟨by rw [r2 133 (by decide), r1 133 (by decide), t0 i hi], by rw [r2 127 (by decide), t1 i hi, r0 127 (by decide)], by rw [t2 i hi, r1 128 (by decide), r0 128 (by decide)]⟩⟩
  rw [nx J9, q1, e128, q2]
theorem OUTP0 (hw : w < 4) (hpre : ∀ {α : Type} {F : Unit → MI → MJ → Option α}, oc (opre w I J) F = F () I3 J) (h128 : I3 128 w = nI 8) (hn : n ≤ 2000) (hpn : pos < n) (hop : cd pos ≤ 29) (hr : ∀ k, k < n → I3 114 k = nI (cd k)) (hp : I3 127 w = nI pos) (h133 : I3 133 w = nI no) (hno : no < 30001) (hq : q < 616) (hv : J 143 q = lN v) : ∃ I1, f_Model_out (nI w) 0 (nI q) I J = some (1, I1, va_up J 147 (vp_updL (J 147) no (lN v))) ∧ I1 133 w = nI (no + 1) ∧ I1 127 w = nI (pos + opl (cd pos)) ∧ I1 128 w = nI 0 ∧ FO w I3 I1 := by
  have zw := nin hw (show 4 < 2 ^ 31 by decide)
  obtain ⟨I1, a1, a2⟩ := OUTF hw hn hpn hop hr hp h133
  refine ⟨I1, ?_, a2⟩
  unfold f_Model_out
  rw [nI_clamp (n := w) (by omega), if_neg zw]
  refine Eq.trans hpre ?_
  rw [if_neg zw, h128, pl_eq, if_neg (show ¬ nI 8 < 8 by decide), if_pos (show nI 8 ≤ 9 by decide), if_pos rfl, if_pos rfl, if_neg zw, if_pos rfl, if_neg (nI_in (by omega) (by decide)), nI_clamp (n := q) (by omega), oc_some, h133, if_neg (nI_in (by omega) (by decide)), nI_clamp (n := no) (by omega), pl_eq, if_neg zw, if_neg zw, nI_1, pl_eq, a1, hv]
theorem OUTP1 (hw : w < 4) (hpre : ∀ {α : Type} {F : Unit → MI → MJ → Option α}, oc (opre w I J) F = F () I3 J) (h128 : I3 128 w = nI 18) (hn : n ≤ 2000) (hpn : pos < n) (hop : cd pos ≤ 29) (hr : ∀ k, k < n → I3 114 k = nI (cd k)) (hp : I3 127 w = nI pos) (h133 : I3 133 w = nI no) (hno : no < 30001) (hv : J 146 w = lN v) : ∃ I1, f_Model_out (nI w) 1 (nI q) I J = some (1, I1, va_up J 147 (vp_updL (J 147) no (lN v))) ∧ I1 133 w = nI (no + 1) ∧ I1 127 w = nI (pos + opl (cd pos)) ∧ I1 128 w = nI 0 ∧ FO w I3 I1 := by
  have zw := nin hw (show 4 < 2 ^ 31 by decide)
  obtain ⟨I1, a1, a2⟩ := OUTF hw hn hpn hop hr hp h133
  refine ⟨I1, ?_, a2⟩
  unfold f_Model_out
  rw [nI_clamp (n := w) (by omega), if_neg zw]
  refine Eq.trans hpre ?_
  rw [if_neg zw, h128, pl_eq, if_neg (show ¬ nI 18 < 8 by decide), if_neg (show ¬ nI 18 ≤ 9 by decide), if_pos (show 18 ≤ nI 18 by decide), if_neg (show ¬ (1 : Int32) = 0 by decide), if_pos (show ¬ nI 18 = 8 by decide), if_neg (show ¬ (1 : Int32) = 0 by decide), if_pos (show ¬ nI 18 = 9 by decide), if_neg zw, if_neg (show ¬ (1 : Int32) = 0 by decide), if_neg zw, oc_some, h133, if_neg (nI_in (by omega) (by decide)), nI_clamp (n := no) (by omega), pl_eq, if_neg zw, if_neg zw, nI_1, pl_eq, a1, hv]
theorem OUTS (hw : w < 4) (hpre : ∀ {α : Type} {F : Unit → MI → MJ → Option α}, oc (opre w I J) F = F () I3 J) (h128 : I3 128 w = nI 8) : f_Model_out (nI w) 1 (nI q) I J = oc (f_Model_send (nI w) (nI 4) 0 I3 J) (fun v I9 J9 => if ¬ v = 0 then some (1, va_up I9 128 (upd (I9 128) w (nI 9)), J9) else some (0, I9, J9)) := by
  have zw := nin hw (show 4 < 2 ^ 31 by decide)
  unfold f_Model_out
  rw [nI_clamp (n := w) (by omega), if_neg zw]
  refine Eq.trans hpre ?_
  rw [if_neg zw, h128, pl_eq, if_neg (show ¬ nI 8 < 8 by decide), if_pos (show nI 8 ≤ 9 by decide), if_neg (show ¬ (1 : Int32) = 0 by decide), if_neg (show ¬ ¬ nI 8 = 8 from fun y => y rfl)]
  simp only [if_neg zw, pl_eq]
  rfl
theorem OUTR {gt : Nat → Nat} (hP : P ≤ 4) (hwP : w < P) (hpre : ∀ {α : Type} {F : Unit → MI → MJ → Option α}, oc (opre w I J) F = F () I3 J) (h128 : I3 128 w = nI 9) (h6 : I3 112 16 = nI P) (hg : ∀ j, j < P → gt j < 2 ^ 31 ∧ I3 150 (4 * j + w) = nI (gt j)) (hT : TAM Ic I3 Jc J P NT tp ts tk tb) (hne : I3 135 w = nI ev) (hev : ev < 30001) (hq : q < 616) (hvp : v < pP) (hv : J 143 q = lN v) (hso : anyb (fun j => decide (j ≠ w) && (true && decide (gt j = 0))) P 0 = false → ∀ j, j < P → pn j < 2 ^ 31 ∧ I3 153 (4 * ev + j) = if (fun _ => true) j = true then nI (pn j) else m1) : (anyb (fun j => decide (j ≠ w) && (true && decide (gt j = 0))) P 0 = true ∧ f_Model_out (nI w) 1 (nI q) I J = some (0, I3, J)) ∨ (anyb (fun j => decide (j ≠ w) && (true && decide (gt j = 0))) P 0 = false ∧ ∃ I1, f_Model_out (nI w) 1 (nI q) I J = some (1, I1, va_up J 146 (vp_updL (J 146) w (lN (pA v (eE NT tp ts tk tb (fun _ => true) pn 0))))) ∧ I1 128 w = nI 10 ∧ I1 135 w = nI (ev + 1) ∧ I1 132 w = I3 132 w + 1 ∧ (∀ j, j < P → I1 150 (4 * j + w) = nI (if j ≠ w then gt j - 1 else gt j)) ∧ (∀ q, q % 4 ≠ w → I1 150 q = I3 150 q) ∧ (∀ a, a ≠ 128 → a ≠ 135 → a ≠ 132 → a ≠ 150 → I1 a = I3 a) ∧ (∀ i, i ≠ w → I1 128 i = I3 128 i ∧ I1 135 i = I3 135 i ∧ I1 132 i = I3 132 i)) := by
  have hw : w < 4 := by omega
  have zw := nin hw (show 4 < 2 ^ 31 by decide)
  have hd : ∀ {T : M2 Int32}, oc (f_Model_receive (nI w) (-1) I3 J) (fun v138 I138 J138 => if ¬ v138 = 0 then (if nI q < 0 ∨ 616 ≤ Int32.toNatClampNeg (nI q) then none else (if nI w < 0 ∨ 4 ≤ w then none else (oc (f_Model_error (I138 135 w) 0 I138 J138) (fun v142 I142 J142 => oc (f_Model_plus (J138 143 (Int32.toNatClampNeg (nI q))) v142 I142 J142) (fun v143 I143 J143 => if nI w < 0 ∨ 4 ≤ w then none else (pl (va_up J143 146 (vp_updL (J143 146) w v143)) (fun J145 => if nI w < 0 ∨ 4 ≤ w then none else (if nI w < 0 ∨ 4 ≤ w then none else (pl (va_up I143 135 (upd (I143 135) w ((I143 135 w) + 1))) (fun I148 => if nI w < 0 ∨ 4 ≤ w then none else (pl (va_up I148 128 (upd (I148 128) w 10)) (fun I150 => some (1, I150, J145))))))))))))) else (some (0, I138, J138))) = T → f_Model_out (nI w) 1 (nI q) I J = T := by
    intro T hT
    unfold f_Model_out
    rw [nI_clamp (n := w) (by omega), if_neg zw]
    refine Eq.trans hpre ?_
    rw [if_neg zw, h128, pl_eq, if_neg (show ¬ nI 9 < 8 by decide), if_pos (show nI 9 ≤ 9 by decide), if_neg (show ¬ (1 : Int32) = 0 by decide), if_pos (show ¬ nI 9 = 8 by decide), if_neg (show ¬ (1 : Int32) = 0 by decide), if_neg (show ¬ ¬ nI 9 = 9 from fun y => y rfl)]
    exact hT
  rcases RCVM (J := J) (v := m1) (sd := fun _ => true) hP hwP (Or.inl ⟨rfl, fun _ _ => rfl⟩) h6 hg with ⟨b1, b2⟩ | ⟨b1, I2, b2, b3, b4, b5, b6, b7⟩
  · refine Or.inl ⟨b1, hd ?_⟩
    have b2' : ∀ {α : Type} {F : Int32 → MI → MJ → Option α}, oc (f_Model_receive (nI w) (-1) I3 J) F = F (nI 0) I3 J := b2
    rw [b2', if_neg (show ¬ ¬ nI 0 = 0 from fun x => x rfl)]
  · refine Or.inr ⟨b1, ?_⟩
    have b2' : ∀ {α : Type} {F : Int32 → MI → MJ → Option α}, oc (f_Model_receive (nI w) (-1) I3 J) F = F (nI 1) I2 J := b2
    have hT2 : TAM Ic I2 Jc J P NT tp ts tk tb := TAM_f2 hT (by rw [b3 112 (by decide) (by decide)]) (b3 156 (by decide) (by decide)) (b3 157 (by decide) (by decide)) (b3 158 (by decide) (by decide)) rfl
    have er : ∀ {α : Type} {F : Int64 → MI → MJ → Option α}, oc (f_Model_error (nI ev) (nI 0) I2 J) F = F (lN (eE NT tp ts tk tb (fun _ => true) pn 0)) I2 J := fun {α F} => MER hT2 hP hev (fun j hj => by rw [b3 153 (by decide) (by decide)]; exact hso b1 j hj) (by decide) J rfl
    have er' : ∀ {α : Type} {F : Int64 → MI → MJ → Option α}, oc (f_Model_error (nI ev) 0 I2 J) F = F (lN (eE NT tp ts tk tb (fun _ => true) pn 0)) I2 J := er
    have k135 : I2 135 w = nI ev := by rw [b3 135 (by decide) (by decide)]; exact hne
    obtain ⟨A0, q0, r0, s0, t0⟩ := UP1 I2 135 w (nI (ev + 1))
    obtain ⟨A1, q1, r1, s1, t1⟩ := UP1 A0 128 w 10
    refine ⟨A1, hd ?_, by rw [s1]; rfl, by rw [r1 135 (by decide)]; exact s0, by rw [r1 132 (by decide), r0 132 (by decide)]; exact b5, fun j hj => ?_, fun q hq => by rw [r1 150 (by decide), r0 150 (by decide)]; exact b7 q hq, fun a a1 a2 a3 a4 => by rw [r1 a a1, r0 a a2, b3 a a4 a3], fun i hi => ⟨by rw [t1 i hi, r0 128 (by decide), b3 128 (by decide) (by decide)], by rw [r1 135 (by decide), t0 i hi, b3 135 (by decide) (by decide)], by rw [r1 132 (by decide), r0 132 (by decide)]; exact b4 i hi⟩⟩
    · rw [b2', if_pos (show ¬ nI 1 = 0 by decide), if_neg (nI_in (by omega) (by decide)), nI_clamp (n := q) (by omega), if_neg zw, k135, er', hv, o_mA hvp eE_lt, if_neg zw, pl_eq, if_neg zw, if_neg zw, k135, nI_1, q0, pl_eq, if_neg zw, q1, pl_eq]
    · rw [r1 150 (by decide), r0 150 (by decide), b6 j hj]
      by_cases y : j ≠ w
      · rw [if_pos ⟨y, rfl⟩, if_pos y]
      · rw [if_neg (fun z => y z.1), if_neg y]
end OUTN
