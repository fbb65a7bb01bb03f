/-! the run: the reference sends -/
section WIRE
variable {w P B : Nat} {I : MI} {J : MJ}
theorem M38 {p2 p3 q2 q3 : Int32} {p4 q4 : Int64} {ev : Nat} (hev : ev < 30001) : ∀ (d fu i : Nat) (I : MI), i + d = 4 → d < fu → ∃ I1, f_Model_send_38 p2 p3 p4 fu q2 q3 q4 (nI ev) (nI i) I J = some ((), I1, J) ∧ (∀ a, a ≠ 153 → I1 a = I a) ∧ (∀ q, I1 153 q = if 4 * ev + i ≤ q ∧ q < 4 * ev + 4 then m1 else I 153 q) := by
  intro d
  induction d with
  | zero =>
    intro fu i I h1 h2
    obtain ⟨g, rfl⟩ : ∃ g, fu = g + 1 := ⟨fu - 1, by omega⟩
    refine ⟨I, ?_, fun _ _ => rfl, fun q => by rw [if_neg (by omega)]⟩
    rw [f_Model_send_38, if_pos (show 4 ≤ nI i from nI_le (a := 4) (by omega) (by omega))]
  | succ d ih =>
    intro fu i I h1 h2
    obtain ⟨g, rfl⟩ : ∃ g, fu = g + 1 := ⟨fu - 1, by omega⟩
    have e4 : 4 * nI ev + nI i = nI (4 * ev + i) := by rw [show (4 : Int32) * nI ev = nI (4 * ev) from nI_mul 4 ev, nI_add]
    obtain ⟨I1, r1, r2, r3⟩ := ih g (i + 1) (va_up I 153 (upd (I 153) (4 * ev + i) m1)) (by omega) (by omega)
    refine ⟨I1, ?_, fun a ha => by rw [r2 a ha, va_up_ne _ _ ha], fun q => ?_⟩
    · rw [f_Model_send_38, if_neg (show ¬ 4 ≤ nI i from nI_ge (b := 4) (by omega) (by omega)), e4, if_neg (nI_in (by omega) (by decide)), nI_clamp (by omega), pl_eq, nI_1]
      exact r1
    · rw [r3 q, va_up_self]
      by_cases x : q = 4 * ev + i
      · rw [if_neg (by omega), x, upd_s, if_pos (by omega)]
      · rw [upd_n _ _ x]
        by_cases y : 4 * ev + (i + 1) ≤ q ∧ q < 4 * ev + 4
        · rw [if_pos y, if_pos (by omega)]
        · rw [if_neg y, if_neg (by omega)]
/-- the reference sends what belongs to an event -/
theorem SENM {wr : Nat → Nat} {ev EV pls : Nat} {kd : Nat} {v : Int64} (hP : P ≤ 4) (hwP : w < P) (hB : B ≤ 4) (h6 : I 112 16 = nI P) (h8 : I 112 17 = nI B) (hw : ∀ j, j < P → wr j < 2 ^ 31 ∧ I 148 (4 * w + j) = nI (wr j)) (h0 : wr w < B) (hne : I 135 w = nI ev) (hEV : I 112 60 = nI EV) (hle : ev ≤ EV) (hev : EV < 30001) (hpl : I 131 w = nI pls) (hkd : kd < 100) : (anyb (fun j => decide (B ≤ wr j)) P 0 = true ∧ ∀ {α : Type} {F : Int32 → MI → MJ → Option α}, oc (f_Model_send (nI w) (nI kd) v I J) F = F (nI 0) I J) ∨ (anyb (fun j => decide (B ≤ wr j)) P 0 = false ∧ ∃ I1 J1, (∀ {α : Type} {F : Int32 → MI → MJ → Option α}, oc (f_Model_send (nI w) (nI kd) v I J) F = F (nI 1) I1 J1) ∧ (∀ a, a ≠ 148 → a ≠ 130 → a ≠ 112 → a ≠ 151 → a ≠ 153 → a ≠ 131 → I1 a = I a) ∧ (∀ j, j ≠ 60 → I1 112 j = I 112 j) ∧ I1 112 60 = nI (if ev = EV then EV + 1 else EV) ∧ (∀ e, I1 151 e = if ev = EV ∧ e = ev then nI kd else I 151 e) ∧ (∀ q, I1 153 q = if q = 4 * ev + w then nI pls else if ev = EV ∧ 4 * ev ≤ q ∧ q < 4 * ev + 4 then m1 else I 153 q) ∧ (∀ i, i ≠ w → I1 131 i = I 131 i) ∧ I1 131 w = nI (pls + 1) ∧ (∀ a, a ≠ 152 → J1 a = J a) ∧ (∀ e, J1 152 e = if kd = 1 ∧ e = ev then v else J 152 e) ∧ (∀ i, i ≠ w → I1 130 i = I 130 i) ∧ I1 130 w = I 130 w + 1 ∧ (∀ j, j < P → I1 148 (4 * w + j) = nI (if j = w then wr j else wr j + 1)) ∧ (∀ q, q < 4 * w ∨ 4 * w + 4 ≤ q → I1 148 q = I 148 q)) := by
  have zw := nin (show w < 4 by omega) (show 4 < 2 ^ 31 by decide)
  rcases SNDM (J := J) hP hwP hB h6 h8 hw h0 with ⟨b1, b2⟩ | ⟨b1, I2, b2, b3, b4, b5, b6, b7⟩
  · refine Or.inl ⟨b1, fun {α F} => ?_⟩
    unfold f_Model_send
    rw [oc_oc, b2, if_neg (show ¬ ¬ nI 0 = 0 from fun x => x rfl), oc_some]
    rfl
  · refine Or.inr ⟨b1, ?_⟩
    have k135 : I2 135 w = nI ev := by rw [b3 135 (by decide) (by decide)]; exact hne
    have k60 : I2 112 60 = nI EV := by rw [b3 112 (by decide) (by decide)]; exact hEV
    -- a new event
    have new : ∃ I3, (∀ {α : Type} {F : Unit → MI → MJ → Option α}, oc ((if ¬ nI ev = (I2 112 60) then (some ((), I2, J)) else (if nI ev < 0 ∨ 30001 ≤ Int32.toNatClampNeg (nI ev) then none else (pl (va_up I2 151 (upd (I2 151) (Int32.toNatClampNeg (nI ev)) (nI kd))) (fun I9 => oc (f_Model_send_38 (nI w) (nI kd) v gF (nI w) (nI kd) v (nI ev) 0 I9 J) (fun u13 I13 J13 => pl (va_up I13 112 (upd (I13 112) 60 ((I13 112 60) + 1))) (fun I14 => some ((), I14, J13))))))) : M2 (Unit)) F = F () I3 J) ∧ (∀ a, a ≠ 112 → a ≠ 151 → a ≠ 153 → I3 a = I2 a) ∧ (∀ j, j ≠ 60 → I3 112 j = I2 112 j) ∧ I3 112 60 = nI (if ev = EV then EV + 1 else EV) ∧ (∀ e, I3 151 e = if ev = EV ∧ e = ev then nI kd else I2 151 e) ∧ (∀ q, I3 153 q = if ev = EV ∧ 4 * ev ≤ q ∧ q < 4 * ev + 4 then m1 else I2 153 q) := by
      by_cases x : ev = EV
      · obtain ⟨I4, r1, r2, r3⟩ := M38 (J := J) (p2 := nI w) (p3 := nI kd) (p4 := v) (q2 := nI w) (q3 := nI kd) (q4 := v) (ev := ev) (by omega) 4 gF 0 (va_up I2 151 (upd (I2 151) ev (nI kd))) (by omega) (by decide)
        have r1' : f_Model_send_38 (nI w) (nI kd) v gF (nI w) (nI kd) v (nI ev) 0 (va_up I2 151 (upd (I2 151) ev (nI kd))) J = some ((), I4, J) := r1
        have c60 : I4 112 60 = nI EV := by rw [r2 112 (by decide), va_up_ne _ _ (by decide)]; exact k60
        refine ⟨va_up I4 112 (upd (I4 112) 60 (nI (EV + 1))), fun {α F} => ?_, fun a a1 a2 a3 => by rw [va_up_ne _ _ a1, r2 a a3, va_up_ne _ _ a2], fun j hj => by rw [va_up_self, upd_n _ _ hj, r2 112 (by decide), va_up_ne _ _ (by decide)], by rw [va_up_self, upd_s, if_pos x], fun e => ?_, fun q => ?_⟩
        · rw [k60, x, if_neg (fun y => y rfl), ← x, if_neg (nI_in (by omega) (by decide)), nI_clamp (by omega), pl_eq, oc_oc, r1', oc_some, pl_eq, oc_some, c60, nI_1, x]
        · rw [va_up_ne _ _ (by decide), r2 151 (by decide), va_up_self]
          by_cases y : e = ev
          · rw [y, upd_s, if_pos ⟨x, rfl⟩]
          · rw [upd_n _ _ y, if_neg (fun z => y z.2)]
        · rw [va_up_ne _ _ (by decide), r3 q, va_up_ne _ _ (by decide)]
          by_cases y : 4 * ev + 0 ≤ q ∧ q < 4 * ev + 4
          · rw [if_pos y, if_pos ⟨x, by omega, y.2⟩]
          · rw [if_neg y, if_neg (fun z => y ⟨by omega, z.2.2⟩)]
      · refine ⟨I2, fun {α F} => ?_, fun _ _ _ _ => rfl, fun _ _ => rfl, by rw [if_neg x]; exact k60, fun e => by rw [if_neg (fun y => x y.1)], fun q => by rw [if_neg (fun y => x y.1)]⟩
        rw [k60, if_pos (fun y => x ((nI_eq (by omega) (by omega)).mp y)), oc_some]
    obtain ⟨I3, n1, n2, n3, n4, n5, n6⟩ := new
    -- an input's number
    have val : ∃ J3, (∀ {α : Type} {F : Unit → MI → MJ → Option α}, oc ((if ¬ nI kd = 1 then (some ((), I3, J)) else (if nI ev < 0 ∨ 30001 ≤ Int32.toNatClampNeg (nI ev) then none else (pl (va_up J 152 (vp_updL (J 152) (Int32.toNatClampNeg (nI ev)) v)) (fun J19 => some ((), I3, J19))))) : M2 (Unit)) F = F () I3 J3) ∧ (∀ a, a ≠ 152 → J3 a = J a) ∧ (∀ e, J3 152 e = if kd = 1 ∧ e = ev then v else J 152 e) := by
      by_cases x : kd = 1
      · refine ⟨va_up J 152 (vp_updL (J 152) ev v), fun {α F} => ?_, fun a ha => va_up_ne _ _ ha, fun e => ?_⟩
        · rw [x, if_neg (show ¬ ¬ nI 1 = 1 from fun y => y rfl), if_neg (nI_in (by omega) (by decide)), nI_clamp (by omega), pl_eq, oc_some]
        · rw [va_up_self]
          by_cases y : e = ev
          · rw [y, updL_s, if_pos ⟨x, rfl⟩]
          · rw [updL_n _ _ y, if_neg (fun z => y z.2)]
      · refine ⟨J, fun {α F} => ?_, fun _ _ => rfl, fun e => by rw [if_neg (fun y => x y.1)]⟩
        rw [if_pos (show ¬ nI kd = 1 from fun y => x ((nI_eq (b := 1) (by omega) (by omega)).mp y)), oc_some]
    obtain ⟨J3, v1, v2, v3⟩ := val
    have k131 : I3 131 w = nI pls := by rw [n2 131 (by decide) (by decide) (by decide), b3 131 (by decide) (by decide)]; exact hpl
    have e4 : 4 * nI ev + nI w = nI (4 * ev + w) := by rw [show (4 : Int32) * nI ev = nI (4 * ev) from nI_mul 4 ev, nI_add]
    have fr : ∀ a, a ≠ 153 → a ≠ 131 → (va_up (va_up I3 153 (upd (I3 153) (4 * ev + w) (nI pls))) 131 (upd (I3 131) w (nI (pls + 1)))) a = I3 a := fun a a1 a2 => by rw [va_up_ne _ _ a2, va_up_ne _ _ a1]
    refine ⟨va_up (va_up I3 153 (upd (I3 153) (4 * ev + w) (nI pls))) 131 (upd (I3 131) w (nI (pls + 1))), J3, fun {α F} => ?_, fun a a1 a2 a3 a4 a5 a6 => by rw [fr a a5 a6, n2 a a3 a4 a5, b3 a a1 a2], fun j hj => by rw [fr 112 (by decide) (by decide), n3 j hj, b3 112 (by decide) (by decide)], by rw [fr 112 (by decide) (by decide)]; exact n4, fun e => by rw [fr 151 (by decide) (by decide), n5 e, b3 151 (by decide) (by decide)], fun q => ?_, fun i hi => by rw [va_up_self, upd_n _ _ hi, n2 131 (by decide) (by decide) (by decide), b3 131 (by decide) (by decide)], by rw [va_up_self, upd_s], v2, v3, fun i hi => by rw [fr 130 (by decide) (by decide), n2 130 (by decide) (by decide) (by decide), b4 i hi], by rw [fr 130 (by decide) (by decide), n2 130 (by decide) (by decide) (by decide), b5], fun j hj => by rw [fr 148 (by decide) (by decide), n2 148 (by decide) (by decide) (by decide), b6 j hj], fun q hq => by rw [fr 148 (by decide) (by decide), n2 148 (by decide) (by decide) (by decide), b7 q hq]⟩
    · unfold f_Model_send
      rw [oc_oc, b2, if_pos (show ¬ nI 1 = 0 by decide), nI_clamp (n := w) (by omega), if_neg zw, pl_eq, k135, oc_oc, n1, oc_oc, v1, if_neg zw, e4, if_neg (nI_in (by omega) (by decide)), nI_clamp (n := 4 * ev + w) (by omega), pl_eq, if_neg zw, if_neg zw, k131, va_up_ne _ _ (show 131 ≠ 153 by decide), k131, nI_1, pl_eq, oc_some]
      rfl
    · rw [va_up_ne _ _ (by decide), va_up_self]
      by_cases x : q = 4 * ev + w
      · rw [if_pos x, x, upd_s]
      · rw [if_neg x, upd_n _ _ x, n6 q, b3 153 (by decide) (by decide)]
end WIRE
