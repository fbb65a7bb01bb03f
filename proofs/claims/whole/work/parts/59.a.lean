/-! the run: the reference shows -/
section OUTM
variable {cd va sk kp pn ix kd : Nat → Nat} {n P w h nk pos no sh sg s x B NT ev ck EV pls q : Nat} {tp ts tk tb : Nat → Nat} {I I3 Ic : MI} {J Jc : MJ} {p3 p4 : Int32}
theorem A15 (hw : w < 4) (hn : n ≤ 2000) (hpn : pos + 1 < n) (hcb : cd (pos + 1) < 256) (hr : ∀ k, k < n → I 114 k = nI (cd k)) (hp : I 127 w = nI pos) (e1 : cd pos = 15) : f_Model_act (nI w) I J = ok01 (f_Model_out (nI w) 0 (nI (154 * w + cd (pos + 1))) I J) := by
  have zw := nin hw (show 4 < 2 ^ 31 by decide)
  unfold f_Model_act
  rw [nI_clamp (n := w) (by omega), if_neg zw, pl_eq, hp, if_neg (nI_in (by omega) (by decide)), nI_clamp (n := pos) (by omega), pl_eq, pl_eq, hr pos (by omega), e1, if_neg (by decide), if_neg (by decide), if_neg (by decide), if_neg (by decide), if_neg (by decide), if_neg (by decide), if_neg (by decide), if_pos (by decide), show nI pos + 1 = nI (pos + 1) from nI_1 pos, if_neg (nI_in (by omega) (by decide)), nI_clamp (n := pos + 1) (by omega), hr (pos + 1) hpn, n154', nI_add]
  rfl
theorem A16 (hw : w < 4) (hn : n ≤ 2000) (hpn : pos + 1 < n) (hcb : cd (pos + 1) < 256) (hr : ∀ k, k < n → I 114 k = nI (cd k)) (hp : I 127 w = nI pos) (e1 : cd pos = 16) : f_Model_act (nI w) I J = ok01 (f_Model_out (nI w) 1 (nI (154 * w + 13 + cd (pos + 1))) I J) := by
  have zw := nin hw (show 4 < 2 ^ 31 by decide)
  unfold f_Model_act
  rw [nI_clamp (n := w) (by omega), if_neg zw, pl_eq, hp, if_neg (nI_in (by omega) (by decide)), nI_clamp (n := pos) (by omega), pl_eq, pl_eq, hr pos (by omega), e1, if_neg (by decide), if_neg (by decide), if_neg (by decide), if_neg (by decide), if_neg (by decide), if_neg (by decide), if_neg (by decide), if_neg (by decide), if_pos (by decide), show nI pos + 1 = nI (pos + 1) from nI_1 pos, if_neg (nI_in (by omega) (by decide)), nI_clamp (n := pos + 1) (by omega), hr (pos + 1) hpn, n154', show nI (154 * w) + 13 = nI (154 * w + 13) from nI_add _ 13, nI_add]
  rfl
def opre (w : Nat) (I : MI) (J : MJ) : M2 Unit := (if ¬ (I 128 w) = 0 then (some ((), I, J)) else (oc (f_Model_hasOpened (nI w) I J) (fun v5 I5 J5 => if ¬ v5 = 0 then (some ((), I5, J5)) else (if nI w < 0 ∨ 4 ≤ w then none else (pl (va_up I5 128 (upd (I5 128) w 8)) (fun I8 => some ((), I8, J5)))))))
theorem OPRE (hw : w < 4) (hev : ev ≤ 30001) (hck : ck ≤ ev) (hix : ix ck = 0) (h135 : I 135 w = nI ev) (h136 : I 136 w = nI ck) (h3 : ∀ x, ck ≤ x → x < ev → I 151 x = nI (kd x) ∧ kd x < 100 ∧ ix (x + 1) = ix x + num (kd x)) (hsg : I 128 w = nI sg) (hs : sg < 100) (hx : x = if sg = 0 then (if ix ev = 0 then 8 else 0) else sg) : ∃ I3, (∀ {α : Type} {F : Unit → MI → MJ → Option α}, oc (opre w I J) F = F () I3 J) ∧ (∀ a, a ≠ 128 → I3 a = I a) ∧ I3 128 w = nI x ∧ (∀ i, i ≠ w → I3 128 i = I 128 i) := by
  have zw := nin hw (show 4 < 2 ^ 31 by decide)
  by_cases e : sg = 0
  · rw [if_pos e] at hx
    by_cases y : ix ev = 0
    · rw [if_pos y] at hx
      obtain ⟨A0, q0, r0, s0, t0⟩ := UP1 I 128 w 8
      refine ⟨A0, fun {α F} => ?_, r0, by rw [s0, hx]; rfl, t0⟩
      unfold opre
      rw [hsg, e, if_neg (show ¬ ¬ nI 0 = 0 from fun x => x rfl), oc_oc, HOP hw hev hck hix h135 h136 h3, if_pos y, if_neg (show ¬ ¬ nI 0 = 0 from fun x => x rfl), if_neg zw, q0, pl_eq, oc_some]
    · rw [if_neg y] at hx
      refine ⟨I, fun {α F} => ?_, fun _ _ => rfl, by rw [hsg, hx, e], fun _ _ => rfl⟩
      unfold opre
      rw [hsg, e, if_neg (show ¬ ¬ nI 0 = 0 from fun x => x rfl), oc_oc, HOP hw hev hck hix h135 h136 h3, if_neg y, if_pos (show ¬ nI 1 = 0 by decide), oc_some]
  · rw [if_neg e] at hx
    refine ⟨I, fun {α F} => ?_, fun _ _ => rfl, by rw [hsg, hx], fun _ _ => rfl⟩
    unfold opre
    rw [hsg, if_pos (show ¬ nI sg = 0 from fun y => e ((nI_eq (b := 0) (by omega) (by omega)).mp y)), oc_some]
theorem OUTK (hw : w < 4) (hpre : ∀ {α : Type} {F : Unit → MI → MJ → Option α}, oc (opre w I J) F = F () I3 J) (h128 : I3 128 w = nI x) (hs : STG x s) : f_Model_out (nI w) p3 p4 I J = oc (f_Model_check (nI w) (nI s) I3 J) (fun v I9 J9 => if ¬ v = 0 then some (1, va_up I9 128 (upd (I9 128) w (nI (x + 1))), J9) else some (0, I9, J9)) := by
  have zw := nin hw (show 4 < 2 ^ 31 by decide)
  have hv := STG_v hs
  unfold f_Model_out
  rw [nI_clamp (n := w) (by omega), if_neg zw]
  refine Eq.trans hpre ?_
  rw [if_neg zw, h128, pl_eq]
  obtain ⟨s1, s2⟩ := hs
  rcases s2 with e | e
  · rw [if_pos (show nI x < 8 from (nI_ltI (b := 8) (by omega) (by omega)).mpr (by omega)), hv, pl_eq]
    simp only [if_neg zw, pl_eq, nI_1]
  · rw [if_neg (show ¬ nI x < 8 from fun y => by have := (nI_ltI (b := 8) (by omega) (by omega)).mp y; omega), if_neg (show ¬ nI x ≤ 9 from nI_ge (a := 9) (by omega) (by omega)), if_neg (show ¬ 18 ≤ nI x from nI_ge (b := 18) (by omega) (by omega)), hv, pl_eq]
    simp only [if_neg zw, pl_eq, nI_1]
end OUTM
