/-! the run: the reference settles late -/
def FG (w : Nat) (I I1 : MI) (J J1 : MJ) : Prop := (∀ a, a ≠ 145 → a ≠ 140 → a ≠ 141 → a ≠ 127 → I1 a = I a) ∧ (∀ i, i ≠ w → I1 145 i = I 145 i ∧ I1 141 i = I 141 i ∧ I1 127 i = I 127 i) ∧ (∀ i, i < 16 * w ∨ 16 * w + 16 ≤ i → I1 140 i = I 140 i) ∧ (∀ a, a ≠ 143 → a ≠ 144 → J1 a = J a) ∧ (∀ i, i < 154 * w ∨ 154 * w + 154 ≤ i → J1 143 i = J 143 i) ∧ (∀ i, i < 65 * w ∨ 65 * w + 65 ≤ i → J1 144 i = J 144 i)
theorem FG.tr {w : Nat} {I I1 I2 : MI} {J J1 J2 : MJ} (h : FG w I I1 J J1) (k : FG w I1 I2 J1 J2) : FG w I I2 J J2 := ⟨fun a a1 a2 a3 a4 => (k.1 a a1 a2 a3 a4).trans (h.1 a a1 a2 a3 a4), fun i hi => ⟨(k.2.1 i hi).1.trans (h.2.1 i hi).1, (k.2.1 i hi).2.1.trans (h.2.1 i hi).2.1, (k.2.1 i hi).2.2.trans (h.2.1 i hi).2.2⟩, fun i hi => (k.2.2.1 i hi).trans (h.2.2.1 i hi), fun a a1 a2 => (k.2.2.2.1 a a1 a2).trans (h.2.2.2.1 a a1 a2), fun i hi => (k.2.2.2.2.1 i hi).trans (h.2.2.2.2.1 i hi), fun i hi => (k.2.2.2.2.2 i hi).trans (h.2.2.2.2.2 i hi)⟩
theorem FG.rfl {w : Nat} {I : MI} {J : MJ} : FG w I I J J := ⟨fun _ _ _ _ _ => Eq.refl _, fun _ _ => ⟨Eq.refl _, Eq.refl _, Eq.refl _⟩, fun _ _ => Eq.refl _, fun _ _ _ => Eq.refl _, fun _ _ => Eq.refl _, fun _ _ => Eq.refl _⟩
theorem FN.fg {w : Nat} {I I1 : MI} {J J1 : MJ} (h : FN w I I1 J J1) : FG w I I1 J J1 := ⟨fun a a1 a2 a3 _ => h.1 a a1 a2 a3, fun i hi => ⟨(h.2.1 i hi).1, (h.2.1 i hi).2, by rw [h.1 127 (by decide) (by decide) (by decide)]⟩, h.2.2⟩
theorem FG_p {w : Nat} {I : MI} {J : MJ} {x : Int32} : FG w I (va_up I 127 (upd (I 127) w x)) J J := ⟨fun a _ _ _ a4 => va_up_ne _ _ a4, fun i hi => ⟨by rw [va_up_ne _ _ (by decide)], by rw [va_up_ne _ _ (by decide)], by rw [va_up_self, upd_n _ _ hi]⟩, fun i _ => by rw [va_up_ne _ _ (by decide)], fun _ _ _ => rfl, fun _ _ => rfl, fun _ _ => rfl⟩
/-- another party's memory stays -/
theorem RV_fg {I I1 : MI} {J J1 : MJ} {w h nk : Nat} {sk va kp : Nat → Nat} {w' : Nat} (hw : w ≠ w') (hf : FG w' I I1 J J1) (hv : RV I J w h sk va nk kp) : RV I1 J1 w h sk va nk kp := by
  obtain ⟨⟨h1, h2⟩, h3, h4, ⟨h8, h9⟩, h10⟩ := hv
  obtain ⟨f1, f2, f3, f4, f5, f6⟩ := hf
  refine ⟨⟨by rw [(f2 w hw).1]; exact h1, h2⟩, fun i hi => ⟨(h3 i hi).1, ?_⟩, fun i hi => ⟨(h4 i hi).1, ?_⟩, ⟨by rw [(f2 w hw).2.1]; exact h8, h9⟩, fun i hi => ?_⟩
  · rw [f6 _ (by omega)]
    exact (h3 i hi).2
  · rw [f5 _ (by omega)]
    exact (h4 i hi).2
  · rw [f3 _ (by omega)]
    exact h10 i hi
theorem RV_o {I : MI} {J : MJ} {w h nk a : Nat} {sk va kp : Nat → Nat} {x : Nat → Int32} (ha : a ≠ 145 ∧ a ≠ 141 ∧ a ≠ 140) (hv : RV I J w h sk va nk kp) : RV (va_up I a x) J w h sk va nk kp := by
  refine RV_eq hv ?_ ?_ ?_ rfl rfl
  · rw [va_up_ne _ _ (Ne.symm ha.1)]
  · rw [va_up_ne _ _ (Ne.symm ha.2.1)]
  · rw [va_up_ne _ _ (Ne.symm ha.2.2)]
section SET
variable {cd va : Nat → Nat} {n P : Nat} {st : Nat → Bool} {hg : Nat → Nat}
theorem gLit {I : MI} {J : MJ} {p2 l1 l3 : Int32} (hn : n ≤ 2000) (hb : ∀ k, k < n → cd k < 256 ∧ I 114 k = nI (cd k)) : ∀ (i fu k j v : Nat), j + i = 9 → k + 9 ≤ n → i < fu → f_Model_goOn_55 p2 fu l1 (nI k) l3 (lN v) (nI j) I J = some (lN (litn cd (k + j) i v), I, J) := by
  intro i
  induction i with
  | zero =>
    intro fu k j v h1 h2 h3
    obtain ⟨g, rfl⟩ : ∃ g, fu = g + 1 := ⟨fu - 1, by omega⟩
    rw [f_Model_goOn_55, if_pos (show 9 ≤ nI j from nI_le (a := 9) (by omega) (by omega))]
    rfl
  | succ i ih =>
    intro fu k j v h1 h2 h3
    obtain ⟨g, rfl⟩ : ∃ g, fu = g + 1 := ⟨fu - 1, by omega⟩
    have hc := hb (k + j) (by omega)
    rw [f_Model_goOn_55, if_neg (show ¬ 9 ≤ nI j from nI_ge (b := 9) (by omega) (by omega)), nI_add, if_neg (nI_in (by omega) (by decide)), nI_clamp (by omega), hc.2, nI_l (by omega), lx_8 hc.1, pl_eq, nI_1, ih g k (j + 1) _ (by omega) h2 (by omega)]
    rfl
theorem GO0 {w : Nat} {p2 : Int32} (hW : WFc cd n P st hg) (hw : w < 4) {nk : Nat} {kp : Nat → Nat} : ∀ (f fu pos h : Nat) (sk : Nat → Nat) (I : MI) (J : MJ), n ≤ pos + f → f < fu → st pos = true → hg pos = h → RV I J w h sk va nk kp → (∀ k, k < n → I 114 k = nI (cd k)) → I 127 w = nI pos → ∃ I1 J1, f_Model_goOn_0 p2 fu (nI w) I J = some ((), I1, J1) ∧ RV I1 J1 w (stl cd va f pos h sk).2.1 (stl cd va f pos h sk).2.2 va nk kp ∧ I1 127 w = nI (stl cd va f pos h sk).1 ∧ FG w I I1 J J1 := by
  intro f
  induction f with
  | zero =>
    intro fu pos h sk I J h1 h2 hs
    have := (hW.2.2.2.2.2 pos hs).1
    omega
  | succ f ih =>
    intro fu pos h sk I J h1 h2 hs hh hv hr hp
    obtain ⟨g, rfl⟩ : ∃ g, fu = g + 1 := ⟨fu - 1, by omega⟩
    have hn := hW.2.1
    obtain ⟨z1, z2, z3, z4, z5, z6, z7, z8, z9⟩ := hW.2.2.2.2.2 pos hs
    by_cases c : 1 ≤ cd pos ∧ cd pos ≤ 3
    · obtain ⟨c1, c2, c3, c4, c5, c6, c7⟩ := WF_lit hW hs c.1 c.2
      rw [stl, if_pos c]
      have hpv := pv_lt hW hs c.1 c.2 (fun i hi => RV_va hv hi)
      obtain ⟨I2, J2, p1, p2', p3'⟩ := mPSH hw hv (show h < 64 by omega) hpv
      have q8' : I2 127 w = nI pos := by rw [p3'.1 127 (by decide) (by decide) (by decide)]; exact hp
      have fs2 := p3'.fg.tr (FG_p (w := w) (I := I2) (J := J2) (x := nI (pos + opl (cd pos))))
      obtain ⟨I1, J1, s1, s2, s3, s6⟩ := ih g (pos + opl (cd pos)) (h + 1) (apn sk h (pv cd va pos)) (va_up I2 127 (upd (I2 127) w (nI (pos + opl (cd pos))))) J2 (by omega) (by omega) c2 (by omega) (RV_o (by decide) p2') (fun k hk => by rw [fs2.1 114 (by decide) (by decide) (by decide) (by decide)]; exact hr k hk) (by rw [va_up_self, upd_s])
      refine ⟨I1, J1, ?_, s2, s3, fs2.tr s6⟩
      have z : ¬ (nI pos < 0 ∨ 2400 ≤ pos) := nin (by omega) (by decide)
      have ln : ∀ {α : Type} {F : Int32 → MI → MJ → Option α}, oc (f_Model_longOf (nI (cd pos)) I2 J2) F = F (nI (opl (cd pos))) I2 J2 := fun {α F} => by rw [m_len z2, oc_some]
      rw [f_Model_goOn_0, if_neg (nI_in hw (by decide)), nI_clamp (n := w) (by omega), hp, nI_clamp (n := pos) (by omega), if_neg z, hr pos z1, if_neg (show ¬ nI (cd pos) < 1 from fun x => by have := (nI_ltI (b := 1) (by omega) (by omega)).mp x; omega), if_neg (nin hw (by decide)), if_neg z, if_neg (show ¬ 3 < nI (cd pos) from fun x => by have := (nI_ltI (a := 3) (by omega) (by omega)).mp x; omega), if_neg (nin hw (by decide)), pl_eq, nI_clamp (n := pos) (by omega), if_neg z, hr pos z1, pl_eq]
      by_cases e1 : cd pos = 1
      · have hl : pos + 9 ≤ n := by
          rw [e1, show opl 1 = 9 from rfl] at z3
          omega
        have pv1 : pv cd va pos = lit cd (pos + 1) := if_pos e1
        rw [pv1] at p1
        have gl := gLit (I := I) (J := J) (p2 := p2) (l1 := nI w) (l3 := nI (cd pos)) hn (fun k hk => ⟨hW.2.2.1 k hk, hr k hk⟩) 8 gF pos 1 0 (by omega) hl (by decide)
        have gl' : f_Model_goOn_55 p2 gF (nI w) (nI pos) (nI (cd pos)) 0 1 I J = some (lN (lit cd (pos + 1)), I, J) := gl
        rw [if_neg (show ¬ ¬ nI (cd pos) = 1 from fun x => x (by rw [e1]; rfl)), gl', oc_some, oc_oc, p1, oc_some, if_neg (nin hw (by decide)), ln, if_neg (nin hw (by decide)), pl_eq, q8', nI_add, ← s1]
      · have k1 := c7 e1
        have k2 : pos + 1 < n := by omega
        rw [if_pos (show ¬ nI (cd pos) = 1 from fun x => e1 ((nI_eq (b := 1) (by omega) (by omega)).mp x))]
        have zz : ¬ (nI (pos + 1) < 0 ∨ 2400 ≤ pos + 1) := nin (by omega) (by decide)
        by_cases e2 : cd pos = 2
        · have pv2 : pv cd va pos = va (cd (pos + 1)) := by
            unfold pv
            rw [if_neg e1, if_pos e2]
          rw [pv2] at p1
          rw [if_neg (show ¬ ¬ nI (cd pos) = 2 from fun x => x (by rw [e2]; rfl)), nI_1, nI_clamp (n := pos + 1) (by omega), if_neg zz, oc_some, hr (pos + 1) k2, n154, if_neg (nI_in (by omega) (by decide)), nI_clamp (by omega), RV_rd hv (by omega), oc_oc, p1, oc_some, if_neg (nin hw (by decide)), ln, if_neg (nin hw (by decide)), pl_eq, q8', nI_add, ← s1]
        · have pv3 : pv cd va pos = va (13 + cd (pos + 1)) := by
            unfold pv
            rw [if_neg e1, if_neg e2]
          rw [pv3] at p1
          rw [if_pos (show ¬ nI (cd pos) = 2 from fun x => e2 ((nI_eq (b := 2) (by omega) (by omega)).mp x)), nI_1, nI_clamp (n := pos + 1) (by omega), if_neg zz, oc_some, hr (pos + 1) k2, show (13 : Int32) + nI (cd (pos + 1)) = nI (13 + cd (pos + 1)) from nI_add 13 _, n154, if_neg (nI_in (by omega) (by decide)), nI_clamp (by omega), RV_rd hv (by omega), oc_oc, p1, oc_some, if_neg (nin hw (by decide)), ln, if_neg (nin hw (by decide)), pl_eq, q8', nI_add, ← s1]
    · rw [stl_no c]
      simp only
      refine ⟨I, J, ?_, hv, hp, FG.rfl⟩
      have z : ¬ (nI pos < 0 ∨ 2400 ≤ pos) := nin (by omega) (by decide)
      rw [f_Model_goOn_0, if_neg (nI_in hw (by decide)), nI_clamp (n := w) (by omega), hp, nI_clamp (n := pos) (by omega), if_neg z, hr pos z1]
      by_cases e0 : cd pos = 0
      · rw [if_pos (show nI (cd pos) < 1 by rw [e0]; decide)]
      · rw [if_neg (show ¬ nI (cd pos) < 1 from fun x => by have := (nI_ltI (b := 1) (by omega) (by omega)).mp x; omega), if_neg (nin hw (by decide)), if_neg z, if_pos (show 3 < nI (cd pos) from (nI_ltI (a := 3) (by omega) (by omega)).mpr (by omega))]
theorem GON {w : Nat} (hW : WFc cd n P st hg) (hw : w < 4) {nk pos h : Nat} {sk kp : Nat → Nat} {I : MI} {J : MJ} (hs : st pos = true) (hh : hg pos = h) (hv : RV I J w h sk va nk kp) (hr : ∀ k, k < n → I 114 k = nI (cd k)) (hp : I 127 w = nI pos) : ∃ I1 J1, (∀ {α : Type} {F : Unit → MI → MJ → Option α}, oc (f_Model_goOn (nI w) I J) F = F () I1 J1) ∧ RV I1 J1 w (stl cd va 2000 pos h sk).2.1 (stl cd va 2000 pos h sk).2.2 va nk kp ∧ I1 127 w = nI (stl cd va 2000 pos h sk).1 ∧ FG w I I1 J J1 := by
  have hn := hW.2.1
  obtain ⟨I1, J1, s1, s2, s3, s4⟩ := GO0 (p2 := nI w) hW hw 2000 gF pos h sk I J (by omega) (gF_lt (by omega)) hs hh hv hr hp
  refine ⟨I1, J1, ?_, s2, s3, s4⟩
  intro α F
  unfold f_Model_goOn
  rw [s1, oc_some, oc_some]
end SET
