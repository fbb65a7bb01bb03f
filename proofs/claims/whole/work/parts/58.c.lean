/-! the run: what is no step: numbers and variables come to the pile -/
def pv (cd va : Nat → Nat) (pos : Nat) : Nat := if cd pos = 1 then lit cd (pos + 1) else if cd pos = 2 then va (cd (pos + 1)) else va (13 + cd (pos + 1))
def stl (cd va : Nat → Nat) : Nat → Nat → Nat → (Nat → Nat) → Nat × Nat × (Nat → Nat)
  | 0, pos, h, sk => (pos, h, sk)
  | f + 1, pos, h, sk => if 1 ≤ cd pos ∧ cd pos ≤ 3 then stl cd va f (pos + opl (cd pos)) (h + 1) (apn sk h (pv cd va pos)) else (pos, h, sk)
theorem stl_no {cd va : Nat → Nat} {pos h : Nat} {sk : Nat → Nat} (hp : ¬ (1 ≤ cd pos ∧ cd pos ≤ 3)) : ∀ f, stl cd va f pos h sk = (pos, h, sk) := by
  intro f
  cases f with
  | zero => rfl
  | succ f => rw [stl, if_neg hp]
theorem opl_13 : ∀ {c : Nat}, 1 ≤ c → c ≤ 3 → opl c = (if c = 1 then 9 else 2) ∧ nd c = 0 ∧ gv c = 1 := by
  intro c h1 h2
  have : c = 1 ∨ c = 2 ∨ c = 3 := by omega
  rcases this with rfl | rfl | rfl <;> decide
section SET
variable {cd va : Nat → Nat} {n P : Nat} {st : Nat → Bool} {hg : Nat → Nat}
/-- one more, and what it needs -/
theorem WF_lit (hW : WFc cd n P st hg) {pos : Nat} (hs : st pos = true) (h1 : 1 ≤ cd pos) (h2 : cd pos ≤ 3) : pos + opl (cd pos) < n ∧ st (pos + opl (cd pos)) = true ∧ hg (pos + opl (cd pos)) = hg pos + 1 ∧ hg pos < 64 ∧ 2 ≤ opl (cd pos) ∧ (cd pos = 1 → lit cd (pos + 1) < pP) ∧ (cd pos ≠ 1 → cd (pos + 1) < 13) := by
  obtain ⟨w1, w2, w3, w4, w5, w6⟩ := hW
  obtain ⟨a1, a2, a3, a4, a5, a6, a7, a8, a9⟩ := w6 pos hs
  obtain ⟨o1, o2, o3⟩ := opl_13 h1 h2
  obtain ⟨b1, b2⟩ := a7 (by omega) (by omega) (by omega)
  rw [o2, o3] at b2 a6
  have c1 := (w6 _ b1).1
  refine ⟨c1, b1, by omega, by omega, ?_, ?_, ?_⟩
  · rw [o1]
    by_cases e : cd pos = 1
    · rw [if_pos e]; omega
    · rw [if_neg e]; omega
  · intro e
    unfold opok opokb at a4
    rw [e] at a4
    exact of_decide_eq_true a4
  · intro e
    unfold opok opokb at a4
    have e' : cd pos = 2 ∨ cd pos = 3 := by omega
    rcases e' with e' | e'
    · rw [e'] at a4
      exact of_decide_eq_true a4
    · rw [e'] at a4
      exact of_decide_eq_true a4
theorem pv_lt (hW : WFc cd n P st hg) {pos : Nat} (hs : st pos = true) (h1 : 1 ≤ cd pos) (h2 : cd pos ≤ 3) (hv : ∀ i, i < 154 → va i < pP) : pv cd va pos < pP := by
  obtain ⟨_, _, _, _, _, c6, c7⟩ := WF_lit hW hs h1 h2
  unfold pv
  by_cases e : cd pos = 1
  · rw [if_pos e]
    exact c6 e
  · rw [if_neg e]
    have := c7 e
    by_cases e2 : cd pos = 2
    · rw [if_pos e2]
      exact hv _ (by omega)
    · rw [if_neg e2]
      exact hv _ (by omega)
theorem stl_ok (hW : WFc cd n P st hg) (hv : ∀ i, i < 154 → va i < pP) : ∀ (f pos h : Nat) (sk : Nat → Nat), n ≤ pos + f → st pos = true → hg pos = h → (∀ i, i < h → sk i < pP) → st (stl cd va f pos h sk).1 = true ∧ hg (stl cd va f pos h sk).1 = (stl cd va f pos h sk).2.1 ∧ (∀ i, i < (stl cd va f pos h sk).2.1 → (stl cd va f pos h sk).2.2 i < pP) ∧ ¬ (1 ≤ cd (stl cd va f pos h sk).1 ∧ cd (stl cd va f pos h sk).1 ≤ 3) := by
  intro f
  induction f with
  | zero =>
    intro pos h sk h1 hs _ _
    have := (hW.2.2.2.2.2 pos hs).1
    omega
  | succ f ih =>
    intro pos h sk h1 hs h2 h3
    by_cases c : 1 ≤ cd pos ∧ cd pos ≤ 3
    · obtain ⟨c1, c2, c3, c4, c5, _, _⟩ := WF_lit hW hs c.1 c.2
      rw [stl, if_pos c]
      exact ih _ _ _ (by omega) c2 (by omega) (fun i hi => by
        by_cases e : i = h
        · rw [e, apn_s]
          exact pv_lt hW hs c.1 c.2 hv
        · rw [apn_n _ _ e]
          exact h3 i (by omega))
    · rw [stl, if_neg c]
      exact ⟨hs, h2, h3, c⟩
theorem stl_f (hW : WFc cd n P st hg) : ∀ (f g pos h : Nat) (sk : Nat → Nat), n ≤ pos + f → n ≤ pos + g → st pos = true → stl cd va f pos h sk = stl cd va g pos h sk := by
  intro f
  induction f with
  | zero =>
    intro g pos h sk h1 h2 hs
    have := (hW.2.2.2.2.2 pos hs).1
    omega
  | succ f ih =>
    intro g pos h sk h1 h2 hs
    by_cases c : 1 ≤ cd pos ∧ cd pos ≤ 3
    · obtain ⟨c1, c2, c3, c4, c5, _, _⟩ := WF_lit hW hs c.1 c.2
      have : g ≠ 0 := fun e => by
        have := (hW.2.2.2.2.2 pos hs).1
        omega
      obtain ⟨g', rfl⟩ : ∃ g', g = g' + 1 := ⟨g - 1, by omega⟩
      rw [stl, stl, if_pos c, if_pos c]
      exact ih g' _ _ _ (by omega) (by omega) c2
    · rw [stl_no c, stl_no c]
/-- the first phase of an operation -/
def fph (cd : Nat → Nat) (pos w o : Nat) : Nat := if cd pos = 13 then (if cd (pos + 2) = w then 0 else 1) else if cd pos = 15 ∨ cd pos = 16 then (if o = 0 then 8 else 0) else 0
def FT (w : Nat) (I I1 : MI) (J J1 : MJ) : Prop := (∀ a, a ≠ 18 + 21 * w → a ≠ 19 + 21 * w → a ≠ 24 + 21 * w → I1 a = I a) ∧ (∀ j, j ≠ 8 → j ≠ 9 → j ≠ 10 → I1 (18 + 21 * w) j = I (18 + 21 * w) j) ∧ (∀ a, a ≠ 20 + 21 * w → a ≠ 21 + 21 * w → a ≠ 22 + 21 * w → a ≠ 23 + 21 * w → J1 a = J a)
theorem FT.tr {w : Nat} {I I1 I2 : MI} {J J1 J2 : MJ} (h : FT w I I1 J J1) (k : FT w I1 I2 J1 J2) : FT w I I2 J J2 := ⟨fun a a1 a2 a3 => (k.1 a a1 a2 a3).trans (h.1 a a1 a2 a3), fun a a1 a2 a3 => (k.2.1 a a1 a2 a3).trans (h.2.1 a a1 a2 a3), fun a a1 a2 a3 a4 => (k.2.2 a a1 a2 a3 a4).trans (h.2.2 a a1 a2 a3 a4)⟩
theorem FM.ft {w : Nat} {I I1 : MI} {J J1 : MJ} (h : FM w I I1 J J1) : FT w I I1 J J1 := ⟨fun a _ a2 a3 => h.1 a a2 a3, fun j _ _ _ => by rw [h.1 (18 + 21 * w) (by omega) (by omega)], h.2⟩
theorem FT_p {w : Nat} {I : MI} {J : MJ} {j : Nat} {x : Int32} (hj : j = 8 ∨ j = 9 ∨ j = 10) : FT w I (va_up I (18 + 21 * w) (upd (I (18 + 21 * w)) j x)) J J := ⟨fun a a1 _ _ => va_up_ne _ _ a1, fun i i1 i2 i3 => by rw [va_up_self, upd_n _ _ (by omega)], fun _ _ _ _ _ => rfl⟩
theorem CV_p {w : Nat} {I : MI} {J : MJ} {h nk : Nat} {sk va kp : Nat → Nat} {x : Nat → Int32} (hv : CV I J w h sk va nk kp) : CV (va_up I (18 + 21 * w) x) J w h sk va nk kp := CV_fr hv (va_up_ne _ _ (by omega)) (va_up_ne _ _ (by omega)) rfl rfl rfl rfl
theorem rowC_f2 {I I1 : MI} {r b n : Nat} {cd : Nat → Nat} (h : rowC I r b n cd) (e1 : I1 r = I r) (e2 : I1 b = I b) : rowC I1 r b n cd := by
  unfold rowC
  rw [e1, e2]
  exact h
theorem w_in {I : MI} {J : MJ} {n k : Nat} {cd : Nat → Nat} (hr : rowC I 15 16 n cd) (hn : n ≤ 2000) (hk : k < n) {α : Type} {F : Int32 → MI → MJ → Option α} : oc (f_Row_at 15 16 2000 (nI k) I J) F = F (nI (cd k)) I J := by
  rw [w_at hr.1 hn (by decide) (by omega), oc_some, if_pos hk, (hr.2 k hk).2]
theorem SE7 {w : Nat} {p3 : Int32} (hW : WFc cd n P st hg) (hw : w < 4) {nk o : Nat} {kp : Nat → Nat} (ho : o < 2 ^ 31) : ∀ (f fu i pos h : Nat) (sk : Nat → Nat) (I : MI) (J : MJ), n ≤ pos + f → f < fu → i ≤ pos → st pos = true → hg pos = h → CV I J w h sk va nk kp → rowC I 15 16 n cd → I (18 + 21 * w) 8 = nI pos → I (18 + 21 * w) 0 = nI w → I (25 + 21 * w) 4 = nI o → ∃ I1 J1, f_Hall_settle_7 w p3 fu (nI i) I J = some (.inl (), I1, J1) ∧ CV I1 J1 w (stl cd va f pos h sk).2.1 (stl cd va f pos h sk).2.2 va nk kp ∧ I1 (18 + 21 * w) 8 = nI (stl cd va f pos h sk).1 ∧ I1 (18 + 21 * w) 9 = nI (fph cd (stl cd va f pos h sk).1 w o) ∧ I1 (18 + 21 * w) 10 = nI (if cd (stl cd va f pos h sk).1 = 0 then 2 else 1) ∧ FT w I I1 J J1 := by
  intro f
  induction f with
  | zero =>
    intro fu i pos h sk I J h1 h2 h3 hs
    have := (hW.2.2.2.2.2 pos hs).1
    omega
  | succ f ih =>
    intro fu i pos h sk I J h1 h2 h3 hs hh hv hr hp hx ho4
    obtain ⟨g, rfl⟩ : ∃ g, fu = g + 1 := ⟨fu - 1, by omega⟩
    have hn := hW.2.1
    obtain ⟨z1, z2, z3, z4, z5, z6, z7, z8, z9⟩ := hW.2.2.2.2.2 pos hs
    have r0 := fun {α : Type} {F : Int32 → MI → MJ → Option α} => w_in (J := J) hr hn z1 (F := F)
    by_cases c : 1 ≤ cd pos ∧ cd pos ≤ 3
    · obtain ⟨c1, c2, c3, c4, c5, c6, c7⟩ := WF_lit hW hs c.1 c.2
      rw [stl, if_pos c]
      have hpv := pv_lt hW hs c.1 c.2 (fun i hi => CV_va hv hi)
      obtain ⟨I2, J2, p1, p2, p3'⟩ := PSH hv (show h < 64 by omega) hpv
      have q8 : I2 (18 + 21 * w) = I (18 + 21 * w) := p3'.1 _ (by omega) (by omega)
      have q8' : I2 (18 + 21 * w) 8 = nI pos := by rw [q8]; exact hp
      have fs2 := p3'.ft.tr (FT_p (w := w) (I := I2) (J := J2) (j := 8) (x := nI (pos + opl (cd pos))) (Or.inl rfl))
      have hr2 : rowC (va_up I2 (18 + 21 * w) (upd (I2 (18 + 21 * w)) 8 (nI (pos + opl (cd pos))))) 15 16 n cd := rowC_f2 hr (fs2.1 15 (by omega) (by omega) (by omega)) (fs2.1 16 (by omega) (by omega) (by omega))
      obtain ⟨I1, J1, s1, s2, s3, s4, s5, s6⟩ := ih g (i + 1) (pos + opl (cd pos)) (h + 1) (apn sk h (pv cd va pos)) (va_up I2 (18 + 21 * w) (upd (I2 (18 + 21 * w)) 8 (nI (pos + opl (cd pos))))) J2 (by omega) (by omega) (by omega) c2 (by omega) (CV_p p2) hr2 (by rw [va_up_self, upd_s]) (by rw [va_up_self, upd_n _ _ (by decide), q8]; exact hx) (by rw [fs2.1 _ (by omega) (by omega) (by omega)]; exact ho4)
      refine ⟨I1, J1, ?_, s2, s3, s4, s5, fs2.tr s6⟩
      have r1 : cd pos ≠ 1 → ∀ {α : Type} {F : Int32 → MI → MJ → Option α}, oc (f_Row_at 15 16 2000 (nI pos + 1) I J) F = F (nI (cd (pos + 1))) I J := fun _ {α F} => by
        rw [nI_1]
        exact w_in hr hn (by omega)
      have ln : ∀ {α : Type} {F : Int32 → MI → MJ → Option α}, oc (f_Sh_lengthOf (nI (cd pos)) I2 J2) F = F (nI (opl (cd pos))) I2 J2 := fun {α F} => by rw [q_len _ (by omega), oc_some]
      have fin : ∀ {F : MI → M2 (Unit ⊕ Unit)}, pl (va_up I2 (18 + 21 * w) (upd (I2 (18 + 21 * w)) 8 ((I2 (18 + 21 * w) 8) + nI (opl (cd pos))))) F = F (va_up I2 (18 + 21 * w) (upd (I2 (18 + 21 * w)) 8 (nI (pos + opl (cd pos))))) := fun {F} => by rw [pl_eq, q8', nI_add]
      rw [f_Hall_settle_7, if_neg (show ¬ 2000 ≤ nI i from nI_ge (b := 2000) (by omega) (by omega)), hp, r0]
      by_cases e1 : cd pos = 1
      · have hl : pos + 1 + 8 ≤ n := by
          rw [e1, show opl 1 = 9 from rfl] at z3
          omega
        have pv1 : pv cd va pos = lit cd (pos + 1) := if_pos e1
        rw [pv1] at p1
        rw [e1] at ln fin ⊢
        rw [if_neg (show ¬ ¬ nI 1 = 1 from fun x => x rfl), hp, nI_1, w_long hr.1 hn (by decide) (fun k hk => hr.2 k hk) hl, oc_some, p1, ln, fin, nI_1, ← s1, e1]
      · have k1 := c7 e1
        rw [if_pos (show ¬ nI (cd pos) = 1 from fun x => e1 ((nI_eq (b := 1) (by omega) (by omega)).mp x))]
        by_cases e2 : cd pos = 2
        · have pv2 : pv cd va pos = va (cd (pos + 1)) := by
            unfold pv
            rw [if_neg e1, if_pos e2]
          rw [pv2] at p1
          rw [if_neg (show ¬ ¬ nI (cd pos) = 2 from fun x => x (by rw [e2]; rfl)), hp, r1 e1, RDC hv k1, p1, ln, fin, nI_1, ← s1]
        · have e3 : cd pos = 3 := by omega
          have pv3 : pv cd va pos = va (13 + cd (pos + 1)) := by
            unfold pv
            rw [if_neg e1, if_neg e2]
          rw [pv3] at p1
          rw [if_pos (show ¬ nI (cd pos) = 2 from fun x => e2 ((nI_eq (b := 2) (by omega) (by omega)).mp x)), if_neg (show ¬ ¬ nI (cd pos) = 3 from fun x => x (by rw [e3]; rfl)), hp, r1 e1, RDS hv k1, p1, ln, fin, nI_1, ← s1]
    · rw [stl_no c]
      simp only
      have fp : ∀ {α : Type} {F : Int32 → MI → MJ → Option α}, oc (f_Hall_firstPhase w (nI (cd pos)) I J) F = F (nI (fph cd pos w o)) I J := by
        intro α F
        unfold f_Hall_firstPhase fph
        by_cases e13 : cd pos = 13
        · have l3 : pos + 3 ≤ n := by
            rw [e13, show opl 13 = 3 from rfl] at z3
            omega
          have r2 : ∀ {α : Type} {F : Int32 → MI → MJ → Option α}, oc (f_Row_at 15 16 2000 (nI pos + 2) I J) F = F (nI (cd (pos + 2))) I J := fun {α F} => by
            rw [show nI pos + 2 = nI (pos + 2) from nI_add pos 2]
            exact w_in hr hn (by omega)
          have b2 := (hr.2 (pos + 2) (by omega)).1
          rw [if_neg (show ¬ ¬ nI (cd pos) = 13 from fun x => x (by rw [e13]; rfl)), hp, oc_oc, r2, hx, if_pos e13]
          by_cases e : cd (pos + 2) = w
          · rw [if_pos e, e, if_neg (fun x => x rfl)]
            rfl
          · rw [if_neg e, if_pos (fun x => e ((nI_eq (by omega) (by omega)).mp x))]
            rfl
        · rw [if_pos (show ¬ nI (cd pos) = 13 from fun x => e13 ((nI_eq (b := 13) (by omega) (by omega)).mp x)), if_neg e13, ho4]
          have k0 : (nI o ≤ 0) ↔ o = 0 := by
            have := nI_leI (a := o) (b := 0) ho (by omega)
            constructor
            · intro x
              have := this.mp x
              omega
            · intro x
              rw [x]
              exact Int32.le_refl _
          have both : ∀ {α : Type} {F : Int32 → MI → MJ → Option α}, oc (if nI o ≤ 0 then some ((8 : Int32), I, J) else some (0, I, J)) F = F (nI (if o = 0 then 8 else 0)) I J := by
            intro α F
            by_cases e : o = 0
            · rw [if_pos (k0.mpr e), if_pos e, oc_some]
              rfl
            · rw [if_neg (fun x => e (k0.mp x)), if_neg e, oc_some]
              rfl
          by_cases e15 : cd pos = 15
          · rw [if_pos (show nI (cd pos) = 15 by rw [e15]; rfl), if_pos (Or.inl e15), both]
          · rw [if_neg (show ¬ nI (cd pos) = 15 from fun x => e15 ((nI_eq (b := 15) (by omega) (by omega)).mp x))]
            by_cases e16 : cd pos = 16
            · rw [if_neg (show ¬ ¬ nI (cd pos) = 16 from fun x => x (by rw [e16]; rfl)), if_pos (Or.inr e16), both]
            · rw [if_pos (show ¬ nI (cd pos) = 16 from fun x => e16 ((nI_eq (b := 16) (by omega) (by omega)).mp x)), if_neg (by omega), oc_some]
              rfl
      have s9 := FT_p (w := w) (I := I) (J := J) (j := 9) (x := nI (fph cd pos w o)) (Or.inr (Or.inl rfl))
      have s10 : ∀ x : Int32, FT w I (va_up (va_up I (18 + 21 * w) (upd (I (18 + 21 * w)) 9 (nI (fph cd pos w o)))) (18 + 21 * w) (upd ((va_up I (18 + 21 * w) (upd (I (18 + 21 * w)) 9 (nI (fph cd pos w o)))) (18 + 21 * w)) 10 x)) J J := fun x => s9.tr (FT_p (j := 10) (Or.inr (Or.inr rfl)))
      refine ⟨va_up (va_up I (18 + 21 * w) (upd (I (18 + 21 * w)) 9 (nI (fph cd pos w o)))) (18 + 21 * w) (upd ((va_up I (18 + 21 * w) (upd (I (18 + 21 * w)) 9 (nI (fph cd pos w o)))) (18 + 21 * w)) 10 (nI (if cd pos = 0 then 2 else 1))), J, ?_, CV_p (CV_p hv), ?_, ?_, ?_, s10 _⟩
      · rw [f_Hall_settle_7, if_neg (show ¬ 2000 ≤ nI i from nI_ge (b := 2000) (by omega) (by omega)), hp, r0, if_pos (show ¬ nI (cd pos) = 1 from fun x => by have := (nI_eq (b := 1) (by omega) (by omega)).mp x; omega), if_pos (show ¬ nI (cd pos) = 2 from fun x => by have := (nI_eq (b := 2) (by omega) (by omega)).mp x; omega), if_pos (show ¬ nI (cd pos) = 3 from fun x => by have := (nI_eq (b := 3) (by omega) (by omega)).mp x; omega), fp, pl_eq]
        by_cases e0 : cd pos = 0
        · rw [if_neg (show ¬ 0 < nI (cd pos) by rw [e0]; decide), pl_eq, if_pos e0]
          rfl
        · rw [if_pos (show 0 < nI (cd pos) from (nI_ltI (a := 0) (by omega) (by omega)).mpr (by omega)), pl_eq, if_neg e0]
          rfl
      · rw [va_up_self, upd_n _ _ (by decide), va_up_self, upd_n _ _ (by decide)]
        exact hp
      · rw [va_up_self, upd_n _ _ (by decide), va_up_self, upd_s]
      · rw [va_up_self, upd_s]
theorem SETC {w : Nat} (hW : WFc cd n P st hg) (hw : w < 4) {nk o pos h : Nat} {sk kp : Nat → Nat} {I : MI} {J : MJ} (ho : o < 2 ^ 31) (hs : st pos = true) (hh : hg pos = h) (hv : CV I J w h sk va nk kp) (hr : rowC I 15 16 n cd) (hx : I (18 + 21 * w) 0 = nI w) (ho4 : I (25 + 21 * w) 4 = nI o) : ∃ I1 J1, (∀ {α : Type} {F : Unit → MI → MJ → Option α}, oc (f_Hall_settle w (nI pos) I J) F = F () I1 J1) ∧ CV I1 J1 w (stl cd va 2000 pos h sk).2.1 (stl cd va 2000 pos h sk).2.2 va nk kp ∧ I1 (18 + 21 * w) 8 = nI (stl cd va 2000 pos h sk).1 ∧ I1 (18 + 21 * w) 9 = nI (fph cd (stl cd va 2000 pos h sk).1 w o) ∧ I1 (18 + 21 * w) 10 = nI (if cd (stl cd va 2000 pos h sk).1 = 0 then 2 else 1) ∧ FT w I I1 J J1 := by
  have hn := hW.2.1
  have f0 := FT_p (w := w) (I := I) (J := J) (j := 8) (x := nI pos) (Or.inl rfl)
  obtain ⟨I1, J1, s1, s2, s3, s4, s5, s6⟩ := SE7 (p3 := nI pos) hW hw ho 2000 gF 0 pos h sk (va_up I (18 + 21 * w) (upd (I (18 + 21 * w)) 8 (nI pos))) J (by omega) (gF_lt (by omega)) (by omega) hs hh (CV_p hv) (rowC_f2 hr (va_up_ne _ _ (by omega)) (va_up_ne _ _ (by omega))) (by rw [va_up_self, upd_s]) (by rw [va_up_self, upd_n _ _ (by decide)]; exact hx) (by rw [va_up_ne _ _ (by omega)]; exact ho4)
  have s1' : f_Hall_settle_7 w (nI pos) gF 0 (va_up I (18 + 21 * w) (upd (I (18 + 21 * w)) 8 (nI pos))) J = some (.inl (), I1, J1) := s1
  refine ⟨I1, J1, ?_, s2, s3, s4, s5, f0.tr s6⟩
  intro α F
  unfold f_Hall_settle
  rw [pl_eq, s1', oc_some, oe_i, oc_some]
end SET
