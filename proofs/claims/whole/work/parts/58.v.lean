/-! the run: the reference sums a check -/
def num (k : Nat) : Nat := if k = 2 then 2 else if k = 5 then 32 else if k = 1 then 0 else 1
theorem mNUM {k : Nat} (hk : k < 100) {I : MI} {J : MJ} {α : Type} {F : Int32 → MI → MJ → Option α} : oc (f_Model_numbers (nI k) I J) F = F (nI (num k)) I J := by
  unfold f_Model_numbers num
  by_cases a : k = 2
  · rw [if_neg (show ¬ ¬ nI k = 2 from fun y => y (by rw [a]; rfl)), if_pos a, oc_some]
    rfl
  rw [if_pos (show ¬ nI k = 2 from fun y => a ((nI_eq (b := 2) (by omega) (by omega)).mp y)), if_neg a]
  by_cases b : k = 5
  · rw [if_neg (show ¬ ¬ nI k = 5 from fun y => y (by rw [b]; rfl)), if_pos b, oc_some]
    rfl
  rw [if_pos (show ¬ nI k = 5 from fun y => b ((nI_eq (b := 5) (by omega) (by omega)).mp y)), if_neg b]
  by_cases c : k = 1
  · rw [if_neg (show ¬ ¬ nI k = 1 from fun y => y (by rw [c]; rfl)), if_pos c, oc_some]
    rfl
  rw [if_pos (show ¬ nI k = 1 from fun y => c ((nI_eq (b := 1) (by omega) (by omega)).mp y)), if_neg c, oc_some]
  rfl
theorem num_le (k : Nat) : num k ≤ 32 := by
  unfold num
  split
  · omega
  · split
    · omega
    · split <;> omega
def OFF (I0 I : MI) : Prop := ∀ a, a ≠ 160 → a ≠ 161 → I a = I0 a
section SUMS
variable {w P ev ck c : Nat} {er ix kd cn : Nat → Nat} {I0 : MI} {J : MJ} {r : Int64} {p2 p3 : Int32}
/-- the errors of the events, as the reference reads them -/
def ERR (I0 : MI) (J : MJ) (er ix kd : Nat → Nat) (ck ev : Nat) : Prop := ∀ e, ck ≤ e → e < ev → I0 151 e = nI (kd e) ∧ kd e < 100 ∧ ix (e + 1) = ix e + num (kd e) ∧ ∀ k, k < num (kd e) → er (ix e + k) < pP ∧ ∀ I, OFF I0 I → ∀ {α : Type} {F : Int64 → MI → MJ → Option α}, oc (f_Model_error (nI e) (nI k) I J) F = F (lN (er (ix e + k))) I J
theorem S64 {l1 : Int32} (hE : ERR I0 J er ix kd ck ev) {e : Nat} (h1 : ck ≤ e) (h2 : e < ev) (hev : ev ≤ 30001) : ∀ (d fu k : Nat) (I : MI), k + d = num (kd e) → d < fu → OFF I0 I → ∃ I1, f_Model_sum_64 p2 p3 fu l1 r (nI (ix e + k)) (lN (wsm r er (ix e + k))) (nI e) (nI k) I J = some ((nI (ix (e + 1)), lN (wsm r er (ix (e + 1)))), I1, J) ∧ OFF I0 I1 := by
  obtain ⟨a1, a2, a3, a4⟩ := hE e h1 h2
  have nl := num_le (kd e)
  intro d
  induction d with
  | zero =>
    intro fu k I b1 b2 b3
    obtain ⟨g, rfl⟩ : ∃ g, fu = g + 1 := ⟨fu - 1, by omega⟩
    refine ⟨I, ?_, b3⟩
    rw [f_Model_sum_64, if_neg (nI_in (by omega) (by decide)), nI_clamp (n := e) (by omega), b3 151 (by decide) (by decide), a1, mNUM a2, if_pos (nI_le (by omega) (by omega)), show ix e + k = ix (e + 1) by omega]
  | succ d ih =>
    intro fu k I b1 b2 b3
    obtain ⟨g, rfl⟩ : ∃ g, fu = g + 1 := ⟨fu - 1, by omega⟩
    obtain ⟨u1, d1, r1⟩ := dm_drawn r (nI (ix e + k)) I J
    have b4 : OFF I0 (va_up (va_up I 160 u1) 161 d1) := fun a c1 c2 => by rw [va_up_ne _ _ c2, va_up_ne _ _ c1]; exact b3 a c1 c2
    obtain ⟨I1, s1, s2⟩ := ih g (k + 1) (va_up (va_up I 160 u1) 161 d1) (by omega) (by omega) b4
    obtain ⟨q1, q2⟩ := a4 k (by omega)
    refine ⟨I1, ?_, s2⟩
    rw [f_Model_sum_64, if_neg (nI_in (by omega) (by decide)), nI_clamp (n := e) (by omega), b3 151 (by decide) (by decide), a1, mNUM a2, if_neg (nI_ge (by omega) (by omega)), r1, oc_some, q2 _ b4, o_mM (dg_lt _ _) q1, o_mA (wsm_lt _ _ _) (pM_lt _ _), nI_1, nI_1]
    exact s1
theorem S50 (hw : w < 4) (hE : ERR I0 J er ix kd ck ev) (hev : ev ≤ 30001) (h135 : I0 135 w = nI ev) : ∀ (d fu e : Nat) (I : MI), e + d = ev → ck ≤ e → d < fu → OFF I0 I → ∃ I1, f_Model_sum_50 p2 p3 fu (nI w) r (nI (ix e)) (lN (wsm r er (ix e))) (nI e) I J = some (lN (wsm r er (ix ev)), I1, J) ∧ OFF I0 I1 := by
  have zw := nin hw (show 4 < 2 ^ 31 by decide)
  intro d
  induction d with
  | zero =>
    intro fu e I b1 b0 b2 b3
    obtain ⟨g, rfl⟩ : ∃ g, fu = g + 1 := ⟨fu - 1, by omega⟩
    refine ⟨I, ?_, b3⟩
    rw [f_Model_sum_50, nI_clamp (n := w) (by omega), if_neg zw, b3 135 (by decide) (by decide), h135, if_pos (nI_le (by omega) (by omega)), show e = ev by omega]
  | succ d ih =>
    intro fu e I b1 b0 b2 b3
    obtain ⟨g, rfl⟩ : ∃ g, fu = g + 1 := ⟨fu - 1, by omega⟩
    have nl := num_le (kd e)
    obtain ⟨I2, t1, t2⟩ := S64 (p2 := p2) (p3 := p3) (r := r) (l1 := nI w) hE b0 (show e < ev by omega) hev (num (kd e)) gF 0 I (by omega) (by unfold gF; omega) b3
    have t1' : f_Model_sum_64 p2 p3 gF (nI w) r (nI (ix e)) (lN (wsm r er (ix e))) (nI e) 0 I J = some ((nI (ix (e + 1)), lN (wsm r er (ix (e + 1)))), I2, J) := t1
    obtain ⟨I1, s1, s2⟩ := ih g (e + 1) I2 (by omega) (by omega) (by omega) t2
    refine ⟨I1, ?_, s2⟩
    rw [f_Model_sum_50, nI_clamp (n := w) (by omega), if_neg zw, b3 135 (by decide) (by decide), h135, if_neg (nI_ge (by omega) (by omega)), t1', oc_some, nI_1]
    exact s1
theorem S5 {I : MI} (hP : P ≤ 4) (hc : c < 4000) (h6 : I 112 16 = nI P) (hcn : ∀ j, j < P → cn j < pP ∧ J 154 (4 * c + j) = lN (cn j)) {l1 : Int32} : ∀ (d fu i : Nat), i + d = P → d < fu → f_Model_sum_5 p2 p3 fu l1 (nI c) (lN (csm cn i)) (nI i) I J = some (lN (csm cn P), I, J) := by
  intro d
  induction d with
  | zero =>
    intro fu i b1 b2
    obtain ⟨g, rfl⟩ : ∃ g, fu = g + 1 := ⟨fu - 1, by omega⟩
    rw [f_Model_sum_5, h6, show i = P by omega, if_pos (nI_le (by omega) (by omega))]
  | succ d ih =>
    intro fu i b1 b2
    obtain ⟨g, rfl⟩ : ∃ g, fu = g + 1 := ⟨fu - 1, by omega⟩
    have e4 : 4 * nI c + nI i = nI (4 * c + i) := by rw [show (4 : Int32) * nI c = nI (4 * c) from nI_mul 4 c, nI_add]
    have q := hcn i (by omega)
    rw [f_Model_sum_5, h6, if_neg (nI_ge (by omega) (by omega)), e4, if_neg (nI_in (by omega) (by decide)), nI_clamp (n := 4 * c + i) (by omega), q.2, o_mA (csm_lt _ _) q.1, nI_1]
    exact ih g (i + 1) (by omega) (by omega)
theorem S166 (hP : P ≤ 4) (hw : w < 4) : ∀ (d fu i : Nat) (I : MI), i + d = P → d < fu → I 112 16 = nI P → ∃ I1, f_Model_sum_166 p2 p3 fu (nI w) (nI i) I J = some ((), I1, J) ∧ (∀ a, a ≠ 149 → I1 a = I a) ∧ (∀ q, I1 149 q = if 4 * w + i ≤ q ∧ q < 4 * w + P then (if q = 4 * w + w then nI 0 else nI 1) else I 149 q) := by
  intro d
  induction d with
  | zero =>
    intro fu i I h1 h2 h3
    obtain ⟨g, rfl⟩ : ∃ g, fu = g + 1 := ⟨fu - 1, by omega⟩
    refine ⟨I, ?_, fun _ _ => rfl, fun q => by rw [if_neg (by omega)]⟩
    rw [f_Model_sum_166, h3, show i = P by omega, if_pos (nI_le (by omega) (by omega))]
  | succ d ih =>
    intro fu i I h1 h2 h3
    obtain ⟨g, rfl⟩ : ∃ g, fu = g + 1 := ⟨fu - 1, by omega⟩
    have e4 : 4 * nI w + nI i = nI (4 * w + i) := by rw [show (4 : Int32) * nI w = nI (4 * w) from nI_mul 4 w, nI_add]
    have st : ∀ (x : Int32), x = (if i = w then nI 0 else nI 1) → (f_Model_sum_166 p2 p3 (g + 1) (nI w) (nI i) I J = f_Model_sum_166 p2 p3 g (nI w) (nI i + 1) (va_up I 149 (upd (I 149) (4 * w + i) x)) J) := by
      intro x hx
      rw [f_Model_sum_166, h3, if_neg (nI_ge (by omega) (by omega)), e4, pl_eq, if_neg (nI_in (by omega) (by decide)), nI_clamp (n := 4 * w + i) (by omega), pl_eq, hx]
      by_cases e : i = w
      · rw [if_pos e, if_pos (show nI i = nI w by rw [e])]
        rfl
      · rw [if_neg e, if_neg (show ¬ nI i = nI w from fun y => e ((nI_eq (by omega) (by omega)).mp y))]
        rfl
    obtain ⟨I1, s1, s2, s3⟩ := ih g (i + 1) (va_up I 149 (upd (I 149) (4 * w + i) (if i = w then nI 0 else nI 1))) (by omega) (by omega) (by rw [va_up_ne _ _ (by omega)]; exact h3)
    refine ⟨I1, ?_, fun a ha => by rw [s2 a ha, va_up_ne _ _ ha], fun q => ?_⟩
    · rw [st _ rfl, nI_1]
      exact s1
    · rw [s3 q, va_up_self]
      by_cases e : q = 4 * w + i
      · rw [if_neg (show ¬ (4 * w + (i + 1) ≤ q ∧ q < 4 * w + P) by omega), if_pos (show 4 * w + i ≤ q ∧ q < 4 * w + P by omega), e, upd_s]
        by_cases y : i = w
        · rw [if_pos y, if_pos (by omega)]
        · rw [if_neg y, if_neg (by omega)]
      · rw [upd_n _ _ e]
        by_cases y : 4 * w + i ≤ q ∧ q < 4 * w + P
        · rw [if_pos y, if_pos (by omega)]
        · rw [if_neg y, if_neg (by omega)]
theorem SUMM {I : MI} {kk nc : Nat} (hw : w < 4) (hP : P ≤ 4) (hc : c < 4000) (h6 : I 112 16 = nI P) (hcn : ∀ j, j < P → cn j < pP ∧ J 154 (4 * c + j) = lN (cn j)) (hE : ERR I J er ix kd ck ev) (hck : ck ≤ ev) (hix : ix ck = 0) (hev : ev ≤ 30001) (h135 : I 135 w = nI ev) (h136 : I 136 w = nI ck) (hkk : kk < pP ∧ J 112 18 = lN kk) (hnc : I 134 w = nI nc) : ∃ I1, (∀ {α : Type} {F : Unit → MI → MJ → Option α}, oc (f_Model_sum (nI w) (nI c) I J) F = F () I1 J) ∧ (∀ a, a ≠ 160 → a ≠ 161 → a ≠ 136 → a ≠ 134 → a ≠ 137 → a ≠ 149 → I1 a = I a) ∧ (∀ i, i ≠ w → I1 136 i = I 136 i ∧ I1 134 i = I 134 i ∧ I1 137 i = I 137 i) ∧ I1 136 w = nI ev ∧ I1 134 w = nI (nc + 1) ∧ I1 137 w = (if pM kk (wsm (lN (csm cn P)) er (ix ev)) = 0 then I 137 w else nI 1) ∧ (∀ q, I1 149 q = if (4 * w ≤ q ∧ q < 4 * w + P) ∧ pM kk (wsm (lN (csm cn P)) er (ix ev)) ≠ 0 then (if q = 4 * w + w then nI 0 else nI 1) else I 149 q) := by
  have zw := nin hw (show 4 < 2 ^ 31 by decide)
  have s5 : f_Model_sum_5 (nI w) (nI c) gF (nI w) (nI c) 0 0 I J = some (lN (csm cn P), I, J) := S5 (p2 := nI w) (p3 := nI c) (l1 := nI w) hP hc h6 hcn P gF 0 (by omega) (by unfold gF; omega)
  obtain ⟨I2, a1, a2⟩ := S50 (p2 := nI w) (p3 := nI c) (r := lN (csm cn P)) hw hE hev h135 (ev - ck) gF ck I (by omega) (by omega) (by unfold gF; omega) (fun _ _ _ => rfl)
  rw [hix] at a1
  have a1' : f_Model_sum_50 (nI w) (nI c) gF (nI w) (lN (csm cn P)) 0 0 (nI ck) I J = some (lN (wsm (lN (csm cn P)) er (ix ev)), I2, J) := a1
  obtain ⟨A0, q0, r0, s0, t0⟩ := UP1 I2 136 w (nI ev)
  obtain ⟨A1, q1, r1, s1, t1⟩ := UP1 A0 134 w (nI (nc + 1))
  have k135 : I2 135 w = nI ev := by rw [a2 135 (by decide) (by decide)]; exact h135
  have k134 : A0 134 w = nI nc := by rw [r0 134 (by decide), a2 134 (by decide) (by decide)]; exact hnc
  have pl : pM kk (wsm (lN (csm cn P)) er (ix ev)) < pP := pM_lt _ _
  have f1 : ∀ a, a ≠ 160 → a ≠ 161 → a ≠ 136 → a ≠ 134 → A1 a = I a := fun a b1 b2 b3 b4 => by rw [r1 a b4, r0 a b3, a2 a b1 b2]
  have g136 : A1 136 w = nI ev := by rw [r1 136 (by decide), s0]
  have g136' : ∀ i, i ≠ w → A1 136 i = I 136 i := fun i hi => by rw [r1 136 (by decide), t0 i hi, a2 136 (by decide) (by decide)]
  have g134' : ∀ i, i ≠ w → A1 134 i = I 134 i := fun i hi => by rw [t1 i hi, r0 134 (by decide), a2 134 (by decide) (by decide)]
  by_cases e : pM kk (wsm (lN (csm cn P)) er (ix ev)) = 0
  · refine ⟨A1, fun {α F} => ?_, fun a b1 b2 b3 b4 _ _ => f1 a b1 b2 b3 b4, fun i hi => ⟨g136' i hi, g134' i hi, by rw [f1 137 (by decide) (by decide) (by decide) (by decide)]⟩, g136, s1, by rw [if_pos e, f1 137 (by decide) (by decide) (by decide) (by decide)], fun q => by rw [if_neg (fun y => y.2 e), f1 149 (by decide) (by decide) (by decide) (by decide)]⟩
    unfold f_Model_sum
    rw [s5, oc_some, nI_clamp (n := w) (by omega), if_neg zw, pl_eq, h136, a1', oc_some, if_neg zw, if_neg zw, k135, q0, pl_eq, if_neg zw, if_neg zw, k134, nI_1, q1, pl_eq, hkk.2, oc_oc, o_mM hkk.1 (wsm_lt _ _ _), if_neg (show ¬ ¬ lg_cmp (lN (pM kk (wsm (lN (csm cn P)) er (ix ev)))) 0 = 0 from fun y => y ((lc_eq (m := 0) (lx_p pl) (by omega)).mpr e)), oc_some]
  · obtain ⟨A2, q2, r2, s2, t2⟩ := UP1 A1 137 w 1
    obtain ⟨I5, u1, u2, u3⟩ := S166 (p2 := nI w) (p3 := nI c) (J := J) hP hw P gF 0 A2 (by omega) (by unfold gF; omega) (by rw [r2 112 (by decide), f1 112 (by decide) (by decide) (by decide) (by decide)]; exact h6)
    have u1' : f_Model_sum_166 (nI w) (nI c) gF (nI w) 0 A2 J = some ((), I5, J) := u1
    refine ⟨I5, fun {α F} => ?_, fun a b1 b2 b3 b4 b5 b6 => by rw [u2 a b6, r2 a b5, f1 a b1 b2 b3 b4], fun i hi => ⟨by rw [u2 136 (by decide), r2 136 (by decide)]; exact g136' i hi, by rw [u2 134 (by decide), r2 134 (by decide)]; exact g134' i hi, by rw [u2 137 (by decide), t2 i hi, f1 137 (by decide) (by decide) (by decide) (by decide)]⟩, by rw [u2 136 (by decide), r2 136 (by decide)]; exact g136, by rw [u2 134 (by decide), r2 134 (by decide)]; exact s1, by rw [if_neg e, u2 137 (by decide), s2]; rfl, fun q => ?_⟩
    · unfold f_Model_sum
      rw [s5, oc_some, nI_clamp (n := w) (by omega), if_neg zw, pl_eq, h136, a1', oc_some, if_neg zw, if_neg zw, k135, q0, pl_eq, if_neg zw, if_neg zw, k134, nI_1, q1, pl_eq, hkk.2, oc_oc, o_mM hkk.1 (wsm_lt _ _ _), if_pos (show ¬ lg_cmp (lN (pM kk (wsm (lN (csm cn P)) er (ix ev)))) 0 = 0 from fun y => e ((lc_eq (m := 0) (lx_p pl) (by omega)).mp y)), if_neg zw, q2, pl_eq, u1', oc_some, oc_some]
    · rw [u3 q]
      by_cases y : 4 * w ≤ q ∧ q < 4 * w + P
      · rw [if_pos (show 4 * w + 0 ≤ q ∧ q < 4 * w + P from y), if_pos (show (4 * w ≤ q ∧ q < 4 * w + P) ∧ pM kk (wsm (lN (csm cn P)) er (ix ev)) ≠ 0 from ⟨y, e⟩)]
      · rw [if_neg (show ¬ (4 * w + 0 ≤ q ∧ q < 4 * w + P) from y), if_neg (show ¬ ((4 * w ≤ q ∧ q < 4 * w + P) ∧ pM kk (wsm (lN (csm cn P)) er (ix ev)) ≠ 0) from fun z => y z.1), r2 149 (by decide), f1 149 (by decide) (by decide) (by decide) (by decide)]
end SUMS
