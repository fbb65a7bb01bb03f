/-! the run: the class judges a check -/
theorem pM0 (x : Nat) : pM x 0 = 0 := by
  unfold pM
  rw [Nat.mul_zero, Nat.zero_mod]
theorem pA0 {x : Nat} (h : x < pP) : pA x 0 = x := by
  unfold pA
  rw [Nat.add_zero, Nat.mod_eq_of_lt h]
theorem dg_lt (x y : Int64) : dg_n x y < pP := Nat.mod_lt _ pP_pos
def wsm (r : Int64) (er : Nat → Nat) : Nat → Nat
  | 0 => 0
  | m + 1 => pA (wsm r er m) (pM (dg_n r (Int32.toInt64 (nI m))) (er m))
def lsm (r : Int64) (at' of' : Nat → Nat) : Nat → Nat
  | 0 => 0
  | k + 1 => pA (lsm r at' of' k) (pM (dg_n r (Int32.toInt64 (nI (at' k)))) (of' k))
def csm (f : Nat → Nat) : Nat → Nat
  | 0 => 0
  | j + 1 => pA (csm f j) (f j)
theorem wsm_lt (r : Int64) (er : Nat → Nat) : ∀ m, wsm r er m < pP
  | 0 => pP_pos
  | _ + 1 => pA_lt _ _
theorem lsm_lt (r : Int64) (a b : Nat → Nat) : ∀ m, lsm r a b m < pP
  | 0 => pP_pos
  | _ + 1 => pA_lt _ _
theorem csm_lt (f : Nat → Nat) : ∀ m, csm f m < pP
  | 0 => pP_pos
  | _ + 1 => pA_lt _ _
/-- the errors that are not zero, in their order -/
def NZ (er at' of' : Nat → Nat) : Nat → Nat → Prop
  | 0, n => n = 0
  | m + 1, n => if er m = 0 then NZ er at' of' m n else ∃ k, n = k + 1 ∧ NZ er at' of' m k ∧ at' k = m ∧ of' k = er m
theorem NZ_sum {r : Int64} {er at' of' : Nat → Nat} : ∀ m n, NZ er at' of' m n → lsm r at' of' n = wsm r er m := by
  intro m
  induction m with
  | zero =>
    intro n h
    have e : n = 0 := h
    rw [e]
    rfl
  | succ m ih =>
    intro n h
    unfold NZ at h
    by_cases x : er m = 0
    · rw [if_pos x] at h
      rw [ih n h, wsm, x, pM0, pA0 (wsm_lt _ _ _)]
    · rw [if_neg x] at h
      obtain ⟨k, k1, k2, k3, k4⟩ := h
      rw [k1, lsm, ih k k2, k3, k4, wsm]
theorem NZ_le {er at' of' : Nat → Nat} : ∀ m n, NZ er at' of' m n → n ≤ m := by
  intro m
  induction m with
  | zero =>
    intro n h
    have e : n = 0 := h
    omega
  | succ m ih =>
    intro n h
    unfold NZ at h
    by_cases x : er m = 0
    · rw [if_pos x] at h
      have := ih n h
      omega
    · rw [if_neg x] at h
      obtain ⟨k, k1, k2, k3, k4⟩ := h
      have := ih k k2
      omega
def own (s : Int64) (j : Nat) : Int64 := s + 1000003 * Int32.toInt64 (nI j + 1)
section JUDGE
variable {w P nE op : Nat} {er at' of' : Nat → Nat} {J : MJ}
theorem W8 (hP : P ≤ 4) {cc : Nat → Int32} : ∀ (d fu i : Nat) (I : MI), i + d = P → d < fu → I 14 6 = nI P → I (28 + 21 * w) = cc → ∃ I1, f_Hall_weightedErrors_8 w fu (lN (csm (fun j => dg_n (J 14 7) (Int32.toInt64 (nI j))) i)) (lN (csm (fun j => dg_n (own (J 14 7) j) (Int32.toInt64 (cc j))) i)) (nI i) I J = some ((lN (csm (fun j => dg_n (J 14 7) (Int32.toInt64 (nI j))) P), lN (csm (fun j => dg_n (own (J 14 7) j) (Int32.toInt64 (cc j))) P)), I1, J) ∧ (∀ a, a ≠ 109 → a ≠ 110 → I1 a = I a) := by
  intro d
  induction d with
  | zero =>
    intro fu i I h1 h2 h3 h4
    obtain ⟨g, rfl⟩ : ∃ g, fu = g + 1 := ⟨fu - 1, by omega⟩
    have e : i = P := by omega
    refine ⟨I, ?_, fun _ _ _ => rfl⟩
    rw [f_Hall_weightedErrors_8, h3, e, if_pos (nI_le (by omega) (by omega))]
  | succ d ih =>
    intro fu i I h1 h2 h3 h4
    obtain ⟨g, rfl⟩ : ∃ g, fu = g + 1 := ⟨fu - 1, by omega⟩
    obtain ⟨u1, d1, r1⟩ := dg_next (J 14 7) (Int32.toInt64 (nI i)) I J
    obtain ⟨u2, d2, r2⟩ := dg_next (own (J 14 7) i) (Int32.toInt64 (cc i)) (va_up (va_up I 109 u1) 110 d1) J
    have f1 : ∀ a, a ≠ 109 → a ≠ 110 → (va_up (va_up (va_up (va_up I 109 u1) 110 d1) 109 u2) 110 d2) a = I a := fun a a1 a2 => by rw [va_up_ne _ _ a2, va_up_ne _ _ a1, va_up_ne _ _ a2, va_up_ne _ _ a1]
    obtain ⟨I1, s1, s2⟩ := ih g (i + 1) (va_up (va_up (va_up (va_up I 109 u1) 110 d1) 109 u2) 110 d2) (by omega) (by omega) (by rw [f1 14 (by decide) (by decide)]; exact h3) (by rw [f1 _ (by omega) (by omega)]; exact h4)
    refine ⟨I1, ?_, fun a a1 a2 => by rw [s2 a a1 a2, f1 a a1 a2]⟩
    have e28 : (va_up (va_up I 109 u1) 110 d1) (28 + 21 * w) i = cc i := by rw [va_up_ne _ _ (by omega), va_up_ne _ _ (by omega), h4]
    rw [f_Hall_weightedErrors_8, h3, if_neg (nI_ge (by omega) (by omega)), r1, oc_some, o_qA (csm_lt _ _) (dg_lt _ _)]
    unfold f_Hall_ownSeed
    rw [oc_some, if_neg (nin (show i < 4 by omega) (by decide) ∘ (by rw [nI_clamp (n := i) (by omega)]; exact id)), nI_clamp (n := i) (by omega), e28]
    rw [show (J 14 7) + 1000003 * Int32.toInt64 (nI i + 1) = own (J 14 7) i from rfl, r2, oc_some, o_qA (csm_lt _ _) (dg_lt _ _), nI_1]
    exact s1
theorem W76 {r : Int64} {l2 : Int64} (hw : w < 4) (hn : nE ≤ 40) : ∀ (d fu i : Nat) (I : MI), i + d = nE → d < fu → I (25 + 21 * w) 3 = nI nE → (∀ k, k < nE → I (26 + 21 * w) k = nI (at' k)) → (∀ k, k < nE → of' k < pP ∧ J (27 + 21 * w) k = lN (of' k)) → ∃ I1, f_Hall_weightedErrors_76 w fu l2 r (lN (lsm r at' of' i)) (nI i) I J = some (lN (lsm r at' of' nE), I1, J) ∧ (∀ a, a ≠ 109 → a ≠ 110 → I1 a = I a) := by
  intro d
  induction d with
  | zero =>
    intro fu i I h1 h2 h3 h4 h5
    obtain ⟨g, rfl⟩ : ∃ g, fu = g + 1 := ⟨fu - 1, by omega⟩
    have e : i = nE := by omega
    refine ⟨I, ?_, fun _ _ _ => rfl⟩
    rw [f_Hall_weightedErrors_76, h3, e, if_pos (nI_le (by omega) (by omega))]
  | succ d ih =>
    intro fu i I h1 h2 h3 h4 h5
    obtain ⟨g, rfl⟩ : ∃ g, fu = g + 1 := ⟨fu - 1, by omega⟩
    obtain ⟨u1, d1, r1⟩ := dg_next r (Int32.toInt64 (nI (at' i))) I J
    have f1 : ∀ a, a ≠ 109 → a ≠ 110 → (va_up (va_up I 109 u1) 110 d1) a = I a := fun a a1 a2 => by rw [va_up_ne _ _ a2, va_up_ne _ _ a1]
    obtain ⟨I1, s1, s2⟩ := ih g (i + 1) (va_up (va_up I 109 u1) 110 d1) (by omega) (by omega) (by rw [f1 _ (by omega) (by omega)]; exact h3) (fun k hk => by rw [f1 _ (by omega) (by omega)]; exact h4 k hk) h5
    refine ⟨I1, ?_, fun a a1 a2 => by rw [s2 a a1 a2, f1 a a1 a2]⟩
    have q := h5 i (by omega)
    have zi := nin (show i < 40 by omega) (show 40 < 2 ^ 31 by decide)
    rw [f_Hall_weightedErrors_76, h3, if_neg (nI_ge (by omega) (by omega)), if_neg (show ¬ 40 ≤ nI i from nI_ge (b := 40) (by omega) (by omega)), nI_clamp (n := i) (by omega), if_neg zi, h4 i (by omega), r1, oc_some, if_neg zi, q.2, o_qM (dg_lt _ _) q.1, o_qA (lsm_lt _ _ _ _) (pM_lt _ _), nI_1]
    exact s1
theorem WEI {cc : Nat → Int32} {I : MI} (hw : w < 4) (hP : P ≤ 4) (hn : nE ≤ 40) (h6 : I 14 6 = nI P) (hc : I (28 + 21 * w) = cc) (h3 : I (25 + 21 * w) 3 = nI nE) (h4 : ∀ k, k < nE → I (26 + 21 * w) k = nI (at' k)) (h5 : ∀ k, k < nE → of' k < pP ∧ J (27 + 21 * w) k = lN (of' k)) : ∃ I1, (∀ {α : Type} {F : Int64 → MI → MJ → Option α}, oc (f_Hall_weightedErrors w I J) F = F (lN (pM (csm (fun j => dg_n (J 14 7) (Int32.toInt64 (nI j))) P) (lsm (lN (csm (fun j => dg_n (own (J 14 7) j) (Int32.toInt64 (cc j))) P)) at' of' nE))) I1 J) ∧ (∀ a, a ≠ 109 → a ≠ 110 → I1 a = I a) := by
  obtain ⟨I1, a1, a2⟩ := W8 (w := w) (J := J) hP (cc := cc) P gF 0 I (by omega) (by unfold gF; omega) h6 hc
  obtain ⟨I2, b1, b2⟩ := W76 (w := w) (J := J) (r := lN (csm (fun j => dg_n (own (J 14 7) j) (Int32.toInt64 (cc j))) P)) (l2 := lN (csm (fun j => dg_n (J 14 7) (Int32.toInt64 (nI j))) P)) (at' := at') (of' := of') hw hn nE gF 0 I1 (by omega) (by unfold gF; omega) (by rw [a2 _ (by omega) (by omega)]; exact h3) (fun k hk => by rw [a2 _ (by omega) (by omega)]; exact h4 k hk) h5
  refine ⟨I2, fun {α F} => ?_, fun a c1 c2 => by rw [b2 a c1 c2, a2 a c1 c2]⟩
  have a1' : f_Hall_weightedErrors_8 w gF 0 0 0 I J = some ((lN (csm (fun j => dg_n (J 14 7) (Int32.toInt64 (nI j))) P), lN (csm (fun j => dg_n (own (J 14 7) j) (Int32.toInt64 (cc j))) P)), I1, J) := a1
  have b1' : f_Hall_weightedErrors_76 w gF (lN (csm (fun j => dg_n (J 14 7) (Int32.toInt64 (nI j))) P)) (lN (csm (fun j => dg_n (own (J 14 7) j) (Int32.toInt64 (cc j))) P)) 0 0 I1 J = some (lN (lsm (lN (csm (fun j => dg_n (own (J 14 7) j) (Int32.toInt64 (cc j))) P)) at' of' nE), I2, J) := b1
  unfold f_Hall_weightedErrors
  rw [a1', oc_some, b1', oc_some, oc_oc, o_qM (csm_lt _ _) (lsm_lt _ _ _ _), oc_some]
theorem J57 (hP : P ≤ 4) (hw : w < 4) : ∀ (d fu i : Nat) (I : MI), i + d = P → d < fu → I 14 6 = nI P → I (18 + 21 * w) 0 = nI w → ∃ I1, f_Hall_judge_57 w fu (nI i) I J = some ((), I1, J) ∧ (∀ a, a ≠ 34 + 21 * w → I1 a = I a) ∧ (∀ j, I1 (34 + 21 * w) j = if i ≤ j ∧ j < P then (if j = w then nI 0 else nI 1) else I (34 + 21 * w) j) := by
  intro d
  induction d with
  | zero =>
    intro fu i I h1 h2 h3 h4
    obtain ⟨g, rfl⟩ : ∃ g, fu = g + 1 := ⟨fu - 1, by omega⟩
    refine ⟨I, ?_, fun _ _ => rfl, fun j => by rw [if_neg (by omega)]⟩
    rw [f_Hall_judge_57, h3, show i = P by omega, if_pos (nI_le (by omega) (by omega))]
  | succ d ih =>
    intro fu i I h1 h2 h3 h4
    obtain ⟨g, rfl⟩ : ∃ g, fu = g + 1 := ⟨fu - 1, by omega⟩
    have zi := nin (show i < 4 by omega) (show 4 < 2 ^ 31 by decide)
    have st : ∀ (x : Int32), x = (if i = w then nI 0 else nI 1) → (f_Hall_judge_57 w (g + 1) (nI i) I J = f_Hall_judge_57 w g (nI i + 1) (va_up I (34 + 21 * w) (upd (I (34 + 21 * w)) i x)) J) := by
      intro x hx
      rw [f_Hall_judge_57, h3, if_neg (nI_ge (by omega) (by omega)), h4, pl_eq, nI_clamp (n := i) (by omega), if_neg zi, pl_eq, hx]
      by_cases e : i = w
      · rw [if_pos e, if_pos (show nI i = nI w by rw [e])]
        rfl
      · rw [if_neg e, if_neg (show ¬ nI i = nI w from fun y => e ((nI_eq (by omega) (by omega)).mp y))]
        rfl
    obtain ⟨I1, s1, s2, s3⟩ := ih g (i + 1) (va_up I (34 + 21 * w) (upd (I (34 + 21 * w)) i (if i = w then nI 0 else nI 1))) (by omega) (by omega) (by rw [va_up_ne _ _ (by omega)]; exact h3) (by rw [va_up_ne _ _ (by omega)]; exact h4)
    refine ⟨I1, ?_, fun a ha => by rw [s2 a ha, va_up_ne _ _ ha], fun j => ?_⟩
    · rw [st _ rfl, nI_1]
      exact s1
    · rw [s3 j, va_up_self]
      by_cases e : j = i
      · rw [if_neg (show ¬ (i + 1 ≤ j ∧ j < P) by omega), if_pos (show i ≤ j ∧ j < P by omega), e, upd_s]
      · rw [upd_n _ _ e]
        by_cases y : i ≤ j ∧ j < P
        · rw [if_pos y, if_pos (by omega)]
        · rw [if_neg y, if_neg (by omega)]
/-- what a check weighs -/
def wgt (s : Int64) (P : Nat) (cc : Nat → Int32) (er : Nat → Nat) (op : Nat) : Nat := pM (csm (fun j => dg_n s (Int32.toInt64 (nI j))) P) (wsm (lN (csm (fun j => dg_n (own s j) (Int32.toInt64 (cc j))) P)) er op)
theorem JUDC {cc : Nat → Int32} {I : MI} (hw : w < 4) (hP : P ≤ 4) (hn : nE ≤ 40) (h6 : I 14 6 = nI P) (hx : I (18 + 21 * w) 0 = nI w) (hc : I (28 + 21 * w) = cc) (h3 : I (25 + 21 * w) 3 = nI nE) (h4 : ∀ k, k < nE → I (26 + 21 * w) k = nI (at' k)) (h5 : ∀ k, k < nE → of' k < pP ∧ J (27 + 21 * w) k = lN (of' k)) (hz : NZ er at' of' op nE) : ∃ I1, (∀ {α : Type} {F : Int32 → MI → MJ → Option α}, oc (f_Hall_judge w I J) F = F (nI (if wgt (J 14 7) P cc er op = 0 then 1 else 3)) I1 J) ∧ (∀ a, a ≠ 109 → a ≠ 110 → a ≠ 18 + 21 * w → a ≠ 25 + 21 * w → a ≠ 34 + 21 * w → I1 a = I a) ∧ (∀ j, j ≠ 10 → j ≠ 11 → I1 (18 + 21 * w) j = I (18 + 21 * w) j) ∧ I1 (18 + 21 * w) 10 = (if wgt (J 14 7) P cc er op = 0 then I (18 + 21 * w) 10 else nI 3) ∧ I1 (18 + 21 * w) 11 = (if wgt (J 14 7) P cc er op = 0 then I (18 + 21 * w) 11 else nI 1) ∧ (∀ j, j ≠ 3 → j ≠ 4 → j ≠ 5 → I1 (25 + 21 * w) j = I (25 + 21 * w) j) ∧ I1 (25 + 21 * w) 3 = nI 0 ∧ I1 (25 + 21 * w) 4 = nI 0 ∧ I1 (25 + 21 * w) 5 = I (25 + 21 * w) 5 + 1 ∧ (∀ j, I1 (34 + 21 * w) j = if j < P ∧ wgt (J 14 7) P cc er op ≠ 0 then (if j = w then nI 0 else nI 1) else I (34 + 21 * w) j) := by
  have hs := NZ_sum (r := lN (csm (fun j => dg_n (own (J 14 7) j) (Int32.toInt64 (cc j))) P)) op nE hz
  have wl : wgt (J 14 7) P cc er op < pP := pM_lt _ _
  have c1 : ∃ I1, (∀ {α : Type} {F : Int64 → MI → MJ → Option α}, oc ((if (I (25 + 21 * w) 3) ≤ 0 then (some (0, I, J)) else (oc (f_Hall_weightedErrors w I J) (fun v4 I4 J4 => some (v4, I4, J4)))) : M2 (Int64)) F = F (lN (wgt (J 14 7) P cc er op)) I1 J) ∧ (∀ a, a ≠ 109 → a ≠ 110 → I1 a = I a) := by
    by_cases e : nE = 0
    · refine ⟨I, fun {α F} => ?_, fun _ _ _ => rfl⟩
      have z : wgt (J 14 7) P cc er op = 0 := by
        unfold wgt
        rw [← hs, e, lsm, pM0]
      rw [h3, e, if_pos (show nI 0 ≤ 0 by decide), oc_some, z]
      rfl
    · obtain ⟨I1, a1, a2⟩ := WEI hw hP hn h6 hc h3 h4 h5
      refine ⟨I1, fun {α F} => ?_, a2⟩
      rw [h3, if_neg (show ¬ nI nE ≤ 0 from nI_ge (a := 0) (by omega) (by omega)), oc_oc, a1, oc_some, hs]
      rfl
  obtain ⟨I1, a1, a2⟩ := c1
  obtain ⟨A0, q0, r0, s0, t0⟩ := UP1 I1 (25 + 21 * w) 5 (I1 (25 + 21 * w) 5 + 1)
  obtain ⟨A1, q1, r1, s1, t1⟩ := UP1 A0 (25 + 21 * w) 3 0
  obtain ⟨A2, q2, r2, s2, t2⟩ := UP1 A1 (25 + 21 * w) 4 0
  have f25 : ∀ a, a ≠ 109 → a ≠ 110 → a ≠ 25 + 21 * w → A2 a = I a := fun a b1 b2 b3 => by rw [r2 a b3, r1 a b3, r0 a b3, a2 a b1 b2]
  have g25 : ∀ j, j ≠ 3 → j ≠ 4 → j ≠ 5 → A2 (25 + 21 * w) j = I (25 + 21 * w) j := fun j j1 j2 j3 => by rw [t2 j j2, t1 j j1, t0 j j3, a2 (25 + 21 * w) (by omega) (by omega)]
  have k3 : A2 (25 + 21 * w) 3 = nI 0 := by rw [t2 3 (by decide), s1]; rfl
  have k4 : A2 (25 + 21 * w) 4 = nI 0 := by rw [s2]; rfl
  have k5 : A2 (25 + 21 * w) 5 = I (25 + 21 * w) 5 + 1 := by rw [t2 5 (by decide), t1 5 (by decide), s0, a2 (25 + 21 * w) (by omega) (by omega)]
  by_cases e : wgt (J 14 7) P cc er op = 0
  · refine ⟨A2, fun {α F} => ?_, fun a b1 b2 _ b3 _ => f25 a b1 b2 b3, fun j _ _ => by rw [f25 (18 + 21 * w) (by omega) (by omega) (by omega)], by rw [if_pos e, f25 (18 + 21 * w) (by omega) (by omega) (by omega)], by rw [if_pos e, f25 (18 + 21 * w) (by omega) (by omega) (by omega)], g25, k3, k4, k5, fun j => by rw [if_neg (fun y => y.2 e), f25 (34 + 21 * w) (by omega) (by omega) (by omega)]⟩
    unfold f_Hall_judge f_Check_forget
    rw [oc_oc, a1, pl_eq, q0, oc_oc, pl_eq, q1, pl_eq, q2, oc_some, if_neg (show ¬ ¬ lg_cmp (lN (wgt (J 14 7) P cc er op)) 0 = 0 from fun y => y ((lc_eq (m := 0) (lx_p wl) (by omega)).mpr e)), oc_some, if_pos e]
    rfl
  · obtain ⟨A3, q3, r3, s3, t3⟩ := UP1 A2 (18 + 21 * w) 10 3
    obtain ⟨A4, q4, r4, s4, t4⟩ := UP1 A3 (18 + 21 * w) 11 1
    have f18 : ∀ a, a ≠ 18 + 21 * w → A4 a = A2 a := fun a ha => by rw [r4 a ha, r3 a ha]
    obtain ⟨I5, u1, u2, u3⟩ := J57 (J := J) hP hw P gF 0 A4 (by omega) (by unfold gF; omega) (by rw [f18 14 (by omega), f25 14 (by omega) (by omega) (by omega)]; exact h6) (by rw [t4 0 (by decide), t3 0 (by decide), f25 (18 + 21 * w) (by omega) (by omega) (by omega)]; exact hx)
    have u1' : f_Hall_judge_57 w gF 0 A4 J = some ((), I5, J) := u1
    have e25 : I5 (25 + 21 * w) = A2 (25 + 21 * w) := by rw [u2 (25 + 21 * w) (by omega), f18 (25 + 21 * w) (by omega)]
    refine ⟨I5, fun {α F} => ?_, fun a b1 b2 b0 b3 b4 => by rw [u2 a b4, f18 a b0, f25 a b1 b2 b3], fun j j1 j2 => by rw [u2 (18 + 21 * w) (by omega), t4 j j2, t3 j j1, f25 (18 + 21 * w) (by omega) (by omega) (by omega)], ?_, ?_, by rw [e25]; exact g25, by rw [e25]; exact k3, by rw [e25]; exact k4, by rw [e25]; exact k5, fun j => ?_⟩
    · unfold f_Hall_judge f_Check_forget
      rw [oc_oc, a1, pl_eq, q0, oc_oc, pl_eq, q1, pl_eq, q2, oc_some, if_pos (show ¬ lg_cmp (lN (wgt (J 14 7) P cc er op)) 0 = 0 from fun y => e ((lc_eq (m := 0) (lx_p wl) (by omega)).mp y)), pl_eq, q3, pl_eq, q4, u1', oc_some, oc_some, if_neg e]
      rfl
    · rw [if_neg e, u2 (18 + 21 * w) (by omega), t4 10 (by decide), s3]
      rfl
    · rw [if_neg e, u2 (18 + 21 * w) (by omega), s4]
      rfl
    · rw [u3 j]
      by_cases y : j < P
      · rw [if_pos (show 0 ≤ j ∧ j < P from ⟨by omega, y⟩), if_pos (show j < P ∧ wgt (J 14 7) P cc er op ≠ 0 from ⟨y, e⟩)]
      · rw [if_neg (show ¬ (0 ≤ j ∧ j < P) from fun z => y z.2), if_neg (show ¬ (j < P ∧ wgt (J 14 7) P cc er op ≠ 0) from fun z => y z.1), f18 (34 + 21 * w) (by omega), f25 (34 + 21 * w) (by omega) (by omega) (by omega)]
end JUDGE
