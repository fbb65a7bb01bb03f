/-! the run: errors gathered and noted, in the class -/
abbrev NS4 : Type := Nat × (Nat → Nat) × (Nat → Nat) × Nat
def nt1 (v : Nat) (s : NS4) : NS4 := if v = 0 then (s.1, s.2.1, s.2.2.1, s.2.2.2 + 1) else (s.1 + 1, apn s.2.1 s.1 s.2.2.2, apn s.2.2.1 s.1 v, s.2.2.2 + 1)
def nts (e : Nat → Nat) : Nat → Nat → NS4 → NS4
  | 0, _, s => s
  | d + 1, k, s => nts e d (k + 1) (nt1 (e k) s)
theorem nt1_mono (v : Nat) (s : NS4) : s.1 ≤ (nt1 v s).1 ∧ (nt1 v s).2.2.2 = s.2.2.2 + 1 := by
  unfold nt1
  by_cases h : v = 0
  · rw [if_pos h]
    exact ⟨Nat.le_refl _, rfl⟩
  · rw [if_neg h]
    exact ⟨Nat.le_succ _, rfl⟩
theorem nts_mono (e : Nat → Nat) : ∀ (d k : Nat) (s : NS4), s.1 ≤ (nts e d k s).1 ∧ (nts e d k s).2.2.2 = s.2.2.2 + d := by
  intro d
  induction d with
  | zero => intro k s; exact ⟨Nat.le_refl _, rfl⟩
  | succ d ih =>
    intro k s
    obtain ⟨a, b⟩ := ih (k + 1) (nt1 (e k) s)
    obtain ⟨c, f⟩ := nt1_mono (e k) s
    rw [nts]
    exact ⟨Nat.le_trans c a, by rw [b, f]; omega⟩
def CK (I : MI) (J : MJ) (w : Nat) (s : NS4) : Prop := (I (25 + 21 * w) 3 = nI s.1 ∧ s.1 ≤ 40) ∧ (I (25 + 21 * w) 4 = nI s.2.2.2 ∧ s.2.2.2 < 2 ^ 30) ∧ ∀ i, i < s.1 → s.2.1 i < 2 ^ 30 ∧ I (26 + 21 * w) i = nI (s.2.1 i) ∧ s.2.2.1 i < pP ∧ J (27 + 21 * w) i = lN (s.2.2.1 i)
section ERR
variable {P NT w : Nat} {tp ts tk tb : Nat → Nat} {I I' : MI} {J J' : MJ}
theorem TAM_fr {I1 : MI} {J1 : MJ} (h : TAM I I' J J' P NT tp ts tk tb) (e1 : I1 103 = I 103) (e2 : I1 104 = I 104) (e3 : I1 105 = I 105) (e4 : I1 106 = I 106) (e5 : J1 107 = J 107) : TAM I1 I' J1 J' P NT tp ts tk tb := by
  unfold TAM
  rw [e1, e2, e3, e4, e5]
  exact h
def FC (w : Nat) (I I1 : MI) (J J1 : MJ) : Prop := (∀ a, a ≠ 25 + 21 * w → a ≠ 26 + 21 * w → I1 a = I a) ∧ (∀ j, j ≠ 3 → j ≠ 4 → I1 (25 + 21 * w) j = I (25 + 21 * w) j) ∧ (∀ a, a ≠ 111 → a ≠ 27 + 21 * w → J1 a = J a)
theorem FC.tr {I1 I2 : MI} {J1 J2 : MJ} (h : FC w I I1 J J1) (k : FC w I1 I2 J1 J2) : FC w I I2 J J2 := ⟨fun a a1 a2 => (k.1 a a1 a2).trans (h.1 a a1 a2), fun j j1 j2 => (k.2.1 j j1 j2).trans (h.2.1 j j1 j2), fun a a1 a2 => (k.2.2 a a1 a2).trans (h.2.2 a a1 a2)⟩
theorem NOT1 {v : Nat} {s : NS4} (hw4 : w < 4) (hc : CK I J w s) (hv : v < pP) (hcap : (nt1 v s).1 ≤ 40) (hcap2 : s.2.2.2 + 1 < 2 ^ 30) : ∃ I1 J1, (∀ {α : Type} {F : Unit → MI → MJ → Option α}, oc (f_Check_note w (lN v) I J) F = F () I1 J1) ∧ CK I1 J1 w (nt1 v s) ∧ FC w I I1 J J1 ∧ J1 111 = J 111 := by
  obtain ⟨⟨h1, h2⟩, ⟨h3, h4⟩, h5⟩ := hc
  unfold nt1 at hcap ⊢
  by_cases c : v = 0
  · rw [if_pos c]
    refine ⟨va_up I (25 + 21 * w) (upd (I (25 + 21 * w)) 4 (nI (s.2.2.2 + 1))), J, ?_, ⟨⟨?_, h2⟩, ⟨?_, hcap2⟩, fun i hi => ?_⟩, ⟨fun a a1 a2 => va_up_ne _ _ a1, fun j j1 j2 => by rw [va_up_self, upd_n _ _ j2], fun _ _ _ => rfl⟩, rfl⟩
    · intro α F
      unfold f_Check_note
      rw [if_pos (show lg_cmp (lN v) 0 = 0 by rw [c]; decide), oc_some, pl_eq, oc_some, h3, nI_1]
    · rw [va_up_self, upd_n _ _ (by decide)]
      exact h1
    · rw [va_up_self, upd_s]
    · rw [va_up_ne _ _ (by omega)]
      exact h5 i hi
  · rw [if_neg c] at hcap ⊢
    have hcap : s.1 + 1 ≤ 40 := hcap
    refine ⟨va_up (va_up I (26 + 21 * w) (upd (I (26 + 21 * w)) s.1 (nI s.2.2.2))) (25 + 21 * w) (upd (upd (I (25 + 21 * w)) 3 (nI (s.1 + 1))) 4 (nI (s.2.2.2 + 1))), va_up J (27 + 21 * w) (vp_updL (J (27 + 21 * w)) s.1 (lN v)), ?_, ⟨⟨?_, hcap⟩, ⟨?_, hcap2⟩, fun i hi => ?_⟩, ⟨fun a a1 a2 => by rw [va_up_ne _ _ a1, va_up_ne _ _ a2], fun j j1 j2 => by rw [va_up_self, upd_n _ _ j2, upd_n _ _ j1], fun a a1 a2 => va_up_ne _ _ a2⟩, va_up_ne _ _ (by omega)⟩
    · intro α F
      unfold f_Check_note
      have z0 : ¬ nI s.1 < 0 := fun x => nI_in (show s.1 < 40 by omega) (by decide) (Or.inl x)
      rw [if_neg (show ¬ lg_cmp (lN v) 0 = 0 from fun x => c ((lc_eq (m := 0) (lx_p hv) (by omega)).mp x)), h1, if_neg z0, if_neg (nI_ge (by omega) (by omega)), if_neg (nI_ge (by omega) (by omega)), if_neg (nI_in (by omega) (by decide)), nI_clamp (by omega), pl_eq, va_up_ne _ _ (show 25 + 21 * w ≠ 26 + 21 * w by omega), h1, if_neg (nI_in (by omega) (by decide)), nI_clamp (by omega), pl_eq, pl_eq, oc_some, pl_eq, oc_some, nI_1, va_up_self, upd_n _ _ (show 4 ≠ 3 by decide), va_up_up, h3, nI_1]
    · rw [va_up_self, upd_n _ _ (by decide), upd_s]
    · rw [va_up_self, upd_s]
    · rw [va_up_ne _ _ (by omega), va_up_self, va_up_self]
      show apn s.2.1 s.1 s.2.2.2 i < 2 ^ 30 ∧ _ = nI (apn s.2.1 s.1 s.2.2.2 i) ∧ apn s.2.2.1 s.1 v i < pP ∧ _ = lN (apn s.2.2.1 s.1 v i)
      by_cases e : i = s.1
      · subst e
        rw [upd_s, apn_s, updL_s, apn_s]
        exact ⟨h4, rfl, hv, rfl⟩
      · rw [upd_n _ _ e, apn_n _ _ e, updL_n _ _ e, apn_n _ _ e]
        exact h5 i (by have hi : i < s.1 + 1 := hi; omega)
theorem G12 {p3 p4 v : Int32} {sd : Nat → Bool} {pl : Nat → Nat} {nu : Nat} (hw4 : w < 4) (hP : P ≤ 4) (hnu : nu ≤ 32) (hv : HF v sd) (al : Bool) (hal : (v = m1 ∧ al = true) ∨ (¬ v = m1 ∧ al = false)) : ∀ (d fu k : Nat) (s : NS4) (I : MI) (J : MJ), k + d = nu → d < fu → TAM I I' J J' P NT tp ts tk tb → I 14 6 = nI P → (∀ j, j < P → pl j < 2 ^ 31 ∧ I (36 + 21 * w) j = nI (pl j)) → CK I J w s → (al = true → (nts (eE NT tp ts tk tb sd pl) d k s).1 ≤ 40 ∧ s.2.2.2 + d < 2 ^ 30) → ∃ I1 J1, f_Hall_gatherErrors_12 w p3 p4 fu v (nI nu) (nI k) I J = some ((), I1, J1) ∧ CK I1 J1 w (if al = true then nts (eE NT tp ts tk tb sd pl) d k s else s) ∧ (∀ j, k ≤ j → j < nu → J1 111 j = lN (eE NT tp ts tk tb sd pl j)) ∧ (∀ j, j < k → J1 111 j = J 111 j) ∧ FC w I I1 J J1 := by
  intro d
  induction d with
  | zero =>
    intro fu k s I J h1 h2 hT h6 hpl hc hcap
    obtain ⟨g, rfl⟩ : ∃ g, fu = g + 1 := ⟨fu - 1, by omega⟩
    refine ⟨I, J, ?_, ?_, fun j a b => by omega, fun _ _ => rfl, ⟨fun _ _ _ => rfl, fun _ _ _ => rfl, fun _ _ _ => rfl⟩⟩
    · rw [f_Hall_gatherErrors_12, if_pos (nI_le (by omega) (by omega))]
    · have : (if al = true then nts (eE NT tp ts tk tb sd pl) 0 k s else s) = s := by
        cases al <;> rfl
      rw [this]
      exact hc
  | succ d ih =>
    intro fu k s I J h1 h2 hT h6 hpl hc hcap
    obtain ⟨g, rfl⟩ : ∃ g, fu = g + 1 := ⟨fu - 1, by omega⟩
    have htp : ∀ t, t < NT → tp t < P := fun t ht => (hT.2.2.2 t ht).1.1
    have g34 := G34 (w := w) (p3 := p3) (p4 := p4) (l3 := nI nu) hT hP hv h6 (k := k) (by omega) hpl P gF 0 0 (by omega) (gF_lt (by omega)) pP_pos
    rw [Nat.zero_add, eE_x htp] at g34
    have g34' : f_Hall_gatherErrors_34 w p3 p4 gF v (nI nu) (nI k) 0 0 I J = some (lN (eE NT tp ts tk tb sd pl k), I, J) := g34
    have hc2 : CK I (va_up J 111 (vp_updL (J 111) k (lN (eE NT tp ts tk tb sd pl k)))) w s := by
      obtain ⟨q1, q2, q3⟩ := hc
      refine ⟨q1, q2, fun i hi => ?_⟩
      rw [va_up_ne _ _ (by omega)]
      exact q3 i hi
    have hT2 : TAM I I' (va_up J 111 (vp_updL (J 111) k (lN (eE NT tp ts tk tb sd pl k)))) J' P NT tp ts tk tb := TAM_fr hT rfl rfl rfl rfl (va_up_ne _ _ (by decide))
    have f0 : FC w I I J (va_up J 111 (vp_updL (J 111) k (lN (eE NT tp ts tk tb sd pl k)))) := ⟨fun _ _ _ => rfl, fun _ _ _ => rfl, fun a a1 _ => va_up_ne _ _ a1⟩
    have head : f_Hall_gatherErrors_12 w p3 p4 (g + 1) v (nI nu) (nI k) I J = if ¬ v = m1 then f_Hall_gatherErrors_12 w p3 p4 g v (nI nu) (nI (k + 1)) I (va_up J 111 (vp_updL (J 111) k (lN (eE NT tp ts tk tb sd pl k)))) else oc (f_Check_note w (lN (eE NT tp ts tk tb sd pl k)) I (va_up J 111 (vp_updL (J 111) k (lN (eE NT tp ts tk tb sd pl k))))) (fun v16 I16 J16 => f_Hall_gatherErrors_12 w p3 p4 g v (nI nu) (nI (k + 1)) I16 J16) := by
      rw [f_Hall_gatherErrors_12, if_neg (nI_ge (by omega) (by omega)), if_neg (nI_ge (by omega) (by omega)), g34', oc_some, if_neg (nI_in (by omega) (by decide)), pl_eq, nI_clamp (by omega), nI_1]
      rfl
    rcases hal with ⟨e1, e2⟩ | ⟨e1, e2⟩
    · subst e2
      obtain ⟨hcap1, hcap2⟩ := hcap rfl
      rw [nts] at hcap1
      have mono := (nts_mono (eE NT tp ts tk tb sd pl) d (k + 1) (nt1 (eE NT tp ts tk tb sd pl k) s)).1
      obtain ⟨I2, J2, n1, n2, n3, n4⟩ := NOT1 hw4 hc2 (v := eE NT tp ts tk tb sd pl k) eE_lt (by omega) (by omega)
      obtain ⟨I1, J1, r1, r2, r3, r4, r5⟩ := ih g (k + 1) (nt1 (eE NT tp ts tk tb sd pl k) s) I2 J2 (by omega) (by omega) (TAM_fr hT2 (n3.1 _ (by omega) (by omega)) (n3.1 _ (by omega) (by omega)) (n3.1 _ (by omega) (by omega)) (n3.1 _ (by omega) (by omega)) (n3.2.2 _ (by omega) (by omega))) (by rw [n3.1 _ (by omega) (by omega)]; exact h6) (fun j hj => by rw [n3.1 _ (by omega) (by omega)]; exact hpl j hj) n2 (fun _ => ⟨hcap1, by rw [(nt1_mono _ _).2]; omega⟩)
      refine ⟨I1, J1, ?_, r2, fun j j1 j2 => ?_, fun j hj => ?_, f0.tr (n3.tr r5)⟩
      · rw [head, if_neg (fun x => x e1), n1]
        exact r1
      · by_cases x : j = k
        · subst x
          rw [r4 j (by omega), n4, va_up_self, updL_s]
        · exact r3 j (by omega) j2
      · rw [r4 j (by omega), n4, va_up_self, updL_n _ _ (by omega)]
    · subst e2
      obtain ⟨I1, J1, r1, r2, r3, r4, r5⟩ := ih g (k + 1) s I _ (by omega) (by omega) hT2 h6 hpl hc2 (fun x => by cases x)
      refine ⟨I1, J1, ?_, r2, fun j j1 j2 => ?_, fun j hj => ?_, f0.tr r5⟩
      · rw [head, if_pos e1]
        exact r1
      · by_cases x : j = k
        · subst x
          rw [r4 j (by omega), va_up_self, updL_s]
        · exact r3 j (by omega) j2
      · rw [r4 j (by omega), va_up_self, updL_n _ _ (by omega)]
theorem G115 {p3 p4 v : Int32} {sd : Nat → Bool} (hP : P ≤ 4) (hv : HF v sd) : ∀ (d fu i : Nat) (I : MI), i + d = P → d < fu → I 14 6 = nI P → ∃ I1, f_Hall_gatherErrors_115 w p3 p4 fu v (nI i) I J = some ((), I1, J) ∧ (∀ a, a ≠ 36 + 21 * w → I1 a = I a) ∧ (∀ j, I1 (36 + 21 * w) j = if i ≤ j ∧ j < P ∧ sd j = true then I (36 + 21 * w) j + 1 else I (36 + 21 * w) j) := by
  intro d
  induction d with
  | zero =>
    intro fu i I h1 h2 h6
    obtain ⟨g, rfl⟩ : ∃ g, fu = g + 1 := ⟨fu - 1, by omega⟩
    refine ⟨I, ?_, fun _ _ => rfl, fun j => by rw [if_neg (fun x => by omega)]⟩
    rw [f_Hall_gatherErrors_115, h6, if_pos (nI_le (by omega) (by omega))]
  | succ d ih =>
    intro fu i I h1 h2 h6
    obtain ⟨g, rfl⟩ : ∃ g, fu = g + 1 := ⟨fu - 1, by omega⟩
    by_cases s : sd i = true
    · obtain ⟨I1, r1, r2, r3⟩ := ih g (i + 1) (va_up I (36 + 21 * w) (upd (I (36 + 21 * w)) i (I (36 + 21 * w) i + 1))) (by omega) (by omega) (by rw [va_up_ne _ _ (by omega)]; exact h6)
      refine ⟨I1, ?_, fun a ha => by rw [r2 a ha, va_up_ne _ _ ha], fun j => ?_⟩
      · rw [f_Hall_gatherErrors_115, h6, if_neg (nI_ge (by omega) (by omega)), HF_ite hv (by omega), if_pos s, if_neg (nI_in (by omega) (by decide)), if_neg (nI_in (by omega) (by decide)), nI_clamp (by omega), pl_eq, nI_1]
        exact r1
      · rw [r3 j, va_up_self]
        by_cases y : j = i
        · subst y
          rw [if_neg (fun x => by omega), upd_s, if_pos ⟨Nat.le_refl _, by omega, s⟩]
        · rw [upd_n _ _ y]
          by_cases x : i + 1 ≤ j ∧ j < P ∧ sd j = true
          · rw [if_pos x, if_pos ⟨by omega, x.2⟩]
          · rw [if_neg x, if_neg (fun z => x ⟨by omega, z.2⟩)]
    · obtain ⟨I1, r1, r2, r3⟩ := ih g (i + 1) I (by omega) (by omega) h6
      refine ⟨I1, ?_, r2, fun j => ?_⟩
      · rw [f_Hall_gatherErrors_115, h6, if_neg (nI_ge (by omega) (by omega)), HF_ite hv (by omega), if_neg s, nI_1]
        exact r1
      · rw [r3 j]
        by_cases y : j = i
        · subst y
          rw [if_neg (fun x => by omega), if_neg (fun x => s x.2.2)]
        · by_cases x : i + 1 ≤ j ∧ j < P ∧ sd j = true
          · rw [if_pos x, if_pos ⟨by omega, x.2⟩]
          · rw [if_neg x, if_neg (fun z => x ⟨by omega, z.2⟩)]
/-- errors gathered -/
theorem GTH {v : Int32} {sd : Nat → Bool} {pl : Nat → Nat} {nu : Nat} {s : NS4} (hw4 : w < 4) (hP : P ≤ 4) (hnu : nu ≤ 32) (hv : HF v sd) (al : Bool) (hal : (v = m1 ∧ al = true) ∨ (¬ v = m1 ∧ al = false)) (hT : TAM I I' J J' P NT tp ts tk tb) (h6 : I 14 6 = nI P) (hpl : ∀ j, j < P → pl j < 2 ^ 31 ∧ I (36 + 21 * w) j = nI (pl j)) (hc : CK I J w s) (hcap : al = true → (nts (eE NT tp ts tk tb sd pl) nu 0 s).1 ≤ 40 ∧ s.2.2.2 + nu < 2 ^ 30) : ∃ I1 J1, (∀ {α : Type} {F : Unit → MI → MJ → Option α}, oc (f_Hall_gatherErrors w v (nI nu) I J) F = F () I1 J1) ∧ CK I1 J1 w (if al = true then nts (eE NT tp ts tk tb sd pl) nu 0 s else s) ∧ (∀ j, j < nu → J1 111 j = lN (eE NT tp ts tk tb sd pl j)) ∧ (∀ j, j < P → I1 (36 + 21 * w) j = nI (if sd j = true then pl j + 1 else pl j)) ∧ (∀ a, a ≠ 25 + 21 * w → a ≠ 26 + 21 * w → a ≠ 36 + 21 * w → I1 a = I a) ∧ (∀ j, j ≠ 3 → j ≠ 4 → I1 (25 + 21 * w) j = I (25 + 21 * w) j) ∧ (∀ a, a ≠ 111 → a ≠ 27 + 21 * w → J1 a = J a) := by
  obtain ⟨I2, J2, r1, r2, r3, r4, r5⟩ := G12 (p3 := v) (p4 := nI nu) hw4 hP hnu hv al hal nu gF 0 s I J (by omega) (gF_lt (by omega)) hT h6 hpl hc hcap
  have r1' : f_Hall_gatherErrors_12 w v (nI nu) gF v (nI nu) 0 I J = some ((), I2, J2) := r1
  obtain ⟨I1, q1, q2, q3⟩ := G115 (w := w) (J := J2) (p3 := v) (p4 := nI nu) hP hv P gF 0 I2 (by omega) (gF_lt (by omega)) (by rw [r5.1 _ (by omega) (by omega)]; exact h6)
  have q1' : f_Hall_gatherErrors_115 w v (nI nu) gF v 0 I2 J2 = some ((), I1, J2) := q1
  refine ⟨I1, J2, ?_, ?_, fun j hj => r3 j (Nat.zero_le _) hj, fun j hj => ?_, fun a a1 a2 a3 => by rw [q2 a a3, r5.1 a a1 a2], fun j j1 j2 => by rw [q2 _ (by omega), r5.2.1 j j1 j2], r5.2.2⟩
  · intro α F
    unfold f_Hall_gatherErrors
    rw [r1', oc_some, q1', oc_some, oc_some]
  · unfold CK
    rw [q2 _ (by omega), q2 _ (by omega)]
    exact r2
  · rw [q3 j, r5.1 _ (by omega) (by omega), (hpl j hj).2]
    by_cases x : sd j = true
    · rw [if_pos ⟨Nat.zero_le _, hj, x⟩, if_pos x, nI_1]
    · rw [if_neg (fun z => x z.2.2), if_neg x]
end ERR
