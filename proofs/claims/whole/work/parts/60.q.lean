/-! run, step and deliver while a run goes, of the class and of the reference -/
section RUNS
variable {cd : Nat → Nat} {sd : Int64} {V c0 : Nat → Nat → Nat} {P n B a b : Nat} {st : Nat → Bool} {hg : Nat → Nat}
theorem ROUNDS {p2 l2 : Int32} {N : Nat} (hN : N ≤ 2000) (hS : ST cd st hg n P B c0) : ∀ (d r fu fv f : Nat) (m2 : Int32) (S : Nat → Nat → Nat) (X : MX) (I I' : MI) (J J' : MJ), f ≤ 1 → RU cd st hg n P B sd V c0 S X I J I' J' → r + d = N → d < fu → d < fv → ∃ k S1 X1 I1 J1 I1' J1', f_Sh_run_41 p2 fu (nI N) l2 (nI f) (nI r) X I J = some ((), X1, I1, J1) ∧ f_Model_run_33 p2 fv (nI N) m2 (nI f) (nI r) I' J' = some (m2 + nI k, I1', J1') ∧ RU cd st hg n P B sd V c0 S1 X1 I1 J1 I1' J1' ∧ S1 20 0 = S 20 0 + k ∧ XR X X1 ∧ CFG I I1 J J1 ∧ RTG I' I1' J' J1'
  | 0, r, fu, fv, f, m2, S, X, I, I', J, J', hf, hR, hi, hfu, hfv => by
    obtain ⟨fu', rfl⟩ : ∃ k, fu = k + 1 := ⟨fu - 1, by omega⟩
    obtain ⟨fv', rfl⟩ : ∃ k, fv = k + 1 := ⟨fv - 1, by omega⟩
    refine ⟨0, S, X, I, J, I', J', ?_, ?_, hR, rfl, XR.rfl, CFG.rfl, RTG.rfl⟩
    · show (if nI N ≤ nI r then _ else _) = _
      rw [if_pos ((nI_leI (by omega) (by omega)).mpr (by omega))]
    · show (if nI N ≤ nI r then _ else _) = _
      rw [if_pos ((nI_leI (by omega) (by omega)).mpr (by omega)), show m2 + nI 0 = m2 from Int32.add_zero m2]
  | d + 1, r, fu, fv, f, m2, S, X, I, I', J, J', hf, hR, hi, hfu, hfv => by
    obtain ⟨fu', rfl⟩ : ∃ k, fu = k + 1 := ⟨fu - 1, by omega⟩
    obtain ⟨fv', rfl⟩ : ∃ k, fv = k + 1 := ⟨fv - 1, by omega⟩
    have nr : ¬ nI N ≤ nI r := fun z => by
      have := (nI_leI (a := N) (b := r) (by omega) (by omega)).mp z
      omega
    by_cases h0 : f = 0
    · refine ⟨0, S, X, I, J, I', J', ?_, ?_, hR, rfl, XR.rfl, CFG.rfl, RTG.rfl⟩
      · show (if nI N ≤ nI r then _ else _) = _
        rw [if_neg nr, h0, if_pos (show nI 0 = 0 from rfl)]
      · show (if nI N ≤ nI r then _ else _) = _
        rw [if_neg nr, h0, if_pos (show nI 0 = 0 from rfl), show m2 + nI 0 = m2 from Int32.add_zero m2]
    · have hP := hS.2.1.2
      have nf : ¬ nI f = 0 := by
        rw [show f = 1 by omega]
        decide
      have gf := gF_lt (k := 100) (by omega)
      have m10 := hR.1.1.2.2.2.1
      obtain ⟨k, S1, X1, I1, J1, I1', J1', x1, x2, x3, x4, x5, x6, x7⟩ := PARTS (p2 := p2) (l1 := nI N) (l2 := l2) (l4 := nI r) (l5 := nI (S 20 0)) (m1 := nI N) (m4 := nI r) hS P 0 gF gF 0 m2 S X I I' J J' (by decide) hR (by omega) (by omega) (by omega)
      obtain ⟨g, S2, I2, I2', J2', g1, y1, y2, y3, y4, y5, y6⟩ := ALL4 (p2 := p2) (l1 := nI N) (l2 := m2 + nI k) (l4 := nI r) hS P 0 gF gF 0 (nI (if k = 0 then 0 else 1)) S1 I1 I1' J1' x3 (by omega) (by omega) (by omega)
      have sa1 := x3.2.2.2.2.1.2.1
      have m10' := y3.1.1.2.2.2.1
      obtain ⟨k', S3, X3, I3, J3, I3', J3', z1, z2, z3, z4, z5, z6, z7⟩ := ROUNDS (p2 := p2) (l2 := l2) hN hS d (r + 1) fu' fv' (if g = 1 then 1 else if k = 0 then 0 else 1) (m2 + nI k) S2 X1 I2 I2' J1 J2' (by split; omega; split <;> omega) y3 (by omega) (by omega) (by omega)
      have e20 : S2 20 0 = S 20 0 + k := by rw [y4, x4]
      refine ⟨k + k', S3, X3, I3, J3, I3', J3', ?_, ?_, z3, by omega, XR.tr x5 z5, CFG.tr x6 (CFG.tr y5 z6), RTG.tr x7 (RTG.tr y6 z7)⟩
      · show (if nI N ≤ nI r then _ else _) = _
        rw [if_neg nr, if_neg nf, m10, pl_eq]
        show ob (f_Sh_run_63 p2 gF (nI N) l2 (nI r) (nI (S 20 0)) (nI 0) X I J) _ = _
        rw [x1]
        show oc (oc (f_Hall_bringAll_4 gF 0 (nI 0) I1 J1) (fun u8 I8 J8 => if u8 = 0 ∨ u8 = 1 then some (u8, I8, J8) else none)) _ = _
        rw [y1, oc_some]
        have hv : (if g = 1 then (1 : Int32) else 0) = nI g := by
          rcases (show g = 0 ∨ g = 1 by omega) with t | t <;> (rw [t]; rfl)
        rw [hv, if_pos (show nI g = 0 ∨ nI g = 1 by
          rcases (show g = 0 ∨ g = 1 by omega) with t | t
          · rw [t]
            exact Or.inl rfl
          · rw [t]
            exact Or.inr rfl), oc_some, m10', e20]
        have hv2 : (if ¬ nI g = 0 then (1 : Int32) else (if nI (S 20 0 + k) ≤ nI (S 20 0) then 0 else 1)) = nI (if g = 1 then 1 else if k = 0 then 0 else 1) := by
          rcases (show g = 0 ∨ g = 1 by omega) with t | t
          · rw [t, if_neg (show ¬ ¬ nI 0 = 0 from fun z => z rfl), if_neg (show ¬ 0 = 1 by decide)]
            by_cases t2 : k = 0
            · rw [if_pos t2, if_pos ((nI_leI (by omega) (by omega)).mpr (by omega))]
              rfl
            · rw [if_neg t2, if_neg (fun z => by
                have := (nI_leI (a := S 20 0 + k) (b := S 20 0) (by omega) (by omega)).mp z
                omega)]
              rfl
          · rw [t, if_pos (show ¬ nI 1 = 0 by decide), if_pos rfl]
            rfl
        rw [hv2, pl_eq, nI_1]
        exact z1
      · show (if nI N ≤ nI r then _ else _) = _
        rw [if_neg nr, if_neg nf]
        show oc (f_Model_run_48 p2 gF (nI N) m2 (nI 0) (nI r) (nI 0) I' J') _ = _
        rw [x2, oc_some]
        show oc (f_Model_run_115 p2 gF (nI N) (m2 + nI k) (nI (if k = 0 then 0 else 1)) (nI r) (nI (4 * 0)) I1' J1') _ = _
        rw [y2, oc_some, nI_1]
        have hv3 : (if g = 1 then (1 : Int32) else nI (if k = 0 then 0 else 1)) = nI (if g = 1 then 1 else if k = 0 then 0 else 1) := by
          by_cases t : g = 1
          · rw [if_pos t, if_pos t]
            rfl
          · rw [if_neg t, if_neg t]
        rw [hv3]
        show f_Model_run_33 p2 fv' (nI N) (m2 + nI k) _ (nI (r + 1)) I2' J2' = _
        rw [z2, Int32.add_assoc, nI_add]
/-- who it is, or nobody -/
def TH0 (I : MI) (v : Int32) : MI := va_up I 112 (upd (I 112) 0 v)
theorem MM_th {S : Nat → Nat → Nat} {I : MI} {J : MJ} {v : Int32} (hM : MM cd st hg n P B sd V c0 S I J) : MM cd st hg n P B sd V c0 S (TH0 I v) J := MM_86 (v := v) hM (fun a ha => va_up_ne _ _ ha) (fun j _ j0 => by
  show va_up I 112 (upd (I 112) 0 v) 112 j = _
  rw [va_up_self, upd_n _ _ j0])
/-- the reference's memory but for what was thrown -/
def RTH (I I1 : MI) (J J1 : MJ) : Prop := (∀ a, a < 118 ∨ 155 < a → a ≠ 112 → a ≠ 160 → a ≠ 161 → I1 a = I a) ∧ (∀ j, j ≠ 0 → j ≠ 60 → j ≠ 86 → j ≠ 35 → I1 112 j = I 112 j) ∧ (∀ a, a < 143 ∨ 155 < a → J1 a = J a)
theorem RTH.rfl {I : MI} {J : MJ} : RTH I I J J := ⟨fun _ _ _ _ _ => Eq.refl _, fun _ _ _ _ _ => Eq.refl _, fun _ _ => Eq.refl _⟩
theorem RTH.tr {I I1 I2 : MI} {J J1 J2 : MJ} (h : RTH I I1 J J1) (k : RTH I1 I2 J1 J2) : RTH I I2 J J2 := ⟨fun a a1 a2 a3 a4 => (k.1 a a1 a2 a3 a4).trans (h.1 a a1 a2 a3 a4), fun j j0 j1 j2 j3 => (k.2.1 j j0 j1 j2 j3).trans (h.2.1 j j0 j1 j2 j3), fun a a1 => (k.2.2 a a1).trans (h.2.2 a a1)⟩
theorem RTG.h {I I1 : MI} {J J1 : MJ} (h : RTG I I1 J J1) : RTH I I1 J J1 := ⟨h.1, fun j _ j1 j2 j3 => h.2.1 j j1 j2 j3, h.2.2⟩
theorem RTH.th {I : MI} {J : MJ} {v : Int32} : RTH I (TH0 I v) J J := ⟨fun a _ a2 _ _ => va_up_ne _ _ a2, fun j j0 _ _ _ => by
  show va_up I 112 (upd (I 112) 0 v) 112 j = _
  rw [va_up_self, upd_n _ _ j0], fun _ _ => Eq.refl _⟩
theorem TH_0 {I : MI} {v : Int32} : TH0 I v 112 0 = v := by
  show va_up I 112 (upd (I 112) 0 v) 112 0 = _
  rw [va_up_self, upd_s]
theorem TH_n {I : MI} {v : Int32} {j : Nat} (h : j ≠ 0) : TH0 I v 112 j = I 112 j := by
  show va_up I 112 (upd (I 112) 0 v) 112 j = _
  rw [va_up_self, upd_n _ _ h]
theorem TAM_th {S : Nat → Nat → Nat} {I I' : MI} {J J' : MJ} {v : Int32} {NT : Nat} {tp ts tk tb : Nat → Nat} (h : TAM I I' J J' P NT tp ts tk tb) : TAM I (TH0 I' v) J J' P NT tp ts tk tb := TAM_f2 h (TH_n (by decide)) (va_up_ne _ _ (by decide)) (va_up_ne _ _ (by decide)) (va_up_ne _ _ (by decide)) rfl
theorem RU_th {S : Nat → Nat → Nat} {X : MX} {I I' : MI} {J J' : MJ} {v : Int32} (h : RU cd st hg n P B sd V c0 S X I J I' J') : RU cd st hg n P B sd V c0 S X I J (TH0 I' v) J' := ⟨h.1, MM_th h.2.1, TAM_th (S := S) h.2.2.1, h.2.2.2⟩
/-- a call that may throw, where both agree: the class's answer or exception, the reference's answer and what it tells -/
def AGR (cd : Nat → Nat) (st : Nat → Bool) (hg : Nat → Nat) (n P B : Nat) (sd : Int64) (V c0 : Nat → Nat → Nat) (S : Nat → Nat → Nat) (X : MX) (I : MI) (J : MJ) (I' : MI) (J' : MJ) (r : MR (Int32 ⊕ Nat)) (q : M2 Int32) (hk : List (Int32 × Nat)) : Prop := (∃ e t v I1', am_hand e hk = some t ∧ ¬ t = 0 ∧ r = some (.inr e, X, I, J) ∧ q = some (v, I1', J') ∧ I1' 112 0 = t ∧ RU cd st hg n P B sd V c0 S X I J I1' J' ∧ RTH I' I1' J' J') ∨ (∃ v S1 X1 I1 J1 I1' J1', r = some (.inl v, X1, I1, J1) ∧ q = some (v, I1', J1') ∧ I1' 112 0 = 0 ∧ RU cd st hg n P B sd V c0 S1 X1 I1 J1 I1' J1' ∧ XR X X1 ∧ CFG I I1 J J1 ∧ RTH I' I1' J' J1')
theorem p12000 (p : Int32) : p < 1 ∨ 2000 < p ∨ ∃ N, 1 ≤ N ∧ N ≤ 2000 ∧ p = nI N := by
  rcases nI_of3 p with h | ⟨j, hj, e⟩
  · exact Or.inl (Int32.lt_trans h (by decide))
  · by_cases y : j = 0
    · rw [e, y]
      exact Or.inl (by decide)
    · by_cases z : j ≤ 2000
      · exact Or.inr (Or.inr ⟨j, by omega, z, e⟩)
      · refine Or.inr (Or.inl ?_)
        rw [e]
        exact (nI_ltI (a := 2000) (b := j) (by omega) hj).mpr (by omega)
theorem runOK {S : Nat → Nat → Nat} {X : MX} {I I' : MI} {J J' : MJ} (p2 : Int32) (hS : ST cd st hg n P B c0) (hR : RU cd st hg n P B sd V c0 S X I J I' J') : AGR cd st hg n P B sd V c0 S X I J I' J' (f_Sh_run p2 X I J) (f_Model_run p2 I' J') [(1, 0)] := by
  have bad : (p2 < 1 ∨ 2000 < p2) → AGR cd st hg n P B sd V c0 S X I J I' J' (f_Sh_run p2 X I J) (f_Model_run p2 I' J') [(1, 0)] := fun h => by
    refine Or.inl ⟨0, 1, 0, TH0 I' 1, rfl, by decide, ?_, ?_, TH_0, RU_th hR, RTH.th⟩
    · unfold f_Sh_run
      by_cases y : p2 < 1
      · rw [if_pos y]
      · rw [if_neg y, if_neg (fun z => by
          rcases h with h | h
          · exact y h
          · exact Int32.lt_irrefl (Int32.lt_of_lt_of_le h z))]
    · unfold f_Model_run
      by_cases y : p2 < 1
      · rw [if_pos y, RAI]
        rfl
      · rw [if_neg y, if_neg (fun z => by
          rcases h with h | h
          · exact y h
          · exact Int32.lt_irrefl (Int32.lt_of_lt_of_le h z)), RAI]
        rfl
  rcases p12000 p2 with h | h | ⟨N, h1, h2, rfl⟩
  · exact bad (Or.inl h)
  · exact bad (Or.inr h)
  · have n1 : ¬ nI N < 1 := fun z => by
      have := (nI_ltI (a := N) (b := 1) (by omega) (by omega)).mp z
      omega
    have n2 : nI N ≤ 2000 := by
      exact (nI_leI (a := N) (b := 2000) (by omega) (by omega)).mpr h2
    have gf := gF_lt (k := 3000) (by omega)
    have m9 := hR.1.1.2.2.1
    have m10 := hR.1.1.2.2.2.1
    have m34 := hR.2.1.1.2.2.1
    obtain ⟨k, S1, X1, I1, J1, I1', J1', x1, x2, x3, x4, x5, x6, x7⟩ := ROUNDS (p2 := nI N) (l2 := nI (S 20 0)) h2 hS N 0 gF gF 1 0 S X I (TH0 I' 0) J J' (by decide) (RU_th hR) (by omega) (by omega) (by omega)
    have m10' := x3.1.1.2.2.2.1
    refine Or.inr ⟨nI k, S1, X1, I1, J1, I1', J1', ?_, ?_, ?_, x3, x5, x6, RTH.tr RTH.th (RTG.h x7)⟩
    · unfold f_Sh_run
      rw [if_neg n1, if_pos n2, m10, pl_eq, m9, pl_eq]
      show ob (f_Sh_run_41 _ gF (nI N) (nI (S 20 0)) (nI 1) (nI 0) X I J) _ = _
      rw [x1]
      show some (Sum.inl (I1 14 10 - nI (S 20 0)), X1, I1, J1) = _
      rw [m10', x4, nI_sb (by omega), show S 20 0 + k - S 20 0 = k by omega]
    · unfold f_Model_run
      rw [if_neg n1, if_pos n2, pl_eq]
      show pl (TH0 I' 0 112 34) (fun x5 => oc (f_Model_run_33 (nI N) gF (nI N) 0 x5 0 (TH0 I' 0) J') _) = _
      rw [TH_n (by decide), m34, pl_eq]
      show oc (f_Model_run_33 _ gF (nI N) 0 (nI 1) (nI 0) (TH0 I' 0) J') _ = _
      rw [x2, oc_some, show (0 : Int32) + nI k = nI k from Int32.zero_add _]
    · rw [x7.2.1 0 (by decide) (by decide) (by decide)]
      exact TH_0
theorem stpOK {S : Nat → Nat → Nat} {X : MX} {I I' : MI} {J J' : MJ} (p2 : Int32) (hS : ST cd st hg n P B c0) (hR : RU cd st hg n P B sd V c0 S X I J I' J') : AGR cd st hg n P B sd V c0 S X I J I' J' (f_Sh_step p2 X I J) (f_Model_step p2 I' J') [(1, 1), (2, 2)] := by
  have hP := hS.2.1.2
  have m6 := hR.1.1.1
  have m16 := hR.2.1.1.1
  have m10 := hR.1.1.2.2.2.1
  have m35 := hR.2.1.1.2.2.2.1
  have m9 := hR.1.1.2.2.1
  have sa := hR.2.2.2.2.1.2.1
  rcases PTY p2 hP with ⟨w, hw, e⟩ | h
  · by_cases h3 : S 20 0 = 30000
    · refine Or.inl ⟨2, 2, 0, TH0 I' 2, rfl, by decide, ?_, ?_, TH_0, RU_th hR, RTH.th⟩
      · unfold f_Sh_step
        rw [e, HAS1 hP m6 hw, if_pos (show ¬ nI 1 = 0 by decide), m10, h3, if_neg (by decide)]
      · unfold f_Model_step
        rw [e, ISP1 hP m16 hw, if_pos (show ¬ nI 1 = 0 by decide), m35, h3, if_neg (fun z => z rfl)]
        unfold f_Model_raise
        rfl
    · obtain ⟨a, d, S1, X1, I1, J1, I1', J1', x1, x2, x3, x4, x5, x6, x7, x8, x9⟩ := stepOK hS (RU_th (v := 0) hR) hw (by omega)
      refine Or.inr ⟨nI a, S1, X1, I1, J1, I1', J1', ?_, ?_, ?_, x3, x4, x8, RTH.tr RTH.th (RTG.h x9)⟩
      · unfold f_Sh_step
        rw [e, HAS1 hP m6 hw, if_pos (show ¬ nI 1 = 0 by decide), m10, if_pos (show nI (S 20 0) < 30000 from (nI_ltI (a := S 20 0) (b := 30000) (by omega) (by omega)).mpr (by omega)), m9, if_neg (show ¬ nI 1 = 0 by decide), nI_clamp (n := w) (by omega), if_neg (nin (show w < 4 by omega) (by decide)), x1]
        rfl
      · unfold f_Model_step
        rw [e, ISP1 hP m16 hw, if_pos (show ¬ nI 1 = 0 by decide), m35, if_pos (show ¬ nI (S 20 0) = 30000 from fun z => h3 ((nI_eq (a := S 20 0) (b := 30000) (by omega) (by omega)).mp z)), pl_eq]
        show oc (f_Model_stepOf (nI w) (TH0 I' 0) J') _ = _
        rw [x2, oc_some]
      · rw [x9.2.1 0 (by decide) (by decide) (by decide)]
        exact TH_0
  · refine Or.inl ⟨1, 1, 0, TH0 I' 1, rfl, by decide, ?_, ?_, TH_0, RU_th hR, RTH.th⟩
    · unfold f_Sh_step
      rw [HAS0 m6 h, if_neg (fun z => z rfl)]
    · unfold f_Model_step
      rw [ISP0 m16 h, if_neg (fun z => z rfl), RAI]
      rfl
/-- a call that throws nothing -/
def AGN (cd : Nat → Nat) (st : Nat → Bool) (hg : Nat → Nat) (n P B : Nat) (sd : Int64) (V c0 : Nat → Nat → Nat) (X : MX) (I : MI) (J : MJ) (I' : MI) (J' : MJ) (r q : M2 Int32) : Prop := ∃ v S1 I1 I1' J1', r = some (v, I1, J) ∧ q = some (v, I1', J1') ∧ RU cd st hg n P B sd V c0 S1 X I1 J I1' J1' ∧ CFG I I1 J J ∧ RTH I' I1' J' J1'
theorem dlvOK {S : Nat → Nat → Nat} {X : MX} {I I' : MI} {J J' : MJ} (p2 p3 : Int32) (hS : ST cd st hg n P B c0) (hR : RU cd st hg n P B sd V c0 S X I J I' J') : AGN cd st hg n P B sd V c0 X I J I' J' (f_Sh_deliver p2 p3 I J) (f_Model_deliver p2 p3 I' J') := by
  have hP := hS.2.1.2
  have m6 := hR.1.1.1
  have m16 := hR.2.1.1.1
  have m9 := hR.1.1.2.2.1
  have m34 := hR.2.1.1.2.2.1
  have t16 : TH0 I' 0 112 16 = nI P := by rw [TH_n (by decide)]; exact m16
  have t34 : ¬ TH0 I' 0 112 34 = 0 := by
    rw [TH_n (by decide), m34]
    decide
  have no : ∀ {F : Int32 → MI → MJ → Option (Int32 × MI × MJ)}, (∃ v, f_Sh_deliver p2 p3 I J = some (v, I, J) ∧ f_Model_deliver p2 p3 I' J' = some (v, TH0 I' 0, J')) → AGN cd st hg n P B sd V c0 X I J I' J' (f_Sh_deliver p2 p3 I J) (f_Model_deliver p2 p3 I' J') := fun ⟨v, h1, h2⟩ => ⟨v, S, I, TH0 I' 0, J', h1, h2, RU_th hR, CFG.rfl, RTH.th⟩
  have M1 : f_Model_deliver p2 p3 I' J' = (oc (f_Model_isParty p2 (TH0 I' 0) J') (fun v3 I3 J3 => if v3 = 0 then (some (0, I3, J3)) else (oc (f_Model_isParty p3 I3 J3) (fun v5 I5 J5 => if v5 = 0 then (some (0, I5, J5)) else (if p2 = p3 then (some (0, I5, J5)) else (oc (f_Model_brings p2 p3 I5 J5) (fun v8 I8 J8 => if v8 = 0 then (some (0, I8, J8)) else (some (1, I8, J8))))))))) := by
    show (if TH0 I' 0 112 34 = 0 then _ else _) = _
    rw [if_neg t34]
    rfl
  have M0 : f_Sh_deliver p2 p3 I J = (oc (f_Hall_bring p2 p3 I J) (fun v2 I2 J2 => if v2 = 0 then (some (0, I2, J2)) else (some (1, I2, J2)))) := by
    unfold f_Sh_deliver
    rw [m9, if_neg (show ¬ nI 1 = 0 by decide)]
  rcases PTY p2 hP with ⟨a, ha, ea⟩ | h
  · rcases PTY p3 hP with ⟨b, hb, eb⟩ | h
    · by_cases e : a = b
      · refine no (F := fun _ _ _ => none) ⟨0, ?_, ?_⟩
        · obtain ⟨x1, -⟩ := bring0 hS hR ha hb (by
            rw [← e]
            exact ⟨hR.2.2.2.1.2.2.2.1 a ha, (hR.2.2.2.2.2 a ha).2.1⟩)
          rw [M0, ea, eb, x1, if_pos (show nI 0 = 0 from rfl)]
        · rw [M1, ea, eb, ISP1 hP t16 ha, if_neg (show ¬ nI 1 = 0 by decide), ISP1 hP t16 hb, if_neg (show ¬ nI 1 = 0 by decide), e, if_pos rfl]
      · obtain ⟨v, S1, I1, I1', J1', v1, x1, x2, x3, x4, x5, x6, x7, x8⟩ := bringOK hS (RU_th (v := 0) hR) ha hb
        have hv : v = 0 ∨ v = 1 := by omega
        refine ⟨nI v, S1, I1, I1', J1', ?_, ?_, x3, x5, RTH.tr RTH.th (RTG.h x6)⟩
        · rw [M0, ea, eb, x1]
          rcases hv with t | t <;> (rw [t]; rfl)
        · rw [M1, ea, eb, ISP1 hP t16 ha, if_neg (show ¬ nI 1 = 0 by decide), ISP1 hP t16 hb, if_neg (show ¬ nI 1 = 0 by decide), if_neg (fun z => e ((nI_eq (by omega) (by omega)).mp z)), x2]
          rcases hv with t | t <;> (rw [t]; rfl)
    · refine no (F := fun _ _ _ => none) ⟨0, ?_, ?_⟩
      · rw [M0, ea]
        unfold f_Hall_bring
        rw [oc_oc, HAS1 hP m6 ha, if_neg (show ¬ nI 1 = 0 by decide), oc_oc, HAS0 m6 h]
        rfl
      · rw [M1, ea, ISP1 hP t16 ha, if_neg (show ¬ nI 1 = 0 by decide), ISP0 t16 h, if_pos (show nI 0 = 0 from rfl)]
  · refine no (F := fun _ _ _ => none) ⟨0, ?_, ?_⟩
    · rw [M0]
      unfold f_Hall_bring
      rw [oc_oc, HAS0 m6 h]
      rfl
    · rw [M1, ISP0 t16 h, if_pos (show nI 0 = 0 from rfl)]
end RUNS
