/-! the run: arrays and places in the reference -/
section OPS
variable {cd va sk kp e : Nat → Nat} {n P w h nk pos : Nat} {st : Nat → Bool} {hg : Nat → Nat} {I : MI} {J : MJ}
theorem mNXT (hw : w < 4) (hr : ∀ k, k < n → I 114 k = nI (cd k)) (hn : n ≤ 2000) (hp : I 127 w = nI pos) (hpn : pos < n) (hop : cd pos ≤ 29) {α : Type} {F : Unit → MI → MJ → Option α} : oc (f_Model_next (nI w) I J) F = F () (va_up (va_up I 127 (upd (I 127) w (nI (pos + opl (cd pos))))) 128 (upd (I 128) w 0)) J := by
  unfold f_Model_next
  have z := nin hw (show 4 < 2 ^ 31 by decide)
  rw [nI_clamp (n := w) (by omega), if_neg z, if_neg z, hp, if_neg (nI_in (by omega) (by decide)), nI_clamp (n := pos) (by omega), hr pos hpn, oc_oc, m_len hop, oc_some, if_neg z, pl_eq, nI_add, if_neg z, pl_eq, oc_some, va_up_ne _ _ (show 128 ≠ 127 by decide)]
theorem mGOL (hr : ∀ k, k < n → I 114 k = nI (cd k)) (hn : n ≤ 2000) (hj : isj (cd pos)) (hl : pos + opl (cd pos) ≤ n) (hb : ∀ k, k < n → cd k < 256) {α : Type} {F : Int32 → MI → MJ → Option α} : oc (f_Model_goalOf 114 2400 (nI pos) I J) F = F (nI (tgt cd pos)) I J := by
  have ol := opl_1 (show cd pos ≤ 29 by omega)
  have g2 : ∀ a, a + 1 < n → (256 : Int32) * I 114 a + I 114 (a + 1) = nI (256 * cd a + cd (a + 1)) := fun a ha => by
    rw [hr a (by omega), hr (a + 1) ha, show (256 : Int32) * nI (cd a) = nI (256 * cd a) from nI_mul 256 _, nI_add]
  have a1 : nI pos + 1 = nI (pos + 1) := nI_1 pos
  have a2 : nI pos + 2 = nI (pos + 2) := nI_add pos 2
  have a3 : nI pos + 3 = nI (pos + 3) := nI_add pos 3
  unfold f_Model_goalOf tgt
  rw [if_neg (nI_in (by omega) (by decide)), nI_clamp (n := pos) (by omega), hr pos (by omega)]
  by_cases x : cd pos = 17
  · rw [x, show opl 17 = 4 from rfl] at hl
    rw [if_neg (show ¬ ¬ nI (cd pos) = 17 from fun y => y (by rw [x]; rfl)), if_pos x, a2, a3, if_neg (nI_in (by omega) (by decide)), if_neg (nI_in (by omega) (by decide)), nI_clamp (by omega), nI_clamp (by omega), oc_some, g2 (pos + 2) (by omega)]
  · have hl3 : pos + 3 ≤ n := by
      rcases hj with y | y | y
      · exact absurd y x
      · rw [y, show opl 18 = 3 from rfl] at hl
        exact hl
      · rw [y, show opl 28 = 3 from rfl] at hl
        exact hl
    rw [if_pos (show ¬ nI (cd pos) = 17 from fun y => x ((nI_eq (b := 17) (by omega) (by omega)).mp y)), if_neg x, a1, a2, if_neg (nI_in (by omega) (by decide)), if_neg (nI_in (by omega) (by decide)), nI_clamp (by omega), nI_clamp (by omega), oc_some, g2 (pos + 1) (by omega)]
theorem mROW {a : Nat} {α : Type} {F : Int32 → MI → MJ → Option α} : oc (f_Model_row (nI w) (nI a) I J) F = F (nI (154 * w + 26 + 16 * a)) I J := by
  unfold f_Model_row
  rw [oc_some, n154', show nI (154 * w) + 26 = nI (154 * w + 26) from nI_add _ 26, show (16 : Int32) * nI a = nI (16 * a) from nI_mul 16 a, nI_add]
/-- one number of a pair, with its error where it is shared -/
theorem mJP {v3 : Int32} {a i k : Nat} (hw : w < 4) (ha : a < 8) (hi : i < 16) (hk : k < 32) (hv : RV I J w h sk va nk kp) {y : Int32} (hy : y = nI k) (he : (v3 = nI 0 ∧ ∀ k, k < 32 → e k = 0) ∨ (v3 = nI 1 ∧ ∀ k, k < 32 → e k < pP ∧ ∀ {α : Type} {F : Int64 → MI → MJ → Option α} (Jx : MJ), Jx 159 = J 159 → oc (f_Model_error (I 135 w) (nI k) I Jx) F = F (lN (e k)) I Jx)) {α : Type} {F : Int64 → MI → MJ → Option α} : oc ((if v3 = 0 then (if (nI (154 * w + 26 + 16 * a) + nI i) < 0 ∨ 616 ≤ Int32.toNatClampNeg (nI (154 * w + 26 + 16 * a) + nI i) then none else (some (J 143 (Int32.toNatClampNeg (nI (154 * w + 26 + 16 * a) + nI i)), I, J))) else (if (nI (154 * w + 26 + 16 * a) + nI i) < 0 ∨ 616 ≤ Int32.toNatClampNeg (nI (154 * w + 26 + 16 * a) + nI i) then none else (if nI w < 0 ∨ 4 ≤ Int32.toNatClampNeg (nI w) then none else (oc (f_Model_error (I 135 (Int32.toNatClampNeg (nI w))) y I J) (fun v24 I24 J24 => oc (f_Model_plus (J 143 (Int32.toNatClampNeg (nI (154 * w + 26 + 16 * a) + nI i))) v24 I24 J24) (fun v25 I25 J25 => some (v25, I25, J25))))))) : M2 (Int64)) F = F (lN (pA (va (26 + 16 * a + i)) (e k))) I J := by
  subst hy
  have vx := RV_va hv (show 26 + 16 * a + i < 154 by omega)
  have rd := RV_rd hv (show 26 + 16 * a + i < 154 by omega)
  rw [show 154 * w + (26 + 16 * a + i) = 154 * w + 26 + 16 * a + i by omega] at rd
  rw [nI_add, nI_clamp (n := 154 * w + 26 + 16 * a + i) (by omega), rd]
  rcases he with ⟨h1, h2⟩ | ⟨h1, h2⟩
  · rw [h1, if_pos (show nI 0 = 0 from rfl), if_neg (nin (by omega) (by decide)), oc_some, h2 k hk, pA_0 vx]
  · obtain ⟨b1, b2⟩ := h2 k hk
    rw [h1, if_neg (show ¬ nI 1 = 0 by decide), if_neg (nin (by omega) (by decide)), if_neg (nI_in hw (by decide)), nI_clamp (n := w) (by omega), oc_oc, b2 J rfl, oc_oc, o_mA vx b1, oc_some]
theorem aop23 (x y : Nat) : aop 23 x y = pA x y := by unfold aop; rw [if_pos (Or.inr rfl)]
theorem aop24 (x y : Nat) : aop 24 x y = pS x y := by unfold aop; rw [if_neg (by decide), if_pos (Or.inr rfl)]
theorem aop25 (x y : Nat) : aop 25 x y = pM x y := by unfold aop; rw [if_neg (by decide), if_neg (by decide)]
theorem mJAV {p2 p3 v3 : Int32} {A B C c : Nat} (hw : w < 4) (hn : n ≤ 2000) (hc : c = 23 ∨ c = 24 ∨ c = 25) (hA : A < 8) (hB : B < 8) (hC : C < 8) (hpA : pos + 1 < n) (hcA : cd (pos + 1) = A) (hr : ∀ k, k < n → I 114 k = nI (cd k)) : ∀ (d fu i s : Nat) (va : Nat → Nat) (J : MJ), i + d = 16 → d < fu → s < pP → RV I J w h sk va nk kp → ((v3 = nI 0 ∧ ∀ k, k < 32 → e k = 0) ∨ (v3 = nI 1 ∧ ∀ k, k < 32 → e k < pP ∧ ∀ {α : Type} {F : Int64 → MI → MJ → Option α} (Jx : MJ), Jx 159 = J 159 → oc (f_Model_error (I 135 w) (nI k) I Jx) F = F (lN (e k)) I Jx)) → ∃ J1 s1, f_Model_rows_130 p2 p3 fu (nI w) (nI pos) (nI c) v3 (nI (154 * w + 26 + 16 * B)) (nI (154 * w + 26 + 16 * C)) (lN s) (nI i) I J = some (lN s1, I, J1) ∧ RV I J1 w h sk (ajv (aop c) (fun i => e (2 * i)) (fun i => e (2 * i + 1)) A B C d i va) nk kp ∧ FN w I I J J1 := by
  intro d
  induction d with
  | zero =>
    intro fu i s va J h1 h2 h3 hv he
    obtain ⟨g, rfl⟩ : ∃ g, fu = g + 1 := ⟨fu - 1, by omega⟩
    refine ⟨J, s, ?_, hv, FN.rfl⟩
    rw [f_Model_rows_130, if_pos (show 16 ≤ nI i from nI_le (a := 16) (by omega) (by omega))]
  | succ d ih =>
    intro fu i s va J h1 h2 h3 hv he
    obtain ⟨g, rfl⟩ : ∃ g, fu = g + 1 := ⟨fu - 1, by omega⟩
    have e2 : (2 : Int32) * nI i = nI (2 * i) := nI_mul 2 i
    have e3 : (2 : Int32) * nI i + 1 = nI (2 * i + 1) := by rw [e2, nI_1]
    have hval : ∀ {x y : Nat}, x < pP → y < pP → ∀ {α : Type} {F : Int64 → MI → MJ → Option α}, oc ((if ¬ nI c = 23 then (if ¬ nI c = 24 then (oc (f_Model_times (lN x) (lN y) I J) (fun v41 I41 J41 => some (v41, I41, J41))) else (oc (f_Model_minus (lN x) (lN y) I J) (fun v42 I42 J42 => some (v42, I42, J42)))) else (oc (f_Model_plus (lN x) (lN y) I J) (fun v43 I43 J43 => some (v43, I43, J43)))) : M2 (Int64)) F = F (lN (aop c x y)) I J := by
      intro x y hx hy α F
      rcases hc with rfl | rfl | rfl
      · rw [if_neg (show ¬ ¬ nI 23 = 23 from fun x => x rfl), oc_oc, o_mA hx hy, oc_some, aop23]
      · rw [if_pos (show ¬ nI 24 = 23 by decide), if_neg (show ¬ ¬ nI 24 = 24 from fun x => x rfl), oc_oc, o_mS hx hy, oc_some, aop24]
      · rw [if_pos (show ¬ nI 25 = 23 by decide), if_pos (show ¬ nI 25 = 24 by decide), oc_oc, o_mM hx hy, oc_some, aop25]
    obtain ⟨w1, w2⟩ := mWRV hv (k := 26 + 16 * A + i) (v := aop c (pA (va (26 + 16 * B + i)) (e (2 * i))) (pA (va (26 + 16 * C + i)) (e (2 * i + 1)))) (by omega) (aop_lt _ _ _)
    have hJ : (va_up J 143 (vp_updL (J 143) (154 * w + (26 + 16 * A + i)) (lN (aop c (pA (va (26 + 16 * B + i)) (e (2 * i))) (pA (va (26 + 16 * C + i)) (e (2 * i + 1))))))) 159 = J 159 := va_up_ne _ _ (by decide)
    obtain ⟨J1, s1, r1, r2, r3⟩ := ih g (i + 1) (pA s (aop c (pA (va (26 + 16 * B + i)) (e (2 * i))) (pA (va (26 + 16 * C + i)) (e (2 * i + 1))))) _ _ (by omega) (by omega) (pA_lt _ _) w1 (by
      rcases he with he | ⟨y1, y2⟩
      · exact Or.inl he
      · exact Or.inr ⟨y1, fun k hk => ⟨(y2 k hk).1, fun Jx hx => (y2 k hk).2 Jx (hx.trans hJ)⟩⟩)
    refine ⟨J1, s1, ?_, r2, w2.tr r3⟩
    have hc26 : ¬ nI c = 26 := fun x => by have := (nI_eq (b := 26) (by omega) (by omega)).mp x; omega
    rw [f_Model_rows_130, if_neg (show ¬ 16 ≤ nI i from nI_ge (b := 16) (by omega) (by omega)), mJP (k := 2 * i) hw hB (by omega) (by omega) hv e2 he, mJP (k := 2 * i + 1) hw hC (by omega) (by omega) hv e3 he, hval (pA_lt _ _) (pA_lt _ _), o_mA h3 (aop_lt _ _ _), if_neg hc26, nI_1 pos, if_neg (nI_in (by omega) (by decide)), nI_clamp (by omega), hr (pos + 1) hpA, hcA, mROW, nI_add, if_neg (nI_in (by omega) (by decide)), nI_clamp (by omega), pl_eq, nI_1 i, ← r1, show 154 * w + (26 + 16 * A + i) = 154 * w + 26 + 16 * A + i by omega]
theorem mJAS {p2 p3 v3 : Int32} {B C : Nat} (hw : w < 4) (hB : B < 8) (hC : C < 8) (hv : RV I J w h sk va nk kp) (he : (v3 = nI 0 ∧ ∀ k, k < 32 → e k = 0) ∨ (v3 = nI 1 ∧ ∀ k, k < 32 → e k < pP ∧ ∀ {α : Type} {F : Int64 → MI → MJ → Option α} (Jx : MJ), Jx 159 = J 159 → oc (f_Model_error (I 135 w) (nI k) I Jx) F = F (lN (e k)) I Jx)) : ∀ (d fu i s : Nat), i + d = 16 → d < fu → s < pP → f_Model_rows_130 p2 p3 fu (nI w) (nI pos) (nI 26) v3 (nI (154 * w + 26 + 16 * B)) (nI (154 * w + 26 + 16 * C)) (lN s) (nI i) I J = some (lN (ajs (fun i => e (2 * i)) (fun i => e (2 * i + 1)) B C va d i s), I, J) ∧ ajs (fun i => e (2 * i)) (fun i => e (2 * i + 1)) B C va d i s < pP := by
  intro d
  induction d with
  | zero =>
    intro fu i s h1 h2 h3
    obtain ⟨g, rfl⟩ : ∃ g, fu = g + 1 := ⟨fu - 1, by omega⟩
    refine ⟨?_, h3⟩
    rw [f_Model_rows_130, if_pos (show 16 ≤ nI i from nI_le (a := 16) (by omega) (by omega))]
    rfl
  | succ d ih =>
    intro fu i s h1 h2 h3
    obtain ⟨g, rfl⟩ : ∃ g, fu = g + 1 := ⟨fu - 1, by omega⟩
    have e2 : (2 : Int32) * nI i = nI (2 * i) := nI_mul 2 i
    have e3 : (2 : Int32) * nI i + 1 = nI (2 * i + 1) := by rw [e2, nI_1]
    obtain ⟨r1, r2⟩ := ih g (i + 1) (pA s (pM (pA (va (26 + 16 * B + i)) (e (2 * i))) (pA (va (26 + 16 * C + i)) (e (2 * i + 1))))) (by omega) (by omega) (pA_lt _ _)
    refine ⟨?_, r2⟩
    rw [f_Model_rows_130, if_neg (show ¬ 16 ≤ nI i from nI_ge (b := 16) (by omega) (by omega)), mJP (k := 2 * i) hw hB (by omega) (by omega) hv e2 he, mJP (k := 2 * i + 1) hw hC (by omega) (by omega) hv e3 he, if_pos (show ¬ nI 26 = 23 by decide), if_pos (show ¬ nI 26 = 24 by decide), oc_oc, o_mM (pA_lt _ _) (pA_lt _ _), oc_some, o_mA h3 (pM_lt _ _), if_pos (show nI 26 = 26 from rfl), nI_1 i]
    exact r1
end OPS
