/-! the run: arrays, jumps and places in the class -/
section OPS
variable {cd va sk kp e : Nat → Nat} {n P w h nk pos : Nat} {st : Nat → Bool} {hg : Nat → Nat} {I : MI} {J : MJ}
def shd (cd : Nat → Nat) (pos : Nat) : Prop := cd pos = 7 ∨ cd pos = 10 ∨ cd pos = 13 ∨ cd pos = 14 ∨ jnt cd pos
theorem nIlt4 {c : Nat} (hc : c < 2 ^ 31) : (nI c < 4) ↔ c < 4 := nI_ltI (b := 4) hc (by omega)
theorem SHR (hn : n ≤ 2000) (hr : rowC I 15 16 n cd) (hp : I (18 + 21 * w) 8 = nI pos) (hop : cd pos ≤ 29) (hl : pos + opl (cd pos) ≤ n) [Decidable (shd cd pos)] {α : Type} {F : Int32 → MI → MJ → Option α} : oc (f_Hall_isShared w (nI (cd pos)) I J) F = F (if shd cd pos then nI 1 else nI 0) I J := by
  have ne : ∀ {c : Nat} (k : Nat), c ≤ 29 → k < 100 → c ≠ k → ¬ nI c = nI k := fun k h1 h2 h3 x => h3 ((nI_eq (by omega) (by omega)).mp x)
  unfold f_Hall_isShared
  by_cases c1 : cd pos = 7 ∨ cd pos = 10 ∨ cd pos = 13 ∨ cd pos = 14
  · have hsd : shd cd pos := by
      unfold shd
      omega
    rw [if_pos hsd, if_pos (show nI (cd pos) = 7 ∨ nI (cd pos) = 10 ∨ nI (cd pos) = 13 ∨ nI (cd pos) = 14 by
      rcases c1 with x | x | x | x
      · exact Or.inl (by rw [x]; rfl)
      · exact Or.inr (Or.inl (by rw [x]; rfl))
      · exact Or.inr (Or.inr (Or.inl (by rw [x]; rfl)))
      · exact Or.inr (Or.inr (Or.inr (by rw [x]; rfl)))), oc_some]
    rfl
  · rw [if_neg (show ¬ (nI (cd pos) = 7 ∨ nI (cd pos) = 10 ∨ nI (cd pos) = 13 ∨ nI (cd pos) = 14) from fun x => by
      rcases x with x | x | x | x
      · exact ne 7 hop (by decide) (by omega) x
      · exact ne 10 hop (by decide) (by omega) x
      · exact ne 13 hop (by decide) (by omega) x
      · exact ne 14 hop (by decide) (by omega) x)]
    by_cases c2 : cd pos = 25 ∨ cd pos = 26
    · rw [if_pos (show nI (cd pos) = 25 ∨ nI (cd pos) = 26 by
        rcases c2 with x | x
        · exact Or.inl (by rw [x]; rfl)
        · exact Or.inr (by rw [x]; rfl))]
      have key : ∀ a, a + 1 < n → (shd cd pos ↔ 4 ≤ cd a ∧ 4 ≤ cd (a + 1)) → oc (oc (f_Row_at 15 16 2000 (nI a) I J) (fun v4 I4 J4 => if v4 < 4 then (some ((0 : Int32), I4, J4)) else (oc (f_Row_at 15 16 2000 (nI a + 1) I4 J4) (fun v6 I6 J6 => if v6 < 4 then (some (0, I6, J6)) else (some (1, I6, J6)))))) F = F (if shd cd pos then nI 1 else nI 0) I J := by
        intro a ha hiff
        have b1 := (hr.2 a (by omega)).1
        have b2 := (hr.2 (a + 1) (by omega)).1
        rw [oc_oc, w_in hr hn (by omega)]
        by_cases x : cd a < 4
        · rw [if_pos ((nIlt4 (by omega)).mpr x), if_neg (fun y => by have := hiff.mp y; omega), oc_some]
          rfl
        · rw [if_neg (fun y => x ((nIlt4 (by omega)).mp y)), nI_1, oc_oc, w_in hr hn (by omega)]
          by_cases y : cd (a + 1) < 4
          · rw [if_pos ((nIlt4 (by omega)).mpr y), if_neg (fun z => by have := hiff.mp z; omega), oc_some]
            rfl
          · rw [if_neg (fun z => y ((nIlt4 (by omega)).mp z)), if_pos (hiff.mpr (by omega)), oc_some]
            rfl
      unfold f_Hall_firstArrayAt
      rw [hp]
      by_cases x : cd pos = 26
      · rw [x, show opl 26 = 3 from rfl] at hl
        have hiff : shd cd pos ↔ 4 ≤ cd (pos + 1) ∧ 4 ≤ cd (pos + 1 + 1) := by
          unfold shd jnt
          rw [show pos + 1 + 1 = pos + 2 by omega]
          omega
        rw [if_neg (show ¬ ¬ nI (cd pos) = 26 from fun y => y (by rw [x]; rfl)), oc_some, nI_1]
        exact key (pos + 1) (by omega) hiff
      · rw [show cd pos = 25 by omega, show opl 25 = 4 from rfl] at hl
        have hiff : shd cd pos ↔ 4 ≤ cd (pos + 2) ∧ 4 ≤ cd (pos + 2 + 1) := by
          unfold shd jnt
          rw [show pos + 2 + 1 = pos + 3 by omega]
          omega
        rw [if_pos (show ¬ nI (cd pos) = 26 from ne 26 hop (by decide) x), oc_some, show nI pos + 2 = nI (pos + 2) from nI_add pos 2]
        exact key (pos + 2) (by omega) hiff
    · rw [if_neg (show ¬ (nI (cd pos) = 25 ∨ nI (cd pos) = 26) from fun x => by
        rcases x with x | x
        · exact ne 25 hop (by decide) (by omega) x
        · exact ne 26 hop (by decide) (by omega) x), oc_some, if_neg (show ¬ shd cd pos from fun x => by
        unfold shd jnt at x
        omega)]
      rfl
theorem JND {c x y : Nat} (hc : c ≤ 29) (hx : x < pP) (hy : y < pP) {α : Type} {F : Int64 → MI → MJ → Option α} : oc (f_Hall_joined (nI c) (lN x) (lN y) I J) F = F (lN (aop c x y)) I J := by
  have ne : ∀ {c : Nat} (k : Nat), c ≤ 29 → k < 100 → c ≠ k → ¬ nI c = nI k := fun k h1 h2 h3 x => h3 ((nI_eq (by omega) (by omega)).mp x)
  unfold f_Hall_joined aop
  by_cases h1 : c = 4 ∨ c = 23
  · rw [if_pos (show nI c = 4 ∨ nI c = 23 by
      rcases h1 with x | x
      · exact Or.inl (by rw [x]; rfl)
      · exact Or.inr (by rw [x]; rfl)), if_pos h1, oc_oc, o_qA hx hy, oc_some]
  · rw [if_neg (show ¬ (nI c = 4 ∨ nI c = 23) from fun x => by
      rcases x with x | x
      · exact ne 4 hc (by decide) (by omega) x
      · exact ne 23 hc (by decide) (by omega) x), if_neg h1]
    by_cases h2 : c = 5 ∨ c = 24
    · rw [if_pos (show nI c = 5 ∨ nI c = 24 by
        rcases h2 with x | x
        · exact Or.inl (by rw [x]; rfl)
        · exact Or.inr (by rw [x]; rfl)), if_pos h2, oc_oc, o_qS hx hy, oc_some]
    · rw [if_neg (show ¬ (nI c = 5 ∨ nI c = 24) from fun x => by
        rcases x with x | x
        · exact ne 5 hc (by decide) (by omega) x
        · exact ne 24 hc (by decide) (by omega) x), if_neg h2, oc_oc, o_qM hx hy, oc_some]
/-- the pair of numbers at place i, with errors where they are shared -/
theorem JPR {sh : Int32} {x y i : Nat} (hi : i < 16) (hx : x < pP) (hy : y < pP) (he : (sh = nI 0 ∧ ∀ k, k < 32 → e k = 0) ∨ (sh = nI 1 ∧ ∀ k, k < 32 → e k < pP ∧ J 111 k = lN (e k))) {α : Type} {F : Int64 × Int64 → MI → MJ → Option α} : oc ((if sh = 0 then (some ((lN x, lN y), I, J)) else (if (2 * nI i) < 0 ∨ 32 ≤ Int32.toNatClampNeg (2 * nI i) then none else (oc (f_Sh_plus (lN x) (J 111 (Int32.toNatClampNeg (2 * nI i))) I J) (fun v13 I13 J13 => if ((2 * nI i) + 1) < 0 ∨ 32 ≤ Int32.toNatClampNeg ((2 * nI i) + 1) then none else (oc (f_Sh_plus (lN y) (J13 111 (Int32.toNatClampNeg ((2 * nI i) + 1))) I13 J13) (fun v15 I15 J15 => some ((v13, v15), I15, J15))))))) : M2 (Int64 × Int64)) F = F (lN (pA x (e (2 * i))), lN (pA y (e (2 * i + 1)))) I J := by
  rcases he with ⟨h1, h2⟩ | ⟨h1, h2⟩
  · rw [h1, if_pos (show nI 0 = 0 from rfl), oc_some, h2 _ (by omega), h2 _ (by omega), pA_0 hx, pA_0 hy]
  · have e2 : 2 * nI i = nI (2 * i) := nI_mul 2 i
    rw [h1, if_neg (show ¬ nI 1 = 0 by decide), e2, if_neg (nI_in (by omega) (by decide)), nI_clamp (by omega), (h2 (2 * i) (by omega)).2, oc_oc, o_qA hx (h2 (2 * i) (by omega)).1, nI_1, if_neg (nI_in (by omega) (by decide)), nI_clamp (by omega), (h2 (2 * i + 1) (by omega)).2, oc_oc, o_qA hy (h2 (2 * i + 1) (by omega)).1, oc_some]
theorem JAV {p3 sh : Int32} {A B C a c : Nat} (hn : n ≤ 2000) (hc : c ≤ 29) (h26 : c ≠ 26) (hA : A < 8) (hB : B < 8) (hC : C < 8) (ha : a + 1 < n) (hcB : cd a = B) (hcC : cd (a + 1) = C) (hpA : pos + 1 < n) (hcA : cd (pos + 1) = A) : ∀ (d fu i : Nat) (l : Int64) (va : Nat → Nat) (J : MJ), i + d = 16 → d < fu → CV I J w h sk va nk kp → rowC I 15 16 n cd → I (18 + 21 * w) 8 = nI pos → ((sh = nI 0 ∧ ∀ k, k < 32 → e k = 0) ∨ (sh = nI 1 ∧ ∀ k, k < 32 → e k < pP ∧ J 111 k = lN (e k))) → ∃ J1, f_Hall_joinArrays_26 w p3 fu (nI c) (nI a) sh l (nI i) I J = some (l, I, J1) ∧ CV I J1 w h sk (ajv (aop c) (fun i => e (2 * i)) (fun i => e (2 * i + 1)) A B C d i va) nk kp ∧ FM w I I J J1 := by
  intro d
  induction d with
  | zero =>
    intro fu i l va J h1 h2 hv hr hp he
    obtain ⟨g, rfl⟩ : ∃ g, fu = g + 1 := ⟨fu - 1, by omega⟩
    refine ⟨J, ?_, hv, FM.rfl⟩
    rw [f_Hall_joinArrays_26, if_pos (show 16 ≤ nI i from nI_le (a := 16) (by omega) (by omega))]
  | succ d ih =>
    intro fu i l va J h1 h2 hv hr hp he
    obtain ⟨g, rfl⟩ : ∃ g, fu = g + 1 := ⟨fu - 1, by omega⟩
    have vx : va (26 + 16 * B + i) < pP := CV_va hv (by omega)
    have vy : va (26 + 16 * C + i) < pP := CV_va hv (by omega)
    obtain ⟨J2, s1, s2, s3⟩ := SCL hv (a := A) (k := i) (v := aop c (pA (va (26 + 16 * B + i)) (e (2 * i))) (pA (va (26 + 16 * C + i)) (e (2 * i + 1)))) hA (by omega) (aop_lt _ _ _)
    have he2 : (sh = nI 0 ∧ ∀ k, k < 32 → e k = 0) ∨ (sh = nI 1 ∧ ∀ k, k < 32 → e k < pP ∧ J2 111 k = lN (e k)) := by
      rcases he with he | ⟨y1, y2⟩
      · exact Or.inl he
      · by_cases hw : w < 4
        · exact Or.inr ⟨y1, fun k hk => by rw [s3.2 111 (by omega) (by omega) (by omega) (by omega)]; exact y2 k hk⟩
        · exact Or.inr ⟨y1, fun k hk => by rw [s3.2 111 (by omega) (by omega) (by omega) (by omega)]; exact y2 k hk⟩
    obtain ⟨J1, r1, r2, r3⟩ := ih g (i + 1) l _ J2 (by omega) (by omega) s2 hr hp he2
    refine ⟨J1, ?_, r2, s3.tr r3⟩
    have i64 : Int32.toInt64 (nI i) = lN i := nI_l (by omega)
    have e2 : 2 * nI i + 1 = nI (2 * i + 1) := by rw [show (2 : Int32) * nI i = nI (2 * i) from nI_mul 2 i, nI_1]
    rw [f_Hall_joinArrays_26, if_neg (show ¬ 16 ≤ nI i from nI_ge (b := 16) (by omega) (by omega)), if_neg (show ¬ nI 32 ≤ 2 * nI i + 1 by rw [e2]; exact nI_ge (by omega) (by omega)), w_in hr hn (by omega), hcB, i64, CEL hv hB (by omega), nI_1 a, w_in hr hn (by omega), hcC, CEL hv hC (by omega), JPR (by omega) vx vy he, if_pos (show ¬ nI c = 26 from fun x => h26 ((nI_eq (b := 26) (by omega) (by omega)).mp x)), hp, nI_1 pos, w_in hr hn (by omega), hcA, JND hc (pA_lt _ _) (pA_lt _ _), s1, nI_1 i]
    exact r1
theorem JAS {p3 sh : Int32} {B C a : Nat} (hn : n ≤ 2000) (hB : B < 8) (hC : C < 8) (ha : a + 1 < n) (hcB : cd a = B) (hcC : cd (a + 1) = C) (hv : CV I J w h sk va nk kp) (hr : rowC I 15 16 n cd) (he : (sh = nI 0 ∧ ∀ k, k < 32 → e k = 0) ∨ (sh = nI 1 ∧ ∀ k, k < 32 → e k < pP ∧ J 111 k = lN (e k))) : ∀ (d fu i l : Nat), i + d = 16 → d < fu → l < pP → f_Hall_joinArrays_26 w p3 fu (nI 26) (nI a) sh (lN l) (nI i) I J = some (lN (ajs (fun i => e (2 * i)) (fun i => e (2 * i + 1)) B C va d i l), I, J) ∧ ajs (fun i => e (2 * i)) (fun i => e (2 * i + 1)) B C va d i l < pP := by
  intro d
  induction d with
  | zero =>
    intro fu i l h1 h2 hl
    obtain ⟨g, rfl⟩ : ∃ g, fu = g + 1 := ⟨fu - 1, by omega⟩
    refine ⟨?_, hl⟩
    rw [f_Hall_joinArrays_26, if_pos (show 16 ≤ nI i from nI_le (a := 16) (by omega) (by omega))]
    rfl
  | succ d ih =>
    intro fu i l h1 h2 hl
    obtain ⟨g, rfl⟩ : ∃ g, fu = g + 1 := ⟨fu - 1, by omega⟩
    have vx : va (26 + 16 * B + i) < pP := CV_va hv (by omega)
    have vy : va (26 + 16 * C + i) < pP := CV_va hv (by omega)
    obtain ⟨r1, r2⟩ := ih g (i + 1) (pA l (pM (pA (va (26 + 16 * B + i)) (e (2 * i))) (pA (va (26 + 16 * C + i)) (e (2 * i + 1))))) (by omega) (by omega) (pA_lt _ _)
    refine ⟨?_, r2⟩
    have i64 : Int32.toInt64 (nI i) = lN i := nI_l (by omega)
    have e2 : 2 * nI i + 1 = nI (2 * i + 1) := by rw [show (2 : Int32) * nI i = nI (2 * i) from nI_mul 2 i, nI_1]
    rw [f_Hall_joinArrays_26, if_neg (show ¬ 16 ≤ nI i from nI_ge (b := 16) (by omega) (by omega)), if_neg (show ¬ nI 32 ≤ 2 * nI i + 1 by rw [e2]; exact nI_ge (by omega) (by omega)), w_in hr hn (by omega), hcB, i64, CEL hv hB (by omega), nI_1 a, w_in hr hn (by omega), hcC, CEL hv hC (by omega), JPR (by omega) vx vy he, if_neg (show ¬ ¬ nI 26 = 26 from fun x => x rfl), o_qM (pA_lt _ _) (pA_lt _ _), o_qA hl (pM_lt _ _), nI_1 i]
    exact r1
end OPS
