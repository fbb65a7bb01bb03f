/-! the run: what a party lacks, in the class and in the reference -/
def lck (cd : Nat → Nat) (pos w h : Nat) (sk : Nat → Nat) (nk d0 d1 d2 t0 t1 t2 gi us md mt : Nat) [Decidable (jnt cd pos)] : Nat := if cd pos = 7 then (if t0 < d0 then 0 else 3) else if cd pos = 10 then (if t1 < d1 then 0 else 4) else if cd pos = 13 then (if cd (pos + 2) = w then (if us < gi then (if mt < md then 0 else 2) else 1) else 0) else if cd pos = 19 ∨ cd pos = 20 then (if sk (h - 1) < 16 then 0 else 5) else if cd pos = 21 ∨ cd pos = 22 then (if sk (h - 2) < 16 then 0 else 5) else if cd pos = 25 ∨ cd pos = 26 then (if jnt cd pos then (if t0 + 16 ≤ d0 then 0 else 3) else 0) else if cd pos = 27 then (if t2 < d2 then 0 else 6) else if cd pos = 28 then (if nk < 16 then 0 else 7) else if cd pos = 29 then (if 1 ≤ nk then 0 else 7) else 0
section LACK
variable {cd va sk kp : Nat → Nat} {n P w h nk pos d0 d1 d2 t0 t1 t2 gi us md mt : Nat} {st : Nat → Bool} {hg : Nat → Nat} {I : MI} {J : MJ}
theorem LFT {k d t : Nat} (hk : k < 3) (h1 : I 102 k = nI d) (h2 : I (31 + 21 * w) k = nI t) (ht : t ≤ d) {α : Type} {F : Int32 → MI → MJ → Option α} : oc (f_Hall_left w (nI k) I J) F = F (nI (d - t)) I J := by
  unfold f_Hall_left
  rw [if_neg (show ¬ nI k < 0 from fun y => (nin hk (show 3 < 2 ^ 31 by decide)) (Or.inl y)), if_neg (show ¬ 3 ≤ nI k from nI_ge (b := 3) (by omega) (by omega)), nI_clamp (n := k) (by omega), if_neg (nin hk (by decide)), if_neg (nin hk (by decide)), oc_some, h1, h2, nI_sb ht]
theorem LCKC [Decidable (jnt cd pos)] [Decidable (shd cd pos)] (hW : WFc cd n P st hg) (hs : st pos = true) (hh : hg pos = h) (hv : CV I J w h sk va nk kp) (hr : rowC I 15 16 n cd) (hp : I (18 + 21 * w) 8 = nI pos) (hgv : cd pos = 13 → cd (pos + 2) = w) (hd : I 102 0 = nI d0 ∧ I 102 1 = nI d1 ∧ I 102 2 = nI d2) (ht : I (31 + 21 * w) 0 = nI t0 ∧ I (31 + 21 * w) 1 = nI t1 ∧ I (31 + 21 * w) 2 = nI t2) (hb : t0 ≤ d0 ∧ t1 ≤ d1 ∧ t2 ≤ d2 ∧ d0 < 2 ^ 30 ∧ d1 < 2 ^ 30 ∧ d2 < 2 ^ 30) (hi : I (29 + 21 * w) 2 = nI gi ∧ I (29 + 21 * w) 3 = nI us ∧ us ≤ gi ∧ gi < 2 ^ 30) (hm : I (29 + 21 * w) 4 = nI md ∧ I (29 + 21 * w) 5 = nI mt ∧ mt ≤ md ∧ md < 2 ^ 30) {α : Type} {F : Int32 → MI → MJ → Option α} : oc (f_Hall_lackFor w (nI (cd pos)) I J) F = F (nI (lck cd pos w h sk nk d0 d1 d2 t0 t1 t2 gi us md mt)) I J := by
  obtain ⟨z1, z2, z3, z4, z5⟩ := WF_h hW hs
  have hn := hW.2.1
  rw [hh] at z4 z5
  have le1 : ∀ {x y : Nat}, y ≤ x → x < 2 ^ 30 → ((1 : Int32) ≤ nI (x - y) ↔ y < x) := fun {x y} h1 h2 => by
    have := nI_leI (a := 1) (b := x - y) (by omega) (by omega)
    have t : (1 : Int32) ≤ nI (x - y) ↔ 1 ≤ x - y := this
    rw [t]
    omega
  have le16 : (16 : Int32) ≤ nI (d0 - t0) ↔ t0 + 16 ≤ d0 := by
    have t : (16 : Int32) ≤ nI (d0 - t0) ↔ 16 ≤ d0 - t0 := nI_leI (a := 16) (b := d0 - t0) (by omega) (by omega)
    rw [t]
    omega
  have l0 := fun {α : Type} {F : Int32 → MI → MJ → Option α} => LFT (J := J) (F := F) (k := 0) (by decide) hd.1 ht.1 hb.1
  have l1 := fun {α : Type} {F : Int32 → MI → MJ → Option α} => LFT (J := J) (F := F) (k := 1) (by decide) hd.2.1 ht.2.1 hb.2.1
  have l2 := fun {α : Type} {F : Int32 → MI → MJ → Option α} => LFT (J := J) (F := F) (k := 2) (by decide) hd.2.2 ht.2.2 hb.2.2.1
  have l0' : ∀ {α : Type} {F : Int32 → MI → MJ → Option α}, oc (f_Hall_left w 0 I J) F = F (nI (d0 - t0)) I J := l0
  have l1' : ∀ {α : Type} {F : Int32 → MI → MJ → Option α}, oc (f_Hall_left w 1 I J) F = F (nI (d1 - t1)) I J := l1
  have l2' : ∀ {α : Type} {F : Int32 → MI → MJ → Option α}, oc (f_Hall_left w 2 I J) F = F (nI (d2 - t2)) I J := l2
  have lc16 : ∀ {v : Nat}, v < pP → (lg_cmp (lN v) 16 < 0 ↔ v < 16) := fun {v} hv => lc_lt (m := 16) (lx_p hv) (by omega)
  unfold lck f_Hall_lackFor
  by_cases e7 : cd pos = 7
  · rw [e7, if_pos (by decide), if_pos (by decide), oc_oc, l0']
    by_cases y : t0 < d0
    · rw [if_pos y, if_pos ((le1 (by omega) (by omega)).mpr y), oc_some]
      rfl
    · rw [if_neg y, if_neg (fun z => y ((le1 (by omega) (by omega)).mp z)), oc_some]
      rfl
  by_cases e10 : cd pos = 10
  · rw [e10, if_neg (by decide), if_pos (by decide), if_neg (by decide), if_pos (by decide), oc_oc, l1']
    by_cases y : t1 < d1
    · rw [if_pos y, if_pos ((le1 (by omega) (by omega)).mpr y), oc_some]
      rfl
    · rw [if_neg y, if_neg (fun z => y ((le1 (by omega) (by omega)).mp z)), oc_some]
      rfl
  by_cases e13 : cd pos = 13
  · rw [if_pos (hgv e13), e13, if_neg (by decide), if_neg (by decide), if_pos (by decide), if_neg (by decide), if_neg (by decide), if_pos (by decide)]
    unfold f_Stock_inputsLeft f_Stock_masksLeft
    rw [oc_oc, oc_some, hi.1, hi.2.1, nI_sb hi.2.2.1]
    by_cases y : us < gi
    · rw [if_pos y, if_pos ((le1 hi.2.2.1 hi.2.2.2).mpr y), oc_oc, oc_some, hm.1, hm.2.1, nI_sb hm.2.2.1]
      by_cases x : mt < md
      · rw [if_pos x, if_pos ((le1 hm.2.2.1 hm.2.2.2).mpr x), oc_some]
        rfl
      · rw [if_neg x, if_neg (fun z => x ((le1 hm.2.2.1 hm.2.2.2).mp z)), oc_some]
        rfl
    · rw [if_neg y, if_neg (fun z => y ((le1 hi.2.2.1 hi.2.2.2).mp z)), oc_some]
      rfl
  by_cases e19 : cd pos = 19
  · have hm' : 1 ≤ h := by rw [e19] at z4; exact z4
    have ft : ∀ {α : Type} {F : Int64 → MI → MJ → Option α}, oc (f_Memory_fromTop w 1 I J) F = F (lN (sk (h - 1))) I J := fun {α F} => FTP hv (n := 1) hm' (by decide)
    rw [e19, if_neg (by decide), if_neg (by decide), if_neg (by decide), if_pos (by decide), if_neg (by decide), if_neg (by decide), if_neg (by decide), if_pos (by decide), oc_oc, ft]
    have sp := CV_sk hv (show h - 1 < h by omega)
    by_cases y : sk (h - 1) < 16
    · rw [if_pos y, if_pos ((lc16 sp).mpr y), oc_some]
      rfl
    · rw [if_neg y, if_neg (fun z => y ((lc16 sp).mp z)), oc_some]
      rfl
  by_cases e20 : cd pos = 20
  · have hm' : 1 ≤ h := by rw [e20] at z4; exact z4
    have ft : ∀ {α : Type} {F : Int64 → MI → MJ → Option α}, oc (f_Memory_fromTop w 1 I J) F = F (lN (sk (h - 1))) I J := fun {α F} => FTP hv (n := 1) hm' (by decide)
    rw [e20, if_neg (by decide), if_neg (by decide), if_neg (by decide), if_pos (by decide), if_neg (by decide), if_neg (by decide), if_neg (by decide), if_pos (by decide), oc_oc, ft]
    have sp := CV_sk hv (show h - 1 < h by omega)
    by_cases y : sk (h - 1) < 16
    · rw [if_pos y, if_pos ((lc16 sp).mpr y), oc_some]
      rfl
    · rw [if_neg y, if_neg (fun z => y ((lc16 sp).mp z)), oc_some]
      rfl
  by_cases e21 : cd pos = 21
  · have hm' : 2 ≤ h := by rw [e21] at z4; exact z4
    have ft : ∀ {α : Type} {F : Int64 → MI → MJ → Option α}, oc (f_Memory_fromTop w 2 I J) F = F (lN (sk (h - 2))) I J := fun {α F} => FTP hv (n := 2) hm' (by decide)
    rw [e21, if_neg (by decide), if_neg (by decide), if_neg (by decide), if_neg (by decide), if_pos (by decide), if_neg (by decide), if_neg (by decide), if_neg (by decide), if_neg (by decide), if_pos (by decide), oc_oc, ft]
    have sp := CV_sk hv (show h - 2 < h by omega)
    by_cases y : sk (h - 2) < 16
    · rw [if_pos y, if_pos ((lc16 sp).mpr y), oc_some]
      rfl
    · rw [if_neg y, if_neg (fun z => y ((lc16 sp).mp z)), oc_some]
      rfl
  by_cases e22 : cd pos = 22
  · have hm' : 2 ≤ h := by rw [e22] at z4; exact z4
    have ft : ∀ {α : Type} {F : Int64 → MI → MJ → Option α}, oc (f_Memory_fromTop w 2 I J) F = F (lN (sk (h - 2))) I J := fun {α F} => FTP hv (n := 2) hm' (by decide)
    rw [e22, if_neg (by decide), if_neg (by decide), if_neg (by decide), if_neg (by decide), if_pos (by decide), if_neg (by decide), if_neg (by decide), if_neg (by decide), if_neg (by decide), if_pos (by decide), oc_oc, ft]
    have sp := CV_sk hv (show h - 2 < h by omega)
    by_cases y : sk (h - 2) < 16
    · rw [if_pos y, if_pos ((lc16 sp).mpr y), oc_some]
      rfl
    · rw [if_neg y, if_neg (fun z => y ((lc16 sp).mp z)), oc_some]
      rfl
  by_cases e25 : cd pos = 25
  · have sr := fun {α : Type} {F : Int32 → MI → MJ → Option α} => SHR (F := F) (J := J) hn hr hp z2 (by rw [e25] at z3 ⊢; exact z3)
    have js : shd cd pos ↔ jnt cd pos := by unfold shd; constructor; (intro x; rcases x with x | x | x | x | x <;> first | exact x | (exfalso; omega)); (intro x; exact Or.inr (Or.inr (Or.inr (Or.inr x))))
    rw [e25] at sr
    rw [e25, if_neg (by decide), if_neg (by decide), if_neg (by decide), if_neg (by decide), if_neg (by decide), if_pos (by decide), if_neg (by decide), if_neg (by decide), if_neg (by decide), if_neg (by decide), if_neg (by decide), if_pos (by decide)]
    by_cases x : jnt cd pos
    · rw [if_pos (js.mpr x)] at sr
      rw [if_pos x, oc_oc, sr, if_neg (show ¬ nI 1 = 0 by decide), oc_oc, l0']
      by_cases y : t0 + 16 ≤ d0
      · rw [if_pos y, if_pos (le16.mpr y), oc_some]
        rfl
      · rw [if_neg y, if_neg (fun z => y (le16.mp z)), oc_some]
        rfl
    · rw [if_neg (fun y => x (js.mp y))] at sr
      rw [if_neg x, oc_oc, sr, if_pos (show nI 0 = 0 from rfl), oc_some]
      rfl
  by_cases e26 : cd pos = 26
  · have sr := fun {α : Type} {F : Int32 → MI → MJ → Option α} => SHR (F := F) (J := J) hn hr hp z2 (by rw [e26] at z3 ⊢; exact z3)
    have js : shd cd pos ↔ jnt cd pos := by unfold shd; constructor; (intro x; rcases x with x | x | x | x | x <;> first | exact x | (exfalso; omega)); (intro x; exact Or.inr (Or.inr (Or.inr (Or.inr x))))
    rw [e26] at sr
    rw [e26, if_neg (by decide), if_neg (by decide), if_neg (by decide), if_neg (by decide), if_neg (by decide), if_pos (by decide), if_neg (by decide), if_neg (by decide), if_neg (by decide), if_neg (by decide), if_neg (by decide), if_pos (by decide)]
    by_cases x : jnt cd pos
    · rw [if_pos (js.mpr x)] at sr
      rw [if_pos x, oc_oc, sr, if_neg (show ¬ nI 1 = 0 by decide), oc_oc, l0']
      by_cases y : t0 + 16 ≤ d0
      · rw [if_pos y, if_pos (le16.mpr y), oc_some]
        rfl
      · rw [if_neg y, if_neg (fun z => y (le16.mp z)), oc_some]
        rfl
    · rw [if_neg (fun y => x (js.mp y))] at sr
      rw [if_neg x, oc_oc, sr, if_pos (show nI 0 = 0 from rfl), oc_some]
      rfl
  by_cases e27 : cd pos = 27
  · rw [e27, if_neg (by decide), if_neg (by decide), if_neg (by decide), if_neg (by decide), if_neg (by decide), if_neg (by decide), if_pos (by decide), if_neg (by decide), if_neg (by decide), if_neg (by decide), if_neg (by decide), if_neg (by decide), if_neg (by decide), if_pos (by decide), oc_oc, l2']
    by_cases y : t2 < d2
    · rw [if_pos y, if_pos ((le1 (by omega) (by omega)).mpr y), oc_some]
      rfl
    · rw [if_neg y, if_neg (fun z => y ((le1 (by omega) (by omega)).mp z)), oc_some]
      rfl
  by_cases e28 : cd pos = 28
  · have kb := hv.2.2.2.2.2.2.1.2
    rw [e28, if_neg (by decide), if_neg (by decide), if_neg (by decide), if_neg (by decide), if_neg (by decide), if_neg (by decide), if_neg (by decide), if_pos (by decide), hv.2.2.2.2.2.2.1.1]
    by_cases y : nk < 16
    · rw [if_pos (show nI nk < 16 from (nI_ltI (b := 16) (by omega) (by omega)).mpr y), oc_some, if_neg (by decide), if_neg (by decide), if_neg (by decide), if_neg (by decide), if_neg (by decide), if_neg (by decide), if_neg (by decide), if_pos (by decide), if_pos y]
      rfl
    · rw [if_neg (show ¬ nI nk < 16 from fun z => y ((nI_ltI (b := 16) (by omega) (by omega)).mp z)), oc_some, if_neg (by decide), if_neg (by decide), if_neg (by decide), if_neg (by decide), if_neg (by decide), if_neg (by decide), if_neg (by decide), if_pos (by decide), if_neg y]
      rfl
  by_cases e29 : cd pos = 29
  · have kb := hv.2.2.2.2.2.2.1.2
    rw [e29, if_neg (by decide), if_neg (by decide), if_neg (by decide), if_neg (by decide), if_neg (by decide), if_neg (by decide), if_neg (by decide), if_neg (by decide), if_pos (by decide), hv.2.2.2.2.2.2.1.1]
    by_cases y : 1 ≤ nk
    · rw [if_pos (show 1 ≤ nI nk from (nI_leI (a := 1) (by omega) (by omega)).mpr y), oc_some, if_neg (by decide), if_neg (by decide), if_neg (by decide), if_neg (by decide), if_neg (by decide), if_neg (by decide), if_neg (by decide), if_neg (by decide), if_pos (by decide), if_pos y]
      rfl
    · rw [if_neg (show ¬ 1 ≤ nI nk from fun z => y ((nI_leI (a := 1) (by omega) (by omega)).mp z)), oc_some, if_neg (by decide), if_neg (by decide), if_neg (by decide), if_neg (by decide), if_neg (by decide), if_neg (by decide), if_neg (by decide), if_neg (by decide), if_pos (by decide), if_neg y]
      rfl
  have ne : ∀ {k : Nat}, k < 100 → cd pos ≠ k → ¬ nI (cd pos) = nI k := fun {k} hk x y => x ((nI_eq (by omega) (by omega)).mp y)
  rw [if_neg e7, if_neg e10, if_neg e13, if_neg (show ¬ (cd pos = 19 ∨ cd pos = 20) from fun y => y.elim e19 e20), if_neg (show ¬ (cd pos = 21 ∨ cd pos = 22) from fun y => y.elim e21 e22), if_neg (show ¬ (cd pos = 25 ∨ cd pos = 26) from fun y => y.elim e25 e26), if_neg e27, if_neg e28, if_neg e29, if_neg (show ¬ nI (cd pos) = 7 from ne (k := 7) (by decide) e7), if_neg (show ¬ nI (cd pos) = 10 from ne (k := 10) (by decide) e10), if_neg (show ¬ nI (cd pos) = 13 from ne (k := 13) (by decide) e13), if_neg (show ¬ (nI (cd pos) = 19 ∨ nI (cd pos) = 20) from fun y => y.elim (ne (k := 19) (by decide) e19) (ne (k := 20) (by decide) e20)), if_neg (show ¬ (nI (cd pos) = 21 ∨ nI (cd pos) = 22) from fun y => y.elim (ne (k := 21) (by decide) e21) (ne (k := 22) (by decide) e22)), if_neg (show ¬ (nI (cd pos) = 25 ∨ nI (cd pos) = 26) from fun y => y.elim (ne (k := 25) (by decide) e25) (ne (k := 26) (by decide) e26)), if_neg (show ¬ nI (cd pos) = 27 from ne (k := 27) (by decide) e27), if_neg (show ¬ nI (cd pos) = 28 from ne (k := 28) (by decide) e28), if_neg (show ¬ nI (cd pos) = 29 from ne (k := 29) (by decide) e29), oc_some]
  rfl
theorem LCKM1 {ph : Nat} (hw : w < 4) (hn : n ≤ 2000) (hpn : pos < n) (h29 : cd pos ≤ 29) (hr : ∀ k, k < n → I 114 k = nI (cd k)) (hp : I 127 w = nI pos) (hph : I 128 w = nI ph) (hp0 : ph ≠ 0) (hpb : ph < 100) (hop : cd pos < 19 ∨ 22 < cd pos) {α : Type} {F : Int32 → MI → MJ → Option α} : oc (f_Model_lacking (nI w) I J) F = F (nI 0) I J := by
  have zw := nin hw (show 4 < 2 ^ 31 by decide)
  have p0 : ¬ nI ph = 0 := fun y => hp0 ((nI_eq (b := 0) (by omega) (by omega)).mp y)
  unfold f_Model_lacking
  rw [nI_clamp (n := w) (by omega), if_neg zw, pl_eq, hp, if_neg (nI_in (by omega) (by decide)), nI_clamp (n := pos) (by omega), pl_eq, hr pos hpn, hph]
  by_cases x : cd pos < 19
  · rw [if_pos (show nI (cd pos) < 19 from (nI_ltI (b := 19) (by omega) (by omega)).mpr x), if_neg zw, if_neg p0, oc_some]
    rfl
  · rw [if_neg (show ¬ nI (cd pos) < 19 from fun y => x ((nI_ltI (b := 19) (by omega) (by omega)).mp y)), if_pos (show 22 < nI (cd pos) from (nI_ltI (a := 22) (by omega) (by omega)).mpr (by omega)), if_neg zw, if_neg p0, oc_some]
    rfl
theorem LCKM [Decidable (jnt cd pos)] (hw : w < 4) (hW : WFc cd n P st hg) (hs : st pos = true) (hh : hg pos = h) (hv : RV I J w h sk va nk kp) (hr : ∀ k, k < n → I 114 k = nI (cd k)) (hp : I 127 w = nI pos) (hph : I 128 w = nI 0) (hd : I 112 24 = nI d0 ∧ I 112 26 = nI d1 ∧ I 112 28 = nI d2) (ht : I 121 w = nI t0 ∧ I 122 w = nI t1 ∧ I 123 w = nI t2) (hb : t0 ≤ d0 ∧ t1 ≤ d1 ∧ t2 ≤ d2 ∧ d0 < 2 ^ 30 ∧ d1 < 2 ^ 30 ∧ d2 < 2 ^ 30) (hi : I 125 w = nI gi ∧ I 126 w = nI us ∧ us ≤ gi ∧ gi < 2 ^ 30) (hm : I 119 w = nI (md - mt) ∧ mt ≤ md ∧ md < 2 ^ 30) {α : Type} {F : Int32 → MI → MJ → Option α} : oc (f_Model_lacking (nI w) I J) F = F (nI (lck cd pos w h sk nk d0 d1 d2 t0 t1 t2 gi us md mt)) I J := by
  obtain ⟨z1, z2, z3, z4, z5⟩ := WF_h hW hs
  have hn := hW.2.1
  have hcb := hW.2.2.1
  rw [hh] at z4 z5
  have zw := nin hw (show 4 < 2 ^ 31 by decide)
  have sr := fun {α : Type} {F : Int32 → MI → MJ → Option α} => mIJ (F := F) (J := J) hr hcb hn z1 z2 z3
  have ne : ∀ {k : Nat}, k < 100 → cd pos ≠ k → ¬ nI (cd pos) = nI k := fun {k} hk x y => x ((nI_eq (by omega) (by omega)).mp y)
  have eqI : ∀ {a b : Nat}, a ≤ b → b < 2 ^ 30 → (nI a = nI b ↔ ¬ a < b) := fun {a b} h1 h2 => by
    rw [nI_eq (by omega) (by omega)]
    omega
  have le16 : nI t0 + 16 ≤ nI d0 ↔ t0 + 16 ≤ d0 := by
    have t : nI t0 + 16 = nI (t0 + 16) := nI_add t0 16
    rw [t]
    exact nI_leI (by omega) (by omega)
  have lc15 : ∀ {v : Nat}, v < pP → (lg_cmp (lN v) 15 ≤ 0 ↔ v < 16) := fun {v} hv => by
    have t : lg_cmp (lN v) 15 ≤ 0 ↔ lN v ≤ lN 15 := lg_cmp_le _ _
    rw [t, lx_le (lx_p hv) (by omega)]
    omega
  have e65 : ∀ {m : Nat}, 1 ≤ m → m ≤ h → (65 * nI w + nI h) - nI m = nI (65 * w + (h - m)) := fun {m} h1 h2 => by rw [n65, nI_sb (by omega), show 65 * w + h - m = 65 * w + (h - m) by omega]
  unfold lck f_Model_lacking
  rw [nI_clamp (n := w) (by omega), if_neg zw, pl_eq, hp, if_neg (nI_in (by omega) (by decide)), nI_clamp (n := pos) (by omega), pl_eq, hr pos z1, hph]
  by_cases e7 : cd pos = 7
  · have nj : ¬ jnt cd pos := by unfold jnt; omega
    rw [e7, if_pos (by decide), if_neg zw, if_pos (show nI 0 = 0 from rfl), if_pos (by decide), if_pos (by decide), if_pos (by decide), if_neg (by decide), if_pos (by decide), if_neg (by decide), if_neg zw, ht.1, hd.1]
    by_cases y : t0 < d0
    · rw [if_neg (fun z => (eqI hb.1 (by omega)).mp z y), oc_oc, sr, if_neg nj, if_pos (show nI 0 = 0 from rfl), oc_some, if_pos (by decide), if_pos y]
      rfl
    · rw [if_pos ((eqI hb.1 (by omega)).mpr y), oc_some, if_pos (by decide), if_neg y]
      rfl
  by_cases e10 : cd pos = 10
  · have nj : ¬ jnt cd pos := by unfold jnt; omega
    rw [e10, if_pos (by decide), if_neg zw, if_pos (show nI 0 = 0 from rfl), if_pos (by decide), if_neg (by decide), if_neg zw, ht.2.1, hd.2.1]
    by_cases y : t1 < d1
    · rw [if_pos (fun z => (eqI hb.2.1 (by omega)).mp z y), oc_some, if_neg (by decide), if_pos (by decide), if_pos y]
      rfl
    · rw [if_neg (fun z => z ((eqI hb.2.1 (by omega)).mpr y)), oc_some, if_neg (by decide), if_pos (by decide), if_neg y]
      rfl
  by_cases e13 : cd pos = 13
  · have nj : ¬ jnt cd pos := by unfold jnt; omega
    have z3' : pos + 3 ≤ n := by rw [e13] at z3; exact z3
    have gb := (WF_a hW hs).2.1 e13
    have gb2 := hcb (pos + 2) (by omega)
    rw [e13, if_pos (by decide), if_neg zw, if_pos (show nI 0 = 0 from rfl), if_neg (by decide), show nI pos + 2 = nI (pos + 2) from nI_add pos 2, if_neg (nI_in (by omega) (by decide)), nI_clamp (n := pos + 2) (by omega), hr (pos + 2) (by omega)]
    by_cases x : cd (pos + 2) = w
    · rw [if_neg (show ¬ ¬ nI (cd (pos + 2)) = nI w from fun z => z (by rw [x])), if_neg zw, if_neg zw, hi.2.1, hi.1]
      by_cases y : us < gi
      · rw [if_pos (fun z => (eqI hi.2.2.1 hi.2.2.2).mp z y), if_neg zw, hm.1]
        by_cases u : mt < md
        · rw [if_pos (show ¬ nI (md - mt) = 0 from fun z => by have := (nI_eq (b := 0) (by omega) (by omega)).mp z; omega), oc_some, if_neg (by decide), if_neg (by decide), if_pos (by decide), if_pos x, if_pos y, if_pos u]
          rfl
        · rw [if_neg (show ¬ ¬ nI (md - mt) = 0 from fun z => z (by rw [show md - mt = 0 by omega]; rfl)), oc_some, if_neg (by decide), if_neg (by decide), if_pos (by decide), if_pos x, if_pos y, if_neg u]
          rfl
      · rw [if_neg (fun z => z ((eqI hi.2.2.1 hi.2.2.2).mpr y)), oc_some, if_neg (by decide), if_neg (by decide), if_pos (by decide), if_pos x, if_neg y]
        rfl
    · rw [if_pos (show ¬ nI (cd (pos + 2)) = nI w from fun z => x ((nI_eq (by omega) (by omega)).mp z)), if_pos (by decide), if_pos (by decide), if_neg (by decide), if_pos (by decide), if_pos (by decide), oc_oc, sr, if_neg nj, if_pos (show nI 0 = 0 from rfl), oc_some, if_neg (by decide), if_neg (by decide), if_pos (by decide), if_neg x]
      rfl
  by_cases e19 : cd pos = 19
  · skip
    have hm' : 1 ≤ h := by rw [e19] at z4; exact z4
    have sp := hv.2.1 (h - 1) (by omega)
    have e6 : (65 * nI w + nI h) - 1 = nI (65 * w + (h - 1)) := e65 (m := 1) (by omega) (by omega)
    have hh6 := hv.1.2
    rw [e19, if_neg (by decide), if_neg (by decide), if_neg zw, if_neg (by decide), pl_eq, hv.1.1, e6, if_neg (nI_in (by omega) (by decide)), nI_clamp (n := 65 * w + (h - 1)) (by omega), pl_eq, sp.2]
    by_cases y : sk (h - 1) < 16
    · rw [if_pos ((lc15 sp.1).mpr y), oc_some, if_neg (by decide), if_neg (by decide), if_neg (by decide), if_pos (by decide), if_pos y]
      rfl
    · rw [if_neg (fun z => y ((lc15 sp.1).mp z)), oc_some, if_neg (by decide), if_neg (by decide), if_neg (by decide), if_pos (by decide), if_neg y]
      rfl
  by_cases e20 : cd pos = 20
  · skip
    have hm' : 1 ≤ h := by rw [e20] at z4; exact z4
    have sp := hv.2.1 (h - 1) (by omega)
    have e6 : (65 * nI w + nI h) - 1 = nI (65 * w + (h - 1)) := e65 (m := 1) (by omega) (by omega)
    have hh6 := hv.1.2
    rw [e20, if_neg (by decide), if_neg (by decide), if_neg zw, if_neg (by decide), pl_eq, hv.1.1, e6, if_neg (nI_in (by omega) (by decide)), nI_clamp (n := 65 * w + (h - 1)) (by omega), pl_eq, sp.2]
    by_cases y : sk (h - 1) < 16
    · rw [if_pos ((lc15 sp.1).mpr y), oc_some, if_neg (by decide), if_neg (by decide), if_neg (by decide), if_pos (by decide), if_pos y]
      rfl
    · rw [if_neg (fun z => y ((lc15 sp.1).mp z)), oc_some, if_neg (by decide), if_neg (by decide), if_neg (by decide), if_pos (by decide), if_neg y]
      rfl
  by_cases e21 : cd pos = 21
  · skip
    have hm' : 2 ≤ h := by rw [e21] at z4; exact z4
    have sp := hv.2.1 (h - 2) (by omega)
    have e6 : (65 * nI w + nI h) - 2 = nI (65 * w + (h - 2)) := e65 (m := 2) (by omega) (by omega)
    have hh6 := hv.1.2
    rw [e21, if_neg (by decide), if_neg (by decide), if_neg zw, if_pos (by decide), pl_eq, hv.1.1, e6, if_neg (nI_in (by omega) (by decide)), nI_clamp (n := 65 * w + (h - 2)) (by omega), pl_eq, sp.2]
    by_cases y : sk (h - 2) < 16
    · rw [if_pos ((lc15 sp.1).mpr y), oc_some, if_neg (by decide), if_neg (by decide), if_neg (by decide), if_neg (by decide), if_pos (by decide), if_pos y]
      rfl
    · rw [if_neg (fun z => y ((lc15 sp.1).mp z)), oc_some, if_neg (by decide), if_neg (by decide), if_neg (by decide), if_neg (by decide), if_pos (by decide), if_neg y]
      rfl
  by_cases e22 : cd pos = 22
  · skip
    have hm' : 2 ≤ h := by rw [e22] at z4; exact z4
    have sp := hv.2.1 (h - 2) (by omega)
    have e6 : (65 * nI w + nI h) - 2 = nI (65 * w + (h - 2)) := e65 (m := 2) (by omega) (by omega)
    have hh6 := hv.1.2
    rw [e22, if_neg (by decide), if_neg (by decide), if_neg zw, if_pos (by decide), pl_eq, hv.1.1, e6, if_neg (nI_in (by omega) (by decide)), nI_clamp (n := 65 * w + (h - 2)) (by omega), pl_eq, sp.2]
    by_cases y : sk (h - 2) < 16
    · rw [if_pos ((lc15 sp.1).mpr y), oc_some, if_neg (by decide), if_neg (by decide), if_neg (by decide), if_neg (by decide), if_pos (by decide), if_pos y]
      rfl
    · rw [if_neg (fun z => y ((lc15 sp.1).mp z)), oc_some, if_neg (by decide), if_neg (by decide), if_neg (by decide), if_neg (by decide), if_pos (by decide), if_neg y]
      rfl
  by_cases e25 : cd pos = 25
  · skip
    rw [e25, if_neg (by decide), if_pos (by decide), if_neg zw, if_pos (show nI 0 = 0 from rfl), if_pos (by decide), if_pos (by decide), if_pos (by decide), if_neg (by decide), if_pos (by decide), if_pos (by decide), oc_oc, sr]
    by_cases x : jnt cd pos
    · rw [if_pos x, if_neg (show ¬ nI 1 = 0 by decide), if_neg zw, ht.1, hd.1]
      by_cases y : t0 + 16 ≤ d0
      · rw [if_pos (le16.mpr y), oc_some, if_neg (by decide), if_neg (by decide), if_neg (by decide), if_neg (by decide), if_neg (by decide), if_pos (by decide), if_pos x, if_pos y]
        rfl
      · rw [if_neg (fun z => y (le16.mp z)), oc_some, if_neg (by decide), if_neg (by decide), if_neg (by decide), if_neg (by decide), if_neg (by decide), if_pos (by decide), if_pos x, if_neg y]
        rfl
    · rw [if_neg x, if_pos (show nI 0 = 0 from rfl), oc_some, if_neg (by decide), if_neg (by decide), if_neg (by decide), if_neg (by decide), if_neg (by decide), if_pos (by decide), if_neg x]
      rfl
  by_cases e26 : cd pos = 26
  · skip
    rw [e26, if_neg (by decide), if_pos (by decide), if_neg zw, if_pos (show nI 0 = 0 from rfl), if_pos (by decide), if_pos (by decide), if_pos (by decide), if_neg (by decide), if_pos (by decide), if_pos (by decide), oc_oc, sr]
    by_cases x : jnt cd pos
    · rw [if_pos x, if_neg (show ¬ nI 1 = 0 by decide), if_neg zw, ht.1, hd.1]
      by_cases y : t0 + 16 ≤ d0
      · rw [if_pos (le16.mpr y), oc_some, if_neg (by decide), if_neg (by decide), if_neg (by decide), if_neg (by decide), if_neg (by decide), if_pos (by decide), if_pos x, if_pos y]
        rfl
      · rw [if_neg (fun z => y (le16.mp z)), oc_some, if_neg (by decide), if_neg (by decide), if_neg (by decide), if_neg (by decide), if_neg (by decide), if_pos (by decide), if_pos x, if_neg y]
        rfl
    · rw [if_neg x, if_pos (show nI 0 = 0 from rfl), oc_some, if_neg (by decide), if_neg (by decide), if_neg (by decide), if_neg (by decide), if_neg (by decide), if_pos (by decide), if_neg x]
      rfl
  by_cases e27 : cd pos = 27
  · have nj : ¬ jnt cd pos := by unfold jnt; omega
    rw [e27, if_neg (by decide), if_pos (by decide), if_neg zw, if_pos (show nI 0 = 0 from rfl), if_pos (by decide), if_pos (by decide), if_neg (by decide), if_neg zw, ht.2.2, hd.2.2]
    by_cases y : t2 < d2
    · rw [if_pos (fun z => (eqI hb.2.2.1 (by omega)).mp z y), oc_some, if_neg (by decide), if_neg (by decide), if_neg (by decide), if_neg (by decide), if_neg (by decide), if_neg (by decide), if_pos (by decide), if_pos y]
      rfl
    · rw [if_neg (fun z => z ((eqI hb.2.2.1 (by omega)).mpr y)), oc_some, if_neg (by decide), if_neg (by decide), if_neg (by decide), if_neg (by decide), if_neg (by decide), if_neg (by decide), if_pos (by decide), if_neg y]
      rfl
  by_cases e28 : cd pos = 28
  · skip
    have kb := hv.2.2.2.1.2
    rw [e28, if_neg (by decide), if_pos (by decide), if_neg zw, if_pos (show nI 0 = 0 from rfl), if_pos (by decide), if_pos (by decide), if_pos (by decide), if_pos (by decide), if_neg zw, if_neg (show ¬ ¬ nI 28 = 28 from fun x => x rfl), pl_eq, hv.2.2.2.1.1]
    by_cases y : nk < 16
    · rw [if_pos (show ¬ nI nk = 16 from fun z => by have := (nI_eq (b := 16) (by omega) (by omega)).mp z; omega), oc_some, if_neg (by decide), if_neg (by decide), if_neg (by decide), if_neg (by decide), if_neg (by decide), if_neg (by decide), if_neg (by decide), if_pos (by decide), if_pos y]
      rfl
    · rw [if_neg (show ¬ ¬ nI nk = 16 from fun z => z (by rw [show nk = 16 by omega]; rfl)), oc_some, if_neg (by decide), if_neg (by decide), if_neg (by decide), if_neg (by decide), if_neg (by decide), if_neg (by decide), if_neg (by decide), if_pos (by decide), if_neg y]
      rfl
  by_cases e29 : cd pos = 29
  · skip
    have kb := hv.2.2.2.1.2
    rw [e29, if_neg (by decide), if_pos (by decide), if_neg zw, if_pos (show nI 0 = 0 from rfl), if_pos (by decide), if_pos (by decide), if_pos (by decide), if_neg (by decide), if_neg (by decide), if_neg zw, if_pos (show ¬ nI 29 = 28 by decide), pl_eq, hv.2.2.2.1.1]
    by_cases y : 1 ≤ nk
    · rw [if_pos (show ¬ nI nk = 0 from fun z => by have := (nI_eq (b := 0) (by omega) (by omega)).mp z; omega), oc_some, if_neg (by decide), if_neg (by decide), if_neg (by decide), if_neg (by decide), if_neg (by decide), if_neg (by decide), if_neg (by decide), if_neg (by decide), if_pos (by decide), if_pos y]
      rfl
    · rw [if_neg (show ¬ ¬ nI nk = 0 from fun z => z (by rw [show nk = 0 by omega]; rfl)), oc_some, if_neg (by decide), if_neg (by decide), if_neg (by decide), if_neg (by decide), if_neg (by decide), if_neg (by decide), if_neg (by decide), if_neg (by decide), if_pos (by decide), if_neg y]
      rfl
  have nj : ¬ jnt cd pos := by unfold jnt; omega
  by_cases x : cd pos < 19
  · rw [if_pos (show nI (cd pos) < 19 from (nI_ltI (b := 19) (by omega) (by omega)).mpr x), if_neg zw, if_pos (show nI 0 = 0 from rfl), if_pos (show ¬ nI (cd pos) = 13 from ne (k := 13) (by decide) e13), if_pos (show ¬ nI (cd pos) = 10 from ne (k := 10) (by decide) e10), if_pos (show ¬ nI (cd pos) = 27 from ne (k := 27) (by decide) e27), if_neg (show ¬ nI (cd pos) = 28 from ne (k := 28) (by decide) e28), if_pos (show ¬ nI (cd pos) = 29 from ne (k := 29) (by decide) e29), if_pos (show ¬ nI (cd pos) = 7 from ne (k := 7) (by decide) e7), oc_oc, sr, if_neg nj, if_pos (show nI 0 = 0 from rfl), oc_some, if_neg e7, if_neg e10, if_neg e13, if_neg (show ¬ (cd pos = 19 ∨ cd pos = 20) from fun y => y.elim e19 e20), if_neg (show ¬ (cd pos = 21 ∨ cd pos = 22) from fun y => y.elim e21 e22), if_neg (show ¬ (cd pos = 25 ∨ cd pos = 26) from fun y => y.elim e25 e26), if_neg e27, if_neg e28, if_neg e29]
    rfl
  · rw [if_neg (show ¬ nI (cd pos) < 19 from fun y => x ((nI_ltI (b := 19) (by omega) (by omega)).mp y)), if_pos (show 22 < nI (cd pos) from (nI_ltI (a := 22) (by omega) (by omega)).mpr (by omega)), if_neg zw, if_pos (show nI 0 = 0 from rfl), if_pos (show ¬ nI (cd pos) = 13 from ne (k := 13) (by decide) e13), if_pos (show ¬ nI (cd pos) = 10 from ne (k := 10) (by decide) e10), if_pos (show ¬ nI (cd pos) = 27 from ne (k := 27) (by decide) e27), if_neg (show ¬ nI (cd pos) = 28 from ne (k := 28) (by decide) e28), if_pos (show ¬ nI (cd pos) = 29 from ne (k := 29) (by decide) e29), if_pos (show ¬ nI (cd pos) = 7 from ne (k := 7) (by decide) e7), oc_oc, sr, if_neg nj, if_pos (show nI 0 = 0 from rfl), oc_some, if_neg e7, if_neg e10, if_neg e13, if_neg (show ¬ (cd pos = 19 ∨ cd pos = 20) from fun y => y.elim e19 e20), if_neg (show ¬ (cd pos = 21 ∨ cd pos = 22) from fun y => y.elim e21 e22), if_neg (show ¬ (cd pos = 25 ∨ cd pos = 26) from fun y => y.elim e25 e26), if_neg e27, if_neg e28, if_neg e29]
    rfl
end LACK
