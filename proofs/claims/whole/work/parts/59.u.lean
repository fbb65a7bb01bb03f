/-! the run: a party stands well; numbers -/
section GOOD
variable {cd : Nat → Nat} {bs : Int64} {V c c0 : Nat → Nat → Nat} {P n : Nat} {st : Nat → Bool} {hg : Nat → Nat} {S S' : Nat → Nat → Nat}
theorem stl_w {va : Nat → Nat} (hW : WFc cd n P st hg) : ∀ (f pos h : Nat) (sk : Nat → Nat), n ≤ pos + f → st pos = true → hg pos = h → st (stl cd va f pos h sk).1 = true ∧ hg (stl cd va f pos h sk).1 = (stl cd va f pos h sk).2.1 ∧ ¬ (1 ≤ cd (stl cd va f pos h sk).1 ∧ cd (stl cd va f pos h sk).1 ≤ 3)
  | 0, pos, h, sk, a, b, d => by
    have := (WF_h hW b).1
    omega
  | f + 1, pos, h, sk, a, b, d => by
    show st (if 1 ≤ cd pos ∧ cd pos ≤ 3 then stl cd va f (pos + opl (cd pos)) (h + 1) (apn sk h (pv cd va pos)) else (pos, h, sk)).1 = true ∧ hg (if 1 ≤ cd pos ∧ cd pos ≤ 3 then stl cd va f (pos + opl (cd pos)) (h + 1) (apn sk h (pv cd va pos)) else (pos, h, sk)).1 = (if 1 ≤ cd pos ∧ cd pos ≤ 3 then stl cd va f (pos + opl (cd pos)) (h + 1) (apn sk h (pv cd va pos)) else (pos, h, sk)).2.1 ∧ ¬ (1 ≤ cd (if 1 ≤ cd pos ∧ cd pos ≤ 3 then stl cd va f (pos + opl (cd pos)) (h + 1) (apn sk h (pv cd va pos)) else (pos, h, sk)).1 ∧ cd (if 1 ≤ cd pos ∧ cd pos ≤ 3 then stl cd va f (pos + opl (cd pos)) (h + 1) (apn sk h (pv cd va pos)) else (pos, h, sk)).1 ≤ 3)
    by_cases y : 1 ≤ cd pos ∧ cd pos ≤ 3
    · rw [if_pos y]
      obtain ⟨q1, q2, q3, q4, q5, -⟩ := WF_lit hW b y.1 y.2
      exact stl_w hW f _ _ _ (by omega) q2 (by omega)
    · rw [if_neg y]
      exact ⟨b, d, y⟩
theorem lop_nk {e sk va kp : Nat → Nat} {inp bt pos h nk : Nat} (h1 : cd pos ≠ 28) (h2 : cd pos ≠ 29) : (lop cd e inp bt pos h sk va nk kp).2.2.2.2 = (nk, kp) := by
  unfold lop
  by_cases y : cd pos = 4 ∨ cd pos = 5 ∨ cd pos = 6
  · rw [if_pos y]
  rw [if_neg y]
  clear y
  by_cases y : cd pos = 7
  · rw [if_pos y]
  rw [if_neg y]
  clear y
  by_cases y : cd pos = 8
  · rw [if_pos y]
  rw [if_neg y]
  clear y
  by_cases y : cd pos = 9
  · rw [if_pos y]
  rw [if_neg y]
  clear y
  by_cases y : cd pos = 10
  · rw [if_pos y]
  rw [if_neg y]
  clear y
  by_cases y : cd pos = 11
  · rw [if_pos y]
  rw [if_neg y]
  clear y
  by_cases y : cd pos = 12
  · rw [if_pos y]
  rw [if_neg y]
  clear y
  by_cases y : cd pos = 13
  · rw [if_pos y]
  rw [if_neg y]
  clear y
  by_cases y : cd pos = 14
  · rw [if_pos y]
  rw [if_neg y]
  clear y
  by_cases y : cd pos = 15 ∨ cd pos = 16
  · rw [if_pos y]
  rw [if_neg y]
  clear y
  by_cases y : cd pos = 17
  · rw [if_pos y]
  rw [if_neg y]
  clear y
  by_cases y : cd pos = 18
  · rw [if_pos y]
  rw [if_neg y]
  clear y
  by_cases y : cd pos = 19
  · rw [if_pos y]
  rw [if_neg y]
  clear y
  by_cases y : cd pos = 20
  · rw [if_pos y]
  rw [if_neg y]
  clear y
  by_cases y : cd pos = 21
  · rw [if_pos y]
  rw [if_neg y]
  clear y
  by_cases y : cd pos = 22
  · rw [if_pos y]
  rw [if_neg y]
  clear y
  by_cases y : cd pos = 23 ∨ cd pos = 24 ∨ cd pos = 25
  · rw [if_pos y]
  rw [if_neg y]
  clear y
  by_cases y : cd pos = 26
  · rw [if_pos y]
  rw [if_neg y]
  clear y
  by_cases y : cd pos = 27
  · rw [if_pos y]
  rw [if_neg y]
  clear y
  rw [if_neg h1, if_neg h2]
theorem lop_28 {e sk va kp : Nat → Nat} {inp bt pos h nk : Nat} (h1 : cd pos = 28) : (lop cd e inp bt pos h sk va nk kp).2.2.2.2 = (nk + 1, apn kp nk (pos + 3)) := by
  unfold lop
  rw [h1]
  rfl
theorem lop_29 {e sk va kp : Nat → Nat} {inp bt pos h nk : Nat} (h1 : cd pos = 29) : (lop cd e inp bt pos h sk va nk kp).2.2.2.2 = (nk - 1, kp) := by
  unfold lop
  rw [h1]
  rfl
theorem lop_kp {e sk va kp : Nat → Nat} {inp bt pos h nk : Nat} (hW : WFc cd n P st hg) (hs : st pos = true) (hk : ∀ i, i < nk → st (kp i) = true ∧ hg (kp i) = 0) : ∀ i, i < (lop cd e inp bt pos h sk va nk kp).2.2.2.2.1 → st ((lop cd e inp bt pos h sk va nk kp).2.2.2.2.2 i) = true ∧ hg ((lop cd e inp bt pos h sk va nk kp).2.2.2.2.2 i) = 0 := by
  by_cases a : cd pos = 28
  · rw [lop_28 a]
    intro i hi
    show st (apn kp nk (pos + 3) i) = true ∧ hg (apn kp nk (pos + 3) i) = 0
    by_cases y : i = nk
    · rw [y, apn_s]
      obtain ⟨-, -, -, -, -, hA⟩ := hW
      obtain ⟨-, -, -, -, -, -, b7, -, b9⟩ := hA pos hs
      have h0 : hg pos = 0 := b9 (by rw [a]; decide)
      have := b7 (by omega) (by omega) (by omega)
      rw [a, show opl 28 = 3 from rfl, show nd 28 = 0 from rfl, show gv 28 = 0 from rfl, h0] at this
      exact this
    · rw [apn_n _ _ y]
      exact hk i (by
        have : i < nk + 1 := hi
        omega)
  · by_cases b : cd pos = 29
    · rw [lop_29 b]
      intro i hi
      exact hk i (by
        have : i < nk - 1 := hi
        omega)
    · rw [lop_nk a b]
      exact hk
/-- an operation done whole keeps a party well -/
theorem GD_L (hW : WFc cd n P st hg) (h : GD cd st hg c) (h4 : 4 ≤ cd (c 0 0)) (h29 : cd (c 0 0) = 29 → 1 ≤ c 0 2) : st (uL cd bs V c).1 = true ∧ hg (uL cd bs V c).1 = (uL cd bs V c).2.1 ∧ ∀ i, i < (uL cd bs V c).2.2.2.2.1 → st ((uL cd bs V c).2.2.2.2.2 i) = true ∧ hg ((uL cd bs V c).2.2.2.2.2 i) = 0 := by
  obtain ⟨g1, g2, g3, g4⟩ := h
  have hk : cd (c 0 0) = 29 → st (c 3 (c 0 2 - 1)) = true ∧ hg (c 3 (c 0 2 - 1)) = 0 := fun y => g4 _ (by
    have := h29 y
    omega)
  unfold uL
  split
  · have := lop_st (e := uE cd V c) (inp := uI cd V c) (bt := 0) (sk := c 1) (va := c 2) hW g1 g2 h4 hk
    exact ⟨this.1, this.2, lop_kp hW g1 g4⟩
  · have := lop_st (e := fun _ => 0) (inp := 0) (bt := dg_n bs (lN (c 0 6)) % 2) (sk := c 1) (va := c 2) hW g1 g2 h4 hk
    exact ⟨this.1, this.2, lop_kp hW g1 g4⟩
theorem GD_nx (hW : WFc cd n P st hg) (h : GD cd st hg c) (h4 : 4 ≤ cd (c 0 0)) (h29 : cd (c 0 0) = 29 → 1 ≤ c 0 2) : GD cd st hg (nx cd bs V c) := by
  obtain ⟨l1, l2, l3⟩ := GD_L (bs := bs) (V := V) hW h h4 h29
  have q := stl_w (va := (uL cd bs V c).2.2.2.1) hW 2000 (uL cd bs V c).1 (uL cd bs V c).2.1 (uL cd bs V c).2.2.1 (by
    have := hW.2.1
    omega) l1 l2
  rcases UK cd c with ⟨u, -⟩ | ⟨u, -⟩ | ⟨u, -⟩ | ⟨u, -⟩ | ⟨u, -⟩
  · rw [nx0 u]
    exact ⟨q.1, q.2.1, q.2.2, l3⟩
  · rw [nx1 u]
    exact ⟨q.1, q.2.1, q.2.2, l3⟩
  · rw [nx2 u]
    exact h
  · rw [nx3 u]
    exact h
  · rw [nx4 u]
    exact ⟨q.1, q.2.1, q.2.2, l3⟩
/-- inputs used, plain sends, by one who stands here -/
def usv (cd : Nat → Nat) (c : Nat → Nat → Nat) (f w : Nat) : Nat := c 8 w + (if f = 1 ∧ cd (c 0 0) = 13 then 1 else 0)
def psv (cd : Nat → Nat) (c : Nat → Nat → Nat) (f w : Nat) : Nat := c 6 w + (if f = 1 ∧ evb cd c = true then 1 else 0)
def stt (cd : Nat → Nat) (c : Nat → Nat → Nat) (cs lk : Nat) : Nat := if cs ≠ 0 then 3 else if lk ≠ 0 then 4 else if cd (c 0 0) = 0 then 2 else 1
def cph (cd : Nat → Nat) (c : Nat → Nat → Nat) (f w : Nat) : Nat := if cd (c 0 0) = 13 then (if cd (c 0 0 + 2) = w then f else 1) else c 0 8 + f
def NI (cd : Nat → Nat) (bs : Int64) (V c0 : Nat → Nat → Nat) (st : Nat → Bool) (hg : Nat → Nat) (P : Nat) (S : Nat → Nat → Nat) : Prop :=
  (∀ w, w < P → GD cd st hg (tr cd bs V c0 (S 0 w)) ∧ (S 10 w ≤ S 20 2 ∧ S 11 w ≤ S 20 3 ∧ tr cd bs V c0 (S 0 w) 0 6 ≤ S 20 4) ∧ (usv cd (tr cd bs V c0 (S 0 w)) (S 1 w) w ≤ S 13 w ∧ S 13 w ≤ 100) ∧ (S 12 w ≤ S 14 w ∧ S 14 w ≤ 200) ∧ (S 2 w ≤ 2 ∧ S 3 w < 8 ∧ S 4 w ≤ 1) ∧ tr cd bs V c0 (S 0 w) 0 10 + S 1 w ≤ S 20 0 ∧ S 8 w ≤ 2 * S 20 0 ∧ ∀ j, j < P → S (50 + w) j ≤ 1) ∧
  (S 20 0 ≤ 30000 ∧ S 20 1 ≤ S 20 0 ∧ S 20 2 ≤ 200 ∧ S 20 3 ≤ 200 ∧ S 20 4 ≤ 200)
/-- the core a run begins with -/
def C0 (cd : Nat → Nat) (c0 : Nat → Nat → Nat) : Prop := BND (cd := cd) c0 ∧ c0 0 3 = 0 ∧ c0 0 4 = 0 ∧ c0 0 5 = 0 ∧ c0 0 7 = 0 ∧ c0 0 10 = 0 ∧ c0 0 11 = 0 ∧ (∀ j, c0 6 j = 0) ∧ (∀ j, c0 7 j = 0)
theorem bn_1 (b : Bool) : bn b ≤ 1 := by
  unfold bn
  split <;> omega
theorem tr_rb (h : C0 cd c0) (j : Nat) : ∀ i, tr cd bs V c0 i 7 j ≤ tr cd bs V c0 i 0 10 ∧ tr cd bs V c0 i 6 j ≤ tr cd bs V c0 i 0 10
  | 0 => by
    obtain ⟨-, -, -, -, -, -, -, h6, h7⟩ := h
    exact ⟨by rw [show tr cd bs V c0 0 7 j = 0 from h7 j]; exact Nat.zero_le _, by rw [show tr cd bs V c0 0 6 j = 0 from h6 j]; exact Nat.zero_le _⟩
  | i + 1 => by
    have ih := tr_rb h j i
    have a := (nx_sc (cd := cd) (bs := bs) (V := V) (c := tr cd bs V c0 i)).1
    have b1 := bn_1 (snb cd (tr cd bs V c0 i) j)
    have b2 := bn_1 (evb cd (tr cd bs V c0 i) && sdf cd (tr cd bs V c0 i 0 0) j)
    rw [tr_s, nx_rs, nx_pl]
    omega
/-- what was put out stays -/
theorem nx_ou : c 0 3 ≤ nx cd bs V c 0 3 ∧ ∀ k, k < c 0 3 → nx cd bs V c 4 k = c 4 k := by
  rcases UK cd c with ⟨u, -⟩ | ⟨u, -⟩ | ⟨u, -⟩ | ⟨u, -⟩ | ⟨u, -⟩
  · rw [nx0 u]
    exact ⟨Nat.le_refl _, fun _ _ => rfl⟩
  · rw [nx1 u]
    exact ⟨Nat.le_refl _, fun _ _ => rfl⟩
  · rw [nx2 u]
    exact ⟨Nat.le_refl _, fun _ _ => rfl⟩
  · rw [nx3 u]
    exact ⟨Nat.le_refl _, fun _ _ => rfl⟩
  · rw [nx4 u]
    refine ⟨Nat.le_succ _, fun k hk => ?_⟩
    show apn (c 4) (c 0 3) _ k = c 4 k
    rw [apn_n _ _ (by omega)]
theorem tr_ou (i : Nat) : ∀ d, tr cd bs V c0 i 0 3 ≤ tr cd bs V c0 (i + d) 0 3 ∧ ∀ k, k < tr cd bs V c0 i 0 3 → tr cd bs V c0 (i + d) 4 k = tr cd bs V c0 i 4 k
  | 0 => ⟨Nat.le_refl _, fun _ _ => rfl⟩
  | d + 1 => by
    have ih := tr_ou i d
    have q := nx_ou (cd := cd) (bs := bs) (V := V) (c := tr cd bs V c0 (i + d))
    rw [show i + (d + 1) = (i + d) + 1 from rfl, tr_s]
    exact ⟨Nat.le_trans ih.1 q.1, fun k hk => by rw [q.2 k (Nat.lt_of_lt_of_le hk ih.1), ih.2 k hk]⟩
end GOOD
