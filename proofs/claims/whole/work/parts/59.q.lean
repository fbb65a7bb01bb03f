/-! the run: what holds of the trace -/
section TRACE
variable {cd : Nat → Nat} {bs : Int64} {V V' c c0 : Nat → Nat → Nat}
/-- an event -/
def evb (cd : Nat → Nat) (c : Nat → Nat → Nat) : Bool := decide (uk cd c = 1 ∨ uk cd c = 3)
/-- who sends in a unit -/
def snb (cd : Nat → Nat) (c : Nat → Nat → Nat) (j : Nat) : Bool := decide (uk cd c = 1 ∨ uk cd c = 2 ∨ uk cd c = 3) && sdf cd (c 0 0) j
theorem sdf_t {pos j : Nat} (h : cd pos ≠ 13) : sdf cd pos j = true := if_neg h
theorem nus_le (x : Nat) : nus x ≤ 32 := by
  unfold nus
  split
  · omega
  · split <;> omega
theorem nx_ev : nx cd bs V c 0 4 = c 0 4 + bn (evb cd c) := by
  unfold evb
  rcases UK cd c with ⟨u, q⟩ | ⟨u, q⟩ | ⟨u, q⟩ | ⟨u, q⟩ | ⟨u, q⟩
  · rw [nx0 u, u]
    rfl
  · rw [nx1 u, u]
    rfl
  · rw [nx2 u, u]
    rfl
  · rw [nx3 u, u]
    rfl
  · rw [nx4 u, u]
    rfl
theorem nx_pl (j : Nat) : nx cd bs V c 6 j = c 6 j + bn (evb cd c && sdf cd (c 0 0) j) := by
  unfold evb
  rcases UK cd c with ⟨u, q⟩ | ⟨u, q⟩ | ⟨u, q⟩ | ⟨u, q⟩ | ⟨u, q⟩
  · rw [nx0 u, u]
    rfl
  · rw [nx1 u, u]
    rfl
  · rw [nx2 u, u]
    rfl
  · rw [nx3 u, u, sdf_t (by omega)]
    rfl
  · rw [nx4 u, u]
    rfl
theorem nx_rs (j : Nat) : nx cd bs V c 7 j = c 7 j + bn (snb cd c j) := by
  unfold snb
  rcases UK cd c with ⟨u, q⟩ | ⟨u, q⟩ | ⟨u, q⟩ | ⟨u, q⟩ | ⟨u, q⟩
  · rw [nx0 u, u]
    rfl
  · rw [nx1 u, u]
    rfl
  · rw [nx2 u, u, sdf_t (by omega)]
    rfl
  · rw [nx3 u, u, sdf_t (by omega)]
    rfl
  · rw [nx4 u, u]
    rfl
theorem nx_iu (j : Nat) : nx cd bs V c 8 j = c 8 j + (if uk cd c = 1 ∧ cd (c 0 0) = 13 ∧ j = cd (c 0 0 + 2) then 1 else 0) := by
  rcases UK cd c with ⟨u, q⟩ | ⟨u, q⟩ | ⟨u, q⟩ | ⟨u, q⟩ | ⟨u, q⟩
  · rw [nx0 u, if_neg (by omega)]
    rfl
  · rw [nx1 u]
    show c 8 j + (if cd (c 0 0) = 13 ∧ j = cd (c 0 0 + 2) then 1 else 0) = _
    by_cases e : cd (c 0 0) = 13 ∧ j = cd (c 0 0 + 2)
    · rw [if_pos e, if_pos ⟨u, e⟩]
    · rw [if_neg e, if_neg (fun y => e y.2)]
  · rw [nx2 u, if_neg (by omega)]
    rfl
  · rw [nx3 u, if_neg (by omega)]
    rfl
  · rw [nx4 u, if_neg (by omega)]
    rfl
theorem nx_nc : nx cd bs V c 0 5 = c 0 5 + (if uk cd c = 2 ∧ (c 0 8 = 6 ∨ c 0 8 = 16) then 1 else 0) := by
  rcases UK cd c with ⟨u, q⟩ | ⟨u, q⟩ | ⟨u, q⟩ | ⟨u, q⟩ | ⟨u, q⟩
  · rw [nx0 u, if_neg (by omega)]
    rfl
  · rw [nx1 u, if_neg (by omega)]
    rfl
  · rw [nx2 u]
    show c 0 5 + (if c 0 8 = 6 ∨ c 0 8 = 16 then 1 else 0) = _
    by_cases e : c 0 8 = 6 ∨ c 0 8 = 16
    · rw [if_pos e, if_pos ⟨u, e⟩]
    · rw [if_neg e, if_neg (fun y => e y.2)]
  · rw [nx3 u, if_neg (by omega)]
    rfl
  · rw [nx4 u, if_neg (by omega)]
    rfl
/-- steps: at least one; two where all send -/
theorem nx_sc : c 0 10 + 1 ≤ nx cd bs V c 0 10 ∧ (∀ j, snb cd c j = true → nx cd bs V c 0 10 = c 0 10 + (if cd (c 0 0) = 13 then 1 else 2)) := by
  unfold snb
  rcases UK cd c with ⟨u, q⟩ | ⟨u, q⟩ | ⟨u, q⟩ | ⟨u, q⟩ | ⟨u, q⟩
  · rw [nx0 u, u]
    refine ⟨Nat.le_refl _, fun j y => ?_⟩
    rw [show (decide ((0 : Nat) = 1 ∨ (0 : Nat) = 2 ∨ (0 : Nat) = 3)) = false from rfl, Bool.false_and] at y
    cases y
  · rw [nx1 u, u]
    refine ⟨?_, fun j y => rfl⟩
    show c 0 10 + 1 ≤ c 0 10 + (if cd (c 0 0) = 13 then 1 else 2)
    split <;> omega
  · rw [nx2 u, u]
    refine ⟨Nat.le_succ _, fun j y => ?_⟩
    rw [if_neg (by omega)]
    rfl
  · rw [nx3 u, u]
    refine ⟨Nat.le_succ _, fun j y => ?_⟩
    rw [if_neg (by omega)]
    rfl
  · rw [nx4 u, u]
    refine ⟨Nat.le_refl _, fun j y => ?_⟩
    rw [show (decide ((4 : Nat) = 1 ∨ (4 : Nat) = 2 ∨ (4 : Nat) = 3)) = false from rfl, Bool.false_and] at y
    cases y
theorem tr_le {f : (Nat → Nat → Nat) → Nat} (hf : ∀ c, f c ≤ f (nx cd bs V c)) (i : Nat) : ∀ d, f (tr cd bs V c0 i) ≤ f (tr cd bs V c0 (i + d))
  | 0 => Nat.le_refl _
  | d + 1 => Nat.le_trans (tr_le hf i d) (hf _)
theorem tr_ev {i k : Nat} (h : i ≤ k) : tr cd bs V c0 i 0 4 ≤ tr cd bs V c0 k 0 4 := by
  have := tr_le (c0 := c0) (cd := cd) (bs := bs) (V := V) (f := fun c => c 0 4) (fun c => by show c 0 4 ≤ nx cd bs V c 0 4; rw [nx_ev]; omega) i (k - i)
  rwa [show i + (k - i) = k by omega] at this
theorem tr_pl {i k : Nat} (j : Nat) (h : i ≤ k) : tr cd bs V c0 i 6 j ≤ tr cd bs V c0 k 6 j := by
  have := tr_le (c0 := c0) (cd := cd) (bs := bs) (V := V) (f := fun c => c 6 j) (fun c => by show c 6 j ≤ nx cd bs V c 6 j; rw [nx_pl]; omega) i (k - i)
  rwa [show i + (k - i) = k by omega] at this
theorem tr_rs {i k : Nat} (j : Nat) (h : i ≤ k) : tr cd bs V c0 i 7 j ≤ tr cd bs V c0 k 7 j := by
  have := tr_le (c0 := c0) (cd := cd) (bs := bs) (V := V) (f := fun c => c 7 j) (fun c => by show c 7 j ≤ nx cd bs V c 7 j; rw [nx_rs]; omega) i (k - i)
  rwa [show i + (k - i) = k by omega] at this
theorem tr_iu {i k : Nat} (j : Nat) (h : i ≤ k) : tr cd bs V c0 i 8 j ≤ tr cd bs V c0 k 8 j := by
  have := tr_le (c0 := c0) (cd := cd) (bs := bs) (V := V) (f := fun c => c 8 j) (fun c => by show c 8 j ≤ nx cd bs V c 8 j; rw [nx_iu]; omega) i (k - i)
  rwa [show i + (k - i) = k by omega] at this
theorem tr_nc {i k : Nat} (h : i ≤ k) : tr cd bs V c0 i 0 5 ≤ tr cd bs V c0 k 0 5 := by
  have := tr_le (c0 := c0) (cd := cd) (bs := bs) (V := V) (f := fun c => c 0 5) (fun c => by show c 0 5 ≤ nx cd bs V c 0 5; rw [nx_nc]; omega) i (k - i)
  rwa [show i + (k - i) = k by omega] at this
theorem tr_evlt {i k : Nat} (he : evb cd (tr cd bs V c0 i) = true) (h : i < k) : tr cd bs V c0 i 0 4 < tr cd bs V c0 k 0 4 := by
  have a := tr_ev (cd := cd) (bs := bs) (V := V) (c0 := c0) (show i + 1 ≤ k from h)
  rw [tr_s, nx_ev, he] at a
  exact a
theorem tr_pllt {i k j : Nat} (he : evb cd (tr cd bs V c0 i) = true) (hj : sdf cd (tr cd bs V c0 i 0 0) j = true) (h : i < k) : tr cd bs V c0 i 6 j < tr cd bs V c0 k 6 j := by
  have a := tr_pl (cd := cd) (bs := bs) (V := V) (c0 := c0) j (show i + 1 ≤ k from h)
  rw [tr_s, nx_pl, he, hj] at a
  exact a
/-- bounds -/
def stv (sg : Nat) : Nat := if sg < 8 then sg else if 10 ≤ sg ∧ sg < 18 then sg - 10 else 0
def BND (c : Nat → Nat → Nat) : Prop := c 0 4 ≤ c 0 10 ∧ c 0 3 ≤ c 0 10 ∧ c 0 7 ≤ 32 * c 0 10 ∧ c 0 11 ≤ c 0 4 ∧ 8 * c 0 5 + stv (c 0 8) ≤ c 0 10 ∧ SGV (cd (c 0 0)) (c 0 8)
theorem stv_f (pos o : Nat) : stv (fp0 cd pos o) = 0 := by
  unfold fp0
  split
  · split <;> rfl
  · rfl
theorem BND_nx (h : BND (cd := cd) c) : BND (cd := cd) (nx cd bs V c) := by
  obtain ⟨h1, h2, h3, h4, h5, h6⟩ := h
  refine ⟨?_, ?_, ?_, ?_, ?_, SGV_nx h6⟩
  · have := (nx_sc (cd := cd) (bs := bs) (V := V) (c := c)).1
    rw [nx_ev]
    unfold bn
    split <;> omega
  all_goals rcases UK cd c with ⟨u, q⟩ | ⟨u, q⟩ | ⟨u, q⟩ | ⟨u, q⟩ | ⟨u, q⟩
  · rw [nx0 u]
    show c 0 3 ≤ c 0 10 + 1
    omega
  · rw [nx1 u]
    show c 0 3 ≤ c 0 10 + (if cd (c 0 0) = 13 then 1 else 2)
    omega
  · rw [nx2 u]
    show c 0 3 ≤ c 0 10 + 2
    omega
  · rw [nx3 u]
    show c 0 3 ≤ c 0 10 + 2
    omega
  · rw [nx4 u]
    show c 0 3 + 1 ≤ c 0 10 + 1
    omega
  · rw [nx0 u]
    show c 0 7 ≤ 32 * (c 0 10 + 1)
    omega
  · rw [nx1 u]
    show c 0 7 + (if cd (c 0 0) = 13 then 0 else nus (cd (c 0 0))) ≤ 32 * (c 0 10 + (if cd (c 0 0) = 13 then 1 else 2))
    have := nus_le (cd (c 0 0))
    split <;> omega
  · rw [nx2 u]
    show (if c 0 8 = 6 ∨ c 0 8 = 16 then 0 else c 0 7) ≤ 32 * (c 0 10 + 2)
    split <;> omega
  · rw [nx3 u]
    show c 0 7 + 1 ≤ 32 * (c 0 10 + 2)
    omega
  · rw [nx4 u]
    show c 0 7 ≤ 32 * (c 0 10 + 1)
    omega
  · rw [nx0 u]
    exact h4
  · rw [nx1 u]
    exact Nat.le_succ_of_le h4
  · rw [nx2 u]
    show (if c 0 8 = 6 ∨ c 0 8 = 16 then c 0 4 else c 0 11) ≤ c 0 4
    split <;> omega
  · rw [nx3 u]
    exact Nat.le_succ_of_le h4
  · rw [nx4 u]
    exact h4
  · rw [nx0 u]
    show 8 * c 0 5 + stv (fp0 cd _ _) ≤ c 0 10 + 1
    rw [stv_f]
    omega
  · rw [nx1 u]
    show 8 * c 0 5 + stv (fp0 cd _ _) ≤ c 0 10 + (if cd (c 0 0) = 13 then 1 else 2)
    rw [stv_f]
    omega
  · rw [nx2 u]
    show 8 * (c 0 5 + (if c 0 8 = 6 ∨ c 0 8 = 16 then 1 else 0)) + stv (c 0 8 + 2) ≤ c 0 10 + 2
    have z : (c 0 8 = 0 ∨ c 0 8 = 2 ∨ c 0 8 = 4 ∨ c 0 8 = 10 ∨ c 0 8 = 12 ∨ c 0 8 = 14) ∨ (c 0 8 = 6 ∨ c 0 8 = 16) := by
      unfold SGV at h6
      omega
    rcases z with z | z
    · rw [if_neg (by omega)]
      have : stv (c 0 8 + 2) = stv (c 0 8) + 2 := by
        rcases z with z | z | z | z | z | z <;> (rw [z]; rfl)
      omega
    · rw [if_pos z]
      have : stv (c 0 8 + 2) = 0 ∧ stv (c 0 8) = 6 := by
        rcases z with z | z <;> (rw [z]; exact ⟨rfl, rfl⟩)
      omega
  · rw [nx3 u]
    show 8 * c 0 5 + stv 10 ≤ c 0 10 + 2
    rw [show stv 10 = 0 from rfl]
    omega
  · rw [nx4 u]
    show 8 * c 0 5 + stv (fp0 cd _ _) ≤ c 0 10 + 1
    rw [stv_f]
    omega
theorem tr_BND (h : BND (cd := cd) c0) : ∀ i, BND (cd := cd) (tr cd bs V c0 i)
  | 0 => h
  | i + 1 => BND_nx (tr_BND h i)
/-- where the environment is the same, so is the trace -/
theorem nx_c (h1 : uk cd c = 1 ∨ uk cd c = 3 → uE cd V c = uE cd V' c) (h2 : uk cd c = 1 → cd (c 0 0) = 13 → uI cd V c = uI cd V' c) : nx cd bs V c = nx cd bs V' c := by
  rcases UK cd c with ⟨u, q⟩ | ⟨u, q⟩ | ⟨u, q⟩ | ⟨u, q⟩ | ⟨u, q⟩
  · have e : uL cd bs V c = uL cd bs V' c := by
      unfold uL
      rw [if_neg (fun y => q.2.2 (shb_t.mp y)), if_neg (fun y => q.2.2 (shb_t.mp y))]
    rw [nx0 u, nx0 u]
    unfold N0 uS
    rw [e]
  · have e0 := h1 (Or.inl u)
    have e1 : uI cd V c = uI cd V' c := by
      by_cases y : cd (c 0 0) = 13
      · exact h2 u y
      · unfold uI
        rw [if_neg y, if_neg y]
    have e : uL cd bs V c = uL cd bs V' c := by
      unfold uL
      rw [e0, e1]
    rw [nx1 u, nx1 u]
    unfold N1 uS
    rw [e, e0]
  · rw [nx2 u, nx2 u]
  · rw [nx3 u, nx3 u]
    unfold N3
    rw [h1 (Or.inr u)]
  · have e : uL cd bs V c = uL cd bs V' c := by
      have y : ¬ shb cd (c 0 0) = true := fun y => by
        have z := shb_t.mp y
        unfold shd jnt at z
        omega
      unfold uL
      rw [if_neg y, if_neg y]
    rw [nx4 u, nx4 u]
    unfold N4 uS
    rw [e]
theorem tr_c {N : Nat} (h1 : ∀ i, i < N → evb cd (tr cd bs V c0 i) = true → uE cd V (tr cd bs V c0 i) = uE cd V' (tr cd bs V c0 i)) (h2 : ∀ i, i < N → uk cd (tr cd bs V c0 i) = 1 → cd (tr cd bs V c0 i 0 0) = 13 → uI cd V (tr cd bs V c0 i) = uI cd V' (tr cd bs V c0 i)) : ∀ i, i ≤ N → tr cd bs V' c0 i = tr cd bs V c0 i
  | 0, _ => rfl
  | i + 1, h => by
    rw [tr_s, tr_s, tr_c h1 h2 i (by omega)]
    exact (nx_c (fun y => h1 i (by omega) (decide_eq_true y)) (h2 i (by omega))).symm
end TRACE
