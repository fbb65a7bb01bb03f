/-! the run: the trace that all parties pass, unit by unit -/
/-- a core: 0: place, height, kept, outs, events, checks, bits, opened, phase, shown, steps, checked; 1 pile, 2 variables, 3 kept, 4 outs, 5 errors, 6 plain sends, 7 sends, 8 inputs -/
def shb (cd : Nat → Nat) (pos : Nat) : Bool := decide (cd pos = 7 ∨ cd pos = 10 ∨ cd pos = 13 ∨ cd pos = 14 ∨ (cd pos = 25 ∧ 4 ≤ cd (pos + 2) ∧ 4 ≤ cd (pos + 3)) ∨ (cd pos = 26 ∧ 4 ≤ cd (pos + 1) ∧ 4 ≤ cd (pos + 2)))
theorem shb_t {cd : Nat → Nat} {pos : Nat} : shb cd pos = true ↔ shd cd pos := decide_eq_true_iff
theorem shb_f {cd : Nat → Nat} {pos : Nat} : shb cd pos = false ↔ ¬ shd cd pos := by
  rw [← shb_t]
  cases shb cd pos <;> decide
def uk (cd : Nat → Nat) (c : Nat → Nat → Nat) : Nat := if cd (c 0 0) = 15 then (if c 0 8 < 8 then 2 else 4) else if cd (c 0 0) = 16 then (if c 0 8 = 8 then 3 else if c 0 8 = 18 then 4 else 2) else if shb cd (c 0 0) = true then 1 else 0
def uE (cd : Nat → Nat) (V : Nat → Nat → Nat) (c : Nat → Nat → Nat) : Nat → Nat := eE (V 0 0) (V 1) (V 2) (V 3) (V 4) (sdf cd (c 0 0)) (c 6)
def uI (cd : Nat → Nat) (V : Nat → Nat → Nat) (c : Nat → Nat → Nat) : Nat := if cd (c 0 0) = 13 then V (10 + cd (c 0 0 + 2)) (c 8 (cd (c 0 0 + 2))) else 0
def uL (cd : Nat → Nat) (bs : Int64) (V : Nat → Nat → Nat) (c : Nat → Nat → Nat) : LO6 := if shb cd (c 0 0) = true then lop cd (uE cd V c) (uI cd V c) 0 (c 0 0) (c 0 1) (c 1) (c 2) (c 0 2) (c 3) else lop cd (fun _ => 0) 0 (dg_n bs (lN (c 0 6)) % 2) (c 0 0) (c 0 1) (c 1) (c 2) (c 0 2) (c 3)
def uS (cd : Nat → Nat) (bs : Int64) (V : Nat → Nat → Nat) (c : Nat → Nat → Nat) : Nat × Nat × (Nat → Nat) := stl cd (uL cd bs V c).2.2.2.1 2000 (uL cd bs V c).1 (uL cd bs V c).2.1 (uL cd bs V c).2.2.1
def fp0 (cd : Nat → Nat) (pos o : Nat) : Nat := if cd pos = 15 ∨ cd pos = 16 then (if o = 0 then 8 else 0) else 0
/-- more errors -/
def ape (er : Nat → Nat) (op : Nat) (e : Nat → Nat) : Nat → Nat := fun q => if q < op then er q else e (q - op)
def bn (b : Bool) : Nat := if b = true then 1 else 0
/-- a step alone -/
def N0 (cd : Nat → Nat) (bs : Int64) (V : Nat → Nat → Nat) (c : Nat → Nat → Nat) : Nat → Nat → Nat := fun k => match k with
  | 0 => fun i => match i with
    | 0 => (uS cd bs V c).1
    | 1 => (uS cd bs V c).2.1
    | 2 => (uL cd bs V c).2.2.2.2.1
    | 6 => c 0 6 + (if cd (c 0 0) = 27 then 1 else 0)
    | 8 => fp0 cd (uS cd bs V c).1 (c 0 7)
    | 10 => c 0 10 + 1
    | i => c 0 i
  | 1 => (uS cd bs V c).2.2
  | 2 => (uL cd bs V c).2.2.2.1
  | 3 => (uL cd bs V c).2.2.2.2.2
  | k => c k
/-- an operation that is shared -/
def N1 (cd : Nat → Nat) (bs : Int64) (V : Nat → Nat → Nat) (c : Nat → Nat → Nat) : Nat → Nat → Nat := fun k => match k with
  | 0 => fun i => match i with
    | 0 => (uS cd bs V c).1
    | 1 => (uS cd bs V c).2.1
    | 2 => (uL cd bs V c).2.2.2.2.1
    | 4 => c 0 4 + 1
    | 7 => c 0 7 + (if cd (c 0 0) = 13 then 0 else nus (cd (c 0 0)))
    | 8 => fp0 cd (uS cd bs V c).1 (c 0 7 + (if cd (c 0 0) = 13 then 0 else nus (cd (c 0 0))))
    | 10 => c 0 10 + (if cd (c 0 0) = 13 then 1 else 2)
    | i => c 0 i
  | 1 => (uS cd bs V c).2.2
  | 2 => (uL cd bs V c).2.2.2.1
  | 3 => (uL cd bs V c).2.2.2.2.2
  | 5 => if cd (c 0 0) = 13 then c 5 else ape (c 5) (c 0 7) (uE cd V c)
  | 6 => fun j => c 6 j + bn (sdf cd (c 0 0) j)
  | 7 => fun j => c 7 j + bn (sdf cd (c 0 0) j)
  | 8 => fun q => c 8 q + (if cd (c 0 0) = 13 ∧ q = cd (c 0 0 + 2) then 1 else 0)
  | k => c k
/-- two rounds of a check -/
def N2 (c : Nat → Nat → Nat) : Nat → Nat → Nat := fun k => match k with
  | 0 => fun i => match i with
    | 5 => c 0 5 + (if c 0 8 = 6 ∨ c 0 8 = 16 then 1 else 0)
    | 7 => if c 0 8 = 6 ∨ c 0 8 = 16 then 0 else c 0 7
    | 8 => c 0 8 + 2
    | 10 => c 0 10 + 2
    | 11 => if c 0 8 = 6 ∨ c 0 8 = 16 then c 0 4 else c 0 11
    | i => c 0 i
  | 7 => fun j => c 7 j + 1
  | k => c k
/-- what is shown -/
def N3 (cd : Nat → Nat) (V : Nat → Nat → Nat) (c : Nat → Nat → Nat) : Nat → Nat → Nat := fun k => match k with
  | 0 => fun i => match i with
    | 4 => c 0 4 + 1
    | 7 => c 0 7 + 1
    | 8 => 10
    | 9 => pA (c 2 (13 + cd (c 0 0 + 1))) (uE cd V c 0)
    | 10 => c 0 10 + 2
    | i => c 0 i
  | 5 => ape (c 5) (c 0 7) (uE cd V c)
  | 6 => fun j => c 6 j + 1
  | 7 => fun j => c 7 j + 1
  | k => c k
/-- what is put out -/
def N4 (cd : Nat → Nat) (bs : Int64) (V : Nat → Nat → Nat) (c : Nat → Nat → Nat) : Nat → Nat → Nat := fun k => match k with
  | 0 => fun i => match i with
    | 0 => (uS cd bs V c).1
    | 1 => (uS cd bs V c).2.1
    | 2 => (uL cd bs V c).2.2.2.2.1
    | 3 => c 0 3 + 1
    | 8 => fp0 cd (uS cd bs V c).1 (c 0 7)
    | 10 => c 0 10 + 1
    | i => c 0 i
  | 1 => (uS cd bs V c).2.2
  | 2 => (uL cd bs V c).2.2.2.1
  | 3 => (uL cd bs V c).2.2.2.2.2
  | 4 => apn (c 4) (c 0 3) (if cd (c 0 0) = 15 then c 2 (cd (c 0 0 + 1)) else c 0 9)
  | k => c k
def nx (cd : Nat → Nat) (bs : Int64) (V : Nat → Nat → Nat) (c : Nat → Nat → Nat) : Nat → Nat → Nat := if uk cd c = 0 then N0 cd bs V c else if uk cd c = 1 then N1 cd bs V c else if uk cd c = 2 then N2 c else if uk cd c = 3 then N3 cd V c else N4 cd bs V c
def tr (cd : Nat → Nat) (bs : Int64) (V : Nat → Nat → Nat) (c0 : Nat → Nat → Nat) : Nat → Nat → Nat → Nat
  | 0 => c0
  | i + 1 => nx cd bs V (tr cd bs V c0 i)
section NX
variable {cd : Nat → Nat} {bs : Int64} {V c c0 : Nat → Nat → Nat}
theorem nx0 (h : uk cd c = 0) : nx cd bs V c = N0 cd bs V c := if_pos h
theorem nx1 (h : uk cd c = 1) : nx cd bs V c = N1 cd bs V c := by
  unfold nx
  rw [h]
  rfl
theorem nx2 (h : uk cd c = 2) : nx cd bs V c = N2 c := by
  unfold nx
  rw [h]
  rfl
theorem nx3 (h : uk cd c = 3) : nx cd bs V c = N3 cd V c := by
  unfold nx
  rw [h]
  rfl
theorem nx4 (h : uk cd c = 4) : nx cd bs V c = N4 cd bs V c := by
  unfold nx
  rw [h]
  rfl
/-- which units there are -/
theorem UK (cd : Nat → Nat) (c : Nat → Nat → Nat) : (uk cd c = 0 ∧ cd (c 0 0) ≠ 15 ∧ cd (c 0 0) ≠ 16 ∧ ¬ shd cd (c 0 0)) ∨ (uk cd c = 1 ∧ cd (c 0 0) ≠ 15 ∧ cd (c 0 0) ≠ 16 ∧ shd cd (c 0 0)) ∨ (uk cd c = 2 ∧ ((cd (c 0 0) = 15 ∧ c 0 8 < 8) ∨ (cd (c 0 0) = 16 ∧ c 0 8 ≠ 8 ∧ c 0 8 ≠ 18))) ∨ (uk cd c = 3 ∧ cd (c 0 0) = 16 ∧ c 0 8 = 8) ∨ (uk cd c = 4 ∧ ((cd (c 0 0) = 15 ∧ 8 ≤ c 0 8) ∨ (cd (c 0 0) = 16 ∧ c 0 8 = 18))) := by
  unfold uk
  by_cases a : cd (c 0 0) = 15
  · rw [if_pos a]
    by_cases b : c 0 8 < 8
    · rw [if_pos b]
      exact Or.inr (Or.inr (Or.inl ⟨rfl, Or.inl ⟨a, b⟩⟩))
    · rw [if_neg b]
      exact Or.inr (Or.inr (Or.inr (Or.inr ⟨rfl, Or.inl ⟨a, by omega⟩⟩)))
  · rw [if_neg a]
    by_cases b : cd (c 0 0) = 16
    · rw [if_pos b]
      by_cases d : c 0 8 = 8
      · rw [if_pos d]
        exact Or.inr (Or.inr (Or.inr (Or.inl ⟨rfl, b, d⟩)))
      · rw [if_neg d]
        by_cases e : c 0 8 = 18
        · rw [if_pos e]
          exact Or.inr (Or.inr (Or.inr (Or.inr ⟨rfl, Or.inr ⟨b, e⟩⟩)))
        · rw [if_neg e]
          exact Or.inr (Or.inr (Or.inl ⟨rfl, Or.inr ⟨b, d, e⟩⟩))
    · rw [if_neg b]
      cases q : shb cd (c 0 0) with
      | true =>
        rw [if_pos rfl]
        exact Or.inr (Or.inl ⟨rfl, a, b, shb_t.mp q⟩)
      | false =>
        rw [if_neg (by decide)]
        exact Or.inl ⟨rfl, a, b, shb_f.mp q⟩
/-- which phases begin a unit -/
def SGV (c sg : Nat) : Prop := (c = 15 ∧ (sg = 0 ∨ sg = 2 ∨ sg = 4 ∨ sg = 6 ∨ sg = 8)) ∨ (c = 16 ∧ (sg = 0 ∨ sg = 2 ∨ sg = 4 ∨ sg = 6 ∨ sg = 8 ∨ sg = 10 ∨ sg = 12 ∨ sg = 14 ∨ sg = 16 ∨ sg = 18)) ∨ (c ≠ 15 ∧ c ≠ 16 ∧ sg = 0)
theorem SGV_0 (pos o : Nat) : SGV (cd pos) (fp0 cd pos o) := by
  unfold SGV fp0
  by_cases a : cd pos = 15
  · rw [if_pos (Or.inl a)]
    by_cases b : o = 0
    · rw [if_pos b]
      exact Or.inl ⟨a, by omega⟩
    · rw [if_neg b]
      exact Or.inl ⟨a, by omega⟩
  · by_cases d : cd pos = 16
    · rw [if_pos (Or.inr d)]
      by_cases b : o = 0
      · rw [if_pos b]
        exact Or.inr (Or.inl ⟨d, by omega⟩)
      · rw [if_neg b]
        exact Or.inr (Or.inl ⟨d, by omega⟩)
    · rw [if_neg (by omega)]
      exact Or.inr (Or.inr ⟨a, d, rfl⟩)
theorem SGV_nx (h : SGV (cd (c 0 0)) (c 0 8)) : SGV (cd (nx cd bs V c 0 0)) (nx cd bs V c 0 8) := by
  rcases UK cd c with ⟨u, q⟩ | ⟨u, q⟩ | ⟨u, q⟩ | ⟨u, q⟩ | ⟨u, q⟩
  · rw [nx0 u]
    exact SGV_0 _ _
  · rw [nx1 u]
    exact SGV_0 _ _
  · rw [nx2 u]
    show SGV (cd (c 0 0)) (c 0 8 + 2)
    unfold SGV at h ⊢
    omega
  · rw [nx3 u]
    show SGV (cd (c 0 0)) 10
    exact Or.inr (Or.inl ⟨q.1, by omega⟩)
  · rw [nx4 u]
    exact SGV_0 _ _
theorem tr_s (i : Nat) : tr cd bs V c0 (i + 1) = nx cd bs V (tr cd bs V c0 i) := rfl
theorem tr_SGV (h : SGV (cd (c0 0 0)) (c0 0 8)) : ∀ i, SGV (cd (tr cd bs V c0 i 0 0)) (tr cd bs V c0 i 0 8)
  | 0 => h
  | i + 1 => SGV_nx (tr_SGV h i)
/-- a check's unit -/
theorem UK2 (h : SGV (cd (c 0 0)) (c 0 8)) (u : uk cd c = 2) : ∃ s, s < 8 ∧ s % 2 = 0 ∧ (c 0 8 = s ∨ (c 0 8 = s + 10 ∧ cd (c 0 0) = 16)) ∧ ((s = 6) ↔ (c 0 8 = 6 ∨ c 0 8 = 16)) := by
  rcases UK cd c with ⟨v, q⟩ | ⟨v, q⟩ | ⟨v, q⟩ | ⟨v, q⟩ | ⟨v, q⟩
  · omega
  · omega
  · unfold SGV at h
    by_cases e : c 0 8 < 8
    · exact ⟨c 0 8, e, by omega, Or.inl rfl, by omega⟩
    · exact ⟨c 0 8 - 10, by omega, by omega, Or.inr ⟨by omega, by omega⟩, by omega⟩
  · omega
  · omega
end NX
