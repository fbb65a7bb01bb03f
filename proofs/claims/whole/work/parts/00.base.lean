/-! THE METHODS AS PARTIAL FUNCTIONS OF THE MEMORY: X: where outputs lie and what was made; I, J: ints and longs: what all share -/
def g_get {α : Type} (d : α) : List α → Nat → α
  | [], _ => d
  | x :: _, 0 => x
  | _ :: r, n + 1 => g_get d r n
/-- what a helper answers where an exception of class x is thrown inside -/
def am_hand (x : Nat) : List (Int32 × Nat) → Option Int32
  | [] => none
  | (k, z) :: r => bif Nat.beq z x then some k else am_hand x r
def t_lengths : List Int32 := [1, 9, 2, 2, 1, 1, 1, 1, 1, 1, 1, 2, 2, 3, 3, 2, 2, 4, 3, 2, 2, 2, 2, 4, 4, 4, 3, 2, 3, 1]
def t_rounds : List Int32 := [0x428a2f98, 0x71374491, 0xb5c0fbcf, 0xe9b5dba5, 0x3956c25b, 0x59f111f1, 0x923f82a4, 0xab1c5ed5, 0xd807aa98, 0x12835b01, 0x243185be, 0x550c7dc3, 0x72be5d74, 0x80deb1fe, 0x9bdc06a7, 0xc19bf174, 0xe49b69c1, 0xefbe4786, 0x0fc19dc6, 0x240ca1cc, 0x2de92c6f, 0x4a7484aa, 0x5cb0a9dc, 0x76f988da, 0x983e5152, 0xa831c66d, 0xb00327c8, 0xbf597fc7, 0xc6e00bf3, 0xd5a79147, 0x06ca6351, 0x14292967, 0x27b70a85, 0x2e1b2138, 0x4d2c6dfc, 0x53380d13, 0x650a7354, 0x766a0abb, 0x81c2c92e, 0x92722c85, 0xa2bfe8a1, 0xa81a664b, 0xc24b8b70, 0xc76c51a3, 0xd192e819, 0xd6990624, 0xf40e3585, 0x106aa070, 0x19a4c116, 0x1e376c08, 0x2748774c, 0x34b0bcb5, 0x391c0cb3, 0x4ed8aa4a, 0x5b9cca4f, 0x682e6ff3, 0x748f82ee, 0x78a5636f, 0x84c87814, 0x8cc70208, 0x90befffa, 0xa4506ceb, 0xbef9a3f7, 0xc67178f2]
def t_first : List Int32 := [0x6a09e667, 0xbb67ae85, 0x3c6ef372, 0xa54ff53a, 0x510e527f, 0x9b05688c, 0x1f83d9ab, 0x5be0cd19]
abbrev MX : Type := (Nat → Nat) × (Nat → Nat) × Nat × Nat × Nat
abbrev MI : Type := Nat → Nat → Int32
abbrev MJ : Type := Nat → Nat → Int64
abbrev gF : Nat := 1000000
def pl {α β : Type} (a : α) (f : α → β) : β := f a
theorem pl_eq {α β : Type} (a : α) (f : α → β) : pl a f = f a := rfl
/-- what a method gives: its answer and the memory -/
abbrev MR (α : Type) : Type := Option (α × MX × MI × MJ)
def ob {α β : Type} (x : MR α) (f : α → MX → MI → MJ → Option β) : Option β := match x with
  | some (v, X, I, J) => f v X I J
  | none => none
theorem ob_call {α β : Type} {x : MR α} {f : α → MX → MI → MJ → Option β} {r : β} (h : ob x f = some r) : ∃ v X I J, x = some (v, X, I, J) ∧ f v X I J = some r := by
  unfold ob at h
  split at h
  · exact ⟨_, _, _, _, rfl, h⟩
  · cases h
/-- plain methods: what was made stays -/
abbrev M2 (α : Type) : Type := Option (α × MI × MJ)
abbrev M3 : Type := Nat → Int32 → Int32 → MI → MJ → M2 Int32
def oc {α β : Type} (x : M2 α) (f : α → MI → MJ → Option β) : Option β := match x with
  | some (v, I, J) => f v I J
  | none => none
theorem oc_call {α β : Type} {x : M2 α} {f : α → MI → MJ → Option β} {r : β} (h : oc x f = some r) : ∃ v I J, x = some (v, I, J) ∧ f v I J = some r := by
  unfold oc at h
  split at h
  · exact ⟨_, _, _, rfl, h⟩
  · cases h
def oe {α β γ : Type} (x : α ⊕ γ) (f : α → β) (g : γ → β) : β := match x with
  | .inl v => f v
  | .inr v => g v
theorem oe_l {α β γ : Type} {v : α} {f : α → β} {g : γ → β} {r : β} (h : oe (.inl v) f g = r) : f v = r := h
theorem oe_r {α β γ : Type} {v : γ} {f : α → β} {g : γ → β} {r : β} (h : oe (.inr v) f g = r) : g v = r := h
theorem p_nm {α β : Type} {a : α} {f : α → β} {r : β} (h : pl a f = r) : ∃ x, x = a ∧ f x = r := ⟨a, rfl, h⟩
theorem p_nn {α : Type} {β : Type} {a : α} {f : α → β} {r : β} (h : pl a f = r) : ∃ x, a = x ∧ f x = r := ⟨a, rfl, h⟩
theorem s_inj {α : Type} {a b : α} {I I' : MI} {J J' : MJ} (h : some (a, I, J) = some (b, I', J')) : b = a ∧ I' = I ∧ J' = J := by
  injection h with h
  injection h with h1 h
  injection h with h2 h3
  exact ⟨h1.symm, h2.symm, h3.symm⟩
theorem s_inx {α : Type} {a b : α} {X X' : MX} {I I' : MI} {J J' : MJ} (h : some (a, X, I, J) = some (b, X', I', J')) : b = a ∧ X' = X ∧ I' = I ∧ J' = J := by
  injection h with h
  injection h with h1 h
  injection h with h0 h
  injection h with h2 h3
  exact ⟨h1.symm, h0.symm, h2.symm, h3.symm⟩
theorem i_pos {c : Prop} [Decidable c] {α : Type} {a b x : α} (h : c) (e : (if c then a else b) = x) : a = x := by rw [if_pos h] at e; exact e
theorem i_neg {c : Prop} [Decidable c] {α : Type} {a b x : α} (h : ¬ c) (e : (if c then a else b) = x) : b = x := by rw [if_neg h] at e; exact e
theorem ob_in {α : Type} {i : Int32} {m : Nat} {x : Option α} {r : α} (h : (if i < 0 ∨ m ≤ i.toNatClampNeg then none else x) = some r) : vp_in i m ∧ x = some r := by
  by_cases q : i < 0 ∨ m ≤ i.toNatClampNeg
  · rw [if_pos q] at h; cases h
  · rw [if_neg q] at h; exact ⟨q, h⟩
theorem ob_if {α : Type} {c : Prop} [Decidable c] {x : Option α} {r : α} (h : (if c then x else none) = some r) : c ∧ x = some r := by
  by_cases q : c
  · rw [if_pos q] at h; exact ⟨q, h⟩
  · rw [if_neg q] at h; cases h
theorem ob_not {α : Type} {c : Prop} [Decidable c] {x : Option α} {r : α} (h : (if c then none else x) = some r) : ¬ c ∧ x = some r := by
  by_cases q : c
  · rw [if_pos q] at h; cases h
  · rw [if_neg q] at h; exact ⟨q, h⟩
theorem vp_lt {i : Int32} {m : Nat} (h : vp_in i m) : i.toNatClampNeg < m := Nat.not_le.mp fun q => h (Or.inr q)
def xlen (X : MX) (w : Nat) : Nat := bif Nat.blt (X.1 w) 168 then 16 else X.2.1 (X.1 w)
def oa {β : Type} (X : MX) (w : Nat) (x : Option β) : Option β := if X.1 w < 168 + X.2.2.1 ∧ X.1 w < 1000000000 ∧ (X.1 w = 38 + 21 * w ∨ 168 ≤ X.1 w) then x else none
def o8 {β : Type} (X : MX) (x : Option β) : Option β := if 0 < X.2.2.1 ∧ X.2.1 168 = 1 then x else none
def xthr (X : MX) : MX := (X.1, X.2.1, X.2.2.1, X.2.2.2.1 + 1, X.2.2.2.2 + 6)
def oh (hk : List (Int32 × Nat)) (x : MR (Int32 ⊕ Nat)) : MR Int32 := ob x (fun q X I J => oe q (fun v => some (v, X, I, J)) (fun e => match am_hand e hk with
  | some k => some (k, xthr X, I, J)
  | none => none))
theorem oh_call {hk : List (Int32 × Nat)} {x : MR (Int32 ⊕ Nat)} {v : Int32} {X' : MX} {I' : MI} {J' : MJ} (h : oh hk x = some (v, X', I', J')) : x = some (.inl v, X', I', J') ∨ ∃ e k X0, x = some (.inr e, X0, I', J') ∧ am_hand e hk = some k ∧ k = v ∧ xthr X0 = X' := by
  obtain ⟨q, X, I, J, h1, h⟩ := ob_call h
  cases q with
  | inl u =>
    have h : some (u, X, I, J) = some (v, X', I', J') := h
    obtain ⟨rfl, rfl, rfl, rfl⟩ := s_inx h
    exact Or.inl h1
  | inr e =>
    have h : (match am_hand e hk with
      | some k => some (k, xthr X, I, J)
      | none => none) = some (v, X', I', J') := h
    cases hk1 : am_hand e hk with
    | none => rw [hk1] at h; cases h
    | some k =>
      rw [hk1] at h
      obtain ⟨rfl, rfl, rfl, rfl⟩ := s_inx h
      exact Or.inr ⟨e, v, X, h1, hk1, rfl, rfl⟩
