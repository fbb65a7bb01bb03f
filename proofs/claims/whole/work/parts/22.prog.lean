/-! the program: its tables, its new objects -/
def t_lengths : List Int32 := [1, 9, 2, 2, 1, 1, 1, 1, 1, 1, 1, 2, 2, 3, 3, 2, 2, 4, 3, 2, 2, 2, 2, 4, 4, 4, 3, 2, 3, 1]
def t_rounds : List Int32 := [0x428a2f98, 0x71374491, 0xb5c0fbcf, 0xe9b5dba5, 0x3956c25b, 0x59f111f1, 0x923f82a4, 0xab1c5ed5, 0xd807aa98, 0x12835b01, 0x243185be, 0x550c7dc3, 0x72be5d74, 0x80deb1fe, 0x9bdc06a7, 0xc19bf174, 0xe49b69c1, 0xefbe4786, 0x0fc19dc6, 0x240ca1cc, 0x2de92c6f, 0x4a7484aa, 0x5cb0a9dc, 0x76f988da, 0x983e5152, 0xa831c66d, 0xb00327c8, 0xbf597fc7, 0xc6e00bf3, 0xd5a79147, 0x06ca6351, 0x14292967, 0x27b70a85, 0x2e1b2138, 0x4d2c6dfc, 0x53380d13, 0x650a7354, 0x766a0abb, 0x81c2c92e, 0x92722c85, 0xa2bfe8a1, 0xa81a664b, 0xc24b8b70, 0xc76c51a3, 0xd192e819, 0xd6990624, 0xf40e3585, 0x106aa070, 0x19a4c116, 0x1e376c08, 0x2748774c, 0x34b0bcb5, 0x391c0cb3, 0x4ed8aa4a, 0x5b9cca4f, 0x682e6ff3, 0x748f82ee, 0x78a5636f, 0x84c87814, 0x8cc70208, 0x90befffa, 0xa4506ceb, 0xbef9a3f7, 0xc67178f2]
def t_first : List Int32 := [0x6a09e667, 0xbb67ae85, 0x3c6ef372, 0xa54ff53a, 0x510e527f, 0x9b05688c, 0x1f83d9ab, 0x5be0cd19]
def gTb (L : Nat) (xs : Nat → Int32) (k : Nat) : Nat × (Nat → Int32) :=
  bif Nat.beq k 0 then (30, fun j => g_get 0 t_lengths j) else bif Nat.beq k 1 || Nat.beq k 3 then (64, fun j => g_get 0 t_rounds j) else bif Nat.beq k 2 || Nat.beq k 4 then (8, fun j => g_get 0 t_first j) else (L, xs)
def gNew (c : Nat) : List Value := (List.range (gN c)).map (fun j => defaultValue (gty c j))
def gG (L : Nat) (xs : Nat → Int32) : am_G := (g_code, gTb L xs, gNew, fun y => (gK y, gL y))
/-- k simple instructions at once, with the frame's parts apart -/
def am_k (G : am_G) (y : Nat) : Nat → Nat → List (Nat × Value) → List Value → am_H → am_O
  | 0, pc, ls, st, h => some ((pc, ls, st), h)
  | k + 1, pc, ls, st, h => bif Nat.ble (G.1 y pc).1 39 then (match am_1 G (G.1 y pc) (pc, ls, st) h with
    | some ((pc', ls', st'), h') => am_k G y k pc' ls' st' h'
    | none => none) else none
theorem e_k {G : am_G} {d y : Nat} {f' : am_F} {h' : am_H} {P : am_R → am_H → Prop} : ∀ (k : Nat) {pc : Nat} {ls : List (Nat × Value)} {st : List Value} {h : am_H} (_ : am_k G y k pc ls st h = some (f', h')) (_ : am_E G d y f' h' P), am_E G d y (pc, ls, st) h P := by
  intro k
  induction k with
  | zero => intro pc ls st h hs kk; cases hs; exact kk
  | succ k ih =>
    intro pc ls st h hs kk
    unfold am_k at hs
    cases h39 : Nat.ble (G.1 y pc).1 39 with
    | false => rw [h39, cond_false] at hs; cases hs
    | true =>
      rw [h39, cond_true] at hs
      cases h1 : am_1 G (G.1 y pc) (pc, ls, st) h with
      | none => rw [h1] at hs; cases hs
      | some q =>
        obtain ⟨⟨pc1, ls1, st1⟩, h2⟩ := q
        rw [h1] at hs
        exact e_1 (f := (pc, ls, st)) h39 h1 (ih hs kk)
theorem e_r {G : am_G} {d y pc : Nat} {ls : List (Nat × Value)} {st : List Value} {h : am_H} {P : am_R → am_H → Prop} {v : Option Value} (hop : (Nat.ble 40 (G.1 y pc).1 && Nat.ble (G.1 y pc).1 44) = true) (hs : am_ret (G.1 y pc).1 st = some v) (k : P (.inl v) h) : am_E G d y (pc, ls, st) h P := e_ret (f := (pc, ls, st)) hop hs k
def Row_at (I : Nat → Nat → Int32) (r b m : Nat) (i : Int32) : Int32 := if i < 0 then -1 else if I r 1 ≤ i then -1 else if nI m ≤ i then -1 else I b i.toNatClampNeg
