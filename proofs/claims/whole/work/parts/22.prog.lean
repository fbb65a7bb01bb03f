/-! the program: its tables, its new objects -/
def gTb (L : Nat) (xs : Nat → Int32) (k : Nat) : Nat × (Nat → Int32) :=
  bif Nat.beq k 0 then (30, fun j => g_get 0 t_lengths j) else bif Nat.beq k 1 || Nat.beq k 3 then (64, fun j => g_get 0 t_rounds j) else bif Nat.beq k 2 || Nat.beq k 4 then (8, fun j => g_get 0 t_first j) else (L, xs)
def gNew (c : Nat) : List Value := (List.range (gN c)).map (fun j => defaultValue (gty c j))
def gG (L : Nat) (xs : Nat → Int32) : am_G := (g_code, gTb L xs, gNew, fun y => (gK y, gL y))
/-- k simple instructions at once, with the frame's parts apart -/
def am_k (G : am_G) (y : Nat) : Nat → Nat → List (Nat × Value) → List Value → am_H → am_O
  | 0, pc, ls, st, h => some ((pc, ls, st), h)
  | k + 1, pc, ls, st, h => bif Nat.ble (G.1 y pc).1 39 then (match am_1 G (G.1 y pc) (pc, ls, st) h with
    | some ((pc', ls', st'), h') => am_k G y k pc' ls' st' h'
    | none => none) else none
theorem e_k {G : am_G} {d y : Nat} {f' : am_F} {h' : am_H} {P : am_R → am_H → Prop} : ∀ (k : Nat) {pc : Nat} {ls : List (Nat × Value)} {st : List Value} {h : am_H} (_ : am_k G y k pc ls st h = some (f', h')) (_ : am_E G d y f' h' P), am_E G d y (pc, ls, st) h P := by
  intro k
  induction k with
  | zero => intro pc ls st h hs kk; cases hs; exact kk
  | succ k ih =>
    intro pc ls st h hs kk
    unfold am_k at hs
    cases h39 : Nat.ble (G.1 y pc).1 39 with
    | false => rw [h39, cond_false] at hs; cases hs
    | true =>
      rw [h39, cond_true] at hs
      cases h1 : am_1 G (G.1 y pc) (pc, ls, st) h with
      | none => rw [h1] at hs; cases hs
      | some q =>
        obtain ⟨⟨pc1, ls1, st1⟩, h2⟩ := q
        rw [h1] at hs
        exact e_1 (f := (pc, ls, st)) h39 h1 (ih hs kk)
theorem e_r {G : am_G} {d y pc : Nat} {ls : List (Nat × Value)} {st : List Value} {h : am_H} {P : am_R → am_H → Prop} {v : Option Value} (hop : (Nat.ble 40 (G.1 y pc).1 && Nat.ble (G.1 y pc).1 44) = true) (hs : am_ret (G.1 y pc).1 st = some v) (k : P (.inl v) h) : am_E G d y (pc, ls, st) h P := e_ret (f := (pc, ls, st)) hop hs k
def Row_at (I : Nat → Nat → Int32) (r b m : Nat) (i : Int32) : Int32 := if i < 0 then -1 else if I r 1 ≤ i then -1 else if nI m ≤ i then -1 else I b i.toNatClampNeg
