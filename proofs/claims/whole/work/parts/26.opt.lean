/-! THE METHODS AS PARTIAL FUNCTIONS OF THE MEMORY: X: where outputs lie and what was made; I, J: ints and longs -/
/-- what lies behind the first cells: rows of longs, by their lengths -/
abbrev sQ (q : Nat → Nat) : Nat → va_E := fun a => .inl (1, q a, .inr (.inl (fun _ => 0)))
abbrev hX (X : MX) (I : MI) (J : MJ) : am_H := hH (sS X.1 (sQ X.2.1)) (168 + X.2.2.1) X.2.2.2.1 X.2.2.2.2 I J
theorem am_swe {x : Int32} {d : Nat} {k : Int32} {r : List (Int32 × Nat)} (h : am_sw x d r = d) : am_sw x d ((k, d) :: r) = d := by
  unfold am_sw
  split
  · rfl
  · exact h
theorem am_swd {x : Int32} {d t : Nat} {k : Int32} {r : List (Int32 × Nat)} (hk : ¬ x = k) (h : am_sw x d r = d) : am_sw x d ((k, t) :: r) = d := by
  unfold am_sw
  rw [if_neg hk]
  exact h
/-- a loop's end: an answer of the method, or the exit -/
def ol {α β γ : Type} (x : MR (α ⊕ γ)) (f : α → MX → MI → MJ → Option β) (g : γ → MX → MI → MJ → Option β) : Option β := match x with
  | some (.inl v, X, I, J) => f v X I J
  | some (.inr v, X, I, J) => g v X I J
  | none => none
theorem ol_call {α β γ : Type} {x : MR (α ⊕ γ)} {f : α → MX → MI → MJ → Option β} {g : γ → MX → MI → MJ → Option β} {r : β} (h : ol x f g = some r) : ∃ v X I J, x = some (v, X, I, J) ∧ (match v with
    | .inl u => f u X I J = some r
    | .inr u => g u X I J = some r) := by
  unfold ol at h
  split at h
  · exact ⟨.inl _, _, _, _, rfl, h⟩
  · exact ⟨.inr _, _, _, _, rfl, h⟩
  · cases h
theorem x_ltn {X : MX} {a : Nat} (ha : Nat.blt a 168 = true) : Nat.blt a (168 + X.2.2.1) = true := Nat.ble_eq_true_of_le (Nat.le_trans (Nat.le_of_ble_eq_true ha) (Nat.le_add_right _ _))
theorem x_ltp {X : MX} {k w : Nat} (hw : w < 4) (hk : k ≤ 104) : Nat.blt (k + 21 * w) (168 + X.2.2.1) = true := Nat.ble_eq_true_of_le (by show k + 21 * w + 1 ≤ 168 + X.2.2.1; omega)
theorem x_t0 {k w : Nat} (hw : w < 4) (hk : k ≤ 104) : Nat.ble am_T0 (k + 21 * w) = false := by
  cases q : Nat.ble am_T0 (k + 21 * w) with
  | false => rfl
  | true =>
    have := Nat.le_of_ble_eq_true q
    have h : am_T0 = 1000000000 := rfl
    omega
/-- an array of kind k at a, of m places -/
def isArr (X : MX) (k a m : Nat) : Prop := Nat.blt a (168 + X.2.2.1) = true ∧ Nat.ble am_T0 a = false ∧ (match k with
  | 1 => sS X.1 (sQ X.2.1) a = .inl (1, m, .inr (.inl (fun _ => 0)))
  | _ => sS X.1 (sQ X.2.1) a = .inl (k, m, .inl (fun _ => 0)))
def isRw (X : MX) (r b m : Nat) : Prop := isRow (sS X.1 (sQ X.2.1)) (168 + X.2.2.1) r b m
section OPT
variable {G : am_G} {d y pc : Nat} {ls : List (Nat × Value)} {st : List Value} {P : am_R → am_H → Prop} {S : Nat → va_E} {n kc ks : Nat} {I : MI} {J : MJ} {a : Nat} {sw : List (Int32 × Nat)} {w : Value}
theorem r_puti' {c k : Nat} {fs : List Value} {z v0 v : Int32} (hq : G.1 y pc = (21, c, k, .int v0, sw)) (hn : Nat.blt a n = true) (hS : S a = .inr (c, fs)) (hk : fs[k]? = some (.int z)) {I' : MI} (e : I' = va_up I a (upd (I a) k v)) (K : am_E G d y (pc + 3, ls, st) (hH S n kc ks I' J) P) : am_E G d y (pc, ls, .int v :: .ref a :: st) (hH S n kc ks I J) P := r_puti hq hn hS hk (e ▸ K)
theorem r_putz' {c k : Nat} {fs : List Value} {z v : Int32} (hq : G.1 y pc = (22, c, k, w, sw)) (hn : Nat.blt a n = true) (hS : S a = .inr (c, fs)) (hk : fs[k]? = some (.int z)) (hv : v = 0 ∨ v = 1) {I' : MI} (e : I' = va_up I a (upd (I a) k v)) (K : am_E G d y (pc + 3, ls, st) (hH S n kc ks I' J) P) : am_E G d y (pc, ls, .int v :: .ref a :: st) (hH S n kc ks I J) P := r_putz hq hn hS hk hv (e ▸ K)
theorem r_putl' {c k : Nat} {fs : List Value} {z v0 v : Int64} (hq : G.1 y pc = (21, c, k, .long v0, sw)) (hn : Nat.blt a n = true) (hS : S a = .inr (c, fs)) (hk : fs[k]? = some (.long z)) {J' : MJ} (e : J' = va_up J a (vp_updL (J a) k v)) (K : am_E G d y (pc + 3, ls, st) (hH S n kc ks I J') P) : am_E G d y (pc, ls, .long v :: .ref a :: st) (hH S n kc ks I J) P := r_putl hq hn hS hk (e ▸ K)
theorem r_iast' {m b : Nat} {f : Nat → Int32} {v i : Int32} (hq : G.1 y pc = (24, 0, b, w, sw)) (hn : Nat.blt a n = true) (hS : S a = .inl (0, m, .inl f)) (hin : vp_in i m) {I' : MI} (e : I' = va_up I a (upd (I a) i.toNatClampNeg v)) (K : am_E G d y (pc + 1, ls, st) (hH S n kc ks I' J) P) : am_E G d y (pc, ls, .int v :: .int i :: .ref a :: st) (hH S n kc ks I J) P := r_iast hq hn hS hin (e ▸ K)
theorem r_zast' {m b : Nat} {f : Nat → Int32} {v i : Int32} (hq : G.1 y pc = (24, 2, b, w, sw)) (hn : Nat.blt a n = true) (hS : S a = .inl (2, m, .inl f)) (hin : vp_in i m) {I' : MI} (e : I' = va_up I a (upd (I a) i.toNatClampNeg (v &&& 1))) (K : am_E G d y (pc + 1, ls, st) (hH S n kc ks I' J) P) : am_E G d y (pc, ls, .int v :: .int i :: .ref a :: st) (hH S n kc ks I J) P := r_zast hq hn hS hin (e ▸ K)
theorem r_last' {m b : Nat} {f : Nat → Int64} {v : Int64} {i : Int32} (hq : G.1 y pc = (24, 1, b, w, sw)) (hn : Nat.blt a n = true) (hS : S a = .inl (1, m, .inr (.inl f))) (hin : vp_in i m) {J' : MJ} (e : J' = va_up J a (vp_updL (J a) i.toNatClampNeg v)) (K : am_E G d y (pc + 1, ls, st) (hH S n kc ks I J') P) : am_E G d y (pc, ls, .long v :: .int i :: .ref a :: st) (hH S n kc ks I J) P := r_last hq hn hS hin (e ▸ K)
/-- a party out of the hall's row of them -/
theorem r_pald {o : Nat → Nat} {q : Nat → va_E} {e b : Nat} {i : Int32} (hq : G.1 y pc = (23, 3, b, w, sw)) (hin : vp_in i 4) (K : am_E G d y (pc + 1, ls, .ref (18 + 21 * i.toNatClampNeg) :: st) (hH (sS o q) (168 + e) kc ks I J) P) : am_E G d y (pc, ls, .int i :: .ref 17 :: st) (hH (sS o q) (168 + e) kc ks I J) P := by
  refine r_qald (f := s_parties) hq rfl (Nat.ble_eq_true_of_le (by omega)) rfl hin ?_
  rw [s_parties_at (vp_lt hin)]
  exact K
theorem am_lrem {h : am_H} {a b : Int64} {c : Nat} (hq : G.1 y pc = (6, 7, c, w, sw)) (h0 : ¬ b = 0) : am_k G y 1 pc ls (.long b :: .long a :: st) h = some ((pc + 1, ls, .long (a - a / b * b) :: st), h) := by
  unfold am_k
  rw [hq]
  show (match (match am_ll 7 a b with
    | some z => some ((pc + 1, ls, Value.long z :: st), h)
    | none => none) with
    | some ((pc', ls', st'), h') => am_k G y 0 pc' ls' st' h'
    | none => none) = _
  rw [show am_ll 7 a b = some (a - a / b * b) from if_neg h0]
  rfl
end OPT
theorem row_1 {X : MX} : isRw X 1 2 2000 := ⟨x_ltn rfl, rfl, x_ltn rfl, rfl, rfl, by decide⟩
theorem row_4 {X : MX} : isRw X 4 5 400 := ⟨x_ltn rfl, rfl, x_ltn rfl, rfl, rfl, by decide⟩
theorem row_6 {X : MX} : isRw X 6 7 2000 := ⟨x_ltn rfl, rfl, x_ltn rfl, rfl, rfl, by decide⟩
theorem row_15 {X : MX} : isRw X 15 16 2000 := ⟨x_ltn rfl, rfl, x_ltn rfl, rfl, rfl, by decide⟩
