/-! calls whose answer is taken at once; places -/
section RULES
variable {G : am_G} {d y pc : Nat} {ls : List (Nat × Value)} {st : List Value} {P : am_R → am_H → Prop} {S : Nat → va_E} {n kc ks : Nat} {I : Nat → Nat → Int32} {J : Nat → Nat → Int64} {a : Nat}
theorem r_cv {z k L : Nat} {fs : List Value} {As rest : List Value} (hop : (Nat.ble 50 (G.1 y pc).1 && Nat.ble (G.1 y pc).1 52) = true) (hz : (G.1 y pc).2.1 = z) (ht : am_take (G.1 y pc).2.2.1 st = some (.ref a :: As, rest)) (hK : G.2.2.2 z = (k + 2, L)) (hw1 : Nat.ble (am_wt (.ref a :: As)) L = true) (hn : Nat.blt a n = true) (hS : S a = .inr (k, fs)) (hw : Nat.ble (am_wt rest) 8 = true)
    (hM : am_E G d z (0, lv_args 0 (.ref a :: As), []) (hH S n kc ks I J) (fun r h1 => ∃ v : Option Value, r = .inl v ∧ am_E G (d + 1) y (pc + 3, ls, v.toList ++ rest) h1 P)) : am_E G (d + 1) y (pc, ls, st) (hH S n kc ks I J) P :=
  r_callv (r := 0) hop hz ht hK hw1 hn hS hw hM (fun _ _ h => h)
theorem r_cs {z L : Nat} {As rest : List Value} {h : am_H} (hop : (Nat.ble 50 (G.1 y pc).1 && Nat.ble (G.1 y pc).1 52) = true) (hz : (G.1 y pc).2.1 = z) (ht : am_take (G.1 y pc).2.2.1 st = some (As, rest)) (hK : G.2.2.2 z = (0, L)) (hw1 : Nat.ble (am_wt As) L = true) (hw : Nat.ble (am_wt rest) 8 = true)
    (hM : am_E G d z (0, lv_args 0 As, []) h (fun r h1 => ∃ v : Option Value, r = .inl v ∧ am_E G (d + 1) y (pc + 3, ls, v.toList ++ rest) h1 P)) : am_E G (d + 1) y (pc, ls, st) h P :=
  r_calls hop hz ht hK hw1 hw hM (fun _ _ h => h)
end RULES
theorem r_ltn {n k a : Nat} (h : k ≤ n) (ha : Nat.blt a k = true) : Nat.blt a n = true := Nat.ble_eq_true_of_le (Nat.le_trans (Nat.le_of_ble_eq_true ha) h)
/-- an object is no array -/
theorem r_ne {S : Nat → va_E} {a b : Nat} {x : Nat × List Value} {z : ClassId × vp_A} (h1 : S a = .inr x) (h2 : S b = .inl z) : a ≠ b := by
  intro e
  rw [e, h2] at h1
  cases h1
/-- a row: the object r, its bytes at b, room for m -/
def isRow (S : Nat → va_E) (n r b m : Nat) : Prop := Nat.blt r n = true ∧ S r = .inr (7, [.ref b, .int 0]) ∧ Nat.blt b n = true ∧ Nat.ble am_T0 b = false ∧ S b = .inl (0, m, .inl (fun _ => 0)) ∧ m < 2 ^ 30
