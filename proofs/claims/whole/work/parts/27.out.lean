/-! a party's row of outputs, that may be made anew; the law's row; exceptions -/
theorem oa_call {β : Type} {X : MX} {w : Nat} {x : Option β} {r : β} (hw : w < 4) (h : oa X w x = some r) : isArr X 1 (X.1 w) (xlen X w) ∧ x = some r := by
  obtain ⟨⟨h1, h2, h3⟩, h⟩ := ob_if h
  refine ⟨⟨Nat.ble_eq_true_of_le h1, ?_, ?_⟩, h⟩
  · cases q : Nat.ble am_T0 (X.1 w) with
    | false => rfl
    | true =>
      have q1 : 1000000000 ≤ X.1 w := Nat.le_of_ble_eq_true q
      omega
  · show sS X.1 (sQ X.2.1) (X.1 w) = .inl (1, xlen X w, .inr (.inl (fun _ => 0)))
    rcases h3 with h3 | h3
    · unfold xlen
      rw [h3, show Nat.blt (38 + 21 * w) 168 = true from Nat.ble_eq_true_of_le (by omega), cond_true]
      exact sS_p20 hw
    · have e : Nat.blt (X.1 w) 168 = false := by
        cases q : Nat.blt (X.1 w) 168 with
        | false => rfl
        | true =>
          have q1 : X.1 w + 1 ≤ 168 := Nat.le_of_ble_eq_true q
          omega
      unfold xlen sS
      rw [e]
      rfl
theorem o8_call {β : Type} {X : MX} {x : Option β} {r : β} (h : o8 X x = some r) : isArr X 1 168 1 ∧ x = some r := by
  obtain ⟨⟨h1, h2⟩, h⟩ := ob_if h
  refine ⟨⟨Nat.ble_eq_true_of_le (by show 168 + 1 ≤ 168 + X.2.2.1; omega), rfl, ?_⟩, h⟩
  show Sum.inl (1, X.2.1 168, Sum.inr (Sum.inl (fun _ => 0))) = _
  rw [h2]
section TW
variable {G : am_G} {d y pc : Nat} {ls : List (Nat × Value)} {st : List Value} {P : am_R → am_H → Prop} {S : Nat → va_E} {n kc ks : Nat} {I : Nat → Nat → Int32} {J : Nat → Nat → Int64} {a : Nat}
/-- a call inside a helper -/
theorem r_tv {z k L : Nat} {fs : List Value} {As rest : List Value} (hop : (G.1 y pc).1 = 52) (hz : (G.1 y pc).2.1 = z) (ht : am_take (G.1 y pc).2.2.1 st = some (.ref a :: As, rest)) (hK : G.2.2.2 z = (k + 2, L)) (hw1 : Nat.ble (am_wt (.ref a :: As)) L = true) (hn : Nat.blt a n = true) (hS : S a = .inr (k, fs)) (hw : Nat.ble (am_wt rest) 8 = true)
    (hM : am_E G d z (0, lv_args 0 (.ref a :: As), []) (hH S n kc ks I J) (fun r h1 => (∃ v : Option Value, r = .inl v ∧ am_E G (d + 1) y (pc + 3, ls, v.toList ++ rest) h1 P) ∨ ∃ x, r = .inr x ∧ P (.inr x) h1)) : am_E G (d + 1) y (pc, ls, st) (hH S n kc ks I J) P := by
  refine e_call2 (f := (pc, ls, st)) z hop hz ht ?_ hw hM (fun _ _ h => h)
  unfold am_can
  rw [hK, Bool.and_eq_true]
  refine ⟨hw1, ?_⟩
  show (Nat.blt a n && (match hp S I J a with
    | .inr (ci, _) => Nat.beq ci k
    | _ => false)) = true
  rw [hn, hp_obj hS]
  show (true && Nat.beq k k) = true
  rw [Nat.beq_refl]
  rfl
/-- a call of a helper -/
theorem r_w {z L : Nat} {As rest : List Value} {h : am_H} (hop : (G.1 y pc).1 = 51) (hz : (G.1 y pc).2.1 = z) (ht : am_take (G.1 y pc).2.2.1 st = some (As, rest)) (hK : G.2.2.2 z = (0, L)) (hw1 : Nat.ble (am_wt As) L = true) (hw : Nat.ble (am_wt rest) 8 = true)
    (hM : am_E G d z (0, lv_args 0 As, []) h (fun r h1 => (∃ v : Option Value, r = .inl v ∧ am_E G (d + 1) y (pc + 3, ls, v.toList ++ rest) h1 P) ∨ ∃ x k, r = .inr x ∧ am_hand x (G.1 y pc).2.2.2.2.tail = some k ∧ am_E G (d + 1) y (pc + 3, ls, .int k :: rest) h1 P)) : am_E G (d + 1) y (pc, ls, st) h P := by
  refine e_call1 (f := (pc, ls, st)) z hop hz ht ?_ hw hM (fun _ _ h => h)
  unfold am_can
  rw [hK, Bool.and_eq_true]
  exact ⟨hw1, rfl⟩
end TW
