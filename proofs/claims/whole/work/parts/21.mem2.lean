/-! arrays and calls over a memory -/
section MEM2
variable {G : am_G} {d y pc : Nat} {ls : List (Nat × Value)} {st : List Value} {P : am_R → am_H → Prop} {S : Nat → va_E} {n kc ks : Nat} {I : Nat → Nat → Int32} {J : Nat → Nat → Int64} {a b : Nat} {sw : List (Int32 × Nat)} {w : Value} {i : Int32}
theorem r_aldG {k : Nat} {v : Value} (hq : G.1 y pc = (23, k, b, w, sw)) (hs : am_ald G k (hH S n kc ks I J) a i = some v) (K : am_E G d y (pc + 1, ls, v :: st) (hH S n kc ks I J) P) : am_E G d y (pc, ls, .int i :: .ref a :: st) (hH S n kc ks I J) P := by
  refine e_1 (by show Nat.ble (G.1 y pc).1 39 = true; rw [hq]; rfl) ?_ K
  show am_1 G (G.1 y pc) _ _ = _
  rw [hq]
  show x_ald G k pc ls (.int i :: .ref a :: st) (hH S n kc ks I J) = _
  unfold x_ald
  simp only [hs]
theorem r_iald {m : Nat} {f : Nat → Int32} (hq : G.1 y pc = (23, 0, b, w, sw)) (h0 : Nat.ble am_T0 a = false) (hn : Nat.blt a n = true) (hS : S a = .inl (0, m, .inl f)) (hin : vp_in i m) (K : am_E G d y (pc + 1, ls, .int (I a i.toNatClampNeg) :: st) (hH S n kc ks I J) P) : am_E G d y (pc, ls, .int i :: .ref a :: st) (hH S n kc ks I J) P := by
  refine r_aldG hq ?_ K
  unfold am_ald
  rw [h0, cond_false]
  show (bif Nat.blt a n then _ else none) = _
  rw [hn, cond_true]
  show (match hp S I J a with
    | .inl (k, n, .inl f) => bif Nat.beq k 0 && (Nat.beq 0 0 || Nat.beq 0 2) then (if i < 0 ∨ n ≤ i.toNatClampNeg then none else some (Value.int (f i.toNatClampNeg))) else none
    | .inl (k, n, .inr (.inl f)) => bif Nat.beq k 0 && Nat.beq 0 1 then (if i < 0 ∨ n ≤ i.toNatClampNeg then none else some (Value.long (f i.toNatClampNeg))) else none
    | .inl (k, n, .inr (.inr (.inr (.inr f)))) => bif Nat.beq k 0 && Nat.ble 3 0 then (if i < 0 ∨ n ≤ i.toNatClampNeg then none else some (va_rf (f i.toNatClampNeg))) else none
    | _ => none) = _
  rw [hp_i hS]
  exact if_neg hin
theorem r_zald {m : Nat} {f : Nat → Int32} (hq : G.1 y pc = (23, 2, b, w, sw)) (h0 : Nat.ble am_T0 a = false) (hn : Nat.blt a n = true) (hS : S a = .inl (2, m, .inl f)) (hin : vp_in i m) (K : am_E G d y (pc + 1, ls, .int (I a i.toNatClampNeg) :: st) (hH S n kc ks I J) P) : am_E G d y (pc, ls, .int i :: .ref a :: st) (hH S n kc ks I J) P := by
  refine r_aldG hq ?_ K
  unfold am_ald
  rw [h0, cond_false]
  show (bif Nat.blt a n then _ else none) = _
  rw [hn, cond_true]
  show (match hp S I J a with
    | .inl (k, n, .inl f) => bif Nat.beq k 2 && (Nat.beq 2 0 || Nat.beq 2 2) then (if i < 0 ∨ n ≤ i.toNatClampNeg then none else some (Value.int (f i.toNatClampNeg))) else none
    | .inl (k, n, .inr (.inl f)) => bif Nat.beq k 2 && Nat.beq 2 1 then (if i < 0 ∨ n ≤ i.toNatClampNeg then none else some (Value.long (f i.toNatClampNeg))) else none
    | .inl (k, n, .inr (.inr (.inr (.inr f)))) => bif Nat.beq k 2 && Nat.ble 3 2 then (if i < 0 ∨ n ≤ i.toNatClampNeg then none else some (va_rf (f i.toNatClampNeg))) else none
    | _ => none) = _
  rw [hp_i hS]
  exact if_neg hin
theorem r_lald {m : Nat} {f : Nat → Int64} (hq : G.1 y pc = (23, 1, b, w, sw)) (h0 : Nat.ble am_T0 a = false) (hn : Nat.blt a n = true) (hS : S a = .inl (1, m, .inr (.inl f))) (hin : vp_in i m) (K : am_E G d y (pc + 1, ls, .long (J a i.toNatClampNeg) :: st) (hH S n kc ks I J) P) : am_E G d y (pc, ls, .int i :: .ref a :: st) (hH S n kc ks I J) P := by
  refine r_aldG hq ?_ K
  unfold am_ald
  rw [h0, cond_false]
  show (bif Nat.blt a n then _ else none) = _
  rw [hn, cond_true]
  show (match hp S I J a with
    | .inl (k, n, .inl f) => bif Nat.beq k 1 && (Nat.beq 1 0 || Nat.beq 1 2) then (if i < 0 ∨ n ≤ i.toNatClampNeg then none else some (Value.int (f i.toNatClampNeg))) else none
    | .inl (k, n, .inr (.inl f)) => bif Nat.beq k 1 && Nat.beq 1 1 then (if i < 0 ∨ n ≤ i.toNatClampNeg then none else some (Value.long (f i.toNatClampNeg))) else none
    | .inl (k, n, .inr (.inr (.inr (.inr f)))) => bif Nat.beq k 1 && Nat.ble 3 1 then (if i < 0 ∨ n ≤ i.toNatClampNeg then none else some (va_rf (f i.toNatClampNeg))) else none
    | _ => none) = _
  rw [hp_l hS]
  exact if_neg hin
theorem r_qald {m : Nat} {f : Nat → Option Nat} (hq : G.1 y pc = (23, 3, b, w, sw)) (h0 : Nat.ble am_T0 a = false) (hn : Nat.blt a n = true) (hS : S a = .inl (3, m, .inr (.inr (.inr (.inr f))))) (hin : vp_in i m) (K : am_E G d y (pc + 1, ls, va_rf (f i.toNatClampNeg) :: st) (hH S n kc ks I J) P) : am_E G d y (pc, ls, .int i :: .ref a :: st) (hH S n kc ks I J) P := by
  refine r_aldG hq ?_ K
  unfold am_ald
  rw [h0, cond_false]
  show (bif Nat.blt a n then _ else none) = _
  rw [hn, cond_true]
  show (match hp S I J a with
    | .inl (k, n, .inl f) => bif Nat.beq k 3 && (Nat.beq 3 0 || Nat.beq 3 2) then (if i < 0 ∨ n ≤ i.toNatClampNeg then none else some (Value.int (f i.toNatClampNeg))) else none
    | .inl (k, n, .inr (.inl f)) => bif Nat.beq k 3 && Nat.beq 3 1 then (if i < 0 ∨ n ≤ i.toNatClampNeg then none else some (Value.long (f i.toNatClampNeg))) else none
    | .inl (k, n, .inr (.inr (.inr (.inr f)))) => bif Nat.beq k 3 && Nat.ble 3 3 then (if i < 0 ∨ n ≤ i.toNatClampNeg then none else some (va_rf (f i.toNatClampNeg))) else none
    | _ => none) = _
  rw [hp_q hS]
  exact if_neg hin
/-- a static table's place -/
theorem r_tald {k : Nat} (hq : G.1 y pc = (23, 0, b, w, sw)) (hk : k < 6) (ha : a = am_T0 + k) (hin : vp_in i (G.2.1 k).1) (K : am_E G d y (pc + 1, ls, .int ((G.2.1 k).2 i.toNatClampNeg) :: st) (hH S n kc ks I J) P) : am_E G d y (pc, ls, .int i :: .ref a :: st) (hH S n kc ks I J) P := by
  subst ha
  refine r_aldG hq ?_ K
  unfold am_ald
  rw [Nat.ble_eq_true_of_le (Nat.le_add_right am_T0 k), cond_true, Nat.add_sub_cancel_left]
  have e : (Nat.beq 0 0 && Nat.blt k 6) = true := by
    rw [Bool.and_eq_true]
    exact ⟨rfl, Nat.ble_eq_true_of_le hk⟩
  rw [e, cond_true]
  exact if_neg hin
theorem r_tlen {k : Nat} (hq : G.1 y pc = (25, b, 0, w, sw)) (hk : k < 6) (ha : a = am_T0 + k) (K : am_E G d y (pc + 1, ls, .int (nI (G.2.1 k).1) :: st) (hH S n kc ks I J) P) : am_E G d y (pc, ls, .ref a :: st) (hH S n kc ks I J) P := by
  subst ha
  refine e_1 (by show Nat.ble (G.1 y pc).1 39 = true; rw [hq]; rfl) ?_ K
  show am_1 G (G.1 y pc) _ _ = _
  rw [hq]
  show x_len G pc ls (.ref (am_T0 + k) :: st) (hH S n kc ks I J) = _
  unfold x_len
  show (bif Nat.ble am_T0 (am_T0 + k) then (bif Nat.blt (am_T0 + k - am_T0) 6 then some ((pc + 1, ls, Value.int (nI (G.2.1 (am_T0 + k - am_T0)).1) :: st), hH S n kc ks I J) else none) else _) = _
  rw [Nat.ble_eq_true_of_le (Nat.le_add_right am_T0 k), cond_true, Nat.add_sub_cancel_left]
  have e : Nat.blt k 6 = true := Nat.ble_eq_true_of_le hk
  rw [e, cond_true]
theorem r_alen {k m : Nat} {f : (Nat → Int32) ⊕ (Nat → Int64) ⊕ (Nat → UInt32) ⊕ (Nat → UInt64) ⊕ (Nat → Option Nat)} (hq : G.1 y pc = (25, b, 0, w, sw)) (h0 : Nat.ble am_T0 a = false) (hn : Nat.blt a n = true) (hS : S a = .inl (k, m, f)) (hk : Nat.ble k 3 = true) (K : am_E G d y (pc + 1, ls, .int (nI m) :: st) (hH S n kc ks I J) P) : am_E G d y (pc, ls, .ref a :: st) (hH S n kc ks I J) P := by
  refine e_1 (by show Nat.ble (G.1 y pc).1 39 = true; rw [hq]; rfl) ?_ K
  show am_1 G (G.1 y pc) _ _ = _
  rw [hq]
  show x_len G pc ls (.ref a :: st) (hH S n kc ks I J) = _
  unfold x_len
  show (bif Nat.ble am_T0 a then _ else bif Nat.blt a n then (match hp S I J a with
    | .inl (k, n0, _) => bif Nat.ble k 3 then some ((pc + 1, ls, Value.int (nI n0) :: st), hH S n kc ks I J) else none
    | _ => none) else none) = _
  rw [h0, cond_false, hn, cond_true]
  have e : ∃ g, hp S I J a = .inl (k, m, g) := by
    unfold hp
    rw [hS]
    rcases f with f | f | f | f | f
    · exact ⟨_, rfl⟩
    · exact ⟨_, rfl⟩
    · exact ⟨_, rfl⟩
    · exact ⟨_, rfl⟩
    · exact ⟨_, rfl⟩
  obtain ⟨g, e⟩ := e
  rw [e]
  show (bif Nat.ble k 3 then _ else none) = _
  rw [hk]
  rfl
theorem r_astG {k : Nat} {v : Value} {h' : am_H} (hq : G.1 y pc = (24, k, b, w, sw)) (hs : am_ast k (hH S n kc ks I J) a i v = some h') (K : am_E G d y (pc + 1, ls, st) h' P) : am_E G d y (pc, ls, v :: .int i :: .ref a :: st) (hH S n kc ks I J) P := by
  refine e_1 (by show Nat.ble (G.1 y pc).1 39 = true; rw [hq]; rfl) ?_ K
  show am_1 G (G.1 y pc) _ _ = _
  rw [hq]
  show x_ast k pc ls (v :: .int i :: .ref a :: st) (hH S n kc ks I J) = _
  unfold x_ast
  simp only [hs]
theorem r_iast {m : Nat} {f : Nat → Int32} {v : Int32} (hq : G.1 y pc = (24, 0, b, w, sw)) (hn : Nat.blt a n = true) (hS : S a = .inl (0, m, .inl f)) (hin : vp_in i m) (K : am_E G d y (pc + 1, ls, st) (hH S n kc ks (va_up I a (upd (I a) i.toNatClampNeg v)) J) P) : am_E G d y (pc, ls, .int v :: .int i :: .ref a :: st) (hH S n kc ks I J) P := by
  refine r_astG hq ?_ K
  unfold am_ast
  show (bif Nat.blt a n then _ else none) = _
  rw [hn, cond_true]
  show (match hp S I J a, Value.int v with
    | .inl (k, n0, .inl f), .int x => bif Nat.beq k 0 then
        (if i < 0 ∨ n0 ≤ i.toNatClampNeg then none else bif Nat.beq 0 0 then some (am_set (hH S n kc ks I J) a (.inl (k, n0, .inl (upd f i.toNatClampNeg x)))) else bif Nat.beq 0 2 then some (am_set (hH S n kc ks I J) a (.inl (k, n0, .inl (upd f i.toNatClampNeg (x &&& 1))))) else none) else none
    | .inl (k, n0, .inr (.inl f)), .long x => bif Nat.beq k 0 && Nat.beq 0 1 then (if i < 0 ∨ n0 ≤ i.toNatClampNeg then none else some (am_set (hH S n kc ks I J) a (.inl (k, n0, .inr (.inl (vp_updL f i.toNatClampNeg x)))))) else none
    | _, _ => none) = _
  rw [hp_i hS]
  refine (if_neg hin).trans ?_
  show some (va_up (hp S I J) a _, n, kc, ks) = some (hp S (va_up I a (upd (I a) i.toNatClampNeg v)) J, n, kc, ks)
  rw [hp_upi]
  rw [hp_i hS, va_up_self]
theorem r_zast {m : Nat} {f : Nat → Int32} {v : Int32} (hq : G.1 y pc = (24, 2, b, w, sw)) (hn : Nat.blt a n = true) (hS : S a = .inl (2, m, .inl f)) (hin : vp_in i m) (K : am_E G d y (pc + 1, ls, st) (hH S n kc ks (va_up I a (upd (I a) i.toNatClampNeg (v &&& 1))) J) P) : am_E G d y (pc, ls, .int v :: .int i :: .ref a :: st) (hH S n kc ks I J) P := by
  refine r_astG hq ?_ K
  unfold am_ast
  show (bif Nat.blt a n then _ else none) = _
  rw [hn, cond_true]
  show (match hp S I J a, Value.int v with
    | .inl (k, n0, .inl f), .int x => bif Nat.beq k 2 then
        (if i < 0 ∨ n0 ≤ i.toNatClampNeg then none else bif Nat.beq 2 0 then some (am_set (hH S n kc ks I J) a (.inl (k, n0, .inl (upd f i.toNatClampNeg x)))) else bif Nat.beq 2 2 then some (am_set (hH S n kc ks I J) a (.inl (k, n0, .inl (upd f i.toNatClampNeg (x &&& 1))))) else none) else none
    | .inl (k, n0, .inr (.inl f)), .long x => bif Nat.beq k 2 && Nat.beq 2 1 then (if i < 0 ∨ n0 ≤ i.toNatClampNeg then none else some (am_set (hH S n kc ks I J) a (.inl (k, n0, .inr (.inl (vp_updL f i.toNatClampNeg x)))))) else none
    | _, _ => none) = _
  rw [hp_i hS]
  refine (if_neg hin).trans ?_
  show some (va_up (hp S I J) a _, n, kc, ks) = some (hp S (va_up I a (upd (I a) i.toNatClampNeg (v &&& 1))) J, n, kc, ks)
  rw [hp_upi]
  rw [hp_i hS, va_up_self]
theorem r_last {m : Nat} {f : Nat → Int64} {v : Int64} (hq : G.1 y pc = (24, 1, b, w, sw)) (hn : Nat.blt a n = true) (hS : S a = .inl (1, m, .inr (.inl f))) (hin : vp_in i m) (K : am_E G d y (pc + 1, ls, st) (hH S n kc ks I (va_up J a (vp_updL (J a) i.toNatClampNeg v))) P) : am_E G d y (pc, ls, .long v :: .int i :: .ref a :: st) (hH S n kc ks I J) P := by
  refine r_astG hq ?_ K
  unfold am_ast
  show (bif Nat.blt a n then _ else none) = _
  rw [hn, cond_true]
  show (match hp S I J a, Value.long v with
    | .inl (k, n0, .inl f), .int x => bif Nat.beq k 1 then
        (if i < 0 ∨ n0 ≤ i.toNatClampNeg then none else bif Nat.beq 1 0 then some (am_set (hH S n kc ks I J) a (.inl (k, n0, .inl (upd f i.toNatClampNeg x)))) else bif Nat.beq 1 2 then some (am_set (hH S n kc ks I J) a (.inl (k, n0, .inl (upd f i.toNatClampNeg (x &&& 1))))) else none) else none
    | .inl (k, n0, .inr (.inl f)), .long x => bif Nat.beq k 1 && Nat.beq 1 1 then (if i < 0 ∨ n0 ≤ i.toNatClampNeg then none else some (am_set (hH S n kc ks I J) a (.inl (k, n0, .inr (.inl (vp_updL f i.toNatClampNeg x)))))) else none
    | _, _ => none) = _
  rw [hp_l hS]
  refine (if_neg hin).trans ?_
  show some (va_up (hp S I J) a _, n, kc, ks) = some (hp S I (va_up J a (vp_updL (J a) i.toNatClampNeg v)), n, kc, ks)
  rw [hp_upl]
  rw [hp_l hS, va_up_self]
/-- a call of an instance method whose contract is known as a run from its entry -/
theorem r_callv {z k L r : Nat} {fs : List Value} {As rest : List Value} {P' : am_R → am_H → Prop} (hop : (Nat.ble 50 (G.1 y pc).1 && Nat.ble (G.1 y pc).1 52) = true) (hz : (G.1 y pc).2.1 = z) (ht : am_take (G.1 y pc).2.2.1 st = some (.ref a :: As, rest)) (hK : G.2.2.2 z = (k + 2, L)) (hw1 : Nat.ble (am_wt (.ref a :: As)) L = true) (hn : Nat.blt a n = true) (hS : S a = .inr (k, fs)) (hw : Nat.ble (am_wt rest) 8 = true)
    (hM : am_E G d z (0, lv_args 0 (.ref a :: As), []) (hH S n kc ks I J) P') (K : ∀ (r : am_R) (h1 : am_H), P' r h1 → ∃ v : Option Value, r = .inl v ∧ am_E G (d + 1) y (pc + 3, ls, v.toList ++ rest) h1 P) : am_E G (d + 1) y (pc, ls, st) (hH S n kc ks I J) P := by
  refine e_call (f := (pc, ls, st)) z hop hz ht ?_ hw hM K
  unfold am_can
  rw [hK, Bool.and_eq_true]
  refine ⟨hw1, ?_⟩
  show (Nat.blt a n && (match hp S I J a with
    | .inr (ci, _) => Nat.beq ci k
    | _ => false)) = true
  rw [hn, hp_obj hS]
  show (true && Nat.beq k k) = true
  rw [Nat.beq_refl]
  rfl
theorem r_calls {z L : Nat} {As rest : List Value} {P' : am_R → am_H → Prop} {h : am_H} (hop : (Nat.ble 50 (G.1 y pc).1 && Nat.ble (G.1 y pc).1 52) = true) (hz : (G.1 y pc).2.1 = z) (ht : am_take (G.1 y pc).2.2.1 st = some (As, rest)) (hK : G.2.2.2 z = (0, L)) (hw1 : Nat.ble (am_wt As) L = true) (hw : Nat.ble (am_wt rest) 8 = true)
    (hM : am_E G d z (0, lv_args 0 As, []) h P') (K : ∀ (r : am_R) (h1 : am_H), P' r h1 → ∃ v : Option Value, r = .inl v ∧ am_E G (d + 1) y (pc + 3, ls, v.toList ++ rest) h1 P) : am_E G (d + 1) y (pc, ls, st) h P := by
  refine e_call (f := (pc, ls, st)) z hop hz ht ?_ hw hM K
  unfold am_can
  rw [hK, Bool.and_eq_true]
  exact ⟨hw1, rfl⟩
end MEM2
