/-! THE CONSTRUCTORS: a run over cells that are lists -/
abbrev cE : Type := (Nat × List Value) ⊕ (Nat × Nat × List (Option Nat))
def c_en : cE → va_E
  | .inl o => .inr o
  | .inr (k, n, l) => bif Nat.beq k 3 then .inl (3, n, .inr (.inr (.inr (.inr (fun j => g_get none l j))))) else am_arr k n
def c_at : Option cE → va_E
  | some c => c_en c
  | none => am_arr 1 0
abbrev cC : Type := List cE × Nat × Nat
def c_H (c : cC) : am_H := (fun a => c_at (c.1[a]?), c.1.length, c.2.1, c.2.2)
def c_pure (op : Nat) : Bool := Nat.beq op 0 || Nat.beq op 1 || Nat.beq op 2 || Nat.beq op 4 || Nat.beq op 8 || Nat.beq op 10 || Nat.beq op 14 || Nat.beq op 30 || Nat.beq op 31
def c_G0 : am_G := gG 0 (fun _ => 0)
def c_h0 : am_H := (fun _ => .inr (99, []), 0, 0, 0)
abbrev cO : Type := Option (am_F × cC)
def cx_get (a b : Nat) (pc : Nat) (ls : List (Nat × Value)) (st : List Value) (c : cC) : cO := match st with
  | .ref i :: r => (match c.1[i]? with
    | some (.inl (ci, fs)) => bif Nat.beq ci a then (match fs[b]? with
      | some x => some ((pc + 3, ls, x :: r), c)
      | none => none) else none
    | _ => none)
  | _ => none
def cx_put (a b : Nat) (v : Value) (pc : Nat) (ls : List (Nat × Value)) (st : List Value) (c : cC) : cO := match st with
  | x :: .ref i :: r => (match c.1[i]? with
    | some (.inl (ci, fs)) => bif Nat.beq ci a && Nat.blt b fs.length && am_fit v x then some ((pc + 3, ls, r), (c.1.set i (.inl (ci, fs.set b x)), c.2)) else none
    | _ => none)
  | _ => none
def cx_new (a : Nat) (pc : Nat) (ls : List (Nat × Value)) (st : List Value) (c : cC) : cO := bif Nat.blt c.1.length am_T0 then some ((pc + 3, ls, .ref c.1.length :: st), (c.1 ++ [.inl (a, gNew a)], c.2.1 + 1, c.2.2 + (gNew a).length)) else none
def cx_newa (a b : Nat) (pc : Nat) (ls : List (Nat × Value)) (st : List Value) (c : cC) : cO := match st with
  | .int n :: r => if n < 0 then none else bif Nat.ble n.toNatClampNeg 1000000 && Nat.blt c.1.length am_T0 then some ((pc + b, ls, .ref c.1.length :: r), (c.1 ++ [.inr (a, n.toNatClampNeg, [])], c.2.1 + 1, c.2.2 + n.toNatClampNeg)) else none
  | _ => none
def cx_astq (a b : Nat) (pc : Nat) (ls : List (Nat × Value)) (st : List Value) (c : cC) : cO := match st with
  | .ref v :: .int i :: .ref r :: t => (match c.1[r]?, c.1[v]? with
    | some (.inr (3, n, l)), some (.inl (ci, _)) => bif Nat.beq 3 a && Nat.beq ci b && Nat.beq i.toNatClampNeg l.length then (if i < 0 ∨ n ≤ i.toNatClampNeg then none else some ((pc + 1, ls, t), (c.1.set r (.inr (3, n, l ++ [some v])), c.2))) else none
    | _, _ => none)
  | _ => none
def cb_1 (q : am_I) (f : am_F) (c : cC) : cO := match q, f with
  | (op, a, b, v, sw), (pc, ls, st) =>
    bif Nat.beq op 20 then cx_get a b pc ls st c else bif Nat.beq op 21 then cx_put a b v pc ls st c else bif Nat.beq op 26 then cx_new a pc ls st c
    else bif Nat.beq op 27 || Nat.beq op 28 then cx_newa a b pc ls st c else bif Nat.beq op 29 then cx_astq a b pc ls st c
    else bif c_pure op then (match am_1 c_G0 (op, a, b, v, sw) (pc, ls, st) c_h0 with
      | some r => some (r.1, c)
      | none => none) else none
def cb_ev : Nat → Nat → am_F → cC → Option cC
  | 0 => fun _ _ _ => none
  | n + 1 => fun y f c =>
    bif Nat.ble (g_code y f.1).1 39 then (match cb_1 (g_code y f.1) f c with
      | some r => cb_ev n y r.1 r.2
      | none => none)
    else bif Nat.beq (g_code y f.1).1 43 then (match f.2.2 with
      | [] => some c
      | _ => none)
    else bif Nat.beq (g_code y f.1).1 50 then (match am_take (g_code y f.1).2.2.1 f.2.2 with
      | some (.ref i :: As, rest) => bif Nat.beq (gK (g_code y f.1).2.1) 1 && Nat.ble (am_wt (.ref i :: As)) (gL (g_code y f.1).2.1) && Nat.ble (am_wt rest) 8 then (match cb_ev n (g_code y f.1).2.1 (0, lv_args 0 (.ref i :: As), []) c with
        | some c' => cb_ev n y (f.1 + 3, f.2.1, rest) c'
        | none => none) else none
      | _ => none)
    else none
/-- k turns of a frame, calls whole -/
def cb_n : Nat → Nat → am_F → cC → cO
  | 0 => fun _ f c => some (f, c)
  | k + 1 => fun y f c =>
    bif Nat.ble (g_code y f.1).1 39 then (match cb_1 (g_code y f.1) f c with
      | some r => cb_n k y r.1 r.2
      | none => none)
    else bif Nat.beq (g_code y f.1).1 50 then (match am_take (g_code y f.1).2.2.1 f.2.2 with
      | some (.ref i :: As, rest) => bif Nat.beq (gK (g_code y f.1).2.1) 1 && Nat.ble (am_wt (.ref i :: As)) (gL (g_code y f.1).2.1) && Nat.ble (am_wt rest) 8 then (match cb_ev 500 (g_code y f.1).2.1 (0, lv_args 0 (.ref i :: As), []) c with
        | some c' => cb_n k y (f.1 + 3, f.2.1, rest) c'
        | none => none) else none
      | _ => none)
    else none
theorem c_app (cs : List cE) (x : cE) : va_up (fun a => c_at (cs[a]?)) cs.length (c_en x) = fun a => c_at ((cs ++ [x])[a]?) := by
  funext a
  by_cases e : a = cs.length
  · subst e
    rw [va_up_self]
    simp [c_at]
  · rw [va_up_ne _ _ e]
    by_cases h : a < cs.length
    · rw [List.getElem?_append_left h]
    · rw [List.getElem?_eq_none (by omega), List.getElem?_eq_none (by simp; omega)]
theorem c_set (cs : List cE) (x : cE) {i : Nat} (hi : i < cs.length) : va_up (fun a => c_at (cs[a]?)) i (c_en x) = fun a => c_at ((cs.set i x)[a]?) := by
  funext a
  by_cases e : a = i
  · subst e
    rw [va_up_self, List.getElem?_set_self hi]
    rfl
  · rw [va_up_ne _ _ e, List.getElem?_set_ne (Ne.symm e)]
theorem c_blt {cs : List cE} {i : Nat} {x : cE} (h : cs[i]? = some x) : Nat.blt i cs.length = true := Nat.ble_eq_true_of_le (List.getElem?_eq_some_iff.mp h).1
theorem c_refs (n : Nat) (l : List (Option Nat)) (v : Nat) : (Sum.inl (3, n, Sum.inr (Sum.inr (Sum.inr (Sum.inr (va_up (fun j => g_get none l j) l.length (some v)))))) : va_E) = c_en (.inr (3, n, l ++ [some v])) := by
  have e : va_up (fun j => g_get none l j) l.length (some v) = fun j => g_get none (l ++ [some v]) j := by
    funext j
    induction l generalizing j with
    | nil =>
      cases j with
      | zero => rfl
      | succ j => rfl
    | cons x r ih =>
      cases j with
      | zero => rw [va_up_ne _ _ (by simp)]; rfl
      | succ j =>
        have h1 := ih j
        show va_up (fun j => g_get none (x :: r) j) (r.length + 1) (some v) (j + 1) = g_get none (r ++ [some v]) j
        rw [← h1]
        by_cases e : j = r.length
        · subst e; rw [va_up_self, va_up_self]
        · rw [va_up_ne _ _ e, va_up_ne _ _ (by omega)]; rfl
  rw [e]
  rfl
theorem c_en_arr (a n : Nat) : c_en (.inr (a, n, [])) = am_arr a n := by
  show (bif Nat.beq a 3 then Sum.inl (3, n, Sum.inr (Sum.inr (Sum.inr (Sum.inr (fun j => g_get none [] j))))) else am_arr a n) = am_arr a n
  cases e : Nat.beq a 3 with
  | false => rfl
  | true =>
    have := Nat.eq_of_beq_eq_true e
    subst this
    rfl
section MK
variable {a b pc : Nat} {v : Value} {ls : List (Nat × Value)} {st : List Value} {c c' : cC} {f' : am_F} {G : am_G}
theorem cb_get (h : cx_get a b pc ls st c = some (f', c')) : x_get a b pc ls st (c_H c) = some (f', c_H c') := by
  unfold cx_get at h
  split at h
  · rename_i i r
    split at h
    · rename_i ci fs hc
      cases e : Nat.beq ci a with
      | false => rw [e] at h; cases h
      | true =>
        rw [e, cond_true] at h
        cases hf : fs[b]? with
        | none => rw [hf] at h; cases h
        | some x =>
          rw [hf] at h
          cases h
          unfold x_get
          show (bif Nat.blt i c.1.length then (match c_at (c.1[i]?) with
            | .inr (ci, fs) => bif Nat.beq ci a then (match fs[b]? with
              | some x => some ((pc + 3, ls, x :: r), c_H c)
              | none => none) else none
            | _ => none) else none) = _
          rw [c_blt hc, hc, cond_true]
          show (bif Nat.beq ci a then (match fs[b]? with
            | some x => some ((pc + 3, ls, x :: r), c_H c)
            | none => none) else none) = _
          rw [e, cond_true, hf]
    · cases h
  · cases h
theorem cb_put (h : cx_put a b v pc ls st c = some (f', c')) : x_put a b v pc ls st (c_H c) = some (f', c_H c') := by
  unfold cx_put at h
  split at h
  · rename_i x i r
    split at h
    · rename_i ci fs hc
      cases e : Nat.beq ci a && Nat.blt b fs.length && am_fit v x with
      | false => rw [e] at h; cases h
      | true =>
        rw [e, cond_true] at h
        cases h
        unfold x_put
        show (bif Nat.blt i c.1.length then (match c_at (c.1[i]?) with
          | .inr (ci, fs) => bif Nat.beq ci a && Nat.blt b fs.length && am_fit v x then some ((pc + 3, ls, r), am_set (c_H c) i (.inr (ci, fs.set b x))) else none
          | _ => none) else none) = _
        rw [c_blt hc, hc, cond_true]
        show (bif Nat.beq ci a && Nat.blt b fs.length && am_fit v x then some ((pc + 3, ls, r), am_set (c_H c) i (.inr (ci, fs.set b x))) else none) = _
        rw [e, cond_true]
        show some ((pc + 3, ls, r), (va_up (fun a => c_at (c.1[a]?)) i (c_en (.inl (ci, fs.set b x))), c.1.length, c.2.1, c.2.2)) = some ((pc + 3, ls, r), (fun a => c_at ((c.1.set i (.inl (ci, fs.set b x)))[a]?), (c.1.set i (.inl (ci, fs.set b x))).length, c.2.1, c.2.2))
        rw [c_set _ _ (List.getElem?_eq_some_iff.mp hc).1, List.length_set]
    · cases h
  · cases h
theorem cb_new (hG : G.2.2.1 a = gNew a) (h : cx_new a pc ls st c = some (f', c')) : x_new G a pc ls st (c_H c) = some (f', c_H c') := by
  unfold cx_new at h
  cases e : Nat.blt c.1.length am_T0 with
  | false => rw [e] at h; cases h
  | true =>
    rw [e, cond_true] at h
    cases h
    unfold x_new am_new
    rw [hG]
    show (match (bif Nat.blt c.1.length am_T0 then some (va_up (fun a => c_at (c.1[a]?)) c.1.length (c_en (.inl (a, gNew a))), c.1.length + 1, c.2.1 + 1, c.2.2 + (gNew a).length) else none) with
      | some h' => some ((pc + 3, ls, Value.ref c.1.length :: st), h')
      | none => none) = _
    rw [e, cond_true]
    show some ((pc + 3, ls, Value.ref c.1.length :: st), (va_up (fun a => c_at (c.1[a]?)) c.1.length (c_en (.inl (a, gNew a))), c.1.length + 1, c.2.1 + 1, c.2.2 + (gNew a).length)) = some ((pc + 3, ls, Value.ref c.1.length :: st), (fun z => c_at ((c.1 ++ [.inl (a, gNew a)])[z]?), (c.1 ++ [Sum.inl (a, gNew a)]).length, c.2.1 + 1, c.2.2 + (gNew a).length))
    rw [c_app, List.length_append]
    rfl
theorem cb_newa (h : cx_newa a b pc ls st c = some (f', c')) : x_newa a b pc ls st (c_H c) = some (f', c_H c') := by
  unfold cx_newa at h
  split at h
  · rename_i n r
    by_cases hn : n < 0
    · rw [if_pos hn] at h; cases h
    · rw [if_neg hn] at h
      cases e : Nat.ble n.toNatClampNeg 1000000 && Nat.blt c.1.length am_T0 with
      | false => rw [e] at h; cases h
      | true =>
        rw [e, cond_true] at h
        cases h
        rw [Bool.and_eq_true] at e
        unfold x_newa am_new
        show (if n < 0 then none else bif Nat.ble n.toNatClampNeg 1000000 then (match (bif Nat.blt c.1.length am_T0 then some (va_up (fun a => c_at (c.1[a]?)) c.1.length (am_arr a n.toNatClampNeg), c.1.length + 1, c.2.1 + 1, c.2.2 + n.toNatClampNeg) else none) with
          | some h' => some ((pc + b, ls, Value.ref c.1.length :: r), h')
          | none => none) else none) = _
        rw [if_neg hn, e.1, e.2, cond_true, cond_true]
        show some ((pc + b, ls, Value.ref c.1.length :: r), (va_up (fun a => c_at (c.1[a]?)) c.1.length (am_arr a n.toNatClampNeg), c.1.length + 1, c.2.1 + 1, c.2.2 + n.toNatClampNeg)) = some ((pc + b, ls, Value.ref c.1.length :: r), (fun z => c_at ((c.1 ++ [.inr (a, n.toNatClampNeg, [])])[z]?), (c.1 ++ [Sum.inr (a, n.toNatClampNeg, [])]).length, c.2.1 + 1, c.2.2 + n.toNatClampNeg))
        rw [← c_en_arr, c_app, List.length_append]
        rfl
  · cases h
theorem cb_astq (h : cx_astq a b pc ls st c = some (f', c')) : x_astq a b pc ls st (c_H c) = some (f', c_H c') := by
  unfold cx_astq at h
  split at h
  · rename_i v i r t
    split at h
    · rename_i n l ci fs hr hv
      cases e : Nat.beq 3 a && Nat.beq ci b && Nat.beq i.toNatClampNeg l.length with
      | false => rw [e] at h; cases h
      | true =>
        rw [e, cond_true] at h
        rw [Bool.and_eq_true] at e
        by_cases hi : i < 0 ∨ n ≤ i.toNatClampNeg
        · rw [if_pos hi] at h; cases h
        · rw [if_neg hi] at h
          cases h
          unfold x_astq
          show (bif Nat.blt r c.1.length && Nat.blt v c.1.length then (match c_at (c.1[r]?), c_at (c.1[v]?) with
            | .inl (k, n, .inr (.inr (.inr (.inr f)))), .inr (ci, _) => bif Nat.beq k a && Nat.beq ci b then (if i < 0 ∨ n ≤ i.toNatClampNeg then none else some ((pc + 1, ls, t), am_set (c_H c) r (.inl (k, n, .inr (.inr (.inr (.inr (va_up f i.toNatClampNeg (some v))))))))) else none
            | _, _ => none) else none) = _
          rw [c_blt hr, c_blt hv, hr, hv]
          show (bif Nat.beq 3 a && Nat.beq ci b then (if i < 0 ∨ n ≤ i.toNatClampNeg then none else some ((pc + 1, ls, t), am_set (c_H c) r (.inl (3, n, .inr (.inr (.inr (.inr (va_up (fun j => g_get none l j) i.toNatClampNeg (some v))))))))) else none) = _
          rw [e.1, cond_true, if_neg hi, Nat.eq_of_beq_eq_true e.2, c_refs]
          show some ((pc + 1, ls, t), (va_up (fun a => c_at (c.1[a]?)) r (c_en (.inr (3, n, l ++ [some v]))), c.1.length, c.2.1, c.2.2)) = some ((pc + 1, ls, t), (fun a => c_at ((c.1.set r (.inr (3, n, l ++ [some v])))[a]?), (c.1.set r (.inr (3, n, l ++ [some v]))).length, c.2.1, c.2.2))
          rw [c_set _ _ (List.getElem?_eq_some_iff.mp hr).1, List.length_set]
    · cases h
  · cases h
end MK
theorem c_pr {G G' : am_G} {op a b : Nat} {v : Value} {sw : List (Int32 × Nat)} {f : am_F} {h h' : am_H} {r : am_F × am_H} (hp : c_pure op = true) (hs : am_1 G' (op, a, b, v, sw) f h' = some r) : am_1 G (op, a, b, v, sw) f h = some (r.1, h) := by
  obtain ⟨pc, ls, st⟩ := f
  have ho : op = 0 ∨ op = 1 ∨ op = 2 ∨ op = 4 ∨ op = 8 ∨ op = 10 ∨ op = 14 ∨ op = 30 ∨ op = 31 := by
    unfold c_pure at hp
    simp only [Bool.or_eq_true] at hp
    rcases hp with (((((((hp | hp) | hp) | hp) | hp) | hp) | hp) | hp) | hp <;> have := Nat.eq_of_beq_eq_true hp <;> omega
  rcases ho with rfl | rfl | rfl | rfl | rfl | rfl | rfl | rfl | rfl
  · have hs : some ((pc + a, ls, v :: st), h') = some r := hs
    cases hs; rfl
  · have hs : x_load a b v pc ls st h' = some r := hs
    show x_load a b v pc ls st h = _
    unfold x_load at hs ⊢
    (repeat' split at hs) <;> simp_all [Bool.cond_eq_ite] <;> (try (obtain ⟨h1, rfl⟩ := hs; simp_all))
  · have hs : x_st1 a b v pc ls st h' = some r := hs
    show x_st1 a b v pc ls st h = _
    unfold x_st1 at hs ⊢
    (repeat' split at hs) <;> simp_all [Bool.cond_eq_ite] <;> (try (obtain ⟨h1, rfl⟩ := hs; simp_all))
  · have hs : x_inc a v pc ls st h' = some r := hs
    show x_inc a v pc ls st h = _
    unfold x_inc at hs ⊢
    (repeat' split at hs) <;> simp_all
    subst hs; rfl
  · have hs : x_br a b pc ls st h' = some r := hs
    show x_br a b pc ls st h = _
    unfold x_br at hs ⊢
    (repeat' split at hs) <;> simp_all
    subst hs; rfl
  · have hs : some ((a, ls, st), h') = some r := hs
    cases hs; rfl
  · have hs : x_dup pc ls st h' = some r := hs
    show x_dup pc ls st h = _
    unfold x_dup at hs ⊢
    (repeat' split at hs) <;> simp_all [Bool.cond_eq_ite] <;> (try (obtain ⟨h1, rfl⟩ := hs; simp_all))
  · have hs : x_max pc ls st h' = some r := hs
    show x_max pc ls st h = _
    unfold x_max at hs ⊢
    split at hs
    · rename_i y x r' hs0
      cases e : Nat.ble (am_wt r') 8 with
      | false => rw [e] at hs; cases hs
      | true =>
        rw [e, cond_true] at hs
        cases hs
        rfl
    · cases hs
  · have hs : x_oi pc ls st h' = some r := hs
    show x_oi pc ls st h = _
    unfold x_oi at hs ⊢
    (repeat' split at hs) <;> simp_all [Bool.cond_eq_ite] <;> (try (obtain ⟨h1, rfl⟩ := hs; simp_all))
theorem cb_1_ok {L : Nat} {xs : Nat → Int32} {q : am_I} {f f' : am_F} {c c' : cC} (h : cb_1 q f c = some (f', c')) : am_1 (gG L xs) q f (c_H c) = some (f', c_H c') := by
  obtain ⟨op, a, b, v, sw⟩ := q
  obtain ⟨pc, ls, st⟩ := f
  unfold cb_1 at h
  dsimp only at h
  cases e : Nat.beq op 20 with
  | true =>
    rw [e, cond_true] at h
    have e := Nat.eq_of_beq_eq_true e
    subst e
    exact cb_get h
  | false =>
    rw [e, cond_false] at h
    cases e : Nat.beq op 21 with
    | true =>
      rw [e, cond_true] at h
      have e := Nat.eq_of_beq_eq_true e
      subst e
      exact cb_put h
    | false =>
      rw [e, cond_false] at h
      cases e : Nat.beq op 26 with
      | true =>
        rw [e, cond_true] at h
        have e := Nat.eq_of_beq_eq_true e
        subst e
        exact cb_new rfl h
      | false =>
        rw [e, cond_false] at h
        cases e : Nat.beq op 27 || Nat.beq op 28 with
        | true =>
          rw [e, cond_true] at h
          rw [Bool.or_eq_true] at e
          rcases e with e | e
          · have e := Nat.eq_of_beq_eq_true e
            subst e
            exact cb_newa h
          · have e := Nat.eq_of_beq_eq_true e
            subst e
            exact cb_newa h
        | false =>
          rw [e, cond_false] at h
          cases e : Nat.beq op 29 with
          | true =>
            rw [e, cond_true] at h
            have e := Nat.eq_of_beq_eq_true e
            subst e
            exact cb_astq h
          | false =>
            rw [e, cond_false] at h
            cases e : c_pure op with
            | false => rw [e, cond_false] at h; cases h
            | true =>
              rw [e, cond_true] at h
              cases hs : am_1 c_G0 (op, a, b, v, sw) (pc, ls, st) c_h0 with
              | none => rw [hs] at h; cases h
              | some r =>
                rw [hs] at h
                cases h
                exact c_pr e hs
theorem c_can {L : Nat} {xs : Nat → Int32} {z i : Nat} {As : List Value} {h : am_H} (h1 : Nat.beq (gK z) 1 = true) (h2 : Nat.ble (am_wt (.ref i :: As)) (gL z) = true) : am_can (gG L xs) z (.ref i :: As) h = true := by
  unfold am_can
  show (Nat.ble (am_wt (.ref i :: As)) (gL z) && (match gK z, (Value.ref i :: As) with
    | 0, _ => true
    | 1, .ref _ :: _ => true
    | k + 2, .ref i :: _ => Nat.blt i h.2.1 && (match h.1 i with
      | .inr (ci, _) => Nat.beq ci k
      | _ => false)
    | _, _ => false)) = true
  rw [h2, Nat.eq_of_beq_eq_true h1]
  rfl
theorem cb_ev_ok {L : Nat} {xs : Nat → Int32} : ∀ {n y : Nat} {f : am_F} {c c' : cC} {d : Nat} {P : am_R → am_H → Prop}, cb_ev n y f c = some c' → n ≤ d → P (.inl none) (c_H c') → am_E (gG L xs) d y f (c_H c) P := by
  intro n
  induction n with
  | zero => intro y f c c' d P h; cases h
  | succ n ih =>
    intro y f c c' d P h hd K
    unfold cb_ev at h
    cases h39 : Nat.ble (g_code y f.1).1 39 with
    | true =>
      rw [h39, cond_true] at h
      cases h1 : cb_1 (g_code y f.1) f c with
      | none => rw [h1] at h; cases h
      | some r =>
        rw [h1] at h
        exact e_1 h39 (cb_1_ok h1) (ih h (by omega) K)
    | false =>
      rw [h39, cond_false] at h
      cases h43 : Nat.beq (g_code y f.1).1 43 with
      | true =>
        rw [h43, cond_true] at h
        have e43 : (g_code y f.1).1 = 43 := Nat.eq_of_beq_eq_true h43
        split at h
        · rename_i hst
          cases h
          refine e_ret (v := none) ?_ ?_ K
          · show (Nat.ble 40 (g_code y f.1).1 && Nat.ble (g_code y f.1).1 44) = true
            rw [e43]; rfl
          · show am_ret (g_code y f.1).1 f.2.2 = some none
            rw [e43, hst]; rfl
        · cases h
      | false =>
        rw [h43, cond_false] at h
        cases h50 : Nat.beq (g_code y f.1).1 50 with
        | false => rw [h50, cond_false] at h; cases h
        | true =>
          rw [h50, cond_true] at h
          have e50 : (g_code y f.1).1 = 50 := Nat.eq_of_beq_eq_true h50
          split at h
          · rename_i i As rest ht
            cases hg : Nat.beq (gK (g_code y f.1).2.1) 1 && Nat.ble (am_wt (.ref i :: As)) (gL (g_code y f.1).2.1) && Nat.ble (am_wt rest) 8 with
            | false => rw [hg, cond_false] at h; cases h
            | true =>
              rw [hg, cond_true] at h
              rw [Bool.and_eq_true, Bool.and_eq_true] at hg
              cases h1 : cb_ev n (g_code y f.1).2.1 (0, lv_args 0 (.ref i :: As), []) c with
              | none => rw [h1] at h; cases h
              | some c1 =>
                rw [h1] at h
                obtain ⟨d', rfl⟩ : ∃ d', d = d' + 1 := ⟨d - 1, by omega⟩
                refine e_call (P' := fun r h2 => r = .inl none ∧ h2 = c_H c1) (g_code y f.1).2.1 ?_ rfl ht (c_can hg.1.1 hg.1.2) hg.2 (ih h1 (by omega) ⟨rfl, rfl⟩) ?_
                · show (Nat.ble 50 (g_code y f.1).1 && Nat.ble (g_code y f.1).1 52) = true
                  rw [e50]; rfl
                · rintro r h2 ⟨rfl, rfl⟩
                  exact ⟨none, rfl, ih h (by omega) K⟩
          · cases h
theorem cb_n_ok {L : Nat} {xs : Nat → Int32} : ∀ {k y : Nat} {f f' : am_F} {c c' : cC} {d : Nat} {P : am_R → am_H → Prop}, cb_n k y f c = some (f', c') → 501 ≤ d → am_E (gG L xs) d y f' (c_H c') P → am_E (gG L xs) d y f (c_H c) P := by
  intro k
  induction k with
  | zero => intro y f f' c c' d P h _ K; cases h; exact K
  | succ n ih =>
    intro y f f' c c' d P h hd K
    unfold cb_n at h
    cases h39 : Nat.ble (g_code y f.1).1 39 with
    | true =>
      rw [h39, cond_true] at h
      cases h1 : cb_1 (g_code y f.1) f c with
      | none => rw [h1] at h; cases h
      | some r =>
        rw [h1] at h
        exact e_1 h39 (cb_1_ok h1) (ih h hd K)
    | false =>
      rw [h39, cond_false] at h
      cases h50 : Nat.beq (g_code y f.1).1 50 with
      | false => rw [h50, cond_false] at h; cases h
      | true =>
        rw [h50, cond_true] at h
        have e50 : (g_code y f.1).1 = 50 := Nat.eq_of_beq_eq_true h50
        split at h
        · rename_i i As rest ht
          cases hg : Nat.beq (gK (g_code y f.1).2.1) 1 && Nat.ble (am_wt (.ref i :: As)) (gL (g_code y f.1).2.1) && Nat.ble (am_wt rest) 8 with
          | false => rw [hg, cond_false] at h; cases h
          | true =>
            rw [hg, cond_true] at h
            rw [Bool.and_eq_true, Bool.and_eq_true] at hg
            cases h1 : cb_ev 500 (g_code y f.1).2.1 (0, lv_args 0 (.ref i :: As), []) c with
            | none => rw [h1] at h; cases h
            | some c1 =>
              rw [h1] at h
              obtain ⟨d', rfl⟩ : ∃ d', d = d' + 1 := ⟨d - 1, by omega⟩
              refine e_call (P' := fun r h2 => r = .inl none ∧ h2 = c_H c1) (g_code y f.1).2.1 ?_ rfl ht (c_can hg.1.1 hg.1.2) hg.2 (cb_ev_ok h1 (by omega) ⟨rfl, rfl⟩) ?_
              · show (Nat.ble 50 (g_code y f.1).1 && Nat.ble (g_code y f.1).1 52) = true
                rw [e50]; rfl
              · rintro r h2 ⟨rfl, rfl⟩
                exact ⟨none, rfl, ih h hd K⟩
        · cases h
