/-! MEMORY: a heap of a fixed shape S (what stands where: classes, lengths, references), with its ints I and longs J: the k-th field of the object a, or the k-th place of the array a -/
def hf (I : Nat → Int32) (J : Nat → Int64) : Nat → List Value → List Value
  | _, [] => []
  | k, .int _ :: r => .int (I k) :: hf I J (k + 1) r
  | k, .long _ :: r => .long (J k) :: hf I J (k + 1) r
  | k, v :: r => v :: hf I J (k + 1) r
def hp (S : Nat → va_E) (I : Nat → Nat → Int32) (J : Nat → Nat → Int64) (a : Nat) : va_E := match S a with
  | .inr o => .inr (o.1, hf (I a) (J a) 0 o.2)
  | .inl (k, n, .inl _) => .inl (k, n, .inl (I a))
  | .inl (k, n, .inr (.inl _)) => .inl (k, n, .inr (.inl (J a)))
  | .inl x => .inl x
def hH (S : Nat → va_E) (n kc ks : Nat) (I : Nat → Nat → Int32) (J : Nat → Nat → Int64) : am_H := (hp S I J, n, kc, ks)
theorem hf_len (I : Nat → Int32) (J : Nat → Int64) : ∀ (fs : List Value) (s : Nat), (hf I J s fs).length = fs.length := by
  intro fs
  induction fs with
  | nil => intro s; rfl
  | cons v r ih => intro s; cases v <;> simp [hf, ih]
theorem hf_int {I : Nat → Int32} {J : Nat → Int64} : ∀ {fs : List Value} {s k : Nat} {z : Int32}, fs[k]? = some (.int z) → (hf I J s fs)[k]? = some (.int (I (s + k))) := by
  intro fs
  induction fs with
  | nil => intro s k z h; cases h
  | cons v r ih =>
    intro s k z h
    cases k with
    | zero => cases h; rfl
    | succ k =>
      have h1 : r[k]? = some (.int z) := h
      have := ih (s := s + 1) h1
      rw [show s + (k + 1) = s + 1 + k by omega, ← this]
      cases v <;> rfl
theorem hf_long {I : Nat → Int32} {J : Nat → Int64} : ∀ {fs : List Value} {s k : Nat} {z : Int64}, fs[k]? = some (.long z) → (hf I J s fs)[k]? = some (.long (J (s + k))) := by
  intro fs
  induction fs with
  | nil => intro s k z h; cases h
  | cons v r ih =>
    intro s k z h
    cases k with
    | zero => cases h; rfl
    | succ k =>
      have h1 : r[k]? = some (.long z) := h
      have := ih (s := s + 1) h1
      rw [show s + (k + 1) = s + 1 + k by omega, ← this]
      cases v <;> rfl
theorem hf_ref {I : Nat → Int32} {J : Nat → Int64} : ∀ {fs : List Value} {s k : Nat} {b : Nat}, fs[k]? = some (.ref b) → (hf I J s fs)[k]? = some (.ref b) := by
  intro fs
  induction fs with
  | nil => intro s k z h; cases h
  | cons v r ih =>
    intro s k z h
    cases k with
    | zero => cases h; rfl
    | succ k =>
      have h1 : r[k]? = some (.ref z) := h
      have := ih (s := s + 1) h1
      rw [← this]
      cases v <;> rfl
theorem hf_same {I I' : Nat → Int32} {J J' : Nat → Int64} : ∀ {fs : List Value} {s : Nat}, (∀ k, s ≤ k → I k = I' k) → (∀ k, s ≤ k → J k = J' k) → hf I J s fs = hf I' J' s fs := by
  intro fs
  induction fs with
  | nil => intro s _ _; rfl
  | cons v r ih =>
    intro s h1 h2
    have := ih (s := s + 1) (fun k hk => h1 k (by omega)) (fun k hk => h2 k (by omega))
    cases v <;> simp [hf, this, h1 s (Nat.le_refl _), h2 s (Nat.le_refl _)]
theorem hf_seti {I : Nat → Int32} {J : Nat → Int64} {w : Int32} : ∀ {fs : List Value} {s k : Nat} {z : Int32}, fs[k]? = some (.int z) → (hf I J s fs).set k (.int w) = hf (upd I (s + k) w) J s fs := by
  intro fs
  induction fs with
  | nil => intro s k z h; cases h
  | cons v r ih =>
    intro s k z h
    cases k with
    | zero =>
      cases h
      show Value.int w :: hf I J (s + 1) r = Value.int (upd I (s + 0) w s) :: hf (upd I (s + 0) w) J (s + 1) r
      rw [show upd I (s + 0) w s = w from by simp [upd], hf_same (I' := upd I (s + 0) w) (J' := J) (fun k hk => by simp [upd]; omega) (fun _ _ => rfl)]
    | succ k =>
      have h1 : r[k]? = some (.int z) := h
      have e := ih (s := s + 1) h1
      have ne : upd I (s + (k + 1)) w s = I s := by simp [upd]
      rw [show s + 1 + k = s + (k + 1) by omega] at e
      cases v <;> simp [hf, e, ne]
theorem hf_setl {I : Nat → Int32} {J : Nat → Int64} {w : Int64} : ∀ {fs : List Value} {s k : Nat} {z : Int64}, fs[k]? = some (.long z) → (hf I J s fs).set k (.long w) = hf I (vp_updL J (s + k) w) s fs := by
  intro fs
  induction fs with
  | nil => intro s k z h; cases h
  | cons v r ih =>
    intro s k z h
    cases k with
    | zero =>
      cases h
      show Value.long w :: hf I J (s + 1) r = Value.long (vp_updL J (s + 0) w s) :: hf I (vp_updL J (s + 0) w) (s + 1) r
      rw [show vp_updL J (s + 0) w s = w from by simp [vp_updL], hf_same (I' := I) (J' := vp_updL J (s + 0) w) (fun _ _ => rfl) (fun k hk => by simp [vp_updL]; omega)]
    | succ k =>
      have h1 : r[k]? = some (.long z) := h
      have e := ih (s := s + 1) h1
      have ne : vp_updL J (s + (k + 1)) w s = J s := by simp [vp_updL]
      rw [show s + 1 + k = s + (k + 1) by omega] at e
      cases v <;> simp [hf, e, ne]
section MEM
variable {G : am_G} {d y pc : Nat} {ls : List (Nat × Value)} {st : List Value} {P : am_R → am_H → Prop} {S : Nat → va_E} {n kc ks : Nat} {I : Nat → Nat → Int32} {J : Nat → Nat → Int64} {a : Nat} {sw : List (Int32 × Nat)} {w : Value}
theorem hp_obj {c : Nat} {fs : List Value} (hS : S a = .inr (c, fs)) : hp S I J a = .inr (c, hf (I a) (J a) 0 fs) := by unfold hp; rw [hS]
theorem hp_i {k m : Nat} {f : Nat → Int32} (hS : S a = .inl (k, m, .inl f)) : hp S I J a = .inl (k, m, .inl (I a)) := by unfold hp; rw [hS]
theorem hp_l {k m : Nat} {f : Nat → Int64} (hS : S a = .inl (k, m, .inr (.inl f))) : hp S I J a = .inl (k, m, .inr (.inl (J a))) := by unfold hp; rw [hS]
theorem hp_q {k m : Nat} {f : Nat → Option Nat} (hS : S a = .inl (k, m, .inr (.inr (.inr (.inr f))))) : hp S I J a = .inl (k, m, .inr (.inr (.inr (.inr f)))) := by unfold hp; rw [hS]
/-- writing of ints and longs: the shape stays -/
theorem hp_upi {I' : Nat → Int32} {x : va_E} (hx : hp S (va_up I a I') J a = x) : va_up (hp S I J) a x = hp S (va_up I a I') J := by
  funext b
  by_cases e : b = a
  · subst e; rw [va_up_self, hx]
  · rw [va_up_ne _ _ e]
    unfold hp
    rw [va_up_ne _ _ e]
theorem hp_upl {J' : Nat → Int64} {x : va_E} (hx : hp S I (va_up J a J') a = x) : va_up (hp S I J) a x = hp S I (va_up J a J') := by
  funext b
  by_cases e : b = a
  · subst e; rw [va_up_self, hx]
  · rw [va_up_ne _ _ e]
    unfold hp
    rw [va_up_ne _ _ e]
theorem r_geti {c k : Nat} {fs : List Value} {z : Int32} (hq : G.1 y pc = (20, c, k, w, sw)) (hn : Nat.blt a n = true) (hS : S a = .inr (c, fs)) (hk : fs[k]? = some (.int z)) (K : am_E G d y (pc + 3, ls, .int (I a k) :: st) (hH S n kc ks I J) P) : am_E G d y (pc, ls, .ref a :: st) (hH S n kc ks I J) P := by
  refine e_1 (by show Nat.ble (G.1 y pc).1 39 = true; rw [hq]; rfl) ?_ K
  show am_1 G (G.1 y pc) _ _ = _
  rw [hq]
  show x_get c k pc ls (.ref a :: st) (hH S n kc ks I J) = _
  unfold x_get
  show (bif Nat.blt a n then (match hp S I J a with
    | .inr (ci, fs) => bif Nat.beq ci c then (match fs[k]? with
      | some x => some ((pc + 3, ls, x :: st), hH S n kc ks I J)
      | none => none) else none
    | _ => none) else none) = _
  rw [hn, hp_obj hS, cond_true]
  simp [hf_int hk, Nat.beq_refl]
theorem r_getl {c k : Nat} {fs : List Value} {z : Int64} (hq : G.1 y pc = (20, c, k, w, sw)) (hn : Nat.blt a n = true) (hS : S a = .inr (c, fs)) (hk : fs[k]? = some (.long z)) (K : am_E G d y (pc + 3, ls, .long (J a k) :: st) (hH S n kc ks I J) P) : am_E G d y (pc, ls, .ref a :: st) (hH S n kc ks I J) P := by
  refine e_1 (by show Nat.ble (G.1 y pc).1 39 = true; rw [hq]; rfl) ?_ K
  show am_1 G (G.1 y pc) _ _ = _
  rw [hq]
  show x_get c k pc ls (.ref a :: st) (hH S n kc ks I J) = _
  unfold x_get
  show (bif Nat.blt a n then (match hp S I J a with
    | .inr (ci, fs) => bif Nat.beq ci c then (match fs[k]? with
      | some x => some ((pc + 3, ls, x :: st), hH S n kc ks I J)
      | none => none) else none
    | _ => none) else none) = _
  rw [hn, hp_obj hS, cond_true]
  simp [hf_long hk, Nat.beq_refl]
theorem r_getr {c k b : Nat} {fs : List Value} (hq : G.1 y pc = (20, c, k, w, sw)) (hn : Nat.blt a n = true) (hS : S a = .inr (c, fs)) (hk : fs[k]? = some (.ref b)) (K : am_E G d y (pc + 3, ls, .ref b :: st) (hH S n kc ks I J) P) : am_E G d y (pc, ls, .ref a :: st) (hH S n kc ks I J) P := by
  refine e_1 (by show Nat.ble (G.1 y pc).1 39 = true; rw [hq]; rfl) ?_ K
  show am_1 G (G.1 y pc) _ _ = _
  rw [hq]
  show x_get c k pc ls (.ref a :: st) (hH S n kc ks I J) = _
  unfold x_get
  show (bif Nat.blt a n then (match hp S I J a with
    | .inr (ci, fs) => bif Nat.beq ci c then (match fs[k]? with
      | some x => some ((pc + 3, ls, x :: st), hH S n kc ks I J)
      | none => none) else none
    | _ => none) else none) = _
  rw [hn, hp_obj hS, cond_true]
  simp [hf_ref hk, Nat.beq_refl]
theorem r_puti {c k : Nat} {fs : List Value} {z v0 v : Int32} (hq : G.1 y pc = (21, c, k, .int v0, sw)) (hn : Nat.blt a n = true) (hS : S a = .inr (c, fs)) (hk : fs[k]? = some (.int z)) (K : am_E G d y (pc + 3, ls, st) (hH S n kc ks (va_up I a (upd (I a) k v)) J) P) : am_E G d y (pc, ls, .int v :: .ref a :: st) (hH S n kc ks I J) P := by
  refine e_1 (by show Nat.ble (G.1 y pc).1 39 = true; rw [hq]; rfl) ?_ K
  show am_1 G (G.1 y pc) _ _ = _
  rw [hq]
  show x_put c k (.int v0) pc ls (.int v :: .ref a :: st) (hH S n kc ks I J) = _
  have hl : Nat.blt k (hf (I a) (J a) 0 fs).length = true := by
    rw [hf_len]
    exact Nat.ble_eq_true_of_le (List.getElem?_eq_some_iff.mp hk).1
  unfold x_put
  show (bif Nat.blt a n then (match hp S I J a with
    | .inr (ci, fs) => bif Nat.beq ci c && Nat.blt k fs.length && am_fit (.int v0) (.int v) then some ((pc + 3, ls, st), am_set (hH S n kc ks I J) a (.inr (ci, fs.set k (.int v)))) else none
    | _ => none) else none) = _
  rw [hn, hp_obj hS, cond_true]
  show (bif Nat.beq c c && Nat.blt k (hf (I a) (J a) 0 fs).length && am_fit (.int v0) (.int v) then some ((pc + 3, ls, st), am_set (hH S n kc ks I J) a (.inr (c, (hf (I a) (J a) 0 fs).set k (.int v)))) else none) = _
  rw [hl, Nat.beq_refl, hf_seti hk, Nat.zero_add]
  show some ((pc + 3, ls, st), (va_up (hp S I J) a _, n, kc, ks)) = some ((pc + 3, ls, st), (hp S (va_up I a (upd (I a) k v)) J, n, kc, ks))
  rw [hp_upi]
  rw [hp_obj hS, va_up_self]
theorem r_putz {c k : Nat} {fs : List Value} {z v : Int32} (hq : G.1 y pc = (22, c, k, w, sw)) (hn : Nat.blt a n = true) (hS : S a = .inr (c, fs)) (hk : fs[k]? = some (.int z)) (hv : v = 0 ∨ v = 1) (K : am_E G d y (pc + 3, ls, st) (hH S n kc ks (va_up I a (upd (I a) k v)) J) P) : am_E G d y (pc, ls, .int v :: .ref a :: st) (hH S n kc ks I J) P := by
  refine e_1 (by show Nat.ble (G.1 y pc).1 39 = true; rw [hq]; rfl) ?_ K
  show am_1 G (G.1 y pc) _ _ = _
  rw [hq]
  show x_putz c k pc ls (.int v :: .ref a :: st) (hH S n kc ks I J) = _
  have hl : Nat.blt k (hf (I a) (J a) 0 fs).length = true := by
    rw [hf_len]
    exact Nat.ble_eq_true_of_le (List.getElem?_eq_some_iff.mp hk).1
  unfold x_putz
  show (bif Nat.blt a n then (match hp S I J a with
    | .inr (ci, fs) => bif Nat.beq ci c && Nat.blt k fs.length then (if v = 0 ∨ v = 1 then some ((pc + 3, ls, st), am_set (hH S n kc ks I J) a (.inr (ci, fs.set k (.int v)))) else none) else none
    | _ => none) else none) = _
  rw [hn, hp_obj hS, cond_true]
  show (bif Nat.beq c c && Nat.blt k (hf (I a) (J a) 0 fs).length then (if v = 0 ∨ v = 1 then some ((pc + 3, ls, st), am_set (hH S n kc ks I J) a (.inr (c, (hf (I a) (J a) 0 fs).set k (.int v)))) else none) else none) = _
  rw [hl, Nat.beq_refl, hf_seti hk, Nat.zero_add, Bool.and_self, cond_true, if_pos hv]
  show some ((pc + 3, ls, st), (va_up (hp S I J) a _, n, kc, ks)) = some ((pc + 3, ls, st), (hp S (va_up I a (upd (I a) k v)) J, n, kc, ks))
  rw [hp_upi]
  rw [hp_obj hS, va_up_self]
theorem r_putl {c k : Nat} {fs : List Value} {z v0 v : Int64} (hq : G.1 y pc = (21, c, k, .long v0, sw)) (hn : Nat.blt a n = true) (hS : S a = .inr (c, fs)) (hk : fs[k]? = some (.long z)) (K : am_E G d y (pc + 3, ls, st) (hH S n kc ks I (va_up J a (vp_updL (J a) k v))) P) : am_E G d y (pc, ls, .long v :: .ref a :: st) (hH S n kc ks I J) P := by
  refine e_1 (by show Nat.ble (G.1 y pc).1 39 = true; rw [hq]; rfl) ?_ K
  show am_1 G (G.1 y pc) _ _ = _
  rw [hq]
  show x_put c k (.long v0) pc ls (.long v :: .ref a :: st) (hH S n kc ks I J) = _
  have hl : Nat.blt k (hf (I a) (J a) 0 fs).length = true := by
    rw [hf_len]
    exact Nat.ble_eq_true_of_le (List.getElem?_eq_some_iff.mp hk).1
  unfold x_put
  show (bif Nat.blt a n then (match hp S I J a with
    | .inr (ci, fs) => bif Nat.beq ci c && Nat.blt k fs.length && am_fit (.long v0) (.long v) then some ((pc + 3, ls, st), am_set (hH S n kc ks I J) a (.inr (ci, fs.set k (.long v)))) else none
    | _ => none) else none) = _
  rw [hn, hp_obj hS, cond_true]
  show (bif Nat.beq c c && Nat.blt k (hf (I a) (J a) 0 fs).length && am_fit (.long v0) (.long v) then some ((pc + 3, ls, st), am_set (hH S n kc ks I J) a (.inr (c, (hf (I a) (J a) 0 fs).set k (.long v)))) else none) = _
  rw [hl, Nat.beq_refl, hf_setl hk, Nat.zero_add]
  show some ((pc + 3, ls, st), (va_up (hp S I J) a _, n, kc, ks)) = some ((pc + 3, ls, st), (hp S I (va_up J a (vp_updL (J a) k v)), n, kc, ks))
  rw [hp_upl]
  rw [hp_obj hS, va_up_self]
end MEM
