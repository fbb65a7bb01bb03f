/-! the run: the errors noted are those that are not zero -/
theorem NZ_c {er a b a' b' : Nat → Nat} : ∀ m n, NZ er a b m n → (∀ k, k < n → a' k = a k ∧ b' k = b k) → NZ er a' b' m n := by
  intro m
  induction m with
  | zero =>
    intro n h _
    exact h
  | succ m ih =>
    intro n h hk
    unfold NZ at h ⊢
    by_cases x : er m = 0
    · rw [if_pos x] at h ⊢
      exact ih n h hk
    · rw [if_neg x] at h ⊢
      obtain ⟨k, k1, k2, k3, k4⟩ := h
      exact ⟨k, k1, ih k k2 (fun j hj => hk j (by omega)), by rw [(hk k (by omega)).1]; exact k3, by rw [(hk k (by omega)).2]; exact k4⟩
theorem NZ_e {er er' a b : Nat → Nat} : ∀ m n, NZ er a b m n → (∀ k, k < m → er' k = er k) → NZ er' a b m n := by
  intro m
  induction m with
  | zero =>
    intro n h _
    exact h
  | succ m ih =>
    intro n h hk
    unfold NZ at h ⊢
    rw [hk m (by omega)]
    by_cases x : er m = 0
    · rw [if_pos x] at h ⊢
      exact ih n h (fun j hj => hk j (by omega))
    · rw [if_neg x] at h ⊢
      obtain ⟨k, k1, k2, k3, k4⟩ := h
      exact ⟨k, k1, ih k k2 (fun j hj => hk j (by omega)), k3, k4⟩
theorem NZ_1 {er : Nat → Nat} {v : Nat} {s : NS4} (h : NZ er s.2.1 s.2.2.1 s.2.2.2 s.1) (hv : er s.2.2.2 = v) : NZ er (nt1 v s).2.1 (nt1 v s).2.2.1 (nt1 v s).2.2.2 (nt1 v s).1 := by
  unfold nt1
  by_cases x : v = 0
  · rw [if_pos x]
    show NZ er s.2.1 s.2.2.1 (s.2.2.2 + 1) s.1
    unfold NZ
    rw [if_pos (by rw [hv]; exact x)]
    exact h
  · rw [if_neg x]
    show NZ er (apn s.2.1 s.1 s.2.2.2) (apn s.2.2.1 s.1 v) (s.2.2.2 + 1) (s.1 + 1)
    unfold NZ
    rw [if_neg (by rw [hv]; exact x)]
    exact ⟨s.1, rfl, NZ_c _ _ h (fun k hk => ⟨apn_n _ _ (by omega), apn_n _ _ (by omega)⟩), apn_s _ _ _, by rw [apn_s]; exact hv.symm⟩
theorem NZ_s {er e : Nat → Nat} : ∀ (d k : Nat) (s : NS4), NZ er s.2.1 s.2.2.1 s.2.2.2 s.1 → (∀ j, j < d → er (s.2.2.2 + j) = e (k + j)) → NZ er (nts e d k s).2.1 (nts e d k s).2.2.1 (nts e d k s).2.2.2 (nts e d k s).1 := by
  intro d
  induction d with
  | zero =>
    intro k s h _
    exact h
  | succ d ih =>
    intro k s h hk
    have z := (nt1_mono (e k) s).2
    unfold nts
    refine ih (k + 1) (nt1 (e k) s) (NZ_1 h (by have := hk 0 (by omega); rwa [Nat.add_zero, Nat.add_zero] at this)) (fun j hj => ?_)
    rw [z]
    have := hk (j + 1) (by omega)
    rw [show s.2.2.2 + (j + 1) = s.2.2.2 + 1 + j by omega, show k + (j + 1) = k + 1 + j by omega] at this
    exact this
/-- as many errors that are not zero as noted -/
def nzc (er : Nat → Nat) : Nat → Nat
  | 0 => 0
  | m + 1 => if er m = 0 then nzc er m else nzc er m + 1
theorem NZ_n {er a b : Nat → Nat} : ∀ m n, NZ er a b m n → n = nzc er m := by
  intro m
  induction m with
  | zero =>
    intro n h
    exact h
  | succ m ih =>
    intro n h
    unfold NZ at h
    unfold nzc
    by_cases x : er m = 0
    · rw [if_pos x] at h ⊢
      exact ih n h
    · rw [if_neg x] at h ⊢
      obtain ⟨k, k1, k2, k3, k4⟩ := h
      rw [k1, ih k k2]
