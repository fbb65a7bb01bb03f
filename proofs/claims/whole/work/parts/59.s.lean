/-! the run: who is where -/
def sr (S : Nat → Nat → Nat) (k : Nat) (f : Nat → Nat) : Nat → Nat → Nat := fun k' => if k' = k then f else S k'
theorem sr_s (S : Nat → Nat → Nat) (k : Nat) (f : Nat → Nat) : sr S k f k = f := if_pos rfl
theorem sr_n (S : Nat → Nat → Nat) {k k' : Nat} (f : Nat → Nat) (h : k' ≠ k) : sr S k f k' = S k' := if_neg h
section WHERE
variable {cd : Nat → Nat} {bs : Int64} {V c c0 : Nat → Nat → Nat} {P n : Nat} {st : Nat → Bool} {hg : Nat → Nat} {S S' : Nat → Nat → Nat}
/-- j has sent in unit i -/
def snt (S : Nat → Nat → Nat) (i j : Nat) : Prop := i < S 0 j ∨ (i = S 0 j ∧ S 1 j = 1)
/-- somebody has sent in unit i -/
def bgn (P : Nat) (S : Nat → Nat → Nat) (i : Nat) : Prop := ∃ p, p < P ∧ snt S i p
/-- the coin of this check is drawn -/
def pas (cd : Nat → Nat) (c : Nat → Nat → Nat) (f : Nat) : Prop := uk cd c = 2 ∧ (1 ≤ stv (c 0 8) ∨ f = 1)
def hco (cd : Nat → Nat) (bs : Int64) (V c0 S : Nat → Nat → Nat) (j k : Nat) : Prop := k < tr cd bs V c0 (S 0 j) 0 5 ∨ (k = tr cd bs V c0 (S 0 j) 0 5 ∧ pas cd (tr cd bs V c0 (S 0 j)) (S 1 j))
def GD (cd : Nat → Nat) (st : Nat → Bool) (hg : Nat → Nat) (c : Nat → Nat → Nat) : Prop := st (c 0 0) = true ∧ hg (c 0 0) = c 0 1 ∧ ¬ (1 ≤ cd (c 0 0) ∧ cd (c 0 0) ≤ 3) ∧ ∀ i, i < c 0 2 → st (c 3 i) = true ∧ hg (c 3 i) = 0
def PI (cd : Nat → Nat) (bs : Int64) (V c0 : Nat → Nat → Nat) (P : Nat) (S : Nat → Nat → Nat) : Prop :=
  (∀ w, w < P → S 1 w ≤ 1 ∧ (S 1 w = 1 → snb cd (tr cd bs V c0 (S 0 w)) w = true)) ∧
  (∀ p, p < P → ∀ i, i < S 0 p → ∀ j, j < P → snb cd (tr cd bs V c0 i) j = true → snt S i j) ∧
  (∀ j, j < P → ∀ p, p < P → j ≠ p → S (30 + j) p + S (40 + p) j + tr cd bs V c0 (S 0 p) 7 j = tr cd bs V c0 (S 0 j) 7 j + S 1 j) ∧
  (∀ w, w < P → S (30 + w) w = 0) ∧
  (∀ w, w < P → (S 9 w ≠ 0 → ∀ j, j < P → hco cd bs V c0 S j (S 9 w - 1)) ∧ (uk cd (tr cd bs V c0 (S 0 w)) = 2 → 1 ≤ stv (tr cd bs V c0 (S 0 w) 0 8) → S 9 w = tr cd bs V c0 (S 0 w) 0 5 + 1)) ∧
  (∀ w, w < P → tr cd bs V c0 (S 0 w) 0 4 ≤ S 20 1) ∧
  ((∀ i, evb cd (tr cd bs V c0 i) = true → (tr cd bs V c0 i 0 4 < S 20 1 ↔ bgn P S i)) ∧ (∀ i, ¬ bgn P S i → S 20 1 ≤ tr cd bs V c0 i 0 4))
theorem snb_evb {j : Nat} (he : evb cd c = true) (h : sdf cd (c 0 0) j = true) : snb cd c j = true := by
  unfold snb
  rw [h, Bool.and_true]
  exact decide_eq_true (by rcases of_decide_eq_true he with u | u <;> omega)
theorem snb_sdf {j : Nat} (h : snb cd c j = true) : sdf cd (c 0 0) j = true := (Bool.and_eq_true _ _ ▸ h : _ ∧ _).2
theorem snb_uk {j : Nat} (h : snb cd c j = true) : uk cd c = 1 ∨ uk cd c = 2 ∨ uk cd c = 3 := of_decide_eq_true (Bool.and_eq_true _ _ ▸ h : _ ∧ _).1
theorem snb_no {j : Nat} (h : uk cd c = 0 ∨ uk cd c = 4) : snb cd c j = false := by
  unfold snb
  rw [decide_eq_false (by omega), Bool.false_and]
/-- one who has a mail of j has it of this unit, or of a later one -/
theorem snt_g (h : PI cd bs V c0 P S) {w j : Nat} (hw : w < P) (hj : j < P) (hne : j ≠ w) (hg : 1 ≤ S (40 + w) j) : snt S (S 0 w) j := by
  obtain ⟨a1, a2, a3, -⟩ := h
  have e := a3 j hj w hw hne
  have f := a1 j hj
  by_cases x : S 0 j < S 0 w
  · exfalso
    have m := tr_rs (cd := cd) (bs := bs) (V := V) (c0 := c0) j (show S 0 j + 1 ≤ S 0 w from x)
    rw [tr_s, nx_rs] at m
    by_cases y : S 1 j = 1
    · rw [f.2 y, show bn true = 1 from rfl] at m
      omega
    · omega
  · by_cases y : S 0 w < S 0 j
    · exact Or.inl y
    · have z : S 0 j = S 0 w := by omega
      refine Or.inr ⟨z.symm, ?_⟩
      rw [z] at e
      omega
/-- what is known of coins stays -/
theorem hco_s {j k : Nat} (h : hco cd bs V c0 S j k) (h0 : S' 0 j = S 0 j) (h1 : S 1 j = 1 → S' 1 j = 1) : hco cd bs V c0 S' j k := by
  unfold hco at h ⊢
  rw [h0]
  rcases h with h | ⟨h, q, r⟩
  · exact Or.inl h
  · exact Or.inr ⟨h, q, by rcases r with r | r; exact Or.inl r; exact Or.inr (h1 r)⟩
theorem hco_n {j k : Nat} (hs : SGV (cd (c0 0 0)) (c0 0 8)) (h : hco cd bs V c0 S j k) (h0 : S' 0 j = S 0 j + 1) : hco cd bs V c0 S' j k := by
  unfold hco at h ⊢
  rw [h0, tr_s]
  rcases h with h | ⟨h, q, r⟩
  · refine Or.inl ?_
    rw [nx_nc]
    omega
  · have sg := tr_SGV (bs := bs) (V := V) hs (S 0 j)
    by_cases y : tr cd bs V c0 (S 0 j) 0 8 = 6 ∨ tr cd bs V c0 (S 0 j) 0 8 = 16
    · refine Or.inl ?_
      rw [nx_nc, if_pos ⟨q, y⟩]
      omega
    · refine Or.inr ⟨?_, ?_⟩
      · rw [nx_nc, if_neg (fun z => y z.2)]
        exact h
      · have u := UK cd (tr cd bs V c0 (S 0 j))
        rw [nx2 q]
        have e1 : N2 (tr cd bs V c0 (S 0 j)) 0 0 = tr cd bs V c0 (S 0 j) 0 0 := rfl
        have e2 : N2 (tr cd bs V c0 (S 0 j)) 0 8 = tr cd bs V c0 (S 0 j) 0 8 + 2 := rfl
        unfold pas uk
        rw [e1, e2]
        unfold SGV at sg
        unfold stv
        rcases sg with ⟨g1, g2⟩ | ⟨g1, g2⟩ | ⟨g1, g2⟩
        · rw [g1]
          have : tr cd bs V c0 (S 0 j) 0 8 + 2 < 8 := by omega
          rw [if_pos rfl, if_pos this, if_pos this]
          exact ⟨rfl, Or.inl (by omega)⟩
        · have z1 : tr cd bs V c0 (S 0 j) 0 8 + 2 ≠ 8 := by omega
          have z2 : tr cd bs V c0 (S 0 j) 0 8 + 2 ≠ 18 := by omega
          rw [g1, if_neg (by decide), if_pos rfl, if_neg z1, if_neg z2]
          refine ⟨rfl, Or.inl ?_⟩
          split
          · omega
          · rw [if_pos (by omega)]
            omega
        · omega
/-- a step alone keeps who is where -/
theorem PI_loc {w : Nat} (hw : w < P) (hs : SGV (cd (c0 0 0)) (c0 0 8)) (h : PI cd bs V c0 P S) (hu : uk cd (tr cd bs V c0 (S 0 w)) = 0 ∨ uk cd (tr cd bs V c0 (S 0 w)) = 4) (e0 : S' 0 = apn (S 0) w (S 0 w + 1)) (e1 : S' 1 = S 1) (e9 : S' 9 = S 9) (e20 : S' 20 1 = S 20 1) (e3 : ∀ j, j < P → S' (30 + j) = S (30 + j)) (e4 : ∀ j, j < P → S' (40 + j) = S (40 + j)) : PI cd bs V c0 P S' := by
  obtain ⟨a1, a2, a3, a4, a5, a6, a7, a8⟩ := h
  have f0 : S' 0 w = S 0 w + 1 := by rw [e0, apn_s]
  have fn : ∀ j, j ≠ w → S' 0 j = S 0 j := fun j hj => by rw [e0, apn_n _ _ hj]
  have hf : S 1 w = 0 := by
    have q := a1 w hw
    by_cases y : S 1 w = 1
    · have := q.2 y
      rw [snb_no hu] at this
      cases this
    · omega
  have hsn : ∀ i j, j < P → snt S i j → snt S' i j := fun i j hj y => by
    unfold snt at y ⊢
    rw [e1]
    by_cases z : j = w
    · rw [z] at y ⊢
      rw [f0]
      omega
    · rw [fn j z]
      exact y
  have hrs : ∀ j, tr cd bs V c0 (S 0 w + 1) 7 j = tr cd bs V c0 (S 0 w) 7 j := fun j => by
    rw [tr_s, nx_rs, snb_no hu]
    rfl
  have hev : evb cd (tr cd bs V c0 (S 0 w)) = false := decide_eq_false (by omega)
  refine ⟨fun x hx => ?_, fun p hp i hi j hj hn => ?_, fun j hj p hp hne => ?_, fun x hx => ?_, fun x hx => ⟨fun y j hj => ?_, fun y1 y2 => ?_⟩, fun x hx => ?_, fun i hi => ?_, fun i hi => by rw [e20]; exact a8 i (fun ⟨p, hp, q⟩ => hi ⟨p, hp, hsn i p hp q⟩)⟩
  · rw [e1]
    refine ⟨(a1 x hx).1, fun y => ?_⟩
    by_cases z : x = w
    · rw [z] at y
      omega
    · rw [fn x z]
      exact (a1 x hx).2 y
  · by_cases z : p = w
    · rw [z, f0] at hi
      by_cases z2 : i = S 0 w
      · rw [z2, snb_no hu] at hn
        cases hn
      · exact hsn i j hj (a2 w hw i (by omega) j hj hn)
    · rw [fn p z] at hi
      exact hsn i j hj (a2 p hp i hi j hj hn)
  · rw [e3 j hj, e4 p hp, e1]
    have q := a3 j hj p hp hne
    by_cases z : p = w
    · rw [fn j (by omega), z, f0, hrs]
      rw [z] at q
      exact q
    · rw [fn p z]
      by_cases z2 : j = w
      · rw [z2, f0, hrs]
        rw [z2] at q
        exact q
      · rw [fn j z2]
        exact q
  · rw [e3 x hx]
    exact a4 x hx
  · rw [e9] at y ⊢
    have q := (a5 x hx).1 y j hj
    by_cases z : j = w
    · rw [z] at q ⊢
      exact hco_n hs q f0
    · exact hco_s q (fn j z) (fun y => by rw [e1]; exact y)
  · rw [e9]
    by_cases z : x = w
    · exfalso
      rw [z, f0, tr_s] at y2
      have : stv (nx cd bs V (tr cd bs V c0 (S 0 w)) 0 8) = 0 := by
        rcases hu with u | u
        · rw [nx0 u]
          exact stv_f _ _
        · rw [nx4 u]
          exact stv_f _ _
      omega
    · rw [fn x z] at y1 y2 ⊢
      exact (a5 x hx).2 y1 y2
  · rw [e20]
    by_cases z : x = w
    · rw [z, f0, tr_s, nx_ev, hev]
      exact a6 w hw
    · rw [fn x z]
      exact a6 x hx
  · rw [e20, a7 i hi]
    have hiw : i ≠ S 0 w := fun z => by
      rw [z, hev] at hi
      cases hi
    refine ⟨fun ⟨p, hp, q⟩ => ⟨p, hp, hsn i p hp q⟩, fun ⟨p, hp, q⟩ => ⟨p, hp, ?_⟩⟩
    unfold snt at q ⊢
    rw [e1] at q
    by_cases z : p = w
    · rw [z, f0] at q
      rw [z]
      omega
    · rw [fn p z] at q
      exact q
end WHERE
