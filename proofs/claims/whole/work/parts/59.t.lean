/-! the run: who is where, behind a send and behind a receive -/
section WHERE2
variable {cd : Nat → Nat} {bs : Int64} {V c c0 : Nat → Nat → Nat} {P n : Nat} {st : Nat → Bool} {hg : Nat → Nat} {S S' : Nat → Nat → Nat}
theorem PI_snd {w : Nat} (hw : w < P) (h : PI cd bs V c0 P S) (hu : snb cd (tr cd bs V c0 (S 0 w)) w = true) (hf : S 1 w = 0) (e0 : S' 0 = S 0) (e1 : S' 1 = apn (S 1) w 1) (e9 : S' 9 = S 9) (e20 : S' 20 1 = if evb cd (tr cd bs V c0 (S 0 w)) = true ∧ tr cd bs V c0 (S 0 w) 0 4 = S 20 1 then S 20 1 + 1 else S 20 1) (e3w : ∀ j, j < P → S' (30 + w) j = if j = w then S (30 + w) j else S (30 + w) j + 1) (e3 : ∀ j, j < P → j ≠ w → S' (30 + j) = S (30 + j)) (e4 : ∀ j, j < P → S' (40 + j) = S (40 + j)) : PI cd bs V c0 P S' := by
  obtain ⟨a1, a2, a3, a4, a5, a6, a7, a8⟩ := h
  have f1 : S' 1 w = 1 := by rw [e1, apn_s]
  have fn : ∀ j, j ≠ w → S' 1 j = S 1 j := fun j hj => by rw [e1, apn_n _ _ hj]
  have hsn : ∀ i j, snt S i j → snt S' i j := fun i j y => by
    unfold snt at y ⊢
    rw [e0]
    by_cases z : j = w
    · rw [z] at y ⊢
      omega
    · rw [fn j z]
      exact y
  refine ⟨fun x hx => ?_, fun p hp i hi j hj hn => ?_, fun j hj p hp hne => ?_, fun x hx => ?_, fun x hx => ⟨fun y j hj => ?_, fun y1 y2 => ?_⟩, fun x hx => ?_, fun i hi => ?_, fun i hi => ?_⟩
  case refine_9 =>
    have nb : ¬ bgn P S i := fun ⟨p, hp, q⟩ => hi ⟨p, hp, hsn i p q⟩
    have old := a8 i nb
    rw [e20]
    split
    · rename_i q
      have gt : S 0 w < i := by
        by_cases l : i < S 0 w
        · exact absurd ⟨w, hw, Or.inl (by rw [e0]; exact l)⟩ hi
        · by_cases l2 : i = S 0 w
          · exact absurd ⟨w, hw, Or.inr ⟨by rw [e0]; exact l2, f1⟩⟩ hi
          · omega
      have := tr_evlt q.1 gt
      omega
    · exact old
  · rw [e0]
    by_cases z : x = w
    · rw [z, f1]
      exact ⟨Nat.le_refl _, fun _ => hu⟩
    · rw [fn x z]
      exact a1 x hx
  · rw [e0] at hi
    exact hsn i j (a2 p hp i hi j hj hn)
  · rw [e0, e4 p hp]
    have q := a3 j hj p hp hne
    by_cases z : j = w
    · rw [z] at q hne ⊢
      rw [e3w p hp, if_neg (by omega), f1]
      omega
    · rw [e3 j hj z, fn j z]
      exact q
  · by_cases z : x = w
    · rw [z, e3w w hw, if_pos rfl]
      exact a4 w hw
    · rw [e3 x hx z]
      exact a4 x hx
  · rw [e9] at y ⊢
    exact hco_s ((a5 x hx).1 y j hj) (by rw [e0]) (fun y => by
      by_cases z : j = w
      · rw [z]
        exact f1
      · rw [fn j z]
        exact y)
  · rw [e0] at y1 y2 ⊢
    rw [e9]
    exact (a5 x hx).2 y1 y2
  · rw [e0, e20]
    have := a6 x hx
    split <;> omega
  · have hn : i ≠ S 0 w → (bgn P S' i ↔ bgn P S i) := fun z => by
      refine ⟨fun ⟨p, hp, q⟩ => ⟨p, hp, ?_⟩, fun ⟨p, hp, q⟩ => ⟨p, hp, hsn i p q⟩⟩
      unfold snt at q ⊢
      rw [e0] at q
      by_cases z2 : p = w
      · rw [z2] at q ⊢
        omega
      · rw [fn p z2] at q
        exact q
    have hy : i = S 0 w → bgn P S' i := fun z => ⟨w, hw, Or.inr ⟨by rw [e0]; exact z, f1⟩⟩
    have a6w := a6 w hw
    by_cases z : i = S 0 w
    · refine ⟨fun _ => hy z, fun _ => ?_⟩
      rw [e20, z]
      rw [z] at hi
      by_cases z2 : tr cd bs V c0 (S 0 w) 0 4 = S 20 1
      · rw [if_pos ⟨hi, z2⟩]
        omega
      · rw [if_neg (fun q => z2 q.2)]
        omega
    · rw [hn z, ← a7 i hi, e20]
      split
      · rename_i q
        have : tr cd bs V c0 i 0 4 ≠ tr cd bs V c0 (S 0 w) 0 4 := by
          by_cases l : i < S 0 w
          · have := tr_evlt hi l
            omega
          · have := tr_evlt q.1 (show S 0 w < i by omega)
            omega
        omega
      · exact Iff.rfl
theorem stv_0 {sg : Nat} (h : stv sg = 0) (hg : SGV (cd (c 0 0)) sg) (hu : uk cd c = 2) (he : sg = c 0 8) : sg = 0 ∨ sg = 10 := by
  have q := UK cd c
  unfold SGV at hg
  unfold stv at h
  by_cases a : sg < 8
  · rw [if_pos a] at h
    exact Or.inl h
  · rw [if_neg a] at h
    by_cases b : 10 ≤ sg ∧ sg < 18
    · rw [if_pos b] at h
      omega
    · omega
/-- a check goes on to its next two rounds -/
theorem uk_2s (hs : SGV (cd (c 0 0)) (c 0 8)) (u : uk cd c = 2) (h : ¬ (c 0 8 = 6 ∨ c 0 8 = 16)) : uk cd (nx cd bs V c) = 2 ∧ stv (nx cd bs V c 0 8) = stv (c 0 8) + 2 ∧ nx cd bs V c 0 5 = c 0 5 := by
  have q := UK cd c
  rw [nx2 u]
  have e1 : N2 c 0 0 = c 0 0 := rfl
  have e2 : N2 c 0 8 = c 0 8 + 2 := rfl
  have e3 : N2 c 0 5 = c 0 5 + (if c 0 8 = 6 ∨ c 0 8 = 16 then 1 else 0) := rfl
  unfold SGV at hs
  refine ⟨?_, ?_, by rw [e3, if_neg h]; rfl⟩
  · unfold uk
    rw [e1, e2]
    rcases hs with ⟨g1, g2⟩ | ⟨g1, g2⟩ | ⟨g1, g2⟩
    · rw [if_pos g1, if_pos (by omega)]
    · rw [if_neg (by omega), if_pos g1, if_neg (by omega), if_neg (by omega)]
    · omega
  · rw [e2]
    have z : c 0 8 = 0 ∨ c 0 8 = 2 ∨ c 0 8 = 4 ∨ c 0 8 = 10 ∨ c 0 8 = 12 ∨ c 0 8 = 14 := by omega
    rcases z with z | z | z | z | z | z <;> (rw [z]; rfl)
theorem uk_2e (hs : SGV (cd (c 0 0)) (c 0 8)) (u : uk cd c = 2) (h : c 0 8 = 6 ∨ c 0 8 = 16) : uk cd (nx cd bs V c) ≠ 2 ∧ nx cd bs V c 0 5 = c 0 5 + 1 := by
  have q := UK cd c
  rw [nx2 u]
  have e1 : N2 c 0 0 = c 0 0 := rfl
  have e2 : N2 c 0 8 = c 0 8 + 2 := rfl
  have e3 : N2 c 0 5 = c 0 5 + (if c 0 8 = 6 ∨ c 0 8 = 16 then 1 else 0) := rfl
  unfold SGV at hs
  refine ⟨?_, by rw [e3, if_pos h]⟩
  unfold uk
  rw [e1, e2]
  rcases hs with ⟨g1, g2⟩ | ⟨g1, g2⟩ | ⟨g1, g2⟩
  · rw [if_pos g1, if_neg (by omega)]
    decide
  · rw [if_neg (by omega), if_pos g1]
    rcases h with h | h
    · rw [h]
      decide
    · rw [h]
      decide
  · omega
/-- nobody is two units ahead of one who is in a check -/
theorem PI_2 (hs : SGV (cd (c0 0 0)) (c0 0 8)) (h : PI cd bs V c0 P S) {w j : Nat} (hw : w < P) (hj : j < P) (u : uk cd (tr cd bs V c0 (S 0 w)) = 2) (h0 : ¬ (tr cd bs V c0 (S 0 w) 0 8 = 6 ∨ tr cd bs V c0 (S 0 w) 0 8 = 16)) : S 0 j ≤ S 0 w + 1 := by
  by_cases y : S 0 w + 1 < S 0 j
  · exfalso
    have z := uk_2s (bs := bs) (V := V) (tr_SGV hs (S 0 w)) u h0
    have q := UK cd (nx cd bs V (tr cd bs V c0 (S 0 w)))
    have s : snb cd (tr cd bs V c0 (S 0 w + 1)) w = true := by
      unfold snb
      rw [tr_s, sdf_t (by omega), Bool.and_true]
      exact decide_eq_true (by omega)
    have := h.2.1 j hj (S 0 w + 1) y w hw s
    unfold snt at this
    omega
  · omega
theorem PI_rcv {w : Nat} (hw : w < P) (hs : SGV (cd (c0 0 0)) (c0 0 8)) (h : PI cd bs V c0 P S) (hu : uk cd (tr cd bs V c0 (S 0 w)) = 1 ∨ uk cd (tr cd bs V c0 (S 0 w)) = 2 ∨ uk cd (tr cd bs V c0 (S 0 w)) = 3) (hf : S 1 w = bn (snb cd (tr cd bs V c0 (S 0 w)) w)) (hgt : ∀ j, j < P → j ≠ w → snb cd (tr cd bs V c0 (S 0 w)) j = true → 1 ≤ S (40 + w) j) (hone : ∃ j, j < P ∧ snb cd (tr cd bs V c0 (S 0 w)) j = true) (e0 : S' 0 = apn (S 0) w (S 0 w + 1)) (e1 : S' 1 = apn (S 1) w 0) (e9 : S' 9 = if uk cd (tr cd bs V c0 (S 0 w)) = 2 ∧ stv (tr cd bs V c0 (S 0 w) 0 8) = 0 then apn (S 9) w (tr cd bs V c0 (S 0 w) 0 5 + 1) else S 9) (e20 : S' 20 1 = S 20 1) (e3 : ∀ j, j < P → S' (30 + j) = S (30 + j)) (e4w : ∀ j, j < P → S' (40 + w) j = if j ≠ w ∧ snb cd (tr cd bs V c0 (S 0 w)) j = true then S (40 + w) j - 1 else S (40 + w) j) (e4 : ∀ j, j < P → j ≠ w → S' (40 + j) = S (40 + j)) : PI cd bs V c0 P S' := by
  have hall : ∀ j, j < P → snb cd (tr cd bs V c0 (S 0 w)) j = true → snt S (S 0 w) j := fun j hj y => by
    by_cases z : j = w
    · rw [z] at y ⊢
      rw [y] at hf
      exact Or.inr ⟨rfl, hf⟩
    · exact snt_g h hw hj z (hgt j hj z y)
  have h' := h
  obtain ⟨a1, a2, a3, a4, a5, a6, a7, a8⟩ := h
  have f0 : S' 0 w = S 0 w + 1 := by rw [e0, apn_s]
  have fn : ∀ j, j ≠ w → S' 0 j = S 0 j := fun j hj => by rw [e0, apn_n _ _ hj]
  have g0 : S' 1 w = 0 := by rw [e1, apn_s]
  have gn : ∀ j, j ≠ w → S' 1 j = S 1 j := fun j hj => by rw [e1, apn_n _ _ hj]
  have hsn : ∀ i j, snt S i j → snt S' i j := fun i j y => by
    unfold snt at y ⊢
    by_cases z : j = w
    · rw [z] at y ⊢
      rw [f0]
      omega
    · rw [fn j z, gn j z]
      exact y
  have hrs : ∀ j, tr cd bs V c0 (S 0 w + 1) 7 j = tr cd bs V c0 (S 0 w) 7 j + bn (snb cd (tr cd bs V c0 (S 0 w)) j) := fun j => by
    rw [tr_s, nx_rs]
  have hbg : bgn P S (S 0 w) := by
    obtain ⟨j, hj, q⟩ := hone
    exact ⟨j, hj, hall j hj q⟩
  have hhc : ∀ j k, j < P → hco cd bs V c0 S j k → hco cd bs V c0 S' j k := fun j k hj q => by
    by_cases z : j = w
    · rw [z] at q ⊢
      exact hco_n hs q f0
    · exact hco_s q (fn j z) (fun y => by rw [gn j z]; exact y)
  have sgw := tr_SGV (bs := bs) (V := V) hs (S 0 w)
  refine ⟨fun x hx => ?_, fun p hp i hi j hj hn => ?_, fun j hj p hp hne => ?_, fun x hx => ?_, fun x hx => ⟨fun y j hj => ?_, fun y1 y2 => ?_⟩, fun x hx => ?_, fun i hi => ?_, fun i hi => by rw [e20]; exact a8 i (fun ⟨p, hp, q⟩ => hi ⟨p, hp, hsn i p q⟩)⟩
  · by_cases z : x = w
    · rw [z, g0]
      exact ⟨by omega, fun y => by omega⟩
    · rw [fn x z, gn x z]
      exact a1 x hx
  · by_cases z : p = w
    · rw [z, f0] at hi
      by_cases z2 : i = S 0 w
      · rw [z2] at hn ⊢
        exact hsn _ j (hall j hj hn)
      · exact hsn i j (a2 w hw i (by omega) j hj hn)
    · rw [fn p z] at hi
      exact hsn i j (a2 p hp i hi j hj hn)
  · rw [e3 j hj]
    have q := a3 j hj p hp hne
    by_cases z : p = w
    · rw [z] at q hne ⊢
      rw [fn j hne, gn j hne, e4w j hj, f0, hrs]
      by_cases y : snb cd (tr cd bs V c0 (S 0 w)) j = true
      · have := hgt j hj hne y
        rw [if_pos ⟨hne, y⟩, y, show bn true = 1 from rfl]
        omega
      · rw [if_neg (fun k => y k.2), Bool.eq_false_iff.mpr y, show bn false = 0 from rfl]
        exact q
    · rw [fn p z, e4 p hp z]
      by_cases z2 : j = w
      · rw [z2] at q ⊢
        rw [f0, hrs, g0]
        omega
      · rw [fn j z2, gn j z2]
        exact q
  · rw [e3 x hx]
    exact a4 x hx
  · by_cases y0 : uk cd (tr cd bs V c0 (S 0 w)) = 2 ∧ stv (tr cd bs V c0 (S 0 w) 0 8) = 0
    · rw [e9, if_pos y0] at y ⊢
      by_cases z : x = w
      · rw [z, apn_s]
        show hco cd bs V c0 S' j (tr cd bs V c0 (S 0 w) 0 5)
        have qu := UK cd (tr cd bs V c0 (S 0 w))
        have s0 := stv_0 y0.2 sgw y0.1 rfl
        have ne : ¬ (tr cd bs V c0 (S 0 w) 0 8 = 6 ∨ tr cd bs V c0 (S 0 w) 0 8 = 16) := by omega
        have nx2' := uk_2s (bs := bs) (V := V) sgw y0.1 ne
        have sj : snb cd (tr cd bs V c0 (S 0 w)) j = true := by
          unfold snb
          rw [sdf_t (by omega), Bool.and_true]
          exact decide_eq_true (by omega)
        have le := PI_2 hs h' hw hj y0.1 ne
        have sn := hall j hj sj
        apply hhc j _ hj
        unfold snt at sn
        unfold hco
        by_cases t : S 0 j = S 0 w
        · rw [t]
          exact Or.inr ⟨rfl, y0.1, Or.inr (by omega)⟩
        · have t2 : S 0 j = S 0 w + 1 := by omega
          rw [t2, tr_s]
          exact Or.inr ⟨nx2'.2.2.symm, nx2'.1, Or.inl (by omega)⟩
      · rw [apn_n _ _ z] at y ⊢
        exact hhc j _ hj ((a5 x hx).1 y j hj)
    · rw [e9, if_neg y0] at y ⊢
      exact hhc j _ hj ((a5 x hx).1 y j hj)
  · by_cases z : x = w
    · rw [z, f0, tr_s] at y1 y2 ⊢
      rcases hu with u | u | u
      · exfalso
        rw [nx1 u] at y2
        have : stv (N1 cd bs V (tr cd bs V c0 (S 0 w)) 0 8) = 0 := stv_f _ _
        omega
      · by_cases ne : tr cd bs V c0 (S 0 w) 0 8 = 6 ∨ tr cd bs V c0 (S 0 w) 0 8 = 16
        · exact absurd y1 (uk_2e sgw u ne).1
        · have nx2' := uk_2s (bs := bs) (V := V) sgw u ne
          rw [nx2'.2.2, e9]
          by_cases t : stv (tr cd bs V c0 (S 0 w) 0 8) = 0
          · rw [if_pos ⟨u, t⟩, apn_s]
          · rw [if_neg (fun k => t k.2)]
            exact (a5 w hw).2 u (by omega)
      · exfalso
        rw [nx3 u] at y2
        have : stv (N3 cd V (tr cd bs V c0 (S 0 w)) 0 8) = 0 := rfl
        omega
    · rw [fn x z] at y1 y2 ⊢
      have q := (a5 x hx).2 y1 y2
      rw [e9]
      split
      · rw [apn_n _ _ z]
        exact q
      · exact q
  · rw [e20]
    by_cases z : x = w
    · rw [z, f0, tr_s, nx_ev]
      have a6w := a6 w hw
      cases y : evb cd (tr cd bs V c0 (S 0 w)) with
      | false => exact a6w
      | true => exact (a7 _ y).mpr hbg
    · rw [fn x z]
      exact a6 x hx
  · rw [e20, a7 i hi]
    refine ⟨fun ⟨p, hp, q⟩ => ⟨p, hp, hsn i p q⟩, fun ⟨p, hp, q⟩ => ?_⟩
    unfold snt at q
    by_cases z : p = w
    · rw [z, f0, g0] at q
      by_cases z2 : i = S 0 w
      · rw [z2]
        exact hbg
      · exact ⟨w, hw, Or.inl (by omega)⟩
    · rw [fn p z, gn p z] at q
      exact ⟨p, hp, q⟩
end WHERE2
