/-! the run: events and errors along the trace -/
section EVENTS
variable {cd : Nat → Nat} {bs : Int64} {V c c0 : Nat → Nat → Nat}
def kdu (cd : Nat → Nat) (c : Nat → Nat → Nat) : Nat := if uk cd c = 3 then 4 else kdo (cd (c 0 0))
theorem kdo_n {pos : Nat} (h : shd cd pos) : num (kdo (cd pos)) = if cd pos = 13 then 0 else nus (cd pos) := by
  unfold shd jnt at h
  rcases (show cd pos = 7 ∨ cd pos = 10 ∨ cd pos = 13 ∨ cd pos = 14 ∨ cd pos = 25 ∨ cd pos = 26 by omega) with e | e | e | e | e | e <;>
  · rw [e]
    rfl
/-- the events since the last check: where their errors begin, their kinds -/
def EIX (cd : Nat → Nat) (bs : Int64) (V c0 : Nat → Nat → Nat) (i : Nat) (ix kd : Nat → Nat) : Prop := ix (tr cd bs V c0 i 0 11) = 0 ∧ ix (tr cd bs V c0 i 0 4) = tr cd bs V c0 i 0 7 ∧ ∀ e, tr cd bs V c0 i 0 11 ≤ e → e < tr cd bs V c0 i 0 4 → ∃ m, m < i ∧ evb cd (tr cd bs V c0 m) = true ∧ tr cd bs V c0 m 0 4 = e ∧ kd e = kdu cd (tr cd bs V c0 m) ∧ ix (e + 1) = ix e + num (kd e) ∧ ix (e + 1) ≤ tr cd bs V c0 i 0 7 ∧ ∀ k, k < num (kd e) → tr cd bs V c0 i 5 (ix e + k) = uE cd V (tr cd bs V c0 m) k
theorem EIX_s {i : Nat} {ix kd : Nat → Nat} (h : EIX cd bs V c0 i ix kd) (a : tr cd bs V c0 (i + 1) 0 11 = tr cd bs V c0 i 0 11) (b : tr cd bs V c0 (i + 1) 0 4 = tr cd bs V c0 i 0 4) (d : tr cd bs V c0 (i + 1) 0 7 = tr cd bs V c0 i 0 7) (f : tr cd bs V c0 (i + 1) 5 = tr cd bs V c0 i 5) : EIX cd bs V c0 (i + 1) ix kd := by
  unfold EIX at h ⊢
  rw [a, b, d, f]
  refine ⟨h.1, h.2.1, fun e h1 h2 => ?_⟩
  obtain ⟨m, q1, q2⟩ := h.2.2 e h1 h2
  exact ⟨m, by omega, q2⟩
theorem EIX_e {i : Nat} {ix kd : Nat → Nat} (h : EIX cd bs V c0 i ix kd) (hck : tr cd bs V c0 i 0 11 ≤ tr cd bs V c0 i 0 4) (he : evb cd (tr cd bs V c0 i) = true) (a : tr cd bs V c0 (i + 1) 0 11 = tr cd bs V c0 i 0 11) (b : tr cd bs V c0 (i + 1) 0 4 = tr cd bs V c0 i 0 4 + 1) (d : tr cd bs V c0 (i + 1) 0 7 = tr cd bs V c0 i 0 7 + num (kdu cd (tr cd bs V c0 i))) (f : ∀ q, q < tr cd bs V c0 i 0 7 → tr cd bs V c0 (i + 1) 5 q = tr cd bs V c0 i 5 q) (g : ∀ k, k < num (kdu cd (tr cd bs V c0 i)) → tr cd bs V c0 (i + 1) 5 (tr cd bs V c0 i 0 7 + k) = uE cd V (tr cd bs V c0 i) k) : ∃ ix kd, EIX cd bs V c0 (i + 1) ix kd := by
  obtain ⟨h1, h2, h3⟩ := h
  refine ⟨fun e => if e ≤ tr cd bs V c0 i 0 4 then ix e else tr cd bs V c0 (i + 1) 0 7, fun e => if e < tr cd bs V c0 i 0 4 then kd e else kdu cd (tr cd bs V c0 i), ?_, ?_, fun e e1 e2 => ?_⟩
  · rw [a]
    show (if tr cd bs V c0 i 0 11 ≤ tr cd bs V c0 i 0 4 then ix (tr cd bs V c0 i 0 11) else _) = 0
    rw [if_pos hck]
    exact h1
  · rw [b]
    show (if tr cd bs V c0 i 0 4 + 1 ≤ tr cd bs V c0 i 0 4 then _ else tr cd bs V c0 (i + 1) 0 7) = _
    rw [if_neg (by omega)]
  · rw [a] at e1
    rw [b] at e2
    by_cases y : e < tr cd bs V c0 i 0 4
    · obtain ⟨m, q1, q2, q3, q4, q5, q6, q7⟩ := h3 e e1 y
      refine ⟨m, by omega, q2, q3, ?_, ?_, ?_, ?_⟩
      · show (if e < tr cd bs V c0 i 0 4 then kd e else _) = _
        rw [if_pos y]
        exact q4
      · show (if e + 1 ≤ tr cd bs V c0 i 0 4 then ix (e + 1) else _) = (if e ≤ tr cd bs V c0 i 0 4 then ix e else _) + num (if e < tr cd bs V c0 i 0 4 then kd e else _)
        rw [if_pos (by omega), if_pos (by omega), if_pos y]
        exact q5
      · show (if e + 1 ≤ tr cd bs V c0 i 0 4 then ix (e + 1) else _) ≤ _
        rw [if_pos (by omega), d]
        omega
      · show ∀ k, k < num (if e < tr cd bs V c0 i 0 4 then kd e else _) → tr cd bs V c0 (i + 1) 5 ((if e ≤ tr cd bs V c0 i 0 4 then ix e else _) + k) = _
        rw [if_pos y, if_pos (by omega)]
        intro k hk
        rw [f _ (by omega)]
        exact q7 k hk
    · have y2 : e = tr cd bs V c0 i 0 4 := by omega
      refine ⟨i, by omega, he, y2.symm, ?_, ?_, ?_, ?_⟩
      · show (if e < tr cd bs V c0 i 0 4 then kd e else _) = _
        rw [if_neg y]
      · show (if e + 1 ≤ tr cd bs V c0 i 0 4 then ix (e + 1) else _) = (if e ≤ tr cd bs V c0 i 0 4 then ix e else _) + num (if e < tr cd bs V c0 i 0 4 then kd e else _)
        rw [if_neg (by omega), if_pos (by omega), if_neg y, y2, h2]
        exact d
      · show (if e + 1 ≤ tr cd bs V c0 i 0 4 then ix (e + 1) else _) ≤ _
        rw [if_neg (by omega)]
        exact Nat.le_refl _
      · show ∀ k, k < num (if e < tr cd bs V c0 i 0 4 then kd e else _) → tr cd bs V c0 (i + 1) 5 ((if e ≤ tr cd bs V c0 i 0 4 then ix e else _) + k) = _
        rw [if_neg y, if_pos (by omega), y2, h2]
        exact g
theorem ape_l {er e : Nat → Nat} {op q : Nat} (h : q < op) : ape er op e q = er q := if_pos h
theorem ape_r {er e : Nat → Nat} {op k : Nat} : ape er op e (op + k) = e k := by
  unfold ape
  rw [if_neg (by omega), show op + k - op = k by omega]
theorem kdu1 (u : uk cd c = 1) : kdu cd c = kdo (cd (c 0 0)) := by
  unfold kdu
  rw [u]
  rfl
theorem kdu3 (u : uk cd c = 3) : kdu cd c = 4 := if_pos u
theorem evb1 (u : uk cd c = 1) : evb cd c = true := decide_eq_true (Or.inl u)
theorem evb3 (u : uk cd c = 3) : evb cd c = true := decide_eq_true (Or.inr u)
/-- how an event changes what was opened -/
theorem nx_evt (he : evb cd c = true) : nx cd bs V c 0 11 = c 0 11 ∧ nx cd bs V c 0 4 = c 0 4 + 1 ∧ nx cd bs V c 0 7 = c 0 7 + num (kdu cd c) ∧ (∀ q, q < c 0 7 → nx cd bs V c 5 q = c 5 q) ∧ (∀ k, k < num (kdu cd c) → nx cd bs V c 5 (c 0 7 + k) = uE cd V c k) := by
  rcases of_decide_eq_true he with u | u
  · rw [nx1 u, kdu1 u]
    have q : shd cd (c 0 0) := by
      rcases UK cd c with ⟨v, q⟩ | ⟨v, q⟩ | ⟨v, q⟩ | ⟨v, q⟩ | ⟨v, q⟩
      · omega
      · exact q.2.2
      · omega
      · omega
      · omega
    rw [kdo_n q]
    refine ⟨rfl, rfl, rfl, fun q hq => ?_, fun k hk => ?_⟩
    · show (if cd (c 0 0) = 13 then c 5 else ape (c 5) (c 0 7) (uE cd V c)) q = _
      split
      · rfl
      · exact ape_l hq
    · show (if cd (c 0 0) = 13 then c 5 else ape (c 5) (c 0 7) (uE cd V c)) _ = _
      split at hk
      · omega
      · rename_i y
        rw [if_neg y]
        exact ape_r
  · rw [nx3 u, kdu3 u]
    exact ⟨rfl, rfl, rfl, fun q hq => ape_l hq, fun k hk => ape_r⟩
theorem TRI (hb : BND (cd := cd) c0) (h1 : c0 0 4 = 0) (h2 : c0 0 7 = 0) : ∀ i, ∃ ix kd, EIX cd bs V c0 i ix kd
  | 0 => ⟨fun _ => 0, fun _ => 0, rfl, h2.symm, fun e e1 e2 => by
      have : c0 0 4 = 0 := h1
      have e3 : e < c0 0 4 := e2
      omega⟩
  | i + 1 => by
    obtain ⟨ix, kd, h⟩ := TRI hb h1 h2 i
    have hB := tr_BND (bs := bs) (V := V) hb i
    cases y : evb cd (tr cd bs V c0 i) with
    | true =>
      obtain ⟨a, b, d, f, g⟩ := nx_evt (bs := bs) (V := V) y
      exact EIX_e h hB.2.2.2.1 y a b d f g
    | false =>
      rcases UK cd (tr cd bs V c0 i) with ⟨u, q⟩ | ⟨u, q⟩ | ⟨u, q⟩ | ⟨u, q⟩ | ⟨u, q⟩
      · exact ⟨ix, kd, EIX_s h (by rw [tr_s, nx0 u]; rfl) (by rw [tr_s, nx0 u]; rfl) (by rw [tr_s, nx0 u]; rfl) (by rw [tr_s, nx0 u]; rfl)⟩
      · rw [evb1 u] at y
        cases y
      · by_cases z : tr cd bs V c0 i 0 8 = 6 ∨ tr cd bs V c0 i 0 8 = 16
        · have z1 : tr cd bs V c0 (i + 1) 0 11 = tr cd bs V c0 i 0 4 := by
            rw [tr_s, nx2 u]
            exact if_pos z
          have z2 : tr cd bs V c0 (i + 1) 0 4 = tr cd bs V c0 i 0 4 := by
            rw [tr_s, nx2 u]
            rfl
          have z3 : tr cd bs V c0 (i + 1) 0 7 = 0 := by
            rw [tr_s, nx2 u]
            exact if_pos z
          exact ⟨fun _ => 0, kd, rfl, z3.symm, fun e e1 e2 => by omega⟩
        · exact ⟨ix, kd, EIX_s h (by rw [tr_s, nx2 u]; exact if_neg z) (by rw [tr_s, nx2 u]; rfl) (by rw [tr_s, nx2 u]; exact if_neg z) (by rw [tr_s, nx2 u]; rfl)⟩
      · rw [evb3 u] at y
        cases y
      · exact ⟨ix, kd, EIX_s h (by rw [tr_s, nx4 u]; rfl) (by rw [tr_s, nx4 u]; rfl) (by rw [tr_s, nx4 u]; rfl) (by rw [tr_s, nx4 u]; rfl)⟩
/-- no more errors than tampers -/
theorem nzc_c {a b : Nat → Nat} : ∀ m, (∀ q, q < m → a q = b q) → nzc a m = nzc b m
  | 0, _ => rfl
  | m + 1, h => by
    unfold nzc
    rw [h m (by omega), nzc_c m (fun q hq => h q (by omega))]
theorem nzc_a {er e : Nat → Nat} {op : Nat} : ∀ d, nzc (ape er op e) (op + d) = nzc er op + nzc e d
  | 0 => nzc_c op (fun q hq => ape_l hq)
  | d + 1 => by
    show (if ape er op e (op + d) = 0 then nzc (ape er op e) (op + d) else nzc (ape er op e) (op + d) + 1) = nzc er op + (if e d = 0 then nzc e d else nzc e d + 1)
    rw [ape_r, nzc_a d]
    split <;> omega
theorem ss_le {f g : Nat → Nat} : ∀ (d t : Nat), (∀ i, f i ≤ g i) → ss f d t ≤ ss g d t
  | 0, _, _ => Nat.le_refl _
  | d + 1, t, h => Nat.add_le_add (h t) (ss_le d (t + 1) h)
theorem ss_pos {p : Nat → Prop} [DecidablePred p] {b : Nat → Nat} : ∀ (d t : Nat), ss (fun t => if p t then b t else 0) d t ≠ 0 → 1 ≤ ss (fun t => if p t then 1 else 0) d t
  | 0, _, h => absurd rfl h
  | d + 1, t, h => by
    show 1 ≤ (if p t then 1 else 0) + ss (fun t => if p t then 1 else 0) d (t + 1)
    have h' : (if p t then b t else 0) + ss (fun t => if p t then b t else 0) d (t + 1) ≠ 0 := h
    by_cases y : p t
    · rw [if_pos y]
      omega
    · rw [if_neg y] at h' ⊢
      have := ss_pos (p := p) (b := b) d (t + 1) (by omega)
      omega
theorem ss_n {f : Nat → Nat} : ∀ (d t : Nat), (∀ i, f i ≤ 1) → ss f d t ≤ d
  | 0, _, _ => Nat.le_refl _
  | d + 1, t, h => by
    have := ss_n d (t + 1) h
    have := h t
    show f t + ss f d (t + 1) ≤ d + 1
    omega
theorem nzc_e {NT : Nat} {tp ts tk tb pl : Nat → Nat} {sd : Nat → Bool} : ∀ d, nzc (eE NT tp ts tk tb sd pl) d ≤ ss (fun t => if (sd (tp t) = true ∧ pl (tp t) = ts t) ∧ tk t < d then 1 else 0) NT 0
  | 0 => Nat.zero_le _
  | d + 1 => by
    have ih := nzc_e (NT := NT) (tp := tp) (ts := ts) (tk := tk) (tb := tb) (pl := pl) (sd := sd) d
    show (if eE NT tp ts tk tb sd pl d = 0 then nzc (eE NT tp ts tk tb sd pl) d else nzc (eE NT tp ts tk tb sd pl) d + 1) ≤ _
    by_cases y : eE NT tp ts tk tb sd pl d = 0
    · rw [if_pos y]
      refine Nat.le_trans ih (ss_le NT 0 (fun t => ?_))
      by_cases z : (sd (tp t) = true ∧ pl (tp t) = ts t) ∧ tk t < d
      · rw [if_pos z, if_pos ⟨z.1, by omega⟩]
        exact Nat.le_refl _
      · rw [if_neg z]
        exact Nat.zero_le _
    · rw [if_neg y]
      have h0 : ss (fun t => if sd (tp t) = true ∧ pl (tp t) = ts t ∧ tk t = d then tb t else 0) NT 0 ≠ 0 := fun z => y (by
        unfold eE
        rw [z]
        exact Nat.zero_mod _)
      have h1 := ss_pos NT 0 h0
      refine Nat.le_trans (Nat.add_le_add ih h1) ?_
      rw [← ss_a]
      refine ss_le NT 0 (fun t => ?_)
      by_cases z : (sd (tp t) = true ∧ pl (tp t) = ts t) ∧ tk t < d + 1
      · rw [if_pos z]
        by_cases z2 : tk t < d
        · rw [if_pos ⟨z.1, z2⟩, if_neg (by omega)]
          exact Nat.le_refl _
        · rw [if_neg (by omega), if_pos ⟨z.1.1, z.1.2, by omega⟩]
          exact Nat.le_refl _
      · rw [if_neg z, if_neg (fun q => z ⟨q.1, by omega⟩), if_neg (fun q => z ⟨⟨q.1, q.2.1⟩, by omega⟩)]
        exact Nat.le_refl _
theorem nx_nzc (h : nzc (c 5) (c 0 7) ≤ ss (fun t => if V 2 t < c 6 (V 1 t) then 1 else 0) (V 0 0) 0) : nzc (nx cd bs V c 5) (nx cd bs V c 0 7) ≤ ss (fun t => if V 2 t < nx cd bs V c 6 (V 1 t) then 1 else 0) (V 0 0) 0 := by
  have hE : ∀ d, nzc (c 5) (c 0 7) + nzc (uE cd V c) d ≤ ss (fun t => if V 2 t < c 6 (V 1 t) + bn (sdf cd (c 0 0) (V 1 t)) then 1 else 0) (V 0 0) 0 := fun d => by
    refine Nat.le_trans (Nat.add_le_add h (nzc_e d)) ?_
    rw [← ss_a]
    refine ss_le _ 0 (fun t => ?_)
    unfold bn
    by_cases z : sdf cd (c 0 0) (V 1 t) = true ∧ c 6 (V 1 t) = V 2 t
    · rw [if_neg (by omega), if_pos z.1, if_pos (show V 2 t < c 6 (V 1 t) + 1 by omega)]
      split <;> omega
    · rw [if_neg (show ¬ ((sdf cd (c 0 0) (V 1 t) = true ∧ c 6 (V 1 t) = V 2 t) ∧ V 3 t < d) from fun q => z q.1)]
      by_cases z2 : V 2 t < c 6 (V 1 t)
      · rw [if_pos z2, if_pos (by omega)]
        exact Nat.le_refl _
      · rw [if_neg z2]
        exact Nat.zero_le _
  have hM : ss (fun t => if V 2 t < c 6 (V 1 t) then 1 else 0) (V 0 0) 0 ≤ ss (fun t => if V 2 t < nx cd bs V c 6 (V 1 t) then 1 else 0) (V 0 0) 0 := ss_le _ 0 (fun t => by
    rw [nx_pl]
    by_cases z2 : V 2 t < c 6 (V 1 t)
    · rw [if_pos z2, if_pos (by omega)]
      exact Nat.le_refl _
    · rw [if_neg z2]
      exact Nat.zero_le _)
  rcases UK cd c with ⟨u, q⟩ | ⟨u, q⟩ | ⟨u, q⟩ | ⟨u, q⟩ | ⟨u, q⟩
  · have e1 : nx cd bs V c 5 = c 5 := by rw [nx0 u]; rfl
    have e2 : nx cd bs V c 0 7 = c 0 7 := by rw [nx0 u]; rfl
    rw [e1, e2]
    omega
  · by_cases y : cd (c 0 0) = 13
    · have e1 : nx cd bs V c 5 = c 5 := by rw [nx1 u]; exact if_pos y
      have e2 : nx cd bs V c 0 7 = c 0 7 := by
        rw [nx1 u]
        show c 0 7 + (if cd (c 0 0) = 13 then 0 else nus (cd (c 0 0))) = c 0 7
        rw [if_pos y]
        rfl
      rw [e1, e2]
      omega
    · have e1 : nx cd bs V c 5 = ape (c 5) (c 0 7) (uE cd V c) := by rw [nx1 u]; exact if_neg y
      have e2 : nx cd bs V c 0 7 = c 0 7 + nus (cd (c 0 0)) := by
        rw [nx1 u]
        show c 0 7 + (if cd (c 0 0) = 13 then 0 else nus (cd (c 0 0))) = _
        rw [if_neg y]
      have e3 : (fun t => if V 2 t < nx cd bs V c 6 (V 1 t) then 1 else 0) = (fun t => if V 2 t < c 6 (V 1 t) + bn (sdf cd (c 0 0) (V 1 t)) then 1 else 0) := funext (fun t => by rw [nx1 u]; rfl)
      rw [e1, e2, nzc_a, e3]
      exact hE _
  · rw [nx2 u] at hM ⊢
    show nzc (c 5) (if c 0 8 = 6 ∨ c 0 8 = 16 then 0 else c 0 7) ≤ _
    split
    · exact Nat.zero_le _
    · omega
  · have e1 : nx cd bs V c 5 = ape (c 5) (c 0 7) (uE cd V c) := by rw [nx3 u]; rfl
    have e2 : nx cd bs V c 0 7 = c 0 7 + 1 := by rw [nx3 u]; rfl
    have e3 : (fun t => if V 2 t < nx cd bs V c 6 (V 1 t) then 1 else 0) = (fun t => if V 2 t < c 6 (V 1 t) + bn (sdf cd (c 0 0) (V 1 t)) then 1 else 0) := funext (fun t => by rw [nx3 u, sdf_t (by omega)]; rfl)
    rw [e1, e2, nzc_a, e3]
    exact hE _
  · have e1 : nx cd bs V c 5 = c 5 := by rw [nx4 u]; rfl
    have e2 : nx cd bs V c 0 7 = c 0 7 := by rw [nx4 u]; rfl
    rw [e1, e2]
    omega
theorem tr_nzc (h2 : c0 0 7 = 0) : ∀ i, nzc (tr cd bs V c0 i 5) (tr cd bs V c0 i 0 7) ≤ ss (fun t => if V 2 t < tr cd bs V c0 i 6 (V 1 t) then 1 else 0) (V 0 0) 0
  | 0 => by
    show nzc (c0 5) (c0 0 7) ≤ _
    rw [h2]
    exact Nat.zero_le _
  | i + 1 => nx_nzc (tr_nzc h2 i)
theorem tr_40 (h2 : c0 0 7 = 0) (hn : V 0 0 ≤ 40) (i : Nat) : nzc (tr cd bs V c0 i 5) (tr cd bs V c0 i 0 7) ≤ 40 :=
  Nat.le_trans (tr_nzc h2 i) (Nat.le_trans (ss_n _ _ (fun t => by split <;> omega)) hn)
end EVENTS
