/-! fields, arrays, new cells -/
def ck_field (y pc : Nat) (isPut : Bool) (a b : Nat) (sw : List (Int32 × Nat)) : Bool := match sw with
  | [(_, j)] => (match g_fl[j]? with
    | some (o, i, f, c, k) => decide (o = gO y) && decide (c = a) && decide (k = b) && decide (c < 13) && decide (k < gN c) && (Nat.beq f 0 || Nat.beq f 1) &&
        (bif isPut then decide (decode (gB y) pc = .ok (.putfield i, 3)) else decide (decode (gB y) pc = .ok (.getfield i, 3)))
    | none => false)
  | _ => false
/-- what a written field's check says besides: its type's first value; a final field in a constructor of its own class alone, its link then no nest's -/
def ck_put (y a b : Nat) (v : Value) (sw : List (Int32 × Nat)) : Bool :=
  (match gty a b, v with
  | .int, .int _ => true
  | .long, .long _ => true
  | .object _, .null => true
  | .array _, .null => true
  | _, _ => false) && (bif (gT a b).2.2.2 then decide ((gY y).name = "<init>") && decide (a = gO y) && (match sw with
    | [(_, j)] => (match g_fl[j]? with
      | some (_, _, f, _, _) => Nat.beq f 0
      | none => false)
    | _ => false) else true)
def ck_putZ (y a b : Nat) (sw : List (Int32 × Nat)) : Bool := decide (gty a b = .boolean) && !(gT a b).2.2.2
theorem g_fl_in {x : Nat × Nat × Nat × Nat × Nat} {j : Nat} (h : g_fl[j]? = some x) : g_flw x ∈ lw_tbl := by
  have h1 : g_flw x ∈ g_fl.map g_flw := List.mem_map.mpr ⟨_, List.mem_of_getElem? h, rfl⟩
  rw [g_fl_ok] at h1
  exact g_at_in h1
theorem g_lays_all {k : Nat} (hk : k < 13) : ∀ w ∈ u_ws (gR k) (gT k) (gN k), w ∈ gAll := by
  intro w hw
  refine gAll_of (g_lays k hk w hw) ?_
  obtain ⟨i, -, rfl⟩ := List.mem_map.mp hw
  unfold u_lay
  split <;> rfl
section HEAP
variable {G : am_G} {D : va_G} {cA : Nat → ClassId} {A : Nat → Prop} {zt : Nat → Nat} {p : Program} {l : Launch} {e : Env} {R : Room} {s : State} {m : MethodId} {args : Array Value} {below : List Frame} {meth : Method} {c : Code} {H : Heap} {locs : List Loc} {cells slots : Nat} {Q : State → Prop} {y pc : Nat} {lsR : Array Slot} {ad : Nat → Nat} {h : am_H}
theorem p_get (X : am_Ctx G D cA A zt p s m meth c args y) {a b i : Nat} {sw : List (Int32 × Nat)} (hk : ck_field y pc false a b sw = true) (hR : am_Rel D cA A zt s.heap ad h H locs) (hi : i < h.2.1) {fs : List Value} (hc : h.1 i = .inr (a, fs)) {v : Value} (hv : fs[b]? = some v) {st : List Value}
    (kk : W p l e R s m args below meth c H locs cells slots Q (F0 m (pc + 3) lsR (am_v ad v :: st))) : W p l e R s m args below meth c H locs cells slots Q (F0 m pc lsR (.ref (ad i) :: st)) := by
  obtain ⟨hx, hb, hml, hown, hts, hnm, hK, hA, hN, -⟩ := X
  obtain ⟨hP, hD, hS, hO, -⟩ := hR
  unfold ck_field at hk
  split at hk
  · rename_i j
    cases hj : g_fl[j]? with
    | none => rw [hj] at hk; cases hk
    | some z =>
      obtain ⟨o, idx, f, c', k⟩ := z
      rw [hj] at hk
      simp only [Bool.and_eq_true, Bool.or_eq_true, decide_eq_true_eq, cond_false] at hk
      obtain ⟨⟨⟨⟨⟨⟨rfl, rfl⟩, rfl⟩, h13⟩, hkN⟩, hf⟩, hd⟩ := hk
      have he : (am_W ad cA h)[i]? = some (ad i, .inr (c', fs.map (am_v ad))) := by rw [am_W_at hi, hc]; rfl
      have hv' : (fs.map (am_v ad))[k]? = some (am_v ad v) := by rw [List.getElem?_map, hv]; rfl
      have hso : ∀ x, s.fieldFound? (gT c' k).1 (gT c' k).2.1 (gT c' k).2.2.1 = some x → s.fieldFound? (gR c') (gT c' k).2.1 (gT c' k).2.2.1 = some x := by
        intro x hx; rw [g_own_ok c' h13 k hkN] at hx; exact hx
      rcases hf with hf | hf
      · have hf := Nat.eq_of_beq_eq_true hf
        subst hf
        exact va_get (ci := c') hx hb hts (g_lays_all h13) hown hK hP i he (gcl_at h13) k hkN (hts _ (gAll_of (g_fl_in hj) rfl)) hso hv' hd kk
      · have hf := Nat.eq_of_beq_eq_true hf
        subst hf
        exact va_getN (ci := c') hx hb hts (g_lays_all h13) hown hK hP i he (gcl_at h13) k hkN (va_Nw.use rfl (hN.1 _ (List.mem_of_getElem? hj) rfl)) hso hv' hd kk
  · cases hk
/-- the heap behind a written cell -/
theorem am_Rel.set {i : Nat} {x : va_E} (hP : va_P D gcl ((am_W ad cA h).set i (ad i, am_e ad cA x)) H) (hD : va_D A ((am_W ad cA h).set i (ad i, am_e ad cA x))) (hS : va_S A s.heap H locs) (hO : am_okH h) (hz : ∀ k, ad (am_T0 + k) = zt k) (hi : i < h.2.1) (hx : am_okE h.2.1 x) : am_Rel D cA A zt s.heap ad (am_set h i x) H locs := by
  rw [am_W_set hi] at hP hD
  exact ⟨hP, hD, hS, am_okH_set hO hx, hz⟩
theorem p_put (X : am_Ctx G D cA A zt p s m meth c args y) {a b i : Nat} {v : Value} {sw : List (Int32 × Nat)} (hk : ck_field y pc true a b sw = true) (hk2 : (∃ d : Value, ck_put y a b d sw = true ∧ am_fit d v = true) ∨ (ck_putZ y a b sw = true ∧ (v = .int 0 ∨ v = .int 1))) (hR : am_Rel D cA A zt s.heap ad h H locs) (hi : i < h.2.1) {fs : List Value} (hc : h.1 i = .inr (a, fs)) (hb' : b < fs.length) (hov : am_ok h.2.1 v) {st : List Value}
    (kk : ∀ (H' : Heap) (locs' : List Loc), am_Rel D cA A zt s.heap ad (am_set h i (.inr (a, fs.set b v))) H' locs' → W p l e R s m args below meth c H' locs' cells slots Q (F0 m (pc + 3) lsR st)) : W p l e R s m args below meth c H locs cells slots Q (F0 m pc lsR (am_v ad v :: .ref (ad i) :: st)) := by
  obtain ⟨hx, hb, hml, hown, hts, hnm, hK, hA, hN, -⟩ := X
  obtain ⟨hP, hD, hS, hO, hz⟩ := hR
  unfold ck_field at hk
  split at hk
  · rename_i j
    cases hj : g_fl[j]? with
    | none => rw [hj] at hk; cases hk
    | some z =>
      obtain ⟨o, idx, f, c', k⟩ := z
      rw [hj] at hk
      simp only [Bool.and_eq_true, Bool.or_eq_true, decide_eq_true_eq, cond_true] at hk
      obtain ⟨⟨⟨⟨⟨⟨rfl, rfl⟩, rfl⟩, h13⟩, hkN⟩, hf⟩, hd⟩ := hk
      have he : (am_W ad cA h)[i]? = some (ad i, .inr (c', fs.map (am_v ad))) := by rw [am_W_at hi, hc]; rfl
      have hso : ∀ x, s.fieldFound? (gT c' k).1 (gT c' k).2.1 (gT c' k).2.2.1 = some x → s.fieldFound? (gR c') (gT c' k).2.1 (gT c' k).2.2.1 = some x := by
        intro x hx; rw [g_own_ok c' h13 k hkN] at hx; exact hx
      have hlen : k < (fs.map (am_v ad)).length := by rw [List.length_map]; exact hb'
      have hset : (Sum.inr (c', (fs.map (am_v ad)).set k (am_v ad v)) : va_E) = am_e ad cA (.inr (c', fs.set k v)) := by simp [am_e, List.map_set]
      have hok : am_okE h.2.1 (.inr (c', fs.set k v)) := by
        intro w hw
        rcases List.mem_or_eq_of_mem_set hw with q | q
        · have := hO.2 i hi
          rw [hc] at this
          exact this w q
        · rw [q]; exact hov
      have key : narrow (gty c' k) (am_v ad v) = am_v ad v ∧ fits (gty c' k) (am_v ad v) = true ∧ ((gT c' k).2.2.2 = false ∨ ((gT c' k).2.2.2 = true ∧ meth.name = "<init>" ∧ c' = gO y ∧ f = 0)) := by
        rcases hk2 with ⟨d, h1, h2⟩ | ⟨h1, h2⟩
        · unfold ck_put at h1
          rw [Bool.and_eq_true] at h1
          obtain ⟨h3, h4⟩ := h1
          have hfin : (gT c' k).2.2.2 = false ∨ ((gT c' k).2.2.2 = true ∧ meth.name = "<init>" ∧ c' = gO y ∧ f = 0) := by
            cases hq : (gT c' k).2.2.2 with
            | false => exact Or.inl rfl
            | true =>
              rw [hq, cond_true] at h4
              dsimp only at h4
              rw [hj] at h4
              simp only [Bool.and_eq_true, decide_eq_true_eq] at h4
              exact Or.inr ⟨rfl, by rw [hnm]; exact h4.1.1, h4.1.2, Nat.eq_of_beq_eq_true h4.2⟩
          refine ⟨?_, ?_, hfin⟩
          · revert h3
            cases gty c' k <;> cases d <;> intro h3 <;> first | exact absurd h3 Bool.false_ne_true | (cases v <;> first | exact absurd h2 Bool.false_ne_true | rfl)
          · revert h3
            cases gty c' k <;> cases d <;> intro h3 <;> first | exact absurd h3 Bool.false_ne_true | (cases v <;> first | exact absurd h2 Bool.false_ne_true | rfl)
        · unfold ck_putZ at h1
          rw [Bool.and_eq_true, decide_eq_true_eq] at h1
          obtain ⟨h3, h4⟩ := h1
          rw [h3]
          refine ⟨?_, ?_, Or.inl (by simpa using h4)⟩
          · rcases h2 with rfl | rfl <;> rfl
          · rcases h2 with rfl | rfl <;> rfl
      obtain ⟨hn, hft, hfin⟩ := key
      rcases hfin with hq | ⟨hq, hin, hcy, hf0⟩
      · rcases hf with hf | hf
        · have hf := Nat.eq_of_beq_eq_true hf
          subst hf
          refine va_put (ci := c') hx hb hts (g_lays_all h13) (gty c') (gty_ok c' h13) (gnm_ok c' h13) hown hK hP hD hS i he (gcl_at h13) k hkN (hts _ (gAll_of (g_fl_in hj) rfl)) hso hq (gty_ok c' h13 k hkN) hn hft hlen hd (fun H1 locs1 hP1 hD1 hS1 => ?_)
          rw [hset] at hP1 hD1
          exact kk H1 locs1 (am_Rel.set hP1 hD1 hS1 hO hz hi hok)
        · have hf := Nat.eq_of_beq_eq_true hf
          subst hf
          refine va_putN (ci := c') hx hb hts (g_lays_all h13) (gty c') (gty_ok c' h13) (gnm_ok c' h13) hown hK hP hD hS i he (gcl_at h13) k hkN (va_Nw.use rfl (hN.1 _ (List.mem_of_getElem? hj) rfl)) hso hq (gty_ok c' h13 k hkN) hn hft hlen hd (fun H1 locs1 hP1 hD1 hS1 => ?_)
          rw [hset] at hP1 hD1
          exact kk H1 locs1 (am_Rel.set hP1 hD1 hS1 hO hz hi hok)
      · subst hf0
        refine va_putF (ci := c') hx hb hts (g_lays_all h13) (gty c') (gty_ok c' h13) (gnm_ok c' h13) hown hK hP hD hS i he (gcl_at h13) k hkN (hts _ (gAll_of (g_fl_in hj) rfl)) hso hq hin (by rw [g_own_ok c' h13 k hkN, hcy]) (gty_ok c' h13 k hkN) hn hft hlen hd (fun H1 locs1 hP1 hD1 hS1 => ?_)
        rw [hset] at hP1 hD1
        exact kk H1 locs1 (am_Rel.set hP1 hD1 hS1 hO hz hi hok)
  · cases hk
end HEAP
