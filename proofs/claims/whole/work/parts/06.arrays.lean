/-! arrays and new cells -/
def ck_ald (y pc a : Nat) : Bool := match a with
  | 0 => decide (decode (gB y) pc = .ok (.iaload, 1))
  | 1 => decide (decode (gB y) pc = .ok (.laload, 1))
  | 2 => decide (decode (gB y) pc = .ok (.baload, 1))
  | 3 => decide (decode (gB y) pc = .ok (.aaload, 1))
  | _ => false
def ck_ast (y pc a : Nat) : Bool := match a with
  | 0 => decide (decode (gB y) pc = .ok (.iastore, 1))
  | 1 => decide (decode (gB y) pc = .ok (.lastore, 1))
  | 2 => decide (decode (gB y) pc = .ok (.bastore, 1))
  | _ => false
def ck_newa (y pc a b : Nat) : Bool := match a with
  | 0 => decide (b = 2) && decide (decode (gB y) pc = .ok (.newarray .int, 2))
  | 1 => decide (b = 2) && decide (decode (gB y) pc = .ok (.newarray .long, 2))
  | 2 => decide (b = 2) && decide (decode (gB y) pc = .ok (.newarray .boolean, 2))
  | _ => false
def ck_new (y pc a : Nat) (sw : List (Int32 × Nat)) : Bool := match sw with
  | [(_, j)] => (match g_nw[j]? with
    | some (o, i, c) => decide (o = gO y) && decide (c = a) && decide (c < 13) && decide (decode (gB y) pc = .ok (.new i, 3))
    | none => false)
  | _ => false
def ck_newq (y pc a b : Nat) (sw : List (Int32 × Nat)) : Bool := match sw with
  | [(_, j)] => (match g_nw[j]? with
    | some (o, i, c) => decide (o = gO y) && decide (c = 5) && decide (a = 3) && decide (b = 3) && decide (decode (gB y) pc = .ok (.anewarray i, 3))
    | none => false)
  | _ => false
theorem gR5 : gR 5 = "ShareHall$Party" := by decide +kernel
theorem g_nw_in {x : Nat × Nat × Nat} {j : Nat} (h : g_nw[j]? = some x) : Cond.classLink (gR x.1) x.2.1 (gR x.2.2) ∈ lw_tbl := by
  have h1 : Cond.classLink (gR x.1) x.2.1 (gR x.2.2) ∈ g_nw.map (fun x => Cond.classLink (gR x.1) x.2.1 (gR x.2.2)) := List.mem_map.mpr ⟨_, List.mem_of_getElem? h, rfl⟩
  rw [g_nw_ok] at h1
  exact g_at_in h1
theorem g_inst_in {k : Nat} (h : k < 13) : Cond.instantiable (gR k) (gN k) ∈ lw_tbl := by
  have h1 : Cond.instantiable (gR k) (gN k) ∈ (List.range 13).map (fun c => Cond.instantiable (gR c) (gN c)) := List.mem_map.mpr ⟨k, List.mem_range.mpr h, rfl⟩
  rw [g_inst_ok] at h1
  exact g_at_in h1
theorem g_ini_in {k : Nat} (h : k < 15) : Cond.initialized (gR k) ∈ lw_tbl := by
  have h1 : Cond.initialized (gR k) ∈ (List.range 15).map (fun c => Cond.initialized (gR c)) := List.mem_map.mpr ⟨k, List.mem_range.mpr h, rfl⟩
  rw [g_ini_ok] at h1
  exact g_at_in h1
theorem g_ac : ([.int, .long, .boolean] : List FieldType).map Cond.arrayClass = g_at [192, 320, 270] := by decide +kernel
theorem g_ac_in {t : FieldType} (h : t ∈ ([.int, .long, .boolean] : List FieldType)) : Cond.arrayClass t ∈ gAll := by
  have h1 : Cond.arrayClass t ∈ ([.int, .long, .boolean] : List FieldType).map Cond.arrayClass := List.mem_map.mpr ⟨t, h, rfl⟩
  rw [g_ac] at h1
  exact gAll_of (g_at_in h1) rfl
theorem am_dv (ad : Nat → Nat) (t : FieldType) : am_v ad (defaultValue t) = defaultValue t := by cases t <;> rfl
theorem am_dok (n : Nat) (t : FieldType) : am_ok n (defaultValue t) := by cases t <;> trivial
theorem am_rf (ad : Nat → Nat) (o : Option Nat) : va_rf (o.map ad) = am_v ad (va_rf o) := by cases o <;> rfl
section ARR
variable {G : am_G} {D : va_G} {cA : Nat → ClassId} {A : Nat → Prop} {zt : Nat → Nat} {p : Program} {l : Launch} {e : Env} {R : Room} {s : State} {m : MethodId} {args : Array Value} {below : List Frame} {meth : Method} {c : Code} {H : Heap} {locs : List Loc} {cells slots : Nat} {Q : State → Prop} {y pc : Nat} {lsR : Array Slot} {ad : Nat → Nat} {h : am_H}
theorem p_ald (X : am_Ctx G D cA A zt p s m meth c args y) {a r : Nat} {i : Int32} {v : Value} (hk : ck_ald y pc a = true) (hR : am_Rel D cA A zt s.heap ad h H locs) (hs : am_ald G a h r i = some v) {st : List Value}
    (kk : W p l e R s m args below meth c H locs cells slots Q (F0 m (pc + 1) lsR (am_v ad v :: st))) : W p l e R s m args below meth c H locs cells slots Q (F0 m pc lsR (.int i :: .ref (ad r) :: st)) := by
  obtain ⟨hx, hb, hml, hown, hts, hnm, hK, hA, hN, hT, -⟩ := X
  obtain ⟨hP, hD, hS, hO, hz⟩ := hR
  unfold am_ald at hs
  cases h0 : Nat.ble am_T0 r with
  | true =>
    rw [h0, cond_true] at hs
    cases h1 : Nat.beq a 0 && Nat.blt (r - am_T0) 6 with
    | false => rw [h1, cond_false] at hs; cases hs
    | true =>
      rw [h1, cond_true] at hs
      rw [Bool.and_eq_true] at h1
      have ha := Nat.eq_of_beq_eq_true h1.1
      subst ha
      have h6 : r - am_T0 < 6 := Nat.le_of_ble_eq_true h1.2
      have hr : r = am_T0 + (r - am_T0) := by have := Nat.le_of_ble_eq_true h0; omega
      by_cases hi : i < 0 ∨ (G.2.1 (r - am_T0)).1 ≤ i.toNatClampNeg
      · rw [if_pos hi] at hs; cases hs
      · rw [if_neg hi] at hs
        cases hs
        rw [hr, hz]
        exact va_ti hx hb (hT.1 _ h6) hS hi rfl (of_decide_eq_true hk) kk
  | false =>
    rw [h0, cond_false] at hs
    cases h1 : Nat.blt r h.2.1 with
    | false => rw [h1, cond_false] at hs; cases hs
    | true =>
      rw [h1, cond_true] at hs
      have hr : r < h.2.1 := Nat.le_of_ble_eq_true h1
      split at hs
      · rename_i k n f hc
        cases h2 : Nat.beq k a && (Nat.beq a 0 || Nat.beq a 2) with
        | false => rw [h2, cond_false] at hs; cases hs
        | true =>
          rw [h2, cond_true] at hs
          rw [Bool.and_eq_true, Bool.or_eq_true] at h2
          obtain ⟨h3, h4⟩ := h2
          have h3 := Nat.eq_of_beq_eq_true h3
          subst h3
          have he : (am_W ad cA h)[r]? = some (ad r, .inl (cA k, n, .inl f)) := by rw [am_W_at hr, hc]; rfl
          by_cases hi : i < 0 ∨ n ≤ i.toNatClampNeg
          · rw [if_pos hi] at hs; cases hs
          · rw [if_neg hi] at hs
            cases hs
            rcases h4 with h4 | h4
            · have h4 := Nat.eq_of_beq_eq_true h4
              subst h4
              exact va_iald hx hb hK hP r 0 he rfl hi (of_decide_eq_true hk) kk
            · have h4 := Nat.eq_of_beq_eq_true h4
              subst h4
              exact va_zald hx hb hK hP r 2 he rfl hi (of_decide_eq_true hk) kk
      · rename_i k n f hc
        cases h2 : Nat.beq k a && Nat.beq a 1 with
        | false => rw [h2, cond_false] at hs; cases hs
        | true =>
          rw [h2, cond_true] at hs
          rw [Bool.and_eq_true] at h2
          have h3 := Nat.eq_of_beq_eq_true h2.1
          subst h3
          have h4 := Nat.eq_of_beq_eq_true h2.2
          subst h4
          have he : (am_W ad cA h)[r]? = some (ad r, .inl (cA 1, n, .inr (.inl f))) := by rw [am_W_at hr, hc]; rfl
          by_cases hi : i < 0 ∨ n ≤ i.toNatClampNeg
          · rw [if_pos hi] at hs; cases hs
          · rw [if_neg hi] at hs
            cases hs
            exact va_lald hx hb hK hP r 1 he rfl hi (of_decide_eq_true hk) kk
      · rename_i k n f hc
        cases h2 : Nat.beq k a && Nat.ble 3 a with
        | false => rw [h2, cond_false] at hs; cases hs
        | true =>
          rw [h2, cond_true] at hs
          rw [Bool.and_eq_true] at h2
          have h3 := Nat.eq_of_beq_eq_true h2.1
          subst h3
          have h4 := Nat.le_of_ble_eq_true h2.2
          have he : (am_W ad cA h)[r]? = some (ad r, .inl (cA k, n, .inr (.inr (.inr (.inr (fun j => (f j).map ad)))))) := by rw [am_W_at hr, hc]; rfl
          by_cases hi : i < 0 ∨ n ≤ i.toNatClampNeg
          · rw [if_pos hi] at hs; cases hs
          · rw [if_neg hi] at hs
            cases hs
            match k, hk, h4, he with
            | 3, hk, _, he => exact va_aldq hx hb hK hP r 3 he rfl hi (of_decide_eq_true hk) (by rw [am_rf]; exact kk)
            | 0, _, h4, _ => exact absurd h4 (by decide)
            | 1, _, h4, _ => exact absurd h4 (by decide)
            | 2, _, h4, _ => exact absurd h4 (by decide)
            | n + 4, hk, _, _ => exact absurd hk Bool.false_ne_true
      · cases hs
theorem p_ast (X : am_Ctx G D cA A zt p s m meth c args y) {a r : Nat} {i : Int32} {v : Value} {h' : am_H} (hk : ck_ast y pc a = true) (hR : am_Rel D cA A zt s.heap ad h H locs) (hs : am_ast a h r i v = some h') {st : List Value}
    (kk : ∀ (H' : Heap) (locs' : List Loc), am_Rel D cA A zt s.heap ad h' H' locs' → W p l e R s m args below meth c H' locs' cells slots Q (F0 m (pc + 1) lsR st)) : W p l e R s m args below meth c H locs cells slots Q (F0 m pc lsR (am_v ad v :: .int i :: .ref (ad r) :: st)) := by
  obtain ⟨hx, hb, hml, hown, hts, hnm, hK, hA, hN, hT, -⟩ := X
  obtain ⟨hP, hD, hS, hO, hz⟩ := hR
  unfold am_ast at hs
  cases h1 : Nat.blt r h.2.1 with
  | false => rw [h1, cond_false] at hs; cases hs
  | true =>
    rw [h1, cond_true] at hs
    have hr : r < h.2.1 := Nat.le_of_ble_eq_true h1
    split at hs
    · rename_i k n f z hc
      cases h2 : Nat.beq k a with
      | false => rw [h2, cond_false] at hs; cases hs
      | true =>
        rw [h2, cond_true] at hs
        have h3 := Nat.eq_of_beq_eq_true h2
        subst h3
        have he : (am_W ad cA h)[r]? = some (ad r, .inl (cA k, n, .inl f)) := by rw [am_W_at hr, hc]; rfl
        by_cases hi : i < 0 ∨ n ≤ i.toNatClampNeg
        · rw [if_pos hi] at hs; cases hs
        · rw [if_neg hi] at hs
          match k, hk, hs, he with
          | 0, hk, hs, he =>
            have hs : some (am_set h r (.inl (0, n, .inl (upd f i.toNatClampNeg z)))) = some h' := hs
            cases hs
            exact va_iast hx hb hK hP hD hS r 0 he rfl hi (of_decide_eq_true hk) (fun H1 locs1 hP1 hD1 hS1 => kk H1 locs1 (am_Rel.set (x := .inl (0, n, .inl (upd f i.toNatClampNeg z))) hP1 hD1 hS1 hO hz hr trivial))
          | 2, hk, hs, he =>
            have hs : some (am_set h r (.inl (2, n, .inl (upd f i.toNatClampNeg (z &&& 1))))) = some h' := hs
            cases hs
            exact va_zast hx hb hK hP hD hS r 2 he rfl hi (of_decide_eq_true hk) (fun H1 locs1 hP1 hD1 hS1 => kk H1 locs1 (am_Rel.set (x := .inl (2, n, .inl (upd f i.toNatClampNeg (z &&& 1)))) hP1 hD1 hS1 hO hz hr trivial))
          | 1, hk, hs, he => exact absurd (show none = some h' from hs) (fun q => by cases q)
          | n + 3, hk, hs, he => exact absurd hk Bool.false_ne_true
    · rename_i k n f z hc
      cases h2 : Nat.beq k a && Nat.beq a 1 with
      | false => rw [h2, cond_false] at hs; cases hs
      | true =>
        rw [h2, cond_true] at hs
        rw [Bool.and_eq_true] at h2
        have h3 := Nat.eq_of_beq_eq_true h2.1
        subst h3
        have h4 := Nat.eq_of_beq_eq_true h2.2
        subst h4
        have he : (am_W ad cA h)[r]? = some (ad r, .inl (cA 1, n, .inr (.inl f))) := by rw [am_W_at hr, hc]; rfl
        by_cases hi : i < 0 ∨ n ≤ i.toNatClampNeg
        · rw [if_pos hi] at hs; cases hs
        · rw [if_neg hi] at hs
          cases hs
          exact va_last hx hb hK hP hD hS r 1 he rfl hi (of_decide_eq_true hk) (fun H1 locs1 hP1 hD1 hS1 => kk H1 locs1 (am_Rel.set (x := .inl (1, n, .inr (.inl (vp_updL f i.toNatClampNeg z)))) hP1 hD1 hS1 hO hz hr trivial))
    · cases hs
theorem p_alen (X : am_Ctx G D cA A zt p s m meth c args y) {r k n : Nat} {f : (Nat → Int32) ⊕ (Nat → Int64) ⊕ (Nat → UInt32) ⊕ (Nat → UInt64) ⊕ (Nat → Option Nat)} (hd : decode (gB y) pc = .ok (.arraylength, 1)) (hR : am_Rel D cA A zt s.heap ad h H locs) (hr : r < h.2.1) (hc : h.1 r = .inl (k, n, f)) (h3 : k ≤ 3) {st : List Value}
    (kk : W p l e R s m args below meth c H locs cells slots Q (F0 m (pc + 1) lsR (.int (nI n) :: st))) : W p l e R s m args below meth c H locs cells slots Q (F0 m pc lsR (.ref (ad r) :: st)) := by
  obtain ⟨hx, hb, hml, hown, hts, hnm, hK, hA, hN, hT, -⟩ := X
  obtain ⟨hP, hD, hS, hO, hz⟩ := hR
  have he : (am_W ad cA h)[r]? = some (ad r, .inl (cA k, am_a ad (n, f))) := by rw [am_W_at hr, hc]; rfl
  match k, h3, he with
  | 0, _, he => exact va_alen hx hb hK hP r 0 he rfl rfl hd kk
  | 1, _, he => exact va_alen hx hb hK hP r 1 he rfl rfl hd kk
  | 2, _, he => exact va_alen hx hb hK hP r 2 he rfl rfl hd kk
  | 3, _, he => exact va_alen hx hb hK hP r 3 he rfl rfl hd kk
  | n + 4, h3, _ => exact absurd h3 (by omega)
theorem p_tlen (X : am_Ctx G D cA A zt p s m meth c args y) {k : Nat} (hd : decode (gB y) pc = .ok (.arraylength, 1)) (hR : am_Rel D cA A zt s.heap ad h H locs) (h6 : k < 6) {st : List Value}
    (kk : W p l e R s m args below meth c H locs cells slots Q (F0 m (pc + 1) lsR (.int (nI (G.2.1 k).1) :: st))) : W p l e R s m args below meth c H locs cells slots Q (F0 m pc lsR (.ref (ad (am_T0 + k)) :: st)) := by
  obtain ⟨hx, hb, hml, hown, hts, hnm, hK, hA, hN, hT, -⟩ := X
  obtain ⟨hP, hD, hS, hO, hz⟩ := hR
  rw [hz]
  exact va_tlen hx hb (hT.1 k h6) hS rfl hd kk
/-- the heap behind a new cell -/
theorem am_Rel.push {q : Nat} {x : va_E} {k : Nat × Nat} (hP : va_P D gcl (am_W ad cA h ++ [(q, am_e (va_up ad h.2.1 q) cA x)]) H) (hD : va_D A (am_W ad cA h ++ [(q, am_e (va_up ad h.2.1 q) cA x)])) (hS : va_S A s.heap H locs) (hO : am_okH h) (hn : h.2.1 < am_T0) (hz : ∀ k, ad (am_T0 + k) = zt k) (hx : am_okE (h.2.1 + 1) x) :
    am_Rel D cA A zt s.heap (va_up ad h.2.1 q) (va_up h.1 h.2.1 x, h.2.1 + 1, k) H locs := by
  rw [am_W_push hO hn k] at hP hD
  refine ⟨hP, hD, hS, am_okH_new hO hn hx, fun j => ?_⟩
  rw [va_up_ne ad q (show am_T0 + j ≠ h.2.1 by omega)]
  exact hz j
theorem p_new (X : am_Ctx G D cA A zt p s m meth c args y) {a : Nat} {sw : List (Int32 × Nat)} {h' : am_H} (hk : ck_new y pc a sw = true) (hR : am_Rel D cA A zt s.heap ad h H locs) (hs : am_new h (.inr (a, G.2.2.1 a)) (G.2.2.1 a).length = some h') (hc1 : cells + 1 ≤ R.cells) (hs1 : slots + (G.2.2.1 a).length ≤ R.slots) {st : List Value}
    (kk : ∀ (q : Nat) (H' : Heap), am_Rel D cA A zt s.heap (va_up ad h.2.1 q) h' H' locs → W p l e R s m args below meth c H' locs (cells + 1) (slots + (G.2.2.1 a).length) Q (F0 m (pc + 3) lsR (.ref q :: st))) : W p l e R s m args below meth c H locs cells slots Q (F0 m pc lsR st) := by
  obtain ⟨hx, hb, hml, hown, hts, hnm, hK, hA, hN, hT, hG⟩ := X
  obtain ⟨hP, hD, hS, hO, hz⟩ := hR
  unfold am_new at hs
  cases h0 : Nat.blt h.2.1 am_T0 with
  | false => rw [h0, cond_false] at hs; cases hs
  | true =>
    rw [h0, cond_true] at hs
    have hn : h.2.1 < am_T0 := Nat.le_of_ble_eq_true h0
    unfold ck_new at hk
    split at hk
    · rename_i j
      cases hj : g_nw[j]? with
      | none => rw [hj] at hk; cases hk
      | some z =>
        obtain ⟨o, i, c'⟩ := z
        rw [hj] at hk
        simp only [Bool.and_eq_true, decide_eq_true_eq] at hk
        obtain ⟨⟨⟨rfl, rfl⟩, h13⟩, hd⟩ := hk
        have hlen : (G.2.2.1 c').length = gN c' := by rw [hG c' h13]; simp
        cases hs
        rw [hlen] at hs1
        refine va_new (fs := G.2.2.1 c') hx hb hts (g_lays_all h13) (gty c') (gty_ok c' h13) hown (hts _ (gAll_of (g_nw_in hj) rfl)) (hts _ (gAll_of (g_inst_in h13) rfl)) (hts _ (gAll_of (g_ini_in (Nat.lt_of_lt_of_le h13 (by decide))) rfl)) hK hP hD hS hA (gcl_at h13) (fun j hj => ?_) hc1 hs1 hd (fun q H1 hP1 hD1 hS1 => ?_)
        · rw [hG c' h13]
          simp [vp_V, hj]
        · have e1 : (Sum.inr (c', G.2.2.1 c') : va_E) = am_e (va_up ad h.2.1 q) cA (.inr (c', G.2.2.1 c')) := by
            have : (G.2.2.1 c').map (am_v (va_up ad h.2.1 q)) = G.2.2.1 c' := by
              rw [hG c' h13, List.map_map]
              apply List.map_congr_left
              intro j _
              exact am_dv _ _
            show _ = Sum.inr (c', (G.2.2.1 c').map (am_v (va_up ad h.2.1 q)))
            rw [this]
          rw [e1] at hP1 hD1
          have := kk q H1 (am_Rel.push hP1 hD1 hS1 hO hn hz (by
            intro v hv
            have hv : v ∈ G.2.2.1 c' := hv
            rw [hG c' h13] at hv
            obtain ⟨j, -, rfl⟩ := List.mem_map.mp hv
            exact am_dok _ _))
          rw [hlen] at this
          exact this
    · cases hk
theorem am_fc {s : State} {nm : String} {a b : ClassId} (h1 : s.vm.findClass nm = some a) (h2 : s.vm.findClass nm = some b) : b = a := Option.some.inj (h2.symm.trans h1)
theorem p_newa (X : am_Ctx G D cA A zt p s m meth c args y) {a b : Nat} {n : Int32} {h' : am_H} (hk : ck_newa y pc a b = true) (hR : am_Rel D cA A zt s.heap ad h H locs) (hn0 : ¬ n < 0) (hnb : n.toNatClampNeg ≤ 1000000) (hs : am_new h (am_arr a n.toNatClampNeg) n.toNatClampNeg = some h') (hc1 : cells + 1 ≤ R.cells) (hs1 : slots + n.toNatClampNeg ≤ R.slots) {st : List Value}
    (kk : ∀ (q : Nat) (H' : Heap), am_Rel D cA A zt s.heap (va_up ad h.2.1 q) h' H' locs → W p l e R s m args below meth c H' locs (cells + 1) (slots + n.toNatClampNeg) Q (F0 m (pc + b) lsR (.ref q :: st))) : W p l e R s m args below meth c H locs cells slots Q (F0 m pc lsR (.int n :: st)) := by
  obtain ⟨hx, hb, hml, hown, hts, hnm, hK, hA, hN, hT, hG⟩ := X
  obtain ⟨hP, hD, hS, hO, hz⟩ := hR
  unfold am_new at hs
  cases h0 : Nat.blt h.2.1 am_T0 with
  | false => rw [h0, cond_false] at hs; cases hs
  | true =>
    rw [h0, cond_true] at hs
    have hn : h.2.1 < am_T0 := Nat.le_of_ble_eq_true h0
    cases hs
    match a, hk, kk with
    | 0, hk, kk =>
      unfold ck_newa at hk
      simp only [Bool.and_eq_true, decide_eq_true_eq] at hk
      obtain ⟨rfl, hd⟩ := hk
      have hb0 : n.toNatClampNeg * componentBytes .int ≤ 536870912 := by
        show n.toNatClampNeg * 4 ≤ 536870912
        omega
      refine va_newa (atype := .int) (ty := .int) (a0 := (n.toNatClampNeg, .inl (fun _ => 0))) hx hb (hts _ (g_ac_in (t := .int) (by simp))) rfl hK hP hD hS hA (fun _ => rfl) hn0 rfl hb0 hc1 hs1 hd (fun q cN H1 hK1 hP1 hD1 hS1 => ?_)
      have e0 : cN = cA 0 := am_fc (show s.vm.findClass ("[" ++ FieldType.int.toString) = some (cA 0) from (hK.2 0 (cA 0, .int) rfl).2) (hK1.2 4 (cN, .int) rfl).2
      subst e0
      exact kk q H1 (am_Rel.push (x := am_arr 0 n.toNatClampNeg) hP1 hD1 hS1 hO hn hz trivial)
    | 1, hk, kk =>
      unfold ck_newa at hk
      simp only [Bool.and_eq_true, decide_eq_true_eq] at hk
      obtain ⟨rfl, hd⟩ := hk
      have hb0 : n.toNatClampNeg * componentBytes .long ≤ 536870912 := by
        show n.toNatClampNeg * 8 ≤ 536870912
        omega
      refine va_newa (atype := .long) (ty := .long) (a0 := (n.toNatClampNeg, .inr (.inl (fun _ => 0)))) hx hb (hts _ (g_ac_in (t := .long) (by simp))) rfl hK hP hD hS hA (fun _ => rfl) hn0 rfl hb0 hc1 hs1 hd (fun q cN H1 hK1 hP1 hD1 hS1 => ?_)
      have e0 : cN = cA 1 := am_fc (show s.vm.findClass ("[" ++ FieldType.long.toString) = some (cA 1) from (hK.2 1 (cA 1, .long) rfl).2) (hK1.2 4 (cN, .long) rfl).2
      subst e0
      exact kk q H1 (am_Rel.push (x := am_arr 1 n.toNatClampNeg) hP1 hD1 hS1 hO hn hz trivial)
    | 2, hk, kk =>
      unfold ck_newa at hk
      simp only [Bool.and_eq_true, decide_eq_true_eq] at hk
      obtain ⟨rfl, hd⟩ := hk
      have hb0 : n.toNatClampNeg * componentBytes .boolean ≤ 536870912 := by
        show n.toNatClampNeg * 1 ≤ 536870912
        omega
      refine va_newa (atype := .boolean) (ty := .boolean) (a0 := (n.toNatClampNeg, .inl (fun _ => 0))) hx hb (hts _ (g_ac_in (t := .boolean) (by simp))) rfl hK hP hD hS hA (fun _ => rfl) hn0 rfl hb0 hc1 hs1 hd (fun q cN H1 hK1 hP1 hD1 hS1 => ?_)
      have e0 : cN = cA 2 := am_fc (show s.vm.findClass ("[" ++ FieldType.boolean.toString) = some (cA 2) from (hK.2 2 (cA 2, .boolean) rfl).2) (hK1.2 4 (cN, .boolean) rfl).2
      subst e0
      exact kk q H1 (am_Rel.push (x := am_arr 2 n.toNatClampNeg) hP1 hD1 hS1 hO hn hz trivial)
    | j + 3, hk, _ => exact absurd hk Bool.false_ne_true
theorem p_newq (X : am_Ctx G D cA A zt p s m meth c args y) {a b : Nat} {n : Int32} {sw : List (Int32 × Nat)} {h' : am_H} (hk : ck_newq y pc a b sw = true) (hR : am_Rel D cA A zt s.heap ad h H locs) (hn0 : ¬ n < 0) (hnb : n.toNatClampNeg ≤ 1000000) (hs : am_new h (am_arr a n.toNatClampNeg) n.toNatClampNeg = some h') (hc1 : cells + 1 ≤ R.cells) (hs1 : slots + n.toNatClampNeg ≤ R.slots) {st : List Value}
    (kk : ∀ (q : Nat) (H' : Heap), am_Rel D cA A zt s.heap (va_up ad h.2.1 q) h' H' locs → W p l e R s m args below meth c H' locs (cells + 1) (slots + n.toNatClampNeg) Q (F0 m (pc + b) lsR (.ref q :: st))) : W p l e R s m args below meth c H locs cells slots Q (F0 m pc lsR (.int n :: st)) := by
  obtain ⟨hx, hb, hml, hown, hts, hnm, hK, hA, hN, hT, hG⟩ := X
  obtain ⟨hP, hD, hS, hO, hz⟩ := hR
  unfold am_new at hs
  cases h0 : Nat.blt h.2.1 am_T0 with
  | false => rw [h0, cond_false] at hs; cases hs
  | true =>
    rw [h0, cond_true] at hs
    have hn : h.2.1 < am_T0 := Nat.le_of_ble_eq_true h0
    cases hs
    unfold ck_newq at hk
    split at hk
    · rename_i j
      cases hj : g_nw[j]? with
      | none => rw [hj] at hk; cases hk
      | some z =>
        obtain ⟨o, i, c'⟩ := z
        rw [hj] at hk
        simp only [Bool.and_eq_true, decide_eq_true_eq] at hk
        obtain ⟨⟨⟨⟨rfl, rfl⟩, rfl⟩, rfl⟩, hd⟩ := hk
        have hl := hts _ (gAll_of (g_nw_in hj) rfl)
        rw [show gR ((gO y, i, 5) : Nat × Nat × Nat).2.2 = "ShareHall$Party" from gR5] at hl
        refine va_newq hx hb hown hl hN.2.2.1 hK hP hD hS hA hn0 rfl (by omega) hc1 hs1 hd (fun q cN H1 hK1 hP1 hD1 hS1 => ?_)
        obtain ⟨k1, c1, -, -, -, f1⟩ := (hK.2 3 (cA 3, .object "ShareHall$Party") rfl).2
        obtain ⟨k2, c2, -, -, -, f2⟩ := (hK1.2 4 (cN, .object "ShareHall$Party") rfl).2
        have e0 : cN = cA 3 := am_fc f1 f2
        subst e0
        exact kk q H1 (am_Rel.push (x := am_arr 3 n.toNatClampNeg) hP1 hD1 hS1 hO hn hz (by intro j i hj; cases hj))
    · cases hk
theorem p_astq (X : am_Ctx G D cA A zt p s m meth c args y) {r n w : Nat} {i : Int32} {f : Nat → Option Nat} {fs : List Value} (hd : decode (gB y) pc = .ok (.aastore, 1)) (hR : am_Rel D cA A zt s.heap ad h H locs) (hr : r < h.2.1) (hw : w < h.2.1) (hc : h.1 r = .inl (3, n, .inr (.inr (.inr (.inr f))))) (hc2 : h.1 w = .inr (5, fs)) (hi : ¬ (i < 0 ∨ n ≤ i.toNatClampNeg)) {st : List Value}
    (kk : ∀ (H' : Heap) (locs' : List Loc), am_Rel D cA A zt s.heap ad (am_set h r (.inl (3, n, .inr (.inr (.inr (.inr (va_up f i.toNatClampNeg (some w)))))))) H' locs' → W p l e R s m args below meth c H' locs' cells slots Q (F0 m (pc + 1) lsR st)) : W p l e R s m args below meth c H locs cells slots Q (F0 m pc lsR (.ref (ad w) :: .int i :: .ref (ad r) :: st)) := by
  obtain ⟨hx, hb, hml, hown, hts, hnm, hK, hA, hN, hT, -⟩ := X
  obtain ⟨hP, hD, hS, hO, hz⟩ := hR
  have he : (am_W ad cA h)[r]? = some (ad r, .inl (cA 3, n, .inr (.inr (.inr (.inr (fun j => (f j).map ad)))))) := by rw [am_W_at hr, hc]; rfl
  have he2 : (am_W ad cA h)[w]? = some (ad w, .inr (5, fs.map (am_v ad))) := by rw [am_W_at hw, hc2]; rfl
  have ht : (am_tys cA)[3]? = some (cA 3, .object (gR 5)) := by rw [gR5]; rfl
  refine va_astq (r := (gR 5, gT 5, gN 5)) hx hb hK hP hD hS r 3 w 5 he ht he2 (gcl_at (by decide)) hi hd (fun H1 locs1 hP1 hD1 hS1 => ?_)
  have e1 : (Sum.inl (cA 3, n, .inr (.inr (.inr (.inr (va_up (fun j => (f j).map ad) i.toNatClampNeg (some (ad w))))))) : va_E) = am_e ad cA (.inl (3, n, .inr (.inr (.inr (.inr (va_up f i.toNatClampNeg (some w))))))) := by
    have : va_up (fun j => (f j).map ad) i.toNatClampNeg (some (ad w)) = fun j => (va_up f i.toNatClampNeg (some w) j).map ad := by
      funext j
      unfold va_up
      split <;> rfl
    rw [this]
    rfl
  rw [e1] at hP1 hD1
  refine kk H1 locs1 (am_Rel.set hP1 hD1 hS1 hO hz hr ?_)
  intro j k hj
  unfold va_up at hj
  split at hj
  · cases hj; exact Or.inl hw
  · have := hO.2 r hr
    rw [hc] at this
    exact this j k hj
end ARR
