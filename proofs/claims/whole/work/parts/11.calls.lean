/-! runs of the abstract machine are runs of the machine: ends and calls -/
def ck_ret (y pc op : Nat) : Bool := match op with
  | 40 => decide (gRt y = some .int) && decide (decode (gB y) pc = .ok (.ireturn, 1))
  | 41 => decide (gRt y = some .boolean) && decide (decode (gB y) pc = .ok (.ireturn, 1))
  | 42 => decide (gRt y = some .long) && decide (decode (gB y) pc = .ok (.lreturn, 1))
  | 43 => decide (gRt y = none) && decide (decode (gB y) pc = .ok (.return_, 1))
  | _ => false
def ck_call (y pc a b : Nat) (sw : List (Int32 × Nat)) : Bool := match sw with
  | [(_, j)] => (match g_cl[j]? with
    | some (o, i, f, k, z) => decide (o = gO y) && decide (z = a) && decide (a ∈ g_cm) && decide (a < 1000) && (Nat.beq f 0 || Nat.beq f 1) && (match k with
      | 0 => decide (gK a = 0) && decide (decode (gB y) pc = .ok (.invokestatic i, 3)) && decide (g_pn a = some b)
      | 1 => decide (2 ≤ gK a) && decide (decode (gB y) pc = .ok (.invokevirtual i, 3)) && (match b with
        | b' + 1 => decide (g_pn a = some b')
        | 0 => false)
      | 2 => decide (gK a = 1) && decide (decode (gB y) pc = .ok (.invokespecial i, 3)) && (match b with
        | b' + 1 => decide (g_pn a = some b')
        | 0 => false)
      | _ => false)
    | none => false)
  | _ => false
/-- the code of a program is that of its methods' bytes -/
def am_Cert (G : am_G) : Prop := (∀ y, G.2.2.2 y = (gK y, gL y)) ∧ ∀ y, y < 289 → ∀ pc, ((G.1 y pc).1 ≤ 39 → am_ck y pc (G.1 y pc) = true) ∧ (¬ (G.1 y pc).1 ≤ 39 → (G.1 y pc).1 ≤ 44 → ck_ret y pc (G.1 y pc).1 = true) ∧
  ((G.1 y pc).1 = 50 ∨ (G.1 y pc).1 = 52 → ck_call y pc (G.1 y pc).2.1 (G.1 y pc).2.2.1 (G.1 y pc).2.2.2.2 = true) ∧
  ((G.1 y pc).1 = 51 → ck_cW y pc (G.1 y pc).2.1 (G.1 y pc).2.2.1 (G.1 y pc).2.2.2.2 = true) ∧ ((G.1 y pc).1 = 52 → y ∈ g_hp ∧ 2 ≤ gK (G.1 y pc).2.1 ∧ (g_hh y).all (fun q => Nat.ble q.1 pc && Nat.blt pc q.2.1) = true) ∧ ((G.1 y pc).1 = 70 → ck_thr y pc (G.1 y pc).2.1 = true)
def am_room (d mc ms : Nat) : Room := { frames := d + 1, cells := mc, slots := ms, locals := 64 * (d + 1) }
def g_ws (y : Nat) : List Cond := Cond.code (gY y) (gB y) (gL y) (gRt y) :: gAll
theorem g_code_all {y : Nat} (h : y ∈ g_cm) : Cond.code (gY y) (gB y) (gL y) (gRt y) ∈ gAll := gAll_of (gw_code (gw_code_sub y h)) rfl
theorem g_good {y : Nat} (h : y ∈ g_cm) : GoodIn gAll (g_ws y) := by
  intro w hw
  rcases List.mem_cons.mp hw with e | e
  · rw [e]; exact ⟨g_code_all h, good_of_word rfl⟩
  · exact ⟨e, good_of_word (gAll_good e)⟩
theorem am_Nst.same {u U : State} (h : u.vm = U.vm) (hN : am_Nst u) : am_Nst U := by
  refine ⟨fun z hz h1 => ?_, fun z hz h1 => ?_, va_AO.moved (by rw [h]; exact Vm.Alike.refl U.vm) hN.2.2.1, th_nox.moved (by rw [h]; exact Vm.Alike.refl U.vm) hN.2.2.2.1, fun w hw => th_fs (th_face_k w hw) h (hN.2.2.2.2 w hw)⟩
  · have := hN.1 z hz h1
    obtain ⟨o, i, f, k, j⟩ := z
    cases h1
    exact va_Nw.same rfl h this
  · have := hN.2.1 z hz h1
    obtain ⟨o, i, f, k, j⟩ := z
    cases h1
    exact va_Nw.same rfl h this
theorem am_Nst.warm {u U : State} (h : u.WarmedH U.vm) (hN : am_Nst u) : am_Nst U := by
  refine ⟨fun z hz h1 => ?_, fun z hz h1 => ?_, va_AO.moved h.alike hN.2.2.1, th_nox.moved h.alike hN.2.2.2.1, fun w hw => th_fw (th_face_k w hw) h (hN.2.2.2.2 w hw)⟩
  · have := hN.1 z hz h1
    obtain ⟨o, i, f, k, j⟩ := z
    cases h1
    exact va_Nw.warmF h this
  · have := hN.2.1 z hz h1
    obtain ⟨o, i, f, k, j⟩ := z
    cases h1
    exact va_Nw.warmM h this
theorem am_Tab.moved {G : am_G} {A : Nat → Prop} {u U : State} {zt : Nat → Nat} {H : Heap} (h : u.vm.Alike U.vm) (hT : am_Tab G A u zt H) : am_Tab G A U zt H := ⟨fun k hk => (hT.1 k hk).moved h, fun k q hq => (hT.2.1 k q hq).moved h, hT.2.2.1.moved h, hT.2.2.2.1.moved h, hT.2.2.2.2.1.moved h, hT.2.2.2.2.2.moved h⟩
theorem am_Tab.kept {G : am_G} {A : Nat → Prop} {u : State} {zt : Nat → Nat} {H H1 : Heap} (hT : am_Tab G A u zt H) (hq : ∀ a : Nat, a < H.size → ¬ A a → H1[a]? = H[a]?) : am_Tab G A u zt H1 := ⟨fun k hk => (hT.1 k hk).kept hq, fun k q hk => (hT.2.1 k q hk).kept hq, hT.2.2.1.kept hq, hT.2.2.2.1.kept hq, hT.2.2.2.2.1.kept hq, hT.2.2.2.2.2.kept hq⟩
theorem am_Tab.narrow {G : am_G} {A B : Nat → Prop} {u : State} {zt : Nat → Nat} {H : Heap} (hT : am_Tab G A u zt H) (hAB : ∀ q, B q → A q) : am_Tab G B u zt H := ⟨fun k hk => (hT.1 k hk).narrow hAB, fun k q hk => (hT.2.1 k q hk).narrow hAB, hT.2.2.1.narrow hAB, hT.2.2.2.1.narrow hAB, hT.2.2.2.2.1.narrow hAB, hT.2.2.2.2.2.narrow hAB⟩
def am_Pc (G : am_G) (D : va_G) (cA : Nat → ClassId) (zt ad : Nat → Nat) (h : am_H) (As : List Value) (sz : Nat) : Array Value → State → Prop := fun v U =>
  v = (As.map (am_v ad)).toArray ∧ U.heap.size = sz ∧ va_P D gcl (am_W ad cA h) U.heap ∧ va_K D gcl (am_tys cA) U ∧ va_D (fun _ => True) (am_W ad cA h) ∧ am_Nst U ∧ am_Tab G (va_A (am_W ad cA h) sz) U zt U.heap
def am_Qc (D : va_G) (cA : Nat → ClassId) (zt ad : Nat → Nat) (h : am_H) (sz : Nat) (r : Option Value) (h' : am_H) : Array Value → State → Outcome → State → Prop := fun _ st oc t =>
  (∃ ad' : Nat → Nat, oc = .returned (r.map (am_v ad')) ∧ (∀ i, i < h.2.1 → ad' i = ad i) ∧ (∀ k, ad' (am_T0 + k) = zt k) ∧ va_P D gcl (am_W ad' cA h') t.heap ∧ va_D (va_A (am_W ad cA h) sz) (am_W ad' cA h') ∧ am_okH h' ∧ ∀ v, r = some v → am_ok h'.2.1 v) ∧ va_F (va_A (am_W ad cA h) sz) st t
theorem am_Pc.blind (G : am_G) (D : va_G) (cA : Nat → ClassId) (zt ad : Nat → Nat) (h : am_H) (As : List Value) (sz : Nat) : FrameBlind (am_Pc G D cA zt ad h As sz) := by
  intro a U g mk q
  obtain ⟨q0, q1, qP, qK, qD, qN, qT⟩ := q
  exact ⟨q0, q1, qP, va_K.moved (u := U) (U := U.calling g mk a) (Vm.Alike.refl U.vm) qK, qD, am_Nst.same (u := U) (U := U.calling g mk a) rfl qN, am_Tab.moved (u := U) (U := U.calling g mk a) (Vm.Alike.refl U.vm) qT⟩
theorem lg_sl_len (vs : List Value) : (lg_sl vs).length = am_wt vs := by
  induction vs with
  | nil => rfl
  | cons v r ih =>
    have e : lg_sl (v :: r) = (if v.category = 2 then [Slot.val v, .second] else [.val v]) ++ lg_sl r := by simp [lg_sl]
    rw [e, List.length_append, ih, am_wt]
    rcases lv_cat v with q | q
    · rw [q, if_neg (by decide)]; rfl
    · rw [q, if_pos rfl]; rfl
theorem am_wt_map2 (ad : Nat → Nat) (st : List Value) : am_wt (st.map (am_v ad)) = am_wt st := by
  induction st with
  | nil => rfl
  | cons v r ih => simp only [List.map_cons, am_wt, ih, am_v_cat]
/-- what holds of all runs of at most n turns -/
def am_SndN (G : am_G) (n : Nat) : Prop := ∀ (d y : Nat) (f : am_F) (h : am_H) (r : Option Value) (h' : am_H), am_ev G n d y f h = some (.inl r, h') → y < 289 →
  ∀ (l : Launch) (D : va_G) (cA : Nat → ClassId) (A : Nat → Prop) (zt : Nat → Nat) (p : Program) (e : Env) (R : Room) (s : State) (m : MethodId) (args : Array Value) (below : List Frame) (meth : Method) (c : Code) (H : Heap) (locs : List Loc) (cells slots : Nat) (Q : State → Prop) (lsR : Array Slot) (ad : Nat → Nat) (z1 z2 : Nat),
    l.flags = pinnedFlags ++ [noTraceFlag] → am_Ctx G D cA A zt p s m meth c args y → d + 1 ≤ R.frames → 64 * (d + 1) ≤ R.locals → am_Rel D cA A zt s.heap ad h H locs → lv_has lsR (gL y) (f.2.1.map (am_q ad)) → am_okF h.2.1 f.2.1 f.2.2 → cells + z1 = h.2.2.1 → slots + z2 = h.2.2.2 → h'.2.2.1 ≤ R.cells + z1 → h'.2.2.2 ≤ R.slots + z2 →
    (∀ (ad' : Nat → Nat) (H' : Heap) (locs' : List Loc) (lsR' : Array Slot) (cells' slots' pc' op : Nat) (st' : List Value), am_Rel D cA A zt s.heap ad' h' H' locs' → (∀ i, i < h.2.1 → ad' i = ad i) → ck_ret y pc' op = true → am_ret op st' = some r → (∀ v ∈ st', am_ok h'.2.1 v) → cells' + z1 = h'.2.2.1 → slots' + z2 = h'.2.2.2 →
      W p l e R s m args below meth c H' locs' cells' slots' Q (F0 m pc' lsR' (st'.map (am_v ad')))) →
    W p l e R s m args below meth c H locs cells slots Q (F0 m f.1 lsR (f.2.2.map (am_v ad)))
theorem am_ctx_of {G : am_G} {l : Launch} {D : va_G} {cA : Nat → ClassId} {zt ad : Nat → Nat} {h : am_H} {a : Nat} (ha : a ∈ g_cm) (hGn : ∀ k, k < 13 → G.2.2.1 k = (List.range (gN k)).map (fun j => defaultValue (gty k j))) {rm : Room} {p : Program} {e : Env} {s : State} {m : MethodId} {args : Array Value} {below : List Frame} {meth : Method} {c : Code} {s₁ : State} (B : BodyLoose p l (gY a) (headSpec (g_ws a) rm) (gB a) (gL a) (gRt a) e s m args below meth c s₁) (hml : c.maxLocals = gL a)
    (hK : va_K D gcl (am_tys cA) s) (hN : am_Nst s) (hT : am_Tab G (va_A (am_W ad cA h) s.heap.size) s zt s.heap) : am_Ctx G D cA (va_A (am_W ad cA h) s.heap.size) zt p s m meth c args a := by
  have hts := atoms_spec (ws := g_ws a) B.pre
  have hown : s.vm.findClass (gY a).cls = some m.cls := findClass_of_methodNamed B.named
  rw [(g_cm_ok a ha).2.1] at hown
  exact ⟨B.exec, B.bytes, hml, hown, fun w hw => hts w (List.mem_cons_of_mem _ hw), (name_of_methodNamed B.named B.method).1, hK, fun q hq => Or.inr hq, hN, hT, hGn⟩
set_option maxHeartbeats 4000000 in
theorem am_met {G : am_G} {n : Nat} (ih : am_SndN G n) (hGn : ∀ k, k < 13 → G.2.2.1 k = (List.range (gN k)).map (fun j => defaultValue (gty k j))) {d a : Nat} {As : List Value} {h h1 : am_H} {r : Option Value} (ha : a ∈ g_cm) (ha9 : a < 289) (hev : am_ev G n d a (0, lv_args 0 As, []) h = some (.inl r, h1)) (hO : am_okH h) (hAs : ∀ w ∈ As, am_ok h.2.1 w) (hwt : am_wt As ≤ gL a) (l : Launch) (hfl : l.flags = pinnedFlags ++ [noTraceFlag]) (D : va_G) (cA : Nat → ClassId) (zt ad : Nat → Nat) (sz : Nat) (hz : ∀ k, ad (am_T0 + k) = zt k) :
    Met l (gY a) (g_ws a) (am_room d (h1.2.2.1 - h.2.2.1) (h1.2.2.2 - h.2.2.2)) (am_Pc G D cA zt ad h As sz) (am_Qc D cA zt ad h sz r h1) (h1.2.2.1 - h.2.2.1) (h1.2.2.2 - h.2.2.2) (va_A (am_W ad cA h) sz) := by
  have hm := am_ev_mono hev
  refine va_MetF (cc := gB a) (maxL := gL a) (ret := gRt a) (g_cm_ok a ha).2.2.1 rfl ?_
  intro p e s m args below meth c s₁ B hml hv
  obtain ⟨rfl, hsz, hP, hK, hD0, hN, hT⟩ := hv
  subst hsz
  have X := am_ctx_of ha hGn B hml hK hN hT
  have hr := B.returns
  have hlocks := B.notSynchronized
  have hx := B.exec
  have hb := B.bytes
  have hD := hD0.self (sz := s.heap.size)
  have hl := lv_entry (As.map (am_v ad)) (n := gL a) (by rw [lg_sl_len, am_wt_map2]; exact hwt)
  rw [lg_entry_eq]
  generalize (lg_sl (As.map (am_v ad)) ++ List.replicate (gL a - (lg_sl (As.map (am_v ad))).length) Slot.unset).toArray = lsR at hl ⊢
  rw [am_args_map] at hl
  refine ih d a (0, lv_args 0 As, []) h r h1 hev ha9 l D cA _ zt p e _ s m _ below meth c s.heap [] 0 0 _ lsR ad h.2.2.1 h.2.2.2 hfl X (Nat.le_refl _) (Nat.le_refl _) ⟨hP, hD, va_S.rf, hO, hz⟩ hl ⟨?_, fun v hv => by cases hv⟩ (Nat.zero_add _) (Nat.zero_add _) (by show h1.2.2.1 ≤ h1.2.2.1 - h.2.2.1 + h.2.2.1; omega) (by show h1.2.2.2 ≤ h1.2.2.2 - h.2.2.2 + h.2.2.2; omega) ?_
  · have key : ∀ (vs : List Value) (i : Nat), (∀ w ∈ vs, am_ok h.2.1 w) → ∀ q ∈ lv_args i vs, am_ok h.2.1 q.2 := by
      intro vs
      induction vs with
      | nil => intro i _ q hq; cases hq
      | cons v w ihv =>
        intro i hvs q hq
        rcases List.mem_cons.mp hq with e | e
        · rw [e]; exact hvs v List.mem_cons_self
        · exact ihv _ (fun w hw => hvs w (List.mem_cons_of_mem _ hw)) q e
    exact key As 0 hAs
  · intro ad' H' locs' lsR' cells' slots' pc' op st' hR' had hck hret hok hc hs
    have e1 : cells' = h1.2.2.1 - h.2.2.1 := by omega
    have e2 : slots' = h1.2.2.2 - h.2.2.2 := by omega
    subst e1; subst e2
    obtain ⟨hP', hD', hS', hO', hz'⟩ := hR'
    have post : ∀ (v : Option Value), (∀ w, r = some w → w ∈ st') → v = r.map (am_v ad') → ∀ t : State, t.heap = H' → s.WarmedH t.vm → am_Qc D cA zt ad h s.heap.size r h1 ((As.map (am_v ad)).toArray) s (.returned v) t := by
      intro v hin hv t ht hW
      exact ⟨⟨ad', by rw [hv], had, hz', by rw [ht]; exact hP', hD', hO', fun w hw => hok w (hin w hw)⟩, hS'.F ht⟩
    unfold am_ret at hret
    split at hret
    · cases h43 : Nat.beq op 43 with
      | false => rw [h43, cond_false] at hret; cases hret
      | true =>
        rw [h43, cond_true] at hret
        cases hret
        have h43 := Nat.eq_of_beq_eq_true h43
        subst h43
        have hck : (decide (gRt a = none) && decide (decode (gB a) pc' = .ok (.return_, 1))) = true := hck
        simp only [Bool.and_eq_true, decide_eq_true_eq] at hck
        exact W.vret hx hb (by rw [hr]; exact hck.1) (post none (fun w hw => by cases hw) rfl) hS'.2.2 hck.2
    · rename_i v
      cases h40 : Nat.beq op 40 with
      | true =>
        rw [h40, cond_true] at hret
        cases hret
        have h40 := Nat.eq_of_beq_eq_true h40
        subst h40
        have hck : (decide (gRt a = some .int) && decide (decode (gB a) pc' = .ok (.ireturn, 1))) = true := hck
        simp only [Bool.and_eq_true, decide_eq_true_eq] at hck
        exact W.zret hx hb (by rw [hr]; exact hck.1) rfl (post (some (.int v)) (fun w hw => by cases hw; exact List.mem_cons_self) rfl) hS'.2.2 hck.2
      | false =>
        rw [h40, cond_false] at hret
        cases h41 : Nat.beq op 41 with
        | false => rw [h41, cond_false] at hret; cases hret
        | true =>
          rw [h41, cond_true] at hret
          have h41 := Nat.eq_of_beq_eq_true h41
          subst h41
          split at hret
          · rename_i h01
            cases hret
            have hck : (decide (gRt a = some .boolean) && decide (decode (gB a) pc' = .ok (.ireturn, 1))) = true := hck
            simp only [Bool.and_eq_true, decide_eq_true_eq] at hck
            exact W.zret (ty := .boolean) hx hb (by rw [hr]; exact hck.1) (by rcases h01 with q | q <;> (rw [q]; rfl)) (post (some (.int v)) (fun w hw => by cases hw; exact List.mem_cons_self) rfl) hS'.2.2 hck.2
          · cases hret
    · rename_i v
      cases h42 : Nat.beq op 42 with
      | false => rw [h42, cond_false] at hret; cases hret
      | true =>
        rw [h42, cond_true] at hret
        cases hret
        have h42 := Nat.eq_of_beq_eq_true h42
        subst h42
        have hck : (decide (gRt a = some .long) && decide (decode (gB a) pc' = .ok (.lreturn, 1))) = true := hck
        simp only [Bool.and_eq_true, decide_eq_true_eq] at hck
        exact W.lret hx hb (by rw [hr]; exact hck.1) (post (some (.long v)) (fun w hw => by cases hw; exact List.mem_cons_self) rfl) hS'.2.2 hck.2
    · cases h44 : Nat.beq op 44 with
      | false => rw [h44, cond_false] at hret; cases hret
      | true =>
        have h44 := Nat.eq_of_beq_eq_true h44
        subst h44
        exact absurd hck Bool.false_ne_true
    · cases hret
