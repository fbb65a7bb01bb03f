/-! runs that end in an exception -/
def am_QcT (D : va_G) (cA : Nat → ClassId) (zt ad : Nat → Nat) (h : am_H) (sz x : Nat) (h' : am_H) : Array Value → State → Outcome → State → Prop := fun _ st oc t =>
  (∃ (a : Addr) (ce : Cell) (ad' : Nat → Nat), oc = .threw a ∧ t.heap[a]? = some ce ∧ ce.vm = .none ∧ t.vm.findClass (th_X x) = some ce.cls ∧ (∀ i, i < h.2.1 → ad' i = ad i) ∧ (∀ k, ad' (am_T0 + k) = zt k) ∧ va_P D gcl (am_W ad' cA h') t.heap ∧ va_D (va_A (am_W ad cA h) sz) (am_W ad' cA h') ∧ am_okH h') ∧ va_F (va_A (am_W ad cA h) sz) st t
/-- what holds of all runs of at most n turns that end in an exception -/
def am_SndT (G : am_G) (n : Nat) : Prop := ∀ (d y : Nat) (f : am_F) (h : am_H) (x : Nat) (h' : am_H), am_ev G n d y f h = some (.inr x, h') → y < 289 →
  ∀ (l : Launch) (D : va_G) (cA : Nat → ClassId) (A : Nat → Prop) (zt : Nat → Nat) (p : Program) (e : Env) (R : Room) (s : State) (m : MethodId) (args : Array Value) (below : List Frame) (meth : Method) (c : Code) (H : Heap) (locs : List Loc) (cells slots : Nat) (Q : State → Prop) (lsR : Array Slot) (ad : Nat → Nat) (z1 z2 : Nat),
    l.flags = pinnedFlags ++ [noTraceFlag] → am_Ctx G D cA A zt p s m meth c args y → d + 1 ≤ R.frames → 64 * (d + 1) ≤ R.locals → am_Rel D cA A zt s.heap ad h H locs → lv_has lsR (gL y) (f.2.1.map (am_q ad)) → am_okF h.2.1 f.2.1 f.2.2 → cells + z1 = h.2.2.1 → slots + z2 = h.2.2.2 → h'.2.2.1 ≤ R.cells + z1 → h'.2.2.2 ≤ R.slots + z2 →
    (∀ (ad' : Nat → Nat) (h1 : am_H) (H' : Heap) (locs' : List Loc) (lsR' : Array Slot) (cells' slots' pc' : Nat), h' = am_thr h1 → 5 ≤ d → (G.1 y pc').1 = 70 → (G.1 y pc').2.1 = x → am_Rel D cA A zt s.heap ad' h1 H' locs' → (∀ i, i < h.2.1 → ad' i = ad i) → lsR'.size = gL y → cells' + z1 = h1.2.2.1 → slots' + z2 = h1.2.2.2 →
      W p l e R s m args below meth c H' locs' cells' slots' Q (F0 m pc' lsR' [])) →
    (∀ (ad' : Nat → Nat) (h1 : am_H) (H' : Heap) (locs' : List Loc) (lsR' : Array Slot) (cells' slots' pc' d' : Nat) (ls' : List (Nat × Value)) (st' As rest : List Value), d = d' + 1 → h.2.1 ≤ h1.2.1 → (G.1 y pc').1 = 52 → am_take (G.1 y pc').2.2.1 st' = some (As, rest) → am_can G (G.1 y pc').2.1 As h1 = true → am_wt rest ≤ 8 → am_ev G n d' (G.1 y pc').2.1 (0, lv_args 0 As, []) h1 = some (.inr x, h') →
      am_Rel D cA A zt s.heap ad' h1 H' locs' → (∀ i, i < h.2.1 → ad' i = ad i) → lv_has lsR' (gL y) (ls'.map (am_q ad')) → am_okF h1.2.1 ls' st' → cells' + z1 = h1.2.2.1 → slots' + z2 = h1.2.2.2 →
      W p l e R s m args below meth c H' locs' cells' slots' Q (F0 m pc' lsR' (st'.map (am_v ad')))) →
    W p l e R s m args below meth c H locs cells slots Q (F0 m f.1 lsR (f.2.2.map (am_v ad)))
theorem th_nost {D : va_G} {cl : List vw_C} {q : Nat × va_E} {H : Heap} (h : va_at D cl q H) {cell : Cell} (hc : H[q.1]? = some cell) : cell.vm.isStatics = false := by
  obtain ⟨a, e⟩ := q
  cases e with
  | inl x =>
    have h : H[a]? = some (vp_cell x.1 x.2) := h
    cases hc.symm.trans h
    unfold vp_cell
    split <;> rfl
  | inr o =>
    obtain ⟨r, -, cell', h1, -, h2, -⟩ := h
    cases hc.symm.trans h1
    rw [h2]
    rfl
theorem g_R11 : gR 11 = "ShareHall" := by decide +kernel
theorem g_R13 : gR 13 = "ShareHallLaw" := by decide +kernel
set_option maxHeartbeats 4000000 in
/-- a method that throws -/
theorem am_metT {G : am_G} {n : Nat} (ih : am_SndT G n) (hC : am_Cert G) (hGn : ∀ k, k < 13 → G.2.2.1 k = (List.range (gN k)).map (fun j => defaultValue (gty k j))) {d a : Nat} {As : List Value} {h h1 : am_H} {x : Nat} (ha : a ∈ g_cm) (hka : 2 ≤ gK a) (hev : am_ev G n d a (0, lv_args 0 As, []) h = some (.inr x, h1)) (hO : am_okH h) (hAs : ∀ w ∈ As, am_ok h.2.1 w) (hwt : am_wt As ≤ gL a) (l : Launch) (hfl : l.flags = pinnedFlags ++ [noTraceFlag]) (D : va_G) (cA : Nat → ClassId) (zt ad : Nat → Nat) (sz : Nat) (hz : ∀ k, ad (am_T0 + k) = zt k) :
    MetT l (gY a) (g_ws a) (am_room d (h1.2.2.1 - h.2.2.1) (h1.2.2.2 - h.2.2.2)) (am_Pc G D cA zt ad h As sz) (am_QcT D cA zt ad h sz x h1) (h1.2.2.1 - h.2.2.1) (h1.2.2.2 - h.2.2.2) (va_A (am_W ad cA h) sz) := by
  have hm := am_ev_mono hev
  obtain ⟨ma1, ma2, ma3⟩ := id hm
  have ha9 := g_cm_lt a ha
  refine th_MetF (cc := gB a) (maxL := gL a) (ret := gRt a) (g_cm_ok a ha).2.2.1 rfl ?_
  intro p e s m args below meth c s₁ B hml hv
  obtain ⟨hargs, hsz, hP, hK, hD0, hN, hT⟩ := hv
  subst hsz
  have X := am_ctx_of ha hGn B hml hK hN hT
  have hD := hD0.self (sz := s.heap.size)
  have hno : c.exceptionTable.isEmpty = true := by
    obtain ⟨meth9, c9, hm9, hc9, -, -, -, -, hne, -⟩ := Cond.code_spec B.named (atoms_spec (ws := g_ws a) B.pre _ List.mem_cons_self)
    cases B.method.symm.trans hm9
    have h1 : s₁.code? m = some c := B.here.code
    rw [State.code?_eq, show s₁.vm = s.vm by rw [B.state]; rfl, B.method] at h1
    have h1 : meth.code = some c := h1
    cases h1.symm.trans hc9
    exact hne
  refine am_entry hargs hwt (fun lsR hl => ?_)
  refine ih d a (0, lv_args 0 As, []) h x h1 hev ha9 l D cA _ zt p e _ s m _ below meth c s.heap [] 0 0 _ lsR ad h.2.2.1 h.2.2.2 hfl X (Nat.le_refl _) (Nat.le_refl _) ⟨hP, hD, va_S.rf, hO, hz⟩ hl ⟨am_args_ok hAs, fun v hv => by cases hv⟩ (Nat.zero_add _) (Nat.zero_add _) (by show h1.2.2.1 ≤ h1.2.2.1 - h.2.2.1 + h.2.2.1; omega) (by show h1.2.2.2 ≤ h1.2.2.2 - h.2.2.2 + h.2.2.2; omega) ?_ ?_
  · intro ad' h2 H' locs' lsR' cells' slots' pc' eh h5 hop hx hR' had hls hc hs
    have hck := (hC.2 a ha9 pc').2.2.2.2.2 hop
    rw [hx] at hck
    obtain ⟨i, k, hdec, hx4, hg11, -, hstr⟩ := ck_thr_ok hck
    obtain ⟨hx0, hb, -, hown, hts, -⟩ := X
    rw [hg11, g_R11] at hown
    obtain ⟨hP', hD', hS', hO', hz'⟩ := hR'
    obtain ⟨s1, s2, s3, s4, s5⟩ := th_six_ok x hx4
    have eh1 : h1.2.2.1 = h2.2.2.1 + 1 := by rw [eh]; rfl
    have eh2 : h1.2.2.2 = h2.2.2.2 + 6 := by rw [eh]; rfl
    have e1 : h1.2.2.1 - h.2.2.1 = cells' + 1 := by omega
    have e2 : h1.2.2.2 - h.2.2.2 = slots' + 6 := by omega
    rw [e1, e2]
    refine th_W (i1 := th_i1 x) (b1 := th_b1 x) (cls := th_X x) (text := g_tx i) (A := va_A (am_W ad cA h) s.heap.size) hx0 hb hfl hown s1 s2 s3 s4 s5 (fun w hw => ?_) (hts _ (gAll_of (th_in th_lk1 hx4) rfl)) (hts _ (gAll_of (th_in th_lk2 hx4) rfl)) (hN.2.2.2.2 _ hstr _) hT.2.2.1 hT.2.2.2.1 ?_ hS'.1 hS'.2.2 hdec (by rw [hls, hml]) hno ?_ ?_ ?_ ?_ B.notSynchronized ?_
    · rcases th_at_all hx4 w hw with q | q | q | q
      · exact hts w q
      · exact hN.2.2.2.2 w q _
      · rw [q]; exact hT.2.2.2.2.1.word _
      · rw [q]; exact hT.2.2.2.2.2.word _
    · intro q hq cell hcell
      rcases hS'.2.2 q hq with ⟨k, v, hk⟩ | hk
      · exact th_nost (hP k _ hk) hcell
      · exact absurd (Array.getElem?_eq_some_iff.mp hcell).1 (Nat.not_lt.mpr hk)
    · exact Nat.le_refl _
    · exact Nat.le_refl _
    · show 5 < d + 1
      omega
    · show 83 ≤ 64 * (d + 1)
      omega
    · intro cX ce t hcX hW hk hsz' hce hcc hcv
      refine ⟨⟨H'.size, ce, ad', rfl, hce, hcv, by rw [hW.alike.findClass, hcX, hcc], had, hz', ?_, ?_, ?_⟩, by rw [hsz']; exact Nat.le_succ_of_le hS'.1, fun q q1 q2 => (hk q (Nat.lt_of_lt_of_le q1 hS'.1)).trans (hS'.2.1 q q1 q2)⟩
      · rw [eh]
        exact hP'.kept (fun k q hk' => hk q.1 (hP' k q hk').lt)
      · rw [eh]; exact hD'
      · rw [eh]; exact hO'
  · intro ad' h2 H' locs' lsR' cells' slots' pc' d' ls' st' As' rest' ed hm3 hop htk hcan hw hev' hR' had hl' hok hc hs
    have h52 := (hC.2 a ha9 pc').2.2.2.2.1 hop
    have h0 := (g_hp_ok a h52.1).2.2.2.2.2.2.2.1
    omega
theorem am_ck_cm {y pc a b : Nat} {sw : List (Int32 × Nat)} (this : ck_call y pc a b sw = true) : a ∈ g_cm := by
  unfold ck_call at this
  split at this
  · rename_i j
    cases hj : g_cl[j]? with
    | none => rw [hj] at this; cases this
    | some z =>
      obtain ⟨o, i, f, k, z⟩ := z
      rw [hj] at this
      simp only [Bool.and_eq_true, decide_eq_true_eq] at this
      exact this.1.1.1.2
  · cases this
section THX
variable {G : am_G} {D : va_G} {cA : Nat → ClassId} {A : Nat → Prop} {zt : Nat → Nat} {p : Program} {l : Launch} {e : Env} {R : Room} {s : State} {m : MethodId} {args : Array Value} {below : List Frame} {meth : Method} {c : Code} {H : Heap} {locs : List Loc} {cells slots : Nat} {Q : State → Prop} {y pc : Nat} {lsR : Array Slot} {ad : Nat → Nat} {h : am_H}
theorem g_cl13 : g_cl.all (fun z => !(Nat.beq z.1 13) || Nat.beq z.2.2.1 0) = true := by decide +kernel
set_option maxHeartbeats 4000000 in
/-- the call of a method that throws -/
theorem am_runT (X : am_Ctx G D cA A zt p s m meth c args y) (hG2 : ∀ y, G.2.2.2 y = (gK y, gL y)) {a b : Nat} {sw : List (Int32 × Nat)} (hck : ck_call y pc a b sw = true) (hy13 : gO y = 13) (hka : 2 ≤ gK a) {As rest st : List Value} (hst : st = As.reverse ++ rest) (hlen : As.length = b) (hcan : am_can G a As h = true) (hw : am_wt rest ≤ 8) (hR : am_Rel D cA A zt s.heap ad h H locs) (hsz : lsR.size = gL y)
    {d mc ms : Nat} {Qc : Array Value → State → Outcome → State → Prop} {free : Addr → Prop} (M : MetT l (gY a) (g_ws a) (am_room d mc ms) (am_Pc G D cA zt ad h As H.size) Qc mc ms free) (hfr : d + 2 ≤ R.frames) (hlo : 64 * (d + 2) ≤ R.locals) (hf : cells + mc ≤ R.cells ∧ slots + ms ≤ R.slots) :
    ∀ T : State, T.heap = H → Stand p l e R s m args below meth c T locs cells slots → ∃ (a : Addr) (st₀ t T' : State) (L : List Loc), st₀.heap = H ∧ Stand p l e R s m args below meth c T' (locs ++ L) (cells + mc) (slots + ms) ∧ (∀ q ∈ L, free q.base) ∧ T'.heap = t.heap ∧ T'.vm = t.vm ∧
      Qc (As.map (am_v ad)).toArray st₀ (.threw a) t ∧ ∀ target, Steps p.tables e below ((T'.setTop (F0 m pc lsR (rest.map (am_v ad)))).pushFrame (.throwing a)) target → Steps p.tables e below (T.setTop (F0 m pc lsR (st.map (am_v ad)))) target := by
  have hpre := am_pre X hR As
  have hbl := am_Pc.blind G D cA zt ad h As H.size
  obtain ⟨hx, hb, hml, hown, hts, hnm, hK, hA, hN, hT, hGn⟩ := X
  have hP := hR.1
  unfold ck_call at hck
  split at hck
  · rename_i j
    cases hj : g_cl[j]? with
    | none => rw [hj] at hck; cases hck
    | some z =>
      obtain ⟨o, i, f, k, z⟩ := z
      rw [hj] at hck
      simp only [Bool.and_eq_true, Bool.or_eq_true, decide_eq_true_eq] at hck
      obtain ⟨⟨⟨⟨⟨rfl, rfl⟩, ha⟩, ha1⟩, hf01⟩, hk⟩ := hck
      have hf0 : f = 0 := by
        have q := List.all_eq_true.mp g_cl13 _ (List.mem_of_getElem? hj)
        rw [hy13] at q
        exact Nat.eq_of_beq_eq_true q
      subst hf0
      obtain ⟨o15, ocls, -, onot, oL, ok2, ok1⟩ := g_cm_ok z ha
      have hini : (Cond.initialized (gY z).cls).before args s = true := by rw [ocls]; exact hts _ (gAll_of (g_ini_in o15) rfl)
      have hroom : (am_room d mc ms).frames + 1 ≤ R.frames ∧ 8 + (gL z + 11) + (am_room d mc ms).locals ≤ R.locals := ⟨hfr, by show 8 + (gL z + 11) + 64 * (d + 1) ≤ R.locals; omega⟩
      have S : CallFix p m c (gB y) (gL y) s args gAll (gR (gO y)) := ⟨hx, hb, hml, hown, hts⟩
      have hwt : 2 * (F0 m pc lsR (st.map (am_v ad))).monitorRoom + ((rest.map (am_v ad)).map fun v => v.category).sum ≤ 8 := by
        rw [am_wt_map]; show 2 * 0 + am_wt rest ≤ 8; omega
      have hstR : st.map (am_v ad) = (As.map (am_v ad)).reverse ++ rest.map (am_v ad) := by rw [hst, List.map_append, List.map_reverse]
      have hplain : (Cond.methodLink (gR (gO y)) i (gY z)).before args s = true := by
        have := g_cl_in hj
        have e : g_clw (gO y, i, 0, k, z) = .methodLink (gR (gO y)) i (g_yn z) := rfl
        rw [e, g_yn_eq ha1] at this
        exact hts _ (gAll_of this rfl)
      unfold am_can at hcan
      rw [hG2, Bool.and_eq_true] at hcan
      obtain ⟨-, hcan⟩ := hcan
      match k, hk with
      | 0, hk =>
        simp only [Bool.and_eq_true, decide_eq_true_eq] at hk
        omega
      | 1, hk =>
        simp only [Bool.and_eq_true, decide_eq_true_eq] at hk
        obtain ⟨⟨hk0, hd⟩, hpn⟩ := hk
        have hinst : (Cond.instanceMethod (gY z)).before args s = true := hts _ (gAll_of (gw_inst (gw_inst_sub z ha (by omega))) rfl)
        have hsel : (Cond.selects (gY z).cls (gY z) (gY z)).before args s = true := hts _ (gAll_of (gw_sel (gw_sel_sub z ha hk0)) rfl)
        obtain ⟨o13, oK⟩ := ok2 hk0
        rw [oK] at hcan
        cases As with
        | nil => cases hcan
        | cons w As' =>
          cases w with
          | ref q =>
            have hcan : (Nat.blt q h.2.1 && (match h.1 q with
              | .inr (ci, _) => Nat.beq ci (gO z)
              | _ => false)) = true := hcan
            rw [Bool.and_eq_true] at hcan
            obtain ⟨hq1, hq2⟩ := hcan
            have hq : q < h.2.1 := Nat.le_of_ble_eq_true hq1
            split at hq2
            · rename_i ci fs hc
              have hq3 := Nat.eq_of_beq_eq_true hq2
              subst hq3
              have he : (am_W ad cA h)[q]? = some (ad q, .inr (gO z, fs.map (am_v ad))) := by rw [am_W_at hq, hc]; rfl
              have hrec := va_recv hK hP (gcl_at o13) he
              have hst2 : st.map (am_v ad) = (As'.map (am_v ad)).reverse ++ .ref (ad q) :: rest.map (am_v ad) := by rw [hstR]; simp [am_v]
              have hpre' : PreV s H (gY z).cls (ad q) (am_Pc G D cA zt ad h (.ref q :: As') H.size) (As'.map (am_v ad)) := ⟨hbl, by rw [ocls]; exact hrec, hpre⟩
              cases b with
              | zero => cases hpn
              | succ b' =>
                have hpn : g_pn z = some b' := of_decide_eq_true hpn
                have hn : (As'.map (am_v ad)).length = b' := by rw [List.length_map]; simpa using hlen
                exact th_call S M ⟨callB_of b' hts (g_good ha) rfl rfl rfl hini hplain ⟨onot.1, onot.2, hpn⟩ hroom, hinst, hsel⟩ hpre' (g := F0 m pc lsR (st.map (am_v ad))) rfl hn hsz hst2 hwt hd hf
            · cases hq2
          | _ => cases hcan
      | 2, hk =>
        simp only [Bool.and_eq_true, decide_eq_true_eq] at hk
        omega
      | n + 3, hk => cases hk
  · cases hck
theorem th_tab {L : List ExceptionTableEntry} {he : List (Nat × Nat × Int32 × Nat × Nat)} (h : L.map (fun x => (x.handlerPc, x.catchType)) = he.map (fun q => (q.2.1, th_ct q.1))) {q : Nat × Nat × Int32 × Nat × Nat} {r : List (Nat × Nat × Int32 × Nat × Nat)} (e : he = q :: r) :
    ∃ x L', L = x :: L' ∧ x.handlerPc = q.2.1 ∧ x.catchType = th_ct q.1 ∧ L'.map (fun x => (x.handlerPc, x.catchType)) = r.map (fun q => (q.2.1, th_ct q.1)) := by
  subst e
  cases L with
  | nil => cases h
  | cons x L' =>
    rw [List.map_cons, List.map_cons] at h
    injection h with h1 h2
    injection h1 with h3 h4
    exact ⟨x, L', rfl, h3, h4, h2⟩
theorem am_hand1 {x z : Nat} {k k0 : Int32} (h : am_hand x [(k0, z)] = some k) : z = x ∧ k0 = k := by
  have h : (bif Nat.beq z x then some k0 else none) = some k := h
  cases e : Nat.beq z x with
  | false => rw [e, cond_false] at h; cases h
  | true => rw [e, cond_true] at h; exact ⟨Nat.eq_of_beq_eq_true e, Option.some.inj h⟩
theorem th_ent {y x : Nat} {k : Int32} (hy : y ∈ g_hp) (hk : am_hand x (g_hk y) = some k) : (∃ q r, g_he y = q :: r ∧ q.1 = x ∧ q.2.2.1 = k) ∨ ∃ q0 q r, g_he y = q0 :: q :: r ∧ q0.1 = 1 ∧ q.1 = 2 ∧ x = 2 ∧ q.2.2.1 = k := by
  have hy : y = 279 ∨ y = 280 ∨ y = 281 ∨ y = 282 ∨ y = 283 ∨ y = 284 ∨ y = 285 ∨ y = 286 := by simpa [g_hp] using hy
  have one : ∀ {q : Nat × Nat × Int32 × Nat × Nat}, g_he y = [q] → (∃ q r, g_he y = q :: r ∧ q.1 = x ∧ q.2.2.1 = k) := by
    intro q e
    unfold g_hk at hk
    rw [e] at hk
    obtain ⟨h1, h2⟩ := am_hand1 hk
    exact ⟨q, [], e, h1, h2⟩
  rcases hy with rfl | rfl | rfl | rfl | rfl | rfl | rfl | rfl
  · exact Or.inl (one (q := (0, 11, 1, 2, 1)) (by decide +kernel))
  · exact Or.inl (one (q := (0, 11, 1, 2, 1)) (by decide +kernel))
  · exact Or.inl (one (q := (0, 13, 1, 4, 2)) (by decide +kernel))
  · have e : g_he 282 = [(1, 12, 1, 3, 1), (2, 15, 2, 3, 1)] := by decide +kernel
    unfold g_hk at hk
    rw [e] at hk
    have hk : (bif Nat.beq 1 x then some (1 : Int32) else am_hand x [((2 : Int32), 2)]) = some k := hk
    cases e1 : Nat.beq 1 x with
    | true =>
      rw [e1, cond_true] at hk
      exact Or.inl ⟨_, _, e, Nat.eq_of_beq_eq_true e1, Option.some.inj hk⟩
    | false =>
      rw [e1, cond_false] at hk
      obtain ⟨h1, h2⟩ := am_hand1 hk
      exact Or.inr ⟨_, _, _, e, rfl, rfl, h1.symm, h2⟩
  · exact Or.inl (one (q := (0, 12, 1, 3, 1)) (by decide +kernel))
  · exact Or.inl (one (q := (3, 12, 1, 4, 2)) (by decide +kernel))
  · exact Or.inl (one (q := (3, 12, 1, 4, 2)) (by decide +kernel))
  · exact Or.inl (one (q := (3, 15, 1, 5, 2)) (by decide +kernel))
theorem th_ct0 : ∀ x, x < 4 → th_ct x ≠ 0 := by decide +kernel
theorem th_X1 : th_X 1 = "java/lang/IndexOutOfBoundsException" := by decide +kernel
theorem th_X2 : th_X 2 = "java/lang/IllegalStateException" := by decide +kernel
theorem th_self (hN : am_Nst s) {x : Nat} (hx : x < 4) {ci : ClassId} (hc : s.vm.findClass (th_X x) = some ci) : s.vm.assignable ci ci = true := by
  have h1 : Cond.castable (th_X x) (th_X x) ∈ g_at [974, 1137, 1153, 1389] := by rw [← th_lk4]; exact List.mem_map.mpr ⟨x, List.mem_range.mpr hx, rfl⟩
  unfold g_at at h1
  obtain ⟨i, hi, e⟩ := List.mem_filterMap.mp h1
  have h2 : Cond.castable (th_X x) (th_X x) ∈ th_face := List.mem_filterMap.mpr ⟨i, List.mem_append_right [976, 978, 980] (List.mem_append_left [1014, 1116, 1124, 1125, 1144, 1160, 1373, 1396, 1411, 1412, 1420] hi), e⟩
  obtain ⟨c1, t1, q1, q2, q3⟩ := Cond.castable_spec (hN.2.2.2.2 _ h2 #[])
  cases hc.symm.trans q1
  cases hc.symm.trans q2
  exact q3
set_option maxHeartbeats 4000000 in
/-- the exception is caught in the helper -/
theorem am_catch (X : am_Ctx G D cA A zt p s m meth c args y) (hy : y ∈ g_hp) (htab : c.exceptionTable.toList.map (fun h => (h.startPc, h.endPc, h.handlerPc, h.catchType)) = g_hh y) (hall : (g_hh y).all (fun q => Nat.ble q.1 pc && Nat.blt pc q.2.1) = true) {x : Nat} {k : Int32} (hk : am_hand x (g_hk y) = some k)
    (hR : am_Rel D cA A zt s.heap ad h H locs) {h1 : am_H} {mc ms : Nat} {stR restR : List Value} {aa : Array Value}
    (hr : ∀ T : State, T.heap = H → Stand p l e R s m args below meth c T locs cells slots → ∃ (a : Addr) (st₀ t T' : State) (L : List Loc), st₀.heap = H ∧ Stand p l e R s m args below meth c T' (locs ++ L) (cells + mc) (slots + ms) ∧ (∀ q ∈ L, va_A (am_W ad cA h) H.size q.base) ∧ T'.heap = t.heap ∧ T'.vm = t.vm ∧
      am_QcT D cA zt ad h H.size x h1 aa st₀ (.threw a) t ∧ ∀ target, Steps p.tables e below ((T'.setTop (F0 m pc lsR restR)).pushFrame (.throwing a)) target → Steps p.tables e below (T.setTop (F0 m pc lsR stR)) target)
    (kk : ∀ (ad' : Nat → Nat) (H1 : Heap) (locs1 : List Loc) (a : Nat) (q : Nat × Nat × Int32 × Nat × Nat), ck_tail y q = true → q.2.2.1 = k → am_Rel D cA A zt s.heap ad' h1 H1 locs1 → (∀ i, i < h.2.1 → ad' i = ad i) → W p l e R s m args below meth c H1 locs1 (cells + mc) (slots + ms) Q (F0 m q.2.1 lsR [.ref a])) :
    W p l e R s m args below meth c H locs cells slots Q (F0 m pc lsR stR) := by
  obtain ⟨hx, hb, hml, hown, hts, hnm, hK, hA, hN, hT0, hGn⟩ := X
  obtain ⟨oall, otab, o13, -⟩ := g_hp_ok y hy
  rw [o13, g_R13] at hown
  have hcov : ∀ z ∈ c.exceptionTable.toList, covers z pc = true := by
    intro z hz
    have q1 : (z.startPc, z.endPc, z.handlerPc, z.catchType) ∈ g_hh y := by rw [← htab]; exact List.mem_map.mpr ⟨z, hz, rfl⟩
    have q2 := List.all_eq_true.mp hall _ q1
    rw [Bool.and_eq_true] at q2
    have q3 : z.startPc ≤ pc := Nat.le_of_ble_eq_true q2.1
    have q4 : pc < z.endPc := Nat.le_of_ble_eq_true q2.2
    show (decide (z.startPc ≤ pc) && decide (pc < z.endPc)) = true
    rw [decide_eq_true q3, decide_eq_true q4]
    rfl
  have htab2 : c.exceptionTable.toList.map (fun x => (x.handlerPc, x.catchType)) = (g_he y).map (fun q => (q.2.1, th_ct q.1)) := by
    rw [← otab, ← htab, List.map_map]
    rfl
  have hin : ∀ q ∈ g_he y, ck_tail y q = true := List.all_eq_true.mp oall
  have hlt : ∀ q ∈ g_he y, q.1 < 4 := by
    intro q hq
    have := hin q hq
    unfold ck_tail at this
    rw [Bool.and_eq_true] at this
    exact of_decide_eq_true this.2
  have hlink : ∀ x, x < 4 → (Cond.classLink "ShareHallLaw" (th_ct x) (th_X x)).before args s = true := fun x hx => hts _ (gAll_of (th_in th_lk3 hx) rfl)
  intro T hT Xs
  obtain ⟨a, st₀, t, T', L, h0, X', hL, e1, e2, ⟨⟨a2, ce, ad', ha, hce, hcv, hcf, had, hz', hP', hD', hO'⟩, hz, hkp⟩, st⟩ := hr T hT Xs
  cases ha
  rw [h0] at hz hkp
  have hF := hR.free hA
  have hS := hR.2.2.1
  have hRel : am_Rel D cA A zt s.heap ad' h1 T'.heap (locs ++ L) := ⟨by rw [e1]; exact hP', hD'.weaken (fun k q _ h => hF q.1 h), ⟨Nat.le_trans hS.1 (by rw [e1]; exact hz), fun q h1 h2 => by rw [e1, hkp q (Nat.lt_of_lt_of_le h1 hS.1) (fun z => h2 (hF q z))]; exact hS.2.1 q h1 h2, fun q hq => by
      rcases List.mem_append.mp hq with h | h
      · exact hS.2.2 q h
      · exact hF _ (hL q h)⟩, hO', hz'⟩
  have hcf' : s.vm.findClass (th_X x) = some ce.cls := by rw [← X'.warmed.alike.findClass, e2]; exact hcf
  have hceT : T'.heap[a]? = some ce := by rw [e1]; exact hce
  rcases th_ent hy hk with ⟨q, r, hq, hqx, hqk⟩ | ⟨q0, q, r, hq, hq0, hq2, hx2, hqk⟩
  · have hqm : q ∈ g_he y := by rw [hq]; exact List.mem_cons_self
    have hq4 := hlt q hqm
    obtain ⟨x1, L1, t1, t2, t3, -⟩ := th_tab htab2 hq
    have hx4 : x < 4 := by rw [← hqx]; exact hq4
    rw [hqx] at t3
    obtain ⟨vm', X2, step⟩ := th_c1 X' a (g := F0 m pc lsR restR) rfl hown t1 (hcov x1 (by rw [t1]; exact List.mem_cons_self)) (by rw [t3]; exact th_ct0 x hx4) (by rw [t3]; exact hlink x hx4) hcf' hceT hcv (th_self hN hx4 hcf')
    obtain ⟨t9, a9, b9⟩ := kk ad' T'.heap (locs ++ L) a q (hin q hqm) hqk hRel had (T'.setVm vm') rfl X2
    rw [t2] at step
    exact ⟨t9, st t9 (step t9 a9), b9⟩
  · have hqm0 : q0 ∈ g_he y := by rw [hq]; exact List.mem_cons_self
    have hqm : q ∈ g_he y := by rw [hq]; exact List.mem_cons_of_mem _ List.mem_cons_self
    obtain ⟨x1, L1, t1, t2, t3, t4⟩ := th_tab htab2 hq
    obtain ⟨x2, L2, u1, u2, u3, -⟩ := th_tab t4 rfl
    rw [u1] at t1
    subst hx2
    rw [hq0] at t3
    rw [hq2] at u3
    obtain ⟨c1, c2, n1, n2, n3⟩ := hN.2.2.2.1
    rw [← th_X2] at n1
    rw [← th_X1] at n2
    cases hcf'.symm.trans n1
    obtain ⟨vm', X2, step⟩ := th_c2 X' a (g := F0 m pc lsR restR) rfl hown t1 (hcov x1 (by rw [t1]; exact List.mem_cons_self)) (by rw [t3]; exact th_ct0 1 (by decide)) (hcov x2 (by rw [t1]; exact List.mem_cons_of_mem _ List.mem_cons_self)) (by rw [u3]; exact th_ct0 2 (by decide)) (by rw [t3]; exact hlink 1 (by decide)) (by rw [u3]; exact hlink 2 (by decide)) n2 hcf' hceT hcv n3 (th_self hN (by decide) hcf')
    obtain ⟨t9, a9, b9⟩ := kk ad' T'.heap (locs ++ L) a q (hin q hqm) hqk hRel had (T'.setVm vm') rfl X2
    rw [u2] at step
    exact ⟨t9, st t9 (step t9 a9), b9⟩
end THX
set_option maxHeartbeats 4000000 in
/-- a helper that catches -/
theorem am_metX {G : am_G} {n : Nat} (ih : am_SndT G n) (hC : am_Cert G) (hGn : ∀ k, k < 13 → G.2.2.1 k = (List.range (gN k)).map (fun j => defaultValue (gty k j))) {d a : Nat} {As : List Value} {h h1 : am_H} {x : Nat} {k : Int32} (ha : a ∈ g_hp) (hev : am_ev G n d a (0, lv_args 0 As, []) h = some (.inr x, h1)) (hk : am_hand x (g_hk a) = some k) (hO : am_okH h) (hAs : ∀ w ∈ As, am_ok h.2.1 w) (hwt : am_wt As ≤ gL a) (l : Launch) (hfl : l.flags = pinnedFlags ++ [noTraceFlag]) (D : va_G) (cA : Nat → ClassId) (zt ad : Nat → Nat) (sz : Nat) (hz : ∀ k, ad (am_T0 + k) = zt k) :
    Met l (gY a) (g_wsW a) (am_room d (h1.2.2.1 - h.2.2.1) (h1.2.2.2 - h.2.2.2)) (am_Pc G D cA zt ad h As sz) (am_Qc D cA zt ad h sz (some (.int k)) h1) (h1.2.2.1 - h.2.2.1) (h1.2.2.2 - h.2.2.2) (va_A (am_W ad cA h) sz) := by
  have hm := am_ev_mono hev
  obtain ⟨ma1, ma2, ma3⟩ := id hm
  have ha9 := g_hp_lt ha
  have ok := g_hp_ok a ha
  refine va_MetW (cc := gB a) (maxL := gL a) (ret := gRt a) (hh := g_hh a) ok.2.2.2.2.1 rfl ?_
  intro p e s m args below meth c s₁ B hml hv
  obtain ⟨hargs, hsz, hP, hK, hD0, hN, hT⟩ := hv
  subst hsz
  have X := am_ctxW ha hGn B hml hK hN hT
  have hD := hD0.self (sz := s.heap.size)
  have htab : c.exceptionTable.toList.map (fun h => (h.startPc, h.endPc, h.handlerPc, h.catchType)) = g_hh a := by
    obtain ⟨m9, meth9, c9, hn9, hm9, hc9, -, -, ht9, -⟩ := Cond.codeWith_spec (atoms_spec (ws := g_wsW a) B.pre _ List.mem_cons_self)
    cases B.named.symm.trans hn9
    cases B.method.symm.trans hm9
    have h1 : s₁.code? m = some c := B.here.code
    rw [State.code?_eq, show s₁.vm = s.vm by rw [B.state]; rfl, B.method] at h1
    have h1 : meth.code = some c := h1
    cases h1.symm.trans hc9
    exact ht9
  refine am_entry hargs hwt (fun lsR hl => ?_)
  refine ih d a (0, lv_args 0 As, []) h x h1 hev ha9 l D cA _ zt p e _ s m _ below meth c s.heap [] 0 0 _ lsR ad h.2.2.1 h.2.2.2 hfl X (Nat.le_refl _) (Nat.le_refl _) ⟨hP, hD, va_S.rf, hO, hz⟩ hl ⟨am_args_ok hAs, fun v hv => by cases hv⟩ (Nat.zero_add _) (Nat.zero_add _) (by show h1.2.2.1 ≤ h1.2.2.1 - h.2.2.1 + h.2.2.1; omega) (by show h1.2.2.2 ≤ h1.2.2.2 - h.2.2.2 + h.2.2.2; omega) ?_ ?_
  · intro ad' h2 H' locs' lsR' cells' slots' pc' eh h5 hop hx hR' had hls hc hs
    have hck := (hC.2 a ha9 pc').2.2.2.2.2 hop
    obtain ⟨i, k, hdec, hx4, hg11, -, hstr⟩ := ck_thr_ok hck
    have h13 := ok.2.2.1
    omega
  · intro ad' h2 H' locs' lsR' cells' slots' pc' d' ls' st' As' rest' ed hm3 hop htk hcan hw hev' hR' had hl' hok hc hs
    subst ed
    obtain ⟨-, hka, hall⟩ := (hC.2 a ha9 pc').2.2.2.2.1 hop
    have hck := (hC.2 a ha9 pc').2.2.1 (Or.inr hop)
    obtain ⟨t1, t2⟩ := am_take_ok htk
    have hAs' : ∀ w ∈ As', am_ok h2.2.1 w := fun w hw => hok.2 w (by rw [t1]; exact List.mem_append_left _ (List.mem_reverse.mpr hw))
    have hm2 := am_ev_mono hev'
    obtain ⟨mb1, mb2, mb3⟩ := id hm2
    have hac : (G.1 a pc').2.1 ∈ g_cm := am_ck_cm hck
    have hwt' : am_wt As' ≤ gL (G.1 a pc').2.1 := by
      have h2 := hcan
      unfold am_can at h2
      rw [hC.1, Bool.and_eq_true] at h2
      exact Nat.le_of_ble_eq_true h2.1
    have M := am_metT ih hC hGn hac hka hev' hR'.2.2.2.1 hAs' hwt' l hfl D cA zt ad' H'.size hR'.2.2.2.2
    have hr := am_runT (e := e) (R := (headSpec (g_wsW a) (am_room (d' + 1) (h1.2.2.1 - h.2.2.1) (h1.2.2.2 - h.2.2.2))).room) (cells := cells') (slots := slots') (below := below) (st := st') X hC.1 hck ok.2.2.1 hka t1 t2 hcan hw hR' hl'.1 M (Nat.le_refl _) (Nat.le_refl _) ⟨by show cells' + (h1.2.2.1 - h2.2.2.1) ≤ h1.2.2.1 - h.2.2.1; omega, by show slots' + (h1.2.2.2 - h2.2.2.2) ≤ h1.2.2.2 - h.2.2.2; omega⟩
    refine am_catch X ha htab hall hk hR' hr (fun ad2 H2 locs2 a2 q hq hqk hR2 had2 => ?_)
    have e1 : cells' + (h1.2.2.1 - h2.2.2.1) = h1.2.2.1 - h.2.2.1 := by omega
    have e2 : slots' + (h1.2.2.2 - h2.2.2.2) = h1.2.2.2 - h.2.2.2 := by omega
    rw [e1, e2]
    refine am_tail B.exec B.bytes (by rw [B.returns]; exact ok.2.2.2.2.2.2.2.2.1) B.notSynchronized hq hl' (fun t ht hW => ?_) hR2.2.2.1.2.2
    rw [hqk]
    exact ⟨⟨ad2, rfl, fun i hi => by rw [had2 i (Nat.lt_of_lt_of_le hi hm3), had i hi], hR2.2.2.2.2, by rw [ht]; exact hR2.1, hR2.2.1, hR2.2.2.2.1, fun v hv => by cases hv; exact trivial⟩, hR2.2.2.1.F ht⟩
