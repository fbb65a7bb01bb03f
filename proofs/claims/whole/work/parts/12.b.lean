/-! calls of helpers, and the end of a frame -/
section RUNS
variable {p : Program} {l : Launch} {e : Env} {R : Room} {s : State} {m : MethodId} {args : Array Value} {below : List Frame} {meth : Method} {c : Code} {H : Heap} {locs : List Loc} {cells slots : Nat} {Q : State → Prop}
/-- the call of a static method that catches -/
theorem th_runS {y : MethodName} {bytes cc : ByteArray} {maxL nL mc ms n index : Nat} {ret : Option FieldType} {hh : List (Nat × Nat × Nat × Nat)} {ws : List Cond} {rm : Room} {Pc : Array Value → State → Prop} {Qc : Array Value → State → Outcome → State → Prop} {free : Addr → Prop} {Ts : List Cond} {own : String} {As rest : List Value} {g : JFrame}
    (S : CallFix p m c cc nL s args Ts own) (hM : Met l y ws rm Pc Qc mc ms free) (hrc : rm.cells = mc) (hrs : rm.slots = ms) (hfr : rm.frames + 1 ≤ R.frames) (hlo : 8 + (maxL + 11) + rm.locals ≤ R.locals)
    (hws : ∀ w ∈ ws, ∀ (a' : Array Value) (U : State), s.WarmedH U.vm → w.before a' U = true) (hcw : Cond.codeWith y bytes maxL ret hh ∈ ws) (hcode : (Cond.codeWith y bytes maxL ret hh).before args s = true) (hini : (Cond.initialized y.cls).before args s = true) (hstt : (Cond.static y).before args s = true)
    (hy : y.cls ≠ "java/lang/invoke/MethodHandle" ∧ y.cls ≠ "java/lang/invoke/VarHandle") (hlen : (parseMethodDescriptor y.desc).map (fun d => d.parameters.length) = some n) (hl : (Cond.methodLink own index y).before args s = true) (hp : PreS s H Pc As)
    (hg : g.method = m) (hn : As.length = n) (hsize : g.locals.size = nL) (hstack : g.stack = As.reverse ++ rest) (hW : 2 * g.monitorRoom + (rest.map fun v => v.category).sum ≤ 8) (hdg : decode cc g.pc = .ok (.invokestatic index, 3)) (hf : cells + mc ≤ R.cells ∧ slots + ms ≤ R.slots) :
    va_Run p l e R s m args below meth c H locs cells slots mc ms g rest (Qc As.toArray) free := by
  have hK : Back l R p e below s args y 3 8 (PreOf R mc ms Pc) (PostOf Qc mc ms free) := va_backW (hh := hh) (bytes := bytes) (maxL := maxL) (ret := ret) hM hp.1 hrc hrs hfr hlo hws hcw (fun a' U hW => word_at hW (Or.inl (by first | rfl | simp [Cond.onTables, Cond.keeps, Cond.steady])) hini)
  obtain ⟨hx, hb, hml, ho, -⟩ := S
  intro T hT X
  obtain ⟨mk, methM, cM, hnamed, hmethM, -, -, -, -, -, -, hsigM⟩ := Cond.codeWith_spec hcode
  have hstatic : methM.isStatic = true := Cond.static_spec hnamed hmethM hstt
  obtain ⟨kP, hkP, -⟩ := className_of_methodNamed hnamed
  have hinitP : kP.init = .initialized := Cond.initialized_spec (findClass_of_methodNamed hnamed) hkP hini
  have hlenA : As.length = methM.sig.parameters.length := by
    rw [hsigM] at hlen
    exact hn.trans (Option.some.inj hlen).symm
  obtain ⟨vm₁, X₁, hstep₁⟩ := X.invokestatic hx ho hl hnamed hmethM hstatic hkP hinitP hy (g := g) hg (argsL := As) (rest := rest) hlenA hstack (by rw [hb]; exact hdg)
  obtain ⟨v, B, X', hpost, hsteps⟩ := hK m meth c ⟨T.setVm vm₁, locs, cells, slots⟩ { g with stack := rest } (.invokestatic index) mk As.toArray X₁ hg (hsize.trans hml.symm) (by rw [hb]; exact hdg) hW (X₁.named hnamed) ⟨hf.1, hf.2, hp.2 (T.setVm vm₁) hT X₁.warmed⟩
  obtain ⟨U', l2, c2, s2⟩ := B
  obtain ⟨g', mk', t, L, e1, e2, hq, h1, hL, h2, h3⟩ := hpost
  dsimp only [Pt.U, Pt.locs, Pt.cells, Pt.slots] at X' e1 e2 h1 h2 h3 hsteps
  subst h1; subst h2; subst h3
  exact ⟨v, (T.setVm vm₁).calling g' mk' As.toArray, t, U', L, hT, X', hL, e1, e2, hq, fun target h => hstep₁ _ fun acts => by rw [doInvoke_state]; exact hsteps.trans h⟩
theorem am_args_ok {k : Nat} : ∀ {vs : List Value} {i : Nat}, (∀ w ∈ vs, am_ok k w) → ∀ q ∈ lv_args i vs, am_ok k q.2 := by
  intro vs
  induction vs with
  | nil => intro i _ q hq; cases hq
  | cons v w ihv =>
    intro i hvs q hq
    rcases List.mem_cons.mp hq with e | e
    · rw [e]; exact hvs v List.mem_cons_self
    · exact ihv (fun w hw => hvs w (List.mem_cons_of_mem _ hw)) q e
theorem am_entry {a : Nat} {As : List Value} {ad : Nat → Nat} {args : Array Value} (ha : args = (As.map (am_v ad)).toArray) (hwt : am_wt As ≤ gL a) (kk : ∀ lsR : Array Slot, lv_has lsR (gL a) ((lv_args 0 As).map (am_q ad)) → W p l e R s m args below meth c H locs cells slots Q (F0 m 0 lsR [])) :
    W p l e R s m args below meth c H locs cells slots Q (entryFrame m args (gL a)) := by
  subst ha
  have hl := lv_entry (As.map (am_v ad)) (n := gL a) (by rw [lg_sl_len, am_wt_map2]; exact hwt)
  rw [lg_entry_eq]
  generalize (lg_sl (As.map (am_v ad)) ++ List.replicate (gL a - (lg_sl (As.map (am_v ad))).length) Slot.unset).toArray = lsR at hl ⊢
  rw [am_args_map] at hl
  exact kk lsR hl
/-- the end of a frame -/
theorem am_fin {D : va_G} {cA : Nat → ClassId} {zt ad ad' : Nat → Nat} {h h1 : am_H} {r : Option Value} {a pc' op : Nat} {lsR' : Array Slot} {st' : List Value} (hx : p.tables.exec = Jvm.exec) (hb : c.code = gB a) (hr : meth.sig.returnType = gRt a) (hlocks : meth.locks = false)
    (hR' : am_Rel D cA (va_A (am_W ad cA h) s.heap.size) zt s.heap ad' h1 H locs) (had : ∀ i, i < h.2.1 → ad' i = ad i) (hck : ck_ret a pc' op = true) (hret : am_ret op st' = some r) (hok : ∀ v ∈ st', am_ok h1.2.1 v) :
    W p l e R s m args below meth c H locs cells slots (MQ below (am_Qc D cA zt ad h s.heap.size r h1) args s cells slots (va_A (am_W ad cA h) s.heap.size)) (F0 m pc' lsR' (st'.map (am_v ad'))) := by
  obtain ⟨hP', hD', hS', hO', hz'⟩ := hR'
  have post : ∀ (v : Option Value), (∀ w, r = some w → w ∈ st') → v = r.map (am_v ad') → ∀ t : State, t.heap = H → s.WarmedH t.vm → am_Qc D cA zt ad h s.heap.size r h1 args s (.returned v) t := by
    intro v hin hv t ht hW
    exact ⟨⟨ad', by rw [hv], had, hz', by rw [ht]; exact hP', hD', hO', fun w hw => hok w (hin w hw)⟩, hS'.F ht⟩
  unfold am_ret at hret
  split at hret
  · cases h43 : Nat.beq op 43 with
    | false => rw [h43, cond_false] at hret; cases hret
    | true =>
      rw [h43, cond_true] at hret
      cases hret
      have h43 := Nat.eq_of_beq_eq_true h43
      subst h43
      have hck : (decide (gRt a = none) && decide (decode (gB a) pc' = .ok (.return_, 1))) = true := hck
      simp only [Bool.and_eq_true, decide_eq_true_eq] at hck
      exact W.vret hx hb (by rw [hr]; exact hck.1) (post none (fun w hw => by cases hw) rfl) hS'.2.2 hck.2
  · rename_i v
    cases h40 : Nat.beq op 40 with
    | true =>
      rw [h40, cond_true] at hret
      cases hret
      have h40 := Nat.eq_of_beq_eq_true h40
      subst h40
      have hck : (decide (gRt a = some .int) && decide (decode (gB a) pc' = .ok (.ireturn, 1))) = true := hck
      simp only [Bool.and_eq_true, decide_eq_true_eq] at hck
      exact W.zret hx hb (by rw [hr]; exact hck.1) rfl (post (some (.int v)) (fun w hw => by cases hw; exact List.mem_cons_self) rfl) hS'.2.2 hck.2
    | false =>
      rw [h40, cond_false] at hret
      cases h41 : Nat.beq op 41 with
      | false => rw [h41, cond_false] at hret; cases hret
      | true =>
        rw [h41, cond_true] at hret
        have h41 := Nat.eq_of_beq_eq_true h41
        subst h41
        split at hret
        · rename_i h01
          cases hret
          have hck : (decide (gRt a = some .boolean) && decide (decode (gB a) pc' = .ok (.ireturn, 1))) = true := hck
          simp only [Bool.and_eq_true, decide_eq_true_eq] at hck
          exact W.zret (ty := .boolean) hx hb (by rw [hr]; exact hck.1) (by rcases h01 with q | q <;> (rw [q]; rfl)) (post (some (.int v)) (fun w hw => by cases hw; exact List.mem_cons_self) rfl) hS'.2.2 hck.2
        · cases hret
  · rename_i v
    cases h42 : Nat.beq op 42 with
    | false => rw [h42, cond_false] at hret; cases hret
    | true =>
      rw [h42, cond_true] at hret
      cases hret
      have h42 := Nat.eq_of_beq_eq_true h42
      subst h42
      have hck : (decide (gRt a = some .long) && decide (decode (gB a) pc' = .ok (.lreturn, 1))) = true := hck
      simp only [Bool.and_eq_true, decide_eq_true_eq] at hck
      exact W.lret hx hb (by rw [hr]; exact hck.1) (post (some (.long v)) (fun w hw => by cases hw; exact List.mem_cons_self) rfl) hS'.2.2 hck.2
  · cases h44 : Nat.beq op 44 with
    | false => rw [h44, cond_false] at hret; cases hret
    | true =>
      have h44 := Nat.eq_of_beq_eq_true h44
      subst h44
      exact absurd hck Bool.false_ne_true
  · cases hret
/-- the tail of a handler: the exception is laid aside, a number is answered -/
theorem am_tail {Qc : Array Value → State → Outcome → State → Prop} {free : Addr → Prop} {y : Nat} {q : Nat × Nat × Int32 × Nat × Nat} {lsR : Array Slot} {ll : List (Nat × Value)} {a : Nat} (hx : p.tables.exec = Jvm.exec) (hb : c.code = gB y) (hr : meth.sig.returnType = some .int) (hlocks : meth.locks = false) (hck : ck_tail y q = true) (hl : lv_has lsR (gL y) ll)
    (post : ∀ t : State, t.heap = H → s.WarmedH t.vm → Qc args s (.returned (some (.int q.2.2.1))) t) (hf : ∀ q ∈ locs, free q.base) :
    W p l e R s m args below meth c H locs cells slots (MQ below Qc args s cells slots free) (F0 m q.2.1 lsR [.ref a]) := by
  unfold ck_tail at hck
  simp only [Bool.and_eq_true, Bool.or_eq_true, decide_eq_true_eq] at hck
  obtain ⟨⟨⟨⟨hst, hlt⟩, hi⟩, hret⟩, -⟩ := hck
  have fin : ∀ lsR' : Array Slot, W p l e R s m args below meth c H locs cells slots (MQ below Qc args s cells slots free) (F0 m (q.2.1 + q.2.2.2.2) lsR' []) := fun lsR' => lv_iconst hx hb hi (Int32.ofInt_toInt _) (W.zret hx hb hr rfl post hf hret)
  rcases hst with (⟨⟨d1, d2⟩, d3⟩ | ⟨⟨d1, d2⟩, d3⟩) | ⟨d1, d3⟩
  · rw [d3] at fin
    rw [d2] at hlt
    exact lv_astore_n hx hb d1 rfl hl hlt rfl (fun lsR' _ => fin lsR')
  · rw [d3] at fin
    rw [d2] at hlt
    exact lv_astore_n hx hb d1 rfl hl hlt rfl (fun lsR' _ => fin lsR')
  · rw [d3] at fin
    exact lv_astore hx hb d1 hl hlt rfl (fun lsR' _ => fin lsR')
end RUNS
theorem am_ctxW {G : am_G} {l : Launch} {D : va_G} {cA : Nat → ClassId} {zt ad : Nat → Nat} {h : am_H} {a : Nat} (ha : a ∈ g_hp) (hGn : ∀ k, k < 13 → G.2.2.1 k = (List.range (gN k)).map (fun j => defaultValue (gty k j))) {rm : Room} {p : Program} {e : Env} {s : State} {m : MethodId} {args : Array Value} {below : List Frame} {meth : Method} {c : Code} {s₁ : State} (B : BodyLoose p l (gY a) (headSpec (g_wsW a) rm) (gB a) (gL a) (gRt a) e s m args below meth c s₁) (hml : c.maxLocals = gL a)
    (hK : va_K D gcl (am_tys cA) s) (hN : am_Nst s) (hT : am_Tab G (va_A (am_W ad cA h) s.heap.size) s zt s.heap) : am_Ctx G D cA (va_A (am_W ad cA h) s.heap.size) zt p s m meth c args a := by
  have hts := atoms_spec (ws := g_wsW a) B.pre
  have hown : s.vm.findClass (gY a).cls = some m.cls := findClass_of_methodNamed B.named
  rw [(g_hp_ok a ha).2.2.2.1] at hown
  exact ⟨B.exec, B.bytes, hml, hown, fun w hw => hts w (List.mem_cons_of_mem _ hw), (name_of_methodNamed B.named B.method).1, hK, fun q hq => Or.inr hq, hN, hT, hGn⟩
theorem g_hp_lt {a : Nat} (h : a ∈ g_hp) : a < 289 := (g_hp_ok a h).2.2.2.2.2.2.2.2.2
set_option maxHeartbeats 4000000 in
/-- a helper that answers -/
theorem am_metW {G : am_G} {n : Nat} (ih : am_SndN G n) (hGn : ∀ k, k < 13 → G.2.2.1 k = (List.range (gN k)).map (fun j => defaultValue (gty k j))) {d a : Nat} {As : List Value} {h h1 : am_H} {r : Option Value} (ha : a ∈ g_hp) (hev : am_ev G n d a (0, lv_args 0 As, []) h = some (.inl r, h1)) (hO : am_okH h) (hAs : ∀ w ∈ As, am_ok h.2.1 w) (hwt : am_wt As ≤ gL a) (l : Launch) (hfl : l.flags = pinnedFlags ++ [noTraceFlag]) (D : va_G) (cA : Nat → ClassId) (zt ad : Nat → Nat) (sz : Nat) (hz : ∀ k, ad (am_T0 + k) = zt k) :
    Met l (gY a) (g_wsW a) (am_room d (h1.2.2.1 - h.2.2.1) (h1.2.2.2 - h.2.2.2)) (am_Pc G D cA zt ad h As sz) (am_Qc D cA zt ad h sz r h1) (h1.2.2.1 - h.2.2.1) (h1.2.2.2 - h.2.2.2) (va_A (am_W ad cA h) sz) := by
  have hm := am_ev_mono hev
  obtain ⟨ma1, ma2, ma3⟩ := id hm
  refine va_MetW (cc := gB a) (maxL := gL a) (ret := gRt a) (hh := g_hh a) (g_hp_ok a ha).2.2.2.2.1 rfl ?_
  intro p e s m args below meth c s₁ B hml hv
  obtain ⟨hargs, hsz, hP, hK, hD0, hN, hT⟩ := hv
  subst hsz
  have X := am_ctxW ha hGn B hml hK hN hT
  have hD := hD0.self (sz := s.heap.size)
  refine am_entry hargs hwt (fun lsR hl => ?_)
  refine ih d a (0, lv_args 0 As, []) h r h1 hev (g_hp_lt ha) l D cA _ zt p e _ s m _ below meth c s.heap [] 0 0 _ lsR ad h.2.2.1 h.2.2.2 hfl X (Nat.le_refl _) (Nat.le_refl _) ⟨hP, hD, va_S.rf, hO, hz⟩ hl ⟨am_args_ok hAs, fun v hv => by cases hv⟩ (Nat.zero_add _) (Nat.zero_add _) (by show h1.2.2.1 ≤ h1.2.2.1 - h.2.2.1 + h.2.2.1; omega) (by show h1.2.2.2 ≤ h1.2.2.2 - h.2.2.2 + h.2.2.2; omega) ?_
  intro ad' H' locs' lsR' cells' slots' pc' op st' hR' had hck hret hok hc hs
  have e1 : h1.2.2.1 - h.2.2.1 = cells' := by omega
  have e2 : h1.2.2.2 - h.2.2.2 = slots' := by omega
  rw [e1, e2]
  exact am_fin B.exec B.bytes B.returns B.notSynchronized hR' had hck hret hok
