theorem th_isref {args : Array Value} {s : State} {C n d : String} {A : Nat → Prop} (h : va_Zq C n d A s s.heap) : (Cond.isRef (.static C n d)).before args s = true := by
  have key : ∀ v : Value, v.isRef = true → va_Z C n d v A s s.heap → (Cond.isRef (.static C n d)).before args s = true := by
    intro v hv hz
    obtain ⟨cf, kf, fi, f, a, cell, h1, h2, h3, h4, h5, h6, h7, -⟩ := hz
    have e : (Term.static C n d).eval args s none [] s = some v := by
      simp [Term.eval, State.fieldNamed?, h1, h2, h4, h5, h6, h7]
    cases v <;> simp_all [Cond.before, Cond.holds, Cond.value, Value.isRef]
  rcases h with h | ⟨t, h⟩
  · exact key _ rfl h
  · exact key _ rfl h
abbrev th_sup : String := "java/lang/RuntimeException"
abbrev th_up : List String := ["java/lang/Exception"]
def th_atoms (own : String) (ic : Nat) (X : String) (i1 : Nat) (b1 : ByteArray) : List Cond :=
  Bundle.throwableAtoms ++ Bundle.throwableSAtoms ++ Bundle.passSAtoms X th_sup i1 b1 ++ Bundle.chainSAtoms th_sup th_up ++
  [.methodLink own ic (Bundle.initS X), .instantiable X 6, .castable X X, .selects X Bundle.tFill0 Bundle.tFill0, .selects X Bundle.tFill Bundle.tFill,
   .lays X Bundle.tN "cause" "Ljava/lang/Throwable;", .lays X Bundle.tN "stackTrace" Bundle.steD, .lays X Bundle.tN "suppressedExceptions" Bundle.listD, .lays X Bundle.tN "detailMessage" "Ljava/lang/String;",
   .fieldLink Bundle.tN 198 Bundle.tN "backtrace" "Ljava/lang/Object;", .lays Bundle.tN Bundle.tN "backtrace" "Ljava/lang/Object;", .lays X Bundle.tN "backtrace" "Ljava/lang/Object;"]
set_option maxHeartbeats 2000000 in
/-- a new exception is made by its constructor with a text, and thrown out of the method -/
theorem th_ctor {p : Program} {l : Launch} {e : Env} {R : Room} {s : State} {m₀ : MethodId} {args : Array Value} {below : List Frame} {meth : Method} {c : Code} {W : State} {locs : List Loc} {cells slots : Nat} (X : Stand p l e R s m₀ args below meth c W locs cells slots) (hexec : p.tables.exec = Jvm.exec) (htr : e.platform.stackTraces = false) {own cls : String} {i1 ic : Nat} {b1 : ByteArray}
    (hown : s.vm.findClass own = some m₀.cls) (hcls : Bundle.fit cls = true) (d0 : decode b1 0 = .ok (.aload_n 0, 1)) (d1 : decode b1 1 = .ok (.aload_n 1, 1)) (d2 : decode b1 2 = .ok (.invokespecial i1, 3)) (d5 : decode b1 5 = .ok (.return_, 1))
    (h : ∀ a ∈ th_atoms own ic cls i1 b1, a.before args s = true) (hz1 : (Cond.isRef (.static Bundle.tN "UNASSIGNED_STACK" Bundle.steD)).before args s = true) (hz2 : (Cond.isRef (.static Bundle.tN "SUPPRESSED_SENTINEL" Bundle.listD)).before args s = true)
    (hlocs : ∀ x ∈ locs, ∀ cell, s.heap[x.base]? = some cell → cell.vm.isStatics = false)
    {a : Addr} {cX : ClassId} {kX : Class} (hfoundX : s.vm.findClass cls = some cX) (hkX : s.vm.classes[cX]? = some kX) (hcell : W.heap[a]? = some (freshCell cX kX)) (hnew : s.heap.size ≤ a)
    {msg : Value} (hmsg : msg.isRef = true)
    {g : JFrame} (hg : g.method = m₀) (hsize : g.locals.size = c.maxLocals) (hlocked : g.locked = none) (hentered : g.entered = []) {rest : List Value} (hstack : g.stack = msg :: .ref a :: .ref a :: rest)
    (hd6 : decode c.code g.pc = .ok (.invokespecial ic, 3)) (hd9 : decode c.code (g.pc + 3) = .ok (.athrow, 1)) (hout : ∀ x ∈ c.exceptionTable.toList, covers x (g.pc + 3) = false)
    (hRframes : 5 < R.frames) (hRlocals : 2 * g.monitorRoom + ((Value.ref a :: rest).map fun v => v.category).sum + 81 ≤ R.locals) (hlocks : meth.locks = false) :
    ∃ U : State, Steps p.tables e below (W.setTop g) U ∧ U.status = .running ∧ Ended U below (.threw a) ∧ s.WarmedH U.vm ∧ s.sameButNew ({ U with vm := s.vm } : State) locs cells slots ∧
      (∀ q : Nat, q ≠ a → U.heap[q]? = W.heap[q]?) ∧ U.heap.size = W.heap.size ∧ ∃ ce : Cell, U.heap[a]? = some ce ∧ ce.cls = cX ∧ ce.vm = .none := by
  have howns : e.platform.frameOwnsMonitors = true := by rw [X.admits.platform]
  have hfin : e.platform.finalization = false := by rw [X.admits.platform]
  have hpl : e.platform.magicAccessors = ({} : Platform).magicAccessors := by rw [X.admits.platform]
  have a' : ∀ x, x ∈ th_atoms own ic cls i1 b1 → x.holds args s none s [] = true := fun x hx => h x hx
  obtain ⟨T, Z0, L, -, Y⟩ := ThrowableC.of_atoms (args := args) howns hfin hpl (fun x hx => h x (by simp [th_atoms, hx]))
  obtain ⟨Z, M, LZ, LM, hnZ⟩ := Init0T.ofS_atoms (args := args) hpl L Y (fun x hx => h x (by simp [th_atoms, hx]))
  obtain ⟨P2, Ps, hlen, L2, hL, hP2m, hsup2, hpass2⟩ := Bundle.chainS (args := args) hpl hnZ th_up th_sup (by decide +kernel) (by decide +kernel) (fun x hx => h x (by simp [th_atoms, hx]))
  obtain ⟨P1, L1, hP1m, hP1s⟩ := PassC.ofS_atoms (args := args) hpl (X := cls) (Y := th_sup) (Bundle.fit_spec hcls).1 (by decide) d0 d1 d2 d5 (fun x hx => h x (by simp [th_atoms, hx]))
  have hlink1 : P1.sup = P2.m := Option.some.inj (hP1s.symm.trans hP2m)
  have hfound : s.vm.findClass cls = some P1.m.cls := findClass_of_methodNamed hP1m
  cases Option.some.inj (hfoundX.symm.trans hfound)
  obtain ⟨c1, kX', hc1, hk, hord, -, -, hn6⟩ := Cond.instantiable_spec (a' (.instantiable cls 6) (by simp [th_atoms]))
  cases Option.some.inj (hc1.symm.trans hfound)
  cases Option.some.inj (hkX.symm.trans hk)
  have hsel : ∀ (t : MethodName) (mm : MethodId), s.methodNamed? t = some mm → (t.cls ≠ "java/lang/invoke/MethodHandle" ∧ t.cls ≠ "java/lang/invoke/VarHandle") → (Cond.selects cls t t).before args s = true → selectMethod e.platform s.vm P1.m.cls mm = .method mm := by
    intro t mm h1 h2 h3
    obtain ⟨c2, r2, m2, q1, q2, q3, q4, -⟩ := Cond.selects_spec h3
    cases Option.some.inj (q1.symm.trans hfound)
    cases Option.some.inj (q2.symm.trans (State.methodFound?_of_named h1 h2))
    cases Option.some.inj (q3.symm.trans h1)
    rw [Launch.admits_selectMethod X.admits]; exact q4
  have hsel0 := hsel _ _ Y.fill0 (by decide) (h (.selects cls Bundle.tFill0 Bundle.tFill0) (by simp [th_atoms]))
  have hselF := hsel _ _ Y.fill (by decide) (h (.selects cls Bundle.tFill Bundle.tFill) (by simp [th_atoms]))
  obtain ⟨cellS0, hcS0, hiss⟩ := Y.statics
  obtain ⟨u0, hu0⟩ := Cond.staticRefV Y.unassigned L.unassignedStatic L.statics hcS0 hiss hz1
  obtain ⟨sen, hsen⟩ := Cond.staticRefV Y.sentinel L.sentinelStatic L.statics hcS0 hiss hz2
  obtain ⟨ci198, i198, fB, hk198, hg198, ha198, hsB, -, hnB, htB, hffB⟩ := Cond.ownField (t := .object "java/lang/Object") Y.found L.cls (by decide +kernel) (a' (.fieldLink Bundle.tN 198 Bundle.tN "backtrace" "Ljava/lang/Object;") (by simp [th_atoms])) (a' (.lays Bundle.tN Bundle.tN "backtrace" "Ljava/lang/Object;") (by simp [th_atoms])) e.platform hpl
  obtain ⟨cellS, hcS', heS, -, hkeep⟩ := X.same.2.2.2.2.2 T.aS cellS0 hcS0
  have hcellS : W.heap[T.aS]? = some cellS := hcS'
  have hout' : ∀ i, (⟨T.aS, i⟩ : Loc) ∉ locs := fun i hmem => by
    have := hlocs _ hmem cellS0 hcS0
    rw [hiss] at this; cases this
  have hknownS : cellS.vm ≠ .unknown := by
    rw [heS]; intro hu
    rw [show cellS0.vm = .unknown from hu] at hiss
    cases hiss
  have hneS : T.aS ≠ a := Nat.ne_of_lt (Nat.lt_of_lt_of_le (Array.getElem?_eq_some_iff.mp hcS0).1 hnew)
  obtain ⟨iM, hffM⟩ := Y.msg
  obtain ⟨tyC, dC, hdC, hdnC⟩ := Cond.laysAt hfound hk Y.cause (a' (.lays cls Bundle.tN "cause" "Ljava/lang/Throwable;") (by simp [th_atoms]))
  obtain ⟨tyS, dS, hdS, hdnS⟩ := Cond.laysAt hfound hk Y.stack (a' (.lays cls Bundle.tN "stackTrace" Bundle.steD) (by simp [th_atoms]))
  obtain ⟨tyP, dP, hdP, hdnP⟩ := Cond.laysAt hfound hk Y.supp (a' (.lays cls Bundle.tN "suppressedExceptions" Bundle.listD) (by simp [th_atoms]))
  obtain ⟨tyM, dM, hdM, hdnM⟩ := Cond.laysAt hfound hk hffM (a' (.lays cls Bundle.tN "detailMessage" "Ljava/lang/String;") (by simp [th_atoms]))
  obtain ⟨tyB, dB, hdB, hdnB⟩ := Cond.laysAt hfound hk hffB (a' (.lays cls Bundle.tN "backtrace" "Ljava/lang/Object;") (by simp [th_atoms]))
  have bC := Cond.laysApart hdB hdC hdnB hdnC (by rw [hnB, Y.causeName]; decide)
  have bS := Cond.laysApart hdB hdS hdnB hdnS (by rw [hnB, Y.stackName]; decide)
  have bP := Cond.laysApart hdB hdP hdnB hdnP (by rw [hnB, Y.suppName]; decide)
  have hskip : SkipFacts T e.platform s (fun u => u) u0 ((preparedCellV T.toThrowableT (freshCell P1.m.cls kX) a u0 sen).withEntry W.cur) :=
    ⟨{ ci198 := ci198, i198 := i198, fBack := fB }, ⟨hk198, hg198, ha198, hsB⟩, by
      have := fresh_default (c := P1.m.cls) tyB
      rw [htB] at this
      simpa [preparedCellV, Cell.setSlot, Cell.withEntry, Array.getElem?_setIfInBounds, bC, bS, bP, bC.symm, bS.symm, bP.symm, defaultValue] using this, fun _ _ => rfl⟩
  obtain ⟨tm, methC, cdC, kC, vm₁, hnC, -, -, -, -, -, -, -, hW₁, st1⟩ := Steps.initColdS (tb := p.tables) (e := e) (below := below) (s := s) (U := W) X.here hexec X.warmed hpl hown (t := Bundle.initS cls) rfl rfl (Bundle.fit_spec hcls).2
    (a' (.methodLink own ic (Bundle.initS cls)) (by simp [th_atoms])) (h (.instanceMethod (Bundle.initS cls)) (by simp [th_atoms, Bundle.passSAtoms])) (bytes := b1) (maxL := 2) (h (.code (Bundle.initS cls) b1 2 none) (by simp [th_atoms, Bundle.passSAtoms]))
    (f := g) hg (a := a) (msg := msg) (rest := .ref a :: rest) hstack hd6
  cases Option.some.inj (hnC.symm.trans hP1m)
  have X₁ := X.noted hW₁
  obtain ⟨vm₂, X₂, st2⟩ := X₁.ctorMessageOffV hexec (g := { g with stack := .ref a :: rest }) hg hsize T L Z LZ M LM (P1 :: P2 :: Ps)
    (fun P hP => by
      rcases List.mem_cons.mp hP with rfl | hP
      · exact L1
      rcases List.mem_cons.mp hP with rfl | hP
      · exact L2
      · exact hL P hP) ⟨hlink1, hsup2, hpass2⟩ (u0 := u0) (sen := sen) (self := a) hmsg (cell := freshCell P1.m.cls kX) (cellS := cellS)
    hcell (fun _ => by simp) (by simp) rfl rfl hsel0 hselF hcellS hneS hknownS (by rw [hkeep _ (hout' _)]; exact hu0) (by rw [hkeep _ (hout' _)]; exact hsen)
    (Takes.of_laid hk hord tyC (by rw [Y.causeType]; rfl)) (Takes.of_laid hk hord tyS (by rw [Y.stackType]; exact fits_refV_array _ u0)) (Takes.of_laid hk hord tyP (by rw [Y.suppType]; exact fits_refV_object _ sen))
    (Takes.of_laid hk hord tyM (by rw [Y.msgType]; exact fits_refV_object _ ⟨msg, hmsg⟩)) Y.objLocals hskip htr [] hd6
    (by simp only [List.length_cons, hlen]; exact hRframes) (by simp only [List.length_cons, hlen]; exact hRlocals)
  obtain ⟨hwalk, hrun, hended, hWU, hsame⟩ := X₂.athrowLeaves hexec (g := { g with stack := .ref a :: rest, pc := g.pc + 3 }) hg hlocked hentered hout (a := a) (rest := rest) rfl hd9
  have hlt : a < ((W.setVm vm₁).setVm vm₂).heap.size := (Array.getElem?_eq_some_iff.mp hcell).1
  have hU := heapAt_setCell_self (s := (W.setVm vm₁).setVm vm₂) (plainBareV T.toThrowableT (freshCell P1.m.cls kX) a u0 sen msg) hlt
  refine ⟨_, st1 _ (fun acts => ?_), hrun, hended, hWU, hsame.weaken (fun y hy hlt' => ?_) (Nat.le_refl _) (Nat.le_refl _), fun q hq => ?_, ?_, _, hU, rfl, rfl⟩
  · rw [doInvoke_state]
    exact st2 _ hwalk
  · rcases List.mem_append.mp hy with h1 | h1
    · exact h1
    · exfalso
      have hb : y.base = a := by
        simp only [List.mem_cons, List.not_mem_nil, or_false] at h1
        rcases h1 with rfl | rfl | rfl | rfl | rfl <;> rfl
      rw [hb] at hlt'
      exact Nat.not_lt.mpr hnew hlt'
  · exact heapAt_setCell_ne (s := (W.setVm vm₁).setVm vm₂) _ (Ne.symm hq)
  · show (((W.setVm vm₁).setVm vm₂).heap.setIfInBounds a _).size = _
    simp
section TH
variable {p : Program} {l : Launch} {e : Env} {R : Room} {s : State} {m : MethodId} {args : Array Value} {below : List Frame} {meth : Method} {c : Code} {H : Heap} {locs : List Loc} {cells slots : Nat} {Q : State → Prop}
theorem th_ldc {T : State} (X : Stand p l e R s m args below meth c T locs cells slots) (hexec : p.tables.exec = Jvm.exec) {own text : String} {index n : Nat} (hown : s.vm.findClass own = some m.cls)
    (hconst : (Cond.stringRef own index text).before args s = true) {g : JFrame} (hg : g.method = m) (hdg : (decode c.code g.pc = .ok (.ldc index, 2) ∧ n = 2) ∨ (decode c.code g.pc = .ok (.ldc_w index, 3) ∧ n = 3)) :
    ∃ a : Addr, ∀ target, Steps p.tables e below (T.setTop { g with pc := g.pc + n, stack := .ref a :: g.stack }) target → Steps p.tables e below (T.setTop g) target := by
  obtain ⟨k, cf, i, a, hk, hcf, hcp, -, hr, hev⟩ := Cond.stringRef_spec hown hconst
  refine ⟨a, fun target hrest => ?_⟩
  obtain ⟨k', hk', he⟩ := X.warmed.alike.2.2 _ _ hk
  have hr' : k'.resolved[index]? = some (some (.string a)) := by
    rcases X.warmed.entry hk hk' index with h | ⟨h, -⟩
    · rw [h]; exact hr
    · rw [hr] at h; cases h
  subst hg
  rcases hdg with ⟨hdg, rfl⟩ | ⟨hdg, rfl⟩
  · jvm_step X.here [hexec, hdg, ldc.wp_string (e := e) (s := T) (f := g) X.here.top hk' (by rw [he]; exact hcf) hcp hr']
    exact hrest
  · jvm_step X.here [hexec, hdg, ldc_w.wp_string (e := e) (s := T) (f := g) X.here.top hk' (by rw [he]; exact hcf) hcp hr']
    exact hrest
def MQT (below : List Frame) (Qc : Array Value → State → Outcome → State → Prop) (a : Array Value) (s : State) (mc ms : Nat) (free : Addr → Prop) : State → Prop := fun t =>
  ∃ o, t.status = .running ∧ Ended t below o ∧ Qc a s o t ∧ ∃ L, FramedT s o t L mc ms ∧ ∀ q ∈ L, free q.base
/-- the instructions that make an exception of class X with a text and throw it -/
def th_dec (cc : ByteArray) (pc k is n ic : Nat) : Prop := decode cc pc = .ok (.new k, 3) ∧ decode cc (pc + 3) = .ok (.dup, 1) ∧ ((decode cc (pc + 4) = .ok (.ldc is, 2) ∧ n = 2) ∨ (decode cc (pc + 4) = .ok (.ldc_w is, 3) ∧ n = 3)) ∧ decode cc (pc + 4 + n) = .ok (.invokespecial ic, 3) ∧ decode cc (pc + 4 + n + 3) = .ok (.athrow, 1)
theorem th_W {cc : ByteArray} {Qc : Array Value → State → Outcome → State → Prop} {free : Addr → Prop} (hexec : p.tables.exec = Jvm.exec) (hb : c.code = cc) (hflags : l.flags = pinnedFlags ++ [noTraceFlag]) {own cls text : String} {i1 ic k is n pc : Nat} {b1 : ByteArray} {ls : Array Slot}
    (hown : s.vm.findClass own = some m.cls) (hcls : Bundle.fit cls = true) (d0 : decode b1 0 = .ok (.aload_n 0, 1)) (d1 : decode b1 1 = .ok (.aload_n 1, 1)) (d2 : decode b1 2 = .ok (.invokespecial i1, 3)) (d5 : decode b1 5 = .ok (.return_, 1))
    (h : ∀ a ∈ th_atoms own ic cls i1 b1, a.before args s = true) (hlink : (Cond.classLink own k cls).before args s = true) (hini : (Cond.initialized cls).before args s = true) (hstr : (Cond.stringRef own is text).before args s = true)
    {A : Nat → Prop} (hz1 : va_Zq "java/lang/Throwable" "UNASSIGNED_STACK" "[Ljava/lang/StackTraceElement;" A s s.heap) (hz2 : va_Zq "java/lang/Throwable" "SUPPRESSED_SENTINEL" "Ljava/util/List;" A s s.heap)
    (hlocs : ∀ x ∈ locs, ∀ cell, s.heap[x.base]? = some cell → cell.vm.isStatics = false) (hsz : s.heap.size ≤ H.size) (hf : ∀ q ∈ locs, free q.base)
    (hdec : th_dec cc pc k is n ic) (hls : ls.size = c.maxLocals) (hno : c.exceptionTable.isEmpty = true) (hRc : cells + 1 ≤ R.cells) (hRs : slots + 6 ≤ R.slots) (hRf : 5 < R.frames) (hRl : 83 ≤ R.locals) (hlocks : meth.locks = false)
    (hq : ∀ (cX : ClassId) (ce : Cell) (t : State), s.vm.findClass cls = some cX → s.WarmedH t.vm → (∀ q : Nat, q < H.size → t.heap[q]? = H[q]?) → t.heap.size = H.size + 1 → t.heap[H.size]? = some ce → ce.cls = cX → ce.vm = .none → Qc args s (.threw H.size) t) :
    W p l e R s m args below meth c H locs cells slots (MQT below Qc args s (cells + 1) (slots + 6) free) (F0 m pc ls []) := by
  intro T hT X
  obtain ⟨e1, e2, e3, e4, e5⟩ := hdec
  have htr : e.platform.stackTraces = false := Launch.traces_off hflags X.admits
  obtain ⟨vm₁, cX, kX, hfX, hkX, -, -, X₁, st1⟩ := X.newCold hexec (own := own) (C := cls) (index := k) (n := 6) hown hlink (h (.instantiable cls 6) (by simp [th_atoms])) hini (g := F0 m pc ls []) rfl (by rw [hb]; exact e1) hRc hRs
  generalize hT1 : (T.setVm vm₁).pushCell { cls := cX, slots := kX.instanceTypes.map defaultValue, vm := .none } = T1 at X₁ st1
  have hcellA : T1.heap[T.heap.size]? = some (freshCell cX kX) := by rw [← hT1]; exact State.heap_pushCell_size _ _
  obtain ⟨sa, st3⟩ := th_ldc X₁ hexec hown hstr (g := F0 m (pc + 4) ls [.ref T.heap.size, .ref T.heap.size]) rfl (n := n) (by rw [hb]; exact e3)
  obtain ⟨U, hsteps, hrun, hend, hW, hsame, hkept, hsize, ce, hce, hcc, hcv⟩ := th_ctor X₁ hexec htr hown hcls d0 d1 d2 d5 h (th_isref hz1) (th_isref hz2) hlocs hfX hkX hcellA (by rw [hT]; exact hsz) (msg := .ref sa) rfl
    (g := F0 m (pc + 4 + n) ls [.ref sa, .ref T.heap.size, .ref T.heap.size]) rfl hls rfl rfl (rest := []) rfl (by rw [hb]; exact e4) (by rw [hb]; exact e5) (covers_of_empty hno _) hRf (by show 2 * 0 + (1 + 0) + 81 ≤ R.locals; omega) hlocks
  refine ⟨U, ?_, .threw T.heap.size, hrun, hend, ?_, locs, ⟨⟨_, rfl⟩, hW, hsame⟩, hf⟩
  · refine st1 _ ?_
    show Steps p.tables e below (T1.setTop (F0 m (pc + 3) ls [.ref T.heap.size])) _
    jvm_step X₁.here [X₁.here.top, hexec, hb, e2, Value.category]
    exact st3 _ hsteps
  · have hs1 : T1.heap.size = T.heap.size + 1 := by rw [← hT1]; simp [State.pushCell]
    have hk1 : ∀ q : Nat, q < T.heap.size → T1.heap[q]? = T.heap[q]? := by
      intro q hq
      rw [← hT1]
      show (T.heap.push _)[q]? = _
      rw [Array.getElem?_push, if_neg (by omega)]
    rw [hT] at hkept hce hs1 hk1 ⊢
    exact hq cX ce U hfX hW (fun q hq => by rw [hkept q (by omega)]; exact hk1 q hq) (by rw [hsize, hs1]) hce hcc hcv
end TH
/-- a method that throws -/
def MetT (l : Launch) (y : MethodName) (ws : List Cond) (rm : Room) (Pc : Array Value → State → Prop) (Qc : Array Value → State → Outcome → State → Prop) (mc ms : Nat) (free : Addr → Prop) : Prop :=
  MetFree l y (headSpec ws rm) Pc (fun _ _ _ _ _ => True) (fun a st o t => Qc a st o t ∧ ∃ L, FramedT st o t L mc ms ∧ ∀ q ∈ L, free q.base)
theorem th_MetF {l : Launch} {y : MethodName} {ws ws' : List Cond} {rm : Room} {Pc : Array Value → State → Prop} {Qc : Array Value → State → Outcome → State → Prop} {mc ms : Nat} {free : Addr → Prop} {cc : ByteArray} {maxL : Nat} {ret : Option FieldType}
    (hy : plainFor y = true) (hw : ws = Cond.code y cc maxL ret :: ws')
    (body : ∀ p e s m args below meth c s₁, BodyLoose p l y (headSpec ws rm) cc maxL ret e s m args below meth c s₁ → c.maxLocals = maxL → Pc args s →
      W p l e (headSpec ws rm).room s m args below meth c s.heap [] 0 0 (MQT below Qc args s mc ms free) (entryFrame m args maxL)) : MetT l y ws rm Pc Qc mc ms free := by
  refine MetFree.of_bodySF (code := cc) (maxLocals := maxL) (ret := ret) hy ?_ ?_
  · intro args s m h hn
    obtain ⟨meth, c, h1, h2, h3, h4, h5, h6, -, -⟩ := Cond.code_spec hn (atoms_spec (ws := ws) h _ (by rw [hw]; exact List.mem_cons_self))
    exact ⟨meth, c, h1, h2, h3, h4, h5, h6⟩
  · intro p e s m args below meth c s₁ B hml hP _
    have hh0 : s₁.heap = s.heap := by rw [B.state]; rfl
    obtain ⟨t, a1, o, b1, b2, b3⟩ := body p e s m args below meth c s₁ B hml hP s₁ hh0 (Stand.of_body B)
    exact ⟨t, o, a1, b1, b2, ⟨b3.1, b3.2⟩⟩
section THC
variable {p : Program} {l : Launch} {e : Env} {R : Room} {s : State} {m : MethodId} {args : Array Value} {below : List Frame} {meth : Method} {c : Code} {H : Heap} {locs : List Loc} {cells slots : Nat} {Q : State → Prop}
/-- the call of an instance method that throws -/
theorem th_call {y : MethodName} {bytes cc : ByteArray} {maxL nL mc ms n index : Nat} {ret : Option FieldType} {ws : List Cond} {rm : Room} {Pc : Array Value → State → Prop} {Qc : Array Value → State → Outcome → State → Prop} {free : Addr → Prop} {Ts : List Cond} {own C : String} {b : Addr} {As rest : List Value} {g : JFrame}
    (S : CallFix p m c cc nL s args Ts own) (hM : MetT l y ws rm Pc Qc mc ms free) (cw : CallW R s args own C index y bytes maxL ret ws rm mc ms n) (hp : PreV s H C b Pc As)
    (hg : g.method = m) (hn : As.length = n) (hsize : g.locals.size = nL) (hstack : g.stack = As.reverse ++ .ref b :: rest) (hW : 2 * g.monitorRoom + (rest.map fun v => v.category).sum ≤ 8) (hdg : decode cc g.pc = .ok (.invokevirtual index, 3)) (hf : cells + mc ≤ R.cells ∧ slots + ms ≤ R.slots) :
    ∀ T : State, T.heap = H → Stand p l e R s m args below meth c T locs cells slots → ∃ (a : Addr) (st₀ t T' : State) (L : List Loc), st₀.heap = H ∧ Stand p l e R s m args below meth c T' (locs ++ L) (cells + mc) (slots + ms) ∧ (∀ q ∈ L, free q.base) ∧ T'.heap = t.heap ∧ T'.vm = t.vm ∧
      Qc (Value.ref b :: As).toArray st₀ (.threw a) t ∧ ∀ target, Steps p.tables e below ((T'.setTop { g with stack := rest }).pushFrame (.throwing a)) target → Steps p.tables e below (T.setTop g) target := by
  intro T hT X
  obtain ⟨⟨hrc, hrs, hfr, hlo, hws, hcw, hcode, hini, hy, hlen, hl⟩, hinst, hsel⟩ := cw
  obtain ⟨hx, hb, hml, ho, -⟩ := S
  obtain ⟨hbl, ⟨cellB, hcB, hoB, hclB⟩, hPc⟩ := hp
  obtain ⟨mk, methM, hnamed, hmethM, hstM, habM⟩ := Cond.instanceMethod_spec hinst
  obtain ⟨methM', cM, hmethM', hcodeM', -, hlocalsM, -, -, -, hsigM⟩ := Cond.code_spec hnamed hcode
  cases hmethM.symm.trans hmethM'
  obtain ⟨c2, r2, m2, q1, q2, q3, q4, kP, hkP, hkPi⟩ := Cond.selects_spec hsel
  cases hclB.symm.trans q1
  cases (State.methodFound?_of_named hnamed hy).symm.trans q2
  cases hnamed.symm.trans q3
  have hselP : selectMethod e.platform s.vm cellB.cls mk = .method mk := by rw [Launch.admits_selectMethod X.admits]; exact q4
  have hinitP : kP.init = .initialized := Cond.initialized_spec (findClass_of_methodNamed hnamed) hkP hini
  have hlenA : ∀ sig, parseMethodDescriptor y.desc = some sig → As.length = sig.parameters.length := fun sig h => hn.trans (hlen sig h)
  obtain ⟨vm₁, X₁, hstep₁⟩ := X.invokevirtual hx ho hl hnamed hmethM hstM hkP hkPi hy (a := b) (cell := cellB) (by rw [hT]; exact hcB)
    (fun z h => by rw [h] at hoB; cases hoB) hselP hmethM habM hkP hkPi (g := g) hg (argsL := As) (rest := rest) (hlenA _ hsigM) hstack (by rw [hb]; exact hdg)
  generalize hU : T.setVm vm₁ = U at X₁ hstep₁
  have hUh : U.heap = H := by rw [← hU]; exact hT
  have hnU : U.methodNamed? y = some mk := X₁.named hnamed
  have h : At U ({ g with stack := rest } : JFrame).method c below := by show At U g.method c below; rw [hg]; exact X₁.here
  obtain ⟨kY, hkY, -⟩ := className_of_methodNamed hnU
  have hinitY : kY.init = .initialized := Cond.initialized_spec (findClass_of_methodNamed hnU) hkY (word_at X₁.warmed (Or.inl (by first | rfl | simp [Cond.onTables, Cond.keeps, Cond.steady])) (a' := args) hini)
  have hmU : U.vm.method? mk = some methM := by rw [X₁.warmed.alike.method?]; exact hmethM
  have hpre1 : (headSpec ws rm).pre.before (Value.ref b :: As).toArray U = true := atoms_intro fun w hw => hws w hw _ _ X₁.warmed
  have happ : (headSpec ws rm).appliesLoose y e.platform (U.calling { g with stack := rest } mk (Value.ref b :: As).toArray) = true :=
    Spec.appliesLoose_calling (g := { g with stack := rest }) h (by rw [hb]; exact hdg) hnU hkY hinitY
      (X₁.room_calling (g := { g with stack := rest }) (R' := (headSpec ws rm).room) (hsize.trans hml.symm) hmU hcodeM' hfr (by rw [hlocalsM]; show 2 * g.monitorRoom + (rest.map fun v => v.category).sum + (maxL + 11) + rm.locals ≤ R.locals; omega) (by rw [show (headSpec ws rm).room.cells = mc from hrc]; exact hf.1) (by rw [show (headSpec ws rm).room.slots = ms from hrs]; exact hf.2)) hpre1
  obtain ⟨mid, hmid⟩ := h.above
  have hfr2 : (U.setTop { g with stack := rest }).frames = (.java { g with stack := rest } :: mid) ++ below := by rw [State.frames_setTop' _ h.top, hmid]; rfl
  obtain ⟨o, s₂, hsteps, -, hend, hq⟩ := Steps.callFree hM p X₁.admits X₁.cas X₁.clock (acts := []) hfr2 happ (hbl _ _ { g with stack := rest } mk (hPc U hUh X₁.warmed)) trivial
  rw [State.frames_setTop' _ h.top] at hend
  obtain ⟨hq1, L, hfe, hL⟩ := hq
  have hq1 : Qc (Value.ref b :: As).toArray (U.calling { g with stack := rest } mk (Value.ref b :: As).toArray) o s₂ := hq1
  have hfe : FramedT (U.calling { g with stack := rest } mk (Value.ref b :: As).toArray) o s₂ L mc ms := hfe
  obtain ⟨⟨a, rfl⟩, hW₂, e2, r2, r3, r4, r5, r6⟩ := hfe
  have e3 : s₂ = ({ (U.calling { g with stack := rest } mk (Value.ref b :: As).toArray).setFrames s₂.frames with heap := s₂.heap, slotsUsed := s₂.slotsUsed } : State).setVm s₂.vm := by
    have : s₂ = ({ s₂ with vm := (U.calling { g with stack := rest } mk (Value.ref b :: As).toArray).vm } : State).setVm s₂.vm := rfl
    rw [e2] at this
    exact this
  have hf₂ : s₂.frames = .throwing a :: .java { g with stack := rest } :: U.frames.tail := hend
  have hW' : U.WarmedH s₂.vm := hW₂
  obtain ⟨g₀, hg0⟩ := Option.isSome_iff_exists.mp h.top
  obtain ⟨r, hr⟩ := State.topJava?_eq_some.mp hg0
  have hs₂ : s₂ = ((({ U with heap := s₂.heap, slotsUsed := s₂.slotsUsed } : State).setVm s₂.vm).setTop { g with stack := rest }).pushFrame (.throwing a) := by
    have hr' : (({ U with heap := s₂.heap, slotsUsed := s₂.slotsUsed } : State).setVm s₂.vm).frames = .java g₀ :: r := hr
    refine e3.trans ?_
    rw [hf₂, State.calling_eq h.top, State.setFrames_setFrames, State.pushFrame, State.frames_setTop _ hr', State.setTop_of_frames _ hr', State.setFrames_setFrames, hr]
    rfl
  have hsame : U.sameButNew ({ U with heap := s₂.heap, slotsUsed := s₂.slotsUsed } : State) L mc ms := by
    refine ⟨?_, r2, r3, r4, r5, r6⟩
    obtain ⟨t, ht, -⟩ := State.frames_cons hr
    show ({ U with heap := s₂.heap, slotsUsed := s₂.slotsUsed } : State) = { U.setFrames U.frames with heap := s₂.heap, slotsUsed := s₂.slotsUsed }
    rw [State.setFrames_self ht]
  refine ⟨a, U.calling { g with stack := rest } mk (Value.ref b :: As).toArray, s₂, (({ U with heap := s₂.heap, slotsUsed := s₂.slotsUsed } : State).setVm s₂.vm), L, hUh,
    ⟨X₁.admits, X₁.cas, X₁.clock, X₁.frames, X₁.room, X₁.hears, X₁.method, X₁.code, (X₁.here.setHeapUsed s₂.heap s₂.slotsUsed).setVm hW'.alike, X₁.tail, State.WarmedH.trans X₁.warmed hW', X₁.limits, X₁.bytes, X₁.same.trans (hsame.setVm s.vm)⟩, hL, rfl, rfl, hq1, fun target hrest => ?_⟩
  refine hstep₁ _ fun acts => ?_
  rw [doInvoke_state]
  refine hsteps.trans ?_
  rw [hs₂]
  exact hrest
end THC
section THH
/-- what the search for a handler gives, and the tables that it leaves -/
def th_FT (e : Env) (s : State) (f : JFrame) (a : Addr) (h : Handler) (vm' : Vm) : Prop :=
  ∀ (Q : Handler → Pre) (E : CtlPost) (d : Bool) (acts : List Action), wp (findHandler f a) Q E e d acts s ↔ Q h d acts (s.setVm vm')
/-- an entry that covers the place, its class resolved or not -/
theorem th_go {Q : Handler → Pre} {E : CtlPost} {e : Env} {d : Bool} {acts : List Action} {s : State} {f : JFrame} {a : Addr} {x : ExceptionTableEntry} {t : List ExceptionTableEntry} {c : ClassId} {cell : Cell} (hx : covers x f.pc = true) (h0 : x.catchType ≠ 0)
    (hl : s.vm.ClassLinks e.platform f.method.cls x.catchType c) (hcell : s.heap[a]? = some cell) (hobj : ∀ k, cell.vm ≠ .statics k) (hk : ∃ k, s.vm.classes[cell.cls]? = some k) (hc : ∃ k, s.vm.classes[c]? = some k) :
    (s.vm.assignable cell.cls c = true → (wp (findHandler.go f a (x :: t)) Q E e d acts s ↔ Q (.found x.handlerPc) d acts (s.setVm (s.vm.noted f.method.cls x.catchType (.cls c))))) ∧
    (s.vm.assignable cell.cls c = false → (wp (findHandler.go f a (x :: t)) Q E e d acts s ↔ wp (findHandler.go f a t) Q E e d acts (s.setVm (s.vm.noted f.method.cls x.catchType (.cls c))))) := by
  simp only [covers] at hx
  obtain ⟨ha, ht⟩ := (resolveClass_links e.toSetting hl).op (op := VmOp.resolveClass f.method.cls x.catchType) rfl
  have hal : s.vm.Alike (s.vm.noted f.method.cls x.catchType (.cls c)) := (Vm.Alike.refl s.vm).noted _ _ _
  obtain ⟨k1, hk1⟩ := hk
  obtain ⟨k2, hk2⟩ := hc
  obtain ⟨k1', hk1', -⟩ := hal.2.2 _ _ hk1
  obtain ⟨k2', hk2', -⟩ := hal.2.2 _ _ hk2
  refine ⟨fun hfit => ?_, fun hfit => ?_⟩
  · have hfit' : (s.vm.noted f.method.cls x.catchType (.cls c)).assignable cell.cls c = true := by rw [hal.assignable]; exact hfit
    simp [findHandler.go, hx, h0, ha, ht, hcell, hobj, hk1', hk2', hfit', VmOp.dirties, VmOp.acts]
  · have hfit' : (s.vm.noted f.method.cls x.catchType (.cls c)).assignable cell.cls c = false := by rw [hal.assignable]; exact hfit
    simp [findHandler.go, hx, h0, ha, ht, hcell, hobj, hk1', hk2', hfit', VmOp.dirties, VmOp.acts]
theorem th_stepTo {e : Env} {s : State} {a : Addr} {f : JFrame} {r : List Frame} {pc : Nat} {vm' : Vm} (hfind : th_FT e s f a (.found pc) vm') :
    (stepThrowing e s a (.java f :: r)).Is ((s.setVm vm').setFrames (.java { f with pc := pc, stack := [.ref a] } :: r)) [] := by
  simp only [stepThrowing, searchFrame, vmDo]
  generalize hr : Sem.go _ e false [] s = res
  obtain ⟨as, rfl, ha⟩ := Sem.eq_ok_of hr (a := Handler.found pc) (s' := s.setVm vm') (acts' := []) (by simp [hfind _ _ _ _])
  exact ⟨rfl, ha⟩
theorem th_frames (u : State) (vm' : Vm) (F G : List Frame) : ((u.setFrames F).setVm vm').setFrames G = (u.setVm vm').setFrames G := by
  have h1 : (u.setFrames F).setVm vm' = (u.setVm vm').setFrames F := rfl
  rw [h1, State.setFrames_setFrames]
theorem th_caughtTo {tb : Tables} {e : Env} {s target : State} {g : JFrame} {c : Code} {below : List Frame} {a : Addr} (h : At s g.method c below) {pc : Nat} {vm' : Vm}
    (hfind : th_FT e ((s.setTop g).pushFrame (.throwing a)) g a (.found pc) vm') (hrest : Steps tb e below ((s.setVm vm').setTop { g with pc := pc, stack := [.ref a] }) target) :
    Steps tb e below ((s.setTop g).pushFrame (.throwing a)) target := by
  obtain ⟨hgo, hw⟩ := h.throwing a
  refine Steps.head hgo hw ?_
  rw [stepThread_throwing (frames_entered h.top _), (th_stepTo (s := (s.setTop g).pushFrame (.throwing a)) hfind).1]
  obtain ⟨g₀, hg⟩ := Option.isSome_iff_exists.mp h.top
  obtain ⟨r, hr⟩ := State.topJava?_eq_some.mp hg
  have hr' : (s.setVm vm').frames = .java g₀ :: r := hr
  rw [State.setTop_of_frames _ hr'] at hrest
  rw [hr, List.tail_cons, State.pushFrame, th_frames, State.setTop_of_frames _ hr, th_frames]
  exact hrest
variable {p : Program} {l : Launch} {e : Env} {R : Room} {s : State} {m : MethodId} {args : Array Value} {below : List Frame} {meth : Method} {c : Code} {T : State} {locs : List Loc} {cells slots : Nat}
/-- caught by the first entry -/
theorem th_c1 (X : Stand p l e R s m args below meth c T locs cells slots) (a : Addr) {g : JFrame} (hg : g.method = m) {own name : String} (hown : s.vm.findClass own = some m.cls)
    {x : ExceptionTableEntry} {rest : List ExceptionTableEntry} (htab : c.exceptionTable.toList = x :: rest) (hx : covers x g.pc = true) (h0 : x.catchType ≠ 0)
    (hlink : (Cond.classLink own x.catchType name).before args s = true) {cT : ClassId} {cell : Cell} (hcT : s.vm.findClass name = some cT) (hcell : T.heap[a]? = some cell) (hobj : cell.vm = .none) (hfit : s.vm.assignable cell.cls cT = true) :
    ∃ vm', Stand p l e R s m args below meth c (T.setVm vm') locs cells slots ∧
      ∀ target, Steps p.tables e below ((T.setVm vm').setTop { g with pc := x.handlerPc, stack := [.ref a] }) target → Steps p.tables e below ((T.setTop g).pushFrame (.throwing a)) target := by
  have hpl : e.platform.magicAccessors = ({} : Platform).magicAccessors := by rw [X.admits.platform]
  obtain ⟨c', hc', hcl⟩ := Cond.classLink_spec hown hlink e.platform hpl
  cases hcT.symm.trans hc'
  obtain ⟨dk, _, _, kt, hd, _, _, _, _, hkt, _, hopen⟩ := hcl.here
  have hcl₀ := X.warmed.classLinks hcl
  have hW' : s.WarmedH (T.vm.noted m.cls x.catchType (.cls cT)) := X.warmed.noted hd hopen (State.rightAt_cls hcl)
  have hal := X.warmed.alike
  obtain ⟨kt', hkt', -⟩ := hal.2.2 _ _ hkt
  have hfit' : T.vm.assignable cell.cls cT = true := by rw [hal.assignable]; exact hfit
  refine ⟨_, X.noted hW', fun target hrest => ?_⟩
  subst hg
  refine th_caughtTo X.here (fun Q E d acts => ?_) hrest
  rw [W.findHandler_eq (s := (T.setTop g).pushFrame (.throwing a)) X.method' X.code, htab]
  exact (th_go (s := (T.setTop g).pushFrame (.throwing a)) hx h0 hcl₀ hcell (fun k h => by rw [hobj] at h; cases h) (Vm.classAt_of_assignable hfit' ⟨kt', hkt'⟩) ⟨kt', hkt'⟩).1 hfit'
/-- passed by the first entry, caught by the second -/
theorem th_c2 (X : Stand p l e R s m args below meth c T locs cells slots) (a : Addr) {g : JFrame} (hg : g.method = m) {own name name2 : String} (hown : s.vm.findClass own = some m.cls)
    {x x2 : ExceptionTableEntry} {rest : List ExceptionTableEntry} (htab : c.exceptionTable.toList = x :: x2 :: rest) (hx : covers x g.pc = true) (h0 : x.catchType ≠ 0) (hx2 : covers x2 g.pc = true) (h02 : x2.catchType ≠ 0)
    (hlink : (Cond.classLink own x.catchType name).before args s = true) (hlink2 : (Cond.classLink own x2.catchType name2).before args s = true) {cT cT2 : ClassId} {cell : Cell} (hcT : s.vm.findClass name = some cT) (hcT2 : s.vm.findClass name2 = some cT2) (hcell : T.heap[a]? = some cell) (hobj : cell.vm = .none) (hno : s.vm.assignable cell.cls cT = false) (hfit : s.vm.assignable cell.cls cT2 = true) :
    ∃ vm', Stand p l e R s m args below meth c (T.setVm vm') locs cells slots ∧
      ∀ target, Steps p.tables e below ((T.setVm vm').setTop { g with pc := x2.handlerPc, stack := [.ref a] }) target → Steps p.tables e below ((T.setTop g).pushFrame (.throwing a)) target := by
  have hpl : e.platform.magicAccessors = ({} : Platform).magicAccessors := by rw [X.admits.platform]
  obtain ⟨c', hc', hcl⟩ := Cond.classLink_spec hown hlink e.platform hpl
  cases hcT.symm.trans hc'
  obtain ⟨c2', hc2', hcl2⟩ := Cond.classLink_spec hown hlink2 e.platform hpl
  cases hcT2.symm.trans hc2'
  obtain ⟨dk, _, _, kt, hd, _, _, _, _, hkt, _, hopen⟩ := hcl.here
  obtain ⟨dk2, _, _, kt2, hd2, _, _, _, _, hkt2, _, hopen2⟩ := hcl2.here
  have hcl₀ := X.warmed.classLinks hcl
  have hW1 : s.WarmedH (T.vm.noted m.cls x.catchType (.cls cT)) := X.warmed.noted hd hopen (State.rightAt_cls hcl)
  have X1 := X.noted hW1
  have hcl2₀ := hW1.classLinks hcl2
  have hW2 : s.WarmedH ((T.vm.noted m.cls x.catchType (.cls cT)).noted m.cls x2.catchType (.cls cT2)) := hW1.noted hd2 hopen2 (State.rightAt_cls hcl2)
  have hal := X.warmed.alike
  have hal1 := hW1.alike
  obtain ⟨kt', hkt', -⟩ := hal.2.2 _ _ hkt
  obtain ⟨kt2', hkt2', -⟩ := hal.2.2 _ _ hkt2
  obtain ⟨kt3', hkt3', -⟩ := hal1.2.2 _ _ hkt2
  have hno' : T.vm.assignable cell.cls cT = false := by rw [hal.assignable]; exact hno
  have hfit0 : T.vm.assignable cell.cls cT2 = true := by rw [hal.assignable]; exact hfit
  have hfit' : (T.vm.noted m.cls x.catchType (.cls cT)).assignable cell.cls cT2 = true := by rw [hal1.assignable]; exact hfit
  refine ⟨_, X.noted hW2, fun target hrest => ?_⟩
  subst hg
  refine th_caughtTo X.here (fun Q E d acts => ?_) hrest
  rw [W.findHandler_eq (s := (T.setTop g).pushFrame (.throwing a)) X.method' X.code, htab]
  refine ((th_go (s := (T.setTop g).pushFrame (.throwing a)) hx h0 hcl₀ hcell (fun k h => by rw [hobj] at h; cases h) (Vm.classAt_of_assignable hfit0 ⟨kt2', hkt2'⟩) ⟨kt', hkt'⟩).2 hno').trans ?_
  exact (th_go (s := ((T.setTop g).pushFrame (.throwing a)).setVm (T.vm.noted g.method.cls x.catchType (.cls cT))) hx2 h02 hcl2₀ hcell (fun k h => by rw [hobj] at h; cases h) (Vm.classAt_of_assignable hfit' ⟨kt3', hkt3'⟩) ⟨kt3', hkt3'⟩).1 hfit'
end THH
