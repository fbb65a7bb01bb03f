/-! THE STEPS OF THE ABSTRACT MACHINE ARE STEPS OF THE MACHINE: the check of an instruction against a method's bytes, and what it gives -/
def gAll : List Cond := lw_tbl.filter goodWord
theorem gAll_of {w : Cond} (h : w ∈ lw_tbl) (hg : goodWord w = true) : w ∈ gAll := List.mem_filter.mpr ⟨h, hg⟩
theorem gAll_good {w : Cond} (h : w ∈ gAll) : goodWord w = true := (List.mem_filter.mp h).2
/-- of two exceptions the one is not the other -/
def th_nox (s : State) : Prop := ∃ c1 c2, s.vm.findClass "java/lang/IllegalStateException" = some c1 ∧ s.vm.findClass "java/lang/IndexOutOfBoundsException" = some c2 ∧ s.vm.assignable c1 c2 = false
theorem th_nox.moved {u U : State} (h : u.vm.Alike U.vm) (q : th_nox u) : th_nox U := by
  obtain ⟨c1, c2, q1, q2, q3⟩ := q
  exact ⟨c1, c2, by rw [h.findClass]; exact q1, by rw [h.findClass]; exact q2, by rw [h.assignable]; exact q3⟩
def th_Lz (C n d : String) (A : Nat → Prop) (U : State) (H : Heap) : Prop := ∃ (cf : ClassId) (kf : Class) (fi : Nat) (f : Field) (a : Nat) (cell : Cell), U.fieldFound? C n d = some (cf, kf, fi, f) ∧ U.vm.findClass C = some cf ∧ f.isStatic = true ∧ kf.statics = some a ∧ H[a]? = some cell ∧ cell.vm.isStatics = true ∧ cell.cls = cf ∧ f.slot < cell.slots.size ∧ kf.staticTypes[f.slot]? = some f.type ∧ ¬ A a
theorem th_Lz.moved {C n d : String} {A : Nat → Prop} {u U : State} {H : Heap} (hvm : u.vm.Alike U.vm) (h : th_Lz C n d A u H) : th_Lz C n d A U H := by
  obtain ⟨cf, kf, fi, f, a, cell, h1, h2, h3, h4, h5, h6, h7, h8, h9, h10⟩ := h
  obtain ⟨k', hi', he⟩ := State.fieldFound?_setVm hvm h1
  exact ⟨cf, k', fi, f, a, cell, hi', by rw [hvm.findClass]; exact h2, h3, by rw [he]; exact h4, h5, h6, h7, h8, by rw [he]; exact h9, h10⟩
theorem th_Lz.kept {C n d : String} {A : Nat → Prop} {U : State} {H H1 : Heap} (h : th_Lz C n d A U H) (hq : ∀ a : Nat, a < H.size → ¬ A a → H1[a]? = H[a]?) : th_Lz C n d A U H1 := by
  obtain ⟨cf, kf, fi, f, a, cell, h1, h2, h3, h4, h5, h6, h7, h8, h9, h10⟩ := h
  exact ⟨cf, kf, fi, f, a, cell, h1, h2, h3, h4, by rw [hq a (Array.getElem?_eq_some_iff.mp h5).1 h10]; exact h5, h6, h7, h8, h9, h10⟩
theorem th_Lz.narrow {C n d : String} {A B : Nat → Prop} {U : State} {H : Heap} (h : th_Lz C n d A U H) (hAB : ∀ q, B q → A q) : th_Lz C n d B U H := by
  obtain ⟨cf, kf, fi, f, a, cell, h1, h2, h3, h4, h5, h6, h7, h8, h9, h10⟩ := h
  exact ⟨cf, kf, fi, f, a, cell, h1, h2, h3, h4, h5, h6, h7, h8, h9, fun q => h10 (hAB _ q)⟩
theorem th_Lz.word {C n d : String} {A : Nat → Prop} {s : State} (h : th_Lz C n d A s s.heap) (args : Array Value) : (Cond.laysStatic C n d).before args s = true := by
  obtain ⟨cf, kf, fi, f, a, cell, h1, h2, h3, h4, h5, h6, h7, h8, h9, h10⟩ := h
  simp [Cond.before, Cond.holds, Cond.value, h1, h2, h3, h4, h5, h6, h7, h8, h9]
theorem th_Lz.of {args : Array Value} {C n d : String} {A : Nat → Prop} {s : State} (h : (Cond.laysStatic C n d).before args s = true) (hA : ∀ a : Nat, a < s.heap.size → ¬ A a) : th_Lz C n d A s s.heap := by
  simp only [Cond.before, Cond.holds, Cond.value] at h
  split at h
  · rename_i c c' k x f e1 e2
    cases e3 : k.statics with
    | none => rw [e3] at h; simp at h
    | some a =>
      rw [e3] at h
      simp only [Option.bind_some] at h
      cases e4 : s.heap[a]? with
      | none => rw [e4] at h; simp at h
      | some cell =>
        rw [e4] at h
        simp only [Option.map_some, beq_iff_eq, Option.some.injEq, Bool.and_eq_true, decide_eq_true_eq] at h
        obtain ⟨⟨⟨⟨⟨h1, h2⟩, h3⟩, h4⟩, h5⟩, h6⟩ := h
        subst h2
        exact ⟨_, k, _, f, a, cell, e2, e1, h1, e3, e4, h3, h4, h5, h6, hA a (Array.getElem?_eq_some_iff.mp e4).1⟩
  · simp at h
/-- words that hold in all states with tables as these -/
def th_fk : Cond → Bool
  | .castable .. => true
  | .declares _ => true
  | .stringRef .. => true
  | _ => false
theorem th_fw {w : Cond} (hk : th_fk w = true) {s U : State} (hW : s.WarmedH U.vm) (h : ∀ a, w.before a s = true) : ∀ a, w.before a U = true := by
  intro a
  cases w with
  | castable c t =>
    have h1 := Cond.before_shiftedFace (State.Shifted.of_warmed hW) (.castable c t) rfl (h a)
    exact h1
  | declares x =>
    have h1 := Cond.before_shiftedFace (State.Shifted.of_warmed hW) (.declares x) rfl (h a)
    exact h1
  | stringRef c i t =>
    have h1 := Cond.stringRef_warmed hW (h a)
    exact h1
  | _ => cases hk
theorem th_fs {w : Cond} (hk : th_fk w = true) {s U : State} (hW : s.vm = U.vm) (h : ∀ a, w.before a s = true) : ∀ a, w.before a U = true := by
  intro a
  have e : s.setVm U.vm = s := by rw [← hW]; rfl
  cases w with
  | castable c t =>
    have h1 := h a
    rw [← e] at h1
    exact h1
  | declares x =>
    have h1 := h a
    rw [← e] at h1
    exact h1
  | stringRef c i t =>
    have h1 := h a
    rw [← e] at h1
    exact h1
  | _ => cases hk
def th_face : List Cond := g_at [976, 978, 980, 974, 1137, 1153, 1389, 1014, 1116, 1124, 1125, 1144, 1160, 1373, 1396, 1411, 1412, 1420]
theorem th_face_k : ∀ w ∈ th_face, th_fk w = true := by
  have h : th_face.all th_fk = true := by decide +kernel
  exact List.all_eq_true.mp h
def am_tyk : List FieldType := [.int, .long, .boolean, .object "ShareHall$Party"]
def am_tys (cA : Nat → ClassId) : List (ClassId × FieldType) := [(cA 0, .int), (cA 1, .long), (cA 2, .boolean), (cA 3, .object "ShareHall$Party")]
/-- the static tables: class, name -/
def g_stn : List (String × String) := [("ShareHall", "LENGTHS"), ("ShareHall$Digest", "ROUNDS"), ("ShareHall$Digest", "FIRST"), ("ShareHallModel", "ROUND"), ("ShareHallModel", "FIRST")]
/-- the nest's words -/
def am_Nst (s : State) : Prop := (∀ x ∈ g_fl, x.2.2.1 = 1 → va_Nw (g_flw x) s) ∧ (∀ x ∈ g_cl, x.2.2.1 = 1 → va_Nw (g_clw x) s) ∧ va_AO "ShareHall$Party" s ∧ th_nox s ∧ ∀ w ∈ th_face, ∀ a, w.before a s = true
/-- the tables that nobody writes -/
def am_Tab (G : am_G) (A : Nat → Prop) (s : State) (zt : Nat → Nat) (H : Heap) : Prop :=
  (∀ k, k < 6 → va_T .int (zt k) (G.2.1 k).1 (fun j => .int ((G.2.1 k).2 j)) A s H) ∧ (∀ (k : Nat) (q : String × String), g_stn[k]? = some q → va_Z q.1 q.2 "[I" (.ref (zt k)) A s H) ∧ va_Zq "java/lang/Throwable" "UNASSIGNED_STACK" "[Ljava/lang/StackTraceElement;" A s H ∧ va_Zq "java/lang/Throwable" "SUPPRESSED_SENTINEL" "Ljava/util/List;" A s H ∧ th_Lz "java/lang/Throwable" "UNASSIGNED_STACK" "[Ljava/lang/StackTraceElement;" A s H ∧ th_Lz "java/lang/Throwable" "SUPPRESSED_SENTINEL" "Ljava/util/List;" A s H
/-- what holds of a frame of method y all the time -/
def am_Ctx (G : am_G) (D : va_G) (cA : Nat → ClassId) (A : Nat → Prop) (zt : Nat → Nat) (p : Program) (s : State) (m : MethodId) (meth : Method) (c : Code) (args : Array Value) (y : Nat) : Prop :=
  p.tables.exec = Jvm.exec ∧ c.code = gB y ∧ c.maxLocals = gL y ∧ s.vm.findClass (gR (gO y)) = some m.cls ∧ (∀ w ∈ gAll, w.before args s = true) ∧ meth.name = (gY y).name ∧ va_K D gcl (am_tys cA) s ∧ (∀ q, s.heap.size ≤ q → A q) ∧ am_Nst s ∧ am_Tab G A s zt s.heap ∧
  ∀ k, k < 13 → G.2.2.1 k = (List.range (gN k)).map (fun j => defaultValue (gty k j))
/-- the abstract heap h as it lies in H -/
def am_Rel (D : va_G) (cA : Nat → ClassId) (A : Nat → Prop) (zt : Nat → Nat) (H0 : Heap) (ad : Nat → Nat) (h : am_H) (H : Heap) (locs : List Loc) : Prop :=
  va_P D gcl (am_W ad cA h) H ∧ va_D A (am_W ad cA h) ∧ va_S A H0 H locs ∧ am_okH h ∧ ∀ k, ad (am_T0 + k) = zt k
/-- all references of a frame are to cells that there are -/
def am_okF (n : Nat) (ls : List (Nat × Value)) (st : List Value) : Prop := (∀ q ∈ ls, am_ok n q.2) ∧ ∀ v ∈ st, am_ok n v
/-! the checks -/
def ck_push (y pc a b : Nat) (v : Value) (sw : List (Int32 × Nat)) : Bool := match b, v, sw with
  | 0, .int x, _ => decide (a = 1) && decide (decode (gB y) pc = .ok (.iconst x.toInt, 1))
  | 1, .int x, _ => decide (a = 2) && decide (decode (gB y) pc = .ok (.bipush x.toInt, 2)) && decide ((Int8.ofInt x.toInt).toInt32 = x)
  | 2, .int x, _ => decide (a = 3) && decide (decode (gB y) pc = .ok (.sipush x.toInt, 3)) && decide ((Int16.ofInt x.toInt).toInt32 = x)
  | 3, .long x, _ => decide (a = 1) && ((decide (x = 0) && decide (decode (gB y) pc = .ok (.lconst 0, 1))) || (decide (x = 1) && decide (decode (gB y) pc = .ok (.lconst 1, 1))))
  | 4, .int x, [(_, j)] => (match g_kn[j]? with
    | some (o, i, w) => decide (a = 2) && decide (o = gO y) && decide (w = .int x) && decide (decode (gB y) pc = .ok (.ldc i, 2))
    | none => false)
  | 5, .long x, [(_, j)] => (match g_kn[j]? with
    | some (o, i, w) => decide (a = 3) && decide (o = gO y) && decide (w = .long x) && decide (decode (gB y) pc = .ok (.ldc2_w i, 3))
    | none => false)
  | _, _, _ => false
def ck_load (y pc a b : Nat) (v : Value) : Bool := match b, v with
  | 1, .int _ => if h : a < 4 then decide (decode (gB y) pc = .ok (.iload_n ⟨a, h⟩, 1)) else false
  | 2, .int _ => decide (decode (gB y) pc = .ok (.iload a, 2))
  | 1, .long _ => if h : a < 4 then decide (decode (gB y) pc = .ok (.lload_n ⟨a, h⟩, 1)) else false
  | 2, .long _ => decide (decode (gB y) pc = .ok (.lload a, 2))
  | 1, .null => if h : a < 4 then decide (decode (gB y) pc = .ok (.aload_n ⟨a, h⟩, 1)) else false
  | 2, .null => decide (decode (gB y) pc = .ok (.aload a, 2))
  | _, _ => false
def ck_store1 (y pc a b : Nat) (v : Value) : Bool := decide (a < gL y) && (match b, v with
  | 1, .int _ => if h : a < 4 then decide (decode (gB y) pc = .ok (.istore_n ⟨a, h⟩, 1)) else false
  | 2, .int _ => decide (decode (gB y) pc = .ok (.istore a, 2))
  | 1, .null => if h : a < 4 then decide (decode (gB y) pc = .ok (.astore_n ⟨a, h⟩, 1)) else false
  | 2, .null => decide (decode (gB y) pc = .ok (.astore a, 2))
  | _, _ => false)
def ck_store2 (y pc a b : Nat) (v : Value) : Bool := decide (a + 1 < gL y) && (match b, v with
  | 1, .long _ => if h : a < 4 then decide (decode (gB y) pc = .ok (.lstore_n ⟨a, h⟩, 1)) else false
  | 2, .long _ => decide (decode (gB y) pc = .ok (.lstore a, 2))
  | _, _ => false)
section STEPS
variable {G : am_G} {D : va_G} {cA : Nat → ClassId} {A : Nat → Prop} {zt : Nat → Nat} {p : Program} {l : Launch} {e : Env} {R : Room} {s : State} {m : MethodId} {args : Array Value} {below : List Frame} {meth : Method} {c : Code} {H : Heap} {locs : List Loc} {cells slots : Nat} {Q : State → Prop} {y pc : Nat} {lsR : Array Slot} {ad : Nat → Nat}
theorem p_push (X : am_Ctx G D cA A zt p s m meth c args y) {a b : Nat} {v : Value} {sw : List (Int32 × Nat)} (hk : ck_push y pc a b v sw = true) {st : List Value}
    (kk : W p l e R s m args below meth c H locs cells slots Q (F0 m (pc + a) lsR (am_v ad v :: st))) : W p l e R s m args below meth c H locs cells slots Q (F0 m pc lsR st) := by
  obtain ⟨hx, hb, hml, hown, hts, -⟩ := X
  unfold ck_push at hk
  split at hk
  · rename_i x
    simp only [Bool.and_eq_true, decide_eq_true_eq] at hk
    obtain ⟨rfl, hd⟩ := hk
    exact lv_iconst hx hb hd (Int32.ofInt_toInt x) kk
  · rename_i x
    simp only [Bool.and_eq_true, decide_eq_true_eq] at hk
    obtain ⟨⟨rfl, hd⟩, h2⟩ := hk
    exact lv_bipush hx hb hd h2 kk
  · rename_i x
    simp only [Bool.and_eq_true, decide_eq_true_eq] at hk
    obtain ⟨⟨rfl, hd⟩, h2⟩ := hk
    exact lv_sipush hx hb hd h2 kk
  · rename_i x
    simp only [Bool.and_eq_true, Bool.or_eq_true, decide_eq_true_eq] at hk
    obtain ⟨rfl, ⟨rfl, hd⟩ | ⟨rfl, hd⟩⟩ := hk
    · exact lv_lconst hx hb hd rfl kk
    · exact lv_lconst hx hb hd rfl kk
  · rename_i x _ j
    cases hj : g_kn[j]? with
    | none => rw [hj] at hk; cases hk
    | some z =>
      obtain ⟨o, i, w⟩ := z
      rw [hj] at hk
      simp only [Bool.and_eq_true, decide_eq_true_eq] at hk
      obtain ⟨⟨⟨rfl, rfl⟩, rfl⟩, hd⟩ := hk
      have hw : Cond.constant (gR (gO y)) i x ∈ lw_tbl := by
        have h1 : g_knw (gO y, i, .int x) ∈ g_kn.map g_knw := List.mem_map.mpr ⟨_, List.mem_of_getElem? hj, rfl⟩
        rw [g_kn_ok] at h1
        exact g_at_in h1
      exact lv_ldc hx hb hown (hts _ (gAll_of hw rfl)) hd kk
  · rename_i x _ j
    cases hj : g_kn[j]? with
    | none => rw [hj] at hk; cases hk
    | some z =>
      obtain ⟨o, i, w⟩ := z
      rw [hj] at hk
      simp only [Bool.and_eq_true, decide_eq_true_eq] at hk
      obtain ⟨⟨⟨rfl, rfl⟩, rfl⟩, hd⟩ := hk
      have hw : Cond.constantLong (gR (gO y)) i x ∈ lw_tbl := by
        have h1 : g_knw (gO y, i, .long x) ∈ g_kn.map g_knw := List.mem_map.mpr ⟨_, List.mem_of_getElem? hj, rfl⟩
        rw [g_kn_ok] at h1
        exact g_at_in h1
      exact lv_ldc2 hx hb hown (hts _ (gAll_of hw rfl)) hd kk
  · cases hk
theorem p_load (X : am_Ctx G D cA A zt p s m meth c args y) {a b : Nat} {v x : Value} (hk : ck_load y pc a b v = true) (ht : am_tag v x = true) (hl : lsR[a]? = some (.val (am_v ad x))) {st : List Value}
    (kk : W p l e R s m args below meth c H locs cells slots Q (F0 m (pc + b) lsR (am_v ad x :: st))) : W p l e R s m args below meth c H locs cells slots Q (F0 m pc lsR st) := by
  obtain ⟨hx, hb, -⟩ := X
  unfold ck_load at hk
  split at hk
  · cases x <;> first | cases ht | skip
    split at hk
    · exact lv_iload_n hx hb (of_decide_eq_true hk) rfl hl kk
    · cases hk
  · cases x <;> first | cases ht | skip
    exact lv_iload hx hb (of_decide_eq_true hk) hl kk
  · cases x <;> first | cases ht | skip
    split at hk
    · exact lv_lload_n hx hb (of_decide_eq_true hk) rfl hl kk
    · cases hk
  · cases x <;> first | cases ht | skip
    exact lv_lload hx hb (of_decide_eq_true hk) hl kk
  · cases x <;> first | cases ht | skip
    split at hk
    · exact lv_aload_n hx hb (of_decide_eq_true hk) rfl hl kk
    · cases hk
  · cases x <;> first | cases ht | skip
    exact lv_aload hx hb (of_decide_eq_true hk) hl kk
  · cases hk
theorem p_store1 (X : am_Ctx G D cA A zt p s m meth c args y) {a b : Nat} {v x : Value} (hk : ck_store1 y pc a b v = true) (ht : am_tag v x = true) {ls : List (Nat × Value)} (hl : lv_has lsR (gL y) (ls.map (am_q ad))) {st : List Value}
    (kk : ∀ lsR' : Array Slot, lv_has lsR' (gL y) ((am_st1 a x ls).map (am_q ad)) → W p l e R s m args below meth c H locs cells slots Q (F0 m (pc + b) lsR' st)) : W p l e R s m args below meth c H locs cells slots Q (F0 m pc lsR (am_v ad x :: st)) := by
  obtain ⟨hx, hb, -⟩ := X
  unfold ck_store1 at hk
  rw [Bool.and_eq_true] at hk
  obtain ⟨ha, hk⟩ := hk
  have ha := of_decide_eq_true ha
  split at hk
  · cases x <;> first | cases ht | skip
    split at hk
    · rename_i w h4
      exact lv_istore_n hx hb (of_decide_eq_true hk) rfl hl ha (am_st1_map ad a (.int w) ls) kk
    · cases hk
  · cases x <;> first | cases ht | skip
    rename_i w
    exact lv_istore hx hb (of_decide_eq_true hk) hl ha (am_st1_map ad a (.int w) ls) kk
  · cases x <;> first | cases ht | skip
    split at hk
    · rename_i w h4
      exact lv_astore_n hx hb (of_decide_eq_true hk) rfl hl ha (am_st1_map ad a (.ref w) ls) kk
    · cases hk
  · cases x <;> first | cases ht | skip
    rename_i w
    exact lv_astore hx hb (of_decide_eq_true hk) hl ha (am_st1_map ad a (.ref w) ls) kk
  · cases hk
theorem p_store2 (X : am_Ctx G D cA A zt p s m meth c args y) {a b : Nat} {v x : Value} (hk : ck_store2 y pc a b v = true) (ht : am_tag v x = true) {ls : List (Nat × Value)} (hl : lv_has lsR (gL y) (ls.map (am_q ad))) {st : List Value}
    (kk : ∀ lsR' : Array Slot, lv_has lsR' (gL y) ((am_st2 a x ls).map (am_q ad)) → W p l e R s m args below meth c H locs cells slots Q (F0 m (pc + b) lsR' st)) : W p l e R s m args below meth c H locs cells slots Q (F0 m pc lsR (am_v ad x :: st)) := by
  obtain ⟨hx, hb, -⟩ := X
  unfold ck_store2 at hk
  rw [Bool.and_eq_true] at hk
  obtain ⟨ha, hk⟩ := hk
  have ha := of_decide_eq_true ha
  split at hk
  · cases x <;> first | cases ht | skip
    split at hk
    · rename_i w h4
      exact lv_lstore_n hx hb (of_decide_eq_true hk) rfl hl ha (am_st2_map ad a (.long w) ls) kk
    · cases hk
  · cases x <;> first | cases ht | skip
    rename_i w
    exact lv_lstore hx hb (of_decide_eq_true hk) hl ha (am_st2_map ad a (.long w) ls) kk
  · cases hk
end STEPS
