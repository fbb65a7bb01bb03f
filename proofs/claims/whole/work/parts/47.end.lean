/-! THE CLAIM OUT OF A PURE STATEMENT -/
def R_law : String := "ShareHallLaw"
def lw_P (b : Addr) (xs : List Int32) (args : Array Value) (s : State) : Prop := args = #[.ref b] ∧ s.IntsAt b xs ∧ xs.length ≤ 3072 ∧ (Jvm.Cond.and given_1 narrow_1).before args s = true
def lw_Q (_ : Array Value) (s : State) (o : Outcome) (t : State) : Prop := o = .returned (some (.int 1)) ∧ Framed s o t [] 601024 7293034
def lw_Z (below : List Frame) (a : Array Value) (s : State) : State → Prop := fun t => ∃ o, t.status = .running ∧ Ended t below o ∧ lw_Q a s o t
/-- the law's own end, with 1 on the stack, nothing written that was there before, its room as the claim has it -/
theorem lw_ret {p : Program} {l : Launch} {e : Env} {s : State} {m : MethodId} {below : List Frame} {meth : Method} {c : Code} {b : Nat} (hx : p.tables.exec = Jvm.exec) (hb : c.code = code) (hr : meth.sig.returnType = ret) (hlocks : meth.locks = false) {pc : Nat} {H : Heap} {ls : Array Slot} (hdg : decode code pc = .ok (.ireturn, 1)) : W p l e room_1 s m #[Value.ref b] below meth c H [] 601024 7293034 (lw_Z below #[Value.ref b] s) (F0 m pc ls [.int 1]) := by
  intro T hT X
  obtain ⟨fs, hret, hrun, hended, hW, hframe⟩ := X.leave (v := some (.int 1)) (hlocks := hlocks) (fun h => by rw [hr] at h; cases h)
  have hmeth' : T.vm.method? m = some meth := X.method'
  refine ⟨T.setFrames fs, ?_, .returned (some (.int 1)), hrun, hended, rfl, ⟨_, rfl⟩, hW, hframe⟩
  jvm_step X.here [X.here.top, hx, hb, hdg, hmeth', hr, ret, narrow_b1]
  (try refine ⟨rfl, ?_⟩); (try refine ⟨rfl, ?_⟩)
  first | (intro acts; rw [hret _ acts rfl rfl rfl]) | rw [hret _ _ rfl rfl rfl]
  exact Steps.refl _
/-- what holds at the law's entry: the machine, the code, the tables' words (any of lw_tbl by 'hts w (by decide +kernel)'), the script of L ints xs at the cell b, what the Statement gives of the start (any of its parts by flat_of_before) -/
def lw_At (p : Program) (s : State) (m : MethodId) (meth : Method) (c : Code) (b L : Nat) (xs : Nat → Int32) : Prop :=
  p.tables.exec = Jvm.exec ∧ c.code = code ∧ meth.sig.returnType = ret ∧ c.maxLocals = 8 ∧ s.vm.findClass R_law = some m.cls ∧ (∀ w ∈ lw_tbl, w.before #[Value.ref b] s = true) ∧ va_X b L xs s s.heap ∧ b < s.heap.size ∧ meth.locks = false ∧ (Jvm.Cond.and given_1 narrow_1).before #[Value.ref b] s = true
/-- what is left: on every script the law's function comes to its end, within the room -/
def pu_goal : Prop := ∀ (L : Nat) (xs : Nat → Int32), L ≤ 3072 → ∃ (I1 : MI) (J1 : MJ) (X' : MX) (I' : MI) (J' : MJ), f_Model_newHall 2 0 1 m_I0 m_J0 = some ((), I1, J1) ∧ f_Law_law_23 L xs gF 0 m_X1 I1 (va_up J1 168 (fun _ => 0)) = some (.inr (), X', I', J') ∧ X'.2.2.2.1 ≤ 601024 ∧ X'.2.2.2.2 ≤ 7293034
section PAD
variable {p : Program} {l : Launch} {e : Env} {R : Room} {s : State} {m : MethodId} {args : Array Value} {below : List Frame} {meth : Method} {c : Code} {H : Heap} {locs : List Loc} {cells slots cells2 slots2 : Nat} {Q : State → Prop} {g : JFrame}
theorem w_pad (h1 : cells ≤ cells2) (h2 : slots ≤ slots2) (k : W p l e R s m args below meth c H locs cells2 slots2 Q g) : W p l e R s m args below meth c H locs cells slots Q g := fun T hT X => k T hT ⟨X.admits, X.cas, X.clock, X.frames, X.room, X.hears, X.method, X.code, X.here, X.tail, X.warmed, X.limits, X.bytes, X.same.weaken (fun _ hy _ => hy) h1 h2⟩
end PAD
theorem g_law : gB 287 = code ∧ gL 287 = 8 ∧ gR (gO 287) = R_law ∧ gRt 287 = some .boolean := ⟨rfl, rfl, rfl, rfl⟩
set_option maxHeartbeats 4000000 in
theorem whole_start (hpu : pu_goal) {p : Program} {e : Env} {s : State} {m : MethodId} {below : List Frame} {meth : Method} {c : Code} (l : Launch) (hfl : l.flags = pinnedFlags ++ [noTraceFlag]) {b L : Nat} {xs : Nat → Int32} (hL : L ≤ 3072) (hnm : meth.name = (gY 287).name) (C0 : lw_At p s m meth c b L xs) : W p l e room_1 s m #[Value.ref b] below meth c s.heap [] 0 0 (lw_Z below #[Value.ref b] s) (entryFrame m ([Value.ref b] : List Value).toArray 8) := by
  obtain ⟨hx, hb, hr, hml, hown, hts, hX, hbl, hlocks, hgv⟩ := C0
  obtain ⟨D, cA, hK⟩ := st_K hts
  have hN := st_N hts hgv
  obtain ⟨I1, J1, X', I', J', h1, h2, hc, hs⟩ := hpu L xs hL
  obtain ⟨zt, hT, hz5⟩ := st_T (G := gG L xs) (A := fun q => s.heap.size ≤ q) (fun _ => rfl) hts hgv hX (fun a h => Nat.not_le.mpr h) (by omega)
  obtain ⟨n, r, h', hev, hr1, hh1⟩ := law_run (L := L) (xs := xs) (d := 0) h1 h2
  subst hr1
  subst hh1
  obtain ⟨g1, g2, g3, g4⟩ := g_law
  have X : am_Ctx (gG L xs) D cA (fun q => s.heap.size ≤ q) zt p s m meth c #[.ref b] 287 := ⟨hx, by rw [g1]; exact hb, by rw [g2]; exact hml, by rw [g3]; exact hown, fun w hw => hts w (List.mem_filter.mp hw).1, hnm, hK, fun q h => h, hN, hT, fun k hk => rfl⟩
  have hR : am_Rel D cA (fun q => s.heap.size ≤ q) zt s.heap (fun i => zt (i - am_T0)) (c_H ([], 0, 0)) s.heap [] := ⟨fun k q h => (by cases h), ⟨fun i j p q h => (by cases h), fun k q h => (by cases h)⟩, va_S.rf, ⟨Nat.zero_le _, fun i hi => absurd hi (Nat.not_lt_zero _)⟩, fun k => (by show zt (am_T0 + k - am_T0) = zt k; rw [Nat.add_sub_cancel_left])⟩
  have hl := lv_entry [Value.ref b] (n := 8) (by show 1 ≤ 8; omega)
  rw [lg_entry_eq]
  generalize (lg_sl [Value.ref b] ++ List.replicate (8 - (lg_sl [Value.ref b]).length) Slot.unset).toArray = lsR at hl ⊢
  refine (am_snd (g_cert (gTb L xs) gNew) n).1 (0 + 800) 287 (0, [(0, .ref 1000000005)], []) (c_H ([], 0, 0)) _ _ hev (by decide) l D cA _ zt p e room_1 s m _ below meth c s.heap [] 0 0 _ lsR (fun i => zt (i - am_T0)) 0 0 hfl X (by decide) (by decide) hR ?_ ⟨?_, fun v hv => by cases hv⟩ rfl rfl (by show X'.2.2.2.1 ≤ 601024 + 0; omega) (by show X'.2.2.2.2 ≤ 7293034 + 0; omega) ?_
  · rw [g2]
    have e5 : zt (1000000005 - am_T0) = b := hz5
    show lv_has lsR 8 [(0, .ref (zt (1000000005 - am_T0)))]
    rw [e5]
    exact hl
  · intro q hq
    rw [List.mem_singleton] at hq
    rw [hq]
    exact Or.inr (by decide)
  · intro ad' H' locs' lsR' cells' slots' pc' op st' hR' had hck hret hok hcc hss
    have hst : st' = [.int 1] ∧ decode (gB 287) pc' = .ok (.ireturn, 1) := by
      unfold am_ret at hret
      split at hret
      · cases h43 : Nat.beq op 43 with
        | false => rw [h43, cond_false] at hret; cases hret
        | true => rw [h43, cond_true] at hret; cases hret
      · rename_i x
        cases h40 : Nat.beq op 40 with
        | true =>
          rw [h40, cond_true] at hret
          have h40 := Nat.eq_of_beq_eq_true h40
          subst h40
          have hck : (decide (gRt 287 = some .int) && decide (decode (gB 287) pc' = .ok (.ireturn, 1))) = true := hck
          rw [Bool.and_eq_true] at hck
          cases hret
          exact ⟨rfl, of_decide_eq_true hck.2⟩
        | false =>
          rw [h40, cond_false] at hret
          cases h41 : Nat.beq op 41 with
          | false => rw [h41, cond_false] at hret; cases hret
          | true =>
            rw [h41, cond_true] at hret
            have h41 := Nat.eq_of_beq_eq_true h41
            subst h41
            have hck : (decide (gRt 287 = some .boolean) && decide (decode (gB 287) pc' = .ok (.ireturn, 1))) = true := hck
            rw [Bool.and_eq_true] at hck
            split at hret
            · cases hret
              exact ⟨rfl, of_decide_eq_true hck.2⟩
            · cases hret
      · cases h42 : Nat.beq op 42 with
        | false => rw [h42, cond_false] at hret; cases hret
        | true => rw [h42, cond_true] at hret; cases hret
      · cases h44 : Nat.beq op 44 with
        | false => rw [h44, cond_false] at hret; cases hret
        | true => rw [h44, cond_true] at hret; cases hret
      · cases hret
    obtain ⟨rfl, hd⟩ := hst
    rw [g1] at hd
    have hc' : cells' ≤ 601024 := by
      have : cells' + 0 = X'.2.2.2.1 := hcc
      omega
    have hs' : slots' ≤ 7293034 := by
      have : slots' + 0 = X'.2.2.2.2 := hss
      omega
    refine w_pad hc' hs' ?_
    have hw := W.forget (locs := []) (L := locs') (fun q hq => hR'.2.2.1.2.2 q hq) (lw_ret (l := l) (e := e) (s := s) (m := m) (below := below) (b := b) (H := H') (ls := lsR') hx hb hr hlocks hd)
    exact hw
