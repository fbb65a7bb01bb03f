/-! calls, and the soundness of all runs -/
theorem g_yn_eq {a : Nat} (h : a < 1000) : g_yn a = gY a := by
  unfold g_yn
  rw [if_neg (by omega), if_neg (by omega), if_neg (by omega)]
section SND
variable {G : am_G} {D : va_G} {cA : Nat → ClassId} {A : Nat → Prop} {zt : Nat → Nat} {p : Program} {l : Launch} {e : Env} {R : Room} {s : State} {m : MethodId} {args : Array Value} {below : List Frame} {meth : Method} {c : Code} {H : Heap} {locs : List Loc} {cells slots : Nat} {Q : State → Prop} {y pc : Nat} {lsR : Array Slot} {ad : Nat → Nat} {h : am_H}
theorem am_Rel.free (hR : am_Rel D cA A zt s.heap ad h H locs) (hA : ∀ q, s.heap.size ≤ q → A q) : ∀ q, va_A (am_W ad cA h) H.size q → A q := by
  intro q hq
  rcases hq with ⟨k, x, hk⟩ | hq
  · exact hR.2.1.2 k _ hk
  · exact hA q (Nat.le_trans hR.2.2.1.1 hq)
theorem am_back {h1 : am_H} {r : Option Value} {mc ms : Nat} {st0 restR : List Value} {aa : Array Value} (hr : va_Run p l e R s m args below meth c H locs cells slots mc ms (F0 m pc lsR st0) restR (am_Qc D cA zt ad h H.size r h1 aa) (va_A (am_W ad cA h) H.size)) (hA : ∀ q, s.heap.size ≤ q → A q) (hR : am_Rel D cA A zt s.heap ad h H locs)
    (kk : ∀ (ad' : Nat → Nat) (H1 : Heap) (locs1 : List Loc), am_Rel D cA A zt s.heap ad' h1 H1 locs1 → (∀ i, i < h.2.1 → ad' i = ad i) → (∀ v, r = some v → am_ok h1.2.1 v) → W p l e R s m args below meth c H1 locs1 (cells + mc) (slots + ms) Q (F0 m (pc + 3) lsR ((r.map (am_v ad')).toList ++ restR))) :
    W p l e R s m args below meth c H locs cells slots Q (F0 m pc lsR st0) := by
  intro T hT Xs
  obtain ⟨v, st₀, t, T', L, h0, X', hL, e1, e2, ⟨⟨ad', hv, had, hz', hP', hD', hO', hok'⟩, hz, hk⟩, st⟩ := hr T hT Xs
  cases hv
  rw [h0] at hz hk
  have hF := hR.free hA
  have hS := hR.2.2.1
  obtain ⟨t2, a1, b1⟩ := kk ad' T'.heap (locs ++ L) ⟨by rw [e1]; exact hP', hD'.weaken (fun k q _ h => hF q.1 h), ⟨Nat.le_trans hS.1 (by rw [e1]; exact hz), fun q h1 h2 => by rw [e1, hk q (Nat.lt_of_lt_of_le h1 hS.1) (fun z => h2 (hF q z))]; exact hS.2.1 q h1 h2, fun q hq => by
      rcases List.mem_append.mp hq with h | h
      · exact hS.2.2 q h
      · exact hF _ (hL q h)⟩, hO', hz'⟩ had hok' T' rfl X'
  exact ⟨t2, st t2 a1, b1⟩
theorem am_pre (X : am_Ctx G D cA A zt p s m meth c args y) (hR : am_Rel D cA A zt s.heap ad h H locs) (As : List Value) : ∀ U : State, U.heap = H → s.WarmedH U.vm → am_Pc G D cA zt ad h As H.size (As.map (am_v ad)).toArray U := by
  obtain ⟨hx, hb, hml, hown, hts, hnm, hK, hA, hN, hT, hGn⟩ := X
  intro U hU hW
  have hF := hR.free hA
  obtain ⟨hP, hD, hS, hO, hz⟩ := hR
  refine ⟨rfl, by rw [hU], by rw [hU]; exact hP, va_K.moved hW.alike hK, hD.weaken (fun _ _ _ _ => trivial), hN.warm hW, ?_⟩
  rw [hU]
  exact ((hT.kept (fun q h1 h2 => hS.2.1 q h1 h2)).narrow hF).moved hW.alike
set_option maxHeartbeats 4000000 in
theorem am_run (X : am_Ctx G D cA A zt p s m meth c args y) (hG2 : ∀ y, G.2.2.2 y = (gK y, gL y)) {a b : Nat} {sw : List (Int32 × Nat)} (hck : ck_call y pc a b sw = true) {As rest st : List Value} (hst : st = As.reverse ++ rest) (hlen : As.length = b) (hcan : am_can G a As h = true) (hw : am_wt rest ≤ 8) (hR : am_Rel D cA A zt s.heap ad h H locs) (hsz : lsR.size = gL y)
    {d mc ms : Nat} {Qc : Array Value → State → Outcome → State → Prop} {free : Addr → Prop} (M : Met l (gY a) (g_ws a) (am_room d mc ms) (am_Pc G D cA zt ad h As H.size) Qc mc ms free) (hfr : d + 2 ≤ R.frames) (hlo : 64 * (d + 2) ≤ R.locals) (hf : cells + mc ≤ R.cells ∧ slots + ms ≤ R.slots) :
    a ∈ g_cm ∧ va_Run p l e R s m args below meth c H locs cells slots mc ms (F0 m pc lsR (st.map (am_v ad))) (rest.map (am_v ad)) (Qc (As.map (am_v ad)).toArray) free := by
  have hpre := am_pre X hR As
  have hbl := am_Pc.blind G D cA zt ad h As H.size
  obtain ⟨hx, hb, hml, hown, hts, hnm, hK, hA, hN, hT, hGn⟩ := X
  have hP := hR.1
  unfold ck_call at hck
  split at hck
  · rename_i j
    cases hj : g_cl[j]? with
    | none => rw [hj] at hck; cases hck
    | some z =>
      obtain ⟨o, i, f, k, z⟩ := z
      rw [hj] at hck
      simp only [Bool.and_eq_true, Bool.or_eq_true, decide_eq_true_eq] at hck
      obtain ⟨⟨⟨⟨⟨rfl, rfl⟩, ha⟩, ha1⟩, hf01⟩, hk⟩ := hck
      refine ⟨ha, ?_⟩
      obtain ⟨o15, ocls, -, onot, oL, ok2, ok1⟩ := g_cm_ok z ha
      have hini : (Cond.initialized (gY z).cls).before args s = true := by rw [ocls]; exact hts _ (gAll_of (g_ini_in o15) rfl)
      have hroom : (am_room d mc ms).frames + 1 ≤ R.frames ∧ 8 + (gL z + 11) + (am_room d mc ms).locals ≤ R.locals := ⟨hfr, by show 8 + (gL z + 11) + 64 * (d + 1) ≤ R.locals; omega⟩
      have S : CallFix p m c (gB y) (gL y) s args gAll (gR (gO y)) := ⟨hx, hb, hml, hown, hts⟩
      have hwt : 2 * (F0 m pc lsR (st.map (am_v ad))).monitorRoom + ((rest.map (am_v ad)).map fun v => v.category).sum ≤ 8 := by
        rw [am_wt_map]; show 2 * 0 + am_wt rest ≤ 8; omega
      have hstR : st.map (am_v ad) = (As.map (am_v ad)).reverse ++ rest.map (am_v ad) := by rw [hst, List.map_append, List.map_reverse]
      have hnest : f = 1 → va_Nw (.methodLinkNest (gR (gO y)) i (gY z) "ShareHall") s := by
        intro hf1
        have := hN.2.1 _ (List.mem_of_getElem? hj) hf1
        subst hf1
        have e : g_clw (gO y, i, 1, k, z) = .methodLinkNest (gR (gO y)) i (g_yn z) "ShareHall" := rfl
        rw [e, g_yn_eq ha1] at this
        exact this
      have hplain : f = 0 → (Cond.methodLink (gR (gO y)) i (gY z)).before args s = true := by
        intro hf0
        subst hf0
        have := g_cl_in hj
        have e : g_clw (gO y, i, 0, k, z) = .methodLink (gR (gO y)) i (g_yn z) := rfl
        rw [e, g_yn_eq ha1] at this
        exact hts _ (gAll_of this rfl)
      unfold am_can at hcan
      rw [hG2, Bool.and_eq_true] at hcan
      obtain ⟨-, hcan⟩ := hcan
      match k, hk with
      | 0, hk =>
        simp only [Bool.and_eq_true, decide_eq_true_eq] at hk
        obtain ⟨⟨hk0, hd⟩, hpn⟩ := hk
        have hstat : (Cond.static (gY z)).before args s = true := hts _ (gAll_of (gw_stat (gw_stat_sub z ha hk0)) rfl)
        have hn : (As.map (am_v ad)).length = b := by rw [List.length_map]; exact hlen
        rcases hf01 with hf0 | hf1
        · exact va_runS S M ⟨callB_of b hts (g_good ha) rfl rfl rfl hini (hplain (Nat.eq_of_beq_eq_true hf0)) ⟨onot.1, onot.2, hpn⟩ hroom, hstat⟩ ⟨hbl, hpre⟩ rfl hn hsz hstR hwt hd hf
        · exact va_runSN S M ⟨va_cnB b hts (g_good ha) rfl rfl rfl (hnest (Nat.eq_of_beq_eq_true hf1)) hini ⟨onot.1, onot.2, hpn⟩ hroom, hstat, trivial⟩ ⟨hbl, hpre⟩ rfl hn hsz hstR hwt hd hf
      | 1, hk =>
        simp only [Bool.and_eq_true, decide_eq_true_eq] at hk
        obtain ⟨⟨hk0, hd⟩, hpn⟩ := hk
        have hinst : (Cond.instanceMethod (gY z)).before args s = true := hts _ (gAll_of (gw_inst (gw_inst_sub z ha (by omega))) rfl)
        have hsel : (Cond.selects (gY z).cls (gY z) (gY z)).before args s = true := hts _ (gAll_of (gw_sel (gw_sel_sub z ha hk0)) rfl)
        obtain ⟨o13, oK⟩ := ok2 hk0
        rw [oK] at hcan
        cases As with
        | nil => cases hcan
        | cons w As' =>
          cases w with
          | ref q =>
            have hcan : (Nat.blt q h.2.1 && (match h.1 q with
              | .inr (ci, _) => Nat.beq ci (gO z)
              | _ => false)) = true := hcan
            rw [Bool.and_eq_true] at hcan
            obtain ⟨hq1, hq2⟩ := hcan
            have hq : q < h.2.1 := Nat.le_of_ble_eq_true hq1
            split at hq2
            · rename_i ci fs hc
              have hq3 := Nat.eq_of_beq_eq_true hq2
              subst hq3
              have he : (am_W ad cA h)[q]? = some (ad q, .inr (gO z, fs.map (am_v ad))) := by rw [am_W_at hq, hc]; rfl
              have hrec := va_recv hK hP (gcl_at o13) he
              have hst2 : st.map (am_v ad) = (As'.map (am_v ad)).reverse ++ .ref (ad q) :: rest.map (am_v ad) := by rw [hstR]; simp [am_v]
              have hpre' : PreV s H (gY z).cls (ad q) (am_Pc G D cA zt ad h (.ref q :: As') H.size) (As'.map (am_v ad)) := ⟨hbl, by rw [ocls]; exact hrec, hpre⟩
              cases b with
              | zero => cases hpn
              | succ b' =>
                have hpn : g_pn z = some b' := of_decide_eq_true hpn
                have hn : (As'.map (am_v ad)).length = b' := by rw [List.length_map]; simpa using hlen
                rcases hf01 with hf0 | hf1
                · exact va_runV S M ⟨callB_of b' hts (g_good ha) rfl rfl rfl hini (hplain (Nat.eq_of_beq_eq_true hf0)) ⟨onot.1, onot.2, hpn⟩ hroom, hinst, hsel⟩ hpre' rfl hn hsz hst2 hwt hd hf
                · exact va_runVN S M ⟨va_cnB b' hts (g_good ha) rfl rfl rfl (hnest (Nat.eq_of_beq_eq_true hf1)) hini ⟨onot.1, onot.2, hpn⟩ hroom, hinst, hsel⟩ hpre' rfl hn hsz hst2 hwt hd hf
            · cases hq2
          | _ => cases hcan
      | 2, hk =>
        simp only [Bool.and_eq_true, decide_eq_true_eq] at hk
        obtain ⟨⟨hk0, hd⟩, hpn⟩ := hk
        have hinst : (Cond.instanceMethod (gY z)).before args s = true := hts _ (gAll_of (gw_inst (gw_inst_sub z ha (by omega))) rfl)
        obtain ⟨oin, oret⟩ := ok1 hk0
        rw [hk0] at hcan
        cases As with
        | nil => cases hcan
        | cons w As' =>
          cases w with
          | ref q =>
            have hst2 : st.map (am_v ad) = (As'.map (am_v ad)).reverse ++ .ref (ad q) :: rest.map (am_v ad) := by rw [hstR]; simp [am_v]
            have hwsr : g_ws z = Cond.code (gY z) (gB z) (gL z) none :: gAll := by unfold g_ws; rw [oret]
            cases b with
            | zero => cases hpn
            | succ b' =>
              have hpn : g_pn z = some b' := of_decide_eq_true hpn
              have hn : (As'.map (am_v ad)).length = b' := by rw [List.length_map]; simpa using hlen
              rcases hf01 with hf0 | hf1
              · exact va_runI S M ⟨callB_of b' hts (g_good ha) hwsr rfl rfl hini (hplain (Nat.eq_of_beq_eq_true hf0)) ⟨onot.1, onot.2, hpn⟩ hroom, oin, hinst⟩ ⟨hbl, hpre⟩ rfl hn hsz hst2 hwt hd hf
              · exact va_runIN S M ⟨va_cnB b' hts (g_good ha) hwsr rfl rfl (hnest (Nat.eq_of_beq_eq_true hf1)) hini ⟨onot.1, onot.2, hpn⟩ hroom, oin, hinst⟩ ⟨hbl, hpre⟩ rfl hn hsz hst2 hwt hd hf
          | _ => cases hcan
      | n + 3, hk => cases hk
  · cases hck
end SND
theorem g_cm_lt : ∀ y ∈ g_cm, y < 289 := by decide +kernel
