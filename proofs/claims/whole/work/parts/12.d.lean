/-! ALL RUNS OF THE ABSTRACT MACHINE ARE RUNS OF THE MACHINE -/
theorem am_ck_hp {y pc a b : Nat} {sw : List (Int32 × Nat)} (hck : ck_cW y pc a b sw = true) : a ∈ g_hp ∧ sw.tail = g_hk a := by
  unfold ck_cW at hck
  split at hck
  · rename_i j r
    cases hj : g_cl[j]? with
    | none => rw [hj] at hck; cases hck
    | some z =>
      obtain ⟨o, i, f, k, z⟩ := z
      rw [hj] at hck
      simp only [Bool.and_eq_true, decide_eq_true_eq] at hck
      exact ⟨hck.1.1.1.1.1.2, hck.2⟩
  · cases hck
section CALLW
variable {G : am_G} {D : va_G} {cA : Nat → ClassId} {A : Nat → Prop} {zt : Nat → Nat} {p : Program} {l : Launch} {e : Env} {R : Room} {s : State} {m : MethodId} {args : Array Value} {below : List Frame} {meth : Method} {c : Code} {H : Heap} {locs : List Loc} {cells slots : Nat} {Q : State → Prop} {y pc : Nat} {lsR : Array Slot} {ad : Nat → Nat} {h : am_H}
set_option maxHeartbeats 4000000 in
theorem am_runW (X : am_Ctx G D cA A zt p s m meth c args y) {a b : Nat} {sw : List (Int32 × Nat)} (hck : ck_cW y pc a b sw = true) {As rest st : List Value} (hst : st = As.reverse ++ rest) (hlen : As.length = b) (hw : am_wt rest ≤ 8) (hR : am_Rel D cA A zt s.heap ad h H locs) (hsz : lsR.size = gL y)
    {d mc ms : Nat} {Qc : Array Value → State → Outcome → State → Prop} {free : Addr → Prop} (M : Met l (gY a) (g_wsW a) (am_room d mc ms) (am_Pc G D cA zt ad h As H.size) Qc mc ms free) (hfr : d + 2 ≤ R.frames) (hlo : 64 * (d + 2) ≤ R.locals) (hf : cells + mc ≤ R.cells ∧ slots + ms ≤ R.slots) :
    va_Run p l e R s m args below meth c H locs cells slots mc ms (F0 m pc lsR (st.map (am_v ad))) (rest.map (am_v ad)) (Qc (As.map (am_v ad)).toArray) free := by
  have hpre := am_pre X hR As
  have hbl := am_Pc.blind G D cA zt ad h As H.size
  obtain ⟨hx, hb, hml, hown, hts, hnm, hK, hA, hN, hT, hGn⟩ := X
  unfold ck_cW at hck
  split at hck
  · rename_i j r
    cases hj : g_cl[j]? with
    | none => rw [hj] at hck; cases hck
    | some z =>
      obtain ⟨o, i, f, k, z⟩ := z
      rw [hj] at hck
      simp only [Bool.and_eq_true, decide_eq_true_eq] at hck
      obtain ⟨⟨⟨⟨⟨⟨⟨rfl, rfl⟩, ha⟩, hf0⟩, hk0⟩, hd⟩, hpn⟩, -⟩ := hck
      have hf0 := Nat.eq_of_beq_eq_true hf0
      subst hf0
      obtain ⟨-, -, o13, ocls, -, onot, oL, -, -, o9⟩ := g_hp_ok z ha
      have hini : (Cond.initialized (gY z).cls).before args s = true := by rw [ocls]; exact hts _ (gAll_of (g_ini_in (by rw [o13]; decide)) rfl)
      have S : CallFix p m c (gB y) (gL y) s args gAll (gR (gO y)) := ⟨hx, hb, hml, hown, hts⟩
      have hwt : 2 * (F0 m pc lsR (st.map (am_v ad))).monitorRoom + ((rest.map (am_v ad)).map fun v => v.category).sum ≤ 8 := by
        rw [am_wt_map]; show 2 * 0 + am_wt rest ≤ 8; omega
      have hstR : st.map (am_v ad) = (As.map (am_v ad)).reverse ++ rest.map (am_v ad) := by rw [hst, List.map_append, List.map_reverse]
      have hplain : (Cond.methodLink (gR (gO y)) i (gY z)).before args s = true := by
        have := g_cl_in hj
        have e : g_clw (gO y, i, 0, k, z) = .methodLink (gR (gO y)) i (g_yn z) := rfl
        rw [e, g_yn_eq (by omega)] at this
        exact hts _ (gAll_of this rfl)
      have hcode : (Cond.codeWith (gY z) (gB z) (gL z) (gRt z) (g_hh z)).before args s = true := hts _ (gAll_of (g_hin g_hw1 ha) rfl)
      have hstat : (Cond.static (gY z)).before args s = true := hts _ (gAll_of (g_hin g_hw2 ha) rfl)
      exact th_runS S M rfl rfl hfr (by show 8 + (gL z + 11) + 64 * (d + 1) ≤ R.locals; omega) (pay_in hts (g_goodW ha)) List.mem_cons_self hcode hini hstat onot hpn hplain ⟨hbl, hpre⟩ rfl (by rw [List.length_map]; exact hlen) hsz hstR hwt hd hf
  · cases hck
theorem am_q_eq {ad' : Nat → Nat} {ls : List (Nat × Value)} (hls : ∀ q ∈ ls, am_ok h.2.1 q.2) (had : ∀ i, i < h.2.1 → ad' i = ad i) (h1 : ∀ k, ad' (am_T0 + k) = zt k) (h2 : ∀ k, ad (am_T0 + k) = zt k) : ls.map (am_q ad') = ls.map (am_q ad) := List.map_congr_left (fun q hq => by
  have := hls q hq
  unfold am_q
  cases hv : q.2 with
  | ref i =>
    rw [hv] at this
    rcases this with h3 | h3
    · simp [am_v, had i h3]
    · have e1 := h1 (i - am_T0)
      have e2 := h2 (i - am_T0)
      rw [Nat.add_sub_cancel' h3] at e1 e2
      simp [am_v, e1, e2]
  | _ => rfl)
theorem am_v_eq {ad' : Nat → Nat} {st : List Value} (hst : ∀ v ∈ st, am_ok h.2.1 v) (had : ∀ i, i < h.2.1 → ad' i = ad i) (h1 : ∀ k, ad' (am_T0 + k) = zt k) (h2 : ∀ k, ad (am_T0 + k) = zt k) : st.map (am_v ad') = st.map (am_v ad) := List.map_congr_left (fun v hv => by
  have := hst v hv
  cases v with
  | ref i =>
    rcases this with h3 | h3
    · simp [am_v, had i h3]
    · have e1 := h1 (i - am_T0)
      have e2 := h2 (i - am_T0)
      rw [Nat.add_sub_cancel' h3] at e1 e2
      simp [am_v, e1, e2]
  | _ => rfl)
set_option maxHeartbeats 4000000 in
/-- a call that comes back: with an answer, or with what the helper answers for an exception -/
theorem am_callW {n : Nat} (ihN : am_SndN G n) (ihT : am_SndT G n) (hC : am_Cert G) (hfl : l.flags = pinnedFlags ++ [noTraceFlag]) (X : am_Ctx G D cA A zt p s m meth c args y) (hy : y < 289) {d : Nat} {ls : List (Nat × Value)} {st As rest : List Value} {h1 : am_H} {z : am_R} {v : Option Value} (h50 : 50 ≤ (G.1 y pc).1) (h52 : (G.1 y pc).1 ≤ 52)
    (e1 : am_take (G.1 y pc).2.2.1 st = some (As, rest)) (e2 : am_can G (G.1 y pc).2.1 As h = true) (e3 : am_wt rest ≤ 8) (e4 : am_ev G n d (G.1 y pc).2.1 (0, lv_args 0 As, []) h = some (z, h1)) (hz : z = .inl v ∨ ∃ x k, z = .inr x ∧ (G.1 y pc).1 = 51 ∧ am_hand x (G.1 y pc).2.2.2.2.tail = some k ∧ v = some (.int k))
    (hfr : d + 2 ≤ R.frames) (hlo : 64 * (d + 2) ≤ R.locals) (hR : am_Rel D cA A zt s.heap ad h H locs) (hl : lv_has lsR (gL y) (ls.map (am_q ad))) (hok : am_okF h.2.1 ls st) (hf : cells + (h1.2.2.1 - h.2.2.1) ≤ R.cells ∧ slots + (h1.2.2.2 - h.2.2.2) ≤ R.slots)
    (kk : ∀ (ad' : Nat → Nat) (H1 : Heap) (locs1 : List Loc), am_Rel D cA A zt s.heap ad' h1 H1 locs1 → (∀ i, i < h.2.1 → ad' i = ad i) → lv_has lsR (gL y) (ls.map (am_q ad')) → am_okF h1.2.1 ls (v.toList ++ rest) → W p l e R s m args below meth c H1 locs1 (cells + (h1.2.2.1 - h.2.2.1)) (slots + (h1.2.2.2 - h.2.2.2)) Q (F0 m (pc + 3) lsR ((v.toList ++ rest).map (am_v ad')))) :
    W p l e R s m args below meth c H locs cells slots Q (F0 m pc lsR (st.map (am_v ad))) := by
  obtain ⟨c1, c2, c3, c4, c5, c6⟩ := hC.2 y hy pc
  obtain ⟨t1, t2⟩ := am_take_ok e1
  have hAs : ∀ w ∈ As, am_ok h.2.1 w := fun w hw => hok.2 w (by rw [t1]; exact List.mem_append_left _ (List.mem_reverse.mpr hw))
  have hrest : ∀ w ∈ rest, am_ok h.2.1 w := fun w hw => hok.2 w (by rw [t1]; exact List.mem_append_right _ hw)
  have hm1 := am_ev_mono e4
  have hwt : am_wt As ≤ gL (G.1 y pc).2.1 := by
    have h2 := e2
    unfold am_can at h2
    rw [hC.1, Bool.and_eq_true] at h2
    exact Nat.le_of_ble_eq_true h2.1
  have hGn := X.2.2.2.2.2.2.2.2.2.2
  have hrun : va_Run p l e R s m args below meth c H locs cells slots (h1.2.2.1 - h.2.2.1) (h1.2.2.2 - h.2.2.2) (F0 m pc lsR (st.map (am_v ad))) (rest.map (am_v ad)) (am_Qc D cA zt ad h H.size v h1 (As.map (am_v ad)).toArray) (va_A (am_W ad cA h) H.size) := by
    by_cases h51 : (G.1 y pc).1 = 51
    · have hck := c4 h51
      obtain ⟨hp, htl⟩ := am_ck_hp hck
      rcases hz with rfl | ⟨x, k, rfl, -, hk, rfl⟩
      · have M := am_metW ihN hGn hp e4 hR.2.2.2.1 hAs hwt l hfl D cA zt ad H.size hR.2.2.2.2
        exact am_runW X hck t1 t2 e3 hR hl.1 M hfr hlo hf
      · rw [htl] at hk
        have M := am_metX ihT hC hGn hp e4 hk hR.2.2.2.1 hAs hwt l hfl D cA zt ad H.size hR.2.2.2.2
        exact am_runW X hck t1 t2 e3 hR hl.1 M hfr hlo hf
    · have hck := c3 (by omega)
      rcases hz with rfl | ⟨x, k, -, q, -⟩
      · have ha := am_ck_cm hck
        have M := am_met ihN hGn ha (g_cm_lt _ ha) e4 hR.2.2.2.1 hAs hwt l hfl D cA zt ad H.size hR.2.2.2.2
        exact (am_run X hC.1 hck t1 t2 e2 e3 hR hl.1 M hfr hlo hf).2
      · exact absurd q h51
  refine am_back hrun X.2.2.2.2.2.2.2.1 hR (fun ad' H1 locs1 hR1 had hokr => ?_)
  have hst' := am_v_eq hrest had hR1.2.2.2.2 hR.2.2.2.2
  have k2 := kk ad' H1 locs1 hR1 had (by rw [am_q_eq hok.1 had hR1.2.2.2.2 hR.2.2.2.2]; exact hl) ⟨fun q hq => am_ok_up hm1.1 (hok.1 q hq), fun w hw => by
    rcases List.mem_append.mp hw with q | q
    · exact hokr w (by cases v with
        | none => cases q
        | some u => simp at q; rw [q])
    · exact am_ok_up hm1.1 (hrest w q)⟩
  have e6 : (v.toList ++ rest).map (am_v ad') = (v.map (am_v ad')).toList ++ rest.map (am_v ad) := by
    rw [List.map_append, hst']
    cases v <;> rfl
  rw [e6] at k2
  exact k2
end CALLW
set_option maxHeartbeats 4000000 in
theorem am_snd {G : am_G} (hC : am_Cert G) : ∀ n, am_SndN G n ∧ am_SndT G n := by
  intro n
  induction n with
  | zero => exact ⟨fun d y f h r h' hh => (by cases hh), fun d y f h r h' hh => (by cases hh)⟩
  | succ n ih =>
    obtain ⟨ihN, ihT⟩ := ih
    constructor
    · intro d y f h r h' hh hy l D cA A zt p e R s m args below meth c H locs cells slots Q lsR ad z1 z2 hfl X hfr hlo hR hl hok hcc hss hc1 hs1 kk
      obtain ⟨pc, ls, st⟩ := f
      obtain ⟨c1, c2, -⟩ := hC.2 y hy pc
      rcases am_body_turn hh with ⟨h39, f1, h1, e1, e2⟩ | ⟨n39, h44, v, e1, e2⟩ | ⟨-, -, -, e2⟩ | ⟨h50, h52, As, rest, d', z, h1, rfl, e1, e2, e3, e4, e5⟩
      · have hm := am_ev_mono e2
        refine am_snd1 X (z1 := z1) (z2 := z2) (by omega) (by omega) (c1 h39) e1 hR hl hok hcc hss (Nat.le_trans hm.2.1 hc1) (Nat.le_trans hm.2.2 hs1) (fun ad' H' locs' lsR' cells' slots' hR' had hl' hok' hcc' hss' => ?_)
        refine ihN d y f1 h1 r h' e2 hy l D cA A zt p e R s m args below meth c H' locs' cells' slots' Q lsR' ad' z1 z2 hfl X hfr hlo hR' hl' hok' hcc' hss' hc1 hs1 (fun ad2 H2 locs2 lsR2 cells2 slots2 pc2 op2 st2 hR2 had2 hck2 hret2 hok2 hcc2 hss2 => ?_)
        exact kk ad2 H2 locs2 lsR2 cells2 slots2 pc2 op2 st2 hR2 (fun i hi => by rw [had2 i (Nat.lt_of_lt_of_le hi (am_1_mono e1).1), had i hi]) hck2 hret2 hok2 hcc2 hss2
      · cases e2
        exact kk ad H locs lsR cells slots pc _ st hR (fun _ _ => rfl) (c2 n39 h44) e1 hok.2 hcc hss
      · cases e2
      · have hm1 := am_ev_mono e4
        have goon : ∀ v : Option Value, (z = .inl v ∨ ∃ x k, z = .inr x ∧ (G.1 y pc).1 = 51 ∧ am_hand x (G.1 y pc).2.2.2.2.tail = some k ∧ v = some (.int k)) → am_ev G n (d' + 1) y (pc + 3, ls, v.toList ++ rest) h1 = some (.inl r, h') → W p l e R s m args below meth c H locs cells slots Q (F0 m pc lsR (st.map (am_v ad))) := by
          intro v hz e6
          have hm2 := am_ev_mono e6
          obtain ⟨ma1, ma2, ma3⟩ := id hm1
          obtain ⟨mb1, mb2, mb3⟩ := id hm2
          refine am_callW ihN ihT hC hfl X hy h50 h52 e1 e2 e3 e4 hz (by omega) (by omega) hR hl hok ⟨by omega, by omega⟩ (fun ad' H1 locs1 hR1 had hl1 hok1 => ?_)
          exact ihN (d' + 1) y (pc + 3, ls, v.toList ++ rest) h1 r h' e6 hy l D cA A zt p e R s m args below meth c H1 locs1 _ _ Q lsR ad' z1 z2 hfl X hfr hlo hR1 hl1 hok1 (by omega) (by omega) hc1 hs1 (fun ad2 H2 locs2 lsR2 cells2 slots2 pc2 op2 st2 hR2 had2 hck2 hret2 hok2 hcc2 hss2 => kk ad2 H2 locs2 lsR2 cells2 slots2 pc2 op2 st2 hR2 (fun i hi => by rw [had2 i (Nat.lt_of_lt_of_le hi hm1.1), had i hi]) hck2 hret2 hok2 hcc2 hss2)
        rcases am_post_ok e5 with ⟨v, rfl, e6⟩ | ⟨x, k, rfl, h51, hk, e6⟩ | ⟨x, -, -, e6⟩
        · exact goon v (Or.inl rfl) e6
        · exact goon (some (.int k)) (Or.inr ⟨x, k, rfl, h51, hk, rfl⟩) e6
        · cases e6
    · intro d y f h x h' hh hy l D cA A zt p e R s m args below meth c H locs cells slots Q lsR ad z1 z2 hfl X hfr hlo hR hl hok hcc hss hc1 hs1 k70 k52
      obtain ⟨pc, ls, st⟩ := f
      obtain ⟨c1, c2, -⟩ := hC.2 y hy pc
      rcases am_body_turn hh with ⟨h39, f1, h1, e1, e2⟩ | ⟨n39, h44, v, e1, e2⟩ | ⟨h70, h5, hst, e2⟩ | ⟨h50, h52, As, rest, d', z, h1, rfl, e1, e2, e3, e4, e5⟩
      · have hm := am_ev_mono e2
        have hm0 := (am_1_mono e1).1
        refine am_snd1 X (z1 := z1) (z2 := z2) (by omega) (by omega) (c1 h39) e1 hR hl hok hcc hss (Nat.le_trans hm.2.1 hc1) (Nat.le_trans hm.2.2 hs1) (fun ad' H' locs' lsR' cells' slots' hR' had hl' hok' hcc' hss' => ?_)
        refine ihT d y f1 h1 x h' e2 hy l D cA A zt p e R s m args below meth c H' locs' cells' slots' Q lsR' ad' z1 z2 hfl X hfr hlo hR' hl' hok' hcc' hss' hc1 hs1 (fun ad2 h2 H2 locs2 lsR2 cells2 slots2 pc2 g1 g2 g3 g4 g5 g6 g7 g8 g9 => ?_) (fun ad2 h2 H2 locs2 lsR2 cells2 slots2 pc2 d2 ls2 st2 As2 rest2 g1 g0 g2 g3 g4 g5 g6 g7 g8 g9 g10 g11 g12 => ?_)
        · exact k70 ad2 h2 H2 locs2 lsR2 cells2 slots2 pc2 g1 g2 g3 g4 g5 (fun i hi => by rw [g6 i (Nat.lt_of_lt_of_le hi hm0), had i hi]) g7 g8 g9
        · exact k52 ad2 h2 H2 locs2 lsR2 cells2 slots2 pc2 d2 ls2 st2 As2 rest2 g1 (Nat.le_trans hm0 g0) g2 g3 g4 g5 (am_ev_up G _ _ _ _ _ _ g6) g7 (fun i hi => by rw [g8 i (Nat.lt_of_lt_of_le hi hm0), had i hi]) g9 g10 g11 g12
      · cases e2
      · have hst : st = [] := hst
        subst hst
        injection e2 with q1 q2
        injection q1 with q3
        exact k70 ad h H locs lsR cells slots pc q2 h5 h70 q3.symm hR (fun _ _ => rfl) hl.1 hcc hss
      · have hm1 := am_ev_mono e4
        have goon : ∀ v : Option Value, (z = .inl v ∨ ∃ x k, z = .inr x ∧ (G.1 y pc).1 = 51 ∧ am_hand x (G.1 y pc).2.2.2.2.tail = some k ∧ v = some (.int k)) → am_ev G n (d' + 1) y (pc + 3, ls, v.toList ++ rest) h1 = some (.inr x, h') → W p l e R s m args below meth c H locs cells slots Q (F0 m pc lsR (st.map (am_v ad))) := by
          intro v hz e6
          have hm2 := am_ev_mono e6
          obtain ⟨ma1, ma2, ma3⟩ := id hm1
          obtain ⟨mb1, mb2, mb3⟩ := id hm2
          refine am_callW ihN ihT hC hfl X hy h50 h52 e1 e2 e3 e4 hz (by omega) (by omega) hR hl hok ⟨by omega, by omega⟩ (fun ad' H1 locs1 hR1 had hl1 hok1 => ?_)
          refine ihT (d' + 1) y (pc + 3, ls, v.toList ++ rest) h1 x h' e6 hy l D cA A zt p e R s m args below meth c H1 locs1 _ _ Q lsR ad' z1 z2 hfl X hfr hlo hR1 hl1 hok1 (by omega) (by omega) hc1 hs1 (fun ad2 h2 H2 locs2 lsR2 cells2 slots2 pc2 g1 g2 g3 g4 g5 g6 g7 g8 g9 => ?_) (fun ad2 h2 H2 locs2 lsR2 cells2 slots2 pc2 d2 ls2 st2 As2 rest2 g1 g0 g2 g3 g4 g5 g6 g7 g8 g9 g10 g11 g12 => ?_)
          · exact k70 ad2 h2 H2 locs2 lsR2 cells2 slots2 pc2 g1 g2 g3 g4 g5 (fun i hi => by rw [g6 i (Nat.lt_of_lt_of_le hi hm1.1), had i hi]) g7 g8 g9
          · exact k52 ad2 h2 H2 locs2 lsR2 cells2 slots2 pc2 d2 ls2 st2 As2 rest2 g1 (Nat.le_trans hm1.1 g0) g2 g3 g4 g5 (am_ev_up G _ _ _ _ _ _ g6) g7 (fun i hi => by rw [g8 i (Nat.lt_of_lt_of_le hi hm1.1), had i hi]) g9 g10 g11 g12
        rcases am_post_ok e5 with ⟨v, rfl, e6⟩ | ⟨x', k, rfl, h51, hk, e6⟩ | ⟨x', rfl, h52', e6⟩
        · exact goon v (Or.inl rfl) e6
        · exact goon (some (.int k)) (Or.inr ⟨x', k, rfl, h51, hk, rfl⟩) e6
        · injection e6 with q1 q2
          injection q1 with q3
          subst q2
          subst q3
          exact k52 ad h H locs lsR cells slots pc d' ls st As rest rfl (Nat.le_refl _) h52' e1 e2 e3 (am_ev_up G _ _ _ _ _ _ e4) hR (fun _ _ => rfl) hl hok hcc hss
