/-! the run, where tampers or inputs are added -/
theorem ss_last {f : Nat → Nat} : ∀ (d t : Nat), ss f (d + 1) t = ss f d t + f (t + d)
  | 0, t => by
    show f t + 0 = 0 + f t
    omega
  | d + 1, t => by
    show f t + ss f (d + 1) (t + 1) = (f t + ss f d (t + 1)) + f (t + (d + 1))
    rw [ss_last d (t + 1), show t + 1 + d = t + (d + 1) by omega]
    omega
/-- a tamper of what is not sent yet changes no error -/
theorem eE_app {NT a m k b : Nat} {tp ts tk tb pl : Nat → Nat} {sd : Nat → Bool} (h : ¬ (sd a = true ∧ pl a = m)) : eE (NT + 1) (apn tp NT a) (apn ts NT m) (apn tk NT k) (apn tb NT b) sd pl = eE NT tp ts tk tb sd pl := by
  funext q
  unfold eE
  rw [ss_last, ss_c (g := fun t => if sd (tp t) = true ∧ pl (tp t) = ts t ∧ tk t = q then tb t else 0) NT 0 (fun i _ hi => by rw [apn_n _ _ (by omega), apn_n _ _ (by omega), apn_n _ _ (by omega), apn_n _ _ (by omega)]), show 0 + NT = NT by omega, apn_s, apn_s, if_neg (fun z => h ⟨z.1, z.2.1⟩)]
  rfl
section ENV
variable {cd : Nat → Nat} {sd bs : Int64} {V V' c0 : Nat → Nat → Nat} {P n B a x : Nat} {st : Nat → Bool} {hg : Nat → Nat} {S S' : Nat → Nat → Nat} {X : MX} {I I1 I' I1' : MI} {J J1 J' J1' : MJ}
/-- the trace as far as it was passed -/
theorem tr_env (hE : ∀ i, (∃ x, x < P ∧ i < S 0 x) → evb cd (tr cd bs V c0 i) = true → uE cd V (tr cd bs V c0 i) = uE cd V' (tr cd bs V c0 i)) (hU : ∀ i, bgn P S i → uk cd (tr cd bs V c0 i) = 1 → cd (tr cd bs V c0 i 0 0) = 13 → uI cd V (tr cd bs V c0 i) = uI cd V' (tr cd bs V c0 i)) (hx : x < P) : ∀ i, i ≤ S 0 x → tr cd bs V' c0 i = tr cd bs V c0 i := tr_c (fun i hi => hE i ⟨x, hx, hi⟩) (fun i hi => hU i ⟨x, hx, Or.inl hi⟩)
theorem bgn_le {i : Nat} (h : bgn P S i) : ∃ x, x < P ∧ i ≤ S 0 x := by
  obtain ⟨p, hp, q⟩ := h
  refine ⟨p, hp, ?_⟩
  unfold snt at q
  omega
theorem PI_env (hE : ∀ x, x < P → ∀ i, i ≤ S 0 x → tr cd bs V' c0 i = tr cd bs V c0 i) (h : PI cd bs V c0 P S) (hP : 1 ≤ P) : PI cd bs V' c0 P S := by
  obtain ⟨a1, a2, a3, a4, a5, a6, a7, a8⟩ := h
  have e : ∀ x, x < P → tr cd bs V' c0 (S 0 x) = tr cd bs V c0 (S 0 x) := fun x hx => hE x hx _ (Nat.le_refl _)
  have hc : ∀ j, j < P → ∀ k, hco cd bs V' c0 S j k ↔ hco cd bs V c0 S j k := fun j hj k => by
    unfold hco
    rw [e j hj]
  -- who is farthest
  have far : ∀ m, m < P → ∃ p, p ≤ m ∧ ∀ q, q ≤ m → S 0 q ≤ S 0 p := fun m => by
    induction m with
    | zero => exact fun _ => ⟨0, Nat.le_refl _, fun q hq => by rw [Nat.le_zero.mp hq]; exact Nat.le_refl _⟩
    | succ m ih =>
      intro hm
      obtain ⟨p, hp, hq⟩ := ih (by omega)
      by_cases y : S 0 p ≤ S 0 (m + 1)
      · refine ⟨m + 1, Nat.le_refl _, fun q hq' => ?_⟩
        by_cases z : q = m + 1
        · rw [z]
          exact Nat.le_refl _
        · exact Nat.le_trans (hq q (by omega)) y
      · refine ⟨p, by omega, fun q hq' => ?_⟩
        by_cases z : q = m + 1
        · rw [z]
          omega
        · exact hq q (by omega)
  obtain ⟨M, hM, hMx⟩ := far (P - 1) (by omega)
  have a8' : ∀ i, ¬ bgn P S i → S 20 1 ≤ tr cd bs V' c0 i 0 4 := fun i hi => by
    have old := a8 i hi
    by_cases y : i ≤ S 0 M
    · rw [hE M (by omega) i y]
      exact old
    · have nb : ¬ bgn P S (S 0 M + 1) := fun t => by
        obtain ⟨p, hp, q⟩ := bgn_le t
        have := hMx p (by omega)
        omega
      have o2 := a8 _ nb
      rw [tr_s, nx_ev] at o2
      have m2 := tr_ev (cd := cd) (bs := bs) (V := V') (c0 := c0) (show S 0 M + 1 ≤ i by omega)
      rw [tr_s, nx_ev, e M (by omega)] at m2
      omega
  refine ⟨fun w hw => by rw [e w hw]; exact a1 w hw, fun p hp i hi j hj y => a2 p hp i hi j hj (by rw [hE p hp i (by omega)] at y; exact y), fun j hj p hp hn => by rw [e p hp, e j hj]; exact a3 j hj p hp hn, a4, fun w hw => ⟨fun y j hj => (hc j hj _).mpr ((a5 w hw).1 y j hj), by rw [e w hw]; exact (a5 w hw).2⟩, fun w hw => by rw [e w hw]; exact a6 w hw, fun i hi => ⟨fun y => ?_, fun y => ?_⟩, a8'⟩
  · by_cases z : bgn P S i
    · exact z
    · have := a8' i z
      omega
  · obtain ⟨p, hp, q⟩ := bgn_le y
    rw [hE p hp i q] at hi ⊢
    exact (a7 i hi).mpr y
theorem NI_env (hE : ∀ x, x < P → ∀ i, i ≤ S 0 x → tr cd bs V' c0 i = tr cd bs V c0 i) (h : NI cd bs V c0 st hg P S) : NI cd bs V' c0 st hg P S := ⟨fun w hw => by rw [hE w hw _ (Nat.le_refl _)]; exact h.1 w hw, h.2⟩
theorem MC_env (hE : ∀ x, x < P → ∀ i, i ≤ S 0 x → tr cd (sd + 7000003) V' c0 i = tr cd (sd + 7000003) V c0 i) (hin : ∀ x, x < P → ∀ k, k < S 13 x → V' (10 + x) k = V (10 + x) k) (h : MC cd n P B sd V c0 S X I J) : MC cd n P B sd V' c0 S X I J := ⟨h.1, h.2.1, fun x hx => by
  rw [hE x hx _ (Nat.le_refl _)]
  obtain ⟨q1, q2, q3, ⟨t2, t3, t4, t5, u0, u1, u2, ui⟩, q5, q6⟩ := h.2.2 x hx
  exact ⟨q1, q2, q3, ⟨t2, t3, t4, t5, u0, u1, u2, fun k hk => by rw [hin x hx k hk]; exact ui k hk⟩, q5, q6⟩⟩
theorem MM_env (hE : ∀ x, x < P → ∀ i, i ≤ S 0 x → tr cd (sd + 7000003) V' c0 i = tr cd (sd + 7000003) V c0 i) (hU : ∀ i, bgn P S i → uk cd (tr cd (sd + 7000003) V c0 i) = 1 → cd (tr cd (sd + 7000003) V c0 i 0 0) = 13 → uI cd V (tr cd (sd + 7000003) V c0 i) = uI cd V' (tr cd (sd + 7000003) V c0 i)) (hin : ∀ x, x < P → ∀ k, k < S 13 x → V' (10 + x) k = V (10 + x) k) (h : MM cd st hg n P B sd V c0 S I J) : MM cd st hg n P B sd V' c0 S I J := by
  obtain ⟨h1, h2, h3, h4⟩ := h
  refine ⟨h1, fun i hi hb => ?_, fun j hj k hk => ?_, fun x hx => ?_⟩
  · obtain ⟨p, hp, q⟩ := bgn_le hb
    rw [hE p hp i q] at hi ⊢
    obtain ⟨r1, r2, r3⟩ := h2 i hi hb
    exact ⟨r1, r2, fun y z => by rw [← hU i hb y z]; exact r3 y z⟩
  · refine h3 j hj k ?_
    unfold hco at hk ⊢
    rw [hE j hj _ (Nat.le_refl _)] at hk
    exact hk
  · rw [hE x hx _ (Nat.le_refl _)]
    obtain ⟨q1, q2, q3, ⟨d1, d2, d3⟩, q5⟩ := h4 x hx
    exact ⟨q1, q2, q3, ⟨d1, fun k hk => by rw [hin x hx k hk]; exact d2 k hk, d3⟩, q5⟩
/-- cells that a run doesn't read in this call -/
theorem MC_c2 (hP : P ≤ 4) (hM : MC cd n P B sd V c0 S X I J) (h : ∀ a, 14 ≤ a → a ≤ 102 → I1 a = I a ∧ J1 a = J a) (ho : ∀ a, 168 ≤ a → J1 a = J a) : MC cd n P B sd V c0 S X I1 J1 := by
  obtain ⟨⟨m6, m8, m9, m10, m7, mr, md0, md1, md2⟩, hX, hp⟩ := hM
  have e14 := h 14 (by omega) (by omega)
  have e15 := h 15 (by omega) (by omega)
  have e16 := h 16 (by omega) (by omega)
  have e102 := h 102 (by omega) (by omega)
  refine ⟨by unfold MCg; rw [e14.1, e14.2, e102.1]; exact ⟨m6, m8, m9, m10, m7, rowC_f2 mr e15.1 e16.1, md0, md1, md2⟩, hX, fun x hx => MCp_fr (hp x hx) (fun a a1 a2 => (h a (by omega) (by omega)).1) (fun a a1 a2 => (h a (by omega) (by omega)).2) (OV_fr (hp x hx).2.2.2.2.2 rfl rfl (Nat.le_refl _) ?_) (fun _ _ => rfl) (fun _ _ => rfl) (fun _ _ => rfl) (fun _ _ => rfl) (fun _ => rfl) (fun _ _ _ => rfl)⟩
  rcases (hX.1 x (by omega)).2.1 with y | y
  · exact (h _ (by omega) (by omega)).2
  · exact ho _ y
theorem MM_c2 (hP : P ≤ 4) (hM : MM cd st hg n P B sd V c0 S I J) (h1 : ∀ a, 117 ≤ a → a ≤ 155 → I1 a = I a ∧ J1 a = J a) (h2 : I1 114 = I 114) (f : ∀ j, j ≠ 0 → j ≠ 66 → I1 112 j = I 112 j) (h4 : J1 112 = J 112) : MM cd st hg n P B sd V c0 S I1 J1 := by
  obtain ⟨⟨m16, m17, m34, m35, m60, m24, m26, m28, m114, mk, mb, mo⟩, hE, hKo, hp⟩ := hM
  refine ⟨⟨by rw [f 16 (by decide) (by decide)]; exact m16, by rw [f 17 (by decide) (by decide)]; exact m17, by rw [f 34 (by decide) (by decide)]; exact m34, by rw [f 35 (by decide) (by decide)]; exact m35, by rw [f 60 (by decide) (by decide)]; exact m60, by rw [f 24 (by decide) (by decide)]; exact m24, by rw [f 26 (by decide) (by decide)]; exact m26, by rw [f 28 (by decide) (by decide)]; exact m28, by rw [h2]; exact m114, by rw [h4]; exact mk, by rw [h4]; exact mb, by rw [(h1 117 (by omega) (by omega)).2]; exact mo⟩, MRe_fr hE (h1 151 (by omega) (by omega)).1 (h1 153 (by omega) (by omega)).1 (h1 152 (by omega) (by omega)).2 (fun i _ h => h) (fun i j _ _ _ => Iff.rfl), MRk_fr hKo (h1 154 (by omega) (by omega)).2 (h1 155 (by omega) (by omega)).2 (fun j _ k h => h) (fun j hj => rfl), fun x hx => MRp_fr hP (hp x hx) ⟨fun a a1 a2 _ => by rw [(h1 a (by omega) (by omega)).1], fun i _ _ => by rw [(h1 140 (by omega) (by omega)).1], fun i _ _ => by rw [(h1 143 (by omega) (by omega)).2], fun i _ _ => by rw [(h1 144 (by omega) (by omega)).2], by rw [(h1 146 (by omega) (by omega)).2], (h1 124 (by omega) (by omega)).2, fun j _ => ⟨by rw [(h1 148 (by omega) (by omega)).1], by rw [(h1 149 (by omega) (by omega)).1], by rw [(h1 150 (by omega) (by omega)).1]⟩⟩ (by unfold MRo; rw [(h1 147 (by omega) (by omega)).2]; exact (hp x hx).2.2.2.2) (fun _ _ => rfl) (fun _ _ => rfl) (fun _ _ => rfl) (fun _ _ => rfl)⟩
/-- tampers more -/
def Vt (V : Nat → Nat → Nat) (a m k b : Nat) : Nat → Nat → Nat := fun q => match q with
  | 0 => fun _ => V 0 0 + 1
  | 1 => apn (V 1) (V 0 0) a
  | 2 => apn (V 2) (V 0 0) m
  | 3 => apn (V 3) (V 0 0) k
  | 4 => apn (V 4) (V 0 0) b
  | q => V q
theorem Vt_s {m k b : Nat} : Vt V a m k b (10 + x) = V (10 + x) := by
  unfold Vt
  split <;> first
    | rfl
    | (exfalso; omega)
theorem psv_ge (hI : PI cd bs V c0 P S) {i j : Nat} (hs : sdf cd (tr cd bs V c0 i 0 0) j = true) (he : evb cd (tr cd bs V c0 i) = true) (hn : snt S i j) : tr cd bs V c0 i 6 j < psv cd (tr cd bs V c0 (S 0 j)) (S 1 j) j := by
  unfold psv
  rcases hn with y | ⟨y1, y2⟩
  · have := tr_pllt he hs y
    omega
  · rw [← y1, y2, if_pos ⟨rfl, he⟩]
    omega
theorem tamperC {p2 p3 p4 : Int32} {p5 : Int64} (h : REL X I J I' J') : CN X (f_Sh_tamper p2 p3 p4 p5 I J) (f_Model_tamper p2 p3 p4 p5 I' J') := by
  obtain ⟨P, B, sd, n, cd, hL, hw, hr'⟩ := h.2.2.2
  rcases hr' with ⟨V, G, a1, a2, a3⟩ | ⟨V, c0, S, st, hg, hS, hR, hix⟩
  · refine ⟨0, I, J, TH0 I' 0, J', ?_, ?_, REL_th h⟩
    · unfold f_Sh_tamper
      rw [a2, if_pos (show nI 0 = 0 from rfl)]
    · show (if TH0 I' 0 112 34 = 0 then some (0, TH0 I' 0, J') else _) = _
      rw [TH_n (by decide), a3, if_pos (show nI 0 = 0 from rfl)]
  · obtain ⟨hM, hMM, hT, hI, hN, hJ⟩ := hR
    have hP := hS.2.1.2
    have hC := hS.2.2.2.1
    have psb : ∀ a, a < P → psv cd (tr cd (sd + 7000003) V c0 (S 0 a)) (S 1 a) a < 2 ^ 31 := fun a ha => by
      have q := F_sc hN ha rfl
      have r := (tr_rb (bs := sd + 7000003) (V := V) hC a (S 0 a)).2
      unfold psv
      split <;> omega
    rcases TMP (p2 := p2) (p3 := p3) (p4 := p4) (p5 := p5) (ps := fun a => psv cd (tr cd (sd + 7000003) V c0 (S 0 a)) (S 1 a) a) hP hT (by rw [hM.1.2.2.1]; decide) (by rw [hMM.1.2.2.1]; decide) hM.1.1 hMM.1.1 (fun a ha => ⟨psb a ha, (hM.2.2 a ha).2.2.2.2.1.2.1, (hMM.2.2.2 a ha).2.2.1.2.2.1⟩) with ⟨x1, x2⟩ | ⟨a, m, k, I1, J1, I1', J1', ha, hm, hm2, hk, x1, x2, x3, x4, x5, x6, x7, x8, x9, x10⟩
    · exact ⟨0, I, J, _, J', x1, x2, REL_th h⟩
    · obtain ⟨⟨b1, b2, b3⟩, ⟨tot, hn, c1, c2, c3, c4, c5, c6⟩, hx, hs⟩ := h
      have hE : ∀ x, x < P → ∀ i, i ≤ S 0 x → tr cd (sd + 7000003) (Vt V a m k (nmod p5)) c0 i = tr cd (sd + 7000003) V c0 i := fun x hx => by
        have e1 : ∀ i, (∃ x, x < P ∧ i < S 0 x) → evb cd (tr cd (sd + 7000003) V c0 i) = true → uE cd V (tr cd (sd + 7000003) V c0 i) = uE cd (Vt V a m k (nmod p5)) (tr cd (sd + 7000003) V c0 i) := fun i hy he => by
          obtain ⟨y, hy, hi⟩ := hy
          unfold uE
          refine (eE_app (fun z => ?_)).symm
          have sn := hI.2.1 y hy i hi a ha (snb_evb he z.1)
          have := psv_ge hI z.1 he sn
          omega
        have e2 : ∀ i, bgn P S i → uk cd (tr cd (sd + 7000003) V c0 i) = 1 → cd (tr cd (sd + 7000003) V c0 i 0 0) = 13 → uI cd V (tr cd (sd + 7000003) V c0 i) = uI cd (Vt V a m k (nmod p5)) (tr cd (sd + 7000003) V c0 i) := fun i _ _ h13 => by
          unfold uI
          rw [if_pos h13, if_pos h13, Vt_s]
        exact tr_env e1 e2 hx
      have hU : ∀ i, bgn P S i → uk cd (tr cd (sd + 7000003) V c0 i) = 1 → cd (tr cd (sd + 7000003) V c0 i 0 0) = 13 → uI cd V (tr cd (sd + 7000003) V c0 i) = uI cd (Vt V a m k (nmod p5)) (tr cd (sd + 7000003) V c0 i) := fun i _ _ h13 => by
        unfold uI
        rw [if_pos h13, if_pos h13, Vt_s]
      have hin : ∀ x, x < P → ∀ k', k' < S 13 x → Vt V a m k (nmod p5) (10 + x) k' = V (10 + x) k' := fun x _ k' _ => by rw [Vt_s]
      have fc : ∀ b, b < 103 ∨ 107 < b → I1 b = I b := fun b hb => x4 b (by omega) (by omega) (by omega) (by omega)
      have fJ : ∀ b, b < 107 ∨ 107 < b → J1 b = J b := fun b hb => x5 b (by omega)
      have fr : ∀ b, b ≠ 112 → b < 156 ∨ 158 < b → I1' b = I' b := fun b h1 h2 => x7 b h1 (by omega) (by omega) (by omega)
      have fj : ∀ j, j ≠ 0 → j ≠ 66 → I1' 112 j = I' 112 j := x9
      have hM1 : MC cd n P B sd (Vt V a m k (nmod p5)) c0 S X I1 J1 := MC_c2 hP (MC_env hE hin hM) (fun b h1 h2 => ⟨fc b (by omega), fJ b (by omega)⟩) (fun b hb => fJ b (by omega))
      have hMM1 : MM cd st hg n P B sd (Vt V a m k (nmod p5)) c0 S I1' J1' := MM_c2 hP (MM_env hE hU hin hMM) (fun b h1 h2 => ⟨fr b (by omega) (by omega), x8 b (by omega)⟩) (fr 114 (by decide) (by omega)) fj (x8 112 (by decide))
      refine ⟨1, I1, J1, I1', J1', x1, x2, ⟨R_tape_c b1 (by rw [fc 4 (by omega)]) (fc 5 (by omega)) (fj 2 (by decide) (by decide)) (fr 113 (by decide) (by omega)), R_put_c b2 (by rw [fc 1 (by omega)]) (fc 2 (by omega)) (fj 12 (by decide) (by decide)) (fr 116 (by decide) (by omega)), by unfold R_fault; rw [fc 0 (by omega), fj 3 (by decide) (by decide), fj 4 (by decide) (by decide)]; exact b3⟩, ⟨tot, hn, c1, by rw [fc 0 (by omega)]; exact c2, by rw [fj 30 (by decide) (by decide)]; exact c3, c4, by rw [fc 0 (by omega)]; exact c5, by rw [fj 85 (by decide) (by decide)]; exact c6⟩, hx, P, B, sd, n, cd, LDC_c hL (fc 15 (by omega)) (fc 16 (by omega)) (fr 114 (by decide) (by omega)) (fj 7 (by decide) (by decide)) (fj 8 (by decide) (by decide)), ⟨by rw [fj 8 (by decide) (by decide)]; exact hw.1, hw.2⟩, Or.inr ⟨Vt V a m k (nmod p5), c0, S, st, hg, hS, ⟨hM1, hMM1, x3, PI_env hE hI (by have := hS.2.1.1; omega), NI_env hE hN, hJ⟩, fun x hx4 => by rw [fc (18 + 21 * x) (by omega)]; exact hix x hx4⟩⟩
end ENV
