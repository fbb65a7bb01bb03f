/-! give and deal, of both -/
def Vg (V : Nat → Nat → Nat) (a g v : Nat) : Nat → Nat → Nat := fun k => if k = 10 + a then apn (V (10 + a)) g v else V k
section GD
variable {cd : Nat → Nat} {sd : Int64} {V c0 G : Nat → Nat → Nat} {P n B a x g v : Nat} {st : Nat → Bool} {hg : Nat → Nat} {S : Nat → Nat → Nat} {X : MX} {I I1 I' I1' : MI} {J J1 J' J1' : MJ} {p2 p3 : Int32}
theorem Vg_lo {k : Nat} (h : k < 10) : Vg V a g v k = V k := if_neg (by omega)
theorem Vg_o (h : x ≠ a) : Vg V a g v (10 + x) = V (10 + x) := if_neg (by omega)
theorem Vg_a : Vg V a g v (10 + a) = apn (V (10 + a)) g v := if_pos rfl
theorem RU_give (hS : ST cd st hg n P B c0) (hR : RU cd st hg n P B sd V c0 S X I J I' J') (ha : a < P) : RU cd st hg n P B sd (Vg V a (S 13 a) v) c0 S X I J I' J' := by
  obtain ⟨hM, hMM, hT, hI, hN, hJ⟩ := hR
  have hu : ∀ i, bgn P S i → uk cd (tr cd (sd + 7000003) V c0 i) = 1 → cd (tr cd (sd + 7000003) V c0 i 0 0) = 13 → uI cd V (tr cd (sd + 7000003) V c0 i) = uI cd (Vg V a (S 13 a) v) (tr cd (sd + 7000003) V c0 i) := fun i hb hu h13 => by
    unfold uI
    rw [if_pos h13, if_pos h13]
    by_cases q : cd (tr cd (sd + 7000003) V c0 i 0 0 + 2) = a
    · rw [q, Vg_a, apn_n]
      have sd1 : sdf cd (tr cd (sd + 7000003) V c0 i 0 0) a = true := by
        unfold sdf
        rw [if_pos h13]
        exact decide_eq_true q.symm
      have sn : snt S i a := by
        obtain ⟨p, hp, y⟩ := hb
        rcases y with y | ⟨y1, y2⟩
        · exact hI.2.1 p hp i y a ha (by rw [snb_1 (Or.inl hu)]; exact sd1)
        · have := (hI.1 p hp).2 y2
          rw [← y1, snb_1 (Or.inl hu)] at this
          unfold sdf at this
          rw [if_pos h13] at this
          have e := of_decide_eq_true this
          rw [q] at e
          rw [e] at y1 y2
          exact Or.inr ⟨y1, y2⟩
      have us := (hN.1 a ha).2.2.1.1
      rcases sn with y | ⟨y1, y2⟩
      · have m := tr_iu (cd := cd) (bs := sd + 7000003) (V := V) (c0 := c0) a (show i + 1 ≤ S 0 a from y)
        rw [tr_s, nx_iu, if_pos ⟨hu, h13, q.symm⟩] at m
        unfold usv at us
        omega
      · rw [← y1, y2] at us
        unfold usv at us
        rw [if_pos ⟨rfl, h13⟩] at us
        omega
    · rw [Vg_o q]
  have he : ∀ i, (∃ x, x < P ∧ i < S 0 x) → evb cd (tr cd (sd + 7000003) V c0 i) = true → uE cd V (tr cd (sd + 7000003) V c0 i) = uE cd (Vg V a (S 13 a) v) (tr cd (sd + 7000003) V c0 i) := fun i _ _ => by
    unfold uE
    rw [Vg_lo (by decide), Vg_lo (by decide), Vg_lo (by decide), Vg_lo (by decide), Vg_lo (by decide)]
  have hE : ∀ x, x < P → ∀ i, i ≤ S 0 x → tr cd (sd + 7000003) (Vg V a (S 13 a) v) c0 i = tr cd (sd + 7000003) V c0 i := fun x hx => tr_env he hu hx
  have hin : ∀ x, x < P → ∀ k, k < S 13 x → Vg V a (S 13 a) v (10 + x) k = V (10 + x) k := fun x hx k hk => by
    by_cases z : x = a
    · rw [z] at hk ⊢
      rw [Vg_a, apn_n _ _ (by omega)]
    · rw [Vg_o z]
  exact ⟨MC_env hE hin hM, MM_env hE hu hin hMM, by rw [Vg_lo (by decide), Vg_lo (by decide), Vg_lo (by decide), Vg_lo (by decide), Vg_lo (by decide)]; exact hT, PI_env hE hI (by have := hS.2.1.1; omega), NI_env hE hN, hJ⟩
theorem giveC (q3 : Int64) (h : REL X I J I' J') : CN X (f_Sh_give p2 q3 I J) (f_Model_give p2 q3 I' J') := by
  obtain ⟨P, B, sd, n, cd, hL, hw, hr'⟩ := h.2.2.2
  obtain ⟨V, G, hH⟩ : ∃ V G, HALL P B sd V G I I' J J' := by
    rcases hr' with ⟨V, G, a1, -⟩ | ⟨V, c0, S, st, hg, a1, a2, a3⟩
    · exact ⟨V, G, a1⟩
    · exact ⟨V, _, RU_HALL a1 a2 a3⟩
  have hP := hH.1.1.2
  have main : ∀ (V G : Nat → Nat → Nat), HALL P B sd V G I I' J J' → ∀ a I1 I1', a < P → G 13 a < 100 → (∀ c, c ≠ 29 + 21 * a → I1 c = I c) → (∀ j, j ≠ 2 → I1 (29 + 21 * a) j = I (29 + 21 * a) j) → I1 (29 + 21 * a) 2 = nI (G 13 a + 1) → (∀ c, c ≠ 112 → c ≠ 125 → I1' c = I' c) → (∀ j, j ≠ 0 → I1' 112 j = I' 112 j) → (∀ i, i ≠ a → I1' 125 i = I' 125 i) → I1' 125 a = nI (G 13 a + 1) → CSK I I1 J (va_up J (30 + 21 * a) (vp_updL (J (30 + 21 * a)) (G 13 a) (lN (nmod q3)))) ∧ RSK I' I1' J' (va_up J' 124 (vp_updL (J' 124) (100 * a + G 13 a) (lN (nmod q3)))) ∧ (∀ x, x < P → I1 (29 + 21 * x) 2 = nI (sr G 13 (apn (G 13) a (G 13 a + 1)) 13 x) ∧ I1 (29 + 21 * x) 4 = nI (G 14 x) ∧ I1' 125 x = nI (sr G 13 (apn (G 13) a (G 13 a + 1)) 13 x) ∧ I1' 120 x = nI (G 14 x) ∧ I1' 119 x = nI (G 14 x - G 12 x) ∧ (∀ k, k < sr G 13 (apn (G 13) a (G 13 a + 1)) 13 x → Vg V a (G 13 a) (nmod q3) (10 + x) k < pP ∧ va_up J (30 + 21 * a) (vp_updL (J (30 + 21 * a)) (G 13 a) (lN (nmod q3))) (30 + 21 * x) k = lN (Vg V a (G 13 a) (nmod q3) (10 + x) k) ∧ va_up J' 124 (vp_updL (J' 124) (100 * a + G 13 a) (lN (nmod q3))) 124 (100 * x + k) = lN (Vg V a (G 13 a) (nmod q3) (10 + x) k)) ∧ (G 13 x ≤ sr G 13 (apn (G 13) a (G 13 a + 1)) 13 x ∧ sr G 13 (apn (G 13) a (G 13 a + 1)) 13 x ≤ 100 ∧ G 14 x ≤ G 14 x ∧ G 14 x ≤ 200)) := fun V G hH a I1 I1' ha hg y1 y2 y3 y4 y5 y6 y7 => by
    refine ⟨⟨fun c c0 c1 c2 => y1 c (c2 a (by omega)), fun x hx j j2 j4 => ?_, fun c hc => va_up_ne _ _ (hc a (by omega))⟩, ⟨fun c c1 c2 c3 c4 => y4 c c1 c4, fun j j0 _ _ _ _ => y5 j j0, fun c hc => va_up_ne _ _ hc⟩, fun x hx => ?_⟩
    · by_cases z : x = a
      · rw [z]
        exact y2 j j2
      · rw [y1 _ (by omega)]
    · obtain ⟨q1, q2, q3', q4, q5, q6, q7, q8, qi, r1, r2, r3, r4, r5, r6, r7, r8, qb⟩ := hH.2 x hx
      rw [sr_s, y4 120 (by decide) (by decide), y4 119 (by decide) (by decide), va_up_self]
      by_cases z : x = a
      · rw [z] at q2 q4 qi r2 r4 r5 qb ⊢
        rw [apn_s, y2 4 (by decide), va_up_self, Vg_a]
        refine ⟨y3, q4, y7, r4, r5, fun k hk => ?_, by omega, by omega, Nat.le_refl _, qb.2.2.2.1⟩
        by_cases w : k = G 13 a
        · rw [w, apn_s, updL_s, updL_s]
          exact ⟨nmod_lt _, rfl, rfl⟩
        · have := qi k (by omega)
          rw [apn_n _ _ w, updL_n _ _ w, updL_n _ _ (by omega)]
          exact this
      · rw [apn_n _ _ z, y1 (29 + 21 * x) (by omega), y6 x z, va_up_ne _ _ (by omega), Vg_o z]
        refine ⟨q2, q4, r2, r4, r5, fun k hk => ?_, Nat.le_refl _, qb.2.1, Nat.le_refl _, qb.2.2.2.1⟩
        rw [updL_n _ _ (by omega)]
        exact qi k hk
  have tt : ∀ I1 I1' : MI, I1 0 = I 0 → I1' 112 30 = I' 112 30 → ∃ tot, tot ≤ 3000 ∧ I1 0 5 = nI tot ∧ I1' 112 30 = nI tot := fun I1 I1' e1 e2 => by
    obtain ⟨tot, hn, c1, c2, c3, -⟩ := h.2.1
    exact ⟨tot, c1, by rw [e1]; exact c2, by rw [e2]; exact c3⟩
  rcases hr' with ⟨V, G, hH, a2, a3⟩ | ⟨V, c0, S, st, hg, hS, hR, hix⟩
  · rcases GIV (p2 := p2) (p3 := q3) (J := J) (J' := J') (gi := G 13) hP hH.1.2.2.1.1 hH.1.2.2.2.1.1 (fun a ha => by
      obtain ⟨q1, q2, q3', q4, q5, q6, q7, q8, qi, r1, r2, r3, r4, r5, r6, r7, r8, qb⟩ := hH.2 a ha
      exact ⟨qb.2.1, q2, r2⟩) with ⟨x1, x2⟩ | ⟨a, I1, I1', ha, hg1, hp2, x1, x2, x3, x4, x5, x6, x7, x8, x9, x10⟩
    · exact ⟨0, I, J, _, J', x1, x2, REL_th h⟩
    · obtain ⟨z1, z2, z3⟩ := main V G hH a I1 I1' ha hg1 x3 x4 x5 x6 x7 x9 x10
      refine ⟨1, I1, _, I1', _, x1, x2, REL_st h z1 z2 (fun j _ => by rw [x3 0 (by omega)]) (tt I1 I1' (x3 0 (by omega)) (x7 30 (by decide))) ⟨P, B, sd, n, cd, LDC_s hL z1 z2, ⟨by rw [x7 8 (by decide)]; exact hw.1, hw.2⟩, Or.inl ⟨Vg V a (G 13 a) (nmod q3), sr G 13 (apn (G 13) a (G 13 a + 1)), HALL_st hH z1 z2 (fun k k1 _ _ => sr_n _ _ k1) (by rw [sr_n _ _ (by decide)]) ?_ ?_ (fun x hx => by rw [show sr G 13 (apn (G 13) a (G 13 a + 1)) 14 = G 14 from sr_n _ _ (by decide)]; exact z3 x hx) ?_, by rw [x3 14 (by omega)]; exact a2, by rw [x7 34 (by decide)]; exact a3⟩⟩⟩
      · rw [x3 102 (by omega), sr_n _ _ (show 20 ≠ 13 by decide)]
        exact hH.1.2.2.1.2.2.2.2
      · rw [x7 24 (by decide), x7 26 (by decide), x7 28 (by decide), sr_n _ _ (show 20 ≠ 13 by decide)]
        exact ⟨hH.1.2.2.2.1.2.2.2.1, hH.1.2.2.2.1.2.2.2.2.1, hH.1.2.2.2.1.2.2.2.2.2.1⟩
      · rw [sr_n _ _ (show 20 ≠ 13 by decide)]
        exact ⟨Nat.le_refl _, Nat.le_refl _, Nat.le_refl _, hH.1.2.2.2.2.1.2⟩
  · have hH := RU_HALL hS hR hix
    rcases GIV (p2 := p2) (p3 := q3) (J := J) (J' := J') (gi := S 13) hP hH.1.2.2.1.1 hH.1.2.2.2.1.1 (fun a ha => by
      obtain ⟨q1, q2, q3', q4, q5, q6, q7, q8, qi, r1, r2, r3, r4, r5, r6, r7, r8, qb⟩ := hH.2 a ha
      exact ⟨qb.2.1, q2, r2⟩) with ⟨x1, x2⟩ | ⟨a, I1, I1', ha, hg1, hp2, x1, x2, x3, x4, x5, x6, x7, x8, x9, x10⟩
    · exact ⟨0, I, J, _, J', x1, x2, REL_th h⟩
    · obtain ⟨z1, z2, z3⟩ := main V (Gof cd (sd + 7000003) V c0 S) hH a I1 I1' ha hg1 x3 x4 x5 x6 x7 x9 x10
      have hR' := RU_give (a := a) (v := nmod q3) hS hR ha
      refine ⟨1, I1, _, I1', _, x1, x2, REL_st h z1 z2 (fun j _ => by rw [x3 0 (by omega)]) (tt I1 I1' (x3 0 (by omega)) (x7 30 (by decide))) ⟨P, B, sd, n, cd, LDC_s hL z1 z2, ⟨by rw [x7 8 (by decide)]; exact hw.1, hw.2⟩, Or.inr ⟨Vg V a (S 13 a) (nmod q3), c0, sr S 13 (apn (S 13) a (S 13 a + 1)), st, hg, hS, RU_st hS hR' z1 z2 (fun k k1 _ _ => sr_n _ _ k1) (by rw [sr_n _ _ (by decide)]) (by rw [sr_n _ _ (by decide)]) ?_ ?_ (fun x hx => ?_) ?_, fun x hx4 => by rw [x3 (18 + 21 * x) (by omega)]; exact hix x hx4⟩⟩⟩
      · rw [x3 102 (by omega), sr_n _ _ (show 20 ≠ 13 by decide)]
        exact hH.1.2.2.1.2.2.2.2
      · rw [x7 24 (by decide), x7 26 (by decide), x7 28 (by decide), sr_n _ _ (show 20 ≠ 13 by decide)]
        exact ⟨hH.1.2.2.2.1.2.2.2.1, hH.1.2.2.2.1.2.2.2.2.1, hH.1.2.2.2.1.2.2.2.2.2.1⟩
      · have e13 : sr (Gof cd (sd + 7000003) V c0 S) 13 (apn (Gof cd (sd + 7000003) V c0 S 13) a (Gof cd (sd + 7000003) V c0 S 13 a + 1)) 13 = sr S 13 (apn (S 13) a (S 13 a + 1)) 13 := by rw [sr_s, sr_s]; rfl
        have z := z3 x hx
        rw [e13] at z
        rw [show sr S 13 (apn (S 13) a (S 13 a + 1)) 14 = S 14 from sr_n _ _ (by decide)]
        exact z
      · rw [sr_n _ _ (show 20 ≠ 13 by decide)]
        exact ⟨Nat.le_refl _, Nat.le_refl _, Nat.le_refl _, hH.1.2.2.2.2.1.2⟩
/-- a deal, where it is done: what changes -/
theorem dealS (h : REL X I J I' J') (hL : LDC I I' n cd) (hw : (¬ I' 112 8 = 0 → 1 ≤ n) ∧ (1 ≤ n → ∃ st hg, WFc cd n P st hg)) (hr' : (∃ V G, HALL P B sd V G I I' J J' ∧ I 14 9 = nI 0 ∧ I' 112 34 = nI 0) ∨ (∃ V c0 S st hg, ST cd st hg n P B c0 ∧ RU cd st hg n P B sd V c0 S X I J I' J' ∧ ∀ x, x < 4 → I (18 + 21 * x) 0 = nI x)) (z1 : CSK I I1 J J) (z2 : RSK I' I1' J' J') (h0 : ∀ j, j ≠ 5 → I1 0 j = I 0 j) (ht : ∃ tot, tot ≤ 3000 ∧ I1 0 5 = nI tot ∧ I1' 112 30 = nI tot) (f : ∀ (G : Nat → Nat → Nat), (∀ V, HALL P B sd V G I I' J J' → ∃ e2 e3 e4 : Nat, ∃ m : Nat → Nat, (I1 102 0 = nI e2 ∧ I1 102 1 = nI e3 ∧ I1 102 2 = nI e4) ∧ (I1' 112 24 = nI e2 ∧ I1' 112 26 = nI e3 ∧ I1' 112 28 = nI e4) ∧ (∀ x, x < P → I1 (29 + 21 * x) 2 = I (29 + 21 * x) 2 ∧ I1 (29 + 21 * x) 4 = nI (m x) ∧ I1' 125 x = I' 125 x ∧ I1' 120 x = nI (m x) ∧ I1' 119 x = nI (m x - G 12 x) ∧ G 14 x ≤ m x ∧ m x ≤ 200) ∧ (G 20 2 ≤ e2 ∧ G 20 3 ≤ e3 ∧ G 20 4 ≤ e4 ∧ e2 ≤ 200 ∧ e3 ≤ 200 ∧ e4 ≤ 200))) : REL X I1 J I1' J' := by
  have n14 : I1 14 = I 14 := z1.1 14 (by decide) (by decide) (fun x hx => by omega)
  have n34 : I1' 112 34 = I' 112 34 := z2.2.1 34 (by decide) (by decide) (by decide) (by decide) (by decide)
  have n8 : I1' 112 8 = I' 112 8 := z2.2.1 8 (by decide) (by decide) (by decide) (by decide) (by decide)
  refine REL_st h z1 z2 h0 ht ⟨P, B, sd, n, cd, LDC_s hL z1 z2, ⟨by rw [n8]; exact hw.1, hw.2⟩, ?_⟩
  rcases hr' with ⟨V, G, hH, a2, a3⟩ | ⟨V, c0, S, st, hg, hS, hR, hix⟩
  · obtain ⟨e2, e3, e4, m, y1, y2, y3, y4⟩ := f G V hH
    refine Or.inl ⟨V, fun k => if k = 14 then m else if k = 20 then (fun i => if i = 2 then e2 else if i = 3 then e3 else if i = 4 then e4 else G 20 i) else G k, HALL_st hH z1 z2 (fun k _ k1 k2 => by rw [if_neg k1, if_neg k2]) rfl y1 y2 (fun x hx => ?_) y4, by rw [n14]; exact a2, by rw [n34]; exact a3⟩
    obtain ⟨q1, q2, q3', q4, q5, q6, q7, q8, qi, r1, r2, r3, r4, r5, r6, r7, r8, qb⟩ := hH.2 x hx
    obtain ⟨w1, w2, w3, w4, w5, w6, w7⟩ := y3 x hx
    exact ⟨w1.trans q2, w2, w3.trans r2, w4, w5, qi, Nat.le_refl _, qb.2.1, w6, w7⟩
  · obtain ⟨e2, e3, e4, m, y1, y2, y3, y4⟩ := f _ V (RU_HALL hS hR hix)
    have hH := RU_HALL hS hR hix
    refine Or.inr ⟨V, c0, fun k => if k = 14 then m else if k = 20 then (fun i => if i = 2 then e2 else if i = 3 then e3 else if i = 4 then e4 else S 20 i) else S k, st, hg, hS, RU_st hS hR z1 z2 (fun k _ k1 k2 => by rw [if_neg k1, if_neg k2]) rfl rfl y1 y2 (fun x hx => ?_) y4, fun x hx4 => by rw [z1.1 (18 + 21 * x) (by omega) (by omega) (fun z hz => by omega)]; exact hix x hx4⟩
    obtain ⟨q1, q2, q3', q4, q5, q6, q7, q8, qi, r1, r2, r3, r4, r5, r6, r7, r8, qb⟩ := hH.2 x hx
    obtain ⟨w1, w2, w3, w4, w5, w6, w7⟩ := y3 x hx
    exact ⟨w1.trans q2, w2, w3.trans r2, w4, w5, qi, Nat.le_refl _, qb.2.1, w6, w7⟩
end GD
