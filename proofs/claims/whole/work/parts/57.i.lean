/-! compile, both: the whole -/
section CM
variable {n P m D U k p c q : Nat} {t : Nat → Nat} {x : Int32} {I I' : MI} {J J' : MJ} {f8 f9 g2 g3 g4 g5 : Nat → Int32} {cc cm : Nat → Nat}
theorem oc_id {α : Type} {r : M2 α} {v : α} {I1 : MI} (e : ∀ {β : Type} {F : α → MI → MJ → Option β}, oc r F = F v I1 J) : r = some (v, I1, J) := by
  have := e (F := fun v I J => some (v, I, J))
  cases r with
  | none => exact absurd this (by intro c; cases c)
  | some y =>
    obtain ⟨a, b, d⟩ := y
    exact this
theorem EQ_mIni : EQ (mIni I) := by
  have e4 : mIni I 112 4 = nI 0 := by
    unfold mIni
    rw [iS_n _ (by decide), iS_n _ (by decide), iS_n _ (by decide), iS_n _ (by decide), iS_n _ (by decide), iS_n _ (by decide), iS_n _ (by decide), iS_s]
  exact fun _ => e4
theorem F81k (h : ¬ I 3 9 = 0) : f_Translator_finish_81 gF 0 0 I J = some ((), I, J) := by
  show f_Translator_finish_81 (999999 + 1) 0 0 I J = _
  rw [f_Translator_finish_81, if_neg (by decide), if_pos h]
theorem CODE_0 {f8 g3 g4 : Nat → Int32} (h : ∀ d, d < 10 → f8 d = m1) : CODE P cc cm 0 0 f8 g3 g4 0 := by
  refine ⟨fun _ => false, fun _ => 0, ⟨rfl, rfl, by omega, fun h => absurd h (Nat.lt_irrefl _), fun _ _ => rfl, fun j hj => absurd hj (Nat.not_lt_zero _)⟩, fun s hs => (by cases hs), fun j hj => absurd hj (Nat.not_lt_zero _), fun s hs => (by cases hs), fun i hi => absurd hi (Nat.not_lt_zero _), fun d hd => Or.inl (h d hd)⟩
theorem TB_0 (h8 : ∀ d, d < 10 → f8 d = m1) (h9 : ∀ d, d < 10 → f9 d = m1) (h2 : ∀ d, d < 10 → g2 d = m1) : TB f8 f9 g2 g3 g5 0 0 := ⟨fun d hd => ⟨by rw [h8 d hd, h2 d hd], Or.inl (h8 d hd)⟩, by omega, fun i hi => absurd hi (Nat.not_lt_zero _), fun d hd => Or.inl ⟨h9 d hd, fun i hi => absurd hi (Nat.not_lt_zero _)⟩⟩
theorem TB_sc (hT : TB f8 f9 g2 g3 g5 c q) (hq : q ≤ 400) : (∀ x, SC f8 f9 0 x → SMM g2 g3 g5 c 0 x) ∧ (∀ x, SMM g2 g3 g5 c 0 x → ∃ y, SC f8 f9 0 y ∧ y ≤ x) := by
  obtain ⟨h1, h2, h3, h4⟩ := hT
  refine ⟨fun x hx => ?_, fun x hx => ?_⟩
  · obtain ⟨e, _, e2, e3, e4, e5⟩ := hx
    rcases h4 e e2 with ⟨z1, _⟩ | ⟨y, y1, y2, ⟨i, i1, i2, i3⟩, _⟩
    · rw [z1, m1_ne e4] at e3
      exact e3.elim
    · have : x = y := (nI_eq e4 (by omega)).mp (e3.symm.trans y2)
      subst this
      exact ⟨i, Nat.zero_le _, i1, ⟨e, e2, i2, by rw [← (h1 e e2).1]; exact e5⟩, i3, e4⟩
  · obtain ⟨i, _, i1, ⟨d, d1, d2, d3⟩, i3, i4⟩ := hx
    rcases h4 d d1 with ⟨_, z2⟩ | ⟨y, y1, y2, _, y4⟩
    · exact absurd d2 (z2 i i1)
    · exact ⟨y, ⟨d, Nat.zero_le _, d1, y2, by omega, by rw [(h1 d d1).1]; exact d3⟩, y4 i x i1 i4 d2 i3⟩
/-- behind the last statement -/
theorem cmpE {I2 R1' : MI} (ht : tpOK n t) (hA : CA n t P I2 q m 0 0 k p f8 f9 cc) (hM : MA n t P R1' q m 0 0 k p g2 g3 g4 g5 c cm) (hT : TB f8 f9 g2 g3 g5 c q) (hm : m + 1 ≤ 2000) (hq : n ≤ q) (hC : k = 0 → CODE P cc cm m 0 f8 g3 g4 c) (hE : EX I I2) (hP2 : EP I2) (hL : LM R1') (hY : EY I' R1') (hQ : EQ R1') : CMP P I I' J J' (oc (f_Translator_finish I2 J) (fun v3 I3 J3 => cPost I3 J3)) (oc (f_Model_place R1' J') (fun v22 I22 J22 => mPost 1 I22 J22)) := by
  have hn := ht.1
  have hqn : q ≤ n := hA.2.2.2.2.2.2.2.2.2.2.2.2.1
  have hl : lkd n t q := fun h => by omega
  have e := fun {α : Type} {F : Int32 → MI → MJ → Option α} => LC0 (J := J) ht hA hl (F := F)
  obtain ⟨I3, a1, a2⟩ := EM1' (J := J) (a := 0) (o := 0) (u := 0) (v := 0) (w := 0) hA rfl (by decide) (by decide) (by omega)
  have hf9 : ∀ d, d < 10 → f9 d = m1 ∨ ∃ x, x ≤ 400 ∧ f9 d = nI x := by
    intro d hd
    rcases hT.2.2.2 d hd with ⟨z, _⟩ | ⟨y, y1, y2, _⟩
    · exact Or.inl z
    · exact Or.inr ⟨y, by omega, y2⟩
  obtain ⟨I4, k2, p2, b1, b2, b3⟩ := F22 (J := J) hf9 10 gF 0 k p I3 (by omega) (by decide) a2
  have b1' : f_Translator_finish_22 gF 0 I3 J = some ((), I4, J) := b1
  have hfin : f_Translator_finish I2 J = oc (f_Translator_finish_81 gF 0 0 I4 J) (fun u31 I31 J31 => some ((), I31, J31)) := by
    rw [fin_eq, e, cC_ge hq, if_pos (show m1 = -1 from rfl), oc_some]
    unfold cFin
    rw [a1, b1', oc_some]
  have h3 : ∀ i, i < c → ∃ d x, d < 10 ∧ x ≤ 400 ∧ g3 i = nI d ∧ g5 i = nI x := by
    intro i hi
    obtain ⟨d, x, d1, d2, d3⟩ := hT.2.2.1 i hi
    exact ⟨d, x, d1, by omega, d3⟩
  have h2 : ∀ d, d < 10 → g2 d = m1 ∨ ∃ r, g2 d = nI r ∧ r ≤ 2000 := by
    intro d hd
    rw [← (hT.1 d hd).1]
    exact (hT.1 d hd).2
  have hc : c ≤ 200 := by
    have := hT.2.1
    omega
  have h4 : ∀ i, i < c → ∃ a, a + 1 < 6000 ∧ g4 i = nI a := by
    obtain ⟨c0, c1, c2, c3⟩ := hL
    have w75 : R1' 112 75 = nI c := hM.2.2.2.2.2.2.2.2.2.1.2.2.2.2
    have w4 : R1' 164 = g4 := hM.2.2.2.2.2.2.2.2.2.1.2.2.1
    have : c0 = c := (nI_eq (by omega) (by omega)).mp (c2.symm.trans w75)
    subst this
    intro i hi
    obtain ⟨a, z1, z2⟩ := (c3 i hi).2
    exact ⟨a, z1, by rw [← w4]; exact z2⟩
  obtain ⟨sc1, sc2⟩ := TB_sc hT (by omega)
  have k5 : k2 ≤ 5 := b2.2.2.2.2.2.2.2.2.2.2.2.2.2.2.2.2.1
  have w9 : I4 3 9 = nI k2 := b2.2.2.2.2.2.2.1
  have w10 : I4 3 10 = nI p2 := b2.2.2.2.2.2.2.2.1
  -- another fault
  have other : k2 ≠ 0 → ∀ I5' cm3 k3 p3, f_Model_place_2 gF (nI 0) R1' J' = some ((), I5', J') → MA n t P I5' q m 0 0 k3 p3 g2 g3 g4 g5 c cm3 → k2 = k3 → p2 = p3 → CMP P I I' J J' (oc (f_Translator_finish I2 J) (fun v3 I3 J3 => cPost I3 J3)) (oc (f_Model_place R1' J') (fun v22 I22 J22 => mPost 1 I22 J22)) := by
    intro hk2 I5' cm3 k3 p3 q1 q2 q3 q4
    subst q3
    subst q4
    have q1' : f_Model_place R1' J' = some ((), I5', J') := by
      unfold f_Model_place
      have q1'' : f_Model_place_2 gF 0 R1' J' = some ((), I5', J') := q1
      rw [q1'', oc_some]
    have hne : ¬ I4 3 9 = 0 := by
      rw [w9]
      exact fun e => hk2 ((nI_eq (b := 0) (by omega) (by omega)).mp e)
    have hfin' : f_Translator_finish I2 J = some ((), I4, J) := by rw [hfin, F81k hne, oc_some]
    rw [hfin', oc_some, q1', oc_some]
    exact cmpK hk2 k5 w9 w10 (EX_tr hE (EX_Translator_finish EX_rfl _ _ _ hfin')) q2.2.2.2.2.2.1 q2.2.2.2.2.2.2.1 q2.2.2.2.2.2.2.2.1 (EY_tr hY (EY_Model_place EY_rfl _ _ _ q1'))
  by_cases hk0 : k = 0
  · obtain ⟨st, hg, A, b, d, f, g, r⟩ := hC hk0
    have G : GH P cc m 0 st hg := ⟨A, b⟩
    have o28 : opl 28 = 3 := rfl
    have uq : ∀ s s', st s = true → st s' = true → nI (s + 1) = nI (s' + 1) → s = s' := by
      intro s s' h1 h2 h
      have l1 := CODE_st (P := P) (cc := cc) (hg := hg) A.2.2.2.2.1 h1
      have l2 := CODE_st (P := P) (cc := cc) (hg := hg) A.2.2.2.2.1 h2
      have := (nI_eq (by omega) (by omega)).mp h
      omega
    have b10 : ∀ s, st s = true → cc s = 28 → cc (s + 2) < 10 := fun s h1 h2 => (f s h1 h2).2.2.1
    obtain ⟨I5', cm3, k3, p3, q1, q2, q3, q4⟩ := PLC (J := J') (Q := fun i cm' => (∀ j, j < m → (∀ s, st s = true → cc s = 28 → j ≠ s + 1 ∧ j ≠ s + 2) → cm' j = cc j) ∧ (∀ i', i' < i → ∀ s, st s = true → cc s = 28 → g4 i' = nI (s + 1) → ∀ r, g2 (cc (s + 2)) = nI r → r ≤ 2000 → cm' (s + 1) = r / 256 ∧ cm' (s + 2) = r % 256)) h2 h3 h4 hc (fun i cm' d' r' a hi hd e1 e2 e3 e4 e5 hq => by
      obtain ⟨s, s1, s2, s3, s4⟩ := g i hi
      have l1 := CODE_st (P := P) (cc := cc) (hg := hg) A.2.2.2.2.1 s1
      have ea : a = s + 1 := (nI_eq (by omega) (by omega)).mp (e4.symm.trans s3)
      have eb := b10 s s1 s2
      have ed : d' = cc (s + 2) := (nI_eq (by omega) (by omega)).mp (e1.symm.trans s4)
      subst ea
      subst ed
      refine ⟨fun j hj hno => ?_, fun i' hi' s' z1 z2 z3 r2 z4 z5 => ?_⟩
      · have := hno s s1 s2
        rw [fil_n _ (by omega) (by omega)]
        exact hq.1 j hj hno
      · by_cases es : s' = s
        · subst es
          have : r2 = r' := (nI_eq (by omega) (by omega)).mp (z4.symm.trans e2)
          subst this
          exact ⟨fil_0 _ _ _, fil_1 _ _ _⟩
        · have ap := GH_apart G z1 s1 es
          rw [z2, s2, o28] at ap
          rw [fil_n _ (by omega) (by omega), fil_n _ (by omega) (by omega)]
          by_cases ei : i' = i
          · subst ei
            exact absurd (uq s' s z1 s1 (z3.symm.trans s3)) es
          · exact hq.2 i' (by omega) s' z1 z2 z3 r2 z4 z5) (fun i cm' d' hi hd e1 e2 hq => ⟨hq.1, fun i' hi' s' z1 z2 z3 r2 z4 z5 => by
      by_cases ei : i' = i
      · subst ei
        obtain ⟨s, s1, s2, s3, s4⟩ := g i' hi
        have es := uq s' s z1 s1 (z3.symm.trans s3)
        subst es
        have eb := b10 s' s1 s2
        have ed : d' = cc (s' + 2) := (nI_eq (by omega) (by omega)).mp (e1.symm.trans s4)
        subst ed
        rw [z4, m1_en (by omega)] at e2
        exact e2.elim
      · exact hq.2 i' (by omega) s' z1 z2 z3 r2 z4 z5⟩) c gF 0 k p R1' cm (by omega) (gF_lt (by omega)) hM ⟨fun j hj hno => d j hj (fun s s1 s2 => (hno s s1 s2).2), fun i' hi' => absurd hi' (Nat.not_lt_zero _)⟩
    obtain ⟨ek, ep'⟩ := Fin2_un b3 q4 sc1 sc2
    by_cases hk2 : k2 = 0
    · subst hk2
      have nos : ∀ x, ¬ SC f8 f9 0 x := by
        rcases b3 with ⟨_, _, z3⟩ | ⟨z1, _⟩
        · exact fun x hx => (z3 x hx).1 hk0
        · omega
      have hT3 : TG f8 cc m st (apn cm3 m 0) := by
        refine ⟨apn_s _ _ _, fun j hj hno => ?_, fun s s1 s2 => ?_⟩
        · rw [apn_n _ _ (by omega)]
          exact q3.1 j hj hno
        · obtain ⟨_, _, f3, i, f4, f5, f6⟩ := f s s1 s2
          have b3' := (b s s1).2.2.1
          rw [s2, o28] at b3'
          refine ⟨f3, ?_⟩
          rcases r (cc (s + 2)) f3 with z | ⟨r', z1, z2, z3, z4⟩
          · -- it would be done and never told
            exfalso
            rcases hT.2.2.2 (cc (s + 2)) f3 with ⟨_, y2⟩ | ⟨y, y1, y2, _⟩
            · exact y2 i f4 f6
            · exact nos y ⟨cc (s + 2), Nat.zero_le _, f3, y2, by omega, z⟩
          · have := q3.2 i f4 s s1 s2 f5 r' (by rw [← (hT.1 _ f3).1]; exact z1) (by omega)
            refine ⟨r', z1, z2, ?_, ?_⟩
            · rw [apn_n _ _ (by omega)]
              exact this.1
            · rw [apn_n _ _ (by omega)]
              exact this.2
      obtain ⟨I5, cur, s1, s2, s3⟩ := F81 (J := J) G hT3 hm (m + 1) gF 0 0 I4 (apn cc m 0) (by omega) (gF_lt (by omega)) (by omega) (fun h => A.2.2.2.1 h) (fun j hj => absurd hj (Nat.not_lt_zero _)) (fun j _ hj => apn_n _ _ (by omega)) (apn_s _ _ _) b2
      have s1' : f_Translator_finish_81 gF 0 0 I4 J = some ((), I5, J) := s1
      have hfin' : f_Translator_finish I2 J = some ((), I5, J) := by rw [hfin, s1', oc_some]
      have q1' : f_Model_place R1' J' = some ((), I5', J') := by
        unfold f_Model_place
        have q1'' : f_Model_place_2 gF 0 R1' J' = some ((), I5', J') := q1
        rw [q1'', oc_some]
      obtain ⟨hW, hB⟩ := TG_WF G hT3 hm r
      have k9 : I5 3 9 = nI 0 := s2.2.2.2.2.2.2.1
      have k10 : I5 6 1 = nI (m + 1) := s2.2.2.2.2.2.2.2.2.1
      have k7 := s2.2.2.2.2.2.2.2.2.2.2.2.1
      rw [hfin', oc_some, q1', oc_some]
      subst ek
      subst ep'
      have z3' : I5' 112 3 = nI 0 := q2.2.2.2.2.2.1
      refine cmpG (T := apn cm3 m 0) k9 (EP_Translator_finish hP2 _ _ _ hfin' k9) ⟨k10, fun j hj => ⟨hB j hj, ?_⟩⟩ hm (EX_tr hE (EX_Translator_finish EX_rfl _ _ _ hfin')) z3' (EQ_Model_place hQ _ _ _ q1' z3') q2.2.2.2.2.2.2.1 q2.2.2.2.2.2.2.2.2.1 (fun j hj => ?_) (apn_s _ _ _) hW (EY_tr hY (EY_Model_place EY_rfl _ _ _ q1'))
      · rw [k7 j hj, s3 j hj]
      · rw [apn_n _ _ (by omega)]
        exact q2.2.2.2.2.2.2.2.2.2.2.1 j hj
    · exact other hk2 I5' cm3 k3 p3 q1 q2 ek ep'
  · obtain ⟨I5', cm3, k3, p3, q1, q2, q3, q4⟩ := PLC (J := J') (Q := fun _ _ => True) h2 h3 h4 hc (fun _ _ _ _ _ _ _ _ _ _ _ _ _ => trivial) (fun _ _ _ _ _ _ _ _ => trivial) c gF 0 k p R1' cm (by omega) (gF_lt (by omega)) hM trivial
    obtain ⟨ek, ep'⟩ := Fin2_un b3 q4 sc1 sc2
    refine other ?_ I5' cm3 k3 p3 q1 q2 ek ep'
    rcases b3 with ⟨z1, _⟩ | ⟨z1, _⟩
    · omega
    · omega
theorem c_compile (I I' : MI) (J J' : MJ) (hp : R_tape I I') (hP : P ≤ 4) (hC : I 14 6 = nI P) (hM : I' 112 16 = nI P) : CMP P I I' J J' (f_Sh_compile I J) (f_Model_compile I' J') := by
  obtain ⟨n, hn, h1, h2, h3⟩ := hp
  have key : ∃ t : Nat → Nat, tpOK n t ∧ (∀ j, j < n → I 5 j = nI (t j)) ∧ ∀ j, j < n → I' 113 j = nI (t j) := by
    refine ⟨fun k => (I 5 k).toNatClampNeg, ⟨hn, fun k hk => ?_⟩, fun k hk => ?_, fun k hk => ?_⟩
    · obtain ⟨c, c1, c2, c3, c4⟩ := h3 k hk
      simp only
      rw [c3, nI_clamp (by omega)]
      exact ⟨c1, c2⟩
    · obtain ⟨c, c1, c2, c3, c4⟩ := h3 k hk
      simp only
      rw [c3, nI_clamp (by omega)]
    · obtain ⟨c, c1, c2, c3, c4⟩ := h3 k hk
      simp only
      rw [c3, c4, nI_clamp (by omega)]
  obtain ⟨t, ht, h5, h6⟩ := key
  obtain ⟨I1, a1, a2, a3, a4⟩ := STA (P := P) (J := J) h1 h5
  obtain ⟨I1', b1, b2, b3, b4, b5⟩ := MST (J := J') h2 h6 hM
  have hQ1 : EQ I1' := EQ_Model_compile_47 _ _ _ _ EQ_mIni _ _ _ b1
  have hP1 : EP I1 := fun _ => a2.2.2.2.2.2.2.2.1
  rw [comp_eq, hC, a1, mcomp_eq, b1, oc_some]
  unfold mRest
  have S := STS_all (J := J) (J' := J') ht hP 41 0 0 (by omega) (by omega) (by decide)
  have X := S 200 200 0 0 0 0 0 I1 I1' _ _ _ _ _ _ _ _ (by decide) (by decide) (by omega) a2 b2 (TB_0 (fun d hd => (a3 d hd).1) (fun d hd => (a3 d hd).2) b3) (fun _ => CODE_0 (fun d hd => (a3 d hd).1))
  rcases X with ⟨x, R1', x1, x2, x3, x4⟩ | ⟨v, R1, R1', q5, m5, k5, p5, f85, f95, g25, g35, g45, g55, c5, cc5, cm5, x1, x2, x3, x4, x5, x6, x7, x8, x9, x10⟩
  · obtain ⟨v, I2, e2, hq⟩ := x1
    obtain ⟨u, I3, e3, hs⟩ := zFin (J := J) ht hq
    rw [e2, oc_some, e3, oc_some, x2, oc_some, if_pos (show nI 0 = 0 from rfl), oc_some]
    exact cmpF hs (EX_tr a4 (EX_tr (EXT_all _ _ _ _ _ _ EX_rfl _ _ _ e2) (EX_Translator_finish EX_rfl _ _ _ e3))) (M_all _ _ _ _ _ _ b5 _ _ _ x2) x3 x4 (EY_tr b4 (EYM_all _ _ _ _ _ _ EY_rfl _ _ _ x2))
  · have hq5 : q5 ≤ n := x3.2.2.2.2.2.2.2.2.2.2.2.2.1
    have hE2 := EX_tr a4 (EXT_all _ _ _ _ _ _ EX_rfl _ _ _ x1)
    have hL2 := M_all _ _ _ _ _ _ b5 _ _ _ x2
    have hY2 := EY_tr b4 (EYM_all _ _ _ _ _ _ EY_rfl _ _ _ x2)
    have s0 := fun {α : Type} {F : Int32 → MI → MJ → Option α} => SM0 (J := J') ht x4 x7 (F := F)
    rw [x1, oc_some, x2, oc_some, if_neg (show ¬ nI 1 = 0 by decide), oc_oc, s0]
    by_cases hqn : n ≤ q5
    · rw [cM_ge hqn, if_pos (show nI 0 = 0 from rfl), oc_some]
      exact cmpE ht x3 x4 x5 (by omega) hqn (fun hk => (x9 hk).2) hE2 (EPT_all _ _ _ _ _ _ hP1 _ _ _ x1) hL2 hY2 (EQM_all _ _ _ _ _ _ hQ1 _ _ _ x2)
    · have hlt : q5 < n := by omega
      have tb := ht.2 q5 hlt
      obtain ⟨u, I3, e3, hs⟩ := zFR (J := J) ht x3 x7 hlt
      obtain ⟨K1, r1, r2, r3⟩ := RM (J := J') ht x4 x7
      have r1' := oc_id r1
      rw [e3, oc_some, cM_lt hlt, if_neg (show ¬ nI (t q5) = 0 from fun e => by have := (nI_eq (b := 0) (by omega) (by omega)).mp e; omega), r1', oc_some, if_pos (show nI 0 = 0 from rfl), oc_some]
      exact cmpF hs (EX_tr hE2 (EX_Translator_finish EX_rfl _ _ _ e3)) (M_Model_refuse hL2 _ _ _ r1') r2 r3 (EY_tr hY2 (EY_Model_refuse EY_rfl _ _ _ r1'))
end CM
