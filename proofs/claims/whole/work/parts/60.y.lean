/-! calls: hall, begin, step, run, deliver -/
/-- a call that may throw, and may lay new rows -/
def CX {α : Type} (X : MX) (I : MI) (J : MJ) (r : MR (α ⊕ Nat)) (q : M2 α) (hk : List (Int32 × Nat)) : Prop := (∃ e t v X1 I1 J1 I1' J1', am_hand e hk = some t ∧ ¬ t = 0 ∧ r = some (.inr e, X1, I1, J1) ∧ q = some (v, I1', J1') ∧ I1' 112 0 = t ∧ REL X1 I1 J1 I1' J1' ∧ XR X X1 ∧ CFG I I1 J J1) ∨ (∃ v X1 I1 J1 I1' J1', r = some (.inl v, X1, I1, J1) ∧ q = some (v, I1', J1') ∧ I1' 112 0 = 0 ∧ REL X1 I1 J1 I1' J1' ∧ XR X X1 ∧ CFG I I1 J J1)
section CALLS
variable {X X1 : MX} {I I1 I' I1' : MI} {J J1 J' J1' : MJ} {p2 p3 p4 : Int32}
/-- the relation, where a run went on -/
theorem REL_run {P B n : Nat} {sd : Int64} {cd : Nat → Nat} {V c0 S : Nat → Nat → Nat} {st : Nat → Bool} {hg : Nat → Nat} (h : REL X I J I' J') (hL : LDC I I' n cd) (hw : (¬ I' 112 8 = 0 → 1 ≤ n) ∧ (1 ≤ n → ∃ st hg, WFc cd n P st hg)) (hS : ST cd st hg n P B c0) (hR : RU cd st hg n P B sd V c0 S X1 I1 J1 I1' J1') (hix : ∀ x, x < 4 → I (18 + 21 * x) 0 = nI x) (hc : CFG I I1 J J1) (hr : RTH I' I1' J' J1') (hx : XR X X1) : REL X1 I1 J1 I1' J1' := by
  obtain ⟨⟨a1, a2, a3⟩, ⟨tot, hn, b1, b2, b3, b4, b5, b6⟩, ⟨x1, x2, x3, x4⟩, hs⟩ := h
  have fc : ∀ a, a < 14 ∨ a = 15 ∨ a = 16 → I1 a = I a := fun a ha => hc.1 a (by omega) (by omega) (by omega) (by omega)
  have fr : ∀ a, a = 113 ∨ a = 114 ∨ a = 116 → I1' a = I' a := fun a ha => hr.1 a (by omega) (by omega) (by omega) (by omega)
  have fj : ∀ j, j ≠ 0 → j ≠ 60 → j ≠ 86 → j ≠ 35 → I1' 112 j = I' 112 j := hr.2.1
  have x4' := hx.2.2.2 x2
  refine ⟨⟨R_tape_c a1 (by rw [fc 4 (by omega)]) (fc 5 (by omega)) (fj 2 (by decide) (by decide) (by decide) (by decide)) (fr 113 (by omega)), R_put_c a2 (by rw [fc 1 (by omega)]) (fc 2 (by omega)) (fj 12 (by decide) (by decide) (by decide) (by decide)) (fr 116 (by omega)), by unfold R_fault; rw [fc 0 (by omega), fj 3 (by decide) (by decide) (by decide) (by decide), fj 4 (by decide) (by decide) (by decide) (by decide)]; exact a3⟩, ⟨tot, hn, b1, by rw [fc 0 (by omega)]; exact b2, by rw [fj 30 (by decide) (by decide) (by decide) (by decide)]; exact b3, b4, by rw [fc 0 (by omega)]; exact b5, by rw [fj 85 (by decide) (by decide) (by decide) (by decide)]; exact b6⟩, ⟨hR.1.2.1, Nat.le_trans x2 hx.2.2.1, x4'.1.trans x3, fun w hw => x4'.2 w (x4 w hw)⟩, P, B, sd, n, cd, LDC_c hL (fc 15 (by omega)) (fc 16 (by omega)) (fr 114 (by omega)) (fj 7 (by decide) (by decide) (by decide) (by decide)) (fj 8 (by decide) (by decide) (by decide) (by decide)), ⟨by rw [fj 8 (by decide) (by decide) (by decide) (by decide)]; exact hw.1, hw.2⟩, Or.inr ⟨V, c0, S, st, hg, hS, hR, fun x hx4 => by rw [hc.2.2.2 x hx4]; exact hix x hx4⟩⟩
theorem AGR.cx {P B n : Nat} {sd : Int64} {cd : Nat → Nat} {V c0 S : Nat → Nat → Nat} {st : Nat → Bool} {hg : Nat → Nat} {r : MR (Int32 ⊕ Nat)} {q : M2 Int32} {hk : List (Int32 × Nat)} (a : AGR cd st hg n P B sd V c0 S X I J I' J' r q hk) (h : REL X I J I' J') (hL : LDC I I' n cd) (hw : (¬ I' 112 8 = 0 → 1 ≤ n) ∧ (1 ≤ n → ∃ st hg, WFc cd n P st hg)) (hS : ST cd st hg n P B c0) (hix : ∀ x, x < 4 → I (18 + 21 * x) 0 = nI x) : CX X I J r q hk := by
  rcases a with ⟨e, t, v, I1', x1, x2, x3, x4, x5, x6, x7⟩ | ⟨v, S1, X1, I1, J1, I1', J1', x1, x2, x3, x4, x5, x6, x7⟩
  · exact Or.inl ⟨e, t, v, X, I, J, I1', J', x1, x2, x3, x4, x5, REL_run h hL hw hS x6 hix CFG.rfl x7 XR.rfl, XR.rfl, CFG.rfl⟩
  · exact Or.inr ⟨v, X1, I1, J1, I1', J1', x1, x2, x3, REL_run h hL hw hS x4 hix x6 x7 x5, x5, x6⟩
theorem runC (h : REL X I J I' J') : CX X I J (f_Sh_run p2 X I J) (f_Model_run p2 I' J') [(1, 0)] := by
  obtain ⟨P, B, sd, n, cd, hL, hw, hr'⟩ := h.2.2.2
  rcases hr' with ⟨V, G, a1, a2, a3⟩ | ⟨V, c0, S, st, hg, a1, a2, a3⟩
  · have bad : (p2 < 1 ∨ 2000 < p2) → CX X I J (f_Sh_run p2 X I J) (f_Model_run p2 I' J') [(1, 0)] := fun hb => by
      refine Or.inl ⟨0, 1, 0, X, I, J, TH0 I' 1, J', rfl, by decide, ?_, ?_, TH_0, REL_th h, XR.rfl, CFG.rfl⟩
      · unfold f_Sh_run
        by_cases y : p2 < 1
        · rw [if_pos y]
        · rw [if_neg y, if_neg (fun z => by
            rcases hb with hb | hb
            · exact y hb
            · exact Int32.lt_irrefl (Int32.lt_of_lt_of_le hb z))]
      · unfold f_Model_run
        by_cases y : p2 < 1
        · rw [if_pos y, RAI]
          rfl
        · rw [if_neg y, if_neg (fun z => by
            rcases hb with hb | hb
            · exact y hb
            · exact Int32.lt_irrefl (Int32.lt_of_lt_of_le hb z)), RAI]
          rfl
    rcases p12000 p2 with hb | hb | ⟨N, h1, h2, rfl⟩
    · exact bad (Or.inl hb)
    · exact bad (Or.inr hb)
    · have n1 : ¬ nI N < 1 := fun z => by
        have := (nI_ltI (a := N) (b := 1) (by omega) (by omega)).mp z
        omega
      have n2 : nI N ≤ 2000 := (nI_leI (a := N) (b := 2000) (by omega) (by omega)).mpr h2
      have n3 : ¬ nI N ≤ 0 := fun z => by
        have := (nI_leI (a := N) (b := 0) (by omega) (by omega)).mp z
        omega
      obtain ⟨k, hk⟩ : ∃ k, gF = k + 1 := ⟨gF - 1, by
        have := gF_lt (k := 10) (by omega)
        omega⟩
      refine Or.inr ⟨0, X, I, J, TH0 I' 0, J', ?_, ?_, TH_0, REL_th h, XR.rfl, CFG.rfl⟩
      · unfold f_Sh_run
        rw [if_neg n1, if_pos n2, pl_eq, a2, pl_eq, hk]
        show ob (if nI N ≤ 0 then _ else (if nI 0 = 0 then some ((), X, I, J) else _)) _ = _
        rw [if_neg n3, if_pos (show nI 0 = 0 from rfl)]
        show some (Sum.inl (I 14 10 - I 14 10), X, I, J) = _
        rw [Int32.sub_self]
      · unfold f_Model_run
        rw [if_neg n1, if_pos n2, pl_eq]
        show pl (TH0 I' 0 112 34) (fun x5 => oc (f_Model_run_33 (nI N) gF (nI N) 0 x5 0 (TH0 I' 0) J') _) = _
        rw [TH_n (by decide), a3, pl_eq, hk]
        show oc (if nI N ≤ 0 then _ else (if nI 0 = 0 then some (0, TH0 I' 0, J') else _)) _ = _
        rw [if_neg n3, if_pos (show nI 0 = 0 from rfl), oc_some]
  · exact (runOK p2 a1 a2).cx h hL hw a1 a3
theorem stepC (h : REL X I J I' J') : CX X I J (f_Sh_step p2 X I J) (f_Model_step p2 I' J') [(1, 1), (2, 2)] := by
  obtain ⟨P, B, sd, n, cd, hL, hw, hr'⟩ := h.2.2.2
  rcases hr' with ⟨V, G, a1, a2, a3⟩ | ⟨V, c0, S, st, hg, a1, a2, a3⟩
  · obtain ⟨⟨hP, hB, ⟨m6, m8, m10, m7, md0, md1, md2⟩, ⟨n16, n17, n35, n24, n26, n28, nk, nb, no⟩, ⟨hsa, -⟩, hix⟩, hp⟩ := a1
    rcases PTY p2 hP.2 with ⟨w, hw', e⟩ | hb
    · by_cases h3 : G 20 0 = 30000
      · refine Or.inl ⟨2, 2, 0, X, I, J, TH0 I' 2, J', rfl, by decide, ?_, ?_, TH_0, REL_th h, XR.rfl, CFG.rfl⟩
        · unfold f_Sh_step
          rw [e, HAS1 hP.2 m6 hw', if_pos (show ¬ nI 1 = 0 by decide), m10, h3, if_neg (by decide)]
        · unfold f_Model_step
          rw [e, ISP1 hP.2 n16 hw', if_pos (show ¬ nI 1 = 0 by decide), n35, h3, if_neg (fun z => z rfl)]
          unfold f_Model_raise
          rfl
      · obtain ⟨A, hA, q1, q2, q3⟩ := MS_A (TH0 I' 0)
        have t34 : A 112 34 = 0 := by
          rw [q3 34 (by decide), TH_n (by decide)]
          exact a3
        have sta : ∀ {α : Type} {F : Int32 → MI → MJ → Option α}, oc (f_Model_statusOf (nI w) A J') F = F (nI 2) A J' := by
          intro α F
          unfold f_Model_statusOf
          rw [if_neg (fun z => z t34)]
          rfl
        have rel : REL X I J A J' := by
          obtain ⟨⟨b1, b2, b3⟩, ⟨tot, hn, c1, c2, c3, c4, c5, c6⟩, hx, hs⟩ := REL_th (v := 0) h
          exact ⟨⟨R_tape_c b1 rfl rfl (q3 2 (by decide)) (q1 113 (by decide)), R_put_c b2 rfl rfl (q3 12 (by decide)) (q1 116 (by decide)), by unfold R_fault; rw [q3 3 (by decide), q3 4 (by decide)]; exact b3⟩, ⟨tot, hn, c1, c2, by rw [q3 30 (by decide)]; exact c3, c4, c5, by rw [q3 85 (by decide)]; exact c6⟩, hx, HS_c hs CCH.rfl ⟨fun a h1 h2 => ⟨q1 a (by omega), rfl⟩, q1 114 (by decide), fun j hj => q3 j (by unfold fH at hj; omega), rfl, rfl⟩ hx.2.2.2⟩
        refine Or.inr ⟨2, X, I, J, A, J', ?_, ?_, ?_, rel, XR.rfl, CFG.rfl⟩
        · unfold f_Sh_step
          rw [e, HAS1 hP.2 m6 hw', if_pos (show ¬ nI 1 = 0 by decide), m10, if_pos (show nI (G 20 0) < 30000 from (nI_ltI (a := G 20 0) (b := 30000) (by omega) (by omega)).mpr (by omega)), a2, if_pos (show nI 0 = 0 from rfl)]
        · unfold f_Model_step
          rw [e, ISP1 hP.2 n16 hw', if_pos (show ¬ nI 1 = 0 by decide), n35, if_pos (show ¬ nI (G 20 0) = 30000 from fun z => h3 ((nI_eq (a := G 20 0) (b := 30000) (by omega) (by omega)).mp z)), pl_eq]
          show oc (f_Model_stepOf (nI w) (TH0 I' 0) J') _ = _
          rw [MS_o hA sta (by decide) (by decide), oc_some]
          rfl
        · rw [q3 0 (by decide)]
          exact TH_0
    · refine Or.inl ⟨1, 1, 0, X, I, J, TH0 I' 1, J', rfl, by decide, ?_, ?_, TH_0, REL_th h, XR.rfl, CFG.rfl⟩
      · unfold f_Sh_step
        rw [HAS0 m6 hb, if_neg (fun z => z rfl)]
      · unfold f_Model_step
        rw [ISP0 n16 hb, if_neg (fun z => z rfl), RAI]
        rfl
  · exact (stpOK p2 a1 a2).cx h hL hw a1 a3
theorem deliverC (h : REL X I J I' J') : CN X (f_Sh_deliver p2 p3 I J) (f_Model_deliver p2 p3 I' J') := by
  obtain ⟨P, B, sd, n, cd, hL, hw, hr'⟩ := h.2.2.2
  rcases hr' with ⟨V, G, a1, a2, a3⟩ | ⟨V, c0, S, st, hg, a1, a2, a3⟩
  · refine ⟨0, I, J, TH0 I' 0, J', ?_, ?_, REL_th h⟩
    · unfold f_Sh_deliver
      rw [a2, if_pos (show nI 0 = 0 from rfl)]
    · show (if TH0 I' 0 112 34 = 0 then some (0, TH0 I' 0, J') else _) = _
      rw [TH_n (by decide), a3, if_pos (show nI 0 = 0 from rfl)]
  · obtain ⟨v, S1, I1, I1', J1', x1, x2, x3, x4, x5⟩ := dlvOK p2 p3 a1 a2
    exact ⟨v, I1, J, I1', J1', x1, x2, REL_run h hL hw a1 x3 a3 x4 x5 XR.rfl⟩
theorem beginC (h : REL X I J I' J') : CN X (f_Sh_begin I J) (f_Model_begin I' J') := by
  obtain ⟨P, B, sd, n, cd, V, G, hL, hw, hH⟩ := HS_H h.2.2.2
  by_cases h8 : I' 112 8 = 0
  · have n0 : n = 0 := by
      rcases hL.2.2 with ⟨-, y⟩ | ⟨y, -⟩
      · exact y
      · exact absurd h8 y
    refine ⟨0, I, J, TH0 I' 0, J', ?_, ?_, REL_th h⟩
    · unfold f_Sh_begin
      rw [hL.1.1, n0, if_neg (fun z => z rfl)]
    · unfold f_Model_begin
      rw [pl_eq]
      show (if ¬ TH0 I' 0 112 8 = 0 then _ else some (0, TH0 I' 0, J')) = _
      rw [TH_n (by decide), if_neg (fun z => z h8)]
  · obtain ⟨st, hg, hW⟩ := hw.2 (hw.1 h8)
    have h114 : ∀ k, k < n → I' 114 k = nI (cd k) := by
      rcases hL.2.2 with ⟨y, -⟩ | ⟨-, -, y⟩
      · exact absurd y h8
      · exact y
    obtain ⟨⟨a1, a2, a3⟩, ⟨tot, hn, b1, b2, b3, b4, b5, b6⟩, hx, hs⟩ := h
    obtain ⟨I1, J1, I1', J1', x1, x2, x3, x4, x5, x6, x7, x8, x9, x10, x11⟩ := beginOK hW hH hx.1 hL.1 h8 h114
    have fc : ∀ a, a < 14 ∨ a = 15 ∨ a = 16 → I1 a = I a := fun a ha => x5 a (by omega) (by omega) (by omega)
    have fr : ∀ a, a = 113 ∨ a = 114 ∨ a = 116 → I1' a = I' a := fun a ha => x9 a (by omega) (by omega)
    refine ⟨1, I1, J1, I1', J1', x1, x2, ⟨R_tape_c a1 (by rw [fc 4 (by omega)]) (fc 5 (by omega)) (x10 2 (by decide) (by decide) (by decide) (by decide)) (fr 113 (by omega)), R_put_c a2 (by rw [fc 1 (by omega)]) (fc 2 (by omega)) (x10 12 (by decide) (by decide) (by decide) (by decide)) (fr 116 (by omega)), by unfold R_fault; rw [fc 0 (by omega), x10 3 (by decide) (by decide) (by decide) (by decide), x10 4 (by decide) (by decide) (by decide) (by decide)]; exact a3⟩, ⟨tot, hn, b1, by rw [fc 0 (by omega)]; exact b2, by rw [x10 30 (by decide) (by decide) (by decide) (by decide)]; exact b3, b4, by rw [fc 0 (by omega)]; exact b5, by rw [x10 85 (by decide) (by decide) (by decide) (by decide)]; exact b6⟩, hx, P, B, sd, n, cd, LDC_c hL (fc 15 (by omega)) (fc 16 (by omega)) (fr 114 (by omega)) (x10 7 (by decide) (by decide) (by decide) (by decide)) (x10 8 (by decide) (by decide) (by decide) (by decide)), ⟨by rw [x10 8 (by decide) (by decide) (by decide) (by decide)]; exact hw.1, hw.2⟩, Or.inr ⟨_, _, _, st, hg, x4, x3, fun x hx4 => by rw [x8 x hx4]; exact hH.1.2.2.2.2.2 x hx4⟩⟩
theorem p24 (p : Int32) : p < 2 ∨ 4 < p ∨ ∃ a, 2 ≤ a ∧ a ≤ 4 ∧ p = nI a := by
  rcases nI_of3 p with h | ⟨j, hj, e⟩
  · exact Or.inl (Int32.lt_trans h (by decide))
  · by_cases y : j < 2
    · exact Or.inl (by rw [e]; exact (nI_ltI (a := j) (b := 2) (by omega) (by omega)).mpr y)
    · by_cases z : j ≤ 4
      · exact Or.inr (Or.inr ⟨j, by omega, z, e⟩)
      · exact Or.inr (Or.inl (by rw [e]; exact (nI_ltI (a := 4) (b := j) (by omega) hj).mpr (by omega)))
theorem p14 (p : Int32) : p < 1 ∨ 4 < p ∨ ∃ a, 1 ≤ a ∧ a ≤ 4 ∧ p = nI a := by
  rcases nI_of3 p with h | ⟨j, hj, e⟩
  · exact Or.inl (Int32.lt_trans h (by decide))
  · by_cases y : j < 1
    · exact Or.inl (by rw [e]; exact (nI_ltI (a := j) (b := 1) (by omega) (by omega)).mpr y)
    · by_cases z : j ≤ 4
      · exact Or.inr (Or.inr ⟨j, by omega, z, e⟩)
      · exact Or.inr (Or.inl (by rw [e]; exact (nI_ltI (a := 4) (b := j) (by omega) hj).mpr (by omega)))
theorem hallC (q3 : Int64) (h : REL X I J I' J') : CN X (f_Sh_hall p2 q3 p4 I J) (f_Model_hall p2 q3 p4 I' J') := by
  have no : f_Sh_hall p2 q3 p4 I J = some (0, I, J) → f_Model_hall p2 q3 p4 I' J' = some (0, TH0 I' 0, J') → CN X (f_Sh_hall p2 q3 p4 I J) (f_Model_hall p2 q3 p4 I' J') := fun h1 h2 => ⟨0, I, J, TH0 I' 0, J', h1, h2, REL_th h⟩
  have M : f_Model_hall p2 q3 p4 I' J' = (if p2 < 2 then (some (0, TH0 I' 0, J')) else (if 4 < p2 then (some (0, TH0 I' 0, J')) else (if p4 < 1 then (some (0, TH0 I' 0, J')) else (if 4 < p4 then (some (0, TH0 I' 0, J')) else (if ¬ (TH0 I' 0 112 85) = 300 then (pl (va_up (TH0 I' 0) 112 (upd (TH0 I' 0 112) 85 ((TH0 I' 0 112 85) + 1))) (fun I7 => oc (f_Model_newHall p2 q3 p4 I7 J') (fun v8 I8 J8 => some (1, I8, J8)))) else (some (0, TH0 I' 0, J'))))))) := rfl
  obtain ⟨P0, B0, sd0, n0, cd0, V, G, hL, hw, hH⟩ := HS_H h.2.2.2
  rcases p24 p2 with y | y | ⟨P, hP2, hP, rfl⟩
  · refine no ?_ ?_
    · unfold f_Sh_hall
      rw [if_pos y]
    · rw [M, if_pos y]
  · have y1 : ¬ p2 < 2 := fun z => Int32.lt_irrefl (Int32.lt_trans (Int32.lt_trans y z) (show (2 : Int32) < 4 by decide))
    refine no ?_ ?_
    · unfold f_Sh_hall
      rw [if_neg y1, if_pos y]
    · rw [M, if_neg y1, if_pos y]
  · have y1 : ¬ nI P < 2 := fun z => by
      have := (nI_ltI (a := P) (b := 2) (by omega) (by omega)).mp z
      omega
    have y2 : ¬ 4 < nI P := fun z => by
      have := (nI_ltI (a := 4) (b := P) (by omega) (by omega)).mp z
      omega
    rcases p14 p4 with z | z | ⟨B, hB1, hB, rfl⟩
    · refine no ?_ ?_
      · unfold f_Sh_hall
        rw [if_neg y1, if_neg y2, if_pos z]
      · rw [M, if_neg y1, if_neg y2, if_pos z]
    · have z1 : ¬ p4 < 1 := fun w => Int32.lt_irrefl (Int32.lt_trans (Int32.lt_trans z w) (show (1 : Int32) < 4 by decide))
      have z2 : ¬ p4 ≤ 4 := fun w => Int32.lt_irrefl (Int32.lt_of_lt_of_le z w)
      refine no ?_ ?_
      · unfold f_Sh_hall
        rw [if_neg y1, if_neg y2, if_neg z1, if_neg z2]
      · rw [M, if_neg y1, if_neg y2, if_neg z1, if_pos z]
    · have z1 : ¬ nI B < 1 := fun z => by
        have := (nI_ltI (a := B) (b := 1) (by omega) (by omega)).mp z
        omega
      have z2 : nI B ≤ 4 := (nI_leI (a := B) (b := 4) (by omega) (by omega)).mpr hB
      have z3 : ¬ 4 < nI B := fun z => by
        have := (nI_ltI (a := 4) (b := B) (by omega) (by omega)).mp z
        omega
      obtain ⟨⟨a1, a2, a3⟩, ⟨tot, hn, b1, b2, b3, b4, b5, b6⟩, hx, hs⟩ := h
      have t85 : TH0 I' 0 112 85 = nI hn := by rw [TH_n (by decide)]; exact b6
      by_cases h3 : hn = 300
      · refine no ?_ ?_
        · unfold f_Sh_hall
          rw [if_neg y1, if_neg y2, if_neg z1, if_pos z2, b5, h3, if_neg (by decide)]
        · rw [M, if_neg y1, if_neg y2, if_neg z1, if_neg z3, t85, h3, if_neg (fun w => w rfl)]
      · obtain ⟨A, q1, q2, q3', q4⟩ := UP1 I 0 4 (nI (hn + 1))
        obtain ⟨I1, J1, r1, r2, r3, r4, r5, r6, r7, r8, r9⟩ := RNW (I := A) (J := J) (p2 := nI P) (p3 := q3) (p4 := nI B)
        obtain ⟨A', s1, s2, s3, s4⟩ := UP1 (TH0 I' 0) 112 85 (nI (hn + 1))
        obtain ⟨I1', J1', t1, t2, t3, t4, t5, t6, t7, t8, t9, t10, t11⟩ := NHL (P := P) (sd := q3) (p4 := nI B) (I := A') (J := J') hP
        have fc : ∀ a, 0 < a → a < 14 → I1 a = I a := fun a h0 ha => by rw [r2 a (fun x hx => by omega) (by omega) (by omega) (by omega), q2 a (by omega)]
        have f0 : I1 0 = A 0 := r2 0 (fun x hx => by omega) (by omega) (by omega) (by omega)
        have nn : ∀ a, a = 113 ∨ a = 114 ∨ a = 116 ∨ a = 124 → ¬ nhR a := fun a ha => by
          unfold nhR
          omega
        have fr : ∀ a, a = 113 ∨ a = 114 ∨ a = 116 → I1' a = I' a := fun a ha => by
          rw [t2 a (nn a (by omega)) (by omega) (by omega) (by omega) (by omega), s2 a (by omega)]
          exact va_up_ne _ _ (by omega)
        have fj : ∀ j, j = 2 ∨ j = 3 ∨ j = 4 ∨ j = 12 ∨ j = 30 ∨ j = 35 → I1' 112 j = I' 112 j := fun j hj => by rw [t3 j (by omega) (by omega) (by omega) (by omega) (by omega) (by omega) (by omega), s4 j (by omega), TH_n (by omega)]
        refine ⟨1, I1, J1, I1', J1', ?_, ?_, ⟨R_tape_c a1 (by rw [fc 4 (by omega) (by omega)]) (fc 5 (by omega) (by omega)) (fj 2 (by omega)) (fr 113 (by omega)), R_put_c a2 (by rw [fc 1 (by omega) (by omega)]) (fc 2 (by omega) (by omega)) (fj 12 (by omega)) (fr 116 (by omega)), ?_⟩, ⟨tot, hn + 1, b1, by rw [f0, q4 5 (by decide)]; exact b2, by rw [fj 30 (by omega)]; exact b3, by omega, by rw [f0]; exact q3', by rw [t3 85 (by decide) (by decide) (by decide) (by decide) (by decide) (by decide) (by decide)]; exact s3⟩, hx, P, B, q3, 0, cd0, ⟨⟨r5, fun k hk => absurd hk (Nat.not_lt_zero _)⟩, by decide, Or.inl ⟨t4.1, rfl⟩⟩, ⟨fun y => absurd t4.1 y, fun y => absurd y (by decide)⟩, Or.inl ⟨V, fun k => if k = 20 then (fun i => if i = 0 then G 20 0 else 0) else fun _ => 0, ⟨⟨⟨hP2, hP⟩, ⟨hB1, hB⟩, ⟨r4.1, r4.2.1, ?_, r9, r6 0 (by decide), r6 1 (by decide), r6 2 (by decide)⟩, ⟨t4.2.1, t4.2.2.1, ?_, t4.2.2.2.1, t4.2.2.2.2.1, t4.2.2.2.2.2.1, t9, t10, t11⟩, ⟨hH.1.2.2.2.2.1.1, Nat.zero_le _, Nat.zero_le _, Nat.zero_le _⟩, fun x hx4 => ?_⟩, fun x hxP => ?_⟩, r4.2.2, t4.2.2.2.2.2.2⟩⟩
        · unfold f_Sh_hall
          rw [if_neg y1, if_neg y2, if_neg z1, if_pos z2, b5, if_pos (show nI hn < 300 from (nI_ltI (a := hn) (b := 300) (by omega) (by omega)).mpr (by omega)), nI_1, q1, pl_eq, r1]
        · rw [M, if_neg y1, if_neg y2, if_neg z1, if_neg z3, t85, if_pos (show ¬ nI hn = 300 from fun z => h3 ((nI_eq (a := hn) (b := 300) (by omega) (by omega)).mp z)), nI_1, s1, pl_eq, t1, oc_some]
        · unfold R_fault
          rw [f0, q4 6 (by decide), q4 7 (by decide), fj 3 (by omega), fj 4 (by omega)]
          exact a3
        · rw [r3 10 (by decide) (by decide) (by decide), q2 14 (by decide)]
          exact hH.1.2.2.1.2.2.1
        · rw [fj 35 (by omega)]
          exact hH.1.2.2.2.1.2.2.1
        · rw [r2 (18 + 21 * x) (fun y hy => by omega) (by omega) (by omega) (by omega), q2 _ (by omega)]
          exact hH.1.2.2.2.2.2 x hx4
        · have w := r7 x (by omega)
          have nh : ∀ b, (119 ≤ b ∧ b ≤ 123) ∨ b = 125 ∨ b = 126 → I1' b x = nI 0 := fun b hb => t5 b x hb (by omega)
          exact ⟨w.2.2, w.1 2 (by omega) (by omega), w.1 3 (by omega) (by omega), w.1 4 (by omega) (by omega), w.1 5 (by omega) (by omega), w.2.1 0 (by omega), w.2.1 1 (by omega), w.2.1 2 (by omega), fun k hk => absurd hk (Nat.not_lt_zero _), t6 x hxP, nh 125 (by omega), nh 126 (by omega), nh 120 (by omega), nh 119 (by omega), nh 121 (by omega), nh 122 (by omega), nh 123 (by omega), Nat.le_refl _, Nat.zero_le _, Nat.le_refl _, Nat.zero_le _, Nat.le_refl _, Nat.le_refl _, Nat.le_refl _, Nat.zero_le _⟩
end CALLS
