/-! calls: type, put, fault, code, total, compile, load -/
def CN (X : MX) (r q : M2 Int32) : Prop := ∃ v I1 J1 I1' J1', r = some (v, I1, J1) ∧ q = some (v, I1', J1') ∧ REL X I1 J1 I1' J1'
def CT {α : Type} (X : MX) (r : M2 (α ⊕ Nat)) (q : M2 α) (hk : List (Int32 × Nat)) : Prop := (∃ e t v I1 J1 I1' J1', am_hand e hk = some t ∧ ¬ t = 0 ∧ r = some (.inr e, I1, J1) ∧ q = some (v, I1', J1') ∧ I1' 112 0 = t ∧ REL X I1 J1 I1' J1') ∨ (∃ v I1 J1 I1' J1', r = some (.inl v, I1, J1) ∧ q = some (v, I1', J1') ∧ I1' 112 0 = 0 ∧ REL X I1 J1 I1' J1')
section CALLS
variable {X : MX} {I I' : MI} {J J' : MJ} {p2 p3 p4 : Int32}
theorem RCH_th {v : Int32} : RCH I' (TH0 I' v) J' J' := ⟨fun a h1 h2 => ⟨va_up_ne _ _ (by omega), rfl⟩, va_up_ne _ _ (by decide), fun j hj => TH_n (by unfold fH at hj; omega), rfl, rfl⟩
theorem REL_th {v : Int32} (h : REL X I J I' J') : REL X I J (TH0 I' v) J' := by
  obtain ⟨⟨a1, a2, a3⟩, ⟨tot, hn, b1, b2, b3, b4, b5, b6⟩, hx, hs⟩ := h
  exact ⟨⟨R_tape_c a1 rfl rfl (TH_n (by decide)) (va_up_ne _ _ (by decide)), R_put_c a2 rfl rfl (TH_n (by decide)) (va_up_ne _ _ (by decide)), by unfold R_fault; rw [TH_n (by decide), TH_n (by decide)]; exact a3⟩, ⟨tot, hn, b1, b2, by rw [TH_n (by decide)]; exact b3, b4, b5, by rw [TH_n (by decide)]; exact b6⟩, hx, HS_c hs CCH.rfl RCH_th hx.2.2.2⟩
theorem typeOK (w : Int64) (h : REL X I J I' J') : CN X (f_Sh_type w p2 I J) (f_Model_type w p2 I' J') := by
  obtain ⟨⟨a1, a2, a3⟩, ⟨tot, hn, b1, b2, b3, b4, b5, b6⟩, hx, hs⟩ := h
  obtain ⟨v, a, b, c, d, x1, x2, x3, x4⟩ := c_type w p2 I I' J J' a1
  have f112 : ∀ j, j ≠ 0 → j ≠ 2 → va_up (va_up I' 113 c) 112 d 112 j = I' 112 j := fun j j1 j2 => by rw [va_up_self]; exact x3 j j1 j2
  have fI : ∀ m, m ≠ 4 → m ≠ 5 → va_up (va_up I 5 a) 4 b m = I m := fun m m1 m2 => by rw [va_up_ne _ _ m1, va_up_ne _ _ m2]
  have fI' : ∀ m, m ≠ 112 → m ≠ 113 → va_up (va_up I' 113 c) 112 d m = I' m := fun m m1 m2 => by rw [va_up_ne _ _ m1, va_up_ne _ _ m2]
  refine ⟨v, _, J, _, J', x1, x2, ⟨x4, R_put_c a2 (by rw [fI 1 (by decide) (by decide)]) (fI 2 (by decide) (by decide)) (f112 12 (by decide) (by decide)) (fI' 116 (by decide) (by decide)), ?_⟩, ⟨tot, hn, b1, by rw [fI 0 (by decide) (by decide)]; exact b2, by rw [f112 30 (by decide) (by decide)]; exact b3, b4, by rw [fI 0 (by decide) (by decide)]; exact b5, by rw [f112 85 (by decide) (by decide)]; exact b6⟩, hx, HS_c hs ⟨fun m h1 h2 => ⟨fI m (by omega) (by omega), rfl⟩, fun _ _ => rfl⟩ ⟨fun m h1 h2 => ⟨fI' m (by omega) (by omega), rfl⟩, fI' 114 (by decide) (by decide), fun j hj => f112 j (by unfold fH at hj; omega) (by unfold fH at hj; omega), rfl, rfl⟩ hx.2.2.2⟩
  unfold R_fault
  rw [fI 0 (by decide) (by decide), f112 3 (by decide) (by decide), f112 4 (by decide) (by decide)]
  exact a3
theorem putOK (w : Int64) (h : REL X I J I' J') : CN X (f_Sh_put w p2 I J) (f_Model_put w p2 I' J') := by
  obtain ⟨⟨a1, a2, a3⟩, ⟨tot, hn, b1, b2, b3, b4, b5, b6⟩, hx, hs⟩ := h
  obtain ⟨v, a, b, c, d, x1, x2, x3, x4⟩ := c_put w p2 I I' J J' a2
  have f112 : ∀ j, j ≠ 0 → j ≠ 12 → va_up (va_up I' 116 c) 112 d 112 j = I' 112 j := fun j j1 j2 => by rw [va_up_self]; exact x3 j j1 j2
  have fI : ∀ m, m ≠ 1 → m ≠ 2 → va_up (va_up I 2 a) 1 b m = I m := fun m m1 m2 => by rw [va_up_ne _ _ m1, va_up_ne _ _ m2]
  have fI' : ∀ m, m ≠ 112 → m ≠ 116 → va_up (va_up I' 116 c) 112 d m = I' m := fun m m1 m2 => by rw [va_up_ne _ _ m1, va_up_ne _ _ m2]
  refine ⟨v, _, J, _, J', x1, x2, ⟨R_tape_c a1 (by rw [fI 4 (by decide) (by decide)]) (fI 5 (by decide) (by decide)) (f112 2 (by decide) (by decide)) (fI' 113 (by decide) (by decide)), x4, ?_⟩, ⟨tot, hn, b1, by rw [fI 0 (by decide) (by decide)]; exact b2, by rw [f112 30 (by decide) (by decide)]; exact b3, b4, by rw [fI 0 (by decide) (by decide)]; exact b5, by rw [f112 85 (by decide) (by decide)]; exact b6⟩, hx, HS_c hs ⟨fun m h1 h2 => ⟨fI m (by omega) (by omega), rfl⟩, fun _ _ => rfl⟩ ⟨fun m h1 h2 => ⟨fI' m (by omega) (by omega), rfl⟩, fI' 114 (by decide) (by decide), fun j hj => f112 j (by unfold fH at hj; omega) (by unfold fH at hj; omega), rfl, rfl⟩ hx.2.2.2⟩
  unfold R_fault
  rw [fI 0 (by decide) (by decide), f112 3 (by decide) (by decide), f112 4 (by decide) (by decide)]
  exact a3
theorem faultOK (h : REL X I J I' J') : CN X (f_Sh_fault p2 I J) (f_Model_fault p2 I' J') := by
  obtain ⟨v, x1, x2⟩ := FLT (p2 := p2) (J := J) (J' := J') h.1.2.2.1 h.1.2.2.2
  exact ⟨v, I, J, _, J', x1, x2, REL_th h⟩
theorem codeOK (h : REL X I J I' J') : CN X (f_Sh_code p2 I J) (f_Model_code p2 I' J') := by
  obtain ⟨P, B, sd, n, cd, V, G, hL, hw, hH⟩ := HS_H h.2.2.2
  obtain ⟨v, x1, x2⟩ := COD (p2 := p2) (J := J) (J' := J') hL
  exact ⟨v, I, J, _, J', x1, x2, REL_th h⟩
theorem HALL_D {P B : Nat} {sd : Int64} {V G : Nat → Nat → Nat} (hH : HALL P B sd V G I I' J J') : DLT I I' P (G 20 2) (G 20 3) (G 20 4) (G 10) (G 11) (G 16) := by
  obtain ⟨⟨hP, hB, ⟨m6, m8, m10, m7, md0, md1, md2⟩, ⟨n16, n17, n35, n24, n26, n28, nk, nb, no⟩, ⟨hsa, d0, d1, d2⟩, hix⟩, hp⟩ := hH
  refine ⟨⟨md0, md1, md2⟩, ⟨n24, n26, n28⟩, ⟨by omega, by omega, by omega⟩, fun j hj => ?_, fun j hj => ?_, fun j hj => ?_⟩
  all_goals
    obtain ⟨q1, q2, q3, q4, q5, q6, q7, q8, qi, r1, r2, r3, r4, r5, r6, r7, r8, qb⟩ := hp j hj
  · exact ⟨qb.2.2.2.2.1, q6, r6⟩
  · exact ⟨qb.2.2.2.2.2.1, q7, r7⟩
  · exact ⟨qb.2.2.2.2.2.2.1, q8, r8⟩
theorem totalOK (h : REL X I J I' J') : CN X (f_Sh_total p2 I J) (f_Model_total p2 I' J') := by
  obtain ⟨P, B, sd, n, cd, V, G, hL, hw, hH⟩ := HS_H h.2.2.2
  have hD := HALL_D hH
  obtain ⟨⟨hP, hB, ⟨m6, m8, m10, m7, md0, md1, md2⟩, ⟨n16, n17, n35, n24, n26, n28, nk, nb, no⟩, hsa, hix⟩, hp⟩ := hH
  obtain ⟨v, x1, x2⟩ := TOT (p2 := p2) (J := J) (J' := J') hP.2 (by omega) m6 n16 hL hD (by rw [m10, n35]) (by rw [m8, n17])
  exact ⟨v, I, J, _, J', x1, x2, REL_th h⟩
theorem compileOK (h : REL X I J I' J') : CT X (f_Sh_compile I J) (f_Model_compile I' J') [(1, 0)] := by
  obtain ⟨P, B, sd, n, cd, V, G, hL, hw, hH⟩ := HS_H h.2.2.2
  obtain ⟨⟨a1, a2, a3⟩, ⟨tot, hn, b1, b2, b3, b4, b5, b6⟩, hx, hs⟩ := h
  obtain ⟨I1, I1', r1, r2, ⟨k1, k2, k3⟩, ⟨m1', m2⟩, hh⟩ := c_compile I I' J J' a1 hH.1.1.2 hH.1.2.2.1.1 hH.1.2.2.2.1.1
  have pt : R_put I1 I1' := R_put_c a2 (by rw [k1 1 (by decide) (by omega)]) (k1 2 (by decide) (by omega)) (m2 12 (by decide) (by decide) (by decide) (by decide) (by decide) (by decide) (by decide) (by decide) (by decide) (by decide) (by decide) (by decide) (by decide) (by decide) (by decide)) (m1' 116 (by decide) (by decide) (by decide) (by decide) (by decide) (by decide) (by decide))
  have cn : ∃ tot hn, tot ≤ 3000 ∧ I1 0 5 = nI tot ∧ I1' 112 30 = nI tot ∧ hn ≤ 300 ∧ I1 0 4 = nI hn ∧ I1' 112 85 = nI hn := ⟨tot, hn, b1, by rw [k2 5 (by decide) (by decide)]; exact b2, by rw [m2 30 (by decide) (by decide) (by decide) (by decide) (by decide) (by decide) (by decide) (by decide) (by decide) (by decide) (by decide) (by decide) (by decide) (by decide) (by decide)]; exact b3, b4, by rw [k2 4 (by decide) (by decide)]; exact b5, by rw [m2 85 (by decide) (by decide) (by decide) (by decide) (by decide) (by decide) (by decide) (by decide) (by decide) (by decide) (by decide) (by decide) (by decide) (by decide) (by decide)]; exact b6⟩
  have rr : ∀ a, 117 ≤ a → a ≤ 159 → I1' a = I' a := fun a h1 h2 => m1' a (by omega) (by omega) (by omega) (by omega) (by omega) (by omega) (by omega)
  have fm : ∀ j, fH j → j ≠ 7 → j ≠ 8 → j ≠ 34 → I1' 112 j = I' 112 j := fun j hj j7 j8 j34 => by
    unfold fH at hj
    exact m2 j (by omega) (by omega) (by omega) (by omega) (by omega) j7 j8 (by omega) (by omega) (by omega) (by omega) j34 (by omega) (by omega) (by omega)
  rcases hh with ⟨v, x1, x2, x3, x4, x5, x6, x7, x8, x9, x10⟩ | ⟨v, n', cd', st', hg', x1, x2, x3, x4, x5, x6, x7⟩
  · refine Or.inl ⟨0, 1, v, I1, J, I1', J', rfl, by decide, x1, x2, x3, ⟨r1, pt, r2⟩, cn, hx, HS_c hs ⟨fun a h1 h2 => ⟨?_, rfl⟩, fun _ _ => rfl⟩ ⟨fun a h1 h2 => ⟨rr a h1 h2, rfl⟩, x7, fun j hj => ?_, rfl, rfl⟩ hx.2.2.2⟩
    · by_cases y : a = 14
      · rw [y]
        funext j
        by_cases z : j = 9
        · rw [z, x4]
        · exact k3 j z
      · by_cases y2 : a = 15
        · rw [y2, x5]
        · by_cases y3 : a = 16
          · rw [y3, x6]
          · exact k1 a (by omega) (by omega)
    · by_cases y : j = 7
      · rw [y, x8]
      · by_cases y2 : j = 8
        · rw [y2, x9]
        · by_cases y3 : j = 34
          · rw [y3, x10]
          · exact fm j hj y y2 y3
  · refine Or.inr ⟨v, I1, J, I1', J', x1, x2, x3, ⟨r1, pt, r2⟩, cn, hx, P, B, sd, n', cd', ⟨x7.1, x6.2.1, Or.inr ⟨by rw [x7.2.1]; decide, x7.2.2⟩⟩, ⟨fun _ => x6.1, fun _ => ⟨st', hg', x6⟩⟩, Or.inl ⟨V, G, HALL_c hH ⟨fun a h1 h2 => ⟨k1 a (by omega) (by omega), rfl⟩, k3, rfl⟩ ⟨fun a h1 h2 => ⟨rr a (by omega) (by omega), rfl⟩, fun j hj => fm j (by unfold fH; omega) (by omega) (by omega) (by omega), rfl, rfl⟩, x4, x5⟩⟩
theorem loadOK (h : REL X I J I' J') : CT X (f_Sh_load I J) (f_Model_load I' J') [(1, 0)] := by
  obtain ⟨P, B, sd, n, cd, V, G, hL, hw, hH⟩ := HS_H h.2.2.2
  obtain ⟨⟨a1, a2, a3⟩, ⟨tot, hn, b1, b2, b3, b4, b5, b6⟩, hx, hs⟩ := h
  obtain ⟨I1, I1', J1', r1, r2, ⟨k1, k2, k3⟩, ⟨m1', m2, m3, m4⟩, hh⟩ := c_load I I' J J' a2 hH.1.1.2 hH.1.2.2.1.1 hH.1.2.2.2.1.1
  have fj : ∀ j, j ≠ 0 → j ≠ 3 → j ≠ 4 → j ≠ 7 → j ≠ 8 → j ≠ 12 → j ≠ 34 → j < 82 ∨ 84 < j → I1' 112 j = I' 112 j := fun j j0 j3 j4 j7 j8 j12 j34 j8x => m2 j j0 j3 j4 j7 j8 j12 j34 (by omega) (by omega)
  have tp : R_tape I1 I1' := R_tape_c a1 (by rw [k1 4 (by decide) (by decide) (by omega)]) (k1 5 (by decide) (by decide) (by omega)) (fj 2 (by decide) (by decide) (by decide) (by decide) (by decide) (by decide) (by decide) (by omega)) (m1' 113 (by decide) (by decide) (by decide) (by decide))
  have cn : ∃ tot hn, tot ≤ 3000 ∧ I1 0 5 = nI tot ∧ I1' 112 30 = nI tot ∧ hn ≤ 300 ∧ I1 0 4 = nI hn ∧ I1' 112 85 = nI hn := ⟨tot, hn, b1, by rw [k2 5 (by decide) (by decide)]; exact b2, by rw [fj 30 (by decide) (by decide) (by decide) (by decide) (by decide) (by decide) (by decide) (by omega)]; exact b3, b4, by rw [k2 4 (by decide) (by decide)]; exact b5, by rw [fj 85 (by decide) (by decide) (by decide) (by decide) (by decide) (by decide) (by decide) (by omega)]; exact b6⟩
  have rr : ∀ a, 117 ≤ a → a ≤ 159 → I1' a = I' a ∧ J1' a = J' a := fun a h1 h2 => ⟨m1' a (by omega) (by omega) (by omega) (by omega), m3 a (by omega)⟩
  have fm : ∀ j, fH j → j ≠ 7 → j ≠ 8 → j ≠ 34 → I1' 112 j = I' 112 j := fun j hj j7 j8 j34 => by
    unfold fH at hj
    exact fj j (by omega) (by omega) (by omega) j7 j8 (by omega) j34 (by omega)
  rcases hh with ⟨v, x1, x2, x3, x4, x5, x6, x7, x8, x9, x10⟩ | ⟨v, n', cd', st', hg', x1, x2, x3, x4, x5, x6, x7⟩
  · refine Or.inl ⟨0, 1, v, I1, J, I1', J1', rfl, by decide, x1, x2, x3, ⟨tp, r1, r2⟩, cn, hx, HS_c hs ⟨fun a h1 h2 => ⟨?_, rfl⟩, fun _ _ => rfl⟩ ⟨rr, x7, fun j hj => ?_, m4 18 (by decide), m4 21 (by decide)⟩ hx.2.2.2⟩
    · by_cases y : a = 14
      · rw [y]
        funext j
        by_cases z : j = 9
        · rw [z, x4]
        · exact k3 j z
      · by_cases y2 : a = 15
        · rw [y2, x5]
        · by_cases y3 : a = 16
          · rw [y3, x6]
          · exact k1 a (by omega) (by omega) (by omega)
    · by_cases y : j = 7
      · rw [y, x8]
      · by_cases y2 : j = 8
        · rw [y2, x9]
        · by_cases y3 : j = 34
          · rw [y3, x10]
          · exact fm j hj y y2 y3
  · refine Or.inr ⟨v, I1, J, I1', J1', x1, x2, x3, ⟨tp, r1, r2⟩, cn, hx, P, B, sd, n', cd', ⟨x7.1, x6.2.1, Or.inr ⟨by rw [x7.2.1]; decide, x7.2.2⟩⟩, ⟨fun _ => x6.1, fun _ => ⟨st', hg', x6⟩⟩, Or.inl ⟨V, G, HALL_c hH ⟨fun a h1 h2 => ⟨k1 a (by omega) (by omega) (by omega), rfl⟩, k3, rfl⟩ ⟨fun a h1 h2 => rr a (by omega) (by omega), fun j hj => fm j (by unfold fH; omega) (by omega) (by omega) (by omega), m4 18 (by decide), m4 21 (by decide)⟩, x4, x5⟩⟩
end CALLS
