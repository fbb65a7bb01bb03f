/-! the hall's state, and where it is the same -/
def fH (j : Nat) : Prop := j = 7 ∨ j = 8 ∨ j = 16 ∨ j = 17 ∨ j = 24 ∨ j = 26 ∨ j = 28 ∨ j = 34 ∨ j = 35 ∨ j = 60 ∨ j = 66
/-- the class's cells of the hall -/
def CCH (I I2 : MI) (J J2 : MJ) : Prop := (∀ a, 14 ≤ a → a ≤ 107 → I2 a = I a ∧ J2 a = J a) ∧ ∀ a, 168 < a → J2 a = J a
/-- the reference's -/
def RCH (I I2 : MI) (J J2 : MJ) : Prop := (∀ a, 117 ≤ a → a ≤ 159 → I2 a = I a ∧ J2 a = J a) ∧ I2 114 = I 114 ∧ (∀ j, fH j → I2 112 j = I 112 j) ∧ J2 112 18 = J 112 18 ∧ J2 112 21 = J 112 21
theorem CCH.rfl {I : MI} {J : MJ} : CCH I I J J := ⟨fun _ _ _ => ⟨Eq.refl _, Eq.refl _⟩, fun _ _ => Eq.refl _⟩
theorem RCH.rfl {I : MI} {J : MJ} : RCH I I J J := ⟨fun _ _ _ => ⟨Eq.refl _, Eq.refl _⟩, Eq.refl _, fun _ _ => Eq.refl _, Eq.refl _, Eq.refl _⟩
section CONG
variable {cd : Nat → Nat} {sd : Int64} {V G c c0 : Nat → Nat → Nat} {P n B w x : Nat} {st : Nat → Bool} {hg : Nat → Nat} {S S' : Nat → Nat → Nat} {X : MX} {I I2 I' I2' : MI} {J J2 J' J2' : MJ}
theorem MC_c (hP : P ≤ 4) (hM : MC cd n P B sd V c0 S X I J) (h : CCH I I2 J J2) (h168 : ∀ w, w < 4 → X.1 w ≠ 168) : MC cd n P B sd V c0 S X I2 J2 := by
  obtain ⟨⟨m6, m8, m9, m10, m7, mr, md0, md1, md2⟩, hX, hp⟩ := hM
  have e14 := h.1 14 (by omega) (by omega)
  have e15 := h.1 15 (by omega) (by omega)
  have e16 := h.1 16 (by omega) (by omega)
  have e102 := h.1 102 (by omega) (by omega)
  refine ⟨by unfold MCg; rw [e14.1, e14.2, e102.1]; exact ⟨m6, m8, m9, m10, m7, rowC_f2 mr e15.1 e16.1, md0, md1, md2⟩, hX, fun x hx => MCp_fr (hp x hx) (fun a a1 a2 => (h.1 a (by omega) (by omega)).1) (fun a a1 a2 => (h.1 a (by omega) (by omega)).2) (OV_fr (hp x hx).2.2.2.2.2 rfl rfl (Nat.le_refl _) ?_) (fun _ _ => rfl) (fun _ _ => rfl) (fun _ _ => rfl) (fun _ _ => rfl) (fun _ => rfl) (fun _ _ _ => rfl)⟩
  have xx := (hX.1 x (by omega)).2.1
  have xn := h168 x (by omega)
  rcases xx with y | y
  · exact (h.1 _ (by omega) (by omega)).2
  · exact h.2 _ (by omega)
theorem SAM_c (h : RCH I I2 J J2) (hx : x < 4) : SAM x I I2 J J2 := ⟨fun a a1 a2 _ => by rw [(h.1 a (by omega) (by omega)).1], fun i _ _ => by rw [(h.1 140 (by omega) (by omega)).1], fun i _ _ => by rw [(h.1 143 (by omega) (by omega)).2], fun i _ _ => by rw [(h.1 144 (by omega) (by omega)).2], by rw [(h.1 146 (by omega) (by omega)).2], (h.1 124 (by omega) (by omega)).2, fun j _ => ⟨by rw [(h.1 148 (by omega) (by omega)).1], by rw [(h.1 149 (by omega) (by omega)).1], by rw [(h.1 150 (by omega) (by omega)).1]⟩⟩
theorem MM_c (hP : P ≤ 4) (hM : MM cd st hg n P B sd V c0 S I J) (h : RCH I I2 J J2) : MM cd st hg n P B sd V c0 S I2 J2 := by
  obtain ⟨⟨m16, m17, m34, m35, m60, m24, m26, m28, m114, mk, mb, mo⟩, hE, hKo, hp⟩ := hM
  obtain ⟨h1, h2, h3, h4, h5⟩ := h
  have f : ∀ j, fH j → I2 112 j = I 112 j := h3
  refine ⟨⟨by rw [f 16 (by unfold fH; omega)]; exact m16, by rw [f 17 (by unfold fH; omega)]; exact m17, by rw [f 34 (by unfold fH; omega)]; exact m34, by rw [f 35 (by unfold fH; omega)]; exact m35, by rw [f 60 (by unfold fH; omega)]; exact m60, by rw [f 24 (by unfold fH; omega)]; exact m24, by rw [f 26 (by unfold fH; omega)]; exact m26, by rw [f 28 (by unfold fH; omega)]; exact m28, by rw [h2]; exact m114, by rw [h4]; exact mk, by rw [h5]; exact mb, by rw [(h1 117 (by omega) (by omega)).2]; exact mo⟩, MRe_fr hE (h1 151 (by omega) (by omega)).1 (h1 153 (by omega) (by omega)).1 (h1 152 (by omega) (by omega)).2 (fun i _ h => h) (fun i j _ _ _ => Iff.rfl), MRk_fr hKo (h1 154 (by omega) (by omega)).2 (h1 155 (by omega) (by omega)).2 (fun j _ k h => h) (fun j hj => rfl), fun x hx => MRp_fr hP (hp x hx) (SAM_c ⟨h1, h2, h3, h4, h5⟩ (by omega)) (by unfold MRo; rw [(h1 147 (by omega) (by omega)).2]; exact (hp x hx).2.2.2.2) (fun _ _ => rfl) (fun _ _ => rfl) (fun _ _ => rfl) (fun _ _ => rfl)⟩
theorem TAM_c {NT : Nat} {tp ts tk tb : Nat → Nat} (h : TAM I I' J J' P NT tp ts tk tb) (hc : CCH I I2 J J2) (hr : RCH I' I2' J' J2') : TAM I2 I2' J2 J2' P NT tp ts tk tb := TAM_f2 (TAM_fr h (hc.1 103 (by omega) (by omega)).1 (hc.1 104 (by omega) (by omega)).1 (hc.1 105 (by omega) (by omega)).1 (hc.1 106 (by omega) (by omega)).1 (hc.1 107 (by omega) (by omega)).2) (hr.2.2.1 66 (by unfold fH; omega)) (hr.1 156 (by omega) (by omega)).1 (hr.1 157 (by omega) (by omega)).1 (hr.1 158 (by omega) (by omega)).1 (hr.1 159 (by omega) (by omega)).2
theorem RU_c (hP : P ≤ 4) (h : RU cd st hg n P B sd V c0 S X I J I' J') (hc : CCH I I2 J J2) (hr : RCH I' I2' J' J2') (h168 : ∀ w, w < 4 → X.1 w ≠ 168) : RU cd st hg n P B sd V c0 S X I2 J2 I2' J2' := ⟨MC_c hP h.1 hc h168, MM_c hP h.2.1 hr, TAM_c h.2.2.1 hc hr, h.2.2.2⟩
/-- the hall's cells, without the code and whether it runs -/
def CCI (I I2 : MI) (J J2 : MJ) : Prop := (∀ a, 17 ≤ a → a ≤ 102 → I2 a = I a ∧ J2 a = J a) ∧ (∀ j, j ≠ 9 → I2 14 j = I 14 j) ∧ J2 14 = J 14
def RCI (I I2 : MI) (J J2 : MJ) : Prop := (∀ a, 117 ≤ a → a ≤ 126 → I2 a = I a ∧ J2 a = J a) ∧ (∀ j, j = 16 ∨ j = 17 ∨ j = 24 ∨ j = 26 ∨ j = 28 ∨ j = 35 → I2 112 j = I 112 j) ∧ J2 112 18 = J 112 18 ∧ J2 112 21 = J 112 21
theorem HALL_c (h : HALL P B sd V G I I' J J') (hc : CCI I I2 J J2) (hr : RCI I' I2' J' J2') : HALL P B sd V G I2 I2' J2 J2' := by
  obtain ⟨⟨hP, hB, ⟨m6, m8, m10, m7, md0, md1, md2⟩, ⟨n16, n17, n35, n24, n26, n28, nk, nb, no⟩, hsa, hix⟩, hp⟩ := h
  obtain ⟨c1, c2, c3⟩ := hc
  obtain ⟨r1, r2, r3, r4⟩ := hr
  refine ⟨⟨hP, hB, ⟨by rw [c2 6 (by decide)]; exact m6, by rw [c2 8 (by decide)]; exact m8, by rw [c2 10 (by decide)]; exact m10, by rw [c3]; exact m7, by rw [(c1 102 (by omega) (by omega)).1]; exact md0, by rw [(c1 102 (by omega) (by omega)).1]; exact md1, by rw [(c1 102 (by omega) (by omega)).1]; exact md2⟩, ⟨by rw [r2 16 (by omega)]; exact n16, by rw [r2 17 (by omega)]; exact n17, by rw [r2 35 (by omega)]; exact n35, by rw [r2 24 (by omega)]; exact n24, by rw [r2 26 (by omega)]; exact n26, by rw [r2 28 (by omega)]; exact n28, by rw [r3]; exact nk, by rw [r4]; exact nb, by rw [(r1 117 (by omega) (by omega)).2]; exact no⟩, hsa, fun x hx => by rw [(c1 (18 + 21 * x) (by omega) (by omega)).1]; exact hix x hx⟩, fun x hx => ?_⟩
  have q := hp x hx
  have hP4 := hP.2
  unfold HPY at q ⊢
  rw [(c1 (25 + 21 * x) (by omega) (by omega)).1, (c1 (29 + 21 * x) (by omega) (by omega)).1, (c1 (31 + 21 * x) (by omega) (by omega)).1, (c1 (30 + 21 * x) (by omega) (by omega)).2, (r1 124 (by omega) (by omega)).2, (r1 118 (by omega) (by omega)).1, (r1 125 (by omega) (by omega)).1, (r1 126 (by omega) (by omega)).1, (r1 120 (by omega) (by omega)).1, (r1 119 (by omega) (by omega)).1, (r1 121 (by omega) (by omega)).1, (r1 122 (by omega) (by omega)).1, (r1 123 (by omega) (by omega)).1]
  exact q
/-- the stock of a hall that runs -/
def Gof (cd : Nat → Nat) (bs : Int64) (V c0 S : Nat → Nat → Nat) : Nat → Nat → Nat := fun k => match k with
  | 8 => S 8
  | 10 => S 10
  | 11 => S 11
  | 12 => S 12
  | 13 => S 13
  | 14 => S 14
  | 15 => fun x => usv cd (tr cd bs V c0 (S 0 x)) (S 1 x) x
  | 16 => fun x => tr cd bs V c0 (S 0 x) 0 6
  | 20 => S 20
  | _ => fun _ => 0
theorem RU_HALL (hS : ST cd st hg n P B c0) (h : RU cd st hg n P B sd V c0 S X I J I' J') (hix : ∀ x, x < 4 → I (18 + 21 * x) 0 = nI x) : HALL P B sd V (Gof cd (sd + 7000003) V c0 S) I I' J J' := by
  obtain ⟨hM, hMM, hT, hI, hN, hJ⟩ := h
  obtain ⟨⟨m6, m8, m9, m10, m7, mr, md0, md1, md2⟩, hX, hp⟩ := hM
  obtain ⟨⟨m16, m17, m34, m35, m60, m24, m26, m28, m114, mk, mb, mo⟩, hE, hKo, hpm⟩ := hMM
  refine ⟨⟨hS.2.1, hS.2.2.1, ⟨m6, m8, m10, m7, md0, md1, md2⟩, ⟨m16, m17, m35, m24, m26, m28, mk, mb, mo⟩, ⟨hN.2.1, hN.2.2.2.1, hN.2.2.2.2.1, hN.2.2.2.2.2⟩, hix⟩, fun x hx => ?_⟩
  obtain ⟨-, -, ⟨-, k5, k6, -⟩, ⟨t2, t3, t4, t5, u0, u1, u2, ui⟩, -, -⟩ := hp x hx
  obtain ⟨-, -, ⟨r129, r130, r131, r132, r133, r134, r135, r136, r137, r138, r139, r142, r118, r121, r122, r123, r125, r126, r119, r120⟩, ⟨d1, d2, d3, d4, d5⟩, -⟩ := hpm x hx
  obtain ⟨q1, q2, q3, q4, q5, q6, q7, q8⟩ := hN.1 x hx
  exact ⟨k6, t2, t3, t4, t5, u0, u1, u2, fun k hk => ⟨(ui k hk).1, (ui k hk).2, (d2 k hk).2⟩, r118, r125, r126, r120, r119, r121, r122, r123, q3.1, q3.2, q4.1, q4.2, q2.1, q2.2.1, q2.2.2, q7⟩
/-- the hall as it stands: none runs, or one does -/
def HS (X : MX) (I : MI) (J : MJ) (I' : MI) (J' : MJ) : Prop := ∃ P B sd n cd, LDC I I' n cd ∧ ((¬ I' 112 8 = 0 → 1 ≤ n) ∧ (1 ≤ n → ∃ st hg, WFc cd n P st hg)) ∧ ((∃ V G, HALL P B sd V G I I' J J' ∧ I 14 9 = nI 0 ∧ I' 112 34 = nI 0) ∨ (∃ V c0 S st hg, ST cd st hg n P B c0 ∧ RU cd st hg n P B sd V c0 S X I J I' J' ∧ ∀ x, x < 4 → I (18 + 21 * x) 0 = nI x))
theorem LDC_c (h : LDC I I' n cd) (h15 : I2 15 = I 15) (h16 : I2 16 = I 16) (h114 : I2' 114 = I' 114) (h7 : I2' 112 7 = I' 112 7) (h8 : I2' 112 8 = I' 112 8) : LDC I2 I2' n cd := by
  obtain ⟨a, b, c⟩ := h
  refine ⟨rowC_f2 a h15 h16, b, ?_⟩
  rw [h7, h8, h114]
  exact c
theorem CCH.i (h : CCH I I2 J J2) : CCI I I2 J J2 := ⟨fun a a1 a2 => h.1 a (by omega) (by omega), fun j _ => by rw [(h.1 14 (by omega) (by omega)).1], (h.1 14 (by omega) (by omega)).2⟩
theorem RCH.i (h : RCH I I2 J J2) : RCI I I2 J J2 := ⟨fun a a1 a2 => h.1 a (by omega) (by omega), fun j hj => h.2.2.1 j (by unfold fH; omega), h.2.2.2⟩
/-- the same where the cells are the same -/
theorem HS_c (h : HS X I J I' J') (hc : CCH I I2 J J2) (hr : RCH I' I2' J' J2') (h168 : ∀ w, w < 4 → X.1 w ≠ 168) : HS X I2 J2 I2' J2' := by
  obtain ⟨P, B, sd, n, cd, hL, hw, hr'⟩ := h
  refine ⟨P, B, sd, n, cd, LDC_c hL (hc.1 15 (by omega) (by omega)).1 (hc.1 16 (by omega) (by omega)).1 hr.2.1 (hr.2.2.1 7 (by unfold fH; omega)) (hr.2.2.1 8 (by unfold fH; omega)), ⟨by rw [hr.2.2.1 8 (by unfold fH; omega)]; exact hw.1, hw.2⟩, ?_⟩
  rcases hr' with ⟨V, G, a1, a2, a3⟩ | ⟨V, c0, S, st, hg, a1, a2, a3⟩
  · exact Or.inl ⟨V, G, HALL_c a1 hc.i hr.i, by rw [(hc.1 14 (by omega) (by omega)).1]; exact a2, by rw [hr.2.2.1 34 (by unfold fH; omega)]; exact a3⟩
  · exact Or.inr ⟨V, c0, S, st, hg, a1, RU_c a1.2.1.2 a2 hc hr h168, fun x hx => by rw [(hc.1 (18 + 21 * x) (by omega) (by omega)).1]; exact a3 x hx⟩
/-- a hall in any case -/
theorem HS_H (h : HS X I J I' J') : ∃ P B sd n cd V G, LDC I I' n cd ∧ ((¬ I' 112 8 = 0 → 1 ≤ n) ∧ (1 ≤ n → ∃ st hg, WFc cd n P st hg)) ∧ HALL P B sd V G I I' J J' := by
  obtain ⟨P, B, sd, n, cd, hL, hw, hr'⟩ := h
  rcases hr' with ⟨V, G, a1, a2, a3⟩ | ⟨V, c0, S, st, hg, a1, a2, a3⟩
  · exact ⟨P, B, sd, n, cd, V, G, hL, hw, a1⟩
  · exact ⟨P, B, sd, n, cd, V, _, hL, hw, RU_HALL a1 a2 a3⟩
/-- all that class and reference have in common -/
def REL (X : MX) (I : MI) (J : MJ) (I' : MI) (J' : MJ) : Prop := (R_tape I I' ∧ R_put I I' ∧ R_fault I I') ∧ (∃ tot hn, tot ≤ 3000 ∧ I 0 5 = nI tot ∧ I' 112 30 = nI tot ∧ hn ≤ 300 ∧ I 0 4 = nI hn ∧ I' 112 85 = nI hn) ∧ (XI X ∧ 1 ≤ X.2.2.1 ∧ X.2.1 168 = 1 ∧ ∀ w, w < 4 → X.1 w ≠ 168) ∧ HS X I J I' J'
theorem R_tape_c (h : R_tape I I') (e1 : I2 4 1 = I 4 1) (e2 : I2 5 = I 5) (e3 : I2' 112 2 = I' 112 2) (e4 : I2' 113 = I' 113) : R_tape I2 I2' := by
  unfold R_tape at h ⊢
  rw [e1, e2, e3, e4]
  exact h
theorem R_put_c (h : R_put I I') (e1 : I2 1 1 = I 1 1) (e2 : I2 2 = I 2) (e3 : I2' 112 12 = I' 112 12) (e4 : I2' 116 = I' 116) : R_put I2 I2' := by
  unfold R_put at h ⊢
  rw [e1, e2, e3, e4]
  exact h
/-- the class's memory and the reference's, each where it is the same -/
theorem REL_c (h : REL X I J I' J') (hc : ∀ a, a < 112 → I2 a = I a ∧ J2 a = J a) (ho : ∀ a, 168 < a → J2 a = J a) (hr : ∀ a, 112 ≤ a → a < 168 → I2' a = I' a ∧ J2' a = J' a) : REL X I2 J2 I2' J2' := by
  obtain ⟨⟨a1, a2, a3⟩, ⟨tot, hn, b1, b2, b3, b4, b5, b6⟩, ⟨x1, x2, x3, x4⟩, hs⟩ := h
  have e112 := hr 112 (by omega) (by omega)
  have e0 := (hc 0 (by omega)).1
  refine ⟨⟨R_tape_c a1 (by rw [(hc 4 (by omega)).1]) (hc 5 (by omega)).1 (by rw [e112.1]) (hr 113 (by omega) (by omega)).1, R_put_c a2 (by rw [(hc 1 (by omega)).1]) (hc 2 (by omega)).1 (by rw [e112.1]) (hr 116 (by omega) (by omega)).1, by unfold R_fault; rw [e0, e112.1]; exact a3⟩, ⟨tot, hn, b1, by rw [e0]; exact b2, by rw [e112.1]; exact b3, b4, by rw [e0]; exact b5, by rw [e112.1]; exact b6⟩, ⟨x1, x2, x3, x4⟩, HS_c hs ⟨fun a h1 h2 => hc a (by omega), ho⟩ ⟨fun a h1 h2 => hr a (by omega) (by omega), (hr 114 (by omega) (by omega)).1, fun j _ => by rw [e112.1], by rw [e112.2], by rw [e112.2]⟩ x4⟩
end CONG
