/-! compile: the places of calls; the code is well formed -/
section CM
variable {n P m D U k p c q : Nat} {t : Nat → Nat} {I I' : MI} {J J' : MJ} {f8 f9 g2 g3 g4 g5 : Nat → Int32} {cc cm : Nat → Nat}
/-- operations lie apart -/
theorem GH_apart {h : Nat} {st : Nat → Bool} {hg : Nat → Nat} (G : GH P cc m h st hg) {x s : Nat} (hx : st x = true) (hs : st s = true) (hne : x ≠ s) : x + opl (cc x) ≤ s ∨ s + opl (cc s) ≤ x := by
  by_cases q : x < s
  · left
    by_cases w : x + opl (cc x) ≤ s
    · exact w
    · have := (G.2 x hx).2.2.2.2.2.2.2.2.1 s q (by omega)
      rw [hs] at this
      cases this
  · right
    by_cases w : s + opl (cc s) ≤ x
    · exact w
    · have := (G.2 s hs).2.2.2.2.2.2.2.2.1 x (by omega) (by omega)
      rw [hx] at this
      cases this
/-- the code behind all: T -/
def TG (f8 : Nat → Int32) (cc : Nat → Nat) (m : Nat) (st : Nat → Bool) (T : Nat → Nat) : Prop := T m = 0 ∧ (∀ j, j < m → (∀ s, st s = true → cc s = 28 → j ≠ s + 1 ∧ j ≠ s + 2) → T j = cc j) ∧ (∀ s, st s = true → cc s = 28 → cc (s + 2) < 10 ∧ ∃ r, f8 (cc (s + 2)) = nI r ∧ r ≤ m ∧ T (s + 1) = r / 256 ∧ T (s + 2) = r % 256)
theorem TG_st {h : Nat} {st : Nat → Bool} {hg T : Nat → Nat} (G : GH P cc m h st hg) (hT : TG f8 cc m st T) {s : Nat} (hs : st s = true) : T s = cc s := by
  have hsm := CODE_st (P := P) (cc := cc) (hg := hg) G.1.2.2.2.2.1 hs
  refine hT.2.1 s hsm (fun x hx hc => ?_)
  have o28 : opl 28 = 3 := rfl
  by_cases e : x = s
  · omega
  · have := GH_apart G hx hs e
    rw [hc, o28] at this
    have o1 := opl_1 (G.2 s hs).1
    omega
theorem TG_op {h : Nat} {st : Nat → Bool} {hg T : Nat → Nat} (G : GH P cc m h st hg) (hT : TG f8 cc m st T) {s j : Nat} (hs : st s = true) (h28 : cc s ≠ 28) (h1 : s ≤ j) (h2 : j < s + opl (cc s)) : T j = cc j := by
  have hsm := (G.2 s hs).2.2.1
  refine hT.2.1 j (by omega) (fun x hx hc => ?_)
  have o28 : opl 28 = 3 := rfl
  by_cases e : x = s
  · subst e
    exact absurd hc h28
  · have := GH_apart G hx hs e
    rw [hc, o28] at this
    omega
theorem F81 {st : Nat → Bool} {hg T : Nat → Nat} (G : GH P cc m 0 st hg) (hT : TG f8 cc m st T) (hm : m + 1 ≤ 2000) : ∀ (e fu a i : Nat) (I : MI) (cur : Nat → Nat), a + e = m + 1 → e < fu → i ≤ a → (a < m → st a = true) → (∀ j, j < a → cur j = T j) → (∀ j, a ≤ j → j < m → cur j = cc j) → cur m = 0 → CA n t P I q (m + 1) D U 0 p f8 f9 cur → ∃ I1 cur', f_Translator_finish_81 fu (nI a) (nI i) I J = some ((), I1, J) ∧ CA n t P I1 q (m + 1) D U 0 p f8 f9 cur' ∧ ∀ j, j < m + 1 → cur' j = T j := by
  intro e
  induction e using Nat.strongRecOn with
  | ind e ih =>
    intro fu a i I cur h1 h2 h3 h4 h5 h6 h7 hA
    obtain ⟨g, rfl⟩ : ∃ g, fu = g + 1 := ⟨fu - 1, by omega⟩
    have w9 : I 3 9 = nI 0 := hA.2.2.2.2.2.2.1
    have w10 : I 6 1 = nI (m + 1) := hA.2.2.2.2.2.2.2.2.1
    have w8 : I 8 = f8 := hA.2.2.2.2.2.2.2.2.2.1
    have w7 := hA.2.2.2.2.2.2.2.2.2.2.2.1
    by_cases c0 : e = 0
    · refine ⟨I, cur, ?_, hA, fun j hj => h5 j (by omega)⟩
      rw [f_Translator_finish_81, w9, w10]
      by_cases x : 2000 ≤ i
      · rw [if_pos (show 2000 ≤ nI i from nI_le (a := 2000) x (by omega))]
      · rw [if_neg (show ¬ 2000 ≤ nI i from nI_ge (b := 2000) (by omega) (by omega)), if_neg (show ¬ ¬ nI 0 = 0 from fun x => x rfl), if_pos (nI_le (by omega) (by omega))]
    · have hle : a ≤ m := by omega
      have ha : cur a = (if a < m then cc a else 0) := by
        by_cases x : a < m
        · rw [if_pos x]
          exact h6 a (Nat.le_refl _) x
        · rw [if_neg x, show a = m by omega]
          exact h7
      have hop : cur a ≤ 29 := by
        rw [ha]
        by_cases x : a < m
        · rw [if_pos x]
          exact (G.2 a (h4 x)).1
        · rw [if_neg x]
          omega
      have r0 : ∀ {α : Type} {F : Int32 → MI → MJ → Option α}, oc (f_Row_at 6 7 2000 (nI a) I J) F = F (nI (cur a)) I J := fun {α F} => by
        rw [w_at w10 (by omega) (by decide) (by omega), oc_some, if_pos (by omega), w7 a (by omega)]
      have r2 : ∃ v2, ∀ {α : Type} {F : Int32 → MI → MJ → Option α}, oc (f_Row_at 6 7 2000 (nI a + 2) I J) F = F v2 I J := ⟨_, fun {α F} => by
        rw [show nI a + 2 = nI (a + 2) from nI_add a 2, w_at w10 (by omega) (by decide) (by omega), oc_some]⟩
      by_cases c28 : cur a = 28
      · have ham : a < m := by
          by_cases x : a < m
          · exact x
          · rw [ha, if_neg x] at c28
            omega
        have hcc : cc a = 28 := by
          rw [ha, if_pos ham] at c28
          exact c28
        have hsa := h4 ham
        have o28 : opl 28 = 3 := rfl
        have b3 := (G.2 a hsa).2.2.1
        rw [hcc, o28] at b3
        obtain ⟨d1, r, d2, d3, d4, d5⟩ := hT.2.2 a hsa hcc
        have e2 : cur (a + 2) = cc (a + 2) := h6 (a + 2) (by omega) (by omega)
        have r2' : ∀ {α : Type} {F : Int32 → MI → MJ → Option α}, oc (f_Row_at 6 7 2000 (nI a + 2) I J) F = F (nI (cc (a + 2))) I J := fun {α F} => by
          rw [show nI a + 2 = nI (a + 2) from nI_add a 2, w_at w10 (by omega) (by decide) (by omega), oc_some, if_pos (by omega), w7 (a + 2) (by omega), e2]
        obtain ⟨I2, f1, f2⟩ := FLC (J := J) (x := nI a + 1) (y := nI r) (i := a + 1) (r := r) hA (nI_1 a) rfl (by omega) (by omega)
        have k10 : I2 6 1 = nI (m + 1) := f2.2.2.2.2.2.2.2.2.1
        have k7 := f2.2.2.2.2.2.2.2.2.2.2.2.1
        have r0' : ∀ {α : Type} {F : Int32 → MI → MJ → Option α}, oc (f_Row_at 6 7 2000 (nI a) I2 J) F = F (nI 28) I2 J := fun {α F} => by
          rw [w_at k10 (by omega) (by decide) (by omega), oc_some, if_pos (by omega), k7 a (by omega), fil_n _ (by omega) (by omega), c28]
        obtain ⟨I1, cur', s1, s2, s3⟩ := ih (e - 3) (by omega) g (a + 3) (i + 1) I2 (fil cur (a + 1) r) (by omega) (by omega) (by omega) (fun x => by
          have := (G.2 a hsa).2.2.2.2.2.2.2.1
          rw [hcc, o28] at this
          exact this x) (fun j hj => by
          by_cases q1 : j = a + 1
          · rw [q1, fil_0, d4]
          · by_cases q2 : j = a + 1 + 1
            · rw [q2, fil_1, ← d5]
            · rw [fil_n _ q1 q2]
              by_cases q3 : j = a
              · rw [q3, c28, TG_st G hT hsa, hcc]
              · exact h5 j (by omega)) (fun j j1 j2 => by
          rw [fil_n _ (by omega) (by omega)]
          exact h6 j (by omega) j2) (by rw [fil_n _ (by omega) (by omega)]; exact h7) f2
        refine ⟨I1, cur', ?_, s2, s3⟩
        rw [f_Translator_finish_81, w9, w10, if_neg (show ¬ 2000 ≤ nI i from nI_ge (b := 2000) (by omega) (by omega)), if_neg (show ¬ ¬ nI 0 = 0 from fun x => x rfl), if_neg (nI_ge (by omega) (by omega)), r2', r0, c28]
        rw [if_neg (show ¬ ¬ nI 28 = 28 from fun x => x rfl), if_neg (show ¬ nI (cc (a + 2)) < 0 from fun x => nI_in (show cc (a + 2) < 10 by omega) (by decide) (Or.inl x)), if_neg (nI_ge (by omega) (by omega)), if_neg (nI_in (by omega) (by omega)), nI_clamp (by omega), w8, d2, oc_oc, f1, oc_some, r0', q_len 28 (by decide), oc_some, pl_eq, o28, nI_add, nI_1]
        exact s1
      · have hT' : ∀ j, j < a + opl (cur a) → cur j = T j := by
          intro j hj
          by_cases x : j < a
          · exact h5 j x
          · by_cases y : a < m
            · rw [ha, if_pos y] at hj c28
              have b3 := (G.2 a (h4 y)).2.2.1
              rw [TG_op G hT (h4 y) c28 (by omega) hj]
              exact h6 j (by omega) (by omega)
            · rw [ha, if_neg y, show opl 0 = 1 from rfl] at hj
              rw [show j = m by omega, h7, hT.1]
        have hnext : a + opl (cur a) ≤ m + 1 ∧ (a + opl (cur a) < m → st (a + opl (cur a)) = true) := by
          rw [ha]
          by_cases y : a < m
          · rw [if_pos y]
            have b3 := (G.2 a (h4 y)).2.2.1
            exact ⟨by omega, (G.2 a (h4 y)).2.2.2.2.2.2.2.1⟩
          · rw [if_neg y, show opl 0 = 1 from rfl]
            exact ⟨by omega, fun x => by omega⟩
        have o1 := opl_1 hop
        obtain ⟨v2, r2⟩ := r2
        obtain ⟨I1, cur', s1, s2, s3⟩ := ih (e - opl (cur a)) (by omega) g (a + opl (cur a)) (i + 1) I cur (by omega) (by omega) (by omega) hnext.2 hT' (fun j j1 j2 => h6 j (by omega) j2) h7 hA
        refine ⟨I1, cur', ?_, s2, s3⟩
        rw [f_Translator_finish_81, w9, w10, if_neg (show ¬ 2000 ≤ nI i from nI_ge (b := 2000) (by omega) (by omega)), if_neg (show ¬ ¬ nI 0 = 0 from fun x => x rfl), if_neg (nI_ge (by omega) (by omega)), r2, r0, if_pos (show ¬ nI (cur a) = 28 from fun x => c28 ((nI_eq (b := 28) (by omega) (by omega)).mp x)), oc_some, r0, q_len (cur a) (by omega), oc_some, pl_eq, nI_add, nI_1]
        exact s1
theorem TG_WF {st : Nat → Bool} {hg T : Nat → Nat} (G : GH P cc m 0 st hg) (hT : TG f8 cc m st T) (hm : m + 1 ≤ 2000) (hr : ∀ d, d < 10 → f8 d = m1 ∨ ∃ r, f8 d = nI r ∧ r ≤ m ∧ hg r = 0 ∧ (r < m → st r = true)) : WFc T (m + 1) P (fun s => if s = m then true else st s) hg ∧ ∀ j, j < m + 1 → T j < 256 := by
  have hb : ∀ j, j < m + 1 → T j < 256 := by
    intro j hj
    by_cases x : j = m
    · rw [x, hT.1]
      omega
    · by_cases y : ∃ s, st s = true ∧ cc s = 28 ∧ (j = s + 1 ∨ j = s + 2)
      · obtain ⟨s, y1, y2, y3⟩ := y
        obtain ⟨d1, r, d2, d3, d4, d5⟩ := hT.2.2 s y1 y2
        rcases y3 with rfl | rfl
        · rw [d4]
          omega
        · rw [d5]
          omega
      · rw [hT.2.1 j (by omega) (fun s h1 h2 => ⟨fun h => y ⟨s, h1, h2, Or.inl h⟩, fun h => y ⟨s, h1, h2, Or.inr h⟩⟩)]
        exact G.1.2.2.2.2.2 j (by omega)
  refine ⟨⟨by omega, hm, hb, ?_, G.1.1, ?_⟩, hb⟩
  · simp only
    by_cases x : 0 = m
    · rw [if_pos x]
    · rw [if_neg x]
      exact G.1.2.2.2.1 (by omega)
  · intro s hs
    simp only at hs ⊢
    by_cases x : s = m
    · subst x
      rw [hT.1]
      refine ⟨by omega, by omega, by rw [show opl 0 = 1 from rfl]; exact Nat.le_refl _, ?_, Nat.zero_le _, ?_, fun h => absurd rfl h, fun h => ?_, fun _ => G.1.2.1⟩
      · unfold opok opokb
        rw [hT.1]
        rfl
      · rw [G.1.2.1]
        decide
      · exact absurd h (by decide)
    · rw [if_neg x] at hs
      have e := TG_st G hT hs
      obtain ⟨b1, b2, b3, b4, b5, b6, b7, b8, b9, b10, b11⟩ := G.2 s hs
      rw [e]
      have hsm := CODE_st (P := P) (cc := cc) (hg := hg) G.1.2.2.2.2.1 hs
      refine ⟨by omega, b1, by omega, ?_, b5, by rw [← b6]; exact b7, fun _ _ _ => ⟨?_, b6⟩, fun hj => ?_, b10⟩
      · by_cases y : cc s = 28
        · unfold opok opokb
          rw [e, y]
          rfl
        · rw [← opok_ext (P := P) b1 (fun j j1 j2 => (TG_op G hT hs y j1 j2).symm)]
          exact b4
      · by_cases y : s + opl (cc s) = m
        · rw [if_pos y]
        · rw [if_neg y]
          exact b8 (by omega)
      · have done : ∀ r, r ≤ m → hg r = 0 → (r < m → st r = true) → (if r = m then true else st r) = true ∧ hg r = 0 := by
          intro r r1 r2 r3
          refine ⟨?_, r2⟩
          by_cases y : r = m
          · rw [if_pos y]
          · rw [if_neg y]
            exact r3 (by omega)
        by_cases y : cc s = 28
        · obtain ⟨d1, r, d2, d3, d4, d5⟩ := hT.2.2 s hs y
          have ht : tgt T s = r := by
            unfold tgt
            rw [e, y, if_neg (by decide), d4, d5]
            omega
          rw [ht]
          rcases hr (cc (s + 2)) d1 with z | ⟨r', z1, z2, z3, z4⟩
          · rw [d2, m1_en (by omega)] at z
            exact z.elim
          · have : r = r' := (nI_eq (by omega) (by omega)).mp (d2.symm.trans z1)
            subst this
            exact done r z2 z3 z4
        · rw [← tgt_ext hj (fun j j1 j2 => (TG_op G hT hs y j1 j2).symm)]
          obtain ⟨z1, z2, z3⟩ := b11 (by
            rcases hj with h | h | h
            · exact Or.inl h
            · exact Or.inr h
            · exact absurd h y)
          exact done _ z1 z2 z3
end CM
