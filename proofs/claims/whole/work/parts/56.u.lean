/-! compile: starts are what they are; targets that are laid later -/
def GH (P : Nat) (cc : Nat → Nat) (m h : Nat) (st : Nat → Bool) (hg : Nat → Nat) : Prop := (hg 0 = 0 ∧ hg m = h ∧ h ≤ 64 ∧ (0 < m → st 0 = true) ∧ (∀ s, m ≤ s → st s = false) ∧ (∀ j, j < m → cc j < 256)) ∧ (∀ s, st s = true → CO P cc m st hg s)
theorem CODE_gh {P m h c : Nat} {cc cm : Nat → Nat} {f8 g3 g4 : Nat → Int32} (H : CODE P cc cm m h f8 g3 g4 c) : ∃ st hg, GH P cc m h st hg := by
  obtain ⟨st, hg, h1, h2, _⟩ := H
  exact ⟨st, hg, h1, h2⟩
theorem lastst {st : Nat → Bool} : ∀ s, 0 < s → st 0 = true → ∃ p, p < s ∧ st p = true ∧ ∀ i, p < i → i < s → st i = false := by
  intro s
  induction s with
  | zero => intro h; omega
  | succ s ih =>
    intro _ h0
    by_cases q : st s = true
    · exact ⟨s, by omega, q, fun i h1 h2 => by omega⟩
    · by_cases z : s = 0
      · subst z
        exact absurd h0 q
      · obtain ⟨p, p1, p2, p3⟩ := ih (by omega) h0
        refine ⟨p, by omega, p2, fun i h1 h2 => ?_⟩
        by_cases e : i = s
        · subst e
          exact Bool.eq_false_iff.mpr q
        · exact p3 i h1 (by omega)
theorem GH_un {P m h m1 h1 : Nat} {cc cc1 : Nat → Nat} {st st1 : Nat → Bool} {hg hg1 : Nat → Nat} (A : GH P cc m h st hg) (B : GH P cc1 m1 h1 st1 hg1) (hm : m ≤ m1) (hc : ∀ j, j < m → cc1 j = cc j) : ∀ s, (st s = true ∨ s = m) → hg1 s = hg s ∧ (s < m1 → st1 s = true) := by
  obtain ⟨⟨a1, a2, a3, a4, a5, a6⟩, a7⟩ := A
  obtain ⟨⟨b1, b2, b3, b4, b5, b6⟩, b7⟩ := B
  intro s
  induction s using Nat.strongRecOn with
  | ind s ih =>
    intro hs
    have hsm : s ≤ m := by
      rcases hs with hs | hs
      · have := CODE_st (P := P) (cc := cc) (hg := hg) a5 hs
        omega
      · omega
    by_cases z : s = 0
    · subst z
      exact ⟨by rw [a1, b1], fun h => b4 h⟩
    · obtain ⟨p, p1, p2, p3⟩ := lastst (st := st) s (by omega) (a4 (by omega))
      obtain ⟨c1, c2, c3, c4, c5, c6, c7, c8, c9, c10, c11⟩ := a7 p p2
      have hp : p + opl (cc p) = s := by
        by_cases e1 : s < p + opl (cc p)
        · rcases hs with hs | hs
          · rw [c9 s p1 e1] at hs
            cases hs
          · omega
        · by_cases e2 : p + opl (cc p) < s
          · have ol := opl_1 c1
            have := p3 (p + opl (cc p)) (by omega) e2
            rw [c8 (by omega)] at this
            cases this
          · omega
      obtain ⟨i1, i2⟩ := ih p p1 (Or.inl p2)
      obtain ⟨d1, d2, d3, d4, d5, d6, d7, d8, d9, d10, d11⟩ := b7 p (i2 (by omega))
      have hcp := hc p (by omega)
      rw [hcp, hp, i1] at d6
      rw [hcp, hp] at d8
      rw [hp] at c6
      exact ⟨by rw [d6, c6], d8⟩
def fil (f : Nat → Nat) (i r : Nat) : Nat → Nat := apn (apn f i (r / 256)) (i + 1) (r % 256)
theorem fil_0 (f : Nat → Nat) (i r : Nat) : fil f i r i = r / 256 := by
  unfold fil
  rw [apn_n _ _ (by omega), apn_s]
theorem fil_1 (f : Nat → Nat) (i r : Nat) : fil f i r (i + 1) = r % 256 := apn_s _ _ _
theorem fil_n (f : Nat → Nat) {i r j : Nat} (h1 : j ≠ i) (h2 : j ≠ i + 1) : fil f i r j = f j := by
  unfold fil
  rw [apn_n _ _ h2, apn_n _ _ h1]
theorem CODE_fill {P m h c s i r : Nat} {cc cm : Nat → Nat} {f8 g3 g4 : Nat → Int32} (H : CODE P cc cm m h f8 g3 g4 c) (hst : ∀ st hg, GH P cc m h st hg → st s = true) (hr : ∀ st hg, GH P cc m h st hg → r ≤ m ∧ hg r = 0 ∧ (r < m → st r = true)) (hop : (cc s = 17 ∧ i = s + 2) ∨ (cc s = 18 ∧ i = s + 1)) (hr2 : r ≤ 2000) : CODE P (fil cc i r) (fil cm i r) m h f8 g3 g4 c := by
  obtain ⟨st, hg, ⟨a1, a2, a3, a4, a5, a6⟩, b, d, f, g, e⟩ := H
  have G : GH P cc m h st hg := ⟨⟨a1, a2, a3, a4, a5, a6⟩, b⟩
  have hs := hst st hg G
  obtain ⟨r1, r2, r3⟩ := hr st hg G
  obtain ⟨c1, c2, c3, c4, c5, c6, c7, c8, c9, c10, c11⟩ := b s hs
  have hop2 : s < i ∧ i + 1 < s + opl (cc s) := by
    rcases hop with ⟨h1, h2⟩ | ⟨h1, h2⟩
    · rw [h1, show opl 17 = 4 from rfl]
      omega
    · rw [h1, show opl 18 = 3 from rfl]
      omega
  -- other operations lie elsewhere
  have oth : ∀ x, st x = true → x ≠ s → x + opl (cc x) ≤ s ∨ s + opl (cc s) ≤ x := by
    intro x hx hne
    by_cases q : x < s
    · left
      by_cases w : x + opl (cc x) ≤ s
      · exact w
      · have := (b x hx).2.2.2.2.2.2.2.2.1 s q (by omega)
        rw [hs] at this
        cases this
    · right
      by_cases w : s + opl (cc s) ≤ x
      · exact w
      · have := c9 x (by omega) (by omega)
        rw [hx] at this
        cases this
  have same : ∀ x, st x = true → fil cc i r x = cc x := by
    intro x hx
    refine fil_n _ ?_ ?_
    · intro q
      have := c9 i hop2.1 (by omega)
      rw [← q, hx] at this
      cases this
    · intro q
      have := c9 (i + 1) (by omega) hop2.2
      rw [← q, hx] at this
      cases this
  have rng : ∀ x, st x = true → x ≠ s → ∀ j, x ≤ j → j < x + opl (cc x) → cc j = fil cc i r j := by
    intro x hx hne j j1 j2
    refine (fil_n _ ?_ ?_).symm
    · have := oth x hx hne
      omega
    · have := oth x hx hne
      omega
  refine ⟨st, hg, ⟨a1, a2, a3, a4, a5, ?_⟩, ?_, ?_, ?_, ?_, e⟩
  · intro j hj
    by_cases q : j = i
    · rw [q, fil_0]
      omega
    · by_cases q2 : j = i + 1
      · rw [q2, fil_1]
        omega
      · rw [fil_n _ q q2]
        exact a6 j hj
  · intro x hx
    have ex := same x hx
    by_cases q : x = s
    · subst q
      refine ⟨by rw [ex]; exact c1, by rw [ex]; exact c2, by rw [ex]; exact c3, ?_, by rw [ex]; exact c5, by rw [ex]; exact c6, by rw [ex]; exact c7, by rw [ex]; exact c8, by rw [ex]; exact c9, by rw [ex]; exact c10, ?_⟩
      · rcases hop with ⟨h1, h2⟩ | ⟨h1, h2⟩
        · unfold opok opokb at c4 ⊢
          rw [ex, h1]
          rw [h1] at c4
          rw [fil_n cc (show x + 1 ≠ i by omega) (show x + 1 ≠ i + 1 by omega)]
          simp (disch := omega) only [a11, a01, ↓li_m, ↓oc_some, ↓oc_ite, ↓oc_oc, ↓oc_pl, ↓oc_none, ↓oc_oe, ↓pl_eq, ↓oe_i, ↓oe_j, va_up_self, va_up_ne, va_up_up, upd_s, upd_n, updL_s, updL_n, nI_add, nI_1, nI_ltI, nI_leI, nI_eq, nI_clamp, li_n, m1_lt, m1_le, m1_gt, m1_ge, m1_ne, m1_en, m1_ad, nle_F, nle_T, nlt_F, nlt_T, neq_F, neq_T, or_self, or_false, false_or, true_or, or_true, and_self, and_false, false_and, true_and, and_true, not_true_eq_false, not_false_eq_true, ↓reduceIte, if_true, if_false, Nat.reduceAdd, ite_self, Bool.false_eq_true] at c4 ⊢
          exact c4
        · unfold opok opokb
          rw [ex, h1]
          simp (disch := omega) only [a11, a01, ↓li_m, ↓oc_some, ↓oc_ite, ↓oc_oc, ↓oc_pl, ↓oc_none, ↓oc_oe, ↓pl_eq, ↓oe_i, ↓oe_j, va_up_self, va_up_ne, va_up_up, upd_s, upd_n, updL_s, updL_n, nI_add, nI_1, nI_ltI, nI_leI, nI_eq, nI_clamp, li_n, m1_lt, m1_le, m1_gt, m1_ge, m1_ne, m1_en, m1_ad, nle_F, nle_T, nlt_F, nlt_T, neq_F, neq_T, or_self, or_false, false_or, true_or, or_true, and_self, and_false, false_and, true_and, and_true, not_true_eq_false, not_false_eq_true, ↓reduceIte, if_true, if_false, Nat.reduceAdd, ite_self, Bool.false_eq_true]
      · intro _
        have ht : tgt (fil cc i r) x = r := by
          unfold tgt
          rw [ex]
          rcases hop with ⟨h1, h2⟩ | ⟨h1, h2⟩
          · rw [h1, if_pos rfl, ← h2, fil_0, show x + 3 = i + 1 by omega, fil_1]
            omega
          · rw [h1, if_neg (by decide), ← h2, fil_0, show x + 2 = i + 1 by omega, fil_1]
            omega
        rw [ht]
        exact ⟨r1, r2, r3⟩
    · obtain ⟨x1, x2, x3, x4, x5, x6, x7, x8, x9, x10, x11⟩ := b x hx
      refine ⟨by rw [ex]; exact x1, by rw [ex]; exact x2, by rw [ex]; exact x3, ?_, by rw [ex]; exact x5, by rw [ex]; exact x6, by rw [ex]; exact x7, by rw [ex]; exact x8, by rw [ex]; exact x9, by rw [ex]; exact x10, ?_⟩
      · rw [← opok_ext (P := P) x1 (rng x hx q)]
        exact x4
      · rw [ex]
        intro hc
        rw [← tgt_ext (by rcases hc with hc | hc; exact Or.inl hc; exact Or.inr (Or.inl hc)) (rng x hx q)]
        exact x11 hc
  · intro j hj hno
    by_cases q : j = i
    · rw [q, fil_0, fil_0]
    · by_cases q2 : j = i + 1
      · rw [q2, fil_1, fil_1]
      · rw [fil_n _ q q2, fil_n _ q q2]
        refine d j hj (fun x hx hc => hno x hx ?_)
        rw [same x hx]
        exact hc
  · intro x hx hc
    rw [same x hx] at hc
    have hne : x ≠ s := by
      intro q
      subst q
      rcases hop with ⟨h1, _⟩ | ⟨h1, _⟩ <;> omega
    have := oth x hx hne
    rw [hc, show opl 28 = 3 from rfl] at this
    rw [fil_n _ (by omega) (by omega), fil_n _ (by omega) (by omega), fil_n _ (by omega) (by omega)]
    exact f x hx hc
  · intro y hy
    obtain ⟨x, x1, x2, x3, x4⟩ := g y hy
    have hne : x ≠ s := by
      intro q
      subst q
      rcases hop with ⟨h1, _⟩ | ⟨h1, _⟩ <;> omega
    have := oth x x1 hne
    rw [x2, show opl 28 = 3 from rfl] at this
    refine ⟨x, x1, ?_, x3, ?_⟩
    · rw [same x x1]
      exact x2
    · rw [fil_n _ (by omega) (by omega)]
      exact x4
