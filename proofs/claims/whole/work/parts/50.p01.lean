/-! the digest: what it makes of two longs -/
theorem oc_some {α β : Type} {v : α} {I : MI} {J : MJ} {f : α → MI → MJ → Option β} : oc (some (v, I, J)) f = f v I J := rfl
theorem nI_sb {a b : Nat} (h : b ≤ a) : nI a - nI b = nI (a - b) := by
  have : nI a = nI (a - b) + nI b := by rw [nI_add, Nat.sub_add_cancel h]
  rw [this, Int32.add_sub_cancel]
theorem va_up_id {α : Type} (f : Nat → α) (a : Nat) : va_up f a (f a) = f := by
  funext k
  by_cases e : k = a
  · subst e; rw [va_up_self]
  · rw [va_up_ne _ _ e]
theorem va_up_up {α : Type} (f : Nat → α) (a : Nat) (x y : α) : va_up (va_up f a x) a y = va_up f a y := by
  funext k
  by_cases e : k = a
  · subst e; rw [va_up_self, va_up_self]
  · rw [va_up_ne _ _ e, va_up_ne _ _ e, va_up_ne _ _ e]
/-- n places from k on, each made of what stands there -/
def itn (g : (Nat → Int32) → Nat → Int32) : Nat → Nat → (Nat → Int32) → (Nat → Int32)
  | 0, _, w => w
  | n + 1, k, w => itn g n (k + 1) (upd w k (g w k))
def dg_r (x a b : Int32) : Int32 := ((Int32.toUInt32 x >>> (Int32.toUInt32 a &&& Int32.toUInt32 31)).toInt32) ||| (x <<< (b &&& 31))
def dg_u (x a : Int32) : Int32 := (Int32.toUInt32 x >>> (Int32.toUInt32 a &&& Int32.toUInt32 31)).toInt32
def dg_l (x : Int32) : Int32 := (dg_r x 17 15 ^^^ dg_r x 19 13) ^^^ dg_u x 10
def dg_e (x : Int32) : Int32 := (dg_r x 7 25 ^^^ dg_r x 18 14) ^^^ dg_u x 3
def dg_s (w : Nat → Int32) (t : Nat) : Int32 := ((dg_l (w (t - 2)) + w (t - 7)) + dg_e (w (t - 15))) + w (t - 16)
theorem dg_t (x n : Int32) {b : Int32} (hb : 32 - n = b) (I : MI) (J : MJ) : f_Model_turned x n I J = some (dg_r x n b, I, J) := by
  unfold f_Model_turned dg_r
  rw [hb]
theorem dg_0 {x y : Int64} : ∀ (n fu k : Nat) (l1 l3 : Int64) (I : MI) (J : MJ), k + n = 15 → n < fu → f_Digest_spread_3 x y fu l1 l3 (nI k) I J = some ((), va_up I 109 (itn (fun _ _ => 0) n k (I 109)), J) := by
  intro n
  induction n with
  | zero =>
    intro fu k l1 l3 I J h1 h2
    obtain ⟨f, rfl⟩ : ∃ f, fu = f + 1 := ⟨fu - 1, by omega⟩
    have hk : k = 15 := by omega
    subst hk
    rw [f_Digest_spread_3, if_pos (show (15 : Int32) ≤ nI 15 by decide)]
    rw [itn, va_up_id]
  | succ n ih =>
    intro fu k l1 l3 I J h1 h2
    obtain ⟨f, rfl⟩ : ∃ f, fu = f + 1 := ⟨fu - 1, by omega⟩
    rw [f_Digest_spread_3, if_neg (show ¬ (15 : Int32) ≤ nI k from nI_ge (a := k) (b := 15) (by omega) (by decide)), if_neg (nI_in (show k < 64 by omega) (by decide)), pl_eq, nI_1, ih f (k + 1) _ _ _ _ (by omega) (by omega), nI_clamp (by omega), va_up_self, va_up_up]
    rfl
theorem dm_0 {x y : Int64} : ∀ (n fu k : Nat) (I : MI) (J : MJ), k + n = 15 → n < fu → f_Model_digestOf_45 x y fu (nI k) I J = some ((), va_up I 160 (itn (fun _ _ => 0) n k (I 160)), J) := by
  intro n
  induction n with
  | zero =>
    intro fu k I J h1 h2
    obtain ⟨f, rfl⟩ : ∃ f, fu = f + 1 := ⟨fu - 1, by omega⟩
    have hk : k = 15 := by omega
    subst hk
    rw [f_Model_digestOf_45, if_pos (show (15 : Int32) ≤ nI 15 by decide)]
    rw [itn, va_up_id]
  | succ n ih =>
    intro fu k I J h1 h2
    obtain ⟨f, rfl⟩ : ∃ f, fu = f + 1 := ⟨fu - 1, by omega⟩
    rw [f_Model_digestOf_45, if_neg (show ¬ (15 : Int32) ≤ nI k from nI_ge (a := k) (b := 15) (by omega) (by decide)), if_neg (nI_in (show k < 64 by omega) (by decide)), pl_eq, nI_1, ih f (k + 1) _ _ (by omega) (by omega), nI_clamp (by omega), va_up_self, va_up_up]
    rfl
theorem dg_1 {x y : Int64} : ∀ (n fu k : Nat) (I : MI) (J : MJ), k + n = 64 → 16 ≤ k → n < fu → f_Digest_spread_84 x y fu (nI k) I J = some ((), va_up I 109 (itn dg_s n k (I 109)), J) := by
  intro n
  induction n with
  | zero =>
    intro fu k I J h1 h3 h2
    obtain ⟨f, rfl⟩ : ∃ f, fu = f + 1 := ⟨fu - 1, by omega⟩
    have hk : k = 64 := by omega
    subst hk
    rw [f_Digest_spread_84, if_pos (show (64 : Int32) ≤ nI 64 by decide)]
    rw [itn, va_up_id]
  | succ n ih =>
    intro fu k I J h1 h3 h2
    obtain ⟨f, rfl⟩ : ∃ f, fu = f + 1 := ⟨fu - 1, by omega⟩
    have e2 : nI k - 2 = nI (k - 2) := nI_sb (b := 2) (by omega)
    have e15 : nI k - 15 = nI (k - 15) := nI_sb (b := 15) (by omega)
    have e7 : nI k - 7 = nI (k - 7) := nI_sb (b := 7) (by omega)
    have e16 : nI k - 16 = nI (k - 16) := nI_sb (b := 16) (by omega)
    rw [f_Digest_spread_84, if_neg (show ¬ (64 : Int32) ≤ nI k from nI_ge (a := k) (b := 64) (by omega) (by decide))]
    simp only [e2, e15, e7, e16, pl_eq]
    rw [if_neg (nI_in (show k - 2 < 64 by omega) (by decide)), if_neg (nI_in (show k - 15 < 64 by omega) (by decide)), if_neg (nI_in (show k - 7 < 64 by omega) (by decide)), if_neg (nI_in (show k - 16 < 64 by omega) (by decide)), if_neg (nI_in (show k < 64 by omega) (by decide)), nI_1, ih f (k + 1) _ _ (by omega) (by omega) (by omega)]
    rw [nI_clamp (show k - 2 < 2 ^ 31 by omega), nI_clamp (show k - 15 < 2 ^ 31 by omega), nI_clamp (show k - 7 < 2 ^ 31 by omega), nI_clamp (show k - 16 < 2 ^ 31 by omega), nI_clamp (show k < 2 ^ 31 by omega), va_up_self, va_up_up]
    rfl
theorem dm_1 {x y : Int64} : ∀ (n fu k : Nat) (I : MI) (J : MJ), k + n = 64 → 16 ≤ k → n < fu → f_Model_digestOf_76 x y fu (nI k) I J = some ((), va_up I 160 (itn dg_s n k (I 160)), J) := by
  intro n
  induction n with
  | zero =>
    intro fu k I J h1 h3 h2
    obtain ⟨f, rfl⟩ : ∃ f, fu = f + 1 := ⟨fu - 1, by omega⟩
    have hk : k = 64 := by omega
    subst hk
    rw [f_Model_digestOf_76, if_pos (show (64 : Int32) ≤ nI 64 by decide)]
    rw [itn, va_up_id]
  | succ n ih =>
    intro fu k I J h1 h3 h2
    obtain ⟨f, rfl⟩ : ∃ f, fu = f + 1 := ⟨fu - 1, by omega⟩
    have e2 : nI k - 2 = nI (k - 2) := nI_sb (b := 2) (by omega)
    have e15 : nI k - 15 = nI (k - 15) := nI_sb (b := 15) (by omega)
    have e7 : nI k - 7 = nI (k - 7) := nI_sb (b := 7) (by omega)
    have e16 : nI k - 16 = nI (k - 16) := nI_sb (b := 16) (by omega)
    rw [f_Model_digestOf_76, if_neg (show ¬ (64 : Int32) ≤ nI k from nI_ge (a := k) (b := 64) (by omega) (by decide))]
    simp only [e2, e15, e7, e16, pl_eq]
    rw [if_neg (nI_in (show k - 2 < 64 by omega) (by decide)), if_neg (nI_in (show k - 15 < 64 by omega) (by decide))]
    rw [dg_t _ 17 (b := 15) (by decide)]
    simp only [oc_some]
    rw [dg_t _ 19 (b := 13) (by decide)]
    simp only [oc_some]
    rw [if_neg (nI_in (show k - 7 < 64 by omega) (by decide)), dg_t _ 7 (b := 25) (by decide)]
    simp only [oc_some]
    rw [dg_t _ 18 (b := 14) (by decide)]
    simp only [oc_some]
    rw [if_neg (nI_in (show k - 16 < 64 by omega) (by decide)), if_neg (nI_in (show k < 64 by omega) (by decide)), nI_1, ih f (k + 1) _ _ (by omega) (by omega) (by omega)]
    rw [nI_clamp (show k - 2 < 2 ^ 31 by omega), nI_clamp (show k - 15 < 2 ^ 31 by omega), nI_clamp (show k - 7 < 2 ^ 31 by omega), nI_clamp (show k - 16 < 2 ^ 31 by omega), nI_clamp (show k < 2 ^ 31 by omega), va_up_self, va_up_up]
    rfl
def dg_A (x : Int32) : Int32 := (dg_r x 2 30 ^^^ dg_r x 13 19) ^^^ dg_r x 22 10
def dg_E (x : Int32) : Int32 := (dg_r x 6 26 ^^^ dg_r x 11 21) ^^^ dg_r x 25 7
def dg_f (w d : Nat → Int32) (t : Nat) : Int32 := (((d 7 + dg_E (d 4)) + ((d 4 &&& d 5) ^^^ ((d 4 ^^^ (-1)) &&& d 6))) + g_get 0 t_rounds t) + w t
def dg_m (d : Nat → Int32) : Int32 := ((d 0 &&& d 1) ^^^ (d 0 &&& d 2)) ^^^ (d 1 &&& d 2)
def dg_sh (j : Nat) (d : Nat → Int32) : Nat → Int32 := fun k => if 1 ≤ k ∧ k ≤ j then d (k - 1) else d k
def dg_rd (w d : Nat → Int32) (t : Nat) : Nat → Int32 := upd (upd (dg_sh 7 d) 4 (dg_sh 7 d 4 + dg_f w d t)) 0 ((dg_f w d t + dg_A (d 0)) + dg_m d)
def dg_rs (w : Nat → Int32) : Nat → Nat → (Nat → Int32) → (Nat → Int32)
  | 0, _, d => d
  | n + 1, t, d => dg_rs w n (t + 1) (dg_rd w d t)
theorem dg_rd_m (w d : Nat → Int32) (t : Nat) : upd (upd (dg_sh 7 d) 4 (dg_sh 7 d 4 + dg_f w d t)) 0 (dg_f w d t + (dg_A (d 0) + dg_m d)) = dg_rd w d t := by
  unfold dg_rd
  generalize dg_f w d t = x
  generalize dg_A (d 0) = y
  generalize dg_m d = z
  rw [Int32.add_assoc]
theorem nI_pd (n : Nat) : nI (n + 1) + (-1) = nI n := by rw [← Int32.sub_eq_add_neg, nI_pred]
theorem dg_sh0 (d : Nat → Int32) : dg_sh 0 d = d := by
  funext k
  unfold dg_sh
  rw [if_neg (by omega)]
theorem dg_shs (j : Nat) (d : Nat → Int32) : dg_sh j (upd d (j + 1) (d j)) = dg_sh (j + 1) d := by
  funext k
  unfold dg_sh upd
  by_cases h1 : k = j + 1
  · subst h1
    rw [if_neg (by omega), if_pos rfl, if_pos (by omega)]
    rfl
  · by_cases h2 : 1 ≤ k ∧ k ≤ j
    · rw [if_pos h2, if_neg (by omega), if_pos (by omega)]
    · rw [if_neg h2, if_neg h1, if_neg (by omega)]
theorem dg_sh_l : ∀ (j fu : Nat) (l1 l6 l7 l8 : Int32) (I : MI) (J : MJ), j ≤ 7 → j < fu → f_Digest_stir_195  fu l1 l6 l7 l8 (nI j) I J = some ((), va_up I 110 (dg_sh j (I 110)), J) := by
  intro j
  induction j with
  | zero =>
    intro fu l1 l6 l7 l8 I J h1 h2
    obtain ⟨f, rfl⟩ : ∃ f, fu = f + 1 := ⟨fu - 1, by omega⟩
    rw [f_Digest_stir_195, if_pos (show nI 0 ≤ (0 : Int32) by decide), dg_sh0, va_up_id]
  | succ j ih =>
    intro fu l1 l6 l7 l8 I J h1 h2
    obtain ⟨f, rfl⟩ : ∃ f, fu = f + 1 := ⟨fu - 1, by omega⟩
    rw [f_Digest_stir_195, if_neg (show ¬ nI (j + 1) ≤ (0 : Int32) from nI_nle (by omega) (by omega)), nI_pred, if_neg (nI_in (show j < 8 by omega) (by decide)), if_neg (nI_in (show j + 1 < 8 by omega) (by decide)), pl_eq, nI_pd, ih f _ _ _ _ _ _ (by omega) (by omega), nI_clamp (show j < 2 ^ 31 by omega), nI_clamp (show j + 1 < 2 ^ 31 by omega), va_up_self, va_up_up, dg_shs]
theorem dm_sh_l {x y : Int64} : ∀ (j fu : Nat) (l7 l10 l11 : Int32) (I : MI) (J : MJ), j ≤ 7 → j < fu → f_Model_digestOf_345 x y fu l7 l10 l11 (nI j) I J = some ((), va_up I 161 (dg_sh j (I 161)), J) := by
  intro j
  induction j with
  | zero =>
    intro fu l7 l10 l11 I J h1 h2
    obtain ⟨f, rfl⟩ : ∃ f, fu = f + 1 := ⟨fu - 1, by omega⟩
    rw [f_Model_digestOf_345, if_pos (show nI 0 ≤ (0 : Int32) by decide), dg_sh0, va_up_id]
  | succ j ih =>
    intro fu l7 l10 l11 I J h1 h2
    obtain ⟨f, rfl⟩ : ∃ f, fu = f + 1 := ⟨fu - 1, by omega⟩
    rw [f_Model_digestOf_345, if_neg (show ¬ nI (j + 1) ≤ (0 : Int32) from nI_nle (by omega) (by omega)), nI_pred, if_neg (nI_in (show j < 8 by omega) (by decide)), if_neg (nI_in (show j + 1 < 8 by omega) (by decide)), pl_eq, nI_pd, ih f _ _ _ _ _ (by omega) (by omega), nI_clamp (show j < 2 ^ 31 by omega), nI_clamp (show j + 1 < 2 ^ 31 by omega), va_up_self, va_up_up, dg_shs]
theorem dg_2 : ∀ (n fu t : Nat) (I : MI) (J : MJ), t + n = 64 → n < fu → f_Digest_stir_27 fu (nI t) I J = some ((), va_up I 110 (dg_rs (I 109) n t (I 110)), J) := by
  intro n
  induction n with
  | zero =>
    intro fu t I J h1 h2
    obtain ⟨f, rfl⟩ : ∃ f, fu = f + 1 := ⟨fu - 1, by omega⟩
    have hk : t = 64 := by omega
    subst hk
    rw [f_Digest_stir_27, if_pos (show (64 : Int32) ≤ nI 64 by decide), dg_rs, va_up_id]
  | succ n ih =>
    intro fu t I J h1 h2
    obtain ⟨f, rfl⟩ : ∃ f, fu = f + 1 := ⟨fu - 1, by omega⟩
    have g0 : ¬ ((0 : Int32) < 0 ∨ 8 ≤ 0) := by decide
    have c0 : Int32.toNatClampNeg 0 = 0 := by decide
    have g1 : ¬ ((1 : Int32) < 0 ∨ 8 ≤ 1) := by decide
    have c1 : Int32.toNatClampNeg 1 = 1 := by decide
    have g2 : ¬ ((2 : Int32) < 0 ∨ 8 ≤ 2) := by decide
    have c2 : Int32.toNatClampNeg 2 = 2 := by decide
    have g4 : ¬ ((4 : Int32) < 0 ∨ 8 ≤ 4) := by decide
    have c4 : Int32.toNatClampNeg 4 = 4 := by decide
    have g5 : ¬ ((5 : Int32) < 0 ∨ 8 ≤ 5) := by decide
    have c5 : Int32.toNatClampNeg 5 = 5 := by decide
    have g6 : ¬ ((6 : Int32) < 0 ∨ 8 ≤ 6) := by decide
    have c6 : Int32.toNatClampNeg 6 = 6 := by decide
    have g7 : ¬ ((7 : Int32) < 0 ∨ 8 ≤ 7) := by decide
    have c7 : Int32.toNatClampNeg 7 = 7 := by decide
    have gt : ¬ (nI t < 0 ∨ 64 ≤ t) := fun h => h.elim (nI_pos (by omega)) (by omega)
    have ct := nI_clamp (show t < 2 ^ 31 by omega)
    have sh : ∀ (l1 l6 l7 l8 : Int32) (I : MI) (J : MJ), f_Digest_stir_195 gF l1 l6 l7 l8 7 I J = some ((), va_up I 110 (dg_sh 7 (I 110)), J) := fun l1 l6 l7 l8 I J => dg_sh_l 7 gF l1 l6 l7 l8 I J (by decide) (by decide)
    rw [f_Digest_stir_27, if_neg (show ¬ (64 : Int32) ≤ nI t from nI_ge (a := t) (b := 64) (by omega) (by decide))]
    simp only [pl_eq, if_neg g0, if_neg g1, if_neg g2, if_neg g4, if_neg g5, if_neg g6, if_neg g7, if_neg gt, c0, c1, c2, c4, c5, c6, c7, ct, sh, oc_some]
    rw [nI_1, ih f (t + 1) _ _ (by omega) (by omega)]
    simp only [va_up_self, va_up_up, va_up_ne _ _ (show 109 ≠ 110 by decide)]
    rfl
theorem dm_2 {x y : Int64} : ∀ (n fu t : Nat) (I : MI) (J : MJ), t + n = 64 → n < fu → f_Model_digestOf_209 x y fu (nI t) I J = some ((), va_up I 161 (dg_rs (I 160) n t (I 161)), J) := by
  intro n
  induction n with
  | zero =>
    intro fu t I J h1 h2
    obtain ⟨f, rfl⟩ : ∃ f, fu = f + 1 := ⟨fu - 1, by omega⟩
    have hk : t = 64 := by omega
    subst hk
    rw [f_Model_digestOf_209, if_pos (show (64 : Int32) ≤ nI 64 by decide), dg_rs, va_up_id]
  | succ n ih =>
    intro fu t I J h1 h2
    obtain ⟨f, rfl⟩ : ∃ f, fu = f + 1 := ⟨fu - 1, by omega⟩
    have g0 : ¬ ((0 : Int32) < 0 ∨ 8 ≤ 0) := by decide
    have c0 : Int32.toNatClampNeg 0 = 0 := by decide
    have g1 : ¬ ((1 : Int32) < 0 ∨ 8 ≤ 1) := by decide
    have c1 : Int32.toNatClampNeg 1 = 1 := by decide
    have g2 : ¬ ((2 : Int32) < 0 ∨ 8 ≤ 2) := by decide
    have c2 : Int32.toNatClampNeg 2 = 2 := by decide
    have g4 : ¬ ((4 : Int32) < 0 ∨ 8 ≤ 4) := by decide
    have c4 : Int32.toNatClampNeg 4 = 4 := by decide
    have g5 : ¬ ((5 : Int32) < 0 ∨ 8 ≤ 5) := by decide
    have c5 : Int32.toNatClampNeg 5 = 5 := by decide
    have g6 : ¬ ((6 : Int32) < 0 ∨ 8 ≤ 6) := by decide
    have c6 : Int32.toNatClampNeg 6 = 6 := by decide
    have g7 : ¬ ((7 : Int32) < 0 ∨ 8 ≤ 7) := by decide
    have c7 : Int32.toNatClampNeg 7 = 7 := by decide
    have gt : ¬ (nI t < 0 ∨ 64 ≤ t) := fun h => h.elim (nI_pos (by omega)) (by omega)
    have ct := nI_clamp (show t < 2 ^ 31 by omega)
    have sh : ∀ (l7 l10 l11 : Int32) (I : MI) (J : MJ), f_Model_digestOf_345 x y gF l7 l10 l11 7 I J = some ((), va_up I 161 (dg_sh 7 (I 161)), J) := fun l7 l10 l11 I J => dm_sh_l 7 gF l7 l10 l11 I J (by decide) (by decide)
    have t6 : ∀ (z : Int32) (I : MI) (J : MJ), f_Model_turned z 6 I J = some (dg_r z 6 26, I, J) := fun z I J => dg_t z 6 (by decide) I J
    have t11 : ∀ (z : Int32) (I : MI) (J : MJ), f_Model_turned z 11 I J = some (dg_r z 11 21, I, J) := fun z I J => dg_t z 11 (by decide) I J
    have t25 : ∀ (z : Int32) (I : MI) (J : MJ), f_Model_turned z 25 I J = some (dg_r z 25 7, I, J) := fun z I J => dg_t z 25 (by decide) I J
    have t2 : ∀ (z : Int32) (I : MI) (J : MJ), f_Model_turned z 2 I J = some (dg_r z 2 30, I, J) := fun z I J => dg_t z 2 (by decide) I J
    have t13 : ∀ (z : Int32) (I : MI) (J : MJ), f_Model_turned z 13 I J = some (dg_r z 13 19, I, J) := fun z I J => dg_t z 13 (by decide) I J
    have t22 : ∀ (z : Int32) (I : MI) (J : MJ), f_Model_turned z 22 I J = some (dg_r z 22 10, I, J) := fun z I J => dg_t z 22 (by decide) I J
    rw [f_Model_digestOf_209, if_neg (show ¬ (64 : Int32) ≤ nI t from nI_ge (a := t) (b := 64) (by omega) (by decide))]
    simp only [pl_eq, if_neg g0, if_neg g1, if_neg g2, if_neg g4, if_neg g5, if_neg g6, if_neg g7, if_neg gt, c0, c1, c2, c4, c5, c6, c7, ct, sh, oc_some, t6, t11, t25, t2, t13, t22]
    rw [nI_1, ih f (t + 1) _ _ (by omega) (by omega)]
    simp only [va_up_self, va_up_up, va_up_ne _ _ (show 160 ≠ 161 by decide)]
    show some ((), va_up I 161 (dg_rs (I 160) n (t + 1) (upd (upd (dg_sh 7 (I 161)) 4 (dg_sh 7 (I 161) 4 + dg_f (I 160) (I 161) t)) 0 (dg_f (I 160) (I 161) t + (dg_A (I 161 0) + dg_m (I 161))))), J) = _
    rw [dg_rd_m, dg_rs]
