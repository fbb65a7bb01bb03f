/-! the digest of class and reference is one -/
def eqn (N : Nat) (f g : Nat → Int32) : Prop := ∀ k, k < N → f k = g k
theorem eqn_ext {N : Nat} {f g : Nat → Int32} (h : eqn N f g) {x y : Int32} (hx : x = y) : eqn (N + 1) (upd f N x) (upd g N y) := by
  subst hx
  intro k hk
  unfold upd
  by_cases e : k = N
  · rw [if_pos e, if_pos e]
  · rw [if_neg e, if_neg e]; exact h k (by omega)
theorem itn_ext {g : (Nat → Int32) → Nat → Int32} {m : Nat} (hg : ∀ (w w' : Nat → Int32) (k : Nat), m ≤ k → eqn k w w' → g w k = g w' k) : ∀ (n k : Nat) (w w' : Nat → Int32), m ≤ k → eqn k w w' → eqn (k + n) (itn g n k w) (itn g n k w') := by
  intro n
  induction n with
  | zero => intro k w w' _ h; exact h
  | succ n ih =>
    intro k w w' hm h
    have := ih (k + 1) (upd w k (g w k)) (upd w' k (g w' k)) (by omega) (eqn_ext h (hg w w' k hm h))
    rw [show k + (n + 1) = k + 1 + n by omega]
    exact this
theorem itn_c (c : Nat → Int32) : ∀ (n k : Nat) (w : Nat → Int32), itn (fun _ j => c j) n k w = fun i => if k ≤ i ∧ i < k + n then c i else w i := by
  intro n
  induction n with
  | zero =>
    intro k w
    funext i
    rw [itn, if_neg (by omega)]
  | succ n ih =>
    intro k w
    rw [itn, ih]
    funext i
    unfold upd
    by_cases h1 : i = k
    · subst h1
      rw [if_neg (by omega), if_pos rfl, if_pos (by omega)]
    · by_cases h2 : k + 1 ≤ i ∧ i < k + 1 + n
      · rw [if_pos h2, if_pos (by omega)]
      · rw [if_neg h2, if_neg h1, if_neg (by omega)]
theorem itn_a (c : Nat → Int32) : ∀ (n k : Nat) (w : Nat → Int32), itn (fun d j => d j + c j) n k w = fun i => if k ≤ i ∧ i < k + n then w i + c i else w i := by
  intro n
  induction n with
  | zero =>
    intro k w
    funext i
    rw [itn, if_neg (by omega)]
  | succ n ih =>
    intro k w
    rw [itn, ih]
    funext i
    unfold upd
    by_cases h1 : i = k
    · subst h1
      rw [if_neg (by omega), if_pos rfl, if_pos (by omega)]
    · by_cases h2 : k + 1 ≤ i ∧ i < k + 1 + n
      · rw [if_pos h2, if_neg h1, if_pos (by omega)]
      · rw [if_neg h2, if_neg h1, if_neg (by omega)]
theorem dg_s_ext (w w' : Nat → Int32) (k : Nat) (hk : 16 ≤ k) (h : eqn k w w') : dg_s w k = dg_s w' k := by
  unfold dg_s
  rw [h (k - 2) (by omega), h (k - 7) (by omega), h (k - 15) (by omega), h (k - 16) (by omega)]
theorem dg_rd_ext {w w' d d' : Nat → Int32} {t : Nat} (hw : w t = w' t) (h : eqn 8 d d') : eqn 8 (dg_rd w d t) (dg_rd w' d' t) := by
  have ef : dg_f w d t = dg_f w' d' t := by
    unfold dg_f
    rw [h 7 (by decide), h 4 (by decide), h 5 (by decide), h 6 (by decide), hw]
  have em : dg_m d = dg_m d' := by
    unfold dg_m
    rw [h 0 (by decide), h 1 (by decide), h 2 (by decide)]
  have es : eqn 8 (dg_sh 7 d) (dg_sh 7 d') := by
    intro k hk
    unfold dg_sh
    by_cases q : 1 ≤ k ∧ k ≤ 7
    · rw [if_pos q, if_pos q]; exact h _ (by omega)
    · rw [if_neg q, if_neg q]; exact h _ hk
  intro k hk
  unfold dg_rd
  rw [ef, em, h 0 (by decide), es 4 (by decide)]
  unfold upd
  by_cases e0 : k = 0
  · rw [if_pos e0, if_pos e0]
  · rw [if_neg e0, if_neg e0]
    by_cases e4 : k = 4
    · rw [if_pos e4, if_pos e4]
    · rw [if_neg e4, if_neg e4]; exact es k hk
theorem dg_rs_ext {w w' : Nat → Int32} (hw : eqn 64 w w') : ∀ (n t : Nat) (d d' : Nat → Int32), t + n ≤ 64 → eqn 8 d d' → eqn 8 (dg_rs w n t d) (dg_rs w' n t d') := by
  intro n
  induction n with
  | zero => intro t d d' _ h; exact h
  | succ n ih =>
    intro t d d' ht h
    exact ih (t + 1) _ _ (by omega) (dg_rd_ext (hw t (by omega)) h)
theorem dg_hi (x : Int64) : Int64.toInt32 ((Int64.toUInt64 x >>> (Int64.toUInt64 (Int32.toInt64 32) &&& Int64.toUInt64 63)).toInt64) = Int64.toInt32 (x >>> ((Int32.toInt64 32) &&& 63)) := by
  apply Int32.toBitVec_inj.1
  apply BitVec.eq_of_getLsbD_eq
  intro i hi
  rw [Int64.toBitVec_toInt32, Int64.toBitVec_toInt32, BitVec.getLsbD_signExtend, BitVec.getLsbD_signExtend, Int64.toBitVec_shiftRight, if_pos (show i < 64 by omega), if_pos (show i < 64 by omega)]
  congr 1
  show (x.toUInt64 >>> (Int64.toUInt64 (Int32.toInt64 32) &&& Int64.toUInt64 63)).toBitVec.getLsbD i = (x.toBitVec.sshiftRight ((Int32.toInt64 32 &&& 63).toBitVec.smod 64).toNat).getLsbD i
  rw [UInt64.toBitVec_shiftRight]
  show (x.toUInt64.toBitVec >>> ((Int64.toUInt64 (Int32.toInt64 32) &&& Int64.toUInt64 63).toBitVec % 64).toNat).getLsbD i = _
  rw [show ((Int64.toUInt64 (Int32.toInt64 32) &&& Int64.toUInt64 63).toBitVec % 64).toNat = 32 by decide, show ((Int32.toInt64 32 &&& 63).toBitVec.smod 64).toNat = 32 by decide, BitVec.getLsbD_ushiftRight, BitVec.getLsbD_sshiftRight, if_pos (show 32 + i < 64 by omega), decide_eq_false (show ¬ 64 ≤ i by omega)]
  rfl
/-- the sixteen first words -/
def dg_b (x y : Int64) (k : Nat) : Int32 := g_get 0 [Int64.toInt32 (x >>> ((Int32.toInt64 32) &&& 63)), Int64.toInt32 x, Int64.toInt32 (y >>> ((Int32.toInt64 32) &&& 63)), Int64.toInt32 y, -2147483648, 0, 0, 0, 0, 0, 0, 0, 0, 0, 0, 128] k
def dg_w (x y : Int64) : Nat → Int32 := itn dg_s 48 16 (dg_b x y)
def dg_d (x y : Int64) : Nat → Int32 := itn (fun d k => d k + g_get 0 t_first k) 8 0 (dg_rs (dg_w x y) 64 0 (itn (fun _ k => g_get 0 t_first k) 8 0 (fun _ => 0)))
theorem dg_3 : ∀ (n fu k : Nat) (I : MI) (J : MJ), k + n = 8 → n < fu → f_Digest_stir_2 fu (nI k) I J = some ((), va_up I 110 (itn (fun _ k => g_get 0 t_first k) n k (I 110)), J) := by
  intro n
  induction n with
  | zero =>
    intro fu k I J h1 h2
    obtain ⟨f, rfl⟩ : ∃ f, fu = f + 1 := ⟨fu - 1, by omega⟩
    have hk : k = 8 := by omega
    subst hk
    rw [f_Digest_stir_2, if_pos (show (8 : Int32) ≤ nI 8 by decide), itn, va_up_id]
  | succ n ih =>
    intro fu k I J h1 h2
    obtain ⟨f, rfl⟩ : ∃ f, fu = f + 1 := ⟨fu - 1, by omega⟩
    have gk := nI_in (show k < 8 by omega) (show 8 < 2 ^ 31 by decide)
    rw [f_Digest_stir_2, if_neg (show ¬ (8 : Int32) ≤ nI k from nI_ge (a := k) (b := 8) (by omega) (by decide)), if_neg gk, if_neg gk, pl_eq, nI_1, ih f (k + 1) _ _ (by omega) (by omega), nI_clamp (show k < 2 ^ 31 by omega), va_up_self, va_up_up]
    rfl
theorem dm_3 {x y : Int64} : ∀ (n fu k : Nat) (I : MI) (J : MJ), k + n = 8 → n < fu → f_Model_digestOf_182 x y fu (nI k) I J = some ((), va_up I 161 (itn (fun _ k => g_get 0 t_first k) n k (I 161)), J) := by
  intro n
  induction n with
  | zero =>
    intro fu k I J h1 h2
    obtain ⟨f, rfl⟩ : ∃ f, fu = f + 1 := ⟨fu - 1, by omega⟩
    have hk : k = 8 := by omega
    subst hk
    rw [f_Model_digestOf_182, if_pos (show (8 : Int32) ≤ nI 8 by decide), itn, va_up_id]
  | succ n ih =>
    intro fu k I J h1 h2
    obtain ⟨f, rfl⟩ : ∃ f, fu = f + 1 := ⟨fu - 1, by omega⟩
    have gk := nI_in (show k < 8 by omega) (show 8 < 2 ^ 31 by decide)
    rw [f_Model_digestOf_182, if_neg (show ¬ (8 : Int32) ≤ nI k from nI_ge (a := k) (b := 8) (by omega) (by decide)), if_neg gk, if_neg gk, pl_eq, nI_1, ih f (k + 1) _ _ (by omega) (by omega), nI_clamp (show k < 2 ^ 31 by omega), va_up_self, va_up_up]
    rfl
theorem dg_4 : ∀ (n fu k : Nat) (I : MI) (J : MJ), k + n = 8 → n < fu → f_Digest_stir_255 fu (nI k) I J = some ((), va_up I 110 (itn (fun d k => d k + g_get 0 t_first k) n k (I 110)), J) := by
  intro n
  induction n with
  | zero =>
    intro fu k I J h1 h2
    obtain ⟨f, rfl⟩ : ∃ f, fu = f + 1 := ⟨fu - 1, by omega⟩
    have hk : k = 8 := by omega
    subst hk
    rw [f_Digest_stir_255, if_pos (show (8 : Int32) ≤ nI 8 by decide), itn, va_up_id]
  | succ n ih =>
    intro fu k I J h1 h2
    obtain ⟨f, rfl⟩ : ∃ f, fu = f + 1 := ⟨fu - 1, by omega⟩
    have gk := nI_in (show k < 8 by omega) (show 8 < 2 ^ 31 by decide)
    rw [f_Digest_stir_255, if_neg (show ¬ (8 : Int32) ≤ nI k from nI_ge (a := k) (b := 8) (by omega) (by decide)), if_neg gk, if_neg gk, if_neg gk, pl_eq, nI_1, ih f (k + 1) _ _ (by omega) (by omega), nI_clamp (show k < 2 ^ 31 by omega), va_up_self, va_up_up]
    rfl
theorem dm_4 {x y : Int64} : ∀ (n fu k : Nat) (I : MI) (J : MJ), k + n = 8 → n < fu → f_Model_digestOf_395 x y fu (nI k) I J = some ((), va_up I 161 (itn (fun d k => d k + g_get 0 t_first k) n k (I 161)), J) := by
  intro n
  induction n with
  | zero =>
    intro fu k I J h1 h2
    obtain ⟨f, rfl⟩ : ∃ f, fu = f + 1 := ⟨fu - 1, by omega⟩
    have hk : k = 8 := by omega
    subst hk
    rw [f_Model_digestOf_395, if_pos (show (8 : Int32) ≤ nI 8 by decide), itn, va_up_id]
  | succ n ih =>
    intro fu k I J h1 h2
    obtain ⟨f, rfl⟩ : ∃ f, fu = f + 1 := ⟨fu - 1, by omega⟩
    have gk := nI_in (show k < 8 by omega) (show 8 < 2 ^ 31 by decide)
    rw [f_Model_digestOf_395, if_neg (show ¬ (8 : Int32) ≤ nI k from nI_ge (a := k) (b := 8) (by omega) (by decide)), if_neg gk, if_neg gk, if_neg gk, pl_eq, nI_1, ih f (k + 1) _ _ (by omega) (by omega), nI_clamp (show k < 2 ^ 31 by omega), va_up_self, va_up_up]
    rfl
theorem dg_fin {w w' d d' : Nat → Int32} (hw : eqn 64 w w') : eqn 8 (itn (fun d k => d k + g_get 0 t_first k) 8 0 (dg_rs w 64 0 (itn (fun _ k => g_get 0 t_first k) 8 0 d))) (itn (fun d k => d k + g_get 0 t_first k) 8 0 (dg_rs w' 64 0 (itn (fun _ k => g_get 0 t_first k) 8 0 d'))) := by
  have h0 : eqn 8 (itn (fun _ k => g_get 0 t_first k) 8 0 d) (itn (fun _ k => g_get 0 t_first k) 8 0 d') := by
    intro k hk
    rw [itn_c, itn_c]
    show (if 0 ≤ k ∧ k < 0 + 8 then _ else _) = if 0 ≤ k ∧ k < 0 + 8 then _ else _
    rw [if_pos (by omega), if_pos (by omega)]
  have h1 := dg_rs_ext hw 64 0 _ _ (by decide) h0
  intro k hk
  rw [itn_a, itn_a]
  show (if 0 ≤ k ∧ k < 0 + 8 then _ else _) = if 0 ≤ k ∧ k < 0 + 8 then _ else _
  rw [if_pos (by omega), if_pos (by omega), h1 k hk]
theorem dg_base {x y : Int64} {B : Nat → Int32} {a c : Int32} (ha : a = Int64.toInt32 (x >>> ((Int32.toInt64 32) &&& 63))) (hc : c = Int64.toInt32 (y >>> ((Int32.toInt64 32) &&& 63))) (z : Nat → Int32) (hB : ∀ k, k < 16 → B k = upd (upd (upd (upd (upd (upd (fun i => if 5 ≤ i ∧ i < 5 + 10 then 0 else z i) 0 a) 1 (Int64.toInt32 x)) 2 c) 3 (Int64.toInt32 y)) 4 (-2147483648)) 15 128 k) : eqn 16 B (dg_b x y) := by
  intro k hk
  rw [hB k hk, ha, hc]
  match k, hk with
  | 0, _ => simp [upd, dg_b, g_get]
  | 1, _ => simp [upd, dg_b, g_get]
  | 2, _ => simp [upd, dg_b, g_get]
  | 3, _ => simp [upd, dg_b, g_get]
  | 4, _ => simp [upd, dg_b, g_get]
  | 5, _ => simp [upd, dg_b, g_get]
  | 6, _ => simp [upd, dg_b, g_get]
  | 7, _ => simp [upd, dg_b, g_get]
  | 8, _ => simp [upd, dg_b, g_get]
  | 9, _ => simp [upd, dg_b, g_get]
  | 10, _ => simp [upd, dg_b, g_get]
  | 11, _ => simp [upd, dg_b, g_get]
  | 12, _ => simp [upd, dg_b, g_get]
  | 13, _ => simp [upd, dg_b, g_get]
  | 14, _ => simp [upd, dg_b, g_get]
  | 15, _ => simp [upd, dg_b, g_get]
  | n + 16, h => exact absurd h (by omega)
theorem dg_spr (x y : Int64) (I : MI) (J : MJ) : ∃ w, f_Digest_spread x y I J = some ((), va_up I 109 w, J) ∧ eqn 64 w (dg_w x y) := by
  have h5 : ∀ (I : MI) (J : MJ), f_Digest_spread_3 x y gF x y 5 I J = some ((), va_up I 109 (itn (fun _ _ => 0) 10 5 (I 109)), J) := fun I J => dg_0 10 gF 5 x y I J rfl (by decide)
  have h16 : ∀ (I : MI) (J : MJ), f_Digest_spread_84 x y gF 16 I J = some ((), va_up I 109 (itn dg_s 48 16 (I 109)), J) := fun I J => dg_1 48 gF 16 I J rfl (by decide) (by decide)
  have g0 : ¬ ((0 : Int32) < 0 ∨ 64 ≤ 0) := by decide
  have c0 : Int32.toNatClampNeg 0 = 0 := by decide
  have g1 : ¬ ((1 : Int32) < 0 ∨ 64 ≤ 1) := by decide
  have c1 : Int32.toNatClampNeg 1 = 1 := by decide
  have g2 : ¬ ((2 : Int32) < 0 ∨ 64 ≤ 2) := by decide
  have c2 : Int32.toNatClampNeg 2 = 2 := by decide
  have g3 : ¬ ((3 : Int32) < 0 ∨ 64 ≤ 3) := by decide
  have c3 : Int32.toNatClampNeg 3 = 3 := by decide
  have g4 : ¬ ((4 : Int32) < 0 ∨ 64 ≤ 4) := by decide
  have c4 : Int32.toNatClampNeg 4 = 4 := by decide
  have g15 : ¬ ((15 : Int32) < 0 ∨ 64 ≤ 15) := by decide
  have c15 : Int32.toNatClampNeg 15 = 15 := by decide
  unfold f_Digest_spread
  simp only [h5, h16, oc_some, pl_eq, if_neg g0, if_neg g1, if_neg g2, if_neg g3, if_neg g4, if_neg g15, c0, c1, c2, c3, c4, c15, va_up_self, va_up_up]
  refine ⟨_, rfl, itn_ext dg_s_ext 48 16 _ _ (Nat.le_refl _) (dg_base (dg_hi x) (dg_hi y) (I 109) (fun k _ => ?_))⟩
  rw [itn_c (fun _ => 0)]
theorem dg_ok (x y : Int64) (I : MI) (J : MJ) : ∃ w d, oc (f_Digest_spread x y I J) (fun _ I1 J1 => f_Digest_stir I1 J1) = some ((), va_up (va_up I 109 w) 110 d, J) ∧ eqn 8 d (dg_d x y) := by
  obtain ⟨w, h1, hw⟩ := dg_spr x y I J
  have a1 : ∀ (I : MI) (J : MJ), f_Digest_stir_2 gF 0 I J = some ((), va_up I 110 (itn (fun _ k => g_get 0 t_first k) 8 0 (I 110)), J) := fun I J => dg_3 8 gF 0 I J rfl (by decide)
  have a2 : ∀ (I : MI) (J : MJ), f_Digest_stir_27 gF 0 I J = some ((), va_up I 110 (dg_rs (I 109) 64 0 (I 110)), J) := fun I J => dg_2 64 gF 0 I J rfl (by decide)
  have a3 : ∀ (I : MI) (J : MJ), f_Digest_stir_255 gF 0 I J = some ((), va_up I 110 (itn (fun d k => d k + g_get 0 t_first k) 8 0 (I 110)), J) := fun I J => dg_4 8 gF 0 I J rfl (by decide)
  rw [h1]
  unfold f_Digest_stir
  simp only [oc_some, a1, a2, a3, va_up_self, va_up_up, va_up_ne _ _ (show 109 ≠ 110 by decide)]
  exact ⟨w, _, rfl, dg_fin hw⟩
theorem dm_ok (x y : Int64) (I : MI) (J : MJ) : ∃ w d, f_Model_digestOf x y I J = some ((), va_up (va_up I 160 w) 161 d, J) ∧ eqn 8 d (dg_d x y) := by
  have h5 : ∀ (I : MI) (J : MJ), f_Model_digestOf_45 x y gF 5 I J = some ((), va_up I 160 (itn (fun _ _ => 0) 10 5 (I 160)), J) := fun I J => dm_0 10 gF 5 I J rfl (by decide)
  have h16 : ∀ (I : MI) (J : MJ), f_Model_digestOf_76 x y gF 16 I J = some ((), va_up I 160 (itn dg_s 48 16 (I 160)), J) := fun I J => dm_1 48 gF 16 I J rfl (by decide) (by decide)
  have a1 : ∀ (I : MI) (J : MJ), f_Model_digestOf_182 x y gF 0 I J = some ((), va_up I 161 (itn (fun _ k => g_get 0 t_first k) 8 0 (I 161)), J) := fun I J => dm_3 8 gF 0 I J rfl (by decide)
  have a2 : ∀ (I : MI) (J : MJ), f_Model_digestOf_209 x y gF 0 I J = some ((), va_up I 161 (dg_rs (I 160) 64 0 (I 161)), J) := fun I J => dm_2 64 gF 0 I J rfl (by decide)
  have a3 : ∀ (I : MI) (J : MJ), f_Model_digestOf_395 x y gF 0 I J = some ((), va_up I 161 (itn (fun d k => d k + g_get 0 t_first k) 8 0 (I 161)), J) := fun I J => dm_4 8 gF 0 I J rfl (by decide)
  have g0 : ¬ ((0 : Int32) < 0 ∨ 64 ≤ 0) := by decide
  have c0 : Int32.toNatClampNeg 0 = 0 := by decide
  have g1 : ¬ ((1 : Int32) < 0 ∨ 64 ≤ 1) := by decide
  have c1 : Int32.toNatClampNeg 1 = 1 := by decide
  have g2 : ¬ ((2 : Int32) < 0 ∨ 64 ≤ 2) := by decide
  have c2 : Int32.toNatClampNeg 2 = 2 := by decide
  have g3 : ¬ ((3 : Int32) < 0 ∨ 64 ≤ 3) := by decide
  have c3 : Int32.toNatClampNeg 3 = 3 := by decide
  have g4 : ¬ ((4 : Int32) < 0 ∨ 64 ≤ 4) := by decide
  have c4 : Int32.toNatClampNeg 4 = 4 := by decide
  have g15 : ¬ ((15 : Int32) < 0 ∨ 64 ≤ 15) := by decide
  have c15 : Int32.toNatClampNeg 15 = 15 := by decide
  unfold f_Model_digestOf
  simp only [h5, h16, a1, a2, a3, oc_some, pl_eq, if_neg g0, if_neg g1, if_neg g2, if_neg g3, if_neg g4, if_neg g15, c0, c1, c2, c3, c4, c15, va_up_self, va_up_up, va_up_ne _ _ (show 160 ≠ 161 by decide)]
  refine ⟨_, _, rfl, dg_fin (itn_ext dg_s_ext 48 16 _ _ (Nat.le_refl _) (dg_base rfl rfl (I 160) (fun k hk => ?_)))⟩
  rw [itn_c (fun _ => 0)]
  match k, hk with
  | 0, _ => simp [upd]
  | 1, _ => simp [upd]
  | 2, _ => simp [upd]
  | 3, _ => simp [upd]
  | 4, _ => simp [upd]
  | 5, _ => simp [upd]
  | 6, _ => simp [upd]
  | 7, _ => simp [upd]
  | 8, _ => simp [upd]
  | 9, _ => simp [upd]
  | 10, _ => simp [upd]
  | 11, _ => simp [upd]
  | 12, _ => simp [upd]
  | 13, _ => simp [upd]
  | 14, _ => simp [upd]
  | 15, _ => simp [upd]
  | n + 16, h => exact absurd h (by omega)
/-- the number that is drawn -/
def dg_v (d : Nat → Int32) : Int64 := (Int64.toUInt64 (((Int32.toInt64 (d 0)) <<< ((Int32.toInt64 32) &&& 63)) ||| ((Int32.toInt64 (d 1)) &&& 4294967295)) >>> (Int64.toUInt64 (Int32.toInt64 3) &&& Int64.toUInt64 63)).toInt64
def dg_k (d : Nat → Int32) : Nat := (Int64.toUInt64 (((Int32.toInt64 (d 0)) <<< ((Int32.toInt64 32) &&& 63)) ||| ((Int32.toInt64 (d 1)) &&& 4294967295))).toNat / 2 ^ 3
theorem dg_vk (d : Nat → Int32) : dg_v d = lN (dg_k d) ∧ dg_k d < 2 ^ 61 := by
  unfold dg_v dg_k
  generalize ((Int32.toInt64 (d 0)) <<< ((Int32.toInt64 32) &&& 63)) ||| ((Int32.toInt64 (d 1)) &&& 4294967295) = z
  have hz : z.toUInt64.toNat < 2 ^ 64 := z.toUInt64.toNat_lt
  have e : z = lN z.toUInt64.toNat := by
    apply Int64.toBitVec_inj.1
    show z.toBitVec = BitVec.ofNat 64 z.toBitVec.toNat
    rw [BitVec.ofNat_toNat, BitVec.setWidth_eq]
  refine ⟨?_, by omega⟩
  have h := lx_ush (k := 3) hz (by decide)
  rw [← e] at h
  exact h
def dg_n (x y : Int64) : Nat := dg_k (dg_d x y) % pP
theorem lx_rem {n : Nat} (h : n < 2 ^ 63) : lN n - lN n / 2305843009213693951 * 2305843009213693951 = lN (n % pP) := by
  rw [lx_P]
  have e : lN n / lN 2305843009213693951 = lN (n / 2305843009213693951) := by
    apply Int64.toInt_inj.1
    rw [lg_ldiv_nonneg (by rw [lx_toInt h]; omega) (by rw [lx_toInt (by decide)]; decide), lx_toInt h, lx_toInt (by decide), lx_toInt (by omega)]
    rfl
  rw [e, lN_mul, lN_sub (Nat.div_mul_le_self _ _)]
  congr 1
  show n - n / 2305843009213693951 * 2305843009213693951 = n % 2305843009213693951
  omega
theorem dg_nxt {x y : Int64} {I I1 I2 : MI} {J J1 J2 : MJ} {u v : Unit} (h1 : f_Digest_spread x y I J = some (u, I1, J1)) (h2 : f_Digest_stir I1 J1 = some (v, I2, J2)) : f_Digest_next x y I J = some (dg_v (I2 110) - dg_v (I2 110) / 2305843009213693951 * 2305843009213693951, I2, J2) := by
  have c0 : Int32.toNatClampNeg 0 = 0 := by decide
  have c1 : Int32.toNatClampNeg 1 = 1 := by decide
  unfold f_Digest_next dg_v
  rw [h1, oc_some, h2, oc_some, c0, c1, if_neg (by decide), if_neg (by decide)]
theorem dg_next (x y : Int64) (I : MI) (J : MJ) : ∃ w d, f_Digest_next x y I J = some (lN (dg_n x y), va_up (va_up I 109 w) 110 d, J) := by
  obtain ⟨w, d, h, hd⟩ := dg_ok x y I J
  obtain ⟨u, I1, J1, h1, h2⟩ := oc_call h
  have e : dg_v d = dg_v (dg_d x y) := by
    unfold dg_v
    rw [hd 0 (by decide), hd 1 (by decide)]
  obtain ⟨k1, k2⟩ := dg_vk (dg_d x y)
  have e2 : dg_v d - dg_v d / 2305843009213693951 * 2305843009213693951 = lN (dg_n x y) := by
    unfold dg_n
    rw [e, k1]
    exact lx_rem (by omega)
  refine ⟨w, d, ?_⟩
  rw [dg_nxt h1 h2, va_up_self, e2]
theorem dm_drawn (x : Int64) (k : Int32) (I : MI) (J : MJ) : ∃ w d, f_Model_drawn x k I J = some (lN (dg_n x (Int32.toInt64 k)), va_up (va_up I 160 w) 161 d, J) := by
  obtain ⟨w, d, h, hd⟩ := dm_ok x (Int32.toInt64 k) I J
  unfold f_Model_drawn
  rw [h]
  have g0 : ¬ ((0 : Int32) < 0 ∨ 8 ≤ 0) := by decide
  have c0 : Int32.toNatClampNeg 0 = 0 := by decide
  have g1 : ¬ ((1 : Int32) < 0 ∨ 8 ≤ 1) := by decide
  have c1 : Int32.toNatClampNeg 1 = 1 := by decide
  simp only [oc_some, if_neg g0, if_neg g1, c0, c1, va_up_self]
  have e : dg_v d = dg_v (dg_d x (Int32.toInt64 k)) := by
    unfold dg_v
    rw [hd 0 (by decide), hd 1 (by decide)]
  obtain ⟨k1, k2⟩ := dg_vk (dg_d x (Int32.toInt64 k))
  refine ⟨w, d, ?_⟩
  unfold dg_n
  have e2 : f_Model_reduced (dg_v d) (va_up (va_up I 160 w) 161 d) J = some (lN (dg_k (dg_d x (Int32.toInt64 k)) % pP), va_up (va_up I 160 w) 161 d, J) := by
    rw [e, k1, m_red (by omega)]
  unfold dg_v at e2
  rw [e2, oc_some]
