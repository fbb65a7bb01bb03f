/-! type and put -/
theorem va_up_c {α : Type} (f : Nat → α) {a b : Nat} (x y : α) (h : a ≠ b) : va_up (va_up f a x) b y = va_up (va_up f b y) a x := by
  funext j
  by_cases h1 : j = a
  · subst h1
    rw [va_up_ne _ _ h, va_up_self, va_up_self]
  · rw [va_up_ne _ _ h1]
    by_cases h2 : j = b
    · subst h2
      rw [va_up_self, va_up_self]
    · rw [va_up_ne _ _ h2, va_up_ne _ _ h2, va_up_ne _ _ h1]
theorem va_4 {α : Type} (f : Nat → α) {a b : Nat} (x y x' y' : α) (h : a ≠ b) : va_up (va_up (va_up (va_up f a x) b y) a x') b y' = va_up (va_up f a x') b y' := by
  rw [va_up_c (va_up f a x) y x' (Ne.symm h), va_up_up, va_up_up]
theorem va_3 {α : Type} (f : Nat → α) {a b : Nat} (x y z : α) (h : a ≠ b) : va_up (va_up (va_up f a x) b y) a z = va_up (va_up f b y) a z := by
  rw [va_up_c f x y h, va_up_up]
theorem upd_id (f : Nat → Int32) (k : Nat) (x : Int32) (h : f k = x) : upd f k x = f := by
  funext j
  by_cases q : j = k
  · subst q
    rw [upd_s, h]
  · rw [upd_n _ _ q]
def wf (f : Nat → Int32) (n : Nat) (w : Int64) (k : Nat) : Nat → Int32 := fun j => if n ≤ j ∧ j < n + k then nI (wb w (k - 1 - (j - n))) else f j
theorem wf_0 (f : Nat → Int32) (n : Nat) (w : Int64) : wf f n w 0 = f := by
  funext j
  unfold wf
  rw [if_neg (by omega)]
theorem wf_s (f : Nat → Int32) (n : Nat) (w : Int64) (k : Nat) : wf (upd f n (nI (wb w k))) (n + 1) w k = wf f n w (k + 1) := by
  funext j
  unfold wf
  by_cases h : j = n
  · subst h
    rw [if_neg (by omega), upd_s, if_pos (by omega)]
    congr 2
    omega
  · by_cases q : n ≤ j ∧ j < n + (k + 1)
    · rw [if_pos (by omega), if_pos q]
      congr 2
      omega
    · rw [if_neg (by omega), if_neg q, upd_n _ _ h]
theorem wl_neg : (nI 0 + m1 : Int32) < 0 := by decide
theorem aw77 {r b m : Nat} (p2 : Int64) (p3 p4 p5 : Int32) (w : Int64) (hm : m < 2 ^ 31) (hr : r ≠ b) : ∀ (k fu n : Nat) (I : MI) (J : MJ), k ≤ 8 → k < fu → I r 1 = nI n → n + k ≤ m → f_Row_addWord_77 r b m p2 p3 p4 p5 fu w (nI k + m1) I J = some ((), va_up (va_up I b (wf (I b) n w k)) r (upd (I r) 1 (nI (n + k))), J) := by
  intro k
  induction k with
  | zero =>
    intro fu n I J hk hf h hn
    obtain ⟨f, rfl⟩ : ∃ f, fu = f + 1 := ⟨fu - 1, by omega⟩
    rw [f_Row_addWord_77, if_pos wl_neg, wf_0, va_up_id, Nat.add_zero, upd_id _ _ _ h, va_up_id]
  | succ k ih =>
    intro fu n I J hk hf h hn
    obtain ⟨f, rfl⟩ : ∃ f, fu = f + 1 := ⟨fu - 1, by omega⟩
    rw [f_Row_addWord_77, show nI (k + 1) + m1 = nI k from nI_pd k, show (-1 : Int32) = m1 from rfl, if_neg (nI_pos (by omega)), w_add h (by omega) hm hr, oc_some, wb_c w (by omega), ih f (n + 1) _ _ (by omega) (by omega) (by simp (disch := omega) only [↓li_m, oc_some, pl_eq, oe_i, oe_j, va_up_self, va_up_ne, va_up_up, upd_s, upd_n, updL_s, updL_n, nI_add, nI_1, nI_ltI, nI_leI, nI_eq, nI_clamp, li_n, m1_lt, m1_le, m1_gt, m1_ge, m1_ne, m1_en, m1_ad, nle_F, nle_T, nlt_F, nlt_T, neq_F, neq_T, or_self, or_false, false_or, true_or, or_true, and_self, and_false, false_and, true_and, and_true, not_true_eq_false, not_false_eq_true, ↓reduceIte, if_true, if_false, Nat.reduceAdd, ite_self, Bool.false_eq_true]) (by omega)]
    simp (disch := omega) only [↓li_m, oc_some, pl_eq, oe_i, oe_j, va_up_self, va_up_ne, va_up_up, upd_s, upd_n, updL_s, updL_n, nI_add, nI_1, nI_ltI, nI_leI, nI_eq, nI_clamp, li_n, m1_lt, m1_le, m1_gt, m1_ge, m1_ne, m1_en, m1_ad, nle_F, nle_T, nlt_F, nlt_T, neq_F, neq_T, or_self, or_false, false_or, true_or, or_true, and_self, and_false, false_and, true_and, and_true, not_true_eq_false, not_false_eq_true, ↓reduceIte, if_true, if_false, Nat.reduceAdd, ite_self, Bool.false_eq_true, wf_s, upd_u, va_4 _ _ _ _ _ (Ne.symm hr)]
    rw [show n + 1 + k = n + (k + 1) by omega]
theorem mt80 (p2 : Int64) (p3 : Int32) (w : Int64) : ∀ (k fu n : Nat) (I : MI) (J : MJ), k ≤ 8 → k < fu → I 112 2 = nI n → n + k ≤ 400 → f_Model_type_80 p2 p3 fu w (nI k + m1) I J = some ((), va_up (va_up I 113 (wf (I 113) n w k)) 112 (upd (I 112) 2 (nI (n + k))), J) := by
  intro k
  induction k with
  | zero =>
    intro fu n I J hk hf h hn
    obtain ⟨f, rfl⟩ : ∃ f, fu = f + 1 := ⟨fu - 1, by omega⟩
    rw [f_Model_type_80, if_pos wl_neg, wf_0, va_up_id, Nat.add_zero, upd_id _ _ _ h, va_up_id]
  | succ k ih =>
    intro fu n I J hk hf h hn
    obtain ⟨f, rfl⟩ : ∃ f, fu = f + 1 := ⟨fu - 1, by omega⟩
    rw [f_Model_type_80, show nI (k + 1) + m1 = nI k from nI_pd k, show (-1 : Int32) = m1 from rfl, if_neg (nI_pos (by omega)), h, if_neg (nI_in (by omega) (by omega)), pl_eq, pl_eq, wb_m w (by omega), nI_clamp (by omega), ih f (n + 1) _ _ (by omega) (by omega) (by simp (disch := omega) only [↓li_m, oc_some, pl_eq, oe_i, oe_j, va_up_self, va_up_ne, va_up_up, upd_s, upd_n, updL_s, updL_n, nI_add, nI_1, nI_ltI, nI_leI, nI_eq, nI_clamp, li_n, m1_lt, m1_le, m1_gt, m1_ge, m1_ne, m1_en, m1_ad, nle_F, nle_T, nlt_F, nlt_T, neq_F, neq_T, or_self, or_false, false_or, true_or, or_true, and_self, and_false, false_and, true_and, and_true, not_true_eq_false, not_false_eq_true, ↓reduceIte, if_true, if_false, Nat.reduceAdd, ite_self, Bool.false_eq_true, h]) (by omega)]
    simp (disch := omega) only [↓li_m, oc_some, pl_eq, oe_i, oe_j, va_up_self, va_up_ne, va_up_up, upd_s, upd_n, updL_s, updL_n, nI_add, nI_1, nI_ltI, nI_leI, nI_eq, nI_clamp, li_n, m1_lt, m1_le, m1_gt, m1_ge, m1_ne, m1_en, m1_ad, nle_F, nle_T, nlt_F, nlt_T, neq_F, neq_T, or_self, or_false, false_or, true_or, or_true, and_self, and_false, false_and, true_and, and_true, not_true_eq_false, not_false_eq_true, ↓reduceIte, if_true, if_false, Nat.reduceAdd, ite_self, Bool.false_eq_true, wf_s, upd_u, va_4 _ _ _ _ _ (show 113 ≠ 112 by decide), h]
    rw [show n + 1 + k = n + (k + 1) by omega]
theorem mp35 (p2 : Int64) (p3 : Int32) (w : Int64) : ∀ (k fu n : Nat) (I : MI) (J : MJ), k ≤ 8 → k < fu → I 112 12 = nI n → n + k ≤ 2000 → f_Model_put_35 p2 p3 fu w (nI k + m1) I J = some ((), va_up (va_up I 116 (wf (I 116) n w k)) 112 (upd (I 112) 12 (nI (n + k))), J) := by
  intro k
  induction k with
  | zero =>
    intro fu n I J hk hf h hn
    obtain ⟨f, rfl⟩ : ∃ f, fu = f + 1 := ⟨fu - 1, by omega⟩
    rw [f_Model_put_35, if_pos wl_neg, wf_0, va_up_id, Nat.add_zero, upd_id _ _ _ h, va_up_id]
  | succ k ih =>
    intro fu n I J hk hf h hn
    obtain ⟨f, rfl⟩ : ∃ f, fu = f + 1 := ⟨fu - 1, by omega⟩
    rw [f_Model_put_35, show nI (k + 1) + m1 = nI k from nI_pd k, show (-1 : Int32) = m1 from rfl, if_neg (nI_pos (by omega)), h, if_neg (nI_in (by omega) (by omega)), pl_eq, pl_eq, wb_m w (by omega), nI_clamp (by omega), ih f (n + 1) _ _ (by omega) (by omega) (by simp (disch := omega) only [↓li_m, oc_some, pl_eq, oe_i, oe_j, va_up_self, va_up_ne, va_up_up, upd_s, upd_n, updL_s, updL_n, nI_add, nI_1, nI_ltI, nI_leI, nI_eq, nI_clamp, li_n, m1_lt, m1_le, m1_gt, m1_ge, m1_ne, m1_en, m1_ad, nle_F, nle_T, nlt_F, nlt_T, neq_F, neq_T, or_self, or_false, false_or, true_or, or_true, and_self, and_false, false_and, true_and, and_true, not_true_eq_false, not_false_eq_true, ↓reduceIte, if_true, if_false, Nat.reduceAdd, ite_self, Bool.false_eq_true, h]) (by omega)]
    simp (disch := omega) only [↓li_m, oc_some, pl_eq, oe_i, oe_j, va_up_self, va_up_ne, va_up_up, upd_s, upd_n, updL_s, updL_n, nI_add, nI_1, nI_ltI, nI_leI, nI_eq, nI_clamp, li_n, m1_lt, m1_le, m1_gt, m1_ge, m1_ne, m1_en, m1_ad, nle_F, nle_T, nlt_F, nlt_T, neq_F, neq_T, or_self, or_false, false_or, true_or, or_true, and_self, and_false, false_and, true_and, and_true, not_true_eq_false, not_false_eq_true, ↓reduceIte, if_true, if_false, Nat.reduceAdd, ite_self, Bool.false_eq_true, wf_s, upd_u, va_4 _ _ _ _ _ (show 116 ≠ 112 by decide), h]
    rw [show n + 1 + k = n + (k + 1) by omega]
/-- whether the bytes i .. i + n - 1 lie between lo and hi -/
def okb (w : Int64) (lo hi : Nat) : Nat → Nat → Bool
  | _, 0 => true
  | i, n + 1 => if lo ≤ wb w i then (if wb w i ≤ hi then okb w lo hi (i + 1) n else false) else false
theorem aw30 {r b m : Nat} (p2 : Int64) (p3 p4 p5 : Int32) (w : Int64) {lo hi N : Nat} (hlo : lo < 2 ^ 31) (hhi : hi < 2 ^ 31) : ∀ (n fu i : Nat) (I : MI) (J : MJ), i + n = N → N ≤ 8 → n < fu → f_Row_addWord_30 r b m p2 p3 p4 p5 fu w (nI N) (nI lo) (nI hi) (nI i) I J = some (if okb w lo hi i n then .inr () else .inl 0, I, J) := by
  intro n
  induction n with
  | zero =>
    intro fu i I J h hN hf
    obtain ⟨f, rfl⟩ : ∃ f, fu = f + 1 := ⟨fu - 1, by omega⟩
    rw [f_Row_addWord_30, if_pos (nI_le (by omega) (by omega))]
    rfl
  | succ n ih =>
    intro fu i I J h hN hf
    obtain ⟨f, rfl⟩ : ∃ f, fu = f + 1 := ⟨fu - 1, by omega⟩
    have hb := wb_lt w i
    rw [f_Row_addWord_30, if_neg (nI_ge (by omega) (by omega)), pl_eq, wb_c w (by omega), nI_1, ih f (i + 1) _ _ (by omega) hN (by omega), okb]
    by_cases h1 : lo ≤ wb w i
    · by_cases h2 : wb w i ≤ hi
      · simp (disch := omega) only [↓li_m, oc_some, pl_eq, oe_i, oe_j, va_up_self, va_up_ne, va_up_up, upd_s, upd_n, updL_s, updL_n, nI_add, nI_1, nI_ltI, nI_leI, nI_eq, nI_clamp, li_n, m1_lt, m1_le, m1_gt, m1_ge, m1_ne, m1_en, m1_ad, nle_F, nle_T, nlt_F, nlt_T, neq_F, neq_T, or_self, or_false, false_or, true_or, or_true, and_self, and_false, false_and, true_and, and_true, not_true_eq_false, not_false_eq_true, ↓reduceIte, if_true, if_false, Nat.reduceAdd, ite_self, Bool.false_eq_true]
      · simp (disch := omega) only [↓li_m, oc_some, pl_eq, oe_i, oe_j, va_up_self, va_up_ne, va_up_up, upd_s, upd_n, updL_s, updL_n, nI_add, nI_1, nI_ltI, nI_leI, nI_eq, nI_clamp, li_n, m1_lt, m1_le, m1_gt, m1_ge, m1_ne, m1_en, m1_ad, nle_F, nle_T, nlt_F, nlt_T, neq_F, neq_T, or_self, or_false, false_or, true_or, or_true, and_self, and_false, false_and, true_and, and_true, not_true_eq_false, not_false_eq_true, ↓reduceIte, if_true, if_false, Nat.reduceAdd, ite_self, Bool.false_eq_true, h1, Bool.false_eq_true]
    · simp (disch := omega) only [↓li_m, oc_some, pl_eq, oe_i, oe_j, va_up_self, va_up_ne, va_up_up, upd_s, upd_n, updL_s, updL_n, nI_add, nI_1, nI_ltI, nI_leI, nI_eq, nI_clamp, li_n, m1_lt, m1_le, m1_gt, m1_ge, m1_ne, m1_en, m1_ad, nle_F, nle_T, nlt_F, nlt_T, neq_F, neq_T, or_self, or_false, false_or, true_or, or_true, and_self, and_false, false_and, true_and, and_true, not_true_eq_false, not_false_eq_true, ↓reduceIte, if_true, if_false, Nat.reduceAdd, ite_self, Bool.false_eq_true, Bool.false_eq_true]
theorem mt33 (p2 : Int64) (p3 : Int32) (w : Int64) {N : Nat} : ∀ (n fu i : Nat) (I : MI) (J : MJ), i + n = N → N ≤ 8 → n < fu → f_Model_type_33 p2 p3 fu w (nI N) (nI i) I J = some (if okb w 32 126 i n then .inr () else .inl 0, I, J) := by
  intro n
  induction n with
  | zero =>
    intro fu i I J h hN hf
    obtain ⟨f, rfl⟩ : ∃ f, fu = f + 1 := ⟨fu - 1, by omega⟩
    rw [f_Model_type_33, if_pos (nI_le (by omega) (by omega))]
    rfl
  | succ n ih =>
    intro fu i I J h hN hf
    obtain ⟨f, rfl⟩ : ∃ f, fu = f + 1 := ⟨fu - 1, by omega⟩
    have hb := wb_lt w i
    rw [f_Model_type_33, if_neg (nI_ge (by omega) (by omega)), pl_eq, wb_m w (by omega), nI_1, ih f (i + 1) _ _ (by omega) hN (by omega), okb]
    by_cases h1 : 32 ≤ wb w i
    · by_cases h2 : wb w i ≤ 126
      · simp (disch := omega) only [↓li_m, oc_some, pl_eq, oe_i, oe_j, va_up_self, va_up_ne, va_up_up, upd_s, upd_n, updL_s, updL_n, nI_add, nI_1, nI_ltI, nI_leI, nI_eq, nI_clamp, li_n, m1_lt, m1_le, m1_gt, m1_ge, m1_ne, m1_en, m1_ad, nle_F, nle_T, nlt_F, nlt_T, neq_F, neq_T, or_self, or_false, false_or, true_or, or_true, and_self, and_false, false_and, true_and, and_true, not_true_eq_false, not_false_eq_true, ↓reduceIte, if_true, if_false, Nat.reduceAdd, ite_self, Bool.false_eq_true]
      · simp (disch := omega) only [↓li_m, oc_some, pl_eq, oe_i, oe_j, va_up_self, va_up_ne, va_up_up, upd_s, upd_n, updL_s, updL_n, nI_add, nI_1, nI_ltI, nI_leI, nI_eq, nI_clamp, li_n, m1_lt, m1_le, m1_gt, m1_ge, m1_ne, m1_en, m1_ad, nle_F, nle_T, nlt_F, nlt_T, neq_F, neq_T, or_self, or_false, false_or, true_or, or_true, and_self, and_false, false_and, true_and, and_true, not_true_eq_false, not_false_eq_true, ↓reduceIte, if_true, if_false, Nat.reduceAdd, ite_self, Bool.false_eq_true, h1, Bool.false_eq_true]
    · simp (disch := omega) only [↓li_m, oc_some, pl_eq, oe_i, oe_j, va_up_self, va_up_ne, va_up_up, upd_s, upd_n, updL_s, updL_n, nI_add, nI_1, nI_ltI, nI_leI, nI_eq, nI_clamp, li_n, m1_lt, m1_le, m1_gt, m1_ge, m1_ne, m1_en, m1_ad, nle_F, nle_T, nlt_F, nlt_T, neq_F, neq_T, or_self, or_false, false_or, true_or, or_true, and_self, and_false, false_and, true_and, and_true, not_true_eq_false, not_false_eq_true, ↓reduceIte, if_true, if_false, Nat.reduceAdd, ite_self, Bool.false_eq_true, Bool.false_eq_true]
theorem okb_all (w : Int64) : ∀ (n i : Nat), okb w 0 255 i n = true := by
  intro n
  induction n with
  | zero => exact fun _ => rfl
  | succ n ih =>
    intro i
    have hb := wb_lt w i
    rw [okb, if_pos (by omega), if_pos (by omega), ih]
theorem okb_get {w : Int64} {lo hi : Nat} : ∀ (n i : Nat), okb w lo hi i n = true → ∀ j, i ≤ j → j < i + n → lo ≤ wb w j ∧ wb w j ≤ hi := by
  intro n
  induction n with
  | zero => intro i _ j h1 h2; omega
  | succ n ih =>
    intro i h j h1 h2
    rw [okb] at h
    by_cases q1 : lo ≤ wb w i
    · by_cases q2 : wb w i ≤ hi
      · rw [if_pos q1, if_pos q2] at h
        by_cases e : j = i
        · subst e
          exact ⟨q1, q2⟩
        · exact ih (i + 1) h j (by omega) (by omega)
      · rw [if_pos q1, if_neg q2] at h
        cases h
    · rw [if_neg q1] at h
      cases h
/-- the tape of both: n characters t -/
def R_tape (I I' : MI) : Prop := ∃ n, n ≤ 400 ∧ I 4 1 = nI n ∧ I' 112 2 = nI n ∧ ∀ k, k < n → ∃ c, 32 ≤ c ∧ c ≤ 126 ∧ I 5 k = nI c ∧ I' 113 k = nI c
def R_put (I I' : MI) : Prop := ∃ n, n ≤ 2000 ∧ I 1 1 = nI n ∧ I' 112 12 = nI n ∧ ∀ k, k < n → ∃ c, c < 256 ∧ I 2 k = nI c ∧ I' 116 k = nI c
theorem p_18 (p : Int32) : p < 1 ∨ 8 < p ∨ ∃ k, 1 ≤ k ∧ k ≤ 8 ∧ p = nI k := by
  by_cases h1 : p < 1
  · exact Or.inl h1
  · by_cases h2 : 8 < p
    · exact Or.inr (Or.inl h2)
    · refine Or.inr (Or.inr ?_)
      rw [Int32.lt_iff_toInt_lt] at h1 h2
      have e1 : (1 : Int32).toInt = 1 := by decide
      have e8 : (8 : Int32).toInt = 8 := by decide
      refine ⟨p.toInt.toNat, by omega, by omega, ?_⟩
      apply Int32.toInt_inj.1
      rw [nI_toInt (by omega)]
      omega
/-- a word laid behind n bytes -/
theorem w_word {r b m n k lo hi : Nat} (w : Int64) {I : MI} {J : MJ} (h : I r 1 = nI n) (hn : n ≤ m) (hm : m < 2 ^ 20) (hr : r ≠ b) (hlo : lo < 2 ^ 31) (hhi : hi < 2 ^ 31) (h1 : 1 ≤ k) (h8 : k ≤ 8) : f_Row_addWord r b m w (nI k) (nI lo) (nI hi) I J = some (if n + k ≤ m ∧ okb w lo hi 0 k = true then (1, va_up (va_up I b (wf (I b) n w k)) r (upd (I r) 1 (nI (n + k))), J) else (0, I, J)) := by
  unfold f_Row_addWord
  by_cases q : n + k ≤ m
  · rw [show (0 : Int32) = nI 0 from rfl, aw30 (N := k) w (nI k) (nI lo) (nI hi) w hlo hhi k gF 0 I J (by omega) h8 (gF_lt (by omega))]
    by_cases o : okb w lo hi 0 k = true
    · have e := aw77 w (nI k) (nI lo) (nI hi) w (show m < 2 ^ 31 by omega) hr k gF n I J h8 (gF_lt (by omega)) h q
      rw [m1_ad h1] at e
      rw [show nI k - 1 = nI (k - 1) from nI_sb h1, o]
      simp (disch := omega) only [↓li_m, oc_some, pl_eq, oe_i, oe_j, va_up_self, va_up_ne, va_up_up, upd_s, upd_n, updL_s, updL_n, nI_add, nI_1, nI_ltI, nI_leI, nI_eq, nI_clamp, li_n, m1_lt, m1_le, m1_gt, m1_ge, m1_ne, m1_en, m1_ad, nle_F, nle_T, nlt_F, nlt_T, neq_F, neq_T, or_self, or_false, false_or, true_or, or_true, and_self, and_false, false_and, true_and, and_true, not_true_eq_false, not_false_eq_true, ↓reduceIte, if_true, if_false, Nat.reduceAdd, ite_self, Bool.false_eq_true, h, q, e]
    · simp (disch := omega) only [↓li_m, oc_some, pl_eq, oe_i, oe_j, va_up_self, va_up_ne, va_up_up, upd_s, upd_n, updL_s, updL_n, nI_add, nI_1, nI_ltI, nI_leI, nI_eq, nI_clamp, li_n, m1_lt, m1_le, m1_gt, m1_ge, m1_ne, m1_en, m1_ad, nle_F, nle_T, nlt_F, nlt_T, neq_F, neq_T, or_self, or_false, false_or, true_or, or_true, and_self, and_false, false_and, true_and, and_true, not_true_eq_false, not_false_eq_true, ↓reduceIte, if_true, if_false, Nat.reduceAdd, ite_self, Bool.false_eq_true, h, q, o]
  · simp (disch := omega) only [↓li_m, oc_some, pl_eq, oe_i, oe_j, va_up_self, va_up_ne, va_up_up, upd_s, upd_n, updL_s, updL_n, nI_add, nI_1, nI_ltI, nI_leI, nI_eq, nI_clamp, li_n, m1_lt, m1_le, m1_gt, m1_ge, m1_ne, m1_en, m1_ad, nle_F, nle_T, nlt_F, nlt_T, neq_F, neq_T, or_self, or_false, false_or, true_or, or_true, and_self, and_false, false_and, true_and, and_true, not_true_eq_false, not_false_eq_true, ↓reduceIte, if_true, if_false, Nat.reduceAdd, ite_self, Bool.false_eq_true, h, q]
theorem w_wno {r b m lo hi : Nat} (w : Int64) {p : Int32} {I : MI} {J : MJ} (h : p < 1 ∨ 8 < p) : f_Row_addWord r b m w p (nI lo) (nI hi) I J = some (0, I, J) := by
  unfold f_Row_addWord
  by_cases q : p < 1
  · rw [if_pos q]
  · rw [if_neg q, if_pos (h.resolve_left q)]
theorem mt_no (w : Int64) {p : Int32} {I : MI} {J : MJ} (h : p < 1 ∨ 8 < p) : f_Model_type w p I J = some (0, va_up I 112 (upd (I 112) 0 0), J) := by
  unfold f_Model_type
  rw [pl_eq]
  by_cases q : p < 1
  · rw [if_pos q]
  · rw [if_neg q, if_pos (h.resolve_left q)]
theorem mp_no (w : Int64) {p : Int32} {I : MI} {J : MJ} (h : p < 1 ∨ 8 < p) : f_Model_put w p I J = some (0, va_up I 112 (upd (I 112) 0 0), J) := by
  unfold f_Model_put
  rw [pl_eq]
  by_cases q : p < 1
  · rw [if_pos q]
  · rw [if_neg q, if_pos (h.resolve_left q)]
theorem mt_w {n k : Nat} (w : Int64) {I : MI} {J : MJ} (h : I 112 2 = nI n) (hn : n ≤ 400) (h1 : 1 ≤ k) (h8 : k ≤ 8) : f_Model_type w (nI k) I J = some (if n + k ≤ 400 ∧ okb w 32 126 0 k = true then (1, va_up (va_up I 113 (wf (I 113) n w k)) 112 (upd (upd (I 112) 0 0) 2 (nI (n + k))), J) else (0, va_up I 112 (upd (I 112) 0 0), J)) := by
  unfold f_Model_type
  rw [pl_eq]
  by_cases q : n + k ≤ 400
  · rw [show (0 : Int32) = nI 0 from rfl, mt33 (N := k) w (nI k) w k gF 0 _ J (by omega) h8 (gF_lt (by omega))]
    by_cases o : okb w 32 126 0 k = true
    · have e := mt80 w (nI k) w k gF n (va_up I 112 (upd (I 112) 0 (nI 0))) J h8 (gF_lt (by omega)) (by simp (disch := omega) only [↓li_m, oc_some, pl_eq, oe_i, oe_j, va_up_self, va_up_ne, va_up_up, upd_s, upd_n, updL_s, updL_n, nI_add, nI_1, nI_ltI, nI_leI, nI_eq, nI_clamp, li_n, m1_lt, m1_le, m1_gt, m1_ge, m1_ne, m1_en, m1_ad, nle_F, nle_T, nlt_F, nlt_T, neq_F, neq_T, or_self, or_false, false_or, true_or, or_true, and_self, and_false, false_and, true_and, and_true, not_true_eq_false, not_false_eq_true, ↓reduceIte, if_true, if_false, Nat.reduceAdd, ite_self, Bool.false_eq_true, h]) q
      rw [m1_ad h1] at e
      rw [show nI k - 1 = nI (k - 1) from nI_sb h1, o]
      simp (disch := omega) only [↓li_m, oc_some, pl_eq, oe_i, oe_j, va_up_self, va_up_ne, va_up_up, upd_s, upd_n, updL_s, updL_n, nI_add, nI_1, nI_ltI, nI_leI, nI_eq, nI_clamp, li_n, m1_lt, m1_le, m1_gt, m1_ge, m1_ne, m1_en, m1_ad, nle_F, nle_T, nlt_F, nlt_T, neq_F, neq_T, or_self, or_false, false_or, true_or, or_true, and_self, and_false, false_and, true_and, and_true, not_true_eq_false, not_false_eq_true, ↓reduceIte, if_true, if_false, Nat.reduceAdd, ite_self, Bool.false_eq_true, h, q, e, va_3 _ _ _ _ (show 112 ≠ 113 by decide)]
    · simp (disch := omega) only [↓li_m, oc_some, pl_eq, oe_i, oe_j, va_up_self, va_up_ne, va_up_up, upd_s, upd_n, updL_s, updL_n, nI_add, nI_1, nI_ltI, nI_leI, nI_eq, nI_clamp, li_n, m1_lt, m1_le, m1_gt, m1_ge, m1_ne, m1_en, m1_ad, nle_F, nle_T, nlt_F, nlt_T, neq_F, neq_T, or_self, or_false, false_or, true_or, or_true, and_self, and_false, false_and, true_and, and_true, not_true_eq_false, not_false_eq_true, ↓reduceIte, if_true, if_false, Nat.reduceAdd, ite_self, Bool.false_eq_true, h, q, o]
  · simp (disch := omega) only [↓li_m, oc_some, pl_eq, oe_i, oe_j, va_up_self, va_up_ne, va_up_up, upd_s, upd_n, updL_s, updL_n, nI_add, nI_1, nI_ltI, nI_leI, nI_eq, nI_clamp, li_n, m1_lt, m1_le, m1_gt, m1_ge, m1_ne, m1_en, m1_ad, nle_F, nle_T, nlt_F, nlt_T, neq_F, neq_T, or_self, or_false, false_or, true_or, or_true, and_self, and_false, false_and, true_and, and_true, not_true_eq_false, not_false_eq_true, ↓reduceIte, if_true, if_false, Nat.reduceAdd, ite_self, Bool.false_eq_true, h, q]
theorem mp_w {n k : Nat} (w : Int64) {I : MI} {J : MJ} (h : I 112 12 = nI n) (hn : n ≤ 2000) (h1 : 1 ≤ k) (h8 : k ≤ 8) : f_Model_put w (nI k) I J = some (if n + k ≤ 2000 then (1, va_up (va_up I 116 (wf (I 116) n w k)) 112 (upd (upd (I 112) 0 0) 12 (nI (n + k))), J) else (0, va_up I 112 (upd (I 112) 0 0), J)) := by
  unfold f_Model_put
  rw [pl_eq]
  by_cases q : n + k ≤ 2000
  · have e := mp35 w (nI k) w k gF n (va_up I 112 (upd (I 112) 0 (nI 0))) J h8 (gF_lt (by omega)) (by simp (disch := omega) only [↓li_m, oc_some, pl_eq, oe_i, oe_j, va_up_self, va_up_ne, va_up_up, upd_s, upd_n, updL_s, updL_n, nI_add, nI_1, nI_ltI, nI_leI, nI_eq, nI_clamp, li_n, m1_lt, m1_le, m1_gt, m1_ge, m1_ne, m1_en, m1_ad, nle_F, nle_T, nlt_F, nlt_T, neq_F, neq_T, or_self, or_false, false_or, true_or, or_true, and_self, and_false, false_and, true_and, and_true, not_true_eq_false, not_false_eq_true, ↓reduceIte, if_true, if_false, Nat.reduceAdd, ite_self, Bool.false_eq_true, h]) q
    rw [m1_ad h1] at e
    rw [show (0 : Int32) = nI 0 from rfl, show nI k - 1 = nI (k - 1) from nI_sb h1]
    simp (disch := omega) only [↓li_m, oc_some, pl_eq, oe_i, oe_j, va_up_self, va_up_ne, va_up_up, upd_s, upd_n, updL_s, updL_n, nI_add, nI_1, nI_ltI, nI_leI, nI_eq, nI_clamp, li_n, m1_lt, m1_le, m1_gt, m1_ge, m1_ne, m1_en, m1_ad, nle_F, nle_T, nlt_F, nlt_T, neq_F, neq_T, or_self, or_false, false_or, true_or, or_true, and_self, and_false, false_and, true_and, and_true, not_true_eq_false, not_false_eq_true, ↓reduceIte, if_true, if_false, Nat.reduceAdd, ite_self, Bool.false_eq_true, h, q, e, va_3 _ _ _ _ (show 112 ≠ 116 by decide)]
  · simp (disch := omega) only [↓li_m, oc_some, pl_eq, oe_i, oe_j, va_up_self, va_up_ne, va_up_up, upd_s, upd_n, updL_s, updL_n, nI_add, nI_1, nI_ltI, nI_leI, nI_eq, nI_clamp, li_n, m1_lt, m1_le, m1_gt, m1_ge, m1_ne, m1_en, m1_ad, nle_F, nle_T, nlt_F, nlt_T, neq_F, neq_T, or_self, or_false, false_or, true_or, or_true, and_self, and_false, false_and, true_and, and_true, not_true_eq_false, not_false_eq_true, ↓reduceIte, if_true, if_false, Nat.reduceAdd, ite_self, Bool.false_eq_true, h, q]
theorem R_wf {b b' n k : Nat} {w : Int64} {lo hi : Nat} {f g : Nat → Int32} (h : ∀ j, j < n → ∃ c, lo ≤ c ∧ c ≤ hi ∧ f j = nI c ∧ g j = nI c) (ho : okb w lo hi 0 k = true) : ∀ j, j < n + k → ∃ c, lo ≤ c ∧ c ≤ hi ∧ wf f n w k j = nI c ∧ wf g n w k j = nI c := by
  intro j hj
  unfold wf
  by_cases q : n ≤ j ∧ j < n + k
  · have := okb_get k 0 ho (k - 1 - (j - n)) (by omega) (by omega)
    exact ⟨_, this.1, this.2, by rw [if_pos q], by rw [if_pos q]⟩
  · obtain ⟨c, c1, c2, c3, c4⟩ := h j (by omega)
    exact ⟨c, c1, c2, by rw [if_neg q, c3], by rw [if_neg q, c4]⟩
theorem c_type (w : Int64) (p : Int32) (I I' : MI) (J J' : MJ) (h : R_tape I I') : ∃ v a b c d, f_Sh_type w p I J = some (v, va_up (va_up I 5 a) 4 b, J) ∧ f_Model_type w p I' J' = some (v, va_up (va_up I' 113 c) 112 d, J') ∧ (∀ k, k ≠ 0 → k ≠ 2 → d k = I' 112 k) ∧ R_tape (va_up (va_up I 5 a) 4 b) (va_up (va_up I' 113 c) 112 d) := by
  obtain ⟨n, hn, h1, h2, hc⟩ := h
  unfold f_Sh_type
  have no : ∀ {x : Nat → Int32}, x = upd (I' 112) 0 0 → (∀ k, k ≠ 0 → k ≠ 2 → x k = I' 112 k) ∧ R_tape I (va_up I' 112 x) := by
    intro x hx
    subst hx
    refine ⟨fun k k1 _ => upd_n _ _ k1, n, hn, h1, ?_, ?_⟩
    · simp (disch := omega) only [↓li_m, oc_some, pl_eq, oe_i, oe_j, va_up_self, va_up_ne, va_up_up, upd_s, upd_n, updL_s, updL_n, nI_add, nI_1, nI_ltI, nI_leI, nI_eq, nI_clamp, li_n, m1_lt, m1_le, m1_gt, m1_ge, m1_ne, m1_en, m1_ad, nle_F, nle_T, nlt_F, nlt_T, neq_F, neq_T, or_self, or_false, false_or, true_or, or_true, and_self, and_false, false_and, true_and, and_true, not_true_eq_false, not_false_eq_true, ↓reduceIte, if_true, if_false, Nat.reduceAdd, ite_self, Bool.false_eq_true, h2]
    · intro k hk
      obtain ⟨c, c1, c2, c3, c4⟩ := hc k hk
      refine ⟨c, c1, c2, c3, ?_⟩
      simp (disch := omega) only [↓li_m, oc_some, pl_eq, oe_i, oe_j, va_up_self, va_up_ne, va_up_up, upd_s, upd_n, updL_s, updL_n, nI_add, nI_1, nI_ltI, nI_leI, nI_eq, nI_clamp, li_n, m1_lt, m1_le, m1_gt, m1_ge, m1_ne, m1_en, m1_ad, nle_F, nle_T, nlt_F, nlt_T, neq_F, neq_T, or_self, or_false, false_or, true_or, or_true, and_self, and_false, false_and, true_and, and_true, not_true_eq_false, not_false_eq_true, ↓reduceIte, if_true, if_false, Nat.reduceAdd, ite_self, Bool.false_eq_true, c4]
  have nn : ∀ {v : Int32}, v = 0 → f_Row_addWord 4 5 400 w p 32 126 I J = some (v, I, J) → f_Model_type w p I' J' = some (v, va_up I' 112 (upd (I' 112) 0 0), J') → ∃ v a b c d, oc (f_Row_addWord 4 5 400 w p 32 126 I J) (fun v1 I1 J1 => if v1 = 0 ∨ v1 = 1 then some (v1, I1, J1) else none) = some (v, va_up (va_up I 5 a) 4 b, J) ∧ f_Model_type w p I' J' = some (v, va_up (va_up I' 113 c) 112 d, J') ∧ (∀ k, k ≠ 0 → k ≠ 2 → d k = I' 112 k) ∧ R_tape (va_up (va_up I 5 a) 4 b) (va_up (va_up I' 113 c) 112 d) := by
    intro v hv e1 e2
    refine ⟨v, I 5, I 4, I' 113, upd (I' 112) 0 0, ?_, ?_, (no rfl).1, ?_⟩
    · rw [e1, oc_some, va_up_id, va_up_id, if_pos (Or.inl hv)]
    · rw [e2, va_up_id]
    · rw [va_up_id, va_up_id, va_up_id]
      exact (no rfl).2
  rcases p_18 p with q | q | ⟨k, k1, k8, rfl⟩
  · exact nn rfl (w_wno w (Or.inl q)) (mt_no w (Or.inl q))
  · exact nn rfl (w_wno w (Or.inr q)) (mt_no w (Or.inr q))
  · have e1 := w_word (b := 5) (lo := 32) (hi := 126) w (J := J) h1 hn (by decide) (by decide) (by decide) (by decide) k1 k8
    have e2 := mt_w w (J := J') h2 hn k1 k8
    by_cases q : n + k ≤ 400 ∧ okb w 32 126 0 k = true
    · rw [if_pos q] at e1 e2
      refine ⟨1, wf (I 5) n w k, upd (I 4) 1 (nI (n + k)), wf (I' 113) n w k, upd (upd (I' 112) 0 0) 2 (nI (n + k)), ?_, e2, ?_, ?_⟩
      · rw [show (32 : Int32) = nI 32 from rfl, show (126 : Int32) = nI 126 from rfl, e1, oc_some, if_pos (Or.inr rfl)]
      · intro j j0 j2
        rw [upd_n _ _ j2, upd_n _ _ j0]
      · refine ⟨n + k, q.1, ?_, ?_, ?_⟩
        · simp (disch := omega) only [↓li_m, oc_some, pl_eq, oe_i, oe_j, va_up_self, va_up_ne, va_up_up, upd_s, upd_n, updL_s, updL_n, nI_add, nI_1, nI_ltI, nI_leI, nI_eq, nI_clamp, li_n, m1_lt, m1_le, m1_gt, m1_ge, m1_ne, m1_en, m1_ad, nle_F, nle_T, nlt_F, nlt_T, neq_F, neq_T, or_self, or_false, false_or, true_or, or_true, and_self, and_false, false_and, true_and, and_true, not_true_eq_false, not_false_eq_true, ↓reduceIte, if_true, if_false, Nat.reduceAdd, ite_self, Bool.false_eq_true]
        · simp (disch := omega) only [↓li_m, oc_some, pl_eq, oe_i, oe_j, va_up_self, va_up_ne, va_up_up, upd_s, upd_n, updL_s, updL_n, nI_add, nI_1, nI_ltI, nI_leI, nI_eq, nI_clamp, li_n, m1_lt, m1_le, m1_gt, m1_ge, m1_ne, m1_en, m1_ad, nle_F, nle_T, nlt_F, nlt_T, neq_F, neq_T, or_self, or_false, false_or, true_or, or_true, and_self, and_false, false_and, true_and, and_true, not_true_eq_false, not_false_eq_true, ↓reduceIte, if_true, if_false, Nat.reduceAdd, ite_self, Bool.false_eq_true]
        · simp (disch := omega) only [↓li_m, oc_some, pl_eq, oe_i, oe_j, va_up_self, va_up_ne, va_up_up, upd_s, upd_n, updL_s, updL_n, nI_add, nI_1, nI_ltI, nI_leI, nI_eq, nI_clamp, li_n, m1_lt, m1_le, m1_gt, m1_ge, m1_ne, m1_en, m1_ad, nle_F, nle_T, nlt_F, nlt_T, neq_F, neq_T, or_self, or_false, false_or, true_or, or_true, and_self, and_false, false_and, true_and, and_true, not_true_eq_false, not_false_eq_true, ↓reduceIte, if_true, if_false, Nat.reduceAdd, ite_self, Bool.false_eq_true]
          exact R_wf (b := 0) (b' := 0) hc q.2
    · rw [if_neg q] at e1 e2
      exact nn rfl e1 e2
theorem c_put (w : Int64) (p : Int32) (I I' : MI) (J J' : MJ) (h : R_put I I') : ∃ v a b c d, f_Sh_put w p I J = some (v, va_up (va_up I 2 a) 1 b, J) ∧ f_Model_put w p I' J' = some (v, va_up (va_up I' 116 c) 112 d, J') ∧ (∀ k, k ≠ 0 → k ≠ 12 → d k = I' 112 k) ∧ R_put (va_up (va_up I 2 a) 1 b) (va_up (va_up I' 116 c) 112 d) := by
  obtain ⟨n, hn, h1, h2, hc⟩ := h
  unfold f_Sh_put
  have no : ∀ {x : Nat → Int32}, x = upd (I' 112) 0 0 → (∀ k, k ≠ 0 → k ≠ 12 → x k = I' 112 k) ∧ R_put I (va_up I' 112 x) := by
    intro x hx
    subst hx
    refine ⟨fun k k1 _ => upd_n _ _ k1, n, hn, h1, ?_, ?_⟩
    · simp (disch := omega) only [↓li_m, oc_some, pl_eq, oe_i, oe_j, va_up_self, va_up_ne, va_up_up, upd_s, upd_n, updL_s, updL_n, nI_add, nI_1, nI_ltI, nI_leI, nI_eq, nI_clamp, li_n, m1_lt, m1_le, m1_gt, m1_ge, m1_ne, m1_en, m1_ad, nle_F, nle_T, nlt_F, nlt_T, neq_F, neq_T, or_self, or_false, false_or, true_or, or_true, and_self, and_false, false_and, true_and, and_true, not_true_eq_false, not_false_eq_true, ↓reduceIte, if_true, if_false, Nat.reduceAdd, ite_self, Bool.false_eq_true, h2]
    · intro k hk
      obtain ⟨c, c1, c3, c4⟩ := hc k hk
      refine ⟨c, c1, c3, ?_⟩
      simp (disch := omega) only [↓li_m, oc_some, pl_eq, oe_i, oe_j, va_up_self, va_up_ne, va_up_up, upd_s, upd_n, updL_s, updL_n, nI_add, nI_1, nI_ltI, nI_leI, nI_eq, nI_clamp, li_n, m1_lt, m1_le, m1_gt, m1_ge, m1_ne, m1_en, m1_ad, nle_F, nle_T, nlt_F, nlt_T, neq_F, neq_T, or_self, or_false, false_or, true_or, or_true, and_self, and_false, false_and, true_and, and_true, not_true_eq_false, not_false_eq_true, ↓reduceIte, if_true, if_false, Nat.reduceAdd, ite_self, Bool.false_eq_true, c4]
  have nn : ∀ {v : Int32}, v = 0 → f_Row_addWord 1 2 2000 w p 0 255 I J = some (v, I, J) → f_Model_put w p I' J' = some (v, va_up I' 112 (upd (I' 112) 0 0), J') → ∃ v a b c d, oc (f_Row_addWord 1 2 2000 w p 0 255 I J) (fun v1 I1 J1 => if v1 = 0 ∨ v1 = 1 then some (v1, I1, J1) else none) = some (v, va_up (va_up I 2 a) 1 b, J) ∧ f_Model_put w p I' J' = some (v, va_up (va_up I' 116 c) 112 d, J') ∧ (∀ k, k ≠ 0 → k ≠ 12 → d k = I' 112 k) ∧ R_put (va_up (va_up I 2 a) 1 b) (va_up (va_up I' 116 c) 112 d) := by
    intro v hv e1 e2
    refine ⟨v, I 2, I 1, I' 116, upd (I' 112) 0 0, ?_, ?_, (no rfl).1, ?_⟩
    · rw [e1, oc_some, va_up_id, va_up_id, if_pos (Or.inl hv)]
    · rw [e2, va_up_id]
    · rw [va_up_id, va_up_id, va_up_id]
      exact (no rfl).2
  rcases p_18 p with q | q | ⟨k, k1, k8, rfl⟩
  · exact nn rfl (w_wno w (Or.inl q)) (mp_no w (Or.inl q))
  · exact nn rfl (w_wno w (Or.inr q)) (mp_no w (Or.inr q))
  · have e1 := w_word (b := 2) (lo := 0) (hi := 255) w (J := J) h1 hn (by decide) (by decide) (by decide) (by decide) k1 k8
    have e2 := mp_w w (J := J') h2 hn k1 k8
    rw [okb_all] at e1
    by_cases q : n + k ≤ 2000
    · rw [if_pos ⟨q, rfl⟩] at e1
      rw [if_pos q] at e2
      refine ⟨1, wf (I 2) n w k, upd (I 1) 1 (nI (n + k)), wf (I' 116) n w k, upd (upd (I' 112) 0 0) 12 (nI (n + k)), ?_, e2, ?_, ?_⟩
      · rw [show (0 : Int32) = nI 0 from rfl, show (255 : Int32) = nI 255 from rfl, e1, oc_some, if_pos (Or.inr rfl)]
      · intro j j0 j2
        rw [upd_n _ _ j2, upd_n _ _ j0]
      · refine ⟨n + k, q, ?_, ?_, ?_⟩
        · simp (disch := omega) only [↓li_m, oc_some, pl_eq, oe_i, oe_j, va_up_self, va_up_ne, va_up_up, upd_s, upd_n, updL_s, updL_n, nI_add, nI_1, nI_ltI, nI_leI, nI_eq, nI_clamp, li_n, m1_lt, m1_le, m1_gt, m1_ge, m1_ne, m1_en, m1_ad, nle_F, nle_T, nlt_F, nlt_T, neq_F, neq_T, or_self, or_false, false_or, true_or, or_true, and_self, and_false, false_and, true_and, and_true, not_true_eq_false, not_false_eq_true, ↓reduceIte, if_true, if_false, Nat.reduceAdd, ite_self, Bool.false_eq_true]
        · simp (disch := omega) only [↓li_m, oc_some, pl_eq, oe_i, oe_j, va_up_self, va_up_ne, va_up_up, upd_s, upd_n, updL_s, updL_n, nI_add, nI_1, nI_ltI, nI_leI, nI_eq, nI_clamp, li_n, m1_lt, m1_le, m1_gt, m1_ge, m1_ne, m1_en, m1_ad, nle_F, nle_T, nlt_F, nlt_T, neq_F, neq_T, or_self, or_false, false_or, true_or, or_true, and_self, and_false, false_and, true_and, and_true, not_true_eq_false, not_false_eq_true, ↓reduceIte, if_true, if_false, Nat.reduceAdd, ite_self, Bool.false_eq_true]
        · simp (disch := omega) only [↓li_m, oc_some, pl_eq, oe_i, oe_j, va_up_self, va_up_ne, va_up_up, upd_s, upd_n, updL_s, updL_n, nI_add, nI_1, nI_ltI, nI_leI, nI_eq, nI_clamp, li_n, m1_lt, m1_le, m1_gt, m1_ge, m1_ne, m1_en, m1_ad, nle_F, nle_T, nlt_F, nlt_T, neq_F, neq_T, or_self, or_false, false_or, true_or, or_true, and_self, and_false, false_and, true_and, and_true, not_true_eq_false, not_false_eq_true, ↓reduceIte, if_true, if_false, Nat.reduceAdd, ite_self, Bool.false_eq_true]
          intro j hj
          obtain ⟨c, _, c2, c3, c4⟩ := R_wf (b := 0) (b' := 0) (lo := 0) (hi := 255) (f := I 2) (g := I' 116) (fun j hj => by
            obtain ⟨c, c1, c3, c4⟩ := hc j hj
            exact ⟨c, by omega, by omega, c3, c4⟩) (okb_all w k 0) j hj
          exact ⟨c, by omega, c3, c4⟩
    · rw [if_neg (fun c => q c.1)] at e1
      rw [if_neg q] at e2
      exact nn rfl e1 e2
