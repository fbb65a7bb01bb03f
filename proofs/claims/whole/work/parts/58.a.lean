/-! the run: numbers, and a party's memory in the class -/
def pA (x y : Nat) : Nat := (x + y) % pP
def pS (x y : Nat) : Nat := (x + pP - y) % pP
def pM (x y : Nat) : Nat := x * y % pP
theorem pP_pos : 0 < pP := by decide
theorem pA_lt (x y : Nat) : pA x y < pP := Nat.mod_lt _ pP_pos
theorem pS_lt (x y : Nat) : pS x y < pP := Nat.mod_lt _ pP_pos
theorem pM_lt (x y : Nat) : pM x y < pP := Nat.mod_lt _ pP_pos
theorem lx_p {n : Nat} (h : n < pP) : n < 2 ^ 63 := Nat.lt_trans h (by decide)
section OPS
variable {α : Type} {F : Int64 → MI → MJ → Option α} {I : MI} {J : MJ} {n m : Nat}
theorem o_qA (hn : n < pP) (hm : m < pP) : oc (f_Sh_plus (lN n) (lN m) I J) F = F (lN (pA n m)) I J := by rw [q_plus hn hm, oc_some]; rfl
theorem o_qS (hn : n < pP) (hm : m < pP) : oc (f_Sh_minus (lN n) (lN m) I J) F = F (lN (pS n m)) I J := by rw [q_minus hn hm, oc_some]; rfl
theorem o_qM (hn : n < pP) (hm : m < pP) : oc (f_Sh_times (lN n) (lN m) I J) F = F (lN (pM n m)) I J := by rw [q_times hn hm, oc_some]; rfl
theorem o_mA (hn : n < pP) (hm : m < pP) : oc (f_Model_plus (lN n) (lN m) I J) F = F (lN (pA n m)) I J := by
  rw [m_plus (by
    have : pP + pP < 2 ^ 63 := by decide
    exact Nat.lt_trans (Nat.add_lt_add hn hm) this), oc_some]
  rfl
theorem o_mS (hn : n < pP) (hm : m < pP) : oc (f_Model_minus (lN n) (lN m) I J) F = F (lN (pS n m)) I J := by rw [m_minus hn hm, oc_some]; rfl
theorem o_mM (hn : n < pP) (hm : m < pP) : oc (f_Model_times (lN n) (lN m) I J) F = F (lN (pM n m)) I J := by rw [m_times hn hm, oc_some]; rfl
end OPS
/-- a party's memory, in the class: pile of height h, variables (the reference's numbering), kept places -/
def CV (I : MI) (J : MJ) (w h : Nat) (sk va : Nat → Nat) (nk : Nat) (kp : Nat → Nat) : Prop := (I (19 + 21 * w) 5 = nI h ∧ h ≤ 64) ∧ (∀ i, i < h → sk i < pP ∧ J (23 + 21 * w) i = lN (sk i)) ∧ (∀ i, i < 154 → va i < pP) ∧ (∀ i, i < 13 → J (20 + 21 * w) i = lN (va i)) ∧ (∀ i, i < 13 → J (21 + 21 * w) i = lN (va (13 + i))) ∧ (∀ i, i < 128 → J (22 + 21 * w) i = lN (va (26 + i))) ∧ (I (19 + 21 * w) 6 = nI nk ∧ nk ≤ 16) ∧ (∀ i, i < nk → I (24 + 21 * w) i = nI (kp i))
/-- what the memory's methods leave -/
def FM (w : Nat) (I I1 : MI) (J J1 : MJ) : Prop := (∀ a, a ≠ 19 + 21 * w → a ≠ 24 + 21 * w → I1 a = I a) ∧ (∀ a, a ≠ 20 + 21 * w → a ≠ 21 + 21 * w → a ≠ 22 + 21 * w → a ≠ 23 + 21 * w → J1 a = J a)
theorem FM.tr {w : Nat} {I I1 I2 : MI} {J J1 J2 : MJ} (h : FM w I I1 J J1) (k : FM w I1 I2 J1 J2) : FM w I I2 J J2 := ⟨fun a a1 a2 => (k.1 a a1 a2).trans (h.1 a a1 a2), fun a a1 a2 a3 a4 => (k.2 a a1 a2 a3 a4).trans (h.2 a a1 a2 a3 a4)⟩
theorem FM.rfl {w : Nat} {I : MI} {J : MJ} : FM w I I J J := ⟨fun _ _ _ => Eq.refl _, fun _ _ _ _ _ => Eq.refl _⟩
section MEM
variable {I : MI} {J : MJ} {w h nk : Nat} {sk va kp : Nat → Nat}
theorem CV_fr {I1 : MI} {J1 : MJ} (hv : CV I J w h sk va nk kp) (e1 : I1 (19 + 21 * w) = I (19 + 21 * w)) (e2 : I1 (24 + 21 * w) = I (24 + 21 * w)) (e3 : J1 (20 + 21 * w) = J (20 + 21 * w)) (e4 : J1 (21 + 21 * w) = J (21 + 21 * w)) (e5 : J1 (22 + 21 * w) = J (22 + 21 * w)) (e6 : J1 (23 + 21 * w) = J (23 + 21 * w)) : CV I1 J1 w h sk va nk kp := by
  unfold CV
  rw [e1, e2, e3, e4, e5, e6]
  exact hv
theorem PSH {v : Nat} (hv : CV I J w h sk va nk kp) (hh : h < 64) (hp : v < pP) : ∃ I1 J1, (∀ {α : Type} {F : Unit → MI → MJ → Option α}, oc (f_Memory_push w (lN v) I J) F = F () I1 J1) ∧ CV I1 J1 w (h + 1) (apn sk h v) va nk kp ∧ FM w I I1 J J1 := by
  obtain ⟨⟨h1, h2⟩, h3, h4, h5, h6, h7, ⟨h8, h9⟩, h10⟩ := hv
  refine ⟨va_up I (19 + 21 * w) (upd (I (19 + 21 * w)) 5 (nI (h + 1))), va_up J (23 + 21 * w) (vp_updL (J (23 + 21 * w)) h (lN v)), ?_, ⟨⟨?_, hh⟩, fun i hi => ?_, h4, fun i hi => ?_, fun i hi => ?_, fun i hi => ?_, ⟨?_, h9⟩, fun i hi => ?_⟩, fun a a1 a2 => ?_, fun a a1 a2 a3 a4 => ?_⟩
  · intro α F
    unfold f_Memory_push
    have z : ¬ nI h < 0 := fun x => nI_in (show h < 64 by omega) (by decide) (Or.inl x)
    rw [h1, if_neg z, if_neg (nI_ge hh (by decide)), if_neg (nI_in (by omega) (by decide)), pl_eq, pl_eq, oc_some, nI_clamp (by omega), nI_1]
  · rw [va_up_self, upd_s]
  · rw [va_up_self]
    by_cases e : i = h
    · subst e
      rw [updL_s, apn_s]
      exact ⟨hp, rfl⟩
    · rw [updL_n _ _ e, apn_n _ _ e]
      exact h3 i (by omega)
  · rw [va_up_ne _ _ (by omega)]
    exact h5 i hi
  · rw [va_up_ne _ _ (by omega)]
    exact h6 i hi
  · rw [va_up_ne _ _ (by omega)]
    exact h7 i hi
  · rw [va_up_self, upd_n _ _ (by decide)]
    exact h8
  · rw [va_up_ne _ _ (by omega)]
    exact h10 i hi
  · rw [va_up_ne _ _ a1]
  · rw [va_up_ne _ _ a4]
theorem POP (hv : CV I J w h sk va nk kp) (hh : 1 ≤ h) : ∃ I1, (∀ {α : Type} {F : Int64 → MI → MJ → Option α}, oc (f_Memory_pop w I J) F = F (lN (sk (h - 1))) I1 J) ∧ CV I1 J w (h - 1) sk va nk kp ∧ FM w I I1 J J := by
  obtain ⟨⟨h1, h2⟩, h3, h4, h5, h6, h7, ⟨h8, h9⟩, h10⟩ := hv
  refine ⟨va_up I (19 + 21 * w) (upd (I (19 + 21 * w)) 5 (nI (h - 1))), ?_, ⟨⟨?_, by omega⟩, fun i hi => h3 i (by omega), h4, h5, h6, h7, ⟨?_, h9⟩, fun i hi => ?_⟩, fun a a1 a2 => ?_, fun a a1 a2 a3 a4 => rfl⟩
  · intro α F
    unfold f_Memory_pop
    have z : ¬ nI h ≤ 0 := nI_ge (a := 0) (by omega) (by omega)
    have e1 : nI h - 1 = nI (h - 1) := nI_sb (b := 1) hh
    rw [h1, if_neg z, if_pos (nI_le (by omega) (by decide)), pl_eq, va_up_self, upd_s, e1, if_neg (nI_in (by omega) (by decide)), oc_some, nI_clamp (by omega), (h3 (h - 1) (by omega)).2]
  · rw [va_up_self, upd_s]
  · rw [va_up_self, upd_n _ _ (by decide)]
    exact h8
  · rw [va_up_ne _ _ (by omega)]
    exact h10 i hi
  · rw [va_up_ne _ _ a1]
theorem CV_sk (hv : CV I J w h sk va nk kp) {i : Nat} (hi : i < h) : sk i < pP := (hv.2.1 i hi).1
theorem CV_va (hv : CV I J w h sk va nk kp) {i : Nat} (hi : i < 154) : va i < pP := hv.2.2.1 i hi
theorem rd_in {a m k : Nat} (hk : k < m) (hm : m < 2 ^ 31) {α : Type} {F : Int64 → MI → MJ → Option α} : oc (f_Sh_read a m (nI k) I J) F = F (J a k) I J := by
  unfold f_Sh_read
  rw [if_neg (fun x => nI_in hk hm (Or.inl x)), if_neg (nI_ge hk hm), if_neg (nI_in hk hm), oc_some, nI_clamp (by omega)]
theorem wr_in {a m k : Nat} {v : Int64} (hk : k < m) (hm : m < 2 ^ 31) {α : Type} {F : Unit → MI → MJ → Option α} : oc (f_Sh_write a m (nI k) v I J) F = F () I (va_up J a (vp_updL (J a) k v)) := by
  unfold f_Sh_write
  rw [if_neg (fun x => nI_in hk hm (Or.inl x)), if_neg (nI_ge hk hm), if_neg (nI_in hk hm), pl_eq, oc_some, nI_clamp (by omega)]
theorem RDC (hv : CV I J w h sk va nk kp) {k : Nat} (hk : k < 13) {α : Type} {F : Int64 → MI → MJ → Option α} : oc (f_Sh_read (20 + 21 * w) 13 (nI k) I J) F = F (lN (va k)) I J := by
  rw [rd_in hk (by decide), hv.2.2.2.1 k hk]
theorem RDS (hv : CV I J w h sk va nk kp) {k : Nat} (hk : k < 13) {α : Type} {F : Int64 → MI → MJ → Option α} : oc (f_Sh_read (21 + 21 * w) 13 (nI k) I J) F = F (lN (va (13 + k))) I J := by
  rw [rd_in hk (by decide), hv.2.2.2.2.1 k hk]
theorem WRC (hv : CV I J w h sk va nk kp) {k v : Nat} (hk : k < 13) (hp : v < pP) : ∃ J1, (∀ {α : Type} {F : Unit → MI → MJ → Option α}, oc (f_Sh_write (20 + 21 * w) 13 (nI k) (lN v) I J) F = F () I J1) ∧ CV I J1 w h sk (apn va k v) nk kp ∧ FM w I I J J1 := by
  obtain ⟨⟨h1, h2⟩, h3, h4, h5, h6, h7, ⟨h8, h9⟩, h10⟩ := hv
  refine ⟨_, fun {α F} => wr_in hk (by decide), ⟨⟨h1, h2⟩, fun i hi => ?_, fun i hi => ?_, fun i hi => ?_, fun i hi => ?_, fun i hi => ?_, ⟨h8, h9⟩, h10⟩, fun a a1 a2 => rfl, fun a a1 a2 a3 a4 => ?_⟩
  · rw [va_up_ne _ _ (by omega)]
    exact h3 i hi
  · by_cases e : i = k
    · subst e
      rw [apn_s]
      exact hp
    · rw [apn_n _ _ e]
      exact h4 i hi
  · rw [va_up_self]
    by_cases e : i = k
    · subst e
      rw [updL_s, apn_s]
    · rw [updL_n _ _ e, apn_n _ _ e]
      exact h5 i hi
  · rw [va_up_ne _ _ (by omega), apn_n _ _ (by omega)]
    exact h6 i hi
  · rw [va_up_ne _ _ (by omega), apn_n _ _ (by omega)]
    exact h7 i hi
  · rw [va_up_ne _ _ a1]
theorem WRS (hv : CV I J w h sk va nk kp) {k v : Nat} (hk : k < 13) (hp : v < pP) : ∃ J1, (∀ {α : Type} {F : Unit → MI → MJ → Option α}, oc (f_Sh_write (21 + 21 * w) 13 (nI k) (lN v) I J) F = F () I J1) ∧ CV I J1 w h sk (apn va (13 + k) v) nk kp ∧ FM w I I J J1 := by
  obtain ⟨⟨h1, h2⟩, h3, h4, h5, h6, h7, ⟨h8, h9⟩, h10⟩ := hv
  refine ⟨_, fun {α F} => wr_in hk (by decide), ⟨⟨h1, h2⟩, fun i hi => ?_, fun i hi => ?_, fun i hi => ?_, fun i hi => ?_, fun i hi => ?_, ⟨h8, h9⟩, h10⟩, fun a a1 a2 => rfl, fun a a1 a2 a3 a4 => ?_⟩
  · rw [va_up_ne _ _ (by omega)]
    exact h3 i hi
  · by_cases e : i = 13 + k
    · subst e
      rw [apn_s]
      exact hp
    · rw [apn_n _ _ e]
      exact h4 i hi
  · rw [va_up_ne _ _ (by omega), apn_n _ _ (by omega)]
    exact h5 i hi
  · rw [va_up_self]
    by_cases e : i = k
    · subst e
      rw [updL_s, apn_s]
    · rw [updL_n _ _ e, apn_n _ _ (by omega)]
      exact h6 i hi
  · rw [va_up_ne _ _ (by omega), apn_n _ _ (by omega)]
    exact h7 i hi
  · rw [va_up_ne _ _ a2]
theorem lN_i32 {k : Nat} (hk : k < 16) : Int64.toInt32 (lN k) = nI k := by
  have : ∀ k : Fin 16, Int64.toInt32 (lN k.val) = nI k.val := by decide +kernel
  exact this ⟨k, hk⟩
theorem nI_mul (a b : Nat) : nI a * nI b = nI (a * b) := (Int32.ofNat_mul a b).symm
theorem n16 (a k : Nat) : 16 * nI a + nI k = nI (16 * a + k) := by
  rw [show (16 : Int32) = nI 16 from rfl, nI_mul, nI_add]
theorem lc_lt {k m : Nat} (hk : k < 2 ^ 63) (hm : m < 2 ^ 63) : (lg_cmp (lN k) (lN m) < 0) ↔ k < m := by
  rw [lg_cmp_lt, lx_lt hk hm]
theorem lc_ge {k m : Nat} (hk : k < 2 ^ 63) (hm : m < 2 ^ 63) : (0 ≤ lg_cmp (lN k) (lN m)) ↔ m ≤ k := by
  rw [lg_cmp_ge, lx_le hm hk]
theorem lc_eq {k m : Nat} (hk : k < 2 ^ 63) (hm : m < 2 ^ 63) : (lg_cmp (lN k) (lN m) = 0) ↔ k = m := by
  rw [lg_cmp_eq, lx_eq hk hm]
theorem CEL (hv : CV I J w h sk va nk kp) {a k : Nat} (ha : a < 8) (hk : k < 16) {α : Type} {F : Int64 → MI → MJ → Option α} : oc (f_Memory_cell w (nI a) (lN k) I J) F = F (lN (va (26 + 16 * a + k))) I J := by
  unfold f_Memory_cell
  rw [if_neg (show ¬ lg_cmp (lN k) 0 < 0 from fun x => by have := (lc_lt (m := 0) (by omega) (by omega)).mp x; omega), if_neg (show ¬ 0 ≤ lg_cmp (lN k) 16 from fun x => by have := (lc_ge (m := 16) (by omega) (by omega)).mp x; omega), lN_i32 hk, n16, oc_oc, rd_in (by omega) (by decide), oc_some, hv.2.2.2.2.2.1 (16 * a + k) (by omega), show 26 + (16 * a + k) = 26 + 16 * a + k by omega]
theorem SCL (hv : CV I J w h sk va nk kp) {a k v : Nat} (ha : a < 8) (hk : k < 16) (hp : v < pP) : ∃ J1, (∀ {α : Type} {F : Unit → MI → MJ → Option α}, oc (f_Memory_setCell w (nI a) (lN k) (lN v) I J) F = F () I J1) ∧ CV I J1 w h sk (apn va (26 + 16 * a + k) v) nk kp ∧ FM w I I J J1 := by
  obtain ⟨⟨h1, h2⟩, h3, h4, h5, h6, h7, ⟨h8, h9⟩, h10⟩ := hv
  refine ⟨va_up J (22 + 21 * w) (vp_updL (J (22 + 21 * w)) (16 * a + k) (lN v)), ?_, ⟨⟨h1, h2⟩, fun i hi => ?_, fun i hi => ?_, fun i hi => ?_, fun i hi => ?_, fun i hi => ?_, ⟨h8, h9⟩, h10⟩, fun a a1 a2 => rfl, fun a a1 a2 a3 a4 => ?_⟩
  · intro α F
    unfold f_Memory_setCell
    rw [if_neg (show ¬ lg_cmp (lN k) 0 < 0 from fun x => by have := (lc_lt (m := 0) (by omega) (by omega)).mp x; omega), if_neg (show ¬ 0 ≤ lg_cmp (lN k) 16 from fun x => by have := (lc_ge (m := 16) (by omega) (by omega)).mp x; omega), lN_i32 hk, n16, oc_oc, wr_in (by omega) (by decide), oc_some]
  · rw [va_up_ne _ _ (by omega)]
    exact h3 i hi
  · by_cases e : i = 26 + 16 * a + k
    · subst e
      rw [apn_s]
      exact hp
    · rw [apn_n _ _ e]
      exact h4 i hi
  · rw [va_up_ne _ _ (by omega), apn_n _ _ (by omega)]
    exact h5 i hi
  · rw [va_up_ne _ _ (by omega), apn_n _ _ (by omega)]
    exact h6 i hi
  · rw [va_up_self]
    by_cases e : i = 16 * a + k
    · subst e
      rw [updL_s, show 26 + (16 * a + k) = 26 + 16 * a + k by omega, apn_s]
    · rw [updL_n _ _ e, apn_n _ _ (by omega)]
      exact h7 i hi
  · rw [va_up_ne _ _ a3]
theorem KEP (hv : CV I J w h sk va nk kp) {v : Nat} (hk : nk < 16) : ∃ I1, (∀ {α : Type} {F : Unit → MI → MJ → Option α}, oc (f_Memory_keep w (nI v) I J) F = F () I1 J) ∧ CV I1 J w h sk va (nk + 1) (apn kp nk v) ∧ FM w I I1 J J := by
  obtain ⟨⟨h1, h2⟩, h3, h4, h5, h6, h7, ⟨h8, h9⟩, h10⟩ := hv
  refine ⟨va_up (va_up I (24 + 21 * w) (upd (I (24 + 21 * w)) nk (nI v))) (19 + 21 * w) (upd (I (19 + 21 * w)) 6 (nI (nk + 1))), ?_, ⟨⟨?_, h2⟩, h3, h4, h5, h6, h7, ⟨?_, hk⟩, fun i hi => ?_⟩, fun a a1 a2 => ?_, fun a a1 a2 a3 a4 => rfl⟩
  · intro α F
    unfold f_Memory_keep
    rw [h8, if_neg (fun x => nI_in hk (by decide) (Or.inl x)), if_neg (nI_ge hk (by decide)), if_neg (nI_in hk (by decide)), pl_eq, pl_eq, oc_some, nI_clamp (by omega), va_up_ne _ _ (by omega), h8, nI_1]
  · rw [va_up_self, upd_n _ _ (by decide)]
    exact h1
  · rw [va_up_self, upd_s]
  · rw [va_up_ne _ _ (by omega), va_up_self]
    by_cases e : i = nk
    · subst e
      rw [upd_s, apn_s]
    · rw [upd_n _ _ e, apn_n _ _ e]
      exact h10 i (by omega)
  · rw [va_up_ne _ _ a1, va_up_ne _ _ a2]
theorem LKP (hv : CV I J w h sk va nk kp) (hk : 1 ≤ nk) : ∃ I1, (∀ {α : Type} {F : Int32 → MI → MJ → Option α}, oc (f_Memory_lastKept w I J) F = F (nI (kp (nk - 1))) I1 J) ∧ CV I1 J w h sk va (nk - 1) kp ∧ FM w I I1 J J := by
  obtain ⟨⟨h1, h2⟩, h3, h4, h5, h6, h7, ⟨h8, h9⟩, h10⟩ := hv
  refine ⟨va_up I (19 + 21 * w) (upd (I (19 + 21 * w)) 6 (nI (nk - 1))), ?_, ⟨⟨?_, h2⟩, h3, h4, h5, h6, h7, ⟨?_, by omega⟩, fun i hi => ?_⟩, fun a a1 a2 => ?_, fun a a1 a2 a3 a4 => rfl⟩
  · intro α F
    unfold f_Memory_lastKept
    have z : ¬ nI nk ≤ 0 := nI_ge (a := 0) (by omega) (by omega)
    have e1 : nI nk - 1 = nI (nk - 1) := nI_sb (b := 1) hk
    rw [h8, if_neg z, if_pos (nI_le (by omega) (by decide)), pl_eq, va_up_self, upd_s, e1, if_neg (nI_in (by omega) (by decide)), oc_some, nI_clamp (by omega), va_up_ne _ _ (by omega), h10 (nk - 1) (by omega)]
  · rw [va_up_self, upd_n _ _ (by decide)]
    exact h1
  · rw [va_up_self, upd_s]
  · rw [va_up_ne _ _ (by omega)]
    exact h10 i (by omega)
  · rw [va_up_ne _ _ a1]
theorem FTP (hv : CV I J w h sk va nk kp) {n : Nat} (hn : n ≤ h) (h1 : 1 ≤ n) {α : Type} {F : Int64 → MI → MJ → Option α} : oc (f_Memory_fromTop w (nI n) I J) F = F (lN (sk (h - n))) I J := by
  unfold f_Memory_fromTop
  rw [hv.1.1, nI_sb hn, oc_oc, rd_in (by have := hv.1.2; omega) (by decide), oc_some, (hv.2.1 (h - n) (by omega)).2]
end MEM
