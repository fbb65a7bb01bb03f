/-! load: the pile, one operation, reference -/
def enc (sf : Nat → Bool) : Nat → Nat
  | 0 => 0
  | h + 1 => 2 * enc sf h + (if sf h = true then 1 else 0)
theorem enc_ext {f g : Nat → Bool} : ∀ h, (∀ i, i < h → f i = g i) → enc f h = enc g h := by
  intro h
  induction h with
  | zero => intro _; rfl
  | succ h ih =>
    intro H
    rw [enc, enc, ih (fun i hi => H i (by omega)), H h (by omega)]
theorem enc_lt (f : Nat → Bool) : ∀ h, enc f h < 2 ^ h := by
  intro h
  induction h with
  | zero => exact Nat.one_pos
  | succ h ih =>
    rw [enc, Nat.pow_succ]
    by_cases q : f h = true
    · rw [if_pos q]
      omega
    · rw [if_neg q]
      omega
theorem enc_64 {f : Nat → Bool} {h : Nat} (hh : h ≤ 64) : enc f h < 2 ^ 64 := Nat.lt_of_lt_of_le (enc_lt f h) (Nat.pow_le_pow_right (by decide) hh)
def rpM (I : MI) (J : MJ) (h : Nat) (sf : Nat → Bool) : Prop := I 112 84 = nI h ∧ h ≤ 64 ∧ J 112 83 = lN (enc sf h)
def frM (I I1 : MI) (J J1 : MJ) : Prop := (∀ a, a ≠ 112 → I1 a = I a) ∧ (∀ j, j ≠ 84 → I1 112 j = I 112 j) ∧ (∀ a, a ≠ 112 → J1 a = J a) ∧ (∀ j, j ≠ 83 → J1 112 j = J 112 j)
theorem frM_rfl (I : MI) (J : MJ) : frM I I J J := ⟨fun _ _ => rfl, fun _ _ => rfl, fun _ _ => rfl, fun _ _ => rfl⟩
theorem frM.tr {I I1 I2 : MI} {J J1 J2 : MJ} (h : frM I I1 J J1) (k : frM I1 I2 J1 J2) : frM I I2 J J2 := ⟨fun a ha => (k.1 a ha).trans (h.1 a ha), fun a ha => (k.2.1 a ha).trans (h.2.1 a ha), fun a ha => (k.2.2.1 a ha).trans (h.2.2.1 a ha), fun a ha => (k.2.2.2 a ha).trans (h.2.2.2 a ha)⟩
theorem frM_up (I : MI) (J : MJ) (x : Int32) (y : Int64) : frM I (va_up I 112 (upd (I 112) 84 x)) J (va_up J 112 (vp_updL (J 112) 83 y)) := by
  refine ⟨fun a ha => va_up_ne _ _ ha, fun j hj => ?_, fun a ha => va_up_ne _ _ ha, fun j hj => ?_⟩
  · simp (disch := omega) only [a11, a01, ↓li_m, ↓oc_some, ↓oc_ite, ↓oc_oc, ↓oc_pl, ↓oc_none, ↓oc_oe, ↓pl_eq, ↓oe_i, ↓oe_j, va_up_self, va_up_ne, va_up_up, upd_s, upd_n, updL_s, updL_n, nI_add, nI_1, nI_ltI, nI_leI, nI_eq, nI_clamp, li_n, m1_lt, m1_le, m1_gt, m1_ge, m1_ne, m1_en, m1_ad, nle_F, nle_T, nlt_F, nlt_T, neq_F, neq_T, or_self, or_false, false_or, true_or, or_true, and_self, and_false, false_and, true_and, and_true, not_true_eq_false, not_false_eq_true, ↓reduceIte, if_true, if_false, Nat.reduceAdd, ite_self, Bool.false_eq_true]
  · simp (disch := omega) only [a11, a01, ↓li_m, ↓oc_some, ↓oc_ite, ↓oc_oc, ↓oc_pl, ↓oc_none, ↓oc_oe, ↓pl_eq, ↓oe_i, ↓oe_j, va_up_self, va_up_ne, va_up_up, upd_s, upd_n, updL_s, updL_n, nI_add, nI_1, nI_ltI, nI_leI, nI_eq, nI_clamp, li_n, m1_lt, m1_le, m1_gt, m1_ge, m1_ne, m1_en, m1_ad, nle_F, nle_T, nlt_F, nlt_T, neq_F, neq_T, or_self, or_false, false_or, true_or, or_true, and_self, and_false, false_and, true_and, and_true, not_true_eq_false, not_false_eq_true, ↓reduceIte, if_true, if_false, Nat.reduceAdd, ite_self, Bool.false_eq_true]
theorem gvM {I : MI} {J : MJ} {h : Nat} {sf : Nat → Bool} (b : Bool) (H : rpM I J h sf) : ∃ I1 J1, (∀ {p : Int32} {α : Type} {F : Int32 → MI → MJ → Option α}, p = bI b → oc (f_Model_gives p I J) F = F (if h < 64 then nI 1 else nI 0) I1 J1) ∧ frM I I1 J J1 ∧ (h < 64 → rpM I1 J1 (h + 1) (bup sf h b)) := by
  obtain ⟨h1, h2, h3⟩ := H
  have he := enc_64 (f := sf) h2
  have hs : (lN (enc sf h) <<< (Int32.toInt64 1 &&& 63)) ||| (if b = true then 1 else 0) = lN (2 * enc sf h + (if b = true then 1 else 0)) := by
    rw [show lN (enc sf h) <<< (Int32.toInt64 1 &&& 63) = lN (enc sf h * 2 ^ 1) from lx_shl (k := 1) (by decide)]
    cases b with
    | true =>
      rw [if_pos rfl, if_pos rfl, show (1 : Int64) = lN 1 from rfl, lx_or]
      congr 1
      rw [Nat.mul_comm, ← Nat.two_pow_add_eq_or_of_lt (show 1 < 2 ^ 1 by omega)]
    | false =>
      rw [if_neg (by decide), if_neg (by decide), show (0 : Int64) = lN 0 from rfl, lx_or]
      congr 1
      rw [Nat.or_zero]
      omega
  refine ⟨va_up I 112 (upd (I 112) 84 (nI (h + 1))), va_up J 112 (vp_updL (J 112) 83 (lN (2 * enc sf h + (if b = true then 1 else 0)))), ?_, frM_up _ _ _ _, ?_⟩
  · intro p α F hp
    subst hp
    unfold f_Model_gives
    rw [h3]
    cases b with
    | true =>
      rw [if_pos (show (true : Bool) = true from rfl), if_pos (show (true : Bool) = true from rfl)] at hs
      rw [bI_t, if_pos (show (true : Bool) = true from rfl), pl_eq, if_neg (show ¬ nI 1 = 0 from n10), pl_eq, pl_eq, hs, h1, nI_1]
      by_cases q : h < 64
      · simp (disch := omega) only [a11, a01, ↓li_m, ↓oc_some, ↓oc_ite, ↓oc_oc, ↓oc_pl, ↓oc_none, ↓oc_oe, ↓pl_eq, ↓oe_i, ↓oe_j, va_up_self, va_up_ne, va_up_up, upd_s, upd_n, updL_s, updL_n, nI_add, nI_1, nI_ltI, nI_leI, nI_eq, nI_clamp, li_n, m1_lt, m1_le, m1_gt, m1_ge, m1_ne, m1_en, m1_ad, nle_F, nle_T, nlt_F, nlt_T, neq_F, neq_T, or_self, or_false, false_or, true_or, or_true, and_self, and_false, false_and, true_and, and_true, not_true_eq_false, not_false_eq_true, ↓reduceIte, if_true, if_false, Nat.reduceAdd, ite_self, Bool.false_eq_true, q]
      · simp (disch := omega) only [a11, a01, ↓li_m, ↓oc_some, ↓oc_ite, ↓oc_oc, ↓oc_pl, ↓oc_none, ↓oc_oe, ↓pl_eq, ↓oe_i, ↓oe_j, va_up_self, va_up_ne, va_up_up, upd_s, upd_n, updL_s, updL_n, nI_add, nI_1, nI_ltI, nI_leI, nI_eq, nI_clamp, li_n, m1_lt, m1_le, m1_gt, m1_ge, m1_ne, m1_en, m1_ad, nle_F, nle_T, nlt_F, nlt_T, neq_F, neq_T, or_self, or_false, false_or, true_or, or_true, and_self, and_false, false_and, true_and, and_true, not_true_eq_false, not_false_eq_true, ↓reduceIte, if_true, if_false, Nat.reduceAdd, ite_self, Bool.false_eq_true, q]
    | false =>
      rw [if_neg (show ¬ (false : Bool) = true by decide), if_neg (show ¬ (false : Bool) = true by decide)] at hs
      rw [bI_f, if_neg (show ¬ (false : Bool) = true by decide), pl_eq, if_pos (show nI 0 = 0 from rfl), pl_eq, pl_eq, hs, h1, nI_1]
      by_cases q : h < 64
      · simp (disch := omega) only [a11, a01, ↓li_m, ↓oc_some, ↓oc_ite, ↓oc_oc, ↓oc_pl, ↓oc_none, ↓oc_oe, ↓pl_eq, ↓oe_i, ↓oe_j, va_up_self, va_up_ne, va_up_up, upd_s, upd_n, updL_s, updL_n, nI_add, nI_1, nI_ltI, nI_leI, nI_eq, nI_clamp, li_n, m1_lt, m1_le, m1_gt, m1_ge, m1_ne, m1_en, m1_ad, nle_F, nle_T, nlt_F, nlt_T, neq_F, neq_T, or_self, or_false, false_or, true_or, or_true, and_self, and_false, false_and, true_and, and_true, not_true_eq_false, not_false_eq_true, ↓reduceIte, if_true, if_false, Nat.reduceAdd, ite_self, Bool.false_eq_true, q]
      · simp (disch := omega) only [a11, a01, ↓li_m, ↓oc_some, ↓oc_ite, ↓oc_oc, ↓oc_pl, ↓oc_none, ↓oc_oe, ↓pl_eq, ↓oe_i, ↓oe_j, va_up_self, va_up_ne, va_up_up, upd_s, upd_n, updL_s, updL_n, nI_add, nI_1, nI_ltI, nI_leI, nI_eq, nI_clamp, li_n, m1_lt, m1_le, m1_gt, m1_ge, m1_ne, m1_en, m1_ad, nle_F, nle_T, nlt_F, nlt_T, neq_F, neq_T, or_self, or_false, false_or, true_or, or_true, and_self, and_false, false_and, true_and, and_true, not_true_eq_false, not_false_eq_true, ↓reduceIte, if_true, if_false, Nat.reduceAdd, ite_self, Bool.false_eq_true, q]
  · intro q
    refine ⟨?_, by omega, ?_⟩
    · simp (disch := omega) only [a11, a01, ↓li_m, ↓oc_some, ↓oc_ite, ↓oc_oc, ↓oc_pl, ↓oc_none, ↓oc_oe, ↓pl_eq, ↓oe_i, ↓oe_j, va_up_self, va_up_ne, va_up_up, upd_s, upd_n, updL_s, updL_n, nI_add, nI_1, nI_ltI, nI_leI, nI_eq, nI_clamp, li_n, m1_lt, m1_le, m1_gt, m1_ge, m1_ne, m1_en, m1_ad, nle_F, nle_T, nlt_F, nlt_T, neq_F, neq_T, or_self, or_false, false_or, true_or, or_true, and_self, and_false, false_and, true_and, and_true, not_true_eq_false, not_false_eq_true, ↓reduceIte, if_true, if_false, Nat.reduceAdd, ite_self, Bool.false_eq_true]
    · simp (disch := omega) only [a11, a01, ↓li_m, ↓oc_some, ↓oc_ite, ↓oc_oc, ↓oc_pl, ↓oc_none, ↓oc_oe, ↓pl_eq, ↓oe_i, ↓oe_j, va_up_self, va_up_ne, va_up_up, upd_s, upd_n, updL_s, updL_n, nI_add, nI_1, nI_ltI, nI_leI, nI_eq, nI_clamp, li_n, m1_lt, m1_le, m1_gt, m1_ge, m1_ne, m1_en, m1_ad, nle_F, nle_T, nlt_F, nlt_T, neq_F, neq_T, or_self, or_false, false_or, true_or, or_true, and_self, and_false, false_and, true_and, and_true, not_true_eq_false, not_false_eq_true, ↓reduceIte, if_true, if_false, Nat.reduceAdd, ite_self, Bool.false_eq_true]
      rw [enc, bup_s, enc_ext (f := bup sf h b) (g := sf) h (fun i hi => bup_n _ _ (by omega))]
theorem drM {I : MI} {J : MJ} {h : Nat} {sf : Nat → Bool} (H : rpM I J h sf) (q : 1 ≤ h) : ∃ I1 J1, (∀ {α : Type} {F : Int32 → MI → MJ → Option α}, oc (f_Model_drops I J) F = F (bI (sf (h - 1))) I1 J1) ∧ frM I I1 J J1 ∧ rpM I1 J1 (h - 1) sf := by
  obtain ⟨h1, h2, h3⟩ := H
  have he := enc_64 (f := sf) h2
  obtain ⟨g, rfl⟩ : ∃ g, h = g + 1 := ⟨h - 1, by omega⟩
  rw [Nat.add_sub_cancel]
  refine ⟨va_up I 112 (upd (I 112) 84 (nI g)), va_up J 112 (vp_updL (J 112) 83 (lN (enc sf g))), ?_, frM_up _ _ _ _, ?_⟩
  · intro α F
    unfold f_Model_drops
    have e1 : (Int64.toUInt64 (J 112 83) >>> (Int64.toUInt64 (Int32.toInt64 1) &&& Int64.toUInt64 63)).toInt64 = lN (enc sf g) := by
      rw [h3, show (1 : Int32) = nI 1 from rfl, lx_ush he (by decide), enc]
      congr 1
      by_cases t : sf g = true
      · rw [if_pos t]
        omega
      · rw [if_neg t]
        omega
    have e2 : (J 112 83) &&& 1 = lN (if sf g = true then 1 else 0) := by
      rw [h3, show (1 : Int64) = lN (2 ^ 1 - 1) from rfl, lx_mask, enc]
      congr 1
      by_cases t : sf g = true
      · rw [if_pos t]
        omega
      · rw [if_neg t]
        omega
    rw [e1, e2, h1]
    have e3 : nI (g + 1) - 1 = nI g := nI_pred g
    rw [e3]
    cases t : sf g with
    | true =>
      rw [if_pos (show (true : Bool) = true from rfl), if_neg (show ¬ ¬ lg_cmp (lN 1) 1 = 0 from fun c => c ((lg_cmp_eq _ _).mpr rfl))]
      simp (disch := omega) only [a11, a01, ↓li_m, ↓oc_some, ↓oc_ite, ↓oc_oc, ↓oc_pl, ↓oc_none, ↓oc_oe, ↓pl_eq, ↓oe_i, ↓oe_j, va_up_self, va_up_ne, va_up_up, upd_s, upd_n, updL_s, updL_n, nI_add, nI_1, nI_ltI, nI_leI, nI_eq, nI_clamp, li_n, m1_lt, m1_le, m1_gt, m1_ge, m1_ne, m1_en, m1_ad, nle_F, nle_T, nlt_F, nlt_T, neq_F, neq_T, or_self, or_false, false_or, true_or, or_true, and_self, and_false, false_and, true_and, and_true, not_true_eq_false, not_false_eq_true, ↓reduceIte, if_true, if_false, Nat.reduceAdd, ite_self, Bool.false_eq_true, bI_t]
    | false =>
      rw [if_neg (show ¬ (false : Bool) = true by decide), if_pos (show ¬ lg_cmp (lN 0) 1 = 0 from fun c => absurd ((lg_cmp_eq _ _).mp c) (by decide))]
      simp (disch := omega) only [a11, a01, ↓li_m, ↓oc_some, ↓oc_ite, ↓oc_oc, ↓oc_pl, ↓oc_none, ↓oc_oe, ↓pl_eq, ↓oe_i, ↓oe_j, va_up_self, va_up_ne, va_up_up, upd_s, upd_n, updL_s, updL_n, nI_add, nI_1, nI_ltI, nI_leI, nI_eq, nI_clamp, li_n, m1_lt, m1_le, m1_gt, m1_ge, m1_ne, m1_en, m1_ad, nle_F, nle_T, nlt_F, nlt_T, neq_F, neq_T, or_self, or_false, false_or, true_or, or_true, and_self, and_false, false_and, true_and, and_true, not_true_eq_false, not_false_eq_true, ↓reduceIte, if_true, if_false, Nat.reduceAdd, ite_self, Bool.false_eq_true, bI_f]
  · refine ⟨?_, by omega, ?_⟩
    · simp (disch := omega) only [a11, a01, ↓li_m, ↓oc_some, ↓oc_ite, ↓oc_oc, ↓oc_pl, ↓oc_none, ↓oc_oe, ↓pl_eq, ↓oe_i, ↓oe_j, va_up_self, va_up_ne, va_up_up, upd_s, upd_n, updL_s, updL_n, nI_add, nI_1, nI_ltI, nI_leI, nI_eq, nI_clamp, li_n, m1_lt, m1_le, m1_gt, m1_ge, m1_ne, m1_en, m1_ad, nle_F, nle_T, nlt_F, nlt_T, neq_F, neq_T, or_self, or_false, false_or, true_or, or_true, and_self, and_false, false_and, true_and, and_true, not_true_eq_false, not_false_eq_true, ↓reduceIte, if_true, if_false, Nat.reduceAdd, ite_self, Bool.false_eq_true]
    · simp (disch := omega) only [a11, a01, ↓li_m, ↓oc_some, ↓oc_ite, ↓oc_oc, ↓oc_pl, ↓oc_none, ↓oc_oe, ↓pl_eq, ↓oe_i, ↓oe_j, va_up_self, va_up_ne, va_up_up, upd_s, upd_n, updL_s, updL_n, nI_add, nI_1, nI_ltI, nI_leI, nI_eq, nI_clamp, li_n, m1_lt, m1_le, m1_gt, m1_ge, m1_ne, m1_en, m1_ad, nle_F, nle_T, nlt_F, nlt_T, neq_F, neq_T, or_self, or_false, false_or, true_or, or_true, and_self, and_false, false_and, true_and, and_true, not_true_eq_false, not_false_eq_true, ↓reduceIte, if_true, if_false, Nat.reduceAdd, ite_self, Bool.false_eq_true]
def stM (I : MI) (J : MJ) (o : Option (Nat × (Nat → Bool))) (r : M2 Int32) : Prop := ∃ v I1 J1, r = some (v, I1, J1) ∧ frM I I1 J J1 ∧ match o with
  | some x => v = nI 1 ∧ rpM I1 J1 x.1 x.2
  | none => v = nI 0
theorem stM_y {I I1 : MI} {J J1 : MJ} {h : Nat} {sf : Nat → Bool} (hf : frM I I1 J J1) (H : rpM I1 J1 h sf) : stM I J (some (h, sf)) (some (nI 1, I1, J1)) := ⟨_, _, _, rfl, hf, rfl, H⟩
theorem stM_no {I I1 : MI} {J J1 : MJ} (hf : frM I I1 J J1) : stM I J none (some (nI 0, I1, J1)) := ⟨_, _, _, rfl, hf, rfl⟩
theorem rpM_ext {I : MI} {J : MJ} {h : Nat} {f g : Nat → Bool} (H : rpM I J h f) (e : ∀ i, i < h → f i = g i) : rpM I J h g := ⟨H.1, H.2.1, by rw [H.2.2, enc_ext h e]⟩
theorem stM_ps {I I1 : MI} {J J1 : MJ} {h : Nat} {b : Bool} {sf : Nat → Bool} (hf : frM I I1 J J1) (q : h < 64) (H : h < 64 → rpM I1 J1 (h + 1) (bup sf h b)) : stM I J (psh b h sf) (some (nI 1, I1, J1)) := by
  unfold psh
  rw [if_pos q]
  exact stM_y hf (H q)
theorem rpM_back {I : MI} {J : MJ} {h : Nat} {b : Bool} {sf : Nat → Bool} (q : 1 ≤ h) (hb : sf (h - 1) = b) (H : rpM I J (h - 1 + 1) (bup sf (h - 1) b)) : rpM I J h sf := by
  rw [show h - 1 + 1 = h by omega] at H
  refine rpM_ext H (fun i hi => ?_)
  by_cases e : i = h - 1
  · rw [e, bup_s, hb]
  · exact bup_n _ _ e
theorem fM {n k h : Nat} {cd : Nat → Nat} {sf : Nat → Bool} {I : MI} {J : MJ} (hr : rowM I n cd) (H : rpM I J h sf) (ho : cd k ≤ 29) (hk : k + opl (cd k) ≤ n) (hz : (cd k = 0 ∨ cd k = 17 ∨ cd k = 18 ∨ cd k = 28 ∨ cd k = 29) → h = 0) : stM I J (fl (cd k) (cd (k + 1)) (cd (k + 2)) (cd (k + 3)) h sf) (f_Model_flows (nI k) I J) := by
  have hl := opl_1 ho
  have H1 := H.1
  have H2 := H.2.1
  have hn := hr.2.1
  have e0 := (hr.2.2 k (by omega)).2
  have hrf := frM_rfl I J
  unfold f_Model_flows fl
  rcases c30 ho with hc | hc | hc | hc | hc | hc | hc | hc | hc | hc | hc | hc | hc | hc | hc | hc | hc | hc | hc | hc | hc | hc | hc | hc | hc | hc | hc | hc | hc | hc

  · have q : h = 0 := hz (by omega)
    subst q
    simp (disch := omega) only [a11, a01, ↓li_m, ↓oc_some, ↓oc_ite, ↓oc_oc, ↓oc_pl, ↓oc_none, ↓oc_oe, ↓pl_eq, ↓oe_i, ↓oe_j, va_up_self, va_up_ne, va_up_up, upd_s, upd_n, updL_s, updL_n, nI_add, nI_1, nI_ltI, nI_leI, nI_eq, nI_clamp, li_n, m1_lt, m1_le, m1_gt, m1_ge, m1_ne, m1_en, m1_ad, nle_F, nle_T, nlt_F, nlt_T, neq_F, neq_T, or_self, or_false, false_or, true_or, or_true, and_self, and_false, false_and, true_and, and_true, not_true_eq_false, not_false_eq_true, ↓reduceIte, if_true, if_false, Nat.reduceAdd, ite_self, Bool.false_eq_true, e0, hc, H1]
    exact stM_y hrf H
  · obtain ⟨I1, J1, g1, g2, g3⟩ := gvM false H
    have e1 : ∀ {F : Int32 → MI → MJ → Option (Int32 × MI × MJ)}, oc (f_Model_gives 0 I J) F = _ := fun {F} => g1 rfl
    by_cases q : h < 64
    · simp (disch := omega) only [a11, a01, ↓li_m, ↓oc_some, ↓oc_ite, ↓oc_oc, ↓oc_pl, ↓oc_none, ↓oc_oe, ↓pl_eq, ↓oe_i, ↓oe_j, va_up_self, va_up_ne, va_up_up, upd_s, upd_n, updL_s, updL_n, nI_add, nI_1, nI_ltI, nI_leI, nI_eq, nI_clamp, li_n, m1_lt, m1_le, m1_gt, m1_ge, m1_ne, m1_en, m1_ad, nle_F, nle_T, nlt_F, nlt_T, neq_F, neq_T, or_self, or_false, false_or, true_or, or_true, and_self, and_false, false_and, true_and, and_true, not_true_eq_false, not_false_eq_true, ↓reduceIte, if_true, if_false, Nat.reduceAdd, ite_self, Bool.false_eq_true, e0, hc, H1, ↓e1, q, n10e]
      exact stM_ps g2 q g3
    · simp (disch := omega) only [a11, a01, ↓li_m, ↓oc_some, ↓oc_ite, ↓oc_oc, ↓oc_pl, ↓oc_none, ↓oc_oe, ↓pl_eq, ↓oe_i, ↓oe_j, va_up_self, va_up_ne, va_up_up, upd_s, upd_n, updL_s, updL_n, nI_add, nI_1, nI_ltI, nI_leI, nI_eq, nI_clamp, li_n, m1_lt, m1_le, m1_gt, m1_ge, m1_ne, m1_en, m1_ad, nle_F, nle_T, nlt_F, nlt_T, neq_F, neq_T, or_self, or_false, false_or, true_or, or_true, and_self, and_false, false_and, true_and, and_true, not_true_eq_false, not_false_eq_true, ↓reduceIte, if_true, if_false, Nat.reduceAdd, ite_self, Bool.false_eq_true, e0, hc, H1, ↓e1, q, n10e, psh]
      exact stM_no g2
  · obtain ⟨I1, J1, g1, g2, g3⟩ := gvM false H
    have e1 : ∀ {F : Int32 → MI → MJ → Option (Int32 × MI × MJ)}, oc (f_Model_gives 0 I J) F = _ := fun {F} => g1 rfl
    by_cases q : h < 64
    · simp (disch := omega) only [a11, a01, ↓li_m, ↓oc_some, ↓oc_ite, ↓oc_oc, ↓oc_pl, ↓oc_none, ↓oc_oe, ↓pl_eq, ↓oe_i, ↓oe_j, va_up_self, va_up_ne, va_up_up, upd_s, upd_n, updL_s, updL_n, nI_add, nI_1, nI_ltI, nI_leI, nI_eq, nI_clamp, li_n, m1_lt, m1_le, m1_gt, m1_ge, m1_ne, m1_en, m1_ad, nle_F, nle_T, nlt_F, nlt_T, neq_F, neq_T, or_self, or_false, false_or, true_or, or_true, and_self, and_false, false_and, true_and, and_true, not_true_eq_false, not_false_eq_true, ↓reduceIte, if_true, if_false, Nat.reduceAdd, ite_self, Bool.false_eq_true, e0, hc, H1, ↓e1, q, n10e]
      exact stM_ps g2 q g3
    · simp (disch := omega) only [a11, a01, ↓li_m, ↓oc_some, ↓oc_ite, ↓oc_oc, ↓oc_pl, ↓oc_none, ↓oc_oe, ↓pl_eq, ↓oe_i, ↓oe_j, va_up_self, va_up_ne, va_up_up, upd_s, upd_n, updL_s, updL_n, nI_add, nI_1, nI_ltI, nI_leI, nI_eq, nI_clamp, li_n, m1_lt, m1_le, m1_gt, m1_ge, m1_ne, m1_en, m1_ad, nle_F, nle_T, nlt_F, nlt_T, neq_F, neq_T, or_self, or_false, false_or, true_or, or_true, and_self, and_false, false_and, true_and, and_true, not_true_eq_false, not_false_eq_true, ↓reduceIte, if_true, if_false, Nat.reduceAdd, ite_self, Bool.false_eq_true, e0, hc, H1, ↓e1, q, n10e, psh]
      exact stM_no g2
  · obtain ⟨I1, J1, g1, g2, g3⟩ := gvM true H
    have e1 : ∀ {F : Int32 → MI → MJ → Option (Int32 × MI × MJ)}, oc (f_Model_gives 1 I J) F = _ := fun {F} => g1 rfl
    by_cases q : h < 64
    · simp (disch := omega) only [a11, a01, ↓li_m, ↓oc_some, ↓oc_ite, ↓oc_oc, ↓oc_pl, ↓oc_none, ↓oc_oe, ↓pl_eq, ↓oe_i, ↓oe_j, va_up_self, va_up_ne, va_up_up, upd_s, upd_n, updL_s, updL_n, nI_add, nI_1, nI_ltI, nI_leI, nI_eq, nI_clamp, li_n, m1_lt, m1_le, m1_gt, m1_ge, m1_ne, m1_en, m1_ad, nle_F, nle_T, nlt_F, nlt_T, neq_F, neq_T, or_self, or_false, false_or, true_or, or_true, and_self, and_false, false_and, true_and, and_true, not_true_eq_false, not_false_eq_true, ↓reduceIte, if_true, if_false, Nat.reduceAdd, ite_self, Bool.false_eq_true, e0, hc, H1, ↓e1, q, n10e]
      exact stM_ps g2 q g3
    · simp (disch := omega) only [a11, a01, ↓li_m, ↓oc_some, ↓oc_ite, ↓oc_oc, ↓oc_pl, ↓oc_none, ↓oc_oe, ↓pl_eq, ↓oe_i, ↓oe_j, va_up_self, va_up_ne, va_up_up, upd_s, upd_n, updL_s, updL_n, nI_add, nI_1, nI_ltI, nI_leI, nI_eq, nI_clamp, li_n, m1_lt, m1_le, m1_gt, m1_ge, m1_ne, m1_en, m1_ad, nle_F, nle_T, nlt_F, nlt_T, neq_F, neq_T, or_self, or_false, false_or, true_or, or_true, and_self, and_false, false_and, true_and, and_true, not_true_eq_false, not_false_eq_true, ↓reduceIte, if_true, if_false, Nat.reduceAdd, ite_self, Bool.false_eq_true, e0, hc, H1, ↓e1, q, n10e, psh]
      exact stM_no g2
  · by_cases q : 2 ≤ h
    · obtain ⟨I1, J1, d1, f1, r1⟩ := drM H (by omega)
      obtain ⟨I2, J2, d2, f2, r2⟩ := drM r1 (by omega)
      rw [show h - 1 - 1 = h - 2 by omega] at d2 r2
      have f3 := f1.tr f2
      have D1 : ∀ {F : Int32 → MI → MJ → Option (Int32 × MI × MJ)}, oc (f_Model_drops I J) F = _ := fun {F} => d1
      have D2 : ∀ {F : Int32 → MI → MJ → Option (Int32 × MI × MJ)}, oc (f_Model_drops I1 J1) F = _ := fun {F} => d2
      cases t1 : sf (h - 1) with
      | true =>
        cases t2 : sf (h - 2) with
        | true =>
          rw [t1] at D1
          rw [t2] at D2
          obtain ⟨I3, J3, g1, g2, g3⟩ := gvM true r2
          have q2 : h - 2 < 64 := by omega
          rw [if_pos q2] at g1
          have e1 : ∀ {p : Int32} {F : Int32 → MI → MJ → Option (Int32 × MI × MJ)}, p = bI true → oc (f_Model_gives p I2 J2) F = _ := fun {p F} => g1
          have e2 : ∀ {F : Int32 → MI → MJ → Option (Int32 × MI × MJ)}, oc (f_Model_gives (nI 1) I2 J2) F = _ := fun {F} => e1 rfl
          simp (disch := omega) only [a11, a01, ↓li_m, ↓oc_some, ↓oc_ite, ↓oc_oc, ↓oc_pl, ↓oc_none, ↓oc_oe, ↓pl_eq, ↓oe_i, ↓oe_j, va_up_self, va_up_ne, va_up_up, upd_s, upd_n, updL_s, updL_n, nI_add, nI_1, nI_ltI, nI_leI, nI_eq, nI_clamp, li_n, m1_lt, m1_le, m1_gt, m1_ge, m1_ne, m1_en, m1_ad, nle_F, nle_T, nlt_F, nlt_T, neq_F, neq_T, or_self, or_false, false_or, true_or, or_true, and_self, and_false, false_and, true_and, and_true, not_true_eq_false, not_false_eq_true, ↓reduceIte, if_true, if_false, Nat.reduceAdd, ite_self, Bool.false_eq_true, e0, hc, H1, q, ↓D1, ↓D2, e2, bI_t, bI_f, n10e, Bool.true_and, Bool.false_and, Bool.and_true, Bool.and_false, Bool.true_eq_false, Bool.false_eq_true, Bool.true_or, Bool.or_true, Bool.false_or, Bool.or_false]
          exact stM_ps (f3.tr g2) q2 g3
        | false =>
          rw [t1] at D1
          rw [t2] at D2
          obtain ⟨I3, J3, g1, g2, g3⟩ := gvM true r2
          have q2 : h - 2 < 64 := by omega
          rw [if_pos q2] at g1
          have e1 : ∀ {p : Int32} {F : Int32 → MI → MJ → Option (Int32 × MI × MJ)}, p = bI true → oc (f_Model_gives p I2 J2) F = _ := fun {p F} => g1
          have e2 : ∀ {F : Int32 → MI → MJ → Option (Int32 × MI × MJ)}, oc (f_Model_gives (nI 1) I2 J2) F = _ := fun {F} => e1 rfl
          simp (disch := omega) only [a11, a01, ↓li_m, ↓oc_some, ↓oc_ite, ↓oc_oc, ↓oc_pl, ↓oc_none, ↓oc_oe, ↓pl_eq, ↓oe_i, ↓oe_j, va_up_self, va_up_ne, va_up_up, upd_s, upd_n, updL_s, updL_n, nI_add, nI_1, nI_ltI, nI_leI, nI_eq, nI_clamp, li_n, m1_lt, m1_le, m1_gt, m1_ge, m1_ne, m1_en, m1_ad, nle_F, nle_T, nlt_F, nlt_T, neq_F, neq_T, or_self, or_false, false_or, true_or, or_true, and_self, and_false, false_and, true_and, and_true, not_true_eq_false, not_false_eq_true, ↓reduceIte, if_true, if_false, Nat.reduceAdd, ite_self, Bool.false_eq_true, e0, hc, H1, q, ↓D1, ↓D2, e2, bI_t, bI_f, n10e, Bool.true_and, Bool.false_and, Bool.and_true, Bool.and_false, Bool.true_eq_false, Bool.false_eq_true, Bool.true_or, Bool.or_true, Bool.false_or, Bool.or_false]
          exact stM_ps (f3.tr g2) q2 g3
      | false =>
        cases t2 : sf (h - 2) with
        | true =>
          rw [t1] at D1
          rw [t2] at D2
          obtain ⟨I3, J3, g1, g2, g3⟩ := gvM true r2
          have q2 : h - 2 < 64 := by omega
          rw [if_pos q2] at g1
          have e1 : ∀ {p : Int32} {F : Int32 → MI → MJ → Option (Int32 × MI × MJ)}, p = bI true → oc (f_Model_gives p I2 J2) F = _ := fun {p F} => g1
          have e2 : ∀ {F : Int32 → MI → MJ → Option (Int32 × MI × MJ)}, oc (f_Model_gives (nI 1) I2 J2) F = _ := fun {F} => e1 rfl
          simp (disch := omega) only [a11, a01, ↓li_m, ↓oc_some, ↓oc_ite, ↓oc_oc, ↓oc_pl, ↓oc_none, ↓oc_oe, ↓pl_eq, ↓oe_i, ↓oe_j, va_up_self, va_up_ne, va_up_up, upd_s, upd_n, updL_s, updL_n, nI_add, nI_1, nI_ltI, nI_leI, nI_eq, nI_clamp, li_n, m1_lt, m1_le, m1_gt, m1_ge, m1_ne, m1_en, m1_ad, nle_F, nle_T, nlt_F, nlt_T, neq_F, neq_T, or_self, or_false, false_or, true_or, or_true, and_self, and_false, false_and, true_and, and_true, not_true_eq_false, not_false_eq_true, ↓reduceIte, if_true, if_false, Nat.reduceAdd, ite_self, Bool.false_eq_true, e0, hc, H1, q, ↓D1, ↓D2, e2, bI_t, bI_f, n10e, Bool.true_and, Bool.false_and, Bool.and_true, Bool.and_false, Bool.true_eq_false, Bool.false_eq_true, Bool.true_or, Bool.or_true, Bool.false_or, Bool.or_false]
          exact stM_ps (f3.tr g2) q2 g3
        | false =>
          rw [t1] at D1
          rw [t2] at D2
          obtain ⟨I3, J3, g1, g2, g3⟩ := gvM false r2
          have q2 : h - 2 < 64 := by omega
          rw [if_pos q2] at g1
          have e1 : ∀ {p : Int32} {F : Int32 → MI → MJ → Option (Int32 × MI × MJ)}, p = bI false → oc (f_Model_gives p I2 J2) F = _ := fun {p F} => g1
          have e2 : ∀ {F : Int32 → MI → MJ → Option (Int32 × MI × MJ)}, oc (f_Model_gives (nI 0) I2 J2) F = _ := fun {F} => e1 rfl
          simp (disch := omega) only [a11, a01, ↓li_m, ↓oc_some, ↓oc_ite, ↓oc_oc, ↓oc_pl, ↓oc_none, ↓oc_oe, ↓pl_eq, ↓oe_i, ↓oe_j, va_up_self, va_up_ne, va_up_up, upd_s, upd_n, updL_s, updL_n, nI_add, nI_1, nI_ltI, nI_leI, nI_eq, nI_clamp, li_n, m1_lt, m1_le, m1_gt, m1_ge, m1_ne, m1_en, m1_ad, nle_F, nle_T, nlt_F, nlt_T, neq_F, neq_T, or_self, or_false, false_or, true_or, or_true, and_self, and_false, false_and, true_and, and_true, not_true_eq_false, not_false_eq_true, ↓reduceIte, if_true, if_false, Nat.reduceAdd, ite_self, Bool.false_eq_true, e0, hc, H1, q, ↓D1, ↓D2, e2, bI_t, bI_f, n10e, Bool.true_and, Bool.false_and, Bool.and_true, Bool.and_false, Bool.true_eq_false, Bool.false_eq_true, Bool.true_or, Bool.or_true, Bool.false_or, Bool.or_false]
          exact stM_ps (f3.tr g2) q2 g3
    · simp (disch := omega) only [a11, a01, ↓li_m, ↓oc_some, ↓oc_ite, ↓oc_oc, ↓oc_pl, ↓oc_none, ↓oc_oe, ↓pl_eq, ↓oe_i, ↓oe_j, va_up_self, va_up_ne, va_up_up, upd_s, upd_n, updL_s, updL_n, nI_add, nI_1, nI_ltI, nI_leI, nI_eq, nI_clamp, li_n, m1_lt, m1_le, m1_gt, m1_ge, m1_ne, m1_en, m1_ad, nle_F, nle_T, nlt_F, nlt_T, neq_F, neq_T, or_self, or_false, false_or, true_or, or_true, and_self, and_false, false_and, true_and, and_true, not_true_eq_false, not_false_eq_true, ↓reduceIte, if_true, if_false, Nat.reduceAdd, ite_self, Bool.false_eq_true, e0, hc, H1, q]
      exact stM_no hrf
  · by_cases q : 2 ≤ h
    · obtain ⟨I1, J1, d1, f1, r1⟩ := drM H (by omega)
      obtain ⟨I2, J2, d2, f2, r2⟩ := drM r1 (by omega)
      rw [show h - 1 - 1 = h - 2 by omega] at d2 r2
      have f3 := f1.tr f2
      have D1 : ∀ {F : Int32 → MI → MJ → Option (Int32 × MI × MJ)}, oc (f_Model_drops I J) F = _ := fun {F} => d1
      have D2 : ∀ {F : Int32 → MI → MJ → Option (Int32 × MI × MJ)}, oc (f_Model_drops I1 J1) F = _ := fun {F} => d2
      cases t1 : sf (h - 1) with
      | true =>
        cases t2 : sf (h - 2) with
        | true =>
          rw [t1] at D1
          rw [t2] at D2
          obtain ⟨I3, J3, g1, g2, g3⟩ := gvM true r2
          have q2 : h - 2 < 64 := by omega
          rw [if_pos q2] at g1
          have e1 : ∀ {p : Int32} {F : Int32 → MI → MJ → Option (Int32 × MI × MJ)}, p = bI true → oc (f_Model_gives p I2 J2) F = _ := fun {p F} => g1
          have e2 : ∀ {F : Int32 → MI → MJ → Option (Int32 × MI × MJ)}, oc (f_Model_gives (nI 1) I2 J2) F = _ := fun {F} => e1 rfl
          simp (disch := omega) only [a11, a01, ↓li_m, ↓oc_some, ↓oc_ite, ↓oc_oc, ↓oc_pl, ↓oc_none, ↓oc_oe, ↓pl_eq, ↓oe_i, ↓oe_j, va_up_self, va_up_ne, va_up_up, upd_s, upd_n, updL_s, updL_n, nI_add, nI_1, nI_ltI, nI_leI, nI_eq, nI_clamp, li_n, m1_lt, m1_le, m1_gt, m1_ge, m1_ne, m1_en, m1_ad, nle_F, nle_T, nlt_F, nlt_T, neq_F, neq_T, or_self, or_false, false_or, true_or, or_true, and_self, and_false, false_and, true_and, and_true, not_true_eq_false, not_false_eq_true, ↓reduceIte, if_true, if_false, Nat.reduceAdd, ite_self, Bool.false_eq_true, e0, hc, H1, q, ↓D1, ↓D2, e2, bI_t, bI_f, n10e, Bool.true_and, Bool.false_and, Bool.and_true, Bool.and_false, Bool.true_eq_false, Bool.false_eq_true, Bool.true_or, Bool.or_true, Bool.false_or, Bool.or_false]
          exact stM_ps (f3.tr g2) q2 g3
        | false =>
          rw [t1] at D1
          rw [t2] at D2
          obtain ⟨I3, J3, g1, g2, g3⟩ := gvM true r2
          have q2 : h - 2 < 64 := by omega
          rw [if_pos q2] at g1
          have e1 : ∀ {p : Int32} {F : Int32 → MI → MJ → Option (Int32 × MI × MJ)}, p = bI true → oc (f_Model_gives p I2 J2) F = _ := fun {p F} => g1
          have e2 : ∀ {F : Int32 → MI → MJ → Option (Int32 × MI × MJ)}, oc (f_Model_gives (nI 1) I2 J2) F = _ := fun {F} => e1 rfl
          simp (disch := omega) only [a11, a01, ↓li_m, ↓oc_some, ↓oc_ite, ↓oc_oc, ↓oc_pl, ↓oc_none, ↓oc_oe, ↓pl_eq, ↓oe_i, ↓oe_j, va_up_self, va_up_ne, va_up_up, upd_s, upd_n, updL_s, updL_n, nI_add, nI_1, nI_ltI, nI_leI, nI_eq, nI_clamp, li_n, m1_lt, m1_le, m1_gt, m1_ge, m1_ne, m1_en, m1_ad, nle_F, nle_T, nlt_F, nlt_T, neq_F, neq_T, or_self, or_false, false_or, true_or, or_true, and_self, and_false, false_and, true_and, and_true, not_true_eq_false, not_false_eq_true, ↓reduceIte, if_true, if_false, Nat.reduceAdd, ite_self, Bool.false_eq_true, e0, hc, H1, q, ↓D1, ↓D2, e2, bI_t, bI_f, n10e, Bool.true_and, Bool.false_and, Bool.and_true, Bool.and_false, Bool.true_eq_false, Bool.false_eq_true, Bool.true_or, Bool.or_true, Bool.false_or, Bool.or_false]
          exact stM_ps (f3.tr g2) q2 g3
      | false =>
        cases t2 : sf (h - 2) with
        | true =>
          rw [t1] at D1
          rw [t2] at D2
          obtain ⟨I3, J3, g1, g2, g3⟩ := gvM true r2
          have q2 : h - 2 < 64 := by omega
          rw [if_pos q2] at g1
          have e1 : ∀ {p : Int32} {F : Int32 → MI → MJ → Option (Int32 × MI × MJ)}, p = bI true → oc (f_Model_gives p I2 J2) F = _ := fun {p F} => g1
          have e2 : ∀ {F : Int32 → MI → MJ → Option (Int32 × MI × MJ)}, oc (f_Model_gives (nI 1) I2 J2) F = _ := fun {F} => e1 rfl
          simp (disch := omega) only [a11, a01, ↓li_m, ↓oc_some, ↓oc_ite, ↓oc_oc, ↓oc_pl, ↓oc_none, ↓oc_oe, ↓pl_eq, ↓oe_i, ↓oe_j, va_up_self, va_up_ne, va_up_up, upd_s, upd_n, updL_s, updL_n, nI_add, nI_1, nI_ltI, nI_leI, nI_eq, nI_clamp, li_n, m1_lt, m1_le, m1_gt, m1_ge, m1_ne, m1_en, m1_ad, nle_F, nle_T, nlt_F, nlt_T, neq_F, neq_T, or_self, or_false, false_or, true_or, or_true, and_self, and_false, false_and, true_and, and_true, not_true_eq_false, not_false_eq_true, ↓reduceIte, if_true, if_false, Nat.reduceAdd, ite_self, Bool.false_eq_true, e0, hc, H1, q, ↓D1, ↓D2, e2, bI_t, bI_f, n10e, Bool.true_and, Bool.false_and, Bool.and_true, Bool.and_false, Bool.true_eq_false, Bool.false_eq_true, Bool.true_or, Bool.or_true, Bool.false_or, Bool.or_false]
          exact stM_ps (f3.tr g2) q2 g3
        | false =>
          rw [t1] at D1
          rw [t2] at D2
          obtain ⟨I3, J3, g1, g2, g3⟩ := gvM false r2
          have q2 : h - 2 < 64 := by omega
          rw [if_pos q2] at g1
          have e1 : ∀ {p : Int32} {F : Int32 → MI → MJ → Option (Int32 × MI × MJ)}, p = bI false → oc (f_Model_gives p I2 J2) F = _ := fun {p F} => g1
          have e2 : ∀ {F : Int32 → MI → MJ → Option (Int32 × MI × MJ)}, oc (f_Model_gives (nI 0) I2 J2) F = _ := fun {F} => e1 rfl
          simp (disch := omega) only [a11, a01, ↓li_m, ↓oc_some, ↓oc_ite, ↓oc_oc, ↓oc_pl, ↓oc_none, ↓oc_oe, ↓pl_eq, ↓oe_i, ↓oe_j, va_up_self, va_up_ne, va_up_up, upd_s, upd_n, updL_s, updL_n, nI_add, nI_1, nI_ltI, nI_leI, nI_eq, nI_clamp, li_n, m1_lt, m1_le, m1_gt, m1_ge, m1_ne, m1_en, m1_ad, nle_F, nle_T, nlt_F, nlt_T, neq_F, neq_T, or_self, or_false, false_or, true_or, or_true, and_self, and_false, false_and, true_and, and_true, not_true_eq_false, not_false_eq_true, ↓reduceIte, if_true, if_false, Nat.reduceAdd, ite_self, Bool.false_eq_true, e0, hc, H1, q, ↓D1, ↓D2, e2, bI_t, bI_f, n10e, Bool.true_and, Bool.false_and, Bool.and_true, Bool.and_false, Bool.true_eq_false, Bool.false_eq_true, Bool.true_or, Bool.or_true, Bool.false_or, Bool.or_false]
          exact stM_ps (f3.tr g2) q2 g3
    · simp (disch := omega) only [a11, a01, ↓li_m, ↓oc_some, ↓oc_ite, ↓oc_oc, ↓oc_pl, ↓oc_none, ↓oc_oe, ↓pl_eq, ↓oe_i, ↓oe_j, va_up_self, va_up_ne, va_up_up, upd_s, upd_n, updL_s, updL_n, nI_add, nI_1, nI_ltI, nI_leI, nI_eq, nI_clamp, li_n, m1_lt, m1_le, m1_gt, m1_ge, m1_ne, m1_en, m1_ad, nle_F, nle_T, nlt_F, nlt_T, neq_F, neq_T, or_self, or_false, false_or, true_or, or_true, and_self, and_false, false_and, true_and, and_true, not_true_eq_false, not_false_eq_true, ↓reduceIte, if_true, if_false, Nat.reduceAdd, ite_self, Bool.false_eq_true, e0, hc, H1, q]
      exact stM_no hrf
  · by_cases q : 2 ≤ h
    · obtain ⟨I1, J1, d1, f1, r1⟩ := drM H (by omega)
      obtain ⟨I2, J2, d2, f2, r2⟩ := drM r1 (by omega)
      rw [show h - 1 - 1 = h - 2 by omega] at d2 r2
      have f3 := f1.tr f2
      have D1 : ∀ {F : Int32 → MI → MJ → Option (Int32 × MI × MJ)}, oc (f_Model_drops I J) F = _ := fun {F} => d1
      have D2 : ∀ {F : Int32 → MI → MJ → Option (Int32 × MI × MJ)}, oc (f_Model_drops I1 J1) F = _ := fun {F} => d2
      cases t1 : sf (h - 1) with
      | true =>
        cases t2 : sf (h - 2) with
        | true =>
          rw [t1] at D1
          rw [t2] at D2
          obtain ⟨I3, J3, g1, g2, g3⟩ := gvM true r2
          have q2 : h - 2 < 64 := by omega
          rw [if_pos q2] at g1
          have e1 : ∀ {p : Int32} {F : Int32 → MI → MJ → Option (Int32 × MI × MJ)}, p = bI true → oc (f_Model_gives p I2 J2) F = _ := fun {p F} => g1
          have e2 : ∀ {F : Int32 → MI → MJ → Option (Int32 × MI × MJ)}, oc (f_Model_gives (nI 1) I2 J2) F = _ := fun {F} => e1 rfl
          simp (disch := omega) only [a11, a01, ↓li_m, ↓oc_some, ↓oc_ite, ↓oc_oc, ↓oc_pl, ↓oc_none, ↓oc_oe, ↓pl_eq, ↓oe_i, ↓oe_j, va_up_self, va_up_ne, va_up_up, upd_s, upd_n, updL_s, updL_n, nI_add, nI_1, nI_ltI, nI_leI, nI_eq, nI_clamp, li_n, m1_lt, m1_le, m1_gt, m1_ge, m1_ne, m1_en, m1_ad, nle_F, nle_T, nlt_F, nlt_T, neq_F, neq_T, or_self, or_false, false_or, true_or, or_true, and_self, and_false, false_and, true_and, and_true, not_true_eq_false, not_false_eq_true, ↓reduceIte, if_true, if_false, Nat.reduceAdd, ite_self, Bool.false_eq_true, e0, hc, H1, q, ↓D1, ↓D2, e2, bI_t, bI_f, n10e, Bool.true_and, Bool.false_and, Bool.and_true, Bool.and_false, Bool.true_eq_false, Bool.false_eq_true, Bool.true_or, Bool.or_true, Bool.false_or, Bool.or_false]
          exact stM_no (f3.tr g2)
        | false =>
          rw [t1] at D1
          rw [t2] at D2
          obtain ⟨I3, J3, g1, g2, g3⟩ := gvM true r2
          have q2 : h - 2 < 64 := by omega
          rw [if_pos q2] at g1
          have e1 : ∀ {p : Int32} {F : Int32 → MI → MJ → Option (Int32 × MI × MJ)}, p = bI true → oc (f_Model_gives p I2 J2) F = _ := fun {p F} => g1
          have e2 : ∀ {F : Int32 → MI → MJ → Option (Int32 × MI × MJ)}, oc (f_Model_gives (nI 1) I2 J2) F = _ := fun {F} => e1 rfl
          simp (disch := omega) only [a11, a01, ↓li_m, ↓oc_some, ↓oc_ite, ↓oc_oc, ↓oc_pl, ↓oc_none, ↓oc_oe, ↓pl_eq, ↓oe_i, ↓oe_j, va_up_self, va_up_ne, va_up_up, upd_s, upd_n, updL_s, updL_n, nI_add, nI_1, nI_ltI, nI_leI, nI_eq, nI_clamp, li_n, m1_lt, m1_le, m1_gt, m1_ge, m1_ne, m1_en, m1_ad, nle_F, nle_T, nlt_F, nlt_T, neq_F, neq_T, or_self, or_false, false_or, true_or, or_true, and_self, and_false, false_and, true_and, and_true, not_true_eq_false, not_false_eq_true, ↓reduceIte, if_true, if_false, Nat.reduceAdd, ite_self, Bool.false_eq_true, e0, hc, H1, q, ↓D1, ↓D2, e2, bI_t, bI_f, n10e, Bool.true_and, Bool.false_and, Bool.and_true, Bool.and_false, Bool.true_eq_false, Bool.false_eq_true, Bool.true_or, Bool.or_true, Bool.false_or, Bool.or_false]
          exact stM_ps (f3.tr g2) q2 g3
      | false =>
        cases t2 : sf (h - 2) with
        | true =>
          rw [t1] at D1
          rw [t2] at D2
          obtain ⟨I3, J3, g1, g2, g3⟩ := gvM true r2
          have q2 : h - 2 < 64 := by omega
          rw [if_pos q2] at g1
          have e1 : ∀ {p : Int32} {F : Int32 → MI → MJ → Option (Int32 × MI × MJ)}, p = bI true → oc (f_Model_gives p I2 J2) F = _ := fun {p F} => g1
          have e2 : ∀ {F : Int32 → MI → MJ → Option (Int32 × MI × MJ)}, oc (f_Model_gives (nI 1) I2 J2) F = _ := fun {F} => e1 rfl
          simp (disch := omega) only [a11, a01, ↓li_m, ↓oc_some, ↓oc_ite, ↓oc_oc, ↓oc_pl, ↓oc_none, ↓oc_oe, ↓pl_eq, ↓oe_i, ↓oe_j, va_up_self, va_up_ne, va_up_up, upd_s, upd_n, updL_s, updL_n, nI_add, nI_1, nI_ltI, nI_leI, nI_eq, nI_clamp, li_n, m1_lt, m1_le, m1_gt, m1_ge, m1_ne, m1_en, m1_ad, nle_F, nle_T, nlt_F, nlt_T, neq_F, neq_T, or_self, or_false, false_or, true_or, or_true, and_self, and_false, false_and, true_and, and_true, not_true_eq_false, not_false_eq_true, ↓reduceIte, if_true, if_false, Nat.reduceAdd, ite_self, Bool.false_eq_true, e0, hc, H1, q, ↓D1, ↓D2, e2, bI_t, bI_f, n10e, Bool.true_and, Bool.false_and, Bool.and_true, Bool.and_false, Bool.true_eq_false, Bool.false_eq_true, Bool.true_or, Bool.or_true, Bool.false_or, Bool.or_false]
          exact stM_ps (f3.tr g2) q2 g3
        | false =>
          rw [t1] at D1
          rw [t2] at D2
          obtain ⟨I3, J3, g1, g2, g3⟩ := gvM false r2
          have q2 : h - 2 < 64 := by omega
          rw [if_pos q2] at g1
          have e1 : ∀ {p : Int32} {F : Int32 → MI → MJ → Option (Int32 × MI × MJ)}, p = bI false → oc (f_Model_gives p I2 J2) F = _ := fun {p F} => g1
          have e2 : ∀ {F : Int32 → MI → MJ → Option (Int32 × MI × MJ)}, oc (f_Model_gives (nI 0) I2 J2) F = _ := fun {F} => e1 rfl
          simp (disch := omega) only [a11, a01, ↓li_m, ↓oc_some, ↓oc_ite, ↓oc_oc, ↓oc_pl, ↓oc_none, ↓oc_oe, ↓pl_eq, ↓oe_i, ↓oe_j, va_up_self, va_up_ne, va_up_up, upd_s, upd_n, updL_s, updL_n, nI_add, nI_1, nI_ltI, nI_leI, nI_eq, nI_clamp, li_n, m1_lt, m1_le, m1_gt, m1_ge, m1_ne, m1_en, m1_ad, nle_F, nle_T, nlt_F, nlt_T, neq_F, neq_T, or_self, or_false, false_or, true_or, or_true, and_self, and_false, false_and, true_and, and_true, not_true_eq_false, not_false_eq_true, ↓reduceIte, if_true, if_false, Nat.reduceAdd, ite_self, Bool.false_eq_true, e0, hc, H1, q, ↓D1, ↓D2, e2, bI_t, bI_f, n10e, Bool.true_and, Bool.false_and, Bool.and_true, Bool.and_false, Bool.true_eq_false, Bool.false_eq_true, Bool.true_or, Bool.or_true, Bool.false_or, Bool.or_false]
          exact stM_ps (f3.tr g2) q2 g3
    · simp (disch := omega) only [a11, a01, ↓li_m, ↓oc_some, ↓oc_ite, ↓oc_oc, ↓oc_pl, ↓oc_none, ↓oc_oe, ↓pl_eq, ↓oe_i, ↓oe_j, va_up_self, va_up_ne, va_up_up, upd_s, upd_n, updL_s, updL_n, nI_add, nI_1, nI_ltI, nI_leI, nI_eq, nI_clamp, li_n, m1_lt, m1_le, m1_gt, m1_ge, m1_ne, m1_en, m1_ad, nle_F, nle_T, nlt_F, nlt_T, neq_F, neq_T, or_self, or_false, false_or, true_or, or_true, and_self, and_false, false_and, true_and, and_true, not_true_eq_false, not_false_eq_true, ↓reduceIte, if_true, if_false, Nat.reduceAdd, ite_self, Bool.false_eq_true, e0, hc, H1, q]
      exact stM_no hrf
  · by_cases q : 2 ≤ h
    · obtain ⟨I1, J1, d1, f1, r1⟩ := drM H (by omega)
      obtain ⟨I2, J2, d2, f2, r2⟩ := drM r1 (by omega)
      rw [show h - 1 - 1 = h - 2 by omega] at d2 r2
      have f3 := f1.tr f2
      have D1 : ∀ {F : Int32 → MI → MJ → Option (Int32 × MI × MJ)}, oc (f_Model_drops I J) F = _ := fun {F} => d1
      have D2 : ∀ {F : Int32 → MI → MJ → Option (Int32 × MI × MJ)}, oc (f_Model_drops I1 J1) F = _ := fun {F} => d2
      cases t1 : sf (h - 1) with
      | true =>
        cases t2 : sf (h - 2) with
        | true =>
          rw [t1] at D1
          rw [t2] at D2
          obtain ⟨I3, J3, g1, g2, g3⟩ := gvM true r2
          have q2 : h - 2 < 64 := by omega
          rw [if_pos q2] at g1
          have e1 : ∀ {p : Int32} {F : Int32 → MI → MJ → Option (Int32 × MI × MJ)}, p = bI true → oc (f_Model_gives p I2 J2) F = _ := fun {p F} => g1
          have e2 : ∀ {F : Int32 → MI → MJ → Option (Int32 × MI × MJ)}, oc (f_Model_gives (nI 1) I2 J2) F = _ := fun {F} => e1 rfl
          simp (disch := omega) only [a11, a01, ↓li_m, ↓oc_some, ↓oc_ite, ↓oc_oc, ↓oc_pl, ↓oc_none, ↓oc_oe, ↓pl_eq, ↓oe_i, ↓oe_j, va_up_self, va_up_ne, va_up_up, upd_s, upd_n, updL_s, updL_n, nI_add, nI_1, nI_ltI, nI_leI, nI_eq, nI_clamp, li_n, m1_lt, m1_le, m1_gt, m1_ge, m1_ne, m1_en, m1_ad, nle_F, nle_T, nlt_F, nlt_T, neq_F, neq_T, or_self, or_false, false_or, true_or, or_true, and_self, and_false, false_and, true_and, and_true, not_true_eq_false, not_false_eq_true, ↓reduceIte, if_true, if_false, Nat.reduceAdd, ite_self, Bool.false_eq_true, e0, hc, H1, q, ↓D1, ↓D2, e2, bI_t, bI_f, n10e, Bool.true_and, Bool.false_and, Bool.and_true, Bool.and_false, Bool.true_eq_false, Bool.false_eq_true, Bool.true_or, Bool.or_true, Bool.false_or, Bool.or_false]
          exact stM_ps (f3.tr g2) q2 g3
        | false =>
          rw [t1] at D1
          rw [t2] at D2
          obtain ⟨I3, J3, g1, g2, g3⟩ := gvM true r2
          have q2 : h - 2 < 64 := by omega
          rw [if_pos q2] at g1
          have e1 : ∀ {p : Int32} {F : Int32 → MI → MJ → Option (Int32 × MI × MJ)}, p = bI true → oc (f_Model_gives p I2 J2) F = _ := fun {p F} => g1
          have e2 : ∀ {F : Int32 → MI → MJ → Option (Int32 × MI × MJ)}, oc (f_Model_gives (nI 1) I2 J2) F = _ := fun {F} => e1 rfl
          simp (disch := omega) only [a11, a01, ↓li_m, ↓oc_some, ↓oc_ite, ↓oc_oc, ↓oc_pl, ↓oc_none, ↓oc_oe, ↓pl_eq, ↓oe_i, ↓oe_j, va_up_self, va_up_ne, va_up_up, upd_s, upd_n, updL_s, updL_n, nI_add, nI_1, nI_ltI, nI_leI, nI_eq, nI_clamp, li_n, m1_lt, m1_le, m1_gt, m1_ge, m1_ne, m1_en, m1_ad, nle_F, nle_T, nlt_F, nlt_T, neq_F, neq_T, or_self, or_false, false_or, true_or, or_true, and_self, and_false, false_and, true_and, and_true, not_true_eq_false, not_false_eq_true, ↓reduceIte, if_true, if_false, Nat.reduceAdd, ite_self, Bool.false_eq_true, e0, hc, H1, q, ↓D1, ↓D2, e2, bI_t, bI_f, n10e, Bool.true_and, Bool.false_and, Bool.and_true, Bool.and_false, Bool.true_eq_false, Bool.false_eq_true, Bool.true_or, Bool.or_true, Bool.false_or, Bool.or_false]
          exact stM_no (f3.tr g2)
      | false =>
        cases t2 : sf (h - 2) with
        | true =>
          rw [t1] at D1
          rw [t2] at D2
          obtain ⟨I3, J3, g1, g2, g3⟩ := gvM true r2
          have q2 : h - 2 < 64 := by omega
          rw [if_pos q2] at g1
          have e1 : ∀ {p : Int32} {F : Int32 → MI → MJ → Option (Int32 × MI × MJ)}, p = bI true → oc (f_Model_gives p I2 J2) F = _ := fun {p F} => g1
          have e2 : ∀ {F : Int32 → MI → MJ → Option (Int32 × MI × MJ)}, oc (f_Model_gives (nI 1) I2 J2) F = _ := fun {F} => e1 rfl
          simp (disch := omega) only [a11, a01, ↓li_m, ↓oc_some, ↓oc_ite, ↓oc_oc, ↓oc_pl, ↓oc_none, ↓oc_oe, ↓pl_eq, ↓oe_i, ↓oe_j, va_up_self, va_up_ne, va_up_up, upd_s, upd_n, updL_s, updL_n, nI_add, nI_1, nI_ltI, nI_leI, nI_eq, nI_clamp, li_n, m1_lt, m1_le, m1_gt, m1_ge, m1_ne, m1_en, m1_ad, nle_F, nle_T, nlt_F, nlt_T, neq_F, neq_T, or_self, or_false, false_or, true_or, or_true, and_self, and_false, false_and, true_and, and_true, not_true_eq_false, not_false_eq_true, ↓reduceIte, if_true, if_false, Nat.reduceAdd, ite_self, Bool.false_eq_true, e0, hc, H1, q, ↓D1, ↓D2, e2, bI_t, bI_f, n10e, Bool.true_and, Bool.false_and, Bool.and_true, Bool.and_false, Bool.true_eq_false, Bool.false_eq_true, Bool.true_or, Bool.or_true, Bool.false_or, Bool.or_false]
          exact stM_no (f3.tr g2)
        | false =>
          rw [t1] at D1
          rw [t2] at D2
          obtain ⟨I3, J3, g1, g2, g3⟩ := gvM false r2
          have q2 : h - 2 < 64 := by omega
          rw [if_pos q2] at g1
          have e1 : ∀ {p : Int32} {F : Int32 → MI → MJ → Option (Int32 × MI × MJ)}, p = bI false → oc (f_Model_gives p I2 J2) F = _ := fun {p F} => g1
          have e2 : ∀ {F : Int32 → MI → MJ → Option (Int32 × MI × MJ)}, oc (f_Model_gives (nI 0) I2 J2) F = _ := fun {F} => e1 rfl
          simp (disch := omega) only [a11, a01, ↓li_m, ↓oc_some, ↓oc_ite, ↓oc_oc, ↓oc_pl, ↓oc_none, ↓oc_oe, ↓pl_eq, ↓oe_i, ↓oe_j, va_up_self, va_up_ne, va_up_up, upd_s, upd_n, updL_s, updL_n, nI_add, nI_1, nI_ltI, nI_leI, nI_eq, nI_clamp, li_n, m1_lt, m1_le, m1_gt, m1_ge, m1_ne, m1_en, m1_ad, nle_F, nle_T, nlt_F, nlt_T, neq_F, neq_T, or_self, or_false, false_or, true_or, or_true, and_self, and_false, false_and, true_and, and_true, not_true_eq_false, not_false_eq_true, ↓reduceIte, if_true, if_false, Nat.reduceAdd, ite_self, Bool.false_eq_true, e0, hc, H1, q, ↓D1, ↓D2, e2, bI_t, bI_f, n10e, Bool.true_and, Bool.false_and, Bool.and_true, Bool.and_false, Bool.true_eq_false, Bool.false_eq_true, Bool.true_or, Bool.or_true, Bool.false_or, Bool.or_false]
          exact stM_no (f3.tr g2)
    · simp (disch := omega) only [a11, a01, ↓li_m, ↓oc_some, ↓oc_ite, ↓oc_oc, ↓oc_pl, ↓oc_none, ↓oc_oe, ↓pl_eq, ↓oe_i, ↓oe_j, va_up_self, va_up_ne, va_up_up, upd_s, upd_n, updL_s, updL_n, nI_add, nI_1, nI_ltI, nI_leI, nI_eq, nI_clamp, li_n, m1_lt, m1_le, m1_gt, m1_ge, m1_ne, m1_en, m1_ad, nle_F, nle_T, nlt_F, nlt_T, neq_F, neq_T, or_self, or_false, false_or, true_or, or_true, and_self, and_false, false_and, true_and, and_true, not_true_eq_false, not_false_eq_true, ↓reduceIte, if_true, if_false, Nat.reduceAdd, ite_self, Bool.false_eq_true, e0, hc, H1, q]
      exact stM_no hrf
  · by_cases q : 1 ≤ h
    · obtain ⟨I1, J1, d1, f1, r1⟩ := drM H q
      have D1 : ∀ {F : Int32 → MI → MJ → Option (Int32 × MI × MJ)}, oc (f_Model_drops I J) F = _ := fun {F} => d1
      have q2 : h - 1 < 64 := by omega
      cases t1 : sf (h - 1) with
      | true =>
        rw [t1] at D1
        obtain ⟨I3, J3, g1, g2, g3⟩ := gvM true r1
        rw [if_pos q2] at g1
        have e1 : ∀ {p : Int32} {F : Int32 → MI → MJ → Option (Int32 × MI × MJ)}, p = bI true → oc (f_Model_gives p I1 J1) F = _ := fun {p F} => g1
        have e2 : ∀ {F : Int32 → MI → MJ → Option (Int32 × MI × MJ)}, oc (f_Model_gives (nI 1) I1 J1) F = _ := fun {F} => e1 rfl
        simp (disch := omega) only [a11, a01, ↓li_m, ↓oc_some, ↓oc_ite, ↓oc_oc, ↓oc_pl, ↓oc_none, ↓oc_oe, ↓pl_eq, ↓oe_i, ↓oe_j, va_up_self, va_up_ne, va_up_up, upd_s, upd_n, updL_s, updL_n, nI_add, nI_1, nI_ltI, nI_leI, nI_eq, nI_clamp, li_n, m1_lt, m1_le, m1_gt, m1_ge, m1_ne, m1_en, m1_ad, nle_F, nle_T, nlt_F, nlt_T, neq_F, neq_T, or_self, or_false, false_or, true_or, or_true, and_self, and_false, false_and, true_and, and_true, not_true_eq_false, not_false_eq_true, ↓reduceIte, if_true, if_false, Nat.reduceAdd, ite_self, Bool.false_eq_true, e0, hc, H1, q, ↓D1, e2, bI_t, bI_f, n10e, Bool.true_and, Bool.false_and, Bool.and_true, Bool.and_false, Bool.true_eq_false, Bool.false_eq_true, Bool.true_or, Bool.or_true, Bool.false_or, Bool.or_false]
        exact stM_y (f1.tr g2) (rpM_back q t1 (g3 q2))
      | false =>
        rw [t1] at D1
        obtain ⟨I3, J3, g1, g2, g3⟩ := gvM false r1
        rw [if_pos q2] at g1
        have e1 : ∀ {p : Int32} {F : Int32 → MI → MJ → Option (Int32 × MI × MJ)}, p = bI false → oc (f_Model_gives p I1 J1) F = _ := fun {p F} => g1
        have e2 : ∀ {F : Int32 → MI → MJ → Option (Int32 × MI × MJ)}, oc (f_Model_gives (nI 0) I1 J1) F = _ := fun {F} => e1 rfl
        simp (disch := omega) only [a11, a01, ↓li_m, ↓oc_some, ↓oc_ite, ↓oc_oc, ↓oc_pl, ↓oc_none, ↓oc_oe, ↓pl_eq, ↓oe_i, ↓oe_j, va_up_self, va_up_ne, va_up_up, upd_s, upd_n, updL_s, updL_n, nI_add, nI_1, nI_ltI, nI_leI, nI_eq, nI_clamp, li_n, m1_lt, m1_le, m1_gt, m1_ge, m1_ne, m1_en, m1_ad, nle_F, nle_T, nlt_F, nlt_T, neq_F, neq_T, or_self, or_false, false_or, true_or, or_true, and_self, and_false, false_and, true_and, and_true, not_true_eq_false, not_false_eq_true, ↓reduceIte, if_true, if_false, Nat.reduceAdd, ite_self, Bool.false_eq_true, e0, hc, H1, q, ↓D1, e2, bI_t, bI_f, n10e, Bool.true_and, Bool.false_and, Bool.and_true, Bool.and_false, Bool.true_eq_false, Bool.false_eq_true, Bool.true_or, Bool.or_true, Bool.false_or, Bool.or_false]
        exact stM_y (f1.tr g2) (rpM_back q t1 (g3 q2))
    · simp (disch := omega) only [a11, a01, ↓li_m, ↓oc_some, ↓oc_ite, ↓oc_oc, ↓oc_pl, ↓oc_none, ↓oc_oe, ↓pl_eq, ↓oe_i, ↓oe_j, va_up_self, va_up_ne, va_up_up, upd_s, upd_n, updL_s, updL_n, nI_add, nI_1, nI_ltI, nI_leI, nI_eq, nI_clamp, li_n, m1_lt, m1_le, m1_gt, m1_ge, m1_ne, m1_en, m1_ad, nle_F, nle_T, nlt_F, nlt_T, neq_F, neq_T, or_self, or_false, false_or, true_or, or_true, and_self, and_false, false_and, true_and, and_true, not_true_eq_false, not_false_eq_true, ↓reduceIte, if_true, if_false, Nat.reduceAdd, ite_self, Bool.false_eq_true, e0, hc, H1, q]
      exact stM_no hrf
  · by_cases q : 1 ≤ h
    · obtain ⟨I1, J1, d1, f1, r1⟩ := drM H q
      have D1 : ∀ {F : Int32 → MI → MJ → Option (Int32 × MI × MJ)}, oc (f_Model_drops I J) F = _ := fun {F} => d1
      have q2 : h - 1 < 64 := by omega
      cases t1 : sf (h - 1) with
      | true =>
        rw [t1] at D1
        obtain ⟨I3, J3, g1, g2, g3⟩ := gvM false r1
        rw [if_pos q2] at g1
        have e1 : ∀ {p : Int32} {F : Int32 → MI → MJ → Option (Int32 × MI × MJ)}, p = bI false → oc (f_Model_gives p I1 J1) F = _ := fun {p F} => g1
        have e2 : ∀ {F : Int32 → MI → MJ → Option (Int32 × MI × MJ)}, oc (f_Model_gives (nI 0) I1 J1) F = _ := fun {F} => e1 rfl
        simp (disch := omega) only [a11, a01, ↓li_m, ↓oc_some, ↓oc_ite, ↓oc_oc, ↓oc_pl, ↓oc_none, ↓oc_oe, ↓pl_eq, ↓oe_i, ↓oe_j, va_up_self, va_up_ne, va_up_up, upd_s, upd_n, updL_s, updL_n, nI_add, nI_1, nI_ltI, nI_leI, nI_eq, nI_clamp, li_n, m1_lt, m1_le, m1_gt, m1_ge, m1_ne, m1_en, m1_ad, nle_F, nle_T, nlt_F, nlt_T, neq_F, neq_T, or_self, or_false, false_or, true_or, or_true, and_self, and_false, false_and, true_and, and_true, not_true_eq_false, not_false_eq_true, ↓reduceIte, if_true, if_false, Nat.reduceAdd, ite_self, Bool.false_eq_true, e0, hc, H1, q, ↓D1, e2, bI_t, bI_f, n10e, Bool.true_and, Bool.false_and, Bool.and_true, Bool.and_false, Bool.true_eq_false, Bool.false_eq_true, Bool.true_or, Bool.or_true, Bool.false_or, Bool.or_false]
        exact stM_no (f1.tr g2)
      | false =>
        rw [t1] at D1
        obtain ⟨I3, J3, g1, g2, g3⟩ := gvM false r1
        rw [if_pos q2] at g1
        have e1 : ∀ {p : Int32} {F : Int32 → MI → MJ → Option (Int32 × MI × MJ)}, p = bI false → oc (f_Model_gives p I1 J1) F = _ := fun {p F} => g1
        have e2 : ∀ {F : Int32 → MI → MJ → Option (Int32 × MI × MJ)}, oc (f_Model_gives (nI 0) I1 J1) F = _ := fun {F} => e1 rfl
        simp (disch := omega) only [a11, a01, ↓li_m, ↓oc_some, ↓oc_ite, ↓oc_oc, ↓oc_pl, ↓oc_none, ↓oc_oe, ↓pl_eq, ↓oe_i, ↓oe_j, va_up_self, va_up_ne, va_up_up, upd_s, upd_n, updL_s, updL_n, nI_add, nI_1, nI_ltI, nI_leI, nI_eq, nI_clamp, li_n, m1_lt, m1_le, m1_gt, m1_ge, m1_ne, m1_en, m1_ad, nle_F, nle_T, nlt_F, nlt_T, neq_F, neq_T, or_self, or_false, false_or, true_or, or_true, and_self, and_false, false_and, true_and, and_true, not_true_eq_false, not_false_eq_true, ↓reduceIte, if_true, if_false, Nat.reduceAdd, ite_self, Bool.false_eq_true, e0, hc, H1, q, ↓D1, e2, bI_t, bI_f, n10e, Bool.true_and, Bool.false_and, Bool.and_true, Bool.and_false, Bool.true_eq_false, Bool.false_eq_true, Bool.true_or, Bool.or_true, Bool.false_or, Bool.or_false]
        exact stM_y (f1.tr g2) (rpM_back q t1 (g3 q2))
    · simp (disch := omega) only [a11, a01, ↓li_m, ↓oc_some, ↓oc_ite, ↓oc_oc, ↓oc_pl, ↓oc_none, ↓oc_oe, ↓pl_eq, ↓oe_i, ↓oe_j, va_up_self, va_up_ne, va_up_up, upd_s, upd_n, updL_s, updL_n, nI_add, nI_1, nI_ltI, nI_leI, nI_eq, nI_clamp, li_n, m1_lt, m1_le, m1_gt, m1_ge, m1_ne, m1_en, m1_ad, nle_F, nle_T, nlt_F, nlt_T, neq_F, neq_T, or_self, or_false, false_or, true_or, or_true, and_self, and_false, false_and, true_and, and_true, not_true_eq_false, not_false_eq_true, ↓reduceIte, if_true, if_false, Nat.reduceAdd, ite_self, Bool.false_eq_true, e0, hc, H1, q]
      exact stM_no hrf
  · by_cases q : 1 ≤ h
    · obtain ⟨I1, J1, d1, f1, r1⟩ := drM H q
      have D1 : ∀ {F : Int32 → MI → MJ → Option (Int32 × MI × MJ)}, oc (f_Model_drops I J) F = _ := fun {F} => d1
      have q2 : h - 1 < 64 := by omega
      cases t1 : sf (h - 1) with
      | true =>
        rw [t1] at D1
        obtain ⟨I3, J3, g1, g2, g3⟩ := gvM true r1
        rw [if_pos q2] at g1
        have e1 : ∀ {p : Int32} {F : Int32 → MI → MJ → Option (Int32 × MI × MJ)}, p = bI true → oc (f_Model_gives p I1 J1) F = _ := fun {p F} => g1
        have e2 : ∀ {F : Int32 → MI → MJ → Option (Int32 × MI × MJ)}, oc (f_Model_gives (nI 1) I1 J1) F = _ := fun {F} => e1 rfl
        simp (disch := omega) only [a11, a01, ↓li_m, ↓oc_some, ↓oc_ite, ↓oc_oc, ↓oc_pl, ↓oc_none, ↓oc_oe, ↓pl_eq, ↓oe_i, ↓oe_j, va_up_self, va_up_ne, va_up_up, upd_s, upd_n, updL_s, updL_n, nI_add, nI_1, nI_ltI, nI_leI, nI_eq, nI_clamp, li_n, m1_lt, m1_le, m1_gt, m1_ge, m1_ne, m1_en, m1_ad, nle_F, nle_T, nlt_F, nlt_T, neq_F, neq_T, or_self, or_false, false_or, true_or, or_true, and_self, and_false, false_and, true_and, and_true, not_true_eq_false, not_false_eq_true, ↓reduceIte, if_true, if_false, Nat.reduceAdd, ite_self, Bool.false_eq_true, e0, hc, H1, q, ↓D1, e2, bI_t, bI_f, n10e, Bool.true_and, Bool.false_and, Bool.and_true, Bool.and_false, Bool.true_eq_false, Bool.false_eq_true, Bool.true_or, Bool.or_true, Bool.false_or, Bool.or_false]
        exact stM_y (f1.tr g2) (rpM_back q t1 (g3 q2))
      | false =>
        rw [t1] at D1
        obtain ⟨I3, J3, g1, g2, g3⟩ := gvM true r1
        rw [if_pos q2] at g1
        have e1 : ∀ {p : Int32} {F : Int32 → MI → MJ → Option (Int32 × MI × MJ)}, p = bI true → oc (f_Model_gives p I1 J1) F = _ := fun {p F} => g1
        have e2 : ∀ {F : Int32 → MI → MJ → Option (Int32 × MI × MJ)}, oc (f_Model_gives (nI 1) I1 J1) F = _ := fun {F} => e1 rfl
        simp (disch := omega) only [a11, a01, ↓li_m, ↓oc_some, ↓oc_ite, ↓oc_oc, ↓oc_pl, ↓oc_none, ↓oc_oe, ↓pl_eq, ↓oe_i, ↓oe_j, va_up_self, va_up_ne, va_up_up, upd_s, upd_n, updL_s, updL_n, nI_add, nI_1, nI_ltI, nI_leI, nI_eq, nI_clamp, li_n, m1_lt, m1_le, m1_gt, m1_ge, m1_ne, m1_en, m1_ad, nle_F, nle_T, nlt_F, nlt_T, neq_F, neq_T, or_self, or_false, false_or, true_or, or_true, and_self, and_false, false_and, true_and, and_true, not_true_eq_false, not_false_eq_true, ↓reduceIte, if_true, if_false, Nat.reduceAdd, ite_self, Bool.false_eq_true, e0, hc, H1, q, ↓D1, e2, bI_t, bI_f, n10e, Bool.true_and, Bool.false_and, Bool.and_true, Bool.and_false, Bool.true_eq_false, Bool.false_eq_true, Bool.true_or, Bool.or_true, Bool.false_or, Bool.or_false]
        exact stM_no (f1.tr g2)
    · simp (disch := omega) only [a11, a01, ↓li_m, ↓oc_some, ↓oc_ite, ↓oc_oc, ↓oc_pl, ↓oc_none, ↓oc_oe, ↓pl_eq, ↓oe_i, ↓oe_j, va_up_self, va_up_ne, va_up_up, upd_s, upd_n, updL_s, updL_n, nI_add, nI_1, nI_ltI, nI_leI, nI_eq, nI_clamp, li_n, m1_lt, m1_le, m1_gt, m1_ge, m1_ne, m1_en, m1_ad, nle_F, nle_T, nlt_F, nlt_T, neq_F, neq_T, or_self, or_false, false_or, true_or, or_true, and_self, and_false, false_and, true_and, and_true, not_true_eq_false, not_false_eq_true, ↓reduceIte, if_true, if_false, Nat.reduceAdd, ite_self, Bool.false_eq_true, e0, hc, H1, q]
      exact stM_no hrf
  · by_cases q : 1 ≤ h
    · obtain ⟨I1, J1, d1, f1, r1⟩ := drM H q
      have D1 : ∀ {F : Int32 → MI → MJ → Option (Int32 × MI × MJ)}, oc (f_Model_drops I J) F = _ := fun {F} => d1
      have q2 : h - 1 < 64 := by omega
      cases t1 : sf (h - 1) with
      | true =>
        rw [t1] at D1
        simp (disch := omega) only [a11, a01, ↓li_m, ↓oc_some, ↓oc_ite, ↓oc_oc, ↓oc_pl, ↓oc_none, ↓oc_oe, ↓pl_eq, ↓oe_i, ↓oe_j, va_up_self, va_up_ne, va_up_up, upd_s, upd_n, updL_s, updL_n, nI_add, nI_1, nI_ltI, nI_leI, nI_eq, nI_clamp, li_n, m1_lt, m1_le, m1_gt, m1_ge, m1_ne, m1_en, m1_ad, nle_F, nle_T, nlt_F, nlt_T, neq_F, neq_T, or_self, or_false, false_or, true_or, or_true, and_self, and_false, false_and, true_and, and_true, not_true_eq_false, not_false_eq_true, ↓reduceIte, if_true, if_false, Nat.reduceAdd, ite_self, Bool.false_eq_true, e0, hc, H1, q, ↓D1, bI_t, bI_f, n10e, Bool.true_and, Bool.false_and, Bool.and_true, Bool.and_false, Bool.true_eq_false, Bool.false_eq_true, Bool.true_or, Bool.or_true, Bool.false_or, Bool.or_false]
        exact stM_no f1
      | false =>
        rw [t1] at D1
        simp (disch := omega) only [a11, a01, ↓li_m, ↓oc_some, ↓oc_ite, ↓oc_oc, ↓oc_pl, ↓oc_none, ↓oc_oe, ↓pl_eq, ↓oe_i, ↓oe_j, va_up_self, va_up_ne, va_up_up, upd_s, upd_n, updL_s, updL_n, nI_add, nI_1, nI_ltI, nI_leI, nI_eq, nI_clamp, li_n, m1_lt, m1_le, m1_gt, m1_ge, m1_ne, m1_en, m1_ad, nle_F, nle_T, nlt_F, nlt_T, neq_F, neq_T, or_self, or_false, false_or, true_or, or_true, and_self, and_false, false_and, true_and, and_true, not_true_eq_false, not_false_eq_true, ↓reduceIte, if_true, if_false, Nat.reduceAdd, ite_self, Bool.false_eq_true, e0, hc, H1, q, ↓D1, bI_t, bI_f, n10e, Bool.true_and, Bool.false_and, Bool.and_true, Bool.and_false, Bool.true_eq_false, Bool.false_eq_true, Bool.true_or, Bool.or_true, Bool.false_or, Bool.or_false]
        exact stM_y f1 r1
    · simp (disch := omega) only [a11, a01, ↓li_m, ↓oc_some, ↓oc_ite, ↓oc_oc, ↓oc_pl, ↓oc_none, ↓oc_oe, ↓pl_eq, ↓oe_i, ↓oe_j, va_up_self, va_up_ne, va_up_up, upd_s, upd_n, updL_s, updL_n, nI_add, nI_1, nI_ltI, nI_leI, nI_eq, nI_clamp, li_n, m1_lt, m1_le, m1_gt, m1_ge, m1_ne, m1_en, m1_ad, nle_F, nle_T, nlt_F, nlt_T, neq_F, neq_T, or_self, or_false, false_or, true_or, or_true, and_self, and_false, false_and, true_and, and_true, not_true_eq_false, not_false_eq_true, ↓reduceIte, if_true, if_false, Nat.reduceAdd, ite_self, Bool.false_eq_true, e0, hc, H1, q]
      exact stM_no hrf
  · by_cases q : 1 ≤ h
    · obtain ⟨I1, J1, d1, f1, r1⟩ := drM H q
      have D1 : ∀ {F : Int32 → MI → MJ → Option (Int32 × MI × MJ)}, oc (f_Model_drops I J) F = _ := fun {F} => d1
      have q2 : h - 1 < 64 := by omega
      cases t1 : sf (h - 1) with
      | true =>
        rw [t1] at D1
        simp (disch := omega) only [a11, a01, ↓li_m, ↓oc_some, ↓oc_ite, ↓oc_oc, ↓oc_pl, ↓oc_none, ↓oc_oe, ↓pl_eq, ↓oe_i, ↓oe_j, va_up_self, va_up_ne, va_up_up, upd_s, upd_n, updL_s, updL_n, nI_add, nI_1, nI_ltI, nI_leI, nI_eq, nI_clamp, li_n, m1_lt, m1_le, m1_gt, m1_ge, m1_ne, m1_en, m1_ad, nle_F, nle_T, nlt_F, nlt_T, neq_F, neq_T, or_self, or_false, false_or, true_or, or_true, and_self, and_false, false_and, true_and, and_true, not_true_eq_false, not_false_eq_true, ↓reduceIte, if_true, if_false, Nat.reduceAdd, ite_self, Bool.false_eq_true, e0, hc, H1, q, ↓D1, bI_t, bI_f, n10e, Bool.true_and, Bool.false_and, Bool.and_true, Bool.and_false, Bool.true_eq_false, Bool.false_eq_true, Bool.true_or, Bool.or_true, Bool.false_or, Bool.or_false]
        exact stM_y f1 r1
      | false =>
        rw [t1] at D1
        simp (disch := omega) only [a11, a01, ↓li_m, ↓oc_some, ↓oc_ite, ↓oc_oc, ↓oc_pl, ↓oc_none, ↓oc_oe, ↓pl_eq, ↓oe_i, ↓oe_j, va_up_self, va_up_ne, va_up_up, upd_s, upd_n, updL_s, updL_n, nI_add, nI_1, nI_ltI, nI_leI, nI_eq, nI_clamp, li_n, m1_lt, m1_le, m1_gt, m1_ge, m1_ne, m1_en, m1_ad, nle_F, nle_T, nlt_F, nlt_T, neq_F, neq_T, or_self, or_false, false_or, true_or, or_true, and_self, and_false, false_and, true_and, and_true, not_true_eq_false, not_false_eq_true, ↓reduceIte, if_true, if_false, Nat.reduceAdd, ite_self, Bool.false_eq_true, e0, hc, H1, q, ↓D1, bI_t, bI_f, n10e, Bool.true_and, Bool.false_and, Bool.and_true, Bool.and_false, Bool.true_eq_false, Bool.false_eq_true, Bool.true_or, Bool.or_true, Bool.false_or, Bool.or_false]
        exact stM_y f1 r1
    · simp (disch := omega) only [a11, a01, ↓li_m, ↓oc_some, ↓oc_ite, ↓oc_oc, ↓oc_pl, ↓oc_none, ↓oc_oe, ↓pl_eq, ↓oe_i, ↓oe_j, va_up_self, va_up_ne, va_up_up, upd_s, upd_n, updL_s, updL_n, nI_add, nI_1, nI_ltI, nI_leI, nI_eq, nI_clamp, li_n, m1_lt, m1_le, m1_gt, m1_ge, m1_ne, m1_en, m1_ad, nle_F, nle_T, nlt_F, nlt_T, neq_F, neq_T, or_self, or_false, false_or, true_or, or_true, and_self, and_false, false_and, true_and, and_true, not_true_eq_false, not_false_eq_true, ↓reduceIte, if_true, if_false, Nat.reduceAdd, ite_self, Bool.false_eq_true, e0, hc, H1, q]
      exact stM_no hrf
  · simp (disch := omega) only [a11, a01, ↓li_m, ↓oc_some, ↓oc_ite, ↓oc_oc, ↓oc_pl, ↓oc_none, ↓oc_oe, ↓pl_eq, ↓oe_i, ↓oe_j, va_up_self, va_up_ne, va_up_up, upd_s, upd_n, updL_s, updL_n, nI_add, nI_1, nI_ltI, nI_leI, nI_eq, nI_clamp, li_n, m1_lt, m1_le, m1_gt, m1_ge, m1_ne, m1_en, m1_ad, nle_F, nle_T, nlt_F, nlt_T, neq_F, neq_T, or_self, or_false, false_or, true_or, or_true, and_self, and_false, false_and, true_and, and_true, not_true_eq_false, not_false_eq_true, ↓reduceIte, if_true, if_false, Nat.reduceAdd, ite_self, Bool.false_eq_true, e0, hc, H1]
    exact stM_y hrf H
  · simp (disch := omega) only [a11, a01, ↓li_m, ↓oc_some, ↓oc_ite, ↓oc_oc, ↓oc_pl, ↓oc_none, ↓oc_oe, ↓pl_eq, ↓oe_i, ↓oe_j, va_up_self, va_up_ne, va_up_up, upd_s, upd_n, updL_s, updL_n, nI_add, nI_1, nI_ltI, nI_leI, nI_eq, nI_clamp, li_n, m1_lt, m1_le, m1_gt, m1_ge, m1_ne, m1_en, m1_ad, nle_F, nle_T, nlt_F, nlt_T, neq_F, neq_T, or_self, or_false, false_or, true_or, or_true, and_self, and_false, false_and, true_and, and_true, not_true_eq_false, not_false_eq_true, ↓reduceIte, if_true, if_false, Nat.reduceAdd, ite_self, Bool.false_eq_true, e0, hc, H1]
    exact stM_y hrf H
  · simp (disch := omega) only [a11, a01, ↓li_m, ↓oc_some, ↓oc_ite, ↓oc_oc, ↓oc_pl, ↓oc_none, ↓oc_oe, ↓pl_eq, ↓oe_i, ↓oe_j, va_up_self, va_up_ne, va_up_up, upd_s, upd_n, updL_s, updL_n, nI_add, nI_1, nI_ltI, nI_leI, nI_eq, nI_clamp, li_n, m1_lt, m1_le, m1_gt, m1_ge, m1_ne, m1_en, m1_ad, nle_F, nle_T, nlt_F, nlt_T, neq_F, neq_T, or_self, or_false, false_or, true_or, or_true, and_self, and_false, false_and, true_and, and_true, not_true_eq_false, not_false_eq_true, ↓reduceIte, if_true, if_false, Nat.reduceAdd, ite_self, Bool.false_eq_true, e0, hc, H1]
    exact stM_y hrf H
  · simp (disch := omega) only [a11, a01, ↓li_m, ↓oc_some, ↓oc_ite, ↓oc_oc, ↓oc_pl, ↓oc_none, ↓oc_oe, ↓pl_eq, ↓oe_i, ↓oe_j, va_up_self, va_up_ne, va_up_up, upd_s, upd_n, updL_s, updL_n, nI_add, nI_1, nI_ltI, nI_leI, nI_eq, nI_clamp, li_n, m1_lt, m1_le, m1_gt, m1_ge, m1_ne, m1_en, m1_ad, nle_F, nle_T, nlt_F, nlt_T, neq_F, neq_T, or_self, or_false, false_or, true_or, or_true, and_self, and_false, false_and, true_and, and_true, not_true_eq_false, not_false_eq_true, ↓reduceIte, if_true, if_false, Nat.reduceAdd, ite_self, Bool.false_eq_true, e0, hc, H1]
    exact stM_y hrf H
  · have q : h = 0 := hz (by omega)
    subst q
    simp (disch := omega) only [a11, a01, ↓li_m, ↓oc_some, ↓oc_ite, ↓oc_oc, ↓oc_pl, ↓oc_none, ↓oc_oe, ↓pl_eq, ↓oe_i, ↓oe_j, va_up_self, va_up_ne, va_up_up, upd_s, upd_n, updL_s, updL_n, nI_add, nI_1, nI_ltI, nI_leI, nI_eq, nI_clamp, li_n, m1_lt, m1_le, m1_gt, m1_ge, m1_ne, m1_en, m1_ad, nle_F, nle_T, nlt_F, nlt_T, neq_F, neq_T, or_self, or_false, false_or, true_or, or_true, and_self, and_false, false_and, true_and, and_true, not_true_eq_false, not_false_eq_true, ↓reduceIte, if_true, if_false, Nat.reduceAdd, ite_self, Bool.false_eq_true, e0, hc, H1]
    exact stM_y hrf H
  · have q : h = 0 := hz (by omega)
    subst q
    simp (disch := omega) only [a11, a01, ↓li_m, ↓oc_some, ↓oc_ite, ↓oc_oc, ↓oc_pl, ↓oc_none, ↓oc_oe, ↓pl_eq, ↓oe_i, ↓oe_j, va_up_self, va_up_ne, va_up_up, upd_s, upd_n, updL_s, updL_n, nI_add, nI_1, nI_ltI, nI_leI, nI_eq, nI_clamp, li_n, m1_lt, m1_le, m1_gt, m1_ge, m1_ne, m1_en, m1_ad, nle_F, nle_T, nlt_F, nlt_T, neq_F, neq_T, or_self, or_false, false_or, true_or, or_true, and_self, and_false, false_and, true_and, and_true, not_true_eq_false, not_false_eq_true, ↓reduceIte, if_true, if_false, Nat.reduceAdd, ite_self, Bool.false_eq_true, e0, hc, H1]
    exact stM_y hrf H
  · by_cases q : 1 ≤ h
    · obtain ⟨I1, J1, d1, f1, r1⟩ := drM H q
      have D1 : ∀ {F : Int32 → MI → MJ → Option (Int32 × MI × MJ)}, oc (f_Model_drops I J) F = _ := fun {F} => d1
      have q2 : h - 1 < 64 := by omega
      cases t1 : sf (h - 1) with
      | true =>
        rw [t1] at D1
        obtain ⟨I3, J3, g1, g2, g3⟩ := gvM false r1
        rw [if_pos q2] at g1
        have e1 : ∀ {p : Int32} {F : Int32 → MI → MJ → Option (Int32 × MI × MJ)}, p = bI false → oc (f_Model_gives p I1 J1) F = _ := fun {p F} => g1
        have e2 : ∀ {F : Int32 → MI → MJ → Option (Int32 × MI × MJ)}, oc (f_Model_gives (nI 0) I1 J1) F = _ := fun {F} => e1 rfl
        simp (disch := omega) only [a11, a01, ↓li_m, ↓oc_some, ↓oc_ite, ↓oc_oc, ↓oc_pl, ↓oc_none, ↓oc_oe, ↓pl_eq, ↓oe_i, ↓oe_j, va_up_self, va_up_ne, va_up_up, upd_s, upd_n, updL_s, updL_n, nI_add, nI_1, nI_ltI, nI_leI, nI_eq, nI_clamp, li_n, m1_lt, m1_le, m1_gt, m1_ge, m1_ne, m1_en, m1_ad, nle_F, nle_T, nlt_F, nlt_T, neq_F, neq_T, or_self, or_false, false_or, true_or, or_true, and_self, and_false, false_and, true_and, and_true, not_true_eq_false, not_false_eq_true, ↓reduceIte, if_true, if_false, Nat.reduceAdd, ite_self, Bool.false_eq_true, e0, hc, H1, q, ↓D1, e2, bI_t, bI_f, n10e, Bool.true_and, Bool.false_and, Bool.and_true, Bool.and_false, Bool.true_eq_false, Bool.false_eq_true, Bool.true_or, Bool.or_true, Bool.false_or, Bool.or_false]
        exact stM_no (f1.tr g2)
      | false =>
        rw [t1] at D1
        obtain ⟨I3, J3, g1, g2, g3⟩ := gvM false r1
        rw [if_pos q2] at g1
        have e1 : ∀ {p : Int32} {F : Int32 → MI → MJ → Option (Int32 × MI × MJ)}, p = bI false → oc (f_Model_gives p I1 J1) F = _ := fun {p F} => g1
        have e2 : ∀ {F : Int32 → MI → MJ → Option (Int32 × MI × MJ)}, oc (f_Model_gives (nI 0) I1 J1) F = _ := fun {F} => e1 rfl
        simp (disch := omega) only [a11, a01, ↓li_m, ↓oc_some, ↓oc_ite, ↓oc_oc, ↓oc_pl, ↓oc_none, ↓oc_oe, ↓pl_eq, ↓oe_i, ↓oe_j, va_up_self, va_up_ne, va_up_up, upd_s, upd_n, updL_s, updL_n, nI_add, nI_1, nI_ltI, nI_leI, nI_eq, nI_clamp, li_n, m1_lt, m1_le, m1_gt, m1_ge, m1_ne, m1_en, m1_ad, nle_F, nle_T, nlt_F, nlt_T, neq_F, neq_T, or_self, or_false, false_or, true_or, or_true, and_self, and_false, false_and, true_and, and_true, not_true_eq_false, not_false_eq_true, ↓reduceIte, if_true, if_false, Nat.reduceAdd, ite_self, Bool.false_eq_true, e0, hc, H1, q, ↓D1, e2, bI_t, bI_f, n10e, Bool.true_and, Bool.false_and, Bool.and_true, Bool.and_false, Bool.true_eq_false, Bool.false_eq_true, Bool.true_or, Bool.or_true, Bool.false_or, Bool.or_false]
        exact stM_y (f1.tr g2) (rpM_back q t1 (g3 q2))
    · simp (disch := omega) only [a11, a01, ↓li_m, ↓oc_some, ↓oc_ite, ↓oc_oc, ↓oc_pl, ↓oc_none, ↓oc_oe, ↓pl_eq, ↓oe_i, ↓oe_j, va_up_self, va_up_ne, va_up_up, upd_s, upd_n, updL_s, updL_n, nI_add, nI_1, nI_ltI, nI_leI, nI_eq, nI_clamp, li_n, m1_lt, m1_le, m1_gt, m1_ge, m1_ne, m1_en, m1_ad, nle_F, nle_T, nlt_F, nlt_T, neq_F, neq_T, or_self, or_false, false_or, true_or, or_true, and_self, and_false, false_and, true_and, and_true, not_true_eq_false, not_false_eq_true, ↓reduceIte, if_true, if_false, Nat.reduceAdd, ite_self, Bool.false_eq_true, e0, hc, H1, q]
      exact stM_no hrf
  · by_cases q : 1 ≤ h
    · obtain ⟨I1, J1, d1, f1, r1⟩ := drM H q
      have D1 : ∀ {F : Int32 → MI → MJ → Option (Int32 × MI × MJ)}, oc (f_Model_drops I J) F = _ := fun {F} => d1
      have q2 : h - 1 < 64 := by omega
      cases t1 : sf (h - 1) with
      | true =>
        rw [t1] at D1
        obtain ⟨I3, J3, g1, g2, g3⟩ := gvM true r1
        rw [if_pos q2] at g1
        have e1 : ∀ {p : Int32} {F : Int32 → MI → MJ → Option (Int32 × MI × MJ)}, p = bI true → oc (f_Model_gives p I1 J1) F = _ := fun {p F} => g1
        have e2 : ∀ {F : Int32 → MI → MJ → Option (Int32 × MI × MJ)}, oc (f_Model_gives (nI 1) I1 J1) F = _ := fun {F} => e1 rfl
        simp (disch := omega) only [a11, a01, ↓li_m, ↓oc_some, ↓oc_ite, ↓oc_oc, ↓oc_pl, ↓oc_none, ↓oc_oe, ↓pl_eq, ↓oe_i, ↓oe_j, va_up_self, va_up_ne, va_up_up, upd_s, upd_n, updL_s, updL_n, nI_add, nI_1, nI_ltI, nI_leI, nI_eq, nI_clamp, li_n, m1_lt, m1_le, m1_gt, m1_ge, m1_ne, m1_en, m1_ad, nle_F, nle_T, nlt_F, nlt_T, neq_F, neq_T, or_self, or_false, false_or, true_or, or_true, and_self, and_false, false_and, true_and, and_true, not_true_eq_false, not_false_eq_true, ↓reduceIte, if_true, if_false, Nat.reduceAdd, ite_self, Bool.false_eq_true, e0, hc, H1, q, ↓D1, e2, bI_t, bI_f, n10e, Bool.true_and, Bool.false_and, Bool.and_true, Bool.and_false, Bool.true_eq_false, Bool.false_eq_true, Bool.true_or, Bool.or_true, Bool.false_or, Bool.or_false]
        exact stM_no (f1.tr g2)
      | false =>
        rw [t1] at D1
        obtain ⟨I3, J3, g1, g2, g3⟩ := gvM true r1
        rw [if_pos q2] at g1
        have e1 : ∀ {p : Int32} {F : Int32 → MI → MJ → Option (Int32 × MI × MJ)}, p = bI true → oc (f_Model_gives p I1 J1) F = _ := fun {p F} => g1
        have e2 : ∀ {F : Int32 → MI → MJ → Option (Int32 × MI × MJ)}, oc (f_Model_gives (nI 1) I1 J1) F = _ := fun {F} => e1 rfl
        simp (disch := omega) only [a11, a01, ↓li_m, ↓oc_some, ↓oc_ite, ↓oc_oc, ↓oc_pl, ↓oc_none, ↓oc_oe, ↓pl_eq, ↓oe_i, ↓oe_j, va_up_self, va_up_ne, va_up_up, upd_s, upd_n, updL_s, updL_n, nI_add, nI_1, nI_ltI, nI_leI, nI_eq, nI_clamp, li_n, m1_lt, m1_le, m1_gt, m1_ge, m1_ne, m1_en, m1_ad, nle_F, nle_T, nlt_F, nlt_T, neq_F, neq_T, or_self, or_false, false_or, true_or, or_true, and_self, and_false, false_and, true_and, and_true, not_true_eq_false, not_false_eq_true, ↓reduceIte, if_true, if_false, Nat.reduceAdd, ite_self, Bool.false_eq_true, e0, hc, H1, q, ↓D1, e2, bI_t, bI_f, n10e, Bool.true_and, Bool.false_and, Bool.and_true, Bool.and_false, Bool.true_eq_false, Bool.false_eq_true, Bool.true_or, Bool.or_true, Bool.false_or, Bool.or_false]
        exact stM_ps (f1.tr g2) q2 g3
    · simp (disch := omega) only [a11, a01, ↓li_m, ↓oc_some, ↓oc_ite, ↓oc_oc, ↓oc_pl, ↓oc_none, ↓oc_oe, ↓pl_eq, ↓oe_i, ↓oe_j, va_up_self, va_up_ne, va_up_up, upd_s, upd_n, updL_s, updL_n, nI_add, nI_1, nI_ltI, nI_leI, nI_eq, nI_clamp, li_n, m1_lt, m1_le, m1_gt, m1_ge, m1_ne, m1_en, m1_ad, nle_F, nle_T, nlt_F, nlt_T, neq_F, neq_T, or_self, or_false, false_or, true_or, or_true, and_self, and_false, false_and, true_and, and_true, not_true_eq_false, not_false_eq_true, ↓reduceIte, if_true, if_false, Nat.reduceAdd, ite_self, Bool.false_eq_true, e0, hc, H1, q]
      exact stM_no hrf
  · by_cases q : 2 ≤ h
    · obtain ⟨I1, J1, d1, f1, r1⟩ := drM H (by omega)
      obtain ⟨I2, J2, d2, f2, r2⟩ := drM r1 (by omega)
      rw [show h - 1 - 1 = h - 2 by omega] at d2 r2
      have f3 := f1.tr f2
      have D1 : ∀ {F : Int32 → MI → MJ → Option (Int32 × MI × MJ)}, oc (f_Model_drops I J) F = _ := fun {F} => d1
      have D2 : ∀ {F : Int32 → MI → MJ → Option (Int32 × MI × MJ)}, oc (f_Model_drops I1 J1) F = _ := fun {F} => d2
      cases t1 : sf (h - 1) with
      | true =>
        cases t2 : sf (h - 2) with
        | true =>
          rw [t1] at D1
          rw [t2] at D2
          simp (disch := omega) only [a11, a01, ↓li_m, ↓oc_some, ↓oc_ite, ↓oc_oc, ↓oc_pl, ↓oc_none, ↓oc_oe, ↓pl_eq, ↓oe_i, ↓oe_j, va_up_self, va_up_ne, va_up_up, upd_s, upd_n, updL_s, updL_n, nI_add, nI_1, nI_ltI, nI_leI, nI_eq, nI_clamp, li_n, m1_lt, m1_le, m1_gt, m1_ge, m1_ne, m1_en, m1_ad, nle_F, nle_T, nlt_F, nlt_T, neq_F, neq_T, or_self, or_false, false_or, true_or, or_true, and_self, and_false, false_and, true_and, and_true, not_true_eq_false, not_false_eq_true, ↓reduceIte, if_true, if_false, Nat.reduceAdd, ite_self, Bool.false_eq_true, e0, hc, H1, q, ↓D1, ↓D2, bI_t, bI_f, n10e, Bool.true_and, Bool.false_and, Bool.and_true, Bool.and_false, Bool.true_eq_false, Bool.false_eq_true, Bool.true_or, Bool.or_true, Bool.false_or, Bool.or_false]
          exact stM_no f3
        | false =>
          rw [t1] at D1
          rw [t2] at D2
          simp (disch := omega) only [a11, a01, ↓li_m, ↓oc_some, ↓oc_ite, ↓oc_oc, ↓oc_pl, ↓oc_none, ↓oc_oe, ↓pl_eq, ↓oe_i, ↓oe_j, va_up_self, va_up_ne, va_up_up, upd_s, upd_n, updL_s, updL_n, nI_add, nI_1, nI_ltI, nI_leI, nI_eq, nI_clamp, li_n, m1_lt, m1_le, m1_gt, m1_ge, m1_ne, m1_en, m1_ad, nle_F, nle_T, nlt_F, nlt_T, neq_F, neq_T, or_self, or_false, false_or, true_or, or_true, and_self, and_false, false_and, true_and, and_true, not_true_eq_false, not_false_eq_true, ↓reduceIte, if_true, if_false, Nat.reduceAdd, ite_self, Bool.false_eq_true, e0, hc, H1, q, ↓D1, ↓D2, bI_t, bI_f, n10e, Bool.true_and, Bool.false_and, Bool.and_true, Bool.and_false, Bool.true_eq_false, Bool.false_eq_true, Bool.true_or, Bool.or_true, Bool.false_or, Bool.or_false]
          exact stM_no f3
      | false =>
        cases t2 : sf (h - 2) with
        | true =>
          rw [t1] at D1
          rw [t2] at D2
          simp (disch := omega) only [a11, a01, ↓li_m, ↓oc_some, ↓oc_ite, ↓oc_oc, ↓oc_pl, ↓oc_none, ↓oc_oe, ↓pl_eq, ↓oe_i, ↓oe_j, va_up_self, va_up_ne, va_up_up, upd_s, upd_n, updL_s, updL_n, nI_add, nI_1, nI_ltI, nI_leI, nI_eq, nI_clamp, li_n, m1_lt, m1_le, m1_gt, m1_ge, m1_ne, m1_en, m1_ad, nle_F, nle_T, nlt_F, nlt_T, neq_F, neq_T, or_self, or_false, false_or, true_or, or_true, and_self, and_false, false_and, true_and, and_true, not_true_eq_false, not_false_eq_true, ↓reduceIte, if_true, if_false, Nat.reduceAdd, ite_self, Bool.false_eq_true, e0, hc, H1, q, ↓D1, ↓D2, bI_t, bI_f, n10e, Bool.true_and, Bool.false_and, Bool.and_true, Bool.and_false, Bool.true_eq_false, Bool.false_eq_true, Bool.true_or, Bool.or_true, Bool.false_or, Bool.or_false]
          exact stM_no f3
        | false =>
          rw [t1] at D1
          rw [t2] at D2
          simp (disch := omega) only [a11, a01, ↓li_m, ↓oc_some, ↓oc_ite, ↓oc_oc, ↓oc_pl, ↓oc_none, ↓oc_oe, ↓pl_eq, ↓oe_i, ↓oe_j, va_up_self, va_up_ne, va_up_up, upd_s, upd_n, updL_s, updL_n, nI_add, nI_1, nI_ltI, nI_leI, nI_eq, nI_clamp, li_n, m1_lt, m1_le, m1_gt, m1_ge, m1_ne, m1_en, m1_ad, nle_F, nle_T, nlt_F, nlt_T, neq_F, neq_T, or_self, or_false, false_or, true_or, or_true, and_self, and_false, false_and, true_and, and_true, not_true_eq_false, not_false_eq_true, ↓reduceIte, if_true, if_false, Nat.reduceAdd, ite_self, Bool.false_eq_true, e0, hc, H1, q, ↓D1, ↓D2, bI_t, bI_f, n10e, Bool.true_and, Bool.false_and, Bool.and_true, Bool.and_false, Bool.true_eq_false, Bool.false_eq_true, Bool.true_or, Bool.or_true, Bool.false_or, Bool.or_false]
          exact stM_y f3 r2
    · simp (disch := omega) only [a11, a01, ↓li_m, ↓oc_some, ↓oc_ite, ↓oc_oc, ↓oc_pl, ↓oc_none, ↓oc_oe, ↓pl_eq, ↓oe_i, ↓oe_j, va_up_self, va_up_ne, va_up_up, upd_s, upd_n, updL_s, updL_n, nI_add, nI_1, nI_ltI, nI_leI, nI_eq, nI_clamp, li_n, m1_lt, m1_le, m1_gt, m1_ge, m1_ne, m1_en, m1_ad, nle_F, nle_T, nlt_F, nlt_T, neq_F, neq_T, or_self, or_false, false_or, true_or, or_true, and_self, and_false, false_and, true_and, and_true, not_true_eq_false, not_false_eq_true, ↓reduceIte, if_true, if_false, Nat.reduceAdd, ite_self, Bool.false_eq_true, e0, hc, H1, q]
      exact stM_no hrf
  · by_cases q : 2 ≤ h
    · obtain ⟨I1, J1, d1, f1, r1⟩ := drM H (by omega)
      obtain ⟨I2, J2, d2, f2, r2⟩ := drM r1 (by omega)
      rw [show h - 1 - 1 = h - 2 by omega] at d2 r2
      have f3 := f1.tr f2
      have D1 : ∀ {F : Int32 → MI → MJ → Option (Int32 × MI × MJ)}, oc (f_Model_drops I J) F = _ := fun {F} => d1
      have D2 : ∀ {F : Int32 → MI → MJ → Option (Int32 × MI × MJ)}, oc (f_Model_drops I1 J1) F = _ := fun {F} => d2
      cases t1 : sf (h - 1) with
      | true =>
        cases t2 : sf (h - 2) with
        | true =>
          rw [t1] at D1
          rw [t2] at D2
          simp (disch := omega) only [a11, a01, ↓li_m, ↓oc_some, ↓oc_ite, ↓oc_oc, ↓oc_pl, ↓oc_none, ↓oc_oe, ↓pl_eq, ↓oe_i, ↓oe_j, va_up_self, va_up_ne, va_up_up, upd_s, upd_n, updL_s, updL_n, nI_add, nI_1, nI_ltI, nI_leI, nI_eq, nI_clamp, li_n, m1_lt, m1_le, m1_gt, m1_ge, m1_ne, m1_en, m1_ad, nle_F, nle_T, nlt_F, nlt_T, neq_F, neq_T, or_self, or_false, false_or, true_or, or_true, and_self, and_false, false_and, true_and, and_true, not_true_eq_false, not_false_eq_true, ↓reduceIte, if_true, if_false, Nat.reduceAdd, ite_self, Bool.false_eq_true, e0, hc, H1, q, ↓D1, ↓D2, bI_t, bI_f, n10e, Bool.true_and, Bool.false_and, Bool.and_true, Bool.and_false, Bool.true_eq_false, Bool.false_eq_true, Bool.true_or, Bool.or_true, Bool.false_or, Bool.or_false]
          exact stM_no f3
        | false =>
          rw [t1] at D1
          rw [t2] at D2
          simp (disch := omega) only [a11, a01, ↓li_m, ↓oc_some, ↓oc_ite, ↓oc_oc, ↓oc_pl, ↓oc_none, ↓oc_oe, ↓pl_eq, ↓oe_i, ↓oe_j, va_up_self, va_up_ne, va_up_up, upd_s, upd_n, updL_s, updL_n, nI_add, nI_1, nI_ltI, nI_leI, nI_eq, nI_clamp, li_n, m1_lt, m1_le, m1_gt, m1_ge, m1_ne, m1_en, m1_ad, nle_F, nle_T, nlt_F, nlt_T, neq_F, neq_T, or_self, or_false, false_or, true_or, or_true, and_self, and_false, false_and, true_and, and_true, not_true_eq_false, not_false_eq_true, ↓reduceIte, if_true, if_false, Nat.reduceAdd, ite_self, Bool.false_eq_true, e0, hc, H1, q, ↓D1, ↓D2, bI_t, bI_f, n10e, Bool.true_and, Bool.false_and, Bool.and_true, Bool.and_false, Bool.true_eq_false, Bool.false_eq_true, Bool.true_or, Bool.or_true, Bool.false_or, Bool.or_false]
          exact stM_y f3 r2
      | false =>
        cases t2 : sf (h - 2) with
        | true =>
          rw [t1] at D1
          rw [t2] at D2
          simp (disch := omega) only [a11, a01, ↓li_m, ↓oc_some, ↓oc_ite, ↓oc_oc, ↓oc_pl, ↓oc_none, ↓oc_oe, ↓pl_eq, ↓oe_i, ↓oe_j, va_up_self, va_up_ne, va_up_up, upd_s, upd_n, updL_s, updL_n, nI_add, nI_1, nI_ltI, nI_leI, nI_eq, nI_clamp, li_n, m1_lt, m1_le, m1_gt, m1_ge, m1_ne, m1_en, m1_ad, nle_F, nle_T, nlt_F, nlt_T, neq_F, neq_T, or_self, or_false, false_or, true_or, or_true, and_self, and_false, false_and, true_and, and_true, not_true_eq_false, not_false_eq_true, ↓reduceIte, if_true, if_false, Nat.reduceAdd, ite_self, Bool.false_eq_true, e0, hc, H1, q, ↓D1, ↓D2, bI_t, bI_f, n10e, Bool.true_and, Bool.false_and, Bool.and_true, Bool.and_false, Bool.true_eq_false, Bool.false_eq_true, Bool.true_or, Bool.or_true, Bool.false_or, Bool.or_false]
          exact stM_no f3
        | false =>
          rw [t1] at D1
          rw [t2] at D2
          simp (disch := omega) only [a11, a01, ↓li_m, ↓oc_some, ↓oc_ite, ↓oc_oc, ↓oc_pl, ↓oc_none, ↓oc_oe, ↓pl_eq, ↓oe_i, ↓oe_j, va_up_self, va_up_ne, va_up_up, upd_s, upd_n, updL_s, updL_n, nI_add, nI_1, nI_ltI, nI_leI, nI_eq, nI_clamp, li_n, m1_lt, m1_le, m1_gt, m1_ge, m1_ne, m1_en, m1_ad, nle_F, nle_T, nlt_F, nlt_T, neq_F, neq_T, or_self, or_false, false_or, true_or, or_true, and_self, and_false, false_and, true_and, and_true, not_true_eq_false, not_false_eq_true, ↓reduceIte, if_true, if_false, Nat.reduceAdd, ite_self, Bool.false_eq_true, e0, hc, H1, q, ↓D1, ↓D2, bI_t, bI_f, n10e, Bool.true_and, Bool.false_and, Bool.and_true, Bool.and_false, Bool.true_eq_false, Bool.false_eq_true, Bool.true_or, Bool.or_true, Bool.false_or, Bool.or_false]
          exact stM_y f3 r2
    · simp (disch := omega) only [a11, a01, ↓li_m, ↓oc_some, ↓oc_ite, ↓oc_oc, ↓oc_pl, ↓oc_none, ↓oc_oe, ↓pl_eq, ↓oe_i, ↓oe_j, va_up_self, va_up_ne, va_up_up, upd_s, upd_n, updL_s, updL_n, nI_add, nI_1, nI_ltI, nI_leI, nI_eq, nI_clamp, li_n, m1_lt, m1_le, m1_gt, m1_ge, m1_ne, m1_en, m1_ad, nle_F, nle_T, nlt_F, nlt_T, neq_F, neq_T, or_self, or_false, false_or, true_or, or_true, and_self, and_false, false_and, true_and, and_true, not_true_eq_false, not_false_eq_true, ↓reduceIte, if_true, if_false, Nat.reduceAdd, ite_self, Bool.false_eq_true, e0, hc, H1, q]
      exact stM_no hrf
  · rw [hc, show opl 23 = 4 from rfl] at hk
    have f1 := (hr.2.2 (k + 1) (by omega)).2
    have g1 := (hr.2.2 (k + 1) (by omega)).1
    have f2 := (hr.2.2 (k + 2) (by omega)).2
    have g2 := (hr.2.2 (k + 2) (by omega)).1
    have f3 := (hr.2.2 (k + 3) (by omega)).2
    have g3 := (hr.2.2 (k + 3) (by omega)).1
    by_cases q1 : 3 < cd (k + 1)
    · simp (disch := omega) only [a11, a01, ↓li_m, ↓oc_some, ↓oc_ite, ↓oc_oc, ↓oc_pl, ↓oc_none, ↓oc_oe, ↓pl_eq, ↓oe_i, ↓oe_j, va_up_self, va_up_ne, va_up_up, upd_s, upd_n, updL_s, updL_n, nI_add, nI_1, nI_ltI, nI_leI, nI_eq, nI_clamp, li_n, m1_lt, m1_le, m1_gt, m1_ge, m1_ne, m1_en, m1_ad, nle_F, nle_T, nlt_F, nlt_T, neq_F, neq_T, or_self, or_false, false_or, true_or, or_true, and_self, and_false, false_and, true_and, and_true, not_true_eq_false, not_false_eq_true, ↓reduceIte, if_true, if_false, Nat.reduceAdd, ite_self, Bool.false_eq_true, e0, hc, H1, f1, f2, f3]
      exact stM_y hrf H
    · by_cases q2 : cd (k + 2) < 4
      · by_cases q3 : cd (k + 3) < 4
        · simp (disch := omega) only [a11, a01, ↓li_m, ↓oc_some, ↓oc_ite, ↓oc_oc, ↓oc_pl, ↓oc_none, ↓oc_oe, ↓pl_eq, ↓oe_i, ↓oe_j, va_up_self, va_up_ne, va_up_up, upd_s, upd_n, updL_s, updL_n, nI_add, nI_1, nI_ltI, nI_leI, nI_eq, nI_clamp, li_n, m1_lt, m1_le, m1_gt, m1_ge, m1_ne, m1_en, m1_ad, nle_F, nle_T, nlt_F, nlt_T, neq_F, neq_T, or_self, or_false, false_or, true_or, or_true, and_self, and_false, false_and, true_and, and_true, not_true_eq_false, not_false_eq_true, ↓reduceIte, if_true, if_false, Nat.reduceAdd, ite_self, Bool.false_eq_true, e0, hc, H1, f1, f2, f3]
          exact stM_y hrf H
        · simp (disch := omega) only [a11, a01, ↓li_m, ↓oc_some, ↓oc_ite, ↓oc_oc, ↓oc_pl, ↓oc_none, ↓oc_oe, ↓pl_eq, ↓oe_i, ↓oe_j, va_up_self, va_up_ne, va_up_up, upd_s, upd_n, updL_s, updL_n, nI_add, nI_1, nI_ltI, nI_leI, nI_eq, nI_clamp, li_n, m1_lt, m1_le, m1_gt, m1_ge, m1_ne, m1_en, m1_ad, nle_F, nle_T, nlt_F, nlt_T, neq_F, neq_T, or_self, or_false, false_or, true_or, or_true, and_self, and_false, false_and, true_and, and_true, not_true_eq_false, not_false_eq_true, ↓reduceIte, if_true, if_false, Nat.reduceAdd, ite_self, Bool.false_eq_true, e0, hc, H1, f1, f2, f3]
          exact stM_no hrf
      · simp (disch := omega) only [a11, a01, ↓li_m, ↓oc_some, ↓oc_ite, ↓oc_oc, ↓oc_pl, ↓oc_none, ↓oc_oe, ↓pl_eq, ↓oe_i, ↓oe_j, va_up_self, va_up_ne, va_up_up, upd_s, upd_n, updL_s, updL_n, nI_add, nI_1, nI_ltI, nI_leI, nI_eq, nI_clamp, li_n, m1_lt, m1_le, m1_gt, m1_ge, m1_ne, m1_en, m1_ad, nle_F, nle_T, nlt_F, nlt_T, neq_F, neq_T, or_self, or_false, false_or, true_or, or_true, and_self, and_false, false_and, true_and, and_true, not_true_eq_false, not_false_eq_true, ↓reduceIte, if_true, if_false, Nat.reduceAdd, ite_self, Bool.false_eq_true, e0, hc, H1, f1, f2, f3]
        exact stM_no hrf
  · rw [hc, show opl 24 = 4 from rfl] at hk
    have f1 := (hr.2.2 (k + 1) (by omega)).2
    have g1 := (hr.2.2 (k + 1) (by omega)).1
    have f2 := (hr.2.2 (k + 2) (by omega)).2
    have g2 := (hr.2.2 (k + 2) (by omega)).1
    have f3 := (hr.2.2 (k + 3) (by omega)).2
    have g3 := (hr.2.2 (k + 3) (by omega)).1
    by_cases q1 : 3 < cd (k + 1)
    · simp (disch := omega) only [a11, a01, ↓li_m, ↓oc_some, ↓oc_ite, ↓oc_oc, ↓oc_pl, ↓oc_none, ↓oc_oe, ↓pl_eq, ↓oe_i, ↓oe_j, va_up_self, va_up_ne, va_up_up, upd_s, upd_n, updL_s, updL_n, nI_add, nI_1, nI_ltI, nI_leI, nI_eq, nI_clamp, li_n, m1_lt, m1_le, m1_gt, m1_ge, m1_ne, m1_en, m1_ad, nle_F, nle_T, nlt_F, nlt_T, neq_F, neq_T, or_self, or_false, false_or, true_or, or_true, and_self, and_false, false_and, true_and, and_true, not_true_eq_false, not_false_eq_true, ↓reduceIte, if_true, if_false, Nat.reduceAdd, ite_self, Bool.false_eq_true, e0, hc, H1, f1, f2, f3]
      exact stM_y hrf H
    · by_cases q2 : cd (k + 2) < 4
      · by_cases q3 : cd (k + 3) < 4
        · simp (disch := omega) only [a11, a01, ↓li_m, ↓oc_some, ↓oc_ite, ↓oc_oc, ↓oc_pl, ↓oc_none, ↓oc_oe, ↓pl_eq, ↓oe_i, ↓oe_j, va_up_self, va_up_ne, va_up_up, upd_s, upd_n, updL_s, updL_n, nI_add, nI_1, nI_ltI, nI_leI, nI_eq, nI_clamp, li_n, m1_lt, m1_le, m1_gt, m1_ge, m1_ne, m1_en, m1_ad, nle_F, nle_T, nlt_F, nlt_T, neq_F, neq_T, or_self, or_false, false_or, true_or, or_true, and_self, and_false, false_and, true_and, and_true, not_true_eq_false, not_false_eq_true, ↓reduceIte, if_true, if_false, Nat.reduceAdd, ite_self, Bool.false_eq_true, e0, hc, H1, f1, f2, f3]
          exact stM_y hrf H
        · simp (disch := omega) only [a11, a01, ↓li_m, ↓oc_some, ↓oc_ite, ↓oc_oc, ↓oc_pl, ↓oc_none, ↓oc_oe, ↓pl_eq, ↓oe_i, ↓oe_j, va_up_self, va_up_ne, va_up_up, upd_s, upd_n, updL_s, updL_n, nI_add, nI_1, nI_ltI, nI_leI, nI_eq, nI_clamp, li_n, m1_lt, m1_le, m1_gt, m1_ge, m1_ne, m1_en, m1_ad, nle_F, nle_T, nlt_F, nlt_T, neq_F, neq_T, or_self, or_false, false_or, true_or, or_true, and_self, and_false, false_and, true_and, and_true, not_true_eq_false, not_false_eq_true, ↓reduceIte, if_true, if_false, Nat.reduceAdd, ite_self, Bool.false_eq_true, e0, hc, H1, f1, f2, f3]
          exact stM_no hrf
      · simp (disch := omega) only [a11, a01, ↓li_m, ↓oc_some, ↓oc_ite, ↓oc_oc, ↓oc_pl, ↓oc_none, ↓oc_oe, ↓pl_eq, ↓oe_i, ↓oe_j, va_up_self, va_up_ne, va_up_up, upd_s, upd_n, updL_s, updL_n, nI_add, nI_1, nI_ltI, nI_leI, nI_eq, nI_clamp, li_n, m1_lt, m1_le, m1_gt, m1_ge, m1_ne, m1_en, m1_ad, nle_F, nle_T, nlt_F, nlt_T, neq_F, neq_T, or_self, or_false, false_or, true_or, or_true, and_self, and_false, false_and, true_and, and_true, not_true_eq_false, not_false_eq_true, ↓reduceIte, if_true, if_false, Nat.reduceAdd, ite_self, Bool.false_eq_true, e0, hc, H1, f1, f2, f3]
        exact stM_no hrf
  · rw [hc, show opl 25 = 4 from rfl] at hk
    have f1 := (hr.2.2 (k + 1) (by omega)).2
    have g1 := (hr.2.2 (k + 1) (by omega)).1
    have f2 := (hr.2.2 (k + 2) (by omega)).2
    have g2 := (hr.2.2 (k + 2) (by omega)).1
    have f3 := (hr.2.2 (k + 3) (by omega)).2
    have g3 := (hr.2.2 (k + 3) (by omega)).1
    by_cases q1 : 3 < cd (k + 1)
    · simp (disch := omega) only [a11, a01, ↓li_m, ↓oc_some, ↓oc_ite, ↓oc_oc, ↓oc_pl, ↓oc_none, ↓oc_oe, ↓pl_eq, ↓oe_i, ↓oe_j, va_up_self, va_up_ne, va_up_up, upd_s, upd_n, updL_s, updL_n, nI_add, nI_1, nI_ltI, nI_leI, nI_eq, nI_clamp, li_n, m1_lt, m1_le, m1_gt, m1_ge, m1_ne, m1_en, m1_ad, nle_F, nle_T, nlt_F, nlt_T, neq_F, neq_T, or_self, or_false, false_or, true_or, or_true, and_self, and_false, false_and, true_and, and_true, not_true_eq_false, not_false_eq_true, ↓reduceIte, if_true, if_false, Nat.reduceAdd, ite_self, Bool.false_eq_true, e0, hc, H1, f1, f2, f3]
      exact stM_y hrf H
    · by_cases q2 : cd (k + 2) < 4
      · by_cases q3 : cd (k + 3) < 4
        · simp (disch := omega) only [a11, a01, ↓li_m, ↓oc_some, ↓oc_ite, ↓oc_oc, ↓oc_pl, ↓oc_none, ↓oc_oe, ↓pl_eq, ↓oe_i, ↓oe_j, va_up_self, va_up_ne, va_up_up, upd_s, upd_n, updL_s, updL_n, nI_add, nI_1, nI_ltI, nI_leI, nI_eq, nI_clamp, li_n, m1_lt, m1_le, m1_gt, m1_ge, m1_ne, m1_en, m1_ad, nle_F, nle_T, nlt_F, nlt_T, neq_F, neq_T, or_self, or_false, false_or, true_or, or_true, and_self, and_false, false_and, true_and, and_true, not_true_eq_false, not_false_eq_true, ↓reduceIte, if_true, if_false, Nat.reduceAdd, ite_self, Bool.false_eq_true, e0, hc, H1, f1, f2, f3]
          exact stM_y hrf H
        · simp (disch := omega) only [a11, a01, ↓li_m, ↓oc_some, ↓oc_ite, ↓oc_oc, ↓oc_pl, ↓oc_none, ↓oc_oe, ↓pl_eq, ↓oe_i, ↓oe_j, va_up_self, va_up_ne, va_up_up, upd_s, upd_n, updL_s, updL_n, nI_add, nI_1, nI_ltI, nI_leI, nI_eq, nI_clamp, li_n, m1_lt, m1_le, m1_gt, m1_ge, m1_ne, m1_en, m1_ad, nle_F, nle_T, nlt_F, nlt_T, neq_F, neq_T, or_self, or_false, false_or, true_or, or_true, and_self, and_false, false_and, true_and, and_true, not_true_eq_false, not_false_eq_true, ↓reduceIte, if_true, if_false, Nat.reduceAdd, ite_self, Bool.false_eq_true, e0, hc, H1, f1, f2, f3]
          exact stM_no hrf
      · simp (disch := omega) only [a11, a01, ↓li_m, ↓oc_some, ↓oc_ite, ↓oc_oc, ↓oc_pl, ↓oc_none, ↓oc_oe, ↓pl_eq, ↓oe_i, ↓oe_j, va_up_self, va_up_ne, va_up_up, upd_s, upd_n, updL_s, updL_n, nI_add, nI_1, nI_ltI, nI_leI, nI_eq, nI_clamp, li_n, m1_lt, m1_le, m1_gt, m1_ge, m1_ne, m1_en, m1_ad, nle_F, nle_T, nlt_F, nlt_T, neq_F, neq_T, or_self, or_false, false_or, true_or, or_true, and_self, and_false, false_and, true_and, and_true, not_true_eq_false, not_false_eq_true, ↓reduceIte, if_true, if_false, Nat.reduceAdd, ite_self, Bool.false_eq_true, e0, hc, H1, f1, f2, f3]
        exact stM_no hrf
  · obtain ⟨I1, J1, g1, g2, g3⟩ := gvM true H
    have e1 : ∀ {F : Int32 → MI → MJ → Option (Int32 × MI × MJ)}, oc (f_Model_gives 1 I J) F = _ := fun {F} => g1 rfl
    by_cases q : h < 64
    · simp (disch := omega) only [a11, a01, ↓li_m, ↓oc_some, ↓oc_ite, ↓oc_oc, ↓oc_pl, ↓oc_none, ↓oc_oe, ↓pl_eq, ↓oe_i, ↓oe_j, va_up_self, va_up_ne, va_up_up, upd_s, upd_n, updL_s, updL_n, nI_add, nI_1, nI_ltI, nI_leI, nI_eq, nI_clamp, li_n, m1_lt, m1_le, m1_gt, m1_ge, m1_ne, m1_en, m1_ad, nle_F, nle_T, nlt_F, nlt_T, neq_F, neq_T, or_self, or_false, false_or, true_or, or_true, and_self, and_false, false_and, true_and, and_true, not_true_eq_false, not_false_eq_true, ↓reduceIte, if_true, if_false, Nat.reduceAdd, ite_self, Bool.false_eq_true, e0, hc, H1, ↓e1, q, n10e]
      exact stM_ps g2 q g3
    · simp (disch := omega) only [a11, a01, ↓li_m, ↓oc_some, ↓oc_ite, ↓oc_oc, ↓oc_pl, ↓oc_none, ↓oc_oe, ↓pl_eq, ↓oe_i, ↓oe_j, va_up_self, va_up_ne, va_up_up, upd_s, upd_n, updL_s, updL_n, nI_add, nI_1, nI_ltI, nI_leI, nI_eq, nI_clamp, li_n, m1_lt, m1_le, m1_gt, m1_ge, m1_ne, m1_en, m1_ad, nle_F, nle_T, nlt_F, nlt_T, neq_F, neq_T, or_self, or_false, false_or, true_or, or_true, and_self, and_false, false_and, true_and, and_true, not_true_eq_false, not_false_eq_true, ↓reduceIte, if_true, if_false, Nat.reduceAdd, ite_self, Bool.false_eq_true, e0, hc, H1, ↓e1, q, n10e, psh]
      exact stM_no g2
  · simp (disch := omega) only [a11, a01, ↓li_m, ↓oc_some, ↓oc_ite, ↓oc_oc, ↓oc_pl, ↓oc_none, ↓oc_oe, ↓pl_eq, ↓oe_i, ↓oe_j, va_up_self, va_up_ne, va_up_up, upd_s, upd_n, updL_s, updL_n, nI_add, nI_1, nI_ltI, nI_leI, nI_eq, nI_clamp, li_n, m1_lt, m1_le, m1_gt, m1_ge, m1_ne, m1_en, m1_ad, nle_F, nle_T, nlt_F, nlt_T, neq_F, neq_T, or_self, or_false, false_or, true_or, or_true, and_self, and_false, false_and, true_and, and_true, not_true_eq_false, not_false_eq_true, ↓reduceIte, if_true, if_false, Nat.reduceAdd, ite_self, Bool.false_eq_true, e0, hc, H1]
    exact stM_y hrf H
  · have q : h = 0 := hz (by omega)
    subst q
    simp (disch := omega) only [a11, a01, ↓li_m, ↓oc_some, ↓oc_ite, ↓oc_oc, ↓oc_pl, ↓oc_none, ↓oc_oe, ↓pl_eq, ↓oe_i, ↓oe_j, va_up_self, va_up_ne, va_up_up, upd_s, upd_n, updL_s, updL_n, nI_add, nI_1, nI_ltI, nI_leI, nI_eq, nI_clamp, li_n, m1_lt, m1_le, m1_gt, m1_ge, m1_ne, m1_en, m1_ad, nle_F, nle_T, nlt_F, nlt_T, neq_F, neq_T, or_self, or_false, false_or, true_or, or_true, and_self, and_false, false_and, true_and, and_true, not_true_eq_false, not_false_eq_true, ↓reduceIte, if_true, if_false, Nat.reduceAdd, ite_self, Bool.false_eq_true, e0, hc, H1]
    exact stM_y hrf H
  · have q : h = 0 := hz (by omega)
    subst q
    simp (disch := omega) only [a11, a01, ↓li_m, ↓oc_some, ↓oc_ite, ↓oc_oc, ↓oc_pl, ↓oc_none, ↓oc_oe, ↓pl_eq, ↓oe_i, ↓oe_j, va_up_self, va_up_ne, va_up_up, upd_s, upd_n, updL_s, updL_n, nI_add, nI_1, nI_ltI, nI_leI, nI_eq, nI_clamp, li_n, m1_lt, m1_le, m1_gt, m1_ge, m1_ne, m1_en, m1_ad, nle_F, nle_T, nlt_F, nlt_T, neq_F, neq_T, or_self, or_false, false_or, true_or, or_true, and_self, and_false, false_and, true_and, and_true, not_true_eq_false, not_false_eq_true, ↓reduceIte, if_true, if_false, Nat.reduceAdd, ite_self, Bool.false_eq_true, e0, hc, H1]
    exact stM_y hrf H
