/-! load: the pile, one operation -/
def bI (b : Bool) : Int32 := if b = true then nI 1 else nI 0
theorem bI_t : bI true = nI 1 := rfl
theorem bI_f : bI false = nI 0 := rfl
theorem n10 : ¬ nI 1 = nI 0 := by decide
theorem n10e : (nI 1 = nI 0) = False := eq_false n10
theorem n01e : (nI 0 = nI 1) = False := eq_false n01
def bup (f : Nat → Bool) (k : Nat) (b : Bool) : Nat → Bool := fun j => if j = k then b else f j
theorem bup_s (f : Nat → Bool) (k : Nat) (b : Bool) : bup f k b k = b := if_pos rfl
theorem bup_n (f : Nat → Bool) {k j : Nat} (b : Bool) (h : j ≠ k) : bup f k b j = f j := if_neg h
def psh (b : Bool) (h : Nat) (sf : Nat → Bool) : Option (Nat × (Nat → Bool)) := if h < 64 then some (h + 1, bup sf h b) else none
def fl (op p q r h : Nat) (sf : Nat → Bool) : Option (Nat × (Nat → Bool)) :=
  if op = 0 ∨ op = 17 ∨ op = 18 ∨ op = 28 ∨ op = 29 then (if h = 0 then some (h, sf) else none)
  else if op = 1 ∨ op = 2 then psh false h sf
  else if op = 3 ∨ op = 26 then psh true h sf
  else if op = 4 ∨ op = 5 then (if 2 ≤ h then psh (sf (h - 1) || sf (h - 2)) (h - 2) sf else none)
  else if op = 6 then (if 2 ≤ h ∧ (sf (h - 1) && sf (h - 2)) = false then psh (sf (h - 1) || sf (h - 2)) (h - 2) sf else none)
  else if op = 7 then (if 2 ≤ h ∧ (sf (h - 1) && sf (h - 2)) = true then psh (sf (h - 1) || sf (h - 2)) (h - 2) sf else none)
  else if op = 8 then (if 1 ≤ h then some (h, sf) else none)
  else if op = 9 ∨ op = 19 then (if 1 ≤ h ∧ sf (h - 1) = false then some (h, sf) else none)
  else if op = 10 then (if 1 ≤ h ∧ sf (h - 1) = true then some (h, sf) else none)
  else if op = 11 then (if 1 ≤ h ∧ sf (h - 1) = false then some (h - 1, sf) else none)
  else if op = 12 then (if 1 ≤ h then some (h - 1, sf) else none)
  else if op = 20 then (if 1 ≤ h ∧ sf (h - 1) = false then psh true (h - 1) sf else none)
  else if op = 21 then (if 2 ≤ h ∧ sf (h - 1) = false ∧ sf (h - 2) = false then some (h - 2, sf) else none)
  else if op = 22 then (if 2 ≤ h ∧ sf (h - 2) = false then some (h - 2, sf) else none)
  else if op = 23 ∨ op = 24 ∨ op = 25 then (if 3 < p ∨ (q < 4 ∧ r < 4) then some (h, sf) else none)
  else some (h, sf)
def rpC (I : MI) (h : Nat) (sf : Nat → Bool) : Prop := I 10 3 = nI h ∧ h ≤ 64 ∧ ∀ i, i < h → I 13 i = bI (sf i)
theorem sC1 {I : MI} {J : MJ} {h : Nat} {sf : Nat → Bool} (H : rpC I h sf) (h1 : 1 ≤ h) : f_Verifier_isSecret 1 I J = some (bI (sf (h - 1)), I, J) := by
  unfold f_Verifier_isSecret
  have e := H.2.2 (h - 1) (by omega)
  have hh := H.2.1
  rw [H.1, show nI h - 1 = nI (h - 1) from nI_sb h1, im (by omega) (by omega), oc_some, e]
  cases sf (h - 1) with
  | true => simp (disch := omega) only [a11, a01, ↓li_m, ↓oc_some, ↓oc_ite, ↓oc_oc, ↓oc_pl, ↓oc_none, ↓oc_oe, ↓pl_eq, ↓oe_i, ↓oe_j, va_up_self, va_up_ne, va_up_up, upd_s, upd_n, updL_s, updL_n, nI_add, nI_1, nI_ltI, nI_leI, nI_eq, nI_clamp, li_n, m1_lt, m1_le, m1_gt, m1_ge, m1_ne, m1_en, m1_ad, nle_F, nle_T, nlt_F, nlt_T, neq_F, neq_T, or_self, or_false, false_or, true_or, or_true, and_self, and_false, false_and, true_and, and_true, not_true_eq_false, not_false_eq_true, ↓reduceIte, if_true, if_false, Nat.reduceAdd, ite_self, Bool.false_eq_true, bI_t, n10e]
  | false => simp (disch := omega) only [a11, a01, ↓li_m, ↓oc_some, ↓oc_ite, ↓oc_oc, ↓oc_pl, ↓oc_none, ↓oc_oe, ↓pl_eq, ↓oe_i, ↓oe_j, va_up_self, va_up_ne, va_up_up, upd_s, upd_n, updL_s, updL_n, nI_add, nI_1, nI_ltI, nI_leI, nI_eq, nI_clamp, li_n, m1_lt, m1_le, m1_gt, m1_ge, m1_ne, m1_en, m1_ad, nle_F, nle_T, nlt_F, nlt_T, neq_F, neq_T, or_self, or_false, false_or, true_or, or_true, and_self, and_false, false_and, true_and, and_true, not_true_eq_false, not_false_eq_true, ↓reduceIte, if_true, if_false, Nat.reduceAdd, ite_self, Bool.false_eq_true, bI_f]
theorem sC2 {I : MI} {J : MJ} {h : Nat} {sf : Nat → Bool} (H : rpC I h sf) (h1 : 2 ≤ h) : f_Verifier_isSecret 2 I J = some (bI (sf (h - 2)), I, J) := by
  unfold f_Verifier_isSecret
  have e := H.2.2 (h - 2) (by omega)
  have hh := H.2.1
  rw [H.1, show nI h - 2 = nI (h - 2) from nI_sb h1, im (by omega) (by omega), oc_some, e]
  cases sf (h - 2) with
  | true => simp (disch := omega) only [a11, a01, ↓li_m, ↓oc_some, ↓oc_ite, ↓oc_oc, ↓oc_pl, ↓oc_none, ↓oc_oe, ↓pl_eq, ↓oe_i, ↓oe_j, va_up_self, va_up_ne, va_up_up, upd_s, upd_n, updL_s, updL_n, nI_add, nI_1, nI_ltI, nI_leI, nI_eq, nI_clamp, li_n, m1_lt, m1_le, m1_gt, m1_ge, m1_ne, m1_en, m1_ad, nle_F, nle_T, nlt_F, nlt_T, neq_F, neq_T, or_self, or_false, false_or, true_or, or_true, and_self, and_false, false_and, true_and, and_true, not_true_eq_false, not_false_eq_true, ↓reduceIte, if_true, if_false, Nat.reduceAdd, ite_self, Bool.false_eq_true, bI_t, n10e]
  | false => simp (disch := omega) only [a11, a01, ↓li_m, ↓oc_some, ↓oc_ite, ↓oc_oc, ↓oc_pl, ↓oc_none, ↓oc_oe, ↓pl_eq, ↓oe_i, ↓oe_j, va_up_self, va_up_ne, va_up_up, upd_s, upd_n, updL_s, updL_n, nI_add, nI_1, nI_ltI, nI_leI, nI_eq, nI_clamp, li_n, m1_lt, m1_le, m1_gt, m1_ge, m1_ne, m1_en, m1_ad, nle_F, nle_T, nlt_F, nlt_T, neq_F, neq_T, or_self, or_false, false_or, true_or, or_true, and_self, and_false, false_and, true_and, and_true, not_true_eq_false, not_false_eq_true, ↓reduceIte, if_true, if_false, Nat.reduceAdd, ite_self, Bool.false_eq_true, bI_f]
theorem pC1 {I : MI} {J : MJ} {h : Nat} {b : Bool} (H : I 10 3 = nI h) (h1 : h < 64) {p : Int32} (hp : p = bI b) : f_Verifier_pushes p I J = some (nI 1, va_up (va_up I 13 (upd (I 13) h (bI b))) 10 (upd (I 10) 3 (nI (h + 1))), J) := by
  subst hp
  unfold f_Verifier_pushes
  cases b with
  | true => simp (disch := omega) only [a11, a01, ↓li_m, ↓oc_some, ↓oc_ite, ↓oc_oc, ↓oc_pl, ↓oc_none, ↓oc_oe, ↓pl_eq, ↓oe_i, ↓oe_j, va_up_self, va_up_ne, va_up_up, upd_s, upd_n, updL_s, updL_n, nI_add, nI_1, nI_ltI, nI_leI, nI_eq, nI_clamp, li_n, m1_lt, m1_le, m1_gt, m1_ge, m1_ne, m1_en, m1_ad, nle_F, nle_T, nlt_F, nlt_T, neq_F, neq_T, or_self, or_false, false_or, true_or, or_true, and_self, and_false, false_and, true_and, and_true, not_true_eq_false, not_false_eq_true, ↓reduceIte, if_true, if_false, Nat.reduceAdd, ite_self, Bool.false_eq_true, H, bI_t]
  | false => simp (disch := omega) only [a11, a01, ↓li_m, ↓oc_some, ↓oc_ite, ↓oc_oc, ↓oc_pl, ↓oc_none, ↓oc_oe, ↓pl_eq, ↓oe_i, ↓oe_j, va_up_self, va_up_ne, va_up_up, upd_s, upd_n, updL_s, updL_n, nI_add, nI_1, nI_ltI, nI_leI, nI_eq, nI_clamp, li_n, m1_lt, m1_le, m1_gt, m1_ge, m1_ne, m1_en, m1_ad, nle_F, nle_T, nlt_F, nlt_T, neq_F, neq_T, or_self, or_false, false_or, true_or, or_true, and_self, and_false, false_and, true_and, and_true, not_true_eq_false, not_false_eq_true, ↓reduceIte, if_true, if_false, Nat.reduceAdd, ite_self, Bool.false_eq_true, H, bI_f]
theorem pC0 {I : MI} {J : MJ} {h : Nat} {p : Int32} (H : I 10 3 = nI h) (h1 : h = 64) : f_Verifier_pushes p I J = some (nI 0, I, J) := by
  unfold f_Verifier_pushes
  simp (disch := omega) only [a11, a01, ↓li_m, ↓oc_some, ↓oc_ite, ↓oc_oc, ↓oc_pl, ↓oc_none, ↓oc_oe, ↓pl_eq, ↓oe_i, ↓oe_j, va_up_self, va_up_ne, va_up_up, upd_s, upd_n, updL_s, updL_n, nI_add, nI_1, nI_ltI, nI_leI, nI_eq, nI_clamp, li_n, m1_lt, m1_le, m1_gt, m1_ge, m1_ne, m1_en, m1_ad, nle_F, nle_T, nlt_F, nlt_T, neq_F, neq_T, or_self, or_false, false_or, true_or, or_true, and_self, and_false, false_and, true_and, and_true, not_true_eq_false, not_false_eq_true, ↓reduceIte, if_true, if_false, Nat.reduceAdd, ite_self, Bool.false_eq_true, H]
theorem jC {I : MI} {J : MJ} {h : Nat} {sf : Nat → Bool} (H : rpC I h sf) (h1 : 2 ≤ h) : f_Verifier_joins I J = some (nI 1, va_up (va_up I 13 (upd (I 13) (h - 2) (bI (sf (h - 1) || sf (h - 2))))) 10 (upd (I 10) 3 (nI (h - 2 + 1))), J) := by
  unfold f_Verifier_joins
  have hh := H.2.1
  have e3 : ∀ {p : Int32} {F : Int32 → MI → MJ → Option (Int32 × MI × MJ)}, p = bI (sf (h - 1) || sf (h - 2)) → oc (f_Verifier_pushes p (va_up I 10 (upd (I 10) 3 (nI (h - 2)))) J) F = F (nI 1) (va_up (va_up I 13 (upd (I 13) (h - 2) (bI (sf (h - 1) || sf (h - 2))))) 10 (upd (I 10) 3 (nI (h - 2 + 1)))) J := by
    intro p F hp
    rw [pC1 (h := h - 2) (b := sf (h - 1) || sf (h - 2)) (by simp (disch := omega) only [a11, a01, ↓li_m, ↓oc_some, ↓oc_ite, ↓oc_oc, ↓oc_pl, ↓oc_none, ↓oc_oe, ↓pl_eq, ↓oe_i, ↓oe_j, va_up_self, va_up_ne, va_up_up, upd_s, upd_n, updL_s, updL_n, nI_add, nI_1, nI_ltI, nI_leI, nI_eq, nI_clamp, li_n, m1_lt, m1_le, m1_gt, m1_ge, m1_ne, m1_en, m1_ad, nle_F, nle_T, nlt_F, nlt_T, neq_F, neq_T, or_self, or_false, false_or, true_or, or_true, and_self, and_false, false_and, true_and, and_true, not_true_eq_false, not_false_eq_true, ↓reduceIte, if_true, if_false, Nat.reduceAdd, ite_self, Bool.false_eq_true]) (by omega) hp, oc_some]
    simp (disch := omega) only [a11, a01, ↓li_m, ↓oc_some, ↓oc_ite, ↓oc_oc, ↓oc_pl, ↓oc_none, ↓oc_oe, ↓pl_eq, ↓oe_i, ↓oe_j, va_up_self, va_up_ne, va_up_up, upd_s, upd_n, updL_s, updL_n, nI_add, nI_1, nI_ltI, nI_leI, nI_eq, nI_clamp, li_n, m1_lt, m1_le, m1_gt, m1_ge, m1_ne, m1_en, m1_ad, nle_F, nle_T, nlt_F, nlt_T, neq_F, neq_T, or_self, or_false, false_or, true_or, or_true, and_self, and_false, false_and, true_and, and_true, not_true_eq_false, not_false_eq_true, ↓reduceIte, if_true, if_false, Nat.reduceAdd, ite_self, Bool.false_eq_true, upd_u, va_3 _ _ _ _ (show 10 ≠ 13 by decide)]
  have e2 : ∀ {F : Int32 → MI → MJ → Option (Int32 × MI × MJ)}, oc (f_Verifier_drops 2 I J) F = F 1 (va_up I 10 (upd (I 10) 3 (nI (h - 2)))) J := fun {F} => by
    unfold f_Verifier_drops
    rw [pl_eq, H.1, show nI h - 2 = nI (h - 2) from nI_sb h1, oc_some]
  have s1 : ∀ {F : Int32 → MI → MJ → Option (Int32 × MI × MJ)}, oc (f_Verifier_isSecret 1 I J) F = F (bI (sf (h - 1))) I J := fun {F} => by rw [sC1 H (by omega), oc_some]
  have s2 : ∀ {F : Int32 → MI → MJ → Option (Int32 × MI × MJ)}, oc (f_Verifier_isSecret 2 I J) F = F (bI (sf (h - 2))) I J := fun {F} => by rw [sC2 H h1, oc_some]
  cases t1 : sf (h - 1) with
  | true =>
    rw [t1] at e3 s1
    have e4 : ∀ {F : Int32 → MI → MJ → Option (Int32 × MI × MJ)}, oc (f_Verifier_pushes 1 (va_up I 10 (upd (I 10) 3 (nI (h - 2)))) J) F = _ := fun {F} => e3 (by rw [Bool.true_or]; rfl)
    simp (disch := omega) only [a11, a01, ↓li_m, ↓oc_some, ↓oc_ite, ↓oc_oc, ↓oc_pl, ↓oc_none, ↓oc_oe, ↓pl_eq, ↓oe_i, ↓oe_j, va_up_self, va_up_ne, va_up_up, upd_s, upd_n, updL_s, updL_n, nI_add, nI_1, nI_ltI, nI_leI, nI_eq, nI_clamp, li_n, m1_lt, m1_le, m1_gt, m1_ge, m1_ne, m1_en, m1_ad, nle_F, nle_T, nlt_F, nlt_T, neq_F, neq_T, or_self, or_false, false_or, true_or, or_true, and_self, and_false, false_and, true_and, and_true, not_true_eq_false, not_false_eq_true, ↓reduceIte, if_true, if_false, Nat.reduceAdd, ite_self, Bool.false_eq_true, bI_t, n10e, ↓e2, ↓e4, ↓s1, ↓s2]
  | false =>
    cases t2 : sf (h - 2) with
    | true =>
      rw [t1, t2] at e3
      rw [t1] at s1
      rw [t2] at s2
      have e4 : ∀ {F : Int32 → MI → MJ → Option (Int32 × MI × MJ)}, oc (f_Verifier_pushes 1 (va_up I 10 (upd (I 10) 3 (nI (h - 2)))) J) F = _ := fun {F} => e3 rfl
      simp (disch := omega) only [a11, a01, ↓li_m, ↓oc_some, ↓oc_ite, ↓oc_oc, ↓oc_pl, ↓oc_none, ↓oc_oe, ↓pl_eq, ↓oe_i, ↓oe_j, va_up_self, va_up_ne, va_up_up, upd_s, upd_n, updL_s, updL_n, nI_add, nI_1, nI_ltI, nI_leI, nI_eq, nI_clamp, li_n, m1_lt, m1_le, m1_gt, m1_ge, m1_ne, m1_en, m1_ad, nle_F, nle_T, nlt_F, nlt_T, neq_F, neq_T, or_self, or_false, false_or, true_or, or_true, and_self, and_false, false_and, true_and, and_true, not_true_eq_false, not_false_eq_true, ↓reduceIte, if_true, if_false, Nat.reduceAdd, ite_self, Bool.false_eq_true, bI_t, bI_f, n10e, ↓e2, ↓e4, ↓s1, ↓s2]
    | false =>
      rw [t1, t2] at e3
      rw [t1] at s1
      rw [t2] at s2
      have e4 : ∀ {F : Int32 → MI → MJ → Option (Int32 × MI × MJ)}, oc (f_Verifier_pushes 0 (va_up I 10 (upd (I 10) 3 (nI (h - 2)))) J) F = _ := fun {F} => e3 rfl
      simp (disch := omega) only [a11, a01, ↓li_m, ↓oc_some, ↓oc_ite, ↓oc_oc, ↓oc_pl, ↓oc_none, ↓oc_oe, ↓pl_eq, ↓oe_i, ↓oe_j, va_up_self, va_up_ne, va_up_up, upd_s, upd_n, updL_s, updL_n, nI_add, nI_1, nI_ltI, nI_leI, nI_eq, nI_clamp, li_n, m1_lt, m1_le, m1_gt, m1_ge, m1_ne, m1_en, m1_ad, nle_F, nle_T, nlt_F, nlt_T, neq_F, neq_T, or_self, or_false, false_or, true_or, or_true, and_self, and_false, false_and, true_and, and_true, not_true_eq_false, not_false_eq_true, ↓reduceIte, if_true, if_false, Nat.reduceAdd, ite_self, Bool.false_eq_true, bI_t, bI_f, n10e, ↓e2, ↓e4, ↓s1, ↓s2]
/-- the class's cells of a pile after an operation -/
def stC (I : MI) (J : MJ) (o : Option (Nat × (Nat → Bool))) (r : M2 Int32) : Prop := ∃ v I1, r = some (v, I1, J) ∧ (∀ a, a ≠ 10 → a ≠ 13 → I1 a = I a) ∧ (∀ j, j ≠ 3 → I1 10 j = I 10 j) ∧ match o with
  | some x => v = nI 1 ∧ rpC I1 x.1 x.2
  | none => v = nI 0
theorem stC_same {I : MI} {J : MJ} {h : Nat} {sf : Nat → Bool} (H : rpC I h sf) : stC I J (some (h, sf)) (some (nI 1, I, J)) := ⟨_, _, rfl, fun _ _ _ => rfl, fun _ _ => rfl, rfl, H⟩
theorem stC_no {I : MI} {J : MJ} : stC I J none (some (nI 0, I, J)) := ⟨_, _, rfl, fun _ _ _ => rfl, fun _ _ => rfl, rfl⟩
theorem stC_dr {I : MI} {J : MJ} {h j : Nat} {sf : Nat → Bool} (H : rpC I h sf) (hj : j ≤ h) : stC I J (some (j, sf)) (some (nI 1, va_up I 10 (upd (I 10) 3 (nI j)), J)) := by
  have hh := H.2.1
  refine ⟨_, _, rfl, fun a h1 _ => va_up_ne _ _ h1, fun k hk => ?_, rfl, ?_, by omega, fun i hi => ?_⟩
  · simp (disch := omega) only [a11, a01, ↓li_m, ↓oc_some, ↓oc_ite, ↓oc_oc, ↓oc_pl, ↓oc_none, ↓oc_oe, ↓pl_eq, ↓oe_i, ↓oe_j, va_up_self, va_up_ne, va_up_up, upd_s, upd_n, updL_s, updL_n, nI_add, nI_1, nI_ltI, nI_leI, nI_eq, nI_clamp, li_n, m1_lt, m1_le, m1_gt, m1_ge, m1_ne, m1_en, m1_ad, nle_F, nle_T, nlt_F, nlt_T, neq_F, neq_T, or_self, or_false, false_or, true_or, or_true, and_self, and_false, false_and, true_and, and_true, not_true_eq_false, not_false_eq_true, ↓reduceIte, if_true, if_false, Nat.reduceAdd, ite_self, Bool.false_eq_true]
  · simp (disch := omega) only [a11, a01, ↓li_m, ↓oc_some, ↓oc_ite, ↓oc_oc, ↓oc_pl, ↓oc_none, ↓oc_oe, ↓pl_eq, ↓oe_i, ↓oe_j, va_up_self, va_up_ne, va_up_up, upd_s, upd_n, updL_s, updL_n, nI_add, nI_1, nI_ltI, nI_leI, nI_eq, nI_clamp, li_n, m1_lt, m1_le, m1_gt, m1_ge, m1_ne, m1_en, m1_ad, nle_F, nle_T, nlt_F, nlt_T, neq_F, neq_T, or_self, or_false, false_or, true_or, or_true, and_self, and_false, false_and, true_and, and_true, not_true_eq_false, not_false_eq_true, ↓reduceIte, if_true, if_false, Nat.reduceAdd, ite_self, Bool.false_eq_true]
  · simp (disch := omega) only [a11, a01, ↓li_m, ↓oc_some, ↓oc_ite, ↓oc_oc, ↓oc_pl, ↓oc_none, ↓oc_oe, ↓pl_eq, ↓oe_i, ↓oe_j, va_up_self, va_up_ne, va_up_up, upd_s, upd_n, updL_s, updL_n, nI_add, nI_1, nI_ltI, nI_leI, nI_eq, nI_clamp, li_n, m1_lt, m1_le, m1_gt, m1_ge, m1_ne, m1_en, m1_ad, nle_F, nle_T, nlt_F, nlt_T, neq_F, neq_T, or_self, or_false, false_or, true_or, or_true, and_self, and_false, false_and, true_and, and_true, not_true_eq_false, not_false_eq_true, ↓reduceIte, if_true, if_false, Nat.reduceAdd, ite_self, Bool.false_eq_true]
    exact H.2.2 i (by omega)
theorem stC_ps {I : MI} {J : MJ} {h j : Nat} {b : Bool} {sf : Nat → Bool} (H : rpC I h sf) (hj : j ≤ h) (h6 : j < 64) : stC I J (psh b j sf) (some (nI 1, va_up (va_up I 13 (upd (I 13) j (bI b))) 10 (upd (I 10) 3 (nI (j + 1))), J)) := by
  have hh := H.2.1
  unfold psh
  rw [if_pos h6]
  refine ⟨_, _, rfl, fun a h1 h2 => ?_, fun k hk => ?_, rfl, ?_, by omega, fun i hi => ?_⟩
  · simp (disch := omega) only [a11, a01, ↓li_m, ↓oc_some, ↓oc_ite, ↓oc_oc, ↓oc_pl, ↓oc_none, ↓oc_oe, ↓pl_eq, ↓oe_i, ↓oe_j, va_up_self, va_up_ne, va_up_up, upd_s, upd_n, updL_s, updL_n, nI_add, nI_1, nI_ltI, nI_leI, nI_eq, nI_clamp, li_n, m1_lt, m1_le, m1_gt, m1_ge, m1_ne, m1_en, m1_ad, nle_F, nle_T, nlt_F, nlt_T, neq_F, neq_T, or_self, or_false, false_or, true_or, or_true, and_self, and_false, false_and, true_and, and_true, not_true_eq_false, not_false_eq_true, ↓reduceIte, if_true, if_false, Nat.reduceAdd, ite_self, Bool.false_eq_true]
  · simp (disch := omega) only [a11, a01, ↓li_m, ↓oc_some, ↓oc_ite, ↓oc_oc, ↓oc_pl, ↓oc_none, ↓oc_oe, ↓pl_eq, ↓oe_i, ↓oe_j, va_up_self, va_up_ne, va_up_up, upd_s, upd_n, updL_s, updL_n, nI_add, nI_1, nI_ltI, nI_leI, nI_eq, nI_clamp, li_n, m1_lt, m1_le, m1_gt, m1_ge, m1_ne, m1_en, m1_ad, nle_F, nle_T, nlt_F, nlt_T, neq_F, neq_T, or_self, or_false, false_or, true_or, or_true, and_self, and_false, false_and, true_and, and_true, not_true_eq_false, not_false_eq_true, ↓reduceIte, if_true, if_false, Nat.reduceAdd, ite_self, Bool.false_eq_true]
  · simp (disch := omega) only [a11, a01, ↓li_m, ↓oc_some, ↓oc_ite, ↓oc_oc, ↓oc_pl, ↓oc_none, ↓oc_oe, ↓pl_eq, ↓oe_i, ↓oe_j, va_up_self, va_up_ne, va_up_up, upd_s, upd_n, updL_s, updL_n, nI_add, nI_1, nI_ltI, nI_leI, nI_eq, nI_clamp, li_n, m1_lt, m1_le, m1_gt, m1_ge, m1_ne, m1_en, m1_ad, nle_F, nle_T, nlt_F, nlt_T, neq_F, neq_T, or_self, or_false, false_or, true_or, or_true, and_self, and_false, false_and, true_and, and_true, not_true_eq_false, not_false_eq_true, ↓reduceIte, if_true, if_false, Nat.reduceAdd, ite_self, Bool.false_eq_true]
  · simp (disch := omega) only [a11, a01, ↓li_m, ↓oc_some, ↓oc_ite, ↓oc_oc, ↓oc_pl, ↓oc_none, ↓oc_oe, ↓pl_eq, ↓oe_i, ↓oe_j, va_up_self, va_up_ne, va_up_up, upd_s, upd_n, updL_s, updL_n, nI_add, nI_1, nI_ltI, nI_leI, nI_eq, nI_clamp, li_n, m1_lt, m1_le, m1_gt, m1_ge, m1_ne, m1_en, m1_ad, nle_F, nle_T, nlt_F, nlt_T, neq_F, neq_T, or_self, or_false, false_or, true_or, or_true, and_self, and_false, false_and, true_and, and_true, not_true_eq_false, not_false_eq_true, ↓reduceIte, if_true, if_false, Nat.reduceAdd, ite_self, Bool.false_eq_true]
    by_cases e : i = j
    · subst e
      rw [upd_s, bup_s]
    · rw [upd_n _ _ e, bup_n _ _ e]
      exact H.2.2 i (by omega)
theorem fC {n k h : Nat} {cd : Nat → Nat} {sf : Nat → Bool} {I : MI} {J : MJ} (hr : rowC I 1 2 n cd) (hn : n ≤ 2000) (H : rpC I h sf) (ho : cd k ≤ 29) (hk : k + opl (cd k) ≤ n) : stC I J (fl (cd k) (cd (k + 1)) (cd (k + 2)) (cd (k + 3)) h sf) (f_Verifier_fits 1 2 2000 (nI k) I J) := by
  have hl := opl_1 ho
  have H1 := H.1
  have H2 := H.2.1
  have a0 : ∀ {α : Type} {F : Int32 → MI → MJ → Option α}, oc (f_Row_at 1 2 2000 (nI k) I J) F = F (nI (cd k)) I J := fun {α F} => by
    rw [w_at1 (m := 2000) hr hn (by omega) (by omega), oc_some]
  have dr : ∀ {j : Nat} {p : Int32} {α : Type} {F : Int32 → MI → MJ → Option α}, p = nI j → j ≤ h → oc (f_Verifier_drops p I J) F = F (nI 1) (va_up I 10 (upd (I 10) 3 (nI (h - j)))) J := by
    intro j p α F hp hj
    subst hp
    unfold f_Verifier_drops
    rw [oc_pl, oc_some, H1, nI_sb hj]
    rfl
  unfold f_Verifier_fits fl
  rcases c30 ho with hc | hc | hc | hc | hc | hc | hc | hc | hc | hc | hc | hc | hc | hc | hc | hc | hc | hc | hc | hc | hc | hc | hc | hc | hc | hc | hc | hc | hc | hc

  · by_cases q : h = 0
    · simp (disch := omega) only [a11, a01, ↓li_m, ↓oc_some, ↓oc_ite, ↓oc_oc, ↓oc_pl, ↓oc_none, ↓oc_oe, ↓pl_eq, ↓oe_i, ↓oe_j, va_up_self, va_up_ne, va_up_up, upd_s, upd_n, updL_s, updL_n, nI_add, nI_1, nI_ltI, nI_leI, nI_eq, nI_clamp, li_n, m1_lt, m1_le, m1_gt, m1_ge, m1_ne, m1_en, m1_ad, nle_F, nle_T, nlt_F, nlt_T, neq_F, neq_T, or_self, or_false, false_or, true_or, or_true, and_self, and_false, false_and, true_and, and_true, not_true_eq_false, not_false_eq_true, ↓reduceIte, if_true, if_false, Nat.reduceAdd, ite_self, Bool.false_eq_true, ↓a0, hc, H1, q]
      exact stC_same (by rw [← q]; exact H)
    · simp (disch := omega) only [a11, a01, ↓li_m, ↓oc_some, ↓oc_ite, ↓oc_oc, ↓oc_pl, ↓oc_none, ↓oc_oe, ↓pl_eq, ↓oe_i, ↓oe_j, va_up_self, va_up_ne, va_up_up, upd_s, upd_n, updL_s, updL_n, nI_add, nI_1, nI_ltI, nI_leI, nI_eq, nI_clamp, li_n, m1_lt, m1_le, m1_gt, m1_ge, m1_ne, m1_en, m1_ad, nle_F, nle_T, nlt_F, nlt_T, neq_F, neq_T, or_self, or_false, false_or, true_or, or_true, and_self, and_false, false_and, true_and, and_true, not_true_eq_false, not_false_eq_true, ↓reduceIte, if_true, if_false, Nat.reduceAdd, ite_self, Bool.false_eq_true, ↓a0, hc, H1, q]
      exact stC_no
  · by_cases q : h < 64
    · have e := pC1 (J := J) (b := false) H1 q (p := 0) rfl
      have f := stC_ps (J := J) (b := false) H (Nat.le_refl h) q
      rw [← e] at f
      have e2 : ∀ {F : Int32 → MI → MJ → Option (Int32 × MI × MJ)}, oc (f_Verifier_pushes 0 I J) F = F (nI 1) (va_up (va_up I 13 (upd (I 13) h (bI false))) 10 (upd (I 10) 3 (nI (h + 1)))) J := fun {F} => by rw [e, oc_some]
      rw [e] at f
      simp (disch := omega) only [a11, a01, ↓li_m, ↓oc_some, ↓oc_ite, ↓oc_oc, ↓oc_pl, ↓oc_none, ↓oc_oe, ↓pl_eq, ↓oe_i, ↓oe_j, va_up_self, va_up_ne, va_up_up, upd_s, upd_n, updL_s, updL_n, nI_add, nI_1, nI_ltI, nI_leI, nI_eq, nI_clamp, li_n, m1_lt, m1_le, m1_gt, m1_ge, m1_ne, m1_en, m1_ad, nle_F, nle_T, nlt_F, nlt_T, neq_F, neq_T, or_self, or_false, false_or, true_or, or_true, and_self, and_false, false_and, true_and, and_true, not_true_eq_false, not_false_eq_true, ↓reduceIte, if_true, if_false, Nat.reduceAdd, ite_self, Bool.false_eq_true, ↓a0, hc, ↓e2]
      exact f
    · have e := pC0 (J := J) (p := 0) H1 (by omega)
      have e2 : ∀ {F : Int32 → MI → MJ → Option (Int32 × MI × MJ)}, oc (f_Verifier_pushes 0 I J) F = F (nI 0) I J := fun {F} => by rw [e, oc_some]
      simp (disch := omega) only [a11, a01, ↓li_m, ↓oc_some, ↓oc_ite, ↓oc_oc, ↓oc_pl, ↓oc_none, ↓oc_oe, ↓pl_eq, ↓oe_i, ↓oe_j, va_up_self, va_up_ne, va_up_up, upd_s, upd_n, updL_s, updL_n, nI_add, nI_1, nI_ltI, nI_leI, nI_eq, nI_clamp, li_n, m1_lt, m1_le, m1_gt, m1_ge, m1_ne, m1_en, m1_ad, nle_F, nle_T, nlt_F, nlt_T, neq_F, neq_T, or_self, or_false, false_or, true_or, or_true, and_self, and_false, false_and, true_and, and_true, not_true_eq_false, not_false_eq_true, ↓reduceIte, if_true, if_false, Nat.reduceAdd, ite_self, Bool.false_eq_true, ↓a0, hc, ↓e2, psh, q]
      exact stC_no
  · by_cases q : h < 64
    · have e := pC1 (J := J) (b := false) H1 q (p := 0) rfl
      have f := stC_ps (J := J) (b := false) H (Nat.le_refl h) q
      rw [← e] at f
      have e2 : ∀ {F : Int32 → MI → MJ → Option (Int32 × MI × MJ)}, oc (f_Verifier_pushes 0 I J) F = F (nI 1) (va_up (va_up I 13 (upd (I 13) h (bI false))) 10 (upd (I 10) 3 (nI (h + 1)))) J := fun {F} => by rw [e, oc_some]
      rw [e] at f
      simp (disch := omega) only [a11, a01, ↓li_m, ↓oc_some, ↓oc_ite, ↓oc_oc, ↓oc_pl, ↓oc_none, ↓oc_oe, ↓pl_eq, ↓oe_i, ↓oe_j, va_up_self, va_up_ne, va_up_up, upd_s, upd_n, updL_s, updL_n, nI_add, nI_1, nI_ltI, nI_leI, nI_eq, nI_clamp, li_n, m1_lt, m1_le, m1_gt, m1_ge, m1_ne, m1_en, m1_ad, nle_F, nle_T, nlt_F, nlt_T, neq_F, neq_T, or_self, or_false, false_or, true_or, or_true, and_self, and_false, false_and, true_and, and_true, not_true_eq_false, not_false_eq_true, ↓reduceIte, if_true, if_false, Nat.reduceAdd, ite_self, Bool.false_eq_true, ↓a0, hc, ↓e2]
      exact f
    · have e := pC0 (J := J) (p := 0) H1 (by omega)
      have e2 : ∀ {F : Int32 → MI → MJ → Option (Int32 × MI × MJ)}, oc (f_Verifier_pushes 0 I J) F = F (nI 0) I J := fun {F} => by rw [e, oc_some]
      simp (disch := omega) only [a11, a01, ↓li_m, ↓oc_some, ↓oc_ite, ↓oc_oc, ↓oc_pl, ↓oc_none, ↓oc_oe, ↓pl_eq, ↓oe_i, ↓oe_j, va_up_self, va_up_ne, va_up_up, upd_s, upd_n, updL_s, updL_n, nI_add, nI_1, nI_ltI, nI_leI, nI_eq, nI_clamp, li_n, m1_lt, m1_le, m1_gt, m1_ge, m1_ne, m1_en, m1_ad, nle_F, nle_T, nlt_F, nlt_T, neq_F, neq_T, or_self, or_false, false_or, true_or, or_true, and_self, and_false, false_and, true_and, and_true, not_true_eq_false, not_false_eq_true, ↓reduceIte, if_true, if_false, Nat.reduceAdd, ite_self, Bool.false_eq_true, ↓a0, hc, ↓e2, psh, q]
      exact stC_no
  · by_cases q : h < 64
    · have e := pC1 (J := J) (b := true) H1 q (p := 1) rfl
      have f := stC_ps (J := J) (b := true) H (Nat.le_refl h) q
      rw [← e] at f
      have e2 : ∀ {F : Int32 → MI → MJ → Option (Int32 × MI × MJ)}, oc (f_Verifier_pushes 1 I J) F = F (nI 1) (va_up (va_up I 13 (upd (I 13) h (bI true))) 10 (upd (I 10) 3 (nI (h + 1)))) J := fun {F} => by rw [e, oc_some]
      rw [e] at f
      simp (disch := omega) only [a11, a01, ↓li_m, ↓oc_some, ↓oc_ite, ↓oc_oc, ↓oc_pl, ↓oc_none, ↓oc_oe, ↓pl_eq, ↓oe_i, ↓oe_j, va_up_self, va_up_ne, va_up_up, upd_s, upd_n, updL_s, updL_n, nI_add, nI_1, nI_ltI, nI_leI, nI_eq, nI_clamp, li_n, m1_lt, m1_le, m1_gt, m1_ge, m1_ne, m1_en, m1_ad, nle_F, nle_T, nlt_F, nlt_T, neq_F, neq_T, or_self, or_false, false_or, true_or, or_true, and_self, and_false, false_and, true_and, and_true, not_true_eq_false, not_false_eq_true, ↓reduceIte, if_true, if_false, Nat.reduceAdd, ite_self, Bool.false_eq_true, ↓a0, hc, ↓e2]
      exact f
    · have e := pC0 (J := J) (p := 1) H1 (by omega)
      have e2 : ∀ {F : Int32 → MI → MJ → Option (Int32 × MI × MJ)}, oc (f_Verifier_pushes 1 I J) F = F (nI 0) I J := fun {F} => by rw [e, oc_some]
      simp (disch := omega) only [a11, a01, ↓li_m, ↓oc_some, ↓oc_ite, ↓oc_oc, ↓oc_pl, ↓oc_none, ↓oc_oe, ↓pl_eq, ↓oe_i, ↓oe_j, va_up_self, va_up_ne, va_up_up, upd_s, upd_n, updL_s, updL_n, nI_add, nI_1, nI_ltI, nI_leI, nI_eq, nI_clamp, li_n, m1_lt, m1_le, m1_gt, m1_ge, m1_ne, m1_en, m1_ad, nle_F, nle_T, nlt_F, nlt_T, neq_F, neq_T, or_self, or_false, false_or, true_or, or_true, and_self, and_false, false_and, true_and, and_true, not_true_eq_false, not_false_eq_true, ↓reduceIte, if_true, if_false, Nat.reduceAdd, ite_self, Bool.false_eq_true, ↓a0, hc, ↓e2, psh, q]
      exact stC_no
  · by_cases q : 2 ≤ h
    · have f := stC_ps (J := J) (b := sf (h - 1) || sf (h - 2)) H (show h - 2 ≤ h by omega) (by omega)
      have j1 : ∀ {F : Int32 → MI → MJ → Option (Int32 × MI × MJ)}, oc (f_Verifier_joins I J) F = F (nI 1) (va_up (va_up I 13 (upd (I 13) (h - 2) (bI (sf (h - 1) || sf (h - 2))))) 10 (upd (I 10) 3 (nI (h - 2 + 1)))) J := fun {F} => by rw [jC H q, oc_some]
      have s1 : ∀ {F : Int32 → MI → MJ → Option (Int32 × MI × MJ)}, oc (f_Verifier_isSecret 1 I J) F = F (bI (sf (h - 1))) I J := fun {F} => by rw [sC1 H (by omega), oc_some]
      have s2 : ∀ {F : Int32 → MI → MJ → Option (Int32 × MI × MJ)}, oc (f_Verifier_isSecret 2 I J) F = F (bI (sf (h - 2))) I J := fun {F} => by rw [sC2 H q, oc_some]
      simp (disch := omega) only [a11, a01, ↓li_m, ↓oc_some, ↓oc_ite, ↓oc_oc, ↓oc_pl, ↓oc_none, ↓oc_oe, ↓pl_eq, ↓oe_i, ↓oe_j, va_up_self, va_up_ne, va_up_up, upd_s, upd_n, updL_s, updL_n, nI_add, nI_1, nI_ltI, nI_leI, nI_eq, nI_clamp, li_n, m1_lt, m1_le, m1_gt, m1_ge, m1_ne, m1_en, m1_ad, nle_F, nle_T, nlt_F, nlt_T, neq_F, neq_T, or_self, or_false, false_or, true_or, or_true, and_self, and_false, false_and, true_and, and_true, not_true_eq_false, not_false_eq_true, ↓reduceIte, if_true, if_false, Nat.reduceAdd, ite_self, Bool.false_eq_true, ↓a0, hc, H1, q, ↓j1, n10e]
      exact f
    · simp (disch := omega) only [a11, a01, ↓li_m, ↓oc_some, ↓oc_ite, ↓oc_oc, ↓oc_pl, ↓oc_none, ↓oc_oe, ↓pl_eq, ↓oe_i, ↓oe_j, va_up_self, va_up_ne, va_up_up, upd_s, upd_n, updL_s, updL_n, nI_add, nI_1, nI_ltI, nI_leI, nI_eq, nI_clamp, li_n, m1_lt, m1_le, m1_gt, m1_ge, m1_ne, m1_en, m1_ad, nle_F, nle_T, nlt_F, nlt_T, neq_F, neq_T, or_self, or_false, false_or, true_or, or_true, and_self, and_false, false_and, true_and, and_true, not_true_eq_false, not_false_eq_true, ↓reduceIte, if_true, if_false, Nat.reduceAdd, ite_self, Bool.false_eq_true, ↓a0, hc, H1, q]
      exact stC_no
  · by_cases q : 2 ≤ h
    · have f := stC_ps (J := J) (b := sf (h - 1) || sf (h - 2)) H (show h - 2 ≤ h by omega) (by omega)
      have j1 : ∀ {F : Int32 → MI → MJ → Option (Int32 × MI × MJ)}, oc (f_Verifier_joins I J) F = F (nI 1) (va_up (va_up I 13 (upd (I 13) (h - 2) (bI (sf (h - 1) || sf (h - 2))))) 10 (upd (I 10) 3 (nI (h - 2 + 1)))) J := fun {F} => by rw [jC H q, oc_some]
      have s1 : ∀ {F : Int32 → MI → MJ → Option (Int32 × MI × MJ)}, oc (f_Verifier_isSecret 1 I J) F = F (bI (sf (h - 1))) I J := fun {F} => by rw [sC1 H (by omega), oc_some]
      have s2 : ∀ {F : Int32 → MI → MJ → Option (Int32 × MI × MJ)}, oc (f_Verifier_isSecret 2 I J) F = F (bI (sf (h - 2))) I J := fun {F} => by rw [sC2 H q, oc_some]
      simp (disch := omega) only [a11, a01, ↓li_m, ↓oc_some, ↓oc_ite, ↓oc_oc, ↓oc_pl, ↓oc_none, ↓oc_oe, ↓pl_eq, ↓oe_i, ↓oe_j, va_up_self, va_up_ne, va_up_up, upd_s, upd_n, updL_s, updL_n, nI_add, nI_1, nI_ltI, nI_leI, nI_eq, nI_clamp, li_n, m1_lt, m1_le, m1_gt, m1_ge, m1_ne, m1_en, m1_ad, nle_F, nle_T, nlt_F, nlt_T, neq_F, neq_T, or_self, or_false, false_or, true_or, or_true, and_self, and_false, false_and, true_and, and_true, not_true_eq_false, not_false_eq_true, ↓reduceIte, if_true, if_false, Nat.reduceAdd, ite_self, Bool.false_eq_true, ↓a0, hc, H1, q, ↓j1, n10e]
      exact f
    · simp (disch := omega) only [a11, a01, ↓li_m, ↓oc_some, ↓oc_ite, ↓oc_oc, ↓oc_pl, ↓oc_none, ↓oc_oe, ↓pl_eq, ↓oe_i, ↓oe_j, va_up_self, va_up_ne, va_up_up, upd_s, upd_n, updL_s, updL_n, nI_add, nI_1, nI_ltI, nI_leI, nI_eq, nI_clamp, li_n, m1_lt, m1_le, m1_gt, m1_ge, m1_ne, m1_en, m1_ad, nle_F, nle_T, nlt_F, nlt_T, neq_F, neq_T, or_self, or_false, false_or, true_or, or_true, and_self, and_false, false_and, true_and, and_true, not_true_eq_false, not_false_eq_true, ↓reduceIte, if_true, if_false, Nat.reduceAdd, ite_self, Bool.false_eq_true, ↓a0, hc, H1, q]
      exact stC_no
  · by_cases q : 2 ≤ h
    · have f := stC_ps (J := J) (b := sf (h - 1) || sf (h - 2)) H (show h - 2 ≤ h by omega) (by omega)
      have j1 : ∀ {F : Int32 → MI → MJ → Option (Int32 × MI × MJ)}, oc (f_Verifier_joins I J) F = F (nI 1) (va_up (va_up I 13 (upd (I 13) (h - 2) (bI (sf (h - 1) || sf (h - 2))))) 10 (upd (I 10) 3 (nI (h - 2 + 1)))) J := fun {F} => by rw [jC H q, oc_some]
      have s1 : ∀ {F : Int32 → MI → MJ → Option (Int32 × MI × MJ)}, oc (f_Verifier_isSecret 1 I J) F = F (bI (sf (h - 1))) I J := fun {F} => by rw [sC1 H (by omega), oc_some]
      have s2 : ∀ {F : Int32 → MI → MJ → Option (Int32 × MI × MJ)}, oc (f_Verifier_isSecret 2 I J) F = F (bI (sf (h - 2))) I J := fun {F} => by rw [sC2 H q, oc_some]
      cases t1 : sf (h - 1) with
      | true =>
        cases t2 : sf (h - 2) with
        | true =>
          rw [t1, t2] at f j1
          rw [t1] at s1
          rw [t2] at s2
          simp (disch := omega) only [a11, a01, ↓li_m, ↓oc_some, ↓oc_ite, ↓oc_oc, ↓oc_pl, ↓oc_none, ↓oc_oe, ↓pl_eq, ↓oe_i, ↓oe_j, va_up_self, va_up_ne, va_up_up, upd_s, upd_n, updL_s, updL_n, nI_add, nI_1, nI_ltI, nI_leI, nI_eq, nI_clamp, li_n, m1_lt, m1_le, m1_gt, m1_ge, m1_ne, m1_en, m1_ad, nle_F, nle_T, nlt_F, nlt_T, neq_F, neq_T, or_self, or_false, false_or, true_or, or_true, and_self, and_false, false_and, true_and, and_true, not_true_eq_false, not_false_eq_true, ↓reduceIte, if_true, if_false, Nat.reduceAdd, ite_self, Bool.false_eq_true, ↓a0, hc, H1, q, ↓j1, ↓s1, ↓s2, n10e, bI_t, bI_f, Bool.true_and, Bool.false_and, Bool.and_true, Bool.and_false, Bool.true_eq_false, Bool.false_eq_true]
          exact stC_no
        | false =>
          rw [t1, t2] at f j1
          rw [t1] at s1
          rw [t2] at s2
          simp (disch := omega) only [a11, a01, ↓li_m, ↓oc_some, ↓oc_ite, ↓oc_oc, ↓oc_pl, ↓oc_none, ↓oc_oe, ↓pl_eq, ↓oe_i, ↓oe_j, va_up_self, va_up_ne, va_up_up, upd_s, upd_n, updL_s, updL_n, nI_add, nI_1, nI_ltI, nI_leI, nI_eq, nI_clamp, li_n, m1_lt, m1_le, m1_gt, m1_ge, m1_ne, m1_en, m1_ad, nle_F, nle_T, nlt_F, nlt_T, neq_F, neq_T, or_self, or_false, false_or, true_or, or_true, and_self, and_false, false_and, true_and, and_true, not_true_eq_false, not_false_eq_true, ↓reduceIte, if_true, if_false, Nat.reduceAdd, ite_self, Bool.false_eq_true, ↓a0, hc, H1, q, ↓j1, ↓s1, ↓s2, n10e, bI_t, bI_f, Bool.true_and, Bool.false_and, Bool.and_true, Bool.and_false, Bool.true_eq_false, Bool.false_eq_true]
          exact f
      | false =>
        cases t2 : sf (h - 2) with
        | true =>
          rw [t1, t2] at f j1
          rw [t1] at s1
          rw [t2] at s2
          simp (disch := omega) only [a11, a01, ↓li_m, ↓oc_some, ↓oc_ite, ↓oc_oc, ↓oc_pl, ↓oc_none, ↓oc_oe, ↓pl_eq, ↓oe_i, ↓oe_j, va_up_self, va_up_ne, va_up_up, upd_s, upd_n, updL_s, updL_n, nI_add, nI_1, nI_ltI, nI_leI, nI_eq, nI_clamp, li_n, m1_lt, m1_le, m1_gt, m1_ge, m1_ne, m1_en, m1_ad, nle_F, nle_T, nlt_F, nlt_T, neq_F, neq_T, or_self, or_false, false_or, true_or, or_true, and_self, and_false, false_and, true_and, and_true, not_true_eq_false, not_false_eq_true, ↓reduceIte, if_true, if_false, Nat.reduceAdd, ite_self, Bool.false_eq_true, ↓a0, hc, H1, q, ↓j1, ↓s1, ↓s2, n10e, bI_t, bI_f, Bool.true_and, Bool.false_and, Bool.and_true, Bool.and_false, Bool.true_eq_false, Bool.false_eq_true]
          exact f
        | false =>
          rw [t1, t2] at f j1
          rw [t1] at s1
          rw [t2] at s2
          simp (disch := omega) only [a11, a01, ↓li_m, ↓oc_some, ↓oc_ite, ↓oc_oc, ↓oc_pl, ↓oc_none, ↓oc_oe, ↓pl_eq, ↓oe_i, ↓oe_j, va_up_self, va_up_ne, va_up_up, upd_s, upd_n, updL_s, updL_n, nI_add, nI_1, nI_ltI, nI_leI, nI_eq, nI_clamp, li_n, m1_lt, m1_le, m1_gt, m1_ge, m1_ne, m1_en, m1_ad, nle_F, nle_T, nlt_F, nlt_T, neq_F, neq_T, or_self, or_false, false_or, true_or, or_true, and_self, and_false, false_and, true_and, and_true, not_true_eq_false, not_false_eq_true, ↓reduceIte, if_true, if_false, Nat.reduceAdd, ite_self, Bool.false_eq_true, ↓a0, hc, H1, q, ↓j1, ↓s1, ↓s2, n10e, bI_t, bI_f, Bool.true_and, Bool.false_and, Bool.and_true, Bool.and_false, Bool.true_eq_false, Bool.false_eq_true]
          exact f
    · simp (disch := omega) only [a11, a01, ↓li_m, ↓oc_some, ↓oc_ite, ↓oc_oc, ↓oc_pl, ↓oc_none, ↓oc_oe, ↓pl_eq, ↓oe_i, ↓oe_j, va_up_self, va_up_ne, va_up_up, upd_s, upd_n, updL_s, updL_n, nI_add, nI_1, nI_ltI, nI_leI, nI_eq, nI_clamp, li_n, m1_lt, m1_le, m1_gt, m1_ge, m1_ne, m1_en, m1_ad, nle_F, nle_T, nlt_F, nlt_T, neq_F, neq_T, or_self, or_false, false_or, true_or, or_true, and_self, and_false, false_and, true_and, and_true, not_true_eq_false, not_false_eq_true, ↓reduceIte, if_true, if_false, Nat.reduceAdd, ite_self, Bool.false_eq_true, ↓a0, hc, H1, q]
      exact stC_no
  · by_cases q : 2 ≤ h
    · have f := stC_ps (J := J) (b := sf (h - 1) || sf (h - 2)) H (show h - 2 ≤ h by omega) (by omega)
      have j1 : ∀ {F : Int32 → MI → MJ → Option (Int32 × MI × MJ)}, oc (f_Verifier_joins I J) F = F (nI 1) (va_up (va_up I 13 (upd (I 13) (h - 2) (bI (sf (h - 1) || sf (h - 2))))) 10 (upd (I 10) 3 (nI (h - 2 + 1)))) J := fun {F} => by rw [jC H q, oc_some]
      have s1 : ∀ {F : Int32 → MI → MJ → Option (Int32 × MI × MJ)}, oc (f_Verifier_isSecret 1 I J) F = F (bI (sf (h - 1))) I J := fun {F} => by rw [sC1 H (by omega), oc_some]
      have s2 : ∀ {F : Int32 → MI → MJ → Option (Int32 × MI × MJ)}, oc (f_Verifier_isSecret 2 I J) F = F (bI (sf (h - 2))) I J := fun {F} => by rw [sC2 H q, oc_some]
      cases t1 : sf (h - 1) with
      | true =>
        cases t2 : sf (h - 2) with
        | true =>
          rw [t1, t2] at f j1
          rw [t1] at s1
          rw [t2] at s2
          simp (disch := omega) only [a11, a01, ↓li_m, ↓oc_some, ↓oc_ite, ↓oc_oc, ↓oc_pl, ↓oc_none, ↓oc_oe, ↓pl_eq, ↓oe_i, ↓oe_j, va_up_self, va_up_ne, va_up_up, upd_s, upd_n, updL_s, updL_n, nI_add, nI_1, nI_ltI, nI_leI, nI_eq, nI_clamp, li_n, m1_lt, m1_le, m1_gt, m1_ge, m1_ne, m1_en, m1_ad, nle_F, nle_T, nlt_F, nlt_T, neq_F, neq_T, or_self, or_false, false_or, true_or, or_true, and_self, and_false, false_and, true_and, and_true, not_true_eq_false, not_false_eq_true, ↓reduceIte, if_true, if_false, Nat.reduceAdd, ite_self, Bool.false_eq_true, ↓a0, hc, H1, q, ↓j1, ↓s1, ↓s2, n10e, bI_t, bI_f, Bool.true_and, Bool.false_and, Bool.and_true, Bool.and_false, Bool.true_eq_false, Bool.false_eq_true]
          exact f
        | false =>
          rw [t1, t2] at f j1
          rw [t1] at s1
          rw [t2] at s2
          simp (disch := omega) only [a11, a01, ↓li_m, ↓oc_some, ↓oc_ite, ↓oc_oc, ↓oc_pl, ↓oc_none, ↓oc_oe, ↓pl_eq, ↓oe_i, ↓oe_j, va_up_self, va_up_ne, va_up_up, upd_s, upd_n, updL_s, updL_n, nI_add, nI_1, nI_ltI, nI_leI, nI_eq, nI_clamp, li_n, m1_lt, m1_le, m1_gt, m1_ge, m1_ne, m1_en, m1_ad, nle_F, nle_T, nlt_F, nlt_T, neq_F, neq_T, or_self, or_false, false_or, true_or, or_true, and_self, and_false, false_and, true_and, and_true, not_true_eq_false, not_false_eq_true, ↓reduceIte, if_true, if_false, Nat.reduceAdd, ite_self, Bool.false_eq_true, ↓a0, hc, H1, q, ↓j1, ↓s1, ↓s2, n10e, bI_t, bI_f, Bool.true_and, Bool.false_and, Bool.and_true, Bool.and_false, Bool.true_eq_false, Bool.false_eq_true]
          exact stC_no
      | false =>
        cases t2 : sf (h - 2) with
        | true =>
          rw [t1, t2] at f j1
          rw [t1] at s1
          rw [t2] at s2
          simp (disch := omega) only [a11, a01, ↓li_m, ↓oc_some, ↓oc_ite, ↓oc_oc, ↓oc_pl, ↓oc_none, ↓oc_oe, ↓pl_eq, ↓oe_i, ↓oe_j, va_up_self, va_up_ne, va_up_up, upd_s, upd_n, updL_s, updL_n, nI_add, nI_1, nI_ltI, nI_leI, nI_eq, nI_clamp, li_n, m1_lt, m1_le, m1_gt, m1_ge, m1_ne, m1_en, m1_ad, nle_F, nle_T, nlt_F, nlt_T, neq_F, neq_T, or_self, or_false, false_or, true_or, or_true, and_self, and_false, false_and, true_and, and_true, not_true_eq_false, not_false_eq_true, ↓reduceIte, if_true, if_false, Nat.reduceAdd, ite_self, Bool.false_eq_true, ↓a0, hc, H1, q, ↓j1, ↓s1, ↓s2, n10e, bI_t, bI_f, Bool.true_and, Bool.false_and, Bool.and_true, Bool.and_false, Bool.true_eq_false, Bool.false_eq_true]
          exact stC_no
        | false =>
          rw [t1, t2] at f j1
          rw [t1] at s1
          rw [t2] at s2
          simp (disch := omega) only [a11, a01, ↓li_m, ↓oc_some, ↓oc_ite, ↓oc_oc, ↓oc_pl, ↓oc_none, ↓oc_oe, ↓pl_eq, ↓oe_i, ↓oe_j, va_up_self, va_up_ne, va_up_up, upd_s, upd_n, updL_s, updL_n, nI_add, nI_1, nI_ltI, nI_leI, nI_eq, nI_clamp, li_n, m1_lt, m1_le, m1_gt, m1_ge, m1_ne, m1_en, m1_ad, nle_F, nle_T, nlt_F, nlt_T, neq_F, neq_T, or_self, or_false, false_or, true_or, or_true, and_self, and_false, false_and, true_and, and_true, not_true_eq_false, not_false_eq_true, ↓reduceIte, if_true, if_false, Nat.reduceAdd, ite_self, Bool.false_eq_true, ↓a0, hc, H1, q, ↓j1, ↓s1, ↓s2, n10e, bI_t, bI_f, Bool.true_and, Bool.false_and, Bool.and_true, Bool.and_false, Bool.true_eq_false, Bool.false_eq_true]
          exact stC_no
    · simp (disch := omega) only [a11, a01, ↓li_m, ↓oc_some, ↓oc_ite, ↓oc_oc, ↓oc_pl, ↓oc_none, ↓oc_oe, ↓pl_eq, ↓oe_i, ↓oe_j, va_up_self, va_up_ne, va_up_up, upd_s, upd_n, updL_s, updL_n, nI_add, nI_1, nI_ltI, nI_leI, nI_eq, nI_clamp, li_n, m1_lt, m1_le, m1_gt, m1_ge, m1_ne, m1_en, m1_ad, nle_F, nle_T, nlt_F, nlt_T, neq_F, neq_T, or_self, or_false, false_or, true_or, or_true, and_self, and_false, false_and, true_and, and_true, not_true_eq_false, not_false_eq_true, ↓reduceIte, if_true, if_false, Nat.reduceAdd, ite_self, Bool.false_eq_true, ↓a0, hc, H1, q]
      exact stC_no
  · by_cases q : 1 ≤ h
    · simp (disch := omega) only [a11, a01, ↓li_m, ↓oc_some, ↓oc_ite, ↓oc_oc, ↓oc_pl, ↓oc_none, ↓oc_oe, ↓pl_eq, ↓oe_i, ↓oe_j, va_up_self, va_up_ne, va_up_up, upd_s, upd_n, updL_s, updL_n, nI_add, nI_1, nI_ltI, nI_leI, nI_eq, nI_clamp, li_n, m1_lt, m1_le, m1_gt, m1_ge, m1_ne, m1_en, m1_ad, nle_F, nle_T, nlt_F, nlt_T, neq_F, neq_T, or_self, or_false, false_or, true_or, or_true, and_self, and_false, false_and, true_and, and_true, not_true_eq_false, not_false_eq_true, ↓reduceIte, if_true, if_false, Nat.reduceAdd, ite_self, Bool.false_eq_true, ↓a0, hc, H1, q]
      exact stC_same H
    · simp (disch := omega) only [a11, a01, ↓li_m, ↓oc_some, ↓oc_ite, ↓oc_oc, ↓oc_pl, ↓oc_none, ↓oc_oe, ↓pl_eq, ↓oe_i, ↓oe_j, va_up_self, va_up_ne, va_up_up, upd_s, upd_n, updL_s, updL_n, nI_add, nI_1, nI_ltI, nI_leI, nI_eq, nI_clamp, li_n, m1_lt, m1_le, m1_gt, m1_ge, m1_ne, m1_en, m1_ad, nle_F, nle_T, nlt_F, nlt_T, neq_F, neq_T, or_self, or_false, false_or, true_or, or_true, and_self, and_false, false_and, true_and, and_true, not_true_eq_false, not_false_eq_true, ↓reduceIte, if_true, if_false, Nat.reduceAdd, ite_self, Bool.false_eq_true, ↓a0, hc, H1, q]
      exact stC_no
  · by_cases q : 1 ≤ h
    · have s1 : ∀ {F : Int32 → MI → MJ → Option (Int32 × MI × MJ)}, oc (f_Verifier_isSecret 1 I J) F = F (bI (sf (h - 1))) I J := fun {F} => by rw [sC1 H (by omega), oc_some]
      have d1 : ∀ {F : Int32 → MI → MJ → Option (Int32 × MI × MJ)}, oc (f_Verifier_drops 1 I J) F = F (nI 1) (va_up I 10 (upd (I 10) 3 (nI (h - 1)))) J := fun {F} => dr (j := 1) rfl q
      cases t1 : sf (h - 1) with
      | true =>
        rw [t1] at s1
        simp (disch := omega) only [a11, a01, ↓li_m, ↓oc_some, ↓oc_ite, ↓oc_oc, ↓oc_pl, ↓oc_none, ↓oc_oe, ↓pl_eq, ↓oe_i, ↓oe_j, va_up_self, va_up_ne, va_up_up, upd_s, upd_n, updL_s, updL_n, nI_add, nI_1, nI_ltI, nI_leI, nI_eq, nI_clamp, li_n, m1_lt, m1_le, m1_gt, m1_ge, m1_ne, m1_en, m1_ad, nle_F, nle_T, nlt_F, nlt_T, neq_F, neq_T, or_self, or_false, false_or, true_or, or_true, and_self, and_false, false_and, true_and, and_true, not_true_eq_false, not_false_eq_true, ↓reduceIte, if_true, if_false, Nat.reduceAdd, ite_self, Bool.false_eq_true, ↓a0, hc, H1, q, ↓s1, ↓d1, n10e, bI_t, bI_f, Bool.true_eq_false, Bool.false_eq_true]
        exact stC_no
      | false =>
        rw [t1] at s1
        simp (disch := omega) only [a11, a01, ↓li_m, ↓oc_some, ↓oc_ite, ↓oc_oc, ↓oc_pl, ↓oc_none, ↓oc_oe, ↓pl_eq, ↓oe_i, ↓oe_j, va_up_self, va_up_ne, va_up_up, upd_s, upd_n, updL_s, updL_n, nI_add, nI_1, nI_ltI, nI_leI, nI_eq, nI_clamp, li_n, m1_lt, m1_le, m1_gt, m1_ge, m1_ne, m1_en, m1_ad, nle_F, nle_T, nlt_F, nlt_T, neq_F, neq_T, or_self, or_false, false_or, true_or, or_true, and_self, and_false, false_and, true_and, and_true, not_true_eq_false, not_false_eq_true, ↓reduceIte, if_true, if_false, Nat.reduceAdd, ite_self, Bool.false_eq_true, ↓a0, hc, H1, q, ↓s1, ↓d1, n10e, bI_t, bI_f, Bool.true_eq_false, Bool.false_eq_true]
        exact stC_same H
    · simp (disch := omega) only [a11, a01, ↓li_m, ↓oc_some, ↓oc_ite, ↓oc_oc, ↓oc_pl, ↓oc_none, ↓oc_oe, ↓pl_eq, ↓oe_i, ↓oe_j, va_up_self, va_up_ne, va_up_up, upd_s, upd_n, updL_s, updL_n, nI_add, nI_1, nI_ltI, nI_leI, nI_eq, nI_clamp, li_n, m1_lt, m1_le, m1_gt, m1_ge, m1_ne, m1_en, m1_ad, nle_F, nle_T, nlt_F, nlt_T, neq_F, neq_T, or_self, or_false, false_or, true_or, or_true, and_self, and_false, false_and, true_and, and_true, not_true_eq_false, not_false_eq_true, ↓reduceIte, if_true, if_false, Nat.reduceAdd, ite_self, Bool.false_eq_true, ↓a0, hc, H1, q]
      exact stC_no
  · by_cases q : 1 ≤ h
    · have s1 : ∀ {F : Int32 → MI → MJ → Option (Int32 × MI × MJ)}, oc (f_Verifier_isSecret 1 I J) F = F (bI (sf (h - 1))) I J := fun {F} => by rw [sC1 H (by omega), oc_some]
      have d1 : ∀ {F : Int32 → MI → MJ → Option (Int32 × MI × MJ)}, oc (f_Verifier_drops 1 I J) F = F (nI 1) (va_up I 10 (upd (I 10) 3 (nI (h - 1)))) J := fun {F} => dr (j := 1) rfl q
      cases t1 : sf (h - 1) with
      | true =>
        rw [t1] at s1
        simp (disch := omega) only [a11, a01, ↓li_m, ↓oc_some, ↓oc_ite, ↓oc_oc, ↓oc_pl, ↓oc_none, ↓oc_oe, ↓pl_eq, ↓oe_i, ↓oe_j, va_up_self, va_up_ne, va_up_up, upd_s, upd_n, updL_s, updL_n, nI_add, nI_1, nI_ltI, nI_leI, nI_eq, nI_clamp, li_n, m1_lt, m1_le, m1_gt, m1_ge, m1_ne, m1_en, m1_ad, nle_F, nle_T, nlt_F, nlt_T, neq_F, neq_T, or_self, or_false, false_or, true_or, or_true, and_self, and_false, false_and, true_and, and_true, not_true_eq_false, not_false_eq_true, ↓reduceIte, if_true, if_false, Nat.reduceAdd, ite_self, Bool.false_eq_true, ↓a0, hc, H1, q, ↓s1, ↓d1, n10e, bI_t, bI_f, Bool.true_eq_false, Bool.false_eq_true]
        exact stC_same H
      | false =>
        rw [t1] at s1
        simp (disch := omega) only [a11, a01, ↓li_m, ↓oc_some, ↓oc_ite, ↓oc_oc, ↓oc_pl, ↓oc_none, ↓oc_oe, ↓pl_eq, ↓oe_i, ↓oe_j, va_up_self, va_up_ne, va_up_up, upd_s, upd_n, updL_s, updL_n, nI_add, nI_1, nI_ltI, nI_leI, nI_eq, nI_clamp, li_n, m1_lt, m1_le, m1_gt, m1_ge, m1_ne, m1_en, m1_ad, nle_F, nle_T, nlt_F, nlt_T, neq_F, neq_T, or_self, or_false, false_or, true_or, or_true, and_self, and_false, false_and, true_and, and_true, not_true_eq_false, not_false_eq_true, ↓reduceIte, if_true, if_false, Nat.reduceAdd, ite_self, Bool.false_eq_true, ↓a0, hc, H1, q, ↓s1, ↓d1, n10e, bI_t, bI_f, Bool.true_eq_false, Bool.false_eq_true]
        exact stC_no
    · simp (disch := omega) only [a11, a01, ↓li_m, ↓oc_some, ↓oc_ite, ↓oc_oc, ↓oc_pl, ↓oc_none, ↓oc_oe, ↓pl_eq, ↓oe_i, ↓oe_j, va_up_self, va_up_ne, va_up_up, upd_s, upd_n, updL_s, updL_n, nI_add, nI_1, nI_ltI, nI_leI, nI_eq, nI_clamp, li_n, m1_lt, m1_le, m1_gt, m1_ge, m1_ne, m1_en, m1_ad, nle_F, nle_T, nlt_F, nlt_T, neq_F, neq_T, or_self, or_false, false_or, true_or, or_true, and_self, and_false, false_and, true_and, and_true, not_true_eq_false, not_false_eq_true, ↓reduceIte, if_true, if_false, Nat.reduceAdd, ite_self, Bool.false_eq_true, ↓a0, hc, H1, q]
      exact stC_no
  · by_cases q : 1 ≤ h
    · have s1 : ∀ {F : Int32 → MI → MJ → Option (Int32 × MI × MJ)}, oc (f_Verifier_isSecret 1 I J) F = F (bI (sf (h - 1))) I J := fun {F} => by rw [sC1 H (by omega), oc_some]
      have d1 : ∀ {F : Int32 → MI → MJ → Option (Int32 × MI × MJ)}, oc (f_Verifier_drops 1 I J) F = F (nI 1) (va_up I 10 (upd (I 10) 3 (nI (h - 1)))) J := fun {F} => dr (j := 1) rfl q
      cases t1 : sf (h - 1) with
      | true =>
        rw [t1] at s1
        simp (disch := omega) only [a11, a01, ↓li_m, ↓oc_some, ↓oc_ite, ↓oc_oc, ↓oc_pl, ↓oc_none, ↓oc_oe, ↓pl_eq, ↓oe_i, ↓oe_j, va_up_self, va_up_ne, va_up_up, upd_s, upd_n, updL_s, updL_n, nI_add, nI_1, nI_ltI, nI_leI, nI_eq, nI_clamp, li_n, m1_lt, m1_le, m1_gt, m1_ge, m1_ne, m1_en, m1_ad, nle_F, nle_T, nlt_F, nlt_T, neq_F, neq_T, or_self, or_false, false_or, true_or, or_true, and_self, and_false, false_and, true_and, and_true, not_true_eq_false, not_false_eq_true, ↓reduceIte, if_true, if_false, Nat.reduceAdd, ite_self, Bool.false_eq_true, ↓a0, hc, H1, q, ↓s1, ↓d1, n10e, bI_t, bI_f, Bool.true_eq_false, Bool.false_eq_true]
        exact stC_no
      | false =>
        rw [t1] at s1
        simp (disch := omega) only [a11, a01, ↓li_m, ↓oc_some, ↓oc_ite, ↓oc_oc, ↓oc_pl, ↓oc_none, ↓oc_oe, ↓pl_eq, ↓oe_i, ↓oe_j, va_up_self, va_up_ne, va_up_up, upd_s, upd_n, updL_s, updL_n, nI_add, nI_1, nI_ltI, nI_leI, nI_eq, nI_clamp, li_n, m1_lt, m1_le, m1_gt, m1_ge, m1_ne, m1_en, m1_ad, nle_F, nle_T, nlt_F, nlt_T, neq_F, neq_T, or_self, or_false, false_or, true_or, or_true, and_self, and_false, false_and, true_and, and_true, not_true_eq_false, not_false_eq_true, ↓reduceIte, if_true, if_false, Nat.reduceAdd, ite_self, Bool.false_eq_true, ↓a0, hc, H1, q, ↓s1, ↓d1, n10e, bI_t, bI_f, Bool.true_eq_false, Bool.false_eq_true]
        exact stC_dr H (by omega)
    · simp (disch := omega) only [a11, a01, ↓li_m, ↓oc_some, ↓oc_ite, ↓oc_oc, ↓oc_pl, ↓oc_none, ↓oc_oe, ↓pl_eq, ↓oe_i, ↓oe_j, va_up_self, va_up_ne, va_up_up, upd_s, upd_n, updL_s, updL_n, nI_add, nI_1, nI_ltI, nI_leI, nI_eq, nI_clamp, li_n, m1_lt, m1_le, m1_gt, m1_ge, m1_ne, m1_en, m1_ad, nle_F, nle_T, nlt_F, nlt_T, neq_F, neq_T, or_self, or_false, false_or, true_or, or_true, and_self, and_false, false_and, true_and, and_true, not_true_eq_false, not_false_eq_true, ↓reduceIte, if_true, if_false, Nat.reduceAdd, ite_self, Bool.false_eq_true, ↓a0, hc, H1, q]
      exact stC_no
  · by_cases q : 1 ≤ h
    · have s1 : ∀ {F : Int32 → MI → MJ → Option (Int32 × MI × MJ)}, oc (f_Verifier_isSecret 1 I J) F = F (bI (sf (h - 1))) I J := fun {F} => by rw [sC1 H (by omega), oc_some]
      have d1 : ∀ {F : Int32 → MI → MJ → Option (Int32 × MI × MJ)}, oc (f_Verifier_drops 1 I J) F = F (nI 1) (va_up I 10 (upd (I 10) 3 (nI (h - 1)))) J := fun {F} => dr (j := 1) rfl q
      simp (disch := omega) only [a11, a01, ↓li_m, ↓oc_some, ↓oc_ite, ↓oc_oc, ↓oc_pl, ↓oc_none, ↓oc_oe, ↓pl_eq, ↓oe_i, ↓oe_j, va_up_self, va_up_ne, va_up_up, upd_s, upd_n, updL_s, updL_n, nI_add, nI_1, nI_ltI, nI_leI, nI_eq, nI_clamp, li_n, m1_lt, m1_le, m1_gt, m1_ge, m1_ne, m1_en, m1_ad, nle_F, nle_T, nlt_F, nlt_T, neq_F, neq_T, or_self, or_false, false_or, true_or, or_true, and_self, and_false, false_and, true_and, and_true, not_true_eq_false, not_false_eq_true, ↓reduceIte, if_true, if_false, Nat.reduceAdd, ite_self, Bool.false_eq_true, ↓a0, hc, H1, q, ↓d1, n10e]
      exact stC_dr H (by omega)
    · simp (disch := omega) only [a11, a01, ↓li_m, ↓oc_some, ↓oc_ite, ↓oc_oc, ↓oc_pl, ↓oc_none, ↓oc_oe, ↓pl_eq, ↓oe_i, ↓oe_j, va_up_self, va_up_ne, va_up_up, upd_s, upd_n, updL_s, updL_n, nI_add, nI_1, nI_ltI, nI_leI, nI_eq, nI_clamp, li_n, m1_lt, m1_le, m1_gt, m1_ge, m1_ne, m1_en, m1_ad, nle_F, nle_T, nlt_F, nlt_T, neq_F, neq_T, or_self, or_false, false_or, true_or, or_true, and_self, and_false, false_and, true_and, and_true, not_true_eq_false, not_false_eq_true, ↓reduceIte, if_true, if_false, Nat.reduceAdd, ite_self, Bool.false_eq_true, ↓a0, hc, H1, q]
      exact stC_no
  · simp (disch := omega) only [a11, a01, ↓li_m, ↓oc_some, ↓oc_ite, ↓oc_oc, ↓oc_pl, ↓oc_none, ↓oc_oe, ↓pl_eq, ↓oe_i, ↓oe_j, va_up_self, va_up_ne, va_up_up, upd_s, upd_n, updL_s, updL_n, nI_add, nI_1, nI_ltI, nI_leI, nI_eq, nI_clamp, li_n, m1_lt, m1_le, m1_gt, m1_ge, m1_ne, m1_en, m1_ad, nle_F, nle_T, nlt_F, nlt_T, neq_F, neq_T, or_self, or_false, false_or, true_or, or_true, and_self, and_false, false_and, true_and, and_true, not_true_eq_false, not_false_eq_true, ↓reduceIte, if_true, if_false, Nat.reduceAdd, ite_self, Bool.false_eq_true, ↓a0, hc]
    exact stC_same H
  · simp (disch := omega) only [a11, a01, ↓li_m, ↓oc_some, ↓oc_ite, ↓oc_oc, ↓oc_pl, ↓oc_none, ↓oc_oe, ↓pl_eq, ↓oe_i, ↓oe_j, va_up_self, va_up_ne, va_up_up, upd_s, upd_n, updL_s, updL_n, nI_add, nI_1, nI_ltI, nI_leI, nI_eq, nI_clamp, li_n, m1_lt, m1_le, m1_gt, m1_ge, m1_ne, m1_en, m1_ad, nle_F, nle_T, nlt_F, nlt_T, neq_F, neq_T, or_self, or_false, false_or, true_or, or_true, and_self, and_false, false_and, true_and, and_true, not_true_eq_false, not_false_eq_true, ↓reduceIte, if_true, if_false, Nat.reduceAdd, ite_self, Bool.false_eq_true, ↓a0, hc]
    exact stC_same H
  · simp (disch := omega) only [a11, a01, ↓li_m, ↓oc_some, ↓oc_ite, ↓oc_oc, ↓oc_pl, ↓oc_none, ↓oc_oe, ↓pl_eq, ↓oe_i, ↓oe_j, va_up_self, va_up_ne, va_up_up, upd_s, upd_n, updL_s, updL_n, nI_add, nI_1, nI_ltI, nI_leI, nI_eq, nI_clamp, li_n, m1_lt, m1_le, m1_gt, m1_ge, m1_ne, m1_en, m1_ad, nle_F, nle_T, nlt_F, nlt_T, neq_F, neq_T, or_self, or_false, false_or, true_or, or_true, and_self, and_false, false_and, true_and, and_true, not_true_eq_false, not_false_eq_true, ↓reduceIte, if_true, if_false, Nat.reduceAdd, ite_self, Bool.false_eq_true, ↓a0, hc]
    exact stC_same H
  · simp (disch := omega) only [a11, a01, ↓li_m, ↓oc_some, ↓oc_ite, ↓oc_oc, ↓oc_pl, ↓oc_none, ↓oc_oe, ↓pl_eq, ↓oe_i, ↓oe_j, va_up_self, va_up_ne, va_up_up, upd_s, upd_n, updL_s, updL_n, nI_add, nI_1, nI_ltI, nI_leI, nI_eq, nI_clamp, li_n, m1_lt, m1_le, m1_gt, m1_ge, m1_ne, m1_en, m1_ad, nle_F, nle_T, nlt_F, nlt_T, neq_F, neq_T, or_self, or_false, false_or, true_or, or_true, and_self, and_false, false_and, true_and, and_true, not_true_eq_false, not_false_eq_true, ↓reduceIte, if_true, if_false, Nat.reduceAdd, ite_self, Bool.false_eq_true, ↓a0, hc]
    exact stC_same H
  · by_cases q : h = 0
    · simp (disch := omega) only [a11, a01, ↓li_m, ↓oc_some, ↓oc_ite, ↓oc_oc, ↓oc_pl, ↓oc_none, ↓oc_oe, ↓pl_eq, ↓oe_i, ↓oe_j, va_up_self, va_up_ne, va_up_up, upd_s, upd_n, updL_s, updL_n, nI_add, nI_1, nI_ltI, nI_leI, nI_eq, nI_clamp, li_n, m1_lt, m1_le, m1_gt, m1_ge, m1_ne, m1_en, m1_ad, nle_F, nle_T, nlt_F, nlt_T, neq_F, neq_T, or_self, or_false, false_or, true_or, or_true, and_self, and_false, false_and, true_and, and_true, not_true_eq_false, not_false_eq_true, ↓reduceIte, if_true, if_false, Nat.reduceAdd, ite_self, Bool.false_eq_true, ↓a0, hc, H1, q]
      exact stC_same (by rw [← q]; exact H)
    · simp (disch := omega) only [a11, a01, ↓li_m, ↓oc_some, ↓oc_ite, ↓oc_oc, ↓oc_pl, ↓oc_none, ↓oc_oe, ↓pl_eq, ↓oe_i, ↓oe_j, va_up_self, va_up_ne, va_up_up, upd_s, upd_n, updL_s, updL_n, nI_add, nI_1, nI_ltI, nI_leI, nI_eq, nI_clamp, li_n, m1_lt, m1_le, m1_gt, m1_ge, m1_ne, m1_en, m1_ad, nle_F, nle_T, nlt_F, nlt_T, neq_F, neq_T, or_self, or_false, false_or, true_or, or_true, and_self, and_false, false_and, true_and, and_true, not_true_eq_false, not_false_eq_true, ↓reduceIte, if_true, if_false, Nat.reduceAdd, ite_self, Bool.false_eq_true, ↓a0, hc, H1, q]
      exact stC_no
  · by_cases q : h = 0
    · simp (disch := omega) only [a11, a01, ↓li_m, ↓oc_some, ↓oc_ite, ↓oc_oc, ↓oc_pl, ↓oc_none, ↓oc_oe, ↓pl_eq, ↓oe_i, ↓oe_j, va_up_self, va_up_ne, va_up_up, upd_s, upd_n, updL_s, updL_n, nI_add, nI_1, nI_ltI, nI_leI, nI_eq, nI_clamp, li_n, m1_lt, m1_le, m1_gt, m1_ge, m1_ne, m1_en, m1_ad, nle_F, nle_T, nlt_F, nlt_T, neq_F, neq_T, or_self, or_false, false_or, true_or, or_true, and_self, and_false, false_and, true_and, and_true, not_true_eq_false, not_false_eq_true, ↓reduceIte, if_true, if_false, Nat.reduceAdd, ite_self, Bool.false_eq_true, ↓a0, hc, H1, q]
      exact stC_same (by rw [← q]; exact H)
    · simp (disch := omega) only [a11, a01, ↓li_m, ↓oc_some, ↓oc_ite, ↓oc_oc, ↓oc_pl, ↓oc_none, ↓oc_oe, ↓pl_eq, ↓oe_i, ↓oe_j, va_up_self, va_up_ne, va_up_up, upd_s, upd_n, updL_s, updL_n, nI_add, nI_1, nI_ltI, nI_leI, nI_eq, nI_clamp, li_n, m1_lt, m1_le, m1_gt, m1_ge, m1_ne, m1_en, m1_ad, nle_F, nle_T, nlt_F, nlt_T, neq_F, neq_T, or_self, or_false, false_or, true_or, or_true, and_self, and_false, false_and, true_and, and_true, not_true_eq_false, not_false_eq_true, ↓reduceIte, if_true, if_false, Nat.reduceAdd, ite_self, Bool.false_eq_true, ↓a0, hc, H1, q]
      exact stC_no
  · by_cases q : 1 ≤ h
    · have s1 : ∀ {F : Int32 → MI → MJ → Option (Int32 × MI × MJ)}, oc (f_Verifier_isSecret 1 I J) F = F (bI (sf (h - 1))) I J := fun {F} => by rw [sC1 H (by omega), oc_some]
      have d1 : ∀ {F : Int32 → MI → MJ → Option (Int32 × MI × MJ)}, oc (f_Verifier_drops 1 I J) F = F (nI 1) (va_up I 10 (upd (I 10) 3 (nI (h - 1)))) J := fun {F} => dr (j := 1) rfl q
      cases t1 : sf (h - 1) with
      | true =>
        rw [t1] at s1
        simp (disch := omega) only [a11, a01, ↓li_m, ↓oc_some, ↓oc_ite, ↓oc_oc, ↓oc_pl, ↓oc_none, ↓oc_oe, ↓pl_eq, ↓oe_i, ↓oe_j, va_up_self, va_up_ne, va_up_up, upd_s, upd_n, updL_s, updL_n, nI_add, nI_1, nI_ltI, nI_leI, nI_eq, nI_clamp, li_n, m1_lt, m1_le, m1_gt, m1_ge, m1_ne, m1_en, m1_ad, nle_F, nle_T, nlt_F, nlt_T, neq_F, neq_T, or_self, or_false, false_or, true_or, or_true, and_self, and_false, false_and, true_and, and_true, not_true_eq_false, not_false_eq_true, ↓reduceIte, if_true, if_false, Nat.reduceAdd, ite_self, Bool.false_eq_true, ↓a0, hc, H1, q, ↓s1, ↓d1, n10e, bI_t, bI_f, Bool.true_eq_false, Bool.false_eq_true]
        exact stC_no
      | false =>
        rw [t1] at s1
        simp (disch := omega) only [a11, a01, ↓li_m, ↓oc_some, ↓oc_ite, ↓oc_oc, ↓oc_pl, ↓oc_none, ↓oc_oe, ↓pl_eq, ↓oe_i, ↓oe_j, va_up_self, va_up_ne, va_up_up, upd_s, upd_n, updL_s, updL_n, nI_add, nI_1, nI_ltI, nI_leI, nI_eq, nI_clamp, li_n, m1_lt, m1_le, m1_gt, m1_ge, m1_ne, m1_en, m1_ad, nle_F, nle_T, nlt_F, nlt_T, neq_F, neq_T, or_self, or_false, false_or, true_or, or_true, and_self, and_false, false_and, true_and, and_true, not_true_eq_false, not_false_eq_true, ↓reduceIte, if_true, if_false, Nat.reduceAdd, ite_self, Bool.false_eq_true, ↓a0, hc, H1, q, ↓s1, ↓d1, n10e, bI_t, bI_f, Bool.true_eq_false, Bool.false_eq_true]
        exact stC_same H
    · simp (disch := omega) only [a11, a01, ↓li_m, ↓oc_some, ↓oc_ite, ↓oc_oc, ↓oc_pl, ↓oc_none, ↓oc_oe, ↓pl_eq, ↓oe_i, ↓oe_j, va_up_self, va_up_ne, va_up_up, upd_s, upd_n, updL_s, updL_n, nI_add, nI_1, nI_ltI, nI_leI, nI_eq, nI_clamp, li_n, m1_lt, m1_le, m1_gt, m1_ge, m1_ne, m1_en, m1_ad, nle_F, nle_T, nlt_F, nlt_T, neq_F, neq_T, or_self, or_false, false_or, true_or, or_true, and_self, and_false, false_and, true_and, and_true, not_true_eq_false, not_false_eq_true, ↓reduceIte, if_true, if_false, Nat.reduceAdd, ite_self, Bool.false_eq_true, ↓a0, hc, H1, q]
      exact stC_no
  · by_cases q : 1 ≤ h
    · have s1 : ∀ {F : Int32 → MI → MJ → Option (Int32 × MI × MJ)}, oc (f_Verifier_isSecret 1 I J) F = F (bI (sf (h - 1))) I J := fun {F} => by rw [sC1 H (by omega), oc_some]
      have d1 : ∀ {F : Int32 → MI → MJ → Option (Int32 × MI × MJ)}, oc (f_Verifier_drops 1 I J) F = F (nI 1) (va_up I 10 (upd (I 10) 3 (nI (h - 1)))) J := fun {F} => dr (j := 1) rfl q
      have e := pC1 (I := va_up I 10 (upd (I 10) 3 (nI (h - 1)))) (J := J) (h := h - 1) (b := true) (by simp (disch := omega) only [a11, a01, ↓li_m, ↓oc_some, ↓oc_ite, ↓oc_oc, ↓oc_pl, ↓oc_none, ↓oc_oe, ↓pl_eq, ↓oe_i, ↓oe_j, va_up_self, va_up_ne, va_up_up, upd_s, upd_n, updL_s, updL_n, nI_add, nI_1, nI_ltI, nI_leI, nI_eq, nI_clamp, li_n, m1_lt, m1_le, m1_gt, m1_ge, m1_ne, m1_en, m1_ad, nle_F, nle_T, nlt_F, nlt_T, neq_F, neq_T, or_self, or_false, false_or, true_or, or_true, and_self, and_false, false_and, true_and, and_true, not_true_eq_false, not_false_eq_true, ↓reduceIte, if_true, if_false, Nat.reduceAdd, ite_self, Bool.false_eq_true]) (by omega) (p := 1) rfl
      have e2 : ∀ {F : Int32 → MI → MJ → Option (Int32 × MI × MJ)}, oc (f_Verifier_pushes 1 (va_up I 10 (upd (I 10) 3 (nI (h - 1)))) J) F = F (nI 1) (va_up (va_up I 13 (upd (I 13) (h - 1) (bI true))) 10 (upd (I 10) 3 (nI (h - 1 + 1)))) J := fun {F} => by
        rw [e, oc_some]
        simp (disch := omega) only [a11, a01, ↓li_m, ↓oc_some, ↓oc_ite, ↓oc_oc, ↓oc_pl, ↓oc_none, ↓oc_oe, ↓pl_eq, ↓oe_i, ↓oe_j, va_up_self, va_up_ne, va_up_up, upd_s, upd_n, updL_s, updL_n, nI_add, nI_1, nI_ltI, nI_leI, nI_eq, nI_clamp, li_n, m1_lt, m1_le, m1_gt, m1_ge, m1_ne, m1_en, m1_ad, nle_F, nle_T, nlt_F, nlt_T, neq_F, neq_T, or_self, or_false, false_or, true_or, or_true, and_self, and_false, false_and, true_and, and_true, not_true_eq_false, not_false_eq_true, ↓reduceIte, if_true, if_false, Nat.reduceAdd, ite_self, Bool.false_eq_true, upd_u, va_3 _ _ _ _ (show 10 ≠ 13 by decide)]
      cases t1 : sf (h - 1) with
      | true =>
        rw [t1] at s1
        simp (disch := omega) only [a11, a01, ↓li_m, ↓oc_some, ↓oc_ite, ↓oc_oc, ↓oc_pl, ↓oc_none, ↓oc_oe, ↓pl_eq, ↓oe_i, ↓oe_j, va_up_self, va_up_ne, va_up_up, upd_s, upd_n, updL_s, updL_n, nI_add, nI_1, nI_ltI, nI_leI, nI_eq, nI_clamp, li_n, m1_lt, m1_le, m1_gt, m1_ge, m1_ne, m1_en, m1_ad, nle_F, nle_T, nlt_F, nlt_T, neq_F, neq_T, or_self, or_false, false_or, true_or, or_true, and_self, and_false, false_and, true_and, and_true, not_true_eq_false, not_false_eq_true, ↓reduceIte, if_true, if_false, Nat.reduceAdd, ite_self, Bool.false_eq_true, ↓a0, hc, H1, q, ↓s1, ↓d1, n10e, bI_t, bI_f, Bool.true_eq_false, Bool.false_eq_true]
        exact stC_no
      | false =>
        rw [t1] at s1
        simp (disch := omega) only [a11, a01, ↓li_m, ↓oc_some, ↓oc_ite, ↓oc_oc, ↓oc_pl, ↓oc_none, ↓oc_oe, ↓pl_eq, ↓oe_i, ↓oe_j, va_up_self, va_up_ne, va_up_up, upd_s, upd_n, updL_s, updL_n, nI_add, nI_1, nI_ltI, nI_leI, nI_eq, nI_clamp, li_n, m1_lt, m1_le, m1_gt, m1_ge, m1_ne, m1_en, m1_ad, nle_F, nle_T, nlt_F, nlt_T, neq_F, neq_T, or_self, or_false, false_or, true_or, or_true, and_self, and_false, false_and, true_and, and_true, not_true_eq_false, not_false_eq_true, ↓reduceIte, if_true, if_false, Nat.reduceAdd, ite_self, Bool.false_eq_true, ↓a0, hc, H1, q, ↓s1, ↓d1, n10e, bI_t, bI_f, Bool.true_eq_false, Bool.false_eq_true, ↓e2]
        exact stC_ps (b := true) H (show h - 1 ≤ h by omega) (by omega)
    · simp (disch := omega) only [a11, a01, ↓li_m, ↓oc_some, ↓oc_ite, ↓oc_oc, ↓oc_pl, ↓oc_none, ↓oc_oe, ↓pl_eq, ↓oe_i, ↓oe_j, va_up_self, va_up_ne, va_up_up, upd_s, upd_n, updL_s, updL_n, nI_add, nI_1, nI_ltI, nI_leI, nI_eq, nI_clamp, li_n, m1_lt, m1_le, m1_gt, m1_ge, m1_ne, m1_en, m1_ad, nle_F, nle_T, nlt_F, nlt_T, neq_F, neq_T, or_self, or_false, false_or, true_or, or_true, and_self, and_false, false_and, true_and, and_true, not_true_eq_false, not_false_eq_true, ↓reduceIte, if_true, if_false, Nat.reduceAdd, ite_self, Bool.false_eq_true, ↓a0, hc, H1, q]
      exact stC_no
  · by_cases q : 2 ≤ h
    · have s1 : ∀ {F : Int32 → MI → MJ → Option (Int32 × MI × MJ)}, oc (f_Verifier_isSecret 1 I J) F = F (bI (sf (h - 1))) I J := fun {F} => by rw [sC1 H (by omega), oc_some]
      have s2 : ∀ {F : Int32 → MI → MJ → Option (Int32 × MI × MJ)}, oc (f_Verifier_isSecret 2 I J) F = F (bI (sf (h - 2))) I J := fun {F} => by rw [sC2 H q, oc_some]
      have d2 : ∀ {F : Int32 → MI → MJ → Option (Int32 × MI × MJ)}, oc (f_Verifier_drops 2 I J) F = F (nI 1) (va_up I 10 (upd (I 10) 3 (nI (h - 2)))) J := fun {F} => dr (j := 2) rfl q
      cases t1 : sf (h - 1) with
      | true =>
        cases t2 : sf (h - 2) with
        | true =>
          rw [t1] at s1
          rw [t2] at s2
          simp (disch := omega) only [a11, a01, ↓li_m, ↓oc_some, ↓oc_ite, ↓oc_oc, ↓oc_pl, ↓oc_none, ↓oc_oe, ↓pl_eq, ↓oe_i, ↓oe_j, va_up_self, va_up_ne, va_up_up, upd_s, upd_n, updL_s, updL_n, nI_add, nI_1, nI_ltI, nI_leI, nI_eq, nI_clamp, li_n, m1_lt, m1_le, m1_gt, m1_ge, m1_ne, m1_en, m1_ad, nle_F, nle_T, nlt_F, nlt_T, neq_F, neq_T, or_self, or_false, false_or, true_or, or_true, and_self, and_false, false_and, true_and, and_true, not_true_eq_false, not_false_eq_true, ↓reduceIte, if_true, if_false, Nat.reduceAdd, ite_self, Bool.false_eq_true, ↓a0, hc, H1, q, ↓s1, ↓s2, ↓d2, n10e, bI_t, bI_f, Bool.true_eq_false, Bool.false_eq_true]
          exact stC_no
        | false =>
          rw [t1] at s1
          rw [t2] at s2
          simp (disch := omega) only [a11, a01, ↓li_m, ↓oc_some, ↓oc_ite, ↓oc_oc, ↓oc_pl, ↓oc_none, ↓oc_oe, ↓pl_eq, ↓oe_i, ↓oe_j, va_up_self, va_up_ne, va_up_up, upd_s, upd_n, updL_s, updL_n, nI_add, nI_1, nI_ltI, nI_leI, nI_eq, nI_clamp, li_n, m1_lt, m1_le, m1_gt, m1_ge, m1_ne, m1_en, m1_ad, nle_F, nle_T, nlt_F, nlt_T, neq_F, neq_T, or_self, or_false, false_or, true_or, or_true, and_self, and_false, false_and, true_and, and_true, not_true_eq_false, not_false_eq_true, ↓reduceIte, if_true, if_false, Nat.reduceAdd, ite_self, Bool.false_eq_true, ↓a0, hc, H1, q, ↓s1, ↓s2, ↓d2, n10e, bI_t, bI_f, Bool.true_eq_false, Bool.false_eq_true]
          exact stC_no
      | false =>
        cases t2 : sf (h - 2) with
        | true =>
          rw [t1] at s1
          rw [t2] at s2
          simp (disch := omega) only [a11, a01, ↓li_m, ↓oc_some, ↓oc_ite, ↓oc_oc, ↓oc_pl, ↓oc_none, ↓oc_oe, ↓pl_eq, ↓oe_i, ↓oe_j, va_up_self, va_up_ne, va_up_up, upd_s, upd_n, updL_s, updL_n, nI_add, nI_1, nI_ltI, nI_leI, nI_eq, nI_clamp, li_n, m1_lt, m1_le, m1_gt, m1_ge, m1_ne, m1_en, m1_ad, nle_F, nle_T, nlt_F, nlt_T, neq_F, neq_T, or_self, or_false, false_or, true_or, or_true, and_self, and_false, false_and, true_and, and_true, not_true_eq_false, not_false_eq_true, ↓reduceIte, if_true, if_false, Nat.reduceAdd, ite_self, Bool.false_eq_true, ↓a0, hc, H1, q, ↓s1, ↓s2, ↓d2, n10e, bI_t, bI_f, Bool.true_eq_false, Bool.false_eq_true]
          exact stC_no
        | false =>
          rw [t1] at s1
          rw [t2] at s2
          simp (disch := omega) only [a11, a01, ↓li_m, ↓oc_some, ↓oc_ite, ↓oc_oc, ↓oc_pl, ↓oc_none, ↓oc_oe, ↓pl_eq, ↓oe_i, ↓oe_j, va_up_self, va_up_ne, va_up_up, upd_s, upd_n, updL_s, updL_n, nI_add, nI_1, nI_ltI, nI_leI, nI_eq, nI_clamp, li_n, m1_lt, m1_le, m1_gt, m1_ge, m1_ne, m1_en, m1_ad, nle_F, nle_T, nlt_F, nlt_T, neq_F, neq_T, or_self, or_false, false_or, true_or, or_true, and_self, and_false, false_and, true_and, and_true, not_true_eq_false, not_false_eq_true, ↓reduceIte, if_true, if_false, Nat.reduceAdd, ite_self, Bool.false_eq_true, ↓a0, hc, H1, q, ↓s1, ↓s2, ↓d2, n10e, bI_t, bI_f, Bool.true_eq_false, Bool.false_eq_true]
          exact stC_dr H (by omega)
    · simp (disch := omega) only [a11, a01, ↓li_m, ↓oc_some, ↓oc_ite, ↓oc_oc, ↓oc_pl, ↓oc_none, ↓oc_oe, ↓pl_eq, ↓oe_i, ↓oe_j, va_up_self, va_up_ne, va_up_up, upd_s, upd_n, updL_s, updL_n, nI_add, nI_1, nI_ltI, nI_leI, nI_eq, nI_clamp, li_n, m1_lt, m1_le, m1_gt, m1_ge, m1_ne, m1_en, m1_ad, nle_F, nle_T, nlt_F, nlt_T, neq_F, neq_T, or_self, or_false, false_or, true_or, or_true, and_self, and_false, false_and, true_and, and_true, not_true_eq_false, not_false_eq_true, ↓reduceIte, if_true, if_false, Nat.reduceAdd, ite_self, Bool.false_eq_true, ↓a0, hc, H1, q]
      exact stC_no
  · by_cases q : 2 ≤ h
    · have s1 : ∀ {F : Int32 → MI → MJ → Option (Int32 × MI × MJ)}, oc (f_Verifier_isSecret 1 I J) F = F (bI (sf (h - 1))) I J := fun {F} => by rw [sC1 H (by omega), oc_some]
      have s2 : ∀ {F : Int32 → MI → MJ → Option (Int32 × MI × MJ)}, oc (f_Verifier_isSecret 2 I J) F = F (bI (sf (h - 2))) I J := fun {F} => by rw [sC2 H q, oc_some]
      have d2 : ∀ {F : Int32 → MI → MJ → Option (Int32 × MI × MJ)}, oc (f_Verifier_drops 2 I J) F = F (nI 1) (va_up I 10 (upd (I 10) 3 (nI (h - 2)))) J := fun {F} => dr (j := 2) rfl q
      cases t1 : sf (h - 1) with
      | true =>
        cases t2 : sf (h - 2) with
        | true =>
          rw [t1] at s1
          rw [t2] at s2
          simp (disch := omega) only [a11, a01, ↓li_m, ↓oc_some, ↓oc_ite, ↓oc_oc, ↓oc_pl, ↓oc_none, ↓oc_oe, ↓pl_eq, ↓oe_i, ↓oe_j, va_up_self, va_up_ne, va_up_up, upd_s, upd_n, updL_s, updL_n, nI_add, nI_1, nI_ltI, nI_leI, nI_eq, nI_clamp, li_n, m1_lt, m1_le, m1_gt, m1_ge, m1_ne, m1_en, m1_ad, nle_F, nle_T, nlt_F, nlt_T, neq_F, neq_T, or_self, or_false, false_or, true_or, or_true, and_self, and_false, false_and, true_and, and_true, not_true_eq_false, not_false_eq_true, ↓reduceIte, if_true, if_false, Nat.reduceAdd, ite_self, Bool.false_eq_true, ↓a0, hc, H1, q, ↓s1, ↓s2, ↓d2, n10e, bI_t, bI_f, Bool.true_eq_false, Bool.false_eq_true]
          exact stC_no
        | false =>
          rw [t1] at s1
          rw [t2] at s2
          simp (disch := omega) only [a11, a01, ↓li_m, ↓oc_some, ↓oc_ite, ↓oc_oc, ↓oc_pl, ↓oc_none, ↓oc_oe, ↓pl_eq, ↓oe_i, ↓oe_j, va_up_self, va_up_ne, va_up_up, upd_s, upd_n, updL_s, updL_n, nI_add, nI_1, nI_ltI, nI_leI, nI_eq, nI_clamp, li_n, m1_lt, m1_le, m1_gt, m1_ge, m1_ne, m1_en, m1_ad, nle_F, nle_T, nlt_F, nlt_T, neq_F, neq_T, or_self, or_false, false_or, true_or, or_true, and_self, and_false, false_and, true_and, and_true, not_true_eq_false, not_false_eq_true, ↓reduceIte, if_true, if_false, Nat.reduceAdd, ite_self, Bool.false_eq_true, ↓a0, hc, H1, q, ↓s1, ↓s2, ↓d2, n10e, bI_t, bI_f, Bool.true_eq_false, Bool.false_eq_true]
          exact stC_dr H (by omega)
      | false =>
        cases t2 : sf (h - 2) with
        | true =>
          rw [t1] at s1
          rw [t2] at s2
          simp (disch := omega) only [a11, a01, ↓li_m, ↓oc_some, ↓oc_ite, ↓oc_oc, ↓oc_pl, ↓oc_none, ↓oc_oe, ↓pl_eq, ↓oe_i, ↓oe_j, va_up_self, va_up_ne, va_up_up, upd_s, upd_n, updL_s, updL_n, nI_add, nI_1, nI_ltI, nI_leI, nI_eq, nI_clamp, li_n, m1_lt, m1_le, m1_gt, m1_ge, m1_ne, m1_en, m1_ad, nle_F, nle_T, nlt_F, nlt_T, neq_F, neq_T, or_self, or_false, false_or, true_or, or_true, and_self, and_false, false_and, true_and, and_true, not_true_eq_false, not_false_eq_true, ↓reduceIte, if_true, if_false, Nat.reduceAdd, ite_self, Bool.false_eq_true, ↓a0, hc, H1, q, ↓s1, ↓s2, ↓d2, n10e, bI_t, bI_f, Bool.true_eq_false, Bool.false_eq_true]
          exact stC_no
        | false =>
          rw [t1] at s1
          rw [t2] at s2
          simp (disch := omega) only [a11, a01, ↓li_m, ↓oc_some, ↓oc_ite, ↓oc_oc, ↓oc_pl, ↓oc_none, ↓oc_oe, ↓pl_eq, ↓oe_i, ↓oe_j, va_up_self, va_up_ne, va_up_up, upd_s, upd_n, updL_s, updL_n, nI_add, nI_1, nI_ltI, nI_leI, nI_eq, nI_clamp, li_n, m1_lt, m1_le, m1_gt, m1_ge, m1_ne, m1_en, m1_ad, nle_F, nle_T, nlt_F, nlt_T, neq_F, neq_T, or_self, or_false, false_or, true_or, or_true, and_self, and_false, false_and, true_and, and_true, not_true_eq_false, not_false_eq_true, ↓reduceIte, if_true, if_false, Nat.reduceAdd, ite_self, Bool.false_eq_true, ↓a0, hc, H1, q, ↓s1, ↓s2, ↓d2, n10e, bI_t, bI_f, Bool.true_eq_false, Bool.false_eq_true]
          exact stC_dr H (by omega)
    · simp (disch := omega) only [a11, a01, ↓li_m, ↓oc_some, ↓oc_ite, ↓oc_oc, ↓oc_pl, ↓oc_none, ↓oc_oe, ↓pl_eq, ↓oe_i, ↓oe_j, va_up_self, va_up_ne, va_up_up, upd_s, upd_n, updL_s, updL_n, nI_add, nI_1, nI_ltI, nI_leI, nI_eq, nI_clamp, li_n, m1_lt, m1_le, m1_gt, m1_ge, m1_ne, m1_en, m1_ad, nle_F, nle_T, nlt_F, nlt_T, neq_F, neq_T, or_self, or_false, false_or, true_or, or_true, and_self, and_false, false_and, true_and, and_true, not_true_eq_false, not_false_eq_true, ↓reduceIte, if_true, if_false, Nat.reduceAdd, ite_self, Bool.false_eq_true, ↓a0, hc, H1, q]
      exact stC_no
  · rw [hc, show opl 23 = 4 from rfl] at hk
    have f1 : ∀ {α : Type} {F : Int32 → MI → MJ → Option α}, oc (f_Row_at 1 2 2000 (nI k + 1) I J) F = F (nI (cd (k + 1))) I J := fun {α F} => by rw [show nI k + 1 = nI (k + 1) from nI_add k 1, w_at1 (m := 2000) hr hn (by omega) (by omega), oc_some]
    have g1 := (hr.2 (k + 1) (by omega)).1
    have f2 : ∀ {α : Type} {F : Int32 → MI → MJ → Option α}, oc (f_Row_at 1 2 2000 (nI k + 2) I J) F = F (nI (cd (k + 2))) I J := fun {α F} => by rw [show nI k + 2 = nI (k + 2) from nI_add k 2, w_at1 (m := 2000) hr hn (by omega) (by omega), oc_some]
    have g2 := (hr.2 (k + 2) (by omega)).1
    have f3 : ∀ {α : Type} {F : Int32 → MI → MJ → Option α}, oc (f_Row_at 1 2 2000 (nI k + 3) I J) F = F (nI (cd (k + 3))) I J := fun {α F} => by rw [show nI k + 3 = nI (k + 3) from nI_add k 3, w_at1 (m := 2000) hr hn (by omega) (by omega), oc_some]
    have g3 := (hr.2 (k + 3) (by omega)).1
    by_cases q1 : 3 < cd (k + 1)
    · by_cases q2 : cd (k + 2) < 4
      · by_cases q3 : cd (k + 3) < 4
        · simp (disch := omega) only [a11, a01, ↓li_m, ↓oc_some, ↓oc_ite, ↓oc_oc, ↓oc_pl, ↓oc_none, ↓oc_oe, ↓pl_eq, ↓oe_i, ↓oe_j, va_up_self, va_up_ne, va_up_up, upd_s, upd_n, updL_s, updL_n, nI_add, nI_1, nI_ltI, nI_leI, nI_eq, nI_clamp, li_n, m1_lt, m1_le, m1_gt, m1_ge, m1_ne, m1_en, m1_ad, nle_F, nle_T, nlt_F, nlt_T, neq_F, neq_T, or_self, or_false, false_or, true_or, or_true, and_self, and_false, false_and, true_and, and_true, not_true_eq_false, not_false_eq_true, ↓reduceIte, if_true, if_false, Nat.reduceAdd, ite_self, Bool.false_eq_true, ↓a0, hc, ↓U_Verifier_keepsSecret, ↓f1, ↓f2, ↓f3, q1, q2, q3, n10e]
          exact stC_same H
        · simp (disch := omega) only [a11, a01, ↓li_m, ↓oc_some, ↓oc_ite, ↓oc_oc, ↓oc_pl, ↓oc_none, ↓oc_oe, ↓pl_eq, ↓oe_i, ↓oe_j, va_up_self, va_up_ne, va_up_up, upd_s, upd_n, updL_s, updL_n, nI_add, nI_1, nI_ltI, nI_leI, nI_eq, nI_clamp, li_n, m1_lt, m1_le, m1_gt, m1_ge, m1_ne, m1_en, m1_ad, nle_F, nle_T, nlt_F, nlt_T, neq_F, neq_T, or_self, or_false, false_or, true_or, or_true, and_self, and_false, false_and, true_and, and_true, not_true_eq_false, not_false_eq_true, ↓reduceIte, if_true, if_false, Nat.reduceAdd, ite_self, Bool.false_eq_true, ↓a0, hc, ↓U_Verifier_keepsSecret, ↓f1, ↓f2, ↓f3, q1, q2, q3, n10e]
          exact stC_same H
      · simp (disch := omega) only [a11, a01, ↓li_m, ↓oc_some, ↓oc_ite, ↓oc_oc, ↓oc_pl, ↓oc_none, ↓oc_oe, ↓pl_eq, ↓oe_i, ↓oe_j, va_up_self, va_up_ne, va_up_up, upd_s, upd_n, updL_s, updL_n, nI_add, nI_1, nI_ltI, nI_leI, nI_eq, nI_clamp, li_n, m1_lt, m1_le, m1_gt, m1_ge, m1_ne, m1_en, m1_ad, nle_F, nle_T, nlt_F, nlt_T, neq_F, neq_T, or_self, or_false, false_or, true_or, or_true, and_self, and_false, false_and, true_and, and_true, not_true_eq_false, not_false_eq_true, ↓reduceIte, if_true, if_false, Nat.reduceAdd, ite_self, Bool.false_eq_true, ↓a0, hc, ↓U_Verifier_keepsSecret, ↓f1, ↓f2, ↓f3, q1, q2, n10e]
        exact stC_same H
    · by_cases q2 : cd (k + 2) < 4
      · by_cases q3 : cd (k + 3) < 4
        · simp (disch := omega) only [a11, a01, ↓li_m, ↓oc_some, ↓oc_ite, ↓oc_oc, ↓oc_pl, ↓oc_none, ↓oc_oe, ↓pl_eq, ↓oe_i, ↓oe_j, va_up_self, va_up_ne, va_up_up, upd_s, upd_n, updL_s, updL_n, nI_add, nI_1, nI_ltI, nI_leI, nI_eq, nI_clamp, li_n, m1_lt, m1_le, m1_gt, m1_ge, m1_ne, m1_en, m1_ad, nle_F, nle_T, nlt_F, nlt_T, neq_F, neq_T, or_self, or_false, false_or, true_or, or_true, and_self, and_false, false_and, true_and, and_true, not_true_eq_false, not_false_eq_true, ↓reduceIte, if_true, if_false, Nat.reduceAdd, ite_self, Bool.false_eq_true, ↓a0, hc, ↓U_Verifier_keepsSecret, ↓f1, ↓f2, ↓f3, q1, q2, q3, n10e]
          exact stC_same H
        · simp (disch := omega) only [a11, a01, ↓li_m, ↓oc_some, ↓oc_ite, ↓oc_oc, ↓oc_pl, ↓oc_none, ↓oc_oe, ↓pl_eq, ↓oe_i, ↓oe_j, va_up_self, va_up_ne, va_up_up, upd_s, upd_n, updL_s, updL_n, nI_add, nI_1, nI_ltI, nI_leI, nI_eq, nI_clamp, li_n, m1_lt, m1_le, m1_gt, m1_ge, m1_ne, m1_en, m1_ad, nle_F, nle_T, nlt_F, nlt_T, neq_F, neq_T, or_self, or_false, false_or, true_or, or_true, and_self, and_false, false_and, true_and, and_true, not_true_eq_false, not_false_eq_true, ↓reduceIte, if_true, if_false, Nat.reduceAdd, ite_self, Bool.false_eq_true, ↓a0, hc, ↓U_Verifier_keepsSecret, ↓f1, ↓f2, ↓f3, q1, q2, q3, n10e]
          exact stC_no
      · simp (disch := omega) only [a11, a01, ↓li_m, ↓oc_some, ↓oc_ite, ↓oc_oc, ↓oc_pl, ↓oc_none, ↓oc_oe, ↓pl_eq, ↓oe_i, ↓oe_j, va_up_self, va_up_ne, va_up_up, upd_s, upd_n, updL_s, updL_n, nI_add, nI_1, nI_ltI, nI_leI, nI_eq, nI_clamp, li_n, m1_lt, m1_le, m1_gt, m1_ge, m1_ne, m1_en, m1_ad, nle_F, nle_T, nlt_F, nlt_T, neq_F, neq_T, or_self, or_false, false_or, true_or, or_true, and_self, and_false, false_and, true_and, and_true, not_true_eq_false, not_false_eq_true, ↓reduceIte, if_true, if_false, Nat.reduceAdd, ite_self, Bool.false_eq_true, ↓a0, hc, ↓U_Verifier_keepsSecret, ↓f1, ↓f2, ↓f3, q1, q2, n10e]
        exact stC_no
  · rw [hc, show opl 24 = 4 from rfl] at hk
    have f1 : ∀ {α : Type} {F : Int32 → MI → MJ → Option α}, oc (f_Row_at 1 2 2000 (nI k + 1) I J) F = F (nI (cd (k + 1))) I J := fun {α F} => by rw [show nI k + 1 = nI (k + 1) from nI_add k 1, w_at1 (m := 2000) hr hn (by omega) (by omega), oc_some]
    have g1 := (hr.2 (k + 1) (by omega)).1
    have f2 : ∀ {α : Type} {F : Int32 → MI → MJ → Option α}, oc (f_Row_at 1 2 2000 (nI k + 2) I J) F = F (nI (cd (k + 2))) I J := fun {α F} => by rw [show nI k + 2 = nI (k + 2) from nI_add k 2, w_at1 (m := 2000) hr hn (by omega) (by omega), oc_some]
    have g2 := (hr.2 (k + 2) (by omega)).1
    have f3 : ∀ {α : Type} {F : Int32 → MI → MJ → Option α}, oc (f_Row_at 1 2 2000 (nI k + 3) I J) F = F (nI (cd (k + 3))) I J := fun {α F} => by rw [show nI k + 3 = nI (k + 3) from nI_add k 3, w_at1 (m := 2000) hr hn (by omega) (by omega), oc_some]
    have g3 := (hr.2 (k + 3) (by omega)).1
    by_cases q1 : 3 < cd (k + 1)
    · by_cases q2 : cd (k + 2) < 4
      · by_cases q3 : cd (k + 3) < 4
        · simp (disch := omega) only [a11, a01, ↓li_m, ↓oc_some, ↓oc_ite, ↓oc_oc, ↓oc_pl, ↓oc_none, ↓oc_oe, ↓pl_eq, ↓oe_i, ↓oe_j, va_up_self, va_up_ne, va_up_up, upd_s, upd_n, updL_s, updL_n, nI_add, nI_1, nI_ltI, nI_leI, nI_eq, nI_clamp, li_n, m1_lt, m1_le, m1_gt, m1_ge, m1_ne, m1_en, m1_ad, nle_F, nle_T, nlt_F, nlt_T, neq_F, neq_T, or_self, or_false, false_or, true_or, or_true, and_self, and_false, false_and, true_and, and_true, not_true_eq_false, not_false_eq_true, ↓reduceIte, if_true, if_false, Nat.reduceAdd, ite_self, Bool.false_eq_true, ↓a0, hc, ↓U_Verifier_keepsSecret, ↓f1, ↓f2, ↓f3, q1, q2, q3, n10e]
          exact stC_same H
        · simp (disch := omega) only [a11, a01, ↓li_m, ↓oc_some, ↓oc_ite, ↓oc_oc, ↓oc_pl, ↓oc_none, ↓oc_oe, ↓pl_eq, ↓oe_i, ↓oe_j, va_up_self, va_up_ne, va_up_up, upd_s, upd_n, updL_s, updL_n, nI_add, nI_1, nI_ltI, nI_leI, nI_eq, nI_clamp, li_n, m1_lt, m1_le, m1_gt, m1_ge, m1_ne, m1_en, m1_ad, nle_F, nle_T, nlt_F, nlt_T, neq_F, neq_T, or_self, or_false, false_or, true_or, or_true, and_self, and_false, false_and, true_and, and_true, not_true_eq_false, not_false_eq_true, ↓reduceIte, if_true, if_false, Nat.reduceAdd, ite_self, Bool.false_eq_true, ↓a0, hc, ↓U_Verifier_keepsSecret, ↓f1, ↓f2, ↓f3, q1, q2, q3, n10e]
          exact stC_same H
      · simp (disch := omega) only [a11, a01, ↓li_m, ↓oc_some, ↓oc_ite, ↓oc_oc, ↓oc_pl, ↓oc_none, ↓oc_oe, ↓pl_eq, ↓oe_i, ↓oe_j, va_up_self, va_up_ne, va_up_up, upd_s, upd_n, updL_s, updL_n, nI_add, nI_1, nI_ltI, nI_leI, nI_eq, nI_clamp, li_n, m1_lt, m1_le, m1_gt, m1_ge, m1_ne, m1_en, m1_ad, nle_F, nle_T, nlt_F, nlt_T, neq_F, neq_T, or_self, or_false, false_or, true_or, or_true, and_self, and_false, false_and, true_and, and_true, not_true_eq_false, not_false_eq_true, ↓reduceIte, if_true, if_false, Nat.reduceAdd, ite_self, Bool.false_eq_true, ↓a0, hc, ↓U_Verifier_keepsSecret, ↓f1, ↓f2, ↓f3, q1, q2, n10e]
        exact stC_same H
    · by_cases q2 : cd (k + 2) < 4
      · by_cases q3 : cd (k + 3) < 4
        · simp (disch := omega) only [a11, a01, ↓li_m, ↓oc_some, ↓oc_ite, ↓oc_oc, ↓oc_pl, ↓oc_none, ↓oc_oe, ↓pl_eq, ↓oe_i, ↓oe_j, va_up_self, va_up_ne, va_up_up, upd_s, upd_n, updL_s, updL_n, nI_add, nI_1, nI_ltI, nI_leI, nI_eq, nI_clamp, li_n, m1_lt, m1_le, m1_gt, m1_ge, m1_ne, m1_en, m1_ad, nle_F, nle_T, nlt_F, nlt_T, neq_F, neq_T, or_self, or_false, false_or, true_or, or_true, and_self, and_false, false_and, true_and, and_true, not_true_eq_false, not_false_eq_true, ↓reduceIte, if_true, if_false, Nat.reduceAdd, ite_self, Bool.false_eq_true, ↓a0, hc, ↓U_Verifier_keepsSecret, ↓f1, ↓f2, ↓f3, q1, q2, q3, n10e]
          exact stC_same H
        · simp (disch := omega) only [a11, a01, ↓li_m, ↓oc_some, ↓oc_ite, ↓oc_oc, ↓oc_pl, ↓oc_none, ↓oc_oe, ↓pl_eq, ↓oe_i, ↓oe_j, va_up_self, va_up_ne, va_up_up, upd_s, upd_n, updL_s, updL_n, nI_add, nI_1, nI_ltI, nI_leI, nI_eq, nI_clamp, li_n, m1_lt, m1_le, m1_gt, m1_ge, m1_ne, m1_en, m1_ad, nle_F, nle_T, nlt_F, nlt_T, neq_F, neq_T, or_self, or_false, false_or, true_or, or_true, and_self, and_false, false_and, true_and, and_true, not_true_eq_false, not_false_eq_true, ↓reduceIte, if_true, if_false, Nat.reduceAdd, ite_self, Bool.false_eq_true, ↓a0, hc, ↓U_Verifier_keepsSecret, ↓f1, ↓f2, ↓f3, q1, q2, q3, n10e]
          exact stC_no
      · simp (disch := omega) only [a11, a01, ↓li_m, ↓oc_some, ↓oc_ite, ↓oc_oc, ↓oc_pl, ↓oc_none, ↓oc_oe, ↓pl_eq, ↓oe_i, ↓oe_j, va_up_self, va_up_ne, va_up_up, upd_s, upd_n, updL_s, updL_n, nI_add, nI_1, nI_ltI, nI_leI, nI_eq, nI_clamp, li_n, m1_lt, m1_le, m1_gt, m1_ge, m1_ne, m1_en, m1_ad, nle_F, nle_T, nlt_F, nlt_T, neq_F, neq_T, or_self, or_false, false_or, true_or, or_true, and_self, and_false, false_and, true_and, and_true, not_true_eq_false, not_false_eq_true, ↓reduceIte, if_true, if_false, Nat.reduceAdd, ite_self, Bool.false_eq_true, ↓a0, hc, ↓U_Verifier_keepsSecret, ↓f1, ↓f2, ↓f3, q1, q2, n10e]
        exact stC_no
  · rw [hc, show opl 25 = 4 from rfl] at hk
    have f1 : ∀ {α : Type} {F : Int32 → MI → MJ → Option α}, oc (f_Row_at 1 2 2000 (nI k + 1) I J) F = F (nI (cd (k + 1))) I J := fun {α F} => by rw [show nI k + 1 = nI (k + 1) from nI_add k 1, w_at1 (m := 2000) hr hn (by omega) (by omega), oc_some]
    have g1 := (hr.2 (k + 1) (by omega)).1
    have f2 : ∀ {α : Type} {F : Int32 → MI → MJ → Option α}, oc (f_Row_at 1 2 2000 (nI k + 2) I J) F = F (nI (cd (k + 2))) I J := fun {α F} => by rw [show nI k + 2 = nI (k + 2) from nI_add k 2, w_at1 (m := 2000) hr hn (by omega) (by omega), oc_some]
    have g2 := (hr.2 (k + 2) (by omega)).1
    have f3 : ∀ {α : Type} {F : Int32 → MI → MJ → Option α}, oc (f_Row_at 1 2 2000 (nI k + 3) I J) F = F (nI (cd (k + 3))) I J := fun {α F} => by rw [show nI k + 3 = nI (k + 3) from nI_add k 3, w_at1 (m := 2000) hr hn (by omega) (by omega), oc_some]
    have g3 := (hr.2 (k + 3) (by omega)).1
    by_cases q1 : 3 < cd (k + 1)
    · by_cases q2 : cd (k + 2) < 4
      · by_cases q3 : cd (k + 3) < 4
        · simp (disch := omega) only [a11, a01, ↓li_m, ↓oc_some, ↓oc_ite, ↓oc_oc, ↓oc_pl, ↓oc_none, ↓oc_oe, ↓pl_eq, ↓oe_i, ↓oe_j, va_up_self, va_up_ne, va_up_up, upd_s, upd_n, updL_s, updL_n, nI_add, nI_1, nI_ltI, nI_leI, nI_eq, nI_clamp, li_n, m1_lt, m1_le, m1_gt, m1_ge, m1_ne, m1_en, m1_ad, nle_F, nle_T, nlt_F, nlt_T, neq_F, neq_T, or_self, or_false, false_or, true_or, or_true, and_self, and_false, false_and, true_and, and_true, not_true_eq_false, not_false_eq_true, ↓reduceIte, if_true, if_false, Nat.reduceAdd, ite_self, Bool.false_eq_true, ↓a0, hc, ↓U_Verifier_keepsSecret, ↓f1, ↓f2, ↓f3, q1, q2, q3, n10e]
          exact stC_same H
        · simp (disch := omega) only [a11, a01, ↓li_m, ↓oc_some, ↓oc_ite, ↓oc_oc, ↓oc_pl, ↓oc_none, ↓oc_oe, ↓pl_eq, ↓oe_i, ↓oe_j, va_up_self, va_up_ne, va_up_up, upd_s, upd_n, updL_s, updL_n, nI_add, nI_1, nI_ltI, nI_leI, nI_eq, nI_clamp, li_n, m1_lt, m1_le, m1_gt, m1_ge, m1_ne, m1_en, m1_ad, nle_F, nle_T, nlt_F, nlt_T, neq_F, neq_T, or_self, or_false, false_or, true_or, or_true, and_self, and_false, false_and, true_and, and_true, not_true_eq_false, not_false_eq_true, ↓reduceIte, if_true, if_false, Nat.reduceAdd, ite_self, Bool.false_eq_true, ↓a0, hc, ↓U_Verifier_keepsSecret, ↓f1, ↓f2, ↓f3, q1, q2, q3, n10e]
          exact stC_same H
      · simp (disch := omega) only [a11, a01, ↓li_m, ↓oc_some, ↓oc_ite, ↓oc_oc, ↓oc_pl, ↓oc_none, ↓oc_oe, ↓pl_eq, ↓oe_i, ↓oe_j, va_up_self, va_up_ne, va_up_up, upd_s, upd_n, updL_s, updL_n, nI_add, nI_1, nI_ltI, nI_leI, nI_eq, nI_clamp, li_n, m1_lt, m1_le, m1_gt, m1_ge, m1_ne, m1_en, m1_ad, nle_F, nle_T, nlt_F, nlt_T, neq_F, neq_T, or_self, or_false, false_or, true_or, or_true, and_self, and_false, false_and, true_and, and_true, not_true_eq_false, not_false_eq_true, ↓reduceIte, if_true, if_false, Nat.reduceAdd, ite_self, Bool.false_eq_true, ↓a0, hc, ↓U_Verifier_keepsSecret, ↓f1, ↓f2, ↓f3, q1, q2, n10e]
        exact stC_same H
    · by_cases q2 : cd (k + 2) < 4
      · by_cases q3 : cd (k + 3) < 4
        · simp (disch := omega) only [a11, a01, ↓li_m, ↓oc_some, ↓oc_ite, ↓oc_oc, ↓oc_pl, ↓oc_none, ↓oc_oe, ↓pl_eq, ↓oe_i, ↓oe_j, va_up_self, va_up_ne, va_up_up, upd_s, upd_n, updL_s, updL_n, nI_add, nI_1, nI_ltI, nI_leI, nI_eq, nI_clamp, li_n, m1_lt, m1_le, m1_gt, m1_ge, m1_ne, m1_en, m1_ad, nle_F, nle_T, nlt_F, nlt_T, neq_F, neq_T, or_self, or_false, false_or, true_or, or_true, and_self, and_false, false_and, true_and, and_true, not_true_eq_false, not_false_eq_true, ↓reduceIte, if_true, if_false, Nat.reduceAdd, ite_self, Bool.false_eq_true, ↓a0, hc, ↓U_Verifier_keepsSecret, ↓f1, ↓f2, ↓f3, q1, q2, q3, n10e]
          exact stC_same H
        · simp (disch := omega) only [a11, a01, ↓li_m, ↓oc_some, ↓oc_ite, ↓oc_oc, ↓oc_pl, ↓oc_none, ↓oc_oe, ↓pl_eq, ↓oe_i, ↓oe_j, va_up_self, va_up_ne, va_up_up, upd_s, upd_n, updL_s, updL_n, nI_add, nI_1, nI_ltI, nI_leI, nI_eq, nI_clamp, li_n, m1_lt, m1_le, m1_gt, m1_ge, m1_ne, m1_en, m1_ad, nle_F, nle_T, nlt_F, nlt_T, neq_F, neq_T, or_self, or_false, false_or, true_or, or_true, and_self, and_false, false_and, true_and, and_true, not_true_eq_false, not_false_eq_true, ↓reduceIte, if_true, if_false, Nat.reduceAdd, ite_self, Bool.false_eq_true, ↓a0, hc, ↓U_Verifier_keepsSecret, ↓f1, ↓f2, ↓f3, q1, q2, q3, n10e]
          exact stC_no
      · simp (disch := omega) only [a11, a01, ↓li_m, ↓oc_some, ↓oc_ite, ↓oc_oc, ↓oc_pl, ↓oc_none, ↓oc_oe, ↓pl_eq, ↓oe_i, ↓oe_j, va_up_self, va_up_ne, va_up_up, upd_s, upd_n, updL_s, updL_n, nI_add, nI_1, nI_ltI, nI_leI, nI_eq, nI_clamp, li_n, m1_lt, m1_le, m1_gt, m1_ge, m1_ne, m1_en, m1_ad, nle_F, nle_T, nlt_F, nlt_T, neq_F, neq_T, or_self, or_false, false_or, true_or, or_true, and_self, and_false, false_and, true_and, and_true, not_true_eq_false, not_false_eq_true, ↓reduceIte, if_true, if_false, Nat.reduceAdd, ite_self, Bool.false_eq_true, ↓a0, hc, ↓U_Verifier_keepsSecret, ↓f1, ↓f2, ↓f3, q1, q2, n10e]
        exact stC_no
  · by_cases q : h < 64
    · have e := pC1 (J := J) (b := true) H1 q (p := 1) rfl
      have f := stC_ps (J := J) (b := true) H (Nat.le_refl h) q
      rw [← e] at f
      have e2 : ∀ {F : Int32 → MI → MJ → Option (Int32 × MI × MJ)}, oc (f_Verifier_pushes 1 I J) F = F (nI 1) (va_up (va_up I 13 (upd (I 13) h (bI true))) 10 (upd (I 10) 3 (nI (h + 1)))) J := fun {F} => by rw [e, oc_some]
      rw [e] at f
      simp (disch := omega) only [a11, a01, ↓li_m, ↓oc_some, ↓oc_ite, ↓oc_oc, ↓oc_pl, ↓oc_none, ↓oc_oe, ↓pl_eq, ↓oe_i, ↓oe_j, va_up_self, va_up_ne, va_up_up, upd_s, upd_n, updL_s, updL_n, nI_add, nI_1, nI_ltI, nI_leI, nI_eq, nI_clamp, li_n, m1_lt, m1_le, m1_gt, m1_ge, m1_ne, m1_en, m1_ad, nle_F, nle_T, nlt_F, nlt_T, neq_F, neq_T, or_self, or_false, false_or, true_or, or_true, and_self, and_false, false_and, true_and, and_true, not_true_eq_false, not_false_eq_true, ↓reduceIte, if_true, if_false, Nat.reduceAdd, ite_self, Bool.false_eq_true, ↓a0, hc, ↓e2]
      exact f
    · have e := pC0 (J := J) (p := 1) H1 (by omega)
      have e2 : ∀ {F : Int32 → MI → MJ → Option (Int32 × MI × MJ)}, oc (f_Verifier_pushes 1 I J) F = F (nI 0) I J := fun {F} => by rw [e, oc_some]
      simp (disch := omega) only [a11, a01, ↓li_m, ↓oc_some, ↓oc_ite, ↓oc_oc, ↓oc_pl, ↓oc_none, ↓oc_oe, ↓pl_eq, ↓oe_i, ↓oe_j, va_up_self, va_up_ne, va_up_up, upd_s, upd_n, updL_s, updL_n, nI_add, nI_1, nI_ltI, nI_leI, nI_eq, nI_clamp, li_n, m1_lt, m1_le, m1_gt, m1_ge, m1_ne, m1_en, m1_ad, nle_F, nle_T, nlt_F, nlt_T, neq_F, neq_T, or_self, or_false, false_or, true_or, or_true, and_self, and_false, false_and, true_and, and_true, not_true_eq_false, not_false_eq_true, ↓reduceIte, if_true, if_false, Nat.reduceAdd, ite_self, Bool.false_eq_true, ↓a0, hc, ↓e2, psh, q]
      exact stC_no
  · simp (disch := omega) only [a11, a01, ↓li_m, ↓oc_some, ↓oc_ite, ↓oc_oc, ↓oc_pl, ↓oc_none, ↓oc_oe, ↓pl_eq, ↓oe_i, ↓oe_j, va_up_self, va_up_ne, va_up_up, upd_s, upd_n, updL_s, updL_n, nI_add, nI_1, nI_ltI, nI_leI, nI_eq, nI_clamp, li_n, m1_lt, m1_le, m1_gt, m1_ge, m1_ne, m1_en, m1_ad, nle_F, nle_T, nlt_F, nlt_T, neq_F, neq_T, or_self, or_false, false_or, true_or, or_true, and_self, and_false, false_and, true_and, and_true, not_true_eq_false, not_false_eq_true, ↓reduceIte, if_true, if_false, Nat.reduceAdd, ite_self, Bool.false_eq_true, ↓a0, hc]
    exact stC_same H
  · by_cases q : h = 0
    · simp (disch := omega) only [a11, a01, ↓li_m, ↓oc_some, ↓oc_ite, ↓oc_oc, ↓oc_pl, ↓oc_none, ↓oc_oe, ↓pl_eq, ↓oe_i, ↓oe_j, va_up_self, va_up_ne, va_up_up, upd_s, upd_n, updL_s, updL_n, nI_add, nI_1, nI_ltI, nI_leI, nI_eq, nI_clamp, li_n, m1_lt, m1_le, m1_gt, m1_ge, m1_ne, m1_en, m1_ad, nle_F, nle_T, nlt_F, nlt_T, neq_F, neq_T, or_self, or_false, false_or, true_or, or_true, and_self, and_false, false_and, true_and, and_true, not_true_eq_false, not_false_eq_true, ↓reduceIte, if_true, if_false, Nat.reduceAdd, ite_self, Bool.false_eq_true, ↓a0, hc, H1, q]
      exact stC_same (by rw [← q]; exact H)
    · simp (disch := omega) only [a11, a01, ↓li_m, ↓oc_some, ↓oc_ite, ↓oc_oc, ↓oc_pl, ↓oc_none, ↓oc_oe, ↓pl_eq, ↓oe_i, ↓oe_j, va_up_self, va_up_ne, va_up_up, upd_s, upd_n, updL_s, updL_n, nI_add, nI_1, nI_ltI, nI_leI, nI_eq, nI_clamp, li_n, m1_lt, m1_le, m1_gt, m1_ge, m1_ne, m1_en, m1_ad, nle_F, nle_T, nlt_F, nlt_T, neq_F, neq_T, or_self, or_false, false_or, true_or, or_true, and_self, and_false, false_and, true_and, and_true, not_true_eq_false, not_false_eq_true, ↓reduceIte, if_true, if_false, Nat.reduceAdd, ite_self, Bool.false_eq_true, ↓a0, hc, H1, q]
      exact stC_no
  · by_cases q : h = 0
    · simp (disch := omega) only [a11, a01, ↓li_m, ↓oc_some, ↓oc_ite, ↓oc_oc, ↓oc_pl, ↓oc_none, ↓oc_oe, ↓pl_eq, ↓oe_i, ↓oe_j, va_up_self, va_up_ne, va_up_up, upd_s, upd_n, updL_s, updL_n, nI_add, nI_1, nI_ltI, nI_leI, nI_eq, nI_clamp, li_n, m1_lt, m1_le, m1_gt, m1_ge, m1_ne, m1_en, m1_ad, nle_F, nle_T, nlt_F, nlt_T, neq_F, neq_T, or_self, or_false, false_or, true_or, or_true, and_self, and_false, false_and, true_and, and_true, not_true_eq_false, not_false_eq_true, ↓reduceIte, if_true, if_false, Nat.reduceAdd, ite_self, Bool.false_eq_true, ↓a0, hc, H1, q]
      exact stC_same (by rw [← q]; exact H)
    · simp (disch := omega) only [a11, a01, ↓li_m, ↓oc_some, ↓oc_ite, ↓oc_oc, ↓oc_pl, ↓oc_none, ↓oc_oe, ↓pl_eq, ↓oe_i, ↓oe_j, va_up_self, va_up_ne, va_up_up, upd_s, upd_n, updL_s, updL_n, nI_add, nI_1, nI_ltI, nI_leI, nI_eq, nI_clamp, li_n, m1_lt, m1_le, m1_gt, m1_ge, m1_ne, m1_en, m1_ad, nle_F, nle_T, nlt_F, nlt_T, neq_F, neq_T, or_self, or_false, false_or, true_or, or_true, and_self, and_false, false_and, true_and, and_true, not_true_eq_false, not_false_eq_true, ↓reduceIte, if_true, if_false, Nat.reduceAdd, ite_self, Bool.false_eq_true, ↓a0, hc, H1, q]
      exact stC_no
