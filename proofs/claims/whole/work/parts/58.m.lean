/-! the run: errors -/
def ss (f : Nat → Nat) : Nat → Nat → Nat
  | 0, _ => 0
  | d + 1, t => f t + ss f d (t + 1)
theorem ss_c {f g : Nat → Nat} : ∀ (d t : Nat), (∀ i, t ≤ i → i < t + d → f i = g i) → ss f d t = ss g d t := by
  intro d
  induction d with
  | zero => intro t _; rfl
  | succ d ih =>
    intro t h
    rw [ss, ss, h t (Nat.le_refl _) (by omega), ih (t + 1) (fun i a b => h i (by omega) (by omega))]
theorem ss_0 : ∀ (d t : Nat), ss (fun _ => 0) d t = 0 := by
  intro d
  induction d with
  | zero => intro t; rfl
  | succ d ih => intro t; rw [ss, ih]
theorem ss_a {f g : Nat → Nat} : ∀ (d t : Nat), ss (fun i => f i + g i) d t = ss f d t + ss g d t := by
  intro d
  induction d with
  | zero => intro t; rfl
  | succ d ih => intro t; rw [ss, ss, ss, ih]; omega
theorem ss_x {g : Nat → Nat → Nat} {N : Nat} : ∀ (d i : Nat), ss (fun i => ss (g i) N 0) d i = ss (fun t => ss (fun i => g i t) d i) N 0 := by
  intro d
  induction d with
  | zero => intro i; rw [ss]; exact (ss_0 N 0).symm
  | succ d ih =>
    intro i
    rw [ss, ih (i + 1), ← ss_a]
    rfl
theorem ss_1 {b p : Nat} {c : Nat → Prop} [DecidablePred c] : ∀ (d i : Nat), ss (fun i => if c i ∧ p = i then b else 0) d i = if i ≤ p ∧ p < i + d ∧ c p then b else 0 := by
  intro d
  induction d with
  | zero => intro i; rw [ss, if_neg (fun h => by omega)]
  | succ d ih =>
    intro i
    rw [ss, ih (i + 1)]
    by_cases e : p = i
    · subst e
      by_cases h : c p
      · rw [if_pos ⟨h, rfl⟩, if_neg (fun x => by omega), if_pos ⟨Nat.le_refl _, by omega, h⟩]
        omega
      · rw [if_neg (fun x => h x.1), if_neg (fun x => h x.2.2), if_neg (fun x => h x.2.2)]
    · rw [if_neg (fun x => e x.2)]
      by_cases h : i + 1 ≤ p ∧ p < i + 1 + d ∧ c p
      · rw [if_pos h, if_pos ⟨by omega, by omega, h.2.2⟩]
        omega
      · rw [if_neg h, if_neg (fun x => h ⟨by omega, by omega, x.2.2⟩)]
/-- tampers, in both -/
def TAM (I I' : MI) (J J' : MJ) (P NT : Nat) (tp ts tk tb : Nat → Nat) : Prop := I 103 4 = nI NT ∧ I' 112 66 = nI NT ∧ NT ≤ 40 ∧ ∀ t, t < NT → (tp t < P ∧ ts t < 1000 ∧ tk t < 32 ∧ tb t < pP) ∧ (I 104 t = nI (tp t) ∧ I 105 t = nI (ts t) ∧ I 106 t = nI (tk t) ∧ J 107 t = lN (tb t)) ∧ (I' 156 t = nI (tp t) ∧ I' 157 t = nI (ts t) ∧ I' 158 t = nI (tk t) ∧ J' 159 t = lN (tb t))
def eC (NT : Nat) (tp ts tk tb : Nat → Nat) (j n k : Nat) : Nat := ss (fun t => if tp t = j ∧ ts t = n ∧ tk t = k then tb t else 0) NT 0
/-- the error in number k of an event with senders sd, whose n-th plain sends it is -/
def eE (NT : Nat) (tp ts tk tb : Nat → Nat) (sd : Nat → Bool) (pl : Nat → Nat) (k : Nat) : Nat := ss (fun t => if sd (tp t) = true ∧ pl (tp t) = ts t ∧ tk t = k then tb t else 0) NT 0 % pP
theorem eE_lt {NT : Nat} {tp ts tk tb : Nat → Nat} {sd : Nat → Bool} {pl : Nat → Nat} {k : Nat} : eE NT tp ts tk tb sd pl k < pP := Nat.mod_lt _ pP_pos
theorem eE_x {NT P : Nat} {tp ts tk tb : Nat → Nat} {sd : Nat → Bool} {pl : Nat → Nat} {k : Nat} (h : ∀ t, t < NT → tp t < P) : ss (fun i => if sd i = true then eC NT tp ts tk tb i (pl i) k else 0) P 0 % pP = eE NT tp ts tk tb sd pl k := by
  unfold eE
  congr 1
  have e1 : ss (fun i => if sd i = true then eC NT tp ts tk tb i (pl i) k else 0) P 0 = ss (fun i => ss (fun t => if (sd i = true ∧ ts t = pl i ∧ tk t = k) ∧ tp t = i then tb t else 0) NT 0) P 0 := by
    refine ss_c P 0 (fun i _ _ => ?_)
    by_cases s : sd i = true
    · rw [if_pos s]
      unfold eC
      refine ss_c NT 0 (fun t _ _ => ?_)
      by_cases x : tp t = i ∧ ts t = pl i ∧ tk t = k
      · rw [if_pos x, if_pos ⟨⟨s, x.2⟩, x.1⟩]
      · rw [if_neg x, if_neg (fun y => x ⟨y.2, y.1.2⟩)]
    · rw [if_neg s]
      refine ((ss_c NT 0 (fun t _ _ => ?_)).trans (ss_0 NT 0)).symm
      exact if_neg (fun y => s y.1.1)
  rw [e1, ss_x]
  refine ss_c NT 0 (fun t _ ht => ?_)
  have := h t (by omega)
  rw [ss_1 (c := fun i => sd i = true ∧ ts t = pl i ∧ tk t = k) P 0]
  by_cases x : sd (tp t) = true ∧ pl (tp t) = ts t ∧ tk t = k
  · rw [if_pos ⟨Nat.zero_le _, by omega, x.1, x.2.1.symm, x.2.2⟩, if_pos x]
  · rw [if_neg (fun y => x ⟨y.2.2.1, y.2.2.2.1.symm, y.2.2.2.2⟩), if_neg x]
theorem md3 (a b c m : Nat) : ((a + b) % m + c) % m = (a + (b + c)) % m := by rw [Nat.mod_add_mod, Nat.add_assoc]
section ERR
variable {P NT w : Nat} {tp ts tk tb : Nat → Nat} {I I' : MI} {J J' : MJ}
theorem ES6 {p2 p3 p4 : Int32} (hT : TAM I I' J J' P NT tp ts tk tb) {j n k : Nat} (hj : j < 4) (hn : n < 2 ^ 31) (hk : k < 32) (hP : P ≤ 4) : ∀ (d fu t a : Nat), t + d = NT → d < fu → a < pP → f_Errors_sum_6 p2 p3 p4 fu (nI j) (nI n) (nI k) (lN a) (nI t) I J = some (lN ((a + ss (fun t => if tp t = j ∧ ts t = n ∧ tk t = k then tb t else 0) d t) % pP), I, J) := by
  obtain ⟨t1, t2, t3, t4⟩ := hT
  intro d
  induction d with
  | zero =>
    intro fu t a h1 h2 ha
    obtain ⟨g, rfl⟩ : ∃ g, fu = g + 1 := ⟨fu - 1, by omega⟩
    rw [f_Errors_sum_6, t1, if_pos (nI_le (by omega) (by omega)), ss, Nat.add_zero, Nat.mod_eq_of_lt ha]
  | succ d ih =>
    intro fu t a h1 h2 ha
    obtain ⟨g, rfl⟩ : ∃ g, fu = g + 1 := ⟨fu - 1, by omega⟩
    obtain ⟨⟨x1, x2, x3, x4⟩, ⟨y1, y2, y3, y4⟩, _⟩ := t4 t (by omega)
    have zz : ¬ (nI t < 0 ∨ 40 ≤ t) := nin (by omega) (by decide)
    rw [f_Errors_sum_6, t1, if_neg (nI_ge (by omega) (by omega)), if_neg (show ¬ 40 ≤ nI t from nI_ge (b := 40) (by omega) (by omega)), nI_clamp (n := t) (by omega), if_neg zz, y1, if_neg zz, y2, if_neg zz, y3, if_neg zz, y4, ss, nI_1]
    have rec0 : ¬ (tp t = j ∧ ts t = n ∧ tk t = k) → f_Errors_sum_6 p2 p3 p4 g (nI j) (nI n) (nI k) (lN a) (nI (t + 1)) I J = some (lN ((a + ((if tp t = j ∧ ts t = n ∧ tk t = k then tb t else 0) + ss (fun t => if tp t = j ∧ ts t = n ∧ tk t = k then tb t else 0) d (t + 1))) % pP), I, J) := by
      intro hc
      rw [if_neg hc, Nat.zero_add]
      exact ih g (t + 1) a (by omega) (by omega) ha
    by_cases c1 : tp t = j
    · rw [if_neg (show ¬ ¬ nI (tp t) = nI j from fun x => x (by rw [c1]))]
      by_cases c2 : ts t = n
      · rw [if_neg (show ¬ ¬ nI (ts t) = nI n from fun x => x (by rw [c2]))]
        by_cases c3 : tk t = k
        · rw [if_neg (show ¬ ¬ nI (tk t) = nI k from fun x => x (by rw [c3])), o_qA ha x4, ih g (t + 1) _ (by omega) (by omega) (pA_lt _ _), if_pos ⟨c1, c2, c3⟩]
          unfold pA
          rw [md3]
        · rw [if_pos (show ¬ nI (tk t) = nI k from fun x => c3 ((nI_eq (by omega) (by omega)).mp x))]
          exact rec0 (fun x => c3 x.2.2)
      · rw [if_pos (show ¬ nI (ts t) = nI n from fun x => c2 ((nI_eq (by omega) hn).mp x))]
        exact rec0 (fun x => c2 x.2.1)
    · rw [if_pos (show ¬ nI (tp t) = nI j from fun x => c1 ((nI_eq (by omega) (by omega)).mp x))]
      exact rec0 (fun x => c1 x.1)
theorem ESM (hT : TAM I I' J J' P NT tp ts tk tb) {j n k : Nat} (hj : j < 4) (hn : n < 2 ^ 31) (hk : k < 32) (hP : P ≤ 4) {α : Type} {F : Int64 → MI → MJ → Option α} : oc (f_Errors_sum (nI j) (nI n) (nI k) I J) F = F (lN (eC NT tp ts tk tb j n k % pP)) I J := by
  have h40 := hT.2.2.1
  have e := ES6 (p2 := nI j) (p3 := nI n) (p4 := nI k) hT hj hn hk hP NT gF 0 0 (by omega) (gF_lt (by omega)) pP_pos
  rw [Nat.zero_add] at e
  have e' : f_Errors_sum_6 (nI j) (nI n) (nI k) gF (nI j) (nI n) (nI k) 0 0 I J = some (lN (eC NT tp ts tk tb j n k % pP), I, J) := e
  unfold f_Errors_sum
  rw [e', oc_some, oc_some]
theorem G34 {p3 p4 v l3 : Int32} {sd : Nat → Bool} {pl : Nat → Nat} (hT : TAM I I' J J' P NT tp ts tk tb) (hP : P ≤ 4) (hv : HF v sd) (h6 : I 14 6 = nI P) {k : Nat} (hk : k < 32) (hpl : ∀ j, j < P → pl j < 2 ^ 31 ∧ I (36 + 21 * w) j = nI (pl j)) : ∀ (d fu i a : Nat), i + d = P → d < fu → a < pP → f_Hall_gatherErrors_34 w p3 p4 fu v l3 (nI k) (lN a) (nI i) I J = some (lN ((a + ss (fun i => if sd i = true then eC NT tp ts tk tb i (pl i) k else 0) d i) % pP), I, J) := by
  intro d
  induction d with
  | zero =>
    intro fu i a h1 h2 ha
    obtain ⟨g, rfl⟩ : ∃ g, fu = g + 1 := ⟨fu - 1, by omega⟩
    rw [f_Hall_gatherErrors_34, h6, if_pos (nI_le (by omega) (by omega)), ss, Nat.add_zero, Nat.mod_eq_of_lt ha]
  | succ d ih =>
    intro fu i a h1 h2 ha
    obtain ⟨g, rfl⟩ : ∃ g, fu = g + 1 := ⟨fu - 1, by omega⟩
    obtain ⟨b1, b2⟩ := hpl i (by omega)
    rw [f_Hall_gatherErrors_34, h6, if_neg (nI_ge (by omega) (by omega)), HF_ite hv (by omega), ss, nI_1]
    by_cases s : sd i = true
    · rw [if_pos s, if_pos s, if_neg (nI_in (by omega) (by decide)), nI_clamp (by omega), b2, ESM hT (by omega) b1 hk hP, o_qA ha (Nat.mod_lt _ pP_pos), ih g (i + 1) _ (by omega) (by omega) (pA_lt _ _)]
      unfold pA
      rw [Nat.add_mod_mod, md3]
    · rw [if_neg s, if_neg s, Nat.zero_add]
      exact ih g (i + 1) a (by omega) (by omega) ha
/-- the reference's error of an event -/
theorem ME5 {p2 p3 : Int32} {sd : Nat → Bool} {pl : Nat → Nat} {ev : Nat} (hT : TAM I I' J J' P NT tp ts tk tb) (hP : P ≤ 4) (hev : ev < 30001) (hso : ∀ j, j < P → pl j < 2 ^ 31 ∧ I' 153 (4 * ev + j) = if sd j = true then nI (pl j) else m1) {k : Nat} (hk : k < 32) (Jx : MJ) (hJ : Jx 159 = J' 159) : ∀ (d fu t a : Nat), t + d = NT → d < fu → a < pP → f_Model_error_5 p2 p3 fu (nI ev) (nI k) (lN a) (nI t) I' Jx = some (lN ((a + ss (fun t => if sd (tp t) = true ∧ pl (tp t) = ts t ∧ tk t = k then tb t else 0) d t) % pP), I', Jx) := by
  obtain ⟨t1, t2, t3, t4⟩ := hT
  intro d
  induction d with
  | zero =>
    intro fu t a h1 h2 ha
    obtain ⟨g, rfl⟩ : ∃ g, fu = g + 1 := ⟨fu - 1, by omega⟩
    rw [f_Model_error_5, t2, if_pos (nI_le (by omega) (by omega)), ss, Nat.add_zero, Nat.mod_eq_of_lt ha]
  | succ d ih =>
    intro fu t a h1 h2 ha
    obtain ⟨g, rfl⟩ : ∃ g, fu = g + 1 := ⟨fu - 1, by omega⟩
    obtain ⟨⟨x1, x2, x3, x4⟩, _, ⟨y1, y2, y3, y4⟩⟩ := t4 t (by omega)
    obtain ⟨s1, s2⟩ := hso (tp t) x1
    have zz : ¬ (nI t < 0 ∨ 40 ≤ t) := nin (by omega) (by decide)
    have e4 : 4 * nI ev + nI (tp t) = nI (4 * ev + tp t) := by rw [show (4 : Int32) * nI ev = nI (4 * ev) from nI_mul 4 ev, nI_add]
    rw [f_Model_error_5, t2, if_neg (nI_ge (by omega) (by omega)), nI_clamp (n := t) (by omega), if_neg zz, y3, if_neg zz, y1, e4, if_neg (nI_in (by omega) (by decide)), nI_clamp (by omega), if_neg zz, y2, if_neg zz, hJ, y4, ss, nI_1, s2]
    have rec0 : ¬ (sd (tp t) = true ∧ pl (tp t) = ts t ∧ tk t = k) → f_Model_error_5 p2 p3 g (nI ev) (nI k) (lN a) (nI (t + 1)) I' Jx = some (lN ((a + ((if sd (tp t) = true ∧ pl (tp t) = ts t ∧ tk t = k then tb t else 0) + ss (fun t => if sd (tp t) = true ∧ pl (tp t) = ts t ∧ tk t = k then tb t else 0) d (t + 1))) % pP), I', Jx) := by
      intro hc
      rw [if_neg hc, Nat.zero_add]
      exact ih g (t + 1) a (by omega) (by omega) ha
    by_cases c3 : tk t = k
    · rw [if_neg (show ¬ ¬ nI (tk t) = nI k from fun x => x (by rw [c3]))]
      by_cases c1 : sd (tp t) = true
      · rw [if_pos c1]
        by_cases c2 : pl (tp t) = ts t
        · rw [if_neg (show ¬ ¬ nI (pl (tp t)) = nI (ts t) from fun x => x (by rw [c2])), o_mA ha x4, ih g (t + 1) _ (by omega) (by omega) (pA_lt _ _), if_pos ⟨c1, c2, c3⟩]
          unfold pA
          rw [md3]
        · rw [if_pos (show ¬ nI (pl (tp t)) = nI (ts t) from fun x => c2 ((nI_eq s1 (by omega)).mp x))]
          exact rec0 (fun x => c2 x.2.1)
      · rw [if_neg c1, if_pos (show ¬ m1 = nI (ts t) from fun x => by rw [m1_ne (by omega)] at x; exact x)]
        exact rec0 (fun x => c1 x.1)
    · rw [if_pos (show ¬ nI (tk t) = nI k from fun x => c3 ((nI_eq (by omega) (by omega)).mp x))]
      exact rec0 (fun x => c3 x.2.2)
theorem MER {sd : Nat → Bool} {pl : Nat → Nat} {ev : Nat} (hT : TAM I I' J J' P NT tp ts tk tb) (hP : P ≤ 4) (hev : ev < 30001) (hso : ∀ j, j < P → pl j < 2 ^ 31 ∧ I' 153 (4 * ev + j) = if sd j = true then nI (pl j) else m1) {k : Nat} (hk : k < 32) (Jx : MJ) (hJ : Jx 159 = J' 159) {α : Type} {F : Int64 → MI → MJ → Option α} : oc (f_Model_error (nI ev) (nI k) I' Jx) F = F (lN (eE NT tp ts tk tb sd pl k)) I' Jx := by
  have h40 := hT.2.2.1
  have e := ME5 (p2 := nI ev) (p3 := nI k) hT hP hev hso hk Jx hJ NT gF 0 0 (by omega) (gF_lt (by omega)) pP_pos
  rw [Nat.zero_add] at e
  have e' : f_Model_error_5 (nI ev) (nI k) gF (nI ev) (nI k) 0 0 I' Jx = some (lN (eE NT tp ts tk tb sd pl k), I', Jx) := e
  unfold f_Model_error
  rw [e', oc_some, oc_some]
end ERR
