/-! what is left of the dealt, of the class and of the reference -/
def lst (t : Nat → Nat) : Nat → Nat
  | 0 => t 0
  | i + 1 => if lst t i ≤ t (i + 1) then lst t i else t (i + 1)
def mxl (d : Nat) (t : Nat → Nat) : Nat → Nat
  | 0 => 0
  | i + 1 => if mxl d t i < d - t i then d - t i else mxl d t i
theorem lst_lt {t : Nat → Nat} {d : Nat} : ∀ i, (∀ j, j ≤ i → t j ≤ d) → lst t i ≤ d := by
  intro i
  induction i with
  | zero =>
    intro h
    exact h 0 (by omega)
  | succ i ih =>
    intro h
    unfold lst
    by_cases x : lst t i ≤ t (i + 1)
    · rw [if_pos x]
      exact ih (fun j hj => h j (by omega))
    · rw [if_neg x]
      exact h _ (by omega)
theorem mxl_lst {t : Nat → Nat} {d : Nat} : ∀ i, (∀ j, j ≤ i → t j ≤ d) → mxl d t (i + 1) = d - lst t i := by
  intro i
  induction i with
  | zero =>
    intro h
    have := h 0 (by omega)
    show (if 0 < d - t 0 then d - t 0 else 0) = d - t 0
    by_cases x : 0 < d - t 0
    · rw [if_pos x]
    · rw [if_neg x]
      omega
  | succ i ih =>
    intro h
    have e := ih (fun j hj => h j (by omega))
    have l := lst_lt i (fun j hj => h j (by omega))
    have l2 := h (i + 1) (by omega)
    rw [mxl, e, lst]
    by_cases x : lst t i ≤ t (i + 1)
    · rw [if_pos x, if_neg (by omega)]
    · rw [if_neg x, if_pos (by omega)]
section LEFT
variable {P k d a : Nat} {t : Nat → Nat} {I : MI} {J : MJ}
theorem ML4 {p2 : Int32} (hP : P ≤ 4) (h6 : I 14 6 = nI P) (hk : k < 3) (hd : I 102 k = nI d) (hdb : d < 2 ^ 30) (ht : ∀ j, j < P → t j ≤ d ∧ I (31 + 21 * j) k = nI (t j)) : ∀ (dd fu i : Nat), i + dd = P → dd < fu → mxl d t i ≤ d → f_Hall_mostLeft_4 p2 fu (nI k) (nI (mxl d t i)) (nI i) I J = some (nI (mxl d t P), I, J) := by
  intro dd
  induction dd with
  | zero =>
    intro fu i h1 h2 _
    obtain ⟨g, rfl⟩ : ∃ g, fu = g + 1 := ⟨fu - 1, by omega⟩
    rw [f_Hall_mostLeft_4, h6, show i = P by omega, if_pos (nI_le (by omega) (by omega))]
  | succ dd ih =>
    intro fu i h1 h2 h3
    obtain ⟨g, rfl⟩ : ∃ g, fu = g + 1 := ⟨fu - 1, by omega⟩
    obtain ⟨q1, q2⟩ := ht i (by omega)
    have zi := nin (show i < 4 by omega) (show 4 < 2 ^ 31 by decide)
    have e : (if nI (mxl d t i) < nI (d - t i) then nI (d - t i) else nI (mxl d t i)) = nI (mxl d t (i + 1)) := by
      rw [mxl]
      by_cases x : mxl d t i < d - t i
      · rw [if_pos x, if_pos ((nI_ltI (by omega) (by omega)).mpr x)]
      · rw [if_neg x, if_neg (fun y => x ((nI_ltI (by omega) (by omega)).mp y))]
    rw [f_Hall_mostLeft_4, h6, if_neg (nI_ge (by omega) (by omega)), nI_clamp (n := i) (by omega), if_neg zi, LFT hk hd q2 q1, e, pl_eq, nI_1]
    refine ih g (i + 1) (by omega) (by omega) ?_
    rw [mxl]
    by_cases x : mxl d t i < d - t i
    · rw [if_pos x]; omega
    · rw [if_neg x]; exact h3
theorem MLC (hP : P ≤ 4) (hP1 : 1 ≤ P) (h6 : I 14 6 = nI P) (hk : k < 3) (hd : I 102 k = nI d) (hdb : d < 2 ^ 30) (ht : ∀ j, j < P → t j ≤ d ∧ I (31 + 21 * j) k = nI (t j)) : f_Hall_mostLeft (nI k) I J = some (nI (d - lst t (P - 1)), I, J) := by
  have m := ML4 (J := J) (p2 := nI k) hP h6 hk hd hdb ht P gF 0 (by omega) (by unfold gF; omega) (Nat.zero_le _)
  have m' : f_Hall_mostLeft_4 (nI k) gF (nI k) 0 0 I J = some (nI (mxl d t P), I, J) := m
  have e := mxl_lst (t := t) (d := d) (P - 1) (fun j hj => (ht j (by omega)).1)
  rw [show P - 1 + 1 = P by omega] at e
  unfold f_Hall_mostLeft
  rw [m', oc_some, e]
theorem LS6 (hP : P ≤ 4) (h6 : I 112 16 = nI P) (ht : ∀ j, j < P → t j < 2 ^ 31 ∧ I a j = nI (t j)) : ∀ (dd fu i : Nat), i + 1 + dd = P → dd < fu → lst t i < 2 ^ 31 → f_Model_least_6 a 4 fu (nI (lst t i)) (nI (i + 1)) I J = some (nI (lst t (P - 1)), I, J) := by
  intro dd
  induction dd with
  | zero =>
    intro fu i h1 h2 _
    obtain ⟨g, rfl⟩ : ∃ g, fu = g + 1 := ⟨fu - 1, by omega⟩
    rw [f_Model_least_6, h6, if_pos (nI_le (by omega) (by omega)), show i = P - 1 by omega]
  | succ dd ih =>
    intro fu i h1 h2 h3
    obtain ⟨g, rfl⟩ : ∃ g, fu = g + 1 := ⟨fu - 1, by omega⟩
    obtain ⟨q1, q2⟩ := ht (i + 1) (by omega)
    have zi := nin (show i + 1 < 4 by omega) (show 4 < 2 ^ 31 by decide)
    rw [f_Model_least_6, h6, if_neg (nI_ge (by omega) (by omega)), nI_clamp (n := i + 1) (by omega), if_neg zi, q2]
    by_cases x : lst t i ≤ t (i + 1)
    · have e : lst t (i + 1) = lst t i := by rw [lst, if_pos x]
      rw [if_pos (nI_le (by omega) (by omega)), oc_some, nI_1, ← e]
      exact ih g (i + 1) (by omega) (by omega) (by rw [e]; exact h3)
    · have e : lst t (i + 1) = t (i + 1) := by rw [lst, if_neg x]
      rw [if_neg (nI_ge (by omega) (by omega)), if_neg zi, oc_some, nI_1, ← e]
      exact ih g (i + 1) (by omega) (by omega) (by rw [e]; exact q1)
theorem LSM (hP : P ≤ 4) (hP1 : 1 ≤ P) (h6 : I 112 16 = nI P) (ht : ∀ j, j < P → t j < 2 ^ 31 ∧ I a j = nI (t j)) : f_Model_least a 4 I J = some (nI (lst t (P - 1)), I, J) := by
  have q := ht 0 (by omega)
  have m : f_Model_least_6 a 4 gF (nI (t 0)) 1 I J = some (nI (lst t (P - 1)), I, J) := LS6 (J := J) hP h6 ht (P - 1) gF 0 (by omega) (by unfold gF; omega) q.1
  unfold f_Model_least
  rw [if_neg (by decide), show Int32.toNatClampNeg 0 = 0 from rfl, q.2, pl_eq, m, oc_some]
end LEFT
