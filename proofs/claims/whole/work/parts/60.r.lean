/-! begin: what is levelled and wiped -/
def mx (t : Nat → Nat) : Nat → Nat
  | 0 => 0
  | i + 1 => if mx t i < t i then t i else mx t i
theorem mx_b {t : Nat → Nat} {d : Nat} : ∀ i, (∀ j, j < i → t j ≤ d) → mx t i ≤ d
  | 0, _ => Nat.zero_le _
  | i + 1, h => by
    have a := mx_b i (fun j hj => h j (by omega))
    have b := h i (by omega)
    unfold mx
    split <;> omega
theorem lN0 : lN 0 = 0 := rfl
section WIPE
variable {P k w a m : Nat} {t : Nat → Nat} {I : MI} {J : MJ}
theorem EV4 {p2 : Int32} (hP : P ≤ 4) (hk : k < 3) (h6 : I 14 6 = nI P) (ht : ∀ j, j < P → t j ≤ 200 ∧ I (31 + 21 * j) k = nI (t j)) : ∀ (d fu i : Nat), i + d = P → d < fu → mx t i ≤ 200 → f_Hall_evenOut_4 p2 fu (nI k) (nI (mx t i)) (nI i) I J = some (nI (mx t P), I, J)
  | 0, fu, i, hi, hfu, hm => by
    obtain ⟨fu', rfl⟩ : ∃ k, fu = k + 1 := ⟨fu - 1, by omega⟩
    show (if I 14 6 ≤ nI i then _ else _) = _
    rw [h6, if_pos ((nI_leI (by omega) (by omega)).mpr (by omega)), show i = P by omega]
  | d + 1, fu, i, hi, hfu, hm => by
    obtain ⟨fu', rfl⟩ : ∃ k, fu = k + 1 := ⟨fu - 1, by omega⟩
    have q := ht i (by omega)
    show (if I 14 6 ≤ nI i then _ else _) = _
    rw [h6, if_neg (fun z => by
      have := (nI_leI (a := P) (b := i) (by omega) (by omega)).mp z
      omega), nI_clamp (n := i) (by omega), if_neg (nin (show i < 4 by omega) (by decide)), nI_clamp (n := k) (by omega), if_neg (nin hk (by decide)), q.2]
    have e : (if nI (mx t i) < nI (t i) then nI (t i) else nI (mx t i)) = nI (mx t (i + 1)) := by
      show _ = nI (if mx t i < t i then t i else mx t i)
      by_cases y : mx t i < t i
      · rw [if_pos y, if_pos ((nI_ltI (by omega) (by omega)).mpr y)]
      · rw [if_neg y, if_neg (fun z => y ((nI_ltI (by omega) (by omega)).mp z))]
    rw [e, pl_eq, nI_1]
    exact EV4 hP hk h6 ht d fu' (i + 1) (by omega) (by omega) (by
      show (if mx t i < t i then t i else mx t i) ≤ 200
      split <;> omega)
theorem EV39 {p2 : Int32} {v : Int32} (hP : P ≤ 4) (hk : k < 3) : ∀ (d fu i : Nat) (I : MI), i + d = P → d < fu → I 14 6 = nI P → ∃ I1, f_Hall_evenOut_39 p2 fu (nI k) v (nI i) I J = some ((), I1, J) ∧ (∀ b, (∀ x, x < 4 → b ≠ 31 + 21 * x) → I1 b = I b) ∧ (∀ x, x < 4 → ∀ j, I1 (31 + 21 * x) j = if (i ≤ x ∧ x < P) ∧ j = k then v else I (31 + 21 * x) j)
  | 0, fu, i, I, hi, hfu, h6 => by
    obtain ⟨fu', rfl⟩ : ∃ k, fu = k + 1 := ⟨fu - 1, by omega⟩
    refine ⟨I, ?_, fun _ _ => rfl, fun x hx j => by rw [if_neg (by omega)]⟩
    show (if I 14 6 ≤ nI i then _ else _) = _
    rw [h6, if_pos ((nI_leI (by omega) (by omega)).mpr (by omega))]
  | d + 1, fu, i, I, hi, hfu, h6 => by
    obtain ⟨fu', rfl⟩ : ∃ k, fu = k + 1 := ⟨fu - 1, by omega⟩
    obtain ⟨A, q, r, s, u⟩ := UP1 I (31 + 21 * i) k v
    obtain ⟨I1, x1, x2, x3⟩ := EV39 hP hk d fu' (i + 1) A (by omega) (by omega) (by rw [r 14 (by omega)]; exact h6)
    refine ⟨I1, ?_, fun b hb => by rw [x2 b hb, r b (hb i (by omega))], fun x hx j => ?_⟩
    · show (if I 14 6 ≤ nI i then _ else _) = _
      rw [h6, if_neg (fun z => by
        have := (nI_leI (a := P) (b := i) (by omega) (by omega)).mp z
        omega), nI_clamp (n := i) (by omega), if_neg (nin (show i < 4 by omega) (by decide)), nI_clamp (n := k) (by omega), if_neg (nin hk (by decide)), q, pl_eq, nI_1]
      exact x1
    · rw [x3 x hx j]
      by_cases y : (i + 1 ≤ x ∧ x < P) ∧ j = k
      · rw [if_pos y, if_pos (by omega)]
      · rw [if_neg y]
        by_cases z : x = i
        · rw [z]
          by_cases w : j = k
          · rw [w, s, if_pos (by omega)]
          · rw [u j w, if_neg (by omega)]
        · rw [r _ (by omega), if_neg (by omega)]
theorem EVN (hP : P ≤ 4) (hk : k < 3) (h6 : I 14 6 = nI P) (ht : ∀ j, j < P → t j ≤ 200 ∧ I (31 + 21 * j) k = nI (t j)) : ∃ I1, (∀ {α : Type} {F : Unit → MI → MJ → Option α}, oc (f_Hall_evenOut (nI k) I J) F = F () I1 J) ∧ (∀ b, (∀ x, x < 4 → b ≠ 31 + 21 * x) → I1 b = I b) ∧ (∀ x, x < 4 → ∀ j, I1 (31 + 21 * x) j = if x < P ∧ j = k then nI (mx t P) else I (31 + 21 * x) j) := by
  have gf := gF_lt (k := 100) (by omega)
  have a := EV4 (J := J) (p2 := nI k) hP hk h6 ht P gF 0 (by omega) (by omega) (Nat.zero_le _)
  obtain ⟨I1, x1, x2, x3⟩ := EV39 (p2 := nI k) (v := nI (mx t P)) (J := J) hP hk P gF 0 I (by omega) (by omega) h6
  refine ⟨I1, ?_, x2, fun x hx j => ?_⟩
  case refine_2 =>
    rw [x3 x hx j]
    by_cases y : x < P ∧ j = k
    · rw [if_pos y, if_pos ⟨⟨by omega, y.1⟩, y.2⟩]
    · rw [if_neg y, if_neg (fun z => y ⟨z.1.2, z.2⟩)]
  intro α F
  have a' : f_Hall_evenOut_4 (nI k) gF (nI k) 0 0 I J = some (nI (mx t P), I, J) := a
  have x1' : f_Hall_evenOut_39 (nI k) gF (nI k) (nI (mx t P)) 0 I J = some ((), I1, J) := x1
  unfold f_Hall_evenOut
  rw [oc_oc, a', oc_some, oc_oc, x1', oc_some, oc_some]
theorem LV4 (hP : P ≤ 4) (h6 : I 112 16 = nI P) (ht : ∀ j, j < P → t j ≤ 200 ∧ I a j = nI (t j)) : ∀ (d fu i : Nat), i + d = P → d < fu → mx t i ≤ 200 → f_Model_level_4 a 4 fu (nI (mx t i)) (nI i) I J = some (nI (mx t P), I, J)
  | 0, fu, i, hi, hfu, hm => by
    obtain ⟨fu', rfl⟩ : ∃ k, fu = k + 1 := ⟨fu - 1, by omega⟩
    show (if I 112 16 ≤ nI i then _ else _) = _
    rw [h6, if_pos ((nI_leI (by omega) (by omega)).mpr (by omega)), show i = P by omega]
  | d + 1, fu, i, hi, hfu, hm => by
    obtain ⟨fu', rfl⟩ : ∃ k, fu = k + 1 := ⟨fu - 1, by omega⟩
    have q := ht i (by omega)
    have z4 := nin (show i < 4 by omega) (show 4 < 2 ^ 31 by decide)
    show (if I 112 16 ≤ nI i then _ else _) = _
    rw [h6, if_neg (fun z => by
      have := (nI_leI (a := P) (b := i) (by omega) (by omega)).mp z
      omega), nI_clamp (n := i) (by omega), if_neg z4, q.2]
    have nx : f_Model_level_4 a 4 fu' (nI (mx t (i + 1))) (nI (i + 1)) I J = some (nI (mx t P), I, J) := LV4 hP h6 ht d fu' (i + 1) (by omega) (by omega) (by
      show (if mx t i < t i then t i else mx t i) ≤ 200
      split <;> omega)
    have e : mx t (i + 1) = if mx t i < t i then t i else mx t i := rfl
    by_cases y : mx t i < t i
    · rw [if_neg (fun z => by
        have := (nI_leI (a := t i) (b := mx t i) (by omega) (by omega)).mp z
        omega), if_neg z4, oc_some, nI_1]
      rw [e, if_pos y] at nx
      exact nx
    · rw [if_pos ((nI_leI (by omega) (by omega)).mpr (by omega)), oc_some, nI_1]
      rw [e, if_neg y] at nx
      exact nx
theorem LV35 {v : Int32} (hP : P ≤ 4) (ha : a ≠ 112) : ∀ (d fu i : Nat) (I : MI), i + d = P → d < fu → I 112 16 = nI P → ∃ I1, f_Model_level_35 a 4 fu v (nI i) I J = some ((), I1, J) ∧ (∀ b, b ≠ a → I1 b = I b) ∧ (∀ x, I1 a x = if i ≤ x ∧ x < P then v else I a x)
  | 0, fu, i, I, hi, hfu, h6 => by
    obtain ⟨fu', rfl⟩ : ∃ k, fu = k + 1 := ⟨fu - 1, by omega⟩
    refine ⟨I, ?_, fun _ _ => rfl, fun x => by rw [if_neg (by omega)]⟩
    show (if I 112 16 ≤ nI i then _ else _) = _
    rw [h6, if_pos ((nI_leI (by omega) (by omega)).mpr (by omega))]
  | d + 1, fu, i, I, hi, hfu, h6 => by
    obtain ⟨fu', rfl⟩ : ∃ k, fu = k + 1 := ⟨fu - 1, by omega⟩
    obtain ⟨A, q, r, s, u⟩ := UP1 I a i v
    obtain ⟨I1, x1, x2, x3⟩ := LV35 hP ha d fu' (i + 1) A (by omega) (by omega) (by rw [r 112 (fun t => ha t.symm)]; exact h6)
    refine ⟨I1, ?_, fun b hb => by rw [x2 b hb, r b hb], fun x => ?_⟩
    · show (if I 112 16 ≤ nI i then _ else _) = _
      rw [h6, if_neg (fun z => by
        have := (nI_leI (a := P) (b := i) (by omega) (by omega)).mp z
        omega), nI_clamp (n := i) (by omega), if_neg (nin (show i < 4 by omega) (by decide)), q, pl_eq, nI_1]
      exact x1
    · rw [x3 x]
      by_cases y : i + 1 ≤ x ∧ x < P
      · rw [if_pos y, if_pos (by omega)]
      · rw [if_neg y]
        by_cases z : x = i
        · rw [z, s, if_pos (by omega)]
        · rw [u x z, if_neg (by omega)]
theorem LVL (hP : P ≤ 4) (ha : a ≠ 112) (h6 : I 112 16 = nI P) (ht : ∀ j, j < P → t j ≤ 200 ∧ I a j = nI (t j)) : ∃ I1, (∀ {α : Type} {F : Unit → MI → MJ → Option α}, oc (f_Model_level a 4 I J) F = F () I1 J) ∧ (∀ b, b ≠ a → I1 b = I b) ∧ (∀ x, x < P → I1 a x = nI (mx t P)) := by
  have gf := gF_lt (k := 100) (by omega)
  have b := LV4 (J := J) hP h6 ht P gF 0 (by omega) (by omega) (Nat.zero_le _)
  obtain ⟨I1, x1, x2, x3⟩ := LV35 (v := nI (mx t P)) (J := J) hP ha P gF 0 I (by omega) (by omega) h6
  refine ⟨I1, ?_, x2, fun x hx => by rw [x3 x, if_pos ⟨by omega, hx⟩]⟩
  intro α F
  have b' : f_Model_level_4 a 4 gF 0 0 I J = some (nI (mx t P), I, J) := b
  have x1' : f_Model_level_35 a 4 gF (nI (mx t P)) 0 I J = some ((), I1, J) := x1
  unfold f_Model_level
  rw [oc_oc, b', oc_some, oc_oc, x1', oc_some, oc_some]
theorem ZL2 (hm : m < 2 ^ 31) : ∀ (d fu i : Nat) (J : MJ), i + d = m → d < fu → ∃ J1, f_Sh_zeroLongs_2 a m fu (nI i) I J = some ((), I, J1) ∧ (∀ b, b ≠ a → J1 b = J b) ∧ (∀ j, J1 a j = if i ≤ j ∧ j < m then 0 else J a j)
  | 0, fu, i, J, hi, hfu => by
    obtain ⟨fu', rfl⟩ : ∃ k, fu = k + 1 := ⟨fu - 1, by omega⟩
    refine ⟨J, ?_, fun _ _ => rfl, fun j => by rw [if_neg (by omega)]⟩
    show (if nI m ≤ nI i then _ else _) = _
    rw [if_pos ((nI_leI (by omega) (by omega)).mpr (by omega))]
  | d + 1, fu, i, J, hi, hfu => by
    obtain ⟨fu', rfl⟩ : ∃ k, fu = k + 1 := ⟨fu - 1, by omega⟩
    obtain ⟨J1, x1, x2, x3⟩ := ZL2 hm d fu' (i + 1) (va_up J a (vp_updL (J a) i 0)) (by omega) (by omega)
    refine ⟨J1, ?_, fun b hb => by rw [x2 b hb, va_up_ne _ _ hb], fun j => ?_⟩
    · show (if nI m ≤ nI i then _ else _) = _
      rw [if_neg (fun z => by
        have := (nI_leI (a := m) (b := i) (by omega) (by omega)).mp z
        omega), nI_clamp (n := i) (by omega), if_neg (nin (show i < m by omega) hm), pl_eq, nI_1]
      exact x1
    · rw [x3 j, va_up_self]
      by_cases y : i + 1 ≤ j ∧ j < m
      · rw [if_pos y, if_pos (by omega)]
      · rw [if_neg y]
        by_cases z : j = i
        · rw [z, updL_s, if_pos (by omega)]
        · rw [updL_n _ _ z, if_neg (by omega)]
theorem ZLG (hm : m ≤ 900000) : ∃ J1, (∀ {α : Type} {F : Unit → MI → MJ → Option α}, oc (f_Sh_zeroLongs a m I J) F = F () I J1) ∧ (∀ b, b ≠ a → J1 b = J b) ∧ (∀ j, j < m → J1 a j = 0) := by
  obtain ⟨J1, x1, x2, x3⟩ := ZL2 (a := a) (I := I) (show m < 2 ^ 31 by omega) m gF 0 J (by omega) (gF_lt hm)
  refine ⟨J1, ?_, x2, fun j hj => by rw [x3 j, if_pos ⟨by omega, hj⟩]⟩
  intro α F
  have x1' : f_Sh_zeroLongs_2 a m gF 0 I J = some ((), I, J1) := x1
  unfold f_Sh_zeroLongs
  rw [oc_oc, x1', oc_some, oc_some]
theorem ZI2 (hm : m < 2 ^ 31) : ∀ (d fu i : Nat) (I : MI), i + d = m → d < fu → ∃ I1, f_Sh_zeroInts_2 a m fu (nI i) I J = some ((), I1, J) ∧ (∀ b, b ≠ a → I1 b = I b) ∧ (∀ j, I1 a j = if i ≤ j ∧ j < m then 0 else I a j)
  | 0, fu, i, I, hi, hfu => by
    obtain ⟨fu', rfl⟩ : ∃ k, fu = k + 1 := ⟨fu - 1, by omega⟩
    refine ⟨I, ?_, fun _ _ => rfl, fun j => by rw [if_neg (by omega)]⟩
    show (if nI m ≤ nI i then _ else _) = _
    rw [if_pos ((nI_leI (by omega) (by omega)).mpr (by omega))]
  | d + 1, fu, i, I, hi, hfu => by
    obtain ⟨fu', rfl⟩ : ∃ k, fu = k + 1 := ⟨fu - 1, by omega⟩
    obtain ⟨A, q, r, s, u⟩ := UP1 I a i 0
    obtain ⟨I1, x1, x2, x3⟩ := ZI2 hm d fu' (i + 1) A (by omega) (by omega)
    refine ⟨I1, ?_, fun b hb => by rw [x2 b hb, r b hb], fun j => ?_⟩
    · show (if nI m ≤ nI i then _ else _) = _
      rw [if_neg (fun z => by
        have := (nI_leI (a := m) (b := i) (by omega) (by omega)).mp z
        omega), nI_clamp (n := i) (by omega), if_neg (nin (show i < m by omega) hm), q, pl_eq, nI_1]
      exact x1
    · rw [x3 j]
      by_cases y : i + 1 ≤ j ∧ j < m
      · rw [if_pos y, if_pos (by omega)]
      · rw [if_neg y]
        by_cases z : j = i
        · rw [z, s, if_pos (by omega)]
        · rw [u j z, if_neg (by omega)]
theorem ZIG (hm : m ≤ 900000) : ∃ I1, (∀ {α : Type} {F : Unit → MI → MJ → Option α}, oc (f_Sh_zeroInts a m I J) F = F () I1 J) ∧ (∀ b, b ≠ a → I1 b = I b) ∧ (∀ j, j < m → I1 a j = nI 0) := by
  obtain ⟨I1, x1, x2, x3⟩ := ZI2 (a := a) (J := J) (show m < 2 ^ 31 by omega) m gF 0 I (by omega) (gF_lt hm)
  refine ⟨I1, ?_, x2, fun j hj => by rw [x3 j, if_pos ⟨by omega, hj⟩]; rfl⟩
  intro α F
  have x1' : f_Sh_zeroInts_2 a m gF 0 I J = some ((), I1, J) := x1
  unfold f_Sh_zeroInts
  rw [oc_oc, x1', oc_some, oc_some]
theorem MWP : ∃ I1 J1, (∀ {α : Type} {F : Unit → MI → MJ → Option α}, oc (f_Memory_wipe w I J) F = F () I1 J1) ∧ (∀ b, b ≠ 19 + 21 * w → I1 b = I b) ∧ (∀ b, b ≠ 20 + 21 * w → b ≠ 21 + 21 * w → b ≠ 22 + 21 * w → J1 b = J b) ∧ CV I1 J1 w 0 (fun _ => 0) (fun _ => 0) 0 (fun _ => 0) := by
  obtain ⟨J1, x1, x2, x3⟩ := ZLG (a := 20 + 21 * w) (m := 13) (I := I) (J := J) (by decide)
  obtain ⟨J2, y1, y2, y3⟩ := ZLG (a := 21 + 21 * w) (m := 13) (I := I) (J := J1) (by decide)
  obtain ⟨J3, z1, z2, z3⟩ := ZLG (a := 22 + 21 * w) (m := 128) (I := I) (J := J2) (by decide)
  obtain ⟨A, q, r, s, u⟩ := UP1 I (19 + 21 * w) 5 0
  obtain ⟨A2, q2, r2, s2, u2⟩ := UP1 A (19 + 21 * w) 6 0
  refine ⟨A2, J3, ?_, fun b hb => by rw [r2 b hb, r b hb], fun b b1 b2 b3 => by rw [z2 b b3, y2 b b2, x2 b b1], ⟨?_, by decide⟩, fun i hi => absurd hi (Nat.not_lt_zero _), fun i hi => pP_pos, fun i hi => ?_, fun i hi => ?_, fun i hi => ?_, ⟨s2, by decide⟩, fun i hi => absurd hi (Nat.not_lt_zero _)⟩
  · intro α F
    unfold f_Memory_wipe
    rw [oc_oc, x1, oc_oc, y1, oc_oc, z1, q, pl_eq, q2, pl_eq, oc_some]
  · rw [u2 5 (by decide)]
    exact s
  · rw [z2 _ (by omega), y2 _ (by omega), x3 i hi]
    rfl
  · rw [z2 _ (by omega), y3 i hi]
    rfl
  · rw [z3 i hi]
    rfl
end WIPE
