section AUTO
variable {L : Nat} {xs : Nat → Int32} {d : Nat} {P : am_R → am_H → Prop}
def f_Sh_fault (p2 : Int32) (I : MI) (J : MJ) : M2 Int32 := if ¬ p2 = 0 then (if ¬ p2 = 1 then (some ((-1), I, J)) else (some (I 0 7, I, J))) else (some (I 0 6, I, J))
theorem E_Sh_fault {p2 : Int32} {X : MX} {I : MI} {J : MJ} {v : Int32} {I' : MI} {J' : MJ} (hb : f_Sh_fault p2 I J = some (v, I', J')) (K : P (.inl (some (.int v))) (hX X I' J')) : am_E (gG L xs) d m_Sh_fault (0, lv_args 0 [.ref 0, .int p2], []) (hX X I J) P := by
  unfold f_Sh_fault at hb
  refine e_k 2 (f' := (if ¬ p2 = 0 then 9 else 4, [(0, .ref 0), (1, .int p2)], [])) rfl ?_
  refine e_if (fun c1 => ?_) (fun c1 => ?_)
  · replace hb := i_pos c1 hb
    refine e_k 3 (f' := (if ¬ p2 = 1 then 21 else 14, [(0, .ref 0), (1, .int p2)], [])) rfl ?_
    refine e_if (fun c2 => ?_) (fun c2 => ?_)
    · replace hb := i_pos c2 hb
      refine e_k 1 (f' := (22, [(0, .ref 0), (1, .int p2)], [.int (-1)])) rfl ?_
      obtain ⟨rfl, rfl, rfl⟩ := s_inj hb
      exact e_r rfl rfl K
    · replace hb := i_neg c2 hb
      refine e_k 1 (f' := (15, [(0, .ref 0), (1, .int p2)], [.ref 0])) rfl ?_
      refine r_geti rfl (x_ltn rfl) rfl rfl ?_
      refine e_k 1 (f' := (22, [(0, .ref 0), (1, .int p2)], [.int (I 0 7)])) rfl ?_
      obtain ⟨rfl, rfl, rfl⟩ := s_inj hb
      exact e_r rfl rfl K
  · replace hb := i_neg c1 hb
    refine e_k 1 (f' := (5, [(0, .ref 0), (1, .int p2)], [.ref 0])) rfl ?_
    refine r_geti rfl (x_ltn rfl) rfl rfl ?_
    obtain ⟨rfl, rfl, rfl⟩ := s_inj hb
    exact e_r rfl rfl K
def f_Sh_plus (p1 : Int64) (p2 : Int64) (I : MI) (J : MJ) : M2 Int64 := pl (p1 + p2 : Int64) (fun x1 => if (lg_cmp x1 2305843009213693951) < 0 then (some (x1, I, J)) else (some (x1 - 2305843009213693951, I, J)))
theorem E_Sh_plus {p1 : Int64} {p2 : Int64} {X : MX} {I : MI} {J : MJ} {v : Int64} {I' : MI} {J' : MJ} (hb : f_Sh_plus p1 p2 I J = some (v, I', J')) (K : P (.inl (some (.long v))) (hX X I' J')) : am_E (gG L xs) d m_Sh_plus (0, lv_args 0 [.long p1, .long p2], []) (hX X I J) P := by
  unfold f_Sh_plus at hb
  refine e_k 4 (f' := (5, [(4, .long (p1 + p2)), (0, .long p1), (2, .long p2)], [])) rfl ?_
  obtain ⟨x1, ex1, hb⟩ := p_nm hb
  rw [← ex1]
  refine e_k 4 (f' := (if (lg_cmp x1 2305843009213693951) < 0 then 23 else 14, [(4, .long x1), (0, .long p1), (2, .long p2)], [])) rfl ?_
  refine e_if (fun c2 => ?_) (fun c2 => ?_)
  · replace hb := i_pos c2 hb
    refine e_k 1 (f' := (25, [(4, .long x1), (0, .long p1), (2, .long p2)], [.long x1])) rfl ?_
    obtain ⟨rfl, rfl, rfl⟩ := s_inj hb
    exact e_r rfl rfl K
  · replace hb := i_neg c2 hb
    refine e_k 4 (f' := (25, [(4, .long x1), (0, .long p1), (2, .long p2)], [.long (x1 - 2305843009213693951)])) rfl ?_
    obtain ⟨rfl, rfl, rfl⟩ := s_inj hb
    exact e_r rfl rfl K
def f_Sh_minus (p1 : Int64) (p2 : Int64) (I : MI) (J : MJ) : M2 Int64 := if (lg_cmp p1 p2) < 0 then (some ((p1 - p2) + 2305843009213693951, I, J)) else (some (p1 - p2, I, J))
theorem E_Sh_minus {p1 : Int64} {p2 : Int64} {X : MX} {I : MI} {J : MJ} {v : Int64} {I' : MI} {J' : MJ} (hb : f_Sh_minus p1 p2 I J = some (v, I', J')) (K : P (.inl (some (.long v))) (hX X I' J')) : am_E (gG L xs) d m_Sh_minus (0, lv_args 0 [.long p1, .long p2], []) (hX X I J) P := by
  unfold f_Sh_minus at hb
  refine e_k 4 (f' := (if (lg_cmp p1 p2) < 0 then 12 else 6, [(0, .long p1), (2, .long p2)], [])) rfl ?_
  refine e_if (fun c1 => ?_) (fun c1 => ?_)
  · replace hb := i_pos c1 hb
    refine e_k 5 (f' := (19, [(0, .long p1), (2, .long p2)], [.long ((p1 - p2) + 2305843009213693951)])) rfl ?_
    obtain ⟨rfl, rfl, rfl⟩ := s_inj hb
    exact e_r rfl rfl K
  · replace hb := i_neg c1 hb
    refine e_k 4 (f' := (19, [(0, .long p1), (2, .long p2)], [.long (p1 - p2)])) rfl ?_
    obtain ⟨rfl, rfl, rfl⟩ := s_inj hb
    exact e_r rfl rfl K
def f_Sh_times (p1 : Int64) (p2 : Int64) (I : MI) (J : MJ) : M2 Int64 := pl ((Int64.toUInt64 p1 >>> (Int64.toUInt64 (Int32.toInt64 31) &&& Int64.toUInt64 63)).toInt64 : Int64) (fun x1 => pl (p1 &&& 2147483647 : Int64) (fun x2 => pl ((Int64.toUInt64 p2 >>> (Int64.toUInt64 (Int32.toInt64 31) &&& Int64.toUInt64 63)).toInt64 : Int64) (fun x3 => pl (p2 &&& 2147483647 : Int64) (fun x4 => pl ((x1 * x4) + (x2 * x3) : Int64) (fun x5 => pl (x2 * x4 : Int64) (fun x6 => pl ((((2 * x1) * x3) + ((Int64.toUInt64 x5 >>> (Int64.toUInt64 (Int32.toInt64 30) &&& Int64.toUInt64 63)).toInt64)) + ((x5 &&& 1073741823) <<< ((Int32.toInt64 31) &&& 63)) : Int64) (fun x7 => pl (x7 + ((x6 &&& 2305843009213693951) + ((Int64.toUInt64 x6 >>> (Int64.toUInt64 (Int32.toInt64 61) &&& Int64.toUInt64 63)).toInt64)) : Int64) (fun x8 => pl ((x8 &&& 2305843009213693951) + ((Int64.toUInt64 x8 >>> (Int64.toUInt64 (Int32.toInt64 61) &&& Int64.toUInt64 63)).toInt64) : Int64) (fun x9 => if (lg_cmp x9 2305843009213693951) < 0 then (some (x9, I, J)) else (some (x9 - 2305843009213693951, I, J)))))))))))
theorem E_Sh_times {p1 : Int64} {p2 : Int64} {X : MX} {I : MI} {J : MJ} {v : Int64} {I' : MI} {J' : MJ} (hb : f_Sh_times p1 p2 I J = some (v, I', J')) (K : P (.inl (some (.long v))) (hX X I' J')) : am_E (gG L xs) d m_Sh_times (0, lv_args 0 [.long p1, .long p2], []) (hX X I J) P := by
  unfold f_Sh_times at hb
  refine e_k 4 (f' := (6, [(4, .long ((Int64.toUInt64 p1 >>> (Int64.toUInt64 (Int32.toInt64 31) &&& Int64.toUInt64 63)).toInt64)), (0, .long p1), (2, .long p2)], [])) rfl ?_
  obtain ⟨x1, ex1, hb⟩ := p_nm hb
  rw [← ex1]
  refine e_k 4 (f' := (13, [(6, .long (p1 &&& 2147483647)), (4, .long x1), (0, .long p1), (2, .long p2)], [])) rfl ?_
  obtain ⟨x2, ex2, hb⟩ := p_nm hb
  rw [← ex2]
  refine e_k 4 (f' := (19, [(8, .long ((Int64.toUInt64 p2 >>> (Int64.toUInt64 (Int32.toInt64 31) &&& Int64.toUInt64 63)).toInt64)), (6, .long x2), (4, .long x1), (0, .long p1), (2, .long p2)], [])) rfl ?_
  obtain ⟨x3, ex3, hb⟩ := p_nm hb
  rw [← ex3]
  refine e_k 4 (f' := (26, [(10, .long (p2 &&& 2147483647)), (8, .long x3), (6, .long x2), (4, .long x1), (0, .long p1), (2, .long p2)], [])) rfl ?_
  obtain ⟨x4, ex4, hb⟩ := p_nm hb
  rw [← ex4]
  refine e_k 8 (f' := (39, [(12, .long ((x1 * x4) + (x2 * x3))), (10, .long x4), (8, .long x3), (6, .long x2), (4, .long x1), (0, .long p1), (2, .long p2)], [])) rfl ?_
  obtain ⟨x5, ex5, hb⟩ := p_nm hb
  rw [← ex5]
  refine e_k 4 (f' := (46, [(14, .long (x2 * x4)), (12, .long x5), (10, .long x4), (8, .long x3), (6, .long x2), (4, .long x1), (0, .long p1), (2, .long p2)], [])) rfl ?_
  obtain ⟨x6, ex6, hb⟩ := p_nm hb
  rw [← ex6]
  refine e_k 16 (f' := (73, [(16, .long ((((2 * x1) * x3) + ((Int64.toUInt64 x5 >>> (Int64.toUInt64 (Int32.toInt64 30) &&& Int64.toUInt64 63)).toInt64)) + ((x5 &&& 1073741823) <<< ((Int32.toInt64 31) &&& 63)))), (14, .long x6), (12, .long x5), (10, .long x4), (8, .long x3), (6, .long x2), (4, .long x1), (0, .long p1), (2, .long p2)], [])) rfl ?_
  obtain ⟨x7, ex7, hb⟩ := p_nm hb
  rw [← ex7]
  refine e_k 10 (f' := (90, [(16, .long (x7 + ((x6 &&& 2305843009213693951) + ((Int64.toUInt64 x6 >>> (Int64.toUInt64 (Int32.toInt64 61) &&& Int64.toUInt64 63)).toInt64)))), (14, .long x6), (12, .long x5), (10, .long x4), (8, .long x3), (6, .long x2), (4, .long x1), (0, .long p1), (2, .long p2)], [])) rfl ?_
  obtain ⟨x8, ex8, hb⟩ := p_nm hb
  rw [← ex8]
  refine e_k 8 (f' := (104, [(16, .long ((x8 &&& 2305843009213693951) + ((Int64.toUInt64 x8 >>> (Int64.toUInt64 (Int32.toInt64 61) &&& Int64.toUInt64 63)).toInt64))), (14, .long x6), (12, .long x5), (10, .long x4), (8, .long x3), (6, .long x2), (4, .long x1), (0, .long p1), (2, .long p2)], [])) rfl ?_
  obtain ⟨x9, ex9, hb⟩ := p_nm hb
  rw [← ex9]
  refine e_k 4 (f' := (if (lg_cmp x9 2305843009213693951) < 0 then 122 else 113, [(16, .long x9), (14, .long x6), (12, .long x5), (10, .long x4), (8, .long x3), (6, .long x2), (4, .long x1), (0, .long p1), (2, .long p2)], [])) rfl ?_
  refine e_if (fun c10 => ?_) (fun c10 => ?_)
  · replace hb := i_pos c10 hb
    refine e_k 1 (f' := (124, [(16, .long x9), (14, .long x6), (12, .long x5), (10, .long x4), (8, .long x3), (6, .long x2), (4, .long x1), (0, .long p1), (2, .long p2)], [.long x9])) rfl ?_
    obtain ⟨rfl, rfl, rfl⟩ := s_inj hb
    exact e_r rfl rfl K
  · replace hb := i_neg c10 hb
    refine e_k 4 (f' := (124, [(16, .long x9), (14, .long x6), (12, .long x5), (10, .long x4), (8, .long x3), (6, .long x2), (4, .long x1), (0, .long p1), (2, .long p2)], [.long (x9 - 2305843009213693951)])) rfl ?_
    obtain ⟨rfl, rfl, rfl⟩ := s_inj hb
    exact e_r rfl rfl K
def f_Sh_read (a1 : Nat) (m1 : Nat) (p2 : Int32) (I : MI) (J : MJ) : M2 Int64 := if p2 < 0 then (some (0, I, J)) else (if (nI m1) ≤ p2 then (some (0, I, J)) else (if p2 < 0 ∨ m1 ≤ Int32.toNatClampNeg p2 then none else (some (J a1 (Int32.toNatClampNeg p2), I, J))))
theorem E_Sh_read {a1 : Nat} {m1 : Nat} {p2 : Int32} {X : MX} {I : MI} {J : MJ} {v : Int64} {I' : MI} {J' : MJ} (hA_a1 : isArr X 1 a1 m1) (hb : f_Sh_read a1 m1 p2 I J = some (v, I', J')) (K : P (.inl (some (.long v))) (hX X I' J')) : am_E (gG L xs) d m_Sh_read (0, lv_args 0 [.ref a1, .int p2], []) (hX X I J) P := by
  unfold f_Sh_read at hb
  refine e_k 2 (f' := (if p2 < 0 then 16 else 4, [(0, .ref a1), (1, .int p2)], [])) rfl ?_
  refine e_if (fun c1 => ?_) (fun c1 => ?_)
  · replace hb := i_pos c1 hb
    refine e_k 1 (f' := (17, [(0, .ref a1), (1, .int p2)], [.long 0])) rfl ?_
    obtain ⟨rfl, rfl, rfl⟩ := s_inj hb
    exact e_r rfl rfl K
  · replace hb := i_neg c1 hb
    refine e_k 2 (f' := (6, [(0, .ref a1), (1, .int p2)], [.ref a1, .int p2])) rfl ?_
    refine r_alen rfl hA_a1.2.1 hA_a1.1 hA_a1.2.2 rfl ?_
    refine e_k 1 (f' := (if (nI m1) ≤ p2 then 16 else 10, [(0, .ref a1), (1, .int p2)], [])) rfl ?_
    refine e_if (fun c2 => ?_) (fun c2 => ?_)
    · replace hb := i_pos c2 hb
      refine e_k 1 (f' := (17, [(0, .ref a1), (1, .int p2)], [.long 0])) rfl ?_
      obtain ⟨rfl, rfl, rfl⟩ := s_inj hb
      exact e_r rfl rfl K
    · replace hb := i_neg c2 hb
      refine e_k 2 (f' := (12, [(0, .ref a1), (1, .int p2)], [.int p2, .ref a1])) rfl ?_
      obtain ⟨o3, hb⟩ := ob_in hb
      refine r_lald rfl hA_a1.2.1 hA_a1.1 hA_a1.2.2 o3 ?_
      refine e_k 1 (f' := (17, [(0, .ref a1), (1, .int p2)], [.long (J a1 (Int32.toNatClampNeg p2))])) rfl ?_
      obtain ⟨rfl, rfl, rfl⟩ := s_inj hb
      exact e_r rfl rfl K
def f_Sh_write (a1 : Nat) (m1 : Nat) (p2 : Int32) (p3 : Int64) (I : MI) (J : MJ) : M2 Unit := if p2 < 0 then (some ((), I, J)) else (if (nI m1) ≤ p2 then (some ((), I, J)) else (if p2 < 0 ∨ m1 ≤ Int32.toNatClampNeg p2 then none else (pl (va_up J a1 (vp_updL (J a1) (Int32.toNatClampNeg p2) p3)) (fun J4 => some ((), I, J4)))))
theorem E_Sh_write {a1 : Nat} {m1 : Nat} {p2 : Int32} {p3 : Int64} {X : MX} {I : MI} {J : MJ} {v : Unit} {I' : MI} {J' : MJ} (hA_a1 : isArr X 1 a1 m1) (hb : f_Sh_write a1 m1 p2 p3 I J = some (v, I', J')) (K : P (.inl (none)) (hX X I' J')) : am_E (gG L xs) d m_Sh_write (0, lv_args 0 [.ref a1, .int p2, .long p3], []) (hX X I J) P := by
  unfold f_Sh_write at hb
  refine e_k 2 (f' := (if p2 < 0 then 14 else 4, [(0, .ref a1), (1, .int p2), (2, .long p3)], [])) rfl ?_
  refine e_if (fun c1 => ?_) (fun c1 => ?_)
  · replace hb := i_pos c1 hb
    obtain ⟨rfl, rfl, rfl⟩ := s_inj hb
    exact e_r rfl rfl K
  · replace hb := i_neg c1 hb
    refine e_k 2 (f' := (6, [(0, .ref a1), (1, .int p2), (2, .long p3)], [.ref a1, .int p2])) rfl ?_
    refine r_alen rfl hA_a1.2.1 hA_a1.1 hA_a1.2.2 rfl ?_
    refine e_k 1 (f' := (if (nI m1) ≤ p2 then 14 else 10, [(0, .ref a1), (1, .int p2), (2, .long p3)], [])) rfl ?_
    refine e_if (fun c2 => ?_) (fun c2 => ?_)
    · replace hb := i_pos c2 hb
      obtain ⟨rfl, rfl, rfl⟩ := s_inj hb
      exact e_r rfl rfl K
    · replace hb := i_neg c2 hb
      refine e_k 3 (f' := (13, [(0, .ref a1), (1, .int p2), (2, .long p3)], [.long p3, .int p2, .ref a1])) rfl ?_
      obtain ⟨o3, hb⟩ := ob_in hb
      obtain ⟨J4, eJ4, hb⟩ := p_nm hb
      refine r_last' rfl hA_a1.1 hA_a1.2.2 o3 eJ4 ?_
      obtain ⟨rfl, rfl, rfl⟩ := s_inj hb
      exact e_r rfl rfl K
def f_Sh_zeroLongs_2 (a1 : Nat) (m1 : Nat) : Nat → Int32 → MI → MJ → M2 (Unit)
  | 0, _, _, _ => none
  | fu + 1, l1, I, J => if (nI m1) ≤ l1 then (some ((), I, J)) else (if l1 < 0 ∨ m1 ≤ Int32.toNatClampNeg l1 then none else (pl (va_up J a1 (vp_updL (J a1) (Int32.toNatClampNeg l1) 0)) (fun J3 => f_Sh_zeroLongs_2 a1 m1 fu (l1 + 1) I J3)))
theorem E_Sh_zeroLongs_2 {X : MX} {a1 : Nat} {m1 : Nat} (hA_a1 : isArr X 1 a1 m1) : ∀ (fu : Nat) {l1 : Int32} {I : MI} {J : MJ} {r : (Unit)} {I' : MI} {J' : MJ}, f_Sh_zeroLongs_2 a1 m1 fu l1 I J = some (r, I', J') → am_E (gG L xs) d m_Sh_zeroLongs (18, [], []) (hX X I' J') P → am_E (gG L xs) d m_Sh_zeroLongs (2, [(0, .ref a1), (1, .int l1)], []) (hX X I J) P := by
  intro fu
  induction fu with
  | zero =>
    intros
    rename_i hb _
    cases hb
  | succ fu ih =>
    intro l1 I J r I' J' hb K
    unfold f_Sh_zeroLongs_2 at hb
    refine e_k 2 (f' := (4, [(0, .ref a1), (1, .int l1)], [.ref a1, .int l1])) rfl ?_
    refine r_alen rfl hA_a1.2.1 hA_a1.1 hA_a1.2.2 rfl ?_
    refine e_k 1 (f' := (if (nI m1) ≤ l1 then 18 else 8, [(0, .ref a1), (1, .int l1)], [])) rfl ?_
    refine e_if (fun c1 => ?_) (fun c1 => ?_)
    · replace hb := i_pos c1 hb
      refine e_sub (ls := []) rfl ⟨⟩ ?_
      obtain ⟨rfl, rfl, rfl⟩ := s_inj hb
      exact K
    · replace hb := i_neg c1 hb
      refine e_k 3 (f' := (11, [(0, .ref a1), (1, .int l1)], [.long 0, .int l1, .ref a1])) rfl ?_
      obtain ⟨o2, hb⟩ := ob_in hb
      obtain ⟨J3, eJ3, hb⟩ := p_nm hb
      refine r_last' rfl hA_a1.1 hA_a1.2.2 o2 eJ3 ?_
      refine e_k 2 (f' := (2, [(1, .int (l1 + 1)), (0, .ref a1)], [])) rfl ?_
      refine e_sub (ls := [(0, .ref a1), (1, .int (l1 + 1))]) rfl ⟨rfl, rfl, trivial⟩ ?_
      exact ih  hb K
def f_Sh_zeroLongs (a1 : Nat) (m1 : Nat) (I : MI) (J : MJ) : M2 Unit := oc (f_Sh_zeroLongs_2 a1 m1 gF 0 I J) (fun u4 I4 J4 => some ((), I4, J4))
theorem E_Sh_zeroLongs {a1 : Nat} {m1 : Nat} {X : MX} {I : MI} {J : MJ} {v : Unit} {I' : MI} {J' : MJ} (hA_a1 : isArr X 1 a1 m1) (hb : f_Sh_zeroLongs a1 m1 I J = some (v, I', J')) (K : P (.inl (none)) (hX X I' J')) : am_E (gG L xs) d m_Sh_zeroLongs (0, lv_args 0 [.ref a1], []) (hX X I J) P := by
  unfold f_Sh_zeroLongs at hb
  refine e_k 2 (f' := (2, [(1, .int 0), (0, .ref a1)], [])) rfl ?_
  refine e_sub (ls := [(0, .ref a1), (1, .int 0)]) rfl ⟨rfl, rfl, trivial⟩ ?_
  obtain ⟨u4, I4, J4, h4, hb⟩ := oc_call hb
  refine E_Sh_zeroLongs_2 hA_a1 gF  h4 ?_
  obtain ⟨rfl, rfl, rfl⟩ := s_inj hb
  exact e_r rfl rfl K
def f_Sh_zeroInts_2 (a1 : Nat) (m1 : Nat) : Nat → Int32 → MI → MJ → M2 (Unit)
  | 0, _, _, _ => none
  | fu + 1, l1, I, J => if (nI m1) ≤ l1 then (some ((), I, J)) else (if l1 < 0 ∨ m1 ≤ Int32.toNatClampNeg l1 then none else (pl (va_up I a1 (upd (I a1) (Int32.toNatClampNeg l1) 0)) (fun I3 => f_Sh_zeroInts_2 a1 m1 fu (l1 + 1) I3 J)))
theorem E_Sh_zeroInts_2 {X : MX} {a1 : Nat} {m1 : Nat} (hA_a1 : isArr X 0 a1 m1) : ∀ (fu : Nat) {l1 : Int32} {I : MI} {J : MJ} {r : (Unit)} {I' : MI} {J' : MJ}, f_Sh_zeroInts_2 a1 m1 fu l1 I J = some (r, I', J') → am_E (gG L xs) d m_Sh_zeroInts (18, [], []) (hX X I' J') P → am_E (gG L xs) d m_Sh_zeroInts (2, [(0, .ref a1), (1, .int l1)], []) (hX X I J) P := by
  intro fu
  induction fu with
  | zero =>
    intros
    rename_i hb _
    cases hb
  | succ fu ih =>
    intro l1 I J r I' J' hb K
    unfold f_Sh_zeroInts_2 at hb
    refine e_k 2 (f' := (4, [(0, .ref a1), (1, .int l1)], [.ref a1, .int l1])) rfl ?_
    refine r_alen rfl hA_a1.2.1 hA_a1.1 hA_a1.2.2 rfl ?_
    refine e_k 1 (f' := (if (nI m1) ≤ l1 then 18 else 8, [(0, .ref a1), (1, .int l1)], [])) rfl ?_
    refine e_if (fun c1 => ?_) (fun c1 => ?_)
    · replace hb := i_pos c1 hb
      refine e_sub (ls := []) rfl ⟨⟩ ?_
      obtain ⟨rfl, rfl, rfl⟩ := s_inj hb
      exact K
    · replace hb := i_neg c1 hb
      refine e_k 3 (f' := (11, [(0, .ref a1), (1, .int l1)], [.int 0, .int l1, .ref a1])) rfl ?_
      obtain ⟨o2, hb⟩ := ob_in hb
      obtain ⟨I3, eI3, hb⟩ := p_nm hb
      refine r_iast' rfl hA_a1.1 hA_a1.2.2 o2 eI3 ?_
      refine e_k 2 (f' := (2, [(1, .int (l1 + 1)), (0, .ref a1)], [])) rfl ?_
      refine e_sub (ls := [(0, .ref a1), (1, .int (l1 + 1))]) rfl ⟨rfl, rfl, trivial⟩ ?_
      exact ih  hb K
def f_Sh_zeroInts (a1 : Nat) (m1 : Nat) (I : MI) (J : MJ) : M2 Unit := oc (f_Sh_zeroInts_2 a1 m1 gF 0 I J) (fun u4 I4 J4 => some ((), I4, J4))
theorem E_Sh_zeroInts {a1 : Nat} {m1 : Nat} {X : MX} {I : MI} {J : MJ} {v : Unit} {I' : MI} {J' : MJ} (hA_a1 : isArr X 0 a1 m1) (hb : f_Sh_zeroInts a1 m1 I J = some (v, I', J')) (K : P (.inl (none)) (hX X I' J')) : am_E (gG L xs) d m_Sh_zeroInts (0, lv_args 0 [.ref a1], []) (hX X I J) P := by
  unfold f_Sh_zeroInts at hb
  refine e_k 2 (f' := (2, [(1, .int 0), (0, .ref a1)], [])) rfl ?_
  refine e_sub (ls := [(0, .ref a1), (1, .int 0)]) rfl ⟨rfl, rfl, trivial⟩ ?_
  obtain ⟨u4, I4, J4, h4, hb⟩ := oc_call hb
  refine E_Sh_zeroInts_2 hA_a1 gF  h4 ?_
  obtain ⟨rfl, rfl, rfl⟩ := s_inj hb
  exact e_r rfl rfl K
def f_Sh_lengthOf (p1 : Int32) (I : MI) (J : MJ) : M2 Int32 := if p1 < 0 then (some (0, I, J)) else (if (nI 30) ≤ p1 then (some (0, I, J)) else (if p1 < 0 ∨ 30 ≤ Int32.toNatClampNeg p1 then none else (some (g_get 0 t_lengths (Int32.toNatClampNeg p1), I, J))))
theorem E_Sh_lengthOf {p1 : Int32} {X : MX} {I : MI} {J : MJ} {v : Int32} {I' : MI} {J' : MJ} (hb : f_Sh_lengthOf p1 I J = some (v, I', J')) (K : P (.inl (some (.int v))) (hX X I' J')) : am_E (gG L xs) d m_Sh_lengthOf (0, lv_args 0 [.int p1], []) (hX X I J) P := by
  unfold f_Sh_lengthOf at hb
  refine e_k 2 (f' := (if p1 < 0 then 20 else 4, [(0, .int p1)], [])) rfl ?_
  refine e_if (fun c1 => ?_) (fun c1 => ?_)
  · replace hb := i_pos c1 hb
    refine e_k 1 (f' := (21, [(0, .int p1)], [.int 0])) rfl ?_
    obtain ⟨rfl, rfl, rfl⟩ := s_inj hb
    exact e_r rfl rfl K
  · replace hb := i_neg c1 hb
    refine e_k 2 (f' := (8, [(0, .int p1)], [.ref 1000000000, .int p1])) rfl ?_
    refine r_tlen (k := 0) rfl (by decide) rfl ?_
    refine e_k 1 (f' := (if (nI 30) ≤ p1 then 20 else 12, [(0, .int p1)], [])) rfl ?_
    refine e_if (fun c2 => ?_) (fun c2 => ?_)
    · replace hb := i_pos c2 hb
      refine e_k 1 (f' := (21, [(0, .int p1)], [.int 0])) rfl ?_
      obtain ⟨rfl, rfl, rfl⟩ := s_inj hb
      exact e_r rfl rfl K
    · replace hb := i_neg c2 hb
      refine e_k 2 (f' := (16, [(0, .int p1)], [.int p1, .ref 1000000000])) rfl ?_
      obtain ⟨o3, hb⟩ := ob_in hb
      refine r_tald (k := 0) rfl (by decide) rfl o3 ?_
      refine e_k 1 (f' := (21, [(0, .int p1)], [.int (g_get 0 t_lengths (Int32.toNatClampNeg p1))])) rfl ?_
      obtain ⟨rfl, rfl, rfl⟩ := s_inj hb
      exact e_r rfl rfl K
def f_Model_thrown (I : MI) (J : MJ) : M2 Int32 := some (I 112 0, I, J)
theorem E_Model_thrown {X : MX} {I : MI} {J : MJ} {v : Int32} {I' : MI} {J' : MJ} (hb : f_Model_thrown  I J = some (v, I', J')) (K : P (.inl (some (.int v))) (hX X I' J')) : am_E (gG L xs) d m_Model_thrown (0, lv_args 0 [.ref 112], []) (hX X I J) P := by
  unfold f_Model_thrown at hb
  refine e_k 1 (f' := (1, [(0, .ref 112)], [.ref 112])) rfl ?_
  refine r_geti rfl (x_ltn rfl) rfl rfl ?_
  obtain ⟨rfl, rfl, rfl⟩ := s_inj hb
  exact e_r rfl rfl K
def f_Model_raise (p2 : Int32) (I : MI) (J : MJ) : M2 Int32 := pl (va_up I 112 (upd (I 112) 0 p2)) (fun I1 => some (0, I1, J))
theorem E_Model_raise {p2 : Int32} {X : MX} {I : MI} {J : MJ} {v : Int32} {I' : MI} {J' : MJ} (hb : f_Model_raise p2 I J = some (v, I', J')) (K : P (.inl (some (.int v))) (hX X I' J')) : am_E (gG L xs) d m_Model_raise (0, lv_args 0 [.ref 112, .int p2], []) (hX X I J) P := by
  unfold f_Model_raise at hb
  refine e_k 2 (f' := (2, [(0, .ref 112), (1, .int p2)], [.int p2, .ref 112])) rfl ?_
  obtain ⟨I1, eI1, hb⟩ := p_nm hb
  refine r_puti' rfl (x_ltn rfl) rfl rfl eI1 ?_
  refine e_k 1 (f' := (6, [(0, .ref 112), (1, .int p2)], [.int 0])) rfl ?_
  obtain ⟨rfl, rfl, rfl⟩ := s_inj hb
  exact e_r rfl rfl K
def f_Model_reduced (p1 : Int64) (I : MI) (J : MJ) : M2 Int64 := pl ((p1 &&& 2305843009213693951) + ((Int64.toUInt64 p1 >>> (Int64.toUInt64 (Int32.toInt64 61) &&& Int64.toUInt64 63)).toInt64) : Int64) (fun x1 => if (lg_cmp x1 2305843009213693951) < 0 then (some (x1, I, J)) else (some (x1 - 2305843009213693951, I, J)))
theorem E_Model_reduced {p1 : Int64} {X : MX} {I : MI} {J : MJ} {v : Int64} {I' : MI} {J' : MJ} (hb : f_Model_reduced p1 I J = some (v, I', J')) (K : P (.inl (some (.long v))) (hX X I' J')) : am_E (gG L xs) d m_Model_reduced (0, lv_args 0 [.long p1], []) (hX X I J) P := by
  unfold f_Model_reduced at hb
  refine e_k 8 (f' := (11, [(2, .long ((p1 &&& 2305843009213693951) + ((Int64.toUInt64 p1 >>> (Int64.toUInt64 (Int32.toInt64 61) &&& Int64.toUInt64 63)).toInt64))), (0, .long p1)], [])) rfl ?_
  obtain ⟨x1, ex1, hb⟩ := p_nm hb
  rw [← ex1]
  refine e_k 4 (f' := (if (lg_cmp x1 2305843009213693951) < 0 then 27 else 19, [(2, .long x1), (0, .long p1)], [])) rfl ?_
  refine e_if (fun c2 => ?_) (fun c2 => ?_)
  · replace hb := i_pos c2 hb
    refine e_k 1 (f' := (28, [(2, .long x1), (0, .long p1)], [.long x1])) rfl ?_
    obtain ⟨rfl, rfl, rfl⟩ := s_inj hb
    exact e_r rfl rfl K
  · replace hb := i_neg c2 hb
    refine e_k 4 (f' := (28, [(2, .long x1), (0, .long p1)], [.long (x1 - 2305843009213693951)])) rfl ?_
    obtain ⟨rfl, rfl, rfl⟩ := s_inj hb
    exact e_r rfl rfl K
def f_Model_modulo (p1 : Int64) (I : MI) (J : MJ) : M2 Int64 := pl (p1 - p1 / 2305843009213693951 * 2305843009213693951 : Int64) (fun x1 => if 0 ≤ (lg_cmp x1 0) then (some (x1, I, J)) else (some (x1 + 2305843009213693951, I, J)))
theorem E_Model_modulo {p1 : Int64} {X : MX} {I : MI} {J : MJ} {v : Int64} {I' : MI} {J' : MJ} (hb : f_Model_modulo p1 I J = some (v, I', J')) (K : P (.inl (some (.long v))) (hX X I' J')) : am_E (gG L xs) d m_Model_modulo (0, lv_args 0 [.long p1], []) (hX X I J) P := by
  unfold f_Model_modulo at hb
  refine e_k 2 (f' := (4, [(0, .long p1)], [.long 2305843009213693951, .long p1])) rfl ?_
  refine e_k 1 (f' := (5, [(0, .long p1)], [.long (p1 - p1 / 2305843009213693951 * 2305843009213693951)])) (am_lrem rfl (by decide)) ?_
  refine e_k 1 (f' := (6, [(2, .long (p1 - p1 / 2305843009213693951 * 2305843009213693951)), (0, .long p1)], [])) rfl ?_
  obtain ⟨x1, ex1, hb⟩ := p_nm hb
  rw [← ex1]
  refine e_k 4 (f' := (if 0 ≤ (lg_cmp x1 0) then 20 else 12, [(2, .long x1), (0, .long p1)], [])) rfl ?_
  refine e_if (fun c2 => ?_) (fun c2 => ?_)
  · replace hb := i_pos c2 hb
    refine e_k 1 (f' := (21, [(2, .long x1), (0, .long p1)], [.long x1])) rfl ?_
    obtain ⟨rfl, rfl, rfl⟩ := s_inj hb
    exact e_r rfl rfl K
  · replace hb := i_neg c2 hb
    refine e_k 4 (f' := (21, [(2, .long x1), (0, .long p1)], [.long (x1 + 2305843009213693951)])) rfl ?_
    obtain ⟨rfl, rfl, rfl⟩ := s_inj hb
    exact e_r rfl rfl K
def f_Model_plus (p1 : Int64) (p2 : Int64) (I : MI) (J : MJ) : M2 Int64 := oc (f_Model_reduced (p1 + p2) I J) (fun v1 I1 J1 => some (v1, I1, J1))
theorem E_Model_plus {p1 : Int64} {p2 : Int64} {X : MX} {I : MI} {J : MJ} {v : Int64} {I' : MI} {J' : MJ} (hb : f_Model_plus p1 p2 I J = some (v, I', J')) (K : P (.inl (some (.long v))) (hX X I' J')) : am_E (gG L xs) (d + 1) m_Model_plus (0, lv_args 0 [.long p1, .long p2], []) (hX X I J) P := by
  unfold f_Model_plus at hb
  refine e_k 3 (f' := (3, [(0, .long p1), (2, .long p2)], [.long (p1 + p2)])) rfl ?_
  obtain ⟨v1, I1, J1, h1, hb⟩ := oc_call hb
  refine r_cs (z := m_Model_reduced) (As := [.long (p1 + p2)]) (rest := []) rfl rfl rfl rfl rfl rfl (E_Model_reduced  h1 ⟨_, rfl, ?_⟩)
  obtain ⟨rfl, rfl, rfl⟩ := s_inj hb
  exact e_r rfl rfl K
def f_Model_minus (p1 : Int64) (p2 : Int64) (I : MI) (J : MJ) : M2 Int64 := oc (f_Model_reduced ((p1 + 2305843009213693951) - p2) I J) (fun v1 I1 J1 => some (v1, I1, J1))
theorem E_Model_minus {p1 : Int64} {p2 : Int64} {X : MX} {I : MI} {J : MJ} {v : Int64} {I' : MI} {J' : MJ} (hb : f_Model_minus p1 p2 I J = some (v, I', J')) (K : P (.inl (some (.long v))) (hX X I' J')) : am_E (gG L xs) (d + 1) m_Model_minus (0, lv_args 0 [.long p1, .long p2], []) (hX X I J) P := by
  unfold f_Model_minus at hb
  refine e_k 5 (f' := (7, [(0, .long p1), (2, .long p2)], [.long ((p1 + 2305843009213693951) - p2)])) rfl ?_
  obtain ⟨v1, I1, J1, h1, hb⟩ := oc_call hb
  refine r_cs (z := m_Model_reduced) (As := [.long ((p1 + 2305843009213693951) - p2)]) (rest := []) rfl rfl rfl rfl rfl rfl (E_Model_reduced  h1 ⟨_, rfl, ?_⟩)
  obtain ⟨rfl, rfl, rfl⟩ := s_inj hb
  exact e_r rfl rfl K
def f_Model_times (p1 : Int64) (p2 : Int64) (I : MI) (J : MJ) : M2 Int64 := pl (p1 &&& 2147483647 : Int64) (fun x1 => pl ((Int64.toUInt64 p1 >>> (Int64.toUInt64 (Int32.toInt64 31) &&& Int64.toUInt64 63)).toInt64 : Int64) (fun x2 => pl (p2 &&& 2147483647 : Int64) (fun x3 => pl ((Int64.toUInt64 p2 >>> (Int64.toUInt64 (Int32.toInt64 31) &&& Int64.toUInt64 63)).toInt64 : Int64) (fun x4 => pl ((x2 * x3) + (x1 * x4) : Int64) (fun x5 => oc (f_Model_reduced ((2 * x2) * x4) I J) (fun v6 I6 J6 => oc (f_Model_plus v6 ((Int64.toUInt64 x5 >>> (Int64.toUInt64 (Int32.toInt64 30) &&& Int64.toUInt64 63)).toInt64) I6 J6) (fun v7 I7 J7 => oc (f_Model_reduced ((x5 &&& 1073741823) <<< ((Int32.toInt64 31) &&& 63)) I7 J7) (fun v8 I8 J8 => oc (f_Model_plus v7 v8 I8 J8) (fun v9 I9 J9 => oc (f_Model_reduced (x1 * x3) I9 J9) (fun v10 I10 J10 => oc (f_Model_plus v9 v10 I10 J10) (fun v11 I11 J11 => some (v11, I11, J11))))))))))))
theorem E_Model_times {p1 : Int64} {p2 : Int64} {X : MX} {I : MI} {J : MJ} {v : Int64} {I' : MI} {J' : MJ} (hb : f_Model_times p1 p2 I J = some (v, I', J')) (K : P (.inl (some (.long v))) (hX X I' J')) : am_E (gG L xs) (d + 2) m_Model_times (0, lv_args 0 [.long p1, .long p2], []) (hX X I J) P := by
  unfold f_Model_times at hb
  refine e_k 4 (f' := (7, [(4, .long (p1 &&& 2147483647)), (0, .long p1), (2, .long p2)], [])) rfl ?_
  obtain ⟨x1, ex1, hb⟩ := p_nm hb
  rw [← ex1]
  refine e_k 4 (f' := (13, [(6, .long ((Int64.toUInt64 p1 >>> (Int64.toUInt64 (Int32.toInt64 31) &&& Int64.toUInt64 63)).toInt64)), (4, .long x1), (0, .long p1), (2, .long p2)], [])) rfl ?_
  obtain ⟨x2, ex2, hb⟩ := p_nm hb
  rw [← ex2]
  refine e_k 4 (f' := (20, [(8, .long (p2 &&& 2147483647)), (6, .long x2), (4, .long x1), (0, .long p1), (2, .long p2)], [])) rfl ?_
  obtain ⟨x3, ex3, hb⟩ := p_nm hb
  rw [← ex3]
  refine e_k 4 (f' := (26, [(10, .long ((Int64.toUInt64 p2 >>> (Int64.toUInt64 (Int32.toInt64 31) &&& Int64.toUInt64 63)).toInt64)), (8, .long x3), (6, .long x2), (4, .long x1), (0, .long p1), (2, .long p2)], [])) rfl ?_
  obtain ⟨x4, ex4, hb⟩ := p_nm hb
  rw [← ex4]
  refine e_k 8 (f' := (39, [(12, .long ((x2 * x3) + (x1 * x4))), (10, .long x4), (8, .long x3), (6, .long x2), (4, .long x1), (0, .long p1), (2, .long p2)], [])) rfl ?_
  obtain ⟨x5, ex5, hb⟩ := p_nm hb
  rw [← ex5]
  refine e_k 5 (f' := (48, [(12, .long x5), (10, .long x4), (8, .long x3), (6, .long x2), (4, .long x1), (0, .long p1), (2, .long p2)], [.long ((2 * x2) * x4)])) rfl ?_
  obtain ⟨v6, I6, J6, h6, hb⟩ := oc_call hb
  refine r_cs (z := m_Model_reduced) (As := [.long ((2 * x2) * x4)]) (rest := []) rfl rfl rfl rfl rfl rfl (E_Model_reduced  h6 ⟨_, rfl, ?_⟩)
  refine e_k 3 (f' := (56, [(12, .long x5), (10, .long x4), (8, .long x3), (6, .long x2), (4, .long x1), (0, .long p1), (2, .long p2)], [.long ((Int64.toUInt64 x5 >>> (Int64.toUInt64 (Int32.toInt64 30) &&& Int64.toUInt64 63)).toInt64), .long v6])) rfl ?_
  obtain ⟨v7, I7, J7, h7, hb⟩ := oc_call hb
  refine r_cs (z := m_Model_plus) (As := [.long v6, .long ((Int64.toUInt64 x5 >>> (Int64.toUInt64 (Int32.toInt64 30) &&& Int64.toUInt64 63)).toInt64)]) (rest := []) rfl rfl rfl rfl rfl rfl (E_Model_plus  h7 ⟨_, rfl, ?_⟩)
  refine e_k 7 (f' := (72, [(14, .long v7), (12, .long x5), (10, .long x4), (8, .long x3), (6, .long x2), (4, .long x1), (0, .long p1), (2, .long p2)], [.long ((x5 &&& 1073741823) <<< ((Int32.toInt64 31) &&& 63)), .long v7])) rfl ?_
  obtain ⟨v8, I8, J8, h8, hb⟩ := oc_call hb
  refine r_cs (z := m_Model_reduced) (As := [.long ((x5 &&& 1073741823) <<< ((Int32.toInt64 31) &&& 63))]) (rest := [.long v7]) rfl rfl rfl rfl rfl rfl (E_Model_reduced  h8 ⟨_, rfl, ?_⟩)
  obtain ⟨v9, I9, J9, h9, hb⟩ := oc_call hb
  refine r_cs (z := m_Model_plus) (As := [.long v7, .long v8]) (rest := []) rfl rfl rfl rfl rfl rfl (E_Model_plus  h9 ⟨_, rfl, ?_⟩)
  refine e_k 5 (f' := (87, [(14, .long v9), (12, .long x5), (10, .long x4), (8, .long x3), (6, .long x2), (4, .long x1), (0, .long p1), (2, .long p2)], [.long (x1 * x3), .long v9])) rfl ?_
  obtain ⟨v10, I10, J10, h10, hb⟩ := oc_call hb
  refine r_cs (z := m_Model_reduced) (As := [.long (x1 * x3)]) (rest := [.long v9]) rfl rfl rfl rfl rfl rfl (E_Model_reduced  h10 ⟨_, rfl, ?_⟩)
  obtain ⟨v11, I11, J11, h11, hb⟩ := oc_call hb
  refine r_cs (z := m_Model_plus) (As := [.long v9, .long v10]) (rest := []) rfl rfl rfl rfl rfl rfl (E_Model_plus  h11 ⟨_, rfl, ?_⟩)
  obtain ⟨rfl, rfl, rfl⟩ := s_inj hb
  exact e_r rfl rfl K
def f_Model_turned (p1 : Int32) (p2 : Int32) (I : MI) (J : MJ) : M2 Int32 := some (((Int32.toUInt32 p1 >>> (Int32.toUInt32 p2 &&& Int32.toUInt32 31)).toInt32) ||| (p1 <<< ((32 - p2) &&& 31)), I, J)
theorem E_Model_turned {p1 : Int32} {p2 : Int32} {X : MX} {I : MI} {J : MJ} {v : Int32} {I' : MI} {J' : MJ} (hb : f_Model_turned p1 p2 I J = some (v, I', J')) (K : P (.inl (some (.int v))) (hX X I' J')) : am_E (gG L xs) d m_Model_turned (0, lv_args 0 [.int p1, .int p2], []) (hX X I J) P := by
  unfold f_Model_turned at hb
  refine e_k 9 (f' := (10, [(0, .int p1), (1, .int p2)], [.int (((Int32.toUInt32 p1 >>> (Int32.toUInt32 p2 &&& Int32.toUInt32 31)).toInt32) ||| (p1 <<< ((32 - p2) &&& 31)))])) rfl ?_
  obtain ⟨rfl, rfl, rfl⟩ := s_inj hb
  exact e_r rfl rfl K
def f_Model_digestOf_45 (p2 : Int64) (p3 : Int64) : Nat → Int32 → MI → MJ → M2 (Unit)
  | 0, _, _, _ => none
  | fu + 1, l6, I, J => if 15 ≤ l6 then (some ((), I, J)) else (if l6 < 0 ∨ 64 ≤ Int32.toNatClampNeg l6 then none else (pl (va_up I 160 (upd (I 160) (Int32.toNatClampNeg l6) 0)) (fun I13 => f_Model_digestOf_45 p2 p3 fu (l6 + 1) I13 J)))
theorem E_Model_digestOf_45 {X : MX} {p2 : Int64} {p3 : Int64} : ∀ (fu : Nat) {l6 : Int32} {I : MI} {J : MJ} {r : (Unit)} {I' : MI} {J' : MJ}, f_Model_digestOf_45 p2 p3 fu l6 I J = some (r, I', J') → am_E (gG L xs) d m_Model_digestOf (64, [(0, .ref 112), (5, .ref 160)], []) (hX X I' J') P → am_E (gG L xs) d m_Model_digestOf (45, [(0, .ref 112), (5, .ref 160), (6, .int l6)], []) (hX X I J) P := by
  intro fu
  induction fu with
  | zero =>
    intros
    rename_i hb _
    cases hb
  | succ fu ih =>
    intro l6 I J r I' J' hb K
    unfold f_Model_digestOf_45 at hb
    refine e_k 3 (f' := (if 15 ≤ l6 then 64 else 52, [(0, .ref 112), (5, .ref 160), (6, .int l6)], [])) rfl ?_
    refine e_if (fun c11 => ?_) (fun c11 => ?_)
    · replace hb := i_pos c11 hb
      refine e_sub (ls := [(0, .ref 112), (5, .ref 160)]) rfl ⟨rfl, rfl, trivial⟩ ?_
      obtain ⟨rfl, rfl, rfl⟩ := s_inj hb
      exact K
    · replace hb := i_neg c11 hb
      refine e_k 3 (f' := (57, [(0, .ref 112), (5, .ref 160), (6, .int l6)], [.int 0, .int l6, .ref 160])) rfl ?_
      obtain ⟨o12, hb⟩ := ob_in hb
      obtain ⟨I13, eI13, hb⟩ := p_nm hb
      refine r_iast' rfl (x_ltn rfl) rfl o12 eI13 ?_
      refine e_k 2 (f' := (45, [(6, .int (l6 + 1)), (0, .ref 112), (5, .ref 160)], [])) rfl ?_
      refine e_sub (ls := [(0, .ref 112), (5, .ref 160), (6, .int (l6 + 1))]) rfl ⟨rfl, rfl, rfl, trivial⟩ ?_
      exact ih  hb K
def f_Model_digestOf_76 (p2 : Int64) (p3 : Int64) : Nat → Int32 → MI → MJ → M2 (Unit)
  | 0, _, _, _ => none
  | fu + 1, l6, I, J => if 64 ≤ l6 then (some ((), I, J)) else (if (l6 - 2) < 0 ∨ 64 ≤ Int32.toNatClampNeg (l6 - 2) then none else (pl (I 160 (Int32.toNatClampNeg (l6 - 2)) : Int32) (fun x19 => if (l6 - 15) < 0 ∨ 64 ≤ Int32.toNatClampNeg (l6 - 15) then none else (pl (I 160 (Int32.toNatClampNeg (l6 - 15)) : Int32) (fun x21 => oc (f_Model_turned x19 17 I J) (fun v22 I22 J22 => oc (f_Model_turned x19 19 I22 J22) (fun v23 I23 J23 => if (l6 - 7) < 0 ∨ 64 ≤ Int32.toNatClampNeg (l6 - 7) then none else (oc (f_Model_turned x21 7 I23 J23) (fun v25 I25 J25 => oc (f_Model_turned x21 18 I25 J25) (fun v26 I26 J26 => if (l6 - 16) < 0 ∨ 64 ≤ Int32.toNatClampNeg (l6 - 16) then none else (if l6 < 0 ∨ 64 ≤ Int32.toNatClampNeg l6 then none else (pl (va_up I26 160 (upd (I26 160) (Int32.toNatClampNeg l6) (((((v22 ^^^ v23) ^^^ ((Int32.toUInt32 x19 >>> (Int32.toUInt32 10 &&& Int32.toUInt32 31)).toInt32)) + (I23 160 (Int32.toNatClampNeg (l6 - 7)))) + ((v25 ^^^ v26) ^^^ ((Int32.toUInt32 x21 >>> (Int32.toUInt32 3 &&& Int32.toUInt32 31)).toInt32))) + (I26 160 (Int32.toNatClampNeg (l6 - 16)))))) (fun I29 => f_Model_digestOf_76 p2 p3 fu (l6 + 1) I29 J26)))))))))))))
theorem E_Model_digestOf_76 {X : MX} {p2 : Int64} {p3 : Int64} : ∀ (fu : Nat) {l6 : Int32} {I : MI} {J : MJ} {r : (Unit)} {I' : MI} {J' : MJ}, f_Model_digestOf_76 p2 p3 fu l6 I J = some (r, I', J') → am_E (gG L xs) (d + 1) m_Model_digestOf (173, [(0, .ref 112), (5, .ref 160)], []) (hX X I' J') P → am_E (gG L xs) (d + 1) m_Model_digestOf (76, [(0, .ref 112), (5, .ref 160), (6, .int l6)], []) (hX X I J) P := by
  intro fu
  induction fu with
  | zero =>
    intros
    rename_i hb _
    cases hb
  | succ fu ih =>
    intro l6 I J r I' J' hb K
    unfold f_Model_digestOf_76 at hb
    refine e_k 3 (f' := (if 64 ≤ l6 then 173 else 83, [(0, .ref 112), (5, .ref 160), (6, .int l6)], [])) rfl ?_
    refine e_if (fun c17 => ?_) (fun c17 => ?_)
    · replace hb := i_pos c17 hb
      refine e_sub (ls := [(0, .ref 112), (5, .ref 160)]) rfl ⟨rfl, rfl, trivial⟩ ?_
      obtain ⟨rfl, rfl, rfl⟩ := s_inj hb
      exact K
    · replace hb := i_neg c17 hb
      refine e_k 4 (f' := (89, [(0, .ref 112), (5, .ref 160), (6, .int l6)], [.int (l6 - 2), .ref 160])) rfl ?_
      obtain ⟨o18, hb⟩ := ob_in hb
      refine r_iald rfl rfl (x_ltn rfl) rfl o18 ?_
      refine e_k 1 (f' := (92, [(7, .int (I 160 (Int32.toNatClampNeg (l6 - 2)))), (0, .ref 112), (5, .ref 160), (6, .int l6)], [])) rfl ?_
      obtain ⟨x19, ex19, hb⟩ := p_nm hb
      rw [← ex19]
      refine e_k 4 (f' := (99, [(7, .int x19), (0, .ref 112), (5, .ref 160), (6, .int l6)], [.int (l6 - 15), .ref 160])) rfl ?_
      obtain ⟨o20, hb⟩ := ob_in hb
      refine r_iald rfl rfl (x_ltn rfl) rfl o20 ?_
      refine e_k 1 (f' := (102, [(8, .int (I 160 (Int32.toNatClampNeg (l6 - 15)))), (7, .int x19), (0, .ref 112), (5, .ref 160), (6, .int l6)], [])) rfl ?_
      obtain ⟨x21, ex21, hb⟩ := p_nm hb
      rw [← ex21]
      refine e_k 4 (f' := (110, [(8, .int x21), (7, .int x19), (0, .ref 112), (5, .ref 160), (6, .int l6)], [.int 17, .int x19, .int l6, .ref 160])) rfl ?_
      obtain ⟨v22, I22, J22, h22, hb⟩ := oc_call hb
      refine r_cs (z := m_Model_turned) (As := [.int x19, .int 17]) (rest := [.int l6, .ref 160]) rfl rfl rfl rfl rfl rfl (E_Model_turned  h22 ⟨_, rfl, ?_⟩)
      refine e_k 2 (f' := (117, [(8, .int x21), (7, .int x19), (0, .ref 112), (5, .ref 160), (6, .int l6)], [.int 19, .int x19, .int v22, .int l6, .ref 160])) rfl ?_
      obtain ⟨v23, I23, J23, h23, hb⟩ := oc_call hb
      refine r_cs (z := m_Model_turned) (As := [.int x19, .int 19]) (rest := [.int v22, .int l6, .ref 160]) rfl rfl rfl rfl rfl rfl (E_Model_turned  h23 ⟨_, rfl, ?_⟩)
      refine e_k 9 (f' := (134, [(8, .int x21), (7, .int x19), (0, .ref 112), (5, .ref 160), (6, .int l6)], [.int (l6 - 7), .ref 160, .int ((v22 ^^^ v23) ^^^ ((Int32.toUInt32 x19 >>> (Int32.toUInt32 10 &&& Int32.toUInt32 31)).toInt32)), .int l6, .ref 160])) rfl ?_
      obtain ⟨o24, hb⟩ := ob_in hb
      refine r_iald rfl rfl (x_ltn rfl) rfl o24 ?_
      refine e_k 3 (f' := (140, [(8, .int x21), (7, .int x19), (0, .ref 112), (5, .ref 160), (6, .int l6)], [.int 7, .int x21, .int (((v22 ^^^ v23) ^^^ ((Int32.toUInt32 x19 >>> (Int32.toUInt32 10 &&& Int32.toUInt32 31)).toInt32)) + (I23 160 (Int32.toNatClampNeg (l6 - 7)))), .int l6, .ref 160])) rfl ?_
      obtain ⟨v25, I25, J25, h25, hb⟩ := oc_call hb
      refine r_cs (z := m_Model_turned) (As := [.int x21, .int 7]) (rest := [.int (((v22 ^^^ v23) ^^^ ((Int32.toUInt32 x19 >>> (Int32.toUInt32 10 &&& Int32.toUInt32 31)).toInt32)) + (I23 160 (Int32.toNatClampNeg (l6 - 7)))), .int l6, .ref 160]) rfl rfl rfl rfl rfl rfl (E_Model_turned  h25 ⟨_, rfl, ?_⟩)
      refine e_k 2 (f' := (147, [(8, .int x21), (7, .int x19), (0, .ref 112), (5, .ref 160), (6, .int l6)], [.int 18, .int x21, .int v25, .int (((v22 ^^^ v23) ^^^ ((Int32.toUInt32 x19 >>> (Int32.toUInt32 10 &&& Int32.toUInt32 31)).toInt32)) + (I23 160 (Int32.toNatClampNeg (l6 - 7)))), .int l6, .ref 160])) rfl ?_
      obtain ⟨v26, I26, J26, h26, hb⟩ := oc_call hb
      refine r_cs (z := m_Model_turned) (As := [.int x21, .int 18]) (rest := [.int v25, .int (((v22 ^^^ v23) ^^^ ((Int32.toUInt32 x19 >>> (Int32.toUInt32 10 &&& Int32.toUInt32 31)).toInt32)) + (I23 160 (Int32.toNatClampNeg (l6 - 7)))), .int l6, .ref 160]) rfl rfl rfl rfl rfl rfl (E_Model_turned  h26 ⟨_, rfl, ?_⟩)
      refine e_k 10 (f' := (164, [(8, .int x21), (7, .int x19), (0, .ref 112), (5, .ref 160), (6, .int l6)], [.int (l6 - 16), .ref 160, .int ((((v22 ^^^ v23) ^^^ ((Int32.toUInt32 x19 >>> (Int32.toUInt32 10 &&& Int32.toUInt32 31)).toInt32)) + (I23 160 (Int32.toNatClampNeg (l6 - 7)))) + ((v25 ^^^ v26) ^^^ ((Int32.toUInt32 x21 >>> (Int32.toUInt32 3 &&& Int32.toUInt32 31)).toInt32))), .int l6, .ref 160])) rfl ?_
      obtain ⟨o27, hb⟩ := ob_in hb
      refine r_iald rfl rfl (x_ltn rfl) rfl o27 ?_
      refine e_k 1 (f' := (166, [(8, .int x21), (7, .int x19), (0, .ref 112), (5, .ref 160), (6, .int l6)], [.int (((((v22 ^^^ v23) ^^^ ((Int32.toUInt32 x19 >>> (Int32.toUInt32 10 &&& Int32.toUInt32 31)).toInt32)) + (I23 160 (Int32.toNatClampNeg (l6 - 7)))) + ((v25 ^^^ v26) ^^^ ((Int32.toUInt32 x21 >>> (Int32.toUInt32 3 &&& Int32.toUInt32 31)).toInt32))) + (I26 160 (Int32.toNatClampNeg (l6 - 16)))), .int l6, .ref 160])) rfl ?_
      obtain ⟨o28, hb⟩ := ob_in hb
      obtain ⟨I29, eI29, hb⟩ := p_nm hb
      refine r_iast' rfl (x_ltn rfl) rfl o28 eI29 ?_
      refine e_k 2 (f' := (76, [(6, .int (l6 + 1)), (8, .int x21), (7, .int x19), (0, .ref 112), (5, .ref 160)], [])) rfl ?_
      refine e_sub (ls := [(0, .ref 112), (5, .ref 160), (6, .int (l6 + 1))]) rfl ⟨rfl, rfl, rfl, trivial⟩ ?_
      exact ih  hb K
def f_Model_digestOf_182 (p2 : Int64) (p3 : Int64) : Nat → Int32 → MI → MJ → M2 (Unit)
  | 0, _, _, _ => none
  | fu + 1, l7, I, J => if 8 ≤ l7 then (some ((), I, J)) else (if l7 < 0 ∨ 8 ≤ Int32.toNatClampNeg l7 then none else (if l7 < 0 ∨ 8 ≤ Int32.toNatClampNeg l7 then none else (pl (va_up I 161 (upd (I 161) (Int32.toNatClampNeg l7) (g_get 0 t_first (Int32.toNatClampNeg l7)))) (fun I34 => f_Model_digestOf_182 p2 p3 fu (l7 + 1) I34 J))))
theorem E_Model_digestOf_182 {X : MX} {p2 : Int64} {p3 : Int64} : ∀ (fu : Nat) {l7 : Int32} {I : MI} {J : MJ} {r : (Unit)} {I' : MI} {J' : MJ}, f_Model_digestOf_182 p2 p3 fu l7 I J = some (r, I', J') → am_E (gG L xs) d m_Model_digestOf (206, [(5, .ref 160), (6, .ref 161)], []) (hX X I' J') P → am_E (gG L xs) d m_Model_digestOf (182, [(5, .ref 160), (6, .ref 161), (7, .int l7)], []) (hX X I J) P := by
  intro fu
  induction fu with
  | zero =>
    intros
    rename_i hb _
    cases hb
  | succ fu ih =>
    intro l7 I J r I' J' hb K
    unfold f_Model_digestOf_182 at hb
    refine e_k 3 (f' := (if 8 ≤ l7 then 206 else 189, [(5, .ref 160), (6, .ref 161), (7, .int l7)], [])) rfl ?_
    refine e_if (fun c31 => ?_) (fun c31 => ?_)
    · replace hb := i_pos c31 hb
      refine e_sub (ls := [(5, .ref 160), (6, .ref 161)]) rfl ⟨rfl, rfl, trivial⟩ ?_
      obtain ⟨rfl, rfl, rfl⟩ := s_inj hb
      exact K
    · replace hb := i_neg c31 hb
      refine e_k 4 (f' := (198, [(5, .ref 160), (6, .ref 161), (7, .int l7)], [.int l7, .ref 1000000004, .int l7, .ref 161])) rfl ?_
      obtain ⟨o32, hb⟩ := ob_in hb
      refine r_tald (k := 4) rfl (by decide) rfl o32 ?_
      obtain ⟨o33, hb⟩ := ob_in hb
      obtain ⟨I34, eI34, hb⟩ := p_nm hb
      refine r_iast' rfl (x_ltn rfl) rfl o33 eI34 ?_
      refine e_k 2 (f' := (182, [(7, .int (l7 + 1)), (5, .ref 160), (6, .ref 161)], [])) rfl ?_
      refine e_sub (ls := [(5, .ref 160), (6, .ref 161), (7, .int (l7 + 1))]) rfl ⟨rfl, rfl, rfl, trivial⟩ ?_
      exact ih  hb K
def f_Model_digestOf_345 (p2 : Int64) (p3 : Int64) : Nat → Int32 → Int32 → Int32 → Int32 → MI → MJ → M2 (Unit)
  | 0, _, _, _, _, _, _ => none
  | fu + 1, l7, l10, l11, l12, I, J => if l12 ≤ 0 then (some ((), I, J)) else (if (l12 - 1) < 0 ∨ 8 ≤ Int32.toNatClampNeg (l12 - 1) then none else (if l12 < 0 ∨ 8 ≤ Int32.toNatClampNeg l12 then none else (pl (va_up I 161 (upd (I 161) (Int32.toNatClampNeg l12) (I 161 (Int32.toNatClampNeg (l12 - 1))))) (fun I61 => f_Model_digestOf_345 p2 p3 fu l7 l10 l11 (l12 + (-1)) I61 J))))
theorem E_Model_digestOf_345 {X : MX} {p2 : Int64} {p3 : Int64} : ∀ (fu : Nat) {l7 : Int32} {l10 : Int32} {l11 : Int32} {l12 : Int32} {I : MI} {J : MJ} {r : (Unit)} {I' : MI} {J' : MJ}, f_Model_digestOf_345 p2 p3 fu l7 l10 l11 l12 I J = some (r, I', J') → am_E (gG L xs) d m_Model_digestOf (368, [(5, .ref 160), (6, .ref 161), (7, .int l7), (10, .int l10), (11, .int l11)], []) (hX X I' J') P → am_E (gG L xs) d m_Model_digestOf (345, [(5, .ref 160), (6, .ref 161), (7, .int l7), (10, .int l10), (11, .int l11), (12, .int l12)], []) (hX X I J) P := by
  intro fu
  induction fu with
  | zero =>
    intros
    rename_i hb _
    cases hb
  | succ fu ih =>
    intro l7 l10 l11 l12 I J r I' J' hb K
    unfold f_Model_digestOf_345 at hb
    refine e_k 2 (f' := (if l12 ≤ 0 then 368 else 350, [(5, .ref 160), (6, .ref 161), (7, .int l7), (10, .int l10), (11, .int l11), (12, .int l12)], [])) rfl ?_
    refine e_if (fun c58 => ?_) (fun c58 => ?_)
    · replace hb := i_pos c58 hb
      refine e_sub (ls := [(5, .ref 160), (6, .ref 161), (7, .int l7), (10, .int l10), (11, .int l11)]) rfl ⟨rfl, rfl, rfl, rfl, rfl, trivial⟩ ?_
      obtain ⟨rfl, rfl, rfl⟩ := s_inj hb
      exact K
    · replace hb := i_neg c58 hb
      refine e_k 6 (f' := (360, [(5, .ref 160), (6, .ref 161), (7, .int l7), (10, .int l10), (11, .int l11), (12, .int l12)], [.int (l12 - 1), .ref 161, .int l12, .ref 161])) rfl ?_
      obtain ⟨o59, hb⟩ := ob_in hb
      refine r_iald rfl rfl (x_ltn rfl) rfl o59 ?_
      obtain ⟨o60, hb⟩ := ob_in hb
      obtain ⟨I61, eI61, hb⟩ := p_nm hb
      refine r_iast' rfl (x_ltn rfl) rfl o60 eI61 ?_
      refine e_k 2 (f' := (345, [(12, .int (l12 + (-1))), (5, .ref 160), (6, .ref 161), (7, .int l7), (10, .int l10), (11, .int l11)], [])) rfl ?_
      refine e_sub (ls := [(5, .ref 160), (6, .ref 161), (7, .int l7), (10, .int l10), (11, .int l11), (12, .int (l12 + (-1)))]) rfl ⟨rfl, rfl, rfl, rfl, rfl, rfl, trivial⟩ ?_
      exact ih  hb K
def f_Model_digestOf_209 (p2 : Int64) (p3 : Int64) : Nat → Int32 → MI → MJ → M2 (Unit)
  | 0, _, _, _ => none
  | fu + 1, l7, I, J => if 64 ≤ l7 then (some ((), I, J)) else (if (4 : Int32) < 0 ∨ 8 ≤ Int32.toNatClampNeg 4 then none else (pl (I 161 (Int32.toNatClampNeg 4) : Int32) (fun x38 => if (0 : Int32) < 0 ∨ 8 ≤ Int32.toNatClampNeg 0 then none else (pl (I 161 (Int32.toNatClampNeg 0) : Int32) (fun x40 => if (7 : Int32) < 0 ∨ 8 ≤ Int32.toNatClampNeg 7 then none else (oc (f_Model_turned x38 6 I J) (fun v42 I42 J42 => oc (f_Model_turned x38 11 I42 J42) (fun v43 I43 J43 => oc (f_Model_turned x38 25 I43 J43) (fun v44 I44 J44 => if (5 : Int32) < 0 ∨ 8 ≤ Int32.toNatClampNeg 5 then none else (if (6 : Int32) < 0 ∨ 8 ≤ Int32.toNatClampNeg 6 then none else (if l7 < 0 ∨ 64 ≤ Int32.toNatClampNeg l7 then none else (if l7 < 0 ∨ 64 ≤ Int32.toNatClampNeg l7 then none else (pl (((((I 161 (Int32.toNatClampNeg 7)) + ((v42 ^^^ v43) ^^^ v44)) + ((x38 &&& (I44 161 (Int32.toNatClampNeg 5))) ^^^ ((x38 ^^^ (-1)) &&& (I44 161 (Int32.toNatClampNeg 6))))) + (g_get 0 t_rounds (Int32.toNatClampNeg l7))) + (I44 160 (Int32.toNatClampNeg l7)) : Int32) (fun x49 => oc (f_Model_turned x40 2 I44 J44) (fun v50 I50 J50 => oc (f_Model_turned x40 13 I50 J50) (fun v51 I51 J51 => oc (f_Model_turned x40 22 I51 J51) (fun v52 I52 J52 => if (1 : Int32) < 0 ∨ 8 ≤ Int32.toNatClampNeg 1 then none else (if (2 : Int32) < 0 ∨ 8 ≤ Int32.toNatClampNeg 2 then none else (if (1 : Int32) < 0 ∨ 8 ≤ Int32.toNatClampNeg 1 then none else (if (2 : Int32) < 0 ∨ 8 ≤ Int32.toNatClampNeg 2 then none else (pl (((v50 ^^^ v51) ^^^ v52) + (((x40 &&& (I52 161 (Int32.toNatClampNeg 1))) ^^^ (x40 &&& (I52 161 (Int32.toNatClampNeg 2)))) ^^^ ((I52 161 (Int32.toNatClampNeg 1)) &&& (I52 161 (Int32.toNatClampNeg 2)))) : Int32) (fun x57 => oc (f_Model_digestOf_345 p2 p3 gF l7 x49 x57 7 I52 J52) (fun u62 I62 J62 => if (4 : Int32) < 0 ∨ 8 ≤ Int32.toNatClampNeg 4 then none else (if (4 : Int32) < 0 ∨ 8 ≤ Int32.toNatClampNeg 4 then none else (pl (va_up I62 161 (upd (I62 161) (Int32.toNatClampNeg 4) ((I62 161 (Int32.toNatClampNeg 4)) + x49))) (fun I65 => if (0 : Int32) < 0 ∨ 8 ≤ Int32.toNatClampNeg 0 then none else (pl (va_up I65 161 (upd (I65 161) (Int32.toNatClampNeg 0) (x49 + x57))) (fun I67 => f_Model_digestOf_209 p2 p3 fu (l7 + 1) I67 J62))))))))))))))))))))))))))))
theorem E_Model_digestOf_209 {X : MX} {p2 : Int64} {p3 : Int64} : ∀ (fu : Nat) {l7 : Int32} {I : MI} {J : MJ} {r : (Unit)} {I' : MI} {J' : MJ}, f_Model_digestOf_209 p2 p3 fu l7 I J = some (r, I', J') → am_E (gG L xs) (d + 1) m_Model_digestOf (392, [(6, .ref 161)], []) (hX X I' J') P → am_E (gG L xs) (d + 1) m_Model_digestOf (209, [(5, .ref 160), (6, .ref 161), (7, .int l7)], []) (hX X I J) P := by
  intro fu
  induction fu with
  | zero =>
    intros
    rename_i hb _
    cases hb
  | succ fu ih =>
    intro l7 I J r I' J' hb K
    unfold f_Model_digestOf_209 at hb
    refine e_k 3 (f' := (if 64 ≤ l7 then 392 else 216, [(5, .ref 160), (6, .ref 161), (7, .int l7)], [])) rfl ?_
    refine e_if (fun c36 => ?_) (fun c36 => ?_)
    · replace hb := i_pos c36 hb
      refine e_sub (ls := [(6, .ref 161)]) rfl ⟨rfl, trivial⟩ ?_
      obtain ⟨rfl, rfl, rfl⟩ := s_inj hb
      exact K
    · replace hb := i_neg c36 hb
      refine e_k 2 (f' := (219, [(5, .ref 160), (6, .ref 161), (7, .int l7)], [.int 4, .ref 161])) rfl ?_
      obtain ⟨o37, hb⟩ := ob_in hb
      refine r_iald rfl rfl (x_ltn rfl) rfl o37 ?_
      refine e_k 1 (f' := (222, [(8, .int (I 161 (Int32.toNatClampNeg 4))), (5, .ref 160), (6, .ref 161), (7, .int l7)], [])) rfl ?_
      obtain ⟨x38, ex38, hb⟩ := p_nm hb
      rw [← ex38]
      refine e_k 2 (f' := (225, [(8, .int x38), (5, .ref 160), (6, .ref 161), (7, .int l7)], [.int 0, .ref 161])) rfl ?_
      obtain ⟨o39, hb⟩ := ob_in hb
      refine r_iald rfl rfl (x_ltn rfl) rfl o39 ?_
      refine e_k 1 (f' := (228, [(9, .int (I 161 (Int32.toNatClampNeg 0))), (8, .int x38), (5, .ref 160), (6, .ref 161), (7, .int l7)], [])) rfl ?_
      obtain ⟨x40, ex40, hb⟩ := p_nm hb
      rw [← ex40]
      refine e_k 2 (f' := (232, [(9, .int x40), (8, .int x38), (5, .ref 160), (6, .ref 161), (7, .int l7)], [.int 7, .ref 161])) rfl ?_
      obtain ⟨o41, hb⟩ := ob_in hb
      refine r_iald rfl rfl (x_ltn rfl) rfl o41 ?_
      refine e_k 2 (f' := (237, [(9, .int x40), (8, .int x38), (5, .ref 160), (6, .ref 161), (7, .int l7)], [.int 6, .int x38, .int (I 161 (Int32.toNatClampNeg 7))])) rfl ?_
      obtain ⟨v42, I42, J42, h42, hb⟩ := oc_call hb
      refine r_cs (z := m_Model_turned) (As := [.int x38, .int 6]) (rest := [.int (I 161 (Int32.toNatClampNeg 7))]) rfl rfl rfl rfl rfl rfl (E_Model_turned  h42 ⟨_, rfl, ?_⟩)
      refine e_k 2 (f' := (244, [(9, .int x40), (8, .int x38), (5, .ref 160), (6, .ref 161), (7, .int l7)], [.int 11, .int x38, .int v42, .int (I 161 (Int32.toNatClampNeg 7))])) rfl ?_
      obtain ⟨v43, I43, J43, h43, hb⟩ := oc_call hb
      refine r_cs (z := m_Model_turned) (As := [.int x38, .int 11]) (rest := [.int v42, .int (I 161 (Int32.toNatClampNeg 7))]) rfl rfl rfl rfl rfl rfl (E_Model_turned  h43 ⟨_, rfl, ?_⟩)
      refine e_k 3 (f' := (252, [(9, .int x40), (8, .int x38), (5, .ref 160), (6, .ref 161), (7, .int l7)], [.int 25, .int x38, .int (v42 ^^^ v43), .int (I 161 (Int32.toNatClampNeg 7))])) rfl ?_
      obtain ⟨v44, I44, J44, h44, hb⟩ := oc_call hb
      refine r_cs (z := m_Model_turned) (As := [.int x38, .int 25]) (rest := [.int (v42 ^^^ v43), .int (I 161 (Int32.toNatClampNeg 7))]) rfl rfl rfl rfl rfl rfl (E_Model_turned  h44 ⟨_, rfl, ?_⟩)
      refine e_k 5 (f' := (262, [(9, .int x40), (8, .int x38), (5, .ref 160), (6, .ref 161), (7, .int l7)], [.int 5, .ref 161, .int x38, .int ((I 161 (Int32.toNatClampNeg 7)) + ((v42 ^^^ v43) ^^^ v44))])) rfl ?_
      obtain ⟨o45, hb⟩ := ob_in hb
      refine r_iald rfl rfl (x_ltn rfl) rfl o45 ?_
      refine e_k 6 (f' := (272, [(9, .int x40), (8, .int x38), (5, .ref 160), (6, .ref 161), (7, .int l7)], [.int 6, .ref 161, .int (x38 ^^^ (-1)), .int (x38 &&& (I44 161 (Int32.toNatClampNeg 5))), .int ((I 161 (Int32.toNatClampNeg 7)) + ((v42 ^^^ v43) ^^^ v44))])) rfl ?_
      obtain ⟨o46, hb⟩ := ob_in hb
      refine r_iald rfl rfl (x_ltn rfl) rfl o46 ?_
      refine e_k 5 (f' := (281, [(9, .int x40), (8, .int x38), (5, .ref 160), (6, .ref 161), (7, .int l7)], [.int l7, .ref 1000000003, .int (((I 161 (Int32.toNatClampNeg 7)) + ((v42 ^^^ v43) ^^^ v44)) + ((x38 &&& (I44 161 (Int32.toNatClampNeg 5))) ^^^ ((x38 ^^^ (-1)) &&& (I44 161 (Int32.toNatClampNeg 6)))))])) rfl ?_
      obtain ⟨o47, hb⟩ := ob_in hb
      refine r_tald (k := 3) rfl (by decide) rfl o47 ?_
      refine e_k 3 (f' := (287, [(9, .int x40), (8, .int x38), (5, .ref 160), (6, .ref 161), (7, .int l7)], [.int l7, .ref 160, .int ((((I 161 (Int32.toNatClampNeg 7)) + ((v42 ^^^ v43) ^^^ v44)) + ((x38 &&& (I44 161 (Int32.toNatClampNeg 5))) ^^^ ((x38 ^^^ (-1)) &&& (I44 161 (Int32.toNatClampNeg 6))))) + (g_get 0 t_rounds (Int32.toNatClampNeg l7)))])) rfl ?_
      obtain ⟨o48, hb⟩ := ob_in hb
      refine r_iald rfl rfl (x_ltn rfl) rfl o48 ?_
      refine e_k 2 (f' := (291, [(10, .int (((((I 161 (Int32.toNatClampNeg 7)) + ((v42 ^^^ v43) ^^^ v44)) + ((x38 &&& (I44 161 (Int32.toNatClampNeg 5))) ^^^ ((x38 ^^^ (-1)) &&& (I44 161 (Int32.toNatClampNeg 6))))) + (g_get 0 t_rounds (Int32.toNatClampNeg l7))) + (I44 160 (Int32.toNatClampNeg l7)))), (9, .int x40), (8, .int x38), (5, .ref 160), (6, .ref 161), (7, .int l7)], [])) rfl ?_
      obtain ⟨x49, ex49, hb⟩ := p_nm hb
      rw [← ex49]
      refine e_k 2 (f' := (294, [(10, .int x49), (9, .int x40), (8, .int x38), (5, .ref 160), (6, .ref 161), (7, .int l7)], [.int 2, .int x40])) rfl ?_
      obtain ⟨v50, I50, J50, h50, hb⟩ := oc_call hb
      refine r_cs (z := m_Model_turned) (As := [.int x40, .int 2]) (rest := []) rfl rfl rfl rfl rfl rfl (E_Model_turned  h50 ⟨_, rfl, ?_⟩)
      refine e_k 2 (f' := (301, [(10, .int x49), (9, .int x40), (8, .int x38), (5, .ref 160), (6, .ref 161), (7, .int l7)], [.int 13, .int x40, .int v50])) rfl ?_
      obtain ⟨v51, I51, J51, h51, hb⟩ := oc_call hb
      refine r_cs (z := m_Model_turned) (As := [.int x40, .int 13]) (rest := [.int v50]) rfl rfl rfl rfl rfl rfl (E_Model_turned  h51 ⟨_, rfl, ?_⟩)
      refine e_k 3 (f' := (309, [(10, .int x49), (9, .int x40), (8, .int x38), (5, .ref 160), (6, .ref 161), (7, .int l7)], [.int 22, .int x40, .int (v50 ^^^ v51)])) rfl ?_
      obtain ⟨v52, I52, J52, h52, hb⟩ := oc_call hb
      refine r_cs (z := m_Model_turned) (As := [.int x40, .int 22]) (rest := [.int (v50 ^^^ v51)]) rfl rfl rfl rfl rfl rfl (E_Model_turned  h52 ⟨_, rfl, ?_⟩)
      refine e_k 4 (f' := (318, [(10, .int x49), (9, .int x40), (8, .int x38), (5, .ref 160), (6, .ref 161), (7, .int l7)], [.int 1, .ref 161, .int x40, .int ((v50 ^^^ v51) ^^^ v52)])) rfl ?_
      obtain ⟨o53, hb⟩ := ob_in hb
      refine r_iald rfl rfl (x_ltn rfl) rfl o53 ?_
      refine e_k 4 (f' := (325, [(10, .int x49), (9, .int x40), (8, .int x38), (5, .ref 160), (6, .ref 161), (7, .int l7)], [.int 2, .ref 161, .int x40, .int (x40 &&& (I52 161 (Int32.toNatClampNeg 1))), .int ((v50 ^^^ v51) ^^^ v52)])) rfl ?_
      obtain ⟨o54, hb⟩ := ob_in hb
      refine r_iald rfl rfl (x_ltn rfl) rfl o54 ?_
      refine e_k 4 (f' := (331, [(10, .int x49), (9, .int x40), (8, .int x38), (5, .ref 160), (6, .ref 161), (7, .int l7)], [.int 1, .ref 161, .int ((x40 &&& (I52 161 (Int32.toNatClampNeg 1))) ^^^ (x40 &&& (I52 161 (Int32.toNatClampNeg 2)))), .int ((v50 ^^^ v51) ^^^ v52)])) rfl ?_
      obtain ⟨o55, hb⟩ := ob_in hb
      refine r_iald rfl rfl (x_ltn rfl) rfl o55 ?_
      refine e_k 2 (f' := (335, [(10, .int x49), (9, .int x40), (8, .int x38), (5, .ref 160), (6, .ref 161), (7, .int l7)], [.int 2, .ref 161, .int (I52 161 (Int32.toNatClampNeg 1)), .int ((x40 &&& (I52 161 (Int32.toNatClampNeg 1))) ^^^ (x40 &&& (I52 161 (Int32.toNatClampNeg 2)))), .int ((v50 ^^^ v51) ^^^ v52)])) rfl ?_
      obtain ⟨o56, hb⟩ := ob_in hb
      refine r_iald rfl rfl (x_ltn rfl) rfl o56 ?_
      refine e_k 4 (f' := (341, [(11, .int (((v50 ^^^ v51) ^^^ v52) + (((x40 &&& (I52 161 (Int32.toNatClampNeg 1))) ^^^ (x40 &&& (I52 161 (Int32.toNatClampNeg 2)))) ^^^ ((I52 161 (Int32.toNatClampNeg 1)) &&& (I52 161 (Int32.toNatClampNeg 2)))))), (10, .int x49), (9, .int x40), (8, .int x38), (5, .ref 160), (6, .ref 161), (7, .int l7)], [])) rfl ?_
      obtain ⟨x57, ex57, hb⟩ := p_nm hb
      rw [← ex57]
      refine e_k 2 (f' := (345, [(12, .int 7), (11, .int x57), (10, .int x49), (9, .int x40), (8, .int x38), (5, .ref 160), (6, .ref 161), (7, .int l7)], [])) rfl ?_
      refine e_sub (ls := [(5, .ref 160), (6, .ref 161), (7, .int l7), (10, .int x49), (11, .int x57), (12, .int 7)]) rfl ⟨rfl, rfl, rfl, rfl, rfl, rfl, trivial⟩ ?_
      obtain ⟨u62, I62, J62, h62, hb⟩ := oc_call hb
      refine E_Model_digestOf_345  gF  h62 ?_
      refine e_k 3 (f' := (372, [(5, .ref 160), (6, .ref 161), (7, .int l7), (10, .int x49), (11, .int x57)], [.int 4, .ref 161, .int 4, .ref 161])) rfl ?_
      obtain ⟨o63, hb⟩ := ob_in hb
      refine r_iald rfl rfl (x_ltn rfl) rfl o63 ?_
      refine e_k 2 (f' := (376, [(5, .ref 160), (6, .ref 161), (7, .int l7), (10, .int x49), (11, .int x57)], [.int ((I62 161 (Int32.toNatClampNeg 4)) + x49), .int 4, .ref 161])) rfl ?_
      obtain ⟨o64, hb⟩ := ob_in hb
      obtain ⟨I65, eI65, hb⟩ := p_nm hb
      refine r_iast' rfl (x_ltn rfl) rfl o64 eI65 ?_
      refine e_k 5 (f' := (385, [(5, .ref 160), (6, .ref 161), (7, .int l7), (10, .int x49), (11, .int x57)], [.int (x49 + x57), .int 0, .ref 161])) rfl ?_
      obtain ⟨o66, hb⟩ := ob_in hb
      obtain ⟨I67, eI67, hb⟩ := p_nm hb
      refine r_iast' rfl (x_ltn rfl) rfl o66 eI67 ?_
      refine e_k 2 (f' := (209, [(7, .int (l7 + 1)), (5, .ref 160), (6, .ref 161), (10, .int x49), (11, .int x57)], [])) rfl ?_
      refine e_sub (ls := [(5, .ref 160), (6, .ref 161), (7, .int (l7 + 1))]) rfl ⟨rfl, rfl, rfl, trivial⟩ ?_
      exact ih  hb K
def f_Model_digestOf_395 (p2 : Int64) (p3 : Int64) : Nat → Int32 → MI → MJ → M2 (Unit)
  | 0, _, _, _ => none
  | fu + 1, l7, I, J => if 8 ≤ l7 then (some ((), I, J)) else (if l7 < 0 ∨ 8 ≤ Int32.toNatClampNeg l7 then none else (if l7 < 0 ∨ 8 ≤ Int32.toNatClampNeg l7 then none else (if l7 < 0 ∨ 8 ≤ Int32.toNatClampNeg l7 then none else (pl (va_up I 161 (upd (I 161) (Int32.toNatClampNeg l7) ((I 161 (Int32.toNatClampNeg l7)) + (g_get 0 t_first (Int32.toNatClampNeg l7))))) (fun I73 => f_Model_digestOf_395 p2 p3 fu (l7 + 1) I73 J)))))
theorem E_Model_digestOf_395 {X : MX} {p2 : Int64} {p3 : Int64} : ∀ (fu : Nat) {l7 : Int32} {I : MI} {J : MJ} {r : (Unit)} {I' : MI} {J' : MJ}, f_Model_digestOf_395 p2 p3 fu l7 I J = some (r, I', J') → am_E (gG L xs) d m_Model_digestOf (422, [], []) (hX X I' J') P → am_E (gG L xs) d m_Model_digestOf (395, [(6, .ref 161), (7, .int l7)], []) (hX X I J) P := by
  intro fu
  induction fu with
  | zero =>
    intros
    rename_i hb _
    cases hb
  | succ fu ih =>
    intro l7 I J r I' J' hb K
    unfold f_Model_digestOf_395 at hb
    refine e_k 3 (f' := (if 8 ≤ l7 then 422 else 402, [(6, .ref 161), (7, .int l7)], [])) rfl ?_
    refine e_if (fun c69 => ?_) (fun c69 => ?_)
    · replace hb := i_pos c69 hb
      refine e_sub (ls := []) rfl ⟨⟩ ?_
      obtain ⟨rfl, rfl, rfl⟩ := s_inj hb
      exact K
    · replace hb := i_neg c69 hb
      refine e_k 3 (f' := (407, [(6, .ref 161), (7, .int l7)], [.int l7, .ref 161, .int l7, .ref 161])) rfl ?_
      obtain ⟨o70, hb⟩ := ob_in hb
      refine r_iald rfl rfl (x_ltn rfl) rfl o70 ?_
      refine e_k 2 (f' := (413, [(6, .ref 161), (7, .int l7)], [.int l7, .ref 1000000004, .int (I 161 (Int32.toNatClampNeg l7)), .int l7, .ref 161])) rfl ?_
      obtain ⟨o71, hb⟩ := ob_in hb
      refine r_tald (k := 4) rfl (by decide) rfl o71 ?_
      refine e_k 1 (f' := (415, [(6, .ref 161), (7, .int l7)], [.int ((I 161 (Int32.toNatClampNeg l7)) + (g_get 0 t_first (Int32.toNatClampNeg l7))), .int l7, .ref 161])) rfl ?_
      obtain ⟨o72, hb⟩ := ob_in hb
      obtain ⟨I73, eI73, hb⟩ := p_nm hb
      refine r_iast' rfl (x_ltn rfl) rfl o72 eI73 ?_
      refine e_k 2 (f' := (395, [(7, .int (l7 + 1)), (6, .ref 161)], [])) rfl ?_
      refine e_sub (ls := [(6, .ref 161), (7, .int (l7 + 1))]) rfl ⟨rfl, rfl, trivial⟩ ?_
      exact ih  hb K
def f_Model_digestOf (p2 : Int64) (p3 : Int64) (I : MI) (J : MJ) : M2 Unit := if (0 : Int32) < 0 ∨ 64 ≤ Int32.toNatClampNeg 0 then none else (pl (va_up I 160 (upd (I 160) (Int32.toNatClampNeg 0) (Int64.toInt32 (p2 >>> ((Int32.toInt64 32) &&& 63))))) (fun I2 => if (1 : Int32) < 0 ∨ 64 ≤ Int32.toNatClampNeg 1 then none else (pl (va_up I2 160 (upd (I2 160) (Int32.toNatClampNeg 1) (Int64.toInt32 p2))) (fun I4 => if (2 : Int32) < 0 ∨ 64 ≤ Int32.toNatClampNeg 2 then none else (pl (va_up I4 160 (upd (I4 160) (Int32.toNatClampNeg 2) (Int64.toInt32 (p3 >>> ((Int32.toInt64 32) &&& 63))))) (fun I6 => if (3 : Int32) < 0 ∨ 64 ≤ Int32.toNatClampNeg 3 then none else (pl (va_up I6 160 (upd (I6 160) (Int32.toNatClampNeg 3) (Int64.toInt32 p3))) (fun I8 => if (4 : Int32) < 0 ∨ 64 ≤ Int32.toNatClampNeg 4 then none else (pl (va_up I8 160 (upd (I8 160) (Int32.toNatClampNeg 4) (-2147483648))) (fun I10 => oc (f_Model_digestOf_45 p2 p3 gF 5 I10 J) (fun u14 I14 J14 => if (15 : Int32) < 0 ∨ 64 ≤ Int32.toNatClampNeg 15 then none else (pl (va_up I14 160 (upd (I14 160) (Int32.toNatClampNeg 15) 128)) (fun I16 => oc (f_Model_digestOf_76 p2 p3 gF 16 I16 J14) (fun u30 I30 J30 => oc (f_Model_digestOf_182 p2 p3 gF 0 I30 J30) (fun u35 I35 J35 => oc (f_Model_digestOf_209 p2 p3 gF 0 I35 J35) (fun u68 I68 J68 => oc (f_Model_digestOf_395 p2 p3 gF 0 I68 J68) (fun u74 I74 J74 => some ((), I74, J74))))))))))))))))))
theorem E_Model_digestOf {p2 : Int64} {p3 : Int64} {X : MX} {I : MI} {J : MJ} {v : Unit} {I' : MI} {J' : MJ} (hb : f_Model_digestOf p2 p3 I J = some (v, I', J')) (K : P (.inl (none)) (hX X I' J')) : am_E (gG L xs) (d + 1) m_Model_digestOf (0, lv_args 0 [.ref 112, .long p2, .long p3], []) (hX X I J) P := by
  unfold f_Model_digestOf at hb
  refine e_k 1 (f' := (1, [(0, .ref 112), (1, .long p2), (3, .long p3)], [.ref 112])) rfl ?_
  refine r_getr rfl (x_ltn rfl) rfl rfl ?_
  refine e_k 7 (f' := (14, [(5, .ref 160), (0, .ref 112), (1, .long p2), (3, .long p3)], [.int (Int64.toInt32 (p2 >>> ((Int32.toInt64 32) &&& 63))), .int 0, .ref 160])) rfl ?_
  obtain ⟨o1, hb⟩ := ob_in hb
  obtain ⟨I2, eI2, hb⟩ := p_nm hb
  refine r_iast' rfl (x_ltn rfl) rfl o1 eI2 ?_
  refine e_k 4 (f' := (20, [(5, .ref 160), (0, .ref 112), (1, .long p2), (3, .long p3)], [.int (Int64.toInt32 p2), .int 1, .ref 160])) rfl ?_
  obtain ⟨o3, hb⟩ := ob_in hb
  obtain ⟨I4, eI4, hb⟩ := p_nm hb
  refine r_iast' rfl (x_ltn rfl) rfl o3 eI4 ?_
  refine e_k 6 (f' := (29, [(5, .ref 160), (0, .ref 112), (1, .long p2), (3, .long p3)], [.int (Int64.toInt32 (p3 >>> ((Int32.toInt64 32) &&& 63))), .int 2, .ref 160])) rfl ?_
  obtain ⟨o5, hb⟩ := ob_in hb
  obtain ⟨I6, eI6, hb⟩ := p_nm hb
  refine r_iast' rfl (x_ltn rfl) rfl o5 eI6 ?_
  refine e_k 4 (f' := (35, [(5, .ref 160), (0, .ref 112), (1, .long p2), (3, .long p3)], [.int (Int64.toInt32 p3), .int 3, .ref 160])) rfl ?_
  obtain ⟨o7, hb⟩ := ob_in hb
  obtain ⟨I8, eI8, hb⟩ := p_nm hb
  refine r_iast' rfl (x_ltn rfl) rfl o7 eI8 ?_
  refine e_k 3 (f' := (41, [(5, .ref 160), (0, .ref 112), (1, .long p2), (3, .long p3)], [.int (-2147483648), .int 4, .ref 160])) rfl ?_
  obtain ⟨o9, hb⟩ := ob_in hb
  obtain ⟨I10, eI10, hb⟩ := p_nm hb
  refine r_iast' rfl (x_ltn rfl) rfl o9 eI10 ?_
  refine e_k 2 (f' := (45, [(6, .int 5), (5, .ref 160), (0, .ref 112), (1, .long p2), (3, .long p3)], [])) rfl ?_
  refine e_sub (ls := [(0, .ref 112), (5, .ref 160), (6, .int 5)]) rfl ⟨rfl, rfl, rfl, trivial⟩ ?_
  obtain ⟨u14, I14, J14, h14, hb⟩ := oc_call hb
  refine E_Model_digestOf_45  gF  h14 ?_
  refine e_k 3 (f' := (71, [(0, .ref 112), (5, .ref 160)], [.int 128, .int 15, .ref 160])) rfl ?_
  obtain ⟨o15, hb⟩ := ob_in hb
  obtain ⟨I16, eI16, hb⟩ := p_nm hb
  refine r_iast' rfl (x_ltn rfl) rfl o15 eI16 ?_
  refine e_k 2 (f' := (76, [(6, .int 16), (0, .ref 112), (5, .ref 160)], [])) rfl ?_
  refine e_sub (ls := [(0, .ref 112), (5, .ref 160), (6, .int 16)]) rfl ⟨rfl, rfl, rfl, trivial⟩ ?_
  obtain ⟨u30, I30, J30, h30, hb⟩ := oc_call hb
  refine E_Model_digestOf_76  gF  h30 ?_
  refine e_k 1 (f' := (174, [(0, .ref 112), (5, .ref 160)], [.ref 112])) rfl ?_
  refine r_getr rfl (x_ltn rfl) rfl rfl ?_
  refine e_k 3 (f' := (182, [(7, .int 0), (6, .ref 161), (0, .ref 112), (5, .ref 160)], [])) rfl ?_
  refine e_sub (ls := [(5, .ref 160), (6, .ref 161), (7, .int 0)]) rfl ⟨rfl, rfl, rfl, trivial⟩ ?_
  obtain ⟨u35, I35, J35, h35, hb⟩ := oc_call hb
  refine E_Model_digestOf_182  gF  h35 ?_
  refine e_k 2 (f' := (209, [(7, .int 0), (5, .ref 160), (6, .ref 161)], [])) rfl ?_
  refine e_sub (ls := [(5, .ref 160), (6, .ref 161), (7, .int 0)]) rfl ⟨rfl, rfl, rfl, trivial⟩ ?_
  obtain ⟨u68, I68, J68, h68, hb⟩ := oc_call hb
  refine E_Model_digestOf_209  gF  h68 ?_
  refine e_k 2 (f' := (395, [(7, .int 0), (6, .ref 161)], [])) rfl ?_
  refine e_sub (ls := [(6, .ref 161), (7, .int 0)]) rfl ⟨rfl, rfl, trivial⟩ ?_
  obtain ⟨u74, I74, J74, h74, hb⟩ := oc_call hb
  refine E_Model_digestOf_395  gF  h74 ?_
  obtain ⟨rfl, rfl, rfl⟩ := s_inj hb
  exact e_r rfl rfl K
end AUTO
