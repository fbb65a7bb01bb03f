section AUTO
variable {L : Nat} {xs : Nat → Int32} {d : Nat} {P : am_R → am_H → Prop}
theorem E_Sh_fault {p2 : Int32} {X : MX} {I : MI} {J : MJ} {v : Int32} {I' : MI} {J' : MJ} (hb : f_Sh_fault p2 I J = some (v, I', J')) (K : P (.inl (some (.int v))) (hX X I' J')) : am_E (gG L xs) d m_Sh_fault (0, lv_args 0 [.ref 0, .int p2], []) (hX X I J) P := by
  unfold f_Sh_fault at hb
  refine e_k 2 (f' := (if ¬ p2 = 0 then 9 else 4, [(0, .ref 0), (1, .int p2)], [])) rfl ?_
  refine e_if (fun c1 => ?_) (fun c1 => ?_)
  · replace hb := i_pos c1 hb
    refine e_k 3 (f' := (if ¬ p2 = 1 then 21 else 14, [(0, .ref 0), (1, .int p2)], [])) rfl ?_
    refine e_if (fun c2 => ?_) (fun c2 => ?_)
    · replace hb := i_pos c2 hb
      refine e_k 1 (f' := (22, [(0, .ref 0), (1, .int p2)], [.int (-1)])) rfl ?_
      obtain ⟨rfl, rfl, rfl⟩ := s_inj hb
      exact e_r rfl rfl K
    · replace hb := i_neg c2 hb
      refine e_k 1 (f' := (15, [(0, .ref 0), (1, .int p2)], [.ref 0])) rfl ?_
      refine r_geti rfl (x_ltn rfl) rfl rfl ?_
      refine e_k 1 (f' := (22, [(0, .ref 0), (1, .int p2)], [.int (I 0 7)])) rfl ?_
      obtain ⟨rfl, rfl, rfl⟩ := s_inj hb
      exact e_r rfl rfl K
  · replace hb := i_neg c1 hb
    refine e_k 1 (f' := (5, [(0, .ref 0), (1, .int p2)], [.ref 0])) rfl ?_
    refine r_geti rfl (x_ltn rfl) rfl rfl ?_
    obtain ⟨rfl, rfl, rfl⟩ := s_inj hb
    exact e_r rfl rfl K
theorem E_Sh_plus {p1 : Int64} {p2 : Int64} {X : MX} {I : MI} {J : MJ} {v : Int64} {I' : MI} {J' : MJ} (hb : f_Sh_plus p1 p2 I J = some (v, I', J')) (K : P (.inl (some (.long v))) (hX X I' J')) : am_E (gG L xs) d m_Sh_plus (0, lv_args 0 [.long p1, .long p2], []) (hX X I J) P := by
  unfold f_Sh_plus at hb
  refine e_k 4 (f' := (5, [(4, .long (p1 + p2)), (0, .long p1), (2, .long p2)], [])) rfl ?_
  obtain ⟨x1, ex1, hb⟩ := p_nm hb
  rw [← ex1]
  refine e_k 4 (f' := (if (lg_cmp x1 2305843009213693951) < 0 then 23 else 14, [(4, .long x1), (0, .long p1), (2, .long p2)], [])) rfl ?_
  refine e_if (fun c2 => ?_) (fun c2 => ?_)
  · replace hb := i_pos c2 hb
    refine e_k 1 (f' := (25, [(4, .long x1), (0, .long p1), (2, .long p2)], [.long x1])) rfl ?_
    obtain ⟨rfl, rfl, rfl⟩ := s_inj hb
    exact e_r rfl rfl K
  · replace hb := i_neg c2 hb
    refine e_k 4 (f' := (25, [(4, .long x1), (0, .long p1), (2, .long p2)], [.long (x1 - 2305843009213693951)])) rfl ?_
    obtain ⟨rfl, rfl, rfl⟩ := s_inj hb
    exact e_r rfl rfl K
theorem E_Sh_minus {p1 : Int64} {p2 : Int64} {X : MX} {I : MI} {J : MJ} {v : Int64} {I' : MI} {J' : MJ} (hb : f_Sh_minus p1 p2 I J = some (v, I', J')) (K : P (.inl (some (.long v))) (hX X I' J')) : am_E (gG L xs) d m_Sh_minus (0, lv_args 0 [.long p1, .long p2], []) (hX X I J) P := by
  unfold f_Sh_minus at hb
  refine e_k 4 (f' := (if (lg_cmp p1 p2) < 0 then 12 else 6, [(0, .long p1), (2, .long p2)], [])) rfl ?_
  refine e_if (fun c1 => ?_) (fun c1 => ?_)
  · replace hb := i_pos c1 hb
    refine e_k 5 (f' := (19, [(0, .long p1), (2, .long p2)], [.long ((p1 - p2) + 2305843009213693951)])) rfl ?_
    obtain ⟨rfl, rfl, rfl⟩ := s_inj hb
    exact e_r rfl rfl K
  · replace hb := i_neg c1 hb
    refine e_k 4 (f' := (19, [(0, .long p1), (2, .long p2)], [.long (p1 - p2)])) rfl ?_
    obtain ⟨rfl, rfl, rfl⟩ := s_inj hb
    exact e_r rfl rfl K
theorem E_Sh_times {p1 : Int64} {p2 : Int64} {X : MX} {I : MI} {J : MJ} {v : Int64} {I' : MI} {J' : MJ} (hb : f_Sh_times p1 p2 I J = some (v, I', J')) (K : P (.inl (some (.long v))) (hX X I' J')) : am_E (gG L xs) d m_Sh_times (0, lv_args 0 [.long p1, .long p2], []) (hX X I J) P := by
  unfold f_Sh_times at hb
  refine e_k 4 (f' := (6, [(4, .long ((Int64.toUInt64 p1 >>> (Int64.toUInt64 (Int32.toInt64 31) &&& Int64.toUInt64 63)).toInt64)), (0, .long p1), (2, .long p2)], [])) rfl ?_
  obtain ⟨x1, ex1, hb⟩ := p_nm hb
  rw [← ex1]
  refine e_k 4 (f' := (13, [(6, .long (p1 &&& 2147483647)), (4, .long x1), (0, .long p1), (2, .long p2)], [])) rfl ?_
  obtain ⟨x2, ex2, hb⟩ := p_nm hb
  rw [← ex2]
  refine e_k 4 (f' := (19, [(8, .long ((Int64.toUInt64 p2 >>> (Int64.toUInt64 (Int32.toInt64 31) &&& Int64.toUInt64 63)).toInt64)), (6, .long x2), (4, .long x1), (0, .long p1), (2, .long p2)], [])) rfl ?_
  obtain ⟨x3, ex3, hb⟩ := p_nm hb
  rw [← ex3]
  refine e_k 4 (f' := (26, [(10, .long (p2 &&& 2147483647)), (8, .long x3), (6, .long x2), (4, .long x1), (0, .long p1), (2, .long p2)], [])) rfl ?_
  obtain ⟨x4, ex4, hb⟩ := p_nm hb
  rw [← ex4]
  refine e_k 8 (f' := (39, [(12, .long ((x1 * x4) + (x2 * x3))), (10, .long x4), (8, .long x3), (6, .long x2), (4, .long x1), (0, .long p1), (2, .long p2)], [])) rfl ?_
  obtain ⟨x5, ex5, hb⟩ := p_nm hb
  rw [← ex5]
  refine e_k 4 (f' := (46, [(14, .long (x2 * x4)), (12, .long x5), (10, .long x4), (8, .long x3), (6, .long x2), (4, .long x1), (0, .long p1), (2, .long p2)], [])) rfl ?_
  obtain ⟨x6, ex6, hb⟩ := p_nm hb
  rw [← ex6]
  refine e_k 16 (f' := (73, [(16, .long ((((2 * x1) * x3) + ((Int64.toUInt64 x5 >>> (Int64.toUInt64 (Int32.toInt64 30) &&& Int64.toUInt64 63)).toInt64)) + ((x5 &&& 1073741823) <<< ((Int32.toInt64 31) &&& 63)))), (14, .long x6), (12, .long x5), (10, .long x4), (8, .long x3), (6, .long x2), (4, .long x1), (0, .long p1), (2, .long p2)], [])) rfl ?_
  obtain ⟨x7, ex7, hb⟩ := p_nm hb
  rw [← ex7]
  refine e_k 10 (f' := (90, [(16, .long (x7 + ((x6 &&& 2305843009213693951) + ((Int64.toUInt64 x6 >>> (Int64.toUInt64 (Int32.toInt64 61) &&& Int64.toUInt64 63)).toInt64)))), (14, .long x6), (12, .long x5), (10, .long x4), (8, .long x3), (6, .long x2), (4, .long x1), (0, .long p1), (2, .long p2)], [])) rfl ?_
  obtain ⟨x8, ex8, hb⟩ := p_nm hb
  rw [← ex8]
  refine e_k 8 (f' := (104, [(16, .long ((x8 &&& 2305843009213693951) + ((Int64.toUInt64 x8 >>> (Int64.toUInt64 (Int32.toInt64 61) &&& Int64.toUInt64 63)).toInt64))), (14, .long x6), (12, .long x5), (10, .long x4), (8, .long x3), (6, .long x2), (4, .long x1), (0, .long p1), (2, .long p2)], [])) rfl ?_
  obtain ⟨x9, ex9, hb⟩ := p_nm hb
  rw [← ex9]
  refine e_k 4 (f' := (if (lg_cmp x9 2305843009213693951) < 0 then 122 else 113, [(16, .long x9), (14, .long x6), (12, .long x5), (10, .long x4), (8, .long x3), (6, .long x2), (4, .long x1), (0, .long p1), (2, .long p2)], [])) rfl ?_
  refine e_if (fun c10 => ?_) (fun c10 => ?_)
  · replace hb := i_pos c10 hb
    refine e_k 1 (f' := (124, [(16, .long x9), (14, .long x6), (12, .long x5), (10, .long x4), (8, .long x3), (6, .long x2), (4, .long x1), (0, .long p1), (2, .long p2)], [.long x9])) rfl ?_
    obtain ⟨rfl, rfl, rfl⟩ := s_inj hb
    exact e_r rfl rfl K
  · replace hb := i_neg c10 hb
    refine e_k 4 (f' := (124, [(16, .long x9), (14, .long x6), (12, .long x5), (10, .long x4), (8, .long x3), (6, .long x2), (4, .long x1), (0, .long p1), (2, .long p2)], [.long (x9 - 2305843009213693951)])) rfl ?_
    obtain ⟨rfl, rfl, rfl⟩ := s_inj hb
    exact e_r rfl rfl K
theorem E_Sh_read {a1 : Nat} {m1 : Nat} {p2 : Int32} {X : MX} {I : MI} {J : MJ} {v : Int64} {I' : MI} {J' : MJ} (hA_a1 : isArr X 1 a1 m1) (hb : f_Sh_read a1 m1 p2 I J = some (v, I', J')) (K : P (.inl (some (.long v))) (hX X I' J')) : am_E (gG L xs) d m_Sh_read (0, lv_args 0 [.ref a1, .int p2], []) (hX X I J) P := by
  unfold f_Sh_read at hb
  refine e_k 2 (f' := (if p2 < 0 then 16 else 4, [(0, .ref a1), (1, .int p2)], [])) rfl ?_
  refine e_if (fun c1 => ?_) (fun c1 => ?_)
  · replace hb := i_pos c1 hb
    refine e_k 1 (f' := (17, [(0, .ref a1), (1, .int p2)], [.long 0])) rfl ?_
    obtain ⟨rfl, rfl, rfl⟩ := s_inj hb
    exact e_r rfl rfl K
  · replace hb := i_neg c1 hb
    refine e_k 2 (f' := (6, [(0, .ref a1), (1, .int p2)], [.ref a1, .int p2])) rfl ?_
    refine r_alen rfl hA_a1.2.1 hA_a1.1 hA_a1.2.2 rfl ?_
    refine e_k 1 (f' := (if (nI m1) ≤ p2 then 16 else 10, [(0, .ref a1), (1, .int p2)], [])) rfl ?_
    refine e_if (fun c2 => ?_) (fun c2 => ?_)
    · replace hb := i_pos c2 hb
      refine e_k 1 (f' := (17, [(0, .ref a1), (1, .int p2)], [.long 0])) rfl ?_
      obtain ⟨rfl, rfl, rfl⟩ := s_inj hb
      exact e_r rfl rfl K
    · replace hb := i_neg c2 hb
      refine e_k 2 (f' := (12, [(0, .ref a1), (1, .int p2)], [.int p2, .ref a1])) rfl ?_
      obtain ⟨o3, hb⟩ := ob_in hb
      refine r_lald rfl hA_a1.2.1 hA_a1.1 hA_a1.2.2 o3 ?_
      refine e_k 1 (f' := (17, [(0, .ref a1), (1, .int p2)], [.long (J a1 (Int32.toNatClampNeg p2))])) rfl ?_
      obtain ⟨rfl, rfl, rfl⟩ := s_inj hb
      exact e_r rfl rfl K
theorem E_Sh_write {a1 : Nat} {m1 : Nat} {p2 : Int32} {p3 : Int64} {X : MX} {I : MI} {J : MJ} {v : Unit} {I' : MI} {J' : MJ} (hA_a1 : isArr X 1 a1 m1) (hb : f_Sh_write a1 m1 p2 p3 I J = some (v, I', J')) (K : P (.inl (none)) (hX X I' J')) : am_E (gG L xs) d m_Sh_write (0, lv_args 0 [.ref a1, .int p2, .long p3], []) (hX X I J) P := by
  unfold f_Sh_write at hb
  refine e_k 2 (f' := (if p2 < 0 then 14 else 4, [(0, .ref a1), (1, .int p2), (2, .long p3)], [])) rfl ?_
  refine e_if (fun c1 => ?_) (fun c1 => ?_)
  · replace hb := i_pos c1 hb
    obtain ⟨rfl, rfl, rfl⟩ := s_inj hb
    exact e_r rfl rfl K
  · replace hb := i_neg c1 hb
    refine e_k 2 (f' := (6, [(0, .ref a1), (1, .int p2), (2, .long p3)], [.ref a1, .int p2])) rfl ?_
    refine r_alen rfl hA_a1.2.1 hA_a1.1 hA_a1.2.2 rfl ?_
    refine e_k 1 (f' := (if (nI m1) ≤ p2 then 14 else 10, [(0, .ref a1), (1, .int p2), (2, .long p3)], [])) rfl ?_
    refine e_if (fun c2 => ?_) (fun c2 => ?_)
    · replace hb := i_pos c2 hb
      obtain ⟨rfl, rfl, rfl⟩ := s_inj hb
      exact e_r rfl rfl K
    · replace hb := i_neg c2 hb
      refine e_k 3 (f' := (13, [(0, .ref a1), (1, .int p2), (2, .long p3)], [.long p3, .int p2, .ref a1])) rfl ?_
      obtain ⟨o3, hb⟩ := ob_in hb
      obtain ⟨J4, eJ4, hb⟩ := p_nm hb
      refine r_last' rfl hA_a1.1 hA_a1.2.2 o3 eJ4 ?_
      obtain ⟨rfl, rfl, rfl⟩ := s_inj hb
      exact e_r rfl rfl K
theorem e_1q {G : am_G} {d y pc : Nat} {ls : List (Nat × Value)} {st : List Value} {h : am_H} {f' : am_F} {h' : am_H} {q : am_I} {P : am_R → am_H → Prop} (hq : G.1 y pc = q) (hop : Nat.ble q.1 39 = true) (hs : am_1 G q (pc, ls, st) h = some (f', h')) (k : am_E G d y f' h' P) : am_E G d y (pc, ls, st) h P := by
  refine e_1 (f := (pc, ls, st)) ?_ ?_ k
  · show Nat.ble (G.1 y pc).1 39 = true
    rw [hq]
    exact hop
  · show am_1 G (G.1 y pc) _ _ = _
    rw [hq]
    exact hs
theorem E_Party_tail {w : Nat} {v : Int64} {X : MX} {I : MI} {J : MJ} {r : Unit} {X' : MX} {I' : MI} {J' : MJ} (hw : w < 4) (hb : f_Party_tail w v X I J = some (r, X', I', J')) (K : P (.inl none) (hX X' I' J')) : am_E (gG L xs) (d + 1) m_Party_putOut (53, [(0, .ref (18 + 21 * w)), (1, .long v)], []) (hX X I J) P := by
  unfold f_Party_tail at hb
  obtain ⟨o1, hb⟩ := oa_call hw hb
  obtain ⟨_, I1, J1, h1, hb⟩ := oc_call hb
  obtain ⟨I2, e2, hb⟩ := p_nm hb
  refine e_k 1 (f' := (54, [(0, .ref (18 + 21 * w)), (1, .long v)], [.ref (18 + 21 * w)])) rfl ?_
  refine r_getr rfl (x_ltp hw (by decide)) (sS_p0 hw) rfl ?_
  refine e_k 1 (f' := (58, [(0, .ref (18 + 21 * w)), (1, .long v)], [.ref (18 + 21 * w), .ref (X.1 w)])) rfl ?_
  refine r_geti rfl (x_ltp hw (by decide)) (sS_p0 hw) rfl ?_
  refine e_k 1 (f' := (62, [(0, .ref (18 + 21 * w)), (1, .long v)], [.long v, .int (I (18 + 21 * w) 6), .ref (X.1 w)])) rfl ?_
  refine r_cs (z := m_Sh_write) (As := [.ref (X.1 w), .int (I (18 + 21 * w) 6), .long v]) (rest := []) rfl rfl rfl rfl rfl rfl (E_Sh_write o1 h1 ⟨_, rfl, ?_⟩)
  refine e_k 2 (f' := (67, [(0, .ref (18 + 21 * w)), (1, .long v)], [.ref (18 + 21 * w), .ref (18 + 21 * w)])) rfl ?_
  refine r_geti rfl (x_ltp hw (by decide)) (sS_p0 hw) rfl ?_
  refine e_k 2 (f' := (72, [(0, .ref (18 + 21 * w)), (1, .long v)], [.int (I1 (18 + 21 * w) 6 + 1), .ref (18 + 21 * w)])) rfl ?_
  refine r_puti' rfl (x_ltp hw (by decide)) (sS_p0 hw) rfl e2 ?_
  obtain ⟨rfl, rfl, rfl, rfl⟩ := s_inx hb
  exact e_r rfl rfl K
theorem hp_new {o q : Nat → Nat} {I : MI} {J : MJ} {n k : Nat} (hn : 168 ≤ n) : va_up (hp (sS o (sQ q)) I J) n (am_arr 1 k) = hp (sS o (sQ (va_up q n k))) I (va_up J n (fun _ => 0)) := by
  have eb : ∀ a, 168 ≤ a → Nat.blt a 168 = false := by
    intro a ha
    cases z : Nat.blt a 168 with
    | false => rfl
    | true =>
      have z1 : a + 1 ≤ 168 := Nat.le_of_ble_eq_true z
      omega
  funext a
  by_cases e : a = n
  · subst e
    rw [va_up_self, hp_l (m := k) (f := fun _ => 0) (by unfold sS; rw [eb a hn, cond_false]; show Sum.inl (1, va_up q a k a, Sum.inr (Sum.inl (fun _ => 0))) = _; rw [va_up_self]), va_up_self]
    rfl
  · rw [va_up_ne _ _ e]
    have es : sS o (sQ (va_up q n k)) a = sS o (sQ q) a := by
      unfold sS
      cases z : Nat.blt a 168 with
      | true => rfl
      | false =>
        rw [cond_false, cond_false]
        show Sum.inl (1, va_up q n k a, Sum.inr (Sum.inl (fun _ => 0))) = Sum.inl (1, q a, Sum.inr (Sum.inl (fun _ => 0)))
        rw [va_up_ne _ _ e]
    unfold hp
    rw [es, va_up_ne _ _ e]
theorem hp_out {o : Nat → Nat} {q : Nat → va_E} {I : MI} {J : MJ} {w b : Nat} (hw : w < 4) : va_up (hp (sS o q) I J) (18 + 21 * w) (.inr (5, (hf (I (18 + 21 * w)) (J (18 + 21 * w)) 0 [.int 0, .ref (19 + 21 * w), .ref (25 + 21 * w), .ref (29 + 21 * w), .ref (32 + 21 * w), .ref (o w), .int 0, .long 0, .int 0, .int 0, .int 0, .int 0, .int 0, .int 0]).set 5 (.ref b))) = hp (sS (va_up o w b) q) I J := by
  funext a
  by_cases e : a = 18 + 21 * w
  · subst e
    rw [va_up_self, hp_obj (sS_p0 hw), va_up_self]
    rfl
  · rw [va_up_ne _ _ e]
    unfold hp
    rw [sS_out hw e]
theorem E_Party_putOut {w : Nat} {v : Int64} {X : MX} {I : MI} {J : MJ} {r : Unit} {X' : MX} {I' : MI} {J' : MJ} (hw : w < 4) (hb : f_Party_putOut w v X I J = some (r, X', I', J')) (K : P (.inl none) (hX X' I' J')) : am_E (gG L xs) (d + 1) m_Party_putOut (0, lv_args 0 [.ref (18 + 21 * w), .long v], []) (hX X I J) P := by
  unfold f_Party_putOut at hb
  obtain ⟨o1, hb⟩ := oa_call hw hb
  refine e_k 1 (f' := (1, [(0, .ref (18 + 21 * w)), (1, .long v)], [.ref (18 + 21 * w)])) rfl ?_
  refine r_geti rfl (x_ltp hw (by decide)) (sS_p0 hw) rfl ?_
  refine e_k 1 (f' := (5, [(0, .ref (18 + 21 * w)), (1, .long v)], [.ref (18 + 21 * w), .int (I (18 + 21 * w) 6)])) rfl ?_
  refine r_getr rfl (x_ltp hw (by decide)) (sS_p0 hw) rfl ?_
  refine r_alen rfl o1.2.1 o1.1 o1.2.2 rfl ?_
  refine e_k 1 (f' := (if I (18 + 21 * w) 6 < nI (xlen X w) then 53 else 12, [(0, .ref (18 + 21 * w)), (1, .long v)], [])) rfl ?_
  refine e_if (fun c => ?_) (fun c => ?_)
  · exact E_Party_tail hw (i_pos c hb) K
  · replace hb := i_neg c hb
    obtain ⟨⟨g1, g2⟩, hb⟩ := ob_if hb
    have hlt : X.1 w < 168 + X.2.2.1 := Nat.le_of_ble_eq_true o1.1
    have hne : X.1 w ≠ 168 + X.2.2.1 := by omega
    have h2 : 2 * nI (xlen X w) = nI (2 * xlen X w) := by
      show Int32.ofNat 2 * Int32.ofNat (xlen X w) = Int32.ofNat (2 * xlen X w)
      rw [Int32.ofNat_mul]
    have hS' : sS X.1 (sQ (va_up X.2.1 (168 + X.2.2.1) (2 * xlen X w))) (X.1 w) = .inl (1, xlen X w, .inr (.inl (fun _ => 0))) := by
      rw [← o1.2.2]
      unfold sS
      cases z : Nat.blt (X.1 w) 168 with
      | true => rfl
      | false =>
        rw [cond_false, cond_false]
        show Sum.inl (1, va_up X.2.1 (168 + X.2.2.1) (2 * xlen X w) (X.1 w), Sum.inr (Sum.inl (fun _ => 0))) = Sum.inl (1, X.2.1 (X.1 w), Sum.inr (Sum.inl (fun _ => 0)))
        rw [va_up_ne _ _ hne]
    have hn1 : Nat.blt (X.1 w) (168 + X.2.2.1 + 1) = true := Nat.ble_eq_true_of_le (by omega)
    have hp1 : Nat.blt (18 + 21 * w) (168 + X.2.2.1 + 1) = true := Nat.ble_eq_true_of_le (by omega)
    refine e_k 1 (f' := (13, [(0, .ref (18 + 21 * w)), (1, .long v)], [.ref (18 + 21 * w)])) rfl ?_
    refine r_getr rfl (x_ltp hw (by decide)) (sS_p0 hw) rfl ?_
    refine r_alen rfl o1.2.1 o1.1 o1.2.2 rfl ?_
    refine e_k 2 (f' := (if (30000 : Int32) ≤ nI (xlen X w) then 53 else 23, [(0, .ref (18 + 21 * w)), (1, .long v)], [])) rfl ?_
    refine e_if (fun c30 => absurd c30 (nI_ge (a := xlen X w) (b := 30000) g1 (by decide))) (fun _ => ?_)
    refine e_k 2 (f' := (25, [(0, .ref (18 + 21 * w)), (1, .long v)], [.ref (18 + 21 * w), .int 2])) rfl ?_
    refine r_getr rfl (x_ltp hw (by decide)) (sS_p0 hw) rfl ?_
    refine r_alen rfl o1.2.1 o1.1 o1.2.2 rfl ?_
    refine e_k 1 (f' := (30, [(0, .ref (18 + 21 * w)), (1, .long v)], [.int (2 * nI (xlen X w))])) rfl ?_
    refine e_1q (q := (27, 1, 2, .null, [])) (f' := (32, [(0, .ref (18 + 21 * w)), (1, .long v)], [.ref (168 + X.2.2.1)])) (h' := hH (sS X.1 (sQ (va_up X.2.1 (168 + X.2.2.1) (2 * xlen X w)))) (168 + X.2.2.1 + 1) (X.2.2.2.1 + 1) (X.2.2.2.2 + 2 * xlen X w) I (va_up J (168 + X.2.2.1) (fun _ => 0))) rfl rfl ?_ ?_
    · show x_newa 1 2 30 [(0, .ref (18 + 21 * w)), (1, .long v)] [.int (2 * nI (xlen X w))] (hX X I J) = _
      rw [h2]
      unfold x_newa am_new
      show (if nI (2 * xlen X w) < 0 then none else bif Nat.ble (nI (2 * xlen X w)).toNatClampNeg 1000000 then (match (bif Nat.blt (168 + X.2.2.1) am_T0 then some (va_up (hp (sS X.1 (sQ X.2.1)) I J) (168 + X.2.2.1) (am_arr 1 (nI (2 * xlen X w)).toNatClampNeg), 168 + X.2.2.1 + 1, X.2.2.2.1 + 1, X.2.2.2.2 + (nI (2 * xlen X w)).toNatClampNeg) else none) with
        | some h' => some ((32, [(0, Value.ref (18 + 21 * w)), (1, Value.long v)], [Value.ref (168 + X.2.2.1)]), h')
        | none => none) else none) = _
      rw [if_neg (nI_pos (by omega)), nI_clamp (by omega), Nat.ble_eq_true_of_le (show 2 * xlen X w ≤ 1000000 by omega), show Nat.blt (168 + X.2.2.1) am_T0 = true from Nat.ble_eq_true_of_le g2, cond_true, cond_true, hp_new (by omega)]
      rfl
    refine e_k 2 (f' := (34, [(3, .ref (168 + X.2.2.1)), (0, .ref (18 + 21 * w)), (1, .long v)], [.ref (18 + 21 * w)])) rfl ?_
    refine r_getr rfl hp1 (sS_p0 hw) rfl ?_
    refine e_k 4 (f' := (41, [(3, .ref (168 + X.2.2.1)), (0, .ref (18 + 21 * w)), (1, .long v)], [.ref (18 + 21 * w), .int 0, .ref (168 + X.2.2.1), .int 0, .ref (X.1 w)])) rfl ?_
    refine r_getr rfl hp1 (sS_p0 hw) rfl ?_
    refine r_alen rfl o1.2.1 hn1 hS' rfl ?_
    refine e_1q (q := (32, 0, 0, .null, [(0, 207)])) (f' := (48, [(3, .ref (168 + X.2.2.1)), (0, .ref (18 + 21 * w)), (1, .long v)], [])) (h' := hH (sS X.1 (sQ (va_up X.2.1 (168 + X.2.2.1) (2 * xlen X w)))) (168 + X.2.2.1 + 1) (X.2.2.2.1 + 1) (X.2.2.2.2 + 2 * xlen X w) I (va_up J (168 + X.2.2.1) (va_cpy (J (X.1 w)) (fun _ => 0) 0 0 (xlen X w)))) rfl rfl ?_ ?_
    · have hA : sS X.1 (sQ (va_up X.2.1 (168 + X.2.2.1) (2 * xlen X w))) (168 + X.2.2.1) = .inl (1, 2 * xlen X w, .inr (.inl (fun _ => 0))) := by
        have z : Nat.blt (168 + X.2.2.1) 168 = false := by
          cases z : Nat.blt (168 + X.2.2.1) 168 with
          | false => rfl
          | true =>
            have z1 : 168 + X.2.2.1 + 1 ≤ 168 := Nat.le_of_ble_eq_true z
            omega
        unfold sS
        rw [z, cond_false]
        show Sum.inl (1, va_up X.2.1 (168 + X.2.2.1) (2 * xlen X w) (168 + X.2.2.1), Sum.inr (Sum.inl (fun _ => 0))) = _
        rw [va_up_self]
      show x_copy 45 [(3, .ref (168 + X.2.2.1)), (0, .ref (18 + 21 * w)), (1, .long v)] [.int (nI (xlen X w)), .int 0, .ref (168 + X.2.2.1), .int 0, .ref (X.1 w)] _ = _
      unfold x_copy
      have hb1 : Nat.blt (168 + X.2.2.1) (168 + X.2.2.1 + 1) = true := Nat.ble_eq_true_of_le (Nat.le_refl _)
      dsimp only [hH]
      rw [hb1, hn1, hp_l hS', hp_l hA, va_up_ne _ _ hne, va_up_self]
      show (bif Nat.beq 1 1 && Nat.beq 1 1 then (if (0 : Int32) < 0 ∨ (0 : Int32) < 0 ∨ nI (xlen X w) < 0 ∨ xlen X w < (0 : Int32).toNatClampNeg + (nI (xlen X w)).toNatClampNeg ∨ 2 * xlen X w < (0 : Int32).toNatClampNeg + (nI (xlen X w)).toNatClampNeg then none else some (_, am_set _ _ _)) else none) = _
      rw [nI_clamp (by omega), if_neg (by
        have e0 : (0 : Int32).toNatClampNeg = 0 := by decide
        have e1 : ¬ (0 : Int32) < 0 := by decide
        have e2 : ¬ nI (xlen X w) < 0 := nI_pos (by omega)
        rw [e0]
        rintro (h | h | h | h | h)
        · exact e1 h
        · exact e1 h
        · exact e2 h
        · omega
        · omega)]
      have eJ : va_up (va_up J (168 + X.2.2.1) (fun _ => 0)) (168 + X.2.2.1) (va_cpy (J (X.1 w)) (fun _ => 0) 0 0 (xlen X w)) = va_up J (168 + X.2.2.1) (va_cpy (J (X.1 w)) (fun _ => 0) 0 0 (xlen X w)) := by
        funext k
        by_cases e : k = 168 + X.2.2.1
        · rw [e, va_up_self, va_up_self]
        · rw [va_up_ne _ _ e, va_up_ne _ _ e, va_up_ne _ _ e]
      show some (_, (va_up _ _ _, _)) = some (_, (hp _ _ _, _))
      rw [hp_upl (J' := va_cpy (J (X.1 w)) (fun _ => 0) 0 0 (xlen X w)) (by rw [hp_l hA, va_up_self]; rfl), eJ]
    refine e_k 2 (f' := (50, [(3, .ref (168 + X.2.2.1)), (0, .ref (18 + 21 * w)), (1, .long v)], [.ref (168 + X.2.2.1), .ref (18 + 21 * w)])) rfl ?_
    refine e_1q (q := (21, 5, 5, .null, [(0, 201)])) (f' := (53, [(3, .ref (168 + X.2.2.1)), (0, .ref (18 + 21 * w)), (1, .long v)], [])) (h' := hX (xgrow X w) I (va_up J (168 + X.2.2.1) (va_cpy (J (X.1 w)) (fun _ => 0) 0 0 (xlen X w)))) rfl rfl ?_ ?_
    · show x_put 5 5 .null 50 [(3, .ref (168 + X.2.2.1)), (0, .ref (18 + 21 * w)), (1, .long v)] [.ref (168 + X.2.2.1), .ref (18 + 21 * w)] _ = _
      unfold x_put
      dsimp only [hH]
      rw [hp1, hp_obj (sS_p0 hw)]
      show some (_, (va_up _ _ _, _)) = some (_, (hp _ _ _, _))
      rw [hp_out hw]
      rfl
    refine e_sub (ls := [(0, .ref (18 + 21 * w)), (1, .long v)]) rfl ⟨rfl, rfl, trivial⟩ ?_
    exact E_Party_tail hw hb K
theorem E_Sh_zeroLongs_2 {X : MX} {a1 : Nat} {m1 : Nat} (hA_a1 : isArr X 1 a1 m1) : ∀ (fu : Nat) {l1 : Int32} {I : MI} {J : MJ} {r : (Unit)} {I' : MI} {J' : MJ}, f_Sh_zeroLongs_2 a1 m1 fu l1 I J = some (r, I', J') → am_E (gG L xs) d m_Sh_zeroLongs (18, [], []) (hX X I' J') P → am_E (gG L xs) d m_Sh_zeroLongs (2, [(0, .ref a1), (1, .int l1)], []) (hX X I J) P := by
  intro fu
  induction fu with
  | zero =>
    intros
    rename_i hb _
    cases hb
  | succ fu ih =>
    intro l1 I J r I' J' hb K
    unfold f_Sh_zeroLongs_2 at hb
    refine e_k 2 (f' := (4, [(0, .ref a1), (1, .int l1)], [.ref a1, .int l1])) rfl ?_
    refine r_alen rfl hA_a1.2.1 hA_a1.1 hA_a1.2.2 rfl ?_
    refine e_k 1 (f' := (if (nI m1) ≤ l1 then 18 else 8, [(0, .ref a1), (1, .int l1)], [])) rfl ?_
    refine e_if (fun c1 => ?_) (fun c1 => ?_)
    · replace hb := i_pos c1 hb
      refine e_sub (ls := []) rfl ⟨⟩ ?_
      obtain ⟨rfl, rfl, rfl⟩ := s_inj hb
      exact K
    · replace hb := i_neg c1 hb
      refine e_k 3 (f' := (11, [(0, .ref a1), (1, .int l1)], [.long 0, .int l1, .ref a1])) rfl ?_
      obtain ⟨o2, hb⟩ := ob_in hb
      obtain ⟨J3, eJ3, hb⟩ := p_nm hb
      refine r_last' rfl hA_a1.1 hA_a1.2.2 o2 eJ3 ?_
      refine e_k 2 (f' := (2, [(1, .int (l1 + 1)), (0, .ref a1)], [])) rfl ?_
      refine e_sub (ls := [(0, .ref a1), (1, .int (l1 + 1))]) rfl ⟨rfl, rfl, trivial⟩ ?_
      exact ih  hb K
theorem E_Sh_zeroLongs {a1 : Nat} {m1 : Nat} {X : MX} {I : MI} {J : MJ} {v : Unit} {I' : MI} {J' : MJ} (hA_a1 : isArr X 1 a1 m1) (hb : f_Sh_zeroLongs a1 m1 I J = some (v, I', J')) (K : P (.inl (none)) (hX X I' J')) : am_E (gG L xs) d m_Sh_zeroLongs (0, lv_args 0 [.ref a1], []) (hX X I J) P := by
  unfold f_Sh_zeroLongs at hb
  refine e_k 2 (f' := (2, [(1, .int 0), (0, .ref a1)], [])) rfl ?_
  refine e_sub (ls := [(0, .ref a1), (1, .int 0)]) rfl ⟨rfl, rfl, trivial⟩ ?_
  obtain ⟨u4, I4, J4, h4, hb⟩ := oc_call hb
  refine E_Sh_zeroLongs_2 hA_a1 gF  h4 ?_
  obtain ⟨rfl, rfl, rfl⟩ := s_inj hb
  exact e_r rfl rfl K
theorem E_Sh_zeroInts_2 {X : MX} {a1 : Nat} {m1 : Nat} (hA_a1 : isArr X 0 a1 m1) : ∀ (fu : Nat) {l1 : Int32} {I : MI} {J : MJ} {r : (Unit)} {I' : MI} {J' : MJ}, f_Sh_zeroInts_2 a1 m1 fu l1 I J = some (r, I', J') → am_E (gG L xs) d m_Sh_zeroInts (18, [], []) (hX X I' J') P → am_E (gG L xs) d m_Sh_zeroInts (2, [(0, .ref a1), (1, .int l1)], []) (hX X I J) P := by
  intro fu
  induction fu with
  | zero =>
    intros
    rename_i hb _
    cases hb
  | succ fu ih =>
    intro l1 I J r I' J' hb K
    unfold f_Sh_zeroInts_2 at hb
    refine e_k 2 (f' := (4, [(0, .ref a1), (1, .int l1)], [.ref a1, .int l1])) rfl ?_
    refine r_alen rfl hA_a1.2.1 hA_a1.1 hA_a1.2.2 rfl ?_
    refine e_k 1 (f' := (if (nI m1) ≤ l1 then 18 else 8, [(0, .ref a1), (1, .int l1)], [])) rfl ?_
    refine e_if (fun c1 => ?_) (fun c1 => ?_)
    · replace hb := i_pos c1 hb
      refine e_sub (ls := []) rfl ⟨⟩ ?_
      obtain ⟨rfl, rfl, rfl⟩ := s_inj hb
      exact K
    · replace hb := i_neg c1 hb
      refine e_k 3 (f' := (11, [(0, .ref a1), (1, .int l1)], [.int 0, .int l1, .ref a1])) rfl ?_
      obtain ⟨o2, hb⟩ := ob_in hb
      obtain ⟨I3, eI3, hb⟩ := p_nm hb
      refine r_iast' rfl hA_a1.1 hA_a1.2.2 o2 eI3 ?_
      refine e_k 2 (f' := (2, [(1, .int (l1 + 1)), (0, .ref a1)], [])) rfl ?_
      refine e_sub (ls := [(0, .ref a1), (1, .int (l1 + 1))]) rfl ⟨rfl, rfl, trivial⟩ ?_
      exact ih  hb K
theorem E_Sh_zeroInts {a1 : Nat} {m1 : Nat} {X : MX} {I : MI} {J : MJ} {v : Unit} {I' : MI} {J' : MJ} (hA_a1 : isArr X 0 a1 m1) (hb : f_Sh_zeroInts a1 m1 I J = some (v, I', J')) (K : P (.inl (none)) (hX X I' J')) : am_E (gG L xs) d m_Sh_zeroInts (0, lv_args 0 [.ref a1], []) (hX X I J) P := by
  unfold f_Sh_zeroInts at hb
  refine e_k 2 (f' := (2, [(1, .int 0), (0, .ref a1)], [])) rfl ?_
  refine e_sub (ls := [(0, .ref a1), (1, .int 0)]) rfl ⟨rfl, rfl, trivial⟩ ?_
  obtain ⟨u4, I4, J4, h4, hb⟩ := oc_call hb
  refine E_Sh_zeroInts_2 hA_a1 gF  h4 ?_
  obtain ⟨rfl, rfl, rfl⟩ := s_inj hb
  exact e_r rfl rfl K
theorem E_Sh_lengthOf {p1 : Int32} {X : MX} {I : MI} {J : MJ} {v : Int32} {I' : MI} {J' : MJ} (hb : f_Sh_lengthOf p1 I J = some (v, I', J')) (K : P (.inl (some (.int v))) (hX X I' J')) : am_E (gG L xs) d m_Sh_lengthOf (0, lv_args 0 [.int p1], []) (hX X I J) P := by
  unfold f_Sh_lengthOf at hb
  refine e_k 2 (f' := (if p1 < 0 then 20 else 4, [(0, .int p1)], [])) rfl ?_
  refine e_if (fun c1 => ?_) (fun c1 => ?_)
  · replace hb := i_pos c1 hb
    refine e_k 1 (f' := (21, [(0, .int p1)], [.int 0])) rfl ?_
    obtain ⟨rfl, rfl, rfl⟩ := s_inj hb
    exact e_r rfl rfl K
  · replace hb := i_neg c1 hb
    refine e_k 2 (f' := (8, [(0, .int p1)], [.ref 1000000000, .int p1])) rfl ?_
    refine r_tlen (k := 0) rfl (by decide) rfl ?_
    refine e_k 1 (f' := (if (nI 30) ≤ p1 then 20 else 12, [(0, .int p1)], [])) rfl ?_
    refine e_if (fun c2 => ?_) (fun c2 => ?_)
    · replace hb := i_pos c2 hb
      refine e_k 1 (f' := (21, [(0, .int p1)], [.int 0])) rfl ?_
      obtain ⟨rfl, rfl, rfl⟩ := s_inj hb
      exact e_r rfl rfl K
    · replace hb := i_neg c2 hb
      refine e_k 2 (f' := (16, [(0, .int p1)], [.int p1, .ref 1000000000])) rfl ?_
      obtain ⟨o3, hb⟩ := ob_in hb
      refine r_tald (k := 0) rfl (by decide) rfl o3 ?_
      refine e_k 1 (f' := (21, [(0, .int p1)], [.int (g_get 0 t_lengths (Int32.toNatClampNeg p1))])) rfl ?_
      obtain ⟨rfl, rfl, rfl⟩ := s_inj hb
      exact e_r rfl rfl K
theorem E_Model_thrown {X : MX} {I : MI} {J : MJ} {v : Int32} {I' : MI} {J' : MJ} (hb : f_Model_thrown  I J = some (v, I', J')) (K : P (.inl (some (.int v))) (hX X I' J')) : am_E (gG L xs) d m_Model_thrown (0, lv_args 0 [.ref 112], []) (hX X I J) P := by
  unfold f_Model_thrown at hb
  refine e_k 1 (f' := (1, [(0, .ref 112)], [.ref 112])) rfl ?_
  refine r_geti rfl (x_ltn rfl) rfl rfl ?_
  obtain ⟨rfl, rfl, rfl⟩ := s_inj hb
  exact e_r rfl rfl K
theorem E_Model_raise {p2 : Int32} {X : MX} {I : MI} {J : MJ} {v : Int32} {I' : MI} {J' : MJ} (hb : f_Model_raise p2 I J = some (v, I', J')) (K : P (.inl (some (.int v))) (hX X I' J')) : am_E (gG L xs) d m_Model_raise (0, lv_args 0 [.ref 112, .int p2], []) (hX X I J) P := by
  unfold f_Model_raise at hb
  refine e_k 2 (f' := (2, [(0, .ref 112), (1, .int p2)], [.int p2, .ref 112])) rfl ?_
  obtain ⟨I1, eI1, hb⟩ := p_nm hb
  refine r_puti' rfl (x_ltn rfl) rfl rfl eI1 ?_
  refine e_k 1 (f' := (6, [(0, .ref 112), (1, .int p2)], [.int 0])) rfl ?_
  obtain ⟨rfl, rfl, rfl⟩ := s_inj hb
  exact e_r rfl rfl K
theorem E_Model_reduced {p1 : Int64} {X : MX} {I : MI} {J : MJ} {v : Int64} {I' : MI} {J' : MJ} (hb : f_Model_reduced p1 I J = some (v, I', J')) (K : P (.inl (some (.long v))) (hX X I' J')) : am_E (gG L xs) d m_Model_reduced (0, lv_args 0 [.long p1], []) (hX X I J) P := by
  unfold f_Model_reduced at hb
  refine e_k 8 (f' := (11, [(2, .long ((p1 &&& 2305843009213693951) + ((Int64.toUInt64 p1 >>> (Int64.toUInt64 (Int32.toInt64 61) &&& Int64.toUInt64 63)).toInt64))), (0, .long p1)], [])) rfl ?_
  obtain ⟨x1, ex1, hb⟩ := p_nm hb
  rw [← ex1]
  refine e_k 4 (f' := (if (lg_cmp x1 2305843009213693951) < 0 then 27 else 19, [(2, .long x1), (0, .long p1)], [])) rfl ?_
  refine e_if (fun c2 => ?_) (fun c2 => ?_)
  · replace hb := i_pos c2 hb
    refine e_k 1 (f' := (28, [(2, .long x1), (0, .long p1)], [.long x1])) rfl ?_
    obtain ⟨rfl, rfl, rfl⟩ := s_inj hb
    exact e_r rfl rfl K
  · replace hb := i_neg c2 hb
    refine e_k 4 (f' := (28, [(2, .long x1), (0, .long p1)], [.long (x1 - 2305843009213693951)])) rfl ?_
    obtain ⟨rfl, rfl, rfl⟩ := s_inj hb
    exact e_r rfl rfl K
theorem E_Model_modulo {p1 : Int64} {X : MX} {I : MI} {J : MJ} {v : Int64} {I' : MI} {J' : MJ} (hb : f_Model_modulo p1 I J = some (v, I', J')) (K : P (.inl (some (.long v))) (hX X I' J')) : am_E (gG L xs) d m_Model_modulo (0, lv_args 0 [.long p1], []) (hX X I J) P := by
  unfold f_Model_modulo at hb
  refine e_k 2 (f' := (4, [(0, .long p1)], [.long 2305843009213693951, .long p1])) rfl ?_
  refine e_k 1 (f' := (5, [(0, .long p1)], [.long (p1 - p1 / 2305843009213693951 * 2305843009213693951)])) (am_lrem rfl (by decide)) ?_
  refine e_k 1 (f' := (6, [(2, .long (p1 - p1 / 2305843009213693951 * 2305843009213693951)), (0, .long p1)], [])) rfl ?_
  obtain ⟨x1, ex1, hb⟩ := p_nm hb
  rw [← ex1]
  refine e_k 4 (f' := (if 0 ≤ (lg_cmp x1 0) then 20 else 12, [(2, .long x1), (0, .long p1)], [])) rfl ?_
  refine e_if (fun c2 => ?_) (fun c2 => ?_)
  · replace hb := i_pos c2 hb
    refine e_k 1 (f' := (21, [(2, .long x1), (0, .long p1)], [.long x1])) rfl ?_
    obtain ⟨rfl, rfl, rfl⟩ := s_inj hb
    exact e_r rfl rfl K
  · replace hb := i_neg c2 hb
    refine e_k 4 (f' := (21, [(2, .long x1), (0, .long p1)], [.long (x1 + 2305843009213693951)])) rfl ?_
    obtain ⟨rfl, rfl, rfl⟩ := s_inj hb
    exact e_r rfl rfl K
theorem E_Model_plus {p1 : Int64} {p2 : Int64} {X : MX} {I : MI} {J : MJ} {v : Int64} {I' : MI} {J' : MJ} (hb : f_Model_plus p1 p2 I J = some (v, I', J')) (K : P (.inl (some (.long v))) (hX X I' J')) : am_E (gG L xs) (d + 1) m_Model_plus (0, lv_args 0 [.long p1, .long p2], []) (hX X I J) P := by
  unfold f_Model_plus at hb
  refine e_k 3 (f' := (3, [(0, .long p1), (2, .long p2)], [.long (p1 + p2)])) rfl ?_
  obtain ⟨v1, I1, J1, h1, hb⟩ := oc_call hb
  refine r_cs (z := m_Model_reduced) (As := [.long (p1 + p2)]) (rest := []) rfl rfl rfl rfl rfl rfl (E_Model_reduced  h1 ⟨_, rfl, ?_⟩)
  obtain ⟨rfl, rfl, rfl⟩ := s_inj hb
  exact e_r rfl rfl K
theorem E_Model_minus {p1 : Int64} {p2 : Int64} {X : MX} {I : MI} {J : MJ} {v : Int64} {I' : MI} {J' : MJ} (hb : f_Model_minus p1 p2 I J = some (v, I', J')) (K : P (.inl (some (.long v))) (hX X I' J')) : am_E (gG L xs) (d + 1) m_Model_minus (0, lv_args 0 [.long p1, .long p2], []) (hX X I J) P := by
  unfold f_Model_minus at hb
  refine e_k 5 (f' := (7, [(0, .long p1), (2, .long p2)], [.long ((p1 + 2305843009213693951) - p2)])) rfl ?_
  obtain ⟨v1, I1, J1, h1, hb⟩ := oc_call hb
  refine r_cs (z := m_Model_reduced) (As := [.long ((p1 + 2305843009213693951) - p2)]) (rest := []) rfl rfl rfl rfl rfl rfl (E_Model_reduced  h1 ⟨_, rfl, ?_⟩)
  obtain ⟨rfl, rfl, rfl⟩ := s_inj hb
  exact e_r rfl rfl K
theorem E_Model_times {p1 : Int64} {p2 : Int64} {X : MX} {I : MI} {J : MJ} {v : Int64} {I' : MI} {J' : MJ} (hb : f_Model_times p1 p2 I J = some (v, I', J')) (K : P (.inl (some (.long v))) (hX X I' J')) : am_E (gG L xs) (d + 2) m_Model_times (0, lv_args 0 [.long p1, .long p2], []) (hX X I J) P := by
  unfold f_Model_times at hb
  refine e_k 4 (f' := (7, [(4, .long (p1 &&& 2147483647)), (0, .long p1), (2, .long p2)], [])) rfl ?_
  obtain ⟨x1, ex1, hb⟩ := p_nm hb
  rw [← ex1]
  refine e_k 4 (f' := (13, [(6, .long ((Int64.toUInt64 p1 >>> (Int64.toUInt64 (Int32.toInt64 31) &&& Int64.toUInt64 63)).toInt64)), (4, .long x1), (0, .long p1), (2, .long p2)], [])) rfl ?_
  obtain ⟨x2, ex2, hb⟩ := p_nm hb
  rw [← ex2]
  refine e_k 4 (f' := (20, [(8, .long (p2 &&& 2147483647)), (6, .long x2), (4, .long x1), (0, .long p1), (2, .long p2)], [])) rfl ?_
  obtain ⟨x3, ex3, hb⟩ := p_nm hb
  rw [← ex3]
  refine e_k 4 (f' := (26, [(10, .long ((Int64.toUInt64 p2 >>> (Int64.toUInt64 (Int32.toInt64 31) &&& Int64.toUInt64 63)).toInt64)), (8, .long x3), (6, .long x2), (4, .long x1), (0, .long p1), (2, .long p2)], [])) rfl ?_
  obtain ⟨x4, ex4, hb⟩ := p_nm hb
  rw [← ex4]
  refine e_k 8 (f' := (39, [(12, .long ((x2 * x3) + (x1 * x4))), (10, .long x4), (8, .long x3), (6, .long x2), (4, .long x1), (0, .long p1), (2, .long p2)], [])) rfl ?_
  obtain ⟨x5, ex5, hb⟩ := p_nm hb
  rw [← ex5]
  refine e_k 5 (f' := (48, [(12, .long x5), (10, .long x4), (8, .long x3), (6, .long x2), (4, .long x1), (0, .long p1), (2, .long p2)], [.long ((2 * x2) * x4)])) rfl ?_
  obtain ⟨v6, I6, J6, h6, hb⟩ := oc_call hb
  refine r_cs (z := m_Model_reduced) (As := [.long ((2 * x2) * x4)]) (rest := []) rfl rfl rfl rfl rfl rfl (E_Model_reduced  h6 ⟨_, rfl, ?_⟩)
  refine e_k 3 (f' := (56, [(12, .long x5), (10, .long x4), (8, .long x3), (6, .long x2), (4, .long x1), (0, .long p1), (2, .long p2)], [.long ((Int64.toUInt64 x5 >>> (Int64.toUInt64 (Int32.toInt64 30) &&& Int64.toUInt64 63)).toInt64), .long v6])) rfl ?_
  obtain ⟨v7, I7, J7, h7, hb⟩ := oc_call hb
  refine r_cs (z := m_Model_plus) (As := [.long v6, .long ((Int64.toUInt64 x5 >>> (Int64.toUInt64 (Int32.toInt64 30) &&& Int64.toUInt64 63)).toInt64)]) (rest := []) rfl rfl rfl rfl rfl rfl (E_Model_plus  h7 ⟨_, rfl, ?_⟩)
  refine e_k 7 (f' := (72, [(14, .long v7), (12, .long x5), (10, .long x4), (8, .long x3), (6, .long x2), (4, .long x1), (0, .long p1), (2, .long p2)], [.long ((x5 &&& 1073741823) <<< ((Int32.toInt64 31) &&& 63)), .long v7])) rfl ?_
  obtain ⟨v8, I8, J8, h8, hb⟩ := oc_call hb
  refine r_cs (z := m_Model_reduced) (As := [.long ((x5 &&& 1073741823) <<< ((Int32.toInt64 31) &&& 63))]) (rest := [.long v7]) rfl rfl rfl rfl rfl rfl (E_Model_reduced  h8 ⟨_, rfl, ?_⟩)
  obtain ⟨v9, I9, J9, h9, hb⟩ := oc_call hb
  refine r_cs (z := m_Model_plus) (As := [.long v7, .long v8]) (rest := []) rfl rfl rfl rfl rfl rfl (E_Model_plus  h9 ⟨_, rfl, ?_⟩)
  refine e_k 5 (f' := (87, [(14, .long v9), (12, .long x5), (10, .long x4), (8, .long x3), (6, .long x2), (4, .long x1), (0, .long p1), (2, .long p2)], [.long (x1 * x3), .long v9])) rfl ?_
  obtain ⟨v10, I10, J10, h10, hb⟩ := oc_call hb
  refine r_cs (z := m_Model_reduced) (As := [.long (x1 * x3)]) (rest := [.long v9]) rfl rfl rfl rfl rfl rfl (E_Model_reduced  h10 ⟨_, rfl, ?_⟩)
  obtain ⟨v11, I11, J11, h11, hb⟩ := oc_call hb
  refine r_cs (z := m_Model_plus) (As := [.long v9, .long v10]) (rest := []) rfl rfl rfl rfl rfl rfl (E_Model_plus  h11 ⟨_, rfl, ?_⟩)
  obtain ⟨rfl, rfl, rfl⟩ := s_inj hb
  exact e_r rfl rfl K
theorem E_Model_turned {p1 : Int32} {p2 : Int32} {X : MX} {I : MI} {J : MJ} {v : Int32} {I' : MI} {J' : MJ} (hb : f_Model_turned p1 p2 I J = some (v, I', J')) (K : P (.inl (some (.int v))) (hX X I' J')) : am_E (gG L xs) d m_Model_turned (0, lv_args 0 [.int p1, .int p2], []) (hX X I J) P := by
  unfold f_Model_turned at hb
  refine e_k 9 (f' := (10, [(0, .int p1), (1, .int p2)], [.int (((Int32.toUInt32 p1 >>> (Int32.toUInt32 p2 &&& Int32.toUInt32 31)).toInt32) ||| (p1 <<< ((32 - p2) &&& 31)))])) rfl ?_
  obtain ⟨rfl, rfl, rfl⟩ := s_inj hb
  exact e_r rfl rfl K
theorem E_Model_digestOf_45 {X : MX} {p2 : Int64} {p3 : Int64} : ∀ (fu : Nat) {l6 : Int32} {I : MI} {J : MJ} {r : (Unit)} {I' : MI} {J' : MJ}, f_Model_digestOf_45 p2 p3 fu l6 I J = some (r, I', J') → am_E (gG L xs) d m_Model_digestOf (64, [(0, .ref 112), (5, .ref 160)], []) (hX X I' J') P → am_E (gG L xs) d m_Model_digestOf (45, [(0, .ref 112), (5, .ref 160), (6, .int l6)], []) (hX X I J) P := by
  intro fu
  induction fu with
  | zero =>
    intros
    rename_i hb _
    cases hb
  | succ fu ih =>
    intro l6 I J r I' J' hb K
    unfold f_Model_digestOf_45 at hb
    refine e_k 3 (f' := (if 15 ≤ l6 then 64 else 52, [(0, .ref 112), (5, .ref 160), (6, .int l6)], [])) rfl ?_
    refine e_if (fun c11 => ?_) (fun c11 => ?_)
    · replace hb := i_pos c11 hb
      refine e_sub (ls := [(0, .ref 112), (5, .ref 160)]) rfl ⟨rfl, rfl, trivial⟩ ?_
      obtain ⟨rfl, rfl, rfl⟩ := s_inj hb
      exact K
    · replace hb := i_neg c11 hb
      refine e_k 3 (f' := (57, [(0, .ref 112), (5, .ref 160), (6, .int l6)], [.int 0, .int l6, .ref 160])) rfl ?_
      obtain ⟨o12, hb⟩ := ob_in hb
      obtain ⟨I13, eI13, hb⟩ := p_nm hb
      refine r_iast' rfl (x_ltn rfl) rfl o12 eI13 ?_
      refine e_k 2 (f' := (45, [(6, .int (l6 + 1)), (0, .ref 112), (5, .ref 160)], [])) rfl ?_
      refine e_sub (ls := [(0, .ref 112), (5, .ref 160), (6, .int (l6 + 1))]) rfl ⟨rfl, rfl, rfl, trivial⟩ ?_
      exact ih  hb K
theorem E_Model_digestOf_76 {X : MX} {p2 : Int64} {p3 : Int64} : ∀ (fu : Nat) {l6 : Int32} {I : MI} {J : MJ} {r : (Unit)} {I' : MI} {J' : MJ}, f_Model_digestOf_76 p2 p3 fu l6 I J = some (r, I', J') → am_E (gG L xs) (d + 1) m_Model_digestOf (173, [(0, .ref 112), (5, .ref 160)], []) (hX X I' J') P → am_E (gG L xs) (d + 1) m_Model_digestOf (76, [(0, .ref 112), (5, .ref 160), (6, .int l6)], []) (hX X I J) P := by
  intro fu
  induction fu with
  | zero =>
    intros
    rename_i hb _
    cases hb
  | succ fu ih =>
    intro l6 I J r I' J' hb K
    unfold f_Model_digestOf_76 at hb
    refine e_k 3 (f' := (if 64 ≤ l6 then 173 else 83, [(0, .ref 112), (5, .ref 160), (6, .int l6)], [])) rfl ?_
    refine e_if (fun c17 => ?_) (fun c17 => ?_)
    · replace hb := i_pos c17 hb
      refine e_sub (ls := [(0, .ref 112), (5, .ref 160)]) rfl ⟨rfl, rfl, trivial⟩ ?_
      obtain ⟨rfl, rfl, rfl⟩ := s_inj hb
      exact K
    · replace hb := i_neg c17 hb
      refine e_k 4 (f' := (89, [(0, .ref 112), (5, .ref 160), (6, .int l6)], [.int (l6 - 2), .ref 160])) rfl ?_
      obtain ⟨o18, hb⟩ := ob_in hb
      refine r_iald rfl rfl (x_ltn rfl) rfl o18 ?_
      refine e_k 1 (f' := (92, [(7, .int (I 160 (Int32.toNatClampNeg (l6 - 2)))), (0, .ref 112), (5, .ref 160), (6, .int l6)], [])) rfl ?_
      obtain ⟨x19, ex19, hb⟩ := p_nm hb
      rw [← ex19]
      refine e_k 4 (f' := (99, [(7, .int x19), (0, .ref 112), (5, .ref 160), (6, .int l6)], [.int (l6 - 15), .ref 160])) rfl ?_
      obtain ⟨o20, hb⟩ := ob_in hb
      refine r_iald rfl rfl (x_ltn rfl) rfl o20 ?_
      refine e_k 1 (f' := (102, [(8, .int (I 160 (Int32.toNatClampNeg (l6 - 15)))), (7, .int x19), (0, .ref 112), (5, .ref 160), (6, .int l6)], [])) rfl ?_
      obtain ⟨x21, ex21, hb⟩ := p_nm hb
      rw [← ex21]
      refine e_k 4 (f' := (110, [(8, .int x21), (7, .int x19), (0, .ref 112), (5, .ref 160), (6, .int l6)], [.int 17, .int x19, .int l6, .ref 160])) rfl ?_
      obtain ⟨v22, I22, J22, h22, hb⟩ := oc_call hb
      refine r_cs (z := m_Model_turned) (As := [.int x19, .int 17]) (rest := [.int l6, .ref 160]) rfl rfl rfl rfl rfl rfl (E_Model_turned  h22 ⟨_, rfl, ?_⟩)
      refine e_k 2 (f' := (117, [(8, .int x21), (7, .int x19), (0, .ref 112), (5, .ref 160), (6, .int l6)], [.int 19, .int x19, .int v22, .int l6, .ref 160])) rfl ?_
      obtain ⟨v23, I23, J23, h23, hb⟩ := oc_call hb
      refine r_cs (z := m_Model_turned) (As := [.int x19, .int 19]) (rest := [.int v22, .int l6, .ref 160]) rfl rfl rfl rfl rfl rfl (E_Model_turned  h23 ⟨_, rfl, ?_⟩)
      refine e_k 9 (f' := (134, [(8, .int x21), (7, .int x19), (0, .ref 112), (5, .ref 160), (6, .int l6)], [.int (l6 - 7), .ref 160, .int ((v22 ^^^ v23) ^^^ ((Int32.toUInt32 x19 >>> (Int32.toUInt32 10 &&& Int32.toUInt32 31)).toInt32)), .int l6, .ref 160])) rfl ?_
      obtain ⟨o24, hb⟩ := ob_in hb
      refine r_iald rfl rfl (x_ltn rfl) rfl o24 ?_
      refine e_k 3 (f' := (140, [(8, .int x21), (7, .int x19), (0, .ref 112), (5, .ref 160), (6, .int l6)], [.int 7, .int x21, .int (((v22 ^^^ v23) ^^^ ((Int32.toUInt32 x19 >>> (Int32.toUInt32 10 &&& Int32.toUInt32 31)).toInt32)) + (I23 160 (Int32.toNatClampNeg (l6 - 7)))), .int l6, .ref 160])) rfl ?_
      obtain ⟨v25, I25, J25, h25, hb⟩ := oc_call hb
      refine r_cs (z := m_Model_turned) (As := [.int x21, .int 7]) (rest := [.int (((v22 ^^^ v23) ^^^ ((Int32.toUInt32 x19 >>> (Int32.toUInt32 10 &&& Int32.toUInt32 31)).toInt32)) + (I23 160 (Int32.toNatClampNeg (l6 - 7)))), .int l6, .ref 160]) rfl rfl rfl rfl rfl rfl (E_Model_turned  h25 ⟨_, rfl, ?_⟩)
      refine e_k 2 (f' := (147, [(8, .int x21), (7, .int x19), (0, .ref 112), (5, .ref 160), (6, .int l6)], [.int 18, .int x21, .int v25, .int (((v22 ^^^ v23) ^^^ ((Int32.toUInt32 x19 >>> (Int32.toUInt32 10 &&& Int32.toUInt32 31)).toInt32)) + (I23 160 (Int32.toNatClampNeg (l6 - 7)))), .int l6, .ref 160])) rfl ?_
      obtain ⟨v26, I26, J26, h26, hb⟩ := oc_call hb
      refine r_cs (z := m_Model_turned) (As := [.int x21, .int 18]) (rest := [.int v25, .int (((v22 ^^^ v23) ^^^ ((Int32.toUInt32 x19 >>> (Int32.toUInt32 10 &&& Int32.toUInt32 31)).toInt32)) + (I23 160 (Int32.toNatClampNeg (l6 - 7)))), .int l6, .ref 160]) rfl rfl rfl rfl rfl rfl (E_Model_turned  h26 ⟨_, rfl, ?_⟩)
      refine e_k 10 (f' := (164, [(8, .int x21), (7, .int x19), (0, .ref 112), (5, .ref 160), (6, .int l6)], [.int (l6 - 16), .ref 160, .int ((((v22 ^^^ v23) ^^^ ((Int32.toUInt32 x19 >>> (Int32.toUInt32 10 &&& Int32.toUInt32 31)).toInt32)) + (I23 160 (Int32.toNatClampNeg (l6 - 7)))) + ((v25 ^^^ v26) ^^^ ((Int32.toUInt32 x21 >>> (Int32.toUInt32 3 &&& Int32.toUInt32 31)).toInt32))), .int l6, .ref 160])) rfl ?_
      obtain ⟨o27, hb⟩ := ob_in hb
      refine r_iald rfl rfl (x_ltn rfl) rfl o27 ?_
      refine e_k 1 (f' := (166, [(8, .int x21), (7, .int x19), (0, .ref 112), (5, .ref 160), (6, .int l6)], [.int (((((v22 ^^^ v23) ^^^ ((Int32.toUInt32 x19 >>> (Int32.toUInt32 10 &&& Int32.toUInt32 31)).toInt32)) + (I23 160 (Int32.toNatClampNeg (l6 - 7)))) + ((v25 ^^^ v26) ^^^ ((Int32.toUInt32 x21 >>> (Int32.toUInt32 3 &&& Int32.toUInt32 31)).toInt32))) + (I26 160 (Int32.toNatClampNeg (l6 - 16)))), .int l6, .ref 160])) rfl ?_
      obtain ⟨o28, hb⟩ := ob_in hb
      obtain ⟨I29, eI29, hb⟩ := p_nm hb
      refine r_iast' rfl (x_ltn rfl) rfl o28 eI29 ?_
      refine e_k 2 (f' := (76, [(6, .int (l6 + 1)), (8, .int x21), (7, .int x19), (0, .ref 112), (5, .ref 160)], [])) rfl ?_
      refine e_sub (ls := [(0, .ref 112), (5, .ref 160), (6, .int (l6 + 1))]) rfl ⟨rfl, rfl, rfl, trivial⟩ ?_
      exact ih  hb K
theorem E_Model_digestOf_182 {X : MX} {p2 : Int64} {p3 : Int64} : ∀ (fu : Nat) {l7 : Int32} {I : MI} {J : MJ} {r : (Unit)} {I' : MI} {J' : MJ}, f_Model_digestOf_182 p2 p3 fu l7 I J = some (r, I', J') → am_E (gG L xs) d m_Model_digestOf (206, [(5, .ref 160), (6, .ref 161)], []) (hX X I' J') P → am_E (gG L xs) d m_Model_digestOf (182, [(5, .ref 160), (6, .ref 161), (7, .int l7)], []) (hX X I J) P := by
  intro fu
  induction fu with
  | zero =>
    intros
    rename_i hb _
    cases hb
  | succ fu ih =>
    intro l7 I J r I' J' hb K
    unfold f_Model_digestOf_182 at hb
    refine e_k 3 (f' := (if 8 ≤ l7 then 206 else 189, [(5, .ref 160), (6, .ref 161), (7, .int l7)], [])) rfl ?_
    refine e_if (fun c31 => ?_) (fun c31 => ?_)
    · replace hb := i_pos c31 hb
      refine e_sub (ls := [(5, .ref 160), (6, .ref 161)]) rfl ⟨rfl, rfl, trivial⟩ ?_
      obtain ⟨rfl, rfl, rfl⟩ := s_inj hb
      exact K
    · replace hb := i_neg c31 hb
      refine e_k 4 (f' := (198, [(5, .ref 160), (6, .ref 161), (7, .int l7)], [.int l7, .ref 1000000004, .int l7, .ref 161])) rfl ?_
      obtain ⟨o32, hb⟩ := ob_in hb
      refine r_tald (k := 4) rfl (by decide) rfl o32 ?_
      obtain ⟨o33, hb⟩ := ob_in hb
      obtain ⟨I34, eI34, hb⟩ := p_nm hb
      refine r_iast' rfl (x_ltn rfl) rfl o33 eI34 ?_
      refine e_k 2 (f' := (182, [(7, .int (l7 + 1)), (5, .ref 160), (6, .ref 161)], [])) rfl ?_
      refine e_sub (ls := [(5, .ref 160), (6, .ref 161), (7, .int (l7 + 1))]) rfl ⟨rfl, rfl, rfl, trivial⟩ ?_
      exact ih  hb K
theorem E_Model_digestOf_345 {X : MX} {p2 : Int64} {p3 : Int64} : ∀ (fu : Nat) {l7 : Int32} {l10 : Int32} {l11 : Int32} {l12 : Int32} {I : MI} {J : MJ} {r : (Unit)} {I' : MI} {J' : MJ}, f_Model_digestOf_345 p2 p3 fu l7 l10 l11 l12 I J = some (r, I', J') → am_E (gG L xs) d m_Model_digestOf (368, [(5, .ref 160), (6, .ref 161), (7, .int l7), (10, .int l10), (11, .int l11)], []) (hX X I' J') P → am_E (gG L xs) d m_Model_digestOf (345, [(5, .ref 160), (6, .ref 161), (7, .int l7), (10, .int l10), (11, .int l11), (12, .int l12)], []) (hX X I J) P := by
  intro fu
  induction fu with
  | zero =>
    intros
    rename_i hb _
    cases hb
  | succ fu ih =>
    intro l7 l10 l11 l12 I J r I' J' hb K
    unfold f_Model_digestOf_345 at hb
    refine e_k 2 (f' := (if l12 ≤ 0 then 368 else 350, [(5, .ref 160), (6, .ref 161), (7, .int l7), (10, .int l10), (11, .int l11), (12, .int l12)], [])) rfl ?_
    refine e_if (fun c58 => ?_) (fun c58 => ?_)
    · replace hb := i_pos c58 hb
      refine e_sub (ls := [(5, .ref 160), (6, .ref 161), (7, .int l7), (10, .int l10), (11, .int l11)]) rfl ⟨rfl, rfl, rfl, rfl, rfl, trivial⟩ ?_
      obtain ⟨rfl, rfl, rfl⟩ := s_inj hb
      exact K
    · replace hb := i_neg c58 hb
      refine e_k 6 (f' := (360, [(5, .ref 160), (6, .ref 161), (7, .int l7), (10, .int l10), (11, .int l11), (12, .int l12)], [.int (l12 - 1), .ref 161, .int l12, .ref 161])) rfl ?_
      obtain ⟨o59, hb⟩ := ob_in hb
      refine r_iald rfl rfl (x_ltn rfl) rfl o59 ?_
      obtain ⟨o60, hb⟩ := ob_in hb
      obtain ⟨I61, eI61, hb⟩ := p_nm hb
      refine r_iast' rfl (x_ltn rfl) rfl o60 eI61 ?_
      refine e_k 2 (f' := (345, [(12, .int (l12 + (-1))), (5, .ref 160), (6, .ref 161), (7, .int l7), (10, .int l10), (11, .int l11)], [])) rfl ?_
      refine e_sub (ls := [(5, .ref 160), (6, .ref 161), (7, .int l7), (10, .int l10), (11, .int l11), (12, .int (l12 + (-1)))]) rfl ⟨rfl, rfl, rfl, rfl, rfl, rfl, trivial⟩ ?_
      exact ih  hb K
theorem E_Model_digestOf_209 {X : MX} {p2 : Int64} {p3 : Int64} : ∀ (fu : Nat) {l7 : Int32} {I : MI} {J : MJ} {r : (Unit)} {I' : MI} {J' : MJ}, f_Model_digestOf_209 p2 p3 fu l7 I J = some (r, I', J') → am_E (gG L xs) (d + 1) m_Model_digestOf (392, [(6, .ref 161)], []) (hX X I' J') P → am_E (gG L xs) (d + 1) m_Model_digestOf (209, [(5, .ref 160), (6, .ref 161), (7, .int l7)], []) (hX X I J) P := by
  intro fu
  induction fu with
  | zero =>
    intros
    rename_i hb _
    cases hb
  | succ fu ih =>
    intro l7 I J r I' J' hb K
    unfold f_Model_digestOf_209 at hb
    refine e_k 3 (f' := (if 64 ≤ l7 then 392 else 216, [(5, .ref 160), (6, .ref 161), (7, .int l7)], [])) rfl ?_
    refine e_if (fun c36 => ?_) (fun c36 => ?_)
    · replace hb := i_pos c36 hb
      refine e_sub (ls := [(6, .ref 161)]) rfl ⟨rfl, trivial⟩ ?_
      obtain ⟨rfl, rfl, rfl⟩ := s_inj hb
      exact K
    · replace hb := i_neg c36 hb
      refine e_k 2 (f' := (219, [(5, .ref 160), (6, .ref 161), (7, .int l7)], [.int 4, .ref 161])) rfl ?_
      obtain ⟨o37, hb⟩ := ob_in hb
      refine r_iald rfl rfl (x_ltn rfl) rfl o37 ?_
      refine e_k 1 (f' := (222, [(8, .int (I 161 (Int32.toNatClampNeg 4))), (5, .ref 160), (6, .ref 161), (7, .int l7)], [])) rfl ?_
      obtain ⟨x38, ex38, hb⟩ := p_nm hb
      rw [← ex38]
      refine e_k 2 (f' := (225, [(8, .int x38), (5, .ref 160), (6, .ref 161), (7, .int l7)], [.int 0, .ref 161])) rfl ?_
      obtain ⟨o39, hb⟩ := ob_in hb
      refine r_iald rfl rfl (x_ltn rfl) rfl o39 ?_
      refine e_k 1 (f' := (228, [(9, .int (I 161 (Int32.toNatClampNeg 0))), (8, .int x38), (5, .ref 160), (6, .ref 161), (7, .int l7)], [])) rfl ?_
      obtain ⟨x40, ex40, hb⟩ := p_nm hb
      rw [← ex40]
      refine e_k 2 (f' := (232, [(9, .int x40), (8, .int x38), (5, .ref 160), (6, .ref 161), (7, .int l7)], [.int 7, .ref 161])) rfl ?_
      obtain ⟨o41, hb⟩ := ob_in hb
      refine r_iald rfl rfl (x_ltn rfl) rfl o41 ?_
      refine e_k 2 (f' := (237, [(9, .int x40), (8, .int x38), (5, .ref 160), (6, .ref 161), (7, .int l7)], [.int 6, .int x38, .int (I 161 (Int32.toNatClampNeg 7))])) rfl ?_
      obtain ⟨v42, I42, J42, h42, hb⟩ := oc_call hb
      refine r_cs (z := m_Model_turned) (As := [.int x38, .int 6]) (rest := [.int (I 161 (Int32.toNatClampNeg 7))]) rfl rfl rfl rfl rfl rfl (E_Model_turned  h42 ⟨_, rfl, ?_⟩)
      refine e_k 2 (f' := (244, [(9, .int x40), (8, .int x38), (5, .ref 160), (6, .ref 161), (7, .int l7)], [.int 11, .int x38, .int v42, .int (I 161 (Int32.toNatClampNeg 7))])) rfl ?_
      obtain ⟨v43, I43, J43, h43, hb⟩ := oc_call hb
      refine r_cs (z := m_Model_turned) (As := [.int x38, .int 11]) (rest := [.int v42, .int (I 161 (Int32.toNatClampNeg 7))]) rfl rfl rfl rfl rfl rfl (E_Model_turned  h43 ⟨_, rfl, ?_⟩)
      refine e_k 3 (f' := (252, [(9, .int x40), (8, .int x38), (5, .ref 160), (6, .ref 161), (7, .int l7)], [.int 25, .int x38, .int (v42 ^^^ v43), .int (I 161 (Int32.toNatClampNeg 7))])) rfl ?_
      obtain ⟨v44, I44, J44, h44, hb⟩ := oc_call hb
      refine r_cs (z := m_Model_turned) (As := [.int x38, .int 25]) (rest := [.int (v42 ^^^ v43), .int (I 161 (Int32.toNatClampNeg 7))]) rfl rfl rfl rfl rfl rfl (E_Model_turned  h44 ⟨_, rfl, ?_⟩)
      refine e_k 5 (f' := (262, [(9, .int x40), (8, .int x38), (5, .ref 160), (6, .ref 161), (7, .int l7)], [.int 5, .ref 161, .int x38, .int ((I 161 (Int32.toNatClampNeg 7)) + ((v42 ^^^ v43) ^^^ v44))])) rfl ?_
      obtain ⟨o45, hb⟩ := ob_in hb
      refine r_iald rfl rfl (x_ltn rfl) rfl o45 ?_
      refine e_k 6 (f' := (272, [(9, .int x40), (8, .int x38), (5, .ref 160), (6, .ref 161), (7, .int l7)], [.int 6, .ref 161, .int (x38 ^^^ (-1)), .int (x38 &&& (I44 161 (Int32.toNatClampNeg 5))), .int ((I 161 (Int32.toNatClampNeg 7)) + ((v42 ^^^ v43) ^^^ v44))])) rfl ?_
      obtain ⟨o46, hb⟩ := ob_in hb
      refine r_iald rfl rfl (x_ltn rfl) rfl o46 ?_
      refine e_k 5 (f' := (281, [(9, .int x40), (8, .int x38), (5, .ref 160), (6, .ref 161), (7, .int l7)], [.int l7, .ref 1000000003, .int (((I 161 (Int32.toNatClampNeg 7)) + ((v42 ^^^ v43) ^^^ v44)) + ((x38 &&& (I44 161 (Int32.toNatClampNeg 5))) ^^^ ((x38 ^^^ (-1)) &&& (I44 161 (Int32.toNatClampNeg 6)))))])) rfl ?_
      obtain ⟨o47, hb⟩ := ob_in hb
      refine r_tald (k := 3) rfl (by decide) rfl o47 ?_
      refine e_k 3 (f' := (287, [(9, .int x40), (8, .int x38), (5, .ref 160), (6, .ref 161), (7, .int l7)], [.int l7, .ref 160, .int ((((I 161 (Int32.toNatClampNeg 7)) + ((v42 ^^^ v43) ^^^ v44)) + ((x38 &&& (I44 161 (Int32.toNatClampNeg 5))) ^^^ ((x38 ^^^ (-1)) &&& (I44 161 (Int32.toNatClampNeg 6))))) + (g_get 0 t_rounds (Int32.toNatClampNeg l7)))])) rfl ?_
      obtain ⟨o48, hb⟩ := ob_in hb
      refine r_iald rfl rfl (x_ltn rfl) rfl o48 ?_
      refine e_k 2 (f' := (291, [(10, .int (((((I 161 (Int32.toNatClampNeg 7)) + ((v42 ^^^ v43) ^^^ v44)) + ((x38 &&& (I44 161 (Int32.toNatClampNeg 5))) ^^^ ((x38 ^^^ (-1)) &&& (I44 161 (Int32.toNatClampNeg 6))))) + (g_get 0 t_rounds (Int32.toNatClampNeg l7))) + (I44 160 (Int32.toNatClampNeg l7)))), (9, .int x40), (8, .int x38), (5, .ref 160), (6, .ref 161), (7, .int l7)], [])) rfl ?_
      obtain ⟨x49, ex49, hb⟩ := p_nm hb
      rw [← ex49]
      refine e_k 2 (f' := (294, [(10, .int x49), (9, .int x40), (8, .int x38), (5, .ref 160), (6, .ref 161), (7, .int l7)], [.int 2, .int x40])) rfl ?_
      obtain ⟨v50, I50, J50, h50, hb⟩ := oc_call hb
      refine r_cs (z := m_Model_turned) (As := [.int x40, .int 2]) (rest := []) rfl rfl rfl rfl rfl rfl (E_Model_turned  h50 ⟨_, rfl, ?_⟩)
      refine e_k 2 (f' := (301, [(10, .int x49), (9, .int x40), (8, .int x38), (5, .ref 160), (6, .ref 161), (7, .int l7)], [.int 13, .int x40, .int v50])) rfl ?_
      obtain ⟨v51, I51, J51, h51, hb⟩ := oc_call hb
      refine r_cs (z := m_Model_turned) (As := [.int x40, .int 13]) (rest := [.int v50]) rfl rfl rfl rfl rfl rfl (E_Model_turned  h51 ⟨_, rfl, ?_⟩)
      refine e_k 3 (f' := (309, [(10, .int x49), (9, .int x40), (8, .int x38), (5, .ref 160), (6, .ref 161), (7, .int l7)], [.int 22, .int x40, .int (v50 ^^^ v51)])) rfl ?_
      obtain ⟨v52, I52, J52, h52, hb⟩ := oc_call hb
      refine r_cs (z := m_Model_turned) (As := [.int x40, .int 22]) (rest := [.int (v50 ^^^ v51)]) rfl rfl rfl rfl rfl rfl (E_Model_turned  h52 ⟨_, rfl, ?_⟩)
      refine e_k 4 (f' := (318, [(10, .int x49), (9, .int x40), (8, .int x38), (5, .ref 160), (6, .ref 161), (7, .int l7)], [.int 1, .ref 161, .int x40, .int ((v50 ^^^ v51) ^^^ v52)])) rfl ?_
      obtain ⟨o53, hb⟩ := ob_in hb
      refine r_iald rfl rfl (x_ltn rfl) rfl o53 ?_
      refine e_k 4 (f' := (325, [(10, .int x49), (9, .int x40), (8, .int x38), (5, .ref 160), (6, .ref 161), (7, .int l7)], [.int 2, .ref 161, .int x40, .int (x40 &&& (I52 161 (Int32.toNatClampNeg 1))), .int ((v50 ^^^ v51) ^^^ v52)])) rfl ?_
      obtain ⟨o54, hb⟩ := ob_in hb
      refine r_iald rfl rfl (x_ltn rfl) rfl o54 ?_
      refine e_k 4 (f' := (331, [(10, .int x49), (9, .int x40), (8, .int x38), (5, .ref 160), (6, .ref 161), (7, .int l7)], [.int 1, .ref 161, .int ((x40 &&& (I52 161 (Int32.toNatClampNeg 1))) ^^^ (x40 &&& (I52 161 (Int32.toNatClampNeg 2)))), .int ((v50 ^^^ v51) ^^^ v52)])) rfl ?_
      obtain ⟨o55, hb⟩ := ob_in hb
      refine r_iald rfl rfl (x_ltn rfl) rfl o55 ?_
      refine e_k 2 (f' := (335, [(10, .int x49), (9, .int x40), (8, .int x38), (5, .ref 160), (6, .ref 161), (7, .int l7)], [.int 2, .ref 161, .int (I52 161 (Int32.toNatClampNeg 1)), .int ((x40 &&& (I52 161 (Int32.toNatClampNeg 1))) ^^^ (x40 &&& (I52 161 (Int32.toNatClampNeg 2)))), .int ((v50 ^^^ v51) ^^^ v52)])) rfl ?_
      obtain ⟨o56, hb⟩ := ob_in hb
      refine r_iald rfl rfl (x_ltn rfl) rfl o56 ?_
      refine e_k 4 (f' := (341, [(11, .int (((v50 ^^^ v51) ^^^ v52) + (((x40 &&& (I52 161 (Int32.toNatClampNeg 1))) ^^^ (x40 &&& (I52 161 (Int32.toNatClampNeg 2)))) ^^^ ((I52 161 (Int32.toNatClampNeg 1)) &&& (I52 161 (Int32.toNatClampNeg 2)))))), (10, .int x49), (9, .int x40), (8, .int x38), (5, .ref 160), (6, .ref 161), (7, .int l7)], [])) rfl ?_
      obtain ⟨x57, ex57, hb⟩ := p_nm hb
      rw [← ex57]
      refine e_k 2 (f' := (345, [(12, .int 7), (11, .int x57), (10, .int x49), (9, .int x40), (8, .int x38), (5, .ref 160), (6, .ref 161), (7, .int l7)], [])) rfl ?_
      refine e_sub (ls := [(5, .ref 160), (6, .ref 161), (7, .int l7), (10, .int x49), (11, .int x57), (12, .int 7)]) rfl ⟨rfl, rfl, rfl, rfl, rfl, rfl, trivial⟩ ?_
      obtain ⟨u62, I62, J62, h62, hb⟩ := oc_call hb
      refine E_Model_digestOf_345  gF  h62 ?_
      refine e_k 3 (f' := (372, [(5, .ref 160), (6, .ref 161), (7, .int l7), (10, .int x49), (11, .int x57)], [.int 4, .ref 161, .int 4, .ref 161])) rfl ?_
      obtain ⟨o63, hb⟩ := ob_in hb
      refine r_iald rfl rfl (x_ltn rfl) rfl o63 ?_
      refine e_k 2 (f' := (376, [(5, .ref 160), (6, .ref 161), (7, .int l7), (10, .int x49), (11, .int x57)], [.int ((I62 161 (Int32.toNatClampNeg 4)) + x49), .int 4, .ref 161])) rfl ?_
      obtain ⟨o64, hb⟩ := ob_in hb
      obtain ⟨I65, eI65, hb⟩ := p_nm hb
      refine r_iast' rfl (x_ltn rfl) rfl o64 eI65 ?_
      refine e_k 5 (f' := (385, [(5, .ref 160), (6, .ref 161), (7, .int l7), (10, .int x49), (11, .int x57)], [.int (x49 + x57), .int 0, .ref 161])) rfl ?_
      obtain ⟨o66, hb⟩ := ob_in hb
      obtain ⟨I67, eI67, hb⟩ := p_nm hb
      refine r_iast' rfl (x_ltn rfl) rfl o66 eI67 ?_
      refine e_k 2 (f' := (209, [(7, .int (l7 + 1)), (5, .ref 160), (6, .ref 161), (10, .int x49), (11, .int x57)], [])) rfl ?_
      refine e_sub (ls := [(5, .ref 160), (6, .ref 161), (7, .int (l7 + 1))]) rfl ⟨rfl, rfl, rfl, trivial⟩ ?_
      exact ih  hb K
theorem E_Model_digestOf_395 {X : MX} {p2 : Int64} {p3 : Int64} : ∀ (fu : Nat) {l7 : Int32} {I : MI} {J : MJ} {r : (Unit)} {I' : MI} {J' : MJ}, f_Model_digestOf_395 p2 p3 fu l7 I J = some (r, I', J') → am_E (gG L xs) d m_Model_digestOf (422, [], []) (hX X I' J') P → am_E (gG L xs) d m_Model_digestOf (395, [(6, .ref 161), (7, .int l7)], []) (hX X I J) P := by
  intro fu
  induction fu with
  | zero =>
    intros
    rename_i hb _
    cases hb
  | succ fu ih =>
    intro l7 I J r I' J' hb K
    unfold f_Model_digestOf_395 at hb
    refine e_k 3 (f' := (if 8 ≤ l7 then 422 else 402, [(6, .ref 161), (7, .int l7)], [])) rfl ?_
    refine e_if (fun c69 => ?_) (fun c69 => ?_)
    · replace hb := i_pos c69 hb
      refine e_sub (ls := []) rfl ⟨⟩ ?_
      obtain ⟨rfl, rfl, rfl⟩ := s_inj hb
      exact K
    · replace hb := i_neg c69 hb
      refine e_k 3 (f' := (407, [(6, .ref 161), (7, .int l7)], [.int l7, .ref 161, .int l7, .ref 161])) rfl ?_
      obtain ⟨o70, hb⟩ := ob_in hb
      refine r_iald rfl rfl (x_ltn rfl) rfl o70 ?_
      refine e_k 2 (f' := (413, [(6, .ref 161), (7, .int l7)], [.int l7, .ref 1000000004, .int (I 161 (Int32.toNatClampNeg l7)), .int l7, .ref 161])) rfl ?_
      obtain ⟨o71, hb⟩ := ob_in hb
      refine r_tald (k := 4) rfl (by decide) rfl o71 ?_
      refine e_k 1 (f' := (415, [(6, .ref 161), (7, .int l7)], [.int ((I 161 (Int32.toNatClampNeg l7)) + (g_get 0 t_first (Int32.toNatClampNeg l7))), .int l7, .ref 161])) rfl ?_
      obtain ⟨o72, hb⟩ := ob_in hb
      obtain ⟨I73, eI73, hb⟩ := p_nm hb
      refine r_iast' rfl (x_ltn rfl) rfl o72 eI73 ?_
      refine e_k 2 (f' := (395, [(7, .int (l7 + 1)), (6, .ref 161)], [])) rfl ?_
      refine e_sub (ls := [(6, .ref 161), (7, .int (l7 + 1))]) rfl ⟨rfl, rfl, trivial⟩ ?_
      exact ih  hb K
theorem E_Model_digestOf {p2 : Int64} {p3 : Int64} {X : MX} {I : MI} {J : MJ} {v : Unit} {I' : MI} {J' : MJ} (hb : f_Model_digestOf p2 p3 I J = some (v, I', J')) (K : P (.inl (none)) (hX X I' J')) : am_E (gG L xs) (d + 1) m_Model_digestOf (0, lv_args 0 [.ref 112, .long p2, .long p3], []) (hX X I J) P := by
  unfold f_Model_digestOf at hb
  refine e_k 1 (f' := (1, [(0, .ref 112), (1, .long p2), (3, .long p3)], [.ref 112])) rfl ?_
  refine r_getr rfl (x_ltn rfl) rfl rfl ?_
  refine e_k 7 (f' := (14, [(5, .ref 160), (0, .ref 112), (1, .long p2), (3, .long p3)], [.int (Int64.toInt32 (p2 >>> ((Int32.toInt64 32) &&& 63))), .int 0, .ref 160])) rfl ?_
  obtain ⟨o1, hb⟩ := ob_in hb
  obtain ⟨I2, eI2, hb⟩ := p_nm hb
  refine r_iast' rfl (x_ltn rfl) rfl o1 eI2 ?_
  refine e_k 4 (f' := (20, [(5, .ref 160), (0, .ref 112), (1, .long p2), (3, .long p3)], [.int (Int64.toInt32 p2), .int 1, .ref 160])) rfl ?_
  obtain ⟨o3, hb⟩ := ob_in hb
  obtain ⟨I4, eI4, hb⟩ := p_nm hb
  refine r_iast' rfl (x_ltn rfl) rfl o3 eI4 ?_
  refine e_k 6 (f' := (29, [(5, .ref 160), (0, .ref 112), (1, .long p2), (3, .long p3)], [.int (Int64.toInt32 (p3 >>> ((Int32.toInt64 32) &&& 63))), .int 2, .ref 160])) rfl ?_
  obtain ⟨o5, hb⟩ := ob_in hb
  obtain ⟨I6, eI6, hb⟩ := p_nm hb
  refine r_iast' rfl (x_ltn rfl) rfl o5 eI6 ?_
  refine e_k 4 (f' := (35, [(5, .ref 160), (0, .ref 112), (1, .long p2), (3, .long p3)], [.int (Int64.toInt32 p3), .int 3, .ref 160])) rfl ?_
  obtain ⟨o7, hb⟩ := ob_in hb
  obtain ⟨I8, eI8, hb⟩ := p_nm hb
  refine r_iast' rfl (x_ltn rfl) rfl o7 eI8 ?_
  refine e_k 3 (f' := (41, [(5, .ref 160), (0, .ref 112), (1, .long p2), (3, .long p3)], [.int (-2147483648), .int 4, .ref 160])) rfl ?_
  obtain ⟨o9, hb⟩ := ob_in hb
  obtain ⟨I10, eI10, hb⟩ := p_nm hb
  refine r_iast' rfl (x_ltn rfl) rfl o9 eI10 ?_
  refine e_k 2 (f' := (45, [(6, .int 5), (5, .ref 160), (0, .ref 112), (1, .long p2), (3, .long p3)], [])) rfl ?_
  refine e_sub (ls := [(0, .ref 112), (5, .ref 160), (6, .int 5)]) rfl ⟨rfl, rfl, rfl, trivial⟩ ?_
  obtain ⟨u14, I14, J14, h14, hb⟩ := oc_call hb
  refine E_Model_digestOf_45  gF  h14 ?_
  refine e_k 3 (f' := (71, [(0, .ref 112), (5, .ref 160)], [.int 128, .int 15, .ref 160])) rfl ?_
  obtain ⟨o15, hb⟩ := ob_in hb
  obtain ⟨I16, eI16, hb⟩ := p_nm hb
  refine r_iast' rfl (x_ltn rfl) rfl o15 eI16 ?_
  refine e_k 2 (f' := (76, [(6, .int 16), (0, .ref 112), (5, .ref 160)], [])) rfl ?_
  refine e_sub (ls := [(0, .ref 112), (5, .ref 160), (6, .int 16)]) rfl ⟨rfl, rfl, rfl, trivial⟩ ?_
  obtain ⟨u30, I30, J30, h30, hb⟩ := oc_call hb
  refine E_Model_digestOf_76  gF  h30 ?_
  refine e_k 1 (f' := (174, [(0, .ref 112), (5, .ref 160)], [.ref 112])) rfl ?_
  refine r_getr rfl (x_ltn rfl) rfl rfl ?_
  refine e_k 3 (f' := (182, [(7, .int 0), (6, .ref 161), (0, .ref 112), (5, .ref 160)], [])) rfl ?_
  refine e_sub (ls := [(5, .ref 160), (6, .ref 161), (7, .int 0)]) rfl ⟨rfl, rfl, rfl, trivial⟩ ?_
  obtain ⟨u35, I35, J35, h35, hb⟩ := oc_call hb
  refine E_Model_digestOf_182  gF  h35 ?_
  refine e_k 2 (f' := (209, [(7, .int 0), (5, .ref 160), (6, .ref 161)], [])) rfl ?_
  refine e_sub (ls := [(5, .ref 160), (6, .ref 161), (7, .int 0)]) rfl ⟨rfl, rfl, rfl, trivial⟩ ?_
  obtain ⟨u68, I68, J68, h68, hb⟩ := oc_call hb
  refine E_Model_digestOf_209  gF  h68 ?_
  refine e_k 2 (f' := (395, [(7, .int 0), (6, .ref 161)], [])) rfl ?_
  refine e_sub (ls := [(6, .ref 161), (7, .int 0)]) rfl ⟨rfl, rfl, trivial⟩ ?_
  obtain ⟨u74, I74, J74, h74, hb⟩ := oc_call hb
  refine E_Model_digestOf_395  gF  h74 ?_
  obtain ⟨rfl, rfl, rfl⟩ := s_inj hb
  exact e_r rfl rfl K
end AUTO
