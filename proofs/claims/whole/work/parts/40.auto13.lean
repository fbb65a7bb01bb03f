section AUTO
variable {L : Nat} {xs : Nat → Int32} {d : Nat} {P : am_R → am_H → Prop}
theorem E_Row_at {r1 : Nat} {b1 : Nat} {m1 : Nat} {p2 : Int32} {X : MX} {I : MI} {J : MJ} {v : Int32} {I' : MI} {J' : MJ} (hR_r1 : isRw X r1 b1 m1) (hb : f_Row_at r1 b1 m1 p2 I J = some (v, I', J')) (K : P (.inl (some (.int v))) (hX X I' J')) : am_E (gG L xs) d m_Row_at (0, lv_args 0 [.ref r1, .int p2], []) (hX X I J) P := by
  unfold f_Row_at at hb
  refine e_k 2 (f' := (if p2 < 0 then 30 else 4, [(0, .ref r1), (1, .int p2)], [])) rfl ?_
  refine e_if (fun c1 => ?_) (fun c1 => ?_)
  · replace hb := i_pos c1 hb
    refine e_k 1 (f' := (31, [(0, .ref r1), (1, .int p2)], [.int (-1)])) rfl ?_
    obtain ⟨rfl, rfl, rfl⟩ := s_inj hb
    exact e_r rfl rfl K
  · replace hb := i_neg c1 hb
    refine e_k 2 (f' := (6, [(0, .ref r1), (1, .int p2)], [.ref r1, .int p2])) rfl ?_
    refine r_geti rfl hR_r1.1 hR_r1.2.1 rfl ?_
    refine e_k 1 (f' := (if (I r1 1) ≤ p2 then 30 else 12, [(0, .ref r1), (1, .int p2)], [])) rfl ?_
    refine e_if (fun c2 => ?_) (fun c2 => ?_)
    · replace hb := i_pos c2 hb
      refine e_k 1 (f' := (31, [(0, .ref r1), (1, .int p2)], [.int (-1)])) rfl ?_
      obtain ⟨rfl, rfl, rfl⟩ := s_inj hb
      exact e_r rfl rfl K
    · replace hb := i_neg c2 hb
      refine e_k 2 (f' := (14, [(0, .ref r1), (1, .int p2)], [.ref r1, .int p2])) rfl ?_
      refine r_getr rfl hR_r1.1 hR_r1.2.1 rfl ?_
      refine r_alen rfl hR_r1.2.2.2.1 hR_r1.2.2.1 hR_r1.2.2.2.2.1 rfl ?_
      refine e_k 1 (f' := (if (nI m1) ≤ p2 then 30 else 21, [(0, .ref r1), (1, .int p2)], [])) rfl ?_
      refine e_if (fun c3 => ?_) (fun c3 => ?_)
      · replace hb := i_pos c3 hb
        refine e_k 1 (f' := (31, [(0, .ref r1), (1, .int p2)], [.int (-1)])) rfl ?_
        obtain ⟨rfl, rfl, rfl⟩ := s_inj hb
        exact e_r rfl rfl K
      · replace hb := i_neg c3 hb
        refine e_k 1 (f' := (22, [(0, .ref r1), (1, .int p2)], [.ref r1])) rfl ?_
        refine r_getr rfl hR_r1.1 hR_r1.2.1 rfl ?_
        refine e_k 1 (f' := (26, [(0, .ref r1), (1, .int p2)], [.int p2, .ref b1])) rfl ?_
        obtain ⟨o4, hb⟩ := ob_in hb
        refine r_iald rfl hR_r1.2.2.2.1 hR_r1.2.2.1 hR_r1.2.2.2.2.1 o4 ?_
        refine e_k 1 (f' := (31, [(0, .ref r1), (1, .int p2)], [.int (I b1 (Int32.toNatClampNeg p2))])) rfl ?_
        obtain ⟨rfl, rfl, rfl⟩ := s_inj hb
        exact e_r rfl rfl K
theorem E_Row_add {r1 : Nat} {b1 : Nat} {m1 : Nat} {p2 : Int32} {X : MX} {I : MI} {J : MJ} {v : Unit} {I' : MI} {J' : MJ} (hR_r1 : isRw X r1 b1 m1) (hb : f_Row_add r1 b1 m1 p2 I J = some (v, I', J')) (K : P (.inl (none)) (hX X I' J')) : am_E (gG L xs) d m_Row_add (0, lv_args 0 [.ref r1, .int p2], []) (hX X I J) P := by
  unfold f_Row_add at hb
  refine e_k 1 (f' := (1, [(0, .ref r1), (1, .int p2)], [.ref r1])) rfl ?_
  refine r_geti rfl hR_r1.1 hR_r1.2.1 rfl ?_
  refine e_k 1 (f' := (5, [(0, .ref r1), (1, .int p2)], [.ref r1, .int (I r1 1)])) rfl ?_
  refine r_getr rfl hR_r1.1 hR_r1.2.1 rfl ?_
  refine r_alen rfl hR_r1.2.2.2.1 hR_r1.2.2.1 hR_r1.2.2.2.2.1 rfl ?_
  refine e_k 1 (f' := (if (nI m1) ≤ (I r1 1) then 36 else 12, [(0, .ref r1), (1, .int p2)], [])) rfl ?_
  refine e_if (fun c1 => ?_) (fun c1 => ?_)
  · replace hb := i_pos c1 hb
    obtain ⟨rfl, rfl, rfl⟩ := s_inj hb
    exact e_r rfl rfl K
  · replace hb := i_neg c1 hb
    refine e_k 1 (f' := (13, [(0, .ref r1), (1, .int p2)], [.ref r1])) rfl ?_
    refine r_getr rfl hR_r1.1 hR_r1.2.1 rfl ?_
    refine e_k 1 (f' := (17, [(0, .ref r1), (1, .int p2)], [.ref r1, .ref b1])) rfl ?_
    refine r_geti rfl hR_r1.1 hR_r1.2.1 rfl ?_
    refine e_k 3 (f' := (25, [(0, .ref r1), (1, .int p2)], [.int (p2 &&& 255), .int (I r1 1), .ref b1])) rfl ?_
    obtain ⟨o2, hb⟩ := ob_in hb
    obtain ⟨I3, eI3, hb⟩ := p_nm hb
    refine r_iast' rfl hR_r1.2.2.1 hR_r1.2.2.2.2.1 o2 eI3 ?_
    refine e_k 2 (f' := (28, [(0, .ref r1), (1, .int p2)], [.ref r1, .ref r1])) rfl ?_
    refine r_geti rfl hR_r1.1 hR_r1.2.1 rfl ?_
    refine e_k 2 (f' := (33, [(0, .ref r1), (1, .int p2)], [.int ((I3 r1 1) + 1), .ref r1])) rfl ?_
    obtain ⟨I4, eI4, hb⟩ := p_nm hb
    refine r_puti' rfl hR_r1.1 hR_r1.2.1 rfl eI4 ?_
    obtain ⟨rfl, rfl, rfl⟩ := s_inj hb
    exact e_r rfl rfl K
theorem E_Row_change {r1 : Nat} {b1 : Nat} {m1 : Nat} {p2 : Int32} {p3 : Int32} {X : MX} {I : MI} {J : MJ} {v : Unit} {I' : MI} {J' : MJ} (hR_r1 : isRw X r1 b1 m1) (hb : f_Row_change r1 b1 m1 p2 p3 I J = some (v, I', J')) (K : P (.inl (none)) (hX X I' J')) : am_E (gG L xs) d m_Row_change (0, lv_args 0 [.ref r1, .int p2, .int p3], []) (hX X I J) P := by
  unfold f_Row_change at hb
  refine e_k 2 (f' := (if p2 < 0 then 32 else 4, [(0, .ref r1), (1, .int p2), (2, .int p3)], [])) rfl ?_
  refine e_if (fun c1 => ?_) (fun c1 => ?_)
  · replace hb := i_pos c1 hb
    obtain ⟨rfl, rfl, rfl⟩ := s_inj hb
    exact e_r rfl rfl K
  · replace hb := i_neg c1 hb
    refine e_k 2 (f' := (6, [(0, .ref r1), (1, .int p2), (2, .int p3)], [.ref r1, .int p2])) rfl ?_
    refine r_geti rfl hR_r1.1 hR_r1.2.1 rfl ?_
    refine e_k 1 (f' := (if (I r1 1) ≤ p2 then 32 else 12, [(0, .ref r1), (1, .int p2), (2, .int p3)], [])) rfl ?_
    refine e_if (fun c2 => ?_) (fun c2 => ?_)
    · replace hb := i_pos c2 hb
      obtain ⟨rfl, rfl, rfl⟩ := s_inj hb
      exact e_r rfl rfl K
    · replace hb := i_neg c2 hb
      refine e_k 2 (f' := (14, [(0, .ref r1), (1, .int p2), (2, .int p3)], [.ref r1, .int p2])) rfl ?_
      refine r_getr rfl hR_r1.1 hR_r1.2.1 rfl ?_
      refine r_alen rfl hR_r1.2.2.2.1 hR_r1.2.2.1 hR_r1.2.2.2.2.1 rfl ?_
      refine e_k 1 (f' := (if (nI m1) ≤ p2 then 32 else 21, [(0, .ref r1), (1, .int p2), (2, .int p3)], [])) rfl ?_
      refine e_if (fun c3 => ?_) (fun c3 => ?_)
      · replace hb := i_pos c3 hb
        obtain ⟨rfl, rfl, rfl⟩ := s_inj hb
        exact e_r rfl rfl K
      · replace hb := i_neg c3 hb
        refine e_k 1 (f' := (22, [(0, .ref r1), (1, .int p2), (2, .int p3)], [.ref r1])) rfl ?_
        refine r_getr rfl hR_r1.1 hR_r1.2.1 rfl ?_
        refine e_k 4 (f' := (31, [(0, .ref r1), (1, .int p2), (2, .int p3)], [.int (p3 &&& 255), .int p2, .ref b1])) rfl ?_
        obtain ⟨o4, hb⟩ := ob_in hb
        obtain ⟨I5, eI5, hb⟩ := p_nm hb
        refine r_iast' rfl hR_r1.2.2.1 hR_r1.2.2.2.2.1 o4 eI5 ?_
        obtain ⟨rfl, rfl, rfl⟩ := s_inj hb
        exact e_r rfl rfl K
theorem E_Row_addWord_30 {X : MX} {r1 : Nat} {b1 : Nat} {m1 : Nat} {p2 : Int64} {p3 : Int32} {p4 : Int32} {p5 : Int32} (hR_r1 : isRw X r1 b1 m1) : ∀ (fu : Nat) {l1 : Int64} {l3 : Int32} {l4 : Int32} {l5 : Int32} {l6 : Int32} {I : MI} {J : MJ} {r : (Int32 ⊕ (Unit))} {I' : MI} {J' : MJ}, f_Row_addWord_30 r1 b1 m1 p2 p3 p4 p5 fu l1 l3 l4 l5 l6 I J = some (r, I', J') → (∀ v, r = .inl v → P (.inl (some (.int v))) (hX X I' J')) → (∀ u, r = .inr u → am_E (gG L xs) d m_Row_addWord (72, [(0, .ref r1), (1, .long l1), (3, .int l3)], []) (hX X I' J') P) → am_E (gG L xs) d m_Row_addWord (30, [(0, .ref r1), (1, .long l1), (3, .int l3), (4, .int l4), (5, .int l5), (6, .int l6)], []) (hX X I J) P := by
  intro fu
  induction fu with
  | zero =>
    intros
    rename_i hb _ _
    cases hb
  | succ fu ih =>
    intro l1 l3 l4 l5 l6 I J r I' J' hb K1 K2
    unfold f_Row_addWord_30 at hb
    refine e_k 3 (f' := (if l3 ≤ l6 then 72 else 36, [(0, .ref r1), (1, .long l1), (3, .int l3), (4, .int l4), (5, .int l5), (6, .int l6)], [])) rfl ?_
    refine e_if (fun c4 => ?_) (fun c4 => ?_)
    · replace hb := i_pos c4 hb
      refine e_sub (ls := [(0, .ref r1), (1, .long l1), (3, .int l3)]) rfl ⟨rfl, rfl, rfl, trivial⟩ ?_
      obtain ⟨rfl, rfl, rfl⟩ := s_inj hb
      exact K2 _ rfl
    · replace hb := i_neg c4 hb
      refine e_k 9 (f' := (50, [(7, .int ((Int64.toInt32 ((Int64.toUInt64 l1 >>> (Int64.toUInt64 (Int32.toInt64 (8 * l6)) &&& Int64.toUInt64 63)).toInt64)) &&& 255)), (0, .ref r1), (1, .long l1), (3, .int l3), (4, .int l4), (5, .int l5), (6, .int l6)], [])) rfl ?_
      obtain ⟨x5, ex5, hb⟩ := p_nm hb
      rw [← ex5]
      refine e_k 3 (f' := (if x5 < l4 then 64 else 57, [(7, .int x5), (0, .ref r1), (1, .long l1), (3, .int l3), (4, .int l4), (5, .int l5), (6, .int l6)], [])) rfl ?_
      refine e_if (fun c6 => ?_) (fun c6 => ?_)
      · replace hb := i_pos c6 hb
        refine e_k 1 (f' := (65, [(7, .int x5), (0, .ref r1), (1, .long l1), (3, .int l3), (4, .int l4), (5, .int l5), (6, .int l6)], [.int 0])) rfl ?_
        obtain ⟨rfl, rfl, rfl⟩ := s_inj hb
        exact e_r rfl rfl (K1 _ rfl)
      · replace hb := i_neg c6 hb
        refine e_k 3 (f' := (if x5 ≤ l5 then 66 else 64, [(7, .int x5), (0, .ref r1), (1, .long l1), (3, .int l3), (4, .int l4), (5, .int l5), (6, .int l6)], [])) rfl ?_
        refine e_if (fun c7 => ?_) (fun c7 => ?_)
        · replace hb := i_pos c7 hb
          refine e_k 2 (f' := (30, [(6, .int (l6 + 1)), (7, .int x5), (0, .ref r1), (1, .long l1), (3, .int l3), (4, .int l4), (5, .int l5)], [])) rfl ?_
          refine e_sub (ls := [(0, .ref r1), (1, .long l1), (3, .int l3), (4, .int l4), (5, .int l5), (6, .int (l6 + 1))]) rfl ⟨rfl, rfl, rfl, rfl, rfl, rfl, trivial⟩ ?_
          exact ih  hb K1 K2
        · replace hb := i_neg c7 hb
          refine e_k 1 (f' := (65, [(7, .int x5), (0, .ref r1), (1, .long l1), (3, .int l3), (4, .int l4), (5, .int l5), (6, .int l6)], [.int 0])) rfl ?_
          obtain ⟨rfl, rfl, rfl⟩ := s_inj hb
          exact e_r rfl rfl (K1 _ rfl)
theorem E_Row_addWord_77 {X : MX} {r1 : Nat} {b1 : Nat} {m1 : Nat} {p2 : Int64} {p3 : Int32} {p4 : Int32} {p5 : Int32} (hR_r1 : isRw X r1 b1 m1) : ∀ (fu : Nat) {l1 : Int64} {l6 : Int32} {I : MI} {J : MJ} {r : (Unit)} {I' : MI} {J' : MJ}, f_Row_addWord_77 r1 b1 m1 p2 p3 p4 p5 fu l1 l6 I J = some (r, I', J') → am_E (gG L xs) (d + 1) m_Row_addWord (100, [], []) (hX X I' J') P → am_E (gG L xs) (d + 1) m_Row_addWord (77, [(0, .ref r1), (1, .long l1), (6, .int l6)], []) (hX X I J) P := by
  intro fu
  induction fu with
  | zero =>
    intros
    rename_i hb _
    cases hb
  | succ fu ih =>
    intro l1 l6 I J r I' J' hb K
    unfold f_Row_addWord_77 at hb
    refine e_k 2 (f' := (if l6 < 0 then 100 else 82, [(0, .ref r1), (1, .long l1), (6, .int l6)], [])) rfl ?_
    refine e_if (fun c10 => ?_) (fun c10 => ?_)
    · replace hb := i_pos c10 hb
      refine e_sub (ls := []) rfl ⟨⟩ ?_
      obtain ⟨rfl, rfl, rfl⟩ := s_inj hb
      exact K
    · replace hb := i_neg c10 hb
      refine e_k 7 (f' := (91, [(0, .ref r1), (1, .long l1), (6, .int l6)], [.int (Int64.toInt32 ((Int64.toUInt64 l1 >>> (Int64.toUInt64 (Int32.toInt64 (8 * l6)) &&& Int64.toUInt64 63)).toInt64)), .ref r1])) rfl ?_
      obtain ⟨v11, I11, J11, h11, hb⟩ := oc_call hb
      refine r_cv (z := m_Row_add) (As := [.int (Int64.toInt32 ((Int64.toUInt64 l1 >>> (Int64.toUInt64 (Int32.toInt64 (8 * l6)) &&& Int64.toUInt64 63)).toInt64))]) (rest := []) rfl rfl rfl rfl rfl hR_r1.1 hR_r1.2.1 rfl (E_Row_add hR_r1 h11 ⟨_, rfl, ?_⟩)
      refine e_k 2 (f' := (77, [(6, .int (l6 + (-1))), (0, .ref r1), (1, .long l1)], [])) rfl ?_
      refine e_sub (ls := [(0, .ref r1), (1, .long l1), (6, .int (l6 + (-1)))]) rfl ⟨rfl, rfl, rfl, trivial⟩ ?_
      exact ih  hb K
theorem E_Row_addWord {r1 : Nat} {b1 : Nat} {m1 : Nat} {p2 : Int64} {p3 : Int32} {p4 : Int32} {p5 : Int32} {X : MX} {I : MI} {J : MJ} {v : Int32} {I' : MI} {J' : MJ} (hR_r1 : isRw X r1 b1 m1) (hb : f_Row_addWord r1 b1 m1 p2 p3 p4 p5 I J = some (v, I', J')) (K : P (.inl (some (.int v))) (hX X I' J')) : am_E (gG L xs) (d + 1) m_Row_addWord (0, lv_args 0 [.ref r1, .long p2, .int p3, .int p4, .int p5], []) (hX X I J) P := by
  unfold f_Row_addWord at hb
  refine e_k 3 (f' := (if p3 < 1 then 25 else 5, [(0, .ref r1), (1, .long p2), (3, .int p3), (4, .int p4), (5, .int p5)], [])) rfl ?_
  refine e_if (fun c1 => ?_) (fun c1 => ?_)
  · replace hb := i_pos c1 hb
    refine e_k 1 (f' := (26, [(0, .ref r1), (1, .long p2), (3, .int p3), (4, .int p4), (5, .int p5)], [.int 0])) rfl ?_
    obtain ⟨rfl, rfl, rfl⟩ := s_inj hb
    exact e_r rfl rfl K
  · replace hb := i_neg c1 hb
    refine e_k 3 (f' := (if 8 < p3 then 25 else 11, [(0, .ref r1), (1, .long p2), (3, .int p3), (4, .int p4), (5, .int p5)], [])) rfl ?_
    refine e_if (fun c2 => ?_) (fun c2 => ?_)
    · replace hb := i_pos c2 hb
      refine e_k 1 (f' := (26, [(0, .ref r1), (1, .long p2), (3, .int p3), (4, .int p4), (5, .int p5)], [.int 0])) rfl ?_
      obtain ⟨rfl, rfl, rfl⟩ := s_inj hb
      exact e_r rfl rfl K
    · replace hb := i_neg c2 hb
      refine e_k 1 (f' := (12, [(0, .ref r1), (1, .long p2), (3, .int p3), (4, .int p4), (5, .int p5)], [.ref r1])) rfl ?_
      refine r_geti rfl hR_r1.1 hR_r1.2.1 rfl ?_
      refine e_k 3 (f' := (18, [(0, .ref r1), (1, .long p2), (3, .int p3), (4, .int p4), (5, .int p5)], [.ref r1, .int ((I r1 1) + p3)])) rfl ?_
      refine r_getr rfl hR_r1.1 hR_r1.2.1 rfl ?_
      refine r_alen rfl hR_r1.2.2.2.1 hR_r1.2.2.1 hR_r1.2.2.2.2.1 rfl ?_
      refine e_k 1 (f' := (if ((I r1 1) + p3) ≤ (nI m1) then 27 else 25, [(0, .ref r1), (1, .long p2), (3, .int p3), (4, .int p4), (5, .int p5)], [])) rfl ?_
      refine e_if (fun c3 => ?_) (fun c3 => ?_)
      · replace hb := i_pos c3 hb
        refine e_k 2 (f' := (30, [(6, .int 0), (0, .ref r1), (1, .long p2), (3, .int p3), (4, .int p4), (5, .int p5)], [])) rfl ?_
        refine e_sub (ls := [(0, .ref r1), (1, .long p2), (3, .int p3), (4, .int p4), (5, .int p5), (6, .int 0)]) rfl ⟨rfl, rfl, rfl, rfl, rfl, rfl, trivial⟩ ?_
        obtain ⟨q8, I8, J8, h8, hb⟩ := oc_call hb
        refine E_Row_addWord_30 hR_r1 gF  h8 (fun y8 ey8 => ?_) (fun u8 ey8 => ?_)
        · subst ey8
          replace hb := oe_l hb
          obtain ⟨rfl, rfl, rfl⟩ := s_inj hb
          exact K
        · subst ey8
          replace hb := oe_r hb
          refine e_k 4 (f' := (77, [(6, .int (p3 - 1)), (0, .ref r1), (1, .long p2), (3, .int p3)], [])) rfl ?_
          obtain ⟨x9, ex9, hb⟩ := p_nm hb
          rw [← ex9]
          refine e_sub (ls := [(0, .ref r1), (1, .long p2), (6, .int x9)]) rfl ⟨rfl, rfl, rfl, trivial⟩ ?_
          obtain ⟨u12, I12, J12, h12, hb⟩ := oc_call hb
          refine E_Row_addWord_77 hR_r1 gF  h12 ?_
          refine e_k 1 (f' := (101, [], [.int 1])) rfl ?_
          obtain ⟨rfl, rfl, rfl⟩ := s_inj hb
          exact e_r rfl rfl K
      · replace hb := i_neg c3 hb
        refine e_k 1 (f' := (26, [(0, .ref r1), (1, .long p2), (3, .int p3), (4, .int p4), (5, .int p5)], [.int 0])) rfl ?_
        obtain ⟨rfl, rfl, rfl⟩ := s_inj hb
        exact e_r rfl rfl K
theorem E_Row_target {r1 : Nat} {b1 : Nat} {m1 : Nat} {p2 : Int32} {X : MX} {I : MI} {J : MJ} {v : Int32} {I' : MI} {J' : MJ} (hR_r1 : isRw X r1 b1 m1) (hb : f_Row_target r1 b1 m1 p2 I J = some (v, I', J')) (K : P (.inl (some (.int v))) (hX X I' J')) : am_E (gG L xs) (d + 1) m_Row_target (0, lv_args 0 [.ref r1, .int p2], []) (hX X I J) P := by
  unfold f_Row_target at hb
  refine e_k 3 (f' := (5, [(0, .ref r1), (1, .int p2)], [.int p2, .ref r1, .int 256])) rfl ?_
  obtain ⟨v1, I1, J1, h1, hb⟩ := oc_call hb
  refine r_cv (z := m_Row_at) (As := [.int p2]) (rest := [.int 256]) rfl rfl rfl rfl rfl hR_r1.1 hR_r1.2.1 rfl (E_Row_at hR_r1 h1 ⟨_, rfl, ?_⟩)
  refine e_k 5 (f' := (13, [(0, .ref r1), (1, .int p2)], [.int (p2 + 1), .ref r1, .int (256 * v1)])) rfl ?_
  obtain ⟨v2, I2, J2, h2, hb⟩ := oc_call hb
  refine r_cv (z := m_Row_at) (As := [.int (p2 + 1)]) (rest := [.int (256 * v1)]) rfl rfl rfl rfl rfl hR_r1.1 hR_r1.2.1 rfl (E_Row_at hR_r1 h2 ⟨_, rfl, ?_⟩)
  refine e_k 1 (f' := (17, [(0, .ref r1), (1, .int p2)], [.int ((256 * v1) + v2)])) rfl ?_
  obtain ⟨rfl, rfl, rfl⟩ := s_inj hb
  exact e_r rfl rfl K
theorem E_Row_aim {r1 : Nat} {b1 : Nat} {m1 : Nat} {p2 : Int32} {p3 : Int32} {X : MX} {I : MI} {J : MJ} {v : Unit} {I' : MI} {J' : MJ} (hR_r1 : isRw X r1 b1 m1) (hb : f_Row_aim r1 b1 m1 p2 p3 I J = some (v, I', J')) (K : P (.inl (none)) (hX X I' J')) : am_E (gG L xs) (d + 1) m_Row_aim (0, lv_args 0 [.ref r1, .int p2, .int p3], []) (hX X I J) P := by
  unfold f_Row_aim at hb
  refine e_k 5 (f' := (6, [(0, .ref r1), (1, .int p2), (2, .int p3)], [.int ((Int32.toUInt32 p3 >>> (Int32.toUInt32 8 &&& Int32.toUInt32 31)).toInt32), .int p2, .ref r1])) rfl ?_
  obtain ⟨v1, I1, J1, h1, hb⟩ := oc_call hb
  refine r_cv (z := m_Row_change) (As := [.int p2, .int ((Int32.toUInt32 p3 >>> (Int32.toUInt32 8 &&& Int32.toUInt32 31)).toInt32)]) (rest := []) rfl rfl rfl rfl rfl hR_r1.1 hR_r1.2.1 rfl (E_Row_change hR_r1 h1 ⟨_, rfl, ?_⟩)
  refine e_k 5 (f' := (14, [(0, .ref r1), (1, .int p2), (2, .int p3)], [.int p3, .int (p2 + 1), .ref r1])) rfl ?_
  obtain ⟨v2, I2, J2, h2, hb⟩ := oc_call hb
  refine r_cv (z := m_Row_change) (As := [.int (p2 + 1), .int p3]) (rest := []) rfl rfl rfl rfl rfl hR_r1.1 hR_r1.2.1 rfl (E_Row_change hR_r1 h2 ⟨_, rfl, ?_⟩)
  obtain ⟨rfl, rfl, rfl⟩ := s_inj hb
  exact e_r rfl rfl K
theorem E_Row_longAt_5 {X : MX} {r1 : Nat} {b1 : Nat} {m1 : Nat} {p2 : Int32} (hR_r1 : isRw X r1 b1 m1) : ∀ (fu : Nat) {l1 : Int32} {l2 : Int64} {l4 : Int32} {I : MI} {J : MJ} {r : (Int64)} {I' : MI} {J' : MJ}, f_Row_longAt_5 r1 b1 m1 p2 fu l1 l2 l4 I J = some (r, I', J') → am_E (gG L xs) (d + 1) m_Row_longAt (37, [(2, .long r)], []) (hX X I' J') P → am_E (gG L xs) (d + 1) m_Row_longAt (5, [(0, .ref r1), (1, .int l1), (2, .long l2), (4, .int l4)], []) (hX X I J) P := by
  intro fu
  induction fu with
  | zero =>
    intros
    rename_i hb _
    cases hb
  | succ fu ih =>
    intro l1 l2 l4 I J r I' J' hb K
    unfold f_Row_longAt_5 at hb
    refine e_k 3 (f' := (if 8 ≤ l4 then 37 else 12, [(0, .ref r1), (1, .int l1), (2, .long l2), (4, .int l4)], [])) rfl ?_
    refine e_if (fun c1 => ?_) (fun c1 => ?_)
    · replace hb := i_pos c1 hb
      refine e_sub (ls := [(2, .long l2)]) rfl ⟨rfl, trivial⟩ ?_
      obtain ⟨rfl, rfl, rfl⟩ := s_inj hb
      exact K
    · replace hb := i_neg c1 hb
      refine e_k 7 (f' := (21, [(0, .ref r1), (1, .int l1), (2, .long l2), (4, .int l4)], [.int (l1 + l4), .ref r1, .long (l2 <<< ((Int32.toInt64 8) &&& 63))])) rfl ?_
      obtain ⟨v2, I2, J2, h2, hb⟩ := oc_call hb
      refine r_cv (z := m_Row_at) (As := [.int (l1 + l4)]) (rest := [.long (l2 <<< ((Int32.toInt64 8) &&& 63))]) rfl rfl rfl rfl rfl hR_r1.1 hR_r1.2.1 rfl (E_Row_at hR_r1 h2 ⟨_, rfl, ?_⟩)
      refine e_k 5 (f' := (31, [(2, .long ((l2 <<< ((Int32.toInt64 8) &&& 63)) ||| (Int32.toInt64 (v2 &&& 255)))), (0, .ref r1), (1, .int l1), (4, .int l4)], [])) rfl ?_
      obtain ⟨x3, ex3, hb⟩ := p_nm hb
      rw [← ex3]
      refine e_k 2 (f' := (5, [(4, .int (l4 + 1)), (2, .long x3), (0, .ref r1), (1, .int l1)], [])) rfl ?_
      refine e_sub (ls := [(0, .ref r1), (1, .int l1), (2, .long x3), (4, .int (l4 + 1))]) rfl ⟨rfl, rfl, rfl, rfl, trivial⟩ ?_
      exact ih  hb K
theorem E_Row_longAt {r1 : Nat} {b1 : Nat} {m1 : Nat} {p2 : Int32} {X : MX} {I : MI} {J : MJ} {v : Int64} {I' : MI} {J' : MJ} (hR_r1 : isRw X r1 b1 m1) (hb : f_Row_longAt r1 b1 m1 p2 I J = some (v, I', J')) (K : P (.inl (some (.long v))) (hX X I' J')) : am_E (gG L xs) (d + 1) m_Row_longAt (0, lv_args 0 [.ref r1, .int p2], []) (hX X I J) P := by
  unfold f_Row_longAt at hb
  refine e_k 4 (f' := (5, [(4, .int 0), (2, .long 0), (0, .ref r1), (1, .int p2)], [])) rfl ?_
  refine e_sub (ls := [(0, .ref r1), (1, .int p2), (2, .long 0), (4, .int 0)]) rfl ⟨rfl, rfl, rfl, rfl, trivial⟩ ?_
  obtain ⟨u4, I4, J4, h4, hb⟩ := oc_call hb
  refine E_Row_longAt_5 hR_r1 gF  h4 ?_
  refine e_k 1 (f' := (38, [(2, .long u4)], [.long u4])) rfl ?_
  obtain ⟨rfl, rfl, rfl⟩ := s_inj hb
  exact e_r rfl rfl K
theorem E_Row_copy_7 {X : MX} {r1 : Nat} {b1 : Nat} {m1 : Nat} {r2 : Nat} {b2 : Nat} {m2 : Nat} (hR_r1 : isRw X r1 b1 m1) (hR_r2 : isRw X r2 b2 m2) : ∀ (fu : Nat) {l2 : Int32} {I : MI} {J : MJ} {r : (Unit)} {I' : MI} {J' : MJ}, f_Row_copy_7 r1 b1 m1 r2 b2 m2 fu l2 I J = some (r, I', J') → am_E (gG L xs) (d + 1) m_Row_copy (30, [], []) (hX X I' J') P → am_E (gG L xs) (d + 1) m_Row_copy (7, [(0, .ref r1), (1, .ref r2), (2, .int l2)], []) (hX X I J) P := by
  intro fu
  induction fu with
  | zero =>
    intros
    rename_i hb _
    cases hb
  | succ fu ih =>
    intro l2 I J r I' J' hb K
    unfold f_Row_copy_7 at hb
    refine e_k 2 (f' := (9, [(0, .ref r1), (1, .ref r2), (2, .int l2)], [.ref r2, .int l2])) rfl ?_
    refine r_geti rfl hR_r2.1 hR_r2.2.1 rfl ?_
    refine e_k 1 (f' := (if (I r2 1) ≤ l2 then 30 else 15, [(0, .ref r1), (1, .ref r2), (2, .int l2)], [])) rfl ?_
    refine e_if (fun c2 => ?_) (fun c2 => ?_)
    · replace hb := i_pos c2 hb
      refine e_sub (ls := []) rfl ⟨⟩ ?_
      obtain ⟨rfl, rfl, rfl⟩ := s_inj hb
      exact K
    · replace hb := i_neg c2 hb
      refine e_k 3 (f' := (18, [(0, .ref r1), (1, .ref r2), (2, .int l2)], [.int l2, .ref r2, .ref r1])) rfl ?_
      obtain ⟨v3, I3, J3, h3, hb⟩ := oc_call hb
      refine r_cv (z := m_Row_at) (As := [.int l2]) (rest := [.ref r1]) rfl rfl rfl rfl rfl hR_r2.1 hR_r2.2.1 rfl (E_Row_at hR_r2 h3 ⟨_, rfl, ?_⟩)
      obtain ⟨v4, I4, J4, h4, hb⟩ := oc_call hb
      refine r_cv (z := m_Row_add) (As := [.int v3]) (rest := []) rfl rfl rfl rfl rfl hR_r1.1 hR_r1.2.1 rfl (E_Row_add hR_r1 h4 ⟨_, rfl, ?_⟩)
      refine e_k 2 (f' := (7, [(2, .int (l2 + 1)), (0, .ref r1), (1, .ref r2)], [])) rfl ?_
      refine e_sub (ls := [(0, .ref r1), (1, .ref r2), (2, .int (l2 + 1))]) rfl ⟨rfl, rfl, rfl, trivial⟩ ?_
      exact ih  hb K
theorem E_Row_copy {r1 : Nat} {b1 : Nat} {m1 : Nat} {r2 : Nat} {b2 : Nat} {m2 : Nat} {X : MX} {I : MI} {J : MJ} {v : Unit} {I' : MI} {J' : MJ} (hR_r1 : isRw X r1 b1 m1) (hR_r2 : isRw X r2 b2 m2) (hb : f_Row_copy r1 b1 m1 r2 b2 m2 I J = some (v, I', J')) (K : P (.inl (none)) (hX X I' J')) : am_E (gG L xs) (d + 1) m_Row_copy (0, lv_args 0 [.ref r1, .ref r2], []) (hX X I J) P := by
  unfold f_Row_copy at hb
  refine e_k 2 (f' := (2, [(0, .ref r1), (1, .ref r2)], [.int 0, .ref r1])) rfl ?_
  obtain ⟨I1, eI1, hb⟩ := p_nm hb
  refine r_puti' rfl hR_r1.1 hR_r1.2.1 rfl eI1 ?_
  refine e_k 2 (f' := (7, [(2, .int 0), (0, .ref r1), (1, .ref r2)], [])) rfl ?_
  refine e_sub (ls := [(0, .ref r1), (1, .ref r2), (2, .int 0)]) rfl ⟨rfl, rfl, rfl, trivial⟩ ?_
  obtain ⟨u5, I5, J5, h5, hb⟩ := oc_call hb
  refine E_Row_copy_7 hR_r1 hR_r2 gF  h5 ?_
  obtain ⟨rfl, rfl, rfl⟩ := s_inj hb
  exact e_r rfl rfl K
theorem E_Row_wipe {r1 : Nat} {b1 : Nat} {m1 : Nat} {X : MX} {I : MI} {J : MJ} {v : Unit} {I' : MI} {J' : MJ} (hR_r1 : isRw X r1 b1 m1) (hb : f_Row_wipe r1 b1 m1 I J = some (v, I', J')) (K : P (.inl (none)) (hX X I' J')) : am_E (gG L xs) d m_Row_wipe (0, lv_args 0 [.ref r1], []) (hX X I J) P := by
  unfold f_Row_wipe at hb
  refine e_k 2 (f' := (2, [(0, .ref r1)], [.int 0, .ref r1])) rfl ?_
  obtain ⟨I1, eI1, hb⟩ := p_nm hb
  refine r_puti' rfl hR_r1.1 hR_r1.2.1 rfl eI1 ?_
  obtain ⟨rfl, rfl, rfl⟩ := s_inj hb
  exact e_r rfl rfl K
theorem E_Stock_wipe {w1 : Nat} {X : MX} {I : MI} {J : MJ} {v : Unit} {I' : MI} {J' : MJ} (hw_w1 : w1 < 4) (hb : f_Stock_wipe w1 I J = some (v, I', J')) (K : P (.inl (none)) (hX X I' J')) : am_E (gG L xs) (d + 1) m_Stock_wipe (0, lv_args 0 [.ref (29 + 21 * w1)], []) (hX X I J) P := by
  unfold f_Stock_wipe at hb
  refine e_k 1 (f' := (1, [(0, .ref (29 + 21 * w1))], [.ref (29 + 21 * w1)])) rfl ?_
  refine r_getr rfl (x_ltp hw_w1 (by decide)) (sS_p11 hw_w1) rfl ?_
  obtain ⟨v1, I1, J1, h1, hb⟩ := oc_call hb
  refine r_cs (z := m_Sh_zeroInts) (As := [.ref (31 + 21 * w1)]) (rest := []) rfl rfl rfl rfl rfl rfl (E_Sh_zeroInts ⟨(x_ltp hw_w1 (by decide)), (x_t0 hw_w1 (by decide)), (sS_p13 hw_w1)⟩ h1 ⟨_, rfl, ?_⟩)
  refine e_k 2 (f' := (9, [(0, .ref (29 + 21 * w1))], [.int 0, .ref (29 + 21 * w1)])) rfl ?_
  obtain ⟨I2, eI2, hb⟩ := p_nm hb
  refine r_puti' rfl (x_ltp hw_w1 (by decide)) (sS_p11 hw_w1) rfl eI2 ?_
  refine e_k 2 (f' := (14, [(0, .ref (29 + 21 * w1))], [.int 0, .ref (29 + 21 * w1)])) rfl ?_
  obtain ⟨I3, eI3, hb⟩ := p_nm hb
  refine r_puti' rfl (x_ltp hw_w1 (by decide)) (sS_p11 hw_w1) rfl eI3 ?_
  refine e_k 2 (f' := (19, [(0, .ref (29 + 21 * w1))], [.int 0, .ref (29 + 21 * w1)])) rfl ?_
  obtain ⟨I4, eI4, hb⟩ := p_nm hb
  refine r_puti' rfl (x_ltp hw_w1 (by decide)) (sS_p11 hw_w1) rfl eI4 ?_
  refine e_k 2 (f' := (24, [(0, .ref (29 + 21 * w1))], [.int 0, .ref (29 + 21 * w1)])) rfl ?_
  obtain ⟨I5, eI5, hb⟩ := p_nm hb
  refine r_puti' rfl (x_ltp hw_w1 (by decide)) (sS_p11 hw_w1) rfl eI5 ?_
  obtain ⟨rfl, rfl, rfl⟩ := s_inj hb
  exact e_r rfl rfl K
theorem E_Stock_addInput {w1 : Nat} {p2 : Int64} {X : MX} {I : MI} {J : MJ} {v : Int32} {I' : MI} {J' : MJ} (hw_w1 : w1 < 4) (hb : f_Stock_addInput w1 p2 I J = some (v, I', J')) (K : P (.inl (some (.int v))) (hX X I' J')) : am_E (gG L xs) d m_Stock_addInput (0, lv_args 0 [.ref (29 + 21 * w1), .long p2], []) (hX X I J) P := by
  unfold f_Stock_addInput at hb
  refine e_k 1 (f' := (1, [(0, .ref (29 + 21 * w1)), (1, .long p2)], [.ref (29 + 21 * w1)])) rfl ?_
  refine r_geti rfl (x_ltp hw_w1 (by decide)) (sS_p11 hw_w1) rfl ?_
  refine e_k 1 (f' := (if (I (29 + 21 * w1) 2) < 0 then 19 else 7, [(0, .ref (29 + 21 * w1)), (1, .long p2)], [])) rfl ?_
  refine e_if (fun c1 => ?_) (fun c1 => ?_)
  · replace hb := i_pos c1 hb
    refine e_k 1 (f' := (20, [(0, .ref (29 + 21 * w1)), (1, .long p2)], [.int 0])) rfl ?_
    obtain ⟨rfl, rfl, rfl⟩ := s_inj hb
    exact e_r rfl rfl K
  · replace hb := i_neg c1 hb
    refine e_k 1 (f' := (8, [(0, .ref (29 + 21 * w1)), (1, .long p2)], [.ref (29 + 21 * w1)])) rfl ?_
    refine r_geti rfl (x_ltp hw_w1 (by decide)) (sS_p11 hw_w1) rfl ?_
    refine e_k 1 (f' := (12, [(0, .ref (29 + 21 * w1)), (1, .long p2)], [.ref (29 + 21 * w1), .int (I (29 + 21 * w1) 2)])) rfl ?_
    refine r_getr rfl (x_ltp hw_w1 (by decide)) (sS_p11 hw_w1) rfl ?_
    refine r_alen rfl (x_t0 hw_w1 (by decide)) (x_ltp hw_w1 (by decide)) (sS_p12 hw_w1) rfl ?_
    refine e_k 1 (f' := (if (I (29 + 21 * w1) 2) < (nI 100) then 21 else 19, [(0, .ref (29 + 21 * w1)), (1, .long p2)], [])) rfl ?_
    refine e_if (fun c2 => ?_) (fun c2 => ?_)
    · replace hb := i_pos c2 hb
      refine e_k 1 (f' := (22, [(0, .ref (29 + 21 * w1)), (1, .long p2)], [.ref (29 + 21 * w1)])) rfl ?_
      refine r_getr rfl (x_ltp hw_w1 (by decide)) (sS_p11 hw_w1) rfl ?_
      refine e_k 1 (f' := (26, [(0, .ref (29 + 21 * w1)), (1, .long p2)], [.ref (29 + 21 * w1), .ref (30 + 21 * w1)])) rfl ?_
      refine r_geti rfl (x_ltp hw_w1 (by decide)) (sS_p11 hw_w1) rfl ?_
      refine e_k 1 (f' := (30, [(0, .ref (29 + 21 * w1)), (1, .long p2)], [.long p2, .int (I (29 + 21 * w1) 2), .ref (30 + 21 * w1)])) rfl ?_
      obtain ⟨o3, hb⟩ := ob_in hb
      obtain ⟨J4, eJ4, hb⟩ := p_nm hb
      refine r_last' rfl (x_ltp hw_w1 (by decide)) (sS_p12 hw_w1) o3 eJ4 ?_
      refine e_k 2 (f' := (33, [(0, .ref (29 + 21 * w1)), (1, .long p2)], [.ref (29 + 21 * w1), .ref (29 + 21 * w1)])) rfl ?_
      refine r_geti rfl (x_ltp hw_w1 (by decide)) (sS_p11 hw_w1) rfl ?_
      refine e_k 2 (f' := (38, [(0, .ref (29 + 21 * w1)), (1, .long p2)], [.int ((I (29 + 21 * w1) 2) + 1), .ref (29 + 21 * w1)])) rfl ?_
      obtain ⟨I5, eI5, hb⟩ := p_nm hb
      refine r_puti' rfl (x_ltp hw_w1 (by decide)) (sS_p11 hw_w1) rfl eI5 ?_
      refine e_k 1 (f' := (42, [(0, .ref (29 + 21 * w1)), (1, .long p2)], [.int 1])) rfl ?_
      obtain ⟨rfl, rfl, rfl⟩ := s_inj hb
      exact e_r rfl rfl K
    · replace hb := i_neg c2 hb
      refine e_k 1 (f' := (20, [(0, .ref (29 + 21 * w1)), (1, .long p2)], [.int 0])) rfl ?_
      obtain ⟨rfl, rfl, rfl⟩ := s_inj hb
      exact e_r rfl rfl K
theorem E_Stock_inputsLeft {w1 : Nat} {X : MX} {I : MI} {J : MJ} {v : Int32} {I' : MI} {J' : MJ} (hw_w1 : w1 < 4) (hb : f_Stock_inputsLeft w1 I J = some (v, I', J')) (K : P (.inl (some (.int v))) (hX X I' J')) : am_E (gG L xs) d m_Stock_inputsLeft (0, lv_args 0 [.ref (29 + 21 * w1)], []) (hX X I J) P := by
  unfold f_Stock_inputsLeft at hb
  refine e_k 1 (f' := (1, [(0, .ref (29 + 21 * w1))], [.ref (29 + 21 * w1)])) rfl ?_
  refine r_geti rfl (x_ltp hw_w1 (by decide)) (sS_p11 hw_w1) rfl ?_
  refine e_k 1 (f' := (5, [(0, .ref (29 + 21 * w1))], [.ref (29 + 21 * w1), .int (I (29 + 21 * w1) 2)])) rfl ?_
  refine r_geti rfl (x_ltp hw_w1 (by decide)) (sS_p11 hw_w1) rfl ?_
  refine e_k 1 (f' := (9, [(0, .ref (29 + 21 * w1))], [.int ((I (29 + 21 * w1) 2) - (I (29 + 21 * w1) 3))])) rfl ?_
  obtain ⟨rfl, rfl, rfl⟩ := s_inj hb
  exact e_r rfl rfl K
theorem E_Stock_masksLeft {w1 : Nat} {X : MX} {I : MI} {J : MJ} {v : Int32} {I' : MI} {J' : MJ} (hw_w1 : w1 < 4) (hb : f_Stock_masksLeft w1 I J = some (v, I', J')) (K : P (.inl (some (.int v))) (hX X I' J')) : am_E (gG L xs) d m_Stock_masksLeft (0, lv_args 0 [.ref (29 + 21 * w1)], []) (hX X I J) P := by
  unfold f_Stock_masksLeft at hb
  refine e_k 1 (f' := (1, [(0, .ref (29 + 21 * w1))], [.ref (29 + 21 * w1)])) rfl ?_
  refine r_geti rfl (x_ltp hw_w1 (by decide)) (sS_p11 hw_w1) rfl ?_
  refine e_k 1 (f' := (5, [(0, .ref (29 + 21 * w1))], [.ref (29 + 21 * w1), .int (I (29 + 21 * w1) 4)])) rfl ?_
  refine r_geti rfl (x_ltp hw_w1 (by decide)) (sS_p11 hw_w1) rfl ?_
  refine e_k 1 (f' := (9, [(0, .ref (29 + 21 * w1))], [.int ((I (29 + 21 * w1) 4) - (I (29 + 21 * w1) 5))])) rfl ?_
  obtain ⟨rfl, rfl, rfl⟩ := s_inj hb
  exact e_r rfl rfl K
theorem E_Translator_startAnew_44 {X : MX} {p2 : Int32} : ∀ (fu : Nat) {l2 : Int32} {I : MI} {J : MJ} {r : (Unit)} {I' : MI} {J' : MJ}, f_Translator_startAnew_44 p2 fu l2 I J = some (r, I', J') → am_E (gG L xs) d m_Translator_startAnew (82, [], []) (hX X I' J') P → am_E (gG L xs) d m_Translator_startAnew (44, [(0, .ref 3), (2, .int l2)], []) (hX X I J) P := by
  intro fu
  induction fu with
  | zero =>
    intros
    rename_i hb _
    cases hb
  | succ fu ih =>
    intro l2 I J r I' J' hb K
    unfold f_Translator_startAnew_44 at hb
    refine e_k 2 (f' := (46, [(0, .ref 3), (2, .int l2)], [.ref 3, .int l2])) rfl ?_
    refine r_getr rfl (x_ltn rfl) rfl rfl ?_
    refine r_alen rfl rfl (x_ltn rfl) rfl rfl ?_
    refine e_k 1 (f' := (if (nI 10) ≤ l2 then 82 else 53, [(0, .ref 3), (2, .int l2)], [])) rfl ?_
    refine e_if (fun c9 => ?_) (fun c9 => ?_)
    · replace hb := i_pos c9 hb
      refine e_sub (ls := []) rfl ⟨⟩ ?_
      obtain ⟨rfl, rfl, rfl⟩ := s_inj hb
      exact K
    · replace hb := i_neg c9 hb
      refine e_k 2 (f' := (55, [(0, .ref 3), (2, .int l2)], [.ref 3, .int l2])) rfl ?_
      refine r_getr rfl (x_ltn rfl) rfl rfl ?_
      refine r_alen rfl rfl (x_ltn rfl) rfl rfl ?_
      refine e_k 1 (f' := (if (nI 10) ≤ l2 then 82 else 62, [(0, .ref 3), (2, .int l2)], [])) rfl ?_
      refine e_if (fun c10 => ?_) (fun c10 => ?_)
      · replace hb := i_pos c10 hb
        refine e_sub (ls := []) rfl ⟨⟩ ?_
        obtain ⟨rfl, rfl, rfl⟩ := s_inj hb
        exact K
      · replace hb := i_neg c10 hb
        refine e_k 1 (f' := (63, [(0, .ref 3), (2, .int l2)], [.ref 3])) rfl ?_
        refine r_getr rfl (x_ltn rfl) rfl rfl ?_
        refine e_k 2 (f' := (68, [(0, .ref 3), (2, .int l2)], [.int (-1), .int l2, .ref 8])) rfl ?_
        obtain ⟨o11, hb⟩ := ob_in hb
        obtain ⟨I12, eI12, hb⟩ := p_nm hb
        refine r_iast' rfl (x_ltn rfl) rfl o11 eI12 ?_
        refine e_k 1 (f' := (70, [(0, .ref 3), (2, .int l2)], [.ref 3])) rfl ?_
        refine r_getr rfl (x_ltn rfl) rfl rfl ?_
        refine e_k 2 (f' := (75, [(0, .ref 3), (2, .int l2)], [.int (-1), .int l2, .ref 9])) rfl ?_
        obtain ⟨o13, hb⟩ := ob_in hb
        obtain ⟨I14, eI14, hb⟩ := p_nm hb
        refine r_iast' rfl (x_ltn rfl) rfl o13 eI14 ?_
        refine e_k 2 (f' := (44, [(2, .int (l2 + 1)), (0, .ref 3)], [])) rfl ?_
        refine e_sub (ls := [(0, .ref 3), (2, .int (l2 + 1))]) rfl ⟨rfl, rfl, trivial⟩ ?_
        exact ih  hb K
theorem E_Translator_startAnew {p2 : Int32} {X : MX} {I : MI} {J : MJ} {v : Unit} {I' : MI} {J' : MJ} (hb : f_Translator_startAnew p2 I J = some (v, I', J')) (K : P (.inl (none)) (hX X I' J')) : am_E (gG L xs) (d + 1) m_Translator_startAnew (0, lv_args 0 [.ref 3, .int p2], []) (hX X I J) P := by
  unfold f_Translator_startAnew at hb
  refine e_k 2 (f' := (2, [(0, .ref 3), (1, .int p2)], [.int p2, .ref 3])) rfl ?_
  obtain ⟨I1, eI1, hb⟩ := p_nm hb
  refine r_puti' rfl (x_ltn rfl) rfl rfl eI1 ?_
  refine e_k 2 (f' := (7, [(0, .ref 3), (1, .int p2)], [.int 0, .ref 3])) rfl ?_
  obtain ⟨I2, eI2, hb⟩ := p_nm hb
  refine r_puti' rfl (x_ltn rfl) rfl rfl eI2 ?_
  refine e_k 2 (f' := (12, [(0, .ref 3), (1, .int p2)], [.int 0, .ref 3])) rfl ?_
  obtain ⟨I3, eI3, hb⟩ := p_nm hb
  refine r_puti' rfl (x_ltn rfl) rfl rfl eI3 ?_
  refine e_k 2 (f' := (17, [(0, .ref 3), (1, .int p2)], [.int 0, .ref 3])) rfl ?_
  obtain ⟨I4, eI4, hb⟩ := p_nm hb
  refine r_puti' rfl (x_ltn rfl) rfl rfl eI4 ?_
  refine e_k 2 (f' := (22, [(0, .ref 3), (1, .int p2)], [.int 0, .ref 3])) rfl ?_
  obtain ⟨I5, eI5, hb⟩ := p_nm hb
  refine r_putz' rfl (x_ltn rfl) rfl rfl (Or.inl rfl) eI5 ?_
  refine e_k 2 (f' := (27, [(0, .ref 3), (1, .int p2)], [.int 0, .ref 3])) rfl ?_
  obtain ⟨I6, eI6, hb⟩ := p_nm hb
  refine r_puti' rfl (x_ltn rfl) rfl rfl eI6 ?_
  refine e_k 2 (f' := (32, [(0, .ref 3), (1, .int p2)], [.int 0, .ref 3])) rfl ?_
  obtain ⟨I7, eI7, hb⟩ := p_nm hb
  refine r_puti' rfl (x_ltn rfl) rfl rfl eI7 ?_
  refine e_k 1 (f' := (36, [(0, .ref 3), (1, .int p2)], [.ref 3])) rfl ?_
  refine r_getr rfl (x_ltn rfl) rfl rfl ?_
  obtain ⟨v8, I8, J8, h8, hb⟩ := oc_call hb
  refine r_cv (z := m_Row_wipe) (As := []) (rest := []) rfl rfl rfl rfl rfl (x_ltn rfl) rfl rfl (E_Row_wipe row_6 h8 ⟨_, rfl, ?_⟩)
  refine e_k 2 (f' := (44, [(2, .int 0), (0, .ref 3), (1, .int p2)], [])) rfl ?_
  refine e_sub (ls := [(0, .ref 3), (2, .int 0)]) rfl ⟨rfl, rfl, trivial⟩ ?_
  obtain ⟨u15, I15, J15, h15, hb⟩ := oc_call hb
  refine E_Translator_startAnew_44  gF  h15 ?_
  obtain ⟨rfl, rfl, rfl⟩ := s_inj hb
  exact e_r rfl rfl K
theorem E_Translator_statements_2 {R : M3} {X : MX} (hR_0 : ∀ {I : MI} {J : MJ} {v : Int32} {I' : MI} {J' : MJ} {P : am_R → am_H → Prop}, R 0 0 0 I J = some (v, I', J') → P (.inl (none)) (hX X I' J') → am_E (gG L xs) d m_Translator_statements (0, lv_args 0 [.ref 3], []) (hX X I J) P) (hR_1 : ∀ {I : MI} {J : MJ} {v : Int32} {I' : MI} {J' : MJ} {P : am_R → am_H → Prop}, R 1 0 0 I J = some (v, I', J') → P (.inl (some (.int v))) (hX X I' J') → am_E (gG L xs) d m_Translator_statement (0, lv_args 0 [.ref 3], []) (hX X I J) P) (hR_2 : ∀ {a0 : Int32} {a1 : Int32} {I : MI} {J : MJ} {v : Int32} {I' : MI} {J' : MJ} {P : am_R → am_H → Prop}, R 2 a0 a1 I J = some (v, I', J') → P (.inl (none)) (hX X I' J') → am_E (gG L xs) d m_Translator_variableStatement (0, lv_args 0 [.ref 3, .int a0, .int a1], []) (hX X I J) P) (hR_3 : ∀ {a0 : Int32} {a1 : Int32} {I : MI} {J : MJ} {v : Int32} {I' : MI} {J' : MJ} {P : am_R → am_H → Prop}, R 3 a0 a1 I J = some (v, I', J') → P (.inl (none)) (hX X I' J') → am_E (gG L xs) d m_Translator_assign (0, lv_args 0 [.ref 3, .int a0, .int a1], []) (hX X I J) P) (hR_4 : ∀ {a0 : Int32} {a1 : Int32} {I : MI} {J : MJ} {v : Int32} {I' : MI} {J' : MJ} {P : am_R → am_H → Prop}, R 4 a0 a1 I J = some (v, I', J') → P (.inl (none)) (hX X I' J') → am_E (gG L xs) d m_Translator_arrayStatement (0, lv_args 0 [.ref 3, .int a0, .int a1], []) (hX X I J) P) (hR_5 : ∀ {a0 : Int32} {I : MI} {J : MJ} {v : Int32} {I' : MI} {J' : MJ} {P : am_R → am_H → Prop}, R 5 a0 0 I J = some (v, I', J') → P (.inl (none)) (hX X I' J') → am_E (gG L xs) d m_Translator_routine (0, lv_args 0 [.ref 3, .int a0], []) (hX X I J) P) (hR_6 : ∀ {a0 : Int32} {a1 : Int32} {I : MI} {J : MJ} {v : Int32} {I' : MI} {J' : MJ} {P : am_R → am_H → Prop}, R 6 a0 a1 I J = some (v, I', J') → P (.inl (none)) (hX X I' J') → am_E (gG L xs) d m_Translator_tell (0, lv_args 0 [.ref 3, .int a0, .int a1], []) (hX X I J) P) (hR_7 : ∀ {I : MI} {J : MJ} {v : Int32} {I' : MI} {J' : MJ} {P : am_R → am_H → Prop}, R 7 0 0 I J = some (v, I', J') → P (.inl (none)) (hX X I' J') → am_E (gG L xs) d m_Translator_choice (0, lv_args 0 [.ref 3], []) (hX X I J) P) (hR_8 : ∀ {I : MI} {J : MJ} {v : Int32} {I' : MI} {J' : MJ} {P : am_R → am_H → Prop}, R 8 0 0 I J = some (v, I', J') → P (.inl (none)) (hX X I' J') → am_E (gG L xs) d m_Translator_loop (0, lv_args 0 [.ref 3], []) (hX X I J) P) (hR_9 : ∀ {I : MI} {J : MJ} {v : Int32} {I' : MI} {J' : MJ} {P : am_R → am_H → Prop}, R 9 0 0 I J = some (v, I', J') → P (.inl (some (.int v))) (hX X I' J') → am_E (gG L xs) d m_Translator_expression (0, lv_args 0 [.ref 3], []) (hX X I J) P) (hR_10 : ∀ {I : MI} {J : MJ} {v : Int32} {I' : MI} {J' : MJ} {P : am_R → am_H → Prop}, R 10 0 0 I J = some (v, I', J') → P (.inl (some (.int v))) (hX X I' J') → am_E (gG L xs) d m_Translator_product (0, lv_args 0 [.ref 3], []) (hX X I J) P) (hR_11 : ∀ {I : MI} {J : MJ} {v : Int32} {I' : MI} {J' : MJ} {P : am_R → am_H → Prop}, R 11 0 0 I J = some (v, I', J') → P (.inl (some (.int v))) (hX X I' J') → am_E (gG L xs) d m_Translator_factor (0, lv_args 0 [.ref 3], []) (hX X I J) P) (hR_12 : ∀ {I : MI} {J : MJ} {v : Int32} {I' : MI} {J' : MJ} {P : am_R → am_H → Prop}, R 12 0 0 I J = some (v, I', J') → P (.inl (some (.int v))) (hX X I' J') → am_E (gG L xs) d m_Translator_atom (0, lv_args 0 [.ref 3], []) (hX X I J) P) (hR_13 : ∀ {I : MI} {J : MJ} {v : Int32} {I' : MI} {J' : MJ} {P : am_R → am_H → Prop}, R 13 0 0 I J = some (v, I', J') → P (.inl (none)) (hX X I' J') → am_E (gG L xs) d m_Translator_index (0, lv_args 0 [.ref 3], []) (hX X I J) P) : ∀ (fu : Nat) {l1 : Int32} {I : MI} {J : MJ} {r : (Unit ⊕ (Unit))} {I' : MI} {J' : MJ}, f_Translator_statements_2 R  fu l1 I J = some (r, I', J') → (∀ v, r = .inl v → P (.inl (none)) (hX X I' J')) → (∀ u, r = .inr u → am_E (gG L xs) (d + 1) m_Translator_statements (23, [], []) (hX X I' J') P) → am_E (gG L xs) (d + 1) m_Translator_statements (2, [(0, .ref 3), (1, .int l1)], []) (hX X I J) P := by
  intro fu
  induction fu with
  | zero =>
    intros
    rename_i hb _ _
    cases hb
  | succ fu ih =>
    intro l1 I J r I' J' hb K1 K2
    unfold f_Translator_statements_2 at hb
    refine e_k 3 (f' := (if 400 ≤ l1 then 23 else 9, [(0, .ref 3), (1, .int l1)], [])) rfl ?_
    refine e_if (fun c1 => ?_) (fun c1 => ?_)
    · replace hb := i_pos c1 hb
      refine e_sub (ls := []) rfl ⟨⟩ ?_
      obtain ⟨rfl, rfl, rfl⟩ := s_inj hb
      exact K2 _ rfl
    · replace hb := i_neg c1 hb
      refine e_k 1 (f' := (10, [(0, .ref 3), (1, .int l1)], [.ref 3])) rfl ?_
      obtain ⟨v2, I2, J2, h2, hb⟩ := oc_call hb
      refine r_cv (z := m_Translator_statement) (As := []) (rest := []) rfl rfl rfl rfl rfl (x_ltn rfl) rfl rfl (hR_1  h2 ⟨_, rfl, ?_⟩)
      refine e_k 1 (f' := (if ¬ v2 = 0 then 17 else 16, [(0, .ref 3), (1, .int l1)], [])) rfl ?_
      refine e_if (fun c3 => ?_) (fun c3 => ?_)
      · replace hb := i_pos c3 hb
        refine e_k 2 (f' := (2, [(1, .int (l1 + 1)), (0, .ref 3)], [])) rfl ?_
        refine e_sub (ls := [(0, .ref 3), (1, .int (l1 + 1))]) rfl ⟨rfl, rfl, trivial⟩ ?_
        exact ih  hb K1 K2
      · replace hb := i_neg c3 hb
        obtain ⟨rfl, rfl, rfl⟩ := s_inj hb
        exact e_r rfl rfl (K1 _ rfl)
theorem E_Translator_statements {R : M3} {X : MX} {I : MI} {J : MJ} {v : Unit} {I' : MI} {J' : MJ} (hR_0 : ∀ {I : MI} {J : MJ} {v : Int32} {I' : MI} {J' : MJ} {P : am_R → am_H → Prop}, R 0 0 0 I J = some (v, I', J') → P (.inl (none)) (hX X I' J') → am_E (gG L xs) d m_Translator_statements (0, lv_args 0 [.ref 3], []) (hX X I J) P) (hR_1 : ∀ {I : MI} {J : MJ} {v : Int32} {I' : MI} {J' : MJ} {P : am_R → am_H → Prop}, R 1 0 0 I J = some (v, I', J') → P (.inl (some (.int v))) (hX X I' J') → am_E (gG L xs) d m_Translator_statement (0, lv_args 0 [.ref 3], []) (hX X I J) P) (hR_2 : ∀ {a0 : Int32} {a1 : Int32} {I : MI} {J : MJ} {v : Int32} {I' : MI} {J' : MJ} {P : am_R → am_H → Prop}, R 2 a0 a1 I J = some (v, I', J') → P (.inl (none)) (hX X I' J') → am_E (gG L xs) d m_Translator_variableStatement (0, lv_args 0 [.ref 3, .int a0, .int a1], []) (hX X I J) P) (hR_3 : ∀ {a0 : Int32} {a1 : Int32} {I : MI} {J : MJ} {v : Int32} {I' : MI} {J' : MJ} {P : am_R → am_H → Prop}, R 3 a0 a1 I J = some (v, I', J') → P (.inl (none)) (hX X I' J') → am_E (gG L xs) d m_Translator_assign (0, lv_args 0 [.ref 3, .int a0, .int a1], []) (hX X I J) P) (hR_4 : ∀ {a0 : Int32} {a1 : Int32} {I : MI} {J : MJ} {v : Int32} {I' : MI} {J' : MJ} {P : am_R → am_H → Prop}, R 4 a0 a1 I J = some (v, I', J') → P (.inl (none)) (hX X I' J') → am_E (gG L xs) d m_Translator_arrayStatement (0, lv_args 0 [.ref 3, .int a0, .int a1], []) (hX X I J) P) (hR_5 : ∀ {a0 : Int32} {I : MI} {J : MJ} {v : Int32} {I' : MI} {J' : MJ} {P : am_R → am_H → Prop}, R 5 a0 0 I J = some (v, I', J') → P (.inl (none)) (hX X I' J') → am_E (gG L xs) d m_Translator_routine (0, lv_args 0 [.ref 3, .int a0], []) (hX X I J) P) (hR_6 : ∀ {a0 : Int32} {a1 : Int32} {I : MI} {J : MJ} {v : Int32} {I' : MI} {J' : MJ} {P : am_R → am_H → Prop}, R 6 a0 a1 I J = some (v, I', J') → P (.inl (none)) (hX X I' J') → am_E (gG L xs) d m_Translator_tell (0, lv_args 0 [.ref 3, .int a0, .int a1], []) (hX X I J) P) (hR_7 : ∀ {I : MI} {J : MJ} {v : Int32} {I' : MI} {J' : MJ} {P : am_R → am_H → Prop}, R 7 0 0 I J = some (v, I', J') → P (.inl (none)) (hX X I' J') → am_E (gG L xs) d m_Translator_choice (0, lv_args 0 [.ref 3], []) (hX X I J) P) (hR_8 : ∀ {I : MI} {J : MJ} {v : Int32} {I' : MI} {J' : MJ} {P : am_R → am_H → Prop}, R 8 0 0 I J = some (v, I', J') → P (.inl (none)) (hX X I' J') → am_E (gG L xs) d m_Translator_loop (0, lv_args 0 [.ref 3], []) (hX X I J) P) (hR_9 : ∀ {I : MI} {J : MJ} {v : Int32} {I' : MI} {J' : MJ} {P : am_R → am_H → Prop}, R 9 0 0 I J = some (v, I', J') → P (.inl (some (.int v))) (hX X I' J') → am_E (gG L xs) d m_Translator_expression (0, lv_args 0 [.ref 3], []) (hX X I J) P) (hR_10 : ∀ {I : MI} {J : MJ} {v : Int32} {I' : MI} {J' : MJ} {P : am_R → am_H → Prop}, R 10 0 0 I J = some (v, I', J') → P (.inl (some (.int v))) (hX X I' J') → am_E (gG L xs) d m_Translator_product (0, lv_args 0 [.ref 3], []) (hX X I J) P) (hR_11 : ∀ {I : MI} {J : MJ} {v : Int32} {I' : MI} {J' : MJ} {P : am_R → am_H → Prop}, R 11 0 0 I J = some (v, I', J') → P (.inl (some (.int v))) (hX X I' J') → am_E (gG L xs) d m_Translator_factor (0, lv_args 0 [.ref 3], []) (hX X I J) P) (hR_12 : ∀ {I : MI} {J : MJ} {v : Int32} {I' : MI} {J' : MJ} {P : am_R → am_H → Prop}, R 12 0 0 I J = some (v, I', J') → P (.inl (some (.int v))) (hX X I' J') → am_E (gG L xs) d m_Translator_atom (0, lv_args 0 [.ref 3], []) (hX X I J) P) (hR_13 : ∀ {I : MI} {J : MJ} {v : Int32} {I' : MI} {J' : MJ} {P : am_R → am_H → Prop}, R 13 0 0 I J = some (v, I', J') → P (.inl (none)) (hX X I' J') → am_E (gG L xs) d m_Translator_index (0, lv_args 0 [.ref 3], []) (hX X I J) P) (hb : f_Translator_statements R  I J = some (v, I', J')) (K : P (.inl (none)) (hX X I' J')) : am_E (gG L xs) (d + 1) m_Translator_statements (0, lv_args 0 [.ref 3], []) (hX X I J) P := by
  unfold f_Translator_statements at hb
  refine e_k 2 (f' := (2, [(1, .int 0), (0, .ref 3)], [])) rfl ?_
  refine e_sub (ls := [(0, .ref 3), (1, .int 0)]) rfl ⟨rfl, rfl, trivial⟩ ?_
  obtain ⟨q4, I4, J4, h4, hb⟩ := oc_call hb
  refine E_Translator_statements_2 hR_0 hR_1 hR_2 hR_3 hR_4 hR_5 hR_6 hR_7 hR_8 hR_9 hR_10 hR_11 hR_12 hR_13 gF  h4 (fun y4 ey4 => ?_) (fun u4 ey4 => ?_)
  · subst ey4
    replace hb := oe_l hb
    obtain ⟨rfl, rfl, rfl⟩ := s_inj hb
    exact K
  · subst ey4
    replace hb := oe_r hb
    obtain ⟨rfl, rfl, rfl⟩ := s_inj hb
    exact e_r rfl rfl K
theorem E_Translator_leave {X : MX} {I : MI} {J : MJ} {v : Unit} {I' : MI} {J' : MJ} (hb : f_Translator_leave  I J = some (v, I', J')) (K : P (.inl (none)) (hX X I' J')) : am_E (gG L xs) d m_Translator_leave (0, lv_args 0 [.ref 3], []) (hX X I J) P := by
  unfold f_Translator_leave at hb
  refine e_k 2 (f' := (2, [(0, .ref 3)], [.ref 3, .ref 3])) rfl ?_
  refine r_geti rfl (x_ltn rfl) rfl rfl ?_
  refine e_k 2 (f' := (7, [(0, .ref 3)], [.int ((I 3 6) - 1), .ref 3])) rfl ?_
  obtain ⟨I1, eI1, hb⟩ := p_nm hb
  refine r_puti' rfl (x_ltn rfl) rfl rfl eI1 ?_
  obtain ⟨rfl, rfl, rfl⟩ := s_inj hb
  exact e_r rfl rfl K
theorem E_Translator_look_2 {X : MX} : ∀ (fu : Nat) {l1 : Int32} {I : MI} {J : MJ} {r : (Unit)} {I' : MI} {J' : MJ}, f_Translator_look_2  fu l1 I J = some (r, I', J') → am_E (gG L xs) (d + 1) m_Translator_look (41, [(0, .ref 3)], []) (hX X I' J') P → am_E (gG L xs) (d + 1) m_Translator_look (2, [(0, .ref 3), (1, .int l1)], []) (hX X I J) P := by
  intro fu
  induction fu with
  | zero =>
    intros
    rename_i hb _
    cases hb
  | succ fu ih =>
    intro l1 I J r I' J' hb K
    unfold f_Translator_look_2 at hb
    refine e_k 3 (f' := (if 400 ≤ l1 then 41 else 9, [(0, .ref 3), (1, .int l1)], [])) rfl ?_
    refine e_if (fun c1 => ?_) (fun c1 => ?_)
    · replace hb := i_pos c1 hb
      refine e_sub (ls := [(0, .ref 3)]) rfl ⟨rfl, trivial⟩ ?_
      obtain ⟨rfl, rfl, rfl⟩ := s_inj hb
      exact K
    · replace hb := i_neg c1 hb
      refine e_k 1 (f' := (10, [(0, .ref 3), (1, .int l1)], [.ref 3])) rfl ?_
      refine r_getr rfl (x_ltn rfl) rfl rfl ?_
      refine e_k 1 (f' := (14, [(0, .ref 3), (1, .int l1)], [.ref 3, .ref 4])) rfl ?_
      refine r_geti rfl (x_ltn rfl) rfl rfl ?_
      obtain ⟨v2, I2, J2, h2, hb⟩ := oc_call hb
      refine r_cv (z := m_Row_at) (As := [.int (I 3 5)]) (rest := []) rfl rfl rfl rfl rfl (x_ltn rfl) rfl rfl (E_Row_at row_4 h2 ⟨_, rfl, ?_⟩)
      refine e_k 2 (f' := (if ¬ v2 = 32 then 41 else 25, [(0, .ref 3), (1, .int l1)], [])) rfl ?_
      refine e_if (fun c3 => ?_) (fun c3 => ?_)
      · replace hb := i_pos c3 hb
        refine e_sub (ls := [(0, .ref 3)]) rfl ⟨rfl, trivial⟩ ?_
        obtain ⟨rfl, rfl, rfl⟩ := s_inj hb
        exact K
      · replace hb := i_neg c3 hb
        refine e_k 2 (f' := (27, [(0, .ref 3), (1, .int l1)], [.ref 3, .ref 3])) rfl ?_
        refine r_geti rfl (x_ltn rfl) rfl rfl ?_
        refine e_k 2 (f' := (32, [(0, .ref 3), (1, .int l1)], [.int ((I2 3 5) + 1), .ref 3])) rfl ?_
        obtain ⟨I4, eI4, hb⟩ := p_nm hb
        refine r_puti' rfl (x_ltn rfl) rfl rfl eI4 ?_
        refine e_k 2 (f' := (2, [(1, .int (l1 + 1)), (0, .ref 3)], [])) rfl ?_
        refine e_sub (ls := [(0, .ref 3), (1, .int (l1 + 1))]) rfl ⟨rfl, rfl, trivial⟩ ?_
        exact ih  hb K
theorem E_Translator_look {X : MX} {I : MI} {J : MJ} {v : Int32} {I' : MI} {J' : MJ} (hb : f_Translator_look  I J = some (v, I', J')) (K : P (.inl (some (.int v))) (hX X I' J')) : am_E (gG L xs) (d + 1) m_Translator_look (0, lv_args 0 [.ref 3], []) (hX X I J) P := by
  unfold f_Translator_look at hb
  refine e_k 2 (f' := (2, [(1, .int 0), (0, .ref 3)], [])) rfl ?_
  refine e_sub (ls := [(0, .ref 3), (1, .int 0)]) rfl ⟨rfl, rfl, trivial⟩ ?_
  obtain ⟨u5, I5, J5, h5, hb⟩ := oc_call hb
  refine E_Translator_look_2  gF  h5 ?_
  refine e_k 1 (f' := (42, [(0, .ref 3)], [.ref 3])) rfl ?_
  refine r_geti rfl (x_ltn rfl) rfl rfl ?_
  refine e_k 1 (f' := (if (I5 3 8) = 0 then 52 else 48, [(0, .ref 3)], [])) rfl ?_
  refine e_if (fun c6 => ?_) (fun c6 => ?_)
  · replace hb := i_pos c6 hb
    refine e_k 1 (f' := (53, [(0, .ref 3)], [.ref 3])) rfl ?_
    refine r_getr rfl (x_ltn rfl) rfl rfl ?_
    refine e_k 1 (f' := (57, [(0, .ref 3)], [.ref 3, .ref 4])) rfl ?_
    refine r_geti rfl (x_ltn rfl) rfl rfl ?_
    obtain ⟨v7, I7, J7, h7, hb⟩ := oc_call hb
    refine r_cv (z := m_Row_at) (As := [.int (I5 3 5)]) (rest := []) rfl rfl rfl rfl rfl (x_ltn rfl) rfl rfl (E_Row_at row_4 h7 ⟨_, rfl, ?_⟩)
    obtain ⟨rfl, rfl, rfl⟩ := s_inj hb
    exact e_r rfl rfl K
  · replace hb := i_neg c6 hb
    refine e_k 2 (f' := (63, [(0, .ref 3)], [.int (-1)])) rfl ?_
    obtain ⟨rfl, rfl, rfl⟩ := s_inj hb
    exact e_r rfl rfl K
theorem E_Translator_behindNext_9 {X : MX} : ∀ (fu : Nat) {l1 : Int32} {l2 : Int32} {I : MI} {J : MJ} {r : (Int32)} {I' : MI} {J' : MJ}, f_Translator_behindNext_9  fu l1 l2 I J = some (r, I', J') → am_E (gG L xs) (d + 1) m_Translator_behindNext (38, [(0, .ref 3), (1, .int r)], []) (hX X I' J') P → am_E (gG L xs) (d + 1) m_Translator_behindNext (9, [(0, .ref 3), (1, .int l1), (2, .int l2)], []) (hX X I J) P := by
  intro fu
  induction fu with
  | zero =>
    intros
    rename_i hb _
    cases hb
  | succ fu ih =>
    intro l1 l2 I J r I' J' hb K
    unfold f_Translator_behindNext_9 at hb
    refine e_k 3 (f' := (if 400 ≤ l2 then 38 else 16, [(0, .ref 3), (1, .int l1), (2, .int l2)], [])) rfl ?_
    refine e_if (fun c2 => ?_) (fun c2 => ?_)
    · replace hb := i_pos c2 hb
      refine e_sub (ls := [(0, .ref 3), (1, .int l1)]) rfl ⟨rfl, rfl, trivial⟩ ?_
      obtain ⟨rfl, rfl, rfl⟩ := s_inj hb
      exact K
    · replace hb := i_neg c2 hb
      refine e_k 1 (f' := (17, [(0, .ref 3), (1, .int l1), (2, .int l2)], [.ref 3])) rfl ?_
      refine r_getr rfl (x_ltn rfl) rfl rfl ?_
      refine e_k 1 (f' := (21, [(0, .ref 3), (1, .int l1), (2, .int l2)], [.int l1, .ref 4])) rfl ?_
      obtain ⟨v3, I3, J3, h3, hb⟩ := oc_call hb
      refine r_cv (z := m_Row_at) (As := [.int l1]) (rest := []) rfl rfl rfl rfl rfl (x_ltn rfl) rfl rfl (E_Row_at row_4 h3 ⟨_, rfl, ?_⟩)
      refine e_k 2 (f' := (if ¬ v3 = 32 then 38 else 29, [(0, .ref 3), (1, .int l1), (2, .int l2)], [])) rfl ?_
      refine e_if (fun c4 => ?_) (fun c4 => ?_)
      · replace hb := i_pos c4 hb
        refine e_sub (ls := [(0, .ref 3), (1, .int l1)]) rfl ⟨rfl, rfl, trivial⟩ ?_
        obtain ⟨rfl, rfl, rfl⟩ := s_inj hb
        exact K
      · replace hb := i_neg c4 hb
        refine e_k 3 (f' := (9, [(2, .int (l2 + 1)), (1, .int (l1 + 1)), (0, .ref 3)], [])) rfl ?_
        refine e_sub (ls := [(0, .ref 3), (1, .int (l1 + 1)), (2, .int (l2 + 1))]) rfl ⟨rfl, rfl, rfl, trivial⟩ ?_
        exact ih  hb K
theorem E_Translator_behindNext {X : MX} {I : MI} {J : MJ} {v : Int32} {I' : MI} {J' : MJ} (hb : f_Translator_behindNext  I J = some (v, I', J')) (K : P (.inl (some (.int v))) (hX X I' J')) : am_E (gG L xs) (d + 1) m_Translator_behindNext (0, lv_args 0 [.ref 3], []) (hX X I J) P := by
  unfold f_Translator_behindNext at hb
  refine e_k 1 (f' := (1, [(0, .ref 3)], [.ref 3])) rfl ?_
  refine r_geti rfl (x_ltn rfl) rfl rfl ?_
  refine e_k 3 (f' := (7, [(1, .int ((I 3 5) + 1)), (0, .ref 3)], [])) rfl ?_
  obtain ⟨x1, ex1, hb⟩ := p_nm hb
  rw [← ex1]
  refine e_k 2 (f' := (9, [(2, .int 0), (1, .int x1), (0, .ref 3)], [])) rfl ?_
  refine e_sub (ls := [(0, .ref 3), (1, .int x1), (2, .int 0)]) rfl ⟨rfl, rfl, rfl, trivial⟩ ?_
  obtain ⟨u5, I5, J5, h5, hb⟩ := oc_call hb
  refine E_Translator_behindNext_9  gF  h5 ?_
  refine e_k 1 (f' := (39, [(0, .ref 3), (1, .int u5)], [.ref 3])) rfl ?_
  refine r_getr rfl (x_ltn rfl) rfl rfl ?_
  refine e_k 1 (f' := (43, [(0, .ref 3), (1, .int u5)], [.int u5, .ref 4])) rfl ?_
  obtain ⟨v6, I6, J6, h6, hb⟩ := oc_call hb
  refine r_cv (z := m_Row_at) (As := [.int u5]) (rest := []) rfl rfl rfl rfl rfl (x_ltn rfl) rfl rfl (E_Row_at row_4 h6 ⟨_, rfl, ?_⟩)
  obtain ⟨rfl, rfl, rfl⟩ := s_inj hb
  exact e_r rfl rfl K
theorem E_Translator_pass {X : MX} {I : MI} {J : MJ} {v : Unit} {I' : MI} {J' : MJ} (hb : f_Translator_pass  I J = some (v, I', J')) (K : P (.inl (none)) (hX X I' J')) : am_E (gG L xs) d m_Translator_pass (0, lv_args 0 [.ref 3], []) (hX X I J) P := by
  unfold f_Translator_pass at hb
  refine e_k 1 (f' := (1, [(0, .ref 3)], [.ref 3])) rfl ?_
  refine r_geti rfl (x_ltn rfl) rfl rfl ?_
  refine e_k 1 (f' := (if ¬ (I 3 8) = 0 then 17 else 7, [(0, .ref 3)], [])) rfl ?_
  refine e_if (fun c1 => ?_) (fun c1 => ?_)
  · replace hb := i_pos c1 hb
    obtain ⟨rfl, rfl, rfl⟩ := s_inj hb
    exact e_r rfl rfl K
  · replace hb := i_neg c1 hb
    refine e_k 2 (f' := (9, [(0, .ref 3)], [.ref 3, .ref 3])) rfl ?_
    refine r_geti rfl (x_ltn rfl) rfl rfl ?_
    refine e_k 2 (f' := (14, [(0, .ref 3)], [.int ((I 3 5) + 1), .ref 3])) rfl ?_
    obtain ⟨I2, eI2, hb⟩ := p_nm hb
    refine r_puti' rfl (x_ltn rfl) rfl rfl eI2 ?_
    obtain ⟨rfl, rfl, rfl⟩ := s_inj hb
    exact e_r rfl rfl K
theorem E_Translator_refuse {X : MX} {I : MI} {J : MJ} {v : Unit} {I' : MI} {J' : MJ} (hb : f_Translator_refuse  I J = some (v, I', J')) (K : P (.inl (none)) (hX X I' J')) : am_E (gG L xs) d m_Translator_refuse (0, lv_args 0 [.ref 3], []) (hX X I J) P := by
  unfold f_Translator_refuse at hb
  refine e_k 1 (f' := (1, [(0, .ref 3)], [.ref 3])) rfl ?_
  refine r_geti rfl (x_ltn rfl) rfl rfl ?_
  refine e_k 1 (f' := (if ¬ (I 3 8) = 0 then 25 else 7, [(0, .ref 3)], [])) rfl ?_
  refine e_if (fun c1 => ?_) (fun c1 => ?_)
  · replace hb := i_pos c1 hb
    obtain ⟨rfl, rfl, rfl⟩ := s_inj hb
    exact e_r rfl rfl K
  · replace hb := i_neg c1 hb
    refine e_k 2 (f' := (9, [(0, .ref 3)], [.int 1, .ref 3])) rfl ?_
    obtain ⟨I2, eI2, hb⟩ := p_nm hb
    refine r_putz' rfl (x_ltn rfl) rfl rfl (Or.inr rfl) eI2 ?_
    refine e_k 2 (f' := (14, [(0, .ref 3)], [.int 1, .ref 3])) rfl ?_
    obtain ⟨I3, eI3, hb⟩ := p_nm hb
    refine r_puti' rfl (x_ltn rfl) rfl rfl eI3 ?_
    refine e_k 2 (f' := (19, [(0, .ref 3)], [.ref 3, .ref 3])) rfl ?_
    refine r_geti rfl (x_ltn rfl) rfl rfl ?_
    obtain ⟨I4, eI4, hb⟩ := p_nm hb
    refine r_puti' rfl (x_ltn rfl) rfl rfl eI4 ?_
    obtain ⟨rfl, rfl, rfl⟩ := s_inj hb
    exact e_r rfl rfl K
theorem E_Translator_blame {p2 : Int32} {p3 : Int32} {X : MX} {I : MI} {J : MJ} {v : Unit} {I' : MI} {J' : MJ} (hb : f_Translator_blame p2 p3 I J = some (v, I', J')) (K : P (.inl (none)) (hX X I' J')) : am_E (gG L xs) d m_Translator_blame (0, lv_args 0 [.ref 3, .int p2, .int p3], []) (hX X I J) P := by
  unfold f_Translator_blame at hb
  refine e_k 1 (f' := (1, [(0, .ref 3), (1, .int p2), (2, .int p3)], [.ref 3])) rfl ?_
  refine r_geti rfl (x_ltn rfl) rfl rfl ?_
  refine e_k 1 (f' := (if (I 3 8) = 0 then 8 else 7, [(0, .ref 3), (1, .int p2), (2, .int p3)], [])) rfl ?_
  refine e_if (fun c1 => ?_) (fun c1 => ?_)
  · replace hb := i_pos c1 hb
    refine e_k 1 (f' := (9, [(0, .ref 3), (1, .int p2), (2, .int p3)], [.ref 3])) rfl ?_
    refine r_geti rfl (x_ltn rfl) rfl rfl ?_
    refine e_k 1 (f' := (if (I 3 9) = 0 then 39 else 15, [(0, .ref 3), (1, .int p2), (2, .int p3)], [])) rfl ?_
    refine e_if (fun c2 => ?_) (fun c2 => ?_)
    · replace hb := i_pos c2 hb
      refine e_k 2 (f' := (41, [(0, .ref 3), (1, .int p2), (2, .int p3)], [.int p2, .ref 3])) rfl ?_
      obtain ⟨I3, eI3, hb⟩ := p_nm hb
      refine r_puti' rfl (x_ltn rfl) rfl rfl eI3 ?_
      refine e_k 2 (f' := (46, [(0, .ref 3), (1, .int p2), (2, .int p3)], [.int p3, .ref 3])) rfl ?_
      obtain ⟨I4, eI4, hb⟩ := p_nm hb
      refine r_puti' rfl (x_ltn rfl) rfl rfl eI4 ?_
      obtain ⟨rfl, rfl, rfl⟩ := s_inj hb
      exact e_r rfl rfl K
    · replace hb := i_neg c2 hb
      refine e_k 2 (f' := (17, [(0, .ref 3), (1, .int p2), (2, .int p3)], [.ref 3, .int p3])) rfl ?_
      refine r_geti rfl (x_ltn rfl) rfl rfl ?_
      refine e_k 1 (f' := (if p3 < (I 3 10) then 39 else 23, [(0, .ref 3), (1, .int p2), (2, .int p3)], [])) rfl ?_
      refine e_if (fun c5 => ?_) (fun c5 => ?_)
      · replace hb := i_pos c5 hb
        refine e_k 2 (f' := (41, [(0, .ref 3), (1, .int p2), (2, .int p3)], [.int p2, .ref 3])) rfl ?_
        obtain ⟨I6, eI6, hb⟩ := p_nm hb
        refine r_puti' rfl (x_ltn rfl) rfl rfl eI6 ?_
        refine e_k 2 (f' := (46, [(0, .ref 3), (1, .int p2), (2, .int p3)], [.int p3, .ref 3])) rfl ?_
        obtain ⟨I7, eI7, hb⟩ := p_nm hb
        refine r_puti' rfl (x_ltn rfl) rfl rfl eI7 ?_
        obtain ⟨rfl, rfl, rfl⟩ := s_inj hb
        exact e_r rfl rfl K
      · replace hb := i_neg c5 hb
        refine e_k 2 (f' := (25, [(0, .ref 3), (1, .int p2), (2, .int p3)], [.ref 3, .int p3])) rfl ?_
        refine r_geti rfl (x_ltn rfl) rfl rfl ?_
        refine e_k 1 (f' := (if ¬ p3 = (I 3 10) then 49 else 31, [(0, .ref 3), (1, .int p2), (2, .int p3)], [])) rfl ?_
        refine e_if (fun c8 => ?_) (fun c8 => ?_)
        · replace hb := i_pos c8 hb
          obtain ⟨rfl, rfl, rfl⟩ := s_inj hb
          exact e_r rfl rfl K
        · replace hb := i_neg c8 hb
          refine e_k 2 (f' := (33, [(0, .ref 3), (1, .int p2), (2, .int p3)], [.ref 3, .int p2])) rfl ?_
          refine r_geti rfl (x_ltn rfl) rfl rfl ?_
          refine e_k 1 (f' := (if (I 3 9) ≤ p2 then 49 else 39, [(0, .ref 3), (1, .int p2), (2, .int p3)], [])) rfl ?_
          refine e_if (fun c9 => ?_) (fun c9 => ?_)
          · replace hb := i_pos c9 hb
            obtain ⟨rfl, rfl, rfl⟩ := s_inj hb
            exact e_r rfl rfl K
          · replace hb := i_neg c9 hb
            refine e_k 2 (f' := (41, [(0, .ref 3), (1, .int p2), (2, .int p3)], [.int p2, .ref 3])) rfl ?_
            obtain ⟨I10, eI10, hb⟩ := p_nm hb
            refine r_puti' rfl (x_ltn rfl) rfl rfl eI10 ?_
            refine e_k 2 (f' := (46, [(0, .ref 3), (1, .int p2), (2, .int p3)], [.int p3, .ref 3])) rfl ?_
            obtain ⟨I11, eI11, hb⟩ := p_nm hb
            refine r_puti' rfl (x_ltn rfl) rfl rfl eI11 ?_
            obtain ⟨rfl, rfl, rfl⟩ := s_inj hb
            exact e_r rfl rfl K
  · replace hb := i_neg c1 hb
    obtain ⟨rfl, rfl, rfl⟩ := s_inj hb
    exact e_r rfl rfl K
theorem E_Translator_emit {p2 : Int32} {p3 : Int32} {p4 : Int32} {p5 : Int32} {X : MX} {I : MI} {J : MJ} {v : Unit} {I' : MI} {J' : MJ} (hb : f_Translator_emit p2 p3 p4 p5 I J = some (v, I', J')) (K : P (.inl (none)) (hX X I' J')) : am_E (gG L xs) (d + 1) m_Translator_emit (0, lv_args 0 [.ref 3, .int p2, .int p3, .int p4, .int p5], []) (hX X I J) P := by
  unfold f_Translator_emit at hb
  refine e_k 1 (f' := (1, [(0, .ref 3), (1, .int p2), (2, .int p3), (3, .int p4), (4, .int p5)], [.int p2])) rfl ?_
  obtain ⟨v1, I1, J1, h1, hb⟩ := oc_call hb
  refine r_cs (z := m_Sh_lengthOf) (As := [.int p2]) (rest := []) rfl rfl rfl rfl rfl rfl (E_Sh_lengthOf  h1 ⟨_, rfl, ?_⟩)
  refine e_k 2 (f' := (7, [(5, .int v1), (0, .ref 3), (1, .int p2), (2, .int p3), (3, .int p4), (4, .int p5)], [.ref 3])) rfl ?_
  refine r_getr rfl (x_ltn rfl) rfl rfl ?_
  refine e_k 1 (f' := (11, [(5, .int v1), (0, .ref 3), (1, .int p2), (2, .int p3), (3, .int p4), (4, .int p5)], [.int p2, .ref 6])) rfl ?_
  obtain ⟨v2, I2, J2, h2, hb⟩ := oc_call hb
  refine r_cv (z := m_Row_add) (As := [.int p2]) (rest := []) rfl rfl rfl rfl rfl (x_ltn rfl) rfl rfl (E_Row_add row_6 h2 ⟨_, rfl, ?_⟩)
  refine e_k 3 (f' := (if v1 ≤ 1 then 28 else 20, [(5, .int v1), (0, .ref 3), (1, .int p2), (2, .int p3), (3, .int p4), (4, .int p5)], [])) rfl ?_
  obtain ⟨v4, I4, J4, h4, hb⟩ := oc_call hb
  have Kj4 : am_E (gG L xs) (d + 1) m_Translator_emit (28, [(0, .ref 3), (3, .int p4), (4, .int p5), (5, .int v1)], []) (hX X I4 J4) P := by
    refine e_k 3 (f' := (if v1 ≤ 2 then 42 else 34, [(0, .ref 3), (3, .int p4), (4, .int p5), (5, .int v1)], [])) rfl ?_
    obtain ⟨v8, I8, J8, h8, hb⟩ := oc_call hb
    have Kj8 : am_E (gG L xs) (d + 1) m_Translator_emit (42, [(0, .ref 3), (4, .int p5), (5, .int v1)], []) (hX X I8 J8) P := by
      refine e_k 3 (f' := (if v1 ≤ 3 then 57 else 48, [(0, .ref 3), (4, .int p5), (5, .int v1)], [])) rfl ?_
      refine e_if (fun c11 => ?_) (fun c11 => ?_)
      · replace hb := i_pos c11 hb
        obtain ⟨rfl, rfl, rfl⟩ := s_inj hb
        exact e_r rfl rfl K
      · replace hb := i_neg c11 hb
        refine e_k 1 (f' := (49, [(0, .ref 3), (4, .int p5), (5, .int v1)], [.ref 3])) rfl ?_
        refine r_getr rfl (x_ltn rfl) rfl rfl ?_
        refine e_k 1 (f' := (54, [(0, .ref 3), (4, .int p5), (5, .int v1)], [.int p5, .ref 6])) rfl ?_
        obtain ⟨v12, I12, J12, h12, hb⟩ := oc_call hb
        refine r_cv (z := m_Row_add) (As := [.int p5]) (rest := []) rfl rfl rfl rfl rfl (x_ltn rfl) rfl rfl (E_Row_add row_6 h12 ⟨_, rfl, ?_⟩)
        obtain ⟨rfl, rfl, rfl⟩ := s_inj hb
        exact e_r rfl rfl K
    clear hb
    refine e_if (fun c9 => ?_) (fun c9 => ?_)
    · replace h8 := i_pos c9 h8
      refine e_sub (ls := [(0, .ref 3), (4, .int p5), (5, .int v1)]) rfl ⟨rfl, rfl, rfl, trivial⟩ ?_
      obtain ⟨rfl, rfl, rfl⟩ := s_inj h8
      exact Kj8
    · replace h8 := i_neg c9 h8
      refine e_k 1 (f' := (35, [(0, .ref 3), (3, .int p4), (4, .int p5), (5, .int v1)], [.ref 3])) rfl ?_
      refine r_getr rfl (x_ltn rfl) rfl rfl ?_
      refine e_k 1 (f' := (39, [(0, .ref 3), (3, .int p4), (4, .int p5), (5, .int v1)], [.int p4, .ref 6])) rfl ?_
      obtain ⟨v10, I10, J10, h10, h8⟩ := oc_call h8
      refine r_cv (z := m_Row_add) (As := [.int p4]) (rest := []) rfl rfl rfl rfl rfl (x_ltn rfl) rfl rfl (E_Row_add row_6 h10 ⟨_, rfl, ?_⟩)
      refine e_sub (ls := [(0, .ref 3), (4, .int p5), (5, .int v1)]) rfl ⟨rfl, rfl, rfl, trivial⟩ ?_
      obtain ⟨rfl, rfl, rfl⟩ := s_inj h8
      exact Kj8
  clear hb
  refine e_if (fun c5 => ?_) (fun c5 => ?_)
  · replace h4 := i_pos c5 h4
    refine e_sub (ls := [(0, .ref 3), (3, .int p4), (4, .int p5), (5, .int v1)]) rfl ⟨rfl, rfl, rfl, rfl, trivial⟩ ?_
    obtain ⟨rfl, rfl, rfl⟩ := s_inj h4
    exact Kj4
  · replace h4 := i_neg c5 h4
    refine e_k 1 (f' := (21, [(5, .int v1), (0, .ref 3), (1, .int p2), (2, .int p3), (3, .int p4), (4, .int p5)], [.ref 3])) rfl ?_
    refine r_getr rfl (x_ltn rfl) rfl rfl ?_
    refine e_k 1 (f' := (25, [(5, .int v1), (0, .ref 3), (1, .int p2), (2, .int p3), (3, .int p4), (4, .int p5)], [.int p3, .ref 6])) rfl ?_
    obtain ⟨v6, I6, J6, h6, h4⟩ := oc_call h4
    refine r_cv (z := m_Row_add) (As := [.int p3]) (rest := []) rfl rfl rfl rfl rfl (x_ltn rfl) rfl rfl (E_Row_add row_6 h6 ⟨_, rfl, ?_⟩)
    refine e_sub (ls := [(0, .ref 3), (3, .int p4), (4, .int p5), (5, .int v1)]) rfl ⟨rfl, rfl, rfl, rfl, trivial⟩ ?_
    obtain ⟨rfl, rfl, rfl⟩ := s_inj h4
    exact Kj4
end AUTO
