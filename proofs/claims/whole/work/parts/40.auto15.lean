section AUTO
variable {L : Nat} {xs : Nat → Int32} {d : Nat} {P : am_R → am_H → Prop}
def f_Verifier_keepsSecret (r1 : Nat) (b1 : Nat) (m1 : Nat) (p2 : Int32) (I : MI) (J : MJ) : M2 Int32 := oc (f_Row_at r1 b1 m1 (p2 + 2) I J) (fun v1 I1 J1 => oc ((if 4 ≤ v1 then (some (1, I1, J1)) else (oc (f_Row_at r1 b1 m1 (p2 + 3) I1 J1) (fun v5 I5 J5 => if v5 < 4 then (some (0, I5, J5)) else (some (1, I5, J5))))) : M2 (Int32)) (fun v3 I3 J3 => oc (f_Row_at r1 b1 m1 (p2 + 1) I3 J3) (fun v7 I7 J7 => if 4 ≤ v7 then (some (1, I7, J7)) else (if ¬ v3 = 0 then (some (0, I7, J7)) else (some (1, I7, J7))))))
theorem E_Verifier_keepsSecret {r1 : Nat} {b1 : Nat} {m1 : Nat} {p2 : Int32} {X : MX} {I : MI} {J : MJ} {v : Int32} {I' : MI} {J' : MJ} (hR_r1 : isRw X r1 b1 m1) (hb : f_Verifier_keepsSecret r1 b1 m1 p2 I J = some (v, I', J')) (K : P (.inl (some (.int v))) (hX X I' J')) : am_E (gG L xs) (d + 1) m_Verifier_keepsSecret (0, lv_args 0 [.ref r1, .int p2], []) (hX X I J) P := by
  unfold f_Verifier_keepsSecret at hb
  refine e_k 4 (f' := (4, [(0, .ref r1), (1, .int p2)], [.int (p2 + 2), .ref r1])) rfl ?_
  obtain ⟨v1, I1, J1, h1, hb⟩ := oc_call hb
  refine r_cv (z := m_Row_at) (As := [.int (p2 + 2)]) (rest := []) rfl rfl rfl rfl rfl hR_r1.1 hR_r1.2.1 rfl (E_Row_at hR_r1 h1 ⟨_, rfl, ?_⟩)
  refine e_k 2 (f' := (if 4 ≤ v1 then 22 else 11, [(0, .ref r1), (1, .int p2)], [])) rfl ?_
  obtain ⟨v3, I3, J3, h3, hb⟩ := oc_call hb
  have Kj3 : am_E (gG L xs) (d + 1) m_Verifier_keepsSecret (27, [(0, .ref r1), (1, .int p2)], [.int v3]) (hX X I3 J3) P := by
    refine e_k 5 (f' := (32, [(2, .int v3), (0, .ref r1), (1, .int p2)], [.int (p2 + 1), .ref r1])) rfl ?_
    obtain ⟨v7, I7, J7, h7, hb⟩ := oc_call hb
    refine r_cv (z := m_Row_at) (As := [.int (p2 + 1)]) (rest := []) rfl rfl rfl rfl rfl hR_r1.1 hR_r1.2.1 rfl (E_Row_at hR_r1 h7 ⟨_, rfl, ?_⟩)
    refine e_k 2 (f' := (if 4 ≤ v7 then 43 else 39, [(2, .int v3), (0, .ref r1), (1, .int p2)], [])) rfl ?_
    refine e_if (fun c8 => ?_) (fun c8 => ?_)
    · replace hb := i_pos c8 hb
      refine e_k 2 (f' := (48, [(2, .int v3), (0, .ref r1), (1, .int p2)], [.int 1])) rfl ?_
      obtain ⟨rfl, rfl, rfl⟩ := s_inj hb
      exact e_r rfl rfl K
    · replace hb := i_neg c8 hb
      refine e_k 2 (f' := (if ¬ v3 = 0 then 47 else 43, [(2, .int v3), (0, .ref r1), (1, .int p2)], [])) rfl ?_
      refine e_if (fun c9 => ?_) (fun c9 => ?_)
      · replace hb := i_pos c9 hb
        refine e_k 1 (f' := (48, [(2, .int v3), (0, .ref r1), (1, .int p2)], [.int 0])) rfl ?_
        obtain ⟨rfl, rfl, rfl⟩ := s_inj hb
        exact e_r rfl rfl K
      · replace hb := i_neg c9 hb
        refine e_k 2 (f' := (48, [(2, .int v3), (0, .ref r1), (1, .int p2)], [.int 1])) rfl ?_
        obtain ⟨rfl, rfl, rfl⟩ := s_inj hb
        exact e_r rfl rfl K
  clear hb
  refine e_if (fun c4 => ?_) (fun c4 => ?_)
  · replace h3 := i_pos c4 h3
    refine e_k 2 (f' := (27, [(0, .ref r1), (1, .int p2)], [.int 1])) rfl ?_
    refine e_sub (ls := [(0, .ref r1), (1, .int p2)]) rfl ⟨rfl, rfl, trivial⟩ ?_
    obtain ⟨rfl, rfl, rfl⟩ := s_inj h3
    exact Kj3
  · replace h3 := i_neg c4 h3
    refine e_k 4 (f' := (15, [(0, .ref r1), (1, .int p2)], [.int (p2 + 3), .ref r1])) rfl ?_
    obtain ⟨v5, I5, J5, h5, h3⟩ := oc_call h3
    refine r_cv (z := m_Row_at) (As := [.int (p2 + 3)]) (rest := []) rfl rfl rfl rfl rfl hR_r1.1 hR_r1.2.1 rfl (E_Row_at hR_r1 h5 ⟨_, rfl, ?_⟩)
    refine e_k 2 (f' := (if v5 < 4 then 26 else 22, [(0, .ref r1), (1, .int p2)], [])) rfl ?_
    refine e_if (fun c6 => ?_) (fun c6 => ?_)
    · replace h3 := i_pos c6 h3
      refine e_k 1 (f' := (27, [(0, .ref r1), (1, .int p2)], [.int 0])) rfl ?_
      refine e_sub (ls := [(0, .ref r1), (1, .int p2)]) rfl ⟨rfl, rfl, trivial⟩ ?_
      obtain ⟨rfl, rfl, rfl⟩ := s_inj h3
      exact Kj3
    · replace h3 := i_neg c6 h3
      refine e_k 2 (f' := (27, [(0, .ref r1), (1, .int p2)], [.int 1])) rfl ?_
      refine e_sub (ls := [(0, .ref r1), (1, .int p2)]) rfl ⟨rfl, rfl, trivial⟩ ?_
      obtain ⟨rfl, rfl, rfl⟩ := s_inj h3
      exact Kj3
def f_Verifier_pushes (p2 : Int32) (I : MI) (J : MJ) : M2 Int32 := if (I 10 3) < 0 then (some (0, I, J)) else (if (I 10 3) < (nI 64) then (if (I 10 3) < 0 ∨ 64 ≤ Int32.toNatClampNeg (I 10 3) then none else (pl (va_up I 13 (upd (I 13) (Int32.toNatClampNeg (I 10 3)) (p2 &&& 1))) (fun I4 => pl (va_up I4 10 (upd (I4 10) 3 ((I4 10 3) + 1))) (fun I5 => some (1, I5, J))))) else (some (0, I, J)))
theorem E_Verifier_pushes {p2 : Int32} {X : MX} {I : MI} {J : MJ} {v : Int32} {I' : MI} {J' : MJ} (hb : f_Verifier_pushes p2 I J = some (v, I', J')) (K : P (.inl (some (.int v))) (hX X I' J')) : am_E (gG L xs) d m_Verifier_pushes (0, lv_args 0 [.ref 10, .int p2], []) (hX X I J) P := by
  unfold f_Verifier_pushes at hb
  refine e_k 1 (f' := (1, [(0, .ref 10), (1, .int p2)], [.ref 10])) rfl ?_
  refine r_geti rfl (x_ltn rfl) rfl rfl ?_
  refine e_k 1 (f' := (if (I 10 3) < 0 then 19 else 7, [(0, .ref 10), (1, .int p2)], [])) rfl ?_
  refine e_if (fun c1 => ?_) (fun c1 => ?_)
  · replace hb := i_pos c1 hb
    refine e_k 1 (f' := (20, [(0, .ref 10), (1, .int p2)], [.int 0])) rfl ?_
    obtain ⟨rfl, rfl, rfl⟩ := s_inj hb
    exact e_r rfl rfl K
  · replace hb := i_neg c1 hb
    refine e_k 1 (f' := (8, [(0, .ref 10), (1, .int p2)], [.ref 10])) rfl ?_
    refine r_geti rfl (x_ltn rfl) rfl rfl ?_
    refine e_k 1 (f' := (12, [(0, .ref 10), (1, .int p2)], [.ref 10, .int (I 10 3)])) rfl ?_
    refine r_getr rfl (x_ltn rfl) rfl rfl ?_
    refine r_alen rfl rfl (x_ltn rfl) rfl rfl ?_
    refine e_k 1 (f' := (if (I 10 3) < (nI 64) then 21 else 19, [(0, .ref 10), (1, .int p2)], [])) rfl ?_
    refine e_if (fun c2 => ?_) (fun c2 => ?_)
    · replace hb := i_pos c2 hb
      refine e_k 1 (f' := (22, [(0, .ref 10), (1, .int p2)], [.ref 10])) rfl ?_
      refine r_getr rfl (x_ltn rfl) rfl rfl ?_
      refine e_k 1 (f' := (26, [(0, .ref 10), (1, .int p2)], [.ref 10, .ref 13])) rfl ?_
      refine r_geti rfl (x_ltn rfl) rfl rfl ?_
      refine e_k 1 (f' := (30, [(0, .ref 10), (1, .int p2)], [.int p2, .int (I 10 3), .ref 13])) rfl ?_
      obtain ⟨o3, hb⟩ := ob_in hb
      obtain ⟨I4, eI4, hb⟩ := p_nm hb
      refine r_zast' rfl (x_ltn rfl) rfl o3 eI4 ?_
      refine e_k 2 (f' := (33, [(0, .ref 10), (1, .int p2)], [.ref 10, .ref 10])) rfl ?_
      refine r_geti rfl (x_ltn rfl) rfl rfl ?_
      refine e_k 2 (f' := (38, [(0, .ref 10), (1, .int p2)], [.int ((I4 10 3) + 1), .ref 10])) rfl ?_
      obtain ⟨I5, eI5, hb⟩ := p_nm hb
      refine r_puti' rfl (x_ltn rfl) rfl rfl eI5 ?_
      refine e_k 1 (f' := (42, [(0, .ref 10), (1, .int p2)], [.int 1])) rfl ?_
      obtain ⟨rfl, rfl, rfl⟩ := s_inj hb
      exact e_r rfl rfl K
    · replace hb := i_neg c2 hb
      refine e_k 1 (f' := (20, [(0, .ref 10), (1, .int p2)], [.int 0])) rfl ?_
      obtain ⟨rfl, rfl, rfl⟩ := s_inj hb
      exact e_r rfl rfl K
def f_Verifier_drops (p2 : Int32) (I : MI) (J : MJ) : M2 Int32 := pl (va_up I 10 (upd (I 10) 3 ((I 10 3) - p2))) (fun I1 => some (1, I1, J))
theorem E_Verifier_drops {p2 : Int32} {X : MX} {I : MI} {J : MJ} {v : Int32} {I' : MI} {J' : MJ} (hb : f_Verifier_drops p2 I J = some (v, I', J')) (K : P (.inl (some (.int v))) (hX X I' J')) : am_E (gG L xs) d m_Verifier_drops (0, lv_args 0 [.ref 10, .int p2], []) (hX X I J) P := by
  unfold f_Verifier_drops at hb
  refine e_k 2 (f' := (2, [(0, .ref 10), (1, .int p2)], [.ref 10, .ref 10])) rfl ?_
  refine r_geti rfl (x_ltn rfl) rfl rfl ?_
  refine e_k 2 (f' := (7, [(0, .ref 10), (1, .int p2)], [.int ((I 10 3) - p2), .ref 10])) rfl ?_
  obtain ⟨I1, eI1, hb⟩ := p_nm hb
  refine r_puti' rfl (x_ltn rfl) rfl rfl eI1 ?_
  refine e_k 1 (f' := (11, [(0, .ref 10), (1, .int p2)], [.int 1])) rfl ?_
  obtain ⟨rfl, rfl, rfl⟩ := s_inj hb
  exact e_r rfl rfl K
def f_Verifier_mark (a1 : Nat) (m1 : Nat) (p2 : Int32) (I : MI) (J : MJ) : M2 Unit := if p2 < 0 then (some ((), I, J)) else (if (nI m1) ≤ p2 then (some ((), I, J)) else (if p2 < 0 ∨ m1 ≤ Int32.toNatClampNeg p2 then none else (pl (va_up I a1 (upd (I a1) (Int32.toNatClampNeg p2) (1 &&& 1))) (fun I4 => some ((), I4, J)))))
theorem E_Verifier_mark {a1 : Nat} {m1 : Nat} {p2 : Int32} {X : MX} {I : MI} {J : MJ} {v : Unit} {I' : MI} {J' : MJ} (hA_a1 : isArr X 2 a1 m1) (hb : f_Verifier_mark a1 m1 p2 I J = some (v, I', J')) (K : P (.inl (none)) (hX X I' J')) : am_E (gG L xs) d m_Verifier_mark (0, lv_args 0 [.ref a1, .int p2], []) (hX X I J) P := by
  unfold f_Verifier_mark at hb
  refine e_k 2 (f' := (if p2 < 0 then 14 else 4, [(0, .ref a1), (1, .int p2)], [])) rfl ?_
  refine e_if (fun c1 => ?_) (fun c1 => ?_)
  · replace hb := i_pos c1 hb
    obtain ⟨rfl, rfl, rfl⟩ := s_inj hb
    exact e_r rfl rfl K
  · replace hb := i_neg c1 hb
    refine e_k 2 (f' := (6, [(0, .ref a1), (1, .int p2)], [.ref a1, .int p2])) rfl ?_
    refine r_alen rfl hA_a1.2.1 hA_a1.1 hA_a1.2.2 rfl ?_
    refine e_k 1 (f' := (if (nI m1) ≤ p2 then 14 else 10, [(0, .ref a1), (1, .int p2)], [])) rfl ?_
    refine e_if (fun c2 => ?_) (fun c2 => ?_)
    · replace hb := i_pos c2 hb
      obtain ⟨rfl, rfl, rfl⟩ := s_inj hb
      exact e_r rfl rfl K
    · replace hb := i_neg c2 hb
      refine e_k 3 (f' := (13, [(0, .ref a1), (1, .int p2)], [.int 1, .int p2, .ref a1])) rfl ?_
      obtain ⟨o3, hb⟩ := ob_in hb
      obtain ⟨I4, eI4, hb⟩ := p_nm hb
      refine r_zast' rfl hA_a1.1 hA_a1.2.2 o3 eI4 ?_
      obtain ⟨rfl, rfl, rfl⟩ := s_inj hb
      exact e_r rfl rfl K
def f_Verifier_isMarked (a1 : Nat) (m1 : Nat) (p2 : Int32) (I : MI) (J : MJ) : M2 Int32 := if p2 < 0 then (some (0, I, J)) else (if (nI m1) ≤ p2 then (some (0, I, J)) else (if p2 < 0 ∨ m1 ≤ Int32.toNatClampNeg p2 then none else (if (I a1 (Int32.toNatClampNeg p2)) = 0 then (some (0, I, J)) else (some (1, I, J)))))
theorem E_Verifier_isMarked {a1 : Nat} {m1 : Nat} {p2 : Int32} {X : MX} {I : MI} {J : MJ} {v : Int32} {I' : MI} {J' : MJ} (hA_a1 : isArr X 2 a1 m1) (hb : f_Verifier_isMarked a1 m1 p2 I J = some (v, I', J')) (K : P (.inl (some (.int v))) (hX X I' J')) : am_E (gG L xs) d m_Verifier_isMarked (0, lv_args 0 [.ref a1, .int p2], []) (hX X I J) P := by
  unfold f_Verifier_isMarked at hb
  refine e_k 2 (f' := (if p2 < 0 then 20 else 4, [(0, .ref a1), (1, .int p2)], [])) rfl ?_
  refine e_if (fun c1 => ?_) (fun c1 => ?_)
  · replace hb := i_pos c1 hb
    refine e_k 1 (f' := (21, [(0, .ref a1), (1, .int p2)], [.int 0])) rfl ?_
    obtain ⟨rfl, rfl, rfl⟩ := s_inj hb
    exact e_r rfl rfl K
  · replace hb := i_neg c1 hb
    refine e_k 2 (f' := (6, [(0, .ref a1), (1, .int p2)], [.ref a1, .int p2])) rfl ?_
    refine r_alen rfl hA_a1.2.1 hA_a1.1 hA_a1.2.2 rfl ?_
    refine e_k 1 (f' := (if (nI m1) ≤ p2 then 20 else 10, [(0, .ref a1), (1, .int p2)], [])) rfl ?_
    refine e_if (fun c2 => ?_) (fun c2 => ?_)
    · replace hb := i_pos c2 hb
      refine e_k 1 (f' := (21, [(0, .ref a1), (1, .int p2)], [.int 0])) rfl ?_
      obtain ⟨rfl, rfl, rfl⟩ := s_inj hb
      exact e_r rfl rfl K
    · replace hb := i_neg c2 hb
      refine e_k 2 (f' := (12, [(0, .ref a1), (1, .int p2)], [.int p2, .ref a1])) rfl ?_
      obtain ⟨o3, hb⟩ := ob_in hb
      refine r_zald rfl hA_a1.2.1 hA_a1.1 hA_a1.2.2 o3 ?_
      refine e_k 1 (f' := (if (I a1 (Int32.toNatClampNeg p2)) = 0 then 20 else 16, [(0, .ref a1), (1, .int p2)], [])) rfl ?_
      refine e_if (fun c4 => ?_) (fun c4 => ?_)
      · replace hb := i_pos c4 hb
        refine e_k 1 (f' := (21, [(0, .ref a1), (1, .int p2)], [.int 0])) rfl ?_
        obtain ⟨rfl, rfl, rfl⟩ := s_inj hb
        exact e_r rfl rfl K
      · replace hb := i_neg c4 hb
        refine e_k 2 (f' := (21, [(0, .ref a1), (1, .int p2)], [.int 1])) rfl ?_
        obtain ⟨rfl, rfl, rfl⟩ := s_inj hb
        exact e_r rfl rfl K
def f_Math_floorMod (p1 : Int64) (p2 : Int64) (I : MI) (J : MJ) : M2 Int64 := if p2 = 0 then none else (pl (p1 - p1 / p2 * p2 : Int64) (fun x1 => if 0 ≤ (lg_cmp (p1 ^^^ p2) 0) then (some (x1, I, J)) else (if (lg_cmp x1 0) = 0 then (some (x1, I, J)) else (some (x1 + p2, I, J)))))
theorem E_Math_floorMod {p1 : Int64} {p2 : Int64} {X : MX} {I : MI} {J : MJ} {v : Int64} {I' : MI} {J' : MJ} (hb : f_Math_floorMod p1 p2 I J = some (v, I', J')) (K : P (.inl (some (.long v))) (hX X I' J')) : am_E (gG L xs) d m_Math_floorMod (0, lv_args 0 [.long p1, .long p2], []) (hX X I J) P := by
  unfold f_Math_floorMod at hb
  refine e_k 2 (f' := (2, [(0, .long p1), (2, .long p2)], [.long p2, .long p1])) rfl ?_
  obtain ⟨o9, hb⟩ := ob_not hb
  refine e_k 1 (f' := (3, [(0, .long p1), (2, .long p2)], [.long (p1 - p1 / p2 * p2)])) (am_lrem rfl o9) ?_
  refine e_k 1 (f' := (5, [(4, .long (p1 - p1 / p2 * p2)), (0, .long p1), (2, .long p2)], [])) rfl ?_
  obtain ⟨x1, ex1, hb⟩ := p_nm hb
  rw [← ex1]
  refine e_k 6 (f' := (if 0 ≤ (lg_cmp (p1 ^^^ p2) 0) then 25 else 13, [(4, .long x1), (0, .long p1), (2, .long p2)], [])) rfl ?_
  refine e_if (fun c2 => ?_) (fun c2 => ?_)
  · replace hb := i_pos c2 hb
    refine e_k 1 (f' := (27, [(4, .long x1), (0, .long p1), (2, .long p2)], [.long x1])) rfl ?_
    obtain ⟨rfl, rfl, rfl⟩ := s_inj hb
    exact e_r rfl rfl K
  · replace hb := i_neg c2 hb
    refine e_k 4 (f' := (if (lg_cmp x1 0) = 0 then 25 else 20, [(4, .long x1), (0, .long p1), (2, .long p2)], [])) rfl ?_
    refine e_if (fun c3 => ?_) (fun c3 => ?_)
    · replace hb := i_pos c3 hb
      refine e_k 1 (f' := (27, [(4, .long x1), (0, .long p1), (2, .long p2)], [.long x1])) rfl ?_
      obtain ⟨rfl, rfl, rfl⟩ := s_inj hb
      exact e_r rfl rfl K
    · replace hb := i_neg c3 hb
      refine e_k 3 (f' := (24, [(4, .long x1), (0, .long p1), (2, .long p2)], [.long (x1 + p2)])) rfl ?_
      obtain ⟨rfl, rfl, rfl⟩ := s_inj hb
      exact e_r rfl rfl K
def f_Sh_type (p2 : Int64) (p3 : Int32) (I : MI) (J : MJ) : M2 Int32 := oc (f_Row_addWord 4 5 400 p2 p3 32 126 I J) (fun v1 I1 J1 => if v1 = 0 ∨ v1 = 1 then some (v1, I1, J1) else none)
theorem E_Sh_type {p2 : Int64} {p3 : Int32} {X : MX} {I : MI} {J : MJ} {v : Int32} {I' : MI} {J' : MJ} (hb : f_Sh_type p2 p3 I J = some (v, I', J')) (K : P (.inl (some (.int v))) (hX X I' J')) : am_E (gG L xs) (d + 2) m_Sh_type (0, lv_args 0 [.ref 0, .long p2, .int p3], []) (hX X I J) P := by
  unfold f_Sh_type at hb
  refine e_k 1 (f' := (1, [(0, .ref 0), (1, .long p2), (3, .int p3)], [.ref 0])) rfl ?_
  refine r_getr rfl (x_ltn rfl) rfl rfl ?_
  refine r_getr rfl (x_ltn rfl) rfl rfl ?_
  refine e_k 4 (f' := (13, [(0, .ref 0), (1, .long p2), (3, .int p3)], [.int 126, .int 32, .int p3, .long p2, .ref 4])) rfl ?_
  obtain ⟨v1, I1, J1, h1, hb⟩ := oc_call hb
  refine r_cv (z := m_Row_addWord) (As := [.long p2, .int p3, .int 32, .int 126]) (rest := []) rfl rfl rfl rfl rfl (x_ltn rfl) rfl rfl (E_Row_addWord row_4 h1 ⟨_, rfl, ?_⟩)
  obtain ⟨o2, hb⟩ := ob_if hb
  obtain ⟨rfl, rfl, rfl⟩ := s_inj hb
  exact e_r rfl (if_pos o2) K
def f_Sh_put (p2 : Int64) (p3 : Int32) (I : MI) (J : MJ) : M2 Int32 := oc (f_Row_addWord 1 2 2000 p2 p3 0 255 I J) (fun v1 I1 J1 => if v1 = 0 ∨ v1 = 1 then some (v1, I1, J1) else none)
theorem E_Sh_put {p2 : Int64} {p3 : Int32} {X : MX} {I : MI} {J : MJ} {v : Int32} {I' : MI} {J' : MJ} (hb : f_Sh_put p2 p3 I J = some (v, I', J')) (K : P (.inl (some (.int v))) (hX X I' J')) : am_E (gG L xs) (d + 2) m_Sh_put (0, lv_args 0 [.ref 0, .long p2, .int p3], []) (hX X I J) P := by
  unfold f_Sh_put at hb
  refine e_k 1 (f' := (1, [(0, .ref 0), (1, .long p2), (3, .int p3)], [.ref 0])) rfl ?_
  refine r_getr rfl (x_ltn rfl) rfl rfl ?_
  refine e_k 4 (f' := (10, [(0, .ref 0), (1, .long p2), (3, .int p3)], [.int 255, .int 0, .int p3, .long p2, .ref 1])) rfl ?_
  obtain ⟨v1, I1, J1, h1, hb⟩ := oc_call hb
  refine r_cv (z := m_Row_addWord) (As := [.long p2, .int p3, .int 0, .int 255]) (rest := []) rfl rfl rfl rfl rfl (x_ltn rfl) rfl rfl (E_Row_addWord row_1 h1 ⟨_, rfl, ?_⟩)
  obtain ⟨o2, hb⟩ := ob_if hb
  obtain ⟨rfl, rfl, rfl⟩ := s_inj hb
  exact e_r rfl (if_pos o2) K
def f_Sh_code (p2 : Int32) (I : MI) (J : MJ) : M2 Int32 := oc (f_Row_at 15 16 2000 p2 I J) (fun v1 I1 J1 => some (v1, I1, J1))
theorem E_Sh_code {p2 : Int32} {X : MX} {I : MI} {J : MJ} {v : Int32} {I' : MI} {J' : MJ} (hb : f_Sh_code p2 I J = some (v, I', J')) (K : P (.inl (some (.int v))) (hX X I' J')) : am_E (gG L xs) (d + 1) m_Sh_code (0, lv_args 0 [.ref 0, .int p2], []) (hX X I J) P := by
  unfold f_Sh_code at hb
  refine e_k 1 (f' := (1, [(0, .ref 0), (1, .int p2)], [.ref 0])) rfl ?_
  refine r_getr rfl (x_ltn rfl) rfl rfl ?_
  refine r_getr rfl (x_ltn rfl) rfl rfl ?_
  refine e_k 1 (f' := (8, [(0, .ref 0), (1, .int p2)], [.int p2, .ref 15])) rfl ?_
  obtain ⟨v1, I1, J1, h1, hb⟩ := oc_call hb
  refine r_cv (z := m_Row_at) (As := [.int p2]) (rest := []) rfl rfl rfl rfl rfl (x_ltn rfl) rfl rfl (E_Row_at row_15 h1 ⟨_, rfl, ?_⟩)
  obtain ⟨rfl, rfl, rfl⟩ := s_inj hb
  exact e_r rfl rfl K
def f_Sh_deliver (p2 : Int32) (p3 : Int32) (I : MI) (J : MJ) : M2 Int32 := if (I 14 9) = 0 then (some (0, I, J)) else (oc (f_Hall_bring p2 p3 I J) (fun v2 I2 J2 => if v2 = 0 then (some (0, I2, J2)) else (some (1, I2, J2))))
theorem E_Sh_deliver {p2 : Int32} {p3 : Int32} {X : MX} {I : MI} {J : MJ} {v : Int32} {I' : MI} {J' : MJ} (hb : f_Sh_deliver p2 p3 I J = some (v, I', J')) (K : P (.inl (some (.int v))) (hX X I' J')) : am_E (gG L xs) (d + 2) m_Sh_deliver (0, lv_args 0 [.ref 0, .int p2, .int p3], []) (hX X I J) P := by
  unfold f_Sh_deliver at hb
  refine e_k 1 (f' := (1, [(0, .ref 0), (1, .int p2), (2, .int p3)], [.ref 0])) rfl ?_
  refine r_getr rfl (x_ltn rfl) rfl rfl ?_
  refine r_geti rfl (x_ltn rfl) rfl rfl ?_
  refine e_k 1 (f' := (if (I 14 9) = 0 then 26 else 10, [(0, .ref 0), (1, .int p2), (2, .int p3)], [])) rfl ?_
  refine e_if (fun c1 => ?_) (fun c1 => ?_)
  · replace hb := i_pos c1 hb
    refine e_k 1 (f' := (27, [(0, .ref 0), (1, .int p2), (2, .int p3)], [.int 0])) rfl ?_
    obtain ⟨rfl, rfl, rfl⟩ := s_inj hb
    exact e_r rfl rfl K
  · replace hb := i_neg c1 hb
    refine e_k 1 (f' := (11, [(0, .ref 0), (1, .int p2), (2, .int p3)], [.ref 0])) rfl ?_
    refine r_getr rfl (x_ltn rfl) rfl rfl ?_
    refine e_k 2 (f' := (16, [(0, .ref 0), (1, .int p2), (2, .int p3)], [.int p3, .int p2, .ref 14])) rfl ?_
    obtain ⟨v2, I2, J2, h2, hb⟩ := oc_call hb
    refine r_cv (z := m_Hall_bring) (As := [.int p2, .int p3]) (rest := []) rfl rfl rfl rfl rfl (x_ltn rfl) rfl rfl (E_Hall_bring  h2 ⟨_, rfl, ?_⟩)
    refine e_k 1 (f' := (if v2 = 0 then 26 else 22, [(0, .ref 0), (1, .int p2), (2, .int p3)], [])) rfl ?_
    refine e_if (fun c3 => ?_) (fun c3 => ?_)
    · replace hb := i_pos c3 hb
      refine e_k 1 (f' := (27, [(0, .ref 0), (1, .int p2), (2, .int p3)], [.int 0])) rfl ?_
      obtain ⟨rfl, rfl, rfl⟩ := s_inj hb
      exact e_r rfl rfl K
    · replace hb := i_neg c3 hb
      refine e_k 2 (f' := (27, [(0, .ref 0), (1, .int p2), (2, .int p3)], [.int 1])) rfl ?_
      obtain ⟨rfl, rfl, rfl⟩ := s_inj hb
      exact e_r rfl rfl K
def f_Sh_countMails (w2 : Nat) (p3 : Int32) (p4 : Int32) (I : MI) (J : MJ) : M2 Int32 := oc (f_Hall_has p4 I J) (fun v1 I1 J1 => if ¬ v1 = 0 then (if (I1 14 9) = 0 then (some (0, I1, J1)) else (if ¬ p4 = (I1 (18 + 21 * w2) 0) then (if p3 = 0 then (if p4 < 0 ∨ 4 ≤ Int32.toNatClampNeg p4 then none else (some (I1 (35 + 21 * w2) (Int32.toNatClampNeg p4), I1, J1))) else (oc (f_Hall_onWire (I1 (18 + 21 * w2) 0) p4 I1 J1) (fun v7 I7 J7 => some (v7, I7, J7)))) else (some (0, I1, J1)))) else (some ((-1), I1, J1)))
theorem E_Sh_countMails {w2 : Nat} {p3 : Int32} {p4 : Int32} {X : MX} {I : MI} {J : MJ} {v : Int32} {I' : MI} {J' : MJ} (hw_w2 : w2 < 4) (hb : f_Sh_countMails w2 p3 p4 I J = some (v, I', J')) (K : P (.inl (some (.int v))) (hX X I' J')) : am_E (gG L xs) (d + 2) m_Sh_countMails (0, lv_args 0 [.ref 0, .ref (18 + 21 * w2), .int p3, .int p4], []) (hX X I J) P := by
  unfold f_Sh_countMails at hb
  refine e_k 1 (f' := (1, [(0, .ref 0), (1, .ref (18 + 21 * w2)), (2, .int p3), (3, .int p4)], [.ref 0])) rfl ?_
  refine r_getr rfl (x_ltn rfl) rfl rfl ?_
  refine e_k 1 (f' := (5, [(0, .ref 0), (1, .ref (18 + 21 * w2)), (2, .int p3), (3, .int p4)], [.int p4, .ref 14])) rfl ?_
  obtain ⟨v1, I1, J1, h1, hb⟩ := oc_call hb
  refine r_cv (z := m_Hall_has) (As := [.int p4]) (rest := []) rfl rfl rfl rfl rfl (x_ltn rfl) rfl rfl (E_Hall_has  h1 ⟨_, rfl, ?_⟩)
  refine e_k 1 (f' := (if ¬ v1 = 0 then 13 else 11, [(0, .ref 0), (1, .ref (18 + 21 * w2)), (2, .int p3), (3, .int p4)], [])) rfl ?_
  refine e_if (fun c2 => ?_) (fun c2 => ?_)
  · replace hb := i_pos c2 hb
    refine e_k 1 (f' := (14, [(0, .ref 0), (1, .ref (18 + 21 * w2)), (2, .int p3), (3, .int p4)], [.ref 0])) rfl ?_
    refine r_getr rfl (x_ltn rfl) rfl rfl ?_
    refine r_geti rfl (x_ltn rfl) rfl rfl ?_
    refine e_k 1 (f' := (if (I1 14 9) = 0 then 31 else 23, [(0, .ref 0), (1, .ref (18 + 21 * w2)), (2, .int p3), (3, .int p4)], [])) rfl ?_
    refine e_if (fun c3 => ?_) (fun c3 => ?_)
    · replace hb := i_pos c3 hb
      refine e_k 1 (f' := (32, [(0, .ref 0), (1, .ref (18 + 21 * w2)), (2, .int p3), (3, .int p4)], [.int 0])) rfl ?_
      obtain ⟨rfl, rfl, rfl⟩ := s_inj hb
      exact e_r rfl rfl K
    · replace hb := i_neg c3 hb
      refine e_k 2 (f' := (25, [(0, .ref 0), (1, .ref (18 + 21 * w2)), (2, .int p3), (3, .int p4)], [.ref (18 + 21 * w2), .int p4])) rfl ?_
      refine r_geti rfl (x_ltp hw_w2 (by decide)) (sS_p0 hw_w2) rfl ?_
      refine e_k 1 (f' := (if ¬ p4 = (I1 (18 + 21 * w2) 0) then 33 else 31, [(0, .ref 0), (1, .ref (18 + 21 * w2)), (2, .int p3), (3, .int p4)], [])) rfl ?_
      refine e_if (fun c4 => ?_) (fun c4 => ?_)
      · replace hb := i_pos c4 hb
        refine e_k 2 (f' := (if p3 = 0 then 52 else 37, [(0, .ref 0), (1, .ref (18 + 21 * w2)), (2, .int p3), (3, .int p4)], [])) rfl ?_
        refine e_if (fun c5 => ?_) (fun c5 => ?_)
        · replace hb := i_pos c5 hb
          refine e_k 1 (f' := (53, [(0, .ref 0), (1, .ref (18 + 21 * w2)), (2, .int p3), (3, .int p4)], [.ref (18 + 21 * w2)])) rfl ?_
          refine r_getr rfl (x_ltp hw_w2 (by decide)) (sS_p0 hw_w2) rfl ?_
          refine r_getr rfl (x_ltp hw_w2 (by decide)) (sS_p14 hw_w2) rfl ?_
          refine e_k 1 (f' := (60, [(0, .ref 0), (1, .ref (18 + 21 * w2)), (2, .int p3), (3, .int p4)], [.int p4, .ref (35 + 21 * w2)])) rfl ?_
          obtain ⟨o6, hb⟩ := ob_in hb
          refine r_iald rfl (x_t0 hw_w2 (by decide)) (x_ltp hw_w2 (by decide)) (sS_p17 hw_w2) o6 ?_
          obtain ⟨rfl, rfl, rfl⟩ := s_inj hb
          exact e_r rfl rfl K
        · replace hb := i_neg c5 hb
          refine e_k 1 (f' := (38, [(0, .ref 0), (1, .ref (18 + 21 * w2)), (2, .int p3), (3, .int p4)], [.ref 0])) rfl ?_
          refine r_getr rfl (x_ltn rfl) rfl rfl ?_
          refine e_k 1 (f' := (42, [(0, .ref 0), (1, .ref (18 + 21 * w2)), (2, .int p3), (3, .int p4)], [.ref (18 + 21 * w2), .ref 14])) rfl ?_
          refine r_geti rfl (x_ltp hw_w2 (by decide)) (sS_p0 hw_w2) rfl ?_
          refine e_k 1 (f' := (46, [(0, .ref 0), (1, .ref (18 + 21 * w2)), (2, .int p3), (3, .int p4)], [.int p4, .int (I1 (18 + 21 * w2) 0), .ref 14])) rfl ?_
          obtain ⟨v7, I7, J7, h7, hb⟩ := oc_call hb
          refine r_cv (z := m_Hall_onWire) (As := [.int (I1 (18 + 21 * w2) 0), .int p4]) (rest := []) rfl rfl rfl rfl rfl (x_ltn rfl) rfl rfl (E_Hall_onWire  h7 ⟨_, rfl, ?_⟩)
          refine e_k 1 (f' := (61, [(0, .ref 0), (1, .ref (18 + 21 * w2)), (2, .int p3), (3, .int p4)], [.int v7])) rfl ?_
          obtain ⟨rfl, rfl, rfl⟩ := s_inj hb
          exact e_r rfl rfl K
      · replace hb := i_neg c4 hb
        refine e_k 1 (f' := (32, [(0, .ref 0), (1, .ref (18 + 21 * w2)), (2, .int p3), (3, .int p4)], [.int 0])) rfl ?_
        obtain ⟨rfl, rfl, rfl⟩ := s_inj hb
        exact e_r rfl rfl K
  · replace hb := i_neg c2 hb
    refine e_k 1 (f' := (12, [(0, .ref 0), (1, .ref (18 + 21 * w2)), (2, .int p3), (3, .int p4)], [.int (-1)])) rfl ?_
    obtain ⟨rfl, rfl, rfl⟩ := s_inj hb
    exact e_r rfl rfl K
def f_Sh_number (p1 : Int64) (I : MI) (J : MJ) : M2 Int64 := oc (f_Math_floorMod p1 2305843009213693951 I J) (fun v1 I1 J1 => some (v1, I1, J1))
theorem E_Sh_number {p1 : Int64} {X : MX} {I : MI} {J : MJ} {v : Int64} {I' : MI} {J' : MJ} (hb : f_Sh_number p1 I J = some (v, I', J')) (K : P (.inl (some (.long v))) (hX X I' J')) : am_E (gG L xs) (d + 1) m_Sh_number (0, lv_args 0 [.long p1], []) (hX X I J) P := by
  unfold f_Sh_number at hb
  refine e_k 2 (f' := (4, [(0, .long p1)], [.long 2305843009213693951, .long p1])) rfl ?_
  obtain ⟨v1, I1, J1, h1, hb⟩ := oc_call hb
  refine r_cs (z := m_Math_floorMod) (As := [.long p1, .long 2305843009213693951]) (rest := []) rfl rfl rfl rfl rfl rfl (E_Math_floorMod  h1 ⟨_, rfl, ?_⟩)
  obtain ⟨rfl, rfl, rfl⟩ := s_inj hb
  exact e_r rfl rfl K
def f_Model_readPart (R : M3) (I : MI) (J : MJ) : M2 Int32 := oc (f_Model_see  I J) (fun v1 I1 J1 => if ¬ v1 = 40 then (oc (f_Model_isVariable  I1 J1) (fun v3 I3 J3 => if v3 = 0 then (oc (f_Model_isRow  I3 J3) (fun v5 I5 J5 => if v5 = 0 then (pl (va_up I5 112 (upd (I5 112) 73 0)) (fun I7 => oc (f_Model_isDigit  I7 J5) (fun v8 I8 J8 => if v8 = 0 then (oc (f_Model_refuse  I8 J8) (fun v10 I10 J10 => if v10 = 0 ∨ v10 = 1 then some (v10, I10, J10) else none)) else (oc (f_Model_readNumber  I8 J8) (fun v12 I12 J12 => if v12 = 0 ∨ v12 = 1 then some (v12, I12, J12) else none))))) else (pl (va_up I5 112 (upd (I5 112) 5 ((I5 112 5) + 1))) (fun I14 => oc (R 4 0 0 I14 J5) (fun v15 I15 J15 => if ¬ v15 = 0 then (oc (f_Model_isSecretRow v1 I15 J15) (fun v17 I17 J17 => if v17 = 0 ∨ v17 = 1 then (pl (va_up I17 112 (upd (I17 112) 73 v17)) (fun I18 => pl ((if (I18 112 73) = 0 then (19) else (20)) : Int32) (fun v21 => pl ((if (I18 112 73) = 0 then (v1 - 65) else (v1 - 69)) : Int32) (fun v24 => oc (f_Model_lay_IIV v21 v24 I18 J17) (fun v26 I26 J26 => some (1, I26, J26)))))) else none)) else (some (0, I15, J15))))))) else (pl (va_up I3 112 (upd (I3 112) 5 ((I3 112 5) + 1))) (fun I27 => oc (f_Model_isClear v1 I27 J3) (fun v28 I28 J28 => pl ((if v28 = 0 then (3) else (2)) : Int32) (fun v30 => oc (f_Model_numberOf v1 I28 J28) (fun v32 I32 J32 => oc (f_Model_lay_IIV v30 v32 I32 J32) (fun v33 I33 J33 => oc (f_Model_isSecret v1 I33 J33) (fun v34 I34 J34 => if v34 = 0 ∨ v34 = 1 then (pl (va_up I34 112 (upd (I34 112) 73 v34)) (fun I35 => some (1, I35, J34))) else none))))))))) else (if (I1 112 15) < 20 then (pl (va_up I1 112 (upd (I1 112) 5 ((I1 112 5) + 1))) (fun I38 => pl (va_up I38 112 (upd (I38 112) 15 ((I38 112 15) + 1))) (fun I39 => oc (R 0 0 0 I39 J1) (fun v40 I40 J40 => oc ((if v40 = 0 then (some (0, I40, J40)) else (oc (f_Model_want 41 I40 J40) (fun v44 I44 J44 => if v44 = 0 then (some (0, I44, J44)) else (some (1, I44, J44))))) : M2 (Int32)) (fun v42 I42 J42 => pl (va_up I42 112 (upd (I42 112) 15 ((I42 112 15) - 1))) (fun I46 => if v42 = 0 ∨ v42 = 1 then some (v42, I46, J42) else none)))))) else (oc (f_Model_refuse  I1 J1) (fun v48 I48 J48 => if v48 = 0 ∨ v48 = 1 then some (v48, I48, J48) else none))))
theorem E_Model_readPart {R : M3} {X : MX} {I : MI} {J : MJ} {v : Int32} {I' : MI} {J' : MJ} (hR_0 : ∀ {I : MI} {J : MJ} {v : Int32} {I' : MI} {J' : MJ} {P : am_R → am_H → Prop}, R 0 0 0 I J = some (v, I', J') → P (.inl (some (.int v))) (hX X I' J') → am_E (gG L xs) (d + 2) m_Model_readX (0, lv_args 0 [.ref 112], []) (hX X I J) P) (hR_1 : ∀ {I : MI} {J : MJ} {v : Int32} {I' : MI} {J' : MJ} {P : am_R → am_H → Prop}, R 1 0 0 I J = some (v, I', J') → P (.inl (some (.int v))) (hX X I' J') → am_E (gG L xs) (d + 2) m_Model_readProduct (0, lv_args 0 [.ref 112], []) (hX X I J) P) (hR_2 : ∀ {I : MI} {J : MJ} {v : Int32} {I' : MI} {J' : MJ} {P : am_R → am_H → Prop}, R 2 0 0 I J = some (v, I', J') → P (.inl (some (.int v))) (hX X I' J') → am_E (gG L xs) (d + 2) m_Model_readFactor (0, lv_args 0 [.ref 112], []) (hX X I J) P) (hR_3 : ∀ {I : MI} {J : MJ} {v : Int32} {I' : MI} {J' : MJ} {P : am_R → am_H → Prop}, R 3 0 0 I J = some (v, I', J') → P (.inl (some (.int v))) (hX X I' J') → am_E (gG L xs) (d + 2) m_Model_readPart (0, lv_args 0 [.ref 112], []) (hX X I J) P) (hR_4 : ∀ {I : MI} {J : MJ} {v : Int32} {I' : MI} {J' : MJ} {P : am_R → am_H → Prop}, R 4 0 0 I J = some (v, I', J') → P (.inl (some (.int v))) (hX X I' J') → am_E (gG L xs) (d + 2) m_Model_readPlace (0, lv_args 0 [.ref 112], []) (hX X I J) P) (hR_5 : ∀ {I : MI} {J : MJ} {v : Int32} {I' : MI} {J' : MJ} {P : am_R → am_H → Prop}, R 5 0 0 I J = some (v, I', J') → P (.inl (some (.int v))) (hX X I' J') → am_E (gG L xs) (d + 2) m_Model_readStatements (0, lv_args 0 [.ref 112], []) (hX X I J) P) (hR_6 : ∀ {I : MI} {J : MJ} {v : Int32} {I' : MI} {J' : MJ} {P : am_R → am_H → Prop}, R 6 0 0 I J = some (v, I', J') → P (.inl (some (.int v))) (hX X I' J') → am_E (gG L xs) (d + 2) m_Model_readStatement (0, lv_args 0 [.ref 112], []) (hX X I J) P) (hR_7 : ∀ {I : MI} {J : MJ} {v : Int32} {I' : MI} {J' : MJ} {P : am_R → am_H → Prop}, R 7 0 0 I J = some (v, I', J') → P (.inl (some (.int v))) (hX X I' J') → am_E (gG L xs) (d + 2) m_Model_readRoutine (0, lv_args 0 [.ref 112], []) (hX X I J) P) (hR_8 : ∀ {a0 : Int32} {a1 : Int32} {I : MI} {J : MJ} {v : Int32} {I' : MI} {J' : MJ} {P : am_R → am_H → Prop}, R 8 a0 a1 I J = some (v, I', J') → P (.inl (some (.int v))) (hX X I' J') → am_E (gG L xs) (d + 2) m_Model_readValue (0, lv_args 0 [.ref 112, .int a0, .int a1], []) (hX X I J) P) (hR_9 : ∀ {a0 : Int32} {I : MI} {J : MJ} {v : Int32} {I' : MI} {J' : MJ} {P : am_R → am_H → Prop}, R 9 a0 0 I J = some (v, I', J') → P (.inl (some (.int v))) (hX X I' J') → am_E (gG L xs) (d + 2) m_Model_readRow (0, lv_args 0 [.ref 112, .int a0], []) (hX X I J) P) (hR_10 : ∀ {a0 : Int32} {I : MI} {J : MJ} {v : Int32} {I' : MI} {J' : MJ} {P : am_R → am_H → Prop}, R 10 a0 0 I J = some (v, I', J') → P (.inl (some (.int v))) (hX X I' J') → am_E (gG L xs) (d + 2) m_Model_readTurn (0, lv_args 0 [.ref 112, .int a0], []) (hX X I J) P) (hb : f_Model_readPart R  I J = some (v, I', J')) (K : P (.inl (some (.int v))) (hX X I' J')) : am_E (gG L xs) (d + 3) m_Model_readPart (0, lv_args 0 [.ref 112], []) (hX X I J) P := by
  unfold f_Model_readPart at hb
  refine e_k 1 (f' := (1, [(0, .ref 112)], [.ref 112])) rfl ?_
  obtain ⟨v1, I1, J1, h1, hb⟩ := oc_call hb
  refine r_cv (z := m_Model_see) (As := []) (rest := []) rfl rfl rfl rfl rfl (x_ltn rfl) rfl rfl (E_Model_see  h1 ⟨_, rfl, ?_⟩)
  refine e_k 4 (f' := (if ¬ v1 = 40 then 79 else 11, [(1, .int v1), (0, .ref 112)], [])) rfl ?_
  refine e_if (fun c2 => ?_) (fun c2 => ?_)
  · replace hb := i_pos c2 hb
    refine e_k 1 (f' := (80, [(1, .int v1), (0, .ref 112)], [.ref 112])) rfl ?_
    obtain ⟨v3, I3, J3, h3, hb⟩ := oc_call hb
    refine r_cv (z := m_Model_isVariable) (As := []) (rest := []) rfl rfl rfl rfl rfl (x_ltn rfl) rfl rfl (E_Model_isVariable  h3 ⟨_, rfl, ?_⟩)
    refine e_k 1 (f' := (if v3 = 0 then 126 else 86, [(1, .int v1), (0, .ref 112)], [])) rfl ?_
    refine e_if (fun c4 => ?_) (fun c4 => ?_)
    · replace hb := i_pos c4 hb
      refine e_k 1 (f' := (127, [(1, .int v1), (0, .ref 112)], [.ref 112])) rfl ?_
      obtain ⟨v5, I5, J5, h5, hb⟩ := oc_call hb
      refine r_cv (z := m_Model_isRow) (As := []) (rest := []) rfl rfl rfl rfl rfl (x_ltn rfl) rfl rfl (E_Model_isRow  h5 ⟨_, rfl, ?_⟩)
      refine e_k 1 (f' := (if v5 = 0 then 198 else 133, [(1, .int v1), (0, .ref 112)], [])) rfl ?_
      refine e_if (fun c6 => ?_) (fun c6 => ?_)
      · replace hb := i_pos c6 hb
        refine e_k 2 (f' := (200, [(1, .int v1), (0, .ref 112)], [.int 0, .ref 112])) rfl ?_
        obtain ⟨I7, eI7, hb⟩ := p_nm hb
        refine r_putz' rfl (x_ltn rfl) rfl rfl (Or.inl rfl) eI7 ?_
        refine e_k 1 (f' := (204, [(1, .int v1), (0, .ref 112)], [.ref 112])) rfl ?_
        obtain ⟨v8, I8, J8, h8, hb⟩ := oc_call hb
        refine r_cv (z := m_Model_isDigit) (As := []) (rest := []) rfl rfl rfl rfl rfl (x_ltn rfl) rfl rfl (E_Model_isDigit  h8 ⟨_, rfl, ?_⟩)
        refine e_k 1 (f' := (if v8 = 0 then 217 else 210, [(1, .int v1), (0, .ref 112)], [])) rfl ?_
        refine e_if (fun c9 => ?_) (fun c9 => ?_)
        · replace hb := i_pos c9 hb
          refine e_k 1 (f' := (218, [(1, .int v1), (0, .ref 112)], [.ref 112])) rfl ?_
          obtain ⟨v10, I10, J10, h10, hb⟩ := oc_call hb
          refine r_cv (z := m_Model_refuse) (As := []) (rest := []) rfl rfl rfl rfl rfl (x_ltn rfl) rfl rfl (E_Model_refuse  h10 ⟨_, rfl, ?_⟩)
          obtain ⟨o11, hb⟩ := ob_if hb
          obtain ⟨rfl, rfl, rfl⟩ := s_inj hb
          exact e_r rfl (if_pos o11) K
        · replace hb := i_neg c9 hb
          refine e_k 1 (f' := (211, [(1, .int v1), (0, .ref 112)], [.ref 112])) rfl ?_
          obtain ⟨v12, I12, J12, h12, hb⟩ := oc_call hb
          refine r_cv (z := m_Model_readNumber) (As := []) (rest := []) rfl rfl rfl rfl rfl (x_ltn rfl) rfl rfl (E_Model_readNumber  h12 ⟨_, rfl, ?_⟩)
          refine e_k 1 (f' := (221, [(1, .int v1), (0, .ref 112)], [.int v12])) rfl ?_
          obtain ⟨o13, hb⟩ := ob_if hb
          obtain ⟨rfl, rfl, rfl⟩ := s_inj hb
          exact e_r rfl (if_pos o13) K
      · replace hb := i_neg c6 hb
        refine e_k 2 (f' := (135, [(1, .int v1), (0, .ref 112)], [.ref 112, .ref 112])) rfl ?_
        refine r_geti rfl (x_ltn rfl) rfl rfl ?_
        refine e_k 2 (f' := (140, [(1, .int v1), (0, .ref 112)], [.int ((I5 112 5) + 1), .ref 112])) rfl ?_
        obtain ⟨I14, eI14, hb⟩ := p_nm hb
        refine r_puti' rfl (x_ltn rfl) rfl rfl eI14 ?_
        refine e_k 1 (f' := (144, [(1, .int v1), (0, .ref 112)], [.ref 112])) rfl ?_
        obtain ⟨v15, I15, J15, h15, hb⟩ := oc_call hb
        refine r_cv (z := m_Model_readPlace) (As := []) (rest := []) rfl rfl rfl rfl rfl (x_ltn rfl) rfl rfl (hR_4  h15 ⟨_, rfl, ?_⟩)
        refine e_k 1 (f' := (if ¬ v15 = 0 then 152 else 150, [(1, .int v1), (0, .ref 112)], [])) rfl ?_
        refine e_if (fun c16 => ?_) (fun c16 => ?_)
        · replace hb := i_pos c16 hb
          refine e_k 2 (f' := (154, [(1, .int v1), (0, .ref 112)], [.int v1, .ref 112])) rfl ?_
          obtain ⟨v17, I17, J17, h17, hb⟩ := oc_call hb
          refine r_cs (z := m_Model_isSecretRow) (As := [.int v1]) (rest := [.ref 112]) rfl rfl rfl rfl rfl rfl (E_Model_isSecretRow  h17 ⟨_, rfl, ?_⟩)
          obtain ⟨o19, hb⟩ := ob_if hb
          obtain ⟨I18, eI18, hb⟩ := p_nm hb
          refine r_putz' rfl (x_ltn rfl) rfl rfl o19 eI18 ?_
          refine e_k 2 (f' := (162, [(1, .int v1), (0, .ref 112)], [.ref 112, .ref 112])) rfl ?_
          refine r_geti rfl (x_ltn rfl) rfl rfl ?_
          refine e_k 1 (f' := (if (I18 112 73) = 0 then 173 else 168, [(1, .int v1), (0, .ref 112)], [.ref 112])) rfl ?_
          obtain ⟨v21, h21, hb⟩ := p_nn hb
          have Kj21 : am_E (gG L xs) (d + 3) m_Model_readPart (175, [(0, .ref 112), (1, .int v1)], [.int v21, .ref 112]) (hX X I18 J17) P := by
            refine e_k 1 (f' := (176, [(0, .ref 112), (1, .int v1)], [.ref 112, .int v21, .ref 112])) rfl ?_
            refine r_geti rfl (x_ltn rfl) rfl rfl ?_
            refine e_k 1 (f' := (if (I18 112 73) = 0 then 189 else 182, [(0, .ref 112), (1, .int v1)], [.int v21, .ref 112])) rfl ?_
            obtain ⟨v24, h24, hb⟩ := p_nn hb
            have Kj24 : am_E (gG L xs) (d + 3) m_Model_readPart (193, [], [.int v24, .int v21, .ref 112]) (hX X I18 J17) P := by
              obtain ⟨v26, I26, J26, h26, hb⟩ := oc_call hb
              refine r_cv (z := m_Model_lay_IIV) (As := [.int v21, .int v24]) (rest := []) rfl rfl rfl rfl rfl (x_ltn rfl) rfl rfl (E_Model_lay_IIV  h26 ⟨_, rfl, ?_⟩)
              refine e_k 1 (f' := (197, [], [.int 1])) rfl ?_
              obtain ⟨rfl, rfl, rfl⟩ := s_inj hb
              exact e_r rfl rfl K
            clear hb
            refine e_if (fun c25 => ?_) (fun c25 => ?_)
            · replace h24 := i_pos c25 h24
              refine e_k 3 (f' := (193, [(0, .ref 112), (1, .int v1)], [.int (v1 - 65), .int v21, .ref 112])) rfl ?_
              refine e_sub (ls := []) rfl ⟨⟩ ?_
              subst h24
              exact Kj24
            · replace h24 := i_neg c25 h24
              refine e_k 4 (f' := (193, [(0, .ref 112), (1, .int v1)], [.int (v1 - 69), .int v21, .ref 112])) rfl ?_
              refine e_sub (ls := []) rfl ⟨⟩ ?_
              subst h24
              exact Kj24
          clear hb
          refine e_if (fun c22 => ?_) (fun c22 => ?_)
          · replace h21 := i_pos c22 h21
            refine e_k 1 (f' := (175, [(1, .int v1), (0, .ref 112)], [.int 19, .ref 112])) rfl ?_
            refine e_sub (ls := [(0, .ref 112), (1, .int v1)]) rfl ⟨rfl, rfl, trivial⟩ ?_
            subst h21
            exact Kj21
          · replace h21 := i_neg c22 h21
            refine e_k 2 (f' := (175, [(1, .int v1), (0, .ref 112)], [.int 20, .ref 112])) rfl ?_
            refine e_sub (ls := [(0, .ref 112), (1, .int v1)]) rfl ⟨rfl, rfl, trivial⟩ ?_
            subst h21
            exact Kj21
        · replace hb := i_neg c16 hb
          refine e_k 1 (f' := (151, [(1, .int v1), (0, .ref 112)], [.int 0])) rfl ?_
          obtain ⟨rfl, rfl, rfl⟩ := s_inj hb
          exact e_r rfl rfl K
    · replace hb := i_neg c4 hb
      refine e_k 2 (f' := (88, [(1, .int v1), (0, .ref 112)], [.ref 112, .ref 112])) rfl ?_
      refine r_geti rfl (x_ltn rfl) rfl rfl ?_
      refine e_k 2 (f' := (93, [(1, .int v1), (0, .ref 112)], [.int ((I3 112 5) + 1), .ref 112])) rfl ?_
      obtain ⟨I27, eI27, hb⟩ := p_nm hb
      refine r_puti' rfl (x_ltn rfl) rfl rfl eI27 ?_
      refine e_k 2 (f' := (98, [(1, .int v1), (0, .ref 112)], [.int v1, .ref 112])) rfl ?_
      obtain ⟨v28, I28, J28, h28, hb⟩ := oc_call hb
      refine r_cs (z := m_Model_isClear) (As := [.int v1]) (rest := [.ref 112]) rfl rfl rfl rfl rfl rfl (E_Model_isClear  h28 ⟨_, rfl, ?_⟩)
      refine e_k 1 (f' := (if v28 = 0 then 108 else 104, [(1, .int v1), (0, .ref 112)], [.ref 112])) rfl ?_
      obtain ⟨v30, h30, hb⟩ := p_nn hb
      have Kj30 : am_E (gG L xs) (d + 3) m_Model_readPart (109, [(0, .ref 112), (1, .int v1)], [.int v30, .ref 112]) (hX X I28 J28) P := by
        refine e_k 1 (f' := (110, [(0, .ref 112), (1, .int v1)], [.int v1, .int v30, .ref 112])) rfl ?_
        obtain ⟨v32, I32, J32, h32, hb⟩ := oc_call hb
        refine r_cs (z := m_Model_numberOf) (As := [.int v1]) (rest := [.int v30, .ref 112]) rfl rfl rfl rfl rfl rfl (E_Model_numberOf  h32 ⟨_, rfl, ?_⟩)
        obtain ⟨v33, I33, J33, h33, hb⟩ := oc_call hb
        refine r_cv (z := m_Model_lay_IIV) (As := [.int v30, .int v32]) (rest := []) rfl rfl rfl rfl rfl (x_ltn rfl) rfl rfl (E_Model_lay_IIV  h33 ⟨_, rfl, ?_⟩)
        refine e_k 2 (f' := (118, [(0, .ref 112), (1, .int v1)], [.int v1, .ref 112])) rfl ?_
        obtain ⟨v34, I34, J34, h34, hb⟩ := oc_call hb
        refine r_cs (z := m_Model_isSecret) (As := [.int v1]) (rest := [.ref 112]) rfl rfl rfl rfl rfl rfl (E_Model_isSecret  h34 ⟨_, rfl, ?_⟩)
        obtain ⟨o36, hb⟩ := ob_if hb
        obtain ⟨I35, eI35, hb⟩ := p_nm hb
        refine r_putz' rfl (x_ltn rfl) rfl rfl o36 eI35 ?_
        refine e_k 1 (f' := (125, [(0, .ref 112), (1, .int v1)], [.int 1])) rfl ?_
        obtain ⟨rfl, rfl, rfl⟩ := s_inj hb
        exact e_r rfl rfl K
      clear hb
      refine e_if (fun c31 => ?_) (fun c31 => ?_)
      · replace h30 := i_pos c31 h30
        refine e_k 1 (f' := (109, [(1, .int v1), (0, .ref 112)], [.int 3, .ref 112])) rfl ?_
        refine e_sub (ls := [(0, .ref 112), (1, .int v1)]) rfl ⟨rfl, rfl, trivial⟩ ?_
        subst h30
        exact Kj30
      · replace h30 := i_neg c31 h30
        refine e_k 2 (f' := (109, [(1, .int v1), (0, .ref 112)], [.int 2, .ref 112])) rfl ?_
        refine e_sub (ls := [(0, .ref 112), (1, .int v1)]) rfl ⟨rfl, rfl, trivial⟩ ?_
        subst h30
        exact Kj30
  · replace hb := i_neg c2 hb
    refine e_k 1 (f' := (12, [(1, .int v1), (0, .ref 112)], [.ref 112])) rfl ?_
    refine r_geti rfl (x_ltn rfl) rfl rfl ?_
    refine e_k 2 (f' := (if (I1 112 15) < 20 then 25 else 20, [(1, .int v1), (0, .ref 112)], [])) rfl ?_
    refine e_if (fun c37 => ?_) (fun c37 => ?_)
    · replace hb := i_pos c37 hb
      refine e_k 2 (f' := (27, [(1, .int v1), (0, .ref 112)], [.ref 112, .ref 112])) rfl ?_
      refine r_geti rfl (x_ltn rfl) rfl rfl ?_
      refine e_k 2 (f' := (32, [(1, .int v1), (0, .ref 112)], [.int ((I1 112 5) + 1), .ref 112])) rfl ?_
      obtain ⟨I38, eI38, hb⟩ := p_nm hb
      refine r_puti' rfl (x_ltn rfl) rfl rfl eI38 ?_
      refine e_k 2 (f' := (37, [(1, .int v1), (0, .ref 112)], [.ref 112, .ref 112])) rfl ?_
      refine r_geti rfl (x_ltn rfl) rfl rfl ?_
      refine e_k 2 (f' := (42, [(1, .int v1), (0, .ref 112)], [.int ((I38 112 15) + 1), .ref 112])) rfl ?_
      obtain ⟨I39, eI39, hb⟩ := p_nm hb
      refine r_puti' rfl (x_ltn rfl) rfl rfl eI39 ?_
      refine e_k 1 (f' := (46, [(1, .int v1), (0, .ref 112)], [.ref 112])) rfl ?_
      obtain ⟨v40, I40, J40, h40, hb⟩ := oc_call hb
      refine r_cv (z := m_Model_readX) (As := []) (rest := []) rfl rfl rfl rfl rfl (x_ltn rfl) rfl rfl (hR_0  h40 ⟨_, rfl, ?_⟩)
      refine e_k 1 (f' := (if v40 = 0 then 65 else 52, [(1, .int v1), (0, .ref 112)], [])) rfl ?_
      obtain ⟨v42, I42, J42, h42, hb⟩ := oc_call hb
      have Kj42 : am_E (gG L xs) (d + 3) m_Model_readPart (66, [(0, .ref 112)], [.int v42]) (hX X I42 J42) P := by
        refine e_k 3 (f' := (69, [(2, .int v42), (0, .ref 112)], [.ref 112, .ref 112])) rfl ?_
        refine r_geti rfl (x_ltn rfl) rfl rfl ?_
        refine e_k 2 (f' := (74, [(2, .int v42), (0, .ref 112)], [.int ((I42 112 15) - 1), .ref 112])) rfl ?_
        obtain ⟨I46, eI46, hb⟩ := p_nm hb
        refine r_puti' rfl (x_ltn rfl) rfl rfl eI46 ?_
        refine e_k 1 (f' := (78, [(2, .int v42), (0, .ref 112)], [.int v42])) rfl ?_
        obtain ⟨o47, hb⟩ := ob_if hb
        obtain ⟨rfl, rfl, rfl⟩ := s_inj hb
        exact e_r rfl (if_pos o47) K
      clear hb
      refine e_if (fun c43 => ?_) (fun c43 => ?_)
      · replace h42 := i_pos c43 h42
        refine e_k 1 (f' := (66, [(1, .int v1), (0, .ref 112)], [.int 0])) rfl ?_
        refine e_sub (ls := [(0, .ref 112)]) rfl ⟨rfl, trivial⟩ ?_
        obtain ⟨rfl, rfl, rfl⟩ := s_inj h42
        exact Kj42
      · replace h42 := i_neg c43 h42
        refine e_k 2 (f' := (55, [(1, .int v1), (0, .ref 112)], [.int 41, .ref 112])) rfl ?_
        obtain ⟨v44, I44, J44, h44, h42⟩ := oc_call h42
        refine r_cv (z := m_Model_want) (As := [.int 41]) (rest := []) rfl rfl rfl rfl rfl (x_ltn rfl) rfl rfl (E_Model_want  h44 ⟨_, rfl, ?_⟩)
        refine e_k 1 (f' := (if v44 = 0 then 65 else 61, [(1, .int v1), (0, .ref 112)], [])) rfl ?_
        refine e_if (fun c45 => ?_) (fun c45 => ?_)
        · replace h42 := i_pos c45 h42
          refine e_k 1 (f' := (66, [(1, .int v1), (0, .ref 112)], [.int 0])) rfl ?_
          refine e_sub (ls := [(0, .ref 112)]) rfl ⟨rfl, trivial⟩ ?_
          obtain ⟨rfl, rfl, rfl⟩ := s_inj h42
          exact Kj42
        · replace h42 := i_neg c45 h42
          refine e_k 2 (f' := (66, [(1, .int v1), (0, .ref 112)], [.int 1])) rfl ?_
          refine e_sub (ls := [(0, .ref 112)]) rfl ⟨rfl, trivial⟩ ?_
          obtain ⟨rfl, rfl, rfl⟩ := s_inj h42
          exact Kj42
    · replace hb := i_neg c37 hb
      refine e_k 1 (f' := (21, [(1, .int v1), (0, .ref 112)], [.ref 112])) rfl ?_
      obtain ⟨v48, I48, J48, h48, hb⟩ := oc_call hb
      refine r_cv (z := m_Model_refuse) (As := []) (rest := []) rfl rfl rfl rfl rfl (x_ltn rfl) rfl rfl (E_Model_refuse  h48 ⟨_, rfl, ?_⟩)
      obtain ⟨o49, hb⟩ := ob_if hb
      obtain ⟨rfl, rfl, rfl⟩ := s_inj hb
      exact e_r rfl (if_pos o49) K
def f_Model_readStatement (R : M3) (I : MI) (J : MJ) : M2 Int32 := oc (f_Model_see  I J) (fun v1 I1 J1 => if ¬ v1 = 62 then (if v1 = 63 then (oc (R 10 v1 0 I1 J1) (fun v4 I4 J4 => if v4 = 0 ∨ v4 = 1 then some (v4, I4, J4) else none)) else (if ¬ v1 = 42 then (if ¬ v1 = 64 then (oc (f_Model_isRow  I1 J1) (fun v8 I8 J8 => if v8 = 0 then (oc (f_Model_isVariable  I8 J8) (fun v10 I10 J10 => if ¬ v10 = 0 then (pl (I10 112 5 : Int32) (fun x12 => pl (va_up I10 112 (upd (I10 112) 5 ((I10 112 5) + 1))) (fun I13 => oc (f_Model_takes 60 I13 J10) (fun v14 I14 J14 => if v14 = 0 then (oc (f_Model_takes 61 I14 J14) (fun v16 I16 J16 => if v16 = 0 then (oc (f_Model_takes 33 I16 J16) (fun v18 I18 J18 => if v18 = 0 then (oc (f_Model_takes 58 I18 J18) (fun v20 I20 J20 => if ¬ v20 = 0 then (oc (f_Model_isVariable  I20 J20) (fun v22 I22 J22 => if ¬ v22 = 0 then (oc (f_Model_see  I22 J22) (fun v24 I24 J24 => oc (f_Model_isSecret v1 I24 J24) (fun v25 I25 J25 => oc ((if v25 = 0 then (some ((), I25, J25)) else (oc (f_Model_note 2 x12 I25 J25) (fun v29 I29 J29 => some ((), I29, J29)))) : M2 (Unit)) (fun v27 I27 J27 => oc (f_Model_isClear v24 I27 J27) (fun v30 I30 J30 => oc ((if v30 = 0 then (some ((), I30, J30)) else (oc (f_Model_note 2 (I30 112 5) I30 J30) (fun v34 I34 J34 => some ((), I34, J34)))) : M2 (Unit)) (fun v32 I32 J32 => pl (va_up I32 112 (upd (I32 112) 5 ((I32 112 5) + 1))) (fun I35 => oc (f_Model_numberOf v1 I35 J32) (fun v36 I36 J36 => oc (f_Model_lay_IIV 14 v36 I36 J36) (fun v37 I37 J37 => oc (f_Model_numberOf v24 I37 J37) (fun v38 I38 J38 => oc (f_Model_lay_IV v38 I38 J38) (fun v39 I39 J39 => oc (f_Model_want 59 I39 J39) (fun v40 I40 J40 => if v40 = 0 ∨ v40 = 1 then some (v40, I40, J40) else none)))))))))))) else (oc (f_Model_refuse  I22 J22) (fun v42 I42 J42 => if v42 = 0 ∨ v42 = 1 then some (v42, I42, J42) else none)))) else (oc (f_Model_refuse  I20 J20) (fun v44 I44 J44 => if v44 = 0 ∨ v44 = 1 then some (v44, I44, J44) else none)))) else (oc (f_Model_readBit v1 x12 I18 J18) (fun v46 I46 J46 => if v46 = 0 ∨ v46 = 1 then some (v46, I46, J46) else none)))) else (oc (R 8 v1 x12 I16 J16) (fun v48 I48 J48 => if v48 = 0 ∨ v48 = 1 then some (v48, I48, J48) else none)))) else (oc (f_Model_readInput v1 x12 I14 J14) (fun v50 I50 J50 => if v50 = 0 ∨ v50 = 1 then some (v50, I50, J50) else none)))))) else (oc (f_Model_refuse  I10 J10) (fun v52 I52 J52 => if v52 = 0 ∨ v52 = 1 then some (v52, I52, J52) else none)))) else (oc (R 9 v1 0 I8 J8) (fun v54 I54 J54 => if v54 = 0 ∨ v54 = 1 then some (v54, I54, J54) else none)))) else (oc (R 7 0 0 I1 J1) (fun v56 I56 J56 => if v56 = 0 ∨ v56 = 1 then some (v56, I56, J56) else none))) else (oc (R 10 v1 0 I1 J1) (fun v58 I58 J58 => if v58 = 0 ∨ v58 = 1 then some (v58, I58, J58) else none)))) else (oc (f_Model_readOut  I1 J1) (fun v60 I60 J60 => if v60 = 0 ∨ v60 = 1 then some (v60, I60, J60) else none)))
theorem E_Model_readStatement {R : M3} {X : MX} {I : MI} {J : MJ} {v : Int32} {I' : MI} {J' : MJ} (hR_0 : ∀ {I : MI} {J : MJ} {v : Int32} {I' : MI} {J' : MJ} {P : am_R → am_H → Prop}, R 0 0 0 I J = some (v, I', J') → P (.inl (some (.int v))) (hX X I' J') → am_E (gG L xs) (d + 3) m_Model_readX (0, lv_args 0 [.ref 112], []) (hX X I J) P) (hR_1 : ∀ {I : MI} {J : MJ} {v : Int32} {I' : MI} {J' : MJ} {P : am_R → am_H → Prop}, R 1 0 0 I J = some (v, I', J') → P (.inl (some (.int v))) (hX X I' J') → am_E (gG L xs) (d + 3) m_Model_readProduct (0, lv_args 0 [.ref 112], []) (hX X I J) P) (hR_2 : ∀ {I : MI} {J : MJ} {v : Int32} {I' : MI} {J' : MJ} {P : am_R → am_H → Prop}, R 2 0 0 I J = some (v, I', J') → P (.inl (some (.int v))) (hX X I' J') → am_E (gG L xs) (d + 3) m_Model_readFactor (0, lv_args 0 [.ref 112], []) (hX X I J) P) (hR_3 : ∀ {I : MI} {J : MJ} {v : Int32} {I' : MI} {J' : MJ} {P : am_R → am_H → Prop}, R 3 0 0 I J = some (v, I', J') → P (.inl (some (.int v))) (hX X I' J') → am_E (gG L xs) (d + 3) m_Model_readPart (0, lv_args 0 [.ref 112], []) (hX X I J) P) (hR_4 : ∀ {I : MI} {J : MJ} {v : Int32} {I' : MI} {J' : MJ} {P : am_R → am_H → Prop}, R 4 0 0 I J = some (v, I', J') → P (.inl (some (.int v))) (hX X I' J') → am_E (gG L xs) (d + 3) m_Model_readPlace (0, lv_args 0 [.ref 112], []) (hX X I J) P) (hR_5 : ∀ {I : MI} {J : MJ} {v : Int32} {I' : MI} {J' : MJ} {P : am_R → am_H → Prop}, R 5 0 0 I J = some (v, I', J') → P (.inl (some (.int v))) (hX X I' J') → am_E (gG L xs) (d + 3) m_Model_readStatements (0, lv_args 0 [.ref 112], []) (hX X I J) P) (hR_6 : ∀ {I : MI} {J : MJ} {v : Int32} {I' : MI} {J' : MJ} {P : am_R → am_H → Prop}, R 6 0 0 I J = some (v, I', J') → P (.inl (some (.int v))) (hX X I' J') → am_E (gG L xs) (d + 3) m_Model_readStatement (0, lv_args 0 [.ref 112], []) (hX X I J) P) (hR_7 : ∀ {I : MI} {J : MJ} {v : Int32} {I' : MI} {J' : MJ} {P : am_R → am_H → Prop}, R 7 0 0 I J = some (v, I', J') → P (.inl (some (.int v))) (hX X I' J') → am_E (gG L xs) (d + 3) m_Model_readRoutine (0, lv_args 0 [.ref 112], []) (hX X I J) P) (hR_8 : ∀ {a0 : Int32} {a1 : Int32} {I : MI} {J : MJ} {v : Int32} {I' : MI} {J' : MJ} {P : am_R → am_H → Prop}, R 8 a0 a1 I J = some (v, I', J') → P (.inl (some (.int v))) (hX X I' J') → am_E (gG L xs) (d + 3) m_Model_readValue (0, lv_args 0 [.ref 112, .int a0, .int a1], []) (hX X I J) P) (hR_9 : ∀ {a0 : Int32} {I : MI} {J : MJ} {v : Int32} {I' : MI} {J' : MJ} {P : am_R → am_H → Prop}, R 9 a0 0 I J = some (v, I', J') → P (.inl (some (.int v))) (hX X I' J') → am_E (gG L xs) (d + 3) m_Model_readRow (0, lv_args 0 [.ref 112, .int a0], []) (hX X I J) P) (hR_10 : ∀ {a0 : Int32} {I : MI} {J : MJ} {v : Int32} {I' : MI} {J' : MJ} {P : am_R → am_H → Prop}, R 10 a0 0 I J = some (v, I', J') → P (.inl (some (.int v))) (hX X I' J') → am_E (gG L xs) (d + 3) m_Model_readTurn (0, lv_args 0 [.ref 112, .int a0], []) (hX X I J) P) (hb : f_Model_readStatement R  I J = some (v, I', J')) (K : P (.inl (some (.int v))) (hX X I' J')) : am_E (gG L xs) (d + 4) m_Model_readStatement (0, lv_args 0 [.ref 112], []) (hX X I J) P := by
  unfold f_Model_readStatement at hb
  refine e_k 1 (f' := (1, [(0, .ref 112)], [.ref 112])) rfl ?_
  obtain ⟨v1, I1, J1, h1, hb⟩ := oc_call hb
  refine r_cv (z := m_Model_see) (As := []) (rest := []) rfl rfl rfl rfl rfl (x_ltn rfl) rfl rfl (E_Model_see  h1 ⟨_, rfl, ?_⟩)
  refine e_k 4 (f' := (if ¬ v1 = 62 then 16 else 11, [(1, .int v1), (0, .ref 112)], [])) rfl ?_
  refine e_if (fun c2 => ?_) (fun c2 => ?_)
  · replace hb := i_pos c2 hb
    refine e_k 3 (f' := (if v1 = 63 then 28 else 22, [(1, .int v1), (0, .ref 112)], [])) rfl ?_
    refine e_if (fun c3 => ?_) (fun c3 => ?_)
    · replace hb := i_pos c3 hb
      refine e_k 2 (f' := (30, [(1, .int v1), (0, .ref 112)], [.int v1, .ref 112])) rfl ?_
      obtain ⟨v4, I4, J4, h4, hb⟩ := oc_call hb
      refine r_cv (z := m_Model_readTurn) (As := [.int v1]) (rest := []) rfl rfl rfl rfl rfl (x_ltn rfl) rfl rfl (hR_10  h4 ⟨_, rfl, ?_⟩)
      obtain ⟨o5, hb⟩ := ob_if hb
      obtain ⟨rfl, rfl, rfl⟩ := s_inj hb
      exact e_r rfl (if_pos o5) K
    · replace hb := i_neg c3 hb
      refine e_k 3 (f' := (if ¬ v1 = 42 then 34 else 28, [(1, .int v1), (0, .ref 112)], [])) rfl ?_
      refine e_if (fun c6 => ?_) (fun c6 => ?_)
      · replace hb := i_pos c6 hb
        refine e_k 3 (f' := (if ¬ v1 = 64 then 45 else 40, [(1, .int v1), (0, .ref 112)], [])) rfl ?_
        refine e_if (fun c7 => ?_) (fun c7 => ?_)
        · replace hb := i_pos c7 hb
          refine e_k 1 (f' := (46, [(1, .int v1), (0, .ref 112)], [.ref 112])) rfl ?_
          obtain ⟨v8, I8, J8, h8, hb⟩ := oc_call hb
          refine r_cv (z := m_Model_isRow) (As := []) (rest := []) rfl rfl rfl rfl rfl (x_ltn rfl) rfl rfl (E_Model_isRow  h8 ⟨_, rfl, ?_⟩)
          refine e_k 1 (f' := (if v8 = 0 then 58 else 52, [(1, .int v1), (0, .ref 112)], [])) rfl ?_
          refine e_if (fun c9 => ?_) (fun c9 => ?_)
          · replace hb := i_pos c9 hb
            refine e_k 1 (f' := (59, [(1, .int v1), (0, .ref 112)], [.ref 112])) rfl ?_
            obtain ⟨v10, I10, J10, h10, hb⟩ := oc_call hb
            refine r_cv (z := m_Model_isVariable) (As := []) (rest := []) rfl rfl rfl rfl rfl (x_ltn rfl) rfl rfl (E_Model_isVariable  h10 ⟨_, rfl, ?_⟩)
            refine e_k 1 (f' := (if ¬ v10 = 0 then 70 else 65, [(1, .int v1), (0, .ref 112)], [])) rfl ?_
            refine e_if (fun c11 => ?_) (fun c11 => ?_)
            · replace hb := i_pos c11 hb
              refine e_k 1 (f' := (71, [(1, .int v1), (0, .ref 112)], [.ref 112])) rfl ?_
              refine r_geti rfl (x_ltn rfl) rfl rfl ?_
              refine e_k 1 (f' := (75, [(2, .int (I10 112 5)), (1, .int v1), (0, .ref 112)], [])) rfl ?_
              obtain ⟨x12, ex12, hb⟩ := p_nm hb
              rw [← ex12]
              refine e_k 2 (f' := (77, [(2, .int x12), (1, .int v1), (0, .ref 112)], [.ref 112, .ref 112])) rfl ?_
              refine r_geti rfl (x_ltn rfl) rfl rfl ?_
              refine e_k 2 (f' := (82, [(2, .int x12), (1, .int v1), (0, .ref 112)], [.int ((I10 112 5) + 1), .ref 112])) rfl ?_
              obtain ⟨I13, eI13, hb⟩ := p_nm hb
              refine r_puti' rfl (x_ltn rfl) rfl rfl eI13 ?_
              refine e_k 2 (f' := (88, [(2, .int x12), (1, .int v1), (0, .ref 112)], [.int 60, .ref 112])) rfl ?_
              obtain ⟨v14, I14, J14, h14, hb⟩ := oc_call hb
              refine r_cv (z := m_Model_takes) (As := [.int 60]) (rest := []) rfl rfl rfl rfl rfl (x_ltn rfl) rfl rfl (E_Model_takes  h14 ⟨_, rfl, ?_⟩)
              refine e_k 1 (f' := (if v14 = 0 then 101 else 94, [(2, .int x12), (1, .int v1), (0, .ref 112)], [])) rfl ?_
              refine e_if (fun c15 => ?_) (fun c15 => ?_)
              · replace hb := i_pos c15 hb
                refine e_k 2 (f' := (104, [(2, .int x12), (1, .int v1), (0, .ref 112)], [.int 61, .ref 112])) rfl ?_
                obtain ⟨v16, I16, J16, h16, hb⟩ := oc_call hb
                refine r_cv (z := m_Model_takes) (As := [.int 61]) (rest := []) rfl rfl rfl rfl rfl (x_ltn rfl) rfl rfl (E_Model_takes  h16 ⟨_, rfl, ?_⟩)
                refine e_k 1 (f' := (if v16 = 0 then 117 else 110, [(2, .int x12), (1, .int v1), (0, .ref 112)], [])) rfl ?_
                refine e_if (fun c17 => ?_) (fun c17 => ?_)
                · replace hb := i_pos c17 hb
                  refine e_k 2 (f' := (120, [(2, .int x12), (1, .int v1), (0, .ref 112)], [.int 33, .ref 112])) rfl ?_
                  obtain ⟨v18, I18, J18, h18, hb⟩ := oc_call hb
                  refine r_cv (z := m_Model_takes) (As := [.int 33]) (rest := []) rfl rfl rfl rfl rfl (x_ltn rfl) rfl rfl (E_Model_takes  h18 ⟨_, rfl, ?_⟩)
                  refine e_k 1 (f' := (if v18 = 0 then 133 else 126, [(2, .int x12), (1, .int v1), (0, .ref 112)], [])) rfl ?_
                  refine e_if (fun c19 => ?_) (fun c19 => ?_)
                  · replace hb := i_pos c19 hb
                    refine e_k 2 (f' := (136, [(2, .int x12), (1, .int v1), (0, .ref 112)], [.int 58, .ref 112])) rfl ?_
                    obtain ⟨v20, I20, J20, h20, hb⟩ := oc_call hb
                    refine r_cv (z := m_Model_takes) (As := [.int 58]) (rest := []) rfl rfl rfl rfl rfl (x_ltn rfl) rfl rfl (E_Model_takes  h20 ⟨_, rfl, ?_⟩)
                    refine e_k 1 (f' := (if ¬ v20 = 0 then 147 else 142, [(2, .int x12), (1, .int v1), (0, .ref 112)], [])) rfl ?_
                    refine e_if (fun c21 => ?_) (fun c21 => ?_)
                    · replace hb := i_pos c21 hb
                      refine e_k 1 (f' := (148, [(2, .int x12), (1, .int v1), (0, .ref 112)], [.ref 112])) rfl ?_
                      obtain ⟨v22, I22, J22, h22, hb⟩ := oc_call hb
                      refine r_cv (z := m_Model_isVariable) (As := []) (rest := []) rfl rfl rfl rfl rfl (x_ltn rfl) rfl rfl (E_Model_isVariable  h22 ⟨_, rfl, ?_⟩)
                      refine e_k 1 (f' := (if ¬ v22 = 0 then 159 else 154, [(2, .int x12), (1, .int v1), (0, .ref 112)], [])) rfl ?_
                      refine e_if (fun c23 => ?_) (fun c23 => ?_)
                      · replace hb := i_pos c23 hb
                        refine e_k 1 (f' := (160, [(2, .int x12), (1, .int v1), (0, .ref 112)], [.ref 112])) rfl ?_
                        obtain ⟨v24, I24, J24, h24, hb⟩ := oc_call hb
                        refine r_cv (z := m_Model_see) (As := []) (rest := []) rfl rfl rfl rfl rfl (x_ltn rfl) rfl rfl (E_Model_see  h24 ⟨_, rfl, ?_⟩)
                        refine e_k 2 (f' := (165, [(3, .int v24), (2, .int x12), (1, .int v1), (0, .ref 112)], [.int v1])) rfl ?_
                        obtain ⟨v25, I25, J25, h25, hb⟩ := oc_call hb
                        refine r_cs (z := m_Model_isSecret) (As := [.int v1]) (rest := []) rfl rfl rfl rfl rfl rfl (E_Model_isSecret  h25 ⟨_, rfl, ?_⟩)
                        refine e_k 1 (f' := (if v25 = 0 then 177 else 171, [(3, .int v24), (2, .int x12), (1, .int v1), (0, .ref 112)], [])) rfl ?_
                        obtain ⟨v27, I27, J27, h27, hb⟩ := oc_call hb
                        have Kj27 : am_E (gG L xs) (d + 4) m_Model_readStatement (177, [(0, .ref 112), (1, .int v1), (3, .int v24)], []) (hX X I27 J27) P := by
                          refine e_k 1 (f' := (178, [(0, .ref 112), (1, .int v1), (3, .int v24)], [.int v24])) rfl ?_
                          obtain ⟨v30, I30, J30, h30, hb⟩ := oc_call hb
                          refine r_cs (z := m_Model_isClear) (As := [.int v24]) (rest := []) rfl rfl rfl rfl rfl rfl (E_Model_isClear  h30 ⟨_, rfl, ?_⟩)
                          refine e_k 1 (f' := (if v30 = 0 then 193 else 184, [(0, .ref 112), (1, .int v1), (3, .int v24)], [])) rfl ?_
                          obtain ⟨v32, I32, J32, h32, hb⟩ := oc_call hb
                          have Kj32 : am_E (gG L xs) (d + 4) m_Model_readStatement (193, [(0, .ref 112), (1, .int v1), (3, .int v24)], []) (hX X I32 J32) P := by
                            refine e_k 2 (f' := (195, [(0, .ref 112), (1, .int v1), (3, .int v24)], [.ref 112, .ref 112])) rfl ?_
                            refine r_geti rfl (x_ltn rfl) rfl rfl ?_
                            refine e_k 2 (f' := (200, [(0, .ref 112), (1, .int v1), (3, .int v24)], [.int ((I32 112 5) + 1), .ref 112])) rfl ?_
                            obtain ⟨I35, eI35, hb⟩ := p_nm hb
                            refine r_puti' rfl (x_ltn rfl) rfl rfl eI35 ?_
                            refine e_k 3 (f' := (207, [(0, .ref 112), (1, .int v1), (3, .int v24)], [.int v1, .int 14, .ref 112])) rfl ?_
                            obtain ⟨v36, I36, J36, h36, hb⟩ := oc_call hb
                            refine r_cs (z := m_Model_numberOf) (As := [.int v1]) (rest := [.int 14, .ref 112]) rfl rfl rfl rfl rfl rfl (E_Model_numberOf  h36 ⟨_, rfl, ?_⟩)
                            obtain ⟨v37, I37, J37, h37, hb⟩ := oc_call hb
                            refine r_cv (z := m_Model_lay_IIV) (As := [.int 14, .int v36]) (rest := []) rfl rfl rfl rfl rfl (x_ltn rfl) rfl rfl (E_Model_lay_IIV  h37 ⟨_, rfl, ?_⟩)
                            refine e_k 2 (f' := (215, [(0, .ref 112), (1, .int v1), (3, .int v24)], [.int v24, .ref 112])) rfl ?_
                            obtain ⟨v38, I38, J38, h38, hb⟩ := oc_call hb
                            refine r_cs (z := m_Model_numberOf) (As := [.int v24]) (rest := [.ref 112]) rfl rfl rfl rfl rfl rfl (E_Model_numberOf  h38 ⟨_, rfl, ?_⟩)
                            obtain ⟨v39, I39, J39, h39, hb⟩ := oc_call hb
                            refine r_cv (z := m_Model_lay_IV) (As := [.int v38]) (rest := []) rfl rfl rfl rfl rfl (x_ltn rfl) rfl rfl (E_Model_lay_IV  h39 ⟨_, rfl, ?_⟩)
                            refine e_k 2 (f' := (224, [(0, .ref 112), (1, .int v1), (3, .int v24)], [.int 59, .ref 112])) rfl ?_
                            obtain ⟨v40, I40, J40, h40, hb⟩ := oc_call hb
                            refine r_cv (z := m_Model_want) (As := [.int 59]) (rest := []) rfl rfl rfl rfl rfl (x_ltn rfl) rfl rfl (E_Model_want  h40 ⟨_, rfl, ?_⟩)
                            obtain ⟨o41, hb⟩ := ob_if hb
                            obtain ⟨rfl, rfl, rfl⟩ := s_inj hb
                            exact e_r rfl (if_pos o41) K
                          clear hb
                          refine e_if (fun c33 => ?_) (fun c33 => ?_)
                          · replace h32 := i_pos c33 h32
                            refine e_sub (ls := [(0, .ref 112), (1, .int v1), (3, .int v24)]) rfl ⟨rfl, rfl, rfl, trivial⟩ ?_
                            obtain ⟨rfl, rfl, rfl⟩ := s_inj h32
                            exact Kj32
                          · replace h32 := i_neg c33 h32
                            refine e_k 3 (f' := (187, [(0, .ref 112), (1, .int v1), (3, .int v24)], [.ref 112, .int 2, .ref 112])) rfl ?_
                            refine r_geti rfl (x_ltn rfl) rfl rfl ?_
                            obtain ⟨v34, I34, J34, h34, h32⟩ := oc_call h32
                            refine r_cv (z := m_Model_note) (As := [.int 2, .int (I30 112 5)]) (rest := []) rfl rfl rfl rfl rfl (x_ltn rfl) rfl rfl (E_Model_note  h34 ⟨_, rfl, ?_⟩)
                            refine e_sub (ls := [(0, .ref 112), (1, .int v1), (3, .int v24)]) rfl ⟨rfl, rfl, rfl, trivial⟩ ?_
                            obtain ⟨rfl, rfl, rfl⟩ := s_inj h32
                            exact Kj32
                        clear hb
                        refine e_if (fun c28 => ?_) (fun c28 => ?_)
                        · replace h27 := i_pos c28 h27
                          refine e_sub (ls := [(0, .ref 112), (1, .int v1), (3, .int v24)]) rfl ⟨rfl, rfl, rfl, trivial⟩ ?_
                          obtain ⟨rfl, rfl, rfl⟩ := s_inj h27
                          exact Kj27
                        · replace h27 := i_neg c28 h27
                          refine e_k 3 (f' := (174, [(3, .int v24), (2, .int x12), (1, .int v1), (0, .ref 112)], [.int x12, .int 2, .ref 112])) rfl ?_
                          obtain ⟨v29, I29, J29, h29, h27⟩ := oc_call h27
                          refine r_cv (z := m_Model_note) (As := [.int 2, .int x12]) (rest := []) rfl rfl rfl rfl rfl (x_ltn rfl) rfl rfl (E_Model_note  h29 ⟨_, rfl, ?_⟩)
                          refine e_sub (ls := [(0, .ref 112), (1, .int v1), (3, .int v24)]) rfl ⟨rfl, rfl, rfl, trivial⟩ ?_
                          obtain ⟨rfl, rfl, rfl⟩ := s_inj h27
                          exact Kj27
                      · replace hb := i_neg c23 hb
                        refine e_k 1 (f' := (155, [(2, .int x12), (1, .int v1), (0, .ref 112)], [.ref 112])) rfl ?_
                        obtain ⟨v42, I42, J42, h42, hb⟩ := oc_call hb
                        refine r_cv (z := m_Model_refuse) (As := []) (rest := []) rfl rfl rfl rfl rfl (x_ltn rfl) rfl rfl (E_Model_refuse  h42 ⟨_, rfl, ?_⟩)
                        obtain ⟨o43, hb⟩ := ob_if hb
                        obtain ⟨rfl, rfl, rfl⟩ := s_inj hb
                        exact e_r rfl (if_pos o43) K
                    · replace hb := i_neg c21 hb
                      refine e_k 1 (f' := (143, [(2, .int x12), (1, .int v1), (0, .ref 112)], [.ref 112])) rfl ?_
                      obtain ⟨v44, I44, J44, h44, hb⟩ := oc_call hb
                      refine r_cv (z := m_Model_refuse) (As := []) (rest := []) rfl rfl rfl rfl rfl (x_ltn rfl) rfl rfl (E_Model_refuse  h44 ⟨_, rfl, ?_⟩)
                      obtain ⟨o45, hb⟩ := ob_if hb
                      obtain ⟨rfl, rfl, rfl⟩ := s_inj hb
                      exact e_r rfl (if_pos o45) K
                  · replace hb := i_neg c19 hb
                    refine e_k 3 (f' := (129, [(2, .int x12), (1, .int v1), (0, .ref 112)], [.int x12, .int v1, .ref 112])) rfl ?_
                    obtain ⟨v46, I46, J46, h46, hb⟩ := oc_call hb
                    refine r_cv (z := m_Model_readBit) (As := [.int v1, .int x12]) (rest := []) rfl rfl rfl rfl rfl (x_ltn rfl) rfl rfl (E_Model_readBit  h46 ⟨_, rfl, ?_⟩)
                    obtain ⟨o47, hb⟩ := ob_if hb
                    obtain ⟨rfl, rfl, rfl⟩ := s_inj hb
                    exact e_r rfl (if_pos o47) K
                · replace hb := i_neg c17 hb
                  refine e_k 3 (f' := (113, [(2, .int x12), (1, .int v1), (0, .ref 112)], [.int x12, .int v1, .ref 112])) rfl ?_
                  obtain ⟨v48, I48, J48, h48, hb⟩ := oc_call hb
                  refine r_cv (z := m_Model_readValue) (As := [.int v1, .int x12]) (rest := []) rfl rfl rfl rfl rfl (x_ltn rfl) rfl rfl (hR_8  h48 ⟨_, rfl, ?_⟩)
                  obtain ⟨o49, hb⟩ := ob_if hb
                  obtain ⟨rfl, rfl, rfl⟩ := s_inj hb
                  exact e_r rfl (if_pos o49) K
              · replace hb := i_neg c15 hb
                refine e_k 3 (f' := (97, [(2, .int x12), (1, .int v1), (0, .ref 112)], [.int x12, .int v1, .ref 112])) rfl ?_
                obtain ⟨v50, I50, J50, h50, hb⟩ := oc_call hb
                refine r_cv (z := m_Model_readInput) (As := [.int v1, .int x12]) (rest := []) rfl rfl rfl rfl rfl (x_ltn rfl) rfl rfl (E_Model_readInput  h50 ⟨_, rfl, ?_⟩)
                obtain ⟨o51, hb⟩ := ob_if hb
                obtain ⟨rfl, rfl, rfl⟩ := s_inj hb
                exact e_r rfl (if_pos o51) K
            · replace hb := i_neg c11 hb
              refine e_k 1 (f' := (66, [(1, .int v1), (0, .ref 112)], [.ref 112])) rfl ?_
              obtain ⟨v52, I52, J52, h52, hb⟩ := oc_call hb
              refine r_cv (z := m_Model_refuse) (As := []) (rest := []) rfl rfl rfl rfl rfl (x_ltn rfl) rfl rfl (E_Model_refuse  h52 ⟨_, rfl, ?_⟩)
              obtain ⟨o53, hb⟩ := ob_if hb
              obtain ⟨rfl, rfl, rfl⟩ := s_inj hb
              exact e_r rfl (if_pos o53) K
          · replace hb := i_neg c9 hb
            refine e_k 2 (f' := (54, [(1, .int v1), (0, .ref 112)], [.int v1, .ref 112])) rfl ?_
            obtain ⟨v54, I54, J54, h54, hb⟩ := oc_call hb
            refine r_cv (z := m_Model_readRow) (As := [.int v1]) (rest := []) rfl rfl rfl rfl rfl (x_ltn rfl) rfl rfl (hR_9  h54 ⟨_, rfl, ?_⟩)
            obtain ⟨o55, hb⟩ := ob_if hb
            obtain ⟨rfl, rfl, rfl⟩ := s_inj hb
            exact e_r rfl (if_pos o55) K
        · replace hb := i_neg c7 hb
          refine e_k 1 (f' := (41, [(1, .int v1), (0, .ref 112)], [.ref 112])) rfl ?_
          obtain ⟨v56, I56, J56, h56, hb⟩ := oc_call hb
          refine r_cv (z := m_Model_readRoutine) (As := []) (rest := []) rfl rfl rfl rfl rfl (x_ltn rfl) rfl rfl (hR_7  h56 ⟨_, rfl, ?_⟩)
          obtain ⟨o57, hb⟩ := ob_if hb
          obtain ⟨rfl, rfl, rfl⟩ := s_inj hb
          exact e_r rfl (if_pos o57) K
      · replace hb := i_neg c6 hb
        refine e_k 2 (f' := (30, [(1, .int v1), (0, .ref 112)], [.int v1, .ref 112])) rfl ?_
        obtain ⟨v58, I58, J58, h58, hb⟩ := oc_call hb
        refine r_cv (z := m_Model_readTurn) (As := [.int v1]) (rest := []) rfl rfl rfl rfl rfl (x_ltn rfl) rfl rfl (hR_10  h58 ⟨_, rfl, ?_⟩)
        obtain ⟨o59, hb⟩ := ob_if hb
        obtain ⟨rfl, rfl, rfl⟩ := s_inj hb
        exact e_r rfl (if_pos o59) K
  · replace hb := i_neg c2 hb
    refine e_k 1 (f' := (12, [(1, .int v1), (0, .ref 112)], [.ref 112])) rfl ?_
    obtain ⟨v60, I60, J60, h60, hb⟩ := oc_call hb
    refine r_cv (z := m_Model_readOut) (As := []) (rest := []) rfl rfl rfl rfl rfl (x_ltn rfl) rfl rfl (E_Model_readOut  h60 ⟨_, rfl, ?_⟩)
    obtain ⟨o61, hb⟩ := ob_if hb
    obtain ⟨rfl, rfl, rfl⟩ := s_inj hb
    exact e_r rfl (if_pos o61) K
end AUTO
