section AUTO
variable {L : Nat} {xs : Nat → Int32} {d : Nat} {P : am_R → am_H → Prop}
theorem E_Model_output {p2 : Int32} {p3 : Int32} {X : MX} {I : MI} {J : MJ} {v : Int64} {I' : MI} {J' : MJ} (hb : f_Model_output p2 p3 I J = some (v, I', J')) (K : P (.inl (some (.long v))) (hX X I' J')) : am_E (gG L xs) (d + 1) m_Model_output (0, lv_args 0 [.ref 112, .int p2, .int p3], []) (hX X I J) P := by
  unfold f_Model_output at hb
  refine e_k 2 (f' := (2, [(0, .ref 112), (1, .int p2), (2, .int p3)], [.ref 112, .ref 112])) rfl ?_
  refine r_geti rfl (x_ltn rfl) rfl rfl ?_
  refine e_k 1 (f' := (if (I 112 34) = 0 then 34 else 8, [(0, .ref 112), (1, .int p2), (2, .int p3)], [.ref 112])) rfl ?_
  obtain ⟨v2, I2, J2, h2, hb⟩ := oc_call hb
  have Kj2 : am_E (gG L xs) (d + 1) m_Model_output (35, [(0, .ref 112), (2, .int p3)], [.int v2, .ref 112]) (hX X I2 J2) P := by
    obtain ⟨I9, eI9, hb⟩ := p_nm hb
    refine r_puti' rfl (x_ltn rfl) rfl rfl eI9 ?_
    refine e_k 1 (f' := (39, [(0, .ref 112), (2, .int p3)], [.ref 112])) rfl ?_
    refine r_geti rfl (x_ltn rfl) rfl rfl ?_
    refine e_k 1 (f' := (if ¬ (I9 112 0) = 0 then 54 else 45, [(0, .ref 112), (2, .int p3)], [])) rfl ?_
    refine e_if (fun c10 => ?_) (fun c10 => ?_)
    · replace hb := i_pos c10 hb
      refine e_k 1 (f' := (55, [(0, .ref 112), (2, .int p3)], [.long 0])) rfl ?_
      obtain ⟨rfl, rfl, rfl⟩ := s_inj hb
      exact e_r rfl rfl K
    · replace hb := i_neg c10 hb
      refine e_k 1 (f' := (46, [(0, .ref 112), (2, .int p3)], [.ref 112])) rfl ?_
      refine r_getr rfl (x_ltn rfl) rfl rfl ?_
      refine e_k 1 (f' := (50, [(0, .ref 112), (2, .int p3)], [.int p3, .ref 147])) rfl ?_
      obtain ⟨o11, hb⟩ := ob_in hb
      refine r_lald rfl rfl (x_ltn rfl) rfl o11 ?_
      refine e_k 1 (f' := (55, [(0, .ref 112), (2, .int p3)], [.long (J2 147 (Int32.toNatClampNeg p3))])) rfl ?_
      obtain ⟨rfl, rfl, rfl⟩ := s_inj hb
      exact e_r rfl rfl K
  clear hb
  refine e_if (fun c3 => ?_) (fun c3 => ?_)
  · replace h2 := i_pos c3 h2
    refine e_k 1 (f' := (35, [(0, .ref 112), (1, .int p2), (2, .int p3)], [.int 1, .ref 112])) rfl ?_
    refine e_sub (ls := [(0, .ref 112), (2, .int p3)]) rfl ⟨rfl, rfl, trivial⟩ ?_
    obtain ⟨rfl, rfl, rfl⟩ := s_inj h2
    exact Kj2
  · replace h2 := i_neg c3 h2
    refine e_k 2 (f' := (10, [(0, .ref 112), (1, .int p2), (2, .int p3)], [.int p2, .ref 112, .ref 112])) rfl ?_
    obtain ⟨v4, I4, J4, h4, h2⟩ := oc_call h2
    refine r_cv (z := m_Model_isParty) (As := [.int p2]) (rest := [.ref 112]) rfl rfl rfl rfl rfl (x_ltn rfl) rfl rfl (E_Model_isParty  h4 ⟨_, rfl, ?_⟩)
    refine e_k 1 (f' := (if v4 = 0 then 34 else 16, [(0, .ref 112), (1, .int p2), (2, .int p3)], [.ref 112])) rfl ?_
    refine e_if (fun c5 => ?_) (fun c5 => ?_)
    · replace h2 := i_pos c5 h2
      refine e_k 1 (f' := (35, [(0, .ref 112), (1, .int p2), (2, .int p3)], [.int 1, .ref 112])) rfl ?_
      refine e_sub (ls := [(0, .ref 112), (2, .int p3)]) rfl ⟨rfl, rfl, trivial⟩ ?_
      obtain ⟨rfl, rfl, rfl⟩ := s_inj h2
      exact Kj2
    · replace h2 := i_neg c5 h2
      refine e_k 2 (f' := (if p3 < 0 then 34 else 20, [(0, .ref 112), (1, .int p2), (2, .int p3)], [.ref 112])) rfl ?_
      refine e_if (fun c6 => ?_) (fun c6 => ?_)
      · replace h2 := i_pos c6 h2
        refine e_k 1 (f' := (35, [(0, .ref 112), (1, .int p2), (2, .int p3)], [.int 1, .ref 112])) rfl ?_
        refine e_sub (ls := [(0, .ref 112), (2, .int p3)]) rfl ⟨rfl, rfl, trivial⟩ ?_
        obtain ⟨rfl, rfl, rfl⟩ := s_inj h2
        exact Kj2
      · replace h2 := i_neg c6 h2
        refine e_k 2 (f' := (22, [(0, .ref 112), (1, .int p2), (2, .int p3)], [.ref 112, .int p3, .ref 112])) rfl ?_
        refine r_getr rfl (x_ltn rfl) rfl rfl ?_
        refine e_k 1 (f' := (26, [(0, .ref 112), (1, .int p2), (2, .int p3)], [.int p2, .ref 133, .int p3, .ref 112])) rfl ?_
        obtain ⟨o7, h2⟩ := ob_in h2
        refine r_iald rfl rfl (x_ltn rfl) rfl o7 ?_
        refine e_k 1 (f' := (if (I4 133 (Int32.toNatClampNeg p2)) ≤ p3 then 34 else 30, [(0, .ref 112), (1, .int p2), (2, .int p3)], [.ref 112])) rfl ?_
        refine e_if (fun c8 => ?_) (fun c8 => ?_)
        · replace h2 := i_pos c8 h2
          refine e_k 1 (f' := (35, [(0, .ref 112), (1, .int p2), (2, .int p3)], [.int 1, .ref 112])) rfl ?_
          refine e_sub (ls := [(0, .ref 112), (2, .int p3)]) rfl ⟨rfl, rfl, trivial⟩ ?_
          obtain ⟨rfl, rfl, rfl⟩ := s_inj h2
          exact Kj2
        · replace h2 := i_neg c8 h2
          refine e_k 2 (f' := (35, [(0, .ref 112), (1, .int p2), (2, .int p3)], [.int 0, .ref 112])) rfl ?_
          refine e_sub (ls := [(0, .ref 112), (2, .int p3)]) rfl ⟨rfl, rfl, trivial⟩ ?_
          obtain ⟨rfl, rfl, rfl⟩ := s_inj h2
          exact Kj2
theorem E_Model_clear {p2 : Int32} {p3 : Int32} {X : MX} {I : MI} {J : MJ} {v : Int64} {I' : MI} {J' : MJ} (hb : f_Model_clear p2 p3 I J = some (v, I', J')) (K : P (.inl (some (.long v))) (hX X I' J')) : am_E (gG L xs) (d + 1) m_Model_clear (0, lv_args 0 [.ref 112, .int p2, .int p3], []) (hX X I J) P := by
  unfold f_Model_clear at hb
  refine e_k 3 (f' := (if p3 < 100 then 17 else 6, [(0, .ref 112), (1, .int p2), (2, .int p3)], [])) rfl ?_
  obtain ⟨v2, h2, hb⟩ := p_nn hb
  have Kj2 : am_E (gG L xs) (d + 1) m_Model_clear (18, [(0, .ref 112), (1, .int p2), (2, .int p3)], [.int v2]) (hX X I J) P := by
    refine e_k 3 (f' := (21, [(3, .int v2), (0, .ref 112), (1, .int p2), (2, .int p3)], [.ref 112, .ref 112])) rfl ?_
    refine r_geti rfl (x_ltn rfl) rfl rfl ?_
    refine e_k 1 (f' := (if (I 112 34) = 0 then 53 else 27, [(3, .int v2), (0, .ref 112), (1, .int p2), (2, .int p3)], [.ref 112])) rfl ?_
    obtain ⟨v6, I6, J6, h6, hb⟩ := oc_call hb
    have Kj6 : am_E (gG L xs) (d + 1) m_Model_clear (54, [(0, .ref 112), (1, .int p2), (2, .int p3), (3, .int v2)], [.int v6, .ref 112]) (hX X I6 J6) P := by
      obtain ⟨I13, eI13, hb⟩ := p_nm hb
      refine r_puti' rfl (x_ltn rfl) rfl rfl eI13 ?_
      refine e_k 1 (f' := (58, [(0, .ref 112), (1, .int p2), (2, .int p3), (3, .int v2)], [.ref 112])) rfl ?_
      refine r_geti rfl (x_ltn rfl) rfl rfl ?_
      refine e_k 1 (f' := (if (I13 112 0) ≤ 0 then 68 else 64, [(0, .ref 112), (1, .int p2), (2, .int p3), (3, .int v2)], [])) rfl ?_
      refine e_if (fun c14 => ?_) (fun c14 => ?_)
      · replace hb := i_pos c14 hb
        refine e_k 1 (f' := (69, [(0, .ref 112), (1, .int p2), (2, .int p3), (3, .int v2)], [.ref 112])) rfl ?_
        refine r_getr rfl (x_ltn rfl) rfl rfl ?_
        refine e_k 5 (f' := (if v2 = 0 then 91 else 81, [(0, .ref 112), (1, .int p2), (2, .int p3), (3, .int v2)], [.int (154 * p2), .ref 143])) rfl ?_
        obtain ⟨v16, h16, hb⟩ := p_nn hb
        have Kj16 : am_E (gG L xs) (d + 1) m_Model_clear (92, [], [.int v16, .int (154 * p2), .ref 143]) (hX X I13 J6) P := by
          refine e_k 1 (f' := (93, [], [.int ((154 * p2) + v16), .ref 143])) rfl ?_
          obtain ⟨o18, hb⟩ := ob_in hb
          refine r_lald rfl rfl (x_ltn rfl) rfl o18 ?_
          obtain ⟨rfl, rfl, rfl⟩ := s_inj hb
          exact e_r rfl rfl K
        clear hb
        refine e_if (fun c17 => ?_) (fun c17 => ?_)
        · replace h16 := i_pos c17 h16
          refine e_k 1 (f' := (92, [(0, .ref 112), (1, .int p2), (2, .int p3), (3, .int v2)], [.int p3, .int (154 * p2), .ref 143])) rfl ?_
          refine e_sub (ls := []) rfl ⟨⟩ ?_
          subst h16
          exact Kj16
        · replace h16 := i_neg c17 h16
          refine e_k 6 (f' := (92, [(0, .ref 112), (1, .int p2), (2, .int p3), (3, .int v2)], [.int ((26 + p3) - 100), .int (154 * p2), .ref 143])) rfl ?_
          refine e_sub (ls := []) rfl ⟨⟩ ?_
          subst h16
          exact Kj16
      · replace hb := i_neg c14 hb
        refine e_k 2 (f' := (94, [(0, .ref 112), (1, .int p2), (2, .int p3), (3, .int v2)], [.long 0])) rfl ?_
        obtain ⟨rfl, rfl, rfl⟩ := s_inj hb
        exact e_r rfl rfl K
    clear hb
    refine e_if (fun c7 => ?_) (fun c7 => ?_)
    · replace h6 := i_pos c7 h6
      refine e_k 1 (f' := (54, [(3, .int v2), (0, .ref 112), (1, .int p2), (2, .int p3)], [.int 1, .ref 112])) rfl ?_
      refine e_sub (ls := [(0, .ref 112), (1, .int p2), (2, .int p3), (3, .int v2)]) rfl ⟨rfl, rfl, rfl, rfl, trivial⟩ ?_
      obtain ⟨rfl, rfl, rfl⟩ := s_inj h6
      exact Kj6
    · replace h6 := i_neg c7 h6
      refine e_k 2 (f' := (29, [(3, .int v2), (0, .ref 112), (1, .int p2), (2, .int p3)], [.int p2, .ref 112, .ref 112])) rfl ?_
      obtain ⟨v8, I8, J8, h8, h6⟩ := oc_call h6
      refine r_cv (z := m_Model_isParty) (As := [.int p2]) (rest := [.ref 112]) rfl rfl rfl rfl rfl (x_ltn rfl) rfl rfl (E_Model_isParty  h8 ⟨_, rfl, ?_⟩)
      refine e_k 1 (f' := (if v8 = 0 then 53 else 35, [(3, .int v2), (0, .ref 112), (1, .int p2), (2, .int p3)], [.ref 112])) rfl ?_
      refine e_if (fun c9 => ?_) (fun c9 => ?_)
      · replace h6 := i_pos c9 h6
        refine e_k 1 (f' := (54, [(3, .int v2), (0, .ref 112), (1, .int p2), (2, .int p3)], [.int 1, .ref 112])) rfl ?_
        refine e_sub (ls := [(0, .ref 112), (1, .int p2), (2, .int p3), (3, .int v2)]) rfl ⟨rfl, rfl, rfl, rfl, trivial⟩ ?_
        obtain ⟨rfl, rfl, rfl⟩ := s_inj h6
        exact Kj6
      · replace h6 := i_neg c9 h6
        refine e_k 2 (f' := (if ¬ v2 = 0 then 49 else 39, [(3, .int v2), (0, .ref 112), (1, .int p2), (2, .int p3)], [.ref 112])) rfl ?_
        refine e_if (fun c10 => ?_) (fun c10 => ?_)
        · replace h6 := i_pos c10 h6
          refine e_k 2 (f' := (54, [(3, .int v2), (0, .ref 112), (1, .int p2), (2, .int p3)], [.int 0, .ref 112])) rfl ?_
          refine e_sub (ls := [(0, .ref 112), (1, .int p2), (2, .int p3), (3, .int v2)]) rfl ⟨rfl, rfl, rfl, rfl, trivial⟩ ?_
          obtain ⟨rfl, rfl, rfl⟩ := s_inj h6
          exact Kj6
        · replace h6 := i_neg c10 h6
          refine e_k 2 (f' := (if p3 < 0 then 53 else 43, [(3, .int v2), (0, .ref 112), (1, .int p2), (2, .int p3)], [.ref 112])) rfl ?_
          refine e_if (fun c11 => ?_) (fun c11 => ?_)
          · replace h6 := i_pos c11 h6
            refine e_k 1 (f' := (54, [(3, .int v2), (0, .ref 112), (1, .int p2), (2, .int p3)], [.int 1, .ref 112])) rfl ?_
            refine e_sub (ls := [(0, .ref 112), (1, .int p2), (2, .int p3), (3, .int v2)]) rfl ⟨rfl, rfl, rfl, rfl, trivial⟩ ?_
            obtain ⟨rfl, rfl, rfl⟩ := s_inj h6
            exact Kj6
          · replace h6 := i_neg c11 h6
            refine e_k 3 (f' := (if 13 ≤ p3 then 53 else 49, [(3, .int v2), (0, .ref 112), (1, .int p2), (2, .int p3)], [.ref 112])) rfl ?_
            refine e_if (fun c12 => ?_) (fun c12 => ?_)
            · replace h6 := i_pos c12 h6
              refine e_k 1 (f' := (54, [(3, .int v2), (0, .ref 112), (1, .int p2), (2, .int p3)], [.int 1, .ref 112])) rfl ?_
              refine e_sub (ls := [(0, .ref 112), (1, .int p2), (2, .int p3), (3, .int v2)]) rfl ⟨rfl, rfl, rfl, rfl, trivial⟩ ?_
              obtain ⟨rfl, rfl, rfl⟩ := s_inj h6
              exact Kj6
            · replace h6 := i_neg c12 h6
              refine e_k 2 (f' := (54, [(3, .int v2), (0, .ref 112), (1, .int p2), (2, .int p3)], [.int 0, .ref 112])) rfl ?_
              refine e_sub (ls := [(0, .ref 112), (1, .int p2), (2, .int p3), (3, .int v2)]) rfl ⟨rfl, rfl, rfl, rfl, trivial⟩ ?_
              obtain ⟨rfl, rfl, rfl⟩ := s_inj h6
              exact Kj6
  clear hb
  refine e_if (fun c3 => ?_) (fun c3 => ?_)
  · replace h2 := i_pos c3 h2
    refine e_k 1 (f' := (18, [(0, .ref 112), (1, .int p2), (2, .int p3)], [.int 0])) rfl ?_
    refine e_sub (ls := [(0, .ref 112), (1, .int p2), (2, .int p3)]) rfl ⟨rfl, rfl, rfl, trivial⟩ ?_
    subst h2
    exact Kj2
  · replace h2 := i_neg c3 h2
    refine e_k 3 (f' := (if 164 ≤ p3 then 17 else 13, [(0, .ref 112), (1, .int p2), (2, .int p3)], [])) rfl ?_
    refine e_if (fun c4 => ?_) (fun c4 => ?_)
    · replace h2 := i_pos c4 h2
      refine e_k 1 (f' := (18, [(0, .ref 112), (1, .int p2), (2, .int p3)], [.int 0])) rfl ?_
      refine e_sub (ls := [(0, .ref 112), (1, .int p2), (2, .int p3)]) rfl ⟨rfl, rfl, rfl, trivial⟩ ?_
      subst h2
      exact Kj2
    · replace h2 := i_neg c4 h2
      refine e_k 2 (f' := (18, [(0, .ref 112), (1, .int p2), (2, .int p3)], [.int 1])) rfl ?_
      refine e_sub (ls := [(0, .ref 112), (1, .int p2), (2, .int p3)]) rfl ⟨rfl, rfl, rfl, trivial⟩ ?_
      subst h2
      exact Kj2
theorem E_Model_bound {p2 : Int32} {p3 : Int32} {p4 : Int32} {X : MX} {I : MI} {J : MJ} {v : Int32} {I' : MI} {J' : MJ} (hb : f_Model_bound p2 p3 p4 I J = some (v, I', J')) (K : P (.inl (some (.int v))) (hX X I' J')) : am_E (gG L xs) (d + 2) m_Model_bound (0, lv_args 0 [.ref 112, .int p2, .int p3, .int p4], []) (hX X I J) P := by
  unfold f_Model_bound at hb
  refine e_k 1 (f' := (1, [(0, .ref 112), (1, .int p2), (2, .int p3), (3, .int p4)], [.ref 112])) rfl ?_
  refine r_geti rfl (x_ltn rfl) rfl rfl ?_
  refine e_k 1 (f' := (if (I 112 34) = 0 then 59 else 7, [(0, .ref 112), (1, .int p2), (2, .int p3), (3, .int p4)], [])) rfl ?_
  obtain ⟨v2, I2, J2, h2, hb⟩ := oc_call hb
  have Kj2 : am_E (gG L xs) (d + 2) m_Model_bound (60, [(0, .ref 112), (1, .int p2), (2, .int p3), (3, .int p4)], [.int v2]) (hX X I2 J2) P := by
    refine e_k 4 (f' := (if v2 = 0 then 72 else 68, [(4, .int v2), (0, .ref 112), (1, .int p2), (2, .int p3), (3, .int p4)], [.ref 112])) rfl ?_
    obtain ⟨v17, h17, hb⟩ := p_nn hb
    have Kj17 : am_E (gG L xs) (d + 2) m_Model_bound (73, [(0, .ref 112), (1, .int p2), (2, .int p3), (3, .int p4), (4, .int v2)], [.int v17, .ref 112]) (hX X I2 J2) P := by
      obtain ⟨I19, eI19, hb⟩ := p_nm hb
      refine r_puti' rfl (x_ltn rfl) rfl rfl eI19 ?_
      refine e_k 2 (f' := (if ¬ v2 = 0 then 83 else 81, [(0, .ref 112), (1, .int p2), (2, .int p3), (3, .int p4), (4, .int v2)], [])) rfl ?_
      refine e_if (fun c20 => ?_) (fun c20 => ?_)
      · replace hb := i_pos c20 hb
        refine e_k 2 (f' := (85, [(0, .ref 112), (1, .int p2), (2, .int p3), (3, .int p4), (4, .int v2)], [.ref 112, .int 4])) rfl ?_
        refine r_getr rfl (x_ltn rfl) rfl rfl ?_
        refine e_k 1 (f' := (89, [(0, .ref 112), (1, .int p2), (2, .int p3), (3, .int p4), (4, .int v2)], [.int p2, .ref 142, .int 4])) rfl ?_
        obtain ⟨o21, hb⟩ := ob_in hb
        refine r_iald rfl rfl (x_ltn rfl) rfl o21 ?_
        refine e_k 4 (f' := (95, [(5, .int ((4 * (I19 142 (Int32.toNatClampNeg p2))) + p3)), (0, .ref 112), (1, .int p2), (2, .int p3), (3, .int p4), (4, .int v2)], [])) rfl ?_
        obtain ⟨x22, ex22, hb⟩ := p_nm hb
        rw [← ex22]
        refine e_k 2 (f' := (97, [(5, .int x22), (0, .ref 112), (1, .int p2), (2, .int p3), (3, .int p4), (4, .int v2)], [.ref 112, .ref 112])) rfl ?_
        refine r_getr rfl (x_ltn rfl) rfl rfl ?_
        refine e_k 1 (f' := (102, [(5, .int x22), (0, .ref 112), (1, .int p2), (2, .int p3), (3, .int p4), (4, .int v2)], [.int x22, .ref 154, .ref 112])) rfl ?_
        obtain ⟨o23, hb⟩ := ob_in hb
        refine r_lald rfl rfl (x_ltn rfl) rfl o23 ?_
        refine e_k 1 (f' := (104, [(5, .int x22), (0, .ref 112), (1, .int p2), (2, .int p3), (3, .int p4), (4, .int v2)], [.ref 112, .long (J2 154 (Int32.toNatClampNeg x22)), .ref 112])) rfl ?_
        refine r_getr rfl (x_ltn rfl) rfl rfl ?_
        refine e_k 1 (f' := (109, [(5, .int x22), (0, .ref 112), (1, .int p2), (2, .int p3), (3, .int p4), (4, .int v2)], [.int x22, .ref 155, .long (J2 154 (Int32.toNatClampNeg x22)), .ref 112])) rfl ?_
        obtain ⟨o24, hb⟩ := ob_in hb
        refine r_lald rfl rfl (x_ltn rfl) rfl o24 ?_
        obtain ⟨v25, I25, J25, h25, hb⟩ := oc_call hb
        refine r_cv (z := m_Model_digestOf) (As := [.long (J2 154 (Int32.toNatClampNeg x22)), .long (J2 155 (Int32.toNatClampNeg x22))]) (rest := []) rfl rfl rfl rfl rfl (x_ltn rfl) rfl rfl (E_Model_digestOf  h25 ⟨_, rfl, ?_⟩)
        refine e_k 1 (f' := (114, [(5, .int x22), (0, .ref 112), (1, .int p2), (2, .int p3), (3, .int p4), (4, .int v2)], [.ref 112])) rfl ?_
        refine r_getr rfl (x_ltn rfl) rfl rfl ?_
        refine e_k 3 (f' := (120, [(5, .int x22), (0, .ref 112), (1, .int p2), (2, .int p3), (3, .int p4), (4, .int v2)], [.int (p4 / 4), .ref 161])) rfl ?_
        obtain ⟨o26, hb⟩ := ob_in hb
        refine r_iald rfl rfl (x_ltn rfl) rfl o26 ?_
        refine e_k 10 (f' := (135, [(5, .int x22), (0, .ref 112), (1, .int p2), (2, .int p3), (3, .int p4), (4, .int v2)], [.int (((I25 161 (Int32.toNatClampNeg (p4 / 4))) >>> ((24 - (8 * (p4 - p4 / 4 * 4))) &&& 31)) &&& 255)])) rfl ?_
        obtain ⟨rfl, rfl, rfl⟩ := s_inj hb
        exact e_r rfl rfl K
      · replace hb := i_neg c20 hb
        refine e_k 1 (f' := (82, [(0, .ref 112), (1, .int p2), (2, .int p3), (3, .int p4), (4, .int v2)], [.int 0])) rfl ?_
        obtain ⟨rfl, rfl, rfl⟩ := s_inj hb
        exact e_r rfl rfl K
    clear hb
    refine e_if (fun c18 => ?_) (fun c18 => ?_)
    · replace h17 := i_pos c18 h17
      refine e_k 1 (f' := (73, [(4, .int v2), (0, .ref 112), (1, .int p2), (2, .int p3), (3, .int p4)], [.int 1, .ref 112])) rfl ?_
      refine e_sub (ls := [(0, .ref 112), (1, .int p2), (2, .int p3), (3, .int p4), (4, .int v2)]) rfl ⟨rfl, rfl, rfl, rfl, rfl, trivial⟩ ?_
      subst h17
      exact Kj17
    · replace h17 := i_neg c18 h17
      refine e_k 2 (f' := (73, [(4, .int v2), (0, .ref 112), (1, .int p2), (2, .int p3), (3, .int p4)], [.int 0, .ref 112])) rfl ?_
      refine e_sub (ls := [(0, .ref 112), (1, .int p2), (2, .int p3), (3, .int p4), (4, .int v2)]) rfl ⟨rfl, rfl, rfl, rfl, rfl, trivial⟩ ?_
      subst h17
      exact Kj17
  clear hb
  refine e_if (fun c3 => ?_) (fun c3 => ?_)
  · replace h2 := i_pos c3 h2
    refine e_k 1 (f' := (60, [(0, .ref 112), (1, .int p2), (2, .int p3), (3, .int p4)], [.int 0])) rfl ?_
    refine e_sub (ls := [(0, .ref 112), (1, .int p2), (2, .int p3), (3, .int p4)]) rfl ⟨rfl, rfl, rfl, rfl, trivial⟩ ?_
    obtain ⟨rfl, rfl, rfl⟩ := s_inj h2
    exact Kj2
  · replace h2 := i_neg c3 h2
    refine e_k 2 (f' := (9, [(0, .ref 112), (1, .int p2), (2, .int p3), (3, .int p4)], [.int p2, .ref 112])) rfl ?_
    obtain ⟨v4, I4, J4, h4, h2⟩ := oc_call h2
    refine r_cv (z := m_Model_isParty) (As := [.int p2]) (rest := []) rfl rfl rfl rfl rfl (x_ltn rfl) rfl rfl (E_Model_isParty  h4 ⟨_, rfl, ?_⟩)
    refine e_k 1 (f' := (if v4 = 0 then 59 else 15, [(0, .ref 112), (1, .int p2), (2, .int p3), (3, .int p4)], [])) rfl ?_
    refine e_if (fun c5 => ?_) (fun c5 => ?_)
    · replace h2 := i_pos c5 h2
      refine e_k 1 (f' := (60, [(0, .ref 112), (1, .int p2), (2, .int p3), (3, .int p4)], [.int 0])) rfl ?_
      refine e_sub (ls := [(0, .ref 112), (1, .int p2), (2, .int p3), (3, .int p4)]) rfl ⟨rfl, rfl, rfl, rfl, trivial⟩ ?_
      obtain ⟨rfl, rfl, rfl⟩ := s_inj h2
      exact Kj2
    · replace h2 := i_neg c5 h2
      refine e_k 2 (f' := (17, [(0, .ref 112), (1, .int p2), (2, .int p3), (3, .int p4)], [.int p3, .ref 112])) rfl ?_
      obtain ⟨v6, I6, J6, h6, h2⟩ := oc_call h2
      refine r_cv (z := m_Model_isParty) (As := [.int p3]) (rest := []) rfl rfl rfl rfl rfl (x_ltn rfl) rfl rfl (E_Model_isParty  h6 ⟨_, rfl, ?_⟩)
      refine e_k 1 (f' := (if v6 = 0 then 59 else 23, [(0, .ref 112), (1, .int p2), (2, .int p3), (3, .int p4)], [])) rfl ?_
      refine e_if (fun c7 => ?_) (fun c7 => ?_)
      · replace h2 := i_pos c7 h2
        refine e_k 1 (f' := (60, [(0, .ref 112), (1, .int p2), (2, .int p3), (3, .int p4)], [.int 0])) rfl ?_
        refine e_sub (ls := [(0, .ref 112), (1, .int p2), (2, .int p3), (3, .int p4)]) rfl ⟨rfl, rfl, rfl, rfl, trivial⟩ ?_
        obtain ⟨rfl, rfl, rfl⟩ := s_inj h2
        exact Kj2
      · replace h2 := i_neg c7 h2
        refine e_k 2 (f' := (if p4 < 0 then 59 else 27, [(0, .ref 112), (1, .int p2), (2, .int p3), (3, .int p4)], [])) rfl ?_
        refine e_if (fun c8 => ?_) (fun c8 => ?_)
        · replace h2 := i_pos c8 h2
          refine e_k 1 (f' := (60, [(0, .ref 112), (1, .int p2), (2, .int p3), (3, .int p4)], [.int 0])) rfl ?_
          refine e_sub (ls := [(0, .ref 112), (1, .int p2), (2, .int p3), (3, .int p4)]) rfl ⟨rfl, rfl, rfl, rfl, trivial⟩ ?_
          obtain ⟨rfl, rfl, rfl⟩ := s_inj h2
          exact Kj2
        · replace h2 := i_neg c8 h2
          refine e_k 3 (f' := (if 32 ≤ p4 then 59 else 33, [(0, .ref 112), (1, .int p2), (2, .int p3), (3, .int p4)], [])) rfl ?_
          refine e_if (fun c9 => ?_) (fun c9 => ?_)
          · replace h2 := i_pos c9 h2
            refine e_k 1 (f' := (60, [(0, .ref 112), (1, .int p2), (2, .int p3), (3, .int p4)], [.int 0])) rfl ?_
            refine e_sub (ls := [(0, .ref 112), (1, .int p2), (2, .int p3), (3, .int p4)]) rfl ⟨rfl, rfl, rfl, rfl, trivial⟩ ?_
            obtain ⟨rfl, rfl, rfl⟩ := s_inj h2
            exact Kj2
          · replace h2 := i_neg c9 h2
            refine e_k 1 (f' := (34, [(0, .ref 112), (1, .int p2), (2, .int p3), (3, .int p4)], [.ref 112])) rfl ?_
            refine r_getr rfl (x_ltn rfl) rfl rfl ?_
            refine e_k 2 (f' := (if p2 < 0 then 46 else 41, [(0, .ref 112), (1, .int p2), (2, .int p3), (3, .int p4)], [.ref 142])) rfl ?_
            obtain ⟨v11, h11, h2⟩ := p_nn h2
            have Kj11 : am_E (gG L xs) (d + 2) m_Model_bound (51, [(0, .ref 112), (1, .int p2), (2, .int p3), (3, .int p4)], [.int v11, .ref 142]) (hX X I6 J6) P := by
              obtain ⟨o14, h2⟩ := ob_in h2
              refine r_iald rfl rfl (x_ltn rfl) rfl o14 ?_
              refine e_k 1 (f' := (if (I6 142 (Int32.toNatClampNeg v11)) < 0 then 59 else 55, [(0, .ref 112), (1, .int p2), (2, .int p3), (3, .int p4)], [])) rfl ?_
              refine e_if (fun c15 => ?_) (fun c15 => ?_)
              · replace h2 := i_pos c15 h2
                refine e_k 1 (f' := (60, [(0, .ref 112), (1, .int p2), (2, .int p3), (3, .int p4)], [.int 0])) rfl ?_
                refine e_sub (ls := [(0, .ref 112), (1, .int p2), (2, .int p3), (3, .int p4)]) rfl ⟨rfl, rfl, rfl, rfl, trivial⟩ ?_
                obtain ⟨rfl, rfl, rfl⟩ := s_inj h2
                exact Kj2
              · replace h2 := i_neg c15 h2
                refine e_k 2 (f' := (60, [(0, .ref 112), (1, .int p2), (2, .int p3), (3, .int p4)], [.int 1])) rfl ?_
                refine e_sub (ls := [(0, .ref 112), (1, .int p2), (2, .int p3), (3, .int p4)]) rfl ⟨rfl, rfl, rfl, rfl, trivial⟩ ?_
                obtain ⟨rfl, rfl, rfl⟩ := s_inj h2
                exact Kj2
            clear h2
            refine e_if (fun c12 => ?_) (fun c12 => ?_)
            · replace h11 := i_pos c12 h11
              refine e_k 2 (f' := (51, [(0, .ref 112), (1, .int p2), (2, .int p3), (3, .int p4)], [.int 0, .ref 142])) rfl ?_
              refine e_sub (ls := [(0, .ref 112), (1, .int p2), (2, .int p3), (3, .int p4)]) rfl ⟨rfl, rfl, rfl, rfl, trivial⟩ ?_
              subst h11
              exact Kj11
            · replace h11 := i_neg c12 h11
              refine e_k 3 (f' := (if p2 ≤ 3 then 50 else 46, [(0, .ref 112), (1, .int p2), (2, .int p3), (3, .int p4)], [.ref 142])) rfl ?_
              refine e_if (fun c13 => ?_) (fun c13 => ?_)
              · replace h11 := i_pos c13 h11
                refine e_k 1 (f' := (51, [(0, .ref 112), (1, .int p2), (2, .int p3), (3, .int p4)], [.int p2, .ref 142])) rfl ?_
                refine e_sub (ls := [(0, .ref 112), (1, .int p2), (2, .int p3), (3, .int p4)]) rfl ⟨rfl, rfl, rfl, rfl, trivial⟩ ?_
                subst h11
                exact Kj11
              · replace h11 := i_neg c13 h11
                refine e_k 2 (f' := (51, [(0, .ref 112), (1, .int p2), (2, .int p3), (3, .int p4)], [.int 0, .ref 142])) rfl ?_
                refine e_sub (ls := [(0, .ref 112), (1, .int p2), (2, .int p3), (3, .int p4)]) rfl ⟨rfl, rfl, rfl, rfl, trivial⟩ ?_
                subst h11
                exact Kj11
theorem E_Model_total {p2 : Int32} {X : MX} {I : MI} {J : MJ} {v : Int32} {I' : MI} {J' : MJ} (hb : f_Model_total p2 I J = some (v, I', J')) (K : P (.inl (some (.int v))) (hX X I' J')) : am_E (gG L xs) (d + 1) m_Model_total (0, lv_args 0 [.ref 112, .int p2], []) (hX X I J) P := by
  unfold f_Model_total at hb
  refine e_k 2 (f' := (2, [(0, .ref 112), (1, .int p2)], [.int 0, .ref 112])) rfl ?_
  obtain ⟨I1, eI1, hb⟩ := p_nm hb
  refine r_puti' rfl (x_ltn rfl) rfl rfl eI1 ?_
  refine e_k 2 (f' := (am_sw p2 121 [(0, 48), (1, 53), (2, 67), (3, 72), (4, 88), (5, 102), (6, 107)], [(0, .ref 112), (1, .int p2)], [])) rfl ?_
  by_cases c2 : p2 = 0
  · rw [show am_sw p2 121 [(0, 48), (1, 53), (2, 67), (3, 72), (4, 88), (5, 102), (6, 107)] = 48 from by rw [c2]; rfl]
    replace hb := i_pos c2 hb
    refine e_k 1 (f' := (49, [(0, .ref 112), (1, .int p2)], [.ref 112])) rfl ?_
    refine r_geti rfl (x_ltn rfl) rfl rfl ?_
    obtain ⟨rfl, rfl, rfl⟩ := s_inj hb
    exact e_r rfl rfl K
  replace hb := i_neg c2 hb
  by_cases c3 : p2 = 1
  · rw [show am_sw p2 121 [(0, 48), (1, 53), (2, 67), (3, 72), (4, 88), (5, 102), (6, 107)] = 53 from by rw [c3]; rfl]
    replace hb := i_pos c3 hb
    refine e_k 1 (f' := (54, [(0, .ref 112), (1, .int p2)], [.ref 112])) rfl ?_
    refine r_geti rfl (x_ltn rfl) rfl rfl ?_
    refine e_k 2 (f' := (59, [(0, .ref 112), (1, .int p2)], [.ref 112, .ref 112, .int (I1 112 24)])) rfl ?_
    refine r_getr rfl (x_ltn rfl) rfl rfl ?_
    obtain ⟨v4, I4, J4, h4, hb⟩ := oc_call hb
    refine r_cv (z := m_Model_least) (As := [.ref 121]) (rest := [.int (I1 112 24)]) rfl rfl rfl rfl rfl (x_ltn rfl) rfl rfl (E_Model_least ⟨(x_ltn rfl), rfl, rfl⟩ h4 ⟨_, rfl, ?_⟩)
    refine e_k 1 (f' := (66, [(0, .ref 112), (1, .int p2)], [.int ((I1 112 24) - v4)])) rfl ?_
    obtain ⟨rfl, rfl, rfl⟩ := s_inj hb
    exact e_r rfl rfl K
  replace hb := i_neg c3 hb
  by_cases c5 : p2 = 2
  · rw [show am_sw p2 121 [(0, 48), (1, 53), (2, 67), (3, 72), (4, 88), (5, 102), (6, 107)] = 67 from by rw [c5]; rfl]
    replace hb := i_pos c5 hb
    refine e_k 1 (f' := (68, [(0, .ref 112), (1, .int p2)], [.ref 112])) rfl ?_
    refine r_geti rfl (x_ltn rfl) rfl rfl ?_
    obtain ⟨rfl, rfl, rfl⟩ := s_inj hb
    exact e_r rfl rfl K
  replace hb := i_neg c5 hb
  by_cases c6 : p2 = 3
  · rw [show am_sw p2 121 [(0, 48), (1, 53), (2, 67), (3, 72), (4, 88), (5, 102), (6, 107)] = 72 from by rw [c6]; rfl]
    replace hb := i_pos c6 hb
    refine e_k 1 (f' := (73, [(0, .ref 112), (1, .int p2)], [.ref 112])) rfl ?_
    refine r_geti rfl (x_ltn rfl) rfl rfl ?_
    refine e_k 1 (f' := (if (I1 112 8) = 0 then 86 else 79, [(0, .ref 112), (1, .int p2)], [])) rfl ?_
    refine e_if (fun c7 => ?_) (fun c7 => ?_)
    · replace hb := i_pos c7 hb
      refine e_k 1 (f' := (87, [(0, .ref 112), (1, .int p2)], [.int 0])) rfl ?_
      obtain ⟨rfl, rfl, rfl⟩ := s_inj hb
      exact e_r rfl rfl K
    · replace hb := i_neg c7 hb
      refine e_k 1 (f' := (80, [(0, .ref 112), (1, .int p2)], [.ref 112])) rfl ?_
      refine r_geti rfl (x_ltn rfl) rfl rfl ?_
      refine e_k 1 (f' := (87, [(0, .ref 112), (1, .int p2)], [.int (I1 112 7)])) rfl ?_
      obtain ⟨rfl, rfl, rfl⟩ := s_inj hb
      exact e_r rfl rfl K
  replace hb := i_neg c6 hb
  by_cases c8 : p2 = 4
  · rw [show am_sw p2 121 [(0, 48), (1, 53), (2, 67), (3, 72), (4, 88), (5, 102), (6, 107)] = 88 from by rw [c8]; rfl]
    replace hb := i_pos c8 hb
    refine e_k 1 (f' := (89, [(0, .ref 112), (1, .int p2)], [.ref 112])) rfl ?_
    refine r_geti rfl (x_ltn rfl) rfl rfl ?_
    refine e_k 2 (f' := (94, [(0, .ref 112), (1, .int p2)], [.ref 112, .ref 112, .int (I1 112 26)])) rfl ?_
    refine r_getr rfl (x_ltn rfl) rfl rfl ?_
    obtain ⟨v9, I9, J9, h9, hb⟩ := oc_call hb
    refine r_cv (z := m_Model_least) (As := [.ref 122]) (rest := [.int (I1 112 26)]) rfl rfl rfl rfl rfl (x_ltn rfl) rfl rfl (E_Model_least ⟨(x_ltn rfl), rfl, rfl⟩ h9 ⟨_, rfl, ?_⟩)
    refine e_k 1 (f' := (101, [(0, .ref 112), (1, .int p2)], [.int ((I1 112 26) - v9)])) rfl ?_
    obtain ⟨rfl, rfl, rfl⟩ := s_inj hb
    exact e_r rfl rfl K
  replace hb := i_neg c8 hb
  by_cases c10 : p2 = 5
  · rw [show am_sw p2 121 [(0, 48), (1, 53), (2, 67), (3, 72), (4, 88), (5, 102), (6, 107)] = 102 from by rw [c10]; rfl]
    replace hb := i_pos c10 hb
    refine e_k 1 (f' := (103, [(0, .ref 112), (1, .int p2)], [.ref 112])) rfl ?_
    refine r_geti rfl (x_ltn rfl) rfl rfl ?_
    obtain ⟨rfl, rfl, rfl⟩ := s_inj hb
    exact e_r rfl rfl K
  replace hb := i_neg c10 hb
  by_cases c11 : p2 = 6
  · rw [show am_sw p2 121 [(0, 48), (1, 53), (2, 67), (3, 72), (4, 88), (5, 102), (6, 107)] = 107 from by rw [c11]; rfl]
    replace hb := i_pos c11 hb
    refine e_k 1 (f' := (108, [(0, .ref 112), (1, .int p2)], [.ref 112])) rfl ?_
    refine r_geti rfl (x_ltn rfl) rfl rfl ?_
    refine e_k 2 (f' := (113, [(0, .ref 112), (1, .int p2)], [.ref 112, .ref 112, .int (I1 112 28)])) rfl ?_
    refine r_getr rfl (x_ltn rfl) rfl rfl ?_
    obtain ⟨v12, I12, J12, h12, hb⟩ := oc_call hb
    refine r_cv (z := m_Model_least) (As := [.ref 123]) (rest := [.int (I1 112 28)]) rfl rfl rfl rfl rfl (x_ltn rfl) rfl rfl (E_Model_least ⟨(x_ltn rfl), rfl, rfl⟩ h12 ⟨_, rfl, ?_⟩)
    refine e_k 1 (f' := (120, [(0, .ref 112), (1, .int p2)], [.int ((I1 112 28) - v12)])) rfl ?_
    obtain ⟨rfl, rfl, rfl⟩ := s_inj hb
    exact e_r rfl rfl K
  replace hb := i_neg c11 hb
  rw [show am_sw p2 121 [(0, 48), (1, 53), (2, 67), (3, 72), (4, 88), (5, 102), (6, 107)] = 121 from (am_swd c2 (am_swd c3 (am_swd c5 (am_swd c6 (am_swd c8 (am_swd c10 (am_swd c11 rfl)))))))]
  refine e_k 1 (f' := (122, [(0, .ref 112), (1, .int p2)], [.int (-1)])) rfl ?_
  obtain ⟨rfl, rfl, rfl⟩ := s_inj hb
  exact e_r rfl rfl K
theorem E_Check_forget {w1 : Nat} {X : MX} {I : MI} {J : MJ} {v : Unit} {I' : MI} {J' : MJ} (hw_w1 : w1 < 4) (hb : f_Check_forget w1 I J = some (v, I', J')) (K : P (.inl (none)) (hX X I' J')) : am_E (gG L xs) d m_Check_forget (0, lv_args 0 [.ref (25 + 21 * w1)], []) (hX X I J) P := by
  unfold f_Check_forget at hb
  refine e_k 2 (f' := (2, [(0, .ref (25 + 21 * w1))], [.int 0, .ref (25 + 21 * w1)])) rfl ?_
  obtain ⟨I1, eI1, hb⟩ := p_nm hb
  refine r_puti' rfl (x_ltp hw_w1 (by decide)) (sS_p7 hw_w1) rfl eI1 ?_
  refine e_k 2 (f' := (7, [(0, .ref (25 + 21 * w1))], [.int 0, .ref (25 + 21 * w1)])) rfl ?_
  obtain ⟨I2, eI2, hb⟩ := p_nm hb
  refine r_puti' rfl (x_ltp hw_w1 (by decide)) (sS_p7 hw_w1) rfl eI2 ?_
  obtain ⟨rfl, rfl, rfl⟩ := s_inj hb
  exact e_r rfl rfl K
theorem E_Check_note {w1 : Nat} {p2 : Int64} {X : MX} {I : MI} {J : MJ} {v : Unit} {I' : MI} {J' : MJ} (hw_w1 : w1 < 4) (hb : f_Check_note w1 p2 I J = some (v, I', J')) (K : P (.inl (none)) (hX X I' J')) : am_E (gG L xs) d m_Check_note (0, lv_args 0 [.ref (25 + 21 * w1), .long p2], []) (hX X I J) P := by
  unfold f_Check_note at hb
  refine e_k 4 (f' := (if (lg_cmp p2 0) = 0 then 70 else 6, [(0, .ref (25 + 21 * w1)), (1, .long p2)], [])) rfl ?_
  obtain ⟨v2, I2, J2, h2, hb⟩ := oc_call hb
  have Kj2 : am_E (gG L xs) d m_Check_note (70, [(0, .ref (25 + 21 * w1))], []) (hX X I2 J2) P := by
    refine e_k 2 (f' := (72, [(0, .ref (25 + 21 * w1))], [.ref (25 + 21 * w1), .ref (25 + 21 * w1)])) rfl ?_
    refine r_geti rfl (x_ltp hw_w1 (by decide)) (sS_p7 hw_w1) rfl ?_
    refine e_k 2 (f' := (77, [(0, .ref (25 + 21 * w1))], [.int ((I2 (25 + 21 * w1) 4) + 1), .ref (25 + 21 * w1)])) rfl ?_
    obtain ⟨I12, eI12, hb⟩ := p_nm hb
    refine r_puti' rfl (x_ltp hw_w1 (by decide)) (sS_p7 hw_w1) rfl eI12 ?_
    obtain ⟨rfl, rfl, rfl⟩ := s_inj hb
    exact e_r rfl rfl K
  clear hb
  refine e_if (fun c3 => ?_) (fun c3 => ?_)
  · replace h2 := i_pos c3 h2
    refine e_sub (ls := [(0, .ref (25 + 21 * w1))]) rfl ⟨rfl, trivial⟩ ?_
    obtain ⟨rfl, rfl, rfl⟩ := s_inj h2
    exact Kj2
  · replace h2 := i_neg c3 h2
    refine e_k 1 (f' := (7, [(0, .ref (25 + 21 * w1)), (1, .long p2)], [.ref (25 + 21 * w1)])) rfl ?_
    refine r_geti rfl (x_ltp hw_w1 (by decide)) (sS_p7 hw_w1) rfl ?_
    refine e_k 1 (f' := (if (I (25 + 21 * w1) 3) < 0 then 70 else 13, [(0, .ref (25 + 21 * w1)), (1, .long p2)], [])) rfl ?_
    refine e_if (fun c4 => ?_) (fun c4 => ?_)
    · replace h2 := i_pos c4 h2
      refine e_sub (ls := [(0, .ref (25 + 21 * w1))]) rfl ⟨rfl, trivial⟩ ?_
      obtain ⟨rfl, rfl, rfl⟩ := s_inj h2
      exact Kj2
    · replace h2 := i_neg c4 h2
      refine e_k 1 (f' := (14, [(0, .ref (25 + 21 * w1)), (1, .long p2)], [.ref (25 + 21 * w1)])) rfl ?_
      refine r_geti rfl (x_ltp hw_w1 (by decide)) (sS_p7 hw_w1) rfl ?_
      refine e_k 1 (f' := (18, [(0, .ref (25 + 21 * w1)), (1, .long p2)], [.ref (25 + 21 * w1), .int (I (25 + 21 * w1) 3)])) rfl ?_
      refine r_getr rfl (x_ltp hw_w1 (by decide)) (sS_p7 hw_w1) rfl ?_
      refine r_alen rfl (x_t0 hw_w1 (by decide)) (x_ltp hw_w1 (by decide)) (sS_p8 hw_w1) rfl ?_
      refine e_k 1 (f' := (if (nI 40) ≤ (I (25 + 21 * w1) 3) then 70 else 25, [(0, .ref (25 + 21 * w1)), (1, .long p2)], [])) rfl ?_
      refine e_if (fun c5 => ?_) (fun c5 => ?_)
      · replace h2 := i_pos c5 h2
        refine e_sub (ls := [(0, .ref (25 + 21 * w1))]) rfl ⟨rfl, trivial⟩ ?_
        obtain ⟨rfl, rfl, rfl⟩ := s_inj h2
        exact Kj2
      · replace h2 := i_neg c5 h2
        refine e_k 1 (f' := (26, [(0, .ref (25 + 21 * w1)), (1, .long p2)], [.ref (25 + 21 * w1)])) rfl ?_
        refine r_geti rfl (x_ltp hw_w1 (by decide)) (sS_p7 hw_w1) rfl ?_
        refine e_k 1 (f' := (30, [(0, .ref (25 + 21 * w1)), (1, .long p2)], [.ref (25 + 21 * w1), .int (I (25 + 21 * w1) 3)])) rfl ?_
        refine r_getr rfl (x_ltp hw_w1 (by decide)) (sS_p7 hw_w1) rfl ?_
        refine r_alen rfl (x_t0 hw_w1 (by decide)) (x_ltp hw_w1 (by decide)) (sS_p9 hw_w1) rfl ?_
        refine e_k 1 (f' := (if (nI 40) ≤ (I (25 + 21 * w1) 3) then 70 else 37, [(0, .ref (25 + 21 * w1)), (1, .long p2)], [])) rfl ?_
        refine e_if (fun c6 => ?_) (fun c6 => ?_)
        · replace h2 := i_pos c6 h2
          refine e_sub (ls := [(0, .ref (25 + 21 * w1))]) rfl ⟨rfl, trivial⟩ ?_
          obtain ⟨rfl, rfl, rfl⟩ := s_inj h2
          exact Kj2
        · replace h2 := i_neg c6 h2
          refine e_k 1 (f' := (38, [(0, .ref (25 + 21 * w1)), (1, .long p2)], [.ref (25 + 21 * w1)])) rfl ?_
          refine r_getr rfl (x_ltp hw_w1 (by decide)) (sS_p7 hw_w1) rfl ?_
          refine e_k 1 (f' := (42, [(0, .ref (25 + 21 * w1)), (1, .long p2)], [.ref (25 + 21 * w1), .ref (26 + 21 * w1)])) rfl ?_
          refine r_geti rfl (x_ltp hw_w1 (by decide)) (sS_p7 hw_w1) rfl ?_
          refine e_k 1 (f' := (46, [(0, .ref (25 + 21 * w1)), (1, .long p2)], [.ref (25 + 21 * w1), .int (I (25 + 21 * w1) 3), .ref (26 + 21 * w1)])) rfl ?_
          refine r_geti rfl (x_ltp hw_w1 (by decide)) (sS_p7 hw_w1) rfl ?_
          obtain ⟨o7, h2⟩ := ob_in h2
          obtain ⟨I8, eI8, h2⟩ := p_nm h2
          refine r_iast' rfl (x_ltp hw_w1 (by decide)) (sS_p8 hw_w1) o7 eI8 ?_
          refine e_k 1 (f' := (51, [(0, .ref (25 + 21 * w1)), (1, .long p2)], [.ref (25 + 21 * w1)])) rfl ?_
          refine r_getr rfl (x_ltp hw_w1 (by decide)) (sS_p7 hw_w1) rfl ?_
          refine e_k 1 (f' := (55, [(0, .ref (25 + 21 * w1)), (1, .long p2)], [.ref (25 + 21 * w1), .ref (27 + 21 * w1)])) rfl ?_
          refine r_geti rfl (x_ltp hw_w1 (by decide)) (sS_p7 hw_w1) rfl ?_
          refine e_k 1 (f' := (59, [(0, .ref (25 + 21 * w1)), (1, .long p2)], [.long p2, .int (I8 (25 + 21 * w1) 3), .ref (27 + 21 * w1)])) rfl ?_
          obtain ⟨o9, h2⟩ := ob_in h2
          obtain ⟨J10, eJ10, h2⟩ := p_nm h2
          refine r_last' rfl (x_ltp hw_w1 (by decide)) (sS_p9 hw_w1) o9 eJ10 ?_
          refine e_k 2 (f' := (62, [(0, .ref (25 + 21 * w1)), (1, .long p2)], [.ref (25 + 21 * w1), .ref (25 + 21 * w1)])) rfl ?_
          refine r_geti rfl (x_ltp hw_w1 (by decide)) (sS_p7 hw_w1) rfl ?_
          refine e_k 2 (f' := (67, [(0, .ref (25 + 21 * w1)), (1, .long p2)], [.int ((I8 (25 + 21 * w1) 3) + 1), .ref (25 + 21 * w1)])) rfl ?_
          obtain ⟨I11, eI11, h2⟩ := p_nm h2
          refine r_puti' rfl (x_ltp hw_w1 (by decide)) (sS_p7 hw_w1) rfl eI11 ?_
          refine e_sub (ls := [(0, .ref (25 + 21 * w1))]) rfl ⟨rfl, trivial⟩ ?_
          obtain ⟨rfl, rfl, rfl⟩ := s_inj h2
          exact Kj2
theorem E_Check_drawCoinAndNonce {w1 : Nat} {X : MX} {I : MI} {J : MJ} {v : Unit} {I' : MI} {J' : MJ} (hw_w1 : w1 < 4) (hb : f_Check_drawCoinAndNonce w1 I J = some (v, I', J')) (K : P (.inl (none)) (hX X I' J')) : am_E (gG L xs) d m_Check_drawCoinAndNonce (0, lv_args 0 [.ref (25 + 21 * w1)], []) (hX X I J) P := by
  unfold f_Check_drawCoinAndNonce at hb
  refine e_k 2 (f' := (2, [(0, .ref (25 + 21 * w1))], [.ref (25 + 21 * w1), .ref (25 + 21 * w1)])) rfl ?_
  refine r_geti rfl (x_ltp hw_w1 (by decide)) (sS_p7 hw_w1) rfl ?_
  obtain ⟨I1, eI1, hb⟩ := p_nm hb
  refine r_puti' rfl (x_ltp hw_w1 (by decide)) (sS_p7 hw_w1) rfl eI1 ?_
  refine e_k 2 (f' := (10, [(0, .ref (25 + 21 * w1))], [.ref (25 + 21 * w1), .ref (25 + 21 * w1)])) rfl ?_
  refine r_geti rfl (x_ltp hw_w1 (by decide)) (sS_p7 hw_w1) rfl ?_
  refine e_k 2 (f' := (15, [(0, .ref (25 + 21 * w1))], [.int ((I1 (25 + 21 * w1) 6) + 2), .ref (25 + 21 * w1)])) rfl ?_
  obtain ⟨I2, eI2, hb⟩ := p_nm hb
  refine r_puti' rfl (x_ltp hw_w1 (by decide)) (sS_p7 hw_w1) rfl eI2 ?_
  obtain ⟨rfl, rfl, rfl⟩ := s_inj hb
  exact e_r rfl rfl K
theorem E_Check_drawNonce {w1 : Nat} {X : MX} {I : MI} {J : MJ} {v : Unit} {I' : MI} {J' : MJ} (hw_w1 : w1 < 4) (hb : f_Check_drawNonce w1 I J = some (v, I', J')) (K : P (.inl (none)) (hX X I' J')) : am_E (gG L xs) d m_Check_drawNonce (0, lv_args 0 [.ref (25 + 21 * w1)], []) (hX X I J) P := by
  unfold f_Check_drawNonce at hb
  refine e_k 2 (f' := (2, [(0, .ref (25 + 21 * w1))], [.ref (25 + 21 * w1), .ref (25 + 21 * w1)])) rfl ?_
  refine r_geti rfl (x_ltp hw_w1 (by decide)) (sS_p7 hw_w1) rfl ?_
  refine e_k 2 (f' := (7, [(0, .ref (25 + 21 * w1))], [.int ((I (25 + 21 * w1) 6) + 1), .ref (25 + 21 * w1)])) rfl ?_
  obtain ⟨I1, eI1, hb⟩ := p_nm hb
  refine r_puti' rfl (x_ltp hw_w1 (by decide)) (sS_p7 hw_w1) rfl eI1 ?_
  obtain ⟨rfl, rfl, rfl⟩ := s_inj hb
  exact e_r rfl rfl K
theorem E_Digest_spread_3 {X : MX} {p2 : Int64} {p3 : Int64} : ∀ (fu : Nat) {l1 : Int64} {l3 : Int64} {l5 : Int32} {I : MI} {J : MJ} {r : (Unit)} {I' : MI} {J' : MJ}, f_Digest_spread_3 p2 p3 fu l1 l3 l5 I J = some (r, I', J') → am_E (gG L xs) d m_Digest_spread (24, [(0, .ref 108), (1, .long l1), (3, .long l3)], []) (hX X I' J') P → am_E (gG L xs) d m_Digest_spread (3, [(0, .ref 108), (1, .long l1), (3, .long l3), (5, .int l5)], []) (hX X I J) P := by
  intro fu
  induction fu with
  | zero =>
    intros
    rename_i hb _
    cases hb
  | succ fu ih =>
    intro l1 l3 l5 I J r I' J' hb K
    unfold f_Digest_spread_3 at hb
    refine e_k 3 (f' := (if 15 ≤ l5 then 24 else 10, [(0, .ref 108), (1, .long l1), (3, .long l3), (5, .int l5)], [])) rfl ?_
    refine e_if (fun c1 => ?_) (fun c1 => ?_)
    · replace hb := i_pos c1 hb
      refine e_sub (ls := [(0, .ref 108), (1, .long l1), (3, .long l3)]) rfl ⟨rfl, rfl, rfl, trivial⟩ ?_
      obtain ⟨rfl, rfl, rfl⟩ := s_inj hb
      exact K
    · replace hb := i_neg c1 hb
      refine e_k 1 (f' := (11, [(0, .ref 108), (1, .long l1), (3, .long l3), (5, .int l5)], [.ref 108])) rfl ?_
      refine r_getr rfl (x_ltn rfl) rfl rfl ?_
      refine e_k 2 (f' := (17, [(0, .ref 108), (1, .long l1), (3, .long l3), (5, .int l5)], [.int 0, .int l5, .ref 109])) rfl ?_
      obtain ⟨o2, hb⟩ := ob_in hb
      obtain ⟨I3, eI3, hb⟩ := p_nm hb
      refine r_iast' rfl (x_ltn rfl) rfl o2 eI3 ?_
      refine e_k 2 (f' := (3, [(5, .int (l5 + 1)), (0, .ref 108), (1, .long l1), (3, .long l3)], [])) rfl ?_
      refine e_sub (ls := [(0, .ref 108), (1, .long l1), (3, .long l3), (5, .int (l5 + 1))]) rfl ⟨rfl, rfl, rfl, rfl, trivial⟩ ?_
      exact ih  hb K
theorem E_Digest_spread_84 {X : MX} {p2 : Int64} {p3 : Int64} : ∀ (fu : Nat) {l5 : Int32} {I : MI} {J : MJ} {r : (Unit)} {I' : MI} {J' : MJ}, f_Digest_spread_84 p2 p3 fu l5 I J = some (r, I', J') → am_E (gG L xs) d m_Digest_spread (215, [], []) (hX X I' J') P → am_E (gG L xs) d m_Digest_spread (84, [(0, .ref 108), (5, .int l5)], []) (hX X I J) P := by
  intro fu
  induction fu with
  | zero =>
    intros
    rename_i hb _
    cases hb
  | succ fu ih =>
    intro l5 I J r I' J' hb K
    unfold f_Digest_spread_84 at hb
    refine e_k 3 (f' := (if 64 ≤ l5 then 215 else 91, [(0, .ref 108), (5, .int l5)], [])) rfl ?_
    refine e_if (fun c17 => ?_) (fun c17 => ?_)
    · replace hb := i_pos c17 hb
      refine e_sub (ls := []) rfl ⟨⟩ ?_
      obtain ⟨rfl, rfl, rfl⟩ := s_inj hb
      exact K
    · replace hb := i_neg c17 hb
      refine e_k 1 (f' := (92, [(0, .ref 108), (5, .int l5)], [.ref 108])) rfl ?_
      refine r_getr rfl (x_ltn rfl) rfl rfl ?_
      refine e_k 3 (f' := (99, [(0, .ref 108), (5, .int l5)], [.int (l5 - 2), .ref 109])) rfl ?_
      obtain ⟨o18, hb⟩ := ob_in hb
      refine r_iald rfl rfl (x_ltn rfl) rfl o18 ?_
      refine e_k 1 (f' := (102, [(6, .int (I 109 (Int32.toNatClampNeg (l5 - 2)))), (0, .ref 108), (5, .int l5)], [])) rfl ?_
      obtain ⟨x19, ex19, hb⟩ := p_nm hb
      rw [← ex19]
      refine e_k 1 (f' := (103, [(6, .int x19), (0, .ref 108), (5, .int l5)], [.ref 108])) rfl ?_
      refine r_getr rfl (x_ltn rfl) rfl rfl ?_
      refine e_k 3 (f' := (111, [(6, .int x19), (0, .ref 108), (5, .int l5)], [.int (l5 - 15), .ref 109])) rfl ?_
      obtain ⟨o20, hb⟩ := ob_in hb
      refine r_iald rfl rfl (x_ltn rfl) rfl o20 ?_
      refine e_k 1 (f' := (114, [(7, .int (I 109 (Int32.toNatClampNeg (l5 - 15)))), (6, .int x19), (0, .ref 108), (5, .int l5)], [])) rfl ?_
      obtain ⟨x21, ex21, hb⟩ := p_nm hb
      rw [← ex21]
      refine e_k 20 (f' := (145, [(8, .int (((((Int32.toUInt32 x19 >>> (Int32.toUInt32 17 &&& Int32.toUInt32 31)).toInt32) ||| (x19 <<< (15 &&& 31))) ^^^ (((Int32.toUInt32 x19 >>> (Int32.toUInt32 19 &&& Int32.toUInt32 31)).toInt32) ||| (x19 <<< (13 &&& 31)))) ^^^ ((Int32.toUInt32 x19 >>> (Int32.toUInt32 10 &&& Int32.toUInt32 31)).toInt32))), (7, .int x21), (6, .int x19), (0, .ref 108), (5, .int l5)], [])) rfl ?_
      obtain ⟨x22, ex22, hb⟩ := p_nm hb
      rw [← ex22]
      refine e_k 20 (f' := (175, [(9, .int (((((Int32.toUInt32 x21 >>> (Int32.toUInt32 7 &&& Int32.toUInt32 31)).toInt32) ||| (x21 <<< (25 &&& 31))) ^^^ (((Int32.toUInt32 x21 >>> (Int32.toUInt32 18 &&& Int32.toUInt32 31)).toInt32) ||| (x21 <<< (14 &&& 31)))) ^^^ ((Int32.toUInt32 x21 >>> (Int32.toUInt32 3 &&& Int32.toUInt32 31)).toInt32))), (8, .int x22), (7, .int x21), (6, .int x19), (0, .ref 108), (5, .int l5)], [])) rfl ?_
      obtain ⟨x23, ex23, hb⟩ := p_nm hb
      rw [← ex23]
      refine e_k 1 (f' := (176, [(9, .int x23), (8, .int x22), (7, .int x21), (6, .int x19), (0, .ref 108), (5, .int l5)], [.ref 108])) rfl ?_
      refine r_getr rfl (x_ltn rfl) rfl rfl ?_
      refine e_k 3 (f' := (184, [(9, .int x23), (8, .int x22), (7, .int x21), (6, .int x19), (0, .ref 108), (5, .int l5)], [.ref 108, .int x22, .int l5, .ref 109])) rfl ?_
      refine r_getr rfl (x_ltn rfl) rfl rfl ?_
      refine e_k 3 (f' := (192, [(9, .int x23), (8, .int x22), (7, .int x21), (6, .int x19), (0, .ref 108), (5, .int l5)], [.int (l5 - 7), .ref 109, .int x22, .int l5, .ref 109])) rfl ?_
      obtain ⟨o24, hb⟩ := ob_in hb
      refine r_iald rfl rfl (x_ltn rfl) rfl o24 ?_
      refine e_k 4 (f' := (198, [(9, .int x23), (8, .int x22), (7, .int x21), (6, .int x19), (0, .ref 108), (5, .int l5)], [.ref 108, .int ((x22 + (I 109 (Int32.toNatClampNeg (l5 - 7)))) + x23), .int l5, .ref 109])) rfl ?_
      refine r_getr rfl (x_ltn rfl) rfl rfl ?_
      refine e_k 3 (f' := (206, [(9, .int x23), (8, .int x22), (7, .int x21), (6, .int x19), (0, .ref 108), (5, .int l5)], [.int (l5 - 16), .ref 109, .int ((x22 + (I 109 (Int32.toNatClampNeg (l5 - 7)))) + x23), .int l5, .ref 109])) rfl ?_
      obtain ⟨o25, hb⟩ := ob_in hb
      refine r_iald rfl rfl (x_ltn rfl) rfl o25 ?_
      refine e_k 1 (f' := (208, [(9, .int x23), (8, .int x22), (7, .int x21), (6, .int x19), (0, .ref 108), (5, .int l5)], [.int (((x22 + (I 109 (Int32.toNatClampNeg (l5 - 7)))) + x23) + (I 109 (Int32.toNatClampNeg (l5 - 16)))), .int l5, .ref 109])) rfl ?_
      obtain ⟨o26, hb⟩ := ob_in hb
      obtain ⟨I27, eI27, hb⟩ := p_nm hb
      refine r_iast' rfl (x_ltn rfl) rfl o26 eI27 ?_
      refine e_k 2 (f' := (84, [(5, .int (l5 + 1)), (9, .int x23), (8, .int x22), (7, .int x21), (6, .int x19), (0, .ref 108)], [])) rfl ?_
      refine e_sub (ls := [(0, .ref 108), (5, .int (l5 + 1))]) rfl ⟨rfl, rfl, trivial⟩ ?_
      exact ih  hb K
theorem E_Digest_spread {p2 : Int64} {p3 : Int64} {X : MX} {I : MI} {J : MJ} {v : Unit} {I' : MI} {J' : MJ} (hb : f_Digest_spread p2 p3 I J = some (v, I', J')) (K : P (.inl (none)) (hX X I' J')) : am_E (gG L xs) d m_Digest_spread (0, lv_args 0 [.ref 108, .long p2, .long p3], []) (hX X I J) P := by
  unfold f_Digest_spread at hb
  refine e_k 2 (f' := (3, [(5, .int 5), (0, .ref 108), (1, .long p2), (3, .long p3)], [])) rfl ?_
  refine e_sub (ls := [(0, .ref 108), (1, .long p2), (3, .long p3), (5, .int 5)]) rfl ⟨rfl, rfl, rfl, rfl, trivial⟩ ?_
  obtain ⟨u4, I4, J4, h4, hb⟩ := oc_call hb
  refine E_Digest_spread_3  gF  h4 ?_
  refine e_k 1 (f' := (25, [(0, .ref 108), (1, .long p2), (3, .long p3)], [.ref 108])) rfl ?_
  refine r_getr rfl (x_ltn rfl) rfl rfl ?_
  refine e_k 5 (f' := (34, [(0, .ref 108), (1, .long p2), (3, .long p3)], [.int (Int64.toInt32 ((Int64.toUInt64 p2 >>> (Int64.toUInt64 (Int32.toInt64 32) &&& Int64.toUInt64 63)).toInt64)), .int 0, .ref 109])) rfl ?_
  obtain ⟨o5, hb⟩ := ob_in hb
  obtain ⟨I6, eI6, hb⟩ := p_nm hb
  refine r_iast' rfl (x_ltn rfl) rfl o5 eI6 ?_
  refine e_k 1 (f' := (36, [(0, .ref 108), (1, .long p2), (3, .long p3)], [.ref 108])) rfl ?_
  refine r_getr rfl (x_ltn rfl) rfl rfl ?_
  refine e_k 3 (f' := (42, [(0, .ref 108), (1, .long p2), (3, .long p3)], [.int (Int64.toInt32 p2), .int 1, .ref 109])) rfl ?_
  obtain ⟨o7, hb⟩ := ob_in hb
  obtain ⟨I8, eI8, hb⟩ := p_nm hb
  refine r_iast' rfl (x_ltn rfl) rfl o7 eI8 ?_
  refine e_k 1 (f' := (44, [(0, .ref 108), (1, .long p2), (3, .long p3)], [.ref 108])) rfl ?_
  refine r_getr rfl (x_ltn rfl) rfl rfl ?_
  refine e_k 5 (f' := (53, [(0, .ref 108), (1, .long p2), (3, .long p3)], [.int (Int64.toInt32 ((Int64.toUInt64 p3 >>> (Int64.toUInt64 (Int32.toInt64 32) &&& Int64.toUInt64 63)).toInt64)), .int 2, .ref 109])) rfl ?_
  obtain ⟨o9, hb⟩ := ob_in hb
  obtain ⟨I10, eI10, hb⟩ := p_nm hb
  refine r_iast' rfl (x_ltn rfl) rfl o9 eI10 ?_
  refine e_k 1 (f' := (55, [(0, .ref 108), (1, .long p2), (3, .long p3)], [.ref 108])) rfl ?_
  refine r_getr rfl (x_ltn rfl) rfl rfl ?_
  refine e_k 3 (f' := (61, [(0, .ref 108), (1, .long p2), (3, .long p3)], [.int (Int64.toInt32 p3), .int 3, .ref 109])) rfl ?_
  obtain ⟨o11, hb⟩ := ob_in hb
  obtain ⟨I12, eI12, hb⟩ := p_nm hb
  refine r_iast' rfl (x_ltn rfl) rfl o11 eI12 ?_
  refine e_k 1 (f' := (63, [(0, .ref 108), (1, .long p2), (3, .long p3)], [.ref 108])) rfl ?_
  refine r_getr rfl (x_ltn rfl) rfl rfl ?_
  refine e_k 2 (f' := (69, [(0, .ref 108), (1, .long p2), (3, .long p3)], [.int (-2147483648), .int 4, .ref 109])) rfl ?_
  obtain ⟨o13, hb⟩ := ob_in hb
  obtain ⟨I14, eI14, hb⟩ := p_nm hb
  refine r_iast' rfl (x_ltn rfl) rfl o13 eI14 ?_
  refine e_k 1 (f' := (71, [(0, .ref 108), (1, .long p2), (3, .long p3)], [.ref 108])) rfl ?_
  refine r_getr rfl (x_ltn rfl) rfl rfl ?_
  refine e_k 2 (f' := (79, [(0, .ref 108), (1, .long p2), (3, .long p3)], [.int 128, .int 15, .ref 109])) rfl ?_
  obtain ⟨o15, hb⟩ := ob_in hb
  obtain ⟨I16, eI16, hb⟩ := p_nm hb
  refine r_iast' rfl (x_ltn rfl) rfl o15 eI16 ?_
  refine e_k 2 (f' := (84, [(5, .int 16), (0, .ref 108), (1, .long p2), (3, .long p3)], [])) rfl ?_
  refine e_sub (ls := [(0, .ref 108), (5, .int 16)]) rfl ⟨rfl, rfl, trivial⟩ ?_
  obtain ⟨u28, I28, J28, h28, hb⟩ := oc_call hb
  refine E_Digest_spread_84  gF  h28 ?_
  obtain ⟨rfl, rfl, rfl⟩ := s_inj hb
  exact e_r rfl rfl K
theorem E_Digest_stir_2 {X : MX} : ∀ (fu : Nat) {l1 : Int32} {I : MI} {J : MJ} {r : (Unit)} {I' : MI} {J' : MJ}, f_Digest_stir_2  fu l1 I J = some (r, I', J') → am_E (gG L xs) d m_Digest_stir (25, [(0, .ref 108)], []) (hX X I' J') P → am_E (gG L xs) d m_Digest_stir (2, [(0, .ref 108), (1, .int l1)], []) (hX X I J) P := by
  intro fu
  induction fu with
  | zero =>
    intros
    rename_i hb _
    cases hb
  | succ fu ih =>
    intro l1 I J r I' J' hb K
    unfold f_Digest_stir_2 at hb
    refine e_k 3 (f' := (if 8 ≤ l1 then 25 else 8, [(0, .ref 108), (1, .int l1)], [])) rfl ?_
    refine e_if (fun c1 => ?_) (fun c1 => ?_)
    · replace hb := i_pos c1 hb
      refine e_sub (ls := [(0, .ref 108)]) rfl ⟨rfl, trivial⟩ ?_
      obtain ⟨rfl, rfl, rfl⟩ := s_inj hb
      exact K
    · replace hb := i_neg c1 hb
      refine e_k 1 (f' := (9, [(0, .ref 108), (1, .int l1)], [.ref 108])) rfl ?_
      refine r_getr rfl (x_ltn rfl) rfl rfl ?_
      refine e_k 3 (f' := (17, [(0, .ref 108), (1, .int l1)], [.int l1, .ref 1000000002, .int l1, .ref 110])) rfl ?_
      obtain ⟨o2, hb⟩ := ob_in hb
      refine r_tald (k := 2) rfl (by decide) rfl o2 ?_
      obtain ⟨o3, hb⟩ := ob_in hb
      obtain ⟨I4, eI4, hb⟩ := p_nm hb
      refine r_iast' rfl (x_ltn rfl) rfl o3 eI4 ?_
      refine e_k 2 (f' := (2, [(1, .int (l1 + 1)), (0, .ref 108)], [])) rfl ?_
      refine e_sub (ls := [(0, .ref 108), (1, .int (l1 + 1))]) rfl ⟨rfl, rfl, trivial⟩ ?_
      exact ih  hb K
theorem E_Digest_stir_195 {X : MX} : ∀ (fu : Nat) {l1 : Int32} {l6 : Int32} {l7 : Int32} {l8 : Int32} {l9 : Int32} {I : MI} {J : MJ} {r : (Unit)} {I' : MI} {J' : MJ}, f_Digest_stir_195  fu l1 l6 l7 l8 l9 I J = some (r, I', J') → am_E (gG L xs) d m_Digest_stir (222, [(0, .ref 108), (1, .int l1), (6, .int l6), (7, .int l7), (8, .int l8)], []) (hX X I' J') P → am_E (gG L xs) d m_Digest_stir (195, [(0, .ref 108), (1, .int l1), (6, .int l6), (7, .int l7), (8, .int l8), (9, .int l9)], []) (hX X I J) P := by
  intro fu
  induction fu with
  | zero =>
    intros
    rename_i hb _
    cases hb
  | succ fu ih =>
    intro l1 l6 l7 l8 l9 I J r I' J' hb K
    unfold f_Digest_stir_195 at hb
    refine e_k 2 (f' := (if l9 ≤ 0 then 222 else 200, [(0, .ref 108), (1, .int l1), (6, .int l6), (7, .int l7), (8, .int l8), (9, .int l9)], [])) rfl ?_
    refine e_if (fun c25 => ?_) (fun c25 => ?_)
    · replace hb := i_pos c25 hb
      refine e_sub (ls := [(0, .ref 108), (1, .int l1), (6, .int l6), (7, .int l7), (8, .int l8)]) rfl ⟨rfl, rfl, rfl, rfl, rfl, trivial⟩ ?_
      obtain ⟨rfl, rfl, rfl⟩ := s_inj hb
      exact K
    · replace hb := i_neg c25 hb
      refine e_k 1 (f' := (201, [(0, .ref 108), (1, .int l1), (6, .int l6), (7, .int l7), (8, .int l8), (9, .int l9)], [.ref 108])) rfl ?_
      refine r_getr rfl (x_ltn rfl) rfl rfl ?_
      refine e_k 2 (f' := (207, [(0, .ref 108), (1, .int l1), (6, .int l6), (7, .int l7), (8, .int l8), (9, .int l9)], [.ref 108, .int l9, .ref 110])) rfl ?_
      refine r_getr rfl (x_ltn rfl) rfl rfl ?_
      refine e_k 3 (f' := (214, [(0, .ref 108), (1, .int l1), (6, .int l6), (7, .int l7), (8, .int l8), (9, .int l9)], [.int (l9 - 1), .ref 110, .int l9, .ref 110])) rfl ?_
      obtain ⟨o26, hb⟩ := ob_in hb
      refine r_iald rfl rfl (x_ltn rfl) rfl o26 ?_
      obtain ⟨o27, hb⟩ := ob_in hb
      obtain ⟨I28, eI28, hb⟩ := p_nm hb
      refine r_iast' rfl (x_ltn rfl) rfl o27 eI28 ?_
      refine e_k 2 (f' := (195, [(9, .int (l9 + (-1))), (0, .ref 108), (1, .int l1), (6, .int l6), (7, .int l7), (8, .int l8)], [])) rfl ?_
      refine e_sub (ls := [(0, .ref 108), (1, .int l1), (6, .int l6), (7, .int l7), (8, .int l8), (9, .int (l9 + (-1)))]) rfl ⟨rfl, rfl, rfl, rfl, rfl, rfl, trivial⟩ ?_
      exact ih  hb K
theorem E_Digest_stir_27 {X : MX} : ∀ (fu : Nat) {l1 : Int32} {I : MI} {J : MJ} {r : (Unit)} {I' : MI} {J' : MJ}, f_Digest_stir_27  fu l1 I J = some (r, I', J') → am_E (gG L xs) d m_Digest_stir (253, [(0, .ref 108)], []) (hX X I' J') P → am_E (gG L xs) d m_Digest_stir (27, [(0, .ref 108), (1, .int l1)], []) (hX X I J) P := by
  intro fu
  induction fu with
  | zero =>
    intros
    rename_i hb _
    cases hb
  | succ fu ih =>
    intro l1 I J r I' J' hb K
    unfold f_Digest_stir_27 at hb
    refine e_k 3 (f' := (if 64 ≤ l1 then 253 else 33, [(0, .ref 108), (1, .int l1)], [])) rfl ?_
    refine e_if (fun c6 => ?_) (fun c6 => ?_)
    · replace hb := i_pos c6 hb
      refine e_sub (ls := [(0, .ref 108)]) rfl ⟨rfl, trivial⟩ ?_
      obtain ⟨rfl, rfl, rfl⟩ := s_inj hb
      exact K
    · replace hb := i_neg c6 hb
      refine e_k 1 (f' := (34, [(0, .ref 108), (1, .int l1)], [.ref 108])) rfl ?_
      refine r_getr rfl (x_ltn rfl) rfl rfl ?_
      refine e_k 1 (f' := (38, [(0, .ref 108), (1, .int l1)], [.int 0, .ref 110])) rfl ?_
      obtain ⟨o7, hb⟩ := ob_in hb
      refine r_iald rfl rfl (x_ltn rfl) rfl o7 ?_
      refine e_k 1 (f' := (40, [(2, .int (I 110 (Int32.toNatClampNeg 0))), (0, .ref 108), (1, .int l1)], [])) rfl ?_
      obtain ⟨x8, ex8, hb⟩ := p_nm hb
      rw [← ex8]
      refine e_k 1 (f' := (41, [(2, .int x8), (0, .ref 108), (1, .int l1)], [.ref 108])) rfl ?_
      refine r_getr rfl (x_ltn rfl) rfl rfl ?_
      refine e_k 1 (f' := (45, [(2, .int x8), (0, .ref 108), (1, .int l1)], [.int 4, .ref 110])) rfl ?_
      obtain ⟨o9, hb⟩ := ob_in hb
      refine r_iald rfl rfl (x_ltn rfl) rfl o9 ?_
      refine e_k 1 (f' := (47, [(3, .int (I 110 (Int32.toNatClampNeg 4))), (2, .int x8), (0, .ref 108), (1, .int l1)], [])) rfl ?_
      obtain ⟨x10, ex10, hb⟩ := p_nm hb
      rw [← ex10]
      refine e_k 24 (f' := (78, [(4, .int (((((Int32.toUInt32 x10 >>> (Int32.toUInt32 6 &&& Int32.toUInt32 31)).toInt32) ||| (x10 <<< (26 &&& 31))) ^^^ (((Int32.toUInt32 x10 >>> (Int32.toUInt32 11 &&& Int32.toUInt32 31)).toInt32) ||| (x10 <<< (21 &&& 31)))) ^^^ (((Int32.toUInt32 x10 >>> (Int32.toUInt32 25 &&& Int32.toUInt32 31)).toInt32) ||| (x10 <<< (7 &&& 31))))), (3, .int x10), (2, .int x8), (0, .ref 108), (1, .int l1)], [])) rfl ?_
      obtain ⟨x11, ex11, hb⟩ := p_nm hb
      rw [← ex11]
      refine e_k 2 (f' := (80, [(4, .int x11), (3, .int x10), (2, .int x8), (0, .ref 108), (1, .int l1)], [.ref 108, .int x10])) rfl ?_
      refine r_getr rfl (x_ltn rfl) rfl rfl ?_
      refine e_k 1 (f' := (84, [(4, .int x11), (3, .int x10), (2, .int x8), (0, .ref 108), (1, .int l1)], [.int 5, .ref 110, .int x10])) rfl ?_
      obtain ⟨o12, hb⟩ := ob_in hb
      refine r_iald rfl rfl (x_ltn rfl) rfl o12 ?_
      refine e_k 5 (f' := (90, [(4, .int x11), (3, .int x10), (2, .int x8), (0, .ref 108), (1, .int l1)], [.ref 108, .int (x10 ^^^ (-1)), .int (x10 &&& (I 110 (Int32.toNatClampNeg 5)))])) rfl ?_
      refine r_getr rfl (x_ltn rfl) rfl rfl ?_
      refine e_k 1 (f' := (95, [(4, .int x11), (3, .int x10), (2, .int x8), (0, .ref 108), (1, .int l1)], [.int 6, .ref 110, .int (x10 ^^^ (-1)), .int (x10 &&& (I 110 (Int32.toNatClampNeg 5)))])) rfl ?_
      obtain ⟨o13, hb⟩ := ob_in hb
      refine r_iald rfl rfl (x_ltn rfl) rfl o13 ?_
      refine e_k 3 (f' := (100, [(5, .int ((x10 &&& (I 110 (Int32.toNatClampNeg 5))) ^^^ ((x10 ^^^ (-1)) &&& (I 110 (Int32.toNatClampNeg 6))))), (4, .int x11), (3, .int x10), (2, .int x8), (0, .ref 108), (1, .int l1)], [])) rfl ?_
      obtain ⟨x14, ex14, hb⟩ := p_nm hb
      rw [← ex14]
      refine e_k 1 (f' := (101, [(5, .int x14), (4, .int x11), (3, .int x10), (2, .int x8), (0, .ref 108), (1, .int l1)], [.ref 108])) rfl ?_
      refine r_getr rfl (x_ltn rfl) rfl rfl ?_
      refine e_k 1 (f' := (106, [(5, .int x14), (4, .int x11), (3, .int x10), (2, .int x8), (0, .ref 108), (1, .int l1)], [.int 7, .ref 110])) rfl ?_
      obtain ⟨o15, hb⟩ := ob_in hb
      refine r_iald rfl rfl (x_ltn rfl) rfl o15 ?_
      refine e_k 6 (f' := (117, [(5, .int x14), (4, .int x11), (3, .int x10), (2, .int x8), (0, .ref 108), (1, .int l1)], [.int l1, .ref 1000000001, .int (((I 110 (Int32.toNatClampNeg 7)) + x11) + x14)])) rfl ?_
      obtain ⟨o16, hb⟩ := ob_in hb
      refine r_tald (k := 1) rfl (by decide) rfl o16 ?_
      refine e_k 2 (f' := (120, [(5, .int x14), (4, .int x11), (3, .int x10), (2, .int x8), (0, .ref 108), (1, .int l1)], [.ref 108, .int ((((I 110 (Int32.toNatClampNeg 7)) + x11) + x14) + (g_get 0 t_rounds (Int32.toNatClampNeg l1)))])) rfl ?_
      refine r_getr rfl (x_ltn rfl) rfl rfl ?_
      refine e_k 1 (f' := (124, [(5, .int x14), (4, .int x11), (3, .int x10), (2, .int x8), (0, .ref 108), (1, .int l1)], [.int l1, .ref 109, .int ((((I 110 (Int32.toNatClampNeg 7)) + x11) + x14) + (g_get 0 t_rounds (Int32.toNatClampNeg l1)))])) rfl ?_
      obtain ⟨o17, hb⟩ := ob_in hb
      refine r_iald rfl rfl (x_ltn rfl) rfl o17 ?_
      refine e_k 2 (f' := (128, [(6, .int (((((I 110 (Int32.toNatClampNeg 7)) + x11) + x14) + (g_get 0 t_rounds (Int32.toNatClampNeg l1))) + (I 109 (Int32.toNatClampNeg l1)))), (5, .int x14), (4, .int x11), (3, .int x10), (2, .int x8), (0, .ref 108), (1, .int l1)], [])) rfl ?_
      obtain ⟨x18, ex18, hb⟩ := p_nm hb
      rw [← ex18]
      refine e_k 24 (f' := (158, [(7, .int (((((Int32.toUInt32 x8 >>> (Int32.toUInt32 2 &&& Int32.toUInt32 31)).toInt32) ||| (x8 <<< (30 &&& 31))) ^^^ (((Int32.toUInt32 x8 >>> (Int32.toUInt32 13 &&& Int32.toUInt32 31)).toInt32) ||| (x8 <<< (19 &&& 31)))) ^^^ (((Int32.toUInt32 x8 >>> (Int32.toUInt32 22 &&& Int32.toUInt32 31)).toInt32) ||| (x8 <<< (10 &&& 31))))), (6, .int x18), (5, .int x14), (4, .int x11), (3, .int x10), (2, .int x8), (0, .ref 108), (1, .int l1)], [])) rfl ?_
      obtain ⟨x19, ex19, hb⟩ := p_nm hb
      rw [← ex19]
      refine e_k 2 (f' := (160, [(7, .int x19), (6, .int x18), (5, .int x14), (4, .int x11), (3, .int x10), (2, .int x8), (0, .ref 108), (1, .int l1)], [.ref 108, .int x8])) rfl ?_
      refine r_getr rfl (x_ltn rfl) rfl rfl ?_
      refine e_k 1 (f' := (164, [(7, .int x19), (6, .int x18), (5, .int x14), (4, .int x11), (3, .int x10), (2, .int x8), (0, .ref 108), (1, .int l1)], [.int 1, .ref 110, .int x8])) rfl ?_
      obtain ⟨o20, hb⟩ := ob_in hb
      refine r_iald rfl rfl (x_ltn rfl) rfl o20 ?_
      refine e_k 3 (f' := (168, [(7, .int x19), (6, .int x18), (5, .int x14), (4, .int x11), (3, .int x10), (2, .int x8), (0, .ref 108), (1, .int l1)], [.ref 108, .int x8, .int (x8 &&& (I 110 (Int32.toNatClampNeg 1)))])) rfl ?_
      refine r_getr rfl (x_ltn rfl) rfl rfl ?_
      refine e_k 1 (f' := (172, [(7, .int x19), (6, .int x18), (5, .int x14), (4, .int x11), (3, .int x10), (2, .int x8), (0, .ref 108), (1, .int l1)], [.int 2, .ref 110, .int x8, .int (x8 &&& (I 110 (Int32.toNatClampNeg 1)))])) rfl ?_
      obtain ⟨o21, hb⟩ := ob_in hb
      refine r_iald rfl rfl (x_ltn rfl) rfl o21 ?_
      refine e_k 3 (f' := (176, [(7, .int x19), (6, .int x18), (5, .int x14), (4, .int x11), (3, .int x10), (2, .int x8), (0, .ref 108), (1, .int l1)], [.ref 108, .int ((x8 &&& (I 110 (Int32.toNatClampNeg 1))) ^^^ (x8 &&& (I 110 (Int32.toNatClampNeg 2))))])) rfl ?_
      refine r_getr rfl (x_ltn rfl) rfl rfl ?_
      refine e_k 1 (f' := (180, [(7, .int x19), (6, .int x18), (5, .int x14), (4, .int x11), (3, .int x10), (2, .int x8), (0, .ref 108), (1, .int l1)], [.int 1, .ref 110, .int ((x8 &&& (I 110 (Int32.toNatClampNeg 1))) ^^^ (x8 &&& (I 110 (Int32.toNatClampNeg 2))))])) rfl ?_
      obtain ⟨o22, hb⟩ := ob_in hb
      refine r_iald rfl rfl (x_ltn rfl) rfl o22 ?_
      refine e_k 1 (f' := (182, [(7, .int x19), (6, .int x18), (5, .int x14), (4, .int x11), (3, .int x10), (2, .int x8), (0, .ref 108), (1, .int l1)], [.ref 108, .int (I 110 (Int32.toNatClampNeg 1)), .int ((x8 &&& (I 110 (Int32.toNatClampNeg 1))) ^^^ (x8 &&& (I 110 (Int32.toNatClampNeg 2))))])) rfl ?_
      refine r_getr rfl (x_ltn rfl) rfl rfl ?_
      refine e_k 1 (f' := (186, [(7, .int x19), (6, .int x18), (5, .int x14), (4, .int x11), (3, .int x10), (2, .int x8), (0, .ref 108), (1, .int l1)], [.int 2, .ref 110, .int (I 110 (Int32.toNatClampNeg 1)), .int ((x8 &&& (I 110 (Int32.toNatClampNeg 1))) ^^^ (x8 &&& (I 110 (Int32.toNatClampNeg 2))))])) rfl ?_
      obtain ⟨o23, hb⟩ := ob_in hb
      refine r_iald rfl rfl (x_ltn rfl) rfl o23 ?_
      refine e_k 3 (f' := (191, [(8, .int (((x8 &&& (I 110 (Int32.toNatClampNeg 1))) ^^^ (x8 &&& (I 110 (Int32.toNatClampNeg 2)))) ^^^ ((I 110 (Int32.toNatClampNeg 1)) &&& (I 110 (Int32.toNatClampNeg 2))))), (7, .int x19), (6, .int x18), (5, .int x14), (4, .int x11), (3, .int x10), (2, .int x8), (0, .ref 108), (1, .int l1)], [])) rfl ?_
      obtain ⟨x24, ex24, hb⟩ := p_nm hb
      rw [← ex24]
      refine e_k 2 (f' := (195, [(9, .int 7), (8, .int x24), (7, .int x19), (6, .int x18), (5, .int x14), (4, .int x11), (3, .int x10), (2, .int x8), (0, .ref 108), (1, .int l1)], [])) rfl ?_
      refine e_sub (ls := [(0, .ref 108), (1, .int l1), (6, .int x18), (7, .int x19), (8, .int x24), (9, .int 7)]) rfl ⟨rfl, rfl, rfl, rfl, rfl, rfl, trivial⟩ ?_
      obtain ⟨u29, I29, J29, h29, hb⟩ := oc_call hb
      refine E_Digest_stir_195  gF  h29 ?_
      refine e_k 1 (f' := (223, [(0, .ref 108), (1, .int l1), (6, .int x18), (7, .int x19), (8, .int x24)], [.ref 108])) rfl ?_
      refine r_getr rfl (x_ltn rfl) rfl rfl ?_
      refine e_k 2 (f' := (228, [(0, .ref 108), (1, .int l1), (6, .int x18), (7, .int x19), (8, .int x24)], [.int 4, .ref 110, .int 4, .ref 110])) rfl ?_
      obtain ⟨o30, hb⟩ := ob_in hb
      refine r_iald rfl rfl (x_ltn rfl) rfl o30 ?_
      refine e_k 2 (f' := (232, [(0, .ref 108), (1, .int l1), (6, .int x18), (7, .int x19), (8, .int x24)], [.int ((I29 110 (Int32.toNatClampNeg 4)) + x18), .int 4, .ref 110])) rfl ?_
      obtain ⟨o31, hb⟩ := ob_in hb
      obtain ⟨I32, eI32, hb⟩ := p_nm hb
      refine r_iast' rfl (x_ltn rfl) rfl o31 eI32 ?_
      refine e_k 1 (f' := (234, [(0, .ref 108), (1, .int l1), (6, .int x18), (7, .int x19), (8, .int x24)], [.ref 108])) rfl ?_
      refine r_getr rfl (x_ltn rfl) rfl rfl ?_
      refine e_k 6 (f' := (246, [(0, .ref 108), (1, .int l1), (6, .int x18), (7, .int x19), (8, .int x24)], [.int ((x18 + x19) + x24), .int 0, .ref 110])) rfl ?_
      obtain ⟨o33, hb⟩ := ob_in hb
      obtain ⟨I34, eI34, hb⟩ := p_nm hb
      refine r_iast' rfl (x_ltn rfl) rfl o33 eI34 ?_
      refine e_k 2 (f' := (27, [(1, .int (l1 + 1)), (0, .ref 108), (6, .int x18), (7, .int x19), (8, .int x24)], [])) rfl ?_
      refine e_sub (ls := [(0, .ref 108), (1, .int (l1 + 1))]) rfl ⟨rfl, rfl, trivial⟩ ?_
      exact ih  hb K
theorem E_Digest_stir_255 {X : MX} : ∀ (fu : Nat) {l1 : Int32} {I : MI} {J : MJ} {r : (Unit)} {I' : MI} {J' : MJ}, f_Digest_stir_255  fu l1 I J = some (r, I', J') → am_E (gG L xs) d m_Digest_stir (281, [], []) (hX X I' J') P → am_E (gG L xs) d m_Digest_stir (255, [(0, .ref 108), (1, .int l1)], []) (hX X I J) P := by
  intro fu
  induction fu with
  | zero =>
    intros
    rename_i hb _
    cases hb
  | succ fu ih =>
    intro l1 I J r I' J' hb K
    unfold f_Digest_stir_255 at hb
    refine e_k 3 (f' := (if 8 ≤ l1 then 281 else 261, [(0, .ref 108), (1, .int l1)], [])) rfl ?_
    refine e_if (fun c36 => ?_) (fun c36 => ?_)
    · replace hb := i_pos c36 hb
      refine e_sub (ls := []) rfl ⟨⟩ ?_
      obtain ⟨rfl, rfl, rfl⟩ := s_inj hb
      exact K
    · replace hb := i_neg c36 hb
      refine e_k 1 (f' := (262, [(0, .ref 108), (1, .int l1)], [.ref 108])) rfl ?_
      refine r_getr rfl (x_ltn rfl) rfl rfl ?_
      refine e_k 2 (f' := (267, [(0, .ref 108), (1, .int l1)], [.int l1, .ref 110, .int l1, .ref 110])) rfl ?_
      obtain ⟨o37, hb⟩ := ob_in hb
      refine r_iald rfl rfl (x_ltn rfl) rfl o37 ?_
      refine e_k 2 (f' := (272, [(0, .ref 108), (1, .int l1)], [.int l1, .ref 1000000002, .int (I 110 (Int32.toNatClampNeg l1)), .int l1, .ref 110])) rfl ?_
      obtain ⟨o38, hb⟩ := ob_in hb
      refine r_tald (k := 2) rfl (by decide) rfl o38 ?_
      refine e_k 1 (f' := (274, [(0, .ref 108), (1, .int l1)], [.int ((I 110 (Int32.toNatClampNeg l1)) + (g_get 0 t_first (Int32.toNatClampNeg l1))), .int l1, .ref 110])) rfl ?_
      obtain ⟨o39, hb⟩ := ob_in hb
      obtain ⟨I40, eI40, hb⟩ := p_nm hb
      refine r_iast' rfl (x_ltn rfl) rfl o39 eI40 ?_
      refine e_k 2 (f' := (255, [(1, .int (l1 + 1)), (0, .ref 108)], [])) rfl ?_
      refine e_sub (ls := [(0, .ref 108), (1, .int (l1 + 1))]) rfl ⟨rfl, rfl, trivial⟩ ?_
      exact ih  hb K
theorem E_Digest_stir {X : MX} {I : MI} {J : MJ} {v : Unit} {I' : MI} {J' : MJ} (hb : f_Digest_stir  I J = some (v, I', J')) (K : P (.inl (none)) (hX X I' J')) : am_E (gG L xs) d m_Digest_stir (0, lv_args 0 [.ref 108], []) (hX X I J) P := by
  unfold f_Digest_stir at hb
  refine e_k 2 (f' := (2, [(1, .int 0), (0, .ref 108)], [])) rfl ?_
  refine e_sub (ls := [(0, .ref 108), (1, .int 0)]) rfl ⟨rfl, rfl, trivial⟩ ?_
  obtain ⟨u5, I5, J5, h5, hb⟩ := oc_call hb
  refine E_Digest_stir_2  gF  h5 ?_
  refine e_k 2 (f' := (27, [(1, .int 0), (0, .ref 108)], [])) rfl ?_
  refine e_sub (ls := [(0, .ref 108), (1, .int 0)]) rfl ⟨rfl, rfl, trivial⟩ ?_
  obtain ⟨u35, I35, J35, h35, hb⟩ := oc_call hb
  refine E_Digest_stir_27  gF  h35 ?_
  refine e_k 2 (f' := (255, [(1, .int 0), (0, .ref 108)], [])) rfl ?_
  refine e_sub (ls := [(0, .ref 108), (1, .int 0)]) rfl ⟨rfl, rfl, trivial⟩ ?_
  obtain ⟨u41, I41, J41, h41, hb⟩ := oc_call hb
  refine E_Digest_stir_255  gF  h41 ?_
  obtain ⟨rfl, rfl, rfl⟩ := s_inj hb
  exact e_r rfl rfl K
end AUTO
