section AUTO
variable {L : Nat} {xs : Nat → Int32} {d : Nat} {P : am_R → am_H → Prop}
def f_Translator_opening (p2 : Int32) (p3 : Int32) (I : MI) (J : MJ) : M2 Unit := oc (f_Translator_look  I J) (fun v1 I1 J1 => pl (I1 3 5 : Int32) (fun x2 => oc (f_Translator_variable  I1 J1) (fun v3 I3 J3 => oc (f_Translator_expect 59 I3 J3) (fun v4 I4 J4 => oc (f_Translator_wantClear p2 p3 I4 J4) (fun v5 I5 J5 => oc (f_Translator_wantSecret v3 x2 I5 J5) (fun v6 I6 J6 => oc (f_Translator_emit 14 p2 (v3 - 13) 0 I6 J6) (fun v7 I7 J7 => some ((), I7, J7))))))))
theorem E_Translator_opening {p2 : Int32} {p3 : Int32} {X : MX} {I : MI} {J : MJ} {v : Unit} {I' : MI} {J' : MJ} (hb : f_Translator_opening p2 p3 I J = some (v, I', J')) (K : P (.inl (none)) (hX X I' J')) : am_E (gG L xs) (d + 3) m_Translator_opening (0, lv_args 0 [.ref 3, .int p2, .int p3], []) (hX X I J) P := by
  unfold f_Translator_opening at hb
  refine e_k 1 (f' := (1, [(0, .ref 3), (1, .int p2), (2, .int p3)], [.ref 3])) rfl ?_
  obtain ⟨v1, I1, J1, h1, hb⟩ := oc_call hb
  refine r_cv (z := m_Translator_look) (As := []) (rest := []) rfl rfl rfl rfl rfl (x_ltn rfl) rfl rfl (E_Translator_look  h1 ⟨_, rfl, ?_⟩)
  refine e_k 2 (f' := (6, [(0, .ref 3), (1, .int p2), (2, .int p3)], [.ref 3])) rfl ?_
  refine r_geti rfl (x_ltn rfl) rfl rfl ?_
  refine e_k 1 (f' := (10, [(3, .int (I1 3 5)), (0, .ref 3), (1, .int p2), (2, .int p3)], [])) rfl ?_
  obtain ⟨x2, ex2, hb⟩ := p_nm hb
  rw [← ex2]
  refine e_k 1 (f' := (11, [(3, .int x2), (0, .ref 3), (1, .int p2), (2, .int p3)], [.ref 3])) rfl ?_
  obtain ⟨v3, I3, J3, h3, hb⟩ := oc_call hb
  refine r_cv (z := m_Translator_variable) (As := []) (rest := []) rfl rfl rfl rfl rfl (x_ltn rfl) rfl rfl (E_Translator_variable  h3 ⟨_, rfl, ?_⟩)
  refine e_k 3 (f' := (19, [(4, .int v3), (3, .int x2), (0, .ref 3), (1, .int p2), (2, .int p3)], [.int 59, .ref 3])) rfl ?_
  obtain ⟨v4, I4, J4, h4, hb⟩ := oc_call hb
  refine r_cv (z := m_Translator_expect) (As := [.int 59]) (rest := []) rfl rfl rfl rfl rfl (x_ltn rfl) rfl rfl (E_Translator_expect  h4 ⟨_, rfl, ?_⟩)
  refine e_k 3 (f' := (25, [(4, .int v3), (3, .int x2), (0, .ref 3), (1, .int p2), (2, .int p3)], [.int p3, .int p2, .ref 3])) rfl ?_
  obtain ⟨v5, I5, J5, h5, hb⟩ := oc_call hb
  refine r_cv (z := m_Translator_wantClear) (As := [.int p2, .int p3]) (rest := []) rfl rfl rfl rfl rfl (x_ltn rfl) rfl rfl (E_Translator_wantClear  h5 ⟨_, rfl, ?_⟩)
  refine e_k 3 (f' := (32, [(4, .int v3), (3, .int x2), (0, .ref 3), (1, .int p2), (2, .int p3)], [.int x2, .int v3, .ref 3])) rfl ?_
  obtain ⟨v6, I6, J6, h6, hb⟩ := oc_call hb
  refine r_cv (z := m_Translator_wantSecret) (As := [.int v3, .int x2]) (rest := []) rfl rfl rfl rfl rfl (x_ltn rfl) rfl rfl (E_Translator_wantSecret  h6 ⟨_, rfl, ?_⟩)
  refine e_k 7 (f' := (45, [(4, .int v3), (3, .int x2), (0, .ref 3), (1, .int p2), (2, .int p3)], [.int 0, .int (v3 - 13), .int p2, .int 14, .ref 3])) rfl ?_
  obtain ⟨v7, I7, J7, h7, hb⟩ := oc_call hb
  refine r_cv (z := m_Translator_emit) (As := [.int 14, .int p2, .int (v3 - 13), .int 0]) (rest := []) rfl rfl rfl rfl rfl (x_ltn rfl) rfl rfl (E_Translator_emit  h7 ⟨_, rfl, ?_⟩)
  obtain ⟨rfl, rfl, rfl⟩ := s_inj hb
  exact e_r rfl rfl K
def f_Translator_arrayByArray (p2 : Int32) (p3 : Int32) (I : MI) (J : MJ) : M2 Unit := oc (f_Translator_array  I J) (fun v1 I1 J1 => oc (f_Translator_look  I1 J1) (fun v2 I2 J2 => oc ((if v2 = 43 then (oc (f_Translator_pass  I2 J2) (fun v7 I7 J7 => some ((), I7, J7))) else (if v2 = 45 then (oc (f_Translator_pass  I2 J2) (fun v9 I9 J9 => some ((), I9, J9))) else (if ¬ v2 = 42 then (oc (f_Translator_refuse  I2 J2) (fun v11 I11 J11 => some ((), I11, J11))) else (oc (f_Translator_pass  I2 J2) (fun v12 I12 J12 => some ((), I12, J12)))))) : M2 (Unit)) (fun v5 I5 J5 => oc (f_Translator_array  I5 J5) (fun v13 I13 J13 => oc (f_Translator_expect 59 I13 J13) (fun v14 I14 J14 => oc ((if 4 ≤ p2 then (some ((), I14, J14)) else (if 4 ≤ v1 then (oc (f_Translator_blame 3 p3 I14 J14) (fun v19 I19 J19 => some ((), I19, J19))) else (if v13 < 4 then (some ((), I14, J14)) else (oc (f_Translator_blame 3 p3 I14 J14) (fun v21 I21 J21 => some ((), I21, J21)))))) : M2 (Unit)) (fun v16 I16 J16 => pl ((if ¬ v2 = 43 then (if ¬ v2 = 45 then (25) else (24)) else (23)) : Int32) (fun v24 => oc (f_Translator_emit v24 p2 v1 v13 I16 J16) (fun v27 I27 J27 => some ((), I27, J27)))))))))
theorem E_Translator_arrayByArray {p2 : Int32} {p3 : Int32} {X : MX} {I : MI} {J : MJ} {v : Unit} {I' : MI} {J' : MJ} (hb : f_Translator_arrayByArray p2 p3 I J = some (v, I', J')) (K : P (.inl (none)) (hX X I' J')) : am_E (gG L xs) (d + 3) m_Translator_arrayByArray (0, lv_args 0 [.ref 3, .int p2, .int p3], []) (hX X I J) P := by
  unfold f_Translator_arrayByArray at hb
  refine e_k 1 (f' := (1, [(0, .ref 3), (1, .int p2), (2, .int p3)], [.ref 3])) rfl ?_
  obtain ⟨v1, I1, J1, h1, hb⟩ := oc_call hb
  refine r_cv (z := m_Translator_array) (As := []) (rest := []) rfl rfl rfl rfl rfl (x_ltn rfl) rfl rfl (E_Translator_array  h1 ⟨_, rfl, ?_⟩)
  refine e_k 2 (f' := (6, [(3, .int v1), (0, .ref 3), (1, .int p2), (2, .int p3)], [.ref 3])) rfl ?_
  obtain ⟨v2, I2, J2, h2, hb⟩ := oc_call hb
  refine r_cv (z := m_Translator_look) (As := []) (rest := []) rfl rfl rfl rfl rfl (x_ltn rfl) rfl rfl (E_Translator_look  h2 ⟨_, rfl, ?_⟩)
  refine e_k 4 (f' := (if v2 = 43 then 32 else 18, [(4, .int v2), (3, .int v1), (0, .ref 3), (1, .int p2), (2, .int p3)], [])) rfl ?_
  obtain ⟨v5, I5, J5, h5, hb⟩ := oc_call hb
  have Kj5 : am_E (gG L xs) (d + 3) m_Translator_arrayByArray (43, [(0, .ref 3), (1, .int p2), (2, .int p3), (3, .int v1), (4, .int v2)], []) (hX X I5 J5) P := by
    refine e_k 1 (f' := (44, [(0, .ref 3), (1, .int p2), (2, .int p3), (3, .int v1), (4, .int v2)], [.ref 3])) rfl ?_
    obtain ⟨v13, I13, J13, h13, hb⟩ := oc_call hb
    refine r_cv (z := m_Translator_array) (As := []) (rest := []) rfl rfl rfl rfl rfl (x_ltn rfl) rfl rfl (E_Translator_array  h13 ⟨_, rfl, ?_⟩)
    refine e_k 3 (f' := (52, [(5, .int v13), (0, .ref 3), (1, .int p2), (2, .int p3), (3, .int v1), (4, .int v2)], [.int 59, .ref 3])) rfl ?_
    obtain ⟨v14, I14, J14, h14, hb⟩ := oc_call hb
    refine r_cv (z := m_Translator_expect) (As := [.int 59]) (rest := []) rfl rfl rfl rfl rfl (x_ltn rfl) rfl rfl (E_Translator_expect  h14 ⟨_, rfl, ?_⟩)
    refine e_k 3 (f' := (if 4 ≤ p2 then 77 else 60, [(5, .int v13), (0, .ref 3), (1, .int p2), (2, .int p3), (3, .int v1), (4, .int v2)], [])) rfl ?_
    obtain ⟨v16, I16, J16, h16, hb⟩ := oc_call hb
    have Kj16 : am_E (gG L xs) (d + 3) m_Translator_arrayByArray (77, [(0, .ref 3), (1, .int p2), (3, .int v1), (4, .int v2), (5, .int v13)], []) (hX X I16 J16) P := by
      refine e_k 3 (f' := (if ¬ v2 = 43 then 89 else 84, [(0, .ref 3), (1, .int p2), (3, .int v1), (4, .int v2), (5, .int v13)], [])) rfl ?_
      obtain ⟨v24, h24, hb⟩ := p_nn hb
      have Kj24 : am_E (gG L xs) (d + 3) m_Translator_arrayByArray (103, [(0, .ref 3), (1, .int p2), (3, .int v1), (5, .int v13)], [.int v24]) (hX X I16 J16) P := by
        refine e_k 6 (f' := (112, [(6, .int v24), (0, .ref 3), (1, .int p2), (3, .int v1), (5, .int v13)], [.int v13, .int v1, .int p2, .int v24, .ref 3])) rfl ?_
        obtain ⟨v27, I27, J27, h27, hb⟩ := oc_call hb
        refine r_cv (z := m_Translator_emit) (As := [.int v24, .int p2, .int v1, .int v13]) (rest := []) rfl rfl rfl rfl rfl (x_ltn rfl) rfl rfl (E_Translator_emit  h27 ⟨_, rfl, ?_⟩)
        obtain ⟨rfl, rfl, rfl⟩ := s_inj hb
        exact e_r rfl rfl K
      clear hb
      refine e_if (fun c25 => ?_) (fun c25 => ?_)
      · replace h24 := i_pos c25 h24
        refine e_k 3 (f' := (if ¬ v2 = 45 then 101 else 96, [(0, .ref 3), (1, .int p2), (3, .int v1), (4, .int v2), (5, .int v13)], [])) rfl ?_
        refine e_if (fun c26 => ?_) (fun c26 => ?_)
        · replace h24 := i_pos c26 h24
          refine e_k 1 (f' := (103, [(0, .ref 3), (1, .int p2), (3, .int v1), (4, .int v2), (5, .int v13)], [.int 25])) rfl ?_
          refine e_sub (ls := [(0, .ref 3), (1, .int p2), (3, .int v1), (5, .int v13)]) rfl ⟨rfl, rfl, rfl, rfl, trivial⟩ ?_
          subst h24
          exact Kj24
        · replace h24 := i_neg c26 h24
          refine e_k 2 (f' := (103, [(0, .ref 3), (1, .int p2), (3, .int v1), (4, .int v2), (5, .int v13)], [.int 24])) rfl ?_
          refine e_sub (ls := [(0, .ref 3), (1, .int p2), (3, .int v1), (5, .int v13)]) rfl ⟨rfl, rfl, rfl, rfl, trivial⟩ ?_
          subst h24
          exact Kj24
      · replace h24 := i_neg c25 h24
        refine e_k 2 (f' := (103, [(0, .ref 3), (1, .int p2), (3, .int v1), (4, .int v2), (5, .int v13)], [.int 23])) rfl ?_
        refine e_sub (ls := [(0, .ref 3), (1, .int p2), (3, .int v1), (5, .int v13)]) rfl ⟨rfl, rfl, rfl, rfl, trivial⟩ ?_
        subst h24
        exact Kj24
    clear hb
    refine e_if (fun c17 => ?_) (fun c17 => ?_)
    · replace h16 := i_pos c17 h16
      refine e_sub (ls := [(0, .ref 3), (1, .int p2), (3, .int v1), (4, .int v2), (5, .int v13)]) rfl ⟨rfl, rfl, rfl, rfl, rfl, trivial⟩ ?_
      obtain ⟨rfl, rfl, rfl⟩ := s_inj h16
      exact Kj16
    · replace h16 := i_neg c17 h16
      refine e_k 3 (f' := (if 4 ≤ v1 then 71 else 65, [(5, .int v13), (0, .ref 3), (1, .int p2), (2, .int p3), (3, .int v1), (4, .int v2)], [])) rfl ?_
      refine e_if (fun c18 => ?_) (fun c18 => ?_)
      · replace h16 := i_pos c18 h16
        refine e_k 3 (f' := (74, [(5, .int v13), (0, .ref 3), (1, .int p2), (2, .int p3), (3, .int v1), (4, .int v2)], [.int p3, .int 3, .ref 3])) rfl ?_
        obtain ⟨v19, I19, J19, h19, h16⟩ := oc_call h16
        refine r_cv (z := m_Translator_blame) (As := [.int 3, .int p3]) (rest := []) rfl rfl rfl rfl rfl (x_ltn rfl) rfl rfl (E_Translator_blame  h19 ⟨_, rfl, ?_⟩)
        refine e_sub (ls := [(0, .ref 3), (1, .int p2), (3, .int v1), (4, .int v2), (5, .int v13)]) rfl ⟨rfl, rfl, rfl, rfl, rfl, trivial⟩ ?_
        obtain ⟨rfl, rfl, rfl⟩ := s_inj h16
        exact Kj16
      · replace h16 := i_neg c18 h16
        refine e_k 3 (f' := (if v13 < 4 then 77 else 71, [(5, .int v13), (0, .ref 3), (1, .int p2), (2, .int p3), (3, .int v1), (4, .int v2)], [])) rfl ?_
        refine e_if (fun c20 => ?_) (fun c20 => ?_)
        · replace h16 := i_pos c20 h16
          refine e_sub (ls := [(0, .ref 3), (1, .int p2), (3, .int v1), (4, .int v2), (5, .int v13)]) rfl ⟨rfl, rfl, rfl, rfl, rfl, trivial⟩ ?_
          obtain ⟨rfl, rfl, rfl⟩ := s_inj h16
          exact Kj16
        · replace h16 := i_neg c20 h16
          refine e_k 3 (f' := (74, [(5, .int v13), (0, .ref 3), (1, .int p2), (2, .int p3), (3, .int v1), (4, .int v2)], [.int p3, .int 3, .ref 3])) rfl ?_
          obtain ⟨v21, I21, J21, h21, h16⟩ := oc_call h16
          refine r_cv (z := m_Translator_blame) (As := [.int 3, .int p3]) (rest := []) rfl rfl rfl rfl rfl (x_ltn rfl) rfl rfl (E_Translator_blame  h21 ⟨_, rfl, ?_⟩)
          refine e_sub (ls := [(0, .ref 3), (1, .int p2), (3, .int v1), (4, .int v2), (5, .int v13)]) rfl ⟨rfl, rfl, rfl, rfl, rfl, trivial⟩ ?_
          obtain ⟨rfl, rfl, rfl⟩ := s_inj h16
          exact Kj16
  clear hb
  refine e_if (fun c6 => ?_) (fun c6 => ?_)
  · replace h5 := i_pos c6 h5
    refine e_k 1 (f' := (33, [(4, .int v2), (3, .int v1), (0, .ref 3), (1, .int p2), (2, .int p3)], [.ref 3])) rfl ?_
    obtain ⟨v7, I7, J7, h7, h5⟩ := oc_call h5
    refine r_cv (z := m_Translator_pass) (As := []) (rest := []) rfl rfl rfl rfl rfl (x_ltn rfl) rfl rfl (E_Translator_pass  h7 ⟨_, rfl, ?_⟩)
    refine e_k 1 (f' := (43, [(4, .int v2), (3, .int v1), (0, .ref 3), (1, .int p2), (2, .int p3)], [])) rfl ?_
    refine e_sub (ls := [(0, .ref 3), (1, .int p2), (2, .int p3), (3, .int v1), (4, .int v2)]) rfl ⟨rfl, rfl, rfl, rfl, rfl, trivial⟩ ?_
    obtain ⟨rfl, rfl, rfl⟩ := s_inj h5
    exact Kj5
  · replace h5 := i_neg c6 h5
    refine e_k 3 (f' := (if v2 = 45 then 32 else 25, [(4, .int v2), (3, .int v1), (0, .ref 3), (1, .int p2), (2, .int p3)], [])) rfl ?_
    refine e_if (fun c8 => ?_) (fun c8 => ?_)
    · replace h5 := i_pos c8 h5
      refine e_k 1 (f' := (33, [(4, .int v2), (3, .int v1), (0, .ref 3), (1, .int p2), (2, .int p3)], [.ref 3])) rfl ?_
      obtain ⟨v9, I9, J9, h9, h5⟩ := oc_call h5
      refine r_cv (z := m_Translator_pass) (As := []) (rest := []) rfl rfl rfl rfl rfl (x_ltn rfl) rfl rfl (E_Translator_pass  h9 ⟨_, rfl, ?_⟩)
      refine e_k 1 (f' := (43, [(4, .int v2), (3, .int v1), (0, .ref 3), (1, .int p2), (2, .int p3)], [])) rfl ?_
      refine e_sub (ls := [(0, .ref 3), (1, .int p2), (2, .int p3), (3, .int v1), (4, .int v2)]) rfl ⟨rfl, rfl, rfl, rfl, rfl, trivial⟩ ?_
      obtain ⟨rfl, rfl, rfl⟩ := s_inj h5
      exact Kj5
    · replace h5 := i_neg c8 h5
      refine e_k 3 (f' := (if ¬ v2 = 42 then 39 else 32, [(4, .int v2), (3, .int v1), (0, .ref 3), (1, .int p2), (2, .int p3)], [])) rfl ?_
      refine e_if (fun c10 => ?_) (fun c10 => ?_)
      · replace h5 := i_pos c10 h5
        refine e_k 1 (f' := (40, [(4, .int v2), (3, .int v1), (0, .ref 3), (1, .int p2), (2, .int p3)], [.ref 3])) rfl ?_
        obtain ⟨v11, I11, J11, h11, h5⟩ := oc_call h5
        refine r_cv (z := m_Translator_refuse) (As := []) (rest := []) rfl rfl rfl rfl rfl (x_ltn rfl) rfl rfl (E_Translator_refuse  h11 ⟨_, rfl, ?_⟩)
        refine e_sub (ls := [(0, .ref 3), (1, .int p2), (2, .int p3), (3, .int v1), (4, .int v2)]) rfl ⟨rfl, rfl, rfl, rfl, rfl, trivial⟩ ?_
        obtain ⟨rfl, rfl, rfl⟩ := s_inj h5
        exact Kj5
      · replace h5 := i_neg c10 h5
        refine e_k 1 (f' := (33, [(4, .int v2), (3, .int v1), (0, .ref 3), (1, .int p2), (2, .int p3)], [.ref 3])) rfl ?_
        obtain ⟨v12, I12, J12, h12, h5⟩ := oc_call h5
        refine r_cv (z := m_Translator_pass) (As := []) (rest := []) rfl rfl rfl rfl rfl (x_ltn rfl) rfl rfl (E_Translator_pass  h12 ⟨_, rfl, ?_⟩)
        refine e_k 1 (f' := (43, [(4, .int v2), (3, .int v1), (0, .ref 3), (1, .int p2), (2, .int p3)], [])) rfl ?_
        refine e_sub (ls := [(0, .ref 3), (1, .int p2), (2, .int p3), (3, .int v1), (4, .int v2)]) rfl ⟨rfl, rfl, rfl, rfl, rfl, trivial⟩ ?_
        obtain ⟨rfl, rfl, rfl⟩ := s_inj h5
        exact Kj5
def f_Translator_show (I : MI) (J : MJ) : M2 Unit := oc (f_Translator_pass  I J) (fun v1 I1 J1 => oc (f_Translator_variable  I1 J1) (fun v2 I2 J2 => oc (f_Translator_expect 59 I2 J2) (fun v3 I3 J3 => if 13 ≤ v2 then (oc (f_Translator_emit 16 (v2 - 13) 0 0 I3 J3) (fun v5 I5 J5 => some ((), I5, J5))) else (oc (f_Translator_emit 15 v2 0 0 I3 J3) (fun v6 I6 J6 => some ((), I6, J6))))))
theorem E_Translator_show {X : MX} {I : MI} {J : MJ} {v : Unit} {I' : MI} {J' : MJ} (hb : f_Translator_show  I J = some (v, I', J')) (K : P (.inl (none)) (hX X I' J')) : am_E (gG L xs) (d + 3) m_Translator_show (0, lv_args 0 [.ref 3], []) (hX X I J) P := by
  unfold f_Translator_show at hb
  refine e_k 1 (f' := (1, [(0, .ref 3)], [.ref 3])) rfl ?_
  obtain ⟨v1, I1, J1, h1, hb⟩ := oc_call hb
  refine r_cv (z := m_Translator_pass) (As := []) (rest := []) rfl rfl rfl rfl rfl (x_ltn rfl) rfl rfl (E_Translator_pass  h1 ⟨_, rfl, ?_⟩)
  refine e_k 1 (f' := (5, [(0, .ref 3)], [.ref 3])) rfl ?_
  obtain ⟨v2, I2, J2, h2, hb⟩ := oc_call hb
  refine r_cv (z := m_Translator_variable) (As := []) (rest := []) rfl rfl rfl rfl rfl (x_ltn rfl) rfl rfl (E_Translator_variable  h2 ⟨_, rfl, ?_⟩)
  refine e_k 3 (f' := (12, [(1, .int v2), (0, .ref 3)], [.int 59, .ref 3])) rfl ?_
  obtain ⟨v3, I3, J3, h3, hb⟩ := oc_call hb
  refine r_cv (z := m_Translator_expect) (As := [.int 59]) (rest := []) rfl rfl rfl rfl rfl (x_ltn rfl) rfl rfl (E_Translator_expect  h3 ⟨_, rfl, ?_⟩)
  refine e_k 3 (f' := (if 13 ≤ v2 then 33 else 21, [(1, .int v2), (0, .ref 3)], [])) rfl ?_
  refine e_if (fun c4 => ?_) (fun c4 => ?_)
  · replace hb := i_pos c4 hb
    refine e_k 7 (f' := (42, [(1, .int v2), (0, .ref 3)], [.int 0, .int 0, .int (v2 - 13), .int 16, .ref 3])) rfl ?_
    obtain ⟨v5, I5, J5, h5, hb⟩ := oc_call hb
    refine r_cv (z := m_Translator_emit) (As := [.int 16, .int (v2 - 13), .int 0, .int 0]) (rest := []) rfl rfl rfl rfl rfl (x_ltn rfl) rfl rfl (E_Translator_emit  h5 ⟨_, rfl, ?_⟩)
    obtain ⟨rfl, rfl, rfl⟩ := s_inj hb
    exact e_r rfl rfl K
  · replace hb := i_neg c4 hb
    refine e_k 5 (f' := (27, [(1, .int v2), (0, .ref 3)], [.int 0, .int 0, .int v2, .int 15, .ref 3])) rfl ?_
    obtain ⟨v6, I6, J6, h6, hb⟩ := oc_call hb
    refine r_cv (z := m_Translator_emit) (As := [.int 15, .int v2, .int 0, .int 0]) (rest := []) rfl rfl rfl rfl rfl (x_ltn rfl) rfl rfl (E_Translator_emit  h6 ⟨_, rfl, ?_⟩)
    refine e_k 1 (f' := (45, [(1, .int v2), (0, .ref 3)], [])) rfl ?_
    obtain ⟨rfl, rfl, rfl⟩ := s_inj hb
    exact e_r rfl rfl K
def f_Translator_routine (R : M3) (p2 : Int32) (I : MI) (J : MJ) : M2 Unit := oc (f_Translator_pass  I J) (fun v1 I1 J1 => oc (f_Translator_digit  I1 J1) (fun v2 I2 J2 => oc (f_Translator_look  I2 J2) (fun v3 I3 J3 => if ¬ v3 = 91 then (oc (f_Translator_expect 59 I3 J3) (fun v5 I5 J5 => oc ((if (nI 10) ≤ v2 then (some ((), I5, J5)) else (if v2 < 0 ∨ 10 ≤ Int32.toNatClampNeg v2 then none else (if ¬ (I5 9 (Int32.toNatClampNeg v2)) = (-1) then (some ((), I5, J5)) else (if v2 < 0 ∨ 10 ≤ Int32.toNatClampNeg v2 then none else (pl (va_up I5 9 (upd (I5 9) (Int32.toNatClampNeg v2) p2)) (fun I12 => some ((), I12, J5))))))) : M2 (Unit)) (fun v7 I7 J7 => oc (f_Translator_emit 28 0 v2 0 I7 J7) (fun v13 I13 J13 => some ((), I13, J13))))) else (if ¬ (I3 3 7) = 0 then (oc (f_Translator_expect 59 I3 J3) (fun v15 I15 J15 => oc ((if (nI 10) ≤ v2 then (some ((), I15, J15)) else (if v2 < 0 ∨ 10 ≤ Int32.toNatClampNeg v2 then none else (if ¬ (I15 9 (Int32.toNatClampNeg v2)) = (-1) then (some ((), I15, J15)) else (if v2 < 0 ∨ 10 ≤ Int32.toNatClampNeg v2 then none else (pl (va_up I15 9 (upd (I15 9) (Int32.toNatClampNeg v2) p2)) (fun I22 => some ((), I22, J15))))))) : M2 (Unit)) (fun v17 I17 J17 => oc (f_Translator_emit 28 0 v2 0 I17 J17) (fun v23 I23 J23 => some ((), I23, J23))))) else (oc (R 6 v2 p2 I3 J3) (fun v24 I24 J24 => some ((), I24, J24)))))))
theorem E_Translator_routine {R : M3} {p2 : Int32} {X : MX} {I : MI} {J : MJ} {v : Unit} {I' : MI} {J' : MJ} (hR_0 : ∀ {I : MI} {J : MJ} {v : Int32} {I' : MI} {J' : MJ} {P : am_R → am_H → Prop}, R 0 0 0 I J = some (v, I', J') → P (.inl (none)) (hX X I' J') → am_E (gG L xs) (d + 2) m_Translator_statements (0, lv_args 0 [.ref 3], []) (hX X I J) P) (hR_1 : ∀ {I : MI} {J : MJ} {v : Int32} {I' : MI} {J' : MJ} {P : am_R → am_H → Prop}, R 1 0 0 I J = some (v, I', J') → P (.inl (some (.int v))) (hX X I' J') → am_E (gG L xs) (d + 2) m_Translator_statement (0, lv_args 0 [.ref 3], []) (hX X I J) P) (hR_2 : ∀ {a0 : Int32} {a1 : Int32} {I : MI} {J : MJ} {v : Int32} {I' : MI} {J' : MJ} {P : am_R → am_H → Prop}, R 2 a0 a1 I J = some (v, I', J') → P (.inl (none)) (hX X I' J') → am_E (gG L xs) (d + 2) m_Translator_variableStatement (0, lv_args 0 [.ref 3, .int a0, .int a1], []) (hX X I J) P) (hR_3 : ∀ {a0 : Int32} {a1 : Int32} {I : MI} {J : MJ} {v : Int32} {I' : MI} {J' : MJ} {P : am_R → am_H → Prop}, R 3 a0 a1 I J = some (v, I', J') → P (.inl (none)) (hX X I' J') → am_E (gG L xs) (d + 2) m_Translator_assign (0, lv_args 0 [.ref 3, .int a0, .int a1], []) (hX X I J) P) (hR_4 : ∀ {a0 : Int32} {a1 : Int32} {I : MI} {J : MJ} {v : Int32} {I' : MI} {J' : MJ} {P : am_R → am_H → Prop}, R 4 a0 a1 I J = some (v, I', J') → P (.inl (none)) (hX X I' J') → am_E (gG L xs) (d + 2) m_Translator_arrayStatement (0, lv_args 0 [.ref 3, .int a0, .int a1], []) (hX X I J) P) (hR_5 : ∀ {a0 : Int32} {I : MI} {J : MJ} {v : Int32} {I' : MI} {J' : MJ} {P : am_R → am_H → Prop}, R 5 a0 0 I J = some (v, I', J') → P (.inl (none)) (hX X I' J') → am_E (gG L xs) (d + 2) m_Translator_routine (0, lv_args 0 [.ref 3, .int a0], []) (hX X I J) P) (hR_6 : ∀ {a0 : Int32} {a1 : Int32} {I : MI} {J : MJ} {v : Int32} {I' : MI} {J' : MJ} {P : am_R → am_H → Prop}, R 6 a0 a1 I J = some (v, I', J') → P (.inl (none)) (hX X I' J') → am_E (gG L xs) (d + 2) m_Translator_tell (0, lv_args 0 [.ref 3, .int a0, .int a1], []) (hX X I J) P) (hR_7 : ∀ {I : MI} {J : MJ} {v : Int32} {I' : MI} {J' : MJ} {P : am_R → am_H → Prop}, R 7 0 0 I J = some (v, I', J') → P (.inl (none)) (hX X I' J') → am_E (gG L xs) (d + 2) m_Translator_choice (0, lv_args 0 [.ref 3], []) (hX X I J) P) (hR_8 : ∀ {I : MI} {J : MJ} {v : Int32} {I' : MI} {J' : MJ} {P : am_R → am_H → Prop}, R 8 0 0 I J = some (v, I', J') → P (.inl (none)) (hX X I' J') → am_E (gG L xs) (d + 2) m_Translator_loop (0, lv_args 0 [.ref 3], []) (hX X I J) P) (hR_9 : ∀ {I : MI} {J : MJ} {v : Int32} {I' : MI} {J' : MJ} {P : am_R → am_H → Prop}, R 9 0 0 I J = some (v, I', J') → P (.inl (some (.int v))) (hX X I' J') → am_E (gG L xs) (d + 2) m_Translator_expression (0, lv_args 0 [.ref 3], []) (hX X I J) P) (hR_10 : ∀ {I : MI} {J : MJ} {v : Int32} {I' : MI} {J' : MJ} {P : am_R → am_H → Prop}, R 10 0 0 I J = some (v, I', J') → P (.inl (some (.int v))) (hX X I' J') → am_E (gG L xs) (d + 2) m_Translator_product (0, lv_args 0 [.ref 3], []) (hX X I J) P) (hR_11 : ∀ {I : MI} {J : MJ} {v : Int32} {I' : MI} {J' : MJ} {P : am_R → am_H → Prop}, R 11 0 0 I J = some (v, I', J') → P (.inl (some (.int v))) (hX X I' J') → am_E (gG L xs) (d + 2) m_Translator_factor (0, lv_args 0 [.ref 3], []) (hX X I J) P) (hR_12 : ∀ {I : MI} {J : MJ} {v : Int32} {I' : MI} {J' : MJ} {P : am_R → am_H → Prop}, R 12 0 0 I J = some (v, I', J') → P (.inl (some (.int v))) (hX X I' J') → am_E (gG L xs) (d + 2) m_Translator_atom (0, lv_args 0 [.ref 3], []) (hX X I J) P) (hR_13 : ∀ {I : MI} {J : MJ} {v : Int32} {I' : MI} {J' : MJ} {P : am_R → am_H → Prop}, R 13 0 0 I J = some (v, I', J') → P (.inl (none)) (hX X I' J') → am_E (gG L xs) (d + 2) m_Translator_index (0, lv_args 0 [.ref 3], []) (hX X I J) P) (hb : f_Translator_routine R p2 I J = some (v, I', J')) (K : P (.inl (none)) (hX X I' J')) : am_E (gG L xs) (d + 3) m_Translator_routine (0, lv_args 0 [.ref 3, .int p2], []) (hX X I J) P := by
  unfold f_Translator_routine at hb
  refine e_k 1 (f' := (1, [(0, .ref 3), (1, .int p2)], [.ref 3])) rfl ?_
  obtain ⟨v1, I1, J1, h1, hb⟩ := oc_call hb
  refine r_cv (z := m_Translator_pass) (As := []) (rest := []) rfl rfl rfl rfl rfl (x_ltn rfl) rfl rfl (E_Translator_pass  h1 ⟨_, rfl, ?_⟩)
  refine e_k 1 (f' := (5, [(0, .ref 3), (1, .int p2)], [.ref 3])) rfl ?_
  obtain ⟨v2, I2, J2, h2, hb⟩ := oc_call hb
  refine r_cv (z := m_Translator_digit) (As := []) (rest := []) rfl rfl rfl rfl rfl (x_ltn rfl) rfl rfl (E_Translator_digit  h2 ⟨_, rfl, ?_⟩)
  refine e_k 2 (f' := (10, [(2, .int v2), (0, .ref 3), (1, .int p2)], [.ref 3])) rfl ?_
  obtain ⟨v3, I3, J3, h3, hb⟩ := oc_call hb
  refine r_cv (z := m_Translator_look) (As := []) (rest := []) rfl rfl rfl rfl rfl (x_ltn rfl) rfl rfl (E_Translator_look  h3 ⟨_, rfl, ?_⟩)
  refine e_k 2 (f' := (if ¬ v3 = 91 then 32 else 18, [(2, .int v2), (0, .ref 3), (1, .int p2)], [])) rfl ?_
  refine e_if (fun c4 => ?_) (fun c4 => ?_)
  · replace hb := i_pos c4 hb
    refine e_k 2 (f' := (35, [(2, .int v2), (0, .ref 3), (1, .int p2)], [.int 59, .ref 3])) rfl ?_
    obtain ⟨v5, I5, J5, h5, hb⟩ := oc_call hb
    refine r_cv (z := m_Translator_expect) (As := [.int 59]) (rest := []) rfl rfl rfl rfl rfl (x_ltn rfl) rfl rfl (E_Translator_expect  h5 ⟨_, rfl, ?_⟩)
    refine e_k 2 (f' := (40, [(2, .int v2), (0, .ref 3), (1, .int p2)], [.ref 3, .int v2])) rfl ?_
    refine r_getr rfl (x_ltn rfl) rfl rfl ?_
    refine r_alen rfl rfl (x_ltn rfl) rfl rfl ?_
    refine e_k 1 (f' := (if (nI 10) ≤ v2 then 64 else 47, [(2, .int v2), (0, .ref 3), (1, .int p2)], [])) rfl ?_
    obtain ⟨v7, I7, J7, h7, hb⟩ := oc_call hb
    have Kj7 : am_E (gG L xs) (d + 3) m_Translator_routine (64, [(0, .ref 3), (2, .int v2)], []) (hX X I7 J7) P := by
      refine e_k 5 (f' := (70, [(0, .ref 3), (2, .int v2)], [.int 0, .int v2, .int 0, .int 28, .ref 3])) rfl ?_
      obtain ⟨v13, I13, J13, h13, hb⟩ := oc_call hb
      refine r_cv (z := m_Translator_emit) (As := [.int 28, .int 0, .int v2, .int 0]) (rest := []) rfl rfl rfl rfl rfl (x_ltn rfl) rfl rfl (E_Translator_emit  h13 ⟨_, rfl, ?_⟩)
      obtain ⟨rfl, rfl, rfl⟩ := s_inj hb
      exact e_r rfl rfl K
    clear hb
    refine e_if (fun c8 => ?_) (fun c8 => ?_)
    · replace h7 := i_pos c8 h7
      refine e_sub (ls := [(0, .ref 3), (2, .int v2)]) rfl ⟨rfl, rfl, trivial⟩ ?_
      obtain ⟨rfl, rfl, rfl⟩ := s_inj h7
      exact Kj7
    · replace h7 := i_neg c8 h7
      refine e_k 1 (f' := (48, [(2, .int v2), (0, .ref 3), (1, .int p2)], [.ref 3])) rfl ?_
      refine r_getr rfl (x_ltn rfl) rfl rfl ?_
      refine e_k 1 (f' := (52, [(2, .int v2), (0, .ref 3), (1, .int p2)], [.int v2, .ref 9])) rfl ?_
      obtain ⟨o9, h7⟩ := ob_in h7
      refine r_iald rfl rfl (x_ltn rfl) rfl o9 ?_
      refine e_k 2 (f' := (if ¬ (I5 9 (Int32.toNatClampNeg v2)) = (-1) then 64 else 57, [(2, .int v2), (0, .ref 3), (1, .int p2)], [])) rfl ?_
      refine e_if (fun c10 => ?_) (fun c10 => ?_)
      · replace h7 := i_pos c10 h7
        refine e_sub (ls := [(0, .ref 3), (2, .int v2)]) rfl ⟨rfl, rfl, trivial⟩ ?_
        obtain ⟨rfl, rfl, rfl⟩ := s_inj h7
        exact Kj7
      · replace h7 := i_neg c10 h7
        refine e_k 1 (f' := (58, [(2, .int v2), (0, .ref 3), (1, .int p2)], [.ref 3])) rfl ?_
        refine r_getr rfl (x_ltn rfl) rfl rfl ?_
        refine e_k 2 (f' := (63, [(2, .int v2), (0, .ref 3), (1, .int p2)], [.int p2, .int v2, .ref 9])) rfl ?_
        obtain ⟨o11, h7⟩ := ob_in h7
        obtain ⟨I12, eI12, h7⟩ := p_nm h7
        refine r_iast' rfl (x_ltn rfl) rfl o11 eI12 ?_
        refine e_sub (ls := [(0, .ref 3), (2, .int v2)]) rfl ⟨rfl, rfl, trivial⟩ ?_
        obtain ⟨rfl, rfl, rfl⟩ := s_inj h7
        exact Kj7
  · replace hb := i_neg c4 hb
    refine e_k 1 (f' := (19, [(2, .int v2), (0, .ref 3), (1, .int p2)], [.ref 3])) rfl ?_
    refine r_geti rfl (x_ltn rfl) rfl rfl ?_
    refine e_k 1 (f' := (if ¬ (I3 3 7) = 0 then 32 else 25, [(2, .int v2), (0, .ref 3), (1, .int p2)], [])) rfl ?_
    refine e_if (fun c14 => ?_) (fun c14 => ?_)
    · replace hb := i_pos c14 hb
      refine e_k 2 (f' := (35, [(2, .int v2), (0, .ref 3), (1, .int p2)], [.int 59, .ref 3])) rfl ?_
      obtain ⟨v15, I15, J15, h15, hb⟩ := oc_call hb
      refine r_cv (z := m_Translator_expect) (As := [.int 59]) (rest := []) rfl rfl rfl rfl rfl (x_ltn rfl) rfl rfl (E_Translator_expect  h15 ⟨_, rfl, ?_⟩)
      refine e_k 2 (f' := (40, [(2, .int v2), (0, .ref 3), (1, .int p2)], [.ref 3, .int v2])) rfl ?_
      refine r_getr rfl (x_ltn rfl) rfl rfl ?_
      refine r_alen rfl rfl (x_ltn rfl) rfl rfl ?_
      refine e_k 1 (f' := (if (nI 10) ≤ v2 then 64 else 47, [(2, .int v2), (0, .ref 3), (1, .int p2)], [])) rfl ?_
      obtain ⟨v17, I17, J17, h17, hb⟩ := oc_call hb
      have Kj17 : am_E (gG L xs) (d + 3) m_Translator_routine (64, [(0, .ref 3), (2, .int v2)], []) (hX X I17 J17) P := by
        refine e_k 5 (f' := (70, [(0, .ref 3), (2, .int v2)], [.int 0, .int v2, .int 0, .int 28, .ref 3])) rfl ?_
        obtain ⟨v23, I23, J23, h23, hb⟩ := oc_call hb
        refine r_cv (z := m_Translator_emit) (As := [.int 28, .int 0, .int v2, .int 0]) (rest := []) rfl rfl rfl rfl rfl (x_ltn rfl) rfl rfl (E_Translator_emit  h23 ⟨_, rfl, ?_⟩)
        obtain ⟨rfl, rfl, rfl⟩ := s_inj hb
        exact e_r rfl rfl K
      clear hb
      refine e_if (fun c18 => ?_) (fun c18 => ?_)
      · replace h17 := i_pos c18 h17
        refine e_sub (ls := [(0, .ref 3), (2, .int v2)]) rfl ⟨rfl, rfl, trivial⟩ ?_
        obtain ⟨rfl, rfl, rfl⟩ := s_inj h17
        exact Kj17
      · replace h17 := i_neg c18 h17
        refine e_k 1 (f' := (48, [(2, .int v2), (0, .ref 3), (1, .int p2)], [.ref 3])) rfl ?_
        refine r_getr rfl (x_ltn rfl) rfl rfl ?_
        refine e_k 1 (f' := (52, [(2, .int v2), (0, .ref 3), (1, .int p2)], [.int v2, .ref 9])) rfl ?_
        obtain ⟨o19, h17⟩ := ob_in h17
        refine r_iald rfl rfl (x_ltn rfl) rfl o19 ?_
        refine e_k 2 (f' := (if ¬ (I15 9 (Int32.toNatClampNeg v2)) = (-1) then 64 else 57, [(2, .int v2), (0, .ref 3), (1, .int p2)], [])) rfl ?_
        refine e_if (fun c20 => ?_) (fun c20 => ?_)
        · replace h17 := i_pos c20 h17
          refine e_sub (ls := [(0, .ref 3), (2, .int v2)]) rfl ⟨rfl, rfl, trivial⟩ ?_
          obtain ⟨rfl, rfl, rfl⟩ := s_inj h17
          exact Kj17
        · replace h17 := i_neg c20 h17
          refine e_k 1 (f' := (58, [(2, .int v2), (0, .ref 3), (1, .int p2)], [.ref 3])) rfl ?_
          refine r_getr rfl (x_ltn rfl) rfl rfl ?_
          refine e_k 2 (f' := (63, [(2, .int v2), (0, .ref 3), (1, .int p2)], [.int p2, .int v2, .ref 9])) rfl ?_
          obtain ⟨o21, h17⟩ := ob_in h17
          obtain ⟨I22, eI22, h17⟩ := p_nm h17
          refine r_iast' rfl (x_ltn rfl) rfl o21 eI22 ?_
          refine e_sub (ls := [(0, .ref 3), (2, .int v2)]) rfl ⟨rfl, rfl, trivial⟩ ?_
          obtain ⟨rfl, rfl, rfl⟩ := s_inj h17
          exact Kj17
    · replace hb := i_neg c14 hb
      refine e_k 3 (f' := (28, [(2, .int v2), (0, .ref 3), (1, .int p2)], [.int p2, .int v2, .ref 3])) rfl ?_
      obtain ⟨v24, I24, J24, h24, hb⟩ := oc_call hb
      refine r_cv (z := m_Translator_tell) (As := [.int v2, .int p2]) (rest := []) rfl rfl rfl rfl rfl (x_ltn rfl) rfl rfl (hR_6  h24 ⟨_, rfl, ?_⟩)
      obtain ⟨rfl, rfl, rfl⟩ := s_inj hb
      exact e_r rfl rfl K
def f_Translator_tell (R : M3) (p2 : Int32) (p3 : Int32) (I : MI) (J : MJ) : M2 Unit := oc (f_Translator_pass  I J) (fun v1 I1 J1 => pl (va_up I1 3 (upd (I1 3) 7 ((I1 3 7) + 1))) (fun I2 => pl (I2 6 1 : Int32) (fun x3 => oc (f_Translator_emit 18 0 0 0 I2 J1) (fun v4 I4 J4 => oc ((if (nI 10) ≤ p2 then (some ((), I4, J4)) else (if p2 < 0 ∨ 10 ≤ Int32.toNatClampNeg p2 then none else (oc ((if (I4 8 (Int32.toNatClampNeg p2)) = (-1) then (some ((), I4, J4)) else (oc (f_Translator_blame 5 p3 I4 J4) (fun v12 I12 J12 => some ((), I12, J12)))) : M2 (Unit)) (fun v10 I10 J10 => if p2 < 0 ∨ 10 ≤ Int32.toNatClampNeg p2 then none else (pl (va_up I10 8 (upd (I10 8) (Int32.toNatClampNeg p2) (I10 6 1))) (fun I14 => some ((), I14, J10))))))) : M2 (Unit)) (fun v6 I6 J6 => oc (R 0 0 0 I6 J6) (fun v15 I15 J15 => oc (f_Translator_expect 93 I15 J15) (fun v16 I16 J16 => pl (va_up I16 3 (upd (I16 3) 7 ((I16 3 7) - 1))) (fun I17 => oc (f_Translator_emit 29 0 0 0 I17 J16) (fun v18 I18 J18 => oc (f_Row_aim 6 7 2000 (x3 + 1) (I18 6 1) I18 J18) (fun v19 I19 J19 => some ((), I19, J19)))))))))))
theorem E_Translator_tell {R : M3} {p2 : Int32} {p3 : Int32} {X : MX} {I : MI} {J : MJ} {v : Unit} {I' : MI} {J' : MJ} (hR_0 : ∀ {I : MI} {J : MJ} {v : Int32} {I' : MI} {J' : MJ} {P : am_R → am_H → Prop}, R 0 0 0 I J = some (v, I', J') → P (.inl (none)) (hX X I' J') → am_E (gG L xs) (d + 2) m_Translator_statements (0, lv_args 0 [.ref 3], []) (hX X I J) P) (hR_1 : ∀ {I : MI} {J : MJ} {v : Int32} {I' : MI} {J' : MJ} {P : am_R → am_H → Prop}, R 1 0 0 I J = some (v, I', J') → P (.inl (some (.int v))) (hX X I' J') → am_E (gG L xs) (d + 2) m_Translator_statement (0, lv_args 0 [.ref 3], []) (hX X I J) P) (hR_2 : ∀ {a0 : Int32} {a1 : Int32} {I : MI} {J : MJ} {v : Int32} {I' : MI} {J' : MJ} {P : am_R → am_H → Prop}, R 2 a0 a1 I J = some (v, I', J') → P (.inl (none)) (hX X I' J') → am_E (gG L xs) (d + 2) m_Translator_variableStatement (0, lv_args 0 [.ref 3, .int a0, .int a1], []) (hX X I J) P) (hR_3 : ∀ {a0 : Int32} {a1 : Int32} {I : MI} {J : MJ} {v : Int32} {I' : MI} {J' : MJ} {P : am_R → am_H → Prop}, R 3 a0 a1 I J = some (v, I', J') → P (.inl (none)) (hX X I' J') → am_E (gG L xs) (d + 2) m_Translator_assign (0, lv_args 0 [.ref 3, .int a0, .int a1], []) (hX X I J) P) (hR_4 : ∀ {a0 : Int32} {a1 : Int32} {I : MI} {J : MJ} {v : Int32} {I' : MI} {J' : MJ} {P : am_R → am_H → Prop}, R 4 a0 a1 I J = some (v, I', J') → P (.inl (none)) (hX X I' J') → am_E (gG L xs) (d + 2) m_Translator_arrayStatement (0, lv_args 0 [.ref 3, .int a0, .int a1], []) (hX X I J) P) (hR_5 : ∀ {a0 : Int32} {I : MI} {J : MJ} {v : Int32} {I' : MI} {J' : MJ} {P : am_R → am_H → Prop}, R 5 a0 0 I J = some (v, I', J') → P (.inl (none)) (hX X I' J') → am_E (gG L xs) (d + 2) m_Translator_routine (0, lv_args 0 [.ref 3, .int a0], []) (hX X I J) P) (hR_6 : ∀ {a0 : Int32} {a1 : Int32} {I : MI} {J : MJ} {v : Int32} {I' : MI} {J' : MJ} {P : am_R → am_H → Prop}, R 6 a0 a1 I J = some (v, I', J') → P (.inl (none)) (hX X I' J') → am_E (gG L xs) (d + 2) m_Translator_tell (0, lv_args 0 [.ref 3, .int a0, .int a1], []) (hX X I J) P) (hR_7 : ∀ {I : MI} {J : MJ} {v : Int32} {I' : MI} {J' : MJ} {P : am_R → am_H → Prop}, R 7 0 0 I J = some (v, I', J') → P (.inl (none)) (hX X I' J') → am_E (gG L xs) (d + 2) m_Translator_choice (0, lv_args 0 [.ref 3], []) (hX X I J) P) (hR_8 : ∀ {I : MI} {J : MJ} {v : Int32} {I' : MI} {J' : MJ} {P : am_R → am_H → Prop}, R 8 0 0 I J = some (v, I', J') → P (.inl (none)) (hX X I' J') → am_E (gG L xs) (d + 2) m_Translator_loop (0, lv_args 0 [.ref 3], []) (hX X I J) P) (hR_9 : ∀ {I : MI} {J : MJ} {v : Int32} {I' : MI} {J' : MJ} {P : am_R → am_H → Prop}, R 9 0 0 I J = some (v, I', J') → P (.inl (some (.int v))) (hX X I' J') → am_E (gG L xs) (d + 2) m_Translator_expression (0, lv_args 0 [.ref 3], []) (hX X I J) P) (hR_10 : ∀ {I : MI} {J : MJ} {v : Int32} {I' : MI} {J' : MJ} {P : am_R → am_H → Prop}, R 10 0 0 I J = some (v, I', J') → P (.inl (some (.int v))) (hX X I' J') → am_E (gG L xs) (d + 2) m_Translator_product (0, lv_args 0 [.ref 3], []) (hX X I J) P) (hR_11 : ∀ {I : MI} {J : MJ} {v : Int32} {I' : MI} {J' : MJ} {P : am_R → am_H → Prop}, R 11 0 0 I J = some (v, I', J') → P (.inl (some (.int v))) (hX X I' J') → am_E (gG L xs) (d + 2) m_Translator_factor (0, lv_args 0 [.ref 3], []) (hX X I J) P) (hR_12 : ∀ {I : MI} {J : MJ} {v : Int32} {I' : MI} {J' : MJ} {P : am_R → am_H → Prop}, R 12 0 0 I J = some (v, I', J') → P (.inl (some (.int v))) (hX X I' J') → am_E (gG L xs) (d + 2) m_Translator_atom (0, lv_args 0 [.ref 3], []) (hX X I J) P) (hR_13 : ∀ {I : MI} {J : MJ} {v : Int32} {I' : MI} {J' : MJ} {P : am_R → am_H → Prop}, R 13 0 0 I J = some (v, I', J') → P (.inl (none)) (hX X I' J') → am_E (gG L xs) (d + 2) m_Translator_index (0, lv_args 0 [.ref 3], []) (hX X I J) P) (hb : f_Translator_tell R p2 p3 I J = some (v, I', J')) (K : P (.inl (none)) (hX X I' J')) : am_E (gG L xs) (d + 3) m_Translator_tell (0, lv_args 0 [.ref 3, .int p2, .int p3], []) (hX X I J) P := by
  unfold f_Translator_tell at hb
  refine e_k 1 (f' := (1, [(0, .ref 3), (1, .int p2), (2, .int p3)], [.ref 3])) rfl ?_
  obtain ⟨v1, I1, J1, h1, hb⟩ := oc_call hb
  refine r_cv (z := m_Translator_pass) (As := []) (rest := []) rfl rfl rfl rfl rfl (x_ltn rfl) rfl rfl (E_Translator_pass  h1 ⟨_, rfl, ?_⟩)
  refine e_k 2 (f' := (6, [(0, .ref 3), (1, .int p2), (2, .int p3)], [.ref 3, .ref 3])) rfl ?_
  refine r_geti rfl (x_ltn rfl) rfl rfl ?_
  refine e_k 2 (f' := (11, [(0, .ref 3), (1, .int p2), (2, .int p3)], [.int ((I1 3 7) + 1), .ref 3])) rfl ?_
  obtain ⟨I2, eI2, hb⟩ := p_nm hb
  refine r_puti' rfl (x_ltn rfl) rfl rfl eI2 ?_
  refine e_k 1 (f' := (15, [(0, .ref 3), (1, .int p2), (2, .int p3)], [.ref 3])) rfl ?_
  refine r_getr rfl (x_ltn rfl) rfl rfl ?_
  refine r_geti rfl (x_ltn rfl) rfl rfl ?_
  refine e_k 1 (f' := (22, [(3, .int (I2 6 1)), (0, .ref 3), (1, .int p2), (2, .int p3)], [])) rfl ?_
  obtain ⟨x3, ex3, hb⟩ := p_nm hb
  rw [← ex3]
  refine e_k 5 (f' := (28, [(3, .int x3), (0, .ref 3), (1, .int p2), (2, .int p3)], [.int 0, .int 0, .int 0, .int 18, .ref 3])) rfl ?_
  obtain ⟨v4, I4, J4, h4, hb⟩ := oc_call hb
  refine r_cv (z := m_Translator_emit) (As := [.int 18, .int 0, .int 0, .int 0]) (rest := []) rfl rfl rfl rfl rfl (x_ltn rfl) rfl rfl (E_Translator_emit  h4 ⟨_, rfl, ?_⟩)
  refine e_k 2 (f' := (33, [(3, .int x3), (0, .ref 3), (1, .int p2), (2, .int p3)], [.ref 3, .int p2])) rfl ?_
  refine r_getr rfl (x_ltn rfl) rfl rfl ?_
  refine r_alen rfl rfl (x_ltn rfl) rfl rfl ?_
  refine e_k 1 (f' := (if (nI 10) ≤ p2 then 69 else 40, [(3, .int x3), (0, .ref 3), (1, .int p2), (2, .int p3)], [])) rfl ?_
  obtain ⟨v6, I6, J6, h6, hb⟩ := oc_call hb
  have Kj6 : am_E (gG L xs) (d + 3) m_Translator_tell (69, [(0, .ref 3), (3, .int x3)], []) (hX X I6 J6) P := by
    refine e_k 1 (f' := (70, [(0, .ref 3), (3, .int x3)], [.ref 3])) rfl ?_
    obtain ⟨v15, I15, J15, h15, hb⟩ := oc_call hb
    refine r_cv (z := m_Translator_statements) (As := []) (rest := []) rfl rfl rfl rfl rfl (x_ltn rfl) rfl rfl (hR_0  h15 ⟨_, rfl, ?_⟩)
    refine e_k 2 (f' := (76, [(0, .ref 3), (3, .int x3)], [.int 93, .ref 3])) rfl ?_
    obtain ⟨v16, I16, J16, h16, hb⟩ := oc_call hb
    refine r_cv (z := m_Translator_expect) (As := [.int 93]) (rest := []) rfl rfl rfl rfl rfl (x_ltn rfl) rfl rfl (E_Translator_expect  h16 ⟨_, rfl, ?_⟩)
    refine e_k 2 (f' := (81, [(0, .ref 3), (3, .int x3)], [.ref 3, .ref 3])) rfl ?_
    refine r_geti rfl (x_ltn rfl) rfl rfl ?_
    refine e_k 2 (f' := (86, [(0, .ref 3), (3, .int x3)], [.int ((I16 3 7) - 1), .ref 3])) rfl ?_
    obtain ⟨I17, eI17, hb⟩ := p_nm hb
    refine r_puti' rfl (x_ltn rfl) rfl rfl eI17 ?_
    refine e_k 5 (f' := (95, [(0, .ref 3), (3, .int x3)], [.int 0, .int 0, .int 0, .int 29, .ref 3])) rfl ?_
    obtain ⟨v18, I18, J18, h18, hb⟩ := oc_call hb
    refine r_cv (z := m_Translator_emit) (As := [.int 29, .int 0, .int 0, .int 0]) (rest := []) rfl rfl rfl rfl rfl (x_ltn rfl) rfl rfl (E_Translator_emit  h18 ⟨_, rfl, ?_⟩)
    refine e_k 1 (f' := (99, [(0, .ref 3), (3, .int x3)], [.ref 3])) rfl ?_
    refine r_getr rfl (x_ltn rfl) rfl rfl ?_
    refine e_k 4 (f' := (106, [(0, .ref 3), (3, .int x3)], [.ref 3, .int (x3 + 1), .ref 6])) rfl ?_
    refine r_getr rfl (x_ltn rfl) rfl rfl ?_
    refine r_geti rfl (x_ltn rfl) rfl rfl ?_
    obtain ⟨v19, I19, J19, h19, hb⟩ := oc_call hb
    refine r_cv (z := m_Row_aim) (As := [.int (x3 + 1), .int (I18 6 1)]) (rest := []) rfl rfl rfl rfl rfl (x_ltn rfl) rfl rfl (E_Row_aim row_6 h19 ⟨_, rfl, ?_⟩)
    obtain ⟨rfl, rfl, rfl⟩ := s_inj hb
    exact e_r rfl rfl K
  clear hb
  refine e_if (fun c7 => ?_) (fun c7 => ?_)
  · replace h6 := i_pos c7 h6
    refine e_sub (ls := [(0, .ref 3), (3, .int x3)]) rfl ⟨rfl, rfl, trivial⟩ ?_
    obtain ⟨rfl, rfl, rfl⟩ := s_inj h6
    exact Kj6
  · replace h6 := i_neg c7 h6
    refine e_k 1 (f' := (41, [(3, .int x3), (0, .ref 3), (1, .int p2), (2, .int p3)], [.ref 3])) rfl ?_
    refine r_getr rfl (x_ltn rfl) rfl rfl ?_
    refine e_k 1 (f' := (45, [(3, .int x3), (0, .ref 3), (1, .int p2), (2, .int p3)], [.int p2, .ref 8])) rfl ?_
    obtain ⟨o8, h6⟩ := ob_in h6
    refine r_iald rfl rfl (x_ltn rfl) rfl o8 ?_
    refine e_k 2 (f' := (if (I4 8 (Int32.toNatClampNeg p2)) = (-1) then 56 else 50, [(3, .int x3), (0, .ref 3), (1, .int p2), (2, .int p3)], [])) rfl ?_
    obtain ⟨v10, I10, J10, h10, h6⟩ := oc_call h6
    have Kj10 : am_E (gG L xs) (d + 3) m_Translator_tell (56, [(0, .ref 3), (1, .int p2), (3, .int x3)], []) (hX X I10 J10) P := by
      refine e_k 1 (f' := (57, [(0, .ref 3), (1, .int p2), (3, .int x3)], [.ref 3])) rfl ?_
      refine r_getr rfl (x_ltn rfl) rfl rfl ?_
      refine e_k 2 (f' := (62, [(0, .ref 3), (1, .int p2), (3, .int x3)], [.ref 3, .int p2, .ref 8])) rfl ?_
      refine r_getr rfl (x_ltn rfl) rfl rfl ?_
      refine r_geti rfl (x_ltn rfl) rfl rfl ?_
      obtain ⟨o13, h6⟩ := ob_in h6
      obtain ⟨I14, eI14, h6⟩ := p_nm h6
      refine r_iast' rfl (x_ltn rfl) rfl o13 eI14 ?_
      refine e_sub (ls := [(0, .ref 3), (3, .int x3)]) rfl ⟨rfl, rfl, trivial⟩ ?_
      obtain ⟨rfl, rfl, rfl⟩ := s_inj h6
      exact Kj6
    clear h6
    refine e_if (fun c11 => ?_) (fun c11 => ?_)
    · replace h10 := i_pos c11 h10
      refine e_sub (ls := [(0, .ref 3), (1, .int p2), (3, .int x3)]) rfl ⟨rfl, rfl, rfl, trivial⟩ ?_
      obtain ⟨rfl, rfl, rfl⟩ := s_inj h10
      exact Kj10
    · replace h10 := i_neg c11 h10
      refine e_k 3 (f' := (53, [(3, .int x3), (0, .ref 3), (1, .int p2), (2, .int p3)], [.int p3, .int 5, .ref 3])) rfl ?_
      obtain ⟨v12, I12, J12, h12, h10⟩ := oc_call h10
      refine r_cv (z := m_Translator_blame) (As := [.int 5, .int p3]) (rest := []) rfl rfl rfl rfl rfl (x_ltn rfl) rfl rfl (E_Translator_blame  h12 ⟨_, rfl, ?_⟩)
      refine e_sub (ls := [(0, .ref 3), (1, .int p2), (3, .int x3)]) rfl ⟨rfl, rfl, rfl, trivial⟩ ?_
      obtain ⟨rfl, rfl, rfl⟩ := s_inj h10
      exact Kj10
def f_Translator_decider (I : MI) (J : MJ) : M2 Int32 := oc (f_Translator_look  I J) (fun v1 I1 J1 => pl (I1 3 5 : Int32) (fun x2 => oc (f_Translator_variable  I1 J1) (fun v3 I3 J3 => oc (f_Translator_wantClear v3 x2 I3 J3) (fun v4 I4 J4 => some (v3, I4, J4)))))
theorem E_Translator_decider {X : MX} {I : MI} {J : MJ} {v : Int32} {I' : MI} {J' : MJ} (hb : f_Translator_decider  I J = some (v, I', J')) (K : P (.inl (some (.int v))) (hX X I' J')) : am_E (gG L xs) (d + 3) m_Translator_decider (0, lv_args 0 [.ref 3], []) (hX X I J) P := by
  unfold f_Translator_decider at hb
  refine e_k 1 (f' := (1, [(0, .ref 3)], [.ref 3])) rfl ?_
  obtain ⟨v1, I1, J1, h1, hb⟩ := oc_call hb
  refine r_cv (z := m_Translator_look) (As := []) (rest := []) rfl rfl rfl rfl rfl (x_ltn rfl) rfl rfl (E_Translator_look  h1 ⟨_, rfl, ?_⟩)
  refine e_k 2 (f' := (6, [(0, .ref 3)], [.ref 3])) rfl ?_
  refine r_geti rfl (x_ltn rfl) rfl rfl ?_
  refine e_k 1 (f' := (10, [(1, .int (I1 3 5)), (0, .ref 3)], [])) rfl ?_
  obtain ⟨x2, ex2, hb⟩ := p_nm hb
  rw [← ex2]
  refine e_k 1 (f' := (11, [(1, .int x2), (0, .ref 3)], [.ref 3])) rfl ?_
  obtain ⟨v3, I3, J3, h3, hb⟩ := oc_call hb
  refine r_cv (z := m_Translator_variable) (As := []) (rest := []) rfl rfl rfl rfl rfl (x_ltn rfl) rfl rfl (E_Translator_variable  h3 ⟨_, rfl, ?_⟩)
  refine e_k 4 (f' := (18, [(2, .int v3), (1, .int x2), (0, .ref 3)], [.int x2, .int v3, .ref 3])) rfl ?_
  obtain ⟨v4, I4, J4, h4, hb⟩ := oc_call hb
  refine r_cv (z := m_Translator_wantClear) (As := [.int v3, .int x2]) (rest := []) rfl rfl rfl rfl rfl (x_ltn rfl) rfl rfl (E_Translator_wantClear  h4 ⟨_, rfl, ?_⟩)
  refine e_k 1 (f' := (22, [(2, .int v3), (1, .int x2), (0, .ref 3)], [.int v3])) rfl ?_
  obtain ⟨rfl, rfl, rfl⟩ := s_inj hb
  exact e_r rfl rfl K
def f_Translator_factor_40 (R : M3) : Nat → Int32 → Int32 → MI → MJ → M2 (Unit)
  | 0, _, _, _, _ => none
  | fu + 1, l1, l2, I, J => if 400 ≤ l2 then (some ((), I, J)) else (oc (f_Translator_look  I J) (fun v5 I5 J5 => if ¬ v5 = 94 then (some ((), I5, J5)) else (oc (f_Translator_pass  I5 J5) (fun v7 I7 J7 => pl ((if l1 = 0 then (9) else (10)) : Int32) (fun v9 => oc (f_Translator_emit v9 0 0 0 I7 J7) (fun v11 I11 J11 => f_Translator_factor_40 R  fu l1 (l2 + 1) I11 J11))))))
theorem E_Translator_factor_40 {R : M3} {X : MX} (hR_0 : ∀ {I : MI} {J : MJ} {v : Int32} {I' : MI} {J' : MJ} {P : am_R → am_H → Prop}, R 0 0 0 I J = some (v, I', J') → P (.inl (none)) (hX X I' J') → am_E (gG L xs) (d + 1) m_Translator_statements (0, lv_args 0 [.ref 3], []) (hX X I J) P) (hR_1 : ∀ {I : MI} {J : MJ} {v : Int32} {I' : MI} {J' : MJ} {P : am_R → am_H → Prop}, R 1 0 0 I J = some (v, I', J') → P (.inl (some (.int v))) (hX X I' J') → am_E (gG L xs) (d + 1) m_Translator_statement (0, lv_args 0 [.ref 3], []) (hX X I J) P) (hR_2 : ∀ {a0 : Int32} {a1 : Int32} {I : MI} {J : MJ} {v : Int32} {I' : MI} {J' : MJ} {P : am_R → am_H → Prop}, R 2 a0 a1 I J = some (v, I', J') → P (.inl (none)) (hX X I' J') → am_E (gG L xs) (d + 1) m_Translator_variableStatement (0, lv_args 0 [.ref 3, .int a0, .int a1], []) (hX X I J) P) (hR_3 : ∀ {a0 : Int32} {a1 : Int32} {I : MI} {J : MJ} {v : Int32} {I' : MI} {J' : MJ} {P : am_R → am_H → Prop}, R 3 a0 a1 I J = some (v, I', J') → P (.inl (none)) (hX X I' J') → am_E (gG L xs) (d + 1) m_Translator_assign (0, lv_args 0 [.ref 3, .int a0, .int a1], []) (hX X I J) P) (hR_4 : ∀ {a0 : Int32} {a1 : Int32} {I : MI} {J : MJ} {v : Int32} {I' : MI} {J' : MJ} {P : am_R → am_H → Prop}, R 4 a0 a1 I J = some (v, I', J') → P (.inl (none)) (hX X I' J') → am_E (gG L xs) (d + 1) m_Translator_arrayStatement (0, lv_args 0 [.ref 3, .int a0, .int a1], []) (hX X I J) P) (hR_5 : ∀ {a0 : Int32} {I : MI} {J : MJ} {v : Int32} {I' : MI} {J' : MJ} {P : am_R → am_H → Prop}, R 5 a0 0 I J = some (v, I', J') → P (.inl (none)) (hX X I' J') → am_E (gG L xs) (d + 1) m_Translator_routine (0, lv_args 0 [.ref 3, .int a0], []) (hX X I J) P) (hR_6 : ∀ {a0 : Int32} {a1 : Int32} {I : MI} {J : MJ} {v : Int32} {I' : MI} {J' : MJ} {P : am_R → am_H → Prop}, R 6 a0 a1 I J = some (v, I', J') → P (.inl (none)) (hX X I' J') → am_E (gG L xs) (d + 1) m_Translator_tell (0, lv_args 0 [.ref 3, .int a0, .int a1], []) (hX X I J) P) (hR_7 : ∀ {I : MI} {J : MJ} {v : Int32} {I' : MI} {J' : MJ} {P : am_R → am_H → Prop}, R 7 0 0 I J = some (v, I', J') → P (.inl (none)) (hX X I' J') → am_E (gG L xs) (d + 1) m_Translator_choice (0, lv_args 0 [.ref 3], []) (hX X I J) P) (hR_8 : ∀ {I : MI} {J : MJ} {v : Int32} {I' : MI} {J' : MJ} {P : am_R → am_H → Prop}, R 8 0 0 I J = some (v, I', J') → P (.inl (none)) (hX X I' J') → am_E (gG L xs) (d + 1) m_Translator_loop (0, lv_args 0 [.ref 3], []) (hX X I J) P) (hR_9 : ∀ {I : MI} {J : MJ} {v : Int32} {I' : MI} {J' : MJ} {P : am_R → am_H → Prop}, R 9 0 0 I J = some (v, I', J') → P (.inl (some (.int v))) (hX X I' J') → am_E (gG L xs) (d + 1) m_Translator_expression (0, lv_args 0 [.ref 3], []) (hX X I J) P) (hR_10 : ∀ {I : MI} {J : MJ} {v : Int32} {I' : MI} {J' : MJ} {P : am_R → am_H → Prop}, R 10 0 0 I J = some (v, I', J') → P (.inl (some (.int v))) (hX X I' J') → am_E (gG L xs) (d + 1) m_Translator_product (0, lv_args 0 [.ref 3], []) (hX X I J) P) (hR_11 : ∀ {I : MI} {J : MJ} {v : Int32} {I' : MI} {J' : MJ} {P : am_R → am_H → Prop}, R 11 0 0 I J = some (v, I', J') → P (.inl (some (.int v))) (hX X I' J') → am_E (gG L xs) (d + 1) m_Translator_factor (0, lv_args 0 [.ref 3], []) (hX X I J) P) (hR_12 : ∀ {I : MI} {J : MJ} {v : Int32} {I' : MI} {J' : MJ} {P : am_R → am_H → Prop}, R 12 0 0 I J = some (v, I', J') → P (.inl (some (.int v))) (hX X I' J') → am_E (gG L xs) (d + 1) m_Translator_atom (0, lv_args 0 [.ref 3], []) (hX X I J) P) (hR_13 : ∀ {I : MI} {J : MJ} {v : Int32} {I' : MI} {J' : MJ} {P : am_R → am_H → Prop}, R 13 0 0 I J = some (v, I', J') → P (.inl (none)) (hX X I' J') → am_E (gG L xs) (d + 1) m_Translator_index (0, lv_args 0 [.ref 3], []) (hX X I J) P) : ∀ (fu : Nat) {l1 : Int32} {l2 : Int32} {I : MI} {J : MJ} {r : (Unit)} {I' : MI} {J' : MJ}, f_Translator_factor_40 R  fu l1 l2 I J = some (r, I', J') → am_E (gG L xs) (d + 2) m_Translator_factor (84, [(1, .int l1)], []) (hX X I' J') P → am_E (gG L xs) (d + 2) m_Translator_factor (40, [(0, .ref 3), (1, .int l1), (2, .int l2)], []) (hX X I J) P := by
  intro fu
  induction fu with
  | zero =>
    intros
    rename_i hb _
    cases hb
  | succ fu ih =>
    intro l1 l2 I J r I' J' hb K
    unfold f_Translator_factor_40 at hb
    refine e_k 3 (f' := (if 400 ≤ l2 then 84 else 47, [(0, .ref 3), (1, .int l1), (2, .int l2)], [])) rfl ?_
    refine e_if (fun c4 => ?_) (fun c4 => ?_)
    · replace hb := i_pos c4 hb
      refine e_sub (ls := [(1, .int l1)]) rfl ⟨rfl, trivial⟩ ?_
      obtain ⟨rfl, rfl, rfl⟩ := s_inj hb
      exact K
    · replace hb := i_neg c4 hb
      refine e_k 1 (f' := (48, [(0, .ref 3), (1, .int l1), (2, .int l2)], [.ref 3])) rfl ?_
      obtain ⟨v5, I5, J5, h5, hb⟩ := oc_call hb
      refine r_cv (z := m_Translator_look) (As := []) (rest := []) rfl rfl rfl rfl rfl (x_ltn rfl) rfl rfl (E_Translator_look  h5 ⟨_, rfl, ?_⟩)
      refine e_k 2 (f' := (if ¬ v5 = 94 then 84 else 56, [(0, .ref 3), (1, .int l1), (2, .int l2)], [])) rfl ?_
      refine e_if (fun c6 => ?_) (fun c6 => ?_)
      · replace hb := i_pos c6 hb
        refine e_sub (ls := [(1, .int l1)]) rfl ⟨rfl, trivial⟩ ?_
        obtain ⟨rfl, rfl, rfl⟩ := s_inj hb
        exact K
      · replace hb := i_neg c6 hb
        refine e_k 1 (f' := (57, [(0, .ref 3), (1, .int l1), (2, .int l2)], [.ref 3])) rfl ?_
        obtain ⟨v7, I7, J7, h7, hb⟩ := oc_call hb
        refine r_cv (z := m_Translator_pass) (As := []) (rest := []) rfl rfl rfl rfl rfl (x_ltn rfl) rfl rfl (E_Translator_pass  h7 ⟨_, rfl, ?_⟩)
        refine e_k 3 (f' := (if l1 = 0 then 70 else 65, [(0, .ref 3), (1, .int l1), (2, .int l2)], [.ref 3])) rfl ?_
        obtain ⟨v9, h9, hb⟩ := p_nn hb
        have Kj9 : am_E (gG L xs) (d + 2) m_Translator_factor (72, [(0, .ref 3), (1, .int l1), (2, .int l2)], [.int v9, .ref 3]) (hX X I7 J7) P := by
          refine e_k 3 (f' := (75, [(0, .ref 3), (1, .int l1), (2, .int l2)], [.int 0, .int 0, .int 0, .int v9, .ref 3])) rfl ?_
          obtain ⟨v11, I11, J11, h11, hb⟩ := oc_call hb
          refine r_cv (z := m_Translator_emit) (As := [.int v9, .int 0, .int 0, .int 0]) (rest := []) rfl rfl rfl rfl rfl (x_ltn rfl) rfl rfl (E_Translator_emit  h11 ⟨_, rfl, ?_⟩)
          refine e_k 2 (f' := (40, [(2, .int (l2 + 1)), (0, .ref 3), (1, .int l1)], [])) rfl ?_
          refine e_sub (ls := [(0, .ref 3), (1, .int l1), (2, .int (l2 + 1))]) rfl ⟨rfl, rfl, rfl, trivial⟩ ?_
          exact ih  hb K
        clear hb
        refine e_if (fun c10 => ?_) (fun c10 => ?_)
        · replace h9 := i_pos c10 h9
          refine e_k 1 (f' := (72, [(0, .ref 3), (1, .int l1), (2, .int l2)], [.int 9, .ref 3])) rfl ?_
          refine e_sub (ls := [(0, .ref 3), (1, .int l1), (2, .int l2)]) rfl ⟨rfl, rfl, rfl, trivial⟩ ?_
          subst h9
          exact Kj9
        · replace h9 := i_neg c10 h9
          refine e_k 2 (f' := (72, [(0, .ref 3), (1, .int l1), (2, .int l2)], [.int 10, .ref 3])) rfl ?_
          refine e_sub (ls := [(0, .ref 3), (1, .int l1), (2, .int l2)]) rfl ⟨rfl, rfl, rfl, trivial⟩ ?_
          subst h9
          exact Kj9
def f_Translator_factor (R : M3) (I : MI) (J : MJ) : M2 Int32 := oc (f_Translator_look  I J) (fun v1 I1 J1 => if ¬ v1 = 45 then (oc (R 12 0 0 I1 J1) (fun v3 I3 J3 => oc (f_Translator_factor_40 R  gF v3 0 I3 J3) (fun u12 I12 J12 => if v3 = 0 ∨ v3 = 1 then some (v3, I12, J12) else none))) else (oc (f_Translator_enter  I1 J1) (fun v14 I14 J14 => oc (R 11 0 0 I14 J14) (fun v15 I15 J15 => oc (f_Translator_leave  I15 J15) (fun v16 I16 J16 => oc (f_Translator_emit 8 0 0 0 I16 J16) (fun v17 I17 J17 => if v15 = 0 ∨ v15 = 1 then some (v15, I17, J17) else none))))))
theorem E_Translator_factor {R : M3} {X : MX} {I : MI} {J : MJ} {v : Int32} {I' : MI} {J' : MJ} (hR_0 : ∀ {I : MI} {J : MJ} {v : Int32} {I' : MI} {J' : MJ} {P : am_R → am_H → Prop}, R 0 0 0 I J = some (v, I', J') → P (.inl (none)) (hX X I' J') → am_E (gG L xs) (d + 1) m_Translator_statements (0, lv_args 0 [.ref 3], []) (hX X I J) P) (hR_1 : ∀ {I : MI} {J : MJ} {v : Int32} {I' : MI} {J' : MJ} {P : am_R → am_H → Prop}, R 1 0 0 I J = some (v, I', J') → P (.inl (some (.int v))) (hX X I' J') → am_E (gG L xs) (d + 1) m_Translator_statement (0, lv_args 0 [.ref 3], []) (hX X I J) P) (hR_2 : ∀ {a0 : Int32} {a1 : Int32} {I : MI} {J : MJ} {v : Int32} {I' : MI} {J' : MJ} {P : am_R → am_H → Prop}, R 2 a0 a1 I J = some (v, I', J') → P (.inl (none)) (hX X I' J') → am_E (gG L xs) (d + 1) m_Translator_variableStatement (0, lv_args 0 [.ref 3, .int a0, .int a1], []) (hX X I J) P) (hR_3 : ∀ {a0 : Int32} {a1 : Int32} {I : MI} {J : MJ} {v : Int32} {I' : MI} {J' : MJ} {P : am_R → am_H → Prop}, R 3 a0 a1 I J = some (v, I', J') → P (.inl (none)) (hX X I' J') → am_E (gG L xs) (d + 1) m_Translator_assign (0, lv_args 0 [.ref 3, .int a0, .int a1], []) (hX X I J) P) (hR_4 : ∀ {a0 : Int32} {a1 : Int32} {I : MI} {J : MJ} {v : Int32} {I' : MI} {J' : MJ} {P : am_R → am_H → Prop}, R 4 a0 a1 I J = some (v, I', J') → P (.inl (none)) (hX X I' J') → am_E (gG L xs) (d + 1) m_Translator_arrayStatement (0, lv_args 0 [.ref 3, .int a0, .int a1], []) (hX X I J) P) (hR_5 : ∀ {a0 : Int32} {I : MI} {J : MJ} {v : Int32} {I' : MI} {J' : MJ} {P : am_R → am_H → Prop}, R 5 a0 0 I J = some (v, I', J') → P (.inl (none)) (hX X I' J') → am_E (gG L xs) (d + 1) m_Translator_routine (0, lv_args 0 [.ref 3, .int a0], []) (hX X I J) P) (hR_6 : ∀ {a0 : Int32} {a1 : Int32} {I : MI} {J : MJ} {v : Int32} {I' : MI} {J' : MJ} {P : am_R → am_H → Prop}, R 6 a0 a1 I J = some (v, I', J') → P (.inl (none)) (hX X I' J') → am_E (gG L xs) (d + 1) m_Translator_tell (0, lv_args 0 [.ref 3, .int a0, .int a1], []) (hX X I J) P) (hR_7 : ∀ {I : MI} {J : MJ} {v : Int32} {I' : MI} {J' : MJ} {P : am_R → am_H → Prop}, R 7 0 0 I J = some (v, I', J') → P (.inl (none)) (hX X I' J') → am_E (gG L xs) (d + 1) m_Translator_choice (0, lv_args 0 [.ref 3], []) (hX X I J) P) (hR_8 : ∀ {I : MI} {J : MJ} {v : Int32} {I' : MI} {J' : MJ} {P : am_R → am_H → Prop}, R 8 0 0 I J = some (v, I', J') → P (.inl (none)) (hX X I' J') → am_E (gG L xs) (d + 1) m_Translator_loop (0, lv_args 0 [.ref 3], []) (hX X I J) P) (hR_9 : ∀ {I : MI} {J : MJ} {v : Int32} {I' : MI} {J' : MJ} {P : am_R → am_H → Prop}, R 9 0 0 I J = some (v, I', J') → P (.inl (some (.int v))) (hX X I' J') → am_E (gG L xs) (d + 1) m_Translator_expression (0, lv_args 0 [.ref 3], []) (hX X I J) P) (hR_10 : ∀ {I : MI} {J : MJ} {v : Int32} {I' : MI} {J' : MJ} {P : am_R → am_H → Prop}, R 10 0 0 I J = some (v, I', J') → P (.inl (some (.int v))) (hX X I' J') → am_E (gG L xs) (d + 1) m_Translator_product (0, lv_args 0 [.ref 3], []) (hX X I J) P) (hR_11 : ∀ {I : MI} {J : MJ} {v : Int32} {I' : MI} {J' : MJ} {P : am_R → am_H → Prop}, R 11 0 0 I J = some (v, I', J') → P (.inl (some (.int v))) (hX X I' J') → am_E (gG L xs) (d + 1) m_Translator_factor (0, lv_args 0 [.ref 3], []) (hX X I J) P) (hR_12 : ∀ {I : MI} {J : MJ} {v : Int32} {I' : MI} {J' : MJ} {P : am_R → am_H → Prop}, R 12 0 0 I J = some (v, I', J') → P (.inl (some (.int v))) (hX X I' J') → am_E (gG L xs) (d + 1) m_Translator_atom (0, lv_args 0 [.ref 3], []) (hX X I J) P) (hR_13 : ∀ {I : MI} {J : MJ} {v : Int32} {I' : MI} {J' : MJ} {P : am_R → am_H → Prop}, R 13 0 0 I J = some (v, I', J') → P (.inl (none)) (hX X I' J') → am_E (gG L xs) (d + 1) m_Translator_index (0, lv_args 0 [.ref 3], []) (hX X I J) P) (hb : f_Translator_factor R  I J = some (v, I', J')) (K : P (.inl (some (.int v))) (hX X I' J')) : am_E (gG L xs) (d + 2) m_Translator_factor (0, lv_args 0 [.ref 3], []) (hX X I J) P := by
  unfold f_Translator_factor at hb
  refine e_k 1 (f' := (1, [(0, .ref 3)], [.ref 3])) rfl ?_
  obtain ⟨v1, I1, J1, h1, hb⟩ := oc_call hb
  refine r_cv (z := m_Translator_look) (As := []) (rest := []) rfl rfl rfl rfl rfl (x_ltn rfl) rfl rfl (E_Translator_look  h1 ⟨_, rfl, ?_⟩)
  refine e_k 2 (f' := (if ¬ v1 = 45 then 33 else 9, [(0, .ref 3)], [])) rfl ?_
  refine e_if (fun c2 => ?_) (fun c2 => ?_)
  · replace hb := i_pos c2 hb
    refine e_k 1 (f' := (34, [(0, .ref 3)], [.ref 3])) rfl ?_
    obtain ⟨v3, I3, J3, h3, hb⟩ := oc_call hb
    refine r_cv (z := m_Translator_atom) (As := []) (rest := []) rfl rfl rfl rfl rfl (x_ltn rfl) rfl rfl (hR_12  h3 ⟨_, rfl, ?_⟩)
    refine e_k 3 (f' := (40, [(2, .int 0), (1, .int v3), (0, .ref 3)], [])) rfl ?_
    refine e_sub (ls := [(0, .ref 3), (1, .int v3), (2, .int 0)]) rfl ⟨rfl, rfl, rfl, trivial⟩ ?_
    obtain ⟨u12, I12, J12, h12, hb⟩ := oc_call hb
    refine E_Translator_factor_40 hR_0 hR_1 hR_2 hR_3 hR_4 hR_5 hR_6 hR_7 hR_8 hR_9 hR_10 hR_11 hR_12 hR_13 gF  h12 ?_
    refine e_k 1 (f' := (85, [(1, .int v3)], [.int v3])) rfl ?_
    obtain ⟨o13, hb⟩ := ob_if hb
    obtain ⟨rfl, rfl, rfl⟩ := s_inj hb
    exact e_r rfl (if_pos o13) K
  · replace hb := i_neg c2 hb
    refine e_k 1 (f' := (10, [(0, .ref 3)], [.ref 3])) rfl ?_
    obtain ⟨v14, I14, J14, h14, hb⟩ := oc_call hb
    refine r_cv (z := m_Translator_enter) (As := []) (rest := []) rfl rfl rfl rfl rfl (x_ltn rfl) rfl rfl (E_Translator_enter  h14 ⟨_, rfl, ?_⟩)
    refine e_k 1 (f' := (14, [(0, .ref 3)], [.ref 3])) rfl ?_
    obtain ⟨v15, I15, J15, h15, hb⟩ := oc_call hb
    refine r_cv (z := m_Translator_factor) (As := []) (rest := []) rfl rfl rfl rfl rfl (x_ltn rfl) rfl rfl (hR_11  h15 ⟨_, rfl, ?_⟩)
    refine e_k 2 (f' := (19, [(1, .int v15), (0, .ref 3)], [.ref 3])) rfl ?_
    obtain ⟨v16, I16, J16, h16, hb⟩ := oc_call hb
    refine r_cv (z := m_Translator_leave) (As := []) (rest := []) rfl rfl rfl rfl rfl (x_ltn rfl) rfl rfl (E_Translator_leave  h16 ⟨_, rfl, ?_⟩)
    refine e_k 5 (f' := (28, [(1, .int v15), (0, .ref 3)], [.int 0, .int 0, .int 0, .int 8, .ref 3])) rfl ?_
    obtain ⟨v17, I17, J17, h17, hb⟩ := oc_call hb
    refine r_cv (z := m_Translator_emit) (As := [.int 8, .int 0, .int 0, .int 0]) (rest := []) rfl rfl rfl rfl rfl (x_ltn rfl) rfl rfl (E_Translator_emit  h17 ⟨_, rfl, ?_⟩)
    refine e_k 1 (f' := (32, [(1, .int v15), (0, .ref 3)], [.int v15])) rfl ?_
    obtain ⟨o18, hb⟩ := ob_if hb
    obtain ⟨rfl, rfl, rfl⟩ := s_inj hb
    exact e_r rfl (if_pos o18) K
def f_Translator_atom (R : M3) (I : MI) (J : MJ) : M2 Int32 := oc (f_Translator_look  I J) (fun v1 I1 J1 => oc (f_Translator_isVariable v1 I1 J1) (fun v2 I2 J2 => if v2 = 0 then (oc (f_Translator_isArray v1 I2 J2) (fun v4 I4 J4 => if v4 = 0 then (if ¬ v1 = 40 then (oc (f_Translator_isDigit v1 I4 J4) (fun v7 I7 J7 => if v7 = 0 then (oc (f_Translator_refuse  I7 J7) (fun v9 I9 J9 => some (0, I9, J9))) else (oc (f_Translator_literal  I7 J7) (fun v10 I10 J10 => some (0, I10, J10))))) else (oc (f_Translator_enter  I4 J4) (fun v11 I11 J11 => oc (R 9 0 0 I11 J11) (fun v12 I12 J12 => oc (f_Translator_expect 41 I12 J12) (fun v13 I13 J13 => oc (f_Translator_leave  I13 J13) (fun v14 I14 J14 => if v12 = 0 ∨ v12 = 1 then some (v12, I14, J14) else none)))))) else (oc (f_Translator_pass  I4 J4) (fun v16 I16 J16 => oc (R 13 0 0 I16 J16) (fun v17 I17 J17 => oc (f_Translator_emitPlace (v1 - 65) 19 20 I17 J17) (fun v18 I18 J18 => if (v1 - 65) < 4 then (some (0, I18, J18)) else (some (1, I18, J18)))))))) else (oc (f_Translator_pass  I2 J2) (fun v20 I20 J20 => pl (v1 - 97 : Int32) (fun x21 => pl ((if 13 ≤ x21 then (3) else (2)) : Int32) (fun v23 => pl ((if 13 ≤ x21 then (x21 - 13) else (x21)) : Int32) (fun v26 => oc (f_Translator_emit v23 v26 0 0 I20 J20) (fun v28 I28 J28 => if x21 < 13 then (some (0, I28, J28)) else (some (1, I28, J28))))))))))
theorem E_Translator_atom {R : M3} {X : MX} {I : MI} {J : MJ} {v : Int32} {I' : MI} {J' : MJ} (hR_0 : ∀ {I : MI} {J : MJ} {v : Int32} {I' : MI} {J' : MJ} {P : am_R → am_H → Prop}, R 0 0 0 I J = some (v, I', J') → P (.inl (none)) (hX X I' J') → am_E (gG L xs) (d + 2) m_Translator_statements (0, lv_args 0 [.ref 3], []) (hX X I J) P) (hR_1 : ∀ {I : MI} {J : MJ} {v : Int32} {I' : MI} {J' : MJ} {P : am_R → am_H → Prop}, R 1 0 0 I J = some (v, I', J') → P (.inl (some (.int v))) (hX X I' J') → am_E (gG L xs) (d + 2) m_Translator_statement (0, lv_args 0 [.ref 3], []) (hX X I J) P) (hR_2 : ∀ {a0 : Int32} {a1 : Int32} {I : MI} {J : MJ} {v : Int32} {I' : MI} {J' : MJ} {P : am_R → am_H → Prop}, R 2 a0 a1 I J = some (v, I', J') → P (.inl (none)) (hX X I' J') → am_E (gG L xs) (d + 2) m_Translator_variableStatement (0, lv_args 0 [.ref 3, .int a0, .int a1], []) (hX X I J) P) (hR_3 : ∀ {a0 : Int32} {a1 : Int32} {I : MI} {J : MJ} {v : Int32} {I' : MI} {J' : MJ} {P : am_R → am_H → Prop}, R 3 a0 a1 I J = some (v, I', J') → P (.inl (none)) (hX X I' J') → am_E (gG L xs) (d + 2) m_Translator_assign (0, lv_args 0 [.ref 3, .int a0, .int a1], []) (hX X I J) P) (hR_4 : ∀ {a0 : Int32} {a1 : Int32} {I : MI} {J : MJ} {v : Int32} {I' : MI} {J' : MJ} {P : am_R → am_H → Prop}, R 4 a0 a1 I J = some (v, I', J') → P (.inl (none)) (hX X I' J') → am_E (gG L xs) (d + 2) m_Translator_arrayStatement (0, lv_args 0 [.ref 3, .int a0, .int a1], []) (hX X I J) P) (hR_5 : ∀ {a0 : Int32} {I : MI} {J : MJ} {v : Int32} {I' : MI} {J' : MJ} {P : am_R → am_H → Prop}, R 5 a0 0 I J = some (v, I', J') → P (.inl (none)) (hX X I' J') → am_E (gG L xs) (d + 2) m_Translator_routine (0, lv_args 0 [.ref 3, .int a0], []) (hX X I J) P) (hR_6 : ∀ {a0 : Int32} {a1 : Int32} {I : MI} {J : MJ} {v : Int32} {I' : MI} {J' : MJ} {P : am_R → am_H → Prop}, R 6 a0 a1 I J = some (v, I', J') → P (.inl (none)) (hX X I' J') → am_E (gG L xs) (d + 2) m_Translator_tell (0, lv_args 0 [.ref 3, .int a0, .int a1], []) (hX X I J) P) (hR_7 : ∀ {I : MI} {J : MJ} {v : Int32} {I' : MI} {J' : MJ} {P : am_R → am_H → Prop}, R 7 0 0 I J = some (v, I', J') → P (.inl (none)) (hX X I' J') → am_E (gG L xs) (d + 2) m_Translator_choice (0, lv_args 0 [.ref 3], []) (hX X I J) P) (hR_8 : ∀ {I : MI} {J : MJ} {v : Int32} {I' : MI} {J' : MJ} {P : am_R → am_H → Prop}, R 8 0 0 I J = some (v, I', J') → P (.inl (none)) (hX X I' J') → am_E (gG L xs) (d + 2) m_Translator_loop (0, lv_args 0 [.ref 3], []) (hX X I J) P) (hR_9 : ∀ {I : MI} {J : MJ} {v : Int32} {I' : MI} {J' : MJ} {P : am_R → am_H → Prop}, R 9 0 0 I J = some (v, I', J') → P (.inl (some (.int v))) (hX X I' J') → am_E (gG L xs) (d + 2) m_Translator_expression (0, lv_args 0 [.ref 3], []) (hX X I J) P) (hR_10 : ∀ {I : MI} {J : MJ} {v : Int32} {I' : MI} {J' : MJ} {P : am_R → am_H → Prop}, R 10 0 0 I J = some (v, I', J') → P (.inl (some (.int v))) (hX X I' J') → am_E (gG L xs) (d + 2) m_Translator_product (0, lv_args 0 [.ref 3], []) (hX X I J) P) (hR_11 : ∀ {I : MI} {J : MJ} {v : Int32} {I' : MI} {J' : MJ} {P : am_R → am_H → Prop}, R 11 0 0 I J = some (v, I', J') → P (.inl (some (.int v))) (hX X I' J') → am_E (gG L xs) (d + 2) m_Translator_factor (0, lv_args 0 [.ref 3], []) (hX X I J) P) (hR_12 : ∀ {I : MI} {J : MJ} {v : Int32} {I' : MI} {J' : MJ} {P : am_R → am_H → Prop}, R 12 0 0 I J = some (v, I', J') → P (.inl (some (.int v))) (hX X I' J') → am_E (gG L xs) (d + 2) m_Translator_atom (0, lv_args 0 [.ref 3], []) (hX X I J) P) (hR_13 : ∀ {I : MI} {J : MJ} {v : Int32} {I' : MI} {J' : MJ} {P : am_R → am_H → Prop}, R 13 0 0 I J = some (v, I', J') → P (.inl (none)) (hX X I' J') → am_E (gG L xs) (d + 2) m_Translator_index (0, lv_args 0 [.ref 3], []) (hX X I J) P) (hb : f_Translator_atom R  I J = some (v, I', J')) (K : P (.inl (some (.int v))) (hX X I' J')) : am_E (gG L xs) (d + 3) m_Translator_atom (0, lv_args 0 [.ref 3], []) (hX X I J) P := by
  unfold f_Translator_atom at hb
  refine e_k 1 (f' := (1, [(0, .ref 3)], [.ref 3])) rfl ?_
  obtain ⟨v1, I1, J1, h1, hb⟩ := oc_call hb
  refine r_cv (z := m_Translator_look) (As := []) (rest := []) rfl rfl rfl rfl rfl (x_ltn rfl) rfl rfl (E_Translator_look  h1 ⟨_, rfl, ?_⟩)
  refine e_k 2 (f' := (6, [(1, .int v1), (0, .ref 3)], [.int v1])) rfl ?_
  obtain ⟨v2, I2, J2, h2, hb⟩ := oc_call hb
  refine r_cs (z := m_Translator_isVariable) (As := [.int v1]) (rest := []) rfl rfl rfl rfl rfl rfl (E_Translator_isVariable  h2 ⟨_, rfl, ?_⟩)
  refine e_k 1 (f' := (if v2 = 0 then 64 else 12, [(1, .int v1), (0, .ref 3)], [])) rfl ?_
  refine e_if (fun c3 => ?_) (fun c3 => ?_)
  · replace hb := i_pos c3 hb
    refine e_k 1 (f' := (65, [(1, .int v1), (0, .ref 3)], [.int v1])) rfl ?_
    obtain ⟨v4, I4, J4, h4, hb⟩ := oc_call hb
    refine r_cs (z := m_Translator_isArray) (As := [.int v1]) (rest := []) rfl rfl rfl rfl rfl rfl (E_Translator_isArray  h4 ⟨_, rfl, ?_⟩)
    refine e_k 1 (f' := (if v4 = 0 then 105 else 71, [(1, .int v1), (0, .ref 3)], [])) rfl ?_
    refine e_if (fun c5 => ?_) (fun c5 => ?_)
    · replace hb := i_pos c5 hb
      refine e_k 3 (f' := (if ¬ v1 = 40 then 132 else 111, [(1, .int v1), (0, .ref 3)], [])) rfl ?_
      refine e_if (fun c6 => ?_) (fun c6 => ?_)
      · replace hb := i_pos c6 hb
        refine e_k 1 (f' := (133, [(1, .int v1), (0, .ref 3)], [.int v1])) rfl ?_
        obtain ⟨v7, I7, J7, h7, hb⟩ := oc_call hb
        refine r_cs (z := m_Translator_isDigit) (As := [.int v1]) (rest := []) rfl rfl rfl rfl rfl rfl (E_Translator_isDigit  h7 ⟨_, rfl, ?_⟩)
        refine e_k 1 (f' := (if v7 = 0 then 146 else 139, [(1, .int v1), (0, .ref 3)], [])) rfl ?_
        refine e_if (fun c8 => ?_) (fun c8 => ?_)
        · replace hb := i_pos c8 hb
          refine e_k 1 (f' := (147, [(1, .int v1), (0, .ref 3)], [.ref 3])) rfl ?_
          obtain ⟨v9, I9, J9, h9, hb⟩ := oc_call hb
          refine r_cv (z := m_Translator_refuse) (As := []) (rest := []) rfl rfl rfl rfl rfl (x_ltn rfl) rfl rfl (E_Translator_refuse  h9 ⟨_, rfl, ?_⟩)
          refine e_k 1 (f' := (151, [(1, .int v1), (0, .ref 3)], [.int 0])) rfl ?_
          obtain ⟨rfl, rfl, rfl⟩ := s_inj hb
          exact e_r rfl rfl K
        · replace hb := i_neg c8 hb
          refine e_k 1 (f' := (140, [(1, .int v1), (0, .ref 3)], [.ref 3])) rfl ?_
          obtain ⟨v10, I10, J10, h10, hb⟩ := oc_call hb
          refine r_cv (z := m_Translator_literal) (As := []) (rest := []) rfl rfl rfl rfl rfl (x_ltn rfl) rfl rfl (E_Translator_literal  h10 ⟨_, rfl, ?_⟩)
          refine e_k 2 (f' := (151, [(1, .int v1), (0, .ref 3)], [.int 0])) rfl ?_
          obtain ⟨rfl, rfl, rfl⟩ := s_inj hb
          exact e_r rfl rfl K
      · replace hb := i_neg c6 hb
        refine e_k 1 (f' := (112, [(1, .int v1), (0, .ref 3)], [.ref 3])) rfl ?_
        obtain ⟨v11, I11, J11, h11, hb⟩ := oc_call hb
        refine r_cv (z := m_Translator_enter) (As := []) (rest := []) rfl rfl rfl rfl rfl (x_ltn rfl) rfl rfl (E_Translator_enter  h11 ⟨_, rfl, ?_⟩)
        refine e_k 1 (f' := (116, [(1, .int v1), (0, .ref 3)], [.ref 3])) rfl ?_
        obtain ⟨v12, I12, J12, h12, hb⟩ := oc_call hb
        refine r_cv (z := m_Translator_expression) (As := []) (rest := []) rfl rfl rfl rfl rfl (x_ltn rfl) rfl rfl (hR_9  h12 ⟨_, rfl, ?_⟩)
        refine e_k 3 (f' := (123, [(2, .int v12), (1, .int v1), (0, .ref 3)], [.int 41, .ref 3])) rfl ?_
        obtain ⟨v13, I13, J13, h13, hb⟩ := oc_call hb
        refine r_cv (z := m_Translator_expect) (As := [.int 41]) (rest := []) rfl rfl rfl rfl rfl (x_ltn rfl) rfl rfl (E_Translator_expect  h13 ⟨_, rfl, ?_⟩)
        refine e_k 1 (f' := (127, [(2, .int v12), (1, .int v1), (0, .ref 3)], [.ref 3])) rfl ?_
        obtain ⟨v14, I14, J14, h14, hb⟩ := oc_call hb
        refine r_cv (z := m_Translator_leave) (As := []) (rest := []) rfl rfl rfl rfl rfl (x_ltn rfl) rfl rfl (E_Translator_leave  h14 ⟨_, rfl, ?_⟩)
        refine e_k 1 (f' := (131, [(2, .int v12), (1, .int v1), (0, .ref 3)], [.int v12])) rfl ?_
        obtain ⟨o15, hb⟩ := ob_if hb
        obtain ⟨rfl, rfl, rfl⟩ := s_inj hb
        exact e_r rfl (if_pos o15) K
    · replace hb := i_neg c5 hb
      refine e_k 1 (f' := (72, [(1, .int v1), (0, .ref 3)], [.ref 3])) rfl ?_
      obtain ⟨v16, I16, J16, h16, hb⟩ := oc_call hb
      refine r_cv (z := m_Translator_pass) (As := []) (rest := []) rfl rfl rfl rfl rfl (x_ltn rfl) rfl rfl (E_Translator_pass  h16 ⟨_, rfl, ?_⟩)
      refine e_k 1 (f' := (76, [(1, .int v1), (0, .ref 3)], [.ref 3])) rfl ?_
      obtain ⟨v17, I17, J17, h17, hb⟩ := oc_call hb
      refine r_cv (z := m_Translator_index) (As := []) (rest := []) rfl rfl rfl rfl rfl (x_ltn rfl) rfl rfl (hR_13  h17 ⟨_, rfl, ?_⟩)
      refine e_k 6 (f' := (88, [(1, .int v1), (0, .ref 3)], [.int 20, .int 19, .int (v1 - 65), .ref 3])) rfl ?_
      obtain ⟨v18, I18, J18, h18, hb⟩ := oc_call hb
      refine r_cv (z := m_Translator_emitPlace) (As := [.int (v1 - 65), .int 19, .int 20]) (rest := []) rfl rfl rfl rfl rfl (x_ltn rfl) rfl rfl (E_Translator_emitPlace  h18 ⟨_, rfl, ?_⟩)
      refine e_k 5 (f' := (if (v1 - 65) < 4 then 103 else 99, [(1, .int v1), (0, .ref 3)], [])) rfl ?_
      refine e_if (fun c19 => ?_) (fun c19 => ?_)
      · replace hb := i_pos c19 hb
        refine e_k 1 (f' := (104, [(1, .int v1), (0, .ref 3)], [.int 0])) rfl ?_
        obtain ⟨rfl, rfl, rfl⟩ := s_inj hb
        exact e_r rfl rfl K
      · replace hb := i_neg c19 hb
        refine e_k 2 (f' := (104, [(1, .int v1), (0, .ref 3)], [.int 1])) rfl ?_
        obtain ⟨rfl, rfl, rfl⟩ := s_inj hb
        exact e_r rfl rfl K
  · replace hb := i_neg c3 hb
    refine e_k 1 (f' := (13, [(1, .int v1), (0, .ref 3)], [.ref 3])) rfl ?_
    obtain ⟨v20, I20, J20, h20, hb⟩ := oc_call hb
    refine r_cv (z := m_Translator_pass) (As := []) (rest := []) rfl rfl rfl rfl rfl (x_ltn rfl) rfl rfl (E_Translator_pass  h20 ⟨_, rfl, ?_⟩)
    refine e_k 4 (f' := (21, [(2, .int (v1 - 97)), (1, .int v1), (0, .ref 3)], [])) rfl ?_
    obtain ⟨x21, ex21, hb⟩ := p_nm hb
    rw [← ex21]
    refine e_k 4 (f' := (if 13 ≤ x21 then 32 else 28, [(2, .int x21), (1, .int v1), (0, .ref 3)], [.ref 3])) rfl ?_
    obtain ⟨v23, h23, hb⟩ := p_nn hb
    have Kj23 : am_E (gG L xs) (d + 3) m_Translator_atom (33, [(2, .int x21)], [.int v23, .ref 3]) (hX X I20 J20) P := by
      refine e_k 3 (f' := (if 13 ≤ x21 then 43 else 39, [(2, .int x21)], [.int v23, .ref 3])) rfl ?_
      obtain ⟨v26, h26, hb⟩ := p_nn hb
      have Kj26 : am_E (gG L xs) (d + 3) m_Translator_atom (47, [(2, .int x21)], [.int v26, .int v23, .ref 3]) (hX X I20 J20) P := by
        refine e_k 2 (f' := (49, [(2, .int x21)], [.int 0, .int 0, .int v26, .int v23, .ref 3])) rfl ?_
        obtain ⟨v28, I28, J28, h28, hb⟩ := oc_call hb
        refine r_cv (z := m_Translator_emit) (As := [.int v23, .int v26, .int 0, .int 0]) (rest := []) rfl rfl rfl rfl rfl (x_ltn rfl) rfl rfl (E_Translator_emit  h28 ⟨_, rfl, ?_⟩)
        refine e_k 3 (f' := (if x21 < 13 then 62 else 58, [(2, .int x21)], [])) rfl ?_
        refine e_if (fun c29 => ?_) (fun c29 => ?_)
        · replace hb := i_pos c29 hb
          refine e_k 1 (f' := (63, [(2, .int x21)], [.int 0])) rfl ?_
          obtain ⟨rfl, rfl, rfl⟩ := s_inj hb
          exact e_r rfl rfl K
        · replace hb := i_neg c29 hb
          refine e_k 2 (f' := (63, [(2, .int x21)], [.int 1])) rfl ?_
          obtain ⟨rfl, rfl, rfl⟩ := s_inj hb
          exact e_r rfl rfl K
      clear hb
      refine e_if (fun c27 => ?_) (fun c27 => ?_)
      · replace h26 := i_pos c27 h26
        refine e_k 3 (f' := (47, [(2, .int x21)], [.int (x21 - 13), .int v23, .ref 3])) rfl ?_
        refine e_sub (ls := [(2, .int x21)]) rfl ⟨rfl, trivial⟩ ?_
        subst h26
        exact Kj26
      · replace h26 := i_neg c27 h26
        refine e_k 2 (f' := (47, [(2, .int x21)], [.int x21, .int v23, .ref 3])) rfl ?_
        refine e_sub (ls := [(2, .int x21)]) rfl ⟨rfl, trivial⟩ ?_
        subst h26
        exact Kj26
    clear hb
    refine e_if (fun c24 => ?_) (fun c24 => ?_)
    · replace h23 := i_pos c24 h23
      refine e_k 1 (f' := (33, [(2, .int x21), (1, .int v1), (0, .ref 3)], [.int 3, .ref 3])) rfl ?_
      refine e_sub (ls := [(2, .int x21)]) rfl ⟨rfl, trivial⟩ ?_
      subst h23
      exact Kj23
    · replace h23 := i_neg c24 h23
      refine e_k 2 (f' := (33, [(2, .int x21), (1, .int v1), (0, .ref 3)], [.int 2, .ref 3])) rfl ?_
      refine e_sub (ls := [(2, .int x21)]) rfl ⟨rfl, trivial⟩ ?_
      subst h23
      exact Kj23
end AUTO
