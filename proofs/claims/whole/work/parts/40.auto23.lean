section AUTO
variable {L : Nat} {xs : Nat → Int32} {d : Nat} {P : am_R → am_H → Prop}
theorem E_Hall_work {w2 : Nat} {p3 : Int32} {X : MX} {I : MI} {J : MJ} {v : Unit} {I' : MI} {J' : MJ} (hw_w2 : w2 < 4) (hb : f_Hall_work w2 p3 I J = some (v, I', J')) (K : P (.inl (none)) (hX X I' J')) : am_E (gG L xs) (d + 3) m_Hall_work (0, lv_args 0 [.ref 14, .ref (18 + 21 * w2), .int p3], []) (hX X I J) P := by
  unfold f_Hall_work at hb
  refine e_k 1 (f' := (1, [(0, .ref 14), (1, .ref (18 + 21 * w2)), (2, .int p3)], [.ref (18 + 21 * w2)])) rfl ?_
  refine r_getr rfl (x_ltp hw_w2 (by decide)) (sS_p0 hw_w2) rfl ?_
  refine e_k 2 (f' := (6, [(3, .ref (19 + 21 * w2)), (0, .ref 14), (1, .ref (18 + 21 * w2)), (2, .int p3)], [.ref 14])) rfl ?_
  refine r_getr rfl (x_ltn rfl) rfl rfl ?_
  refine e_k 1 (f' := (10, [(3, .ref (19 + 21 * w2)), (0, .ref 14), (1, .ref (18 + 21 * w2)), (2, .int p3)], [.ref (18 + 21 * w2), .ref 15])) rfl ?_
  refine r_geti rfl (x_ltp hw_w2 (by decide)) (sS_p0 hw_w2) rfl ?_
  refine e_k 2 (f' := (15, [(3, .ref (19 + 21 * w2)), (0, .ref 14), (1, .ref (18 + 21 * w2)), (2, .int p3)], [.int ((I (18 + 21 * w2) 8) + 1), .ref 15])) rfl ?_
  obtain ⟨v1, I1, J1, h1, hb⟩ := oc_call hb
  refine r_cv (z := m_Row_at) (As := [.int ((I (18 + 21 * w2) 8) + 1)]) (rest := []) rfl rfl rfl rfl rfl (x_ltn rfl) rfl rfl (E_Row_at row_15 h1 ⟨_, rfl, ?_⟩)
  refine e_k 2 (f' := (21, [(4, .int v1), (3, .ref (19 + 21 * w2)), (0, .ref 14), (1, .ref (18 + 21 * w2)), (2, .int p3)], [.ref (18 + 21 * w2)])) rfl ?_
  refine r_geti rfl (x_ltp hw_w2 (by decide)) (sS_p0 hw_w2) rfl ?_
  refine e_k 1 (f' := (25, [(4, .int v1), (3, .ref (19 + 21 * w2)), (0, .ref 14), (1, .ref (18 + 21 * w2)), (2, .int p3)], [.int p3, .int (I1 (18 + 21 * w2) 8)])) rfl ?_
  obtain ⟨v2, I2, J2, h2, hb⟩ := oc_call hb
  refine r_cs (z := m_Sh_lengthOf) (As := [.int p3]) (rest := [.int (I1 (18 + 21 * w2) 8)]) rfl rfl rfl rfl rfl rfl (E_Sh_lengthOf  h2 ⟨_, rfl, ?_⟩)
  refine e_k 2 (f' := (31, [(5, .int ((I1 (18 + 21 * w2) 8) + v2)), (4, .int v1), (3, .ref (19 + 21 * w2)), (0, .ref 14), (1, .ref (18 + 21 * w2)), (2, .int p3)], [])) rfl ?_
  obtain ⟨x3, ex3, hb⟩ := p_nm hb
  rw [← ex3]
  refine e_k 2 (f' := (am_sw p3 282 [(4, 152), (5, 152), (6, 152), (7, 282), (8, 175), (9, 190), (10, 282), (11, 210), (12, 226), (13, 282), (14, 282), (15, 282), (16, 282), (17, 269), (18, 269), (19, 242), (20, 242), (21, 242), (22, 242), (23, 282), (24, 282), (25, 282), (26, 282), (27, 252), (28, 269), (29, 269)], [(5, .int x3), (4, .int v1), (3, .ref (19 + 21 * w2)), (0, .ref 14), (1, .ref (18 + 21 * w2)), (2, .int p3)], [])) rfl ?_
  obtain ⟨v9, I9, J9, h9, hb⟩ := oc_call hb
  have Kj9 : am_E (gG L xs) (d + 3) m_Hall_work (288, [(0, .ref 14), (1, .ref (18 + 21 * w2)), (5, .int v9)], []) (hX X I9 J9) P := by
    refine e_k 3 (f' := (292, [(0, .ref 14), (1, .ref (18 + 21 * w2)), (5, .int v9)], [.int v9, .ref (18 + 21 * w2), .ref 14])) rfl ?_
    obtain ⟨v37, I37, J37, h37, hb⟩ := oc_call hb
    refine r_cv (z := m_Hall_settle) (As := [.ref (18 + 21 * w2), .int v9]) (rest := []) rfl rfl rfl rfl rfl (x_ltn rfl) rfl rfl (E_Hall_settle hw_w2 h37 ⟨_, rfl, ?_⟩)
    obtain ⟨rfl, rfl, rfl⟩ := s_inj hb
    exact e_r rfl rfl K
  clear hb
  by_cases c10 : p3 = 4 ∨ p3 = 5 ∨ p3 = 6
  · rw [show am_sw p3 282 [(4, 152), (5, 152), (6, 152), (7, 282), (8, 175), (9, 190), (10, 282), (11, 210), (12, 226), (13, 282), (14, 282), (15, 282), (16, 282), (17, 269), (18, 269), (19, 242), (20, 242), (21, 242), (22, 242), (23, 282), (24, 282), (25, 282), (26, 282), (27, 252), (28, 269), (29, 269)] = 152 from by rcases c10 with c10 | c10 | c10 <;> rw [c10] <;> rfl]
    replace h9 := i_pos c10 h9
    refine e_k 1 (f' := (153, [(5, .int x3), (4, .int v1), (3, .ref (19 + 21 * w2)), (0, .ref 14), (1, .ref (18 + 21 * w2)), (2, .int p3)], [.ref (19 + 21 * w2)])) rfl ?_
    obtain ⟨v11, I11, J11, h11, h9⟩ := oc_call h9
    refine r_cv (z := m_Memory_pop) (As := []) (rest := []) rfl rfl rfl rfl rfl (x_ltp hw_w2 (by decide)) (sS_p1 hw_w2) rfl (E_Memory_pop hw_w2 h11 ⟨_, rfl, ?_⟩)
    refine e_k 4 (f' := (161, [(6, .long v11), (5, .int x3), (4, .int v1), (3, .ref (19 + 21 * w2)), (0, .ref 14), (1, .ref (18 + 21 * w2)), (2, .int p3)], [.ref (19 + 21 * w2), .int p3, .ref (19 + 21 * w2)])) rfl ?_
    obtain ⟨v12, I12, J12, h12, h9⟩ := oc_call h9
    refine r_cv (z := m_Memory_pop) (As := []) (rest := [.int p3, .ref (19 + 21 * w2)]) rfl rfl rfl rfl rfl (x_ltp hw_w2 (by decide)) (sS_p1 hw_w2) rfl (E_Memory_pop hw_w2 h12 ⟨_, rfl, ?_⟩)
    refine e_k 1 (f' := (166, [(6, .long v11), (5, .int x3), (4, .int v1), (3, .ref (19 + 21 * w2)), (0, .ref 14), (1, .ref (18 + 21 * w2)), (2, .int p3)], [.long v11, .long v12, .int p3, .ref (19 + 21 * w2)])) rfl ?_
    obtain ⟨v13, I13, J13, h13, h9⟩ := oc_call h9
    refine r_cs (z := m_Hall_joined) (As := [.int p3, .long v12, .long v11]) (rest := [.ref (19 + 21 * w2)]) rfl rfl rfl rfl rfl rfl (E_Hall_joined  h13 ⟨_, rfl, ?_⟩)
    obtain ⟨v14, I14, J14, h14, h9⟩ := oc_call h9
    refine r_cv (z := m_Memory_push) (As := [.long v13]) (rest := []) rfl rfl rfl rfl rfl (x_ltp hw_w2 (by decide)) (sS_p1 hw_w2) rfl (E_Memory_push hw_w2 h14 ⟨_, rfl, ?_⟩)
    refine e_k 1 (f' := (288, [(6, .long v11), (5, .int x3), (4, .int v1), (3, .ref (19 + 21 * w2)), (0, .ref 14), (1, .ref (18 + 21 * w2)), (2, .int p3)], [])) rfl ?_
    refine e_sub (ls := [(0, .ref 14), (1, .ref (18 + 21 * w2)), (5, .int x3)]) rfl ⟨rfl, rfl, rfl, trivial⟩ ?_
    obtain ⟨rfl, rfl, rfl⟩ := s_inj h9
    exact Kj9
  replace h9 := i_neg c10 h9
  by_cases c15 : p3 = 8
  · rw [show am_sw p3 282 [(4, 152), (5, 152), (6, 152), (7, 282), (8, 175), (9, 190), (10, 282), (11, 210), (12, 226), (13, 282), (14, 282), (15, 282), (16, 282), (17, 269), (18, 269), (19, 242), (20, 242), (21, 242), (22, 242), (23, 282), (24, 282), (25, 282), (26, 282), (27, 252), (28, 269), (29, 269)] = 175 from by rw [c15]; rfl]
    replace h9 := i_pos c15 h9
    refine e_k 3 (f' := (178, [(5, .int x3), (4, .int v1), (3, .ref (19 + 21 * w2)), (0, .ref 14), (1, .ref (18 + 21 * w2)), (2, .int p3)], [.ref (19 + 21 * w2), .long 0, .ref (19 + 21 * w2)])) rfl ?_
    obtain ⟨v16, I16, J16, h16, h9⟩ := oc_call h9
    refine r_cv (z := m_Memory_pop) (As := []) (rest := [.long 0, .ref (19 + 21 * w2)]) rfl rfl rfl rfl rfl (x_ltp hw_w2 (by decide)) (sS_p1 hw_w2) rfl (E_Memory_pop hw_w2 h16 ⟨_, rfl, ?_⟩)
    obtain ⟨v17, I17, J17, h17, h9⟩ := oc_call h9
    refine r_cs (z := m_Sh_minus) (As := [.long 0, .long v16]) (rest := [.ref (19 + 21 * w2)]) rfl rfl rfl rfl rfl rfl (E_Sh_minus  h17 ⟨_, rfl, ?_⟩)
    obtain ⟨v18, I18, J18, h18, h9⟩ := oc_call h9
    refine r_cv (z := m_Memory_push) (As := [.long v17]) (rest := []) rfl rfl rfl rfl rfl (x_ltp hw_w2 (by decide)) (sS_p1 hw_w2) rfl (E_Memory_push hw_w2 h18 ⟨_, rfl, ?_⟩)
    refine e_k 1 (f' := (288, [(5, .int x3), (4, .int v1), (3, .ref (19 + 21 * w2)), (0, .ref 14), (1, .ref (18 + 21 * w2)), (2, .int p3)], [])) rfl ?_
    refine e_sub (ls := [(0, .ref 14), (1, .ref (18 + 21 * w2)), (5, .int x3)]) rfl ⟨rfl, rfl, rfl, trivial⟩ ?_
    obtain ⟨rfl, rfl, rfl⟩ := s_inj h9
    exact Kj9
  replace h9 := i_neg c15 h9
  by_cases c19 : p3 = 9
  · rw [show am_sw p3 282 [(4, 152), (5, 152), (6, 152), (7, 282), (8, 175), (9, 190), (10, 282), (11, 210), (12, 226), (13, 282), (14, 282), (15, 282), (16, 282), (17, 269), (18, 269), (19, 242), (20, 242), (21, 242), (22, 242), (23, 282), (24, 282), (25, 282), (26, 282), (27, 252), (28, 269), (29, 269)] = 190 from by rw [c19]; rfl]
    replace h9 := i_pos c19 h9
    refine e_k 1 (f' := (191, [(5, .int x3), (4, .int v1), (3, .ref (19 + 21 * w2)), (0, .ref 14), (1, .ref (18 + 21 * w2)), (2, .int p3)], [.ref (19 + 21 * w2)])) rfl ?_
    obtain ⟨v20, I20, J20, h20, h9⟩ := oc_call h9
    refine r_cv (z := m_Memory_pop) (As := []) (rest := []) rfl rfl rfl rfl rfl (x_ltp hw_w2 (by decide)) (sS_p1 hw_w2) rfl (E_Memory_pop hw_w2 h20 ⟨_, rfl, ?_⟩)
    refine e_k 4 (f' := (201, [(8, .long v20), (5, .int x3), (4, .int v1), (3, .ref (19 + 21 * w2)), (0, .ref 14), (1, .ref (18 + 21 * w2)), (2, .int p3)], [.long v20, .long v20, .ref (19 + 21 * w2)])) rfl ?_
    obtain ⟨v21, I21, J21, h21, h9⟩ := oc_call h9
    refine r_cs (z := m_Sh_times) (As := [.long v20, .long v20]) (rest := [.ref (19 + 21 * w2)]) rfl rfl rfl rfl rfl rfl (E_Sh_times  h21 ⟨_, rfl, ?_⟩)
    obtain ⟨v22, I22, J22, h22, h9⟩ := oc_call h9
    refine r_cv (z := m_Memory_push) (As := [.long v21]) (rest := []) rfl rfl rfl rfl rfl (x_ltp hw_w2 (by decide)) (sS_p1 hw_w2) rfl (E_Memory_push hw_w2 h22 ⟨_, rfl, ?_⟩)
    refine e_k 1 (f' := (288, [(8, .long v20), (5, .int x3), (4, .int v1), (3, .ref (19 + 21 * w2)), (0, .ref 14), (1, .ref (18 + 21 * w2)), (2, .int p3)], [])) rfl ?_
    refine e_sub (ls := [(0, .ref 14), (1, .ref (18 + 21 * w2)), (5, .int x3)]) rfl ⟨rfl, rfl, rfl, trivial⟩ ?_
    obtain ⟨rfl, rfl, rfl⟩ := s_inj h9
    exact Kj9
  replace h9 := i_neg c19 h9
  by_cases c23 : p3 = 11
  · rw [show am_sw p3 282 [(4, 152), (5, 152), (6, 152), (7, 282), (8, 175), (9, 190), (10, 282), (11, 210), (12, 226), (13, 282), (14, 282), (15, 282), (16, 282), (17, 269), (18, 269), (19, 242), (20, 242), (21, 242), (22, 242), (23, 282), (24, 282), (25, 282), (26, 282), (27, 252), (28, 269), (29, 269)] = 210 from by rw [c23]; rfl]
    replace h9 := i_pos c23 h9
    refine e_k 1 (f' := (211, [(5, .int x3), (4, .int v1), (3, .ref (19 + 21 * w2)), (0, .ref 14), (1, .ref (18 + 21 * w2)), (2, .int p3)], [.ref (19 + 21 * w2)])) rfl ?_
    refine r_getr rfl (x_ltp hw_w2 (by decide)) (sS_p1 hw_w2) rfl ?_
    refine e_k 2 (f' := (217, [(5, .int x3), (4, .int v1), (3, .ref (19 + 21 * w2)), (0, .ref 14), (1, .ref (18 + 21 * w2)), (2, .int p3)], [.ref (19 + 21 * w2), .int v1, .ref (20 + 21 * w2)])) rfl ?_
    obtain ⟨v24, I24, J24, h24, h9⟩ := oc_call h9
    refine r_cv (z := m_Memory_pop) (As := []) (rest := [.int v1, .ref (20 + 21 * w2)]) rfl rfl rfl rfl rfl (x_ltp hw_w2 (by decide)) (sS_p1 hw_w2) rfl (E_Memory_pop hw_w2 h24 ⟨_, rfl, ?_⟩)
    obtain ⟨v25, I25, J25, h25, h9⟩ := oc_call h9
    refine r_cs (z := m_Sh_write) (As := [.ref (20 + 21 * w2), .int v1, .long v24]) (rest := []) rfl rfl rfl rfl rfl rfl (E_Sh_write ⟨(x_ltp hw_w2 (by decide)), (x_t0 hw_w2 (by decide)), (sS_p2 hw_w2)⟩ h25 ⟨_, rfl, ?_⟩)
    refine e_k 1 (f' := (288, [(5, .int x3), (4, .int v1), (3, .ref (19 + 21 * w2)), (0, .ref 14), (1, .ref (18 + 21 * w2)), (2, .int p3)], [])) rfl ?_
    refine e_sub (ls := [(0, .ref 14), (1, .ref (18 + 21 * w2)), (5, .int x3)]) rfl ⟨rfl, rfl, rfl, trivial⟩ ?_
    obtain ⟨rfl, rfl, rfl⟩ := s_inj h9
    exact Kj9
  replace h9 := i_neg c23 h9
  by_cases c26 : p3 = 12
  · rw [show am_sw p3 282 [(4, 152), (5, 152), (6, 152), (7, 282), (8, 175), (9, 190), (10, 282), (11, 210), (12, 226), (13, 282), (14, 282), (15, 282), (16, 282), (17, 269), (18, 269), (19, 242), (20, 242), (21, 242), (22, 242), (23, 282), (24, 282), (25, 282), (26, 282), (27, 252), (28, 269), (29, 269)] = 226 from by rw [c26]; rfl]
    replace h9 := i_pos c26 h9
    refine e_k 1 (f' := (227, [(5, .int x3), (4, .int v1), (3, .ref (19 + 21 * w2)), (0, .ref 14), (1, .ref (18 + 21 * w2)), (2, .int p3)], [.ref (19 + 21 * w2)])) rfl ?_
    refine r_getr rfl (x_ltp hw_w2 (by decide)) (sS_p1 hw_w2) rfl ?_
    refine e_k 2 (f' := (233, [(5, .int x3), (4, .int v1), (3, .ref (19 + 21 * w2)), (0, .ref 14), (1, .ref (18 + 21 * w2)), (2, .int p3)], [.ref (19 + 21 * w2), .int v1, .ref (21 + 21 * w2)])) rfl ?_
    obtain ⟨v27, I27, J27, h27, h9⟩ := oc_call h9
    refine r_cv (z := m_Memory_pop) (As := []) (rest := [.int v1, .ref (21 + 21 * w2)]) rfl rfl rfl rfl rfl (x_ltp hw_w2 (by decide)) (sS_p1 hw_w2) rfl (E_Memory_pop hw_w2 h27 ⟨_, rfl, ?_⟩)
    obtain ⟨v28, I28, J28, h28, h9⟩ := oc_call h9
    refine r_cs (z := m_Sh_write) (As := [.ref (21 + 21 * w2), .int v1, .long v27]) (rest := []) rfl rfl rfl rfl rfl rfl (E_Sh_write ⟨(x_ltp hw_w2 (by decide)), (x_t0 hw_w2 (by decide)), (sS_p3 hw_w2)⟩ h28 ⟨_, rfl, ?_⟩)
    refine e_k 1 (f' := (288, [(5, .int x3), (4, .int v1), (3, .ref (19 + 21 * w2)), (0, .ref 14), (1, .ref (18 + 21 * w2)), (2, .int p3)], [])) rfl ?_
    refine e_sub (ls := [(0, .ref 14), (1, .ref (18 + 21 * w2)), (5, .int x3)]) rfl ⟨rfl, rfl, rfl, trivial⟩ ?_
    obtain ⟨rfl, rfl, rfl⟩ := s_inj h9
    exact Kj9
  replace h9 := i_neg c26 h9
  by_cases c29 : p3 = 17 ∨ p3 = 18 ∨ p3 = 28 ∨ p3 = 29
  · rw [show am_sw p3 282 [(4, 152), (5, 152), (6, 152), (7, 282), (8, 175), (9, 190), (10, 282), (11, 210), (12, 226), (13, 282), (14, 282), (15, 282), (16, 282), (17, 269), (18, 269), (19, 242), (20, 242), (21, 242), (22, 242), (23, 282), (24, 282), (25, 282), (26, 282), (27, 252), (28, 269), (29, 269)] = 269 from by rcases c29 with c29 | c29 | c29 | c29 <;> rw [c29] <;> rfl]
    replace h9 := i_pos c29 h9
    refine e_k 4 (f' := (274, [(5, .int x3), (4, .int v1), (3, .ref (19 + 21 * w2)), (0, .ref 14), (1, .ref (18 + 21 * w2)), (2, .int p3)], [.int x3, .int p3, .ref (18 + 21 * w2), .ref 14])) rfl ?_
    obtain ⟨v30, I30, J30, h30, h9⟩ := oc_call h9
    refine r_cv (z := m_Hall_jump) (As := [.ref (18 + 21 * w2), .int p3, .int x3]) (rest := []) rfl rfl rfl rfl rfl (x_ltn rfl) rfl rfl (E_Hall_jump hw_w2 h30 ⟨_, rfl, ?_⟩)
    refine e_k 2 (f' := (288, [(5, .int v30), (4, .int v1), (3, .ref (19 + 21 * w2)), (0, .ref 14), (1, .ref (18 + 21 * w2)), (2, .int p3)], [])) rfl ?_
    refine e_sub (ls := [(0, .ref 14), (1, .ref (18 + 21 * w2)), (5, .int v30)]) rfl ⟨rfl, rfl, rfl, trivial⟩ ?_
    obtain ⟨rfl, rfl, rfl⟩ := s_inj h9
    exact Kj9
  replace h9 := i_neg c29 h9
  by_cases c31 : p3 = 19 ∨ p3 = 20 ∨ p3 = 21 ∨ p3 = 22
  · rw [show am_sw p3 282 [(4, 152), (5, 152), (6, 152), (7, 282), (8, 175), (9, 190), (10, 282), (11, 210), (12, 226), (13, 282), (14, 282), (15, 282), (16, 282), (17, 269), (18, 269), (19, 242), (20, 242), (21, 242), (22, 242), (23, 282), (24, 282), (25, 282), (26, 282), (27, 252), (28, 269), (29, 269)] = 242 from by rcases c31 with c31 | c31 | c31 | c31 <;> rw [c31] <;> rfl]
    replace h9 := i_pos c31 h9
    refine e_k 3 (f' := (246, [(5, .int x3), (4, .int v1), (3, .ref (19 + 21 * w2)), (0, .ref 14), (1, .ref (18 + 21 * w2)), (2, .int p3)], [.int v1, .int p3, .ref (19 + 21 * w2)])) rfl ?_
    obtain ⟨v32, I32, J32, h32, h9⟩ := oc_call h9
    refine r_cs (z := m_Hall_visitPlace) (As := [.ref (19 + 21 * w2), .int p3, .int v1]) (rest := []) rfl rfl rfl rfl rfl rfl (E_Hall_visitPlace hw_w2 h32 ⟨_, rfl, ?_⟩)
    refine e_k 1 (f' := (288, [(5, .int x3), (4, .int v1), (3, .ref (19 + 21 * w2)), (0, .ref 14), (1, .ref (18 + 21 * w2)), (2, .int p3)], [])) rfl ?_
    refine e_sub (ls := [(0, .ref 14), (1, .ref (18 + 21 * w2)), (5, .int x3)]) rfl ⟨rfl, rfl, rfl, trivial⟩ ?_
    obtain ⟨rfl, rfl, rfl⟩ := s_inj h9
    exact Kj9
  replace h9 := i_neg c31 h9
  by_cases c33 : p3 = 27
  · rw [show am_sw p3 282 [(4, 152), (5, 152), (6, 152), (7, 282), (8, 175), (9, 190), (10, 282), (11, 210), (12, 226), (13, 282), (14, 282), (15, 282), (16, 282), (17, 269), (18, 269), (19, 242), (20, 242), (21, 242), (22, 242), (23, 282), (24, 282), (25, 282), (26, 282), (27, 252), (28, 269), (29, 269)] = 252 from by rw [c33]; rfl]
    replace h9 := i_pos c33 h9
    refine e_k 1 (f' := (253, [(5, .int x3), (4, .int v1), (3, .ref (19 + 21 * w2)), (0, .ref 14), (1, .ref (18 + 21 * w2)), (2, .int p3)], [.ref (19 + 21 * w2)])) rfl ?_
    refine r_getr rfl (x_ltp hw_w2 (by decide)) (sS_p1 hw_w2) rfl ?_
    refine e_k 3 (f' := (260, [(5, .int x3), (4, .int v1), (3, .ref (19 + 21 * w2)), (0, .ref 14), (1, .ref (18 + 21 * w2)), (2, .int p3)], [.ref (18 + 21 * w2), .ref 14, .int v1, .ref (21 + 21 * w2)])) rfl ?_
    obtain ⟨v34, I34, J34, h34, h9⟩ := oc_call h9
    refine r_cv (z := m_Hall_nextBit) (As := [.ref (18 + 21 * w2)]) (rest := [.int v1, .ref (21 + 21 * w2)]) rfl rfl rfl rfl rfl (x_ltn rfl) rfl rfl (E_Hall_nextBit hw_w2 h34 ⟨_, rfl, ?_⟩)
    obtain ⟨v35, I35, J35, h35, h9⟩ := oc_call h9
    refine r_cs (z := m_Sh_write) (As := [.ref (21 + 21 * w2), .int v1, .long v34]) (rest := []) rfl rfl rfl rfl rfl rfl (E_Sh_write ⟨(x_ltp hw_w2 (by decide)), (x_t0 hw_w2 (by decide)), (sS_p3 hw_w2)⟩ h35 ⟨_, rfl, ?_⟩)
    refine e_k 1 (f' := (288, [(5, .int x3), (4, .int v1), (3, .ref (19 + 21 * w2)), (0, .ref 14), (1, .ref (18 + 21 * w2)), (2, .int p3)], [])) rfl ?_
    refine e_sub (ls := [(0, .ref 14), (1, .ref (18 + 21 * w2)), (5, .int x3)]) rfl ⟨rfl, rfl, rfl, trivial⟩ ?_
    obtain ⟨rfl, rfl, rfl⟩ := s_inj h9
    exact Kj9
  replace h9 := i_neg c33 h9
  rw [show am_sw p3 282 [(4, 152), (5, 152), (6, 152), (7, 282), (8, 175), (9, 190), (10, 282), (11, 210), (12, 226), (13, 282), (14, 282), (15, 282), (16, 282), (17, 269), (18, 269), (19, 242), (20, 242), (21, 242), (22, 242), (23, 282), (24, 282), (25, 282), (26, 282), (27, 252), (28, 269), (29, 269)] = 282 from (am_swd (fun e => c10 (Or.inl e)) (am_swd (fun e => c10 (Or.inr (Or.inl e))) (am_swd (fun e => c10 (Or.inr (Or.inr e))) (am_swe (am_swd c15 (am_swd c19 (am_swe (am_swd c23 (am_swd c26 (am_swe (am_swe (am_swe (am_swe (am_swd (fun e => c29 (Or.inl e)) (am_swd (fun e => c29 (Or.inr (Or.inl e))) (am_swd (fun e => c31 (Or.inl e)) (am_swd (fun e => c31 (Or.inr (Or.inl e))) (am_swd (fun e => c31 (Or.inr (Or.inr (Or.inl e)))) (am_swd (fun e => c31 (Or.inr (Or.inr (Or.inr e)))) (am_swe (am_swe (am_swe (am_swe (am_swd c33 (am_swd (fun e => c29 (Or.inr (Or.inr (Or.inl e)))) (am_swd (fun e => c29 (Or.inr (Or.inr (Or.inr e)))) rfl))))))))))))))))))))))))))]
  refine e_k 3 (f' := (285, [(5, .int x3), (4, .int v1), (3, .ref (19 + 21 * w2)), (0, .ref 14), (1, .ref (18 + 21 * w2)), (2, .int p3)], [.int p3, .ref (18 + 21 * w2), .ref 14])) rfl ?_
  obtain ⟨v36, I36, J36, h36, h9⟩ := oc_call h9
  refine r_cv (z := m_Hall_joinArrays) (As := [.ref (18 + 21 * w2), .int p3]) (rest := []) rfl rfl rfl rfl rfl (x_ltn rfl) rfl rfl (E_Hall_joinArrays hw_w2 h36 ⟨_, rfl, ?_⟩)
  refine e_sub (ls := [(0, .ref 14), (1, .ref (18 + 21 * w2)), (5, .int x3)]) rfl ⟨rfl, rfl, rfl, trivial⟩ ?_
  obtain ⟨rfl, rfl, rfl⟩ := s_inj h9
  exact Kj9
theorem E_Hall_show {w2 : Nat} {p3 : Int32} {X : MX} {I : MI} {J : MJ} {v : Int32} {X' : MX} {I' : MI} {J' : MJ} (hw_w2 : w2 < 4) (hb : f_Hall_show w2 p3 X I J = some (v, X', I', J')) (K : P (.inl (some (.int v))) (hX X' I' J')) : am_E (gG L xs) (d + 4) m_Hall_show (0, lv_args 0 [.ref 14, .ref (18 + 21 * w2), .int p3], []) (hX X I J) P := by
  unfold f_Hall_show at hb
  refine e_k 1 (f' := (1, [(0, .ref 14), (1, .ref (18 + 21 * w2)), (2, .int p3)], [.ref 14])) rfl ?_
  refine r_getr rfl (x_ltn rfl) rfl rfl ?_
  refine e_k 1 (f' := (5, [(0, .ref 14), (1, .ref (18 + 21 * w2)), (2, .int p3)], [.ref (18 + 21 * w2), .ref 15])) rfl ?_
  refine r_geti rfl (x_ltp hw_w2 (by decide)) (sS_p0 hw_w2) rfl ?_
  refine e_k 2 (f' := (10, [(0, .ref 14), (1, .ref (18 + 21 * w2)), (2, .int p3)], [.int ((I (18 + 21 * w2) 8) + 1), .ref 15])) rfl ?_
  obtain ⟨v1, I1, J1, h1, hb⟩ := oc_call hb
  refine r_cv (z := m_Row_at) (As := [.int ((I (18 + 21 * w2) 8) + 1)]) (rest := []) rfl rfl rfl rfl rfl (x_ltn rfl) rfl rfl (E_Row_at row_15 h1 ⟨_, rfl, ?_⟩)
  refine e_k 4 (f' := (if ¬ p3 = 15 then 38 else 20, [(3, .int v1), (0, .ref 14), (1, .ref (18 + 21 * w2)), (2, .int p3)], [])) rfl ?_
  refine e_if (fun c2 => ?_) (fun c2 => ?_)
  · replace hb := i_pos c2 hb
    refine e_k 1 (f' := (39, [(3, .int v1), (0, .ref 14), (1, .ref (18 + 21 * w2)), (2, .int p3)], [.ref (18 + 21 * w2)])) rfl ?_
    refine r_geti rfl (x_ltp hw_w2 (by decide)) (sS_p0 hw_w2) rfl ?_
    refine e_k 2 (f' := (if ¬ (I1 (18 + 21 * w2) 9) = 8 then 53 else 47, [(3, .int v1), (0, .ref 14), (1, .ref (18 + 21 * w2)), (2, .int p3)], [])) rfl ?_
    refine e_if (fun c3 => ?_) (fun c3 => ?_)
    · replace hb := i_pos c3 hb
      refine e_k 1 (f' := (54, [(3, .int v1), (0, .ref 14), (1, .ref (18 + 21 * w2)), (2, .int p3)], [.ref (18 + 21 * w2)])) rfl ?_
      refine r_geti rfl (x_ltp hw_w2 (by decide)) (sS_p0 hw_w2) rfl ?_
      refine e_k 2 (f' := (if ¬ (I1 (18 + 21 * w2) 9) = 9 then 69 else 62, [(3, .int v1), (0, .ref 14), (1, .ref (18 + 21 * w2)), (2, .int p3)], [])) rfl ?_
      refine e_if (fun c4 => ?_) (fun c4 => ?_)
      · replace hb := i_pos c4 hb
        refine e_k 2 (f' := (71, [(3, .int v1), (0, .ref 14), (1, .ref (18 + 21 * w2)), (2, .int p3)], [.ref (18 + 21 * w2), .ref (18 + 21 * w2)])) rfl ?_
        refine r_getl rfl (x_ltp hw_w2 (by decide)) (sS_p0 hw_w2) rfl ?_
        obtain ⟨v5, X5, I5, J5, h5, hb⟩ := ob_call hb
        refine r_cv (z := m_Party_putOut) (As := [.long (J1 (18 + 21 * w2) 7)]) (rest := []) rfl rfl rfl rfl rfl (x_ltp hw_w2 (by decide)) (sS_p0 hw_w2) rfl (E_Party_putOut hw_w2 h5 ⟨_, rfl, ?_⟩)
        refine e_k 3 (f' := (80, [(3, .int v1), (0, .ref 14), (1, .ref (18 + 21 * w2)), (2, .int p3)], [.ref (18 + 21 * w2), .ref (18 + 21 * w2), .ref 14])) rfl ?_
        refine r_geti rfl (x_ltp hw_w2 (by decide)) (sS_p0 hw_w2) rfl ?_
        refine e_k 1 (f' := (84, [(3, .int v1), (0, .ref 14), (1, .ref (18 + 21 * w2)), (2, .int p3)], [.int p3, .int (I5 (18 + 21 * w2) 8), .ref (18 + 21 * w2), .ref 14])) rfl ?_
        obtain ⟨v6, I6, J6, h6, hb⟩ := oc_call hb
        refine r_cs (z := m_Sh_lengthOf) (As := [.int p3]) (rest := [.int (I5 (18 + 21 * w2) 8), .ref (18 + 21 * w2), .ref 14]) rfl rfl rfl rfl rfl rfl (E_Sh_lengthOf  h6 ⟨_, rfl, ?_⟩)
        refine e_k 1 (f' := (88, [(3, .int v1), (0, .ref 14), (1, .ref (18 + 21 * w2)), (2, .int p3)], [.int ((I5 (18 + 21 * w2) 8) + v6), .ref (18 + 21 * w2), .ref 14])) rfl ?_
        obtain ⟨v7, I7, J7, h7, hb⟩ := oc_call hb
        refine r_cv (z := m_Hall_settle) (As := [.ref (18 + 21 * w2), .int ((I5 (18 + 21 * w2) 8) + v6)]) (rest := []) rfl rfl rfl rfl rfl (x_ltn rfl) rfl rfl (E_Hall_settle hw_w2 h7 ⟨_, rfl, ?_⟩)
        refine e_k 1 (f' := (92, [(3, .int v1), (0, .ref 14), (1, .ref (18 + 21 * w2)), (2, .int p3)], [.int 1])) rfl ?_
        obtain ⟨rfl, rfl, rfl, rfl⟩ := s_inx hb
        exact e_r rfl rfl K
      · replace hb := i_neg c4 hb
        refine e_k 3 (f' := (65, [(3, .int v1), (0, .ref 14), (1, .ref (18 + 21 * w2)), (2, .int p3)], [.int v1, .ref (18 + 21 * w2), .ref 14])) rfl ?_
        obtain ⟨v8, I8, J8, h8, hb⟩ := oc_call hb
        refine r_cv (z := m_Hall_receiveShown) (As := [.ref (18 + 21 * w2), .int v1]) (rest := []) rfl rfl rfl rfl rfl (x_ltn rfl) rfl rfl (E_Hall_receiveShown hw_w2 h8 ⟨_, rfl, ?_⟩)
        obtain ⟨rfl, rfl, rfl, rfl⟩ := s_inx hb
        exact e_r rfl rfl K
    · replace hb := i_neg c3 hb
      refine e_k 2 (f' := (49, [(3, .int v1), (0, .ref 14), (1, .ref (18 + 21 * w2)), (2, .int p3)], [.ref (18 + 21 * w2), .ref 14])) rfl ?_
      obtain ⟨v9, I9, J9, h9, hb⟩ := oc_call hb
      refine r_cv (z := m_Hall_sendShown) (As := [.ref (18 + 21 * w2)]) (rest := []) rfl rfl rfl rfl rfl (x_ltn rfl) rfl rfl (E_Hall_sendShown hw_w2 h9 ⟨_, rfl, ?_⟩)
      obtain ⟨rfl, rfl, rfl, rfl⟩ := s_inx hb
      exact e_r rfl rfl K
  · replace hb := i_neg c2 hb
    refine e_k 2 (f' := (22, [(3, .int v1), (0, .ref 14), (1, .ref (18 + 21 * w2)), (2, .int p3)], [.ref (18 + 21 * w2), .ref (18 + 21 * w2)])) rfl ?_
    refine r_getr rfl (x_ltp hw_w2 (by decide)) (sS_p0 hw_w2) rfl ?_
    refine r_getr rfl (x_ltp hw_w2 (by decide)) (sS_p1 hw_w2) rfl ?_
    refine e_k 1 (f' := (29, [(3, .int v1), (0, .ref 14), (1, .ref (18 + 21 * w2)), (2, .int p3)], [.int v1, .ref (20 + 21 * w2), .ref (18 + 21 * w2)])) rfl ?_
    obtain ⟨v10, I10, J10, h10, hb⟩ := oc_call hb
    refine r_cs (z := m_Sh_read) (As := [.ref (20 + 21 * w2), .int v1]) (rest := [.ref (18 + 21 * w2)]) rfl rfl rfl rfl rfl rfl (E_Sh_read ⟨(x_ltp hw_w2 (by decide)), (x_t0 hw_w2 (by decide)), (sS_p2 hw_w2)⟩ h10 ⟨_, rfl, ?_⟩)
    obtain ⟨v11, X11, I11, J11, h11, hb⟩ := ob_call hb
    refine r_cv (z := m_Party_putOut) (As := [.long v10]) (rest := []) rfl rfl rfl rfl rfl (x_ltp hw_w2 (by decide)) (sS_p0 hw_w2) rfl (E_Party_putOut hw_w2 h11 ⟨_, rfl, ?_⟩)
    refine e_k 4 (f' := (80, [(3, .int v1), (0, .ref 14), (1, .ref (18 + 21 * w2)), (2, .int p3)], [.ref (18 + 21 * w2), .ref (18 + 21 * w2), .ref 14])) rfl ?_
    refine r_geti rfl (x_ltp hw_w2 (by decide)) (sS_p0 hw_w2) rfl ?_
    refine e_k 1 (f' := (84, [(3, .int v1), (0, .ref 14), (1, .ref (18 + 21 * w2)), (2, .int p3)], [.int p3, .int (I11 (18 + 21 * w2) 8), .ref (18 + 21 * w2), .ref 14])) rfl ?_
    obtain ⟨v12, I12, J12, h12, hb⟩ := oc_call hb
    refine r_cs (z := m_Sh_lengthOf) (As := [.int p3]) (rest := [.int (I11 (18 + 21 * w2) 8), .ref (18 + 21 * w2), .ref 14]) rfl rfl rfl rfl rfl rfl (E_Sh_lengthOf  h12 ⟨_, rfl, ?_⟩)
    refine e_k 1 (f' := (88, [(3, .int v1), (0, .ref 14), (1, .ref (18 + 21 * w2)), (2, .int p3)], [.int ((I11 (18 + 21 * w2) 8) + v12), .ref (18 + 21 * w2), .ref 14])) rfl ?_
    obtain ⟨v13, I13, J13, h13, hb⟩ := oc_call hb
    refine r_cv (z := m_Hall_settle) (As := [.ref (18 + 21 * w2), .int ((I11 (18 + 21 * w2) 8) + v12)]) (rest := []) rfl rfl rfl rfl rfl (x_ltn rfl) rfl rfl (E_Hall_settle hw_w2 h13 ⟨_, rfl, ?_⟩)
    refine e_k 1 (f' := (92, [(3, .int v1), (0, .ref 14), (1, .ref (18 + 21 * w2)), (2, .int p3)], [.int 1])) rfl ?_
    obtain ⟨rfl, rfl, rfl, rfl⟩ := s_inx hb
    exact e_r rfl rfl K
theorem E_Hall_judge_57 {X : MX} {w2 : Nat} (hw_w2 : w2 < 4) : ∀ (fu : Nat) {l5 : Int32} {I : MI} {J : MJ} {r : (Unit)} {I' : MI} {J' : MJ}, f_Hall_judge_57 w2 fu l5 I J = some (r, I', J') → am_E (gG L xs) d m_Hall_judge (96, [], []) (hX X I' J') P → am_E (gG L xs) d m_Hall_judge (57, [(0, .ref 14), (1, .ref (18 + 21 * w2)), (5, .int l5)], []) (hX X I J) P := by
  intro fu
  induction fu with
  | zero =>
    intros
    rename_i hb _
    cases hb
  | succ fu ih =>
    intro l5 I J r I' J' hb K
    unfold f_Hall_judge_57 at hb
    refine e_k 2 (f' := (60, [(0, .ref 14), (1, .ref (18 + 21 * w2)), (5, .int l5)], [.ref 14, .int l5])) rfl ?_
    refine r_geti rfl (x_ltn rfl) rfl rfl ?_
    refine e_k 1 (f' := (if (I 14 6) ≤ l5 then 96 else 66, [(0, .ref 14), (1, .ref (18 + 21 * w2)), (5, .int l5)], [])) rfl ?_
    refine e_if (fun c10 => ?_) (fun c10 => ?_)
    · replace hb := i_pos c10 hb
      refine e_sub (ls := []) rfl ⟨⟩ ?_
      obtain ⟨rfl, rfl, rfl⟩ := s_inj hb
      exact K
    · replace hb := i_neg c10 hb
      refine e_k 1 (f' := (67, [(0, .ref 14), (1, .ref (18 + 21 * w2)), (5, .int l5)], [.ref (18 + 21 * w2)])) rfl ?_
      refine r_getr rfl (x_ltp hw_w2 (by decide)) (sS_p0 hw_w2) rfl ?_
      refine r_getr rfl (x_ltp hw_w2 (by decide)) (sS_p14 hw_w2) rfl ?_
      refine e_k 3 (f' := (78, [(0, .ref 14), (1, .ref (18 + 21 * w2)), (5, .int l5)], [.ref (18 + 21 * w2), .int l5, .int l5, .ref (34 + 21 * w2)])) rfl ?_
      refine r_geti rfl (x_ltp hw_w2 (by decide)) (sS_p0 hw_w2) rfl ?_
      refine e_k 1 (f' := (if l5 = (I (18 + 21 * w2) 0) then 88 else 84, [(0, .ref 14), (1, .ref (18 + 21 * w2)), (5, .int l5)], [.int l5, .ref (34 + 21 * w2)])) rfl ?_
      obtain ⟨v12, h12, hb⟩ := p_nn hb
      have Kj12 : am_E (gG L xs) d m_Hall_judge (89, [(0, .ref 14), (1, .ref (18 + 21 * w2)), (5, .int l5)], [.int v12, .int l5, .ref (34 + 21 * w2)]) (hX X I J) P := by
        obtain ⟨o14, hb⟩ := ob_in hb
        obtain ⟨I15, eI15, hb⟩ := p_nm hb
        refine r_zast' rfl (x_ltp hw_w2 (by decide)) (sS_p16 hw_w2) o14 eI15 ?_
        refine e_k 2 (f' := (57, [(5, .int (l5 + 1)), (0, .ref 14), (1, .ref (18 + 21 * w2))], [])) rfl ?_
        refine e_sub (ls := [(0, .ref 14), (1, .ref (18 + 21 * w2)), (5, .int (l5 + 1))]) rfl ⟨rfl, rfl, rfl, trivial⟩ ?_
        exact ih  hb K
      clear hb
      refine e_if (fun c13 => ?_) (fun c13 => ?_)
      · replace h12 := i_pos c13 h12
        refine e_k 1 (f' := (89, [(0, .ref 14), (1, .ref (18 + 21 * w2)), (5, .int l5)], [.int 0, .int l5, .ref (34 + 21 * w2)])) rfl ?_
        refine e_sub (ls := [(0, .ref 14), (1, .ref (18 + 21 * w2)), (5, .int l5)]) rfl ⟨rfl, rfl, rfl, trivial⟩ ?_
        subst h12
        exact Kj12
      · replace h12 := i_neg c13 h12
        refine e_k 2 (f' := (89, [(0, .ref 14), (1, .ref (18 + 21 * w2)), (5, .int l5)], [.int 1, .int l5, .ref (34 + 21 * w2)])) rfl ?_
        refine e_sub (ls := [(0, .ref 14), (1, .ref (18 + 21 * w2)), (5, .int l5)]) rfl ⟨rfl, rfl, rfl, trivial⟩ ?_
        subst h12
        exact Kj12
theorem E_Hall_judge {w2 : Nat} {X : MX} {I : MI} {J : MJ} {v : Int32} {I' : MI} {J' : MJ} (hw_w2 : w2 < 4) (hb : f_Hall_judge w2 I J = some (v, I', J')) (K : P (.inl (some (.int v))) (hX X I' J')) : am_E (gG L xs) (d + 3) m_Hall_judge (0, lv_args 0 [.ref 14, .ref (18 + 21 * w2)], []) (hX X I J) P := by
  unfold f_Hall_judge at hb
  refine e_k 1 (f' := (1, [(0, .ref 14), (1, .ref (18 + 21 * w2))], [.ref (18 + 21 * w2)])) rfl ?_
  refine r_getr rfl (x_ltp hw_w2 (by decide)) (sS_p0 hw_w2) rfl ?_
  refine e_k 2 (f' := (6, [(2, .ref (25 + 21 * w2)), (0, .ref 14), (1, .ref (18 + 21 * w2))], [.ref (25 + 21 * w2)])) rfl ?_
  refine r_geti rfl (x_ltp hw_w2 (by decide)) (sS_p7 hw_w2) rfl ?_
  refine e_k 1 (f' := (if (I (25 + 21 * w2) 3) ≤ 0 then 20 else 12, [(2, .ref (25 + 21 * w2)), (0, .ref 14), (1, .ref (18 + 21 * w2))], [])) rfl ?_
  obtain ⟨v2, I2, J2, h2, hb⟩ := oc_call hb
  have Kj2 : am_E (gG L xs) (d + 3) m_Hall_judge (21, [(0, .ref 14), (1, .ref (18 + 21 * w2)), (2, .ref (25 + 21 * w2))], [.long v2]) (hX X I2 J2) P := by
    refine e_k 3 (f' := (24, [(3, .long v2), (0, .ref 14), (1, .ref (18 + 21 * w2)), (2, .ref (25 + 21 * w2))], [.ref (25 + 21 * w2), .ref (25 + 21 * w2)])) rfl ?_
    refine r_geti rfl (x_ltp hw_w2 (by decide)) (sS_p7 hw_w2) rfl ?_
    refine e_k 2 (f' := (29, [(3, .long v2), (0, .ref 14), (1, .ref (18 + 21 * w2)), (2, .ref (25 + 21 * w2))], [.int ((I2 (25 + 21 * w2) 5) + 1), .ref (25 + 21 * w2)])) rfl ?_
    obtain ⟨I5, eI5, hb⟩ := p_nm hb
    refine r_puti' rfl (x_ltp hw_w2 (by decide)) (sS_p7 hw_w2) rfl eI5 ?_
    refine e_k 1 (f' := (33, [(3, .long v2), (0, .ref 14), (1, .ref (18 + 21 * w2)), (2, .ref (25 + 21 * w2))], [.ref (25 + 21 * w2)])) rfl ?_
    obtain ⟨v6, I6, J6, h6, hb⟩ := oc_call hb
    refine r_cv (z := m_Check_forget) (As := []) (rest := []) rfl rfl rfl rfl rfl (x_ltp hw_w2 (by decide)) (sS_p7 hw_w2) rfl (E_Check_forget hw_w2 h6 ⟨_, rfl, ?_⟩)
    refine e_k 4 (f' := (if ¬ (lg_cmp v2 0) = 0 then 44 else 42, [(3, .long v2), (0, .ref 14), (1, .ref (18 + 21 * w2)), (2, .ref (25 + 21 * w2))], [])) rfl ?_
    refine e_if (fun c7 => ?_) (fun c7 => ?_)
    · replace hb := i_pos c7 hb
      refine e_k 2 (f' := (46, [(3, .long v2), (0, .ref 14), (1, .ref (18 + 21 * w2)), (2, .ref (25 + 21 * w2))], [.int 3, .ref (18 + 21 * w2)])) rfl ?_
      obtain ⟨I8, eI8, hb⟩ := p_nm hb
      refine r_puti' rfl (x_ltp hw_w2 (by decide)) (sS_p0 hw_w2) rfl eI8 ?_
      refine e_k 2 (f' := (51, [(3, .long v2), (0, .ref 14), (1, .ref (18 + 21 * w2)), (2, .ref (25 + 21 * w2))], [.int 1, .ref (18 + 21 * w2)])) rfl ?_
      obtain ⟨I9, eI9, hb⟩ := p_nm hb
      refine r_puti' rfl (x_ltp hw_w2 (by decide)) (sS_p0 hw_w2) rfl eI9 ?_
      refine e_k 2 (f' := (57, [(5, .int 0), (3, .long v2), (0, .ref 14), (1, .ref (18 + 21 * w2)), (2, .ref (25 + 21 * w2))], [])) rfl ?_
      refine e_sub (ls := [(0, .ref 14), (1, .ref (18 + 21 * w2)), (5, .int 0)]) rfl ⟨rfl, rfl, rfl, trivial⟩ ?_
      obtain ⟨u16, I16, J16, h16, hb⟩ := oc_call hb
      refine E_Hall_judge_57 hw_w2 gF  h16 ?_
      refine e_k 1 (f' := (97, [], [.int 3])) rfl ?_
      obtain ⟨rfl, rfl, rfl⟩ := s_inj hb
      exact e_r rfl rfl K
    · replace hb := i_neg c7 hb
      refine e_k 1 (f' := (43, [(3, .long v2), (0, .ref 14), (1, .ref (18 + 21 * w2)), (2, .ref (25 + 21 * w2))], [.int 1])) rfl ?_
      obtain ⟨rfl, rfl, rfl⟩ := s_inj hb
      exact e_r rfl rfl K
  clear hb
  refine e_if (fun c3 => ?_) (fun c3 => ?_)
  · replace h2 := i_pos c3 h2
    refine e_k 1 (f' := (21, [(2, .ref (25 + 21 * w2)), (0, .ref 14), (1, .ref (18 + 21 * w2))], [.long 0])) rfl ?_
    refine e_sub (ls := [(0, .ref 14), (1, .ref (18 + 21 * w2)), (2, .ref (25 + 21 * w2))]) rfl ⟨rfl, rfl, rfl, trivial⟩ ?_
    obtain ⟨rfl, rfl, rfl⟩ := s_inj h2
    exact Kj2
  · replace h2 := i_neg c3 h2
    refine e_k 2 (f' := (14, [(2, .ref (25 + 21 * w2)), (0, .ref 14), (1, .ref (18 + 21 * w2))], [.ref (25 + 21 * w2), .ref 14])) rfl ?_
    obtain ⟨v4, I4, J4, h4, h2⟩ := oc_call h2
    refine r_cv (z := m_Hall_weightedErrors) (As := [.ref (25 + 21 * w2)]) (rest := []) rfl rfl rfl rfl rfl (x_ltn rfl) rfl rfl (E_Hall_weightedErrors hw_w2 h4 ⟨_, rfl, ?_⟩)
    refine e_k 1 (f' := (21, [(2, .ref (25 + 21 * w2)), (0, .ref 14), (1, .ref (18 + 21 * w2))], [.long v4])) rfl ?_
    refine e_sub (ls := [(0, .ref 14), (1, .ref (18 + 21 * w2)), (2, .ref (25 + 21 * w2))]) rfl ⟨rfl, rfl, rfl, trivial⟩ ?_
    obtain ⟨rfl, rfl, rfl⟩ := s_inj h2
    exact Kj2
theorem E_Translator_assign {R : M3} {p2 : Int32} {p3 : Int32} {X : MX} {I : MI} {J : MJ} {v : Unit} {I' : MI} {J' : MJ} (hR_0 : ∀ {I : MI} {J : MJ} {v : Int32} {I' : MI} {J' : MJ} {P : am_R → am_H → Prop}, R 0 0 0 I J = some (v, I', J') → P (.inl (none)) (hX X I' J') → am_E (gG L xs) (d + 2) m_Translator_statements (0, lv_args 0 [.ref 3], []) (hX X I J) P) (hR_1 : ∀ {I : MI} {J : MJ} {v : Int32} {I' : MI} {J' : MJ} {P : am_R → am_H → Prop}, R 1 0 0 I J = some (v, I', J') → P (.inl (some (.int v))) (hX X I' J') → am_E (gG L xs) (d + 2) m_Translator_statement (0, lv_args 0 [.ref 3], []) (hX X I J) P) (hR_2 : ∀ {a0 : Int32} {a1 : Int32} {I : MI} {J : MJ} {v : Int32} {I' : MI} {J' : MJ} {P : am_R → am_H → Prop}, R 2 a0 a1 I J = some (v, I', J') → P (.inl (none)) (hX X I' J') → am_E (gG L xs) (d + 2) m_Translator_variableStatement (0, lv_args 0 [.ref 3, .int a0, .int a1], []) (hX X I J) P) (hR_3 : ∀ {a0 : Int32} {a1 : Int32} {I : MI} {J : MJ} {v : Int32} {I' : MI} {J' : MJ} {P : am_R → am_H → Prop}, R 3 a0 a1 I J = some (v, I', J') → P (.inl (none)) (hX X I' J') → am_E (gG L xs) (d + 2) m_Translator_assign (0, lv_args 0 [.ref 3, .int a0, .int a1], []) (hX X I J) P) (hR_4 : ∀ {a0 : Int32} {a1 : Int32} {I : MI} {J : MJ} {v : Int32} {I' : MI} {J' : MJ} {P : am_R → am_H → Prop}, R 4 a0 a1 I J = some (v, I', J') → P (.inl (none)) (hX X I' J') → am_E (gG L xs) (d + 2) m_Translator_arrayStatement (0, lv_args 0 [.ref 3, .int a0, .int a1], []) (hX X I J) P) (hR_5 : ∀ {a0 : Int32} {I : MI} {J : MJ} {v : Int32} {I' : MI} {J' : MJ} {P : am_R → am_H → Prop}, R 5 a0 0 I J = some (v, I', J') → P (.inl (none)) (hX X I' J') → am_E (gG L xs) (d + 2) m_Translator_routine (0, lv_args 0 [.ref 3, .int a0], []) (hX X I J) P) (hR_6 : ∀ {a0 : Int32} {a1 : Int32} {I : MI} {J : MJ} {v : Int32} {I' : MI} {J' : MJ} {P : am_R → am_H → Prop}, R 6 a0 a1 I J = some (v, I', J') → P (.inl (none)) (hX X I' J') → am_E (gG L xs) (d + 2) m_Translator_tell (0, lv_args 0 [.ref 3, .int a0, .int a1], []) (hX X I J) P) (hR_7 : ∀ {I : MI} {J : MJ} {v : Int32} {I' : MI} {J' : MJ} {P : am_R → am_H → Prop}, R 7 0 0 I J = some (v, I', J') → P (.inl (none)) (hX X I' J') → am_E (gG L xs) (d + 2) m_Translator_choice (0, lv_args 0 [.ref 3], []) (hX X I J) P) (hR_8 : ∀ {I : MI} {J : MJ} {v : Int32} {I' : MI} {J' : MJ} {P : am_R → am_H → Prop}, R 8 0 0 I J = some (v, I', J') → P (.inl (none)) (hX X I' J') → am_E (gG L xs) (d + 2) m_Translator_loop (0, lv_args 0 [.ref 3], []) (hX X I J) P) (hR_9 : ∀ {I : MI} {J : MJ} {v : Int32} {I' : MI} {J' : MJ} {P : am_R → am_H → Prop}, R 9 0 0 I J = some (v, I', J') → P (.inl (some (.int v))) (hX X I' J') → am_E (gG L xs) (d + 2) m_Translator_expression (0, lv_args 0 [.ref 3], []) (hX X I J) P) (hR_10 : ∀ {I : MI} {J : MJ} {v : Int32} {I' : MI} {J' : MJ} {P : am_R → am_H → Prop}, R 10 0 0 I J = some (v, I', J') → P (.inl (some (.int v))) (hX X I' J') → am_E (gG L xs) (d + 2) m_Translator_product (0, lv_args 0 [.ref 3], []) (hX X I J) P) (hR_11 : ∀ {I : MI} {J : MJ} {v : Int32} {I' : MI} {J' : MJ} {P : am_R → am_H → Prop}, R 11 0 0 I J = some (v, I', J') → P (.inl (some (.int v))) (hX X I' J') → am_E (gG L xs) (d + 2) m_Translator_factor (0, lv_args 0 [.ref 3], []) (hX X I J) P) (hR_12 : ∀ {I : MI} {J : MJ} {v : Int32} {I' : MI} {J' : MJ} {P : am_R → am_H → Prop}, R 12 0 0 I J = some (v, I', J') → P (.inl (some (.int v))) (hX X I' J') → am_E (gG L xs) (d + 2) m_Translator_atom (0, lv_args 0 [.ref 3], []) (hX X I J) P) (hR_13 : ∀ {I : MI} {J : MJ} {v : Int32} {I' : MI} {J' : MJ} {P : am_R → am_H → Prop}, R 13 0 0 I J = some (v, I', J') → P (.inl (none)) (hX X I' J') → am_E (gG L xs) (d + 2) m_Translator_index (0, lv_args 0 [.ref 3], []) (hX X I J) P) (hb : f_Translator_assign R p2 p3 I J = some (v, I', J')) (K : P (.inl (none)) (hX X I' J')) : am_E (gG L xs) (d + 3) m_Translator_assign (0, lv_args 0 [.ref 3, .int p2, .int p3], []) (hX X I J) P := by
  unfold f_Translator_assign at hb
  refine e_k 1 (f' := (1, [(0, .ref 3), (1, .int p2), (2, .int p3)], [.ref 3])) rfl ?_
  obtain ⟨v1, I1, J1, h1, hb⟩ := oc_call hb
  refine r_cv (z := m_Translator_look) (As := []) (rest := []) rfl rfl rfl rfl rfl (x_ltn rfl) rfl rfl (E_Translator_look  h1 ⟨_, rfl, ?_⟩)
  obtain ⟨v2, I2, J2, h2, hb⟩ := oc_call hb
  refine r_cs (z := m_Translator_isArray) (As := [.int v1]) (rest := []) rfl rfl rfl rfl rfl rfl (E_Translator_isArray  h2 ⟨_, rfl, ?_⟩)
  refine e_k 1 (f' := (if v2 = 0 then 71 else 10, [(0, .ref 3), (1, .int p2), (2, .int p3)], [])) rfl ?_
  refine e_if (fun c3 => ?_) (fun c3 => ?_)
  · replace hb := i_pos c3 hb
    refine e_k 1 (f' := (72, [(0, .ref 3), (1, .int p2), (2, .int p3)], [.ref 3])) rfl ?_
    obtain ⟨v4, I4, J4, h4, hb⟩ := oc_call hb
    refine r_cv (z := m_Translator_expression) (As := []) (rest := []) rfl rfl rfl rfl rfl (x_ltn rfl) rfl rfl (hR_9  h4 ⟨_, rfl, ?_⟩)
    refine e_k 3 (f' := (79, [(3, .int v4), (0, .ref 3), (1, .int p2), (2, .int p3)], [.int 59, .ref 3])) rfl ?_
    obtain ⟨v5, I5, J5, h5, hb⟩ := oc_call hb
    refine r_cv (z := m_Translator_expect) (As := [.int 59]) (rest := []) rfl rfl rfl rfl rfl (x_ltn rfl) rfl rfl (E_Translator_expect  h5 ⟨_, rfl, ?_⟩)
    refine e_k 3 (f' := (if p2 < 13 then 101 else 88, [(3, .int v4), (0, .ref 3), (1, .int p2), (2, .int p3)], [])) rfl ?_
    refine e_if (fun c6 => ?_) (fun c6 => ?_)
    · replace hb := i_pos c6 hb
      refine e_k 2 (f' := (if v4 = 0 then 111 else 105, [(3, .int v4), (0, .ref 3), (1, .int p2), (2, .int p3)], [])) rfl ?_
      obtain ⟨v8, I8, J8, h8, hb⟩ := oc_call hb
      have Kj8 : am_E (gG L xs) (d + 3) m_Translator_assign (111, [(0, .ref 3), (1, .int p2)], []) (hX X I8 J8) P := by
        refine e_k 5 (f' := (117, [(0, .ref 3), (1, .int p2)], [.int 0, .int 0, .int p2, .int 11, .ref 3])) rfl ?_
        obtain ⟨v11, I11, J11, h11, hb⟩ := oc_call hb
        refine r_cv (z := m_Translator_emit) (As := [.int 11, .int p2, .int 0, .int 0]) (rest := []) rfl rfl rfl rfl rfl (x_ltn rfl) rfl rfl (E_Translator_emit  h11 ⟨_, rfl, ?_⟩)
        obtain ⟨rfl, rfl, rfl⟩ := s_inj hb
        exact e_r rfl rfl K
      clear hb
      refine e_if (fun c9 => ?_) (fun c9 => ?_)
      · replace h8 := i_pos c9 h8
        refine e_sub (ls := [(0, .ref 3), (1, .int p2)]) rfl ⟨rfl, rfl, trivial⟩ ?_
        obtain ⟨rfl, rfl, rfl⟩ := s_inj h8
        exact Kj8
      · replace h8 := i_neg c9 h8
        refine e_k 3 (f' := (108, [(3, .int v4), (0, .ref 3), (1, .int p2), (2, .int p3)], [.int p3, .int 3, .ref 3])) rfl ?_
        obtain ⟨v10, I10, J10, h10, h8⟩ := oc_call h8
        refine r_cv (z := m_Translator_blame) (As := [.int 3, .int p3]) (rest := []) rfl rfl rfl rfl rfl (x_ltn rfl) rfl rfl (E_Translator_blame  h10 ⟨_, rfl, ?_⟩)
        refine e_sub (ls := [(0, .ref 3), (1, .int p2)]) rfl ⟨rfl, rfl, trivial⟩ ?_
        obtain ⟨rfl, rfl, rfl⟩ := s_inj h8
        exact Kj8
    · replace hb := i_neg c6 hb
      refine e_k 7 (f' := (97, [(3, .int v4), (0, .ref 3), (1, .int p2), (2, .int p3)], [.int 0, .int 0, .int (p2 - 13), .int 12, .ref 3])) rfl ?_
      obtain ⟨v12, I12, J12, h12, hb⟩ := oc_call hb
      refine r_cv (z := m_Translator_emit) (As := [.int 12, .int (p2 - 13), .int 0, .int 0]) (rest := []) rfl rfl rfl rfl rfl (x_ltn rfl) rfl rfl (E_Translator_emit  h12 ⟨_, rfl, ?_⟩)
      obtain ⟨rfl, rfl, rfl⟩ := s_inj hb
      exact e_r rfl rfl K
  · replace hb := i_neg c3 hb
    refine e_k 1 (f' := (11, [(0, .ref 3), (1, .int p2), (2, .int p3)], [.ref 3])) rfl ?_
    obtain ⟨v13, I13, J13, h13, hb⟩ := oc_call hb
    refine r_cv (z := m_Translator_behindNext) (As := []) (rest := []) rfl rfl rfl rfl rfl (x_ltn rfl) rfl rfl (E_Translator_behindNext  h13 ⟨_, rfl, ?_⟩)
    refine e_k 2 (f' := (if ¬ v13 = 46 then 71 else 19, [(0, .ref 3), (1, .int p2), (2, .int p3)], [])) rfl ?_
    refine e_if (fun c14 => ?_) (fun c14 => ?_)
    · replace hb := i_pos c14 hb
      refine e_k 1 (f' := (72, [(0, .ref 3), (1, .int p2), (2, .int p3)], [.ref 3])) rfl ?_
      obtain ⟨v15, I15, J15, h15, hb⟩ := oc_call hb
      refine r_cv (z := m_Translator_expression) (As := []) (rest := []) rfl rfl rfl rfl rfl (x_ltn rfl) rfl rfl (hR_9  h15 ⟨_, rfl, ?_⟩)
      refine e_k 3 (f' := (79, [(3, .int v15), (0, .ref 3), (1, .int p2), (2, .int p3)], [.int 59, .ref 3])) rfl ?_
      obtain ⟨v16, I16, J16, h16, hb⟩ := oc_call hb
      refine r_cv (z := m_Translator_expect) (As := [.int 59]) (rest := []) rfl rfl rfl rfl rfl (x_ltn rfl) rfl rfl (E_Translator_expect  h16 ⟨_, rfl, ?_⟩)
      refine e_k 3 (f' := (if p2 < 13 then 101 else 88, [(3, .int v15), (0, .ref 3), (1, .int p2), (2, .int p3)], [])) rfl ?_
      refine e_if (fun c17 => ?_) (fun c17 => ?_)
      · replace hb := i_pos c17 hb
        refine e_k 2 (f' := (if v15 = 0 then 111 else 105, [(3, .int v15), (0, .ref 3), (1, .int p2), (2, .int p3)], [])) rfl ?_
        obtain ⟨v19, I19, J19, h19, hb⟩ := oc_call hb
        have Kj19 : am_E (gG L xs) (d + 3) m_Translator_assign (111, [(0, .ref 3), (1, .int p2)], []) (hX X I19 J19) P := by
          refine e_k 5 (f' := (117, [(0, .ref 3), (1, .int p2)], [.int 0, .int 0, .int p2, .int 11, .ref 3])) rfl ?_
          obtain ⟨v22, I22, J22, h22, hb⟩ := oc_call hb
          refine r_cv (z := m_Translator_emit) (As := [.int 11, .int p2, .int 0, .int 0]) (rest := []) rfl rfl rfl rfl rfl (x_ltn rfl) rfl rfl (E_Translator_emit  h22 ⟨_, rfl, ?_⟩)
          obtain ⟨rfl, rfl, rfl⟩ := s_inj hb
          exact e_r rfl rfl K
        clear hb
        refine e_if (fun c20 => ?_) (fun c20 => ?_)
        · replace h19 := i_pos c20 h19
          refine e_sub (ls := [(0, .ref 3), (1, .int p2)]) rfl ⟨rfl, rfl, trivial⟩ ?_
          obtain ⟨rfl, rfl, rfl⟩ := s_inj h19
          exact Kj19
        · replace h19 := i_neg c20 h19
          refine e_k 3 (f' := (108, [(3, .int v15), (0, .ref 3), (1, .int p2), (2, .int p3)], [.int p3, .int 3, .ref 3])) rfl ?_
          obtain ⟨v21, I21, J21, h21, h19⟩ := oc_call h19
          refine r_cv (z := m_Translator_blame) (As := [.int 3, .int p3]) (rest := []) rfl rfl rfl rfl rfl (x_ltn rfl) rfl rfl (E_Translator_blame  h21 ⟨_, rfl, ?_⟩)
          refine e_sub (ls := [(0, .ref 3), (1, .int p2)]) rfl ⟨rfl, rfl, trivial⟩ ?_
          obtain ⟨rfl, rfl, rfl⟩ := s_inj h19
          exact Kj19
      · replace hb := i_neg c17 hb
        refine e_k 7 (f' := (97, [(3, .int v15), (0, .ref 3), (1, .int p2), (2, .int p3)], [.int 0, .int 0, .int (p2 - 13), .int 12, .ref 3])) rfl ?_
        obtain ⟨v23, I23, J23, h23, hb⟩ := oc_call hb
        refine r_cv (z := m_Translator_emit) (As := [.int 12, .int (p2 - 13), .int 0, .int 0]) (rest := []) rfl rfl rfl rfl rfl (x_ltn rfl) rfl rfl (E_Translator_emit  h23 ⟨_, rfl, ?_⟩)
        obtain ⟨rfl, rfl, rfl⟩ := s_inj hb
        exact e_r rfl rfl K
    · replace hb := i_neg c14 hb
      refine e_k 1 (f' := (20, [(0, .ref 3), (1, .int p2), (2, .int p3)], [.ref 3])) rfl ?_
      obtain ⟨v24, I24, J24, h24, hb⟩ := oc_call hb
      refine r_cv (z := m_Translator_array) (As := []) (rest := []) rfl rfl rfl rfl rfl (x_ltn rfl) rfl rfl (E_Translator_array  h24 ⟨_, rfl, ?_⟩)
      refine e_k 3 (f' := (27, [(3, .int v24), (0, .ref 3), (1, .int p2), (2, .int p3)], [.int 46, .ref 3])) rfl ?_
      obtain ⟨v25, I25, J25, h25, hb⟩ := oc_call hb
      refine r_cv (z := m_Translator_expect) (As := [.int 46]) (rest := []) rfl rfl rfl rfl rfl (x_ltn rfl) rfl rfl (E_Translator_expect  h25 ⟨_, rfl, ?_⟩)
      refine e_k 1 (f' := (31, [(3, .int v24), (0, .ref 3), (1, .int p2), (2, .int p3)], [.ref 3])) rfl ?_
      obtain ⟨v26, I26, J26, h26, hb⟩ := oc_call hb
      refine r_cv (z := m_Translator_array) (As := []) (rest := []) rfl rfl rfl rfl rfl (x_ltn rfl) rfl rfl (E_Translator_array  h26 ⟨_, rfl, ?_⟩)
      refine e_k 3 (f' := (39, [(4, .int v26), (3, .int v24), (0, .ref 3), (1, .int p2), (2, .int p3)], [.int 59, .ref 3])) rfl ?_
      obtain ⟨v27, I27, J27, h27, hb⟩ := oc_call hb
      refine r_cv (z := m_Translator_expect) (As := [.int 59]) (rest := []) rfl rfl rfl rfl rfl (x_ltn rfl) rfl rfl (E_Translator_expect  h27 ⟨_, rfl, ?_⟩)
      refine e_k 3 (f' := (45, [(4, .int v26), (3, .int v24), (0, .ref 3), (1, .int p2), (2, .int p3)], [.int p3, .int p2, .ref 3])) rfl ?_
      obtain ⟨v28, I28, J28, h28, hb⟩ := oc_call hb
      refine r_cv (z := m_Translator_wantSecret) (As := [.int p2, .int p3]) (rest := []) rfl rfl rfl rfl rfl (x_ltn rfl) rfl rfl (E_Translator_wantSecret  h28 ⟨_, rfl, ?_⟩)
      refine e_k 5 (f' := (55, [(4, .int v26), (3, .int v24), (0, .ref 3), (1, .int p2), (2, .int p3)], [.int 0, .int v26, .int v24, .int 26, .ref 3])) rfl ?_
      obtain ⟨v29, I29, J29, h29, hb⟩ := oc_call hb
      refine r_cv (z := m_Translator_emit) (As := [.int 26, .int v24, .int v26, .int 0]) (rest := []) rfl rfl rfl rfl rfl (x_ltn rfl) rfl rfl (E_Translator_emit  h29 ⟨_, rfl, ?_⟩)
      refine e_k 7 (f' := (67, [(4, .int v26), (3, .int v24), (0, .ref 3), (1, .int p2), (2, .int p3)], [.int 0, .int 0, .int (p2 - 13), .int 12, .ref 3])) rfl ?_
      obtain ⟨v30, I30, J30, h30, hb⟩ := oc_call hb
      refine r_cv (z := m_Translator_emit) (As := [.int 12, .int (p2 - 13), .int 0, .int 0]) (rest := []) rfl rfl rfl rfl rfl (x_ltn rfl) rfl rfl (E_Translator_emit  h30 ⟨_, rfl, ?_⟩)
      obtain ⟨rfl, rfl, rfl⟩ := s_inj hb
      exact e_r rfl rfl K
theorem E_Translator_input {p2 : Int32} {p3 : Int32} {X : MX} {I : MI} {J : MJ} {v : Unit} {I' : MI} {J' : MJ} (hb : f_Translator_input p2 p3 I J = some (v, I', J')) (K : P (.inl (none)) (hX X I' J')) : am_E (gG L xs) (d + 3) m_Translator_input (0, lv_args 0 [.ref 3, .int p2, .int p3], []) (hX X I J) P := by
  unfold f_Translator_input at hb
  refine e_k 1 (f' := (1, [(0, .ref 3), (1, .int p2), (2, .int p3)], [.ref 3])) rfl ?_
  obtain ⟨v1, I1, J1, h1, hb⟩ := oc_call hb
  refine r_cv (z := m_Translator_look) (As := []) (rest := []) rfl rfl rfl rfl rfl (x_ltn rfl) rfl rfl (E_Translator_look  h1 ⟨_, rfl, ?_⟩)
  refine e_k 2 (f' := (6, [(0, .ref 3), (1, .int p2), (2, .int p3)], [.ref 3])) rfl ?_
  refine r_geti rfl (x_ltn rfl) rfl rfl ?_
  refine e_k 1 (f' := (10, [(3, .int (I1 3 5)), (0, .ref 3), (1, .int p2), (2, .int p3)], [])) rfl ?_
  obtain ⟨x2, ex2, hb⟩ := p_nm hb
  rw [← ex2]
  refine e_k 1 (f' := (11, [(3, .int x2), (0, .ref 3), (1, .int p2), (2, .int p3)], [.ref 3])) rfl ?_
  obtain ⟨v3, I3, J3, h3, hb⟩ := oc_call hb
  refine r_cv (z := m_Translator_digit) (As := []) (rest := []) rfl rfl rfl rfl rfl (x_ltn rfl) rfl rfl (E_Translator_digit  h3 ⟨_, rfl, ?_⟩)
  refine e_k 3 (f' := (19, [(4, .int v3), (3, .int x2), (0, .ref 3), (1, .int p2), (2, .int p3)], [.int 59, .ref 3])) rfl ?_
  obtain ⟨v4, I4, J4, h4, hb⟩ := oc_call hb
  refine r_cv (z := m_Translator_expect) (As := [.int 59]) (rest := []) rfl rfl rfl rfl rfl (x_ltn rfl) rfl rfl (E_Translator_expect  h4 ⟨_, rfl, ?_⟩)
  refine e_k 3 (f' := (25, [(4, .int v3), (3, .int x2), (0, .ref 3), (1, .int p2), (2, .int p3)], [.int p3, .int p2, .ref 3])) rfl ?_
  obtain ⟨v5, I5, J5, h5, hb⟩ := oc_call hb
  refine r_cv (z := m_Translator_wantSecret) (As := [.int p2, .int p3]) (rest := []) rfl rfl rfl rfl rfl (x_ltn rfl) rfl rfl (E_Translator_wantSecret  h5 ⟨_, rfl, ?_⟩)
  refine e_k 2 (f' := (31, [(4, .int v3), (3, .int x2), (0, .ref 3), (1, .int p2), (2, .int p3)], [.ref 3, .int v3])) rfl ?_
  refine r_geti rfl (x_ltn rfl) rfl rfl ?_
  refine e_k 1 (f' := (if v3 < (I5 3 4) then 43 else 37, [(4, .int v3), (3, .int x2), (0, .ref 3), (1, .int p2), (2, .int p3)], [])) rfl ?_
  obtain ⟨v7, I7, J7, h7, hb⟩ := oc_call hb
  have Kj7 : am_E (gG L xs) (d + 3) m_Translator_input (43, [(0, .ref 3), (1, .int p2), (4, .int v3)], []) (hX X I7 J7) P := by
    refine e_k 7 (f' := (53, [(0, .ref 3), (1, .int p2), (4, .int v3)], [.int 0, .int v3, .int (p2 - 13), .int 13, .ref 3])) rfl ?_
    obtain ⟨v10, I10, J10, h10, hb⟩ := oc_call hb
    refine r_cv (z := m_Translator_emit) (As := [.int 13, .int (p2 - 13), .int v3, .int 0]) (rest := []) rfl rfl rfl rfl rfl (x_ltn rfl) rfl rfl (E_Translator_emit  h10 ⟨_, rfl, ?_⟩)
    obtain ⟨rfl, rfl, rfl⟩ := s_inj hb
    exact e_r rfl rfl K
  clear hb
  refine e_if (fun c8 => ?_) (fun c8 => ?_)
  · replace h7 := i_pos c8 h7
    refine e_sub (ls := [(0, .ref 3), (1, .int p2), (4, .int v3)]) rfl ⟨rfl, rfl, rfl, trivial⟩ ?_
    obtain ⟨rfl, rfl, rfl⟩ := s_inj h7
    exact Kj7
  · replace h7 := i_neg c8 h7
    refine e_k 3 (f' := (40, [(4, .int v3), (3, .int x2), (0, .ref 3), (1, .int p2), (2, .int p3)], [.int x2, .int 4, .ref 3])) rfl ?_
    obtain ⟨v9, I9, J9, h9, h7⟩ := oc_call h7
    refine r_cv (z := m_Translator_blame) (As := [.int 4, .int x2]) (rest := []) rfl rfl rfl rfl rfl (x_ltn rfl) rfl rfl (E_Translator_blame  h9 ⟨_, rfl, ?_⟩)
    refine e_sub (ls := [(0, .ref 3), (1, .int p2), (4, .int v3)]) rfl ⟨rfl, rfl, rfl, trivial⟩ ?_
    obtain ⟨rfl, rfl, rfl⟩ := s_inj h7
    exact Kj7
theorem E_Translator_opening {p2 : Int32} {p3 : Int32} {X : MX} {I : MI} {J : MJ} {v : Unit} {I' : MI} {J' : MJ} (hb : f_Translator_opening p2 p3 I J = some (v, I', J')) (K : P (.inl (none)) (hX X I' J')) : am_E (gG L xs) (d + 3) m_Translator_opening (0, lv_args 0 [.ref 3, .int p2, .int p3], []) (hX X I J) P := by
  unfold f_Translator_opening at hb
  refine e_k 1 (f' := (1, [(0, .ref 3), (1, .int p2), (2, .int p3)], [.ref 3])) rfl ?_
  obtain ⟨v1, I1, J1, h1, hb⟩ := oc_call hb
  refine r_cv (z := m_Translator_look) (As := []) (rest := []) rfl rfl rfl rfl rfl (x_ltn rfl) rfl rfl (E_Translator_look  h1 ⟨_, rfl, ?_⟩)
  refine e_k 2 (f' := (6, [(0, .ref 3), (1, .int p2), (2, .int p3)], [.ref 3])) rfl ?_
  refine r_geti rfl (x_ltn rfl) rfl rfl ?_
  refine e_k 1 (f' := (10, [(3, .int (I1 3 5)), (0, .ref 3), (1, .int p2), (2, .int p3)], [])) rfl ?_
  obtain ⟨x2, ex2, hb⟩ := p_nm hb
  rw [← ex2]
  refine e_k 1 (f' := (11, [(3, .int x2), (0, .ref 3), (1, .int p2), (2, .int p3)], [.ref 3])) rfl ?_
  obtain ⟨v3, I3, J3, h3, hb⟩ := oc_call hb
  refine r_cv (z := m_Translator_variable) (As := []) (rest := []) rfl rfl rfl rfl rfl (x_ltn rfl) rfl rfl (E_Translator_variable  h3 ⟨_, rfl, ?_⟩)
  refine e_k 3 (f' := (19, [(4, .int v3), (3, .int x2), (0, .ref 3), (1, .int p2), (2, .int p3)], [.int 59, .ref 3])) rfl ?_
  obtain ⟨v4, I4, J4, h4, hb⟩ := oc_call hb
  refine r_cv (z := m_Translator_expect) (As := [.int 59]) (rest := []) rfl rfl rfl rfl rfl (x_ltn rfl) rfl rfl (E_Translator_expect  h4 ⟨_, rfl, ?_⟩)
  refine e_k 3 (f' := (25, [(4, .int v3), (3, .int x2), (0, .ref 3), (1, .int p2), (2, .int p3)], [.int p3, .int p2, .ref 3])) rfl ?_
  obtain ⟨v5, I5, J5, h5, hb⟩ := oc_call hb
  refine r_cv (z := m_Translator_wantClear) (As := [.int p2, .int p3]) (rest := []) rfl rfl rfl rfl rfl (x_ltn rfl) rfl rfl (E_Translator_wantClear  h5 ⟨_, rfl, ?_⟩)
  refine e_k 3 (f' := (32, [(4, .int v3), (3, .int x2), (0, .ref 3), (1, .int p2), (2, .int p3)], [.int x2, .int v3, .ref 3])) rfl ?_
  obtain ⟨v6, I6, J6, h6, hb⟩ := oc_call hb
  refine r_cv (z := m_Translator_wantSecret) (As := [.int v3, .int x2]) (rest := []) rfl rfl rfl rfl rfl (x_ltn rfl) rfl rfl (E_Translator_wantSecret  h6 ⟨_, rfl, ?_⟩)
  refine e_k 7 (f' := (45, [(4, .int v3), (3, .int x2), (0, .ref 3), (1, .int p2), (2, .int p3)], [.int 0, .int (v3 - 13), .int p2, .int 14, .ref 3])) rfl ?_
  obtain ⟨v7, I7, J7, h7, hb⟩ := oc_call hb
  refine r_cv (z := m_Translator_emit) (As := [.int 14, .int p2, .int (v3 - 13), .int 0]) (rest := []) rfl rfl rfl rfl rfl (x_ltn rfl) rfl rfl (E_Translator_emit  h7 ⟨_, rfl, ?_⟩)
  obtain ⟨rfl, rfl, rfl⟩ := s_inj hb
  exact e_r rfl rfl K
theorem E_Translator_arrayByArray {p2 : Int32} {p3 : Int32} {X : MX} {I : MI} {J : MJ} {v : Unit} {I' : MI} {J' : MJ} (hb : f_Translator_arrayByArray p2 p3 I J = some (v, I', J')) (K : P (.inl (none)) (hX X I' J')) : am_E (gG L xs) (d + 3) m_Translator_arrayByArray (0, lv_args 0 [.ref 3, .int p2, .int p3], []) (hX X I J) P := by
  unfold f_Translator_arrayByArray at hb
  refine e_k 1 (f' := (1, [(0, .ref 3), (1, .int p2), (2, .int p3)], [.ref 3])) rfl ?_
  obtain ⟨v1, I1, J1, h1, hb⟩ := oc_call hb
  refine r_cv (z := m_Translator_array) (As := []) (rest := []) rfl rfl rfl rfl rfl (x_ltn rfl) rfl rfl (E_Translator_array  h1 ⟨_, rfl, ?_⟩)
  refine e_k 2 (f' := (6, [(3, .int v1), (0, .ref 3), (1, .int p2), (2, .int p3)], [.ref 3])) rfl ?_
  obtain ⟨v2, I2, J2, h2, hb⟩ := oc_call hb
  refine r_cv (z := m_Translator_look) (As := []) (rest := []) rfl rfl rfl rfl rfl (x_ltn rfl) rfl rfl (E_Translator_look  h2 ⟨_, rfl, ?_⟩)
  refine e_k 4 (f' := (if v2 = 43 then 32 else 18, [(4, .int v2), (3, .int v1), (0, .ref 3), (1, .int p2), (2, .int p3)], [])) rfl ?_
  obtain ⟨v5, I5, J5, h5, hb⟩ := oc_call hb
  have Kj5 : am_E (gG L xs) (d + 3) m_Translator_arrayByArray (43, [(0, .ref 3), (1, .int p2), (2, .int p3), (3, .int v1), (4, .int v2)], []) (hX X I5 J5) P := by
    refine e_k 1 (f' := (44, [(0, .ref 3), (1, .int p2), (2, .int p3), (3, .int v1), (4, .int v2)], [.ref 3])) rfl ?_
    obtain ⟨v13, I13, J13, h13, hb⟩ := oc_call hb
    refine r_cv (z := m_Translator_array) (As := []) (rest := []) rfl rfl rfl rfl rfl (x_ltn rfl) rfl rfl (E_Translator_array  h13 ⟨_, rfl, ?_⟩)
    refine e_k 3 (f' := (52, [(5, .int v13), (0, .ref 3), (1, .int p2), (2, .int p3), (3, .int v1), (4, .int v2)], [.int 59, .ref 3])) rfl ?_
    obtain ⟨v14, I14, J14, h14, hb⟩ := oc_call hb
    refine r_cv (z := m_Translator_expect) (As := [.int 59]) (rest := []) rfl rfl rfl rfl rfl (x_ltn rfl) rfl rfl (E_Translator_expect  h14 ⟨_, rfl, ?_⟩)
    refine e_k 3 (f' := (if 4 ≤ p2 then 77 else 60, [(5, .int v13), (0, .ref 3), (1, .int p2), (2, .int p3), (3, .int v1), (4, .int v2)], [])) rfl ?_
    obtain ⟨v16, I16, J16, h16, hb⟩ := oc_call hb
    have Kj16 : am_E (gG L xs) (d + 3) m_Translator_arrayByArray (77, [(0, .ref 3), (1, .int p2), (3, .int v1), (4, .int v2), (5, .int v13)], []) (hX X I16 J16) P := by
      refine e_k 3 (f' := (if ¬ v2 = 43 then 89 else 84, [(0, .ref 3), (1, .int p2), (3, .int v1), (4, .int v2), (5, .int v13)], [])) rfl ?_
      obtain ⟨v24, h24, hb⟩ := p_nn hb
      have Kj24 : am_E (gG L xs) (d + 3) m_Translator_arrayByArray (103, [(0, .ref 3), (1, .int p2), (3, .int v1), (5, .int v13)], [.int v24]) (hX X I16 J16) P := by
        refine e_k 6 (f' := (112, [(6, .int v24), (0, .ref 3), (1, .int p2), (3, .int v1), (5, .int v13)], [.int v13, .int v1, .int p2, .int v24, .ref 3])) rfl ?_
        obtain ⟨v27, I27, J27, h27, hb⟩ := oc_call hb
        refine r_cv (z := m_Translator_emit) (As := [.int v24, .int p2, .int v1, .int v13]) (rest := []) rfl rfl rfl rfl rfl (x_ltn rfl) rfl rfl (E_Translator_emit  h27 ⟨_, rfl, ?_⟩)
        obtain ⟨rfl, rfl, rfl⟩ := s_inj hb
        exact e_r rfl rfl K
      clear hb
      refine e_if (fun c25 => ?_) (fun c25 => ?_)
      · replace h24 := i_pos c25 h24
        refine e_k 3 (f' := (if ¬ v2 = 45 then 101 else 96, [(0, .ref 3), (1, .int p2), (3, .int v1), (4, .int v2), (5, .int v13)], [])) rfl ?_
        refine e_if (fun c26 => ?_) (fun c26 => ?_)
        · replace h24 := i_pos c26 h24
          refine e_k 1 (f' := (103, [(0, .ref 3), (1, .int p2), (3, .int v1), (4, .int v2), (5, .int v13)], [.int 25])) rfl ?_
          refine e_sub (ls := [(0, .ref 3), (1, .int p2), (3, .int v1), (5, .int v13)]) rfl ⟨rfl, rfl, rfl, rfl, trivial⟩ ?_
          subst h24
          exact Kj24
        · replace h24 := i_neg c26 h24
          refine e_k 2 (f' := (103, [(0, .ref 3), (1, .int p2), (3, .int v1), (4, .int v2), (5, .int v13)], [.int 24])) rfl ?_
          refine e_sub (ls := [(0, .ref 3), (1, .int p2), (3, .int v1), (5, .int v13)]) rfl ⟨rfl, rfl, rfl, rfl, trivial⟩ ?_
          subst h24
          exact Kj24
      · replace h24 := i_neg c25 h24
        refine e_k 2 (f' := (103, [(0, .ref 3), (1, .int p2), (3, .int v1), (4, .int v2), (5, .int v13)], [.int 23])) rfl ?_
        refine e_sub (ls := [(0, .ref 3), (1, .int p2), (3, .int v1), (5, .int v13)]) rfl ⟨rfl, rfl, rfl, rfl, trivial⟩ ?_
        subst h24
        exact Kj24
    clear hb
    refine e_if (fun c17 => ?_) (fun c17 => ?_)
    · replace h16 := i_pos c17 h16
      refine e_sub (ls := [(0, .ref 3), (1, .int p2), (3, .int v1), (4, .int v2), (5, .int v13)]) rfl ⟨rfl, rfl, rfl, rfl, rfl, trivial⟩ ?_
      obtain ⟨rfl, rfl, rfl⟩ := s_inj h16
      exact Kj16
    · replace h16 := i_neg c17 h16
      refine e_k 3 (f' := (if 4 ≤ v1 then 71 else 65, [(5, .int v13), (0, .ref 3), (1, .int p2), (2, .int p3), (3, .int v1), (4, .int v2)], [])) rfl ?_
      refine e_if (fun c18 => ?_) (fun c18 => ?_)
      · replace h16 := i_pos c18 h16
        refine e_k 3 (f' := (74, [(5, .int v13), (0, .ref 3), (1, .int p2), (2, .int p3), (3, .int v1), (4, .int v2)], [.int p3, .int 3, .ref 3])) rfl ?_
        obtain ⟨v19, I19, J19, h19, h16⟩ := oc_call h16
        refine r_cv (z := m_Translator_blame) (As := [.int 3, .int p3]) (rest := []) rfl rfl rfl rfl rfl (x_ltn rfl) rfl rfl (E_Translator_blame  h19 ⟨_, rfl, ?_⟩)
        refine e_sub (ls := [(0, .ref 3), (1, .int p2), (3, .int v1), (4, .int v2), (5, .int v13)]) rfl ⟨rfl, rfl, rfl, rfl, rfl, trivial⟩ ?_
        obtain ⟨rfl, rfl, rfl⟩ := s_inj h16
        exact Kj16
      · replace h16 := i_neg c18 h16
        refine e_k 3 (f' := (if v13 < 4 then 77 else 71, [(5, .int v13), (0, .ref 3), (1, .int p2), (2, .int p3), (3, .int v1), (4, .int v2)], [])) rfl ?_
        refine e_if (fun c20 => ?_) (fun c20 => ?_)
        · replace h16 := i_pos c20 h16
          refine e_sub (ls := [(0, .ref 3), (1, .int p2), (3, .int v1), (4, .int v2), (5, .int v13)]) rfl ⟨rfl, rfl, rfl, rfl, rfl, trivial⟩ ?_
          obtain ⟨rfl, rfl, rfl⟩ := s_inj h16
          exact Kj16
        · replace h16 := i_neg c20 h16
          refine e_k 3 (f' := (74, [(5, .int v13), (0, .ref 3), (1, .int p2), (2, .int p3), (3, .int v1), (4, .int v2)], [.int p3, .int 3, .ref 3])) rfl ?_
          obtain ⟨v21, I21, J21, h21, h16⟩ := oc_call h16
          refine r_cv (z := m_Translator_blame) (As := [.int 3, .int p3]) (rest := []) rfl rfl rfl rfl rfl (x_ltn rfl) rfl rfl (E_Translator_blame  h21 ⟨_, rfl, ?_⟩)
          refine e_sub (ls := [(0, .ref 3), (1, .int p2), (3, .int v1), (4, .int v2), (5, .int v13)]) rfl ⟨rfl, rfl, rfl, rfl, rfl, trivial⟩ ?_
          obtain ⟨rfl, rfl, rfl⟩ := s_inj h16
          exact Kj16
  clear hb
  refine e_if (fun c6 => ?_) (fun c6 => ?_)
  · replace h5 := i_pos c6 h5
    refine e_k 1 (f' := (33, [(4, .int v2), (3, .int v1), (0, .ref 3), (1, .int p2), (2, .int p3)], [.ref 3])) rfl ?_
    obtain ⟨v7, I7, J7, h7, h5⟩ := oc_call h5
    refine r_cv (z := m_Translator_pass) (As := []) (rest := []) rfl rfl rfl rfl rfl (x_ltn rfl) rfl rfl (E_Translator_pass  h7 ⟨_, rfl, ?_⟩)
    refine e_k 1 (f' := (43, [(4, .int v2), (3, .int v1), (0, .ref 3), (1, .int p2), (2, .int p3)], [])) rfl ?_
    refine e_sub (ls := [(0, .ref 3), (1, .int p2), (2, .int p3), (3, .int v1), (4, .int v2)]) rfl ⟨rfl, rfl, rfl, rfl, rfl, trivial⟩ ?_
    obtain ⟨rfl, rfl, rfl⟩ := s_inj h5
    exact Kj5
  · replace h5 := i_neg c6 h5
    refine e_k 3 (f' := (if v2 = 45 then 32 else 25, [(4, .int v2), (3, .int v1), (0, .ref 3), (1, .int p2), (2, .int p3)], [])) rfl ?_
    refine e_if (fun c8 => ?_) (fun c8 => ?_)
    · replace h5 := i_pos c8 h5
      refine e_k 1 (f' := (33, [(4, .int v2), (3, .int v1), (0, .ref 3), (1, .int p2), (2, .int p3)], [.ref 3])) rfl ?_
      obtain ⟨v9, I9, J9, h9, h5⟩ := oc_call h5
      refine r_cv (z := m_Translator_pass) (As := []) (rest := []) rfl rfl rfl rfl rfl (x_ltn rfl) rfl rfl (E_Translator_pass  h9 ⟨_, rfl, ?_⟩)
      refine e_k 1 (f' := (43, [(4, .int v2), (3, .int v1), (0, .ref 3), (1, .int p2), (2, .int p3)], [])) rfl ?_
      refine e_sub (ls := [(0, .ref 3), (1, .int p2), (2, .int p3), (3, .int v1), (4, .int v2)]) rfl ⟨rfl, rfl, rfl, rfl, rfl, trivial⟩ ?_
      obtain ⟨rfl, rfl, rfl⟩ := s_inj h5
      exact Kj5
    · replace h5 := i_neg c8 h5
      refine e_k 3 (f' := (if ¬ v2 = 42 then 39 else 32, [(4, .int v2), (3, .int v1), (0, .ref 3), (1, .int p2), (2, .int p3)], [])) rfl ?_
      refine e_if (fun c10 => ?_) (fun c10 => ?_)
      · replace h5 := i_pos c10 h5
        refine e_k 1 (f' := (40, [(4, .int v2), (3, .int v1), (0, .ref 3), (1, .int p2), (2, .int p3)], [.ref 3])) rfl ?_
        obtain ⟨v11, I11, J11, h11, h5⟩ := oc_call h5
        refine r_cv (z := m_Translator_refuse) (As := []) (rest := []) rfl rfl rfl rfl rfl (x_ltn rfl) rfl rfl (E_Translator_refuse  h11 ⟨_, rfl, ?_⟩)
        refine e_sub (ls := [(0, .ref 3), (1, .int p2), (2, .int p3), (3, .int v1), (4, .int v2)]) rfl ⟨rfl, rfl, rfl, rfl, rfl, trivial⟩ ?_
        obtain ⟨rfl, rfl, rfl⟩ := s_inj h5
        exact Kj5
      · replace h5 := i_neg c10 h5
        refine e_k 1 (f' := (33, [(4, .int v2), (3, .int v1), (0, .ref 3), (1, .int p2), (2, .int p3)], [.ref 3])) rfl ?_
        obtain ⟨v12, I12, J12, h12, h5⟩ := oc_call h5
        refine r_cv (z := m_Translator_pass) (As := []) (rest := []) rfl rfl rfl rfl rfl (x_ltn rfl) rfl rfl (E_Translator_pass  h12 ⟨_, rfl, ?_⟩)
        refine e_k 1 (f' := (43, [(4, .int v2), (3, .int v1), (0, .ref 3), (1, .int p2), (2, .int p3)], [])) rfl ?_
        refine e_sub (ls := [(0, .ref 3), (1, .int p2), (2, .int p3), (3, .int v1), (4, .int v2)]) rfl ⟨rfl, rfl, rfl, rfl, rfl, trivial⟩ ?_
        obtain ⟨rfl, rfl, rfl⟩ := s_inj h5
        exact Kj5
end AUTO
