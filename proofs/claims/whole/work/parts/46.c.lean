theorem law_run {L : Nat} {xs : Nat → Int32} {d : Nat} {v : Unit} {I1 : MI} {J1 : MJ} {X' : MX} {I' : MI} {J' : MJ} (h1 : f_Model_newHall 2 0 1 m_I0 m_J0 = some (v, I1, J1)) (h2 : f_Law_law_23 L xs gF 0 m_X1 I1 (va_up J1 168 (fun _ => 0)) = some (.inr (), X', I', J')) :
    am_E (gG L xs) (d + 800) m_Law_law (0, [(0, .ref 1000000005)], []) (c_H ([], 0, 0)) (fun r h => r = .inl (some (.int 1)) ∧ h = hX X' I' J') := by
  refine cb_n_ok c_law1 (by omega) ?_
  refine e_call (d := d + 799) (f := (12, [(1, .ref 0), (0, .ref 1000000005)], [.ref 112, .ref 112])) (As := [.ref 112]) (rest := [.ref 112]) (P' := fun r h => r = .inl none ∧ h = hX m_X0 I1 J1) m_Model_init rfl rfl rfl (c_can rfl rfl) rfl ?_ ?_
  · refine cb_n_ok (f := (0, [(0, .ref 112)], [])) c_law2 (by omega) ?_
    rw [c_h2]
    refine r_cv (d := d + 798) (z := m_Model_newHall) (As := [.int 2, .long 0, .int 1]) (rest := []) rfl rfl rfl rfl rfl (x_ltn rfl) rfl rfl (E_Model_newHall (d := d + 795) h1 ⟨_, rfl, ?_⟩)
    exact e_r rfl rfl ⟨rfl, rfl⟩
  · rintro r h ⟨rfl, rfl⟩
    refine ⟨none, rfl, ?_⟩
    show am_E (gG L xs) (d + 800) m_Law_law (15, [(1, .ref 0), (0, .ref 1000000005)], [.ref 112]) (hX m_X0 I1 J1) _
    refine e_k 2 (f' := (17, [(2, .ref 112), (1, .ref 0), (0, .ref 1000000005)], [.int 1])) rfl ?_
    refine e_1q (q := (27, 1, 2, .null, [])) (f' := (19, [(2, .ref 112), (1, .ref 0), (0, .ref 1000000005)], [.ref 168])) (h' := hX m_X1 I1 (va_up J1 168 (fun _ => 0))) rfl rfl ?_ ?_
    · show x_newa 1 2 17 [(2, .ref 112), (1, .ref 0), (0, .ref 1000000005)] [.int 1] (hX m_X0 I1 J1) = _
      show some ((19, [(2, Value.ref 112), (1, Value.ref 0), (0, Value.ref 1000000005)], [Value.ref 168]), (va_up (hp (sS m_X0.1 (sQ m_X0.2.1)) I1 J1) 168 (am_arr 1 1), 169, 169, 340045)) = _
      rw [hp_new (by decide)]
      rfl
    refine e_k 3 (f' := (23, [(4, .int 0), (3, .ref 168), (2, .ref 112), (1, .ref 0), (0, .ref 1000000005)], [])) rfl ?_
    refine e_sub (ls := [(0, .ref 1000000005), (1, .ref 0), (2, .ref 112), (3, .ref 168), (4, .int 0)]) rfl ⟨rfl, rfl, rfl, rfl, rfl, trivial⟩ ?_
    refine E_Law_law_23 (d := d + 593) gF h2 (fun v e => by cases e) (fun u e => ?_)
    refine e_k 1 (f' := (1164, [], [.int 1])) rfl ?_
    refine e_r (v := some (.int 1)) rfl ?_ ⟨rfl, rfl⟩
    show am_ret (g_code m_Law_law 1164).1 [.int 1] = some (some (.int 1))
    rw [show (g_code m_Law_law 1164).1 = 41 by decide +kernel]
    rfl
