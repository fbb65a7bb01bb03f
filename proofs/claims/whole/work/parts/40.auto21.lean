section AUTO
variable {L : Nat} {xs : Nat → Int32} {d : Nat} {P : am_R → am_H → Prop}
theorem E_Sh_party {p2 : Int32} {p3 : Int32} {X : MX} {I : MI} {J : MJ} {v : Int32} {I' : MI} {J' : MJ} (hb : f_Sh_party p2 p3 I J = some (v, I', J')) (K : P (.inl (some (.int v))) (hX X I' J')) : am_E (gG L xs) (d + 3) m_Sh_party (0, lv_args 0 [.ref 0, .int p2, .int p3], []) (hX X I J) P := by
  unfold f_Sh_party at hb
  refine e_k 1 (f' := (1, [(0, .ref 0), (1, .int p2), (2, .int p3)], [.ref 0])) rfl ?_
  refine r_getr rfl (x_ltn rfl) rfl rfl ?_
  refine e_k 1 (f' := (5, [(0, .ref 0), (1, .int p2), (2, .int p3)], [.int p2, .ref 14])) rfl ?_
  obtain ⟨v1, I1, J1, h1, hb⟩ := oc_call hb
  refine r_cv (z := m_Hall_has) (As := [.int p2]) (rest := []) rfl rfl rfl rfl rfl (x_ltn rfl) rfl rfl (E_Hall_has  h1 ⟨_, rfl, ?_⟩)
  refine e_k 1 (f' := (if ¬ v1 = 0 then 13 else 11, [(0, .ref 0), (1, .int p2), (2, .int p3)], [])) rfl ?_
  refine e_if (fun c2 => ?_) (fun c2 => ?_)
  · replace hb := i_pos c2 hb
    refine e_k 1 (f' := (14, [(0, .ref 0), (1, .int p2), (2, .int p3)], [.ref 0])) rfl ?_
    refine r_getr rfl (x_ltn rfl) rfl rfl ?_
    refine r_getr rfl (x_ltn rfl) rfl rfl ?_
    refine e_k 1 (f' := (21, [(0, .ref 0), (1, .int p2), (2, .int p3)], [.int p2, .ref 17])) rfl ?_
    obtain ⟨o3, hb⟩ := ob_in hb
    refine r_pald rfl o3 ?_
    refine e_k 4 (f' := (if ¬ p3 = 5 then 36 else 28, [(3, .ref (18 + 21 * (Int32.toNatClampNeg p2))), (0, .ref 0), (1, .int p2), (2, .int p3)], [])) rfl ?_
    refine e_if (fun c4 => ?_) (fun c4 => ?_)
    · replace hb := i_pos c4 hb
      refine e_k 3 (f' := (if ¬ p3 = 6 then 50 else 42, [(3, .ref (18 + 21 * (Int32.toNatClampNeg p2))), (0, .ref 0), (1, .int p2), (2, .int p3)], [])) rfl ?_
      refine e_if (fun c5 => ?_) (fun c5 => ?_)
      · replace hb := i_pos c5 hb
        refine e_k 3 (f' := (if p3 < 10 then 83 else 56, [(3, .ref (18 + 21 * (Int32.toNatClampNeg p2))), (0, .ref 0), (1, .int p2), (2, .int p3)], [])) rfl ?_
        refine e_if (fun c6 => ?_) (fun c6 => ?_)
        · replace hb := i_pos c6 hb
          refine e_k 3 (f' := (if ¬ p3 = 30 then 111 else 89, [(3, .ref (18 + 21 * (Int32.toNatClampNeg p2))), (0, .ref 0), (1, .int p2), (2, .int p3)], [])) rfl ?_
          refine e_if (fun c7 => ?_) (fun c7 => ?_)
          · replace hb := i_pos c7 hb
            refine e_k 2 (f' := (if p3 < 0 then 121 else 115, [(3, .ref (18 + 21 * (Int32.toNatClampNeg p2))), (0, .ref 0), (1, .int p2), (2, .int p3)], [])) rfl ?_
            refine e_if (fun c8 => ?_) (fun c8 => ?_)
            · replace hb := i_pos c8 hb
              refine e_k 1 (f' := (122, [(3, .ref (18 + 21 * (Int32.toNatClampNeg p2))), (0, .ref 0), (1, .int p2), (2, .int p3)], [.int (-1)])) rfl ?_
              obtain ⟨rfl, rfl, rfl⟩ := s_inj hb
              exact e_r rfl rfl K
            · replace hb := i_neg c8 hb
              refine e_k 3 (f' := (if p3 ≤ 9 then 123 else 121, [(3, .ref (18 + 21 * (Int32.toNatClampNeg p2))), (0, .ref 0), (1, .int p2), (2, .int p3)], [])) rfl ?_
              refine e_if (fun c9 => ?_) (fun c9 => ?_)
              · replace hb := i_pos c9 hb
                refine e_k 1 (f' := (124, [(3, .ref (18 + 21 * (Int32.toNatClampNeg p2))), (0, .ref 0), (1, .int p2), (2, .int p3)], [.ref 0])) rfl ?_
                refine r_getr rfl (x_ltn rfl) rfl rfl ?_
                refine r_geti rfl (x_ltn rfl) rfl rfl ?_
                refine e_k 1 (f' := (if ¬ (I1 14 9) = 0 then 143 else 133, [(3, .ref (18 + 21 * (Int32.toNatClampNeg p2))), (0, .ref 0), (1, .int p2), (2, .int p3)], [])) rfl ?_
                refine e_if (fun c10 => ?_) (fun c10 => ?_)
                · replace hb := i_pos c10 hb
                  refine e_k 2 (f' := (145, [(3, .ref (18 + 21 * (Int32.toNatClampNeg p2))), (0, .ref 0), (1, .int p2), (2, .int p3)], [.int p3, .ref (18 + 21 * (Int32.toNatClampNeg p2))])) rfl ?_
                  obtain ⟨v11, I11, J11, h11, hb⟩ := oc_call hb
                  refine r_cv (z := m_Party_tell) (As := [.int p3]) (rest := []) rfl rfl rfl rfl rfl (x_ltp (vp_lt o3) (by decide)) (sS_p0 (vp_lt o3)) rfl (E_Party_tell (vp_lt o3) h11 ⟨_, rfl, ?_⟩)
                  obtain ⟨rfl, rfl, rfl⟩ := s_inj hb
                  exact e_r rfl rfl K
                · replace hb := i_neg c10 hb
                  refine e_k 2 (f' := (if ¬ p3 = 0 then 141 else 137, [(3, .ref (18 + 21 * (Int32.toNatClampNeg p2))), (0, .ref 0), (1, .int p2), (2, .int p3)], [])) rfl ?_
                  refine e_if (fun c12 => ?_) (fun c12 => ?_)
                  · replace hb := i_pos c12 hb
                    refine e_k 1 (f' := (142, [(3, .ref (18 + 21 * (Int32.toNatClampNeg p2))), (0, .ref 0), (1, .int p2), (2, .int p3)], [.int 0])) rfl ?_
                    obtain ⟨rfl, rfl, rfl⟩ := s_inj hb
                    exact e_r rfl rfl K
                  · replace hb := i_neg c12 hb
                    refine e_k 2 (f' := (142, [(3, .ref (18 + 21 * (Int32.toNatClampNeg p2))), (0, .ref 0), (1, .int p2), (2, .int p3)], [.int 2])) rfl ?_
                    obtain ⟨rfl, rfl, rfl⟩ := s_inj hb
                    exact e_r rfl rfl K
              · replace hb := i_neg c9 hb
                refine e_k 1 (f' := (122, [(3, .ref (18 + 21 * (Int32.toNatClampNeg p2))), (0, .ref 0), (1, .int p2), (2, .int p3)], [.int (-1)])) rfl ?_
                obtain ⟨rfl, rfl, rfl⟩ := s_inj hb
                exact e_r rfl rfl K
          · replace hb := i_neg c7 hb
            refine e_k 1 (f' := (90, [(3, .ref (18 + 21 * (Int32.toNatClampNeg p2))), (0, .ref 0), (1, .int p2), (2, .int p3)], [.ref 0])) rfl ?_
            refine r_getr rfl (x_ltn rfl) rfl rfl ?_
            refine r_geti rfl (x_ltn rfl) rfl rfl ?_
            refine e_k 1 (f' := (if (I1 14 9) = 0 then 109 else 99, [(3, .ref (18 + 21 * (Int32.toNatClampNeg p2))), (0, .ref 0), (1, .int p2), (2, .int p3)], [])) rfl ?_
            refine e_if (fun c13 => ?_) (fun c13 => ?_)
            · replace hb := i_pos c13 hb
              refine e_k 1 (f' := (110, [(3, .ref (18 + 21 * (Int32.toNatClampNeg p2))), (0, .ref 0), (1, .int p2), (2, .int p3)], [.int 0])) rfl ?_
              obtain ⟨rfl, rfl, rfl⟩ := s_inj hb
              exact e_r rfl rfl K
            · replace hb := i_neg c13 hb
              refine e_k 1 (f' := (100, [(3, .ref (18 + 21 * (Int32.toNatClampNeg p2))), (0, .ref 0), (1, .int p2), (2, .int p3)], [.ref (18 + 21 * (Int32.toNatClampNeg p2))])) rfl ?_
              refine r_getr rfl (x_ltp (vp_lt o3) (by decide)) (sS_p0 (vp_lt o3)) rfl ?_
              refine r_geti rfl (x_ltp (vp_lt o3) (by decide)) (sS_p1 (vp_lt o3)) rfl ?_
              refine e_k 1 (f' := (110, [(3, .ref (18 + 21 * (Int32.toNatClampNeg p2))), (0, .ref 0), (1, .int p2), (2, .int p3)], [.int (I1 (19 + 21 * (Int32.toNatClampNeg p2)) 6)])) rfl ?_
              obtain ⟨rfl, rfl, rfl⟩ := s_inj hb
              exact e_r rfl rfl K
        · replace hb := i_neg c6 hb
          refine e_k 3 (f' := (if 30 ≤ p3 then 83 else 62, [(3, .ref (18 + 21 * (Int32.toNatClampNeg p2))), (0, .ref 0), (1, .int p2), (2, .int p3)], [])) rfl ?_
          refine e_if (fun c14 => ?_) (fun c14 => ?_)
          · replace hb := i_pos c14 hb
            refine e_k 3 (f' := (if ¬ p3 = 30 then 111 else 89, [(3, .ref (18 + 21 * (Int32.toNatClampNeg p2))), (0, .ref 0), (1, .int p2), (2, .int p3)], [])) rfl ?_
            refine e_if (fun c15 => ?_) (fun c15 => ?_)
            · replace hb := i_pos c15 hb
              refine e_k 2 (f' := (if p3 < 0 then 121 else 115, [(3, .ref (18 + 21 * (Int32.toNatClampNeg p2))), (0, .ref 0), (1, .int p2), (2, .int p3)], [])) rfl ?_
              refine e_if (fun c16 => ?_) (fun c16 => ?_)
              · replace hb := i_pos c16 hb
                refine e_k 1 (f' := (122, [(3, .ref (18 + 21 * (Int32.toNatClampNeg p2))), (0, .ref 0), (1, .int p2), (2, .int p3)], [.int (-1)])) rfl ?_
                obtain ⟨rfl, rfl, rfl⟩ := s_inj hb
                exact e_r rfl rfl K
              · replace hb := i_neg c16 hb
                refine e_k 3 (f' := (if p3 ≤ 9 then 123 else 121, [(3, .ref (18 + 21 * (Int32.toNatClampNeg p2))), (0, .ref 0), (1, .int p2), (2, .int p3)], [])) rfl ?_
                refine e_if (fun c17 => ?_) (fun c17 => ?_)
                · replace hb := i_pos c17 hb
                  refine e_k 1 (f' := (124, [(3, .ref (18 + 21 * (Int32.toNatClampNeg p2))), (0, .ref 0), (1, .int p2), (2, .int p3)], [.ref 0])) rfl ?_
                  refine r_getr rfl (x_ltn rfl) rfl rfl ?_
                  refine r_geti rfl (x_ltn rfl) rfl rfl ?_
                  refine e_k 1 (f' := (if ¬ (I1 14 9) = 0 then 143 else 133, [(3, .ref (18 + 21 * (Int32.toNatClampNeg p2))), (0, .ref 0), (1, .int p2), (2, .int p3)], [])) rfl ?_
                  refine e_if (fun c18 => ?_) (fun c18 => ?_)
                  · replace hb := i_pos c18 hb
                    refine e_k 2 (f' := (145, [(3, .ref (18 + 21 * (Int32.toNatClampNeg p2))), (0, .ref 0), (1, .int p2), (2, .int p3)], [.int p3, .ref (18 + 21 * (Int32.toNatClampNeg p2))])) rfl ?_
                    obtain ⟨v19, I19, J19, h19, hb⟩ := oc_call hb
                    refine r_cv (z := m_Party_tell) (As := [.int p3]) (rest := []) rfl rfl rfl rfl rfl (x_ltp (vp_lt o3) (by decide)) (sS_p0 (vp_lt o3)) rfl (E_Party_tell (vp_lt o3) h19 ⟨_, rfl, ?_⟩)
                    obtain ⟨rfl, rfl, rfl⟩ := s_inj hb
                    exact e_r rfl rfl K
                  · replace hb := i_neg c18 hb
                    refine e_k 2 (f' := (if ¬ p3 = 0 then 141 else 137, [(3, .ref (18 + 21 * (Int32.toNatClampNeg p2))), (0, .ref 0), (1, .int p2), (2, .int p3)], [])) rfl ?_
                    refine e_if (fun c20 => ?_) (fun c20 => ?_)
                    · replace hb := i_pos c20 hb
                      refine e_k 1 (f' := (142, [(3, .ref (18 + 21 * (Int32.toNatClampNeg p2))), (0, .ref 0), (1, .int p2), (2, .int p3)], [.int 0])) rfl ?_
                      obtain ⟨rfl, rfl, rfl⟩ := s_inj hb
                      exact e_r rfl rfl K
                    · replace hb := i_neg c20 hb
                      refine e_k 2 (f' := (142, [(3, .ref (18 + 21 * (Int32.toNatClampNeg p2))), (0, .ref 0), (1, .int p2), (2, .int p3)], [.int 2])) rfl ?_
                      obtain ⟨rfl, rfl, rfl⟩ := s_inj hb
                      exact e_r rfl rfl K
                · replace hb := i_neg c17 hb
                  refine e_k 1 (f' := (122, [(3, .ref (18 + 21 * (Int32.toNatClampNeg p2))), (0, .ref 0), (1, .int p2), (2, .int p3)], [.int (-1)])) rfl ?_
                  obtain ⟨rfl, rfl, rfl⟩ := s_inj hb
                  exact e_r rfl rfl K
            · replace hb := i_neg c15 hb
              refine e_k 1 (f' := (90, [(3, .ref (18 + 21 * (Int32.toNatClampNeg p2))), (0, .ref 0), (1, .int p2), (2, .int p3)], [.ref 0])) rfl ?_
              refine r_getr rfl (x_ltn rfl) rfl rfl ?_
              refine r_geti rfl (x_ltn rfl) rfl rfl ?_
              refine e_k 1 (f' := (if (I1 14 9) = 0 then 109 else 99, [(3, .ref (18 + 21 * (Int32.toNatClampNeg p2))), (0, .ref 0), (1, .int p2), (2, .int p3)], [])) rfl ?_
              refine e_if (fun c21 => ?_) (fun c21 => ?_)
              · replace hb := i_pos c21 hb
                refine e_k 1 (f' := (110, [(3, .ref (18 + 21 * (Int32.toNatClampNeg p2))), (0, .ref 0), (1, .int p2), (2, .int p3)], [.int 0])) rfl ?_
                obtain ⟨rfl, rfl, rfl⟩ := s_inj hb
                exact e_r rfl rfl K
              · replace hb := i_neg c21 hb
                refine e_k 1 (f' := (100, [(3, .ref (18 + 21 * (Int32.toNatClampNeg p2))), (0, .ref 0), (1, .int p2), (2, .int p3)], [.ref (18 + 21 * (Int32.toNatClampNeg p2))])) rfl ?_
                refine r_getr rfl (x_ltp (vp_lt o3) (by decide)) (sS_p0 (vp_lt o3)) rfl ?_
                refine r_geti rfl (x_ltp (vp_lt o3) (by decide)) (sS_p1 (vp_lt o3)) rfl ?_
                refine e_k 1 (f' := (110, [(3, .ref (18 + 21 * (Int32.toNatClampNeg p2))), (0, .ref 0), (1, .int p2), (2, .int p3)], [.int (I1 (19 + 21 * (Int32.toNatClampNeg p2)) 6)])) rfl ?_
                obtain ⟨rfl, rfl, rfl⟩ := s_inj hb
                exact e_r rfl rfl K
          · replace hb := i_neg c14 hb
            refine e_k 5 (f' := (if 20 ≤ p3 then 74 else 70, [(3, .ref (18 + 21 * (Int32.toNatClampNeg p2))), (0, .ref 0), (1, .int p2), (2, .int p3)], [.ref (18 + 21 * (Int32.toNatClampNeg p2)), .ref 0])) rfl ?_
            obtain ⟨v23, h23, hb⟩ := p_nn hb
            have Kj23 : am_E (gG L xs) (d + 3) m_Sh_party (75, [(2, .int p3)], [.int v23, .ref (18 + 21 * (Int32.toNatClampNeg p2)), .ref 0]) (hX X I1 J1) P := by
              refine e_k 3 (f' := (79, [(2, .int p3)], [.int (p3 - p3 / 10 * 10), .int v23, .ref (18 + 21 * (Int32.toNatClampNeg p2)), .ref 0])) rfl ?_
              obtain ⟨v25, I25, J25, h25, hb⟩ := oc_call hb
              refine r_cv (z := m_Sh_countMails) (As := [.ref (18 + 21 * (Int32.toNatClampNeg p2)), .int v23, .int (p3 - p3 / 10 * 10)]) (rest := []) rfl rfl rfl rfl rfl (x_ltn rfl) rfl rfl (E_Sh_countMails (vp_lt o3) h25 ⟨_, rfl, ?_⟩)
              obtain ⟨rfl, rfl, rfl⟩ := s_inj hb
              exact e_r rfl rfl K
            clear hb
            refine e_if (fun c24 => ?_) (fun c24 => ?_)
            · replace h23 := i_pos c24 h23
              refine e_k 1 (f' := (75, [(3, .ref (18 + 21 * (Int32.toNatClampNeg p2))), (0, .ref 0), (1, .int p2), (2, .int p3)], [.int 0, .ref (18 + 21 * (Int32.toNatClampNeg p2)), .ref 0])) rfl ?_
              refine e_sub (ls := [(2, .int p3)]) rfl ⟨rfl, trivial⟩ ?_
              subst h23
              exact Kj23
            · replace h23 := i_neg c24 h23
              refine e_k 2 (f' := (75, [(3, .ref (18 + 21 * (Int32.toNatClampNeg p2))), (0, .ref 0), (1, .int p2), (2, .int p3)], [.int 1, .ref (18 + 21 * (Int32.toNatClampNeg p2)), .ref 0])) rfl ?_
              refine e_sub (ls := [(2, .int p3)]) rfl ⟨rfl, trivial⟩ ?_
              subst h23
              exact Kj23
      · replace hb := i_neg c5 hb
        refine e_k 1 (f' := (43, [(3, .ref (18 + 21 * (Int32.toNatClampNeg p2))), (0, .ref 0), (1, .int p2), (2, .int p3)], [.ref (18 + 21 * (Int32.toNatClampNeg p2))])) rfl ?_
        refine r_getr rfl (x_ltp (vp_lt o3) (by decide)) (sS_p0 (vp_lt o3)) rfl ?_
        obtain ⟨v26, I26, J26, h26, hb⟩ := oc_call hb
        refine r_cv (z := m_Stock_inputsLeft) (As := []) (rest := []) rfl rfl rfl rfl rfl (x_ltp (vp_lt o3) (by decide)) (sS_p11 (vp_lt o3)) rfl (E_Stock_inputsLeft (vp_lt o3) h26 ⟨_, rfl, ?_⟩)
        obtain ⟨rfl, rfl, rfl⟩ := s_inj hb
        exact e_r rfl rfl K
    · replace hb := i_neg c4 hb
      refine e_k 1 (f' := (29, [(3, .ref (18 + 21 * (Int32.toNatClampNeg p2))), (0, .ref 0), (1, .int p2), (2, .int p3)], [.ref (18 + 21 * (Int32.toNatClampNeg p2))])) rfl ?_
      refine r_getr rfl (x_ltp (vp_lt o3) (by decide)) (sS_p0 (vp_lt o3)) rfl ?_
      obtain ⟨v27, I27, J27, h27, hb⟩ := oc_call hb
      refine r_cv (z := m_Stock_masksLeft) (As := []) (rest := []) rfl rfl rfl rfl rfl (x_ltp (vp_lt o3) (by decide)) (sS_p11 (vp_lt o3)) rfl (E_Stock_masksLeft (vp_lt o3) h27 ⟨_, rfl, ?_⟩)
      obtain ⟨rfl, rfl, rfl⟩ := s_inj hb
      exact e_r rfl rfl K
  · replace hb := i_neg c2 hb
    refine e_k 1 (f' := (12, [(0, .ref 0), (1, .int p2), (2, .int p3)], [.int (-1)])) rfl ?_
    obtain ⟨rfl, rfl, rfl⟩ := s_inj hb
    exact e_r rfl rfl K
theorem E_Sh_bound {p2 : Int32} {p3 : Int32} {p4 : Int32} {X : MX} {I : MI} {J : MJ} {v : (Int32 ⊕ Nat)} {I' : MI} {J' : MJ} (hb : f_Sh_bound p2 p3 p4 I J = some (v, I', J')) (K1 : ∀ u, v = .inl u → P (.inl (some (.int u))) (hX X I' J')) (K2 : ∀ x, v = .inr x → P (.inr x) (am_thr (hX X I' J'))) : am_E (gG L xs) (d + 5) m_Sh_bound (0, lv_args 0 [.ref 0, .int p2, .int p3, .int p4], []) (hX X I J) P := by
  unfold f_Sh_bound at hb
  refine e_k 1 (f' := (1, [(0, .ref 0), (1, .int p2), (2, .int p3), (3, .int p4)], [.ref 0])) rfl ?_
  refine r_getr rfl (x_ltn rfl) rfl rfl ?_
  refine r_geti rfl (x_ltn rfl) rfl rfl ?_
  refine e_k 1 (f' := (if (I 14 9) = 0 then 32 else 10, [(0, .ref 0), (1, .int p2), (2, .int p3), (3, .int p4)], [])) rfl ?_
  refine e_if (fun c1 => ?_) (fun c1 => ?_)
  · replace hb := i_pos c1 hb
    obtain ⟨rfl, rfl, rfl⟩ := s_inj hb
    exact e_thr rfl (Nat.ble_eq_true_of_le (by omega)) (K2 _ rfl)
  · replace hb := i_neg c1 hb
    refine e_k 1 (f' := (11, [(0, .ref 0), (1, .int p2), (2, .int p3), (3, .int p4)], [.ref 0])) rfl ?_
    refine r_getr rfl (x_ltn rfl) rfl rfl ?_
    refine e_k 1 (f' := (15, [(0, .ref 0), (1, .int p2), (2, .int p3), (3, .int p4)], [.int p2, .ref 14])) rfl ?_
    obtain ⟨v2, I2, J2, h2, hb⟩ := oc_call hb
    refine r_cv (z := m_Hall_has) (As := [.int p2]) (rest := []) rfl rfl rfl rfl rfl (x_ltn rfl) rfl rfl (E_Hall_has  h2 ⟨_, rfl, ?_⟩)
    refine e_k 1 (f' := (if v2 = 0 then 32 else 21, [(0, .ref 0), (1, .int p2), (2, .int p3), (3, .int p4)], [])) rfl ?_
    refine e_if (fun c3 => ?_) (fun c3 => ?_)
    · replace hb := i_pos c3 hb
      obtain ⟨rfl, rfl, rfl⟩ := s_inj hb
      exact e_thr rfl (Nat.ble_eq_true_of_le (by omega)) (K2 _ rfl)
    · replace hb := i_neg c3 hb
      refine e_k 1 (f' := (22, [(0, .ref 0), (1, .int p2), (2, .int p3), (3, .int p4)], [.ref 0])) rfl ?_
      refine r_getr rfl (x_ltn rfl) rfl rfl ?_
      refine e_k 1 (f' := (26, [(0, .ref 0), (1, .int p2), (2, .int p3), (3, .int p4)], [.int p3, .ref 14])) rfl ?_
      obtain ⟨v4, I4, J4, h4, hb⟩ := oc_call hb
      refine r_cv (z := m_Hall_has) (As := [.int p3]) (rest := []) rfl rfl rfl rfl rfl (x_ltn rfl) rfl rfl (E_Hall_has  h4 ⟨_, rfl, ?_⟩)
      refine e_k 1 (f' := (if ¬ v4 = 0 then 42 else 32, [(0, .ref 0), (1, .int p2), (2, .int p3), (3, .int p4)], [])) rfl ?_
      refine e_if (fun c5 => ?_) (fun c5 => ?_)
      · replace hb := i_pos c5 hb
        refine e_k 1 (f' := (43, [(0, .ref 0), (1, .int p2), (2, .int p3), (3, .int p4)], [.ref 0])) rfl ?_
        refine r_getr rfl (x_ltn rfl) rfl rfl ?_
        refine r_getr rfl (x_ltn rfl) rfl rfl ?_
        refine e_k 1 (f' := (50, [(0, .ref 0), (1, .int p2), (2, .int p3), (3, .int p4)], [.int p2, .ref 17])) rfl ?_
        obtain ⟨o6, hb⟩ := ob_in hb
        refine r_pald rfl o6 ?_
        refine r_getr rfl (x_ltp (vp_lt o6) (by decide)) (sS_p0 (vp_lt o6)) rfl ?_
        refine r_geti rfl (x_ltp (vp_lt o6) (by decide)) (sS_p7 (vp_lt o6)) rfl ?_
        refine e_k 1 (f' := (if (I4 (25 + 21 * (Int32.toNatClampNeg p2)) 8) = 0 then 70 else 60, [(0, .ref 0), (1, .int p2), (2, .int p3), (3, .int p4)], [])) rfl ?_
        refine e_if (fun c7 => ?_) (fun c7 => ?_)
        · replace hb := i_pos c7 hb
          obtain ⟨rfl, rfl, rfl⟩ := s_inj hb
          exact e_thr rfl (Nat.ble_eq_true_of_le (by omega)) (K2 _ rfl)
        · replace hb := i_neg c7 hb
          refine e_k 2 (f' := (if p4 < 0 then 70 else 64, [(0, .ref 0), (1, .int p2), (2, .int p3), (3, .int p4)], [])) rfl ?_
          refine e_if (fun c8 => ?_) (fun c8 => ?_)
          · replace hb := i_pos c8 hb
            obtain ⟨rfl, rfl, rfl⟩ := s_inj hb
            exact e_thr rfl (Nat.ble_eq_true_of_le (by omega)) (K2 _ rfl)
          · replace hb := i_neg c8 hb
            refine e_k 3 (f' := (if p4 < 32 then 81 else 70, [(0, .ref 0), (1, .int p2), (2, .int p3), (3, .int p4)], [])) rfl ?_
            refine e_if (fun c9 => ?_) (fun c9 => ?_)
            · replace hb := i_pos c9 hb
              refine e_k 1 (f' := (82, [(0, .ref 0), (1, .int p2), (2, .int p3), (3, .int p4)], [.ref 0])) rfl ?_
              refine r_getr rfl (x_ltn rfl) rfl rfl ?_
              refine e_k 1 (f' := (86, [(0, .ref 0), (1, .int p2), (2, .int p3), (3, .int p4)], [.ref 0, .ref 14])) rfl ?_
              refine r_getr rfl (x_ltn rfl) rfl rfl ?_
              refine r_getr rfl (x_ltn rfl) rfl rfl ?_
              refine e_k 1 (f' := (93, [(0, .ref 0), (1, .int p2), (2, .int p3), (3, .int p4)], [.int p2, .ref 17, .ref 14])) rfl ?_
              obtain ⟨o10, hb⟩ := ob_in hb
              refine r_pald rfl o10 ?_
              refine e_k 2 (f' := (96, [(0, .ref 0), (1, .int p2), (2, .int p3), (3, .int p4)], [.int p4, .int p3, .ref (18 + 21 * (Int32.toNatClampNeg p2)), .ref 14])) rfl ?_
              obtain ⟨v11, I11, J11, h11, hb⟩ := oc_call hb
              refine r_cv (z := m_Hall_bondByte) (As := [.ref (18 + 21 * (Int32.toNatClampNeg p2)), .int p3, .int p4]) (rest := []) rfl rfl rfl rfl rfl (x_ltn rfl) rfl rfl (E_Hall_bondByte (vp_lt o10) h11 ⟨_, rfl, ?_⟩)
              obtain ⟨rfl, rfl, rfl⟩ := s_inj hb
              exact e_r rfl rfl (K1 _ rfl)
            · replace hb := i_neg c9 hb
              obtain ⟨rfl, rfl, rfl⟩ := s_inj hb
              exact e_thr rfl (Nat.ble_eq_true_of_le (by omega)) (K2 _ rfl)
      · replace hb := i_neg c5 hb
        obtain ⟨rfl, rfl, rfl⟩ := s_inj hb
        exact e_thr rfl (Nat.ble_eq_true_of_le (by omega)) (K2 _ rfl)
theorem E_Sh_total {p2 : Int32} {X : MX} {I : MI} {J : MJ} {v : Int32} {I' : MI} {J' : MJ} (hb : f_Sh_total p2 I J = some (v, I', J')) (K : P (.inl (some (.int v))) (hX X I' J')) : am_E (gG L xs) (d + 2) m_Sh_total (0, lv_args 0 [.ref 0, .int p2], []) (hX X I J) P := by
  unfold f_Sh_total at hb
  refine e_k 2 (f' := (am_sw p2 106 [(0, 44), (1, 52), (2, 61), (3, 69), (4, 80), (5, 89), (6, 97)], [(0, .ref 0), (1, .int p2)], [])) rfl ?_
  by_cases c1 : p2 = 0
  · rw [show am_sw p2 106 [(0, 44), (1, 52), (2, 61), (3, 69), (4, 80), (5, 89), (6, 97)] = 44 from by rw [c1]; rfl]
    replace hb := i_pos c1 hb
    refine e_k 1 (f' := (45, [(0, .ref 0), (1, .int p2)], [.ref 0])) rfl ?_
    refine r_getr rfl (x_ltn rfl) rfl rfl ?_
    refine r_geti rfl (x_ltn rfl) rfl rfl ?_
    obtain ⟨rfl, rfl, rfl⟩ := s_inj hb
    exact e_r rfl rfl K
  replace hb := i_neg c1 hb
  by_cases c2 : p2 = 1
  · rw [show am_sw p2 106 [(0, 44), (1, 52), (2, 61), (3, 69), (4, 80), (5, 89), (6, 97)] = 52 from by rw [c2]; rfl]
    replace hb := i_pos c2 hb
    refine e_k 1 (f' := (53, [(0, .ref 0), (1, .int p2)], [.ref 0])) rfl ?_
    refine r_getr rfl (x_ltn rfl) rfl rfl ?_
    refine e_k 1 (f' := (57, [(0, .ref 0), (1, .int p2)], [.int 0, .ref 14])) rfl ?_
    obtain ⟨v3, I3, J3, h3, hb⟩ := oc_call hb
    refine r_cv (z := m_Hall_mostLeft) (As := [.int 0]) (rest := []) rfl rfl rfl rfl rfl (x_ltn rfl) rfl rfl (E_Hall_mostLeft  h3 ⟨_, rfl, ?_⟩)
    obtain ⟨rfl, rfl, rfl⟩ := s_inj hb
    exact e_r rfl rfl K
  replace hb := i_neg c2 hb
  by_cases c4 : p2 = 2
  · rw [show am_sw p2 106 [(0, 44), (1, 52), (2, 61), (3, 69), (4, 80), (5, 89), (6, 97)] = 61 from by rw [c4]; rfl]
    replace hb := i_pos c4 hb
    refine e_k 1 (f' := (62, [(0, .ref 0), (1, .int p2)], [.ref 0])) rfl ?_
    refine r_getr rfl (x_ltn rfl) rfl rfl ?_
    refine r_geti rfl (x_ltn rfl) rfl rfl ?_
    obtain ⟨rfl, rfl, rfl⟩ := s_inj hb
    exact e_r rfl rfl K
  replace hb := i_neg c4 hb
  by_cases c5 : p2 = 3
  · rw [show am_sw p2 106 [(0, 44), (1, 52), (2, 61), (3, 69), (4, 80), (5, 89), (6, 97)] = 69 from by rw [c5]; rfl]
    replace hb := i_pos c5 hb
    refine e_k 1 (f' := (70, [(0, .ref 0), (1, .int p2)], [.ref 0])) rfl ?_
    refine r_getr rfl (x_ltn rfl) rfl rfl ?_
    refine r_getr rfl (x_ltn rfl) rfl rfl ?_
    refine r_geti rfl (x_ltn rfl) rfl rfl ?_
    obtain ⟨rfl, rfl, rfl⟩ := s_inj hb
    exact e_r rfl rfl K
  replace hb := i_neg c5 hb
  by_cases c6 : p2 = 4
  · rw [show am_sw p2 106 [(0, 44), (1, 52), (2, 61), (3, 69), (4, 80), (5, 89), (6, 97)] = 80 from by rw [c6]; rfl]
    replace hb := i_pos c6 hb
    refine e_k 1 (f' := (81, [(0, .ref 0), (1, .int p2)], [.ref 0])) rfl ?_
    refine r_getr rfl (x_ltn rfl) rfl rfl ?_
    refine e_k 1 (f' := (85, [(0, .ref 0), (1, .int p2)], [.int 1, .ref 14])) rfl ?_
    obtain ⟨v7, I7, J7, h7, hb⟩ := oc_call hb
    refine r_cv (z := m_Hall_mostLeft) (As := [.int 1]) (rest := []) rfl rfl rfl rfl rfl (x_ltn rfl) rfl rfl (E_Hall_mostLeft  h7 ⟨_, rfl, ?_⟩)
    obtain ⟨rfl, rfl, rfl⟩ := s_inj hb
    exact e_r rfl rfl K
  replace hb := i_neg c6 hb
  by_cases c8 : p2 = 5
  · rw [show am_sw p2 106 [(0, 44), (1, 52), (2, 61), (3, 69), (4, 80), (5, 89), (6, 97)] = 89 from by rw [c8]; rfl]
    replace hb := i_pos c8 hb
    refine e_k 1 (f' := (90, [(0, .ref 0), (1, .int p2)], [.ref 0])) rfl ?_
    refine r_getr rfl (x_ltn rfl) rfl rfl ?_
    refine r_geti rfl (x_ltn rfl) rfl rfl ?_
    obtain ⟨rfl, rfl, rfl⟩ := s_inj hb
    exact e_r rfl rfl K
  replace hb := i_neg c8 hb
  by_cases c9 : p2 = 6
  · rw [show am_sw p2 106 [(0, 44), (1, 52), (2, 61), (3, 69), (4, 80), (5, 89), (6, 97)] = 97 from by rw [c9]; rfl]
    replace hb := i_pos c9 hb
    refine e_k 1 (f' := (98, [(0, .ref 0), (1, .int p2)], [.ref 0])) rfl ?_
    refine r_getr rfl (x_ltn rfl) rfl rfl ?_
    refine e_k 1 (f' := (102, [(0, .ref 0), (1, .int p2)], [.int 2, .ref 14])) rfl ?_
    obtain ⟨v10, I10, J10, h10, hb⟩ := oc_call hb
    refine r_cv (z := m_Hall_mostLeft) (As := [.int 2]) (rest := []) rfl rfl rfl rfl rfl (x_ltn rfl) rfl rfl (E_Hall_mostLeft  h10 ⟨_, rfl, ?_⟩)
    obtain ⟨rfl, rfl, rfl⟩ := s_inj hb
    exact e_r rfl rfl K
  replace hb := i_neg c9 hb
  rw [show am_sw p2 106 [(0, 44), (1, 52), (2, 61), (3, 69), (4, 80), (5, 89), (6, 97)] = 106 from (am_swd c1 (am_swd c2 (am_swd c4 (am_swd c5 (am_swd c6 (am_swd c8 (am_swd c9 rfl)))))))]
  refine e_k 1 (f' := (107, [(0, .ref 0), (1, .int p2)], [.int (-1)])) rfl ?_
  obtain ⟨rfl, rfl, rfl⟩ := s_inj hb
  exact e_r rfl rfl K
theorem E_Model_isVerified_2 {X : MX} : ∀ (fu : Nat) {l1 : Int32} {I : MI} {J : MJ} {r : (Unit)} {I' : MI} {J' : MJ}, f_Model_isVerified_2  fu l1 I J = some (r, I', J') → am_E (gG L xs) d m_Model_isVerified (22, [(0, .ref 112)], []) (hX X I' J') P → am_E (gG L xs) d m_Model_isVerified (2, [(0, .ref 112), (1, .int l1)], []) (hX X I J) P := by
  intro fu
  induction fu with
  | zero =>
    intros
    rename_i hb _
    cases hb
  | succ fu ih =>
    intro l1 I J r I' J' hb K
    unfold f_Model_isVerified_2 at hb
    refine e_k 3 (f' := (if 2000 < l1 then 22 else 9, [(0, .ref 112), (1, .int l1)], [])) rfl ?_
    refine e_if (fun c1 => ?_) (fun c1 => ?_)
    · replace hb := i_pos c1 hb
      refine e_sub (ls := [(0, .ref 112)]) rfl ⟨rfl, trivial⟩ ?_
      obtain ⟨rfl, rfl, rfl⟩ := s_inj hb
      exact K
    · replace hb := i_neg c1 hb
      refine e_k 1 (f' := (10, [(0, .ref 112), (1, .int l1)], [.ref 112])) rfl ?_
      refine r_getr rfl (x_ltn rfl) rfl rfl ?_
      refine e_k 2 (f' := (15, [(0, .ref 112), (1, .int l1)], [.int 0, .int l1, .ref 166])) rfl ?_
      obtain ⟨o2, hb⟩ := ob_in hb
      obtain ⟨I3, eI3, hb⟩ := p_nm hb
      refine r_zast' rfl (x_ltn rfl) rfl o2 eI3 ?_
      refine e_k 2 (f' := (2, [(1, .int (l1 + 1)), (0, .ref 112)], [])) rfl ?_
      refine e_sub (ls := [(0, .ref 112), (1, .int (l1 + 1))]) rfl ⟨rfl, rfl, trivial⟩ ?_
      exact ih  hb K
theorem E_Model_isVerified_31 {X : MX} : ∀ (fu : Nat) {l1 : Int32} {l2 : Int32} {I : MI} {J : MJ} {r : (Int32 ⊕ (Int32))} {I' : MI} {J' : MJ}, f_Model_isVerified_31  fu l1 l2 I J = some (r, I', J') → (∀ v, r = .inl v → P (.inl (some (.int v))) (hX X I' J')) → (∀ u, r = .inr u → am_E (gG L xs) (d + 2) m_Model_isVerified (93, [(0, .ref 112), (1, .int u)], []) (hX X I' J') P) → am_E (gG L xs) (d + 2) m_Model_isVerified (31, [(0, .ref 112), (1, .int l1), (2, .int l2)], []) (hX X I J) P := by
  intro fu
  induction fu with
  | zero =>
    intros
    rename_i hb _ _
    cases hb
  | succ fu ih =>
    intro l1 l2 I J r I' J' hb K1 K2
    unfold f_Model_isVerified_31 at hb
    refine e_k 2 (f' := (33, [(0, .ref 112), (1, .int l1), (2, .int l2)], [.ref 112, .int l2])) rfl ?_
    refine r_geti rfl (x_ltn rfl) rfl rfl ?_
    refine e_k 1 (f' := (if (I 112 12) ≤ l2 then 93 else 39, [(0, .ref 112), (1, .int l1), (2, .int l2)], [])) rfl ?_
    refine e_if (fun c6 => ?_) (fun c6 => ?_)
    · replace hb := i_pos c6 hb
      refine e_sub (ls := [(0, .ref 112), (1, .int l1)]) rfl ⟨rfl, rfl, trivial⟩ ?_
      obtain ⟨rfl, rfl, rfl⟩ := s_inj hb
      exact K2 _ rfl
    · replace hb := i_neg c6 hb
      refine e_k 2 (f' := (41, [(0, .ref 112), (1, .int l1), (2, .int l2)], [.int l2, .ref 112])) rfl ?_
      obtain ⟨v7, I7, J7, h7, hb⟩ := oc_call hb
      refine r_cv (z := m_Model_isGood) (As := [.int l2]) (rest := []) rfl rfl rfl rfl rfl (x_ltn rfl) rfl rfl (E_Model_isGood  h7 ⟨_, rfl, ?_⟩)
      refine e_k 1 (f' := (if ¬ v7 = 0 then 54 else 47, [(0, .ref 112), (1, .int l1), (2, .int l2)], [])) rfl ?_
      refine e_if (fun c8 => ?_) (fun c8 => ?_)
      · replace hb := i_pos c8 hb
        refine e_k 1 (f' := (55, [(0, .ref 112), (1, .int l1), (2, .int l2)], [.ref 112])) rfl ?_
        refine r_getr rfl (x_ltn rfl) rfl rfl ?_
        refine e_k 2 (f' := (60, [(0, .ref 112), (1, .int l1), (2, .int l2)], [.int 1, .int l2, .ref 166])) rfl ?_
        obtain ⟨o9, hb⟩ := ob_in hb
        obtain ⟨I10, eI10, hb⟩ := p_nm hb
        refine r_zast' rfl (x_ltn rfl) rfl o9 eI10 ?_
        refine e_k 2 (f' := (63, [(0, .ref 112), (1, .int l1), (2, .int l2)], [.ref 112, .ref 112])) rfl ?_
        refine r_geti rfl (x_ltn rfl) rfl rfl ?_
        refine e_k 2 (f' := (68, [(0, .ref 112), (1, .int l1), (2, .int l2)], [.int ((I10 112 82) + 1), .ref 112])) rfl ?_
        obtain ⟨I11, eI11, hb⟩ := p_nm hb
        refine r_puti' rfl (x_ltn rfl) rfl rfl eI11 ?_
        refine e_k 1 (f' := (72, [(0, .ref 112), (1, .int l1), (2, .int l2)], [.ref 112])) rfl ?_
        refine r_getr rfl (x_ltn rfl) rfl rfl ?_
        refine e_k 1 (f' := (76, [(0, .ref 112), (1, .int l1), (2, .int l2)], [.int l2, .ref 116])) rfl ?_
        obtain ⟨o12, hb⟩ := ob_in hb
        refine r_iald rfl rfl (x_ltn rfl) rfl o12 ?_
        refine e_k 1 (f' := (78, [(1, .int (I11 116 (Int32.toNatClampNeg l2))), (0, .ref 112), (2, .int l2)], [])) rfl ?_
        obtain ⟨x13, ex13, hb⟩ := p_nm hb
        rw [← ex13]
        refine e_k 2 (f' := (80, [(1, .int x13), (0, .ref 112), (2, .int l2)], [.ref 112, .int l2])) rfl ?_
        refine r_getr rfl (x_ltn rfl) rfl rfl ?_
        refine e_k 1 (f' := (84, [(1, .int x13), (0, .ref 112), (2, .int l2)], [.int l2, .ref 116, .int l2])) rfl ?_
        obtain ⟨o14, hb⟩ := ob_in hb
        refine r_iald rfl rfl (x_ltn rfl) rfl o14 ?_
        obtain ⟨v15, I15, J15, h15, hb⟩ := oc_call hb
        refine r_cs (z := m_Model_longOf) (As := [.int (I11 116 (Int32.toNatClampNeg l2))]) (rest := [.int l2]) rfl rfl rfl rfl rfl rfl (E_Model_longOf  h15 ⟨_, rfl, ?_⟩)
        refine e_k 2 (f' := (90, [(2, .int (l2 + v15)), (1, .int x13), (0, .ref 112)], [])) rfl ?_
        obtain ⟨x16, ex16, hb⟩ := p_nm hb
        rw [← ex16]
        refine e_k 1 (f' := (31, [(2, .int x16), (1, .int x13), (0, .ref 112)], [])) rfl ?_
        refine e_sub (ls := [(0, .ref 112), (1, .int x13), (2, .int x16)]) rfl ⟨rfl, rfl, rfl, trivial⟩ ?_
        exact ih  hb K1 K2
      · replace hb := i_neg c8 hb
        refine e_k 3 (f' := (50, [(0, .ref 112), (1, .int l1), (2, .int l2)], [.int l2, .int 1, .ref 112])) rfl ?_
        obtain ⟨v17, I17, J17, h17, hb⟩ := oc_call hb
        refine r_cv (z := m_Model_refused) (As := [.int 1, .int l2]) (rest := []) rfl rfl rfl rfl rfl (x_ltn rfl) rfl rfl (E_Model_refused  h17 ⟨_, rfl, ?_⟩)
        obtain ⟨o18, hb⟩ := ob_if hb
        obtain ⟨rfl, rfl, rfl⟩ := s_inj hb
        exact e_r rfl (if_pos o18) (K1 _ rfl)
theorem E_Model_isVerified_109 {X : MX} : ∀ (fu : Nat) {l2 : Int32} {I : MI} {J : MJ} {r : (Unit)} {I' : MI} {J' : MJ}, f_Model_isVerified_109  fu l2 I J = some (r, I', J') → am_E (gG L xs) d m_Model_isVerified (130, [(0, .ref 112)], []) (hX X I' J') P → am_E (gG L xs) d m_Model_isVerified (109, [(0, .ref 112), (2, .int l2)], []) (hX X I J) P := by
  intro fu
  induction fu with
  | zero =>
    intros
    rename_i hb _
    cases hb
  | succ fu ih =>
    intro l2 I J r I' J' hb K
    unfold f_Model_isVerified_109 at hb
    refine e_k 2 (f' := (111, [(0, .ref 112), (2, .int l2)], [.ref 112, .int l2])) rfl ?_
    refine r_geti rfl (x_ltn rfl) rfl rfl ?_
    refine e_k 1 (f' := (if (I 112 12) ≤ l2 then 130 else 117, [(0, .ref 112), (2, .int l2)], [])) rfl ?_
    refine e_if (fun c21 => ?_) (fun c21 => ?_)
    · replace hb := i_pos c21 hb
      refine e_sub (ls := [(0, .ref 112)]) rfl ⟨rfl, trivial⟩ ?_
      obtain ⟨rfl, rfl, rfl⟩ := s_inj hb
      exact K
    · replace hb := i_neg c21 hb
      refine e_k 1 (f' := (118, [(0, .ref 112), (2, .int l2)], [.ref 112])) rfl ?_
      refine r_getr rfl (x_ltn rfl) rfl rfl ?_
      refine e_k 2 (f' := (123, [(0, .ref 112), (2, .int l2)], [.int 0, .int l2, .ref 167])) rfl ?_
      obtain ⟨o22, hb⟩ := ob_in hb
      obtain ⟨I23, eI23, hb⟩ := p_nm hb
      refine r_zast' rfl (x_ltn rfl) rfl o22 eI23 ?_
      refine e_k 2 (f' := (109, [(2, .int (l2 + 1)), (0, .ref 112)], [])) rfl ?_
      refine e_sub (ls := [(0, .ref 112), (2, .int (l2 + 1))]) rfl ⟨rfl, rfl, trivial⟩ ?_
      exact ih  hb K
theorem E_Model_isVerified_132 {X : MX} : ∀ (fu : Nat) {l2 : Int32} {I : MI} {J : MJ} {r : (Int32 ⊕ (Int32))} {I' : MI} {J' : MJ}, f_Model_isVerified_132  fu l2 I J = some (r, I', J') → (∀ v, r = .inl v → P (.inl (some (.int v))) (hX X I' J')) → (∀ u, r = .inr u → am_E (gG L xs) (d + 3) m_Model_isVerified (202, [(0, .ref 112), (2, .int u)], []) (hX X I' J') P) → am_E (gG L xs) (d + 3) m_Model_isVerified (132, [(0, .ref 112), (2, .int l2)], []) (hX X I J) P := by
  intro fu
  induction fu with
  | zero =>
    intros
    rename_i hb _ _
    cases hb
  | succ fu ih =>
    intro l2 I J r I' J' hb K1 K2
    unfold f_Model_isVerified_132 at hb
    refine e_k 2 (f' := (134, [(0, .ref 112), (2, .int l2)], [.ref 112, .int l2])) rfl ?_
    refine r_geti rfl (x_ltn rfl) rfl rfl ?_
    refine e_k 1 (f' := (if (I 112 12) ≤ l2 then 231 else 140, [(0, .ref 112), (2, .int l2)], [])) rfl ?_
    refine e_if (fun c25 => ?_) (fun c25 => ?_)
    · replace hb := i_pos c25 hb
      refine e_k 1 (f' := (232, [(0, .ref 112), (2, .int l2)], [.ref 112])) rfl ?_
      obtain ⟨v26, I26, J26, h26, hb⟩ := oc_call hb
      refine r_cv (z := m_Model_isFlowGood) (As := []) (rest := []) rfl rfl rfl rfl rfl (x_ltn rfl) rfl rfl (E_Model_isFlowGood  h26 ⟨_, rfl, ?_⟩)
      obtain ⟨o27, hb⟩ := ob_if hb
      obtain ⟨rfl, rfl, rfl⟩ := s_inj hb
      exact e_r rfl (if_pos o27) (K1 _ rfl)
    · replace hb := i_neg c25 hb
      refine e_k 1 (f' := (141, [(0, .ref 112), (2, .int l2)], [.ref 112])) rfl ?_
      refine r_getr rfl (x_ltn rfl) rfl rfl ?_
      refine e_k 1 (f' := (145, [(0, .ref 112), (2, .int l2)], [.int l2, .ref 116])) rfl ?_
      obtain ⟨o28, hb⟩ := ob_in hb
      refine r_iald rfl rfl (x_ltn rfl) rfl o28 ?_
      refine e_k 2 (f' := (if (I 116 (Int32.toNatClampNeg l2)) = 17 then 176 else 151, [(0, .ref 112), (2, .int l2)], [])) rfl ?_
      refine e_if (fun c29 => ?_) (fun c29 => ?_)
      · replace hb := i_pos c29 hb
        refine e_k 1 (f' := (177, [(0, .ref 112), (2, .int l2)], [.ref 112])) rfl ?_
        refine r_getr rfl (x_ltn rfl) rfl rfl ?_
        refine e_k 1 (f' := (181, [(0, .ref 112), (2, .int l2)], [.int l2, .ref 116])) rfl ?_
        obtain ⟨v30, I30, J30, h30, hb⟩ := oc_call hb
        refine r_cs (z := m_Model_goalOf) (As := [.ref 116, .int l2]) (rest := []) rfl rfl rfl rfl rfl rfl (E_Model_goalOf ⟨(x_ltn rfl), rfl, rfl⟩ h30 ⟨_, rfl, ?_⟩)
        refine e_k 3 (f' := (187, [(3, .int v30), (0, .ref 112), (2, .int l2)], [.ref 112, .int v30])) rfl ?_
        refine r_geti rfl (x_ltn rfl) rfl rfl ?_
        refine e_k 1 (f' := (if (I30 112 12) ≤ v30 then 202 else 193, [(3, .int v30), (0, .ref 112), (2, .int l2)], [])) rfl ?_
        refine e_if (fun c31 => ?_) (fun c31 => ?_)
        · replace hb := i_pos c31 hb
          refine e_sub (ls := [(0, .ref 112), (2, .int l2)]) rfl ⟨rfl, rfl, trivial⟩ ?_
          obtain ⟨rfl, rfl, rfl⟩ := s_inj hb
          exact K2 _ rfl
        · replace hb := i_neg c31 hb
          refine e_k 1 (f' := (194, [(3, .int v30), (0, .ref 112), (2, .int l2)], [.ref 112])) rfl ?_
          refine r_getr rfl (x_ltn rfl) rfl rfl ?_
          refine e_k 1 (f' := (198, [(3, .int v30), (0, .ref 112), (2, .int l2)], [.int v30, .ref 166])) rfl ?_
          obtain ⟨o32, hb⟩ := ob_in hb
          refine r_zald rfl rfl (x_ltn rfl) rfl o32 ?_
          refine e_k 1 (f' := (if ¬ (I30 166 (Int32.toNatClampNeg v30)) = 0 then 209 else 202, [(3, .int v30), (0, .ref 112), (2, .int l2)], [])) rfl ?_
          refine e_if (fun c33 => ?_) (fun c33 => ?_)
          · replace hb := i_pos c33 hb
            refine e_k 1 (f' := (210, [(3, .int v30), (0, .ref 112), (2, .int l2)], [.ref 112])) rfl ?_
            refine r_getr rfl (x_ltn rfl) rfl rfl ?_
            refine e_k 2 (f' := (215, [(3, .int v30), (0, .ref 112), (2, .int l2)], [.int 1, .int v30, .ref 167])) rfl ?_
            obtain ⟨o34, hb⟩ := ob_in hb
            obtain ⟨I35, eI35, hb⟩ := p_nm hb
            refine r_zast' rfl (x_ltn rfl) rfl o34 eI35 ?_
            refine e_k 2 (f' := (218, [(3, .int v30), (0, .ref 112), (2, .int l2)], [.ref 112, .int l2])) rfl ?_
            refine r_getr rfl (x_ltn rfl) rfl rfl ?_
            refine e_k 1 (f' := (222, [(3, .int v30), (0, .ref 112), (2, .int l2)], [.int l2, .ref 116, .int l2])) rfl ?_
            obtain ⟨o36, hb⟩ := ob_in hb
            refine r_iald rfl rfl (x_ltn rfl) rfl o36 ?_
            obtain ⟨v37, I37, J37, h37, hb⟩ := oc_call hb
            refine r_cs (z := m_Model_longOf) (As := [.int (I35 116 (Int32.toNatClampNeg l2))]) (rest := [.int l2]) rfl rfl rfl rfl rfl rfl (E_Model_longOf  h37 ⟨_, rfl, ?_⟩)
            refine e_k 2 (f' := (228, [(2, .int (l2 + v37)), (3, .int v30), (0, .ref 112)], [])) rfl ?_
            obtain ⟨x38, ex38, hb⟩ := p_nm hb
            rw [← ex38]
            refine e_k 1 (f' := (132, [(2, .int x38), (3, .int v30), (0, .ref 112)], [])) rfl ?_
            refine e_sub (ls := [(0, .ref 112), (2, .int x38)]) rfl ⟨rfl, rfl, trivial⟩ ?_
            exact ih  hb K1 K2
          · replace hb := i_neg c33 hb
            refine e_sub (ls := [(0, .ref 112), (2, .int l2)]) rfl ⟨rfl, rfl, trivial⟩ ?_
            obtain ⟨rfl, rfl, rfl⟩ := s_inj hb
            exact K2 _ rfl
      · replace hb := i_neg c29 hb
        refine e_k 1 (f' := (152, [(0, .ref 112), (2, .int l2)], [.ref 112])) rfl ?_
        refine r_getr rfl (x_ltn rfl) rfl rfl ?_
        refine e_k 1 (f' := (156, [(0, .ref 112), (2, .int l2)], [.int l2, .ref 116])) rfl ?_
        obtain ⟨o39, hb⟩ := ob_in hb
        refine r_iald rfl rfl (x_ltn rfl) rfl o39 ?_
        refine e_k 2 (f' := (if (I 116 (Int32.toNatClampNeg l2)) = 18 then 176 else 162, [(0, .ref 112), (2, .int l2)], [])) rfl ?_
        refine e_if (fun c40 => ?_) (fun c40 => ?_)
        · replace hb := i_pos c40 hb
          refine e_k 1 (f' := (177, [(0, .ref 112), (2, .int l2)], [.ref 112])) rfl ?_
          refine r_getr rfl (x_ltn rfl) rfl rfl ?_
          refine e_k 1 (f' := (181, [(0, .ref 112), (2, .int l2)], [.int l2, .ref 116])) rfl ?_
          obtain ⟨v41, I41, J41, h41, hb⟩ := oc_call hb
          refine r_cs (z := m_Model_goalOf) (As := [.ref 116, .int l2]) (rest := []) rfl rfl rfl rfl rfl rfl (E_Model_goalOf ⟨(x_ltn rfl), rfl, rfl⟩ h41 ⟨_, rfl, ?_⟩)
          refine e_k 3 (f' := (187, [(3, .int v41), (0, .ref 112), (2, .int l2)], [.ref 112, .int v41])) rfl ?_
          refine r_geti rfl (x_ltn rfl) rfl rfl ?_
          refine e_k 1 (f' := (if (I41 112 12) ≤ v41 then 202 else 193, [(3, .int v41), (0, .ref 112), (2, .int l2)], [])) rfl ?_
          refine e_if (fun c42 => ?_) (fun c42 => ?_)
          · replace hb := i_pos c42 hb
            refine e_sub (ls := [(0, .ref 112), (2, .int l2)]) rfl ⟨rfl, rfl, trivial⟩ ?_
            obtain ⟨rfl, rfl, rfl⟩ := s_inj hb
            exact K2 _ rfl
          · replace hb := i_neg c42 hb
            refine e_k 1 (f' := (194, [(3, .int v41), (0, .ref 112), (2, .int l2)], [.ref 112])) rfl ?_
            refine r_getr rfl (x_ltn rfl) rfl rfl ?_
            refine e_k 1 (f' := (198, [(3, .int v41), (0, .ref 112), (2, .int l2)], [.int v41, .ref 166])) rfl ?_
            obtain ⟨o43, hb⟩ := ob_in hb
            refine r_zald rfl rfl (x_ltn rfl) rfl o43 ?_
            refine e_k 1 (f' := (if ¬ (I41 166 (Int32.toNatClampNeg v41)) = 0 then 209 else 202, [(3, .int v41), (0, .ref 112), (2, .int l2)], [])) rfl ?_
            refine e_if (fun c44 => ?_) (fun c44 => ?_)
            · replace hb := i_pos c44 hb
              refine e_k 1 (f' := (210, [(3, .int v41), (0, .ref 112), (2, .int l2)], [.ref 112])) rfl ?_
              refine r_getr rfl (x_ltn rfl) rfl rfl ?_
              refine e_k 2 (f' := (215, [(3, .int v41), (0, .ref 112), (2, .int l2)], [.int 1, .int v41, .ref 167])) rfl ?_
              obtain ⟨o45, hb⟩ := ob_in hb
              obtain ⟨I46, eI46, hb⟩ := p_nm hb
              refine r_zast' rfl (x_ltn rfl) rfl o45 eI46 ?_
              refine e_k 2 (f' := (218, [(3, .int v41), (0, .ref 112), (2, .int l2)], [.ref 112, .int l2])) rfl ?_
              refine r_getr rfl (x_ltn rfl) rfl rfl ?_
              refine e_k 1 (f' := (222, [(3, .int v41), (0, .ref 112), (2, .int l2)], [.int l2, .ref 116, .int l2])) rfl ?_
              obtain ⟨o47, hb⟩ := ob_in hb
              refine r_iald rfl rfl (x_ltn rfl) rfl o47 ?_
              obtain ⟨v48, I48, J48, h48, hb⟩ := oc_call hb
              refine r_cs (z := m_Model_longOf) (As := [.int (I46 116 (Int32.toNatClampNeg l2))]) (rest := [.int l2]) rfl rfl rfl rfl rfl rfl (E_Model_longOf  h48 ⟨_, rfl, ?_⟩)
              refine e_k 2 (f' := (228, [(2, .int (l2 + v48)), (3, .int v41), (0, .ref 112)], [])) rfl ?_
              obtain ⟨x49, ex49, hb⟩ := p_nm hb
              rw [← ex49]
              refine e_k 1 (f' := (132, [(2, .int x49), (3, .int v41), (0, .ref 112)], [])) rfl ?_
              refine e_sub (ls := [(0, .ref 112), (2, .int x49)]) rfl ⟨rfl, rfl, trivial⟩ ?_
              exact ih  hb K1 K2
            · replace hb := i_neg c44 hb
              refine e_sub (ls := [(0, .ref 112), (2, .int l2)]) rfl ⟨rfl, rfl, trivial⟩ ?_
              obtain ⟨rfl, rfl, rfl⟩ := s_inj hb
              exact K2 _ rfl
        · replace hb := i_neg c40 hb
          refine e_k 1 (f' := (163, [(0, .ref 112), (2, .int l2)], [.ref 112])) rfl ?_
          refine r_getr rfl (x_ltn rfl) rfl rfl ?_
          refine e_k 1 (f' := (167, [(0, .ref 112), (2, .int l2)], [.int l2, .ref 116])) rfl ?_
          obtain ⟨o50, hb⟩ := ob_in hb
          refine r_iald rfl rfl (x_ltn rfl) rfl o50 ?_
          refine e_k 2 (f' := (if (I 116 (Int32.toNatClampNeg l2)) = 28 then 176 else 173, [(0, .ref 112), (2, .int l2)], [])) rfl ?_
          refine e_if (fun c51 => ?_) (fun c51 => ?_)
          · replace hb := i_pos c51 hb
            refine e_k 1 (f' := (177, [(0, .ref 112), (2, .int l2)], [.ref 112])) rfl ?_
            refine r_getr rfl (x_ltn rfl) rfl rfl ?_
            refine e_k 1 (f' := (181, [(0, .ref 112), (2, .int l2)], [.int l2, .ref 116])) rfl ?_
            obtain ⟨v52, I52, J52, h52, hb⟩ := oc_call hb
            refine r_cs (z := m_Model_goalOf) (As := [.ref 116, .int l2]) (rest := []) rfl rfl rfl rfl rfl rfl (E_Model_goalOf ⟨(x_ltn rfl), rfl, rfl⟩ h52 ⟨_, rfl, ?_⟩)
            refine e_k 3 (f' := (187, [(3, .int v52), (0, .ref 112), (2, .int l2)], [.ref 112, .int v52])) rfl ?_
            refine r_geti rfl (x_ltn rfl) rfl rfl ?_
            refine e_k 1 (f' := (if (I52 112 12) ≤ v52 then 202 else 193, [(3, .int v52), (0, .ref 112), (2, .int l2)], [])) rfl ?_
            refine e_if (fun c53 => ?_) (fun c53 => ?_)
            · replace hb := i_pos c53 hb
              refine e_sub (ls := [(0, .ref 112), (2, .int l2)]) rfl ⟨rfl, rfl, trivial⟩ ?_
              obtain ⟨rfl, rfl, rfl⟩ := s_inj hb
              exact K2 _ rfl
            · replace hb := i_neg c53 hb
              refine e_k 1 (f' := (194, [(3, .int v52), (0, .ref 112), (2, .int l2)], [.ref 112])) rfl ?_
              refine r_getr rfl (x_ltn rfl) rfl rfl ?_
              refine e_k 1 (f' := (198, [(3, .int v52), (0, .ref 112), (2, .int l2)], [.int v52, .ref 166])) rfl ?_
              obtain ⟨o54, hb⟩ := ob_in hb
              refine r_zald rfl rfl (x_ltn rfl) rfl o54 ?_
              refine e_k 1 (f' := (if ¬ (I52 166 (Int32.toNatClampNeg v52)) = 0 then 209 else 202, [(3, .int v52), (0, .ref 112), (2, .int l2)], [])) rfl ?_
              refine e_if (fun c55 => ?_) (fun c55 => ?_)
              · replace hb := i_pos c55 hb
                refine e_k 1 (f' := (210, [(3, .int v52), (0, .ref 112), (2, .int l2)], [.ref 112])) rfl ?_
                refine r_getr rfl (x_ltn rfl) rfl rfl ?_
                refine e_k 2 (f' := (215, [(3, .int v52), (0, .ref 112), (2, .int l2)], [.int 1, .int v52, .ref 167])) rfl ?_
                obtain ⟨o56, hb⟩ := ob_in hb
                obtain ⟨I57, eI57, hb⟩ := p_nm hb
                refine r_zast' rfl (x_ltn rfl) rfl o56 eI57 ?_
                refine e_k 2 (f' := (218, [(3, .int v52), (0, .ref 112), (2, .int l2)], [.ref 112, .int l2])) rfl ?_
                refine r_getr rfl (x_ltn rfl) rfl rfl ?_
                refine e_k 1 (f' := (222, [(3, .int v52), (0, .ref 112), (2, .int l2)], [.int l2, .ref 116, .int l2])) rfl ?_
                obtain ⟨o58, hb⟩ := ob_in hb
                refine r_iald rfl rfl (x_ltn rfl) rfl o58 ?_
                obtain ⟨v59, I59, J59, h59, hb⟩ := oc_call hb
                refine r_cs (z := m_Model_longOf) (As := [.int (I57 116 (Int32.toNatClampNeg l2))]) (rest := [.int l2]) rfl rfl rfl rfl rfl rfl (E_Model_longOf  h59 ⟨_, rfl, ?_⟩)
                refine e_k 2 (f' := (228, [(2, .int (l2 + v59)), (3, .int v52), (0, .ref 112)], [])) rfl ?_
                obtain ⟨x60, ex60, hb⟩ := p_nm hb
                rw [← ex60]
                refine e_k 1 (f' := (132, [(2, .int x60), (3, .int v52), (0, .ref 112)], [])) rfl ?_
                refine e_sub (ls := [(0, .ref 112), (2, .int x60)]) rfl ⟨rfl, rfl, trivial⟩ ?_
                exact ih  hb K1 K2
              · replace hb := i_neg c55 hb
                refine e_sub (ls := [(0, .ref 112), (2, .int l2)]) rfl ⟨rfl, rfl, trivial⟩ ?_
                obtain ⟨rfl, rfl, rfl⟩ := s_inj hb
                exact K2 _ rfl
          · replace hb := i_neg c51 hb
            refine e_k 3 (f' := (218, [(0, .ref 112), (2, .int l2)], [.ref 112, .int l2])) rfl ?_
            refine r_getr rfl (x_ltn rfl) rfl rfl ?_
            refine e_k 1 (f' := (222, [(0, .ref 112), (2, .int l2)], [.int l2, .ref 116, .int l2])) rfl ?_
            obtain ⟨o61, hb⟩ := ob_in hb
            refine r_iald rfl rfl (x_ltn rfl) rfl o61 ?_
            obtain ⟨v62, I62, J62, h62, hb⟩ := oc_call hb
            refine r_cs (z := m_Model_longOf) (As := [.int (I 116 (Int32.toNatClampNeg l2))]) (rest := [.int l2]) rfl rfl rfl rfl rfl rfl (E_Model_longOf  h62 ⟨_, rfl, ?_⟩)
            refine e_k 2 (f' := (228, [(2, .int (l2 + v62)), (0, .ref 112)], [])) rfl ?_
            obtain ⟨x63, ex63, hb⟩ := p_nm hb
            rw [← ex63]
            refine e_k 1 (f' := (132, [(2, .int x63), (0, .ref 112)], [])) rfl ?_
            refine e_sub (ls := [(0, .ref 112), (2, .int x63)]) rfl ⟨rfl, rfl, trivial⟩ ?_
            exact ih  hb K1 K2
theorem E_Model_isVerified {X : MX} {I : MI} {J : MJ} {v : Int32} {I' : MI} {J' : MJ} (hb : f_Model_isVerified  I J = some (v, I', J')) (K : P (.inl (some (.int v))) (hX X I' J')) : am_E (gG L xs) (d + 3) m_Model_isVerified (0, lv_args 0 [.ref 112], []) (hX X I J) P := by
  unfold f_Model_isVerified at hb
  refine e_k 2 (f' := (2, [(1, .int 0), (0, .ref 112)], [])) rfl ?_
  refine e_sub (ls := [(0, .ref 112), (1, .int 0)]) rfl ⟨rfl, rfl, trivial⟩ ?_
  obtain ⟨u4, I4, J4, h4, hb⟩ := oc_call hb
  refine E_Model_isVerified_2  gF  h4 ?_
  refine e_k 2 (f' := (24, [(0, .ref 112)], [.int 0, .ref 112])) rfl ?_
  obtain ⟨I5, eI5, hb⟩ := p_nm hb
  refine r_puti' rfl (x_ltn rfl) rfl rfl eI5 ?_
  refine e_k 4 (f' := (31, [(2, .int 0), (1, .int (-1)), (0, .ref 112)], [])) rfl ?_
  refine e_sub (ls := [(0, .ref 112), (1, .int (-1)), (2, .int 0)]) rfl ⟨rfl, rfl, rfl, trivial⟩ ?_
  obtain ⟨q19, I19, J19, h19, hb⟩ := oc_call hb
  refine E_Model_isVerified_31  gF  h19 (fun y19 ey19 => ?_) (fun u19 ey19 => ?_)
  · subst ey19
    replace hb := oe_l hb
    obtain ⟨rfl, rfl, rfl⟩ := s_inj hb
    exact K
  · subst ey19
    replace hb := oe_r hb
    refine e_k 2 (f' := (if u19 = 0 then 107 else 97, [(0, .ref 112), (1, .int u19)], [])) rfl ?_
    refine e_if (fun c20 => ?_) (fun c20 => ?_)
    · replace hb := i_pos c20 hb
      refine e_k 2 (f' := (109, [(2, .int 0), (0, .ref 112), (1, .int u19)], [])) rfl ?_
      refine e_sub (ls := [(0, .ref 112), (2, .int 0)]) rfl ⟨rfl, rfl, trivial⟩ ?_
      obtain ⟨u24, I24, J24, h24, hb⟩ := oc_call hb
      refine E_Model_isVerified_109  gF  h24 ?_
      refine e_k 2 (f' := (132, [(2, .int 0), (0, .ref 112)], [])) rfl ?_
      refine e_sub (ls := [(0, .ref 112), (2, .int 0)]) rfl ⟨rfl, rfl, trivial⟩ ?_
      obtain ⟨q64, I64, J64, h64, hb⟩ := oc_call hb
      refine E_Model_isVerified_132  gF  h64 (fun y64 ey64 => ?_) (fun u64 ey64 => ?_)
      · subst ey64
        replace hb := oe_l hb
        obtain ⟨rfl, rfl, rfl⟩ := s_inj hb
        exact K
      · subst ey64
        replace hb := oe_r hb
        refine e_k 3 (f' := (205, [(0, .ref 112), (2, .int u64)], [.int u64, .int 2, .ref 112])) rfl ?_
        obtain ⟨v65, I65, J65, h65, hb⟩ := oc_call hb
        refine r_cv (z := m_Model_refused) (As := [.int 2, .int u64]) (rest := []) rfl rfl rfl rfl rfl (x_ltn rfl) rfl rfl (E_Model_refused  h65 ⟨_, rfl, ?_⟩)
        obtain ⟨o66, hb⟩ := ob_if hb
        obtain ⟨rfl, rfl, rfl⟩ := s_inj hb
        exact e_r rfl (if_pos o66) K
    · replace hb := i_neg c20 hb
      refine e_k 3 (f' := (100, [(0, .ref 112), (1, .int u19)], [.ref 112, .int 1, .ref 112])) rfl ?_
      refine r_geti rfl (x_ltn rfl) rfl rfl ?_
      obtain ⟨v67, I67, J67, h67, hb⟩ := oc_call hb
      refine r_cv (z := m_Model_refused) (As := [.int 1, .int (I19 112 12)]) (rest := []) rfl rfl rfl rfl rfl (x_ltn rfl) rfl rfl (E_Model_refused  h67 ⟨_, rfl, ?_⟩)
      obtain ⟨o68, hb⟩ := ob_if hb
      obtain ⟨rfl, rfl, rfl⟩ := s_inj hb
      exact e_r rfl (if_pos o68) K
theorem E_Model_load {X : MX} {I : MI} {J : MJ} {v : Int32} {I' : MI} {J' : MJ} (hb : f_Model_load  I J = some (v, I', J')) (K : P (.inl (some (.int v))) (hX X I' J')) : am_E (gG L xs) (d + 4) m_Model_load (0, lv_args 0 [.ref 112], []) (hX X I J) P := by
  unfold f_Model_load at hb
  refine e_k 2 (f' := (2, [(0, .ref 112)], [.int 0, .ref 112])) rfl ?_
  obtain ⟨I1, eI1, hb⟩ := p_nm hb
  refine r_puti' rfl (x_ltn rfl) rfl rfl eI1 ?_
  refine e_k 2 (f' := (7, [(0, .ref 112)], [.int 0, .ref 112])) rfl ?_
  obtain ⟨I2, eI2, hb⟩ := p_nm hb
  refine r_puti' rfl (x_ltn rfl) rfl rfl eI2 ?_
  refine e_k 1 (f' := (11, [(0, .ref 112)], [.ref 112])) rfl ?_
  obtain ⟨v3, I3, J3, h3, hb⟩ := oc_call hb
  refine r_cv (z := m_Model_isVerified) (As := []) (rest := []) rfl rfl rfl rfl rfl (x_ltn rfl) rfl rfl (E_Model_isVerified  h3 ⟨_, rfl, ?_⟩)
  refine e_k 2 (f' := (16, [(1, .int v3), (0, .ref 112)], [.ref 112])) rfl ?_
  refine r_geti rfl (x_ltn rfl) rfl rfl ?_
  refine e_k 1 (f' := (20, [(2, .int (I3 112 12)), (1, .int v3), (0, .ref 112)], [])) rfl ?_
  obtain ⟨x4, ex4, hb⟩ := p_nm hb
  rw [← ex4]
  refine e_k 2 (f' := (22, [(2, .int x4), (1, .int v3), (0, .ref 112)], [.int 0, .ref 112])) rfl ?_
  obtain ⟨I5, eI5, hb⟩ := p_nm hb
  refine r_puti' rfl (x_ltn rfl) rfl rfl eI5 ?_
  refine e_k 2 (f' := (if ¬ v3 = 0 then 35 else 29, [(2, .int x4), (1, .int v3), (0, .ref 112)], [])) rfl ?_
  refine e_if (fun c6 => ?_) (fun c6 => ?_)
  · replace hb := i_pos c6 hb
    refine e_k 2 (f' := (37, [(2, .int x4), (1, .int v3), (0, .ref 112)], [.int 0, .ref 112])) rfl ?_
    obtain ⟨I7, eI7, hb⟩ := p_nm hb
    refine r_puti' rfl (x_ltn rfl) rfl rfl eI7 ?_
    refine e_k 2 (f' := (42, [(2, .int x4), (1, .int v3), (0, .ref 112)], [.ref 112, .ref 112])) rfl ?_
    refine r_getr rfl (x_ltn rfl) rfl rfl ?_
    refine e_k 1 (f' := (46, [(2, .int x4), (1, .int v3), (0, .ref 112)], [.int x4, .ref 116, .ref 112])) rfl ?_
    obtain ⟨v8, I8, J8, h8, hb⟩ := oc_call hb
    refine r_cv (z := m_Model_take) (As := [.ref 116, .int x4]) (rest := []) rfl rfl rfl rfl rfl (x_ltn rfl) rfl rfl (E_Model_take ⟨(x_ltn rfl), rfl, rfl⟩ h8 ⟨_, rfl, ?_⟩)
    refine e_k 1 (f' := (50, [(2, .int x4), (1, .int v3), (0, .ref 112)], [.ref 112])) rfl ?_
    refine r_geti rfl (x_ltn rfl) rfl rfl ?_
    obtain ⟨rfl, rfl, rfl⟩ := s_inj hb
    exact e_r rfl rfl K
  · replace hb := i_neg c6 hb
    refine e_k 2 (f' := (31, [(2, .int x4), (1, .int v3), (0, .ref 112)], [.int 1, .ref 112])) rfl ?_
    obtain ⟨v9, I9, J9, h9, hb⟩ := oc_call hb
    refine r_cv (z := m_Model_raise) (As := [.int 1]) (rest := []) rfl rfl rfl rfl rfl (x_ltn rfl) rfl rfl (E_Model_raise  h9 ⟨_, rfl, ?_⟩)
    obtain ⟨rfl, rfl, rfl⟩ := s_inj hb
    exact e_r rfl rfl K
theorem E_Model_act {p2 : Int32} {X : MX} {I : MI} {J : MJ} {v : Int32} {I' : MI} {J' : MJ} (hb : f_Model_act p2 I J = some (v, I', J')) (K : P (.inl (some (.int v))) (hX X I' J')) : am_E (gG L xs) (d + 6) m_Model_act (0, lv_args 0 [.ref 112, .int p2], []) (hX X I J) P := by
  unfold f_Model_act at hb
  refine e_k 1 (f' := (1, [(0, .ref 112), (1, .int p2)], [.ref 112])) rfl ?_
  refine r_getr rfl (x_ltn rfl) rfl rfl ?_
  refine e_k 1 (f' := (5, [(0, .ref 112), (1, .int p2)], [.int p2, .ref 127])) rfl ?_
  obtain ⟨o1, hb⟩ := ob_in hb
  refine r_iald rfl rfl (x_ltn rfl) rfl o1 ?_
  refine e_k 1 (f' := (7, [(2, .int (I 127 (Int32.toNatClampNeg p2))), (0, .ref 112), (1, .int p2)], [])) rfl ?_
  obtain ⟨x2, ex2, hb⟩ := p_nm hb
  rw [← ex2]
  refine e_k 1 (f' := (8, [(2, .int x2), (0, .ref 112), (1, .int p2)], [.ref 112])) rfl ?_
  refine r_getr rfl (x_ltn rfl) rfl rfl ?_
  refine e_k 1 (f' := (12, [(2, .int x2), (0, .ref 112), (1, .int p2)], [.int x2, .ref 114])) rfl ?_
  obtain ⟨o3, hb⟩ := ob_in hb
  refine r_iald rfl rfl (x_ltn rfl) rfl o3 ?_
  refine e_k 1 (f' := (14, [(3, .int (I 114 (Int32.toNatClampNeg x2))), (2, .int x2), (0, .ref 112), (1, .int p2)], [])) rfl ?_
  obtain ⟨x4, ex4, hb⟩ := p_nm hb
  rw [← ex4]
  refine e_k 4 (f' := (21, [(4, .int (154 * p2)), (3, .int x4), (2, .int x2), (0, .ref 112), (1, .int p2)], [])) rfl ?_
  obtain ⟨x5, ex5, hb⟩ := p_nm hb
  rw [← ex5]
  refine e_k 2 (f' := (am_sw x4 678 [(4, 140), (5, 140), (6, 140), (7, 199), (8, 206), (9, 223), (10, 199), (11, 245), (12, 245), (13, 289), (14, 317), (15, 348), (16, 366), (17, 387), (18, 429), (19, 572), (20, 572), (21, 623), (22, 623), (23, 678), (24, 678), (25, 678), (26, 678), (27, 445), (28, 493), (29, 538)], [(4, .int x5), (3, .int x4), (2, .int x2), (0, .ref 112), (1, .int p2)], [])) rfl ?_
  by_cases c6 : x4 = 4 ∨ x4 = 5 ∨ x4 = 6
  · rw [show am_sw x4 678 [(4, 140), (5, 140), (6, 140), (7, 199), (8, 206), (9, 223), (10, 199), (11, 245), (12, 245), (13, 289), (14, 317), (15, 348), (16, 366), (17, 387), (18, 429), (19, 572), (20, 572), (21, 623), (22, 623), (23, 678), (24, 678), (25, 678), (26, 678), (27, 445), (28, 493), (29, 538)] = 140 from by rcases c6 with c6 | c6 | c6 <;> rw [c6] <;> rfl]
    replace hb := i_pos c6 hb
    refine e_k 2 (f' := (142, [(4, .int x5), (3, .int x4), (2, .int x2), (0, .ref 112), (1, .int p2)], [.int p2, .ref 112])) rfl ?_
    obtain ⟨v7, I7, J7, h7, hb⟩ := oc_call hb
    refine r_cv (z := m_Model_pop) (As := [.int p2]) (rest := []) rfl rfl rfl rfl rfl (x_ltn rfl) rfl rfl (E_Model_pop  h7 ⟨_, rfl, ?_⟩)
    refine e_k 3 (f' := (149, [(5, .long v7), (4, .int x5), (3, .int x4), (2, .int x2), (0, .ref 112), (1, .int p2)], [.int p2, .ref 112])) rfl ?_
    obtain ⟨v8, I8, J8, h8, hb⟩ := oc_call hb
    refine r_cv (z := m_Model_pop) (As := [.int p2]) (rest := []) rfl rfl rfl rfl rfl (x_ltn rfl) rfl rfl (E_Model_pop  h8 ⟨_, rfl, ?_⟩)
    refine e_k 6 (f' := (if ¬ x4 = 4 then 171 else 161, [(7, .long v8), (5, .long v7), (4, .int x5), (3, .int x4), (2, .int x2), (0, .ref 112), (1, .int p2)], [.int p2, .ref 112])) rfl ?_
    obtain ⟨v12, I12, J12, h12, hb⟩ := oc_call hb
    have Kj12 : am_E (gG L xs) (d + 6) m_Model_act (193, [(0, .ref 112), (1, .int p2)], [.long v12, .int p2, .ref 112]) (hX X I12 J12) P := by
      obtain ⟨v18, I18, J18, h18, hb⟩ := oc_call hb
      refine r_cv (z := m_Model_push) (As := [.int p2, .long v12]) (rest := []) rfl rfl rfl rfl rfl (x_ltn rfl) rfl rfl (E_Model_push  h18 ⟨_, rfl, ?_⟩)
      refine e_k 3 (f' := (687, [(0, .ref 112), (1, .int p2)], [.int p2, .ref 112])) rfl ?_
      obtain ⟨v19, I19, J19, h19, hb⟩ := oc_call hb
      refine r_cv (z := m_Model_next) (As := [.int p2]) (rest := []) rfl rfl rfl rfl rfl (x_ltn rfl) rfl rfl (E_Model_next  h19 ⟨_, rfl, ?_⟩)
      refine e_k 1 (f' := (691, [(0, .ref 112), (1, .int p2)], [.int 1])) rfl ?_
      obtain ⟨rfl, rfl, rfl⟩ := s_inj hb
      exact e_r rfl rfl K
    clear hb
    refine e_if (fun c13 => ?_) (fun c13 => ?_)
    · replace h12 := i_pos c13 h12
      refine e_k 3 (f' := (if ¬ x4 = 5 then 186 else 176, [(7, .long v8), (5, .long v7), (4, .int x5), (3, .int x4), (2, .int x2), (0, .ref 112), (1, .int p2)], [.int p2, .ref 112])) rfl ?_
      refine e_if (fun c14 => ?_) (fun c14 => ?_)
      · replace h12 := i_pos c14 h12
        refine e_k 2 (f' := (190, [(7, .long v8), (5, .long v7), (4, .int x5), (3, .int x4), (2, .int x2), (0, .ref 112), (1, .int p2)], [.long v7, .long v8, .int p2, .ref 112])) rfl ?_
        obtain ⟨v15, I15, J15, h15, h12⟩ := oc_call h12
        refine r_cs (z := m_Model_times) (As := [.long v8, .long v7]) (rest := [.int p2, .ref 112]) rfl rfl rfl rfl rfl rfl (E_Model_times  h15 ⟨_, rfl, ?_⟩)
        refine e_sub (ls := [(0, .ref 112), (1, .int p2)]) rfl ⟨rfl, rfl, trivial⟩ ?_
        obtain ⟨rfl, rfl, rfl⟩ := s_inj h12
        exact Kj12
      · replace h12 := i_neg c14 h12
        refine e_k 2 (f' := (180, [(7, .long v8), (5, .long v7), (4, .int x5), (3, .int x4), (2, .int x2), (0, .ref 112), (1, .int p2)], [.long v7, .long v8, .int p2, .ref 112])) rfl ?_
        obtain ⟨v16, I16, J16, h16, h12⟩ := oc_call h12
        refine r_cs (z := m_Model_minus) (As := [.long v8, .long v7]) (rest := [.int p2, .ref 112]) rfl rfl rfl rfl rfl rfl (E_Model_minus  h16 ⟨_, rfl, ?_⟩)
        refine e_k 1 (f' := (193, [(7, .long v8), (5, .long v7), (4, .int x5), (3, .int x4), (2, .int x2), (0, .ref 112), (1, .int p2)], [.long v16, .int p2, .ref 112])) rfl ?_
        refine e_sub (ls := [(0, .ref 112), (1, .int p2)]) rfl ⟨rfl, rfl, trivial⟩ ?_
        obtain ⟨rfl, rfl, rfl⟩ := s_inj h12
        exact Kj12
    · replace h12 := i_neg c13 h12
      refine e_k 2 (f' := (165, [(7, .long v8), (5, .long v7), (4, .int x5), (3, .int x4), (2, .int x2), (0, .ref 112), (1, .int p2)], [.long v7, .long v8, .int p2, .ref 112])) rfl ?_
      obtain ⟨v17, I17, J17, h17, h12⟩ := oc_call h12
      refine r_cs (z := m_Model_plus) (As := [.long v8, .long v7]) (rest := [.int p2, .ref 112]) rfl rfl rfl rfl rfl rfl (E_Model_plus  h17 ⟨_, rfl, ?_⟩)
      refine e_k 1 (f' := (193, [(7, .long v8), (5, .long v7), (4, .int x5), (3, .int x4), (2, .int x2), (0, .ref 112), (1, .int p2)], [.long v17, .int p2, .ref 112])) rfl ?_
      refine e_sub (ls := [(0, .ref 112), (1, .int p2)]) rfl ⟨rfl, rfl, trivial⟩ ?_
      obtain ⟨rfl, rfl, rfl⟩ := s_inj h12
      exact Kj12
  replace hb := i_neg c6 hb
  by_cases c20 : x4 = 7 ∨ x4 = 10
  · rw [show am_sw x4 678 [(4, 140), (5, 140), (6, 140), (7, 199), (8, 206), (9, 223), (10, 199), (11, 245), (12, 245), (13, 289), (14, 317), (15, 348), (16, 366), (17, 387), (18, 429), (19, 572), (20, 572), (21, 623), (22, 623), (23, 678), (24, 678), (25, 678), (26, 678), (27, 445), (28, 493), (29, 538)] = 199 from by rcases c20 with c20 | c20 <;> rw [c20] <;> rfl]
    replace hb := i_pos c20 hb
    refine e_k 3 (f' := (202, [(4, .int x5), (3, .int x4), (2, .int x2), (0, .ref 112), (1, .int p2)], [.int x4, .int p2, .ref 112])) rfl ?_
    obtain ⟨v21, I21, J21, h21, hb⟩ := oc_call hb
    refine r_cv (z := m_Model_joint) (As := [.int p2, .int x4]) (rest := []) rfl rfl rfl rfl rfl (x_ltn rfl) rfl rfl (E_Model_joint  h21 ⟨_, rfl, ?_⟩)
    obtain ⟨o22, hb⟩ := ob_if hb
    obtain ⟨rfl, rfl, rfl⟩ := s_inj hb
    exact e_r rfl (if_pos o22) K
  replace hb := i_neg c20 hb
  by_cases c23 : x4 = 8
  · rw [show am_sw x4 678 [(4, 140), (5, 140), (6, 140), (7, 199), (8, 206), (9, 223), (10, 199), (11, 245), (12, 245), (13, 289), (14, 317), (15, 348), (16, 366), (17, 387), (18, 429), (19, 572), (20, 572), (21, 623), (22, 623), (23, 678), (24, 678), (25, 678), (26, 678), (27, 445), (28, 493), (29, 538)] = 206 from by rw [c23]; rfl]
    replace hb := i_pos c23 hb
    refine e_k 5 (f' := (211, [(4, .int x5), (3, .int x4), (2, .int x2), (0, .ref 112), (1, .int p2)], [.int p2, .ref 112, .long 0, .int p2, .ref 112])) rfl ?_
    obtain ⟨v24, I24, J24, h24, hb⟩ := oc_call hb
    refine r_cv (z := m_Model_pop) (As := [.int p2]) (rest := [.long 0, .int p2, .ref 112]) rfl rfl rfl rfl rfl (x_ltn rfl) rfl rfl (E_Model_pop  h24 ⟨_, rfl, ?_⟩)
    obtain ⟨v25, I25, J25, h25, hb⟩ := oc_call hb
    refine r_cs (z := m_Model_minus) (As := [.long 0, .long v24]) (rest := [.int p2, .ref 112]) rfl rfl rfl rfl rfl rfl (E_Model_minus  h25 ⟨_, rfl, ?_⟩)
    obtain ⟨v26, I26, J26, h26, hb⟩ := oc_call hb
    refine r_cv (z := m_Model_push) (As := [.int p2, .long v25]) (rest := []) rfl rfl rfl rfl rfl (x_ltn rfl) rfl rfl (E_Model_push  h26 ⟨_, rfl, ?_⟩)
    refine e_k 3 (f' := (687, [(4, .int x5), (3, .int x4), (2, .int x2), (0, .ref 112), (1, .int p2)], [.int p2, .ref 112])) rfl ?_
    obtain ⟨v27, I27, J27, h27, hb⟩ := oc_call hb
    refine r_cv (z := m_Model_next) (As := [.int p2]) (rest := []) rfl rfl rfl rfl rfl (x_ltn rfl) rfl rfl (E_Model_next  h27 ⟨_, rfl, ?_⟩)
    refine e_k 1 (f' := (691, [(4, .int x5), (3, .int x4), (2, .int x2), (0, .ref 112), (1, .int p2)], [.int 1])) rfl ?_
    obtain ⟨rfl, rfl, rfl⟩ := s_inj hb
    exact e_r rfl rfl K
  replace hb := i_neg c23 hb
  by_cases c28 : x4 = 9
  · rw [show am_sw x4 678 [(4, 140), (5, 140), (6, 140), (7, 199), (8, 206), (9, 223), (10, 199), (11, 245), (12, 245), (13, 289), (14, 317), (15, 348), (16, 366), (17, 387), (18, 429), (19, 572), (20, 572), (21, 623), (22, 623), (23, 678), (24, 678), (25, 678), (26, 678), (27, 445), (28, 493), (29, 538)] = 223 from by rw [c28]; rfl]
    replace hb := i_pos c28 hb
    refine e_k 2 (f' := (225, [(4, .int x5), (3, .int x4), (2, .int x2), (0, .ref 112), (1, .int p2)], [.int p2, .ref 112])) rfl ?_
    obtain ⟨v29, I29, J29, h29, hb⟩ := oc_call hb
    refine r_cv (z := m_Model_pop) (As := [.int p2]) (rest := []) rfl rfl rfl rfl rfl (x_ltn rfl) rfl rfl (E_Model_pop  h29 ⟨_, rfl, ?_⟩)
    refine e_k 5 (f' := (236, [(9, .long v29), (4, .int x5), (3, .int x4), (2, .int x2), (0, .ref 112), (1, .int p2)], [.long v29, .long v29, .int p2, .ref 112])) rfl ?_
    obtain ⟨v30, I30, J30, h30, hb⟩ := oc_call hb
    refine r_cs (z := m_Model_times) (As := [.long v29, .long v29]) (rest := [.int p2, .ref 112]) rfl rfl rfl rfl rfl rfl (E_Model_times  h30 ⟨_, rfl, ?_⟩)
    obtain ⟨v31, I31, J31, h31, hb⟩ := oc_call hb
    refine r_cv (z := m_Model_push) (As := [.int p2, .long v30]) (rest := []) rfl rfl rfl rfl rfl (x_ltn rfl) rfl rfl (E_Model_push  h31 ⟨_, rfl, ?_⟩)
    refine e_k 3 (f' := (687, [(9, .long v29), (4, .int x5), (3, .int x4), (2, .int x2), (0, .ref 112), (1, .int p2)], [.int p2, .ref 112])) rfl ?_
    obtain ⟨v32, I32, J32, h32, hb⟩ := oc_call hb
    refine r_cv (z := m_Model_next) (As := [.int p2]) (rest := []) rfl rfl rfl rfl rfl (x_ltn rfl) rfl rfl (E_Model_next  h32 ⟨_, rfl, ?_⟩)
    refine e_k 1 (f' := (691, [(9, .long v29), (4, .int x5), (3, .int x4), (2, .int x2), (0, .ref 112), (1, .int p2)], [.int 1])) rfl ?_
    obtain ⟨rfl, rfl, rfl⟩ := s_inj hb
    exact e_r rfl rfl K
  replace hb := i_neg c28 hb
  by_cases c33 : x4 = 11 ∨ x4 = 12
  · rw [show am_sw x4 678 [(4, 140), (5, 140), (6, 140), (7, 199), (8, 206), (9, 223), (10, 199), (11, 245), (12, 245), (13, 289), (14, 317), (15, 348), (16, 366), (17, 387), (18, 429), (19, 572), (20, 572), (21, 623), (22, 623), (23, 678), (24, 678), (25, 678), (26, 678), (27, 445), (28, 493), (29, 538)] = 245 from by rcases c33 with c33 | c33 <;> rw [c33] <;> rfl]
    replace hb := i_pos c33 hb
    refine e_k 1 (f' := (246, [(4, .int x5), (3, .int x4), (2, .int x2), (0, .ref 112), (1, .int p2)], [.ref 112])) rfl ?_
    refine r_getr rfl (x_ltn rfl) rfl rfl ?_
    refine e_k 4 (f' := (if ¬ x4 = 11 then 268 else 257, [(4, .int x5), (3, .int x4), (2, .int x2), (0, .ref 112), (1, .int p2)], [.int x5, .ref 143])) rfl ?_
    obtain ⟨v36, I36, J36, h36, hb⟩ := oc_call hb
    have Kj36 : am_E (gG L xs) (d + 6) m_Model_act (279, [(0, .ref 112), (1, .int p2)], [.int v36, .int x5, .ref 143]) (hX X I36 J36) P := by
      refine e_k 3 (f' := (282, [(0, .ref 112), (1, .int p2)], [.int p2, .ref 112, .int (x5 + v36), .ref 143])) rfl ?_
      obtain ⟨v40, I40, J40, h40, hb⟩ := oc_call hb
      refine r_cv (z := m_Model_pop) (As := [.int p2]) (rest := [.int (x5 + v36), .ref 143]) rfl rfl rfl rfl rfl (x_ltn rfl) rfl rfl (E_Model_pop  h40 ⟨_, rfl, ?_⟩)
      obtain ⟨o41, hb⟩ := ob_in hb
      obtain ⟨J42, eJ42, hb⟩ := p_nm hb
      refine r_last' rfl (x_ltn rfl) rfl o41 eJ42 ?_
      refine e_k 3 (f' := (687, [(0, .ref 112), (1, .int p2)], [.int p2, .ref 112])) rfl ?_
      obtain ⟨v43, I43, J43, h43, hb⟩ := oc_call hb
      refine r_cv (z := m_Model_next) (As := [.int p2]) (rest := []) rfl rfl rfl rfl rfl (x_ltn rfl) rfl rfl (E_Model_next  h43 ⟨_, rfl, ?_⟩)
      refine e_k 1 (f' := (691, [(0, .ref 112), (1, .int p2)], [.int 1])) rfl ?_
      obtain ⟨rfl, rfl, rfl⟩ := s_inj hb
      exact e_r rfl rfl K
    clear hb
    refine e_if (fun c37 => ?_) (fun c37 => ?_)
    · replace h36 := i_pos c37 h36
      refine e_k 2 (f' := (271, [(4, .int x5), (3, .int x4), (2, .int x2), (0, .ref 112), (1, .int p2)], [.ref 112, .int 13, .int x5, .ref 143])) rfl ?_
      refine r_getr rfl (x_ltn rfl) rfl rfl ?_
      refine e_k 3 (f' := (277, [(4, .int x5), (3, .int x4), (2, .int x2), (0, .ref 112), (1, .int p2)], [.int (x2 + 1), .ref 114, .int 13, .int x5, .ref 143])) rfl ?_
      obtain ⟨o38, h36⟩ := ob_in h36
      refine r_iald rfl rfl (x_ltn rfl) rfl o38 ?_
      refine e_k 1 (f' := (279, [(4, .int x5), (3, .int x4), (2, .int x2), (0, .ref 112), (1, .int p2)], [.int (13 + (I 114 (Int32.toNatClampNeg (x2 + 1)))), .int x5, .ref 143])) rfl ?_
      refine e_sub (ls := [(0, .ref 112), (1, .int p2)]) rfl ⟨rfl, rfl, trivial⟩ ?_
      obtain ⟨rfl, rfl, rfl⟩ := s_inj h36
      exact Kj36
    · replace h36 := i_neg c37 h36
      refine e_k 1 (f' := (258, [(4, .int x5), (3, .int x4), (2, .int x2), (0, .ref 112), (1, .int p2)], [.ref 112, .int x5, .ref 143])) rfl ?_
      refine r_getr rfl (x_ltn rfl) rfl rfl ?_
      refine e_k 3 (f' := (264, [(4, .int x5), (3, .int x4), (2, .int x2), (0, .ref 112), (1, .int p2)], [.int (x2 + 1), .ref 114, .int x5, .ref 143])) rfl ?_
      obtain ⟨o39, h36⟩ := ob_in h36
      refine r_iald rfl rfl (x_ltn rfl) rfl o39 ?_
      refine e_k 1 (f' := (279, [(4, .int x5), (3, .int x4), (2, .int x2), (0, .ref 112), (1, .int p2)], [.int (I 114 (Int32.toNatClampNeg (x2 + 1))), .int x5, .ref 143])) rfl ?_
      refine e_sub (ls := [(0, .ref 112), (1, .int p2)]) rfl ⟨rfl, rfl, trivial⟩ ?_
      obtain ⟨rfl, rfl, rfl⟩ := s_inj h36
      exact Kj36
  replace hb := i_neg c33 hb
  by_cases c44 : x4 = 13
  · rw [show am_sw x4 678 [(4, 140), (5, 140), (6, 140), (7, 199), (8, 206), (9, 223), (10, 199), (11, 245), (12, 245), (13, 289), (14, 317), (15, 348), (16, 366), (17, 387), (18, 429), (19, 572), (20, 572), (21, 623), (22, 623), (23, 678), (24, 678), (25, 678), (26, 678), (27, 445), (28, 493), (29, 538)] = 289 from by rw [c44]; rfl]
    replace hb := i_pos c44 hb
    refine e_k 6 (f' := (297, [(4, .int x5), (3, .int x4), (2, .int x2), (0, .ref 112), (1, .int p2)], [.ref 112, .int (x5 + 13), .int p2, .ref 112])) rfl ?_
    refine r_getr rfl (x_ltn rfl) rfl rfl ?_
    refine e_k 3 (f' := (303, [(4, .int x5), (3, .int x4), (2, .int x2), (0, .ref 112), (1, .int p2)], [.int (x2 + 1), .ref 114, .int (x5 + 13), .int p2, .ref 112])) rfl ?_
    obtain ⟨o45, hb⟩ := ob_in hb
    refine r_iald rfl rfl (x_ltn rfl) rfl o45 ?_
    refine e_k 2 (f' := (306, [(4, .int x5), (3, .int x4), (2, .int x2), (0, .ref 112), (1, .int p2)], [.ref 112, .int ((x5 + 13) + (I 114 (Int32.toNatClampNeg (x2 + 1)))), .int p2, .ref 112])) rfl ?_
    refine r_getr rfl (x_ltn rfl) rfl rfl ?_
    refine e_k 3 (f' := (312, [(4, .int x5), (3, .int x4), (2, .int x2), (0, .ref 112), (1, .int p2)], [.int (x2 + 2), .ref 114, .int ((x5 + 13) + (I 114 (Int32.toNatClampNeg (x2 + 1)))), .int p2, .ref 112])) rfl ?_
    obtain ⟨o46, hb⟩ := ob_in hb
    refine r_iald rfl rfl (x_ltn rfl) rfl o46 ?_
    obtain ⟨v47, I47, J47, h47, hb⟩ := oc_call hb
    refine r_cv (z := m_Model_input) (As := [.int p2, .int ((x5 + 13) + (I 114 (Int32.toNatClampNeg (x2 + 1)))), .int (I 114 (Int32.toNatClampNeg (x2 + 2)))]) (rest := []) rfl rfl rfl rfl rfl (x_ltn rfl) rfl rfl (E_Model_input  h47 ⟨_, rfl, ?_⟩)
    obtain ⟨o48, hb⟩ := ob_if hb
    obtain ⟨rfl, rfl, rfl⟩ := s_inj hb
    exact e_r rfl (if_pos o48) K
  replace hb := i_neg c44 hb
  by_cases c49 : x4 = 14
  · rw [show am_sw x4 678 [(4, 140), (5, 140), (6, 140), (7, 199), (8, 206), (9, 223), (10, 199), (11, 245), (12, 245), (13, 289), (14, 317), (15, 348), (16, 366), (17, 387), (18, 429), (19, 572), (20, 572), (21, 623), (22, 623), (23, 678), (24, 678), (25, 678), (26, 678), (27, 445), (28, 493), (29, 538)] = 317 from by rw [c49]; rfl]
    replace hb := i_pos c49 hb
    refine e_k 4 (f' := (322, [(4, .int x5), (3, .int x4), (2, .int x2), (0, .ref 112), (1, .int p2)], [.ref 112, .int x5, .int p2, .ref 112])) rfl ?_
    refine r_getr rfl (x_ltn rfl) rfl rfl ?_
    refine e_k 3 (f' := (328, [(4, .int x5), (3, .int x4), (2, .int x2), (0, .ref 112), (1, .int p2)], [.int (x2 + 1), .ref 114, .int x5, .int p2, .ref 112])) rfl ?_
    obtain ⟨o50, hb⟩ := ob_in hb
    refine r_iald rfl rfl (x_ltn rfl) rfl o50 ?_
    refine e_k 5 (f' := (336, [(4, .int x5), (3, .int x4), (2, .int x2), (0, .ref 112), (1, .int p2)], [.ref 112, .int (x5 + 13), .int (x5 + (I 114 (Int32.toNatClampNeg (x2 + 1)))), .int p2, .ref 112])) rfl ?_
    refine r_getr rfl (x_ltn rfl) rfl rfl ?_
    refine e_k 3 (f' := (342, [(4, .int x5), (3, .int x4), (2, .int x2), (0, .ref 112), (1, .int p2)], [.int (x2 + 2), .ref 114, .int (x5 + 13), .int (x5 + (I 114 (Int32.toNatClampNeg (x2 + 1)))), .int p2, .ref 112])) rfl ?_
    obtain ⟨o51, hb⟩ := ob_in hb
    refine r_iald rfl rfl (x_ltn rfl) rfl o51 ?_
    refine e_k 1 (f' := (344, [(4, .int x5), (3, .int x4), (2, .int x2), (0, .ref 112), (1, .int p2)], [.int ((x5 + 13) + (I 114 (Int32.toNatClampNeg (x2 + 2)))), .int (x5 + (I 114 (Int32.toNatClampNeg (x2 + 1)))), .int p2, .ref 112])) rfl ?_
    obtain ⟨v52, I52, J52, h52, hb⟩ := oc_call hb
    refine r_cv (z := m_Model_open) (As := [.int p2, .int (x5 + (I 114 (Int32.toNatClampNeg (x2 + 1)))), .int ((x5 + 13) + (I 114 (Int32.toNatClampNeg (x2 + 2))))]) (rest := []) rfl rfl rfl rfl rfl (x_ltn rfl) rfl rfl (E_Model_open  h52 ⟨_, rfl, ?_⟩)
    obtain ⟨o53, hb⟩ := ob_if hb
    obtain ⟨rfl, rfl, rfl⟩ := s_inj hb
    exact e_r rfl (if_pos o53) K
  replace hb := i_neg c49 hb
  by_cases c54 : x4 = 15
  · rw [show am_sw x4 678 [(4, 140), (5, 140), (6, 140), (7, 199), (8, 206), (9, 223), (10, 199), (11, 245), (12, 245), (13, 289), (14, 317), (15, 348), (16, 366), (17, 387), (18, 429), (19, 572), (20, 572), (21, 623), (22, 623), (23, 678), (24, 678), (25, 678), (26, 678), (27, 445), (28, 493), (29, 538)] = 348 from by rw [c54]; rfl]
    replace hb := i_pos c54 hb
    refine e_k 5 (f' := (354, [(4, .int x5), (3, .int x4), (2, .int x2), (0, .ref 112), (1, .int p2)], [.ref 112, .int x5, .int 0, .int p2, .ref 112])) rfl ?_
    refine r_getr rfl (x_ltn rfl) rfl rfl ?_
    refine e_k 3 (f' := (360, [(4, .int x5), (3, .int x4), (2, .int x2), (0, .ref 112), (1, .int p2)], [.int (x2 + 1), .ref 114, .int x5, .int 0, .int p2, .ref 112])) rfl ?_
    obtain ⟨o55, hb⟩ := ob_in hb
    refine r_iald rfl rfl (x_ltn rfl) rfl o55 ?_
    refine e_k 1 (f' := (362, [(4, .int x5), (3, .int x4), (2, .int x2), (0, .ref 112), (1, .int p2)], [.int (x5 + (I 114 (Int32.toNatClampNeg (x2 + 1)))), .int 0, .int p2, .ref 112])) rfl ?_
    obtain ⟨v56, I56, J56, h56, hb⟩ := oc_call hb
    refine r_cv (z := m_Model_out) (As := [.int p2, .int 0, .int (x5 + (I 114 (Int32.toNatClampNeg (x2 + 1))))]) (rest := []) rfl rfl rfl rfl rfl (x_ltn rfl) rfl rfl (E_Model_out  h56 ⟨_, rfl, ?_⟩)
    obtain ⟨o57, hb⟩ := ob_if hb
    obtain ⟨rfl, rfl, rfl⟩ := s_inj hb
    exact e_r rfl (if_pos o57) K
  replace hb := i_neg c54 hb
  by_cases c58 : x4 = 16
  · rw [show am_sw x4 678 [(4, 140), (5, 140), (6, 140), (7, 199), (8, 206), (9, 223), (10, 199), (11, 245), (12, 245), (13, 289), (14, 317), (15, 348), (16, 366), (17, 387), (18, 429), (19, 572), (20, 572), (21, 623), (22, 623), (23, 678), (24, 678), (25, 678), (26, 678), (27, 445), (28, 493), (29, 538)] = 366 from by rw [c58]; rfl]
    replace hb := i_pos c58 hb
    refine e_k 7 (f' := (375, [(4, .int x5), (3, .int x4), (2, .int x2), (0, .ref 112), (1, .int p2)], [.ref 112, .int (x5 + 13), .int 1, .int p2, .ref 112])) rfl ?_
    refine r_getr rfl (x_ltn rfl) rfl rfl ?_
    refine e_k 3 (f' := (381, [(4, .int x5), (3, .int x4), (2, .int x2), (0, .ref 112), (1, .int p2)], [.int (x2 + 1), .ref 114, .int (x5 + 13), .int 1, .int p2, .ref 112])) rfl ?_
    obtain ⟨o59, hb⟩ := ob_in hb
    refine r_iald rfl rfl (x_ltn rfl) rfl o59 ?_
    refine e_k 1 (f' := (383, [(4, .int x5), (3, .int x4), (2, .int x2), (0, .ref 112), (1, .int p2)], [.int ((x5 + 13) + (I 114 (Int32.toNatClampNeg (x2 + 1)))), .int 1, .int p2, .ref 112])) rfl ?_
    obtain ⟨v60, I60, J60, h60, hb⟩ := oc_call hb
    refine r_cv (z := m_Model_out) (As := [.int p2, .int 1, .int ((x5 + 13) + (I 114 (Int32.toNatClampNeg (x2 + 1))))]) (rest := []) rfl rfl rfl rfl rfl (x_ltn rfl) rfl rfl (E_Model_out  h60 ⟨_, rfl, ?_⟩)
    obtain ⟨o61, hb⟩ := ob_if hb
    obtain ⟨rfl, rfl, rfl⟩ := s_inj hb
    exact e_r rfl (if_pos o61) K
  replace hb := i_neg c58 hb
  by_cases c62 : x4 = 17
  · rw [show am_sw x4 678 [(4, 140), (5, 140), (6, 140), (7, 199), (8, 206), (9, 223), (10, 199), (11, 245), (12, 245), (13, 289), (14, 317), (15, 348), (16, 366), (17, 387), (18, 429), (19, 572), (20, 572), (21, 623), (22, 623), (23, 678), (24, 678), (25, 678), (26, 678), (27, 445), (28, 493), (29, 538)] = 387 from by rw [c62]; rfl]
    replace hb := i_pos c62 hb
    refine e_k 2 (f' := (389, [(4, .int x5), (3, .int x4), (2, .int x2), (0, .ref 112), (1, .int p2)], [.int p2, .ref 112])) rfl ?_
    obtain ⟨v63, I63, J63, h63, hb⟩ := oc_call hb
    refine r_cv (z := m_Model_next) (As := [.int p2]) (rest := []) rfl rfl rfl rfl rfl (x_ltn rfl) rfl rfl (E_Model_next  h63 ⟨_, rfl, ?_⟩)
    refine e_k 1 (f' := (393, [(4, .int x5), (3, .int x4), (2, .int x2), (0, .ref 112), (1, .int p2)], [.ref 112])) rfl ?_
    refine r_getr rfl (x_ltn rfl) rfl rfl ?_
    refine e_k 2 (f' := (399, [(4, .int x5), (3, .int x4), (2, .int x2), (0, .ref 112), (1, .int p2)], [.ref 112, .int x5, .ref 143])) rfl ?_
    refine r_getr rfl (x_ltn rfl) rfl rfl ?_
    refine e_k 3 (f' := (405, [(4, .int x5), (3, .int x4), (2, .int x2), (0, .ref 112), (1, .int p2)], [.int (x2 + 1), .ref 114, .int x5, .ref 143])) rfl ?_
    obtain ⟨o64, hb⟩ := ob_in hb
    refine r_iald rfl rfl (x_ltn rfl) rfl o64 ?_
    refine e_k 1 (f' := (407, [(4, .int x5), (3, .int x4), (2, .int x2), (0, .ref 112), (1, .int p2)], [.int (x5 + (I63 114 (Int32.toNatClampNeg (x2 + 1)))), .ref 143])) rfl ?_
    obtain ⟨o65, hb⟩ := ob_in hb
    refine r_lald rfl rfl (x_ltn rfl) rfl o65 ?_
    refine e_k 3 (f' := (if ¬ (lg_cmp (J63 143 (Int32.toNatClampNeg (x5 + (I63 114 (Int32.toNatClampNeg (x2 + 1)))))) 0) = 0 then 427 else 413, [(4, .int x5), (3, .int x4), (2, .int x2), (0, .ref 112), (1, .int p2)], [])) rfl ?_
    refine e_if (fun c66 => ?_) (fun c66 => ?_)
    · replace hb := i_pos c66 hb
      refine e_k 1 (f' := (428, [(4, .int x5), (3, .int x4), (2, .int x2), (0, .ref 112), (1, .int p2)], [.int 1])) rfl ?_
      obtain ⟨rfl, rfl, rfl⟩ := s_inj hb
      exact e_r rfl rfl K
    · replace hb := i_neg c66 hb
      refine e_k 1 (f' := (414, [(4, .int x5), (3, .int x4), (2, .int x2), (0, .ref 112), (1, .int p2)], [.ref 112])) rfl ?_
      refine r_getr rfl (x_ltn rfl) rfl rfl ?_
      refine e_k 2 (f' := (419, [(4, .int x5), (3, .int x4), (2, .int x2), (0, .ref 112), (1, .int p2)], [.ref 112, .int p2, .ref 127])) rfl ?_
      refine r_getr rfl (x_ltn rfl) rfl rfl ?_
      refine e_k 1 (f' := (423, [(4, .int x5), (3, .int x4), (2, .int x2), (0, .ref 112), (1, .int p2)], [.int x2, .ref 114, .int p2, .ref 127])) rfl ?_
      obtain ⟨v67, I67, J67, h67, hb⟩ := oc_call hb
      refine r_cs (z := m_Model_goalOf) (As := [.ref 114, .int x2]) (rest := [.int p2, .ref 127]) rfl rfl rfl rfl rfl rfl (E_Model_goalOf ⟨(x_ltn rfl), rfl, rfl⟩ h67 ⟨_, rfl, ?_⟩)
      obtain ⟨o68, hb⟩ := ob_in hb
      obtain ⟨I69, eI69, hb⟩ := p_nm hb
      refine r_iast' rfl (x_ltn rfl) rfl o68 eI69 ?_
      refine e_k 1 (f' := (428, [(4, .int x5), (3, .int x4), (2, .int x2), (0, .ref 112), (1, .int p2)], [.int 1])) rfl ?_
      obtain ⟨rfl, rfl, rfl⟩ := s_inj hb
      exact e_r rfl rfl K
  replace hb := i_neg c62 hb
  by_cases c70 : x4 = 18
  · rw [show am_sw x4 678 [(4, 140), (5, 140), (6, 140), (7, 199), (8, 206), (9, 223), (10, 199), (11, 245), (12, 245), (13, 289), (14, 317), (15, 348), (16, 366), (17, 387), (18, 429), (19, 572), (20, 572), (21, 623), (22, 623), (23, 678), (24, 678), (25, 678), (26, 678), (27, 445), (28, 493), (29, 538)] = 429 from by rw [c70]; rfl]
    replace hb := i_pos c70 hb
    refine e_k 1 (f' := (430, [(4, .int x5), (3, .int x4), (2, .int x2), (0, .ref 112), (1, .int p2)], [.ref 112])) rfl ?_
    refine r_getr rfl (x_ltn rfl) rfl rfl ?_
    refine e_k 2 (f' := (435, [(4, .int x5), (3, .int x4), (2, .int x2), (0, .ref 112), (1, .int p2)], [.ref 112, .int p2, .ref 127])) rfl ?_
    refine r_getr rfl (x_ltn rfl) rfl rfl ?_
    refine e_k 1 (f' := (439, [(4, .int x5), (3, .int x4), (2, .int x2), (0, .ref 112), (1, .int p2)], [.int x2, .ref 114, .int p2, .ref 127])) rfl ?_
    obtain ⟨v71, I71, J71, h71, hb⟩ := oc_call hb
    refine r_cs (z := m_Model_goalOf) (As := [.ref 114, .int x2]) (rest := [.int p2, .ref 127]) rfl rfl rfl rfl rfl rfl (E_Model_goalOf ⟨(x_ltn rfl), rfl, rfl⟩ h71 ⟨_, rfl, ?_⟩)
    obtain ⟨o72, hb⟩ := ob_in hb
    obtain ⟨I73, eI73, hb⟩ := p_nm hb
    refine r_iast' rfl (x_ltn rfl) rfl o72 eI73 ?_
    refine e_k 1 (f' := (444, [(4, .int x5), (3, .int x4), (2, .int x2), (0, .ref 112), (1, .int p2)], [.int 1])) rfl ?_
    obtain ⟨rfl, rfl, rfl⟩ := s_inj hb
    exact e_r rfl rfl K
  replace hb := i_neg c70 hb
  by_cases c74 : x4 = 19 ∨ x4 = 20
  · rw [show am_sw x4 678 [(4, 140), (5, 140), (6, 140), (7, 199), (8, 206), (9, 223), (10, 199), (11, 245), (12, 245), (13, 289), (14, 317), (15, 348), (16, 366), (17, 387), (18, 429), (19, 572), (20, 572), (21, 623), (22, 623), (23, 678), (24, 678), (25, 678), (26, 678), (27, 445), (28, 493), (29, 538)] = 572 from by rcases c74 with c74 | c74 <;> rw [c74] <;> rfl]
    replace hb := i_pos c74 hb
    refine e_k 3 (f' := (575, [(4, .int x5), (3, .int x4), (2, .int x2), (0, .ref 112), (1, .int p2)], [.ref 112, .int p2, .ref 112])) rfl ?_
    refine r_getr rfl (x_ltn rfl) rfl rfl ?_
    refine e_k 4 (f' := (if ¬ x4 = 19 then 596 else 585, [(4, .int x5), (3, .int x4), (2, .int x2), (0, .ref 112), (1, .int p2)], [.int p2, .ref 143, .int p2, .ref 112])) rfl ?_
    obtain ⟨v77, I77, J77, h77, hb⟩ := oc_call hb
    have Kj77 : am_E (gG L xs) (d + 6) m_Model_act (606, [(0, .ref 112), (1, .int p2)], [.int v77, .int p2, .ref 143, .int p2, .ref 112]) (hX X I77 J77) P := by
      obtain ⟨v81, I81, J81, h81, hb⟩ := oc_call hb
      refine r_cs (z := m_Model_row) (As := [.int p2, .int v77]) (rest := [.ref 143, .int p2, .ref 112]) rfl rfl rfl rfl rfl rfl (E_Model_row  h81 ⟨_, rfl, ?_⟩)
      refine e_k 2 (f' := (611, [(0, .ref 112), (1, .int p2)], [.int p2, .ref 112, .int v81, .ref 143, .int p2, .ref 112])) rfl ?_
      obtain ⟨v82, I82, J82, h82, hb⟩ := oc_call hb
      refine r_cv (z := m_Model_pop) (As := [.int p2]) (rest := [.int v81, .ref 143, .int p2, .ref 112]) rfl rfl rfl rfl rfl (x_ltn rfl) rfl rfl (E_Model_pop  h82 ⟨_, rfl, ?_⟩)
      refine e_k 2 (f' := (616, [(0, .ref 112), (1, .int p2)], [.int (v81 + (Int64.toInt32 v82)), .ref 143, .int p2, .ref 112])) rfl ?_
      obtain ⟨o83, hb⟩ := ob_in hb
      refine r_lald rfl rfl (x_ltn rfl) rfl o83 ?_
      obtain ⟨v84, I84, J84, h84, hb⟩ := oc_call hb
      refine r_cv (z := m_Model_push) (As := [.int p2, .long (J82 143 (Int32.toNatClampNeg (v81 + (Int64.toInt32 v82))))]) (rest := []) rfl rfl rfl rfl rfl (x_ltn rfl) rfl rfl (E_Model_push  h84 ⟨_, rfl, ?_⟩)
      refine e_k 3 (f' := (687, [(0, .ref 112), (1, .int p2)], [.int p2, .ref 112])) rfl ?_
      obtain ⟨v85, I85, J85, h85, hb⟩ := oc_call hb
      refine r_cv (z := m_Model_next) (As := [.int p2]) (rest := []) rfl rfl rfl rfl rfl (x_ltn rfl) rfl rfl (E_Model_next  h85 ⟨_, rfl, ?_⟩)
      refine e_k 1 (f' := (691, [(0, .ref 112), (1, .int p2)], [.int 1])) rfl ?_
      obtain ⟨rfl, rfl, rfl⟩ := s_inj hb
      exact e_r rfl rfl K
    clear hb
    refine e_if (fun c78 => ?_) (fun c78 => ?_)
    · replace h77 := i_pos c78 h77
      refine e_k 2 (f' := (598, [(4, .int x5), (3, .int x4), (2, .int x2), (0, .ref 112), (1, .int p2)], [.ref 112, .int 4, .int p2, .ref 143, .int p2, .ref 112])) rfl ?_
      refine r_getr rfl (x_ltn rfl) rfl rfl ?_
      refine e_k 3 (f' := (604, [(4, .int x5), (3, .int x4), (2, .int x2), (0, .ref 112), (1, .int p2)], [.int (x2 + 1), .ref 114, .int 4, .int p2, .ref 143, .int p2, .ref 112])) rfl ?_
      obtain ⟨o79, h77⟩ := ob_in h77
      refine r_iald rfl rfl (x_ltn rfl) rfl o79 ?_
      refine e_k 1 (f' := (606, [(4, .int x5), (3, .int x4), (2, .int x2), (0, .ref 112), (1, .int p2)], [.int (4 + (I 114 (Int32.toNatClampNeg (x2 + 1)))), .int p2, .ref 143, .int p2, .ref 112])) rfl ?_
      refine e_sub (ls := [(0, .ref 112), (1, .int p2)]) rfl ⟨rfl, rfl, trivial⟩ ?_
      obtain ⟨rfl, rfl, rfl⟩ := s_inj h77
      exact Kj77
    · replace h77 := i_neg c78 h77
      refine e_k 1 (f' := (586, [(4, .int x5), (3, .int x4), (2, .int x2), (0, .ref 112), (1, .int p2)], [.ref 112, .int p2, .ref 143, .int p2, .ref 112])) rfl ?_
      refine r_getr rfl (x_ltn rfl) rfl rfl ?_
      refine e_k 3 (f' := (592, [(4, .int x5), (3, .int x4), (2, .int x2), (0, .ref 112), (1, .int p2)], [.int (x2 + 1), .ref 114, .int p2, .ref 143, .int p2, .ref 112])) rfl ?_
      obtain ⟨o80, h77⟩ := ob_in h77
      refine r_iald rfl rfl (x_ltn rfl) rfl o80 ?_
      refine e_k 1 (f' := (606, [(4, .int x5), (3, .int x4), (2, .int x2), (0, .ref 112), (1, .int p2)], [.int (I 114 (Int32.toNatClampNeg (x2 + 1))), .int p2, .ref 143, .int p2, .ref 112])) rfl ?_
      refine e_sub (ls := [(0, .ref 112), (1, .int p2)]) rfl ⟨rfl, rfl, trivial⟩ ?_
      obtain ⟨rfl, rfl, rfl⟩ := s_inj h77
      exact Kj77
  replace hb := i_neg c74 hb
  by_cases c86 : x4 = 21 ∨ x4 = 22
  · rw [show am_sw x4 678 [(4, 140), (5, 140), (6, 140), (7, 199), (8, 206), (9, 223), (10, 199), (11, 245), (12, 245), (13, 289), (14, 317), (15, 348), (16, 366), (17, 387), (18, 429), (19, 572), (20, 572), (21, 623), (22, 623), (23, 678), (24, 678), (25, 678), (26, 678), (27, 445), (28, 493), (29, 538)] = 623 from by rcases c86 with c86 | c86 <;> rw [c86] <;> rfl]
    replace hb := i_pos c86 hb
    refine e_k 2 (f' := (625, [(4, .int x5), (3, .int x4), (2, .int x2), (0, .ref 112), (1, .int p2)], [.int p2, .ref 112])) rfl ?_
    obtain ⟨v87, I87, J87, h87, hb⟩ := oc_call hb
    refine r_cv (z := m_Model_pop) (As := [.int p2]) (rest := []) rfl rfl rfl rfl rfl (x_ltn rfl) rfl rfl (E_Model_pop  h87 ⟨_, rfl, ?_⟩)
    refine e_k 2 (f' := (631, [(11, .long v87), (4, .int x5), (3, .int x4), (2, .int x2), (0, .ref 112), (1, .int p2)], [.ref 112])) rfl ?_
    refine r_getr rfl (x_ltn rfl) rfl rfl ?_
    refine e_k 4 (f' := (if ¬ x4 = 21 then 652 else 641, [(11, .long v87), (4, .int x5), (3, .int x4), (2, .int x2), (0, .ref 112), (1, .int p2)], [.int p2, .ref 143])) rfl ?_
    obtain ⟨v90, I90, J90, h90, hb⟩ := oc_call hb
    have Kj90 : am_E (gG L xs) (d + 6) m_Model_act (662, [(0, .ref 112), (1, .int p2), (11, .long v87)], [.int v90, .int p2, .ref 143]) (hX X I90 J90) P := by
      obtain ⟨v94, I94, J94, h94, hb⟩ := oc_call hb
      refine r_cs (z := m_Model_row) (As := [.int p2, .int v90]) (rest := [.ref 143]) rfl rfl rfl rfl rfl rfl (E_Model_row  h94 ⟨_, rfl, ?_⟩)
      refine e_k 2 (f' := (667, [(0, .ref 112), (1, .int p2), (11, .long v87)], [.int p2, .ref 112, .int v94, .ref 143])) rfl ?_
      obtain ⟨v95, I95, J95, h95, hb⟩ := oc_call hb
      refine r_cv (z := m_Model_pop) (As := [.int p2]) (rest := [.int v94, .ref 143]) rfl rfl rfl rfl rfl (x_ltn rfl) rfl rfl (E_Model_pop  h95 ⟨_, rfl, ?_⟩)
      refine e_k 3 (f' := (674, [(0, .ref 112), (1, .int p2), (11, .long v87)], [.long v87, .int (v94 + (Int64.toInt32 v95)), .ref 143])) rfl ?_
      obtain ⟨o96, hb⟩ := ob_in hb
      obtain ⟨J97, eJ97, hb⟩ := p_nm hb
      refine r_last' rfl (x_ltn rfl) rfl o96 eJ97 ?_
      refine e_k 3 (f' := (687, [(0, .ref 112), (1, .int p2), (11, .long v87)], [.int p2, .ref 112])) rfl ?_
      obtain ⟨v98, I98, J98, h98, hb⟩ := oc_call hb
      refine r_cv (z := m_Model_next) (As := [.int p2]) (rest := []) rfl rfl rfl rfl rfl (x_ltn rfl) rfl rfl (E_Model_next  h98 ⟨_, rfl, ?_⟩)
      refine e_k 1 (f' := (691, [(0, .ref 112), (1, .int p2), (11, .long v87)], [.int 1])) rfl ?_
      obtain ⟨rfl, rfl, rfl⟩ := s_inj hb
      exact e_r rfl rfl K
    clear hb
    refine e_if (fun c91 => ?_) (fun c91 => ?_)
    · replace h90 := i_pos c91 h90
      refine e_k 2 (f' := (654, [(11, .long v87), (4, .int x5), (3, .int x4), (2, .int x2), (0, .ref 112), (1, .int p2)], [.ref 112, .int 4, .int p2, .ref 143])) rfl ?_
      refine r_getr rfl (x_ltn rfl) rfl rfl ?_
      refine e_k 3 (f' := (660, [(11, .long v87), (4, .int x5), (3, .int x4), (2, .int x2), (0, .ref 112), (1, .int p2)], [.int (x2 + 1), .ref 114, .int 4, .int p2, .ref 143])) rfl ?_
      obtain ⟨o92, h90⟩ := ob_in h90
      refine r_iald rfl rfl (x_ltn rfl) rfl o92 ?_
      refine e_k 1 (f' := (662, [(11, .long v87), (4, .int x5), (3, .int x4), (2, .int x2), (0, .ref 112), (1, .int p2)], [.int (4 + (I87 114 (Int32.toNatClampNeg (x2 + 1)))), .int p2, .ref 143])) rfl ?_
      refine e_sub (ls := [(0, .ref 112), (1, .int p2), (11, .long v87)]) rfl ⟨rfl, rfl, rfl, trivial⟩ ?_
      obtain ⟨rfl, rfl, rfl⟩ := s_inj h90
      exact Kj90
    · replace h90 := i_neg c91 h90
      refine e_k 1 (f' := (642, [(11, .long v87), (4, .int x5), (3, .int x4), (2, .int x2), (0, .ref 112), (1, .int p2)], [.ref 112, .int p2, .ref 143])) rfl ?_
      refine r_getr rfl (x_ltn rfl) rfl rfl ?_
      refine e_k 3 (f' := (648, [(11, .long v87), (4, .int x5), (3, .int x4), (2, .int x2), (0, .ref 112), (1, .int p2)], [.int (x2 + 1), .ref 114, .int p2, .ref 143])) rfl ?_
      obtain ⟨o93, h90⟩ := ob_in h90
      refine r_iald rfl rfl (x_ltn rfl) rfl o93 ?_
      refine e_k 1 (f' := (662, [(11, .long v87), (4, .int x5), (3, .int x4), (2, .int x2), (0, .ref 112), (1, .int p2)], [.int (I87 114 (Int32.toNatClampNeg (x2 + 1))), .int p2, .ref 143])) rfl ?_
      refine e_sub (ls := [(0, .ref 112), (1, .int p2), (11, .long v87)]) rfl ⟨rfl, rfl, rfl, trivial⟩ ?_
      obtain ⟨rfl, rfl, rfl⟩ := s_inj h90
      exact Kj90
  replace hb := i_neg c86 hb
  by_cases c99 : x4 = 27
  · rw [show am_sw x4 678 [(4, 140), (5, 140), (6, 140), (7, 199), (8, 206), (9, 223), (10, 199), (11, 245), (12, 245), (13, 289), (14, 317), (15, 348), (16, 366), (17, 387), (18, 429), (19, 572), (20, 572), (21, 623), (22, 623), (23, 678), (24, 678), (25, 678), (26, 678), (27, 445), (28, 493), (29, 538)] = 445 from by rw [c99]; rfl]
    replace hb := i_pos c99 hb
    refine e_k 1 (f' := (446, [(4, .int x5), (3, .int x4), (2, .int x2), (0, .ref 112), (1, .int p2)], [.ref 112])) rfl ?_
    refine r_getr rfl (x_ltn rfl) rfl rfl ?_
    refine e_k 4 (f' := (455, [(4, .int x5), (3, .int x4), (2, .int x2), (0, .ref 112), (1, .int p2)], [.ref 112, .int (x5 + 13), .ref 143])) rfl ?_
    refine r_getr rfl (x_ltn rfl) rfl rfl ?_
    refine e_k 3 (f' := (461, [(4, .int x5), (3, .int x4), (2, .int x2), (0, .ref 112), (1, .int p2)], [.int (x2 + 1), .ref 114, .int (x5 + 13), .ref 143])) rfl ?_
    obtain ⟨o100, hb⟩ := ob_in hb
    refine r_iald rfl rfl (x_ltn rfl) rfl o100 ?_
    refine e_k 3 (f' := (465, [(4, .int x5), (3, .int x4), (2, .int x2), (0, .ref 112), (1, .int p2)], [.ref 112, .ref 112, .int ((x5 + 13) + (I 114 (Int32.toNatClampNeg (x2 + 1)))), .ref 143])) rfl ?_
    refine r_getl rfl (x_ltn rfl) rfl rfl ?_
    refine e_k 1 (f' := (469, [(4, .int x5), (3, .int x4), (2, .int x2), (0, .ref 112), (1, .int p2)], [.ref 112, .long (J 112 21), .ref 112, .int ((x5 + 13) + (I 114 (Int32.toNatClampNeg (x2 + 1)))), .ref 143])) rfl ?_
    refine r_getr rfl (x_ltn rfl) rfl rfl ?_
    refine e_k 1 (f' := (473, [(4, .int x5), (3, .int x4), (2, .int x2), (0, .ref 112), (1, .int p2)], [.int p2, .ref 123, .long (J 112 21), .ref 112, .int ((x5 + 13) + (I 114 (Int32.toNatClampNeg (x2 + 1)))), .ref 143])) rfl ?_
    obtain ⟨o101, hb⟩ := ob_in hb
    refine r_iald rfl rfl (x_ltn rfl) rfl o101 ?_
    obtain ⟨v102, I102, J102, h102, hb⟩ := oc_call hb
    refine r_cv (z := m_Model_drawn) (As := [.long (J 112 21), .int (I 123 (Int32.toNatClampNeg p2))]) (rest := [.int ((x5 + 13) + (I 114 (Int32.toNatClampNeg (x2 + 1)))), .ref 143]) rfl rfl rfl rfl rfl (x_ltn rfl) rfl rfl (E_Model_drawn  h102 ⟨_, rfl, ?_⟩)
    refine e_k 2 (f' := (479, [(4, .int x5), (3, .int x4), (2, .int x2), (0, .ref 112), (1, .int p2)], [.long (v102 &&& 1), .int ((x5 + 13) + (I 114 (Int32.toNatClampNeg (x2 + 1)))), .ref 143])) rfl ?_
    obtain ⟨o103, hb⟩ := ob_in hb
    obtain ⟨J104, eJ104, hb⟩ := p_nm hb
    refine r_last' rfl (x_ltn rfl) rfl o103 eJ104 ?_
    refine e_k 1 (f' := (481, [(4, .int x5), (3, .int x4), (2, .int x2), (0, .ref 112), (1, .int p2)], [.ref 112])) rfl ?_
    refine r_getr rfl (x_ltn rfl) rfl rfl ?_
    refine e_k 2 (f' := (486, [(4, .int x5), (3, .int x4), (2, .int x2), (0, .ref 112), (1, .int p2)], [.int p2, .ref 123, .int p2, .ref 123])) rfl ?_
    obtain ⟨o105, hb⟩ := ob_in hb
    refine r_iald rfl rfl (x_ltn rfl) rfl o105 ?_
    refine e_k 2 (f' := (489, [(4, .int x5), (3, .int x4), (2, .int x2), (0, .ref 112), (1, .int p2)], [.int ((I102 123 (Int32.toNatClampNeg p2)) + 1), .int p2, .ref 123])) rfl ?_
    obtain ⟨o106, hb⟩ := ob_in hb
    obtain ⟨I107, eI107, hb⟩ := p_nm hb
    refine r_iast' rfl (x_ltn rfl) rfl o106 eI107 ?_
    refine e_k 3 (f' := (687, [(4, .int x5), (3, .int x4), (2, .int x2), (0, .ref 112), (1, .int p2)], [.int p2, .ref 112])) rfl ?_
    obtain ⟨v108, I108, J108, h108, hb⟩ := oc_call hb
    refine r_cv (z := m_Model_next) (As := [.int p2]) (rest := []) rfl rfl rfl rfl rfl (x_ltn rfl) rfl rfl (E_Model_next  h108 ⟨_, rfl, ?_⟩)
    refine e_k 1 (f' := (691, [(4, .int x5), (3, .int x4), (2, .int x2), (0, .ref 112), (1, .int p2)], [.int 1])) rfl ?_
    obtain ⟨rfl, rfl, rfl⟩ := s_inj hb
    exact e_r rfl rfl K
  replace hb := i_neg c99 hb
  by_cases c109 : x4 = 28
  · rw [show am_sw x4 678 [(4, 140), (5, 140), (6, 140), (7, 199), (8, 206), (9, 223), (10, 199), (11, 245), (12, 245), (13, 289), (14, 317), (15, 348), (16, 366), (17, 387), (18, 429), (19, 572), (20, 572), (21, 623), (22, 623), (23, 678), (24, 678), (25, 678), (26, 678), (27, 445), (28, 493), (29, 538)] = 493 from by rw [c109]; rfl]
    replace hb := i_pos c109 hb
    refine e_k 1 (f' := (494, [(4, .int x5), (3, .int x4), (2, .int x2), (0, .ref 112), (1, .int p2)], [.ref 112])) rfl ?_
    refine r_getr rfl (x_ltn rfl) rfl rfl ?_
    refine e_k 4 (f' := (502, [(4, .int x5), (3, .int x4), (2, .int x2), (0, .ref 112), (1, .int p2)], [.ref 112, .int (16 * p2), .ref 140])) rfl ?_
    refine r_getr rfl (x_ltn rfl) rfl rfl ?_
    refine e_k 1 (f' := (506, [(4, .int x5), (3, .int x4), (2, .int x2), (0, .ref 112), (1, .int p2)], [.int p2, .ref 141, .int (16 * p2), .ref 140])) rfl ?_
    obtain ⟨o110, hb⟩ := ob_in hb
    refine r_iald rfl rfl (x_ltn rfl) rfl o110 ?_
    refine e_k 4 (f' := (511, [(4, .int x5), (3, .int x4), (2, .int x2), (0, .ref 112), (1, .int p2)], [.int (x2 + 3), .int ((16 * p2) + (I 141 (Int32.toNatClampNeg p2))), .ref 140])) rfl ?_
    obtain ⟨o111, hb⟩ := ob_in hb
    obtain ⟨I112, eI112, hb⟩ := p_nm hb
    refine r_iast' rfl (x_ltn rfl) rfl o111 eI112 ?_
    refine e_k 1 (f' := (513, [(4, .int x5), (3, .int x4), (2, .int x2), (0, .ref 112), (1, .int p2)], [.ref 112])) rfl ?_
    refine r_getr rfl (x_ltn rfl) rfl rfl ?_
    refine e_k 2 (f' := (518, [(4, .int x5), (3, .int x4), (2, .int x2), (0, .ref 112), (1, .int p2)], [.int p2, .ref 141, .int p2, .ref 141])) rfl ?_
    obtain ⟨o113, hb⟩ := ob_in hb
    refine r_iald rfl rfl (x_ltn rfl) rfl o113 ?_
    refine e_k 2 (f' := (521, [(4, .int x5), (3, .int x4), (2, .int x2), (0, .ref 112), (1, .int p2)], [.int ((I112 141 (Int32.toNatClampNeg p2)) + 1), .int p2, .ref 141])) rfl ?_
    obtain ⟨o114, hb⟩ := ob_in hb
    obtain ⟨I115, eI115, hb⟩ := p_nm hb
    refine r_iast' rfl (x_ltn rfl) rfl o114 eI115 ?_
    refine e_k 1 (f' := (523, [(4, .int x5), (3, .int x4), (2, .int x2), (0, .ref 112), (1, .int p2)], [.ref 112])) rfl ?_
    refine r_getr rfl (x_ltn rfl) rfl rfl ?_
    refine e_k 2 (f' := (528, [(4, .int x5), (3, .int x4), (2, .int x2), (0, .ref 112), (1, .int p2)], [.ref 112, .int p2, .ref 127])) rfl ?_
    refine r_getr rfl (x_ltn rfl) rfl rfl ?_
    refine e_k 1 (f' := (532, [(4, .int x5), (3, .int x4), (2, .int x2), (0, .ref 112), (1, .int p2)], [.int x2, .ref 114, .int p2, .ref 127])) rfl ?_
    obtain ⟨v116, I116, J116, h116, hb⟩ := oc_call hb
    refine r_cs (z := m_Model_goalOf) (As := [.ref 114, .int x2]) (rest := [.int p2, .ref 127]) rfl rfl rfl rfl rfl rfl (E_Model_goalOf ⟨(x_ltn rfl), rfl, rfl⟩ h116 ⟨_, rfl, ?_⟩)
    obtain ⟨o117, hb⟩ := ob_in hb
    obtain ⟨I118, eI118, hb⟩ := p_nm hb
    refine r_iast' rfl (x_ltn rfl) rfl o117 eI118 ?_
    refine e_k 1 (f' := (537, [(4, .int x5), (3, .int x4), (2, .int x2), (0, .ref 112), (1, .int p2)], [.int 1])) rfl ?_
    obtain ⟨rfl, rfl, rfl⟩ := s_inj hb
    exact e_r rfl rfl K
  replace hb := i_neg c109 hb
  by_cases c119 : x4 = 29
  · rw [show am_sw x4 678 [(4, 140), (5, 140), (6, 140), (7, 199), (8, 206), (9, 223), (10, 199), (11, 245), (12, 245), (13, 289), (14, 317), (15, 348), (16, 366), (17, 387), (18, 429), (19, 572), (20, 572), (21, 623), (22, 623), (23, 678), (24, 678), (25, 678), (26, 678), (27, 445), (28, 493), (29, 538)] = 538 from by rw [c119]; rfl]
    replace hb := i_pos c119 hb
    refine e_k 1 (f' := (539, [(4, .int x5), (3, .int x4), (2, .int x2), (0, .ref 112), (1, .int p2)], [.ref 112])) rfl ?_
    refine r_getr rfl (x_ltn rfl) rfl rfl ?_
    refine e_k 2 (f' := (544, [(4, .int x5), (3, .int x4), (2, .int x2), (0, .ref 112), (1, .int p2)], [.int p2, .ref 141, .int p2, .ref 141])) rfl ?_
    obtain ⟨o120, hb⟩ := ob_in hb
    refine r_iald rfl rfl (x_ltn rfl) rfl o120 ?_
    refine e_k 2 (f' := (547, [(4, .int x5), (3, .int x4), (2, .int x2), (0, .ref 112), (1, .int p2)], [.int ((I 141 (Int32.toNatClampNeg p2)) - 1), .int p2, .ref 141])) rfl ?_
    obtain ⟨o121, hb⟩ := ob_in hb
    obtain ⟨I122, eI122, hb⟩ := p_nm hb
    refine r_iast' rfl (x_ltn rfl) rfl o121 eI122 ?_
    refine e_k 1 (f' := (549, [(4, .int x5), (3, .int x4), (2, .int x2), (0, .ref 112), (1, .int p2)], [.ref 112])) rfl ?_
    refine r_getr rfl (x_ltn rfl) rfl rfl ?_
    refine e_k 2 (f' := (554, [(4, .int x5), (3, .int x4), (2, .int x2), (0, .ref 112), (1, .int p2)], [.ref 112, .int p2, .ref 127])) rfl ?_
    refine r_getr rfl (x_ltn rfl) rfl rfl ?_
    refine e_k 4 (f' := (562, [(4, .int x5), (3, .int x4), (2, .int x2), (0, .ref 112), (1, .int p2)], [.ref 112, .int (16 * p2), .ref 140, .int p2, .ref 127])) rfl ?_
    refine r_getr rfl (x_ltn rfl) rfl rfl ?_
    refine e_k 1 (f' := (566, [(4, .int x5), (3, .int x4), (2, .int x2), (0, .ref 112), (1, .int p2)], [.int p2, .ref 141, .int (16 * p2), .ref 140, .int p2, .ref 127])) rfl ?_
    obtain ⟨o123, hb⟩ := ob_in hb
    refine r_iald rfl rfl (x_ltn rfl) rfl o123 ?_
    refine e_k 1 (f' := (568, [(4, .int x5), (3, .int x4), (2, .int x2), (0, .ref 112), (1, .int p2)], [.int ((16 * p2) + (I122 141 (Int32.toNatClampNeg p2))), .ref 140, .int p2, .ref 127])) rfl ?_
    obtain ⟨o124, hb⟩ := ob_in hb
    refine r_iald rfl rfl (x_ltn rfl) rfl o124 ?_
    obtain ⟨o125, hb⟩ := ob_in hb
    obtain ⟨I126, eI126, hb⟩ := p_nm hb
    refine r_iast' rfl (x_ltn rfl) rfl o125 eI126 ?_
    refine e_k 1 (f' := (571, [(4, .int x5), (3, .int x4), (2, .int x2), (0, .ref 112), (1, .int p2)], [.int 1])) rfl ?_
    obtain ⟨rfl, rfl, rfl⟩ := s_inj hb
    exact e_r rfl rfl K
  replace hb := i_neg c119 hb
  rw [show am_sw x4 678 [(4, 140), (5, 140), (6, 140), (7, 199), (8, 206), (9, 223), (10, 199), (11, 245), (12, 245), (13, 289), (14, 317), (15, 348), (16, 366), (17, 387), (18, 429), (19, 572), (20, 572), (21, 623), (22, 623), (23, 678), (24, 678), (25, 678), (26, 678), (27, 445), (28, 493), (29, 538)] = 678 from (am_swd (fun e => c6 (Or.inl e)) (am_swd (fun e => c6 (Or.inr (Or.inl e))) (am_swd (fun e => c6 (Or.inr (Or.inr e))) (am_swd (fun e => c20 (Or.inl e)) (am_swd c23 (am_swd c28 (am_swd (fun e => c20 (Or.inr e)) (am_swd (fun e => c33 (Or.inl e)) (am_swd (fun e => c33 (Or.inr e)) (am_swd c44 (am_swd c49 (am_swd c54 (am_swd c58 (am_swd c62 (am_swd c70 (am_swd (fun e => c74 (Or.inl e)) (am_swd (fun e => c74 (Or.inr e)) (am_swd (fun e => c86 (Or.inl e)) (am_swd (fun e => c86 (Or.inr e)) (am_swe (am_swe (am_swe (am_swe (am_swd c99 (am_swd c109 (am_swd c119 rfl))))))))))))))))))))))))))]
  refine e_k 3 (f' := (681, [(4, .int x5), (3, .int x4), (2, .int x2), (0, .ref 112), (1, .int p2)], [.int x2, .int p2, .ref 112])) rfl ?_
  obtain ⟨v127, I127, J127, h127, hb⟩ := oc_call hb
  refine r_cv (z := m_Model_rows) (As := [.int p2, .int x2]) (rest := []) rfl rfl rfl rfl rfl (x_ltn rfl) rfl rfl (E_Model_rows  h127 ⟨_, rfl, ?_⟩)
  obtain ⟨o128, hb⟩ := ob_if hb
  obtain ⟨rfl, rfl, rfl⟩ := s_inj hb
  exact e_r rfl (if_pos o128) K
end AUTO
