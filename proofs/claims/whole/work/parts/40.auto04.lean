section AUTO
variable {L : Nat} {xs : Nat → Int32} {d : Nat} {P : am_R → am_H → Prop}
def f_Model_take_2 (a2 : Nat) (m2 : Nat) (p3 : Int32) : Nat → Int32 → Int32 → MI → MJ → M2 (Unit)
  | 0, _, _, _, _ => none
  | fu + 1, l2, l3, I, J => if l2 ≤ l3 then (some ((), I, J)) else (if l3 < 0 ∨ m2 ≤ Int32.toNatClampNeg l3 then none else (if l3 < 0 ∨ 2400 ≤ Int32.toNatClampNeg l3 then none else (pl (va_up I 114 (upd (I 114) (Int32.toNatClampNeg l3) (I a2 (Int32.toNatClampNeg l3)))) (fun I4 => f_Model_take_2 a2 m2 p3 fu l2 (l3 + 1) I4 J))))
theorem E_Model_take_2 {X : MX} {a2 : Nat} {m2 : Nat} {p3 : Int32} (hA_a2 : isArr X 0 a2 m2) : ∀ (fu : Nat) {l2 : Int32} {l3 : Int32} {I : MI} {J : MJ} {r : (Unit)} {I' : MI} {J' : MJ}, f_Model_take_2 a2 m2 p3 fu l2 l3 I J = some (r, I', J') → am_E (gG L xs) d m_Model_take (22, [(0, .ref 112), (2, .int l2)], []) (hX X I' J') P → am_E (gG L xs) d m_Model_take (2, [(0, .ref 112), (1, .ref a2), (2, .int l2), (3, .int l3)], []) (hX X I J) P := by
  intro fu
  induction fu with
  | zero =>
    intros
    rename_i hb _
    cases hb
  | succ fu ih =>
    intro l2 l3 I J r I' J' hb K
    unfold f_Model_take_2 at hb
    refine e_k 3 (f' := (if l2 ≤ l3 then 22 else 7, [(0, .ref 112), (1, .ref a2), (2, .int l2), (3, .int l3)], [])) rfl ?_
    refine e_if (fun c1 => ?_) (fun c1 => ?_)
    · replace hb := i_pos c1 hb
      refine e_sub (ls := [(0, .ref 112), (2, .int l2)]) rfl ⟨rfl, rfl, trivial⟩ ?_
      obtain ⟨rfl, rfl, rfl⟩ := s_inj hb
      exact K
    · replace hb := i_neg c1 hb
      refine e_k 1 (f' := (8, [(0, .ref 112), (1, .ref a2), (2, .int l2), (3, .int l3)], [.ref 112])) rfl ?_
      refine r_getr rfl (x_ltn rfl) rfl rfl ?_
      refine e_k 3 (f' := (14, [(0, .ref 112), (1, .ref a2), (2, .int l2), (3, .int l3)], [.int l3, .ref a2, .int l3, .ref 114])) rfl ?_
      obtain ⟨o2, hb⟩ := ob_in hb
      refine r_iald rfl hA_a2.2.1 hA_a2.1 hA_a2.2.2 o2 ?_
      obtain ⟨o3, hb⟩ := ob_in hb
      obtain ⟨I4, eI4, hb⟩ := p_nm hb
      refine r_iast' rfl (x_ltn rfl) rfl o3 eI4 ?_
      refine e_k 2 (f' := (2, [(3, .int (l3 + 1)), (0, .ref 112), (1, .ref a2), (2, .int l2)], [])) rfl ?_
      refine e_sub (ls := [(0, .ref 112), (1, .ref a2), (2, .int l2), (3, .int (l3 + 1))]) rfl ⟨rfl, rfl, rfl, rfl, trivial⟩ ?_
      exact ih  hb K
def f_Model_take (a2 : Nat) (m2 : Nat) (p3 : Int32) (I : MI) (J : MJ) : M2 Unit := oc (f_Model_take_2 a2 m2 p3 gF p3 0 I J) (fun u5 I5 J5 => pl (va_up I5 112 (upd (I5 112) 7 p3)) (fun I6 => pl (va_up I6 112 (upd (I6 112) 8 1)) (fun I7 => pl (va_up I7 112 (upd (I7 112) 34 0)) (fun I8 => some ((), I8, J5)))))
theorem E_Model_take {a2 : Nat} {m2 : Nat} {p3 : Int32} {X : MX} {I : MI} {J : MJ} {v : Unit} {I' : MI} {J' : MJ} (hA_a2 : isArr X 0 a2 m2) (hb : f_Model_take a2 m2 p3 I J = some (v, I', J')) (K : P (.inl (none)) (hX X I' J')) : am_E (gG L xs) d m_Model_take (0, lv_args 0 [.ref 112, .ref a2, .int p3], []) (hX X I J) P := by
  unfold f_Model_take at hb
  refine e_k 2 (f' := (2, [(3, .int 0), (0, .ref 112), (1, .ref a2), (2, .int p3)], [])) rfl ?_
  refine e_sub (ls := [(0, .ref 112), (1, .ref a2), (2, .int p3), (3, .int 0)]) rfl ⟨rfl, rfl, rfl, rfl, trivial⟩ ?_
  obtain ⟨u5, I5, J5, h5, hb⟩ := oc_call hb
  refine E_Model_take_2 hA_a2 gF  h5 ?_
  refine e_k 2 (f' := (24, [(0, .ref 112), (2, .int p3)], [.int p3, .ref 112])) rfl ?_
  obtain ⟨I6, eI6, hb⟩ := p_nm hb
  refine r_puti' rfl (x_ltn rfl) rfl rfl eI6 ?_
  refine e_k 2 (f' := (29, [(0, .ref 112), (2, .int p3)], [.int 1, .ref 112])) rfl ?_
  obtain ⟨I7, eI7, hb⟩ := p_nm hb
  refine r_putz' rfl (x_ltn rfl) rfl rfl (Or.inr rfl) eI7 ?_
  refine e_k 2 (f' := (34, [(0, .ref 112), (2, .int p3)], [.int 0, .ref 112])) rfl ?_
  obtain ⟨I8, eI8, hb⟩ := p_nm hb
  refine r_putz' rfl (x_ltn rfl) rfl rfl (Or.inl rfl) eI8 ?_
  obtain ⟨rfl, rfl, rfl⟩ := s_inj hb
  exact e_r rfl rfl K
def f_Model_longOf (p1 : Int32) (I : MI) (J : MJ) : M2 Int32 := if ¬ p1 = 1 then (if p1 = 17 then (some (4, I, J)) else (if p1 < 23 then (if p1 = 13 then (some (3, I, J)) else (if p1 = 14 then (some (3, I, J)) else (if p1 = 18 then (some (3, I, J)) else (if p1 = 26 then (some (3, I, J)) else (if ¬ p1 = 28 then (if p1 = 2 then (some (2, I, J)) else (if p1 = 3 then (some (2, I, J)) else (if p1 = 11 then (some (2, I, J)) else (if p1 = 12 then (some (2, I, J)) else (if p1 = 15 then (some (2, I, J)) else (if p1 = 16 then (some (2, I, J)) else (if p1 < 19 then (if ¬ p1 = 27 then (some (1, I, J)) else (some (2, I, J))) else (if p1 ≤ 22 then (some (2, I, J)) else (if ¬ p1 = 27 then (some (1, I, J)) else (some (2, I, J))))))))))) else (some (3, I, J))))))) else (if 25 < p1 then (if p1 = 13 then (some (3, I, J)) else (if p1 = 14 then (some (3, I, J)) else (if p1 = 18 then (some (3, I, J)) else (if p1 = 26 then (some (3, I, J)) else (if ¬ p1 = 28 then (if p1 = 2 then (some (2, I, J)) else (if p1 = 3 then (some (2, I, J)) else (if p1 = 11 then (some (2, I, J)) else (if p1 = 12 then (some (2, I, J)) else (if p1 = 15 then (some (2, I, J)) else (if p1 = 16 then (some (2, I, J)) else (if p1 < 19 then (if ¬ p1 = 27 then (some (1, I, J)) else (some (2, I, J))) else (if p1 ≤ 22 then (some (2, I, J)) else (if ¬ p1 = 27 then (some (1, I, J)) else (some (2, I, J))))))))))) else (some (3, I, J))))))) else (some (4, I, J))))) else (some (9, I, J))
theorem E_Model_longOf {p1 : Int32} {X : MX} {I : MI} {J : MJ} {v : Int32} {I' : MI} {J' : MJ} (hb : f_Model_longOf p1 I J = some (v, I', J')) (K : P (.inl (some (.int v))) (hX X I' J')) : am_E (gG L xs) d m_Model_longOf (0, lv_args 0 [.int p1], []) (hX X I J) P := by
  unfold f_Model_longOf at hb
  refine e_k 3 (f' := (if ¬ p1 = 1 then 8 else 5, [(0, .int p1)], [])) rfl ?_
  refine e_if (fun c1 => ?_) (fun c1 => ?_)
  · replace hb := i_pos c1 hb
    refine e_k 3 (f' := (if p1 = 17 then 26 else 14, [(0, .int p1)], [])) rfl ?_
    refine e_if (fun c2 => ?_) (fun c2 => ?_)
    · replace hb := i_pos c2 hb
      refine e_k 1 (f' := (27, [(0, .int p1)], [.int 4])) rfl ?_
      obtain ⟨rfl, rfl, rfl⟩ := s_inj hb
      exact e_r rfl rfl K
    · replace hb := i_neg c2 hb
      refine e_k 3 (f' := (if p1 < 23 then 28 else 20, [(0, .int p1)], [])) rfl ?_
      refine e_if (fun c3 => ?_) (fun c3 => ?_)
      · replace hb := i_pos c3 hb
        refine e_k 3 (f' := (if p1 = 13 then 58 else 34, [(0, .int p1)], [])) rfl ?_
        refine e_if (fun c4 => ?_) (fun c4 => ?_)
        · replace hb := i_pos c4 hb
          refine e_k 1 (f' := (59, [(0, .int p1)], [.int 3])) rfl ?_
          obtain ⟨rfl, rfl, rfl⟩ := s_inj hb
          exact e_r rfl rfl K
        · replace hb := i_neg c4 hb
          refine e_k 3 (f' := (if p1 = 14 then 58 else 40, [(0, .int p1)], [])) rfl ?_
          refine e_if (fun c5 => ?_) (fun c5 => ?_)
          · replace hb := i_pos c5 hb
            refine e_k 1 (f' := (59, [(0, .int p1)], [.int 3])) rfl ?_
            obtain ⟨rfl, rfl, rfl⟩ := s_inj hb
            exact e_r rfl rfl K
          · replace hb := i_neg c5 hb
            refine e_k 3 (f' := (if p1 = 18 then 58 else 46, [(0, .int p1)], [])) rfl ?_
            refine e_if (fun c6 => ?_) (fun c6 => ?_)
            · replace hb := i_pos c6 hb
              refine e_k 1 (f' := (59, [(0, .int p1)], [.int 3])) rfl ?_
              obtain ⟨rfl, rfl, rfl⟩ := s_inj hb
              exact e_r rfl rfl K
            · replace hb := i_neg c6 hb
              refine e_k 3 (f' := (if p1 = 26 then 58 else 52, [(0, .int p1)], [])) rfl ?_
              refine e_if (fun c7 => ?_) (fun c7 => ?_)
              · replace hb := i_pos c7 hb
                refine e_k 1 (f' := (59, [(0, .int p1)], [.int 3])) rfl ?_
                obtain ⟨rfl, rfl, rfl⟩ := s_inj hb
                exact e_r rfl rfl K
              · replace hb := i_neg c7 hb
                refine e_k 3 (f' := (if ¬ p1 = 28 then 60 else 58, [(0, .int p1)], [])) rfl ?_
                refine e_if (fun c8 => ?_) (fun c8 => ?_)
                · replace hb := i_pos c8 hb
                  refine e_k 3 (f' := (if p1 = 2 then 112 else 65, [(0, .int p1)], [])) rfl ?_
                  refine e_if (fun c9 => ?_) (fun c9 => ?_)
                  · replace hb := i_pos c9 hb
                    refine e_k 2 (f' := (117, [(0, .int p1)], [.int 2])) rfl ?_
                    obtain ⟨rfl, rfl, rfl⟩ := s_inj hb
                    exact e_r rfl rfl K
                  · replace hb := i_neg c9 hb
                    refine e_k 3 (f' := (if p1 = 3 then 112 else 70, [(0, .int p1)], [])) rfl ?_
                    refine e_if (fun c10 => ?_) (fun c10 => ?_)
                    · replace hb := i_pos c10 hb
                      refine e_k 2 (f' := (117, [(0, .int p1)], [.int 2])) rfl ?_
                      obtain ⟨rfl, rfl, rfl⟩ := s_inj hb
                      exact e_r rfl rfl K
                    · replace hb := i_neg c10 hb
                      refine e_k 3 (f' := (if p1 = 11 then 112 else 76, [(0, .int p1)], [])) rfl ?_
                      refine e_if (fun c11 => ?_) (fun c11 => ?_)
                      · replace hb := i_pos c11 hb
                        refine e_k 2 (f' := (117, [(0, .int p1)], [.int 2])) rfl ?_
                        obtain ⟨rfl, rfl, rfl⟩ := s_inj hb
                        exact e_r rfl rfl K
                      · replace hb := i_neg c11 hb
                        refine e_k 3 (f' := (if p1 = 12 then 112 else 82, [(0, .int p1)], [])) rfl ?_
                        refine e_if (fun c12 => ?_) (fun c12 => ?_)
                        · replace hb := i_pos c12 hb
                          refine e_k 2 (f' := (117, [(0, .int p1)], [.int 2])) rfl ?_
                          obtain ⟨rfl, rfl, rfl⟩ := s_inj hb
                          exact e_r rfl rfl K
                        · replace hb := i_neg c12 hb
                          refine e_k 3 (f' := (if p1 = 15 then 112 else 88, [(0, .int p1)], [])) rfl ?_
                          refine e_if (fun c13 => ?_) (fun c13 => ?_)
                          · replace hb := i_pos c13 hb
                            refine e_k 2 (f' := (117, [(0, .int p1)], [.int 2])) rfl ?_
                            obtain ⟨rfl, rfl, rfl⟩ := s_inj hb
                            exact e_r rfl rfl K
                          · replace hb := i_neg c13 hb
                            refine e_k 3 (f' := (if p1 = 16 then 112 else 94, [(0, .int p1)], [])) rfl ?_
                            refine e_if (fun c14 => ?_) (fun c14 => ?_)
                            · replace hb := i_pos c14 hb
                              refine e_k 2 (f' := (117, [(0, .int p1)], [.int 2])) rfl ?_
                              obtain ⟨rfl, rfl, rfl⟩ := s_inj hb
                              exact e_r rfl rfl K
                            · replace hb := i_neg c14 hb
                              refine e_k 3 (f' := (if p1 < 19 then 106 else 100, [(0, .int p1)], [])) rfl ?_
                              refine e_if (fun c15 => ?_) (fun c15 => ?_)
                              · replace hb := i_pos c15 hb
                                refine e_k 3 (f' := (if ¬ p1 = 27 then 116 else 112, [(0, .int p1)], [])) rfl ?_
                                refine e_if (fun c16 => ?_) (fun c16 => ?_)
                                · replace hb := i_pos c16 hb
                                  refine e_k 1 (f' := (117, [(0, .int p1)], [.int 1])) rfl ?_
                                  obtain ⟨rfl, rfl, rfl⟩ := s_inj hb
                                  exact e_r rfl rfl K
                                · replace hb := i_neg c16 hb
                                  refine e_k 2 (f' := (117, [(0, .int p1)], [.int 2])) rfl ?_
                                  obtain ⟨rfl, rfl, rfl⟩ := s_inj hb
                                  exact e_r rfl rfl K
                              · replace hb := i_neg c15 hb
                                refine e_k 3 (f' := (if p1 ≤ 22 then 112 else 106, [(0, .int p1)], [])) rfl ?_
                                refine e_if (fun c17 => ?_) (fun c17 => ?_)
                                · replace hb := i_pos c17 hb
                                  refine e_k 2 (f' := (117, [(0, .int p1)], [.int 2])) rfl ?_
                                  obtain ⟨rfl, rfl, rfl⟩ := s_inj hb
                                  exact e_r rfl rfl K
                                · replace hb := i_neg c17 hb
                                  refine e_k 3 (f' := (if ¬ p1 = 27 then 116 else 112, [(0, .int p1)], [])) rfl ?_
                                  refine e_if (fun c18 => ?_) (fun c18 => ?_)
                                  · replace hb := i_pos c18 hb
                                    refine e_k 1 (f' := (117, [(0, .int p1)], [.int 1])) rfl ?_
                                    obtain ⟨rfl, rfl, rfl⟩ := s_inj hb
                                    exact e_r rfl rfl K
                                  · replace hb := i_neg c18 hb
                                    refine e_k 2 (f' := (117, [(0, .int p1)], [.int 2])) rfl ?_
                                    obtain ⟨rfl, rfl, rfl⟩ := s_inj hb
                                    exact e_r rfl rfl K
                · replace hb := i_neg c8 hb
                  refine e_k 1 (f' := (59, [(0, .int p1)], [.int 3])) rfl ?_
                  obtain ⟨rfl, rfl, rfl⟩ := s_inj hb
                  exact e_r rfl rfl K
      · replace hb := i_neg c3 hb
        refine e_k 3 (f' := (if 25 < p1 then 28 else 26, [(0, .int p1)], [])) rfl ?_
        refine e_if (fun c19 => ?_) (fun c19 => ?_)
        · replace hb := i_pos c19 hb
          refine e_k 3 (f' := (if p1 = 13 then 58 else 34, [(0, .int p1)], [])) rfl ?_
          refine e_if (fun c20 => ?_) (fun c20 => ?_)
          · replace hb := i_pos c20 hb
            refine e_k 1 (f' := (59, [(0, .int p1)], [.int 3])) rfl ?_
            obtain ⟨rfl, rfl, rfl⟩ := s_inj hb
            exact e_r rfl rfl K
          · replace hb := i_neg c20 hb
            refine e_k 3 (f' := (if p1 = 14 then 58 else 40, [(0, .int p1)], [])) rfl ?_
            refine e_if (fun c21 => ?_) (fun c21 => ?_)
            · replace hb := i_pos c21 hb
              refine e_k 1 (f' := (59, [(0, .int p1)], [.int 3])) rfl ?_
              obtain ⟨rfl, rfl, rfl⟩ := s_inj hb
              exact e_r rfl rfl K
            · replace hb := i_neg c21 hb
              refine e_k 3 (f' := (if p1 = 18 then 58 else 46, [(0, .int p1)], [])) rfl ?_
              refine e_if (fun c22 => ?_) (fun c22 => ?_)
              · replace hb := i_pos c22 hb
                refine e_k 1 (f' := (59, [(0, .int p1)], [.int 3])) rfl ?_
                obtain ⟨rfl, rfl, rfl⟩ := s_inj hb
                exact e_r rfl rfl K
              · replace hb := i_neg c22 hb
                refine e_k 3 (f' := (if p1 = 26 then 58 else 52, [(0, .int p1)], [])) rfl ?_
                refine e_if (fun c23 => ?_) (fun c23 => ?_)
                · replace hb := i_pos c23 hb
                  refine e_k 1 (f' := (59, [(0, .int p1)], [.int 3])) rfl ?_
                  obtain ⟨rfl, rfl, rfl⟩ := s_inj hb
                  exact e_r rfl rfl K
                · replace hb := i_neg c23 hb
                  refine e_k 3 (f' := (if ¬ p1 = 28 then 60 else 58, [(0, .int p1)], [])) rfl ?_
                  refine e_if (fun c24 => ?_) (fun c24 => ?_)
                  · replace hb := i_pos c24 hb
                    refine e_k 3 (f' := (if p1 = 2 then 112 else 65, [(0, .int p1)], [])) rfl ?_
                    refine e_if (fun c25 => ?_) (fun c25 => ?_)
                    · replace hb := i_pos c25 hb
                      refine e_k 2 (f' := (117, [(0, .int p1)], [.int 2])) rfl ?_
                      obtain ⟨rfl, rfl, rfl⟩ := s_inj hb
                      exact e_r rfl rfl K
                    · replace hb := i_neg c25 hb
                      refine e_k 3 (f' := (if p1 = 3 then 112 else 70, [(0, .int p1)], [])) rfl ?_
                      refine e_if (fun c26 => ?_) (fun c26 => ?_)
                      · replace hb := i_pos c26 hb
                        refine e_k 2 (f' := (117, [(0, .int p1)], [.int 2])) rfl ?_
                        obtain ⟨rfl, rfl, rfl⟩ := s_inj hb
                        exact e_r rfl rfl K
                      · replace hb := i_neg c26 hb
                        refine e_k 3 (f' := (if p1 = 11 then 112 else 76, [(0, .int p1)], [])) rfl ?_
                        refine e_if (fun c27 => ?_) (fun c27 => ?_)
                        · replace hb := i_pos c27 hb
                          refine e_k 2 (f' := (117, [(0, .int p1)], [.int 2])) rfl ?_
                          obtain ⟨rfl, rfl, rfl⟩ := s_inj hb
                          exact e_r rfl rfl K
                        · replace hb := i_neg c27 hb
                          refine e_k 3 (f' := (if p1 = 12 then 112 else 82, [(0, .int p1)], [])) rfl ?_
                          refine e_if (fun c28 => ?_) (fun c28 => ?_)
                          · replace hb := i_pos c28 hb
                            refine e_k 2 (f' := (117, [(0, .int p1)], [.int 2])) rfl ?_
                            obtain ⟨rfl, rfl, rfl⟩ := s_inj hb
                            exact e_r rfl rfl K
                          · replace hb := i_neg c28 hb
                            refine e_k 3 (f' := (if p1 = 15 then 112 else 88, [(0, .int p1)], [])) rfl ?_
                            refine e_if (fun c29 => ?_) (fun c29 => ?_)
                            · replace hb := i_pos c29 hb
                              refine e_k 2 (f' := (117, [(0, .int p1)], [.int 2])) rfl ?_
                              obtain ⟨rfl, rfl, rfl⟩ := s_inj hb
                              exact e_r rfl rfl K
                            · replace hb := i_neg c29 hb
                              refine e_k 3 (f' := (if p1 = 16 then 112 else 94, [(0, .int p1)], [])) rfl ?_
                              refine e_if (fun c30 => ?_) (fun c30 => ?_)
                              · replace hb := i_pos c30 hb
                                refine e_k 2 (f' := (117, [(0, .int p1)], [.int 2])) rfl ?_
                                obtain ⟨rfl, rfl, rfl⟩ := s_inj hb
                                exact e_r rfl rfl K
                              · replace hb := i_neg c30 hb
                                refine e_k 3 (f' := (if p1 < 19 then 106 else 100, [(0, .int p1)], [])) rfl ?_
                                refine e_if (fun c31 => ?_) (fun c31 => ?_)
                                · replace hb := i_pos c31 hb
                                  refine e_k 3 (f' := (if ¬ p1 = 27 then 116 else 112, [(0, .int p1)], [])) rfl ?_
                                  refine e_if (fun c32 => ?_) (fun c32 => ?_)
                                  · replace hb := i_pos c32 hb
                                    refine e_k 1 (f' := (117, [(0, .int p1)], [.int 1])) rfl ?_
                                    obtain ⟨rfl, rfl, rfl⟩ := s_inj hb
                                    exact e_r rfl rfl K
                                  · replace hb := i_neg c32 hb
                                    refine e_k 2 (f' := (117, [(0, .int p1)], [.int 2])) rfl ?_
                                    obtain ⟨rfl, rfl, rfl⟩ := s_inj hb
                                    exact e_r rfl rfl K
                                · replace hb := i_neg c31 hb
                                  refine e_k 3 (f' := (if p1 ≤ 22 then 112 else 106, [(0, .int p1)], [])) rfl ?_
                                  refine e_if (fun c33 => ?_) (fun c33 => ?_)
                                  · replace hb := i_pos c33 hb
                                    refine e_k 2 (f' := (117, [(0, .int p1)], [.int 2])) rfl ?_
                                    obtain ⟨rfl, rfl, rfl⟩ := s_inj hb
                                    exact e_r rfl rfl K
                                  · replace hb := i_neg c33 hb
                                    refine e_k 3 (f' := (if ¬ p1 = 27 then 116 else 112, [(0, .int p1)], [])) rfl ?_
                                    refine e_if (fun c34 => ?_) (fun c34 => ?_)
                                    · replace hb := i_pos c34 hb
                                      refine e_k 1 (f' := (117, [(0, .int p1)], [.int 1])) rfl ?_
                                      obtain ⟨rfl, rfl, rfl⟩ := s_inj hb
                                      exact e_r rfl rfl K
                                    · replace hb := i_neg c34 hb
                                      refine e_k 2 (f' := (117, [(0, .int p1)], [.int 2])) rfl ?_
                                      obtain ⟨rfl, rfl, rfl⟩ := s_inj hb
                                      exact e_r rfl rfl K
                  · replace hb := i_neg c24 hb
                    refine e_k 1 (f' := (59, [(0, .int p1)], [.int 3])) rfl ?_
                    obtain ⟨rfl, rfl, rfl⟩ := s_inj hb
                    exact e_r rfl rfl K
        · replace hb := i_neg c19 hb
          refine e_k 1 (f' := (27, [(0, .int p1)], [.int 4])) rfl ?_
          obtain ⟨rfl, rfl, rfl⟩ := s_inj hb
          exact e_r rfl rfl K
  · replace hb := i_neg c1 hb
    refine e_k 1 (f' := (7, [(0, .int p1)], [.int 9])) rfl ?_
    obtain ⟨rfl, rfl, rfl⟩ := s_inj hb
    exact e_r rfl rfl K
def f_Model_refused (p2 : Int32) (p3 : Int32) (I : MI) (J : MJ) : M2 Int32 := pl (va_up I 112 (upd (I 112) 3 p2)) (fun I1 => pl (va_up I1 112 (upd (I1 112) 4 p3)) (fun I2 => some (0, I2, J)))
theorem E_Model_refused {p2 : Int32} {p3 : Int32} {X : MX} {I : MI} {J : MJ} {v : Int32} {I' : MI} {J' : MJ} (hb : f_Model_refused p2 p3 I J = some (v, I', J')) (K : P (.inl (some (.int v))) (hX X I' J')) : am_E (gG L xs) d m_Model_refused (0, lv_args 0 [.ref 112, .int p2, .int p3], []) (hX X I J) P := by
  unfold f_Model_refused at hb
  refine e_k 2 (f' := (2, [(0, .ref 112), (1, .int p2), (2, .int p3)], [.int p2, .ref 112])) rfl ?_
  obtain ⟨I1, eI1, hb⟩ := p_nm hb
  refine r_puti' rfl (x_ltn rfl) rfl rfl eI1 ?_
  refine e_k 2 (f' := (7, [(0, .ref 112), (1, .int p2), (2, .int p3)], [.int p3, .ref 112])) rfl ?_
  obtain ⟨I2, eI2, hb⟩ := p_nm hb
  refine r_puti' rfl (x_ltn rfl) rfl rfl eI2 ?_
  refine e_k 1 (f' := (11, [(0, .ref 112), (1, .int p2), (2, .int p3)], [.int 0])) rfl ?_
  obtain ⟨rfl, rfl, rfl⟩ := s_inj hb
  exact e_r rfl rfl K
def f_Model_isGood_222 (p2 : Int32) : Nat → Int32 → Int64 → Int32 → MI → MJ → M2 (Int64)
  | 0, _, _, _, _, _ => none
  | fu + 1, l1, l6, l8, I, J => if 9 ≤ l8 then (some (l6, I, J)) else (if (l1 + l8) < 0 ∨ 2000 ≤ Int32.toNatClampNeg (l1 + l8) then none else (pl ((l6 <<< ((Int32.toInt64 8) &&& 63)) ||| (Int32.toInt64 (I 116 (Int32.toNatClampNeg (l1 + l8)))) : Int64) (fun x24 => f_Model_isGood_222 p2 fu l1 x24 (l8 + 1) I J)))
theorem E_Model_isGood_222 {X : MX} {p2 : Int32} : ∀ (fu : Nat) {l1 : Int32} {l6 : Int64} {l8 : Int32} {I : MI} {J : MJ} {r : (Int64)} {I' : MI} {J' : MJ}, f_Model_isGood_222 p2 fu l1 l6 l8 I J = some (r, I', J') → am_E (gG L xs) d m_Model_isGood (253, [(6, .long r)], []) (hX X I' J') P → am_E (gG L xs) d m_Model_isGood (222, [(0, .ref 112), (1, .int l1), (6, .long l6), (8, .int l8)], []) (hX X I J) P := by
  intro fu
  induction fu with
  | zero =>
    intros
    rename_i hb _
    cases hb
  | succ fu ih =>
    intro l1 l6 l8 I J r I' J' hb K
    unfold f_Model_isGood_222 at hb
    refine e_k 3 (f' := (if 9 ≤ l8 then 253 else 229, [(0, .ref 112), (1, .int l1), (6, .long l6), (8, .int l8)], [])) rfl ?_
    refine e_if (fun c22 => ?_) (fun c22 => ?_)
    · replace hb := i_pos c22 hb
      refine e_sub (ls := [(6, .long l6)]) rfl ⟨rfl, trivial⟩ ?_
      obtain ⟨rfl, rfl, rfl⟩ := s_inj hb
      exact K
    · replace hb := i_neg c22 hb
      refine e_k 4 (f' := (235, [(0, .ref 112), (1, .int l1), (6, .long l6), (8, .int l8)], [.ref 112, .long (l6 <<< ((Int32.toInt64 8) &&& 63))])) rfl ?_
      refine r_getr rfl (x_ltn rfl) rfl rfl ?_
      refine e_k 3 (f' := (242, [(0, .ref 112), (1, .int l1), (6, .long l6), (8, .int l8)], [.int (l1 + l8), .ref 116, .long (l6 <<< ((Int32.toInt64 8) &&& 63))])) rfl ?_
      obtain ⟨o23, hb⟩ := ob_in hb
      refine r_iald rfl rfl (x_ltn rfl) rfl o23 ?_
      refine e_k 3 (f' := (247, [(6, .long ((l6 <<< ((Int32.toInt64 8) &&& 63)) ||| (Int32.toInt64 (I 116 (Int32.toNatClampNeg (l1 + l8)))))), (0, .ref 112), (1, .int l1), (8, .int l8)], [])) rfl ?_
      obtain ⟨x24, ex24, hb⟩ := p_nm hb
      rw [← ex24]
      refine e_k 2 (f' := (222, [(8, .int (l8 + 1)), (6, .long x24), (0, .ref 112), (1, .int l1)], [])) rfl ?_
      refine e_sub (ls := [(0, .ref 112), (1, .int l1), (6, .long x24), (8, .int (l8 + 1))]) rfl ⟨rfl, rfl, rfl, rfl, trivial⟩ ?_
      exact ih  hb K
def f_Model_isGood (p2 : Int32) (I : MI) (J : MJ) : M2 Int32 := if p2 < 0 ∨ 2000 ≤ Int32.toNatClampNeg p2 then none else (pl (I 116 (Int32.toNatClampNeg p2) : Int32) (fun x2 => if 29 < x2 then (some (0, I, J)) else (oc (f_Model_longOf x2 I J) (fun v4 I4 J4 => if (p2 + v4) ≤ (I4 112 12) then (oc (f_Model_longOf x2 I4 J4) (fun v6 I6 J6 => oc ((if v6 ≤ 1 then (some (0, I6, J6)) else (if (p2 + 1) < 0 ∨ 2000 ≤ Int32.toNatClampNeg (p2 + 1) then none else (some (I6 116 (Int32.toNatClampNeg (p2 + 1)), I6, J6)))) : M2 (Int32)) (fun v8 I8 J8 => oc (f_Model_longOf x2 I8 J8) (fun v11 I11 J11 => oc ((if v11 ≤ 2 then (some (0, I11, J11)) else (if (p2 + 2) < 0 ∨ 2000 ≤ Int32.toNatClampNeg (p2 + 2) then none else (some (I11 116 (Int32.toNatClampNeg (p2 + 2)), I11, J11)))) : M2 (Int32)) (fun v13 I13 J13 => oc (f_Model_longOf x2 I13 J13) (fun v16 I16 J16 => oc ((if v16 ≤ 3 then (some (0, I16, J16)) else (if (p2 + 3) < 0 ∨ 2000 ≤ Int32.toNatClampNeg (p2 + 3) then none else (some (I16 116 (Int32.toNatClampNeg (p2 + 3)), I16, J16)))) : M2 (Int32)) (fun v18 I18 J18 => if x2 = 1 then (oc (f_Model_isGood_222 p2 gF p2 0 1 I18 J18) (fun u25 I25 J25 => if (lg_cmp u25 0) < 0 then (some (0, I25, J25)) else (if 0 ≤ (lg_cmp u25 2305843009213693951) then (some (0, I25, J25)) else (some (1, I25, J25))))) else (if x2 = 2 ∨ x2 = 3 ∨ x2 = 11 ∨ x2 = 12 ∨ x2 = 15 ∨ x2 = 16 ∨ x2 = 17 ∨ x2 = 27 then (if 13 ≤ v8 then (some (0, I18, J18)) else (some (1, I18, J18))) else (if x2 = 13 then (if 13 ≤ v8 then (some (0, I18, J18)) else (if (I18 112 16) ≤ v13 then (some (0, I18, J18)) else (some (1, I18, J18)))) else (if x2 = 14 then (if 13 ≤ v8 then (some (0, I18, J18)) else (if 13 ≤ v13 then (some (0, I18, J18)) else (some (1, I18, J18)))) else (if x2 = 19 ∨ x2 = 20 ∨ x2 = 21 ∨ x2 = 22 then (if 4 ≤ v8 then (some (0, I18, J18)) else (some (1, I18, J18))) else (if x2 = 23 ∨ x2 = 24 ∨ x2 = 25 then (if 8 ≤ v8 then (some (0, I18, J18)) else (if 8 ≤ v13 then (some (0, I18, J18)) else (if 8 ≤ v18 then (some (0, I18, J18)) else (some (1, I18, J18))))) else (if x2 = 26 then (if 8 ≤ v8 then (some (0, I18, J18)) else (if 8 ≤ v13 then (some (0, I18, J18)) else (some (1, I18, J18)))) else (some (1, I18, J18))))))))))))))) else (some (0, I4, J4))))))
theorem E_Model_isGood {p2 : Int32} {X : MX} {I : MI} {J : MJ} {v : Int32} {I' : MI} {J' : MJ} (hb : f_Model_isGood p2 I J = some (v, I', J')) (K : P (.inl (some (.int v))) (hX X I' J')) : am_E (gG L xs) (d + 1) m_Model_isGood (0, lv_args 0 [.ref 112, .int p2], []) (hX X I J) P := by
  unfold f_Model_isGood at hb
  refine e_k 1 (f' := (1, [(0, .ref 112), (1, .int p2)], [.ref 112])) rfl ?_
  refine r_getr rfl (x_ltn rfl) rfl rfl ?_
  refine e_k 1 (f' := (5, [(0, .ref 112), (1, .int p2)], [.int p2, .ref 116])) rfl ?_
  obtain ⟨o1, hb⟩ := ob_in hb
  refine r_iald rfl rfl (x_ltn rfl) rfl o1 ?_
  refine e_k 1 (f' := (7, [(2, .int (I 116 (Int32.toNatClampNeg p2))), (0, .ref 112), (1, .int p2)], [])) rfl ?_
  obtain ⟨x2, ex2, hb⟩ := p_nm hb
  rw [← ex2]
  refine e_k 3 (f' := (if 29 < x2 then 26 else 13, [(2, .int x2), (0, .ref 112), (1, .int p2)], [])) rfl ?_
  refine e_if (fun c3 => ?_) (fun c3 => ?_)
  · replace hb := i_pos c3 hb
    refine e_k 1 (f' := (27, [(2, .int x2), (0, .ref 112), (1, .int p2)], [.int 0])) rfl ?_
    obtain ⟨rfl, rfl, rfl⟩ := s_inj hb
    exact e_r rfl rfl K
  · replace hb := i_neg c3 hb
    refine e_k 2 (f' := (15, [(2, .int x2), (0, .ref 112), (1, .int p2)], [.int x2, .int p2])) rfl ?_
    obtain ⟨v4, I4, J4, h4, hb⟩ := oc_call hb
    refine r_cs (z := m_Model_longOf) (As := [.int x2]) (rest := [.int p2]) rfl rfl rfl rfl rfl rfl (E_Model_longOf  h4 ⟨_, rfl, ?_⟩)
    refine e_k 2 (f' := (20, [(2, .int x2), (0, .ref 112), (1, .int p2)], [.ref 112, .int (p2 + v4)])) rfl ?_
    refine r_geti rfl (x_ltn rfl) rfl rfl ?_
    refine e_k 1 (f' := (if (p2 + v4) ≤ (I4 112 12) then 28 else 26, [(2, .int x2), (0, .ref 112), (1, .int p2)], [])) rfl ?_
    refine e_if (fun c5 => ?_) (fun c5 => ?_)
    · replace hb := i_pos c5 hb
      refine e_k 1 (f' := (29, [(2, .int x2), (0, .ref 112), (1, .int p2)], [.int x2])) rfl ?_
      obtain ⟨v6, I6, J6, h6, hb⟩ := oc_call hb
      refine r_cs (z := m_Model_longOf) (As := [.int x2]) (rest := []) rfl rfl rfl rfl rfl rfl (E_Model_longOf  h6 ⟨_, rfl, ?_⟩)
      refine e_k 2 (f' := (if v6 ≤ 1 then 47 else 36, [(2, .int x2), (0, .ref 112), (1, .int p2)], [])) rfl ?_
      obtain ⟨v8, I8, J8, h8, hb⟩ := oc_call hb
      have Kj8 : am_E (gG L xs) (d + 1) m_Model_isGood (48, [(0, .ref 112), (1, .int p2), (2, .int x2)], [.int v8]) (hX X I8 J8) P := by
        refine e_k 2 (f' := (50, [(3, .int v8), (0, .ref 112), (1, .int p2), (2, .int x2)], [.int x2])) rfl ?_
        obtain ⟨v11, I11, J11, h11, hb⟩ := oc_call hb
        refine r_cs (z := m_Model_longOf) (As := [.int x2]) (rest := []) rfl rfl rfl rfl rfl rfl (E_Model_longOf  h11 ⟨_, rfl, ?_⟩)
        refine e_k 2 (f' := (if v11 ≤ 2 then 68 else 57, [(3, .int v8), (0, .ref 112), (1, .int p2), (2, .int x2)], [])) rfl ?_
        obtain ⟨v13, I13, J13, h13, hb⟩ := oc_call hb
        have Kj13 : am_E (gG L xs) (d + 1) m_Model_isGood (69, [(0, .ref 112), (1, .int p2), (2, .int x2), (3, .int v8)], [.int v13]) (hX X I13 J13) P := by
          refine e_k 2 (f' := (72, [(4, .int v13), (0, .ref 112), (1, .int p2), (2, .int x2), (3, .int v8)], [.int x2])) rfl ?_
          obtain ⟨v16, I16, J16, h16, hb⟩ := oc_call hb
          refine r_cs (z := m_Model_longOf) (As := [.int x2]) (rest := []) rfl rfl rfl rfl rfl rfl (E_Model_longOf  h16 ⟨_, rfl, ?_⟩)
          refine e_k 2 (f' := (if v16 ≤ 3 then 90 else 79, [(4, .int v13), (0, .ref 112), (1, .int p2), (2, .int x2), (3, .int v8)], [])) rfl ?_
          obtain ⟨v18, I18, J18, h18, hb⟩ := oc_call hb
          have Kj18 : am_E (gG L xs) (d + 1) m_Model_isGood (91, [(0, .ref 112), (1, .int p2), (2, .int x2), (3, .int v8), (4, .int v13)], [.int v18]) (hX X I18 J18) P := by
            refine e_k 3 (f' := (am_sw x2 383 [(1, 216), (2, 275), (3, 275), (4, 383), (5, 383), (6, 383), (7, 383), (8, 383), (9, 383), (10, 383), (11, 275), (12, 275), (13, 287), (14, 308), (15, 275), (16, 275), (17, 275), (18, 383), (19, 327), (20, 327), (21, 327), (22, 327), (23, 338), (24, 338), (25, 338), (26, 364), (27, 275)], [(5, .int v18), (0, .ref 112), (1, .int p2), (2, .int x2), (3, .int v8), (4, .int v13)], [])) rfl ?_
            by_cases c21 : x2 = 1
            · rw [show am_sw x2 383 [(1, 216), (2, 275), (3, 275), (4, 383), (5, 383), (6, 383), (7, 383), (8, 383), (9, 383), (10, 383), (11, 275), (12, 275), (13, 287), (14, 308), (15, 275), (16, 275), (17, 275), (18, 383), (19, 327), (20, 327), (21, 327), (22, 327), (23, 338), (24, 338), (25, 338), (26, 364), (27, 275)] = 216 from by rw [c21]; rfl]
              replace hb := i_pos c21 hb
              refine e_k 4 (f' := (222, [(8, .int 1), (6, .long 0), (5, .int v18), (0, .ref 112), (1, .int p2), (2, .int x2), (3, .int v8), (4, .int v13)], [])) rfl ?_
              refine e_sub (ls := [(0, .ref 112), (1, .int p2), (6, .long 0), (8, .int 1)]) rfl ⟨rfl, rfl, rfl, rfl, trivial⟩ ?_
              obtain ⟨u25, I25, J25, h25, hb⟩ := oc_call hb
              refine E_Model_isGood_222  gF  h25 ?_
              refine e_k 4 (f' := (if (lg_cmp u25 0) < 0 then 273 else 260, [(6, .long u25)], [])) rfl ?_
              refine e_if (fun c26 => ?_) (fun c26 => ?_)
              · replace hb := i_pos c26 hb
                refine e_k 1 (f' := (274, [(6, .long u25)], [.int 0])) rfl ?_
                obtain ⟨rfl, rfl, rfl⟩ := s_inj hb
                exact e_r rfl rfl K
              · replace hb := i_neg c26 hb
                refine e_k 4 (f' := (if 0 ≤ (lg_cmp u25 2305843009213693951) then 273 else 269, [(6, .long u25)], [])) rfl ?_
                refine e_if (fun c27 => ?_) (fun c27 => ?_)
                · replace hb := i_pos c27 hb
                  refine e_k 1 (f' := (274, [(6, .long u25)], [.int 0])) rfl ?_
                  obtain ⟨rfl, rfl, rfl⟩ := s_inj hb
                  exact e_r rfl rfl K
                · replace hb := i_neg c27 hb
                  refine e_k 2 (f' := (274, [(6, .long u25)], [.int 1])) rfl ?_
                  obtain ⟨rfl, rfl, rfl⟩ := s_inj hb
                  exact e_r rfl rfl K
            replace hb := i_neg c21 hb
            by_cases c28 : x2 = 2 ∨ x2 = 3 ∨ x2 = 11 ∨ x2 = 12 ∨ x2 = 15 ∨ x2 = 16 ∨ x2 = 17 ∨ x2 = 27
            · rw [show am_sw x2 383 [(1, 216), (2, 275), (3, 275), (4, 383), (5, 383), (6, 383), (7, 383), (8, 383), (9, 383), (10, 383), (11, 275), (12, 275), (13, 287), (14, 308), (15, 275), (16, 275), (17, 275), (18, 383), (19, 327), (20, 327), (21, 327), (22, 327), (23, 338), (24, 338), (25, 338), (26, 364), (27, 275)] = 275 from by rcases c28 with c28 | c28 | c28 | c28 | c28 | c28 | c28 | c28 <;> rw [c28] <;> rfl]
              replace hb := i_pos c28 hb
              refine e_k 3 (f' := (if 13 ≤ v8 then 285 else 281, [(5, .int v18), (0, .ref 112), (1, .int p2), (2, .int x2), (3, .int v8), (4, .int v13)], [])) rfl ?_
              refine e_if (fun c29 => ?_) (fun c29 => ?_)
              · replace hb := i_pos c29 hb
                refine e_k 1 (f' := (286, [(5, .int v18), (0, .ref 112), (1, .int p2), (2, .int x2), (3, .int v8), (4, .int v13)], [.int 0])) rfl ?_
                obtain ⟨rfl, rfl, rfl⟩ := s_inj hb
                exact e_r rfl rfl K
              · replace hb := i_neg c29 hb
                refine e_k 2 (f' := (286, [(5, .int v18), (0, .ref 112), (1, .int p2), (2, .int x2), (3, .int v8), (4, .int v13)], [.int 1])) rfl ?_
                obtain ⟨rfl, rfl, rfl⟩ := s_inj hb
                exact e_r rfl rfl K
            replace hb := i_neg c28 hb
            by_cases c30 : x2 = 13
            · rw [show am_sw x2 383 [(1, 216), (2, 275), (3, 275), (4, 383), (5, 383), (6, 383), (7, 383), (8, 383), (9, 383), (10, 383), (11, 275), (12, 275), (13, 287), (14, 308), (15, 275), (16, 275), (17, 275), (18, 383), (19, 327), (20, 327), (21, 327), (22, 327), (23, 338), (24, 338), (25, 338), (26, 364), (27, 275)] = 287 from by rw [c30]; rfl]
              replace hb := i_pos c30 hb
              refine e_k 3 (f' := (if 13 ≤ v8 then 306 else 293, [(5, .int v18), (0, .ref 112), (1, .int p2), (2, .int x2), (3, .int v8), (4, .int v13)], [])) rfl ?_
              refine e_if (fun c31 => ?_) (fun c31 => ?_)
              · replace hb := i_pos c31 hb
                refine e_k 1 (f' := (307, [(5, .int v18), (0, .ref 112), (1, .int p2), (2, .int x2), (3, .int v8), (4, .int v13)], [.int 0])) rfl ?_
                obtain ⟨rfl, rfl, rfl⟩ := s_inj hb
                exact e_r rfl rfl K
              · replace hb := i_neg c31 hb
                refine e_k 2 (f' := (296, [(5, .int v18), (0, .ref 112), (1, .int p2), (2, .int x2), (3, .int v8), (4, .int v13)], [.ref 112, .int v13])) rfl ?_
                refine r_geti rfl (x_ltn rfl) rfl rfl ?_
                refine e_k 1 (f' := (if (I18 112 16) ≤ v13 then 306 else 302, [(5, .int v18), (0, .ref 112), (1, .int p2), (2, .int x2), (3, .int v8), (4, .int v13)], [])) rfl ?_
                refine e_if (fun c32 => ?_) (fun c32 => ?_)
                · replace hb := i_pos c32 hb
                  refine e_k 1 (f' := (307, [(5, .int v18), (0, .ref 112), (1, .int p2), (2, .int x2), (3, .int v8), (4, .int v13)], [.int 0])) rfl ?_
                  obtain ⟨rfl, rfl, rfl⟩ := s_inj hb
                  exact e_r rfl rfl K
                · replace hb := i_neg c32 hb
                  refine e_k 2 (f' := (307, [(5, .int v18), (0, .ref 112), (1, .int p2), (2, .int x2), (3, .int v8), (4, .int v13)], [.int 1])) rfl ?_
                  obtain ⟨rfl, rfl, rfl⟩ := s_inj hb
                  exact e_r rfl rfl K
            replace hb := i_neg c30 hb
            by_cases c33 : x2 = 14
            · rw [show am_sw x2 383 [(1, 216), (2, 275), (3, 275), (4, 383), (5, 383), (6, 383), (7, 383), (8, 383), (9, 383), (10, 383), (11, 275), (12, 275), (13, 287), (14, 308), (15, 275), (16, 275), (17, 275), (18, 383), (19, 327), (20, 327), (21, 327), (22, 327), (23, 338), (24, 338), (25, 338), (26, 364), (27, 275)] = 308 from by rw [c33]; rfl]
              replace hb := i_pos c33 hb
              refine e_k 3 (f' := (if 13 ≤ v8 then 325 else 314, [(5, .int v18), (0, .ref 112), (1, .int p2), (2, .int x2), (3, .int v8), (4, .int v13)], [])) rfl ?_
              refine e_if (fun c34 => ?_) (fun c34 => ?_)
              · replace hb := i_pos c34 hb
                refine e_k 1 (f' := (326, [(5, .int v18), (0, .ref 112), (1, .int p2), (2, .int x2), (3, .int v8), (4, .int v13)], [.int 0])) rfl ?_
                obtain ⟨rfl, rfl, rfl⟩ := s_inj hb
                exact e_r rfl rfl K
              · replace hb := i_neg c34 hb
                refine e_k 3 (f' := (if 13 ≤ v13 then 325 else 321, [(5, .int v18), (0, .ref 112), (1, .int p2), (2, .int x2), (3, .int v8), (4, .int v13)], [])) rfl ?_
                refine e_if (fun c35 => ?_) (fun c35 => ?_)
                · replace hb := i_pos c35 hb
                  refine e_k 1 (f' := (326, [(5, .int v18), (0, .ref 112), (1, .int p2), (2, .int x2), (3, .int v8), (4, .int v13)], [.int 0])) rfl ?_
                  obtain ⟨rfl, rfl, rfl⟩ := s_inj hb
                  exact e_r rfl rfl K
                · replace hb := i_neg c35 hb
                  refine e_k 2 (f' := (326, [(5, .int v18), (0, .ref 112), (1, .int p2), (2, .int x2), (3, .int v8), (4, .int v13)], [.int 1])) rfl ?_
                  obtain ⟨rfl, rfl, rfl⟩ := s_inj hb
                  exact e_r rfl rfl K
            replace hb := i_neg c33 hb
            by_cases c36 : x2 = 19 ∨ x2 = 20 ∨ x2 = 21 ∨ x2 = 22
            · rw [show am_sw x2 383 [(1, 216), (2, 275), (3, 275), (4, 383), (5, 383), (6, 383), (7, 383), (8, 383), (9, 383), (10, 383), (11, 275), (12, 275), (13, 287), (14, 308), (15, 275), (16, 275), (17, 275), (18, 383), (19, 327), (20, 327), (21, 327), (22, 327), (23, 338), (24, 338), (25, 338), (26, 364), (27, 275)] = 327 from by rcases c36 with c36 | c36 | c36 | c36 <;> rw [c36] <;> rfl]
              replace hb := i_pos c36 hb
              refine e_k 3 (f' := (if 4 ≤ v8 then 336 else 332, [(5, .int v18), (0, .ref 112), (1, .int p2), (2, .int x2), (3, .int v8), (4, .int v13)], [])) rfl ?_
              refine e_if (fun c37 => ?_) (fun c37 => ?_)
              · replace hb := i_pos c37 hb
                refine e_k 1 (f' := (337, [(5, .int v18), (0, .ref 112), (1, .int p2), (2, .int x2), (3, .int v8), (4, .int v13)], [.int 0])) rfl ?_
                obtain ⟨rfl, rfl, rfl⟩ := s_inj hb
                exact e_r rfl rfl K
              · replace hb := i_neg c37 hb
                refine e_k 2 (f' := (337, [(5, .int v18), (0, .ref 112), (1, .int p2), (2, .int x2), (3, .int v8), (4, .int v13)], [.int 1])) rfl ?_
                obtain ⟨rfl, rfl, rfl⟩ := s_inj hb
                exact e_r rfl rfl K
            replace hb := i_neg c36 hb
            by_cases c38 : x2 = 23 ∨ x2 = 24 ∨ x2 = 25
            · rw [show am_sw x2 383 [(1, 216), (2, 275), (3, 275), (4, 383), (5, 383), (6, 383), (7, 383), (8, 383), (9, 383), (10, 383), (11, 275), (12, 275), (13, 287), (14, 308), (15, 275), (16, 275), (17, 275), (18, 383), (19, 327), (20, 327), (21, 327), (22, 327), (23, 338), (24, 338), (25, 338), (26, 364), (27, 275)] = 338 from by rcases c38 with c38 | c38 | c38 <;> rw [c38] <;> rfl]
              replace hb := i_pos c38 hb
              refine e_k 3 (f' := (if 8 ≤ v8 then 362 else 344, [(5, .int v18), (0, .ref 112), (1, .int p2), (2, .int x2), (3, .int v8), (4, .int v13)], [])) rfl ?_
              refine e_if (fun c39 => ?_) (fun c39 => ?_)
              · replace hb := i_pos c39 hb
                refine e_k 1 (f' := (363, [(5, .int v18), (0, .ref 112), (1, .int p2), (2, .int x2), (3, .int v8), (4, .int v13)], [.int 0])) rfl ?_
                obtain ⟨rfl, rfl, rfl⟩ := s_inj hb
                exact e_r rfl rfl K
              · replace hb := i_neg c39 hb
                refine e_k 3 (f' := (if 8 ≤ v13 then 362 else 351, [(5, .int v18), (0, .ref 112), (1, .int p2), (2, .int x2), (3, .int v8), (4, .int v13)], [])) rfl ?_
                refine e_if (fun c40 => ?_) (fun c40 => ?_)
                · replace hb := i_pos c40 hb
                  refine e_k 1 (f' := (363, [(5, .int v18), (0, .ref 112), (1, .int p2), (2, .int x2), (3, .int v8), (4, .int v13)], [.int 0])) rfl ?_
                  obtain ⟨rfl, rfl, rfl⟩ := s_inj hb
                  exact e_r rfl rfl K
                · replace hb := i_neg c40 hb
                  refine e_k 3 (f' := (if 8 ≤ v18 then 362 else 358, [(5, .int v18), (0, .ref 112), (1, .int p2), (2, .int x2), (3, .int v8), (4, .int v13)], [])) rfl ?_
                  refine e_if (fun c41 => ?_) (fun c41 => ?_)
                  · replace hb := i_pos c41 hb
                    refine e_k 1 (f' := (363, [(5, .int v18), (0, .ref 112), (1, .int p2), (2, .int x2), (3, .int v8), (4, .int v13)], [.int 0])) rfl ?_
                    obtain ⟨rfl, rfl, rfl⟩ := s_inj hb
                    exact e_r rfl rfl K
                  · replace hb := i_neg c41 hb
                    refine e_k 2 (f' := (363, [(5, .int v18), (0, .ref 112), (1, .int p2), (2, .int x2), (3, .int v8), (4, .int v13)], [.int 1])) rfl ?_
                    obtain ⟨rfl, rfl, rfl⟩ := s_inj hb
                    exact e_r rfl rfl K
            replace hb := i_neg c38 hb
            by_cases c42 : x2 = 26
            · rw [show am_sw x2 383 [(1, 216), (2, 275), (3, 275), (4, 383), (5, 383), (6, 383), (7, 383), (8, 383), (9, 383), (10, 383), (11, 275), (12, 275), (13, 287), (14, 308), (15, 275), (16, 275), (17, 275), (18, 383), (19, 327), (20, 327), (21, 327), (22, 327), (23, 338), (24, 338), (25, 338), (26, 364), (27, 275)] = 364 from by rw [c42]; rfl]
              replace hb := i_pos c42 hb
              refine e_k 3 (f' := (if 8 ≤ v8 then 381 else 370, [(5, .int v18), (0, .ref 112), (1, .int p2), (2, .int x2), (3, .int v8), (4, .int v13)], [])) rfl ?_
              refine e_if (fun c43 => ?_) (fun c43 => ?_)
              · replace hb := i_pos c43 hb
                refine e_k 1 (f' := (382, [(5, .int v18), (0, .ref 112), (1, .int p2), (2, .int x2), (3, .int v8), (4, .int v13)], [.int 0])) rfl ?_
                obtain ⟨rfl, rfl, rfl⟩ := s_inj hb
                exact e_r rfl rfl K
              · replace hb := i_neg c43 hb
                refine e_k 3 (f' := (if 8 ≤ v13 then 381 else 377, [(5, .int v18), (0, .ref 112), (1, .int p2), (2, .int x2), (3, .int v8), (4, .int v13)], [])) rfl ?_
                refine e_if (fun c44 => ?_) (fun c44 => ?_)
                · replace hb := i_pos c44 hb
                  refine e_k 1 (f' := (382, [(5, .int v18), (0, .ref 112), (1, .int p2), (2, .int x2), (3, .int v8), (4, .int v13)], [.int 0])) rfl ?_
                  obtain ⟨rfl, rfl, rfl⟩ := s_inj hb
                  exact e_r rfl rfl K
                · replace hb := i_neg c44 hb
                  refine e_k 2 (f' := (382, [(5, .int v18), (0, .ref 112), (1, .int p2), (2, .int x2), (3, .int v8), (4, .int v13)], [.int 1])) rfl ?_
                  obtain ⟨rfl, rfl, rfl⟩ := s_inj hb
                  exact e_r rfl rfl K
            replace hb := i_neg c42 hb
            rw [show am_sw x2 383 [(1, 216), (2, 275), (3, 275), (4, 383), (5, 383), (6, 383), (7, 383), (8, 383), (9, 383), (10, 383), (11, 275), (12, 275), (13, 287), (14, 308), (15, 275), (16, 275), (17, 275), (18, 383), (19, 327), (20, 327), (21, 327), (22, 327), (23, 338), (24, 338), (25, 338), (26, 364), (27, 275)] = 383 from (am_swd c21 (am_swd (fun e => c28 (Or.inl e)) (am_swd (fun e => c28 (Or.inr (Or.inl e))) (am_swe (am_swe (am_swe (am_swe (am_swe (am_swe (am_swe (am_swd (fun e => c28 (Or.inr (Or.inr (Or.inl e)))) (am_swd (fun e => c28 (Or.inr (Or.inr (Or.inr (Or.inl e))))) (am_swd c30 (am_swd c33 (am_swd (fun e => c28 (Or.inr (Or.inr (Or.inr (Or.inr (Or.inl e)))))) (am_swd (fun e => c28 (Or.inr (Or.inr (Or.inr (Or.inr (Or.inr (Or.inl e))))))) (am_swd (fun e => c28 (Or.inr (Or.inr (Or.inr (Or.inr (Or.inr (Or.inr (Or.inl e)))))))) (am_swe (am_swd (fun e => c36 (Or.inl e)) (am_swd (fun e => c36 (Or.inr (Or.inl e))) (am_swd (fun e => c36 (Or.inr (Or.inr (Or.inl e)))) (am_swd (fun e => c36 (Or.inr (Or.inr (Or.inr e)))) (am_swd (fun e => c38 (Or.inl e)) (am_swd (fun e => c38 (Or.inr (Or.inl e))) (am_swd (fun e => c38 (Or.inr (Or.inr e))) (am_swd c42 (am_swd (fun e => c28 (Or.inr (Or.inr (Or.inr (Or.inr (Or.inr (Or.inr (Or.inr e)))))))) rfl)))))))))))))))))))))))))))]
            refine e_k 1 (f' := (384, [(5, .int v18), (0, .ref 112), (1, .int p2), (2, .int x2), (3, .int v8), (4, .int v13)], [.int 1])) rfl ?_
            obtain ⟨rfl, rfl, rfl⟩ := s_inj hb
            exact e_r rfl rfl K
          clear hb
          refine e_if (fun c19 => ?_) (fun c19 => ?_)
          · replace h18 := i_pos c19 h18
            refine e_k 1 (f' := (91, [(4, .int v13), (0, .ref 112), (1, .int p2), (2, .int x2), (3, .int v8)], [.int 0])) rfl ?_
            refine e_sub (ls := [(0, .ref 112), (1, .int p2), (2, .int x2), (3, .int v8), (4, .int v13)]) rfl ⟨rfl, rfl, rfl, rfl, rfl, trivial⟩ ?_
            obtain ⟨rfl, rfl, rfl⟩ := s_inj h18
            exact Kj18
          · replace h18 := i_neg c19 h18
            refine e_k 1 (f' := (80, [(4, .int v13), (0, .ref 112), (1, .int p2), (2, .int x2), (3, .int v8)], [.ref 112])) rfl ?_
            refine r_getr rfl (x_ltn rfl) rfl rfl ?_
            refine e_k 3 (f' := (86, [(4, .int v13), (0, .ref 112), (1, .int p2), (2, .int x2), (3, .int v8)], [.int (p2 + 3), .ref 116])) rfl ?_
            obtain ⟨o20, h18⟩ := ob_in h18
            refine r_iald rfl rfl (x_ltn rfl) rfl o20 ?_
            refine e_k 1 (f' := (91, [(4, .int v13), (0, .ref 112), (1, .int p2), (2, .int x2), (3, .int v8)], [.int (I16 116 (Int32.toNatClampNeg (p2 + 3)))])) rfl ?_
            refine e_sub (ls := [(0, .ref 112), (1, .int p2), (2, .int x2), (3, .int v8), (4, .int v13)]) rfl ⟨rfl, rfl, rfl, rfl, rfl, trivial⟩ ?_
            obtain ⟨rfl, rfl, rfl⟩ := s_inj h18
            exact Kj18
        clear hb
        refine e_if (fun c14 => ?_) (fun c14 => ?_)
        · replace h13 := i_pos c14 h13
          refine e_k 1 (f' := (69, [(3, .int v8), (0, .ref 112), (1, .int p2), (2, .int x2)], [.int 0])) rfl ?_
          refine e_sub (ls := [(0, .ref 112), (1, .int p2), (2, .int x2), (3, .int v8)]) rfl ⟨rfl, rfl, rfl, rfl, trivial⟩ ?_
          obtain ⟨rfl, rfl, rfl⟩ := s_inj h13
          exact Kj13
        · replace h13 := i_neg c14 h13
          refine e_k 1 (f' := (58, [(3, .int v8), (0, .ref 112), (1, .int p2), (2, .int x2)], [.ref 112])) rfl ?_
          refine r_getr rfl (x_ltn rfl) rfl rfl ?_
          refine e_k 3 (f' := (64, [(3, .int v8), (0, .ref 112), (1, .int p2), (2, .int x2)], [.int (p2 + 2), .ref 116])) rfl ?_
          obtain ⟨o15, h13⟩ := ob_in h13
          refine r_iald rfl rfl (x_ltn rfl) rfl o15 ?_
          refine e_k 1 (f' := (69, [(3, .int v8), (0, .ref 112), (1, .int p2), (2, .int x2)], [.int (I11 116 (Int32.toNatClampNeg (p2 + 2)))])) rfl ?_
          refine e_sub (ls := [(0, .ref 112), (1, .int p2), (2, .int x2), (3, .int v8)]) rfl ⟨rfl, rfl, rfl, rfl, trivial⟩ ?_
          obtain ⟨rfl, rfl, rfl⟩ := s_inj h13
          exact Kj13
      clear hb
      refine e_if (fun c9 => ?_) (fun c9 => ?_)
      · replace h8 := i_pos c9 h8
        refine e_k 1 (f' := (48, [(2, .int x2), (0, .ref 112), (1, .int p2)], [.int 0])) rfl ?_
        refine e_sub (ls := [(0, .ref 112), (1, .int p2), (2, .int x2)]) rfl ⟨rfl, rfl, rfl, trivial⟩ ?_
        obtain ⟨rfl, rfl, rfl⟩ := s_inj h8
        exact Kj8
      · replace h8 := i_neg c9 h8
        refine e_k 1 (f' := (37, [(2, .int x2), (0, .ref 112), (1, .int p2)], [.ref 112])) rfl ?_
        refine r_getr rfl (x_ltn rfl) rfl rfl ?_
        refine e_k 3 (f' := (43, [(2, .int x2), (0, .ref 112), (1, .int p2)], [.int (p2 + 1), .ref 116])) rfl ?_
        obtain ⟨o10, h8⟩ := ob_in h8
        refine r_iald rfl rfl (x_ltn rfl) rfl o10 ?_
        refine e_k 1 (f' := (48, [(2, .int x2), (0, .ref 112), (1, .int p2)], [.int (I6 116 (Int32.toNatClampNeg (p2 + 1)))])) rfl ?_
        refine e_sub (ls := [(0, .ref 112), (1, .int p2), (2, .int x2)]) rfl ⟨rfl, rfl, rfl, trivial⟩ ?_
        obtain ⟨rfl, rfl, rfl⟩ := s_inj h8
        exact Kj8
    · replace hb := i_neg c5 hb
      refine e_k 1 (f' := (27, [(2, .int x2), (0, .ref 112), (1, .int p2)], [.int 0])) rfl ?_
      obtain ⟨rfl, rfl, rfl⟩ := s_inj hb
      exact e_r rfl rfl K
def f_Model_goalOf (a1 : Nat) (m1 : Nat) (p2 : Int32) (I : MI) (J : MJ) : M2 Int32 := if p2 < 0 ∨ m1 ≤ Int32.toNatClampNeg p2 then none else (if ¬ (I a1 (Int32.toNatClampNeg p2)) = 17 then (if (p2 + 1) < 0 ∨ m1 ≤ Int32.toNatClampNeg (p2 + 1) then none else (if (p2 + 2) < 0 ∨ m1 ≤ Int32.toNatClampNeg (p2 + 2) then none else (some ((256 * (I a1 (Int32.toNatClampNeg (p2 + 1)))) + (I a1 (Int32.toNatClampNeg (p2 + 2))), I, J)))) else (if (p2 + 2) < 0 ∨ m1 ≤ Int32.toNatClampNeg (p2 + 2) then none else (if (p2 + 3) < 0 ∨ m1 ≤ Int32.toNatClampNeg (p2 + 3) then none else (some ((256 * (I a1 (Int32.toNatClampNeg (p2 + 2)))) + (I a1 (Int32.toNatClampNeg (p2 + 3))), I, J)))))
theorem E_Model_goalOf {a1 : Nat} {m1 : Nat} {p2 : Int32} {X : MX} {I : MI} {J : MJ} {v : Int32} {I' : MI} {J' : MJ} (hA_a1 : isArr X 0 a1 m1) (hb : f_Model_goalOf a1 m1 p2 I J = some (v, I', J')) (K : P (.inl (some (.int v))) (hX X I' J')) : am_E (gG L xs) d m_Model_goalOf (0, lv_args 0 [.ref a1, .int p2], []) (hX X I J) P := by
  unfold f_Model_goalOf at hb
  refine e_k 2 (f' := (2, [(0, .ref a1), (1, .int p2)], [.int p2, .ref a1])) rfl ?_
  obtain ⟨o1, hb⟩ := ob_in hb
  refine r_iald rfl hA_a1.2.1 hA_a1.1 hA_a1.2.2 o1 ?_
  refine e_k 2 (f' := (if ¬ (I a1 (Int32.toNatClampNeg p2)) = 17 then 26 else 8, [(0, .ref a1), (1, .int p2)], [])) rfl ?_
  refine e_if (fun c2 => ?_) (fun c2 => ?_)
  · replace hb := i_pos c2 hb
    refine e_k 5 (f' := (33, [(0, .ref a1), (1, .int p2)], [.int (p2 + 1), .ref a1, .int 256])) rfl ?_
    obtain ⟨o3, hb⟩ := ob_in hb
    refine r_iald rfl hA_a1.2.1 hA_a1.1 hA_a1.2.2 o3 ?_
    refine e_k 5 (f' := (39, [(0, .ref a1), (1, .int p2)], [.int (p2 + 2), .ref a1, .int (256 * (I a1 (Int32.toNatClampNeg (p2 + 1))))])) rfl ?_
    obtain ⟨o4, hb⟩ := ob_in hb
    refine r_iald rfl hA_a1.2.1 hA_a1.1 hA_a1.2.2 o4 ?_
    refine e_k 1 (f' := (41, [(0, .ref a1), (1, .int p2)], [.int ((256 * (I a1 (Int32.toNatClampNeg (p2 + 1)))) + (I a1 (Int32.toNatClampNeg (p2 + 2))))])) rfl ?_
    obtain ⟨rfl, rfl, rfl⟩ := s_inj hb
    exact e_r rfl rfl K
  · replace hb := i_neg c2 hb
    refine e_k 5 (f' := (15, [(0, .ref a1), (1, .int p2)], [.int (p2 + 2), .ref a1, .int 256])) rfl ?_
    obtain ⟨o5, hb⟩ := ob_in hb
    refine r_iald rfl hA_a1.2.1 hA_a1.1 hA_a1.2.2 o5 ?_
    refine e_k 5 (f' := (21, [(0, .ref a1), (1, .int p2)], [.int (p2 + 3), .ref a1, .int (256 * (I a1 (Int32.toNatClampNeg (p2 + 2))))])) rfl ?_
    obtain ⟨o6, hb⟩ := ob_in hb
    refine r_iald rfl hA_a1.2.1 hA_a1.1 hA_a1.2.2 o6 ?_
    refine e_k 2 (f' := (41, [(0, .ref a1), (1, .int p2)], [.int ((256 * (I a1 (Int32.toNatClampNeg (p2 + 2)))) + (I a1 (Int32.toNatClampNeg (p2 + 3))))])) rfl ?_
    obtain ⟨rfl, rfl, rfl⟩ := s_inj hb
    exact e_r rfl rfl K
def f_Model_gives (p2 : Int32) (I : MI) (J : MJ) : M2 Int32 := pl ((if p2 = 0 then (0) else (1)) : Int64) (fun v2 => pl (va_up J 112 (vp_updL (J 112) 83 (((J 112 83) <<< ((Int32.toInt64 1) &&& 63)) ||| v2))) (fun J4 => pl (va_up I 112 (upd (I 112) 84 ((I 112 84) + 1))) (fun I5 => if 64 < (I5 112 84) then (some (0, I5, J4)) else (some (1, I5, J4)))))
theorem E_Model_gives {p2 : Int32} {X : MX} {I : MI} {J : MJ} {v : Int32} {I' : MI} {J' : MJ} (hb : f_Model_gives p2 I J = some (v, I', J')) (K : P (.inl (some (.int v))) (hX X I' J')) : am_E (gG L xs) d m_Model_gives (0, lv_args 0 [.ref 112, .int p2], []) (hX X I J) P := by
  unfold f_Model_gives at hb
  refine e_k 2 (f' := (2, [(0, .ref 112), (1, .int p2)], [.ref 112, .ref 112])) rfl ?_
  refine r_getl rfl (x_ltn rfl) rfl rfl ?_
  refine e_k 4 (f' := (if p2 = 0 then 15 else 11, [(0, .ref 112), (1, .int p2)], [.long ((J 112 83) <<< ((Int32.toInt64 1) &&& 63)), .ref 112])) rfl ?_
  obtain ⟨v2, h2, hb⟩ := p_nn hb
  have Kj2 : am_E (gG L xs) d m_Model_gives (16, [(0, .ref 112)], [.long v2, .long ((J 112 83) <<< ((Int32.toInt64 1) &&& 63)), .ref 112]) (hX X I J) P := by
    refine e_k 1 (f' := (17, [(0, .ref 112)], [.long (((J 112 83) <<< ((Int32.toInt64 1) &&& 63)) ||| v2), .ref 112])) rfl ?_
    obtain ⟨J4, eJ4, hb⟩ := p_nm hb
    refine r_putl' rfl (x_ltn rfl) rfl rfl eJ4 ?_
    refine e_k 2 (f' := (22, [(0, .ref 112)], [.ref 112, .ref 112])) rfl ?_
    refine r_geti rfl (x_ltn rfl) rfl rfl ?_
    refine e_k 2 (f' := (27, [(0, .ref 112)], [.int ((I 112 84) + 1), .ref 112])) rfl ?_
    obtain ⟨I5, eI5, hb⟩ := p_nm hb
    refine r_puti' rfl (x_ltn rfl) rfl rfl eI5 ?_
    refine e_k 1 (f' := (31, [(0, .ref 112)], [.ref 112])) rfl ?_
    refine r_geti rfl (x_ltn rfl) rfl rfl ?_
    refine e_k 2 (f' := (if 64 < (I5 112 84) then 43 else 39, [(0, .ref 112)], [])) rfl ?_
    refine e_if (fun c6 => ?_) (fun c6 => ?_)
    · replace hb := i_pos c6 hb
      refine e_k 1 (f' := (44, [(0, .ref 112)], [.int 0])) rfl ?_
      obtain ⟨rfl, rfl, rfl⟩ := s_inj hb
      exact e_r rfl rfl K
    · replace hb := i_neg c6 hb
      refine e_k 2 (f' := (44, [(0, .ref 112)], [.int 1])) rfl ?_
      obtain ⟨rfl, rfl, rfl⟩ := s_inj hb
      exact e_r rfl rfl K
  clear hb
  refine e_if (fun c3 => ?_) (fun c3 => ?_)
  · replace h2 := i_pos c3 h2
    refine e_k 1 (f' := (16, [(0, .ref 112), (1, .int p2)], [.long 0, .long ((J 112 83) <<< ((Int32.toInt64 1) &&& 63)), .ref 112])) rfl ?_
    refine e_sub (ls := [(0, .ref 112)]) rfl ⟨rfl, trivial⟩ ?_
    subst h2
    exact Kj2
  · replace h2 := i_neg c3 h2
    refine e_k 2 (f' := (16, [(0, .ref 112), (1, .int p2)], [.long 1, .long ((J 112 83) <<< ((Int32.toInt64 1) &&& 63)), .ref 112])) rfl ?_
    refine e_sub (ls := [(0, .ref 112)]) rfl ⟨rfl, trivial⟩ ?_
    subst h2
    exact Kj2
def f_Model_drops (I : MI) (J : MJ) : M2 Int32 := pl ((if ¬ (lg_cmp ((J 112 83) &&& 1) 1) = 0 then (0) else (1)) : Int32) (fun v2 => pl (va_up J 112 (vp_updL (J 112) 83 ((Int64.toUInt64 (J 112 83) >>> (Int64.toUInt64 (Int32.toInt64 1) &&& Int64.toUInt64 63)).toInt64))) (fun J4 => pl (va_up I 112 (upd (I 112) 84 ((I 112 84) - 1))) (fun I5 => if v2 = 0 ∨ v2 = 1 then some (v2, I5, J4) else none)))
theorem E_Model_drops {X : MX} {I : MI} {J : MJ} {v : Int32} {I' : MI} {J' : MJ} (hb : f_Model_drops  I J = some (v, I', J')) (K : P (.inl (some (.int v))) (hX X I' J')) : am_E (gG L xs) d m_Model_drops (0, lv_args 0 [.ref 112], []) (hX X I J) P := by
  unfold f_Model_drops at hb
  refine e_k 1 (f' := (1, [(0, .ref 112)], [.ref 112])) rfl ?_
  refine r_getl rfl (x_ltn rfl) rfl rfl ?_
  refine e_k 5 (f' := (if ¬ (lg_cmp ((J 112 83) &&& 1) 1) = 0 then 15 else 11, [(0, .ref 112)], [])) rfl ?_
  obtain ⟨v2, h2, hb⟩ := p_nn hb
  have Kj2 : am_E (gG L xs) d m_Model_drops (16, [(0, .ref 112)], [.int v2]) (hX X I J) P := by
    refine e_k 3 (f' := (19, [(1, .int v2), (0, .ref 112)], [.ref 112, .ref 112])) rfl ?_
    refine r_getl rfl (x_ltn rfl) rfl rfl ?_
    refine e_k 2 (f' := (24, [(1, .int v2), (0, .ref 112)], [.long ((Int64.toUInt64 (J 112 83) >>> (Int64.toUInt64 (Int32.toInt64 1) &&& Int64.toUInt64 63)).toInt64), .ref 112])) rfl ?_
    obtain ⟨J4, eJ4, hb⟩ := p_nm hb
    refine r_putl' rfl (x_ltn rfl) rfl rfl eJ4 ?_
    refine e_k 2 (f' := (29, [(1, .int v2), (0, .ref 112)], [.ref 112, .ref 112])) rfl ?_
    refine r_geti rfl (x_ltn rfl) rfl rfl ?_
    refine e_k 2 (f' := (34, [(1, .int v2), (0, .ref 112)], [.int ((I 112 84) - 1), .ref 112])) rfl ?_
    obtain ⟨I5, eI5, hb⟩ := p_nm hb
    refine r_puti' rfl (x_ltn rfl) rfl rfl eI5 ?_
    refine e_k 1 (f' := (38, [(1, .int v2), (0, .ref 112)], [.int v2])) rfl ?_
    obtain ⟨o6, hb⟩ := ob_if hb
    obtain ⟨rfl, rfl, rfl⟩ := s_inj hb
    exact e_r rfl (if_pos o6) K
  clear hb
  refine e_if (fun c3 => ?_) (fun c3 => ?_)
  · replace h2 := i_pos c3 h2
    refine e_k 1 (f' := (16, [(0, .ref 112)], [.int 0])) rfl ?_
    refine e_sub (ls := [(0, .ref 112)]) rfl ⟨rfl, trivial⟩ ?_
    subst h2
    exact Kj2
  · replace h2 := i_neg c3 h2
    refine e_k 2 (f' := (16, [(0, .ref 112)], [.int 1])) rfl ?_
    refine e_sub (ls := [(0, .ref 112)]) rfl ⟨rfl, trivial⟩ ?_
    subst h2
    exact Kj2
def f_Model_flows (p2 : Int32) (I : MI) (J : MJ) : M2 Int32 := if p2 < 0 ∨ 2000 ≤ Int32.toNatClampNeg p2 then none else (pl (I 116 (Int32.toNatClampNeg p2) : Int32) (fun x2 => pl ((if x2 < 4 then (if x2 = 21 then (2) else (if ¬ x2 = 22 then (if x2 < 8 then (if x2 = 19 then (1) else (if ¬ x2 = 20 then (0) else (1))) else (if x2 ≤ 12 then (1) else (if x2 = 19 then (1) else (if ¬ x2 = 20 then (0) else (1))))) else (2))) else (if x2 ≤ 7 then (2) else (if x2 = 21 then (2) else (if ¬ x2 = 22 then (if x2 < 8 then (if x2 = 19 then (1) else (if ¬ x2 = 20 then (0) else (1))) else (if x2 ≤ 12 then (1) else (if x2 = 19 then (1) else (if ¬ x2 = 20 then (0) else (1))))) else (2))))) : Int32) (fun v5 => if v5 ≤ (I 112 84) then (if x2 = 1 then (oc (f_Model_gives 0 I J) (fun v26 I26 J26 => if v26 = 0 ∨ v26 = 1 then some (v26, I26, J26) else none)) else (if ¬ x2 = 2 then (if x2 = 3 then (oc (f_Model_gives 1 I J) (fun v30 I30 J30 => if v30 = 0 ∨ v30 = 1 then some (v30, I30, J30) else none)) else (if ¬ x2 = 26 then (if x2 < 23 then (if ¬ v5 = 0 then (oc (f_Model_drops  I J) (fun v35 I35 J35 => if ¬ v5 = 2 then (if ¬ x2 = 11 then (if ¬ x2 = 12 then (pl ((if x2 = 8 then (1) else (if ¬ x2 = 10 then (if ¬ v35 = 0 then (0) else (1)) else (if v35 = 0 then (0) else (1)))) : Int32) (fun v40 => pl ((if ¬ x2 = 8 then (if x2 = 10 then (1) else (if ¬ x2 = 20 then (0) else (1))) else (v35)) : Int32) (fun v47 => oc (f_Model_gives v47 I35 J35) (fun v51 I51 J51 => if v51 = 0 then (some (0, I51, J51)) else (if v40 = 0 then (some (0, I51, J51)) else (some (1, I51, J51))))))) else (some (1, I35, J35))) else (if ¬ v35 = 0 then (some (0, I35, J35)) else (some (1, I35, J35)))) else (oc (f_Model_drops  I35 J35) (fun v55 I55 J55 => if ¬ x2 = 21 then (if ¬ x2 = 22 then (pl ((if ¬ x2 = 6 then (if ¬ x2 = 7 then (1) else (if v35 = 0 then (0) else (if v55 = 0 then (0) else (1)))) else (if v35 = 0 then (1) else (if ¬ v55 = 0 then (0) else (1)))) : Int32) (fun v60 => pl ((if ¬ v35 = 0 then (1) else (if v55 = 0 then (0) else (1))) : Int32) (fun v68 => oc (f_Model_gives v68 I55 J55) (fun v71 I71 J71 => if v71 = 0 then (some (0, I71, J71)) else (if v60 = 0 then (some (0, I71, J71)) else (some (1, I71, J71))))))) else (if ¬ v55 = 0 then (some (0, I55, J55)) else (some (1, I55, J55)))) else (if ¬ v35 = 0 then (some (0, I55, J55)) else (if ¬ v55 = 0 then (some (0, I55, J55)) else (some (1, I55, J55)))))))) else (some (1, I, J))) else (if 25 < x2 then (if ¬ v5 = 0 then (oc (f_Model_drops  I J) (fun v79 I79 J79 => if ¬ v5 = 2 then (if ¬ x2 = 11 then (if ¬ x2 = 12 then (pl ((if x2 = 8 then (1) else (if ¬ x2 = 10 then (if ¬ v79 = 0 then (0) else (1)) else (if v79 = 0 then (0) else (1)))) : Int32) (fun v84 => pl ((if ¬ x2 = 8 then (if x2 = 10 then (1) else (if ¬ x2 = 20 then (0) else (1))) else (v79)) : Int32) (fun v91 => oc (f_Model_gives v91 I79 J79) (fun v95 I95 J95 => if v95 = 0 then (some (0, I95, J95)) else (if v84 = 0 then (some (0, I95, J95)) else (some (1, I95, J95))))))) else (some (1, I79, J79))) else (if ¬ v79 = 0 then (some (0, I79, J79)) else (some (1, I79, J79)))) else (oc (f_Model_drops  I79 J79) (fun v99 I99 J99 => if ¬ x2 = 21 then (if ¬ x2 = 22 then (pl ((if ¬ x2 = 6 then (if ¬ x2 = 7 then (1) else (if v79 = 0 then (0) else (if v99 = 0 then (0) else (1)))) else (if v79 = 0 then (1) else (if ¬ v99 = 0 then (0) else (1)))) : Int32) (fun v104 => pl ((if ¬ v79 = 0 then (1) else (if v99 = 0 then (0) else (1))) : Int32) (fun v112 => oc (f_Model_gives v112 I99 J99) (fun v115 I115 J115 => if v115 = 0 then (some (0, I115, J115)) else (if v104 = 0 then (some (0, I115, J115)) else (some (1, I115, J115))))))) else (if ¬ v99 = 0 then (some (0, I99, J99)) else (some (1, I99, J99)))) else (if ¬ v79 = 0 then (some (0, I99, J99)) else (if ¬ v99 = 0 then (some (0, I99, J99)) else (some (1, I99, J99)))))))) else (some (1, I, J))) else (if (p2 + 1) < 0 ∨ 2000 ≤ Int32.toNatClampNeg (p2 + 1) then none else (if 3 < (I 116 (Int32.toNatClampNeg (p2 + 1))) then (some (1, I, J)) else (if (p2 + 2) < 0 ∨ 2000 ≤ Int32.toNatClampNeg (p2 + 2) then none else (if 4 ≤ (I 116 (Int32.toNatClampNeg (p2 + 2))) then (some (0, I, J)) else (if (p2 + 3) < 0 ∨ 2000 ≤ Int32.toNatClampNeg (p2 + 3) then none else (if 4 ≤ (I 116 (Int32.toNatClampNeg (p2 + 3))) then (some (0, I, J)) else (some (1, I, J)))))))))) else (oc (f_Model_gives 1 I J) (fun v127 I127 J127 => if v127 = 0 ∨ v127 = 1 then some (v127, I127, J127) else none)))) else (oc (f_Model_gives 0 I J) (fun v129 I129 J129 => if v129 = 0 ∨ v129 = 1 then some (v129, I129, J129) else none)))) else (some (0, I, J)))))
theorem E_Model_flows {p2 : Int32} {X : MX} {I : MI} {J : MJ} {v : Int32} {I' : MI} {J' : MJ} (hb : f_Model_flows p2 I J = some (v, I', J')) (K : P (.inl (some (.int v))) (hX X I' J')) : am_E (gG L xs) (d + 1) m_Model_flows (0, lv_args 0 [.ref 112, .int p2], []) (hX X I J) P := by
  unfold f_Model_flows at hb
  refine e_k 1 (f' := (1, [(0, .ref 112), (1, .int p2)], [.ref 112])) rfl ?_
  refine r_getr rfl (x_ltn rfl) rfl rfl ?_
  refine e_k 1 (f' := (5, [(0, .ref 112), (1, .int p2)], [.int p2, .ref 116])) rfl ?_
  obtain ⟨o1, hb⟩ := ob_in hb
  refine r_iald rfl rfl (x_ltn rfl) rfl o1 ?_
  refine e_k 1 (f' := (7, [(2, .int (I 116 (Int32.toNatClampNeg p2))), (0, .ref 112), (1, .int p2)], [])) rfl ?_
  obtain ⟨x2, ex2, hb⟩ := p_nm hb
  rw [← ex2]
  refine e_k 3 (f' := (if x2 < 4 then 18 else 12, [(2, .int x2), (0, .ref 112), (1, .int p2)], [])) rfl ?_
  obtain ⟨v5, h5, hb⟩ := p_nn hb
  have Kj5 : am_E (gG L xs) (d + 1) m_Model_flows (63, [(0, .ref 112), (1, .int p2), (2, .int x2)], [.int v5]) (hX X I J) P := by
    refine e_k 2 (f' := (65, [(3, .int v5), (0, .ref 112), (1, .int p2), (2, .int x2)], [.ref 112])) rfl ?_
    refine r_geti rfl (x_ltn rfl) rfl rfl ?_
    refine e_k 2 (f' := (if v5 ≤ (I 112 84) then 74 else 72, [(3, .int v5), (0, .ref 112), (1, .int p2), (2, .int x2)], [])) rfl ?_
    refine e_if (fun c24 => ?_) (fun c24 => ?_)
    · replace hb := i_pos c24 hb
      refine e_k 3 (f' := (if x2 = 1 then 84 else 79, [(3, .int v5), (0, .ref 112), (1, .int p2), (2, .int x2)], [])) rfl ?_
      refine e_if (fun c25 => ?_) (fun c25 => ?_)
      · replace hb := i_pos c25 hb
        refine e_k 2 (f' := (86, [(3, .int v5), (0, .ref 112), (1, .int p2), (2, .int x2)], [.int 0, .ref 112])) rfl ?_
        obtain ⟨v26, I26, J26, h26, hb⟩ := oc_call hb
        refine r_cv (z := m_Model_gives) (As := [.int 0]) (rest := []) rfl rfl rfl rfl rfl (x_ltn rfl) rfl rfl (E_Model_gives  h26 ⟨_, rfl, ?_⟩)
        obtain ⟨o27, hb⟩ := ob_if hb
        obtain ⟨rfl, rfl, rfl⟩ := s_inj hb
        exact e_r rfl (if_pos o27) K
      · replace hb := i_neg c25 hb
        refine e_k 3 (f' := (if ¬ x2 = 2 then 90 else 84, [(3, .int v5), (0, .ref 112), (1, .int p2), (2, .int x2)], [])) rfl ?_
        refine e_if (fun c28 => ?_) (fun c28 => ?_)
        · replace hb := i_pos c28 hb
          refine e_k 3 (f' := (if x2 = 3 then 101 else 95, [(3, .int v5), (0, .ref 112), (1, .int p2), (2, .int x2)], [])) rfl ?_
          refine e_if (fun c29 => ?_) (fun c29 => ?_)
          · replace hb := i_pos c29 hb
            refine e_k 2 (f' := (103, [(3, .int v5), (0, .ref 112), (1, .int p2), (2, .int x2)], [.int 1, .ref 112])) rfl ?_
            obtain ⟨v30, I30, J30, h30, hb⟩ := oc_call hb
            refine r_cv (z := m_Model_gives) (As := [.int 1]) (rest := []) rfl rfl rfl rfl rfl (x_ltn rfl) rfl rfl (E_Model_gives  h30 ⟨_, rfl, ?_⟩)
            obtain ⟨o31, hb⟩ := ob_if hb
            obtain ⟨rfl, rfl, rfl⟩ := s_inj hb
            exact e_r rfl (if_pos o31) K
          · replace hb := i_neg c29 hb
            refine e_k 3 (f' := (if ¬ x2 = 26 then 107 else 101, [(3, .int v5), (0, .ref 112), (1, .int p2), (2, .int x2)], [])) rfl ?_
            refine e_if (fun c32 => ?_) (fun c32 => ?_)
            · replace hb := i_pos c32 hb
              refine e_k 3 (f' := (if x2 < 23 then 161 else 113, [(3, .int v5), (0, .ref 112), (1, .int p2), (2, .int x2)], [])) rfl ?_
              refine e_if (fun c33 => ?_) (fun c33 => ?_)
              · replace hb := i_pos c33 hb
                refine e_k 2 (f' := (if ¬ v5 = 0 then 167 else 165, [(3, .int v5), (0, .ref 112), (1, .int p2), (2, .int x2)], [])) rfl ?_
                refine e_if (fun c34 => ?_) (fun c34 => ?_)
                · replace hb := i_pos c34 hb
                  refine e_k 1 (f' := (168, [(3, .int v5), (0, .ref 112), (1, .int p2), (2, .int x2)], [.ref 112])) rfl ?_
                  obtain ⟨v35, I35, J35, h35, hb⟩ := oc_call hb
                  refine r_cv (z := m_Model_drops) (As := []) (rest := []) rfl rfl rfl rfl rfl (x_ltn rfl) rfl rfl (E_Model_drops  h35 ⟨_, rfl, ?_⟩)
                  refine e_k 4 (f' := (if ¬ v5 = 2 then 303 else 178, [(4, .int v35), (3, .int v5), (0, .ref 112), (1, .int p2), (2, .int x2)], [])) rfl ?_
                  refine e_if (fun c36 => ?_) (fun c36 => ?_)
                  · replace hb := i_pos c36 hb
                    refine e_k 3 (f' := (if ¬ x2 = 11 then 320 else 309, [(4, .int v35), (3, .int v5), (0, .ref 112), (1, .int p2), (2, .int x2)], [])) rfl ?_
                    refine e_if (fun c37 => ?_) (fun c37 => ?_)
                    · replace hb := i_pos c37 hb
                      refine e_k 3 (f' := (if ¬ x2 = 12 then 328 else 326, [(4, .int v35), (3, .int v5), (0, .ref 112), (1, .int p2), (2, .int x2)], [])) rfl ?_
                      refine e_if (fun c38 => ?_) (fun c38 => ?_)
                      · replace hb := i_pos c38 hb
                        refine e_k 3 (f' := (if x2 = 8 then 353 else 334, [(4, .int v35), (3, .int v5), (0, .ref 112), (1, .int p2), (2, .int x2)], [])) rfl ?_
                        obtain ⟨v40, h40, hb⟩ := p_nn hb
                        have Kj40 : am_E (gG L xs) (d + 1) m_Model_flows (358, [(0, .ref 112), (2, .int x2), (4, .int v35)], [.int v40]) (hX X I35 J35) P := by
                          refine e_k 5 (f' := (if ¬ x2 = 8 then 372 else 367, [(5, .int v40), (0, .ref 112), (2, .int x2), (4, .int v35)], [.ref 112])) rfl ?_
                          obtain ⟨v47, h47, hb⟩ := p_nn hb
                          have Kj47 : am_E (gG L xs) (d + 1) m_Model_flows (389, [(5, .int v40)], [.int v47, .ref 112]) (hX X I35 J35) P := by
                            obtain ⟨v51, I51, J51, h51, hb⟩ := oc_call hb
                            refine r_cv (z := m_Model_gives) (As := [.int v47]) (rest := []) rfl rfl rfl rfl rfl (x_ltn rfl) rfl rfl (E_Model_gives  h51 ⟨_, rfl, ?_⟩)
                            refine e_k 1 (f' := (if v51 = 0 then 404 else 395, [(5, .int v40)], [])) rfl ?_
                            refine e_if (fun c52 => ?_) (fun c52 => ?_)
                            · replace hb := i_pos c52 hb
                              refine e_k 1 (f' := (405, [(5, .int v40)], [.int 0])) rfl ?_
                              obtain ⟨rfl, rfl, rfl⟩ := s_inj hb
                              exact e_r rfl rfl K
                            · replace hb := i_neg c52 hb
                              refine e_k 2 (f' := (if v40 = 0 then 404 else 400, [(5, .int v40)], [])) rfl ?_
                              refine e_if (fun c53 => ?_) (fun c53 => ?_)
                              · replace hb := i_pos c53 hb
                                refine e_k 1 (f' := (405, [(5, .int v40)], [.int 0])) rfl ?_
                                obtain ⟨rfl, rfl, rfl⟩ := s_inj hb
                                exact e_r rfl rfl K
                              · replace hb := i_neg c53 hb
                                refine e_k 2 (f' := (405, [(5, .int v40)], [.int 1])) rfl ?_
                                obtain ⟨rfl, rfl, rfl⟩ := s_inj hb
                                exact e_r rfl rfl K
                          clear hb
                          refine e_if (fun c48 => ?_) (fun c48 => ?_)
                          · replace h47 := i_pos c48 h47
                            refine e_k 3 (f' := (if x2 = 10 then 384 else 378, [(5, .int v40), (0, .ref 112), (2, .int x2), (4, .int v35)], [.ref 112])) rfl ?_
                            refine e_if (fun c49 => ?_) (fun c49 => ?_)
                            · replace h47 := i_pos c49 h47
                              refine e_k 2 (f' := (389, [(5, .int v40), (0, .ref 112), (2, .int x2), (4, .int v35)], [.int 1, .ref 112])) rfl ?_
                              refine e_sub (ls := [(5, .int v40)]) rfl ⟨rfl, trivial⟩ ?_
                              subst h47
                              exact Kj47
                            · replace h47 := i_neg c49 h47
                              refine e_k 3 (f' := (if ¬ x2 = 20 then 388 else 384, [(5, .int v40), (0, .ref 112), (2, .int x2), (4, .int v35)], [.ref 112])) rfl ?_
                              refine e_if (fun c50 => ?_) (fun c50 => ?_)
                              · replace h47 := i_pos c50 h47
                                refine e_k 1 (f' := (389, [(5, .int v40), (0, .ref 112), (2, .int x2), (4, .int v35)], [.int 0, .ref 112])) rfl ?_
                                refine e_sub (ls := [(5, .int v40)]) rfl ⟨rfl, trivial⟩ ?_
                                subst h47
                                exact Kj47
                              · replace h47 := i_neg c50 h47
                                refine e_k 2 (f' := (389, [(5, .int v40), (0, .ref 112), (2, .int x2), (4, .int v35)], [.int 1, .ref 112])) rfl ?_
                                refine e_sub (ls := [(5, .int v40)]) rfl ⟨rfl, trivial⟩ ?_
                                subst h47
                                exact Kj47
                          · replace h47 := i_neg c48 h47
                            refine e_k 2 (f' := (389, [(5, .int v40), (0, .ref 112), (2, .int x2), (4, .int v35)], [.int v35, .ref 112])) rfl ?_
                            refine e_sub (ls := [(5, .int v40)]) rfl ⟨rfl, trivial⟩ ?_
                            subst h47
                            exact Kj47
                        clear hb
                        refine e_if (fun c41 => ?_) (fun c41 => ?_)
                        · replace h40 := i_pos c41 h40
                          refine e_k 2 (f' := (358, [(4, .int v35), (3, .int v5), (0, .ref 112), (1, .int p2), (2, .int x2)], [.int 1])) rfl ?_
                          refine e_sub (ls := [(0, .ref 112), (2, .int x2), (4, .int v35)]) rfl ⟨rfl, rfl, rfl, trivial⟩ ?_
                          subst h40
                          exact Kj40
                        · replace h40 := i_neg c41 h40
                          refine e_k 3 (f' := (if ¬ x2 = 10 then 348 else 340, [(4, .int v35), (3, .int v5), (0, .ref 112), (1, .int p2), (2, .int x2)], [])) rfl ?_
                          refine e_if (fun c42 => ?_) (fun c42 => ?_)
                          · replace h40 := i_pos c42 h40
                            refine e_k 2 (f' := (if ¬ v35 = 0 then 357 else 353, [(4, .int v35), (3, .int v5), (0, .ref 112), (1, .int p2), (2, .int x2)], [])) rfl ?_
                            refine e_if (fun c43 => ?_) (fun c43 => ?_)
                            · replace h40 := i_pos c43 h40
                              refine e_k 1 (f' := (358, [(4, .int v35), (3, .int v5), (0, .ref 112), (1, .int p2), (2, .int x2)], [.int 0])) rfl ?_
                              refine e_sub (ls := [(0, .ref 112), (2, .int x2), (4, .int v35)]) rfl ⟨rfl, rfl, rfl, trivial⟩ ?_
                              subst h40
                              exact Kj40
                            · replace h40 := i_neg c43 h40
                              refine e_k 2 (f' := (358, [(4, .int v35), (3, .int v5), (0, .ref 112), (1, .int p2), (2, .int x2)], [.int 1])) rfl ?_
                              refine e_sub (ls := [(0, .ref 112), (2, .int x2), (4, .int v35)]) rfl ⟨rfl, rfl, rfl, trivial⟩ ?_
                              subst h40
                              exact Kj40
                          · replace h40 := i_neg c42 h40
                            refine e_k 2 (f' := (if v35 = 0 then 357 else 345, [(4, .int v35), (3, .int v5), (0, .ref 112), (1, .int p2), (2, .int x2)], [])) rfl ?_
                            refine e_if (fun c44 => ?_) (fun c44 => ?_)
                            · replace h40 := i_pos c44 h40
                              refine e_k 1 (f' := (358, [(4, .int v35), (3, .int v5), (0, .ref 112), (1, .int p2), (2, .int x2)], [.int 0])) rfl ?_
                              refine e_sub (ls := [(0, .ref 112), (2, .int x2), (4, .int v35)]) rfl ⟨rfl, rfl, rfl, trivial⟩ ?_
                              subst h40
                              exact Kj40
                            · replace h40 := i_neg c44 h40
                              refine e_k 3 (f' := (358, [(4, .int v35), (3, .int v5), (0, .ref 112), (1, .int p2), (2, .int x2)], [.int 1])) rfl ?_
                              refine e_sub (ls := [(0, .ref 112), (2, .int x2), (4, .int v35)]) rfl ⟨rfl, rfl, rfl, trivial⟩ ?_
                              subst h40
                              exact Kj40
                      · replace hb := i_neg c38 hb
                        refine e_k 1 (f' := (327, [(4, .int v35), (3, .int v5), (0, .ref 112), (1, .int p2), (2, .int x2)], [.int 1])) rfl ?_
                        obtain ⟨rfl, rfl, rfl⟩ := s_inj hb
                        exact e_r rfl rfl K
                    · replace hb := i_neg c37 hb
                      refine e_k 2 (f' := (if ¬ v35 = 0 then 318 else 314, [(4, .int v35), (3, .int v5), (0, .ref 112), (1, .int p2), (2, .int x2)], [])) rfl ?_
                      refine e_if (fun c54 => ?_) (fun c54 => ?_)
                      · replace hb := i_pos c54 hb
                        refine e_k 1 (f' := (319, [(4, .int v35), (3, .int v5), (0, .ref 112), (1, .int p2), (2, .int x2)], [.int 0])) rfl ?_
                        obtain ⟨rfl, rfl, rfl⟩ := s_inj hb
                        exact e_r rfl rfl K
                      · replace hb := i_neg c54 hb
                        refine e_k 2 (f' := (319, [(4, .int v35), (3, .int v5), (0, .ref 112), (1, .int p2), (2, .int x2)], [.int 1])) rfl ?_
                        obtain ⟨rfl, rfl, rfl⟩ := s_inj hb
                        exact e_r rfl rfl K
                  · replace hb := i_neg c36 hb
                    refine e_k 1 (f' := (179, [(4, .int v35), (3, .int v5), (0, .ref 112), (1, .int p2), (2, .int x2)], [.ref 112])) rfl ?_
                    obtain ⟨v55, I55, J55, h55, hb⟩ := oc_call hb
                    refine r_cv (z := m_Model_drops) (As := []) (rest := []) rfl rfl rfl rfl rfl (x_ltn rfl) rfl rfl (E_Model_drops  h55 ⟨_, rfl, ?_⟩)
                    refine e_k 4 (f' := (if ¬ x2 = 21 then 206 else 190, [(5, .int v55), (4, .int v35), (3, .int v5), (0, .ref 112), (1, .int p2), (2, .int x2)], [])) rfl ?_
                    refine e_if (fun c56 => ?_) (fun c56 => ?_)
                    · replace hb := i_pos c56 hb
                      refine e_k 3 (f' := (if ¬ x2 = 22 then 223 else 212, [(5, .int v55), (4, .int v35), (3, .int v5), (0, .ref 112), (1, .int p2), (2, .int x2)], [])) rfl ?_
                      refine e_if (fun c57 => ?_) (fun c57 => ?_)
                      · replace hb := i_pos c57 hb
                        refine e_k 3 (f' := (if ¬ x2 = 6 then 247 else 229, [(5, .int v55), (4, .int v35), (3, .int v5), (0, .ref 112), (1, .int p2), (2, .int x2)], [])) rfl ?_
                        obtain ⟨v60, h60, hb⟩ := p_nn hb
                        have Kj60 : am_E (gG L xs) (d + 1) m_Model_flows (268, [(0, .ref 112), (4, .int v35), (5, .int v55)], [.int v60]) (hX X I55 J55) P := by
                          refine e_k 4 (f' := (if ¬ v35 = 0 then 281 else 276, [(6, .int v60), (0, .ref 112), (4, .int v35), (5, .int v55)], [.ref 112])) rfl ?_
                          obtain ⟨v68, h68, hb⟩ := p_nn hb
                          have Kj68 : am_E (gG L xs) (d + 1) m_Model_flows (286, [(6, .int v60)], [.int v68, .ref 112]) (hX X I55 J55) P := by
                            obtain ⟨v71, I71, J71, h71, hb⟩ := oc_call hb
                            refine r_cv (z := m_Model_gives) (As := [.int v68]) (rest := []) rfl rfl rfl rfl rfl (x_ltn rfl) rfl rfl (E_Model_gives  h71 ⟨_, rfl, ?_⟩)
                            refine e_k 1 (f' := (if v71 = 0 then 301 else 292, [(6, .int v60)], [])) rfl ?_
                            refine e_if (fun c72 => ?_) (fun c72 => ?_)
                            · replace hb := i_pos c72 hb
                              refine e_k 1 (f' := (302, [(6, .int v60)], [.int 0])) rfl ?_
                              obtain ⟨rfl, rfl, rfl⟩ := s_inj hb
                              exact e_r rfl rfl K
                            · replace hb := i_neg c72 hb
                              refine e_k 2 (f' := (if v60 = 0 then 301 else 297, [(6, .int v60)], [])) rfl ?_
                              refine e_if (fun c73 => ?_) (fun c73 => ?_)
                              · replace hb := i_pos c73 hb
                                refine e_k 1 (f' := (302, [(6, .int v60)], [.int 0])) rfl ?_
                                obtain ⟨rfl, rfl, rfl⟩ := s_inj hb
                                exact e_r rfl rfl K
                              · replace hb := i_neg c73 hb
                                refine e_k 2 (f' := (302, [(6, .int v60)], [.int 1])) rfl ?_
                                obtain ⟨rfl, rfl, rfl⟩ := s_inj hb
                                exact e_r rfl rfl K
                          clear hb
                          refine e_if (fun c69 => ?_) (fun c69 => ?_)
                          · replace h68 := i_pos c69 h68
                            refine e_k 2 (f' := (286, [(6, .int v60), (0, .ref 112), (4, .int v35), (5, .int v55)], [.int 1, .ref 112])) rfl ?_
                            refine e_sub (ls := [(6, .int v60)]) rfl ⟨rfl, trivial⟩ ?_
                            subst h68
                            exact Kj68
                          · replace h68 := i_neg c69 h68
                            refine e_k 2 (f' := (if v55 = 0 then 285 else 281, [(6, .int v60), (0, .ref 112), (4, .int v35), (5, .int v55)], [.ref 112])) rfl ?_
                            refine e_if (fun c70 => ?_) (fun c70 => ?_)
                            · replace h68 := i_pos c70 h68
                              refine e_k 1 (f' := (286, [(6, .int v60), (0, .ref 112), (4, .int v35), (5, .int v55)], [.int 0, .ref 112])) rfl ?_
                              refine e_sub (ls := [(6, .int v60)]) rfl ⟨rfl, trivial⟩ ?_
                              subst h68
                              exact Kj68
                            · replace h68 := i_neg c70 h68
                              refine e_k 2 (f' := (286, [(6, .int v60), (0, .ref 112), (4, .int v35), (5, .int v55)], [.int 1, .ref 112])) rfl ?_
                              refine e_sub (ls := [(6, .int v60)]) rfl ⟨rfl, trivial⟩ ?_
                              subst h68
                              exact Kj68
                        clear hb
                        refine e_if (fun c61 => ?_) (fun c61 => ?_)
                        · replace h60 := i_pos c61 h60
                          refine e_k 3 (f' := (if ¬ x2 = 7 then 263 else 253, [(5, .int v55), (4, .int v35), (3, .int v5), (0, .ref 112), (1, .int p2), (2, .int x2)], [])) rfl ?_
                          refine e_if (fun c62 => ?_) (fun c62 => ?_)
                          · replace h60 := i_pos c62 h60
                            refine e_k 2 (f' := (268, [(5, .int v55), (4, .int v35), (3, .int v5), (0, .ref 112), (1, .int p2), (2, .int x2)], [.int 1])) rfl ?_
                            refine e_sub (ls := [(0, .ref 112), (4, .int v35), (5, .int v55)]) rfl ⟨rfl, rfl, rfl, trivial⟩ ?_
                            subst h60
                            exact Kj60
                          · replace h60 := i_neg c62 h60
                            refine e_k 2 (f' := (if v35 = 0 then 267 else 258, [(5, .int v55), (4, .int v35), (3, .int v5), (0, .ref 112), (1, .int p2), (2, .int x2)], [])) rfl ?_
                            refine e_if (fun c63 => ?_) (fun c63 => ?_)
                            · replace h60 := i_pos c63 h60
                              refine e_k 1 (f' := (268, [(5, .int v55), (4, .int v35), (3, .int v5), (0, .ref 112), (1, .int p2), (2, .int x2)], [.int 0])) rfl ?_
                              refine e_sub (ls := [(0, .ref 112), (4, .int v35), (5, .int v55)]) rfl ⟨rfl, rfl, rfl, trivial⟩ ?_
                              subst h60
                              exact Kj60
                            · replace h60 := i_neg c63 h60
                              refine e_k 2 (f' := (if v55 = 0 then 267 else 263, [(5, .int v55), (4, .int v35), (3, .int v5), (0, .ref 112), (1, .int p2), (2, .int x2)], [])) rfl ?_
                              refine e_if (fun c64 => ?_) (fun c64 => ?_)
                              · replace h60 := i_pos c64 h60
                                refine e_k 1 (f' := (268, [(5, .int v55), (4, .int v35), (3, .int v5), (0, .ref 112), (1, .int p2), (2, .int x2)], [.int 0])) rfl ?_
                                refine e_sub (ls := [(0, .ref 112), (4, .int v35), (5, .int v55)]) rfl ⟨rfl, rfl, rfl, trivial⟩ ?_
                                subst h60
                                exact Kj60
                              · replace h60 := i_neg c64 h60
                                refine e_k 2 (f' := (268, [(5, .int v55), (4, .int v35), (3, .int v5), (0, .ref 112), (1, .int p2), (2, .int x2)], [.int 1])) rfl ?_
                                refine e_sub (ls := [(0, .ref 112), (4, .int v35), (5, .int v55)]) rfl ⟨rfl, rfl, rfl, trivial⟩ ?_
                                subst h60
                                exact Kj60
                        · replace h60 := i_neg c61 h60
                          refine e_k 2 (f' := (if v35 = 0 then 239 else 234, [(5, .int v55), (4, .int v35), (3, .int v5), (0, .ref 112), (1, .int p2), (2, .int x2)], [])) rfl ?_
                          refine e_if (fun c65 => ?_) (fun c65 => ?_)
                          · replace h60 := i_pos c65 h60
                            refine e_k 2 (f' := (268, [(5, .int v55), (4, .int v35), (3, .int v5), (0, .ref 112), (1, .int p2), (2, .int x2)], [.int 1])) rfl ?_
                            refine e_sub (ls := [(0, .ref 112), (4, .int v35), (5, .int v55)]) rfl ⟨rfl, rfl, rfl, trivial⟩ ?_
                            subst h60
                            exact Kj60
                          · replace h60 := i_neg c65 h60
                            refine e_k 2 (f' := (if ¬ v55 = 0 then 243 else 239, [(5, .int v55), (4, .int v35), (3, .int v5), (0, .ref 112), (1, .int p2), (2, .int x2)], [])) rfl ?_
                            refine e_if (fun c66 => ?_) (fun c66 => ?_)
                            · replace h60 := i_pos c66 h60
                              refine e_k 2 (f' := (268, [(5, .int v55), (4, .int v35), (3, .int v5), (0, .ref 112), (1, .int p2), (2, .int x2)], [.int 0])) rfl ?_
                              refine e_sub (ls := [(0, .ref 112), (4, .int v35), (5, .int v55)]) rfl ⟨rfl, rfl, rfl, trivial⟩ ?_
                              subst h60
                              exact Kj60
                            · replace h60 := i_neg c66 h60
                              refine e_k 2 (f' := (268, [(5, .int v55), (4, .int v35), (3, .int v5), (0, .ref 112), (1, .int p2), (2, .int x2)], [.int 1])) rfl ?_
                              refine e_sub (ls := [(0, .ref 112), (4, .int v35), (5, .int v55)]) rfl ⟨rfl, rfl, rfl, trivial⟩ ?_
                              subst h60
                              exact Kj60
                      · replace hb := i_neg c57 hb
                        refine e_k 2 (f' := (if ¬ v55 = 0 then 221 else 217, [(5, .int v55), (4, .int v35), (3, .int v5), (0, .ref 112), (1, .int p2), (2, .int x2)], [])) rfl ?_
                        refine e_if (fun c74 => ?_) (fun c74 => ?_)
                        · replace hb := i_pos c74 hb
                          refine e_k 1 (f' := (222, [(5, .int v55), (4, .int v35), (3, .int v5), (0, .ref 112), (1, .int p2), (2, .int x2)], [.int 0])) rfl ?_
                          obtain ⟨rfl, rfl, rfl⟩ := s_inj hb
                          exact e_r rfl rfl K
                        · replace hb := i_neg c74 hb
                          refine e_k 2 (f' := (222, [(5, .int v55), (4, .int v35), (3, .int v5), (0, .ref 112), (1, .int p2), (2, .int x2)], [.int 1])) rfl ?_
                          obtain ⟨rfl, rfl, rfl⟩ := s_inj hb
                          exact e_r rfl rfl K
                    · replace hb := i_neg c56 hb
                      refine e_k 2 (f' := (if ¬ v35 = 0 then 204 else 195, [(5, .int v55), (4, .int v35), (3, .int v5), (0, .ref 112), (1, .int p2), (2, .int x2)], [])) rfl ?_
                      refine e_if (fun c75 => ?_) (fun c75 => ?_)
                      · replace hb := i_pos c75 hb
                        refine e_k 1 (f' := (205, [(5, .int v55), (4, .int v35), (3, .int v5), (0, .ref 112), (1, .int p2), (2, .int x2)], [.int 0])) rfl ?_
                        obtain ⟨rfl, rfl, rfl⟩ := s_inj hb
                        exact e_r rfl rfl K
                      · replace hb := i_neg c75 hb
                        refine e_k 2 (f' := (if ¬ v55 = 0 then 204 else 200, [(5, .int v55), (4, .int v35), (3, .int v5), (0, .ref 112), (1, .int p2), (2, .int x2)], [])) rfl ?_
                        refine e_if (fun c76 => ?_) (fun c76 => ?_)
                        · replace hb := i_pos c76 hb
                          refine e_k 1 (f' := (205, [(5, .int v55), (4, .int v35), (3, .int v5), (0, .ref 112), (1, .int p2), (2, .int x2)], [.int 0])) rfl ?_
                          obtain ⟨rfl, rfl, rfl⟩ := s_inj hb
                          exact e_r rfl rfl K
                        · replace hb := i_neg c76 hb
                          refine e_k 2 (f' := (205, [(5, .int v55), (4, .int v35), (3, .int v5), (0, .ref 112), (1, .int p2), (2, .int x2)], [.int 1])) rfl ?_
                          obtain ⟨rfl, rfl, rfl⟩ := s_inj hb
                          exact e_r rfl rfl K
                · replace hb := i_neg c34 hb
                  refine e_k 1 (f' := (166, [(3, .int v5), (0, .ref 112), (1, .int p2), (2, .int x2)], [.int 1])) rfl ?_
                  obtain ⟨rfl, rfl, rfl⟩ := s_inj hb
                  exact e_r rfl rfl K
              · replace hb := i_neg c33 hb
                refine e_k 3 (f' := (if 25 < x2 then 161 else 119, [(3, .int v5), (0, .ref 112), (1, .int p2), (2, .int x2)], [])) rfl ?_
                refine e_if (fun c77 => ?_) (fun c77 => ?_)
                · replace hb := i_pos c77 hb
                  refine e_k 2 (f' := (if ¬ v5 = 0 then 167 else 165, [(3, .int v5), (0, .ref 112), (1, .int p2), (2, .int x2)], [])) rfl ?_
                  refine e_if (fun c78 => ?_) (fun c78 => ?_)
                  · replace hb := i_pos c78 hb
                    refine e_k 1 (f' := (168, [(3, .int v5), (0, .ref 112), (1, .int p2), (2, .int x2)], [.ref 112])) rfl ?_
                    obtain ⟨v79, I79, J79, h79, hb⟩ := oc_call hb
                    refine r_cv (z := m_Model_drops) (As := []) (rest := []) rfl rfl rfl rfl rfl (x_ltn rfl) rfl rfl (E_Model_drops  h79 ⟨_, rfl, ?_⟩)
                    refine e_k 4 (f' := (if ¬ v5 = 2 then 303 else 178, [(4, .int v79), (3, .int v5), (0, .ref 112), (1, .int p2), (2, .int x2)], [])) rfl ?_
                    refine e_if (fun c80 => ?_) (fun c80 => ?_)
                    · replace hb := i_pos c80 hb
                      refine e_k 3 (f' := (if ¬ x2 = 11 then 320 else 309, [(4, .int v79), (3, .int v5), (0, .ref 112), (1, .int p2), (2, .int x2)], [])) rfl ?_
                      refine e_if (fun c81 => ?_) (fun c81 => ?_)
                      · replace hb := i_pos c81 hb
                        refine e_k 3 (f' := (if ¬ x2 = 12 then 328 else 326, [(4, .int v79), (3, .int v5), (0, .ref 112), (1, .int p2), (2, .int x2)], [])) rfl ?_
                        refine e_if (fun c82 => ?_) (fun c82 => ?_)
                        · replace hb := i_pos c82 hb
                          refine e_k 3 (f' := (if x2 = 8 then 353 else 334, [(4, .int v79), (3, .int v5), (0, .ref 112), (1, .int p2), (2, .int x2)], [])) rfl ?_
                          obtain ⟨v84, h84, hb⟩ := p_nn hb
                          have Kj84 : am_E (gG L xs) (d + 1) m_Model_flows (358, [(0, .ref 112), (2, .int x2), (4, .int v79)], [.int v84]) (hX X I79 J79) P := by
                            refine e_k 5 (f' := (if ¬ x2 = 8 then 372 else 367, [(5, .int v84), (0, .ref 112), (2, .int x2), (4, .int v79)], [.ref 112])) rfl ?_
                            obtain ⟨v91, h91, hb⟩ := p_nn hb
                            have Kj91 : am_E (gG L xs) (d + 1) m_Model_flows (389, [(5, .int v84)], [.int v91, .ref 112]) (hX X I79 J79) P := by
                              obtain ⟨v95, I95, J95, h95, hb⟩ := oc_call hb
                              refine r_cv (z := m_Model_gives) (As := [.int v91]) (rest := []) rfl rfl rfl rfl rfl (x_ltn rfl) rfl rfl (E_Model_gives  h95 ⟨_, rfl, ?_⟩)
                              refine e_k 1 (f' := (if v95 = 0 then 404 else 395, [(5, .int v84)], [])) rfl ?_
                              refine e_if (fun c96 => ?_) (fun c96 => ?_)
                              · replace hb := i_pos c96 hb
                                refine e_k 1 (f' := (405, [(5, .int v84)], [.int 0])) rfl ?_
                                obtain ⟨rfl, rfl, rfl⟩ := s_inj hb
                                exact e_r rfl rfl K
                              · replace hb := i_neg c96 hb
                                refine e_k 2 (f' := (if v84 = 0 then 404 else 400, [(5, .int v84)], [])) rfl ?_
                                refine e_if (fun c97 => ?_) (fun c97 => ?_)
                                · replace hb := i_pos c97 hb
                                  refine e_k 1 (f' := (405, [(5, .int v84)], [.int 0])) rfl ?_
                                  obtain ⟨rfl, rfl, rfl⟩ := s_inj hb
                                  exact e_r rfl rfl K
                                · replace hb := i_neg c97 hb
                                  refine e_k 2 (f' := (405, [(5, .int v84)], [.int 1])) rfl ?_
                                  obtain ⟨rfl, rfl, rfl⟩ := s_inj hb
                                  exact e_r rfl rfl K
                            clear hb
                            refine e_if (fun c92 => ?_) (fun c92 => ?_)
                            · replace h91 := i_pos c92 h91
                              refine e_k 3 (f' := (if x2 = 10 then 384 else 378, [(5, .int v84), (0, .ref 112), (2, .int x2), (4, .int v79)], [.ref 112])) rfl ?_
                              refine e_if (fun c93 => ?_) (fun c93 => ?_)
                              · replace h91 := i_pos c93 h91
                                refine e_k 2 (f' := (389, [(5, .int v84), (0, .ref 112), (2, .int x2), (4, .int v79)], [.int 1, .ref 112])) rfl ?_
                                refine e_sub (ls := [(5, .int v84)]) rfl ⟨rfl, trivial⟩ ?_
                                subst h91
                                exact Kj91
                              · replace h91 := i_neg c93 h91
                                refine e_k 3 (f' := (if ¬ x2 = 20 then 388 else 384, [(5, .int v84), (0, .ref 112), (2, .int x2), (4, .int v79)], [.ref 112])) rfl ?_
                                refine e_if (fun c94 => ?_) (fun c94 => ?_)
                                · replace h91 := i_pos c94 h91
                                  refine e_k 1 (f' := (389, [(5, .int v84), (0, .ref 112), (2, .int x2), (4, .int v79)], [.int 0, .ref 112])) rfl ?_
                                  refine e_sub (ls := [(5, .int v84)]) rfl ⟨rfl, trivial⟩ ?_
                                  subst h91
                                  exact Kj91
                                · replace h91 := i_neg c94 h91
                                  refine e_k 2 (f' := (389, [(5, .int v84), (0, .ref 112), (2, .int x2), (4, .int v79)], [.int 1, .ref 112])) rfl ?_
                                  refine e_sub (ls := [(5, .int v84)]) rfl ⟨rfl, trivial⟩ ?_
                                  subst h91
                                  exact Kj91
                            · replace h91 := i_neg c92 h91
                              refine e_k 2 (f' := (389, [(5, .int v84), (0, .ref 112), (2, .int x2), (4, .int v79)], [.int v79, .ref 112])) rfl ?_
                              refine e_sub (ls := [(5, .int v84)]) rfl ⟨rfl, trivial⟩ ?_
                              subst h91
                              exact Kj91
                          clear hb
                          refine e_if (fun c85 => ?_) (fun c85 => ?_)
                          · replace h84 := i_pos c85 h84
                            refine e_k 2 (f' := (358, [(4, .int v79), (3, .int v5), (0, .ref 112), (1, .int p2), (2, .int x2)], [.int 1])) rfl ?_
                            refine e_sub (ls := [(0, .ref 112), (2, .int x2), (4, .int v79)]) rfl ⟨rfl, rfl, rfl, trivial⟩ ?_
                            subst h84
                            exact Kj84
                          · replace h84 := i_neg c85 h84
                            refine e_k 3 (f' := (if ¬ x2 = 10 then 348 else 340, [(4, .int v79), (3, .int v5), (0, .ref 112), (1, .int p2), (2, .int x2)], [])) rfl ?_
                            refine e_if (fun c86 => ?_) (fun c86 => ?_)
                            · replace h84 := i_pos c86 h84
                              refine e_k 2 (f' := (if ¬ v79 = 0 then 357 else 353, [(4, .int v79), (3, .int v5), (0, .ref 112), (1, .int p2), (2, .int x2)], [])) rfl ?_
                              refine e_if (fun c87 => ?_) (fun c87 => ?_)
                              · replace h84 := i_pos c87 h84
                                refine e_k 1 (f' := (358, [(4, .int v79), (3, .int v5), (0, .ref 112), (1, .int p2), (2, .int x2)], [.int 0])) rfl ?_
                                refine e_sub (ls := [(0, .ref 112), (2, .int x2), (4, .int v79)]) rfl ⟨rfl, rfl, rfl, trivial⟩ ?_
                                subst h84
                                exact Kj84
                              · replace h84 := i_neg c87 h84
                                refine e_k 2 (f' := (358, [(4, .int v79), (3, .int v5), (0, .ref 112), (1, .int p2), (2, .int x2)], [.int 1])) rfl ?_
                                refine e_sub (ls := [(0, .ref 112), (2, .int x2), (4, .int v79)]) rfl ⟨rfl, rfl, rfl, trivial⟩ ?_
                                subst h84
                                exact Kj84
                            · replace h84 := i_neg c86 h84
                              refine e_k 2 (f' := (if v79 = 0 then 357 else 345, [(4, .int v79), (3, .int v5), (0, .ref 112), (1, .int p2), (2, .int x2)], [])) rfl ?_
                              refine e_if (fun c88 => ?_) (fun c88 => ?_)
                              · replace h84 := i_pos c88 h84
                                refine e_k 1 (f' := (358, [(4, .int v79), (3, .int v5), (0, .ref 112), (1, .int p2), (2, .int x2)], [.int 0])) rfl ?_
                                refine e_sub (ls := [(0, .ref 112), (2, .int x2), (4, .int v79)]) rfl ⟨rfl, rfl, rfl, trivial⟩ ?_
                                subst h84
                                exact Kj84
                              · replace h84 := i_neg c88 h84
                                refine e_k 3 (f' := (358, [(4, .int v79), (3, .int v5), (0, .ref 112), (1, .int p2), (2, .int x2)], [.int 1])) rfl ?_
                                refine e_sub (ls := [(0, .ref 112), (2, .int x2), (4, .int v79)]) rfl ⟨rfl, rfl, rfl, trivial⟩ ?_
                                subst h84
                                exact Kj84
                        · replace hb := i_neg c82 hb
                          refine e_k 1 (f' := (327, [(4, .int v79), (3, .int v5), (0, .ref 112), (1, .int p2), (2, .int x2)], [.int 1])) rfl ?_
                          obtain ⟨rfl, rfl, rfl⟩ := s_inj hb
                          exact e_r rfl rfl K
                      · replace hb := i_neg c81 hb
                        refine e_k 2 (f' := (if ¬ v79 = 0 then 318 else 314, [(4, .int v79), (3, .int v5), (0, .ref 112), (1, .int p2), (2, .int x2)], [])) rfl ?_
                        refine e_if (fun c98 => ?_) (fun c98 => ?_)
                        · replace hb := i_pos c98 hb
                          refine e_k 1 (f' := (319, [(4, .int v79), (3, .int v5), (0, .ref 112), (1, .int p2), (2, .int x2)], [.int 0])) rfl ?_
                          obtain ⟨rfl, rfl, rfl⟩ := s_inj hb
                          exact e_r rfl rfl K
                        · replace hb := i_neg c98 hb
                          refine e_k 2 (f' := (319, [(4, .int v79), (3, .int v5), (0, .ref 112), (1, .int p2), (2, .int x2)], [.int 1])) rfl ?_
                          obtain ⟨rfl, rfl, rfl⟩ := s_inj hb
                          exact e_r rfl rfl K
                    · replace hb := i_neg c80 hb
                      refine e_k 1 (f' := (179, [(4, .int v79), (3, .int v5), (0, .ref 112), (1, .int p2), (2, .int x2)], [.ref 112])) rfl ?_
                      obtain ⟨v99, I99, J99, h99, hb⟩ := oc_call hb
                      refine r_cv (z := m_Model_drops) (As := []) (rest := []) rfl rfl rfl rfl rfl (x_ltn rfl) rfl rfl (E_Model_drops  h99 ⟨_, rfl, ?_⟩)
                      refine e_k 4 (f' := (if ¬ x2 = 21 then 206 else 190, [(5, .int v99), (4, .int v79), (3, .int v5), (0, .ref 112), (1, .int p2), (2, .int x2)], [])) rfl ?_
                      refine e_if (fun c100 => ?_) (fun c100 => ?_)
                      · replace hb := i_pos c100 hb
                        refine e_k 3 (f' := (if ¬ x2 = 22 then 223 else 212, [(5, .int v99), (4, .int v79), (3, .int v5), (0, .ref 112), (1, .int p2), (2, .int x2)], [])) rfl ?_
                        refine e_if (fun c101 => ?_) (fun c101 => ?_)
                        · replace hb := i_pos c101 hb
                          refine e_k 3 (f' := (if ¬ x2 = 6 then 247 else 229, [(5, .int v99), (4, .int v79), (3, .int v5), (0, .ref 112), (1, .int p2), (2, .int x2)], [])) rfl ?_
                          obtain ⟨v104, h104, hb⟩ := p_nn hb
                          have Kj104 : am_E (gG L xs) (d + 1) m_Model_flows (268, [(0, .ref 112), (4, .int v79), (5, .int v99)], [.int v104]) (hX X I99 J99) P := by
                            refine e_k 4 (f' := (if ¬ v79 = 0 then 281 else 276, [(6, .int v104), (0, .ref 112), (4, .int v79), (5, .int v99)], [.ref 112])) rfl ?_
                            obtain ⟨v112, h112, hb⟩ := p_nn hb
                            have Kj112 : am_E (gG L xs) (d + 1) m_Model_flows (286, [(6, .int v104)], [.int v112, .ref 112]) (hX X I99 J99) P := by
                              obtain ⟨v115, I115, J115, h115, hb⟩ := oc_call hb
                              refine r_cv (z := m_Model_gives) (As := [.int v112]) (rest := []) rfl rfl rfl rfl rfl (x_ltn rfl) rfl rfl (E_Model_gives  h115 ⟨_, rfl, ?_⟩)
                              refine e_k 1 (f' := (if v115 = 0 then 301 else 292, [(6, .int v104)], [])) rfl ?_
                              refine e_if (fun c116 => ?_) (fun c116 => ?_)
                              · replace hb := i_pos c116 hb
                                refine e_k 1 (f' := (302, [(6, .int v104)], [.int 0])) rfl ?_
                                obtain ⟨rfl, rfl, rfl⟩ := s_inj hb
                                exact e_r rfl rfl K
                              · replace hb := i_neg c116 hb
                                refine e_k 2 (f' := (if v104 = 0 then 301 else 297, [(6, .int v104)], [])) rfl ?_
                                refine e_if (fun c117 => ?_) (fun c117 => ?_)
                                · replace hb := i_pos c117 hb
                                  refine e_k 1 (f' := (302, [(6, .int v104)], [.int 0])) rfl ?_
                                  obtain ⟨rfl, rfl, rfl⟩ := s_inj hb
                                  exact e_r rfl rfl K
                                · replace hb := i_neg c117 hb
                                  refine e_k 2 (f' := (302, [(6, .int v104)], [.int 1])) rfl ?_
                                  obtain ⟨rfl, rfl, rfl⟩ := s_inj hb
                                  exact e_r rfl rfl K
                            clear hb
                            refine e_if (fun c113 => ?_) (fun c113 => ?_)
                            · replace h112 := i_pos c113 h112
                              refine e_k 2 (f' := (286, [(6, .int v104), (0, .ref 112), (4, .int v79), (5, .int v99)], [.int 1, .ref 112])) rfl ?_
                              refine e_sub (ls := [(6, .int v104)]) rfl ⟨rfl, trivial⟩ ?_
                              subst h112
                              exact Kj112
                            · replace h112 := i_neg c113 h112
                              refine e_k 2 (f' := (if v99 = 0 then 285 else 281, [(6, .int v104), (0, .ref 112), (4, .int v79), (5, .int v99)], [.ref 112])) rfl ?_
                              refine e_if (fun c114 => ?_) (fun c114 => ?_)
                              · replace h112 := i_pos c114 h112
                                refine e_k 1 (f' := (286, [(6, .int v104), (0, .ref 112), (4, .int v79), (5, .int v99)], [.int 0, .ref 112])) rfl ?_
                                refine e_sub (ls := [(6, .int v104)]) rfl ⟨rfl, trivial⟩ ?_
                                subst h112
                                exact Kj112
                              · replace h112 := i_neg c114 h112
                                refine e_k 2 (f' := (286, [(6, .int v104), (0, .ref 112), (4, .int v79), (5, .int v99)], [.int 1, .ref 112])) rfl ?_
                                refine e_sub (ls := [(6, .int v104)]) rfl ⟨rfl, trivial⟩ ?_
                                subst h112
                                exact Kj112
                          clear hb
                          refine e_if (fun c105 => ?_) (fun c105 => ?_)
                          · replace h104 := i_pos c105 h104
                            refine e_k 3 (f' := (if ¬ x2 = 7 then 263 else 253, [(5, .int v99), (4, .int v79), (3, .int v5), (0, .ref 112), (1, .int p2), (2, .int x2)], [])) rfl ?_
                            refine e_if (fun c106 => ?_) (fun c106 => ?_)
                            · replace h104 := i_pos c106 h104
                              refine e_k 2 (f' := (268, [(5, .int v99), (4, .int v79), (3, .int v5), (0, .ref 112), (1, .int p2), (2, .int x2)], [.int 1])) rfl ?_
                              refine e_sub (ls := [(0, .ref 112), (4, .int v79), (5, .int v99)]) rfl ⟨rfl, rfl, rfl, trivial⟩ ?_
                              subst h104
                              exact Kj104
                            · replace h104 := i_neg c106 h104
                              refine e_k 2 (f' := (if v79 = 0 then 267 else 258, [(5, .int v99), (4, .int v79), (3, .int v5), (0, .ref 112), (1, .int p2), (2, .int x2)], [])) rfl ?_
                              refine e_if (fun c107 => ?_) (fun c107 => ?_)
                              · replace h104 := i_pos c107 h104
                                refine e_k 1 (f' := (268, [(5, .int v99), (4, .int v79), (3, .int v5), (0, .ref 112), (1, .int p2), (2, .int x2)], [.int 0])) rfl ?_
                                refine e_sub (ls := [(0, .ref 112), (4, .int v79), (5, .int v99)]) rfl ⟨rfl, rfl, rfl, trivial⟩ ?_
                                subst h104
                                exact Kj104
                              · replace h104 := i_neg c107 h104
                                refine e_k 2 (f' := (if v99 = 0 then 267 else 263, [(5, .int v99), (4, .int v79), (3, .int v5), (0, .ref 112), (1, .int p2), (2, .int x2)], [])) rfl ?_
                                refine e_if (fun c108 => ?_) (fun c108 => ?_)
                                · replace h104 := i_pos c108 h104
                                  refine e_k 1 (f' := (268, [(5, .int v99), (4, .int v79), (3, .int v5), (0, .ref 112), (1, .int p2), (2, .int x2)], [.int 0])) rfl ?_
                                  refine e_sub (ls := [(0, .ref 112), (4, .int v79), (5, .int v99)]) rfl ⟨rfl, rfl, rfl, trivial⟩ ?_
                                  subst h104
                                  exact Kj104
                                · replace h104 := i_neg c108 h104
                                  refine e_k 2 (f' := (268, [(5, .int v99), (4, .int v79), (3, .int v5), (0, .ref 112), (1, .int p2), (2, .int x2)], [.int 1])) rfl ?_
                                  refine e_sub (ls := [(0, .ref 112), (4, .int v79), (5, .int v99)]) rfl ⟨rfl, rfl, rfl, trivial⟩ ?_
                                  subst h104
                                  exact Kj104
                          · replace h104 := i_neg c105 h104
                            refine e_k 2 (f' := (if v79 = 0 then 239 else 234, [(5, .int v99), (4, .int v79), (3, .int v5), (0, .ref 112), (1, .int p2), (2, .int x2)], [])) rfl ?_
                            refine e_if (fun c109 => ?_) (fun c109 => ?_)
                            · replace h104 := i_pos c109 h104
                              refine e_k 2 (f' := (268, [(5, .int v99), (4, .int v79), (3, .int v5), (0, .ref 112), (1, .int p2), (2, .int x2)], [.int 1])) rfl ?_
                              refine e_sub (ls := [(0, .ref 112), (4, .int v79), (5, .int v99)]) rfl ⟨rfl, rfl, rfl, trivial⟩ ?_
                              subst h104
                              exact Kj104
                            · replace h104 := i_neg c109 h104
                              refine e_k 2 (f' := (if ¬ v99 = 0 then 243 else 239, [(5, .int v99), (4, .int v79), (3, .int v5), (0, .ref 112), (1, .int p2), (2, .int x2)], [])) rfl ?_
                              refine e_if (fun c110 => ?_) (fun c110 => ?_)
                              · replace h104 := i_pos c110 h104
                                refine e_k 2 (f' := (268, [(5, .int v99), (4, .int v79), (3, .int v5), (0, .ref 112), (1, .int p2), (2, .int x2)], [.int 0])) rfl ?_
                                refine e_sub (ls := [(0, .ref 112), (4, .int v79), (5, .int v99)]) rfl ⟨rfl, rfl, rfl, trivial⟩ ?_
                                subst h104
                                exact Kj104
                              · replace h104 := i_neg c110 h104
                                refine e_k 2 (f' := (268, [(5, .int v99), (4, .int v79), (3, .int v5), (0, .ref 112), (1, .int p2), (2, .int x2)], [.int 1])) rfl ?_
                                refine e_sub (ls := [(0, .ref 112), (4, .int v79), (5, .int v99)]) rfl ⟨rfl, rfl, rfl, trivial⟩ ?_
                                subst h104
                                exact Kj104
                        · replace hb := i_neg c101 hb
                          refine e_k 2 (f' := (if ¬ v99 = 0 then 221 else 217, [(5, .int v99), (4, .int v79), (3, .int v5), (0, .ref 112), (1, .int p2), (2, .int x2)], [])) rfl ?_
                          refine e_if (fun c118 => ?_) (fun c118 => ?_)
                          · replace hb := i_pos c118 hb
                            refine e_k 1 (f' := (222, [(5, .int v99), (4, .int v79), (3, .int v5), (0, .ref 112), (1, .int p2), (2, .int x2)], [.int 0])) rfl ?_
                            obtain ⟨rfl, rfl, rfl⟩ := s_inj hb
                            exact e_r rfl rfl K
                          · replace hb := i_neg c118 hb
                            refine e_k 2 (f' := (222, [(5, .int v99), (4, .int v79), (3, .int v5), (0, .ref 112), (1, .int p2), (2, .int x2)], [.int 1])) rfl ?_
                            obtain ⟨rfl, rfl, rfl⟩ := s_inj hb
                            exact e_r rfl rfl K
                      · replace hb := i_neg c100 hb
                        refine e_k 2 (f' := (if ¬ v79 = 0 then 204 else 195, [(5, .int v99), (4, .int v79), (3, .int v5), (0, .ref 112), (1, .int p2), (2, .int x2)], [])) rfl ?_
                        refine e_if (fun c119 => ?_) (fun c119 => ?_)
                        · replace hb := i_pos c119 hb
                          refine e_k 1 (f' := (205, [(5, .int v99), (4, .int v79), (3, .int v5), (0, .ref 112), (1, .int p2), (2, .int x2)], [.int 0])) rfl ?_
                          obtain ⟨rfl, rfl, rfl⟩ := s_inj hb
                          exact e_r rfl rfl K
                        · replace hb := i_neg c119 hb
                          refine e_k 2 (f' := (if ¬ v99 = 0 then 204 else 200, [(5, .int v99), (4, .int v79), (3, .int v5), (0, .ref 112), (1, .int p2), (2, .int x2)], [])) rfl ?_
                          refine e_if (fun c120 => ?_) (fun c120 => ?_)
                          · replace hb := i_pos c120 hb
                            refine e_k 1 (f' := (205, [(5, .int v99), (4, .int v79), (3, .int v5), (0, .ref 112), (1, .int p2), (2, .int x2)], [.int 0])) rfl ?_
                            obtain ⟨rfl, rfl, rfl⟩ := s_inj hb
                            exact e_r rfl rfl K
                          · replace hb := i_neg c120 hb
                            refine e_k 2 (f' := (205, [(5, .int v99), (4, .int v79), (3, .int v5), (0, .ref 112), (1, .int p2), (2, .int x2)], [.int 1])) rfl ?_
                            obtain ⟨rfl, rfl, rfl⟩ := s_inj hb
                            exact e_r rfl rfl K
                  · replace hb := i_neg c78 hb
                    refine e_k 1 (f' := (166, [(3, .int v5), (0, .ref 112), (1, .int p2), (2, .int x2)], [.int 1])) rfl ?_
                    obtain ⟨rfl, rfl, rfl⟩ := s_inj hb
                    exact e_r rfl rfl K
                · replace hb := i_neg c77 hb
                  refine e_k 1 (f' := (120, [(3, .int v5), (0, .ref 112), (1, .int p2), (2, .int x2)], [.ref 112])) rfl ?_
                  refine r_getr rfl (x_ltn rfl) rfl rfl ?_
                  refine e_k 3 (f' := (126, [(3, .int v5), (0, .ref 112), (1, .int p2), (2, .int x2)], [.int (p2 + 1), .ref 116])) rfl ?_
                  obtain ⟨o121, hb⟩ := ob_in hb
                  refine r_iald rfl rfl (x_ltn rfl) rfl o121 ?_
                  refine e_k 2 (f' := (if 3 < (I 116 (Int32.toNatClampNeg (p2 + 1))) then 155 else 131, [(3, .int v5), (0, .ref 112), (1, .int p2), (2, .int x2)], [])) rfl ?_
                  refine e_if (fun c122 => ?_) (fun c122 => ?_)
                  · replace hb := i_pos c122 hb
                    refine e_k 2 (f' := (160, [(3, .int v5), (0, .ref 112), (1, .int p2), (2, .int x2)], [.int 1])) rfl ?_
                    obtain ⟨rfl, rfl, rfl⟩ := s_inj hb
                    exact e_r rfl rfl K
                  · replace hb := i_neg c122 hb
                    refine e_k 1 (f' := (132, [(3, .int v5), (0, .ref 112), (1, .int p2), (2, .int x2)], [.ref 112])) rfl ?_
                    refine r_getr rfl (x_ltn rfl) rfl rfl ?_
                    refine e_k 3 (f' := (138, [(3, .int v5), (0, .ref 112), (1, .int p2), (2, .int x2)], [.int (p2 + 2), .ref 116])) rfl ?_
                    obtain ⟨o123, hb⟩ := ob_in hb
                    refine r_iald rfl rfl (x_ltn rfl) rfl o123 ?_
                    refine e_k 2 (f' := (if 4 ≤ (I 116 (Int32.toNatClampNeg (p2 + 2))) then 159 else 143, [(3, .int v5), (0, .ref 112), (1, .int p2), (2, .int x2)], [])) rfl ?_
                    refine e_if (fun c124 => ?_) (fun c124 => ?_)
                    · replace hb := i_pos c124 hb
                      refine e_k 1 (f' := (160, [(3, .int v5), (0, .ref 112), (1, .int p2), (2, .int x2)], [.int 0])) rfl ?_
                      obtain ⟨rfl, rfl, rfl⟩ := s_inj hb
                      exact e_r rfl rfl K
                    · replace hb := i_neg c124 hb
                      refine e_k 1 (f' := (144, [(3, .int v5), (0, .ref 112), (1, .int p2), (2, .int x2)], [.ref 112])) rfl ?_
                      refine r_getr rfl (x_ltn rfl) rfl rfl ?_
                      refine e_k 3 (f' := (150, [(3, .int v5), (0, .ref 112), (1, .int p2), (2, .int x2)], [.int (p2 + 3), .ref 116])) rfl ?_
                      obtain ⟨o125, hb⟩ := ob_in hb
                      refine r_iald rfl rfl (x_ltn rfl) rfl o125 ?_
                      refine e_k 2 (f' := (if 4 ≤ (I 116 (Int32.toNatClampNeg (p2 + 3))) then 159 else 155, [(3, .int v5), (0, .ref 112), (1, .int p2), (2, .int x2)], [])) rfl ?_
                      refine e_if (fun c126 => ?_) (fun c126 => ?_)
                      · replace hb := i_pos c126 hb
                        refine e_k 1 (f' := (160, [(3, .int v5), (0, .ref 112), (1, .int p2), (2, .int x2)], [.int 0])) rfl ?_
                        obtain ⟨rfl, rfl, rfl⟩ := s_inj hb
                        exact e_r rfl rfl K
                      · replace hb := i_neg c126 hb
                        refine e_k 2 (f' := (160, [(3, .int v5), (0, .ref 112), (1, .int p2), (2, .int x2)], [.int 1])) rfl ?_
                        obtain ⟨rfl, rfl, rfl⟩ := s_inj hb
                        exact e_r rfl rfl K
            · replace hb := i_neg c32 hb
              refine e_k 2 (f' := (103, [(3, .int v5), (0, .ref 112), (1, .int p2), (2, .int x2)], [.int 1, .ref 112])) rfl ?_
              obtain ⟨v127, I127, J127, h127, hb⟩ := oc_call hb
              refine r_cv (z := m_Model_gives) (As := [.int 1]) (rest := []) rfl rfl rfl rfl rfl (x_ltn rfl) rfl rfl (E_Model_gives  h127 ⟨_, rfl, ?_⟩)
              obtain ⟨o128, hb⟩ := ob_if hb
              obtain ⟨rfl, rfl, rfl⟩ := s_inj hb
              exact e_r rfl (if_pos o128) K
        · replace hb := i_neg c28 hb
          refine e_k 2 (f' := (86, [(3, .int v5), (0, .ref 112), (1, .int p2), (2, .int x2)], [.int 0, .ref 112])) rfl ?_
          obtain ⟨v129, I129, J129, h129, hb⟩ := oc_call hb
          refine r_cv (z := m_Model_gives) (As := [.int 0]) (rest := []) rfl rfl rfl rfl rfl (x_ltn rfl) rfl rfl (E_Model_gives  h129 ⟨_, rfl, ?_⟩)
          obtain ⟨o130, hb⟩ := ob_if hb
          obtain ⟨rfl, rfl, rfl⟩ := s_inj hb
          exact e_r rfl (if_pos o130) K
    · replace hb := i_neg c24 hb
      refine e_k 1 (f' := (73, [(3, .int v5), (0, .ref 112), (1, .int p2), (2, .int x2)], [.int 0])) rfl ?_
      obtain ⟨rfl, rfl, rfl⟩ := s_inj hb
      exact e_r rfl rfl K
  clear hb
  refine e_if (fun c6 => ?_) (fun c6 => ?_)
  · replace h5 := i_pos c6 h5
    refine e_k 3 (f' := (if x2 = 21 then 30 else 24, [(2, .int x2), (0, .ref 112), (1, .int p2)], [])) rfl ?_
    refine e_if (fun c7 => ?_) (fun c7 => ?_)
    · replace h5 := i_pos c7 h5
      refine e_k 2 (f' := (63, [(2, .int x2), (0, .ref 112), (1, .int p2)], [.int 2])) rfl ?_
      refine e_sub (ls := [(0, .ref 112), (1, .int p2), (2, .int x2)]) rfl ⟨rfl, rfl, rfl, trivial⟩ ?_
      subst h5
      exact Kj5
    · replace h5 := i_neg c7 h5
      refine e_k 3 (f' := (if ¬ x2 = 22 then 34 else 30, [(2, .int x2), (0, .ref 112), (1, .int p2)], [])) rfl ?_
      refine e_if (fun c8 => ?_) (fun c8 => ?_)
      · replace h5 := i_pos c8 h5
        refine e_k 3 (f' := (if x2 < 8 then 46 else 40, [(2, .int x2), (0, .ref 112), (1, .int p2)], [])) rfl ?_
        refine e_if (fun c9 => ?_) (fun c9 => ?_)
        · replace h5 := i_pos c9 h5
          refine e_k 3 (f' := (if x2 = 19 then 58 else 52, [(2, .int x2), (0, .ref 112), (1, .int p2)], [])) rfl ?_
          refine e_if (fun c10 => ?_) (fun c10 => ?_)
          · replace h5 := i_pos c10 h5
            refine e_k 2 (f' := (63, [(2, .int x2), (0, .ref 112), (1, .int p2)], [.int 1])) rfl ?_
            refine e_sub (ls := [(0, .ref 112), (1, .int p2), (2, .int x2)]) rfl ⟨rfl, rfl, rfl, trivial⟩ ?_
            subst h5
            exact Kj5
          · replace h5 := i_neg c10 h5
            refine e_k 3 (f' := (if ¬ x2 = 20 then 62 else 58, [(2, .int x2), (0, .ref 112), (1, .int p2)], [])) rfl ?_
            refine e_if (fun c11 => ?_) (fun c11 => ?_)
            · replace h5 := i_pos c11 h5
              refine e_k 1 (f' := (63, [(2, .int x2), (0, .ref 112), (1, .int p2)], [.int 0])) rfl ?_
              refine e_sub (ls := [(0, .ref 112), (1, .int p2), (2, .int x2)]) rfl ⟨rfl, rfl, rfl, trivial⟩ ?_
              subst h5
              exact Kj5
            · replace h5 := i_neg c11 h5
              refine e_k 2 (f' := (63, [(2, .int x2), (0, .ref 112), (1, .int p2)], [.int 1])) rfl ?_
              refine e_sub (ls := [(0, .ref 112), (1, .int p2), (2, .int x2)]) rfl ⟨rfl, rfl, rfl, trivial⟩ ?_
              subst h5
              exact Kj5
        · replace h5 := i_neg c9 h5
          refine e_k 3 (f' := (if x2 ≤ 12 then 58 else 46, [(2, .int x2), (0, .ref 112), (1, .int p2)], [])) rfl ?_
          refine e_if (fun c12 => ?_) (fun c12 => ?_)
          · replace h5 := i_pos c12 h5
            refine e_k 2 (f' := (63, [(2, .int x2), (0, .ref 112), (1, .int p2)], [.int 1])) rfl ?_
            refine e_sub (ls := [(0, .ref 112), (1, .int p2), (2, .int x2)]) rfl ⟨rfl, rfl, rfl, trivial⟩ ?_
            subst h5
            exact Kj5
          · replace h5 := i_neg c12 h5
            refine e_k 3 (f' := (if x2 = 19 then 58 else 52, [(2, .int x2), (0, .ref 112), (1, .int p2)], [])) rfl ?_
            refine e_if (fun c13 => ?_) (fun c13 => ?_)
            · replace h5 := i_pos c13 h5
              refine e_k 2 (f' := (63, [(2, .int x2), (0, .ref 112), (1, .int p2)], [.int 1])) rfl ?_
              refine e_sub (ls := [(0, .ref 112), (1, .int p2), (2, .int x2)]) rfl ⟨rfl, rfl, rfl, trivial⟩ ?_
              subst h5
              exact Kj5
            · replace h5 := i_neg c13 h5
              refine e_k 3 (f' := (if ¬ x2 = 20 then 62 else 58, [(2, .int x2), (0, .ref 112), (1, .int p2)], [])) rfl ?_
              refine e_if (fun c14 => ?_) (fun c14 => ?_)
              · replace h5 := i_pos c14 h5
                refine e_k 1 (f' := (63, [(2, .int x2), (0, .ref 112), (1, .int p2)], [.int 0])) rfl ?_
                refine e_sub (ls := [(0, .ref 112), (1, .int p2), (2, .int x2)]) rfl ⟨rfl, rfl, rfl, trivial⟩ ?_
                subst h5
                exact Kj5
              · replace h5 := i_neg c14 h5
                refine e_k 2 (f' := (63, [(2, .int x2), (0, .ref 112), (1, .int p2)], [.int 1])) rfl ?_
                refine e_sub (ls := [(0, .ref 112), (1, .int p2), (2, .int x2)]) rfl ⟨rfl, rfl, rfl, trivial⟩ ?_
                subst h5
                exact Kj5
      · replace h5 := i_neg c8 h5
        refine e_k 2 (f' := (63, [(2, .int x2), (0, .ref 112), (1, .int p2)], [.int 2])) rfl ?_
        refine e_sub (ls := [(0, .ref 112), (1, .int p2), (2, .int x2)]) rfl ⟨rfl, rfl, rfl, trivial⟩ ?_
        subst h5
        exact Kj5
  · replace h5 := i_neg c6 h5
    refine e_k 3 (f' := (if x2 ≤ 7 then 30 else 18, [(2, .int x2), (0, .ref 112), (1, .int p2)], [])) rfl ?_
    refine e_if (fun c15 => ?_) (fun c15 => ?_)
    · replace h5 := i_pos c15 h5
      refine e_k 2 (f' := (63, [(2, .int x2), (0, .ref 112), (1, .int p2)], [.int 2])) rfl ?_
      refine e_sub (ls := [(0, .ref 112), (1, .int p2), (2, .int x2)]) rfl ⟨rfl, rfl, rfl, trivial⟩ ?_
      subst h5
      exact Kj5
    · replace h5 := i_neg c15 h5
      refine e_k 3 (f' := (if x2 = 21 then 30 else 24, [(2, .int x2), (0, .ref 112), (1, .int p2)], [])) rfl ?_
      refine e_if (fun c16 => ?_) (fun c16 => ?_)
      · replace h5 := i_pos c16 h5
        refine e_k 2 (f' := (63, [(2, .int x2), (0, .ref 112), (1, .int p2)], [.int 2])) rfl ?_
        refine e_sub (ls := [(0, .ref 112), (1, .int p2), (2, .int x2)]) rfl ⟨rfl, rfl, rfl, trivial⟩ ?_
        subst h5
        exact Kj5
      · replace h5 := i_neg c16 h5
        refine e_k 3 (f' := (if ¬ x2 = 22 then 34 else 30, [(2, .int x2), (0, .ref 112), (1, .int p2)], [])) rfl ?_
        refine e_if (fun c17 => ?_) (fun c17 => ?_)
        · replace h5 := i_pos c17 h5
          refine e_k 3 (f' := (if x2 < 8 then 46 else 40, [(2, .int x2), (0, .ref 112), (1, .int p2)], [])) rfl ?_
          refine e_if (fun c18 => ?_) (fun c18 => ?_)
          · replace h5 := i_pos c18 h5
            refine e_k 3 (f' := (if x2 = 19 then 58 else 52, [(2, .int x2), (0, .ref 112), (1, .int p2)], [])) rfl ?_
            refine e_if (fun c19 => ?_) (fun c19 => ?_)
            · replace h5 := i_pos c19 h5
              refine e_k 2 (f' := (63, [(2, .int x2), (0, .ref 112), (1, .int p2)], [.int 1])) rfl ?_
              refine e_sub (ls := [(0, .ref 112), (1, .int p2), (2, .int x2)]) rfl ⟨rfl, rfl, rfl, trivial⟩ ?_
              subst h5
              exact Kj5
            · replace h5 := i_neg c19 h5
              refine e_k 3 (f' := (if ¬ x2 = 20 then 62 else 58, [(2, .int x2), (0, .ref 112), (1, .int p2)], [])) rfl ?_
              refine e_if (fun c20 => ?_) (fun c20 => ?_)
              · replace h5 := i_pos c20 h5
                refine e_k 1 (f' := (63, [(2, .int x2), (0, .ref 112), (1, .int p2)], [.int 0])) rfl ?_
                refine e_sub (ls := [(0, .ref 112), (1, .int p2), (2, .int x2)]) rfl ⟨rfl, rfl, rfl, trivial⟩ ?_
                subst h5
                exact Kj5
              · replace h5 := i_neg c20 h5
                refine e_k 2 (f' := (63, [(2, .int x2), (0, .ref 112), (1, .int p2)], [.int 1])) rfl ?_
                refine e_sub (ls := [(0, .ref 112), (1, .int p2), (2, .int x2)]) rfl ⟨rfl, rfl, rfl, trivial⟩ ?_
                subst h5
                exact Kj5
          · replace h5 := i_neg c18 h5
            refine e_k 3 (f' := (if x2 ≤ 12 then 58 else 46, [(2, .int x2), (0, .ref 112), (1, .int p2)], [])) rfl ?_
            refine e_if (fun c21 => ?_) (fun c21 => ?_)
            · replace h5 := i_pos c21 h5
              refine e_k 2 (f' := (63, [(2, .int x2), (0, .ref 112), (1, .int p2)], [.int 1])) rfl ?_
              refine e_sub (ls := [(0, .ref 112), (1, .int p2), (2, .int x2)]) rfl ⟨rfl, rfl, rfl, trivial⟩ ?_
              subst h5
              exact Kj5
            · replace h5 := i_neg c21 h5
              refine e_k 3 (f' := (if x2 = 19 then 58 else 52, [(2, .int x2), (0, .ref 112), (1, .int p2)], [])) rfl ?_
              refine e_if (fun c22 => ?_) (fun c22 => ?_)
              · replace h5 := i_pos c22 h5
                refine e_k 2 (f' := (63, [(2, .int x2), (0, .ref 112), (1, .int p2)], [.int 1])) rfl ?_
                refine e_sub (ls := [(0, .ref 112), (1, .int p2), (2, .int x2)]) rfl ⟨rfl, rfl, rfl, trivial⟩ ?_
                subst h5
                exact Kj5
              · replace h5 := i_neg c22 h5
                refine e_k 3 (f' := (if ¬ x2 = 20 then 62 else 58, [(2, .int x2), (0, .ref 112), (1, .int p2)], [])) rfl ?_
                refine e_if (fun c23 => ?_) (fun c23 => ?_)
                · replace h5 := i_pos c23 h5
                  refine e_k 1 (f' := (63, [(2, .int x2), (0, .ref 112), (1, .int p2)], [.int 0])) rfl ?_
                  refine e_sub (ls := [(0, .ref 112), (1, .int p2), (2, .int x2)]) rfl ⟨rfl, rfl, rfl, trivial⟩ ?_
                  subst h5
                  exact Kj5
                · replace h5 := i_neg c23 h5
                  refine e_k 2 (f' := (63, [(2, .int x2), (0, .ref 112), (1, .int p2)], [.int 1])) rfl ?_
                  refine e_sub (ls := [(0, .ref 112), (1, .int p2), (2, .int x2)]) rfl ⟨rfl, rfl, rfl, trivial⟩ ?_
                  subst h5
                  exact Kj5
        · replace h5 := i_neg c17 h5
          refine e_k 2 (f' := (63, [(2, .int x2), (0, .ref 112), (1, .int p2)], [.int 2])) rfl ?_
          refine e_sub (ls := [(0, .ref 112), (1, .int p2), (2, .int x2)]) rfl ⟨rfl, rfl, rfl, trivial⟩ ?_
          subst h5
          exact Kj5
end AUTO
