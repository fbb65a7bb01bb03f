section AUTO
variable {L : Nat} {xs : Nat → Int32} {d : Nat} {P : am_R → am_H → Prop}
def f_Hall_gatherErrors_34 (w2 : Nat) (p3 : Int32) (p4 : Int32) : Nat → Int32 → Int32 → Int32 → Int64 → Int32 → MI → MJ → M2 (Int64)
  | 0, _, _, _, _, _, _, _ => none
  | fu + 1, l2, l3, l5, l6, l8, I, J => if (I 14 6) ≤ l8 then (some (l6, I, J)) else (if l2 = (-1) then (if l8 < 0 ∨ 4 ≤ Int32.toNatClampNeg l8 then none else (oc (f_Errors_sum l8 (I (36 + 21 * w2) (Int32.toNatClampNeg l8)) l5 I J) (fun v6 I6 J6 => oc (f_Sh_plus l6 v6 I6 J6) (fun v7 I7 J7 => f_Hall_gatherErrors_34 w2 p3 p4 fu l2 l3 l5 v7 (l8 + 1) I7 J7)))) else (if ¬ l2 = l8 then (f_Hall_gatherErrors_34 w2 p3 p4 fu l2 l3 l5 l6 (l8 + 1) I J) else (if l8 < 0 ∨ 4 ≤ Int32.toNatClampNeg l8 then none else (oc (f_Errors_sum l8 (I (36 + 21 * w2) (Int32.toNatClampNeg l8)) l5 I J) (fun v10 I10 J10 => oc (f_Sh_plus l6 v10 I10 J10) (fun v11 I11 J11 => f_Hall_gatherErrors_34 w2 p3 p4 fu l2 l3 l5 v11 (l8 + 1) I11 J11))))))
theorem E_Hall_gatherErrors_34 {X : MX} {w2 : Nat} {p3 : Int32} {p4 : Int32} (hw_w2 : w2 < 4) : ∀ (fu : Nat) {l2 : Int32} {l3 : Int32} {l5 : Int32} {l6 : Int64} {l8 : Int32} {I : MI} {J : MJ} {r : (Int64)} {I' : MI} {J' : MJ}, f_Hall_gatherErrors_34 w2 p3 p4 fu l2 l3 l5 l6 l8 I J = some (r, I', J') → am_E (gG L xs) (d + 2) m_Hall_gatherErrors (83, [(0, .ref 14), (1, .ref (18 + 21 * w2)), (2, .int l2), (3, .int l3), (4, .ref (36 + 21 * w2)), (5, .int l5), (6, .long r)], []) (hX X I' J') P → am_E (gG L xs) (d + 2) m_Hall_gatherErrors (34, [(0, .ref 14), (1, .ref (18 + 21 * w2)), (2, .int l2), (3, .int l3), (4, .ref (36 + 21 * w2)), (5, .int l5), (6, .long l6), (8, .int l8)], []) (hX X I J) P := by
  intro fu
  induction fu with
  | zero =>
    intros
    rename_i hb _
    cases hb
  | succ fu ih =>
    intro l2 l3 l5 l6 l8 I J r I' J' hb K
    unfold f_Hall_gatherErrors_34 at hb
    refine e_k 2 (f' := (37, [(0, .ref 14), (1, .ref (18 + 21 * w2)), (2, .int l2), (3, .int l3), (4, .ref (36 + 21 * w2)), (5, .int l5), (6, .long l6), (8, .int l8)], [.ref 14, .int l8])) rfl ?_
    refine r_geti rfl (x_ltn rfl) rfl rfl ?_
    refine e_k 1 (f' := (if (I 14 6) ≤ l8 then 83 else 43, [(0, .ref 14), (1, .ref (18 + 21 * w2)), (2, .int l2), (3, .int l3), (4, .ref (36 + 21 * w2)), (5, .int l5), (6, .long l6), (8, .int l8)], [])) rfl ?_
    refine e_if (fun c3 => ?_) (fun c3 => ?_)
    · replace hb := i_pos c3 hb
      refine e_sub (ls := [(0, .ref 14), (1, .ref (18 + 21 * w2)), (2, .int l2), (3, .int l3), (4, .ref (36 + 21 * w2)), (5, .int l5), (6, .long l6)]) rfl ⟨rfl, rfl, rfl, rfl, rfl, rfl, rfl, trivial⟩ ?_
      obtain ⟨rfl, rfl, rfl⟩ := s_inj hb
      exact K
    · replace hb := i_neg c3 hb
      refine e_k 3 (f' := (if l2 = (-1) then 54 else 48, [(0, .ref 14), (1, .ref (18 + 21 * w2)), (2, .int l2), (3, .int l3), (4, .ref (36 + 21 * w2)), (5, .int l5), (6, .long l6), (8, .int l8)], [])) rfl ?_
      refine e_if (fun c4 => ?_) (fun c4 => ?_)
      · replace hb := i_pos c4 hb
        refine e_k 2 (f' := (57, [(0, .ref 14), (1, .ref (18 + 21 * w2)), (2, .int l2), (3, .int l3), (4, .ref (36 + 21 * w2)), (5, .int l5), (6, .long l6), (8, .int l8)], [.ref 14, .long l6])) rfl ?_
        refine r_getr rfl (x_ltn rfl) rfl rfl ?_
        refine e_k 3 (f' := (66, [(0, .ref 14), (1, .ref (18 + 21 * w2)), (2, .int l2), (3, .int l3), (4, .ref (36 + 21 * w2)), (5, .int l5), (6, .long l6), (8, .int l8)], [.int l8, .ref (36 + 21 * w2), .int l8, .ref 103, .long l6])) rfl ?_
        obtain ⟨o5, hb⟩ := ob_in hb
        refine r_iald rfl (x_t0 hw_w2 (by decide)) (x_ltp hw_w2 (by decide)) (sS_p18 hw_w2) o5 ?_
        refine e_k 1 (f' := (69, [(0, .ref 14), (1, .ref (18 + 21 * w2)), (2, .int l2), (3, .int l3), (4, .ref (36 + 21 * w2)), (5, .int l5), (6, .long l6), (8, .int l8)], [.int l5, .int (I (36 + 21 * w2) (Int32.toNatClampNeg l8)), .int l8, .ref 103, .long l6])) rfl ?_
        obtain ⟨v6, I6, J6, h6, hb⟩ := oc_call hb
        refine r_cv (z := m_Errors_sum) (As := [.int l8, .int (I (36 + 21 * w2) (Int32.toNatClampNeg l8)), .int l5]) (rest := [.long l6]) rfl rfl rfl rfl rfl (x_ltn rfl) rfl rfl (E_Errors_sum  h6 ⟨_, rfl, ?_⟩)
        obtain ⟨v7, I7, J7, h7, hb⟩ := oc_call hb
        refine r_cs (z := m_Sh_plus) (As := [.long l6, .long v6]) (rest := []) rfl rfl rfl rfl rfl rfl (E_Sh_plus  h7 ⟨_, rfl, ?_⟩)
        refine e_k 3 (f' := (34, [(8, .int (l8 + 1)), (6, .long v7), (0, .ref 14), (1, .ref (18 + 21 * w2)), (2, .int l2), (3, .int l3), (4, .ref (36 + 21 * w2)), (5, .int l5)], [])) rfl ?_
        refine e_sub (ls := [(0, .ref 14), (1, .ref (18 + 21 * w2)), (2, .int l2), (3, .int l3), (4, .ref (36 + 21 * w2)), (5, .int l5), (6, .long v7), (8, .int (l8 + 1))]) rfl ⟨rfl, rfl, rfl, rfl, rfl, rfl, rfl, rfl, trivial⟩ ?_
        exact ih  hb K
      · replace hb := i_neg c4 hb
        refine e_k 3 (f' := (if ¬ l2 = l8 then 77 else 54, [(0, .ref 14), (1, .ref (18 + 21 * w2)), (2, .int l2), (3, .int l3), (4, .ref (36 + 21 * w2)), (5, .int l5), (6, .long l6), (8, .int l8)], [])) rfl ?_
        refine e_if (fun c8 => ?_) (fun c8 => ?_)
        · replace hb := i_pos c8 hb
          refine e_k 2 (f' := (34, [(8, .int (l8 + 1)), (0, .ref 14), (1, .ref (18 + 21 * w2)), (2, .int l2), (3, .int l3), (4, .ref (36 + 21 * w2)), (5, .int l5), (6, .long l6)], [])) rfl ?_
          refine e_sub (ls := [(0, .ref 14), (1, .ref (18 + 21 * w2)), (2, .int l2), (3, .int l3), (4, .ref (36 + 21 * w2)), (5, .int l5), (6, .long l6), (8, .int (l8 + 1))]) rfl ⟨rfl, rfl, rfl, rfl, rfl, rfl, rfl, rfl, trivial⟩ ?_
          exact ih  hb K
        · replace hb := i_neg c8 hb
          refine e_k 2 (f' := (57, [(0, .ref 14), (1, .ref (18 + 21 * w2)), (2, .int l2), (3, .int l3), (4, .ref (36 + 21 * w2)), (5, .int l5), (6, .long l6), (8, .int l8)], [.ref 14, .long l6])) rfl ?_
          refine r_getr rfl (x_ltn rfl) rfl rfl ?_
          refine e_k 3 (f' := (66, [(0, .ref 14), (1, .ref (18 + 21 * w2)), (2, .int l2), (3, .int l3), (4, .ref (36 + 21 * w2)), (5, .int l5), (6, .long l6), (8, .int l8)], [.int l8, .ref (36 + 21 * w2), .int l8, .ref 103, .long l6])) rfl ?_
          obtain ⟨o9, hb⟩ := ob_in hb
          refine r_iald rfl (x_t0 hw_w2 (by decide)) (x_ltp hw_w2 (by decide)) (sS_p18 hw_w2) o9 ?_
          refine e_k 1 (f' := (69, [(0, .ref 14), (1, .ref (18 + 21 * w2)), (2, .int l2), (3, .int l3), (4, .ref (36 + 21 * w2)), (5, .int l5), (6, .long l6), (8, .int l8)], [.int l5, .int (I (36 + 21 * w2) (Int32.toNatClampNeg l8)), .int l8, .ref 103, .long l6])) rfl ?_
          obtain ⟨v10, I10, J10, h10, hb⟩ := oc_call hb
          refine r_cv (z := m_Errors_sum) (As := [.int l8, .int (I (36 + 21 * w2) (Int32.toNatClampNeg l8)), .int l5]) (rest := [.long l6]) rfl rfl rfl rfl rfl (x_ltn rfl) rfl rfl (E_Errors_sum  h10 ⟨_, rfl, ?_⟩)
          obtain ⟨v11, I11, J11, h11, hb⟩ := oc_call hb
          refine r_cs (z := m_Sh_plus) (As := [.long l6, .long v10]) (rest := []) rfl rfl rfl rfl rfl rfl (E_Sh_plus  h11 ⟨_, rfl, ?_⟩)
          refine e_k 3 (f' := (34, [(8, .int (l8 + 1)), (6, .long v11), (0, .ref 14), (1, .ref (18 + 21 * w2)), (2, .int l2), (3, .int l3), (4, .ref (36 + 21 * w2)), (5, .int l5)], [])) rfl ?_
          refine e_sub (ls := [(0, .ref 14), (1, .ref (18 + 21 * w2)), (2, .int l2), (3, .int l3), (4, .ref (36 + 21 * w2)), (5, .int l5), (6, .long v11), (8, .int (l8 + 1))]) rfl ⟨rfl, rfl, rfl, rfl, rfl, rfl, rfl, rfl, trivial⟩ ?_
          exact ih  hb K
def f_Hall_gatherErrors_12 (w2 : Nat) (p3 : Int32) (p4 : Int32) : Nat → Int32 → Int32 → Int32 → MI → MJ → M2 (Unit)
  | 0, _, _, _, _, _ => none
  | fu + 1, l2, l3, l5, I, J => if l3 ≤ l5 then (some ((), I, J)) else (if (nI 32) ≤ l5 then (some ((), I, J)) else (oc (f_Hall_gatherErrors_34 w2 p3 p4 gF l2 l3 l5 0 0 I J) (fun u12 I12 J12 => if l5 < 0 ∨ 32 ≤ Int32.toNatClampNeg l5 then none else (pl (va_up J12 111 (vp_updL (J12 111) (Int32.toNatClampNeg l5) u12)) (fun J14 => if ¬ l2 = (-1) then (f_Hall_gatherErrors_12 w2 p3 p4 fu l2 l3 (l5 + 1) I12 J14) else (oc (f_Check_note w2 u12 I12 J14) (fun v16 I16 J16 => f_Hall_gatherErrors_12 w2 p3 p4 fu l2 l3 (l5 + 1) I16 J16)))))))
theorem E_Hall_gatherErrors_12 {X : MX} {w2 : Nat} {p3 : Int32} {p4 : Int32} (hw_w2 : w2 < 4) : ∀ (fu : Nat) {l2 : Int32} {l3 : Int32} {l5 : Int32} {I : MI} {J : MJ} {r : (Unit)} {I' : MI} {J' : MJ}, f_Hall_gatherErrors_12 w2 p3 p4 fu l2 l3 l5 I J = some (r, I', J') → am_E (gG L xs) (d + 2) m_Hall_gatherErrors (112, [(0, .ref 14), (2, .int l2), (4, .ref (36 + 21 * w2))], []) (hX X I' J') P → am_E (gG L xs) (d + 2) m_Hall_gatherErrors (12, [(0, .ref 14), (1, .ref (18 + 21 * w2)), (2, .int l2), (3, .int l3), (4, .ref (36 + 21 * w2)), (5, .int l5)], []) (hX X I J) P := by
  intro fu
  induction fu with
  | zero =>
    intros
    rename_i hb _
    cases hb
  | succ fu ih =>
    intro l2 l3 l5 I J r I' J' hb K
    unfold f_Hall_gatherErrors_12 at hb
    refine e_k 3 (f' := (if l3 ≤ l5 then 112 else 18, [(0, .ref 14), (1, .ref (18 + 21 * w2)), (2, .int l2), (3, .int l3), (4, .ref (36 + 21 * w2)), (5, .int l5)], [])) rfl ?_
    refine e_if (fun c1 => ?_) (fun c1 => ?_)
    · replace hb := i_pos c1 hb
      refine e_sub (ls := [(0, .ref 14), (2, .int l2), (4, .ref (36 + 21 * w2))]) rfl ⟨rfl, rfl, rfl, trivial⟩ ?_
      obtain ⟨rfl, rfl, rfl⟩ := s_inj hb
      exact K
    · replace hb := i_neg c1 hb
      refine e_k 2 (f' := (21, [(0, .ref 14), (1, .ref (18 + 21 * w2)), (2, .int l2), (3, .int l3), (4, .ref (36 + 21 * w2)), (5, .int l5)], [.ref 14, .int l5])) rfl ?_
      refine r_getr rfl (x_ltn rfl) rfl rfl ?_
      refine r_alen rfl rfl (x_ltn rfl) rfl rfl ?_
      refine e_k 1 (f' := (if (nI 32) ≤ l5 then 112 else 28, [(0, .ref 14), (1, .ref (18 + 21 * w2)), (2, .int l2), (3, .int l3), (4, .ref (36 + 21 * w2)), (5, .int l5)], [])) rfl ?_
      refine e_if (fun c2 => ?_) (fun c2 => ?_)
      · replace hb := i_pos c2 hb
        refine e_sub (ls := [(0, .ref 14), (2, .int l2), (4, .ref (36 + 21 * w2))]) rfl ⟨rfl, rfl, rfl, trivial⟩ ?_
        obtain ⟨rfl, rfl, rfl⟩ := s_inj hb
        exact K
      · replace hb := i_neg c2 hb
        refine e_k 4 (f' := (34, [(8, .int 0), (6, .long 0), (0, .ref 14), (1, .ref (18 + 21 * w2)), (2, .int l2), (3, .int l3), (4, .ref (36 + 21 * w2)), (5, .int l5)], [])) rfl ?_
        refine e_sub (ls := [(0, .ref 14), (1, .ref (18 + 21 * w2)), (2, .int l2), (3, .int l3), (4, .ref (36 + 21 * w2)), (5, .int l5), (6, .long 0), (8, .int 0)]) rfl ⟨rfl, rfl, rfl, rfl, rfl, rfl, rfl, rfl, trivial⟩ ?_
        obtain ⟨u12, I12, J12, h12, hb⟩ := oc_call hb
        refine E_Hall_gatherErrors_34 hw_w2 gF  h12 ?_
        refine e_k 1 (f' := (84, [(0, .ref 14), (1, .ref (18 + 21 * w2)), (2, .int l2), (3, .int l3), (4, .ref (36 + 21 * w2)), (5, .int l5), (6, .long u12)], [.ref 14])) rfl ?_
        refine r_getr rfl (x_ltn rfl) rfl rfl ?_
        refine e_k 2 (f' := (91, [(0, .ref 14), (1, .ref (18 + 21 * w2)), (2, .int l2), (3, .int l3), (4, .ref (36 + 21 * w2)), (5, .int l5), (6, .long u12)], [.long u12, .int l5, .ref 111])) rfl ?_
        obtain ⟨o13, hb⟩ := ob_in hb
        obtain ⟨J14, eJ14, hb⟩ := p_nm hb
        refine r_last' rfl (x_ltn rfl) rfl o13 eJ14 ?_
        refine e_k 3 (f' := (if ¬ l2 = (-1) then 106 else 97, [(0, .ref 14), (1, .ref (18 + 21 * w2)), (2, .int l2), (3, .int l3), (4, .ref (36 + 21 * w2)), (5, .int l5), (6, .long u12)], [])) rfl ?_
        refine e_if (fun c15 => ?_) (fun c15 => ?_)
        · replace hb := i_pos c15 hb
          refine e_k 2 (f' := (12, [(5, .int (l5 + 1)), (0, .ref 14), (1, .ref (18 + 21 * w2)), (2, .int l2), (3, .int l3), (4, .ref (36 + 21 * w2)), (6, .long u12)], [])) rfl ?_
          refine e_sub (ls := [(0, .ref 14), (1, .ref (18 + 21 * w2)), (2, .int l2), (3, .int l3), (4, .ref (36 + 21 * w2)), (5, .int (l5 + 1))]) rfl ⟨rfl, rfl, rfl, rfl, rfl, rfl, trivial⟩ ?_
          exact ih  hb K
        · replace hb := i_neg c15 hb
          refine e_k 1 (f' := (98, [(0, .ref 14), (1, .ref (18 + 21 * w2)), (2, .int l2), (3, .int l3), (4, .ref (36 + 21 * w2)), (5, .int l5), (6, .long u12)], [.ref (18 + 21 * w2)])) rfl ?_
          refine r_getr rfl (x_ltp hw_w2 (by decide)) (sS_p0 hw_w2) rfl ?_
          refine e_k 1 (f' := (103, [(0, .ref 14), (1, .ref (18 + 21 * w2)), (2, .int l2), (3, .int l3), (4, .ref (36 + 21 * w2)), (5, .int l5), (6, .long u12)], [.long u12, .ref (25 + 21 * w2)])) rfl ?_
          obtain ⟨v16, I16, J16, h16, hb⟩ := oc_call hb
          refine r_cv (z := m_Check_note) (As := [.long u12]) (rest := []) rfl rfl rfl rfl rfl (x_ltp hw_w2 (by decide)) (sS_p7 hw_w2) rfl (E_Check_note hw_w2 h16 ⟨_, rfl, ?_⟩)
          refine e_k 2 (f' := (12, [(5, .int (l5 + 1)), (0, .ref 14), (1, .ref (18 + 21 * w2)), (2, .int l2), (3, .int l3), (4, .ref (36 + 21 * w2)), (6, .long u12)], [])) rfl ?_
          refine e_sub (ls := [(0, .ref 14), (1, .ref (18 + 21 * w2)), (2, .int l2), (3, .int l3), (4, .ref (36 + 21 * w2)), (5, .int (l5 + 1))]) rfl ⟨rfl, rfl, rfl, rfl, rfl, rfl, trivial⟩ ?_
          exact ih  hb K
def f_Hall_gatherErrors_115 (w2 : Nat) (p3 : Int32) (p4 : Int32) : Nat → Int32 → Int32 → MI → MJ → M2 (Unit)
  | 0, _, _, _, _ => none
  | fu + 1, l2, l5, I, J => if (I 14 6) ≤ l5 then (some ((), I, J)) else (if l2 = (-1) then (if l5 < 0 ∨ 4 ≤ Int32.toNatClampNeg l5 then none else (if l5 < 0 ∨ 4 ≤ Int32.toNatClampNeg l5 then none else (pl (va_up I (36 + 21 * w2) (upd (I (36 + 21 * w2)) (Int32.toNatClampNeg l5) ((I (36 + 21 * w2) (Int32.toNatClampNeg l5)) + 1))) (fun I22 => f_Hall_gatherErrors_115 w2 p3 p4 fu l2 (l5 + 1) I22 J)))) else (if ¬ l2 = l5 then (f_Hall_gatherErrors_115 w2 p3 p4 fu l2 (l5 + 1) I J) else (if l5 < 0 ∨ 4 ≤ Int32.toNatClampNeg l5 then none else (if l5 < 0 ∨ 4 ≤ Int32.toNatClampNeg l5 then none else (pl (va_up I (36 + 21 * w2) (upd (I (36 + 21 * w2)) (Int32.toNatClampNeg l5) ((I (36 + 21 * w2) (Int32.toNatClampNeg l5)) + 1))) (fun I26 => f_Hall_gatherErrors_115 w2 p3 p4 fu l2 (l5 + 1) I26 J))))))
theorem E_Hall_gatherErrors_115 {X : MX} {w2 : Nat} {p3 : Int32} {p4 : Int32} (hw_w2 : w2 < 4) : ∀ (fu : Nat) {l2 : Int32} {l5 : Int32} {I : MI} {J : MJ} {r : (Unit)} {I' : MI} {J' : MJ}, f_Hall_gatherErrors_115 w2 p3 p4 fu l2 l5 I J = some (r, I', J') → am_E (gG L xs) d m_Hall_gatherErrors (150, [], []) (hX X I' J') P → am_E (gG L xs) d m_Hall_gatherErrors (115, [(0, .ref 14), (2, .int l2), (4, .ref (36 + 21 * w2)), (5, .int l5)], []) (hX X I J) P := by
  intro fu
  induction fu with
  | zero =>
    intros
    rename_i hb _
    cases hb
  | succ fu ih =>
    intro l2 l5 I J r I' J' hb K
    unfold f_Hall_gatherErrors_115 at hb
    refine e_k 2 (f' := (118, [(0, .ref 14), (2, .int l2), (4, .ref (36 + 21 * w2)), (5, .int l5)], [.ref 14, .int l5])) rfl ?_
    refine r_geti rfl (x_ltn rfl) rfl rfl ?_
    refine e_k 1 (f' := (if (I 14 6) ≤ l5 then 150 else 124, [(0, .ref 14), (2, .int l2), (4, .ref (36 + 21 * w2)), (5, .int l5)], [])) rfl ?_
    refine e_if (fun c18 => ?_) (fun c18 => ?_)
    · replace hb := i_pos c18 hb
      refine e_sub (ls := []) rfl ⟨⟩ ?_
      obtain ⟨rfl, rfl, rfl⟩ := s_inj hb
      exact K
    · replace hb := i_neg c18 hb
      refine e_k 3 (f' := (if l2 = (-1) then 135 else 129, [(0, .ref 14), (2, .int l2), (4, .ref (36 + 21 * w2)), (5, .int l5)], [])) rfl ?_
      refine e_if (fun c19 => ?_) (fun c19 => ?_)
      · replace hb := i_pos c19 hb
        refine e_k 3 (f' := (140, [(0, .ref 14), (2, .int l2), (4, .ref (36 + 21 * w2)), (5, .int l5)], [.int l5, .ref (36 + 21 * w2), .int l5, .ref (36 + 21 * w2)])) rfl ?_
        obtain ⟨o20, hb⟩ := ob_in hb
        refine r_iald rfl (x_t0 hw_w2 (by decide)) (x_ltp hw_w2 (by decide)) (sS_p18 hw_w2) o20 ?_
        refine e_k 2 (f' := (143, [(0, .ref 14), (2, .int l2), (4, .ref (36 + 21 * w2)), (5, .int l5)], [.int ((I (36 + 21 * w2) (Int32.toNatClampNeg l5)) + 1), .int l5, .ref (36 + 21 * w2)])) rfl ?_
        obtain ⟨o21, hb⟩ := ob_in hb
        obtain ⟨I22, eI22, hb⟩ := p_nm hb
        refine r_iast' rfl (x_ltp hw_w2 (by decide)) (sS_p18 hw_w2) o21 eI22 ?_
        refine e_k 2 (f' := (115, [(5, .int (l5 + 1)), (0, .ref 14), (2, .int l2), (4, .ref (36 + 21 * w2))], [])) rfl ?_
        refine e_sub (ls := [(0, .ref 14), (2, .int l2), (4, .ref (36 + 21 * w2)), (5, .int (l5 + 1))]) rfl ⟨rfl, rfl, rfl, rfl, trivial⟩ ?_
        exact ih  hb K
      · replace hb := i_neg c19 hb
        refine e_k 3 (f' := (if ¬ l2 = l5 then 144 else 135, [(0, .ref 14), (2, .int l2), (4, .ref (36 + 21 * w2)), (5, .int l5)], [])) rfl ?_
        refine e_if (fun c23 => ?_) (fun c23 => ?_)
        · replace hb := i_pos c23 hb
          refine e_k 2 (f' := (115, [(5, .int (l5 + 1)), (0, .ref 14), (2, .int l2), (4, .ref (36 + 21 * w2))], [])) rfl ?_
          refine e_sub (ls := [(0, .ref 14), (2, .int l2), (4, .ref (36 + 21 * w2)), (5, .int (l5 + 1))]) rfl ⟨rfl, rfl, rfl, rfl, trivial⟩ ?_
          exact ih  hb K
        · replace hb := i_neg c23 hb
          refine e_k 3 (f' := (140, [(0, .ref 14), (2, .int l2), (4, .ref (36 + 21 * w2)), (5, .int l5)], [.int l5, .ref (36 + 21 * w2), .int l5, .ref (36 + 21 * w2)])) rfl ?_
          obtain ⟨o24, hb⟩ := ob_in hb
          refine r_iald rfl (x_t0 hw_w2 (by decide)) (x_ltp hw_w2 (by decide)) (sS_p18 hw_w2) o24 ?_
          refine e_k 2 (f' := (143, [(0, .ref 14), (2, .int l2), (4, .ref (36 + 21 * w2)), (5, .int l5)], [.int ((I (36 + 21 * w2) (Int32.toNatClampNeg l5)) + 1), .int l5, .ref (36 + 21 * w2)])) rfl ?_
          obtain ⟨o25, hb⟩ := ob_in hb
          obtain ⟨I26, eI26, hb⟩ := p_nm hb
          refine r_iast' rfl (x_ltp hw_w2 (by decide)) (sS_p18 hw_w2) o25 eI26 ?_
          refine e_k 2 (f' := (115, [(5, .int (l5 + 1)), (0, .ref 14), (2, .int l2), (4, .ref (36 + 21 * w2))], [])) rfl ?_
          refine e_sub (ls := [(0, .ref 14), (2, .int l2), (4, .ref (36 + 21 * w2)), (5, .int (l5 + 1))]) rfl ⟨rfl, rfl, rfl, rfl, trivial⟩ ?_
          exact ih  hb K
def f_Hall_gatherErrors (w2 : Nat) (p3 : Int32) (p4 : Int32) (I : MI) (J : MJ) : M2 Unit := oc (f_Hall_gatherErrors_12 w2 p3 p4 gF p3 p4 0 I J) (fun u17 I17 J17 => oc (f_Hall_gatherErrors_115 w2 p3 p4 gF p3 0 I17 J17) (fun u27 I27 J27 => some ((), I27, J27)))
theorem E_Hall_gatherErrors {w2 : Nat} {p3 : Int32} {p4 : Int32} {X : MX} {I : MI} {J : MJ} {v : Unit} {I' : MI} {J' : MJ} (hw_w2 : w2 < 4) (hb : f_Hall_gatherErrors w2 p3 p4 I J = some (v, I', J')) (K : P (.inl (none)) (hX X I' J')) : am_E (gG L xs) (d + 2) m_Hall_gatherErrors (0, lv_args 0 [.ref 14, .ref (18 + 21 * w2), .int p3, .int p4], []) (hX X I J) P := by
  unfold f_Hall_gatherErrors at hb
  refine e_k 1 (f' := (1, [(0, .ref 14), (1, .ref (18 + 21 * w2)), (2, .int p3), (3, .int p4)], [.ref (18 + 21 * w2)])) rfl ?_
  refine r_getr rfl (x_ltp hw_w2 (by decide)) (sS_p0 hw_w2) rfl ?_
  refine r_getr rfl (x_ltp hw_w2 (by decide)) (sS_p14 hw_w2) rfl ?_
  refine e_k 3 (f' := (12, [(5, .int 0), (4, .ref (36 + 21 * w2)), (0, .ref 14), (1, .ref (18 + 21 * w2)), (2, .int p3), (3, .int p4)], [])) rfl ?_
  refine e_sub (ls := [(0, .ref 14), (1, .ref (18 + 21 * w2)), (2, .int p3), (3, .int p4), (4, .ref (36 + 21 * w2)), (5, .int 0)]) rfl ⟨rfl, rfl, rfl, rfl, rfl, rfl, trivial⟩ ?_
  obtain ⟨u17, I17, J17, h17, hb⟩ := oc_call hb
  refine E_Hall_gatherErrors_12 hw_w2 gF  h17 ?_
  refine e_k 2 (f' := (115, [(5, .int 0), (0, .ref 14), (2, .int p3), (4, .ref (36 + 21 * w2))], [])) rfl ?_
  refine e_sub (ls := [(0, .ref 14), (2, .int p3), (4, .ref (36 + 21 * w2)), (5, .int 0)]) rfl ⟨rfl, rfl, rfl, rfl, trivial⟩ ?_
  obtain ⟨u27, I27, J27, h27, hb⟩ := oc_call hb
  refine E_Hall_gatherErrors_115 hw_w2 gF  h27 ?_
  obtain ⟨rfl, rfl, rfl⟩ := s_inj hb
  exact e_r rfl rfl K
def f_Hall_nextInput (w2 : Nat) (p3 : Int32) (I : MI) (J : MJ) : M2 Int64 := oc (f_Hall_has p3 I J) (fun v1 I1 J1 => if ¬ v1 = 0 then (if p3 < 0 ∨ 4 ≤ Int32.toNatClampNeg p3 then none else (pl (I1 (37 + 21 * w2) (Int32.toNatClampNeg p3) : Int32) (fun x4 => if p3 < 0 ∨ 4 ≤ Int32.toNatClampNeg p3 then none else (if p3 < 0 ∨ 4 ≤ Int32.toNatClampNeg p3 then none else (pl (va_up I1 (37 + 21 * w2) (upd (I1 (37 + 21 * w2)) (Int32.toNatClampNeg p3) ((I1 (37 + 21 * w2) (Int32.toNatClampNeg p3)) + 1))) (fun I7 => if p3 < 0 ∨ 4 ≤ Int32.toNatClampNeg p3 then none else (oc (f_Sh_read (30 + 21 * (Int32.toNatClampNeg p3)) 100 x4 I7 J1) (fun v9 I9 J9 => some (v9, I9, J9))))))))) else (some (0, I1, J1)))
theorem E_Hall_nextInput {w2 : Nat} {p3 : Int32} {X : MX} {I : MI} {J : MJ} {v : Int64} {I' : MI} {J' : MJ} (hw_w2 : w2 < 4) (hb : f_Hall_nextInput w2 p3 I J = some (v, I', J')) (K : P (.inl (some (.long v))) (hX X I' J')) : am_E (gG L xs) (d + 1) m_Hall_nextInput (0, lv_args 0 [.ref 14, .ref (18 + 21 * w2), .int p3], []) (hX X I J) P := by
  unfold f_Hall_nextInput at hb
  refine e_k 2 (f' := (2, [(0, .ref 14), (1, .ref (18 + 21 * w2)), (2, .int p3)], [.int p3, .ref 14])) rfl ?_
  obtain ⟨v1, I1, J1, h1, hb⟩ := oc_call hb
  refine r_cv (z := m_Hall_has) (As := [.int p3]) (rest := []) rfl rfl rfl rfl rfl (x_ltn rfl) rfl rfl (E_Hall_has  h1 ⟨_, rfl, ?_⟩)
  refine e_k 1 (f' := (if ¬ v1 = 0 then 10 else 8, [(0, .ref 14), (1, .ref (18 + 21 * w2)), (2, .int p3)], [])) rfl ?_
  refine e_if (fun c2 => ?_) (fun c2 => ?_)
  · replace hb := i_pos c2 hb
    refine e_k 1 (f' := (11, [(0, .ref 14), (1, .ref (18 + 21 * w2)), (2, .int p3)], [.ref (18 + 21 * w2)])) rfl ?_
    refine r_getr rfl (x_ltp hw_w2 (by decide)) (sS_p0 hw_w2) rfl ?_
    refine r_getr rfl (x_ltp hw_w2 (by decide)) (sS_p14 hw_w2) rfl ?_
    refine e_k 1 (f' := (18, [(0, .ref 14), (1, .ref (18 + 21 * w2)), (2, .int p3)], [.int p3, .ref (37 + 21 * w2)])) rfl ?_
    obtain ⟨o3, hb⟩ := ob_in hb
    refine r_iald rfl (x_t0 hw_w2 (by decide)) (x_ltp hw_w2 (by decide)) (sS_p19 hw_w2) o3 ?_
    refine e_k 1 (f' := (20, [(3, .int (I1 (37 + 21 * w2) (Int32.toNatClampNeg p3))), (0, .ref 14), (1, .ref (18 + 21 * w2)), (2, .int p3)], [])) rfl ?_
    obtain ⟨x4, ex4, hb⟩ := p_nm hb
    rw [← ex4]
    refine e_k 1 (f' := (21, [(3, .int x4), (0, .ref 14), (1, .ref (18 + 21 * w2)), (2, .int p3)], [.ref (18 + 21 * w2)])) rfl ?_
    refine r_getr rfl (x_ltp hw_w2 (by decide)) (sS_p0 hw_w2) rfl ?_
    refine r_getr rfl (x_ltp hw_w2 (by decide)) (sS_p14 hw_w2) rfl ?_
    refine e_k 2 (f' := (29, [(3, .int x4), (0, .ref 14), (1, .ref (18 + 21 * w2)), (2, .int p3)], [.int p3, .ref (37 + 21 * w2), .int p3, .ref (37 + 21 * w2)])) rfl ?_
    obtain ⟨o5, hb⟩ := ob_in hb
    refine r_iald rfl (x_t0 hw_w2 (by decide)) (x_ltp hw_w2 (by decide)) (sS_p19 hw_w2) o5 ?_
    refine e_k 2 (f' := (32, [(3, .int x4), (0, .ref 14), (1, .ref (18 + 21 * w2)), (2, .int p3)], [.int ((I1 (37 + 21 * w2) (Int32.toNatClampNeg p3)) + 1), .int p3, .ref (37 + 21 * w2)])) rfl ?_
    obtain ⟨o6, hb⟩ := ob_in hb
    obtain ⟨I7, eI7, hb⟩ := p_nm hb
    refine r_iast' rfl (x_ltp hw_w2 (by decide)) (sS_p19 hw_w2) o6 eI7 ?_
    refine e_k 1 (f' := (34, [(3, .int x4), (0, .ref 14), (1, .ref (18 + 21 * w2)), (2, .int p3)], [.ref 14])) rfl ?_
    refine r_getr rfl (x_ltn rfl) rfl rfl ?_
    refine e_k 1 (f' := (38, [(3, .int x4), (0, .ref 14), (1, .ref (18 + 21 * w2)), (2, .int p3)], [.int p3, .ref 17])) rfl ?_
    obtain ⟨o8, hb⟩ := ob_in hb
    refine r_pald rfl o8 ?_
    refine r_getr rfl (x_ltp (vp_lt o8) (by decide)) (sS_p0 (vp_lt o8)) rfl ?_
    refine r_getr rfl (x_ltp (vp_lt o8) (by decide)) (sS_p11 (vp_lt o8)) rfl ?_
    refine e_k 1 (f' := (46, [(3, .int x4), (0, .ref 14), (1, .ref (18 + 21 * w2)), (2, .int p3)], [.int x4, .ref (30 + 21 * (Int32.toNatClampNeg p3))])) rfl ?_
    obtain ⟨v9, I9, J9, h9, hb⟩ := oc_call hb
    refine r_cs (z := m_Sh_read) (As := [.ref (30 + 21 * (Int32.toNatClampNeg p3)), .int x4]) (rest := []) rfl rfl rfl rfl rfl rfl (E_Sh_read ⟨(x_ltp (vp_lt o8) (by decide)), (x_t0 (vp_lt o8) (by decide)), (sS_p12 (vp_lt o8))⟩ h9 ⟨_, rfl, ?_⟩)
    obtain ⟨rfl, rfl, rfl⟩ := s_inj hb
    exact e_r rfl rfl K
  · replace hb := i_neg c2 hb
    refine e_k 1 (f' := (9, [(0, .ref 14), (1, .ref (18 + 21 * w2)), (2, .int p3)], [.long 0])) rfl ?_
    obtain ⟨rfl, rfl, rfl⟩ := s_inj hb
    exact e_r rfl rfl K
def f_Hall_joined (p1 : Int32) (p2 : Int64) (p3 : Int64) (I : MI) (J : MJ) : M2 Int64 := if p1 = 4 ∨ p1 = 23 then (oc (f_Sh_plus p2 p3 I J) (fun v2 I2 J2 => some (v2, I2, J2))) else (if p1 = 5 ∨ p1 = 24 then (oc (f_Sh_minus p2 p3 I J) (fun v4 I4 J4 => some (v4, I4, J4))) else (oc (f_Sh_times p2 p3 I J) (fun v5 I5 J5 => some (v5, I5, J5))))
theorem E_Hall_joined {p1 : Int32} {p2 : Int64} {p3 : Int64} {X : MX} {I : MI} {J : MJ} {v : Int64} {I' : MI} {J' : MJ} (hb : f_Hall_joined p1 p2 p3 I J = some (v, I', J')) (K : P (.inl (some (.long v))) (hX X I' J')) : am_E (gG L xs) (d + 1) m_Hall_joined (0, lv_args 0 [.int p1, .long p2, .long p3], []) (hX X I J) P := by
  unfold f_Hall_joined at hb
  refine e_k 2 (f' := (am_sw p1 56 [(4, 44), (5, 50), (23, 44), (24, 50)], [(0, .int p1), (1, .long p2), (3, .long p3)], [])) rfl ?_
  by_cases c1 : p1 = 4 ∨ p1 = 23
  · rw [show am_sw p1 56 [(4, 44), (5, 50), (23, 44), (24, 50)] = 44 from by rcases c1 with c1 | c1 <;> rw [c1] <;> rfl]
    replace hb := i_pos c1 hb
    refine e_k 2 (f' := (46, [(0, .int p1), (1, .long p2), (3, .long p3)], [.long p3, .long p2])) rfl ?_
    obtain ⟨v2, I2, J2, h2, hb⟩ := oc_call hb
    refine r_cs (z := m_Sh_plus) (As := [.long p2, .long p3]) (rest := []) rfl rfl rfl rfl rfl rfl (E_Sh_plus  h2 ⟨_, rfl, ?_⟩)
    obtain ⟨rfl, rfl, rfl⟩ := s_inj hb
    exact e_r rfl rfl K
  replace hb := i_neg c1 hb
  by_cases c3 : p1 = 5 ∨ p1 = 24
  · rw [show am_sw p1 56 [(4, 44), (5, 50), (23, 44), (24, 50)] = 50 from by rcases c3 with c3 | c3 <;> rw [c3] <;> rfl]
    replace hb := i_pos c3 hb
    refine e_k 2 (f' := (52, [(0, .int p1), (1, .long p2), (3, .long p3)], [.long p3, .long p2])) rfl ?_
    obtain ⟨v4, I4, J4, h4, hb⟩ := oc_call hb
    refine r_cs (z := m_Sh_minus) (As := [.long p2, .long p3]) (rest := []) rfl rfl rfl rfl rfl rfl (E_Sh_minus  h4 ⟨_, rfl, ?_⟩)
    obtain ⟨rfl, rfl, rfl⟩ := s_inj hb
    exact e_r rfl rfl K
  replace hb := i_neg c3 hb
  rw [show am_sw p1 56 [(4, 44), (5, 50), (23, 44), (24, 50)] = 56 from (am_swd (fun e => c1 (Or.inl e)) (am_swd (fun e => c3 (Or.inl e)) (am_swd (fun e => c1 (Or.inr e)) (am_swd (fun e => c3 (Or.inr e)) rfl))))]
  refine e_k 2 (f' := (58, [(0, .int p1), (1, .long p2), (3, .long p3)], [.long p3, .long p2])) rfl ?_
  obtain ⟨v5, I5, J5, h5, hb⟩ := oc_call hb
  refine r_cs (z := m_Sh_times) (As := [.long p2, .long p3]) (rest := []) rfl rfl rfl rfl rfl rfl (E_Sh_times  h5 ⟨_, rfl, ?_⟩)
  obtain ⟨rfl, rfl, rfl⟩ := s_inj hb
  exact e_r rfl rfl K
def f_Hall_isInCheck (w1 : Nat) (p2 : Int32) (I : MI) (J : MJ) : M2 Int32 := if 8 ≤ (I (18 + 21 * w1) 9) then (if ¬ p2 = 16 then (some (0, I, J)) else (if (I (18 + 21 * w1) 9) < 10 then (some (0, I, J)) else (if 18 ≤ (I (18 + 21 * w1) 9) then (some (0, I, J)) else (some (1, I, J))))) else (some (1, I, J))
theorem E_Hall_isInCheck {w1 : Nat} {p2 : Int32} {X : MX} {I : MI} {J : MJ} {v : Int32} {I' : MI} {J' : MJ} (hw_w1 : w1 < 4) (hb : f_Hall_isInCheck w1 p2 I J = some (v, I', J')) (K : P (.inl (some (.int v))) (hX X I' J')) : am_E (gG L xs) d m_Hall_isInCheck (0, lv_args 0 [.ref (18 + 21 * w1), .int p2], []) (hX X I J) P := by
  unfold f_Hall_isInCheck at hb
  refine e_k 1 (f' := (1, [(0, .ref (18 + 21 * w1)), (1, .int p2)], [.ref (18 + 21 * w1)])) rfl ?_
  refine r_geti rfl (x_ltp hw_w1 (by decide)) (sS_p0 hw_w1) rfl ?_
  refine e_k 2 (f' := (if 8 ≤ (I (18 + 21 * w1) 9) then 11 else 9, [(0, .ref (18 + 21 * w1)), (1, .int p2)], [])) rfl ?_
  refine e_if (fun c1 => ?_) (fun c1 => ?_)
  · replace hb := i_pos c1 hb
    refine e_k 3 (f' := (if ¬ p2 = 16 then 39 else 17, [(0, .ref (18 + 21 * w1)), (1, .int p2)], [])) rfl ?_
    refine e_if (fun c2 => ?_) (fun c2 => ?_)
    · replace hb := i_pos c2 hb
      refine e_k 1 (f' := (40, [(0, .ref (18 + 21 * w1)), (1, .int p2)], [.int 0])) rfl ?_
      obtain ⟨rfl, rfl, rfl⟩ := s_inj hb
      exact e_r rfl rfl K
    · replace hb := i_neg c2 hb
      refine e_k 1 (f' := (18, [(0, .ref (18 + 21 * w1)), (1, .int p2)], [.ref (18 + 21 * w1)])) rfl ?_
      refine r_geti rfl (x_ltp hw_w1 (by decide)) (sS_p0 hw_w1) rfl ?_
      refine e_k 2 (f' := (if (I (18 + 21 * w1) 9) < 10 then 39 else 26, [(0, .ref (18 + 21 * w1)), (1, .int p2)], [])) rfl ?_
      refine e_if (fun c3 => ?_) (fun c3 => ?_)
      · replace hb := i_pos c3 hb
        refine e_k 1 (f' := (40, [(0, .ref (18 + 21 * w1)), (1, .int p2)], [.int 0])) rfl ?_
        obtain ⟨rfl, rfl, rfl⟩ := s_inj hb
        exact e_r rfl rfl K
      · replace hb := i_neg c3 hb
        refine e_k 1 (f' := (27, [(0, .ref (18 + 21 * w1)), (1, .int p2)], [.ref (18 + 21 * w1)])) rfl ?_
        refine r_geti rfl (x_ltp hw_w1 (by decide)) (sS_p0 hw_w1) rfl ?_
        refine e_k 2 (f' := (if 18 ≤ (I (18 + 21 * w1) 9) then 39 else 35, [(0, .ref (18 + 21 * w1)), (1, .int p2)], [])) rfl ?_
        refine e_if (fun c4 => ?_) (fun c4 => ?_)
        · replace hb := i_pos c4 hb
          refine e_k 1 (f' := (40, [(0, .ref (18 + 21 * w1)), (1, .int p2)], [.int 0])) rfl ?_
          obtain ⟨rfl, rfl, rfl⟩ := s_inj hb
          exact e_r rfl rfl K
        · replace hb := i_neg c4 hb
          refine e_k 2 (f' := (40, [(0, .ref (18 + 21 * w1)), (1, .int p2)], [.int 1])) rfl ?_
          obtain ⟨rfl, rfl, rfl⟩ := s_inj hb
          exact e_r rfl rfl K
  · replace hb := i_neg c1 hb
    refine e_k 1 (f' := (10, [(0, .ref (18 + 21 * w1)), (1, .int p2)], [.int 1])) rfl ?_
    obtain ⟨rfl, rfl, rfl⟩ := s_inj hb
    exact e_r rfl rfl K
def f_Hall_sendShown (w2 : Nat) (I : MI) (J : MJ) : M2 Int32 := oc (f_Hall_sends w2 I J) (fun v1 I1 J1 => if ¬ v1 = 0 then (pl (va_up I1 (32 + 21 * w2) (upd (I1 (32 + 21 * w2)) 6 ((I1 (32 + 21 * w2) 6) + 1))) (fun I3 => pl (va_up I3 (18 + 21 * w2) (upd (I3 (18 + 21 * w2)) 9 9)) (fun I4 => some (1, I4, J1)))) else (some (0, I1, J1)))
theorem E_Hall_sendShown {w2 : Nat} {X : MX} {I : MI} {J : MJ} {v : Int32} {I' : MI} {J' : MJ} (hw_w2 : w2 < 4) (hb : f_Hall_sendShown w2 I J = some (v, I', J')) (K : P (.inl (some (.int v))) (hX X I' J')) : am_E (gG L xs) (d + 1) m_Hall_sendShown (0, lv_args 0 [.ref 14, .ref (18 + 21 * w2)], []) (hX X I J) P := by
  unfold f_Hall_sendShown at hb
  refine e_k 2 (f' := (2, [(0, .ref 14), (1, .ref (18 + 21 * w2))], [.ref (18 + 21 * w2), .ref 14])) rfl ?_
  obtain ⟨v1, I1, J1, h1, hb⟩ := oc_call hb
  refine r_cv (z := m_Hall_sends) (As := [.ref (18 + 21 * w2)]) (rest := []) rfl rfl rfl rfl rfl (x_ltn rfl) rfl rfl (E_Hall_sends hw_w2 h1 ⟨_, rfl, ?_⟩)
  refine e_k 1 (f' := (if ¬ v1 = 0 then 10 else 8, [(0, .ref 14), (1, .ref (18 + 21 * w2))], [])) rfl ?_
  refine e_if (fun c2 => ?_) (fun c2 => ?_)
  · replace hb := i_pos c2 hb
    refine e_k 1 (f' := (11, [(0, .ref 14), (1, .ref (18 + 21 * w2))], [.ref (18 + 21 * w2)])) rfl ?_
    refine r_getr rfl (x_ltp hw_w2 (by decide)) (sS_p0 hw_w2) rfl ?_
    refine e_k 1 (f' := (15, [(0, .ref 14), (1, .ref (18 + 21 * w2))], [.ref (32 + 21 * w2), .ref (32 + 21 * w2)])) rfl ?_
    refine r_geti rfl (x_ltp hw_w2 (by decide)) (sS_p14 hw_w2) rfl ?_
    refine e_k 2 (f' := (20, [(0, .ref 14), (1, .ref (18 + 21 * w2))], [.int ((I1 (32 + 21 * w2) 6) + 1), .ref (32 + 21 * w2)])) rfl ?_
    obtain ⟨I3, eI3, hb⟩ := p_nm hb
    refine r_puti' rfl (x_ltp hw_w2 (by decide)) (sS_p14 hw_w2) rfl eI3 ?_
    refine e_k 2 (f' := (26, [(0, .ref 14), (1, .ref (18 + 21 * w2))], [.int 9, .ref (18 + 21 * w2)])) rfl ?_
    obtain ⟨I4, eI4, hb⟩ := p_nm hb
    refine r_puti' rfl (x_ltp hw_w2 (by decide)) (sS_p0 hw_w2) rfl eI4 ?_
    refine e_k 1 (f' := (30, [(0, .ref 14), (1, .ref (18 + 21 * w2))], [.int 1])) rfl ?_
    obtain ⟨rfl, rfl, rfl⟩ := s_inj hb
    exact e_r rfl rfl K
  · replace hb := i_neg c2 hb
    refine e_k 1 (f' := (9, [(0, .ref 14), (1, .ref (18 + 21 * w2))], [.int 0])) rfl ?_
    obtain ⟨rfl, rfl, rfl⟩ := s_inj hb
    exact e_r rfl rfl K
def f_Hall_receiveShown (w2 : Nat) (p3 : Int32) (I : MI) (J : MJ) : M2 Int32 := oc (f_Hall_receives w2 (-1) I J) (fun v1 I1 J1 => if ¬ v1 = 0 then (oc (f_Hall_gatherErrors w2 (-1) 1 I1 J1) (fun v3 I3 J3 => oc (f_Sh_read (21 + 21 * w2) 13 p3 I3 J3) (fun v4 I4 J4 => if (0 : Int32) < 0 ∨ 32 ≤ Int32.toNatClampNeg 0 then none else (oc (f_Sh_plus v4 (J4 111 (Int32.toNatClampNeg 0)) I4 J4) (fun v6 I6 J6 => pl (va_up J6 (18 + 21 * w2) (vp_updL (J6 (18 + 21 * w2)) 7 v6)) (fun J7 => pl (va_up I6 (18 + 21 * w2) (upd (I6 (18 + 21 * w2)) 9 10)) (fun I8 => some (1, I8, J7)))))))) else (some (0, I1, J1)))
theorem E_Hall_receiveShown {w2 : Nat} {p3 : Int32} {X : MX} {I : MI} {J : MJ} {v : Int32} {I' : MI} {J' : MJ} (hw_w2 : w2 < 4) (hb : f_Hall_receiveShown w2 p3 I J = some (v, I', J')) (K : P (.inl (some (.int v))) (hX X I' J')) : am_E (gG L xs) (d + 3) m_Hall_receiveShown (0, lv_args 0 [.ref 14, .ref (18 + 21 * w2), .int p3], []) (hX X I J) P := by
  unfold f_Hall_receiveShown at hb
  refine e_k 3 (f' := (3, [(0, .ref 14), (1, .ref (18 + 21 * w2)), (2, .int p3)], [.int (-1), .ref (18 + 21 * w2), .ref 14])) rfl ?_
  obtain ⟨v1, I1, J1, h1, hb⟩ := oc_call hb
  refine r_cv (z := m_Hall_receives) (As := [.ref (18 + 21 * w2), .int (-1)]) (rest := []) rfl rfl rfl rfl rfl (x_ltn rfl) rfl rfl (E_Hall_receives hw_w2 h1 ⟨_, rfl, ?_⟩)
  refine e_k 1 (f' := (if ¬ v1 = 0 then 11 else 9, [(0, .ref 14), (1, .ref (18 + 21 * w2)), (2, .int p3)], [])) rfl ?_
  refine e_if (fun c2 => ?_) (fun c2 => ?_)
  · replace hb := i_pos c2 hb
    refine e_k 4 (f' := (15, [(0, .ref 14), (1, .ref (18 + 21 * w2)), (2, .int p3)], [.int 1, .int (-1), .ref (18 + 21 * w2), .ref 14])) rfl ?_
    obtain ⟨v3, I3, J3, h3, hb⟩ := oc_call hb
    refine r_cv (z := m_Hall_gatherErrors) (As := [.ref (18 + 21 * w2), .int (-1), .int 1]) (rest := []) rfl rfl rfl rfl rfl (x_ltn rfl) rfl rfl (E_Hall_gatherErrors hw_w2 h3 ⟨_, rfl, ?_⟩)
    refine e_k 2 (f' := (20, [(0, .ref 14), (1, .ref (18 + 21 * w2)), (2, .int p3)], [.ref (18 + 21 * w2), .ref (18 + 21 * w2)])) rfl ?_
    refine r_getr rfl (x_ltp hw_w2 (by decide)) (sS_p0 hw_w2) rfl ?_
    refine r_getr rfl (x_ltp hw_w2 (by decide)) (sS_p1 hw_w2) rfl ?_
    refine e_k 1 (f' := (27, [(0, .ref 14), (1, .ref (18 + 21 * w2)), (2, .int p3)], [.int p3, .ref (21 + 21 * w2), .ref (18 + 21 * w2)])) rfl ?_
    obtain ⟨v4, I4, J4, h4, hb⟩ := oc_call hb
    refine r_cs (z := m_Sh_read) (As := [.ref (21 + 21 * w2), .int p3]) (rest := [.ref (18 + 21 * w2)]) rfl rfl rfl rfl rfl rfl (E_Sh_read ⟨(x_ltp hw_w2 (by decide)), (x_t0 hw_w2 (by decide)), (sS_p3 hw_w2)⟩ h4 ⟨_, rfl, ?_⟩)
    refine e_k 1 (f' := (31, [(0, .ref 14), (1, .ref (18 + 21 * w2)), (2, .int p3)], [.ref 14, .long v4, .ref (18 + 21 * w2)])) rfl ?_
    refine r_getr rfl (x_ltn rfl) rfl rfl ?_
    refine e_k 1 (f' := (35, [(0, .ref 14), (1, .ref (18 + 21 * w2)), (2, .int p3)], [.int 0, .ref 111, .long v4, .ref (18 + 21 * w2)])) rfl ?_
    obtain ⟨o5, hb⟩ := ob_in hb
    refine r_lald rfl rfl (x_ltn rfl) rfl o5 ?_
    obtain ⟨v6, I6, J6, h6, hb⟩ := oc_call hb
    refine r_cs (z := m_Sh_plus) (As := [.long v4, .long (J4 111 (Int32.toNatClampNeg 0))]) (rest := [.ref (18 + 21 * w2)]) rfl rfl rfl rfl rfl rfl (E_Sh_plus  h6 ⟨_, rfl, ?_⟩)
    obtain ⟨J7, eJ7, hb⟩ := p_nm hb
    refine r_putl' rfl (x_ltp hw_w2 (by decide)) (sS_p0 hw_w2) rfl eJ7 ?_
    refine e_k 2 (f' := (45, [(0, .ref 14), (1, .ref (18 + 21 * w2)), (2, .int p3)], [.int 10, .ref (18 + 21 * w2)])) rfl ?_
    obtain ⟨I8, eI8, hb⟩ := p_nm hb
    refine r_puti' rfl (x_ltp hw_w2 (by decide)) (sS_p0 hw_w2) rfl eI8 ?_
    refine e_k 1 (f' := (49, [(0, .ref 14), (1, .ref (18 + 21 * w2)), (2, .int p3)], [.int 1])) rfl ?_
    obtain ⟨rfl, rfl, rfl⟩ := s_inj hb
    exact e_r rfl rfl K
  · replace hb := i_neg c2 hb
    refine e_k 1 (f' := (10, [(0, .ref 14), (1, .ref (18 + 21 * w2)), (2, .int p3)], [.int 0])) rfl ?_
    obtain ⟨rfl, rfl, rfl⟩ := s_inj hb
    exact e_r rfl rfl K
def f_Hall_noteBonds_2 (w2 : Nat) : Nat → Int32 → MI → MJ → M2 (Unit)
  | 0, _, _, _ => none
  | fu + 1, l2, I, J => if (I 14 6) ≤ l2 then (some ((), I, J)) else (if l2 < 0 ∨ 4 ≤ Int32.toNatClampNeg l2 then none else (if l2 < 0 ∨ 4 ≤ Int32.toNatClampNeg l2 then none else (pl (va_up I (28 + 21 * w2) (upd (I (28 + 21 * w2)) (Int32.toNatClampNeg l2) (I (25 + 21 * (Int32.toNatClampNeg l2)) 7))) (fun I4 => f_Hall_noteBonds_2 w2 fu (l2 + 1) I4 J))))
theorem E_Hall_noteBonds_2 {X : MX} {w2 : Nat} (hw_w2 : w2 < 4) : ∀ (fu : Nat) {l2 : Int32} {I : MI} {J : MJ} {r : (Unit)} {I' : MI} {J' : MJ}, f_Hall_noteBonds_2 w2 fu l2 I J = some (r, I', J') → am_E (gG L xs) d m_Hall_noteBonds (34, [(1, .ref (25 + 21 * w2))], []) (hX X I' J') P → am_E (gG L xs) d m_Hall_noteBonds (2, [(0, .ref 14), (1, .ref (25 + 21 * w2)), (2, .int l2)], []) (hX X I J) P := by
  intro fu
  induction fu with
  | zero =>
    intros
    rename_i hb _
    cases hb
  | succ fu ih =>
    intro l2 I J r I' J' hb K
    unfold f_Hall_noteBonds_2 at hb
    refine e_k 2 (f' := (4, [(0, .ref 14), (1, .ref (25 + 21 * w2)), (2, .int l2)], [.ref 14, .int l2])) rfl ?_
    refine r_geti rfl (x_ltn rfl) rfl rfl ?_
    refine e_k 1 (f' := (if (I 14 6) ≤ l2 then 34 else 10, [(0, .ref 14), (1, .ref (25 + 21 * w2)), (2, .int l2)], [])) rfl ?_
    refine e_if (fun c1 => ?_) (fun c1 => ?_)
    · replace hb := i_pos c1 hb
      refine e_sub (ls := [(1, .ref (25 + 21 * w2))]) rfl ⟨rfl, trivial⟩ ?_
      obtain ⟨rfl, rfl, rfl⟩ := s_inj hb
      exact K
    · replace hb := i_neg c1 hb
      refine e_k 1 (f' := (11, [(0, .ref 14), (1, .ref (25 + 21 * w2)), (2, .int l2)], [.ref (25 + 21 * w2)])) rfl ?_
      refine r_getr rfl (x_ltp hw_w2 (by decide)) (sS_p7 hw_w2) rfl ?_
      refine e_k 2 (f' := (16, [(0, .ref 14), (1, .ref (25 + 21 * w2)), (2, .int l2)], [.ref 14, .int l2, .ref (28 + 21 * w2)])) rfl ?_
      refine r_getr rfl (x_ltn rfl) rfl rfl ?_
      refine e_k 1 (f' := (20, [(0, .ref 14), (1, .ref (25 + 21 * w2)), (2, .int l2)], [.int l2, .ref 17, .int l2, .ref (28 + 21 * w2)])) rfl ?_
      obtain ⟨o2, hb⟩ := ob_in hb
      refine r_pald rfl o2 ?_
      refine r_getr rfl (x_ltp (vp_lt o2) (by decide)) (sS_p0 (vp_lt o2)) rfl ?_
      refine r_geti rfl (x_ltp (vp_lt o2) (by decide)) (sS_p7 (vp_lt o2)) rfl ?_
      obtain ⟨o3, hb⟩ := ob_in hb
      obtain ⟨I4, eI4, hb⟩ := p_nm hb
      refine r_iast' rfl (x_ltp hw_w2 (by decide)) (sS_p10 hw_w2) o3 eI4 ?_
      refine e_k 2 (f' := (2, [(2, .int (l2 + 1)), (0, .ref 14), (1, .ref (25 + 21 * w2))], [])) rfl ?_
      refine e_sub (ls := [(0, .ref 14), (1, .ref (25 + 21 * w2)), (2, .int (l2 + 1))]) rfl ⟨rfl, rfl, rfl, trivial⟩ ?_
      exact ih  hb K
def f_Hall_noteBonds (w2 : Nat) (I : MI) (J : MJ) : M2 Unit := oc (f_Hall_noteBonds_2 w2 gF 0 I J) (fun u5 I5 J5 => pl (va_up I5 (25 + 21 * w2) (upd (I5 (25 + 21 * w2)) 8 1)) (fun I6 => some ((), I6, J5)))
theorem E_Hall_noteBonds {w2 : Nat} {X : MX} {I : MI} {J : MJ} {v : Unit} {I' : MI} {J' : MJ} (hw_w2 : w2 < 4) (hb : f_Hall_noteBonds w2 I J = some (v, I', J')) (K : P (.inl (none)) (hX X I' J')) : am_E (gG L xs) d m_Hall_noteBonds (0, lv_args 0 [.ref 14, .ref (25 + 21 * w2)], []) (hX X I J) P := by
  unfold f_Hall_noteBonds at hb
  refine e_k 2 (f' := (2, [(2, .int 0), (0, .ref 14), (1, .ref (25 + 21 * w2))], [])) rfl ?_
  refine e_sub (ls := [(0, .ref 14), (1, .ref (25 + 21 * w2)), (2, .int 0)]) rfl ⟨rfl, rfl, rfl, trivial⟩ ?_
  obtain ⟨u5, I5, J5, h5, hb⟩ := oc_call hb
  refine E_Hall_noteBonds_2 hw_w2 gF  h5 ?_
  refine e_k 2 (f' := (36, [(1, .ref (25 + 21 * w2))], [.int 1, .ref (25 + 21 * w2)])) rfl ?_
  obtain ⟨I6, eI6, hb⟩ := p_nm hb
  refine r_putz' rfl (x_ltp hw_w2 (by decide)) (sS_p7 hw_w2) rfl (Or.inr rfl) eI6 ?_
  obtain ⟨rfl, rfl, rfl⟩ := s_inj hb
  exact e_r rfl rfl K
def f_Hall_ownSeed (p2 : Int32) (I : MI) (J : MJ) : M2 Int64 := some ((J 14 7) + (1000003 * (Int32.toInt64 (p2 + 1))), I, J)
theorem E_Hall_ownSeed {p2 : Int32} {X : MX} {I : MI} {J : MJ} {v : Int64} {I' : MI} {J' : MJ} (hb : f_Hall_ownSeed p2 I J = some (v, I', J')) (K : P (.inl (some (.long v))) (hX X I' J')) : am_E (gG L xs) d m_Hall_ownSeed (0, lv_args 0 [.ref 14, .int p2], []) (hX X I J) P := by
  unfold f_Hall_ownSeed at hb
  refine e_k 1 (f' := (1, [(0, .ref 14), (1, .int p2)], [.ref 14])) rfl ?_
  refine r_getl rfl (x_ltn rfl) rfl rfl ?_
  refine e_k 7 (f' := (13, [(0, .ref 14), (1, .int p2)], [.long ((J 14 7) + (1000003 * (Int32.toInt64 (p2 + 1))))])) rfl ?_
  obtain ⟨rfl, rfl, rfl⟩ := s_inj hb
  exact e_r rfl rfl K
def f_Hall_bring (p2 : Int32) (p3 : Int32) (I : MI) (J : MJ) : M2 Int32 := oc (f_Hall_has p2 I J) (fun v1 I1 J1 => if v1 = 0 then (some (0, I1, J1)) else (oc (f_Hall_has p3 I1 J1) (fun v3 I3 J3 => if ¬ v3 = 0 then (if p2 < 0 ∨ 4 ≤ Int32.toNatClampNeg p2 then none else (if p3 < 0 ∨ 4 ≤ Int32.toNatClampNeg p3 then none else (if p3 < 0 ∨ 4 ≤ Int32.toNatClampNeg p3 then none else (if (I3 (33 + 21 * (Int32.toNatClampNeg p2)) (Int32.toNatClampNeg p3)) ≤ 0 then (if p3 < 0 ∨ 4 ≤ Int32.toNatClampNeg p3 then none else (if (I3 (34 + 21 * (Int32.toNatClampNeg p2)) (Int32.toNatClampNeg p3)) = 0 then (some (0, I3, J3)) else (if p3 < 0 ∨ 4 ≤ Int32.toNatClampNeg p3 then none else (pl (va_up I3 (34 + 21 * (Int32.toNatClampNeg p2)) (upd (I3 (34 + 21 * (Int32.toNatClampNeg p2))) (Int32.toNatClampNeg p3) (0 &&& 1))) (fun I12 => pl (va_up I12 (32 + 21 * (Int32.toNatClampNeg p3)) (upd (I12 (32 + 21 * (Int32.toNatClampNeg p3))) 8 1)) (fun I13 => some (1, I13, J3))))))) else (if p3 < 0 ∨ 4 ≤ Int32.toNatClampNeg p3 then none else (if p3 < 0 ∨ 4 ≤ Int32.toNatClampNeg p3 then none else (pl (va_up I3 (33 + 21 * (Int32.toNatClampNeg p2)) (upd (I3 (33 + 21 * (Int32.toNatClampNeg p2))) (Int32.toNatClampNeg p3) ((I3 (33 + 21 * (Int32.toNatClampNeg p2)) (Int32.toNatClampNeg p3)) - 1))) (fun I16 => if p2 < 0 ∨ 4 ≤ Int32.toNatClampNeg p2 then none else (if p2 < 0 ∨ 4 ≤ Int32.toNatClampNeg p2 then none else (pl (va_up I16 (35 + 21 * (Int32.toNatClampNeg p3)) (upd (I16 (35 + 21 * (Int32.toNatClampNeg p3))) (Int32.toNatClampNeg p2) ((I16 (35 + 21 * (Int32.toNatClampNeg p3)) (Int32.toNatClampNeg p2)) + 1))) (fun I19 => some (1, I19, J3)))))))))))) else (some (0, I3, J3)))))
theorem E_Hall_bring {p2 : Int32} {p3 : Int32} {X : MX} {I : MI} {J : MJ} {v : Int32} {I' : MI} {J' : MJ} (hb : f_Hall_bring p2 p3 I J = some (v, I', J')) (K : P (.inl (some (.int v))) (hX X I' J')) : am_E (gG L xs) (d + 1) m_Hall_bring (0, lv_args 0 [.ref 14, .int p2, .int p3], []) (hX X I J) P := by
  unfold f_Hall_bring at hb
  refine e_k 2 (f' := (2, [(0, .ref 14), (1, .int p2), (2, .int p3)], [.int p2, .ref 14])) rfl ?_
  obtain ⟨v1, I1, J1, h1, hb⟩ := oc_call hb
  refine r_cv (z := m_Hall_has) (As := [.int p2]) (rest := []) rfl rfl rfl rfl rfl (x_ltn rfl) rfl rfl (E_Hall_has  h1 ⟨_, rfl, ?_⟩)
  refine e_k 1 (f' := (if v1 = 0 then 16 else 8, [(0, .ref 14), (1, .int p2), (2, .int p3)], [])) rfl ?_
  refine e_if (fun c2 => ?_) (fun c2 => ?_)
  · replace hb := i_pos c2 hb
    refine e_k 1 (f' := (17, [(0, .ref 14), (1, .int p2), (2, .int p3)], [.int 0])) rfl ?_
    obtain ⟨rfl, rfl, rfl⟩ := s_inj hb
    exact e_r rfl rfl K
  · replace hb := i_neg c2 hb
    refine e_k 2 (f' := (10, [(0, .ref 14), (1, .int p2), (2, .int p3)], [.int p3, .ref 14])) rfl ?_
    obtain ⟨v3, I3, J3, h3, hb⟩ := oc_call hb
    refine r_cv (z := m_Hall_has) (As := [.int p3]) (rest := []) rfl rfl rfl rfl rfl (x_ltn rfl) rfl rfl (E_Hall_has  h3 ⟨_, rfl, ?_⟩)
    refine e_k 1 (f' := (if ¬ v3 = 0 then 18 else 16, [(0, .ref 14), (1, .int p2), (2, .int p3)], [])) rfl ?_
    refine e_if (fun c4 => ?_) (fun c4 => ?_)
    · replace hb := i_pos c4 hb
      refine e_k 1 (f' := (19, [(0, .ref 14), (1, .int p2), (2, .int p3)], [.ref 14])) rfl ?_
      refine r_getr rfl (x_ltn rfl) rfl rfl ?_
      refine e_k 1 (f' := (23, [(0, .ref 14), (1, .int p2), (2, .int p3)], [.int p2, .ref 17])) rfl ?_
      obtain ⟨o5, hb⟩ := ob_in hb
      refine r_pald rfl o5 ?_
      refine r_getr rfl (x_ltp (vp_lt o5) (by decide)) (sS_p0 (vp_lt o5)) rfl ?_
      refine e_k 2 (f' := (29, [(3, .ref (32 + 21 * (Int32.toNatClampNeg p2))), (0, .ref 14), (1, .int p2), (2, .int p3)], [.ref 14])) rfl ?_
      refine r_getr rfl (x_ltn rfl) rfl rfl ?_
      refine e_k 1 (f' := (33, [(3, .ref (32 + 21 * (Int32.toNatClampNeg p2))), (0, .ref 14), (1, .int p2), (2, .int p3)], [.int p3, .ref 17])) rfl ?_
      obtain ⟨o6, hb⟩ := ob_in hb
      refine r_pald rfl o6 ?_
      refine r_getr rfl (x_ltp (vp_lt o6) (by decide)) (sS_p0 (vp_lt o6)) rfl ?_
      refine e_k 2 (f' := (40, [(4, .ref (32 + 21 * (Int32.toNatClampNeg p3))), (3, .ref (32 + 21 * (Int32.toNatClampNeg p2))), (0, .ref 14), (1, .int p2), (2, .int p3)], [.ref (32 + 21 * (Int32.toNatClampNeg p2))])) rfl ?_
      refine r_getr rfl (x_ltp (vp_lt o5) (by decide)) (sS_p14 (vp_lt o5)) rfl ?_
      refine e_k 1 (f' := (44, [(4, .ref (32 + 21 * (Int32.toNatClampNeg p3))), (3, .ref (32 + 21 * (Int32.toNatClampNeg p2))), (0, .ref 14), (1, .int p2), (2, .int p3)], [.int p3, .ref (33 + 21 * (Int32.toNatClampNeg p2))])) rfl ?_
      obtain ⟨o7, hb⟩ := ob_in hb
      refine r_iald rfl (x_t0 (vp_lt o5) (by decide)) (x_ltp (vp_lt o5) (by decide)) (sS_p15 (vp_lt o5)) o7 ?_
      refine e_k 1 (f' := (if (I3 (33 + 21 * (Int32.toNatClampNeg p2)) (Int32.toNatClampNeg p3)) ≤ 0 then 71 else 48, [(4, .ref (32 + 21 * (Int32.toNatClampNeg p3))), (3, .ref (32 + 21 * (Int32.toNatClampNeg p2))), (0, .ref 14), (1, .int p2), (2, .int p3)], [])) rfl ?_
      refine e_if (fun c8 => ?_) (fun c8 => ?_)
      · replace hb := i_pos c8 hb
        refine e_k 1 (f' := (72, [(4, .ref (32 + 21 * (Int32.toNatClampNeg p3))), (3, .ref (32 + 21 * (Int32.toNatClampNeg p2))), (0, .ref 14), (1, .int p2), (2, .int p3)], [.ref (32 + 21 * (Int32.toNatClampNeg p2))])) rfl ?_
        refine r_getr rfl (x_ltp (vp_lt o5) (by decide)) (sS_p14 (vp_lt o5)) rfl ?_
        refine e_k 1 (f' := (76, [(4, .ref (32 + 21 * (Int32.toNatClampNeg p3))), (3, .ref (32 + 21 * (Int32.toNatClampNeg p2))), (0, .ref 14), (1, .int p2), (2, .int p3)], [.int p3, .ref (34 + 21 * (Int32.toNatClampNeg p2))])) rfl ?_
        obtain ⟨o9, hb⟩ := ob_in hb
        refine r_zald rfl (x_t0 (vp_lt o5) (by decide)) (x_ltp (vp_lt o5) (by decide)) (sS_p16 (vp_lt o5)) o9 ?_
        refine e_k 1 (f' := (if (I3 (34 + 21 * (Int32.toNatClampNeg p2)) (Int32.toNatClampNeg p3)) = 0 then 95 else 80, [(4, .ref (32 + 21 * (Int32.toNatClampNeg p3))), (3, .ref (32 + 21 * (Int32.toNatClampNeg p2))), (0, .ref 14), (1, .int p2), (2, .int p3)], [])) rfl ?_
        refine e_if (fun c10 => ?_) (fun c10 => ?_)
        · replace hb := i_pos c10 hb
          refine e_k 1 (f' := (96, [(4, .ref (32 + 21 * (Int32.toNatClampNeg p3))), (3, .ref (32 + 21 * (Int32.toNatClampNeg p2))), (0, .ref 14), (1, .int p2), (2, .int p3)], [.int 0])) rfl ?_
          obtain ⟨rfl, rfl, rfl⟩ := s_inj hb
          exact e_r rfl rfl K
        · replace hb := i_neg c10 hb
          refine e_k 1 (f' := (81, [(4, .ref (32 + 21 * (Int32.toNatClampNeg p3))), (3, .ref (32 + 21 * (Int32.toNatClampNeg p2))), (0, .ref 14), (1, .int p2), (2, .int p3)], [.ref (32 + 21 * (Int32.toNatClampNeg p2))])) rfl ?_
          refine r_getr rfl (x_ltp (vp_lt o5) (by decide)) (sS_p14 (vp_lt o5)) rfl ?_
          refine e_k 2 (f' := (86, [(4, .ref (32 + 21 * (Int32.toNatClampNeg p3))), (3, .ref (32 + 21 * (Int32.toNatClampNeg p2))), (0, .ref 14), (1, .int p2), (2, .int p3)], [.int 0, .int p3, .ref (34 + 21 * (Int32.toNatClampNeg p2))])) rfl ?_
          obtain ⟨o11, hb⟩ := ob_in hb
          obtain ⟨I12, eI12, hb⟩ := p_nm hb
          refine r_zast' rfl (x_ltp (vp_lt o5) (by decide)) (sS_p16 (vp_lt o5)) o11 eI12 ?_
          refine e_k 2 (f' := (90, [(4, .ref (32 + 21 * (Int32.toNatClampNeg p3))), (3, .ref (32 + 21 * (Int32.toNatClampNeg p2))), (0, .ref 14), (1, .int p2), (2, .int p3)], [.int 1, .ref (32 + 21 * (Int32.toNatClampNeg p3))])) rfl ?_
          obtain ⟨I13, eI13, hb⟩ := p_nm hb
          refine r_putz' rfl (x_ltp (vp_lt o6) (by decide)) (sS_p14 (vp_lt o6)) rfl (Or.inr rfl) eI13 ?_
          refine e_k 1 (f' := (94, [(4, .ref (32 + 21 * (Int32.toNatClampNeg p3))), (3, .ref (32 + 21 * (Int32.toNatClampNeg p2))), (0, .ref 14), (1, .int p2), (2, .int p3)], [.int 1])) rfl ?_
          obtain ⟨rfl, rfl, rfl⟩ := s_inj hb
          exact e_r rfl rfl K
      · replace hb := i_neg c8 hb
        refine e_k 1 (f' := (49, [(4, .ref (32 + 21 * (Int32.toNatClampNeg p3))), (3, .ref (32 + 21 * (Int32.toNatClampNeg p2))), (0, .ref 14), (1, .int p2), (2, .int p3)], [.ref (32 + 21 * (Int32.toNatClampNeg p2))])) rfl ?_
        refine r_getr rfl (x_ltp (vp_lt o5) (by decide)) (sS_p14 (vp_lt o5)) rfl ?_
        refine e_k 2 (f' := (54, [(4, .ref (32 + 21 * (Int32.toNatClampNeg p3))), (3, .ref (32 + 21 * (Int32.toNatClampNeg p2))), (0, .ref 14), (1, .int p2), (2, .int p3)], [.int p3, .ref (33 + 21 * (Int32.toNatClampNeg p2)), .int p3, .ref (33 + 21 * (Int32.toNatClampNeg p2))])) rfl ?_
        obtain ⟨o14, hb⟩ := ob_in hb
        refine r_iald rfl (x_t0 (vp_lt o5) (by decide)) (x_ltp (vp_lt o5) (by decide)) (sS_p15 (vp_lt o5)) o14 ?_
        refine e_k 2 (f' := (57, [(4, .ref (32 + 21 * (Int32.toNatClampNeg p3))), (3, .ref (32 + 21 * (Int32.toNatClampNeg p2))), (0, .ref 14), (1, .int p2), (2, .int p3)], [.int ((I3 (33 + 21 * (Int32.toNatClampNeg p2)) (Int32.toNatClampNeg p3)) - 1), .int p3, .ref (33 + 21 * (Int32.toNatClampNeg p2))])) rfl ?_
        obtain ⟨o15, hb⟩ := ob_in hb
        obtain ⟨I16, eI16, hb⟩ := p_nm hb
        refine r_iast' rfl (x_ltp (vp_lt o5) (by decide)) (sS_p15 (vp_lt o5)) o15 eI16 ?_
        refine e_k 1 (f' := (60, [(4, .ref (32 + 21 * (Int32.toNatClampNeg p3))), (3, .ref (32 + 21 * (Int32.toNatClampNeg p2))), (0, .ref 14), (1, .int p2), (2, .int p3)], [.ref (32 + 21 * (Int32.toNatClampNeg p3))])) rfl ?_
        refine r_getr rfl (x_ltp (vp_lt o6) (by decide)) (sS_p14 (vp_lt o6)) rfl ?_
        refine e_k 2 (f' := (65, [(4, .ref (32 + 21 * (Int32.toNatClampNeg p3))), (3, .ref (32 + 21 * (Int32.toNatClampNeg p2))), (0, .ref 14), (1, .int p2), (2, .int p3)], [.int p2, .ref (35 + 21 * (Int32.toNatClampNeg p3)), .int p2, .ref (35 + 21 * (Int32.toNatClampNeg p3))])) rfl ?_
        obtain ⟨o17, hb⟩ := ob_in hb
        refine r_iald rfl (x_t0 (vp_lt o6) (by decide)) (x_ltp (vp_lt o6) (by decide)) (sS_p17 (vp_lt o6)) o17 ?_
        refine e_k 2 (f' := (68, [(4, .ref (32 + 21 * (Int32.toNatClampNeg p3))), (3, .ref (32 + 21 * (Int32.toNatClampNeg p2))), (0, .ref 14), (1, .int p2), (2, .int p3)], [.int ((I16 (35 + 21 * (Int32.toNatClampNeg p3)) (Int32.toNatClampNeg p2)) + 1), .int p2, .ref (35 + 21 * (Int32.toNatClampNeg p3))])) rfl ?_
        obtain ⟨o18, hb⟩ := ob_in hb
        obtain ⟨I19, eI19, hb⟩ := p_nm hb
        refine r_iast' rfl (x_ltp (vp_lt o6) (by decide)) (sS_p17 (vp_lt o6)) o18 eI19 ?_
        refine e_k 1 (f' := (70, [(4, .ref (32 + 21 * (Int32.toNatClampNeg p3))), (3, .ref (32 + 21 * (Int32.toNatClampNeg p2))), (0, .ref 14), (1, .int p2), (2, .int p3)], [.int 1])) rfl ?_
        obtain ⟨rfl, rfl, rfl⟩ := s_inj hb
        exact e_r rfl rfl K
    · replace hb := i_neg c4 hb
      refine e_k 1 (f' := (17, [(0, .ref 14), (1, .int p2), (2, .int p3)], [.int 0])) rfl ?_
      obtain ⟨rfl, rfl, rfl⟩ := s_inj hb
      exact e_r rfl rfl K
def f_Hall_bringAll_25 : Nat → Int32 → Int32 → Int32 → Int32 → MI → MJ → M2 (Int32)
  | 0, _, _, _, _, _, _ => none
  | fu + 1, l1, l2, l3, l4, I, J => if 4 < l4 then (some (l1, I, J)) else (oc (f_Hall_bring l2 l3 I J) (fun v4 I4 J4 => if v4 = 0 then (some (l1, I4, J4)) else (f_Hall_bringAll_25  fu 1 l2 l3 (l4 + 1) I4 J4)))
theorem E_Hall_bringAll_25 {X : MX} : ∀ (fu : Nat) {l1 : Int32} {l2 : Int32} {l3 : Int32} {l4 : Int32} {I : MI} {J : MJ} {r : (Int32)} {I' : MI} {J' : MJ}, f_Hall_bringAll_25  fu l1 l2 l3 l4 I J = some (r, I', J') → am_E (gG L xs) (d + 2) m_Hall_bringAll (48, [(0, .ref 14), (1, .int r), (2, .int l2), (3, .int l3)], []) (hX X I' J') P → am_E (gG L xs) (d + 2) m_Hall_bringAll (25, [(0, .ref 14), (1, .int l1), (2, .int l2), (3, .int l3), (4, .int l4)], []) (hX X I J) P := by
  intro fu
  induction fu with
  | zero =>
    intros
    rename_i hb _
    cases hb
  | succ fu ih =>
    intro l1 l2 l3 l4 I J r I' J' hb K
    unfold f_Hall_bringAll_25 at hb
    refine e_k 3 (f' := (if 4 < l4 then 48 else 31, [(0, .ref 14), (1, .int l1), (2, .int l2), (3, .int l3), (4, .int l4)], [])) rfl ?_
    refine e_if (fun c3 => ?_) (fun c3 => ?_)
    · replace hb := i_pos c3 hb
      refine e_sub (ls := [(0, .ref 14), (1, .int l1), (2, .int l2), (3, .int l3)]) rfl ⟨rfl, rfl, rfl, rfl, trivial⟩ ?_
      obtain ⟨rfl, rfl, rfl⟩ := s_inj hb
      exact K
    · replace hb := i_neg c3 hb
      refine e_k 3 (f' := (34, [(0, .ref 14), (1, .int l1), (2, .int l2), (3, .int l3), (4, .int l4)], [.int l3, .int l2, .ref 14])) rfl ?_
      obtain ⟨v4, I4, J4, h4, hb⟩ := oc_call hb
      refine r_cv (z := m_Hall_bring) (As := [.int l2, .int l3]) (rest := []) rfl rfl rfl rfl rfl (x_ltn rfl) rfl rfl (E_Hall_bring  h4 ⟨_, rfl, ?_⟩)
      refine e_k 1 (f' := (if v4 = 0 then 48 else 40, [(0, .ref 14), (1, .int l1), (2, .int l2), (3, .int l3), (4, .int l4)], [])) rfl ?_
      refine e_if (fun c5 => ?_) (fun c5 => ?_)
      · replace hb := i_pos c5 hb
        refine e_sub (ls := [(0, .ref 14), (1, .int l1), (2, .int l2), (3, .int l3)]) rfl ⟨rfl, rfl, rfl, rfl, trivial⟩ ?_
        obtain ⟨rfl, rfl, rfl⟩ := s_inj hb
        exact K
      · replace hb := i_neg c5 hb
        refine e_k 4 (f' := (25, [(4, .int (l4 + 1)), (1, .int 1), (0, .ref 14), (2, .int l2), (3, .int l3)], [])) rfl ?_
        refine e_sub (ls := [(0, .ref 14), (1, .int 1), (2, .int l2), (3, .int l3), (4, .int (l4 + 1))]) rfl ⟨rfl, rfl, rfl, rfl, rfl, trivial⟩ ?_
        exact ih  hb K
def f_Hall_bringAll_14 : Nat → Int32 → Int32 → Int32 → MI → MJ → M2 (Int32)
  | 0, _, _, _, _, _ => none
  | fu + 1, l1, l2, l3, I, J => if (I 14 6) ≤ l3 then (some (l1, I, J)) else (oc (f_Hall_bringAll_25  gF l1 l2 l3 0 I J) (fun u6 I6 J6 => f_Hall_bringAll_14  fu u6 l2 (l3 + 1) I6 J6))
theorem E_Hall_bringAll_14 {X : MX} : ∀ (fu : Nat) {l1 : Int32} {l2 : Int32} {l3 : Int32} {I : MI} {J : MJ} {r : (Int32)} {I' : MI} {J' : MJ}, f_Hall_bringAll_14  fu l1 l2 l3 I J = some (r, I', J') → am_E (gG L xs) (d + 2) m_Hall_bringAll (54, [(0, .ref 14), (1, .int r), (2, .int l2)], []) (hX X I' J') P → am_E (gG L xs) (d + 2) m_Hall_bringAll (14, [(0, .ref 14), (1, .int l1), (2, .int l2), (3, .int l3)], []) (hX X I J) P := by
  intro fu
  induction fu with
  | zero =>
    intros
    rename_i hb _
    cases hb
  | succ fu ih =>
    intro l1 l2 l3 I J r I' J' hb K
    unfold f_Hall_bringAll_14 at hb
    refine e_k 2 (f' := (16, [(0, .ref 14), (1, .int l1), (2, .int l2), (3, .int l3)], [.ref 14, .int l3])) rfl ?_
    refine r_geti rfl (x_ltn rfl) rfl rfl ?_
    refine e_k 1 (f' := (if (I 14 6) ≤ l3 then 54 else 22, [(0, .ref 14), (1, .int l1), (2, .int l2), (3, .int l3)], [])) rfl ?_
    refine e_if (fun c2 => ?_) (fun c2 => ?_)
    · replace hb := i_pos c2 hb
      refine e_sub (ls := [(0, .ref 14), (1, .int l1), (2, .int l2)]) rfl ⟨rfl, rfl, rfl, trivial⟩ ?_
      obtain ⟨rfl, rfl, rfl⟩ := s_inj hb
      exact K
    · replace hb := i_neg c2 hb
      refine e_k 2 (f' := (25, [(4, .int 0), (0, .ref 14), (1, .int l1), (2, .int l2), (3, .int l3)], [])) rfl ?_
      refine e_sub (ls := [(0, .ref 14), (1, .int l1), (2, .int l2), (3, .int l3), (4, .int 0)]) rfl ⟨rfl, rfl, rfl, rfl, rfl, trivial⟩ ?_
      obtain ⟨u6, I6, J6, h6, hb⟩ := oc_call hb
      refine E_Hall_bringAll_25  gF  h6 ?_
      refine e_k 2 (f' := (14, [(3, .int (l3 + 1)), (0, .ref 14), (1, .int u6), (2, .int l2)], [])) rfl ?_
      refine e_sub (ls := [(0, .ref 14), (1, .int u6), (2, .int l2), (3, .int (l3 + 1))]) rfl ⟨rfl, rfl, rfl, rfl, trivial⟩ ?_
      exact ih  hb K
def f_Hall_bringAll_4 : Nat → Int32 → Int32 → MI → MJ → M2 (Int32)
  | 0, _, _, _, _ => none
  | fu + 1, l1, l2, I, J => if (I 14 6) ≤ l2 then (some (l1, I, J)) else (oc (f_Hall_bringAll_14  gF l1 l2 0 I J) (fun u7 I7 J7 => f_Hall_bringAll_4  fu u7 (l2 + 1) I7 J7))
theorem E_Hall_bringAll_4 {X : MX} : ∀ (fu : Nat) {l1 : Int32} {l2 : Int32} {I : MI} {J : MJ} {r : (Int32)} {I' : MI} {J' : MJ}, f_Hall_bringAll_4  fu l1 l2 I J = some (r, I', J') → am_E (gG L xs) (d + 2) m_Hall_bringAll (60, [(1, .int r)], []) (hX X I' J') P → am_E (gG L xs) (d + 2) m_Hall_bringAll (4, [(0, .ref 14), (1, .int l1), (2, .int l2)], []) (hX X I J) P := by
  intro fu
  induction fu with
  | zero =>
    intros
    rename_i hb _
    cases hb
  | succ fu ih =>
    intro l1 l2 I J r I' J' hb K
    unfold f_Hall_bringAll_4 at hb
    refine e_k 2 (f' := (6, [(0, .ref 14), (1, .int l1), (2, .int l2)], [.ref 14, .int l2])) rfl ?_
    refine r_geti rfl (x_ltn rfl) rfl rfl ?_
    refine e_k 1 (f' := (if (I 14 6) ≤ l2 then 60 else 12, [(0, .ref 14), (1, .int l1), (2, .int l2)], [])) rfl ?_
    refine e_if (fun c1 => ?_) (fun c1 => ?_)
    · replace hb := i_pos c1 hb
      refine e_sub (ls := [(1, .int l1)]) rfl ⟨rfl, trivial⟩ ?_
      obtain ⟨rfl, rfl, rfl⟩ := s_inj hb
      exact K
    · replace hb := i_neg c1 hb
      refine e_k 2 (f' := (14, [(3, .int 0), (0, .ref 14), (1, .int l1), (2, .int l2)], [])) rfl ?_
      refine e_sub (ls := [(0, .ref 14), (1, .int l1), (2, .int l2), (3, .int 0)]) rfl ⟨rfl, rfl, rfl, rfl, trivial⟩ ?_
      obtain ⟨u7, I7, J7, h7, hb⟩ := oc_call hb
      refine E_Hall_bringAll_14  gF  h7 ?_
      refine e_k 2 (f' := (4, [(2, .int (l2 + 1)), (0, .ref 14), (1, .int u7)], [])) rfl ?_
      refine e_sub (ls := [(0, .ref 14), (1, .int u7), (2, .int (l2 + 1))]) rfl ⟨rfl, rfl, rfl, trivial⟩ ?_
      exact ih  hb K
def f_Hall_bringAll (I : MI) (J : MJ) : M2 Int32 := oc (f_Hall_bringAll_4  gF 0 0 I J) (fun u8 I8 J8 => if u8 = 0 ∨ u8 = 1 then some (u8, I8, J8) else none)
theorem E_Hall_bringAll {X : MX} {I : MI} {J : MJ} {v : Int32} {I' : MI} {J' : MJ} (hb : f_Hall_bringAll  I J = some (v, I', J')) (K : P (.inl (some (.int v))) (hX X I' J')) : am_E (gG L xs) (d + 2) m_Hall_bringAll (0, lv_args 0 [.ref 14], []) (hX X I J) P := by
  unfold f_Hall_bringAll at hb
  refine e_k 4 (f' := (4, [(2, .int 0), (1, .int 0), (0, .ref 14)], [])) rfl ?_
  refine e_sub (ls := [(0, .ref 14), (1, .int 0), (2, .int 0)]) rfl ⟨rfl, rfl, rfl, trivial⟩ ?_
  obtain ⟨u8, I8, J8, h8, hb⟩ := oc_call hb
  refine E_Hall_bringAll_4  gF  h8 ?_
  refine e_k 1 (f' := (61, [(1, .int u8)], [.int u8])) rfl ?_
  obtain ⟨o9, hb⟩ := ob_if hb
  obtain ⟨rfl, rfl, rfl⟩ := s_inj hb
  exact e_r rfl (if_pos o9) K
def f_Hall_onWire (p2 : Int32) (p3 : Int32) (I : MI) (J : MJ) : M2 Int32 := oc (f_Hall_has p2 I J) (fun v1 I1 J1 => if v1 = 0 then (some (0, I1, J1)) else (oc (f_Hall_has p3 I1 J1) (fun v3 I3 J3 => if ¬ v3 = 0 then (if p2 < 0 ∨ 4 ≤ Int32.toNatClampNeg p2 then none else (if p3 < 0 ∨ 4 ≤ Int32.toNatClampNeg p3 then none else (if p3 < 0 ∨ 4 ≤ Int32.toNatClampNeg p3 then none else (if (I3 (34 + 21 * (Int32.toNatClampNeg p2)) (Int32.toNatClampNeg p3)) = 0 then (some ((I3 (33 + 21 * (Int32.toNatClampNeg p2)) (Int32.toNatClampNeg p3)) + 0, I3, J3)) else (some ((I3 (33 + 21 * (Int32.toNatClampNeg p2)) (Int32.toNatClampNeg p3)) + 1, I3, J3)))))) else (some (0, I3, J3)))))
theorem E_Hall_onWire {p2 : Int32} {p3 : Int32} {X : MX} {I : MI} {J : MJ} {v : Int32} {I' : MI} {J' : MJ} (hb : f_Hall_onWire p2 p3 I J = some (v, I', J')) (K : P (.inl (some (.int v))) (hX X I' J')) : am_E (gG L xs) (d + 1) m_Hall_onWire (0, lv_args 0 [.ref 14, .int p2, .int p3], []) (hX X I J) P := by
  unfold f_Hall_onWire at hb
  refine e_k 2 (f' := (2, [(0, .ref 14), (1, .int p2), (2, .int p3)], [.int p2, .ref 14])) rfl ?_
  obtain ⟨v1, I1, J1, h1, hb⟩ := oc_call hb
  refine r_cv (z := m_Hall_has) (As := [.int p2]) (rest := []) rfl rfl rfl rfl rfl (x_ltn rfl) rfl rfl (E_Hall_has  h1 ⟨_, rfl, ?_⟩)
  refine e_k 1 (f' := (if v1 = 0 then 16 else 8, [(0, .ref 14), (1, .int p2), (2, .int p3)], [])) rfl ?_
  refine e_if (fun c2 => ?_) (fun c2 => ?_)
  · replace hb := i_pos c2 hb
    refine e_k 1 (f' := (17, [(0, .ref 14), (1, .int p2), (2, .int p3)], [.int 0])) rfl ?_
    obtain ⟨rfl, rfl, rfl⟩ := s_inj hb
    exact e_r rfl rfl K
  · replace hb := i_neg c2 hb
    refine e_k 2 (f' := (10, [(0, .ref 14), (1, .int p2), (2, .int p3)], [.int p3, .ref 14])) rfl ?_
    obtain ⟨v3, I3, J3, h3, hb⟩ := oc_call hb
    refine r_cv (z := m_Hall_has) (As := [.int p3]) (rest := []) rfl rfl rfl rfl rfl (x_ltn rfl) rfl rfl (E_Hall_has  h3 ⟨_, rfl, ?_⟩)
    refine e_k 1 (f' := (if ¬ v3 = 0 then 18 else 16, [(0, .ref 14), (1, .int p2), (2, .int p3)], [])) rfl ?_
    refine e_if (fun c4 => ?_) (fun c4 => ?_)
    · replace hb := i_pos c4 hb
      refine e_k 1 (f' := (19, [(0, .ref 14), (1, .int p2), (2, .int p3)], [.ref 14])) rfl ?_
      refine r_getr rfl (x_ltn rfl) rfl rfl ?_
      refine e_k 1 (f' := (23, [(0, .ref 14), (1, .int p2), (2, .int p3)], [.int p2, .ref 17])) rfl ?_
      obtain ⟨o5, hb⟩ := ob_in hb
      refine r_pald rfl o5 ?_
      refine r_getr rfl (x_ltp (vp_lt o5) (by decide)) (sS_p0 (vp_lt o5)) rfl ?_
      refine e_k 2 (f' := (29, [(3, .ref (32 + 21 * (Int32.toNatClampNeg p2))), (0, .ref 14), (1, .int p2), (2, .int p3)], [.ref (32 + 21 * (Int32.toNatClampNeg p2))])) rfl ?_
      refine r_getr rfl (x_ltp (vp_lt o5) (by decide)) (sS_p14 (vp_lt o5)) rfl ?_
      refine e_k 1 (f' := (33, [(3, .ref (32 + 21 * (Int32.toNatClampNeg p2))), (0, .ref 14), (1, .int p2), (2, .int p3)], [.int p3, .ref (33 + 21 * (Int32.toNatClampNeg p2))])) rfl ?_
      obtain ⟨o6, hb⟩ := ob_in hb
      refine r_iald rfl (x_t0 (vp_lt o5) (by decide)) (x_ltp (vp_lt o5) (by decide)) (sS_p15 (vp_lt o5)) o6 ?_
      refine e_k 1 (f' := (35, [(3, .ref (32 + 21 * (Int32.toNatClampNeg p2))), (0, .ref 14), (1, .int p2), (2, .int p3)], [.ref (32 + 21 * (Int32.toNatClampNeg p2)), .int (I3 (33 + 21 * (Int32.toNatClampNeg p2)) (Int32.toNatClampNeg p3))])) rfl ?_
      refine r_getr rfl (x_ltp (vp_lt o5) (by decide)) (sS_p14 (vp_lt o5)) rfl ?_
      refine e_k 1 (f' := (39, [(3, .ref (32 + 21 * (Int32.toNatClampNeg p2))), (0, .ref 14), (1, .int p2), (2, .int p3)], [.int p3, .ref (34 + 21 * (Int32.toNatClampNeg p2)), .int (I3 (33 + 21 * (Int32.toNatClampNeg p2)) (Int32.toNatClampNeg p3))])) rfl ?_
      obtain ⟨o7, hb⟩ := ob_in hb
      refine r_zald rfl (x_t0 (vp_lt o5) (by decide)) (x_ltp (vp_lt o5) (by decide)) (sS_p16 (vp_lt o5)) o7 ?_
      refine e_k 1 (f' := (if (I3 (34 + 21 * (Int32.toNatClampNeg p2)) (Int32.toNatClampNeg p3)) = 0 then 47 else 43, [(3, .ref (32 + 21 * (Int32.toNatClampNeg p2))), (0, .ref 14), (1, .int p2), (2, .int p3)], [.int (I3 (33 + 21 * (Int32.toNatClampNeg p2)) (Int32.toNatClampNeg p3))])) rfl ?_
      refine e_if (fun c8 => ?_) (fun c8 => ?_)
      · replace hb := i_pos c8 hb
        refine e_k 2 (f' := (49, [(3, .ref (32 + 21 * (Int32.toNatClampNeg p2))), (0, .ref 14), (1, .int p2), (2, .int p3)], [.int ((I3 (33 + 21 * (Int32.toNatClampNeg p2)) (Int32.toNatClampNeg p3)) + 0)])) rfl ?_
        obtain ⟨rfl, rfl, rfl⟩ := s_inj hb
        exact e_r rfl rfl K
      · replace hb := i_neg c8 hb
        refine e_k 3 (f' := (49, [(3, .ref (32 + 21 * (Int32.toNatClampNeg p2))), (0, .ref 14), (1, .int p2), (2, .int p3)], [.int ((I3 (33 + 21 * (Int32.toNatClampNeg p2)) (Int32.toNatClampNeg p3)) + 1)])) rfl ?_
        obtain ⟨rfl, rfl, rfl⟩ := s_inj hb
        exact e_r rfl rfl K
    · replace hb := i_neg c4 hb
      refine e_k 1 (f' := (17, [(0, .ref 14), (1, .int p2), (2, .int p3)], [.int 0])) rfl ?_
      obtain ⟨rfl, rfl, rfl⟩ := s_inj hb
      exact e_r rfl rfl K
end AUTO
