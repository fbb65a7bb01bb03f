/-! compile: choices and loops -/
section CM
variable {n P m D U k p c q : Nat} {t : Nat → Nat} {I I' : MI} {J J' : MJ} {f8 f9 g2 g3 g4 g5 : Nat → Int32} {cc cm : Nat → Nat}
theorem zCho (ht : tpOK n t) {x x5 : Int32} {f : Nat} (hf : 2 ≤ f) (h : SQ n t x I) : zk (SS n t x) J (cCho (f_RcT f) x5 I J) := by
  unfold cCho
  refine zk_oc (SQX ht (Or.inl rfl) h) (fun _ _ h => ?_)
  repeat (first
    | exact zk_some (by assumption)
    | (with_reducible refine z_x (by assumption) (by assumption) (by decide) ?_) ; (intro _ _ _)
    | (with_reducible refine z_em (by assumption) ?_) ; (intro _ _ _)
    | (with_reducible refine z_ep (by assumption) ?_) ; (intro _ _ _)
    | (with_reducible refine z_b (by assumption) ?_) ; (intro _ _ _)
    | (with_reducible refine z_wS (by assumption) ?_) ; (intro _ _ _)
    | (with_reducible refine z_wC (by assumption) ?_) ; (intro _ _ _)
    | (with_reducible refine z_p (by assumption) ?_) ; (intro _ _ _)
    | (with_reducible refine z_r (by assumption) ?_) ; (intro _ _ _)
    | (with_reducible refine z_en (by assumption) ?_) ; (intro _ _ _)
    | (with_reducible refine z_lv (by assumption) ?_) ; (intro _ _ _)
    | (with_reducible refine z_am (by assumption) ?_) ; (intro _ _ _)
    | (with_reducible refine z_ar (by assumption) (by assumption) ?_) ; (intro _ _ _)
    | (with_reducible refine z_va (by assumption) (by assumption) ?_) ; (intro _ _ _)
    | (with_reducible refine z_lk (by assumption) (by assumption) ?_) ; (intro _ _ _)
    | (with_reducible refine z_dc (by assumption) (by assumption) ?_) ; (intro _ _ _)
    | (with_reducible refine z_r0 (by assumption) (by omega) (by assumption) ?_) ; (intro _ _ _)
    | (with_reducible refine z_r9 (by assumption) (by omega) (by assumption) ?_) ; (intro _ _ _)
    | (with_reducible refine zk_7 (by assumption) ?_) ; (intro _ _)
    | (with_reducible refine zk_9 (by assumption) ?_) ; (intro _ _)
    | (with_reducible refine zk_8 (by assumption) ?_) ; (intro _ _)
    | (with_reducible refine zk_pl ?_)
    | (with_reducible refine zk_ite ?_ ?_) <;> (intro _)
    | (with_reducible refine z_oc ?_ ?_)
    | (intro _ _ _))
theorem zLoo (ht : tpOK n t) {x x5 : Int32} (h : SQ n t x I) : zk (SS n t x) J (cLoo x5 I J) := by
  unfold cLoo
  refine zk_oc (SQX ht (Or.inr rfl) h) (fun _ _ h => ?_)
  repeat (first
    | exact zk_some (by assumption)
    | (with_reducible refine z_x (by assumption) (by assumption) (by decide) ?_) ; (intro _ _ _)
    | (with_reducible refine z_em (by assumption) ?_) ; (intro _ _ _)
    | (with_reducible refine z_ep (by assumption) ?_) ; (intro _ _ _)
    | (with_reducible refine z_b (by assumption) ?_) ; (intro _ _ _)
    | (with_reducible refine z_wS (by assumption) ?_) ; (intro _ _ _)
    | (with_reducible refine z_wC (by assumption) ?_) ; (intro _ _ _)
    | (with_reducible refine z_p (by assumption) ?_) ; (intro _ _ _)
    | (with_reducible refine z_r (by assumption) ?_) ; (intro _ _ _)
    | (with_reducible refine z_en (by assumption) ?_) ; (intro _ _ _)
    | (with_reducible refine z_lv (by assumption) ?_) ; (intro _ _ _)
    | (with_reducible refine z_am (by assumption) ?_) ; (intro _ _ _)
    | (with_reducible refine z_ar (by assumption) (by assumption) ?_) ; (intro _ _ _)
    | (with_reducible refine z_va (by assumption) (by assumption) ?_) ; (intro _ _ _)
    | (with_reducible refine z_lk (by assumption) (by assumption) ?_) ; (intro _ _ _)
    | (with_reducible refine z_dc (by assumption) (by assumption) ?_) ; (intro _ _ _)
    | (with_reducible refine z_r0 (by assumption) (by omega) (by assumption) ?_) ; (intro _ _ _)
    | (with_reducible refine z_r9 (by assumption) (by omega) (by assumption) ?_) ; (intro _ _ _)
    | (with_reducible refine zk_7 (by assumption) ?_) ; (intro _ _)
    | (with_reducible refine zk_9 (by assumption) ?_) ; (intro _ _)
    | (with_reducible refine zk_8 (by assumption) ?_) ; (intro _ _)
    | (with_reducible refine zk_pl ?_)
    | (with_reducible refine zk_ite ?_ ?_) <;> (intro _)
    | (with_reducible refine z_oc ?_ ?_)
    | (intro _ _ _))
theorem fil_b {f : Nat → Nat} {i r M : Nat} (h : ∀ j, j < M → f j < 256) (hr : r ≤ 2000) : ∀ j, j < M → fil f i r j < 256 := by
  intro j hj
  by_cases q : j = i
  · rw [q, fil_0]
    omega
  · by_cases q2 : j = i + 1
    · rw [q2, fil_1]
      omega
    · rw [fil_n _ q q2]
      exact h j hj
theorem LOO {f f' : Nat} (ht : tpOK n t) (hD : D ≤ 20) (hU : U ≤ D + 1) (hS : D < 20 → STS n t P (D + 1) (U + 1) J J') (hf : 5 * (21 - D) + 5 ≤ f) (hf' : 5 * (21 - D) + 5 ≤ f') (hq : q < n) (hl : lkd n t q) (hA : CA n t P I q m D U k p f8 f9 cc) (hM : MA n t P I' q m D U k p g2 g3 g4 g5 c cm) (hT : TB f8 f9 g2 g3 g5 c q) (hC : k = 0 → CODE P cc cm m 0 f8 g3 g4 c) (hm : m ≤ 5 * q) : OS n t P D U J J' q m k (f_Translator_loop (f_RcT f) I J) (f_Model_readTurn (f_RcM f') (nI 42) I' J') := by
  have hn := ht.1
  rw [loop_eq]
  rcases PRE (p2 := nI 42) ht hD hU hS hf hf' hq hl hA hM hT hC hm with ⟨x, I1', r1, r2, r3, r4⟩ | ⟨hd, I1, I1', q', m', k', p', f8', f9', g2', g3', g4', g5', c', cc', cm', r1, r2, r3, r4, r5, r6, r7, r8, hm4, r9⟩
  · exact Or.inl ⟨x, I1', r1 _ (fun x5 I h => zLoo ht h), r2, r3, r4⟩
  · have hq' : q' ≤ n := r3.2.2.2.2.2.2.2.2.2.2.2.2.1
    rw [r1, r2]
    unfold mTail
    obtain ⟨L1', l1, l2, _⟩ := AM (J := J') (b := 18) (v := 18) r4 (by omega) rfl
    have q10 : L1' 112 10 = nI (m' + 1) := l2.2.2.2.2.2.2.2.2.1
    obtain ⟨L2', l3, l4, _⟩ := AM2 (J := J') (a := 0) (b := 0) (v := 0) (w := 0) l2 (by omega) rfl rfl
    obtain ⟨L3', l5, l6⟩ := FLM (J := J') (x := nI (m' + 1)) (y := nI m) (i := m' + 1) (r := m) l4 rfl rfl (by omega) (by omega)
    have q10' : L3' 112 10 = nI (m' + 3) := l6.2.2.2.2.2.2.2.2.1
    obtain ⟨L4', l7, l8⟩ := FLM (J := J') (x := nI (m + 2)) (y := nI (m' + 3)) (i := m + 2) (r := m' + 3) l6 rfl rfl (by omega) (by omega)
    have p15 : L4' 112 15 = nI (D + 1) := l8.2.2.2.1
    have b0 := DM l8 (x := D) (y := L4' 112 15 - 1) (by omega) (by rw [p15]; exact nI_sb (a := D + 1) (b := 1) (by omega))
    have p79 := b0.2.2.2.2.1
    have b0 := UM b0 (x := U) (y := (va_up L4' 112 (upd (L4' 112) 15 (L4' 112 15 - 1))) 112 79 - 1) (by omega) (by rw [p79]; exact nI_sb (a := U + 1) (b := 1) (by omega))
    rw [l1, pl_eq, q10, l3, if_pos (show ¬ nI 42 = 63 by decide), l5, q10', l7, pl_eq, pl_eq]
    generalize (va_up (va_up L4' 112 (upd (L4' 112) 15 (L4' 112 15 - 1))) 112 (upd (va_up L4' 112 (upd (L4' 112) 15 (L4' 112 15 - 1)) 112) 79 (va_up L4' 112 (upd (L4' 112) 15 (L4' 112 15 - 1)) 112 79 - 1))) = L5' at b0 ⊢
    obtain ⟨I4, I4', v', u1, u2, u3⟩ := WNT (J := J) (J' := J') ht (x := 93) (ch := 93) rfl (by omega) (by omega) r3 b0
    unfold mEnd cLoo
    rw [u1, u2]
    rcases u3 with ⟨u3, x, u4, u5, u6⟩ | ⟨u3, q2, u4, u5, u6, u7⟩
    · rw [u3, if_pos (show nI 0 = 0 ∨ nI 0 = 1 from Or.inl rfl)]
      refine Or.inl ⟨x, I4', ?_, rfl, u5, u6⟩
      repeat (first
        | exact zk_some (by assumption)
        | (with_reducible refine z_x (by assumption) (by assumption) (by decide) ?_) ; (intro _ _ _)
        | (with_reducible refine z_em (by assumption) ?_) ; (intro _ _ _)
        | (with_reducible refine z_ep (by assumption) ?_) ; (intro _ _ _)
        | (with_reducible refine z_b (by assumption) ?_) ; (intro _ _ _)
        | (with_reducible refine z_wS (by assumption) ?_) ; (intro _ _ _)
        | (with_reducible refine z_wC (by assumption) ?_) ; (intro _ _ _)
        | (with_reducible refine z_p (by assumption) ?_) ; (intro _ _ _)
        | (with_reducible refine z_r (by assumption) ?_) ; (intro _ _ _)
        | (with_reducible refine z_en (by assumption) ?_) ; (intro _ _ _)
        | (with_reducible refine z_lv (by assumption) ?_) ; (intro _ _ _)
        | (with_reducible refine z_am (by assumption) ?_) ; (intro _ _ _)
        | (with_reducible refine z_ar (by assumption) (by assumption) ?_) ; (intro _ _ _)
        | (with_reducible refine z_va (by assumption) (by assumption) ?_) ; (intro _ _ _)
        | (with_reducible refine z_lk (by assumption) (by assumption) ?_) ; (intro _ _ _)
        | (with_reducible refine z_dc (by assumption) (by assumption) ?_) ; (intro _ _ _)
        | (with_reducible refine z_r0 (by assumption) (by omega) (by assumption) ?_) ; (intro _ _ _)
        | (with_reducible refine z_r9 (by assumption) (by omega) (by assumption) ?_) ; (intro _ _ _)
        | (with_reducible refine zk_7 (by assumption) ?_) ; (intro _ _)
        | (with_reducible refine zk_9 (by assumption) ?_) ; (intro _ _)
        | (with_reducible refine zk_8 (by assumption) ?_) ; (intro _ _)
        | (with_reducible refine zk_pl ?_)
        | (with_reducible refine zk_ite ?_ ?_) <;> (intro _)
        | (with_reducible refine z_oc ?_ ?_)
        | (intro _ _ _))
    · have hq2 : q2 ≤ n := u5.2.2.2.2.2.2.2.2.2.2.2.2.1
      rw [u3, if_pos (show nI 1 = 0 ∨ nI 1 = 1 from Or.inr rfl)]
      have p7 : I4 3 7 = nI (U + 1) := u5.2.2.2.2.1
      have v0 := UC u5 (x := U) (y := I4 3 7 - 1) (by omega) (by rw [p7]; exact nI_sb (a := U + 1) (b := 1) (by omega))
      obtain ⟨I5, w1, w2⟩ := LvC (J := J) v0 (by omega)
      have s10 : I5 6 1 = nI m' := w2.2.2.2.2.2.2.2.2.1
      obtain ⟨I6, g1, g2x⟩ := EM3' (J := J) (a := 18) (o := 18) (b := 0) (d := 0) (u := 0) (v := 0) (w := 0) w2 rfl (by decide) (by decide) (by omega) (by decide) (by decide)
      obtain ⟨I7, h1, h2⟩ := FLC (J := J) (x := nI m' + 1) (y := nI m) (i := m' + 1) (r := m) g2x (nI_add m' 1) rfl (by omega) (by omega)
      have s10' : I7 6 1 = nI (m' + 3) := h2.2.2.2.2.2.2.2.2.1
      obtain ⟨I8, h3, h4⟩ := FLC (J := J) (x := nI m + 2) (y := nI (m' + 3)) (i := m + 2) (r := m' + 3) h2 (nI_add m 2) rfl (by omega) (by omega)
      refine Or.inr ⟨(), I8, I4', q2, m' + 3, k', p', f8', f9', g2', g3', g4', g5', c', _, _, ?_, rfl, h4, u6, TB_mono r5 (by omega), by omega, by omega, fun hk => ?_⟩
      · rw [pl_eq, w1, pl_eq, s10, g1, h1, s10', h3]
      · obtain ⟨z1, z2, z4, z5⟩ := r9 hk
        have X0 := CODE_18 z2
        have lo : ∀ j, j < m' → apn (apn (apn cc' m' 18) (m' + 1) 0) (m' + 2) 0 j = cc' j := fun j hj => by rw [apn_n _ _ (by omega), apn_n _ _ (by omega), apn_n _ _ (by omega)]
        have X1 := CODE_fill (s := m') (i := m' + 1) (r := m) X0 (fun st hg G => (GH_end z2 (by omega) lo st hg G).1) (fun st hg G => by
          obtain ⟨y1, y2⟩ := GH_end (hC z1) (M := m' + 3) (by omega) (fun j hj => (lo j (by omega)).trans (z4 j hj)) st hg G
          exact ⟨by omega, y2, fun _ => y1⟩) (Or.inr ⟨by rw [apn_n _ _ (by omega), apn_n _ _ (by omega), apn_s], rfl⟩) (by omega)
        refine ⟨z1, CODE_fill (s := m) (i := m + 2) (r := m' + 3) X1 (fun st hg G => (GH_end (hC z1) (by omega) (fun j hj => ?_) st hg G).1) (fun st hg G => ⟨Nat.le_refl _, G.1.2.1, fun h => absurd h (Nat.lt_irrefl _)⟩) (Or.inl ⟨?_, rfl⟩) (by omega)⟩
        · rw [fil_n _ (by omega) (by omega), lo j (by omega)]
          exact z4 j hj
        · rw [fil_n _ (by omega) (by omega), lo m (by omega)]
          exact z5
theorem CHO {f f' : Nat} (ht : tpOK n t) (hD : D ≤ 20) (hU : U ≤ D + 1) (hS : D < 20 → STS n t P (D + 1) (U + 1) J J') (hf : 5 * (21 - D) + 5 ≤ f) (hf' : 5 * (21 - D) + 5 ≤ f') (hq : q < n) (hl : lkd n t q) (hA : CA n t P I q m D U k p f8 f9 cc) (hM : MA n t P I' q m D U k p g2 g3 g4 g5 c cm) (hT : TB f8 f9 g2 g3 g5 c q) (hC : k = 0 → CODE P cc cm m 0 f8 g3 g4 c) (hm : m ≤ 5 * q) : OS n t P D U J J' q m k (f_Translator_choice (f_RcT f) I J) (f_Model_readTurn (f_RcM f') (nI 63) I' J') := by
  have hn := ht.1
  rw [choice_eq]
  rcases PRE (p2 := nI 63) ht hD hU hS hf hf' hq hl hA hM hT hC hm with ⟨x, I1', r1, r2, r3, r4⟩ | ⟨hd, I1, I1', q', m', k', p', f8', f9', g2', g3', g4', g5', c', cc', cm', r1, r2, r3, r4, r5, r6, r7, r8, hm4, r9⟩
  · exact Or.inl ⟨x, I1', r1 _ (fun x5 I h => zCho ht (by omega) h), r2, r3, r4⟩
  · have hq' : q' ≤ n := r3.2.2.2.2.2.2.2.2.2.2.2.2.1
    rw [r1, r2]
    unfold mTail
    obtain ⟨L1', l1, l2, _⟩ := AM (J := J') (b := 18) (v := 18) r4 (by omega) rfl
    have q10 : L1' 112 10 = nI (m' + 1) := l2.2.2.2.2.2.2.2.2.1
    obtain ⟨L2', l3, l4, _⟩ := AM2 (J := J') (a := 0) (b := 0) (v := 0) (w := 0) l2 (by omega) rfl rfl
    rw [l1, pl_eq, q10, l3, if_neg (show ¬ ¬ nI 63 = 63 from fun x => x rfl)]
    obtain ⟨I4, I4', v', u1, u2, u3⟩ := WNT (J := J) (J' := J') ht (x := 124) (ch := 124) rfl (by omega) (by omega) r3 l4
    unfold cCho
    rw [u1, u2]
    rcases u3 with ⟨u3, x, u4, u5, u6⟩ | ⟨u3, q2, u4, u5, u6, u7⟩
    · rw [u3, if_neg (show ¬ ¬ nI 0 = 0 from fun x => x rfl)]
      refine Or.inl ⟨x, I4', ?_, rfl, u5, u6⟩
      repeat (first
        | exact zk_some (by assumption)
        | (with_reducible refine z_x (by assumption) (by assumption) (by decide) ?_) ; (intro _ _ _)
        | (with_reducible refine z_em (by assumption) ?_) ; (intro _ _ _)
        | (with_reducible refine z_ep (by assumption) ?_) ; (intro _ _ _)
        | (with_reducible refine z_b (by assumption) ?_) ; (intro _ _ _)
        | (with_reducible refine z_wS (by assumption) ?_) ; (intro _ _ _)
        | (with_reducible refine z_wC (by assumption) ?_) ; (intro _ _ _)
        | (with_reducible refine z_p (by assumption) ?_) ; (intro _ _ _)
        | (with_reducible refine z_r (by assumption) ?_) ; (intro _ _ _)
        | (with_reducible refine z_en (by assumption) ?_) ; (intro _ _ _)
        | (with_reducible refine z_lv (by assumption) ?_) ; (intro _ _ _)
        | (with_reducible refine z_am (by assumption) ?_) ; (intro _ _ _)
        | (with_reducible refine z_ar (by assumption) (by assumption) ?_) ; (intro _ _ _)
        | (with_reducible refine z_va (by assumption) (by assumption) ?_) ; (intro _ _ _)
        | (with_reducible refine z_lk (by assumption) (by assumption) ?_) ; (intro _ _ _)
        | (with_reducible refine z_dc (by assumption) (by assumption) ?_) ; (intro _ _ _)
        | (with_reducible refine z_r0 (by assumption) (by omega) (by assumption) ?_) ; (intro _ _ _)
        | (with_reducible refine z_r9 (by assumption) (by omega) (by assumption) ?_) ; (intro _ _ _)
        | (with_reducible refine zk_7 (by assumption) ?_) ; (intro _ _)
        | (with_reducible refine zk_9 (by assumption) ?_) ; (intro _ _)
        | (with_reducible refine zk_8 (by assumption) ?_) ; (intro _ _)
        | (with_reducible refine zk_pl ?_)
        | (with_reducible refine zk_ite ?_ ?_) <;> (intro _)
        | (with_reducible refine z_oc ?_ ?_)
        | (intro _ _ _))
    · have hq2 : q2 ≤ n := u5.2.2.2.2.2.2.2.2.2.2.2.2.1
      have q10' : I4' 112 10 = nI (m' + 3) := u6.2.2.2.2.2.2.2.2.1
      obtain ⟨L3', l5, l6⟩ := FLM (J := J') (x := nI (m + 2)) (y := nI (m' + 3)) (i := m + 2) (r := m' + 3) u6 rfl rfl (by omega) (by omega)
      have s10 : I4 6 1 = nI m' := u5.2.2.2.2.2.2.2.2.1
      obtain ⟨I6, g1, g2x⟩ := EM3' (J := J) (a := 18) (o := 18) (b := 0) (d := 0) (u := 0) (v := 0) (w := 0) u5 rfl (by decide) (by decide) (by omega) (by decide) (by decide)
      have s10' : I6 6 1 = nI (m' + 3) := g2x.2.2.2.2.2.2.2.2.1
      obtain ⟨I7, h1, h2⟩ := FLC (J := J) (x := nI m + 2) (y := nI (m' + 3)) (i := m + 2) (r := m' + 3) g2x (nI_add m 2) rfl (by omega) (by omega)
      rw [u3, if_pos (show ¬ nI 1 = 0 by decide), q10', l5, pl_eq, s10, g1, s10', h1]
      have lo : ∀ j, j < m' → apn (apn (apn cc' m' 18) (m' + 1) 0) (m' + 2) 0 j = cc' j := fun j hj => by rw [apn_n _ _ (by omega), apn_n _ _ (by omega), apn_n _ _ (by omega)]
      have l18 : apn (apn (apn cc' m' 18) (m' + 1) 0) (m' + 2) 0 m' = 18 := by rw [apn_n _ _ (by omega), apn_n _ _ (by omega), apn_s]
      have hCx : k' = 0 → CODE P (fil (apn (apn (apn cc' m' 18) (m' + 1) 0) (m' + 2) 0) (m + 2) (m' + 3)) (fil (apn (apn (apn cm' m' 18) (m' + 1) 0) (m' + 2) 0) (m + 2) (m' + 3)) (m' + 3) 0 f8' g3' g4' c' := by
        intro hk
        obtain ⟨z1, z2, z4, z5⟩ := r9 hk
        exact CODE_fill (s := m) (i := m + 2) (r := m' + 3) (CODE_18 z2) (fun st hg G => (GH_end (hC z1) (by omega) (fun j hj => (lo j (by omega)).trans (z4 j hj)) st hg G).1) (fun st hg G => ⟨Nat.le_refl _, G.1.2.1, fun h => absurd h (Nat.lt_irrefl _)⟩) (Or.inl ⟨(lo m (by omega)).trans z5, rfl⟩) (by omega)
      have hfu := FU_s (D + 1) U
      have ST := hS hd f f' q2 (m' + 3) k' p' c' I7 L3' f8' f9' g2' g3' g4' g5' _ _ (by omega) (by omega) (by omega) h2 l6 (TB_mono r5 (by omega)) hCx
      rcases ST with ⟨x, R1', x1, x2, x3, x4⟩ | ⟨v, R1, R1', q5, m5, k5, p5, f85, f95, g25, g35, g45, g55, c5, cc5, cm5, x1, x2, x3, x4, x5, x6, x7, x8, x9, x10⟩
      · rw [x2, oc_some, if_neg (show ¬ ¬ nI 0 = 0 from fun x => x rfl)]
        refine Or.inl ⟨x, R1', ?_, rfl, x3, x4⟩
        refine zk_oc x1 (fun _ _ h => zk_oc (SQX ht (Or.inr rfl) h) (fun _ _ h => ?_))
        repeat (first
          | exact zk_some (by assumption)
          | (with_reducible refine z_x (by assumption) (by assumption) (by decide) ?_) ; (intro _ _ _)
          | (with_reducible refine z_em (by assumption) ?_) ; (intro _ _ _)
          | (with_reducible refine z_ep (by assumption) ?_) ; (intro _ _ _)
          | (with_reducible refine z_b (by assumption) ?_) ; (intro _ _ _)
          | (with_reducible refine z_wS (by assumption) ?_) ; (intro _ _ _)
          | (with_reducible refine z_wC (by assumption) ?_) ; (intro _ _ _)
          | (with_reducible refine z_p (by assumption) ?_) ; (intro _ _ _)
          | (with_reducible refine z_r (by assumption) ?_) ; (intro _ _ _)
          | (with_reducible refine z_en (by assumption) ?_) ; (intro _ _ _)
          | (with_reducible refine z_lv (by assumption) ?_) ; (intro _ _ _)
          | (with_reducible refine z_am (by assumption) ?_) ; (intro _ _ _)
          | (with_reducible refine z_ar (by assumption) (by assumption) ?_) ; (intro _ _ _)
          | (with_reducible refine z_va (by assumption) (by assumption) ?_) ; (intro _ _ _)
          | (with_reducible refine z_lk (by assumption) (by assumption) ?_) ; (intro _ _ _)
          | (with_reducible refine z_dc (by assumption) (by assumption) ?_) ; (intro _ _ _)
          | (with_reducible refine z_r0 (by assumption) (by omega) (by assumption) ?_) ; (intro _ _ _)
          | (with_reducible refine z_r9 (by assumption) (by omega) (by assumption) ?_) ; (intro _ _ _)
          | (with_reducible refine zk_7 (by assumption) ?_) ; (intro _ _)
          | (with_reducible refine zk_9 (by assumption) ?_) ; (intro _ _)
          | (with_reducible refine zk_8 (by assumption) ?_) ; (intro _ _)
          | (with_reducible refine zk_pl ?_)
          | (with_reducible refine zk_ite ?_ ?_) <;> (intro _)
          | (with_reducible refine z_oc ?_ ?_)
          | (intro _ _ _))
      · have hq5 : q5 ≤ n := x3.2.2.2.2.2.2.2.2.2.2.2.2.1
        obtain ⟨y3, y4⟩ := FRM h2 x3 x1
        have t10 : R1' 112 10 = nI m5 := x4.2.2.2.2.2.2.2.2.1
        obtain ⟨L4', l7, l8⟩ := FLM (J := J') (x := nI (m' + 1)) (y := nI m5) (i := m' + 1) (r := m5) x4 rfl rfl (by omega) (by omega)
        have p15 : L4' 112 15 = nI (D + 1) := l8.2.2.2.1
        have b0 := DM l8 (x := D) (y := L4' 112 15 - 1) (by omega) (by rw [p15]; exact nI_sb (a := D + 1) (b := 1) (by omega))
        have p79 := b0.2.2.2.2.1
        have b0 := UM b0 (x := U) (y := (va_up L4' 112 (upd (L4' 112) 15 (L4' 112 15 - 1))) 112 79 - 1) (by omega) (by rw [p79]; exact nI_sb (a := U + 1) (b := 1) (by omega))
        rw [x1, oc_some, x2, oc_some, if_pos (show ¬ nI 1 = 0 by decide), t10, l7, pl_eq, pl_eq]
        generalize (va_up (va_up L4' 112 (upd (L4' 112) 15 (L4' 112 15 - 1))) 112 (upd (va_up L4' 112 (upd (L4' 112) 15 (L4' 112 15 - 1)) 112) 79 (va_up L4' 112 (upd (L4' 112) 15 (L4' 112 15 - 1)) 112 79 - 1))) = L5' at b0 ⊢
        obtain ⟨K4, K4', w', w1, w2, w3⟩ := WNT (J := J) (J' := J') ht (x := 93) (ch := 93) rfl (by omega) (by omega) x3 b0
        unfold mEnd
        rw [w1, w2]
        rcases w3 with ⟨w3, x, w4, w5, w6⟩ | ⟨w3, q6, w4, w5, w6, w7⟩
        · rw [w3, if_pos (show nI 0 = 0 ∨ nI 0 = 1 from Or.inl rfl)]
          refine Or.inl ⟨x, K4', ?_, rfl, w5, w6⟩
          repeat (first
            | exact zk_some (by assumption)
            | (with_reducible refine z_x (by assumption) (by assumption) (by decide) ?_) ; (intro _ _ _)
            | (with_reducible refine z_em (by assumption) ?_) ; (intro _ _ _)
            | (with_reducible refine z_ep (by assumption) ?_) ; (intro _ _ _)
            | (with_reducible refine z_b (by assumption) ?_) ; (intro _ _ _)
            | (with_reducible refine z_wS (by assumption) ?_) ; (intro _ _ _)
            | (with_reducible refine z_wC (by assumption) ?_) ; (intro _ _ _)
            | (with_reducible refine z_p (by assumption) ?_) ; (intro _ _ _)
            | (with_reducible refine z_r (by assumption) ?_) ; (intro _ _ _)
            | (with_reducible refine z_en (by assumption) ?_) ; (intro _ _ _)
            | (with_reducible refine z_lv (by assumption) ?_) ; (intro _ _ _)
            | (with_reducible refine z_am (by assumption) ?_) ; (intro _ _ _)
            | (with_reducible refine z_ar (by assumption) (by assumption) ?_) ; (intro _ _ _)
            | (with_reducible refine z_va (by assumption) (by assumption) ?_) ; (intro _ _ _)
            | (with_reducible refine z_lk (by assumption) (by assumption) ?_) ; (intro _ _ _)
            | (with_reducible refine z_dc (by assumption) (by assumption) ?_) ; (intro _ _ _)
            | (with_reducible refine z_r0 (by assumption) (by omega) (by assumption) ?_) ; (intro _ _ _)
            | (with_reducible refine z_r9 (by assumption) (by omega) (by assumption) ?_) ; (intro _ _ _)
            | (with_reducible refine zk_7 (by assumption) ?_) ; (intro _ _)
            | (with_reducible refine zk_9 (by assumption) ?_) ; (intro _ _)
            | (with_reducible refine zk_8 (by assumption) ?_) ; (intro _ _)
            | (with_reducible refine zk_pl ?_)
            | (with_reducible refine zk_ite ?_ ?_) <;> (intro _)
            | (with_reducible refine z_oc ?_ ?_)
            | (intro _ _ _))
        · have hq6 : q6 ≤ n := w5.2.2.2.2.2.2.2.2.2.2.2.2.1
          rw [w3, if_pos (show nI 1 = 0 ∨ nI 1 = 1 from Or.inr rfl)]
          have p7 : K4 3 7 = nI (U + 1) := w5.2.2.2.2.1
          have v0 := UC w5 (x := U) (y := K4 3 7 - 1) (by omega) (by rw [p7]; exact nI_sb (a := U + 1) (b := 1) (by omega))
          obtain ⟨K5, j1, j2⟩ := LvC (J := J) v0 (by omega)
          have v10 : K5 6 1 = nI m5 := j2.2.2.2.2.2.2.2.2.1
          obtain ⟨K6, j3, j4⟩ := FLC (J := J) (x := nI m' + 1) (y := nI m5) (i := m' + 1) (r := m5) j2 (nI_add m' 1) rfl (by omega) (by omega)
          refine Or.inr ⟨(), K6, K4', q6, m5, k5, p5, f85, f95, g25, g35, g45, g55, c5, _, _, ?_, rfl, j4, w6, TB_mono x5 (by omega), by omega, by omega, fun hk => ?_⟩
          · rw [pl_eq, j1, v10, j3]
          · obtain ⟨i1, i2⟩ := x9 hk
            obtain ⟨z1, z2, z4, z5⟩ := r9 i1
            have bb := CODE_b (hCx i1)
            have bc := CODE_b i2
            have eq : ∀ j, j < m' + 3 → cc5 j = fil (apn (apn (apn cc' m' 18) (m' + 1) 0) (m' + 2) 0) (m + 2) (m' + 3) j := fun j hj => (nI_eq (by have := bc j (by omega); omega) (by have := bb j (by omega); omega)).mp (y4 j hj)
            refine ⟨z1, CODE_fill (s := m') (i := m' + 1) (r := m5) i2 (fun st hg G => ?_) (fun st hg G => ⟨Nat.le_refl _, G.1.2.1, fun h => absurd h (Nat.lt_irrefl _)⟩) (Or.inr ⟨?_, rfl⟩) (by omega)⟩
            · obtain ⟨st0, hg0, A⟩ := CODE_gh (CODE_18 z2)
              have sA := (GH_end z2 (show m' < m' + 3 by omega) lo st0 hg0 A).1
              have sB := (GH_end (hC z1) (show m < m' + 3 by omega) (fun j hj => (lo j (by omega)).trans (z4 j hj)) st0 hg0 A).1
              have c9 := (A.2 m sB).2.2.2.2.2.2.2.2.1
              rw [lo m (by omega), z5, show opl 17 = 4 from rfl] at c9
              refine (GH_u2 A G (by omega) (fun j hj => ?_) m' (Or.inl sA)).2 (by omega)
              have hjm := CODE_st (P := P) (cc := cc) (hg := hg0) A.1.2.2.2.2.1 hj
              rw [eq j hjm, fil_n]
              · intro q
                rw [q, c9 (m + 2) (by omega) (by omega)] at hj
                cases hj
              · intro q
                rw [q, c9 (m + 2 + 1) (by omega) (by omega)] at hj
                cases hj
            · rw [eq m' (by omega), fil_n _ (by omega) (by omega)]
              exact l18
end CM
