/-! the class Row: whole words, copies -/
section ROW2
variable {L : Nat} {xs : Nat → Int32} {d : Nat} {S : Nat → va_E} {n kc ks : Nat} {I : Nat → Nat → Int32} {J : Nat → Nat → Int64} {P : am_R → am_H → Prop}
variable {r b m : Nat}
theorem rowAdd_size {I : Nat → Nat → Int32} {r b m : Nat} {v : Int32} (hrb : r ≠ b) : rowAdd I r b m v r 1 = if nI m ≤ I r 1 then I r 1 else I r 1 + 1 := by
  unfold rowAdd
  split
  · rfl
  · rw [va_up_self]; simp [upd]
/-- the size of a row: no more than its room -/
def rowOk (I : Nat → Nat → Int32) (r m : Nat) : Prop := ∃ z : Nat, z ≤ m ∧ I r 1 = nI z
theorem rowOk.nn {I : Nat → Nat → Int32} {r m : Nat} (h : rowOk I r m) (hm : m < 2 ^ 30) : ¬ I r 1 < 0 := by
  obtain ⟨z, h1, h2⟩ := h
  rw [h2]
  exact nI_pos (by omega)
theorem rowOk.add {I : Nat → Nat → Int32} {r b m : Nat} {v : Int32} (h : rowOk I r m) (hm : m < 2 ^ 30) (hrb : r ≠ b) : rowOk (rowAdd I r b m v) r m := by
  obtain ⟨z, h1, h2⟩ := h
  unfold rowOk
  rw [rowAdd_size hrb, h2]
  by_cases q : nI m ≤ nI z
  · exact ⟨z, h1, if_pos q⟩
  · have : z < m := by
      rcases Nat.lt_or_ge z m with e | e
      · exact e
      · exact absurd (nI_le e (by omega)) q
    exact ⟨z + 1, this, by rw [if_neg q]; exact nI_1 z⟩
theorem E_Row_addWord_w (hR : isRow S n r b m) {w : Int64} : ∀ (k : Nat) {I : Nat → Nat → Int32}, k ≤ 8 → rowOk I r m → (∀ I', I' = rowWord I r b m w k → P (.inl (some (.int 1))) (hH S n kc ks I' J)) → am_E (gG L xs) (d + 1) m_Row_addWord (77, [(6, .int (nI k - 1)), (0, .ref r), (1, .long w)], []) (hH S n kc ks I J) P := by
  obtain ⟨hn, hS, hnb, hb0, hSb, hm⟩ := id hR
  have hrb : r ≠ b := r_ne hS hSb
  intro k
  induction k with
  | zero =>
    intro I hk hz K
    refine e_k 2 (f' := (if (nI 0 - 1) < 0 then 100 else 82, [(6, .int (nI 0 - 1)), (0, .ref r), (1, .long w)], [])) rfl ?_
    refine e_if (fun c1 => ?_) (fun c1 => absurd (by decide) c1)
    refine e_k 1 (f' := (101, [(6, .int (nI 0 - 1)), (0, .ref r), (1, .long w)], [.int 1])) rfl ?_
    exact e_r rfl rfl (K _ rfl)
  | succ k ih =>
    intro I hk hz K
    have hk0 : ¬ nI (k + 1) - 1 < 0 := by rw [nI_pred]; exact nI_pos (by omega)
    refine e_k 2 (f' := (if (nI (k + 1) - 1) < 0 then 100 else 82, [(6, .int (nI (k + 1) - 1)), (0, .ref r), (1, .long w)], [])) rfl ?_
    refine e_if (fun c1 => absurd c1 hk0) (fun c1 => ?_)
    refine e_k 7 (f' := (91, [(6, .int (nI (k + 1) - 1)), (0, .ref r), (1, .long w)], [.int (Int64.toInt32 ((Int64.toUInt64 w >>> (Int64.toUInt64 (Int32.toInt64 (8 * (nI (k + 1) - 1))) &&& Int64.toUInt64 63)).toInt64)), .ref r])) rfl ?_
    refine r_cv (z := m_Row_add) (As := [.int (Int64.toInt32 ((Int64.toUInt64 w >>> (Int64.toUInt64 (Int32.toInt64 (8 * (nI (k + 1) - 1))) &&& Int64.toUInt64 63)).toInt64))]) (rest := []) rfl rfl rfl rfl rfl hn hS rfl (E_Row_add hR (hz.nn hm) (fun I6 e6 => ⟨_, rfl, ?_⟩))
    refine e_k 2 (f' := (77, [(6, .int ((nI (k + 1) - 1) + (-1))), (0, .ref r), (1, .long w)], [])) rfl ?_
    refine e_sub (ls := [(6, .int ((nI (k + 1) - 1) + (-1))), (0, .ref r), (1, .long w)]) rfl ⟨rfl, rfl, rfl, trivial⟩ ?_
    rw [show nI (k + 1) - 1 + -1 = nI k - 1 from by rw [nI_pred, Int32.sub_eq_add_neg]]
    exact ih (by omega) (by rw [e6]; exact hz.add hm hrb) (fun I2 hI2 => K I2 (by rw [hI2, e6]; simp only [rowWord, wordByte, nI_pred]))
theorem E_Row_addWord_t (hR : isRow S n r b m) {w : Int64} {q lo hi : Int32} : ∀ (f k : Nat), k + f ≤ 8 → q = nI (k + f) → (wordOk w lo hi f k = false → P (.inl (some (.int 0))) (hH S n kc ks I J)) → (wordOk w lo hi f k = true → am_E (gG L xs) (d + 1) m_Row_addWord (72, [(0, .ref r), (1, .long w), (3, .int q)], []) (hH S n kc ks I J) P) → am_E (gG L xs) (d + 1) m_Row_addWord (30, [(6, .int (nI k)), (0, .ref r), (1, .long w), (3, .int q), (4, .int lo), (5, .int hi)], []) (hH S n kc ks I J) P := by
  obtain ⟨hn, hS, hnb, hb0, hSb, hm⟩ := id hR
  intro f
  induction f with
  | zero =>
    intro k hk hq K1 K2
    refine e_k 3 (f' := (if q ≤ (nI k) then 72 else 36, [(6, .int (nI k)), (0, .ref r), (1, .long w), (3, .int q), (4, .int lo), (5, .int hi)], [])) rfl ?_
    refine e_if (fun c1 => ?_) (fun c1 => absurd (by rw [hq]; exact nI_le (Nat.le_refl _) (by omega)) c1)
    refine e_sub (ls := [(0, .ref r), (1, .long w), (3, .int q)]) rfl ⟨rfl, rfl, rfl, trivial⟩ ?_
    exact K2 rfl
  | succ f ih =>
    intro k hk hq K1 K2
    refine e_k 3 (f' := (if q ≤ (nI k) then 72 else 36, [(6, .int (nI k)), (0, .ref r), (1, .long w), (3, .int q), (4, .int lo), (5, .int hi)], [])) rfl ?_
    refine e_if (fun c1 => absurd c1 (by rw [hq]; exact nI_ge (by omega) (by omega))) (fun c1 => ?_)
    refine e_k 12 (f' := (if ((Int64.toInt32 ((Int64.toUInt64 w >>> (Int64.toUInt64 (Int32.toInt64 (8 * (nI k))) &&& Int64.toUInt64 63)).toInt64)) &&& 255) < lo then 64 else 57, [(7, .int ((Int64.toInt32 ((Int64.toUInt64 w >>> (Int64.toUInt64 (Int32.toInt64 (8 * (nI k))) &&& Int64.toUInt64 63)).toInt64)) &&& 255)), (6, .int (nI k)), (0, .ref r), (1, .long w), (3, .int q), (4, .int lo), (5, .int hi)], [])) rfl ?_
    refine e_if (fun c2 => ?_) (fun c2 => ?_)
    · refine e_k 1 (f' := (65, [(7, .int ((Int64.toInt32 ((Int64.toUInt64 w >>> (Int64.toUInt64 (Int32.toInt64 (8 * (nI k))) &&& Int64.toUInt64 63)).toInt64)) &&& 255)), (6, .int (nI k)), (0, .ref r), (1, .long w), (3, .int q), (4, .int lo), (5, .int hi)], [.int 0])) rfl ?_
      exact e_r rfl rfl (K1 (by unfold wordOk; exact if_pos (show wordByte w (nI k) &&& 255 < lo from c2)))
    · refine e_k 3 (f' := (if ((Int64.toInt32 ((Int64.toUInt64 w >>> (Int64.toUInt64 (Int32.toInt64 (8 * (nI k))) &&& Int64.toUInt64 63)).toInt64)) &&& 255) ≤ hi then 66 else 64, [(7, .int ((Int64.toInt32 ((Int64.toUInt64 w >>> (Int64.toUInt64 (Int32.toInt64 (8 * (nI k))) &&& Int64.toUInt64 63)).toInt64)) &&& 255)), (6, .int (nI k)), (0, .ref r), (1, .long w), (3, .int q), (4, .int lo), (5, .int hi)], [])) rfl ?_
      refine e_if (fun c3 => ?_) (fun c3 => ?_)
      · refine e_k 2 (f' := (30, [(6, .int ((nI k) + 1)), (7, .int ((Int64.toInt32 ((Int64.toUInt64 w >>> (Int64.toUInt64 (Int32.toInt64 (8 * (nI k))) &&& Int64.toUInt64 63)).toInt64)) &&& 255)), (0, .ref r), (1, .long w), (3, .int q), (4, .int lo), (5, .int hi)], [])) rfl ?_
        refine e_sub (ls := [(6, .int ((nI k) + 1)), (0, .ref r), (1, .long w), (3, .int q), (4, .int lo), (5, .int hi)]) rfl ⟨rfl, rfl, rfl, rfl, rfl, rfl, trivial⟩ ?_
        rw [nI_1]
        exact ih (k + 1) (by omega) (by rw [hq]; congr 1; omega) (fun hf => K1 (by unfold wordOk; rw [if_neg (show ¬ wordByte w (nI k) &&& 255 < lo from c2), if_neg (show ¬ hi < wordByte w (nI k) &&& 255 from Int32.not_lt.mpr c3)]; exact hf)) (fun ht => K2 (by unfold wordOk; rw [if_neg (show ¬ wordByte w (nI k) &&& 255 < lo from c2), if_neg (show ¬ hi < wordByte w (nI k) &&& 255 from Int32.not_lt.mpr c3)]; exact ht))
      · refine e_k 1 (f' := (65, [(7, .int ((Int64.toInt32 ((Int64.toUInt64 w >>> (Int64.toUInt64 (Int32.toInt64 (8 * (nI k))) &&& Int64.toUInt64 63)).toInt64)) &&& 255)), (6, .int (nI k)), (0, .ref r), (1, .long w), (3, .int q), (4, .int lo), (5, .int hi)], [.int 0])) rfl ?_
        exact e_r rfl rfl (K1 (by unfold wordOk; rw [if_neg (show ¬ wordByte w (nI k) &&& 255 < lo from c2)]; exact if_pos (show hi < wordByte w (nI k) &&& 255 from Int32.not_le.mp c3)))
/-- addWord: does it take the word? -/
def rowPut (I : Nat → Nat → Int32) (r m : Nat) (w : Int64) (q lo hi : Int32) : Bool := !(decide (q < 1) || decide (8 < q) || decide (nI m < I r 1 + q)) && wordOk w lo hi q.toNatClampNeg 0
theorem E_Row_addWord (hR : isRow S n r b m) {w : Int64} {q lo hi : Int32} (hz : rowOk I r m) (K0 : rowPut I r m w q lo hi = false → P (.inl (some (.int 0))) (hH S n kc ks I J)) (K1 : rowPut I r m w q lo hi = true → ∀ I', I' = rowWord I r b m w q.toNatClampNeg → P (.inl (some (.int 1))) (hH S n kc ks I' J)) : am_E (gG L xs) (d + 1) m_Row_addWord (0, lv_args 0 [.ref r, .long w, .int q, .int lo, .int hi], []) (hH S n kc ks I J) P := by
  obtain ⟨hn, hS, hnb, hb0, hSb, hm⟩ := id hR
  refine e_k 3 (f' := (if q < 1 then 25 else 5, [(0, .ref r), (1, .long w), (3, .int q), (4, .int lo), (5, .int hi)], [])) rfl ?_
  refine e_if (fun c1 => ?_) (fun c1 => ?_)
  · refine e_k 1 (f' := (26, [(0, .ref r), (1, .long w), (3, .int q), (4, .int lo), (5, .int hi)], [.int 0])) rfl ?_
    exact e_r rfl rfl (K0 (by simp [rowPut, c1]))
  · refine e_k 3 (f' := (if 8 < q then 25 else 11, [(0, .ref r), (1, .long w), (3, .int q), (4, .int lo), (5, .int hi)], [])) rfl ?_
    refine e_if (fun c2 => ?_) (fun c2 => ?_)
    · refine e_k 1 (f' := (26, [(0, .ref r), (1, .long w), (3, .int q), (4, .int lo), (5, .int hi)], [.int 0])) rfl ?_
      exact e_r rfl rfl (K0 (by simp [rowPut, c1, c2]))
    · refine e_k 1 (f' := (12, [(0, .ref r), (1, .long w), (3, .int q), (4, .int lo), (5, .int hi)], [.ref r])) rfl ?_
      refine r_geti rfl hn hS rfl ?_
      refine e_k 3 (f' := (18, [(0, .ref r), (1, .long w), (3, .int q), (4, .int lo), (5, .int hi)], [.ref r, .int ((I r 1) + q)])) rfl ?_
      refine r_getr rfl hn hS rfl ?_
      refine r_alen rfl hb0 hnb hSb rfl ?_
      refine e_k 1 (f' := (if ((I r 1) + q) ≤ (nI m) then 27 else 25, [(0, .ref r), (1, .long w), (3, .int q), (4, .int lo), (5, .int hi)], [])) rfl ?_
      refine e_if (fun c3 => ?_) (fun c3 => ?_)
      · refine e_k 2 (f' := (30, [(6, .int 0), (0, .ref r), (1, .long w), (3, .int q), (4, .int lo), (5, .int hi)], [])) rfl ?_
        obtain ⟨t, ht, rfl⟩ : ∃ t : Nat, t ≤ 8 ∧ q = nI t := by
          rcases pk_ix q (show 9 < 2 ^ 31 by decide) with e | e | ⟨t, e1, e2⟩
          · exact absurd (show q < 1 from Int32.lt_trans e (by decide)) c1
          · exact absurd (Int32.lt_of_lt_of_le (show (8 : Int32) < nI 9 by decide) e) c2
          · exact ⟨t, by omega, e2⟩
        have et : (nI t).toNatClampNeg = t := nI_clamp (by omega)
        have c4 := Int32.not_lt.mpr c3
        refine E_Row_addWord_t hR t 0 (by omega) (by rw [Nat.zero_add]) (fun hf => K0 (by simp only [rowPut, et, hf, Bool.and_false])) (fun hw => ?_)
        refine e_k 4 (f' := (77, [(6, .int (nI t - 1)), (0, .ref r), (1, .long w), (3, .int (nI t))], [])) rfl ?_
        refine e_sub (ls := [(6, .int (nI t - 1)), (0, .ref r), (1, .long w)]) rfl ⟨rfl, rfl, rfl, trivial⟩ ?_
        refine E_Row_addWord_w hR t ht hz (fun I' hI => K1 (by simp [rowPut, et, hw, c1, c2, c4]) I' (by rw [et]; exact hI))
      · refine e_k 1 (f' := (26, [(0, .ref r), (1, .long w), (3, .int q), (4, .int lo), (5, .int hi)], [.int 0])) rfl ?_
        exact e_r rfl rfl (K0 (by simp [rowPut, c1, c2, Int32.not_le.mp c3]))
end ROW2
