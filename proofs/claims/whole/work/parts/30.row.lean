/-! the class Row -/
theorem r_in {i : Int32} {m : Nat} (h0 : ¬ i < 0) (h1 : ¬ nI m ≤ i) (hm : m < 2 ^ 30) : vp_in i m := by
  rcases pk_ix i (show m < 2 ^ 31 by omega) with q | q | ⟨j, hj, rfl⟩
  · exact absurd q h0
  · exact absurd q h1
  · exact vp_in_nI hj (by omega)
section ROW
variable {L : Nat} {xs : Nat → Int32} {d : Nat} {S : Nat → va_E} {n kc ks : Nat} {I : Nat → Nat → Int32} {J : Nat → Nat → Int64} {P : am_R → am_H → Prop}
variable {r b m : Nat}
theorem E_Row_at (hR : isRow S n r b m) {i : Int32} (K : ∀ v, v = Row_at I r b m i → P (.inl (some (.int v))) (hH S n kc ks I J)) : am_E (gG L xs) d m_Row_at (0, lv_args 0 [.ref r, .int i], []) (hH S n kc ks I J) P := by
  obtain ⟨hn, hS, hnb, hb0, hSb, hm⟩ := id hR
  refine e_k 2 (f' := (if i < 0 then 30 else 4, [(0, .ref r), (1, .int i)], [])) rfl ?_
  refine e_if (fun c1 => ?_) (fun c1 => ?_)
  · refine e_k 1 (f' := (31, [(0, .ref r), (1, .int i)], [.int (-1)])) rfl ?_
    exact e_r rfl rfl (K _ (by simp [Row_at, c1]))
  · refine e_k 2 (f' := (6, [(0, .ref r), (1, .int i)], [.ref r, .int i])) rfl ?_
    refine r_geti rfl hn hS rfl ?_
    refine e_k 1 (f' := (if (I r 1) ≤ i then 30 else 12, [(0, .ref r), (1, .int i)], [])) rfl ?_
    refine e_if (fun c2 => ?_) (fun c2 => ?_)
    · refine e_k 1 (f' := (31, [(0, .ref r), (1, .int i)], [.int (-1)])) rfl ?_
      exact e_r rfl rfl (K _ (by simp [Row_at, c1, c2]))
    · refine e_k 2 (f' := (14, [(0, .ref r), (1, .int i)], [.ref r, .int i])) rfl ?_
      refine r_getr rfl hn hS rfl ?_
      refine r_alen rfl hb0 hnb hSb rfl ?_
      refine e_k 1 (f' := (if (nI m) ≤ i then 30 else 21, [(0, .ref r), (1, .int i)], [])) rfl ?_
      refine e_if (fun c3 => ?_) (fun c3 => ?_)
      · refine e_k 1 (f' := (31, [(0, .ref r), (1, .int i)], [.int (-1)])) rfl ?_
        exact e_r rfl rfl (K _ (by simp [Row_at, c1, c2, c3]))
      · refine e_k 1 (f' := (22, [(0, .ref r), (1, .int i)], [.ref r])) rfl ?_
        refine r_getr rfl hn hS rfl ?_
        refine e_k 1 (f' := (26, [(0, .ref r), (1, .int i)], [.int i, .ref b])) rfl ?_
        refine r_iald rfl hb0 hnb hSb (r_in c1 c3 hm) ?_
        refine e_k 1 (f' := (31, [(0, .ref r), (1, .int i)], [.int (I b (Int32.toNatClampNeg i))])) rfl ?_
        exact e_r rfl rfl (K _ (by simp [Row_at, c1, c2, c3]))
def rowAdd (I : Nat → Nat → Int32) (r b m : Nat) (v : Int32) : Nat → Nat → Int32 := if nI m ≤ I r 1 then I else va_up (va_up I b (upd (I b) (I r 1).toNatClampNeg (v &&& 255))) r (upd (I r) 1 (I r 1 + 1))
theorem E_Row_add (hR : isRow S n r b m) {v : Int32} (hz : ¬ I r 1 < 0) (K : ∀ I', I' = rowAdd I r b m v → P (.inl none) (hH S n kc ks I' J)) : am_E (gG L xs) d m_Row_add (0, lv_args 0 [.ref r, .int v], []) (hH S n kc ks I J) P := by
  obtain ⟨hn, hS, hnb, hb0, hSb, hm⟩ := id hR
  have hrb : r ≠ b := r_ne hS hSb
  refine e_k 1 (f' := (1, [(0, .ref r), (1, .int v)], [.ref r])) rfl ?_
  refine r_geti rfl hn hS rfl ?_
  refine e_k 1 (f' := (5, [(0, .ref r), (1, .int v)], [.ref r, .int (I r 1)])) rfl ?_
  refine r_getr rfl hn hS rfl ?_
  refine r_alen rfl hb0 hnb hSb rfl ?_
  refine e_k 1 (f' := (if (nI m) ≤ (I r 1) then 36 else 12, [(0, .ref r), (1, .int v)], [])) rfl ?_
  refine e_if (fun c1 => ?_) (fun c1 => ?_)
  · exact e_r rfl rfl (K _ (by simp [rowAdd, c1, va_up_ne _ _ hrb]))
  · refine e_k 1 (f' := (13, [(0, .ref r), (1, .int v)], [.ref r])) rfl ?_
    refine r_getr rfl hn hS rfl ?_
    refine e_k 1 (f' := (17, [(0, .ref r), (1, .int v)], [.ref r, .ref b])) rfl ?_
    refine r_geti rfl hn hS rfl ?_
    refine e_k 3 (f' := (25, [(0, .ref r), (1, .int v)], [.int (v &&& 255), .int (I r 1), .ref b])) rfl ?_
    refine r_iast rfl hnb hSb (r_in hz c1 hm) ?_
    refine e_k 2 (f' := (28, [(0, .ref r), (1, .int v)], [.ref r, .ref r])) rfl ?_
    refine r_geti rfl hn hS rfl ?_
    refine e_k 2 (f' := (33, [(0, .ref r), (1, .int v)], [.int (((va_up I b (upd (I b) (Int32.toNatClampNeg (I r 1)) (v &&& 255))) r 1) + 1), .ref r])) rfl ?_
    refine r_puti rfl hn hS rfl ?_
    exact e_r rfl rfl (K _ (by simp [rowAdd, c1, va_up_ne _ _ hrb]))
def rowChange (I : Nat → Nat → Int32) (r b m : Nat) (i v : Int32) : Nat → Nat → Int32 := if i < 0 then I else if I r 1 ≤ i then I else if nI m ≤ i then I else va_up I b (upd (I b) i.toNatClampNeg (v &&& 255))
theorem E_Row_change (hR : isRow S n r b m) {i v : Int32} (K : ∀ I', I' = rowChange I r b m i v → P (.inl none) (hH S n kc ks I' J)) : am_E (gG L xs) d m_Row_change (0, lv_args 0 [.ref r, .int i, .int v], []) (hH S n kc ks I J) P := by
  obtain ⟨hn, hS, hnb, hb0, hSb, hm⟩ := id hR
  refine e_k 2 (f' := (if i < 0 then 32 else 4, [(0, .ref r), (1, .int i), (2, .int v)], [])) rfl ?_
  refine e_if (fun c1 => ?_) (fun c1 => ?_)
  · exact e_r rfl rfl (K _ (by simp [rowChange, c1]))
  · refine e_k 2 (f' := (6, [(0, .ref r), (1, .int i), (2, .int v)], [.ref r, .int i])) rfl ?_
    refine r_geti rfl hn hS rfl ?_
    refine e_k 1 (f' := (if (I r 1) ≤ i then 32 else 12, [(0, .ref r), (1, .int i), (2, .int v)], [])) rfl ?_
    refine e_if (fun c2 => ?_) (fun c2 => ?_)
    · exact e_r rfl rfl (K _ (by simp [rowChange, c1, c2]))
    · refine e_k 2 (f' := (14, [(0, .ref r), (1, .int i), (2, .int v)], [.ref r, .int i])) rfl ?_
      refine r_getr rfl hn hS rfl ?_
      refine r_alen rfl hb0 hnb hSb rfl ?_
      refine e_k 1 (f' := (if (nI m) ≤ i then 32 else 21, [(0, .ref r), (1, .int i), (2, .int v)], [])) rfl ?_
      refine e_if (fun c3 => ?_) (fun c3 => ?_)
      · exact e_r rfl rfl (K _ (by simp [rowChange, c1, c2, c3]))
      · refine e_k 1 (f' := (22, [(0, .ref r), (1, .int i), (2, .int v)], [.ref r])) rfl ?_
        refine r_getr rfl hn hS rfl ?_
        refine e_k 4 (f' := (31, [(0, .ref r), (1, .int i), (2, .int v)], [.int (v &&& 255), .int i, .ref b])) rfl ?_
        refine r_iast rfl hnb hSb (r_in c1 c3 hm) ?_
        exact e_r rfl rfl (K _ (by simp [rowChange, c1, c2, c3]))
theorem E_Row_wipe (hR : isRow S n r b m) (K : P (.inl none) (hH S n kc ks (va_up I r (upd (I r) 1 0)) J)) : am_E (gG L xs) d m_Row_wipe (0, lv_args 0 [.ref r], []) (hH S n kc ks I J) P := by
  obtain ⟨hn, hS, hnb, hb0, hSb, hm⟩ := id hR
  refine e_k 2 (f' := (2, [(0, .ref r)], [.int 0, .ref r])) rfl ?_
  refine r_puti rfl hn hS rfl ?_
  exact e_r rfl rfl K
theorem E_Row_target (hR : isRow S n r b m) {i : Int32} (K : ∀ v, v = 256 * Row_at I r b m i + Row_at I r b m (i + 1) → P (.inl (some (.int v))) (hH S n kc ks I J)) : am_E (gG L xs) (d + 1) m_Row_target (0, lv_args 0 [.ref r, .int i], []) (hH S n kc ks I J) P := by
  obtain ⟨hn, hS, hnb, hb0, hSb, hm⟩ := id hR
  refine e_k 3 (f' := (5, [(0, .ref r), (1, .int i)], [.int i, .ref r, .int 256])) rfl ?_
  refine r_cv (z := m_Row_at) (As := [.int i]) (rest := [.int 256]) rfl rfl rfl rfl rfl hn hS rfl (E_Row_at hR (fun v1 e1 => ⟨_, rfl, ?_⟩))
  refine e_k 5 (f' := (13, [(0, .ref r), (1, .int i)], [.int (i + 1), .ref r, .int (256 * v1)])) rfl ?_
  refine r_cv (z := m_Row_at) (As := [.int (i + 1)]) (rest := [.int (256 * v1)]) rfl rfl rfl rfl rfl hn hS rfl (E_Row_at hR (fun v2 e2 => ⟨_, rfl, ?_⟩))
  refine e_k 1 (f' := (17, [(0, .ref r), (1, .int i)], [.int ((256 * v1) + v2)])) rfl ?_
  exact e_r rfl rfl (K _ (by rw [e1, e2]))
def rowAim (I : Nat → Nat → Int32) (r b m : Nat) (i t : Int32) : Nat → Nat → Int32 := rowChange (rowChange I r b m i (t.toUInt32 >>> (Int32.toUInt32 8 &&& Int32.toUInt32 31)).toInt32) r b m (i + 1) t
theorem E_Row_aim (hR : isRow S n r b m) {i t : Int32} (K : ∀ I', I' = rowAim I r b m i t → P (.inl none) (hH S n kc ks I' J)) : am_E (gG L xs) (d + 1) m_Row_aim (0, lv_args 0 [.ref r, .int i, .int t], []) (hH S n kc ks I J) P := by
  obtain ⟨hn, hS, hnb, hb0, hSb, hm⟩ := id hR
  refine e_k 5 (f' := (6, [(0, .ref r), (1, .int i), (2, .int t)], [.int ((Int32.toUInt32 t >>> (Int32.toUInt32 8 &&& Int32.toUInt32 31)).toInt32), .int i, .ref r])) rfl ?_
  refine r_cv (z := m_Row_change) (As := [.int i, .int ((Int32.toUInt32 t >>> (Int32.toUInt32 8 &&& Int32.toUInt32 31)).toInt32)]) (rest := []) rfl rfl rfl rfl rfl hn hS rfl (E_Row_change hR (fun I3 e3 => ⟨_, rfl, ?_⟩))
  refine e_k 5 (f' := (14, [(0, .ref r), (1, .int i), (2, .int t)], [.int t, .int (i + 1), .ref r])) rfl ?_
  refine r_cv (z := m_Row_change) (As := [.int (i + 1), .int t]) (rest := []) rfl rfl rfl rfl rfl hn hS rfl (E_Row_change hR (fun I4 e4 => ⟨_, rfl, ?_⟩))
  exact e_r rfl rfl (K _ (by rw [e4, e3]; rfl))
def rowLong (I : Nat → Nat → Int32) (r b m : Nat) (i : Int32) : Nat → Nat → Int64 → Int64
  | 0, _, v => v
  | f + 1, k, v => rowLong I r b m i f (k + 1) (v <<< ((Int32.toInt64 8) &&& 63) ||| Int32.toInt64 (Row_at I r b m (i + nI k) &&& 255))
theorem E_Row_longAt_loop (hR : isRow S n r b m) {i : Int32} : ∀ (f k : Nat) (v : Int64), k + f = 8 → (∀ w, w = rowLong I r b m i f k v → P (.inl (some (.long w))) (hH S n kc ks I J)) → am_E (gG L xs) (d + 1) m_Row_longAt (5, [(4, .int (nI k)), (2, .long v), (0, .ref r), (1, .int i)], []) (hH S n kc ks I J) P := by
  obtain ⟨hn, hS, hnb, hb0, hSb, hm⟩ := id hR
  intro f
  induction f with
  | zero =>
    intro k v hk K
    have hk : k = 8 := by omega
    subst hk
    refine e_k 3 (f' := (if 8 ≤ (nI 8) then 37 else 12, [(4, .int (nI 8)), (2, .long v), (0, .ref r), (1, .int i)], [])) rfl ?_
    refine e_if (fun c1 => ?_) (fun c1 => absurd (by decide) c1)
    refine e_k 1 (f' := (38, [(4, .int (nI 8)), (2, .long v), (0, .ref r), (1, .int i)], [.long v])) rfl ?_
    exact e_r rfl rfl (K _ rfl)
  | succ f ih =>
    intro k v hk K
    have hk8 : ¬ (8 : Int32) ≤ nI k := nI_ge (b := 8) (by omega) (by decide)
    refine e_k 3 (f' := (if 8 ≤ (nI k) then 37 else 12, [(4, .int (nI k)), (2, .long v), (0, .ref r), (1, .int i)], [])) rfl ?_
    refine e_if (fun c1 => absurd c1 hk8) (fun c1 => ?_)
    refine e_k 7 (f' := (21, [(4, .int (nI k)), (2, .long v), (0, .ref r), (1, .int i)], [.int (i + (nI k)), .ref r, .long (v <<< ((Int32.toInt64 8) &&& 63))])) rfl ?_
    refine r_cv (z := m_Row_at) (As := [.int (i + (nI k))]) (rest := [.long (v <<< ((Int32.toInt64 8) &&& 63))]) rfl rfl rfl rfl rfl hn hS rfl (E_Row_at hR (fun v5 e5 => ⟨_, rfl, ?_⟩))
    refine e_k 7 (f' := (5, [(4, .int ((nI k) + 1)), (2, .long ((v <<< ((Int32.toInt64 8) &&& 63)) ||| (Int32.toInt64 (v5 &&& 255)))), (0, .ref r), (1, .int i)], [])) rfl ?_
    rw [nI_1]
    refine ih (k + 1) _ (by omega) (fun w hw => K w (by rw [hw, e5]; rfl))
theorem E_Row_longAt (hR : isRow S n r b m) {i : Int32} (K : ∀ w, w = rowLong I r b m i 8 0 0 → P (.inl (some (.long w))) (hH S n kc ks I J)) : am_E (gG L xs) (d + 1) m_Row_longAt (0, lv_args 0 [.ref r, .int i], []) (hH S n kc ks I J) P := by
  refine e_k 4 (f' := (5, [(4, .int 0), (2, .long 0), (0, .ref r), (1, .int i)], [])) rfl ?_
  exact E_Row_longAt_loop hR 8 0 0 rfl K
/-- the byte of a word, the lowest is 0 -/
def wordByte (w : Int64) (i : Int32) : Int32 := Int64.toInt32 (Int64.toUInt64 w >>> (Int64.toUInt64 (Int32.toInt64 (8 * i)) &&& Int64.toUInt64 63)).toInt64
def wordOk (w : Int64) (lo hi : Int32) : Nat → Nat → Bool
  | 0, _ => true
  | f + 1, k => if wordByte w (nI k) &&& 255 < lo then false else if hi < wordByte w (nI k) &&& 255 then false else wordOk w lo hi f (k + 1)
def rowWord (I : Nat → Nat → Int32) (r b m : Nat) (w : Int64) : Nat → Nat → Nat → Int32
  | 0 => I
  | k + 1 => rowWord (rowAdd I r b m (wordByte w (nI k))) r b m w k
end ROW
