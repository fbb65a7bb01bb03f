/-! the counts only grow -/
def am_le (h h' : am_H) : Prop := h.2.1 ≤ h'.2.1 ∧ h.2.2.1 ≤ h'.2.2.1 ∧ h.2.2.2 ≤ h'.2.2.2
theorem am_le.rf (h : am_H) : am_le h h := ⟨Nat.le_refl _, Nat.le_refl _, Nat.le_refl _⟩
theorem am_le.tr {a b c : am_H} (h1 : am_le a b) (h2 : am_le b c) : am_le a c := ⟨Nat.le_trans h1.1 h2.1, Nat.le_trans h1.2.1 h2.2.1, Nat.le_trans h1.2.2 h2.2.2⟩
theorem am_le.set (h : am_H) (i : Nat) (c : va_E) : am_le h (am_set h i c) := am_le.rf h
theorem am_le.new {h h' : am_H} {x : va_E} {n : Nat} (hs : am_new h x n = some h') : am_le h h' := by
  obtain ⟨-, rfl⟩ := am_new_eq hs
  exact ⟨Nat.le_succ _, Nat.le_succ _, Nat.le_add_right _ _⟩
theorem am_le.ast {a r : Nat} {h h' : am_H} {i : Int32} {v : Value} (hs : am_ast a h r i v = some h') : am_le h h' := by
  unfold am_le
  rw [am_ast_eq hs]
  exact am_le.rf h
theorem am_cd {b : Bool} {x y : am_O} {r : am_F × am_H} (h : (bif b then x else y) = some r) : x = some r ∨ y = some r := by
  cases b
  · exact Or.inr h
  · exact Or.inl h
section MONO
variable {G : am_G} {a b pc : Nat} {v : Value} {sw : List (Int32 × Nat)} {ls : List (Nat × Value)} {st : List Value} {h h' : am_H} {f' : am_F}
theorem l_load (hs : x_load a b v pc ls st h = some (f', h')) : am_le h h' := by
  unfold x_load at hs
  try simp only [Bool.cond_eq_ite] at hs
  (repeat' split at hs) <;> first | (cases hs; done) | (cases hs; exact am_le.rf _) | (cases hs; exact am_le.set _ _ _) | (cases hs; exact am_le.new (by assumption)) | (cases hs; exact am_le.ast (by assumption))
theorem l_st1 (hs : x_st1 a b v pc ls st h = some (f', h')) : am_le h h' := by
  unfold x_st1 at hs
  try simp only [Bool.cond_eq_ite] at hs
  (repeat' split at hs) <;> first | (cases hs; done) | (cases hs; exact am_le.rf _) | (cases hs; exact am_le.set _ _ _) | (cases hs; exact am_le.new (by assumption)) | (cases hs; exact am_le.ast (by assumption))
theorem l_st2 (hs : x_st2 a b v pc ls st h = some (f', h')) : am_le h h' := by
  unfold x_st2 at hs
  try simp only [Bool.cond_eq_ite] at hs
  (repeat' split at hs) <;> first | (cases hs; done) | (cases hs; exact am_le.rf _) | (cases hs; exact am_le.set _ _ _) | (cases hs; exact am_le.new (by assumption)) | (cases hs; exact am_le.ast (by assumption))
theorem l_inc (hs : x_inc a v pc ls st h = some (f', h')) : am_le h h' := by
  unfold x_inc at hs
  try simp only [Bool.cond_eq_ite] at hs
  (repeat' split at hs) <;> first | (cases hs; done) | (cases hs; exact am_le.rf _) | (cases hs; exact am_le.set _ _ _) | (cases hs; exact am_le.new (by assumption)) | (cases hs; exact am_le.ast (by assumption))
theorem l_ii (hs : x_ii a pc ls st h = some (f', h')) : am_le h h' := by
  unfold x_ii at hs
  try simp only [Bool.cond_eq_ite] at hs
  (repeat' split at hs) <;> first | (cases hs; done) | (cases hs; exact am_le.rf _) | (cases hs; exact am_le.set _ _ _) | (cases hs; exact am_le.new (by assumption)) | (cases hs; exact am_le.ast (by assumption))
theorem l_ll (hs : x_ll a pc ls st h = some (f', h')) : am_le h h' := by
  unfold x_ll at hs
  try simp only [Bool.cond_eq_ite] at hs
  (repeat' split at hs) <;> first | (cases hs; done) | (cases hs; exact am_le.rf _) | (cases hs; exact am_le.set _ _ _) | (cases hs; exact am_le.new (by assumption)) | (cases hs; exact am_le.ast (by assumption))
theorem l_ls (hs : x_ls a pc ls st h = some (f', h')) : am_le h h' := by
  unfold x_ls at hs
  try simp only [Bool.cond_eq_ite] at hs
  (repeat' split at hs) <;> first | (cases hs; done) | (cases hs; exact am_le.rf _) | (cases hs; exact am_le.set _ _ _) | (cases hs; exact am_le.new (by assumption)) | (cases hs; exact am_le.ast (by assumption))
theorem l_br (hs : x_br a b pc ls st h = some (f', h')) : am_le h h' := by
  unfold x_br at hs
  try simp only [Bool.cond_eq_ite] at hs
  (repeat' split at hs) <;> first | (cases hs; done) | (cases hs; exact am_le.rf _) | (cases hs; exact am_le.set _ _ _) | (cases hs; exact am_le.new (by assumption)) | (cases hs; exact am_le.ast (by assumption))
theorem l_bz (hs : x_bz a b pc ls st h = some (f', h')) : am_le h h' := by
  unfold x_bz at hs
  try simp only [Bool.cond_eq_ite] at hs
  (repeat' split at hs) <;> first | (cases hs; done) | (cases hs; exact am_le.rf _) | (cases hs; exact am_le.set _ _ _) | (cases hs; exact am_le.new (by assumption)) | (cases hs; exact am_le.ast (by assumption))
theorem l_sw (hs : x_sw a sw ls st h = some (f', h')) : am_le h h' := by
  unfold x_sw at hs
  try simp only [Bool.cond_eq_ite] at hs
  (repeat' split at hs) <;> first | (cases hs; done) | (cases hs; exact am_le.rf _) | (cases hs; exact am_le.set _ _ _) | (cases hs; exact am_le.new (by assumption)) | (cases hs; exact am_le.ast (by assumption))
theorem l_lcmp (hs : x_lcmp pc ls st h = some (f', h')) : am_le h h' := by
  unfold x_lcmp at hs
  try simp only [Bool.cond_eq_ite] at hs
  (repeat' split at hs) <;> first | (cases hs; done) | (cases hs; exact am_le.rf _) | (cases hs; exact am_le.set _ _ _) | (cases hs; exact am_le.new (by assumption)) | (cases hs; exact am_le.ast (by assumption))
theorem l_un (hs : x_un a pc ls st h = some (f', h')) : am_le h h' := by
  unfold x_un at hs
  try simp only [Bool.cond_eq_ite] at hs
  (repeat' split at hs) <;> first | (cases hs; done) | (cases hs; exact am_le.rf _) | (cases hs; exact am_le.set _ _ _) | (cases hs; exact am_le.new (by assumption)) | (cases hs; exact am_le.ast (by assumption))
theorem l_dup (hs : x_dup pc ls st h = some (f', h')) : am_le h h' := by
  unfold x_dup at hs
  try simp only [Bool.cond_eq_ite] at hs
  (repeat' split at hs) <;> first | (cases hs; done) | (cases hs; exact am_le.rf _) | (cases hs; exact am_le.set _ _ _) | (cases hs; exact am_le.new (by assumption)) | (cases hs; exact am_le.ast (by assumption))
theorem l_pop (hs : x_pop pc ls st h = some (f', h')) : am_le h h' := by
  unfold x_pop at hs
  try simp only [Bool.cond_eq_ite] at hs
  (repeat' split at hs) <;> first | (cases hs; done) | (cases hs; exact am_le.rf _) | (cases hs; exact am_le.set _ _ _) | (cases hs; exact am_le.new (by assumption)) | (cases hs; exact am_le.ast (by assumption))
theorem l_dupx (hs : x_dupx pc ls st h = some (f', h')) : am_le h h' := by
  unfold x_dupx at hs
  try simp only [Bool.cond_eq_ite] at hs
  (repeat' split at hs) <;> first | (cases hs; done) | (cases hs; exact am_le.rf _) | (cases hs; exact am_le.set _ _ _) | (cases hs; exact am_le.new (by assumption)) | (cases hs; exact am_le.ast (by assumption))
theorem l_dup2 (hs : x_dup2 pc ls st h = some (f', h')) : am_le h h' := by
  unfold x_dup2 at hs
  try simp only [Bool.cond_eq_ite] at hs
  (repeat' split at hs) <;> first | (cases hs; done) | (cases hs; exact am_le.rf _) | (cases hs; exact am_le.set _ _ _) | (cases hs; exact am_le.new (by assumption)) | (cases hs; exact am_le.ast (by assumption))
theorem l_get (hs : x_get a b pc ls st h = some (f', h')) : am_le h h' := by
  unfold x_get at hs
  try simp only [Bool.cond_eq_ite] at hs
  (repeat' split at hs) <;> first | (cases hs; done) | (cases hs; exact am_le.rf _) | (cases hs; exact am_le.set _ _ _) | (cases hs; exact am_le.new (by assumption)) | (cases hs; exact am_le.ast (by assumption))
theorem l_put (hs : x_put a b v pc ls st h = some (f', h')) : am_le h h' := by
  unfold x_put at hs
  try simp only [Bool.cond_eq_ite] at hs
  (repeat' split at hs) <;> first | (cases hs; done) | (cases hs; exact am_le.rf _) | (cases hs; exact am_le.set _ _ _) | (cases hs; exact am_le.new (by assumption)) | (cases hs; exact am_le.ast (by assumption))
theorem l_putz (hs : x_putz a b pc ls st h = some (f', h')) : am_le h h' := by
  unfold x_putz at hs
  try simp only [Bool.cond_eq_ite] at hs
  (repeat' split at hs) <;> first | (cases hs; done) | (cases hs; exact am_le.rf _) | (cases hs; exact am_le.set _ _ _) | (cases hs; exact am_le.new (by assumption)) | (cases hs; exact am_le.ast (by assumption))
theorem l_ald (hs : x_ald G a pc ls st h = some (f', h')) : am_le h h' := by
  unfold x_ald at hs
  try simp only [Bool.cond_eq_ite] at hs
  (repeat' split at hs) <;> first | (cases hs; done) | (cases hs; exact am_le.rf _) | (cases hs; exact am_le.set _ _ _) | (cases hs; exact am_le.new (by assumption)) | (cases hs; exact am_le.ast (by assumption))
theorem l_ast (hs : x_ast a pc ls st h = some (f', h')) : am_le h h' := by
  unfold x_ast at hs
  try simp only [Bool.cond_eq_ite] at hs
  (repeat' split at hs) <;> first | (cases hs; done) | (cases hs; exact am_le.rf _) | (cases hs; exact am_le.set _ _ _) | (cases hs; exact am_le.new (by assumption)) | (cases hs; exact am_le.ast (by assumption))
theorem l_len (hs : x_len G pc ls st h = some (f', h')) : am_le h h' := by
  unfold x_len at hs
  try simp only [Bool.cond_eq_ite] at hs
  (repeat' split at hs) <;> first | (cases hs; done) | (cases hs; exact am_le.rf _) | (cases hs; exact am_le.set _ _ _) | (cases hs; exact am_le.new (by assumption)) | (cases hs; exact am_le.ast (by assumption))
theorem l_new (hs : x_new G a pc ls st h = some (f', h')) : am_le h h' := by
  unfold x_new at hs
  try simp only [Bool.cond_eq_ite] at hs
  (repeat' split at hs) <;> first | (cases hs; done) | (cases hs; exact am_le.rf _) | (cases hs; exact am_le.set _ _ _) | (cases hs; exact am_le.new (by assumption)) | (cases hs; exact am_le.ast (by assumption))
theorem l_newa (hs : x_newa a b pc ls st h = some (f', h')) : am_le h h' := by
  unfold x_newa at hs
  try simp only [Bool.cond_eq_ite] at hs
  (repeat' split at hs) <;> first | (cases hs; done) | (cases hs; exact am_le.rf _) | (cases hs; exact am_le.set _ _ _) | (cases hs; exact am_le.new (by assumption)) | (cases hs; exact am_le.ast (by assumption))
theorem l_astq (hs : x_astq a b pc ls st h = some (f', h')) : am_le h h' := by
  unfold x_astq at hs
  try simp only [Bool.cond_eq_ite] at hs
  (repeat' split at hs) <;> first | (cases hs; done) | (cases hs; exact am_le.rf _) | (cases hs; exact am_le.set _ _ _) | (cases hs; exact am_le.new (by assumption)) | (cases hs; exact am_le.ast (by assumption))
theorem l_max (hs : x_max pc ls st h = some (f', h')) : am_le h h' := by
  unfold x_max at hs
  try simp only [Bool.cond_eq_ite] at hs
  (repeat' split at hs) <;> first | (cases hs; done) | (cases hs; exact am_le.rf _) | (cases hs; exact am_le.set _ _ _) | (cases hs; exact am_le.new (by assumption)) | (cases hs; exact am_le.ast (by assumption))
theorem l_oi (hs : x_oi pc ls st h = some (f', h')) : am_le h h' := by
  unfold x_oi at hs
  try simp only [Bool.cond_eq_ite] at hs
  (repeat' split at hs) <;> first | (cases hs; done) | (cases hs; exact am_le.rf _) | (cases hs; exact am_le.set _ _ _) | (cases hs; exact am_le.new (by assumption)) | (cases hs; exact am_le.ast (by assumption))
theorem l_copy (hs : x_copy pc ls st h = some (f', h')) : am_le h h' := by
  unfold x_copy at hs
  try simp only [Bool.cond_eq_ite] at hs
  (repeat' split at hs) <;> first | (cases hs; done) | (cases hs; exact am_le.rf _) | (cases hs; exact am_le.set _ _ _) | (cases hs; exact am_le.new (by assumption)) | (cases hs; exact am_le.ast (by assumption))
end MONO
theorem am_1_mono {G : am_G} {q : am_I} {f f' : am_F} {h h' : am_H} (hs : am_1 G q f h = some (f', h')) : am_le h h' := by
  obtain ⟨op, a, b, v, sw⟩ := q
  obtain ⟨pc, ls, st⟩ := f
  unfold am_1 at hs
  dsimp only at hs
  rcases am_cd hs with hs | hs
  · skip
    rcases am_cd hs with hs | hs
    · skip
      rcases am_cd hs with hs | hs
      · skip
        rcases am_cd hs with hs | hs
        · skip
          cases hs; exact am_le.rf _
        · skip
          exact l_load hs
      · skip
        rcases am_cd hs with hs | hs
        · skip
          exact l_st1 hs
        · skip
          rcases am_cd hs with hs | hs
          · skip
            exact l_st2 hs
          · skip
            exact l_inc hs
    · skip
      rcases am_cd hs with hs | hs
      · skip
        rcases am_cd hs with hs | hs
        · skip
          exact l_ii hs
        · skip
          exact l_ll hs
      · skip
        rcases am_cd hs with hs | hs
        · skip
          exact l_ls hs
        · skip
          rcases am_cd hs with hs | hs
          · skip
            exact l_br hs
          · skip
            exact l_bz hs
  · skip
    rcases am_cd hs with hs | hs
    · skip
      rcases am_cd hs with hs | hs
      · skip
        rcases am_cd hs with hs | hs
        · skip
          cases hs; exact am_le.rf _
        · skip
          rcases am_cd hs with hs | hs
          · skip
            exact l_sw hs
          · skip
            rcases am_cd hs with hs | hs
            · skip
              exact l_lcmp hs
            · skip
              exact l_un hs
      · skip
        rcases am_cd hs with hs | hs
        · skip
          exact l_dup hs
        · skip
          rcases am_cd hs with hs | hs
          · skip
            exact l_pop hs
          · skip
            rcases am_cd hs with hs | hs
            · skip
              exact l_dupx hs
            · skip
              rcases am_cd hs with hs | hs
              · skip
                exact l_dup2 hs
              · skip
                cases hs
    · skip
      rcases am_cd hs with hs | hs
      · skip
        rcases am_cd hs with hs | hs
        · skip
          rcases am_cd hs with hs | hs
          · skip
            exact l_get hs
          · skip
            rcases am_cd hs with hs | hs
            · skip
              exact l_put hs
            · skip
              exact l_putz hs
        · skip
          rcases am_cd hs with hs | hs
          · skip
            exact l_ald hs
          · skip
            rcases am_cd hs with hs | hs
            · skip
              exact l_ast hs
            · skip
              exact l_len hs
      · skip
        rcases am_cd hs with hs | hs
        · skip
          rcases am_cd hs with hs | hs
          · skip
            exact l_new hs
          · skip
            exact l_newa hs
        · skip
          rcases am_cd hs with hs | hs
          · skip
            exact l_astq hs
          · skip
            rcases am_cd hs with hs | hs
            · skip
              exact l_max hs
            · skip
              rcases am_cd hs with hs | hs
              · skip
                exact l_oi hs
              · skip
                rcases am_cd hs with hs | hs
                · exact l_copy hs
                · cases hs
theorem am_le_thr (h : am_H) : am_le h (am_thr h) := ⟨Nat.le_refl _, Nat.le_succ _, Nat.le_add_right _ _⟩
/-- what may be behind a call -/
theorem am_post_ok {rc : Nat → Nat → am_F → am_H → Option (am_R × am_H)} {op : Nat} {sw : List (Int32 × Nat)} {d y : Nat} {f : am_F} {rest : List Value} {z : am_R} {h1 : am_H} {r : am_R × am_H} (hh : am_post rc op sw d y f rest (some (z, h1)) = some r) :
    (∃ v, z = .inl v ∧ rc d y (f.1 + 3, f.2.1, v.toList ++ rest) h1 = some r) ∨ (∃ x k, z = .inr x ∧ op = 51 ∧ am_hand x sw.tail = some k ∧ rc d y (f.1 + 3, f.2.1, .int k :: rest) h1 = some r) ∨ ∃ x, z = .inr x ∧ op = 52 ∧ r = (.inr x, h1) := by
  cases z with
  | inl v => exact Or.inl ⟨v, rfl, hh⟩
  | inr x =>
    have hh : (bif Nat.beq op 51 then (match am_hand x sw.tail with
      | some k => rc d y (f.1 + 3, f.2.1, .int k :: rest) h1
      | none => none) else bif Nat.beq op 52 then some (.inr x, h1) else none) = some r := hh
    cases q : Nat.beq op 51 with
    | true =>
      rw [q, cond_true] at hh
      cases e : am_hand x sw.tail with
      | none => rw [e] at hh; cases hh
      | some k => rw [e] at hh; exact Or.inr (Or.inl ⟨x, k, rfl, Nat.eq_of_beq_eq_true q, e, hh⟩)
    | false =>
      rw [q, cond_false] at hh
      cases q2 : Nat.beq op 52 with
      | false => rw [q2, cond_false] at hh; cases hh
      | true => rw [q2, cond_true] at hh; exact Or.inr (Or.inr ⟨x, rfl, Nat.eq_of_beq_eq_true q2, (Option.some.inj hh).symm⟩)
theorem am_ev_mono {G : am_G} : ∀ {n d y : Nat} {f : am_F} {h : am_H} {r : am_R} {h' : am_H}, am_ev G n d y f h = some (r, h') → am_le h h' := by
  intro n
  induction n with
  | zero => intro d y f h r h' hh; cases hh
  | succ n ih =>
    intro d y f h r h' hh
    rcases am_body_turn hh with ⟨-, f1, h1, e1, e2⟩ | ⟨-, -, v, -, e⟩ | ⟨-, -, -, e⟩ | ⟨-, -, As, rest, d', z, h1, -, -, -, -, e1, e2⟩
    · exact (am_1_mono e1).tr (ih e2)
    · cases e; exact am_le.rf _
    · cases e; exact am_le_thr _
    · rcases am_post_ok e2 with ⟨v, rfl, e3⟩ | ⟨x, k, rfl, -, -, e3⟩ | ⟨x, rfl, -, e3⟩
      · exact (ih e1).tr (ih e3)
      · exact (ih e1).tr (ih e3)
      · cases e3; exact ih e1
