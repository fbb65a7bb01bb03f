/-! A FRAME MAY KNOW MORE LOCALS THAN ITS RUN NEEDS -/
/-- the keys are apart -/
def am_nd (ls : List (Nat × Value)) : Prop := ∀ q ∈ ls, am_ld q.1 ls = some q.2
def am_sub (ls ls' : List (Nat × Value)) : Prop := ∀ q ∈ ls, q ∈ ls'
def am_nk : List (Nat × Value) → Prop
  | [] => True
  | q :: r => (∀ z ∈ r, z.1 ≠ q.1) ∧ am_nk r
theorem am_nk_ld : ∀ {ls : List (Nat × Value)}, am_nk ls → ∀ q ∈ ls, am_ld q.1 ls = some q.2 := by
  intro ls
  induction ls with
  | nil => intro _ q hq; cases hq
  | cons z r ih =>
    intro h q hq
    obtain ⟨i, v⟩ := z
    unfold am_ld
    rcases List.mem_cons.mp hq with e | e
    · rw [e, show Nat.beq i i = true from Nat.beq_refl i]; rfl
    · have hne : Nat.beq i q.1 = false := by
        cases hb : Nat.beq i q.1 with
        | false => rfl
        | true => exact absurd (Nat.eq_of_beq_eq_true hb).symm (h.1 q e)
      rw [hne]
      exact ih h.2 q e
theorem am_nk_filter {p : Nat × Value → Bool} : ∀ {ls : List (Nat × Value)}, am_nk ls → am_nk (ls.filter p) := by
  intro ls
  induction ls with
  | nil => intro _; trivial
  | cons z r ih =>
    intro h
    rw [List.filter_cons]
    split
    · exact ⟨fun q hq => h.1 q (List.mem_filter.mp hq).1, ih h.2⟩
    · exact ih h.2
theorem am_nk_st1 {a : Nat} {x : Value} {ls : List (Nat × Value)} (h : am_nk ls) : am_nk (am_st1 a x ls) := by
  refine ⟨fun q hq => ?_, am_nk_filter h⟩
  have := (List.mem_filter.mp hq).2
  simp only [Bool.and_eq_true, Bool.not_eq_true', beq_eq_false_iff_ne] at this
  exact this.1
theorem am_nk_st2 {a : Nat} {x : Value} {ls : List (Nat × Value)} (h : am_nk ls) : am_nk (am_st2 a x ls) := by
  refine ⟨fun q hq => ?_, am_nk_filter h⟩
  have := (List.mem_filter.mp hq).2
  simp only [Bool.and_eq_true, Bool.not_eq_true', beq_eq_false_iff_ne] at this
  exact this.1
theorem am_sub_st1 {a : Nat} {x : Value} {ls ls' : List (Nat × Value)} (h : am_sub ls ls') : am_sub (am_st1 a x ls) (am_st1 a x ls') := by
  intro q hq
  rcases List.mem_cons.mp hq with e | e
  · rw [e]; exact List.mem_cons_self
  · exact List.mem_cons_of_mem _ (List.mem_filter.mpr ⟨h q (List.mem_filter.mp e).1, (List.mem_filter.mp e).2⟩)
theorem am_sub_st2 {a : Nat} {x : Value} {ls ls' : List (Nat × Value)} (h : am_sub ls ls') : am_sub (am_st2 a x ls) (am_st2 a x ls') := by
  intro q hq
  rcases List.mem_cons.mp hq with e | e
  · rw [e]; exact List.mem_cons_self
  · exact List.mem_cons_of_mem _ (List.mem_filter.mpr ⟨h q (List.mem_filter.mp e).1, (List.mem_filter.mp e).2⟩)
theorem am_sub_ld {a : Nat} {x : Value} {ls ls' : List (Nat × Value)} (h : am_sub ls ls') (hn : am_nk ls') (hl : am_ld a ls = some x) : am_ld a ls' = some x := am_nk_ld hn (a, x) (h _ (am_ld_mem hl))
/-- what an instruction does that leaves the locals alone -/
def am_par (F : List (Nat × Value) → am_O) : Prop := ∀ (ls ls' : List (Nat × Value)) (f1 : am_F) (h1 : am_H), F ls = some (f1, h1) → f1.2.1 = ls ∧ F ls' = some ((f1.1, ls', f1.2.2), h1)
section PAR
variable {G : am_G} {a b pc : Nat} {v : Value} {sw : List (Int32 × Nat)} {st : List Value} {h : am_H}
theorem u_ii : am_par (fun LS => x_ii a pc LS st h) := by
  intro ls ls' f1 h1 hs
  unfold x_ii at hs ⊢
  try simp only [Bool.cond_eq_ite] at hs ⊢
  (repeat' split at hs) <;> first | (cases hs; done) | (cases hs; exact ⟨rfl, by simp_all⟩)
theorem u_ll : am_par (fun LS => x_ll a pc LS st h) := by
  intro ls ls' f1 h1 hs
  unfold x_ll at hs ⊢
  try simp only [Bool.cond_eq_ite] at hs ⊢
  (repeat' split at hs) <;> first | (cases hs; done) | (cases hs; exact ⟨rfl, by simp_all⟩)
theorem u_ls : am_par (fun LS => x_ls a pc LS st h) := by
  intro ls ls' f1 h1 hs
  unfold x_ls at hs ⊢
  try simp only [Bool.cond_eq_ite] at hs ⊢
  (repeat' split at hs) <;> first | (cases hs; done) | (cases hs; exact ⟨rfl, by simp_all⟩)
theorem u_br : am_par (fun LS => x_br a b pc LS st h) := by
  intro ls ls' f1 h1 hs
  unfold x_br at hs ⊢
  try simp only [Bool.cond_eq_ite] at hs ⊢
  (repeat' split at hs) <;> first | (cases hs; done) | (cases hs; exact ⟨rfl, by simp_all⟩)
theorem u_bz : am_par (fun LS => x_bz a b pc LS st h) := by
  intro ls ls' f1 h1 hs
  unfold x_bz at hs ⊢
  try simp only [Bool.cond_eq_ite] at hs ⊢
  (repeat' split at hs) <;> first | (cases hs; done) | (cases hs; exact ⟨rfl, by simp_all⟩)
theorem u_sw : am_par (fun LS => x_sw a sw LS st h) := by
  intro ls ls' f1 h1 hs
  unfold x_sw at hs ⊢
  try simp only [Bool.cond_eq_ite] at hs ⊢
  (repeat' split at hs) <;> first | (cases hs; done) | (cases hs; exact ⟨rfl, by simp_all⟩)
theorem u_lcmp : am_par (fun LS => x_lcmp pc LS st h) := by
  intro ls ls' f1 h1 hs
  unfold x_lcmp at hs ⊢
  try simp only [Bool.cond_eq_ite] at hs ⊢
  (repeat' split at hs) <;> first | (cases hs; done) | (cases hs; exact ⟨rfl, by simp_all⟩)
theorem u_un : am_par (fun LS => x_un a pc LS st h) := by
  intro ls ls' f1 h1 hs
  unfold x_un at hs ⊢
  try simp only [Bool.cond_eq_ite] at hs ⊢
  (repeat' split at hs) <;> first | (cases hs; done) | (cases hs; exact ⟨rfl, by simp_all⟩)
theorem u_dup : am_par (fun LS => x_dup pc LS st h) := by
  intro ls ls' f1 h1 hs
  unfold x_dup at hs ⊢
  try simp only [Bool.cond_eq_ite] at hs ⊢
  (repeat' split at hs) <;> first | (cases hs; done) | (cases hs; exact ⟨rfl, by simp_all⟩)
theorem u_pop : am_par (fun LS => x_pop pc LS st h) := by
  intro ls ls' f1 h1 hs
  unfold x_pop at hs ⊢
  try simp only [Bool.cond_eq_ite] at hs ⊢
  (repeat' split at hs) <;> first | (cases hs; done) | (cases hs; exact ⟨rfl, by simp_all⟩)
theorem u_dupx : am_par (fun LS => x_dupx pc LS st h) := by
  intro ls ls' f1 h1 hs
  unfold x_dupx at hs ⊢
  try simp only [Bool.cond_eq_ite] at hs ⊢
  (repeat' split at hs) <;> first | (cases hs; done) | (cases hs; exact ⟨rfl, by simp_all⟩)
theorem u_dup2 : am_par (fun LS => x_dup2 pc LS st h) := by
  intro ls ls' f1 h1 hs
  unfold x_dup2 at hs ⊢
  try simp only [Bool.cond_eq_ite] at hs ⊢
  (repeat' split at hs) <;> first | (cases hs; done) | (cases hs; exact ⟨rfl, by simp_all⟩)
theorem u_get : am_par (fun LS => x_get a b pc LS st h) := by
  intro ls ls' f1 h1 hs
  unfold x_get at hs ⊢
  try simp only [Bool.cond_eq_ite] at hs ⊢
  (repeat' split at hs) <;> first | (cases hs; done) | (cases hs; exact ⟨rfl, by simp_all⟩)
theorem u_put : am_par (fun LS => x_put a b v pc LS st h) := by
  intro ls ls' f1 h1 hs
  unfold x_put at hs ⊢
  try simp only [Bool.cond_eq_ite] at hs ⊢
  (repeat' split at hs) <;> first | (cases hs; done) | (cases hs; exact ⟨rfl, by simp_all⟩)
theorem u_putz : am_par (fun LS => x_putz a b pc LS st h) := by
  intro ls ls' f1 h1 hs
  unfold x_putz at hs ⊢
  try simp only [Bool.cond_eq_ite] at hs ⊢
  (repeat' split at hs) <;> first | (cases hs; done) | (cases hs; exact ⟨rfl, by simp_all⟩)
theorem u_ald : am_par (fun LS => x_ald G a pc LS st h) := by
  intro ls ls' f1 h1 hs
  unfold x_ald at hs ⊢
  try simp only [Bool.cond_eq_ite] at hs ⊢
  (repeat' split at hs) <;> first | (cases hs; done) | (cases hs; exact ⟨rfl, by simp_all⟩)
theorem u_ast : am_par (fun LS => x_ast a pc LS st h) := by
  intro ls ls' f1 h1 hs
  unfold x_ast at hs ⊢
  try simp only [Bool.cond_eq_ite] at hs ⊢
  (repeat' split at hs) <;> first | (cases hs; done) | (cases hs; exact ⟨rfl, by simp_all⟩)
theorem u_len : am_par (fun LS => x_len G pc LS st h) := by
  intro ls ls' f1 h1 hs
  show f1.2.1 = ls ∧ x_len G pc ls' st h = _
  replace hs : x_len G pc ls st h = some (f1, h1) := hs
  unfold x_len at hs ⊢
  split at hs
  · rename_i r t
    cases h0 : Nat.ble am_T0 r with
    | true =>
      rw [h0, cond_true] at hs
      cases h2 : Nat.blt (r - am_T0) 6 with
      | false => rw [h2] at hs; cases hs
      | true =>
        rw [h2] at hs
        cases hs
        exact ⟨rfl, by simp only [h0, h2]; rfl⟩
    | false =>
      rw [h0, cond_false] at hs
      cases h2 : Nat.blt r h.2.1 with
      | false => rw [h2] at hs; cases hs
      | true =>
        rw [h2, cond_true] at hs
        split at hs
        · rename_i k n0 g hc
          cases h3 : Nat.ble k 3 with
          | false => rw [h3] at hs; cases hs
          | true =>
            rw [h3] at hs
            cases hs
            exact ⟨rfl, by simp only [h0, h2, hc, h3]; rfl⟩
        · cases hs
  · cases hs
theorem u_new : am_par (fun LS => x_new G a pc LS st h) := by
  intro ls ls' f1 h1 hs
  unfold x_new at hs ⊢
  try simp only [Bool.cond_eq_ite] at hs ⊢
  (repeat' split at hs) <;> first | (cases hs; done) | (cases hs; exact ⟨rfl, by simp_all⟩)
theorem u_newa : am_par (fun LS => x_newa a b pc LS st h) := by
  intro ls ls' f1 h1 hs
  unfold x_newa at hs ⊢
  try simp only [Bool.cond_eq_ite] at hs ⊢
  (repeat' split at hs) <;> first | (cases hs; done) | (cases hs; exact ⟨rfl, by simp_all⟩)
theorem u_astq : am_par (fun LS => x_astq a b pc LS st h) := by
  intro ls ls' f1 h1 hs
  unfold x_astq at hs ⊢
  try simp only [Bool.cond_eq_ite] at hs ⊢
  (repeat' split at hs) <;> first | (cases hs; done) | (cases hs; exact ⟨rfl, by simp_all⟩)
theorem u_max : am_par (fun LS => x_max pc LS st h) := by
  intro ls ls' f1 h1 hs
  show f1.2.1 = ls ∧ x_max pc ls' st h = _
  replace hs : x_max pc ls st h = some (f1, h1) := hs
  unfold x_max at hs ⊢
  split at hs
  · rename_i y x r
    cases hb : Nat.ble (am_wt r) 8 with
    | false => rw [hb] at hs; cases hs
    | true =>
      rw [hb] at hs
      cases hs
      exact ⟨rfl, by simp only [hb]; rfl⟩
  · cases hs
theorem u_oi : am_par (fun LS => x_oi pc LS st h) := by
  intro ls ls' f1 h1 hs
  unfold x_oi at hs ⊢
  try simp only [Bool.cond_eq_ite] at hs ⊢
  (repeat' split at hs) <;> first | (cases hs; done) | (cases hs; exact ⟨rfl, by simp_all⟩)
theorem u_copy : am_par (fun LS => x_copy pc LS st h) := by
  intro ls ls' f1 h1 hs
  unfold x_copy at hs ⊢
  try simp only [Bool.cond_eq_ite] at hs ⊢
  (repeat' split at hs) <;> first | (cases hs; done) | (cases hs; exact ⟨rfl, by simp_all⟩)
end PAR
theorem am_cd2 {b : Bool} {x y x' y' : am_O} {r : am_F × am_H} {Q : am_O → Prop} (h : (bif b then x else y) = some r) (k1 : x = some r → Q x') (k2 : y = some r → Q y') : Q (bif b then x' else y') := by
  cases b
  · exact k2 h
  · exact k1 h
def am_sq (f1 : am_F) (h1 : am_H) (x : am_O) : Prop := ∃ ls1', x = some ((f1.1, ls1', f1.2.2), h1) ∧ am_sub f1.2.1 ls1' ∧ am_nk ls1'
theorem am_1_sub {G : am_G} {q : am_I} {pc : Nat} {ls ls' : List (Nat × Value)} {st : List Value} {h h1 : am_H} {f1 : am_F} (hsub : am_sub ls ls') (hn : am_nk ls') (hs : am_1 G q (pc, ls, st) h = some (f1, h1)) : am_sq f1 h1 (am_1 G q (pc, ls', st) h) := by
  revert hs
  obtain ⟨op, a, b, v, sw⟩ := q
  have par : ∀ {F : List (Nat × Value) → am_O}, am_par F → F ls = some (f1, h1) → am_sq f1 h1 (F ls') := by
    intro F hF e
    obtain ⟨e1, e2⟩ := hF ls ls' f1 h1 e
    exact ⟨ls', e2, by rw [e1]; exact hsub, hn⟩
  have hload : x_load a b v pc ls st h = some (f1, h1) → am_sq f1 h1 (x_load a b v pc ls' st h) := by
    intro hs
    unfold am_sq
    unfold x_load at hs ⊢
    split at hs
    · rename_i z hz
      rw [am_sub_ld hsub hn hz]
      cases ht : am_tag v z with
      | false => rw [ht] at hs; cases hs
      | true =>
        rw [ht] at hs
        cases hs
        exact ⟨ls', by simp only [ht]; rfl, hsub, hn⟩
    · cases hs
  have hst1 : x_st1 a b v pc ls st h = some (f1, h1) → am_sq f1 h1 (x_st1 a b v pc ls' st h) := by
    intro hs
    unfold am_sq
    unfold x_st1 at hs ⊢
    split at hs
    · rename_i z r
      cases ht : am_tag v z with
      | false => rw [ht] at hs; cases hs
      | true =>
        rw [ht] at hs
        cases hs
        exact ⟨am_st1 a z ls', by simp only [ht]; rfl, am_sub_st1 hsub, am_nk_st1 hn⟩
    · cases hs
  have hst2 : x_st2 a b v pc ls st h = some (f1, h1) → am_sq f1 h1 (x_st2 a b v pc ls' st h) := by
    intro hs
    unfold am_sq
    unfold x_st2 at hs ⊢
    split at hs
    · rename_i z r
      cases ht : am_tag v z with
      | false => rw [ht] at hs; cases hs
      | true =>
        rw [ht] at hs
        cases hs
        exact ⟨am_st2 a z ls', by simp only [ht]; rfl, am_sub_st2 hsub, am_nk_st2 hn⟩
    · cases hs
  have hinc : x_inc a v pc ls st h = some (f1, h1) → am_sq f1 h1 (x_inc a v pc ls' st h) := by
    intro hs
    unfold am_sq
    unfold x_inc at hs ⊢
    split at hs
    · rename_i z w hz
      rw [am_sub_ld hsub hn hz]
      cases hs
      exact ⟨am_st1 a (.int (z + w)) ls', rfl, am_sub_st1 hsub, am_nk_st1 hn⟩
    · cases hs
  have hrf : ∀ {p0 : Nat} {s0 : List Value}, some ((p0, ls, s0), h) = some (f1, h1) → am_sq f1 h1 (some ((p0, ls', s0), h)) := by
    intro p0 s0 e
    cases e
    exact ⟨ls', rfl, hsub, hn⟩
  have hno : (none : am_O) = some (f1, h1) → am_sq f1 h1 ((none : am_O)) := fun e => by cases e
  intro hs
  unfold am_1 at hs ⊢
  dsimp only at hs ⊢
  refine am_cd2 (Q := am_sq f1 h1) hs (fun hs => ?_) (fun hs => ?_)
  · skip
    refine am_cd2 (Q := am_sq f1 h1) hs (fun hs => ?_) (fun hs => ?_)
    · skip
      refine am_cd2 (Q := am_sq f1 h1) hs (fun hs => ?_) (fun hs => ?_)
      · skip
        refine am_cd2 (Q := am_sq f1 h1) hs (fun hs => ?_) (fun hs => ?_)
        · skip
          exact hrf hs
        · skip
          exact hload hs
      · skip
        refine am_cd2 (Q := am_sq f1 h1) hs (fun hs => ?_) (fun hs => ?_)
        · skip
          exact hst1 hs
        · skip
          refine am_cd2 (Q := am_sq f1 h1) hs (fun hs => ?_) (fun hs => ?_)
          · skip
            exact hst2 hs
          · skip
            exact hinc hs
    · skip
      refine am_cd2 (Q := am_sq f1 h1) hs (fun hs => ?_) (fun hs => ?_)
      · skip
        refine am_cd2 (Q := am_sq f1 h1) hs (fun hs => ?_) (fun hs => ?_)
        · skip
          exact par u_ii hs
        · skip
          exact par u_ll hs
      · skip
        refine am_cd2 (Q := am_sq f1 h1) hs (fun hs => ?_) (fun hs => ?_)
        · skip
          exact par u_ls hs
        · skip
          refine am_cd2 (Q := am_sq f1 h1) hs (fun hs => ?_) (fun hs => ?_)
          · skip
            exact par u_br hs
          · skip
            exact par u_bz hs
  · skip
    refine am_cd2 (Q := am_sq f1 h1) hs (fun hs => ?_) (fun hs => ?_)
    · skip
      refine am_cd2 (Q := am_sq f1 h1) hs (fun hs => ?_) (fun hs => ?_)
      · skip
        refine am_cd2 (Q := am_sq f1 h1) hs (fun hs => ?_) (fun hs => ?_)
        · skip
          exact hrf hs
        · skip
          refine am_cd2 (Q := am_sq f1 h1) hs (fun hs => ?_) (fun hs => ?_)
          · skip
            exact par u_sw hs
          · skip
            refine am_cd2 (Q := am_sq f1 h1) hs (fun hs => ?_) (fun hs => ?_)
            · skip
              exact par u_lcmp hs
            · skip
              exact par u_un hs
      · skip
        refine am_cd2 (Q := am_sq f1 h1) hs (fun hs => ?_) (fun hs => ?_)
        · skip
          exact par u_dup hs
        · skip
          refine am_cd2 (Q := am_sq f1 h1) hs (fun hs => ?_) (fun hs => ?_)
          · skip
            exact par u_pop hs
          · skip
            refine am_cd2 (Q := am_sq f1 h1) hs (fun hs => ?_) (fun hs => ?_)
            · skip
              exact par u_dupx hs
            · skip
              refine am_cd2 (Q := am_sq f1 h1) hs (fun hs => ?_) (fun hs => ?_)
              · skip
                exact par u_dup2 hs
              · skip
                exact hno hs
    · skip
      refine am_cd2 (Q := am_sq f1 h1) hs (fun hs => ?_) (fun hs => ?_)
      · skip
        refine am_cd2 (Q := am_sq f1 h1) hs (fun hs => ?_) (fun hs => ?_)
        · skip
          refine am_cd2 (Q := am_sq f1 h1) hs (fun hs => ?_) (fun hs => ?_)
          · skip
            exact par u_get hs
          · skip
            refine am_cd2 (Q := am_sq f1 h1) hs (fun hs => ?_) (fun hs => ?_)
            · skip
              exact par u_put hs
            · skip
              exact par u_putz hs
        · skip
          refine am_cd2 (Q := am_sq f1 h1) hs (fun hs => ?_) (fun hs => ?_)
          · skip
            exact par u_ald hs
          · skip
            refine am_cd2 (Q := am_sq f1 h1) hs (fun hs => ?_) (fun hs => ?_)
            · skip
              exact par u_ast hs
            · skip
              exact par u_len hs
      · skip
        refine am_cd2 (Q := am_sq f1 h1) hs (fun hs => ?_) (fun hs => ?_)
        · skip
          refine am_cd2 (Q := am_sq f1 h1) hs (fun hs => ?_) (fun hs => ?_)
          · skip
            exact par u_new hs
          · skip
            exact par u_newa hs
        · skip
          refine am_cd2 (Q := am_sq f1 h1) hs (fun hs => ?_) (fun hs => ?_)
          · skip
            exact par u_astq hs
          · skip
            refine am_cd2 (Q := am_sq f1 h1) hs (fun hs => ?_) (fun hs => ?_)
            · skip
              exact par u_max hs
            · skip
              refine am_cd2 (Q := am_sq f1 h1) hs (fun hs => ?_) (fun hs => ?_)
              · skip
                exact par u_oi hs
              · skip
                refine am_cd2 (Q := am_sq f1 h1) hs (fun hs => ?_) (fun hs => ?_)
                · skip
                  exact par u_copy hs
                · skip
                  exact hno hs
theorem am_ev_sub {G : am_G} : ∀ {n d y pc : Nat} {ls ls' : List (Nat × Value)} {st : List Value} {h : am_H} {r : am_R × am_H}, am_sub ls ls' → am_nk ls' → am_ev G n d y (pc, ls, st) h = some r → am_ev G n d y (pc, ls', st) h = some r := by
  intro n
  induction n with
  | zero => intro d y pc ls ls' st h r _ _ hh; cases hh
  | succ n ih =>
    intro d y pc ls ls' st h r hsub hn hh
    refine am_turn_body ?_
    rcases am_body_turn hh with ⟨h39, f1, h1, e1, e2⟩ | ⟨n39, h44, v, e1, e2⟩ | ⟨h70, h5, e1, e2⟩ | ⟨h50, h52, As, rest, d', z, h1, rfl, e1, e2, e3, e4, e5⟩
    · obtain ⟨ls1', k1, k2, k3⟩ := am_1_sub hsub hn e1
      exact Or.inl ⟨h39, (f1.1, ls1', f1.2.2), h1, k1, ih k2 k3 e2⟩
    · exact Or.inr (Or.inl ⟨n39, h44, v, e1, e2⟩)
    · exact Or.inr (Or.inr (Or.inl ⟨h70, h5, e1, e2⟩))
    · refine Or.inr (Or.inr (Or.inr ⟨h50, h52, As, rest, d', z, h1, rfl, e1, e2, e3, e4, ?_⟩))
      cases z with
      | inl v => exact ih hsub hn e5
      | inr x =>
        have e5 : (bif Nat.beq (G.1 y pc).1 51 then (match am_hand x (G.1 y pc).2.2.2.2.tail with
          | some k => am_ev G n (d' + 1) y (pc + 3, ls, .int k :: rest) h1
          | none => none) else bif Nat.beq (G.1 y pc).1 52 then some (.inr x, h1) else none) = some r := e5
        show (bif Nat.beq (G.1 y pc).1 51 then (match am_hand x (G.1 y pc).2.2.2.2.tail with
          | some k => am_ev G n (d' + 1) y (pc + 3, ls', .int k :: rest) h1
          | none => none) else bif Nat.beq (G.1 y pc).1 52 then some (.inr x, h1) else none) = some r
        cases q : Nat.beq (G.1 y pc).1 51 with
        | false => rw [q, cond_false] at e5; exact e5
        | true =>
          rw [q, cond_true] at e5
          rw [cond_true]
          cases q2 : am_hand x (G.1 y pc).2.2.2.2.tail with
          | none => rw [q2] at e5; cases e5
          | some k => rw [q2] at e5; exact ih hsub hn e5
/-- each of these is known there -/
def am_all (ls' : List (Nat × Value)) : List (Nat × Value) → Prop
  | [] => True
  | q :: r => am_ld q.1 ls' = some q.2 ∧ am_all ls' r
theorem am_all_sub {ls' : List (Nat × Value)} : ∀ {ls : List (Nat × Value)}, am_all ls' ls → am_sub ls ls' := by
  intro ls
  induction ls with
  | nil => intro _ q hq; cases hq
  | cons z r ih =>
    intro h q hq
    rcases List.mem_cons.mp hq with e | e
    · rw [e]; exact am_ld_mem h.1
    · exact ih h.2 q e
def am_nkb : List (Nat × Value) → Bool
  | [] => true
  | q :: r => r.all (fun z => !(Nat.beq z.1 q.1)) && am_nkb r
theorem am_nkb_ok : ∀ {ls : List (Nat × Value)}, am_nkb ls = true → am_nk ls := by
  intro ls
  induction ls with
  | nil => intro _; trivial
  | cons q r ih =>
    intro h
    unfold am_nkb at h
    rw [Bool.and_eq_true] at h
    refine ⟨fun z hz e => ?_, ih h.2⟩
    have := List.all_eq_true.mp h.1 z hz
    rw [e, Nat.beq_refl] at this
    cases this
/-- fewer locals, in another order -/
theorem e_sub {G : am_G} {d y pc : Nat} {ls ls' : List (Nat × Value)} {st : List Value} {h : am_H} {P : am_R → am_H → Prop} (hn : am_nkb ls' = true) (ha : am_all ls' ls) (K : am_E G d y (pc, ls, st) h P) : am_E G d y (pc, ls', st) h P := by
  obtain ⟨n, r, h', e, q⟩ := K
  exact ⟨n, r, h', am_ev_sub (am_all_sub ha) (am_nkb_ok hn) e, q⟩
