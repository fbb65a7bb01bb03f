/-! what a party of the class does, by operation -/
section ACTC
variable {cd : Nat → Nat} {n w pos lk sg : Nat} {X : MX} {I : MI} {J : MJ}
theorem ACC0 [Decidable (shd cd pos)] (hn : n ≤ 2000) (hr : rowC I 15 16 n cd) (hp : I (18 + 21 * w) 8 = nI pos) (hop : cd pos ≤ 29) (hl : pos + opl (cd pos) ≤ n) (hpn : pos < n) (h15 : cd pos ≠ 15) (h16 : cd pos ≠ 16) (hph : I (18 + 21 * w) 9 = nI 0) (hlb : lk < 100) (hlk : ∀ {α : Type} {F : Int32 → MI → MJ → Option α}, oc (f_Hall_lackFor w (nI (cd pos)) I J) F = F (nI lk) I J) : ∃ I1, va_up I (18 + 21 * w) (upd (I (18 + 21 * w)) 12 (nI lk)) = I1 ∧ f_Hall_act w X I J = (if lk = 0 then (if shd cd pos then oc (f_Hall_exchange w (nI (cd pos)) I1 J) (fun v I9 J9 => some (v, X, I9, J9)) else oc (f_Hall_work w (nI (cd pos)) I1 J) (fun _ I9 J9 => some (1, X, I9, J9))) else some (4, X, va_up I1 (18 + 21 * w) (upd (I1 (18 + 21 * w)) 10 4), J)) := by
  obtain ⟨A0, q0, r0, s0, t0⟩ := UP1 I (18 + 21 * w) 12 (nI lk)
  have hr0 : rowC A0 15 16 n cd := rowC_f2 hr (r0 15 (by omega)) (r0 16 (by omega))
  have hp0 : A0 (18 + 21 * w) 8 = nI pos := by rw [t0 8 (by decide)]; exact hp
  refine ⟨A0, q0, ?_⟩
  unfold f_Hall_act
  rw [hp, w_in hr hn hpn, if_neg (show ¬ nI (cd pos) = 15 from fun y => h15 ((nI_eq (b := 15) (by omega) (by omega)).mp y)), if_pos (show ¬ nI (cd pos) = 16 from fun y => h16 ((nI_eq (b := 16) (by omega) (by omega)).mp y)), hph, if_neg (show ¬ ¬ nI 0 = 0 from fun y => y rfl), hlk, q0, pl_eq]
  show (if A0 (18 + 21 * w) 12 = 0 then _ else _) = _
  rw [s0]
  by_cases x : lk = 0
  · rw [if_pos (show nI lk = 0 by rw [x]; rfl), if_pos x, SHR hn hr0 hp0 hop hl]
    by_cases y : shd cd pos
    · rw [if_pos y, if_neg (show ¬ nI 1 = 0 by decide), if_pos y]
    · rw [if_neg y, if_pos (show nI 0 = 0 from rfl), if_neg y]
  · rw [if_neg (show ¬ nI lk = 0 from fun y => x ((nI_eq (b := 0) (by omega) (by omega)).mp y)), if_neg x, pl_eq]
theorem ACC1 [Decidable (shd cd pos)] (hn : n ≤ 2000) (hr : rowC I 15 16 n cd) (hp : I (18 + 21 * w) 8 = nI pos) (hop : cd pos ≤ 29) (hl : pos + opl (cd pos) ≤ n) (hpn : pos < n) (h15 : cd pos ≠ 15) (h16 : cd pos ≠ 16) (hph : ¬ I (18 + 21 * w) 9 = 0) (h12 : I (18 + 21 * w) 12 = nI 0) (hs : shd cd pos) : f_Hall_act w X I J = oc (f_Hall_exchange w (nI (cd pos)) I J) (fun v I9 J9 => some (v, X, I9, J9)) := by
  unfold f_Hall_act
  rw [hp, w_in hr hn hpn, if_neg (show ¬ nI (cd pos) = 15 from fun y => h15 ((nI_eq (b := 15) (by omega) (by omega)).mp y)), if_pos (show ¬ nI (cd pos) = 16 from fun y => h16 ((nI_eq (b := 16) (by omega) (by omega)).mp y)), if_pos hph]
  show (if I (18 + 21 * w) 12 = 0 then _ else _) = _
  rw [h12, if_pos (show nI 0 = 0 from rfl), SHR hn hr hp hop hl, if_pos hs, if_neg (show ¬ nI 1 = 0 by decide)]
end ACTC
