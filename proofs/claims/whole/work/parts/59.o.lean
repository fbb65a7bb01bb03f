/-! what a party of the class does at an out -/
theorem ob_i {α : Type} (x : MR α) : ob x (fun v X I J => some (v, X, I, J)) = x := by
  cases x <;> rfl
section ACTO
variable {cd : Nat → Nat} {n w pos sg : Nat} {X : MX} {I : MI} {J : MJ}
theorem INC {c : Nat} (hc : c = 15 ∨ c = 16) (hph : I (18 + 21 * w) 9 = nI sg) (hs : sg < 100) {α : Type} {F : Int32 → MI → MJ → Option α} : oc (f_Hall_isInCheck w (nI c) I J) F = F (if sg < 8 ∨ (c = 16 ∧ 10 ≤ sg ∧ sg < 18) then nI 1 else nI 0) I J := by
  unfold f_Hall_isInCheck
  rw [hph]
  by_cases x : sg < 8
  · rw [if_neg (show ¬ 8 ≤ nI sg from nI_ge (b := 8) (by omega) (by omega)), oc_some, if_pos (Or.inl x)]
    rfl
  · rw [if_pos (show 8 ≤ nI sg from nI_le (a := 8) (by omega) (by omega))]
    rcases hc with e | e
    · rw [if_pos (show ¬ nI c = 16 by rw [e]; decide), oc_some, if_neg (by omega)]
      rfl
    · rw [if_neg (show ¬ ¬ nI c = 16 from fun y => y (by rw [e]; rfl))]
      by_cases y : sg < 10
      · rw [if_pos (show nI sg < 10 from (nI_ltI (b := 10) (by omega) (by omega)).mpr y), oc_some, if_neg (by omega)]
        rfl
      · rw [if_neg (show ¬ nI sg < 10 from fun z => y ((nI_ltI (b := 10) (by omega) (by omega)).mp z))]
        by_cases u : sg < 18
        · rw [if_neg (show ¬ 18 ≤ nI sg from nI_ge (b := 18) (by omega) (by omega)), oc_some, if_pos (by omega)]
          rfl
        · rw [if_pos (show 18 ≤ nI sg from nI_le (a := 18) (by omega) (by omega)), oc_some, if_neg (by omega)]
          rfl
theorem ACCO (hn : n ≤ 2000) (hr : rowC I 15 16 n cd) (hp : I (18 + 21 * w) 8 = nI pos) (hpn : pos < n) (hc : cd pos = 15 ∨ cd pos = 16) (hph : I (18 + 21 * w) 9 = nI sg) (hs : sg < 100) : f_Hall_act w X I J = if sg < 8 ∨ (cd pos = 16 ∧ 10 ≤ sg ∧ sg < 18) then oc (f_Hall_checkStep w I J) (fun v I9 J9 => some (v, X, I9, J9)) else f_Hall_show w (nI (cd pos)) X I J := by
  unfold f_Hall_act
  rw [hp, w_in hr hn hpn]
  have go : oc (f_Hall_isInCheck w (nI (cd pos)) I J) (fun v3 I3 J3 => if v3 = 0 then (ob (f_Hall_show w (nI (cd pos)) X I3 J3) (fun v5 X5 I5 J5 => some (v5, X5, I5, J5))) else (oc (f_Hall_checkStep w I3 J3) (fun v6 I6 J6 => some (v6, X, I6, J6)))) = if sg < 8 ∨ (cd pos = 16 ∧ 10 ≤ sg ∧ sg < 18) then oc (f_Hall_checkStep w I J) (fun v I9 J9 => some (v, X, I9, J9)) else f_Hall_show w (nI (cd pos)) X I J := by
    rw [INC hc hph hs]
    by_cases x : sg < 8 ∨ (cd pos = 16 ∧ 10 ≤ sg ∧ sg < 18)
    · rw [if_pos x, if_neg (show ¬ nI 1 = 0 by decide), if_pos x]
    · rw [if_neg x, if_pos (show nI 0 = 0 from rfl), if_neg x, ob_i]
  rcases hc with e | e
  · rw [if_pos (show nI (cd pos) = 15 by rw [e]; rfl)]
    exact go
  · rw [if_neg (show ¬ nI (cd pos) = 15 by rw [e]; decide), if_neg (show ¬ ¬ nI (cd pos) = 16 from fun y => y (by rw [e]; rfl))]
    exact go
end ACTO
