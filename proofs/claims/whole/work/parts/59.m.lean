/-! the status of a party, in the reference -/
section STATUS
variable {cd va : Nat → Nat} {n P : Nat} {st : Nat → Bool} {hg : Nat → Nat}
theorem STA3 {w cs : Nat} {I : MI} {J : MJ} (hw : w < 4) (h34 : ¬ I 112 34 = 0) (hc : I 137 w = nI cs) (hcb : cs < 100) (h1 : cs ≠ 0) {α : Type} {F : Int32 → MI → MJ → Option α} : oc (f_Model_statusOf (nI w) I J) F = F (nI 3) I J := by
  have zw := nin hw (show 4 < 2 ^ 31 by decide)
  unfold f_Model_statusOf
  rw [if_pos h34, nI_clamp (n := w) (by omega), if_neg zw, hc, if_neg (show ¬ nI cs ≤ 0 from nI_ge (a := 0) (by omega) (by omega)), oc_some]
  rfl
theorem STA4 {w lk : Nat} {I : MI} {J : MJ} (hw : w < 4) (h34 : ¬ I 112 34 = 0) (hc : I 137 w = nI 0) (hl : I 138 w = nI lk) (hlb : lk < 100) (h1 : lk ≠ 0) {α : Type} {F : Int32 → MI → MJ → Option α} : oc (f_Model_statusOf (nI w) I J) F = F (nI 4) I J := by
  have zw := nin hw (show 4 < 2 ^ 31 by decide)
  unfold f_Model_statusOf
  rw [if_pos h34, nI_clamp (n := w) (by omega), if_neg zw, hc, if_pos (show nI 0 ≤ 0 by decide), if_neg zw, hl, if_neg (show ¬ nI lk ≤ 0 from nI_ge (a := 0) (by omega) (by omega)), oc_some]
  rfl
theorem STA1 {w : Nat} (hW : WFc cd n P st hg) (hw : w < 4) {nk pos h : Nat} {sk kp : Nat → Nat} {I : MI} {J : MJ} (h34 : ¬ I 112 34 = 0) (hc : I 137 w = nI 0) (hl : I 138 w = nI 0) (hs : st pos = true) (hh : hg pos = h) (hv : RV I J w h sk va nk kp) (hr : ∀ k, k < n → I 114 k = nI (cd k)) (hp : I 127 w = nI pos) : ∃ I1 J1, (∀ {α : Type} {F : Int32 → MI → MJ → Option α}, oc (f_Model_statusOf (nI w) I J) F = F (nI (if cd (stl cd va 2000 pos h sk).1 = 0 then 2 else 1)) I1 J1) ∧ RV I1 J1 w (stl cd va 2000 pos h sk).2.1 (stl cd va 2000 pos h sk).2.2 va nk kp ∧ I1 127 w = nI (stl cd va 2000 pos h sk).1 ∧ FG w I I1 J J1 := by
  have zw := nin hw (show 4 < 2 ^ 31 by decide)
  have hn := hW.2.1
  obtain ⟨I1, J1, g1, g2, g3, g4⟩ := GON hW hw hs hh hv hr hp
  have so := stl_ok hW (fun i hi => (hv.2.2.1 i hi).1) 2000 pos h sk (by omega) hs hh (fun i hi => RV_sk hv hi)
  obtain ⟨z1, z2, _, _, _⟩ := WF_h hW so.1
  have r1 : I1 114 (stl cd va 2000 pos h sk).1 = nI (cd (stl cd va 2000 pos h sk).1) := by
    rw [g4.1 114 (by decide) (by decide) (by decide) (by decide)]
    exact hr _ z1
  refine ⟨I1, J1, fun {α F} => ?_, g2, g3, g4⟩
  unfold f_Model_statusOf
  rw [if_pos h34, nI_clamp (n := w) (by omega), if_neg zw, hc, if_pos (show nI 0 ≤ 0 by decide), if_neg zw, hl, if_pos (show nI 0 ≤ 0 by decide), oc_oc, g1, if_neg zw, g3, if_neg (nI_in (by omega) (by decide)), nI_clamp (n := (stl cd va 2000 pos h sk).1) (by omega), r1]
  by_cases x : cd (stl cd va 2000 pos h sk).1 = 0
  · rw [if_neg (show ¬ ¬ nI (cd (stl cd va 2000 pos h sk).1) = 0 from fun y => y (by rw [x]; rfl)), oc_some, if_pos x]
    rfl
  · rw [if_pos (show ¬ nI (cd (stl cd va 2000 pos h sk).1) = 0 from fun y => x ((nI_eq (b := 0) (by omega) (by omega)).mp y)), oc_some, if_neg x]
    rfl
end STATUS
