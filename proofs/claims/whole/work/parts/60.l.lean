/-! the run: the frame of a step, of the class and of the reference -/
section STP
variable {P n B w a : Nat} {X X1 : MX} {I I1 I2 : MI} {J J1 J2 : MJ}
theorem nI01 {a : Nat} (h : a < 100) (y : nI a = 1) : a = 1 := (nI_eq (a := a) (b := 1) (by omega) (by omega)).mp y
theorem HS_o {s : Nat} (h10 : I (18 + 21 * w) 10 = nI s) (hs : s ≠ 1) (hb : s < 100) : f_Hall_stepOf w X I J = some (nI s, X, I, J) := by
  unfold f_Hall_stepOf
  rw [h10, if_neg (fun y => hs (nI01 hb y))]
theorem HS_n (h10 : I (18 + 21 * w) 10 = nI 1) (h8 : I (32 + 21 * w) 8 = nI 1) : ∃ I1, f_Hall_stepOf w X I J = some (nI 3, X, I1, J) ∧ (∀ b, b ≠ 18 + 21 * w → I1 b = I b) ∧ (∀ j, j ≠ 10 → j ≠ 11 → I1 (18 + 21 * w) j = I (18 + 21 * w) j) ∧ I1 (18 + 21 * w) 10 = nI 3 ∧ I1 (18 + 21 * w) 11 = nI 2 := by
  obtain ⟨A, q, r, s, t⟩ := UP1 I (18 + 21 * w) 10 3
  obtain ⟨A2, q2, r2, s2, t2⟩ := UP1 A (18 + 21 * w) 11 2
  refine ⟨A2, ?_, fun b hb => by rw [r2 b hb, r b hb], fun j j1 j2 => by rw [t2 j j2, t j j1], by rw [t2 10 (by decide)]; exact s, s2⟩
  unfold f_Hall_stepOf
  rw [h10, if_pos (show nI 1 = 1 from rfl), h8, if_neg (show ¬ nI 1 = 0 by decide), q, pl_eq, q2, pl_eq]
  rfl
theorem HS_0 (h10 : I (18 + 21 * w) 10 = nI 1) (h8 : I (32 + 21 * w) 8 = nI 0) (ha : a = 0 ∨ a = 4) (h : f_Hall_act w X I J = some (nI a, X1, I1, J1)) : f_Hall_stepOf w X I J = some (nI a, X1, I1, J1) := by
  unfold f_Hall_stepOf
  rw [h10, if_pos (show nI 1 = 1 from rfl), h8, if_pos (show nI 0 = 0 from rfl), h]
  show (if nI a = 1 then _ else _) = _
  rcases ha with y | y
  · rw [y, if_neg (show ¬ nI 0 = 1 by decide), if_pos (show ¬ nI 0 = 3 by decide)]
  · rw [y, if_neg (show ¬ nI 4 = 1 by decide), if_pos (show ¬ nI 4 = 3 by decide)]
theorem HS_1 (hw : w < 4) (h10 : I (18 + 21 * w) 10 = nI 1) (h8 : I (32 + 21 * w) 8 = nI 0) (ha : a = 1 ∨ a = 3) (h : f_Hall_act w X I J = some (nI a, X1, I1, J1)) : ∃ I2, f_Hall_stepOf w X I J = some (nI a, X1, I2, J1) ∧ (∀ b, b ≠ 18 + 21 * w → b ≠ 14 → I2 b = I1 b) ∧ (∀ j, j ≠ 13 → I2 (18 + 21 * w) j = I1 (18 + 21 * w) j) ∧ I2 (18 + 21 * w) 13 = I1 (18 + 21 * w) 13 + 1 ∧ (∀ j, j ≠ 10 → I2 14 j = I1 14 j) ∧ I2 14 10 = I1 14 10 + 1 := by
  obtain ⟨A, q, r, s, t⟩ := UP1 I1 (18 + 21 * w) 13 (I1 (18 + 21 * w) 13 + 1)
  obtain ⟨A2, q2, r2, s2, t2⟩ := UP1 A 14 10 (A 14 10 + 1)
  refine ⟨A2, ?_, fun b b1 b2 => by rw [r2 b b2, r b b1], fun j j1 => by rw [r2 _ (by omega), t j j1], by rw [r2 _ (by omega)]; exact s, fun j j1 => by rw [t2 j j1, r 14 (by omega)], by rw [s2, r 14 (by omega)]⟩
  unfold f_Hall_stepOf
  rw [h10, if_pos (show nI 1 = 1 from rfl), h8, if_pos (show nI 0 = 0 from rfl), h]
  show (if nI a = 1 then _ else _) = _
  rcases ha with y | y
  · rw [y, if_pos (show nI 1 = 1 from rfl), q, pl_eq, q2, pl_eq]
  · rw [y, if_neg (show ¬ nI 3 = 1 by decide), if_neg (show ¬ ¬ nI 3 = 3 from fun z => z rfl), q, pl_eq, q2, pl_eq]
/-- the reference: nothing done yet -/
theorem MS_A (I : MI) : ∃ A, va_up I 112 (upd (I 112) 86 0) = A ∧ (∀ b, b ≠ 112 → A b = I b) ∧ A 112 86 = nI 0 ∧ ∀ j, j ≠ 86 → A 112 j = I 112 j := by
  obtain ⟨A, q, r, s, t⟩ := UP1 I 112 86 0
  exact ⟨A, q, r, s, t⟩
variable {A : MI}
theorem MS_o {s : Nat} (hA : va_up I 112 (upd (I 112) 86 0) = A) (hst : ∀ {α : Type} {F : Int32 → MI → MJ → Option α}, oc (f_Model_statusOf (nI w) A J) F = F (nI s) I2 J2) (hs : s ≠ 1) (hb : s < 100) : f_Model_stepOf (nI w) I J = some (nI s, I2, J2) := by
  unfold f_Model_stepOf
  rw [hA, pl_eq, hst, if_neg (fun y => hs (nI01 hb y))]
theorem MS_n (hw : w < 4) (hA : va_up I 112 (upd (I 112) 86 0) = A) (hst : ∀ {α : Type} {F : Int32 → MI → MJ → Option α}, oc (f_Model_statusOf (nI w) A J) F = F (nI 1) I2 J2) (h9 : I2 139 w = nI 1) : ∃ I3, f_Model_stepOf (nI w) I J = some (nI 3, I3, J2) ∧ (∀ b, b ≠ 137 → I3 b = I2 b) ∧ I3 137 w = nI 2 ∧ ∀ i, i ≠ w → I3 137 i = I2 137 i := by
  obtain ⟨A2, q, r, s, t⟩ := UP1 I2 137 w 2
  refine ⟨A2, ?_, r, s, t⟩
  have zw := nin hw (show 4 < 2 ^ 31 by decide)
  unfold f_Model_stepOf
  rw [hA, pl_eq, hst, if_pos (show nI 1 = 1 from rfl), nI_clamp (n := w) (by omega), if_neg zw, h9, if_neg (show ¬ nI 1 = 0 by decide), if_neg zw, q, pl_eq]
  rfl
theorem MS_l {lk : Nat} (hw : w < 4) (hA : va_up I 112 (upd (I 112) 86 0) = A) (hst : ∀ {α : Type} {F : Int32 → MI → MJ → Option α}, oc (f_Model_statusOf (nI w) A J) F = F (nI 1) I2 J2) (h9 : I2 139 w = nI 0) (hlk : ∀ {α : Type} {F : Int32 → MI → MJ → Option α}, oc (f_Model_lacking (nI w) I2 J2) F = F (nI lk) I2 J2) (h0 : lk ≠ 0) (hb : lk < 100) : ∃ I3, f_Model_stepOf (nI w) I J = some (nI 4, I3, J2) ∧ (∀ b, b ≠ 138 → I3 b = I2 b) ∧ I3 138 w = nI lk ∧ ∀ i, i ≠ w → I3 138 i = I2 138 i := by
  obtain ⟨A2, q, r, s, t⟩ := UP1 I2 138 w (nI lk)
  refine ⟨A2, ?_, r, s, t⟩
  have zw := nin hw (show 4 < 2 ^ 31 by decide)
  unfold f_Model_stepOf
  rw [hA, pl_eq, hst, if_pos (show nI 1 = 1 from rfl), nI_clamp (n := w) (by omega), if_neg zw, h9, if_pos (show nI 0 = 0 from rfl), hlk, if_neg zw, q, pl_eq, if_neg zw, s, if_neg (fun y => h0 (by
    have := (nI_leI (a := lk) (b := 0) (by omega) (by omega)).mp y
    omega))]
  rfl
theorem MS_a (hw : w < 4) (hA : va_up I 112 (upd (I 112) 86 0) = A) (hst : ∀ {α : Type} {F : Int32 → MI → MJ → Option α}, oc (f_Model_statusOf (nI w) A J) F = F (nI 1) I2 J2) (h9 : I2 139 w = nI 0) (h8 : I2 138 w = nI 0) (hlk : ∀ {α : Type} {F : Int32 → MI → MJ → Option α}, oc (f_Model_lacking (nI w) I2 J2) F = F (nI 0) I2 J2) : f_Model_stepOf (nI w) I J = oc (f_Model_act (nI w) I2 J2) (fun v11 I11 J11 => if v11 = 0 ∨ v11 = 1 then (pl (va_up I11 112 (upd (I11 112) 86 v11)) (fun I12 => if ¬ (I12 112 86) = 0 then (if nI w < 0 ∨ 4 ≤ w then none else (if nI w < 0 ∨ 4 ≤ w then none else (pl (va_up I12 129 (upd (I12 129) w ((I12 129 w) + 1))) (fun I17 => pl (va_up I17 112 (upd (I17 112) 35 ((I17 112 35) + 1))) (fun I18 => if nI w < 0 ∨ 4 ≤ w then none else (if (I18 137 w) ≤ 0 then (some (1, I18, J11)) else (some (3, I18, J11)))))))) else (some (0, I12, J11)))) else none) := by
  have zw := nin hw (show 4 < 2 ^ 31 by decide)
  unfold f_Model_stepOf
  rw [hA, pl_eq, hst, if_pos (show nI 1 = 1 from rfl), nI_clamp (n := w) (by omega), if_neg zw, h9, if_pos (show nI 0 = 0 from rfl), hlk, if_neg zw, upid h8, pl_eq, if_neg zw, h8, if_pos (show nI 0 ≤ 0 by decide)]
theorem MS_a0 (hw : w < 4) (hA : va_up I 112 (upd (I 112) 86 0) = A) (hst : ∀ {α : Type} {F : Int32 → MI → MJ → Option α}, oc (f_Model_statusOf (nI w) A J) F = F (nI 1) I2 J2) (h9 : I2 139 w = nI 0) (h8 : I2 138 w = nI 0) (hlk : ∀ {α : Type} {F : Int32 → MI → MJ → Option α}, oc (f_Model_lacking (nI w) I2 J2) F = F (nI 0) I2 J2) (ha : f_Model_act (nI w) I2 J2 = some (0, I1, J1)) : ∃ I3, f_Model_stepOf (nI w) I J = some (nI 0, I3, J1) ∧ (∀ b, b ≠ 112 → I3 b = I1 b) ∧ (∀ j, j ≠ 86 → I3 112 j = I1 112 j) ∧ I3 112 86 = nI 0 := by
  obtain ⟨A2, q, r, s, t⟩ := UP1 I1 112 86 0
  refine ⟨A2, ?_, r, t, s⟩
  rw [MS_a hw hA hst h9 h8 hlk, ha, oc_some, if_pos (show (0 : Int32) = 0 ∨ (0 : Int32) = 1 from Or.inl rfl), q, pl_eq, s, if_neg (show ¬ ¬ (0 : Int32) = 0 from fun z => z rfl)]
  rfl
theorem MS_a1 {cs : Nat} (hw : w < 4) (hA : va_up I 112 (upd (I 112) 86 0) = A) (hst : ∀ {α : Type} {F : Int32 → MI → MJ → Option α}, oc (f_Model_statusOf (nI w) A J) F = F (nI 1) I2 J2) (h9 : I2 139 w = nI 0) (h8 : I2 138 w = nI 0) (hlk : ∀ {α : Type} {F : Int32 → MI → MJ → Option α}, oc (f_Model_lacking (nI w) I2 J2) F = F (nI 0) I2 J2) (ha : f_Model_act (nI w) I2 J2 = some (1, I1, J1)) (hcs : I1 137 w = nI cs) (hcb : cs < 100) : ∃ I3, f_Model_stepOf (nI w) I J = some (nI (if cs = 0 then 1 else 3), I3, J1) ∧ (∀ b, b ≠ 112 → b ≠ 129 → I3 b = I1 b) ∧ (∀ j, j ≠ 86 → j ≠ 35 → I3 112 j = I1 112 j) ∧ I3 112 86 = nI 1 ∧ I3 112 35 = I1 112 35 + 1 ∧ I3 129 w = I1 129 w + 1 ∧ ∀ i, i ≠ w → I3 129 i = I1 129 i := by
  obtain ⟨A2, q, r, s, t⟩ := UP1 I1 112 86 1
  obtain ⟨A3, q3, r3, s3, t3⟩ := UP1 A2 129 w (A2 129 w + 1)
  obtain ⟨A4, q4, r4, s4, t4⟩ := UP1 A3 112 35 (A3 112 35 + 1)
  have zw := nin hw (show 4 < 2 ^ 31 by decide)
  have e137 : A4 137 w = nI cs := by rw [r4 137 (by decide), r3 137 (by decide), r 137 (by decide)]; exact hcs
  refine ⟨A4, ?_, fun b b1 b2 => by rw [r4 b b1, r3 b b2, r b b1], fun j j1 j2 => by rw [t4 j j2, r3 112 (by decide), t j j1], by rw [t4 86 (by decide), r3 112 (by decide)]; exact s, by rw [s4, r3 112 (by decide), t 35 (by decide)], by rw [r4 129 (by decide), s3, r 129 (by decide)], fun i hi => by rw [r4 129 (by decide), t3 i hi, r 129 (by decide)]⟩
  rw [MS_a hw hA hst h9 h8 hlk, ha, oc_some, if_pos (show (1 : Int32) = 0 ∨ (1 : Int32) = 1 from Or.inr rfl), q, pl_eq, s, if_pos (show ¬ (1 : Int32) = 0 by decide), if_neg zw, if_neg zw, q3, pl_eq, q4, pl_eq, if_neg zw, e137]
  by_cases y : cs = 0
  · rw [if_pos y, y, if_pos (show nI 0 ≤ 0 by decide)]
    rfl
  · have y2 : ¬ nI cs ≤ 0 := fun z => y (by
      have := (nI_leI (a := cs) (b := 0) (by omega) (by omega)).mp z
      omega)
    rw [if_neg y, if_neg y2]
    rfl
end STP
section LAC
variable {cd : Nat → Nat} {sd : Int64} {V c c0 : Nat → Nat → Nat} {P n B w : Nat} {st : Nat → Bool} {hg : Nat → Nat} {S : Nat → Nat → Nat} {I : MI} {J : MJ}
/-- whether it is asked what is lacking, and what -/
def lkv (cd : Nat → Nat) (c S : Nat → Nat → Nat) (w : Nat) : Nat := if uk cd c = 0 ∨ (uk cd c = 1 ∧ snb cd c w = true ∧ S 1 w = 0) then lkS cd c S w else 0
theorem lck_o {sk : Nat → Nat} {pos h nk d0 d1 d2 t0 t1 t2 gi us md mt : Nat} [Decidable (jnt cd pos)] (ho : cd pos = 15 ∨ cd pos = 16 ∨ (cd pos = 13 ∧ cd (pos + 2) ≠ w)) : lck cd pos w h sk nk d0 d1 d2 t0 t1 t2 gi us md mt = 0 := by
  unfold lck
  rcases ho with y | y | y
  · rw [if_neg (by omega), if_neg (by omega), if_neg (by omega), if_neg (by omega), if_neg (by omega), if_neg (by omega), if_neg (by omega), if_neg (by omega), if_neg (by omega)]
  · rw [if_neg (by omega), if_neg (by omega), if_neg (by omega), if_neg (by omega), if_neg (by omega), if_neg (by omega), if_neg (by omega), if_neg (by omega), if_neg (by omega)]
  · rw [if_neg (by omega), if_neg (by omega), if_pos y.1, if_neg y.2]
theorem lck_8 {sk : Nat → Nat} {pos h nk d0 d1 d2 t0 t1 t2 gi us md mt : Nat} [Decidable (jnt cd pos)] : lck cd pos w h sk nk d0 d1 d2 t0 t1 t2 gi us md mt < 8 := by
  unfold lck
  repeat' split
  all_goals omega
theorem lkv_8 : lkv cd c S w < 8 := by
  unfold lkv
  split
  · exact @lck_8 cd w (c 1) (c 0 0) (c 0 1) (c 0 2) (S 20 2) (S 20 3) (S 20 4) (S 10 w) (S 11 w) (c 0 6) (S 13 w) (usv cd c (S 1 w) w) (S 14 w) (S 12 w) (jdec cd (c 0 0))
  · omega
theorem RLK (hW : WFc cd n P st hg) (hP : P ≤ 4) (hw : w < P) (hM : MM cd st hg n P B sd V c0 S I J) (hc : tr cd (sd + 7000003) V c0 (S 0 w) = c) (hG : GD cd st hg c) (hb : BND (cd := cd) c) (hI : PI cd (sd + 7000003) V c0 P S) (hd : S 10 w ≤ S 20 2 ∧ S 11 w ≤ S 20 3 ∧ c 0 6 ≤ S 20 4) (hd2 : S 20 2 ≤ 200 ∧ S 20 3 ≤ 200 ∧ S 20 4 ≤ 200) (hus : usv cd c (S 1 w) w ≤ S 13 w ∧ S 13 w ≤ 100) (hmt : S 12 w ≤ S 14 w ∧ S 14 w ≤ 200) (hv : RV I J w (c 0 1) (c 1) (c 2) (c 0 2) (c 3)) (hp7 : I 127 w = nI (c 0 0)) {α : Type} {F : Int32 → MI → MJ → Option α} : oc (f_Model_lacking (nI w) I J) F = F (nI (lkv cd c S w)) I J := by
  letI := jdec cd (c 0 0)
  obtain ⟨⟨m16, m17, m34, m35, m60, m24, m26, m28, m114, mk, mb, mo⟩, hE, hKo, hp⟩ := hM
  have hpw := hp w hw
  rw [hc] at hpw
  obtain ⟨-, pb, ⟨r129, r130, r131, r132, r133, r134, r135, r136, r137, r138, r139, r142, r118, r121, r122, r123, r125, r126, r119, r120⟩, -, -⟩ := hpw
  have wf := WF_h hW hG.1
  have a1 := hI.1 w hw
  rw [hc] at a1
  have sg := hb.2.2.2.2.2
  have L0 : I 128 w = nI 0 → oc (f_Model_lacking (nI w) I J) F = F (nI (lck cd (c 0 0) w (c 0 1) (c 1) (c 0 2) (S 20 2) (S 20 3) (S 20 4) (S 10 w) (S 11 w) (c 0 6) (S 13 w) (usv cd c (S 1 w) w) (S 14 w) (S 12 w))) I J := fun y => LCKM (show w < 4 by omega) hW hG.1 hG.2.1 hv m114 hp7 y ⟨m24, m26, m28⟩ ⟨r121, r122, r123⟩ ⟨hd.1, hd.2.1, hd.2.2, by omega, by omega, by omega⟩ ⟨r125, r126, hus.1, by omega⟩ ⟨r119, hmt.1, by omega⟩
  have L1 : ∀ ph, I 128 w = nI ph → ph ≠ 0 → ph < 100 → (cd (c 0 0) < 19 ∨ 22 < cd (c 0 0)) → oc (f_Model_lacking (nI w) I J) F = F (nI 0) I J := fun ph y y2 y3 y4 => LCKM1 (show w < 4 by omega) hW.2.1 wf.1 wf.2.1 m114 hp7 y y2 y3 y4
  have s1 := a1.1
  rcases UK cd c with ⟨u, q1, q2, q3⟩ | ⟨u, q1, q2, q3⟩ | ⟨u, q⟩ | ⟨u, q⟩ | ⟨u, q⟩
  · have f1 : S 1 w = 0 := by
      by_cases t : S 1 w = 1
      · have := a1.2 t
        rw [snb_no (Or.inl u)] at this
        cases this
      · omega
    have sg0 : c 0 8 = 0 := by
      unfold SGV at sg
      omega
    have ph : I 128 w = nI 0 := by
      rcases pb with y | y
      · rw [y, sg0, f1]
      · omega
    rw [L0 ph]
    unfold lkv
    rw [if_pos (Or.inl u)]
    rfl
  · have sg0 : c 0 8 = 0 := by
      unfold SGV at sg
      omega
    by_cases t : S 1 w = 0
    · have ph : I 128 w = nI 0 := by
        rcases pb with y | y
        · rw [y, sg0, t]
        · omega
      rw [L0 ph]
      unfold lkv
      by_cases t2 : snb cd c w = true
      · rw [if_pos (Or.inr ⟨u, t2, t⟩)]
        rfl
      · rw [if_neg (fun z => by
          rcases z with z | z
          · omega
          · exact t2 z.2.1)]
        rw [snb_1 (Or.inl u)] at t2
        have e13 : cd (c 0 0) = 13 ∧ cd (c 0 0 + 2) ≠ w := by
          by_cases e : cd (c 0 0) = 13
          · refine ⟨e, fun e2 => t2 ?_⟩
            unfold sdf
            rw [if_pos e]
            exact decide_eq_true e2.symm
          · exact absurd (sdf_t e) t2
        rw [lck_o (Or.inr (Or.inr e13))]
    · have ph : I 128 w = nI 1 := by
        rcases pb with y | y
        · rw [y, sg0, show S 1 w = 1 by omega]
        · omega
      rw [L1 1 ph (by decide) (by decide) (by
        unfold shd jnt at q3
        omega)]
      unfold lkv
      rw [if_neg (fun z => by
        rcases z with z | z
        · omega
        · exact t z.2.2)]
  all_goals
    have ho : cd (c 0 0) = 15 ∨ cd (c 0 0) = 16 := by omega
    unfold lkv
    rw [if_neg (by omega)]
    obtain ⟨r, hr, hrb⟩ : ∃ r, I 128 w = nI r ∧ r < 100 := by
      rcases pb with y | y
      · refine ⟨_, y, ?_⟩
        unfold SGV at sg
        omega
      · exact ⟨0, y.2.2.2, by decide⟩
    by_cases t : r = 0
    · rw [t] at hr
      rw [L0 hr, lck_o (by omega)]
    · exact L1 r hr t hrb (by omega)
end LAC
