/-! the run: what a step makes of who is where; the class's memory of it -/
section STEPS
variable {cd : Nat → Nat} {bs sd : Int64} {V c c0 : Nat → Nat → Nat} {P n B : Nat} {st : Nat → Bool} {hg : Nat → Nat} {S S' : Nat → Nat → Nat}
def SL (S : Nat → Nat → Nat) (w : Nat) : Nat → Nat → Nat := sr S 0 (apn (S 0) w (S 0 w + 1))
def cnt (S : Nat → Nat → Nat) (w : Nat) : Nat → Nat → Nat := sr (sr S 5 (apn (S 5) w (S 5 w + 1))) 20 (apn (S 20) 0 (S 20 0 + 1))
def u10 (x : Nat) : Nat := if x = 7 then 1 else if x = 25 ∨ x = 26 then 16 else 0
def u11 (x : Nat) : Nat := if x = 10 then 1 else 0
def u12 (x : Nat) : Nat := if x = 13 then 1 else 0
def u8 (cd : Nat → Nat) (c : Nat → Nat → Nat) : Nat := if uk cd c = 2 then (if stv (c 0 8) = 0 then 2 else if stv (c 0 8) = 4 then 1 else 0) else 0
/-- behind a send of w, that stands at c -/
def SX (cd : Nat → Nat) (c S : Nat → Nat → Nat) (w : Nat) : Nat → Nat → Nat := sr (sr (sr (sr (sr (sr (sr (sr (sr S 1 (apn (S 1) w 1)) 6 (apn (S 6) w (S 6 w + 1))) 8 (apn (S 8) w (S 8 w + u8 cd c))) 10 (apn (S 10) w (S 10 w + u10 (cd (c 0 0))))) 11 (apn (S 11) w (S 11 w + u11 (cd (c 0 0))))) 12 (apn (S 12) w (S 12 w + u12 (cd (c 0 0))))) 20 (apn (S 20) 1 (if evb cd c = true ∧ c 0 4 = S 20 1 then S 20 1 + 1 else S 20 1))) (30 + w) (fun j => if j = w then S (30 + w) j else S (30 + w) j + 1)) (60 + w) (if uk cd c = 2 ∧ stv (c 0 8) = 0 then apn (S (60 + w)) (c 0 5) (S 8 w) else S (60 + w))
/-- the check finds it -/
def bdv (cd : Nat → Nat) (sd : Int64) (P : Nat) (c S : Nat → Nat → Nat) : Nat := if uk cd c = 2 ∧ (c 0 8 = 6 ∨ c 0 8 = 16) ∧ wgt sd P (fun j => nI (S (60 + j) (c 0 5))) (c 5) (c 0 7) ≠ 0 then 1 else 0
/-- behind a receive -/
def SR (cd : Nat → Nat) (sd : Int64) (P : Nat) (c S : Nat → Nat → Nat) (w : Nat) : Nat → Nat → Nat := sr (sr (sr (sr (sr (sr (sr S 0 (apn (S 0) w (S 0 w + 1))) 1 (apn (S 1) w 0)) 2 (apn (S 2) w (if bdv cd sd P c S = 1 then 1 else S 2 w))) 7 (apn (S 7) w (S 7 w + 1))) 9 (if uk cd c = 2 ∧ stv (c 0 8) = 0 then apn (S 9) w (c 0 5 + 1) else S 9)) (40 + w) (fun j => if j ≠ w ∧ snb cd c j = true then S (40 + w) j - 1 else S (40 + w) j)) (50 + w) (if bdv cd sd P c S = 1 then (fun j => if j = w then 0 else 1) else S (50 + w))
theorem SL_0 {w : Nat} : SL S w 0 = apn (S 0) w (S 0 w + 1) := by
  unfold SL
  rw [sr_s]
theorem SL_1 {w : Nat} : SL S w 1 = S 1 := by
  unfold SL
  rw [sr_n _ _ (by omega)]
theorem SL_2 {w : Nat} : SL S w 2 = S 2 := by
  unfold SL
  rw [sr_n _ _ (by omega)]
theorem SL_3 {w : Nat} : SL S w 3 = S 3 := by
  unfold SL
  rw [sr_n _ _ (by omega)]
theorem SL_4 {w : Nat} : SL S w 4 = S 4 := by
  unfold SL
  rw [sr_n _ _ (by omega)]
theorem SL_5 {w : Nat} : SL S w 5 = S 5 := by
  unfold SL
  rw [sr_n _ _ (by omega)]
theorem SL_6 {w : Nat} : SL S w 6 = S 6 := by
  unfold SL
  rw [sr_n _ _ (by omega)]
theorem SL_7 {w : Nat} : SL S w 7 = S 7 := by
  unfold SL
  rw [sr_n _ _ (by omega)]
theorem SL_8 {w : Nat} : SL S w 8 = S 8 := by
  unfold SL
  rw [sr_n _ _ (by omega)]
theorem SL_9 {w : Nat} : SL S w 9 = S 9 := by
  unfold SL
  rw [sr_n _ _ (by omega)]
theorem SL_10 {w : Nat} : SL S w 10 = S 10 := by
  unfold SL
  rw [sr_n _ _ (by omega)]
theorem SL_11 {w : Nat} : SL S w 11 = S 11 := by
  unfold SL
  rw [sr_n _ _ (by omega)]
theorem SL_12 {w : Nat} : SL S w 12 = S 12 := by
  unfold SL
  rw [sr_n _ _ (by omega)]
theorem SL_13 {w : Nat} : SL S w 13 = S 13 := by
  unfold SL
  rw [sr_n _ _ (by omega)]
theorem SL_14 {w : Nat} : SL S w 14 = S 14 := by
  unfold SL
  rw [sr_n _ _ (by omega)]
theorem SX_0 {w : Nat} : SX cd c S w 0 = S 0 := by
  unfold SX
  rw [sr_n _ _ (by omega), sr_n _ _ (by omega), sr_n _ _ (by omega), sr_n _ _ (by omega), sr_n _ _ (by omega), sr_n _ _ (by omega), sr_n _ _ (by omega), sr_n _ _ (by omega), sr_n _ _ (by omega)]
theorem SX_1 {w : Nat} : SX cd c S w 1 = apn (S 1) w 1 := by
  unfold SX
  rw [sr_n _ _ (by omega), sr_n _ _ (by omega), sr_n _ _ (by omega), sr_n _ _ (by omega), sr_n _ _ (by omega), sr_n _ _ (by omega), sr_n _ _ (by omega), sr_n _ _ (by omega), sr_s]
theorem SX_2 {w : Nat} : SX cd c S w 2 = S 2 := by
  unfold SX
  rw [sr_n _ _ (by omega), sr_n _ _ (by omega), sr_n _ _ (by omega), sr_n _ _ (by omega), sr_n _ _ (by omega), sr_n _ _ (by omega), sr_n _ _ (by omega), sr_n _ _ (by omega), sr_n _ _ (by omega)]
theorem SX_3 {w : Nat} : SX cd c S w 3 = S 3 := by
  unfold SX
  rw [sr_n _ _ (by omega), sr_n _ _ (by omega), sr_n _ _ (by omega), sr_n _ _ (by omega), sr_n _ _ (by omega), sr_n _ _ (by omega), sr_n _ _ (by omega), sr_n _ _ (by omega), sr_n _ _ (by omega)]
theorem SX_4 {w : Nat} : SX cd c S w 4 = S 4 := by
  unfold SX
  rw [sr_n _ _ (by omega), sr_n _ _ (by omega), sr_n _ _ (by omega), sr_n _ _ (by omega), sr_n _ _ (by omega), sr_n _ _ (by omega), sr_n _ _ (by omega), sr_n _ _ (by omega), sr_n _ _ (by omega)]
theorem SX_5 {w : Nat} : SX cd c S w 5 = S 5 := by
  unfold SX
  rw [sr_n _ _ (by omega), sr_n _ _ (by omega), sr_n _ _ (by omega), sr_n _ _ (by omega), sr_n _ _ (by omega), sr_n _ _ (by omega), sr_n _ _ (by omega), sr_n _ _ (by omega), sr_n _ _ (by omega)]
theorem SX_6 {w : Nat} : SX cd c S w 6 = apn (S 6) w (S 6 w + 1) := by
  unfold SX
  rw [sr_n _ _ (by omega), sr_n _ _ (by omega), sr_n _ _ (by omega), sr_n _ _ (by omega), sr_n _ _ (by omega), sr_n _ _ (by omega), sr_n _ _ (by omega), sr_s]
theorem SX_7 {w : Nat} : SX cd c S w 7 = S 7 := by
  unfold SX
  rw [sr_n _ _ (by omega), sr_n _ _ (by omega), sr_n _ _ (by omega), sr_n _ _ (by omega), sr_n _ _ (by omega), sr_n _ _ (by omega), sr_n _ _ (by omega), sr_n _ _ (by omega), sr_n _ _ (by omega)]
theorem SX_8 {w : Nat} : SX cd c S w 8 = apn (S 8) w (S 8 w + u8 cd c) := by
  unfold SX
  rw [sr_n _ _ (by omega), sr_n _ _ (by omega), sr_n _ _ (by omega), sr_n _ _ (by omega), sr_n _ _ (by omega), sr_n _ _ (by omega), sr_s]
theorem SX_9 {w : Nat} : SX cd c S w 9 = S 9 := by
  unfold SX
  rw [sr_n _ _ (by omega), sr_n _ _ (by omega), sr_n _ _ (by omega), sr_n _ _ (by omega), sr_n _ _ (by omega), sr_n _ _ (by omega), sr_n _ _ (by omega), sr_n _ _ (by omega), sr_n _ _ (by omega)]
theorem SX_10 {w : Nat} : SX cd c S w 10 = apn (S 10) w (S 10 w + u10 (cd (c 0 0))) := by
  unfold SX
  rw [sr_n _ _ (by omega), sr_n _ _ (by omega), sr_n _ _ (by omega), sr_n _ _ (by omega), sr_n _ _ (by omega), sr_s]
theorem SX_11 {w : Nat} : SX cd c S w 11 = apn (S 11) w (S 11 w + u11 (cd (c 0 0))) := by
  unfold SX
  rw [sr_n _ _ (by omega), sr_n _ _ (by omega), sr_n _ _ (by omega), sr_n _ _ (by omega), sr_s]
theorem SX_12 {w : Nat} : SX cd c S w 12 = apn (S 12) w (S 12 w + u12 (cd (c 0 0))) := by
  unfold SX
  rw [sr_n _ _ (by omega), sr_n _ _ (by omega), sr_n _ _ (by omega), sr_s]
theorem SX_13 {w : Nat} : SX cd c S w 13 = S 13 := by
  unfold SX
  rw [sr_n _ _ (by omega), sr_n _ _ (by omega), sr_n _ _ (by omega), sr_n _ _ (by omega), sr_n _ _ (by omega), sr_n _ _ (by omega), sr_n _ _ (by omega), sr_n _ _ (by omega), sr_n _ _ (by omega)]
theorem SX_14 {w : Nat} : SX cd c S w 14 = S 14 := by
  unfold SX
  rw [sr_n _ _ (by omega), sr_n _ _ (by omega), sr_n _ _ (by omega), sr_n _ _ (by omega), sr_n _ _ (by omega), sr_n _ _ (by omega), sr_n _ _ (by omega), sr_n _ _ (by omega), sr_n _ _ (by omega)]
theorem SR_0 {w : Nat} : SR cd sd P c S w 0 = apn (S 0) w (S 0 w + 1) := by
  unfold SR
  rw [sr_n _ _ (by omega), sr_n _ _ (by omega), sr_n _ _ (by omega), sr_n _ _ (by omega), sr_n _ _ (by omega), sr_n _ _ (by omega), sr_s]
theorem SR_1 {w : Nat} : SR cd sd P c S w 1 = apn (S 1) w 0 := by
  unfold SR
  rw [sr_n _ _ (by omega), sr_n _ _ (by omega), sr_n _ _ (by omega), sr_n _ _ (by omega), sr_n _ _ (by omega), sr_s]
theorem SR_2 {w : Nat} : SR cd sd P c S w 2 = apn (S 2) w (if bdv cd sd P c S = 1 then 1 else S 2 w) := by
  unfold SR
  rw [sr_n _ _ (by omega), sr_n _ _ (by omega), sr_n _ _ (by omega), sr_n _ _ (by omega), sr_s]
theorem SR_3 {w : Nat} : SR cd sd P c S w 3 = S 3 := by
  unfold SR
  rw [sr_n _ _ (by omega), sr_n _ _ (by omega), sr_n _ _ (by omega), sr_n _ _ (by omega), sr_n _ _ (by omega), sr_n _ _ (by omega), sr_n _ _ (by omega)]
theorem SR_4 {w : Nat} : SR cd sd P c S w 4 = S 4 := by
  unfold SR
  rw [sr_n _ _ (by omega), sr_n _ _ (by omega), sr_n _ _ (by omega), sr_n _ _ (by omega), sr_n _ _ (by omega), sr_n _ _ (by omega), sr_n _ _ (by omega)]
theorem SR_5 {w : Nat} : SR cd sd P c S w 5 = S 5 := by
  unfold SR
  rw [sr_n _ _ (by omega), sr_n _ _ (by omega), sr_n _ _ (by omega), sr_n _ _ (by omega), sr_n _ _ (by omega), sr_n _ _ (by omega), sr_n _ _ (by omega)]
theorem SR_6 {w : Nat} : SR cd sd P c S w 6 = S 6 := by
  unfold SR
  rw [sr_n _ _ (by omega), sr_n _ _ (by omega), sr_n _ _ (by omega), sr_n _ _ (by omega), sr_n _ _ (by omega), sr_n _ _ (by omega), sr_n _ _ (by omega)]
theorem SR_7 {w : Nat} : SR cd sd P c S w 7 = apn (S 7) w (S 7 w + 1) := by
  unfold SR
  rw [sr_n _ _ (by omega), sr_n _ _ (by omega), sr_n _ _ (by omega), sr_s]
theorem SR_8 {w : Nat} : SR cd sd P c S w 8 = S 8 := by
  unfold SR
  rw [sr_n _ _ (by omega), sr_n _ _ (by omega), sr_n _ _ (by omega), sr_n _ _ (by omega), sr_n _ _ (by omega), sr_n _ _ (by omega), sr_n _ _ (by omega)]
theorem SR_9 {w : Nat} : SR cd sd P c S w 9 = if uk cd c = 2 ∧ stv (c 0 8) = 0 then apn (S 9) w (c 0 5 + 1) else S 9 := by
  unfold SR
  rw [sr_n _ _ (by omega), sr_n _ _ (by omega), sr_s]
theorem SR_10 {w : Nat} : SR cd sd P c S w 10 = S 10 := by
  unfold SR
  rw [sr_n _ _ (by omega), sr_n _ _ (by omega), sr_n _ _ (by omega), sr_n _ _ (by omega), sr_n _ _ (by omega), sr_n _ _ (by omega), sr_n _ _ (by omega)]
theorem SR_11 {w : Nat} : SR cd sd P c S w 11 = S 11 := by
  unfold SR
  rw [sr_n _ _ (by omega), sr_n _ _ (by omega), sr_n _ _ (by omega), sr_n _ _ (by omega), sr_n _ _ (by omega), sr_n _ _ (by omega), sr_n _ _ (by omega)]
theorem SR_12 {w : Nat} : SR cd sd P c S w 12 = S 12 := by
  unfold SR
  rw [sr_n _ _ (by omega), sr_n _ _ (by omega), sr_n _ _ (by omega), sr_n _ _ (by omega), sr_n _ _ (by omega), sr_n _ _ (by omega), sr_n _ _ (by omega)]
theorem SR_13 {w : Nat} : SR cd sd P c S w 13 = S 13 := by
  unfold SR
  rw [sr_n _ _ (by omega), sr_n _ _ (by omega), sr_n _ _ (by omega), sr_n _ _ (by omega), sr_n _ _ (by omega), sr_n _ _ (by omega), sr_n _ _ (by omega)]
theorem SR_14 {w : Nat} : SR cd sd P c S w 14 = S 14 := by
  unfold SR
  rw [sr_n _ _ (by omega), sr_n _ _ (by omega), sr_n _ _ (by omega), sr_n _ _ (by omega), sr_n _ _ (by omega), sr_n _ _ (by omega), sr_n _ _ (by omega)]
theorem cnt_0 {w : Nat} : cnt S w 0 = S 0 := by
  unfold cnt
  rw [sr_n _ _ (by omega), sr_n _ _ (by omega)]
theorem cnt_1 {w : Nat} : cnt S w 1 = S 1 := by
  unfold cnt
  rw [sr_n _ _ (by omega), sr_n _ _ (by omega)]
theorem cnt_2 {w : Nat} : cnt S w 2 = S 2 := by
  unfold cnt
  rw [sr_n _ _ (by omega), sr_n _ _ (by omega)]
theorem cnt_3 {w : Nat} : cnt S w 3 = S 3 := by
  unfold cnt
  rw [sr_n _ _ (by omega), sr_n _ _ (by omega)]
theorem cnt_4 {w : Nat} : cnt S w 4 = S 4 := by
  unfold cnt
  rw [sr_n _ _ (by omega), sr_n _ _ (by omega)]
theorem cnt_5 {w : Nat} : cnt S w 5 = apn (S 5) w (S 5 w + 1) := by
  unfold cnt
  rw [sr_n _ _ (by omega), sr_s]
theorem cnt_6 {w : Nat} : cnt S w 6 = S 6 := by
  unfold cnt
  rw [sr_n _ _ (by omega), sr_n _ _ (by omega)]
theorem cnt_7 {w : Nat} : cnt S w 7 = S 7 := by
  unfold cnt
  rw [sr_n _ _ (by omega), sr_n _ _ (by omega)]
theorem cnt_8 {w : Nat} : cnt S w 8 = S 8 := by
  unfold cnt
  rw [sr_n _ _ (by omega), sr_n _ _ (by omega)]
theorem cnt_9 {w : Nat} : cnt S w 9 = S 9 := by
  unfold cnt
  rw [sr_n _ _ (by omega), sr_n _ _ (by omega)]
theorem cnt_10 {w : Nat} : cnt S w 10 = S 10 := by
  unfold cnt
  rw [sr_n _ _ (by omega), sr_n _ _ (by omega)]
theorem cnt_11 {w : Nat} : cnt S w 11 = S 11 := by
  unfold cnt
  rw [sr_n _ _ (by omega), sr_n _ _ (by omega)]
theorem cnt_12 {w : Nat} : cnt S w 12 = S 12 := by
  unfold cnt
  rw [sr_n _ _ (by omega), sr_n _ _ (by omega)]
theorem cnt_13 {w : Nat} : cnt S w 13 = S 13 := by
  unfold cnt
  rw [sr_n _ _ (by omega), sr_n _ _ (by omega)]
theorem cnt_14 {w : Nat} : cnt S w 14 = S 14 := by
  unfold cnt
  rw [sr_n _ _ (by omega), sr_n _ _ (by omega)]
theorem SL_20 {w : Nat} (hw : w < 10) : SL S w 20 = S 20 := by
  unfold SL
  rw [sr_n _ _ (by omega)]
theorem SL_30 {w j : Nat} (hw : w < 10) (hj : j < 10) : SL S w (30 + j) = S (30 + j) := by
  unfold SL
  rw [sr_n _ _ (by omega)]
theorem SL_40 {w j : Nat} (hw : w < 10) (hj : j < 10) : SL S w (40 + j) = S (40 + j) := by
  unfold SL
  rw [sr_n _ _ (by omega)]
theorem SL_50 {w j : Nat} (hw : w < 10) (hj : j < 10) : SL S w (50 + j) = S (50 + j) := by
  unfold SL
  rw [sr_n _ _ (by omega)]
theorem SL_60 {w j : Nat} (hw : w < 10) (hj : j < 10) : SL S w (60 + j) = S (60 + j) := by
  unfold SL
  rw [sr_n _ _ (by omega)]
theorem SX_30 {w j : Nat} (hw : w < 10) (hj : j < 10) (h : j ≠ w) : SX cd c S w (30 + j) = S (30 + j) := by
  unfold SX
  rw [sr_n _ _ (by omega), sr_n _ _ (by omega), sr_n _ _ (by omega), sr_n _ _ (by omega), sr_n _ _ (by omega), sr_n _ _ (by omega), sr_n _ _ (by omega), sr_n _ _ (by omega), sr_n _ _ (by omega)]
theorem SX_40 {w j : Nat} (hw : w < 10) (hj : j < 10) : SX cd c S w (40 + j) = S (40 + j) := by
  unfold SX
  rw [sr_n _ _ (by omega), sr_n _ _ (by omega), sr_n _ _ (by omega), sr_n _ _ (by omega), sr_n _ _ (by omega), sr_n _ _ (by omega), sr_n _ _ (by omega), sr_n _ _ (by omega), sr_n _ _ (by omega)]
theorem SX_50 {w j : Nat} (hw : w < 10) (hj : j < 10) : SX cd c S w (50 + j) = S (50 + j) := by
  unfold SX
  rw [sr_n _ _ (by omega), sr_n _ _ (by omega), sr_n _ _ (by omega), sr_n _ _ (by omega), sr_n _ _ (by omega), sr_n _ _ (by omega), sr_n _ _ (by omega), sr_n _ _ (by omega), sr_n _ _ (by omega)]
theorem SX_60 {w j : Nat} (hw : w < 10) (hj : j < 10) (h : j ≠ w) : SX cd c S w (60 + j) = S (60 + j) := by
  unfold SX
  rw [sr_n _ _ (by omega), sr_n _ _ (by omega), sr_n _ _ (by omega), sr_n _ _ (by omega), sr_n _ _ (by omega), sr_n _ _ (by omega), sr_n _ _ (by omega), sr_n _ _ (by omega), sr_n _ _ (by omega)]
theorem SR_20 {w : Nat} (hw : w < 10) : SR cd sd P c S w 20 = S 20 := by
  unfold SR
  rw [sr_n _ _ (by omega), sr_n _ _ (by omega), sr_n _ _ (by omega), sr_n _ _ (by omega), sr_n _ _ (by omega), sr_n _ _ (by omega), sr_n _ _ (by omega)]
theorem SR_30 {w j : Nat} (hw : w < 10) (hj : j < 10) : SR cd sd P c S w (30 + j) = S (30 + j) := by
  unfold SR
  rw [sr_n _ _ (by omega), sr_n _ _ (by omega), sr_n _ _ (by omega), sr_n _ _ (by omega), sr_n _ _ (by omega), sr_n _ _ (by omega), sr_n _ _ (by omega)]
theorem SR_40 {w j : Nat} (hw : w < 10) (hj : j < 10) (h : j ≠ w) : SR cd sd P c S w (40 + j) = S (40 + j) := by
  unfold SR
  rw [sr_n _ _ (by omega), sr_n _ _ (by omega), sr_n _ _ (by omega), sr_n _ _ (by omega), sr_n _ _ (by omega), sr_n _ _ (by omega), sr_n _ _ (by omega)]
theorem SR_50 {w j : Nat} (hw : w < 10) (hj : j < 10) (h : j ≠ w) : SR cd sd P c S w (50 + j) = S (50 + j) := by
  unfold SR
  rw [sr_n _ _ (by omega), sr_n _ _ (by omega), sr_n _ _ (by omega), sr_n _ _ (by omega), sr_n _ _ (by omega), sr_n _ _ (by omega), sr_n _ _ (by omega)]
theorem SR_60 {w j : Nat} (hw : w < 10) (hj : j < 10) : SR cd sd P c S w (60 + j) = S (60 + j) := by
  unfold SR
  rw [sr_n _ _ (by omega), sr_n _ _ (by omega), sr_n _ _ (by omega), sr_n _ _ (by omega), sr_n _ _ (by omega), sr_n _ _ (by omega), sr_n _ _ (by omega)]
theorem cnt_30 {w j : Nat} (hw : w < 10) (hj : j < 10) : cnt S w (30 + j) = S (30 + j) := by
  unfold cnt
  rw [sr_n _ _ (by omega), sr_n _ _ (by omega)]
theorem cnt_40 {w j : Nat} (hw : w < 10) (hj : j < 10) : cnt S w (40 + j) = S (40 + j) := by
  unfold cnt
  rw [sr_n _ _ (by omega), sr_n _ _ (by omega)]
theorem cnt_50 {w j : Nat} (hw : w < 10) (hj : j < 10) : cnt S w (50 + j) = S (50 + j) := by
  unfold cnt
  rw [sr_n _ _ (by omega), sr_n _ _ (by omega)]
theorem cnt_60 {w j : Nat} (hw : w < 10) (hj : j < 10) : cnt S w (60 + j) = S (60 + j) := by
  unfold cnt
  rw [sr_n _ _ (by omega), sr_n _ _ (by omega)]
theorem SX_20 {w : Nat} (hw : w < 10) : SX cd c S w 20 = apn (S 20) 1 (if evb cd c = true ∧ c 0 4 = S 20 1 then S 20 1 + 1 else S 20 1) := by
  unfold SX
  rw [sr_n _ _ (by omega), sr_n _ _ (by omega), sr_s]
theorem SX_w3 {w : Nat} (hw : w < 10) : SX cd c S w (30 + w) = fun j => if j = w then S (30 + w) j else S (30 + w) j + 1 := by
  unfold SX
  rw [sr_n _ _ (by omega), sr_s]
theorem SX_w6 {w : Nat} : SX cd c S w (60 + w) = if uk cd c = 2 ∧ stv (c 0 8) = 0 then apn (S (60 + w)) (c 0 5) (S 8 w) else S (60 + w) := by
  unfold SX
  rw [sr_s]
theorem SR_w4 {w : Nat} (hw : w < 10) : SR cd sd P c S w (40 + w) = fun j => if j ≠ w ∧ snb cd c j = true then S (40 + w) j - 1 else S (40 + w) j := by
  unfold SR
  rw [sr_n _ _ (by omega), sr_s]
theorem SR_w5 {w : Nat} : SR cd sd P c S w (50 + w) = if bdv cd sd P c S = 1 then (fun j => if j = w then 0 else 1) else S (50 + w) := by
  unfold SR
  rw [sr_s]
theorem cnt_20 {w : Nat} : cnt S w 20 = apn (S 20) 0 (S 20 0 + 1) := by
  unfold cnt
  rw [sr_s]
end STEPS
