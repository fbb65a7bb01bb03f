/-! the run: numbers behind a step -/
section NUM
variable {cd : Nat → Nat} {bs sd : Int64} {V c c0 : Nat → Nat → Nat} {P n B w : Nat} {st : Nat → Bool} {hg : Nat → Nat} {S S' : Nat → Nat → Nat}
theorem PI_eq (h : PI cd bs V c0 P S) (e0 : S' 0 = S 0) (e1 : S' 1 = S 1) (e9 : S' 9 = S 9) (e20 : S' 20 1 = S 20 1) (e3 : ∀ j, j < P → S' (30 + j) = S (30 + j)) (e4 : ∀ j, j < P → S' (40 + j) = S (40 + j)) : PI cd bs V c0 P S' := by
  obtain ⟨a1, a2, a3, a4, a5, a6, a7, a8⟩ := h
  have sn : ∀ i j, snt S' i j ↔ snt S i j := fun i j => by
    unfold snt
    rw [e0, e1]
  have hc : ∀ j k, hco cd bs V c0 S' j k ↔ hco cd bs V c0 S j k := fun j k => by
    unfold hco
    rw [e0, e1]
  refine ⟨fun w hw => by rw [e0, e1]; exact a1 w hw, fun p hp i hi j hj y => (sn i j).mpr (a2 p hp i (by rw [e0] at hi; exact hi) j hj y), fun j hj p hp hne => by rw [e3 j hj, e4 p hp, e0, e1]; exact a3 j hj p hp hne, fun w hw => by rw [e3 w hw]; exact a4 w hw, fun w hw => ⟨fun y j hj => ?_, ?_⟩, fun w hw => by rw [e0, e20]; exact a6 w hw, fun i hi => ?_, fun i hi => by rw [e20]; exact a8 i (fun ⟨p, hp, q⟩ => hi ⟨p, hp, (sn i p).mpr q⟩)⟩
  · rw [e9] at y ⊢
    exact (hc j _).mpr ((a5 w hw).1 y j hj)
  · rw [e0, e9]
    exact (a5 w hw).2
  · rw [e20, a7 i hi]
    exact ⟨fun ⟨p, hp, q⟩ => ⟨p, hp, (sn i p).mpr q⟩, fun ⟨p, hp, q⟩ => ⟨p, hp, (sn i p).mp q⟩⟩
/-- one's own ends of wires -/
def NJ (P : Nat) (S : Nat → Nat → Nat) : Prop := ∀ w, w < P → S (40 + w) w = 0 ∧ S (50 + w) w = 0 ∧ ∀ j, j < P → S (30 + w) j ≤ 4
/-- a party's numbers -/
def NP (cd : Nat → Nat) (st : Nat → Bool) (hg : Nat → Nat) (P : Nat) (S c : Nat → Nat → Nat) (w : Nat) : Prop := GD cd st hg c ∧ (S 10 w ≤ S 20 2 ∧ S 11 w ≤ S 20 3 ∧ c 0 6 ≤ S 20 4) ∧ (usv cd c (S 1 w) w ≤ S 13 w ∧ S 13 w ≤ 100) ∧ (S 12 w ≤ S 14 w ∧ S 14 w ≤ 200) ∧ (S 2 w ≤ 2 ∧ S 3 w < 8 ∧ S 4 w ≤ 1) ∧ c 0 10 + S 1 w ≤ S 20 0 ∧ S 8 w ≤ 2 * S 20 0 ∧ ∀ j, j < P → S (50 + w) j ≤ 1
/-- who doesn't step keeps numbers -/
theorem NI_o {x : Nat} (h : NI cd bs V c0 st hg P S) (hx : x < P) (hn : x ≠ w) (hO : OTH P w S S') (e0 : S 20 0 ≤ S' 20 0) (e2 : S' 20 2 = S 20 2) (e3 : S' 20 3 = S 20 3) (e4 : S' 20 4 = S 20 4) : NP cd st hg P S' (tr cd bs V c0 (S' 0 x)) x := by
  obtain ⟨o1, -, -, o5, -, -⟩ := hO x hx hn
  obtain ⟨q1, q2, q3, q4, q5, q6, q7, q8⟩ := h.1 x hx
  unfold NP
  rw [o1 0 (by decide), o1 1 (by decide), o1 2 (by decide), o1 3 (by decide), o1 4 (by decide), o1 8 (by decide), o1 10 (by decide), o1 11 (by decide), o1 12 (by decide), o1 13 (by decide), o1 14 (by decide), e2, e3, e4]
  exact ⟨q1, q2, q3, q4, q5, by omega, by omega, fun j hj => by rw [o5 j hj]; exact q8 j hj⟩
theorem NI_st (h : NI cd bs V c0 st hg P S) (hO : OTH P w S S') (e0 : S 20 0 ≤ S' 20 0) (e2 : S' 20 2 = S 20 2) (e3 : S' 20 3 = S 20 3) (e4 : S' 20 4 = S 20 4) (h0 : S' 20 0 ≤ 30000) (h1 : S' 20 1 ≤ S' 20 0) (hp : NP cd st hg P S' (tr cd bs V c0 (S' 0 w)) w) : NI cd bs V c0 st hg P S' := by
  refine ⟨fun x hx => ?_, h0, h1, by rw [e2]; exact h.2.2.2.1, by rw [e3]; exact h.2.2.2.2.1, by rw [e4]; exact h.2.2.2.2.2⟩
  by_cases z : x = w
  · rw [z]
    exact hp
  · exact NI_o h hx z hO e0 e2 e3 e4
/-- rows behind the counting -/
theorem OTH_c (hP : P ≤ 4) (hw : w < P) (hO : OTH P w S S') : OTH P w S (cnt S' w) := fun x hx hn => by
  obtain ⟨o1, o2, o3, o4, o5, o6⟩ := hO x hx hn
  refine ⟨fun k hk => ?_, fun j hj => by rw [cnt_30 (by omega) (by omega)]; exact o2 j hj, fun j hj => by rw [cnt_40 (by omega) (by omega)]; exact o3 j hj, fun j hj => by rw [cnt_50 (by omega) (by omega)]; exact o4 j hj, fun k => by rw [cnt_60 (by omega) (by omega)]; exact o5 k, fun y j hj => by rw [cnt_60 (by omega) (by omega)]; exact o6 y j hj⟩
  by_cases y : k = 5
  · rw [y, cnt_5, apn_n _ _ hn]
    exact o1 5 (by decide)
  · have : cnt S' w k = S' k := by
      unfold cnt
      rw [sr_n _ _ (by omega), sr_n _ _ y]
    rw [this]
    exact o1 k hk
theorem NI_L (hW : WFc cd n P st hg) (hP : P ≤ 4) (hw : w < P) (h : NI cd bs V c0 st hg P S) (hs : S 20 0 < 30000) (hc : tr cd bs V c0 (S 0 w) = c) (f1 : S 1 w = 0) (h0 : cd (c 0 0) ≠ 0) (hu : (uk cd c = 0 ∧ lkS cd c S w = 0) ∨ uk cd c = 4) : NI cd bs V c0 st hg P (cnt (SL S w) w) := by
  have hw' := h.1 w hw
  rw [hc] at hw'
  obtain ⟨q1, q2, q3, q4, q5, q6, q7, q8⟩ := hw'
  have e20 : ∀ i, i ≠ 0 → cnt (SL S w) w 20 i = S 20 i := fun i hi => by rw [cnt_20, apn_n _ _ hi, SL_20 (by omega)]
  have e0 : cnt (SL S w) w 20 0 = S 20 0 + 1 := by rw [cnt_20, apn_s, SL_20 (by omega)]
  refine NI_st h (OTH_c hP hw (OTH_L hP hw)) (by omega) (e20 2 (by decide)) (e20 3 (by decide)) (e20 4 (by decide)) (by omega) (by
    rw [e20 1 (by decide)]
    have := h.2.2.1
    omega) ?_
  rw [cnt_0, SL_0, apn_s, tr_s, hc]
  unfold NP
  rw [cnt_1, cnt_2, cnt_3, cnt_4, cnt_8, cnt_10, cnt_11, cnt_12, cnt_13, cnt_14, SL_1, SL_2, SL_3, SL_4, SL_8, SL_10, SL_11, SL_12, SL_13, SL_14, e20 2 (by decide), e20 3 (by decide), e20 4 (by decide), e0]
  have g3 := q1.2.2.1
  have lk : cd (c 0 0) = 29 → 1 ≤ c 0 2 := fun y => by
    rcases hu with ⟨u, l⟩ | u
    · letI := jdec cd (c 0 0)
      have l' : lck cd (c 0 0) w (c 0 1) (c 1) (c 0 2) (S 20 2) (S 20 3) (S 20 4) (S 10 w) (S 11 w) (c 0 6) (S 13 w) (usv cd c (S 1 w) w) (S 14 w) (S 12 w) = 0 := l
      exact (LK0 l').2.2.2.1 y
    · have := UK cd c
      omega
  refine ⟨GD_nx hW q1 (by omega) lk, ⟨q2.1, q2.2.1, ?_⟩, ⟨?_, q3.2⟩, q4, q5, ?_, by omega, fun j hj => by rw [cnt_50 (by omega) (by omega), SL_50 (by omega) (by omega)]; exact q8 j hj⟩
  · rcases hu with ⟨u, l⟩ | u
    · rw [nx0 u]
      show c 0 6 + (if cd (c 0 0) = 27 then 1 else 0) ≤ S 20 4
      by_cases y : cd (c 0 0) = 27
      · letI := jdec cd (c 0 0)
        have l' : lck cd (c 0 0) w (c 0 1) (c 1) (c 0 2) (S 20 2) (S 20 3) (S 20 4) (S 10 w) (S 11 w) (c 0 6) (S 13 w) (usv cd c (S 1 w) w) (S 14 w) (S 12 w) = 0 := l
        have := (LK0 l').2.2.2.2.1 y
        rw [if_pos y]
        omega
      · rw [if_neg y]
        exact q2.2.2
    · rw [nx4 u]
      exact q2.2.2
  · have e : usv cd (nx cd bs V c) (S 1 w) w = usv cd c (S 1 w) w := by
      rw [f1]
      unfold usv
      rw [if_neg (by omega), if_neg (by omega), nx_iu, if_neg (by omega)]
    rw [e]
    exact q3.1
  · have e : nx cd bs V c 0 10 = c 0 10 + 1 := by
      rcases hu with ⟨u, -⟩ | u
      · rw [nx0 u]
        rfl
      · rw [nx4 u]
        rfl
    omega
theorem u8_2 : u8 cd c ≤ 2 := by
  unfold u8
  split
  · split
    · omega
    · split <;> omega
  · omega
theorem NI_X (hP : P ≤ 4) (hw : w < P) (h : NI cd bs V c0 st hg P S) (hs : S 20 0 < 30000) (hc : tr cd bs V c0 (S 0 w) = c) (f1 : S 1 w = 0) (hsn : snb cd c w = true) (hcn : uk cd c = 2 ∧ stv (c 0 8) = 0 → ∀ x, x < P → S 9 x ≠ 0 → S 9 x - 1 ≠ c 0 5) (hl : uk cd c = 1 → lkS cd c S w = 0) : NI cd bs V c0 st hg P (cnt (SX cd c S w) w) := by
  have hw' := h.1 w hw
  rw [hc] at hw'
  obtain ⟨q1, q2, q3, q4, q5, q6, q7, q8⟩ := hw'
  have e20 : ∀ i, i ≠ 0 → i ≠ 1 → cnt (SX cd c S w) w 20 i = S 20 i := fun i hi hi1 => by rw [cnt_20, apn_n _ _ hi, SX_20 (by omega), apn_n _ _ hi1]
  have e0 : cnt (SX cd c S w) w 20 0 = S 20 0 + 1 := by rw [cnt_20, apn_s, SX_20 (by omega), apn_n _ _ (by decide)]
  have e1 : cnt (SX cd c S w) w 20 1 ≤ S 20 1 + 1 := by
    rw [cnt_20, apn_n _ _ (by decide), SX_20 (by omega), apn_s]
    split <;> omega
  have hEV := h.2.2.1
  refine NI_st h (OTH_c hP hw (OTH_X hP hw hcn)) (by omega) (e20 2 (by decide) (by decide)) (e20 3 (by decide) (by decide)) (e20 4 (by decide) (by decide)) (by omega) (by omega) ?_
  rw [cnt_0, SX_0, hc]
  unfold NP
  rw [cnt_1, cnt_2, cnt_3, cnt_4, cnt_8, cnt_10, cnt_11, cnt_12, cnt_13, cnt_14, SX_1, SX_2, SX_3, SX_4, SX_8, SX_10, SX_11, SX_12, SX_13, SX_14, e20 2 (by decide) (by decide), e20 3 (by decide) (by decide), e20 4 (by decide) (by decide), e0, apn_s, apn_s, apn_s, apn_s, apn_s]
  have u82 := u8_2 (cd := cd) (c := c)
  have hfin : S 10 w + u10 (cd (c 0 0)) ≤ S 20 2 ∧ S 11 w + u11 (cd (c 0 0)) ≤ S 20 3 ∧ usv cd c 1 w ≤ S 13 w ∧ S 12 w + u12 (cd (c 0 0)) ≤ S 14 w := by
    rw [f1] at q3
    have us0 : usv cd c 0 w = c 8 w := by
      unfold usv
      rw [if_neg (by omega)]
      rfl
    rcases UK cd c with ⟨u, -⟩ | ⟨u, p1, p2, p3⟩ | ⟨u, p⟩ | ⟨u, p⟩ | ⟨u, -⟩
    · rw [snb_no (Or.inl u)] at hsn
      cases hsn
    · letI := jdec cd (c 0 0)
      have l' : lck cd (c 0 0) w (c 0 1) (c 1) (c 0 2) (S 20 2) (S 20 3) (S 20 4) (S 10 w) (S 11 w) (c 0 6) (S 13 w) (usv cd c (S 1 w) w) (S 14 w) (S 12 w) = 0 := hl u
      obtain ⟨-, -, -, -, -, l7, l10, l25, l13⟩ := LK0 l'
      rw [f1] at l13
      have gvr : cd (c 0 0) = 13 → cd (c 0 0 + 2) = w := fun e => by
        have sdw := snb_sdf hsn
        unfold sdf at sdw
        rw [if_pos e] at sdw
        exact (of_decide_eq_true sdw).symm
      refine ⟨?_, ?_, ?_, ?_⟩
      · unfold u10
        by_cases y : cd (c 0 0) = 7
        · have := l7 y
          rw [if_pos y]
          omega
        · rw [if_neg y]
          by_cases z : cd (c 0 0) = 25 ∨ cd (c 0 0) = 26
          · rw [if_pos z]
            refine l25 z ?_
            unfold shd at p3
            rcases p3 with t | t | t | t | t
            · omega
            · omega
            · omega
            · omega
            · exact t
          · rw [if_neg z]
            exact q2.1
      · unfold u11
        by_cases y : cd (c 0 0) = 10
        · have := l10 y
          rw [if_pos y]
          omega
        · rw [if_neg y]
          exact q2.2.1
      · by_cases y : cd (c 0 0) = 13
        · have := (l13 y (gvr y)).1
          unfold usv
          rw [if_pos ⟨rfl, y⟩]
          omega
        · rw [usv_0 y]
          omega
      · unfold u12
        by_cases y : cd (c 0 0) = 13
        · have := (l13 y (gvr y)).2
          rw [if_pos y]
          omega
        · rw [if_neg y]
          exact q4.1
    · obtain ⟨ua, ub, uc⟩ := u10_0 (x := cd (c 0 0)) (by omega)
      rw [ua, ub, uc, usv_0 (by omega)]
      omega
    · obtain ⟨ua, ub, uc⟩ := u10_0 (x := cd (c 0 0)) (by omega)
      rw [ua, ub, uc, usv_0 (by omega)]
      omega
    · rw [snb_no (Or.inr u)] at hsn
      cases hsn
  exact ⟨q1, ⟨hfin.1, hfin.2.1, q2.2.2⟩, ⟨hfin.2.2.1, q3.2⟩, ⟨hfin.2.2.2, q4.2⟩, q5, by omega, by omega, fun j hj => by rw [cnt_50 (by omega) (by omega), SX_50 (by omega) (by omega)]; exact q8 j hj⟩
theorem NI_R (hW : WFc cd n P st hg) (hP : P ≤ 4) (hw : w < P) (h : NI cd bs V c0 st hg P S) (hs : S 20 0 < 30000) (hc : tr cd bs V c0 (S 0 w) = c) (f1 : S 1 w = bn (snb cd c w)) (h0 : cd (c 0 0) ≠ 0) (hu : uk cd c = 1 ∨ uk cd c = 2 ∨ uk cd c = 3) : NI cd bs V c0 st hg P (cnt (SR cd sd P c S w) w) := by
  have hw' := h.1 w hw
  rw [hc] at hw'
  obtain ⟨q1, q2, q3, q4, q5, q6, q7, q8⟩ := hw'
  have e20 : ∀ i, i ≠ 0 → cnt (SR cd sd P c S w) w 20 i = S 20 i := fun i hi => by rw [cnt_20, apn_n _ _ hi, SR_20 (by omega)]
  have e0 : cnt (SR cd sd P c S w) w 20 0 = S 20 0 + 1 := by rw [cnt_20, apn_s, SR_20 (by omega)]
  refine NI_st h (OTH_c hP hw (OTH_R hP hw)) (by omega) (e20 2 (by decide)) (e20 3 (by decide)) (e20 4 (by decide)) (by omega) (by
    rw [e20 1 (by decide)]
    have := h.2.2.1
    omega) ?_
  rw [cnt_0, SR_0, apn_s, tr_s, hc]
  unfold NP
  rw [cnt_1, cnt_2, cnt_3, cnt_4, cnt_8, cnt_10, cnt_11, cnt_12, cnt_13, cnt_14, SR_1, SR_2, SR_3, SR_4, SR_8, SR_10, SR_11, SR_12, SR_13, SR_14, e20 2 (by decide), e20 3 (by decide), e20 4 (by decide), e0, apn_s, apn_s]
  have g3 := q1.2.2.1
  have uu := UK cd c
  have n29 : cd (c 0 0) ≠ 29 := by
    rcases uu with ⟨u, -⟩ | ⟨u, p1, p2, p3⟩ | ⟨u, p⟩ | ⟨u, p⟩ | ⟨u, -⟩
    · omega
    · unfold shd jnt at p3
      omega
    · omega
    · omega
    · omega
  have f1' := f1
  rw [snb_1 hu] at f1'
  refine ⟨GD_nx hW q1 (by omega) (fun y => absurd y n29), ⟨q2.1, q2.2.1, ?_⟩, ⟨?_, q3.2⟩, q4, ⟨?_, q5.2⟩, ?_, by omega, fun j hj => ?_⟩
  · rcases hu with u | u | u
    · rw [nx1 u]
      exact q2.2.2
    · rw [nx2 u]
      exact q2.2.2
    · rw [nx3 u]
      exact q2.2.2
  · have e : usv cd (nx cd bs V c) 0 w = usv cd c (S 1 w) w := by
      unfold usv
      rw [if_neg (show ¬ (0 = 1 ∧ cd (nx cd bs V c 0 0) = 13) from fun z => absurd z.1 (by decide)), nx_iu]
      by_cases y : cd (c 0 0) = 13
      · rw [f1', sdf_13 y]
        have u1 : uk cd c = 1 := by omega
        by_cases z : w = cd (c 0 0 + 2)
        · rw [if_pos z, if_pos ⟨u1, y, z⟩, if_pos ⟨rfl, y⟩]
        · rw [if_neg z, if_neg (fun t => z t.2.2), if_neg (fun t => absurd t.1 (by decide))]
      · rw [if_neg (fun t => y t.2.1), if_neg (fun t => y t.2)]
    rw [e]
    exact q3.1
  · split
    · omega
    · exact q5.1
  · have e : nx cd bs V c 0 10 = c 0 10 + (if cd (c 0 0) = 13 then 1 else 2) := by
      rcases hu with u | u | u
      · rw [nx1 u]
        rfl
      · rw [nx2 u, if_neg (by omega)]
        rfl
      · rw [nx3 u, if_neg (by omega)]
        rfl
    rw [e]
    by_cases y : cd (c 0 0) = 13
    · rw [if_pos y]
      omega
    · rw [if_neg y]
      rw [sdf_t y, show bn true = 1 from rfl] at f1'
      omega
  · rw [cnt_50 (by omega) (by omega), SR_w5]
    split
    · show (if j = w then 0 else 1) ≤ 1
      split <;> omega
    · exact q8 j hj
theorem NJ_L (hP : P ≤ 4) (hw : w < P) (h : NJ P S) : NJ P (cnt (SL S w) w) := fun x hx => by
  rw [cnt_40 (by omega) (by omega), cnt_50 (by omega) (by omega), cnt_30 (by omega) (by omega), SL_40 (by omega) (by omega), SL_50 (by omega) (by omega), SL_30 (by omega) (by omega)]
  exact h x hx
theorem NJ_X (hP : P ≤ 4) (hw : w < P) (hB : B ≤ 4) (hbl : blk P B S w = false) (h : NJ P S) : NJ P (cnt (SX cd c S w) w) := fun x hx => by
  rw [cnt_40 (by omega) (by omega), cnt_50 (by omega) (by omega), cnt_30 (by omega) (by omega), SX_40 (by omega) (by omega), SX_50 (by omega) (by omega)]
  have q := h x hx
  refine ⟨q.1, q.2.1, fun j hj => ?_⟩
  by_cases z : x = w
  · rw [z, SX_w3 (by omega)]
    show (if j = w then S (30 + w) j else S (30 + w) j + 1) ≤ 4
    have e := of_decide_eq_false (anyb_f _ _ hbl j (by omega) (by omega))
    split <;> omega
  · rw [SX_30 (by omega) (by omega) z]
    exact q.2.2 j hj
theorem NJ_R (hP : P ≤ 4) (hw : w < P) (h : NJ P S) : NJ P (cnt (SR cd sd P c S w) w) := fun x hx => by
  rw [cnt_40 (by omega) (by omega), cnt_50 (by omega) (by omega), cnt_30 (by omega) (by omega), SR_30 (by omega) (by omega)]
  have q := h x hx
  by_cases z : x = w
  · rw [z] at q ⊢
    rw [SR_w4 (by omega), SR_w5]
    refine ⟨?_, ?_, q.2.2⟩
    · show (if w ≠ w ∧ snb cd c w = true then S (40 + w) w - 1 else S (40 + w) w) = 0
      rw [if_neg (fun t => t.1 rfl)]
      exact q.1
    · split
      · show (if w = w then 0 else 1) = 0
        rw [if_pos rfl]
      · exact q.2.1
  · rw [SR_40 (by omega) (by omega) z, SR_50 (by omega) (by omega) z]
    exact q
end NUM
