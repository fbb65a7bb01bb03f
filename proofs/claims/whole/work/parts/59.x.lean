/-! the run: a step alone, in the class, with all that is known -/
theorem upid {I : MI} {a j : Nat} {x : Int32} (h : I a j = x) : va_up I a (upd (I a) j x) = I := by
  funext b
  by_cases y : b = a
  · rw [y, va_up_self]
    funext i
    by_cases z : i = j
    · rw [z, upd_s, h]
    · rw [upd_n _ _ z]
  · rw [va_up_ne _ _ y]
def jdec (cd : Nat → Nat) (pos : Nat) : Decidable (jnt cd pos) := by
  unfold jnt
  exact inferInstance
def sdec (cd : Nat → Nat) (pos : Nat) : Decidable (shd cd pos) := decidable_of_iff _ (shb_t (cd := cd) (pos := pos))
/-- what w lacks -/
def lkS (cd : Nat → Nat) (c S : Nat → Nat → Nat) (w : Nat) : Nat := @lck cd (c 0 0) w (c 0 1) (c 1) (c 0 2) (S 20 2) (S 20 3) (S 20 4) (S 10 w) (S 11 w) (c 0 6) (S 13 w) (usv cd c (S 1 w) w) (S 14 w) (S 12 w) (jdec cd (c 0 0))
section LK
variable {cd sk : Nat → Nat} {pos w h nk d0 d1 d2 t0 t1 t2 gi us md mt : Nat}
theorem if01 {p : Prop} [Decidable p] {x : Nat} (hx : x ≠ 0) (h : (if p then 0 else x) = 0) : p := by
  by_cases y : p
  · exact y
  · rw [if_neg y] at h
    exact absurd h hx
theorem LK0 [Decidable (jnt cd pos)] (H : lck cd pos w h sk nk d0 d1 d2 t0 t1 t2 gi us md mt = 0) : (cd pos = 19 ∨ cd pos = 20 → sk (h - 1) < 16) ∧ (cd pos = 21 ∨ cd pos = 22 → sk (h - 2) < 16) ∧ (cd pos = 28 → nk < 16) ∧ (cd pos = 29 → 1 ≤ nk) ∧ (cd pos = 27 → t2 < d2) ∧ (cd pos = 7 → t0 < d0) ∧ (cd pos = 10 → t1 < d1) ∧ (cd pos = 25 ∨ cd pos = 26 → jnt cd pos → t0 + 16 ≤ d0) ∧ (cd pos = 13 → cd (pos + 2) = w → us < gi ∧ mt < md) := by
  unfold lck at H
  refine ⟨fun e => ?_, fun e => ?_, fun e => ?_, fun e => ?_, fun e => ?_, fun e => ?_, fun e => ?_, fun e y => ?_, fun e y => ?_⟩
  · rw [if_neg (by omega), if_neg (by omega), if_neg (by omega), if_pos e] at H
    exact if01 (by decide) H
  · rw [if_neg (by omega), if_neg (by omega), if_neg (by omega), if_neg (by omega), if_pos e] at H
    exact if01 (by decide) H
  · rw [if_neg (by omega), if_neg (by omega), if_neg (by omega), if_neg (by omega), if_neg (by omega), if_neg (by omega), if_neg (by omega), if_pos e] at H
    exact if01 (by decide) H
  · rw [if_neg (by omega), if_neg (by omega), if_neg (by omega), if_neg (by omega), if_neg (by omega), if_neg (by omega), if_neg (by omega), if_neg (by omega), if_pos e] at H
    exact if01 (by decide) H
  · rw [if_neg (by omega), if_neg (by omega), if_neg (by omega), if_neg (by omega), if_neg (by omega), if_neg (by omega), if_pos e] at H
    exact if01 (by decide) H
  · rw [if_pos e] at H
    exact if01 (by decide) H
  · rw [if_neg (by omega), if_pos e] at H
    exact if01 (by decide) H
  · rw [if_neg (by omega), if_neg (by omega), if_neg (by omega), if_neg (by omega), if_neg (by omega), if_pos e, if_pos y] at H
    exact if01 (by decide) H
  · rw [if_neg (by omega), if_neg (by omega), if_pos e, if_pos y] at H
    by_cases z : us < gi
    · rw [if_pos z] at H
      exact ⟨z, if01 (by decide) H⟩
    · rw [if_neg z] at H
      cases H
end LK
section CLS
variable {cd : Nat → Nat} {sd : Int64} {V c c' c0 : Nat → Nat → Nat} {P n B w : Nat} {st : Nat → Bool} {hg : Nat → Nat} {S S' : Nat → Nat → Nat} {X X1 : MX} {I I1 : MI} {J J1 : MJ}
theorem fph_cph {o : Nat} (h : c' 0 8 = fp0 cd (c' 0 0) o) : fph cd (c' 0 0) w o = cph cd c' 0 w := by
  unfold fph cph
  rw [h]
  unfold fp0
  split
  · rfl
  · rfl
/-- a party that is settled anew -/
theorem MCa_n {o : Nat} (h : c' 0 8 = fp0 cd (c' 0 0) o) (s1 : S' 1 w = 0) (s2 : S' 2 w = 0) (s3 : S' 3 w = 0) (h0 : I1 (18 + 21 * w) 0 = nI w) (h6 : I1 (18 + 21 * w) 6 = nI (c' 0 3)) (h8 : I1 (18 + 21 * w) 8 = nI (c' 0 0)) (h9 : I1 (18 + 21 * w) 9 = nI (fph cd (c' 0 0) w o)) (h10 : I1 (18 + 21 * w) 10 = nI (if cd (c' 0 0) = 0 then 2 else 1)) (h11 : I1 (18 + 21 * w) 11 = nI 0) (h12 : I1 (18 + 21 * w) 12 = nI 0) (h13 : I1 (18 + 21 * w) 13 = nI (S' 5 w)) : MCa cd S' c' I1 J1 w := by
  refine ⟨h0, h6, h8, ?_, ?_, by rw [s2]; exact h11, by rw [s3]; exact h12, h13, fun y => ?_⟩
  · rw [s1, h9, fph_cph h]
  · rw [h10, s2, s3]
    rfl
  · exfalso
    rw [h] at y
    unfold fp0 at y
    split at y
    · split at y <;> omega
    · omega
theorem pas_n {o : Nat} (h : c' 0 8 = fp0 cd (c' 0 0) o) : ¬ pas cd c' 0 := fun y => by
  unfold pas at y
  rw [h, stv_f] at y
  omega
/-- a step alone -/
theorem CA0 (hW : WFc cd n P st hg) (hP : P ≤ 4) (hw : w < P) (hM : MC cd n P B sd V c0 S X I J) (hc : tr cd (sd + 7000003) V c0 (S 0 w) = c) (hG : GD cd st hg c) (hb : BND (cd := cd) c) (hsc : c 0 10 ≤ 30000) (f1 : S 1 w = 0) (f2 : S 2 w = 0) (f3 : S 3 w = 0) (h0 : cd (c 0 0) ≠ 0) (hu : uk cd c = 0) (hd : S 10 w ≤ S 20 2 ∧ S 11 w ≤ S 20 3 ∧ c 0 6 ≤ S 20 4) (hd2 : S 20 2 ≤ 200 ∧ S 20 3 ≤ 200 ∧ S 20 4 ≤ 200) (hus : usv cd c (S 1 w) w ≤ S 13 w ∧ S 13 w ≤ 100) (hmt : S 12 w ≤ S 14 w ∧ S 14 w ≤ 200) (hlk : lkS cd c S w = 0) : ∃ I1 J1, f_Hall_act w X I J = some (1, X, I1, J1) ∧ MC cd n P B sd V c0 (SL S w) X I1 J1 ∧ CF w I I1 J J1 := by
  letI := jdec cd (c 0 0)
  letI := sdec cd (c 0 0)
  obtain ⟨g1, g2, g3, g4⟩ := hG
  obtain ⟨hG0, hX, hp⟩ := hM
  have hpw := hp w hw
  rw [hc] at hpw
  obtain ⟨⟨a0, a6, a8, a9, a10, a11, a12, a13, a14⟩, cv, ⟨⟨s, s1, s2, s3⟩, k5, k6, k7, k8⟩, ⟨t2, t3, t4, t5, u0, u1, u2, ui⟩, ⟨o5, o6, o7, o8, o33, o34, o35, o36, o37⟩, ov⟩ := hpw
  obtain ⟨m6, m8, m9, m10, m7, mr, md0, md1, md2⟩ := hG0
  rcases UK cd c with ⟨u, q1, q2, q3⟩ | ⟨u, -⟩ | ⟨u, -⟩ | ⟨u, -⟩ | ⟨u, -⟩
  · have h13 : cd (c 0 0) ≠ 13 := fun e => q3 (Or.inr (Or.inr (Or.inl e)))
    have sg : c 0 8 = 0 := by
      have := hb.2.2.2.2.2
      unfold SGV at this
      omega
    have wf := WF_h hW g1
    have ph : I (18 + 21 * w) 9 = nI 0 := by
      rw [a9]
      unfold cph
      rw [if_neg h13, sg, f1]
    have nm := hW.2.1
    have L := fun {α : Type} {F : Int32 → MI → MJ → Option α} => LCKC (α := α) (F := F) hW g1 g2 cv mr a8 (fun e => absurd e h13) ⟨md0, md1, md2⟩ ⟨u0, u1, u2⟩ ⟨hd.1, hd.2.1, hd.2.2, by omega, by omega, by omega⟩ ⟨t2, t3, hus.1, by omega⟩ ⟨t4, t5, hmt.1, by omega⟩
    have hlk' : lck cd (c 0 0) w (c 0 1) (c 1) (c 0 2) (S 20 2) (S 20 3) (S 20 4) (S 10 w) (S 11 w) (c 0 6) (S 13 w) (usv cd c (S 1 w) w) (S 14 w) (S 12 w) = 0 := hlk
    rw [hlk'] at L
    obtain ⟨A, e1, e2⟩ := ACC0 (X := X) nm mr a8 wf.2.1 wf.2.2.1 wf.1 q1 q2 ph (by decide) L
    rw [upid (by rw [a12, f3])] at e1
    subst e1
    rw [if_pos rfl, if_neg q3] at e2
    obtain ⟨l1, l2, l3, l4, l5, -⟩ := LK0 hlk'
    obtain ⟨I1, J1, w1, w2, w3, w4, w5⟩ := WRKC (bt := dg_n (sd + 7000003) (lN (c 0 6)) % 2) hW (show w < 4 by omega) (o := c 0 7) (by
      have := hb.2.2.1
      omega) g1 g2 cv mr a8 a0 (by rw [← s3]; exact s1.2.1.1) q3 (by omega) q1 q2 l1 l2 l3 l4 (fun e => ⟨c 0 6, by omega, u2, by rw [m7]⟩) (fun e => g4 _ (by
      have := l4 e
      omega))
    rw [w1] at e2
    have eL : uL cd (sd + 7000003) V c = lop cd (fun _ => 0) 0 (dg_n (sd + 7000003) (lN (c 0 6)) % 2) (c 0 0) (c 0 1) (c 1) (c 2) (c 0 2) (c 3) := if_neg (fun y => q3 (shb_t.mp y))
    obtain ⟨v1, v2, v3, v4⟩ := w2 _ (uS cd (sd + 7000003) V c) eL rfl
    have hf : CF w I I1 J J1 := ⟨fun a b1 b2 b3 => w3.1 a (by omega) (by omega) (by omega) (by omega) b2 b3, fun a b1 b2 => w3.2.2.2 a (by omega) (by omega) (by omega) (by omega)⟩
    refine ⟨I1, J1, e2, MC_st ⟨⟨m6, m8, m9, m10, m7, mr, md0, md1, md2⟩, hX, hp⟩ hP hw hf (fun x hx hn => ⟨fun k hk => ?_, fun j hj => ?_, fun j hj => ?_, fun j hj => ?_, fun k => ?_, fun _ j hj => ?_⟩) (by rw [SL_20 (by omega)]) (by rw [SL_20 (by omega)]) (by rw [SL_20 (by omega)]) (by rw [SL_20 (by omega)]) ?_, hf⟩
    · unfold SL
      by_cases y : k = 0
      · rw [y, sr_s, apn_n _ _ hn]
      · rw [sr_n _ _ y]
    · rw [SL_30 (by omega) (by omega)]
    · rw [SL_40 (by omega) (by omega)]
    · rw [SL_50 (by omega) (by omega)]
    · rw [SL_60 (by omega) (by omega)]
    · rw [SL_60 (by omega) (by omega)]
    · have e18 := fun j (x1 : j ≠ 8) (x2 : j ≠ 9) (x3 : j ≠ 10) => w3.2.1 j x1 x2 x3
      have eI : ∀ a, a ≠ 18 + 21 * w → a ≠ 19 + 21 * w → a ≠ 24 + 21 * w → a ≠ 31 + 21 * w → a ≠ 109 → a ≠ 110 → I1 a = I a := w3.1
      have eJ := w3.2.2.2
      have ec : tr cd (sd + 7000003) V c0 (SL S w 0 w) = N0 cd (sd + 7000003) V c := by rw [SL_0, apn_s, tr_s, hc, nx0 hu]
      rw [ec]
      have fp : N0 cd (sd + 7000003) V c 0 8 = fp0 cd (N0 cd (sd + 7000003) V c 0 0) (c 0 7) := rfl
      refine ⟨MCa_n fp (by rw [SL_1]; exact f1) (by rw [SL_2]; exact f2) (by rw [SL_3]; exact f3) (by rw [e18 0 (by decide) (by decide) (by decide)]; exact a0) (by rw [e18 6 (by decide) (by decide) (by decide)]; exact a6) v2 v3 v4 (by rw [e18 11 (by decide) (by decide) (by decide), a11, f2]) (by rw [e18 12 (by decide) (by decide) (by decide), a12, f3]) (by rw [e18 13 (by decide) (by decide) (by decide), a13, SL_5]), v1, ⟨⟨s, CK_fr s1 (eI _ (by omega) (by omega) (by omega) (by omega) (by omega) (by omega)) (eI _ (by omega) (by omega) (by omega) (by omega) (by omega) (by omega)) (eJ _ (by omega) (by omega) (by omega) (by omega)), s2, s3⟩, ?_, ?_, ?_, ?_⟩, ⟨?_, ?_, ?_, ?_, ?_, ?_, ?_, ?_⟩, ⟨?_, ?_, ?_, ?_, ?_, ?_, ?_, ?_, ?_⟩, ?_⟩
      · rw [eI (25 + 21 * w) (by omega) (by omega) (by omega) (by omega) (by omega) (by omega)]
        exact k5
      · rw [eI (25 + 21 * w) (by omega) (by omega) (by omega) (by omega) (by omega) (by omega), SL_8]
        exact k6
      · rw [SL_1, f1]
        exact fun y => absurd y (pas_n fp)
      · rw [eI (25 + 21 * w) (by omega) (by omega) (by omega) (by omega) (by omega) (by omega), eI (28 + 21 * w) (by omega) (by omega) (by omega) (by omega) (by omega) (by omega), SL_9]
        rcases k8 with y | ⟨y1, y2, y3⟩
        · exact Or.inl y
        · exact Or.inr ⟨y1, y2, fun j hj => by rw [SL_60 (by omega) (by omega)]; exact y3 j hj⟩
      · rw [eI (29 + 21 * w) (by omega) (by omega) (by omega) (by omega) (by omega) (by omega), SL_13]
        exact t2
      · rw [eI (29 + 21 * w) (by omega) (by omega) (by omega) (by omega) (by omega) (by omega), SL_1, t3, f1]
        rfl
      · rw [eI (29 + 21 * w) (by omega) (by omega) (by omega) (by omega) (by omega) (by omega), SL_14]
        exact t4
      · rw [eI (29 + 21 * w) (by omega) (by omega) (by omega) (by omega) (by omega) (by omega), SL_12]
        exact t5
      · rw [w3.2.2.1 0 (by decide), SL_10]
        exact u0
      · rw [w3.2.2.1 1 (by decide), SL_11]
        exact u1
      · show I1 (31 + 21 * w) 2 = nI (c 0 6 + (if cd (c 0 0) = 27 then 1 else 0))
        by_cases y : cd (c 0 0) = 27
        · rw [if_pos y, w5 y, u2, nI_1]
        · rw [if_neg y, w4 y]
          exact u2
      · rw [SL_13, eJ (30 + 21 * w) (by omega) (by omega) (by omega) (by omega)]
        exact ui
      · rw [eI (32 + 21 * w) (by omega) (by omega) (by omega) (by omega) (by omega) (by omega), SL_6]
        exact o5
      · rw [eI (32 + 21 * w) (by omega) (by omega) (by omega) (by omega) (by omega) (by omega), SL_1, o6, f1]
        rfl
      · rw [eI (32 + 21 * w) (by omega) (by omega) (by omega) (by omega) (by omega) (by omega), SL_7]
        exact o7
      · rw [eI (32 + 21 * w) (by omega) (by omega) (by omega) (by omega) (by omega) (by omega), SL_4]
        exact o8
      · rw [eI (33 + 21 * w) (by omega) (by omega) (by omega) (by omega) (by omega) (by omega), SL_30 (by omega) (by omega)]
        exact o33
      · rw [eI (34 + 21 * w) (by omega) (by omega) (by omega) (by omega) (by omega) (by omega), SL_50 (by omega) (by omega)]
        exact o34
      · rw [eI (35 + 21 * w) (by omega) (by omega) (by omega) (by omega) (by omega) (by omega), SL_40 (by omega) (by omega)]
        exact o35
      · rw [eI (36 + 21 * w) (by omega) (by omega) (by omega) (by omega) (by omega) (by omega)]
        exact o36
      · rw [eI (37 + 21 * w) (by omega) (by omega) (by omega) (by omega) (by omega) (by omega)]
        exact o37
      · refine OV_fr ov rfl rfl (Nat.le_refl _) (eJ _ ?_ ?_ ?_ ?_)
        all_goals
          have := ov.2.1
          omega
  · omega
  · omega
  · omega
  · omega
end CLS
