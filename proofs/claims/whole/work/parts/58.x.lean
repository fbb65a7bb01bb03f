/-! the run: the steps of a check, in the reference -/
section CHM
variable {w P B s c o : Nat} {I : MI} {J : MJ}
theorem TKO (hw : w < 4) (ho : o < 2 ^ 30) (h1 : I 118 w = nI o) : ∃ I1, (∀ {α : Type} {F : Int64 → MI → MJ → Option α}, oc (f_Model_takeOwn (nI w) I J) F = F (lN (dg_n (J 117 w) (Int32.toInt64 (nI o)))) I1 J) ∧ (∀ a, a ≠ 118 → a ≠ 160 → a ≠ 161 → I1 a = I a) ∧ I1 118 w = nI (o + 1) ∧ (∀ i, i ≠ w → I1 118 i = I 118 i) := by
  have zw := nin hw (show 4 < 2 ^ 31 by decide)
  obtain ⟨A0, q0, r0, s0, t0⟩ := UP1 I 118 w (nI (o + 1))
  obtain ⟨u1, d1, r1⟩ := dm_drawn (J 117 w) (nI o) A0 J
  have e118 : (va_up (va_up A0 160 u1) 161 d1) 118 = A0 118 := by rw [va_up_ne _ _ (by decide), va_up_ne _ _ (by decide)]
  refine ⟨va_up (va_up A0 160 u1) 161 d1, fun {α F} => ?_, fun a a1 a2 a3 => by rw [va_up_ne _ _ a3, va_up_ne _ _ a2, r0 a a1], by rw [e118]; exact s0, by rw [e118]; exact t0⟩
  unfold f_Model_takeOwn
  rw [nI_clamp (n := w) (by omega), if_neg zw, if_neg zw, h1, nI_1, q0, pl_eq, if_neg zw, if_neg zw, s0, show nI (o + 1) - 1 = nI o from nI_sb (a := o + 1) (b := 1) (by omega), oc_oc, r1, oc_some, oc_some]
theorem CHSM {wr : Nat → Nat} (hP : P ≤ 4) (hwP : w < P) (hB : B ≤ 4) (h6 : I 112 16 = nI P) (h8 : I 112 17 = nI B) (hw : ∀ j, j < P → wr j < 2 ^ 31 ∧ I 148 (4 * w + j) = nI (wr j)) (h0 : wr w < B) (hc : I 134 w = nI c) (hcb : c < 4000) (ho : I 118 w = nI o) (hob : o < 2 ^ 29) (hs : s < 8) (hev : s % 2 = 0) : (anyb (fun j => decide (B ≤ wr j)) P 0 = true ∧ ∀ {α : Type} {F : Int32 → MI → MJ → Option α}, oc (f_Model_check (nI w) (nI s) I J) F = F (nI 0) I J) ∨ (anyb (fun j => decide (B ≤ wr j)) P 0 = false ∧ ∃ I1 J1, (∀ {α : Type} {F : Int32 → MI → MJ → Option α}, oc (f_Model_check (nI w) (nI s) I J) F = F (nI 1) I1 J1) ∧ (∀ a, a ≠ 148 → a ≠ 130 → a ≠ 118 → a ≠ 160 → a ≠ 161 → I1 a = I a) ∧ (∀ i, i ≠ w → I1 130 i = I 130 i) ∧ I1 130 w = I 130 w + 1 ∧ (∀ j, j < P → I1 148 (4 * w + j) = nI (if j = w then wr j else wr j + 1)) ∧ (∀ q, q < 4 * w ∨ 4 * w + 4 ≤ q → I1 148 q = I 148 q) ∧ (∀ i, i ≠ w → I1 118 i = I 118 i) ∧ I1 118 w = nI (if s = 0 then o + 2 else if s = 4 then o + 1 else o) ∧ (∀ a, a ≠ 154 → a ≠ 155 → J1 a = J a) ∧ (∀ q, J1 154 q = if s = 0 ∧ q = 4 * c + w then lN (dg_n (J 117 w) (Int32.toInt64 (nI o))) else J 154 q) ∧ (∀ q, J1 155 q = if s = 0 ∧ q = 4 * c + w then lN (dg_n (J 117 w) (Int32.toInt64 (nI (o + 1)))) else J 155 q)) := by
  have zw := nin (show w < 4 by omega) (show 4 < 2 ^ 31 by decide)
  have e4 : 4 * nI c + nI w = nI (4 * c + w) := by rw [show (4 : Int32) * nI c = nI (4 * c) from nI_mul 4 c, nI_add]
  rcases SNDM (J := J) hP hwP hB h6 h8 hw h0 with ⟨b1, b2⟩ | ⟨b1, I2, b2, b3, b4, b5, b6, b7⟩
  · refine Or.inl ⟨b1, fun {α F} => ?_⟩
    unfold f_Model_check
    rw [nI_clamp (n := w) (by omega), if_neg zw, pl_eq, hc]
    rcases (show s = 0 ∨ s = 2 ∨ s = 4 ∨ s = 6 by omega) with e | e | e | e <;>
    · rw [e, if_pos (by decide), oc_oc, b2, if_neg (show ¬ ¬ nI 0 = 0 from fun x => x rfl), oc_some]
      rfl
  · refine Or.inr ⟨b1, ?_⟩
    have k118 : I2 118 w = nI o := by rw [b3 118 (by decide) (by decide)]; exact ho
    by_cases e0 : s = 0
    · obtain ⟨I3, c1, c2, c3, c4⟩ := TKO (J := J) (show w < 4 by omega) (by omega) k118
      obtain ⟨I4, d1, d2, d3, d4⟩ := TKO (J := va_up J 154 (vp_updL (J 154) (4 * c + w) (lN (dg_n (J 117 w) (Int32.toInt64 (nI o)))))) (show w < 4 by omega) (by omega) c3
      have f : ∀ a, a ≠ 118 → a ≠ 160 → a ≠ 161 → I4 a = I2 a := fun a a1 a2 a3 => by rw [d2 a a1 a2 a3, c2 a a1 a2 a3]
      refine ⟨I4, va_up (va_up J 154 (vp_updL (J 154) (4 * c + w) (lN (dg_n (J 117 w) (Int32.toInt64 (nI o)))))) 155 (vp_updL ((va_up J 154 (vp_updL (J 154) (4 * c + w) (lN (dg_n (J 117 w) (Int32.toInt64 (nI o)))))) 155) (4 * c + w) (lN (dg_n ((va_up J 154 (vp_updL (J 154) (4 * c + w) (lN (dg_n (J 117 w) (Int32.toInt64 (nI o)))))) 117 w) (Int32.toInt64 (nI (o + 1)))))), fun {α F} => ?_, fun a a1 a2 a3 a4 a5 => by rw [f a a3 a4 a5, b3 a a1 a2], fun i hi => by rw [f 130 (by decide) (by decide) (by decide)]; exact b4 i hi, by rw [f 130 (by decide) (by decide) (by decide)]; exact b5, fun j hj => by rw [f 148 (by decide) (by decide) (by decide)]; exact b6 j hj, fun q hq => by rw [f 148 (by decide) (by decide) (by decide)]; exact b7 q hq, fun i hi => by rw [d4 i hi, c4 i hi, b3 118 (by decide) (by decide)], by rw [if_pos e0]; exact d3, fun a a1 a2 => by rw [va_up_ne _ _ a2, va_up_ne _ _ a1], fun q => ?_, fun q => ?_⟩
      · unfold f_Model_check
        rw [nI_clamp (n := w) (by omega), if_neg zw, pl_eq, hc, e0, if_pos (by decide), oc_oc, b2, if_pos (show ¬ nI 1 = 0 by decide), if_neg (show ¬ ¬ nI 0 = 0 from fun x => x rfl), oc_oc, oc_oc, c1, e4, if_neg (nI_in (by omega) (by decide)), nI_clamp (n := 4 * c + w) (by omega), pl_eq, oc_oc, d1, if_neg (nin (show 4 * c + w < 16000 by omega) (by decide)), pl_eq, oc_some, if_pos (by decide), oc_some]
        rfl
      · rw [va_up_ne _ _ (by decide), va_up_self]
        by_cases y : q = 4 * c + w
        · rw [if_pos ⟨e0, y⟩, y, updL_s]
        · rw [if_neg (fun z => y z.2), updL_n _ _ y]
      · rw [va_up_self, va_up_ne _ _ (show (117 : Nat) ≠ 154 by decide), va_up_ne _ _ (show (155 : Nat) ≠ 154 by decide)]
        by_cases y : q = 4 * c + w
        · rw [if_pos ⟨e0, y⟩, y, updL_s]
        · rw [if_neg (fun z => y z.2), updL_n _ _ y]
    · by_cases e5 : s = 4
      · obtain ⟨A0, q0, r0, s0, t0⟩ := UP1 I2 118 w (nI (o + 1))
        refine ⟨A0, J, fun {α F} => ?_, fun a a1 a2 a3 _ _ => by rw [r0 a a3, b3 a a1 a2], by rw [r0 130 (by decide)]; exact b4, by rw [r0 130 (by decide)]; exact b5, by rw [r0 148 (by decide)]; exact b6, by rw [r0 148 (by decide)]; exact b7, fun i hi => by rw [t0 i hi, b3 118 (by decide) (by decide)], by rw [if_neg e0, if_pos e5]; exact s0, fun _ _ _ => rfl, fun q => by rw [if_neg (fun y => e0 y.1)], fun q => by rw [if_neg (fun y => e0 y.1)]⟩
        unfold f_Model_check
        rw [nI_clamp (n := w) (by omega), if_neg zw, pl_eq, hc, e5, if_pos (by decide), oc_oc, b2, if_pos (show ¬ nI 1 = 0 by decide), if_pos (show ¬ nI 4 = 0 by decide), oc_oc, oc_some, if_neg (show ¬ ¬ nI 4 = 4 from fun x => x rfl), if_neg zw, if_neg zw, k118, nI_1, q0, pl_eq, oc_some]
        rfl
      · refine ⟨I2, J, fun {α F} => ?_, fun a a1 a2 _ _ _ => b3 a a1 a2, b4, b5, b6, b7, fun i _ => by rw [b3 118 (by decide) (by decide)], by rw [if_neg e0, if_neg e5]; exact k118, fun _ _ _ => rfl, fun q => by rw [if_neg (fun y => e0 y.1)], fun q => by rw [if_neg (fun y => e0 y.1)]⟩
        unfold f_Model_check
        rw [nI_clamp (n := w) (by omega), if_neg zw, pl_eq, hc]
        rcases (show s = 2 ∨ s = 6 by omega) with e | e <;>
        · rw [e, if_pos (by decide), oc_oc, b2, if_pos (show ¬ nI 1 = 0 by decide), if_pos (by decide), oc_oc, oc_some, if_pos (by decide), oc_some]
          rfl
theorem CHRM {gt : Nat → Nat} (hP : P ≤ 4) (hwP : w < P) (h6 : I 112 16 = nI P) (hg : ∀ j, j < P → gt j < 2 ^ 31 ∧ I 150 (4 * j + w) = nI (gt j)) (hc : I 134 w = nI c) (hs : s < 8) (hod : s % 2 = 1) : (anyb (fun j => decide (j ≠ w) && (true && decide (gt j = 0))) P 0 = true ∧ ∀ {α : Type} {F : Int32 → MI → MJ → Option α}, oc (f_Model_check (nI w) (nI s) I J) F = F (nI 0) I J) ∨ (anyb (fun j => decide (j ≠ w) && (true && decide (gt j = 0))) P 0 = false ∧ ∃ I1, (∀ {α : Type} {F : Int32 → MI → MJ → Option α}, oc (f_Model_check (nI w) (nI s) I J) F = if s = 7 then oc (f_Model_sum (nI w) (nI c) I1 J) (fun _ I9 J9 => F (nI 1) I9 J9) else F (nI 1) I1 J) ∧ (∀ a, a ≠ 150 → a ≠ 132 → a ≠ 142 → I1 a = I a) ∧ (∀ i, i ≠ w → I1 132 i = I 132 i ∧ I1 142 i = I 142 i) ∧ I1 132 w = I 132 w + 1 ∧ I1 142 w = (if s = 1 then nI c else I 142 w) ∧ (∀ j, j < P → I1 150 (4 * j + w) = nI (if j ≠ w then gt j - 1 else gt j)) ∧ (∀ q, q % 4 ≠ w → I1 150 q = I 150 q)) := by
  have zw := nin (show w < 4 by omega) (show 4 < 2 ^ 31 by decide)
  rcases RCVM (J := J) (v := m1) (sd := fun _ => true) hP hwP (Or.inl ⟨rfl, fun _ _ => rfl⟩) h6 hg with ⟨b1, b2⟩ | ⟨b1, I2, b2, b3, b4, b5, b6, b7⟩
  · refine Or.inl ⟨b1, fun {α F} => ?_⟩
    have b2' : ∀ {α : Type} {F : Int32 → MI → MJ → Option α}, oc (f_Model_receive (nI w) (-1) I J) F = F (nI 0) I J := b2
    unfold f_Model_check
    rw [nI_clamp (n := w) (by omega), if_neg zw, pl_eq, hc]
    rcases (show s = 1 ∨ s = 3 ∨ s = 5 ∨ s = 7 by omega) with e | e | e | e <;>
    · rw [e, if_neg (by decide), oc_oc, b2', if_neg (show ¬ ¬ nI 0 = 0 from fun x => x rfl), oc_some]
      rfl
  · refine Or.inr ⟨b1, ?_⟩
    have b2' : ∀ {α : Type} {F : Int32 → MI → MJ → Option α}, oc (f_Model_receive (nI w) (-1) I J) F = F (nI 1) I2 J := b2
    have b6' : ∀ j, j < P → I2 150 (4 * j + w) = nI (if j ≠ w then gt j - 1 else gt j) := fun j hj => by
      rw [b6 j hj]
      by_cases y : j ≠ w
      · rw [if_pos ⟨y, rfl⟩, if_pos y]
      · rw [if_neg (fun z => y z.1), if_neg y]
    by_cases e1 : s = 1
    · obtain ⟨A0, q0, r0, s0, t0⟩ := UP1 I2 142 w (nI c)
      refine ⟨A0, fun {α F} => ?_, fun a a1 a2 a3 => by rw [r0 a a3, b3 a a1 a2], fun i hi => ⟨by rw [r0 132 (by decide)]; exact b4 i hi, by rw [t0 i hi, b3 142 (by decide) (by decide)]⟩, by rw [r0 132 (by decide)]; exact b5, by rw [if_pos e1]; exact s0, by rw [r0 150 (by decide)]; exact b6', by rw [r0 150 (by decide)]; exact b7⟩
      unfold f_Model_check
      rw [nI_clamp (n := w) (by omega), if_neg zw, pl_eq, hc, e1, if_neg (by decide), oc_oc, b2', if_pos (show ¬ nI 1 = 0 by decide), if_neg (show ¬ ¬ nI 1 = 1 from fun x => x rfl), if_neg zw, q0, pl_eq, oc_oc, oc_some, if_pos (by decide), oc_some, if_neg (by decide)]
      rfl
    · refine ⟨I2, fun {α F} => ?_, fun a a1 a2 _ => b3 a a1 a2, fun i hi => ⟨b4 i hi, by rw [b3 142 (by decide) (by decide)]⟩, b5, by rw [if_neg e1, b3 142 (by decide) (by decide)], b6', b7⟩
      unfold f_Model_check
      rw [nI_clamp (n := w) (by omega), if_neg zw, pl_eq, hc]
      by_cases e7 : s = 7
      · rw [e7, if_neg (by decide), oc_oc, b2', if_pos (show ¬ nI 1 = 0 by decide), if_pos (show ¬ nI 7 = 1 by decide), oc_oc, oc_some, if_neg (show ¬ ¬ nI 7 = 7 from fun x => x rfl), oc_oc, if_pos rfl]
        rfl
      · rcases (show s = 3 ∨ s = 5 by omega) with e | e <;>
        · rw [e, if_neg (by decide), oc_oc, b2', if_pos (show ¬ nI 1 = 0 by decide), if_pos (by decide), oc_oc, oc_some, if_pos (by decide), oc_some, if_neg (by decide)]
          rfl
theorem HO7 {ev : Nat} {ix kd : Nat → Nat} {p2 : Int32} (hw : w < 4) (hev : ev ≤ 30001) (h135 : I 135 w = nI ev) : ∀ (d fu e : Nat), e + d = ev → d < fu → (∀ x, e ≤ x → x < ev → I 151 x = nI (kd x) ∧ kd x < 100 ∧ ix (x + 1) = ix x + num (kd x)) → (ix e ≤ ix ev) ∧ f_Model_hasOpened_7 p2 fu (nI w) (nI e) I J = some (if ix ev = ix e then Sum.inr () else Sum.inl 1, I, J) := by
  have zw := nin hw (show 4 < 2 ^ 31 by decide)
  intro d
  induction d with
  | zero =>
    intro fu e h1 h2 h3
    obtain ⟨g, rfl⟩ : ∃ g, fu = g + 1 := ⟨fu - 1, by omega⟩
    have e1 : e = ev := by omega
    refine ⟨by rw [e1]; exact Nat.le_refl _, ?_⟩
    rw [f_Model_hasOpened_7, nI_clamp (n := w) (by omega), if_neg zw, h135, if_pos (nI_le (by omega) (by omega)), e1, if_pos rfl]
  | succ d ih =>
    intro fu e h1 h2 h3
    obtain ⟨g, rfl⟩ : ∃ g, fu = g + 1 := ⟨fu - 1, by omega⟩
    obtain ⟨a1, a2, a3⟩ := h3 e (by omega) (by omega)
    obtain ⟨r1, r2⟩ := ih g (e + 1) (by omega) (by omega) (fun x x1 x2 => h3 x (by omega) x2)
    refine ⟨by omega, ?_⟩
    rw [f_Model_hasOpened_7, nI_clamp (n := w) (by omega), if_neg zw, h135, if_neg (nI_ge (by omega) (by omega)), if_neg (nI_in (by omega) (by decide)), nI_clamp (n := e) (by omega), a1]
    by_cases k1 : kd e = 1
    · have n0 : num (kd e) = 0 := by rw [k1]; rfl
      rw [if_pos (show nI (kd e) = 1 by rw [k1]; rfl), nI_1, r2, show ix (e + 1) = ix e by omega]
    · have n1 : 1 ≤ num (kd e) := by
        unfold num
        split
        · omega
        · split
          · omega
          · first | omega | (split <;> omega)
      rw [if_neg (show ¬ nI (kd e) = 1 from fun y => k1 ((nI_eq (b := 1) (by omega) (by omega)).mp y)), if_neg (show ¬ ix ev = ix e by omega)]
theorem HOP {ev ck : Nat} {ix kd : Nat → Nat} (hw : w < 4) (hev : ev ≤ 30001) (hck : ck ≤ ev) (hix : ix ck = 0) (h135 : I 135 w = nI ev) (h136 : I 136 w = nI ck) (h3 : ∀ x, ck ≤ x → x < ev → I 151 x = nI (kd x) ∧ kd x < 100 ∧ ix (x + 1) = ix x + num (kd x)) {α : Type} {F : Int32 → MI → MJ → Option α} : oc (f_Model_hasOpened (nI w) I J) F = F (nI (if ix ev = 0 then 0 else 1)) I J := by
  have zw := nin hw (show 4 < 2 ^ 31 by decide)
  obtain ⟨r1, r2⟩ := HO7 (J := J) (p2 := nI w) hw hev h135 (ev - ck) gF ck (by omega) (by unfold gF; omega) h3
  unfold f_Model_hasOpened
  rw [nI_clamp (n := w) (by omega), if_neg zw, pl_eq, h136, r2, oc_some, hix]
  by_cases y : ix ev = 0
  · rw [if_pos y, if_pos y]
    rfl
  · rw [if_neg y, if_neg y]
    rfl
end CHM
