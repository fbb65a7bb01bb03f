/-! clear, output and bound, of both -/
theorem by_s : ∀ k, k < 32 → (nI k >>> ((2 : Int32) &&& 31) = nI (k / 4)) ∧ nI k / 4 = nI (k / 4) ∧ ((Int32.toUInt32 (24 - (8 * (nI k &&& 3))) &&& Int32.toUInt32 31).toBitVec % 32).toNat = 24 - 8 * (k % 4) ∧ (((24 - (8 * (nI k - nI (k / 4) * 4))) &&& 31 : Int32).toBitVec.smod 32).toNat = 24 - 8 * (k % 4) := by decide
theorem by_f : ∀ i, i < 32 → ¬ i < 8 → (255 : Int32).toBitVec.getLsbD i = false := by decide
/-- a byte of a word -/
def byt (x : Int32) (k : Nat) : Int32 := (x >>> ((24 - (8 * (nI k - nI (k / 4) * 4))) &&& 31)) &&& 255
theorem by_eq (x : Int32) {k : Nat} (hk : k < 32) : ((Int32.toUInt32 x >>> (Int32.toUInt32 (24 - (8 * (nI k &&& 3))) &&& Int32.toUInt32 31)).toInt32) &&& 255 = byt x k := by
  obtain ⟨-, -, s1, s2⟩ := by_s k hk
  unfold byt
  apply Int32.toBitVec_inj.1
  apply BitVec.eq_of_getLsbD_eq
  intro i hi
  rw [Int32.toBitVec_and, Int32.toBitVec_and, BitVec.getLsbD_and, BitVec.getLsbD_and]
  by_cases h8 : i < 8
  · congr 1
    rw [Int32.toBitVec_shiftRight]
    show (x.toUInt32 >>> (Int32.toUInt32 (24 - (8 * (nI k &&& 3))) &&& Int32.toUInt32 31)).toBitVec.getLsbD i = (x.toBitVec.sshiftRight ((((24 - (8 * (nI k - nI (k / 4) * 4))) &&& 31 : Int32).toBitVec.smod 32).toNat)).getLsbD i
    rw [UInt32.toBitVec_shiftRight]
    show (x.toUInt32.toBitVec >>> ((Int32.toUInt32 (24 - (8 * (nI k &&& 3))) &&& Int32.toUInt32 31).toBitVec % 32).toNat).getLsbD i = _
    rw [s1, s2, BitVec.getLsbD_ushiftRight, BitVec.getLsbD_sshiftRight, if_pos (show 24 - 8 * (k % 4) + i < 32 by omega), decide_eq_false (show ¬ 32 ≤ i by omega)]
    rfl
  · rw [by_f i hi h8, Bool.and_false, Bool.and_false]
theorem DGB (x y : Int64) {k : Nat} (hk : k < 32) (I : MI) (J : MJ) : ∃ I1, f_Digest_byteOf x y (nI k) I J = some (byt (dg_d x y (k / 4)) k, I1, J) ∧ ∀ a, a ≠ 109 → a ≠ 110 → I1 a = I a := by
  obtain ⟨w, d, e1, e2⟩ := dg_ok x y I J
  refine ⟨va_up (va_up I 109 w) 110 d, ?_, fun a a1 a2 => by rw [va_up_ne _ _ a2, va_up_ne _ _ a1]⟩
  have e3 : ∀ {α : Type} {F : Unit → MI → MJ → Option α}, oc (f_Digest_spread x y I J) (fun _ I1 J1 => oc (f_Digest_stir I1 J1) F) = F () (va_up (va_up I 109 w) 110 d) J := fun {α F} => by
    have := congrArg (fun z => oc z F) e1
    rw [oc_oc, oc_some] at this
    exact this
  obtain ⟨s1, -, -, -⟩ := by_s k hk
  unfold f_Digest_byteOf
  rw [e3, pl_eq, s1, if_neg (show ¬ nI (k / 4) < 0 from fun y => by have := (nI_ltI (b := 0) (by omega) (by omega)).mp y; omega), if_neg (show ¬ nI 8 ≤ nI (k / 4) from fun y => by have := (nI_leI (by omega) (by omega)).mp y; omega), nI_clamp (n := k / 4) (by omega), if_neg (nin (show k / 4 < 8 by omega) (by decide)), va_up_self, by_eq _ hk, e2 (k / 4) (by omega)]
section CALLS
variable {X : MX} {I I2 I' I2' : MI} {J J' : MJ} {p2 p3 p4 : Int32}
/-- the relation, where what is reckoned with has changed -/
theorem REL_b (h : REL X I J I' J') (hc : ∀ a, a ≤ 107 → I2 a = I a) (hr : ∀ a, 112 < a → a < 160 → I2' a = I' a) (h112 : ∀ j, j ≠ 0 → I2' 112 j = I' 112 j) : REL X I2 J I2' J' := by
  obtain ⟨⟨a1, a2, a3⟩, ⟨tot, hn, b1, b2, b3, b4, b5, b6⟩, hx, hs⟩ := h
  exact ⟨⟨R_tape_c a1 (by rw [hc 4 (by decide)]) (hc 5 (by decide)) (h112 2 (by decide)) (hr 113 (by decide) (by decide)), R_put_c a2 (by rw [hc 1 (by decide)]) (hc 2 (by decide)) (h112 12 (by decide)) (hr 116 (by decide) (by decide)), by unfold R_fault; rw [hc 0 (by decide), h112 3 (by decide), h112 4 (by decide)]; exact a3⟩, ⟨tot, hn, b1, by rw [hc 0 (by decide)]; exact b2, by rw [h112 30 (by decide)]; exact b3, b4, by rw [hc 0 (by decide)]; exact b5, by rw [h112 85 (by decide)]; exact b6⟩, hx, HS_c hs ⟨fun a _ h2 => ⟨hc a h2, rfl⟩, fun _ _ => rfl⟩ ⟨fun a h1 h2 => ⟨hr a (by omega) (by omega), rfl⟩, hr 114 (by decide) (by decide), fun j hj => h112 j (by unfold fH at hj; omega), rfl, rfl⟩ hx.2.2.2⟩
theorem clearC (h : REL X I J I' J') : CT X (f_Sh_clear p2 p3 I J) (f_Model_clear p2 p3 I' J') [(1, 3)] := by
  obtain ⟨P, B, sd, n, cd, hL, hw, hr'⟩ := h.2.2.2
  rcases hr' with ⟨V, G, a1, a2, a3⟩ | ⟨V, c0, S, st, hg, hS, hR, hix⟩
  · refine Or.inl ⟨3, 1, 0, I, J, TH0 I' 1, J', rfl, by decide, ?_, ?_, TH_0, REL_th h⟩
    · unfold f_Sh_clear
      rw [a2, if_pos (show nI 0 = 0 from rfl)]
    · unfold f_Model_clear
      rw [pl_eq, a3, if_pos (show nI 0 = 0 from rfl), oc_some, pl_eq, va_up_self, upd_s, if_neg (show ¬ (1 : Int32) ≤ 0 by decide)]
      rfl
  · obtain ⟨hM, hMM, hT, hI, hN, hJ⟩ := hR
    rcases CLR (p2 := p2) (p3 := p3) (J := J) (J' := J') (va := fun a => tr cd (sd + 7000003) V c0 (S 0 a) 2) hS.2.1.2 hM.1.1 hMM.1.1 (by rw [hM.1.2.2.1]; decide) (by rw [hMM.1.2.2.1]; decide) (fun a ha => by
      obtain ⟨-, cv, -⟩ := hM.2.2 a ha
      obtain ⟨⟨pos, h', sk, p1, p2, p3, p4, p5⟩, -⟩ := hMM.2.2.2 a ha
      exact ⟨cv.2.2.2.1, cv.2.2.2.2.2.1, fun i hi => (p3.2.2.1 i hi).2⟩) with ⟨x1, x2⟩ | ⟨v, x1, x2⟩
    · exact Or.inl ⟨3, 1, 0, I, J, TH0 I' 1, J', rfl, by decide, x1, x2, TH_0, REL_th h⟩
    · exact Or.inr ⟨v, I, J, TH0 I' 0, J', x1, x2, TH_0, REL_th h⟩
theorem outputC (h : REL X I J I' J') : CX X I J (f_Sh_output p2 p3 X I J) (f_Model_output p2 p3 I' J') [(1, 3)] := by
  obtain ⟨P, B, sd, n, cd, hL, hw, hr'⟩ := h.2.2.2
  rcases hr' with ⟨V, G, a1, a2, a3⟩ | ⟨V, c0, S, st, hg, hS, hR, hix⟩
  · refine Or.inl ⟨3, 1, 0, X, I, J, TH0 I' 1, J', rfl, by decide, ?_, ?_, TH_0, REL_th h, XR.rfl, CFG.rfl⟩
    · unfold f_Sh_output
      rw [a2, if_pos (show nI 0 = 0 from rfl)]
    · unfold f_Model_output
      rw [a3, if_pos (show nI 0 = 0 from rfl), oc_some, pl_eq, va_up_self, upd_s, if_pos (show ¬ (1 : Int32) = 0 by decide)]
      rfl
  · obtain ⟨hM, hMM, hT, hI, hN, hJ⟩ := hR
    have hx := h.2.2.1.1
    have xb : 168 + X.2.2.1 < 1000000000 := by
      have h1 := (hx.1 0 (by omega)).2.2.2
      have h2 := (hx.1 1 (by omega)).2.2.2
      have h3 := (hx.1 2 (by omega)).2.2.2
      have h4 := (hx.1 3 (by omega)).2.2.2
      have h5 := hx.2.2
      unfold xsum at h5
      omega
    rcases OPT (p2 := p2) (p3 := p3) (X := X) (J := J) (J' := J') (no := fun a => tr cd (sd + 7000003) V c0 (S 0 a) 0 3) (ou := fun a => tr cd (sd + 7000003) V c0 (S 0 a) 4) hS.2.1.2 hM.1.1 hMM.1.1 (by rw [hM.1.2.2.1]; decide) (by rw [hMM.1.2.2.1]; decide) xb (fun a ha => by
      obtain ⟨⟨a0, a6, -⟩, cv, -, -, -, ov⟩ := hM.2.2 a ha
      obtain ⟨-, -, ⟨r129, r130, r131, r132, r133, -⟩, -, po⟩ := hMM.2.2.2 a ha
      have hb := tr_BND (bs := sd + 7000003) (V := V) hS.2.2.2.1.1 (S 0 a)
      have hs := F_sc hN ha rfl
      exact ⟨by have := hb.2.1; omega, ov, a6, r133, po⟩) with ⟨x1, x2⟩ | ⟨v, x1, x2⟩
    · exact Or.inl ⟨3, 1, 0, X, I, J, TH0 I' 1, J', rfl, by decide, x1, x2, TH_0, REL_th h, XR.rfl, CFG.rfl⟩
    · exact Or.inr ⟨v, X, I, J, TH0 I' 0, J', x1, x2, TH_0, REL_th h, XR.rfl, CFG.rfl⟩
theorem boundC (h : REL X I J I' J') : CT X (f_Sh_bound p2 p3 p4 I J) (f_Model_bound p2 p3 p4 I' J') [(1, 3)] := by
  obtain ⟨P, B, sd, n, cd, hL, hw, hr'⟩ := h.2.2.2
  have bad : ∀ {r : M2 (Int32 ⊕ Nat)}, r = some (.inr 3, I, J) → f_Model_bound p2 p3 p4 I' J' = some (0, TH0 I' 1, J') → CT X r (f_Model_bound p2 p3 p4 I' J') [(1, 3)] := fun e1 e2 => Or.inl ⟨3, 1, 0, I, J, TH0 I' 1, J', rfl, by decide, e1, e2, TH_0, REL_th h⟩
  rcases hr' with ⟨V, G, a1, a2, a3⟩ | ⟨V, c0, S, st, hg, hS, hR, hix⟩
  · refine bad ?_ ?_
    · unfold f_Sh_bound
      rw [a2, if_pos (show nI 0 = 0 from rfl)]
    · unfold f_Model_bound
      rw [a3, if_pos (show nI 0 = 0 from rfl), oc_some, if_pos (show (0 : Int32) = 0 from rfl), pl_eq, pl_eq, if_neg (fun z => z rfl)]
      rfl
  · have hR' := hR
    obtain ⟨hM, hMM, hT, hI, hN, hJ⟩ := hR
    have n9 : ¬ I 14 9 = 0 := by rw [hM.1.2.2.1]; decide
    have n34 : ¬ I' 112 34 = 0 := by rw [hMM.1.2.2.1]; decide
    have hP := hS.2.1.2
    rcases PTY p2 hP with ⟨a, ha, ea⟩ | hb
    · rcases PTY p3 hP with ⟨b, hb, eb⟩ | hb
      · obtain ⟨-, -, ⟨-, k5, k6, k7, k8⟩, -⟩ := hM.2.2 a ha
        obtain ⟨-, -, ⟨r129, r130, r131, r132, r133, r134, r135, r136, r137, r138, r139, r142, -⟩, -, -⟩ := hMM.2.2.2 a ha
        have za := nin (show a < 4 by omega) (show 4 < 2 ^ 31 by decide)
        have zb := nin (show b < 4 by omega) (show 4 < 2 ^ 31 by decide)
        have pa : (if nI a < 0 then (0 : Int32) else if nI a ≤ 3 then nI a else 0) = nI a := by
          rw [if_neg (show ¬ nI a < 0 from fun y => by have := (nI_ltI (b := 0) (by omega) (by omega)).mp y; omega), if_pos (show nI a ≤ 3 from (nI_leI (b := 3) (by omega) (by omega)).mpr (by omega))]
        have refu : (p4 < 0 ∨ 32 ≤ p4 ∨ S 9 a = 0) → f_Model_bound p2 p3 p4 I' J' = some (0, TH0 I' 1, J') := fun z => by
          unfold f_Model_bound
          rw [if_neg n34, ea, eb, ISP1 hP hMM.1.1 ha, if_neg (show ¬ nI 1 = 0 by decide), ISP1 hP hMM.1.1 hb, if_neg (show ¬ nI 1 = 0 by decide)]
          by_cases q1 : p4 < 0
          · rw [if_pos q1, oc_some, if_pos (show (0 : Int32) = 0 from rfl), pl_eq, pl_eq, if_neg (fun z => z rfl)]
            rfl
          · rw [if_neg q1]
            by_cases q2 : 32 ≤ p4
            · rw [if_pos q2, oc_some, if_pos (show (0 : Int32) = 0 from rfl), pl_eq, pl_eq, if_neg (fun z => z rfl)]
              rfl
            · have s9 : S 9 a = 0 := by
                rcases z with z | z | z
                · exact absurd z q1
                · exact absurd z q2
                · exact z
              have e142 : I' 142 a = m1 := by
                rcases r142 with y | y
                · exact y.2
                · exact absurd s9 y.1
              rw [if_neg q2, pa, pl_eq, nI_clamp (n := a) (by omega), if_neg za, e142, if_pos (show m1 < 0 by decide), oc_some, if_pos (show (0 : Int32) = 0 from rfl), pl_eq, pl_eq, if_neg (fun z => z rfl)]
              rfl
        by_cases s9 : S 9 a = 0
        · refine bad ?_ (refu (Or.inr (Or.inr s9)))
          have e8 : I (25 + 21 * a) 8 = nI 0 := by
            rcases k8 with y | y
            · exact y.2
            · exact absurd s9 y.1
          unfold f_Sh_bound
          rw [if_neg n9, ea, eb, HAS1 hP hM.1.1 ha, if_neg (show ¬ nI 1 = 0 by decide), HAS1 hP hM.1.1 hb, if_pos (show ¬ nI 1 = 0 by decide), nI_clamp (n := a) (by omega), if_neg za, e8, if_pos (show nI 0 = 0 from rfl)]
        · have e8 : I (25 + 21 * a) 8 = nI 1 ∧ ∀ j, j < P → I (28 + 21 * a) j = nI (S (60 + j) (S 9 a - 1)) := by
            rcases k8 with y | y
            · exact absurd y.1 s9
            · exact y.2
          have e142 : I' 142 a = nI (S 9 a - 1) := by
            rcases r142 with y | y
            · exact absurd y.1 s9
            · exact y.2
          rcases nI_of3 p4 with e4 | ⟨k, k1, e4⟩
          · refine bad ?_ (refu (Or.inl e4))
            unfold f_Sh_bound
            rw [if_neg n9, ea, eb, HAS1 hP hM.1.1 ha, if_neg (show ¬ nI 1 = 0 by decide), HAS1 hP hM.1.1 hb, if_pos (show ¬ nI 1 = 0 by decide), nI_clamp (n := a) (by omega), if_neg za, e8.1, if_neg (show ¬ nI 1 = 0 by decide), if_pos e4]
          · have n4 : ¬ p4 < 0 := by rw [e4]; exact fun y => by have := (nI_ltI (b := 0) k1 (by omega)).mp y; omega
            by_cases k2 : k < 32
            · have q32 : p4 < 32 := by rw [e4]; exact (nI_ltI (b := 32) (by omega) (by omega)).mpr k2
              have n32 : ¬ 32 ≤ p4 := by rw [e4]; exact fun y => by have := (nI_leI (a := 32) (by omega) (by omega)).mp y; omega
              have hc := (hI.2.2.2.2.1 a ha).1 s9 b hb
              obtain ⟨y154, y155⟩ := hMM.2.2.1 b hb _ hc
              have hb5 := tr_BND (bs := sd + 7000003) (V := V) hS.2.2.2.1.1 (S 0 b)
              have hs := F_sc hN hb rfl
              have kb : 4 * (S 9 a - 1) + b < 16000 := by
                have h5 := hb5.2.2.2.2.1
                rcases hc with y | y
                · omega
                · have := y.1
                  omega
              obtain ⟨w1, d1, f1⟩ := dg_next (own sd b) (Int32.toInt64 (nI (S (60 + b) (S 9 a - 1)))) I J
              obtain ⟨w2, d2, f2⟩ := dg_next (own sd b) (Int32.toInt64 (nI (S (60 + b) (S 9 a - 1) + 1))) (va_up (va_up I 109 w1) 110 d1) J
              obtain ⟨I2, f3, f4⟩ := DGB (lN (dg_n (own sd b) (Int32.toInt64 (nI (S (60 + b) (S 9 a - 1)))))) (lN (dg_n (own sd b) (Int32.toInt64 (nI (S (60 + b) (S 9 a - 1) + 1))))) k2 (va_up (va_up (va_up (va_up I 109 w1) 110 d1) 109 w2) 110 d2) J
              obtain ⟨w3, d3, g1, g2⟩ := dm_ok (lN (dg_n (own sd b) (Int32.toInt64 (nI (S (60 + b) (S 9 a - 1)))))) (lN (dg_n (own sd b) (Int32.toInt64 (nI (S (60 + b) (S 9 a - 1) + 1))))) (TH0 I' 0) J'
              obtain ⟨-, s2, -, -⟩ := by_s k k2
              refine Or.inr ⟨byt (dg_d (lN (dg_n (own sd b) (Int32.toInt64 (nI (S (60 + b) (S 9 a - 1)))))) (lN (dg_n (own sd b) (Int32.toInt64 (nI (S (60 + b) (S 9 a - 1) + 1))))) (k / 4)) k, I2, J, va_up (va_up (TH0 I' 0) 160 w3) 161 d3, J', ?_, ?_, ?_, REL_b h (fun c hc => ?_) (fun c c1 c2 => ?_) (fun j hj => ?_)⟩
              · unfold f_Sh_bound
                rw [if_neg n9, ea, eb, HAS1 hP hM.1.1 ha, if_neg (show ¬ nI 1 = 0 by decide), HAS1 hP hM.1.1 hb, if_pos (show ¬ nI 1 = 0 by decide), nI_clamp (n := a) (by omega), if_neg za, e8.1, if_neg (show ¬ nI 1 = 0 by decide), if_neg n4, if_pos q32, if_neg za]
                unfold f_Hall_bondByte
                rw [HAS1 hP hM.1.1 hb, if_neg (show ¬ nI 1 = 0 by decide), nI_clamp (n := b) (by omega), if_neg zb, e8.2 b hb, oc_some]
                unfold f_Hall_ownSeed
                rw [oc_some, hM.1.2.2.2.2.1, show sd + 1000003 * Int32.toInt64 (nI b + 1) = own sd b from rfl, f1, oc_some, oc_some, hM.1.2.2.2.2.1, show sd + 1000003 * Int32.toInt64 (nI b + 1) = own sd b from rfl, nI_1, f2, oc_some, e4, f3, oc_some, oc_some]
              · unfold f_Model_bound
                rw [if_neg n34, ea, eb, ISP1 hP hMM.1.1 ha, if_neg (show ¬ nI 1 = 0 by decide), ISP1 hP hMM.1.1 hb, if_neg (show ¬ nI 1 = 0 by decide), if_neg n4, if_neg n32, pa, pl_eq, nI_clamp (n := a) (by omega), if_neg za, e142, if_neg (show ¬ nI (S 9 a - 1) < 0 from fun y => by have := (nI_ltI (b := 0) (by omega) (by omega)).mp y; omega), oc_some, if_neg (show ¬ (1 : Int32) = 0 by decide), pl_eq, pl_eq, if_pos (show ¬ (1 : Int32) = 0 by decide), if_neg za, show va_up I' 112 (upd (I' 112) 0 0) = TH0 I' 0 from rfl, show TH0 I' 0 142 a = nI (S 9 a - 1) from (congrFun (va_up_ne _ _ (by decide)) a).trans e142, show (4 : Int32) * nI (S 9 a - 1) + nI b = nI (4 * (S 9 a - 1) + b) from by rw [show (4 : Int32) = nI 4 from rfl, nI_mul, nI_add], pl_eq, nI_clamp (n := 4 * (S 9 a - 1) + b) (by omega), if_neg (nin kb (by decide)), if_neg (nin kb (by decide)), y154, y155, g1, oc_some, e4, s2, nI_clamp (n := k / 4) (by omega), if_neg (nin (show k / 4 < 8 by omega) (by decide)), va_up_self, g2 (k / 4) (by omega)]
                rfl
              · rw [va_up_ne _ _ (by decide), va_up_ne _ _ (by decide)]
                exact TH_0
              · rw [f4 c (by omega) (by omega), va_up_ne _ _ (by omega), va_up_ne _ _ (by omega), va_up_ne _ _ (by omega), va_up_ne _ _ (by omega)]
              · rw [va_up_ne _ _ (by omega), va_up_ne _ _ (by omega)]
                exact va_up_ne _ _ (by omega)
              · rw [va_up_ne _ _ (by decide), va_up_ne _ _ (by decide)]
                exact TH_n hj
            · refine bad ?_ (refu (Or.inr (Or.inl (by rw [e4]; exact (nI_leI (a := 32) (by omega) (by omega)).mpr (by omega)))))
              unfold f_Sh_bound
              rw [if_neg n9, ea, eb, HAS1 hP hM.1.1 ha, if_neg (show ¬ nI 1 = 0 by decide), HAS1 hP hM.1.1 hb, if_pos (show ¬ nI 1 = 0 by decide), nI_clamp (n := a) (by omega), if_neg za, e8.1, if_neg (show ¬ nI 1 = 0 by decide), if_neg n4, if_neg (show ¬ p4 < 32 by rw [e4]; exact fun y => by have := (nI_ltI (b := 32) (by omega) (by omega)).mp y; omega)]
      · refine bad ?_ ?_
        · unfold f_Sh_bound
          rw [if_neg n9, ea, HAS1 hP hM.1.1 ha, if_neg (show ¬ nI 1 = 0 by decide), HAS0 hM.1.1 hb, if_neg (fun z => z rfl)]
        · unfold f_Model_bound
          rw [if_neg n34, ea, ISP1 hP hMM.1.1 ha, if_neg (show ¬ nI 1 = 0 by decide), ISP0 hMM.1.1 hb, if_pos (show nI 0 = 0 from rfl), oc_some, if_pos (show (0 : Int32) = 0 from rfl), pl_eq, pl_eq, if_neg (fun z => z rfl)]
          rfl
    · refine bad ?_ ?_
      · unfold f_Sh_bound
        rw [if_neg n9, HAS0 hM.1.1 hb, if_pos (show nI 0 = 0 from rfl)]
      · unfold f_Model_bound
        rw [if_neg n34, ISP0 hMM.1.1 hb, if_pos (show nI 0 = 0 from rfl), oc_some, if_pos (show (0 : Int32) = 0 from rfl), pl_eq, pl_eq, if_neg (fun z => z rfl)]
        rfl
end CALLS
