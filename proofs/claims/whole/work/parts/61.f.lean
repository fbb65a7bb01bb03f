/-! party, of both, kept -/
section PARTYC
variable {cd : Nat → Nat} {sd : Int64} {V c0 S : Nat → Nat → Nat} {P n B a : Nat} {st : Nat → Bool} {hg : Nat → Nat} {X : MX} {I I' : MI} {J J' : MJ} {p2 p3 : Int32}
/-- what is asked of the status of a party of a run -/
theorem STSq (hS : ST cd st hg n P B c0) (hR : RU cd st hg n P B sd V c0 S X I J I' J') (ha : a < P) : ∃ I1 J1, (∀ {α : Type} {F : Int32 → MI → MJ → Option α}, oc (f_Model_statusOf (nI a) I' J') F = F (nI (stt cd (tr cd (sd + 7000003) V c0 (S 0 a)) (S 2 a) (S 3 a))) I1 J1) ∧ RU cd st hg n P B sd V c0 S X I J I1 J1 ∧ RT I' I1 J' J1 := by
  have hR0 := hR
  obtain ⟨hM, hMM, hT, hI, hN, hJ⟩ := hR
  have hP := hS.2.1.2
  obtain ⟨-, -, ⟨r129, r130, r131, r132, r133, r134, r135, r136, r137, r138, -⟩, -, -⟩ := hMM.2.2.2 a ha
  have h34 : ¬ I' 112 34 = 0 := by rw [hMM.1.2.2.1]; decide
  have b := (hN.1 a ha).2.2.2.2.1
  by_cases f2 : S 2 a = 0
  · by_cases f3 : S 3 a = 0
    · obtain ⟨I1, J1, x1, x2, x3, -⟩ := MM_set hS.1 hP ha hMM rfl (hN.1 a ha).1 f2 f3
      refine ⟨I1, J1, fun {α F} => ?_, ⟨hM, x2, RT.tam hT x3, hI, hN, hJ⟩, x3⟩
      rw [x1]
      unfold stt
      rw [if_neg (show ¬ S 2 a ≠ 0 from fun z => z f2), if_neg (show ¬ S 3 a ≠ 0 from fun z => z f3)]
    · refine ⟨I', J', fun {α F} => ?_, hR0, ⟨fun _ _ _ _ _ => rfl, fun _ _ _ => rfl, fun _ _ => rfl⟩⟩
      rw [STA4 (by omega) h34 (by rw [r137, f2]) r138 (by omega) f3]
      unfold stt
      rw [if_neg (show ¬ S 2 a ≠ 0 from fun z => z f2), if_pos (show S 3 a ≠ 0 from f3)]
  · refine ⟨I', J', fun {α F} => ?_, hR0, ⟨fun _ _ _ _ _ => rfl, fun _ _ _ => rfl, fun _ _ => rfl⟩⟩
    rw [STA3 (by omega) h34 r137 (by omega) f2]
    unfold stt
    rw [if_pos f2]
theorem partyC (h : REL X I J I' J') : CN X (f_Sh_party p2 p3 I J) (f_Model_party p2 p3 I' J') := by
  obtain ⟨P, B, sd, n, cd, hL, hw, hr'⟩ := h.2.2.2
  rcases hr' with ⟨V, G, a1, a2, a3⟩ | ⟨V, c0, S, st, hg, hS, hR, hix⟩
  · have hP := a1.1.1.2
    have m6 := a1.1.2.2.1.1
    have n16 : TH0 I' 0 112 16 = nI P := (TH_n (by decide)).trans a1.1.2.2.2.1.1
    have n34 : TH0 I' 0 112 34 = nI 0 := (TH_n (by decide)).trans a3
    rcases PTY p2 hP with ⟨a, ha, e⟩ | hb
    · obtain ⟨q1, q2, q3, q4, q5, q6, q7, q8, qi, r1, r2, r3, r4, r5, r6, r7, r8, qb⟩ := a1.2 a ha
      obtain ⟨u, x1, x2⟩ := PTB (p3 := p3) (v4 := 2) (I := I) (I4 := TH0 I' 0) (J := J) (J4 := J') hP ha m6 n16 ⟨fun _ => n34, fun _ => a2⟩ (by
        rw [q4, q5, nI_sb qb.2.2.1]
        exact r5.symm) (by
        rw [q2, q3]
        show _ = I' 125 a - I' 126 a
        rw [r2, r3]) (fun _ => rfl) (fun z => absurd a2 z)
      refine ⟨u, I, J, TH0 I' 0, J', by rw [e]; exact x1, ?_, REL_th h⟩
      rw [PTY_e, pl_eq, e, show va_up I' 112 (upd (I' 112) 0 0) = TH0 I' 0 from rfl, ISP1 hP n16 ha, if_pos (show ¬ nI 1 = 0 by decide)]
      unfold f_Model_statusOf
      rw [n34, if_neg (fun z => z rfl), oc_some]
      exact x2
    · refine ⟨-1, I, J, TH0 I' 0, J', ?_, ?_, REL_th h⟩
      · unfold f_Sh_party
        rw [HAS0 m6 hb, if_neg (fun z => z rfl)]
      · rw [PTY_e, pl_eq, show va_up I' 112 (upd (I' 112) 0 0) = TH0 I' 0 from rfl, ISP0 n16 hb, if_neg (fun z => z rfl)]
  · have hP := hS.2.1.2
    have hR1 := RU_th (v := 0) hR
    have m6 := hR.1.1.1
    have n16 : TH0 I' 0 112 16 = nI P := hR1.2.1.1.1
    rcases PTY p2 hP with ⟨a, ha, e⟩ | hb
    · obtain ⟨I1, J1, s1, s2, s3⟩ := STSq hS hR1 ha
      obtain ⟨hM, hMM, hT, hI, hN, hJ⟩ := s2
      obtain ⟨⟨c0', c6, c8, c9, c10, c11, c12, c13, c14⟩, cv, ⟨-, k5, k6, k7, k8⟩, ⟨t2, t3, t4, t5, u0, u1, u2, ui⟩, ⟨o5, o6, o7, o8, o33, o34, o35, o36, o37⟩, ov⟩ := hM.2.2 a ha
      obtain ⟨⟨pos, h', sk, p1, p2', p3', p4, p5⟩, pb, ⟨r129, r130, r131, r132, r133, r134, r135, r136, r137, r138, r139, r142, r118, r121, r122, r123, r125, r126, r119, r120⟩, ⟨d1, d2, d3, d4, d5⟩, po⟩ := hMM.2.2.2 a ha
      have na := hN.1 a ha
      have n9 : ¬ I 14 9 = 0 := by rw [hM.1.2.2.1]; decide
      have n34 : ¬ I1 112 34 = 0 := by rw [hMM.1.2.2.1]; decide
      obtain ⟨u, x1, x2⟩ := PTB (p3 := p3) (v4 := nI (stt cd (tr cd (sd + 7000003) V c0 (S 0 a)) (S 2 a) (S 3 a))) (I := I) (I4 := I1) (J := J) (J4 := J1) hP ha m6 hMM.1.1 ⟨fun z => absurd z n9, fun z => absurd z n34⟩ (by
        rw [t4, t5, nI_sb na.2.2.2.1.1]
        exact r119.symm) (by rw [t2, t3, r125, r126]) (fun z => absurd z n9) (fun _ => ⟨c0', c10, c13.trans r129.symm, o5.trans r130.symm, o7.trans r132.symm, c6.trans r133.symm, c12.trans r138.symm, k5.trans r134.symm, c11.trans r137.symm, cv.2.2.2.2.2.2.1.1.trans p3'.2.2.2.1.1.symm, fun j hj => ⟨(o33 j hj).trans (d3 j hj).symm, (o34 j hj).trans (d4 j hj).symm, (o35 j hj).trans (d5 j hj).symm⟩, by rw [d3 a ha, hI.2.2.2.1 a ha], by rw [d4 a ha, (hJ a ha).2.1], by rw [d5 a ha, (hJ a ha).1]⟩)
      refine ⟨u, I, J, I1, J1, by rw [e]; exact x1, ?_, ?_⟩
      · rw [PTY_e, pl_eq, e, show va_up I' 112 (upd (I' 112) 0 0) = TH0 I' 0 from rfl, ISP1 hP n16 ha, if_pos (show ¬ nI 1 = 0 by decide), s1]
        exact x2
      · exact REL_run h hL hw hS ⟨hM, hMM, hT, hI, hN, hJ⟩ hix CFG.rfl ⟨fun b b1 b2 b3 b4 => (s3.1 b b1 b2 b3 b4).trans (va_up_ne _ _ b2), fun j j0 j1 j2 _ => (s3.2.1 j j1 j2).trans (TH_n j0), s3.2.2⟩ XR.rfl
    · refine ⟨-1, I, J, TH0 I' 0, J', ?_, ?_, REL_th h⟩
      · unfold f_Sh_party
        rw [HAS0 m6 hb, if_neg (fun z => z rfl)]
      · rw [PTY_e, pl_eq, show va_up I' 112 (upd (I' 112) 0 0) = TH0 I' 0 from rfl, ISP0 n16 hb, if_neg (fun z => z rfl)]
end PARTYC
