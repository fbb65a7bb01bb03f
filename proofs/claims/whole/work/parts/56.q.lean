/-! compile: statements that begin with a variable -/
def mVar (R : M3) (v1 : Int32) (I10 : MI) (J10 : MJ) : M2 Int32 := pl (I10 112 5 : Int32) (fun x12 => pl (va_up I10 112 (upd (I10 112) 5 ((I10 112 5) + 1))) (fun I13 => oc (f_Model_takes 60 I13 J10) (fun v14 I14 J14 => if v14 = 0 then (oc (f_Model_takes 61 I14 J14) (fun v16 I16 J16 => if v16 = 0 then (oc (f_Model_takes 33 I16 J16) (fun v18 I18 J18 => if v18 = 0 then (oc (f_Model_takes 58 I18 J18) (fun v20 I20 J20 => if ¬ v20 = 0 then mOpn v1 x12 I20 J20 else (oc (f_Model_refuse  I20 J20) (fun v44 I44 J44 => if v44 = 0 ∨ v44 = 1 then some (v44, I44, J44) else none)))) else (oc (f_Model_readBit v1 x12 I18 J18) (fun v46 I46 J46 => if v46 = 0 ∨ v46 = 1 then some (v46, I46, J46) else none)))) else (oc (R 8 v1 x12 I16 J16) (fun v48 I48 J48 => if v48 = 0 ∨ v48 = 1 then some (v48, I48, J48) else none)))) else (oc (f_Model_readInput v1 x12 I14 J14) (fun v50 I50 J50 => if v50 = 0 ∨ v50 = 1 then some (v50, I50, J50) else none)))))
theorem readSt_eq {R : M3} {I : MI} {J : MJ} : f_Model_readStatement R I J = oc (f_Model_see  I J) (fun v1 I1 J1 => if ¬ v1 = 62 then (if v1 = 63 then (oc (R 10 v1 0 I1 J1) (fun v4 I4 J4 => if v4 = 0 ∨ v4 = 1 then some (v4, I4, J4) else none)) else (if ¬ v1 = 42 then (if ¬ v1 = 64 then (oc (f_Model_isRow  I1 J1) (fun v8 I8 J8 => if v8 = 0 then (oc (f_Model_isVariable  I8 J8) (fun v10 I10 J10 => if ¬ v10 = 0 then mVar R v1 I10 J10 else (oc (f_Model_refuse  I10 J10) (fun v52 I52 J52 => if v52 = 0 ∨ v52 = 1 then some (v52, I52, J52) else none)))) else (oc (R 9 v1 0 I8 J8) (fun v54 I54 J54 => if v54 = 0 ∨ v54 = 1 then some (v54, I54, J54) else none)))) else (oc (R 7 0 0 I1 J1) (fun v56 I56 J56 => if v56 = 0 ∨ v56 = 1 then some (v56, I56, J56) else none))) else (oc (R 10 v1 0 I1 J1) (fun v58 I58 J58 => if v58 = 0 ∨ v58 = 1 then some (v58, I58, J58) else none)))) else (oc (f_Model_readOut  I1 J1) (fun v60 I60 J60 => if v60 = 0 ∨ v60 = 1 then some (v60, I60, J60) else none))) := rfl
theorem varSt_eq {R : M3} {p2 p3 : Int32} {I : MI} {J : MJ} : f_Translator_variableStatement R p2 p3 I J = oc (f_Translator_pass  I J) (fun v1 I1 J1 => oc (f_Translator_look  I1 J1) (fun v2 I2 J2 => if ¬ v2 = 61 then (if ¬ v2 = 60 then (if ¬ v2 = 58 then (if ¬ v2 = 33 then (oc (f_Translator_refuse  I2 J2) (fun v7 I7 J7 => some ((), I7, J7))) else (oc (f_Translator_pass  I2 J2) (fun v8 I8 J8 => cBit p2 p3 I8 J8))) else (oc (f_Translator_pass  I2 J2) (fun v12 I12 J12 => oc (f_Translator_opening p2 p3 I12 J12) (fun v13 I13 J13 => some ((), I13, J13))))) else (oc (f_Translator_pass  I2 J2) (fun v14 I14 J14 => oc (f_Translator_input p2 p3 I14 J14) (fun v15 I15 J15 => some ((), I15, J15))))) else (oc (f_Translator_pass  I2 J2) (fun v16 I16 J16 => oc (R 3 p2 p3 I16 J16) (fun v17 I17 J17 => some ((), I17, J17)))))) := rfl
section CM
variable {n P m D U k p c q : Nat} {t : Nat → Nat} {I I' : MI} {J J' : MJ} {f8 f9 g2 g3 g4 g5 : Nat → Int32} {cc cm : Nat → Nat}
/-- a statement's answers pass through -/
theorem OS_map {α β : Type} {rC : M2 α} {rM : M2 Int32} {w : β} (h : OS n t P D U J J' q m k rC rM) : OS n t P D U J J' q m k (oc rC (fun _ I J => some (w, I, J))) (oc rM (fun v I J => if v = 0 ∨ v = 1 then some (v, I, J) else none)) := by
  rcases h with ⟨x, I1', h1, h2, h3, h4⟩ | ⟨v, I1, I1', q', m', k', p', f8, f9, g2, g3, g4, g5, c, cc, cm, h1, h2, h3⟩
  · refine Or.inl ⟨x, I1', zk_oc h1 (fun _ _ h => zk_some h), ?_, h3, h4⟩
    rw [h2]
    rfl
  · refine Or.inr ⟨w, I1, I1', q', m', k', p', f8, f9, g2, g3, g4, g5, c, cc, cm, ?_, ?_, h3⟩
    · rw [h1, oc_some]
    · rw [h2]
      rfl
theorem OS_id {rC : M2 Unit} {rM : M2 Int32} (h : OS n t P D U J J' q m k rC rM) : OS n t P D U J J' q m k rC (oc rM (fun v I J => if v = 0 ∨ v = 1 then some (v, I, J) else none)) := by
  rcases h with ⟨x, I1', h1, h2, h3, h4⟩ | ⟨v, I1, I1', q', m', k', p', f8, f9, g2, g3, g4, g5, c, cc, cm, h1, h2, h3⟩
  · refine Or.inl ⟨x, I1', h1, ?_, h3, h4⟩
    rw [h2]
    rfl
  · refine Or.inr ⟨v, I1, I1', q', m', k', p', f8, f9, g2, g3, g4, g5, c, cc, cm, h1, ?_, h3⟩
    rw [h2]
    rfl
theorem OS_mc {α β : Type} {rC : M2 α} {rM : M2 Int32} {w : β} (h : OS n t P D U J J' q m k rC rM) : OS n t P D U J J' q m k (oc rC (fun _ I J => some (w, I, J))) rM := by
  rcases h with ⟨x, I1', h1, h2, h3, h4⟩ | ⟨v, I1, I1', q', m', k', p', f8, f9, g2, g3, g4, g5, c, cc, cm, h1, h2, h3⟩
  · exact Or.inl ⟨x, I1', zk_oc h1 (fun _ _ h => zk_some h), h2, h3, h4⟩
  · refine Or.inr ⟨w, I1, I1', q', m', k', p', f8, f9, g2, g3, g4, g5, c, cc, cm, ?_, h2, h3⟩
    rw [h1, oc_some]
theorem RT3 {fu : Nat} {a b : Int32} : f_RcT (fu + 1) 3 a b I J = oc (f_Translator_assign (f_RcT fu) a b I J) (fun _ I J => some (0, I, J)) := rfl
theorem RM8 {fu : Nat} {a b : Int32} : f_RcM (fu + 1) 8 a b I J = f_Model_readValue (f_RcM fu) a b I J := rfl
theorem cC_ne {s x : Nat} (ht : tpOK n t) (hx : x < 1000) (h : ¬ (s < n ∧ t s = x)) : ¬ cCq n t s = nI x := by
  by_cases q : s < n
  · rw [cC_lt q]
    exact fun c => h ⟨q, (nI_eq (by have := (ht.2 s q).2; omega) (by omega)).mp c⟩
  · rw [cC_ge (by omega)]
    exact fun c => by rw [m1_ne (n := x) (by omega)] at c; exact c
theorem cM_ne {s x : Nat} (ht : tpOK n t) (hx : x < 1000) (h0 : 0 < x) (h : ¬ (s < n ∧ t s = x)) : ¬ cM n t s = nI x := by
  by_cases q : s < n
  · rw [cM_lt q]
    exact fun c => h ⟨q, (nI_eq (by have := (ht.2 s q).2; omega) (by omega)).mp c⟩
  · rw [cM_ge (by omega)]
    exact fun c => by have := (nI_eq (by omega) (by omega)).mp c; omega
theorem VST {v f f' : Nat} (ht : tpOK n t) (hD : D ≤ 20) (hP : P ≤ 4) (hv : v < 26) (hq : q < n) (hf : 5 * (21 - D) + 5 ≤ f) (hf' : 5 * (21 - D) + 5 ≤ f') (hA : CA n t P I q m D U k p f8 f9 cc) (hM : MA n t P I' q m D U k p g2 g3 g4 g5 c cm) (hT : TB f8 f9 g2 g3 g5 c q) (hC : k = 0 → CODE P cc cm m 0 f8 g3 g4 c) (hm : m ≤ 5 * q) : OS n t P D U J J' q m k (f_Translator_variableStatement (f_RcT f) (nI v) (nI q) I J) (mVar (f_RcM f') (nI (v + 97)) I' J') := by
  have hn := ht.1
  obtain ⟨g, rfl⟩ : ∃ g, f = g + 1 := ⟨f - 1, by omega⟩
  obtain ⟨g', rfl⟩ : ∃ g, f' = g + 1 := ⟨f' - 1, by omega⟩
  have p5 : I' 112 5 = nI q := hM.2.2.1
  obtain ⟨I1, a1, a2⟩ := PC (J := J) hA hq
  obtain ⟨I1', b1, b2, _, _⟩ := PM hM hq
  obtain ⟨I2, c1, c2, c3, c4, c5⟩ := LC (J := J) ht a2
  rw [varSt_eq, a1, c1]
  unfold mVar
  rw [pl_eq, b1, p5]
  have hTT : TB f8 f9 g2 g3 g5 c (spq n t (q + 1) + 1) := TB_mono hT (by omega)
  have tk : ∀ (x : Int32) (ch : Nat), x = nI ch → 0 < ch → ch < 1000 → ∀ I0', MA n t P I0' (q + 1) m D U k p g2 g3 g4 g5 c cm ∨ MA n t P I0' (spq n t (q + 1)) m D U k p g2 g3 g4 g5 c cm → ∃ I1', (∀ {α : Type} {F : Int32 → MI → MJ → Option α}, oc (f_Model_takes x I0' J') F = F (if spq n t (q + 1) < n ∧ t (spq n t (q + 1)) = ch then nI 1 else nI 0) I1' J') ∧ (spq n t (q + 1) < n ∧ t (spq n t (q + 1)) = ch → MA n t P I1' (spq n t (q + 1) + 1) m D U k p g2 g3 g4 g5 c cm) ∧ (¬ (spq n t (q + 1) < n ∧ t (spq n t (q + 1)) = ch) → MA n t P I1' (spq n t (q + 1)) m D U k p g2 g3 g4 g5 c cm) := by
    intro x ch hx h0 h1 I0' hM0
    have hid : spq n t (spq n t (q + 1)) = spq n t (q + 1) := spq_id (spq_lk n t (q + 1))
    by_cases e : spq n t (q + 1) < n ∧ t (spq n t (q + 1)) = ch
    · rcases hM0 with hM0 | hM0
      · obtain ⟨I1', r1, r2, _⟩ := TKM (J := J') ht hx h1 hM0 e.1 e.2
        exact ⟨I1', fun {α F} => by rw [if_pos e]; exact r1, fun _ => r2, fun c => absurd e c⟩
      · have r := TKM (J := J') ht hx h1 hM0 (by rw [hid]; exact e.1) (by rw [hid]; exact e.2)
        rw [hid] at r
        obtain ⟨I1', r1, r2, _⟩ := r
        exact ⟨I1', fun {α F} => by rw [if_pos e]; exact r1, fun _ => r2, fun c => absurd e c⟩
    · rcases hM0 with hM0 | hM0
      · obtain ⟨I1', r1, r2, _⟩ := TKN (J := J') ht hx h0 h1 hM0 e
        exact ⟨I1', fun {α F} => by rw [if_neg e]; exact r1, fun c => absurd c e, fun _ => r2⟩
      · have r := TKN (J := J') ht hx h0 h1 hM0 (by rw [hid]; exact e)
        rw [hid] at r
        obtain ⟨I1', r1, r2, _⟩ := r
        exact ⟨I1', fun {α F} => by rw [if_neg e]; exact r1, fun c => absurd c e, fun _ => r2⟩
  generalize spq n t (q + 1) = s at c1 c2 c3 c4 c5 tk hTT
  obtain ⟨T1, t1, t1y, t1n⟩ := tk 60 60 rfl (by omega) (by omega) I1' (Or.inl b2)
  rw [t1]
  by_cases w60 : s < n ∧ t s = 60
  · obtain ⟨I3, d1, d2⟩ := PC (J := J) c2 w60.1
    rw [if_pos w60, if_neg (show ¬ nI 1 = 0 by decide), cC_lt w60.1, w60.2, if_pos (show ¬ nI 60 = 61 by decide), if_neg (show ¬ ¬ nI 60 = 60 from fun x => x rfl), d1]
    exact OS_map (INP (q0 := q) ht hv (by omega) hP d2 (t1y w60) hTT hC (by omega) hm)
  · rw [if_neg w60, if_pos (show nI 0 = 0 from rfl)]
    obtain ⟨T2, t2, t2y, t2n⟩ := tk 61 61 rfl (by omega) (by omega) T1 (Or.inr (t1n w60))
    rw [t2]
    have k60 := cC_ne ht (show 60 < 1000 by omega) w60
    by_cases w61 : s < n ∧ t s = 61
    · obtain ⟨I3, d1, d2⟩ := PC (J := J) c2 w61.1
      rw [if_pos w61, if_neg (show ¬ nI 1 = 0 by decide), cC_lt w61.1, w61.2, if_neg (show ¬ ¬ nI 61 = 61 from fun x => x rfl), d1, RT3, RM8]
      exact OS_map (OS_mc (ASG (q0 := q) ht hD hv (by omega) (by omega) (by omega) d2 (t2y w61) hTT hC (by omega) hm))
    · rw [if_neg w61, if_pos (show nI 0 = 0 from rfl)]
      obtain ⟨T3, t3, t3y, t3n⟩ := tk 33 33 rfl (by omega) (by omega) T2 (Or.inr (t2n w61))
      rw [t3]
      have k61 := cC_ne ht (show 61 < 1000 by omega) w61
      by_cases w33 : s < n ∧ t s = 33
      · obtain ⟨I3, d1, d2⟩ := PC (J := J) c2 w33.1
        rw [if_pos w33, if_neg (show ¬ nI 1 = 0 by decide), cC_lt w33.1, w33.2, if_pos (show ¬ nI 33 = 61 by decide), if_pos (show ¬ nI 33 = 60 by decide), if_pos (show ¬ nI 33 = 58 by decide), if_neg (show ¬ ¬ nI 33 = 33 from fun x => x rfl), d1]
        exact OS_id (BIT (q0 := q) ht hv (by omega) d2 (t3y w33) hTT hC (by omega) hm)
      · rw [if_neg w33, if_pos (show nI 0 = 0 from rfl)]
        obtain ⟨T4, t4, t4y, t4n⟩ := tk 58 58 rfl (by omega) (by omega) T3 (Or.inr (t3n w33))
        rw [t4]
        have k33 := cC_ne ht (show 33 < 1000 by omega) w33
        by_cases w58 : s < n ∧ t s = 58
        · obtain ⟨I3, d1, d2⟩ := PC (J := J) c2 w58.1
          rw [if_pos w58, if_pos (show ¬ nI 1 = 0 by decide), cC_lt w58.1, w58.2, if_pos (show ¬ nI 58 = 61 by decide), if_pos (show ¬ nI 58 = 60 by decide), if_neg (show ¬ ¬ nI 58 = 58 from fun x => x rfl), d1]
          exact OS_mc (OPN (q0 := q) ht hv (by omega) d2 (t4y w58) hTT hC (by omega) hm)
        · have k58 := cC_ne ht (show 58 < 1000 by omega) w58
          obtain ⟨I3, d1, d2⟩ := RC (J := J) c2
          obtain ⟨R1', r3, r4, r5⟩ := RM (J := J') ht (t4n w58) c3
          rw [if_neg w58, if_neg (show ¬ ¬ nI 0 = 0 from fun x => x rfl), if_pos (show ¬ cCq n t s = 61 from k61), if_pos (show ¬ cCq n t s = 60 from k60), if_pos (show ¬ cCq n t s = 58 from k58), if_pos (show ¬ cCq n t s = 33 from k33), d1, r3]
          exact Or.inl ⟨nI s, R1', zk_some d2, rfl, r4, r5⟩
end CM
