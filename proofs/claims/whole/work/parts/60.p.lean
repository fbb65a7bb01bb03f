/-! run, of the class and of the reference -/
section RUN
variable {cd : Nat → Nat} {sd : Int64} {V c0 : Nat → Nat → Nat} {P n B a b : Nat} {st : Nat → Bool} {hg : Nat → Nat}
theorem q16 : ∀ q : Fin 16, nI q.val / 4 = nI (q.val / 4) ∧ nI q.val - nI q.val / 4 * 4 = nI (q.val % 4) := by decide
theorem q16' {q : Nat} (h : q < 16) : nI q / 4 = nI (q / 4) ∧ nI q - nI q / 4 * 4 = nI (q % 4) := q16 ⟨q, h⟩
/-- nothing to bring -/
theorem bring0 {S : Nat → Nat → Nat} {X : MX} {I I' : MI} {J J' : MJ} (hS : ST cd st hg n P B c0) (hR : RU cd st hg n P B sd V c0 S X I J I' J') (ha : a < P) (hb : b < P) (h0 : S (30 + a) b = 0 ∧ S (50 + a) b = 0) : (∀ {α : Type} {F : Int32 → MI → MJ → Option α}, oc (f_Hall_bring (nI a) (nI b) I J) F = F (nI 0) I J) ∧ (∀ {α : Type} {F : Int32 → MI → MJ → Option α}, oc (f_Model_brings (nI a) (nI b) I' J') F = F (nI 0) I' J') := by
  obtain ⟨hW, ⟨hP2, hP⟩, ⟨hB1, hB⟩, hC, hg0⟩ := hS
  obtain ⟨hM, hMM, hT, hI, hN, hJ⟩ := hR
  have wr := F_wr hP hC hI hN ha hb
  have nt1 := (hN.1 a ha).2.2.2.2.2.2.2 b hb
  obtain ⟨-, -, -, -, ⟨o5, o6, o7, o8, o33, o34, o35, o36, o37⟩, -⟩ := hM.2.2 a ha
  have ob35 := (hM.2.2 b hb).2.2.2.2.1.2.2.2.2.2.2.1 a ha
  have md := (hMM.2.2.2 a ha).2.2.2.1
  have mdb := (hMM.2.2.2 b hb).2.2.2.1.2.2.2.2 a ha
  refine ⟨?_, ?_⟩
  · rcases BRC (J := J) hP hM.1.1 ha hb (o33 b hb) wr (o34 b hb) nt1 ob35 with ⟨x1, x2, x3⟩ | ⟨x1, x2, -⟩ | ⟨x1, -⟩
    · exact x3
    · omega
    · omega
  · rcases BRM (J := J') hP ha hb (md.2.2.1 b hb) wr (md.2.2.2.1 b hb) nt1 mdb with ⟨y1, y2, y3⟩ | ⟨y1, y2, -⟩ | ⟨y1, -⟩
    · exact y3
    · omega
    · omega
/-- behind some bringing -/
def BB (cd : Nat → Nat) (st : Nat → Bool) (hg : Nat → Nat) (n P B : Nat) (sd : Int64) (V c0 S : Nat → Nat → Nat) (X : MX) (I : MI) (J : MJ) (I' : MI) (J' : MJ) (S1 : Nat → Nat → Nat) (I1 : MI) (I1' : MI) (J1' : MJ) : Prop := RU cd st hg n P B sd V c0 S1 X I1 J I1' J1' ∧ S1 20 = S 20 ∧ CFG I I1 J J ∧ RTG I' I1' J' J1'
theorem PAIR {p2 l1 l2 l4 : Int32} (hS : ST cd st hg n P B c0) (ha : a < P) (hb : b < P) {X : MX} {J : MJ} : ∀ (d i fu fv : Nat) (l3 m3 : Int32) (S : Nat → Nat → Nat) (I I' : MI) (J' : MJ), RU cd st hg n P B sd V c0 S X I J I' J' → S (30 + a) b + S (50 + a) b = d → i + d ≤ 5 → d < fu → d < fv → ∃ g S1 I1 I1' J1', g ≤ 1 ∧ f_Hall_bringAll_25 fu l3 (nI a) (nI b) (nI i) I J = some (if g = 1 then 1 else l3, I1, J) ∧ f_Model_run_122 p2 fv l1 l2 m3 l4 (nI (4 * a + b)) I' J' = some (if g = 1 then 1 else m3, I1', J1') ∧ BB cd st hg n P B sd V c0 S X I J I' J' S1 I1 I1' J1'
  | 0, i, fu, fv, l3, m3, S, I, I', J', hR, hd, hi, hfu, hfv => by
    obtain ⟨fu', rfl⟩ : ∃ k, fu = k + 1 := ⟨fu - 1, by omega⟩
    obtain ⟨fv', rfl⟩ : ∃ k, fv = k + 1 := ⟨fv - 1, by omega⟩
    obtain ⟨x1, x2⟩ := bring0 hS hR ha hb ⟨by omega, by omega⟩
    have hP := hS.2.1.2
    have m16 := hR.2.1.1.1
    have q := q16' (show 4 * a + b < 16 by omega)
    rw [show (4 * a + b) / 4 = a by omega, show (4 * a + b) % 4 = b by omega] at q
    refine ⟨0, S, I, I', J', by decide, ?_, ?_, hR, rfl, CFG.rfl, RTG.rfl⟩
    · rw [if_neg (by decide)]
      show (if 4 < nI i then _ else _) = _
      by_cases y : i = 5
      · rw [y, if_pos (by decide)]
      · rw [if_neg (fun z => by
          have := (nI_ltI (a := 4) (b := i) (by omega) (by omega)).mp z
          omega), x1, if_pos (show nI 0 = 0 from rfl)]
    · rw [if_neg (by decide)]
      show (if I' 112 16 ≤ nI (4 * a + b) / 4 then _ else _) = _
      rw [q.2, q.1, m16, if_neg (fun z => by
        have := (nI_leI (a := P) (b := a) (by omega) (by omega)).mp z
        omega), if_neg (fun z => by
        have := (nI_leI (a := P) (b := b) (by omega) (by omega)).mp z
        omega), x2, if_pos (show nI 0 = 0 from rfl)]
  | d + 1, i, fu, fv, l3, m3, S, I, I', J', hR, hd, hi, hfu, hfv => by
    obtain ⟨fu', rfl⟩ : ∃ k, fu = k + 1 := ⟨fu - 1, by omega⟩
    obtain ⟨fv', rfl⟩ : ∃ k, fv = k + 1 := ⟨fv - 1, by omega⟩
    obtain ⟨v, S1, I1, I1', J1', v1, x1, x2, x3, x4, x5, x6, x7, x8⟩ := bringOK hS hR ha hb
    have hP := hS.2.1.2
    have m16 := hR.2.1.1.1
    have q := q16' (show 4 * a + b < 16 by omega)
    rw [show (4 * a + b) / 4 = a by omega, show (4 * a + b) % 4 = b by omega] at q
    have v1' : v = 1 := by
      by_cases z : v = 0
      · have := x7 z
        omega
      · omega
    have x8' := x8 a b ha hb
    rw [if_pos ⟨v1', rfl, rfl⟩] at x8'
    obtain ⟨g, S2, I2, I2', J2', g1, y1, y2, y3, y4, y5, y6⟩ := PAIR (p2 := p2) (l1 := l1) (l2 := l2) (l4 := l4) hS ha hb d (i + 1) fu' fv' 1 1 S1 I1 I1' J1' x3 (by omega) (by omega) (by omega) (by omega)
    have yz : (if g = 1 then (1 : Int32) else 1) = 1 := ite_self _
    rw [yz] at y1 y2
    refine ⟨1, S2, I2, I2', J2', by decide, ?_, ?_, y3, y4.trans x4, CFG.tr x5 y5, RTG.tr x6 y6⟩
    · rw [if_pos rfl]
      show (if 4 < nI i then _ else _) = _
      rw [if_neg (fun z => by
        have := (nI_ltI (a := 4) (b := i) (by omega) (by omega)).mp z
        omega), x1, v1', if_neg (show ¬ nI 1 = 0 by decide), nI_1]
      exact y1
    · rw [if_pos rfl]
      show (if I' 112 16 ≤ nI (4 * a + b) / 4 then _ else _) = _
      rw [q.2, q.1, m16, if_neg (fun z => by
        have := (nI_leI (a := P) (b := a) (by omega) (by omega)).mp z
        omega), if_neg (fun z => by
        have := (nI_leI (a := P) (b := b) (by omega) (by omega)).mp z
        omega), x2, v1', if_neg (show ¬ nI 1 = 0 by decide)]
      exact y2
/-- no such pair -/
theorem SKIP {p2 l1 l2 l3 l4 : Int32} {q : Nat} (hP : P ≤ 4) {I : MI} {J : MJ} (h16 : I 112 16 = nI P) (hq : q < 16) (h : P ≤ q / 4 ∨ P ≤ q % 4) : f_Model_run_122 p2 gF l1 l2 l3 l4 (nI q) I J = some (l3, I, J) := by
  obtain ⟨k, hk⟩ : ∃ k, gF = k + 1 := ⟨gF - 1, by
    have := gF_lt (k := 0) (by omega)
    omega⟩
  rw [hk]
  show (if I 112 16 ≤ nI q / 4 then _ else _) = _
  rw [(q16' hq).2, (q16' hq).1, h16]
  by_cases y : P ≤ q / 4
  · rw [if_pos ((nI_leI (by omega) (by omega)).mpr y)]
  · rw [if_neg (fun z => y ((nI_leI (a := P) (b := q / 4) (by omega) (by omega)).mp z)), if_pos ((nI_leI (by omega) (by omega)).mpr (by omega))]
/-- more of the pairs that are none -/
theorem SKIPS {p2 l1 l2 l3 l4 : Int32} (hP : P ≤ 4) {I : MI} {J : MJ} (h16 : I 112 16 = nI P) : ∀ (d q fv : Nat), q + d ≤ 16 → (∀ x, q ≤ x → x < q + d → P ≤ x / 4 ∨ P ≤ x % 4) → f_Model_run_115 p2 (fv + d) l1 l2 l3 l4 (nI q) I J = f_Model_run_115 p2 fv l1 l2 l3 l4 (nI (q + d)) I J
  | 0, q, fv, _, _ => rfl
  | d + 1, q, fv, h1, h2 => by
    rw [← Nat.add_assoc]
    show (if 16 ≤ nI q then _ else _) = _
    rw [if_neg (fun z => by
      have := (nI_leI (a := 16) (b := q) (by omega) (by omega)).mp z
      omega), SKIP hP h16 (by omega) (h2 q (by omega) (by omega)), oc_some, nI_1, SKIPS hP h16 d (q + 1) fv (by omega) (fun x x1 x2 => h2 x (by omega) (by omega)), show q + 1 + d = q + (d + 1) by omega]
theorem ROW4 {p2 l1 l2 l4 : Int32} (hS : ST cd st hg n P B c0) (ha : a < P) {X : MX} {J : MJ} : ∀ (d j fu fv : Nat) (l3 m3 : Int32) (S : Nat → Nat → Nat) (I I' : MI) (J' : MJ), RU cd st hg n P B sd V c0 S X I J I' J' → j + d = P → d < fu → ∃ g S1 I1 I1' J1', g ≤ 1 ∧ f_Hall_bringAll_14 fu l3 (nI a) (nI j) I J = some (if g = 1 then 1 else l3, I1, J) ∧ f_Model_run_115 p2 (fv + (4 - j)) l1 l2 m3 l4 (nI (4 * a + j)) I' J' = f_Model_run_115 p2 fv l1 l2 (if g = 1 then 1 else m3) l4 (nI (4 * a + 4)) I1' J1' ∧ BB cd st hg n P B sd V c0 S X I J I' J' S1 I1 I1' J1'
  | 0, j, fu, fv, l3, m3, S, I, I', J', hR, hj, hfu => by
    obtain ⟨fu', rfl⟩ : ∃ k, fu = k + 1 := ⟨fu - 1, by omega⟩
    have hP := hS.2.1.2
    have m16 := hR.2.1.1.1
    refine ⟨0, S, I, I', J', by decide, ?_, ?_, hR, rfl, CFG.rfl, RTG.rfl⟩
    · rw [if_neg (by decide)]
      show (if I 14 6 ≤ nI j then _ else _) = _
      rw [hR.1.1.1, if_pos ((nI_leI (by omega) (by omega)).mpr (by omega))]
    · rw [if_neg (by decide), SKIPS hP m16 (4 - j) (4 * a + j) fv (by omega) (fun x x1 x2 => by omega), show 4 * a + j + (4 - j) = 4 * a + 4 by omega]
  | d + 1, j, fu, fv, l3, m3, S, I, I', J', hR, hj, hfu => by
    obtain ⟨fu', rfl⟩ : ∃ k, fu = k + 1 := ⟨fu - 1, by omega⟩
    have hP := hS.2.1.2
    have hb : j < P := by omega
    have hwb := (hR.2.2.2.2.2 a ha).2.2 j hb
    have hnb := (hR.2.2.2.2.1.1 a ha).2.2.2.2.2.2.2 j hb
    have gf := gF_lt (k := 100) (by omega)
    obtain ⟨g, S1, I1, I1', J1', g1, x1, x2, x3, x4, x5, x6⟩ := PAIR (p2 := p2) (l1 := l1) (l2 := l2) (l4 := l4) hS ha hb (S (30 + a) j + S (50 + a) j) 0 gF gF l3 m3 S I I' J' hR rfl (by omega) (by omega) (by omega)
    obtain ⟨h, S2, I2, I2', J2', h1, y1, y2, y3, y4, y5, y6⟩ := ROW4 (p2 := p2) (l1 := l1) (l2 := l2) (l4 := l4) hS ha d (j + 1) fu' fv (if g = 1 then 1 else l3) (if g = 1 then 1 else m3) S1 I1 I1' J1' x3 (by omega) (by omega)
    refine ⟨if h = 1 then 1 else g, S2, I2, I2', J2', by split <;> omega, ?_, ?_, y3, y4.trans x4, CFG.tr x5 y5, RTG.tr x6 y6⟩
    · show (if I 14 6 ≤ nI j then _ else _) = _
      rw [hR.1.1.1, if_neg (fun z => by
        have := (nI_leI (a := P) (b := j) (by omega) (by omega)).mp z
        omega)]
      show oc (f_Hall_bringAll_25 gF l3 (nI a) (nI j) (nI 0) I J) _ = _
      rw [x1, oc_some, nI_1, y1]
      by_cases z : h = 1
      · rw [if_pos z, if_pos z, if_pos rfl]
      · rw [if_neg z, if_neg z]
    · rw [show fv + (4 - j) = (fv + (4 - (j + 1))) + 1 by omega]
      show (if 16 ≤ nI (4 * a + j) then _ else _) = _
      rw [if_neg (fun z => by
        have := (nI_leI (a := 16) (b := 4 * a + j) (by omega) (by omega)).mp z
        omega), x2, oc_some, nI_1, show 4 * a + j + 1 = 4 * a + (j + 1) by omega, y2]
      by_cases z : h = 1
      · rw [if_pos z, if_pos z, if_pos rfl]
      · rw [if_neg z, if_neg z]
theorem ALL4 {p2 l1 l2 l4 : Int32} (hS : ST cd st hg n P B c0) {X : MX} {J : MJ} : ∀ (d a fu fv : Nat) (l3 m3 : Int32) (S : Nat → Nat → Nat) (I I' : MI) (J' : MJ), RU cd st hg n P B sd V c0 S X I J I' J' → a + d = P → d < fu → 16 < fv + 4 * a → ∃ g S1 I1 I1' J1', g ≤ 1 ∧ f_Hall_bringAll_4 fu l3 (nI a) I J = some (if g = 1 then 1 else l3, I1, J) ∧ f_Model_run_115 p2 fv l1 l2 m3 l4 (nI (4 * a)) I' J' = some (if g = 1 then 1 else m3, I1', J1') ∧ BB cd st hg n P B sd V c0 S X I J I' J' S1 I1 I1' J1'
  | 0, a, fu, fv, l3, m3, S, I, I', J', hR, hj, hfu, hfv => by
    obtain ⟨fu', rfl⟩ : ∃ k, fu = k + 1 := ⟨fu - 1, by omega⟩
    have hP := hS.2.1.2
    have m16 := hR.2.1.1.1
    refine ⟨0, S, I, I', J', by decide, ?_, ?_, hR, rfl, CFG.rfl, RTG.rfl⟩
    · rw [if_neg (by decide)]
      show (if I 14 6 ≤ nI a then _ else _) = _
      rw [hR.1.1.1, if_pos ((nI_leI (by omega) (by omega)).mpr (by omega))]
    · obtain ⟨k, hk⟩ : ∃ k, fv = (k + 1) + (16 - 4 * a) := ⟨fv - (16 - 4 * a) - 1, by omega⟩
      rw [if_neg (by decide), hk, SKIPS hP m16 (16 - 4 * a) (4 * a) (k + 1) (by omega) (fun x x1 x2 => by omega), show 4 * a + (16 - 4 * a) = 16 by omega]
      show (if 16 ≤ nI 16 then _ else _) = _
      rw [if_pos (by decide)]
  | d + 1, a, fu, fv, l3, m3, S, I, I', J', hR, hj, hfu, hfv => by
    obtain ⟨fu', rfl⟩ : ∃ k, fu = k + 1 := ⟨fu - 1, by omega⟩
    have hP := hS.2.1.2
    have ha : a < P := by omega
    have gf := gF_lt (k := 100) (by omega)
    obtain ⟨fv', rfl⟩ : ∃ k, fv = k + 4 := ⟨fv - 4, by omega⟩
    obtain ⟨g, S1, I1, I1', J1', g1, x1, x2, x3, x4, x5, x6⟩ := ROW4 (p2 := p2) (l1 := l1) (l2 := l2) (l4 := l4) hS ha P 0 gF fv' l3 m3 S I I' J' hR (by omega) (by omega)
    obtain ⟨h, S2, I2, I2', J2', h1, y1, y2, y3, y4, y5, y6⟩ := ALL4 (p2 := p2) (l1 := l1) (l2 := l2) (l4 := l4) hS d (a + 1) fu' fv' (if g = 1 then 1 else l3) (if g = 1 then 1 else m3) S1 I1 I1' J1' x3 (by omega) (by omega) (by omega)
    refine ⟨if h = 1 then 1 else g, S2, I2, I2', J2', by split <;> omega, ?_, ?_, y3, y4.trans x4, CFG.tr x5 y5, RTG.tr x6 y6⟩
    · show (if I 14 6 ≤ nI a then _ else _) = _
      rw [hR.1.1.1, if_neg (fun z => by
        have := (nI_leI (a := P) (b := a) (by omega) (by omega)).mp z
        omega)]
      show oc (f_Hall_bringAll_14 gF l3 (nI a) (nI 0) I J) _ = _
      rw [x1, oc_some, nI_1, y1]
      by_cases z : h = 1
      · rw [if_pos z, if_pos z, if_pos rfl]
      · rw [if_neg z, if_neg z]
    · rw [show nI (4 * a) = nI (4 * a + 0) from rfl]
      rw [show fv' + 4 = fv' + (4 - 0) from rfl, x2, show 4 * a + 4 = 4 * (a + 1) by omega, y2]
      by_cases z : h = 1
      · rw [if_pos z, if_pos z, if_pos rfl]
      · rw [if_neg z, if_neg z]
/-- all parties step -/
theorem PARTS {p2 l1 l2 l4 l5 m1 m4 : Int32} (hS : ST cd st hg n P B c0) : ∀ (d i fu fv f : Nat) (m2 : Int32) (S : Nat → Nat → Nat) (X : MX) (I I' : MI) (J J' : MJ), f ≤ 1 → RU cd st hg n P B sd V c0 S X I J I' J' → i + d = P → d < fu → d < fv → ∃ k S1 X1 I1 J1 I1' J1', f_Sh_run_63 p2 fu l1 l2 l4 l5 (nI i) X I J = some ((), X1, I1, J1) ∧ f_Model_run_48 p2 fv m1 m2 (nI f) m4 (nI i) I' J' = some ((m2 + nI k, nI (if k = 0 then f else 1)), I1', J1') ∧ RU cd st hg n P B sd V c0 S1 X1 I1 J1 I1' J1' ∧ S1 20 0 = S 20 0 + k ∧ XR X X1 ∧ CFG I I1 J J1 ∧ RTG I' I1' J' J1'
  | 0, i, fu, fv, f, m2, S, X, I, I', J, J', hf, hR, hi, hfu, hfv => by
    obtain ⟨fu', rfl⟩ : ∃ k, fu = k + 1 := ⟨fu - 1, by omega⟩
    obtain ⟨fv', rfl⟩ : ∃ k, fv = k + 1 := ⟨fv - 1, by omega⟩
    have hP := hS.2.1.2
    refine ⟨0, S, X, I, J, I', J', ?_, ?_, hR, rfl, XR.rfl, CFG.rfl, RTG.rfl⟩
    · show (if I 14 6 ≤ nI i then _ else _) = _
      rw [hR.1.1.1, if_pos ((nI_leI (by omega) (by omega)).mpr (by omega))]
    · show (if I' 112 16 ≤ nI i then _ else _) = _
      rw [hR.2.1.1.1, if_pos ((nI_leI (by omega) (by omega)).mpr (by omega)), if_pos rfl, show m2 + nI 0 = m2 from Int32.add_zero m2]
  | d + 1, i, fu, fv, f, m2, S, X, I, I', J, J', hf, hR, hi, hfu, hfv => by
    obtain ⟨fu', rfl⟩ : ∃ k, fu = k + 1 := ⟨fu - 1, by omega⟩
    obtain ⟨fv', rfl⟩ : ∃ k, fv = k + 1 := ⟨fv - 1, by omega⟩
    have hP := hS.2.1.2
    have hi' : i < P := by omega
    have sa := hR.2.2.2.2.1.2.1
    have np : ¬ nI P ≤ nI i := fun z => by
      have := (nI_leI (a := P) (b := i) (by omega) (by omega)).mp z
      omega
    have m10 := hR.1.1.2.2.2.1
    have m35 := hR.2.1.1.2.2.2.1
    by_cases h3 : S 20 0 = 30000
    · refine ⟨0, S, X, I, J, I', J', ?_, ?_, hR, rfl, XR.rfl, CFG.rfl, RTG.rfl⟩
      · show (if I 14 6 ≤ nI i then _ else _) = _
        rw [hR.1.1.1, if_neg np, m10, h3, if_pos (by decide)]
      · show (if I' 112 16 ≤ nI i then _ else _) = _
        rw [hR.2.1.1.1, if_neg np, m35, h3, if_pos (by decide), if_pos rfl, show m2 + nI 0 = m2 from Int32.add_zero m2]
    · have n3 : ¬ 30000 ≤ nI (S 20 0) := fun z => by
        have := (nI_leI (a := 30000) (b := S 20 0) (by omega) (by omega)).mp z
        omega
      obtain ⟨ans, e, S1, X1, I1, J1, I1', J1', x1, x2, x3, x4, x5, x6, x7, x8, x9⟩ := stepOK hS hR hi' (by omega)
      obtain ⟨k, S2, X2, I2, J2, I2', J2', y1, y2, y3, y4, y5, y6, y7⟩ := PARTS (p2 := p2) (l1 := l1) (l2 := l2) (l4 := l4) (l5 := l5) (m1 := m1) (m4 := m4) hS d (i + 1) fu' fv' (if e = 0 then f else 1) (m2 + nI e) S1 X1 I1 I1' J1 J1' (by split <;> omega) x3 (by omega) (by omega) (by omega)
      refine ⟨e + k, S2, X2, I2, J2, I2', J2', ?_, ?_, y3, by omega, XR.tr x4 y5, CFG.tr x8 y6, RTG.tr x9 y7⟩
      · show (if I 14 6 ≤ nI i then _ else _) = _
        rw [hR.1.1.1, if_neg np, m10, if_neg n3, nI_clamp (n := i) (by omega), if_neg (nin (show i < 4 by omega) (by decide)), x1]
        show f_Sh_run_63 p2 fu' l1 l2 l4 l5 (nI i + 1) X1 I1 J1 = _
        rw [nI_1, y1]
      · show (if I' 112 16 ≤ nI i then _ else _) = _
        have e86 : (if I1' 112 86 = 0 then (0 : Int32) else 1) = nI e := by
          rw [x7]
          rcases (show e = 0 ∨ e = 1 by omega) with z | z
          · rw [z]
            rfl
          · rw [z]
            rfl
        rw [hR.2.1.1.1, if_neg np, m35, if_neg n3, x2, oc_some, e86, pl_eq, pl_eq, pl_eq, nI_1]
        have hk : (if ¬ nI f = 0 then (1 : Int32) else nI e) = nI (if e = 0 then f else 1) := by
          rcases (show e = 0 ∨ e = 1 by omega) with z | z <;> rcases (show f = 0 ∨ f = 1 by omega) with t | t <;> (rw [z, t]; rfl)
        rw [hk, y2, Int32.add_assoc, nI_add]
        have hfl : (if k = 0 then (if e = 0 then f else 1) else 1) = if e + k = 0 then f else 1 := by
          by_cases z : k = 0
          · rw [if_pos z]
            by_cases z2 : e = 0
            · rw [if_pos z2, if_pos (by omega)]
            · rw [if_neg z2, if_neg (by omega)]
          · rw [if_neg z, if_neg (by omega)]
        rw [hfl]
end RUN
