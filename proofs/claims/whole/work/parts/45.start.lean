/-! WHAT HOLDS AT THE LAW'S ENTRY (wip/whole/tools/gen45.py) -/
def n_all : List Cond := flatC (Jvm.Cond.and given_1 narrow_1)
def n_at (ps : List Nat) : List Cond := ps.filterMap (fun i => n_all[i]?)
theorem n_in {ps : List Nat} {w : Cond} (h : w ∈ n_at ps) : w ∈ n_all := by
  obtain ⟨i, -, h⟩ := List.mem_filterMap.mp h
  exact List.mem_of_getElem? h
def n_el (C n : String) (N : Nat) (t : List Int32) : List Cond := (List.range N).map (fun j => Cond.eq (.elem (.static C n "[I") (.int (Int32.ofNat j))) (.int (g_get 0 t j)))
theorem n_el0 : n_el "ShareHall" "LENGTHS" 30 t_lengths = n_at [7, 8, 9, 10, 11, 12, 13, 14, 15, 16, 17, 18, 19, 20, 21, 22, 23, 24, 25, 26, 27, 28, 29, 30, 31, 32, 33, 34, 35, 36] := by decide +kernel
theorem n_ar0 : [Cond.arrayOf (.static "ShareHall" "LENGTHS" "[I") .int, Cond.eq (.length (.static "ShareHall" "LENGTHS" "[I")) (.int (Int32.ofNat 30))] = n_at [5, 6] := by decide +kernel
theorem n_el1 : n_el "ShareHall$Digest" "ROUNDS" 64 t_rounds = n_at [53, 54, 55, 56, 57, 58, 59, 60, 61, 62, 63, 64, 65, 66, 67, 68, 69, 70, 71, 72, 73, 74, 75, 76, 77, 78, 79, 80, 81, 82, 83, 84, 85, 86, 87, 88, 89, 90, 91, 92, 93, 94, 95, 96, 97, 98, 99, 100, 101, 102, 103, 104, 105, 106, 107, 108, 109, 110, 111, 112, 113, 114, 115, 116] := by decide +kernel
theorem n_ar1 : [Cond.arrayOf (.static "ShareHall$Digest" "ROUNDS" "[I") .int, Cond.eq (.length (.static "ShareHall$Digest" "ROUNDS" "[I")) (.int (Int32.ofNat 64))] = n_at [51, 52] := by decide +kernel
theorem n_el2 : n_el "ShareHall$Digest" "FIRST" 8 t_first = n_at [42, 43, 44, 45, 46, 47, 48, 49] := by decide +kernel
theorem n_ar2 : [Cond.arrayOf (.static "ShareHall$Digest" "FIRST" "[I") .int, Cond.eq (.length (.static "ShareHall$Digest" "FIRST" "[I")) (.int (Int32.ofNat 8))] = n_at [40, 41] := by decide +kernel
theorem n_el3 : n_el "ShareHallModel" "ROUND" 64 t_rounds = n_at [131, 132, 133, 134, 135, 136, 137, 138, 139, 140, 141, 142, 143, 144, 145, 146, 147, 148, 149, 150, 151, 152, 153, 154, 155, 156, 157, 158, 159, 160, 161, 162, 163, 164, 165, 166, 167, 168, 169, 170, 171, 172, 173, 174, 175, 176, 177, 178, 179, 180, 181, 182, 183, 184, 185, 186, 187, 188, 189, 190, 191, 192, 193, 194] := by decide +kernel
theorem n_ar3 : [Cond.arrayOf (.static "ShareHallModel" "ROUND" "[I") .int, Cond.eq (.length (.static "ShareHallModel" "ROUND" "[I")) (.int (Int32.ofNat 64))] = n_at [129, 130] := by decide +kernel
theorem n_el4 : n_el "ShareHallModel" "FIRST" 8 t_first = n_at [120, 121, 122, 123, 124, 125, 126, 127] := by decide +kernel
theorem n_ar4 : [Cond.arrayOf (.static "ShareHallModel" "FIRST" "[I") .int, Cond.eq (.length (.static "ShareHallModel" "FIRST" "[I")) (.int (Int32.ofNat 8))] = n_at [118, 119] := by decide +kernel
theorem n_rs : [Cond.isRef (.static "java/lang/Throwable" "UNASSIGNED_STACK" "[Ljava/lang/StackTraceElement;"), Cond.isRef (.static "java/lang/Throwable" "SUPPRESSED_SENTINEL" "Ljava/util/List;"), Cond.not (.castable "java/lang/IllegalStateException" "java/lang/IndexOutOfBoundsException")] = n_at [37, 38, 225] := by decide +kernel
theorem n_ls : [Cond.arrayOver (.object "ShareHall$Party"), .laysStatic "ShareHall" "LENGTHS" "[I", .laysStatic "ShareHall$Digest" "ROUNDS" "[I", .laysStatic "ShareHall$Digest" "FIRST" "[I", .laysStatic "ShareHallModel" "ROUND" "[I", .laysStatic "ShareHallModel" "FIRST" "[I", th_l1, th_l2] = g_at [280, 737, 1226, 1224, 1457, 1455, 999, 1001] := by decide +kernel
theorem n_it : [Cond.initialized "java/lang/Throwable"] = g_at [157] := by decide +kernel
section ST
variable {args : Array Value} {s : State}
theorem st_K (hts : ∀ w ∈ lw_tbl, w.before args s = true) : ∃ (D : va_G) (cA : Nat → ClassId), va_K D gcl (am_tys cA) s := by
  have h1 : ∀ c : Nat, ∃ q : ClassId × (Nat → Nat), c < 13 → u_Kn s (gR c) (gT c) (gN c) q.1 q.2 := by
    intro c
    by_cases hc : c < 13
    · obtain ⟨cC, iS, h⟩ := u_known (ws := lw_tbl) hts (g_lays c hc) (hts _ (g_inst_in hc))
      exact ⟨(cC, iS), fun _ => h⟩
    · obtain ⟨cC, iS, h⟩ := u_known (ws := lw_tbl) hts (g_lays 0 (by decide)) (hts _ (g_inst_in (by decide)))
      exact ⟨(cC, iS), fun h => absurd h hc⟩
  obtain ⟨d, hd⟩ := Classical.axiomOfChoice h1
  have har : ∀ t ∈ ([.int, .long, .boolean] : List FieldType), ∃ c k comp, s.vm.findClass ("[" ++ t.toString) = some c ∧ s.vm.classes[c]? = some k ∧ k.kind = .array comp t := fun t ht => Cond.arrayClass_spec (hts _ (List.mem_filter.mp (g_ac_in ht)).1)
  obtain ⟨c0, k0, p0, a1, a2, a3⟩ := har .int (by decide)
  obtain ⟨c1, k1, p1, b1, b2, b3⟩ := har .long (by decide)
  obtain ⟨c2, k2, p2, d1, d2, d3⟩ := har .boolean (by decide)
  have hover : (Cond.arrayOver (.object "ShareHall$Party")).before args s = true := hts _ (g_at_in (by rw [← n_ls]; simp))
  obtain ⟨p3, c3, k3, e1, -, e2, e3, e4⟩ := Cond.arrayOver_spec hover
  have ok : ∀ {c : ClassId} {k : Class} {p : ClassId} {t : FieldType}, s.vm.classes[c]? = some k → k.kind = .array p t → ArrOfT s c t := fun h2 h3 n z => ⟨fun k h => (by cases h), _, h2, _, h3⟩
  refine ⟨(fun c => (d c).1, fun c => (d c).2), fun k => g_get c0 [c0, c1, c2, c3] k, ?_, ?_⟩
  · intro c q hq
    have hc : c < 13 := by
      have := (List.getElem?_eq_some_iff.mp hq).1
      simpa [gcl] using this
    rw [gcl_at hc] at hq
    cases hq
    exact hd c hc
  · intro k q hk
    match k, hk with
    | 0, hk => cases hk; exact ⟨ok a2 a3, a1⟩
    | 1, hk => cases hk; exact ⟨ok b2 b3, b1⟩
    | 2, hk => cases hk; exact ⟨ok d2 d3, d1⟩
    | 3, hk => cases hk; exact ⟨ok e2 e3, k3, p3, e2, e3, e1, e4⟩
    | n + 4, hk => cases hk
theorem th_any {w : Cond} (hk : th_fk w = true) (h : w.before args s = true) (a : Array Value) : w.before a s = true := by
  cases w with
  | castable c t => exact h
  | declares x => exact h
  | stringRef c i t => exact h
  | _ => cases hk
theorem st_N (hts : ∀ w ∈ lw_tbl, w.before args s = true) (hgv : (Jvm.Cond.and given_1 narrow_1).before args s = true) : am_Nst s := by
  have hface : ∀ w ∈ th_face, ∀ a, w.before a s = true := fun w hw a => th_any (th_face_k w hw) (hts w (g_at_in hw)) a
  have hself : ∀ x, x < 4 → ∃ ci, s.vm.findClass (th_X x) = some ci := by
    intro x hx
    have h1 : Cond.castable (th_X x) (th_X x) ∈ lw_tbl := th_in th_lk4 hx
    obtain ⟨c1, t1, q1, -⟩ := Cond.castable_spec (hts _ h1)
    exact ⟨c1, q1⟩
  refine ⟨fun x hx h1 => ?_, fun x hx h1 => ?_, va_AO.of (hts _ (g_at_in (by rw [← n_ls]; simp))), ?_, hface⟩
  · obtain ⟨j, hj⟩ := List.getElem?_of_mem hx
    have h2 := hts _ (g_fl_in hj)
    obtain ⟨o, i, f, k, z⟩ := x
    cases h1
    exact va_Nw.of rfl h2
  · obtain ⟨j, hj⟩ := List.getElem?_of_mem hx
    have h2 := hts _ (g_cl_in hj)
    obtain ⟨o, i, f, k, z⟩ := x
    cases h1
    exact va_Nw.of rfl h2
  · obtain ⟨c1, h1⟩ := hself 2 (by decide)
    obtain ⟨c2, h2⟩ := hself 1 (by decide)
    rw [th_X2] at h1
    rw [th_X1] at h2
    refine ⟨c1, c2, h1, h2, ?_⟩
    have hn : (Cond.not (.castable "java/lang/IllegalStateException" "java/lang/IndexOutOfBoundsException")).before args s = true := flat_of_before _ hgv _ (n_in (by rw [← n_rs]; simp))
    cases e : s.vm.assignable c1 c2 with
    | false => rfl
    | true =>
      exfalso
      simp [Cond.before, Cond.holds, Cond.value, h1, h2, e] at hn
theorem st_T {G : am_G} {A : Nat → Prop} {b L : Nat} {xs : Nat → Int32} (hG : ∀ k, G.2.1 k = gTb L xs k) (hts : ∀ w ∈ lw_tbl, w.before args s = true) (hgv : (Jvm.Cond.and given_1 narrow_1).before args s = true) (hX : va_X b L xs s s.heap) (hA : ∀ a : Nat, a < s.heap.size → ¬ A a) (hL : L < 2 ^ 31) : ∃ zt : Nat → Nat, am_Tab G A s zt s.heap ∧ zt 5 = b := by
  have hn := flat_of_before _ hgv
  have one : ∀ (C n : String) (N : Nat) (t : List Int32) (ps qs : List Nat) (k : Nat), n_el C n N t = n_at ps → [Cond.arrayOf (.static C n "[I") .int, Cond.eq (.length (.static C n "[I")) (.int (Int32.ofNat N))] = n_at qs → N < 2 ^ 31 → Cond.laysStatic C n "[I" ∈ lw_tbl → Cond.initialized C ∈ lw_tbl → ∃ z : Nat, va_T .int z N (fun j => .int (g_get 0 t j)) A s s.heap ∧ va_Z C n "[I" (.ref z) A s s.heap := by
    intro C n N t ps qs k e1 e2 hN hl hi
    have w1 := hn _ (n_in (by rw [← e2]; exact List.mem_cons_self))
    have w2 := hn _ (n_in (by rw [← e2]; exact List.mem_cons_of_mem _ List.mem_cons_self))
    obtain ⟨z, hz, hT⟩ := va_Tof (f := fun j => .int (g_get 0 t j)) (A := A) hN w1 (va_eqt w2) (fun j hj => va_eqt (hn _ (n_in (by rw [← e1]; exact List.mem_map.mpr ⟨j, List.mem_range.mpr hj, rfl⟩)))) hA
    exact ⟨z, hT, va_Zof (hts _ hl) (hts _ hi) hz hA⟩
  have inl : ∀ {w : Cond}, w ∈ [Cond.arrayOver (.object "ShareHall$Party"), .laysStatic "ShareHall" "LENGTHS" "[I", .laysStatic "ShareHall$Digest" "ROUNDS" "[I", .laysStatic "ShareHall$Digest" "FIRST" "[I", .laysStatic "ShareHallModel" "ROUND" "[I", .laysStatic "ShareHallModel" "FIRST" "[I", th_l1, th_l2] → w ∈ lw_tbl := fun h => g_at_in (by rw [← n_ls]; exact h)
  have ini : ∀ {C : String} {k : Nat}, k < 15 → gR k = C → Cond.initialized C ∈ lw_tbl := fun hk e => e ▸ g_ini_in hk
  obtain ⟨z0, t0, s0⟩ := one _ _ _ _ _ _ 0 n_el0 n_ar0 (by decide) (inl (by simp)) (ini (k := 11) (by decide) (by decide +kernel))
  obtain ⟨z1, t1, s1⟩ := one _ _ _ _ _ _ 1 n_el1 n_ar1 (by decide) (inl (by simp)) (ini (k := 1) (by decide) (by decide +kernel))
  obtain ⟨z2, t2, s2⟩ := one _ _ _ _ _ _ 2 n_el2 n_ar2 (by decide) (inl (by simp)) (ini (k := 1) (by decide) (by decide +kernel))
  obtain ⟨z3, t3, s3⟩ := one _ _ _ _ _ _ 3 n_el3 n_ar3 (by decide) (inl (by simp)) (ini (k := 12) (by decide) (by decide +kernel))
  obtain ⟨z4, t4, s4⟩ := one _ _ _ _ _ _ 4 n_el4 n_ar4 (by decide) (inl (by simp)) (ini (k := 12) (by decide) (by decide +kernel))
  obtain ⟨scr, x1, x2, x3, x4, x5⟩ := hX
  have t5 : va_T .int b L (fun j => .int (xs j)) A s s.heap := ⟨scr, x1, x2, x3, by omega, by rw [x4], x5, hA b (Array.getElem?_eq_some_iff.mp x1).1⟩
  have hit : Cond.initialized "java/lang/Throwable" ∈ lw_tbl := g_at_in (by rw [← n_it]; simp)
  have r1 := hn _ (n_in (w := Cond.isRef (.static "java/lang/Throwable" "UNASSIGNED_STACK" "[Ljava/lang/StackTraceElement;")) (by rw [← n_rs]; simp))
  have r2 := hn _ (n_in (w := Cond.isRef (.static "java/lang/Throwable" "SUPPRESSED_SENTINEL" "Ljava/util/List;")) (by rw [← n_rs]; simp))
  have l1 : (Cond.laysStatic "java/lang/Throwable" "UNASSIGNED_STACK" "[Ljava/lang/StackTraceElement;").before args s = true := hts th_l1 (inl (by simp))
  have l2 : (Cond.laysStatic "java/lang/Throwable" "SUPPRESSED_SENTINEL" "Ljava/util/List;").before args s = true := hts th_l2 (inl (by simp))
  refine ⟨fun k => g_get 0 [z0, z1, z2, z3, z4, b] k, ⟨fun k hk => ?_, fun k q hq => ?_, va_Zqof l1 (hts _ hit) r1 hA, va_Zqof l2 (hts _ hit) r2 hA, th_Lz.of l1 hA, th_Lz.of l2 hA⟩, rfl⟩
  · rw [hG]
    match k, hk with
    | 0, _ => exact t0
    | 1, _ => exact t1
    | 2, _ => exact t2
    | 3, _ => exact t3
    | 4, _ => exact t4
    | 5, _ => exact t5
    | n + 6, h => exact absurd h (by omega)
  · match k, hq with
    | 0, hq => cases hq; exact s0
    | 1, hq => cases hq; exact s1
    | 2, hq => cases hq; exact s2
    | 3, hq => cases hq; exact s3
    | 4, hq => cases hq; exact s4
    | n + 5, hq => cases hq
end ST
