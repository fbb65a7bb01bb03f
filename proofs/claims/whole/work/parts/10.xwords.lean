/-! the exceptions and the helpers: what the tables say -/
def th_X (x : Nat) : String := g_get "" ["java/lang/IllegalArgumentException", "java/lang/IndexOutOfBoundsException", "java/lang/IllegalStateException", "java/util/NoSuchElementException"] x
def th_six : ByteArray := ⟨#[42, 43, 183, 0, 13, 177]⟩
def th_i1 (x : Nat) : Nat := g_get 0 [7, 7, 7, 13] x
def th_b1 (x : Nat) : ByteArray := bif Nat.beq x 3 then th_six else Bundle.six
def th_ic (x : Nat) : Nat := g_get 0 [85, 188, 196, 237] x
def th_k (x : Nat) : Nat := g_get 0 [81, 184, 192, 233] x
def th_l1 : Cond := .laysStatic "java/lang/Throwable" "UNASSIGNED_STACK" "[Ljava/lang/StackTraceElement;"
def th_l2 : Cond := .laysStatic "java/lang/Throwable" "SUPPRESSED_SENTINEL" "Ljava/util/List;"
def th_ct (x : Nat) : Nat := g_get 0 [13, 26, 28, 37] x
theorem th_six_ok : ∀ x, x < 4 → Bundle.fit (th_X x) = true ∧ decode (th_b1 x) 0 = .ok (.aload_n 0, 1) ∧ decode (th_b1 x) 1 = .ok (.aload_n 1, 1) ∧ decode (th_b1 x) 2 = .ok (.invokespecial (th_i1 x), 3) ∧ decode (th_b1 x) 5 = .ok (.return_, 1) := by decide +kernel
theorem th_at0 : th_atoms "ShareHall" (th_ic 0) (th_X 0) (th_i1 0) (th_b1 0) = g_at [157, 994, 1003, 1008, 1011, 1013, 995, 996, 171, 172, 997, 1002, 1009, 1029, 984, 1030, 986, 1031, 988, 998, 999, 1000,   1001, 990, 1025, 1026, 1028, 990, 1016, 1017, 1018, 1019, 976, 1019, 1020, 1021, 1022, 978, 1022, 1023, 1024, 1025,   980, 1015, 973, 974, 981, 982, 983, 985, 987, 989, 993, 992, 991] := by decide +kernel
theorem th_at1 : th_atoms "ShareHall" (th_ic 1) (th_X 1) (th_i1 1) (th_b1 1) = g_at [157, 994, 1003, 1008, 1011, 1013, 995, 996, 171, 172, 997, 1002, 1009, 1029, 984, 1030, 986, 1031, 988, 998, 999, 1000,   1001, 990, 1025, 1026, 1028, 990, 1146, 1147, 1148, 1019, 976, 1019, 1020, 1021, 1022, 978, 1022, 1023, 1024, 1025,   980, 1145, 1136, 1137, 1138, 1006, 1139, 1140, 1141, 1142, 993, 992, 1143] := by decide +kernel
theorem th_at2 : th_atoms "ShareHall" (th_ic 2) (th_X 2) (th_i1 2) (th_b1 2) = g_at [157, 994, 1003, 1008, 1011, 1013, 995, 996, 171, 172, 997, 1002, 1009, 1029, 984, 1030, 986, 1031, 988, 998, 999, 1000,   1001, 990, 1025, 1026, 1028, 990, 1162, 1163, 1164, 1019, 976, 1019, 1020, 1021, 1022, 978, 1022, 1023, 1024, 1025,   980, 1161, 1152, 1153, 1154, 1005, 1155, 1156, 1157, 1158, 993, 992, 1159] := by decide +kernel
theorem th_at3 : th_atoms "ShareHall" (th_ic 3) (th_X 3) (th_i1 3) (th_b1 3) = g_at [157, 994, 1003, 1008, 1011, 1013, 995, 996, 171, 172, 997, 1002, 1009, 1029, 984, 1030, 986, 1031, 988, 998, 999, 1000,   1001, 990, 1025, 1026, 1028, 990, 1398, 1399, 1400, 1019, 976, 1019, 1020, 1021, 1022, 978, 1022, 1023, 1024, 1025,   980, 1397, 1388, 1389, 1390, 1007, 1391, 1392, 1393, 1394, 993, 992, 1395] := by decide +kernel
theorem th_gd0 : (g_at [157, 994, 1003, 1008, 1011, 1013, 995, 996, 171, 172, 997, 1002, 1009, 1029, 984, 1030, 986, 1031, 988, 998, 999, 1000,   1001, 990, 1025, 1026, 1028, 990, 1016, 1017, 1018, 1019, 976, 1019, 1020, 1021, 1022, 978, 1022, 1023, 1024, 1025,   980, 1015, 973, 974, 981, 982, 983, 985, 987, 989, 993, 992, 991]).all (fun a => goodWord a || decide (a ∈ th_face) || decide (a = th_l1) || decide (a = th_l2)) = true := by decide +kernel
theorem th_gd1 : (g_at [157, 994, 1003, 1008, 1011, 1013, 995, 996, 171, 172, 997, 1002, 1009, 1029, 984, 1030, 986, 1031, 988, 998, 999, 1000,   1001, 990, 1025, 1026, 1028, 990, 1146, 1147, 1148, 1019, 976, 1019, 1020, 1021, 1022, 978, 1022, 1023, 1024, 1025,   980, 1145, 1136, 1137, 1138, 1006, 1139, 1140, 1141, 1142, 993, 992, 1143]).all (fun a => goodWord a || decide (a ∈ th_face) || decide (a = th_l1) || decide (a = th_l2)) = true := by decide +kernel
theorem th_gd2 : (g_at [157, 994, 1003, 1008, 1011, 1013, 995, 996, 171, 172, 997, 1002, 1009, 1029, 984, 1030, 986, 1031, 988, 998, 999, 1000,   1001, 990, 1025, 1026, 1028, 990, 1162, 1163, 1164, 1019, 976, 1019, 1020, 1021, 1022, 978, 1022, 1023, 1024, 1025,   980, 1161, 1152, 1153, 1154, 1005, 1155, 1156, 1157, 1158, 993, 992, 1159]).all (fun a => goodWord a || decide (a ∈ th_face) || decide (a = th_l1) || decide (a = th_l2)) = true := by decide +kernel
theorem th_gd3 : (g_at [157, 994, 1003, 1008, 1011, 1013, 995, 996, 171, 172, 997, 1002, 1009, 1029, 984, 1030, 986, 1031, 988, 998, 999, 1000,   1001, 990, 1025, 1026, 1028, 990, 1398, 1399, 1400, 1019, 976, 1019, 1020, 1021, 1022, 978, 1022, 1023, 1024, 1025,   980, 1397, 1388, 1389, 1390, 1007, 1391, 1392, 1393, 1394, 993, 992, 1395]).all (fun a => goodWord a || decide (a ∈ th_face) || decide (a = th_l1) || decide (a = th_l2)) = true := by decide +kernel
theorem th_at_all {x : Nat} (hx : x < 4) : ∀ a ∈ th_atoms "ShareHall" (th_ic x) (th_X x) (th_i1 x) (th_b1 x), a ∈ gAll ∨ a ∈ th_face ∨ a = th_l1 ∨ a = th_l2 := by
  have key : ∀ {ps : List Nat}, (g_at ps).all (fun a => goodWord a || decide (a ∈ th_face) || decide (a = th_l1) || decide (a = th_l2)) = true → ∀ a ∈ g_at ps, a ∈ gAll ∨ a ∈ th_face ∨ a = th_l1 ∨ a = th_l2 := by
    intro ps h a ha
    have h1 := List.all_eq_true.mp h a ha
    simp only [Bool.or_eq_true, decide_eq_true_eq] at h1
    rcases h1 with ((h1 | h1) | h1) | h1
    · exact Or.inl (gAll_of (g_at_in ha) h1)
    · exact Or.inr (Or.inl h1)
    · exact Or.inr (Or.inr (Or.inl h1))
    · exact Or.inr (Or.inr (Or.inr h1))
  intro a ha
  match x, hx with
  | 0, _ =>
    rw [th_at0] at ha
    exact key th_gd0 a ha
  | 1, _ =>
    rw [th_at1] at ha
    exact key th_gd1 a ha
  | 2, _ =>
    rw [th_at2] at ha
    exact key th_gd2 a ha
  | 3, _ =>
    rw [th_at3] at ha
    exact key th_gd3 a ha
  | n + 4, hx => exact absurd hx (by omega)
theorem th_lk1 : (List.range 4).map (fun x => Cond.classLink "ShareHall" (th_k x) (th_X x)) = g_at [972, 1135, 1151, 1387] := by decide +kernel
theorem th_lk2 : (List.range 4).map (fun x => Cond.initialized (th_X x)) = g_at [160, 161, 162, 164] := by decide +kernel
theorem th_lk3 : (List.range 4).map (fun x => Cond.classLink "ShareHallLaw" (th_ct x) (th_X x)) = g_at [794, 1129, 1130, 1382] := by decide +kernel
theorem th_lk4 : (List.range 4).map (fun x => Cond.castable (th_X x) (th_X x)) = g_at [974, 1137, 1153, 1389] := by decide +kernel
theorem th_in {f : Nat → Cond} {ps : List Nat} (e : (List.range 4).map f = g_at ps) {x : Nat} (hx : x < 4) : f x ∈ lw_tbl := g_at_in (by rw [← e]; exact List.mem_map.mpr ⟨x, List.mem_range.mpr hx, rfl⟩)
/-- where it throws: method, place, exception, text, length of ldc -/
def g_tx (i : Nat) : String := g_get "" ["the tape has a fault", "the verifier refuses the code", "there is no such party or kind", "so many can't be dealt", "there is no such party", "all steps have been done", "there can't be so many rounds", "no such number was put out", "there is no such party, or no run", "there is no such clear number", "there is no such byte"] i
def g_ts (i : Nat) : Nat := g_get 0 [83, 105, 118, 142, 186, 194, 205, 235, 246, 251, 265] i
theorem th_tx : (List.range 11).map (fun i => Cond.stringRef "ShareHall" (g_ts i) (g_tx i)) = g_at [1014, 1116, 1124, 1125, 1144, 1160, 1373, 1396, 1411, 1412, 1420] := by decide +kernel
def g_thr : List (Nat × Nat × Nat × Nat × Nat) := [(4, 67, 0, 0, 2), (5, 52, 0, 1, 2), (8, 33, 0, 2, 2), (8, 103, 0, 3, 2), (12, 11, 1, 4, 2), (12, 34, 2, 5, 2), (14, 12, 0, 6, 2), (16, 41, 3, 7, 2), (17, 21, 3, 8, 2), (17, 76, 3, 9, 2), (18, 32, 3, 8, 2), (18, 70, 3, 10, 3)]
def ck_thr (y pc x : Nat) : Bool := g_thr.any (fun q => Nat.beq q.1 y && Nat.beq q.2.1 pc && Nat.beq q.2.2.1 x)
def ck_dec (q : Nat × Nat × Nat × Nat × Nat) : Bool := decide (decode (gB q.1) q.2.1 = .ok (.new (th_k q.2.2.1), 3)) && decide (decode (gB q.1) (q.2.1 + 3) = .ok (.dup, 1)) && ((decide (decode (gB q.1) (q.2.1 + 4) = .ok (.ldc (g_ts q.2.2.2.1), 2)) && decide (q.2.2.2.2 = 2)) || (decide (decode (gB q.1) (q.2.1 + 4) = .ok (.ldc_w (g_ts q.2.2.2.1), 3)) && decide (q.2.2.2.2 = 3))) && decide (decode (gB q.1) (q.2.1 + 4 + q.2.2.2.2) = .ok (.invokespecial (th_ic q.2.2.1), 3)) && decide (decode (gB q.1) (q.2.1 + 4 + q.2.2.2.2 + 3) = .ok (.athrow, 1)) && decide (q.2.2.1 < 4) && decide (q.2.2.2.1 < 11) && decide (gO q.1 = 11) && decide (q.1 ∈ g_cm)
theorem g_thr_ok : g_thr.all ck_dec = true := by decide +kernel
theorem ck_thr_ok {y pc x : Nat} (h : ck_thr y pc x = true) : ∃ i n, th_dec (gB y) pc (th_k x) (g_ts i) n (th_ic x) ∧ x < 4 ∧ gO y = 11 ∧ y ∈ g_cm ∧ Cond.stringRef "ShareHall" (g_ts i) (g_tx i) ∈ th_face := by
  obtain ⟨q, hq, he⟩ := List.any_eq_true.mp h
  rw [Bool.and_eq_true, Bool.and_eq_true] at he
  have e1 := Nat.eq_of_beq_eq_true he.1.1
  have e2 := Nat.eq_of_beq_eq_true he.1.2
  have e3 := Nat.eq_of_beq_eq_true he.2
  have hc := List.all_eq_true.mp g_thr_ok q hq
  unfold ck_dec at hc
  rw [e1, e2, e3] at hc
  simp only [Bool.and_eq_true, Bool.or_eq_true, decide_eq_true_eq] at hc
  obtain ⟨⟨⟨⟨⟨⟨⟨⟨h1, h2⟩, h3⟩, h4⟩, h5⟩, h6⟩, h7⟩, h8⟩, h9⟩ := hc
  refine ⟨q.2.2.2.1, q.2.2.2.2, ⟨h1, h2, h3, h4, h5⟩, h6, h8, h9, ?_⟩
  have h10 : Cond.stringRef "ShareHall" (g_ts q.2.2.2.1) (g_tx q.2.2.2.1) ∈ g_at [1014, 1116, 1124, 1125, 1144, 1160, 1373, 1396, 1411, 1412, 1420] := by rw [← th_tx]; exact List.mem_map.mpr ⟨q.2.2.2.1, List.mem_range.mpr h7, rfl⟩
  unfold g_at at h10
  obtain ⟨i, hi, e⟩ := List.mem_filterMap.mp h10
  exact List.mem_filterMap.mpr ⟨i, List.mem_append_right [976, 978, 980, 974, 1137, 1153, 1389] hi, e⟩
/-- the helpers: their tables of exceptions; exception, place, answer, local, length of the store -/
def g_hh (a : Nat) : List (Nat × Nat × Nat × Nat) := g_get [] [[(0, 8, 11, 13)], [(0, 8, 11, 13)], [(0, 10, 13, 13)], [(0, 9, 12, 26), (0, 9, 15, 28)], [(0, 9, 12, 13)], [(0, 9, 12, 37)], [(0, 9, 12, 37)], [(0, 12, 15, 37)]] (a - 279)
def g_he (a : Nat) : List (Nat × Nat × Int32 × Nat × Nat) := g_get [] [[(0, 11, 1, 2, 1)], [(0, 11, 1, 2, 1)], [(0, 13, 1, 4, 2)], [(1, 12, 1, 3, 1), (2, 15, 2, 3, 1)], [(0, 12, 1, 3, 1)], [(3, 12, 1, 4, 2)], [(3, 12, 1, 4, 2)], [(3, 15, 1, 5, 2)]] (a - 279)
def g_hk (a : Nat) : List (Int32 × Nat) := (g_he a).map (fun q => (q.2.2.1, q.1))
def ck_tail (a : Nat) (q : Nat × Nat × Int32 × Nat × Nat) : Bool := ((decide (decode (gB a) q.2.1 = .ok (.astore_n 2, 1)) && decide (q.2.2.2.1 = 2) && decide (q.2.2.2.2 = 1)) || (decide (decode (gB a) q.2.1 = .ok (.astore_n 3, 1)) && decide (q.2.2.2.1 = 3) && decide (q.2.2.2.2 = 1)) || (decide (decode (gB a) q.2.1 = .ok (.astore q.2.2.2.1, 2)) && decide (q.2.2.2.2 = 2))) && decide (q.2.2.2.1 < gL a) && decide (decode (gB a) (q.2.1 + q.2.2.2.2) = .ok (.iconst q.2.2.1.toInt, 1)) && decide (decode (gB a) (q.2.1 + q.2.2.2.2 + 1) = .ok (.ireturn, 1)) && decide (q.1 < 4)
def g_hp : List Nat := [279, 280, 281, 282, 283, 284, 285, 286]
theorem g_hp_ok : ∀ a ∈ g_hp, (g_he a).all (ck_tail a) = true ∧ (g_hh a).map (fun q => (q.2.2.1, q.2.2.2)) = (g_he a).map (fun q => (q.2.1, th_ct q.1)) ∧ gO a = 13 ∧ (gY a).cls = gR (gO a) ∧ plainName (gY a).cls = true ∧ ((gY a).cls ≠ "java/lang/invoke/MethodHandle" ∧ (gY a).cls ≠ "java/lang/invoke/VarHandle") ∧ gL a + 19 ≤ 64 ∧ gK a = 0 ∧ gRt a = some .int ∧ a < 289 := by decide +kernel
theorem g_hw1 : g_hp.map (fun a => Cond.codeWith (gY a) (gB a) (gL a) (gRt a) (g_hh a)) = g_at [793, 1051, 1119, 1128, 1368, 1381, 1406, 1415] := by decide +kernel
theorem g_hw2 : g_hp.map (fun a => Cond.static (gY a)) = g_at [792, 1050, 1118, 1127, 1367, 1380, 1405, 1414] := by decide +kernel
theorem g_hin {f : Nat → Cond} {ps : List Nat} (e : g_hp.map f = g_at ps) {a : Nat} (ha : a ∈ g_hp) : f a ∈ lw_tbl := g_at_in (by rw [← e]; exact List.mem_map.mpr ⟨a, ha, rfl⟩)
def g_wsW (y : Nat) : List Cond := Cond.codeWith (gY y) (gB y) (gL y) (gRt y) (g_hh y) :: gAll
theorem g_goodW {y : Nat} (h : y ∈ g_hp) : GoodIn gAll (g_wsW y) := by
  intro w hw
  rcases List.mem_cons.mp hw with e | e
  · rw [e]; exact ⟨gAll_of (g_hin g_hw1 h) rfl, good_of_word rfl⟩
  · exact ⟨e, good_of_word (gAll_good e)⟩
/-- a call of a helper out of the law -/
def g_pn (a : Nat) : Option Nat := (parseMethodDescriptor (gY a).desc).map (fun d => d.parameters.length)
def ck_cW (y pc a b : Nat) (sw : List (Int32 × Nat)) : Bool := match sw with
  | (_, j) :: r => (match g_cl[j]? with
    | some (o, i, f, k, z) => decide (o = gO y) && decide (z = a) && decide (a ∈ g_hp) && Nat.beq f 0 && Nat.beq k 0 && decide (decode (gB y) pc = .ok (.invokestatic i, 3)) && decide (g_pn a = some b) && decide (r = g_hk a)
    | none => false)
  | _ => false
