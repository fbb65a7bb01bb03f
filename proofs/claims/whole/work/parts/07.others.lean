/-! switches, statics, Math.max, the first constructor of all -/
def ck_tab (pc : Nat) : Int → List Int → List (Int32 × Nat) → Bool
  | _, [], [] => true
  | lo, o :: os, (k, t) :: r => decide (k.toInt = lo) && decide ((pc : Int) + o = (t : Int)) && ck_tab pc (lo + 1) os r
  | _, _, _ => false
def ck_lk (pc : Nat) : List (Int × Int) → List (Int32 × Nat) → Bool
  | [], [] => true
  | (a, o) :: os, (k, t) :: r => decide (k.toInt = a) && decide ((pc : Int) + o = (t : Int)) && ck_lk pc os r
  | _, _ => false
def ck_sw (y pc a : Nat) (sw : List (Int32 × Nat)) : Bool := match decode (gB y) pc with
  | .ok (.tableswitch d lo hi offs, _) => decide ((pc : Int) + d = (a : Int)) && decide (hi = lo + offs.toList.length - 1) && ck_tab pc lo offs.toList sw
  | .ok (.lookupswitch d ps, _) => decide ((pc : Int) + d = (a : Int)) && (ps.toList.zip (ps.toList.drop 1)).all (fun (a, next) => a.1 < next.1) && ck_lk pc ps.toList sw
  | _ => false
theorem ck_tab_in {pc a : Nat} {x : Int32} : ∀ {offs : List Int} {lo : Int} {sw : List (Int32 × Nat)}, ck_tab pc lo offs sw = true →
    ((¬ x.toInt < lo ∧ x.toInt < lo + offs.length → ∃ off, offs[(x.toInt - lo).toNat]? = some off ∧ (pc : Int) + off = (am_sw x a sw : Int)) ∧ (x.toInt < lo ∨ lo + offs.length ≤ x.toInt → am_sw x a sw = a)) := by
  intro offs
  induction offs with
  | nil =>
    intro lo sw h
    cases sw with
    | nil => exact ⟨fun q => absurd q.2 (by simp; omega), fun _ => rfl⟩
    | cons q r => cases h
  | cons o os ih =>
    intro lo sw h
    cases sw with
    | nil => cases h
    | cons q r =>
      obtain ⟨k, t⟩ := q
      unfold ck_tab at h
      simp only [Bool.and_eq_true, decide_eq_true_eq] at h
      obtain ⟨⟨h1, h2⟩, h3⟩ := h
      obtain ⟨i1, i2⟩ := ih h3
      have hl : (((o :: os).length : Nat) : Int) = (os.length : Int) + 1 := by simp
      unfold am_sw
      by_cases e : x = k
      · subst e
        rw [if_pos rfl]
        refine ⟨fun q => ⟨o, ?_, h2⟩, fun q => ?_⟩
        · rw [show (x.toInt - lo).toNat = 0 by omega]; rfl
        · exfalso; omega
      · rw [if_neg e]
        have ne : x.toInt ≠ lo := fun q => e (Int32.toInt_inj.mp (by rw [q, h1]))
        refine ⟨fun q => ?_, fun q => i2 (by omega)⟩
        obtain ⟨off, j1, j2⟩ := i1 (by omega)
        refine ⟨off, ?_, j2⟩
        rw [show (x.toInt - lo).toNat = (x.toInt - (lo + 1)).toNat + 1 by omega]
        exact j1
theorem ck_lk_in {pc a : Nat} {d : Int} (hd : (pc : Int) + d = (a : Int)) {x : Int32} : ∀ {ps : List (Int × Int)} {sw : List (Int32 × Nat)}, ck_lk pc ps sw = true → (pc : Int) + Op.lookupswitch.offset ps d x.toInt = (am_sw x a sw : Int) := by
  intro ps
  induction ps with
  | nil =>
    intro sw h
    cases sw with
    | nil => exact hd
    | cons q r => cases h
  | cons o os ih =>
    intro sw h
    cases sw with
    | nil => cases h
    | cons q r =>
      obtain ⟨k, t⟩ := q
      obtain ⟨a1, o1⟩ := o
      unfold ck_lk at h
      simp only [Bool.and_eq_true, decide_eq_true_eq] at h
      obtain ⟨⟨h1, h2⟩, h3⟩ := h
      unfold am_sw
      by_cases e : x = k
      · subst e
        rw [if_pos rfl, Op.lookupswitch.offset_cons, if_pos (by rw [h1])]
        exact h2
      · rw [if_neg e, lv_osw e h1]
        exact ih h3
def g_sn : List (Nat × Nat × Nat) := [(11, 298, 0), (12, 214, 4), (12, 217, 3), (1, 30, 2), (1, 33, 1)]
def g_snw (x : Nat × Nat × Nat) : Cond := .fieldLink (gR x.1) x.2.1 (g_get ("", "") g_stn x.2.2).1 (g_get ("", "") g_stn x.2.2).2 "[I"
theorem g_sn_ok : g_sn.map g_snw = g_at [736, 1454, 1456, 1223, 1225] := by decide +kernel
def ck_gst (y pc a : Nat) (v : Value) (sw : List (Int32 × Nat)) : Bool := match v, sw with
  | .ref r, [(_, j)] => (match g_sn[j]? with
    | some (o, i, k) => decide (a = 3) && decide (o = gO y) && decide (k < 5) && decide (r = am_T0 + k) && decide (decode (gB y) pc = .ok (.getstatic i, 3))
    | none => false)
  | _, _ => false
theorem g_mx : [Cond.static Lib.Math.max.name, Cond.initialized "java/lang/Math"] = g_at [180, 145] := by decide +kernel
theorem g_mxc : [Cond.code Lib.Math.max.name Lib.Math.max.code 2 (some .int)] = g_at [181] := rfl
theorem g_oi : [Cond.instanceMethod Lib.objectInit] = g_at [171] := by decide +kernel
theorem g_oic : [Cond.code Lib.objectInit ⟨#[0xb1]⟩ 1 none] = g_at [172] := rfl
theorem g_cp : [Cond.native arraycopyName, Cond.static arraycopyName, Cond.initialized "java/lang/System"] = g_at [1254, 1253, 163] := by decide +kernel
def ck_call1 (y pc n : Nat) (spec : Bool) (sw : List (Int32 × Nat)) : Bool := match sw with
  | [(_, j)] => (match g_cl[j]? with
    | some (o, i, f, _, z) => decide (o = gO y) && decide (f = 0) && decide (z = n) && (bif spec then decide (decode (gB y) pc = .ok (.invokespecial i, 3)) else decide (decode (gB y) pc = .ok (.invokestatic i, 3)))
    | none => false)
  | _ => false
set_option maxRecDepth 50000 in
theorem g_cl_split : g_cl = ([(11, 1, 0, 2, 1001), (11, 11, 0, 2, 208), (11, 20, 0, 2, 223), (11, 27, 0, 2, 264), (11, 34, 0, 2, 151), (11, 42, 0, 1, 212), (11, 50, 0, 1, 152), (11, 57, 0, 1, 224), (11, 60, 0, 1, 226), (11, 63, 0, 1, 225), (11, 66, 0, 1, 217), (11, 91, 0, 1, 153), (11, 99, 0, 1, 265), (11, 110, 0, 1, 209), (11, 114, 0, 1, 154), (11, 144, 0, 1, 222), (11, 148, 0, 1, 155), (11, 151, 0, 0, 21), (11, 155, 0, 1, 220), (11, 159, 0, 1, 157), (11, 178, 0, 1, 149), (11, 197, 0, 1, 161), (11, 201, 0, 1, 190), (11, 207, 0, 1, 191), (11, 211, 0, 1, 221), (11, 214, 0, 1, 20), (11, 227, 0, 1, 205), (11, 242, 0, 0, 25), (11, 267, 0, 1, 189), (11, 277, 0, 1, 192), (11, 286, 0, 0, 288), (12, 1, 0, 2, 1001), (12, 186, 0, 1, 91), (12, 195, 0, 0, 33), (12, 203, 0, 0, 35), (12, 210, 0, 0, 38), (12, 220, 0, 1, 39), (12, 226, 0, 1, 40), (12, 241, 0, 1, 44), (12, 257, 0, 1, 47), (12, 261, 0, 1, 45), (12, 265, 0, 0, 49), (12, 268, 0, 0, 50), (12, 274, 0, 1, 56), (12, 278, 0, 1, 59), (12, 285, 0, 1, 60), (12, 291, 0, 1, 61), (12, 294, 0, 1, 58), (12, 297, 0, 1, 48), (12, 300, 0, 1, 51), (12, 303, 0, 0, 54), (12, 307, 0, 1, 57), (12, 310, 0, 1, 52), (12, 313, 0, 1, 62), (12, 316, 0, 0, 53), (12, 319, 0, 1, 55), (12, 322, 0, 1, 63), (12, 325, 0, 1, 46), (12, 332, 0, 1, 65), (12, 335, 0, 1, 74)] : List (Nat × Nat × Nat × Nat × Nat)) ++ ([(12, 338, 0, 1, 76), (12, 341, 0, 1, 67), (12, 344, 0, 1, 72), (12, 347, 0, 1, 69), (12, 351, 0, 1, 70), (12, 354, 0, 1, 66), (12, 363, 0, 1, 64), (12, 366, 0, 1, 75), (12, 369, 0, 1, 71), (12, 372, 0, 1, 73), (12, 375, 0, 1, 68), (12, 378, 0, 1, 32), (12, 381, 0, 1, 78), (12, 394, 0, 0, 79), (12, 400, 0, 1, 81), (12, 403, 0, 1, 80), (12, 406, 0, 0, 83), (12, 410, 0, 1, 84), (12, 420, 0, 1, 87), (12, 423, 0, 1, 85), (12, 427, 0, 1, 86), (12, 430, 0, 1, 82), (12, 455, 0, 1, 93), (12, 461, 0, 1, 94), (12, 464, 0, 1, 96), (12, 468, 0, 0, 34), (12, 471, 0, 1, 97), (12, 481, 0, 1, 103), (12, 485, 0, 1, 105), (12, 488, 0, 0, 108), (12, 493, 0, 1, 109), (12, 496, 0, 1, 111), (12, 499, 0, 1, 112), (12, 502, 0, 1, 114), (12, 505, 0, 1, 117), (12, 508, 0, 1, 41), (12, 512, 0, 0, 102), (12, 515, 0, 1, 101), (12, 519, 0, 0, 37), (12, 522, 0, 1, 104), (12, 525, 0, 0, 36), (12, 528, 0, 1, 121), (12, 531, 0, 1, 122), (12, 535, 0, 1, 123), (12, 538, 0, 1, 124), (12, 541, 0, 1, 115), (12, 544, 0, 0, 119), (12, 547, 0, 1, 125), (12, 550, 0, 1, 113), (12, 554, 0, 1, 120), (12, 557, 0, 1, 106), (12, 560, 0, 1, 116), (12, 566, 0, 1, 107), (12, 569, 0, 1, 110), (12, 572, 0, 1, 118), (12, 578, 0, 1, 126), (12, 581, 0, 1, 128), (0, 3, 0, 2, 1001), (0, 30, 0, 1, 138), (1, 3, 0, 2, 1001)] : List (Nat × Nat × Nat × Nat × Nat)) ++ ([(1, 18, 0, 1, 145), (1, 22, 0, 1, 146), (2, 3, 0, 2, 1001), (2, 29, 1, 0, 22), (3, 3, 0, 2, 1001), (3, 11, 0, 2, 208), (3, 26, 0, 2, 202), (3, 33, 0, 2, 147), (3, 40, 0, 2, 142), (3, 64, 0, 1, 217), (3, 67, 1, 0, 28), (3, 75, 0, 1, 219), (3, 87, 0, 1, 216), (3, 91, 0, 1, 156), (3, 95, 0, 0, 1002), (3, 104, 0, 1, 158), (3, 107, 0, 1, 148), (3, 108, 0, 1, 203), (3, 123, 0, 1, 159), (3, 130, 0, 1, 209), (3, 138, 0, 1, 215), (3, 142, 0, 1, 195), (3, 151, 1, 0, 25), (3, 158, 0, 1, 160), (3, 167, 1, 0, 29), (3, 182, 0, 1, 162), (3, 192, 0, 0, 180), (3, 196, 0, 1, 184), (3, 199, 0, 1, 181), (3, 202, 0, 1, 163), (3, 208, 0, 1, 164), (3, 211, 0, 1, 166), (3, 214, 0, 1, 176), (3, 217, 0, 1, 221), (3, 221, 0, 1, 222), (3, 224, 0, 1, 197), (3, 232, 0, 0, 165), (3, 235, 0, 1, 169), (3, 242, 0, 0, 168), (3, 246, 0, 1, 170), (3, 249, 0, 0, 167), (3, 252, 0, 1, 171), (3, 256, 0, 1, 172), (3, 275, 0, 1, 150), (3, 279, 1, 0, 22), (3, 283, 0, 1, 139), (3, 286, 0, 1, 173), (3, 290, 1, 0, 26), (3, 294, 0, 1, 196), (3, 298, 1, 0, 24), (3, 301, 0, 1, 174), (3, 304, 0, 1, 154), (3, 311, 0, 1, 198), (3, 315, 0, 0, 175), (3, 319, 0, 1, 199), (3, 323, 1, 0, 23), (3, 326, 0, 0, 177), (3, 330, 0, 1, 178), (3, 334, 0, 1, 179), (3, 340, 0, 1, 143)] : List (Nat × Nat × Nat × Nat × Nat)) ++ ([(3, 343, 0, 1, 213), (3, 346, 0, 1, 201), (3, 349, 0, 1, 200), (3, 352, 0, 1, 204), (3, 355, 0, 1, 182), (3, 358, 0, 1, 183), (3, 364, 0, 1, 140), (3, 367, 0, 1, 185), (3, 371, 0, 1, 141), (3, 374, 0, 1, 186), (3, 388, 0, 1, 187), (3, 395, 0, 1, 138), (3, 402, 0, 1, 188), (3, 413, 0, 1, 144), (3, 417, 0, 1, 190), (4, 3, 0, 2, 1001), (4, 28, 1, 0, 27), (4, 39, 1, 0, 25), (4, 45, 1, 0, 26), (5, 3, 0, 2, 1001), (5, 17, 0, 2, 193), (5, 24, 0, 2, 136), (5, 31, 0, 2, 218), (5, 38, 0, 2, 206), (5, 47, 0, 1, 194), (5, 50, 0, 1, 137), (5, 53, 0, 1, 207), (5, 66, 0, 0, 1003), (5, 72, 1, 0, 26), (6, 3, 0, 2, 1001), (6, 28, 1, 0, 28), (7, 3, 0, 2, 1001), (7, 9, 0, 0, 1002), (7, 25, 0, 1, 210), (7, 29, 0, 1, 209), (7, 33, 0, 1, 211), (8, 3, 0, 2, 1001), (8, 19, 1, 0, 28), (9, 3, 0, 2, 1001), (9, 11, 0, 2, 208), (9, 53, 0, 1, 217), (9, 56, 0, 1, 251), (9, 60, 0, 1, 255), (9, 63, 0, 1, 259), (9, 67, 0, 1, 258), (9, 74, 0, 1, 209), (9, 78, 0, 1, 214), (9, 81, 1, 0, 29), (9, 84, 0, 1, 227), (9, 88, 0, 0, 261), (9, 92, 0, 1, 228), (9, 95, 0, 0, 262), (9, 98, 0, 1, 232), (9, 101, 0, 1, 234), (9, 104, 0, 1, 235), (9, 107, 0, 1, 237), (9, 110, 0, 1, 238), (9, 113, 0, 1, 253), (9, 116, 0, 1, 229), (9, 119, 0, 1, 230)] : List (Nat × Nat × Nat × Nat × Nat)) ++ ([(9, 122, 0, 1, 231), (9, 125, 0, 1, 254), (9, 128, 0, 1, 257), (9, 131, 0, 1, 252), (9, 134, 0, 1, 249), (9, 137, 0, 1, 240), (9, 140, 0, 1, 250), (9, 143, 0, 1, 248), (9, 146, 0, 1, 256), (9, 149, 0, 1, 244), (9, 152, 0, 1, 260), (9, 156, 0, 1, 233), (9, 159, 0, 1, 236), (9, 162, 0, 1, 226), (9, 165, 0, 1, 246), (9, 168, 0, 1, 239), (9, 171, 0, 1, 247), (9, 174, 0, 1, 241), (9, 177, 0, 1, 242), (9, 180, 0, 1, 243), (9, 183, 0, 0, 263), (9, 186, 0, 1, 245), (9, 193, 0, 1, 210), (10, 3, 0, 2, 1001), (10, 34, 0, 1, 267), (10, 38, 0, 1, 269), (10, 42, 0, 1, 270), (10, 50, 0, 1, 209), (10, 54, 1, 0, 29), (10, 57, 0, 0, 268), (10, 61, 0, 1, 266), (10, 65, 0, 0, 277), (10, 69, 0, 1, 215), (10, 75, 0, 0, 278), (10, 79, 0, 1, 213), (10, 82, 0, 1, 271), (10, 86, 0, 1, 274), (10, 90, 0, 1, 276), (10, 94, 0, 1, 273), (10, 98, 0, 1, 275), (10, 101, 0, 0, 272), (13, 7, 0, 1, 4), (13, 15, 0, 1, 5), (13, 18, 0, 1, 8), (13, 22, 0, 1, 12), (13, 30, 0, 1, 14), (13, 33, 0, 1, 16), (13, 39, 0, 1, 17), (13, 42, 0, 1, 18), (13, 46, 0, 2, 0), (13, 49, 0, 2, 30), (13, 52, 0, 1, 1), (13, 56, 0, 1, 42), (13, 57, 0, 1, 2), (13, 60, 0, 1, 43), (13, 61, 0, 1, 3), (13, 65, 0, 1, 92), (13, 66, 0, 0, 279), (13, 71, 0, 1, 77), (13, 72, 0, 1, 31)] : List (Nat × Nat × Nat × Nat × Nat)) ++ ([(13, 75, 0, 0, 280), (13, 77, 0, 1, 88), (13, 78, 0, 1, 6), (13, 81, 0, 1, 89), (13, 82, 0, 1, 7), (13, 85, 0, 1, 90), (13, 86, 0, 0, 281), (13, 89, 0, 1, 95), (13, 90, 0, 1, 9), (13, 94, 0, 1, 98), (13, 95, 0, 1, 10), (13, 99, 0, 1, 99), (13, 100, 0, 1, 11), (13, 104, 0, 1, 100), (13, 105, 0, 0, 282), (13, 108, 0, 1, 127), (13, 109, 0, 1, 13), (13, 113, 0, 1, 129), (13, 114, 0, 0, 283), (13, 116, 0, 1, 130), (13, 117, 0, 1, 15), (13, 120, 0, 1, 131), (13, 121, 0, 0, 284), (13, 123, 0, 1, 132), (13, 124, 0, 0, 285), (13, 126, 0, 1, 133), (13, 127, 0, 0, 286), (13, 130, 0, 1, 134), (13, 131, 0, 1, 19), (13, 134, 0, 1, 135)] : List (Nat × Nat × Nat × Nat × Nat)) := rfl
theorem g_cl_in {x : Nat × Nat × Nat × Nat × Nat} {j : Nat} (h : g_cl[j]? = some x) : g_clw x ∈ lw_tbl := by
  have h1 : x ∈ g_cl := List.mem_of_getElem? h
  rw [g_cl_split] at h1
  simp only [List.mem_append] at h1
  have key : ∀ {l : List (Nat × Nat × Nat × Nat × Nat)} {ps : List Nat}, l.map g_clw = g_at ps → x ∈ l → g_clw x ∈ lw_tbl := fun e m => g_at_in (by rw [← e]; exact List.mem_map.mpr ⟨x, m, rfl⟩)
  rcases h1 with ((((h1 | h1) | h1) | h1) | h1) | h1
  · exact key g_cl_ok0 h1
  · exact key g_cl_ok1 h1
  · exact key g_cl_ok2 h1
  · exact key g_cl_ok3 h1
  · exact key g_cl_ok4 h1
  · exact key g_cl_ok5 h1
section OTH
variable {G : am_G} {D : va_G} {cA : Nat → ClassId} {A : Nat → Prop} {zt : Nat → Nat} {p : Program} {l : Launch} {e : Env} {R : Room} {s : State} {m : MethodId} {args : Array Value} {below : List Frame} {meth : Method} {c : Code} {H : Heap} {locs : List Loc} {cells slots : Nat} {Q : State → Prop} {y pc : Nat} {lsR : Array Slot} {ad : Nat → Nat} {h : am_H}
theorem p_sw (X : am_Ctx G D cA A zt p s m meth c args y) {a : Nat} {z : Int32} {sw : List (Int32 × Nat)} (hk : ck_sw y pc a sw = true) {st : List Value}
    (kk : W p l e R s m args below meth c H locs cells slots Q (F0 m (am_sw z a sw) lsR st)) : W p l e R s m args below meth c H locs cells slots Q (F0 m pc lsR (.int z :: st)) := by
  obtain ⟨hx, hb, -⟩ := X
  unfold ck_sw at hk
  split at hk
  · rename_i d lo hi offs len hd
    simp only [Bool.and_eq_true, decide_eq_true_eq] at hk
    obtain ⟨⟨h1, h2⟩, h3⟩ := hk
    obtain ⟨i1, i2⟩ := ck_tab_in (a := a) (x := z) h3
    by_cases q : z.toInt < lo ∨ hi < z.toInt
    · rw [i2 (by omega)] at kk
      exact lv_tableOut hx hb hd q h1 kk
    · obtain ⟨off, j1, j2⟩ := i1 (by omega)
      rw [Array.getElem?_toList] at j1
      exact lv_tableIn hx hb hd (by omega) (by omega) j1 j2 kk
  · rename_i d ps len hd
    simp only [Bool.and_eq_true, decide_eq_true_eq] at hk
    obtain ⟨⟨h1, h2⟩, h3⟩ := hk
    exact lv_lookup hx hb hd h2 rfl (ck_lk_in h1 h3) kk
  · cases hk
theorem p_gst (X : am_Ctx G D cA A zt p s m meth c args y) {a : Nat} {v : Value} {sw : List (Int32 × Nat)} (hk : ck_gst y pc a v sw = true) (hR : am_Rel D cA A zt s.heap ad h H locs) {st : List Value}
    (kk : W p l e R s m args below meth c H locs cells slots Q (F0 m (pc + a) lsR (am_v ad v :: st))) : W p l e R s m args below meth c H locs cells slots Q (F0 m pc lsR st) := by
  obtain ⟨hx, hb, hml, hown, hts, hnm, hK, hA, hN, hT, -⟩ := X
  obtain ⟨hP, hD, hS, hO, hz⟩ := hR
  unfold ck_gst at hk
  split at hk
  · rename_i r _ j
    cases hj : g_sn[j]? with
    | none => rw [hj] at hk; cases hk
    | some w =>
      obtain ⟨o, i, k⟩ := w
      rw [hj] at hk
      simp only [Bool.and_eq_true, decide_eq_true_eq] at hk
      obtain ⟨⟨⟨⟨rfl, rfl⟩, h5⟩, rfl⟩, hd⟩ := hk
      have hw : g_snw (gO y, i, k) ∈ lw_tbl := by
        have h1 : g_snw (gO y, i, k) ∈ g_sn.map g_snw := List.mem_map.mpr ⟨_, List.mem_of_getElem? hj, rfl⟩
        rw [g_sn_ok] at h1
        exact g_at_in h1
      have hg : g_stn[k]? = some (g_get ("", "") g_stn k) := g_get_eq (show k < g_stn.length from h5)
      have hq := hT.2.1 k _ hg
      have kk : W p l e R s m args below meth c H locs cells slots Q (F0 m (pc + 3) lsR (.ref (ad (am_T0 + k)) :: st)) := kk
      rw [hz] at kk
      exact va_gets hx hb hq hS hown (hts _ (gAll_of hw rfl)) (fun _ h => h) hd kk
  · cases hk
theorem p_max (X : am_Ctx G D cA A zt p s m meth c args y) {a b : Int32} {sw : List (Int32 × Nat)} (hk : ck_call1 y pc 1002 false sw = true) (hsz : lsR.size = gL y) {st : List Value} (hw : (st.map fun v => v.category).sum ≤ 8) (hf : 1 ≤ R.frames) (hlo : 64 ≤ R.locals) (hc1 : cells ≤ R.cells) (hs1 : slots ≤ R.slots)
    (kk : W p l e R s m args below meth c H locs cells slots Q (F0 m (pc + 3) lsR (.int (if a < b then b else a) :: st))) : W p l e R s m args below meth c H locs cells slots Q (F0 m pc lsR (.int b :: .int a :: st)) := by
  obtain ⟨hx, hb, hml, hown, hts, -⟩ := X
  unfold ck_call1 at hk
  split at hk
  · rename_i j
    cases hj : g_cl[j]? with
    | none => rw [hj] at hk; cases hk
    | some w =>
      obtain ⟨o, i, f, k, z⟩ := w
      rw [hj] at hk
      simp only [Bool.and_eq_true, decide_eq_true_eq, cond_false] at hk
      obtain ⟨⟨⟨rfl, rfl⟩, rfl⟩, hd⟩ := hk
      have m1 : Cond.static Lib.Math.max.name ∈ gAll := gAll_of (g_at_in (by rw [← g_mx]; simp)) rfl
      have m2 : Cond.initialized "java/lang/Math" ∈ gAll := gAll_of (g_at_in (by rw [← g_mx]; simp)) rfl
      have m3 : Cond.code Lib.Math.max.name Lib.Math.max.code 2 (some .int) ∈ gAll := gAll_of (g_at_in (by rw [← g_mxc]; simp)) rfl
      have m4 : Cond.methodLink (gR (gO y)) i Lib.Math.max.name ∈ gAll := gAll_of (g_cl_in hj) rfl
      exact va_mmax hx hb (by rw [hml, hsz]) hown (hts _ m4) (hts _ m1) (hts _ m2) (hts _ m3) hf (by omega) hc1 hs1 hd kk
  · cases hk
theorem p_oi (X : am_Ctx G D cA A zt p s m meth c args y) {r : Nat} {sw : List (Int32 × Nat)} (hk : ck_call1 y pc 1001 true sw = true) (hsz : lsR.size = gL y) {st : List Value} (hw : (st.map fun v => v.category).sum ≤ 8) (hf : 1 ≤ R.frames) (hlo : 64 ≤ R.locals)
    (kk : W p l e R s m args below meth c H locs cells slots Q (F0 m (pc + 3) lsR st)) : W p l e R s m args below meth c H locs cells slots Q (F0 m pc lsR (.ref r :: st)) := by
  obtain ⟨hx, hb, hml, hown, hts, -⟩ := X
  unfold ck_call1 at hk
  split at hk
  · rename_i j
    cases hj : g_cl[j]? with
    | none => rw [hj] at hk; cases hk
    | some w =>
      obtain ⟨o, i, f, k, z⟩ := w
      rw [hj] at hk
      simp only [Bool.and_eq_true, decide_eq_true_eq, cond_true] at hk
      obtain ⟨⟨⟨rfl, rfl⟩, rfl⟩, hd⟩ := hk
      have m1 : Cond.instanceMethod Lib.objectInit ∈ gAll := gAll_of (g_at_in (by rw [← g_oi]; simp)) rfl
      have m3 : Cond.code Lib.objectInit ⟨#[0xb1]⟩ 1 none ∈ gAll := gAll_of (g_at_in (by rw [← g_oic]; simp)) rfl
      have m4 : Cond.methodLink (gR (gO y)) i Lib.objectInit ∈ gAll := gAll_of (g_cl_in hj) rfl
      exact W.objInit hx hb hown (hts _ m4) (hts _ m1) (hts _ m3) rfl (by rw [hml]; exact hsz) rfl hd hf (by show 2 * 0 + _ + 12 ≤ _; omega) kk
  · cases hk
theorem p_copy (X : am_Ctx G D cA A zt p s m meth c args y) {a b n0 n1 : Nat} {sp dp n : Int32} {f g : Nat → Int64} {sw : List (Int32 × Nat)} (hk : ck_call1 y pc 1003 false sw = true) (hR : am_Rel D cA A zt s.heap ad h H locs) (hsz : lsR.size = gL y) (ha : a < h.2.1) (hb' : b < h.2.1) (hcb : h.1 b = .inl (1, n0, .inr (.inl f))) (hca : h.1 a = .inl (1, n1, .inr (.inl g))) {st : List Value} (hw : (st.map fun v => v.category).sum ≤ 8) (hf : 1 ≤ R.frames) (hlo : 64 ≤ R.locals)
    (hin : ¬ (sp < 0 ∨ dp < 0 ∨ n < 0 ∨ n0 < sp.toNatClampNeg + n.toNatClampNeg ∨ n1 < dp.toNatClampNeg + n.toNatClampNeg))
    (kk : ∀ (H' : Heap) (locs' : List Loc), am_Rel D cA A zt s.heap ad (am_set h a (.inl (1, n1, .inr (.inl (va_cpy f g sp.toNatClampNeg dp.toNatClampNeg n.toNatClampNeg))))) H' locs' → W p l e R s m args below meth c H' locs' cells slots Q (F0 m (pc + 3) lsR st)) : W p l e R s m args below meth c H locs cells slots Q (F0 m pc lsR (.int n :: .int dp :: .ref (ad a) :: .int sp :: .ref (ad b) :: st)) := by
  obtain ⟨hx, hb, hml, hown, hts, hnm, hK, hA, hN, hT, -⟩ := X
  obtain ⟨hP, hD, hS, hO, hz⟩ := hR
  unfold ck_call1 at hk
  split at hk
  · rename_i j
    cases hj : g_cl[j]? with
    | none => rw [hj] at hk; cases hk
    | some w =>
      obtain ⟨o, i, f0, k, z⟩ := w
      rw [hj] at hk
      simp only [Bool.and_eq_true, decide_eq_true_eq, cond_false] at hk
      obtain ⟨⟨⟨rfl, rfl⟩, rfl⟩, hd⟩ := hk
      have m1 : Cond.native arraycopyName ∈ gAll := gAll_of (g_at_in (by rw [← g_cp]; simp)) rfl
      have m2 : Cond.static arraycopyName ∈ gAll := gAll_of (g_at_in (by rw [← g_cp]; simp)) rfl
      have m3 : Cond.initialized "java/lang/System" ∈ gAll := gAll_of (g_at_in (by rw [← g_cp]; simp)) rfl
      have m4 : Cond.methodLink (gR (gO y)) i arraycopyName ∈ gAll := gAll_of (g_cl_in hj) rfl
      have hea : (am_W ad cA h)[a]? = some (ad a, .inl (cA 1, n1, .inr (.inl g))) := by rw [am_W_at ha, hca]; rfl
      have heb : (am_W ad cA h)[b]? = some (ad b, .inl (cA 1, n0, .inr (.inl f))) := by rw [am_W_at hb', hcb]; rfl
      have hnw : nativeFrameWords "java/lang/System" "arraycopy" 5 + 11 ≤ 56 := by decide +kernel
      simp only [not_or] at hin
      obtain ⟨i1, i2, i3, i4, i5⟩ := hin
      exact va_copyl hx hb (by rw [hml, hsz]) hown (hts _ m4) (hts _ m1) (hts _ m2) (hts _ m3) hK hP hD hS b a 1 1 heb hea rfl rfl rfl i1 i2 i3 (by omega) (by omega) (fun _ _ => rfl) hf (by omega) hd (fun H1 locs1 hP1 hD1 hS1 => kk H1 locs1 (am_Rel.set (x := .inl (1, n1, .inr (.inl (va_cpy f g sp.toNatClampNeg dp.toNatClampNeg n.toNatClampNeg)))) hP1 hD1 hS1 hO hz ha trivial))
  · cases hk
end OTH
