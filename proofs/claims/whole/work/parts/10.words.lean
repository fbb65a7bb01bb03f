def gw_code_l : List Nat := ([0, 1, 2, 3, 4, 5, 6, 7, 8, 9, 10, 11, 12, 13, 14, 15, 16, 17, 18, 19, 20, 21, 22, 23] : List Nat) ++ ([24, 25, 26, 27, 28, 29, 30, 31, 32, 33, 34, 35, 36, 37, 38, 39, 40, 41, 42, 43, 44, 45, 46, 47] : List Nat) ++ ([48, 49, 50, 51, 52, 53, 54, 55, 56, 57, 58, 59, 60, 61, 62, 63, 64, 65, 66, 67, 68, 69, 70, 71] : List Nat) ++ ([72, 73, 74, 75, 76, 77, 78, 79, 80, 81, 82, 83, 84, 85, 86, 87, 88, 89, 90, 91, 92, 93, 94, 95] : List Nat) ++ ([96, 97, 98, 99, 100, 101, 102, 103, 104, 105, 106, 107, 108, 109, 110, 111, 112, 113, 114, 115, 116, 117, 118, 119] : List Nat) ++ ([120, 121, 122, 123, 124, 125, 126, 127, 128, 129, 130, 131, 132, 133, 134, 135, 136, 137, 138, 139, 140, 141, 142, 143] : List Nat) ++ ([144, 145, 146, 147, 148, 149, 150, 151, 152, 153, 154, 155, 156, 157, 158, 159, 160, 161, 162, 163, 164, 165, 166, 167] : List Nat) ++ ([168, 169, 170, 171, 172, 173, 174, 175, 176, 177, 178, 179, 180, 181, 182, 183, 184, 185, 186, 187, 188, 189, 190, 191] : List Nat) ++ ([192, 193, 194, 195, 196, 197, 198, 199, 200, 201, 202, 203, 204, 205, 206, 207, 208, 209, 210, 211, 212, 213, 214, 215] : List Nat) ++ ([216, 217, 218, 219, 220, 221, 222, 223, 224, 225, 226, 227, 228, 229, 230, 231, 232, 233, 234, 235, 236, 237, 238, 239] : List Nat) ++ ([240, 241, 242, 243, 244, 245, 246, 247, 248, 249, 250, 251, 252, 253, 254, 255, 256, 257, 258, 259, 260, 261, 262, 263] : List Nat) ++ ([264, 265, 266, 267, 268, 269, 270, 271, 272, 273, 274, 275, 276, 277, 278, 288] : List Nat)
theorem gw_code_sub : ∀ y ∈ g_cm, y ∈ gw_code_l := by decide +kernel
theorem gw_code {y : Nat} (h : y ∈ gw_code_l) : Cond.code (gY y) (gB y) (gL y) (gRt y) ∈ lw_tbl := by
  have key : ∀ {l : List Nat} {ps : List Nat}, l.map (fun y => Cond.code (gY y) (gB y) (gL y) (gRt y)) = g_at ps → y ∈ l → Cond.code (gY y) (gB y) (gL y) (gRt y) ∈ lw_tbl := fun e m => g_at_in (by rw [← e]; exact List.mem_map.mpr ⟨y, m, rfl⟩)
  unfold gw_code_l at h
  simp only [List.append_assoc] at h
  rcases List.mem_append.mp h with h | h
  · exact key g_cm0 h
  rcases List.mem_append.mp h with h | h
  · exact key g_cm1 h
  rcases List.mem_append.mp h with h | h
  · exact key g_cm2 h
  rcases List.mem_append.mp h with h | h
  · exact key g_cm3 h
  rcases List.mem_append.mp h with h | h
  · exact key g_cm4 h
  rcases List.mem_append.mp h with h | h
  · exact key g_cm5 h
  rcases List.mem_append.mp h with h | h
  · exact key g_cm6 h
  rcases List.mem_append.mp h with h | h
  · exact key g_cm7 h
  rcases List.mem_append.mp h with h | h
  · exact key g_cm8 h
  rcases List.mem_append.mp h with h | h
  · exact key g_cm9 h
  rcases List.mem_append.mp h with h | h
  · exact key g_cm10 h
  exact key g_cm11 h
def gw_stat_l : List Nat := ([21, 22, 23, 24, 25, 26, 27, 28, 29, 33, 34, 35, 36, 37, 38, 49, 50, 53, 54, 79, 83, 102, 108, 119, 165, 167, 168, 175, 177, 180, 261, 262, 263, 268, 272, 277, 278, 279, 280, 281, 282, 283, 284, 285, 286, 288] : List Nat)
theorem gw_stat_sub : ∀ y ∈ g_cm, gK y = 0 → y ∈ gw_stat_l := by decide +kernel
theorem gw_stat {y : Nat} (h : y ∈ gw_stat_l) : Cond.static (gY y) ∈ lw_tbl := by
  have key : ∀ {l : List Nat} {ps : List Nat}, l.map (fun y => Cond.static (gY y)) = g_at ps → y ∈ l → Cond.static (gY y) ∈ lw_tbl := fun e m => g_at_in (by rw [← e]; exact List.mem_map.mpr ⟨y, m, rfl⟩)
  exact key g_st_ok h
def gw_inst_l : List Nat := ([0, 1, 2, 3, 4, 5, 6, 7, 8, 9, 10, 11, 12, 13, 14, 15, 16, 17, 18, 19, 20, 30, 31, 32, 39, 40, 41, 42, 43, 44, 45, 46, 47, 48, 51, 52, 55, 56, 57, 58, 59, 60, 61, 62, 63, 64, 65, 66, 67, 68, 69, 70, 71, 72, 73, 74, 75, 76, 77, 78, 80, 81, 82, 84, 85, 86, 87, 88, 89, 90, 91, 92, 93, 94, 95, 96, 97, 98, 99, 100] : List Nat) ++ ([101, 103, 104, 105, 106, 107, 109, 110, 111, 112, 113, 114, 115, 116, 117, 118, 120, 121, 122, 123, 124, 125, 126, 127, 128, 129, 130, 131, 132, 133, 134, 135, 136, 137, 138, 139, 140, 141, 142, 143, 144, 145, 146, 147, 148, 149, 150, 151, 152, 153, 154, 155, 156, 157, 158, 159, 160, 161, 162, 163, 164, 166, 169, 170, 171, 172, 173, 174, 176, 178, 179, 181, 182, 183, 184, 185, 186, 187, 188, 189] : List Nat) ++ ([190, 191, 192, 193, 194, 195, 196, 197, 198, 199, 200, 201, 202, 203, 204, 205, 206, 207, 208, 209, 210, 211, 212, 213, 214, 215, 216, 217, 218, 219, 220, 221, 222, 223, 224, 225, 226, 227, 228, 229, 230, 231, 232, 233, 234, 235, 236, 237, 238, 239, 240, 241, 242, 243, 244, 245, 246, 247, 248, 249, 250, 251, 252, 253, 254, 255, 256, 257, 258, 259, 260, 264, 265, 266, 267, 269, 270, 271, 273, 274] : List Nat) ++ ([275, 276] : List Nat)
theorem gw_inst_sub : ∀ y ∈ g_cm, gK y ≠ 0 → y ∈ gw_inst_l := by decide +kernel
theorem gw_inst {y : Nat} (h : y ∈ gw_inst_l) : Cond.instanceMethod (gY y) ∈ lw_tbl := by
  have key : ∀ {l : List Nat} {ps : List Nat}, l.map (fun y => Cond.instanceMethod (gY y)) = g_at ps → y ∈ l → Cond.instanceMethod (gY y) ∈ lw_tbl := fun e m => g_at_in (by rw [← e]; exact List.mem_map.mpr ⟨y, m, rfl⟩)
  unfold gw_inst_l at h
  simp only [List.append_assoc] at h
  rcases List.mem_append.mp h with h | h
  · exact key g_in_ok0 h
  rcases List.mem_append.mp h with h | h
  · exact key g_in_ok1 h
  rcases List.mem_append.mp h with h | h
  · exact key g_in_ok2 h
  exact key g_in_ok3 h
def gw_sel_l : List Nat := ([1, 2, 3, 4, 5, 6, 7, 8, 9, 10, 11, 12, 13, 14, 15, 16, 17, 18, 19, 20, 31, 32, 39, 40, 41, 42, 43, 44, 45, 46, 47, 48, 51, 52, 55, 56, 57, 58, 59, 60, 61, 62, 63, 64, 65, 66, 67, 68, 69, 70, 71, 72, 73, 74, 75, 76, 77, 78, 80, 81, 82, 84, 85, 86, 87, 88, 89, 90, 91, 92, 93, 94, 95, 96, 97, 98, 99, 100, 101, 103] : List Nat) ++ ([104, 105, 106, 107, 109, 110, 111, 112, 113, 114, 115, 116, 117, 118, 120, 121, 122, 123, 124, 125, 126, 127, 128, 129, 130, 131, 132, 133, 134, 135, 137, 138, 139, 140, 141, 143, 144, 145, 146, 148, 149, 150, 152, 153, 154, 155, 156, 157, 158, 159, 160, 161, 162, 163, 164, 166, 169, 170, 171, 172, 173, 174, 176, 178, 179, 181, 182, 183, 184, 185, 186, 187, 188, 189, 190, 191, 192, 194, 195, 196] : List Nat) ++ ([197, 198, 199, 200, 201, 203, 204, 205, 207, 209, 210, 211, 212, 213, 214, 215, 216, 217, 219, 220, 221, 222, 224, 225, 226, 227, 228, 229, 230, 231, 232, 233, 234, 235, 236, 237, 238, 239, 240, 241, 242, 243, 244, 245, 246, 247, 248, 249, 250, 251, 252, 253, 254, 255, 256, 257, 258, 259, 260, 265, 266, 267, 269, 270, 271, 273, 274, 275, 276] : List Nat)
theorem gw_sel_sub : ∀ y ∈ g_cm, 2 ≤ gK y → y ∈ gw_sel_l := by decide +kernel
theorem gw_sel {y : Nat} (h : y ∈ gw_sel_l) : Cond.selects (gY y).cls (gY y) (gY y) ∈ lw_tbl := by
  have key : ∀ {l : List Nat} {ps : List Nat}, l.map (fun y => Cond.selects (gY y).cls (gY y) (gY y)) = g_at ps → y ∈ l → Cond.selects (gY y).cls (gY y) (gY y) ∈ lw_tbl := fun e m => g_at_in (by rw [← e]; exact List.mem_map.mpr ⟨y, m, rfl⟩)
  unfold gw_sel_l at h
  simp only [List.append_assoc] at h
  rcases List.mem_append.mp h with h | h
  · exact key g_vi_ok0 h
  rcases List.mem_append.mp h with h | h
  · exact key g_vi_ok1 h
  exact key g_vi_ok2 h
theorem g_cm_ok : ∀ y ∈ g_cm, gO y < 15 ∧ (gY y).cls = gR (gO y) ∧ plainFor (gY y) = true ∧ ((gY y).cls ≠ "java/lang/invoke/MethodHandle" ∧ (gY y).cls ≠ "java/lang/invoke/VarHandle") ∧ gL y + 19 ≤ 64 ∧ (2 ≤ gK y → gO y < 13 ∧ gK y = gO y + 2) ∧ (gK y = 1 → (gY y).name = "<init>" ∧ gRt y = none) := by decide +kernel
