/-! THE LAW'S BEGINNING: the objects are made (wip/whole/tools/gen46.py) -/
def c_cs1 : List cE := [.inl (11, [.ref 1, .ref 3, .ref 10, .ref 14, .int 0, .int 0, .int 0, .int 0]), .inl (7, [.ref 2, .int 0]), .inr (0, 2000, []), .inl (9, [.ref 4, .ref 6, .ref 8, .ref 9, .int 0, .int 0, .int 0, .int 0, .int 0, .int 0, .int 0]), .inl (7, [.ref 5, .int 0]), .inr (0, 400, []), .inl (7, [.ref 7, .int 0]), .inr (0, 2000, []), .inr (0, 10, []), .inr (0, 10, []), .inl (10, [.ref 11, .ref 12, .ref 13, .int 0, .int 0, .int 0, .int 0]), .inr (2, 2000, []), .inr (2, 2000, []), .inr (2, 64, []), .inl (3, [.ref 15, .ref 17, .ref 102, .ref 103, .ref 108, .ref 111, .int 2, .long 0, .int 1, .int 0, .int 0]), .inl (7, [.ref 16, .int 0])] ++
  [.inr (0, 2000, []), .inr (3, 4, [some 18, some 39, some 60, some 81]), .inl (5, [.int 0, .ref 19, .ref 25, .ref 29, .ref 32, .ref 38, .int 0, .long 0, .int 0, .int 0, .int 0, .int 0, .int 0, .int 0]), .inl (4, [.ref 20, .ref 21, .ref 22, .ref 23, .ref 24, .int 0, .int 0]), .inr (1, 13, []), .inr (1, 13, []), .inr (1, 128, []), .inr (1, 64, []), .inr (0, 16, []), .inl (0, [.ref 26, .ref 27, .ref 28, .int 0, .int 0, .int 0, .int 0, .int 0, .int 0]), .inr (0, 40, []), .inr (1, 40, []), .inr (0, 4, []), .inl (8, [.ref 30, .ref 31, .int 0, .int 0, .int 0, .int 0]), .inr (1, 100, []), .inr (0, 3, [])] ++
  [.inl (6, [.ref 33, .ref 34, .ref 35, .ref 36, .ref 37, .int 0, .int 0, .int 0, .int 0]), .inr (0, 4, []), .inr (2, 4, []), .inr (0, 4, []), .inr (0, 4, []), .inr (0, 4, []), .inr (1, 16, []), .inl (5, [.int 1, .ref 40, .ref 46, .ref 50, .ref 53, .ref 59, .int 0, .long 0, .int 0, .int 0, .int 0, .int 0, .int 0, .int 0]), .inl (4, [.ref 41, .ref 42, .ref 43, .ref 44, .ref 45, .int 0, .int 0]), .inr (1, 13, []), .inr (1, 13, []), .inr (1, 128, []), .inr (1, 64, []), .inr (0, 16, []), .inl (0, [.ref 47, .ref 48, .ref 49, .int 0, .int 0, .int 0, .int 0, .int 0, .int 0]), .inr (0, 40, [])] ++
  [.inr (1, 40, []), .inr (0, 4, []), .inl (8, [.ref 51, .ref 52, .int 0, .int 0, .int 0, .int 0]), .inr (1, 100, []), .inr (0, 3, []), .inl (6, [.ref 54, .ref 55, .ref 56, .ref 57, .ref 58, .int 0, .int 0, .int 0, .int 0]), .inr (0, 4, []), .inr (2, 4, []), .inr (0, 4, []), .inr (0, 4, []), .inr (0, 4, []), .inr (1, 16, []), .inl (5, [.int 2, .ref 61, .ref 67, .ref 71, .ref 74, .ref 80, .int 0, .long 0, .int 0, .int 0, .int 0, .int 0, .int 0, .int 0]), .inl (4, [.ref 62, .ref 63, .ref 64, .ref 65, .ref 66, .int 0, .int 0]), .inr (1, 13, []), .inr (1, 13, [])] ++
  [.inr (1, 128, []), .inr (1, 64, []), .inr (0, 16, []), .inl (0, [.ref 68, .ref 69, .ref 70, .int 0, .int 0, .int 0, .int 0, .int 0, .int 0]), .inr (0, 40, []), .inr (1, 40, []), .inr (0, 4, []), .inl (8, [.ref 72, .ref 73, .int 0, .int 0, .int 0, .int 0]), .inr (1, 100, []), .inr (0, 3, []), .inl (6, [.ref 75, .ref 76, .ref 77, .ref 78, .ref 79, .int 0, .int 0, .int 0, .int 0]), .inr (0, 4, []), .inr (2, 4, []), .inr (0, 4, []), .inr (0, 4, []), .inr (0, 4, [])] ++
  [.inr (1, 16, []), .inl (5, [.int 3, .ref 82, .ref 88, .ref 92, .ref 95, .ref 101, .int 0, .long 0, .int 0, .int 0, .int 0, .int 0, .int 0, .int 0]), .inl (4, [.ref 83, .ref 84, .ref 85, .ref 86, .ref 87, .int 0, .int 0]), .inr (1, 13, []), .inr (1, 13, []), .inr (1, 128, []), .inr (1, 64, []), .inr (0, 16, []), .inl (0, [.ref 89, .ref 90, .ref 91, .int 0, .int 0, .int 0, .int 0, .int 0, .int 0]), .inr (0, 40, []), .inr (1, 40, []), .inr (0, 4, []), .inl (8, [.ref 93, .ref 94, .int 0, .int 0, .int 0, .int 0]), .inr (1, 100, []), .inr (0, 3, []), .inl (6, [.ref 96, .ref 97, .ref 98, .ref 99, .ref 100, .int 0, .int 0, .int 0, .int 0])] ++
  [.inr (0, 4, []), .inr (2, 4, []), .inr (0, 4, []), .inr (0, 4, []), .inr (0, 4, []), .inr (1, 16, []), .inr (0, 3, []), .inl (2, [.ref 104, .ref 105, .ref 106, .ref 107, .int 0]), .inr (0, 40, []), .inr (0, 40, []), .inr (0, 40, []), .inr (1, 40, []), .inl (1, [.ref 109, .ref 110]), .inr (0, 64, []), .inr (0, 8, []), .inr (1, 32, [])] ++
  [.inl (12, [.int 0, .null, .int 0, .int 0, .int 0, .int 0, .null, .int 0, .int 0, .null, .int 0, .null, .int 0, .int 0, .int 0, .int 0, .int 0, .int 0, .long 0, .null, .null, .long 0, .null, .null, .int 0, .null, .int 0, .null, .int 0, .null, .int 0, .null, .null, .null, .int 0, .int 0, .null, .null, .null, .null, .null, .null, .null, .null, .null, .null, .null, .null, .null, .null, .null, .null, .null, .null, .null, .null, .null, .null, .null, .null, .int 0, .null, .null, .null, .null, .null, .int 0, .null, .null, .null, .null, .null, .null, .int 0, .null, .int 0, .null, .null, .null, .int 0, .null, .null, .int 0, .long 0, .int 0, .int 0, .int 0])]
def c_cs2 : List cE := [.inl (11, [.ref 1, .ref 3, .ref 10, .ref 14, .int 0, .int 0, .int 0, .int 0]), .inl (7, [.ref 2, .int 0]), .inr (0, 2000, []), .inl (9, [.ref 4, .ref 6, .ref 8, .ref 9, .int 0, .int 0, .int 0, .int 0, .int 0, .int 0, .int 0]), .inl (7, [.ref 5, .int 0]), .inr (0, 400, []), .inl (7, [.ref 7, .int 0]), .inr (0, 2000, []), .inr (0, 10, []), .inr (0, 10, []), .inl (10, [.ref 11, .ref 12, .ref 13, .int 0, .int 0, .int 0, .int 0]), .inr (2, 2000, []), .inr (2, 2000, []), .inr (2, 64, []), .inl (3, [.ref 15, .ref 17, .ref 102, .ref 103, .ref 108, .ref 111, .int 2, .long 0, .int 1, .int 0, .int 0]), .inl (7, [.ref 16, .int 0])] ++
  [.inr (0, 2000, []), .inr (3, 4, [some 18, some 39, some 60, some 81]), .inl (5, [.int 0, .ref 19, .ref 25, .ref 29, .ref 32, .ref 38, .int 0, .long 0, .int 0, .int 0, .int 0, .int 0, .int 0, .int 0]), .inl (4, [.ref 20, .ref 21, .ref 22, .ref 23, .ref 24, .int 0, .int 0]), .inr (1, 13, []), .inr (1, 13, []), .inr (1, 128, []), .inr (1, 64, []), .inr (0, 16, []), .inl (0, [.ref 26, .ref 27, .ref 28, .int 0, .int 0, .int 0, .int 0, .int 0, .int 0]), .inr (0, 40, []), .inr (1, 40, []), .inr (0, 4, []), .inl (8, [.ref 30, .ref 31, .int 0, .int 0, .int 0, .int 0]), .inr (1, 100, []), .inr (0, 3, [])] ++
  [.inl (6, [.ref 33, .ref 34, .ref 35, .ref 36, .ref 37, .int 0, .int 0, .int 0, .int 0]), .inr (0, 4, []), .inr (2, 4, []), .inr (0, 4, []), .inr (0, 4, []), .inr (0, 4, []), .inr (1, 16, []), .inl (5, [.int 1, .ref 40, .ref 46, .ref 50, .ref 53, .ref 59, .int 0, .long 0, .int 0, .int 0, .int 0, .int 0, .int 0, .int 0]), .inl (4, [.ref 41, .ref 42, .ref 43, .ref 44, .ref 45, .int 0, .int 0]), .inr (1, 13, []), .inr (1, 13, []), .inr (1, 128, []), .inr (1, 64, []), .inr (0, 16, []), .inl (0, [.ref 47, .ref 48, .ref 49, .int 0, .int 0, .int 0, .int 0, .int 0, .int 0]), .inr (0, 40, [])] ++
  [.inr (1, 40, []), .inr (0, 4, []), .inl (8, [.ref 51, .ref 52, .int 0, .int 0, .int 0, .int 0]), .inr (1, 100, []), .inr (0, 3, []), .inl (6, [.ref 54, .ref 55, .ref 56, .ref 57, .ref 58, .int 0, .int 0, .int 0, .int 0]), .inr (0, 4, []), .inr (2, 4, []), .inr (0, 4, []), .inr (0, 4, []), .inr (0, 4, []), .inr (1, 16, []), .inl (5, [.int 2, .ref 61, .ref 67, .ref 71, .ref 74, .ref 80, .int 0, .long 0, .int 0, .int 0, .int 0, .int 0, .int 0, .int 0]), .inl (4, [.ref 62, .ref 63, .ref 64, .ref 65, .ref 66, .int 0, .int 0]), .inr (1, 13, []), .inr (1, 13, [])] ++
  [.inr (1, 128, []), .inr (1, 64, []), .inr (0, 16, []), .inl (0, [.ref 68, .ref 69, .ref 70, .int 0, .int 0, .int 0, .int 0, .int 0, .int 0]), .inr (0, 40, []), .inr (1, 40, []), .inr (0, 4, []), .inl (8, [.ref 72, .ref 73, .int 0, .int 0, .int 0, .int 0]), .inr (1, 100, []), .inr (0, 3, []), .inl (6, [.ref 75, .ref 76, .ref 77, .ref 78, .ref 79, .int 0, .int 0, .int 0, .int 0]), .inr (0, 4, []), .inr (2, 4, []), .inr (0, 4, []), .inr (0, 4, []), .inr (0, 4, [])] ++
  [.inr (1, 16, []), .inl (5, [.int 3, .ref 82, .ref 88, .ref 92, .ref 95, .ref 101, .int 0, .long 0, .int 0, .int 0, .int 0, .int 0, .int 0, .int 0]), .inl (4, [.ref 83, .ref 84, .ref 85, .ref 86, .ref 87, .int 0, .int 0]), .inr (1, 13, []), .inr (1, 13, []), .inr (1, 128, []), .inr (1, 64, []), .inr (0, 16, []), .inl (0, [.ref 89, .ref 90, .ref 91, .int 0, .int 0, .int 0, .int 0, .int 0, .int 0]), .inr (0, 40, []), .inr (1, 40, []), .inr (0, 4, []), .inl (8, [.ref 93, .ref 94, .int 0, .int 0, .int 0, .int 0]), .inr (1, 100, []), .inr (0, 3, []), .inl (6, [.ref 96, .ref 97, .ref 98, .ref 99, .ref 100, .int 0, .int 0, .int 0, .int 0])] ++
  [.inr (0, 4, []), .inr (2, 4, []), .inr (0, 4, []), .inr (0, 4, []), .inr (0, 4, []), .inr (1, 16, []), .inr (0, 3, []), .inl (2, [.ref 104, .ref 105, .ref 106, .ref 107, .int 0]), .inr (0, 40, []), .inr (0, 40, []), .inr (0, 40, []), .inr (1, 40, []), .inl (1, [.ref 109, .ref 110]), .inr (0, 64, []), .inr (0, 8, []), .inr (1, 32, [])] ++
  [.inl (12, [.int 0, .ref 113, .int 0, .int 0, .int 0, .int 0, .ref 114, .int 0, .int 0, .ref 115, .int 0, .ref 116, .int 0, .int 0, .int 0, .int 0, .int 2, .int 1, .long 0, .ref 117, .ref 118, .long 0, .ref 119, .ref 120, .int 0, .ref 121, .int 0, .ref 122, .int 0, .ref 123, .int 0, .ref 124, .ref 125, .ref 126, .int 0, .int 0, .ref 127, .ref 128, .ref 129, .ref 130, .ref 131, .ref 132, .ref 133, .ref 134, .ref 135, .ref 136, .ref 137, .ref 138, .ref 139, .ref 140, .ref 141, .ref 142, .ref 143, .ref 144, .ref 145, .ref 146, .ref 147, .ref 148, .ref 149, .ref 150, .int 0, .ref 151, .ref 152, .ref 153, .ref 154, .ref 155, .int 0, .ref 156, .ref 157, .ref 158, .ref 159, .ref 160, .ref 161, .int 0, .ref 162, .int 0, .ref 163, .ref 164, .ref 165, .int 0, .ref 166, .ref 167, .int 0, .long 0, .int 0, .int 0, .int 0]), .inr (0, 400, []), .inr (0, 2400, []), .inr (0, 6000, []), .inr (0, 2000, []), .inr (1, 4, []), .inr (0, 4, []), .inr (0, 4, []), .inr (0, 4, []), .inr (0, 4, []), .inr (0, 4, []), .inr (0, 4, []), .inr (1, 400, []), .inr (0, 4, []), .inr (0, 4, []), .inr (0, 4, [])] ++
  [.inr (0, 4, []), .inr (0, 4, []), .inr (0, 4, []), .inr (0, 4, []), .inr (0, 4, []), .inr (0, 4, []), .inr (0, 4, []), .inr (0, 4, []), .inr (0, 4, []), .inr (0, 4, []), .inr (0, 4, []), .inr (2, 4, []), .inr (0, 64, []), .inr (0, 4, []), .inr (0, 4, []), .inr (1, 616, [])] ++
  [.inr (1, 260, []), .inr (0, 4, []), .inr (1, 4, []), .inr (1, 30001, []), .inr (0, 16, []), .inr (2, 16, []), .inr (0, 16, []), .inr (0, 30001, []), .inr (1, 30001, []), .inr (0, 120004, []), .inr (1, 16000, []), .inr (1, 16000, []), .inr (0, 40, []), .inr (0, 40, []), .inr (0, 40, []), .inr (1, 40, [])] ++
  [.inr (0, 64, []), .inr (0, 8, []), .inr (0, 10, []), .inr (0, 200, []), .inr (0, 200, []), .inr (0, 200, []), .inr (2, 2001, []), .inr (2, 70000, [])]
theorem c_law1 : cb_n 6 m_Law_law (0, [(0, .ref 1000000005)], []) ([], 0, 0) = some ((12, [(1, .ref 0), (0, .ref 1000000005)], [.ref 112, .ref 112]), (c_cs1, 113, 12902)) := by decide +kernel
theorem c_law2 : cb_n 232 m_Model_init (0, [(0, .ref 112)], []) (c_cs1, 113, 12902) = some ((448, [(0, .ref 112)], [.int 1, .long 0, .int 2, .ref 112]), (c_cs2, 168, 340044)) := by decide +kernel
def m_I0 : MI := fun a k => match c_cs2[a]? with
  | some (.inl (_, fs)) => (match fs[k]? with
    | some (.int z) => z
    | _ => 0)
  | _ => 0
def m_J0 : MJ := fun _ _ => 0
def m_X0 : MX := (fun w => 38 + 21 * w, fun _ => 0, 0, 168, 340044)
def m_X1 : MX := (fun w => 38 + 21 * w, va_up (fun _ => 0) 168 1, 1, 169, 340045)
theorem c_h2 : c_H (c_cs2, 168, 340044) = hX m_X0 m_I0 m_J0 := by
  have key : ∀ a, c_at (c_cs2[a]?) = hp (sS m_X0.1 (sQ m_X0.2.1)) m_I0 m_J0 a := by
    intro a
    match a with
    | 0 => rfl
    | 1 => rfl
    | 2 => rfl
    | 3 => rfl
    | 4 => rfl
    | 5 => rfl
    | 6 => rfl
    | 7 => rfl
    | 8 => rfl
    | 9 => rfl
    | 10 => rfl
    | 11 => rfl
    | 12 => rfl
    | 13 => rfl
    | 14 => rfl
    | 15 => rfl
    | 16 => rfl
    | 17 =>
      have e : (fun j => g_get none [some 18, some 39, some 60, some 81] j) = s_parties := by
        funext j
        match j with
        | 0 => rfl
        | 1 => rfl
        | 2 => rfl
        | 3 => rfl
        | j + 4 => rw [s_parties]; simp [va_up, g_get]
      show Sum.inl (3, 4, Sum.inr (Sum.inr (Sum.inr (Sum.inr (fun j => g_get none [some 18, some 39, some 60, some 81] j))))) = _
      rw [e]
      rfl
    | 18 => rfl
    | 19 => rfl
    | 20 => rfl
    | 21 => rfl
    | 22 => rfl
    | 23 => rfl
    | 24 => rfl
    | 25 => rfl
    | 26 => rfl
    | 27 => rfl
    | 28 => rfl
    | 29 => rfl
    | 30 => rfl
    | 31 => rfl
    | 32 => rfl
    | 33 => rfl
    | 34 => rfl
    | 35 => rfl
    | 36 => rfl
    | 37 => rfl
    | 38 => rfl
    | 39 => rfl
    | 40 => rfl
    | 41 => rfl
    | 42 => rfl
    | 43 => rfl
    | 44 => rfl
    | 45 => rfl
    | 46 => rfl
    | 47 => rfl
    | 48 => rfl
    | 49 => rfl
    | 50 => rfl
    | 51 => rfl
    | 52 => rfl
    | 53 => rfl
    | 54 => rfl
    | 55 => rfl
    | 56 => rfl
    | 57 => rfl
    | 58 => rfl
    | 59 => rfl
    | 60 => rfl
    | 61 => rfl
    | 62 => rfl
    | 63 => rfl
    | 64 => rfl
    | 65 => rfl
    | 66 => rfl
    | 67 => rfl
    | 68 => rfl
    | 69 => rfl
    | 70 => rfl
    | 71 => rfl
    | 72 => rfl
    | 73 => rfl
    | 74 => rfl
    | 75 => rfl
    | 76 => rfl
    | 77 => rfl
    | 78 => rfl
    | 79 => rfl
    | 80 => rfl
    | 81 => rfl
    | 82 => rfl
    | 83 => rfl
    | 84 => rfl
    | 85 => rfl
    | 86 => rfl
    | 87 => rfl
    | 88 => rfl
    | 89 => rfl
    | 90 => rfl
    | 91 => rfl
    | 92 => rfl
    | 93 => rfl
    | 94 => rfl
    | 95 => rfl
    | 96 => rfl
    | 97 => rfl
    | 98 => rfl
    | 99 => rfl
    | 100 => rfl
    | 101 => rfl
    | 102 => rfl
    | 103 => rfl
    | 104 => rfl
    | 105 => rfl
    | 106 => rfl
    | 107 => rfl
    | 108 => rfl
    | 109 => rfl
    | 110 => rfl
    | 111 => rfl
    | 112 => rfl
    | 113 => rfl
    | 114 => rfl
    | 115 => rfl
    | 116 => rfl
    | 117 => rfl
    | 118 => rfl
    | 119 => rfl
    | 120 => rfl
    | 121 => rfl
    | 122 => rfl
    | 123 => rfl
    | 124 => rfl
    | 125 => rfl
    | 126 => rfl
    | 127 => rfl
    | 128 => rfl
    | 129 => rfl
    | 130 => rfl
    | 131 => rfl
    | 132 => rfl
    | 133 => rfl
    | 134 => rfl
    | 135 => rfl
    | 136 => rfl
    | 137 => rfl
    | 138 => rfl
    | 139 => rfl
    | 140 => rfl
    | 141 => rfl
    | 142 => rfl
    | 143 => rfl
    | 144 => rfl
    | 145 => rfl
    | 146 => rfl
    | 147 => rfl
    | 148 => rfl
    | 149 => rfl
    | 150 => rfl
    | 151 => rfl
    | 152 => rfl
    | 153 => rfl
    | 154 => rfl
    | 155 => rfl
    | 156 => rfl
    | 157 => rfl
    | 158 => rfl
    | 159 => rfl
    | 160 => rfl
    | 161 => rfl
    | 162 => rfl
    | 163 => rfl
    | 164 => rfl
    | 165 => rfl
    | 166 => rfl
    | 167 => rfl
    | a + 168 =>
      have e1 : c_cs2[a + 168]? = none := List.getElem?_eq_none (by show 168 ≤ a + 168; omega)
      have e2 : Nat.blt (a + 168) 168 = false := by
        cases q : Nat.blt (a + 168) 168 with
        | false => rfl
        | true =>
          have q1 : a + 168 + 1 ≤ 168 := Nat.le_of_ble_eq_true q
          omega
      rw [e1, hp_l (m := 0) (f := fun _ => 0) (by unfold sS; rw [e2]; rfl)]
      rfl
  show (_, _, _, _) = (_, _, _, _)
  rw [show (fun a => c_at (c_cs2[a]?)) = hp (sS m_X0.1 (sQ m_X0.2.1)) m_I0 m_J0 from funext key]
  rfl
theorem law_run {L : Nat} {xs : Nat → Int32} {d : Nat} {v : Unit} {I1 : MI} {J1 : MJ} {X' : MX} {I' : MI} {J' : MJ} (h1 : f_Model_newHall 2 0 1 m_I0 m_J0 = some (v, I1, J1)) (h2 : f_Law_law_23 L xs gF 0 m_X1 I1 (va_up J1 168 (fun _ => 0)) = some (.inr (), X', I', J')) :
    am_E (gG L xs) (d + 800) m_Law_law (0, [(0, .ref 1000000005)], []) (c_H ([], 0, 0)) (fun r h => r = .inl (some (.int 1)) ∧ h = hX X' I' J') := by
  refine cb_n_ok c_law1 (by omega) ?_
  refine e_call (d := d + 799) (f := (12, [(1, .ref 0), (0, .ref 1000000005)], [.ref 112, .ref 112])) (As := [.ref 112]) (rest := [.ref 112]) (P' := fun r h => r = .inl none ∧ h = hX m_X0 I1 J1) m_Model_init rfl rfl rfl (c_can rfl rfl) rfl ?_ ?_
  · refine cb_n_ok (f := (0, [(0, .ref 112)], [])) c_law2 (by omega) ?_
    rw [c_h2]
    refine r_cv (d := d + 798) (z := m_Model_newHall) (As := [.int 2, .long 0, .int 1]) (rest := []) rfl rfl rfl rfl rfl (x_ltn rfl) rfl rfl (E_Model_newHall (d := d + 795) h1 ⟨_, rfl, ?_⟩)
    exact e_r rfl rfl ⟨rfl, rfl⟩
  · rintro r h ⟨rfl, rfl⟩
    refine ⟨none, rfl, ?_⟩
    show am_E (gG L xs) (d + 800) m_Law_law (15, [(1, .ref 0), (0, .ref 1000000005)], [.ref 112]) (hX m_X0 I1 J1) _
    refine e_k 2 (f' := (17, [(2, .ref 112), (1, .ref 0), (0, .ref 1000000005)], [.int 1])) rfl ?_
    refine e_1q (q := (27, 1, 2, .null, [])) (f' := (19, [(2, .ref 112), (1, .ref 0), (0, .ref 1000000005)], [.ref 168])) (h' := hX m_X1 I1 (va_up J1 168 (fun _ => 0))) rfl rfl ?_ ?_
    · show x_newa 1 2 17 [(2, .ref 112), (1, .ref 0), (0, .ref 1000000005)] [.int 1] (hX m_X0 I1 J1) = _
      show some ((19, [(2, Value.ref 112), (1, Value.ref 0), (0, Value.ref 1000000005)], [Value.ref 168]), (va_up (hp (sS m_X0.1 (sQ m_X0.2.1)) I1 J1) 168 (am_arr 1 1), 169, 169, 340045)) = _
      rw [hp_new (by decide)]
      rfl
    refine e_k 3 (f' := (23, [(4, .int 0), (3, .ref 168), (2, .ref 112), (1, .ref 0), (0, .ref 1000000005)], [])) rfl ?_
    refine e_sub (ls := [(0, .ref 1000000005), (1, .ref 0), (2, .ref 112), (3, .ref 168), (4, .int 0)]) rfl ⟨rfl, rfl, rfl, rfl, rfl, trivial⟩ ?_
    refine E_Law_law_23 (d := d + 593) gF h2 (fun v e => by cases e) (fun u e => ?_)
    refine e_k 1 (f' := (1164, [], [.int 1])) rfl ?_
    exact e_r rfl (if_pos (Or.inr rfl)) ⟨rfl, rfl⟩
