/-! the shape of the memory behind the constructors: o: where the parties' outputs lie; q: what lies behind the first 168 cells -/
def s_parties : Nat → Option Nat := va_up (va_up (va_up (va_up (fun _ => none) 0 (some 18)) 1 (some 39)) 2 (some 60)) 3 (some 81)
theorem s_parties_at {w : Nat} (h : w < 4) : s_parties w = some (18 + 21 * w) := by
  match w, h with
  | 0, _ => rfl
  | 1, _ => rfl
  | 2, _ => rfl
  | 3, _ => rfl
  | n + 4, h => exact absurd h (by omega)
def s_list (o : Nat → Nat) : List (List va_E) := [[.inr (11, [.ref 1, .ref 3, .ref 10, .ref 14, .int 0, .int 0, .int 0, .int 0]), .inr (7, [.ref 2, .int 0]), .inl (0, 2000, .inl (fun _ => 0)), .inr (9, [.ref 4, .ref 6, .ref 8, .ref 9, .int 0, .int 0, .int 0, .int 0, .int 0, .int 0, .int 0]), .inr (7, [.ref 5, .int 0]), .inl (0, 400, .inl (fun _ => 0)), .inr (7, [.ref 7, .int 0]), .inl (0, 2000, .inl (fun _ => 0)), .inl (0, 10, .inl (fun _ => 0)), .inl (0, 10, .inl (fun _ => 0)), .inr (10, [.ref 11, .ref 12, .ref 13, .int 0, .int 0, .int 0, .int 0]), .inl (2, 2000, .inl (fun _ => 0)), .inl (2, 2000, .inl (fun _ => 0)), .inl (2, 64, .inl (fun _ => 0)), .inr (3, [.ref 15, .ref 17, .ref 102, .ref 103, .ref 108, .ref 111, .int 0, .long 0, .int 0, .int 0, .int 0]), .inr (7, [.ref 16, .int 0])],
  [.inl (0, 2000, .inl (fun _ => 0)), .inl (3, 4, .inr (.inr (.inr (.inr s_parties)))), .inr (5, [.int 0, .ref 19, .ref 25, .ref 29, .ref 32, .ref (o 0), .int 0, .long 0, .int 0, .int 0, .int 0, .int 0, .int 0, .int 0]), .inr (4, [.ref 20, .ref 21, .ref 22, .ref 23, .ref 24, .int 0, .int 0]), .inl (1, 13, .inr (.inl (fun _ => 0))), .inl (1, 13, .inr (.inl (fun _ => 0))), .inl (1, 128, .inr (.inl (fun _ => 0))), .inl (1, 64, .inr (.inl (fun _ => 0))), .inl (0, 16, .inl (fun _ => 0)), .inr (0, [.ref 26, .ref 27, .ref 28, .int 0, .int 0, .int 0, .int 0, .int 0, .int 0]), .inl (0, 40, .inl (fun _ => 0)), .inl (1, 40, .inr (.inl (fun _ => 0))), .inl (0, 4, .inl (fun _ => 0)), .inr (8, [.ref 30, .ref 31, .int 0, .int 0, .int 0, .int 0]), .inl (1, 100, .inr (.inl (fun _ => 0))), .inl (0, 3, .inl (fun _ => 0))],
  [.inr (6, [.ref 33, .ref 34, .ref 35, .ref 36, .ref 37, .int 0, .int 0, .int 0, .int 0]), .inl (0, 4, .inl (fun _ => 0)), .inl (2, 4, .inl (fun _ => 0)), .inl (0, 4, .inl (fun _ => 0)), .inl (0, 4, .inl (fun _ => 0)), .inl (0, 4, .inl (fun _ => 0)), .inl (1, 16, .inr (.inl (fun _ => 0))), .inr (5, [.int 0, .ref 40, .ref 46, .ref 50, .ref 53, .ref (o 1), .int 0, .long 0, .int 0, .int 0, .int 0, .int 0, .int 0, .int 0]), .inr (4, [.ref 41, .ref 42, .ref 43, .ref 44, .ref 45, .int 0, .int 0]), .inl (1, 13, .inr (.inl (fun _ => 0))), .inl (1, 13, .inr (.inl (fun _ => 0))), .inl (1, 128, .inr (.inl (fun _ => 0))), .inl (1, 64, .inr (.inl (fun _ => 0))), .inl (0, 16, .inl (fun _ => 0)), .inr (0, [.ref 47, .ref 48, .ref 49, .int 0, .int 0, .int 0, .int 0, .int 0, .int 0]), .inl (0, 40, .inl (fun _ => 0))],
  [.inl (1, 40, .inr (.inl (fun _ => 0))), .inl (0, 4, .inl (fun _ => 0)), .inr (8, [.ref 51, .ref 52, .int 0, .int 0, .int 0, .int 0]), .inl (1, 100, .inr (.inl (fun _ => 0))), .inl (0, 3, .inl (fun _ => 0)), .inr (6, [.ref 54, .ref 55, .ref 56, .ref 57, .ref 58, .int 0, .int 0, .int 0, .int 0]), .inl (0, 4, .inl (fun _ => 0)), .inl (2, 4, .inl (fun _ => 0)), .inl (0, 4, .inl (fun _ => 0)), .inl (0, 4, .inl (fun _ => 0)), .inl (0, 4, .inl (fun _ => 0)), .inl (1, 16, .inr (.inl (fun _ => 0))), .inr (5, [.int 0, .ref 61, .ref 67, .ref 71, .ref 74, .ref (o 2), .int 0, .long 0, .int 0, .int 0, .int 0, .int 0, .int 0, .int 0]), .inr (4, [.ref 62, .ref 63, .ref 64, .ref 65, .ref 66, .int 0, .int 0]), .inl (1, 13, .inr (.inl (fun _ => 0))), .inl (1, 13, .inr (.inl (fun _ => 0)))],
  [.inl (1, 128, .inr (.inl (fun _ => 0))), .inl (1, 64, .inr (.inl (fun _ => 0))), .inl (0, 16, .inl (fun _ => 0)), .inr (0, [.ref 68, .ref 69, .ref 70, .int 0, .int 0, .int 0, .int 0, .int 0, .int 0]), .inl (0, 40, .inl (fun _ => 0)), .inl (1, 40, .inr (.inl (fun _ => 0))), .inl (0, 4, .inl (fun _ => 0)), .inr (8, [.ref 72, .ref 73, .int 0, .int 0, .int 0, .int 0]), .inl (1, 100, .inr (.inl (fun _ => 0))), .inl (0, 3, .inl (fun _ => 0)), .inr (6, [.ref 75, .ref 76, .ref 77, .ref 78, .ref 79, .int 0, .int 0, .int 0, .int 0]), .inl (0, 4, .inl (fun _ => 0)), .inl (2, 4, .inl (fun _ => 0)), .inl (0, 4, .inl (fun _ => 0)), .inl (0, 4, .inl (fun _ => 0)), .inl (0, 4, .inl (fun _ => 0))],
  [.inl (1, 16, .inr (.inl (fun _ => 0))), .inr (5, [.int 0, .ref 82, .ref 88, .ref 92, .ref 95, .ref (o 3), .int 0, .long 0, .int 0, .int 0, .int 0, .int 0, .int 0, .int 0]), .inr (4, [.ref 83, .ref 84, .ref 85, .ref 86, .ref 87, .int 0, .int 0]), .inl (1, 13, .inr (.inl (fun _ => 0))), .inl (1, 13, .inr (.inl (fun _ => 0))), .inl (1, 128, .inr (.inl (fun _ => 0))), .inl (1, 64, .inr (.inl (fun _ => 0))), .inl (0, 16, .inl (fun _ => 0)), .inr (0, [.ref 89, .ref 90, .ref 91, .int 0, .int 0, .int 0, .int 0, .int 0, .int 0]), .inl (0, 40, .inl (fun _ => 0)), .inl (1, 40, .inr (.inl (fun _ => 0))), .inl (0, 4, .inl (fun _ => 0)), .inr (8, [.ref 93, .ref 94, .int 0, .int 0, .int 0, .int 0]), .inl (1, 100, .inr (.inl (fun _ => 0))), .inl (0, 3, .inl (fun _ => 0)), .inr (6, [.ref 96, .ref 97, .ref 98, .ref 99, .ref 100, .int 0, .int 0, .int 0, .int 0])],
  [.inl (0, 4, .inl (fun _ => 0)), .inl (2, 4, .inl (fun _ => 0)), .inl (0, 4, .inl (fun _ => 0)), .inl (0, 4, .inl (fun _ => 0)), .inl (0, 4, .inl (fun _ => 0)), .inl (1, 16, .inr (.inl (fun _ => 0))), .inl (0, 3, .inl (fun _ => 0)), .inr (2, [.ref 104, .ref 105, .ref 106, .ref 107, .int 0]), .inl (0, 40, .inl (fun _ => 0)), .inl (0, 40, .inl (fun _ => 0)), .inl (0, 40, .inl (fun _ => 0)), .inl (1, 40, .inr (.inl (fun _ => 0))), .inr (1, [.ref 109, .ref 110]), .inl (0, 64, .inl (fun _ => 0)), .inl (0, 8, .inl (fun _ => 0)), .inl (1, 32, .inr (.inl (fun _ => 0)))],
  [.inr (12, [.int 0, .ref 113, .int 0, .int 0, .int 0, .int 0, .ref 114, .int 0, .int 0, .ref 115, .int 0, .ref 116, .int 0, .int 0, .int 0, .int 0, .int 0, .int 0, .long 0, .ref 117, .ref 118, .long 0, .ref 119, .ref 120, .int 0, .ref 121, .int 0, .ref 122, .int 0, .ref 123, .int 0, .ref 124, .ref 125, .ref 126, .int 0, .int 0, .ref 127, .ref 128, .ref 129, .ref 130, .ref 131, .ref 132, .ref 133, .ref 134, .ref 135, .ref 136, .ref 137, .ref 138, .ref 139, .ref 140, .ref 141, .ref 142, .ref 143, .ref 144, .ref 145, .ref 146, .ref 147, .ref 148, .ref 149, .ref 150, .int 0, .ref 151, .ref 152, .ref 153, .ref 154, .ref 155, .int 0, .ref 156, .ref 157, .ref 158, .ref 159, .ref 160, .ref 161, .int 0, .ref 162, .int 0, .ref 163, .ref 164, .ref 165, .int 0, .ref 166, .ref 167, .int 0, .long 0, .int 0, .int 0, .int 0]), .inl (0, 400, .inl (fun _ => 0)), .inl (0, 2400, .inl (fun _ => 0)), .inl (0, 6000, .inl (fun _ => 0)), .inl (0, 2000, .inl (fun _ => 0)), .inl (1, 4, .inr (.inl (fun _ => 0))), .inl (0, 4, .inl (fun _ => 0)), .inl (0, 4, .inl (fun _ => 0)), .inl (0, 4, .inl (fun _ => 0)), .inl (0, 4, .inl (fun _ => 0)), .inl (0, 4, .inl (fun _ => 0)), .inl (0, 4, .inl (fun _ => 0)), .inl (1, 400, .inr (.inl (fun _ => 0))), .inl (0, 4, .inl (fun _ => 0)), .inl (0, 4, .inl (fun _ => 0)), .inl (0, 4, .inl (fun _ => 0))],
  [.inl (0, 4, .inl (fun _ => 0)), .inl (0, 4, .inl (fun _ => 0)), .inl (0, 4, .inl (fun _ => 0)), .inl (0, 4, .inl (fun _ => 0)), .inl (0, 4, .inl (fun _ => 0)), .inl (0, 4, .inl (fun _ => 0)), .inl (0, 4, .inl (fun _ => 0)), .inl (0, 4, .inl (fun _ => 0)), .inl (0, 4, .inl (fun _ => 0)), .inl (0, 4, .inl (fun _ => 0)), .inl (0, 4, .inl (fun _ => 0)), .inl (2, 4, .inl (fun _ => 0)), .inl (0, 64, .inl (fun _ => 0)), .inl (0, 4, .inl (fun _ => 0)), .inl (0, 4, .inl (fun _ => 0)), .inl (1, 616, .inr (.inl (fun _ => 0)))],
  [.inl (1, 260, .inr (.inl (fun _ => 0))), .inl (0, 4, .inl (fun _ => 0)), .inl (1, 4, .inr (.inl (fun _ => 0))), .inl (1, 30001, .inr (.inl (fun _ => 0))), .inl (0, 16, .inl (fun _ => 0)), .inl (2, 16, .inl (fun _ => 0)), .inl (0, 16, .inl (fun _ => 0)), .inl (0, 30001, .inl (fun _ => 0)), .inl (1, 30001, .inr (.inl (fun _ => 0))), .inl (0, 120004, .inl (fun _ => 0)), .inl (1, 16000, .inr (.inl (fun _ => 0))), .inl (1, 16000, .inr (.inl (fun _ => 0))), .inl (0, 40, .inl (fun _ => 0)), .inl (0, 40, .inl (fun _ => 0)), .inl (0, 40, .inl (fun _ => 0)), .inl (1, 40, .inr (.inl (fun _ => 0)))],
  [.inl (0, 64, .inl (fun _ => 0)), .inl (0, 8, .inl (fun _ => 0)), .inl (0, 10, .inl (fun _ => 0)), .inl (0, 200, .inl (fun _ => 0)), .inl (0, 200, .inl (fun _ => 0)), .inl (0, 200, .inl (fun _ => 0)), .inl (2, 2001, .inl (fun _ => 0)), .inl (2, 70000, .inl (fun _ => 0))]]
def sS (o : Nat → Nat) (q : Nat → va_E) (a : Nat) : va_E := bif Nat.blt a 168 then g_get (.inr (99, [])) (g_get [] (s_list o) (a / 16)) (a % 16) else q a
theorem sS_p0 {o : Nat → Nat} {q : Nat → va_E} {w : Nat} (h : w < 4) : sS o q (18 + 21 * w) = .inr (5, [.int 0, .ref (19 + 21 * w), .ref (25 + 21 * w), .ref (29 + 21 * w), .ref (32 + 21 * w), .ref (o w), .int 0, .long 0, .int 0, .int 0, .int 0, .int 0, .int 0, .int 0]) := by
  match w, h with
  | 0, _ => rfl
  | 1, _ => rfl
  | 2, _ => rfl
  | 3, _ => rfl
  | n + 4, h => exact absurd h (by omega)
theorem sS_p1 {o : Nat → Nat} {q : Nat → va_E} {w : Nat} (h : w < 4) : sS o q (19 + 21 * w) = .inr (4, [.ref (20 + 21 * w), .ref (21 + 21 * w), .ref (22 + 21 * w), .ref (23 + 21 * w), .ref (24 + 21 * w), .int 0, .int 0]) := by
  match w, h with
  | 0, _ => rfl
  | 1, _ => rfl
  | 2, _ => rfl
  | 3, _ => rfl
  | n + 4, h => exact absurd h (by omega)
theorem sS_p2 {o : Nat → Nat} {q : Nat → va_E} {w : Nat} (h : w < 4) : sS o q (20 + 21 * w) = .inl (1, 13, .inr (.inl (fun _ => 0))) := by
  match w, h with
  | 0, _ => rfl
  | 1, _ => rfl
  | 2, _ => rfl
  | 3, _ => rfl
  | n + 4, h => exact absurd h (by omega)
theorem sS_p3 {o : Nat → Nat} {q : Nat → va_E} {w : Nat} (h : w < 4) : sS o q (21 + 21 * w) = .inl (1, 13, .inr (.inl (fun _ => 0))) := by
  match w, h with
  | 0, _ => rfl
  | 1, _ => rfl
  | 2, _ => rfl
  | 3, _ => rfl
  | n + 4, h => exact absurd h (by omega)
theorem sS_p4 {o : Nat → Nat} {q : Nat → va_E} {w : Nat} (h : w < 4) : sS o q (22 + 21 * w) = .inl (1, 128, .inr (.inl (fun _ => 0))) := by
  match w, h with
  | 0, _ => rfl
  | 1, _ => rfl
  | 2, _ => rfl
  | 3, _ => rfl
  | n + 4, h => exact absurd h (by omega)
theorem sS_p5 {o : Nat → Nat} {q : Nat → va_E} {w : Nat} (h : w < 4) : sS o q (23 + 21 * w) = .inl (1, 64, .inr (.inl (fun _ => 0))) := by
  match w, h with
  | 0, _ => rfl
  | 1, _ => rfl
  | 2, _ => rfl
  | 3, _ => rfl
  | n + 4, h => exact absurd h (by omega)
theorem sS_p6 {o : Nat → Nat} {q : Nat → va_E} {w : Nat} (h : w < 4) : sS o q (24 + 21 * w) = .inl (0, 16, .inl (fun _ => 0)) := by
  match w, h with
  | 0, _ => rfl
  | 1, _ => rfl
  | 2, _ => rfl
  | 3, _ => rfl
  | n + 4, h => exact absurd h (by omega)
theorem sS_p7 {o : Nat → Nat} {q : Nat → va_E} {w : Nat} (h : w < 4) : sS o q (25 + 21 * w) = .inr (0, [.ref (26 + 21 * w), .ref (27 + 21 * w), .ref (28 + 21 * w), .int 0, .int 0, .int 0, .int 0, .int 0, .int 0]) := by
  match w, h with
  | 0, _ => rfl
  | 1, _ => rfl
  | 2, _ => rfl
  | 3, _ => rfl
  | n + 4, h => exact absurd h (by omega)
theorem sS_p8 {o : Nat → Nat} {q : Nat → va_E} {w : Nat} (h : w < 4) : sS o q (26 + 21 * w) = .inl (0, 40, .inl (fun _ => 0)) := by
  match w, h with
  | 0, _ => rfl
  | 1, _ => rfl
  | 2, _ => rfl
  | 3, _ => rfl
  | n + 4, h => exact absurd h (by omega)
theorem sS_p9 {o : Nat → Nat} {q : Nat → va_E} {w : Nat} (h : w < 4) : sS o q (27 + 21 * w) = .inl (1, 40, .inr (.inl (fun _ => 0))) := by
  match w, h with
  | 0, _ => rfl
  | 1, _ => rfl
  | 2, _ => rfl
  | 3, _ => rfl
  | n + 4, h => exact absurd h (by omega)
theorem sS_p10 {o : Nat → Nat} {q : Nat → va_E} {w : Nat} (h : w < 4) : sS o q (28 + 21 * w) = .inl (0, 4, .inl (fun _ => 0)) := by
  match w, h with
  | 0, _ => rfl
  | 1, _ => rfl
  | 2, _ => rfl
  | 3, _ => rfl
  | n + 4, h => exact absurd h (by omega)
theorem sS_p11 {o : Nat → Nat} {q : Nat → va_E} {w : Nat} (h : w < 4) : sS o q (29 + 21 * w) = .inr (8, [.ref (30 + 21 * w), .ref (31 + 21 * w), .int 0, .int 0, .int 0, .int 0]) := by
  match w, h with
  | 0, _ => rfl
  | 1, _ => rfl
  | 2, _ => rfl
  | 3, _ => rfl
  | n + 4, h => exact absurd h (by omega)
theorem sS_p12 {o : Nat → Nat} {q : Nat → va_E} {w : Nat} (h : w < 4) : sS o q (30 + 21 * w) = .inl (1, 100, .inr (.inl (fun _ => 0))) := by
  match w, h with
  | 0, _ => rfl
  | 1, _ => rfl
  | 2, _ => rfl
  | 3, _ => rfl
  | n + 4, h => exact absurd h (by omega)
theorem sS_p13 {o : Nat → Nat} {q : Nat → va_E} {w : Nat} (h : w < 4) : sS o q (31 + 21 * w) = .inl (0, 3, .inl (fun _ => 0)) := by
  match w, h with
  | 0, _ => rfl
  | 1, _ => rfl
  | 2, _ => rfl
  | 3, _ => rfl
  | n + 4, h => exact absurd h (by omega)
theorem sS_p14 {o : Nat → Nat} {q : Nat → va_E} {w : Nat} (h : w < 4) : sS o q (32 + 21 * w) = .inr (6, [.ref (33 + 21 * w), .ref (34 + 21 * w), .ref (35 + 21 * w), .ref (36 + 21 * w), .ref (37 + 21 * w), .int 0, .int 0, .int 0, .int 0]) := by
  match w, h with
  | 0, _ => rfl
  | 1, _ => rfl
  | 2, _ => rfl
  | 3, _ => rfl
  | n + 4, h => exact absurd h (by omega)
theorem sS_p15 {o : Nat → Nat} {q : Nat → va_E} {w : Nat} (h : w < 4) : sS o q (33 + 21 * w) = .inl (0, 4, .inl (fun _ => 0)) := by
  match w, h with
  | 0, _ => rfl
  | 1, _ => rfl
  | 2, _ => rfl
  | 3, _ => rfl
  | n + 4, h => exact absurd h (by omega)
theorem sS_p16 {o : Nat → Nat} {q : Nat → va_E} {w : Nat} (h : w < 4) : sS o q (34 + 21 * w) = .inl (2, 4, .inl (fun _ => 0)) := by
  match w, h with
  | 0, _ => rfl
  | 1, _ => rfl
  | 2, _ => rfl
  | 3, _ => rfl
  | n + 4, h => exact absurd h (by omega)
theorem sS_p17 {o : Nat → Nat} {q : Nat → va_E} {w : Nat} (h : w < 4) : sS o q (35 + 21 * w) = .inl (0, 4, .inl (fun _ => 0)) := by
  match w, h with
  | 0, _ => rfl
  | 1, _ => rfl
  | 2, _ => rfl
  | 3, _ => rfl
  | n + 4, h => exact absurd h (by omega)
theorem sS_p18 {o : Nat → Nat} {q : Nat → va_E} {w : Nat} (h : w < 4) : sS o q (36 + 21 * w) = .inl (0, 4, .inl (fun _ => 0)) := by
  match w, h with
  | 0, _ => rfl
  | 1, _ => rfl
  | 2, _ => rfl
  | 3, _ => rfl
  | n + 4, h => exact absurd h (by omega)
theorem sS_p19 {o : Nat → Nat} {q : Nat → va_E} {w : Nat} (h : w < 4) : sS o q (37 + 21 * w) = .inl (0, 4, .inl (fun _ => 0)) := by
  match w, h with
  | 0, _ => rfl
  | 1, _ => rfl
  | 2, _ => rfl
  | 3, _ => rfl
  | n + 4, h => exact absurd h (by omega)
theorem sS_p20 {o : Nat → Nat} {q : Nat → va_E} {w : Nat} (h : w < 4) : sS o q (38 + 21 * w) = .inl (1, 16, .inr (.inl (fun _ => 0))) := by
  match w, h with
  | 0, _ => rfl
  | 1, _ => rfl
  | 2, _ => rfl
  | 3, _ => rfl
  | n + 4, h => exact absurd h (by omega)
theorem sS_out {o : Nat → Nat} {q : Nat → va_E} {w b a : Nat} (hw : w < 4) (ha : a ≠ 18 + 21 * w) : sS (va_up o w b) q a = sS o q a := by
  have key : ∀ c r, r < 16 → 16 * c + r ≠ 18 + 21 * w → g_get (.inr (99, [])) (g_get [] (s_list (va_up o w b)) c) r = g_get (.inr (99, [])) (g_get [] (s_list o) c) r := by
    intro c r hr hne
    match w, hw, hne with
    | 0, _, hne =>
      match c, hne with
      | 0, _ => rfl
      | 1, hne =>
        match r, hr, hne with
        | 0, _, hne => exact rfl
        | 1, _, hne => exact rfl
        | 2, _, hne => exact absurd rfl hne
        | 3, _, hne => exact rfl
        | 4, _, hne => exact rfl
        | 5, _, hne => exact rfl
        | 6, _, hne => exact rfl
        | 7, _, hne => exact rfl
        | 8, _, hne => exact rfl
        | 9, _, hne => exact rfl
        | 10, _, hne => exact rfl
        | 11, _, hne => exact rfl
        | 12, _, hne => exact rfl
        | 13, _, hne => exact rfl
        | 14, _, hne => exact rfl
        | 15, _, hne => exact rfl
        | n + 16, hr, _ => exact absurd hr (by omega)
      | 2, _ => rfl
      | 3, _ => rfl
      | 4, _ => rfl
      | 5, _ => rfl
      | 6, _ => rfl
      | 7, _ => rfl
      | 8, _ => rfl
      | 9, _ => rfl
      | 10, _ => rfl
      | n + 11, _ => rfl
    | 1, _, hne =>
      match c, hne with
      | 0, _ => rfl
      | 1, _ => rfl
      | 2, hne =>
        match r, hr, hne with
        | 0, _, hne => exact rfl
        | 1, _, hne => exact rfl
        | 2, _, hne => exact rfl
        | 3, _, hne => exact rfl
        | 4, _, hne => exact rfl
        | 5, _, hne => exact rfl
        | 6, _, hne => exact rfl
        | 7, _, hne => exact absurd rfl hne
        | 8, _, hne => exact rfl
        | 9, _, hne => exact rfl
        | 10, _, hne => exact rfl
        | 11, _, hne => exact rfl
        | 12, _, hne => exact rfl
        | 13, _, hne => exact rfl
        | 14, _, hne => exact rfl
        | 15, _, hne => exact rfl
        | n + 16, hr, _ => exact absurd hr (by omega)
      | 3, _ => rfl
      | 4, _ => rfl
      | 5, _ => rfl
      | 6, _ => rfl
      | 7, _ => rfl
      | 8, _ => rfl
      | 9, _ => rfl
      | 10, _ => rfl
      | n + 11, _ => rfl
    | 2, _, hne =>
      match c, hne with
      | 0, _ => rfl
      | 1, _ => rfl
      | 2, _ => rfl
      | 3, hne =>
        match r, hr, hne with
        | 0, _, hne => exact rfl
        | 1, _, hne => exact rfl
        | 2, _, hne => exact rfl
        | 3, _, hne => exact rfl
        | 4, _, hne => exact rfl
        | 5, _, hne => exact rfl
        | 6, _, hne => exact rfl
        | 7, _, hne => exact rfl
        | 8, _, hne => exact rfl
        | 9, _, hne => exact rfl
        | 10, _, hne => exact rfl
        | 11, _, hne => exact rfl
        | 12, _, hne => exact absurd rfl hne
        | 13, _, hne => exact rfl
        | 14, _, hne => exact rfl
        | 15, _, hne => exact rfl
        | n + 16, hr, _ => exact absurd hr (by omega)
      | 4, _ => rfl
      | 5, _ => rfl
      | 6, _ => rfl
      | 7, _ => rfl
      | 8, _ => rfl
      | 9, _ => rfl
      | 10, _ => rfl
      | n + 11, _ => rfl
    | 3, _, hne =>
      match c, hne with
      | 0, _ => rfl
      | 1, _ => rfl
      | 2, _ => rfl
      | 3, _ => rfl
      | 4, _ => rfl
      | 5, hne =>
        match r, hr, hne with
        | 0, _, hne => exact rfl
        | 1, _, hne => exact absurd rfl hne
        | 2, _, hne => exact rfl
        | 3, _, hne => exact rfl
        | 4, _, hne => exact rfl
        | 5, _, hne => exact rfl
        | 6, _, hne => exact rfl
        | 7, _, hne => exact rfl
        | 8, _, hne => exact rfl
        | 9, _, hne => exact rfl
        | 10, _, hne => exact rfl
        | 11, _, hne => exact rfl
        | 12, _, hne => exact rfl
        | 13, _, hne => exact rfl
        | 14, _, hne => exact rfl
        | 15, _, hne => exact rfl
        | n + 16, hr, _ => exact absurd hr (by omega)
      | 6, _ => rfl
      | 7, _ => rfl
      | 8, _ => rfl
      | 9, _ => rfl
      | 10, _ => rfl
      | n + 11, _ => rfl
    | n + 4, hw, _ => exact absurd hw (by omega)
  unfold sS
  rw [key (a / 16) (a % 16) (Nat.mod_lt _ (by decide)) (by omega)]
