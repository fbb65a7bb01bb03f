theorem c_h2 : c_H (c_cs2, 168, 340044) = hX m_X0 m_I0 m_J0 := by
  have key : ∀ a, c_at (c_cs2[a]?) = hp (sS m_X0.1 (sQ m_X0.2.1)) m_I0 m_J0 a := by
    intro a
    match a with
    | 0 => rfl
    | 1 => rfl
    | 2 => rfl
    | 3 => rfl
    | 4 => rfl
    | 5 => rfl
    | 6 => rfl
    | 7 => rfl
    | 8 => rfl
    | 9 => rfl
    | 10 => rfl
    | 11 => rfl
    | 12 => rfl
    | 13 => rfl
    | 14 => rfl
    | 15 => rfl
    | 16 => rfl
    | 17 =>
      have e : (fun j => g_get none [some 18, some 39, some 60, some 81] j) = s_parties := by
        funext j
        match j with
        | 0 => rfl
        | 1 => rfl
        | 2 => rfl
        | 3 => rfl
        | j + 4 => rw [s_parties]; simp [va_up, g_get]
      show Sum.inl (3, 4, Sum.inr (Sum.inr (Sum.inr (Sum.inr (fun j => g_get none [some 18, some 39, some 60, some 81] j))))) = _
      rw [e]
      rfl
    | 18 => rfl
    | 19 => rfl
    | 20 => rfl
    | 21 => rfl
    | 22 => rfl
    | 23 => rfl
    | 24 => rfl
    | 25 => rfl
    | 26 => rfl
    | 27 => rfl
    | 28 => rfl
    | 29 => rfl
    | 30 => rfl
    | 31 => rfl
    | 32 => rfl
    | 33 => rfl
    | 34 => rfl
    | 35 => rfl
    | 36 => rfl
    | 37 => rfl
    | 38 => rfl
    | 39 => rfl
    | 40 => rfl
    | 41 => rfl
    | 42 => rfl
    | 43 => rfl
    | 44 => rfl
    | 45 => rfl
    | 46 => rfl
    | 47 => rfl
    | 48 => rfl
    | 49 => rfl
    | 50 => rfl
    | 51 => rfl
    | 52 => rfl
    | 53 => rfl
    | 54 => rfl
    | 55 => rfl
    | 56 => rfl
    | 57 => rfl
    | 58 => rfl
    | 59 => rfl
    | 60 => rfl
    | 61 => rfl
    | 62 => rfl
    | 63 => rfl
    | 64 => rfl
    | 65 => rfl
    | 66 => rfl
    | 67 => rfl
    | 68 => rfl
    | 69 => rfl
    | 70 => rfl
    | 71 => rfl
    | 72 => rfl
    | 73 => rfl
    | 74 => rfl
    | 75 => rfl
    | 76 => rfl
    | 77 => rfl
    | 78 => rfl
    | 79 => rfl
    | 80 => rfl
    | 81 => rfl
    | 82 => rfl
    | 83 => rfl
    | 84 => rfl
    | 85 => rfl
    | 86 => rfl
    | 87 => rfl
    | 88 => rfl
    | 89 => rfl
    | 90 => rfl
    | 91 => rfl
    | 92 => rfl
    | 93 => rfl
    | 94 => rfl
    | 95 => rfl
    | 96 => rfl
    | 97 => rfl
    | 98 => rfl
    | 99 => rfl
    | 100 => rfl
    | 101 => rfl
    | 102 => rfl
    | 103 => rfl
    | 104 => rfl
    | 105 => rfl
    | 106 => rfl
    | 107 => rfl
    | 108 => rfl
    | 109 => rfl
    | 110 => rfl
    | 111 => rfl
    | 112 => rfl
    | 113 => rfl
    | 114 => rfl
    | 115 => rfl
    | 116 => rfl
    | 117 => rfl
    | 118 => rfl
    | 119 => rfl
    | 120 => rfl
    | 121 => rfl
    | 122 => rfl
    | 123 => rfl
    | 124 => rfl
    | 125 => rfl
    | 126 => rfl
    | 127 => rfl
    | 128 => rfl
    | 129 => rfl
    | 130 => rfl
    | 131 => rfl
    | 132 => rfl
    | 133 => rfl
    | 134 => rfl
    | 135 => rfl
    | 136 => rfl
    | 137 => rfl
    | 138 => rfl
    | 139 => rfl
    | 140 => rfl
    | 141 => rfl
    | 142 => rfl
    | 143 => rfl
    | 144 => rfl
    | 145 => rfl
    | 146 => rfl
    | 147 => rfl
    | 148 => rfl
    | 149 => rfl
    | 150 => rfl
    | 151 => rfl
    | 152 => rfl
    | 153 => rfl
    | 154 => rfl
    | 155 => rfl
    | 156 => rfl
    | 157 => rfl
    | 158 => rfl
    | 159 => rfl
    | 160 => rfl
    | 161 => rfl
    | 162 => rfl
    | 163 => rfl
    | 164 => rfl
    | 165 => rfl
    | 166 => rfl
    | 167 => rfl
    | a + 168 =>
      have e1 : c_cs2[a + 168]? = none := List.getElem?_eq_none (by rw [c_len]; omega)
      have e2 : Nat.blt (a + 168) 168 = false := by
        cases q : Nat.blt (a + 168) 168 with
        | false => rfl
        | true =>
          have q1 : a + 168 + 1 ≤ 168 := Nat.le_of_ble_eq_true q
          omega
      rw [e1, hp_l (m := 0) (f := fun _ => 0) (by unfold sS; rw [e2]; rfl)]
      rfl
  unfold c_H
  show ((fun a => c_at (c_cs2[a]?)), c_cs2.length, 168, 340044) = (hp (sS m_X0.1 (sQ m_X0.2.1)) m_I0 m_J0, 168, 168, 340044)
  rw [show (fun a => c_at (c_cs2[a]?)) = hp (sS m_X0.1 (sQ m_X0.2.1)) m_I0 m_J0 from funext key, c_len]
