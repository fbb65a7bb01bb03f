theorem c_law10 : c_ok (cb_n 6 m_Law_law (0, [(0, .ref 1000000005)], []) ([], 0, 0)) (12, [(1, .ref 0), (0, .ref 1000000005)], [.ref 112, .ref 112]) (c_cs1, 113, 12902) = true := by decide +kernel
theorem c_law1 : cb_n 6 m_Law_law (0, [(0, .ref 1000000005)], []) ([], 0, 0) = some ((12, [(1, .ref 0), (0, .ref 1000000005)], [.ref 112, .ref 112]), (c_cs1, 113, 12902)) := c_ok_eq c_law10
theorem c_law20 : c_ok (cb_n 232 m_Model_init (0, [(0, .ref 112)], []) (c_cs1, 113, 12902)) (448, [(0, .ref 112)], [.int 1, .long 0, .int 2, .ref 112]) (c_cs2, 168, 340044) = true := by decide +kernel
theorem c_law2 : cb_n 232 m_Model_init (0, [(0, .ref 112)], []) (c_cs1, 113, 12902) = some ((448, [(0, .ref 112)], [.int 1, .long 0, .int 2, .ref 112]), (c_cs2, 168, 340044)) := c_ok_eq c_law20
theorem c_len : c_cs2.length = 168 := by decide +kernel
