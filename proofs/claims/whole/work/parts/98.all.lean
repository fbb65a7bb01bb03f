/-! THE CLAIM -/
theorem pu_all : pu_goal := fun L xs hL => z_all L xs hL
theorem i_vc : Claimed_1_1 ∧ Claimed_1_2 := i_of pu_all
