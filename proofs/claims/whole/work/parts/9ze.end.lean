/-! The claim. -/
theorem i_vc : Claimed_1_1 ∧ Claimed_1_2 := vc_open pu_ok
