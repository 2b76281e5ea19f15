theorem i_vc : Claimed_1_1 ∧ Claimed_1_2 := np_end np_pure
