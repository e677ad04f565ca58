/-! ===== what is owed ===== -/
theorem i_vc : Claimed_1_1 ∧ Claimed_1_2 := ix_claims fun _ _ h => lw_law h
