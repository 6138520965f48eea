set_option maxRecDepth 100000 in
theorem ev_x0 : (dm_ex dm_tb dm_cd 2000000 40 46 [.ref 0, .int 5] [.inr (3, nf_X4)]).isSome = true := by decide +kernel
