/-! the code words of the methods are in the tables -/
theorem ev_mcw_56 : ((List.range 113).drop 56 |>.take 8).all ev_mcw = true := by decide +kernel
theorem ev_mcw_64 : ((List.range 113).drop 64 |>.take 8).all ev_mcw = true := by decide +kernel
theorem ev_mcw_72 : ((List.range 113).drop 72 |>.take 8).all ev_mcw = true := by decide +kernel
theorem ev_mcw_80 : ((List.range 113).drop 80 |>.take 8).all ev_mcw = true := by decide +kernel
theorem ev_mcw_88 : ((List.range 113).drop 88 |>.take 8).all ev_mcw = true := by decide +kernel
theorem ev_mcw_96 : ((List.range 113).drop 96 |>.take 8).all ev_mcw = true := by decide +kernel
