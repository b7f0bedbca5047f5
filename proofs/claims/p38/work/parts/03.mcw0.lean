/-! the code words of the methods are in the tables -/
theorem ev_mcw_0 : ((List.range 113).drop 0 |>.take 8).all ev_mcw = true := by decide +kernel
theorem ev_mcw_8 : ((List.range 113).drop 8 |>.take 8).all ev_mcw = true := by decide +kernel
theorem ev_mcw_16 : ((List.range 113).drop 16 |>.take 8).all ev_mcw = true := by decide +kernel
theorem ev_mcw_24 : ((List.range 113).drop 24 |>.take 8).all ev_mcw = true := by decide +kernel
theorem ev_mcw_32 : ((List.range 113).drop 32 |>.take 8).all ev_mcw = true := by decide +kernel
theorem ev_mcw_40 : ((List.range 113).drop 40 |>.take 8).all ev_mcw = true := by decide +kernel
theorem ev_mcw_48 : ((List.range 113).drop 48 |>.take 8).all ev_mcw = true := by decide +kernel
