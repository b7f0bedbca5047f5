/-! the code words of the methods are in the tables -/
theorem ev_mcx_108 : ev_mcw 108 = true := by decide +kernel
theorem ev_mcx_109 : ev_mcw 109 = true := by decide +kernel
