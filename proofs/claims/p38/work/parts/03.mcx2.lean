/-! the code words of the methods are in the tables -/
theorem ev_mcx_110 : ev_mcw 110 = true := by decide +kernel
theorem ev_mcx_111 : ev_mcw 111 = true := by decide +kernel
