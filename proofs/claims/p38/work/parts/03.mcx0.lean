/-! the code words of the methods are in the tables -/
theorem ev_mcx_104 : ev_mcw 104 = true := by decide +kernel
theorem ev_mcx_105 : ev_mcw 105 = true := by decide +kernel
theorem ev_mcx_106 : ev_mcw 106 = true := by decide +kernel
theorem ev_mcx_107 : ev_mcw 107 = true := by decide +kernel
