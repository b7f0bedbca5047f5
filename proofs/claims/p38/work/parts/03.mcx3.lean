/-! the code words of the methods are in the tables -/
theorem ev_mcx_112 : ev_mcw 112 = true := by decide +kernel
