/-! the code is as the pure machine has it -/
theorem ev_chk_108 : ev_chk 108 = true := by decide +kernel
theorem ev_chk_109 : ev_chk 109 = true := by decide +kernel
theorem ev_chk_110 : ev_chk 110 = true := by decide +kernel
theorem ev_chk_111 : ev_chk 111 = true := by decide +kernel
theorem ev_chk_112 : ev_chk 112 = true := by decide +kernel
