/-! the law's code is as the pure machine has it -/
theorem ev_cb_5 : ev_okb 113 (ev_blk 113 5) (ev_pcs 113 5) = true := by decide +kernel
