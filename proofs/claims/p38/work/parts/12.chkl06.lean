/-! the law's code is as the pure machine has it -/
theorem ev_cb_32 : ev_okb 113 (ev_blk 113 32) (ev_pcs 113 32) = true := by decide +kernel
theorem ev_cb_33 : ev_okb 113 (ev_blk 113 33) (ev_pcs 113 33) = true := by decide +kernel
theorem ev_cb_34 : ev_okb 113 (ev_blk 113 34) (ev_pcs 113 34) = true := by decide +kernel
theorem ev_cb_35 : ev_okb 113 (ev_blk 113 35) (ev_pcs 113 35) = true := by decide +kernel
theorem ev_cb_36 : ev_okb 113 (ev_blk 113 36) (ev_pcs 113 36) = true := by decide +kernel
