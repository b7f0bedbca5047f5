/-! the law's code is as the pure machine has it -/
theorem ev_cb_0 : ev_okb 113 (ev_blk 113 0) (ev_pcs 113 0) = true := by decide +kernel
theorem ev_cb_1 : ev_okb 113 (ev_blk 113 1) (ev_pcs 113 1) = true := by decide +kernel
theorem ev_cb_2 : ev_okb 113 (ev_blk 113 2) (ev_pcs 113 2) = true := by decide +kernel
theorem ev_cb_3 : ev_okb 113 (ev_blk 113 3) (ev_pcs 113 3) = true := by decide +kernel
theorem ev_cb_4 : ev_okb 113 (ev_blk 113 4) (ev_pcs 113 4) = true := by decide +kernel
