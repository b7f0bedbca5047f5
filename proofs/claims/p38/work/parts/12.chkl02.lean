/-! the law's code is as the pure machine has it -/
theorem ev_cb_6 : ev_okb 113 (ev_blk 113 6) (ev_pcs 113 6) = true := by decide +kernel
theorem ev_cb_7 : ev_okb 113 (ev_blk 113 7) (ev_pcs 113 7) = true := by decide +kernel
theorem ev_cb_8 : ev_okb 113 (ev_blk 113 8) (ev_pcs 113 8) = true := by decide +kernel
theorem ev_cb_9 : ev_okb 113 (ev_blk 113 9) (ev_pcs 113 9) = true := by decide +kernel
theorem ev_cb_10 : ev_okb 113 (ev_blk 113 10) (ev_pcs 113 10) = true := by decide +kernel
theorem ev_cb_11 : ev_okb 113 (ev_blk 113 11) (ev_pcs 113 11) = true := by decide +kernel
theorem ev_cb_12 : ev_okb 113 (ev_blk 113 12) (ev_pcs 113 12) = true := by decide +kernel
