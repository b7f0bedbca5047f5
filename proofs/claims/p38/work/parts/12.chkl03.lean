/-! the law's code is as the pure machine has it -/
theorem ev_cb_13 : ev_okb 113 (ev_blk 113 13) (ev_pcs 113 13) = true := by decide +kernel
theorem ev_cb_14 : ev_okb 113 (ev_blk 113 14) (ev_pcs 113 14) = true := by decide +kernel
theorem ev_cb_15 : ev_okb 113 (ev_blk 113 15) (ev_pcs 113 15) = true := by decide +kernel
theorem ev_cb_16 : ev_okb 113 (ev_blk 113 16) (ev_pcs 113 16) = true := by decide +kernel
theorem ev_cb_17 : ev_okb 113 (ev_blk 113 17) (ev_pcs 113 17) = true := by decide +kernel
theorem ev_cb_18 : ev_okb 113 (ev_blk 113 18) (ev_pcs 113 18) = true := by decide +kernel
