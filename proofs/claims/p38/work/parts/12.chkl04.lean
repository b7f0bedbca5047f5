/-! the law's code is as the pure machine has it -/
theorem ev_cb_19 : ev_okb 113 (ev_blk 113 19) (ev_pcs 113 19) = true := by decide +kernel
theorem ev_cb_20 : ev_okb 113 (ev_blk 113 20) (ev_pcs 113 20) = true := by decide +kernel
theorem ev_cb_21 : ev_okb 113 (ev_blk 113 21) (ev_pcs 113 21) = true := by decide +kernel
theorem ev_cb_22 : ev_okb 113 (ev_blk 113 22) (ev_pcs 113 22) = true := by decide +kernel
theorem ev_cb_23 : ev_okb 113 (ev_blk 113 23) (ev_pcs 113 23) = true := by decide +kernel
theorem ev_cb_24 : ev_okb 113 (ev_blk 113 24) (ev_pcs 113 24) = true := by decide +kernel
theorem ev_cb_25 : ev_okb 113 (ev_blk 113 25) (ev_pcs 113 25) = true := by decide +kernel
theorem ev_cb_26 : ev_okb 113 (ev_blk 113 26) (ev_pcs 113 26) = true := by decide +kernel
