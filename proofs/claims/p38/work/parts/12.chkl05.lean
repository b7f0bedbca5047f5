/-! the law's code is as the pure machine has it -/
theorem ev_cb_27 : ev_okb 113 (ev_blk 113 27) (ev_pcs 113 27) = true := by decide +kernel
theorem ev_cb_28 : ev_okb 113 (ev_blk 113 28) (ev_pcs 113 28) = true := by decide +kernel
theorem ev_cb_29 : ev_okb 113 (ev_blk 113 29) (ev_pcs 113 29) = true := by decide +kernel
theorem ev_cb_30 : ev_okb 113 (ev_blk 113 30) (ev_pcs 113 30) = true := by decide +kernel
theorem ev_cb_31 : ev_okb 113 (ev_blk 113 31) (ev_pcs 113 31) = true := by decide +kernel
