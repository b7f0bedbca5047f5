/-! the law's code is as the pure machine has it -/
theorem ev_cb_37 : ev_okb 113 (ev_blk 113 37) (ev_pcs 113 37) = true := by decide +kernel
theorem ev_cb_38 : ev_okb 113 (ev_blk 113 38) (ev_pcs 113 38) = true := by decide +kernel
theorem ev_cb_39 : ev_okb 113 (ev_blk 113 39) (ev_pcs 113 39) = true := by decide +kernel
theorem ev_cb_40 : ev_okb 113 (ev_blk 113 40) (ev_pcs 113 40) = true := by decide +kernel
theorem ev_cb_41 : ev_okb 113 (ev_blk 113 41) (ev_pcs 113 41) = true := by decide +kernel
theorem ev_cb_42 : ev_okb 113 (ev_blk 113 42) (ev_pcs 113 42) = true := by decide +kernel
theorem ev_cb_43 : ev_okb 113 (ev_blk 113 43) (ev_pcs 113 43) = true := by decide +kernel
theorem ev_cb_44 : ev_okb 113 (ev_blk 113 44) (ev_pcs 113 44) = true := by decide +kernel
theorem ev_cb_45 : ev_okb 113 (ev_blk 113 45) (ev_pcs 113 45) = true := by decide +kernel
