/-! the law's code is as the pure machine has it -/
theorem ev_cb_46 : ev_okb 113 (ev_blk 113 46) (ev_pcs 113 46) = true := by decide +kernel
theorem ev_cb_47 : ev_okb 113 (ev_blk 113 47) (ev_pcs 113 47) = true := by decide +kernel
