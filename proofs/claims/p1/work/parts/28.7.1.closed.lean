theorem ev_m : evQ G_m = true := by decide +kernel
theorem ev_r : evQ G_r = true := by decide +kernel
