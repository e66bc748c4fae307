theorem ev_t0 : evQ (G_t 0) = true := by decide +kernel
theorem ev_t1 : evQ (G_t 5) = true := by decide +kernel
theorem ev_t2 : evQ (G_t 10) = true := by decide +kernel
theorem ev_t3 : evQ (G_t 15) = true := by decide +kernel
