def G_s (lo : Nat) (I : Nat → Int32) (A : Nat → Nat → Int32) (S : ZS) : Bool := (List.range 5).all (fun k => ckX S (f_signs (A 32 (lo + k)) I A) (d_X11_signs 1 (A 32 (lo + k)) S) tV tb_signs)
def G_t (lo : Nat) (I : Nat → Int32) (A : Nat → Nat → Int32) (S : ZS) : Bool := (List.range 5).all (fun k => ckX S (f_add (A 32 (lo + k)) I A) (d_X11_add 1 (A 32 (lo + k)) S) tV tb_add)
theorem ev_s0 : evQ (G_s 0) = true := by decide +kernel
theorem ev_s1 : evQ (G_s 5) = true := by decide +kernel
theorem ev_s2 : evQ (G_s 10) = true := by decide +kernel
theorem ev_s3 : evQ (G_s 15) = true := by decide +kernel
