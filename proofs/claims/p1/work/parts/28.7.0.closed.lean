def G_a (I : Nat → Int32) (A : Nat → Nat → Int32) (S : ZS) : Bool := decide (FR I A) && (decide (FC S) && (decide (zP S 0 2 = some 0 ∧ 3 ≤ zt S ∧ zt S ≤ 2000 ∧ zu S ≤ 50000) && (ckF (f_nodes I A) (f_X11_nodes 1 S) && (ckF (f_here I A) (f_X11_here 1 S) && (ckF (f_result I A) (f_X11_result 1 S) && (ckF (f_tags I A) (f_X11_tags 1 S) && (ckF (f_cut 0 I A) (f_X11_cut 1 0 S) && ((List.range 6).all (fun k => ckX S (f_node 0 (nI k) I A) (d_X11_node 1 0 (nI k) S) tV tb_node) && ((List.range 64).all (fun k => ckX S (f_man (nI k) I A) (d_X11_man 1 (nI k) S) tV tb_man) && (List.range 4).all (fun k => ckX S (f_end (nI k) I A) (d_X11_end 1 (nI k) S) tN tb_end))))))))))
theorem ev_a : evQ G_a = true := by decide +kernel
def G_b (I : Nat → Int32) (A : Nat → Nat → Int32) (S : ZS) : Bool := ckG S (f_read I A) (d_X11_read 1 S)
theorem ev_b : evQ G_b = true := by decide +kernel
def G_c (I : Nat → Int32) (A : Nat → Nat → Int32) (S : ZS) : Bool := ckG S (f_find I A) (d_X11_find 1 S) && ckG S (f_write I A) (d_X11_write 1 S)
theorem ev_c : evQ G_c = true := by decide +kernel
def G_d (I : Nat → Int32) (A : Nat → Nat → Int32) (S : ZS) : Bool := ckX S (f_say I A) (d_X11_say 1 S) tV tb_say && ckX S (f_lead I A) (d_X11_lead 1 S) tB tb_lead
theorem ev_d : evQ G_d = true := by decide +kernel
def G_e (I : Nat → Int32) (A : Nat → Nat → Int32) (S : ZS) : Bool := ckX S (f_go 0 I A) (d_X11_go 1 0 S) tN tb_go
theorem ev_e : evQ G_e = true := by decide +kernel
