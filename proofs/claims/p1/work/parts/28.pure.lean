def zS1 : ZS := match d_X11_init 1 (zsNewO zSs 1 11 10) with
  | some o => o.2
  | none => zSs
theorem p1_d0 : (d_X11_init 1 (zsNewO zSs 1 11 10)).isSome = true := by decide +kernel
theorem p1_init : g_X11_init 1 (zsNewO zSs 1 11 10) 2000 50000 (fun _ S1 => S1 = zS1) := sorry
theorem p1_K : zK (zsJ zS1 27) 1 = 11 := sorry
theorem p1_ref : ∃ o1 o2 o3 : Int32 × MS, f_clearGame 0 mI0 mA0 = some o1 ∧ f_usual 0 o1.2.1 o1.2.2 = some o2 ∧ f_place 0 0 o2.2.1 o2.2.2 = some o3 ∧ ∀ (RR : (Nat → Int32) → (Nat → Nat → Int32) → ZS → Prop) (op v1 v2 v3 : Int32), (∀ I A S, RR I A S) → PStep RR op v1 v2 v3 o3.2.1 o3.2.2 (zsJ zS1 27) := sorry
