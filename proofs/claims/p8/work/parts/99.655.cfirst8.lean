/-- nothing is told at first -/
def kX8 (S : ZS) : Bool := decide (zI S 1 3 = 0)
theorem ev_X8 : evC kX8 = true := by decide +kernel
theorem c_first_o {I : Nat → Int32} {A : Nat → Nat → Int32} {j : Nat} {r : Int32 × ZS} (e : d_X11_init 1 (zsNewO zSs 1 11 10) = some r) (h3 : I 3 = 0) : OWt I A (zsJ r.2 j) := by
  have x8 := evC_S ev_X8 e
  unfold kX8 at x8
  have x8 := of_decide_eq_true x8
  have z : (zI r.2 1 3).toInt = 0 := by rw [x8]; rfl
  refine ow_c (S := r.2) rfl rfl rfl ⟨[], by decide, ⟨by rw [z]; rfl, fun i => ?_⟩, by rw [h3]; rfl, fun i hi => absurd hi (Nat.not_lt_zero _)⟩
  unfold rwC
  rw [z, if_neg (by omega)]
  exact (wA_out (show i < 0 ∨ (0 : Int) ≤ i by omega)).symm
