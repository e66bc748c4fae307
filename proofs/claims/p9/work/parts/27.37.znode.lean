theorem ti_cl {v : Int32} {n : Nat} (h1 : 0 ≤ v.toInt) (h2 : v.toInt < n) : v.toNatClampNeg < n := by
  have e : v.toNatClampNeg = v.toInt.toNat := rfl
  omega
def nd (S : ZS) (g : Nat) (i : Int32) : Nat := if i ≤ 0 ∨ zI S 3 g < i then (zP S 1 g).getD 0 else (zB S ((zP S 2 g).getD 0) i.toNatClampNeg).getD ((zP S 1 g).getD 0)
theorem t_f_X1_at {S : ZS} {x0 : Nat} {x1 : Int32} (hT : ZT S) (r_x0 : zK S x0 = 1) : Ok (f_X1_at x0 x1 S) (fun o => o.2 = S ∧ (zK o.2 o.1 = 4) ∧ (o.1 = nd S x0 x1)) := by
  show Ok (f_X1_at_0 x0 x1 S) _
  obtain ⟨b1, p1, k1, n1⟩ := T_1_2 hT r_x0
  obtain ⟨b2, p2, k2⟩ := T_1_1 hT r_x0
  have hr : (x1 ≤ 0 ∨ zI S 3 x0 < x1) → Ok (f_X1_at_21 x0 S) (fun o => o.2 = S ∧ (zK o.2 o.1 = 4) ∧ (o.1 = nd S x0 x1)) := by
    intro hc
    unfold f_X1_at_21 f_X1_at_22
    refine ok_opt (fun _ => ?_) (fun b h => absurd h (by simp))
    refine ok_chk r_x0 (ok_calR p2 ?_)
    unfold f_X1_at_35
    refine ok_calR rfl (ok_ret ⟨rfl, k2, ?_⟩)
    unfold nd
    rw [if_pos hc, p2]; rfl
  unfold f_X1_at_0
  refine ok_if (fun c => hr (Or.inl c)) (fun c => ?_)
  refine ok_chk r_x0 ?_
  refine ok_if (fun c2 => hr (Or.inr c2)) (fun c2 => ?_)
  have j := J_1_3 hT r_x0
  have c' := ti_leN (a := x1) (b := 0) c rfl rfl
  have c2' := ti_ltN (a := zI S 3 x0) (b := x1) c2 rfl rfl
  have z : (0 : Int32).toInt = 0 := rfl
  refine ok_chk r_x0 (ok_calR p1 (ok_chk k1 ?_))
  refine ok_chk (ti_inN (v := x1) (n := 301) n1 (by omega) (by omega)) ?_
  refine ok_bnd (fun v2 e2 => ?_)
  unfold f_X1_at_22
  have hnd : nd S x0 x1 = v2.getD b2 := by
    unfold nd
    rw [if_neg (fun h => h.elim c c2), p1, p2, e2]
    rfl
  refine ok_opt (fun h => ?_) (fun b h => ?_)
  · refine ok_chk r_x0 (ok_calR p2 ?_)
    unfold f_X1_at_35
    refine ok_calR rfl (ok_ret ⟨rfl, k2, ?_⟩)
    rw [hnd, h]; rfl
  · unfold f_X1_at_35
    refine ok_calR rfl (ok_ret ⟨rfl, ?_, ?_⟩)
    · exact (hT.2.2.2.1 b1).2.1 k1 _ b (by rw [← e2]; exact h)
    · rw [hnd, h]; rfl
