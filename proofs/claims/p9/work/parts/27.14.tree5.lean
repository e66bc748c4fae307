theorem t_clearGame2 {gg : Nat} {I : Nat → Int32} {A : Nat → Nat → Int32} {x1 : Int32} (hI : TJ I) (hA : TK A) (r_x1 : (0 : Int) ≤ x1.toInt ∧ x1.toInt ≤ (1 : Int)) (q0 : x1.toInt = (gg : Int)) : Ok (f_clearGame x1 I A) (fun o => TJ o.2.1 ∧ TK o.2.2 ∧ (TRE o.2.2 gg) ∧ (∀ hh nb : Nat, hh ≤ 1 → hh ≠ gg → TRH A hh nb → TRH o.2.2 hh nb) ∧ (lnk o.2.2 gg 0 0) ∧ (leaf o.2.2 gg 0)) := by
  have hg : gg ≤ 1 := by omega
  have hix : x1.toNatClampNeg = gg := by have := ti_nc (a := x1) (by omega); omega
  have hcx : ¬ (x1 < 0 ∨ 2 ≤ x1.toNatClampNeg) := ti_in (by omega) (by omega)
  show Ok (f_clearGame_0 x1 I A) _
  unfold f_clearGame_0
  refine ok_chk hcx ?_
  refine ok_bnd (fun A1 e1 => ?_)
  rw [hix] at e1
  have hA1 : TK A1 := e1.symm ▸ tk_u hA (j := 7) (show (0 : Int) ≤ (0 : Int32).toInt by decide) (show (0 : Int32).toInt ≤ (300 : Int) by decide)
  refine ok_chk hcx ?_
  refine ok_bnd (fun A2 e2 => ?_)
  have hA2 : TK A2 := e2.symm ▸ tk_u hA1 (j := 18) (show (0 : Int) ≤ (0 : Int32).toInt by decide) (show (0 : Int32).toInt ≤ (8 : Int) by decide)
  refine ok_chk hcx ?_
  refine ok_bnd (fun A3 e3 => ?_)
  have hA3 : TK A3 := e3.symm ▸ tk_u hA2 (j := 23) (show (-1 : Int) ≤ (0 : Int32).toInt by decide) (show (0 : Int32).toInt ≤ (3 : Int) by decide)
  refine ok_bnd (fun v4 e4 => ?_)
  have t4 := ti_mul e4 (show (301 : Int32).toInt = 301 from rfl) q0 (by omega) (by omega)
  have i4 : v4.toNatClampNeg = 301 * gg + 0 := by have := ti_nc (a := v4) (by omega); omega
  refine ok_clR (clearNode_eq (by omega)) ?_
  rw [i4]
  have hA5 := tk_cNd (i := 301 * gg + 0) hA3
  refine ok_bnd (fun v6 e6 => ?_)
  have t6 := ti_mul e6 (show (301 : Int32).toInt = 301 from rfl) q0 (by omega) (by omega)
  have i6 : v6.toNatClampNeg = 301 * gg + 0 := by have := ti_nc (a := v6) (by omega); omega
  refine ok_chk (ti_in (by omega) (by omega)) ?_
  refine ok_bnd (fun A7 e7 => ?_)
  rw [i6] at e7
  have hA7 : TK A7 := e7.symm ▸ tk_u hA5 (j := 8) (show (-1 : Int) ≤ (-1 : Int32).toInt by decide) (show (-1 : Int32).toInt ≤ (300 : Int) by decide)
  refine ok_bnd (fun v8 e8 => ?_)
  have t8 := ti_mul e8 (show (301 : Int32).toInt = 301 from rfl) q0 (by omega) (by omega)
  have i8 : v8.toNatClampNeg = 301 * gg + 0 := by have := ti_nc (a := v8) (by omega); omega
  refine ok_chk (ti_in (by omega) (by omega)) ?_
  refine ok_bnd (fun A9 e9 => ?_)
  rw [i8] at e9
  have hA9 : TK A9 := e9.symm ▸ tk_u hA7 (j := 9) (show (-1 : Int) ≤ (-1 : Int32).toInt by decide) (show (-1 : Int32).toInt ≤ (24575 : Int) by decide)
  have s7 : A9 7 = upd (A 7) gg 0 := by rw [e9, e7, e3, e2, e1]; rfl
  have s8 : A9 8 = upd (A 8) (301 * gg + 0) (-1) := by rw [e9, e7, e3, e2, e1]; rfl
  have s9 : A9 9 = upd (A 9) (301 * gg + 0) (-1) := by rw [e9, e7, e3, e2, e1]; rfl
  have s10 : A9 10 = upd (A 10) (301 * gg + 0) (-1) := by rw [e9, e7, e3, e2, e1]; rfl
  have s11 : A9 11 = upd (A 11) (301 * gg + 0) (-1) := by rw [e9, e7, e3, e2, e1]; rfl
  have hK : aK A9 gg = 0 := by
    show (A9 7 gg).toInt.toNat = 0
    rw [s7, upd_self]; rfl
  have hC : aC A9 gg 0 = -1 := by
    show (A9 10 (301 * gg + 0)).toInt = -1
    rw [s10, upd_self]; rfl
  refine ok_ret ⟨hI, hA9, by unfold TRE; rw [hK]; exact TT_nil hC, fun hh nb h1 h2 h3 => ?_, ⟨by omega, fun D hD => by rw [hD.1]; exact Int.le_refl _⟩, by unfold leaf; rw [hC]; decide⟩
  refine ⟨TRE_oth (A' := A9) hA (by rw [s7, upd_ne h2]) (fun j hj => by rw [s8, up_o (by omega) hj h2]) (fun j hj => by rw [s9, up_o (by omega) hj h2]) (fun j hj => by rw [s10, up_o (by omega) hj h2]) (fun j hj => by rw [s11, up_o (by omega) hj h2]) h3.1, ?_⟩
  show (A9 7 hh).toInt.toNat = nb
  rw [s7, upd_ne h2]
  exact h3.2
/-- what reading a line leaves of the nodes that were there: nd is the one from which it goes -/
def EX (A : Nat → Nat → Int32) (g : Nat) (A0 : Nat → Nat → Int32) (nd : Nat) : Prop := aK A0 g ≤ aK A g ∧ (∀ k d, lnk A0 g k d → lnk A g k d) ∧ (∀ k, k ≤ aK A0 g → k ≠ nd → leaf A0 g k → leaf A g k)
theorem EX_fr {A A' A0 : Nat → Nat → Int32} {g nd : Nat} (e7 : A' 7 = A 7) (e8 : A' 8 = A 8) (e10 : A' 10 = A 10) (h : EX A g A0 nd) : EX A' g A0 nd := by
  have a : aK A' g = aK A g := by unfold aK; rw [e7]
  exact ⟨by rw [a]; exact h.1, fun k d hk => lnk_fr e7 e8 e10 (h.2.1 k d hk), fun k h1 h2 h3 => leaf_fr e10 (h.2.2 k h1 h2 h3)⟩
theorem EX_refl {A : Nat → Nat → Int32} {g nd : Nat} : EX A g A nd := ⟨Nat.le_refl _, fun _ _ h => h, fun _ _ _ h => h⟩
theorem EX_tr {A A' A0 : Nat → Nat → Int32} {g nd nd2 : Nat} (h : EX A g A0 nd) (h2 : EX A' g A nd2) (hc : nd2 = nd ∨ aK A0 g < nd2) : EX A' g A0 nd := ⟨Nat.le_trans h.1 h2.1, fun k d hk => h2.2.1 k d (h.2.1 k d hk), fun k h3 h4 h5 => h2.2.2 k (Nat.le_trans h3 h.1) (fun e => by
  rcases hc with hc | hc
  · exact h4 (by rw [e, hc])
  · omega) (h.2.2 k h3 h4 h5)⟩
theorem EX_ap {A A' A0 : Nat → Nat → Int32} {g nd node r : Nat} (h : EX A g A0 nd) (h2 : AP A A' g node r) (hc : node = nd ∨ aK A0 g < node) : EX A' g A0 nd := EX_tr h ⟨by have := h2.2.1; omega, h2.2.2.1, h2.2.2.2.1⟩ hc
