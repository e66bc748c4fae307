theorem t_d_X6_copyFrom {SZ S : ZS} {x0 : Nat} {x1 : Nat} (hT : ZT S) (hR : RP SZ S) (r_x0 : zK S x0 = 6) (r_x1 : zK S x1 = 6) (q0 : x0 = x1 ∨ (zI S 1 x1).toInt ≤ (rL x0 : Int)) (q1 : rc x0 ≠ 2) : Ok (d_X6_copyFrom x0 x1 S) (fun o => ZT o.2 ∧ RP SZ o.2 ∧ ∀ a, a ≠ x0 → zI o.2 1 a = zI S 1 a) := by
  show Ok (d_X6_copyFrom_0 x0 x1 S) _
  unfold d_X6_copyFrom_0
  have j := J_6_1c hT r_x0
  have z : (0 : Int32).toInt = 0 := rfl
  refine ok_chk r_x0 (ok_bnd (fun S1 e1 => ?_))
  have T1 : ZT S1 := e1 ▸ zt_len hT r_x0 (show (0 : Int) ≤ (0 : Int32).toInt by decide) (by omega)
  have R1 : RP SZ S1 := rp_I6 hR hT r_x0 e1 q1
  have k0 : zK S1 x0 = 6 := by rw [e1]; exact r_x0
  have k1 : zK S1 x1 = 6 := by rw [e1]; exact r_x1
  have l0 : (zI S1 1 x0).toInt = 0 := by rw [e1, zI_self]; rfl
  have lo : ∀ a, a ≠ x0 → zI S1 1 a = zI S 1 a := fun a ha => by rw [e1, zI_ne ha]
  refine ok_chk k0 ?_
  by_cases e : x0 = x1
  · subst e
    have hp : d_X6_putAll x0 x0 S1 = some (0, S1) := by
      show d_X6_putAll_2 mFuel x0 x0 0 S1 = _
      show d_X6_putAll_2s (d_X6_putAll_2 199999) x0 x0 0 S1 = _
      unfold d_X6_putAll_2s
      have hc : zI S1 1 x0 ≤ 0 := Int32.le_iff_toInt_le.2 (by rw [l0]; decide)
      show m_chk (zK S1 x0 = 6) (m_if (zI S1 1 x0 ≤ 0) _ _) = _
      unfold m_chk m_if
      rw [if_pos k0, if_pos hc]
    refine ok_cal2R hp (ok_ret ⟨T1, R1, lo⟩)
  · have hl := lo x1 (fun h => e h.symm)
    obtain ⟨⟨r3, S4⟩, h3, T4, R4, p0, p1⟩ := t_d_X6_putAll (SZ := S1) (x0 := x0) (x1 := x1) T1 (rp_0 S1) k0 k1 rfl e (by rw [l0, hl]; rcases q0 with h | h <;> omega) q1
    refine ok_cal2R h3 (ok_ret ⟨T4, rp_t R1 R4, fun a ha => ?_⟩)
    exact (p1 a ha).trans (lo a ha)
theorem t_d_X1_tagAt {S : ZS} {x0 : Nat} {x1 : Int32} (hT : ZT S) (r_x0 : zK S x0 = 1) (q0 : 0 ≤ x1.toInt ∧ x1.toInt < (zI S 5 x0).toInt) : Ok (d_X1_tagAt x0 x1 S) (fun o => o.2 = S ∧ (zK o.2 o.1 = 10)) := by
  show Ok (d_X1_tagAt_0 x0 x1 S) _
  unfold d_X1_tagAt_0
  have j := J_1_5 hT r_x0
  have z : (0 : Int32).toInt = 0 := rfl
  refine ok_if (fun c => ?_) (fun c => ?_)
  · have := ti_ltP (a := x1) (b := 0) c rfl rfl; omega
  · refine ok_chk r_x0 (ok_if (fun c2 => ?_) (fun c2 => ?_))
    · have := ti_leP (a := zI S 5 x0) (b := x1) c2 rfl rfl; omega
    · obtain ⟨b, p, k, n⟩ := T_1_4 hT r_x0
      refine ok_chk r_x0 (ok_calR p (ok_chk k (ok_chk (ti_inN (v := x1) (n := 8) n (by omega) (by omega)) (ok_bnd (fun v2 e2 => ?_)))))
      have hn : x1.toNatClampNeg = x1.toInt.toNat := rfl
      obtain ⟨d, hd⟩ := hT.2.2.2.2.2.2.2.2.1 x0 r_x0 b p x1.toNatClampNeg (by omega)
      have kd := (hT.2.2.2.1 b).2.2 k _ d hd
      rw [hd] at e2
      rw [e2]
      unfold d_X1_tagAt_22
      refine ok_opt (fun h => absurd h (by simp)) (fun b1 h1 => ?_)
      cases h1
      unfold d_X1_tagAt_38
      exact ok_calR rfl (ok_ret ⟨rfl, kd⟩)
