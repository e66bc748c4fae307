theorem t_f_X5_skip_0 {SZ S : ZS} {x0 : Nat} {x1 : Int32} (hT : ZT S) (hR : A7 SZ S) (r_x0 : zK S x0 = 5) (q0 : 1 ≤ x1.toInt ∨ (zI S 1 x0).toInt ≤ 90050) : Ok (f_X5_skip_0 x0 x1 S) (fun o => ZT o.2 ∧ A7 SZ o.2 ∧ ((0 : Int) ≤ o.1.toInt ∧ o.1.toInt ≤ (1 : Int)) ∧ ((o.1.toInt = 1 → 1 ≤ x1.toInt → (zI o.2 1 x0).toInt ≤ 90000)) ∧ (((zI o.2 1 x0).toInt ≤ (zI S 1 x0).toInt + 1))) := by
  unfold f_X5_skip_0
  have j1 := J_5_1 hT r_x0
  refine ok_chk r_x0 ?_
  obtain ⟨b1, p_b1, k_b1, c_b1⟩ := T_5_0 hT r_x0
  refine ok_calR p_b1 ?_
  refine ok_chk r_x0 ?_
  refine ok_chk k_b1 ?_
  have j2 := J61_2 hT k_b1 c_b1
  obtain ⟨r2, h_r2, p_r2⟩ := roz (t_f_X6_at (x0 := b1) (x1 := (zI S 1 x0)) hT k_b1)
  dsimp only at p_r2
  refine ok_calR h_r2 ?_
  refine ok_if (fun c3 => ?_) (fun c3 => ?_)
  ·
    replace c3 := ti_eqP (a := r2) (b := x1) c3 rfl rfl
    refine ok_chk r_x0 ?_
    refine ok_bnd (fun v3 e4 => ?_)
    have t_v3 : v3.toInt = (zI S 1 x0).toInt + 1 := ti_add e4 rfl (show (1 : Int32).toInt = 1 from rfl) (by omega) (by omega)
    refine ok_chk r_x0 ?_
    refine ok_bnd (fun S4 e5 => ?_)
    have T_S4 : ZT S4 := e5.symm ▸ zt_I hT r_x0 (by decide) (show (0 : Int) ≤ v3.toInt ∧ v3.toInt ≤ (90100 : Int) from (by omega))
    have kE_S4 : zK S4 = zK S := by rw [e5]; rfl
    have nE_S4 : zN S4 = zN S := by rw [e5]; rfl
    have R_S4 : A7 SZ S4 := a7_I hR e5 r_x0 (by decide)
    have : (zI S4 1 x0).toInt = v3.toInt := by rw [e5]; exact (congrArg Int32.toInt (zI_self _ _ _ _)).trans rfl
    refine ok_chk (by decide) ?_
    exact ok_ret ⟨T_S4, R_S4, (show (0 : Int) ≤ (1 : Int32).toInt ∧ (1 : Int32).toInt ≤ (1 : Int) from (by decide)), (by show ((1 : Int32).toInt = 1 → 1 ≤ x1.toInt → (zI S4 1 x0).toInt ≤ 90000); have z : (1 : Int32).toInt = 1 := rfl; omega), (by show ((zI S4 1 x0).toInt ≤ (zI S 1 x0).toInt + 1); have z : (1 : Int32).toInt = 1 := rfl; omega)⟩
  ·
    replace c3 := ti_eqN (a := r2) (b := x1) c3 rfl rfl
    refine ok_chk (by decide) ?_
    exact ok_ret ⟨hT, hR, (show (0 : Int) ≤ (0 : Int32).toInt ∧ (0 : Int32).toInt ≤ (1 : Int) from (by decide)), (by show ((0 : Int32).toInt = 1 → 1 ≤ x1.toInt → (zI S 1 x0).toInt ≤ 90000); have z : (0 : Int32).toInt = 0 := rfl; omega), (by show ((zI S 1 x0).toInt ≤ (zI S 1 x0).toInt + 1); have z : (0 : Int32).toInt = 0 := rfl; omega)⟩
theorem t_f_X5_skip {SZ S : ZS} {x0 : Nat} {x1 : Int32} (hT : ZT S) (hR : A7 SZ S) (r_x0 : zK S x0 = 5) (q0 : 1 ≤ x1.toInt ∨ (zI S 1 x0).toInt ≤ 90050) : Ok (f_X5_skip x0 x1 S) (fun o => ZT o.2 ∧ A7 SZ o.2 ∧ ((0 : Int) ≤ o.1.toInt ∧ o.1.toInt ≤ (1 : Int)) ∧ ((o.1.toInt = 1 → 1 ≤ x1.toInt → (zI o.2 1 x0).toInt ≤ 90000)) ∧ (((zI o.2 1 x0).toInt ≤ (zI S 1 x0).toInt + 1))) := t_f_X5_skip_0 hT hR r_x0 q0
theorem t_f_X5_readRank_105 {SZ S : ZS} {self5 : Nat → Nat → Int32 → Int32 → Int32 → ZS → Option (Int32 × ZS)} {N5 : Nat} (hself5 : ∀ (x0 : Nat) (x1 : Nat) (x2 : Int32) (x3 : Int32) (x4 : Int32) (S : ZS), ZT S → A7 SZ S → (zK S x0 = 5) → (zK S x1 = 0) → ((0 : Int) ≤ x2.toInt ∧ x2.toInt ≤ (56 : Int)) → ((0 : Int) ≤ x3.toInt ∧ x3.toInt ≤ (1 : Int)) → ((0 : Int) ≤ x4.toInt ∧ x4.toInt ≤ (15 : Int)) → (16 - x4.toInt) < (N5 : Int) → Ok (self5 x0 x1 x2 x3 x4 S) (fun o => ZT o.2 ∧ A7 SZ o.2 ∧ ((0 : Int) ≤ o.1.toInt ∧ o.1.toInt ≤ (1 : Int)))) {x0 : Nat} {x1 : Nat} {x2 : Int32} {x6 : Int32} {t0 : Int32} {t1 : Int32} (hT : ZT S) (hR : A7 SZ S) (r_x0 : zK S x0 = 5) (r_x1 : zK S x1 = 0) (r_x2 : (0 : Int) ≤ x2.toInt ∧ x2.toInt ≤ (56 : Int)) (r_x6 : (0 : Int) ≤ x6.toInt ∧ x6.toInt ≤ (1 : Int)) (r_t0 : (1 : Int) ≤ t0.toInt ∧ t0.toInt ≤ (8 : Int)) (r_t1 : (0 : Int) ≤ t1.toInt ∧ t1.toInt ≤ (7 : Int)) (q0 : (zI S 1 x0).toInt < 90000) (m5 : (16 - t1.toInt) ≤ (N5 : Int)) : Ok (f_X5_readRank_105 self5 x0 x1 x2 x6 t0 t1 S) (fun o => ZT o.2 ∧ A7 SZ o.2 ∧ ((0 : Int) ≤ o.1.toInt ∧ o.1.toInt ≤ (1 : Int))) := by
  unfold f_X5_readRank_105
  have j6 := J_5_1 hT r_x0
  refine ok_bnd (fun v1 e7 => ?_)
  have t_v1 : v1.toInt = t1.toInt + t0.toInt := ti_add e7 rfl rfl (by omega) (by omega)
  refine ok_chk r_x0 ?_
  refine ok_bnd (fun v2 e8 => ?_)
  have t_v2 : v2.toInt = (zI S 1 x0).toInt + 1 := ti_add e8 rfl (show (1 : Int32).toInt = 1 from rfl) (by omega) (by omega)
  refine ok_chk r_x0 ?_
  refine ok_bnd (fun S3 e9 => ?_)
  have T_S3 : ZT S3 := e9.symm ▸ zt_I hT r_x0 (by decide) (show (0 : Int) ≤ v2.toInt ∧ v2.toInt ≤ (90100 : Int) from (by omega))
  have kE_S3 : zK S3 = zK S := by rw [e9]; rfl
  have nE_S3 : zN S3 = zN S := by rw [e9]; rfl
  have R_S3 : A7 SZ S3 := a7_I hR e9 r_x0 (by decide)
  have : (zI S3 1 x0).toInt = v2.toInt := by rw [e9]; exact (congrArg Int32.toInt (zI_self _ _ _ _)).trans rfl
  exact hself5 x0 x1 x2 x6 v1 S3 T_S3 R_S3 ((congrFun kE_S3 x0).trans r_x0) ((congrFun kE_S3 x1).trans r_x1) r_x2 r_x6 (by omega) (by omega)
theorem t_f_X5_readRank_89 {SZ S : ZS} {self5 : Nat → Nat → Int32 → Int32 → Int32 → ZS → Option (Int32 × ZS)} {N5 : Nat} (hself5 : ∀ (x0 : Nat) (x1 : Nat) (x2 : Int32) (x3 : Int32) (x4 : Int32) (S : ZS), ZT S → A7 SZ S → (zK S x0 = 5) → (zK S x1 = 0) → ((0 : Int) ≤ x2.toInt ∧ x2.toInt ≤ (56 : Int)) → ((0 : Int) ≤ x3.toInt ∧ x3.toInt ≤ (1 : Int)) → ((0 : Int) ≤ x4.toInt ∧ x4.toInt ≤ (15 : Int)) → (16 - x4.toInt) < (N5 : Int) → Ok (self5 x0 x1 x2 x3 x4 S) (fun o => ZT o.2 ∧ A7 SZ o.2 ∧ ((0 : Int) ≤ o.1.toInt ∧ o.1.toInt ≤ (1 : Int)))) {x0 : Nat} {x1 : Nat} {x2 : Int32} {x4 : Int32} {x5 : Int32} {x6 : Int32} (hT : ZT S) (hR : A7 SZ S) (r_x0 : zK S x0 = 5) (r_x1 : zK S x1 = 0) (r_x2 : (0 : Int) ≤ x2.toInt ∧ x2.toInt ≤ (56 : Int)) (r_x4 : (0 : Int) ≤ x4.toInt ∧ x4.toInt ≤ (7 : Int)) (r_x5 : (0 : Int) ≤ x5.toInt ∧ x5.toInt ≤ (65535 : Int)) (r_x6 : (0 : Int) ≤ x6.toInt ∧ x6.toInt ≤ (1 : Int)) (q0 : (zI S 1 x0).toInt < 90000) (q1 : (x6.toInt = 1 → 49 ≤ x5.toInt ∧ x5.toInt ≤ 56)) (m5 : (16 - x4.toInt) ≤ (N5 : Int)) : Ok (f_X5_readRank_89 self5 x0 x1 x2 x4 x5 x6 S) (fun o => ZT o.2 ∧ A7 SZ o.2 ∧ ((0 : Int) ≤ o.1.toInt ∧ o.1.toInt ≤ (1 : Int))) := by
  unfold f_X5_readRank_89
  have j10 := J_5_1 hT r_x0
  refine ok_if (fun c11 => ?_) (fun c11 => ?_)
  ·
    replace c11 := ti_eqP (a := x6) (b := (0 : Int32)) c11 rfl (show (0 : Int32).toInt = 0 from rfl)
    exact t_f_X5_readRank_105 (S := S) hself5 (x0 := x0) (x1 := x1) (x2 := x2) (x6 := x6) (t0 := (1 : Int32)) (t1 := x4) hT hR r_x0 r_x1 r_x2 r_x6 (by decide) r_x4 q0 m5
  ·
    replace c11 := ti_eqN (a := x6) (b := (0 : Int32)) c11 rfl (show (0 : Int32).toInt = 0 from rfl)
    refine ok_bnd (fun v1 e12 => ?_)
    have t_v1 : v1.toInt = x5.toInt - 48 := ti_sub e12 rfl (show (48 : Int32).toInt = 48 from rfl) (by omega) (by omega)
    exact t_f_X5_readRank_105 (S := S) hself5 (x0 := x0) (x1 := x1) (x2 := x2) (x6 := x6) (t0 := v1) (t1 := x4) hT hR r_x0 r_x1 r_x2 r_x6 (by omega) r_x4 q0 m5
theorem t_f_X5_readRank_74 {SZ S : ZS} {self5 : Nat → Nat → Int32 → Int32 → Int32 → ZS → Option (Int32 × ZS)} {N5 : Nat} (hself5 : ∀ (x0 : Nat) (x1 : Nat) (x2 : Int32) (x3 : Int32) (x4 : Int32) (S : ZS), ZT S → A7 SZ S → (zK S x0 = 5) → (zK S x1 = 0) → ((0 : Int) ≤ x2.toInt ∧ x2.toInt ≤ (56 : Int)) → ((0 : Int) ≤ x3.toInt ∧ x3.toInt ≤ (1 : Int)) → ((0 : Int) ≤ x4.toInt ∧ x4.toInt ≤ (15 : Int)) → (16 - x4.toInt) < (N5 : Int) → Ok (self5 x0 x1 x2 x3 x4 S) (fun o => ZT o.2 ∧ A7 SZ o.2 ∧ ((0 : Int) ≤ o.1.toInt ∧ o.1.toInt ≤ (1 : Int)))) {x0 : Nat} {x1 : Nat} {x2 : Int32} {x4 : Int32} {x5 : Int32} {x6 : Int32} {x7 : Int32} (hT : ZT S) (hR : A7 SZ S) (r_x0 : zK S x0 = 5) (r_x1 : zK S x1 = 0) (r_x2 : (0 : Int) ≤ x2.toInt ∧ x2.toInt ≤ (56 : Int)) (r_x4 : (0 : Int) ≤ x4.toInt ∧ x4.toInt ≤ (7 : Int)) (r_x5 : (0 : Int) ≤ x5.toInt ∧ x5.toInt ≤ (65535 : Int)) (r_x6 : (0 : Int) ≤ x6.toInt ∧ x6.toInt ≤ (1 : Int)) (r_x7 : (0 : Int) ≤ x7.toInt ∧ x7.toInt ≤ (30 : Int)) (q0 : (zI S 1 x0).toInt < 90000) (q1 : (x6.toInt = 1 → 49 ≤ x5.toInt ∧ x5.toInt ≤ 56)) (m5 : (16 - x4.toInt) ≤ (N5 : Int)) : Ok (f_X5_readRank_74 self5 x0 x1 x2 x4 x5 x6 x7 S) (fun o => ZT o.2 ∧ A7 SZ o.2 ∧ ((0 : Int) ≤ o.1.toInt ∧ o.1.toInt ≤ (1 : Int))) := by
  unfold f_X5_readRank_74
  have j13 := J_5_1 hT r_x0
  refine ok_if (fun c14 => ?_) (fun c14 => ?_)
  ·
    replace c14 := ti_eqP (a := x6) (b := (0 : Int32)) c14 rfl (show (0 : Int32).toInt = 0 from rfl)
    refine ok_bnd (fun v1 e15 => ?_)
    have t_v1 : v1.toInt = x2.toInt + x4.toInt := ti_add e15 rfl rfl (by omega) (by omega)
    refine ok_chk r_x1 ?_
    obtain ⟨⟨r2, S2⟩, h_r2, T_S2, A_S2, -⟩ := t_f_X0_put (x0 := x1) (x1 := v1) (x2 := x7) (SZ := S) hT (a7_0 S) r_x1 (by omega)
    replace T_S2 : ZT S2 := T_S2
    replace A_S2 : A7 S S2 := A_S2
    refine ok_calR h_r2 ?_
    have q_S2 := fq_X0_put h_r2
    have kE_S2 : zK S2 = zK S := q_S2.2.2.1
    have nE_S2 : zN S2 = zN S := q_S2.2.2.2.1
    have R_S2 : A7 SZ S2 := a7_t hR A_S2
    have : (zI S2 1 x0).toInt = (zI S 1 x0).toInt := congrArg Int32.toInt ((((fz_X0_put h_r2) hT.2.2.2.2.1).2.2 x0 (by rw [r_x0]; decide)).2.2.1 1 (by rw [r_x0]; decide))
    have j16 := J_5_1 T_S2 ((congrFun kE_S2 x0).trans r_x0)
    exact t_f_X5_readRank_89 (S := S2) hself5 (x0 := x0) (x1 := x1) (x2 := x2) (x4 := x4) (x5 := x5) (x6 := x6) T_S2 R_S2 ((congrFun kE_S2 x0).trans r_x0) ((congrFun kE_S2 x1).trans r_x1) r_x2 r_x4 r_x5 r_x6 (by omega) q1 m5
  ·
    replace c14 := ti_eqN (a := x6) (b := (0 : Int32)) c14 rfl (show (0 : Int32).toInt = 0 from rfl)
    exact t_f_X5_readRank_89 (S := S) hself5 (x0 := x0) (x1 := x1) (x2 := x2) (x4 := x4) (x5 := x5) (x6 := x6) hT hR r_x0 r_x1 r_x2 r_x4 r_x5 r_x6 q0 q1 m5
theorem t_f_X5_readRank_53 {SZ S : ZS} {self5 : Nat → Nat → Int32 → Int32 → Int32 → ZS → Option (Int32 × ZS)} {N5 : Nat} (hself5 : ∀ (x0 : Nat) (x1 : Nat) (x2 : Int32) (x3 : Int32) (x4 : Int32) (S : ZS), ZT S → A7 SZ S → (zK S x0 = 5) → (zK S x1 = 0) → ((0 : Int) ≤ x2.toInt ∧ x2.toInt ≤ (56 : Int)) → ((0 : Int) ≤ x3.toInt ∧ x3.toInt ≤ (1 : Int)) → ((0 : Int) ≤ x4.toInt ∧ x4.toInt ≤ (15 : Int)) → (16 - x4.toInt) < (N5 : Int) → Ok (self5 x0 x1 x2 x3 x4 S) (fun o => ZT o.2 ∧ A7 SZ o.2 ∧ ((0 : Int) ≤ o.1.toInt ∧ o.1.toInt ≤ (1 : Int)))) {x0 : Nat} {x1 : Nat} {x2 : Int32} {x3 : Int32} {x4 : Int32} {x5 : Int32} {x6 : Int32} {t0 : Int32} (hT : ZT S) (hR : A7 SZ S) (r_x0 : zK S x0 = 5) (r_x1 : zK S x1 = 0) (r_x2 : (0 : Int) ≤ x2.toInt ∧ x2.toInt ≤ (56 : Int)) (r_x3 : (0 : Int) ≤ x3.toInt ∧ x3.toInt ≤ (1 : Int)) (r_x4 : (0 : Int) ≤ x4.toInt ∧ x4.toInt ≤ (7 : Int)) (r_x5 : (0 : Int) ≤ x5.toInt ∧ x5.toInt ≤ (65535 : Int)) (r_x6 : (0 : Int) ≤ x6.toInt ∧ x6.toInt ≤ (1 : Int)) (r_t0 : (0 : Int) ≤ t0.toInt ∧ t0.toInt ≤ (30 : Int)) (q0 : (x6.toInt = 1 → 49 ≤ x5.toInt ∧ x5.toInt ≤ 56)) (q1 : (t0.toInt = 0 ∨ 0 < x5.toInt)) (q2 : (0 < x5.toInt → (zI S 1 x0).toInt < 90000)) (m5 : (16 - x4.toInt) ≤ (N5 : Int)) : Ok (f_X5_readRank_53 self5 x0 x1 x2 x3 x4 x5 x6 t0 S) (fun o => ZT o.2 ∧ A7 SZ o.2 ∧ ((0 : Int) ≤ o.1.toInt ∧ o.1.toInt ≤ (1 : Int))) := by
  unfold f_X5_readRank_53
  have j17 := J_5_1 hT r_x0
  refine ok_if (fun c18 => ?_) (fun c18 => ?_)
  ·
    replace c18 := ti_eqP (a := x6) (b := (0 : Int32)) c18 rfl (show (0 : Int32).toInt = 0 from rfl)
    refine ok_if (fun c19 => ?_) (fun c19 => ?_)
    ·
      replace c19 := ti_eqP (a := t0) (b := (0 : Int32)) c19 rfl (show (0 : Int32).toInt = 0 from rfl)
      unfold f_X5_readRank_72
      refine ok_chk (by decide) ?_
      exact ok_ret ⟨hT, hR, (show (0 : Int) ≤ (0 : Int32).toInt ∧ (0 : Int32).toInt ≤ (1 : Int) from (by decide))⟩
    ·
      replace c19 := ti_eqN (a := t0) (b := (0 : Int32)) c19 rfl (show (0 : Int32).toInt = 0 from rfl)
      exact t_f_X5_readRank_74 (S := S) hself5 (x0 := x0) (x1 := x1) (x2 := x2) (x4 := x4) (x5 := x5) (x6 := x6) (x7 := t0) hT hR r_x0 r_x1 r_x2 r_x4 r_x5 r_x6 r_t0 (by omega) q0 m5
  ·
    replace c18 := ti_eqN (a := x6) (b := (0 : Int32)) c18 rfl (show (0 : Int32).toInt = 0 from rfl)
    refine ok_if (fun c20 => ?_) (fun c20 => ?_)
    ·
      replace c20 := ti_eqP (a := x3) (b := (0 : Int32)) c20 rfl (show (0 : Int32).toInt = 0 from rfl)
      exact t_f_X5_readRank_74 (S := S) hself5 (x0 := x0) (x1 := x1) (x2 := x2) (x4 := x4) (x5 := x5) (x6 := x6) (x7 := t0) hT hR r_x0 r_x1 r_x2 r_x4 r_x5 r_x6 r_t0 (by omega) q0 m5
    ·
      replace c20 := ti_eqN (a := x3) (b := (0 : Int32)) c20 rfl (show (0 : Int32).toInt = 0 from rfl)
      unfold f_X5_readRank_72
      refine ok_chk (by decide) ?_
      exact ok_ret ⟨hT, hR, (show (0 : Int) ≤ (0 : Int32).toInt ∧ (0 : Int32).toInt ≤ (1 : Int) from (by decide))⟩
theorem t_f_X5_readRank_5s {SZ S : ZS} {self5 : Nat → Nat → Int32 → Int32 → Int32 → ZS → Option (Int32 × ZS)} {N5 : Nat} (hself5 : ∀ (x0 : Nat) (x1 : Nat) (x2 : Int32) (x3 : Int32) (x4 : Int32) (S : ZS), ZT S → A7 SZ S → (zK S x0 = 5) → (zK S x1 = 0) → ((0 : Int) ≤ x2.toInt ∧ x2.toInt ≤ (56 : Int)) → ((0 : Int) ≤ x3.toInt ∧ x3.toInt ≤ (1 : Int)) → ((0 : Int) ≤ x4.toInt ∧ x4.toInt ≤ (15 : Int)) → (16 - x4.toInt) < (N5 : Int) → Ok (self5 x0 x1 x2 x3 x4 S) (fun o => ZT o.2 ∧ A7 SZ o.2 ∧ ((0 : Int) ≤ o.1.toInt ∧ o.1.toInt ≤ (1 : Int)))) {x0 : Nat} {x1 : Nat} {x2 : Int32} {x3 : Int32} {x4 : Int32} (hT : ZT S) (hR : A7 SZ S) (r_x0 : zK S x0 = 5) (r_x1 : zK S x1 = 0) (r_x2 : (0 : Int) ≤ x2.toInt ∧ x2.toInt ≤ (56 : Int)) (r_x3 : (0 : Int) ≤ x3.toInt ∧ x3.toInt ≤ (1 : Int)) (r_x4 : (0 : Int) ≤ x4.toInt ∧ x4.toInt ≤ (15 : Int)) (m5 : (16 - x4.toInt) ≤ (N5 : Int)) : Ok (f_X5_readRank_5s self5 x0 x1 x2 x3 x4 S) (fun o => ZT o.2 ∧ A7 SZ o.2 ∧ ((0 : Int) ≤ o.1.toInt ∧ o.1.toInt ≤ (1 : Int))) := by
  unfold f_X5_readRank_5s
  have j21 := J_5_1 hT r_x0
  refine ok_if (fun c22 => ?_) (fun c22 => ?_)
  ·
    replace c22 := ti_leP (a := (8 : Int32)) (b := x4) c22 (show (8 : Int32).toInt = 8 from rfl) rfl
    refine ok_if (fun c23 => ?_) (fun c23 => ?_)
    ·
      replace c23 := ti_eqP (a := x4) (b := (8 : Int32)) c23 rfl (show (8 : Int32).toInt = 8 from rfl)
      unfold f_X5_readRank_136
      refine ok_chk (by decide) ?_
      exact ok_ret ⟨hT, hR, (show (0 : Int) ≤ (1 : Int32).toInt ∧ (1 : Int32).toInt ≤ (1 : Int) from (by decide))⟩
    ·
      replace c23 := ti_eqN (a := x4) (b := (8 : Int32)) c23 rfl (show (8 : Int32).toInt = 8 from rfl)
      unfold f_X5_readRank_136
      refine ok_chk (by decide) ?_
      exact ok_ret ⟨hT, hR, (show (0 : Int) ≤ (0 : Int32).toInt ∧ (0 : Int32).toInt ≤ (1 : Int) from (by decide))⟩
  ·
    replace c22 := ti_leN (a := (8 : Int32)) (b := x4) c22 (show (8 : Int32).toInt = 8 from rfl) rfl
    refine ok_chk r_x0 ?_
    obtain ⟨b1, p_b1, k_b1, c_b1⟩ := T_5_0 hT r_x0
    refine ok_calR p_b1 ?_
    refine ok_chk r_x0 ?_
    refine ok_chk k_b1 ?_
    have j24 := J61_2 hT k_b1 c_b1
    obtain ⟨r2, h_r2, p_r2⟩ := roz (t_f_X6_at (x0 := b1) (x1 := (zI S 1 x0)) hT k_b1)
    dsimp only at p_r2
    refine ok_calR h_r2 ?_
    obtain ⟨r3, h_r3, p_r3⟩ := roz (t_f_X11_isRank (x0 := r2) hT )
    dsimp only at p_r3
    refine ok_calR h_r3 ?_
    obtain ⟨r4, h_r4, p_r4⟩ := roz (t_f_X11_isLetter (x0 := r2) hT )
    dsimp only at p_r4
    refine ok_calR h_r4 ?_
    refine ok_if (fun c25 => ?_) (fun c25 => ?_)
    ·
      replace c25 := ti_eqP (a := r4) (b := (0 : Int32)) c25 rfl (show (0 : Int32).toInt = 0 from rfl)
      exact t_f_X5_readRank_53 (S := S) hself5 (x0 := x0) (x1 := x1) (x2 := x2) (x3 := x3) (x4 := x4) (x5 := r2) (x6 := r3) (t0 := (0 : Int32)) hT hR r_x0 r_x1 r_x2 r_x3 (by omega) (by omega) (by omega) (by decide) (by have z0 : (0 : Int32).toInt = 0 := rfl; omega) (by have z0 : (0 : Int32).toInt = 0 := rfl; omega) (by have z0 : (0 : Int32).toInt = 0 := rfl; omega) m5
    ·
      replace c25 := ti_eqN (a := r4) (b := (0 : Int32)) c25 rfl (show (0 : Int32).toInt = 0 from rfl)
      refine ok_chk (by decide) ?_
      obtain ⟨r5, h_r5, p_r5⟩ := roz (t_f_J0_indexOf_0f7a4 (x0 := 1) (x1 := r2) hT (by decide))
      dsimp only at p_r5
      refine ok_calR h_r5 ?_
      refine ok_bnd (fun v6 e26 => ?_)
      have t_v6 : v6.toInt = r5.toInt + 1 := ti_add e26 rfl (show (1 : Int32).toInt = 1 from rfl) (by omega) (by omega)
      exact t_f_X5_readRank_53 (S := S) hself5 (x0 := x0) (x1 := x1) (x2 := x2) (x3 := x3) (x4 := x4) (x5 := r2) (x6 := r3) (t0 := v6) hT hR r_x0 r_x1 r_x2 r_x3 (by omega) (by omega) (by omega) (by omega) (by omega) (by omega) (by omega) m5
theorem t_f_X5_readRank_5 {SZ : ZS} : ∀ (n : Nat) (x0 : Nat) (x1 : Nat) (x2 : Int32) (x3 : Int32) (x4 : Int32) (S : ZS), ZT S → A7 SZ S → (zK S x0 = 5) → (zK S x1 = 0) → ((0 : Int) ≤ x2.toInt ∧ x2.toInt ≤ (56 : Int)) → ((0 : Int) ≤ x3.toInt ∧ x3.toInt ≤ (1 : Int)) → ((0 : Int) ≤ x4.toInt ∧ x4.toInt ≤ (15 : Int)) → (16 - x4.toInt) < (n : Int) → Ok (f_X5_readRank_5  n x0 x1 x2 x3 x4 S) (fun o => ZT o.2 ∧ A7 SZ o.2 ∧ ((0 : Int) ≤ o.1.toInt ∧ o.1.toInt ≤ (1 : Int))) := by
  intro n
  induction n with
  | zero => intro x0 x1 x2 x3 x4 S hT hR g0 g1 g2 g3 g4  hm; exfalso; omega
  | succ n ih =>
    intro x0 x1 x2 x3 x4 S hT hR g0 g1 g2 g3 g4  hm
    exact t_f_X5_readRank_5s (N5 := n)  ih hT hR g0 g1 g2 g3 g4  (by omega)
theorem t_f_X5_readRank_0 {SZ S : ZS} {x0 : Nat} {x1 : Nat} {x2 : Int32} (hT : ZT S) (hR : A7 SZ S) (r_x0 : zK S x0 = 5) (r_x1 : zK S x1 = 0) (r_x2 : (0 : Int) ≤ x2.toInt ∧ x2.toInt ≤ (56 : Int)) : Ok (f_X5_readRank_0 x0 x1 x2 S) (fun o => ZT o.2 ∧ A7 SZ o.2 ∧ ((0 : Int) ≤ o.1.toInt ∧ o.1.toInt ≤ (1 : Int))) := by
  unfold f_X5_readRank_0
  have j27 := J_5_1 hT r_x0
  exact t_f_X5_readRank_5   mFuel x0 x1 x2 (0 : Int32) (0 : Int32) S hT hR r_x0 r_x1 r_x2 (by decide) (by decide) (by show _ < ((200000 : Nat) : Int); have z0 : (0 : Int32).toInt = 0 := rfl; have z1 : (0 : Int32).toInt = 0 := rfl; omega)
theorem t_f_X5_readRank {SZ S : ZS} {x0 : Nat} {x1 : Nat} {x2 : Int32} (hT : ZT S) (hR : A7 SZ S) (r_x0 : zK S x0 = 5) (r_x1 : zK S x1 = 0) (r_x2 : (0 : Int) ≤ x2.toInt ∧ x2.toInt ≤ (56 : Int)) : Ok (f_X5_readRank x0 x1 x2 S) (fun o => ZT o.2 ∧ A7 SZ o.2 ∧ ((0 : Int) ≤ o.1.toInt ∧ o.1.toInt ≤ (1 : Int))) := t_f_X5_readRank_0 hT hR r_x0 r_x1 r_x2
theorem t_f_X5_readMen_22 {SZ S : ZS} {self3 : Nat → Nat → Int32 → ZS → Option (Int32 × ZS)} {N3 : Nat} (hself3 : ∀ (x0 : Nat) (x1 : Nat) (x2 : Int32) (S : ZS), ZT S → A7 SZ S → (zK S x0 = 5) → (zK S x1 = 0) → ((-1 : Int) ≤ x2.toInt ∧ x2.toInt ≤ (7 : Int)) → (x2.toInt + 2) < (N3 : Int) → Ok (self3 x0 x1 x2 S) (fun o => ZT o.2 ∧ A7 SZ o.2 ∧ ((0 : Int) ≤ o.1.toInt ∧ o.1.toInt ≤ (1 : Int)))) {x0 : Nat} {x1 : Nat} {x2 : Int32} (hT : ZT S) (hR : A7 SZ S) (r_x0 : zK S x0 = 5) (r_x1 : zK S x1 = 0) (r_x2 : (0 : Int) ≤ x2.toInt ∧ x2.toInt ≤ (7 : Int)) (m3 : (x2.toInt + 2) ≤ (N3 : Int)) : Ok (f_X5_readMen_22 self3 x0 x1 x2 S) (fun o => ZT o.2 ∧ A7 SZ o.2 ∧ ((0 : Int) ≤ o.1.toInt ∧ o.1.toInt ≤ (1 : Int))) := by
  unfold f_X5_readMen_22
  refine ok_bnd (fun v1 e28 => ?_)
  have t_v1 : v1.toInt = 8 * x2.toInt := ti_mul e28 (show (8 : Int32).toInt = 8 from rfl) rfl (by omega) (by omega)
  refine ok_chk r_x0 ?_
  obtain ⟨⟨r2, S2⟩, h_r2, T_S2, A_S2, p_r2⟩ := t_f_X5_readRank (x0 := x0) (x1 := x1) (x2 := v1) (SZ := S) hT (a7_0 S) r_x0 r_x1 (by omega)
  replace T_S2 : ZT S2 := T_S2
  replace A_S2 : A7 S S2 := A_S2
  dsimp only at p_r2
  refine ok_calR h_r2 ?_
  have q_S2 := fq_X5_readRank h_r2
  have kE_S2 : zK S2 = zK S := q_S2.2.2.1
  have nE_S2 : zN S2 = zN S := q_S2.2.2.2.1
  have R_S2 : A7 SZ S2 := a7_t hR A_S2
  refine ok_if (fun c29 => ?_) (fun c29 => ?_)
  ·
    replace c29 := ti_eqP (a := r2) (b := (0 : Int32)) c29 rfl (show (0 : Int32).toInt = 0 from rfl)
    unfold f_X5_readMen_34
    refine ok_chk (by decide) ?_
    exact ok_ret ⟨T_S2, R_S2, (show (0 : Int) ≤ (0 : Int32).toInt ∧ (0 : Int32).toInt ≤ (1 : Int) from (by decide))⟩
  ·
    replace c29 := ti_eqN (a := r2) (b := (0 : Int32)) c29 rfl (show (0 : Int32).toInt = 0 from rfl)
    refine ok_bnd (fun v3 e30 => ?_)
    have t_v3 : v3.toInt = x2.toInt + (-1) := ti_add e30 rfl (show (-1 : Int32).toInt = -1 from rfl) (by omega) (by omega)
    exact hself3 x0 x1 v3 S2 T_S2 R_S2 ((congrFun kE_S2 x0).trans r_x0) ((congrFun kE_S2 x1).trans r_x1) (by omega) (by omega)
theorem t_f_X5_readMen_3s {SZ S : ZS} {self3 : Nat → Nat → Int32 → ZS → Option (Int32 × ZS)} {N3 : Nat} (hself3 : ∀ (x0 : Nat) (x1 : Nat) (x2 : Int32) (S : ZS), ZT S → A7 SZ S → (zK S x0 = 5) → (zK S x1 = 0) → ((-1 : Int) ≤ x2.toInt ∧ x2.toInt ≤ (7 : Int)) → (x2.toInt + 2) < (N3 : Int) → Ok (self3 x0 x1 x2 S) (fun o => ZT o.2 ∧ A7 SZ o.2 ∧ ((0 : Int) ≤ o.1.toInt ∧ o.1.toInt ≤ (1 : Int)))) {x0 : Nat} {x1 : Nat} {x2 : Int32} (hT : ZT S) (hR : A7 SZ S) (r_x0 : zK S x0 = 5) (r_x1 : zK S x1 = 0) (r_x2 : (-1 : Int) ≤ x2.toInt ∧ x2.toInt ≤ (7 : Int)) (m3 : (x2.toInt + 2) ≤ (N3 : Int)) : Ok (f_X5_readMen_3s self3 x0 x1 x2 S) (fun o => ZT o.2 ∧ A7 SZ o.2 ∧ ((0 : Int) ≤ o.1.toInt ∧ o.1.toInt ≤ (1 : Int))) := by
  unfold f_X5_readMen_3s
  refine ok_if (fun c31 => ?_) (fun c31 => ?_)
  ·
    replace c31 := ti_ltP (a := x2) (b := (0 : Int32)) c31 rfl (show (0 : Int32).toInt = 0 from rfl)
    refine ok_chk (by decide) ?_
    exact ok_ret ⟨hT, hR, (show (0 : Int) ≤ (1 : Int32).toInt ∧ (1 : Int32).toInt ≤ (1 : Int) from (by decide))⟩
  ·
    replace c31 := ti_ltN (a := x2) (b := (0 : Int32)) c31 rfl (show (0 : Int32).toInt = 0 from rfl)
    refine ok_if (fun c32 => ?_) (fun c32 => ?_)
    ·
      replace c32 := ti_leP (a := (7 : Int32)) (b := x2) c32 (show (7 : Int32).toInt = 7 from rfl) rfl
      exact t_f_X5_readMen_22 (S := S) hself3 (x0 := x0) (x1 := x1) (x2 := x2) hT hR r_x0 r_x1 (by omega) m3
    ·
      replace c32 := ti_leN (a := (7 : Int32)) (b := x2) c32 (show (7 : Int32).toInt = 7 from rfl) rfl
      refine ok_chk r_x0 ?_
      have zl33 : (47 : Int32).toInt = 47 := rfl
      have j34 := J_5_1 hT r_x0
      obtain ⟨⟨r1, S1⟩, h_r1, T_S1, A_S1, p_r1, p_r1_0, p_r1_1⟩ := t_f_X5_skip (x0 := x0) (x1 := (47 : Int32)) (SZ := S) hT (a7_0 S) r_x0 (by have z0 : (47 : Int32).toInt = 47 := rfl; omega)
      replace T_S1 : ZT S1 := T_S1
      replace A_S1 : A7 S S1 := A_S1
      dsimp only at p_r1 p_r1_0 p_r1_1
      refine ok_calR h_r1 ?_
      have q_S1 := fq_X5_skip h_r1
      have kE_S1 : zK S1 = zK S := q_S1.2.2.1
      have nE_S1 : zN S1 = zN S := q_S1.2.2.2.1
      have R_S1 : A7 SZ S1 := a7_t hR A_S1
      refine ok_if (fun c35 => ?_) (fun c35 => ?_)
      ·
        replace c35 := ti_eqP (a := r1) (b := (0 : Int32)) c35 rfl (show (0 : Int32).toInt = 0 from rfl)
        unfold f_X5_readMen_34
        refine ok_chk (by decide) ?_
        exact ok_ret ⟨T_S1, R_S1, (show (0 : Int) ≤ (0 : Int32).toInt ∧ (0 : Int32).toInt ≤ (1 : Int) from (by decide))⟩
      ·
        replace c35 := ti_eqN (a := r1) (b := (0 : Int32)) c35 rfl (show (0 : Int32).toInt = 0 from rfl)
        exact t_f_X5_readMen_22 (S := S1) hself3 (x0 := x0) (x1 := x1) (x2 := x2) T_S1 R_S1 ((congrFun kE_S1 x0).trans r_x0) ((congrFun kE_S1 x1).trans r_x1) (by omega) m3
theorem t_f_X5_readMen_3 {SZ : ZS} : ∀ (n : Nat) (x0 : Nat) (x1 : Nat) (x2 : Int32) (S : ZS), ZT S → A7 SZ S → (zK S x0 = 5) → (zK S x1 = 0) → ((-1 : Int) ≤ x2.toInt ∧ x2.toInt ≤ (7 : Int)) → (x2.toInt + 2) < (n : Int) → Ok (f_X5_readMen_3  n x0 x1 x2 S) (fun o => ZT o.2 ∧ A7 SZ o.2 ∧ ((0 : Int) ≤ o.1.toInt ∧ o.1.toInt ≤ (1 : Int))) := by
  intro n
  induction n with
  | zero => intro x0 x1 x2 S hT hR g0 g1 g2  hm; exfalso; omega
  | succ n ih =>
    intro x0 x1 x2 S hT hR g0 g1 g2  hm
    exact t_f_X5_readMen_3s (N3 := n)  ih hT hR g0 g1 g2  (by omega)
theorem t_f_X5_readMen_0 {SZ S : ZS} {x0 : Nat} {x1 : Nat} (hT : ZT S) (hR : A7 SZ S) (r_x0 : zK S x0 = 5) (r_x1 : zK S x1 = 0) : Ok (f_X5_readMen_0 x0 x1 S) (fun o => ZT o.2 ∧ A7 SZ o.2 ∧ ((0 : Int) ≤ o.1.toInt ∧ o.1.toInt ≤ (1 : Int))) := by
  unfold f_X5_readMen_0
  exact t_f_X5_readMen_3   mFuel x0 x1 (7 : Int32) S hT hR r_x0 r_x1 (by decide) (by show _ < ((200000 : Nat) : Int); have z0 : (7 : Int32).toInt = 7 := rfl; omega)
theorem t_f_X5_readMen {SZ S : ZS} {x0 : Nat} {x1 : Nat} (hT : ZT S) (hR : A7 SZ S) (r_x0 : zK S x0 = 5) (r_x1 : zK S x1 = 0) : Ok (f_X5_readMen x0 x1 S) (fun o => ZT o.2 ∧ A7 SZ o.2 ∧ ((0 : Int) ≤ o.1.toInt ∧ o.1.toInt ≤ (1 : Int))) := t_f_X5_readMen_0 hT hR r_x0 r_x1
theorem t_f_X5_readSide_22 {SZ S : ZS} {x0 : Nat} {t0 : Int32} {t1 : Nat} (hT : ZT S) (hR : A7 SZ S) (r_x0 : zK S x0 = 5) (r_t0 : (0 : Int) ≤ t0.toInt ∧ t0.toInt ≤ (1 : Int)) (r_t1 : zK S t1 = 0) : Ok (f_X5_readSide_22 x0 t0 t1 S) (fun o => ZT o.2 ∧ A7 SZ o.2 ∧ ((0 : Int) ≤ o.1.toInt ∧ o.1.toInt ≤ (1 : Int))) := by
  unfold f_X5_readSide_22
  refine ok_chk r_t1 ?_
  refine ok_bnd (fun S1 e36 => ?_)
  have T_S1 : ZT S1 := e36.symm ▸ zt_I hT r_t1 (by decide) (show (0 : Int) ≤ t0.toInt ∧ t0.toInt ≤ (1 : Int) from (by omega))
  have kE_S1 : zK S1 = zK S := by rw [e36]; rfl
  have nE_S1 : zN S1 = zN S := by rw [e36]; rfl
  have R_S1 : A7 SZ S1 := a7_I hR e36 r_t1 (by decide)
  refine ok_chk ((congrFun kE_S1 x0).trans r_x0) ?_
  have zl37 : (119 : Int32).toInt = 119 := rfl
  have j38 := J_5_1 T_S1 ((congrFun kE_S1 x0).trans r_x0)
  obtain ⟨⟨r2, S2⟩, h_r2, T_S2, A_S2, p_r2, p_r2_0, p_r2_1⟩ := t_f_X5_skip (x0 := x0) (x1 := (119 : Int32)) (SZ := S1) T_S1 (a7_0 S1) ((congrFun kE_S1 x0).trans r_x0) (by have z0 : (119 : Int32).toInt = 119 := rfl; omega)
  replace T_S2 : ZT S2 := T_S2
  replace A_S2 : A7 S1 S2 := A_S2
  dsimp only at p_r2 p_r2_0 p_r2_1
  refine ok_calR h_r2 ?_
  have q_S2 := fq_X5_skip h_r2
  have kE_S2 : zK S2 = zK S1 := q_S2.2.2.1
  have nE_S2 : zN S2 = zN S1 := q_S2.2.2.2.1
  have R_S2 : A7 SZ S2 := a7_t R_S1 A_S2
  refine ok_if (fun c39 => ?_) (fun c39 => ?_)
  ·
    replace c39 := ti_eqP (a := r2) (b := (0 : Int32)) c39 rfl (show (0 : Int32).toInt = 0 from rfl)
    refine ok_chk ((congrFun kE_S2 x0).trans ((congrFun kE_S1 x0).trans r_x0)) ?_
    have zl40 : (98 : Int32).toInt = 98 := rfl
    have j41 := J_5_1 T_S2 ((congrFun kE_S2 x0).trans ((congrFun kE_S1 x0).trans r_x0))
    obtain ⟨⟨r3, S3⟩, h_r3, T_S3, A_S3, p_r3, p_r3_0, p_r3_1⟩ := t_f_X5_skip (x0 := x0) (x1 := (98 : Int32)) (SZ := S2) T_S2 (a7_0 S2) ((congrFun kE_S2 x0).trans ((congrFun kE_S1 x0).trans r_x0)) (by have z0 : (98 : Int32).toInt = 98 := rfl; omega)
    replace T_S3 : ZT S3 := T_S3
    replace A_S3 : A7 S2 S3 := A_S3
    dsimp only at p_r3 p_r3_0 p_r3_1
    refine ok_calR h_r3 ?_
    have q_S3 := fq_X5_skip h_r3
    have kE_S3 : zK S3 = zK S2 := q_S3.2.2.1
    have nE_S3 : zN S3 = zN S2 := q_S3.2.2.2.1
    have R_S3 : A7 SZ S3 := a7_t R_S2 A_S3
    refine ok_if (fun c42 => ?_) (fun c42 => ?_)
    ·
      replace c42 := ti_eqP (a := r3) (b := (0 : Int32)) c42 rfl (show (0 : Int32).toInt = 0 from rfl)
      unfold f_X5_readSide_48
      refine ok_chk (by decide) ?_
      exact ok_ret ⟨T_S3, R_S3, (show (0 : Int) ≤ (0 : Int32).toInt ∧ (0 : Int32).toInt ≤ (1 : Int) from (by decide))⟩
    ·
      replace c42 := ti_eqN (a := r3) (b := (0 : Int32)) c42 rfl (show (0 : Int32).toInt = 0 from rfl)
      unfold f_X5_readSide_43
      unfold f_X5_readSide_48
      refine ok_chk (by decide) ?_
      exact ok_ret ⟨T_S3, R_S3, (show (0 : Int) ≤ (1 : Int32).toInt ∧ (1 : Int32).toInt ≤ (1 : Int) from (by decide))⟩
  ·
    replace c39 := ti_eqN (a := r2) (b := (0 : Int32)) c39 rfl (show (0 : Int32).toInt = 0 from rfl)
    unfold f_X5_readSide_43
    unfold f_X5_readSide_48
    refine ok_chk (by decide) ?_
    exact ok_ret ⟨T_S2, R_S2, (show (0 : Int) ≤ (1 : Int32).toInt ∧ (1 : Int32).toInt ≤ (1 : Int) from (by decide))⟩
theorem t_f_X5_readSide_0 {SZ S : ZS} {x0 : Nat} {x1 : Nat} (hT : ZT S) (hR : A7 SZ S) (r_x0 : zK S x0 = 5) (r_x1 : zK S x1 = 0) : Ok (f_X5_readSide_0 x0 x1 S) (fun o => ZT o.2 ∧ A7 SZ o.2 ∧ ((0 : Int) ≤ o.1.toInt ∧ o.1.toInt ≤ (1 : Int))) := by
  unfold f_X5_readSide_0
  refine ok_chk r_x0 ?_
  obtain ⟨b1, p_b1, k_b1, c_b1⟩ := T_5_0 hT r_x0
  refine ok_calR p_b1 ?_
  refine ok_chk r_x0 ?_
  refine ok_chk k_b1 ?_
  have j43 := J61_2 hT k_b1 c_b1
  obtain ⟨r2, h_r2, p_r2⟩ := roz (t_f_X6_at (x0 := b1) (x1 := (zI S 1 x0)) hT k_b1)
  dsimp only at p_r2
  refine ok_calR h_r2 ?_
  refine ok_if (fun c44 => ?_) (fun c44 => ?_)
  ·
    replace c44 := ti_eqP (a := r2) (b := (98 : Int32)) c44 rfl (show (98 : Int32).toInt = 98 from rfl)
    exact t_f_X5_readSide_22 (S := S)  (x0 := x0) (t0 := (1 : Int32)) (t1 := x1) hT hR r_x0 (by decide) r_x1
  ·
    replace c44 := ti_eqN (a := r2) (b := (98 : Int32)) c44 rfl (show (98 : Int32).toInt = 98 from rfl)
    exact t_f_X5_readSide_22 (S := S)  (x0 := x0) (t0 := (0 : Int32)) (t1 := x1) hT hR r_x0 (by decide) r_x1
theorem t_f_X5_readSide {SZ S : ZS} {x0 : Nat} {x1 : Nat} (hT : ZT S) (hR : A7 SZ S) (r_x0 : zK S x0 = 5) (r_x1 : zK S x1 = 0) : Ok (f_X5_readSide x0 x1 S) (fun o => ZT o.2 ∧ A7 SZ o.2 ∧ ((0 : Int) ≤ o.1.toInt ∧ o.1.toInt ≤ (1 : Int))) := t_f_X5_readSide_0 hT hR r_x0 r_x1
theorem t_f_X5_readRights_13s {SZ S : ZS} {self13 : Nat → Nat → Int32 → ZS → Option (Int32 × ZS)} {N13 : Nat} (hself13 : ∀ (x0 : Nat) (x1 : Nat) (x2 : Int32) (S : ZS), ZT S → A7 SZ S → (zK S x0 = 5) → (zK S x1 = 0) → ((0 : Int) ≤ x2.toInt ∧ x2.toInt ≤ (4 : Int)) → ((zI S 1 x0).toInt ≤ 90001 + x2.toInt) → (5 - x2.toInt) < (N13 : Int) → Ok (self13 x0 x1 x2 S) (fun o => ZT o.2 ∧ A7 SZ o.2 ∧ ((0 : Int) ≤ o.1.toInt ∧ o.1.toInt ≤ (1 : Int)))) {x0 : Nat} {x1 : Nat} {x2 : Int32} (hT : ZT S) (hR : A7 SZ S) (r_x0 : zK S x0 = 5) (r_x1 : zK S x1 = 0) (r_x2 : (0 : Int) ≤ x2.toInt ∧ x2.toInt ≤ (4 : Int)) (q0 : (zI S 1 x0).toInt ≤ 90001 + x2.toInt) (m13 : (5 - x2.toInt) ≤ (N13 : Int)) : Ok (f_X5_readRights_13s self13 x0 x1 x2 S) (fun o => ZT o.2 ∧ A7 SZ o.2 ∧ ((0 : Int) ≤ o.1.toInt ∧ o.1.toInt ≤ (1 : Int))) := by
  unfold f_X5_readRights_13s
  have j45 := J_5_1 hT r_x0
  refine ok_chk (by decide) ?_
  obtain ⟨r1, h_r1, p_r1⟩ := roz (t_f_J0_length_8abf5 (x0 := 2) hT (by decide))
  dsimp only at p_r1
  refine ok_calR h_r1 ?_
  have z4 : zSl.getD 2 0 = 4 := rfl
  refine ok_if (fun c46 => ?_) (fun c46 => ?_)
  ·
    replace c46 := ti_leP (a := r1) (b := x2) c46 rfl rfl
    refine ok_chk r_x1 ?_
    refine ok_if (fun c47 => ?_) (fun c47 => ?_)
    ·
      replace c47 := ti_eqP (a := (zI S 4 x1)) (b := (0 : Int32)) c47 rfl (show (0 : Int32).toInt = 0 from rfl)
      unfold f_X5_readRights_65
      refine ok_chk (by decide) ?_
      exact ok_ret ⟨hT, hR, (show (0 : Int) ≤ (0 : Int32).toInt ∧ (0 : Int32).toInt ≤ (1 : Int) from (by decide))⟩
    ·
      replace c47 := ti_eqN (a := (zI S 4 x1)) (b := (0 : Int32)) c47 rfl (show (0 : Int32).toInt = 0 from rfl)
      unfold f_X5_readRights_65
      refine ok_chk (by decide) ?_
      exact ok_ret ⟨hT, hR, (show (0 : Int) ≤ (1 : Int32).toInt ∧ (1 : Int32).toInt ≤ (1 : Int) from (by decide))⟩
  ·
    replace c46 := ti_leN (a := r1) (b := x2) c46 rfl rfl
    refine ok_chk (by decide) ?_
    obtain ⟨r2, h_r2, p_r2⟩ := roz (t_f_J0_charAt_5068e (x0 := 2) (x1 := x2) hT (by decide) (by omega))
    dsimp only at p_r2
    refine ok_calR h_r2 ?_
    refine ok_chk r_x0 ?_
    obtain ⟨⟨r3, S3⟩, h_r3, T_S3, A_S3, p_r3, p_r3_0, p_r3_1⟩ := t_f_X5_skip (x0 := x0) (x1 := r2) (SZ := S) hT (a7_0 S) r_x0 (by omega)
    replace T_S3 : ZT S3 := T_S3
    replace A_S3 : A7 S S3 := A_S3
    dsimp only at p_r3 p_r3_0 p_r3_1
    refine ok_calR h_r3 ?_
    have q_S3 := fq_X5_skip h_r3
    have kE_S3 : zK S3 = zK S := q_S3.2.2.1
    have nE_S3 : zN S3 = zN S := q_S3.2.2.2.1
    have R_S3 : A7 SZ S3 := a7_t hR A_S3
    refine ok_if (fun c48 => ?_) (fun c48 => ?_)
    ·
      replace c48 := ti_eqP (a := r3) (b := (0 : Int32)) c48 rfl (show (0 : Int32).toInt = 0 from rfl)
      unfold f_X5_readRights_47
      refine ok_bnd (fun v1 e49 => ?_)
      have t_v1 : v1.toInt = x2.toInt + 1 := ti_add e49 rfl (show (1 : Int32).toInt = 1 from rfl) (by omega) (by omega)
      have j50 := J_5_1 T_S3 ((congrFun kE_S3 x0).trans r_x0)
      exact hself13 x0 x1 v1 S3 T_S3 R_S3 ((congrFun kE_S3 x0).trans r_x0) ((congrFun kE_S3 x1).trans r_x1) (by omega) (by omega) (by omega)
    ·
      replace c48 := ti_eqN (a := r3) (b := (0 : Int32)) c48 rfl (show (0 : Int32).toInt = 0 from rfl)
      refine ok_chk ((congrFun kE_S3 x1).trans r_x1) ?_
      refine ok_bnd (fun v4 e51 => ?_)
      refine ok_bnd (fun v5 e52 => ?_)
      refine ok_chk ((congrFun kE_S3 x1).trans r_x1) ?_
      refine ok_bnd (fun S6 e53 => ?_)
      have T_S6 : ZT S6 := e53.symm ▸ zt_W T_S3 ((congrFun kE_S3 x1).trans r_x1) (by decide) rfl
      have kE_S6 : zK S6 = zK S3 := by rw [e53]; rfl
      have nE_S6 : zN S6 = zN S3 := by rw [e53]; rfl
      have R_S6 : A7 SZ S6 := a7_I R_S3 e53 ((congrFun kE_S3 x1).trans r_x1) (by decide)
      have : (zI S6 1 x0).toInt = (zI S3 1 x0).toInt := by rw [e53]; rfl
      unfold f_X5_readRights_47
      refine ok_bnd (fun v1 e54 => ?_)
      have t_v1 : v1.toInt = x2.toInt + 1 := ti_add e54 rfl (show (1 : Int32).toInt = 1 from rfl) (by omega) (by omega)
      have j55 := J_5_1 T_S6 ((congrFun kE_S6 x0).trans ((congrFun kE_S3 x0).trans r_x0))
      exact hself13 x0 x1 v1 S6 T_S6 R_S6 ((congrFun kE_S6 x0).trans ((congrFun kE_S3 x0).trans r_x0)) ((congrFun kE_S6 x1).trans ((congrFun kE_S3 x1).trans r_x1)) (by omega) (by omega) (by omega)
theorem t_f_X5_readRights_13 {SZ : ZS} : ∀ (n : Nat) (x0 : Nat) (x1 : Nat) (x2 : Int32) (S : ZS), ZT S → A7 SZ S → (zK S x0 = 5) → (zK S x1 = 0) → ((0 : Int) ≤ x2.toInt ∧ x2.toInt ≤ (4 : Int)) → ((zI S 1 x0).toInt ≤ 90001 + x2.toInt) → (5 - x2.toInt) < (n : Int) → Ok (f_X5_readRights_13  n x0 x1 x2 S) (fun o => ZT o.2 ∧ A7 SZ o.2 ∧ ((0 : Int) ≤ o.1.toInt ∧ o.1.toInt ≤ (1 : Int))) := by
  intro n
  induction n with
  | zero => intro x0 x1 x2 S hT hR g0 g1 g2 g3  hm; exfalso; omega
  | succ n ih =>
    intro x0 x1 x2 S hT hR g0 g1 g2 g3  hm
    exact t_f_X5_readRights_13s (N13 := n)  ih hT hR g0 g1 g2 g3  (by omega)
theorem t_f_X5_readRights_0 {SZ S : ZS} {x0 : Nat} {x1 : Nat} (hT : ZT S) (hR : A7 SZ S) (r_x0 : zK S x0 = 5) (r_x1 : zK S x1 = 0) (q0 : (zI S 1 x0).toInt ≤ 90000) : Ok (f_X5_readRights_0 x0 x1 S) (fun o => ZT o.2 ∧ A7 SZ o.2 ∧ ((0 : Int) ≤ o.1.toInt ∧ o.1.toInt ≤ (1 : Int))) := by
  unfold f_X5_readRights_0
  have j56 := J_5_1 hT r_x0
  refine ok_chk r_x0 ?_
  have zl57 : (45 : Int32).toInt = 45 := rfl
  obtain ⟨⟨r1, S1⟩, h_r1, T_S1, A_S1, p_r1, p_r1_0, p_r1_1⟩ := t_f_X5_skip (x0 := x0) (x1 := (45 : Int32)) (SZ := S) hT (a7_0 S) r_x0 (by have z0 : (45 : Int32).toInt = 45 := rfl; omega)
  replace T_S1 : ZT S1 := T_S1
  replace A_S1 : A7 S S1 := A_S1
  dsimp only at p_r1 p_r1_0 p_r1_1
  refine ok_calR h_r1 ?_
  have q_S1 := fq_X5_skip h_r1
  have kE_S1 : zK S1 = zK S := q_S1.2.2.1
  have nE_S1 : zN S1 = zN S := q_S1.2.2.2.1
  have R_S1 : A7 SZ S1 := a7_t hR A_S1
  refine ok_if (fun c58 => ?_) (fun c58 => ?_)
  ·
    replace c58 := ti_eqP (a := r1) (b := (0 : Int32)) c58 rfl (show (0 : Int32).toInt = 0 from rfl)
    have j59 := J_5_1 T_S1 ((congrFun kE_S1 x0).trans r_x0)
    exact t_f_X5_readRights_13   mFuel x0 x1 (0 : Int32) S1 T_S1 R_S1 ((congrFun kE_S1 x0).trans r_x0) ((congrFun kE_S1 x1).trans r_x1) (by decide) (by have z0 : (0 : Int32).toInt = 0 := rfl; omega) (by show _ < ((200000 : Nat) : Int); have z0 : (0 : Int32).toInt = 0 := rfl; omega)
  ·
    replace c58 := ti_eqN (a := r1) (b := (0 : Int32)) c58 rfl (show (0 : Int32).toInt = 0 from rfl)
    refine ok_chk (by decide) ?_
    exact ok_ret ⟨T_S1, R_S1, (show (0 : Int) ≤ (1 : Int32).toInt ∧ (1 : Int32).toInt ≤ (1 : Int) from (by decide))⟩
theorem t_f_X5_readRights {SZ S : ZS} {x0 : Nat} {x1 : Nat} (hT : ZT S) (hR : A7 SZ S) (r_x0 : zK S x0 = 5) (r_x1 : zK S x1 = 0) (q0 : (zI S 1 x0).toInt ≤ 90000) : Ok (f_X5_readRights x0 x1 S) (fun o => ZT o.2 ∧ A7 SZ o.2 ∧ ((0 : Int) ≤ o.1.toInt ∧ o.1.toInt ≤ (1 : Int))) := t_f_X5_readRights_0 hT hR r_x0 r_x1 q0
theorem t_f_X5_readPassed_0 {SZ S : ZS} {x0 : Nat} {x1 : Nat} (hT : ZT S) (hR : A7 SZ S) (r_x0 : zK S x0 = 5) (r_x1 : zK S x1 = 0) (q0 : (zI S 1 x0).toInt ≤ 90000) : Ok (f_X5_readPassed_0 x0 x1 S) (fun o => ZT o.2 ∧ A7 SZ o.2 ∧ ((0 : Int) ≤ o.1.toInt ∧ o.1.toInt ≤ (1 : Int))) := by
  unfold f_X5_readPassed_0
  have j60 := J_5_1 hT r_x0
  refine ok_chk r_x0 ?_
  have zl61 : (45 : Int32).toInt = 45 := rfl
  obtain ⟨⟨r1, S1⟩, h_r1, T_S1, A_S1, p_r1, p_r1_0, p_r1_1⟩ := t_f_X5_skip (x0 := x0) (x1 := (45 : Int32)) (SZ := S) hT (a7_0 S) r_x0 (by have z0 : (45 : Int32).toInt = 45 := rfl; omega)
  replace T_S1 : ZT S1 := T_S1
  replace A_S1 : A7 S S1 := A_S1
  dsimp only at p_r1 p_r1_0 p_r1_1
  refine ok_calR h_r1 ?_
  have q_S1 := fq_X5_skip h_r1
  have kE_S1 : zK S1 = zK S := q_S1.2.2.1
  have nE_S1 : zN S1 = zN S := q_S1.2.2.2.1
  have R_S1 : A7 SZ S1 := a7_t hR A_S1
  refine ok_if (fun c62 => ?_) (fun c62 => ?_)
  ·
    replace c62 := ti_eqP (a := r1) (b := (0 : Int32)) c62 rfl (show (0 : Int32).toInt = 0 from rfl)
    refine ok_chk ((congrFun kE_S1 x0).trans r_x0) ?_
    obtain ⟨b2, p_b2, k_b2, c_b2⟩ := T_5_0 T_S1 ((congrFun kE_S1 x0).trans r_x0)
    refine ok_calR p_b2 ?_
    refine ok_chk ((congrFun kE_S1 x0).trans r_x0) ?_
    refine ok_chk k_b2 ?_
    have j63 := J61_2 T_S1 k_b2 c_b2
    obtain ⟨r3, h_r3, p_r3⟩ := roz (t_f_X6_at (x0 := b2) (x1 := (zI S1 1 x0)) T_S1 k_b2)
    dsimp only at p_r3
    refine ok_calR h_r3 ?_
    refine ok_chk ((congrFun kE_S1 x0).trans r_x0) ?_
    obtain ⟨b4, p_b4, k_b4, c_b4⟩ := T_5_0 T_S1 ((congrFun kE_S1 x0).trans r_x0)
    refine ok_calR p_b4 ?_
    refine ok_chk ((congrFun kE_S1 x0).trans r_x0) ?_
    refine ok_bnd (fun v5 e64 => ?_)
    have j65 := J_5_1 T_S1 ((congrFun kE_S1 x0).trans r_x0)
    have t_v5 : v5.toInt = (zI S1 1 x0).toInt + 1 := ti_add e64 rfl (show (1 : Int32).toInt = 1 from rfl) (by omega) (by omega)
    refine ok_chk k_b4 ?_
    have j66 := J61_2 T_S1 k_b4 c_b4
    obtain ⟨r6, h_r6, p_r6⟩ := roz (t_f_X6_at (x0 := b4) (x1 := v5) T_S1 k_b4)
    dsimp only at p_r6
    refine ok_calR h_r6 ?_
    obtain ⟨r7, h_r7, p_r7⟩ := roz (t_f_X11_squareOf (x0 := r3) (x1 := r6) T_S1 )
    dsimp only at p_r7
    refine ok_calR h_r7 ?_
    refine ok_chk ((congrFun kE_S1 x1).trans r_x1) ?_
    refine ok_bnd (fun S8 e67 => ?_)
    have T_S8 : ZT S8 := e67.symm ▸ zt_I T_S1 ((congrFun kE_S1 x1).trans r_x1) (by decide) (show (-1 : Int) ≤ r7.toInt ∧ r7.toInt ≤ (63 : Int) from (by omega))
    have kE_S8 : zK S8 = zK S1 := by rw [e67]; rfl
    have nE_S8 : zN S8 = zN S1 := by rw [e67]; rfl
    have R_S8 : A7 SZ S8 := a7_I R_S1 e67 ((congrFun kE_S1 x1).trans r_x1) (by decide)
    have : (zI S8 1 x0).toInt = (zI S1 1 x0).toInt := by rw [e67]; rfl
    refine ok_chk ((congrFun kE_S8 x0).trans ((congrFun kE_S1 x0).trans r_x0)) ?_
    refine ok_bnd (fun v9 e68 => ?_)
    have j69 := J_5_1 T_S8 ((congrFun kE_S8 x0).trans ((congrFun kE_S1 x0).trans r_x0))
    have t_v9 : v9.toInt = (zI S8 1 x0).toInt + 2 := ti_add e68 rfl (show (2 : Int32).toInt = 2 from rfl) (by omega) (by omega)
    refine ok_chk ((congrFun kE_S8 x0).trans ((congrFun kE_S1 x0).trans r_x0)) ?_
    refine ok_bnd (fun S10 e70 => ?_)
    have T_S10 : ZT S10 := e70.symm ▸ zt_I T_S8 ((congrFun kE_S8 x0).trans ((congrFun kE_S1 x0).trans r_x0)) (by decide) (show (0 : Int) ≤ v9.toInt ∧ v9.toInt ≤ (90100 : Int) from (by omega))
    have kE_S10 : zK S10 = zK S8 := by rw [e70]; rfl
    have nE_S10 : zN S10 = zN S8 := by rw [e70]; rfl
    have R_S10 : A7 SZ S10 := a7_I R_S8 e70 ((congrFun kE_S8 x0).trans ((congrFun kE_S1 x0).trans r_x0)) (by decide)
    have : (zI S10 1 x0).toInt = v9.toInt := by rw [e70]; exact (congrArg Int32.toInt (zI_self _ _ _ _)).trans rfl
    refine ok_chk ((congrFun kE_S10 x1).trans ((congrFun kE_S8 x1).trans ((congrFun kE_S1 x1).trans r_x1))) ?_
    have j71 := J_0_5 T_S10 ((congrFun kE_S10 x1).trans ((congrFun kE_S8 x1).trans ((congrFun kE_S1 x1).trans r_x1)))
    refine ok_if (fun c72 => ?_) (fun c72 => ?_)
    ·
      replace c72 := ti_eqP (a := (zI S10 5 x1)) (b := (-1 : Int32)) c72 rfl (show (-1 : Int32).toInt = -1 from rfl)
      unfold f_X5_readPassed_65
      refine ok_chk (by decide) ?_
      exact ok_ret ⟨T_S10, R_S10, (show (0 : Int) ≤ (0 : Int32).toInt ∧ (0 : Int32).toInt ≤ (1 : Int) from (by decide))⟩
    ·
      replace c72 := ti_eqN (a := (zI S10 5 x1)) (b := (-1 : Int32)) c72 rfl (show (-1 : Int32).toInt = -1 from rfl)
      unfold f_X5_readPassed_65
      refine ok_chk (by decide) ?_
      exact ok_ret ⟨T_S10, R_S10, (show (0 : Int) ≤ (1 : Int32).toInt ∧ (1 : Int32).toInt ≤ (1 : Int) from (by decide))⟩
  ·
    replace c62 := ti_eqN (a := r1) (b := (0 : Int32)) c62 rfl (show (0 : Int32).toInt = 0 from rfl)
    refine ok_chk (by decide) ?_
    exact ok_ret ⟨T_S1, R_S1, (show (0 : Int) ≤ (1 : Int32).toInt ∧ (1 : Int32).toInt ≤ (1 : Int) from (by decide))⟩
theorem t_f_X5_readPassed {SZ S : ZS} {x0 : Nat} {x1 : Nat} (hT : ZT S) (hR : A7 SZ S) (r_x0 : zK S x0 = 5) (r_x1 : zK S x1 = 0) (q0 : (zI S 1 x0).toInt ≤ 90000) : Ok (f_X5_readPassed x0 x1 S) (fun o => ZT o.2 ∧ A7 SZ o.2 ∧ ((0 : Int) ≤ o.1.toInt ∧ o.1.toInt ≤ (1 : Int))) := t_f_X5_readPassed_0 hT hR r_x0 r_x1 q0
theorem t_f_X5_readNumber_95 {SZ S : ZS} {x0 : Nat} {x1 : Int32} {x2 : Int32} {t0 : Int32} (hT : ZT S) (hR : A7 SZ S) (r_x0 : zK S x0 = 5) (r_x1 : (0 : Int) ≤ x1.toInt ∧ x1.toInt ≤ (90100 : Int)) (r_t0 : (0 : Int) ≤ t0.toInt ∧ t0.toInt ≤ (1 : Int)) : Ok (f_X5_readNumber_95 x0 x1 x2 t0 S) (fun o => ZT o.2 ∧ A7 SZ o.2 ∧ True) := by
  unfold f_X5_readNumber_95
  have j73 := J_5_1 hT r_x0
  refine ok_chk r_x0 ?_
  refine ok_if (fun c74 => ?_) (fun c74 => ?_)
  ·
    replace c74 := ti_eqP (a := (zI S 1 x0)) (b := x1) c74 rfl rfl
    unfold f_X5_readNumber_108
    unfold f_X5_readNumber_113
    exact ok_ret ⟨hT, hR, trivial⟩
  ·
    replace c74 := ti_eqN (a := (zI S 1 x0)) (b := x1) c74 rfl rfl
    refine ok_if (fun c75 => ?_) (fun c75 => ?_)
    ·
      replace c75 := ti_eqP (a := t0) (b := (0 : Int32)) c75 rfl (show (0 : Int32).toInt = 0 from rfl)
      unfold f_X5_readNumber_113
      exact ok_ret ⟨hT, hR, trivial⟩
    ·
      replace c75 := ti_eqN (a := t0) (b := (0 : Int32)) c75 rfl (show (0 : Int32).toInt = 0 from rfl)
      unfold f_X5_readNumber_108
      unfold f_X5_readNumber_113
      exact ok_ret ⟨hT, hR, trivial⟩
theorem t_f_X5_readNumber_67 {SZ S : ZS} {x0 : Nat} {x1 : Int32} {x2 : Int32} (hT : ZT S) (hR : A7 SZ S) (r_x0 : zK S x0 = 5) (r_x1 : (0 : Int) ≤ x1.toInt ∧ x1.toInt ≤ (90100 : Int)) : Ok (f_X5_readNumber_67 x0 x1 x2 S) (fun o => ZT o.2 ∧ A7 SZ o.2 ∧ True) := by
  unfold f_X5_readNumber_67
  have j76 := J_5_1 hT r_x0
  refine ok_chk r_x0 ?_
  obtain ⟨b1, p_b1, k_b1, c_b1⟩ := T_5_0 hT r_x0
  refine ok_calR p_b1 ?_
  refine ok_chk k_b1 ?_
  have j77 := J61_2 hT k_b1 c_b1
  obtain ⟨r2, h_r2, p_r2⟩ := roz (t_f_X6_at (x0 := b1) (x1 := x1) hT k_b1)
  dsimp only at p_r2
  refine ok_calR h_r2 ?_
  refine ok_if (fun c78 => ?_) (fun c78 => ?_)
  ·
    replace c78 := ti_eqP (a := r2) (b := (48 : Int32)) c78 rfl (show (48 : Int32).toInt = 48 from rfl)
    refine ok_chk r_x0 ?_
    refine ok_bnd (fun v3 e79 => ?_)
    have t_v3 : v3.toInt = x1.toInt + 1 := ti_add e79 rfl (show (1 : Int32).toInt = 1 from rfl) (by omega) (by omega)
    refine ok_if (fun c80 => ?_) (fun c80 => ?_)
    ·
      replace c80 := ti_leP (a := (zI S 1 x0)) (b := v3) c80 rfl rfl
      unfold f_X5_readNumber_94
      exact t_f_X5_readNumber_95 (S := S)  (x0 := x0) (x1 := x1) (x2 := x2) (t0 := (0 : Int32)) hT hR r_x0 r_x1 (by decide)
    ·
      replace c80 := ti_leN (a := (zI S 1 x0)) (b := v3) c80 rfl rfl
      exact t_f_X5_readNumber_95 (S := S)  (x0 := x0) (x1 := x1) (x2 := x2) (t0 := (1 : Int32)) hT hR r_x0 r_x1 (by decide)
  ·
    replace c78 := ti_eqN (a := r2) (b := (48 : Int32)) c78 rfl (show (48 : Int32).toInt = 48 from rfl)
    unfold f_X5_readNumber_94
    exact t_f_X5_readNumber_95 (S := S)  (x0 := x0) (x1 := x1) (x2 := x2) (t0 := (0 : Int32)) hT hR r_x0 r_x1 (by decide)
theorem t_f_X5_readNumber_7s {SZ S : ZS} {self7 : Nat → Int32 → Int32 → ZS → Option (Int32 × ZS)} {N7 : Nat} (hself7 : ∀ (x0 : Nat) (x1 : Int32) (x2 : Int32) (S : ZS), ZT S → A7 SZ S → (zK S x0 = 5) → ((0 : Int) ≤ x1.toInt ∧ x1.toInt ≤ (90100 : Int)) → (90102 - (zI S 1 x0).toInt) < (N7 : Int) → Ok (self7 x0 x1 x2 S) (fun o => ZT o.2 ∧ A7 SZ o.2 ∧ True)) {x0 : Nat} {x1 : Int32} {x2 : Int32} (hT : ZT S) (hR : A7 SZ S) (r_x0 : zK S x0 = 5) (r_x1 : (0 : Int) ≤ x1.toInt ∧ x1.toInt ≤ (90100 : Int)) (m7 : (90102 - (zI S 1 x0).toInt) ≤ (N7 : Int)) : Ok (f_X5_readNumber_7s self7 x0 x1 x2 S) (fun o => ZT o.2 ∧ A7 SZ o.2 ∧ True) := by
  unfold f_X5_readNumber_7s
  have j81 := J_5_1 hT r_x0
  refine ok_chk r_x0 ?_
  refine ok_bnd (fun v1 e82 => ?_)
  have t_v1 : v1.toInt = x1.toInt + 3 := ti_add e82 rfl (show (3 : Int32).toInt = 3 from rfl) (by omega) (by omega)
  refine ok_if (fun c83 => ?_) (fun c83 => ?_)
  ·
    replace c83 := ti_leP (a := v1) (b := (zI S 1 x0)) c83 rfl rfl
    exact t_f_X5_readNumber_67 (S := S)  (x0 := x0) (x1 := x1) (x2 := x2) hT hR r_x0 r_x1
  ·
    replace c83 := ti_leN (a := v1) (b := (zI S 1 x0)) c83 rfl rfl
    refine ok_chk r_x0 ?_
    obtain ⟨b2, p_b2, k_b2, c_b2⟩ := T_5_0 hT r_x0
    refine ok_calR p_b2 ?_
    refine ok_chk r_x0 ?_
    refine ok_chk k_b2 ?_
    have j84 := J61_2 hT k_b2 c_b2
    obtain ⟨r3, h_r3, p_r3⟩ := roz (t_f_X6_at (x0 := b2) (x1 := (zI S 1 x0)) hT k_b2)
    dsimp only at p_r3
    refine ok_calR h_r3 ?_
    obtain ⟨r4, h_r4, p_r4⟩ := roz (t_f_X11_isDigit (x0 := r3) hT )
    dsimp only at p_r4
    refine ok_calR h_r4 ?_
    refine ok_if (fun c85 => ?_) (fun c85 => ?_)
    ·
      replace c85 := ti_eqP (a := r4) (b := (0 : Int32)) c85 rfl (show (0 : Int32).toInt = 0 from rfl)
      exact t_f_X5_readNumber_67 (S := S)  (x0 := x0) (x1 := x1) (x2 := x2) hT hR r_x0 r_x1
    ·
      replace c85 := ti_eqN (a := r4) (b := (0 : Int32)) c85 rfl (show (0 : Int32).toInt = 0 from rfl)
      refine ok_bnd (fun v5 e86 => ?_)
      refine ok_chk r_x0 ?_
      obtain ⟨b6, p_b6, k_b6, c_b6⟩ := T_5_0 hT r_x0
      refine ok_calR p_b6 ?_
      refine ok_chk r_x0 ?_
      refine ok_chk k_b6 ?_
      have j87 := J61_2 hT k_b6 c_b6
      obtain ⟨r7, h_r7, p_r7⟩ := roz (t_f_X6_at (x0 := b6) (x1 := (zI S 1 x0)) hT k_b6)
      dsimp only at p_r7
      refine ok_calR h_r7 ?_
      refine ok_bnd (fun v8 e88 => ?_)
      refine ok_bnd (fun v9 e89 => ?_)
      refine ok_chk r_x0 ?_
      refine ok_bnd (fun v10 e90 => ?_)
      have t_v10 : v10.toInt = (zI S 1 x0).toInt + 1 := ti_add e90 rfl (show (1 : Int32).toInt = 1 from rfl) (by omega) (by omega)
      refine ok_chk r_x0 ?_
      refine ok_bnd (fun S11 e91 => ?_)
      have T_S11 : ZT S11 := e91.symm ▸ zt_I hT r_x0 (by decide) (show (0 : Int) ≤ v10.toInt ∧ v10.toInt ≤ (90100 : Int) from (by omega))
      have kE_S11 : zK S11 = zK S := by rw [e91]; rfl
      have nE_S11 : zN S11 = zN S := by rw [e91]; rfl
      have R_S11 : A7 SZ S11 := a7_I hR e91 r_x0 (by decide)
      have : (zI S11 1 x0).toInt = v10.toInt := by rw [e91]; exact (congrArg Int32.toInt (zI_self _ _ _ _)).trans rfl
      exact hself7 x0 x1 v9 S11 T_S11 R_S11 ((congrFun kE_S11 x0).trans r_x0) r_x1 (by omega)
theorem t_f_X5_readNumber_7 {SZ : ZS} : ∀ (n : Nat) (x0 : Nat) (x1 : Int32) (x2 : Int32) (S : ZS), ZT S → A7 SZ S → (zK S x0 = 5) → ((0 : Int) ≤ x1.toInt ∧ x1.toInt ≤ (90100 : Int)) → (90102 - (zI S 1 x0).toInt) < (n : Int) → Ok (f_X5_readNumber_7  n x0 x1 x2 S) (fun o => ZT o.2 ∧ A7 SZ o.2 ∧ True) := by
  intro n
  induction n with
  | zero => intro x0 x1 x2 S hT hR g0 g1  hm; exfalso; have j9 := J_5_1 hT g0; omega
  | succ n ih =>
    intro x0 x1 x2 S hT hR g0 g1  hm
    exact t_f_X5_readNumber_7s (N7 := n)  ih hT hR g0 g1  (by omega)
theorem t_f_X5_readNumber_0 {SZ S : ZS} {x0 : Nat} (hT : ZT S) (hR : A7 SZ S) (r_x0 : zK S x0 = 5) : Ok (f_X5_readNumber_0 x0 S) (fun o => ZT o.2 ∧ A7 SZ o.2 ∧ True) := by
  unfold f_X5_readNumber_0
  have j92 := J_5_1 hT r_x0
  refine ok_chk r_x0 ?_
  exact t_f_X5_readNumber_7   mFuel x0 (zI S 1 x0) (0 : Int32) S hT hR r_x0 (by omega) (by show _ < ((200000 : Nat) : Int); have z0 : (0 : Int32).toInt = 0 := rfl; omega)
theorem t_f_X5_readNumber {SZ S : ZS} {x0 : Nat} (hT : ZT S) (hR : A7 SZ S) (r_x0 : zK S x0 = 5) : Ok (f_X5_readNumber x0 S) (fun o => ZT o.2 ∧ A7 SZ o.2 ∧ True) := t_f_X5_readNumber_0 hT hR r_x0
theorem t_f_X5_readMoveNumber_0 {SZ S : ZS} {x0 : Nat} {x1 : Nat} (hT : ZT S) (hR : A7 SZ S) (r_x0 : zK S x0 = 5) (r_x1 : zK S x1 = 0) : Ok (f_X5_readMoveNumber_0 x0 x1 S) (fun o => ZT o.2 ∧ A7 SZ o.2 ∧ ((0 : Int) ≤ o.1.toInt ∧ o.1.toInt ≤ (1 : Int))) := by
  unfold f_X5_readMoveNumber_0
  refine ok_chk r_x0 ?_
  obtain ⟨⟨r1, S1⟩, h_r1, T_S1, A_S1, -⟩ := t_f_X5_readNumber (x0 := x0) (SZ := S) hT (a7_0 S) r_x0
  replace T_S1 : ZT S1 := T_S1
  replace A_S1 : A7 S S1 := A_S1
  refine ok_calR h_r1 ?_
  have q_S1 := fq_X5_readNumber h_r1
  have kE_S1 : zK S1 = zK S := q_S1.2.2.1
  have nE_S1 : zN S1 = zN S := q_S1.2.2.2.1
  have R_S1 : A7 SZ S1 := a7_t hR A_S1
  refine ok_chk ((congrFun kE_S1 x1).trans r_x1) ?_
  refine ok_bnd (fun S2 e93 => ?_)
  have T_S2 : ZT S2 := e93.symm ▸ zt_W T_S1 ((congrFun kE_S1 x1).trans r_x1) (by decide) rfl
  have kE_S2 : zK S2 = zK S1 := by rw [e93]; rfl
  have nE_S2 : zN S2 = zN S1 := by rw [e93]; rfl
  have R_S2 : A7 SZ S2 := a7_I R_S1 e93 ((congrFun kE_S1 x1).trans r_x1) (by decide)
  refine ok_chk ((congrFun kE_S2 x1).trans ((congrFun kE_S1 x1).trans r_x1)) ?_
  refine ok_if (fun c94 => ?_) (fun c94 => ?_)
  ·
    replace c94 := ti_leP (a := (zI S2 6 x1)) (b := (0 : Int32)) c94 rfl (show (0 : Int32).toInt = 0 from rfl)
    unfold f_X5_readMoveNumber_20
    refine ok_chk (by decide) ?_
    exact ok_ret ⟨T_S2, R_S2, (show (0 : Int) ≤ (0 : Int32).toInt ∧ (0 : Int32).toInt ≤ (1 : Int) from (by decide))⟩
  ·
    replace c94 := ti_leN (a := (zI S2 6 x1)) (b := (0 : Int32)) c94 rfl (show (0 : Int32).toInt = 0 from rfl)
    unfold f_X5_readMoveNumber_20
    refine ok_chk (by decide) ?_
    exact ok_ret ⟨T_S2, R_S2, (show (0 : Int) ≤ (1 : Int32).toInt ∧ (1 : Int32).toInt ≤ (1 : Int) from (by decide))⟩
theorem t_f_X5_readMoveNumber {SZ S : ZS} {x0 : Nat} {x1 : Nat} (hT : ZT S) (hR : A7 SZ S) (r_x0 : zK S x0 = 5) (r_x1 : zK S x1 = 0) : Ok (f_X5_readMoveNumber x0 x1 S) (fun o => ZT o.2 ∧ A7 SZ o.2 ∧ ((0 : Int) ≤ o.1.toInt ∧ o.1.toInt ≤ (1 : Int))) := t_f_X5_readMoveNumber_0 hT hR r_x0 r_x1
theorem t_f_X5_hasSoundMen_48 {S : ZS} {self6 : Nat → Int32 → Int32 → Int32 → ZS → Option (Int32 × ZS)} {N6 : Nat} (hself6 : ∀ (x0 : Nat) (x1 : Int32) (x2 : Int32) (x3 : Int32),  (zK S x0 = 0) → ((0 : Int) ≤ x1.toInt ∧ x1.toInt ≤ (64 : Int)) → ((0 : Int) ≤ x2.toInt ∧ x2.toInt ≤ (64 : Int)) → ((0 : Int) ≤ x3.toInt ∧ x3.toInt ≤ (64 : Int)) → (x1.toInt ≤ x3.toInt) → (x2.toInt ≤ x3.toInt) → (65 - x3.toInt) < (N6 : Int) → Ok (self6 x0 x1 x2 x3 S) (fun o => o.2 = S ∧ ((0 : Int) ≤ o.1.toInt ∧ o.1.toInt ≤ (1 : Int)))) {x0 : Nat} {x1 : Int32} {x3 : Int32} {t0 : Int32} {t1 : Int32} (hT : ZT S) (r_x0 : zK S x0 = 0) (r_x1 : (0 : Int) ≤ x1.toInt ∧ x1.toInt ≤ (64 : Int)) (r_x3 : (0 : Int) ≤ x3.toInt ∧ x3.toInt ≤ (63 : Int)) (r_t0 : (0 : Int) ≤ t0.toInt ∧ t0.toInt ≤ (1 : Int)) (r_t1 : (0 : Int) ≤ t1.toInt ∧ t1.toInt ≤ (64 : Int)) (q0 : t1.toInt ≤ x3.toInt) (q1 : x1.toInt ≤ x3.toInt + 1) (m6 : (65 - x3.toInt) ≤ (N6 : Int)) : Ok (f_X5_hasSoundMen_48 self6 x0 x1 x3 t0 t1 S) (fun o => o.2 = S ∧ ((0 : Int) ≤ o.1.toInt ∧ o.1.toInt ≤ (1 : Int))) := by
  unfold f_X5_hasSoundMen_48
  refine ok_bnd (fun v1 e95 => ?_)
  have t_v1 : v1.toInt = t1.toInt + t0.toInt := ti_add e95 rfl rfl (by omega) (by omega)
  refine ok_chk r_x0 ?_
  obtain ⟨r2, h_r2, p_r2⟩ := roz (t_f_X0_kindAt (x0 := x0) (x1 := x3) hT r_x0 r_x3)
  dsimp only at p_r2
  refine ok_calR h_r2 ?_
  refine ok_if (fun c96 => ?_) (fun c96 => ?_)
  ·
    replace c96 := ti_eqP (a := r2) (b := (1 : Int32)) c96 rfl (show (1 : Int32).toInt = 1 from rfl)
    refine ok_if (fun c97 => ?_) (fun c97 => ?_)
    ·
      replace c97 := ti_ltP (a := x3) (b := (8 : Int32)) c97 rfl (show (8 : Int32).toInt = 8 from rfl)
      unfold f_X5_hasSoundMen_71
      refine ok_chk (by decide) ?_
      exact ok_ret ⟨rfl, (show (0 : Int) ≤ (0 : Int32).toInt ∧ (0 : Int32).toInt ≤ (1 : Int) from (by decide))⟩
    ·
      replace c97 := ti_ltN (a := x3) (b := (8 : Int32)) c97 rfl (show (8 : Int32).toInt = 8 from rfl)
      refine ok_if (fun c98 => ?_) (fun c98 => ?_)
      ·
        replace c98 := ti_ltP (a := x3) (b := (56 : Int32)) c98 rfl (show (56 : Int32).toInt = 56 from rfl)
        unfold f_X5_hasSoundMen_73
        refine ok_bnd (fun v1u e99 => ?_)
        have t_v1u : v1u.toInt = x3.toInt + 1 := ti_add e99 rfl (show (1 : Int32).toInt = 1 from rfl) (by omega) (by omega)
        exact hself6 x0 x1 v1 v1u  r_x0 r_x1 (by omega) (by omega) (by omega) (by omega) (by omega)
      ·
        replace c98 := ti_ltN (a := x3) (b := (56 : Int32)) c98 rfl (show (56 : Int32).toInt = 56 from rfl)
        unfold f_X5_hasSoundMen_71
        refine ok_chk (by decide) ?_
        exact ok_ret ⟨rfl, (show (0 : Int) ≤ (0 : Int32).toInt ∧ (0 : Int32).toInt ≤ (1 : Int) from (by decide))⟩
  ·
    replace c96 := ti_eqN (a := r2) (b := (1 : Int32)) c96 rfl (show (1 : Int32).toInt = 1 from rfl)
    unfold f_X5_hasSoundMen_73
    refine ok_bnd (fun v1u e100 => ?_)
    have t_v1u : v1u.toInt = x3.toInt + 1 := ti_add e100 rfl (show (1 : Int32).toInt = 1 from rfl) (by omega) (by omega)
    exact hself6 x0 x1 v1 v1u  r_x0 r_x1 (by omega) (by omega) (by omega) (by omega) (by omega)
theorem t_f_X5_hasSoundMen_29 {S : ZS} {self6 : Nat → Int32 → Int32 → Int32 → ZS → Option (Int32 × ZS)} {N6 : Nat} (hself6 : ∀ (x0 : Nat) (x1 : Int32) (x2 : Int32) (x3 : Int32),  (zK S x0 = 0) → ((0 : Int) ≤ x1.toInt ∧ x1.toInt ≤ (64 : Int)) → ((0 : Int) ≤ x2.toInt ∧ x2.toInt ≤ (64 : Int)) → ((0 : Int) ≤ x3.toInt ∧ x3.toInt ≤ (64 : Int)) → (x1.toInt ≤ x3.toInt) → (x2.toInt ≤ x3.toInt) → (65 - x3.toInt) < (N6 : Int) → Ok (self6 x0 x1 x2 x3 S) (fun o => o.2 = S ∧ ((0 : Int) ≤ o.1.toInt ∧ o.1.toInt ≤ (1 : Int)))) {x0 : Nat} {x2 : Int32} {x3 : Int32} {t0 : Int32} {t1 : Int32} (hT : ZT S) (r_x0 : zK S x0 = 0) (r_x2 : (0 : Int) ≤ x2.toInt ∧ x2.toInt ≤ (64 : Int)) (r_x3 : (0 : Int) ≤ x3.toInt ∧ x3.toInt ≤ (63 : Int)) (r_t0 : (0 : Int) ≤ t0.toInt ∧ t0.toInt ≤ (1 : Int)) (r_t1 : (0 : Int) ≤ t1.toInt ∧ t1.toInt ≤ (64 : Int)) (q0 : t1.toInt ≤ x3.toInt) (q1 : x2.toInt ≤ x3.toInt) (m6 : (65 - x3.toInt) ≤ (N6 : Int)) : Ok (f_X5_hasSoundMen_29 self6 x0 x2 x3 t0 t1 S) (fun o => o.2 = S ∧ ((0 : Int) ≤ o.1.toInt ∧ o.1.toInt ≤ (1 : Int))) := by
  unfold f_X5_hasSoundMen_29
  refine ok_bnd (fun v1 e101 => ?_)
  have t_v1 : v1.toInt = t1.toInt + t0.toInt := ti_add e101 rfl rfl (by omega) (by omega)
  refine ok_chk r_x0 ?_
  obtain ⟨b2, p_b2, k_b2, n_b2⟩ := T_0_0 hT r_x0
  refine ok_calR p_b2 ?_
  refine ok_chk k_b2 ?_
  refine ok_chk (ti_inN (v := x3) (n := 64) n_b2 (by omega) (by omega)) ?_
  refine ok_bnd (fun v3 e102 => ?_)
  refine ok_if (fun c103 => ?_) (fun c103 => ?_)
  ·
    replace c103 := ti_eqP (a := v3) (b := (14 : Int32)) c103 rfl (show (14 : Int32).toInt = 14 from rfl)
    exact t_f_X5_hasSoundMen_48 (S := S) hself6 (x0 := x0) (x1 := v1) (x3 := x3) (t0 := (1 : Int32)) (t1 := x2) hT r_x0 (by omega) r_x3 (by decide) r_x2 q1 (by have z0 : (1 : Int32).toInt = 1 := rfl; omega) m6
  ·
    replace c103 := ti_eqN (a := v3) (b := (14 : Int32)) c103 rfl (show (14 : Int32).toInt = 14 from rfl)
    exact t_f_X5_hasSoundMen_48 (S := S) hself6 (x0 := x0) (x1 := v1) (x3 := x3) (t0 := (0 : Int32)) (t1 := x2) hT r_x0 (by omega) r_x3 (by decide) r_x2 q1 (by have z0 : (0 : Int32).toInt = 0 := rfl; omega) m6
theorem t_f_X5_hasSoundMen_6s {S : ZS} {self6 : Nat → Int32 → Int32 → Int32 → ZS → Option (Int32 × ZS)} {N6 : Nat} (hself6 : ∀ (x0 : Nat) (x1 : Int32) (x2 : Int32) (x3 : Int32),  (zK S x0 = 0) → ((0 : Int) ≤ x1.toInt ∧ x1.toInt ≤ (64 : Int)) → ((0 : Int) ≤ x2.toInt ∧ x2.toInt ≤ (64 : Int)) → ((0 : Int) ≤ x3.toInt ∧ x3.toInt ≤ (64 : Int)) → (x1.toInt ≤ x3.toInt) → (x2.toInt ≤ x3.toInt) → (65 - x3.toInt) < (N6 : Int) → Ok (self6 x0 x1 x2 x3 S) (fun o => o.2 = S ∧ ((0 : Int) ≤ o.1.toInt ∧ o.1.toInt ≤ (1 : Int)))) {x0 : Nat} {x1 : Int32} {x2 : Int32} {x3 : Int32} (hT : ZT S) (r_x0 : zK S x0 = 0) (r_x1 : (0 : Int) ≤ x1.toInt ∧ x1.toInt ≤ (64 : Int)) (r_x2 : (0 : Int) ≤ x2.toInt ∧ x2.toInt ≤ (64 : Int)) (r_x3 : (0 : Int) ≤ x3.toInt ∧ x3.toInt ≤ (64 : Int)) (q0 : x1.toInt ≤ x3.toInt) (q1 : x2.toInt ≤ x3.toInt) (m6 : (65 - x3.toInt) ≤ (N6 : Int)) : Ok (f_X5_hasSoundMen_6s self6 x0 x1 x2 x3 S) (fun o => o.2 = S ∧ ((0 : Int) ≤ o.1.toInt ∧ o.1.toInt ≤ (1 : Int))) := by
  unfold f_X5_hasSoundMen_6s
  refine ok_if (fun c104 => ?_) (fun c104 => ?_)
  ·
    replace c104 := ti_leP (a := (64 : Int32)) (b := x3) c104 (show (64 : Int32).toInt = 64 from rfl) rfl
    refine ok_if (fun c105 => ?_) (fun c105 => ?_)
    ·
      replace c105 := ti_eqP (a := x1) (b := (1 : Int32)) c105 rfl (show (1 : Int32).toInt = 1 from rfl)
      refine ok_if (fun c106 => ?_) (fun c106 => ?_)
      ·
        replace c106 := ti_eqP (a := x2) (b := (1 : Int32)) c106 rfl (show (1 : Int32).toInt = 1 from rfl)
        refine ok_chk r_x0 ?_
        refine ok_bnd (fun v1 e107 => ?_)
        have j108 := J_0_3 hT r_x0
        have t_v1 : v1.toInt = 1 - (zI S 3 x0).toInt := ti_sub e107 (show (1 : Int32).toInt = 1 from rfl) rfl (by omega) (by omega)
        refine ok_chk r_x0 ?_
        obtain ⟨r2, h_r2, p_r2⟩ := roz (t_f_X0_kingOf (x0 := x0) (x1 := v1) hT r_x0)
        dsimp only at p_r2
        refine ok_calR h_r2 ?_
        refine ok_chk r_x0 ?_
        refine ok_chk r_x0 ?_
        obtain ⟨r3, h_r3, p_r3⟩ := roz (t_f_X0_attacked (x0 := x0) (x1 := r2) (x2 := (zI S 3 x0)) hT r_x0 (by omega))
        dsimp only at p_r3
        refine ok_calR h_r3 ?_
        refine ok_if (fun c109 => ?_) (fun c109 => ?_)
        ·
          replace c109 := ti_eqP (a := r3) (b := (0 : Int32)) c109 rfl (show (0 : Int32).toInt = 0 from rfl)
          unfold f_X5_hasSoundMen_115
          refine ok_chk (by decide) ?_
          exact ok_ret ⟨rfl, (show (0 : Int) ≤ (1 : Int32).toInt ∧ (1 : Int32).toInt ≤ (1 : Int) from (by decide))⟩
        ·
          replace c109 := ti_eqN (a := r3) (b := (0 : Int32)) c109 rfl (show (0 : Int32).toInt = 0 from rfl)
          unfold f_X5_hasSoundMen_114
          unfold f_X5_hasSoundMen_115
          refine ok_chk (by decide) ?_
          exact ok_ret ⟨rfl, (show (0 : Int) ≤ (0 : Int32).toInt ∧ (0 : Int32).toInt ≤ (1 : Int) from (by decide))⟩
      ·
        replace c106 := ti_eqN (a := x2) (b := (1 : Int32)) c106 rfl (show (1 : Int32).toInt = 1 from rfl)
        unfold f_X5_hasSoundMen_114
        unfold f_X5_hasSoundMen_115
        refine ok_chk (by decide) ?_
        exact ok_ret ⟨rfl, (show (0 : Int) ≤ (0 : Int32).toInt ∧ (0 : Int32).toInt ≤ (1 : Int) from (by decide))⟩
    ·
      replace c105 := ti_eqN (a := x1) (b := (1 : Int32)) c105 rfl (show (1 : Int32).toInt = 1 from rfl)
      unfold f_X5_hasSoundMen_114
      unfold f_X5_hasSoundMen_115
      refine ok_chk (by decide) ?_
      exact ok_ret ⟨rfl, (show (0 : Int) ≤ (0 : Int32).toInt ∧ (0 : Int32).toInt ≤ (1 : Int) from (by decide))⟩
  ·
    replace c104 := ti_leN (a := (64 : Int32)) (b := x3) c104 (show (64 : Int32).toInt = 64 from rfl) rfl
    refine ok_chk r_x0 ?_
    obtain ⟨b4, p_b4, k_b4, n_b4⟩ := T_0_0 hT r_x0
    refine ok_calR p_b4 ?_
    refine ok_chk k_b4 ?_
    refine ok_chk (ti_inN (v := x3) (n := 64) n_b4 (by omega) (by omega)) ?_
    refine ok_bnd (fun v5 e110 => ?_)
    refine ok_if (fun c111 => ?_) (fun c111 => ?_)
    ·
      replace c111 := ti_eqP (a := v5) (b := (6 : Int32)) c111 rfl (show (6 : Int32).toInt = 6 from rfl)
      exact t_f_X5_hasSoundMen_29 (S := S) hself6 (x0 := x0) (x2 := x2) (x3 := x3) (t0 := (1 : Int32)) (t1 := x1) hT r_x0 r_x2 (by omega) (by decide) r_x1 q0 q1 m6
    ·
      replace c111 := ti_eqN (a := v5) (b := (6 : Int32)) c111 rfl (show (6 : Int32).toInt = 6 from rfl)
      exact t_f_X5_hasSoundMen_29 (S := S) hself6 (x0 := x0) (x2 := x2) (x3 := x3) (t0 := (0 : Int32)) (t1 := x1) hT r_x0 r_x2 (by omega) (by decide) r_x1 q0 q1 m6
theorem t_f_X5_hasSoundMen_6 {S : ZS} (hT : ZT S) : ∀ (n : Nat) (x0 : Nat) (x1 : Int32) (x2 : Int32) (x3 : Int32),  (zK S x0 = 0) → ((0 : Int) ≤ x1.toInt ∧ x1.toInt ≤ (64 : Int)) → ((0 : Int) ≤ x2.toInt ∧ x2.toInt ≤ (64 : Int)) → ((0 : Int) ≤ x3.toInt ∧ x3.toInt ≤ (64 : Int)) → (x1.toInt ≤ x3.toInt) → (x2.toInt ≤ x3.toInt) → (65 - x3.toInt) < (n : Int) → Ok (f_X5_hasSoundMen_6  n x0 x1 x2 x3 S) (fun o => o.2 = S ∧ ((0 : Int) ≤ o.1.toInt ∧ o.1.toInt ≤ (1 : Int))) := by
  intro n
  induction n with
  | zero => intro x0 x1 x2 x3 g0 g1 g2 g3 g4 g5  hm; exfalso; omega
  | succ n ih =>
    intro x0 x1 x2 x3 g0 g1 g2 g3 g4 g5  hm
    exact t_f_X5_hasSoundMen_6s (N6 := n)  ih hT g0 g1 g2 g3 g4 g5  (by omega)
theorem t_f_X5_hasSoundMen_0 {S : ZS} {x0 : Nat} (hT : ZT S) (r_x0 : zK S x0 = 0) : Ok (f_X5_hasSoundMen_0 x0 S) (fun o => o.2 = S ∧ ((0 : Int) ≤ o.1.toInt ∧ o.1.toInt ≤ (1 : Int))) := by
  unfold f_X5_hasSoundMen_0
  exact t_f_X5_hasSoundMen_6  hT mFuel x0 (0 : Int32) (0 : Int32) (0 : Int32)  r_x0 (by decide) (by decide) (by decide) (by have z0 : (0 : Int32).toInt = 0 := rfl; have z1 : (0 : Int32).toInt = 0 := rfl; have z2 : (0 : Int32).toInt = 0 := rfl; omega) (by have z0 : (0 : Int32).toInt = 0 := rfl; have z1 : (0 : Int32).toInt = 0 := rfl; have z2 : (0 : Int32).toInt = 0 := rfl; omega) (by show _ < ((200000 : Nat) : Int); have z0 : (0 : Int32).toInt = 0 := rfl; have z1 : (0 : Int32).toInt = 0 := rfl; have z2 : (0 : Int32).toInt = 0 := rfl; omega)
theorem t_f_X5_hasSoundMen {S : ZS} {x0 : Nat} (hT : ZT S) (r_x0 : zK S x0 = 0) : Ok (f_X5_hasSoundMen x0 S) (fun o => o.2 = S ∧ ((0 : Int) ≤ o.1.toInt ∧ o.1.toInt ≤ (1 : Int))) := t_f_X5_hasSoundMen_0 hT r_x0
theorem t_f_X5_hasSoundRights_50 {S : ZS} {self2 : Nat → Int32 → ZS → Option (Int32 × ZS)} {N2 : Nat} (hself2 : ∀ (x0 : Nat) (x1 : Int32),  (zK S x0 = 0) → ((0 : Int) ≤ x1.toInt ∧ x1.toInt ≤ (30 : Int)) → (31 - x1.toInt) < (N2 : Int) → Ok (self2 x0 x1 S) (fun o => o.2 = S ∧ ((0 : Int) ≤ o.1.toInt ∧ o.1.toInt ≤ (1 : Int)))) {x0 : Nat} {x1 : Int32} {x2 : Int32} {x3 : Int32} {t0 : Int32} (hT : ZT S) (r_x0 : zK S x0 = 0) (r_x1 : (0 : Int) ≤ x1.toInt ∧ x1.toInt ≤ (29 : Int)) (r_x2 : (0 : Int) ≤ x2.toInt ∧ x2.toInt ≤ (8 : Int)) (r_x3 : (4 : Int) ≤ x3.toInt ∧ x3.toInt ≤ (60 : Int)) (r_t0 : (0 : Int) ≤ t0.toInt ∧ t0.toInt ≤ (63 : Int)) (m2 : (31 - x1.toInt) ≤ (N2 : Int)) : Ok (f_X5_hasSoundRights_50 self2 x0 x1 x2 x3 t0 S) (fun o => o.2 = S ∧ ((0 : Int) ≤ o.1.toInt ∧ o.1.toInt ≤ (1 : Int))) := by
  unfold f_X5_hasSoundRights_50
  refine ok_chk r_x0 ?_
  refine ok_bnd (fun v1 e112 => ?_)
  refine ok_bnd (fun v2 e113 => ?_)
  have t_v2 := ti_and e113 (show (1 : Int32).toBitVec.toNat = 1 from rfl) (by decide)
  refine ok_if (fun c114 => ?_) (fun c114 => ?_)
  ·
    replace c114 := ti_eqP (a := v2) (b := (1 : Int32)) c114 rfl (show (1 : Int32).toInt = 1 from rfl)
    refine ok_chk r_x0 ?_
    obtain ⟨b3, p_b3, k_b3, n_b3⟩ := T_0_0 hT r_x0
    refine ok_calR p_b3 ?_
    refine ok_chk k_b3 ?_
    refine ok_chk (ti_inN (v := x3) (n := 64) n_b3 (by omega) (by omega)) ?_
    refine ok_bnd (fun v4 e115 => ?_)
    refine ok_bnd (fun v5 e116 => ?_)
    have t_v5 : v5.toInt = 6 + x2.toInt := ti_add e116 (show (6 : Int32).toInt = 6 from rfl) rfl (by omega) (by omega)
    refine ok_if (fun c117 => ?_) (fun c117 => ?_)
    ·
      replace c117 := ti_eqP (a := v4) (b := v5) c117 rfl rfl
      refine ok_chk r_x0 ?_
      obtain ⟨b6, p_b6, k_b6, n_b6⟩ := T_0_0 hT r_x0
      refine ok_calR p_b6 ?_
      refine ok_chk k_b6 ?_
      refine ok_chk (ti_inN (v := t0) (n := 64) n_b6 (by omega) (by omega)) ?_
      refine ok_bnd (fun v7 e118 => ?_)
      refine ok_bnd (fun v8 e119 => ?_)
      have t_v8 : v8.toInt = 4 + x2.toInt := ti_add e119 (show (4 : Int32).toInt = 4 from rfl) rfl (by omega) (by omega)
      refine ok_if (fun c120 => ?_) (fun c120 => ?_)
      ·
        replace c120 := ti_eqP (a := v7) (b := v8) c120 rfl rfl
        unfold f_X5_hasSoundRights_92
        refine ok_bnd (fun v1w121 e121 => ?_)
        have t_v1w121 : v1w121.toInt = x1.toInt + 1 := ti_add e121 rfl (show (1 : Int32).toInt = 1 from rfl) (by omega) (by omega)
        exact hself2 x0 v1w121  r_x0 (by omega) (by omega)
      ·
        replace c120 := ti_eqN (a := v7) (b := v8) c120 rfl rfl
        unfold f_X5_hasSoundRights_90
        refine ok_chk (by decide) ?_
        exact ok_ret ⟨rfl, (show (0 : Int) ≤ (0 : Int32).toInt ∧ (0 : Int32).toInt ≤ (1 : Int) from (by decide))⟩
    ·
      replace c117 := ti_eqN (a := v4) (b := v5) c117 rfl rfl
      unfold f_X5_hasSoundRights_90
      refine ok_chk (by decide) ?_
      exact ok_ret ⟨rfl, (show (0 : Int) ≤ (0 : Int32).toInt ∧ (0 : Int32).toInt ≤ (1 : Int) from (by decide))⟩
  ·
    replace c114 := ti_eqN (a := v2) (b := (1 : Int32)) c114 rfl (show (1 : Int32).toInt = 1 from rfl)
    unfold f_X5_hasSoundRights_92
    refine ok_bnd (fun v1w122 e122 => ?_)
    have t_v1w122 : v1w122.toInt = x1.toInt + 1 := ti_add e122 rfl (show (1 : Int32).toInt = 1 from rfl) (by omega) (by omega)
    exact hself2 x0 v1w122  r_x0 (by omega) (by omega)
theorem t_f_X5_hasSoundRights_34 {S : ZS} {self2 : Nat → Int32 → ZS → Option (Int32 × ZS)} {N2 : Nat} (hself2 : ∀ (x0 : Nat) (x1 : Int32),  (zK S x0 = 0) → ((0 : Int) ≤ x1.toInt ∧ x1.toInt ≤ (30 : Int)) → (31 - x1.toInt) < (N2 : Int) → Ok (self2 x0 x1 S) (fun o => o.2 = S ∧ ((0 : Int) ≤ o.1.toInt ∧ o.1.toInt ≤ (1 : Int)))) {x0 : Nat} {x1 : Int32} {x2 : Int32} {t0 : Int32} (hT : ZT S) (r_x0 : zK S x0 = 0) (r_x1 : (0 : Int) ≤ x1.toInt ∧ x1.toInt ≤ (29 : Int)) (r_x2 : (0 : Int) ≤ x2.toInt ∧ x2.toInt ≤ (8 : Int)) (r_t0 : (4 : Int) ≤ t0.toInt ∧ t0.toInt ≤ (60 : Int)) (m2 : (31 - x1.toInt) ≤ (N2 : Int)) : Ok (f_X5_hasSoundRights_34 self2 x0 x1 x2 t0 S) (fun o => o.2 = S ∧ ((0 : Int) ≤ o.1.toInt ∧ o.1.toInt ≤ (1 : Int))) := by
  unfold f_X5_hasSoundRights_34
  refine ok_bnd (fun v1 e123 => ?_)
  have t_v1 : v1.toInt = x1.toInt % 2 := ti_rem e123 rfl (show (2 : Int32).toInt = 2 from rfl) (by omega) (by decide)
  refine ok_if (fun c124 => ?_) (fun c124 => ?_)
  ·
    replace c124 := ti_eqP (a := v1) (b := (0 : Int32)) c124 rfl (show (0 : Int32).toInt = 0 from rfl)
    refine ok_bnd (fun v3 e125 => ?_)
    have t_v3 : v3.toInt = t0.toInt + 3 := ti_add e125 rfl (show (3 : Int32).toInt = 3 from rfl) (by omega) (by omega)
    exact t_f_X5_hasSoundRights_50 (S := S) hself2 (x0 := x0) (x1 := x1) (x2 := x2) (x3 := t0) (t0 := v3) hT r_x0 r_x1 r_x2 r_t0 (by omega) m2
  ·
    replace c124 := ti_eqN (a := v1) (b := (0 : Int32)) c124 rfl (show (0 : Int32).toInt = 0 from rfl)
    refine ok_bnd (fun v2 e126 => ?_)
    have t_v2 : v2.toInt = t0.toInt - 4 := ti_sub e126 rfl (show (4 : Int32).toInt = 4 from rfl) (by omega) (by omega)
    exact t_f_X5_hasSoundRights_50 (S := S) hself2 (x0 := x0) (x1 := x1) (x2 := x2) (x3 := t0) (t0 := v2) hT r_x0 r_x1 r_x2 r_t0 (by omega) m2
theorem t_f_X5_hasSoundRights_2s {S : ZS} {self2 : Nat → Int32 → ZS → Option (Int32 × ZS)} {N2 : Nat} (hself2 : ∀ (x0 : Nat) (x1 : Int32),  (zK S x0 = 0) → ((0 : Int) ≤ x1.toInt ∧ x1.toInt ≤ (30 : Int)) → (31 - x1.toInt) < (N2 : Int) → Ok (self2 x0 x1 S) (fun o => o.2 = S ∧ ((0 : Int) ≤ o.1.toInt ∧ o.1.toInt ≤ (1 : Int)))) {x0 : Nat} {x1 : Int32} (hT : ZT S) (r_x0 : zK S x0 = 0) (r_x1 : (0 : Int) ≤ x1.toInt ∧ x1.toInt ≤ (30 : Int)) (m2 : (31 - x1.toInt) ≤ (N2 : Int)) : Ok (f_X5_hasSoundRights_2s self2 x0 x1 S) (fun o => o.2 = S ∧ ((0 : Int) ≤ o.1.toInt ∧ o.1.toInt ≤ (1 : Int))) := by
  unfold f_X5_hasSoundRights_2s
  refine ok_chk (by decide) ?_
  obtain ⟨r1, h_r1, p_r1⟩ := roz (t_f_J0_length_8abf5 (x0 := 2) hT (by decide))
  dsimp only at p_r1
  refine ok_calR h_r1 ?_
  refine ok_if (fun c127 => ?_) (fun c127 => ?_)
  ·
    replace c127 := ti_leP (a := r1) (b := x1) c127 rfl rfl
    refine ok_chk (by decide) ?_
    exact ok_ret ⟨rfl, (show (0 : Int) ≤ (1 : Int32).toInt ∧ (1 : Int32).toInt ≤ (1 : Int) from (by decide))⟩
  ·
    replace c127 := ti_leN (a := r1) (b := x1) c127 rfl rfl
    refine ok_if (fun c128 => ?_) (fun c128 => ?_)
    ·
      replace c128 := ti_leP (a := (2 : Int32)) (b := x1) c128 (show (2 : Int32).toInt = 2 from rfl) rfl
      unfold f_X5_hasSoundRights_22
      refine ok_if (fun c129 => ?_) (fun c129 => ?_)
      ·
        replace c129 := ti_leP (a := (2 : Int32)) (b := x1) c129 (show (2 : Int32).toInt = 2 from rfl) rfl
        exact t_f_X5_hasSoundRights_34 (S := S) hself2 (x0 := x0) (x1 := x1) (x2 := (8 : Int32)) (t0 := (60 : Int32)) hT r_x0 (by omega) (by decide) (by decide) m2
      ·
        replace c129 := ti_leN (a := (2 : Int32)) (b := x1) c129 (show (2 : Int32).toInt = 2 from rfl) rfl
        exact t_f_X5_hasSoundRights_34 (S := S) hself2 (x0 := x0) (x1 := x1) (x2 := (8 : Int32)) (t0 := (4 : Int32)) hT r_x0 (by omega) (by decide) (by decide) m2
    ·
      replace c128 := ti_leN (a := (2 : Int32)) (b := x1) c128 (show (2 : Int32).toInt = 2 from rfl) rfl
      unfold f_X5_hasSoundRights_22
      refine ok_if (fun c130 => ?_) (fun c130 => ?_)
      ·
        replace c130 := ti_leP (a := (2 : Int32)) (b := x1) c130 (show (2 : Int32).toInt = 2 from rfl) rfl
        exact t_f_X5_hasSoundRights_34 (S := S) hself2 (x0 := x0) (x1 := x1) (x2 := (0 : Int32)) (t0 := (60 : Int32)) hT r_x0 (by omega) (by decide) (by decide) m2
      ·
        replace c130 := ti_leN (a := (2 : Int32)) (b := x1) c130 (show (2 : Int32).toInt = 2 from rfl) rfl
        exact t_f_X5_hasSoundRights_34 (S := S) hself2 (x0 := x0) (x1 := x1) (x2 := (0 : Int32)) (t0 := (4 : Int32)) hT r_x0 (by omega) (by decide) (by decide) m2
theorem t_f_X5_hasSoundRights_2 {S : ZS} (hT : ZT S) : ∀ (n : Nat) (x0 : Nat) (x1 : Int32),  (zK S x0 = 0) → ((0 : Int) ≤ x1.toInt ∧ x1.toInt ≤ (30 : Int)) → (31 - x1.toInt) < (n : Int) → Ok (f_X5_hasSoundRights_2  n x0 x1 S) (fun o => o.2 = S ∧ ((0 : Int) ≤ o.1.toInt ∧ o.1.toInt ≤ (1 : Int))) := by
  intro n
  induction n with
  | zero => intro x0 x1 g0 g1  hm; exfalso; omega
  | succ n ih =>
    intro x0 x1 g0 g1  hm
    exact t_f_X5_hasSoundRights_2s (N2 := n)  ih hT g0 g1  (by omega)
theorem t_f_X5_hasSoundRights_0 {S : ZS} {x0 : Nat} (hT : ZT S) (r_x0 : zK S x0 = 0) : Ok (f_X5_hasSoundRights_0 x0 S) (fun o => o.2 = S ∧ ((0 : Int) ≤ o.1.toInt ∧ o.1.toInt ≤ (1 : Int))) := by
  unfold f_X5_hasSoundRights_0
  exact t_f_X5_hasSoundRights_2  hT mFuel x0 (0 : Int32)  r_x0 (by decide) (by show _ < ((200000 : Nat) : Int); have z0 : (0 : Int32).toInt = 0 := rfl; omega)
theorem t_f_X5_hasSoundRights {S : ZS} {x0 : Nat} (hT : ZT S) (r_x0 : zK S x0 = 0) : Ok (f_X5_hasSoundRights x0 S) (fun o => o.2 = S ∧ ((0 : Int) ≤ o.1.toInt ∧ o.1.toInt ≤ (1 : Int))) := t_f_X5_hasSoundRights_0 hT r_x0
theorem t_f_X5_hasSoundPassed_62 {S : ZS} {x0 : Nat} {x1 : Int32} {t0 : Int32} (hT : ZT S) (r_x0 : zK S x0 = 0) (r_x1 : (0 : Int) ≤ x1.toInt ∧ x1.toInt ≤ (63 : Int)) (r_t0 : (-8 : Int) ≤ t0.toInt ∧ t0.toInt ≤ (8 : Int)) (q0 : 16 ≤ x1.toInt ∧ x1.toInt ≤ 47) : Ok (f_X5_hasSoundPassed_62 x0 x1 t0 S) (fun o => o.2 = S ∧ ((0 : Int) ≤ o.1.toInt ∧ o.1.toInt ≤ (1 : Int))) := by
  unfold f_X5_hasSoundPassed_62
  refine ok_chk r_x0 ?_
  obtain ⟨b1, p_b1, k_b1, n_b1⟩ := T_0_0 hT r_x0
  refine ok_calR p_b1 ?_
  refine ok_bnd (fun v2 e131 => ?_)
  have t_v2 : v2.toInt = x1.toInt + t0.toInt := ti_add e131 rfl rfl (by omega) (by omega)
  refine ok_chk k_b1 ?_
  refine ok_chk (ti_inN (v := v2) (n := 64) n_b1 (by omega) (by omega)) ?_
  refine ok_bnd (fun v3 e132 => ?_)
  refine ok_chk r_x0 ?_
  refine ok_bnd (fun v4 e133 => ?_)
  have j134 := J_0_3 hT r_x0
  have t_v4 : v4.toInt = 1 - (zI S 3 x0).toInt := ti_sub e133 (show (1 : Int32).toInt = 1 from rfl) rfl (by omega) (by omega)
  refine ok_bnd (fun v5 e135 => ?_)
  have t_v5 : v5.toInt = 8 * v4.toInt := ti_mul e135 (show (8 : Int32).toInt = 8 from rfl) rfl (by omega) (by omega)
  refine ok_bnd (fun v6 e136 => ?_)
  have t_v6 : v6.toInt = 1 + v5.toInt := ti_add e136 (show (1 : Int32).toInt = 1 from rfl) rfl (by omega) (by omega)
  refine ok_if (fun c137 => ?_) (fun c137 => ?_)
  ·
    replace c137 := ti_eqP (a := v3) (b := v6) c137 rfl rfl
    refine ok_chk r_x0 ?_
    obtain ⟨b7, p_b7, k_b7, n_b7⟩ := T_0_0 hT r_x0
    refine ok_calR p_b7 ?_
    refine ok_bnd (fun v8 e138 => ?_)
    have t_v8 : v8.toInt = x1.toInt - t0.toInt := ti_sub e138 rfl rfl (by omega) (by omega)
    refine ok_chk k_b7 ?_
    refine ok_chk (ti_inN (v := v8) (n := 64) n_b7 (by omega) (by omega)) ?_
    refine ok_bnd (fun v9 e139 => ?_)
    refine ok_if (fun c140 => ?_) (fun c140 => ?_)
    ·
      replace c140 := ti_eqP (a := v9) (b := (0 : Int32)) c140 rfl (show (0 : Int32).toInt = 0 from rfl)
      refine ok_chk r_x0 ?_
      refine ok_chk r_x0 ?_
      obtain ⟨r10, h_r10, p_r10⟩ := roz (t_f_X0_pawnAttacks (x0 := x0) (x1 := x1) (x2 := (zI S 3 x0)) hT r_x0 r_x1 (by omega))
      dsimp only at p_r10
      refine ok_calR h_r10 ?_
      refine ok_if (fun c141 => ?_) (fun c141 => ?_)
      ·
        replace c141 := ti_eqP (a := r10) (b := (0 : Int32)) c141 rfl (show (0 : Int32).toInt = 0 from rfl)
        unfold f_X5_hasSoundPassed_112
        unfold f_X5_hasSoundPassed_113
        refine ok_chk (by decide) ?_
        exact ok_ret ⟨rfl, (show (0 : Int) ≤ (0 : Int32).toInt ∧ (0 : Int32).toInt ≤ (1 : Int) from (by decide))⟩
      ·
        replace c141 := ti_eqN (a := r10) (b := (0 : Int32)) c141 rfl (show (0 : Int32).toInt = 0 from rfl)
        unfold f_X5_hasSoundPassed_113
        refine ok_chk (by decide) ?_
        exact ok_ret ⟨rfl, (show (0 : Int) ≤ (1 : Int32).toInt ∧ (1 : Int32).toInt ≤ (1 : Int) from (by decide))⟩
    ·
      replace c140 := ti_eqN (a := v9) (b := (0 : Int32)) c140 rfl (show (0 : Int32).toInt = 0 from rfl)
      unfold f_X5_hasSoundPassed_112
      unfold f_X5_hasSoundPassed_113
      refine ok_chk (by decide) ?_
      exact ok_ret ⟨rfl, (show (0 : Int) ≤ (0 : Int32).toInt ∧ (0 : Int32).toInt ≤ (1 : Int) from (by decide))⟩
  ·
    replace c137 := ti_eqN (a := v3) (b := v6) c137 rfl rfl
    unfold f_X5_hasSoundPassed_112
    unfold f_X5_hasSoundPassed_113
    refine ok_chk (by decide) ?_
    exact ok_ret ⟨rfl, (show (0 : Int) ≤ (0 : Int32).toInt ∧ (0 : Int32).toInt ≤ (1 : Int) from (by decide))⟩
theorem t_f_X5_hasSoundPassed_37 {S : ZS} {x0 : Nat} {x1 : Int32} {x2 : Int32} {t0 : Int32} {t1 : Int32} (hT : ZT S) (r_x0 : zK S x0 = 0) (r_x1 : (0 : Int) ≤ x1.toInt ∧ x1.toInt ≤ (63 : Int)) (r_x2 : (0 : Int) ≤ x2.toInt ∧ x2.toInt ≤ (1 : Int)) (r_t0 : (2 : Int) ≤ t0.toInt ∧ t0.toInt ≤ (5 : Int)) (r_t1 : (0 : Int) ≤ t1.toInt ∧ t1.toInt ≤ (7 : Int)) (q0 : t1.toInt = x1.toInt / 8) (q1 : t0.toInt = 2 ∨ t0.toInt = 5) : Ok (f_X5_hasSoundPassed_37 x0 x1 x2 t0 t1 S) (fun o => o.2 = S ∧ ((0 : Int) ≤ o.1.toInt ∧ o.1.toInt ≤ (1 : Int))) := by
  unfold f_X5_hasSoundPassed_37
  refine ok_if (fun c142 => ?_) (fun c142 => ?_)
  ·
    replace c142 := ti_eqP (a := t1) (b := t0) c142 rfl rfl
    refine ok_chk r_x0 ?_
    obtain ⟨b1, p_b1, k_b1, n_b1⟩ := T_0_0 hT r_x0
    refine ok_calR p_b1 ?_
    refine ok_chk k_b1 ?_
    refine ok_chk (ti_inN (v := x1) (n := 64) n_b1 (by omega) (by omega)) ?_
    refine ok_bnd (fun v2 e143 => ?_)
    refine ok_if (fun c144 => ?_) (fun c144 => ?_)
    ·
      replace c144 := ti_eqP (a := v2) (b := (0 : Int32)) c144 rfl (show (0 : Int32).toInt = 0 from rfl)
      refine ok_if (fun c145 => ?_) (fun c145 => ?_)
      ·
        replace c145 := ti_eqP (a := x2) (b := (0 : Int32)) c145 rfl (show (0 : Int32).toInt = 0 from rfl)
        exact t_f_X5_hasSoundPassed_62 (S := S)  (x0 := x0) (x1 := x1) (t0 := (8 : Int32)) hT r_x0 r_x1 (by decide) (by have z0 : (8 : Int32).toInt = 8 := rfl; omega)
      ·
        replace c145 := ti_eqN (a := x2) (b := (0 : Int32)) c145 rfl (show (0 : Int32).toInt = 0 from rfl)
        exact t_f_X5_hasSoundPassed_62 (S := S)  (x0 := x0) (x1 := x1) (t0 := (-8 : Int32)) hT r_x0 r_x1 (by decide) (by have z0 : (-8 : Int32).toInt = -8 := rfl; omega)
    ·
      replace c144 := ti_eqN (a := v2) (b := (0 : Int32)) c144 rfl (show (0 : Int32).toInt = 0 from rfl)
      unfold f_X5_hasSoundPassed_49
      refine ok_chk (by decide) ?_
      exact ok_ret ⟨rfl, (show (0 : Int) ≤ (0 : Int32).toInt ∧ (0 : Int32).toInt ≤ (1 : Int) from (by decide))⟩
  ·
    replace c142 := ti_eqN (a := t1) (b := t0) c142 rfl rfl
    unfold f_X5_hasSoundPassed_49
    refine ok_chk (by decide) ?_
    exact ok_ret ⟨rfl, (show (0 : Int) ≤ (0 : Int32).toInt ∧ (0 : Int32).toInt ≤ (1 : Int) from (by decide))⟩
theorem t_f_X5_hasSoundPassed_24 {S : ZS} {x0 : Nat} {x1 : Int32} {t0 : Int32} (hT : ZT S) (r_x0 : zK S x0 = 0) (r_x1 : (0 : Int) ≤ x1.toInt ∧ x1.toInt ≤ (63 : Int)) (r_t0 : (0 : Int) ≤ t0.toInt ∧ t0.toInt ≤ (1 : Int)) : Ok (f_X5_hasSoundPassed_24 x0 x1 t0 S) (fun o => o.2 = S ∧ ((0 : Int) ≤ o.1.toInt ∧ o.1.toInt ≤ (1 : Int))) := by
  unfold f_X5_hasSoundPassed_24
  refine ok_bnd (fun v1 e146 => ?_)
  have t_v1 : v1.toInt = x1.toInt / 8 := b_sh3 e146 (by omega)
  refine ok_if (fun c147 => ?_) (fun c147 => ?_)
  ·
    replace c147 := ti_eqP (a := t0) (b := (0 : Int32)) c147 rfl (show (0 : Int32).toInt = 0 from rfl)
    exact t_f_X5_hasSoundPassed_37 (S := S)  (x0 := x0) (x1 := x1) (x2 := t0) (t0 := (2 : Int32)) (t1 := v1) hT r_x0 r_x1 r_t0 (by decide) (by omega) (by have z0 : (2 : Int32).toInt = 2 := rfl; omega) (by have z0 : (2 : Int32).toInt = 2 := rfl; omega)
  ·
    replace c147 := ti_eqN (a := t0) (b := (0 : Int32)) c147 rfl (show (0 : Int32).toInt = 0 from rfl)
    exact t_f_X5_hasSoundPassed_37 (S := S)  (x0 := x0) (x1 := x1) (x2 := t0) (t0 := (5 : Int32)) (t1 := v1) hT r_x0 r_x1 r_t0 (by decide) (by omega) (by have z0 : (5 : Int32).toInt = 5 := rfl; omega) (by have z0 : (5 : Int32).toInt = 5 := rfl; omega)
theorem t_f_X5_hasSoundPassed_0 {S : ZS} {x0 : Nat} (hT : ZT S) (r_x0 : zK S x0 = 0) : Ok (f_X5_hasSoundPassed_0 x0 S) (fun o => o.2 = S ∧ ((0 : Int) ≤ o.1.toInt ∧ o.1.toInt ≤ (1 : Int))) := by
  unfold f_X5_hasSoundPassed_0
  refine ok_chk r_x0 ?_
  have j148 := J_0_5 hT r_x0
  refine ok_if (fun c149 => ?_) (fun c149 => ?_)
  ·
    replace c149 := ti_eqP (a := (zI S 5 x0)) (b := (-1 : Int32)) c149 rfl (show (-1 : Int32).toInt = -1 from rfl)
    refine ok_chk (by decide) ?_
    exact ok_ret ⟨rfl, (show (0 : Int) ≤ (1 : Int32).toInt ∧ (1 : Int32).toInt ≤ (1 : Int) from (by decide))⟩
  ·
    replace c149 := ti_eqN (a := (zI S 5 x0)) (b := (-1 : Int32)) c149 rfl (show (-1 : Int32).toInt = -1 from rfl)
    refine ok_chk r_x0 ?_
    have j150 := J_0_3 hT r_x0
    refine ok_if (fun c151 => ?_) (fun c151 => ?_)
    ·
      replace c151 := ti_eqP (a := (zI S 3 x0)) (b := (0 : Int32)) c151 rfl (show (0 : Int32).toInt = 0 from rfl)
      exact t_f_X5_hasSoundPassed_24 (S := S)  (x0 := x0) (x1 := (zI S 5 x0)) (t0 := (1 : Int32)) hT r_x0 (by omega) (by decide)
    ·
      replace c151 := ti_eqN (a := (zI S 3 x0)) (b := (0 : Int32)) c151 rfl (show (0 : Int32).toInt = 0 from rfl)
      exact t_f_X5_hasSoundPassed_24 (S := S)  (x0 := x0) (x1 := (zI S 5 x0)) (t0 := (0 : Int32)) hT r_x0 (by omega) (by decide)
theorem t_f_X5_hasSoundPassed {S : ZS} {x0 : Nat} (hT : ZT S) (r_x0 : zK S x0 = 0) : Ok (f_X5_hasSoundPassed x0 S) (fun o => o.2 = S ∧ ((0 : Int) ≤ o.1.toInt ∧ o.1.toInt ≤ (1 : Int))) := t_f_X5_hasSoundPassed_0 hT r_x0
theorem t_f_X5_readInto_0 {SZ S : ZS} {x0 : Nat} {x1 : Nat} {x2 : Nat} (hT : ZT S) (hR : A7 SZ S) (r_x0 : zK S x0 = 5) (r_x1 : zK S x1 = 0) (r_x2 : zK S x2 = 6) (c_x2 : rc x2 ≤ 2) : Ok (f_X5_readInto_0 x0 x1 x2 S) (fun o => ZT o.2 ∧ A7 SZ o.2 ∧ ((0 : Int) ≤ o.1.toInt ∧ o.1.toInt ≤ (1 : Int))) := by
  unfold f_X5_readInto_0
  have j152 := J_5_1 hT r_x0
  refine ok_chk r_x0 ?_
  refine ok_bnd (fun S1 e153 => ?_)
  have T_S1 : ZT S1 := e153.symm ▸ zt_P hT r_x0 (by decide) (Or.inr ⟨r_x2, rfl⟩) ⟨(Nat.zero_le _), c_x2⟩
  have kE_S1 : zK S1 = zK S := by rw [e153]; rfl
  have nE_S1 : zN S1 = zN S := by rw [e153]; rfl
  have R_S1 : A7 SZ S1 := a7_P hR e153 r_x0 (by decide)
  have : (zI S1 1 x0).toInt = (zI S 1 x0).toInt := by rw [e153]; rfl
  refine ok_chk ((congrFun kE_S1 x0).trans r_x0) ?_
  refine ok_bnd (fun S2 e154 => ?_)
  have T_S2 : ZT S2 := e154.symm ▸ zt_I T_S1 ((congrFun kE_S1 x0).trans r_x0) (by decide) (show (0 : Int) ≤ (0 : Int32).toInt ∧ (0 : Int32).toInt ≤ (90100 : Int) from (by decide))
  have kE_S2 : zK S2 = zK S1 := by rw [e154]; rfl
  have nE_S2 : zN S2 = zN S1 := by rw [e154]; rfl
  have R_S2 : A7 SZ S2 := a7_I R_S1 e154 ((congrFun kE_S1 x0).trans r_x0) (by decide)
  have : (zI S2 1 x0).toInt = 0 := by rw [e154]; exact (congrArg Int32.toInt (zI_self _ _ _ _)).trans (show (0 : Int32).toInt = 0 from rfl)
  refine ok_chk ((congrFun kE_S2 x1).trans ((congrFun kE_S1 x1).trans r_x1)) ?_
  obtain ⟨⟨r3, S3⟩, h_r3, T_S3, A_S3, -⟩ := t_f_X0_wipe (x0 := x1) (SZ := S2) T_S2 (a7_0 S2) ((congrFun kE_S2 x1).trans ((congrFun kE_S1 x1).trans r_x1))
  replace T_S3 : ZT S3 := T_S3
  replace A_S3 : A7 S2 S3 := A_S3
  refine ok_calR h_r3 ?_
  have q_S3 := fq_X0_wipe h_r3
  have kE_S3 : zK S3 = zK S2 := q_S3.2.2.1
  have nE_S3 : zN S3 = zN S2 := q_S3.2.2.2.1
  have R_S3 : A7 SZ S3 := a7_t R_S2 A_S3
  have : (zI S3 1 x0).toInt = (zI S2 1 x0).toInt := congrArg Int32.toInt ((((fz_X0_wipe h_r3) T_S2.2.2.2.2.1).2.2 x0 (by rw [((congrFun kE_S2 x0).trans ((congrFun kE_S1 x0).trans r_x0))]; decide)).2.2.1 1 (by rw [((congrFun kE_S2 x0).trans ((congrFun kE_S1 x0).trans r_x0))]; decide))
  refine ok_chk ((congrFun kE_S3 x0).trans ((congrFun kE_S2 x0).trans ((congrFun kE_S1 x0).trans r_x0))) ?_
  obtain ⟨⟨r4, S4⟩, h_r4, T_S4, A_S4, p_r4⟩ := t_f_X5_readMen (x0 := x0) (x1 := x1) (SZ := S3) T_S3 (a7_0 S3) ((congrFun kE_S3 x0).trans ((congrFun kE_S2 x0).trans ((congrFun kE_S1 x0).trans r_x0))) ((congrFun kE_S3 x1).trans ((congrFun kE_S2 x1).trans ((congrFun kE_S1 x1).trans r_x1)))
  replace T_S4 : ZT S4 := T_S4
  replace A_S4 : A7 S3 S4 := A_S4
  dsimp only at p_r4
  refine ok_calR h_r4 ?_
  have q_S4 := fq_X5_readMen h_r4
  have kE_S4 : zK S4 = zK S3 := q_S4.2.2.1
  have nE_S4 : zN S4 = zN S3 := q_S4.2.2.2.1
  have R_S4 : A7 SZ S4 := a7_t R_S3 A_S4
  refine ok_if (fun c155 => ?_) (fun c155 => ?_)
  ·
    replace c155 := ti_eqP (a := r4) (b := (0 : Int32)) c155 rfl (show (0 : Int32).toInt = 0 from rfl)
    unfold f_X5_readInto_145
    unfold f_X5_readInto_146
    refine ok_chk (by decide) ?_
    exact ok_ret ⟨T_S4, R_S4, (show (0 : Int) ≤ (0 : Int32).toInt ∧ (0 : Int32).toInt ≤ (1 : Int) from (by decide))⟩
  ·
    replace c155 := ti_eqN (a := r4) (b := (0 : Int32)) c155 rfl (show (0 : Int32).toInt = 0 from rfl)
    refine ok_chk ((congrFun kE_S4 x0).trans ((congrFun kE_S3 x0).trans ((congrFun kE_S2 x0).trans ((congrFun kE_S1 x0).trans r_x0)))) ?_
    have zl156 : (32 : Int32).toInt = 32 := rfl
    have j157 := J_5_1 T_S4 ((congrFun kE_S4 x0).trans ((congrFun kE_S3 x0).trans ((congrFun kE_S2 x0).trans ((congrFun kE_S1 x0).trans r_x0))))
    obtain ⟨⟨r5, S5⟩, h_r5, T_S5, A_S5, p_r5, p_r5_0, p_r5_1⟩ := t_f_X5_skip (x0 := x0) (x1 := (32 : Int32)) (SZ := S4) T_S4 (a7_0 S4) ((congrFun kE_S4 x0).trans ((congrFun kE_S3 x0).trans ((congrFun kE_S2 x0).trans ((congrFun kE_S1 x0).trans r_x0)))) (by have z0 : (32 : Int32).toInt = 32 := rfl; omega)
    replace T_S5 : ZT S5 := T_S5
    replace A_S5 : A7 S4 S5 := A_S5
    dsimp only at p_r5 p_r5_0 p_r5_1
    refine ok_calR h_r5 ?_
    have q_S5 := fq_X5_skip h_r5
    have kE_S5 : zK S5 = zK S4 := q_S5.2.2.1
    have nE_S5 : zN S5 = zN S4 := q_S5.2.2.2.1
    have R_S5 : A7 SZ S5 := a7_t R_S4 A_S5
    refine ok_if (fun c158 => ?_) (fun c158 => ?_)
    ·
      replace c158 := ti_eqP (a := r5) (b := (0 : Int32)) c158 rfl (show (0 : Int32).toInt = 0 from rfl)
      unfold f_X5_readInto_145
      unfold f_X5_readInto_146
      refine ok_chk (by decide) ?_
      exact ok_ret ⟨T_S5, R_S5, (show (0 : Int) ≤ (0 : Int32).toInt ∧ (0 : Int32).toInt ≤ (1 : Int) from (by decide))⟩
    ·
      replace c158 := ti_eqN (a := r5) (b := (0 : Int32)) c158 rfl (show (0 : Int32).toInt = 0 from rfl)
      refine ok_chk ((congrFun kE_S5 x0).trans ((congrFun kE_S4 x0).trans ((congrFun kE_S3 x0).trans ((congrFun kE_S2 x0).trans ((congrFun kE_S1 x0).trans r_x0))))) ?_
      obtain ⟨⟨r6, S6⟩, h_r6, T_S6, A_S6, p_r6⟩ := t_f_X5_readSide (x0 := x0) (x1 := x1) (SZ := S5) T_S5 (a7_0 S5) ((congrFun kE_S5 x0).trans ((congrFun kE_S4 x0).trans ((congrFun kE_S3 x0).trans ((congrFun kE_S2 x0).trans ((congrFun kE_S1 x0).trans r_x0))))) ((congrFun kE_S5 x1).trans ((congrFun kE_S4 x1).trans ((congrFun kE_S3 x1).trans ((congrFun kE_S2 x1).trans ((congrFun kE_S1 x1).trans r_x1)))))
      replace T_S6 : ZT S6 := T_S6
      replace A_S6 : A7 S5 S6 := A_S6
      dsimp only at p_r6
      refine ok_calR h_r6 ?_
      have q_S6 := fq_X5_readSide h_r6
      have kE_S6 : zK S6 = zK S5 := q_S6.2.2.1
      have nE_S6 : zN S6 = zN S5 := q_S6.2.2.2.1
      have R_S6 : A7 SZ S6 := a7_t R_S5 A_S6
      refine ok_if (fun c159 => ?_) (fun c159 => ?_)
      ·
        replace c159 := ti_eqP (a := r6) (b := (0 : Int32)) c159 rfl (show (0 : Int32).toInt = 0 from rfl)
        unfold f_X5_readInto_145
        unfold f_X5_readInto_146
        refine ok_chk (by decide) ?_
        exact ok_ret ⟨T_S6, R_S6, (show (0 : Int) ≤ (0 : Int32).toInt ∧ (0 : Int32).toInt ≤ (1 : Int) from (by decide))⟩
      ·
        replace c159 := ti_eqN (a := r6) (b := (0 : Int32)) c159 rfl (show (0 : Int32).toInt = 0 from rfl)
        refine ok_chk ((congrFun kE_S6 x0).trans ((congrFun kE_S5 x0).trans ((congrFun kE_S4 x0).trans ((congrFun kE_S3 x0).trans ((congrFun kE_S2 x0).trans ((congrFun kE_S1 x0).trans r_x0)))))) ?_
        have zl160 : (32 : Int32).toInt = 32 := rfl
        have j161 := J_5_1 T_S6 ((congrFun kE_S6 x0).trans ((congrFun kE_S5 x0).trans ((congrFun kE_S4 x0).trans ((congrFun kE_S3 x0).trans ((congrFun kE_S2 x0).trans ((congrFun kE_S1 x0).trans r_x0))))))
        obtain ⟨⟨r7, S7⟩, h_r7, T_S7, A_S7, p_r7, p_r7_0, p_r7_1⟩ := t_f_X5_skip (x0 := x0) (x1 := (32 : Int32)) (SZ := S6) T_S6 (a7_0 S6) ((congrFun kE_S6 x0).trans ((congrFun kE_S5 x0).trans ((congrFun kE_S4 x0).trans ((congrFun kE_S3 x0).trans ((congrFun kE_S2 x0).trans ((congrFun kE_S1 x0).trans r_x0)))))) (by have z0 : (32 : Int32).toInt = 32 := rfl; omega)
        replace T_S7 : ZT S7 := T_S7
        replace A_S7 : A7 S6 S7 := A_S7
        dsimp only at p_r7 p_r7_0 p_r7_1
        refine ok_calR h_r7 ?_
        have q_S7 := fq_X5_skip h_r7
        have kE_S7 : zK S7 = zK S6 := q_S7.2.2.1
        have nE_S7 : zN S7 = zN S6 := q_S7.2.2.2.1
        have R_S7 : A7 SZ S7 := a7_t R_S6 A_S7
        refine ok_if (fun c162 => ?_) (fun c162 => ?_)
        ·
          replace c162 := ti_eqP (a := r7) (b := (0 : Int32)) c162 rfl (show (0 : Int32).toInt = 0 from rfl)
          unfold f_X5_readInto_145
          unfold f_X5_readInto_146
          refine ok_chk (by decide) ?_
          exact ok_ret ⟨T_S7, R_S7, (show (0 : Int) ≤ (0 : Int32).toInt ∧ (0 : Int32).toInt ≤ (1 : Int) from (by decide))⟩
        ·
          replace c162 := ti_eqN (a := r7) (b := (0 : Int32)) c162 rfl (show (0 : Int32).toInt = 0 from rfl)
          refine ok_chk ((congrFun kE_S7 x0).trans ((congrFun kE_S6 x0).trans ((congrFun kE_S5 x0).trans ((congrFun kE_S4 x0).trans ((congrFun kE_S3 x0).trans ((congrFun kE_S2 x0).trans ((congrFun kE_S1 x0).trans r_x0))))))) ?_
          have j163 := J_5_1 T_S7 ((congrFun kE_S7 x0).trans ((congrFun kE_S6 x0).trans ((congrFun kE_S5 x0).trans ((congrFun kE_S4 x0).trans ((congrFun kE_S3 x0).trans ((congrFun kE_S2 x0).trans ((congrFun kE_S1 x0).trans r_x0)))))))
          obtain ⟨⟨r8, S8⟩, h_r8, T_S8, A_S8, p_r8⟩ := t_f_X5_readRights (x0 := x0) (x1 := x1) (SZ := S7) T_S7 (a7_0 S7) ((congrFun kE_S7 x0).trans ((congrFun kE_S6 x0).trans ((congrFun kE_S5 x0).trans ((congrFun kE_S4 x0).trans ((congrFun kE_S3 x0).trans ((congrFun kE_S2 x0).trans ((congrFun kE_S1 x0).trans r_x0))))))) ((congrFun kE_S7 x1).trans ((congrFun kE_S6 x1).trans ((congrFun kE_S5 x1).trans ((congrFun kE_S4 x1).trans ((congrFun kE_S3 x1).trans ((congrFun kE_S2 x1).trans ((congrFun kE_S1 x1).trans r_x1))))))) (by omega)
          replace T_S8 : ZT S8 := T_S8
          replace A_S8 : A7 S7 S8 := A_S8
          dsimp only at p_r8
          refine ok_calR h_r8 ?_
          have q_S8 := fq_X5_readRights h_r8
          have kE_S8 : zK S8 = zK S7 := q_S8.2.2.1
          have nE_S8 : zN S8 = zN S7 := q_S8.2.2.2.1
          have R_S8 : A7 SZ S8 := a7_t R_S7 A_S8
          refine ok_if (fun c164 => ?_) (fun c164 => ?_)
          ·
            replace c164 := ti_eqP (a := r8) (b := (0 : Int32)) c164 rfl (show (0 : Int32).toInt = 0 from rfl)
            unfold f_X5_readInto_145
            unfold f_X5_readInto_146
            refine ok_chk (by decide) ?_
            exact ok_ret ⟨T_S8, R_S8, (show (0 : Int) ≤ (0 : Int32).toInt ∧ (0 : Int32).toInt ≤ (1 : Int) from (by decide))⟩
          ·
            replace c164 := ti_eqN (a := r8) (b := (0 : Int32)) c164 rfl (show (0 : Int32).toInt = 0 from rfl)
            refine ok_chk ((congrFun kE_S8 x0).trans ((congrFun kE_S7 x0).trans ((congrFun kE_S6 x0).trans ((congrFun kE_S5 x0).trans ((congrFun kE_S4 x0).trans ((congrFun kE_S3 x0).trans ((congrFun kE_S2 x0).trans ((congrFun kE_S1 x0).trans r_x0)))))))) ?_
            have zl165 : (32 : Int32).toInt = 32 := rfl
            have j166 := J_5_1 T_S8 ((congrFun kE_S8 x0).trans ((congrFun kE_S7 x0).trans ((congrFun kE_S6 x0).trans ((congrFun kE_S5 x0).trans ((congrFun kE_S4 x0).trans ((congrFun kE_S3 x0).trans ((congrFun kE_S2 x0).trans ((congrFun kE_S1 x0).trans r_x0))))))))
            obtain ⟨⟨r9, S9⟩, h_r9, T_S9, A_S9, p_r9, p_r9_0, p_r9_1⟩ := t_f_X5_skip (x0 := x0) (x1 := (32 : Int32)) (SZ := S8) T_S8 (a7_0 S8) ((congrFun kE_S8 x0).trans ((congrFun kE_S7 x0).trans ((congrFun kE_S6 x0).trans ((congrFun kE_S5 x0).trans ((congrFun kE_S4 x0).trans ((congrFun kE_S3 x0).trans ((congrFun kE_S2 x0).trans ((congrFun kE_S1 x0).trans r_x0)))))))) (by have z0 : (32 : Int32).toInt = 32 := rfl; omega)
            replace T_S9 : ZT S9 := T_S9
            replace A_S9 : A7 S8 S9 := A_S9
            dsimp only at p_r9 p_r9_0 p_r9_1
            refine ok_calR h_r9 ?_
            have q_S9 := fq_X5_skip h_r9
            have kE_S9 : zK S9 = zK S8 := q_S9.2.2.1
            have nE_S9 : zN S9 = zN S8 := q_S9.2.2.2.1
            have R_S9 : A7 SZ S9 := a7_t R_S8 A_S9
            refine ok_if (fun c167 => ?_) (fun c167 => ?_)
            ·
              replace c167 := ti_eqP (a := r9) (b := (0 : Int32)) c167 rfl (show (0 : Int32).toInt = 0 from rfl)
              unfold f_X5_readInto_145
              unfold f_X5_readInto_146
              refine ok_chk (by decide) ?_
              exact ok_ret ⟨T_S9, R_S9, (show (0 : Int) ≤ (0 : Int32).toInt ∧ (0 : Int32).toInt ≤ (1 : Int) from (by decide))⟩
            ·
              replace c167 := ti_eqN (a := r9) (b := (0 : Int32)) c167 rfl (show (0 : Int32).toInt = 0 from rfl)
              refine ok_chk ((congrFun kE_S9 x0).trans ((congrFun kE_S8 x0).trans ((congrFun kE_S7 x0).trans ((congrFun kE_S6 x0).trans ((congrFun kE_S5 x0).trans ((congrFun kE_S4 x0).trans ((congrFun kE_S3 x0).trans ((congrFun kE_S2 x0).trans ((congrFun kE_S1 x0).trans r_x0))))))))) ?_
              have j168 := J_5_1 T_S9 ((congrFun kE_S9 x0).trans ((congrFun kE_S8 x0).trans ((congrFun kE_S7 x0).trans ((congrFun kE_S6 x0).trans ((congrFun kE_S5 x0).trans ((congrFun kE_S4 x0).trans ((congrFun kE_S3 x0).trans ((congrFun kE_S2 x0).trans ((congrFun kE_S1 x0).trans r_x0)))))))))
              obtain ⟨⟨r10, S10⟩, h_r10, T_S10, A_S10, p_r10⟩ := t_f_X5_readPassed (x0 := x0) (x1 := x1) (SZ := S9) T_S9 (a7_0 S9) ((congrFun kE_S9 x0).trans ((congrFun kE_S8 x0).trans ((congrFun kE_S7 x0).trans ((congrFun kE_S6 x0).trans ((congrFun kE_S5 x0).trans ((congrFun kE_S4 x0).trans ((congrFun kE_S3 x0).trans ((congrFun kE_S2 x0).trans ((congrFun kE_S1 x0).trans r_x0))))))))) ((congrFun kE_S9 x1).trans ((congrFun kE_S8 x1).trans ((congrFun kE_S7 x1).trans ((congrFun kE_S6 x1).trans ((congrFun kE_S5 x1).trans ((congrFun kE_S4 x1).trans ((congrFun kE_S3 x1).trans ((congrFun kE_S2 x1).trans ((congrFun kE_S1 x1).trans r_x1))))))))) (by omega)
              replace T_S10 : ZT S10 := T_S10
              replace A_S10 : A7 S9 S10 := A_S10
              dsimp only at p_r10
              refine ok_calR h_r10 ?_
              have q_S10 := fq_X5_readPassed h_r10
              have kE_S10 : zK S10 = zK S9 := q_S10.2.2.1
              have nE_S10 : zN S10 = zN S9 := q_S10.2.2.2.1
              have R_S10 : A7 SZ S10 := a7_t R_S9 A_S10
              refine ok_if (fun c169 => ?_) (fun c169 => ?_)
              ·
                replace c169 := ti_eqP (a := r10) (b := (0 : Int32)) c169 rfl (show (0 : Int32).toInt = 0 from rfl)
                unfold f_X5_readInto_145
                unfold f_X5_readInto_146
                refine ok_chk (by decide) ?_
                exact ok_ret ⟨T_S10, R_S10, (show (0 : Int) ≤ (0 : Int32).toInt ∧ (0 : Int32).toInt ≤ (1 : Int) from (by decide))⟩
              ·
                replace c169 := ti_eqN (a := r10) (b := (0 : Int32)) c169 rfl (show (0 : Int32).toInt = 0 from rfl)
                refine ok_chk ((congrFun kE_S10 x0).trans ((congrFun kE_S9 x0).trans ((congrFun kE_S8 x0).trans ((congrFun kE_S7 x0).trans ((congrFun kE_S6 x0).trans ((congrFun kE_S5 x0).trans ((congrFun kE_S4 x0).trans ((congrFun kE_S3 x0).trans ((congrFun kE_S2 x0).trans ((congrFun kE_S1 x0).trans r_x0)))))))))) ?_
                have zl170 : (32 : Int32).toInt = 32 := rfl
                have j171 := J_5_1 T_S10 ((congrFun kE_S10 x0).trans ((congrFun kE_S9 x0).trans ((congrFun kE_S8 x0).trans ((congrFun kE_S7 x0).trans ((congrFun kE_S6 x0).trans ((congrFun kE_S5 x0).trans ((congrFun kE_S4 x0).trans ((congrFun kE_S3 x0).trans ((congrFun kE_S2 x0).trans ((congrFun kE_S1 x0).trans r_x0))))))))))
                obtain ⟨⟨r11, S11⟩, h_r11, T_S11, A_S11, p_r11, p_r11_0, p_r11_1⟩ := t_f_X5_skip (x0 := x0) (x1 := (32 : Int32)) (SZ := S10) T_S10 (a7_0 S10) ((congrFun kE_S10 x0).trans ((congrFun kE_S9 x0).trans ((congrFun kE_S8 x0).trans ((congrFun kE_S7 x0).trans ((congrFun kE_S6 x0).trans ((congrFun kE_S5 x0).trans ((congrFun kE_S4 x0).trans ((congrFun kE_S3 x0).trans ((congrFun kE_S2 x0).trans ((congrFun kE_S1 x0).trans r_x0)))))))))) (by have z0 : (32 : Int32).toInt = 32 := rfl; omega)
                replace T_S11 : ZT S11 := T_S11
                replace A_S11 : A7 S10 S11 := A_S11
                dsimp only at p_r11 p_r11_0 p_r11_1
                refine ok_calR h_r11 ?_
                have q_S11 := fq_X5_skip h_r11
                have kE_S11 : zK S11 = zK S10 := q_S11.2.2.1
                have nE_S11 : zN S11 = zN S10 := q_S11.2.2.2.1
                have R_S11 : A7 SZ S11 := a7_t R_S10 A_S11
                refine ok_if (fun c172 => ?_) (fun c172 => ?_)
                ·
                  replace c172 := ti_eqP (a := r11) (b := (0 : Int32)) c172 rfl (show (0 : Int32).toInt = 0 from rfl)
                  unfold f_X5_readInto_145
                  unfold f_X5_readInto_146
                  refine ok_chk (by decide) ?_
                  exact ok_ret ⟨T_S11, R_S11, (show (0 : Int) ≤ (0 : Int32).toInt ∧ (0 : Int32).toInt ≤ (1 : Int) from (by decide))⟩
                ·
                  replace c172 := ti_eqN (a := r11) (b := (0 : Int32)) c172 rfl (show (0 : Int32).toInt = 0 from rfl)
                  refine ok_chk ((congrFun kE_S11 x0).trans ((congrFun kE_S10 x0).trans ((congrFun kE_S9 x0).trans ((congrFun kE_S8 x0).trans ((congrFun kE_S7 x0).trans ((congrFun kE_S6 x0).trans ((congrFun kE_S5 x0).trans ((congrFun kE_S4 x0).trans ((congrFun kE_S3 x0).trans ((congrFun kE_S2 x0).trans ((congrFun kE_S1 x0).trans r_x0))))))))))) ?_
                  obtain ⟨⟨r12, S12⟩, h_r12, T_S12, A_S12, -⟩ := t_f_X5_readNumber (x0 := x0) (SZ := S11) T_S11 (a7_0 S11) ((congrFun kE_S11 x0).trans ((congrFun kE_S10 x0).trans ((congrFun kE_S9 x0).trans ((congrFun kE_S8 x0).trans ((congrFun kE_S7 x0).trans ((congrFun kE_S6 x0).trans ((congrFun kE_S5 x0).trans ((congrFun kE_S4 x0).trans ((congrFun kE_S3 x0).trans ((congrFun kE_S2 x0).trans ((congrFun kE_S1 x0).trans r_x0)))))))))))
                  replace T_S12 : ZT S12 := T_S12
                  replace A_S12 : A7 S11 S12 := A_S12
                  refine ok_calR h_r12 ?_
                  have q_S12 := fq_X5_readNumber h_r12
                  have kE_S12 : zK S12 = zK S11 := q_S12.2.2.1
                  have nE_S12 : zN S12 = zN S11 := q_S12.2.2.2.1
                  have R_S12 : A7 SZ S12 := a7_t R_S11 A_S12
                  refine ok_if (fun c173 => ?_) (fun c173 => ?_)
                  ·
                    replace c173 := ti_ltP (a := r12) (b := (0 : Int32)) c173 rfl (show (0 : Int32).toInt = 0 from rfl)
                    unfold f_X5_readInto_145
                    unfold f_X5_readInto_146
                    refine ok_chk (by decide) ?_
                    exact ok_ret ⟨T_S12, R_S12, (show (0 : Int) ≤ (0 : Int32).toInt ∧ (0 : Int32).toInt ≤ (1 : Int) from (by decide))⟩
                  ·
                    replace c173 := ti_ltN (a := r12) (b := (0 : Int32)) c173 rfl (show (0 : Int32).toInt = 0 from rfl)
                    refine ok_chk ((congrFun kE_S12 x0).trans ((congrFun kE_S11 x0).trans ((congrFun kE_S10 x0).trans ((congrFun kE_S9 x0).trans ((congrFun kE_S8 x0).trans ((congrFun kE_S7 x0).trans ((congrFun kE_S6 x0).trans ((congrFun kE_S5 x0).trans ((congrFun kE_S4 x0).trans ((congrFun kE_S3 x0).trans ((congrFun kE_S2 x0).trans ((congrFun kE_S1 x0).trans r_x0)))))))))))) ?_
                    have zl174 : (32 : Int32).toInt = 32 := rfl
                    have j175 := J_5_1 T_S12 ((congrFun kE_S12 x0).trans ((congrFun kE_S11 x0).trans ((congrFun kE_S10 x0).trans ((congrFun kE_S9 x0).trans ((congrFun kE_S8 x0).trans ((congrFun kE_S7 x0).trans ((congrFun kE_S6 x0).trans ((congrFun kE_S5 x0).trans ((congrFun kE_S4 x0).trans ((congrFun kE_S3 x0).trans ((congrFun kE_S2 x0).trans ((congrFun kE_S1 x0).trans r_x0))))))))))))
                    obtain ⟨⟨r13, S13⟩, h_r13, T_S13, A_S13, p_r13, p_r13_0, p_r13_1⟩ := t_f_X5_skip (x0 := x0) (x1 := (32 : Int32)) (SZ := S12) T_S12 (a7_0 S12) ((congrFun kE_S12 x0).trans ((congrFun kE_S11 x0).trans ((congrFun kE_S10 x0).trans ((congrFun kE_S9 x0).trans ((congrFun kE_S8 x0).trans ((congrFun kE_S7 x0).trans ((congrFun kE_S6 x0).trans ((congrFun kE_S5 x0).trans ((congrFun kE_S4 x0).trans ((congrFun kE_S3 x0).trans ((congrFun kE_S2 x0).trans ((congrFun kE_S1 x0).trans r_x0)))))))))))) (by have z0 : (32 : Int32).toInt = 32 := rfl; omega)
                    replace T_S13 : ZT S13 := T_S13
                    replace A_S13 : A7 S12 S13 := A_S13
                    dsimp only at p_r13 p_r13_0 p_r13_1
                    refine ok_calR h_r13 ?_
                    have q_S13 := fq_X5_skip h_r13
                    have kE_S13 : zK S13 = zK S12 := q_S13.2.2.1
                    have nE_S13 : zN S13 = zN S12 := q_S13.2.2.2.1
                    have R_S13 : A7 SZ S13 := a7_t R_S12 A_S13
                    refine ok_if (fun c176 => ?_) (fun c176 => ?_)
                    ·
                      replace c176 := ti_eqP (a := r13) (b := (0 : Int32)) c176 rfl (show (0 : Int32).toInt = 0 from rfl)
                      unfold f_X5_readInto_145
                      unfold f_X5_readInto_146
                      refine ok_chk (by decide) ?_
                      exact ok_ret ⟨T_S13, R_S13, (show (0 : Int) ≤ (0 : Int32).toInt ∧ (0 : Int32).toInt ≤ (1 : Int) from (by decide))⟩
                    ·
                      replace c176 := ti_eqN (a := r13) (b := (0 : Int32)) c176 rfl (show (0 : Int32).toInt = 0 from rfl)
                      refine ok_chk ((congrFun kE_S13 x0).trans ((congrFun kE_S12 x0).trans ((congrFun kE_S11 x0).trans ((congrFun kE_S10 x0).trans ((congrFun kE_S9 x0).trans ((congrFun kE_S8 x0).trans ((congrFun kE_S7 x0).trans ((congrFun kE_S6 x0).trans ((congrFun kE_S5 x0).trans ((congrFun kE_S4 x0).trans ((congrFun kE_S3 x0).trans ((congrFun kE_S2 x0).trans ((congrFun kE_S1 x0).trans r_x0))))))))))))) ?_
                      obtain ⟨⟨r14, S14⟩, h_r14, T_S14, A_S14, p_r14⟩ := t_f_X5_readMoveNumber (x0 := x0) (x1 := x1) (SZ := S13) T_S13 (a7_0 S13) ((congrFun kE_S13 x0).trans ((congrFun kE_S12 x0).trans ((congrFun kE_S11 x0).trans ((congrFun kE_S10 x0).trans ((congrFun kE_S9 x0).trans ((congrFun kE_S8 x0).trans ((congrFun kE_S7 x0).trans ((congrFun kE_S6 x0).trans ((congrFun kE_S5 x0).trans ((congrFun kE_S4 x0).trans ((congrFun kE_S3 x0).trans ((congrFun kE_S2 x0).trans ((congrFun kE_S1 x0).trans r_x0))))))))))))) ((congrFun kE_S13 x1).trans ((congrFun kE_S12 x1).trans ((congrFun kE_S11 x1).trans ((congrFun kE_S10 x1).trans ((congrFun kE_S9 x1).trans ((congrFun kE_S8 x1).trans ((congrFun kE_S7 x1).trans ((congrFun kE_S6 x1).trans ((congrFun kE_S5 x1).trans ((congrFun kE_S4 x1).trans ((congrFun kE_S3 x1).trans ((congrFun kE_S2 x1).trans ((congrFun kE_S1 x1).trans r_x1)))))))))))))
                      replace T_S14 : ZT S14 := T_S14
                      replace A_S14 : A7 S13 S14 := A_S14
                      dsimp only at p_r14
                      refine ok_calR h_r14 ?_
                      have q_S14 := fq_X5_readMoveNumber h_r14
                      have kE_S14 : zK S14 = zK S13 := q_S14.2.2.1
                      have nE_S14 : zN S14 = zN S13 := q_S14.2.2.2.1
                      have R_S14 : A7 SZ S14 := a7_t R_S13 A_S14
                      refine ok_if (fun c177 => ?_) (fun c177 => ?_)
                      ·
                        replace c177 := ti_eqP (a := r14) (b := (0 : Int32)) c177 rfl (show (0 : Int32).toInt = 0 from rfl)
                        unfold f_X5_readInto_145
                        unfold f_X5_readInto_146
                        refine ok_chk (by decide) ?_
                        exact ok_ret ⟨T_S14, R_S14, (show (0 : Int) ≤ (0 : Int32).toInt ∧ (0 : Int32).toInt ≤ (1 : Int) from (by decide))⟩
                      ·
                        replace c177 := ti_eqN (a := r14) (b := (0 : Int32)) c177 rfl (show (0 : Int32).toInt = 0 from rfl)
                        refine ok_chk ((congrFun kE_S14 x0).trans ((congrFun kE_S13 x0).trans ((congrFun kE_S12 x0).trans ((congrFun kE_S11 x0).trans ((congrFun kE_S10 x0).trans ((congrFun kE_S9 x0).trans ((congrFun kE_S8 x0).trans ((congrFun kE_S7 x0).trans ((congrFun kE_S6 x0).trans ((congrFun kE_S5 x0).trans ((congrFun kE_S4 x0).trans ((congrFun kE_S3 x0).trans ((congrFun kE_S2 x0).trans ((congrFun kE_S1 x0).trans r_x0)))))))))))))) ?_
                        refine ok_chk ((congrFun kE_S14 x0).trans ((congrFun kE_S13 x0).trans ((congrFun kE_S12 x0).trans ((congrFun kE_S11 x0).trans ((congrFun kE_S10 x0).trans ((congrFun kE_S9 x0).trans ((congrFun kE_S8 x0).trans ((congrFun kE_S7 x0).trans ((congrFun kE_S6 x0).trans ((congrFun kE_S5 x0).trans ((congrFun kE_S4 x0).trans ((congrFun kE_S3 x0).trans ((congrFun kE_S2 x0).trans ((congrFun kE_S1 x0).trans r_x0)))))))))))))) ?_
                        obtain ⟨b15, p_b15, k_b15, c_b15⟩ := T_5_0 T_S14 ((congrFun kE_S14 x0).trans ((congrFun kE_S13 x0).trans ((congrFun kE_S12 x0).trans ((congrFun kE_S11 x0).trans ((congrFun kE_S10 x0).trans ((congrFun kE_S9 x0).trans ((congrFun kE_S8 x0).trans ((congrFun kE_S7 x0).trans ((congrFun kE_S6 x0).trans ((congrFun kE_S5 x0).trans ((congrFun kE_S4 x0).trans ((congrFun kE_S3 x0).trans ((congrFun kE_S2 x0).trans ((congrFun kE_S1 x0).trans r_x0))))))))))))))
                        refine ok_calR p_b15 ?_
                        refine ok_chk k_b15 ?_
                        have j178 := J61_2 T_S14 k_b15 c_b15
                        obtain ⟨r16, h_r16, p_r16⟩ := roz (t_f_X6_size (x0 := b15) T_S14 k_b15)
                        dsimp only at p_r16
                        refine ok_calR h_r16 ?_
                        have j179 := J_5_1 T_S14 ((congrFun kE_S14 x0).trans ((congrFun kE_S13 x0).trans ((congrFun kE_S12 x0).trans ((congrFun kE_S11 x0).trans ((congrFun kE_S10 x0).trans ((congrFun kE_S9 x0).trans ((congrFun kE_S8 x0).trans ((congrFun kE_S7 x0).trans ((congrFun kE_S6 x0).trans ((congrFun kE_S5 x0).trans ((congrFun kE_S4 x0).trans ((congrFun kE_S3 x0).trans ((congrFun kE_S2 x0).trans ((congrFun kE_S1 x0).trans r_x0))))))))))))))
                        refine ok_if (fun c180 => ?_) (fun c180 => ?_)
                        ·
                          replace c180 := ti_eqP (a := (zI S14 1 x0)) (b := r16) c180 rfl rfl
                          obtain ⟨r17, h_r17, p_r17⟩ := roz (t_f_X5_hasSoundMen (x0 := x1) T_S14 ((congrFun kE_S14 x1).trans ((congrFun kE_S13 x1).trans ((congrFun kE_S12 x1).trans ((congrFun kE_S11 x1).trans ((congrFun kE_S10 x1).trans ((congrFun kE_S9 x1).trans ((congrFun kE_S8 x1).trans ((congrFun kE_S7 x1).trans ((congrFun kE_S6 x1).trans ((congrFun kE_S5 x1).trans ((congrFun kE_S4 x1).trans ((congrFun kE_S3 x1).trans ((congrFun kE_S2 x1).trans ((congrFun kE_S1 x1).trans r_x1)))))))))))))))
                          dsimp only at p_r17
                          refine ok_calR h_r17 ?_
                          refine ok_if (fun c181 => ?_) (fun c181 => ?_)
                          ·
                            replace c181 := ti_eqP (a := r17) (b := (0 : Int32)) c181 rfl (show (0 : Int32).toInt = 0 from rfl)
                            unfold f_X5_readInto_145
                            unfold f_X5_readInto_146
                            refine ok_chk (by decide) ?_
                            exact ok_ret ⟨T_S14, R_S14, (show (0 : Int) ≤ (0 : Int32).toInt ∧ (0 : Int32).toInt ≤ (1 : Int) from (by decide))⟩
                          ·
                            replace c181 := ti_eqN (a := r17) (b := (0 : Int32)) c181 rfl (show (0 : Int32).toInt = 0 from rfl)
                            obtain ⟨r18, h_r18, p_r18⟩ := roz (t_f_X5_hasSoundRights (x0 := x1) T_S14 ((congrFun kE_S14 x1).trans ((congrFun kE_S13 x1).trans ((congrFun kE_S12 x1).trans ((congrFun kE_S11 x1).trans ((congrFun kE_S10 x1).trans ((congrFun kE_S9 x1).trans ((congrFun kE_S8 x1).trans ((congrFun kE_S7 x1).trans ((congrFun kE_S6 x1).trans ((congrFun kE_S5 x1).trans ((congrFun kE_S4 x1).trans ((congrFun kE_S3 x1).trans ((congrFun kE_S2 x1).trans ((congrFun kE_S1 x1).trans r_x1)))))))))))))))
                            dsimp only at p_r18
                            refine ok_calR h_r18 ?_
                            refine ok_if (fun c182 => ?_) (fun c182 => ?_)
                            ·
                              replace c182 := ti_eqP (a := r18) (b := (0 : Int32)) c182 rfl (show (0 : Int32).toInt = 0 from rfl)
                              unfold f_X5_readInto_145
                              unfold f_X5_readInto_146
                              refine ok_chk (by decide) ?_
                              exact ok_ret ⟨T_S14, R_S14, (show (0 : Int) ≤ (0 : Int32).toInt ∧ (0 : Int32).toInt ≤ (1 : Int) from (by decide))⟩
                            ·
                              replace c182 := ti_eqN (a := r18) (b := (0 : Int32)) c182 rfl (show (0 : Int32).toInt = 0 from rfl)
                              obtain ⟨r19, h_r19, p_r19⟩ := roz (t_f_X5_hasSoundPassed (x0 := x1) T_S14 ((congrFun kE_S14 x1).trans ((congrFun kE_S13 x1).trans ((congrFun kE_S12 x1).trans ((congrFun kE_S11 x1).trans ((congrFun kE_S10 x1).trans ((congrFun kE_S9 x1).trans ((congrFun kE_S8 x1).trans ((congrFun kE_S7 x1).trans ((congrFun kE_S6 x1).trans ((congrFun kE_S5 x1).trans ((congrFun kE_S4 x1).trans ((congrFun kE_S3 x1).trans ((congrFun kE_S2 x1).trans ((congrFun kE_S1 x1).trans r_x1)))))))))))))))
                              dsimp only at p_r19
                              refine ok_calR h_r19 ?_
                              refine ok_if (fun c183 => ?_) (fun c183 => ?_)
                              ·
                                replace c183 := ti_eqP (a := r19) (b := (0 : Int32)) c183 rfl (show (0 : Int32).toInt = 0 from rfl)
                                unfold f_X5_readInto_145
                                unfold f_X5_readInto_146
                                refine ok_chk (by decide) ?_
                                exact ok_ret ⟨T_S14, R_S14, (show (0 : Int) ≤ (0 : Int32).toInt ∧ (0 : Int32).toInt ≤ (1 : Int) from (by decide))⟩
                              ·
                                replace c183 := ti_eqN (a := r19) (b := (0 : Int32)) c183 rfl (show (0 : Int32).toInt = 0 from rfl)
                                unfold f_X5_readInto_146
                                refine ok_chk (by decide) ?_
                                exact ok_ret ⟨T_S14, R_S14, (show (0 : Int) ≤ (1 : Int32).toInt ∧ (1 : Int32).toInt ≤ (1 : Int) from (by decide))⟩
                        ·
                          replace c180 := ti_eqN (a := (zI S14 1 x0)) (b := r16) c180 rfl rfl
                          unfold f_X5_readInto_145
                          unfold f_X5_readInto_146
                          refine ok_chk (by decide) ?_
                          exact ok_ret ⟨T_S14, R_S14, (show (0 : Int) ≤ (0 : Int32).toInt ∧ (0 : Int32).toInt ≤ (1 : Int) from (by decide))⟩
theorem t_f_X5_readInto {SZ S : ZS} {x0 : Nat} {x1 : Nat} {x2 : Nat} (hT : ZT S) (hR : A7 SZ S) (r_x0 : zK S x0 = 5) (r_x1 : zK S x1 = 0) (r_x2 : zK S x2 = 6) (c_x2 : rc x2 ≤ 2) : Ok (f_X5_readInto x0 x1 x2 S) (fun o => ZT o.2 ∧ A7 SZ o.2 ∧ ((0 : Int) ≤ o.1.toInt ∧ o.1.toInt ≤ (1 : Int))) := t_f_X5_readInto_0 hT hR r_x0 r_x1 r_x2 c_x2
theorem t_f_X2_begin_0 {SZ S : ZS} {x0 : Nat} {x1 : Nat} (hT : ZT S) (hR : A7 SZ S) (r_x0 : zK S x0 = 2) (r_x1 : zK S x1 = 6) (c_x1 : rc x1 ≤ 2) : Ok (f_X2_begin_0 x0 x1 S) (fun o => ZT o.2 ∧ A7 SZ o.2 ∧ True) := by
  unfold f_X2_begin_0
  refine ok_chk r_x0 ?_
  refine ok_bnd (fun S1 e184 => ?_)
  have T_S1 : ZT S1 := e184.symm ▸ zt_P hT r_x0 (by decide) (Or.inr ⟨r_x1, rfl⟩) ⟨(Nat.zero_le _), c_x1⟩
  have kE_S1 : zK S1 = zK S := by rw [e184]; rfl
  have nE_S1 : zN S1 = zN S := by rw [e184]; rfl
  have R_S1 : A7 SZ S1 := a7_P hR e184 r_x0 (by decide)
  refine ok_chk ((congrFun kE_S1 x0).trans r_x0) ?_
  obtain ⟨b2, p_b2, k_b2⟩ := T_2_3 T_S1 ((congrFun kE_S1 x0).trans r_x0)
  have lo_b2 := M_2_3 T_S1 ((congrFun kE_S1 x0).trans r_x0) p_b2
  refine ok_calR p_b2 ?_
  refine ok_chk k_b2 ?_
  obtain ⟨⟨r3, S3⟩, h_r3, T_S3, A_S3, -⟩ := t_f_X1_wipe (x0 := b2) (SZ := S1) T_S1 (a7_0 S1) k_b2
  replace T_S3 : ZT S3 := T_S3
  replace A_S3 : A7 S1 S3 := A_S3
  refine ok_calR h_r3 ?_
  have q_S3 := fq_X1_wipe h_r3
  have kE_S3 : zK S3 = zK S1 := q_S3.2.2.1
  have nE_S3 : zN S3 = zN S1 := q_S3.2.2.2.1
  have R_S3 : A7 SZ S3 := a7_t R_S1 A_S3
  refine ok_chk ((congrFun kE_S3 x0).trans ((congrFun kE_S1 x0).trans r_x0)) ?_
  refine ok_bnd (fun S4 e185 => ?_)
  have T_S4 : ZT S4 := e185.symm ▸ zt_I T_S3 ((congrFun kE_S3 x0).trans ((congrFun kE_S1 x0).trans r_x0)) (by decide) (show (0 : Int) ≤ (0 : Int32).toInt ∧ (0 : Int32).toInt ≤ (90100 : Int) from (by decide))
  have kE_S4 : zK S4 = zK S3 := by rw [e185]; rfl
  have nE_S4 : zN S4 = zN S3 := by rw [e185]; rfl
  have R_S4 : A7 SZ S4 := a7_I R_S3 e185 ((congrFun kE_S3 x0).trans ((congrFun kE_S1 x0).trans r_x0)) (by decide)
  refine ok_chk ((congrFun kE_S4 x0).trans ((congrFun kE_S3 x0).trans ((congrFun kE_S1 x0).trans r_x0))) ?_
  refine ok_bnd (fun S5 e186 => ?_)
  have T_S5 : ZT S5 := e186.symm ▸ zt_W T_S4 ((congrFun kE_S4 x0).trans ((congrFun kE_S3 x0).trans ((congrFun kE_S1 x0).trans r_x0))) (by decide) rfl
  have kE_S5 : zK S5 = zK S4 := by rw [e186]; rfl
  have nE_S5 : zN S5 = zN S4 := by rw [e186]; rfl
  have R_S5 : A7 SZ S5 := a7_I R_S4 e186 ((congrFun kE_S4 x0).trans ((congrFun kE_S3 x0).trans ((congrFun kE_S1 x0).trans r_x0))) (by decide)
  exact ok_ret ⟨T_S5, R_S5, trivial⟩
theorem t_f_X2_begin {SZ S : ZS} {x0 : Nat} {x1 : Nat} (hT : ZT S) (hR : A7 SZ S) (r_x0 : zK S x0 = 2) (r_x1 : zK S x1 = 6) (c_x1 : rc x1 ≤ 2) : Ok (f_X2_begin x0 x1 S) (fun o => ZT o.2 ∧ A7 SZ o.2 ∧ True) := t_f_X2_begin_0 hT hR r_x0 r_x1 c_x1
theorem t_f_X2_exchange_0 {SZ S : ZS} {x0 : Nat} {x1 : Nat} (hT : ZT S) (hR : A7 SZ S) (r_x0 : zK S x0 = 2) (r_x1 : zK S x1 = 1) (q0 : 4 ≤ rc x1) : Ok (f_X2_exchange_0 x0 x1 S) (fun o => ZT o.2 ∧ A7 SZ o.2 ∧ (zK o.2 o.1 = 1) ∧ (4 ≤ rc o.1)) := by
  unfold f_X2_exchange_0
  refine ok_chk r_x0 ?_
  obtain ⟨b1, p_b1, k_b1⟩ := T_2_3 hT r_x0
  have lo_b1 := M_2_3 hT r_x0 p_b1
  refine ok_calR p_b1 ?_
  refine ok_chk r_x0 ?_
  refine ok_bnd (fun S2 e187 => ?_)
  have T_S2 : ZT S2 := e187.symm ▸ zt_P hT r_x0 (by decide) (Or.inr ⟨r_x1, rfl⟩) ⟨q0, (rc_le _)⟩
  have kE_S2 : zK S2 = zK S := by rw [e187]; rfl
  have nE_S2 : zN S2 = zN S := by rw [e187]; rfl
  have R_S2 : A7 SZ S2 := a7_P hR e187 r_x0 (by decide)
  exact ok_ret ⟨T_S2, R_S2, ((congrFun kE_S2 b1).trans k_b1), (by show 4 ≤ rc b1; exact lo_b1)⟩
theorem t_f_X2_exchange {SZ S : ZS} {x0 : Nat} {x1 : Nat} (hT : ZT S) (hR : A7 SZ S) (r_x0 : zK S x0 = 2) (r_x1 : zK S x1 = 1) (q0 : 4 ≤ rc x1) : Ok (f_X2_exchange x0 x1 S) (fun o => ZT o.2 ∧ A7 SZ o.2 ∧ (zK o.2 o.1 = 1) ∧ (4 ≤ rc o.1)) := t_f_X2_exchange_0 hT hR r_x0 r_x1 q0
theorem t_f_X2_fault_0 {S : ZS} {x0 : Nat} (hT : ZT S) (r_x0 : zK S x0 = 2) : Ok (f_X2_fault_0 x0 S) (fun o => o.2 = S ∧ True) := by
  unfold f_X2_fault_0
  refine ok_chk r_x0 ?_
  exact ok_ret ⟨rfl, trivial⟩
theorem t_f_X2_fault {S : ZS} {x0 : Nat} (hT : ZT S) (r_x0 : zK S x0 = 2) : Ok (f_X2_fault x0 S) (fun o => o.2 = S ∧ True) := t_f_X2_fault_0 hT r_x0
theorem t_f_X2_refuse_0 {SZ S : ZS} {x0 : Nat} {x1 : Int32} {x2 : Int32} (hT : ZT S) (hR : A7 SZ S) (r_x0 : zK S x0 = 2) : Ok (f_X2_refuse_0 x0 x1 x2 S) (fun o => ZT o.2 ∧ A7 SZ o.2 ∧ ((0 : Int) ≤ o.1.toInt ∧ o.1.toInt ≤ (0 : Int))) := by
  unfold f_X2_refuse_0
  refine ok_bnd (fun v1 e188 => ?_)
  refine ok_bnd (fun v2 e189 => ?_)
  refine ok_chk r_x0 ?_
  refine ok_bnd (fun S3 e190 => ?_)
  have T_S3 : ZT S3 := e190.symm ▸ zt_W hT r_x0 (by decide) rfl
  have kE_S3 : zK S3 = zK S := by rw [e190]; rfl
  have nE_S3 : zN S3 = zN S := by rw [e190]; rfl
  have R_S3 : A7 SZ S3 := a7_I hR e190 r_x0 (by decide)
  refine ok_chk (by decide) ?_
  exact ok_ret ⟨T_S3, R_S3, (show (0 : Int) ≤ (0 : Int32).toInt ∧ (0 : Int32).toInt ≤ (0 : Int) from (by decide))⟩
theorem t_f_X2_refuse {SZ S : ZS} {x0 : Nat} {x1 : Int32} {x2 : Int32} (hT : ZT S) (hR : A7 SZ S) (r_x0 : zK S x0 = 2) : Ok (f_X2_refuse x0 x1 x2 S) (fun o => ZT o.2 ∧ A7 SZ o.2 ∧ ((0 : Int) ≤ o.1.toInt ∧ o.1.toInt ≤ (0 : Int))) := t_f_X2_refuse_0 hT hR r_x0
theorem t_f_X2_skipBlanks_0s {SZ S : ZS} {self0 : Nat → ZS → Option (Int32 × ZS)} {N0 : Nat} (hself0 : ∀ (x0 : Nat) (S : ZS), ZT S → A7 SZ S → (zK S x0 = 2) → (90102 - (zI S 4 x0).toInt) < (N0 : Int) → Ok (self0 x0 S) (fun o => ZT o.2 ∧ A7 SZ o.2 ∧ True)) {x0 : Nat} (hT : ZT S) (hR : A7 SZ S) (r_x0 : zK S x0 = 2) (m0 : (90102 - (zI S 4 x0).toInt) ≤ (N0 : Int)) : Ok (f_X2_skipBlanks_0s self0 x0 S) (fun o => ZT o.2 ∧ A7 SZ o.2 ∧ True) := by
  unfold f_X2_skipBlanks_0s
  have j191 := J_2_4 hT r_x0
  refine ok_chk r_x0 ?_
  refine ok_chk r_x0 ?_
  obtain ⟨b1, p_b1, k_b1, c_b1⟩ := T_2_2 hT r_x0
  refine ok_calR p_b1 ?_
  refine ok_chk k_b1 ?_
  have j192 := J61_2 hT k_b1 c_b1
  obtain ⟨r2, h_r2, p_r2⟩ := roz (t_f_X6_size (x0 := b1) hT k_b1)
  dsimp only at p_r2
  refine ok_calR h_r2 ?_
  refine ok_if (fun c193 => ?_) (fun c193 => ?_)
  ·
    replace c193 := ti_leP (a := r2) (b := (zI S 4 x0)) c193 rfl rfl
    unfold f_X2_skipBlanks_59
    exact ok_ret ⟨hT, hR, trivial⟩
  ·
    replace c193 := ti_leN (a := r2) (b := (zI S 4 x0)) c193 rfl rfl
    refine ok_chk r_x0 ?_
    obtain ⟨b3, p_b3, k_b3, c_b3⟩ := T_2_2 hT r_x0
    refine ok_calR p_b3 ?_
    refine ok_chk r_x0 ?_
    refine ok_chk k_b3 ?_
    have j194 := J61_2 hT k_b3 c_b3
    obtain ⟨r4, h_r4, p_r4⟩ := roz (t_f_X6_at (x0 := b3) (x1 := (zI S 4 x0)) hT k_b3)
    dsimp only at p_r4
    refine ok_calR h_r4 ?_
    refine ok_if (fun c195 => ?_) (fun c195 => ?_)
    ·
      replace c195 := ti_eqP (a := r4) (b := (32 : Int32)) c195 rfl (show (32 : Int32).toInt = 32 from rfl)
      unfold f_X2_skipBlanks_46
      refine ok_chk r_x0 ?_
      refine ok_bnd (fun v1 e196 => ?_)
      have t_v1 : v1.toInt = (zI S 4 x0).toInt + 1 := ti_add e196 rfl (show (1 : Int32).toInt = 1 from rfl) (by omega) (by omega)
      refine ok_chk r_x0 ?_
      refine ok_bnd (fun S2 e197 => ?_)
      have T_S2 : ZT S2 := e197.symm ▸ zt_I hT r_x0 (by decide) (show (0 : Int) ≤ v1.toInt ∧ v1.toInt ≤ (90100 : Int) from (by omega))
      have kE_S2 : zK S2 = zK S := by rw [e197]; rfl
      have nE_S2 : zN S2 = zN S := by rw [e197]; rfl
      have R_S2 : A7 SZ S2 := a7_I hR e197 r_x0 (by decide)
      have : (zI S2 4 x0).toInt = v1.toInt := by rw [e197]; exact (congrArg Int32.toInt (zI_self _ _ _ _)).trans rfl
      exact hself0 x0 S2 T_S2 R_S2 ((congrFun kE_S2 x0).trans r_x0) (by omega)
    ·
      replace c195 := ti_eqN (a := r4) (b := (32 : Int32)) c195 rfl (show (32 : Int32).toInt = 32 from rfl)
      refine ok_chk r_x0 ?_
      obtain ⟨b5, p_b5, k_b5, c_b5⟩ := T_2_2 hT r_x0
      refine ok_calR p_b5 ?_
      refine ok_chk r_x0 ?_
      refine ok_chk k_b5 ?_
      have j198 := J61_2 hT k_b5 c_b5
      obtain ⟨r6, h_r6, p_r6⟩ := roz (t_f_X6_at (x0 := b5) (x1 := (zI S 4 x0)) hT k_b5)
      dsimp only at p_r6
      refine ok_calR h_r6 ?_
      refine ok_if (fun c199 => ?_) (fun c199 => ?_)
      ·
        replace c199 := ti_eqP (a := r6) (b := (10 : Int32)) c199 rfl (show (10 : Int32).toInt = 10 from rfl)
        unfold f_X2_skipBlanks_46
        refine ok_chk r_x0 ?_
        refine ok_bnd (fun v1 e200 => ?_)
        have t_v1 : v1.toInt = (zI S 4 x0).toInt + 1 := ti_add e200 rfl (show (1 : Int32).toInt = 1 from rfl) (by omega) (by omega)
        refine ok_chk r_x0 ?_
        refine ok_bnd (fun S2 e201 => ?_)
        have T_S2 : ZT S2 := e201.symm ▸ zt_I hT r_x0 (by decide) (show (0 : Int) ≤ v1.toInt ∧ v1.toInt ≤ (90100 : Int) from (by omega))
        have kE_S2 : zK S2 = zK S := by rw [e201]; rfl
        have nE_S2 : zN S2 = zN S := by rw [e201]; rfl
        have R_S2 : A7 SZ S2 := a7_I hR e201 r_x0 (by decide)
        have : (zI S2 4 x0).toInt = v1.toInt := by rw [e201]; exact (congrArg Int32.toInt (zI_self _ _ _ _)).trans rfl
        exact hself0 x0 S2 T_S2 R_S2 ((congrFun kE_S2 x0).trans r_x0) (by omega)
      ·
        replace c199 := ti_eqN (a := r6) (b := (10 : Int32)) c199 rfl (show (10 : Int32).toInt = 10 from rfl)
        unfold f_X2_skipBlanks_59
        exact ok_ret ⟨hT, hR, trivial⟩
theorem t_f_X2_skipBlanks_0 {SZ : ZS} : ∀ (n : Nat) (x0 : Nat) (S : ZS), ZT S → A7 SZ S → (zK S x0 = 2) → (90102 - (zI S 4 x0).toInt) < (n : Int) → Ok (f_X2_skipBlanks_0  n x0 S) (fun o => ZT o.2 ∧ A7 SZ o.2 ∧ True) := by
  intro n
  induction n with
  | zero => intro x0 S hT hR g0  hm; exfalso; have j9 := J_2_4 hT g0; omega
  | succ n ih =>
    intro x0 S hT hR g0  hm
    exact t_f_X2_skipBlanks_0s (N0 := n)  ih hT hR g0  (by omega)
theorem t_f_X2_skipBlanks {SZ S : ZS} {x0 : Nat} (hT : ZT S) (hR : A7 SZ S) (r_x0 : zK S x0 = 2) : Ok (f_X2_skipBlanks x0 S) (fun o => ZT o.2 ∧ A7 SZ o.2 ∧ True) := t_f_X2_skipBlanks_0 mFuel x0 S hT hR r_x0 (by show _ < ((200000 : Nat) : Int); have j9 := J_2_4 hT r_x0; omega)
theorem t_f_X2_resultHere_2s {S : ZS} {self2 : Nat → Int32 → ZS → Option (Int32 × ZS)} {N2 : Nat} (hself2 : ∀ (x0 : Nat) (x1 : Int32),  (zK S x0 = 2) → ((0 : Int) ≤ x1.toInt ∧ x1.toInt ≤ (4 : Int)) → (5 - x1.toInt) < (N2 : Int) → Ok (self2 x0 x1 S) (fun o => o.2 = S ∧ ((-1 : Int) ≤ o.1.toInt ∧ o.1.toInt ≤ (3 : Int)))) {x0 : Nat} {x1 : Int32} (hT : ZT S) (r_x0 : zK S x0 = 2) (r_x1 : (0 : Int) ≤ x1.toInt ∧ x1.toInt ≤ (4 : Int)) (m2 : (5 - x1.toInt) ≤ (N2 : Int)) : Ok (f_X2_resultHere_2s self2 x0 x1 S) (fun o => o.2 = S ∧ ((-1 : Int) ≤ o.1.toInt ∧ o.1.toInt ≤ (3 : Int))) := by
  unfold f_X2_resultHere_2s
  refine ok_if (fun c202 => ?_) (fun c202 => ?_)
  ·
    replace c202 := ti_leP (a := (4 : Int32)) (b := x1) c202 (show (4 : Int32).toInt = 4 from rfl) rfl
    exact ok_ret ⟨rfl, (show (-1 : Int) ≤ (-1 : Int32).toInt ∧ (-1 : Int32).toInt ≤ (3 : Int) from (by decide))⟩
  ·
    replace c202 := ti_leN (a := (4 : Int32)) (b := x1) c202 (show (4 : Int32).toInt = 4 from rfl) rfl
    refine ok_chk r_x0 ?_
    obtain ⟨b1, p_b1, k_b1, c_b1⟩ := T_2_2 hT r_x0
    refine ok_calR p_b1 ?_
    obtain ⟨r2, h_r2, p_r2⟩ := roz (t_f_X11_resultSign (x0 := x1) hT )
    dsimp only at p_r2
    refine ok_calR h_r2 ?_
    refine ok_chk r_x0 ?_
    refine ok_chk k_b1 ?_
    have j203 := J61_2 hT k_b1 c_b1
    have j204 := J_2_4 hT r_x0
    obtain ⟨r3, h_r3, p_r3⟩ := roz (t_f_X6_holds (x0 := b1) (x1 := r2) (x2 := (zI S 4 x0)) hT k_b1 p_r2 (by omega))
    dsimp only at p_r3
    refine ok_calR h_r3 ?_
    refine ok_if (fun c205 => ?_) (fun c205 => ?_)
    ·
      replace c205 := ti_eqP (a := r3) (b := (0 : Int32)) c205 rfl (show (0 : Int32).toInt = 0 from rfl)
      refine ok_bnd (fun v4 e206 => ?_)
      have t_v4 : v4.toInt = x1.toInt + 1 := ti_add e206 rfl (show (1 : Int32).toInt = 1 from rfl) (by omega) (by omega)
      exact hself2 x0 v4  r_x0 (by omega) (by omega)
    ·
      replace c205 := ti_eqN (a := r3) (b := (0 : Int32)) c205 rfl (show (0 : Int32).toInt = 0 from rfl)
      exact ok_ret ⟨rfl, (show (-1 : Int) ≤ x1.toInt ∧ x1.toInt ≤ (3 : Int) from (by omega))⟩
theorem t_f_X2_resultHere_2 {S : ZS} (hT : ZT S) : ∀ (n : Nat) (x0 : Nat) (x1 : Int32),  (zK S x0 = 2) → ((0 : Int) ≤ x1.toInt ∧ x1.toInt ≤ (4 : Int)) → (5 - x1.toInt) < (n : Int) → Ok (f_X2_resultHere_2  n x0 x1 S) (fun o => o.2 = S ∧ ((-1 : Int) ≤ o.1.toInt ∧ o.1.toInt ≤ (3 : Int))) := by
  intro n
  induction n with
  | zero => intro x0 x1 g0 g1  hm; exfalso; omega
  | succ n ih =>
    intro x0 x1 g0 g1  hm
    exact t_f_X2_resultHere_2s (N2 := n)  ih hT g0 g1  (by omega)
theorem t_f_X2_resultHere_0 {S : ZS} {x0 : Nat} (hT : ZT S) (r_x0 : zK S x0 = 2) : Ok (f_X2_resultHere_0 x0 S) (fun o => o.2 = S ∧ ((-1 : Int) ≤ o.1.toInt ∧ o.1.toInt ≤ (3 : Int))) := by
  unfold f_X2_resultHere_0
  exact t_f_X2_resultHere_2  hT mFuel x0 (0 : Int32)  r_x0 (by decide) (by show _ < ((200000 : Nat) : Int); have z0 : (0 : Int32).toInt = 0 := rfl; omega)
theorem t_f_X2_resultHere {S : ZS} {x0 : Nat} (hT : ZT S) (r_x0 : zK S x0 = 2) : Ok (f_X2_resultHere x0 S) (fun o => o.2 = S ∧ ((-1 : Int) ≤ o.1.toInt ∧ o.1.toInt ≤ (3 : Int))) := t_f_X2_resultHere_0 hT r_x0
theorem t_f_X2_openLine_0 {S : ZS} {x0 : Nat} {x1 : Int32} (hT : ZT S) (r_x0 : zK S x0 = 2) (r_x1 : (1 : Int) ≤ x1.toInt ∧ x1.toInt ≤ (6 : Int)) (q0 : (zI S 4 x0).toInt ≤ 90000) : Ok (f_X2_openLine_0 x0 x1 S) (fun o => ZT o.2 ∧ True) := by
  unfold f_X2_openLine_0
  have j207 := J_2_4 hT r_x0
  refine ok_chk r_x0 ?_
  obtain ⟨b1, p_b1, k_b1, n_b1⟩ := T_2_8 hT r_x0
  refine ok_calR p_b1 ?_
  refine ok_chk r_x0 ?_
  obtain ⟨b2, p_b2, k_b2⟩ := T_2_3 hT r_x0
  have lo_b2 := M_2_3 hT r_x0 p_b2
  refine ok_calR p_b2 ?_
  refine ok_chk r_x0 ?_
  obtain ⟨b3, p_b3, k_b3, n_b3⟩ := T_2_9 hT r_x0
  refine ok_calR p_b3 ?_
  refine ok_bnd (fun v4 e208 => ?_)
  have t_v4 : v4.toInt = x1.toInt - 1 := ti_sub e208 rfl (show (1 : Int32).toInt = 1 from rfl) (by omega) (by omega)
  refine ok_chk k_b3 ?_
  refine ok_chk (ti_inN (v := v4) (n := 7) n_b3 (by omega) (by omega)) ?_
  refine ok_bnd (fun v5 e209 => ?_)
  refine ok_chk k_b2 ?_
  obtain ⟨r6, h_r6, p_r6⟩ := roz (t_f_X1_at (x0 := b2) (x1 := v5) hT k_b2)
  dsimp only at p_r6
  refine ok_calR h_r6 ?_
  refine ok_chk p_r6.1 ?_
  refine ok_chk k_b1 ?_
  refine ok_chk (ti_inN (v := x1) (n := 7) n_b1 (by omega) (by omega)) ?_
  refine ok_bnd (fun S7 e210 => ?_)
  have T_S7 : ZT S7 := e210.symm ▸ zt_A hT k_b1
  have kE_S7 : zK S7 = zK S := by rw [e210]; rfl
  have nE_S7 : zN S7 = zN S := by rw [e210]; rfl
  have : (zI S7 4 x0).toInt = (zI S 4 x0).toInt := by rw [e210]; rfl
  refine ok_chk ((congrFun kE_S7 x0).trans r_x0) ?_
  obtain ⟨b8, p_b8, k_b8, n_b8⟩ := T_2_9 T_S7 ((congrFun kE_S7 x0).trans r_x0)
  refine ok_calR p_b8 ?_
  refine ok_chk ((congrFun kE_S7 x0).trans r_x0) ?_
  obtain ⟨b9, p_b9, k_b9, n_b9⟩ := T_2_8 T_S7 ((congrFun kE_S7 x0).trans r_x0)
  refine ok_calR p_b9 ?_
  refine ok_chk k_b9 ?_
  refine ok_chk (ti_inN (v := x1) (n := 7) n_b9 (by omega) (by omega)) ?_
  refine ok_bnd (fun v10 e211 => ?_)
  refine ok_chk k_b8 ?_
  refine ok_chk (ti_inN (v := x1) (n := 7) n_b8 (by omega) (by omega)) ?_
  refine ok_bnd (fun S11 e212 => ?_)
  have T_S11 : ZT S11 := e212.symm ▸ zt_A T_S7 k_b8
  have kE_S11 : zK S11 = zK S7 := by rw [e212]; rfl
  have nE_S11 : zN S11 = zN S7 := by rw [e212]; rfl
  have : (zI S11 4 x0).toInt = (zI S7 4 x0).toInt := by rw [e212]; rfl
  refine ok_chk ((congrFun kE_S11 x0).trans ((congrFun kE_S7 x0).trans r_x0)) ?_
  obtain ⟨b12, p_b12, k_b12, n_b12⟩ := T_2_11 T_S11 ((congrFun kE_S11 x0).trans ((congrFun kE_S7 x0).trans r_x0))
  refine ok_calR p_b12 ?_
  refine ok_chk k_b12 ?_
  refine ok_chk (ti_inN (v := x1) (n := 7) n_b12 (by omega) (by omega)) ?_
  obtain ⟨b13, p_b13, k_b13⟩ := (T_S11.2.2.2.1 b12).1 k_b12 (x1).toNatClampNeg (ti_cl (v := x1) (by omega) (by omega))
  refine ok_calR p_b13 ?_
  refine ok_chk ((congrFun kE_S11 x0).trans ((congrFun kE_S7 x0).trans r_x0)) ?_
  obtain ⟨b14, p_b14, k_b14, n_b14⟩ := T_2_10 T_S11 ((congrFun kE_S11 x0).trans ((congrFun kE_S7 x0).trans r_x0))
  refine ok_calR p_b14 ?_
  refine ok_bnd (fun v15 e213 => ?_)
  have t_v15 : v15.toInt = x1.toInt - 1 := ti_sub e213 rfl (show (1 : Int32).toInt = 1 from rfl) (by omega) (by omega)
  refine ok_chk k_b14 ?_
  refine ok_chk (ti_inN (v := v15) (n := 7) n_b14 (by omega) (by omega)) ?_
  obtain ⟨b16, p_b16, k_b16⟩ := (T_S11.2.2.2.1 b14).1 k_b14 (v15).toNatClampNeg (ti_cl (v := v15) (by omega) (by omega))
  refine ok_calR p_b16 ?_
  refine ok_chk k_b13 ?_
  obtain ⟨⟨r17, S17⟩, h_r17, T_S17, A_S17, -⟩ := t_f_X0_copyFrom (x0 := b13) (x1 := b16) (SZ := S11) T_S11 (a7_0 S11) k_b13 k_b16
  replace T_S17 : ZT S17 := T_S17
  replace A_S17 : A7 S11 S17 := A_S17
  refine ok_calR h_r17 ?_
  have q_S17 := fq_X0_copyFrom h_r17
  have kE_S17 : zK S17 = zK S11 := q_S17.2.2.1
  have nE_S17 : zN S17 = zN S11 := q_S17.2.2.2.1
  have : (zI S17 4 x0).toInt = (zI S11 4 x0).toInt := congrArg Int32.toInt ((((fz_X0_copyFrom h_r17) T_S11.2.2.2.2.1).2.2 x0 (by rw [((congrFun kE_S11 x0).trans ((congrFun kE_S7 x0).trans r_x0))]; decide)).2.2.1 4 (by rw [((congrFun kE_S11 x0).trans ((congrFun kE_S7 x0).trans r_x0))]; decide))
  refine ok_chk ((congrFun kE_S17 x0).trans ((congrFun kE_S11 x0).trans ((congrFun kE_S7 x0).trans r_x0))) ?_
  refine ok_bnd (fun v18 e214 => ?_)
  have j215 := J_2_4 T_S17 ((congrFun kE_S17 x0).trans ((congrFun kE_S11 x0).trans ((congrFun kE_S7 x0).trans r_x0)))
  have t_v18 : v18.toInt = (zI S17 4 x0).toInt + 1 := ti_add e214 rfl (show (1 : Int32).toInt = 1 from rfl) (by omega) (by omega)
  refine ok_chk ((congrFun kE_S17 x0).trans ((congrFun kE_S11 x0).trans ((congrFun kE_S7 x0).trans r_x0))) ?_
  refine ok_bnd (fun S19 e216 => ?_)
  have T_S19 : ZT S19 := e216.symm ▸ zt_I T_S17 ((congrFun kE_S17 x0).trans ((congrFun kE_S11 x0).trans ((congrFun kE_S7 x0).trans r_x0))) (by decide) (show (0 : Int) ≤ v18.toInt ∧ v18.toInt ≤ (90100 : Int) from (by omega))
  have kE_S19 : zK S19 = zK S17 := by rw [e216]; rfl
  have nE_S19 : zN S19 = zN S17 := by rw [e216]; rfl
  have : (zI S19 4 x0).toInt = v18.toInt := by rw [e216]; exact (congrArg Int32.toInt (zI_self _ _ _ _)).trans rfl
  exact ok_ret ⟨T_S19, trivial⟩
theorem t_f_X2_openLine {S : ZS} {x0 : Nat} {x1 : Int32} (hT : ZT S) (r_x0 : zK S x0 = 2) (r_x1 : (1 : Int) ≤ x1.toInt ∧ x1.toInt ≤ (6 : Int)) (q0 : (zI S 4 x0).toInt ≤ 90000) : Ok (f_X2_openLine x0 x1 S) (fun o => ZT o.2 ∧ True) := t_f_X2_openLine_0 hT r_x0 r_x1 q0
theorem t_f_X2_readDigits_9s {SZ S : ZS} {self9 : Nat → Int32 → Int32 → ZS → Option (Int32 × ZS)} {N9 : Nat} (hself9 : ∀ (x0 : Nat) (x2 : Int32) (x3 : Int32) (S : ZS), ZT S → A7 SZ S → (zK S x0 = 2) → (90102 - (zI S 4 x0).toInt) < (N9 : Int) → Ok (self9 x0 x2 x3 S) (fun o => ZT o.2 ∧ A7 SZ o.2 ∧ True)) {x0 : Nat} {x2 : Int32} {x3 : Int32} (hT : ZT S) (hR : A7 SZ S) (r_x0 : zK S x0 = 2) (m9 : (90102 - (zI S 4 x0).toInt) ≤ (N9 : Int)) : Ok (f_X2_readDigits_9s self9 x0 x2 x3 S) (fun o => ZT o.2 ∧ A7 SZ o.2 ∧ True) := by
  unfold f_X2_readDigits_9s
  have j217 := J_2_4 hT r_x0
  refine ok_chk r_x0 ?_
  refine ok_if (fun c218 => ?_) (fun c218 => ?_)
  ·
    replace c218 := ti_leP (a := x2) (b := (zI S 4 x0)) c218 rfl rfl
    unfold f_X2_readDigits_67
    exact ok_ret ⟨hT, hR, trivial⟩
  ·
    replace c218 := ti_leN (a := x2) (b := (zI S 4 x0)) c218 rfl rfl
    refine ok_chk r_x0 ?_
    obtain ⟨b1, p_b1, k_b1, c_b1⟩ := T_2_2 hT r_x0
    refine ok_calR p_b1 ?_
    refine ok_chk r_x0 ?_
    refine ok_chk k_b1 ?_
    have j219 := J61_2 hT k_b1 c_b1
    obtain ⟨r2, h_r2, p_r2⟩ := roz (t_f_X6_at (x0 := b1) (x1 := (zI S 4 x0)) hT k_b1)
    dsimp only at p_r2
    refine ok_calR h_r2 ?_
    obtain ⟨r3, h_r3, p_r3⟩ := roz (t_f_X11_isDigit (x0 := r2) hT )
    dsimp only at p_r3
    refine ok_calR h_r3 ?_
    refine ok_if (fun c220 => ?_) (fun c220 => ?_)
    ·
      replace c220 := ti_eqP (a := r3) (b := (0 : Int32)) c220 rfl (show (0 : Int32).toInt = 0 from rfl)
      unfold f_X2_readDigits_67
      exact ok_ret ⟨hT, hR, trivial⟩
    ·
      replace c220 := ti_eqN (a := r3) (b := (0 : Int32)) c220 rfl (show (0 : Int32).toInt = 0 from rfl)
      refine ok_bnd (fun v4 e221 => ?_)
      refine ok_chk r_x0 ?_
      obtain ⟨b5, p_b5, k_b5, c_b5⟩ := T_2_2 hT r_x0
      refine ok_calR p_b5 ?_
      refine ok_chk r_x0 ?_
      refine ok_chk k_b5 ?_
      have j222 := J61_2 hT k_b5 c_b5
      obtain ⟨r6, h_r6, p_r6⟩ := roz (t_f_X6_at (x0 := b5) (x1 := (zI S 4 x0)) hT k_b5)
      dsimp only at p_r6
      refine ok_calR h_r6 ?_
      refine ok_bnd (fun v7 e223 => ?_)
      refine ok_bnd (fun v8 e224 => ?_)
      refine ok_chk r_x0 ?_
      refine ok_bnd (fun v9 e225 => ?_)
      have t_v9 : v9.toInt = (zI S 4 x0).toInt + 1 := ti_add e225 rfl (show (1 : Int32).toInt = 1 from rfl) (by omega) (by omega)
      refine ok_chk r_x0 ?_
      refine ok_bnd (fun S10 e226 => ?_)
      have T_S10 : ZT S10 := e226.symm ▸ zt_I hT r_x0 (by decide) (show (0 : Int) ≤ v9.toInt ∧ v9.toInt ≤ (90100 : Int) from (by omega))
      have kE_S10 : zK S10 = zK S := by rw [e226]; rfl
      have nE_S10 : zN S10 = zN S := by rw [e226]; rfl
      have R_S10 : A7 SZ S10 := a7_I hR e226 r_x0 (by decide)
      have : (zI S10 4 x0).toInt = v9.toInt := by rw [e226]; exact (congrArg Int32.toInt (zI_self _ _ _ _)).trans rfl
      exact hself9 x0 x2 v8 S10 T_S10 R_S10 ((congrFun kE_S10 x0).trans r_x0) (by omega)
theorem t_f_X2_readDigits_9 {SZ : ZS} : ∀ (n : Nat) (x0 : Nat) (x2 : Int32) (x3 : Int32) (S : ZS), ZT S → A7 SZ S → (zK S x0 = 2) → (90102 - (zI S 4 x0).toInt) < (n : Int) → Ok (f_X2_readDigits_9  n x0 x2 x3 S) (fun o => ZT o.2 ∧ A7 SZ o.2 ∧ True) := by
  intro n
  induction n with
  | zero => intro x0 x2 x3 S hT hR g0  hm; exfalso; have j9 := J_2_4 hT g0; omega
  | succ n ih =>
    intro x0 x2 x3 S hT hR g0  hm
    exact t_f_X2_readDigits_9s (N9 := n)  ih hT hR g0  (by omega)
theorem t_f_X2_readDigits_0 {SZ S : ZS} {x0 : Nat} {x1 : Int32} (hT : ZT S) (hR : A7 SZ S) (r_x0 : zK S x0 = 2) (r_x1 : (0 : Int) ≤ x1.toInt ∧ x1.toInt ≤ (10 : Int)) : Ok (f_X2_readDigits_0 x0 x1 S) (fun o => ZT o.2 ∧ A7 SZ o.2 ∧ True) := by
  unfold f_X2_readDigits_0
  have j227 := J_2_4 hT r_x0
  refine ok_chk r_x0 ?_
  refine ok_bnd (fun v1 e228 => ?_)
  have t_v1 : v1.toInt = (zI S 4 x0).toInt + x1.toInt := ti_add e228 rfl rfl (by omega) (by omega)
  exact t_f_X2_readDigits_9   mFuel x0 v1 (0 : Int32) S hT hR r_x0 (by show _ < ((200000 : Nat) : Int); have z0 : (0 : Int32).toInt = 0 := rfl; omega)
theorem t_f_X2_readDigits {SZ S : ZS} {x0 : Nat} {x1 : Int32} (hT : ZT S) (hR : A7 SZ S) (r_x0 : zK S x0 = 2) (r_x1 : (0 : Int) ≤ x1.toInt ∧ x1.toInt ≤ (10 : Int)) : Ok (f_X2_readDigits x0 x1 S) (fun o => ZT o.2 ∧ A7 SZ o.2 ∧ True) := t_f_X2_readDigits_0 hT hR r_x0 r_x1
theorem t_f_X2_readNumber_54 {SZ S : ZS} {x0 : Nat} {x1 : Int32} {x2 : Int32} {x3 : Int32} (hT : ZT S) (hR : A7 SZ S) (r_x0 : zK S x0 = 2) : Ok (f_X2_readNumber_54 x0 x1 x2 x3 S) (fun o => ZT o.2 ∧ A7 SZ o.2 ∧ ((0 : Int) ≤ o.1.toInt ∧ o.1.toInt ≤ (1 : Int))) := by
  unfold f_X2_readNumber_54
  have j229 := J_2_4 hT r_x0
  refine ok_chk r_x0 ?_
  obtain ⟨⟨r1, S1⟩, h_r1, T_S1, A_S1, -⟩ := t_f_X2_skipBlanks (x0 := x0) (SZ := S) hT (a7_0 S) r_x0
  replace T_S1 : ZT S1 := T_S1
  replace A_S1 : A7 S S1 := A_S1
  refine ok_calR h_r1 ?_
  have q_S1 := fq_X2_skipBlanks h_r1
  have kE_S1 : zK S1 = zK S := q_S1.2.2.1
  have nE_S1 : zN S1 = zN S := q_S1.2.2.2.1
  have R_S1 : A7 SZ S1 := a7_t hR A_S1
  refine ok_if (fun c230 => ?_) (fun c230 => ?_)
  ·
    replace c230 := ti_eqP (a := x3) (b := x1) c230 rfl rfl
    unfold f_X2_readNumber_73
    unfold f_X2_readNumber_78
    refine ok_chk (by decide) ?_
    exact ok_ret ⟨T_S1, R_S1, (show (0 : Int) ≤ (1 : Int32).toInt ∧ (1 : Int32).toInt ≤ (1 : Int) from (by decide))⟩
  ·
    replace c230 := ti_eqN (a := x3) (b := x1) c230 rfl rfl
    refine ok_chk ((congrFun kE_S1 x0).trans r_x0) ?_
    obtain ⟨⟨r2, S2⟩, h_r2, T_S2, A_S2, p_r2⟩ := t_f_X2_refuse (x0 := x0) (x1 := (7 : Int32)) (x2 := x2) (SZ := S1) T_S1 (a7_0 S1) ((congrFun kE_S1 x0).trans r_x0)
    replace T_S2 : ZT S2 := T_S2
    replace A_S2 : A7 S1 S2 := A_S2
    dsimp only at p_r2
    refine ok_calR h_r2 ?_
    have q_S2 := fq_X2_refuse h_r2
    have kE_S2 : zK S2 = zK S1 := q_S2.2.2.1
    have nE_S2 : zN S2 = zN S1 := q_S2.2.2.2.1
    have R_S2 : A7 SZ S2 := a7_t R_S1 A_S2
    have : (zI S2 4 x0).toInt = (zI S1 4 x0).toInt := congrArg Int32.toInt ((((fz_X2_refuse h_r2) T_S1.2.2.2.2.1).2.2 x0 (by rw [((congrFun kE_S1 x0).trans r_x0)]; decide)).2.2.1 4 (by rw [((congrFun kE_S1 x0).trans r_x0)]; decide))
    refine ok_if (fun c231 => ?_) (fun c231 => ?_)
    ·
      replace c231 := ti_eqP (a := r2) (b := (0 : Int32)) c231 rfl (show (0 : Int32).toInt = 0 from rfl)
      unfold f_X2_readNumber_78
      refine ok_chk (by decide) ?_
      exact ok_ret ⟨T_S2, R_S2, (show (0 : Int) ≤ (0 : Int32).toInt ∧ (0 : Int32).toInt ≤ (1 : Int) from (by decide))⟩
    ·
      replace c231 := ti_eqN (a := r2) (b := (0 : Int32)) c231 rfl (show (0 : Int32).toInt = 0 from rfl)
      unfold f_X2_readNumber_73
      unfold f_X2_readNumber_78
      refine ok_chk (by decide) ?_
      exact ok_ret ⟨T_S2, R_S2, (show (0 : Int) ≤ (1 : Int32).toInt ∧ (1 : Int32).toInt ≤ (1 : Int) from (by decide))⟩
theorem t_f_X2_readNumber_11s {SZ S : ZS} {self11 : Nat → Int32 → Int32 → Int32 → ZS → Option (Int32 × ZS)} {N11 : Nat} (hself11 : ∀ (x0 : Nat) (x1 : Int32) (x2 : Int32) (x3 : Int32) (S : ZS), ZT S → A7 SZ S → (zK S x0 = 2) → (90102 - (zI S 4 x0).toInt) < (N11 : Int) → Ok (self11 x0 x1 x2 x3 S) (fun o => ZT o.2 ∧ A7 SZ o.2 ∧ ((0 : Int) ≤ o.1.toInt ∧ o.1.toInt ≤ (1 : Int)))) {x0 : Nat} {x1 : Int32} {x2 : Int32} {x3 : Int32} (hT : ZT S) (hR : A7 SZ S) (r_x0 : zK S x0 = 2) (m11 : (90102 - (zI S 4 x0).toInt) ≤ (N11 : Int)) : Ok (f_X2_readNumber_11s self11 x0 x1 x2 x3 S) (fun o => ZT o.2 ∧ A7 SZ o.2 ∧ ((0 : Int) ≤ o.1.toInt ∧ o.1.toInt ≤ (1 : Int))) := by
  unfold f_X2_readNumber_11s
  have j232 := J_2_4 hT r_x0
  refine ok_chk r_x0 ?_
  refine ok_chk r_x0 ?_
  obtain ⟨b1, p_b1, k_b1, c_b1⟩ := T_2_2 hT r_x0
  refine ok_calR p_b1 ?_
  refine ok_chk k_b1 ?_
  have j233 := J61_2 hT k_b1 c_b1
  obtain ⟨r2, h_r2, p_r2⟩ := roz (t_f_X6_size (x0 := b1) hT k_b1)
  dsimp only at p_r2
  refine ok_calR h_r2 ?_
  refine ok_if (fun c234 => ?_) (fun c234 => ?_)
  ·
    replace c234 := ti_leP (a := r2) (b := (zI S 4 x0)) c234 rfl rfl
    exact t_f_X2_readNumber_54 (S := S)  (x0 := x0) (x1 := x1) (x2 := x2) (x3 := x3) hT hR r_x0
  ·
    replace c234 := ti_leN (a := r2) (b := (zI S 4 x0)) c234 rfl rfl
    refine ok_chk r_x0 ?_
    obtain ⟨b3, p_b3, k_b3, c_b3⟩ := T_2_2 hT r_x0
    refine ok_calR p_b3 ?_
    refine ok_chk r_x0 ?_
    refine ok_chk k_b3 ?_
    have j235 := J61_2 hT k_b3 c_b3
    obtain ⟨r4, h_r4, p_r4⟩ := roz (t_f_X6_at (x0 := b3) (x1 := (zI S 4 x0)) hT k_b3)
    dsimp only at p_r4
    refine ok_calR h_r4 ?_
    refine ok_if (fun c236 => ?_) (fun c236 => ?_)
    ·
      replace c236 := ti_eqP (a := r4) (b := (46 : Int32)) c236 rfl (show (46 : Int32).toInt = 46 from rfl)
      refine ok_chk r_x0 ?_
      refine ok_bnd (fun v5 e237 => ?_)
      have t_v5 : v5.toInt = (zI S 4 x0).toInt + 1 := ti_add e237 rfl (show (1 : Int32).toInt = 1 from rfl) (by omega) (by omega)
      refine ok_chk r_x0 ?_
      refine ok_bnd (fun S6 e238 => ?_)
      have T_S6 : ZT S6 := e238.symm ▸ zt_I hT r_x0 (by decide) (show (0 : Int) ≤ v5.toInt ∧ v5.toInt ≤ (90100 : Int) from (by omega))
      have kE_S6 : zK S6 = zK S := by rw [e238]; rfl
      have nE_S6 : zN S6 = zN S := by rw [e238]; rfl
      have R_S6 : A7 SZ S6 := a7_I hR e238 r_x0 (by decide)
      have : (zI S6 4 x0).toInt = v5.toInt := by rw [e238]; exact (congrArg Int32.toInt (zI_self _ _ _ _)).trans rfl
      exact hself11 x0 x1 x2 x3 S6 T_S6 R_S6 ((congrFun kE_S6 x0).trans r_x0) (by omega)
    ·
      replace c236 := ti_eqN (a := r4) (b := (46 : Int32)) c236 rfl (show (46 : Int32).toInt = 46 from rfl)
      exact t_f_X2_readNumber_54 (S := S)  (x0 := x0) (x1 := x1) (x2 := x2) (x3 := x3) hT hR r_x0
theorem t_f_X2_readNumber_11 {SZ : ZS} : ∀ (n : Nat) (x0 : Nat) (x1 : Int32) (x2 : Int32) (x3 : Int32) (S : ZS), ZT S → A7 SZ S → (zK S x0 = 2) → (90102 - (zI S 4 x0).toInt) < (n : Int) → Ok (f_X2_readNumber_11  n x0 x1 x2 x3 S) (fun o => ZT o.2 ∧ A7 SZ o.2 ∧ ((0 : Int) ≤ o.1.toInt ∧ o.1.toInt ≤ (1 : Int))) := by
  intro n
  induction n with
  | zero => intro x0 x1 x2 x3 S hT hR g0  hm; exfalso; have j9 := J_2_4 hT g0; omega
  | succ n ih =>
    intro x0 x1 x2 x3 S hT hR g0  hm
    exact t_f_X2_readNumber_11s (N11 := n)  ih hT hR g0  (by omega)
theorem t_f_X2_readNumber_0 {SZ S : ZS} {x0 : Nat} {x1 : Int32} (hT : ZT S) (hR : A7 SZ S) (r_x0 : zK S x0 = 2) : Ok (f_X2_readNumber_0 x0 x1 S) (fun o => ZT o.2 ∧ A7 SZ o.2 ∧ ((0 : Int) ≤ o.1.toInt ∧ o.1.toInt ≤ (1 : Int))) := by
  unfold f_X2_readNumber_0
  have j239 := J_2_4 hT r_x0
  refine ok_chk r_x0 ?_
  refine ok_chk r_x0 ?_
  obtain ⟨⟨r1, S1⟩, h_r1, T_S1, A_S1, -⟩ := t_f_X2_readDigits (x0 := x0) (x1 := (4 : Int32)) (SZ := S) hT (a7_0 S) r_x0 (by decide)
  replace T_S1 : ZT S1 := T_S1
  replace A_S1 : A7 S S1 := A_S1
  refine ok_calR h_r1 ?_
  have q_S1 := fq_X2_readDigits h_r1
  have kE_S1 : zK S1 = zK S := q_S1.2.2.1
  have nE_S1 : zN S1 = zN S := q_S1.2.2.2.1
  have R_S1 : A7 SZ S1 := a7_t hR A_S1
  have j240 := J_2_4 T_S1 ((congrFun kE_S1 x0).trans r_x0)
  exact t_f_X2_readNumber_11   mFuel x0 x1 (zI S 4 x0) r1 S1 T_S1 R_S1 ((congrFun kE_S1 x0).trans r_x0) (by show _ < ((200000 : Nat) : Int); omega)
theorem t_f_X2_readNumber {SZ S : ZS} {x0 : Nat} {x1 : Int32} (hT : ZT S) (hR : A7 SZ S) (r_x0 : zK S x0 = 2) : Ok (f_X2_readNumber x0 x1 S) (fun o => ZT o.2 ∧ A7 SZ o.2 ∧ ((0 : Int) ≤ o.1.toInt ∧ o.1.toInt ≤ (1 : Int))) := t_f_X2_readNumber_0 hT hR r_x0
theorem t_f_X2_isSign_0 {S : ZS} {x0 : Int32} (hT : ZT S) : Ok (f_X2_isSign_0 x0 S) (fun o => o.2 = S ∧ ((0 : Int) ≤ o.1.toInt ∧ o.1.toInt ≤ (1 : Int)) ∧ ((o.1.toInt = 1 → 0 < x0.toInt))) := by
  unfold f_X2_isSign_0
  obtain ⟨r1, h_r1, p_r1⟩ := roz (t_f_X11_isLetter (x0 := x0) hT )
  dsimp only at p_r1
  refine ok_calR h_r1 ?_
  refine ok_if (fun c241 => ?_) (fun c241 => ?_)
  ·
    replace c241 := ti_eqP (a := r1) (b := (0 : Int32)) c241 rfl (show (0 : Int32).toInt = 0 from rfl)
    obtain ⟨r2, h_r2, p_r2⟩ := roz (t_f_X11_isDigit (x0 := x0) hT )
    dsimp only at p_r2
    refine ok_calR h_r2 ?_
    refine ok_if (fun c242 => ?_) (fun c242 => ?_)
    ·
      replace c242 := ti_eqP (a := r2) (b := (0 : Int32)) c242 rfl (show (0 : Int32).toInt = 0 from rfl)
      refine ok_if (fun c243 => ?_) (fun c243 => ?_)
      ·
        replace c243 := ti_eqP (a := x0) (b := (61 : Int32)) c243 rfl (show (61 : Int32).toInt = 61 from rfl)
        unfold f_X2_isSign_38
        unfold f_X2_isSign_43
        refine ok_chk (by decide) ?_
        exact ok_ret ⟨rfl, (show (0 : Int) ≤ (1 : Int32).toInt ∧ (1 : Int32).toInt ≤ (1 : Int) from (by decide)), (by show ((1 : Int32).toInt = 1 → 0 < x0.toInt); have z : (1 : Int32).toInt = 1 := rfl; omega)⟩
      ·
        replace c243 := ti_eqN (a := x0) (b := (61 : Int32)) c243 rfl (show (61 : Int32).toInt = 61 from rfl)
        refine ok_if (fun c244 => ?_) (fun c244 => ?_)
        ·
          replace c244 := ti_eqP (a := x0) (b := (45 : Int32)) c244 rfl (show (45 : Int32).toInt = 45 from rfl)
          unfold f_X2_isSign_38
          unfold f_X2_isSign_43
          refine ok_chk (by decide) ?_
          exact ok_ret ⟨rfl, (show (0 : Int) ≤ (1 : Int32).toInt ∧ (1 : Int32).toInt ≤ (1 : Int) from (by decide)), (by show ((1 : Int32).toInt = 1 → 0 < x0.toInt); have z : (1 : Int32).toInt = 1 := rfl; omega)⟩
        ·
          replace c244 := ti_eqN (a := x0) (b := (45 : Int32)) c244 rfl (show (45 : Int32).toInt = 45 from rfl)
          refine ok_if (fun c245 => ?_) (fun c245 => ?_)
          ·
            replace c245 := ti_eqP (a := x0) (b := (43 : Int32)) c245 rfl (show (43 : Int32).toInt = 43 from rfl)
            unfold f_X2_isSign_38
            unfold f_X2_isSign_43
            refine ok_chk (by decide) ?_
            exact ok_ret ⟨rfl, (show (0 : Int) ≤ (1 : Int32).toInt ∧ (1 : Int32).toInt ≤ (1 : Int) from (by decide)), (by show ((1 : Int32).toInt = 1 → 0 < x0.toInt); have z : (1 : Int32).toInt = 1 := rfl; omega)⟩
          ·
            replace c245 := ti_eqN (a := x0) (b := (43 : Int32)) c245 rfl (show (43 : Int32).toInt = 43 from rfl)
            refine ok_if (fun c246 => ?_) (fun c246 => ?_)
            ·
              replace c246 := ti_eqP (a := x0) (b := (35 : Int32)) c246 rfl (show (35 : Int32).toInt = 35 from rfl)
              unfold f_X2_isSign_38
              unfold f_X2_isSign_43
              refine ok_chk (by decide) ?_
              exact ok_ret ⟨rfl, (show (0 : Int) ≤ (1 : Int32).toInt ∧ (1 : Int32).toInt ≤ (1 : Int) from (by decide)), (by show ((1 : Int32).toInt = 1 → 0 < x0.toInt); have z : (1 : Int32).toInt = 1 := rfl; omega)⟩
            ·
              replace c246 := ti_eqN (a := x0) (b := (35 : Int32)) c246 rfl (show (35 : Int32).toInt = 35 from rfl)
              unfold f_X2_isSign_43
              refine ok_chk (by decide) ?_
              exact ok_ret ⟨rfl, (show (0 : Int) ≤ (0 : Int32).toInt ∧ (0 : Int32).toInt ≤ (1 : Int) from (by decide)), (by show ((0 : Int32).toInt = 1 → 0 < x0.toInt); have z : (0 : Int32).toInt = 0 := rfl; omega)⟩
    ·
      replace c242 := ti_eqN (a := r2) (b := (0 : Int32)) c242 rfl (show (0 : Int32).toInt = 0 from rfl)
      unfold f_X2_isSign_38
      unfold f_X2_isSign_43
      refine ok_chk (by decide) ?_
      exact ok_ret ⟨rfl, (show (0 : Int) ≤ (1 : Int32).toInt ∧ (1 : Int32).toInt ≤ (1 : Int) from (by decide)), (by show ((1 : Int32).toInt = 1 → 0 < x0.toInt); have z : (1 : Int32).toInt = 1 := rfl; omega)⟩
  ·
    replace c241 := ti_eqN (a := r1) (b := (0 : Int32)) c241 rfl (show (0 : Int32).toInt = 0 from rfl)
    unfold f_X2_isSign_38
    unfold f_X2_isSign_43
    refine ok_chk (by decide) ?_
    exact ok_ret ⟨rfl, (show (0 : Int) ≤ (1 : Int32).toInt ∧ (1 : Int32).toInt ≤ (1 : Int) from (by decide)), (by show ((1 : Int32).toInt = 1 → 0 < x0.toInt); have z : (1 : Int32).toInt = 1 := rfl; omega)⟩
theorem t_f_X2_isSign {S : ZS} {x0 : Int32} (hT : ZT S) : Ok (f_X2_isSign x0 S) (fun o => o.2 = S ∧ ((0 : Int) ≤ o.1.toInt ∧ o.1.toInt ≤ (1 : Int)) ∧ ((o.1.toInt = 1 → 0 < x0.toInt))) := t_f_X2_isSign_0 hT 
theorem t_f_X2_skipSigns_0s {SZ S : ZS} {self0 : Nat → ZS → Option (Int32 × ZS)} {N0 : Nat} (hself0 : ∀ (x0 : Nat) (S : ZS), ZT S → A7 SZ S → (zK S x0 = 2) → (90102 - (zI S 4 x0).toInt) < (N0 : Int) → Ok (self0 x0 S) (fun o => ZT o.2 ∧ A7 SZ o.2 ∧ True)) {x0 : Nat} (hT : ZT S) (hR : A7 SZ S) (r_x0 : zK S x0 = 2) (m0 : (90102 - (zI S 4 x0).toInt) ≤ (N0 : Int)) : Ok (f_X2_skipSigns_0s self0 x0 S) (fun o => ZT o.2 ∧ A7 SZ o.2 ∧ True) := by
  unfold f_X2_skipSigns_0s
  have j247 := J_2_4 hT r_x0
  refine ok_chk r_x0 ?_
  refine ok_chk r_x0 ?_
  obtain ⟨b1, p_b1, k_b1, c_b1⟩ := T_2_2 hT r_x0
  refine ok_calR p_b1 ?_
  refine ok_chk k_b1 ?_
  have j248 := J61_2 hT k_b1 c_b1
  obtain ⟨r2, h_r2, p_r2⟩ := roz (t_f_X6_size (x0 := b1) hT k_b1)
  dsimp only at p_r2
  refine ok_calR h_r2 ?_
  refine ok_if (fun c249 => ?_) (fun c249 => ?_)
  ·
    replace c249 := ti_leP (a := r2) (b := (zI S 4 x0)) c249 rfl rfl
    unfold f_X2_skipSigns_44
    exact ok_ret ⟨hT, hR, trivial⟩
  ·
    replace c249 := ti_leN (a := r2) (b := (zI S 4 x0)) c249 rfl rfl
    refine ok_chk r_x0 ?_
    obtain ⟨b3, p_b3, k_b3, c_b3⟩ := T_2_2 hT r_x0
    refine ok_calR p_b3 ?_
    refine ok_chk r_x0 ?_
    refine ok_chk k_b3 ?_
    have j250 := J61_2 hT k_b3 c_b3
    obtain ⟨r4, h_r4, p_r4⟩ := roz (t_f_X6_at (x0 := b3) (x1 := (zI S 4 x0)) hT k_b3)
    dsimp only at p_r4
    refine ok_calR h_r4 ?_
    obtain ⟨r5, h_r5, p_r5⟩ := roz (t_f_X2_isSign (x0 := r4) hT )
    dsimp only at p_r5
    refine ok_calR h_r5 ?_
    refine ok_if (fun c251 => ?_) (fun c251 => ?_)
    ·
      replace c251 := ti_eqP (a := r5) (b := (0 : Int32)) c251 rfl (show (0 : Int32).toInt = 0 from rfl)
      unfold f_X2_skipSigns_44
      exact ok_ret ⟨hT, hR, trivial⟩
    ·
      replace c251 := ti_eqN (a := r5) (b := (0 : Int32)) c251 rfl (show (0 : Int32).toInt = 0 from rfl)
      refine ok_chk r_x0 ?_
      refine ok_bnd (fun v6 e252 => ?_)
      have t_v6 : v6.toInt = (zI S 4 x0).toInt + 1 := ti_add e252 rfl (show (1 : Int32).toInt = 1 from rfl) (by omega) (by omega)
      refine ok_chk r_x0 ?_
      refine ok_bnd (fun S7 e253 => ?_)
      have T_S7 : ZT S7 := e253.symm ▸ zt_I hT r_x0 (by decide) (show (0 : Int) ≤ v6.toInt ∧ v6.toInt ≤ (90100 : Int) from (by omega))
      have kE_S7 : zK S7 = zK S := by rw [e253]; rfl
      have nE_S7 : zN S7 = zN S := by rw [e253]; rfl
      have R_S7 : A7 SZ S7 := a7_I hR e253 r_x0 (by decide)
      have : (zI S7 4 x0).toInt = v6.toInt := by rw [e253]; exact (congrArg Int32.toInt (zI_self _ _ _ _)).trans rfl
      exact hself0 x0 S7 T_S7 R_S7 ((congrFun kE_S7 x0).trans r_x0) (by omega)
theorem t_f_X2_skipSigns_0 {SZ : ZS} : ∀ (n : Nat) (x0 : Nat) (S : ZS), ZT S → A7 SZ S → (zK S x0 = 2) → (90102 - (zI S 4 x0).toInt) < (n : Int) → Ok (f_X2_skipSigns_0  n x0 S) (fun o => ZT o.2 ∧ A7 SZ o.2 ∧ True) := by
  intro n
  induction n with
  | zero => intro x0 S hT hR g0  hm; exfalso; have j9 := J_2_4 hT g0; omega
  | succ n ih =>
    intro x0 S hT hR g0  hm
    exact t_f_X2_skipSigns_0s (N0 := n)  ih hT hR g0  (by omega)
theorem t_f_X2_skipSigns {SZ S : ZS} {x0 : Nat} (hT : ZT S) (hR : A7 SZ S) (r_x0 : zK S x0 = 2) : Ok (f_X2_skipSigns x0 S) (fun o => ZT o.2 ∧ A7 SZ o.2 ∧ True) := t_f_X2_skipSigns_0 mFuel x0 S hT hR r_x0 (by show _ < ((200000 : Nat) : Int); have j9 := J_2_4 hT r_x0; omega)
theorem t_f_X2_shortMark_0 {S : ZS} {x0 : Int32} {x1 : Int32} (hT : ZT S) : Ok (f_X2_shortMark_0 x0 x1 S) (fun o => o.2 = S ∧ ((0 : Int) ≤ o.1.toInt ∧ o.1.toInt ≤ (6 : Int)) ∧ ((0 < o.1.toInt → 0 < x0.toInt))) := by
  unfold f_X2_shortMark_0
  refine ok_if (fun c254 => ?_) (fun c254 => ?_)
  ·
    replace c254 := ti_eqP (a := x0) (b := (33 : Int32)) c254 rfl (show (33 : Int32).toInt = 33 from rfl)
    refine ok_if (fun c255 => ?_) (fun c255 => ?_)
    ·
      replace c255 := ti_eqP (a := x1) (b := (33 : Int32)) c255 rfl (show (33 : Int32).toInt = 33 from rfl)
      unfold f_X2_shortMark_27
      exact ok_ret ⟨rfl, (show (0 : Int) ≤ (3 : Int32).toInt ∧ (3 : Int32).toInt ≤ (6 : Int) from (by decide)), (by show (0 < (3 : Int32).toInt → 0 < x0.toInt); have z : (3 : Int32).toInt = 3 := rfl; omega)⟩
    ·
      replace c255 := ti_eqN (a := x1) (b := (33 : Int32)) c255 rfl (show (33 : Int32).toInt = 33 from rfl)
      refine ok_if (fun c256 => ?_) (fun c256 => ?_)
      ·
        replace c256 := ti_eqP (a := x1) (b := (63 : Int32)) c256 rfl (show (63 : Int32).toInt = 63 from rfl)
        unfold f_X2_shortMark_27
        exact ok_ret ⟨rfl, (show (0 : Int) ≤ (5 : Int32).toInt ∧ (5 : Int32).toInt ≤ (6 : Int) from (by decide)), (by show (0 < (5 : Int32).toInt → 0 < x0.toInt); have z : (5 : Int32).toInt = 5 := rfl; omega)⟩
      ·
        replace c256 := ti_eqN (a := x1) (b := (63 : Int32)) c256 rfl (show (63 : Int32).toInt = 63 from rfl)
        unfold f_X2_shortMark_27
        exact ok_ret ⟨rfl, (show (0 : Int) ≤ (1 : Int32).toInt ∧ (1 : Int32).toInt ≤ (6 : Int) from (by decide)), (by show (0 < (1 : Int32).toInt → 0 < x0.toInt); have z : (1 : Int32).toInt = 1 := rfl; omega)⟩
  ·
    replace c254 := ti_eqN (a := x0) (b := (33 : Int32)) c254 rfl (show (33 : Int32).toInt = 33 from rfl)
    refine ok_if (fun c257 => ?_) (fun c257 => ?_)
    ·
      replace c257 := ti_eqP (a := x0) (b := (63 : Int32)) c257 rfl (show (63 : Int32).toInt = 63 from rfl)
      refine ok_if (fun c258 => ?_) (fun c258 => ?_)
      ·
        replace c258 := ti_eqP (a := x1) (b := (63 : Int32)) c258 rfl (show (63 : Int32).toInt = 63 from rfl)
        unfold f_X2_shortMark_56
        exact ok_ret ⟨rfl, (show (0 : Int) ≤ (4 : Int32).toInt ∧ (4 : Int32).toInt ≤ (6 : Int) from (by decide)), (by show (0 < (4 : Int32).toInt → 0 < x0.toInt); have z : (4 : Int32).toInt = 4 := rfl; omega)⟩
      ·
        replace c258 := ti_eqN (a := x1) (b := (63 : Int32)) c258 rfl (show (63 : Int32).toInt = 63 from rfl)
        refine ok_if (fun c259 => ?_) (fun c259 => ?_)
        ·
          replace c259 := ti_eqP (a := x1) (b := (33 : Int32)) c259 rfl (show (33 : Int32).toInt = 33 from rfl)
          unfold f_X2_shortMark_56
          exact ok_ret ⟨rfl, (show (0 : Int) ≤ (6 : Int32).toInt ∧ (6 : Int32).toInt ≤ (6 : Int) from (by decide)), (by show (0 < (6 : Int32).toInt → 0 < x0.toInt); have z : (6 : Int32).toInt = 6 := rfl; omega)⟩
        ·
          replace c259 := ti_eqN (a := x1) (b := (33 : Int32)) c259 rfl (show (33 : Int32).toInt = 33 from rfl)
          unfold f_X2_shortMark_56
          exact ok_ret ⟨rfl, (show (0 : Int) ≤ (2 : Int32).toInt ∧ (2 : Int32).toInt ≤ (6 : Int) from (by decide)), (by show (0 < (2 : Int32).toInt → 0 < x0.toInt); have z : (2 : Int32).toInt = 2 := rfl; omega)⟩
    ·
      replace c257 := ti_eqN (a := x0) (b := (63 : Int32)) c257 rfl (show (63 : Int32).toInt = 63 from rfl)
      exact ok_ret ⟨rfl, (show (0 : Int) ≤ (0 : Int32).toInt ∧ (0 : Int32).toInt ≤ (6 : Int) from (by decide)), (by show (0 < (0 : Int32).toInt → 0 < x0.toInt); have z : (0 : Int32).toInt = 0 := rfl; omega)⟩
theorem t_f_X2_shortMark {S : ZS} {x0 : Int32} {x1 : Int32} (hT : ZT S) : Ok (f_X2_shortMark x0 x1 S) (fun o => o.2 = S ∧ ((0 : Int) ≤ o.1.toInt ∧ o.1.toInt ≤ (6 : Int)) ∧ ((0 < o.1.toInt → 0 < x0.toInt))) := t_f_X2_shortMark_0 hT 
theorem t_f_X2_readMark_0 {SZ S : ZS} {x0 : Nat} {x1 : Nat} (hT : ZT S) (hR : A7 SZ S) (r_x0 : zK S x0 = 2) (r_x1 : zK S x1 = 4) (q0 : (zI S 4 x0).toInt ≤ 90000) : Ok (f_X2_readMark_0 x0 x1 S) (fun o => ZT o.2 ∧ A7 SZ o.2 ∧ ((0 : Int) ≤ o.1.toInt ∧ o.1.toInt ≤ (1 : Int))) := by
  unfold f_X2_readMark_0
  have j260 := J_2_4 hT r_x0
  have j261 := J_4_4 hT r_x1
  refine ok_chk r_x0 ?_
  refine ok_chk r_x0 ?_
  refine ok_bnd (fun v1 e262 => ?_)
  have t_v1 : v1.toInt = (zI S 4 x0).toInt + 1 := ti_add e262 rfl (show (1 : Int32).toInt = 1 from rfl) (by omega) (by omega)
  refine ok_chk r_x0 ?_
  refine ok_bnd (fun S2 e263 => ?_)
  have T_S2 : ZT S2 := e263.symm ▸ zt_I hT r_x0 (by decide) (show (0 : Int) ≤ v1.toInt ∧ v1.toInt ≤ (90100 : Int) from (by omega))
  have kE_S2 : zK S2 = zK S := by rw [e263]; rfl
  have nE_S2 : zN S2 = zN S := by rw [e263]; rfl
  have R_S2 : A7 SZ S2 := a7_I hR e263 r_x0 (by decide)
  have : (zI S2 4 x0).toInt = v1.toInt := by rw [e263]; exact (congrArg Int32.toInt (zI_self _ _ _ _)).trans rfl
  have : (zI S2 4 x1).toInt = (zI S 4 x1).toInt := by rw [e263]; exact congrArg Int32.toInt (zI_ne (fun e9 => by have k9 := r_x1; rw [e9, r_x0] at k9; exact absurd k9 (by decide)))
  refine ok_chk ((congrFun kE_S2 x0).trans r_x0) ?_
  obtain ⟨⟨r3, S3⟩, h_r3, T_S3, A_S3, -⟩ := t_f_X2_readDigits (x0 := x0) (x1 := (3 : Int32)) (SZ := S2) T_S2 (a7_0 S2) ((congrFun kE_S2 x0).trans r_x0) (by decide)
  replace T_S3 : ZT S3 := T_S3
  replace A_S3 : A7 S2 S3 := A_S3
  refine ok_calR h_r3 ?_
  have q_S3 := fq_X2_readDigits h_r3
  have kE_S3 : zK S3 = zK S2 := q_S3.2.2.1
  have nE_S3 : zN S3 = zN S2 := q_S3.2.2.2.1
  have R_S3 : A7 SZ S3 := a7_t R_S2 A_S3
  have : (zI S3 4 x1).toInt = (zI S2 4 x1).toInt := congrArg Int32.toInt ((((fz_X2_readDigits h_r3) T_S2.2.2.2.2.1).2.2 x1 (by rw [((congrFun kE_S2 x1).trans r_x1)]; decide)).2.2.1 4 (by rw [((congrFun kE_S2 x1).trans r_x1)]; decide))
  refine ok_chk ((congrFun kE_S3 x0).trans ((congrFun kE_S2 x0).trans r_x0)) ?_
  refine ok_bnd (fun v4 e264 => ?_)
  have t_v4 : v4.toInt = (zI S 4 x0).toInt + 1 := ti_add e264 rfl (show (1 : Int32).toInt = 1 from rfl) (by omega) (by omega)
  have j265 := J_2_4 T_S3 ((congrFun kE_S3 x0).trans ((congrFun kE_S2 x0).trans r_x0))
  refine ok_if (fun c266 => ?_) (fun c266 => ?_)
  ·
    replace c266 := ti_eqP (a := (zI S3 4 x0)) (b := v4) c266 rfl rfl
    refine ok_chk ((congrFun kE_S3 x0).trans ((congrFun kE_S2 x0).trans r_x0)) ?_
    refine ok_chk ((congrFun kE_S3 x0).trans ((congrFun kE_S2 x0).trans r_x0)) ?_
    obtain ⟨⟨r10, S10⟩, h_r10, T_S10, A_S10, p_r10⟩ := t_f_X2_refuse (x0 := x0) (x1 := (1 : Int32)) (x2 := (zI S3 4 x0)) (SZ := S3) T_S3 (a7_0 S3) ((congrFun kE_S3 x0).trans ((congrFun kE_S2 x0).trans r_x0))
    replace T_S10 : ZT S10 := T_S10
    replace A_S10 : A7 S3 S10 := A_S10
    dsimp only at p_r10
    refine ok_calR h_r10 ?_
    have q_S10 := fq_X2_refuse h_r10
    have kE_S10 : zK S10 = zK S3 := q_S10.2.2.1
    have nE_S10 : zN S10 = zN S3 := q_S10.2.2.2.1
    have R_S10 : A7 SZ S10 := a7_t R_S3 A_S10
    have : (zI S10 4 x0).toInt = (zI S3 4 x0).toInt := congrArg Int32.toInt ((((fz_X2_refuse h_r10) T_S3.2.2.2.2.1).2.2 x0 (by rw [((congrFun kE_S3 x0).trans ((congrFun kE_S2 x0).trans r_x0))]; decide)).2.2.1 4 (by rw [((congrFun kE_S3 x0).trans ((congrFun kE_S2 x0).trans r_x0))]; decide))
    have : (zI S10 4 x1).toInt = (zI S3 4 x1).toInt := congrArg Int32.toInt ((((fz_X2_refuse h_r10) T_S3.2.2.2.2.1).2.2 x1 (by rw [((congrFun kE_S3 x1).trans ((congrFun kE_S2 x1).trans r_x1))]; decide)).2.2.1 4 (by rw [((congrFun kE_S3 x1).trans ((congrFun kE_S2 x1).trans r_x1))]; decide))
    refine ok_chk (nar_b (v := r10) (by omega) (by omega)) ?_
    exact ok_ret ⟨T_S10, R_S10, (show (0 : Int) ≤ r10.toInt ∧ r10.toInt ≤ (1 : Int) from (by omega))⟩
  ·
    replace c266 := ti_eqN (a := (zI S3 4 x0)) (b := v4) c266 rfl rfl
    refine ok_if (fun c267 => ?_) (fun c267 => ?_)
    ·
      replace c267 := ti_ltP (a := (255 : Int32)) (b := r3) c267 (show (255 : Int32).toInt = 255 from rfl) rfl
      unfold f_X2_readMark_56
      refine ok_chk ((congrFun kE_S3 x0).trans ((congrFun kE_S2 x0).trans r_x0)) ?_
      obtain ⟨⟨r1, S1⟩, h_r1, T_S1, A_S1, p_r1⟩ := t_f_X2_refuse (x0 := x0) (x1 := (8 : Int32)) (x2 := (zI S 4 x0)) (SZ := S3) T_S3 (a7_0 S3) ((congrFun kE_S3 x0).trans ((congrFun kE_S2 x0).trans r_x0))
      replace T_S1 : ZT S1 := T_S1
      replace A_S1 : A7 S3 S1 := A_S1
      dsimp only at p_r1
      refine ok_calR h_r1 ?_
      have q_S1 := fq_X2_refuse h_r1
      have kE_S1 : zK S1 = zK S3 := q_S1.2.2.1
      have nE_S1 : zN S1 = zN S3 := q_S1.2.2.2.1
      have R_S1 : A7 SZ S1 := a7_t R_S3 A_S1
      have : (zI S1 4 x0).toInt = (zI S3 4 x0).toInt := congrArg Int32.toInt ((((fz_X2_refuse h_r1) T_S3.2.2.2.2.1).2.2 x0 (by rw [((congrFun kE_S3 x0).trans ((congrFun kE_S2 x0).trans r_x0))]; decide)).2.2.1 4 (by rw [((congrFun kE_S3 x0).trans ((congrFun kE_S2 x0).trans r_x0))]; decide))
      have : (zI S1 4 x1).toInt = (zI S3 4 x1).toInt := congrArg Int32.toInt ((((fz_X2_refuse h_r1) T_S3.2.2.2.2.1).2.2 x1 (by rw [((congrFun kE_S3 x1).trans ((congrFun kE_S2 x1).trans r_x1))]; decide)).2.2.1 4 (by rw [((congrFun kE_S3 x1).trans ((congrFun kE_S2 x1).trans r_x1))]; decide))
      refine ok_chk (nar_b (v := r1) (by omega) (by omega)) ?_
      exact ok_ret ⟨T_S1, R_S1, (show (0 : Int) ≤ r1.toInt ∧ r1.toInt ≤ (1 : Int) from (by omega))⟩
    ·
      replace c267 := ti_ltN (a := (255 : Int32)) (b := r3) c267 (show (255 : Int32).toInt = 255 from rfl) rfl
      refine ok_chk ((congrFun kE_S3 x1).trans ((congrFun kE_S2 x1).trans r_x1)) ?_
      have j268 := J_4_4 T_S3 ((congrFun kE_S3 x1).trans ((congrFun kE_S2 x1).trans r_x1))
      refine ok_if (fun c269 => ?_) (fun c269 => ?_)
      ·
        replace c269 := ti_ltP (a := (zI S3 4 x1)) (b := (4 : Int32)) c269 rfl (show (4 : Int32).toInt = 4 from rfl)
        refine ok_chk ((congrFun kE_S3 x0).trans ((congrFun kE_S2 x0).trans r_x0)) ?_
        obtain ⟨b5, p_b5, k_b5, c_b5⟩ := T_2_2 T_S3 ((congrFun kE_S3 x0).trans ((congrFun kE_S2 x0).trans r_x0))
        refine ok_calR p_b5 ?_
        refine ok_chk ((congrFun kE_S3 x0).trans ((congrFun kE_S2 x0).trans r_x0)) ?_
        refine ok_chk k_b5 ?_
        have j270 := J61_2 T_S3 k_b5 c_b5
        obtain ⟨r6, h_r6, p_r6⟩ := roz (t_f_X6_at (x0 := b5) (x1 := (zI S3 4 x0)) T_S3 k_b5)
        dsimp only at p_r6
        refine ok_calR h_r6 ?_
        obtain ⟨r7, h_r7, p_r7⟩ := roz (t_f_X11_isDigit (x0 := r6) T_S3 )
        dsimp only at p_r7
        refine ok_calR h_r7 ?_
        refine ok_if (fun c271 => ?_) (fun c271 => ?_)
        ·
          replace c271 := ti_eqP (a := r7) (b := (0 : Int32)) c271 rfl (show (0 : Int32).toInt = 0 from rfl)
          refine ok_chk ((congrFun kE_S3 x1).trans ((congrFun kE_S2 x1).trans r_x1)) ?_
          obtain ⟨⟨r8, S8⟩, h_r8, T_S8, A_S8, -⟩ := t_f_X4_putMark (x0 := x1) (x1 := r3) (SZ := S3) T_S3 (a7_0 S3) ((congrFun kE_S3 x1).trans ((congrFun kE_S2 x1).trans r_x1)) (by omega)
          replace T_S8 : ZT S8 := T_S8
          replace A_S8 : A7 S3 S8 := A_S8
          refine ok_calR h_r8 ?_
          have q_S8 := fq_X4_putMark h_r8
          have kE_S8 : zK S8 = zK S3 := q_S8.2.2.1
          have nE_S8 : zN S8 = zN S3 := q_S8.2.2.2.1
          have R_S8 : A7 SZ S8 := a7_t R_S3 A_S8
          have : (zI S8 4 x0).toInt = (zI S3 4 x0).toInt := congrArg Int32.toInt ((((fz_X4_putMark h_r8) T_S3.2.2.2.2.1).2.2 x0 (by rw [((congrFun kE_S3 x0).trans ((congrFun kE_S2 x0).trans r_x0))]; decide)).2.2.1 4 (by rw [((congrFun kE_S3 x0).trans ((congrFun kE_S2 x0).trans r_x0))]; decide))
          refine ok_chk (by decide) ?_
          exact ok_ret ⟨T_S8, R_S8, (show (0 : Int) ≤ (1 : Int32).toInt ∧ (1 : Int32).toInt ≤ (1 : Int) from (by decide))⟩
        ·
          replace c271 := ti_eqN (a := r7) (b := (0 : Int32)) c271 rfl (show (0 : Int32).toInt = 0 from rfl)
          refine ok_chk ((congrFun kE_S3 x0).trans ((congrFun kE_S2 x0).trans r_x0)) ?_
          refine ok_chk ((congrFun kE_S3 x0).trans ((congrFun kE_S2 x0).trans r_x0)) ?_
          obtain ⟨⟨r9, S9⟩, h_r9, T_S9, A_S9, p_r9⟩ := t_f_X2_refuse (x0 := x0) (x1 := (1 : Int32)) (x2 := (zI S3 4 x0)) (SZ := S3) T_S3 (a7_0 S3) ((congrFun kE_S3 x0).trans ((congrFun kE_S2 x0).trans r_x0))
          replace T_S9 : ZT S9 := T_S9
          replace A_S9 : A7 S3 S9 := A_S9
          dsimp only at p_r9
          refine ok_calR h_r9 ?_
          have q_S9 := fq_X2_refuse h_r9
          have kE_S9 : zK S9 = zK S3 := q_S9.2.2.1
          have nE_S9 : zN S9 = zN S3 := q_S9.2.2.2.1
          have R_S9 : A7 SZ S9 := a7_t R_S3 A_S9
          have : (zI S9 4 x0).toInt = (zI S3 4 x0).toInt := congrArg Int32.toInt ((((fz_X2_refuse h_r9) T_S3.2.2.2.2.1).2.2 x0 (by rw [((congrFun kE_S3 x0).trans ((congrFun kE_S2 x0).trans r_x0))]; decide)).2.2.1 4 (by rw [((congrFun kE_S3 x0).trans ((congrFun kE_S2 x0).trans r_x0))]; decide))
          have : (zI S9 4 x1).toInt = (zI S3 4 x1).toInt := congrArg Int32.toInt ((((fz_X2_refuse h_r9) T_S3.2.2.2.2.1).2.2 x1 (by rw [((congrFun kE_S3 x1).trans ((congrFun kE_S2 x1).trans r_x1))]; decide)).2.2.1 4 (by rw [((congrFun kE_S3 x1).trans ((congrFun kE_S2 x1).trans r_x1))]; decide))
          refine ok_chk (nar_b (v := r9) (by omega) (by omega)) ?_
          exact ok_ret ⟨T_S9, R_S9, (show (0 : Int) ≤ r9.toInt ∧ r9.toInt ≤ (1 : Int) from (by omega))⟩
      ·
        replace c269 := ti_ltN (a := (zI S3 4 x1)) (b := (4 : Int32)) c269 rfl (show (4 : Int32).toInt = 4 from rfl)
        unfold f_X2_readMark_56
        refine ok_chk ((congrFun kE_S3 x0).trans ((congrFun kE_S2 x0).trans r_x0)) ?_
        obtain ⟨⟨r1, S1⟩, h_r1, T_S1, A_S1, p_r1⟩ := t_f_X2_refuse (x0 := x0) (x1 := (8 : Int32)) (x2 := (zI S 4 x0)) (SZ := S3) T_S3 (a7_0 S3) ((congrFun kE_S3 x0).trans ((congrFun kE_S2 x0).trans r_x0))
        replace T_S1 : ZT S1 := T_S1
        replace A_S1 : A7 S3 S1 := A_S1
        dsimp only at p_r1
        refine ok_calR h_r1 ?_
        have q_S1 := fq_X2_refuse h_r1
        have kE_S1 : zK S1 = zK S3 := q_S1.2.2.1
        have nE_S1 : zN S1 = zN S3 := q_S1.2.2.2.1
        have R_S1 : A7 SZ S1 := a7_t R_S3 A_S1
        have : (zI S1 4 x0).toInt = (zI S3 4 x0).toInt := congrArg Int32.toInt ((((fz_X2_refuse h_r1) T_S3.2.2.2.2.1).2.2 x0 (by rw [((congrFun kE_S3 x0).trans ((congrFun kE_S2 x0).trans r_x0))]; decide)).2.2.1 4 (by rw [((congrFun kE_S3 x0).trans ((congrFun kE_S2 x0).trans r_x0))]; decide))
        have : (zI S1 4 x1).toInt = (zI S3 4 x1).toInt := congrArg Int32.toInt ((((fz_X2_refuse h_r1) T_S3.2.2.2.2.1).2.2 x1 (by rw [((congrFun kE_S3 x1).trans ((congrFun kE_S2 x1).trans r_x1))]; decide)).2.2.1 4 (by rw [((congrFun kE_S3 x1).trans ((congrFun kE_S2 x1).trans r_x1))]; decide))
        refine ok_chk (nar_b (v := r1) (by omega) (by omega)) ?_
        exact ok_ret ⟨T_S1, R_S1, (show (0 : Int) ≤ r1.toInt ∧ r1.toInt ≤ (1 : Int) from (by omega))⟩
theorem t_f_X2_readMark {SZ S : ZS} {x0 : Nat} {x1 : Nat} (hT : ZT S) (hR : A7 SZ S) (r_x0 : zK S x0 = 2) (r_x1 : zK S x1 = 4) (q0 : (zI S 4 x0).toInt ≤ 90000) : Ok (f_X2_readMark x0 x1 S) (fun o => ZT o.2 ∧ A7 SZ o.2 ∧ ((0 : Int) ≤ o.1.toInt ∧ o.1.toInt ≤ (1 : Int))) := t_f_X2_readMark_0 hT hR r_x0 r_x1 q0
theorem t_f_X2_readMarks_69s {SZ S : ZS} {self69 : Nat → Nat → Int32 → Int32 → ZS → Option (Int32 × ZS)} {N69 : Nat} (hself69 : ∀ (x0 : Nat) (x1 : Nat) (x3 : Int32) (x4 : Int32) (S : ZS), ZT S → A7 SZ S → (zK S x0 = 2) → (zK S x1 = 4) → ((0 : Int) ≤ x3.toInt ∧ x3.toInt ≤ (1 : Int)) → ((0 : Int) ≤ x4.toInt ∧ x4.toInt ≤ (2000 : Int)) → (2001 - x4.toInt) < (N69 : Int) → Ok (self69 x0 x1 x3 x4 S) (fun o => ZT o.2 ∧ A7 SZ o.2 ∧ ((0 : Int) ≤ o.1.toInt ∧ o.1.toInt ≤ (1 : Int)))) {x0 : Nat} {x1 : Nat} {x3 : Int32} {x4 : Int32} (hT : ZT S) (hR : A7 SZ S) (r_x0 : zK S x0 = 2) (r_x1 : zK S x1 = 4) (r_x3 : (0 : Int) ≤ x3.toInt ∧ x3.toInt ≤ (1 : Int)) (r_x4 : (0 : Int) ≤ x4.toInt ∧ x4.toInt ≤ (2000 : Int)) (m69 : (2001 - x4.toInt) ≤ (N69 : Int)) : Ok (f_X2_readMarks_69s self69 x0 x1 x3 x4 S) (fun o => ZT o.2 ∧ A7 SZ o.2 ∧ ((0 : Int) ≤ o.1.toInt ∧ o.1.toInt ≤ (1 : Int))) := by
  unfold f_X2_readMarks_69s
  have j272 := J_2_4 hT r_x0
  have j273 := J_4_4 hT r_x1
  refine ok_if (fun c274 => ?_) (fun c274 => ?_)
  ·
    replace c274 := ti_leP (a := (2000 : Int32)) (b := x4) c274 (show (2000 : Int32).toInt = 2000 from rfl) rfl
    unfold f_X2_readMarks_113
    refine ok_chk (nar_b (v := x3) (by omega) (by omega)) ?_
    exact ok_ret ⟨hT, hR, (show (0 : Int) ≤ x3.toInt ∧ x3.toInt ≤ (1 : Int) from (by omega))⟩
  ·
    replace c274 := ti_leN (a := (2000 : Int32)) (b := x4) c274 (show (2000 : Int32).toInt = 2000 from rfl) rfl
    refine ok_if (fun c275 => ?_) (fun c275 => ?_)
    ·
      replace c275 := ti_eqP (a := x3) (b := (0 : Int32)) c275 rfl (show (0 : Int32).toInt = 0 from rfl)
      unfold f_X2_readMarks_113
      refine ok_chk (nar_b (v := x3) (by omega) (by omega)) ?_
      exact ok_ret ⟨hT, hR, (show (0 : Int) ≤ x3.toInt ∧ x3.toInt ≤ (1 : Int) from (by omega))⟩
    ·
      replace c275 := ti_eqN (a := x3) (b := (0 : Int32)) c275 rfl (show (0 : Int32).toInt = 0 from rfl)
      refine ok_chk r_x0 ?_
      obtain ⟨b1, p_b1, k_b1, c_b1⟩ := T_2_2 hT r_x0
      refine ok_calR p_b1 ?_
      refine ok_chk r_x0 ?_
      refine ok_chk k_b1 ?_
      have j276 := J61_2 hT k_b1 c_b1
      obtain ⟨r2, h_r2, p_r2⟩ := roz (t_f_X6_at (x0 := b1) (x1 := (zI S 4 x0)) hT k_b1)
      dsimp only at p_r2
      refine ok_calR h_r2 ?_
      refine ok_if (fun c277 => ?_) (fun c277 => ?_)
      ·
        replace c277 := ti_eqP (a := r2) (b := (36 : Int32)) c277 rfl (show (36 : Int32).toInt = 36 from rfl)
        refine ok_chk r_x0 ?_
        obtain ⟨⟨r3, S3⟩, h_r3, T_S3, A_S3, p_r3⟩ := t_f_X2_readMark (x0 := x0) (x1 := x1) (SZ := S) hT (a7_0 S) r_x0 r_x1 (by omega)
        replace T_S3 : ZT S3 := T_S3
        replace A_S3 : A7 S S3 := A_S3
        dsimp only at p_r3
        refine ok_calR h_r3 ?_
        have q_S3 := fq_X2_readMark h_r3
        have kE_S3 : zK S3 = zK S := q_S3.2.2.1
        have nE_S3 : zN S3 = zN S := q_S3.2.2.2.1
        have R_S3 : A7 SZ S3 := a7_t hR A_S3
        refine ok_chk ((congrFun kE_S3 x0).trans r_x0) ?_
        obtain ⟨⟨r4, S4⟩, h_r4, T_S4, A_S4, -⟩ := t_f_X2_skipBlanks (x0 := x0) (SZ := S3) T_S3 (a7_0 S3) ((congrFun kE_S3 x0).trans r_x0)
        replace T_S4 : ZT S4 := T_S4
        replace A_S4 : A7 S3 S4 := A_S4
        refine ok_calR h_r4 ?_
        have q_S4 := fq_X2_skipBlanks h_r4
        have kE_S4 : zK S4 = zK S3 := q_S4.2.2.1
        have nE_S4 : zN S4 = zN S3 := q_S4.2.2.2.1
        have R_S4 : A7 SZ S4 := a7_t R_S3 A_S4
        have : (zI S4 4 x1).toInt = (zI S3 4 x1).toInt := congrArg Int32.toInt ((((fz_X2_skipBlanks h_r4) T_S3.2.2.2.2.1).2.2 x1 (by rw [((congrFun kE_S3 x1).trans r_x1)]; decide)).2.2.1 4 (by rw [((congrFun kE_S3 x1).trans r_x1)]; decide))
        refine ok_bnd (fun v5 e278 => ?_)
        have t_v5 : v5.toInt = x4.toInt + 1 := ti_add e278 rfl (show (1 : Int32).toInt = 1 from rfl) (by omega) (by omega)
        exact hself69 x0 x1 r3 v5 S4 T_S4 R_S4 ((congrFun kE_S4 x0).trans ((congrFun kE_S3 x0).trans r_x0)) ((congrFun kE_S4 x1).trans ((congrFun kE_S3 x1).trans r_x1)) (by omega) (by omega) (by omega)
      ·
        replace c277 := ti_eqN (a := r2) (b := (36 : Int32)) c277 rfl (show (36 : Int32).toInt = 36 from rfl)
        unfold f_X2_readMarks_113
        refine ok_chk (nar_b (v := x3) (by omega) (by omega)) ?_
        exact ok_ret ⟨hT, hR, (show (0 : Int) ≤ x3.toInt ∧ x3.toInt ≤ (1 : Int) from (by omega))⟩
theorem t_f_X2_readMarks_69 {SZ : ZS} : ∀ (n : Nat) (x0 : Nat) (x1 : Nat) (x3 : Int32) (x4 : Int32) (S : ZS), ZT S → A7 SZ S → (zK S x0 = 2) → (zK S x1 = 4) → ((0 : Int) ≤ x3.toInt ∧ x3.toInt ≤ (1 : Int)) → ((0 : Int) ≤ x4.toInt ∧ x4.toInt ≤ (2000 : Int)) → (2001 - x4.toInt) < (n : Int) → Ok (f_X2_readMarks_69  n x0 x1 x3 x4 S) (fun o => ZT o.2 ∧ A7 SZ o.2 ∧ ((0 : Int) ≤ o.1.toInt ∧ o.1.toInt ≤ (1 : Int))) := by
  intro n
  induction n with
  | zero => intro x0 x1 x3 x4 S hT hR g0 g1 g2 g3  hm; exfalso; omega
  | succ n ih =>
    intro x0 x1 x3 x4 S hT hR g0 g1 g2 g3  hm
    exact t_f_X2_readMarks_69s (N69 := n)  ih hT hR g0 g1 g2 g3  (by omega)
theorem t_f_X2_readMarks_56 {SZ S : ZS} {x0 : Nat} {x1 : Nat} {t0 : Int32} {t1 : Int32} {t2 : Nat} (hT : ZT S) (hR : A7 SZ S) (r_x0 : zK S x0 = 2) (r_x1 : zK S x1 = 4) (r_t0 : (1 : Int) ≤ t0.toInt ∧ t0.toInt ≤ (2 : Int)) (r_t1 : (0 : Int) ≤ t1.toInt ∧ t1.toInt ≤ (90000 : Int)) (r_t2 : zK S t2 = 2) : Ok (f_X2_readMarks_56 x0 x1 t0 t1 t2 S) (fun o => ZT o.2 ∧ A7 SZ o.2 ∧ ((0 : Int) ≤ o.1.toInt ∧ o.1.toInt ≤ (1 : Int))) := by
  unfold f_X2_readMarks_56
  have j279 := J_2_4 hT r_x0
  have j280 := J_4_4 hT r_x1
  refine ok_bnd (fun v1 e281 => ?_)
  have t_v1 : v1.toInt = t1.toInt + t0.toInt := ti_add e281 rfl rfl (by omega) (by omega)
  refine ok_chk r_t2 ?_
  refine ok_bnd (fun S2 e282 => ?_)
  have T_S2 : ZT S2 := e282.symm ▸ zt_I hT r_t2 (by decide) (show (0 : Int) ≤ v1.toInt ∧ v1.toInt ≤ (90100 : Int) from (by omega))
  have kE_S2 : zK S2 = zK S := by rw [e282]; rfl
  have nE_S2 : zN S2 = zN S := by rw [e282]; rfl
  have R_S2 : A7 SZ S2 := a7_I hR e282 r_t2 (by decide)
  have : (zI S2 4 x1).toInt = (zI S 4 x1).toInt := by rw [e282]; exact congrArg Int32.toInt (zI_ne (fun e9 => by have k9 := r_x1; rw [e9, r_t2] at k9; exact absurd k9 (by decide)))
  refine ok_chk ((congrFun kE_S2 x0).trans r_x0) ?_
  obtain ⟨⟨r3, S3⟩, h_r3, T_S3, A_S3, -⟩ := t_f_X2_skipBlanks (x0 := x0) (SZ := S2) T_S2 (a7_0 S2) ((congrFun kE_S2 x0).trans r_x0)
  replace T_S3 : ZT S3 := T_S3
  replace A_S3 : A7 S2 S3 := A_S3
  refine ok_calR h_r3 ?_
  have q_S3 := fq_X2_skipBlanks h_r3
  have kE_S3 : zK S3 = zK S2 := q_S3.2.2.1
  have nE_S3 : zN S3 = zN S2 := q_S3.2.2.2.1
  have R_S3 : A7 SZ S3 := a7_t R_S2 A_S3
  have : (zI S3 4 x1).toInt = (zI S2 4 x1).toInt := congrArg Int32.toInt ((((fz_X2_skipBlanks h_r3) T_S2.2.2.2.2.1).2.2 x1 (by rw [((congrFun kE_S2 x1).trans r_x1)]; decide)).2.2.1 4 (by rw [((congrFun kE_S2 x1).trans r_x1)]; decide))
  unfold f_X2_readMarks_64
  exact t_f_X2_readMarks_69   mFuel x0 x1 (1 : Int32) (0 : Int32) S3 T_S3 R_S3 ((congrFun kE_S3 x0).trans ((congrFun kE_S2 x0).trans r_x0)) ((congrFun kE_S3 x1).trans ((congrFun kE_S2 x1).trans r_x1)) (by decide) (by decide) (by show _ < ((200000 : Nat) : Int); have z0 : (1 : Int32).toInt = 1 := rfl; have z1 : (0 : Int32).toInt = 0 := rfl; omega)
theorem t_f_X2_readMarks_0 {SZ S : ZS} {x0 : Nat} {x1 : Nat} (hT : ZT S) (hR : A7 SZ S) (r_x0 : zK S x0 = 2) (r_x1 : zK S x1 = 4) (q0 : (zI S 4 x1).toInt ≤ 3) : Ok (f_X2_readMarks_0 x0 x1 S) (fun o => ZT o.2 ∧ A7 SZ o.2 ∧ ((0 : Int) ≤ o.1.toInt ∧ o.1.toInt ≤ (1 : Int))) := by
  unfold f_X2_readMarks_0
  have j283 := J_2_4 hT r_x0
  have j284 := J_4_4 hT r_x1
  refine ok_chk r_x0 ?_
  obtain ⟨⟨r1, S1⟩, h_r1, T_S1, A_S1, -⟩ := t_f_X2_skipBlanks (x0 := x0) (SZ := S) hT (a7_0 S) r_x0
  replace T_S1 : ZT S1 := T_S1
  replace A_S1 : A7 S S1 := A_S1
  refine ok_calR h_r1 ?_
  have q_S1 := fq_X2_skipBlanks h_r1
  have kE_S1 : zK S1 = zK S := q_S1.2.2.1
  have nE_S1 : zN S1 = zN S := q_S1.2.2.2.1
  have R_S1 : A7 SZ S1 := a7_t hR A_S1
  have : (zI S1 4 x1).toInt = (zI S 4 x1).toInt := congrArg Int32.toInt ((((fz_X2_skipBlanks h_r1) hT.2.2.2.2.1).2.2 x1 (by rw [r_x1]; decide)).2.2.1 4 (by rw [r_x1]; decide))
  refine ok_chk ((congrFun kE_S1 x0).trans r_x0) ?_
  obtain ⟨b2, p_b2, k_b2, c_b2⟩ := T_2_2 T_S1 ((congrFun kE_S1 x0).trans r_x0)
  refine ok_calR p_b2 ?_
  refine ok_chk ((congrFun kE_S1 x0).trans r_x0) ?_
  refine ok_chk k_b2 ?_
  have j285 := J61_2 T_S1 k_b2 c_b2
  obtain ⟨r3, h_r3, p_r3⟩ := roz (t_f_X6_at (x0 := b2) (x1 := (zI S1 4 x0)) T_S1 k_b2)
  dsimp only at p_r3
  refine ok_calR h_r3 ?_
  refine ok_chk ((congrFun kE_S1 x0).trans r_x0) ?_
  obtain ⟨b4, p_b4, k_b4, c_b4⟩ := T_2_2 T_S1 ((congrFun kE_S1 x0).trans r_x0)
  refine ok_calR p_b4 ?_
  refine ok_chk ((congrFun kE_S1 x0).trans r_x0) ?_
  refine ok_bnd (fun v5 e286 => ?_)
  have j287 := J_2_4 T_S1 ((congrFun kE_S1 x0).trans r_x0)
  have t_v5 : v5.toInt = (zI S1 4 x0).toInt + 1 := ti_add e286 rfl (show (1 : Int32).toInt = 1 from rfl) (by omega) (by omega)
  refine ok_chk k_b4 ?_
  have j288 := J61_2 T_S1 k_b4 c_b4
  obtain ⟨r6, h_r6, p_r6⟩ := roz (t_f_X6_at (x0 := b4) (x1 := v5) T_S1 k_b4)
  dsimp only at p_r6
  refine ok_calR h_r6 ?_
  obtain ⟨r7, h_r7, p_r7⟩ := roz (t_f_X2_shortMark (x0 := r3) (x1 := r6) T_S1 )
  dsimp only at p_r7
  refine ok_calR h_r7 ?_
  refine ok_if (fun c289 => ?_) (fun c289 => ?_)
  ·
    replace c289 := ti_leP (a := r7) (b := (0 : Int32)) c289 rfl (show (0 : Int32).toInt = 0 from rfl)
    unfold f_X2_readMarks_64
    exact t_f_X2_readMarks_69   mFuel x0 x1 (1 : Int32) (0 : Int32) S1 T_S1 R_S1 ((congrFun kE_S1 x0).trans r_x0) ((congrFun kE_S1 x1).trans r_x1) (by decide) (by decide) (by show _ < ((200000 : Nat) : Int); have z0 : (1 : Int32).toInt = 1 := rfl; have z1 : (0 : Int32).toInt = 0 := rfl; omega)
  ·
    replace c289 := ti_leN (a := r7) (b := (0 : Int32)) c289 rfl (show (0 : Int32).toInt = 0 from rfl)
    refine ok_chk ((congrFun kE_S1 x1).trans r_x1) ?_
    have j290 := J_4_4 T_S1 ((congrFun kE_S1 x1).trans r_x1)
    obtain ⟨⟨r8, S8⟩, h_r8, T_S8, A_S8, -⟩ := t_f_X4_putMark (x0 := x1) (x1 := r7) (SZ := S1) T_S1 (a7_0 S1) ((congrFun kE_S1 x1).trans r_x1) (by omega)
    replace T_S8 : ZT S8 := T_S8
    replace A_S8 : A7 S1 S8 := A_S8
    refine ok_calR h_r8 ?_
    have q_S8 := fq_X4_putMark h_r8
    have kE_S8 : zK S8 = zK S1 := q_S8.2.2.1
    have nE_S8 : zN S8 = zN S1 := q_S8.2.2.2.1
    have R_S8 : A7 SZ S8 := a7_t R_S1 A_S8
    have : (zI S8 4 x0).toInt = (zI S1 4 x0).toInt := congrArg Int32.toInt ((((fz_X4_putMark h_r8) T_S1.2.2.2.2.1).2.2 x0 (by rw [((congrFun kE_S1 x0).trans r_x0)]; decide)).2.2.1 4 (by rw [((congrFun kE_S1 x0).trans r_x0)]; decide))
    refine ok_chk ((congrFun kE_S8 x0).trans ((congrFun kE_S1 x0).trans r_x0)) ?_
    refine ok_if (fun c291 => ?_) (fun c291 => ?_)
    ·
      replace c291 := ti_leP (a := r7) (b := (2 : Int32)) c291 rfl (show (2 : Int32).toInt = 2 from rfl)
      have j292 := J_2_4 T_S8 ((congrFun kE_S8 x0).trans ((congrFun kE_S1 x0).trans r_x0))
      exact t_f_X2_readMarks_56 (S := S8)  (x0 := x0) (x1 := x1) (t0 := (1 : Int32)) (t1 := (zI S8 4 x0)) (t2 := x0) T_S8 R_S8 ((congrFun kE_S8 x0).trans ((congrFun kE_S1 x0).trans r_x0)) ((congrFun kE_S8 x1).trans ((congrFun kE_S1 x1).trans r_x1)) (by decide) (by omega) ((congrFun kE_S8 x0).trans ((congrFun kE_S1 x0).trans r_x0))
    ·
      replace c291 := ti_leN (a := r7) (b := (2 : Int32)) c291 rfl (show (2 : Int32).toInt = 2 from rfl)
      have j293 := J_2_4 T_S8 ((congrFun kE_S8 x0).trans ((congrFun kE_S1 x0).trans r_x0))
      exact t_f_X2_readMarks_56 (S := S8)  (x0 := x0) (x1 := x1) (t0 := (2 : Int32)) (t1 := (zI S8 4 x0)) (t2 := x0) T_S8 R_S8 ((congrFun kE_S8 x0).trans ((congrFun kE_S1 x0).trans r_x0)) ((congrFun kE_S8 x1).trans ((congrFun kE_S1 x1).trans r_x1)) (by decide) (by omega) ((congrFun kE_S8 x0).trans ((congrFun kE_S1 x0).trans r_x0))
theorem t_f_X2_readMarks {SZ S : ZS} {x0 : Nat} {x1 : Nat} (hT : ZT S) (hR : A7 SZ S) (r_x0 : zK S x0 = 2) (r_x1 : zK S x1 = 4) (q0 : (zI S 4 x1).toInt ≤ 3) : Ok (f_X2_readMarks x0 x1 S) (fun o => ZT o.2 ∧ A7 SZ o.2 ∧ ((0 : Int) ≤ o.1.toInt ∧ o.1.toInt ≤ (1 : Int))) := t_f_X2_readMarks_0 hT hR r_x0 r_x1 q0
theorem t_f_X11_byteOf_0 {S : ZS} {x0 : Int64} {x2 : Int32} (hT : ZT S) : Ok (f_X11_byteOf_0 x0 x2 S) (fun o => o.2 = S ∧ ((0 : Int) ≤ o.1.toInt ∧ o.1.toInt ≤ (65535 : Int))) := by
  unfold f_X11_byteOf_0
  refine ok_bnd (fun v1 e294 => ?_)
  refine ok_bnd (fun v2 e295 => ?_)
  refine ok_bnd (fun v3 e296 => ?_)
  refine ok_bnd (fun v4 e297 => ?_)
  refine ok_bnd (fun v5 e298 => ?_)
  have t_v5 := nar_cb e298
  refine ok_chk (nar_c (v := v5) (by omega) (by omega)) ?_
  exact ok_ret ⟨rfl, (show (0 : Int) ≤ v5.toInt ∧ v5.toInt ≤ (65535 : Int) from (by omega))⟩
theorem t_f_X11_byteOf {S : ZS} {x0 : Int64} {x2 : Int32} (hT : ZT S) : Ok (f_X11_byteOf x0 x2 S) (fun o => o.2 = S ∧ ((0 : Int) ≤ o.1.toInt ∧ o.1.toInt ≤ (65535 : Int))) := t_f_X11_byteOf_0 hT 
theorem t_f_X11_out_0 {S : ZS} {x0 : Nat} {x1 : Int32} (hT : ZT S) (r_x0 : zK S x0 = 11) : Ok (f_X11_out_0 x0 x1 S) (fun o => o.2 = S ∧ True) := by
  unfold f_X11_out_0
  refine ok_chk r_x0 ?_
  obtain ⟨b1, p_b1, k_b1, c_b1⟩ := T_11_1 hT r_x0
  have lo_b1 := M_11_1 hT r_x0 p_b1
  refine ok_calR p_b1 ?_
  refine ok_chk k_b1 ?_
  have j299 := J_6_1 hT k_b1
  obtain ⟨r2, h_r2, p_r2⟩ := roz (t_f_X6_at (x0 := b1) (x1 := x1) hT k_b1)
  dsimp only at p_r2
  refine ok_calR h_r2 ?_
  exact ok_ret ⟨rfl, trivial⟩
theorem t_f_X11_out {S : ZS} {x0 : Nat} {x1 : Int32} (hT : ZT S) (r_x0 : zK S x0 = 11) : Ok (f_X11_out x0 x1 S) (fun o => o.2 = S ∧ True) := t_f_X11_out_0 hT r_x0
theorem t_f_X11_nodes_0 {S : ZS} {x0 : Nat} (hT : ZT S) (r_x0 : zK S x0 = 11) : Ok (f_X11_nodes_0 x0 S) (fun o => o.2 = S ∧ True) := by
  unfold f_X11_nodes_0
  refine ok_chk r_x0 ?_
  obtain ⟨b1, p_b1, k_b1⟩ := T_11_7 hT r_x0
  have lo_b1 := M_11_7 hT r_x0 p_b1
  refine ok_calR p_b1 ?_
  refine ok_chk k_b1 ?_
  exact ok_ret ⟨rfl, trivial⟩
theorem t_f_X11_nodes {S : ZS} {x0 : Nat} (hT : ZT S) (r_x0 : zK S x0 = 11) : Ok (f_X11_nodes x0 S) (fun o => o.2 = S ∧ True) := t_f_X11_nodes_0 hT r_x0
theorem t_f_X11_here_0 {S : ZS} {x0 : Nat} (hT : ZT S) (r_x0 : zK S x0 = 11) : Ok (f_X11_here_0 x0 S) (fun o => o.2 = S ∧ True) := by
  unfold f_X11_here_0
  refine ok_chk r_x0 ?_
  exact ok_ret ⟨rfl, trivial⟩
theorem t_f_X11_here {S : ZS} {x0 : Nat} (hT : ZT S) (r_x0 : zK S x0 = 11) : Ok (f_X11_here x0 S) (fun o => o.2 = S ∧ True) := t_f_X11_here_0 hT r_x0
theorem t_f_X11_move_0 {SZ S : ZS} {x0 : Nat} {x1 : Int32} (hT : ZT S) (hR : A7 SZ S) (r_x0 : zK S x0 = 11) : Ok (f_X11_move_0 x0 x1 S) (fun o => ZT o.2 ∧ A7 SZ o.2 ∧ True) := by
  unfold f_X11_move_0
  refine ok_chk r_x0 ?_
  obtain ⟨b1, p_b1, k_b1⟩ := T_11_2 hT r_x0
  refine ok_calR p_b1 ?_
  refine ok_chk r_x0 ?_
  obtain ⟨b2, p_b2, k_b2⟩ := T_11_9 hT r_x0
  refine ok_calR p_b2 ?_
  refine ok_chk k_b1 ?_
  obtain ⟨⟨r3, S3⟩, h_r3, T_S3, A_S3, -⟩ := t_f_X7_legalMove (x0 := b1) (x1 := b2) (x2 := x1) (SZ := S) hT (a7_0 S) k_b1 k_b2
  replace T_S3 : ZT S3 := T_S3
  replace A_S3 : A7 S S3 := A_S3
  refine ok_calR h_r3 ?_
  have q_S3 := fq_X7_legalMove h_r3
  have kE_S3 : zK S3 = zK S := q_S3.2.2.1
  have nE_S3 : zN S3 = zN S := q_S3.2.2.2.1
  have R_S3 : A7 SZ S3 := a7_t hR A_S3
  exact ok_ret ⟨T_S3, R_S3, trivial⟩
theorem t_f_X11_move {SZ S : ZS} {x0 : Nat} {x1 : Int32} (hT : ZT S) (hR : A7 SZ S) (r_x0 : zK S x0 = 11) : Ok (f_X11_move x0 x1 S) (fun o => ZT o.2 ∧ A7 SZ o.2 ∧ True) := t_f_X11_move_0 hT hR r_x0
theorem t_f_X11_result_0 {S : ZS} {x0 : Nat} (hT : ZT S) (r_x0 : zK S x0 = 11) : Ok (f_X11_result_0 x0 S) (fun o => o.2 = S ∧ True) := by
  unfold f_X11_result_0
  refine ok_chk r_x0 ?_
  obtain ⟨b1, p_b1, k_b1⟩ := T_11_7 hT r_x0
  have lo_b1 := M_11_7 hT r_x0 p_b1
  refine ok_calR p_b1 ?_
  refine ok_chk k_b1 ?_
  exact ok_ret ⟨rfl, trivial⟩
theorem t_f_X11_result {S : ZS} {x0 : Nat} (hT : ZT S) (r_x0 : zK S x0 = 11) : Ok (f_X11_result x0 S) (fun o => o.2 = S ∧ True) := t_f_X11_result_0 hT r_x0
theorem t_f_X11_tags_0 {S : ZS} {x0 : Nat} (hT : ZT S) (r_x0 : zK S x0 = 11) : Ok (f_X11_tags_0 x0 S) (fun o => o.2 = S ∧ True) := by
  unfold f_X11_tags_0
  refine ok_chk r_x0 ?_
  obtain ⟨b1, p_b1, k_b1⟩ := T_11_7 hT r_x0
  have lo_b1 := M_11_7 hT r_x0 p_b1
  refine ok_calR p_b1 ?_
  refine ok_chk k_b1 ?_
  exact ok_ret ⟨rfl, trivial⟩
theorem t_f_X11_tags {S : ZS} {x0 : Nat} (hT : ZT S) (r_x0 : zK S x0 = 11) : Ok (f_X11_tags x0 S) (fun o => o.2 = S ∧ True) := t_f_X11_tags_0 hT r_x0
