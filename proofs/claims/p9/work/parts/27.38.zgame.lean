theorem t_f_X8_parse_232 {SZ S : ZS} {x0 : Nat} {x1 : Int32} {x2 : Int32} {t0 : Int32} {t1 : Nat} (hT : ZT S) (hR : A7 SZ S) (r_x0 : zK S x0 = 8) (r_x1 : (0 : Int) ≤ x1.toInt ∧ x1.toInt ≤ (1 : Int)) (r_x2 : (-4 : Int) ≤ x2.toInt ∧ x2.toInt ≤ (89998 : Int)) (r_t0 : (0 : Int) ≤ t0.toInt ∧ t0.toInt ≤ (1 : Int)) (r_t1 : zK S t1 = 8) (q0 : x0 = t1) (q1 : 0 ≤ (zI S 6 x0).toInt) : Ok (f_X8_parse_232 x0 x1 x2 t0 t1 S) (fun o => ZT o.2 ∧ A7 SZ o.2 ∧ ((0 : Int) ≤ o.1.toInt ∧ o.1.toInt ≤ (1 : Int)) ∧ ((o.1.toInt = 1 → 0 ≤ (zI o.2 6 x0).toInt ∨ (zI o.2 2 x0).toInt ≠ 0))) := by
  unfold f_X8_parse_232
  have j1 := J_8_6 hT r_x0
  have j2 := J_8_2 hT r_x0
  have j3 := J_8_8 hT r_x0
  subst q0
  refine ok_chk r_t1 ?_
  refine ok_bnd (fun S1 e4 => ?_)
  have T_S1 : ZT S1 := e4.symm ▸ zt_I hT r_t1 (by decide) (show (-1 : Int) ≤ t0.toInt ∧ t0.toInt ≤ (1 : Int) from (by omega))
  have kE_S1 : zK S1 = zK S := by rw [e4]; rfl
  have nE_S1 : zN S1 = zN S := by rw [e4]; rfl
  have R_S1 : A7 SZ S1 := a7_I hR e4 r_t1 (by decide)
  have : (zI S1 6 x0).toInt = (zI S 6 x0).toInt := by rw [e4]; rfl
  have : (zI S1 2 x0).toInt = (zI S 2 x0).toInt := by rw [e4]; rfl
  refine ok_chk ((congrFun kE_S1 x0).trans r_x0) ?_
  refine ok_bnd (fun v2 e5 => ?_)
  have j6 := J_8_8 T_S1 ((congrFun kE_S1 x0).trans r_x0)
  have t_v2 : v2.toInt = x2.toInt - (zI S1 8 x0).toInt := ti_sub e5 rfl rfl (by omega) (by omega)
  refine ok_chk ((congrFun kE_S1 x0).trans r_x0) ?_
  obtain ⟨⟨r3, S3⟩, h_r3, T_S3, A_S3, p_r3⟩ := t_f_X8_parseApart (x0 := x0) (x1 := x1) (x2 := v2) (SZ := S1) T_S1 (a7_0 S1) ((congrFun kE_S1 x0).trans r_x0) r_x1 (by omega)
  replace T_S3 : ZT S3 := T_S3
  replace A_S3 : A7 S1 S3 := A_S3
  dsimp only at p_r3
  refine ok_calR h_r3 ?_
  have q_S3 := fq_X8_parseApart h_r3
  have kE_S3 : zK S3 = zK S1 := q_S3.2.2.1
  have nE_S3 : zN S3 = zN S1 := q_S3.2.2.2.1
  have R_S3 : A7 SZ S3 := a7_t R_S1 A_S3
  have : (zI S3 6 x0).toInt = (zI S1 6 x0).toInt := congrArg Int32.toInt ((((fz_X8_parseApart h_r3) T_S1.2.2.2.2.1).2.2 x0 (by rw [((congrFun kE_S1 x0).trans r_x0)]; decide)).2.2.1 6 (by rw [((congrFun kE_S1 x0).trans r_x0)]; decide))
  have : (zI S3 2 x0).toInt = (zI S1 2 x0).toInt := congrArg Int32.toInt ((((fz_X8_parseApart h_r3) T_S1.2.2.2.2.1).2.2 x0 (by rw [((congrFun kE_S1 x0).trans r_x0)]; decide)).2.2.1 2 (by rw [((congrFun kE_S1 x0).trans r_x0)]; decide))
  have : (zI S3 8 x0).toInt = (zI S1 8 x0).toInt := congrArg Int32.toInt ((((fz_X8_parseApart h_r3) T_S1.2.2.2.2.1).2.2 x0 (by rw [((congrFun kE_S1 x0).trans r_x0)]; decide)).2.2.1 8 (by rw [((congrFun kE_S1 x0).trans r_x0)]; decide))
  refine ok_chk (nar_b (v := r3) (by omega) (by omega)) ?_
  exact ok_ret ⟨T_S3, R_S3, (show (0 : Int) ≤ r3.toInt ∧ r3.toInt ≤ (1 : Int) from (by omega)), (by show (r3.toInt = 1 → 0 ≤ (zI S3 6 x0).toInt ∨ (zI S3 2 x0).toInt ≠ 0); omega)⟩
theorem t_f_X8_parse_166 {SZ S : ZS} {x0 : Nat} {x1 : Int32} {x2 : Int32} (hT : ZT S) (hR : A7 SZ S) (r_x0 : zK S x0 = 8) (r_x1 : (0 : Int) ≤ x1.toInt ∧ x1.toInt ≤ (1 : Int)) (r_x2 : (-2 : Int) ≤ x2.toInt ∧ x2.toInt ≤ (90000 : Int)) : Ok (f_X8_parse_166 x0 x1 x2 S) (fun o => ZT o.2 ∧ A7 SZ o.2 ∧ ((0 : Int) ≤ o.1.toInt ∧ o.1.toInt ≤ (1 : Int)) ∧ ((o.1.toInt = 1 → 0 ≤ (zI o.2 6 x0).toInt ∨ (zI o.2 2 x0).toInt ≠ 0))) := by
  unfold f_X8_parse_166
  have j7 := J_8_6 hT r_x0
  have j8 := J_8_2 hT r_x0
  have j9 := J_8_8 hT r_x0
  refine ok_chk r_x0 ?_
  obtain ⟨b1, p_b1, k_b1, c_b1⟩ := T_8_1 hT r_x0
  have lo_b1 := M_8_1 hT r_x0 p_b1
  refine ok_calR p_b1 ?_
  refine ok_bnd (fun v2 e10 => ?_)
  have t_v2 : v2.toInt = x2.toInt - 2 := ti_sub e10 rfl (show (2 : Int32).toInt = 2 from rfl) (by omega) (by omega)
  refine ok_chk k_b1 ?_
  have j11 := J61_1 hT k_b1 c_b1
  obtain ⟨r3, h_r3, p_r3⟩ := roz (t_f_X6_at (x0 := b1) (x1 := v2) hT k_b1)
  dsimp only at p_r3
  refine ok_calR h_r3 ?_
  refine ok_chk r_x0 ?_
  obtain ⟨b4, p_b4, k_b4, c_b4⟩ := T_8_1 hT r_x0
  have lo_b4 := M_8_1 hT r_x0 p_b4
  refine ok_calR p_b4 ?_
  refine ok_bnd (fun v5 e12 => ?_)
  have t_v5 : v5.toInt = x2.toInt - 1 := ti_sub e12 rfl (show (1 : Int32).toInt = 1 from rfl) (by omega) (by omega)
  refine ok_chk k_b4 ?_
  have j13 := J61_1 hT k_b4 c_b4
  obtain ⟨r6, h_r6, p_r6⟩ := roz (t_f_X6_at (x0 := b4) (x1 := v5) hT k_b4)
  dsimp only at p_r6
  refine ok_calR h_r6 ?_
  obtain ⟨r7, h_r7, p_r7⟩ := roz (t_f_X11_squareOf (x0 := r3) (x1 := r6) hT )
  dsimp only at p_r7
  refine ok_calR h_r7 ?_
  refine ok_chk r_x0 ?_
  refine ok_bnd (fun S8 e14 => ?_)
  have T_S8 : ZT S8 := e14.symm ▸ zt_I hT r_x0 (by decide) (show (-1 : Int) ≤ r7.toInt ∧ r7.toInt ≤ (63 : Int) from (by omega))
  have kE_S8 : zK S8 = zK S := by rw [e14]; rfl
  have nE_S8 : zN S8 = zN S := by rw [e14]; rfl
  have R_S8 : A7 SZ S8 := a7_I hR e14 r_x0 (by decide)
  have : (zI S8 6 x0).toInt = r7.toInt := by rw [e14]; exact (congrArg Int32.toInt (zI_self _ _ _ _)).trans rfl
  have : (zI S8 2 x0).toInt = (zI S 2 x0).toInt := by rw [e14]; rfl
  have : (zI S8 8 x0).toInt = (zI S 8 x0).toInt := by rw [e14]; rfl
  refine ok_bnd (fun v9 e15 => ?_)
  have t_v9 : v9.toInt = x2.toInt + (-2) := ti_add e15 rfl (show (-2 : Int32).toInt = -2 from rfl) (by omega) (by omega)
  refine ok_chk ((congrFun kE_S8 x0).trans r_x0) ?_
  have j16 := J_8_6 T_S8 ((congrFun kE_S8 x0).trans r_x0)
  refine ok_if (fun c17 => ?_) (fun c17 => ?_)
  ·
    replace c17 := ti_eqP (a := (zI S8 6 x0)) (b := (-1 : Int32)) c17 rfl (show (-1 : Int32).toInt = -1 from rfl)
    refine ok_chk (by decide) ?_
    exact ok_ret ⟨T_S8, R_S8, (show (0 : Int) ≤ (0 : Int32).toInt ∧ (0 : Int32).toInt ≤ (1 : Int) from (by decide)), (by show ((0 : Int32).toInt = 1 → 0 ≤ (zI S8 6 x0).toInt ∨ (zI S8 2 x0).toInt ≠ 0); have z : (0 : Int32).toInt = 0 := rfl; omega)⟩
  ·
    replace c17 := ti_eqN (a := (zI S8 6 x0)) (b := (-1 : Int32)) c17 rfl (show (-1 : Int32).toInt = -1 from rfl)
    refine ok_if (fun c18 => ?_) (fun c18 => ?_)
    ·
      replace c18 := ti_leP (a := v9) (b := x1) c18 rfl rfl
      unfold f_X8_parse_231
      exact t_f_X8_parse_232 (S := S8)  (x0 := x0) (x1 := x1) (x2 := v9) (t0 := (0 : Int32)) (t1 := x0) T_S8 R_S8 ((congrFun kE_S8 x0).trans r_x0) r_x1 (by omega) (by decide) ((congrFun kE_S8 x0).trans r_x0) rfl (by have z0 : (0 : Int32).toInt = 0 := rfl; omega)
    ·
      replace c18 := ti_leN (a := v9) (b := x1) c18 rfl rfl
      refine ok_chk ((congrFun kE_S8 x0).trans r_x0) ?_
      obtain ⟨b10, p_b10, k_b10, c_b10⟩ := T_8_1 T_S8 ((congrFun kE_S8 x0).trans r_x0)
      have lo_b10 := M_8_1 T_S8 ((congrFun kE_S8 x0).trans r_x0) p_b10
      refine ok_calR p_b10 ?_
      refine ok_bnd (fun v11 e19 => ?_)
      have t_v11 : v11.toInt = v9.toInt - 1 := ti_sub e19 rfl (show (1 : Int32).toInt = 1 from rfl) (by omega) (by omega)
      refine ok_chk k_b10 ?_
      have j20 := J61_1 T_S8 k_b10 c_b10
      obtain ⟨r12, h_r12, p_r12⟩ := roz (t_f_X6_at (x0 := b10) (x1 := v11) T_S8 k_b10)
      dsimp only at p_r12
      refine ok_calR h_r12 ?_
      refine ok_if (fun c21 => ?_) (fun c21 => ?_)
      ·
        replace c21 := ti_eqP (a := r12) (b := (120 : Int32)) c21 rfl (show (120 : Int32).toInt = 120 from rfl)
        exact t_f_X8_parse_232 (S := S8)  (x0 := x0) (x1 := x1) (x2 := v9) (t0 := (1 : Int32)) (t1 := x0) T_S8 R_S8 ((congrFun kE_S8 x0).trans r_x0) r_x1 (by omega) (by decide) ((congrFun kE_S8 x0).trans r_x0) rfl (by have z0 : (1 : Int32).toInt = 1 := rfl; omega)
      ·
        replace c21 := ti_eqN (a := r12) (b := (120 : Int32)) c21 rfl (show (120 : Int32).toInt = 120 from rfl)
        unfold f_X8_parse_231
        exact t_f_X8_parse_232 (S := S8)  (x0 := x0) (x1 := x1) (x2 := v9) (t0 := (0 : Int32)) (t1 := x0) T_S8 R_S8 ((congrFun kE_S8 x0).trans r_x0) r_x1 (by omega) (by decide) ((congrFun kE_S8 x0).trans r_x0) rfl (by have z0 : (0 : Int32).toInt = 0 := rfl; omega)
theorem t_f_X8_parse_102 {SZ S : ZS} {x0 : Nat} {x1 : Int32} {x2 : Int32} {t0 : Int32} {t1 : Nat} (hT : ZT S) (hR : A7 SZ S) (r_x0 : zK S x0 = 8) (r_x1 : (0 : Int) ≤ x1.toInt ∧ x1.toInt ≤ (1 : Int)) (r_x2 : (0 : Int) ≤ x2.toInt ∧ x2.toInt ≤ (90000 : Int)) (r_t0 : (0 : Int) ≤ t0.toInt ∧ t0.toInt ≤ (30 : Int)) (r_t1 : zK S t1 = 8) : Ok (f_X8_parse_102 x0 x1 x2 t0 t1 S) (fun o => ZT o.2 ∧ A7 SZ o.2 ∧ ((0 : Int) ≤ o.1.toInt ∧ o.1.toInt ≤ (1 : Int)) ∧ ((o.1.toInt = 1 → 0 ≤ (zI o.2 6 x0).toInt ∨ (zI o.2 2 x0).toInt ≠ 0))) := by
  unfold f_X8_parse_102
  have j22 := J_8_6 hT r_x0
  have j23 := J_8_2 hT r_x0
  have j24 := J_8_8 hT r_x0
  refine ok_chk r_t1 ?_
  refine ok_bnd (fun S1 e25 => ?_)
  have T_S1 : ZT S1 := e25.symm ▸ zt_W hT r_t1 (by decide) rfl
  have kE_S1 : zK S1 = zK S := by rw [e25]; rfl
  have nE_S1 : zN S1 = zN S := by rw [e25]; rfl
  have R_S1 : A7 SZ S1 := a7_I hR e25 r_t1 (by decide)
  have : (zI S1 6 x0).toInt = (zI S 6 x0).toInt := by rw [e25]; rfl
  have : (zI S1 2 x0).toInt = (zI S 2 x0).toInt := by rw [e25]; rfl
  have : (zI S1 8 x0).toInt = (zI S 8 x0).toInt := by rw [e25]; rfl
  refine ok_chk ((congrFun kE_S1 x0).trans r_x0) ?_
  refine ok_if (fun c26 => ?_) (fun c26 => ?_)
  ·
    replace c26 := ti_eqP (a := (zI S1 3 x0)) (b := (1 : Int32)) c26 rfl (show (1 : Int32).toInt = 1 from rfl)
    refine ok_chk ((congrFun kE_S1 x0).trans r_x0) ?_
    obtain ⟨b2, p_b2, k_b2, c_b2⟩ := T_8_1 T_S1 ((congrFun kE_S1 x0).trans r_x0)
    have lo_b2 := M_8_1 T_S1 ((congrFun kE_S1 x0).trans r_x0) p_b2
    refine ok_calR p_b2 ?_
    refine ok_bnd (fun v3 e27 => ?_)
    have t_v3 : v3.toInt = x2.toInt - 2 := ti_sub e27 rfl (show (2 : Int32).toInt = 2 from rfl) (by omega) (by omega)
    refine ok_chk k_b2 ?_
    have j28 := J61_1 T_S1 k_b2 c_b2
    obtain ⟨r4, h_r4, p_r4⟩ := roz (t_f_X6_at (x0 := b2) (x1 := v3) T_S1 k_b2)
    dsimp only at p_r4
    refine ok_calR h_r4 ?_
    refine ok_if (fun c29 => ?_) (fun c29 => ?_)
    ·
      replace c29 := ti_eqP (a := r4) (b := (61 : Int32)) c29 rfl (show (61 : Int32).toInt = 61 from rfl)
      refine ok_chk ((congrFun kE_S1 x0).trans r_x0) ?_
      obtain ⟨b5, p_b5, k_b5, c_b5⟩ := T_8_1 T_S1 ((congrFun kE_S1 x0).trans r_x0)
      have lo_b5 := M_8_1 T_S1 ((congrFun kE_S1 x0).trans r_x0) p_b5
      refine ok_calR p_b5 ?_
      refine ok_bnd (fun v6 e30 => ?_)
      have t_v6 : v6.toInt = x2.toInt - 1 := ti_sub e30 rfl (show (1 : Int32).toInt = 1 from rfl) (by omega) (by omega)
      refine ok_chk k_b5 ?_
      have j31 := J61_1 T_S1 k_b5 c_b5
      obtain ⟨r7, h_r7, p_r7⟩ := roz (t_f_X6_at (x0 := b5) (x1 := v6) T_S1 k_b5)
      dsimp only at p_r7
      refine ok_calR h_r7 ?_
      obtain ⟨r8, h_r8, p_r8⟩ := roz (t_f_X11_kindOf (x0 := r7) T_S1 )
      dsimp only at p_r8
      refine ok_calR h_r8 ?_
      refine ok_chk ((congrFun kE_S1 x0).trans r_x0) ?_
      refine ok_bnd (fun S9 e32 => ?_)
      have T_S9 : ZT S9 := e32.symm ▸ zt_I T_S1 ((congrFun kE_S1 x0).trans r_x0) (by decide) (show (0 : Int) ≤ r8.toInt ∧ r8.toInt ≤ (30 : Int) from (by omega))
      have kE_S9 : zK S9 = zK S1 := by rw [e32]; rfl
      have nE_S9 : zN S9 = zN S1 := by rw [e32]; rfl
      have R_S9 : A7 SZ S9 := a7_I R_S1 e32 ((congrFun kE_S1 x0).trans r_x0) (by decide)
      have : (zI S9 6 x0).toInt = (zI S1 6 x0).toInt := by rw [e32]; rfl
      have : (zI S9 2 x0).toInt = (zI S1 2 x0).toInt := by rw [e32]; rfl
      have : (zI S9 8 x0).toInt = (zI S1 8 x0).toInt := by rw [e32]; rfl
      refine ok_chk ((congrFun kE_S9 x0).trans ((congrFun kE_S1 x0).trans r_x0)) ?_
      have j33 := J_8_7 T_S9 ((congrFun kE_S9 x0).trans ((congrFun kE_S1 x0).trans r_x0))
      refine ok_if (fun c34 => ?_) (fun c34 => ?_)
      ·
        replace c34 := ti_ltP (a := (zI S9 7 x0)) (b := (2 : Int32)) c34 rfl (show (2 : Int32).toInt = 2 from rfl)
        unfold f_X8_parse_161
        refine ok_chk (by decide) ?_
        exact ok_ret ⟨T_S9, R_S9, (show (0 : Int) ≤ (0 : Int32).toInt ∧ (0 : Int32).toInt ≤ (1 : Int) from (by decide)), (by show ((0 : Int32).toInt = 1 → 0 ≤ (zI S9 6 x0).toInt ∨ (zI S9 2 x0).toInt ≠ 0); have z : (0 : Int32).toInt = 0 := rfl; omega)⟩
      ·
        replace c34 := ti_ltN (a := (zI S9 7 x0)) (b := (2 : Int32)) c34 rfl (show (2 : Int32).toInt = 2 from rfl)
        refine ok_chk ((congrFun kE_S9 x0).trans ((congrFun kE_S1 x0).trans r_x0)) ?_
        refine ok_if (fun c35 => ?_) (fun c35 => ?_)
        ·
          replace c35 := ti_leP (a := (zI S9 7 x0)) (b := (5 : Int32)) c35 rfl (show (5 : Int32).toInt = 5 from rfl)
          refine ok_bnd (fun v10 e36 => ?_)
          have t_v10 : v10.toInt = x2.toInt + (-2) := ti_add e36 rfl (show (-2 : Int32).toInt = -2 from rfl) (by omega) (by omega)
          exact t_f_X8_parse_166 (S := S9)  (x0 := x0) (x1 := x1) (x2 := v10) T_S9 R_S9 ((congrFun kE_S9 x0).trans ((congrFun kE_S1 x0).trans r_x0)) r_x1 (by omega)
        ·
          replace c35 := ti_leN (a := (zI S9 7 x0)) (b := (5 : Int32)) c35 rfl (show (5 : Int32).toInt = 5 from rfl)
          unfold f_X8_parse_161
          refine ok_chk (by decide) ?_
          exact ok_ret ⟨T_S9, R_S9, (show (0 : Int) ≤ (0 : Int32).toInt ∧ (0 : Int32).toInt ≤ (1 : Int) from (by decide)), (by show ((0 : Int32).toInt = 1 → 0 ≤ (zI S9 6 x0).toInt ∨ (zI S9 2 x0).toInt ≠ 0); have z : (0 : Int32).toInt = 0 := rfl; omega)⟩
    ·
      replace c29 := ti_eqN (a := r4) (b := (61 : Int32)) c29 rfl (show (61 : Int32).toInt = 61 from rfl)
      exact t_f_X8_parse_166 (S := S1)  (x0 := x0) (x1 := x1) (x2 := x2) T_S1 R_S1 ((congrFun kE_S1 x0).trans r_x0) r_x1 (by omega)
  ·
    replace c26 := ti_eqN (a := (zI S1 3 x0)) (b := (1 : Int32)) c26 rfl (show (1 : Int32).toInt = 1 from rfl)
    exact t_f_X8_parse_166 (S := S1)  (x0 := x0) (x1 := x1) (x2 := x2) T_S1 R_S1 ((congrFun kE_S1 x0).trans r_x0) r_x1 (by omega)
theorem t_f_X8_parse_72 {SZ S : ZS} {x0 : Nat} {t0 : Int32} (hT : ZT S) (hR : A7 SZ S) (r_x0 : zK S x0 = 8) (r_t0 : (0 : Int) ≤ t0.toInt ∧ t0.toInt ≤ (1 : Int)) : Ok (f_X8_parse_72 x0 t0 S) (fun o => ZT o.2 ∧ A7 SZ o.2 ∧ ((0 : Int) ≤ o.1.toInt ∧ o.1.toInt ≤ (1 : Int)) ∧ ((o.1.toInt = 1 → 0 ≤ (zI o.2 6 x0).toInt ∨ (zI o.2 2 x0).toInt ≠ 0))) := by
  unfold f_X8_parse_72
  have j37 := J_8_6 hT r_x0
  have j38 := J_8_2 hT r_x0
  have j39 := J_8_8 hT r_x0
  refine ok_chk r_x0 ?_
  obtain ⟨b1, p_b1, k_b1, c_b1⟩ := T_8_1 hT r_x0
  have lo_b1 := M_8_1 hT r_x0 p_b1
  refine ok_calR p_b1 ?_
  refine ok_chk k_b1 ?_
  have j40 := J61_1 hT k_b1 c_b1
  obtain ⟨r2, h_r2, p_r2⟩ := roz (t_f_X6_size (x0 := b1) hT k_b1)
  dsimp only at p_r2
  refine ok_calR h_r2 ?_
  refine ok_if (fun c41 => ?_) (fun c41 => ?_)
  ·
    replace c41 := ti_eqP (a := t0) (b := (1 : Int32)) c41 rfl (show (1 : Int32).toInt = 1 from rfl)
    refine ok_chk r_x0 ?_
    obtain ⟨b3, p_b3, k_b3, c_b3⟩ := T_8_1 hT r_x0
    have lo_b3 := M_8_1 hT r_x0 p_b3
    refine ok_calR p_b3 ?_
    refine ok_chk k_b3 ?_
    have j42 := J61_1 hT k_b3 c_b3
    have zl43 : (0 : Int32).toInt = 0 := rfl
    obtain ⟨r4, h_r4, p_r4⟩ := roz (t_f_X6_at (x0 := b3) (x1 := (0 : Int32)) hT k_b3)
    dsimp only at p_r4
    refine ok_calR h_r4 ?_
    obtain ⟨r5, h_r5, p_r5⟩ := roz (t_f_X11_kindOf (x0 := r4) hT )
    dsimp only at p_r5
    refine ok_calR h_r5 ?_
    exact t_f_X8_parse_102 (S := S)  (x0 := x0) (x1 := t0) (x2 := r2) (t0 := r5) (t1 := x0) hT hR r_x0 r_t0 (by omega) (by omega) r_x0
  ·
    replace c41 := ti_eqN (a := t0) (b := (1 : Int32)) c41 rfl (show (1 : Int32).toInt = 1 from rfl)
    exact t_f_X8_parse_102 (S := S)  (x0 := x0) (x1 := t0) (x2 := r2) (t0 := (1 : Int32)) (t1 := x0) hT hR r_x0 r_t0 (by omega) (by decide) r_x0
theorem t_f_X8_parse_40 {SZ S : ZS} {x0 : Nat} {t0 : Int32} {t1 : Nat} (hT : ZT S) (hR : A7 SZ S) (r_x0 : zK S x0 = 8) (r_t0 : (-2 : Int) ≤ t0.toInt ∧ t0.toInt ≤ (2 : Int)) (r_t1 : zK S t1 = 8) : Ok (f_X8_parse_40 x0 t0 t1 S) (fun o => ZT o.2 ∧ A7 SZ o.2 ∧ ((0 : Int) ≤ o.1.toInt ∧ o.1.toInt ≤ (1 : Int)) ∧ ((o.1.toInt = 1 → 0 ≤ (zI o.2 6 x0).toInt ∨ (zI o.2 2 x0).toInt ≠ 0))) := by
  unfold f_X8_parse_40
  have j44 := J_8_6 hT r_x0
  have j45 := J_8_2 hT r_x0
  have j46 := J_8_8 hT r_x0
  refine ok_chk r_t1 ?_
  refine ok_bnd (fun S1 e47 => ?_)
  have T_S1 : ZT S1 := e47.symm ▸ zt_I hT r_t1 (by decide) (show (-2 : Int) ≤ t0.toInt ∧ t0.toInt ≤ (2 : Int) from (by omega))
  have kE_S1 : zK S1 = zK S := by rw [e47]; rfl
  have nE_S1 : zN S1 = zN S := by rw [e47]; rfl
  have R_S1 : A7 SZ S1 := a7_I hR e47 r_t1 (by decide)
  have : (zI S1 6 x0).toInt = (zI S 6 x0).toInt := by rw [e47]; rfl
  have : (zI S1 8 x0).toInt = (zI S 8 x0).toInt := by rw [e47]; rfl
  refine ok_chk ((congrFun kE_S1 x0).trans r_x0) ?_
  have j48 := J_8_2 T_S1 ((congrFun kE_S1 x0).trans r_x0)
  refine ok_if (fun c49 => ?_) (fun c49 => ?_)
  ·
    replace c49 := ti_eqP (a := (zI S1 2 x0)) (b := (0 : Int32)) c49 rfl (show (0 : Int32).toInt = 0 from rfl)
    refine ok_chk ((congrFun kE_S1 x0).trans r_x0) ?_
    obtain ⟨b2, p_b2, k_b2, c_b2⟩ := T_8_1 T_S1 ((congrFun kE_S1 x0).trans r_x0)
    have lo_b2 := M_8_1 T_S1 ((congrFun kE_S1 x0).trans r_x0) p_b2
    refine ok_calR p_b2 ?_
    refine ok_chk k_b2 ?_
    have j50 := J61_1 T_S1 k_b2 c_b2
    have zl51 : (0 : Int32).toInt = 0 := rfl
    obtain ⟨r3, h_r3, p_r3⟩ := roz (t_f_X6_at (x0 := b2) (x1 := (0 : Int32)) T_S1 k_b2)
    dsimp only at p_r3
    refine ok_calR h_r3 ?_
    obtain ⟨r4, h_r4, p_r4⟩ := roz (t_f_X11_kindOf (x0 := r3) T_S1 )
    dsimp only at p_r4
    refine ok_calR h_r4 ?_
    refine ok_if (fun c52 => ?_) (fun c52 => ?_)
    ·
      replace c52 := ti_ltP (a := r4) (b := (2 : Int32)) c52 rfl (show (2 : Int32).toInt = 2 from rfl)
      exact t_f_X8_parse_72 (S := S1)  (x0 := x0) (t0 := (0 : Int32)) T_S1 R_S1 ((congrFun kE_S1 x0).trans r_x0) (by decide)
    ·
      replace c52 := ti_ltN (a := r4) (b := (2 : Int32)) c52 rfl (show (2 : Int32).toInt = 2 from rfl)
      exact t_f_X8_parse_72 (S := S1)  (x0 := x0) (t0 := (1 : Int32)) T_S1 R_S1 ((congrFun kE_S1 x0).trans r_x0) (by decide)
  ·
    replace c49 := ti_eqN (a := (zI S1 2 x0)) (b := (0 : Int32)) c49 rfl (show (0 : Int32).toInt = 0 from rfl)
    refine ok_chk (by decide) ?_
    exact ok_ret ⟨T_S1, R_S1, (show (0 : Int) ≤ (1 : Int32).toInt ∧ (1 : Int32).toInt ≤ (1 : Int) from (by decide)), (by show ((1 : Int32).toInt = 1 → 0 ≤ (zI S1 6 x0).toInt ∨ (zI S1 2 x0).toInt ≠ 0); have z : (1 : Int32).toInt = 1 := rfl; omega)⟩
theorem t_f_X8_parse_0 {SZ S : ZS} {x0 : Nat} (hT : ZT S) (hR : A7 SZ S) (r_x0 : zK S x0 = 8) : Ok (f_X8_parse_0 x0 S) (fun o => ZT o.2 ∧ A7 SZ o.2 ∧ ((0 : Int) ≤ o.1.toInt ∧ o.1.toInt ≤ (1 : Int)) ∧ ((o.1.toInt = 1 → 0 ≤ (zI o.2 6 x0).toInt ∨ (zI o.2 2 x0).toInt ≠ 0))) := by
  unfold f_X8_parse_0
  have j53 := J_8_6 hT r_x0
  have j54 := J_8_2 hT r_x0
  have j55 := J_8_8 hT r_x0
  refine ok_chk r_x0 ?_
  refine ok_bnd (fun S1 e56 => ?_)
  have T_S1 : ZT S1 := e56.symm ▸ zt_I hT r_x0 (by decide) (show (0 : Int) ≤ (0 : Int32).toInt ∧ (0 : Int32).toInt ≤ (30 : Int) from (by decide))
  have kE_S1 : zK S1 = zK S := by rw [e56]; rfl
  have nE_S1 : zN S1 = zN S := by rw [e56]; rfl
  have R_S1 : A7 SZ S1 := a7_I hR e56 r_x0 (by decide)
  have : (zI S1 6 x0).toInt = (zI S 6 x0).toInt := by rw [e56]; rfl
  have : (zI S1 2 x0).toInt = (zI S 2 x0).toInt := by rw [e56]; rfl
  have : (zI S1 8 x0).toInt = (zI S 8 x0).toInt := by rw [e56]; rfl
  refine ok_chk ((congrFun kE_S1 x0).trans r_x0) ?_
  obtain ⟨b2, p_b2, k_b2, c_b2⟩ := T_8_1 T_S1 ((congrFun kE_S1 x0).trans r_x0)
  have lo_b2 := M_8_1 T_S1 ((congrFun kE_S1 x0).trans r_x0) p_b2
  refine ok_calR p_b2 ?_
  refine ok_chk k_b2 ?_
  have j57 := J61_1 T_S1 k_b2 c_b2
  obtain ⟨r3, h_r3, p_r3⟩ := roz (t_f_X6_is (x0 := b2) (x1 := 7) T_S1 k_b2 (by decide))
  dsimp only at p_r3
  refine ok_calR h_r3 ?_
  refine ok_if (fun c58 => ?_) (fun c58 => ?_)
  ·
    replace c58 := ti_eqP (a := r3) (b := (0 : Int32)) c58 rfl (show (0 : Int32).toInt = 0 from rfl)
    refine ok_chk ((congrFun kE_S1 x0).trans r_x0) ?_
    obtain ⟨b4, p_b4, k_b4, c_b4⟩ := T_8_1 T_S1 ((congrFun kE_S1 x0).trans r_x0)
    have lo_b4 := M_8_1 T_S1 ((congrFun kE_S1 x0).trans r_x0) p_b4
    refine ok_calR p_b4 ?_
    refine ok_chk k_b4 ?_
    have j59 := J61_1 T_S1 k_b4 c_b4
    obtain ⟨r5, h_r5, p_r5⟩ := roz (t_f_X6_is (x0 := b4) (x1 := 8) T_S1 k_b4 (by decide))
    dsimp only at p_r5
    refine ok_calR h_r5 ?_
    refine ok_if (fun c60 => ?_) (fun c60 => ?_)
    ·
      replace c60 := ti_eqP (a := r5) (b := (0 : Int32)) c60 rfl (show (0 : Int32).toInt = 0 from rfl)
      exact t_f_X8_parse_40 (S := S1)  (x0 := x0) (t0 := (0 : Int32)) (t1 := x0) T_S1 R_S1 ((congrFun kE_S1 x0).trans r_x0) (by decide) ((congrFun kE_S1 x0).trans r_x0)
    ·
      replace c60 := ti_eqN (a := r5) (b := (0 : Int32)) c60 rfl (show (0 : Int32).toInt = 0 from rfl)
      exact t_f_X8_parse_40 (S := S1)  (x0 := x0) (t0 := (-2 : Int32)) (t1 := x0) T_S1 R_S1 ((congrFun kE_S1 x0).trans r_x0) (by decide) ((congrFun kE_S1 x0).trans r_x0)
  ·
    replace c58 := ti_eqN (a := r3) (b := (0 : Int32)) c58 rfl (show (0 : Int32).toInt = 0 from rfl)
    exact t_f_X8_parse_40 (S := S1)  (x0 := x0) (t0 := (2 : Int32)) (t1 := x0) T_S1 R_S1 ((congrFun kE_S1 x0).trans r_x0) (by decide) ((congrFun kE_S1 x0).trans r_x0)
theorem t_f_X8_parse {SZ S : ZS} {x0 : Nat} (hT : ZT S) (hR : A7 SZ S) (r_x0 : zK S x0 = 8) : Ok (f_X8_parse x0 S) (fun o => ZT o.2 ∧ A7 SZ o.2 ∧ ((0 : Int) ≤ o.1.toInt ∧ o.1.toInt ≤ (1 : Int)) ∧ ((o.1.toInt = 1 → 0 ≤ (zI o.2 6 x0).toInt ∨ (zI o.2 2 x0).toInt ≠ 0))) := t_f_X8_parse_0 hT hR r_x0
theorem t_f_X8_fitsFrom_129 {S : ZS} {x0 : Nat} {x1 : Nat} {x2 : Int32} (hT : ZT S) (r_x0 : zK S x0 = 8) (r_x1 : zK S x1 = 0) (r_x2 : (0 : Int) ≤ x2.toInt ∧ x2.toInt ≤ (63 : Int)) (q0 : 0 ≤ (zI S 6 x0).toInt) : Ok (f_X8_fitsFrom_129 x0 x1 x2 S) (fun o => o.2 = S ∧ ((0 : Int) ≤ o.1.toInt ∧ o.1.toInt ≤ (1 : Int))) := by
  unfold f_X8_fitsFrom_129
  refine ok_chk r_x0 ?_
  refine ok_chk r_x1 ?_
  obtain ⟨r1, h_r1, p_r1⟩ := roz (t_f_X0_becomesAnother (x0 := x1) (x1 := x2) (x2 := (zI S 6 x0)) hT r_x1 r_x2)
  dsimp only at p_r1
  refine ok_calR h_r1 ?_
  refine ok_chk r_x0 ?_
  have j61 := J_8_7 hT r_x0
  refine ok_if (fun c62 => ?_) (fun c62 => ?_)
  ·
    replace c62 := ti_eqP (a := (zI S 7 x0)) (b := (0 : Int32)) c62 rfl (show (0 : Int32).toInt = 0 from rfl)
    unfold f_X8_fitsFrom_150
    refine ok_if (fun c63 => ?_) (fun c63 => ?_)
    ·
      replace c63 := ti_eqP (a := r1) (b := (0 : Int32)) c63 rfl (show (0 : Int32).toInt = 0 from rfl)
      unfold f_X8_fitsFrom_158
      refine ok_chk (by decide) ?_
      exact ok_ret ⟨rfl, (show (0 : Int) ≤ (1 : Int32).toInt ∧ (1 : Int32).toInt ≤ (1 : Int) from (by decide))⟩
    ·
      replace c63 := ti_eqN (a := r1) (b := (0 : Int32)) c63 rfl (show (0 : Int32).toInt = 0 from rfl)
      unfold f_X8_fitsFrom_157
      unfold f_X8_fitsFrom_158
      refine ok_chk (by decide) ?_
      exact ok_ret ⟨rfl, (show (0 : Int) ≤ (0 : Int32).toInt ∧ (0 : Int32).toInt ≤ (1 : Int) from (by decide))⟩
  ·
    replace c62 := ti_eqN (a := (zI S 7 x0)) (b := (0 : Int32)) c62 rfl (show (0 : Int32).toInt = 0 from rfl)
    unfold f_X8_fitsFrom_150
    refine ok_if (fun c64 => ?_) (fun c64 => ?_)
    ·
      replace c64 := ti_eqP (a := r1) (b := (1 : Int32)) c64 rfl (show (1 : Int32).toInt = 1 from rfl)
      unfold f_X8_fitsFrom_158
      refine ok_chk (by decide) ?_
      exact ok_ret ⟨rfl, (show (0 : Int) ≤ (1 : Int32).toInt ∧ (1 : Int32).toInt ≤ (1 : Int) from (by decide))⟩
    ·
      replace c64 := ti_eqN (a := r1) (b := (1 : Int32)) c64 rfl (show (1 : Int32).toInt = 1 from rfl)
      unfold f_X8_fitsFrom_157
      unfold f_X8_fitsFrom_158
      refine ok_chk (by decide) ?_
      exact ok_ret ⟨rfl, (show (0 : Int) ≤ (0 : Int32).toInt ∧ (0 : Int32).toInt ≤ (1 : Int) from (by decide))⟩
theorem t_f_X8_fitsFrom_104 {S : ZS} {x0 : Nat} {x1 : Nat} {x2 : Int32} {x3 : Int32} (hT : ZT S) (r_x0 : zK S x0 = 8) (r_x1 : zK S x1 = 0) (r_x2 : (0 : Int) ≤ x2.toInt ∧ x2.toInt ≤ (63 : Int)) (q0 : 0 ≤ (zI S 6 x0).toInt) : Ok (f_X8_fitsFrom_104 x0 x1 x2 x3 S) (fun o => o.2 = S ∧ ((0 : Int) ≤ o.1.toInt ∧ o.1.toInt ≤ (1 : Int))) := by
  unfold f_X8_fitsFrom_104
  refine ok_chk r_x0 ?_
  have j65 := J_8_8 hT r_x0
  refine ok_if (fun c66 => ?_) (fun c66 => ?_)
  ·
    replace c66 := ti_eqP (a := (zI S 8 x0)) (b := (-1 : Int32)) c66 rfl (show (-1 : Int32).toInt = -1 from rfl)
    have j67 := J_8_6 hT r_x0
    exact t_f_X8_fitsFrom_129 (S := S)  (x0 := x0) (x1 := x1) (x2 := x2) hT r_x0 r_x1 r_x2 q0
  ·
    replace c66 := ti_eqN (a := (zI S 8 x0)) (b := (-1 : Int32)) c66 rfl (show (-1 : Int32).toInt = -1 from rfl)
    refine ok_chk r_x0 ?_
    refine ok_if (fun c68 => ?_) (fun c68 => ?_)
    ·
      replace c68 := ti_eqP (a := (zI S 8 x0)) (b := (1 : Int32)) c68 rfl (show (1 : Int32).toInt = 1 from rfl)
      unfold f_X8_fitsFrom_126
      refine ok_if (fun c69 => ?_) (fun c69 => ?_)
      ·
        replace c69 := ti_eqP (a := x3) (b := (1 : Int32)) c69 rfl (show (1 : Int32).toInt = 1 from rfl)
        have j70 := J_8_6 hT r_x0
        exact t_f_X8_fitsFrom_129 (S := S)  (x0 := x0) (x1 := x1) (x2 := x2) hT r_x0 r_x1 r_x2 q0
      ·
        replace c69 := ti_eqN (a := x3) (b := (1 : Int32)) c69 rfl (show (1 : Int32).toInt = 1 from rfl)
        unfold f_X8_fitsFrom_157
        unfold f_X8_fitsFrom_158
        refine ok_chk (by decide) ?_
        exact ok_ret ⟨rfl, (show (0 : Int) ≤ (0 : Int32).toInt ∧ (0 : Int32).toInt ≤ (1 : Int) from (by decide))⟩
    ·
      replace c68 := ti_eqN (a := (zI S 8 x0)) (b := (1 : Int32)) c68 rfl (show (1 : Int32).toInt = 1 from rfl)
      unfold f_X8_fitsFrom_126
      refine ok_if (fun c71 => ?_) (fun c71 => ?_)
      ·
        replace c71 := ti_eqP (a := x3) (b := (0 : Int32)) c71 rfl (show (0 : Int32).toInt = 0 from rfl)
        have j72 := J_8_6 hT r_x0
        exact t_f_X8_fitsFrom_129 (S := S)  (x0 := x0) (x1 := x1) (x2 := x2) hT r_x0 r_x1 r_x2 q0
      ·
        replace c71 := ti_eqN (a := x3) (b := (0 : Int32)) c71 rfl (show (0 : Int32).toInt = 0 from rfl)
        unfold f_X8_fitsFrom_157
        unfold f_X8_fitsFrom_158
        refine ok_chk (by decide) ?_
        exact ok_ret ⟨rfl, (show (0 : Int) ≤ (0 : Int32).toInt ∧ (0 : Int32).toInt ≤ (1 : Int) from (by decide))⟩
theorem t_f_X8_fitsFrom_72 {S : ZS} {x0 : Nat} {x1 : Nat} {x2 : Int32} (hT : ZT S) (r_x0 : zK S x0 = 8) (r_x1 : zK S x1 = 0) (r_x2 : (0 : Int) ≤ x2.toInt ∧ x2.toInt ≤ (63 : Int)) (q0 : 0 ≤ (zI S 6 x0).toInt) : Ok (f_X8_fitsFrom_72 x0 x1 x2 S) (fun o => o.2 = S ∧ ((0 : Int) ≤ o.1.toInt ∧ o.1.toInt ≤ (1 : Int))) := by
  unfold f_X8_fitsFrom_72
  refine ok_chk r_x0 ?_
  refine ok_chk r_x1 ?_
  have j73 := J_8_6 hT r_x0
  obtain ⟨r1, h_r1, p_r1⟩ := roz (t_f_X0_takes (x0 := x1) (x1 := x2) (x2 := (zI S 6 x0)) hT r_x1 r_x2 (by omega))
  dsimp only at p_r1
  refine ok_calR h_r1 ?_
  refine ok_chk r_x0 ?_
  refine ok_if (fun c74 => ?_) (fun c74 => ?_)
  ·
    replace c74 := ti_eqP (a := (zI S 3 x0)) (b := (1 : Int32)) c74 rfl (show (1 : Int32).toInt = 1 from rfl)
    refine ok_if (fun c75 => ?_) (fun c75 => ?_)
    ·
      replace c75 := ti_eqP (a := r1) (b := (0 : Int32)) c75 rfl (show (0 : Int32).toInt = 0 from rfl)
      exact t_f_X8_fitsFrom_104 (S := S)  (x0 := x0) (x1 := x1) (x2 := x2) (x3 := r1) hT r_x0 r_x1 r_x2 q0
    ·
      replace c75 := ti_eqN (a := r1) (b := (0 : Int32)) c75 rfl (show (0 : Int32).toInt = 0 from rfl)
      refine ok_chk r_x0 ?_
      refine ok_if (fun c76 => ?_) (fun c76 => ?_)
      ·
        replace c76 := ti_eqP (a := (zI S 4 x0)) (b := (-1 : Int32)) c76 rfl (show (-1 : Int32).toInt = -1 from rfl)
        refine ok_chk (by decide) ?_
        exact ok_ret ⟨rfl, (show (0 : Int) ≤ (0 : Int32).toInt ∧ (0 : Int32).toInt ≤ (1 : Int) from (by decide))⟩
      ·
        replace c76 := ti_eqN (a := (zI S 4 x0)) (b := (-1 : Int32)) c76 rfl (show (-1 : Int32).toInt = -1 from rfl)
        exact t_f_X8_fitsFrom_104 (S := S)  (x0 := x0) (x1 := x1) (x2 := x2) (x3 := r1) hT r_x0 r_x1 r_x2 q0
  ·
    replace c74 := ti_eqN (a := (zI S 3 x0)) (b := (1 : Int32)) c74 rfl (show (1 : Int32).toInt = 1 from rfl)
    exact t_f_X8_fitsFrom_104 (S := S)  (x0 := x0) (x1 := x1) (x2 := x2) (x3 := r1) hT r_x0 r_x1 r_x2 q0
theorem t_f_X8_fitsFrom_52 {S : ZS} {x0 : Nat} {x1 : Nat} {x2 : Int32} (hT : ZT S) (r_x0 : zK S x0 = 8) (r_x1 : zK S x1 = 0) (r_x2 : (0 : Int) ≤ x2.toInt ∧ x2.toInt ≤ (63 : Int)) (q0 : 0 ≤ (zI S 6 x0).toInt) : Ok (f_X8_fitsFrom_52 x0 x1 x2 S) (fun o => o.2 = S ∧ ((0 : Int) ≤ o.1.toInt ∧ o.1.toInt ≤ (1 : Int))) := by
  unfold f_X8_fitsFrom_52
  refine ok_chk r_x0 ?_
  refine ok_if (fun c77 => ?_) (fun c77 => ?_)
  ·
    replace c77 := ti_eqP (a := (zI S 5 x0)) (b := (-1 : Int32)) c77 rfl (show (-1 : Int32).toInt = -1 from rfl)
    have j78 := J_8_6 hT r_x0
    exact t_f_X8_fitsFrom_72 (S := S)  (x0 := x0) (x1 := x1) (x2 := x2) hT r_x0 r_x1 r_x2 q0
  ·
    replace c77 := ti_eqN (a := (zI S 5 x0)) (b := (-1 : Int32)) c77 rfl (show (-1 : Int32).toInt = -1 from rfl)
    refine ok_chk r_x0 ?_
    refine ok_bnd (fun v1 e79 => ?_)
    have t_v1 : v1.toInt = x2.toInt / 8 := b_sh3 e79 (by omega)
    refine ok_if (fun c80 => ?_) (fun c80 => ?_)
    ·
      replace c80 := ti_eqP (a := (zI S 5 x0)) (b := v1) c80 rfl rfl
      have j81 := J_8_6 hT r_x0
      exact t_f_X8_fitsFrom_72 (S := S)  (x0 := x0) (x1 := x1) (x2 := x2) hT r_x0 r_x1 r_x2 q0
    ·
      replace c80 := ti_eqN (a := (zI S 5 x0)) (b := v1) c80 rfl rfl
      unfold f_X8_fitsFrom_70
      refine ok_chk (by decide) ?_
      exact ok_ret ⟨rfl, (show (0 : Int) ≤ (0 : Int32).toInt ∧ (0 : Int32).toInt ≤ (1 : Int) from (by decide))⟩
theorem t_f_X8_fitsFrom_0 {S : ZS} {x0 : Nat} {x1 : Nat} {x2 : Int32} (hT : ZT S) (r_x0 : zK S x0 = 8) (r_x1 : zK S x1 = 0) (r_x2 : (0 : Int) ≤ x2.toInt ∧ x2.toInt ≤ (63 : Int)) (q0 : 0 ≤ (zI S 6 x0).toInt) : Ok (f_X8_fitsFrom_0 x0 x1 x2 S) (fun o => o.2 = S ∧ ((0 : Int) ≤ o.1.toInt ∧ o.1.toInt ≤ (1 : Int))) := by
  unfold f_X8_fitsFrom_0
  refine ok_chk r_x1 ?_
  obtain ⟨b1, p_b1, k_b1, n_b1⟩ := T_0_0 hT r_x1
  refine ok_calR p_b1 ?_
  refine ok_chk k_b1 ?_
  refine ok_chk (ti_inN (v := x2) (n := 64) n_b1 (by omega) (by omega)) ?_
  refine ok_bnd (fun v2 e82 => ?_)
  refine ok_chk r_x0 ?_
  refine ok_chk r_x1 ?_
  refine ok_bnd (fun v3 e83 => ?_)
  have j84 := J_0_3 hT r_x1
  have t_v3 : v3.toInt = 8 * (zI S 3 x1).toInt := ti_mul e83 (show (8 : Int32).toInt = 8 from rfl) rfl (by omega) (by omega)
  refine ok_bnd (fun v4 e85 => ?_)
  refine ok_if (fun c86 => ?_) (fun c86 => ?_)
  ·
    replace c86 := ti_eqP (a := v2) (b := v4) c86 rfl rfl
    refine ok_chk r_x0 ?_
    refine ok_chk r_x1 ?_
    have j87 := J_8_6 hT r_x0
    obtain ⟨r5, h_r5, p_r5⟩ := roz (t_f_X0_castles (x0 := x1) (x1 := x2) (x2 := (zI S 6 x0)) hT r_x1 r_x2 (by omega))
    dsimp only at p_r5
    refine ok_calR h_r5 ?_
    refine ok_if (fun c88 => ?_) (fun c88 => ?_)
    ·
      replace c88 := ti_eqP (a := r5) (b := (0 : Int32)) c88 rfl (show (0 : Int32).toInt = 0 from rfl)
      refine ok_chk r_x0 ?_
      refine ok_if (fun c89 => ?_) (fun c89 => ?_)
      ·
        replace c89 := ti_eqP (a := (zI S 4 x0)) (b := (-1 : Int32)) c89 rfl (show (-1 : Int32).toInt = -1 from rfl)
        exact t_f_X8_fitsFrom_52 (S := S)  (x0 := x0) (x1 := x1) (x2 := x2) hT r_x0 r_x1 r_x2 q0
      ·
        replace c89 := ti_eqN (a := (zI S 4 x0)) (b := (-1 : Int32)) c89 rfl (show (-1 : Int32).toInt = -1 from rfl)
        refine ok_chk r_x0 ?_
        refine ok_bnd (fun v6 e90 => ?_)
        have t_v6 : v6.toInt = x2.toInt % 8 := b_and7 e90 (by omega)
        refine ok_if (fun c91 => ?_) (fun c91 => ?_)
        ·
          replace c91 := ti_eqP (a := (zI S 4 x0)) (b := v6) c91 rfl rfl
          exact t_f_X8_fitsFrom_52 (S := S)  (x0 := x0) (x1 := x1) (x2 := x2) hT r_x0 r_x1 r_x2 q0
        ·
          replace c91 := ti_eqN (a := (zI S 4 x0)) (b := v6) c91 rfl rfl
          unfold f_X8_fitsFrom_70
          refine ok_chk (by decide) ?_
          exact ok_ret ⟨rfl, (show (0 : Int) ≤ (0 : Int32).toInt ∧ (0 : Int32).toInt ≤ (1 : Int) from (by decide))⟩
    ·
      replace c88 := ti_eqN (a := r5) (b := (0 : Int32)) c88 rfl (show (0 : Int32).toInt = 0 from rfl)
      unfold f_X8_fitsFrom_70
      refine ok_chk (by decide) ?_
      exact ok_ret ⟨rfl, (show (0 : Int) ≤ (0 : Int32).toInt ∧ (0 : Int32).toInt ≤ (1 : Int) from (by decide))⟩
  ·
    replace c86 := ti_eqN (a := v2) (b := v4) c86 rfl rfl
    unfold f_X8_fitsFrom_70
    refine ok_chk (by decide) ?_
    exact ok_ret ⟨rfl, (show (0 : Int) ≤ (0 : Int32).toInt ∧ (0 : Int32).toInt ≤ (1 : Int) from (by decide))⟩
theorem t_f_X8_fitsFrom {S : ZS} {x0 : Nat} {x1 : Nat} {x2 : Int32} (hT : ZT S) (r_x0 : zK S x0 = 8) (r_x1 : zK S x1 = 0) (r_x2 : (0 : Int) ≤ x2.toInt ∧ x2.toInt ≤ (63 : Int)) (q0 : 0 ≤ (zI S 6 x0).toInt) : Ok (f_X8_fitsFrom x0 x1 x2 S) (fun o => o.2 = S ∧ ((0 : Int) ≤ o.1.toInt ∧ o.1.toInt ≤ (1 : Int))) := t_f_X8_fitsFrom_0 hT r_x0 r_x1 r_x2 q0
theorem t_f_X8_gather_82 {SZ S : ZS} {self38 : Nat → Nat → Int32 → Int32 → ZS → Option (Int32 × ZS)} {N38 : Nat} (hself38 : ∀ (x0 : Nat) (x1 : Nat) (x2 : Int32) (x3 : Int32) (S : ZS), ZT S → A7 SZ S → (zK S x0 = 8) → (zK S x1 = 0) → ((0 : Int) ≤ x2.toInt ∧ x2.toInt ≤ (63 : Int)) → ((0 : Int) ≤ x3.toInt ∧ x3.toInt ≤ (64 : Int)) → (0 ≤ (zI S 6 x0).toInt) → ((zI S 11 x0).toInt ≤ x3.toInt) → (65 - x3.toInt) < (N38 : Int) → Ok (self38 x0 x1 x2 x3 S) (fun o => ZT o.2 ∧ A7 SZ o.2 ∧ True)) {x0 : Nat} {x1 : Nat} {x2 : Int32} {x3 : Int32} {t0 : Int32} (hT : ZT S) (hR : A7 SZ S) (r_x0 : zK S x0 = 8) (r_x1 : zK S x1 = 0) (r_x2 : (0 : Int) ≤ x2.toInt ∧ x2.toInt ≤ (63 : Int)) (r_x3 : (0 : Int) ≤ x3.toInt ∧ x3.toInt ≤ (63 : Int)) (r_t0 : (0 : Int) ≤ t0.toInt ∧ t0.toInt ≤ (1 : Int)) (q0 : 0 ≤ (zI S 6 x0).toInt) (q1 : (zI S 11 x0).toInt ≤ x3.toInt) (m38 : (65 - x3.toInt) ≤ (N38 : Int)) : Ok (f_X8_gather_82 self38 x0 x1 x2 x3 t0 S) (fun o => ZT o.2 ∧ A7 SZ o.2 ∧ True) := by
  unfold f_X8_gather_82
  have j92 := J_8_6 hT r_x0
  have j93 := J_8_2 hT r_x0
  have j94 := J_8_7 hT r_x0
  have j95 := J_8_11 hT r_x0
  refine ok_chk r_x0 ?_
  refine ok_bnd (fun v1 e96 => ?_)
  have t_v1 : v1.toInt = 64 * (zI S 6 x0).toInt := ti_mul e96 (show (64 : Int32).toInt = 64 from rfl) rfl (by omega) (by omega)
  refine ok_bnd (fun v2 e97 => ?_)
  have t_v2 : v2.toInt = x3.toInt + v1.toInt := ti_add e97 rfl rfl (by omega) (by omega)
  refine ok_chk r_x0 ?_
  refine ok_bnd (fun v3 e98 => ?_)
  have t_v3 : v3.toInt = 4096 * (zI S 7 x0).toInt := ti_mul e98 (show (4096 : Int32).toInt = 4096 from rfl) rfl (by omega) (by omega)
  refine ok_bnd (fun v4 e99 => ?_)
  have t_v4 : v4.toInt = v2.toInt + v3.toInt := ti_add e99 rfl rfl (by omega) (by omega)
  refine ok_if (fun c100 => ?_) (fun c100 => ?_)
  ·
    replace c100 := ti_eqP (a := t0) (b := (0 : Int32)) c100 rfl (show (0 : Int32).toInt = 0 from rfl)
    unfold f_X8_gather_155
    refine ok_bnd (fun v1w101 e101 => ?_)
    have t_v1w101 : v1w101.toInt = x3.toInt + 1 := ti_add e101 rfl (show (1 : Int32).toInt = 1 from rfl) (by omega) (by omega)
    exact hself38 x0 x1 x2 v1w101 S hT hR r_x0 r_x1 r_x2 (by omega) q0 (by omega) (by omega)
  ·
    replace c100 := ti_eqN (a := t0) (b := (0 : Int32)) c100 rfl (show (0 : Int32).toInt = 0 from rfl)
    refine ok_chk r_x0 ?_
    refine ok_chk r_x1 ?_
    obtain ⟨r5, h_r5, p_r5⟩ := roz (t_f_X0_reaches (x0 := x1) (x1 := x3) (x2 := (zI S 6 x0)) hT r_x1 r_x3 (by omega))
    dsimp only at p_r5
    refine ok_calR h_r5 ?_
    refine ok_if (fun c102 => ?_) (fun c102 => ?_)
    ·
      replace c102 := ti_eqP (a := r5) (b := (0 : Int32)) c102 rfl (show (0 : Int32).toInt = 0 from rfl)
      unfold f_X8_gather_155
      refine ok_bnd (fun v1w103 e103 => ?_)
      have t_v1w103 : v1w103.toInt = x3.toInt + 1 := ti_add e103 rfl (show (1 : Int32).toInt = 1 from rfl) (by omega) (by omega)
      exact hself38 x0 x1 x2 v1w103 S hT hR r_x0 r_x1 r_x2 (by omega) q0 (by omega) (by omega)
    ·
      replace c102 := ti_eqN (a := r5) (b := (0 : Int32)) c102 rfl (show (0 : Int32).toInt = 0 from rfl)
      refine ok_chk r_x0 ?_
      obtain ⟨b6, p_b6, k_b6⟩ := T_8_0 hT r_x0
      refine ok_calR p_b6 ?_
      refine ok_chk k_b6 ?_
      obtain ⟨⟨r7, S7⟩, h_r7, T_S7, A_S7, p_r7⟩ := t_f_X7_isSafe (x0 := b6) (x1 := x1) (x2 := v4) (SZ := S) hT (a7_0 S) k_b6 r_x1
      replace T_S7 : ZT S7 := T_S7
      replace A_S7 : A7 S S7 := A_S7
      dsimp only at p_r7
      refine ok_calR h_r7 ?_
      have q_S7 := fq_X7_isSafe h_r7
      have kE_S7 : zK S7 = zK S := q_S7.2.2.1
      have nE_S7 : zN S7 = zN S := q_S7.2.2.2.1
      have R_S7 : A7 SZ S7 := a7_t hR A_S7
      have : (zI S7 6 x0).toInt = (zI S 6 x0).toInt := congrArg Int32.toInt ((((fz_X7_isSafe h_r7) hT.2.2.2.2.1).2.2 x0 (by rw [r_x0]; decide)).2.2.1 6 (by rw [r_x0]; decide))
      have : (zI S7 2 x0).toInt = (zI S 2 x0).toInt := congrArg Int32.toInt ((((fz_X7_isSafe h_r7) hT.2.2.2.2.1).2.2 x0 (by rw [r_x0]; decide)).2.2.1 2 (by rw [r_x0]; decide))
      have : (zI S7 7 x0).toInt = (zI S 7 x0).toInt := congrArg Int32.toInt ((((fz_X7_isSafe h_r7) hT.2.2.2.2.1).2.2 x0 (by rw [r_x0]; decide)).2.2.1 7 (by rw [r_x0]; decide))
      have : (zI S7 11 x0).toInt = (zI S 11 x0).toInt := congrArg Int32.toInt ((((fz_X7_isSafe h_r7) hT.2.2.2.2.1).2.2 x0 (by rw [r_x0]; decide)).2.2.1 11 (by rw [r_x0]; decide))
      refine ok_if (fun c104 => ?_) (fun c104 => ?_)
      ·
        replace c104 := ti_eqP (a := r7) (b := (0 : Int32)) c104 rfl (show (0 : Int32).toInt = 0 from rfl)
        unfold f_X8_gather_155
        refine ok_bnd (fun v1w105 e105 => ?_)
        have t_v1w105 : v1w105.toInt = x3.toInt + 1 := ti_add e105 rfl (show (1 : Int32).toInt = 1 from rfl) (by omega) (by omega)
        have j106 := J_8_6 T_S7 ((congrFun kE_S7 x0).trans r_x0)
        have j107 := J_8_11 T_S7 ((congrFun kE_S7 x0).trans r_x0)
        exact hself38 x0 x1 x2 v1w105 S7 T_S7 R_S7 ((congrFun kE_S7 x0).trans r_x0) ((congrFun kE_S7 x1).trans r_x1) r_x2 (by omega) (by omega) (by omega) (by omega)
      ·
        replace c104 := ti_eqN (a := r7) (b := (0 : Int32)) c104 rfl (show (0 : Int32).toInt = 0 from rfl)
        refine ok_chk ((congrFun kE_S7 x0).trans r_x0) ?_
        obtain ⟨b8, p_b8, k_b8, n_b8⟩ := T_8_10 T_S7 ((congrFun kE_S7 x0).trans r_x0)
        refine ok_calR p_b8 ?_
        refine ok_chk ((congrFun kE_S7 x0).trans r_x0) ?_
        refine ok_chk k_b8 ?_
        have j108 := J_8_11 T_S7 ((congrFun kE_S7 x0).trans r_x0)
        refine ok_chk (ti_inN (v := (zI S7 11 x0)) (n := 64) n_b8 (by omega) (by omega)) ?_
        refine ok_bnd (fun S9 e109 => ?_)
        have T_S9 : ZT S9 := e109.symm ▸ zt_A T_S7 k_b8
        have kE_S9 : zK S9 = zK S7 := by rw [e109]; rfl
        have nE_S9 : zN S9 = zN S7 := by rw [e109]; rfl
        have R_S9 : A7 SZ S9 := a7_A R_S7 e109 T_S7 k_b8 n_b8 (by decide)
        have : (zI S9 6 x0).toInt = (zI S7 6 x0).toInt := by rw [e109]; rfl
        have : (zI S9 2 x0).toInt = (zI S7 2 x0).toInt := by rw [e109]; rfl
        have : (zI S9 7 x0).toInt = (zI S7 7 x0).toInt := by rw [e109]; rfl
        have : (zI S9 11 x0).toInt = (zI S7 11 x0).toInt := by rw [e109]; rfl
        refine ok_chk ((congrFun kE_S9 x0).trans ((congrFun kE_S7 x0).trans r_x0)) ?_
        refine ok_bnd (fun v10 e110 => ?_)
        have j111 := J_8_11 T_S9 ((congrFun kE_S9 x0).trans ((congrFun kE_S7 x0).trans r_x0))
        have t_v10 : v10.toInt = (zI S9 11 x0).toInt + 1 := ti_add e110 rfl (show (1 : Int32).toInt = 1 from rfl) (by omega) (by omega)
        refine ok_chk ((congrFun kE_S9 x0).trans ((congrFun kE_S7 x0).trans r_x0)) ?_
        refine ok_bnd (fun S11 e112 => ?_)
        have T_S11 : ZT S11 := e112.symm ▸ zt_I T_S9 ((congrFun kE_S9 x0).trans ((congrFun kE_S7 x0).trans r_x0)) (by decide) (show (0 : Int) ≤ v10.toInt ∧ v10.toInt ≤ (64 : Int) from (by omega))
        have kE_S11 : zK S11 = zK S9 := by rw [e112]; rfl
        have nE_S11 : zN S11 = zN S9 := by rw [e112]; rfl
        have R_S11 : A7 SZ S11 := a7_I R_S9 e112 ((congrFun kE_S9 x0).trans ((congrFun kE_S7 x0).trans r_x0)) (by decide)
        have : (zI S11 6 x0).toInt = (zI S9 6 x0).toInt := by rw [e112]; rfl
        have : (zI S11 2 x0).toInt = (zI S9 2 x0).toInt := by rw [e112]; rfl
        have : (zI S11 7 x0).toInt = (zI S9 7 x0).toInt := by rw [e112]; rfl
        have : (zI S11 11 x0).toInt = v10.toInt := by rw [e112]; exact (congrArg Int32.toInt (zI_self _ _ _ _)).trans rfl
        unfold f_X8_gather_155
        refine ok_bnd (fun v1w113 e113 => ?_)
        have t_v1w113 : v1w113.toInt = x3.toInt + 1 := ti_add e113 rfl (show (1 : Int32).toInt = 1 from rfl) (by omega) (by omega)
        have j114 := J_8_6 T_S11 ((congrFun kE_S11 x0).trans ((congrFun kE_S9 x0).trans ((congrFun kE_S7 x0).trans r_x0)))
        have j115 := J_8_11 T_S11 ((congrFun kE_S11 x0).trans ((congrFun kE_S9 x0).trans ((congrFun kE_S7 x0).trans r_x0)))
        exact hself38 x0 x1 x2 v1w113 S11 T_S11 R_S11 ((congrFun kE_S11 x0).trans ((congrFun kE_S9 x0).trans ((congrFun kE_S7 x0).trans r_x0))) ((congrFun kE_S11 x1).trans ((congrFun kE_S9 x1).trans ((congrFun kE_S7 x1).trans r_x1))) r_x2 (by omega) (by omega) (by omega) (by omega)
theorem t_f_X8_gather_38s {SZ S : ZS} {self38 : Nat → Nat → Int32 → Int32 → ZS → Option (Int32 × ZS)} {N38 : Nat} (hself38 : ∀ (x0 : Nat) (x1 : Nat) (x2 : Int32) (x3 : Int32) (S : ZS), ZT S → A7 SZ S → (zK S x0 = 8) → (zK S x1 = 0) → ((0 : Int) ≤ x2.toInt ∧ x2.toInt ≤ (63 : Int)) → ((0 : Int) ≤ x3.toInt ∧ x3.toInt ≤ (64 : Int)) → (0 ≤ (zI S 6 x0).toInt) → ((zI S 11 x0).toInt ≤ x3.toInt) → (65 - x3.toInt) < (N38 : Int) → Ok (self38 x0 x1 x2 x3 S) (fun o => ZT o.2 ∧ A7 SZ o.2 ∧ True)) {x0 : Nat} {x1 : Nat} {x2 : Int32} {x3 : Int32} (hT : ZT S) (hR : A7 SZ S) (r_x0 : zK S x0 = 8) (r_x1 : zK S x1 = 0) (r_x2 : (0 : Int) ≤ x2.toInt ∧ x2.toInt ≤ (63 : Int)) (r_x3 : (0 : Int) ≤ x3.toInt ∧ x3.toInt ≤ (64 : Int)) (q0 : 0 ≤ (zI S 6 x0).toInt) (q1 : (zI S 11 x0).toInt ≤ x3.toInt) (m38 : (65 - x3.toInt) ≤ (N38 : Int)) : Ok (f_X8_gather_38s self38 x0 x1 x2 x3 S) (fun o => ZT o.2 ∧ A7 SZ o.2 ∧ True) := by
  unfold f_X8_gather_38s
  have j116 := J_8_6 hT r_x0
  have j117 := J_8_2 hT r_x0
  have j118 := J_8_7 hT r_x0
  have j119 := J_8_11 hT r_x0
  refine ok_if (fun c120 => ?_) (fun c120 => ?_)
  ·
    replace c120 := ti_leP (a := (64 : Int32)) (b := x3) c120 (show (64 : Int32).toInt = 64 from rfl) rfl
    exact ok_ret ⟨hT, hR, trivial⟩
  ·
    replace c120 := ti_leN (a := (64 : Int32)) (b := x3) c120 (show (64 : Int32).toInt = 64 from rfl) rfl
    refine ok_chk r_x0 ?_
    refine ok_if (fun c121 => ?_) (fun c121 => ?_)
    ·
      replace c121 := ti_eqP (a := (zI S 2 x0)) (b := (0 : Int32)) c121 rfl (show (0 : Int32).toInt = 0 from rfl)
      refine ok_chk r_x0 ?_
      obtain ⟨r1, h_r1, p_r1⟩ := roz (t_f_X8_fitsFrom (x0 := x0) (x1 := x1) (x2 := x3) hT r_x0 r_x1 (by omega) q0)
      dsimp only at p_r1
      refine ok_calR h_r1 ?_
      exact t_f_X8_gather_82 (S := S) hself38 (x0 := x0) (x1 := x1) (x2 := x2) (x3 := x3) (t0 := r1) hT hR r_x0 r_x1 r_x2 (by omega) (by omega) q0 q1 m38
    ·
      replace c121 := ti_eqN (a := (zI S 2 x0)) (b := (0 : Int32)) c121 rfl (show (0 : Int32).toInt = 0 from rfl)
      refine ok_if (fun c122 => ?_) (fun c122 => ?_)
      ·
        replace c122 := ti_eqP (a := x3) (b := x2) c122 rfl rfl
        refine ok_chk r_x0 ?_
        refine ok_chk r_x1 ?_
        obtain ⟨r2, h_r2, p_r2⟩ := roz (t_f_X0_castles (x0 := x1) (x1 := x3) (x2 := (zI S 6 x0)) hT r_x1 (by omega) (by omega))
        dsimp only at p_r2
        refine ok_calR h_r2 ?_
        refine ok_if (fun c123 => ?_) (fun c123 => ?_)
        ·
          replace c123 := ti_eqP (a := r2) (b := (0 : Int32)) c123 rfl (show (0 : Int32).toInt = 0 from rfl)
          unfold f_X8_gather_72
          exact t_f_X8_gather_82 (S := S) hself38 (x0 := x0) (x1 := x1) (x2 := x2) (x3 := x3) (t0 := (0 : Int32)) hT hR r_x0 r_x1 r_x2 (by omega) (by decide) q0 q1 m38
        ·
          replace c123 := ti_eqN (a := r2) (b := (0 : Int32)) c123 rfl (show (0 : Int32).toInt = 0 from rfl)
          exact t_f_X8_gather_82 (S := S) hself38 (x0 := x0) (x1 := x1) (x2 := x2) (x3 := x3) (t0 := (1 : Int32)) hT hR r_x0 r_x1 r_x2 (by omega) (by decide) q0 q1 m38
      ·
        replace c122 := ti_eqN (a := x3) (b := x2) c122 rfl rfl
        unfold f_X8_gather_72
        exact t_f_X8_gather_82 (S := S) hself38 (x0 := x0) (x1 := x1) (x2 := x2) (x3 := x3) (t0 := (0 : Int32)) hT hR r_x0 r_x1 r_x2 (by omega) (by decide) q0 q1 m38
theorem t_f_X8_gather_38 {SZ : ZS} : ∀ (n : Nat) (x0 : Nat) (x1 : Nat) (x2 : Int32) (x3 : Int32) (S : ZS), ZT S → A7 SZ S → (zK S x0 = 8) → (zK S x1 = 0) → ((0 : Int) ≤ x2.toInt ∧ x2.toInt ≤ (63 : Int)) → ((0 : Int) ≤ x3.toInt ∧ x3.toInt ≤ (64 : Int)) → (0 ≤ (zI S 6 x0).toInt) → ((zI S 11 x0).toInt ≤ x3.toInt) → (65 - x3.toInt) < (n : Int) → Ok (f_X8_gather_38  n x0 x1 x2 x3 S) (fun o => ZT o.2 ∧ A7 SZ o.2 ∧ True) := by
  intro n
  induction n with
  | zero => intro x0 x1 x2 x3 S hT hR g0 g1 g2 g3 g4 g5  hm; exfalso; omega
  | succ n ih =>
    intro x0 x1 x2 x3 S hT hR g0 g1 g2 g3 g4 g5  hm
    exact t_f_X8_gather_38s (N38 := n)  ih hT hR g0 g1 g2 g3 g4 g5  (by omega)
theorem t_f_X8_gather_18 {SZ S : ZS} {x0 : Nat} {x1 : Nat} {t0 : Int32} (hT : ZT S) (hR : A7 SZ S) (r_x0 : zK S x0 = 8) (r_x1 : zK S x1 = 0) (r_t0 : (4 : Int) ≤ t0.toInt ∧ t0.toInt ≤ (60 : Int)) (q0 : 0 ≤ (zI S 6 x0).toInt ∨ (zI S 2 x0).toInt ≠ 0) (q1 : (zI S 11 x0).toInt ≤ 0) : Ok (f_X8_gather_18 x0 x1 t0 S) (fun o => ZT o.2 ∧ A7 SZ o.2 ∧ True) := by
  unfold f_X8_gather_18
  have j124 := J_8_6 hT r_x0
  have j125 := J_8_2 hT r_x0
  have j126 := J_8_7 hT r_x0
  have j127 := J_8_11 hT r_x0
  refine ok_chk r_x0 ?_
  refine ok_if (fun c128 => ?_) (fun c128 => ?_)
  ·
    replace c128 := ti_eqP (a := (zI S 2 x0)) (b := (0 : Int32)) c128 rfl (show (0 : Int32).toInt = 0 from rfl)
    unfold f_X8_gather_36
    exact t_f_X8_gather_38   mFuel x0 x1 t0 (0 : Int32) S hT hR r_x0 r_x1 (by omega) (by decide) (by have z0 : (0 : Int32).toInt = 0 := rfl; omega) (by have z0 : (0 : Int32).toInt = 0 := rfl; omega) (by show _ < ((200000 : Nat) : Int); have z0 : (0 : Int32).toInt = 0 := rfl; omega)
  ·
    replace c128 := ti_eqN (a := (zI S 2 x0)) (b := (0 : Int32)) c128 rfl (show (0 : Int32).toInt = 0 from rfl)
    refine ok_chk r_x0 ?_
    refine ok_bnd (fun v1 e129 => ?_)
    have t_v1 : v1.toInt = t0.toInt + (zI S 2 x0).toInt := ti_add e129 rfl rfl (by omega) (by omega)
    refine ok_chk r_x0 ?_
    refine ok_bnd (fun S2 e130 => ?_)
    have T_S2 : ZT S2 := e130.symm ▸ zt_I hT r_x0 (by decide) (show (-1 : Int) ≤ v1.toInt ∧ v1.toInt ≤ (63 : Int) from (by omega))
    have kE_S2 : zK S2 = zK S := by rw [e130]; rfl
    have nE_S2 : zN S2 = zN S := by rw [e130]; rfl
    have R_S2 : A7 SZ S2 := a7_I hR e130 r_x0 (by decide)
    have : (zI S2 6 x0).toInt = v1.toInt := by rw [e130]; exact (congrArg Int32.toInt (zI_self _ _ _ _)).trans rfl
    have : (zI S2 2 x0).toInt = (zI S 2 x0).toInt := by rw [e130]; rfl
    have : (zI S2 7 x0).toInt = (zI S 7 x0).toInt := by rw [e130]; rfl
    have : (zI S2 11 x0).toInt = (zI S 11 x0).toInt := by rw [e130]; rfl
    unfold f_X8_gather_36
    have j131 := J_8_6 T_S2 ((congrFun kE_S2 x0).trans r_x0)
    have j132 := J_8_11 T_S2 ((congrFun kE_S2 x0).trans r_x0)
    exact t_f_X8_gather_38   mFuel x0 x1 t0 (0 : Int32) S2 T_S2 R_S2 ((congrFun kE_S2 x0).trans r_x0) ((congrFun kE_S2 x1).trans r_x1) (by omega) (by decide) (by have z0 : (0 : Int32).toInt = 0 := rfl; omega) (by have z0 : (0 : Int32).toInt = 0 := rfl; omega) (by show _ < ((200000 : Nat) : Int); have z0 : (0 : Int32).toInt = 0 := rfl; omega)
theorem t_f_X8_gather_0 {SZ S : ZS} {x0 : Nat} {x1 : Nat} (hT : ZT S) (hR : A7 SZ S) (r_x0 : zK S x0 = 8) (r_x1 : zK S x1 = 0) (q0 : 0 ≤ (zI S 6 x0).toInt ∨ (zI S 2 x0).toInt ≠ 0) : Ok (f_X8_gather_0 x0 x1 S) (fun o => ZT o.2 ∧ A7 SZ o.2 ∧ True) := by
  unfold f_X8_gather_0
  have j133 := J_8_6 hT r_x0
  have j134 := J_8_2 hT r_x0
  have j135 := J_8_7 hT r_x0
  have j136 := J_8_11 hT r_x0
  refine ok_chk r_x0 ?_
  refine ok_bnd (fun S1 e137 => ?_)
  have T_S1 : ZT S1 := e137.symm ▸ zt_I hT r_x0 (by decide) (show (0 : Int) ≤ (0 : Int32).toInt ∧ (0 : Int32).toInt ≤ (64 : Int) from (by decide))
  have kE_S1 : zK S1 = zK S := by rw [e137]; rfl
  have nE_S1 : zN S1 = zN S := by rw [e137]; rfl
  have R_S1 : A7 SZ S1 := a7_I hR e137 r_x0 (by decide)
  have : (zI S1 6 x0).toInt = (zI S 6 x0).toInt := by rw [e137]; rfl
  have : (zI S1 2 x0).toInt = (zI S 2 x0).toInt := by rw [e137]; rfl
  have : (zI S1 7 x0).toInt = (zI S 7 x0).toInt := by rw [e137]; rfl
  have : (zI S1 11 x0).toInt = 0 := by rw [e137]; exact (congrArg Int32.toInt (zI_self _ _ _ _)).trans (show (0 : Int32).toInt = 0 from rfl)
  refine ok_chk ((congrFun kE_S1 x1).trans r_x1) ?_
  have j138 := J_0_3 T_S1 ((congrFun kE_S1 x1).trans r_x1)
  refine ok_if (fun c139 => ?_) (fun c139 => ?_)
  ·
    replace c139 := ti_eqP (a := (zI S1 3 x1)) (b := (0 : Int32)) c139 rfl (show (0 : Int32).toInt = 0 from rfl)
    have j140 := J_8_6 T_S1 ((congrFun kE_S1 x0).trans r_x0)
    have j141 := J_8_2 T_S1 ((congrFun kE_S1 x0).trans r_x0)
    have j142 := J_8_11 T_S1 ((congrFun kE_S1 x0).trans r_x0)
    exact t_f_X8_gather_18 (S := S1)  (x0 := x0) (x1 := x1) (t0 := (4 : Int32)) T_S1 R_S1 ((congrFun kE_S1 x0).trans r_x0) ((congrFun kE_S1 x1).trans r_x1) (by decide) (by have z0 : (4 : Int32).toInt = 4 := rfl; omega) (by have z0 : (4 : Int32).toInt = 4 := rfl; omega)
  ·
    replace c139 := ti_eqN (a := (zI S1 3 x1)) (b := (0 : Int32)) c139 rfl (show (0 : Int32).toInt = 0 from rfl)
    have j143 := J_8_6 T_S1 ((congrFun kE_S1 x0).trans r_x0)
    have j144 := J_8_2 T_S1 ((congrFun kE_S1 x0).trans r_x0)
    have j145 := J_8_11 T_S1 ((congrFun kE_S1 x0).trans r_x0)
    exact t_f_X8_gather_18 (S := S1)  (x0 := x0) (x1 := x1) (t0 := (60 : Int32)) T_S1 R_S1 ((congrFun kE_S1 x0).trans r_x0) ((congrFun kE_S1 x1).trans r_x1) (by decide) (by have z0 : (60 : Int32).toInt = 60 := rfl; omega) (by have z0 : (60 : Int32).toInt = 60 := rfl; omega)
theorem t_f_X8_gather {SZ S : ZS} {x0 : Nat} {x1 : Nat} (hT : ZT S) (hR : A7 SZ S) (r_x0 : zK S x0 = 8) (r_x1 : zK S x1 = 0) (q0 : 0 ≤ (zI S 6 x0).toInt ∨ (zI S 2 x0).toInt ≠ 0) : Ok (f_X8_gather x0 x1 S) (fun o => ZT o.2 ∧ A7 SZ o.2 ∧ True) := t_f_X8_gather_0 hT hR r_x0 r_x1 q0
theorem t_f_X1_has_0 {S : ZS} {x0 : Nat} {x1 : Int32} (hT : ZT S) (r_x0 : zK S x0 = 1) : Ok (f_X1_has_0 x0 x1 S) (fun o => o.2 = S ∧ ((0 : Int) ≤ o.1.toInt ∧ o.1.toInt ≤ (1 : Int)) ∧ ((o.1.toInt = 1 → 0 ≤ x1.toInt ∧ x1.toInt ≤ (zI S 3 x0).toInt))) := by
  unfold f_X1_has_0
  refine ok_if (fun c146 => ?_) (fun c146 => ?_)
  ·
    replace c146 := ti_ltP (a := x1) (b := (0 : Int32)) c146 rfl (show (0 : Int32).toInt = 0 from rfl)
    unfold f_X1_has_16
    unfold f_X1_has_17
    refine ok_chk (by decide) ?_
    exact ok_ret ⟨rfl, (show (0 : Int) ≤ (0 : Int32).toInt ∧ (0 : Int32).toInt ≤ (1 : Int) from (by decide)), (by show ((0 : Int32).toInt = 1 → 0 ≤ x1.toInt ∧ x1.toInt ≤ (zI S 3 x0).toInt); have z : (0 : Int32).toInt = 0 := rfl; omega)⟩
  ·
    replace c146 := ti_ltN (a := x1) (b := (0 : Int32)) c146 rfl (show (0 : Int32).toInt = 0 from rfl)
    refine ok_chk r_x0 ?_
    have j147 := J_1_3 hT r_x0
    refine ok_if (fun c148 => ?_) (fun c148 => ?_)
    ·
      replace c148 := ti_ltP (a := (zI S 3 x0)) (b := x1) c148 rfl rfl
      unfold f_X1_has_16
      unfold f_X1_has_17
      refine ok_chk (by decide) ?_
      exact ok_ret ⟨rfl, (show (0 : Int) ≤ (0 : Int32).toInt ∧ (0 : Int32).toInt ≤ (1 : Int) from (by decide)), (by show ((0 : Int32).toInt = 1 → 0 ≤ x1.toInt ∧ x1.toInt ≤ (zI S 3 x0).toInt); have z : (0 : Int32).toInt = 0 := rfl; omega)⟩
    ·
      replace c148 := ti_ltN (a := (zI S 3 x0)) (b := x1) c148 rfl rfl
      unfold f_X1_has_17
      refine ok_chk (by decide) ?_
      exact ok_ret ⟨rfl, (show (0 : Int) ≤ (1 : Int32).toInt ∧ (1 : Int32).toInt ≤ (1 : Int) from (by decide)), (by show ((1 : Int32).toInt = 1 → 0 ≤ x1.toInt ∧ x1.toInt ≤ (zI S 3 x0).toInt); have z : (1 : Int32).toInt = 1 := rfl; omega)⟩
theorem t_f_X1_has {S : ZS} {x0 : Nat} {x1 : Int32} (hT : ZT S) (r_x0 : zK S x0 = 1) : Ok (f_X1_has x0 x1 S) (fun o => o.2 = S ∧ ((0 : Int) ≤ o.1.toInt ∧ o.1.toInt ≤ (1 : Int)) ∧ ((o.1.toInt = 1 → 0 ≤ x1.toInt ∧ x1.toInt ≤ (zI S 3 x0).toInt))) := t_f_X1_has_0 hT r_x0
theorem t_f_X1_childWith_12s {S : ZS} {self12 : Nat → Int32 → Int32 → Int32 → ZS → Option (Int32 × ZS)} {N12 : Nat} (hself12 : ∀ (x0 : Nat) (x2 : Int32) (x3 : Int32) (x4 : Int32),  (zK S x0 = 1) → ((0 : Int) ≤ x4.toInt ∧ x4.toInt ≤ (300 : Int)) → (301 - x4.toInt) < (N12 : Int) → Ok (self12 x0 x2 x3 x4 S) (fun o => o.2 = S ∧ True)) {x0 : Nat} {x2 : Int32} {x3 : Int32} {x4 : Int32} (hT : ZT S) (r_x0 : zK S x0 = 1) (r_x4 : (0 : Int) ≤ x4.toInt ∧ x4.toInt ≤ (300 : Int)) (m12 : (301 - x4.toInt) ≤ (N12 : Int)) : Ok (f_X1_childWith_12s self12 x0 x2 x3 x4 S) (fun o => o.2 = S ∧ True) := by
  unfold f_X1_childWith_12s
  refine ok_if (fun c149 => ?_) (fun c149 => ?_)
  ·
    replace c149 := ti_leP (a := (300 : Int32)) (b := x4) c149 (show (300 : Int32).toInt = 300 from rfl) rfl
    unfold f_X1_childWith_52
    exact ok_ret ⟨rfl, trivial⟩
  ·
    replace c149 := ti_leN (a := (300 : Int32)) (b := x4) c149 (show (300 : Int32).toInt = 300 from rfl) rfl
    refine ok_if (fun c150 => ?_) (fun c150 => ?_)
    ·
      replace c150 := ti_eqP (a := x3) (b := (-1 : Int32)) c150 rfl (show (-1 : Int32).toInt = -1 from rfl)
      unfold f_X1_childWith_52
      exact ok_ret ⟨rfl, trivial⟩
    ·
      replace c150 := ti_eqN (a := x3) (b := (-1 : Int32)) c150 rfl (show (-1 : Int32).toInt = -1 from rfl)
      refine ok_chk r_x0 ?_
      obtain ⟨r1, h_r1, p_r1⟩ := roz (t_f_X1_at (x0 := x0) (x1 := x3) hT r_x0)
      dsimp only at p_r1
      refine ok_calR h_r1 ?_
      refine ok_chk p_r1.1 ?_
      refine ok_if (fun c151 => ?_) (fun c151 => ?_)
      ·
        replace c151 := ti_eqP (a := (zI S 1 r1)) (b := x2) c151 rfl rfl
        unfold f_X1_childWith_52
        exact ok_ret ⟨rfl, trivial⟩
      ·
        replace c151 := ti_eqN (a := (zI S 1 r1)) (b := x2) c151 rfl rfl
        refine ok_chk r_x0 ?_
        obtain ⟨r2, h_r2, p_r2⟩ := roz (t_f_X1_at (x0 := x0) (x1 := x3) hT r_x0)
        dsimp only at p_r2
        refine ok_calR h_r2 ?_
        refine ok_chk p_r2.1 ?_
        refine ok_bnd (fun v3 e152 => ?_)
        have t_v3 : v3.toInt = x4.toInt + 1 := ti_add e152 rfl (show (1 : Int32).toInt = 1 from rfl) (by omega) (by omega)
        exact hself12 x0 x2 (zI S 3 r2) v3  r_x0 (by omega) (by omega)
theorem t_f_X1_childWith_12 {S : ZS} (hT : ZT S) : ∀ (n : Nat) (x0 : Nat) (x2 : Int32) (x3 : Int32) (x4 : Int32),  (zK S x0 = 1) → ((0 : Int) ≤ x4.toInt ∧ x4.toInt ≤ (300 : Int)) → (301 - x4.toInt) < (n : Int) → Ok (f_X1_childWith_12  n x0 x2 x3 x4 S) (fun o => o.2 = S ∧ True) := by
  intro n
  induction n with
  | zero => intro x0 x2 x3 x4 g0 g1  hm; exfalso; omega
  | succ n ih =>
    intro x0 x2 x3 x4 g0 g1  hm
    exact t_f_X1_childWith_12s (N12 := n)  ih hT g0 g1  (by omega)
theorem t_f_X1_childWith_0 {S : ZS} {x0 : Nat} {x1 : Int32} {x2 : Int32} (hT : ZT S) (r_x0 : zK S x0 = 1) : Ok (f_X1_childWith_0 x0 x1 x2 S) (fun o => o.2 = S ∧ True) := by
  unfold f_X1_childWith_0
  refine ok_chk r_x0 ?_
  obtain ⟨r1, h_r1, p_r1⟩ := roz (t_f_X1_at (x0 := x0) (x1 := x1) hT r_x0)
  dsimp only at p_r1
  refine ok_calR h_r1 ?_
  refine ok_chk p_r1.1 ?_
  exact t_f_X1_childWith_12  hT mFuel x0 x2 (zI S 2 r1) (0 : Int32)  r_x0 (by decide) (by show _ < ((200000 : Nat) : Int); have z0 : (0 : Int32).toInt = 0 := rfl; omega)
theorem t_f_X1_childWith {S : ZS} {x0 : Nat} {x1 : Int32} {x2 : Int32} (hT : ZT S) (r_x0 : zK S x0 = 1) : Ok (f_X1_childWith x0 x1 x2 S) (fun o => o.2 = S ∧ True) := t_f_X1_childWith_0 hT r_x0
theorem t_f_X1_goesOn_0 {S : ZS} {x0 : Nat} {x1 : Int32} (hT : ZT S) (r_x0 : zK S x0 = 1) : Ok (f_X1_goesOn_0 x0 x1 S) (fun o => o.2 = S ∧ ((0 : Int) ≤ o.1.toInt ∧ o.1.toInt ≤ (1 : Int))) := by
  unfold f_X1_goesOn_0
  refine ok_chk r_x0 ?_
  obtain ⟨r1, h_r1, p_r1⟩ := roz (t_f_X1_at (x0 := x0) (x1 := x1) hT r_x0)
  dsimp only at p_r1
  refine ok_calR h_r1 ?_
  refine ok_chk p_r1.1 ?_
  refine ok_chk r_x0 ?_
  obtain ⟨r2, h_r2, p_r2⟩ := roz (t_f_X1_at (x0 := x0) (x1 := (zI S 0 r1)) hT r_x0)
  dsimp only at p_r2
  refine ok_calR h_r2 ?_
  refine ok_chk p_r2.1 ?_
  refine ok_if (fun c153 => ?_) (fun c153 => ?_)
  ·
    replace c153 := ti_eqP (a := (zI S 2 r2)) (b := x1) c153 rfl rfl
    unfold f_X1_goesOn_24
    refine ok_chk (by decide) ?_
    exact ok_ret ⟨rfl, (show (0 : Int) ≤ (1 : Int32).toInt ∧ (1 : Int32).toInt ≤ (1 : Int) from (by decide))⟩
  ·
    replace c153 := ti_eqN (a := (zI S 2 r2)) (b := x1) c153 rfl rfl
    unfold f_X1_goesOn_24
    refine ok_chk (by decide) ?_
    exact ok_ret ⟨rfl, (show (0 : Int) ≤ (0 : Int32).toInt ∧ (0 : Int32).toInt ≤ (1 : Int) from (by decide))⟩
theorem t_f_X1_goesOn {S : ZS} {x0 : Nat} {x1 : Int32} (hT : ZT S) (r_x0 : zK S x0 = 1) : Ok (f_X1_goesOn x0 x1 S) (fun o => o.2 = S ∧ ((0 : Int) ≤ o.1.toInt ∧ o.1.toInt ≤ (1 : Int))) := t_f_X1_goesOn_0 hT r_x0
theorem t_f_X1_deepOfNext_49 {S : ZS} {self23 : Nat → Int32 → Int32 → Int32 → ZS → Option (Int32 × ZS)} {N23 : Nat} (hself23 : ∀ (x0 : Nat) (x2 : Int32) (x3 : Int32) (x4 : Int32),  (zK S x0 = 1) → ((0 : Int) ≤ x2.toInt ∧ x2.toInt ≤ (400 : Int)) → ((0 : Int) ≤ x4.toInt ∧ x4.toInt ≤ (300 : Int)) → (x2.toInt ≤ x4.toInt + 1) → (301 - x4.toInt) < (N23 : Int) → Ok (self23 x0 x2 x3 x4 S) (fun o => o.2 = S ∧ ((0 : Int) ≤ o.1.toInt ∧ o.1.toInt ≤ (400 : Int)))) {x0 : Nat} {x3 : Int32} {x4 : Int32} {t0 : Int32} {t1 : Int32} (hT : ZT S) (r_x0 : zK S x0 = 1) (r_x4 : (0 : Int) ≤ x4.toInt ∧ x4.toInt ≤ (299 : Int)) (r_t0 : (0 : Int) ≤ t0.toInt ∧ t0.toInt ≤ (1 : Int)) (r_t1 : (0 : Int) ≤ t1.toInt ∧ t1.toInt ≤ (400 : Int)) (q0 : t1.toInt ≤ x4.toInt + 1) (m23 : (301 - x4.toInt) ≤ (N23 : Int)) : Ok (f_X1_deepOfNext_49 self23 x0 x3 x4 t0 t1 S) (fun o => o.2 = S ∧ ((0 : Int) ≤ o.1.toInt ∧ o.1.toInt ≤ (400 : Int))) := by
  unfold f_X1_deepOfNext_49
  refine ok_bnd (fun v1 e154 => ?_)
  have t_v1 : v1.toInt = t1.toInt + t0.toInt := ti_add e154 rfl rfl (by omega) (by omega)
  refine ok_chk r_x0 ?_
  obtain ⟨r2, h_r2, p_r2⟩ := roz (t_f_X1_at (x0 := x0) (x1 := x3) hT r_x0)
  dsimp only at p_r2
  refine ok_calR h_r2 ?_
  refine ok_chk p_r2.1 ?_
  refine ok_bnd (fun v3 e155 => ?_)
  have t_v3 : v3.toInt = x4.toInt + 1 := ti_add e155 rfl (show (1 : Int32).toInt = 1 from rfl) (by omega) (by omega)
  exact hself23 x0 v1 (zI S 0 r2) v3  r_x0 (by omega) (by omega) (by omega) (by omega)
theorem t_f_X1_deepOfNext_23s {S : ZS} {self23 : Nat → Int32 → Int32 → Int32 → ZS → Option (Int32 × ZS)} {N23 : Nat} (hself23 : ∀ (x0 : Nat) (x2 : Int32) (x3 : Int32) (x4 : Int32),  (zK S x0 = 1) → ((0 : Int) ≤ x2.toInt ∧ x2.toInt ≤ (400 : Int)) → ((0 : Int) ≤ x4.toInt ∧ x4.toInt ≤ (300 : Int)) → (x2.toInt ≤ x4.toInt + 1) → (301 - x4.toInt) < (N23 : Int) → Ok (self23 x0 x2 x3 x4 S) (fun o => o.2 = S ∧ ((0 : Int) ≤ o.1.toInt ∧ o.1.toInt ≤ (400 : Int)))) {x0 : Nat} {x2 : Int32} {x3 : Int32} {x4 : Int32} (hT : ZT S) (r_x0 : zK S x0 = 1) (r_x2 : (0 : Int) ≤ x2.toInt ∧ x2.toInt ≤ (400 : Int)) (r_x4 : (0 : Int) ≤ x4.toInt ∧ x4.toInt ≤ (300 : Int)) (q0 : x2.toInt ≤ x4.toInt + 1) (m23 : (301 - x4.toInt) ≤ (N23 : Int)) : Ok (f_X1_deepOfNext_23s self23 x0 x2 x3 x4 S) (fun o => o.2 = S ∧ ((0 : Int) ≤ o.1.toInt ∧ o.1.toInt ≤ (400 : Int))) := by
  unfold f_X1_deepOfNext_23s
  refine ok_if (fun c156 => ?_) (fun c156 => ?_)
  ·
    replace c156 := ti_leP (a := (300 : Int32)) (b := x4) c156 (show (300 : Int32).toInt = 300 from rfl) rfl
    unfold f_X1_deepOfNext_66
    exact ok_ret ⟨rfl, (show (0 : Int) ≤ x2.toInt ∧ x2.toInt ≤ (400 : Int) from (by omega))⟩
  ·
    replace c156 := ti_leN (a := (300 : Int32)) (b := x4) c156 (show (300 : Int32).toInt = 300 from rfl) rfl
    refine ok_if (fun c157 => ?_) (fun c157 => ?_)
    ·
      replace c157 := ti_leP (a := x3) (b := (0 : Int32)) c157 rfl (show (0 : Int32).toInt = 0 from rfl)
      unfold f_X1_deepOfNext_66
      exact ok_ret ⟨rfl, (show (0 : Int) ≤ x2.toInt ∧ x2.toInt ≤ (400 : Int) from (by omega))⟩
    ·
      replace c157 := ti_leN (a := x3) (b := (0 : Int32)) c157 rfl (show (0 : Int32).toInt = 0 from rfl)
      refine ok_chk r_x0 ?_
      obtain ⟨r1, h_r1, p_r1⟩ := roz (t_f_X1_goesOn (x0 := x0) (x1 := x3) hT r_x0)
      dsimp only at p_r1
      refine ok_calR h_r1 ?_
      refine ok_if (fun c158 => ?_) (fun c158 => ?_)
      ·
        replace c158 := ti_eqP (a := r1) (b := (0 : Int32)) c158 rfl (show (0 : Int32).toInt = 0 from rfl)
        exact t_f_X1_deepOfNext_49 (S := S) hself23 (x0 := x0) (x3 := x3) (x4 := x4) (t0 := (1 : Int32)) (t1 := x2) hT r_x0 (by omega) (by decide) r_x2 q0 m23
      ·
        replace c158 := ti_eqN (a := r1) (b := (0 : Int32)) c158 rfl (show (0 : Int32).toInt = 0 from rfl)
        exact t_f_X1_deepOfNext_49 (S := S) hself23 (x0 := x0) (x3 := x3) (x4 := x4) (t0 := (0 : Int32)) (t1 := x2) hT r_x0 (by omega) (by decide) r_x2 q0 m23
theorem t_f_X1_deepOfNext_23 {S : ZS} (hT : ZT S) : ∀ (n : Nat) (x0 : Nat) (x2 : Int32) (x3 : Int32) (x4 : Int32),  (zK S x0 = 1) → ((0 : Int) ≤ x2.toInt ∧ x2.toInt ≤ (400 : Int)) → ((0 : Int) ≤ x4.toInt ∧ x4.toInt ≤ (300 : Int)) → (x2.toInt ≤ x4.toInt + 1) → (301 - x4.toInt) < (n : Int) → Ok (f_X1_deepOfNext_23  n x0 x2 x3 x4 S) (fun o => o.2 = S ∧ ((0 : Int) ≤ o.1.toInt ∧ o.1.toInt ≤ (400 : Int))) := by
  intro n
  induction n with
  | zero => intro x0 x2 x3 x4 g0 g1 g2 g3  hm; exfalso; omega
  | succ n ih =>
    intro x0 x2 x3 x4 g0 g1 g2 g3  hm
    exact t_f_X1_deepOfNext_23s (N23 := n)  ih hT g0 g1 g2 g3  (by omega)
theorem t_f_X1_deepOfNext_0 {S : ZS} {x0 : Nat} {x1 : Int32} (hT : ZT S) (r_x0 : zK S x0 = 1) : Ok (f_X1_deepOfNext_0 x0 x1 S) (fun o => o.2 = S ∧ ((0 : Int) ≤ o.1.toInt ∧ o.1.toInt ≤ (400 : Int))) := by
  unfold f_X1_deepOfNext_0
  refine ok_chk r_x0 ?_
  obtain ⟨r1, h_r1, p_r1⟩ := roz (t_f_X1_at (x0 := x0) (x1 := x1) hT r_x0)
  dsimp only at p_r1
  refine ok_calR h_r1 ?_
  refine ok_chk p_r1.1 ?_
  refine ok_if (fun c159 => ?_) (fun c159 => ?_)
  ·
    replace c159 := ti_eqP (a := (zI S 2 r1)) (b := (-1 : Int32)) c159 rfl (show (-1 : Int32).toInt = -1 from rfl)
    unfold f_X1_deepOfNext_17
    exact t_f_X1_deepOfNext_23  hT mFuel x0 (0 : Int32) x1 (0 : Int32)  r_x0 (by decide) (by decide) (by have z0 : (0 : Int32).toInt = 0 := rfl; have z1 : (0 : Int32).toInt = 0 := rfl; omega) (by show _ < ((200000 : Nat) : Int); have z0 : (0 : Int32).toInt = 0 := rfl; have z1 : (0 : Int32).toInt = 0 := rfl; omega)
  ·
    replace c159 := ti_eqN (a := (zI S 2 r1)) (b := (-1 : Int32)) c159 rfl (show (-1 : Int32).toInt = -1 from rfl)
    unfold f_X1_deepOfNext_17
    exact t_f_X1_deepOfNext_23  hT mFuel x0 (1 : Int32) x1 (0 : Int32)  r_x0 (by decide) (by decide) (by have z0 : (1 : Int32).toInt = 1 := rfl; have z1 : (0 : Int32).toInt = 0 := rfl; omega) (by show _ < ((200000 : Nat) : Int); have z0 : (1 : Int32).toInt = 1 := rfl; have z1 : (0 : Int32).toInt = 0 := rfl; omega)
theorem t_f_X1_deepOfNext {S : ZS} {x0 : Nat} {x1 : Int32} (hT : ZT S) (r_x0 : zK S x0 = 1) : Ok (f_X1_deepOfNext x0 x1 S) (fun o => o.2 = S ∧ ((0 : Int) ≤ o.1.toInt ∧ o.1.toInt ≤ (400 : Int))) := t_f_X1_deepOfNext_0 hT r_x0
theorem t_f_X1_mayLead_89 {SZ S : ZS} {self11 : Nat → Int32 → Nat → Int32 → ZS → Option (Int32 × ZS)} {N11 : Nat} (hself11 : ∀ (x0 : Nat) (x1 : Int32) (x2 : Nat) (x3 : Int32) (S : ZS), ZT S → A7 SZ S → (zK S x0 = 1) → (zK S x2 = 14) → (zN S x2 = 301) → ((1 : Int) ≤ x3.toInt ∧ x3.toInt ≤ (301 : Int)) → (302 - x3.toInt) < (N11 : Int) → Ok (self11 x0 x1 x2 x3 S) (fun o => ZT o.2 ∧ A7 SZ o.2 ∧ ((0 : Int) ≤ o.1.toInt ∧ o.1.toInt ≤ (1 : Int)))) {x0 : Nat} {x1 : Int32} {x2 : Nat} {x3 : Int32} {t0 : Int32} {t1 : Int32} {t2 : Int32} {t3 : Nat} (hT : ZT S) (hR : A7 SZ S) (r_x0 : zK S x0 = 1) (r_x2 : zK S x2 = 14) (n_x2 : zN S x2 = 301) (r_x3 : (1 : Int) ≤ x3.toInt ∧ x3.toInt ≤ (300 : Int)) (r_t0 : (0 : Int) ≤ t0.toInt ∧ t0.toInt ≤ (1 : Int)) (r_t2 : (0 : Int) ≤ t2.toInt ∧ t2.toInt ≤ (300 : Int)) (r_t3 : zK S t3 = 14) (n_t3 : zN S t3 = 301) (m11 : (302 - x3.toInt) ≤ (N11 : Int)) : Ok (f_X1_mayLead_89 self11 x0 x1 x2 x3 t0 t1 t2 t3 S) (fun o => ZT o.2 ∧ A7 SZ o.2 ∧ ((0 : Int) ≤ o.1.toInt ∧ o.1.toInt ≤ (1 : Int))) := by
  unfold f_X1_mayLead_89
  refine ok_bnd (fun v1 e160 => ?_)
  refine ok_chk r_t3 ?_
  refine ok_chk (ti_inN (v := t2) (n := 301) n_t3 (by omega) (by omega)) ?_
  refine ok_bnd (fun S2 e161 => ?_)
  have T_S2 : ZT S2 := e161.symm ▸ zt_A hT r_t3
  have kE_S2 : zK S2 = zK S := by rw [e161]; rfl
  have nE_S2 : zN S2 = zN S := by rw [e161]; rfl
  have R_S2 : A7 SZ S2 := a7_A hR e161 hT r_t3 n_t3 (by decide)
  refine ok_chk ((congrFun kE_S2 x2).trans r_x2) ?_
  refine ok_chk (ti_inN (v := x3) (n := 301) ((congrFun nE_S2 x2).trans n_x2) (by omega) (by omega)) ?_
  refine ok_bnd (fun v3 e162 => ?_)
  refine ok_if (fun c163 => ?_) (fun c163 => ?_)
  ·
    replace c163 := ti_leP (a := v3) (b := (6 : Int32)) c163 rfl (show (6 : Int32).toInt = 6 from rfl)
    refine ok_bnd (fun v4 e164 => ?_)
    have t_v4 : v4.toInt = x3.toInt + 1 := ti_add e164 rfl (show (1 : Int32).toInt = 1 from rfl) (by omega) (by omega)
    exact hself11 x0 x1 x2 v4 S2 T_S2 R_S2 ((congrFun kE_S2 x0).trans r_x0) ((congrFun kE_S2 x2).trans r_x2) ((congrFun nE_S2 x2).trans n_x2) (by omega) (by omega)
  ·
    replace c163 := ti_leN (a := v3) (b := (6 : Int32)) c163 rfl (show (6 : Int32).toInt = 6 from rfl)
    refine ok_chk (by decide) ?_
    exact ok_ret ⟨T_S2, R_S2, (show (0 : Int) ≤ (0 : Int32).toInt ∧ (0 : Int32).toInt ≤ (1 : Int) from (by decide))⟩
theorem t_f_X1_mayLead_55 {SZ S : ZS} {self11 : Nat → Int32 → Nat → Int32 → ZS → Option (Int32 × ZS)} {N11 : Nat} (hself11 : ∀ (x0 : Nat) (x1 : Int32) (x2 : Nat) (x3 : Int32) (S : ZS), ZT S → A7 SZ S → (zK S x0 = 1) → (zK S x2 = 14) → (zN S x2 = 301) → ((1 : Int) ≤ x3.toInt ∧ x3.toInt ≤ (301 : Int)) → (302 - x3.toInt) < (N11 : Int) → Ok (self11 x0 x1 x2 x3 S) (fun o => ZT o.2 ∧ A7 SZ o.2 ∧ ((0 : Int) ≤ o.1.toInt ∧ o.1.toInt ≤ (1 : Int)))) {x0 : Nat} {x1 : Int32} {x2 : Nat} {x3 : Int32} {x4 : Int32} {t0 : Int32} (hT : ZT S) (hR : A7 SZ S) (r_x0 : zK S x0 = 1) (r_x2 : zK S x2 = 14) (n_x2 : zN S x2 = 301) (r_x3 : (1 : Int) ≤ x3.toInt ∧ x3.toInt ≤ (300 : Int)) (m11 : (302 - x3.toInt) ≤ (N11 : Int)) : Ok (f_X1_mayLead_55 self11 x0 x1 x2 x3 x4 t0 S) (fun o => ZT o.2 ∧ A7 SZ o.2 ∧ ((0 : Int) ≤ o.1.toInt ∧ o.1.toInt ≤ (1 : Int))) := by
  unfold f_X1_mayLead_55
  refine ok_if (fun c165 => ?_) (fun c165 => ?_)
  ·
    replace c165 := ti_ltP (a := x4) (b := (0 : Int32)) c165 rfl (show (0 : Int32).toInt = 0 from rfl)
    unfold f_X1_mayLead_77
    unfold f_X1_mayLead_78
    refine ok_if (fun c166 => ?_) (fun c166 => ?_)
    ·
      replace c166 := ti_eqP (a := x3) (b := t0) c166 rfl rfl
      exact t_f_X1_mayLead_89 (S := S) hself11 (x0 := x0) (x1 := x1) (x2 := x2) (x3 := x3) (t0 := (0 : Int32)) (t1 := (0 : Int32)) (t2 := x3) (t3 := x2) hT hR r_x0 r_x2 n_x2 r_x3 (by decide) (by omega) r_x2 n_x2 m11
    ·
      replace c166 := ti_eqN (a := x3) (b := t0) c166 rfl rfl
      exact t_f_X1_mayLead_89 (S := S) hself11 (x0 := x0) (x1 := x1) (x2 := x2) (x3 := x3) (t0 := (1 : Int32)) (t1 := (0 : Int32)) (t2 := x3) (t3 := x2) hT hR r_x0 r_x2 n_x2 r_x3 (by decide) (by omega) r_x2 n_x2 m11
  ·
    replace c165 := ti_ltN (a := x4) (b := (0 : Int32)) c165 rfl (show (0 : Int32).toInt = 0 from rfl)
    refine ok_if (fun c167 => ?_) (fun c167 => ?_)
    ·
      replace c167 := ti_leP (a := x3) (b := x4) c167 rfl rfl
      unfold f_X1_mayLead_77
      unfold f_X1_mayLead_78
      refine ok_if (fun c168 => ?_) (fun c168 => ?_)
      ·
        replace c168 := ti_eqP (a := x3) (b := t0) c168 rfl rfl
        exact t_f_X1_mayLead_89 (S := S) hself11 (x0 := x0) (x1 := x1) (x2 := x2) (x3 := x3) (t0 := (0 : Int32)) (t1 := (0 : Int32)) (t2 := x3) (t3 := x2) hT hR r_x0 r_x2 n_x2 r_x3 (by decide) (by omega) r_x2 n_x2 m11
      ·
        replace c168 := ti_eqN (a := x3) (b := t0) c168 rfl rfl
        exact t_f_X1_mayLead_89 (S := S) hself11 (x0 := x0) (x1 := x1) (x2 := x2) (x3 := x3) (t0 := (1 : Int32)) (t1 := (0 : Int32)) (t2 := x3) (t3 := x2) hT hR r_x0 r_x2 n_x2 r_x3 (by decide) (by omega) r_x2 n_x2 m11
    ·
      replace c167 := ti_leN (a := x3) (b := x4) c167 rfl rfl
      refine ok_chk r_x2 ?_
      refine ok_chk (ti_inN (v := x4) (n := 301) n_x2 (by omega) (by omega)) ?_
      refine ok_bnd (fun v1 e169 => ?_)
      unfold f_X1_mayLead_78
      refine ok_if (fun c170 => ?_) (fun c170 => ?_)
      ·
        replace c170 := ti_eqP (a := x3) (b := t0) c170 rfl rfl
        exact t_f_X1_mayLead_89 (S := S) hself11 (x0 := x0) (x1 := x1) (x2 := x2) (x3 := x3) (t0 := (0 : Int32)) (t1 := v1) (t2 := x3) (t3 := x2) hT hR r_x0 r_x2 n_x2 r_x3 (by decide) (by omega) r_x2 n_x2 m11
      ·
        replace c170 := ti_eqN (a := x3) (b := t0) c170 rfl rfl
        exact t_f_X1_mayLead_89 (S := S) hself11 (x0 := x0) (x1 := x1) (x2 := x2) (x3 := x3) (t0 := (1 : Int32)) (t1 := v1) (t2 := x3) (t3 := x2) hT hR r_x0 r_x2 n_x2 r_x3 (by decide) (by omega) r_x2 n_x2 m11
theorem t_f_X1_mayLead_11s {SZ S : ZS} {self11 : Nat → Int32 → Nat → Int32 → ZS → Option (Int32 × ZS)} {N11 : Nat} (hself11 : ∀ (x0 : Nat) (x1 : Int32) (x2 : Nat) (x3 : Int32) (S : ZS), ZT S → A7 SZ S → (zK S x0 = 1) → (zK S x2 = 14) → (zN S x2 = 301) → ((1 : Int) ≤ x3.toInt ∧ x3.toInt ≤ (301 : Int)) → (302 - x3.toInt) < (N11 : Int) → Ok (self11 x0 x1 x2 x3 S) (fun o => ZT o.2 ∧ A7 SZ o.2 ∧ ((0 : Int) ≤ o.1.toInt ∧ o.1.toInt ≤ (1 : Int)))) {x0 : Nat} {x1 : Int32} {x2 : Nat} {x3 : Int32} (hT : ZT S) (hR : A7 SZ S) (r_x0 : zK S x0 = 1) (r_x2 : zK S x2 = 14) (n_x2 : zN S x2 = 301) (r_x3 : (1 : Int) ≤ x3.toInt ∧ x3.toInt ≤ (301 : Int)) (m11 : (302 - x3.toInt) ≤ (N11 : Int)) : Ok (f_X1_mayLead_11s self11 x0 x1 x2 x3 S) (fun o => ZT o.2 ∧ A7 SZ o.2 ∧ ((0 : Int) ≤ o.1.toInt ∧ o.1.toInt ≤ (1 : Int))) := by
  unfold f_X1_mayLead_11s
  refine ok_chk r_x0 ?_
  have j171 := J_1_3 hT r_x0
  refine ok_if (fun c172 => ?_) (fun c172 => ?_)
  ·
    replace c172 := ti_ltP (a := (zI S 3 x0)) (b := x3) c172 rfl rfl
    refine ok_chk (by decide) ?_
    exact ok_ret ⟨hT, hR, (show (0 : Int) ≤ (1 : Int32).toInt ∧ (1 : Int32).toInt ≤ (1 : Int) from (by decide))⟩
  ·
    replace c172 := ti_ltN (a := (zI S 3 x0)) (b := x3) c172 rfl rfl
    refine ok_chk r_x0 ?_
    obtain ⟨r1, h_r1, p_r1⟩ := roz (t_f_X1_at (x0 := x0) (x1 := x3) hT r_x0)
    dsimp only at p_r1
    refine ok_calR h_r1 ?_
    refine ok_chk p_r1.1 ?_
    refine ok_chk r_x0 ?_
    obtain ⟨r2, h_r2, p_r2⟩ := roz (t_f_X1_at (x0 := x0) (x1 := x1) hT r_x0)
    dsimp only at p_r2
    refine ok_calR h_r2 ?_
    refine ok_chk p_r2.1 ?_
    refine ok_if (fun c173 => ?_) (fun c173 => ?_)
    ·
      replace c173 := ti_eqP (a := (zI S 0 r1)) (b := (zI S 0 r2)) c173 rfl rfl
      exact t_f_X1_mayLead_55 (S := S) hself11 (x0 := x0) (x1 := x1) (x2 := x2) (x3 := x3) (x4 := (zI S 0 r1)) (t0 := x1) hT hR r_x0 r_x2 n_x2 (by omega) m11
    ·
      replace c173 := ti_eqN (a := (zI S 0 r1)) (b := (zI S 0 r2)) c173 rfl rfl
      refine ok_chk r_x0 ?_
      obtain ⟨r3, h_r3, p_r3⟩ := roz (t_f_X1_at (x0 := x0) (x1 := (zI S 0 r1)) hT r_x0)
      dsimp only at p_r3
      refine ok_calR h_r3 ?_
      refine ok_chk p_r3.1 ?_
      exact t_f_X1_mayLead_55 (S := S) hself11 (x0 := x0) (x1 := x1) (x2 := x2) (x3 := x3) (x4 := (zI S 0 r1)) (t0 := (zI S 2 r3)) hT hR r_x0 r_x2 n_x2 (by omega) m11
theorem t_f_X1_mayLead_11 {SZ : ZS} : ∀ (n : Nat) (x0 : Nat) (x1 : Int32) (x2 : Nat) (x3 : Int32) (S : ZS), ZT S → A7 SZ S → (zK S x0 = 1) → (zK S x2 = 14) → (zN S x2 = 301) → ((1 : Int) ≤ x3.toInt ∧ x3.toInt ≤ (301 : Int)) → (302 - x3.toInt) < (n : Int) → Ok (f_X1_mayLead_11  n x0 x1 x2 x3 S) (fun o => ZT o.2 ∧ A7 SZ o.2 ∧ ((0 : Int) ≤ o.1.toInt ∧ o.1.toInt ≤ (1 : Int))) := by
  intro n
  induction n with
  | zero => intro x0 x1 x2 x3 S hT hR g0 g1 g2 g3  hm; exfalso; omega
  | succ n ih =>
    intro x0 x1 x2 x3 S hT hR g0 g1 g2 g3  hm
    exact t_f_X1_mayLead_11s (N11 := n)  ih hT hR g0 g1 g2 g3  (by omega)
theorem t_f_X1_mayLead_0 {SZ S : ZS} {x0 : Nat} {x1 : Int32} (hT : ZT S) (hR : A7 SZ S) (r_x0 : zK S x0 = 1) : Ok (f_X1_mayLead_0 x0 x1 S) (fun o => ZT o.2 ∧ A7 SZ o.2 ∧ ((0 : Int) ≤ o.1.toInt ∧ o.1.toInt ≤ (1 : Int))) := by
  unfold f_X1_mayLead_0
  refine ok_chk r_x0 ?_
  obtain ⟨b1, p_b1, k_b1, n_b1⟩ := T_1_7 hT r_x0
  refine ok_calR p_b1 ?_
  refine ok_chk k_b1 ?_
  refine ok_chk (ti_inN (n := 301) n_b1 (by decide) (by decide)) ?_
  refine ok_bnd (fun S2 e174 => ?_)
  have T_S2 : ZT S2 := e174.symm ▸ zt_A hT k_b1
  have kE_S2 : zK S2 = zK S := by rw [e174]; rfl
  have nE_S2 : zN S2 = zN S := by rw [e174]; rfl
  have R_S2 : A7 SZ S2 := a7_A hR e174 hT k_b1 n_b1 (by decide)
  exact t_f_X1_mayLead_11   mFuel x0 x1 b1 (1 : Int32) S2 T_S2 R_S2 ((congrFun kE_S2 x0).trans r_x0) ((congrFun kE_S2 b1).trans k_b1) ((congrFun nE_S2 b1).trans n_b1) (by decide) (by show _ < ((200000 : Nat) : Int); have z0 : (1 : Int32).toInt = 1 := rfl; omega)
theorem t_f_X1_mayLead {SZ S : ZS} {x0 : Nat} {x1 : Int32} (hT : ZT S) (hR : A7 SZ S) (r_x0 : zK S x0 = 1) : Ok (f_X1_mayLead x0 x1 S) (fun o => ZT o.2 ∧ A7 SZ o.2 ∧ ((0 : Int) ≤ o.1.toInt ∧ o.1.toInt ≤ (1 : Int))) := t_f_X1_mayLead_0 hT hR r_x0
theorem t_f_X1_putFirst_56 {SZ S : ZS} {x0 : Nat} {x1 : Int32} {x2 : Nat} {x3 : Int32} (hT : ZT S) (hR : A7 SZ S) (r_x0 : zK S x0 = 1) (r_x2 : zK S x2 = 4) : Ok (f_X1_putFirst_56 x0 x1 x2 x3 S) (fun o => ZT o.2 ∧ A7 SZ o.2 ∧ True) := by
  unfold f_X1_putFirst_56
  refine ok_chk r_x0 ?_
  obtain ⟨r1, h_r1, p_r1⟩ := roz (t_f_X1_at (x0 := x0) (x1 := x3) hT r_x0)
  dsimp only at p_r1
  refine ok_calR h_r1 ?_
  refine ok_chk r_x0 ?_
  obtain ⟨r2, h_r2, p_r2⟩ := roz (t_f_X1_at (x0 := x0) (x1 := x1) hT r_x0)
  dsimp only at p_r2
  refine ok_calR h_r2 ?_
  refine ok_chk p_r2.1 ?_
  refine ok_chk p_r1.1 ?_
  refine ok_bnd (fun S3 e175 => ?_)
  have T_S3 : ZT S3 := e175.symm ▸ zt_W hT p_r1.1 (by decide) rfl
  have kE_S3 : zK S3 = zK S := by rw [e175]; rfl
  have nE_S3 : zN S3 = zN S := by rw [e175]; rfl
  have R_S3 : A7 SZ S3 := a7_I hR e175 p_r1.1 (by decide)
  refine ok_chk ((congrFun kE_S3 x0).trans r_x0) ?_
  obtain ⟨r4, h_r4, p_r4⟩ := roz (t_f_X1_at (x0 := x0) (x1 := x1) T_S3 ((congrFun kE_S3 x0).trans r_x0))
  dsimp only at p_r4
  refine ok_calR h_r4 ?_
  refine ok_chk ((congrFun kE_S3 x2).trans r_x2) ?_
  refine ok_chk p_r4.1 ?_
  refine ok_bnd (fun S5 e176 => ?_)
  have T_S5 : ZT S5 := e176.symm ▸ zt_W T_S3 p_r4.1 (by decide) rfl
  have kE_S5 : zK S5 = zK S3 := by rw [e176]; rfl
  have nE_S5 : zN S5 = zN S3 := by rw [e176]; rfl
  have R_S5 : A7 SZ S5 := a7_I R_S3 e176 p_r4.1 (by decide)
  refine ok_chk ((congrFun kE_S5 x2).trans ((congrFun kE_S3 x2).trans r_x2)) ?_
  refine ok_bnd (fun S6 e177 => ?_)
  have T_S6 : ZT S6 := e177.symm ▸ zt_W T_S5 ((congrFun kE_S5 x2).trans ((congrFun kE_S3 x2).trans r_x2)) (by decide) rfl
  have kE_S6 : zK S6 = zK S5 := by rw [e177]; rfl
  have nE_S6 : zN S6 = zN S5 := by rw [e177]; rfl
  have R_S6 : A7 SZ S6 := a7_I R_S5 e177 ((congrFun kE_S5 x2).trans ((congrFun kE_S3 x2).trans r_x2)) (by decide)
  exact ok_ret ⟨T_S6, R_S6, trivial⟩
theorem t_f_X1_putFirst_21s {SZ S : ZS} {self21 : Nat → Int32 → Nat → Int32 → Int32 → ZS → Option (Int32 × ZS)} {N21 : Nat} (hself21 : ∀ (x0 : Nat) (x1 : Int32) (x2 : Nat) (x3 : Int32) (x4 : Int32) (S : ZS), ZT S → A7 SZ S → (zK S x0 = 1) → (zK S x2 = 4) → ((0 : Int) ≤ x4.toInt ∧ x4.toInt ≤ (300 : Int)) → (301 - x4.toInt) < (N21 : Int) → Ok (self21 x0 x1 x2 x3 x4 S) (fun o => ZT o.2 ∧ A7 SZ o.2 ∧ True)) {x0 : Nat} {x1 : Int32} {x2 : Nat} {x3 : Int32} {x4 : Int32} (hT : ZT S) (hR : A7 SZ S) (r_x0 : zK S x0 = 1) (r_x2 : zK S x2 = 4) (r_x4 : (0 : Int) ≤ x4.toInt ∧ x4.toInt ≤ (300 : Int)) (m21 : (301 - x4.toInt) ≤ (N21 : Int)) : Ok (f_X1_putFirst_21s self21 x0 x1 x2 x3 x4 S) (fun o => ZT o.2 ∧ A7 SZ o.2 ∧ True) := by
  unfold f_X1_putFirst_21s
  refine ok_if (fun c178 => ?_) (fun c178 => ?_)
  ·
    replace c178 := ti_leP (a := (300 : Int32)) (b := x4) c178 (show (300 : Int32).toInt = 300 from rfl) rfl
    exact t_f_X1_putFirst_56 (S := S)  (x0 := x0) (x1 := x1) (x2 := x2) (x3 := x3) hT hR r_x0 r_x2
  ·
    replace c178 := ti_leN (a := (300 : Int32)) (b := x4) c178 (show (300 : Int32).toInt = 300 from rfl) rfl
    refine ok_chk r_x0 ?_
    obtain ⟨r1, h_r1, p_r1⟩ := roz (t_f_X1_at (x0 := x0) (x1 := x3) hT r_x0)
    dsimp only at p_r1
    refine ok_calR h_r1 ?_
    refine ok_chk p_r1.1 ?_
    refine ok_if (fun c179 => ?_) (fun c179 => ?_)
    ·
      replace c179 := ti_eqP (a := (zI S 3 r1)) (b := x1) c179 rfl rfl
      exact t_f_X1_putFirst_56 (S := S)  (x0 := x0) (x1 := x1) (x2 := x2) (x3 := x3) hT hR r_x0 r_x2
    ·
      replace c179 := ti_eqN (a := (zI S 3 r1)) (b := x1) c179 rfl rfl
      refine ok_chk r_x0 ?_
      obtain ⟨r2, h_r2, p_r2⟩ := roz (t_f_X1_at (x0 := x0) (x1 := x3) hT r_x0)
      dsimp only at p_r2
      refine ok_calR h_r2 ?_
      refine ok_chk p_r2.1 ?_
      refine ok_bnd (fun v3 e180 => ?_)
      have t_v3 : v3.toInt = x4.toInt + 1 := ti_add e180 rfl (show (1 : Int32).toInt = 1 from rfl) (by omega) (by omega)
      exact hself21 x0 x1 x2 (zI S 3 r2) v3 S hT hR r_x0 r_x2 (by omega) (by omega)
theorem t_f_X1_putFirst_21 {SZ : ZS} : ∀ (n : Nat) (x0 : Nat) (x1 : Int32) (x2 : Nat) (x3 : Int32) (x4 : Int32) (S : ZS), ZT S → A7 SZ S → (zK S x0 = 1) → (zK S x2 = 4) → ((0 : Int) ≤ x4.toInt ∧ x4.toInt ≤ (300 : Int)) → (301 - x4.toInt) < (n : Int) → Ok (f_X1_putFirst_21  n x0 x1 x2 x3 x4 S) (fun o => ZT o.2 ∧ A7 SZ o.2 ∧ True) := by
  intro n
  induction n with
  | zero => intro x0 x1 x2 x3 x4 S hT hR g0 g1 g2  hm; exfalso; omega
  | succ n ih =>
    intro x0 x1 x2 x3 x4 S hT hR g0 g1 g2  hm
    exact t_f_X1_putFirst_21s (N21 := n)  ih hT hR g0 g1 g2  (by omega)
theorem t_f_X1_putFirst_0 {SZ S : ZS} {x0 : Nat} {x1 : Int32} (hT : ZT S) (hR : A7 SZ S) (r_x0 : zK S x0 = 1) : Ok (f_X1_putFirst_0 x0 x1 S) (fun o => ZT o.2 ∧ A7 SZ o.2 ∧ True) := by
  unfold f_X1_putFirst_0
  refine ok_chk r_x0 ?_
  obtain ⟨r1, h_r1, p_r1⟩ := roz (t_f_X1_at (x0 := x0) (x1 := x1) hT r_x0)
  dsimp only at p_r1
  refine ok_calR h_r1 ?_
  refine ok_chk p_r1.1 ?_
  refine ok_chk r_x0 ?_
  obtain ⟨r2, h_r2, p_r2⟩ := roz (t_f_X1_at (x0 := x0) (x1 := (zI S 0 r1)) hT r_x0)
  dsimp only at p_r2
  refine ok_calR h_r2 ?_
  refine ok_chk p_r2.1 ?_
  exact t_f_X1_putFirst_21   mFuel x0 x1 r2 (zI S 2 r2) (0 : Int32) S hT hR r_x0 p_r2.1 (by decide) (by show _ < ((200000 : Nat) : Int); have z0 : (0 : Int32).toInt = 0 := rfl; omega)
theorem t_f_X1_putFirst {SZ S : ZS} {x0 : Nat} {x1 : Int32} (hT : ZT S) (hR : A7 SZ S) (r_x0 : zK S x0 = 1) : Ok (f_X1_putFirst x0 x1 S) (fun o => ZT o.2 ∧ A7 SZ o.2 ∧ True) := t_f_X1_putFirst_0 hT hR r_x0
theorem t_f_X1_standAt_68s {SZ S : ZS} {self68 : Nat → Nat → Int32 → ZS → Option (Int32 × ZS)} {N68 : Nat} (hself68 : ∀ (x2 : Nat) (x3 : Nat) (x5 : Int32) (S : ZS), ZT S → A7 SZ S → (zK S x2 = 0) → (zK S x3 = 14) → (zN S x3 = 301) → ((-1 : Int) ≤ x5.toInt ∧ x5.toInt ≤ (299 : Int)) → (x5.toInt + 2) < (N68 : Int) → Ok (self68 x2 x3 x5 S) (fun o => ZT o.2 ∧ A7 SZ o.2 ∧ True)) {x2 : Nat} {x3 : Nat} {x5 : Int32} (hT : ZT S) (hR : A7 SZ S) (r_x2 : zK S x2 = 0) (r_x3 : zK S x3 = 14) (n_x3 : zN S x3 = 301) (r_x5 : (-1 : Int) ≤ x5.toInt ∧ x5.toInt ≤ (299 : Int)) (m68 : (x5.toInt + 2) ≤ (N68 : Int)) : Ok (f_X1_standAt_68s self68 x2 x3 x5 S) (fun o => ZT o.2 ∧ A7 SZ o.2 ∧ True) := by
  unfold f_X1_standAt_68s
  refine ok_if (fun c181 => ?_) (fun c181 => ?_)
  ·
    replace c181 := ti_ltP (a := x5) (b := (0 : Int32)) c181 rfl (show (0 : Int32).toInt = 0 from rfl)
    exact ok_ret ⟨hT, hR, trivial⟩
  ·
    replace c181 := ti_ltN (a := x5) (b := (0 : Int32)) c181 rfl (show (0 : Int32).toInt = 0 from rfl)
    refine ok_chk r_x3 ?_
    refine ok_chk (ti_inN (v := x5) (n := 301) n_x3 (by omega) (by omega)) ?_
    refine ok_bnd (fun v1 e182 => ?_)
    refine ok_chk r_x2 ?_
    obtain ⟨⟨r2, S2⟩, h_r2, T_S2, A_S2, -⟩ := t_f_X0_play (x0 := x2) (x1 := v1) (SZ := S) hT (a7_0 S) r_x2
    replace T_S2 : ZT S2 := T_S2
    replace A_S2 : A7 S S2 := A_S2
    refine ok_calR h_r2 ?_
    have q_S2 := fq_X0_play h_r2
    have kE_S2 : zK S2 = zK S := q_S2.2.2.1
    have nE_S2 : zN S2 = zN S := q_S2.2.2.2.1
    have R_S2 : A7 SZ S2 := a7_t hR A_S2
    refine ok_bnd (fun v3 e183 => ?_)
    have t_v3 : v3.toInt = x5.toInt + (-1) := ti_add e183 rfl (show (-1 : Int32).toInt = -1 from rfl) (by omega) (by omega)
    exact hself68 x2 x3 v3 S2 T_S2 R_S2 ((congrFun kE_S2 x2).trans r_x2) ((congrFun kE_S2 x3).trans r_x3) ((congrFun nE_S2 x3).trans n_x3) (by omega) (by omega)
theorem t_f_X1_standAt_68 {SZ : ZS} : ∀ (n : Nat) (x2 : Nat) (x3 : Nat) (x5 : Int32) (S : ZS), ZT S → A7 SZ S → (zK S x2 = 0) → (zK S x3 = 14) → (zN S x3 = 301) → ((-1 : Int) ≤ x5.toInt ∧ x5.toInt ≤ (299 : Int)) → (x5.toInt + 2) < (n : Int) → Ok (f_X1_standAt_68  n x2 x3 x5 S) (fun o => ZT o.2 ∧ A7 SZ o.2 ∧ True) := by
  intro n
  induction n with
  | zero => intro x2 x3 x5 S hT hR g0 g1 g2 g3  hm; exfalso; omega
  | succ n ih =>
    intro x2 x3 x5 S hT hR g0 g1 g2 g3  hm
    exact t_f_X1_standAt_68s (N68 := n)  ih hT hR g0 g1 g2 g3  (by omega)
theorem t_f_X1_standAt_54 {SZ S : ZS} {x0 : Nat} {x2 : Nat} {x3 : Nat} {x4 : Int32} (hT : ZT S) (hR : A7 SZ S) (r_x0 : zK S x0 = 1) (r_x2 : zK S x2 = 0) (r_x3 : zK S x3 = 14) (n_x3 : zN S x3 = 301) (r_x4 : (0 : Int) ≤ x4.toInt ∧ x4.toInt ≤ (300 : Int)) : Ok (f_X1_standAt_54 x0 x2 x3 x4 S) (fun o => ZT o.2 ∧ A7 SZ o.2 ∧ True) := by
  unfold f_X1_standAt_54
  refine ok_chk r_x0 ?_
  obtain ⟨b1, p_b1, k_b1⟩ := T_1_0 hT r_x0
  refine ok_calR p_b1 ?_
  refine ok_chk r_x2 ?_
  obtain ⟨⟨r2, S2⟩, h_r2, T_S2, A_S2, -⟩ := t_f_X0_copyFrom (x0 := x2) (x1 := b1) (SZ := S) hT (a7_0 S) r_x2 k_b1
  replace T_S2 : ZT S2 := T_S2
  replace A_S2 : A7 S S2 := A_S2
  refine ok_calR h_r2 ?_
  have q_S2 := fq_X0_copyFrom h_r2
  have kE_S2 : zK S2 = zK S := q_S2.2.2.1
  have nE_S2 : zN S2 = zN S := q_S2.2.2.2.1
  have R_S2 : A7 SZ S2 := a7_t hR A_S2
  refine ok_bnd (fun v3 e184 => ?_)
  have t_v3 : v3.toInt = x4.toInt - 1 := ti_sub e184 rfl (show (1 : Int32).toInt = 1 from rfl) (by omega) (by omega)
  exact t_f_X1_standAt_68   mFuel x2 x3 v3 S2 T_S2 R_S2 ((congrFun kE_S2 x2).trans r_x2) ((congrFun kE_S2 x3).trans r_x3) ((congrFun nE_S2 x3).trans n_x3) (by omega) (by show _ < ((200000 : Nat) : Int); omega)
theorem t_f_X1_standAt_11s {SZ S : ZS} {self11 : Nat → Nat → Nat → Int32 → Int32 → ZS → Option (Int32 × ZS)} {N11 : Nat} (hself11 : ∀ (x0 : Nat) (x2 : Nat) (x3 : Nat) (x4 : Int32) (x5 : Int32) (S : ZS), ZT S → A7 SZ S → (zK S x0 = 1) → (zK S x2 = 0) → (zK S x3 = 14) → (zN S x3 = 301) → ((0 : Int) ≤ x4.toInt ∧ x4.toInt ≤ (300 : Int)) → (301 - x4.toInt) < (N11 : Int) → Ok (self11 x0 x2 x3 x4 x5 S) (fun o => ZT o.2 ∧ A7 SZ o.2 ∧ True)) {x0 : Nat} {x2 : Nat} {x3 : Nat} {x4 : Int32} {x5 : Int32} (hT : ZT S) (hR : A7 SZ S) (r_x0 : zK S x0 = 1) (r_x2 : zK S x2 = 0) (r_x3 : zK S x3 = 14) (n_x3 : zN S x3 = 301) (r_x4 : (0 : Int) ≤ x4.toInt ∧ x4.toInt ≤ (300 : Int)) (m11 : (301 - x4.toInt) ≤ (N11 : Int)) : Ok (f_X1_standAt_11s self11 x0 x2 x3 x4 x5 S) (fun o => ZT o.2 ∧ A7 SZ o.2 ∧ True) := by
  unfold f_X1_standAt_11s
  refine ok_if (fun c185 => ?_) (fun c185 => ?_)
  ·
    replace c185 := ti_leP (a := x5) (b := (0 : Int32)) c185 rfl (show (0 : Int32).toInt = 0 from rfl)
    exact t_f_X1_standAt_54 (S := S)  (x0 := x0) (x2 := x2) (x3 := x3) (x4 := x4) hT hR r_x0 r_x2 r_x3 n_x3 r_x4
  ·
    replace c185 := ti_leN (a := x5) (b := (0 : Int32)) c185 rfl (show (0 : Int32).toInt = 0 from rfl)
    refine ok_if (fun c186 => ?_) (fun c186 => ?_)
    ·
      replace c186 := ti_leP (a := (300 : Int32)) (b := x4) c186 (show (300 : Int32).toInt = 300 from rfl) rfl
      exact t_f_X1_standAt_54 (S := S)  (x0 := x0) (x2 := x2) (x3 := x3) (x4 := x4) hT hR r_x0 r_x2 r_x3 n_x3 r_x4
    ·
      replace c186 := ti_leN (a := (300 : Int32)) (b := x4) c186 (show (300 : Int32).toInt = 300 from rfl) rfl
      refine ok_chk r_x0 ?_
      obtain ⟨r1, h_r1, p_r1⟩ := roz (t_f_X1_at (x0 := x0) (x1 := x5) hT r_x0)
      dsimp only at p_r1
      refine ok_calR h_r1 ?_
      refine ok_chk p_r1.1 ?_
      refine ok_chk r_x3 ?_
      refine ok_chk (ti_inN (v := x4) (n := 301) n_x3 (by omega) (by omega)) ?_
      refine ok_bnd (fun S2 e187 => ?_)
      have T_S2 : ZT S2 := e187.symm ▸ zt_A hT r_x3
      have kE_S2 : zK S2 = zK S := by rw [e187]; rfl
      have nE_S2 : zN S2 = zN S := by rw [e187]; rfl
      have R_S2 : A7 SZ S2 := a7_A hR e187 hT r_x3 n_x3 (by decide)
      refine ok_bnd (fun v3 e188 => ?_)
      have t_v3 : v3.toInt = x4.toInt + 1 := ti_add e188 rfl (show (1 : Int32).toInt = 1 from rfl) (by omega) (by omega)
      refine ok_chk ((congrFun kE_S2 x0).trans r_x0) ?_
      obtain ⟨r4, h_r4, p_r4⟩ := roz (t_f_X1_at (x0 := x0) (x1 := x5) T_S2 ((congrFun kE_S2 x0).trans r_x0))
      dsimp only at p_r4
      refine ok_calR h_r4 ?_
      refine ok_chk p_r4.1 ?_
      exact hself11 x0 x2 x3 v3 (zI S2 0 r4) S2 T_S2 R_S2 ((congrFun kE_S2 x0).trans r_x0) ((congrFun kE_S2 x2).trans r_x2) ((congrFun kE_S2 x3).trans r_x3) ((congrFun nE_S2 x3).trans n_x3) (by omega) (by omega)
theorem t_f_X1_standAt_11 {SZ : ZS} : ∀ (n : Nat) (x0 : Nat) (x2 : Nat) (x3 : Nat) (x4 : Int32) (x5 : Int32) (S : ZS), ZT S → A7 SZ S → (zK S x0 = 1) → (zK S x2 = 0) → (zK S x3 = 14) → (zN S x3 = 301) → ((0 : Int) ≤ x4.toInt ∧ x4.toInt ≤ (300 : Int)) → (301 - x4.toInt) < (n : Int) → Ok (f_X1_standAt_11  n x0 x2 x3 x4 x5 S) (fun o => ZT o.2 ∧ A7 SZ o.2 ∧ True) := by
  intro n
  induction n with
  | zero => intro x0 x2 x3 x4 x5 S hT hR g0 g1 g2 g3 g4  hm; exfalso; omega
  | succ n ih =>
    intro x0 x2 x3 x4 x5 S hT hR g0 g1 g2 g3 g4  hm
    exact t_f_X1_standAt_11s (N11 := n)  ih hT hR g0 g1 g2 g3 g4  (by omega)
theorem t_f_X1_standAt_0 {SZ S : ZS} {x0 : Nat} {x1 : Int32} {x2 : Nat} (hT : ZT S) (hR : A7 SZ S) (r_x0 : zK S x0 = 1) (r_x2 : zK S x2 = 0) : Ok (f_X1_standAt_0 x0 x1 x2 S) (fun o => ZT o.2 ∧ A7 SZ o.2 ∧ True) := by
  unfold f_X1_standAt_0
  refine ok_chk r_x0 ?_
  obtain ⟨b1, p_b1, k_b1, n_b1⟩ := T_1_7 hT r_x0
  refine ok_calR p_b1 ?_
  exact t_f_X1_standAt_11   mFuel x0 x2 b1 (0 : Int32) x1 S hT hR r_x0 r_x2 k_b1 n_b1 (by decide) (by show _ < ((200000 : Nat) : Int); have z0 : (0 : Int32).toInt = 0 := rfl; omega)
theorem t_f_X1_standAt {SZ S : ZS} {x0 : Nat} {x1 : Int32} {x2 : Nat} (hT : ZT S) (hR : A7 SZ S) (r_x0 : zK S x0 = 1) (r_x2 : zK S x2 = 0) : Ok (f_X1_standAt x0 x1 x2 S) (fun o => ZT o.2 ∧ A7 SZ o.2 ∧ True) := t_f_X1_standAt_0 hT hR r_x0 r_x2
theorem t_f_X4_become_0 {SZ S : ZS} {x0 : Nat} {x1 : Int32} {x2 : Int32} (hT : ZT S) (hR : A7 SZ S) (r_x0 : zK S x0 = 4) : Ok (f_X4_become_0 x0 x1 x2 S) (fun o => ZT o.2 ∧ A7 SZ o.2 ∧ True) := by
  unfold f_X4_become_0
  refine ok_chk r_x0 ?_
  refine ok_bnd (fun S1 e189 => ?_)
  have T_S1 : ZT S1 := e189.symm ▸ zt_W hT r_x0 (by decide) rfl
  have kE_S1 : zK S1 = zK S := by rw [e189]; rfl
  have nE_S1 : zN S1 = zN S := by rw [e189]; rfl
  have R_S1 : A7 SZ S1 := a7_I hR e189 r_x0 (by decide)
  refine ok_chk ((congrFun kE_S1 x0).trans r_x0) ?_
  refine ok_bnd (fun S2 e190 => ?_)
  have T_S2 : ZT S2 := e190.symm ▸ zt_W T_S1 ((congrFun kE_S1 x0).trans r_x0) (by decide) rfl
  have kE_S2 : zK S2 = zK S1 := by rw [e190]; rfl
  have nE_S2 : zN S2 = zN S1 := by rw [e190]; rfl
  have R_S2 : A7 SZ S2 := a7_I R_S1 e190 ((congrFun kE_S1 x0).trans r_x0) (by decide)
  refine ok_chk ((congrFun kE_S2 x0).trans ((congrFun kE_S1 x0).trans r_x0)) ?_
  refine ok_bnd (fun S3 e191 => ?_)
  have T_S3 : ZT S3 := e191.symm ▸ zt_W T_S2 ((congrFun kE_S2 x0).trans ((congrFun kE_S1 x0).trans r_x0)) (by decide) rfl
  have kE_S3 : zK S3 = zK S2 := by rw [e191]; rfl
  have nE_S3 : zN S3 = zN S2 := by rw [e191]; rfl
  have R_S3 : A7 SZ S3 := a7_I R_S2 e191 ((congrFun kE_S2 x0).trans ((congrFun kE_S1 x0).trans r_x0)) (by decide)
  refine ok_chk ((congrFun kE_S3 x0).trans ((congrFun kE_S2 x0).trans ((congrFun kE_S1 x0).trans r_x0))) ?_
  refine ok_bnd (fun S4 e192 => ?_)
  have T_S4 : ZT S4 := e192.symm ▸ zt_W T_S3 ((congrFun kE_S3 x0).trans ((congrFun kE_S2 x0).trans ((congrFun kE_S1 x0).trans r_x0))) (by decide) rfl
  have kE_S4 : zK S4 = zK S3 := by rw [e192]; rfl
  have nE_S4 : zN S4 = zN S3 := by rw [e192]; rfl
  have R_S4 : A7 SZ S4 := a7_I R_S3 e192 ((congrFun kE_S3 x0).trans ((congrFun kE_S2 x0).trans ((congrFun kE_S1 x0).trans r_x0))) (by decide)
  refine ok_chk ((congrFun kE_S4 x0).trans ((congrFun kE_S3 x0).trans ((congrFun kE_S2 x0).trans ((congrFun kE_S1 x0).trans r_x0)))) ?_
  refine ok_bnd (fun S5 e193 => ?_)
  have T_S5 : ZT S5 := e193.symm ▸ zt_I T_S4 ((congrFun kE_S4 x0).trans ((congrFun kE_S3 x0).trans ((congrFun kE_S2 x0).trans ((congrFun kE_S1 x0).trans r_x0)))) (by decide) (show (0 : Int) ≤ (0 : Int32).toInt ∧ (0 : Int32).toInt ≤ (4 : Int) from (by decide))
  have kE_S5 : zK S5 = zK S4 := by rw [e193]; rfl
  have nE_S5 : zN S5 = zN S4 := by rw [e193]; rfl
  have R_S5 : A7 SZ S5 := a7_I R_S4 e193 ((congrFun kE_S4 x0).trans ((congrFun kE_S3 x0).trans ((congrFun kE_S2 x0).trans ((congrFun kE_S1 x0).trans r_x0)))) (by decide)
  refine ok_chk ((congrFun kE_S5 x0).trans ((congrFun kE_S4 x0).trans ((congrFun kE_S3 x0).trans ((congrFun kE_S2 x0).trans ((congrFun kE_S1 x0).trans r_x0))))) ?_
  refine ok_bnd (fun S6 e194 => ?_)
  have T_S6 : ZT S6 := e194.symm ▸ zt_W T_S5 ((congrFun kE_S5 x0).trans ((congrFun kE_S4 x0).trans ((congrFun kE_S3 x0).trans ((congrFun kE_S2 x0).trans ((congrFun kE_S1 x0).trans r_x0))))) (by decide) rfl
  have kE_S6 : zK S6 = zK S5 := by rw [e194]; rfl
  have nE_S6 : zN S6 = zN S5 := by rw [e194]; rfl
  have R_S6 : A7 SZ S6 := a7_I R_S5 e194 ((congrFun kE_S5 x0).trans ((congrFun kE_S4 x0).trans ((congrFun kE_S3 x0).trans ((congrFun kE_S2 x0).trans ((congrFun kE_S1 x0).trans r_x0))))) (by decide)
  refine ok_chk ((congrFun kE_S6 x0).trans ((congrFun kE_S5 x0).trans ((congrFun kE_S4 x0).trans ((congrFun kE_S3 x0).trans ((congrFun kE_S2 x0).trans ((congrFun kE_S1 x0).trans r_x0)))))) ?_
  obtain ⟨b7, p_b7, k_b7, c_b7⟩ := T_4_6 T_S6 ((congrFun kE_S6 x0).trans ((congrFun kE_S5 x0).trans ((congrFun kE_S4 x0).trans ((congrFun kE_S3 x0).trans ((congrFun kE_S2 x0).trans ((congrFun kE_S1 x0).trans r_x0))))))
  refine ok_calR p_b7 ?_
  refine ok_chk k_b7 ?_
  have j195 := J61_0 T_S6 k_b7 c_b7
  obtain ⟨⟨r8, S8⟩, h_r8, T_S8, A_S8, -⟩ := t_f_X6_keep (x0 := b7) (x1 := (0 : Int32)) (SZ := S6) T_S6 (a7_0 S6) k_b7 (by have z0 : (0 : Int32).toInt = 0 := rfl; omega)
  replace T_S8 : ZT S8 := T_S8
  replace A_S8 : A7 S6 S8 := A_S8
  refine ok_calR h_r8 ?_
  have q_S8 := fq_X6_keep h_r8
  have kE_S8 : zK S8 = zK S6 := q_S8.2.2.1
  have nE_S8 : zN S8 = zN S6 := q_S8.2.2.2.1
  have R_S8 : A7 SZ S8 := a7_t R_S6 A_S8
  exact ok_ret ⟨T_S8, R_S8, trivial⟩
theorem t_f_X4_become {SZ S : ZS} {x0 : Nat} {x1 : Int32} {x2 : Int32} (hT : ZT S) (hR : A7 SZ S) (r_x0 : zK S x0 = 4) : Ok (f_X4_become x0 x1 x2 S) (fun o => ZT o.2 ∧ A7 SZ o.2 ∧ True) := t_f_X4_become_0 hT hR r_x0
theorem t_f_X1_wipe_0 {SZ S : ZS} {x0 : Nat} (hT : ZT S) (hR : A7 SZ S) (r_x0 : zK S x0 = 1) : Ok (f_X1_wipe_0 x0 S) (fun o => ZT o.2 ∧ A7 SZ o.2 ∧ True) := by
  unfold f_X1_wipe_0
  refine ok_chk r_x0 ?_
  obtain ⟨b1, p_b1, k_b1⟩ := T_1_0 hT r_x0
  refine ok_calR p_b1 ?_
  refine ok_chk k_b1 ?_
  obtain ⟨⟨r2, S2⟩, h_r2, T_S2, A_S2, -⟩ := t_f_X0_setUp (x0 := b1) (SZ := S) hT (a7_0 S) k_b1
  replace T_S2 : ZT S2 := T_S2
  replace A_S2 : A7 S S2 := A_S2
  refine ok_calR h_r2 ?_
  have q_S2 := fq_X0_setUp h_r2
  have kE_S2 : zK S2 = zK S := q_S2.2.2.1
  have nE_S2 : zN S2 = zN S := q_S2.2.2.2.1
  have R_S2 : A7 SZ S2 := a7_t hR A_S2
  refine ok_chk ((congrFun kE_S2 x0).trans r_x0) ?_
  obtain ⟨b3, p_b3, k_b3⟩ := T_1_1 T_S2 ((congrFun kE_S2 x0).trans r_x0)
  refine ok_calR p_b3 ?_
  refine ok_chk k_b3 ?_
  obtain ⟨⟨r4, S4⟩, h_r4, T_S4, A_S4, -⟩ := t_f_X4_become (x0 := b3) (x1 := (-1 : Int32)) (x2 := (-1 : Int32)) (SZ := S2) T_S2 (a7_0 S2) k_b3
  replace T_S4 : ZT S4 := T_S4
  replace A_S4 : A7 S2 S4 := A_S4
  refine ok_calR h_r4 ?_
  have q_S4 := fq_X4_become h_r4
  have kE_S4 : zK S4 = zK S2 := q_S4.2.2.1
  have nE_S4 : zN S4 = zN S2 := q_S4.2.2.2.1
  have R_S4 : A7 SZ S4 := a7_t R_S2 A_S4
  refine ok_chk ((congrFun kE_S4 x0).trans ((congrFun kE_S2 x0).trans r_x0)) ?_
  refine ok_bnd (fun S5 e196 => ?_)
  have T_S5 : ZT S5 := e196.symm ▸ zt_I T_S4 ((congrFun kE_S4 x0).trans ((congrFun kE_S2 x0).trans r_x0)) (by decide) (show (0 : Int) ≤ (0 : Int32).toInt ∧ (0 : Int32).toInt ≤ (300 : Int) from (by decide))
  have kE_S5 : zK S5 = zK S4 := by rw [e196]; rfl
  have nE_S5 : zN S5 = zN S4 := by rw [e196]; rfl
  have R_S5 : A7 SZ S5 := a7_I R_S4 e196 ((congrFun kE_S4 x0).trans ((congrFun kE_S2 x0).trans r_x0)) (by decide)
  refine ok_chk ((congrFun kE_S5 x0).trans ((congrFun kE_S4 x0).trans ((congrFun kE_S2 x0).trans r_x0))) ?_
  refine ok_bnd (fun S6 e197 => ?_)
  have j198 := J_1_5 T_S5 ((congrFun kE_S5 x0).trans ((congrFun kE_S4 x0).trans ((congrFun kE_S2 x0).trans r_x0)))
  have T_S6 : ZT S6 := e197.symm ▸ zt_T T_S5 ((congrFun kE_S5 x0).trans ((congrFun kE_S4 x0).trans ((congrFun kE_S2 x0).trans r_x0))) (by decide) (by have z : (0 : Int32).toInt = 0 := rfl; omega)
  have kE_S6 : zK S6 = zK S5 := by rw [e197]; rfl
  have nE_S6 : zN S6 = zN S5 := by rw [e197]; rfl
  have R_S6 : A7 SZ S6 := a7_I R_S5 e197 ((congrFun kE_S5 x0).trans ((congrFun kE_S4 x0).trans ((congrFun kE_S2 x0).trans r_x0))) (by decide)
  refine ok_chk ((congrFun kE_S6 x0).trans ((congrFun kE_S5 x0).trans ((congrFun kE_S4 x0).trans ((congrFun kE_S2 x0).trans r_x0)))) ?_
  refine ok_bnd (fun S7 e199 => ?_)
  have T_S7 : ZT S7 := e199.symm ▸ zt_W T_S6 ((congrFun kE_S6 x0).trans ((congrFun kE_S5 x0).trans ((congrFun kE_S4 x0).trans ((congrFun kE_S2 x0).trans r_x0)))) (by decide) rfl
  have kE_S7 : zK S7 = zK S6 := by rw [e199]; rfl
  have nE_S7 : zN S7 = zN S6 := by rw [e199]; rfl
  have R_S7 : A7 SZ S7 := a7_I R_S6 e199 ((congrFun kE_S6 x0).trans ((congrFun kE_S5 x0).trans ((congrFun kE_S4 x0).trans ((congrFun kE_S2 x0).trans r_x0)))) (by decide)
  exact ok_ret ⟨T_S7, R_S7, trivial⟩
theorem t_f_X1_wipe {SZ S : ZS} {x0 : Nat} (hT : ZT S) (hR : A7 SZ S) (r_x0 : zK S x0 = 1) : Ok (f_X1_wipe x0 S) (fun o => ZT o.2 ∧ A7 SZ o.2 ∧ True) := t_f_X1_wipe_0 hT hR r_x0
theorem t_f_X4_putMark_0 {SZ S : ZS} {x0 : Nat} {x1 : Int32} (hT : ZT S) (hR : A7 SZ S) (r_x0 : zK S x0 = 4) (q0 : (zI S 4 x0).toInt ≤ 3) : Ok (f_X4_putMark_0 x0 x1 S) (fun o => ZT o.2 ∧ A7 SZ o.2 ∧ True) := by
  unfold f_X4_putMark_0
  have j200 := J_4_4 hT r_x0
  refine ok_chk r_x0 ?_
  refine ok_chk r_x0 ?_
  refine ok_bnd (fun v1 e201 => ?_)
  have t_v1 : v1.toInt = 8 * (zI S 4 x0).toInt := ti_mul e201 (show (8 : Int32).toInt = 8 from rfl) rfl (by omega) (by omega)
  refine ok_bnd (fun v2 e202 => ?_)
  refine ok_bnd (fun v3 e203 => ?_)
  refine ok_chk r_x0 ?_
  refine ok_bnd (fun S4 e204 => ?_)
  have T_S4 : ZT S4 := e204.symm ▸ zt_W hT r_x0 (by decide) rfl
  have kE_S4 : zK S4 = zK S := by rw [e204]; rfl
  have nE_S4 : zN S4 = zN S := by rw [e204]; rfl
  have R_S4 : A7 SZ S4 := a7_I hR e204 r_x0 (by decide)
  have : (zI S4 4 x0).toInt = (zI S 4 x0).toInt := by rw [e204]; rfl
  refine ok_chk ((congrFun kE_S4 x0).trans r_x0) ?_
  refine ok_bnd (fun v5 e205 => ?_)
  have j206 := J_4_4 T_S4 ((congrFun kE_S4 x0).trans r_x0)
  have t_v5 : v5.toInt = (zI S4 4 x0).toInt + 1 := ti_add e205 rfl (show (1 : Int32).toInt = 1 from rfl) (by omega) (by omega)
  refine ok_chk ((congrFun kE_S4 x0).trans r_x0) ?_
  refine ok_bnd (fun S6 e207 => ?_)
  have T_S6 : ZT S6 := e207.symm ▸ zt_I T_S4 ((congrFun kE_S4 x0).trans r_x0) (by decide) (show (0 : Int) ≤ v5.toInt ∧ v5.toInt ≤ (4 : Int) from (by omega))
  have kE_S6 : zK S6 = zK S4 := by rw [e207]; rfl
  have nE_S6 : zN S6 = zN S4 := by rw [e207]; rfl
  have R_S6 : A7 SZ S6 := a7_I R_S4 e207 ((congrFun kE_S4 x0).trans r_x0) (by decide)
  have : (zI S6 4 x0).toInt = v5.toInt := by rw [e207]; exact (congrArg Int32.toInt (zI_self _ _ _ _)).trans rfl
  exact ok_ret ⟨T_S6, R_S6, trivial⟩
theorem t_f_X4_putMark {SZ S : ZS} {x0 : Nat} {x1 : Int32} (hT : ZT S) (hR : A7 SZ S) (r_x0 : zK S x0 = 4) (q0 : (zI S 4 x0).toInt ≤ 3) : Ok (f_X4_putMark x0 x1 S) (fun o => ZT o.2 ∧ A7 SZ o.2 ∧ True) := t_f_X4_putMark_0 hT hR r_x0 q0
theorem t_f_X4_markAt_0 {S : ZS} {x0 : Nat} {x1 : Int32} (hT : ZT S) (r_x0 : zK S x0 = 4) : Ok (f_X4_markAt_0 x0 x1 S) (fun o => o.2 = S ∧ ((0 : Int) ≤ o.1.toInt ∧ o.1.toInt ≤ (255 : Int))) := by
  unfold f_X4_markAt_0
  refine ok_chk r_x0 ?_
  refine ok_bnd (fun v1 e208 => ?_)
  refine ok_bnd (fun v2 e209 => ?_)
  refine ok_bnd (fun v3 e210 => ?_)
  have t_v3 := ti_and e210 (show (255 : Int32).toBitVec.toNat = 255 from rfl) (by decide)
  exact ok_ret ⟨rfl, (show (0 : Int) ≤ v3.toInt ∧ v3.toInt ≤ (255 : Int) from (by omega))⟩
theorem t_f_X4_markAt {S : ZS} {x0 : Nat} {x1 : Int32} (hT : ZT S) (r_x0 : zK S x0 = 4) : Ok (f_X4_markAt x0 x1 S) (fun o => o.2 = S ∧ ((0 : Int) ≤ o.1.toInt ∧ o.1.toInt ≤ (255 : Int))) := t_f_X4_markAt_0 hT r_x0
