theorem t_d_X2_readMove_37 {SZ S : ZS} {x0 : Nat} {x1 : Int32} {x2 : Nat} (hT : ZT S) (hR : RG x0 SZ S) (r_x0 : zK S x0 = 2) (r_x1 : (0 : Int) ≤ x1.toInt ∧ x1.toInt ≤ (6 : Int)) (r_x2 : zK S x2 = 0) (q0 : TZ SZ) (q1 : IVx S x0 x1.toInt) : Ok (d_X2_readMove_37 x0 x1 x2 S) (fun o => ZT o.2 ∧ RG x0 SZ o.2 ∧ ((0 : Int) ≤ o.1.toInt ∧ o.1.toInt ≤ (1 : Int)) ∧ ((o.1.toInt = 1 → IVx o.2 x0 x1.toInt))) := by
  unfold d_X2_readMove_37
  have j1 := J_2_4 hT r_x0
  refine ok_chk r_x0 ?_
  obtain ⟨b1, p_b1, k_b1, c_b1⟩ := T_2_2 hT r_x0
  have rl_b1 := rL_ge b1
  refine ok_calR p_b1 ?_
  refine ok_chk r_x0 ?_
  refine ok_chk k_b1 ?_
  have j2 := J61_2 hT k_b1 c_b1
  obtain ⟨r2, h_r2, p_r2⟩ := roz (t_f_X6_at (x0 := b1) (x1 := (zI S 4 x0)) hT k_b1)
  dsimp only at p_r2
  refine ok_calR h_r2 ?_
  refine ok_chk ⟨rfl, rfl⟩ ?_
  obtain ⟨r3, h_r3, p_r3⟩ := roz (t_f_X11_isLetter (x0 := r2) hT )
  dsimp only at p_r3
  refine ok_calR h_r3 ?_
  refine ok_chk ⟨rfl, rfl⟩ ?_
  refine ok_if (fun c3 => ?_) (fun c3 => ?_)
  ·
    replace c3 := ti_eqP (a := r3) (b := (0 : Int32)) c3 rfl (show (0 : Int32).toInt = 0 from rfl)
    refine ok_chk r_x0 ?_
    refine ok_chk r_x0 ?_
    obtain ⟨⟨r42, S42⟩, h_r42, T_S42, A_S42, p_r42⟩ := t_f_X2_refuse (x0 := x0) (x1 := (1 : Int32)) (x2 := (zI S 4 x0)) (SZ := S) hT (a7_0 S) r_x0
    replace T_S42 : ZT S42 := T_S42
    replace A_S42 : A7 S S42 := A_S42
    dsimp only at p_r42
    refine ok_calR h_r42 ?_
    have q_S42 := fq_X2_refuse h_r42
    have kE_S42 : zK S42 = zK S := q_S42.2.2.1
    have nE_S42 : zN S42 = zN S := q_S42.2.2.2.1
    have R_S42 : RG x0 SZ S42 := rg_f hR hT q_S42 (fz_X2_refuse h_r42) (by decide) A_S42.2
    have : (zI S42 4 x0).toInt = (zI S 4 x0).toInt := congrArg Int32.toInt ((((fz_X2_refuse h_r42) hT.2.2.2.2.1).2.2 x0 (by rw [r_x0]; decide)).2.2.1 4 (by rw [r_x0]; decide))
    refine ok_chk ⟨q_S42.1, q_S42.2.1⟩ ?_
    refine ok_chk (nar_b (v := r42) (by omega) (by omega)) ?_
    exact ok_ret ⟨T_S42, R_S42, (show (0 : Int) ≤ r42.toInt ∧ r42.toInt ≤ (1 : Int) from (by omega)), (by show (r42.toInt = 1 → IVx S42 x0 x1.toInt); intro h9; have z9 : (0 : Int32).toInt = 0 := rfl; omega)⟩
  ·
    replace c3 := ti_eqN (a := r3) (b := (0 : Int32)) c3 rfl (show (0 : Int32).toInt = 0 from rfl)
    refine ok_chk r_x0 ?_
    refine ok_chk r_x0 ?_
    obtain ⟨⟨r4, S4⟩, h_r4, T_S4, A_S4, -⟩ := t_f_X2_skipSigns (x0 := x0) (SZ := S) hT (a7_0 S) r_x0
    replace T_S4 : ZT S4 := T_S4
    replace A_S4 : A7 S S4 := A_S4
    refine ok_calR h_r4 ?_
    have q_S4 := fq_X2_skipSigns h_r4
    have kE_S4 : zK S4 = zK S := q_S4.2.2.1
    have nE_S4 : zN S4 = zN S := q_S4.2.2.2.1
    have R_S4 : RG x0 SZ S4 := rg_f hR hT q_S4 (fz_X2_skipSigns h_r4) (by decide) A_S4.2
    have iv4 := iv_fr hT r_x0 q1 A_S4 (fz_X2_skipSigns h_r4) (by decide)
    refine ok_chk ⟨q_S4.1, q_S4.2.1⟩ ?_
    refine ok_chk ((congrFun kE_S4 x0).trans r_x0) ?_
    obtain ⟨b5, p_b5, k_b5⟩ := T_2_0 T_S4 ((congrFun kE_S4 x0).trans r_x0)
    refine ok_calR p_b5 ?_
    refine ok_chk ((congrFun kE_S4 x0).trans r_x0) ?_
    obtain ⟨b6, p_b6, k_b6, c_b6⟩ := T_2_2 T_S4 ((congrFun kE_S4 x0).trans r_x0)
    have rl_b6 := rL_ge b6
    refine ok_calR p_b6 ?_
    refine ok_chk ((congrFun kE_S4 x0).trans r_x0) ?_
    refine ok_chk k_b5 ?_
    have j4 := J61_2 T_S4 k_b6 c_b6
    have j5 := J_2_4 T_S4 ((congrFun kE_S4 x0).trans r_x0)
    obtain ⟨⟨r8, S9⟩, h_r8, T_S9, B_S9, -⟩ := t_d_X8_matched (x0 := b5) (x1 := x2) (x2 := b6) (x3 := (zI S 4 x0)) (x4 := (zI S4 4 x0)) (SZ := S4) T_S4 (rp_0 S4) k_b5 ((congrFun kE_S4 x2).trans r_x2) k_b6 c_b6 (by omega) (by omega)
    replace T_S9 : ZT S9 := T_S9
    replace B_S9 : RP S4 S9 := B_S9
    have A_S9 : A7 S4 S9 := B_S9.2.2
    have R_S9 : RG x0 SZ S9 := rg_d R_S4 T_S4 B_S9 (fz_X8_matched h_r8) (by decide)
    refine ok_cal2R h_r8 ?_
    have g_S9 := (fz_X8_matched h_r8 T_S4.2.2.2.2.1).2.2
    have : (zI S9 4 x0).toInt = (zI S4 4 x0).toInt := congrArg Int32.toInt ((g_S9 x0 (lt18 ((congrFun kE_S4 x0).trans r_x0) (by decide))).2.2.1 4 (by rw [((congrFun kE_S4 x0).trans r_x0)]; decide))
    have iv9 := iv_fr T_S4 ((congrFun kE_S4 x0).trans r_x0) iv4 A_S9 (fz_X8_matched h_r8) (by decide)
    refine ok_if (fun c6 => ?_) (fun c6 => ?_)
    ·
      replace c6 := ti_leP (a := (0 : Int32)) (b := r8) c6 (show (0 : Int32).toInt = 0 from rfl) rfl
      refine ok_chk ((g_S9 x0 (lt18 ((congrFun kE_S4 x0).trans r_x0) (by decide))).1.trans ((congrFun kE_S4 x0).trans r_x0)) ?_
      obtain ⟨b12, p_b12, k_b12⟩ := T_2_3 T_S9 ((g_S9 x0 (lt18 ((congrFun kE_S4 x0).trans r_x0) (by decide))).1.trans ((congrFun kE_S4 x0).trans r_x0))
      have lo_b12 := M_2_3 T_S9 ((g_S9 x0 (lt18 ((congrFun kE_S4 x0).trans r_x0) (by decide))).1.trans ((congrFun kE_S4 x0).trans r_x0)) p_b12
      refine ok_calR p_b12 ?_
      refine ok_chk ((g_S9 x0 (lt18 ((congrFun kE_S4 x0).trans r_x0) (by decide))).1.trans ((congrFun kE_S4 x0).trans r_x0)) ?_
      obtain ⟨b13, p_b13, k_b13, n_b13⟩ := T_2_9 T_S9 ((g_S9 x0 (lt18 ((congrFun kE_S4 x0).trans r_x0) (by decide))).1.trans ((congrFun kE_S4 x0).trans r_x0))
      refine ok_calR p_b13 ?_
      refine ok_chk k_b13 ?_
      refine ok_chk (ti_inN (v := x1) (n := 7) n_b13 (by omega) (by omega)) ?_
      refine ok_bnd (fun v14 e7 => ?_)
      refine ok_chk k_b12 ?_
      obtain ⟨r15, h_r15, p_r15⟩ := roz (t_f_X1_childWith (x0 := b12) (x1 := v14) (x2 := r8) T_S9 k_b12)
      refine ok_calR h_r15 ?_
      refine ok_chk ⟨rfl, rfl⟩ ?_
      refine ok_if (fun c8 => ?_) (fun c8 => ?_)
      ·
        replace c8 := ti_eqP (a := r15) (b := (-1 : Int32)) c8 rfl (show (-1 : Int32).toInt = -1 from rfl)
        refine ok_chk ((g_S9 x0 (lt18 ((congrFun kE_S4 x0).trans r_x0) (by decide))).1.trans ((congrFun kE_S4 x0).trans r_x0)) ?_
        refine ok_calR p_b12 ?_
        refine ok_chk ((g_S9 x0 (lt18 ((congrFun kE_S4 x0).trans r_x0) (by decide))).1.trans ((congrFun kE_S4 x0).trans r_x0)) ?_
        refine ok_calR p_b13 ?_
        refine ok_chk k_b13 ?_
        refine ok_chk (ti_inN (v := x1) (n := 7) n_b13 (by omega) (by omega)) ?_
        refine ok_bnd (fun v18 e9 => ?_)
        have w18 := iv_last iv9 T_S9 ((g_S9 x0 (lt18 ((congrFun kE_S4 x0).trans r_x0) (by decide))).1.trans ((congrFun kE_S4 x0).trans r_x0)) p_b13 p_b12 r_x1.1 (Int.le_refl _)
        rw [← e9] at w18
        refine ok_chk k_b12 ?_
        obtain ⟨⟨r20, S21⟩, h_r20, T_S21, B_S21, p_r20_0⟩ := t_d_X1_grow (x0 := b12) (x1 := v18) (x2 := r8) (SZ := S9) T_S9 (rp_0 S9) k_b12 (R_S9.1.2.1 q0) lo_b12 w18
        replace T_S21 : ZT S21 := T_S21
        replace B_S21 : RP S9 S21 := B_S21
        have A_S21 : A7 S9 S21 := B_S21.2.2
        have R_S21 : RG x0 SZ S21 := rg_grow R_S9 ((g_S9 x0 (lt18 ((congrFun kE_S4 x0).trans r_x0) (by decide))).1.trans ((congrFun kE_S4 x0).trans r_x0)) T_S9 B_S21 p_b12 p_r20_0 (fun a9 h9 => ((fz_X1_grow h_r20 T_S9.2.2.2.2.1).2.2 a9 h9).1)
        dsimp only at p_r20_0
        refine ok_cal2R h_r20 ?_
        have g_S21 := (fz_X1_grow h_r20 T_S9.2.2.2.2.1).2.2
        have : (zI S21 4 x0).toInt = (zI S9 4 x0).toInt := congrArg Int32.toInt ((g_S21 x0 (lt18 ((g_S9 x0 (lt18 ((congrFun kE_S4 x0).trans r_x0) (by decide))).1.trans ((congrFun kE_S4 x0).trans r_x0)) (by decide))).2.2.1 4 (by rw [((g_S9 x0 (lt18 ((congrFun kE_S4 x0).trans r_x0) (by decide))).1.trans ((congrFun kE_S4 x0).trans r_x0))]; decide))
        refine ok_if (fun c10 => ?_) (fun c10 => ?_)
        ·
          replace c10 := ti_eqP (a := r20) (b := (-1 : Int32)) c10 rfl (show (-1 : Int32).toInt = -1 from rfl)
          refine ok_chk ((g_S21 x0 (lt18 ((g_S9 x0 (lt18 ((congrFun kE_S4 x0).trans r_x0) (by decide))).1.trans ((congrFun kE_S4 x0).trans r_x0)) (by decide))).1.trans ((g_S9 x0 (lt18 ((congrFun kE_S4 x0).trans r_x0) (by decide))).1.trans ((congrFun kE_S4 x0).trans r_x0))) ?_
          obtain ⟨⟨r40, S40⟩, h_r40, T_S40, A_S40, p_r40⟩ := t_f_X2_refuse (x0 := x0) (x1 := (8 : Int32)) (x2 := (zI S 4 x0)) (SZ := S21) T_S21 (a7_0 S21) ((g_S21 x0 (lt18 ((g_S9 x0 (lt18 ((congrFun kE_S4 x0).trans r_x0) (by decide))).1.trans ((congrFun kE_S4 x0).trans r_x0)) (by decide))).1.trans ((g_S9 x0 (lt18 ((congrFun kE_S4 x0).trans r_x0) (by decide))).1.trans ((congrFun kE_S4 x0).trans r_x0)))
          replace T_S40 : ZT S40 := T_S40
          replace A_S40 : A7 S21 S40 := A_S40
          dsimp only at p_r40
          refine ok_calR h_r40 ?_
          have q_S40 := fq_X2_refuse h_r40
          have kE_S40 : zK S40 = zK S21 := q_S40.2.2.1
          have nE_S40 : zN S40 = zN S21 := q_S40.2.2.2.1
          have R_S40 : RG x0 SZ S40 := rg_f R_S21 T_S21 q_S40 (fz_X2_refuse h_r40) (by decide) A_S40.2
          have : (zI S40 4 x0).toInt = (zI S21 4 x0).toInt := congrArg Int32.toInt ((((fz_X2_refuse h_r40) T_S21.2.2.2.2.1).2.2 x0 (by rw [((g_S21 x0 (lt18 ((g_S9 x0 (lt18 ((congrFun kE_S4 x0).trans r_x0) (by decide))).1.trans ((congrFun kE_S4 x0).trans r_x0)) (by decide))).1.trans ((g_S9 x0 (lt18 ((congrFun kE_S4 x0).trans r_x0) (by decide))).1.trans ((congrFun kE_S4 x0).trans r_x0)))]; decide)).2.2.1 4 (by rw [((g_S21 x0 (lt18 ((g_S9 x0 (lt18 ((congrFun kE_S4 x0).trans r_x0) (by decide))).1.trans ((congrFun kE_S4 x0).trans r_x0)) (by decide))).1.trans ((g_S9 x0 (lt18 ((congrFun kE_S4 x0).trans r_x0) (by decide))).1.trans ((congrFun kE_S4 x0).trans r_x0)))]; decide))
          refine ok_chk ⟨q_S40.1, q_S40.2.1⟩ ?_
          refine ok_chk (nar_b (v := r40) (by omega) (by omega)) ?_
          exact ok_ret ⟨T_S40, R_S40, (show (0 : Int) ≤ r40.toInt ∧ r40.toInt ≤ (1 : Int) from (by omega)), (by show (r40.toInt = 1 → IVx S40 x0 x1.toInt); intro h9; have z9 : (0 : Int32).toInt = 0 := rfl; omega)⟩
        ·
          replace c10 := ti_eqN (a := r20) (b := (-1 : Int32)) c10 rfl (show (-1 : Int32).toInt = -1 from rfl)
          refine ok_chk ((g_S21 x0 (lt18 ((g_S9 x0 (lt18 ((congrFun kE_S4 x0).trans r_x0) (by decide))).1.trans ((congrFun kE_S4 x0).trans r_x0)) (by decide))).1.trans ((g_S9 x0 (lt18 ((congrFun kE_S4 x0).trans r_x0) (by decide))).1.trans ((congrFun kE_S4 x0).trans r_x0))) ?_
          obtain ⟨b24, p_b24, k_b24, n_b24⟩ := T_2_9 T_S21 ((g_S21 x0 (lt18 ((g_S9 x0 (lt18 ((congrFun kE_S4 x0).trans r_x0) (by decide))).1.trans ((congrFun kE_S4 x0).trans r_x0)) (by decide))).1.trans ((g_S9 x0 (lt18 ((congrFun kE_S4 x0).trans r_x0) (by decide))).1.trans ((congrFun kE_S4 x0).trans r_x0)))
          refine ok_calR p_b24 ?_
          refine ok_chk k_b24 ?_
          refine ok_chk (ti_inN (v := x1) (n := 7) n_b24 (by omega) (by omega)) ?_
          refine ok_bnd (fun S25 e11 => ?_)
          have T_S25 : ZT S25 := e11.symm ▸ zt_A T_S21 k_b24
          have kE_S25 : zK S25 = zK S21 := by rw [e11]; rfl
          have nE_S25 : zN S25 = zN S21 := by rw [e11]; rfl
          have R_S25 : RG x0 SZ S25 := rg_A R_S21 T_S21 e11 k_b24
          have : (zI S25 4 x0).toInt = (zI S21 4 x0).toInt := by rw [e11]; rfl
          rcases p_r20_0 with ⟨g1, -⟩ | ⟨g1, g2, g3, g4, g5, g6⟩
          · exact absurd (show r20.toInt = -1 from g1) (by omega)
          replace g1 : r20.toInt = (cn S9 b12 : Int) + 1 := g1
          replace g2 : cn S21 b12 = cn S9 b12 + 1 := g2
          replace g4 : zI S21 4 (nd S21 b12 r20) = 0 := g4
          have iv25 : IVx S25 x0 x1.toInt := iv_grow T_S9 ((g_S9 x0 (lt18 ((congrFun kE_S4 x0).trans r_x0) (by decide))).1.trans ((congrFun kE_S4 x0).trans r_x0)) iv9 A_S21 (fun j9 => g6 x0 j9 (lt18 ((g_S9 x0 (lt18 ((congrFun kE_S4 x0).trans r_x0) (by decide))).1.trans ((congrFun kE_S4 x0).trans r_x0)) (by decide))) p_b12 g1 g2 p_b24 e11
          have m25 := nd4_fr (W := []) (V := []) (B := []) T_S21 ((g_S21 b12 (lt18 k_b12 (by decide))).1.trans k_b12) (frz_A frz_0 e11) (by decide) g4
          refine ok_chk ((congrFun kE_S25 x0).trans ((g_S21 x0 (lt18 ((g_S9 x0 (lt18 ((congrFun kE_S4 x0).trans r_x0) (by decide))).1.trans ((congrFun kE_S4 x0).trans r_x0)) (by decide))).1.trans ((g_S9 x0 (lt18 ((congrFun kE_S4 x0).trans r_x0) (by decide))).1.trans ((congrFun kE_S4 x0).trans r_x0)))) ?_
          obtain ⟨b26, p_b26, k_b26, n_b26⟩ := T_2_10 T_S25 ((congrFun kE_S25 x0).trans ((g_S21 x0 (lt18 ((g_S9 x0 (lt18 ((congrFun kE_S4 x0).trans r_x0) (by decide))).1.trans ((congrFun kE_S4 x0).trans r_x0)) (by decide))).1.trans ((g_S9 x0 (lt18 ((congrFun kE_S4 x0).trans r_x0) (by decide))).1.trans ((congrFun kE_S4 x0).trans r_x0))))
          refine ok_calR p_b26 ?_
          refine ok_chk k_b26 ?_
          refine ok_chk (ti_inN (v := x1) (n := 7) n_b26 (by omega) (by omega)) ?_
          obtain ⟨b27, p_b27, k_b27⟩ := (T_S25.2.2.2.1 b26).1 k_b26 (x1).toNatClampNeg (ti_cl (v := x1) (by omega) (by omega))
          refine ok_calR p_b27 ?_
          refine ok_chk k_b27 ?_
          obtain ⟨⟨r28, S28⟩, h_r28, T_S28, A_S28, -⟩ := t_f_X0_copyFrom (x0 := b27) (x1 := x2) (SZ := S25) T_S25 (a7_0 S25) k_b27 ((congrFun kE_S25 x2).trans ((g_S21 x2 (lt18 ((g_S9 x2 (lt18 ((congrFun kE_S4 x2).trans r_x2) (by decide))).1.trans ((congrFun kE_S4 x2).trans r_x2)) (by decide))).1.trans ((g_S9 x2 (lt18 ((congrFun kE_S4 x2).trans r_x2) (by decide))).1.trans ((congrFun kE_S4 x2).trans r_x2))))
          replace T_S28 : ZT S28 := T_S28
          replace A_S28 : A7 S25 S28 := A_S28
          refine ok_calR h_r28 ?_
          have q_S28 := fq_X0_copyFrom h_r28
          have kE_S28 : zK S28 = zK S25 := q_S28.2.2.1
          have nE_S28 : zN S28 = zN S25 := q_S28.2.2.2.1
          have R_S28 : RG x0 SZ S28 := rg_f R_S25 T_S25 q_S28 (fz_X0_copyFrom h_r28) (by decide) A_S28.2
          have : (zI S28 4 x0).toInt = (zI S25 4 x0).toInt := congrArg Int32.toInt ((((fz_X0_copyFrom h_r28) T_S25.2.2.2.2.1).2.2 x0 (by rw [((congrFun kE_S25 x0).trans ((g_S21 x0 (lt18 ((g_S9 x0 (lt18 ((congrFun kE_S4 x0).trans r_x0) (by decide))).1.trans ((congrFun kE_S4 x0).trans r_x0)) (by decide))).1.trans ((g_S9 x0 (lt18 ((congrFun kE_S4 x0).trans r_x0) (by decide))).1.trans ((congrFun kE_S4 x0).trans r_x0))))]; decide)).2.2.1 4 (by rw [((congrFun kE_S25 x0).trans ((g_S21 x0 (lt18 ((g_S9 x0 (lt18 ((congrFun kE_S4 x0).trans r_x0) (by decide))).1.trans ((congrFun kE_S4 x0).trans r_x0)) (by decide))).1.trans ((g_S9 x0 (lt18 ((congrFun kE_S4 x0).trans r_x0) (by decide))).1.trans ((congrFun kE_S4 x0).trans r_x0))))]; decide))
          have iv28 := iv_fr T_S25 ((congrFun kE_S25 x0).trans ((g_S21 x0 (lt18 ((g_S9 x0 (lt18 ((congrFun kE_S4 x0).trans r_x0) (by decide))).1.trans ((congrFun kE_S4 x0).trans r_x0)) (by decide))).1.trans ((g_S9 x0 (lt18 ((congrFun kE_S4 x0).trans r_x0) (by decide))).1.trans ((congrFun kE_S4 x0).trans r_x0)))) iv25 A_S28 (fz_X0_copyFrom h_r28) (by decide)
          have m28 := nd4_fr T_S25 ((congrFun kE_S25 b12).trans ((g_S21 b12 (lt18 k_b12 (by decide))).1.trans k_b12)) (fz_X0_copyFrom h_r28) (by decide) m25
          refine ok_chk ⟨q_S28.1, q_S28.2.1⟩ ?_
          refine ok_chk ((congrFun kE_S28 x2).trans ((congrFun kE_S25 x2).trans ((g_S21 x2 (lt18 ((g_S9 x2 (lt18 ((congrFun kE_S4 x2).trans r_x2) (by decide))).1.trans ((congrFun kE_S4 x2).trans r_x2)) (by decide))).1.trans ((g_S9 x2 (lt18 ((congrFun kE_S4 x2).trans r_x2) (by decide))).1.trans ((congrFun kE_S4 x2).trans r_x2))))) ?_
          obtain ⟨⟨r29, S29⟩, h_r29, T_S29, A_S29, -⟩ := t_f_X0_play (x0 := x2) (x1 := r8) (SZ := S28) T_S28 (a7_0 S28) ((congrFun kE_S28 x2).trans ((congrFun kE_S25 x2).trans ((g_S21 x2 (lt18 ((g_S9 x2 (lt18 ((congrFun kE_S4 x2).trans r_x2) (by decide))).1.trans ((congrFun kE_S4 x2).trans r_x2)) (by decide))).1.trans ((g_S9 x2 (lt18 ((congrFun kE_S4 x2).trans r_x2) (by decide))).1.trans ((congrFun kE_S4 x2).trans r_x2)))))
          replace T_S29 : ZT S29 := T_S29
          replace A_S29 : A7 S28 S29 := A_S29
          refine ok_calR h_r29 ?_
          have q_S29 := fq_X0_play h_r29
          have kE_S29 : zK S29 = zK S28 := q_S29.2.2.1
          have nE_S29 : zN S29 = zN S28 := q_S29.2.2.2.1
          have R_S29 : RG x0 SZ S29 := rg_f R_S28 T_S28 q_S29 (fz_X0_play h_r29) (by decide) A_S29.2
          have : (zI S29 4 x0).toInt = (zI S28 4 x0).toInt := congrArg Int32.toInt ((((fz_X0_play h_r29) T_S28.2.2.2.2.1).2.2 x0 (by rw [((congrFun kE_S28 x0).trans ((congrFun kE_S25 x0).trans ((g_S21 x0 (lt18 ((g_S9 x0 (lt18 ((congrFun kE_S4 x0).trans r_x0) (by decide))).1.trans ((congrFun kE_S4 x0).trans r_x0)) (by decide))).1.trans ((g_S9 x0 (lt18 ((congrFun kE_S4 x0).trans r_x0) (by decide))).1.trans ((congrFun kE_S4 x0).trans r_x0)))))]; decide)).2.2.1 4 (by rw [((congrFun kE_S28 x0).trans ((congrFun kE_S25 x0).trans ((g_S21 x0 (lt18 ((g_S9 x0 (lt18 ((congrFun kE_S4 x0).trans r_x0) (by decide))).1.trans ((congrFun kE_S4 x0).trans r_x0)) (by decide))).1.trans ((g_S9 x0 (lt18 ((congrFun kE_S4 x0).trans r_x0) (by decide))).1.trans ((congrFun kE_S4 x0).trans r_x0)))))]; decide))
          have iv29 := iv_fr T_S28 ((congrFun kE_S28 x0).trans ((congrFun kE_S25 x0).trans ((g_S21 x0 (lt18 ((g_S9 x0 (lt18 ((congrFun kE_S4 x0).trans r_x0) (by decide))).1.trans ((congrFun kE_S4 x0).trans r_x0)) (by decide))).1.trans ((g_S9 x0 (lt18 ((congrFun kE_S4 x0).trans r_x0) (by decide))).1.trans ((congrFun kE_S4 x0).trans r_x0))))) iv28 A_S29 (fz_X0_play h_r29) (by decide)
          have m29 := nd4_fr T_S28 ((congrFun kE_S28 b12).trans ((congrFun kE_S25 b12).trans ((g_S21 b12 (lt18 k_b12 (by decide))).1.trans k_b12))) (fz_X0_play h_r29) (by decide) m28
          have pE : zP S29 3 x0 = some b12 := by rw [(((fz_X0_play h_r29) T_S28.2.2.2.2.1).2.2 x0 (lt18 ((congrFun kE_S28 x0).trans ((congrFun kE_S25 x0).trans ((g_S21 x0 (lt18 ((g_S9 x0 (lt18 ((congrFun kE_S4 x0).trans r_x0) (by decide))).1.trans ((congrFun kE_S4 x0).trans r_x0)) (by decide))).1.trans ((g_S9 x0 (lt18 ((congrFun kE_S4 x0).trans r_x0) (by decide))).1.trans ((congrFun kE_S4 x0).trans r_x0))))) (by decide))).2.2.2.1 3 (by rw [((congrFun kE_S28 x0).trans ((congrFun kE_S25 x0).trans ((g_S21 x0 (lt18 ((g_S9 x0 (lt18 ((congrFun kE_S4 x0).trans r_x0) (by decide))).1.trans ((congrFun kE_S4 x0).trans r_x0)) (by decide))).1.trans ((g_S9 x0 (lt18 ((congrFun kE_S4 x0).trans r_x0) (by decide))).1.trans ((congrFun kE_S4 x0).trans r_x0)))))]; decide), (((fz_X0_copyFrom h_r28) T_S25.2.2.2.2.1).2.2 x0 (lt18 ((congrFun kE_S25 x0).trans ((g_S21 x0 (lt18 ((g_S9 x0 (lt18 ((congrFun kE_S4 x0).trans r_x0) (by decide))).1.trans ((congrFun kE_S4 x0).trans r_x0)) (by decide))).1.trans ((g_S9 x0 (lt18 ((congrFun kE_S4 x0).trans r_x0) (by decide))).1.trans ((congrFun kE_S4 x0).trans r_x0)))) (by decide))).2.2.2.1 3 (by rw [((congrFun kE_S25 x0).trans ((g_S21 x0 (lt18 ((g_S9 x0 (lt18 ((congrFun kE_S4 x0).trans r_x0) (by decide))).1.trans ((congrFun kE_S4 x0).trans r_x0)) (by decide))).1.trans ((g_S9 x0 (lt18 ((congrFun kE_S4 x0).trans r_x0) (by decide))).1.trans ((congrFun kE_S4 x0).trans r_x0))))]; decide)]; show zP S25 3 x0 = _; rw [e11]; show zP S21 3 x0 = _; rw [g6 x0 3 (lt18 ((g_S9 x0 (lt18 ((congrFun kE_S4 x0).trans r_x0) (by decide))).1.trans ((congrFun kE_S4 x0).trans r_x0)) (by decide))]; exact p_b12
          refine ok_chk ⟨q_S29.1, q_S29.2.1⟩ ?_
          refine ok_chk ((congrFun kE_S29 x0).trans ((congrFun kE_S28 x0).trans ((congrFun kE_S25 x0).trans ((g_S21 x0 (lt18 ((g_S9 x0 (lt18 ((congrFun kE_S4 x0).trans r_x0) (by decide))).1.trans ((congrFun kE_S4 x0).trans r_x0)) (by decide))).1.trans ((g_S9 x0 (lt18 ((congrFun kE_S4 x0).trans r_x0) (by decide))).1.trans ((congrFun kE_S4 x0).trans r_x0)))))) ?_
          obtain ⟨b30, p_b30, k_b30⟩ := T_2_3 T_S29 ((congrFun kE_S29 x0).trans ((congrFun kE_S28 x0).trans ((congrFun kE_S25 x0).trans ((g_S21 x0 (lt18 ((g_S9 x0 (lt18 ((congrFun kE_S4 x0).trans r_x0) (by decide))).1.trans ((congrFun kE_S4 x0).trans r_x0)) (by decide))).1.trans ((g_S9 x0 (lt18 ((congrFun kE_S4 x0).trans r_x0) (by decide))).1.trans ((congrFun kE_S4 x0).trans r_x0))))))
          have lo_b30 := M_2_3 T_S29 ((congrFun kE_S29 x0).trans ((congrFun kE_S28 x0).trans ((congrFun kE_S25 x0).trans ((g_S21 x0 (lt18 ((g_S9 x0 (lt18 ((congrFun kE_S4 x0).trans r_x0) (by decide))).1.trans ((congrFun kE_S4 x0).trans r_x0)) (by decide))).1.trans ((g_S9 x0 (lt18 ((congrFun kE_S4 x0).trans r_x0) (by decide))).1.trans ((congrFun kE_S4 x0).trans r_x0)))))) p_b30
          refine ok_calR p_b30 ?_
          have eb : b30 = b12 := by rw [p_b30] at pE; exact Option.some.inj pE
          refine ok_chk k_b30 ?_
          obtain ⟨r31, h_r31, p_r31⟩ := roz (t_f_X1_at (x0 := b30) (x1 := r20) T_S29 k_b30)
          dsimp only at p_r31
          refine ok_calR h_r31 ?_
          have m31 : (zI S29 4 r31).toInt = 0 := by rw [p_r31.2, eb, m29]; rfl
          refine ok_chk ⟨rfl, rfl⟩ ?_
          refine ok_chk ((congrFun kE_S29 x0).trans ((congrFun kE_S28 x0).trans ((congrFun kE_S25 x0).trans ((g_S21 x0 (lt18 ((g_S9 x0 (lt18 ((congrFun kE_S4 x0).trans r_x0) (by decide))).1.trans ((congrFun kE_S4 x0).trans r_x0)) (by decide))).1.trans ((g_S9 x0 (lt18 ((congrFun kE_S4 x0).trans r_x0) (by decide))).1.trans ((congrFun kE_S4 x0).trans r_x0)))))) ?_
          have j12 := J_4_4 T_S29 p_r31.1
          obtain ⟨⟨r32, S32⟩, h_r32, T_S32, A_S32, p_r32⟩ := t_f_X2_readMarks (x0 := x0) (x1 := r31) (SZ := S29) T_S29 (a7_0 S29) ((congrFun kE_S29 x0).trans ((congrFun kE_S28 x0).trans ((congrFun kE_S25 x0).trans ((g_S21 x0 (lt18 ((g_S9 x0 (lt18 ((congrFun kE_S4 x0).trans r_x0) (by decide))).1.trans ((congrFun kE_S4 x0).trans r_x0)) (by decide))).1.trans ((g_S9 x0 (lt18 ((congrFun kE_S4 x0).trans r_x0) (by decide))).1.trans ((congrFun kE_S4 x0).trans r_x0)))))) p_r31.1 (by omega)
          replace T_S32 : ZT S32 := T_S32
          replace A_S32 : A7 S29 S32 := A_S32
          dsimp only at p_r32
          refine ok_calR h_r32 ?_
          have q_S32 := fq_X2_readMarks h_r32
          have kE_S32 : zK S32 = zK S29 := q_S32.2.2.1
          have nE_S32 : zN S32 = zN S29 := q_S32.2.2.2.1
          have R_S32 : RG x0 SZ S32 := rg_f R_S29 T_S29 q_S32 (fz_X2_readMarks h_r32) (by decide) A_S32.2
          have iv32 := iv_fr T_S29 ((congrFun kE_S29 x0).trans ((congrFun kE_S28 x0).trans ((congrFun kE_S25 x0).trans ((g_S21 x0 (lt18 ((g_S9 x0 (lt18 ((congrFun kE_S4 x0).trans r_x0) (by decide))).1.trans ((congrFun kE_S4 x0).trans r_x0)) (by decide))).1.trans ((g_S9 x0 (lt18 ((congrFun kE_S4 x0).trans r_x0) (by decide))).1.trans ((congrFun kE_S4 x0).trans r_x0)))))) iv29 A_S32 (fz_X2_readMarks h_r32) (by decide)
          refine ok_chk ⟨q_S32.1, q_S32.2.1⟩ ?_
          refine ok_if (fun c13 => ?_) (fun c13 => ?_)
          ·
            replace c13 := ti_eqP (a := r32) (b := (0 : Int32)) c13 rfl (show (0 : Int32).toInt = 0 from rfl)
            unfold d_X2_readMove_233
            unfold d_X2_readMove_234
            refine ok_chk (by decide) ?_
            exact ok_ret ⟨T_S32, R_S32, (show (0 : Int) ≤ (0 : Int32).toInt ∧ (0 : Int32).toInt ≤ (1 : Int) from (by decide)), (by show ((0 : Int32).toInt = 1 → IVx S32 x0 x1.toInt); intro h9; have z9 : (0 : Int32).toInt = 0 := rfl; omega)⟩
          ·
            replace c13 := ti_eqN (a := r32) (b := (0 : Int32)) c13 rfl (show (0 : Int32).toInt = 0 from rfl)
            refine ok_chk ((congrFun kE_S32 x0).trans ((congrFun kE_S29 x0).trans ((congrFun kE_S28 x0).trans ((congrFun kE_S25 x0).trans ((g_S21 x0 (lt18 ((g_S9 x0 (lt18 ((congrFun kE_S4 x0).trans r_x0) (by decide))).1.trans ((congrFun kE_S4 x0).trans r_x0)) (by decide))).1.trans ((g_S9 x0 (lt18 ((congrFun kE_S4 x0).trans r_x0) (by decide))).1.trans ((congrFun kE_S4 x0).trans r_x0))))))) ?_
            obtain ⟨b33, p_b33, k_b33⟩ := T_2_3 T_S32 ((congrFun kE_S32 x0).trans ((congrFun kE_S29 x0).trans ((congrFun kE_S28 x0).trans ((congrFun kE_S25 x0).trans ((g_S21 x0 (lt18 ((g_S9 x0 (lt18 ((congrFun kE_S4 x0).trans r_x0) (by decide))).1.trans ((congrFun kE_S4 x0).trans r_x0)) (by decide))).1.trans ((g_S9 x0 (lt18 ((congrFun kE_S4 x0).trans r_x0) (by decide))).1.trans ((congrFun kE_S4 x0).trans r_x0)))))))
            have lo_b33 := M_2_3 T_S32 ((congrFun kE_S32 x0).trans ((congrFun kE_S29 x0).trans ((congrFun kE_S28 x0).trans ((congrFun kE_S25 x0).trans ((g_S21 x0 (lt18 ((g_S9 x0 (lt18 ((congrFun kE_S4 x0).trans r_x0) (by decide))).1.trans ((congrFun kE_S4 x0).trans r_x0)) (by decide))).1.trans ((g_S9 x0 (lt18 ((congrFun kE_S4 x0).trans r_x0) (by decide))).1.trans ((congrFun kE_S4 x0).trans r_x0))))))) p_b33
            refine ok_calR p_b33 ?_
            refine ok_chk k_b33 ?_
            obtain ⟨r34, h_r34, p_r34⟩ := roz (t_f_X1_at (x0 := b33) (x1 := r20) T_S32 k_b33)
            dsimp only at p_r34
            refine ok_calR h_r34 ?_
            refine ok_chk ⟨rfl, rfl⟩ ?_
            refine ok_chk ((congrFun kE_S32 x0).trans ((congrFun kE_S29 x0).trans ((congrFun kE_S28 x0).trans ((congrFun kE_S25 x0).trans ((g_S21 x0 (lt18 ((g_S9 x0 (lt18 ((congrFun kE_S4 x0).trans r_x0) (by decide))).1.trans ((congrFun kE_S4 x0).trans r_x0)) (by decide))).1.trans ((g_S9 x0 (lt18 ((congrFun kE_S4 x0).trans r_x0) (by decide))).1.trans ((congrFun kE_S4 x0).trans r_x0))))))) ?_
            obtain ⟨⟨r36, S37⟩, h_r36, T_S37, B_S37, p_r36⟩ := t_d_X2_readRemarks (x0 := x0) (x1 := r34) (SZ := S32) T_S32 (rp_0 S32) ((congrFun kE_S32 x0).trans ((congrFun kE_S29 x0).trans ((congrFun kE_S28 x0).trans ((congrFun kE_S25 x0).trans ((g_S21 x0 (lt18 ((g_S9 x0 (lt18 ((congrFun kE_S4 x0).trans r_x0) (by decide))).1.trans ((congrFun kE_S4 x0).trans r_x0)) (by decide))).1.trans ((g_S9 x0 (lt18 ((congrFun kE_S4 x0).trans r_x0) (by decide))).1.trans ((congrFun kE_S4 x0).trans r_x0))))))) p_r34.1
            replace T_S37 : ZT S37 := T_S37
            replace B_S37 : RP S32 S37 := B_S37
            have A_S37 : A7 S32 S37 := B_S37.2.2
            have R_S37 : RG x0 SZ S37 := rg_d R_S32 T_S32 B_S37 (fz_X2_readRemarks h_r36) (by decide)
            dsimp only at p_r36
            refine ok_cal2R h_r36 ?_
            have g_S37 := (fz_X2_readRemarks h_r36 T_S32.2.2.2.2.1).2.2
            have iv37 := iv_fr T_S32 ((congrFun kE_S32 x0).trans ((congrFun kE_S29 x0).trans ((congrFun kE_S28 x0).trans ((congrFun kE_S25 x0).trans ((g_S21 x0 (lt18 ((g_S9 x0 (lt18 ((congrFun kE_S4 x0).trans r_x0) (by decide))).1.trans ((congrFun kE_S4 x0).trans r_x0)) (by decide))).1.trans ((g_S9 x0 (lt18 ((congrFun kE_S4 x0).trans r_x0) (by decide))).1.trans ((congrFun kE_S4 x0).trans r_x0))))))) iv32 A_S37 (fz_X2_readRemarks h_r36) (by decide)
            refine ok_if (fun c14 => ?_) (fun c14 => ?_)
            ·
              replace c14 := ti_eqP (a := r36) (b := (0 : Int32)) c14 rfl (show (0 : Int32).toInt = 0 from rfl)
              unfold d_X2_readMove_233
              unfold d_X2_readMove_234
              refine ok_chk (by decide) ?_
              exact ok_ret ⟨T_S37, R_S37, (show (0 : Int) ≤ (0 : Int32).toInt ∧ (0 : Int32).toInt ≤ (1 : Int) from (by decide)), (by show ((0 : Int32).toInt = 1 → IVx S37 x0 x1.toInt); intro h9; have z9 : (0 : Int32).toInt = 0 := rfl; omega)⟩
            ·
              replace c14 := ti_eqN (a := r36) (b := (0 : Int32)) c14 rfl (show (0 : Int32).toInt = 0 from rfl)
              unfold d_X2_readMove_234
              refine ok_chk (by decide) ?_
              exact ok_ret ⟨T_S37, R_S37, (show (0 : Int) ≤ (1 : Int32).toInt ∧ (1 : Int32).toInt ≤ (1 : Int) from (by decide)), (by show ((1 : Int32).toInt = 1 → IVx S37 x0 x1.toInt); exact fun _ => iv37)⟩
      ·
        replace c8 := ti_eqN (a := r15) (b := (-1 : Int32)) c8 rfl (show (-1 : Int32).toInt = -1 from rfl)
        refine ok_chk ((g_S9 x0 (lt18 ((congrFun kE_S4 x0).trans r_x0) (by decide))).1.trans ((congrFun kE_S4 x0).trans r_x0)) ?_
        obtain ⟨⟨r41, S41⟩, h_r41, T_S41, A_S41, p_r41⟩ := t_f_X2_refuse (x0 := x0) (x1 := (6 : Int32)) (x2 := (zI S 4 x0)) (SZ := S9) T_S9 (a7_0 S9) ((g_S9 x0 (lt18 ((congrFun kE_S4 x0).trans r_x0) (by decide))).1.trans ((congrFun kE_S4 x0).trans r_x0))
        replace T_S41 : ZT S41 := T_S41
        replace A_S41 : A7 S9 S41 := A_S41
        dsimp only at p_r41
        refine ok_calR h_r41 ?_
        have q_S41 := fq_X2_refuse h_r41
        have kE_S41 : zK S41 = zK S9 := q_S41.2.2.1
        have nE_S41 : zN S41 = zN S9 := q_S41.2.2.2.1
        have R_S41 : RG x0 SZ S41 := rg_f R_S9 T_S9 q_S41 (fz_X2_refuse h_r41) (by decide) A_S41.2
        have : (zI S41 4 x0).toInt = (zI S9 4 x0).toInt := congrArg Int32.toInt ((((fz_X2_refuse h_r41) T_S9.2.2.2.2.1).2.2 x0 (by rw [((g_S9 x0 (lt18 ((congrFun kE_S4 x0).trans r_x0) (by decide))).1.trans ((congrFun kE_S4 x0).trans r_x0))]; decide)).2.2.1 4 (by rw [((g_S9 x0 (lt18 ((congrFun kE_S4 x0).trans r_x0) (by decide))).1.trans ((congrFun kE_S4 x0).trans r_x0))]; decide))
        refine ok_chk ⟨q_S41.1, q_S41.2.1⟩ ?_
        refine ok_chk (nar_b (v := r41) (by omega) (by omega)) ?_
        exact ok_ret ⟨T_S41, R_S41, (show (0 : Int) ≤ r41.toInt ∧ r41.toInt ≤ (1 : Int) from (by omega)), (by show (r41.toInt = 1 → IVx S41 x0 x1.toInt); intro h9; have z9 : (0 : Int32).toInt = 0 := rfl; omega)⟩
    ·
      replace c6 := ti_leN (a := (0 : Int32)) (b := r8) c6 (show (0 : Int32).toInt = 0 from rfl) rfl
      refine ok_if (fun c15 => ?_) (fun c15 => ?_)
      ·
        replace c15 := ti_eqP (a := r8) (b := (-2 : Int32)) c15 rfl (show (-2 : Int32).toInt = -2 from rfl)
        unfold d_X2_readMove_110
        refine ok_chk ((g_S9 x0 (lt18 ((congrFun kE_S4 x0).trans r_x0) (by decide))).1.trans ((congrFun kE_S4 x0).trans r_x0)) ?_
        obtain ⟨⟨r1, S1⟩, h_r1, T_S1, A_S1, p_r1⟩ := t_f_X2_refuse (x0 := x0) (x1 := (5 : Int32)) (x2 := (zI S 4 x0)) (SZ := S9) T_S9 (a7_0 S9) ((g_S9 x0 (lt18 ((congrFun kE_S4 x0).trans r_x0) (by decide))).1.trans ((congrFun kE_S4 x0).trans r_x0))
        replace T_S1 : ZT S1 := T_S1
        replace A_S1 : A7 S9 S1 := A_S1
        dsimp only at p_r1
        refine ok_calR h_r1 ?_
        have q_S1 := fq_X2_refuse h_r1
        have kE_S1 : zK S1 = zK S9 := q_S1.2.2.1
        have nE_S1 : zN S1 = zN S9 := q_S1.2.2.2.1
        have R_S1 : RG x0 SZ S1 := rg_f R_S9 T_S9 q_S1 (fz_X2_refuse h_r1) (by decide) A_S1.2
        have : (zI S1 4 x0).toInt = (zI S9 4 x0).toInt := congrArg Int32.toInt ((((fz_X2_refuse h_r1) T_S9.2.2.2.2.1).2.2 x0 (by rw [((g_S9 x0 (lt18 ((congrFun kE_S4 x0).trans r_x0) (by decide))).1.trans ((congrFun kE_S4 x0).trans r_x0))]; decide)).2.2.1 4 (by rw [((g_S9 x0 (lt18 ((congrFun kE_S4 x0).trans r_x0) (by decide))).1.trans ((congrFun kE_S4 x0).trans r_x0))]; decide))
        refine ok_chk ⟨q_S1.1, q_S1.2.1⟩ ?_
        refine ok_chk (nar_b (v := r1) (by omega) (by omega)) ?_
        exact ok_ret ⟨T_S1, R_S1, (show (0 : Int) ≤ r1.toInt ∧ r1.toInt ≤ (1 : Int) from (by omega)), (by show (r1.toInt = 1 → IVx S1 x0 x1.toInt); intro h9; have z9 : (0 : Int32).toInt = 0 := rfl; omega)⟩
      ·
        replace c15 := ti_eqN (a := r8) (b := (-2 : Int32)) c15 rfl (show (-2 : Int32).toInt = -2 from rfl)
        unfold d_X2_readMove_110
        refine ok_chk ((g_S9 x0 (lt18 ((congrFun kE_S4 x0).trans r_x0) (by decide))).1.trans ((congrFun kE_S4 x0).trans r_x0)) ?_
        obtain ⟨⟨r1, S1⟩, h_r1, T_S1, A_S1, p_r1⟩ := t_f_X2_refuse (x0 := x0) (x1 := (4 : Int32)) (x2 := (zI S 4 x0)) (SZ := S9) T_S9 (a7_0 S9) ((g_S9 x0 (lt18 ((congrFun kE_S4 x0).trans r_x0) (by decide))).1.trans ((congrFun kE_S4 x0).trans r_x0))
        replace T_S1 : ZT S1 := T_S1
        replace A_S1 : A7 S9 S1 := A_S1
        dsimp only at p_r1
        refine ok_calR h_r1 ?_
        have q_S1 := fq_X2_refuse h_r1
        have kE_S1 : zK S1 = zK S9 := q_S1.2.2.1
        have nE_S1 : zN S1 = zN S9 := q_S1.2.2.2.1
        have R_S1 : RG x0 SZ S1 := rg_f R_S9 T_S9 q_S1 (fz_X2_refuse h_r1) (by decide) A_S1.2
        have : (zI S1 4 x0).toInt = (zI S9 4 x0).toInt := congrArg Int32.toInt ((((fz_X2_refuse h_r1) T_S9.2.2.2.2.1).2.2 x0 (by rw [((g_S9 x0 (lt18 ((congrFun kE_S4 x0).trans r_x0) (by decide))).1.trans ((congrFun kE_S4 x0).trans r_x0))]; decide)).2.2.1 4 (by rw [((g_S9 x0 (lt18 ((congrFun kE_S4 x0).trans r_x0) (by decide))).1.trans ((congrFun kE_S4 x0).trans r_x0))]; decide))
        refine ok_chk ⟨q_S1.1, q_S1.2.1⟩ ?_
        refine ok_chk (nar_b (v := r1) (by omega) (by omega)) ?_
        exact ok_ret ⟨T_S1, R_S1, (show (0 : Int) ≤ r1.toInt ∧ r1.toInt ≤ (1 : Int) from (by omega)), (by show (r1.toInt = 1 → IVx S1 x0 x1.toInt); intro h9; have z9 : (0 : Int32).toInt = 0 := rfl; omega)⟩
theorem t_d_X2_readMove_0 {SZ S : ZS} {x0 : Nat} {x1 : Int32} (hT : ZT S) (hR : RG x0 SZ S) (r_x0 : zK S x0 = 2) (r_x1 : (0 : Int) ≤ x1.toInt ∧ x1.toInt ≤ (6 : Int)) (q0 : TZ SZ) (q1 : IVx S x0 x1.toInt) : Ok (d_X2_readMove_0 x0 x1 S) (fun o => ZT o.2 ∧ RG x0 SZ o.2 ∧ ((0 : Int) ≤ o.1.toInt ∧ o.1.toInt ≤ (1 : Int)) ∧ ((o.1.toInt = 1 → IVx o.2 x0 x1.toInt))) := by
  unfold d_X2_readMove_0
  have j16 := J_2_4 hT r_x0
  refine ok_chk r_x0 ?_
  obtain ⟨b1, p_b1, k_b1, n_b1⟩ := T_2_11 hT r_x0
  refine ok_calR p_b1 ?_
  refine ok_chk k_b1 ?_
  refine ok_chk (ti_inN (v := x1) (n := 7) n_b1 (by omega) (by omega)) ?_
  obtain ⟨b2, p_b2, k_b2⟩ := (hT.2.2.2.1 b1).1 k_b1 (x1).toNatClampNeg (ti_cl (v := x1) (by omega) (by omega))
  refine ok_calR p_b2 ?_
  refine ok_chk r_x0 ?_
  obtain ⟨b3, p_b3, k_b3, c_b3⟩ := T_2_2 hT r_x0
  have rl_b3 := rL_ge b3
  refine ok_calR p_b3 ?_
  refine ok_chk r_x0 ?_
  refine ok_chk k_b3 ?_
  have j17 := J61_2 hT k_b3 c_b3
  obtain ⟨r4, h_r4, p_r4⟩ := roz (t_f_X6_at (x0 := b3) (x1 := (zI S 4 x0)) hT k_b3)
  dsimp only at p_r4
  refine ok_calR h_r4 ?_
  refine ok_chk ⟨rfl, rfl⟩ ?_
  obtain ⟨r5, h_r5, p_r5⟩ := roz (t_f_X11_isDigit (x0 := r4) hT )
  dsimp only at p_r5
  refine ok_calR h_r5 ?_
  refine ok_chk ⟨rfl, rfl⟩ ?_
  refine ok_if (fun c18 => ?_) (fun c18 => ?_)
  ·
    replace c18 := ti_eqP (a := r5) (b := (0 : Int32)) c18 rfl (show (0 : Int32).toInt = 0 from rfl)
    exact t_d_X2_readMove_37 (S := S)  (x0 := x0) (x1 := x1) (x2 := b2) hT hR r_x0 r_x1 k_b2 q0 q1
  ·
    replace c18 := ti_eqN (a := r5) (b := (0 : Int32)) c18 rfl (show (0 : Int32).toInt = 0 from rfl)
    refine ok_chk k_b2 ?_
    refine ok_chk r_x0 ?_
    obtain ⟨⟨r6, S6⟩, h_r6, T_S6, A_S6, p_r6⟩ := t_f_X2_readNumber (x0 := x0) (x1 := (zI S 6 b2)) (SZ := S) hT (a7_0 S) r_x0
    replace T_S6 : ZT S6 := T_S6
    replace A_S6 : A7 S S6 := A_S6
    dsimp only at p_r6
    refine ok_calR h_r6 ?_
    have q_S6 := fq_X2_readNumber h_r6
    have kE_S6 : zK S6 = zK S := q_S6.2.2.1
    have nE_S6 : zN S6 = zN S := q_S6.2.2.2.1
    have R_S6 : RG x0 SZ S6 := rg_f hR hT q_S6 (fz_X2_readNumber h_r6) (by decide) A_S6.2
    have iv6 := iv_fr hT r_x0 q1 A_S6 (fz_X2_readNumber h_r6) (by decide)
    refine ok_chk ⟨q_S6.1, q_S6.2.1⟩ ?_
    refine ok_if (fun c19 => ?_) (fun c19 => ?_)
    ·
      replace c19 := ti_eqP (a := r6) (b := (0 : Int32)) c19 rfl (show (0 : Int32).toInt = 0 from rfl)
      refine ok_chk (by decide) ?_
      exact ok_ret ⟨T_S6, R_S6, (show (0 : Int) ≤ (0 : Int32).toInt ∧ (0 : Int32).toInt ≤ (1 : Int) from (by decide)), (by show ((0 : Int32).toInt = 1 → IVx S6 x0 x1.toInt); intro h9; have z9 : (0 : Int32).toInt = 0 := rfl; omega)⟩
    ·
      replace c19 := ti_eqN (a := r6) (b := (0 : Int32)) c19 rfl (show (0 : Int32).toInt = 0 from rfl)
      exact t_d_X2_readMove_37 (S := S6)  (x0 := x0) (x1 := x1) (x2 := b2) T_S6 R_S6 ((congrFun kE_S6 x0).trans r_x0) r_x1 ((congrFun kE_S6 b2).trans k_b2) q0 iv6
theorem t_d_X2_readMove {SZ S : ZS} {x0 : Nat} {x1 : Int32} (hT : ZT S) (hR : RG x0 SZ S) (r_x0 : zK S x0 = 2) (r_x1 : (0 : Int) ≤ x1.toInt ∧ x1.toInt ≤ (6 : Int)) (q0 : TZ SZ) (q1 : IVx S x0 x1.toInt) : Ok (d_X2_readMove x0 x1 S) (fun o => ZT o.2 ∧ RG x0 SZ o.2 ∧ ((0 : Int) ≤ o.1.toInt ∧ o.1.toInt ≤ (1 : Int)) ∧ ((o.1.toInt = 1 → IVx o.2 x0 x1.toInt))) := t_d_X2_readMove_0 hT hR r_x0 r_x1 q0 q1
theorem t_d_X2_readMoves_197 {SZ S : ZS} {self34 : Nat → Int32 → Int32 → ZS → Option (Int32 × ZS)} {N34 : Nat} (hself34 : ∀ (x0 : Nat) (x1 : Int32) (x2 : Int32) (S : ZS), ZT S → RG x0 SZ S → (zK S x0 = 2) → ((0 : Int) ≤ x1.toInt ∧ x1.toInt ≤ (6 : Int)) → ((0 : Int) ≤ x2.toInt ∧ x2.toInt ≤ (2001 : Int)) → (TZ SZ) → (IVx S x0 x1.toInt) → (2002 - x2.toInt) < (N34 : Int) → Ok (self34 x0 x1 x2 S) (fun o => ZT o.2 ∧ RG x0 SZ o.2 ∧ ((0 : Int) ≤ o.1.toInt ∧ o.1.toInt ≤ (1 : Int)) ∧ ((o.1.toInt = 1 → (zI o.2 4 x0).toInt ≤ 90000)))) {x0 : Nat} {x1 : Int32} {x2 : Int32} (hT : ZT S) (hR : RG x0 SZ S) (r_x0 : zK S x0 = 2) (r_x1 : (0 : Int) ≤ x1.toInt ∧ x1.toInt ≤ (6 : Int)) (r_x2 : (0 : Int) ≤ x2.toInt ∧ x2.toInt ≤ (2000 : Int)) (q0 : TZ SZ) (q1 : IVx S x0 x1.toInt) (m34 : (2002 - x2.toInt) ≤ (N34 : Int)) : Ok (d_X2_readMoves_197 self34 x0 x1 x2 S) (fun o => ZT o.2 ∧ RG x0 SZ o.2 ∧ ((0 : Int) ≤ o.1.toInt ∧ o.1.toInt ≤ (1 : Int)) ∧ ((o.1.toInt = 1 → (zI o.2 4 x0).toInt ≤ 90000))) := by
  unfold d_X2_readMoves_197
  have j20 := J_2_4 hT r_x0
  refine ok_bnd (fun v1 e21 => ?_)
  have t_v1 : v1.toInt = x2.toInt + 1 := ti_add e21 rfl (show (1 : Int32).toInt = 1 from rfl) (by omega) (by omega)
  exact hself34 x0 x1 v1 S hT hR r_x0 r_x1 (by omega) q0 q1 (by omega)
theorem t_d_X2_readMoves_187 {SZ S : ZS} {self34 : Nat → Int32 → Int32 → ZS → Option (Int32 × ZS)} {N34 : Nat} (hself34 : ∀ (x0 : Nat) (x1 : Int32) (x2 : Int32) (S : ZS), ZT S → RG x0 SZ S → (zK S x0 = 2) → ((0 : Int) ≤ x1.toInt ∧ x1.toInt ≤ (6 : Int)) → ((0 : Int) ≤ x2.toInt ∧ x2.toInt ≤ (2001 : Int)) → (TZ SZ) → (IVx S x0 x1.toInt) → (2002 - x2.toInt) < (N34 : Int) → Ok (self34 x0 x1 x2 S) (fun o => ZT o.2 ∧ RG x0 SZ o.2 ∧ ((0 : Int) ≤ o.1.toInt ∧ o.1.toInt ≤ (1 : Int)) ∧ ((o.1.toInt = 1 → (zI o.2 4 x0).toInt ≤ 90000)))) {x0 : Nat} {x1 : Int32} {x2 : Int32} (hT : ZT S) (hR : RG x0 SZ S) (r_x0 : zK S x0 = 2) (r_x1 : (0 : Int) ≤ x1.toInt ∧ x1.toInt ≤ (6 : Int)) (r_x2 : (0 : Int) ≤ x2.toInt ∧ x2.toInt ≤ (2000 : Int)) (q0 : TZ SZ) (q1 : IVx S x0 x1.toInt) (m34 : (2002 - x2.toInt) ≤ (N34 : Int)) : Ok (d_X2_readMoves_187 self34 x0 x1 x2 S) (fun o => ZT o.2 ∧ RG x0 SZ o.2 ∧ ((0 : Int) ≤ o.1.toInt ∧ o.1.toInt ≤ (1 : Int)) ∧ ((o.1.toInt = 1 → (zI o.2 4 x0).toInt ≤ 90000))) := by
  unfold d_X2_readMoves_187
  have j22 := J_2_4 hT r_x0
  refine ok_chk r_x0 ?_
  obtain ⟨⟨r2, S3⟩, h_r2, T_S3, B_S3, p_r2, p_r2_0⟩ := t_d_X2_readMove (x0 := x0) (x1 := x1) (SZ := S) hT (rg_0 x0 S) r_x0 r_x1 (hR.1.2.1 q0) q1
  replace T_S3 : ZT S3 := T_S3
  replace B_S3 : RG x0 S S3 := B_S3
  have R_S3 : RG x0 SZ S3 := rg_t hR B_S3
  dsimp only at p_r2 p_r2_0
  refine ok_cal2R h_r2 ?_
  have g_S3 := (fz_X2_readMove h_r2 hT.2.2.2.2.1).2.2
  refine ok_if (fun c23 => ?_) (fun c23 => ?_)
  ·
    replace c23 := ti_eqP (a := r2) (b := (0 : Int32)) c23 rfl (show (0 : Int32).toInt = 0 from rfl)
    refine ok_chk (by decide) ?_
    exact ok_ret ⟨T_S3, R_S3, (show (0 : Int) ≤ (0 : Int32).toInt ∧ (0 : Int32).toInt ≤ (1 : Int) from (by decide)), (by show ((0 : Int32).toInt = 1 → (zI S3 4 x0).toInt ≤ 90000); intro h9; have z9 : (0 : Int32).toInt = 0 := rfl; omega)⟩
  ·
    replace c23 := ti_eqN (a := r2) (b := (0 : Int32)) c23 rfl (show (0 : Int32).toInt = 0 from rfl)
    exact t_d_X2_readMoves_197 (S := S3) hself34 (x0 := x0) (x1 := x1) (x2 := x2) T_S3 R_S3 ((g_S3 x0 (lt18 r_x0 (by decide))).1.trans r_x0) r_x1 r_x2 q0 (p_r2_0 (by omega)) m34
theorem t_d_X2_readMoves_128 {SZ S : ZS} {self34 : Nat → Int32 → Int32 → ZS → Option (Int32 × ZS)} {N34 : Nat} (hself34 : ∀ (x0 : Nat) (x1 : Int32) (x2 : Int32) (S : ZS), ZT S → RG x0 SZ S → (zK S x0 = 2) → ((0 : Int) ≤ x1.toInt ∧ x1.toInt ≤ (6 : Int)) → ((0 : Int) ≤ x2.toInt ∧ x2.toInt ≤ (2001 : Int)) → (TZ SZ) → (IVx S x0 x1.toInt) → (2002 - x2.toInt) < (N34 : Int) → Ok (self34 x0 x1 x2 S) (fun o => ZT o.2 ∧ RG x0 SZ o.2 ∧ ((0 : Int) ≤ o.1.toInt ∧ o.1.toInt ≤ (1 : Int)) ∧ ((o.1.toInt = 1 → (zI o.2 4 x0).toInt ≤ 90000)))) {x0 : Nat} {x1 : Int32} {x2 : Int32} {x3 : Int32} (hT : ZT S) (hR : RG x0 SZ S) (r_x0 : zK S x0 = 2) (r_x1 : (0 : Int) ≤ x1.toInt ∧ x1.toInt ≤ (6 : Int)) (r_x2 : (0 : Int) ≤ x2.toInt ∧ x2.toInt ≤ (2000 : Int)) (r_x3 : (0 : Int) ≤ x3.toInt ∧ x3.toInt ≤ (1 : Int)) (q0 : TZ SZ) (q1 : IVx S x0 x1.toInt) (m34 : (2002 - x2.toInt) ≤ (N34 : Int)) : Ok (d_X2_readMoves_128 self34 x0 x1 x2 x3 S) (fun o => ZT o.2 ∧ RG x0 SZ o.2 ∧ ((0 : Int) ≤ o.1.toInt ∧ o.1.toInt ≤ (1 : Int)) ∧ ((o.1.toInt = 1 → (zI o.2 4 x0).toInt ≤ 90000))) := by
  unfold d_X2_readMoves_128
  have j24 := J_2_4 hT r_x0
  refine ok_if (fun c25 => ?_) (fun c25 => ?_)
  ·
    replace c25 := ti_eqP (a := x3) (b := (0 : Int32)) c25 rfl (show (0 : Int32).toInt = 0 from rfl)
    exact t_d_X2_readMoves_187 (S := S) hself34 (x0 := x0) (x1 := x1) (x2 := x2) hT hR r_x0 r_x1 r_x2 q0 q1 m34
  ·
    replace c25 := ti_eqN (a := x3) (b := (0 : Int32)) c25 rfl (show (0 : Int32).toInt = 0 from rfl)
    refine ok_if (fun c26 => ?_) (fun c26 => ?_)
    ·
      replace c26 := ti_leP (a := x1) (b := (0 : Int32)) c26 rfl (show (0 : Int32).toInt = 0 from rfl)
      exact t_d_X2_readMoves_187 (S := S) hself34 (x0 := x0) (x1 := x1) (x2 := x2) hT hR r_x0 r_x1 r_x2 q0 q1 m34
    ·
      replace c26 := ti_leN (a := x1) (b := (0 : Int32)) c26 rfl (show (0 : Int32).toInt = 0 from rfl)
      refine ok_chk r_x0 ?_
      obtain ⟨b1, p_b1, k_b1, c_b1⟩ := T_2_2 hT r_x0
      have rl_b1 := rL_ge b1
      refine ok_calR p_b1 ?_
      refine ok_chk r_x0 ?_
      refine ok_chk k_b1 ?_
      have j27 := J61_2 hT k_b1 c_b1
      obtain ⟨r2, h_r2, p_r2⟩ := roz (t_f_X6_at (x0 := b1) (x1 := (zI S 4 x0)) hT k_b1)
      dsimp only at p_r2
      refine ok_calR h_r2 ?_
      refine ok_chk ⟨rfl, rfl⟩ ?_
      refine ok_if (fun c28 => ?_) (fun c28 => ?_)
      ·
        replace c28 := ti_eqP (a := r2) (b := (41 : Int32)) c28 rfl (show (41 : Int32).toInt = 41 from rfl)
        refine ok_bnd (fun v3 e29 => ?_)
        have t_v3 : v3.toInt = x1.toInt + (-1) := ti_add e29 rfl (show (-1 : Int32).toInt = -1 from rfl) (by omega) (by omega)
        refine ok_chk r_x0 ?_
        refine ok_bnd (fun v4 e30 => ?_)
        have t_v4 : v4.toInt = (zI S 4 x0).toInt + 1 := ti_add e30 rfl (show (1 : Int32).toInt = 1 from rfl) (by omega) (by omega)
        refine ok_chk r_x0 ?_
        refine ok_bnd (fun S5 e31 => ?_)
        have T_S5 : ZT S5 := e31.symm ▸ zt_I hT r_x0 (by decide) (show (0 : Int) ≤ v4.toInt ∧ v4.toInt ≤ (90100 : Int) from (by omega))
        have kE_S5 : zK S5 = zK S := by rw [e31]; rfl
        have nE_S5 : zN S5 = zN S := by rw [e31]; rfl
        have A_S5 : A7 S S5 := a7_I (a7_0 S) e31 r_x0 (by decide)
        have R_S5 : RG x0 SZ S5 := rg_I hR hT r_x0 e31 (by decide)
        have : (zI S5 4 x0).toInt = v4.toInt := by rw [e31]; exact (congrArg Int32.toInt (zI_self _ _ _ _)).trans rfl
        have iv5 := iv_fr hT r_x0 (iv_le q1 (show v3.toInt ≤ x1.toInt by omega)) A_S5 (frz_I (W := [(2, 4)]) (V := []) (B := []) frz_0 r_x0 e31 (List.mem_singleton.2 rfl)) (by decide)
        refine ok_chk ((congrFun kE_S5 x0).trans r_x0) ?_
        obtain ⟨b6, p_b6, k_b6⟩ := T_2_3 T_S5 ((congrFun kE_S5 x0).trans r_x0)
        have lo_b6 := M_2_3 T_S5 ((congrFun kE_S5 x0).trans r_x0) p_b6
        refine ok_calR p_b6 ?_
        refine ok_chk ((congrFun kE_S5 x0).trans r_x0) ?_
        obtain ⟨b7, p_b7, k_b7, n_b7⟩ := T_2_9 T_S5 ((congrFun kE_S5 x0).trans r_x0)
        refine ok_calR p_b7 ?_
        refine ok_chk k_b7 ?_
        refine ok_chk (ti_inN (v := v3) (n := 7) n_b7 (by omega) (by omega)) ?_
        refine ok_bnd (fun v8 e32 => ?_)
        refine ok_chk k_b6 ?_
        obtain ⟨r9, h_r9, p_r9⟩ := roz (t_f_X1_at (x0 := b6) (x1 := v8) T_S5 k_b6)
        dsimp only at p_r9
        refine ok_calR h_r9 ?_
        refine ok_chk ⟨rfl, rfl⟩ ?_
        refine ok_chk ((congrFun kE_S5 x0).trans r_x0) ?_
        obtain ⟨⟨r11, S12⟩, h_r11, T_S12, B_S12, p_r11⟩ := t_d_X2_readRemarks (x0 := x0) (x1 := r9) (SZ := S5) T_S5 (rp_0 S5) ((congrFun kE_S5 x0).trans r_x0) p_r9.1
        replace T_S12 : ZT S12 := T_S12
        replace B_S12 : RP S5 S12 := B_S12
        have A_S12 : A7 S5 S12 := B_S12.2.2
        have R_S12 : RG x0 SZ S12 := rg_d R_S5 T_S5 B_S12 (fz_X2_readRemarks h_r11) (by decide)
        dsimp only at p_r11
        refine ok_cal2R h_r11 ?_
        have g_S12 := (fz_X2_readRemarks h_r11 T_S5.2.2.2.2.1).2.2
        have iv12 := iv_fr T_S5 ((congrFun kE_S5 x0).trans r_x0) iv5 A_S12 (fz_X2_readRemarks h_r11) (by decide)
        refine ok_if (fun c33 => ?_) (fun c33 => ?_)
        ·
          replace c33 := ti_eqP (a := r11) (b := (0 : Int32)) c33 rfl (show (0 : Int32).toInt = 0 from rfl)
          refine ok_chk (by decide) ?_
          exact ok_ret ⟨T_S12, R_S12, (show (0 : Int) ≤ (0 : Int32).toInt ∧ (0 : Int32).toInt ≤ (1 : Int) from (by decide)), (by show ((0 : Int32).toInt = 1 → (zI S12 4 x0).toInt ≤ 90000); intro h9; have z9 : (0 : Int32).toInt = 0 := rfl; omega)⟩
        ·
          replace c33 := ti_eqN (a := r11) (b := (0 : Int32)) c33 rfl (show (0 : Int32).toInt = 0 from rfl)
          exact t_d_X2_readMoves_197 (S := S12) hself34 (x0 := x0) (x1 := v3) (x2 := x2) T_S12 R_S12 ((g_S12 x0 (lt18 ((congrFun kE_S5 x0).trans r_x0) (by decide))).1.trans ((congrFun kE_S5 x0).trans r_x0)) (by omega) r_x2 q0 iv12 m34
      ·
        replace c28 := ti_eqN (a := r2) (b := (41 : Int32)) c28 rfl (show (41 : Int32).toInt = 41 from rfl)
        exact t_d_X2_readMoves_187 (S := S) hself34 (x0 := x0) (x1 := x1) (x2 := x2) hT hR r_x0 r_x1 r_x2 q0 q1 m34
theorem t_d_X2_readMoves_80 {SZ S : ZS} {self34 : Nat → Int32 → Int32 → ZS → Option (Int32 × ZS)} {N34 : Nat} (hself34 : ∀ (x0 : Nat) (x1 : Int32) (x2 : Int32) (S : ZS), ZT S → RG x0 SZ S → (zK S x0 = 2) → ((0 : Int) ≤ x1.toInt ∧ x1.toInt ≤ (6 : Int)) → ((0 : Int) ≤ x2.toInt ∧ x2.toInt ≤ (2001 : Int)) → (TZ SZ) → (IVx S x0 x1.toInt) → (2002 - x2.toInt) < (N34 : Int) → Ok (self34 x0 x1 x2 S) (fun o => ZT o.2 ∧ RG x0 SZ o.2 ∧ ((0 : Int) ≤ o.1.toInt ∧ o.1.toInt ≤ (1 : Int)) ∧ ((o.1.toInt = 1 → (zI o.2 4 x0).toInt ≤ 90000)))) {x0 : Nat} {x1 : Int32} {x2 : Int32} {x3 : Int32} (hT : ZT S) (hR : RG x0 SZ S) (r_x0 : zK S x0 = 2) (r_x1 : (0 : Int) ≤ x1.toInt ∧ x1.toInt ≤ (6 : Int)) (r_x2 : (0 : Int) ≤ x2.toInt ∧ x2.toInt ≤ (2000 : Int)) (r_x3 : (0 : Int) ≤ x3.toInt ∧ x3.toInt ≤ (1 : Int)) (q0 : TZ SZ) (q1 : IVx S x0 x1.toInt) (q2 : x3.toInt = 0 ∨ (∀ b8 b9, zP S 8 x0 = some b8 → zP S 9 x0 = some b9 → zA S b9 x1.toInt.toNat ≠ zA S b8 x1.toInt.toNat)) (m34 : (2002 - x2.toInt) ≤ (N34 : Int)) : Ok (d_X2_readMoves_80 self34 x0 x1 x2 x3 S) (fun o => ZT o.2 ∧ RG x0 SZ o.2 ∧ ((0 : Int) ≤ o.1.toInt ∧ o.1.toInt ≤ (1 : Int)) ∧ ((o.1.toInt = 1 → (zI o.2 4 x0).toInt ≤ 90000))) := by
  unfold d_X2_readMoves_80
  have j34 := J_2_4 hT r_x0
  refine ok_if (fun c35 => ?_) (fun c35 => ?_)
  ·
    replace c35 := ti_eqP (a := x3) (b := (0 : Int32)) c35 rfl (show (0 : Int32).toInt = 0 from rfl)
    exact t_d_X2_readMoves_128 (S := S) hself34 (x0 := x0) (x1 := x1) (x2 := x2) (x3 := x3) hT hR r_x0 r_x1 r_x2 r_x3 q0 q1 m34
  ·
    replace c35 := ti_eqN (a := x3) (b := (0 : Int32)) c35 rfl (show (0 : Int32).toInt = 0 from rfl)
    refine ok_chk r_x0 ?_
    obtain ⟨b1, p_b1, k_b1, c_b1⟩ := T_2_2 hT r_x0
    have rl_b1 := rL_ge b1
    refine ok_calR p_b1 ?_
    refine ok_chk r_x0 ?_
    refine ok_chk k_b1 ?_
    have j36 := J61_2 hT k_b1 c_b1
    obtain ⟨r2, h_r2, p_r2⟩ := roz (t_f_X6_at (x0 := b1) (x1 := (zI S 4 x0)) hT k_b1)
    dsimp only at p_r2
    refine ok_calR h_r2 ?_
    refine ok_chk ⟨rfl, rfl⟩ ?_
    refine ok_if (fun c37 => ?_) (fun c37 => ?_)
    ·
      replace c37 := ti_eqP (a := r2) (b := (40 : Int32)) c37 rfl (show (40 : Int32).toInt = 40 from rfl)
      refine ok_if (fun c38 => ?_) (fun c38 => ?_)
      ·
        replace c38 := ti_ltP (a := x1) (b := (6 : Int32)) c38 rfl (show (6 : Int32).toInt = 6 from rfl)
        refine ok_bnd (fun v3 e39 => ?_)
        have t_v3 : v3.toInt = x1.toInt + 1 := ti_add e39 rfl (show (1 : Int32).toInt = 1 from rfl) (by omega) (by omega)
        refine ok_chk r_x0 ?_
        obtain ⟨⟨r4, S4⟩, h_r4, T_S4, -⟩ := t_f_X2_openLine (x0 := x0) (x1 := v3) hT r_x0 (by omega) (by omega)
        replace T_S4 : ZT S4 := T_S4
        refine ok_calR h_r4 ?_
        have q_S4 := fq_X2_openLine h_r4
        have kE_S4 : zK S4 = zK S := q_S4.2.2.1
        have nE_S4 : zN S4 = zN S := q_S4.2.2.2.1
        have R_S4 : RG x0 SZ S4 := rg_f hR hT q_S4 (fz_X2_openLine h_r4) (by decide) (xr_open hT h_r4)
        refine ok_chk ⟨q_S4.1, q_S4.2.1⟩ ?_
        exact t_d_X2_readMoves_197 (S := S4) hself34 (x0 := x0) (x1 := v3) (x2 := x2) T_S4 R_S4 ((congrFun kE_S4 x0).trans r_x0) (by omega) r_x2 q0 (iv_open hT r_x0 q1 (hR.1.2.1 q0) (by omega) (by omega) (by omega) (q2.resolve_left (by omega)) h_r4) m34
      ·
        replace c38 := ti_ltN (a := x1) (b := (6 : Int32)) c38 rfl (show (6 : Int32).toInt = 6 from rfl)
        refine ok_chk r_x0 ?_
        refine ok_chk r_x0 ?_
        obtain ⟨⟨r5, S5⟩, h_r5, T_S5, A_S5, p_r5⟩ := t_f_X2_refuse (x0 := x0) (x1 := (8 : Int32)) (x2 := (zI S 4 x0)) (SZ := S) hT (a7_0 S) r_x0
        replace T_S5 : ZT S5 := T_S5
        replace A_S5 : A7 S S5 := A_S5
        dsimp only at p_r5
        refine ok_calR h_r5 ?_
        have q_S5 := fq_X2_refuse h_r5
        have kE_S5 : zK S5 = zK S := q_S5.2.2.1
        have nE_S5 : zN S5 = zN S := q_S5.2.2.2.1
        have R_S5 : RG x0 SZ S5 := rg_f hR hT q_S5 (fz_X2_refuse h_r5) (by decide) A_S5.2
        have : (zI S5 4 x0).toInt = (zI S 4 x0).toInt := congrArg Int32.toInt ((((fz_X2_refuse h_r5) hT.2.2.2.2.1).2.2 x0 (by rw [r_x0]; decide)).2.2.1 4 (by rw [r_x0]; decide))
        refine ok_chk ⟨q_S5.1, q_S5.2.1⟩ ?_
        refine ok_chk (nar_b (v := r5) (by omega) (by omega)) ?_
        exact ok_ret ⟨T_S5, R_S5, (show (0 : Int) ≤ r5.toInt ∧ r5.toInt ≤ (1 : Int) from (by omega)), (by show (r5.toInt = 1 → (zI S5 4 x0).toInt ≤ 90000); intro h9; have z9 : (0 : Int32).toInt = 0 := rfl; omega)⟩
    ·
      replace c37 := ti_eqN (a := r2) (b := (40 : Int32)) c37 rfl (show (40 : Int32).toInt = 40 from rfl)
      exact t_d_X2_readMoves_128 (S := S) hself34 (x0 := x0) (x1 := x1) (x2 := x2) (x3 := x3) hT hR r_x0 r_x1 r_x2 r_x3 q0 q1 m34
theorem t_d_X2_readMoves_65 {SZ S : ZS} {self34 : Nat → Int32 → Int32 → ZS → Option (Int32 × ZS)} {N34 : Nat} (hself34 : ∀ (x0 : Nat) (x1 : Int32) (x2 : Int32) (S : ZS), ZT S → RG x0 SZ S → (zK S x0 = 2) → ((0 : Int) ≤ x1.toInt ∧ x1.toInt ≤ (6 : Int)) → ((0 : Int) ≤ x2.toInt ∧ x2.toInt ≤ (2001 : Int)) → (TZ SZ) → (IVx S x0 x1.toInt) → (2002 - x2.toInt) < (N34 : Int) → Ok (self34 x0 x1 x2 S) (fun o => ZT o.2 ∧ RG x0 SZ o.2 ∧ ((0 : Int) ≤ o.1.toInt ∧ o.1.toInt ≤ (1 : Int)) ∧ ((o.1.toInt = 1 → (zI o.2 4 x0).toInt ≤ 90000)))) {x0 : Nat} {x1 : Int32} {x2 : Int32} {t0 : Int32} (hT : ZT S) (hR : RG x0 SZ S) (r_x0 : zK S x0 = 2) (r_x1 : (0 : Int) ≤ x1.toInt ∧ x1.toInt ≤ (6 : Int)) (r_x2 : (0 : Int) ≤ x2.toInt ∧ x2.toInt ≤ (2000 : Int)) (r_t0 : (0 : Int) ≤ t0.toInt ∧ t0.toInt ≤ (1 : Int)) (q0 : TZ SZ) (q1 : IVx S x0 x1.toInt) (q2 : t0.toInt = 0 ∨ (∀ b8 b9, zP S 8 x0 = some b8 → zP S 9 x0 = some b9 → zA S b9 x1.toInt.toNat ≠ zA S b8 x1.toInt.toNat)) (m34 : (2002 - x2.toInt) ≤ (N34 : Int)) : Ok (d_X2_readMoves_65 self34 x0 x1 x2 t0 S) (fun o => ZT o.2 ∧ RG x0 SZ o.2 ∧ ((0 : Int) ≤ o.1.toInt ∧ o.1.toInt ≤ (1 : Int)) ∧ ((o.1.toInt = 1 → (zI o.2 4 x0).toInt ≤ 90000))) := by
  unfold d_X2_readMoves_65
  have j40 := J_2_4 hT r_x0
  refine ok_if (fun c41 => ?_) (fun c41 => ?_)
  ·
    replace c41 := ti_eqP (a := x1) (b := (0 : Int32)) c41 rfl (show (0 : Int32).toInt = 0 from rfl)
    refine ok_chk r_x0 ?_
    obtain ⟨r1, h_r1, p_r1⟩ := roz (t_f_X2_resultHere (x0 := x0) hT r_x0)
    dsimp only at p_r1
    refine ok_calR h_r1 ?_
    have rh := rh_v hT r_x0 h_r1
    refine ok_chk ⟨rfl, rfl⟩ ?_
    refine ok_if (fun c42 => ?_) (fun c42 => ?_)
    ·
      replace c42 := ti_eqP (a := r1) (b := (-1 : Int32)) c42 rfl (show (-1 : Int32).toInt = -1 from rfl)
      exact t_d_X2_readMoves_80 (S := S) hself34 (x0 := x0) (x1 := x1) (x2 := x2) (x3 := t0) hT hR r_x0 r_x1 r_x2 r_t0 q0 q1 q2 m34
    ·
      replace c42 := ti_eqN (a := r1) (b := (-1 : Int32)) c42 rfl (show (-1 : Int32).toInt = -1 from rfl)
      refine ok_chk (by decide) ?_
      exact ok_ret ⟨hT, hR, (show (0 : Int) ≤ (1 : Int32).toInt ∧ (1 : Int32).toInt ≤ (1 : Int) from (by decide)), (by show ((1 : Int32).toInt = 1 → (zI S 4 x0).toInt ≤ 90000); exact fun _ => rh (by omega))⟩
  ·
    replace c41 := ti_eqN (a := x1) (b := (0 : Int32)) c41 rfl (show (0 : Int32).toInt = 0 from rfl)
    exact t_d_X2_readMoves_80 (S := S) hself34 (x0 := x0) (x1 := x1) (x2 := x2) (x3 := t0) hT hR r_x0 r_x1 r_x2 r_t0 q0 q1 q2 m34
theorem t_d_X2_readMoves_34s {SZ S : ZS} {self34 : Nat → Int32 → Int32 → ZS → Option (Int32 × ZS)} {N34 : Nat} (hself34 : ∀ (x0 : Nat) (x1 : Int32) (x2 : Int32) (S : ZS), ZT S → RG x0 SZ S → (zK S x0 = 2) → ((0 : Int) ≤ x1.toInt ∧ x1.toInt ≤ (6 : Int)) → ((0 : Int) ≤ x2.toInt ∧ x2.toInt ≤ (2001 : Int)) → (TZ SZ) → (IVx S x0 x1.toInt) → (2002 - x2.toInt) < (N34 : Int) → Ok (self34 x0 x1 x2 S) (fun o => ZT o.2 ∧ RG x0 SZ o.2 ∧ ((0 : Int) ≤ o.1.toInt ∧ o.1.toInt ≤ (1 : Int)) ∧ ((o.1.toInt = 1 → (zI o.2 4 x0).toInt ≤ 90000)))) {x0 : Nat} {x1 : Int32} {x2 : Int32} (hT : ZT S) (hR : RG x0 SZ S) (r_x0 : zK S x0 = 2) (r_x1 : (0 : Int) ≤ x1.toInt ∧ x1.toInt ≤ (6 : Int)) (r_x2 : (0 : Int) ≤ x2.toInt ∧ x2.toInt ≤ (2001 : Int)) (q0 : TZ SZ) (q1 : IVx S x0 x1.toInt) (m34 : (2002 - x2.toInt) ≤ (N34 : Int)) : Ok (d_X2_readMoves_34s self34 x0 x1 x2 S) (fun o => ZT o.2 ∧ RG x0 SZ o.2 ∧ ((0 : Int) ≤ o.1.toInt ∧ o.1.toInt ≤ (1 : Int)) ∧ ((o.1.toInt = 1 → (zI o.2 4 x0).toInt ≤ 90000))) := by
  unfold d_X2_readMoves_34s
  have j43 := J_2_4 hT r_x0
  refine ok_if (fun c44 => ?_) (fun c44 => ?_)
  ·
    replace c44 := ti_ltP (a := (2000 : Int32)) (b := x2) c44 (show (2000 : Int32).toInt = 2000 from rfl) rfl
    refine ok_chk r_x0 ?_
    refine ok_chk r_x0 ?_
    obtain ⟨⟨r1, S1⟩, h_r1, T_S1, A_S1, p_r1⟩ := t_f_X2_refuse (x0 := x0) (x1 := (1 : Int32)) (x2 := (zI S 4 x0)) (SZ := S) hT (a7_0 S) r_x0
    replace T_S1 : ZT S1 := T_S1
    replace A_S1 : A7 S S1 := A_S1
    dsimp only at p_r1
    refine ok_calR h_r1 ?_
    have q_S1 := fq_X2_refuse h_r1
    have kE_S1 : zK S1 = zK S := q_S1.2.2.1
    have nE_S1 : zN S1 = zN S := q_S1.2.2.2.1
    have R_S1 : RG x0 SZ S1 := rg_f hR hT q_S1 (fz_X2_refuse h_r1) (by decide) A_S1.2
    have : (zI S1 4 x0).toInt = (zI S 4 x0).toInt := congrArg Int32.toInt ((((fz_X2_refuse h_r1) hT.2.2.2.2.1).2.2 x0 (by rw [r_x0]; decide)).2.2.1 4 (by rw [r_x0]; decide))
    refine ok_chk ⟨q_S1.1, q_S1.2.1⟩ ?_
    refine ok_chk (nar_b (v := r1) (by omega) (by omega)) ?_
    exact ok_ret ⟨T_S1, R_S1, (show (0 : Int) ≤ r1.toInt ∧ r1.toInt ≤ (1 : Int) from (by omega)), (by show (r1.toInt = 1 → (zI S1 4 x0).toInt ≤ 90000); intro h9; have z9 : (0 : Int32).toInt = 0 := rfl; omega)⟩
  ·
    replace c44 := ti_ltN (a := (2000 : Int32)) (b := x2) c44 (show (2000 : Int32).toInt = 2000 from rfl) rfl
    refine ok_chk r_x0 ?_
    obtain ⟨⟨r2, S2⟩, h_r2, T_S2, A_S2, -⟩ := t_f_X2_skipBlanks (x0 := x0) (SZ := S) hT (a7_0 S) r_x0
    replace T_S2 : ZT S2 := T_S2
    replace A_S2 : A7 S S2 := A_S2
    refine ok_calR h_r2 ?_
    have q_S2 := fq_X2_skipBlanks h_r2
    have kE_S2 : zK S2 = zK S := q_S2.2.2.1
    have nE_S2 : zN S2 = zN S := q_S2.2.2.2.1
    have R_S2 : RG x0 SZ S2 := rg_f hR hT q_S2 (fz_X2_skipBlanks h_r2) (by decide) A_S2.2
    have iv2 := iv_fr hT r_x0 q1 A_S2 (fz_X2_skipBlanks h_r2) (by decide)
    refine ok_chk ⟨q_S2.1, q_S2.2.1⟩ ?_
    refine ok_chk ((congrFun kE_S2 x0).trans r_x0) ?_
    obtain ⟨b3, p_b3, k_b3, n_b3⟩ := T_2_9 T_S2 ((congrFun kE_S2 x0).trans r_x0)
    refine ok_calR p_b3 ?_
    refine ok_chk k_b3 ?_
    refine ok_chk (ti_inN (v := x1) (n := 7) n_b3 (by omega) (by omega)) ?_
    refine ok_bnd (fun v4 e45 => ?_)
    refine ok_chk ((congrFun kE_S2 x0).trans r_x0) ?_
    obtain ⟨b5, p_b5, k_b5, n_b5⟩ := T_2_8 T_S2 ((congrFun kE_S2 x0).trans r_x0)
    refine ok_calR p_b5 ?_
    refine ok_chk k_b5 ?_
    refine ok_chk (ti_inN (v := x1) (n := 7) n_b5 (by omega) (by omega)) ?_
    refine ok_bnd (fun v6 e46 => ?_)
    have ne6 : v4.toInt ≠ v6.toInt → (∀ b8 b9, zP S2 8 x0 = some b8 → zP S2 9 x0 = some b9 → zA S2 b9 x1.toInt.toNat ≠ zA S2 b8 x1.toInt.toNat) := fun hh b8 b9 h8 h9 h => by rw [p_b5] at h8; rw [p_b3] at h9; cases h8; cases h9; exact hh (by rw [e45, e46]; exact congrArg Int32.toInt h)
    refine ok_if (fun c47 => ?_) (fun c47 => ?_)
    ·
      replace c47 := ti_eqP (a := v4) (b := v6) c47 rfl rfl
      exact t_d_X2_readMoves_65 (S := S2) hself34 (x0 := x0) (x1 := x1) (x2 := x2) (t0 := (0 : Int32)) T_S2 R_S2 ((congrFun kE_S2 x0).trans r_x0) r_x1 (by omega) (by decide) q0 iv2 (Or.inl rfl) m34
    ·
      replace c47 := ti_eqN (a := v4) (b := v6) c47 rfl rfl
      exact t_d_X2_readMoves_65 (S := S2) hself34 (x0 := x0) (x1 := x1) (x2 := x2) (t0 := (1 : Int32)) T_S2 R_S2 ((congrFun kE_S2 x0).trans r_x0) r_x1 (by omega) (by decide) q0 iv2 (Or.inr (ne6 (by omega))) m34
theorem t_d_X2_readMoves_34 {SZ : ZS} : ∀ (n : Nat) (x0 : Nat) (x1 : Int32) (x2 : Int32) (S : ZS), ZT S → RG x0 SZ S → (zK S x0 = 2) → ((0 : Int) ≤ x1.toInt ∧ x1.toInt ≤ (6 : Int)) → ((0 : Int) ≤ x2.toInt ∧ x2.toInt ≤ (2001 : Int)) → (TZ SZ) → (IVx S x0 x1.toInt) → (2002 - x2.toInt) < (n : Int) → Ok (d_X2_readMoves_34  n x0 x1 x2 S) (fun o => ZT o.2 ∧ RG x0 SZ o.2 ∧ ((0 : Int) ≤ o.1.toInt ∧ o.1.toInt ≤ (1 : Int)) ∧ ((o.1.toInt = 1 → (zI o.2 4 x0).toInt ≤ 90000))) := by
  intro n
  induction n with
  | zero => intro x0 x1 x2 S hT hR g0 g1 g2 g3 g4  hm; exfalso; omega
  | succ n ih =>
    intro x0 x1 x2 S hT hR g0 g1 g2 g3 g4  hm
    exact t_d_X2_readMoves_34s (N34 := n)  ih hT hR g0 g1 g2 g3 g4  (by omega)
theorem t_d_X2_readMoves_0 {SZ S : ZS} {x0 : Nat} (hT : ZT S) (hR : RG x0 SZ S) (r_x0 : zK S x0 = 2) (q0 : TZ SZ) : Ok (d_X2_readMoves_0 x0 S) (fun o => ZT o.2 ∧ RG x0 SZ o.2 ∧ ((0 : Int) ≤ o.1.toInt ∧ o.1.toInt ≤ (1 : Int)) ∧ ((o.1.toInt = 1 → (zI o.2 4 x0).toInt ≤ 90000))) := by
  unfold d_X2_readMoves_0
  have j48 := J_2_4 hT r_x0
  refine ok_chk r_x0 ?_
  obtain ⟨b1, p_b1, k_b1, n_b1⟩ := T_2_8 hT r_x0
  refine ok_calR p_b1 ?_
  refine ok_chk k_b1 ?_
  refine ok_chk (ti_inN (n := 7) n_b1 (by decide) (by decide)) ?_
  refine ok_bnd (fun S2 e49 => ?_)
  have T_S2 : ZT S2 := e49.symm ▸ zt_A hT k_b1
  have kE_S2 : zK S2 = zK S := by rw [e49]; rfl
  have nE_S2 : zN S2 = zN S := by rw [e49]; rfl
  have R_S2 : RG x0 SZ S2 := rg_A hR hT e49 k_b1
  have : (zI S2 4 x0).toInt = (zI S 4 x0).toInt := by rw [e49]; rfl
  refine ok_chk ((congrFun kE_S2 x0).trans r_x0) ?_
  obtain ⟨b3, p_b3, k_b3, n_b3⟩ := T_2_9 T_S2 ((congrFun kE_S2 x0).trans r_x0)
  refine ok_calR p_b3 ?_
  refine ok_chk k_b3 ?_
  refine ok_chk (ti_inN (n := 7) n_b3 (by decide) (by decide)) ?_
  refine ok_bnd (fun S4 e50 => ?_)
  have T_S4 : ZT S4 := e50.symm ▸ zt_A T_S2 k_b3
  have kE_S4 : zK S4 = zK S2 := by rw [e50]; rfl
  have nE_S4 : zN S4 = zN S2 := by rw [e50]; rfl
  have R_S4 : RG x0 SZ S4 := rg_A R_S2 T_S2 e50 k_b3
  have : (zI S4 4 x0).toInt = (zI S2 4 x0).toInt := by rw [e50]; rfl
  have iv4 : IVx S4 x0 0 := iv_init hT r_x0 p_b1 e49 p_b3 e50
  refine ok_chk ((congrFun kE_S4 x0).trans ((congrFun kE_S2 x0).trans r_x0)) ?_
  obtain ⟨b5, p_b5, k_b5, n_b5⟩ := T_2_11 T_S4 ((congrFun kE_S4 x0).trans ((congrFun kE_S2 x0).trans r_x0))
  refine ok_calR p_b5 ?_
  refine ok_chk k_b5 ?_
  refine ok_chk (ti_inN (n := 7) n_b5 (by decide) (by decide)) ?_
  obtain ⟨b6, p_b6, k_b6⟩ := (T_S4.2.2.2.1 b5).1 k_b5 ((0 : Int32)).toNatClampNeg (by decide)
  refine ok_calR p_b6 ?_
  refine ok_chk ((congrFun kE_S4 x0).trans ((congrFun kE_S2 x0).trans r_x0)) ?_
  obtain ⟨b7, p_b7, k_b7⟩ := T_2_3 T_S4 ((congrFun kE_S4 x0).trans ((congrFun kE_S2 x0).trans r_x0))
  have lo_b7 := M_2_3 T_S4 ((congrFun kE_S4 x0).trans ((congrFun kE_S2 x0).trans r_x0)) p_b7
  refine ok_calR p_b7 ?_
  refine ok_chk k_b7 ?_
  obtain ⟨b8, p_b8, k_b8⟩ := T_1_0 T_S4 k_b7
  refine ok_calR p_b8 ?_
  refine ok_chk k_b6 ?_
  obtain ⟨⟨r9, S9⟩, h_r9, T_S9, A_S9, -⟩ := t_f_X0_copyFrom (x0 := b6) (x1 := b8) (SZ := S4) T_S4 (a7_0 S4) k_b6 k_b8
  replace T_S9 : ZT S9 := T_S9
  replace A_S9 : A7 S4 S9 := A_S9
  refine ok_calR h_r9 ?_
  have q_S9 := fq_X0_copyFrom h_r9
  have kE_S9 : zK S9 = zK S4 := q_S9.2.2.1
  have nE_S9 : zN S9 = zN S4 := q_S9.2.2.2.1
  have R_S9 : RG x0 SZ S9 := rg_f R_S4 T_S4 q_S9 (fz_X0_copyFrom h_r9) (by decide) A_S9.2
  have : (zI S9 4 x0).toInt = (zI S4 4 x0).toInt := congrArg Int32.toInt ((((fz_X0_copyFrom h_r9) T_S4.2.2.2.2.1).2.2 x0 (by rw [((congrFun kE_S4 x0).trans ((congrFun kE_S2 x0).trans r_x0))]; decide)).2.2.1 4 (by rw [((congrFun kE_S4 x0).trans ((congrFun kE_S2 x0).trans r_x0))]; decide))
  have iv9 := iv_fr T_S4 ((congrFun kE_S4 x0).trans ((congrFun kE_S2 x0).trans r_x0)) iv4 A_S9 (fz_X0_copyFrom h_r9) (by decide)
  refine ok_chk ⟨q_S9.1, q_S9.2.1⟩ ?_
  exact t_d_X2_readMoves_34   mFuel x0 (0 : Int32) (0 : Int32) S9 T_S9 R_S9 ((congrFun kE_S9 x0).trans ((congrFun kE_S4 x0).trans ((congrFun kE_S2 x0).trans r_x0))) (by decide) (by decide) q0 (show IVx S9 x0 (0 : Int32).toInt from iv9) (by show _ < ((200000 : Nat) : Int); have z0 : (0 : Int32).toInt = 0 := rfl; have z1 : (0 : Int32).toInt = 0 := rfl; omega)
theorem t_d_X2_readMoves {SZ S : ZS} {x0 : Nat} (hT : ZT S) (hR : RG x0 SZ S) (r_x0 : zK S x0 = 2) (q0 : TZ SZ) : Ok (d_X2_readMoves x0 S) (fun o => ZT o.2 ∧ RG x0 SZ o.2 ∧ ((0 : Int) ≤ o.1.toInt ∧ o.1.toInt ≤ (1 : Int)) ∧ ((o.1.toInt = 1 → (zI o.2 4 x0).toInt ≤ 90000))) := t_d_X2_readMoves_0 hT hR r_x0 q0
