/-- an answer (k = 0), or a throw, with its object made after all else -/
def RQ (S : ZS) (k : Nat) (S' : ZS) : Prop := (k = 0 ∧ ZT S' ∧ RP S S') ∨ (k ≠ 0 ∧ ∃ S1, ZT S1 ∧ RP S S1 ∧ S' = zsQ S1)
theorem rq_n {S S' : ZS} (hT : ZT S') (h : RP S S') : RQ S 0 S' := Or.inl ⟨rfl, hT, h⟩
theorem rq_q {S S' : ZS} {k : Nat} (hk : k ≠ 0) (hT : ZT S') (h : RP S S') : RQ S k (zsQ S') := Or.inr ⟨hk, S', hT, h, rfl⟩
theorem zt_Q {S : ZS} (hT : ZT S) : ZT (zsQ S) := by
  obtain ⟨h1, h2, h3, h4, h5, h6, h7, h8, h9, h10, h11⟩ := hT
  exact ⟨h1, h2, h3, h4, fun a ha => h5 a (Nat.le_trans (Nat.le_succ _) ha), h6, h7, h8, h9, h10, Nat.le_trans h11 (Nat.le_succ _)⟩
theorem t_d_X11_signs_0 {SZ S : ZS} {x0 : Nat} {x1 : Int32} (hT : ZT S) (hR : RP SZ S) (r_x0 : zK S x0 = 11) : Ok (d_X11_signs_0 x0 x1 S) (fun o => ZT o.2 ∧ RQ SZ o.1.1 o.2 ∧ True) := by
  unfold d_X11_signs_0
  refine ok_chk r_x0 ?_
  obtain ⟨b1, p_b1, k_b1⟩ := T_11_2 hT r_x0
  refine ok_calR p_b1 ?_
  refine ok_chk r_x0 ?_
  obtain ⟨b2, p_b2, k_b2⟩ := T_11_9 hT r_x0
  refine ok_calR p_b2 ?_
  refine ok_chk k_b1 ?_
  obtain ⟨⟨r3, S3⟩, h_r3, T_S3, A_S3, p_r3⟩ := t_f_X7_isLegal (x0 := b1) (x1 := b2) (x2 := x1) (SZ := S) hT (a7_0 S) k_b1 k_b2
  replace T_S3 : ZT S3 := T_S3
  replace A_S3 : A7 S S3 := A_S3
  dsimp only at p_r3
  refine ok_calR h_r3 ?_
  have q_S3 := fq_X7_isLegal h_r3
  have kE_S3 : zK S3 = zK S := q_S3.2.2.1
  have nE_S3 : zN S3 = zN S := q_S3.2.2.2.1
  have R_S3 : RP SZ S3 := rp_f hR hT q_S3 (fz_X7_isLegal h_r3) (by decide) A_S3
  refine ok_chk ⟨q_S3.1, q_S3.2.1⟩ ?_
  refine ok_if (fun c1 => ?_) (fun c1 => ?_)
  ·
    replace c1 := ti_eqP (a := r3) (b := (0 : Int32)) c1 rfl (show (0 : Int32).toInt = 0 from rfl)
    exact ok_ret ⟨(zt_Q T_S3), (rq_q (k := 1) (by decide) T_S3 R_S3), trivial⟩
  ·
    replace c1 := ti_eqN (a := r3) (b := (0 : Int32)) c1 rfl (show (0 : Int32).toInt = 0 from rfl)
    refine ok_chk ((congrFun kE_S3 x0).trans r_x0) ?_
    obtain ⟨b4, p_b4, k_b4, c_b4⟩ := T_11_1 T_S3 ((congrFun kE_S3 x0).trans r_x0)
    have lo_b4 := M_11_1 T_S3 ((congrFun kE_S3 x0).trans r_x0) p_b4
    have rl_b4 := rL_x2 lo_b4 c_b4
    refine ok_calR p_b4 ?_
    refine ok_chk k_b4 ?_
    have j2 := J_6_1 T_S3 k_b4
    obtain ⟨⟨r5, S5⟩, h_r5, T_S5, A_S5, -⟩ := t_f_X6_keep (x0 := b4) (x1 := (0 : Int32)) (SZ := S3) T_S3 (a7_0 S3) k_b4
    replace T_S5 : ZT S5 := T_S5
    replace A_S5 : A7 S3 S5 := A_S5
    refine ok_calR h_r5 ?_
    have q_S5 := fq_X6_keep h_r5
    have kE_S5 : zK S5 = zK S3 := q_S5.2.2.1
    have nE_S5 : zN S5 = zN S3 := q_S5.2.2.2.1
    have R_S5 : RP SZ S5 := rp_f R_S3 T_S3 q_S5 (fz_X6_keep h_r5) (by decide) A_S5
    have kl := keep_len k_b4 h_r5 (by decide)
    have z9 : (0 : Int32).toInt = 0 := rfl
    refine ok_chk ⟨q_S5.1, q_S5.2.1⟩ ?_
    refine ok_chk ((congrFun kE_S5 x0).trans ((congrFun kE_S3 x0).trans r_x0)) ?_
    obtain ⟨b6, p_b6, k_b6⟩ := T_11_4 T_S5 ((congrFun kE_S5 x0).trans ((congrFun kE_S3 x0).trans r_x0))
    refine ok_calR p_b6 ?_
    refine ok_chk ((congrFun kE_S5 x0).trans ((congrFun kE_S3 x0).trans r_x0)) ?_
    obtain ⟨b7, p_b7, k_b7⟩ := T_11_9 T_S5 ((congrFun kE_S5 x0).trans ((congrFun kE_S3 x0).trans r_x0))
    refine ok_calR p_b7 ?_
    refine ok_chk ((congrFun kE_S5 x0).trans ((congrFun kE_S3 x0).trans r_x0)) ?_
    obtain ⟨b8, p_b8, k_b8, c_b8⟩ := T_11_1 T_S5 ((congrFun kE_S5 x0).trans ((congrFun kE_S3 x0).trans r_x0))
    have lo_b8 := M_11_1 T_S5 ((congrFun kE_S5 x0).trans ((congrFun kE_S3 x0).trans r_x0)) p_b8
    have rl_b8 := rL_x2 lo_b8 c_b8
    refine ok_calR p_b8 ?_
    have eb : b8 = b4 := by have h9 := p_b8; rw [(((fz_X6_keep h_r5) T_S3.2.2.2.2.1).2.2 x0 (lt18 ((congrFun kE_S3 x0).trans r_x0) (by decide))).2.2.2.1 1 (by rw [((congrFun kE_S3 x0).trans r_x0)]; decide), p_b4] at h9; exact (Option.some.inj h9).symm
    rw [← eb] at kl
    refine ok_chk k_b6 ?_
    have j3 := J_6_1 T_S5 k_b8
    obtain ⟨⟨r10, S11⟩, h_r10, T_S11, B_S11, p_r10_0⟩ := t_d_X9_putSigns (x0 := b6) (x1 := b7) (x2 := x1) (x3 := b8) (SZ := S5) T_S5 (rp_0 S5) k_b6 k_b7 k_b8 rfl rl_b8 (by omega)
    replace T_S11 : ZT S11 := T_S11
    replace B_S11 : RP S5 S11 := B_S11
    have R_S11 : RP SZ S11 := rp_t R_S5 B_S11
    dsimp only at p_r10_0
    refine ok_cal2R h_r10 ?_
    have g_S11 := (fz_X9_putSigns h_r10 T_S5.2.2.2.2.1).2.2
    refine ok_chk ((g_S11 x0 (lt18 ((congrFun kE_S5 x0).trans ((congrFun kE_S3 x0).trans r_x0)) (by decide))).1.trans ((congrFun kE_S5 x0).trans ((congrFun kE_S3 x0).trans r_x0))) ?_
    obtain ⟨b14, p_b14, k_b14, c_b14⟩ := T_11_1 T_S11 ((g_S11 x0 (lt18 ((congrFun kE_S5 x0).trans ((congrFun kE_S3 x0).trans r_x0)) (by decide))).1.trans ((congrFun kE_S5 x0).trans ((congrFun kE_S3 x0).trans r_x0)))
    have lo_b14 := M_11_1 T_S11 ((g_S11 x0 (lt18 ((congrFun kE_S5 x0).trans ((congrFun kE_S3 x0).trans r_x0)) (by decide))).1.trans ((congrFun kE_S5 x0).trans ((congrFun kE_S3 x0).trans r_x0))) p_b14
    have rl_b14 := rL_x2 lo_b14 c_b14
    refine ok_calR p_b14 ?_
    refine ok_chk k_b14 ?_
    have j4 := J_6_1 T_S11 k_b14
    obtain ⟨r15, h_r15, p_r15⟩ := roz (t_f_X6_size (x0 := b14) T_S11 k_b14)
    dsimp only at p_r15
    refine ok_calR h_r15 ?_
    have s_r15 : r15.toInt = (zI S11 1 b14).toInt := congrArg Int32.toInt p_r15.2
    refine ok_chk ⟨rfl, rfl⟩ ?_
    exact ok_ret ⟨T_S11, (rq_n T_S11 R_S11), trivial⟩
theorem t_d_X11_signs {SZ S : ZS} {x0 : Nat} {x1 : Int32} (hT : ZT S) (hR : RP SZ S) (r_x0 : zK S x0 = 11) : Ok (d_X11_signs x0 x1 S) (fun o => ZT o.2 ∧ RQ SZ o.1.1 o.2 ∧ True) := t_d_X11_signs_0 hT hR r_x0
theorem t_d_X11_node_0 {SZ S : ZS} {x0 : Nat} {x1 : Int32} {x2 : Int32} (hT : ZT S) (hR : RP SZ S) (r_x0 : zK S x0 = 11) : Ok (d_X11_node_0 x0 x1 x2 S) (fun o => ZT o.2 ∧ RQ SZ o.1.1 o.2 ∧ True) := by
  unfold d_X11_node_0
  refine ok_chk r_x0 ?_
  obtain ⟨b1, p_b1, k_b1⟩ := T_11_7 hT r_x0
  have lo_b1 := M_11_7 hT r_x0 p_b1
  refine ok_calR p_b1 ?_
  refine ok_chk k_b1 ?_
  obtain ⟨r2, h_r2, p_r2⟩ := roz (t_f_X1_has (x0 := b1) (x1 := x1) hT k_b1)
  dsimp only at p_r2
  refine ok_calR h_r2 ?_
  refine ok_chk ⟨rfl, rfl⟩ ?_
  refine ok_if (fun c5 => ?_) (fun c5 => ?_)
  ·
    replace c5 := ti_eqP (a := r2) (b := (0 : Int32)) c5 rfl (show (0 : Int32).toInt = 0 from rfl)
    exact ok_ret ⟨(zt_Q hT), (rq_q (k := 2) (by decide) hT hR), trivial⟩
  ·
    replace c5 := ti_eqN (a := r2) (b := (0 : Int32)) c5 rfl (show (0 : Int32).toInt = 0 from rfl)
    refine ok_chk r_x0 ?_
    refine ok_calR p_b1 ?_
    refine ok_chk k_b1 ?_
    obtain ⟨r4, h_r4, p_r4⟩ := roz (t_f_X1_at (x0 := b1) (x1 := x1) hT k_b1)
    dsimp only at p_r4
    refine ok_calR h_r4 ?_
    refine ok_chk ⟨rfl, rfl⟩ ?_
    refine ok_if (fun c6 => ?_) (fun c6 => ?_)
    ·
      replace c6 := ti_eqP (a := x2) (b := (0 : Int32)) c6 rfl (show (0 : Int32).toInt = 0 from rfl)
      refine ok_chk p_r4.1 ?_
      exact ok_ret ⟨hT, (rq_n hT hR), trivial⟩
    ·
      replace c6 := ti_eqN (a := x2) (b := (0 : Int32)) c6 rfl (show (0 : Int32).toInt = 0 from rfl)
      refine ok_if (fun c7 => ?_) (fun c7 => ?_)
      ·
        replace c7 := ti_eqP (a := x2) (b := (1 : Int32)) c7 rfl (show (1 : Int32).toInt = 1 from rfl)
        refine ok_chk p_r4.1 ?_
        exact ok_ret ⟨hT, (rq_n hT hR), trivial⟩
      ·
        replace c7 := ti_eqN (a := x2) (b := (1 : Int32)) c7 rfl (show (1 : Int32).toInt = 1 from rfl)
        refine ok_if (fun c8 => ?_) (fun c8 => ?_)
        ·
          replace c8 := ti_eqP (a := x2) (b := (2 : Int32)) c8 rfl (show (2 : Int32).toInt = 2 from rfl)
          refine ok_chk p_r4.1 ?_
          exact ok_ret ⟨hT, (rq_n hT hR), trivial⟩
        ·
          replace c8 := ti_eqN (a := x2) (b := (2 : Int32)) c8 rfl (show (2 : Int32).toInt = 2 from rfl)
          refine ok_if (fun c9 => ?_) (fun c9 => ?_)
          ·
            replace c9 := ti_eqP (a := x2) (b := (3 : Int32)) c9 rfl (show (3 : Int32).toInt = 3 from rfl)
            refine ok_chk p_r4.1 ?_
            exact ok_ret ⟨hT, (rq_n hT hR), trivial⟩
          ·
            replace c9 := ti_eqN (a := x2) (b := (3 : Int32)) c9 rfl (show (3 : Int32).toInt = 3 from rfl)
            refine ok_if (fun c10 => ?_) (fun c10 => ?_)
            ·
              replace c10 := ti_eqP (a := x2) (b := (4 : Int32)) c10 rfl (show (4 : Int32).toInt = 4 from rfl)
              refine ok_chk p_r4.1 ?_
              exact ok_ret ⟨hT, (rq_n hT hR), trivial⟩
            ·
              replace c10 := ti_eqN (a := x2) (b := (4 : Int32)) c10 rfl (show (4 : Int32).toInt = 4 from rfl)
              refine ok_if (fun c11 => ?_) (fun c11 => ?_)
              ·
                replace c11 := ti_eqP (a := x2) (b := (5 : Int32)) c11 rfl (show (5 : Int32).toInt = 5 from rfl)
                refine ok_chk p_r4.1 ?_
                obtain ⟨b5, p_b5, k_b5, c_b5⟩ := T_4_6 hT p_r4.1
                have rl_b5 := rL_0 c_b5
                refine ok_calR p_b5 ?_
                refine ok_chk k_b5 ?_
                have j12 := J61_0 hT k_b5 c_b5
                obtain ⟨r6, h_r6, p_r6⟩ := roz (t_f_X6_size (x0 := b5) hT k_b5)
                dsimp only at p_r6
                refine ok_calR h_r6 ?_
                have s_r6 : r6.toInt = (zI S 1 b5).toInt := congrArg Int32.toInt p_r6.2
                refine ok_chk ⟨rfl, rfl⟩ ?_
                exact ok_ret ⟨hT, (rq_n hT hR), trivial⟩
              ·
                replace c11 := ti_eqN (a := x2) (b := (5 : Int32)) c11 rfl (show (5 : Int32).toInt = 5 from rfl)
                exact ok_ret ⟨(zt_Q hT), (rq_q (k := 2) (by decide) hT hR), trivial⟩
theorem t_d_X11_node {SZ S : ZS} {x0 : Nat} {x1 : Int32} {x2 : Int32} (hT : ZT S) (hR : RP SZ S) (r_x0 : zK S x0 = 11) : Ok (d_X11_node x0 x1 x2 S) (fun o => ZT o.2 ∧ RQ SZ o.1.1 o.2 ∧ True) := t_d_X11_node_0 hT hR r_x0
theorem t_d_X11_mark_0 {SZ S : ZS} {x0 : Nat} {x1 : Int32} {x2 : Int32} (hT : ZT S) (hR : RP SZ S) (r_x0 : zK S x0 = 11) : Ok (d_X11_mark_0 x0 x1 x2 S) (fun o => ZT o.2 ∧ RQ SZ o.1.1 o.2 ∧ True) := by
  unfold d_X11_mark_0
  refine ok_chk r_x0 ?_
  obtain ⟨b1, p_b1, k_b1⟩ := T_11_7 hT r_x0
  have lo_b1 := M_11_7 hT r_x0 p_b1
  refine ok_calR p_b1 ?_
  refine ok_chk k_b1 ?_
  obtain ⟨r2, h_r2, p_r2⟩ := roz (t_f_X1_has (x0 := b1) (x1 := x1) hT k_b1)
  dsimp only at p_r2
  refine ok_calR h_r2 ?_
  refine ok_chk ⟨rfl, rfl⟩ ?_
  refine ok_if (fun c13 => ?_) (fun c13 => ?_)
  ·
    replace c13 := ti_eqP (a := r2) (b := (0 : Int32)) c13 rfl (show (0 : Int32).toInt = 0 from rfl)
    unfold d_X11_mark_30
    exact ok_ret ⟨(zt_Q hT), (rq_q (k := 2) (by decide) hT hR), trivial⟩
  ·
    replace c13 := ti_eqN (a := r2) (b := (0 : Int32)) c13 rfl (show (0 : Int32).toInt = 0 from rfl)
    refine ok_if (fun c14 => ?_) (fun c14 => ?_)
    ·
      replace c14 := ti_ltP (a := x2) (b := (0 : Int32)) c14 rfl (show (0 : Int32).toInt = 0 from rfl)
      unfold d_X11_mark_30
      exact ok_ret ⟨(zt_Q hT), (rq_q (k := 2) (by decide) hT hR), trivial⟩
    ·
      replace c14 := ti_ltN (a := x2) (b := (0 : Int32)) c14 rfl (show (0 : Int32).toInt = 0 from rfl)
      refine ok_chk r_x0 ?_
      refine ok_calR p_b1 ?_
      refine ok_chk k_b1 ?_
      obtain ⟨r4, h_r4, p_r4⟩ := roz (t_f_X1_at (x0 := b1) (x1 := x1) hT k_b1)
      dsimp only at p_r4
      refine ok_calR h_r4 ?_
      refine ok_chk ⟨rfl, rfl⟩ ?_
      refine ok_chk p_r4.1 ?_
      have j15 := J_4_4 hT p_r4.1
      refine ok_if (fun c16 => ?_) (fun c16 => ?_)
      ·
        replace c16 := ti_ltP (a := x2) (b := (zI S 4 r4)) c16 rfl rfl
        refine ok_chk r_x0 ?_
        refine ok_calR p_b1 ?_
        refine ok_chk k_b1 ?_
        obtain ⟨r6, h_r6, p_r6⟩ := roz (t_f_X1_at (x0 := b1) (x1 := x1) hT k_b1)
        dsimp only at p_r6
        refine ok_calR h_r6 ?_
        refine ok_chk ⟨rfl, rfl⟩ ?_
        refine ok_chk p_r6.1 ?_
        obtain ⟨r7, h_r7, p_r7⟩ := roz (t_f_X4_markAt (x0 := r6) (x1 := x2) hT p_r6.1)
        dsimp only at p_r7
        refine ok_calR h_r7 ?_
        refine ok_chk ⟨rfl, rfl⟩ ?_
        exact ok_ret ⟨hT, (rq_n hT hR), trivial⟩
      ·
        replace c16 := ti_ltN (a := x2) (b := (zI S 4 r4)) c16 rfl rfl
        unfold d_X11_mark_30
        exact ok_ret ⟨(zt_Q hT), (rq_q (k := 2) (by decide) hT hR), trivial⟩
theorem t_d_X11_mark {SZ S : ZS} {x0 : Nat} {x1 : Int32} {x2 : Int32} (hT : ZT S) (hR : RP SZ S) (r_x0 : zK S x0 = 11) : Ok (d_X11_mark x0 x1 x2 S) (fun o => ZT o.2 ∧ RQ SZ o.1.1 o.2 ∧ True) := t_d_X11_mark_0 hT hR r_x0
theorem t_d_X11_remark_0 {SZ S : ZS} {x0 : Nat} {x1 : Int32} {x2 : Int32} (hT : ZT S) (hR : RP SZ S) (r_x0 : zK S x0 = 11) : Ok (d_X11_remark_0 x0 x1 x2 S) (fun o => ZT o.2 ∧ RQ SZ o.1.1 o.2 ∧ True) := by
  unfold d_X11_remark_0
  refine ok_chk r_x0 ?_
  obtain ⟨b1, p_b1, k_b1⟩ := T_11_7 hT r_x0
  have lo_b1 := M_11_7 hT r_x0 p_b1
  refine ok_calR p_b1 ?_
  refine ok_chk k_b1 ?_
  obtain ⟨r2, h_r2, p_r2⟩ := roz (t_f_X1_has (x0 := b1) (x1 := x1) hT k_b1)
  dsimp only at p_r2
  refine ok_calR h_r2 ?_
  refine ok_chk ⟨rfl, rfl⟩ ?_
  refine ok_if (fun c17 => ?_) (fun c17 => ?_)
  ·
    replace c17 := ti_eqP (a := r2) (b := (0 : Int32)) c17 rfl (show (0 : Int32).toInt = 0 from rfl)
    unfold d_X11_remark_33
    exact ok_ret ⟨(zt_Q hT), (rq_q (k := 2) (by decide) hT hR), trivial⟩
  ·
    replace c17 := ti_eqN (a := r2) (b := (0 : Int32)) c17 rfl (show (0 : Int32).toInt = 0 from rfl)
    refine ok_if (fun c18 => ?_) (fun c18 => ?_)
    ·
      replace c18 := ti_ltP (a := x2) (b := (0 : Int32)) c18 rfl (show (0 : Int32).toInt = 0 from rfl)
      unfold d_X11_remark_33
      exact ok_ret ⟨(zt_Q hT), (rq_q (k := 2) (by decide) hT hR), trivial⟩
    ·
      replace c18 := ti_ltN (a := x2) (b := (0 : Int32)) c18 rfl (show (0 : Int32).toInt = 0 from rfl)
      refine ok_chk r_x0 ?_
      refine ok_calR p_b1 ?_
      refine ok_chk k_b1 ?_
      obtain ⟨r4, h_r4, p_r4⟩ := roz (t_f_X1_at (x0 := b1) (x1 := x1) hT k_b1)
      dsimp only at p_r4
      refine ok_calR h_r4 ?_
      refine ok_chk ⟨rfl, rfl⟩ ?_
      refine ok_chk p_r4.1 ?_
      obtain ⟨b5, p_b5, k_b5, c_b5⟩ := T_4_6 hT p_r4.1
      have rl_b5 := rL_0 c_b5
      refine ok_calR p_b5 ?_
      refine ok_chk k_b5 ?_
      have j19 := J61_0 hT k_b5 c_b5
      obtain ⟨r6, h_r6, p_r6⟩ := roz (t_f_X6_size (x0 := b5) hT k_b5)
      dsimp only at p_r6
      refine ok_calR h_r6 ?_
      have s_r6 : r6.toInt = (zI S 1 b5).toInt := congrArg Int32.toInt p_r6.2
      refine ok_chk ⟨rfl, rfl⟩ ?_
      refine ok_if (fun c20 => ?_) (fun c20 => ?_)
      ·
        replace c20 := ti_ltP (a := x2) (b := r6) c20 rfl rfl
        refine ok_chk r_x0 ?_
        refine ok_calR p_b1 ?_
        refine ok_chk k_b1 ?_
        obtain ⟨r8, h_r8, p_r8⟩ := roz (t_f_X1_at (x0 := b1) (x1 := x1) hT k_b1)
        dsimp only at p_r8
        refine ok_calR h_r8 ?_
        refine ok_chk ⟨rfl, rfl⟩ ?_
        refine ok_chk p_r8.1 ?_
        obtain ⟨b9, p_b9, k_b9, c_b9⟩ := T_4_6 hT p_r8.1
        have rl_b9 := rL_0 c_b9
        refine ok_calR p_b9 ?_
        refine ok_chk k_b9 ?_
        have j21 := J61_0 hT k_b9 c_b9
        obtain ⟨r10, h_r10, p_r10⟩ := roz (t_f_X6_at (x0 := b9) (x1 := x2) hT k_b9)
        dsimp only at p_r10
        refine ok_calR h_r10 ?_
        refine ok_chk ⟨rfl, rfl⟩ ?_
        exact ok_ret ⟨hT, (rq_n hT hR), trivial⟩
      ·
        replace c20 := ti_ltN (a := x2) (b := r6) c20 rfl rfl
        unfold d_X11_remark_33
        exact ok_ret ⟨(zt_Q hT), (rq_q (k := 2) (by decide) hT hR), trivial⟩
theorem t_d_X11_remark {SZ S : ZS} {x0 : Nat} {x1 : Int32} {x2 : Int32} (hT : ZT S) (hR : RP SZ S) (r_x0 : zK S x0 = 11) : Ok (d_X11_remark x0 x1 x2 S) (fun o => ZT o.2 ∧ RQ SZ o.1.1 o.2 ∧ True) := t_d_X11_remark_0 hT hR r_x0
theorem t_d_X11_man_0 {SZ S : ZS} {x0 : Nat} {x1 : Int32} (hT : ZT S) (hR : RP SZ S) (r_x0 : zK S x0 = 11) : Ok (d_X11_man_0 x0 x1 S) (fun o => ZT o.2 ∧ RQ SZ o.1.1 o.2 ∧ True) := by
  unfold d_X11_man_0
  refine ok_if (fun c22 => ?_) (fun c22 => ?_)
  ·
    replace c22 := ti_ltP (a := x1) (b := (0 : Int32)) c22 rfl (show (0 : Int32).toInt = 0 from rfl)
    unfold d_X11_man_10
    exact ok_ret ⟨(zt_Q hT), (rq_q (k := 2) (by decide) hT hR), trivial⟩
  ·
    replace c22 := ti_ltN (a := x1) (b := (0 : Int32)) c22 rfl (show (0 : Int32).toInt = 0 from rfl)
    refine ok_if (fun c23 => ?_) (fun c23 => ?_)
    ·
      replace c23 := ti_ltP (a := x1) (b := (64 : Int32)) c23 rfl (show (64 : Int32).toInt = 64 from rfl)
      refine ok_chk r_x0 ?_
      obtain ⟨b1, p_b1, k_b1⟩ := T_11_9 hT r_x0
      refine ok_calR p_b1 ?_
      refine ok_chk k_b1 ?_
      obtain ⟨b2, p_b2, k_b2, n_b2⟩ := T_0_0 hT k_b1
      refine ok_calR p_b2 ?_
      refine ok_chk k_b2 ?_
      refine ok_chk (ti_inN (v := x1) (n := 64) n_b2 (by omega) (by omega)) ?_
      refine ok_bnd (fun v3 e24 => ?_)
      exact ok_ret ⟨hT, (rq_n hT hR), trivial⟩
    ·
      replace c23 := ti_ltN (a := x1) (b := (64 : Int32)) c23 rfl (show (64 : Int32).toInt = 64 from rfl)
      unfold d_X11_man_10
      exact ok_ret ⟨(zt_Q hT), (rq_q (k := 2) (by decide) hT hR), trivial⟩
theorem t_d_X11_man {SZ S : ZS} {x0 : Nat} {x1 : Int32} (hT : ZT S) (hR : RP SZ S) (r_x0 : zK S x0 = 11) : Ok (d_X11_man x0 x1 S) (fun o => ZT o.2 ∧ RQ SZ o.1.1 o.2 ∧ True) := t_d_X11_man_0 hT hR r_x0
theorem t_d_X11_addMark_0 {SZ S : ZS} {x0 : Nat} {x1 : Int32} (hT : ZT S) (hR : RP SZ S) (r_x0 : zK S x0 = 11) : Ok (d_X11_addMark_0 x0 x1 S) (fun o => ZT o.2 ∧ RQ SZ o.1.1 o.2 ∧ True) := by
  unfold d_X11_addMark_0
  refine ok_if (fun c25 => ?_) (fun c25 => ?_)
  ·
    replace c25 := ti_ltP (a := x1) (b := (0 : Int32)) c25 rfl (show (0 : Int32).toInt = 0 from rfl)
    unfold d_X11_addMark_11
    exact ok_ret ⟨(zt_Q hT), (rq_q (k := 1) (by decide) hT hR), trivial⟩
  ·
    replace c25 := ti_ltN (a := x1) (b := (0 : Int32)) c25 rfl (show (0 : Int32).toInt = 0 from rfl)
    refine ok_if (fun c26 => ?_) (fun c26 => ?_)
    ·
      replace c26 := ti_leP (a := x1) (b := (255 : Int32)) c26 rfl (show (255 : Int32).toInt = 255 from rfl)
      refine ok_chk r_x0 ?_
      obtain ⟨b1, p_b1, k_b1⟩ := T_11_7 hT r_x0
      have lo_b1 := M_11_7 hT r_x0 p_b1
      refine ok_calR p_b1 ?_
      refine ok_chk r_x0 ?_
      refine ok_chk k_b1 ?_
      obtain ⟨r2, h_r2, p_r2⟩ := roz (t_f_X1_at (x0 := b1) (x1 := (zI S 8 x0)) hT k_b1)
      dsimp only at p_r2
      refine ok_calR h_r2 ?_
      refine ok_chk ⟨rfl, rfl⟩ ?_
      refine ok_chk r_x0 ?_
      have j27 := J_11_8 hT r_x0
      refine ok_if (fun c28 => ?_) (fun c28 => ?_)
      ·
        replace c28 := ti_eqP (a := (zI S 8 x0)) (b := (0 : Int32)) c28 rfl (show (0 : Int32).toInt = 0 from rfl)
        unfold d_X11_addMark_48
        exact ok_ret ⟨(zt_Q hT), (rq_q (k := 4) (by decide) hT hR), trivial⟩
      ·
        replace c28 := ti_eqN (a := (zI S 8 x0)) (b := (0 : Int32)) c28 rfl (show (0 : Int32).toInt = 0 from rfl)
        refine ok_chk p_r2.1 ?_
        have j29 := J_4_4 hT p_r2.1
        refine ok_if (fun c30 => ?_) (fun c30 => ?_)
        ·
          replace c30 := ti_ltP (a := (zI S 4 r2)) (b := (4 : Int32)) c30 rfl (show (4 : Int32).toInt = 4 from rfl)
          refine ok_chk p_r2.1 ?_
          obtain ⟨⟨r3, S3⟩, h_r3, T_S3, A_S3, -⟩ := t_f_X4_putMark (x0 := r2) (x1 := x1) (SZ := S) hT (a7_0 S) p_r2.1 (by omega)
          replace T_S3 : ZT S3 := T_S3
          replace A_S3 : A7 S S3 := A_S3
          refine ok_calR h_r3 ?_
          have q_S3 := fq_X4_putMark h_r3
          have kE_S3 : zK S3 = zK S := q_S3.2.2.1
          have nE_S3 : zN S3 = zN S := q_S3.2.2.2.1
          have R_S3 : RP SZ S3 := rp_f hR hT q_S3 (fz_X4_putMark h_r3) (by decide) A_S3
          refine ok_chk ⟨q_S3.1, q_S3.2.1⟩ ?_
          refine ok_chk ((congrFun kE_S3 r2).trans p_r2.1) ?_
          exact ok_ret ⟨T_S3, (rq_n T_S3 R_S3), trivial⟩
        ·
          replace c30 := ti_ltN (a := (zI S 4 r2)) (b := (4 : Int32)) c30 rfl (show (4 : Int32).toInt = 4 from rfl)
          unfold d_X11_addMark_48
          exact ok_ret ⟨(zt_Q hT), (rq_q (k := 4) (by decide) hT hR), trivial⟩
    ·
      replace c26 := ti_leN (a := x1) (b := (255 : Int32)) c26 rfl (show (255 : Int32).toInt = 255 from rfl)
      unfold d_X11_addMark_11
      exact ok_ret ⟨(zt_Q hT), (rq_q (k := 1) (by decide) hT hR), trivial⟩
theorem t_d_X11_addMark {SZ S : ZS} {x0 : Nat} {x1 : Int32} (hT : ZT S) (hR : RP SZ S) (r_x0 : zK S x0 = 11) : Ok (d_X11_addMark x0 x1 S) (fun o => ZT o.2 ∧ RQ SZ o.1.1 o.2 ∧ True) := t_d_X11_addMark_0 hT hR r_x0
theorem t_d_X11_say_0 {SZ S : ZS} {x0 : Nat} (hT : ZT S) (hR : RP SZ S) (r_x0 : zK S x0 = 11) : Ok (d_X11_say_0 x0 S) (fun o => ZT o.2 ∧ RQ SZ o.1.1 o.2 ∧ True) := by
  unfold d_X11_say_0
  refine ok_chk r_x0 ?_
  obtain ⟨b1, p_b1, k_b1, c_b1⟩ := T_11_0 hT r_x0
  have lo_b1 := M_11_0 hT r_x0 p_b1
  have rl_b1 := rL_x1 lo_b1 c_b1
  refine ok_calR p_b1 ?_
  refine ok_chk k_b1 ?_
  have j31 := J61_1 hT k_b1 c_b1
  obtain ⟨r2, h_r2, p_r2⟩ := roz (t_f_X6_size (x0 := b1) hT k_b1)
  dsimp only at p_r2
  refine ok_calR h_r2 ?_
  have s_r2 : r2.toInt = (zI S 1 b1).toInt := congrArg Int32.toInt p_r2.2
  refine ok_chk ⟨rfl, rfl⟩ ?_
  refine ok_if (fun c32 => ?_) (fun c32 => ?_)
  ·
    replace c32 := ti_ltP (a := (200 : Int32)) (b := r2) c32 (show (200 : Int32).toInt = 200 from rfl) rfl
    unfold d_X11_say_43
    exact ok_ret ⟨(zt_Q hT), (rq_q (k := 1) (by decide) hT hR), trivial⟩
  ·
    replace c32 := ti_ltN (a := (200 : Int32)) (b := r2) c32 (show (200 : Int32).toInt = 200 from rfl) rfl
    refine ok_chk r_x0 ?_
    refine ok_calR p_b1 ?_
    refine ok_chk k_b1 ?_
    obtain ⟨r4, h_r4, p_r4⟩ := roz (t_f_X6_indexOf (x0 := b1) (x1 := (125 : Int32)) (x2 := (0 : Int32)) hT k_b1 (by have z0 : (125 : Int32).toInt = 125 := rfl; have z1 : (0 : Int32).toInt = 0 := rfl; omega))
    dsimp only at p_r4
    refine ok_calR h_r4 ?_
    refine ok_chk ⟨rfl, rfl⟩ ?_
    refine ok_if (fun c33 => ?_) (fun c33 => ?_)
    ·
      replace c33 := ti_ltP (a := r4) (b := r2) c33 rfl rfl
      unfold d_X11_say_43
      exact ok_ret ⟨(zt_Q hT), (rq_q (k := 1) (by decide) hT hR), trivial⟩
    ·
      replace c33 := ti_ltN (a := r4) (b := r2) c33 rfl rfl
      refine ok_chk r_x0 ?_
      refine ok_calR p_b1 ?_
      refine ok_chk k_b1 ?_
      obtain ⟨r6, h_r6, p_r6⟩ := roz (t_f_X6_indexOf (x0 := b1) (x1 := (10 : Int32)) (x2 := (0 : Int32)) hT k_b1 (by have z0 : (10 : Int32).toInt = 10 := rfl; have z1 : (0 : Int32).toInt = 0 := rfl; omega))
      dsimp only at p_r6
      refine ok_calR h_r6 ?_
      refine ok_chk ⟨rfl, rfl⟩ ?_
      refine ok_if (fun c34 => ?_) (fun c34 => ?_)
      ·
        replace c34 := ti_leP (a := r2) (b := r6) c34 rfl rfl
        refine ok_chk r_x0 ?_
        obtain ⟨b7, p_b7, k_b7⟩ := T_11_7 hT r_x0
        have lo_b7 := M_11_7 hT r_x0 p_b7
        refine ok_calR p_b7 ?_
        refine ok_chk r_x0 ?_
        refine ok_chk k_b7 ?_
        obtain ⟨r8, h_r8, p_r8⟩ := roz (t_f_X1_at (x0 := b7) (x1 := (zI S 8 x0)) hT k_b7)
        dsimp only at p_r8
        refine ok_calR h_r8 ?_
        refine ok_chk ⟨rfl, rfl⟩ ?_
        refine ok_chk p_r8.1 ?_
        obtain ⟨b9, p_b9, k_b9, c_b9⟩ := T_4_6 hT p_r8.1
        have rl_b9 := rL_0 c_b9
        refine ok_calR p_b9 ?_
        refine ok_chk r_x0 ?_
        refine ok_calR p_b1 ?_
        refine ok_chk k_b9 ?_
        have j35 := J61_0 hT k_b9 c_b9
        obtain ⟨⟨r12, S13⟩, h_r12, T_S13, B_S13, p_r12_0⟩ := t_d_X6_copyFrom (x0 := b9) (x1 := b1) (SZ := S) hT (rp_0 S) k_b9 k_b1 (Or.inr (by omega))
        replace T_S13 : ZT S13 := T_S13
        replace B_S13 : RP S S13 := B_S13
        have R_S13 : RP SZ S13 := rp_t hR B_S13
        dsimp only at p_r12_0
        refine ok_cal2R h_r12 ?_
        have g_S13 := (fz_X6_copyFrom h_r12 hT.2.2.2.2.1).2.2
        refine ok_chk ((g_S13 x0 (lt18 r_x0 (by decide))).1.trans r_x0) ?_
        obtain ⟨b16, p_b16, k_b16, c_b16⟩ := T_11_0 T_S13 ((g_S13 x0 (lt18 r_x0 (by decide))).1.trans r_x0)
        have lo_b16 := M_11_0 T_S13 ((g_S13 x0 (lt18 r_x0 (by decide))).1.trans r_x0) p_b16
        have rl_b16 := rL_x1 lo_b16 c_b16
        refine ok_calR p_b16 ?_
        refine ok_chk k_b16 ?_
        have j36 := J61_1 T_S13 k_b16 c_b16
        obtain ⟨⟨r17, S17⟩, h_r17, T_S17, A_S17, -⟩ := t_f_X6_keep (x0 := b16) (x1 := (0 : Int32)) (SZ := S13) T_S13 (a7_0 S13) k_b16
        replace T_S17 : ZT S17 := T_S17
        replace A_S17 : A7 S13 S17 := A_S17
        refine ok_calR h_r17 ?_
        have q_S17 := fq_X6_keep h_r17
        have kE_S17 : zK S17 = zK S13 := q_S17.2.2.1
        have nE_S17 : zN S17 = zN S13 := q_S17.2.2.2.1
        have R_S17 : RP SZ S17 := rp_f R_S13 T_S13 q_S17 (fz_X6_keep h_r17) (by decide) A_S17
        refine ok_chk ⟨q_S17.1, q_S17.2.1⟩ ?_
        exact ok_ret ⟨T_S17, (rq_n T_S17 R_S17), trivial⟩
      ·
        replace c34 := ti_leN (a := r2) (b := r6) c34 rfl rfl
        unfold d_X11_say_43
        exact ok_ret ⟨(zt_Q hT), (rq_q (k := 1) (by decide) hT hR), trivial⟩
theorem t_d_X11_say {SZ S : ZS} {x0 : Nat} (hT : ZT S) (hR : RP SZ S) (r_x0 : zK S x0 = 11) : Ok (d_X11_say x0 S) (fun o => ZT o.2 ∧ RQ SZ o.1.1 o.2 ∧ True) := t_d_X11_say_0 hT hR r_x0
theorem t_d_X11_end_0 {SZ S : ZS} {x0 : Nat} {x1 : Int32} (hT : ZT S) (hR : RP SZ S) (r_x0 : zK S x0 = 11) : Ok (d_X11_end_0 x0 x1 S) (fun o => ZT o.2 ∧ RQ SZ o.1.1 o.2 ∧ True) := by
  unfold d_X11_end_0
  refine ok_if (fun c37 => ?_) (fun c37 => ?_)
  ·
    replace c37 := ti_ltP (a := x1) (b := (0 : Int32)) c37 rfl (show (0 : Int32).toInt = 0 from rfl)
    unfold d_X11_end_9
    exact ok_ret ⟨(zt_Q hT), (rq_q (k := 1) (by decide) hT hR), trivial⟩
  ·
    replace c37 := ti_ltN (a := x1) (b := (0 : Int32)) c37 rfl (show (0 : Int32).toInt = 0 from rfl)
    refine ok_if (fun c38 => ?_) (fun c38 => ?_)
    ·
      replace c38 := ti_ltP (a := x1) (b := (4 : Int32)) c38 rfl (show (4 : Int32).toInt = 4 from rfl)
      refine ok_chk r_x0 ?_
      obtain ⟨b1, p_b1, k_b1⟩ := T_11_7 hT r_x0
      have lo_b1 := M_11_7 hT r_x0 p_b1
      refine ok_calR p_b1 ?_
      refine ok_chk k_b1 ?_
      refine ok_bnd (fun S2 e39 => ?_)
      have T_S2 : ZT S2 := e39.symm ▸ zt_W hT k_b1 (by decide) rfl
      have kE_S2 : zK S2 = zK S := by rw [e39]; rfl
      have nE_S2 : zN S2 = zN S := by rw [e39]; rfl
      have R_S2 : RP SZ S2 := rp_I hR hT k_b1 e39 (by decide)
      exact ok_ret ⟨T_S2, (rq_n T_S2 R_S2), trivial⟩
    ·
      replace c38 := ti_ltN (a := x1) (b := (4 : Int32)) c38 rfl (show (4 : Int32).toInt = 4 from rfl)
      unfold d_X11_end_9
      exact ok_ret ⟨(zt_Q hT), (rq_q (k := 1) (by decide) hT hR), trivial⟩
theorem t_d_X11_end {SZ S : ZS} {x0 : Nat} {x1 : Int32} (hT : ZT S) (hR : RP SZ S) (r_x0 : zK S x0 = 11) : Ok (d_X11_end x0 x1 S) (fun o => ZT o.2 ∧ RQ SZ o.1.1 o.2 ∧ True) := t_d_X11_end_0 hT hR r_x0
theorem t_d_X11_tag_0 {SZ S : ZS} {x0 : Nat} {x1 : Int32} {x2 : Int32} {x3 : Int32} (hT : ZT S) (hR : RP SZ S) (r_x0 : zK S x0 = 11) : Ok (d_X11_tag_0 x0 x1 x2 x3 S) (fun o => ZT o.2 ∧ RQ SZ o.1.1 o.2 ∧ True) := by
  unfold d_X11_tag_0
  refine ok_if (fun c40 => ?_) (fun c40 => ?_)
  ·
    replace c40 := ti_ltP (a := x1) (b := (0 : Int32)) c40 rfl (show (0 : Int32).toInt = 0 from rfl)
    unfold d_X11_tag_19
    exact ok_ret ⟨(zt_Q hT), (rq_q (k := 2) (by decide) hT hR), trivial⟩
  ·
    replace c40 := ti_ltN (a := x1) (b := (0 : Int32)) c40 rfl (show (0 : Int32).toInt = 0 from rfl)
    refine ok_chk r_x0 ?_
    obtain ⟨b1, p_b1, k_b1⟩ := T_11_7 hT r_x0
    have lo_b1 := M_11_7 hT r_x0 p_b1
    refine ok_calR p_b1 ?_
    refine ok_chk k_b1 ?_
    have j41 := J_1_5 hT k_b1
    refine ok_if (fun c42 => ?_) (fun c42 => ?_)
    ·
      replace c42 := ti_leP (a := (zI S 5 b1)) (b := x1) c42 rfl rfl
      unfold d_X11_tag_19
      exact ok_ret ⟨(zt_Q hT), (rq_q (k := 2) (by decide) hT hR), trivial⟩
    ·
      replace c42 := ti_leN (a := (zI S 5 b1)) (b := x1) c42 rfl rfl
      refine ok_if (fun c43 => ?_) (fun c43 => ?_)
      ·
        replace c43 := ti_leP (a := (0 : Int32)) (b := x3) c43 (show (0 : Int32).toInt = 0 from rfl) rfl
        refine ok_chk r_x0 ?_
        refine ok_calR p_b1 ?_
        refine ok_chk k_b1 ?_
        obtain ⟨r4, h_r4, p_r4⟩ := roz (t_d_X1_tagAt (x0 := b1) (x1 := x1) hT k_b1 (by omega))
        dsimp only at p_r4
        refine ok_cal2R h_r4 ?_
        refine ok_if (fun c44 => ?_) (fun c44 => ?_)
        ·
          replace c44 := ti_eqP (a := x2) (b := (0 : Int32)) c44 rfl (show (0 : Int32).toInt = 0 from rfl)
          refine ok_chk p_r4 ?_
          obtain ⟨b8, p_b8, k_b8, c_b8⟩ := T_10_0 hT p_r4
          have rl_b8 := rL_0 c_b8
          refine ok_calR p_b8 ?_
          refine ok_chk k_b8 ?_
          have j45 := J61_0 hT k_b8 c_b8
          obtain ⟨r9, h_r9, p_r9⟩ := roz (t_f_X6_at (x0 := b8) (x1 := x3) hT k_b8)
          dsimp only at p_r9
          refine ok_calR h_r9 ?_
          refine ok_chk ⟨rfl, rfl⟩ ?_
          unfold d_X11_tag_65
          exact ok_ret ⟨hT, (rq_n hT hR), trivial⟩
        ·
          replace c44 := ti_eqN (a := x2) (b := (0 : Int32)) c44 rfl (show (0 : Int32).toInt = 0 from rfl)
          refine ok_chk p_r4 ?_
          obtain ⟨b10, p_b10, k_b10, c_b10⟩ := T_10_1 hT p_r4
          have rl_b10 := rL_0 c_b10
          refine ok_calR p_b10 ?_
          refine ok_chk k_b10 ?_
          have j46 := J61_0 hT k_b10 c_b10
          obtain ⟨r11, h_r11, p_r11⟩ := roz (t_f_X6_at (x0 := b10) (x1 := x3) hT k_b10)
          dsimp only at p_r11
          refine ok_calR h_r11 ?_
          refine ok_chk ⟨rfl, rfl⟩ ?_
          unfold d_X11_tag_65
          exact ok_ret ⟨hT, (rq_n hT hR), trivial⟩
      ·
        replace c43 := ti_leN (a := (0 : Int32)) (b := x3) c43 (show (0 : Int32).toInt = 0 from rfl) rfl
        unfold d_X11_tag_19
        exact ok_ret ⟨(zt_Q hT), (rq_q (k := 2) (by decide) hT hR), trivial⟩
theorem t_d_X11_tag {SZ S : ZS} {x0 : Nat} {x1 : Int32} {x2 : Int32} {x3 : Int32} (hT : ZT S) (hR : RP SZ S) (r_x0 : zK S x0 = 11) : Ok (d_X11_tag x0 x1 x2 x3 S) (fun o => ZT o.2 ∧ RQ SZ o.1.1 o.2 ∧ True) := t_d_X11_tag_0 hT hR r_x0
theorem t_d_X11_go_0 {SZ S : ZS} {x0 : Nat} {x1 : Int32} (hT : ZT S) (hR : RP SZ S) (r_x0 : zK S x0 = 11) : Ok (d_X11_go_0 x0 x1 S) (fun o => ZT o.2 ∧ RQ SZ o.1.1 o.2 ∧ True) := by
  unfold d_X11_go_0
  refine ok_chk r_x0 ?_
  obtain ⟨b1, p_b1, k_b1⟩ := T_11_7 hT r_x0
  have lo_b1 := M_11_7 hT r_x0 p_b1
  refine ok_calR p_b1 ?_
  refine ok_chk k_b1 ?_
  obtain ⟨r2, h_r2, p_r2⟩ := roz (t_f_X1_has (x0 := b1) (x1 := x1) hT k_b1)
  dsimp only at p_r2
  refine ok_calR h_r2 ?_
  have j9 := J_1_3 hT k_b1
  refine ok_chk ⟨rfl, rfl⟩ ?_
  refine ok_if (fun c47 => ?_) (fun c47 => ?_)
  ·
    replace c47 := ti_eqP (a := r2) (b := (0 : Int32)) c47 rfl (show (0 : Int32).toInt = 0 from rfl)
    exact ok_ret ⟨(zt_Q hT), (rq_q (k := 2) (by decide) hT hR), trivial⟩
  ·
    replace c47 := ti_eqN (a := r2) (b := (0 : Int32)) c47 rfl (show (0 : Int32).toInt = 0 from rfl)
    refine ok_chk r_x0 ?_
    refine ok_bnd (fun S3 e48 => ?_)
    have T_S3 : ZT S3 := e48.symm ▸ zt_I hT r_x0 (by decide) (show (0 : Int) ≤ x1.toInt ∧ x1.toInt ≤ (300 : Int) from (by omega))
    have kE_S3 : zK S3 = zK S := by rw [e48]; rfl
    have nE_S3 : zN S3 = zN S := by rw [e48]; rfl
    have R_S3 : RP SZ S3 := rp_I hR hT r_x0 e48 (by decide)
    refine ok_chk ((congrFun kE_S3 x0).trans r_x0) ?_
    obtain ⟨b4, p_b4, k_b4⟩ := T_11_7 T_S3 ((congrFun kE_S3 x0).trans r_x0)
    have lo_b4 := M_11_7 T_S3 ((congrFun kE_S3 x0).trans r_x0) p_b4
    refine ok_calR p_b4 ?_
    refine ok_chk ((congrFun kE_S3 x0).trans r_x0) ?_
    obtain ⟨b5, p_b5, k_b5⟩ := T_11_9 T_S3 ((congrFun kE_S3 x0).trans r_x0)
    refine ok_calR p_b5 ?_
    refine ok_chk k_b4 ?_
    obtain ⟨⟨r6, S6⟩, h_r6, T_S6, A_S6, -⟩ := t_f_X1_standAt (x0 := b4) (x1 := x1) (x2 := b5) (SZ := S3) T_S3 (a7_0 S3) k_b4 k_b5
    replace T_S6 : ZT S6 := T_S6
    replace A_S6 : A7 S3 S6 := A_S6
    refine ok_calR h_r6 ?_
    have q_S6 := fq_X1_standAt h_r6
    have kE_S6 : zK S6 = zK S3 := q_S6.2.2.1
    have nE_S6 : zN S6 = zN S3 := q_S6.2.2.2.1
    have R_S6 : RP SZ S6 := rp_f R_S3 T_S3 q_S6 (fz_X1_standAt h_r6) (by decide) A_S6
    refine ok_chk ⟨q_S6.1, q_S6.2.1⟩ ?_
    exact ok_ret ⟨T_S6, (rq_n T_S6 R_S6), trivial⟩
theorem t_d_X11_go {SZ S : ZS} {x0 : Nat} {x1 : Int32} (hT : ZT S) (hR : RP SZ S) (r_x0 : zK S x0 = 11) : Ok (d_X11_go x0 x1 S) (fun o => ZT o.2 ∧ RQ SZ o.1.1 o.2 ∧ True) := t_d_X11_go_0 hT hR r_x0
