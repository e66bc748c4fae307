theorem t_d_X1_hasTag_2s {S : ZS} {self2 : Nat → Nat → Int32 → ZS → Option (Int32 × ZS)} {N2 : Nat} (hself2 : ∀ (x0 : Nat) (x1 : Nat) (x2 : Int32),  (zK S x0 = 1) → (zK S x1 = 6) → ((0 : Int) ≤ x2.toInt ∧ x2.toInt ≤ (8 : Int)) → (9 - x2.toInt) < (N2 : Int) → Ok (self2 x0 x1 x2 S) (fun o => o.2 = S ∧ ((0 : Int) ≤ o.1.toInt ∧ o.1.toInt ≤ (1 : Int)))) {x0 : Nat} {x1 : Nat} {x2 : Int32} (hT : ZT S) (r_x0 : zK S x0 = 1) (r_x1 : zK S x1 = 6) (r_x2 : (0 : Int) ≤ x2.toInt ∧ x2.toInt ≤ (8 : Int)) (m2 : (9 - x2.toInt) ≤ (N2 : Int)) : Ok (d_X1_hasTag_2s self2 x0 x1 x2 S) (fun o => o.2 = S ∧ ((0 : Int) ≤ o.1.toInt ∧ o.1.toInt ≤ (1 : Int))) := by
  unfold d_X1_hasTag_2s
  refine ok_chk r_x0 ?_
  have j1 := J_1_5 hT r_x0
  refine ok_if (fun c2 => ?_) (fun c2 => ?_)
  ·
    replace c2 := ti_leP (a := (zI S 5 x0)) (b := x2) c2 rfl rfl
    refine ok_chk (by decide) ?_
    exact ok_ret ⟨rfl, (show (0 : Int) ≤ (0 : Int32).toInt ∧ (0 : Int32).toInt ≤ (1 : Int) from (by decide))⟩
  ·
    replace c2 := ti_leN (a := (zI S 5 x0)) (b := x2) c2 rfl rfl
    refine ok_chk r_x0 ?_
    obtain ⟨r2, h_r2, p_r2⟩ := roz (t_d_X1_tagAt (x0 := x0) (x1 := x2) hT r_x0 (by omega))
    dsimp only at p_r2
    refine ok_cal2R h_r2 ?_
    refine ok_chk p_r2 ?_
    obtain ⟨b6, p_b6, k_b6, c_b6⟩ := T_10_0 hT p_r2
    have rl_b6 := rL_0 c_b6
    refine ok_calR p_b6 ?_
    refine ok_chk k_b6 ?_
    have j3 := J61_0 hT k_b6 c_b6
    have j4 := J_6_1 hT r_x1
    obtain ⟨r7, h_r7, p_r7⟩ := roz (t_f_X6_isLike (x0 := b6) (x1 := x1) hT k_b6 r_x1)
    dsimp only at p_r7
    refine ok_calR h_r7 ?_
    refine ok_chk ⟨rfl, rfl⟩ ?_
    refine ok_if (fun c5 => ?_) (fun c5 => ?_)
    ·
      replace c5 := ti_eqP (a := r7) (b := (0 : Int32)) c5 rfl (show (0 : Int32).toInt = 0 from rfl)
      refine ok_bnd (fun v8 e6 => ?_)
      have t_v8 : v8.toInt = x2.toInt + 1 := ti_add e6 rfl (show (1 : Int32).toInt = 1 from rfl) (by omega) (by omega)
      exact hself2 x0 x1 v8  r_x0 r_x1 (by omega) (by omega)
    ·
      replace c5 := ti_eqN (a := r7) (b := (0 : Int32)) c5 rfl (show (0 : Int32).toInt = 0 from rfl)
      refine ok_chk (by decide) ?_
      exact ok_ret ⟨rfl, (show (0 : Int) ≤ (1 : Int32).toInt ∧ (1 : Int32).toInt ≤ (1 : Int) from (by decide))⟩
theorem t_d_X1_hasTag_2 {S : ZS} (hT : ZT S) : ∀ (n : Nat) (x0 : Nat) (x1 : Nat) (x2 : Int32),  (zK S x0 = 1) → (zK S x1 = 6) → ((0 : Int) ≤ x2.toInt ∧ x2.toInt ≤ (8 : Int)) → (9 - x2.toInt) < (n : Int) → Ok (d_X1_hasTag_2  n x0 x1 x2 S) (fun o => o.2 = S ∧ ((0 : Int) ≤ o.1.toInt ∧ o.1.toInt ≤ (1 : Int))) := by
  intro n
  induction n with
  | zero => intro x0 x1 x2 g0 g1 g2  hm; exfalso; omega
  | succ n ih =>
    intro x0 x1 x2 g0 g1 g2  hm
    exact t_d_X1_hasTag_2s (N2 := n)  ih hT g0 g1 g2  (by omega)
theorem t_d_X1_hasTag_0 {S : ZS} {x0 : Nat} {x1 : Nat} (hT : ZT S) (r_x0 : zK S x0 = 1) (r_x1 : zK S x1 = 6) : Ok (d_X1_hasTag_0 x0 x1 S) (fun o => o.2 = S ∧ ((0 : Int) ≤ o.1.toInt ∧ o.1.toInt ≤ (1 : Int))) := by
  unfold d_X1_hasTag_0
  exact t_d_X1_hasTag_2  hT mFuel x0 x1 (0 : Int32)  r_x0 r_x1 (by decide) (by show _ < ((200000 : Nat) : Int); have z0 : (0 : Int32).toInt = 0 := rfl; omega)
theorem t_d_X1_hasTag {S : ZS} {x0 : Nat} {x1 : Nat} (hT : ZT S) (r_x0 : zK S x0 = 1) (r_x1 : zK S x1 = 6) : Ok (d_X1_hasTag x0 x1 S) (fun o => o.2 = S ∧ ((0 : Int) ≤ o.1.toInt ∧ o.1.toInt ≤ (1 : Int))) := t_d_X1_hasTag_0 hT r_x0 r_x1
theorem t_d_X1_agreesWith_2s {S : ZS} {self2 : Nat → Int32 → Int32 → ZS → Option (Int32 × ZS)} {N2 : Nat} (hself2 : ∀ (x0 : Nat) (x1 : Int32) (x2 : Int32),  (zK S x0 = 1) → ((0 : Int) ≤ x2.toInt ∧ x2.toInt ≤ (8 : Int)) → (9 - x2.toInt) < (N2 : Int) → Ok (self2 x0 x1 x2 S) (fun o => o.2 = S ∧ ((0 : Int) ≤ o.1.toInt ∧ o.1.toInt ≤ (1 : Int)))) {x0 : Nat} {x1 : Int32} {x2 : Int32} (hT : ZT S) (r_x0 : zK S x0 = 1) (r_x2 : (0 : Int) ≤ x2.toInt ∧ x2.toInt ≤ (8 : Int)) (m2 : (9 - x2.toInt) ≤ (N2 : Int)) : Ok (d_X1_agreesWith_2s self2 x0 x1 x2 S) (fun o => o.2 = S ∧ ((0 : Int) ≤ o.1.toInt ∧ o.1.toInt ≤ (1 : Int))) := by
  unfold d_X1_agreesWith_2s
  refine ok_chk r_x0 ?_
  have j7 := J_1_5 hT r_x0
  refine ok_if (fun c8 => ?_) (fun c8 => ?_)
  ·
    replace c8 := ti_leP (a := (zI S 5 x0)) (b := x2) c8 rfl rfl
    refine ok_chk (by decide) ?_
    exact ok_ret ⟨rfl, (show (0 : Int) ≤ (1 : Int32).toInt ∧ (1 : Int32).toInt ≤ (1 : Int) from (by decide))⟩
  ·
    replace c8 := ti_leN (a := (zI S 5 x0)) (b := x2) c8 rfl rfl
    refine ok_chk r_x0 ?_
    obtain ⟨r2, h_r2, p_r2⟩ := roz (t_d_X1_tagAt (x0 := x0) (x1 := x2) hT r_x0 (by omega))
    dsimp only at p_r2
    refine ok_cal2R h_r2 ?_
    refine ok_chk p_r2 ?_
    obtain ⟨b6, p_b6, k_b6, c_b6⟩ := T_10_0 hT p_r2
    have rl_b6 := rL_0 c_b6
    refine ok_calR p_b6 ?_
    refine ok_chk k_b6 ?_
    have j9 := J61_0 hT k_b6 c_b6
    obtain ⟨r7, h_r7, p_r7⟩ := roz (t_f_X6_is (x0 := b6) (x1 := 10) hT k_b6 (by decide))
    dsimp only at p_r7
    refine ok_calR h_r7 ?_
    refine ok_chk ⟨rfl, rfl⟩ ?_
    refine ok_if (fun c10 => ?_) (fun c10 => ?_)
    ·
      replace c10 := ti_eqP (a := r7) (b := (0 : Int32)) c10 rfl (show (0 : Int32).toInt = 0 from rfl)
      unfold d_X1_agreesWith_46
      refine ok_bnd (fun v1 e11 => ?_)
      have t_v1 : v1.toInt = x2.toInt + 1 := ti_add e11 rfl (show (1 : Int32).toInt = 1 from rfl) (by omega) (by omega)
      exact hself2 x0 x1 v1  r_x0 (by omega) (by omega)
    ·
      replace c10 := ti_eqN (a := r7) (b := (0 : Int32)) c10 rfl (show (0 : Int32).toInt = 0 from rfl)
      refine ok_chk r_x0 ?_
      obtain ⟨r9, h_r9, p_r9⟩ := roz (t_d_X1_tagAt (x0 := x0) (x1 := x2) hT r_x0 (by omega))
      dsimp only at p_r9
      refine ok_cal2R h_r9 ?_
      refine ok_chk p_r9 ?_
      obtain ⟨b13, p_b13, k_b13, c_b13⟩ := T_10_1 hT p_r9
      have rl_b13 := rL_0 c_b13
      refine ok_calR p_b13 ?_
      obtain ⟨r14, h_r14, p_r14⟩ := roz (t_f_X11_resultSign (x0 := x1) hT )
      dsimp only at p_r14
      refine ok_calR h_r14 ?_
      refine ok_chk ⟨rfl, rfl⟩ ?_
      refine ok_chk k_b13 ?_
      have j12 := J61_0 hT k_b13 c_b13
      obtain ⟨r15, h_r15, p_r15⟩ := roz (t_f_X6_is (x0 := b13) (x1 := r14) hT k_b13 p_r14)
      dsimp only at p_r15
      refine ok_calR h_r15 ?_
      refine ok_chk ⟨rfl, rfl⟩ ?_
      refine ok_if (fun c13 => ?_) (fun c13 => ?_)
      ·
        replace c13 := ti_eqP (a := r15) (b := (0 : Int32)) c13 rfl (show (0 : Int32).toInt = 0 from rfl)
        refine ok_chk (by decide) ?_
        exact ok_ret ⟨rfl, (show (0 : Int) ≤ (0 : Int32).toInt ∧ (0 : Int32).toInt ≤ (1 : Int) from (by decide))⟩
      ·
        replace c13 := ti_eqN (a := r15) (b := (0 : Int32)) c13 rfl (show (0 : Int32).toInt = 0 from rfl)
        unfold d_X1_agreesWith_46
        refine ok_bnd (fun v1 e14 => ?_)
        have t_v1 : v1.toInt = x2.toInt + 1 := ti_add e14 rfl (show (1 : Int32).toInt = 1 from rfl) (by omega) (by omega)
        exact hself2 x0 x1 v1  r_x0 (by omega) (by omega)
theorem t_d_X1_agreesWith_2 {S : ZS} (hT : ZT S) : ∀ (n : Nat) (x0 : Nat) (x1 : Int32) (x2 : Int32),  (zK S x0 = 1) → ((0 : Int) ≤ x2.toInt ∧ x2.toInt ≤ (8 : Int)) → (9 - x2.toInt) < (n : Int) → Ok (d_X1_agreesWith_2  n x0 x1 x2 S) (fun o => o.2 = S ∧ ((0 : Int) ≤ o.1.toInt ∧ o.1.toInt ≤ (1 : Int))) := by
  intro n
  induction n with
  | zero => intro x0 x1 x2 g0 g1  hm; exfalso; omega
  | succ n ih =>
    intro x0 x1 x2 g0 g1  hm
    exact t_d_X1_agreesWith_2s (N2 := n)  ih hT g0 g1  (by omega)
theorem t_d_X1_agreesWith_0 {S : ZS} {x0 : Nat} {x1 : Int32} (hT : ZT S) (r_x0 : zK S x0 = 1) : Ok (d_X1_agreesWith_0 x0 x1 S) (fun o => o.2 = S ∧ ((0 : Int) ≤ o.1.toInt ∧ o.1.toInt ≤ (1 : Int))) := by
  unfold d_X1_agreesWith_0
  exact t_d_X1_agreesWith_2  hT mFuel x0 x1 (0 : Int32)  r_x0 (by decide) (by show _ < ((200000 : Nat) : Int); have z0 : (0 : Int32).toInt = 0 := rfl; omega)
theorem t_d_X1_agreesWith {S : ZS} {x0 : Nat} {x1 : Int32} (hT : ZT S) (r_x0 : zK S x0 = 1) : Ok (d_X1_agreesWith x0 x1 S) (fun o => o.2 = S ∧ ((0 : Int) ≤ o.1.toInt ∧ o.1.toInt ≤ (1 : Int))) := t_d_X1_agreesWith_0 hT r_x0
theorem t_d_X4_joinRemark_96 {SZ S : ZS} {self64 : Nat → Nat → Int32 → Int32 → ZS → Option (Int32 × ZS)} {N64 : Nat} (hself64 : ∀ (x0 : Nat) (x1 : Nat) (x3 : Int32) (x5 : Int32) (S : ZS), ZT S → RP SZ S → (zK S x0 = 4) → (zK S x1 = 6) → (rc x1 ≤ 2) → ((0 : Int) ≤ x3.toInt ∧ x3.toInt ≤ (90000 : Int)) → ((0 : Int) ≤ x5.toInt ∧ x5.toInt ≤ (90101 : Int)) → (∀ b, zP S 6 x0 = some b → (zI S 1 b).toInt + x3.toInt - x5.toInt ≤ 200) → (90102 - x5.toInt) < (N64 : Int) → Ok (self64 x0 x1 x3 x5 S) (fun o => ZT o.2 ∧ RP SZ o.2 ∧ ((0 : Int) ≤ o.1.toInt ∧ o.1.toInt ≤ (1 : Int)))) {x0 : Nat} {x1 : Nat} {x3 : Int32} {x5 : Int32} {t0 : Int32} {t1 : Nat} (hT : ZT S) (hR : RP SZ S) (r_x0 : zK S x0 = 4) (r_x1 : zK S x1 = 6) (c_x1 : rc x1 ≤ 2) (r_x3 : (0 : Int) ≤ x3.toInt ∧ x3.toInt ≤ (90000 : Int)) (r_x5 : (0 : Int) ≤ x5.toInt ∧ x5.toInt ≤ (90101 : Int)) (r_t0 : (0 : Int) ≤ t0.toInt ∧ t0.toInt ≤ (65535 : Int)) (r_t1 : zK S t1 = 6) (c_t1 : rc t1 ≤ 0) (q0 : x5.toInt < x3.toInt) (q1 : zP S 6 x0 = some t1) (q2 : (zI S 1 t1).toInt + x3.toInt - x5.toInt ≤ 200) (m64 : (90102 - x5.toInt) ≤ (N64 : Int)) : Ok (d_X4_joinRemark_96 self64 x0 x1 x3 x5 t0 t1 S) (fun o => ZT o.2 ∧ RP SZ o.2 ∧ ((0 : Int) ≤ o.1.toInt ∧ o.1.toInt ≤ (1 : Int))) := by
  unfold d_X4_joinRemark_96
  have rl := rL_ge t1
  refine ok_chk r_t1 ?_
  have j15 := J61_0 hT r_t1 c_t1
  obtain ⟨⟨r2, S3⟩, h_r2, T_S3, B_S3, p_r2_0, p_r2_1⟩ := t_d_X6_put (x0 := t1) (x1 := t0) (SZ := S) hT (rp_0 S) r_t1 r_t0 (by omega) (by omega)
  replace T_S3 : ZT S3 := T_S3
  replace B_S3 : RP S S3 := B_S3
  have R_S3 : RP SZ S3 := rp_t hR B_S3
  dsimp only at p_r2_0 p_r2_1
  refine ok_cal2R h_r2 ?_
  have g_S3 := (fz_X6_put h_r2 hT.2.2.2.2.1).2.2
  refine ok_bnd (fun v6 e16 => ?_)
  have t_v6 : v6.toInt = x5.toInt + 1 := ti_add e16 rfl (show (1 : Int32).toInt = 1 from rfl) (by omega) (by omega)
  exact hself64 x0 x1 x3 v6 S3 T_S3 R_S3 ((g_S3 x0 (lt18 r_x0 (by decide))).1.trans r_x0) ((g_S3 x1 (lt18 r_x1 (by decide))).1.trans r_x1) c_x1 r_x3 (by omega) (fun b9 h9 => by rw [(g_S3 x0 (lt18 r_x0 (by decide))).2.2.2.1 6 (by rw [r_x0]; decide), q1] at h9; cases h9; omega) (by omega)
theorem t_d_X4_joinRemark_64s {SZ S : ZS} {self64 : Nat → Nat → Int32 → Int32 → ZS → Option (Int32 × ZS)} {N64 : Nat} (hself64 : ∀ (x0 : Nat) (x1 : Nat) (x3 : Int32) (x5 : Int32) (S : ZS), ZT S → RP SZ S → (zK S x0 = 4) → (zK S x1 = 6) → (rc x1 ≤ 2) → ((0 : Int) ≤ x3.toInt ∧ x3.toInt ≤ (90000 : Int)) → ((0 : Int) ≤ x5.toInt ∧ x5.toInt ≤ (90101 : Int)) → (∀ b, zP S 6 x0 = some b → (zI S 1 b).toInt + x3.toInt - x5.toInt ≤ 200) → (90102 - x5.toInt) < (N64 : Int) → Ok (self64 x0 x1 x3 x5 S) (fun o => ZT o.2 ∧ RP SZ o.2 ∧ ((0 : Int) ≤ o.1.toInt ∧ o.1.toInt ≤ (1 : Int)))) {x0 : Nat} {x1 : Nat} {x3 : Int32} {x5 : Int32} (hT : ZT S) (hR : RP SZ S) (r_x0 : zK S x0 = 4) (r_x1 : zK S x1 = 6) (c_x1 : rc x1 ≤ 2) (r_x3 : (0 : Int) ≤ x3.toInt ∧ x3.toInt ≤ (90000 : Int)) (r_x5 : (0 : Int) ≤ x5.toInt ∧ x5.toInt ≤ (90101 : Int)) (q0 : ∀ b, zP S 6 x0 = some b → (zI S 1 b).toInt + x3.toInt - x5.toInt ≤ 200) (m64 : (90102 - x5.toInt) ≤ (N64 : Int)) : Ok (d_X4_joinRemark_64s self64 x0 x1 x3 x5 S) (fun o => ZT o.2 ∧ RP SZ o.2 ∧ ((0 : Int) ≤ o.1.toInt ∧ o.1.toInt ≤ (1 : Int))) := by
  unfold d_X4_joinRemark_64s
  refine ok_if (fun c17 => ?_) (fun c17 => ?_)
  ·
    replace c17 := ti_leP (a := x3) (b := x5) c17 rfl rfl
    refine ok_chk (by decide) ?_
    exact ok_ret ⟨hT, hR, (show (0 : Int) ≤ (1 : Int32).toInt ∧ (1 : Int32).toInt ≤ (1 : Int) from (by decide))⟩
  ·
    replace c17 := ti_leN (a := x3) (b := x5) c17 rfl rfl
    refine ok_chk r_x0 ?_
    obtain ⟨b1, p_b1, k_b1, c_b1⟩ := T_4_6 hT r_x0
    have rl_b1 := rL_0 c_b1
    refine ok_calR p_b1 ?_
    have e9 := q0 b1 p_b1
    refine ok_chk r_x1 ?_
    have j18 := J61_2 hT r_x1 c_x1
    obtain ⟨r2, h_r2, p_r2⟩ := roz (t_f_X6_at (x0 := x1) (x1 := x5) hT r_x1)
    dsimp only at p_r2
    refine ok_calR h_r2 ?_
    refine ok_chk ⟨rfl, rfl⟩ ?_
    refine ok_if (fun c19 => ?_) (fun c19 => ?_)
    ·
      replace c19 := ti_eqP (a := r2) (b := (10 : Int32)) c19 rfl (show (10 : Int32).toInt = 10 from rfl)
      have j20 := J61_0 hT k_b1 c_b1
      exact t_d_X4_joinRemark_96 (S := S) hself64 (x0 := x0) (x1 := x1) (x3 := x3) (x5 := x5) (t0 := (32 : Int32)) (t1 := b1) hT hR r_x0 r_x1 c_x1 r_x3 r_x5 (by decide) k_b1 c_b1 (by have z0 : (32 : Int32).toInt = 32 := rfl; omega) p_b1 (by have z0 : (32 : Int32).toInt = 32 := rfl; omega) m64
    ·
      replace c19 := ti_eqN (a := r2) (b := (10 : Int32)) c19 rfl (show (10 : Int32).toInt = 10 from rfl)
      refine ok_chk r_x1 ?_
      obtain ⟨r3, h_r3, p_r3⟩ := roz (t_f_X6_at (x0 := x1) (x1 := x5) hT r_x1)
      dsimp only at p_r3
      refine ok_calR h_r3 ?_
      refine ok_chk ⟨rfl, rfl⟩ ?_
      have j21 := J61_0 hT k_b1 c_b1
      exact t_d_X4_joinRemark_96 (S := S) hself64 (x0 := x0) (x1 := x1) (x3 := x3) (x5 := x5) (t0 := r3) (t1 := b1) hT hR r_x0 r_x1 c_x1 r_x3 r_x5 (by omega) k_b1 c_b1 (by omega) p_b1 (by omega) m64
theorem t_d_X4_joinRemark_64 {SZ : ZS} : ∀ (n : Nat) (x0 : Nat) (x1 : Nat) (x3 : Int32) (x5 : Int32) (S : ZS), ZT S → RP SZ S → (zK S x0 = 4) → (zK S x1 = 6) → (rc x1 ≤ 2) → ((0 : Int) ≤ x3.toInt ∧ x3.toInt ≤ (90000 : Int)) → ((0 : Int) ≤ x5.toInt ∧ x5.toInt ≤ (90101 : Int)) → (∀ b, zP S 6 x0 = some b → (zI S 1 b).toInt + x3.toInt - x5.toInt ≤ 200) → (90102 - x5.toInt) < (n : Int) → Ok (d_X4_joinRemark_64  n x0 x1 x3 x5 S) (fun o => ZT o.2 ∧ RP SZ o.2 ∧ ((0 : Int) ≤ o.1.toInt ∧ o.1.toInt ≤ (1 : Int))) := by
  intro n
  induction n with
  | zero => intro x0 x1 x3 x5 S hT hR g0 g1 g2 g3 g4 g5  hm; exfalso; omega
  | succ n ih =>
    intro x0 x1 x3 x5 S hT hR g0 g1 g2 g3 g4 g5  hm
    exact t_d_X4_joinRemark_64s (N64 := n)  ih hT hR g0 g1 g2 g3 g4 g5  (by omega)
theorem t_d_X4_joinRemark_61 {SZ S : ZS} {x0 : Nat} {x1 : Nat} {x2 : Int32} {x3 : Int32} (hT : ZT S) (hR : RP SZ S) (r_x0 : zK S x0 = 4) (r_x1 : zK S x1 = 6) (c_x1 : rc x1 ≤ 2) (r_x2 : (0 : Int) ≤ x2.toInt ∧ x2.toInt ≤ (90101 : Int)) (r_x3 : (0 : Int) ≤ x3.toInt ∧ x3.toInt ≤ (90000 : Int)) (q0 : ∀ b, zP S 6 x0 = some b → (zI S 1 b).toInt + x3.toInt - x2.toInt ≤ 200) (q1 : x2.toInt < x3.toInt) : Ok (d_X4_joinRemark_61 x0 x1 x2 x3 S) (fun o => ZT o.2 ∧ RP SZ o.2 ∧ ((0 : Int) ≤ o.1.toInt ∧ o.1.toInt ≤ (1 : Int))) := by
  unfold d_X4_joinRemark_61
  exact t_d_X4_joinRemark_64   mFuel x0 x1 x3 x2 S hT hR r_x0 r_x1 c_x1 r_x3 r_x2 q0 (by show _ < ((200000 : Nat) : Int); omega)
theorem t_d_X4_joinRemark_22 {SZ S : ZS} {x0 : Nat} {x1 : Nat} {x2 : Int32} {x3 : Int32} {t0 : Int32} (hT : ZT S) (hR : RP SZ S) (r_x0 : zK S x0 = 4) (r_x1 : zK S x1 = 6) (c_x1 : rc x1 ≤ 2) (r_x2 : (0 : Int) ≤ x2.toInt ∧ x2.toInt ≤ (90101 : Int)) (r_x3 : (0 : Int) ≤ x3.toInt ∧ x3.toInt ≤ (90000 : Int)) (r_t0 : (0 : Int) ≤ t0.toInt ∧ t0.toInt ≤ (1 : Int)) (q0 : x2.toInt < x3.toInt) : Ok (d_X4_joinRemark_22 x0 x1 x2 x3 t0 S) (fun o => ZT o.2 ∧ RP SZ o.2 ∧ ((0 : Int) ≤ o.1.toInt ∧ o.1.toInt ≤ (1 : Int))) := by
  unfold d_X4_joinRemark_22
  refine ok_chk r_x0 ?_
  obtain ⟨b1, p_b1, k_b1, c_b1⟩ := T_4_6 hT r_x0
  have rl_b1 := rL_0 c_b1
  refine ok_calR p_b1 ?_
  refine ok_chk k_b1 ?_
  have j22 := J61_0 hT k_b1 c_b1
  obtain ⟨r2, h_r2, p_r2⟩ := roz (t_f_X6_size (x0 := b1) hT k_b1)
  dsimp only at p_r2
  refine ok_calR h_r2 ?_
  have s_r2 : r2.toInt = (zI S 1 b1).toInt := congrArg Int32.toInt p_r2.2
  refine ok_chk ⟨rfl, rfl⟩ ?_
  refine ok_bnd (fun v3 e23 => ?_)
  have t_v3 : v3.toInt = r2.toInt + t0.toInt := ti_add e23 rfl rfl (by omega) (by omega)
  refine ok_bnd (fun v4 e24 => ?_)
  have t_v4 : v4.toInt = v3.toInt + x3.toInt := ti_add e24 rfl rfl (by omega) (by omega)
  refine ok_bnd (fun v5 e25 => ?_)
  have t_v5 : v5.toInt = v4.toInt - x2.toInt := ti_sub e25 rfl rfl (by omega) (by omega)
  refine ok_if (fun c26 => ?_) (fun c26 => ?_)
  ·
    replace c26 := ti_leP (a := v5) (b := (200 : Int32)) c26 rfl (show (200 : Int32).toInt = 200 from rfl)
    refine ok_if (fun c27 => ?_) (fun c27 => ?_)
    ·
      replace c27 := ti_eqP (a := t0) (b := (1 : Int32)) c27 rfl (show (1 : Int32).toInt = 1 from rfl)
      refine ok_chk r_x0 ?_
      refine ok_calR p_b1 ?_
      refine ok_chk k_b1 ?_
      have zl28 : (32 : Int32).toInt = 32 := rfl
      obtain ⟨⟨r8, S9⟩, h_r8, T_S9, B_S9, p_r8_0, p_r8_1⟩ := t_d_X6_put (x0 := b1) (x1 := (32 : Int32)) (SZ := S) hT (rp_0 S) k_b1 (by decide) (by have z0 : (32 : Int32).toInt = 32 := rfl; omega) (by have z0 : (32 : Int32).toInt = 32 := rfl; omega)
      replace T_S9 : ZT S9 := T_S9
      replace B_S9 : RP S S9 := B_S9
      have R_S9 : RP SZ S9 := rp_t hR B_S9
      dsimp only at p_r8_0 p_r8_1
      refine ok_cal2R h_r8 ?_
      have g_S9 := (fz_X6_put h_r8 hT.2.2.2.2.1).2.2
      exact t_d_X4_joinRemark_61 (S := S9)  (x0 := x0) (x1 := x1) (x2 := x2) (x3 := x3) T_S9 R_S9 ((g_S9 x0 (lt18 r_x0 (by decide))).1.trans r_x0) ((g_S9 x1 (lt18 r_x1 (by decide))).1.trans r_x1) c_x1 r_x2 r_x3 (fun b9 h9 => by rw [(g_S9 x0 (lt18 r_x0 (by decide))).2.2.2.1 6 (by rw [r_x0]; decide), p_b1] at h9; cases h9; omega) q0
    ·
      replace c27 := ti_eqN (a := t0) (b := (1 : Int32)) c27 rfl (show (1 : Int32).toInt = 1 from rfl)
      exact t_d_X4_joinRemark_61 (S := S)  (x0 := x0) (x1 := x1) (x2 := x2) (x3 := x3) hT hR r_x0 r_x1 c_x1 r_x2 r_x3 (fun b9 h9 => by rw [p_b1] at h9; cases h9; omega) q0
  ·
    replace c26 := ti_leN (a := v5) (b := (200 : Int32)) c26 rfl (show (200 : Int32).toInt = 200 from rfl)
    refine ok_chk (by decide) ?_
    exact ok_ret ⟨hT, hR, (show (0 : Int) ≤ (0 : Int32).toInt ∧ (0 : Int32).toInt ≤ (1 : Int) from (by decide))⟩
theorem t_d_X4_joinRemark_0 {SZ S : ZS} {x0 : Nat} {x1 : Nat} {x2 : Int32} {x3 : Int32} (hT : ZT S) (hR : RP SZ S) (r_x0 : zK S x0 = 4) (r_x1 : zK S x1 = 6) (c_x1 : rc x1 ≤ 2) (r_x2 : (0 : Int) ≤ x2.toInt ∧ x2.toInt ≤ (90101 : Int)) (r_x3 : (0 : Int) ≤ x3.toInt ∧ x3.toInt ≤ (90000 : Int)) : Ok (d_X4_joinRemark_0 x0 x1 x2 x3 S) (fun o => ZT o.2 ∧ RP SZ o.2 ∧ ((0 : Int) ≤ o.1.toInt ∧ o.1.toInt ≤ (1 : Int))) := by
  unfold d_X4_joinRemark_0
  refine ok_if (fun c29 => ?_) (fun c29 => ?_)
  ·
    replace c29 := ti_ltP (a := x2) (b := x3) c29 rfl rfl
    refine ok_chk r_x0 ?_
    obtain ⟨b1, p_b1, k_b1, c_b1⟩ := T_4_6 hT r_x0
    have rl_b1 := rL_0 c_b1
    refine ok_calR p_b1 ?_
    refine ok_chk k_b1 ?_
    have j30 := J61_0 hT k_b1 c_b1
    obtain ⟨r2, h_r2, p_r2⟩ := roz (t_f_X6_size (x0 := b1) hT k_b1)
    dsimp only at p_r2
    refine ok_calR h_r2 ?_
    have s_r2 : r2.toInt = (zI S 1 b1).toInt := congrArg Int32.toInt p_r2.2
    refine ok_chk ⟨rfl, rfl⟩ ?_
    refine ok_if (fun c31 => ?_) (fun c31 => ?_)
    ·
      replace c31 := ti_leP (a := r2) (b := (0 : Int32)) c31 rfl (show (0 : Int32).toInt = 0 from rfl)
      exact t_d_X4_joinRemark_22 (S := S)  (x0 := x0) (x1 := x1) (x2 := x2) (x3 := x3) (t0 := (0 : Int32)) hT hR r_x0 r_x1 c_x1 r_x2 r_x3 (by decide) (by have z0 : (0 : Int32).toInt = 0 := rfl; omega)
    ·
      replace c31 := ti_leN (a := r2) (b := (0 : Int32)) c31 rfl (show (0 : Int32).toInt = 0 from rfl)
      exact t_d_X4_joinRemark_22 (S := S)  (x0 := x0) (x1 := x1) (x2 := x2) (x3 := x3) (t0 := (1 : Int32)) hT hR r_x0 r_x1 c_x1 r_x2 r_x3 (by decide) (by have z0 : (1 : Int32).toInt = 1 := rfl; omega)
  ·
    replace c29 := ti_ltN (a := x2) (b := x3) c29 rfl rfl
    refine ok_chk (by decide) ?_
    exact ok_ret ⟨hT, hR, (show (0 : Int) ≤ (1 : Int32).toInt ∧ (1 : Int32).toInt ≤ (1 : Int) from (by decide))⟩
theorem t_d_X4_joinRemark {SZ S : ZS} {x0 : Nat} {x1 : Nat} {x2 : Int32} {x3 : Int32} (hT : ZT S) (hR : RP SZ S) (r_x0 : zK S x0 = 4) (r_x1 : zK S x1 = 6) (c_x1 : rc x1 ≤ 2) (r_x2 : (0 : Int) ≤ x2.toInt ∧ x2.toInt ≤ (90101 : Int)) (r_x3 : (0 : Int) ≤ x3.toInt ∧ x3.toInt ≤ (90000 : Int)) : Ok (d_X4_joinRemark x0 x1 x2 x3 S) (fun o => ZT o.2 ∧ RP SZ o.2 ∧ ((0 : Int) ≤ o.1.toInt ∧ o.1.toInt ≤ (1 : Int))) := t_d_X4_joinRemark_0 hT hR r_x0 r_x1 c_x1 r_x2 r_x3
theorem t_d_X2_readRemark_91 {SZ S : ZS} {x0 : Nat} {x1 : Nat} {x2 : Int32} {x5 : Int32} (hT : ZT S) (hR : RP SZ S) (r_x0 : zK S x0 = 2) (r_x1 : zK S x1 = 4) (r_x2 : (0 : Int) ≤ x2.toInt ∧ x2.toInt ≤ (90000 : Int)) (r_x5 : (0 : Int) ≤ x5.toInt ∧ x5.toInt ≤ (90000 : Int)) : Ok (d_X2_readRemark_91 x0 x1 x2 x5 S) (fun o => ZT o.2 ∧ RP SZ o.2 ∧ ((0 : Int) ≤ o.1.toInt ∧ o.1.toInt ≤ (1 : Int))) := by
  unfold d_X2_readRemark_91
  have j32 := J_2_4 hT r_x0
  refine ok_chk r_x0 ?_
  obtain ⟨b1, p_b1, k_b1, c_b1⟩ := T_2_2 hT r_x0
  have rl_b1 := rL_ge b1
  refine ok_calR p_b1 ?_
  refine ok_bnd (fun v2 e33 => ?_)
  have t_v2 : v2.toInt = x2.toInt + 1 := ti_add e33 rfl (show (1 : Int32).toInt = 1 from rfl) (by omega) (by omega)
  refine ok_chk r_x1 ?_
  have j34 := J61_2 hT k_b1 c_b1
  obtain ⟨⟨r4, S5⟩, h_r4, T_S5, B_S5, p_r4⟩ := t_d_X4_joinRemark (x0 := x1) (x1 := b1) (x2 := v2) (x3 := x5) (SZ := S) hT (rp_0 S) r_x1 k_b1 c_b1 (by omega) r_x5
  replace T_S5 : ZT S5 := T_S5
  replace B_S5 : RP S S5 := B_S5
  have R_S5 : RP SZ S5 := rp_t hR B_S5
  dsimp only at p_r4
  refine ok_cal2R h_r4 ?_
  have g_S5 := (fz_X4_joinRemark h_r4 hT.2.2.2.2.1).2.2
  have : (zI S5 4 x0).toInt = (zI S 4 x0).toInt := congrArg Int32.toInt ((g_S5 x0 (lt18 r_x0 (by decide))).2.2.1 4 (by rw [r_x0]; decide))
  refine ok_if (fun c35 => ?_) (fun c35 => ?_)
  ·
    replace c35 := ti_eqP (a := r4) (b := (0 : Int32)) c35 rfl (show (0 : Int32).toInt = 0 from rfl)
    refine ok_chk ((g_S5 x0 (lt18 r_x0 (by decide))).1.trans r_x0) ?_
    obtain ⟨⟨r13, S13⟩, h_r13, T_S13, A_S13, p_r13⟩ := t_f_X2_refuse (x0 := x0) (x1 := (8 : Int32)) (x2 := x2) (SZ := S5) T_S5 (a7_0 S5) ((g_S5 x0 (lt18 r_x0 (by decide))).1.trans r_x0)
    replace T_S13 : ZT S13 := T_S13
    replace A_S13 : A7 S5 S13 := A_S13
    dsimp only at p_r13
    refine ok_calR h_r13 ?_
    have q_S13 := fq_X2_refuse h_r13
    have kE_S13 : zK S13 = zK S5 := q_S13.2.2.1
    have nE_S13 : zN S13 = zN S5 := q_S13.2.2.2.1
    have R_S13 : RP SZ S13 := rp_f R_S5 T_S5 q_S13 (fz_X2_refuse h_r13) (by decide) A_S13
    have : (zI S13 4 x0).toInt = (zI S5 4 x0).toInt := congrArg Int32.toInt ((((fz_X2_refuse h_r13) T_S5.2.2.2.2.1).2.2 x0 (by rw [((g_S5 x0 (lt18 r_x0 (by decide))).1.trans r_x0)]; decide)).2.2.1 4 (by rw [((g_S5 x0 (lt18 r_x0 (by decide))).1.trans r_x0)]; decide))
    refine ok_chk ⟨q_S13.1, q_S13.2.1⟩ ?_
    refine ok_chk (nar_b (v := r13) (by omega) (by omega)) ?_
    exact ok_ret ⟨T_S13, R_S13, (show (0 : Int) ≤ r13.toInt ∧ r13.toInt ≤ (1 : Int) from (by omega))⟩
  ·
    replace c35 := ti_eqN (a := r4) (b := (0 : Int32)) c35 rfl (show (0 : Int32).toInt = 0 from rfl)
    refine ok_bnd (fun v8 e36 => ?_)
    have t_v8 : v8.toInt = x5.toInt + 1 := ti_add e36 rfl (show (1 : Int32).toInt = 1 from rfl) (by omega) (by omega)
    refine ok_chk ((g_S5 x0 (lt18 r_x0 (by decide))).1.trans r_x0) ?_
    obtain ⟨b9, p_b9, k_b9, c_b9⟩ := T_2_2 T_S5 ((g_S5 x0 (lt18 r_x0 (by decide))).1.trans r_x0)
    have rl_b9 := rL_ge b9
    refine ok_calR p_b9 ?_
    refine ok_chk k_b9 ?_
    have j37 := J61_2 T_S5 k_b9 c_b9
    obtain ⟨r10, h_r10, p_r10⟩ := roz (t_f_X6_size (x0 := b9) T_S5 k_b9)
    dsimp only at p_r10
    refine ok_calR h_r10 ?_
    have s_r10 : r10.toInt = (zI S5 1 b9).toInt := congrArg Int32.toInt p_r10.2
    refine ok_chk ⟨rfl, rfl⟩ ?_
    refine ok_bnd (fun v11 e38 => ?_)
    have t_v11 := ite_b (a := r10) (b := v8) (c := r10) (d := v8) e38 rfl rfl rfl rfl
    refine ok_chk ((g_S5 x0 (lt18 r_x0 (by decide))).1.trans r_x0) ?_
    refine ok_bnd (fun S12 e39 => ?_)
    have T_S12 : ZT S12 := e39.symm ▸ zt_I T_S5 ((g_S5 x0 (lt18 r_x0 (by decide))).1.trans r_x0) (by decide) (show (0 : Int) ≤ v11.toInt ∧ v11.toInt ≤ (90100 : Int) from (by omega))
    have kE_S12 : zK S12 = zK S5 := by rw [e39]; rfl
    have nE_S12 : zN S12 = zN S5 := by rw [e39]; rfl
    have R_S12 : RP SZ S12 := rp_I R_S5 T_S5 ((g_S5 x0 (lt18 r_x0 (by decide))).1.trans r_x0) e39 (by decide)
    have : (zI S12 4 x0).toInt = v11.toInt := by rw [e39]; exact (congrArg Int32.toInt (zI_self _ _ _ _)).trans rfl
    refine ok_chk (by decide) ?_
    exact ok_ret ⟨T_S12, R_S12, (show (0 : Int) ≤ (1 : Int32).toInt ∧ (1 : Int32).toInt ≤ (1 : Int) from (by decide))⟩
theorem t_d_X2_readRemark_83 {SZ S : ZS} {x0 : Nat} {x4 : Int32} (hT : ZT S) (hR : RP SZ S) (r_x0 : zK S x0 = 2) (r_x4 : (0 : Int) ≤ x4.toInt ∧ x4.toInt ≤ (90000 : Int)) : Ok (d_X2_readRemark_83 x0 x4 S) (fun o => ZT o.2 ∧ RP SZ o.2 ∧ ((0 : Int) ≤ o.1.toInt ∧ o.1.toInt ≤ (1 : Int))) := by
  unfold d_X2_readRemark_83
  have j40 := J_2_4 hT r_x0
  refine ok_chk r_x0 ?_
  obtain ⟨⟨r1, S1⟩, h_r1, T_S1, A_S1, p_r1⟩ := t_f_X2_refuse (x0 := x0) (x1 := (1 : Int32)) (x2 := x4) (SZ := S) hT (a7_0 S) r_x0
  replace T_S1 : ZT S1 := T_S1
  replace A_S1 : A7 S S1 := A_S1
  dsimp only at p_r1
  refine ok_calR h_r1 ?_
  have q_S1 := fq_X2_refuse h_r1
  have kE_S1 : zK S1 = zK S := q_S1.2.2.1
  have nE_S1 : zN S1 = zN S := q_S1.2.2.2.1
  have R_S1 : RP SZ S1 := rp_f hR hT q_S1 (fz_X2_refuse h_r1) (by decide) A_S1
  have : (zI S1 4 x0).toInt = (zI S 4 x0).toInt := congrArg Int32.toInt ((((fz_X2_refuse h_r1) hT.2.2.2.2.1).2.2 x0 (by rw [r_x0]; decide)).2.2.1 4 (by rw [r_x0]; decide))
  refine ok_chk ⟨q_S1.1, q_S1.2.1⟩ ?_
  refine ok_chk (nar_b (v := r1) (by omega) (by omega)) ?_
  exact ok_ret ⟨T_S1, R_S1, (show (0 : Int) ≤ r1.toInt ∧ r1.toInt ≤ (1 : Int) from (by omega))⟩
theorem t_d_X2_readRemark_55 {SZ S : ZS} {x0 : Nat} {x1 : Nat} {x2 : Int32} {x3 : Int32} {x4 : Int32} {t0 : Int32} (hT : ZT S) (hR : RP SZ S) (r_x0 : zK S x0 = 2) (r_x1 : zK S x1 = 4) (r_x2 : (0 : Int) ≤ x2.toInt ∧ x2.toInt ≤ (90000 : Int)) (r_x3 : (0 : Int) ≤ x3.toInt ∧ x3.toInt ≤ (1 : Int)) (r_x4 : (0 : Int) ≤ x4.toInt ∧ x4.toInt ≤ (90000 : Int)) (r_t0 : (0 : Int) ≤ t0.toInt ∧ t0.toInt ≤ (90000 : Int)) : Ok (d_X2_readRemark_55 x0 x1 x2 x3 x4 t0 S) (fun o => ZT o.2 ∧ RP SZ o.2 ∧ ((0 : Int) ≤ o.1.toInt ∧ o.1.toInt ≤ (1 : Int))) := by
  unfold d_X2_readRemark_55
  have j41 := J_2_4 hT r_x0
  refine ok_if (fun c42 => ?_) (fun c42 => ?_)
  ·
    replace c42 := ti_eqP (a := x3) (b := (0 : Int32)) c42 rfl (show (0 : Int32).toInt = 0 from rfl)
    refine ok_if (fun c43 => ?_) (fun c43 => ?_)
    ·
      replace c43 := ti_leP (a := t0) (b := x4) c43 rfl rfl
      exact t_d_X2_readRemark_91 (S := S)  (x0 := x0) (x1 := x1) (x2 := x2) (x5 := t0) hT hR r_x0 r_x1 r_x2 r_t0
    ·
      replace c43 := ti_leN (a := t0) (b := x4) c43 rfl rfl
      exact t_d_X2_readRemark_83 (S := S)  (x0 := x0) (x4 := x4) hT hR r_x0 r_x4
  ·
    replace c42 := ti_eqN (a := x3) (b := (0 : Int32)) c42 rfl (show (0 : Int32).toInt = 0 from rfl)
    refine ok_chk r_x0 ?_
    obtain ⟨b1, p_b1, k_b1, c_b1⟩ := T_2_2 hT r_x0
    have rl_b1 := rL_ge b1
    refine ok_calR p_b1 ?_
    refine ok_chk k_b1 ?_
    have j44 := J61_2 hT k_b1 c_b1
    obtain ⟨r2, h_r2, p_r2⟩ := roz (t_f_X6_size (x0 := b1) hT k_b1)
    dsimp only at p_r2
    refine ok_calR h_r2 ?_
    have s_r2 : r2.toInt = (zI S 1 b1).toInt := congrArg Int32.toInt p_r2.2
    refine ok_chk ⟨rfl, rfl⟩ ?_
    refine ok_if (fun c45 => ?_) (fun c45 => ?_)
    ·
      replace c45 := ti_eqP (a := x4) (b := r2) c45 rfl rfl
      exact t_d_X2_readRemark_83 (S := S)  (x0 := x0) (x4 := x4) hT hR r_x0 r_x4
    ·
      replace c45 := ti_eqN (a := x4) (b := r2) c45 rfl rfl
      exact t_d_X2_readRemark_91 (S := S)  (x0 := x0) (x1 := x1) (x2 := x2) (x5 := t0) hT hR r_x0 r_x1 r_x2 r_t0
theorem t_d_X2_readRemark_23 {SZ S : ZS} {x0 : Nat} {x1 : Nat} {x2 : Int32} {t0 : Int32} (hT : ZT S) (hR : RP SZ S) (r_x0 : zK S x0 = 2) (r_x1 : zK S x1 = 4) (r_x2 : (0 : Int) ≤ x2.toInt ∧ x2.toInt ≤ (90000 : Int)) (r_t0 : (0 : Int) ≤ t0.toInt ∧ t0.toInt ≤ (1 : Int)) : Ok (d_X2_readRemark_23 x0 x1 x2 t0 S) (fun o => ZT o.2 ∧ RP SZ o.2 ∧ ((0 : Int) ≤ o.1.toInt ∧ o.1.toInt ≤ (1 : Int))) := by
  unfold d_X2_readRemark_23
  have j46 := J_2_4 hT r_x0
  refine ok_chk r_x0 ?_
  obtain ⟨b1, p_b1, k_b1, c_b1⟩ := T_2_2 hT r_x0
  have rl_b1 := rL_ge b1
  refine ok_calR p_b1 ?_
  refine ok_chk k_b1 ?_
  have j47 := J61_2 hT k_b1 c_b1
  obtain ⟨r2, h_r2, p_r2⟩ := roz (t_f_X6_indexOf (x0 := b1) (x1 := (125 : Int32)) (x2 := x2) hT k_b1 (by have z0 : (125 : Int32).toInt = 125 := rfl; omega))
  dsimp only at p_r2
  refine ok_calR h_r2 ?_
  refine ok_chk ⟨rfl, rfl⟩ ?_
  refine ok_if (fun c48 => ?_) (fun c48 => ?_)
  ·
    replace c48 := ti_eqP (a := t0) (b := (0 : Int32)) c48 rfl (show (0 : Int32).toInt = 0 from rfl)
    refine ok_chk r_x0 ?_
    refine ok_calR p_b1 ?_
    refine ok_chk k_b1 ?_
    obtain ⟨r4, h_r4, p_r4⟩ := roz (t_f_X6_indexOf (x0 := b1) (x1 := (10 : Int32)) (x2 := x2) hT k_b1 (by have z0 : (10 : Int32).toInt = 10 := rfl; omega))
    dsimp only at p_r4
    refine ok_calR h_r4 ?_
    refine ok_chk ⟨rfl, rfl⟩ ?_
    exact t_d_X2_readRemark_55 (S := S)  (x0 := x0) (x1 := x1) (x2 := x2) (x3 := t0) (x4 := r2) (t0 := r4) hT hR r_x0 r_x1 r_x2 r_t0 (by omega) (by omega)
  ·
    replace c48 := ti_eqN (a := t0) (b := (0 : Int32)) c48 rfl (show (0 : Int32).toInt = 0 from rfl)
    exact t_d_X2_readRemark_55 (S := S)  (x0 := x0) (x1 := x1) (x2 := x2) (x3 := t0) (x4 := r2) (t0 := r2) hT hR r_x0 r_x1 r_x2 r_t0 (by omega) (by omega)
theorem t_d_X2_readRemark_0 {SZ S : ZS} {x0 : Nat} {x1 : Nat} (hT : ZT S) (hR : RP SZ S) (r_x0 : zK S x0 = 2) (r_x1 : zK S x1 = 4) (q0 : (zI S 4 x0).toInt ≤ 90000) : Ok (d_X2_readRemark_0 x0 x1 S) (fun o => ZT o.2 ∧ RP SZ o.2 ∧ ((0 : Int) ≤ o.1.toInt ∧ o.1.toInt ≤ (1 : Int))) := by
  unfold d_X2_readRemark_0
  have j49 := J_2_4 hT r_x0
  refine ok_chk r_x0 ?_
  refine ok_chk r_x0 ?_
  obtain ⟨b1, p_b1, k_b1, c_b1⟩ := T_2_2 hT r_x0
  have rl_b1 := rL_ge b1
  refine ok_calR p_b1 ?_
  refine ok_chk k_b1 ?_
  have j50 := J61_2 hT k_b1 c_b1
  obtain ⟨r2, h_r2, p_r2⟩ := roz (t_f_X6_at (x0 := b1) (x1 := (zI S 4 x0)) hT k_b1)
  dsimp only at p_r2
  refine ok_calR h_r2 ?_
  refine ok_chk ⟨rfl, rfl⟩ ?_
  refine ok_if (fun c51 => ?_) (fun c51 => ?_)
  ·
    replace c51 := ti_eqP (a := r2) (b := (123 : Int32)) c51 rfl (show (123 : Int32).toInt = 123 from rfl)
    exact t_d_X2_readRemark_23 (S := S)  (x0 := x0) (x1 := x1) (x2 := (zI S 4 x0)) (t0 := (1 : Int32)) hT hR r_x0 r_x1 (by omega) (by decide)
  ·
    replace c51 := ti_eqN (a := r2) (b := (123 : Int32)) c51 rfl (show (123 : Int32).toInt = 123 from rfl)
    exact t_d_X2_readRemark_23 (S := S)  (x0 := x0) (x1 := x1) (x2 := (zI S 4 x0)) (t0 := (0 : Int32)) hT hR r_x0 r_x1 (by omega) (by decide)
theorem t_d_X2_readRemark {SZ S : ZS} {x0 : Nat} {x1 : Nat} (hT : ZT S) (hR : RP SZ S) (r_x0 : zK S x0 = 2) (r_x1 : zK S x1 = 4) (q0 : (zI S 4 x0).toInt ≤ 90000) : Ok (d_X2_readRemark x0 x1 S) (fun o => ZT o.2 ∧ RP SZ o.2 ∧ ((0 : Int) ≤ o.1.toInt ∧ o.1.toInt ≤ (1 : Int))) := t_d_X2_readRemark_0 hT hR r_x0 r_x1 q0
theorem t_d_X2_readRemarks_51 {SZ S : ZS} {self8 : Nat → Nat → Int32 → Int32 → ZS → Option (Int32 × ZS)} {N8 : Nat} (hself8 : ∀ (x0 : Nat) (x1 : Nat) (x2 : Int32) (x3 : Int32) (S : ZS), ZT S → RP SZ S → (zK S x0 = 2) → (zK S x1 = 4) → ((0 : Int) ≤ x2.toInt ∧ x2.toInt ≤ (1 : Int)) → ((0 : Int) ≤ x3.toInt ∧ x3.toInt ≤ (2000 : Int)) → (2001 - x3.toInt) < (N8 : Int) → Ok (self8 x0 x1 x2 x3 S) (fun o => ZT o.2 ∧ RP SZ o.2 ∧ ((0 : Int) ≤ o.1.toInt ∧ o.1.toInt ≤ (1 : Int)))) {x0 : Nat} {x1 : Nat} {x3 : Int32} (hT : ZT S) (hR : RP SZ S) (r_x0 : zK S x0 = 2) (r_x1 : zK S x1 = 4) (r_x3 : (0 : Int) ≤ x3.toInt ∧ x3.toInt ≤ (1999 : Int)) (q0 : (zI S 4 x0).toInt ≤ 90000) (m8 : (2001 - x3.toInt) ≤ (N8 : Int)) : Ok (d_X2_readRemarks_51 self8 x0 x1 x3 S) (fun o => ZT o.2 ∧ RP SZ o.2 ∧ ((0 : Int) ≤ o.1.toInt ∧ o.1.toInt ≤ (1 : Int))) := by
  unfold d_X2_readRemarks_51
  have j52 := J_2_4 hT r_x0
  refine ok_chk r_x0 ?_
  obtain ⟨⟨r2, S3⟩, h_r2, T_S3, B_S3, p_r2⟩ := t_d_X2_readRemark (x0 := x0) (x1 := x1) (SZ := S) hT (rp_0 S) r_x0 r_x1 q0
  replace T_S3 : ZT S3 := T_S3
  replace B_S3 : RP S S3 := B_S3
  have R_S3 : RP SZ S3 := rp_t hR B_S3
  dsimp only at p_r2
  refine ok_cal2R h_r2 ?_
  have g_S3 := (fz_X2_readRemark h_r2 hT.2.2.2.2.1).2.2
  refine ok_chk ((g_S3 x0 (lt18 r_x0 (by decide))).1.trans r_x0) ?_
  obtain ⟨⟨r6, S6⟩, h_r6, T_S6, A_S6, -⟩ := t_f_X2_skipBlanks (x0 := x0) (SZ := S3) T_S3 (a7_0 S3) ((g_S3 x0 (lt18 r_x0 (by decide))).1.trans r_x0)
  replace T_S6 : ZT S6 := T_S6
  replace A_S6 : A7 S3 S6 := A_S6
  refine ok_calR h_r6 ?_
  have q_S6 := fq_X2_skipBlanks h_r6
  have kE_S6 : zK S6 = zK S3 := q_S6.2.2.1
  have nE_S6 : zN S6 = zN S3 := q_S6.2.2.2.1
  have R_S6 : RP SZ S6 := rp_f R_S3 T_S3 q_S6 (fz_X2_skipBlanks h_r6) (by decide) A_S6
  refine ok_chk ⟨q_S6.1, q_S6.2.1⟩ ?_
  refine ok_bnd (fun v7 e53 => ?_)
  have t_v7 : v7.toInt = x3.toInt + 1 := ti_add e53 rfl (show (1 : Int32).toInt = 1 from rfl) (by omega) (by omega)
  exact hself8 x0 x1 r2 v7 S6 T_S6 R_S6 ((congrFun kE_S6 x0).trans ((g_S3 x0 (lt18 r_x0 (by decide))).1.trans r_x0)) ((congrFun kE_S6 x1).trans ((g_S3 x1 (lt18 r_x1 (by decide))).1.trans r_x1)) (by omega) (by omega) (by omega)
theorem t_d_X2_readRemarks_8s {SZ S : ZS} {self8 : Nat → Nat → Int32 → Int32 → ZS → Option (Int32 × ZS)} {N8 : Nat} (hself8 : ∀ (x0 : Nat) (x1 : Nat) (x2 : Int32) (x3 : Int32) (S : ZS), ZT S → RP SZ S → (zK S x0 = 2) → (zK S x1 = 4) → ((0 : Int) ≤ x2.toInt ∧ x2.toInt ≤ (1 : Int)) → ((0 : Int) ≤ x3.toInt ∧ x3.toInt ≤ (2000 : Int)) → (2001 - x3.toInt) < (N8 : Int) → Ok (self8 x0 x1 x2 x3 S) (fun o => ZT o.2 ∧ RP SZ o.2 ∧ ((0 : Int) ≤ o.1.toInt ∧ o.1.toInt ≤ (1 : Int)))) {x0 : Nat} {x1 : Nat} {x2 : Int32} {x3 : Int32} (hT : ZT S) (hR : RP SZ S) (r_x0 : zK S x0 = 2) (r_x1 : zK S x1 = 4) (r_x2 : (0 : Int) ≤ x2.toInt ∧ x2.toInt ≤ (1 : Int)) (r_x3 : (0 : Int) ≤ x3.toInt ∧ x3.toInt ≤ (2000 : Int)) (m8 : (2001 - x3.toInt) ≤ (N8 : Int)) : Ok (d_X2_readRemarks_8s self8 x0 x1 x2 x3 S) (fun o => ZT o.2 ∧ RP SZ o.2 ∧ ((0 : Int) ≤ o.1.toInt ∧ o.1.toInt ≤ (1 : Int))) := by
  unfold d_X2_readRemarks_8s
  have j54 := J_2_4 hT r_x0
  refine ok_if (fun c55 => ?_) (fun c55 => ?_)
  ·
    replace c55 := ti_leP (a := (2000 : Int32)) (b := x3) c55 (show (2000 : Int32).toInt = 2000 from rfl) rfl
    unfold d_X2_readRemarks_67
    refine ok_chk (nar_b (v := x2) (by omega) (by omega)) ?_
    exact ok_ret ⟨hT, hR, (show (0 : Int) ≤ x2.toInt ∧ x2.toInt ≤ (1 : Int) from (by omega))⟩
  ·
    replace c55 := ti_leN (a := (2000 : Int32)) (b := x3) c55 (show (2000 : Int32).toInt = 2000 from rfl) rfl
    refine ok_if (fun c56 => ?_) (fun c56 => ?_)
    ·
      replace c56 := ti_eqP (a := x2) (b := (0 : Int32)) c56 rfl (show (0 : Int32).toInt = 0 from rfl)
      unfold d_X2_readRemarks_67
      refine ok_chk (nar_b (v := x2) (by omega) (by omega)) ?_
      exact ok_ret ⟨hT, hR, (show (0 : Int) ≤ x2.toInt ∧ x2.toInt ≤ (1 : Int) from (by omega))⟩
    ·
      replace c56 := ti_eqN (a := x2) (b := (0 : Int32)) c56 rfl (show (0 : Int32).toInt = 0 from rfl)
      refine ok_chk r_x0 ?_
      obtain ⟨b1, p_b1, k_b1, c_b1⟩ := T_2_2 hT r_x0
      have rl_b1 := rL_ge b1
      refine ok_calR p_b1 ?_
      refine ok_chk r_x0 ?_
      refine ok_chk k_b1 ?_
      have j57 := J61_2 hT k_b1 c_b1
      obtain ⟨r2, h_r2, p_r2⟩ := roz (t_f_X6_at (x0 := b1) (x1 := (zI S 4 x0)) hT k_b1)
      dsimp only at p_r2
      refine ok_calR h_r2 ?_
      refine ok_chk ⟨rfl, rfl⟩ ?_
      refine ok_if (fun c58 => ?_) (fun c58 => ?_)
      ·
        replace c58 := ti_eqP (a := r2) (b := (123 : Int32)) c58 rfl (show (123 : Int32).toInt = 123 from rfl)
        exact t_d_X2_readRemarks_51 (S := S) hself8 (x0 := x0) (x1 := x1) (x3 := x3) hT hR r_x0 r_x1 (by omega) (by omega) m8
      ·
        replace c58 := ti_eqN (a := r2) (b := (123 : Int32)) c58 rfl (show (123 : Int32).toInt = 123 from rfl)
        refine ok_chk r_x0 ?_
        refine ok_calR p_b1 ?_
        refine ok_chk r_x0 ?_
        refine ok_chk k_b1 ?_
        obtain ⟨r4, h_r4, p_r4⟩ := roz (t_f_X6_at (x0 := b1) (x1 := (zI S 4 x0)) hT k_b1)
        dsimp only at p_r4
        refine ok_calR h_r4 ?_
        refine ok_chk ⟨rfl, rfl⟩ ?_
        refine ok_if (fun c59 => ?_) (fun c59 => ?_)
        ·
          replace c59 := ti_eqP (a := r4) (b := (59 : Int32)) c59 rfl (show (59 : Int32).toInt = 59 from rfl)
          exact t_d_X2_readRemarks_51 (S := S) hself8 (x0 := x0) (x1 := x1) (x3 := x3) hT hR r_x0 r_x1 (by omega) (by omega) m8
        ·
          replace c59 := ti_eqN (a := r4) (b := (59 : Int32)) c59 rfl (show (59 : Int32).toInt = 59 from rfl)
          unfold d_X2_readRemarks_67
          refine ok_chk (nar_b (v := x2) (by omega) (by omega)) ?_
          exact ok_ret ⟨hT, hR, (show (0 : Int) ≤ x2.toInt ∧ x2.toInt ≤ (1 : Int) from (by omega))⟩
theorem t_d_X2_readRemarks_8 {SZ : ZS} : ∀ (n : Nat) (x0 : Nat) (x1 : Nat) (x2 : Int32) (x3 : Int32) (S : ZS), ZT S → RP SZ S → (zK S x0 = 2) → (zK S x1 = 4) → ((0 : Int) ≤ x2.toInt ∧ x2.toInt ≤ (1 : Int)) → ((0 : Int) ≤ x3.toInt ∧ x3.toInt ≤ (2000 : Int)) → (2001 - x3.toInt) < (n : Int) → Ok (d_X2_readRemarks_8  n x0 x1 x2 x3 S) (fun o => ZT o.2 ∧ RP SZ o.2 ∧ ((0 : Int) ≤ o.1.toInt ∧ o.1.toInt ≤ (1 : Int))) := by
  intro n
  induction n with
  | zero => intro x0 x1 x2 x3 S hT hR g0 g1 g2 g3  hm; exfalso; omega
  | succ n ih =>
    intro x0 x1 x2 x3 S hT hR g0 g1 g2 g3  hm
    exact t_d_X2_readRemarks_8s (N8 := n)  ih hT hR g0 g1 g2 g3  (by omega)
theorem t_d_X2_readRemarks_0 {SZ S : ZS} {x0 : Nat} {x1 : Nat} (hT : ZT S) (hR : RP SZ S) (r_x0 : zK S x0 = 2) (r_x1 : zK S x1 = 4) : Ok (d_X2_readRemarks_0 x0 x1 S) (fun o => ZT o.2 ∧ RP SZ o.2 ∧ ((0 : Int) ≤ o.1.toInt ∧ o.1.toInt ≤ (1 : Int))) := by
  unfold d_X2_readRemarks_0
  have j60 := J_2_4 hT r_x0
  refine ok_chk r_x0 ?_
  obtain ⟨⟨r1, S1⟩, h_r1, T_S1, A_S1, -⟩ := t_f_X2_skipBlanks (x0 := x0) (SZ := S) hT (a7_0 S) r_x0
  replace T_S1 : ZT S1 := T_S1
  replace A_S1 : A7 S S1 := A_S1
  refine ok_calR h_r1 ?_
  have q_S1 := fq_X2_skipBlanks h_r1
  have kE_S1 : zK S1 = zK S := q_S1.2.2.1
  have nE_S1 : zN S1 = zN S := q_S1.2.2.2.1
  have R_S1 : RP SZ S1 := rp_f hR hT q_S1 (fz_X2_skipBlanks h_r1) (by decide) A_S1
  refine ok_chk ⟨q_S1.1, q_S1.2.1⟩ ?_
  exact t_d_X2_readRemarks_8   mFuel x0 x1 (1 : Int32) (0 : Int32) S1 T_S1 R_S1 ((congrFun kE_S1 x0).trans r_x0) ((congrFun kE_S1 x1).trans r_x1) (by decide) (by decide) (by show _ < ((200000 : Nat) : Int); have z0 : (1 : Int32).toInt = 1 := rfl; have z1 : (0 : Int32).toInt = 0 := rfl; omega)
theorem t_d_X2_readRemarks {SZ S : ZS} {x0 : Nat} {x1 : Nat} (hT : ZT S) (hR : RP SZ S) (r_x0 : zK S x0 = 2) (r_x1 : zK S x1 = 4) : Ok (d_X2_readRemarks x0 x1 S) (fun o => ZT o.2 ∧ RP SZ o.2 ∧ ((0 : Int) ≤ o.1.toInt ∧ o.1.toInt ≤ (1 : Int))) := t_d_X2_readRemarks_0 hT hR r_x0 r_x1
theorem t_d_X2_readName_101 {SZ S : ZS} {x0 : Nat} (hT : ZT S) (hR : RP SZ S) (r_x0 : zK S x0 = 2) : Ok (d_X2_readName_101 x0 S) (fun o => ZT o.2 ∧ RP SZ o.2 ∧ ((0 : Int) ≤ o.1.toInt ∧ o.1.toInt ≤ (1 : Int))) := by
  unfold d_X2_readName_101
  have j61 := J_2_4 hT r_x0
  refine ok_chk r_x0 ?_
  obtain ⟨b1, p_b1, k_b1, c_b1⟩ := T_2_6 hT r_x0
  have lo_b1 := M_2_6 hT r_x0 p_b1
  have rl_b1 := rL_x1 lo_b1 c_b1
  refine ok_calR p_b1 ?_
  refine ok_chk k_b1 ?_
  have j62 := J61_1 hT k_b1 c_b1
  obtain ⟨r2, h_r2, p_r2⟩ := roz (t_f_X6_size (x0 := b1) hT k_b1)
  dsimp only at p_r2
  refine ok_calR h_r2 ?_
  have s_r2 : r2.toInt = (zI S 1 b1).toInt := congrArg Int32.toInt p_r2.2
  refine ok_chk ⟨rfl, rfl⟩ ?_
  refine ok_if (fun c63 => ?_) (fun c63 => ?_)
  ·
    replace c63 := ti_ltP (a := (0 : Int32)) (b := r2) c63 (show (0 : Int32).toInt = 0 from rfl) rfl
    unfold d_X2_readName_123
    unfold d_X2_readName_128
    refine ok_chk (by decide) ?_
    exact ok_ret ⟨hT, hR, (show (0 : Int) ≤ (1 : Int32).toInt ∧ (1 : Int32).toInt ≤ (1 : Int) from (by decide))⟩
  ·
    replace c63 := ti_ltN (a := (0 : Int32)) (b := r2) c63 (show (0 : Int32).toInt = 0 from rfl) rfl
    refine ok_chk r_x0 ?_
    refine ok_chk r_x0 ?_
    obtain ⟨⟨r3, S3⟩, h_r3, T_S3, A_S3, p_r3⟩ := t_f_X2_refuse (x0 := x0) (x1 := (1 : Int32)) (x2 := (zI S 4 x0)) (SZ := S) hT (a7_0 S) r_x0
    replace T_S3 : ZT S3 := T_S3
    replace A_S3 : A7 S S3 := A_S3
    dsimp only at p_r3
    refine ok_calR h_r3 ?_
    have q_S3 := fq_X2_refuse h_r3
    have kE_S3 : zK S3 = zK S := q_S3.2.2.1
    have nE_S3 : zN S3 = zN S := q_S3.2.2.2.1
    have R_S3 : RP SZ S3 := rp_f hR hT q_S3 (fz_X2_refuse h_r3) (by decide) A_S3
    have : (zI S3 4 x0).toInt = (zI S 4 x0).toInt := congrArg Int32.toInt ((((fz_X2_refuse h_r3) hT.2.2.2.2.1).2.2 x0 (by rw [r_x0]; decide)).2.2.1 4 (by rw [r_x0]; decide))
    refine ok_chk ⟨q_S3.1, q_S3.2.1⟩ ?_
    refine ok_if (fun c64 => ?_) (fun c64 => ?_)
    ·
      replace c64 := ti_eqP (a := r3) (b := (0 : Int32)) c64 rfl (show (0 : Int32).toInt = 0 from rfl)
      unfold d_X2_readName_128
      refine ok_chk (by decide) ?_
      exact ok_ret ⟨T_S3, R_S3, (show (0 : Int) ≤ (0 : Int32).toInt ∧ (0 : Int32).toInt ≤ (1 : Int) from (by decide))⟩
    ·
      replace c64 := ti_eqN (a := r3) (b := (0 : Int32)) c64 rfl (show (0 : Int32).toInt = 0 from rfl)
      unfold d_X2_readName_123
      unfold d_X2_readName_128
      refine ok_chk (by decide) ?_
      exact ok_ret ⟨T_S3, R_S3, (show (0 : Int) ≤ (1 : Int32).toInt ∧ (1 : Int32).toInt ≤ (1 : Int) from (by decide))⟩
theorem t_d_X2_readName_70 {SZ S : ZS} {self22 : Nat → ZS → Option (Int32 × ZS)} {N22 : Nat} (hself22 : ∀ (x0 : Nat) (S : ZS), ZT S → RP SZ S → (zK S x0 = 2) → (∀ b, zP S 6 x0 = some b → (zI S 1 b).toInt ≤ (zI S 4 x0).toInt) → (90102 - (zI S 4 x0).toInt) < (N22 : Int) → Ok (self22 x0 S) (fun o => ZT o.2 ∧ RP SZ o.2 ∧ ((0 : Int) ≤ o.1.toInt ∧ o.1.toInt ≤ (1 : Int)))) {x0 : Nat} (hT : ZT S) (hR : RP SZ S) (r_x0 : zK S x0 = 2) (q0 : ∀ b, zP S 6 x0 = some b → (zI S 1 b).toInt ≤ (zI S 4 x0).toInt) (q1 : (zI S 4 x0).toInt < 2000) (m22 : (90102 - (zI S 4 x0).toInt) ≤ (N22 : Int)) : Ok (d_X2_readName_70 self22 x0 S) (fun o => ZT o.2 ∧ RP SZ o.2 ∧ ((0 : Int) ≤ o.1.toInt ∧ o.1.toInt ≤ (1 : Int))) := by
  unfold d_X2_readName_70
  have j65 := J_2_4 hT r_x0
  refine ok_chk r_x0 ?_
  obtain ⟨b1, p_b1, k_b1, c_b1⟩ := T_2_6 hT r_x0
  have lo_b1 := M_2_6 hT r_x0 p_b1
  have rl_b1 := rL_x1 lo_b1 c_b1
  refine ok_calR p_b1 ?_
  have e9 := q0 b1 p_b1
  refine ok_chk r_x0 ?_
  obtain ⟨b2, p_b2, k_b2, c_b2⟩ := T_2_2 hT r_x0
  have rl_b2 := rL_ge b2
  refine ok_calR p_b2 ?_
  refine ok_chk r_x0 ?_
  refine ok_chk k_b2 ?_
  have j66 := J61_2 hT k_b2 c_b2
  obtain ⟨r3, h_r3, p_r3⟩ := roz (t_f_X6_at (x0 := b2) (x1 := (zI S 4 x0)) hT k_b2)
  dsimp only at p_r3
  refine ok_calR h_r3 ?_
  refine ok_chk ⟨rfl, rfl⟩ ?_
  refine ok_chk k_b1 ?_
  have j67 := J61_1 hT k_b1 c_b1
  obtain ⟨⟨r5, S6⟩, h_r5, T_S6, B_S6, p_r5_0, p_r5_1⟩ := t_d_X6_put (x0 := b1) (x1 := r3) (SZ := S) hT (rp_0 S) k_b1 (by omega) (by omega) (by omega)
  replace T_S6 : ZT S6 := T_S6
  replace B_S6 : RP S S6 := B_S6
  have R_S6 : RP SZ S6 := rp_t hR B_S6
  dsimp only at p_r5_0 p_r5_1
  refine ok_cal2R h_r5 ?_
  have g_S6 := (fz_X6_put h_r5 hT.2.2.2.2.1).2.2
  have : (zI S6 4 x0).toInt = (zI S 4 x0).toInt := congrArg Int32.toInt ((g_S6 x0 (lt18 r_x0 (by decide))).2.2.1 4 (by rw [r_x0]; decide))
  refine ok_chk ((g_S6 x0 (lt18 r_x0 (by decide))).1.trans r_x0) ?_
  refine ok_bnd (fun v9 e68 => ?_)
  have j69 := J_2_4 T_S6 ((g_S6 x0 (lt18 r_x0 (by decide))).1.trans r_x0)
  have t_v9 : v9.toInt = (zI S6 4 x0).toInt + 1 := ti_add e68 rfl (show (1 : Int32).toInt = 1 from rfl) (by omega) (by omega)
  refine ok_chk ((g_S6 x0 (lt18 r_x0 (by decide))).1.trans r_x0) ?_
  refine ok_bnd (fun S10 e70 => ?_)
  have T_S10 : ZT S10 := e70.symm ▸ zt_I T_S6 ((g_S6 x0 (lt18 r_x0 (by decide))).1.trans r_x0) (by decide) (show (0 : Int) ≤ v9.toInt ∧ v9.toInt ≤ (90100 : Int) from (by omega))
  have kE_S10 : zK S10 = zK S6 := by rw [e70]; rfl
  have nE_S10 : zN S10 = zN S6 := by rw [e70]; rfl
  have R_S10 : RP SZ S10 := rp_I R_S6 T_S6 ((g_S6 x0 (lt18 r_x0 (by decide))).1.trans r_x0) e70 (by decide)
  have : (zI S10 4 x0).toInt = v9.toInt := by rw [e70]; exact (congrArg Int32.toInt (zI_self _ _ _ _)).trans rfl
  have j71 := J_2_4 T_S10 ((congrFun kE_S10 x0).trans ((g_S6 x0 (lt18 r_x0 (by decide))).1.trans r_x0))
  exact hself22 x0 S10 T_S10 R_S10 ((congrFun kE_S10 x0).trans ((g_S6 x0 (lt18 r_x0 (by decide))).1.trans r_x0)) (fun b9 h9 => by have e8 : zP S10 = zP S6 := by { rw [e70]; rfl }; have h8 : zP S6 6 x0 = some b9 := by { rw [← e8]; exact h9 }; rw [(g_S6 x0 (lt18 r_x0 (by decide))).2.2.2.1 6 (by rw [r_x0]; decide), p_b1] at h8; cases h8; have h7 : zI S10 1 b1 = zI S6 1 b1 := by { rw [e70]; rfl }; rw [h7]; omega) (by omega)
theorem t_d_X2_readName_22s {SZ S : ZS} {self22 : Nat → ZS → Option (Int32 × ZS)} {N22 : Nat} (hself22 : ∀ (x0 : Nat) (S : ZS), ZT S → RP SZ S → (zK S x0 = 2) → (∀ b, zP S 6 x0 = some b → (zI S 1 b).toInt ≤ (zI S 4 x0).toInt) → (90102 - (zI S 4 x0).toInt) < (N22 : Int) → Ok (self22 x0 S) (fun o => ZT o.2 ∧ RP SZ o.2 ∧ ((0 : Int) ≤ o.1.toInt ∧ o.1.toInt ≤ (1 : Int)))) {x0 : Nat} (hT : ZT S) (hR : RP SZ S) (r_x0 : zK S x0 = 2) (q0 : ∀ b, zP S 6 x0 = some b → (zI S 1 b).toInt ≤ (zI S 4 x0).toInt) (m22 : (90102 - (zI S 4 x0).toInt) ≤ (N22 : Int)) : Ok (d_X2_readName_22s self22 x0 S) (fun o => ZT o.2 ∧ RP SZ o.2 ∧ ((0 : Int) ≤ o.1.toInt ∧ o.1.toInt ≤ (1 : Int))) := by
  unfold d_X2_readName_22s
  have j72 := J_2_4 hT r_x0
  refine ok_chk r_x0 ?_
  refine ok_chk r_x0 ?_
  obtain ⟨b1, p_b1, k_b1, c_b1⟩ := T_2_2 hT r_x0
  have rl_b1 := rL_ge b1
  refine ok_calR p_b1 ?_
  refine ok_chk k_b1 ?_
  have j73 := J61_2 hT k_b1 c_b1
  obtain ⟨r2, h_r2, p_r2⟩ := roz (t_f_X6_size (x0 := b1) hT k_b1)
  dsimp only at p_r2
  refine ok_calR h_r2 ?_
  have s_r2 : r2.toInt = (zI S 1 b1).toInt := congrArg Int32.toInt p_r2.2
  refine ok_chk ⟨rfl, rfl⟩ ?_
  refine ok_if (fun c74 => ?_) (fun c74 => ?_)
  ·
    replace c74 := ti_leP (a := r2) (b := (zI S 4 x0)) c74 rfl rfl
    exact t_d_X2_readName_101 (S := S)  (x0 := x0) hT hR r_x0
  ·
    replace c74 := ti_leN (a := r2) (b := (zI S 4 x0)) c74 rfl rfl
    refine ok_chk r_x0 ?_
    refine ok_calR p_b1 ?_
    refine ok_chk r_x0 ?_
    refine ok_chk k_b1 ?_
    obtain ⟨r4, h_r4, p_r4⟩ := roz (t_f_X6_at (x0 := b1) (x1 := (zI S 4 x0)) hT k_b1)
    dsimp only at p_r4
    refine ok_calR h_r4 ?_
    refine ok_chk ⟨rfl, rfl⟩ ?_
    obtain ⟨r5, h_r5, p_r5⟩ := roz (t_f_X11_isLetter (x0 := r4) hT )
    dsimp only at p_r5
    refine ok_calR h_r5 ?_
    refine ok_chk ⟨rfl, rfl⟩ ?_
    refine ok_if (fun c75 => ?_) (fun c75 => ?_)
    ·
      replace c75 := ti_eqP (a := r5) (b := (0 : Int32)) c75 rfl (show (0 : Int32).toInt = 0 from rfl)
      refine ok_chk r_x0 ?_
      refine ok_calR p_b1 ?_
      refine ok_chk r_x0 ?_
      refine ok_chk k_b1 ?_
      obtain ⟨r7, h_r7, p_r7⟩ := roz (t_f_X6_at (x0 := b1) (x1 := (zI S 4 x0)) hT k_b1)
      dsimp only at p_r7
      refine ok_calR h_r7 ?_
      refine ok_chk ⟨rfl, rfl⟩ ?_
      obtain ⟨r8, h_r8, p_r8⟩ := roz (t_f_X11_isDigit (x0 := r7) hT )
      dsimp only at p_r8
      refine ok_calR h_r8 ?_
      refine ok_chk ⟨rfl, rfl⟩ ?_
      refine ok_if (fun c76 => ?_) (fun c76 => ?_)
      ·
        replace c76 := ti_eqP (a := r8) (b := (0 : Int32)) c76 rfl (show (0 : Int32).toInt = 0 from rfl)
        exact t_d_X2_readName_101 (S := S)  (x0 := x0) hT hR r_x0
      ·
        replace c76 := ti_eqN (a := r8) (b := (0 : Int32)) c76 rfl (show (0 : Int32).toInt = 0 from rfl)
        exact t_d_X2_readName_70 (S := S) hself22 (x0 := x0) hT hR r_x0 q0 (by omega) m22
    ·
      replace c75 := ti_eqN (a := r5) (b := (0 : Int32)) c75 rfl (show (0 : Int32).toInt = 0 from rfl)
      exact t_d_X2_readName_70 (S := S) hself22 (x0 := x0) hT hR r_x0 q0 (by omega) m22
theorem t_d_X2_readName_22 {SZ : ZS} : ∀ (n : Nat) (x0 : Nat) (S : ZS), ZT S → RP SZ S → (zK S x0 = 2) → (∀ b, zP S 6 x0 = some b → (zI S 1 b).toInt ≤ (zI S 4 x0).toInt) → (90102 - (zI S 4 x0).toInt) < (n : Int) → Ok (d_X2_readName_22  n x0 S) (fun o => ZT o.2 ∧ RP SZ o.2 ∧ ((0 : Int) ≤ o.1.toInt ∧ o.1.toInt ≤ (1 : Int))) := by
  intro n
  induction n with
  | zero => intro x0 S hT hR g0 g1  hm; exfalso; have j9 := J_2_4 hT g0; omega
  | succ n ih =>
    intro x0 S hT hR g0 g1  hm
    exact t_d_X2_readName_22s (N22 := n)  ih hT hR g0 g1  (by omega)
theorem t_d_X2_readName_0 {SZ S : ZS} {x0 : Nat} (hT : ZT S) (hR : RP SZ S) (r_x0 : zK S x0 = 2) (q0 : (zI S 4 x0).toInt ≤ 90000) : Ok (d_X2_readName_0 x0 S) (fun o => ZT o.2 ∧ RP SZ o.2 ∧ ((0 : Int) ≤ o.1.toInt ∧ o.1.toInt ≤ (1 : Int))) := by
  unfold d_X2_readName_0
  have j77 := J_2_4 hT r_x0
  refine ok_chk r_x0 ?_
  refine ok_bnd (fun v1 e78 => ?_)
  have t_v1 : v1.toInt = (zI S 4 x0).toInt + 1 := ti_add e78 rfl (show (1 : Int32).toInt = 1 from rfl) (by omega) (by omega)
  refine ok_chk r_x0 ?_
  refine ok_bnd (fun S2 e79 => ?_)
  have T_S2 : ZT S2 := e79.symm ▸ zt_I hT r_x0 (by decide) (show (0 : Int) ≤ v1.toInt ∧ v1.toInt ≤ (90100 : Int) from (by omega))
  have kE_S2 : zK S2 = zK S := by rw [e79]; rfl
  have nE_S2 : zN S2 = zN S := by rw [e79]; rfl
  have R_S2 : RP SZ S2 := rp_I hR hT r_x0 e79 (by decide)
  have : (zI S2 4 x0).toInt = v1.toInt := by rw [e79]; exact (congrArg Int32.toInt (zI_self _ _ _ _)).trans rfl
  refine ok_chk ((congrFun kE_S2 x0).trans r_x0) ?_
  obtain ⟨⟨r3, S3⟩, h_r3, T_S3, A_S3, -⟩ := t_f_X2_skipBlanks (x0 := x0) (SZ := S2) T_S2 (a7_0 S2) ((congrFun kE_S2 x0).trans r_x0)
  replace T_S3 : ZT S3 := T_S3
  replace A_S3 : A7 S2 S3 := A_S3
  refine ok_calR h_r3 ?_
  have q_S3 := fq_X2_skipBlanks h_r3
  have kE_S3 : zK S3 = zK S2 := q_S3.2.2.1
  have nE_S3 : zN S3 = zN S2 := q_S3.2.2.2.1
  have R_S3 : RP SZ S3 := rp_f R_S2 T_S2 q_S3 (fz_X2_skipBlanks h_r3) (by decide) A_S3
  refine ok_chk ⟨q_S3.1, q_S3.2.1⟩ ?_
  refine ok_chk ((congrFun kE_S3 x0).trans ((congrFun kE_S2 x0).trans r_x0)) ?_
  obtain ⟨b4, p_b4, k_b4, c_b4⟩ := T_2_6 T_S3 ((congrFun kE_S3 x0).trans ((congrFun kE_S2 x0).trans r_x0))
  have lo_b4 := M_2_6 T_S3 ((congrFun kE_S3 x0).trans ((congrFun kE_S2 x0).trans r_x0)) p_b4
  have rl_b4 := rL_x1 lo_b4 c_b4
  refine ok_calR p_b4 ?_
  refine ok_chk k_b4 ?_
  have j80 := J61_1 T_S3 k_b4 c_b4
  obtain ⟨⟨r5, S5⟩, h_r5, T_S5, A_S5, -⟩ := t_f_X6_keep (x0 := b4) (x1 := (0 : Int32)) (SZ := S3) T_S3 (a7_0 S3) k_b4 (by have z0 : (0 : Int32).toInt = 0 := rfl; omega)
  replace T_S5 : ZT S5 := T_S5
  replace A_S5 : A7 S3 S5 := A_S5
  refine ok_calR h_r5 ?_
  have q_S5 := fq_X6_keep h_r5
  have kE_S5 : zK S5 = zK S3 := q_S5.2.2.1
  have nE_S5 : zN S5 = zN S3 := q_S5.2.2.2.1
  have R_S5 : RP SZ S5 := rp_f R_S3 T_S3 q_S5 (fz_X6_keep h_r5) (by decide) A_S5
  have : (zI S5 4 x0).toInt = (zI S3 4 x0).toInt := congrArg Int32.toInt ((((fz_X6_keep h_r5) T_S3.2.2.2.2.1).2.2 x0 (by rw [((congrFun kE_S3 x0).trans ((congrFun kE_S2 x0).trans r_x0))]; decide)).2.2.1 4 (by rw [((congrFun kE_S3 x0).trans ((congrFun kE_S2 x0).trans r_x0))]; decide))
  refine ok_chk ⟨q_S5.1, q_S5.2.1⟩ ?_
  have j81 := J_2_4 T_S5 ((congrFun kE_S5 x0).trans ((congrFun kE_S3 x0).trans ((congrFun kE_S2 x0).trans r_x0)))
  exact t_d_X2_readName_22   mFuel x0 S5 T_S5 R_S5 ((congrFun kE_S5 x0).trans ((congrFun kE_S3 x0).trans ((congrFun kE_S2 x0).trans r_x0))) (fun b9 h8 => by skip; rw [(((fz_X6_keep h_r5) T_S3.2.2.2.2.1).2.2 x0 (lt18 ((congrFun kE_S3 x0).trans ((congrFun kE_S2 x0).trans r_x0)) (by decide))).2.2.2.1 6 (by rw [((congrFun kE_S3 x0).trans ((congrFun kE_S2 x0).trans r_x0))]; decide), p_b4] at h8; cases h8; have h7 := keep_len k_b4 h_r5 (by decide); have j9 := J_2_4 T_S5 ((congrFun kE_S5 x0).trans ((congrFun kE_S3 x0).trans ((congrFun kE_S2 x0).trans r_x0))); have z9 : (0 : Int32).toInt = 0 := rfl; omega) (by show _ < ((200000 : Nat) : Int); omega)
theorem t_d_X2_readName {SZ S : ZS} {x0 : Nat} (hT : ZT S) (hR : RP SZ S) (r_x0 : zK S x0 = 2) (q0 : (zI S 4 x0).toInt ≤ 90000) : Ok (d_X2_readName x0 S) (fun o => ZT o.2 ∧ RP SZ o.2 ∧ ((0 : Int) ≤ o.1.toInt ∧ o.1.toInt ≤ (1 : Int))) := t_d_X2_readName_0 hT hR r_x0 q0
theorem t_d_X2_readValue_142 {SZ S : ZS} {self48 : Nat → ZS → Option (Int32 × ZS)} {N48 : Nat} (hself48 : ∀ (x0 : Nat) (S : ZS), ZT S → RP SZ S → (zK S x0 = 2) → (∀ b, zP S 7 x0 = some b → (zI S 1 b).toInt ≤ (zI S 4 x0).toInt) → (90102 - (zI S 4 x0).toInt) < (N48 : Int) → Ok (self48 x0 S) (fun o => ZT o.2 ∧ RP SZ o.2 ∧ ((0 : Int) ≤ o.1.toInt ∧ o.1.toInt ≤ (1 : Int)))) {x0 : Nat} {x1 : Int32} (hT : ZT S) (hR : RP SZ S) (r_x0 : zK S x0 = 2) (r_x1 : (0 : Int) ≤ x1.toInt ∧ x1.toInt ≤ (65535 : Int)) (q0 : ∀ b, zP S 7 x0 = some b → (zI S 1 b).toInt ≤ (zI S 4 x0).toInt) (q1 : (zI S 4 x0).toInt < 2000) (m48 : (90102 - (zI S 4 x0).toInt) ≤ (N48 : Int)) : Ok (d_X2_readValue_142 self48 x0 x1 S) (fun o => ZT o.2 ∧ RP SZ o.2 ∧ ((0 : Int) ≤ o.1.toInt ∧ o.1.toInt ≤ (1 : Int))) := by
  unfold d_X2_readValue_142
  have j82 := J_2_4 hT r_x0
  refine ok_if (fun c83 => ?_) (fun c83 => ?_)
  ·
    replace c83 := ti_eqP (a := x1) (b := (10 : Int32)) c83 rfl (show (10 : Int32).toInt = 10 from rfl)
    refine ok_chk r_x0 ?_
    refine ok_chk r_x0 ?_
    obtain ⟨⟨r9, S9⟩, h_r9, T_S9, A_S9, p_r9⟩ := t_f_X2_refuse (x0 := x0) (x1 := (1 : Int32)) (x2 := (zI S 4 x0)) (SZ := S) hT (a7_0 S) r_x0
    replace T_S9 : ZT S9 := T_S9
    replace A_S9 : A7 S S9 := A_S9
    dsimp only at p_r9
    refine ok_calR h_r9 ?_
    have q_S9 := fq_X2_refuse h_r9
    have kE_S9 : zK S9 = zK S := q_S9.2.2.1
    have nE_S9 : zN S9 = zN S := q_S9.2.2.2.1
    have R_S9 : RP SZ S9 := rp_f hR hT q_S9 (fz_X2_refuse h_r9) (by decide) A_S9
    have : (zI S9 4 x0).toInt = (zI S 4 x0).toInt := congrArg Int32.toInt ((((fz_X2_refuse h_r9) hT.2.2.2.2.1).2.2 x0 (by rw [r_x0]; decide)).2.2.1 4 (by rw [r_x0]; decide))
    refine ok_chk ⟨q_S9.1, q_S9.2.1⟩ ?_
    refine ok_chk (nar_b (v := r9) (by omega) (by omega)) ?_
    exact ok_ret ⟨T_S9, R_S9, (show (0 : Int) ≤ r9.toInt ∧ r9.toInt ≤ (1 : Int) from (by omega))⟩
  ·
    replace c83 := ti_eqN (a := x1) (b := (10 : Int32)) c83 rfl (show (10 : Int32).toInt = 10 from rfl)
    refine ok_chk r_x0 ?_
    obtain ⟨b1, p_b1, k_b1, c_b1⟩ := T_2_7 hT r_x0
    have lo_b1 := M_2_7 hT r_x0 p_b1
    have rl_b1 := rL_x1 lo_b1 c_b1
    refine ok_calR p_b1 ?_
    have e9 := q0 b1 p_b1
    refine ok_chk k_b1 ?_
    have j84 := J61_1 hT k_b1 c_b1
    obtain ⟨⟨r3, S4⟩, h_r3, T_S4, B_S4, p_r3_0, p_r3_1⟩ := t_d_X6_put (x0 := b1) (x1 := x1) (SZ := S) hT (rp_0 S) k_b1 r_x1 (by omega) (by omega)
    replace T_S4 : ZT S4 := T_S4
    replace B_S4 : RP S S4 := B_S4
    have R_S4 : RP SZ S4 := rp_t hR B_S4
    dsimp only at p_r3_0 p_r3_1
    refine ok_cal2R h_r3 ?_
    have g_S4 := (fz_X6_put h_r3 hT.2.2.2.2.1).2.2
    have : (zI S4 4 x0).toInt = (zI S 4 x0).toInt := congrArg Int32.toInt ((g_S4 x0 (lt18 r_x0 (by decide))).2.2.1 4 (by rw [r_x0]; decide))
    refine ok_chk ((g_S4 x0 (lt18 r_x0 (by decide))).1.trans r_x0) ?_
    refine ok_bnd (fun v7 e85 => ?_)
    have j86 := J_2_4 T_S4 ((g_S4 x0 (lt18 r_x0 (by decide))).1.trans r_x0)
    have t_v7 : v7.toInt = (zI S4 4 x0).toInt + 1 := ti_add e85 rfl (show (1 : Int32).toInt = 1 from rfl) (by omega) (by omega)
    refine ok_chk ((g_S4 x0 (lt18 r_x0 (by decide))).1.trans r_x0) ?_
    refine ok_bnd (fun S8 e87 => ?_)
    have T_S8 : ZT S8 := e87.symm ▸ zt_I T_S4 ((g_S4 x0 (lt18 r_x0 (by decide))).1.trans r_x0) (by decide) (show (0 : Int) ≤ v7.toInt ∧ v7.toInt ≤ (90100 : Int) from (by omega))
    have kE_S8 : zK S8 = zK S4 := by rw [e87]; rfl
    have nE_S8 : zN S8 = zN S4 := by rw [e87]; rfl
    have R_S8 : RP SZ S8 := rp_I R_S4 T_S4 ((g_S4 x0 (lt18 r_x0 (by decide))).1.trans r_x0) e87 (by decide)
    have : (zI S8 4 x0).toInt = v7.toInt := by rw [e87]; exact (congrArg Int32.toInt (zI_self _ _ _ _)).trans rfl
    have j88 := J_2_4 T_S8 ((congrFun kE_S8 x0).trans ((g_S4 x0 (lt18 r_x0 (by decide))).1.trans r_x0))
    exact hself48 x0 S8 T_S8 R_S8 ((congrFun kE_S8 x0).trans ((g_S4 x0 (lt18 r_x0 (by decide))).1.trans r_x0)) (fun b9 h9 => by have e8 : zP S8 = zP S4 := by { rw [e87]; rfl }; have h8 : zP S4 7 x0 = some b9 := by { rw [← e8]; exact h9 }; rw [(g_S4 x0 (lt18 r_x0 (by decide))).2.2.2.1 7 (by rw [r_x0]; decide), p_b1] at h8; cases h8; have h7 : zI S8 1 b1 = zI S4 1 b1 := by { rw [e87]; rfl }; rw [h7]; omega) (by omega)
theorem t_d_X2_readValue_48s {SZ S : ZS} {self48 : Nat → ZS → Option (Int32 × ZS)} {N48 : Nat} (hself48 : ∀ (x0 : Nat) (S : ZS), ZT S → RP SZ S → (zK S x0 = 2) → (∀ b, zP S 7 x0 = some b → (zI S 1 b).toInt ≤ (zI S 4 x0).toInt) → (90102 - (zI S 4 x0).toInt) < (N48 : Int) → Ok (self48 x0 S) (fun o => ZT o.2 ∧ RP SZ o.2 ∧ ((0 : Int) ≤ o.1.toInt ∧ o.1.toInt ≤ (1 : Int)))) {x0 : Nat} (hT : ZT S) (hR : RP SZ S) (r_x0 : zK S x0 = 2) (q0 : ∀ b, zP S 7 x0 = some b → (zI S 1 b).toInt ≤ (zI S 4 x0).toInt) (m48 : (90102 - (zI S 4 x0).toInt) ≤ (N48 : Int)) : Ok (d_X2_readValue_48s self48 x0 S) (fun o => ZT o.2 ∧ RP SZ o.2 ∧ ((0 : Int) ≤ o.1.toInt ∧ o.1.toInt ≤ (1 : Int))) := by
  unfold d_X2_readValue_48s
  have j89 := J_2_4 hT r_x0
  refine ok_chk r_x0 ?_
  refine ok_chk r_x0 ?_
  obtain ⟨b1, p_b1, k_b1, c_b1⟩ := T_2_2 hT r_x0
  have rl_b1 := rL_ge b1
  refine ok_calR p_b1 ?_
  refine ok_chk k_b1 ?_
  have j90 := J61_2 hT k_b1 c_b1
  obtain ⟨r2, h_r2, p_r2⟩ := roz (t_f_X6_size (x0 := b1) hT k_b1)
  dsimp only at p_r2
  refine ok_calR h_r2 ?_
  have s_r2 : r2.toInt = (zI S 1 b1).toInt := congrArg Int32.toInt p_r2.2
  refine ok_chk ⟨rfl, rfl⟩ ?_
  refine ok_if (fun c91 => ?_) (fun c91 => ?_)
  ·
    replace c91 := ti_leP (a := r2) (b := (zI S 4 x0)) c91 rfl rfl
    refine ok_chk r_x0 ?_
    refine ok_chk r_x0 ?_
    obtain ⟨⟨r3, S3⟩, h_r3, T_S3, A_S3, p_r3⟩ := t_f_X2_refuse (x0 := x0) (x1 := (1 : Int32)) (x2 := (zI S 4 x0)) (SZ := S) hT (a7_0 S) r_x0
    replace T_S3 : ZT S3 := T_S3
    replace A_S3 : A7 S S3 := A_S3
    dsimp only at p_r3
    refine ok_calR h_r3 ?_
    have q_S3 := fq_X2_refuse h_r3
    have kE_S3 : zK S3 = zK S := q_S3.2.2.1
    have nE_S3 : zN S3 = zN S := q_S3.2.2.2.1
    have R_S3 : RP SZ S3 := rp_f hR hT q_S3 (fz_X2_refuse h_r3) (by decide) A_S3
    have : (zI S3 4 x0).toInt = (zI S 4 x0).toInt := congrArg Int32.toInt ((((fz_X2_refuse h_r3) hT.2.2.2.2.1).2.2 x0 (by rw [r_x0]; decide)).2.2.1 4 (by rw [r_x0]; decide))
    refine ok_chk ⟨q_S3.1, q_S3.2.1⟩ ?_
    refine ok_chk (nar_b (v := r3) (by omega) (by omega)) ?_
    exact ok_ret ⟨T_S3, R_S3, (show (0 : Int) ≤ r3.toInt ∧ r3.toInt ≤ (1 : Int) from (by omega))⟩
  ·
    replace c91 := ti_leN (a := r2) (b := (zI S 4 x0)) c91 rfl rfl
    refine ok_chk r_x0 ?_
    refine ok_calR p_b1 ?_
    refine ok_chk r_x0 ?_
    refine ok_chk k_b1 ?_
    obtain ⟨r5, h_r5, p_r5⟩ := roz (t_f_X6_at (x0 := b1) (x1 := (zI S 4 x0)) hT k_b1)
    dsimp only at p_r5
    refine ok_calR h_r5 ?_
    refine ok_chk ⟨rfl, rfl⟩ ?_
    refine ok_if (fun c92 => ?_) (fun c92 => ?_)
    ·
      replace c92 := ti_eqP (a := r5) (b := (34 : Int32)) c92 rfl (show (34 : Int32).toInt = 34 from rfl)
      refine ok_chk r_x0 ?_
      refine ok_bnd (fun v11 e93 => ?_)
      have t_v11 : v11.toInt = (zI S 4 x0).toInt + 1 := ti_add e93 rfl (show (1 : Int32).toInt = 1 from rfl) (by omega) (by omega)
      refine ok_chk r_x0 ?_
      refine ok_bnd (fun S12 e94 => ?_)
      have T_S12 : ZT S12 := e94.symm ▸ zt_I hT r_x0 (by decide) (show (0 : Int) ≤ v11.toInt ∧ v11.toInt ≤ (90100 : Int) from (by omega))
      have kE_S12 : zK S12 = zK S := by rw [e94]; rfl
      have nE_S12 : zN S12 = zN S := by rw [e94]; rfl
      have R_S12 : RP SZ S12 := rp_I hR hT r_x0 e94 (by decide)
      have : (zI S12 4 x0).toInt = v11.toInt := by rw [e94]; exact (congrArg Int32.toInt (zI_self _ _ _ _)).trans rfl
      refine ok_chk (by decide) ?_
      exact ok_ret ⟨T_S12, R_S12, (show (0 : Int) ≤ (1 : Int32).toInt ∧ (1 : Int32).toInt ≤ (1 : Int) from (by decide))⟩
    ·
      replace c92 := ti_eqN (a := r5) (b := (34 : Int32)) c92 rfl (show (34 : Int32).toInt = 34 from rfl)
      refine ok_if (fun c95 => ?_) (fun c95 => ?_)
      ·
        replace c95 := ti_eqP (a := r5) (b := (92 : Int32)) c95 rfl (show (92 : Int32).toInt = 92 from rfl)
        refine ok_chk r_x0 ?_
        refine ok_bnd (fun v6 e96 => ?_)
        have t_v6 : v6.toInt = (zI S 4 x0).toInt + 1 := ti_add e96 rfl (show (1 : Int32).toInt = 1 from rfl) (by omega) (by omega)
        refine ok_chk r_x0 ?_
        refine ok_bnd (fun S7 e97 => ?_)
        have T_S7 : ZT S7 := e97.symm ▸ zt_I hT r_x0 (by decide) (show (0 : Int) ≤ v6.toInt ∧ v6.toInt ≤ (90100 : Int) from (by omega))
        have kE_S7 : zK S7 = zK S := by rw [e97]; rfl
        have nE_S7 : zN S7 = zN S := by rw [e97]; rfl
        have R_S7 : RP SZ S7 := rp_I hR hT r_x0 e97 (by decide)
        have : (zI S7 4 x0).toInt = v6.toInt := by rw [e97]; exact (congrArg Int32.toInt (zI_self _ _ _ _)).trans rfl
        refine ok_chk ((congrFun kE_S7 x0).trans r_x0) ?_
        obtain ⟨b8, p_b8, k_b8, c_b8⟩ := T_2_2 T_S7 ((congrFun kE_S7 x0).trans r_x0)
        have rl_b8 := rL_ge b8
        refine ok_calR p_b8 ?_
        refine ok_chk ((congrFun kE_S7 x0).trans r_x0) ?_
        refine ok_chk k_b8 ?_
        have j98 := J61_2 T_S7 k_b8 c_b8
        obtain ⟨r9, h_r9, p_r9⟩ := roz (t_f_X6_at (x0 := b8) (x1 := (zI S7 4 x0)) T_S7 k_b8)
        dsimp only at p_r9
        refine ok_calR h_r9 ?_
        refine ok_chk ⟨rfl, rfl⟩ ?_
        refine ok_if (fun c99 => ?_) (fun c99 => ?_)
        ·
          replace c99 := ti_eqP (a := r9) (b := (34 : Int32)) c99 rfl (show (34 : Int32).toInt = 34 from rfl)
          have j100 := J_2_4 T_S7 ((congrFun kE_S7 x0).trans r_x0)
          exact t_d_X2_readValue_142 (S := S7) hself48 (x0 := x0) (x1 := r9) T_S7 R_S7 ((congrFun kE_S7 x0).trans r_x0) (by omega) (fun b9 h9 => by have e8 : zP S7 = zP S := by { rw [e97]; rfl }; have h8 : zP S 7 x0 = some b9 := by { rw [← e8]; exact h9 }; have h6 : zI S7 1 b9 = zI S 1 b9 := by { rw [e97]; rfl }; have := q0 b9 h8; rw [h6]; omega) (by omega) (by omega)
        ·
          replace c99 := ti_eqN (a := r9) (b := (34 : Int32)) c99 rfl (show (34 : Int32).toInt = 34 from rfl)
          refine ok_if (fun c101 => ?_) (fun c101 => ?_)
          ·
            replace c101 := ti_eqP (a := r9) (b := (92 : Int32)) c101 rfl (show (92 : Int32).toInt = 92 from rfl)
            have j102 := J_2_4 T_S7 ((congrFun kE_S7 x0).trans r_x0)
            exact t_d_X2_readValue_142 (S := S7) hself48 (x0 := x0) (x1 := r9) T_S7 R_S7 ((congrFun kE_S7 x0).trans r_x0) (by omega) (fun b9 h9 => by have e8 : zP S7 = zP S := by { rw [e97]; rfl }; have h8 : zP S 7 x0 = some b9 := by { rw [← e8]; exact h9 }; have h6 : zI S7 1 b9 = zI S 1 b9 := by { rw [e97]; rfl }; have := q0 b9 h8; rw [h6]; omega) (by omega) (by omega)
          ·
            replace c101 := ti_eqN (a := r9) (b := (92 : Int32)) c101 rfl (show (92 : Int32).toInt = 92 from rfl)
            refine ok_chk ((congrFun kE_S7 x0).trans r_x0) ?_
            refine ok_chk ((congrFun kE_S7 x0).trans r_x0) ?_
            obtain ⟨⟨r10, S10⟩, h_r10, T_S10, A_S10, p_r10⟩ := t_f_X2_refuse (x0 := x0) (x1 := (1 : Int32)) (x2 := (zI S7 4 x0)) (SZ := S7) T_S7 (a7_0 S7) ((congrFun kE_S7 x0).trans r_x0)
            replace T_S10 : ZT S10 := T_S10
            replace A_S10 : A7 S7 S10 := A_S10
            dsimp only at p_r10
            refine ok_calR h_r10 ?_
            have q_S10 := fq_X2_refuse h_r10
            have kE_S10 : zK S10 = zK S7 := q_S10.2.2.1
            have nE_S10 : zN S10 = zN S7 := q_S10.2.2.2.1
            have R_S10 : RP SZ S10 := rp_f R_S7 T_S7 q_S10 (fz_X2_refuse h_r10) (by decide) A_S10
            have : (zI S10 4 x0).toInt = (zI S7 4 x0).toInt := congrArg Int32.toInt ((((fz_X2_refuse h_r10) T_S7.2.2.2.2.1).2.2 x0 (by rw [((congrFun kE_S7 x0).trans r_x0)]; decide)).2.2.1 4 (by rw [((congrFun kE_S7 x0).trans r_x0)]; decide))
            refine ok_chk ⟨q_S10.1, q_S10.2.1⟩ ?_
            refine ok_chk (nar_b (v := r10) (by omega) (by omega)) ?_
            exact ok_ret ⟨T_S10, R_S10, (show (0 : Int) ≤ r10.toInt ∧ r10.toInt ≤ (1 : Int) from (by omega))⟩
      ·
        replace c95 := ti_eqN (a := r5) (b := (92 : Int32)) c95 rfl (show (92 : Int32).toInt = 92 from rfl)
        exact t_d_X2_readValue_142 (S := S) hself48 (x0 := x0) (x1 := r5) hT hR r_x0 (by omega) q0 (by omega) m48
theorem t_d_X2_readValue_48 {SZ : ZS} : ∀ (n : Nat) (x0 : Nat) (S : ZS), ZT S → RP SZ S → (zK S x0 = 2) → (∀ b, zP S 7 x0 = some b → (zI S 1 b).toInt ≤ (zI S 4 x0).toInt) → (90102 - (zI S 4 x0).toInt) < (n : Int) → Ok (d_X2_readValue_48  n x0 S) (fun o => ZT o.2 ∧ RP SZ o.2 ∧ ((0 : Int) ≤ o.1.toInt ∧ o.1.toInt ≤ (1 : Int))) := by
  intro n
  induction n with
  | zero => intro x0 S hT hR g0 g1  hm; exfalso; have j9 := J_2_4 hT g0; omega
  | succ n ih =>
    intro x0 S hT hR g0 g1  hm
    exact t_d_X2_readValue_48s (N48 := n)  ih hT hR g0 g1  (by omega)
theorem t_d_X2_readValue_0 {SZ S : ZS} {x0 : Nat} (hT : ZT S) (hR : RP SZ S) (r_x0 : zK S x0 = 2) : Ok (d_X2_readValue_0 x0 S) (fun o => ZT o.2 ∧ RP SZ o.2 ∧ ((0 : Int) ≤ o.1.toInt ∧ o.1.toInt ≤ (1 : Int))) := by
  unfold d_X2_readValue_0
  have j103 := J_2_4 hT r_x0
  refine ok_chk r_x0 ?_
  obtain ⟨⟨r1, S1⟩, h_r1, T_S1, A_S1, -⟩ := t_f_X2_skipBlanks (x0 := x0) (SZ := S) hT (a7_0 S) r_x0
  replace T_S1 : ZT S1 := T_S1
  replace A_S1 : A7 S S1 := A_S1
  refine ok_calR h_r1 ?_
  have q_S1 := fq_X2_skipBlanks h_r1
  have kE_S1 : zK S1 = zK S := q_S1.2.2.1
  have nE_S1 : zN S1 = zN S := q_S1.2.2.2.1
  have R_S1 : RP SZ S1 := rp_f hR hT q_S1 (fz_X2_skipBlanks h_r1) (by decide) A_S1
  refine ok_chk ⟨q_S1.1, q_S1.2.1⟩ ?_
  refine ok_chk ((congrFun kE_S1 x0).trans r_x0) ?_
  obtain ⟨b2, p_b2, k_b2, c_b2⟩ := T_2_2 T_S1 ((congrFun kE_S1 x0).trans r_x0)
  have rl_b2 := rL_ge b2
  refine ok_calR p_b2 ?_
  refine ok_chk ((congrFun kE_S1 x0).trans r_x0) ?_
  refine ok_chk k_b2 ?_
  have j104 := J61_2 T_S1 k_b2 c_b2
  obtain ⟨r3, h_r3, p_r3⟩ := roz (t_f_X6_at (x0 := b2) (x1 := (zI S1 4 x0)) T_S1 k_b2)
  dsimp only at p_r3
  refine ok_calR h_r3 ?_
  refine ok_chk ⟨rfl, rfl⟩ ?_
  refine ok_if (fun c105 => ?_) (fun c105 => ?_)
  ·
    replace c105 := ti_eqP (a := r3) (b := (34 : Int32)) c105 rfl (show (34 : Int32).toInt = 34 from rfl)
    refine ok_chk ((congrFun kE_S1 x0).trans r_x0) ?_
    obtain ⟨b4, p_b4, k_b4, c_b4⟩ := T_2_7 T_S1 ((congrFun kE_S1 x0).trans r_x0)
    have lo_b4 := M_2_7 T_S1 ((congrFun kE_S1 x0).trans r_x0) p_b4
    have rl_b4 := rL_x1 lo_b4 c_b4
    refine ok_calR p_b4 ?_
    refine ok_chk k_b4 ?_
    have j106 := J61_1 T_S1 k_b4 c_b4
    obtain ⟨⟨r5, S5⟩, h_r5, T_S5, A_S5, -⟩ := t_f_X6_keep (x0 := b4) (x1 := (0 : Int32)) (SZ := S1) T_S1 (a7_0 S1) k_b4 (by have z0 : (0 : Int32).toInt = 0 := rfl; omega)
    replace T_S5 : ZT S5 := T_S5
    replace A_S5 : A7 S1 S5 := A_S5
    refine ok_calR h_r5 ?_
    have q_S5 := fq_X6_keep h_r5
    have kE_S5 : zK S5 = zK S1 := q_S5.2.2.1
    have nE_S5 : zN S5 = zN S1 := q_S5.2.2.2.1
    have R_S5 : RP SZ S5 := rp_f R_S1 T_S1 q_S5 (fz_X6_keep h_r5) (by decide) A_S5
    have : (zI S5 4 x0).toInt = (zI S1 4 x0).toInt := congrArg Int32.toInt ((((fz_X6_keep h_r5) T_S1.2.2.2.2.1).2.2 x0 (by rw [((congrFun kE_S1 x0).trans r_x0)]; decide)).2.2.1 4 (by rw [((congrFun kE_S1 x0).trans r_x0)]; decide))
    refine ok_chk ⟨q_S5.1, q_S5.2.1⟩ ?_
    refine ok_chk ((congrFun kE_S5 x0).trans ((congrFun kE_S1 x0).trans r_x0)) ?_
    refine ok_bnd (fun v6 e107 => ?_)
    have j108 := J_2_4 T_S5 ((congrFun kE_S5 x0).trans ((congrFun kE_S1 x0).trans r_x0))
    have t_v6 : v6.toInt = (zI S5 4 x0).toInt + 1 := ti_add e107 rfl (show (1 : Int32).toInt = 1 from rfl) (by omega) (by omega)
    refine ok_chk ((congrFun kE_S5 x0).trans ((congrFun kE_S1 x0).trans r_x0)) ?_
    refine ok_bnd (fun S7 e109 => ?_)
    have T_S7 : ZT S7 := e109.symm ▸ zt_I T_S5 ((congrFun kE_S5 x0).trans ((congrFun kE_S1 x0).trans r_x0)) (by decide) (show (0 : Int) ≤ v6.toInt ∧ v6.toInt ≤ (90100 : Int) from (by omega))
    have kE_S7 : zK S7 = zK S5 := by rw [e109]; rfl
    have nE_S7 : zN S7 = zN S5 := by rw [e109]; rfl
    have R_S7 : RP SZ S7 := rp_I R_S5 T_S5 ((congrFun kE_S5 x0).trans ((congrFun kE_S1 x0).trans r_x0)) e109 (by decide)
    have : (zI S7 4 x0).toInt = v6.toInt := by rw [e109]; exact (congrArg Int32.toInt (zI_self _ _ _ _)).trans rfl
    have j110 := J_2_4 T_S7 ((congrFun kE_S7 x0).trans ((congrFun kE_S5 x0).trans ((congrFun kE_S1 x0).trans r_x0)))
    exact t_d_X2_readValue_48   mFuel x0 S7 T_S7 R_S7 ((congrFun kE_S7 x0).trans ((congrFun kE_S5 x0).trans ((congrFun kE_S1 x0).trans r_x0))) (fun b9 h9 => by have e8 : zP S7 = zP S5 := by { rw [e109]; rfl }; have h8 : zP S5 7 x0 = some b9 := by { rw [← e8]; exact h9 }; rw [(((fz_X6_keep h_r5) T_S1.2.2.2.2.1).2.2 x0 (lt18 ((congrFun kE_S1 x0).trans r_x0) (by decide))).2.2.2.1 7 (by rw [((congrFun kE_S1 x0).trans r_x0)]; decide), p_b4] at h8; cases h8; have h7 := keep_len k_b4 h_r5 (by decide); have j9 := J_2_4 T_S5 ((congrFun kE_S5 x0).trans ((congrFun kE_S1 x0).trans r_x0)); have z9 : (0 : Int32).toInt = 0 := rfl; have h6 : zI S7 1 b4 = zI S5 1 b4 := by { rw [e109]; rfl }; rw [h6]; omega) (by show _ < ((200000 : Nat) : Int); omega)
  ·
    replace c105 := ti_eqN (a := r3) (b := (34 : Int32)) c105 rfl (show (34 : Int32).toInt = 34 from rfl)
    refine ok_chk ((congrFun kE_S1 x0).trans r_x0) ?_
    refine ok_chk ((congrFun kE_S1 x0).trans r_x0) ?_
    obtain ⟨⟨r8, S8⟩, h_r8, T_S8, A_S8, p_r8⟩ := t_f_X2_refuse (x0 := x0) (x1 := (1 : Int32)) (x2 := (zI S1 4 x0)) (SZ := S1) T_S1 (a7_0 S1) ((congrFun kE_S1 x0).trans r_x0)
    replace T_S8 : ZT S8 := T_S8
    replace A_S8 : A7 S1 S8 := A_S8
    dsimp only at p_r8
    refine ok_calR h_r8 ?_
    have q_S8 := fq_X2_refuse h_r8
    have kE_S8 : zK S8 = zK S1 := q_S8.2.2.1
    have nE_S8 : zN S8 = zN S1 := q_S8.2.2.2.1
    have R_S8 : RP SZ S8 := rp_f R_S1 T_S1 q_S8 (fz_X2_refuse h_r8) (by decide) A_S8
    have : (zI S8 4 x0).toInt = (zI S1 4 x0).toInt := congrArg Int32.toInt ((((fz_X2_refuse h_r8) T_S1.2.2.2.2.1).2.2 x0 (by rw [((congrFun kE_S1 x0).trans r_x0)]; decide)).2.2.1 4 (by rw [((congrFun kE_S1 x0).trans r_x0)]; decide))
    refine ok_chk ⟨q_S8.1, q_S8.2.1⟩ ?_
    refine ok_chk (nar_b (v := r8) (by omega) (by omega)) ?_
    exact ok_ret ⟨T_S8, R_S8, (show (0 : Int) ≤ r8.toInt ∧ r8.toInt ≤ (1 : Int) from (by omega))⟩
theorem t_d_X2_readValue {SZ S : ZS} {x0 : Nat} (hT : ZT S) (hR : RP SZ S) (r_x0 : zK S x0 = 2) : Ok (d_X2_readValue x0 S) (fun o => ZT o.2 ∧ RP SZ o.2 ∧ ((0 : Int) ≤ o.1.toInt ∧ o.1.toInt ≤ (1 : Int))) := t_d_X2_readValue_0 hT hR r_x0
theorem t_d_X8_copyWhole_87 {SZ S : ZS} {x0 : Nat} {t0 : Int32} {t1 : Nat} (hT : ZT S) (hR : RP SZ S) (r_x0 : zK S x0 = 8) (r_t0 : (0 : Int) ≤ t0.toInt ∧ t0.toInt ≤ (65535 : Int)) (r_t1 : zK S t1 = 8) : Ok (d_X8_copyWhole_87 x0 t0 t1 S) (fun o => ZT o.2 ∧ RP SZ o.2 ∧ True) := by
  unfold d_X8_copyWhole_87
  refine ok_chk r_t1 ?_
  refine ok_chk ⟨nar_c (v := t0) (by omega) (by omega), fits_ch (v := t0) (by omega)⟩ ?_
  refine ok_bnd (fun S1 e111 => ?_)
  have T_S1 : ZT S1 := e111.symm ▸ zt_I hT r_t1 (by decide) (show (0 : Int) ≤ t0.toInt ∧ t0.toInt ≤ (65535 : Int) from (by omega))
  have kE_S1 : zK S1 = zK S := by rw [e111]; rfl
  have nE_S1 : zN S1 = zN S := by rw [e111]; rfl
  have R_S1 : RP SZ S1 := rp_I hR hT r_t1 e111 (by decide)
  refine ok_chk ((congrFun kE_S1 x0).trans r_x0) ?_
  have j112 := J_8_9 T_S1 ((congrFun kE_S1 x0).trans r_x0)
  refine ok_if (fun c113 => ?_) (fun c113 => ?_)
  ·
    replace c113 := ti_eqP (a := (zI S1 9 x0)) (b := (0 : Int32)) c113 rfl (show (0 : Int32).toInt = 0 from rfl)
    unfold d_X8_copyWhole_113
    exact ok_ret ⟨T_S1, R_S1, trivial⟩
  ·
    replace c113 := ti_eqN (a := (zI S1 9 x0)) (b := (0 : Int32)) c113 rfl (show (0 : Int32).toInt = 0 from rfl)
    refine ok_chk ((congrFun kE_S1 x0).trans r_x0) ?_
    obtain ⟨b2, p_b2, k_b2, c_b2⟩ := T_8_1 T_S1 ((congrFun kE_S1 x0).trans r_x0)
    have lo_b2 := M_8_1 T_S1 ((congrFun kE_S1 x0).trans r_x0) p_b2
    have rl_b2 := rL_x1 lo_b2 c_b2
    refine ok_calR p_b2 ?_
    refine ok_chk ((congrFun kE_S1 x0).trans r_x0) ?_
    refine ok_calR p_b2 ?_
    refine ok_chk k_b2 ?_
    have j114 := J61_1 T_S1 k_b2 c_b2
    obtain ⟨r4, h_r4, p_r4⟩ := roz (t_f_X6_size (x0 := b2) T_S1 k_b2)
    dsimp only at p_r4
    refine ok_calR h_r4 ?_
    have s_r4 : r4.toInt = (zI S1 1 b2).toInt := congrArg Int32.toInt p_r4.2
    refine ok_chk ⟨rfl, rfl⟩ ?_
    refine ok_bnd (fun v5 e115 => ?_)
    have t_v5 : v5.toInt = r4.toInt - 1 := ti_sub e115 rfl (show (1 : Int32).toInt = 1 from rfl) (by omega) (by omega)
    refine ok_chk k_b2 ?_
    obtain ⟨⟨r6, S6⟩, h_r6, T_S6, A_S6, -⟩ := t_f_X6_keep (x0 := b2) (x1 := v5) (SZ := S1) T_S1 (a7_0 S1) k_b2 (by omega)
    replace T_S6 : ZT S6 := T_S6
    replace A_S6 : A7 S1 S6 := A_S6
    refine ok_calR h_r6 ?_
    have q_S6 := fq_X6_keep h_r6
    have kE_S6 : zK S6 = zK S1 := q_S6.2.2.1
    have nE_S6 : zN S6 = zN S1 := q_S6.2.2.2.1
    have R_S6 : RP SZ S6 := rp_f R_S1 T_S1 q_S6 (fz_X6_keep h_r6) (by decide) A_S6
    refine ok_chk ⟨q_S6.1, q_S6.2.1⟩ ?_
    unfold d_X8_copyWhole_113
    exact ok_ret ⟨T_S6, R_S6, trivial⟩
theorem t_d_X8_copyWhole_48 {SZ S : ZS} {x0 : Nat} (hT : ZT S) (hR : RP SZ S) (r_x0 : zK S x0 = 8) : Ok (d_X8_copyWhole_48 x0 S) (fun o => ZT o.2 ∧ RP SZ o.2 ∧ True) := by
  unfold d_X8_copyWhole_48
  refine ok_chk r_x0 ?_
  obtain ⟨b1, p_b1, k_b1, c_b1⟩ := T_8_1 hT r_x0
  have lo_b1 := M_8_1 hT r_x0 p_b1
  have rl_b1 := rL_x1 lo_b1 c_b1
  refine ok_calR p_b1 ?_
  refine ok_chk r_x0 ?_
  refine ok_calR p_b1 ?_
  refine ok_chk k_b1 ?_
  have j116 := J61_1 hT k_b1 c_b1
  obtain ⟨r3, h_r3, p_r3⟩ := roz (t_f_X6_size (x0 := b1) hT k_b1)
  dsimp only at p_r3
  refine ok_calR h_r3 ?_
  have s_r3 : r3.toInt = (zI S 1 b1).toInt := congrArg Int32.toInt p_r3.2
  refine ok_chk ⟨rfl, rfl⟩ ?_
  refine ok_bnd (fun v4 e117 => ?_)
  have t_v4 : v4.toInt = r3.toInt - 1 := ti_sub e117 rfl (show (1 : Int32).toInt = 1 from rfl) (by omega) (by omega)
  refine ok_chk k_b1 ?_
  obtain ⟨r5, h_r5, p_r5⟩ := roz (t_f_X6_at (x0 := b1) (x1 := v4) hT k_b1)
  dsimp only at p_r5
  refine ok_calR h_r5 ?_
  refine ok_chk ⟨rfl, rfl⟩ ?_
  refine ok_if (fun c118 => ?_) (fun c118 => ?_)
  ·
    replace c118 := ti_eqP (a := r5) (b := (43 : Int32)) c118 rfl (show (43 : Int32).toInt = 43 from rfl)
    unfold d_X8_copyWhole_81
    exact t_d_X8_copyWhole_87 (S := S)  (x0 := x0) (t0 := r5) (t1 := x0) hT hR r_x0 (by omega) r_x0
  ·
    replace c118 := ti_eqN (a := r5) (b := (43 : Int32)) c118 rfl (show (43 : Int32).toInt = 43 from rfl)
    refine ok_if (fun c119 => ?_) (fun c119 => ?_)
    ·
      replace c119 := ti_eqP (a := r5) (b := (35 : Int32)) c119 rfl (show (35 : Int32).toInt = 35 from rfl)
      unfold d_X8_copyWhole_81
      exact t_d_X8_copyWhole_87 (S := S)  (x0 := x0) (t0 := r5) (t1 := x0) hT hR r_x0 (by omega) r_x0
    ·
      replace c119 := ti_eqN (a := r5) (b := (35 : Int32)) c119 rfl (show (35 : Int32).toInt = 35 from rfl)
      exact t_d_X8_copyWhole_87 (S := S)  (x0 := x0) (t0 := (0 : Int32)) (t1 := x0) hT hR r_x0 (by decide) r_x0
theorem t_d_X8_copyWhole_11s {SZ S : ZS} {self11 : Nat → Nat → Int32 → Int32 → ZS → Option (Int32 × ZS)} {N11 : Nat} (hself11 : ∀ (x0 : Nat) (x1 : Nat) (x3 : Int32) (x4 : Int32) (S : ZS), ZT S → RP SZ S → (zK S x0 = 8) → (zK S x1 = 6) → (rc x1 ≤ 2) → ((0 : Int) ≤ x3.toInt ∧ x3.toInt ≤ (90100 : Int)) → ((0 : Int) ≤ x4.toInt ∧ x4.toInt ≤ (90100 : Int)) → (90101 - x4.toInt) < (N11 : Int) → Ok (self11 x0 x1 x3 x4 S) (fun o => ZT o.2 ∧ RP SZ o.2 ∧ True)) {x0 : Nat} {x1 : Nat} {x3 : Int32} {x4 : Int32} (hT : ZT S) (hR : RP SZ S) (r_x0 : zK S x0 = 8) (r_x1 : zK S x1 = 6) (c_x1 : rc x1 ≤ 2) (r_x3 : (0 : Int) ≤ x3.toInt ∧ x3.toInt ≤ (90100 : Int)) (r_x4 : (0 : Int) ≤ x4.toInt ∧ x4.toInt ≤ (90100 : Int)) (m11 : (90101 - x4.toInt) ≤ (N11 : Int)) : Ok (d_X8_copyWhole_11s self11 x0 x1 x3 x4 S) (fun o => ZT o.2 ∧ RP SZ o.2 ∧ True) := by
  unfold d_X8_copyWhole_11s
  refine ok_if (fun c120 => ?_) (fun c120 => ?_)
  ·
    replace c120 := ti_leP (a := x3) (b := x4) c120 rfl rfl
    exact t_d_X8_copyWhole_48 (S := S)  (x0 := x0) hT hR r_x0
  ·
    replace c120 := ti_leN (a := x3) (b := x4) c120 rfl rfl
    refine ok_chk r_x0 ?_
    obtain ⟨b1, p_b1, k_b1, c_b1⟩ := T_8_1 hT r_x0
    have lo_b1 := M_8_1 hT r_x0 p_b1
    have rl_b1 := rL_x1 lo_b1 c_b1
    refine ok_calR p_b1 ?_
    refine ok_chk k_b1 ?_
    have j121 := J61_1 hT k_b1 c_b1
    obtain ⟨r2, h_r2, p_r2⟩ := roz (t_f_X6_size (x0 := b1) hT k_b1)
    dsimp only at p_r2
    refine ok_calR h_r2 ?_
    have s_r2 : r2.toInt = (zI S 1 b1).toInt := congrArg Int32.toInt p_r2.2
    refine ok_chk ⟨rfl, rfl⟩ ?_
    refine ok_if (fun c122 => ?_) (fun c122 => ?_)
    ·
      replace c122 := ti_ltP (a := (7 : Int32)) (b := r2) c122 (show (7 : Int32).toInt = 7 from rfl) rfl
      exact t_d_X8_copyWhole_48 (S := S)  (x0 := x0) hT hR r_x0
    ·
      replace c122 := ti_ltN (a := (7 : Int32)) (b := r2) c122 (show (7 : Int32).toInt = 7 from rfl) rfl
      refine ok_chk r_x0 ?_
      refine ok_calR p_b1 ?_
      refine ok_chk r_x1 ?_
      have j123 := J61_2 hT r_x1 c_x1
      obtain ⟨r4, h_r4, p_r4⟩ := roz (t_f_X6_at (x0 := x1) (x1 := x4) hT r_x1)
      dsimp only at p_r4
      refine ok_calR h_r4 ?_
      refine ok_chk ⟨rfl, rfl⟩ ?_
      refine ok_chk k_b1 ?_
      obtain ⟨⟨r6, S7⟩, h_r6, T_S7, B_S7, p_r6_0, p_r6_1⟩ := t_d_X6_put (x0 := b1) (x1 := r4) (SZ := S) hT (rp_0 S) k_b1 (by omega) (by omega) (by omega)
      replace T_S7 : ZT S7 := T_S7
      replace B_S7 : RP S S7 := B_S7
      have R_S7 : RP SZ S7 := rp_t hR B_S7
      dsimp only at p_r6_0 p_r6_1
      refine ok_cal2R h_r6 ?_
      have g_S7 := (fz_X6_put h_r6 hT.2.2.2.2.1).2.2
      refine ok_bnd (fun v10 e124 => ?_)
      have t_v10 : v10.toInt = x4.toInt + 1 := ti_add e124 rfl (show (1 : Int32).toInt = 1 from rfl) (by omega) (by omega)
      exact hself11 x0 x1 x3 v10 S7 T_S7 R_S7 ((g_S7 x0 (lt18 r_x0 (by decide))).1.trans r_x0) ((g_S7 x1 (lt18 r_x1 (by decide))).1.trans r_x1) c_x1 r_x3 (by omega) (by omega)
theorem t_d_X8_copyWhole_11 {SZ : ZS} : ∀ (n : Nat) (x0 : Nat) (x1 : Nat) (x3 : Int32) (x4 : Int32) (S : ZS), ZT S → RP SZ S → (zK S x0 = 8) → (zK S x1 = 6) → (rc x1 ≤ 2) → ((0 : Int) ≤ x3.toInt ∧ x3.toInt ≤ (90100 : Int)) → ((0 : Int) ≤ x4.toInt ∧ x4.toInt ≤ (90100 : Int)) → (90101 - x4.toInt) < (n : Int) → Ok (d_X8_copyWhole_11  n x0 x1 x3 x4 S) (fun o => ZT o.2 ∧ RP SZ o.2 ∧ True) := by
  intro n
  induction n with
  | zero => intro x0 x1 x3 x4 S hT hR g0 g1 g2 g3 g4  hm; exfalso; omega
  | succ n ih =>
    intro x0 x1 x3 x4 S hT hR g0 g1 g2 g3 g4  hm
    exact t_d_X8_copyWhole_11s (N11 := n)  ih hT hR g0 g1 g2 g3 g4  (by omega)
theorem t_d_X8_copyWhole_0 {SZ S : ZS} {x0 : Nat} {x1 : Nat} {x2 : Int32} {x3 : Int32} (hT : ZT S) (hR : RP SZ S) (r_x0 : zK S x0 = 8) (r_x1 : zK S x1 = 6) (c_x1 : rc x1 ≤ 2) (r_x2 : (0 : Int) ≤ x2.toInt ∧ x2.toInt ≤ (90100 : Int)) (r_x3 : (0 : Int) ≤ x3.toInt ∧ x3.toInt ≤ (90100 : Int)) : Ok (d_X8_copyWhole_0 x0 x1 x2 x3 S) (fun o => ZT o.2 ∧ RP SZ o.2 ∧ True) := by
  unfold d_X8_copyWhole_0
  refine ok_chk r_x0 ?_
  obtain ⟨b1, p_b1, k_b1, c_b1⟩ := T_8_1 hT r_x0
  have lo_b1 := M_8_1 hT r_x0 p_b1
  have rl_b1 := rL_x1 lo_b1 c_b1
  refine ok_calR p_b1 ?_
  refine ok_chk k_b1 ?_
  have j125 := J61_1 hT k_b1 c_b1
  obtain ⟨⟨r2, S2⟩, h_r2, T_S2, A_S2, -⟩ := t_f_X6_keep (x0 := b1) (x1 := (0 : Int32)) (SZ := S) hT (a7_0 S) k_b1 (by have z0 : (0 : Int32).toInt = 0 := rfl; omega)
  replace T_S2 : ZT S2 := T_S2
  replace A_S2 : A7 S S2 := A_S2
  refine ok_calR h_r2 ?_
  have q_S2 := fq_X6_keep h_r2
  have kE_S2 : zK S2 = zK S := q_S2.2.2.1
  have nE_S2 : zN S2 = zN S := q_S2.2.2.2.1
  have R_S2 : RP SZ S2 := rp_f hR hT q_S2 (fz_X6_keep h_r2) (by decide) A_S2
  refine ok_chk ⟨q_S2.1, q_S2.2.1⟩ ?_
  exact t_d_X8_copyWhole_11   mFuel x0 x1 x3 x2 S2 T_S2 R_S2 ((congrFun kE_S2 x0).trans r_x0) ((congrFun kE_S2 x1).trans r_x1) c_x1 r_x3 r_x2 (by show _ < ((200000 : Nat) : Int); omega)
theorem t_d_X8_copyWhole {SZ S : ZS} {x0 : Nat} {x1 : Nat} {x2 : Int32} {x3 : Int32} (hT : ZT S) (hR : RP SZ S) (r_x0 : zK S x0 = 8) (r_x1 : zK S x1 = 6) (c_x1 : rc x1 ≤ 2) (r_x2 : (0 : Int) ≤ x2.toInt ∧ x2.toInt ≤ (90100 : Int)) (r_x3 : (0 : Int) ≤ x3.toInt ∧ x3.toInt ≤ (90100 : Int)) : Ok (d_X8_copyWhole x0 x1 x2 x3 S) (fun o => ZT o.2 ∧ RP SZ o.2 ∧ True) := t_d_X8_copyWhole_0 hT hR r_x0 r_x1 c_x1 r_x2 r_x3
theorem t_d_X8_copyBare_11s {SZ S : ZS} {self11 : Nat → Nat → Int32 → Int32 → ZS → Option (Int32 × ZS)} {N11 : Nat} (hself11 : ∀ (x0 : Nat) (x1 : Nat) (x3 : Int32) (x4 : Int32) (S : ZS), ZT S → RP SZ S → (zK S x0 = 8) → (zK S x1 = 6) → (rc x1 ≤ 2) → ((0 : Int) ≤ x3.toInt ∧ x3.toInt ≤ (90100 : Int)) → ((0 : Int) ≤ x4.toInt ∧ x4.toInt ≤ (90100 : Int)) → (90101 - x4.toInt) < (N11 : Int) → Ok (self11 x0 x1 x3 x4 S) (fun o => ZT o.2 ∧ RP SZ o.2 ∧ True)) {x0 : Nat} {x1 : Nat} {x3 : Int32} {x4 : Int32} (hT : ZT S) (hR : RP SZ S) (r_x0 : zK S x0 = 8) (r_x1 : zK S x1 = 6) (c_x1 : rc x1 ≤ 2) (r_x3 : (0 : Int) ≤ x3.toInt ∧ x3.toInt ≤ (90100 : Int)) (r_x4 : (0 : Int) ≤ x4.toInt ∧ x4.toInt ≤ (90100 : Int)) (m11 : (90101 - x4.toInt) ≤ (N11 : Int)) : Ok (d_X8_copyBare_11s self11 x0 x1 x3 x4 S) (fun o => ZT o.2 ∧ RP SZ o.2 ∧ True) := by
  unfold d_X8_copyBare_11s
  refine ok_if (fun c126 => ?_) (fun c126 => ?_)
  ·
    replace c126 := ti_leP (a := x3) (b := x4) c126 rfl rfl
    unfold d_X8_copyBare_73
    exact ok_ret ⟨hT, hR, trivial⟩
  ·
    replace c126 := ti_leN (a := x3) (b := x4) c126 rfl rfl
    refine ok_chk r_x0 ?_
    obtain ⟨b1, p_b1, k_b1, c_b1⟩ := T_8_1 hT r_x0
    have lo_b1 := M_8_1 hT r_x0 p_b1
    have rl_b1 := rL_x1 lo_b1 c_b1
    refine ok_calR p_b1 ?_
    refine ok_chk k_b1 ?_
    have j127 := J61_1 hT k_b1 c_b1
    obtain ⟨r2, h_r2, p_r2⟩ := roz (t_f_X6_size (x0 := b1) hT k_b1)
    dsimp only at p_r2
    refine ok_calR h_r2 ?_
    have s_r2 : r2.toInt = (zI S 1 b1).toInt := congrArg Int32.toInt p_r2.2
    refine ok_chk ⟨rfl, rfl⟩ ?_
    refine ok_if (fun c128 => ?_) (fun c128 => ?_)
    ·
      replace c128 := ti_ltP (a := (7 : Int32)) (b := r2) c128 (show (7 : Int32).toInt = 7 from rfl) rfl
      unfold d_X8_copyBare_73
      exact ok_ret ⟨hT, hR, trivial⟩
    ·
      replace c128 := ti_ltN (a := (7 : Int32)) (b := r2) c128 (show (7 : Int32).toInt = 7 from rfl) rfl
      refine ok_chk r_x1 ?_
      have j129 := J61_2 hT r_x1 c_x1
      obtain ⟨r3, h_r3, p_r3⟩ := roz (t_f_X6_at (x0 := x1) (x1 := x4) hT r_x1)
      dsimp only at p_r3
      refine ok_calR h_r3 ?_
      refine ok_chk ⟨rfl, rfl⟩ ?_
      refine ok_if (fun c130 => ?_) (fun c130 => ?_)
      ·
        replace c130 := ti_eqP (a := r3) (b := (120 : Int32)) c130 rfl (show (120 : Int32).toInt = 120 from rfl)
        unfold d_X8_copyBare_67
        refine ok_bnd (fun v1 e131 => ?_)
        have t_v1 : v1.toInt = x4.toInt + 1 := ti_add e131 rfl (show (1 : Int32).toInt = 1 from rfl) (by omega) (by omega)
        exact hself11 x0 x1 x3 v1 S hT hR r_x0 r_x1 c_x1 r_x3 (by omega) (by omega)
      ·
        replace c130 := ti_eqN (a := r3) (b := (120 : Int32)) c130 rfl (show (120 : Int32).toInt = 120 from rfl)
        refine ok_if (fun c132 => ?_) (fun c132 => ?_)
        ·
          replace c132 := ti_eqP (a := r3) (b := (43 : Int32)) c132 rfl (show (43 : Int32).toInt = 43 from rfl)
          unfold d_X8_copyBare_67
          refine ok_bnd (fun v1 e133 => ?_)
          have t_v1 : v1.toInt = x4.toInt + 1 := ti_add e133 rfl (show (1 : Int32).toInt = 1 from rfl) (by omega) (by omega)
          exact hself11 x0 x1 x3 v1 S hT hR r_x0 r_x1 c_x1 r_x3 (by omega) (by omega)
        ·
          replace c132 := ti_eqN (a := r3) (b := (43 : Int32)) c132 rfl (show (43 : Int32).toInt = 43 from rfl)
          refine ok_if (fun c134 => ?_) (fun c134 => ?_)
          ·
            replace c134 := ti_eqP (a := r3) (b := (35 : Int32)) c134 rfl (show (35 : Int32).toInt = 35 from rfl)
            unfold d_X8_copyBare_67
            refine ok_bnd (fun v1 e135 => ?_)
            have t_v1 : v1.toInt = x4.toInt + 1 := ti_add e135 rfl (show (1 : Int32).toInt = 1 from rfl) (by omega) (by omega)
            exact hself11 x0 x1 x3 v1 S hT hR r_x0 r_x1 c_x1 r_x3 (by omega) (by omega)
          ·
            replace c134 := ti_eqN (a := r3) (b := (35 : Int32)) c134 rfl (show (35 : Int32).toInt = 35 from rfl)
            refine ok_chk r_x0 ?_
            refine ok_calR p_b1 ?_
            refine ok_chk k_b1 ?_
            obtain ⟨⟨r6, S7⟩, h_r6, T_S7, B_S7, p_r6_0, p_r6_1⟩ := t_d_X6_put (x0 := b1) (x1 := r3) (SZ := S) hT (rp_0 S) k_b1 (by omega) (by omega) (by omega)
            replace T_S7 : ZT S7 := T_S7
            replace B_S7 : RP S S7 := B_S7
            have R_S7 : RP SZ S7 := rp_t hR B_S7
            dsimp only at p_r6_0 p_r6_1
            refine ok_cal2R h_r6 ?_
            have g_S7 := (fz_X6_put h_r6 hT.2.2.2.2.1).2.2
            unfold d_X8_copyBare_67
            refine ok_bnd (fun v1 e136 => ?_)
            have t_v1 : v1.toInt = x4.toInt + 1 := ti_add e136 rfl (show (1 : Int32).toInt = 1 from rfl) (by omega) (by omega)
            exact hself11 x0 x1 x3 v1 S7 T_S7 R_S7 ((g_S7 x0 (lt18 r_x0 (by decide))).1.trans r_x0) ((g_S7 x1 (lt18 r_x1 (by decide))).1.trans r_x1) c_x1 r_x3 (by omega) (by omega)
theorem t_d_X8_copyBare_11 {SZ : ZS} : ∀ (n : Nat) (x0 : Nat) (x1 : Nat) (x3 : Int32) (x4 : Int32) (S : ZS), ZT S → RP SZ S → (zK S x0 = 8) → (zK S x1 = 6) → (rc x1 ≤ 2) → ((0 : Int) ≤ x3.toInt ∧ x3.toInt ≤ (90100 : Int)) → ((0 : Int) ≤ x4.toInt ∧ x4.toInt ≤ (90100 : Int)) → (90101 - x4.toInt) < (n : Int) → Ok (d_X8_copyBare_11  n x0 x1 x3 x4 S) (fun o => ZT o.2 ∧ RP SZ o.2 ∧ True) := by
  intro n
  induction n with
  | zero => intro x0 x1 x3 x4 S hT hR g0 g1 g2 g3 g4  hm; exfalso; omega
  | succ n ih =>
    intro x0 x1 x3 x4 S hT hR g0 g1 g2 g3 g4  hm
    exact t_d_X8_copyBare_11s (N11 := n)  ih hT hR g0 g1 g2 g3 g4  (by omega)
theorem t_d_X8_copyBare_0 {SZ S : ZS} {x0 : Nat} {x1 : Nat} {x2 : Int32} {x3 : Int32} (hT : ZT S) (hR : RP SZ S) (r_x0 : zK S x0 = 8) (r_x1 : zK S x1 = 6) (c_x1 : rc x1 ≤ 2) (r_x2 : (0 : Int) ≤ x2.toInt ∧ x2.toInt ≤ (90100 : Int)) (r_x3 : (0 : Int) ≤ x3.toInt ∧ x3.toInt ≤ (90100 : Int)) : Ok (d_X8_copyBare_0 x0 x1 x2 x3 S) (fun o => ZT o.2 ∧ RP SZ o.2 ∧ True) := by
  unfold d_X8_copyBare_0
  refine ok_chk r_x0 ?_
  obtain ⟨b1, p_b1, k_b1, c_b1⟩ := T_8_1 hT r_x0
  have lo_b1 := M_8_1 hT r_x0 p_b1
  have rl_b1 := rL_x1 lo_b1 c_b1
  refine ok_calR p_b1 ?_
  refine ok_chk k_b1 ?_
  have j137 := J61_1 hT k_b1 c_b1
  obtain ⟨⟨r2, S2⟩, h_r2, T_S2, A_S2, -⟩ := t_f_X6_keep (x0 := b1) (x1 := (0 : Int32)) (SZ := S) hT (a7_0 S) k_b1 (by have z0 : (0 : Int32).toInt = 0 := rfl; omega)
  replace T_S2 : ZT S2 := T_S2
  replace A_S2 : A7 S S2 := A_S2
  refine ok_calR h_r2 ?_
  have q_S2 := fq_X6_keep h_r2
  have kE_S2 : zK S2 = zK S := q_S2.2.2.1
  have nE_S2 : zN S2 = zN S := q_S2.2.2.2.1
  have R_S2 : RP SZ S2 := rp_f hR hT q_S2 (fz_X6_keep h_r2) (by decide) A_S2
  refine ok_chk ⟨q_S2.1, q_S2.2.1⟩ ?_
  exact t_d_X8_copyBare_11   mFuel x0 x1 x3 x2 S2 T_S2 R_S2 ((congrFun kE_S2 x0).trans r_x0) ((congrFun kE_S2 x1).trans r_x1) c_x1 r_x3 r_x2 (by show _ < ((200000 : Nat) : Int); omega)
theorem t_d_X8_copyBare {SZ S : ZS} {x0 : Nat} {x1 : Nat} {x2 : Int32} {x3 : Int32} (hT : ZT S) (hR : RP SZ S) (r_x0 : zK S x0 = 8) (r_x1 : zK S x1 = 6) (c_x1 : rc x1 ≤ 2) (r_x2 : (0 : Int) ≤ x2.toInt ∧ x2.toInt ≤ (90100 : Int)) (r_x3 : (0 : Int) ≤ x3.toInt ∧ x3.toInt ≤ (90100 : Int)) : Ok (d_X8_copyBare x0 x1 x2 x3 S) (fun o => ZT o.2 ∧ RP SZ o.2 ∧ True) := t_d_X8_copyBare_0 hT hR r_x0 r_x1 c_x1 r_x2 r_x3
theorem t_d_X8_matched_103 {SZ S : ZS} {x0 : Nat} {x1 : Nat} {x2 : Nat} {x3 : Int32} {x4 : Int32} (hT : ZT S) (hR : RP SZ S) (r_x0 : zK S x0 = 8) (r_x1 : zK S x1 = 0) (r_x2 : zK S x2 = 6) (c_x2 : rc x2 ≤ 2) (r_x3 : (0 : Int) ≤ x3.toInt ∧ x3.toInt ≤ (90100 : Int)) (r_x4 : (0 : Int) ≤ x4.toInt ∧ x4.toInt ≤ (90100 : Int)) : Ok (d_X8_matched_103 x0 x1 x2 x3 x4 S) (fun o => ZT o.2 ∧ RP SZ o.2 ∧ True) := by
  unfold d_X8_matched_103
  have j138 := J_8_6 hT r_x0
  have j139 := J_8_2 hT r_x0
  have j140 := J_8_8 hT r_x0
  refine ok_chk r_x0 ?_
  have j141 := J61_2 hT r_x2 c_x2
  obtain ⟨⟨r2, S3⟩, h_r2, T_S3, B_S3, -⟩ := t_d_X8_copyBare (x0 := x0) (x1 := x2) (x2 := x3) (x3 := x4) (SZ := S) hT (rp_0 S) r_x0 r_x2 c_x2 r_x3 r_x4
  replace T_S3 : ZT S3 := T_S3
  replace B_S3 : RP S S3 := B_S3
  have R_S3 : RP SZ S3 := rp_t hR B_S3
  refine ok_cal2R h_r2 ?_
  have g_S3 := (fz_X8_copyBare h_r2 hT.2.2.2.2.1).2.2
  have : (zI S3 6 x0).toInt = (zI S 6 x0).toInt := congrArg Int32.toInt ((g_S3 x0 (lt18 r_x0 (by decide))).2.2.1 6 (by rw [r_x0]; decide))
  have : (zI S3 2 x0).toInt = (zI S 2 x0).toInt := congrArg Int32.toInt ((g_S3 x0 (lt18 r_x0 (by decide))).2.2.1 2 (by rw [r_x0]; decide))
  have : (zI S3 8 x0).toInt = (zI S 8 x0).toInt := congrArg Int32.toInt ((g_S3 x0 (lt18 r_x0 (by decide))).2.2.1 8 (by rw [r_x0]; decide))
  refine ok_chk ((g_S3 x0 (lt18 r_x0 (by decide))).1.trans r_x0) ?_
  obtain ⟨⟨r6, S6⟩, h_r6, T_S6, A_S6, p_r6, p_r6_0⟩ := t_f_X8_parse (x0 := x0) (SZ := S3) T_S3 (a7_0 S3) ((g_S3 x0 (lt18 r_x0 (by decide))).1.trans r_x0)
  replace T_S6 : ZT S6 := T_S6
  replace A_S6 : A7 S3 S6 := A_S6
  dsimp only at p_r6 p_r6_0
  refine ok_calR h_r6 ?_
  have q_S6 := fq_X8_parse h_r6
  have kE_S6 : zK S6 = zK S3 := q_S6.2.2.1
  have nE_S6 : zN S6 = zN S3 := q_S6.2.2.2.1
  have R_S6 : RP SZ S6 := rp_f R_S3 T_S3 q_S6 (fz_X8_parse h_r6) (by decide) A_S6
  refine ok_chk ⟨q_S6.1, q_S6.2.1⟩ ?_
  refine ok_if (fun c142 => ?_) (fun c142 => ?_)
  ·
    replace c142 := ti_eqP (a := r6) (b := (0 : Int32)) c142 rfl (show (0 : Int32).toInt = 0 from rfl)
    exact ok_ret ⟨T_S6, R_S6, trivial⟩
  ·
    replace c142 := ti_eqN (a := r6) (b := (0 : Int32)) c142 rfl (show (0 : Int32).toInt = 0 from rfl)
    refine ok_chk ((congrFun kE_S6 x0).trans ((g_S3 x0 (lt18 r_x0 (by decide))).1.trans r_x0)) ?_
    refine ok_bnd (fun S7 e143 => ?_)
    have T_S7 : ZT S7 := e143.symm ▸ zt_I T_S6 ((congrFun kE_S6 x0).trans ((g_S3 x0 (lt18 r_x0 (by decide))).1.trans r_x0)) (by decide) (show (-1 : Int) ≤ (-1 : Int32).toInt ∧ (-1 : Int32).toInt ≤ (1 : Int) from (by decide))
    have kE_S7 : zK S7 = zK S6 := by rw [e143]; rfl
    have nE_S7 : zN S7 = zN S6 := by rw [e143]; rfl
    have R_S7 : RP SZ S7 := rp_I R_S6 T_S6 ((congrFun kE_S6 x0).trans ((g_S3 x0 (lt18 r_x0 (by decide))).1.trans r_x0)) e143 (by decide)
    have : (zI S7 6 x0).toInt = (zI S6 6 x0).toInt := by rw [e143]; rfl
    have : (zI S7 2 x0).toInt = (zI S6 2 x0).toInt := by rw [e143]; rfl
    have : (zI S7 8 x0).toInt = (-1) := by rw [e143]; exact (congrArg Int32.toInt (zI_self _ _ _ _)).trans (show (-1 : Int32).toInt = -1 from rfl)
    refine ok_chk ((congrFun kE_S7 x0).trans ((congrFun kE_S6 x0).trans ((g_S3 x0 (lt18 r_x0 (by decide))).1.trans r_x0))) ?_
    have j144 := J_8_6 T_S7 ((congrFun kE_S7 x0).trans ((congrFun kE_S6 x0).trans ((g_S3 x0 (lt18 r_x0 (by decide))).1.trans r_x0)))
    have j145 := J_8_2 T_S7 ((congrFun kE_S7 x0).trans ((congrFun kE_S6 x0).trans ((g_S3 x0 (lt18 r_x0 (by decide))).1.trans r_x0)))
    obtain ⟨⟨r8, S8⟩, h_r8, T_S8, A_S8, -⟩ := t_f_X8_gather (x0 := x0) (x1 := x1) (SZ := S7) T_S7 (a7_0 S7) ((congrFun kE_S7 x0).trans ((congrFun kE_S6 x0).trans ((g_S3 x0 (lt18 r_x0 (by decide))).1.trans r_x0))) ((congrFun kE_S7 x1).trans ((congrFun kE_S6 x1).trans ((g_S3 x1 (lt18 r_x1 (by decide))).1.trans r_x1))) (by omega)
    replace T_S8 : ZT S8 := T_S8
    replace A_S8 : A7 S7 S8 := A_S8
    refine ok_calR h_r8 ?_
    have q_S8 := fq_X8_gather h_r8
    have kE_S8 : zK S8 = zK S7 := q_S8.2.2.1
    have nE_S8 : zN S8 = zN S7 := q_S8.2.2.2.1
    have R_S8 : RP SZ S8 := rp_f R_S7 T_S7 q_S8 (fz_X8_gather h_r8) (by decide) A_S8
    have : (zI S8 2 x0).toInt = (zI S7 2 x0).toInt := congrArg Int32.toInt ((((fz_X8_gather h_r8) T_S7.2.2.2.2.1).2.2 x0 (by rw [((congrFun kE_S7 x0).trans ((congrFun kE_S6 x0).trans ((g_S3 x0 (lt18 r_x0 (by decide))).1.trans r_x0)))]; decide)).2.2.1 2 (by rw [((congrFun kE_S7 x0).trans ((congrFun kE_S6 x0).trans ((g_S3 x0 (lt18 r_x0 (by decide))).1.trans r_x0)))]; decide))
    have : (zI S8 8 x0).toInt = (zI S7 8 x0).toInt := congrArg Int32.toInt ((((fz_X8_gather h_r8) T_S7.2.2.2.2.1).2.2 x0 (by rw [((congrFun kE_S7 x0).trans ((congrFun kE_S6 x0).trans ((g_S3 x0 (lt18 r_x0 (by decide))).1.trans r_x0)))]; decide)).2.2.1 8 (by rw [((congrFun kE_S7 x0).trans ((congrFun kE_S6 x0).trans ((g_S3 x0 (lt18 r_x0 (by decide))).1.trans r_x0)))]; decide))
    refine ok_chk ⟨q_S8.1, q_S8.2.1⟩ ?_
    refine ok_chk ((congrFun kE_S8 x0).trans ((congrFun kE_S7 x0).trans ((congrFun kE_S6 x0).trans ((g_S3 x0 (lt18 r_x0 (by decide))).1.trans r_x0)))) ?_
    have j146 := J_8_11 T_S8 ((congrFun kE_S8 x0).trans ((congrFun kE_S7 x0).trans ((congrFun kE_S6 x0).trans ((g_S3 x0 (lt18 r_x0 (by decide))).1.trans r_x0))))
    refine ok_if (fun c147 => ?_) (fun c147 => ?_)
    ·
      replace c147 := ti_eqP (a := (zI S8 11 x0)) (b := (1 : Int32)) c147 rfl (show (1 : Int32).toInt = 1 from rfl)
      unfold d_X8_matched_144
      exact ok_ret ⟨T_S8, R_S8, trivial⟩
    ·
      replace c147 := ti_eqN (a := (zI S8 11 x0)) (b := (1 : Int32)) c147 rfl (show (1 : Int32).toInt = 1 from rfl)
      unfold d_X8_matched_144
      exact ok_ret ⟨T_S8, R_S8, trivial⟩
theorem t_d_X8_matched_67 {SZ S : ZS} {self29 : Nat → Nat → Nat → Int32 → Int32 → Int32 → Int32 → Int32 → ZS → Option (Int32 × ZS)} {N29 : Nat} (hself29 : ∀ (x0 : Nat) (x1 : Nat) (x2 : Nat) (x3 : Int32) (x4 : Int32) (x5 : Int32) (x6 : Int32) (x7 : Int32) (S : ZS), ZT S → RP SZ S → (zK S x0 = 8) → (zK S x1 = 0) → (zK S x2 = 6) → (rc x2 ≤ 2) → ((0 : Int) ≤ x3.toInt ∧ x3.toInt ≤ (90100 : Int)) → ((0 : Int) ≤ x4.toInt ∧ x4.toInt ≤ (90100 : Int)) → ((0 : Int) ≤ x6.toInt ∧ x6.toInt ≤ (64 : Int)) → ((0 : Int) ≤ x7.toInt ∧ x7.toInt ≤ (64 : Int)) → (x6.toInt ≤ x7.toInt) → (65 - x7.toInt) < (N29 : Int) → Ok (self29 x0 x1 x2 x3 x4 x5 x6 x7 S) (fun o => ZT o.2 ∧ RP SZ o.2 ∧ True)) {x0 : Nat} {x1 : Nat} {x2 : Nat} {x3 : Int32} {x4 : Int32} {x6 : Int32} {x7 : Int32} (hT : ZT S) (hR : RP SZ S) (r_x0 : zK S x0 = 8) (r_x1 : zK S x1 = 0) (r_x2 : zK S x2 = 6) (c_x2 : rc x2 ≤ 2) (r_x3 : (0 : Int) ≤ x3.toInt ∧ x3.toInt ≤ (90100 : Int)) (r_x4 : (0 : Int) ≤ x4.toInt ∧ x4.toInt ≤ (90100 : Int)) (r_x6 : (0 : Int) ≤ x6.toInt ∧ x6.toInt ≤ (63 : Int)) (r_x7 : (0 : Int) ≤ x7.toInt ∧ x7.toInt ≤ (63 : Int)) (q0 : x6.toInt ≤ x7.toInt) (m29 : (65 - x7.toInt) ≤ (N29 : Int)) : Ok (d_X8_matched_67 self29 x0 x1 x2 x3 x4 x6 x7 S) (fun o => ZT o.2 ∧ RP SZ o.2 ∧ True) := by
  unfold d_X8_matched_67
  have j148 := J_8_6 hT r_x0
  have j149 := J_8_2 hT r_x0
  have j150 := J_8_8 hT r_x0
  refine ok_chk r_x0 ?_
  obtain ⟨b1, p_b1, k_b1, n_b1⟩ := T_8_10 hT r_x0
  refine ok_calR p_b1 ?_
  refine ok_chk k_b1 ?_
  refine ok_chk (ti_inN (v := x7) (n := 64) n_b1 (by omega) (by omega)) ?_
  refine ok_bnd (fun v2 e151 => ?_)
  refine ok_bnd (fun v3 e152 => ?_)
  have t_v3 : v3.toInt = x6.toInt + 1 := ti_add e152 rfl (show (1 : Int32).toInt = 1 from rfl) (by omega) (by omega)
  unfold d_X8_matched_79
  refine ok_bnd (fun v1 e153 => ?_)
  have t_v1 : v1.toInt = x7.toInt + 1 := ti_add e153 rfl (show (1 : Int32).toInt = 1 from rfl) (by omega) (by omega)
  exact hself29 x0 x1 x2 x3 x4 v2 v3 v1 S hT hR r_x0 r_x1 r_x2 c_x2 r_x3 r_x4 (by omega) (by omega) (by omega) (by omega)
theorem t_d_X8_matched_29s {SZ S : ZS} {self29 : Nat → Nat → Nat → Int32 → Int32 → Int32 → Int32 → Int32 → ZS → Option (Int32 × ZS)} {N29 : Nat} (hself29 : ∀ (x0 : Nat) (x1 : Nat) (x2 : Nat) (x3 : Int32) (x4 : Int32) (x5 : Int32) (x6 : Int32) (x7 : Int32) (S : ZS), ZT S → RP SZ S → (zK S x0 = 8) → (zK S x1 = 0) → (zK S x2 = 6) → (rc x2 ≤ 2) → ((0 : Int) ≤ x3.toInt ∧ x3.toInt ≤ (90100 : Int)) → ((0 : Int) ≤ x4.toInt ∧ x4.toInt ≤ (90100 : Int)) → ((0 : Int) ≤ x6.toInt ∧ x6.toInt ≤ (64 : Int)) → ((0 : Int) ≤ x7.toInt ∧ x7.toInt ≤ (64 : Int)) → (x6.toInt ≤ x7.toInt) → (65 - x7.toInt) < (N29 : Int) → Ok (self29 x0 x1 x2 x3 x4 x5 x6 x7 S) (fun o => ZT o.2 ∧ RP SZ o.2 ∧ True)) {x0 : Nat} {x1 : Nat} {x2 : Nat} {x3 : Int32} {x4 : Int32} {x5 : Int32} {x6 : Int32} {x7 : Int32} (hT : ZT S) (hR : RP SZ S) (r_x0 : zK S x0 = 8) (r_x1 : zK S x1 = 0) (r_x2 : zK S x2 = 6) (c_x2 : rc x2 ≤ 2) (r_x3 : (0 : Int) ≤ x3.toInt ∧ x3.toInt ≤ (90100 : Int)) (r_x4 : (0 : Int) ≤ x4.toInt ∧ x4.toInt ≤ (90100 : Int)) (r_x6 : (0 : Int) ≤ x6.toInt ∧ x6.toInt ≤ (64 : Int)) (r_x7 : (0 : Int) ≤ x7.toInt ∧ x7.toInt ≤ (64 : Int)) (q0 : x6.toInt ≤ x7.toInt) (m29 : (65 - x7.toInt) ≤ (N29 : Int)) : Ok (d_X8_matched_29s self29 x0 x1 x2 x3 x4 x5 x6 x7 S) (fun o => ZT o.2 ∧ RP SZ o.2 ∧ True) := by
  unfold d_X8_matched_29s
  have j154 := J_8_6 hT r_x0
  have j155 := J_8_2 hT r_x0
  have j156 := J_8_8 hT r_x0
  refine ok_chk r_x0 ?_
  have j157 := J_8_11 hT r_x0
  refine ok_if (fun c158 => ?_) (fun c158 => ?_)
  ·
    replace c158 := ti_leP (a := (zI S 11 x0)) (b := x7) c158 rfl rfl
    refine ok_if (fun c159 => ?_) (fun c159 => ?_)
    ·
      replace c159 := ti_leP (a := x6) (b := (0 : Int32)) c159 rfl (show (0 : Int32).toInt = 0 from rfl)
      exact t_d_X8_matched_103 (S := S)  (x0 := x0) (x1 := x1) (x2 := x2) (x3 := x3) (x4 := x4) hT hR r_x0 r_x1 r_x2 c_x2 r_x3 r_x4
    ·
      replace c159 := ti_leN (a := x6) (b := (0 : Int32)) c159 rfl (show (0 : Int32).toInt = 0 from rfl)
      refine ok_if (fun c160 => ?_) (fun c160 => ?_)
      ·
        replace c160 := ti_eqP (a := x6) (b := (1 : Int32)) c160 rfl (show (1 : Int32).toInt = 1 from rfl)
        unfold d_X8_matched_102
        exact ok_ret ⟨hT, hR, trivial⟩
      ·
        replace c160 := ti_eqN (a := x6) (b := (1 : Int32)) c160 rfl (show (1 : Int32).toInt = 1 from rfl)
        unfold d_X8_matched_102
        exact ok_ret ⟨hT, hR, trivial⟩
  ·
    replace c158 := ti_leN (a := (zI S 11 x0)) (b := x7) c158 rfl rfl
    refine ok_chk r_x0 ?_
    have j161 := J_8_9 hT r_x0
    refine ok_if (fun c162 => ?_) (fun c162 => ?_)
    ·
      replace c162 := ti_eqP (a := (zI S 9 x0)) (b := (0 : Int32)) c162 rfl (show (0 : Int32).toInt = 0 from rfl)
      exact t_d_X8_matched_67 (S := S) hself29 (x0 := x0) (x1 := x1) (x2 := x2) (x3 := x3) (x4 := x4) (x6 := x6) (x7 := x7) hT hR r_x0 r_x1 r_x2 c_x2 r_x3 r_x4 (by omega) (by omega) q0 m29
    ·
      replace c162 := ti_eqN (a := (zI S 9 x0)) (b := (0 : Int32)) c162 rfl (show (0 : Int32).toInt = 0 from rfl)
      refine ok_chk r_x0 ?_
      refine ok_chk r_x0 ?_
      obtain ⟨b1, p_b1, k_b1⟩ := T_8_0 hT r_x0
      refine ok_calR p_b1 ?_
      refine ok_chk r_x0 ?_
      obtain ⟨b2, p_b2, k_b2, n_b2⟩ := T_8_10 hT r_x0
      refine ok_calR p_b2 ?_
      refine ok_chk k_b2 ?_
      refine ok_chk (ti_inN (v := x7) (n := 64) n_b2 (by omega) (by omega)) ?_
      refine ok_bnd (fun v3 e163 => ?_)
      refine ok_chk k_b1 ?_
      obtain ⟨⟨r4, S4⟩, h_r4, T_S4, A_S4, p_r4⟩ := t_f_X7_checkSign (x0 := b1) (x1 := x1) (x2 := v3) (SZ := S) hT (a7_0 S) k_b1 r_x1
      replace T_S4 : ZT S4 := T_S4
      replace A_S4 : A7 S S4 := A_S4
      dsimp only at p_r4
      refine ok_calR h_r4 ?_
      have q_S4 := fq_X7_checkSign h_r4
      have kE_S4 : zK S4 = zK S := q_S4.2.2.1
      have nE_S4 : zN S4 = zN S := q_S4.2.2.2.1
      have R_S4 : RP SZ S4 := rp_f hR hT q_S4 (fz_X7_checkSign h_r4) (by decide) A_S4
      have : (zI S4 6 x0).toInt = (zI S 6 x0).toInt := congrArg Int32.toInt ((((fz_X7_checkSign h_r4) hT.2.2.2.2.1).2.2 x0 (by rw [r_x0]; decide)).2.2.1 6 (by rw [r_x0]; decide))
      have : (zI S4 2 x0).toInt = (zI S 2 x0).toInt := congrArg Int32.toInt ((((fz_X7_checkSign h_r4) hT.2.2.2.2.1).2.2 x0 (by rw [r_x0]; decide)).2.2.1 2 (by rw [r_x0]; decide))
      have : (zI S4 8 x0).toInt = (zI S 8 x0).toInt := congrArg Int32.toInt ((((fz_X7_checkSign h_r4) hT.2.2.2.2.1).2.2 x0 (by rw [r_x0]; decide)).2.2.1 8 (by rw [r_x0]; decide))
      refine ok_chk ⟨q_S4.1, q_S4.2.1⟩ ?_
      refine ok_if (fun c164 => ?_) (fun c164 => ?_)
      ·
        replace c164 := ti_eqP (a := (zI S 9 x0)) (b := r4) c164 rfl rfl
        exact t_d_X8_matched_67 (S := S4) hself29 (x0 := x0) (x1 := x1) (x2 := x2) (x3 := x3) (x4 := x4) (x6 := x6) (x7 := x7) T_S4 R_S4 ((congrFun kE_S4 x0).trans r_x0) ((congrFun kE_S4 x1).trans r_x1) ((congrFun kE_S4 x2).trans r_x2) c_x2 r_x3 r_x4 (by omega) (by omega) q0 m29
      ·
        replace c164 := ti_eqN (a := (zI S 9 x0)) (b := r4) c164 rfl rfl
        unfold d_X8_matched_79
        refine ok_bnd (fun v1 e165 => ?_)
        have t_v1 : v1.toInt = x7.toInt + 1 := ti_add e165 rfl (show (1 : Int32).toInt = 1 from rfl) (by omega) (by omega)
        exact hself29 x0 x1 x2 x3 x4 x5 x6 v1 S4 T_S4 R_S4 ((congrFun kE_S4 x0).trans r_x0) ((congrFun kE_S4 x1).trans r_x1) ((congrFun kE_S4 x2).trans r_x2) c_x2 r_x3 r_x4 r_x6 (by omega) (by omega) (by omega)
theorem t_d_X8_matched_29 {SZ : ZS} : ∀ (n : Nat) (x0 : Nat) (x1 : Nat) (x2 : Nat) (x3 : Int32) (x4 : Int32) (x5 : Int32) (x6 : Int32) (x7 : Int32) (S : ZS), ZT S → RP SZ S → (zK S x0 = 8) → (zK S x1 = 0) → (zK S x2 = 6) → (rc x2 ≤ 2) → ((0 : Int) ≤ x3.toInt ∧ x3.toInt ≤ (90100 : Int)) → ((0 : Int) ≤ x4.toInt ∧ x4.toInt ≤ (90100 : Int)) → ((0 : Int) ≤ x6.toInt ∧ x6.toInt ≤ (64 : Int)) → ((0 : Int) ≤ x7.toInt ∧ x7.toInt ≤ (64 : Int)) → (x6.toInt ≤ x7.toInt) → (65 - x7.toInt) < (n : Int) → Ok (d_X8_matched_29  n x0 x1 x2 x3 x4 x5 x6 x7 S) (fun o => ZT o.2 ∧ RP SZ o.2 ∧ True) := by
  intro n
  induction n with
  | zero => intro x0 x1 x2 x3 x4 x5 x6 x7 S hT hR g0 g1 g2 g3 g4 g5 g6 g7 g8  hm; exfalso; omega
  | succ n ih =>
    intro x0 x1 x2 x3 x4 x5 x6 x7 S hT hR g0 g1 g2 g3 g4 g5 g6 g7 g8  hm
    exact t_d_X8_matched_29s (N29 := n)  ih hT hR g0 g1 g2 g3 g4 g5 g6 g7 g8  (by omega)
theorem t_d_X8_matched_0 {SZ S : ZS} {x0 : Nat} {x1 : Nat} {x2 : Nat} {x3 : Int32} {x4 : Int32} (hT : ZT S) (hR : RP SZ S) (r_x0 : zK S x0 = 8) (r_x1 : zK S x1 = 0) (r_x2 : zK S x2 = 6) (c_x2 : rc x2 ≤ 2) (r_x3 : (0 : Int) ≤ x3.toInt ∧ x3.toInt ≤ (90100 : Int)) (r_x4 : (0 : Int) ≤ x4.toInt ∧ x4.toInt ≤ (90100 : Int)) : Ok (d_X8_matched_0 x0 x1 x2 x3 x4 S) (fun o => ZT o.2 ∧ RP SZ o.2 ∧ True) := by
  unfold d_X8_matched_0
  have j166 := J_8_6 hT r_x0
  have j167 := J_8_2 hT r_x0
  have j168 := J_8_8 hT r_x0
  refine ok_chk r_x0 ?_
  have j169 := J61_2 hT r_x2 c_x2
  obtain ⟨⟨r2, S3⟩, h_r2, T_S3, B_S3, -⟩ := t_d_X8_copyWhole (x0 := x0) (x1 := x2) (x2 := x3) (x3 := x4) (SZ := S) hT (rp_0 S) r_x0 r_x2 c_x2 r_x3 r_x4
  replace T_S3 : ZT S3 := T_S3
  replace B_S3 : RP S S3 := B_S3
  have R_S3 : RP SZ S3 := rp_t hR B_S3
  refine ok_cal2R h_r2 ?_
  have g_S3 := (fz_X8_copyWhole h_r2 hT.2.2.2.2.1).2.2
  have : (zI S3 6 x0).toInt = (zI S 6 x0).toInt := congrArg Int32.toInt ((g_S3 x0 (lt18 r_x0 (by decide))).2.2.1 6 (by rw [r_x0]; decide))
  have : (zI S3 2 x0).toInt = (zI S 2 x0).toInt := congrArg Int32.toInt ((g_S3 x0 (lt18 r_x0 (by decide))).2.2.1 2 (by rw [r_x0]; decide))
  have : (zI S3 8 x0).toInt = (zI S 8 x0).toInt := congrArg Int32.toInt ((g_S3 x0 (lt18 r_x0 (by decide))).2.2.1 8 (by rw [r_x0]; decide))
  refine ok_chk ((g_S3 x0 (lt18 r_x0 (by decide))).1.trans r_x0) ?_
  obtain ⟨⟨r6, S6⟩, h_r6, T_S6, A_S6, p_r6, p_r6_0⟩ := t_f_X8_parse (x0 := x0) (SZ := S3) T_S3 (a7_0 S3) ((g_S3 x0 (lt18 r_x0 (by decide))).1.trans r_x0)
  replace T_S6 : ZT S6 := T_S6
  replace A_S6 : A7 S3 S6 := A_S6
  dsimp only at p_r6 p_r6_0
  refine ok_calR h_r6 ?_
  have q_S6 := fq_X8_parse h_r6
  have kE_S6 : zK S6 = zK S3 := q_S6.2.2.1
  have nE_S6 : zN S6 = zN S3 := q_S6.2.2.2.1
  have R_S6 : RP SZ S6 := rp_f R_S3 T_S3 q_S6 (fz_X8_parse h_r6) (by decide) A_S6
  refine ok_chk ⟨q_S6.1, q_S6.2.1⟩ ?_
  refine ok_if (fun c170 => ?_) (fun c170 => ?_)
  ·
    replace c170 := ti_eqP (a := r6) (b := (0 : Int32)) c170 rfl (show (0 : Int32).toInt = 0 from rfl)
    exact t_d_X8_matched_103 (S := S6)  (x0 := x0) (x1 := x1) (x2 := x2) (x3 := x3) (x4 := x4) T_S6 R_S6 ((congrFun kE_S6 x0).trans ((g_S3 x0 (lt18 r_x0 (by decide))).1.trans r_x0)) ((congrFun kE_S6 x1).trans ((g_S3 x1 (lt18 r_x1 (by decide))).1.trans r_x1)) ((congrFun kE_S6 x2).trans ((g_S3 x2 (lt18 r_x2 (by decide))).1.trans r_x2)) c_x2 r_x3 r_x4
  ·
    replace c170 := ti_eqN (a := r6) (b := (0 : Int32)) c170 rfl (show (0 : Int32).toInt = 0 from rfl)
    refine ok_chk ((congrFun kE_S6 x0).trans ((g_S3 x0 (lt18 r_x0 (by decide))).1.trans r_x0)) ?_
    have j171 := J_8_6 T_S6 ((congrFun kE_S6 x0).trans ((g_S3 x0 (lt18 r_x0 (by decide))).1.trans r_x0))
    have j172 := J_8_2 T_S6 ((congrFun kE_S6 x0).trans ((g_S3 x0 (lt18 r_x0 (by decide))).1.trans r_x0))
    obtain ⟨⟨r7, S7⟩, h_r7, T_S7, A_S7, -⟩ := t_f_X8_gather (x0 := x0) (x1 := x1) (SZ := S6) T_S6 (a7_0 S6) ((congrFun kE_S6 x0).trans ((g_S3 x0 (lt18 r_x0 (by decide))).1.trans r_x0)) ((congrFun kE_S6 x1).trans ((g_S3 x1 (lt18 r_x1 (by decide))).1.trans r_x1)) (by omega)
    replace T_S7 : ZT S7 := T_S7
    replace A_S7 : A7 S6 S7 := A_S7
    refine ok_calR h_r7 ?_
    have q_S7 := fq_X8_gather h_r7
    have kE_S7 : zK S7 = zK S6 := q_S7.2.2.1
    have nE_S7 : zN S7 = zN S6 := q_S7.2.2.2.1
    have R_S7 : RP SZ S7 := rp_f R_S6 T_S6 q_S7 (fz_X8_gather h_r7) (by decide) A_S7
    have : (zI S7 2 x0).toInt = (zI S6 2 x0).toInt := congrArg Int32.toInt ((((fz_X8_gather h_r7) T_S6.2.2.2.2.1).2.2 x0 (by rw [((congrFun kE_S6 x0).trans ((g_S3 x0 (lt18 r_x0 (by decide))).1.trans r_x0))]; decide)).2.2.1 2 (by rw [((congrFun kE_S6 x0).trans ((g_S3 x0 (lt18 r_x0 (by decide))).1.trans r_x0))]; decide))
    have : (zI S7 8 x0).toInt = (zI S6 8 x0).toInt := congrArg Int32.toInt ((((fz_X8_gather h_r7) T_S6.2.2.2.2.1).2.2 x0 (by rw [((congrFun kE_S6 x0).trans ((g_S3 x0 (lt18 r_x0 (by decide))).1.trans r_x0))]; decide)).2.2.1 8 (by rw [((congrFun kE_S6 x0).trans ((g_S3 x0 (lt18 r_x0 (by decide))).1.trans r_x0))]; decide))
    refine ok_chk ⟨q_S7.1, q_S7.2.1⟩ ?_
    exact t_d_X8_matched_29   mFuel x0 x1 x2 x3 x4 (-1 : Int32) (0 : Int32) (0 : Int32) S7 T_S7 R_S7 ((congrFun kE_S7 x0).trans ((congrFun kE_S6 x0).trans ((g_S3 x0 (lt18 r_x0 (by decide))).1.trans r_x0))) ((congrFun kE_S7 x1).trans ((congrFun kE_S6 x1).trans ((g_S3 x1 (lt18 r_x1 (by decide))).1.trans r_x1))) ((congrFun kE_S7 x2).trans ((congrFun kE_S6 x2).trans ((g_S3 x2 (lt18 r_x2 (by decide))).1.trans r_x2))) c_x2 r_x3 r_x4 (by decide) (by decide) (by have z0 : (-1 : Int32).toInt = -1 := rfl; have z1 : (0 : Int32).toInt = 0 := rfl; have z2 : (0 : Int32).toInt = 0 := rfl; omega) (by show _ < ((200000 : Nat) : Int); have z0 : (-1 : Int32).toInt = -1 := rfl; have z1 : (0 : Int32).toInt = 0 := rfl; have z2 : (0 : Int32).toInt = 0 := rfl; omega)
theorem t_d_X8_matched {SZ S : ZS} {x0 : Nat} {x1 : Nat} {x2 : Nat} {x3 : Int32} {x4 : Int32} (hT : ZT S) (hR : RP SZ S) (r_x0 : zK S x0 = 8) (r_x1 : zK S x1 = 0) (r_x2 : zK S x2 = 6) (c_x2 : rc x2 ≤ 2) (r_x3 : (0 : Int) ≤ x3.toInt ∧ x3.toInt ≤ (90100 : Int)) (r_x4 : (0 : Int) ≤ x4.toInt ∧ x4.toInt ≤ (90100 : Int)) : Ok (d_X8_matched x0 x1 x2 x3 x4 S) (fun o => ZT o.2 ∧ RP SZ o.2 ∧ True) := t_d_X8_matched_0 hT hR r_x0 r_x1 r_x2 c_x2 r_x3 r_x4
theorem t_d_X2_readEnd_0 {SZ S : ZS} {x0 : Nat} (hT : ZT S) (hR : RP SZ S) (r_x0 : zK S x0 = 2) (q0 : (zI S 4 x0).toInt ≤ 90000) : Ok (d_X2_readEnd_0 x0 S) (fun o => ZT o.2 ∧ RP SZ o.2 ∧ ((0 : Int) ≤ o.1.toInt ∧ o.1.toInt ≤ (1 : Int))) := by
  unfold d_X2_readEnd_0
  have j173 := J_2_4 hT r_x0
  refine ok_chk r_x0 ?_
  obtain ⟨r1, h_r1, p_r1⟩ := roz (t_f_X2_resultHere (x0 := x0) hT r_x0)
  dsimp only at p_r1
  refine ok_calR h_r1 ?_
  refine ok_chk ⟨rfl, rfl⟩ ?_
  refine ok_chk r_x0 ?_
  obtain ⟨b2, p_b2, k_b2⟩ := T_2_3 hT r_x0
  have lo_b2 := M_2_3 hT r_x0 p_b2
  refine ok_calR p_b2 ?_
  refine ok_chk k_b2 ?_
  obtain ⟨r4, h_r4, p_r4⟩ := roz (t_d_X1_agreesWith (x0 := b2) (x1 := r1) hT k_b2)
  dsimp only at p_r4
  refine ok_cal2R h_r4 ?_
  refine ok_if (fun c174 => ?_) (fun c174 => ?_)
  ·
    replace c174 := ti_eqP (a := r4) (b := (0 : Int32)) c174 rfl (show (0 : Int32).toInt = 0 from rfl)
    refine ok_chk r_x0 ?_
    refine ok_chk r_x0 ?_
    obtain ⟨⟨r18, S18⟩, h_r18, T_S18, A_S18, p_r18⟩ := t_f_X2_refuse (x0 := x0) (x1 := (9 : Int32)) (x2 := (zI S 4 x0)) (SZ := S) hT (a7_0 S) r_x0
    replace T_S18 : ZT S18 := T_S18
    replace A_S18 : A7 S S18 := A_S18
    dsimp only at p_r18
    refine ok_calR h_r18 ?_
    have q_S18 := fq_X2_refuse h_r18
    have kE_S18 : zK S18 = zK S := q_S18.2.2.1
    have nE_S18 : zN S18 = zN S := q_S18.2.2.2.1
    have R_S18 : RP SZ S18 := rp_f hR hT q_S18 (fz_X2_refuse h_r18) (by decide) A_S18
    have : (zI S18 4 x0).toInt = (zI S 4 x0).toInt := congrArg Int32.toInt ((((fz_X2_refuse h_r18) hT.2.2.2.2.1).2.2 x0 (by rw [r_x0]; decide)).2.2.1 4 (by rw [r_x0]; decide))
    refine ok_chk ⟨q_S18.1, q_S18.2.1⟩ ?_
    refine ok_chk (nar_b (v := r18) (by omega) (by omega)) ?_
    exact ok_ret ⟨T_S18, R_S18, (show (0 : Int) ≤ r18.toInt ∧ r18.toInt ≤ (1 : Int) from (by omega))⟩
  ·
    replace c174 := ti_eqN (a := r4) (b := (0 : Int32)) c174 rfl (show (0 : Int32).toInt = 0 from rfl)
    refine ok_chk r_x0 ?_
    refine ok_calR p_b2 ?_
    refine ok_chk k_b2 ?_
    refine ok_bnd (fun S9 e175 => ?_)
    have T_S9 : ZT S9 := e175.symm ▸ zt_W hT k_b2 (by decide) rfl
    have kE_S9 : zK S9 = zK S := by rw [e175]; rfl
    have nE_S9 : zN S9 = zN S := by rw [e175]; rfl
    have R_S9 : RP SZ S9 := rp_I hR hT k_b2 e175 (by decide)
    have : (zI S9 4 x0).toInt = (zI S 4 x0).toInt := by rw [e175]; rfl
    refine ok_chk ((congrFun kE_S9 x0).trans r_x0) ?_
    obtain ⟨r10, h_r10, p_r10⟩ := roz (t_f_X11_resultSign (x0 := r1) T_S9 )
    dsimp only at p_r10
    refine ok_calR h_r10 ?_
    refine ok_chk ⟨rfl, rfl⟩ ?_
    refine ok_chk (show r10 < zSn from p_r10) ?_
    obtain ⟨r11, h_r11, p_r11⟩ := roz (t_f_J0_length_8abf5 (x0 := r10) T_S9 p_r10)
    dsimp only at p_r11
    refine ok_calR h_r11 ?_
    refine ok_chk ⟨rfl, rfl⟩ ?_
    refine ok_bnd (fun v12 e176 => ?_)
    have j177 := J_2_4 T_S9 ((congrFun kE_S9 x0).trans r_x0)
    have t_v12 : v12.toInt = (zI S9 4 x0).toInt + r11.toInt := ti_add e176 rfl rfl (by omega) (by omega)
    refine ok_chk ((congrFun kE_S9 x0).trans r_x0) ?_
    refine ok_bnd (fun S13 e178 => ?_)
    have T_S13 : ZT S13 := e178.symm ▸ zt_I T_S9 ((congrFun kE_S9 x0).trans r_x0) (by decide) (show (0 : Int) ≤ v12.toInt ∧ v12.toInt ≤ (90100 : Int) from (by omega))
    have kE_S13 : zK S13 = zK S9 := by rw [e178]; rfl
    have nE_S13 : zN S13 = zN S9 := by rw [e178]; rfl
    have R_S13 : RP SZ S13 := rp_I R_S9 T_S9 ((congrFun kE_S9 x0).trans r_x0) e178 (by decide)
    have : (zI S13 4 x0).toInt = v12.toInt := by rw [e178]; exact (congrArg Int32.toInt (zI_self _ _ _ _)).trans rfl
    refine ok_chk ((congrFun kE_S13 x0).trans ((congrFun kE_S9 x0).trans r_x0)) ?_
    obtain ⟨⟨r14, S14⟩, h_r14, T_S14, A_S14, -⟩ := t_f_X2_skipBlanks (x0 := x0) (SZ := S13) T_S13 (a7_0 S13) ((congrFun kE_S13 x0).trans ((congrFun kE_S9 x0).trans r_x0))
    replace T_S14 : ZT S14 := T_S14
    replace A_S14 : A7 S13 S14 := A_S14
    refine ok_calR h_r14 ?_
    have q_S14 := fq_X2_skipBlanks h_r14
    have kE_S14 : zK S14 = zK S13 := q_S14.2.2.1
    have nE_S14 : zN S14 = zN S13 := q_S14.2.2.2.1
    have R_S14 : RP SZ S14 := rp_f R_S13 T_S13 q_S14 (fz_X2_skipBlanks h_r14) (by decide) A_S14
    refine ok_chk ⟨q_S14.1, q_S14.2.1⟩ ?_
    refine ok_chk ((congrFun kE_S14 x0).trans ((congrFun kE_S13 x0).trans ((congrFun kE_S9 x0).trans r_x0))) ?_
    refine ok_chk ((congrFun kE_S14 x0).trans ((congrFun kE_S13 x0).trans ((congrFun kE_S9 x0).trans r_x0))) ?_
    obtain ⟨b15, p_b15, k_b15, c_b15⟩ := T_2_2 T_S14 ((congrFun kE_S14 x0).trans ((congrFun kE_S13 x0).trans ((congrFun kE_S9 x0).trans r_x0)))
    have rl_b15 := rL_ge b15
    refine ok_calR p_b15 ?_
    refine ok_chk k_b15 ?_
    have j179 := J61_2 T_S14 k_b15 c_b15
    obtain ⟨r16, h_r16, p_r16⟩ := roz (t_f_X6_size (x0 := b15) T_S14 k_b15)
    dsimp only at p_r16
    refine ok_calR h_r16 ?_
    have s_r16 : r16.toInt = (zI S14 1 b15).toInt := congrArg Int32.toInt p_r16.2
    refine ok_chk ⟨rfl, rfl⟩ ?_
    have j180 := J_2_4 T_S14 ((congrFun kE_S14 x0).trans ((congrFun kE_S13 x0).trans ((congrFun kE_S9 x0).trans r_x0)))
    refine ok_if (fun c181 => ?_) (fun c181 => ?_)
    ·
      replace c181 := ti_eqP (a := (zI S14 4 x0)) (b := r16) c181 rfl rfl
      unfold d_X2_readEnd_81
      unfold d_X2_readEnd_86
      refine ok_chk (by decide) ?_
      exact ok_ret ⟨T_S14, R_S14, (show (0 : Int) ≤ (1 : Int32).toInt ∧ (1 : Int32).toInt ≤ (1 : Int) from (by decide))⟩
    ·
      replace c181 := ti_eqN (a := (zI S14 4 x0)) (b := r16) c181 rfl rfl
      refine ok_chk ((congrFun kE_S14 x0).trans ((congrFun kE_S13 x0).trans ((congrFun kE_S9 x0).trans r_x0))) ?_
      refine ok_chk ((congrFun kE_S14 x0).trans ((congrFun kE_S13 x0).trans ((congrFun kE_S9 x0).trans r_x0))) ?_
      obtain ⟨⟨r17, S17⟩, h_r17, T_S17, A_S17, p_r17⟩ := t_f_X2_refuse (x0 := x0) (x1 := (1 : Int32)) (x2 := (zI S14 4 x0)) (SZ := S14) T_S14 (a7_0 S14) ((congrFun kE_S14 x0).trans ((congrFun kE_S13 x0).trans ((congrFun kE_S9 x0).trans r_x0)))
      replace T_S17 : ZT S17 := T_S17
      replace A_S17 : A7 S14 S17 := A_S17
      dsimp only at p_r17
      refine ok_calR h_r17 ?_
      have q_S17 := fq_X2_refuse h_r17
      have kE_S17 : zK S17 = zK S14 := q_S17.2.2.1
      have nE_S17 : zN S17 = zN S14 := q_S17.2.2.2.1
      have R_S17 : RP SZ S17 := rp_f R_S14 T_S14 q_S17 (fz_X2_refuse h_r17) (by decide) A_S17
      have : (zI S17 4 x0).toInt = (zI S14 4 x0).toInt := congrArg Int32.toInt ((((fz_X2_refuse h_r17) T_S14.2.2.2.2.1).2.2 x0 (by rw [((congrFun kE_S14 x0).trans ((congrFun kE_S13 x0).trans ((congrFun kE_S9 x0).trans r_x0)))]; decide)).2.2.1 4 (by rw [((congrFun kE_S14 x0).trans ((congrFun kE_S13 x0).trans ((congrFun kE_S9 x0).trans r_x0)))]; decide))
      refine ok_chk ⟨q_S17.1, q_S17.2.1⟩ ?_
      refine ok_if (fun c182 => ?_) (fun c182 => ?_)
      ·
        replace c182 := ti_eqP (a := r17) (b := (0 : Int32)) c182 rfl (show (0 : Int32).toInt = 0 from rfl)
        unfold d_X2_readEnd_86
        refine ok_chk (by decide) ?_
        exact ok_ret ⟨T_S17, R_S17, (show (0 : Int) ≤ (0 : Int32).toInt ∧ (0 : Int32).toInt ≤ (1 : Int) from (by decide))⟩
      ·
        replace c182 := ti_eqN (a := r17) (b := (0 : Int32)) c182 rfl (show (0 : Int32).toInt = 0 from rfl)
        unfold d_X2_readEnd_81
        unfold d_X2_readEnd_86
        refine ok_chk (by decide) ?_
        exact ok_ret ⟨T_S17, R_S17, (show (0 : Int) ≤ (1 : Int32).toInt ∧ (1 : Int32).toInt ≤ (1 : Int) from (by decide))⟩
theorem t_d_X2_readEnd {SZ S : ZS} {x0 : Nat} (hT : ZT S) (hR : RP SZ S) (r_x0 : zK S x0 = 2) (q0 : (zI S 4 x0).toInt ≤ 90000) : Ok (d_X2_readEnd x0 S) (fun o => ZT o.2 ∧ RP SZ o.2 ∧ ((0 : Int) ≤ o.1.toInt ∧ o.1.toInt ≤ (1 : Int))) := t_d_X2_readEnd_0 hT hR r_x0 q0
theorem t_d_X11_find_0 {SZ S : ZS} {x0 : Nat} (hT : ZT S) (hR : RP SZ S) (r_x0 : zK S x0 = 11) : Ok (d_X11_find_0 x0 S) (fun o => ZT o.2 ∧ RP SZ o.2 ∧ True) := by
  unfold d_X11_find_0
  refine ok_chk r_x0 ?_
  obtain ⟨b1, p_b1, k_b1⟩ := T_11_3 hT r_x0
  refine ok_calR p_b1 ?_
  refine ok_chk r_x0 ?_
  obtain ⟨b2, p_b2, k_b2⟩ := T_11_9 hT r_x0
  refine ok_calR p_b2 ?_
  refine ok_chk r_x0 ?_
  obtain ⟨b3, p_b3, k_b3, c_b3⟩ := T_11_0 hT r_x0
  have lo_b3 := M_11_0 hT r_x0 p_b3
  have rl_b3 := rL_x2 lo_b3 c_b3
  refine ok_calR p_b3 ?_
  refine ok_chk r_x0 ?_
  refine ok_calR p_b3 ?_
  refine ok_chk k_b3 ?_
  have j183 := J61_2 hT k_b3 c_b3
  obtain ⟨r5, h_r5, p_r5⟩ := roz (t_f_X6_size (x0 := b3) hT k_b3)
  dsimp only at p_r5
  refine ok_calR h_r5 ?_
  have s_r5 : r5.toInt = (zI S 1 b3).toInt := congrArg Int32.toInt p_r5.2
  refine ok_chk ⟨rfl, rfl⟩ ?_
  refine ok_chk k_b1 ?_
  obtain ⟨⟨r7, S8⟩, h_r7, T_S8, B_S8, -⟩ := t_d_X8_matched (x0 := b1) (x1 := b2) (x2 := b3) (x3 := (0 : Int32)) (x4 := r5) (SZ := S) hT (rp_0 S) k_b1 k_b2 k_b3 c_b3 (by decide) (by omega)
  replace T_S8 : ZT S8 := T_S8
  replace B_S8 : RP S S8 := B_S8
  have R_S8 : RP SZ S8 := rp_t hR B_S8
  refine ok_cal2R h_r7 ?_
  have g_S8 := (fz_X8_matched h_r7 hT.2.2.2.2.1).2.2
  exact ok_ret ⟨T_S8, R_S8, trivial⟩
theorem t_d_X11_find {SZ S : ZS} {x0 : Nat} (hT : ZT S) (hR : RP SZ S) (r_x0 : zK S x0 = 11) : Ok (d_X11_find x0 S) (fun o => ZT o.2 ∧ RP SZ o.2 ∧ True) := t_d_X11_find_0 hT hR r_x0
