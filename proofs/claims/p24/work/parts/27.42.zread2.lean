section
theorem t_d_X1_hasTag_2s {S : ZS} {self2 : Nat → Nat → Int32 → ZS → Option (Int32 × ZS)} {N2 : Nat} (hself2 : ∀ (x0 : Nat) (x1 : Nat) (x2 : Int32),  (zK S x0 = 1) → (zK S x1 = 6) → ((0 : Int) ≤ x2.toInt ∧ x2.toInt ≤ (8 : Int)) → (9 - x2.toInt) < (N2 : Int) → Ok (self2 x0 x1 x2 S) (fun o => o.2 = S ∧ ((0 : Int) ≤ o.1.toInt ∧ o.1.toInt ≤ (1 : Int)))) {x0 : Nat} {x1 : Nat} {x2 : Int32} (hT : ZT S) (r_x0 : zK S x0 = 1) (r_x1 : zK S x1 = 6) (r_x2 : (0 : Int) ≤ x2.toInt ∧ x2.toInt ≤ (8 : Int)) (m2 : (9 - x2.toInt) ≤ (N2 : Int)) : Ok (d_X1_hasTag_2s self2 x0 x1 x2 S) (fun o => o.2 = S ∧ ((0 : Int) ≤ o.1.toInt ∧ o.1.toInt ≤ (1 : Int))) := by
  unfold d_X1_hasTag_2s
  refine ok_chk r_x0 ?_
  have j1 := J_1_5 hT r_x0
  refine ok_if (fun c2 => ?_) (fun c2 => ?_)
  ·
    replace c2 := ti_leP (a := (zI S 5 x0)) (b := x2) c2 rfl rfl
    refine ok_chk (by decide) ?_
    exact ok_ret ⟨rfl, (show (0 : Int) ≤ (0 : Int32).toInt ∧ (0 : Int32).toInt ≤ (1 : Int) from (by decide))⟩
  ·
    replace c2 := ti_leN (a := (zI S 5 x0)) (b := x2) c2 rfl rfl
    refine ok_chk r_x0 ?_
    obtain ⟨r2, h_r2, p_r2⟩ := roz (t_d_X1_tagAt (x0 := x0) (x1 := x2) hT r_x0 (by omega))
    dsimp only at p_r2
    refine ok_cal2R h_r2 ?_
    refine ok_chk p_r2 ?_
    obtain ⟨b6, p_b6, k_b6, c_b6⟩ := T_10_0 hT p_r2
    have rl_b6 := rL_0 c_b6
    refine ok_calR p_b6 ?_
    refine ok_chk k_b6 ?_
    have j3 := J61_0 hT k_b6 c_b6
    have j4 := J_6_1 hT r_x1
    obtain ⟨r7, h_r7, p_r7⟩ := roz (t_f_X6_isLike (x0 := b6) (x1 := x1) hT k_b6 r_x1)
    dsimp only at p_r7
    refine ok_calR h_r7 ?_
    refine ok_chk ⟨rfl, rfl⟩ ?_
    refine ok_if (fun c5 => ?_) (fun c5 => ?_)
    ·
      replace c5 := ti_eqP (a := r7) (b := (0 : Int32)) c5 rfl (show (0 : Int32).toInt = 0 from rfl)
      refine ok_bnd (fun v8 e6 => ?_)
      have t_v8 : v8.toInt = x2.toInt + 1 := ti_add e6 rfl (show (1 : Int32).toInt = 1 from rfl) (by omega) (by omega)
      exact hself2 x0 x1 v8  r_x0 r_x1 (by omega) (by omega)
    ·
      replace c5 := ti_eqN (a := r7) (b := (0 : Int32)) c5 rfl (show (0 : Int32).toInt = 0 from rfl)
      refine ok_chk (by decide) ?_
      exact ok_ret ⟨rfl, (show (0 : Int) ≤ (1 : Int32).toInt ∧ (1 : Int32).toInt ≤ (1 : Int) from (by decide))⟩
theorem t_d_X1_hasTag_2 {S : ZS} (hT : ZT S) : ∀ (n : Nat) (x0 : Nat) (x1 : Nat) (x2 : Int32),  (zK S x0 = 1) → (zK S x1 = 6) → ((0 : Int) ≤ x2.toInt ∧ x2.toInt ≤ (8 : Int)) → (9 - x2.toInt) < (n : Int) → Ok (d_X1_hasTag_2  n x0 x1 x2 S) (fun o => o.2 = S ∧ ((0 : Int) ≤ o.1.toInt ∧ o.1.toInt ≤ (1 : Int))) := by
  intro n
  induction n with
  | zero => intro x0 x1 x2 g0 g1 g2  hm; exfalso; omega
  | succ n ih =>
    intro x0 x1 x2 g0 g1 g2  hm
    exact t_d_X1_hasTag_2s (N2 := n)  ih hT g0 g1 g2  (by omega)
theorem t_d_X1_hasTag_0 {S : ZS} {x0 : Nat} {x1 : Nat} (hT : ZT S) (r_x0 : zK S x0 = 1) (r_x1 : zK S x1 = 6) : Ok (d_X1_hasTag_0 x0 x1 S) (fun o => o.2 = S ∧ ((0 : Int) ≤ o.1.toInt ∧ o.1.toInt ≤ (1 : Int))) := by
  unfold d_X1_hasTag_0
  exact t_d_X1_hasTag_2  hT mFuel x0 x1 (0 : Int32)  r_x0 r_x1 (by decide) (by show _ < ((200000 : Nat) : Int); have z0 : (0 : Int32).toInt = 0 := rfl; omega)
theorem t_d_X1_hasTag {S : ZS} {x0 : Nat} {x1 : Nat} (hT : ZT S) (r_x0 : zK S x0 = 1) (r_x1 : zK S x1 = 6) : Ok (d_X1_hasTag x0 x1 S) (fun o => o.2 = S ∧ ((0 : Int) ≤ o.1.toInt ∧ o.1.toInt ≤ (1 : Int))) := t_d_X1_hasTag_0 hT r_x0 r_x1
theorem t_d_X1_agreesWith_2s {S : ZS} {self2 : Nat → Int32 → Int32 → ZS → Option (Int32 × ZS)} {N2 : Nat} (hself2 : ∀ (x0 : Nat) (x1 : Int32) (x2 : Int32),  (zK S x0 = 1) → ((0 : Int) ≤ x2.toInt ∧ x2.toInt ≤ (8 : Int)) → (9 - x2.toInt) < (N2 : Int) → Ok (self2 x0 x1 x2 S) (fun o => o.2 = S ∧ ((0 : Int) ≤ o.1.toInt ∧ o.1.toInt ≤ (1 : Int)))) {x0 : Nat} {x1 : Int32} {x2 : Int32} (hT : ZT S) (r_x0 : zK S x0 = 1) (r_x2 : (0 : Int) ≤ x2.toInt ∧ x2.toInt ≤ (8 : Int)) (m2 : (9 - x2.toInt) ≤ (N2 : Int)) : Ok (d_X1_agreesWith_2s self2 x0 x1 x2 S) (fun o => o.2 = S ∧ ((0 : Int) ≤ o.1.toInt ∧ o.1.toInt ≤ (1 : Int))) := by
  unfold d_X1_agreesWith_2s
  refine ok_chk r_x0 ?_
  have j7 := J_1_5 hT r_x0
  refine ok_if (fun c8 => ?_) (fun c8 => ?_)
  ·
    replace c8 := ti_leP (a := (zI S 5 x0)) (b := x2) c8 rfl rfl
    refine ok_chk (by decide) ?_
    exact ok_ret ⟨rfl, (show (0 : Int) ≤ (1 : Int32).toInt ∧ (1 : Int32).toInt ≤ (1 : Int) from (by decide))⟩
  ·
    replace c8 := ti_leN (a := (zI S 5 x0)) (b := x2) c8 rfl rfl
    refine ok_chk r_x0 ?_
    obtain ⟨r2, h_r2, p_r2⟩ := roz (t_d_X1_tagAt (x0 := x0) (x1 := x2) hT r_x0 (by omega))
    dsimp only at p_r2
    refine ok_cal2R h_r2 ?_
    refine ok_chk p_r2 ?_
    obtain ⟨b6, p_b6, k_b6, c_b6⟩ := T_10_0 hT p_r2
    have rl_b6 := rL_0 c_b6
    refine ok_calR p_b6 ?_
    refine ok_chk k_b6 ?_
    have j9 := J61_0 hT k_b6 c_b6
    obtain ⟨r7, h_r7, p_r7⟩ := roz (t_f_X6_is (x0 := b6) (x1 := 10) hT k_b6 (by decide))
    dsimp only at p_r7
    refine ok_calR h_r7 ?_
    refine ok_chk ⟨rfl, rfl⟩ ?_
    refine ok_if (fun c10 => ?_) (fun c10 => ?_)
    ·
      replace c10 := ti_eqP (a := r7) (b := (0 : Int32)) c10 rfl (show (0 : Int32).toInt = 0 from rfl)
      unfold d_X1_agreesWith_46
      refine ok_bnd (fun v1 e11 => ?_)
      have t_v1 : v1.toInt = x2.toInt + 1 := ti_add e11 rfl (show (1 : Int32).toInt = 1 from rfl) (by omega) (by omega)
      exact hself2 x0 x1 v1  r_x0 (by omega) (by omega)
    ·
      replace c10 := ti_eqN (a := r7) (b := (0 : Int32)) c10 rfl (show (0 : Int32).toInt = 0 from rfl)
      refine ok_chk r_x0 ?_
      obtain ⟨r9, h_r9, p_r9⟩ := roz (t_d_X1_tagAt (x0 := x0) (x1 := x2) hT r_x0 (by omega))
      dsimp only at p_r9
      refine ok_cal2R h_r9 ?_
      refine ok_chk p_r9 ?_
      obtain ⟨b13, p_b13, k_b13, c_b13⟩ := T_10_1 hT p_r9
      have rl_b13 := rL_0 c_b13
      refine ok_calR p_b13 ?_
      obtain ⟨r14, h_r14, p_r14⟩ := roz (t_f_X11_resultSign (x0 := x1) hT )
      dsimp only at p_r14
      refine ok_calR h_r14 ?_
      refine ok_chk ⟨rfl, rfl⟩ ?_
      refine ok_chk k_b13 ?_
      have j12 := J61_0 hT k_b13 c_b13
      obtain ⟨r15, h_r15, p_r15⟩ := roz (t_f_X6_is (x0 := b13) (x1 := r14) hT k_b13 p_r14)
      dsimp only at p_r15
      refine ok_calR h_r15 ?_
      refine ok_chk ⟨rfl, rfl⟩ ?_
      refine ok_if (fun c13 => ?_) (fun c13 => ?_)
      ·
        replace c13 := ti_eqP (a := r15) (b := (0 : Int32)) c13 rfl (show (0 : Int32).toInt = 0 from rfl)
        refine ok_chk (by decide) ?_
        exact ok_ret ⟨rfl, (show (0 : Int) ≤ (0 : Int32).toInt ∧ (0 : Int32).toInt ≤ (1 : Int) from (by decide))⟩
      ·
        replace c13 := ti_eqN (a := r15) (b := (0 : Int32)) c13 rfl (show (0 : Int32).toInt = 0 from rfl)
        unfold d_X1_agreesWith_46
        refine ok_bnd (fun v1 e14 => ?_)
        have t_v1 : v1.toInt = x2.toInt + 1 := ti_add e14 rfl (show (1 : Int32).toInt = 1 from rfl) (by omega) (by omega)
        exact hself2 x0 x1 v1  r_x0 (by omega) (by omega)
theorem t_d_X1_agreesWith_2 {S : ZS} (hT : ZT S) : ∀ (n : Nat) (x0 : Nat) (x1 : Int32) (x2 : Int32),  (zK S x0 = 1) → ((0 : Int) ≤ x2.toInt ∧ x2.toInt ≤ (8 : Int)) → (9 - x2.toInt) < (n : Int) → Ok (d_X1_agreesWith_2  n x0 x1 x2 S) (fun o => o.2 = S ∧ ((0 : Int) ≤ o.1.toInt ∧ o.1.toInt ≤ (1 : Int))) := by
  intro n
  induction n with
  | zero => intro x0 x1 x2 g0 g1  hm; exfalso; omega
  | succ n ih =>
    intro x0 x1 x2 g0 g1  hm
    exact t_d_X1_agreesWith_2s (N2 := n)  ih hT g0 g1  (by omega)
theorem t_d_X1_agreesWith_0 {S : ZS} {x0 : Nat} {x1 : Int32} (hT : ZT S) (r_x0 : zK S x0 = 1) : Ok (d_X1_agreesWith_0 x0 x1 S) (fun o => o.2 = S ∧ ((0 : Int) ≤ o.1.toInt ∧ o.1.toInt ≤ (1 : Int))) := by
  unfold d_X1_agreesWith_0
  exact t_d_X1_agreesWith_2  hT mFuel x0 x1 (0 : Int32)  r_x0 (by decide) (by show _ < ((200000 : Nat) : Int); have z0 : (0 : Int32).toInt = 0 := rfl; omega)
theorem t_d_X1_agreesWith {S : ZS} {x0 : Nat} {x1 : Int32} (hT : ZT S) (r_x0 : zK S x0 = 1) : Ok (d_X1_agreesWith x0 x1 S) (fun o => o.2 = S ∧ ((0 : Int) ≤ o.1.toInt ∧ o.1.toInt ≤ (1 : Int))) := t_d_X1_agreesWith_0 hT r_x0
theorem t_d_X4_joinRemark_96 {SZ S : ZS} {self64 : Nat → Nat → Int32 → Int32 → ZS → Option (Int32 × ZS)} {N64 : Nat} (hself64 : ∀ (x0 : Nat) (x1 : Nat) (x3 : Int32) (x5 : Int32) (S : ZS), ZT S → RP SZ S → (zK S x0 = 4) → (zK S x1 = 6) → (rc x1 ≤ 2) → ((0 : Int) ≤ x3.toInt ∧ x3.toInt ≤ (90000 : Int)) → ((0 : Int) ≤ x5.toInt ∧ x5.toInt ≤ (90101 : Int)) → (∀ b, zP S 6 x0 = some b → (zI S 1 b).toInt + x3.toInt - x5.toInt ≤ 200) → (90102 - x5.toInt) < (N64 : Int) → Ok (self64 x0 x1 x3 x5 S) (fun o => ZT o.2 ∧ RP SZ o.2 ∧ ((0 : Int) ≤ o.1.toInt ∧ o.1.toInt ≤ (1 : Int)))) {x0 : Nat} {x1 : Nat} {x3 : Int32} {x5 : Int32} {t0 : Int32} {t1 : Nat} (hT : ZT S) (hR : RP SZ S) (r_x0 : zK S x0 = 4) (r_x1 : zK S x1 = 6) (c_x1 : rc x1 ≤ 2) (r_x3 : (0 : Int) ≤ x3.toInt ∧ x3.toInt ≤ (90000 : Int)) (r_x5 : (0 : Int) ≤ x5.toInt ∧ x5.toInt ≤ (90101 : Int)) (r_t0 : (0 : Int) ≤ t0.toInt ∧ t0.toInt ≤ (65535 : Int)) (r_t1 : zK S t1 = 6) (c_t1 : rc t1 ≤ 0) (q0 : x5.toInt < x3.toInt) (q1 : zP S 6 x0 = some t1) (q2 : (zI S 1 t1).toInt + x3.toInt - x5.toInt ≤ 200) (m64 : (90102 - x5.toInt) ≤ (N64 : Int)) : Ok (d_X4_joinRemark_96 self64 x0 x1 x3 x5 t0 t1 S) (fun o => ZT o.2 ∧ RP SZ o.2 ∧ ((0 : Int) ≤ o.1.toInt ∧ o.1.toInt ≤ (1 : Int))) := by
  unfold d_X4_joinRemark_96
  have rl := rL_ge t1
  refine ok_chk r_t1 ?_
  have j15 := J61_0 hT r_t1 c_t1
  obtain ⟨⟨r2, S3⟩, h_r2, T_S3, B_S3, p_r2_0, p_r2_1⟩ := t_d_X6_put (x0 := t1) (x1 := t0) (SZ := S) hT (rp_0 S) r_t1 r_t0 (by omega) (by omega)
  replace T_S3 : ZT S3 := T_S3
  replace B_S3 : RP S S3 := B_S3
  have R_S3 : RP SZ S3 := rp_t hR B_S3
  dsimp only at p_r2_0 p_r2_1
  refine ok_cal2R h_r2 ?_
  have g_S3 := (fz_X6_put h_r2 hT.2.2.2.2.1).2.2
  refine ok_bnd (fun v6 e16 => ?_)
  have t_v6 : v6.toInt = x5.toInt + 1 := ti_add e16 rfl (show (1 : Int32).toInt = 1 from rfl) (by omega) (by omega)
  exact hself64 x0 x1 x3 v6 S3 T_S3 R_S3 ((g_S3 x0 (lt18 r_x0 (by decide))).1.trans r_x0) ((g_S3 x1 (lt18 r_x1 (by decide))).1.trans r_x1) c_x1 r_x3 (by omega) (fun b9 h9 => by rw [(g_S3 x0 (lt18 r_x0 (by decide))).2.2.2.1 6 (by rw [r_x0]; decide), q1] at h9; cases h9; omega) (by omega)
theorem t_d_X4_joinRemark_64s {SZ S : ZS} {self64 : Nat → Nat → Int32 → Int32 → ZS → Option (Int32 × ZS)} {N64 : Nat} (hself64 : ∀ (x0 : Nat) (x1 : Nat) (x3 : Int32) (x5 : Int32) (S : ZS), ZT S → RP SZ S → (zK S x0 = 4) → (zK S x1 = 6) → (rc x1 ≤ 2) → ((0 : Int) ≤ x3.toInt ∧ x3.toInt ≤ (90000 : Int)) → ((0 : Int) ≤ x5.toInt ∧ x5.toInt ≤ (90101 : Int)) → (∀ b, zP S 6 x0 = some b → (zI S 1 b).toInt + x3.toInt - x5.toInt ≤ 200) → (90102 - x5.toInt) < (N64 : Int) → Ok (self64 x0 x1 x3 x5 S) (fun o => ZT o.2 ∧ RP SZ o.2 ∧ ((0 : Int) ≤ o.1.toInt ∧ o.1.toInt ≤ (1 : Int)))) {x0 : Nat} {x1 : Nat} {x3 : Int32} {x5 : Int32} (hT : ZT S) (hR : RP SZ S) (r_x0 : zK S x0 = 4) (r_x1 : zK S x1 = 6) (c_x1 : rc x1 ≤ 2) (r_x3 : (0 : Int) ≤ x3.toInt ∧ x3.toInt ≤ (90000 : Int)) (r_x5 : (0 : Int) ≤ x5.toInt ∧ x5.toInt ≤ (90101 : Int)) (q0 : ∀ b, zP S 6 x0 = some b → (zI S 1 b).toInt + x3.toInt - x5.toInt ≤ 200) (m64 : (90102 - x5.toInt) ≤ (N64 : Int)) : Ok (d_X4_joinRemark_64s self64 x0 x1 x3 x5 S) (fun o => ZT o.2 ∧ RP SZ o.2 ∧ ((0 : Int) ≤ o.1.toInt ∧ o.1.toInt ≤ (1 : Int))) := by
  unfold d_X4_joinRemark_64s
  refine ok_if (fun c17 => ?_) (fun c17 => ?_)
  ·
    replace c17 := ti_leP (a := x3) (b := x5) c17 rfl rfl
    refine ok_chk (by decide) ?_
    exact ok_ret ⟨hT, hR, (show (0 : Int) ≤ (1 : Int32).toInt ∧ (1 : Int32).toInt ≤ (1 : Int) from (by decide))⟩
  ·
    replace c17 := ti_leN (a := x3) (b := x5) c17 rfl rfl
    refine ok_chk r_x0 ?_
    obtain ⟨b1, p_b1, k_b1, c_b1⟩ := T_4_6 hT r_x0
    have rl_b1 := rL_0 c_b1
    refine ok_calR p_b1 ?_
    have e9 := q0 b1 p_b1
    refine ok_chk r_x1 ?_
    have j18 := J61_2 hT r_x1 c_x1
    obtain ⟨r2, h_r2, p_r2⟩ := roz (t_f_X6_at (x0 := x1) (x1 := x5) hT r_x1)
    dsimp only at p_r2
    refine ok_calR h_r2 ?_
    refine ok_chk ⟨rfl, rfl⟩ ?_
    refine ok_if (fun c19 => ?_) (fun c19 => ?_)
    ·
      replace c19 := ti_eqP (a := r2) (b := (10 : Int32)) c19 rfl (show (10 : Int32).toInt = 10 from rfl)
      have j20 := J61_0 hT k_b1 c_b1
      exact t_d_X4_joinRemark_96 (S := S) hself64 (x0 := x0) (x1 := x1) (x3 := x3) (x5 := x5) (t0 := (32 : Int32)) (t1 := b1) hT hR r_x0 r_x1 c_x1 r_x3 r_x5 (by decide) k_b1 c_b1 (by have z0 : (32 : Int32).toInt = 32 := rfl; omega) p_b1 (by have z0 : (32 : Int32).toInt = 32 := rfl; omega) m64
    ·
      replace c19 := ti_eqN (a := r2) (b := (10 : Int32)) c19 rfl (show (10 : Int32).toInt = 10 from rfl)
      refine ok_chk r_x1 ?_
      obtain ⟨r3, h_r3, p_r3⟩ := roz (t_f_X6_at (x0 := x1) (x1 := x5) hT r_x1)
      dsimp only at p_r3
      refine ok_calR h_r3 ?_
      refine ok_chk ⟨rfl, rfl⟩ ?_
      have j21 := J61_0 hT k_b1 c_b1
      exact t_d_X4_joinRemark_96 (S := S) hself64 (x0 := x0) (x1 := x1) (x3 := x3) (x5 := x5) (t0 := r3) (t1 := b1) hT hR r_x0 r_x1 c_x1 r_x3 r_x5 (by omega) k_b1 c_b1 (by omega) p_b1 (by omega) m64
theorem t_d_X4_joinRemark_64 {SZ : ZS} : ∀ (n : Nat) (x0 : Nat) (x1 : Nat) (x3 : Int32) (x5 : Int32) (S : ZS), ZT S → RP SZ S → (zK S x0 = 4) → (zK S x1 = 6) → (rc x1 ≤ 2) → ((0 : Int) ≤ x3.toInt ∧ x3.toInt ≤ (90000 : Int)) → ((0 : Int) ≤ x5.toInt ∧ x5.toInt ≤ (90101 : Int)) → (∀ b, zP S 6 x0 = some b → (zI S 1 b).toInt + x3.toInt - x5.toInt ≤ 200) → (90102 - x5.toInt) < (n : Int) → Ok (d_X4_joinRemark_64  n x0 x1 x3 x5 S) (fun o => ZT o.2 ∧ RP SZ o.2 ∧ ((0 : Int) ≤ o.1.toInt ∧ o.1.toInt ≤ (1 : Int))) := by
  intro n
  induction n with
  | zero => intro x0 x1 x3 x5 S hT hR g0 g1 g2 g3 g4 g5  hm; exfalso; omega
  | succ n ih =>
    intro x0 x1 x3 x5 S hT hR g0 g1 g2 g3 g4 g5  hm
    exact t_d_X4_joinRemark_64s (N64 := n)  ih hT hR g0 g1 g2 g3 g4 g5  (by omega)
theorem t_d_X4_joinRemark_61 {SZ S : ZS} {x0 : Nat} {x1 : Nat} {x2 : Int32} {x3 : Int32} (hT : ZT S) (hR : RP SZ S) (r_x0 : zK S x0 = 4) (r_x1 : zK S x1 = 6) (c_x1 : rc x1 ≤ 2) (r_x2 : (0 : Int) ≤ x2.toInt ∧ x2.toInt ≤ (90101 : Int)) (r_x3 : (0 : Int) ≤ x3.toInt ∧ x3.toInt ≤ (90000 : Int)) (q0 : ∀ b, zP S 6 x0 = some b → (zI S 1 b).toInt + x3.toInt - x2.toInt ≤ 200) (q1 : x2.toInt < x3.toInt) : Ok (d_X4_joinRemark_61 x0 x1 x2 x3 S) (fun o => ZT o.2 ∧ RP SZ o.2 ∧ ((0 : Int) ≤ o.1.toInt ∧ o.1.toInt ≤ (1 : Int))) := by
  unfold d_X4_joinRemark_61
  exact t_d_X4_joinRemark_64   mFuel x0 x1 x3 x2 S hT hR r_x0 r_x1 c_x1 r_x3 r_x2 q0 (by show _ < ((200000 : Nat) : Int); omega)
theorem t_d_X4_joinRemark_22 {SZ S : ZS} {x0 : Nat} {x1 : Nat} {x2 : Int32} {x3 : Int32} {t0 : Int32} (hT : ZT S) (hR : RP SZ S) (r_x0 : zK S x0 = 4) (r_x1 : zK S x1 = 6) (c_x1 : rc x1 ≤ 2) (r_x2 : (0 : Int) ≤ x2.toInt ∧ x2.toInt ≤ (90101 : Int)) (r_x3 : (0 : Int) ≤ x3.toInt ∧ x3.toInt ≤ (90000 : Int)) (r_t0 : (0 : Int) ≤ t0.toInt ∧ t0.toInt ≤ (1 : Int)) (q0 : x2.toInt < x3.toInt) : Ok (d_X4_joinRemark_22 x0 x1 x2 x3 t0 S) (fun o => ZT o.2 ∧ RP SZ o.2 ∧ ((0 : Int) ≤ o.1.toInt ∧ o.1.toInt ≤ (1 : Int))) := by
  unfold d_X4_joinRemark_22
  refine ok_chk r_x0 ?_
  obtain ⟨b1, p_b1, k_b1, c_b1⟩ := T_4_6 hT r_x0
  have rl_b1 := rL_0 c_b1
  refine ok_calR p_b1 ?_
  refine ok_chk k_b1 ?_
  have j22 := J61_0 hT k_b1 c_b1
  obtain ⟨r2, h_r2, p_r2⟩ := roz (t_f_X6_size (x0 := b1) hT k_b1)
  dsimp only at p_r2
  refine ok_calR h_r2 ?_
  have s_r2 : r2.toInt = (zI S 1 b1).toInt := congrArg Int32.toInt p_r2.2
  refine ok_chk ⟨rfl, rfl⟩ ?_
  refine ok_bnd (fun v3 e23 => ?_)
  have t_v3 : v3.toInt = r2.toInt + t0.toInt := ti_add e23 rfl rfl (by omega) (by omega)
  refine ok_bnd (fun v4 e24 => ?_)
  have t_v4 : v4.toInt = v3.toInt + x3.toInt := ti_add e24 rfl rfl (by omega) (by omega)
  refine ok_bnd (fun v5 e25 => ?_)
  have t_v5 : v5.toInt = v4.toInt - x2.toInt := ti_sub e25 rfl rfl (by omega) (by omega)
  refine ok_if (fun c26 => ?_) (fun c26 => ?_)
  ·
    replace c26 := ti_leP (a := v5) (b := (200 : Int32)) c26 rfl (show (200 : Int32).toInt = 200 from rfl)
    refine ok_if (fun c27 => ?_) (fun c27 => ?_)
    ·
      replace c27 := ti_eqP (a := t0) (b := (1 : Int32)) c27 rfl (show (1 : Int32).toInt = 1 from rfl)
      refine ok_chk r_x0 ?_
      refine ok_calR p_b1 ?_
      refine ok_chk k_b1 ?_
      have zl28 : (32 : Int32).toInt = 32 := rfl
      obtain ⟨⟨r8, S9⟩, h_r8, T_S9, B_S9, p_r8_0, p_r8_1⟩ := t_d_X6_put (x0 := b1) (x1 := (32 : Int32)) (SZ := S) hT (rp_0 S) k_b1 (by decide) (by have z0 : (32 : Int32).toInt = 32 := rfl; omega) (by have z0 : (32 : Int32).toInt = 32 := rfl; omega)
      replace T_S9 : ZT S9 := T_S9
      replace B_S9 : RP S S9 := B_S9
      have R_S9 : RP SZ S9 := rp_t hR B_S9
      dsimp only at p_r8_0 p_r8_1
      refine ok_cal2R h_r8 ?_
      have g_S9 := (fz_X6_put h_r8 hT.2.2.2.2.1).2.2
      exact t_d_X4_joinRemark_61 (S := S9)  (x0 := x0) (x1 := x1) (x2 := x2) (x3 := x3) T_S9 R_S9 ((g_S9 x0 (lt18 r_x0 (by decide))).1.trans r_x0) ((g_S9 x1 (lt18 r_x1 (by decide))).1.trans r_x1) c_x1 r_x2 r_x3 (fun b9 h9 => by rw [(g_S9 x0 (lt18 r_x0 (by decide))).2.2.2.1 6 (by rw [r_x0]; decide), p_b1] at h9; cases h9; omega) q0
    ·
      replace c27 := ti_eqN (a := t0) (b := (1 : Int32)) c27 rfl (show (1 : Int32).toInt = 1 from rfl)
      exact t_d_X4_joinRemark_61 (S := S)  (x0 := x0) (x1 := x1) (x2 := x2) (x3 := x3) hT hR r_x0 r_x1 c_x1 r_x2 r_x3 (fun b9 h9 => by rw [p_b1] at h9; cases h9; omega) q0
  ·
    replace c26 := ti_leN (a := v5) (b := (200 : Int32)) c26 rfl (show (200 : Int32).toInt = 200 from rfl)
    refine ok_chk (by decide) ?_
    exact ok_ret ⟨hT, hR, (show (0 : Int) ≤ (0 : Int32).toInt ∧ (0 : Int32).toInt ≤ (1 : Int) from (by decide))⟩
theorem t_d_X4_joinRemark_0 {SZ S : ZS} {x0 : Nat} {x1 : Nat} {x2 : Int32} {x3 : Int32} (hT : ZT S) (hR : RP SZ S) (r_x0 : zK S x0 = 4) (r_x1 : zK S x1 = 6) (c_x1 : rc x1 ≤ 2) (r_x2 : (0 : Int) ≤ x2.toInt ∧ x2.toInt ≤ (90101 : Int)) (r_x3 : (0 : Int) ≤ x3.toInt ∧ x3.toInt ≤ (90000 : Int)) : Ok (d_X4_joinRemark_0 x0 x1 x2 x3 S) (fun o => ZT o.2 ∧ RP SZ o.2 ∧ ((0 : Int) ≤ o.1.toInt ∧ o.1.toInt ≤ (1 : Int))) := by
  unfold d_X4_joinRemark_0
  refine ok_if (fun c29 => ?_) (fun c29 => ?_)
  ·
    replace c29 := ti_ltP (a := x2) (b := x3) c29 rfl rfl
    refine ok_chk r_x0 ?_
    obtain ⟨b1, p_b1, k_b1, c_b1⟩ := T_4_6 hT r_x0
    have rl_b1 := rL_0 c_b1
    refine ok_calR p_b1 ?_
    refine ok_chk k_b1 ?_
    have j30 := J61_0 hT k_b1 c_b1
    obtain ⟨r2, h_r2, p_r2⟩ := roz (t_f_X6_size (x0 := b1) hT k_b1)
    dsimp only at p_r2
    refine ok_calR h_r2 ?_
    have s_r2 : r2.toInt = (zI S 1 b1).toInt := congrArg Int32.toInt p_r2.2
    refine ok_chk ⟨rfl, rfl⟩ ?_
    refine ok_if (fun c31 => ?_) (fun c31 => ?_)
    ·
      replace c31 := ti_leP (a := r2) (b := (0 : Int32)) c31 rfl (show (0 : Int32).toInt = 0 from rfl)
      exact t_d_X4_joinRemark_22 (S := S)  (x0 := x0) (x1 := x1) (x2 := x2) (x3 := x3) (t0 := (0 : Int32)) hT hR r_x0 r_x1 c_x1 r_x2 r_x3 (by decide) (by have z0 : (0 : Int32).toInt = 0 := rfl; omega)
    ·
      replace c31 := ti_leN (a := r2) (b := (0 : Int32)) c31 rfl (show (0 : Int32).toInt = 0 from rfl)
      exact t_d_X4_joinRemark_22 (S := S)  (x0 := x0) (x1 := x1) (x2 := x2) (x3 := x3) (t0 := (1 : Int32)) hT hR r_x0 r_x1 c_x1 r_x2 r_x3 (by decide) (by have z0 : (1 : Int32).toInt = 1 := rfl; omega)
  ·
    replace c29 := ti_ltN (a := x2) (b := x3) c29 rfl rfl
    refine ok_chk (by decide) ?_
    exact ok_ret ⟨hT, hR, (show (0 : Int) ≤ (1 : Int32).toInt ∧ (1 : Int32).toInt ≤ (1 : Int) from (by decide))⟩
theorem t_d_X4_joinRemark {SZ S : ZS} {x0 : Nat} {x1 : Nat} {x2 : Int32} {x3 : Int32} (hT : ZT S) (hR : RP SZ S) (r_x0 : zK S x0 = 4) (r_x1 : zK S x1 = 6) (c_x1 : rc x1 ≤ 2) (r_x2 : (0 : Int) ≤ x2.toInt ∧ x2.toInt ≤ (90101 : Int)) (r_x3 : (0 : Int) ≤ x3.toInt ∧ x3.toInt ≤ (90000 : Int)) : Ok (d_X4_joinRemark x0 x1 x2 x3 S) (fun o => ZT o.2 ∧ RP SZ o.2 ∧ ((0 : Int) ≤ o.1.toInt ∧ o.1.toInt ≤ (1 : Int))) := t_d_X4_joinRemark_0 hT hR r_x0 r_x1 c_x1 r_x2 r_x3
theorem t_d_X2_readRemark_91 {SZ S : ZS} {x0 : Nat} {x1 : Nat} {x2 : Int32} {x5 : Int32} (hT : ZT S) (hR : RP SZ S) (r_x0 : zK S x0 = 2) (r_x1 : zK S x1 = 4) (r_x2 : (0 : Int) ≤ x2.toInt ∧ x2.toInt ≤ (90000 : Int)) (r_x5 : (0 : Int) ≤ x5.toInt ∧ x5.toInt ≤ (90000 : Int)) : Ok (d_X2_readRemark_91 x0 x1 x2 x5 S) (fun o => ZT o.2 ∧ RP SZ o.2 ∧ ((0 : Int) ≤ o.1.toInt ∧ o.1.toInt ≤ (1 : Int))) := by
  unfold d_X2_readRemark_91
  have j32 := J_2_4 hT r_x0
  refine ok_chk r_x0 ?_
  obtain ⟨b1, p_b1, k_b1, c_b1⟩ := T_2_2 hT r_x0
  have rl_b1 := rL_ge b1
  refine ok_calR p_b1 ?_
  refine ok_bnd (fun v2 e33 => ?_)
  have t_v2 : v2.toInt = x2.toInt + 1 := ti_add e33 rfl (show (1 : Int32).toInt = 1 from rfl) (by omega) (by omega)
  refine ok_chk r_x1 ?_
  have j34 := J61_2 hT k_b1 c_b1
  obtain ⟨⟨r4, S5⟩, h_r4, T_S5, B_S5, p_r4⟩ := t_d_X4_joinRemark (x0 := x1) (x1 := b1) (x2 := v2) (x3 := x5) (SZ := S) hT (rp_0 S) r_x1 k_b1 c_b1 (by omega) r_x5
  replace T_S5 : ZT S5 := T_S5
  replace B_S5 : RP S S5 := B_S5
  have R_S5 : RP SZ S5 := rp_t hR B_S5
  dsimp only at p_r4
  refine ok_cal2R h_r4 ?_
  have g_S5 := (fz_X4_joinRemark h_r4 hT.2.2.2.2.1).2.2
  have : (zI S5 4 x0).toInt = (zI S 4 x0).toInt := congrArg Int32.toInt ((g_S5 x0 (lt18 r_x0 (by decide))).2.2.1 4 (by rw [r_x0]; decide))
  refine ok_if (fun c35 => ?_) (fun c35 => ?_)
  ·
    replace c35 := ti_eqP (a := r4) (b := (0 : Int32)) c35 rfl (show (0 : Int32).toInt = 0 from rfl)
    refine ok_chk ((g_S5 x0 (lt18 r_x0 (by decide))).1.trans r_x0) ?_
    obtain ⟨⟨r13, S13⟩, h_r13, T_S13, A_S13, p_r13⟩ := t_f_X2_refuse (x0 := x0) (x1 := (8 : Int32)) (x2 := x2) (SZ := S5) T_S5 (a7_0 S5) ((g_S5 x0 (lt18 r_x0 (by decide))).1.trans r_x0)
    replace T_S13 : ZT S13 := T_S13
    replace A_S13 : A7 S5 S13 := A_S13
    dsimp only at p_r13
    refine ok_calR h_r13 ?_
    have q_S13 := fq_X2_refuse h_r13
    have kE_S13 : zK S13 = zK S5 := q_S13.2.2.1
    have nE_S13 : zN S13 = zN S5 := q_S13.2.2.2.1
    have R_S13 : RP SZ S13 := rp_f R_S5 T_S5 q_S13 (fz_X2_refuse h_r13) (by decide) A_S13
    have : (zI S13 4 x0).toInt = (zI S5 4 x0).toInt := congrArg Int32.toInt ((((fz_X2_refuse h_r13) T_S5.2.2.2.2.1).2.2 x0 (by rw [((g_S5 x0 (lt18 r_x0 (by decide))).1.trans r_x0)]; decide)).2.2.1 4 (by rw [((g_S5 x0 (lt18 r_x0 (by decide))).1.trans r_x0)]; decide))
    refine ok_chk ⟨q_S13.1, q_S13.2.1⟩ ?_
    refine ok_chk (nar_b (v := r13) (by omega) (by omega)) ?_
    exact ok_ret ⟨T_S13, R_S13, (show (0 : Int) ≤ r13.toInt ∧ r13.toInt ≤ (1 : Int) from (by omega))⟩
  ·
    replace c35 := ti_eqN (a := r4) (b := (0 : Int32)) c35 rfl (show (0 : Int32).toInt = 0 from rfl)
    refine ok_bnd (fun v8 e36 => ?_)
    have t_v8 : v8.toInt = x5.toInt + 1 := ti_add e36 rfl (show (1 : Int32).toInt = 1 from rfl) (by omega) (by omega)
    refine ok_chk ((g_S5 x0 (lt18 r_x0 (by decide))).1.trans r_x0) ?_
    obtain ⟨b9, p_b9, k_b9, c_b9⟩ := T_2_2 T_S5 ((g_S5 x0 (lt18 r_x0 (by decide))).1.trans r_x0)
    have rl_b9 := rL_ge b9
    refine ok_calR p_b9 ?_
    refine ok_chk k_b9 ?_
    have j37 := J61_2 T_S5 k_b9 c_b9
    obtain ⟨r10, h_r10, p_r10⟩ := roz (t_f_X6_size (x0 := b9) T_S5 k_b9)
    dsimp only at p_r10
    refine ok_calR h_r10 ?_
    have s_r10 : r10.toInt = (zI S5 1 b9).toInt := congrArg Int32.toInt p_r10.2
    refine ok_chk ⟨rfl, rfl⟩ ?_
    refine ok_bnd (fun v11 e38 => ?_)
    have t_v11 := ite_b (a := r10) (b := v8) (c := r10) (d := v8) e38 rfl rfl rfl rfl
    refine ok_chk ((g_S5 x0 (lt18 r_x0 (by decide))).1.trans r_x0) ?_
    refine ok_bnd (fun S12 e39 => ?_)
    have T_S12 : ZT S12 := e39.symm ▸ zt_I T_S5 ((g_S5 x0 (lt18 r_x0 (by decide))).1.trans r_x0) (by decide) (show (0 : Int) ≤ v11.toInt ∧ v11.toInt ≤ (90100 : Int) from (by omega))
    have kE_S12 : zK S12 = zK S5 := by rw [e39]; rfl
    have nE_S12 : zN S12 = zN S5 := by rw [e39]; rfl
    have R_S12 : RP SZ S12 := rp_I R_S5 T_S5 ((g_S5 x0 (lt18 r_x0 (by decide))).1.trans r_x0) e39 (by decide)
    have : (zI S12 4 x0).toInt = v11.toInt := by rw [e39]; exact (congrArg Int32.toInt (zI_self _ _ _ _)).trans rfl
    refine ok_chk (by decide) ?_
    exact ok_ret ⟨T_S12, R_S12, (show (0 : Int) ≤ (1 : Int32).toInt ∧ (1 : Int32).toInt ≤ (1 : Int) from (by decide))⟩
theorem t_d_X2_readRemark_83 {SZ S : ZS} {x0 : Nat} {x4 : Int32} (hT : ZT S) (hR : RP SZ S) (r_x0 : zK S x0 = 2) (r_x4 : (0 : Int) ≤ x4.toInt ∧ x4.toInt ≤ (90000 : Int)) : Ok (d_X2_readRemark_83 x0 x4 S) (fun o => ZT o.2 ∧ RP SZ o.2 ∧ ((0 : Int) ≤ o.1.toInt ∧ o.1.toInt ≤ (1 : Int))) := by
  unfold d_X2_readRemark_83
  have j40 := J_2_4 hT r_x0
  refine ok_chk r_x0 ?_
  obtain ⟨⟨r1, S1⟩, h_r1, T_S1, A_S1, p_r1⟩ := t_f_X2_refuse (x0 := x0) (x1 := (1 : Int32)) (x2 := x4) (SZ := S) hT (a7_0 S) r_x0
  replace T_S1 : ZT S1 := T_S1
  replace A_S1 : A7 S S1 := A_S1
  dsimp only at p_r1
  refine ok_calR h_r1 ?_
  have q_S1 := fq_X2_refuse h_r1
  have kE_S1 : zK S1 = zK S := q_S1.2.2.1
  have nE_S1 : zN S1 = zN S := q_S1.2.2.2.1
  have R_S1 : RP SZ S1 := rp_f hR hT q_S1 (fz_X2_refuse h_r1) (by decide) A_S1
  have : (zI S1 4 x0).toInt = (zI S 4 x0).toInt := congrArg Int32.toInt ((((fz_X2_refuse h_r1) hT.2.2.2.2.1).2.2 x0 (by rw [r_x0]; decide)).2.2.1 4 (by rw [r_x0]; decide))
  refine ok_chk ⟨q_S1.1, q_S1.2.1⟩ ?_
  refine ok_chk (nar_b (v := r1) (by omega) (by omega)) ?_
  exact ok_ret ⟨T_S1, R_S1, (show (0 : Int) ≤ r1.toInt ∧ r1.toInt ≤ (1 : Int) from (by omega))⟩
theorem t_d_X2_readRemark_55 {SZ S : ZS} {x0 : Nat} {x1 : Nat} {x2 : Int32} {x3 : Int32} {x4 : Int32} {t0 : Int32} (hT : ZT S) (hR : RP SZ S) (r_x0 : zK S x0 = 2) (r_x1 : zK S x1 = 4) (r_x2 : (0 : Int) ≤ x2.toInt ∧ x2.toInt ≤ (90000 : Int)) (r_x3 : (0 : Int) ≤ x3.toInt ∧ x3.toInt ≤ (1 : Int)) (r_x4 : (0 : Int) ≤ x4.toInt ∧ x4.toInt ≤ (90000 : Int)) (r_t0 : (0 : Int) ≤ t0.toInt ∧ t0.toInt ≤ (90000 : Int)) : Ok (d_X2_readRemark_55 x0 x1 x2 x3 x4 t0 S) (fun o => ZT o.2 ∧ RP SZ o.2 ∧ ((0 : Int) ≤ o.1.toInt ∧ o.1.toInt ≤ (1 : Int))) := by
  unfold d_X2_readRemark_55
  have j41 := J_2_4 hT r_x0
  refine ok_if (fun c42 => ?_) (fun c42 => ?_)
  ·
    replace c42 := ti_eqP (a := x3) (b := (0 : Int32)) c42 rfl (show (0 : Int32).toInt = 0 from rfl)
    refine ok_if (fun c43 => ?_) (fun c43 => ?_)
    ·
      replace c43 := ti_leP (a := t0) (b := x4) c43 rfl rfl
      exact t_d_X2_readRemark_91 (S := S)  (x0 := x0) (x1 := x1) (x2 := x2) (x5 := t0) hT hR r_x0 r_x1 r_x2 r_t0
    ·
      replace c43 := ti_leN (a := t0) (b := x4) c43 rfl rfl
      exact t_d_X2_readRemark_83 (S := S)  (x0 := x0) (x4 := x4) hT hR r_x0 r_x4
  ·
    replace c42 := ti_eqN (a := x3) (b := (0 : Int32)) c42 rfl (show (0 : Int32).toInt = 0 from rfl)
    refine ok_chk r_x0 ?_
    obtain ⟨b1, p_b1, k_b1, c_b1⟩ := T_2_2 hT r_x0
    have rl_b1 := rL_ge b1
    refine ok_calR p_b1 ?_
    refine ok_chk k_b1 ?_
    have j44 := J61_2 hT k_b1 c_b1
    obtain ⟨r2, h_r2, p_r2⟩ := roz (t_f_X6_size (x0 := b1) hT k_b1)
    dsimp only at p_r2
    refine ok_calR h_r2 ?_
    have s_r2 : r2.toInt = (zI S 1 b1).toInt := congrArg Int32.toInt p_r2.2
    refine ok_chk ⟨rfl, rfl⟩ ?_
    refine ok_if (fun c45 => ?_) (fun c45 => ?_)
    ·
      replace c45 := ti_eqP (a := x4) (b := r2) c45 rfl rfl
      exact t_d_X2_readRemark_83 (S := S)  (x0 := x0) (x4 := x4) hT hR r_x0 r_x4
    ·
      replace c45 := ti_eqN (a := x4) (b := r2) c45 rfl rfl
      exact t_d_X2_readRemark_91 (S := S)  (x0 := x0) (x1 := x1) (x2 := x2) (x5 := t0) hT hR r_x0 r_x1 r_x2 r_t0
theorem t_d_X2_readRemark_23 {SZ S : ZS} {x0 : Nat} {x1 : Nat} {x2 : Int32} {t0 : Int32} (hT : ZT S) (hR : RP SZ S) (r_x0 : zK S x0 = 2) (r_x1 : zK S x1 = 4) (r_x2 : (0 : Int) ≤ x2.toInt ∧ x2.toInt ≤ (90000 : Int)) (r_t0 : (0 : Int) ≤ t0.toInt ∧ t0.toInt ≤ (1 : Int)) : Ok (d_X2_readRemark_23 x0 x1 x2 t0 S) (fun o => ZT o.2 ∧ RP SZ o.2 ∧ ((0 : Int) ≤ o.1.toInt ∧ o.1.toInt ≤ (1 : Int))) := by
  unfold d_X2_readRemark_23
  have j46 := J_2_4 hT r_x0
  refine ok_chk r_x0 ?_
  obtain ⟨b1, p_b1, k_b1, c_b1⟩ := T_2_2 hT r_x0
  have rl_b1 := rL_ge b1
  refine ok_calR p_b1 ?_
  refine ok_chk k_b1 ?_
  have j47 := J61_2 hT k_b1 c_b1
  obtain ⟨r2, h_r2, p_r2⟩ := roz (t_f_X6_indexOf (x0 := b1) (x1 := (125 : Int32)) (x2 := x2) hT k_b1 (by have z0 : (125 : Int32).toInt = 125 := rfl; omega))
  dsimp only at p_r2
  refine ok_calR h_r2 ?_
  refine ok_chk ⟨rfl, rfl⟩ ?_
  refine ok_if (fun c48 => ?_) (fun c48 => ?_)
  ·
    replace c48 := ti_eqP (a := t0) (b := (0 : Int32)) c48 rfl (show (0 : Int32).toInt = 0 from rfl)
    refine ok_chk r_x0 ?_
    refine ok_calR p_b1 ?_
    refine ok_chk k_b1 ?_
    obtain ⟨r4, h_r4, p_r4⟩ := roz (t_f_X6_indexOf (x0 := b1) (x1 := (10 : Int32)) (x2 := x2) hT k_b1 (by have z0 : (10 : Int32).toInt = 10 := rfl; omega))
    dsimp only at p_r4
    refine ok_calR h_r4 ?_
    refine ok_chk ⟨rfl, rfl⟩ ?_
    exact t_d_X2_readRemark_55 (S := S)  (x0 := x0) (x1 := x1) (x2 := x2) (x3 := t0) (x4 := r2) (t0 := r4) hT hR r_x0 r_x1 r_x2 r_t0 (by omega) (by omega)
  ·
    replace c48 := ti_eqN (a := t0) (b := (0 : Int32)) c48 rfl (show (0 : Int32).toInt = 0 from rfl)
    exact t_d_X2_readRemark_55 (S := S)  (x0 := x0) (x1 := x1) (x2 := x2) (x3 := t0) (x4 := r2) (t0 := r2) hT hR r_x0 r_x1 r_x2 r_t0 (by omega) (by omega)
theorem t_d_X2_readRemark_0 {SZ S : ZS} {x0 : Nat} {x1 : Nat} (hT : ZT S) (hR : RP SZ S) (r_x0 : zK S x0 = 2) (r_x1 : zK S x1 = 4) (q0 : (zI S 4 x0).toInt ≤ 90000) : Ok (d_X2_readRemark_0 x0 x1 S) (fun o => ZT o.2 ∧ RP SZ o.2 ∧ ((0 : Int) ≤ o.1.toInt ∧ o.1.toInt ≤ (1 : Int))) := by
  unfold d_X2_readRemark_0
  have j49 := J_2_4 hT r_x0
  refine ok_chk r_x0 ?_
  refine ok_chk r_x0 ?_
  obtain ⟨b1, p_b1, k_b1, c_b1⟩ := T_2_2 hT r_x0
  have rl_b1 := rL_ge b1
  refine ok_calR p_b1 ?_
  refine ok_chk k_b1 ?_
  have j50 := J61_2 hT k_b1 c_b1
  obtain ⟨r2, h_r2, p_r2⟩ := roz (t_f_X6_at (x0 := b1) (x1 := (zI S 4 x0)) hT k_b1)
  dsimp only at p_r2
  refine ok_calR h_r2 ?_
  refine ok_chk ⟨rfl, rfl⟩ ?_
  refine ok_if (fun c51 => ?_) (fun c51 => ?_)
  ·
    replace c51 := ti_eqP (a := r2) (b := (123 : Int32)) c51 rfl (show (123 : Int32).toInt = 123 from rfl)
    exact t_d_X2_readRemark_23 (S := S)  (x0 := x0) (x1 := x1) (x2 := (zI S 4 x0)) (t0 := (1 : Int32)) hT hR r_x0 r_x1 (by omega) (by decide)
  ·
    replace c51 := ti_eqN (a := r2) (b := (123 : Int32)) c51 rfl (show (123 : Int32).toInt = 123 from rfl)
    exact t_d_X2_readRemark_23 (S := S)  (x0 := x0) (x1 := x1) (x2 := (zI S 4 x0)) (t0 := (0 : Int32)) hT hR r_x0 r_x1 (by omega) (by decide)
theorem t_d_X2_readRemark {SZ S : ZS} {x0 : Nat} {x1 : Nat} (hT : ZT S) (hR : RP SZ S) (r_x0 : zK S x0 = 2) (r_x1 : zK S x1 = 4) (q0 : (zI S 4 x0).toInt ≤ 90000) : Ok (d_X2_readRemark x0 x1 S) (fun o => ZT o.2 ∧ RP SZ o.2 ∧ ((0 : Int) ≤ o.1.toInt ∧ o.1.toInt ≤ (1 : Int))) := t_d_X2_readRemark_0 hT hR r_x0 r_x1 q0
theorem t_d_X2_readRemarks_51 {SZ S : ZS} {self8 : Nat → Nat → Int32 → Int32 → ZS → Option (Int32 × ZS)} {N8 : Nat} (hself8 : ∀ (x0 : Nat) (x1 : Nat) (x2 : Int32) (x3 : Int32) (S : ZS), ZT S → RP SZ S → (zK S x0 = 2) → (zK S x1 = 4) → ((0 : Int) ≤ x2.toInt ∧ x2.toInt ≤ (1 : Int)) → ((0 : Int) ≤ x3.toInt ∧ x3.toInt ≤ (2000 : Int)) → (2001 - x3.toInt) < (N8 : Int) → Ok (self8 x0 x1 x2 x3 S) (fun o => ZT o.2 ∧ RP SZ o.2 ∧ ((0 : Int) ≤ o.1.toInt ∧ o.1.toInt ≤ (1 : Int)))) {x0 : Nat} {x1 : Nat} {x3 : Int32} (hT : ZT S) (hR : RP SZ S) (r_x0 : zK S x0 = 2) (r_x1 : zK S x1 = 4) (r_x3 : (0 : Int) ≤ x3.toInt ∧ x3.toInt ≤ (1999 : Int)) (q0 : (zI S 4 x0).toInt ≤ 90000) (m8 : (2001 - x3.toInt) ≤ (N8 : Int)) : Ok (d_X2_readRemarks_51 self8 x0 x1 x3 S) (fun o => ZT o.2 ∧ RP SZ o.2 ∧ ((0 : Int) ≤ o.1.toInt ∧ o.1.toInt ≤ (1 : Int))) := by
  unfold d_X2_readRemarks_51
  have j52 := J_2_4 hT r_x0
  refine ok_chk r_x0 ?_
  obtain ⟨⟨r2, S3⟩, h_r2, T_S3, B_S3, p_r2⟩ := t_d_X2_readRemark (x0 := x0) (x1 := x1) (SZ := S) hT (rp_0 S) r_x0 r_x1 q0
  replace T_S3 : ZT S3 := T_S3
  replace B_S3 : RP S S3 := B_S3
  have R_S3 : RP SZ S3 := rp_t hR B_S3
  dsimp only at p_r2
  refine ok_cal2R h_r2 ?_
  have g_S3 := (fz_X2_readRemark h_r2 hT.2.2.2.2.1).2.2
  refine ok_chk ((g_S3 x0 (lt18 r_x0 (by decide))).1.trans r_x0) ?_
  obtain ⟨⟨r6, S6⟩, h_r6, T_S6, A_S6, -⟩ := t_f_X2_skipBlanks (x0 := x0) (SZ := S3) T_S3 (a7_0 S3) ((g_S3 x0 (lt18 r_x0 (by decide))).1.trans r_x0)
  replace T_S6 : ZT S6 := T_S6
  replace A_S6 : A7 S3 S6 := A_S6
  refine ok_calR h_r6 ?_
  have q_S6 := fq_X2_skipBlanks h_r6
  have kE_S6 : zK S6 = zK S3 := q_S6.2.2.1
  have nE_S6 : zN S6 = zN S3 := q_S6.2.2.2.1
  have R_S6 : RP SZ S6 := rp_f R_S3 T_S3 q_S6 (fz_X2_skipBlanks h_r6) (by decide) A_S6
  refine ok_chk ⟨q_S6.1, q_S6.2.1⟩ ?_
  refine ok_bnd (fun v7 e53 => ?_)
  have t_v7 : v7.toInt = x3.toInt + 1 := ti_add e53 rfl (show (1 : Int32).toInt = 1 from rfl) (by omega) (by omega)
  exact hself8 x0 x1 r2 v7 S6 T_S6 R_S6 ((congrFun kE_S6 x0).trans ((g_S3 x0 (lt18 r_x0 (by decide))).1.trans r_x0)) ((congrFun kE_S6 x1).trans ((g_S3 x1 (lt18 r_x1 (by decide))).1.trans r_x1)) (by omega) (by omega) (by omega)
theorem t_d_X2_readRemarks_8s {SZ S : ZS} {self8 : Nat → Nat → Int32 → Int32 → ZS → Option (Int32 × ZS)} {N8 : Nat} (hself8 : ∀ (x0 : Nat) (x1 : Nat) (x2 : Int32) (x3 : Int32) (S : ZS), ZT S → RP SZ S → (zK S x0 = 2) → (zK S x1 = 4) → ((0 : Int) ≤ x2.toInt ∧ x2.toInt ≤ (1 : Int)) → ((0 : Int) ≤ x3.toInt ∧ x3.toInt ≤ (2000 : Int)) → (2001 - x3.toInt) < (N8 : Int) → Ok (self8 x0 x1 x2 x3 S) (fun o => ZT o.2 ∧ RP SZ o.2 ∧ ((0 : Int) ≤ o.1.toInt ∧ o.1.toInt ≤ (1 : Int)))) {x0 : Nat} {x1 : Nat} {x2 : Int32} {x3 : Int32} (hT : ZT S) (hR : RP SZ S) (r_x0 : zK S x0 = 2) (r_x1 : zK S x1 = 4) (r_x2 : (0 : Int) ≤ x2.toInt ∧ x2.toInt ≤ (1 : Int)) (r_x3 : (0 : Int) ≤ x3.toInt ∧ x3.toInt ≤ (2000 : Int)) (m8 : (2001 - x3.toInt) ≤ (N8 : Int)) : Ok (d_X2_readRemarks_8s self8 x0 x1 x2 x3 S) (fun o => ZT o.2 ∧ RP SZ o.2 ∧ ((0 : Int) ≤ o.1.toInt ∧ o.1.toInt ≤ (1 : Int))) := by
  unfold d_X2_readRemarks_8s
  have j54 := J_2_4 hT r_x0
  refine ok_if (fun c55 => ?_) (fun c55 => ?_)
  ·
    replace c55 := ti_leP (a := (2000 : Int32)) (b := x3) c55 (show (2000 : Int32).toInt = 2000 from rfl) rfl
    unfold d_X2_readRemarks_67
    refine ok_chk (nar_b (v := x2) (by omega) (by omega)) ?_
    exact ok_ret ⟨hT, hR, (show (0 : Int) ≤ x2.toInt ∧ x2.toInt ≤ (1 : Int) from (by omega))⟩
  ·
    replace c55 := ti_leN (a := (2000 : Int32)) (b := x3) c55 (show (2000 : Int32).toInt = 2000 from rfl) rfl
    refine ok_if (fun c56 => ?_) (fun c56 => ?_)
    ·
      replace c56 := ti_eqP (a := x2) (b := (0 : Int32)) c56 rfl (show (0 : Int32).toInt = 0 from rfl)
      unfold d_X2_readRemarks_67
      refine ok_chk (nar_b (v := x2) (by omega) (by omega)) ?_
      exact ok_ret ⟨hT, hR, (show (0 : Int) ≤ x2.toInt ∧ x2.toInt ≤ (1 : Int) from (by omega))⟩
    ·
      replace c56 := ti_eqN (a := x2) (b := (0 : Int32)) c56 rfl (show (0 : Int32).toInt = 0 from rfl)
      refine ok_chk r_x0 ?_
      obtain ⟨b1, p_b1, k_b1, c_b1⟩ := T_2_2 hT r_x0
      have rl_b1 := rL_ge b1
      refine ok_calR p_b1 ?_
      refine ok_chk r_x0 ?_
      refine ok_chk k_b1 ?_
      have j57 := J61_2 hT k_b1 c_b1
      obtain ⟨r2, h_r2, p_r2⟩ := roz (t_f_X6_at (x0 := b1) (x1 := (zI S 4 x0)) hT k_b1)
      dsimp only at p_r2
      refine ok_calR h_r2 ?_
      refine ok_chk ⟨rfl, rfl⟩ ?_
      refine ok_if (fun c58 => ?_) (fun c58 => ?_)
      ·
        replace c58 := ti_eqP (a := r2) (b := (123 : Int32)) c58 rfl (show (123 : Int32).toInt = 123 from rfl)
        exact t_d_X2_readRemarks_51 (S := S) hself8 (x0 := x0) (x1 := x1) (x3 := x3) hT hR r_x0 r_x1 (by omega) (by omega) m8
      ·
        replace c58 := ti_eqN (a := r2) (b := (123 : Int32)) c58 rfl (show (123 : Int32).toInt = 123 from rfl)
        refine ok_chk r_x0 ?_
        refine ok_calR p_b1 ?_
        refine ok_chk r_x0 ?_
        refine ok_chk k_b1 ?_
        obtain ⟨r4, h_r4, p_r4⟩ := roz (t_f_X6_at (x0 := b1) (x1 := (zI S 4 x0)) hT k_b1)
        dsimp only at p_r4
        refine ok_calR h_r4 ?_
        refine ok_chk ⟨rfl, rfl⟩ ?_
        refine ok_if (fun c59 => ?_) (fun c59 => ?_)
        ·
          replace c59 := ti_eqP (a := r4) (b := (59 : Int32)) c59 rfl (show (59 : Int32).toInt = 59 from rfl)
          exact t_d_X2_readRemarks_51 (S := S) hself8 (x0 := x0) (x1 := x1) (x3 := x3) hT hR r_x0 r_x1 (by omega) (by omega) m8
        ·
          replace c59 := ti_eqN (a := r4) (b := (59 : Int32)) c59 rfl (show (59 : Int32).toInt = 59 from rfl)
          unfold d_X2_readRemarks_67
          refine ok_chk (nar_b (v := x2) (by omega) (by omega)) ?_
          exact ok_ret ⟨hT, hR, (show (0 : Int) ≤ x2.toInt ∧ x2.toInt ≤ (1 : Int) from (by omega))⟩
theorem t_d_X2_readRemarks_8 {SZ : ZS} : ∀ (n : Nat) (x0 : Nat) (x1 : Nat) (x2 : Int32) (x3 : Int32) (S : ZS), ZT S → RP SZ S → (zK S x0 = 2) → (zK S x1 = 4) → ((0 : Int) ≤ x2.toInt ∧ x2.toInt ≤ (1 : Int)) → ((0 : Int) ≤ x3.toInt ∧ x3.toInt ≤ (2000 : Int)) → (2001 - x3.toInt) < (n : Int) → Ok (d_X2_readRemarks_8  n x0 x1 x2 x3 S) (fun o => ZT o.2 ∧ RP SZ o.2 ∧ ((0 : Int) ≤ o.1.toInt ∧ o.1.toInt ≤ (1 : Int))) := by
  intro n
  induction n with
  | zero => intro x0 x1 x2 x3 S hT hR g0 g1 g2 g3  hm; exfalso; omega
  | succ n ih =>
    intro x0 x1 x2 x3 S hT hR g0 g1 g2 g3  hm
    exact t_d_X2_readRemarks_8s (N8 := n)  ih hT hR g0 g1 g2 g3  (by omega)
theorem t_d_X2_readRemarks_0 {SZ S : ZS} {x0 : Nat} {x1 : Nat} (hT : ZT S) (hR : RP SZ S) (r_x0 : zK S x0 = 2) (r_x1 : zK S x1 = 4) : Ok (d_X2_readRemarks_0 x0 x1 S) (fun o => ZT o.2 ∧ RP SZ o.2 ∧ ((0 : Int) ≤ o.1.toInt ∧ o.1.toInt ≤ (1 : Int))) := by
  unfold d_X2_readRemarks_0
  have j60 := J_2_4 hT r_x0
  refine ok_chk r_x0 ?_
  obtain ⟨⟨r1, S1⟩, h_r1, T_S1, A_S1, -⟩ := t_f_X2_skipBlanks (x0 := x0) (SZ := S) hT (a7_0 S) r_x0
  replace T_S1 : ZT S1 := T_S1
  replace A_S1 : A7 S S1 := A_S1
  refine ok_calR h_r1 ?_
  have q_S1 := fq_X2_skipBlanks h_r1
  have kE_S1 : zK S1 = zK S := q_S1.2.2.1
  have nE_S1 : zN S1 = zN S := q_S1.2.2.2.1
  have R_S1 : RP SZ S1 := rp_f hR hT q_S1 (fz_X2_skipBlanks h_r1) (by decide) A_S1
  refine ok_chk ⟨q_S1.1, q_S1.2.1⟩ ?_
  exact t_d_X2_readRemarks_8   mFuel x0 x1 (1 : Int32) (0 : Int32) S1 T_S1 R_S1 ((congrFun kE_S1 x0).trans r_x0) ((congrFun kE_S1 x1).trans r_x1) (by decide) (by decide) (by show _ < ((200000 : Nat) : Int); have z0 : (1 : Int32).toInt = 1 := rfl; have z1 : (0 : Int32).toInt = 0 := rfl; omega)
theorem t_d_X2_readRemarks {SZ S : ZS} {x0 : Nat} {x1 : Nat} (hT : ZT S) (hR : RP SZ S) (r_x0 : zK S x0 = 2) (r_x1 : zK S x1 = 4) : Ok (d_X2_readRemarks x0 x1 S) (fun o => ZT o.2 ∧ RP SZ o.2 ∧ ((0 : Int) ≤ o.1.toInt ∧ o.1.toInt ≤ (1 : Int))) := t_d_X2_readRemarks_0 hT hR r_x0 r_x1
theorem t_d_X2_readName_101 {SZ S : ZS} {x0 : Nat} (hT : ZT S) (hR : RP SZ S) (r_x0 : zK S x0 = 2) : Ok (d_X2_readName_101 x0 S) (fun o => ZT o.2 ∧ RP SZ o.2 ∧ ((0 : Int) ≤ o.1.toInt ∧ o.1.toInt ≤ (1 : Int))) := by
  unfold d_X2_readName_101
  have j61 := J_2_4 hT r_x0
  refine ok_chk r_x0 ?_
  obtain ⟨b1, p_b1, k_b1, c_b1⟩ := T_2_6 hT r_x0
  have lo_b1 := M_2_6 hT r_x0 p_b1
  have rl_b1 := rL_x1 lo_b1 c_b1
  refine ok_calR p_b1 ?_
  refine ok_chk k_b1 ?_
  have j62 := J61_1 hT k_b1 c_b1
  obtain ⟨r2, h_r2, p_r2⟩ := roz (t_f_X6_size (x0 := b1) hT k_b1)
  dsimp only at p_r2
  refine ok_calR h_r2 ?_
  have s_r2 : r2.toInt = (zI S 1 b1).toInt := congrArg Int32.toInt p_r2.2
  refine ok_chk ⟨rfl, rfl⟩ ?_
  refine ok_if (fun c63 => ?_) (fun c63 => ?_)
  ·
    replace c63 := ti_ltP (a := (0 : Int32)) (b := r2) c63 (show (0 : Int32).toInt = 0 from rfl) rfl
    unfold d_X2_readName_123
    unfold d_X2_readName_128
    refine ok_chk (by decide) ?_
    exact ok_ret ⟨hT, hR, (show (0 : Int) ≤ (1 : Int32).toInt ∧ (1 : Int32).toInt ≤ (1 : Int) from (by decide))⟩
  ·
    replace c63 := ti_ltN (a := (0 : Int32)) (b := r2) c63 (show (0 : Int32).toInt = 0 from rfl) rfl
    refine ok_chk r_x0 ?_
    refine ok_chk r_x0 ?_
    obtain ⟨⟨r3, S3⟩, h_r3, T_S3, A_S3, p_r3⟩ := t_f_X2_refuse (x0 := x0) (x1 := (1 : Int32)) (x2 := (zI S 4 x0)) (SZ := S) hT (a7_0 S) r_x0
    replace T_S3 : ZT S3 := T_S3
    replace A_S3 : A7 S S3 := A_S3
    dsimp only at p_r3
    refine ok_calR h_r3 ?_
    have q_S3 := fq_X2_refuse h_r3
    have kE_S3 : zK S3 = zK S := q_S3.2.2.1
    have nE_S3 : zN S3 = zN S := q_S3.2.2.2.1
    have R_S3 : RP SZ S3 := rp_f hR hT q_S3 (fz_X2_refuse h_r3) (by decide) A_S3
    have : (zI S3 4 x0).toInt = (zI S 4 x0).toInt := congrArg Int32.toInt ((((fz_X2_refuse h_r3) hT.2.2.2.2.1).2.2 x0 (by rw [r_x0]; decide)).2.2.1 4 (by rw [r_x0]; decide))
    refine ok_chk ⟨q_S3.1, q_S3.2.1⟩ ?_
    refine ok_if (fun c64 => ?_) (fun c64 => ?_)
    ·
      replace c64 := ti_eqP (a := r3) (b := (0 : Int32)) c64 rfl (show (0 : Int32).toInt = 0 from rfl)
      unfold d_X2_readName_128
      refine ok_chk (by decide) ?_
      exact ok_ret ⟨T_S3, R_S3, (show (0 : Int) ≤ (0 : Int32).toInt ∧ (0 : Int32).toInt ≤ (1 : Int) from (by decide))⟩
    ·
      replace c64 := ti_eqN (a := r3) (b := (0 : Int32)) c64 rfl (show (0 : Int32).toInt = 0 from rfl)
      unfold d_X2_readName_123
      unfold d_X2_readName_128
      refine ok_chk (by decide) ?_
      exact ok_ret ⟨T_S3, R_S3, (show (0 : Int) ≤ (1 : Int32).toInt ∧ (1 : Int32).toInt ≤ (1 : Int) from (by decide))⟩
theorem t_d_X2_readName_70 {SZ S : ZS} {self22 : Nat → ZS → Option (Int32 × ZS)} {N22 : Nat} (hself22 : ∀ (x0 : Nat) (S : ZS), ZT S → RP SZ S → (zK S x0 = 2) → (∀ b, zP S 6 x0 = some b → (zI S 1 b).toInt ≤ (zI S 4 x0).toInt) → (90102 - (zI S 4 x0).toInt) < (N22 : Int) → Ok (self22 x0 S) (fun o => ZT o.2 ∧ RP SZ o.2 ∧ ((0 : Int) ≤ o.1.toInt ∧ o.1.toInt ≤ (1 : Int)))) {x0 : Nat} (hT : ZT S) (hR : RP SZ S) (r_x0 : zK S x0 = 2) (q0 : ∀ b, zP S 6 x0 = some b → (zI S 1 b).toInt ≤ (zI S 4 x0).toInt) (q1 : (zI S 4 x0).toInt < 2000) (m22 : (90102 - (zI S 4 x0).toInt) ≤ (N22 : Int)) : Ok (d_X2_readName_70 self22 x0 S) (fun o => ZT o.2 ∧ RP SZ o.2 ∧ ((0 : Int) ≤ o.1.toInt ∧ o.1.toInt ≤ (1 : Int))) := by
  unfold d_X2_readName_70
  have j65 := J_2_4 hT r_x0
  refine ok_chk r_x0 ?_
  obtain ⟨b1, p_b1, k_b1, c_b1⟩ := T_2_6 hT r_x0
  have lo_b1 := M_2_6 hT r_x0 p_b1
  have rl_b1 := rL_x1 lo_b1 c_b1
  refine ok_calR p_b1 ?_
  have e9 := q0 b1 p_b1
  refine ok_chk r_x0 ?_
  obtain ⟨b2, p_b2, k_b2, c_b2⟩ := T_2_2 hT r_x0
  have rl_b2 := rL_ge b2
  refine ok_calR p_b2 ?_
  refine ok_chk r_x0 ?_
  refine ok_chk k_b2 ?_
  have j66 := J61_2 hT k_b2 c_b2
  obtain ⟨r3, h_r3, p_r3⟩ := roz (t_f_X6_at (x0 := b2) (x1 := (zI S 4 x0)) hT k_b2)
  dsimp only at p_r3
  refine ok_calR h_r3 ?_
  refine ok_chk ⟨rfl, rfl⟩ ?_
  refine ok_chk k_b1 ?_
  have j67 := J61_1 hT k_b1 c_b1
  obtain ⟨⟨r5, S6⟩, h_r5, T_S6, B_S6, p_r5_0, p_r5_1⟩ := t_d_X6_put (x0 := b1) (x1 := r3) (SZ := S) hT (rp_0 S) k_b1 (by omega) (by omega) (by omega)
  replace T_S6 : ZT S6 := T_S6
  replace B_S6 : RP S S6 := B_S6
  have R_S6 : RP SZ S6 := rp_t hR B_S6
  dsimp only at p_r5_0 p_r5_1
  refine ok_cal2R h_r5 ?_
  have g_S6 := (fz_X6_put h_r5 hT.2.2.2.2.1).2.2
  have : (zI S6 4 x0).toInt = (zI S 4 x0).toInt := congrArg Int32.toInt ((g_S6 x0 (lt18 r_x0 (by decide))).2.2.1 4 (by rw [r_x0]; decide))
  refine ok_chk ((g_S6 x0 (lt18 r_x0 (by decide))).1.trans r_x0) ?_
  refine ok_bnd (fun v9 e68 => ?_)
  have j69 := J_2_4 T_S6 ((g_S6 x0 (lt18 r_x0 (by decide))).1.trans r_x0)
  have t_v9 : v9.toInt = (zI S6 4 x0).toInt + 1 := ti_add e68 rfl (show (1 : Int32).toInt = 1 from rfl) (by omega) (by omega)
  refine ok_chk ((g_S6 x0 (lt18 r_x0 (by decide))).1.trans r_x0) ?_
  refine ok_bnd (fun S10 e70 => ?_)
  have T_S10 : ZT S10 := e70.symm ▸ zt_I T_S6 ((g_S6 x0 (lt18 r_x0 (by decide))).1.trans r_x0) (by decide) (show (0 : Int) ≤ v9.toInt ∧ v9.toInt ≤ (90100 : Int) from (by omega))
  have kE_S10 : zK S10 = zK S6 := by rw [e70]; rfl
  have nE_S10 : zN S10 = zN S6 := by rw [e70]; rfl
  have R_S10 : RP SZ S10 := rp_I R_S6 T_S6 ((g_S6 x0 (lt18 r_x0 (by decide))).1.trans r_x0) e70 (by decide)
  have : (zI S10 4 x0).toInt = v9.toInt := by rw [e70]; exact (congrArg Int32.toInt (zI_self _ _ _ _)).trans rfl
  have j71 := J_2_4 T_S10 ((congrFun kE_S10 x0).trans ((g_S6 x0 (lt18 r_x0 (by decide))).1.trans r_x0))
  exact hself22 x0 S10 T_S10 R_S10 ((congrFun kE_S10 x0).trans ((g_S6 x0 (lt18 r_x0 (by decide))).1.trans r_x0)) (fun b9 h9 => by have e8 : zP S10 = zP S6 := by { rw [e70]; rfl }; have h8 : zP S6 6 x0 = some b9 := by { rw [← e8]; exact h9 }; rw [(g_S6 x0 (lt18 r_x0 (by decide))).2.2.2.1 6 (by rw [r_x0]; decide), p_b1] at h8; cases h8; have h7 : zI S10 1 b1 = zI S6 1 b1 := by { rw [e70]; rfl }; rw [h7]; omega) (by omega)
theorem t_d_X2_readName_22s {SZ S : ZS} {self22 : Nat → ZS → Option (Int32 × ZS)} {N22 : Nat} (hself22 : ∀ (x0 : Nat) (S : ZS), ZT S → RP SZ S → (zK S x0 = 2) → (∀ b, zP S 6 x0 = some b → (zI S 1 b).toInt ≤ (zI S 4 x0).toInt) → (90102 - (zI S 4 x0).toInt) < (N22 : Int) → Ok (self22 x0 S) (fun o => ZT o.2 ∧ RP SZ o.2 ∧ ((0 : Int) ≤ o.1.toInt ∧ o.1.toInt ≤ (1 : Int)))) {x0 : Nat} (hT : ZT S) (hR : RP SZ S) (r_x0 : zK S x0 = 2) (q0 : ∀ b, zP S 6 x0 = some b → (zI S 1 b).toInt ≤ (zI S 4 x0).toInt) (m22 : (90102 - (zI S 4 x0).toInt) ≤ (N22 : Int)) : Ok (d_X2_readName_22s self22 x0 S) (fun o => ZT o.2 ∧ RP SZ o.2 ∧ ((0 : Int) ≤ o.1.toInt ∧ o.1.toInt ≤ (1 : Int))) := by
  unfold d_X2_readName_22s
  have j72 := J_2_4 hT r_x0
  refine ok_chk r_x0 ?_
  refine ok_chk r_x0 ?_
  obtain ⟨b1, p_b1, k_b1, c_b1⟩ := T_2_2 hT r_x0
  have rl_b1 := rL_ge b1
  refine ok_calR p_b1 ?_
  refine ok_chk k_b1 ?_
  have j73 := J61_2 hT k_b1 c_b1
  obtain ⟨r2, h_r2, p_r2⟩ := roz (t_f_X6_size (x0 := b1) hT k_b1)
  dsimp only at p_r2
  refine ok_calR h_r2 ?_
  have s_r2 : r2.toInt = (zI S 1 b1).toInt := congrArg Int32.toInt p_r2.2
  refine ok_chk ⟨rfl, rfl⟩ ?_
  refine ok_if (fun c74 => ?_) (fun c74 => ?_)
  ·
    replace c74 := ti_leP (a := r2) (b := (zI S 4 x0)) c74 rfl rfl
    exact t_d_X2_readName_101 (S := S)  (x0 := x0) hT hR r_x0
  ·
    replace c74 := ti_leN (a := r2) (b := (zI S 4 x0)) c74 rfl rfl
    refine ok_chk r_x0 ?_
    refine ok_calR p_b1 ?_
    refine ok_chk r_x0 ?_
    refine ok_chk k_b1 ?_
    obtain ⟨r4, h_r4, p_r4⟩ := roz (t_f_X6_at (x0 := b1) (x1 := (zI S 4 x0)) hT k_b1)
    dsimp only at p_r4
    refine ok_calR h_r4 ?_
    refine ok_chk ⟨rfl, rfl⟩ ?_
    obtain ⟨r5, h_r5, p_r5⟩ := roz (t_f_X11_isLetter (x0 := r4) hT )
    dsimp only at p_r5
    refine ok_calR h_r5 ?_
    refine ok_chk ⟨rfl, rfl⟩ ?_
    refine ok_if (fun c75 => ?_) (fun c75 => ?_)
    ·
      replace c75 := ti_eqP (a := r5) (b := (0 : Int32)) c75 rfl (show (0 : Int32).toInt = 0 from rfl)
      refine ok_chk r_x0 ?_
      refine ok_calR p_b1 ?_
      refine ok_chk r_x0 ?_
      refine ok_chk k_b1 ?_
      obtain ⟨r7, h_r7, p_r7⟩ := roz (t_f_X6_at (x0 := b1) (x1 := (zI S 4 x0)) hT k_b1)
      dsimp only at p_r7
      refine ok_calR h_r7 ?_
      refine ok_chk ⟨rfl, rfl⟩ ?_
      obtain ⟨r8, h_r8, p_r8⟩ := roz (t_f_X11_isDigit (x0 := r7) hT )
      dsimp only at p_r8
      refine ok_calR h_r8 ?_
      refine ok_chk ⟨rfl, rfl⟩ ?_
      refine ok_if (fun c76 => ?_) (fun c76 => ?_)
      ·
        replace c76 := ti_eqP (a := r8) (b := (0 : Int32)) c76 rfl (show (0 : Int32).toInt = 0 from rfl)
        exact t_d_X2_readName_101 (S := S)  (x0 := x0) hT hR r_x0
      ·
        replace c76 := ti_eqN (a := r8) (b := (0 : Int32)) c76 rfl (show (0 : Int32).toInt = 0 from rfl)
        exact t_d_X2_readName_70 (S := S) hself22 (x0 := x0) hT hR r_x0 q0 (by omega) m22
    ·
      replace c75 := ti_eqN (a := r5) (b := (0 : Int32)) c75 rfl (show (0 : Int32).toInt = 0 from rfl)
      exact t_d_X2_readName_70 (S := S) hself22 (x0 := x0) hT hR r_x0 q0 (by omega) m22
theorem t_d_X2_readName_22 {SZ : ZS} : ∀ (n : Nat) (x0 : Nat) (S : ZS), ZT S → RP SZ S → (zK S x0 = 2) → (∀ b, zP S 6 x0 = some b → (zI S 1 b).toInt ≤ (zI S 4 x0).toInt) → (90102 - (zI S 4 x0).toInt) < (n : Int) → Ok (d_X2_readName_22  n x0 S) (fun o => ZT o.2 ∧ RP SZ o.2 ∧ ((0 : Int) ≤ o.1.toInt ∧ o.1.toInt ≤ (1 : Int))) := by
  intro n
  induction n with
  | zero => intro x0 S hT hR g0 g1  hm; exfalso; have j9 := J_2_4 hT g0; omega
  | succ n ih =>
    intro x0 S hT hR g0 g1  hm
    exact t_d_X2_readName_22s (N22 := n)  ih hT hR g0 g1  (by omega)
theorem t_d_X2_readName_0 {SZ S : ZS} {x0 : Nat} (hT : ZT S) (hR : RP SZ S) (r_x0 : zK S x0 = 2) (q0 : (zI S 4 x0).toInt ≤ 90000) : Ok (d_X2_readName_0 x0 S) (fun o => ZT o.2 ∧ RP SZ o.2 ∧ ((0 : Int) ≤ o.1.toInt ∧ o.1.toInt ≤ (1 : Int))) := by
  unfold d_X2_readName_0
  have j77 := J_2_4 hT r_x0
  refine ok_chk r_x0 ?_
  refine ok_bnd (fun v1 e78 => ?_)
  have t_v1 : v1.toInt = (zI S 4 x0).toInt + 1 := ti_add e78 rfl (show (1 : Int32).toInt = 1 from rfl) (by omega) (by omega)
  refine ok_chk r_x0 ?_
  refine ok_bnd (fun S2 e79 => ?_)
  have T_S2 : ZT S2 := e79.symm ▸ zt_I hT r_x0 (by decide) (show (0 : Int) ≤ v1.toInt ∧ v1.toInt ≤ (90100 : Int) from (by omega))
  have kE_S2 : zK S2 = zK S := by rw [e79]; rfl
  have nE_S2 : zN S2 = zN S := by rw [e79]; rfl
  have R_S2 : RP SZ S2 := rp_I hR hT r_x0 e79 (by decide)
  have : (zI S2 4 x0).toInt = v1.toInt := by rw [e79]; exact (congrArg Int32.toInt (zI_self _ _ _ _)).trans rfl
  refine ok_chk ((congrFun kE_S2 x0).trans r_x0) ?_
  obtain ⟨⟨r3, S3⟩, h_r3, T_S3, A_S3, -⟩ := t_f_X2_skipBlanks (x0 := x0) (SZ := S2) T_S2 (a7_0 S2) ((congrFun kE_S2 x0).trans r_x0)
  replace T_S3 : ZT S3 := T_S3
  replace A_S3 : A7 S2 S3 := A_S3
  refine ok_calR h_r3 ?_
  have q_S3 := fq_X2_skipBlanks h_r3
  have kE_S3 : zK S3 = zK S2 := q_S3.2.2.1
  have nE_S3 : zN S3 = zN S2 := q_S3.2.2.2.1
  have R_S3 : RP SZ S3 := rp_f R_S2 T_S2 q_S3 (fz_X2_skipBlanks h_r3) (by decide) A_S3
  refine ok_chk ⟨q_S3.1, q_S3.2.1⟩ ?_
  refine ok_chk ((congrFun kE_S3 x0).trans ((congrFun kE_S2 x0).trans r_x0)) ?_
  obtain ⟨b4, p_b4, k_b4, c_b4⟩ := T_2_6 T_S3 ((congrFun kE_S3 x0).trans ((congrFun kE_S2 x0).trans r_x0))
  have lo_b4 := M_2_6 T_S3 ((congrFun kE_S3 x0).trans ((congrFun kE_S2 x0).trans r_x0)) p_b4
  have rl_b4 := rL_x1 lo_b4 c_b4
  refine ok_calR p_b4 ?_
  refine ok_chk k_b4 ?_
  have j80 := J61_1 T_S3 k_b4 c_b4
  obtain ⟨⟨r5, S5⟩, h_r5, T_S5, A_S5, -⟩ := t_f_X6_keep (x0 := b4) (x1 := (0 : Int32)) (SZ := S3) T_S3 (a7_0 S3) k_b4 (by have z0 : (0 : Int32).toInt = 0 := rfl; omega)
  replace T_S5 : ZT S5 := T_S5
  replace A_S5 : A7 S3 S5 := A_S5
  refine ok_calR h_r5 ?_
  have q_S5 := fq_X6_keep h_r5
  have kE_S5 : zK S5 = zK S3 := q_S5.2.2.1
  have nE_S5 : zN S5 = zN S3 := q_S5.2.2.2.1
  have R_S5 : RP SZ S5 := rp_f R_S3 T_S3 q_S5 (fz_X6_keep h_r5) (by decide) A_S5
  have : (zI S5 4 x0).toInt = (zI S3 4 x0).toInt := congrArg Int32.toInt ((((fz_X6_keep h_r5) T_S3.2.2.2.2.1).2.2 x0 (by rw [((congrFun kE_S3 x0).trans ((congrFun kE_S2 x0).trans r_x0))]; decide)).2.2.1 4 (by rw [((congrFun kE_S3 x0).trans ((congrFun kE_S2 x0).trans r_x0))]; decide))
  refine ok_chk ⟨q_S5.1, q_S5.2.1⟩ ?_
  have j81 := J_2_4 T_S5 ((congrFun kE_S5 x0).trans ((congrFun kE_S3 x0).trans ((congrFun kE_S2 x0).trans r_x0)))
  exact t_d_X2_readName_22   mFuel x0 S5 T_S5 R_S5 ((congrFun kE_S5 x0).trans ((congrFun kE_S3 x0).trans ((congrFun kE_S2 x0).trans r_x0))) (fun b9 h8 => by skip; rw [(((fz_X6_keep h_r5) T_S3.2.2.2.2.1).2.2 x0 (lt18 ((congrFun kE_S3 x0).trans ((congrFun kE_S2 x0).trans r_x0)) (by decide))).2.2.2.1 6 (by rw [((congrFun kE_S3 x0).trans ((congrFun kE_S2 x0).trans r_x0))]; decide), p_b4] at h8; cases h8; have h7 := keep_len k_b4 h_r5 (by decide); have j9 := J_2_4 T_S5 ((congrFun kE_S5 x0).trans ((congrFun kE_S3 x0).trans ((congrFun kE_S2 x0).trans r_x0))); have z9 : (0 : Int32).toInt = 0 := rfl; omega) (by show _ < ((200000 : Nat) : Int); omega)
theorem t_d_X2_readName {SZ S : ZS} {x0 : Nat} (hT : ZT S) (hR : RP SZ S) (r_x0 : zK S x0 = 2) (q0 : (zI S 4 x0).toInt ≤ 90000) : Ok (d_X2_readName x0 S) (fun o => ZT o.2 ∧ RP SZ o.2 ∧ ((0 : Int) ≤ o.1.toInt ∧ o.1.toInt ≤ (1 : Int))) := t_d_X2_readName_0 hT hR r_x0 q0
theorem t_d_X2_readValue_142 {SZ S : ZS} {self48 : Nat → ZS → Option (Int32 × ZS)} {N48 : Nat} (hself48 : ∀ (x0 : Nat) (S : ZS), ZT S → RP SZ S → (zK S x0 = 2) → (∀ b, zP S 7 x0 = some b → (zI S 1 b).toInt ≤ (zI S 4 x0).toInt) → (90102 - (zI S 4 x0).toInt) < (N48 : Int) → Ok (self48 x0 S) (fun o => ZT o.2 ∧ RP SZ o.2 ∧ ((0 : Int) ≤ o.1.toInt ∧ o.1.toInt ≤ (1 : Int)))) {x0 : Nat} {x1 : Int32} (hT : ZT S) (hR : RP SZ S) (r_x0 : zK S x0 = 2) (r_x1 : (0 : Int) ≤ x1.toInt ∧ x1.toInt ≤ (65535 : Int)) (q0 : ∀ b, zP S 7 x0 = some b → (zI S 1 b).toInt ≤ (zI S 4 x0).toInt) (q1 : (zI S 4 x0).toInt < 2000) (m48 : (90102 - (zI S 4 x0).toInt) ≤ (N48 : Int)) : Ok (d_X2_readValue_142 self48 x0 x1 S) (fun o => ZT o.2 ∧ RP SZ o.2 ∧ ((0 : Int) ≤ o.1.toInt ∧ o.1.toInt ≤ (1 : Int))) := by
  unfold d_X2_readValue_142
  have j82 := J_2_4 hT r_x0
  refine ok_if (fun c83 => ?_) (fun c83 => ?_)
  ·
    replace c83 := ti_eqP (a := x1) (b := (10 : Int32)) c83 rfl (show (10 : Int32).toInt = 10 from rfl)
    refine ok_chk r_x0 ?_
    refine ok_chk r_x0 ?_
    obtain ⟨⟨r9, S9⟩, h_r9, T_S9, A_S9, p_r9⟩ := t_f_X2_refuse (x0 := x0) (x1 := (1 : Int32)) (x2 := (zI S 4 x0)) (SZ := S) hT (a7_0 S) r_x0
    replace T_S9 : ZT S9 := T_S9
    replace A_S9 : A7 S S9 := A_S9
    dsimp only at p_r9
    refine ok_calR h_r9 ?_
    have q_S9 := fq_X2_refuse h_r9
    have kE_S9 : zK S9 = zK S := q_S9.2.2.1
    have nE_S9 : zN S9 = zN S := q_S9.2.2.2.1
    have R_S9 : RP SZ S9 := rp_f hR hT q_S9 (fz_X2_refuse h_r9) (by decide) A_S9
    have : (zI S9 4 x0).toInt = (zI S 4 x0).toInt := congrArg Int32.toInt ((((fz_X2_refuse h_r9) hT.2.2.2.2.1).2.2 x0 (by rw [r_x0]; decide)).2.2.1 4 (by rw [r_x0]; decide))
    refine ok_chk ⟨q_S9.1, q_S9.2.1⟩ ?_
    refine ok_chk (nar_b (v := r9) (by omega) (by omega)) ?_
    exact ok_ret ⟨T_S9, R_S9, (show (0 : Int) ≤ r9.toInt ∧ r9.toInt ≤ (1 : Int) from (by omega))⟩
  ·
    replace c83 := ti_eqN (a := x1) (b := (10 : Int32)) c83 rfl (show (10 : Int32).toInt = 10 from rfl)
    refine ok_chk r_x0 ?_
    obtain ⟨b1, p_b1, k_b1, c_b1⟩ := T_2_7 hT r_x0
    have lo_b1 := M_2_7 hT r_x0 p_b1
    have rl_b1 := rL_x1 lo_b1 c_b1
    refine ok_calR p_b1 ?_
    have e9 := q0 b1 p_b1
    refine ok_chk k_b1 ?_
    have j84 := J61_1 hT k_b1 c_b1
    obtain ⟨⟨r3, S4⟩, h_r3, T_S4, B_S4, p_r3_0, p_r3_1⟩ := t_d_X6_put (x0 := b1) (x1 := x1) (SZ := S) hT (rp_0 S) k_b1 r_x1 (by omega) (by omega)
    replace T_S4 : ZT S4 := T_S4
    replace B_S4 : RP S S4 := B_S4
    have R_S4 : RP SZ S4 := rp_t hR B_S4
    dsimp only at p_r3_0 p_r3_1
    refine ok_cal2R h_r3 ?_
    have g_S4 := (fz_X6_put h_r3 hT.2.2.2.2.1).2.2
    have : (zI S4 4 x0).toInt = (zI S 4 x0).toInt := congrArg Int32.toInt ((g_S4 x0 (lt18 r_x0 (by decide))).2.2.1 4 (by rw [r_x0]; decide))
    refine ok_chk ((g_S4 x0 (lt18 r_x0 (by decide))).1.trans r_x0) ?_
    refine ok_bnd (fun v7 e85 => ?_)
    have j86 := J_2_4 T_S4 ((g_S4 x0 (lt18 r_x0 (by decide))).1.trans r_x0)
    have t_v7 : v7.toInt = (zI S4 4 x0).toInt + 1 := ti_add e85 rfl (show (1 : Int32).toInt = 1 from rfl) (by omega) (by omega)
    refine ok_chk ((g_S4 x0 (lt18 r_x0 (by decide))).1.trans r_x0) ?_
    refine ok_bnd (fun S8 e87 => ?_)
    have T_S8 : ZT S8 := e87.symm ▸ zt_I T_S4 ((g_S4 x0 (lt18 r_x0 (by decide))).1.trans r_x0) (by decide) (show (0 : Int) ≤ v7.toInt ∧ v7.toInt ≤ (90100 : Int) from (by omega))
    have kE_S8 : zK S8 = zK S4 := by rw [e87]; rfl
    have nE_S8 : zN S8 = zN S4 := by rw [e87]; rfl
    have R_S8 : RP SZ S8 := rp_I R_S4 T_S4 ((g_S4 x0 (lt18 r_x0 (by decide))).1.trans r_x0) e87 (by decide)
    have : (zI S8 4 x0).toInt = v7.toInt := by rw [e87]; exact (congrArg Int32.toInt (zI_self _ _ _ _)).trans rfl
    have j88 := J_2_4 T_S8 ((congrFun kE_S8 x0).trans ((g_S4 x0 (lt18 r_x0 (by decide))).1.trans r_x0))
    exact hself48 x0 S8 T_S8 R_S8 ((congrFun kE_S8 x0).trans ((g_S4 x0 (lt18 r_x0 (by decide))).1.trans r_x0)) (fun b9 h9 => by have e8 : zP S8 = zP S4 := by { rw [e87]; rfl }; have h8 : zP S4 7 x0 = some b9 := by { rw [← e8]; exact h9 }; rw [(g_S4 x0 (lt18 r_x0 (by decide))).2.2.2.1 7 (by rw [r_x0]; decide), p_b1] at h8; cases h8; have h7 : zI S8 1 b1 = zI S4 1 b1 := by { rw [e87]; rfl }; rw [h7]; omega) (by omega)
theorem t_d_X2_readValue_48s {SZ S : ZS} {self48 : Nat → ZS → Option (Int32 × ZS)} {N48 : Nat} (hself48 : ∀ (x0 : Nat) (S : ZS), ZT S → RP SZ S → (zK S x0 = 2) → (∀ b, zP S 7 x0 = some b → (zI S 1 b).toInt ≤ (zI S 4 x0).toInt) → (90102 - (zI S 4 x0).toInt) < (N48 : Int) → Ok (self48 x0 S) (fun o => ZT o.2 ∧ RP SZ o.2 ∧ ((0 : Int) ≤ o.1.toInt ∧ o.1.toInt ≤ (1 : Int)))) {x0 : Nat} (hT : ZT S) (hR : RP SZ S) (r_x0 : zK S x0 = 2) (q0 : ∀ b, zP S 7 x0 = some b → (zI S 1 b).toInt ≤ (zI S 4 x0).toInt) (m48 : (90102 - (zI S 4 x0).toInt) ≤ (N48 : Int)) : Ok (d_X2_readValue_48s self48 x0 S) (fun o => ZT o.2 ∧ RP SZ o.2 ∧ ((0 : Int) ≤ o.1.toInt ∧ o.1.toInt ≤ (1 : Int))) := by
  unfold d_X2_readValue_48s
  have j89 := J_2_4 hT r_x0
  refine ok_chk r_x0 ?_
  refine ok_chk r_x0 ?_
  obtain ⟨b1, p_b1, k_b1, c_b1⟩ := T_2_2 hT r_x0
  have rl_b1 := rL_ge b1
  refine ok_calR p_b1 ?_
  refine ok_chk k_b1 ?_
  have j90 := J61_2 hT k_b1 c_b1
  obtain ⟨r2, h_r2, p_r2⟩ := roz (t_f_X6_size (x0 := b1) hT k_b1)
  dsimp only at p_r2
  refine ok_calR h_r2 ?_
  have s_r2 : r2.toInt = (zI S 1 b1).toInt := congrArg Int32.toInt p_r2.2
  refine ok_chk ⟨rfl, rfl⟩ ?_
  refine ok_if (fun c91 => ?_) (fun c91 => ?_)
  ·
    replace c91 := ti_leP (a := r2) (b := (zI S 4 x0)) c91 rfl rfl
    refine ok_chk r_x0 ?_
    refine ok_chk r_x0 ?_
    obtain ⟨⟨r3, S3⟩, h_r3, T_S3, A_S3, p_r3⟩ := t_f_X2_refuse (x0 := x0) (x1 := (1 : Int32)) (x2 := (zI S 4 x0)) (SZ := S) hT (a7_0 S) r_x0
    replace T_S3 : ZT S3 := T_S3
    replace A_S3 : A7 S S3 := A_S3
    dsimp only at p_r3
    refine ok_calR h_r3 ?_
    have q_S3 := fq_X2_refuse h_r3
    have kE_S3 : zK S3 = zK S := q_S3.2.2.1
    have nE_S3 : zN S3 = zN S := q_S3.2.2.2.1
    have R_S3 : RP SZ S3 := rp_f hR hT q_S3 (fz_X2_refuse h_r3) (by decide) A_S3
    have : (zI S3 4 x0).toInt = (zI S 4 x0).toInt := congrArg Int32.toInt ((((fz_X2_refuse h_r3) hT.2.2.2.2.1).2.2 x0 (by rw [r_x0]; decide)).2.2.1 4 (by rw [r_x0]; decide))
    refine ok_chk ⟨q_S3.1, q_S3.2.1⟩ ?_
    refine ok_chk (nar_b (v := r3) (by omega) (by omega)) ?_
    exact ok_ret ⟨T_S3, R_S3, (show (0 : Int) ≤ r3.toInt ∧ r3.toInt ≤ (1 : Int) from (by omega))⟩
  ·
    replace c91 := ti_leN (a := r2) (b := (zI S 4 x0)) c91 rfl rfl
    refine ok_chk r_x0 ?_
    refine ok_calR p_b1 ?_
    refine ok_chk r_x0 ?_
    refine ok_chk k_b1 ?_
    obtain ⟨r5, h_r5, p_r5⟩ := roz (t_f_X6_at (x0 := b1) (x1 := (zI S 4 x0)) hT k_b1)
    dsimp only at p_r5
    refine ok_calR h_r5 ?_
    refine ok_chk ⟨rfl, rfl⟩ ?_
    refine ok_if (fun c92 => ?_) (fun c92 => ?_)
    ·
      replace c92 := ti_eqP (a := r5) (b := (34 : Int32)) c92 rfl (show (34 : Int32).toInt = 34 from rfl)
      refine ok_chk r_x0 ?_
      refine ok_bnd (fun v11 e93 => ?_)
      have t_v11 : v11.toInt = (zI S 4 x0).toInt + 1 := ti_add e93 rfl (show (1 : Int32).toInt = 1 from rfl) (by omega) (by omega)
      refine ok_chk r_x0 ?_
      refine ok_bnd (fun S12 e94 => ?_)
      have T_S12 : ZT S12 := e94.symm ▸ zt_I hT r_x0 (by decide) (show (0 : Int) ≤ v11.toInt ∧ v11.toInt ≤ (90100 : Int) from (by omega))
      have kE_S12 : zK S12 = zK S := by rw [e94]; rfl
      have nE_S12 : zN S12 = zN S := by rw [e94]; rfl
      have R_S12 : RP SZ S12 := rp_I hR hT r_x0 e94 (by decide)
      have : (zI S12 4 x0).toInt = v11.toInt := by rw [e94]; exact (congrArg Int32.toInt (zI_self _ _ _ _)).trans rfl
      refine ok_chk (by decide) ?_
      exact ok_ret ⟨T_S12, R_S12, (show (0 : Int) ≤ (1 : Int32).toInt ∧ (1 : Int32).toInt ≤ (1 : Int) from (by decide))⟩
    ·
      replace c92 := ti_eqN (a := r5) (b := (34 : Int32)) c92 rfl (show (34 : Int32).toInt = 34 from rfl)
      refine ok_if (fun c95 => ?_) (fun c95 => ?_)
      ·
        replace c95 := ti_eqP (a := r5) (b := (92 : Int32)) c95 rfl (show (92 : Int32).toInt = 92 from rfl)
        refine ok_chk r_x0 ?_
        refine ok_bnd (fun v6 e96 => ?_)
        have t_v6 : v6.toInt = (zI S 4 x0).toInt + 1 := ti_add e96 rfl (show (1 : Int32).toInt = 1 from rfl) (by omega) (by omega)
        refine ok_chk r_x0 ?_
        refine ok_bnd (fun S7 e97 => ?_)
        have T_S7 : ZT S7 := e97.symm ▸ zt_I hT r_x0 (by decide) (show (0 : Int) ≤ v6.toInt ∧ v6.toInt ≤ (90100 : Int) from (by omega))
        have kE_S7 : zK S7 = zK S := by rw [e97]; rfl
        have nE_S7 : zN S7 = zN S := by rw [e97]; rfl
        have R_S7 : RP SZ S7 := rp_I hR hT r_x0 e97 (by decide)
        have : (zI S7 4 x0).toInt = v6.toInt := by rw [e97]; exact (congrArg Int32.toInt (zI_self _ _ _ _)).trans rfl
        refine ok_chk ((congrFun kE_S7 x0).trans r_x0) ?_
        obtain ⟨b8, p_b8, k_b8, c_b8⟩ := T_2_2 T_S7 ((congrFun kE_S7 x0).trans r_x0)
        have rl_b8 := rL_ge b8
        refine ok_calR p_b8 ?_
        refine ok_chk ((congrFun kE_S7 x0).trans r_x0) ?_
        refine ok_chk k_b8 ?_
        have j98 := J61_2 T_S7 k_b8 c_b8
        obtain ⟨r9, h_r9, p_r9⟩ := roz (t_f_X6_at (x0 := b8) (x1 := (zI S7 4 x0)) T_S7 k_b8)
        dsimp only at p_r9
        refine ok_calR h_r9 ?_
        refine ok_chk ⟨rfl, rfl⟩ ?_
        refine ok_if (fun c99 => ?_) (fun c99 => ?_)
        ·
          replace c99 := ti_eqP (a := r9) (b := (34 : Int32)) c99 rfl (show (34 : Int32).toInt = 34 from rfl)
          have j100 := J_2_4 T_S7 ((congrFun kE_S7 x0).trans r_x0)
          exact t_d_X2_readValue_142 (S := S7) hself48 (x0 := x0) (x1 := r9) T_S7 R_S7 ((congrFun kE_S7 x0).trans r_x0) (by omega) (fun b9 h9 => by have e8 : zP S7 = zP S := by { rw [e97]; rfl }; have h8 : zP S 7 x0 = some b9 := by { rw [← e8]; exact h9 }; have h6 : zI S7 1 b9 = zI S 1 b9 := by { rw [e97]; rfl }; have := q0 b9 h8; rw [h6]; omega) (by omega) (by omega)
        ·
          replace c99 := ti_eqN (a := r9) (b := (34 : Int32)) c99 rfl (show (34 : Int32).toInt = 34 from rfl)
          refine ok_if (fun c101 => ?_) (fun c101 => ?_)
          ·
            replace c101 := ti_eqP (a := r9) (b := (92 : Int32)) c101 rfl (show (92 : Int32).toInt = 92 from rfl)
            have j102 := J_2_4 T_S7 ((congrFun kE_S7 x0).trans r_x0)
            exact t_d_X2_readValue_142 (S := S7) hself48 (x0 := x0) (x1 := r9) T_S7 R_S7 ((congrFun kE_S7 x0).trans r_x0) (by omega) (fun b9 h9 => by have e8 : zP S7 = zP S := by { rw [e97]; rfl }; have h8 : zP S 7 x0 = some b9 := by { rw [← e8]; exact h9 }; have h6 : zI S7 1 b9 = zI S 1 b9 := by { rw [e97]; rfl }; have := q0 b9 h8; rw [h6]; omega) (by omega) (by omega)
          ·
            replace c101 := ti_eqN (a := r9) (b := (92 : Int32)) c101 rfl (show (92 : Int32).toInt = 92 from rfl)
            refine ok_chk ((congrFun kE_S7 x0).trans r_x0) ?_
            refine ok_chk ((congrFun kE_S7 x0).trans r_x0) ?_
            obtain ⟨⟨r10, S10⟩, h_r10, T_S10, A_S10, p_r10⟩ := t_f_X2_refuse (x0 := x0) (x1 := (1 : Int32)) (x2 := (zI S7 4 x0)) (SZ := S7) T_S7 (a7_0 S7) ((congrFun kE_S7 x0).trans r_x0)
            replace T_S10 : ZT S10 := T_S10
            replace A_S10 : A7 S7 S10 := A_S10
            dsimp only at p_r10
            refine ok_calR h_r10 ?_
            have q_S10 := fq_X2_refuse h_r10
            have kE_S10 : zK S10 = zK S7 := q_S10.2.2.1
            have nE_S10 : zN S10 = zN S7 := q_S10.2.2.2.1
            have R_S10 : RP SZ S10 := rp_f R_S7 T_S7 q_S10 (fz_X2_refuse h_r10) (by decide) A_S10
            have : (zI S10 4 x0).toInt = (zI S7 4 x0).toInt := congrArg Int32.toInt ((((fz_X2_refuse h_r10) T_S7.2.2.2.2.1).2.2 x0 (by rw [((congrFun kE_S7 x0).trans r_x0)]; decide)).2.2.1 4 (by rw [((congrFun kE_S7 x0).trans r_x0)]; decide))
            refine ok_chk ⟨q_S10.1, q_S10.2.1⟩ ?_
            refine ok_chk (nar_b (v := r10) (by omega) (by omega)) ?_
            exact ok_ret ⟨T_S10, R_S10, (show (0 : Int) ≤ r10.toInt ∧ r10.toInt ≤ (1 : Int) from (by omega))⟩
      ·
        replace c95 := ti_eqN (a := r5) (b := (92 : Int32)) c95 rfl (show (92 : Int32).toInt = 92 from rfl)
        exact t_d_X2_readValue_142 (S := S) hself48 (x0 := x0) (x1 := r5) hT hR r_x0 (by omega) q0 (by omega) m48
theorem t_d_X2_readValue_48 {SZ : ZS} : ∀ (n : Nat) (x0 : Nat) (S : ZS), ZT S → RP SZ S → (zK S x0 = 2) → (∀ b, zP S 7 x0 = some b → (zI S 1 b).toInt ≤ (zI S 4 x0).toInt) → (90102 - (zI S 4 x0).toInt) < (n : Int) → Ok (d_X2_readValue_48  n x0 S) (fun o => ZT o.2 ∧ RP SZ o.2 ∧ ((0 : Int) ≤ o.1.toInt ∧ o.1.toInt ≤ (1 : Int))) := by
  intro n
  induction n with
  | zero => intro x0 S hT hR g0 g1  hm; exfalso; have j9 := J_2_4 hT g0; omega
  | succ n ih =>
    intro x0 S hT hR g0 g1  hm
    exact t_d_X2_readValue_48s (N48 := n)  ih hT hR g0 g1  (by omega)
theorem t_d_X2_readValue_0 {SZ S : ZS} {x0 : Nat} (hT : ZT S) (hR : RP SZ S) (r_x0 : zK S x0 = 2) : Ok (d_X2_readValue_0 x0 S) (fun o => ZT o.2 ∧ RP SZ o.2 ∧ ((0 : Int) ≤ o.1.toInt ∧ o.1.toInt ≤ (1 : Int))) := by
  unfold d_X2_readValue_0
  have j103 := J_2_4 hT r_x0
  refine ok_chk r_x0 ?_
  obtain ⟨⟨r1, S1⟩, h_r1, T_S1, A_S1, -⟩ := t_f_X2_skipBlanks (x0 := x0) (SZ := S) hT (a7_0 S) r_x0
  replace T_S1 : ZT S1 := T_S1
  replace A_S1 : A7 S S1 := A_S1
  refine ok_calR h_r1 ?_
  have q_S1 := fq_X2_skipBlanks h_r1
  have kE_S1 : zK S1 = zK S := q_S1.2.2.1
  have nE_S1 : zN S1 = zN S := q_S1.2.2.2.1
  have R_S1 : RP SZ S1 := rp_f hR hT q_S1 (fz_X2_skipBlanks h_r1) (by decide) A_S1
  refine ok_chk ⟨q_S1.1, q_S1.2.1⟩ ?_
  refine ok_chk ((congrFun kE_S1 x0).trans r_x0) ?_
  obtain ⟨b2, p_b2, k_b2, c_b2⟩ := T_2_2 T_S1 ((congrFun kE_S1 x0).trans r_x0)
  have rl_b2 := rL_ge b2
  refine ok_calR p_b2 ?_
  refine ok_chk ((congrFun kE_S1 x0).trans r_x0) ?_
  refine ok_chk k_b2 ?_
  have j104 := J61_2 T_S1 k_b2 c_b2
  obtain ⟨r3, h_r3, p_r3⟩ := roz (t_f_X6_at (x0 := b2) (x1 := (zI S1 4 x0)) T_S1 k_b2)
  dsimp only at p_r3
  refine ok_calR h_r3 ?_
  refine ok_chk ⟨rfl, rfl⟩ ?_
  refine ok_if (fun c105 => ?_) (fun c105 => ?_)
  ·
    replace c105 := ti_eqP (a := r3) (b := (34 : Int32)) c105 rfl (show (34 : Int32).toInt = 34 from rfl)
    refine ok_chk ((congrFun kE_S1 x0).trans r_x0) ?_
    obtain ⟨b4, p_b4, k_b4, c_b4⟩ := T_2_7 T_S1 ((congrFun kE_S1 x0).trans r_x0)
    have lo_b4 := M_2_7 T_S1 ((congrFun kE_S1 x0).trans r_x0) p_b4
    have rl_b4 := rL_x1 lo_b4 c_b4
    refine ok_calR p_b4 ?_
    refine ok_chk k_b4 ?_
    have j106 := J61_1 T_S1 k_b4 c_b4
    obtain ⟨⟨r5, S5⟩, h_r5, T_S5, A_S5, -⟩ := t_f_X6_keep (x0 := b4) (x1 := (0 : Int32)) (SZ := S1) T_S1 (a7_0 S1) k_b4 (by have z0 : (0 : Int32).toInt = 0 := rfl; omega)
    replace T_S5 : ZT S5 := T_S5
    replace A_S5 : A7 S1 S5 := A_S5
    refine ok_calR h_r5 ?_
    have q_S5 := fq_X6_keep h_r5
    have kE_S5 : zK S5 = zK S1 := q_S5.2.2.1
    have nE_S5 : zN S5 = zN S1 := q_S5.2.2.2.1
    have R_S5 : RP SZ S5 := rp_f R_S1 T_S1 q_S5 (fz_X6_keep h_r5) (by decide) A_S5
    have : (zI S5 4 x0).toInt = (zI S1 4 x0).toInt := congrArg Int32.toInt ((((fz_X6_keep h_r5) T_S1.2.2.2.2.1).2.2 x0 (by rw [((congrFun kE_S1 x0).trans r_x0)]; decide)).2.2.1 4 (by rw [((congrFun kE_S1 x0).trans r_x0)]; decide))
    refine ok_chk ⟨q_S5.1, q_S5.2.1⟩ ?_
    refine ok_chk ((congrFun kE_S5 x0).trans ((congrFun kE_S1 x0).trans r_x0)) ?_
    refine ok_bnd (fun v6 e107 => ?_)
    have j108 := J_2_4 T_S5 ((congrFun kE_S5 x0).trans ((congrFun kE_S1 x0).trans r_x0))
    have t_v6 : v6.toInt = (zI S5 4 x0).toInt + 1 := ti_add e107 rfl (show (1 : Int32).toInt = 1 from rfl) (by omega) (by omega)
    refine ok_chk ((congrFun kE_S5 x0).trans ((congrFun kE_S1 x0).trans r_x0)) ?_
    refine ok_bnd (fun S7 e109 => ?_)
    have T_S7 : ZT S7 := e109.symm ▸ zt_I T_S5 ((congrFun kE_S5 x0).trans ((congrFun kE_S1 x0).trans r_x0)) (by decide) (show (0 : Int) ≤ v6.toInt ∧ v6.toInt ≤ (90100 : Int) from (by omega))
    have kE_S7 : zK S7 = zK S5 := by rw [e109]; rfl
    have nE_S7 : zN S7 = zN S5 := by rw [e109]; rfl
    have R_S7 : RP SZ S7 := rp_I R_S5 T_S5 ((congrFun kE_S5 x0).trans ((congrFun kE_S1 x0).trans r_x0)) e109 (by decide)
    have : (zI S7 4 x0).toInt = v6.toInt := by rw [e109]; exact (congrArg Int32.toInt (zI_self _ _ _ _)).trans rfl
    have j110 := J_2_4 T_S7 ((congrFun kE_S7 x0).trans ((congrFun kE_S5 x0).trans ((congrFun kE_S1 x0).trans r_x0)))
    exact t_d_X2_readValue_48   mFuel x0 S7 T_S7 R_S7 ((congrFun kE_S7 x0).trans ((congrFun kE_S5 x0).trans ((congrFun kE_S1 x0).trans r_x0))) (fun b9 h9 => by have e8 : zP S7 = zP S5 := by { rw [e109]; rfl }; have h8 : zP S5 7 x0 = some b9 := by { rw [← e8]; exact h9 }; rw [(((fz_X6_keep h_r5) T_S1.2.2.2.2.1).2.2 x0 (lt18 ((congrFun kE_S1 x0).trans r_x0) (by decide))).2.2.2.1 7 (by rw [((congrFun kE_S1 x0).trans r_x0)]; decide), p_b4] at h8; cases h8; have h7 := keep_len k_b4 h_r5 (by decide); have j9 := J_2_4 T_S5 ((congrFun kE_S5 x0).trans ((congrFun kE_S1 x0).trans r_x0)); have z9 : (0 : Int32).toInt = 0 := rfl; have h6 : zI S7 1 b4 = zI S5 1 b4 := by { rw [e109]; rfl }; rw [h6]; omega) (by show _ < ((200000 : Nat) : Int); omega)
  ·
    replace c105 := ti_eqN (a := r3) (b := (34 : Int32)) c105 rfl (show (34 : Int32).toInt = 34 from rfl)
    refine ok_chk ((congrFun kE_S1 x0).trans r_x0) ?_
    refine ok_chk ((congrFun kE_S1 x0).trans r_x0) ?_
    obtain ⟨⟨r8, S8⟩, h_r8, T_S8, A_S8, p_r8⟩ := t_f_X2_refuse (x0 := x0) (x1 := (1 : Int32)) (x2 := (zI S1 4 x0)) (SZ := S1) T_S1 (a7_0 S1) ((congrFun kE_S1 x0).trans r_x0)
    replace T_S8 : ZT S8 := T_S8
    replace A_S8 : A7 S1 S8 := A_S8
    dsimp only at p_r8
    refine ok_calR h_r8 ?_
    have q_S8 := fq_X2_refuse h_r8
    have kE_S8 : zK S8 = zK S1 := q_S8.2.2.1
    have nE_S8 : zN S8 = zN S1 := q_S8.2.2.2.1
    have R_S8 : RP SZ S8 := rp_f R_S1 T_S1 q_S8 (fz_X2_refuse h_r8) (by decide) A_S8
    have : (zI S8 4 x0).toInt = (zI S1 4 x0).toInt := congrArg Int32.toInt ((((fz_X2_refuse h_r8) T_S1.2.2.2.2.1).2.2 x0 (by rw [((congrFun kE_S1 x0).trans r_x0)]; decide)).2.2.1 4 (by rw [((congrFun kE_S1 x0).trans r_x0)]; decide))
    refine ok_chk ⟨q_S8.1, q_S8.2.1⟩ ?_
    refine ok_chk (nar_b (v := r8) (by omega) (by omega)) ?_
    exact ok_ret ⟨T_S8, R_S8, (show (0 : Int) ≤ r8.toInt ∧ r8.toInt ≤ (1 : Int) from (by omega))⟩
theorem t_d_X2_readValue {SZ S : ZS} {x0 : Nat} (hT : ZT S) (hR : RP SZ S) (r_x0 : zK S x0 = 2) : Ok (d_X2_readValue x0 S) (fun o => ZT o.2 ∧ RP SZ o.2 ∧ ((0 : Int) ≤ o.1.toInt ∧ o.1.toInt ≤ (1 : Int))) := t_d_X2_readValue_0 hT hR r_x0
theorem t_d_X8_copyWhole_87 {SZ S : ZS} {x0 : Nat} {t0 : Int32} {t1 : Nat} (hT : ZT S) (hR : RP SZ S) (r_x0 : zK S x0 = 8) (r_t0 : (0 : Int) ≤ t0.toInt ∧ t0.toInt ≤ (65535 : Int)) (r_t1 : zK S t1 = 8) : Ok (d_X8_copyWhole_87 x0 t0 t1 S) (fun o => ZT o.2 ∧ RP SZ o.2 ∧ True) := by
  unfold d_X8_copyWhole_87
  refine ok_chk r_t1 ?_
  refine ok_chk ⟨nar_c (v := t0) (by omega) (by omega), fits_ch (v := t0) (by omega)⟩ ?_
  refine ok_bnd (fun S1 e111 => ?_)
  have T_S1 : ZT S1 := e111.symm ▸ zt_I hT r_t1 (by decide) (show (0 : Int) ≤ t0.toInt ∧ t0.toInt ≤ (65535 : Int) from (by omega))
  have kE_S1 : zK S1 = zK S := by rw [e111]; rfl
  have nE_S1 : zN S1 = zN S := by rw [e111]; rfl
  have R_S1 : RP SZ S1 := rp_I hR hT r_t1 e111 (by decide)
  refine ok_chk ((congrFun kE_S1 x0).trans r_x0) ?_
  have j112 := J_8_9 T_S1 ((congrFun kE_S1 x0).trans r_x0)
  refine ok_if (fun c113 => ?_) (fun c113 => ?_)
  ·
    replace c113 := ti_eqP (a := (zI S1 9 x0)) (b := (0 : Int32)) c113 rfl (show (0 : Int32).toInt = 0 from rfl)
    unfold d_X8_copyWhole_113
    exact ok_ret ⟨T_S1, R_S1, trivial⟩
  ·
    replace c113 := ti_eqN (a := (zI S1 9 x0)) (b := (0 : Int32)) c113 rfl (show (0 : Int32).toInt = 0 from rfl)
    refine ok_chk ((congrFun kE_S1 x0).trans r_x0) ?_
    obtain ⟨b2, p_b2, k_b2, c_b2⟩ := T_8_1 T_S1 ((congrFun kE_S1 x0).trans r_x0)
    have lo_b2 := M_8_1 T_S1 ((congrFun kE_S1 x0).trans r_x0) p_b2
    have rl_b2 := rL_x1 lo_b2 c_b2
    refine ok_calR p_b2 ?_
    refine ok_chk ((congrFun kE_S1 x0).trans r_x0) ?_
    refine ok_calR p_b2 ?_
    refine ok_chk k_b2 ?_
    have j114 := J61_1 T_S1 k_b2 c_b2
    obtain ⟨r4, h_r4, p_r4⟩ := roz (t_f_X6_size (x0 := b2) T_S1 k_b2)
    dsimp only at p_r4
    refine ok_calR h_r4 ?_
    have s_r4 : r4.toInt = (zI S1 1 b2).toInt := congrArg Int32.toInt p_r4.2
    refine ok_chk ⟨rfl, rfl⟩ ?_
    refine ok_bnd (fun v5 e115 => ?_)
    have t_v5 : v5.toInt = r4.toInt - 1 := ti_sub e115 rfl (show (1 : Int32).toInt = 1 from rfl) (by omega) (by omega)
    refine ok_chk k_b2 ?_
    obtain ⟨⟨r6, S6⟩, h_r6, T_S6, A_S6, -⟩ := t_f_X6_keep (x0 := b2) (x1 := v5) (SZ := S1) T_S1 (a7_0 S1) k_b2 (by omega)
    replace T_S6 : ZT S6 := T_S6
    replace A_S6 : A7 S1 S6 := A_S6
    refine ok_calR h_r6 ?_
    have q_S6 := fq_X6_keep h_r6
    have kE_S6 : zK S6 = zK S1 := q_S6.2.2.1
    have nE_S6 : zN S6 = zN S1 := q_S6.2.2.2.1
    have R_S6 : RP SZ S6 := rp_f R_S1 T_S1 q_S6 (fz_X6_keep h_r6) (by decide) A_S6
    refine ok_chk ⟨q_S6.1, q_S6.2.1⟩ ?_
    unfold d_X8_copyWhole_113
    exact ok_ret ⟨T_S6, R_S6, trivial⟩
theorem t_d_X8_copyWhole_48 {SZ S : ZS} {x0 : Nat} (hT : ZT S) (hR : RP SZ S) (r_x0 : zK S x0 = 8) : Ok (d_X8_copyWhole_48 x0 S) (fun o => ZT o.2 ∧ RP SZ o.2 ∧ True) := by
  unfold d_X8_copyWhole_48
  refine ok_chk r_x0 ?_
  obtain ⟨b1, p_b1, k_b1, c_b1⟩ := T_8_1 hT r_x0
  have lo_b1 := M_8_1 hT r_x0 p_b1
  have rl_b1 := rL_x1 lo_b1 c_b1
  refine ok_calR p_b1 ?_
  refine ok_chk r_x0 ?_
  refine ok_calR p_b1 ?_
  refine ok_chk k_b1 ?_
  have j116 := J61_1 hT k_b1 c_b1
  obtain ⟨r3, h_r3, p_r3⟩ := roz (t_f_X6_size (x0 := b1) hT k_b1)
  dsimp only at p_r3
  refine ok_calR h_r3 ?_
  have s_r3 : r3.toInt = (zI S 1 b1).toInt := congrArg Int32.toInt p_r3.2
  refine ok_chk ⟨rfl, rfl⟩ ?_
  refine ok_bnd (fun v4 e117 => ?_)
  have t_v4 : v4.toInt = r3.toInt - 1 := ti_sub e117 rfl (show (1 : Int32).toInt = 1 from rfl) (by omega) (by omega)
  refine ok_chk k_b1 ?_
  obtain ⟨r5, h_r5, p_r5⟩ := roz (t_f_X6_at (x0 := b1) (x1 := v4) hT k_b1)
  dsimp only at p_r5
  refine ok_calR h_r5 ?_
  refine ok_chk ⟨rfl, rfl⟩ ?_
  refine ok_if (fun c118 => ?_) (fun c118 => ?_)
  ·
    replace c118 := ti_eqP (a := r5) (b := (43 : Int32)) c118 rfl (show (43 : Int32).toInt = 43 from rfl)
    unfold d_X8_copyWhole_81
    exact t_d_X8_copyWhole_87 (S := S)  (x0 := x0) (t0 := r5) (t1 := x0) hT hR r_x0 (by omega) r_x0
  ·
    replace c118 := ti_eqN (a := r5) (b := (43 : Int32)) c118 rfl (show (43 : Int32).toInt = 43 from rfl)
    refine ok_if (fun c119 => ?_) (fun c119 => ?_)
    ·
      replace c119 := ti_eqP (a := r5) (b := (35 : Int32)) c119 rfl (show (35 : Int32).toInt = 35 from rfl)
      unfold d_X8_copyWhole_81
      exact t_d_X8_copyWhole_87 (S := S)  (x0 := x0) (t0 := r5) (t1 := x0) hT hR r_x0 (by omega) r_x0
    ·
      replace c119 := ti_eqN (a := r5) (b := (35 : Int32)) c119 rfl (show (35 : Int32).toInt = 35 from rfl)
      exact t_d_X8_copyWhole_87 (S := S)  (x0 := x0) (t0 := (0 : Int32)) (t1 := x0) hT hR r_x0 (by decide) r_x0
theorem t_d_X8_copyWhole_11s {SZ S : ZS} {self11 : Nat → Nat → Int32 → Int32 → ZS → Option (Int32 × ZS)} {N11 : Nat} (hself11 : ∀ (x0 : Nat) (x1 : Nat) (x3 : Int32) (x4 : Int32) (S : ZS), ZT S → RP SZ S → (zK S x0 = 8) → (zK S x1 = 6) → (rc x1 ≤ 2) → ((0 : Int) ≤ x3.toInt ∧ x3.toInt ≤ (90100 : Int)) → ((0 : Int) ≤ x4.toInt ∧ x4.toInt ≤ (90100 : Int)) → (90101 - x4.toInt) < (N11 : Int) → Ok (self11 x0 x1 x3 x4 S) (fun o => ZT o.2 ∧ RP SZ o.2 ∧ True)) {x0 : Nat} {x1 : Nat} {x3 : Int32} {x4 : Int32} (hT : ZT S) (hR : RP SZ S) (r_x0 : zK S x0 = 8) (r_x1 : zK S x1 = 6) (c_x1 : rc x1 ≤ 2) (r_x3 : (0 : Int) ≤ x3.toInt ∧ x3.toInt ≤ (90100 : Int)) (r_x4 : (0 : Int) ≤ x4.toInt ∧ x4.toInt ≤ (90100 : Int)) (m11 : (90101 - x4.toInt) ≤ (N11 : Int)) : Ok (d_X8_copyWhole_11s self11 x0 x1 x3 x4 S) (fun o => ZT o.2 ∧ RP SZ o.2 ∧ True) := by
  unfold d_X8_copyWhole_11s
  refine ok_if (fun c120 => ?_) (fun c120 => ?_)
  ·
    replace c120 := ti_leP (a := x3) (b := x4) c120 rfl rfl
    exact t_d_X8_copyWhole_48 (S := S)  (x0 := x0) hT hR r_x0
  ·
    replace c120 := ti_leN (a := x3) (b := x4) c120 rfl rfl
    refine ok_chk r_x0 ?_
    obtain ⟨b1, p_b1, k_b1, c_b1⟩ := T_8_1 hT r_x0
    have lo_b1 := M_8_1 hT r_x0 p_b1
    have rl_b1 := rL_x1 lo_b1 c_b1
    refine ok_calR p_b1 ?_
    refine ok_chk k_b1 ?_
    have j121 := J61_1 hT k_b1 c_b1
    obtain ⟨r2, h_r2, p_r2⟩ := roz (t_f_X6_size (x0 := b1) hT k_b1)
    dsimp only at p_r2
    refine ok_calR h_r2 ?_
    have s_r2 : r2.toInt = (zI S 1 b1).toInt := congrArg Int32.toInt p_r2.2
    refine ok_chk ⟨rfl, rfl⟩ ?_
    refine ok_if (fun c122 => ?_) (fun c122 => ?_)
    ·
      replace c122 := ti_ltP (a := (7 : Int32)) (b := r2) c122 (show (7 : Int32).toInt = 7 from rfl) rfl
      exact t_d_X8_copyWhole_48 (S := S)  (x0 := x0) hT hR r_x0
    ·
      replace c122 := ti_ltN (a := (7 : Int32)) (b := r2) c122 (show (7 : Int32).toInt = 7 from rfl) rfl
      refine ok_chk r_x0 ?_
      refine ok_calR p_b1 ?_
      refine ok_chk r_x1 ?_
      have j123 := J61_2 hT r_x1 c_x1
      obtain ⟨r4, h_r4, p_r4⟩ := roz (t_f_X6_at (x0 := x1) (x1 := x4) hT r_x1)
      dsimp only at p_r4
      refine ok_calR h_r4 ?_
      refine ok_chk ⟨rfl, rfl⟩ ?_
      refine ok_chk k_b1 ?_
      obtain ⟨⟨r6, S7⟩, h_r6, T_S7, B_S7, p_r6_0, p_r6_1⟩ := t_d_X6_put (x0 := b1) (x1 := r4) (SZ := S) hT (rp_0 S) k_b1 (by omega) (by omega) (by omega)
      replace T_S7 : ZT S7 := T_S7
      replace B_S7 : RP S S7 := B_S7
      have R_S7 : RP SZ S7 := rp_t hR B_S7
      dsimp only at p_r6_0 p_r6_1
      refine ok_cal2R h_r6 ?_
      have g_S7 := (fz_X6_put h_r6 hT.2.2.2.2.1).2.2
      refine ok_bnd (fun v10 e124 => ?_)
      have t_v10 : v10.toInt = x4.toInt + 1 := ti_add e124 rfl (show (1 : Int32).toInt = 1 from rfl) (by omega) (by omega)
      exact hself11 x0 x1 x3 v10 S7 T_S7 R_S7 ((g_S7 x0 (lt18 r_x0 (by decide))).1.trans r_x0) ((g_S7 x1 (lt18 r_x1 (by decide))).1.trans r_x1) c_x1 r_x3 (by omega) (by omega)
theorem t_d_X8_copyWhole_11 {SZ : ZS} : ∀ (n : Nat) (x0 : Nat) (x1 : Nat) (x3 : Int32) (x4 : Int32) (S : ZS), ZT S → RP SZ S → (zK S x0 = 8) → (zK S x1 = 6) → (rc x1 ≤ 2) → ((0 : Int) ≤ x3.toInt ∧ x3.toInt ≤ (90100 : Int)) → ((0 : Int) ≤ x4.toInt ∧ x4.toInt ≤ (90100 : Int)) → (90101 - x4.toInt) < (n : Int) → Ok (d_X8_copyWhole_11  n x0 x1 x3 x4 S) (fun o => ZT o.2 ∧ RP SZ o.2 ∧ True) := by
  intro n
  induction n with
  | zero => intro x0 x1 x3 x4 S hT hR g0 g1 g2 g3 g4  hm; exfalso; omega
  | succ n ih =>
    intro x0 x1 x3 x4 S hT hR g0 g1 g2 g3 g4  hm
    exact t_d_X8_copyWhole_11s (N11 := n)  ih hT hR g0 g1 g2 g3 g4  (by omega)
theorem t_d_X8_copyWhole_0 {SZ S : ZS} {x0 : Nat} {x1 : Nat} {x2 : Int32} {x3 : Int32} (hT : ZT S) (hR : RP SZ S) (r_x0 : zK S x0 = 8) (r_x1 : zK S x1 = 6) (c_x1 : rc x1 ≤ 2) (r_x2 : (0 : Int) ≤ x2.toInt ∧ x2.toInt ≤ (90100 : Int)) (r_x3 : (0 : Int) ≤ x3.toInt ∧ x3.toInt ≤ (90100 : Int)) : Ok (d_X8_copyWhole_0 x0 x1 x2 x3 S) (fun o => ZT o.2 ∧ RP SZ o.2 ∧ True) := by
  unfold d_X8_copyWhole_0
  refine ok_chk r_x0 ?_
  obtain ⟨b1, p_b1, k_b1, c_b1⟩ := T_8_1 hT r_x0
  have lo_b1 := M_8_1 hT r_x0 p_b1
  have rl_b1 := rL_x1 lo_b1 c_b1
  refine ok_calR p_b1 ?_
  refine ok_chk k_b1 ?_
  have j125 := J61_1 hT k_b1 c_b1
  obtain ⟨⟨r2, S2⟩, h_r2, T_S2, A_S2, -⟩ := t_f_X6_keep (x0 := b1) (x1 := (0 : Int32)) (SZ := S) hT (a7_0 S) k_b1 (by have z0 : (0 : Int32).toInt = 0 := rfl; omega)
  replace T_S2 : ZT S2 := T_S2
  replace A_S2 : A7 S S2 := A_S2
  refine ok_calR h_r2 ?_
  have q_S2 := fq_X6_keep h_r2
  have kE_S2 : zK S2 = zK S := q_S2.2.2.1
  have nE_S2 : zN S2 = zN S := q_S2.2.2.2.1
  have R_S2 : RP SZ S2 := rp_f hR hT q_S2 (fz_X6_keep h_r2) (by decide) A_S2
  refine ok_chk ⟨q_S2.1, q_S2.2.1⟩ ?_
  exact t_d_X8_copyWhole_11   mFuel x0 x1 x3 x2 S2 T_S2 R_S2 ((congrFun kE_S2 x0).trans r_x0) ((congrFun kE_S2 x1).trans r_x1) c_x1 r_x3 r_x2 (by show _ < ((200000 : Nat) : Int); omega)
theorem t_d_X8_copyWhole {SZ S : ZS} {x0 : Nat} {x1 : Nat} {x2 : Int32} {x3 : Int32} (hT : ZT S) (hR : RP SZ S) (r_x0 : zK S x0 = 8) (r_x1 : zK S x1 = 6) (c_x1 : rc x1 ≤ 2) (r_x2 : (0 : Int) ≤ x2.toInt ∧ x2.toInt ≤ (90100 : Int)) (r_x3 : (0 : Int) ≤ x3.toInt ∧ x3.toInt ≤ (90100 : Int)) : Ok (d_X8_copyWhole x0 x1 x2 x3 S) (fun o => ZT o.2 ∧ RP SZ o.2 ∧ True) := t_d_X8_copyWhole_0 hT hR r_x0 r_x1 c_x1 r_x2 r_x3
theorem t_d_X8_copyBare_11s {SZ S : ZS} {self11 : Nat → Nat → Int32 → Int32 → ZS → Option (Int32 × ZS)} {N11 : Nat} (hself11 : ∀ (x0 : Nat) (x1 : Nat) (x3 : Int32) (x4 : Int32) (S : ZS), ZT S → RP SZ S → (zK S x0 = 8) → (zK S x1 = 6) → (rc x1 ≤ 2) → ((0 : Int) ≤ x3.toInt ∧ x3.toInt ≤ (90100 : Int)) → ((0 : Int) ≤ x4.toInt ∧ x4.toInt ≤ (90100 : Int)) → (90101 - x4.toInt) < (N11 : Int) → Ok (self11 x0 x1 x3 x4 S) (fun o => ZT o.2 ∧ RP SZ o.2 ∧ True)) {x0 : Nat} {x1 : Nat} {x3 : Int32} {x4 : Int32} (hT : ZT S) (hR : RP SZ S) (r_x0 : zK S x0 = 8) (r_x1 : zK S x1 = 6) (c_x1 : rc x1 ≤ 2) (r_x3 : (0 : Int) ≤ x3.toInt ∧ x3.toInt ≤ (90100 : Int)) (r_x4 : (0 : Int) ≤ x4.toInt ∧ x4.toInt ≤ (90100 : Int)) (m11 : (90101 - x4.toInt) ≤ (N11 : Int)) : Ok (d_X8_copyBare_11s self11 x0 x1 x3 x4 S) (fun o => ZT o.2 ∧ RP SZ o.2 ∧ True) := by
  unfold d_X8_copyBare_11s
  refine ok_if (fun c126 => ?_) (fun c126 => ?_)
  ·
    replace c126 := ti_leP (a := x3) (b := x4) c126 rfl rfl
    unfold d_X8_copyBare_73
    exact ok_ret ⟨hT, hR, trivial⟩
  ·
    replace c126 := ti_leN (a := x3) (b := x4) c126 rfl rfl
    refine ok_chk r_x0 ?_
    obtain ⟨b1, p_b1, k_b1, c_b1⟩ := T_8_1 hT r_x0
    have lo_b1 := M_8_1 hT r_x0 p_b1
    have rl_b1 := rL_x1 lo_b1 c_b1
    refine ok_calR p_b1 ?_
    refine ok_chk k_b1 ?_
    have j127 := J61_1 hT k_b1 c_b1
    obtain ⟨r2, h_r2, p_r2⟩ := roz (t_f_X6_size (x0 := b1) hT k_b1)
    dsimp only at p_r2
    refine ok_calR h_r2 ?_
    have s_r2 : r2.toInt = (zI S 1 b1).toInt := congrArg Int32.toInt p_r2.2
    refine ok_chk ⟨rfl, rfl⟩ ?_
    refine ok_if (fun c128 => ?_) (fun c128 => ?_)
    ·
      replace c128 := ti_ltP (a := (7 : Int32)) (b := r2) c128 (show (7 : Int32).toInt = 7 from rfl) rfl
      unfold d_X8_copyBare_73
      exact ok_ret ⟨hT, hR, trivial⟩
    ·
      replace c128 := ti_ltN (a := (7 : Int32)) (b := r2) c128 (show (7 : Int32).toInt = 7 from rfl) rfl
      refine ok_chk r_x1 ?_
      have j129 := J61_2 hT r_x1 c_x1
      obtain ⟨r3, h_r3, p_r3⟩ := roz (t_f_X6_at (x0 := x1) (x1 := x4) hT r_x1)
      dsimp only at p_r3
      refine ok_calR h_r3 ?_
      refine ok_chk ⟨rfl, rfl⟩ ?_
      refine ok_if (fun c130 => ?_) (fun c130 => ?_)
      ·
        replace c130 := ti_eqP (a := r3) (b := (120 : Int32)) c130 rfl (show (120 : Int32).toInt = 120 from rfl)
        unfold d_X8_copyBare_67
        refine ok_bnd (fun v1 e131 => ?_)
        have t_v1 : v1.toInt = x4.toInt + 1 := ti_add e131 rfl (show (1 : Int32).toInt = 1 from rfl) (by omega) (by omega)
        exact hself11 x0 x1 x3 v1 S hT hR r_x0 r_x1 c_x1 r_x3 (by omega) (by omega)
      ·
        replace c130 := ti_eqN (a := r3) (b := (120 : Int32)) c130 rfl (show (120 : Int32).toInt = 120 from rfl)
        refine ok_if (fun c132 => ?_) (fun c132 => ?_)
        ·
          replace c132 := ti_eqP (a := r3) (b := (43 : Int32)) c132 rfl (show (43 : Int32).toInt = 43 from rfl)
          unfold d_X8_copyBare_67
          refine ok_bnd (fun v1 e133 => ?_)
          have t_v1 : v1.toInt = x4.toInt + 1 := ti_add e133 rfl (show (1 : Int32).toInt = 1 from rfl) (by omega) (by omega)
          exact hself11 x0 x1 x3 v1 S hT hR r_x0 r_x1 c_x1 r_x3 (by omega) (by omega)
        ·
          replace c132 := ti_eqN (a := r3) (b := (43 : Int32)) c132 rfl (show (43 : Int32).toInt = 43 from rfl)
          refine ok_if (fun c134 => ?_) (fun c134 => ?_)
          ·
            replace c134 := ti_eqP (a := r3) (b := (35 : Int32)) c134 rfl (show (35 : Int32).toInt = 35 from rfl)
            unfold d_X8_copyBare_67
            refine ok_bnd (fun v1 e135 => ?_)
            have t_v1 : v1.toInt = x4.toInt + 1 := ti_add e135 rfl (show (1 : Int32).toInt = 1 from rfl) (by omega) (by omega)
            exact hself11 x0 x1 x3 v1 S hT hR r_x0 r_x1 c_x1 r_x3 (by omega) (by omega)
          ·
            replace c134 := ti_eqN (a := r3) (b := (35 : Int32)) c134 rfl (show (35 : Int32).toInt = 35 from rfl)
            refine ok_chk r_x0 ?_
            refine ok_calR p_b1 ?_
            refine ok_chk k_b1 ?_
            obtain ⟨⟨r6, S7⟩, h_r6, T_S7, B_S7, p_r6_0, p_r6_1⟩ := t_d_X6_put (x0 := b1) (x1 := r3) (SZ := S) hT (rp_0 S) k_b1 (by omega) (by omega) (by omega)
            replace T_S7 : ZT S7 := T_S7
            replace B_S7 : RP S S7 := B_S7
            have R_S7 : RP SZ S7 := rp_t hR B_S7
            dsimp only at p_r6_0 p_r6_1
            refine ok_cal2R h_r6 ?_
            have g_S7 := (fz_X6_put h_r6 hT.2.2.2.2.1).2.2
            unfold d_X8_copyBare_67
            refine ok_bnd (fun v1 e136 => ?_)
            have t_v1 : v1.toInt = x4.toInt + 1 := ti_add e136 rfl (show (1 : Int32).toInt = 1 from rfl) (by omega) (by omega)
            exact hself11 x0 x1 x3 v1 S7 T_S7 R_S7 ((g_S7 x0 (lt18 r_x0 (by decide))).1.trans r_x0) ((g_S7 x1 (lt18 r_x1 (by decide))).1.trans r_x1) c_x1 r_x3 (by omega) (by omega)
theorem t_d_X8_copyBare_11 {SZ : ZS} : ∀ (n : Nat) (x0 : Nat) (x1 : Nat) (x3 : Int32) (x4 : Int32) (S : ZS), ZT S → RP SZ S → (zK S x0 = 8) → (zK S x1 = 6) → (rc x1 ≤ 2) → ((0 : Int) ≤ x3.toInt ∧ x3.toInt ≤ (90100 : Int)) → ((0 : Int) ≤ x4.toInt ∧ x4.toInt ≤ (90100 : Int)) → (90101 - x4.toInt) < (n : Int) → Ok (d_X8_copyBare_11  n x0 x1 x3 x4 S) (fun o => ZT o.2 ∧ RP SZ o.2 ∧ True) := by
  intro n
  induction n with
  | zero => intro x0 x1 x3 x4 S hT hR g0 g1 g2 g3 g4  hm; exfalso; omega
  | succ n ih =>
    intro x0 x1 x3 x4 S hT hR g0 g1 g2 g3 g4  hm
    exact t_d_X8_copyBare_11s (N11 := n)  ih hT hR g0 g1 g2 g3 g4  (by omega)
theorem t_d_X8_copyBare_0 {SZ S : ZS} {x0 : Nat} {x1 : Nat} {x2 : Int32} {x3 : Int32} (hT : ZT S) (hR : RP SZ S) (r_x0 : zK S x0 = 8) (r_x1 : zK S x1 = 6) (c_x1 : rc x1 ≤ 2) (r_x2 : (0 : Int) ≤ x2.toInt ∧ x2.toInt ≤ (90100 : Int)) (r_x3 : (0 : Int) ≤ x3.toInt ∧ x3.toInt ≤ (90100 : Int)) : Ok (d_X8_copyBare_0 x0 x1 x2 x3 S) (fun o => ZT o.2 ∧ RP SZ o.2 ∧ True) := by
  unfold d_X8_copyBare_0
  refine ok_chk r_x0 ?_
  obtain ⟨b1, p_b1, k_b1, c_b1⟩ := T_8_1 hT r_x0
  have lo_b1 := M_8_1 hT r_x0 p_b1
  have rl_b1 := rL_x1 lo_b1 c_b1
  refine ok_calR p_b1 ?_
  refine ok_chk k_b1 ?_
  have j137 := J61_1 hT k_b1 c_b1
  obtain ⟨⟨r2, S2⟩, h_r2, T_S2, A_S2, -⟩ := t_f_X6_keep (x0 := b1) (x1 := (0 : Int32)) (SZ := S) hT (a7_0 S) k_b1 (by have z0 : (0 : Int32).toInt = 0 := rfl; omega)
  replace T_S2 : ZT S2 := T_S2
  replace A_S2 : A7 S S2 := A_S2
  refine ok_calR h_r2 ?_
  have q_S2 := fq_X6_keep h_r2
  have kE_S2 : zK S2 = zK S := q_S2.2.2.1
  have nE_S2 : zN S2 = zN S := q_S2.2.2.2.1
  have R_S2 : RP SZ S2 := rp_f hR hT q_S2 (fz_X6_keep h_r2) (by decide) A_S2
  refine ok_chk ⟨q_S2.1, q_S2.2.1⟩ ?_
  exact t_d_X8_copyBare_11   mFuel x0 x1 x3 x2 S2 T_S2 R_S2 ((congrFun kE_S2 x0).trans r_x0) ((congrFun kE_S2 x1).trans r_x1) c_x1 r_x3 r_x2 (by show _ < ((200000 : Nat) : Int); omega)
theorem t_d_X8_copyBare {SZ S : ZS} {x0 : Nat} {x1 : Nat} {x2 : Int32} {x3 : Int32} (hT : ZT S) (hR : RP SZ S) (r_x0 : zK S x0 = 8) (r_x1 : zK S x1 = 6) (c_x1 : rc x1 ≤ 2) (r_x2 : (0 : Int) ≤ x2.toInt ∧ x2.toInt ≤ (90100 : Int)) (r_x3 : (0 : Int) ≤ x3.toInt ∧ x3.toInt ≤ (90100 : Int)) : Ok (d_X8_copyBare x0 x1 x2 x3 S) (fun o => ZT o.2 ∧ RP SZ o.2 ∧ True) := t_d_X8_copyBare_0 hT hR r_x0 r_x1 c_x1 r_x2 r_x3
theorem t_d_X8_matched_103 {SZ S : ZS} {x0 : Nat} {x1 : Nat} {x2 : Nat} {x3 : Int32} {x4 : Int32} (hT : ZT S) (hR : RP SZ S) (r_x0 : zK S x0 = 8) (r_x1 : zK S x1 = 0) (r_x2 : zK S x2 = 6) (c_x2 : rc x2 ≤ 2) (r_x3 : (0 : Int) ≤ x3.toInt ∧ x3.toInt ≤ (90100 : Int)) (r_x4 : (0 : Int) ≤ x4.toInt ∧ x4.toInt ≤ (90100 : Int)) : Ok (d_X8_matched_103 x0 x1 x2 x3 x4 S) (fun o => ZT o.2 ∧ RP SZ o.2 ∧ True) := by
  unfold d_X8_matched_103
  have j138 := J_8_6 hT r_x0
  have j139 := J_8_2 hT r_x0
  have j140 := J_8_8 hT r_x0
  refine ok_chk r_x0 ?_
  have j141 := J61_2 hT r_x2 c_x2
  obtain ⟨⟨r2, S3⟩, h_r2, T_S3, B_S3, -⟩ := t_d_X8_copyBare (x0 := x0) (x1 := x2) (x2 := x3) (x3 := x4) (SZ := S) hT (rp_0 S) r_x0 r_x2 c_x2 r_x3 r_x4
  replace T_S3 : ZT S3 := T_S3
  replace B_S3 : RP S S3 := B_S3
  have R_S3 : RP SZ S3 := rp_t hR B_S3
  refine ok_cal2R h_r2 ?_
  have g_S3 := (fz_X8_copyBare h_r2 hT.2.2.2.2.1).2.2
  have : (zI S3 6 x0).toInt = (zI S 6 x0).toInt := congrArg Int32.toInt ((g_S3 x0 (lt18 r_x0 (by decide))).2.2.1 6 (by rw [r_x0]; decide))
  have : (zI S3 2 x0).toInt = (zI S 2 x0).toInt := congrArg Int32.toInt ((g_S3 x0 (lt18 r_x0 (by decide))).2.2.1 2 (by rw [r_x0]; decide))
  have : (zI S3 8 x0).toInt = (zI S 8 x0).toInt := congrArg Int32.toInt ((g_S3 x0 (lt18 r_x0 (by decide))).2.2.1 8 (by rw [r_x0]; decide))
  refine ok_chk ((g_S3 x0 (lt18 r_x0 (by decide))).1.trans r_x0) ?_
  obtain ⟨⟨r6, S6⟩, h_r6, T_S6, A_S6, p_r6, p_r6_0⟩ := t_f_X8_parse (x0 := x0) (SZ := S3) T_S3 (a7_0 S3) ((g_S3 x0 (lt18 r_x0 (by decide))).1.trans r_x0)
  replace T_S6 : ZT S6 := T_S6
  replace A_S6 : A7 S3 S6 := A_S6
  dsimp only at p_r6 p_r6_0
  refine ok_calR h_r6 ?_
  have q_S6 := fq_X8_parse h_r6
  have kE_S6 : zK S6 = zK S3 := q_S6.2.2.1
  have nE_S6 : zN S6 = zN S3 := q_S6.2.2.2.1
  have R_S6 : RP SZ S6 := rp_f R_S3 T_S3 q_S6 (fz_X8_parse h_r6) (by decide) A_S6
  refine ok_chk ⟨q_S6.1, q_S6.2.1⟩ ?_
  refine ok_if (fun c142 => ?_) (fun c142 => ?_)
  ·
    replace c142 := ti_eqP (a := r6) (b := (0 : Int32)) c142 rfl (show (0 : Int32).toInt = 0 from rfl)
    exact ok_ret ⟨T_S6, R_S6, trivial⟩
  ·
    replace c142 := ti_eqN (a := r6) (b := (0 : Int32)) c142 rfl (show (0 : Int32).toInt = 0 from rfl)
    refine ok_chk ((congrFun kE_S6 x0).trans ((g_S3 x0 (lt18 r_x0 (by decide))).1.trans r_x0)) ?_
    refine ok_bnd (fun S7 e143 => ?_)
    have T_S7 : ZT S7 := e143.symm ▸ zt_I T_S6 ((congrFun kE_S6 x0).trans ((g_S3 x0 (lt18 r_x0 (by decide))).1.trans r_x0)) (by decide) (show (-1 : Int) ≤ (-1 : Int32).toInt ∧ (-1 : Int32).toInt ≤ (1 : Int) from (by decide))
    have kE_S7 : zK S7 = zK S6 := by rw [e143]; rfl
    have nE_S7 : zN S7 = zN S6 := by rw [e143]; rfl
    have R_S7 : RP SZ S7 := rp_I R_S6 T_S6 ((congrFun kE_S6 x0).trans ((g_S3 x0 (lt18 r_x0 (by decide))).1.trans r_x0)) e143 (by decide)
    have : (zI S7 6 x0).toInt = (zI S6 6 x0).toInt := by rw [e143]; rfl
    have : (zI S7 2 x0).toInt = (zI S6 2 x0).toInt := by rw [e143]; rfl
    have : (zI S7 8 x0).toInt = (-1) := by rw [e143]; exact (congrArg Int32.toInt (zI_self _ _ _ _)).trans (show (-1 : Int32).toInt = -1 from rfl)
    refine ok_chk ((congrFun kE_S7 x0).trans ((congrFun kE_S6 x0).trans ((g_S3 x0 (lt18 r_x0 (by decide))).1.trans r_x0))) ?_
    have j144 := J_8_6 T_S7 ((congrFun kE_S7 x0).trans ((congrFun kE_S6 x0).trans ((g_S3 x0 (lt18 r_x0 (by decide))).1.trans r_x0)))
    have j145 := J_8_2 T_S7 ((congrFun kE_S7 x0).trans ((congrFun kE_S6 x0).trans ((g_S3 x0 (lt18 r_x0 (by decide))).1.trans r_x0)))
    obtain ⟨⟨r8, S8⟩, h_r8, T_S8, A_S8, -⟩ := t_f_X8_gather (x0 := x0) (x1 := x1) (SZ := S7) T_S7 (a7_0 S7) ((congrFun kE_S7 x0).trans ((congrFun kE_S6 x0).trans ((g_S3 x0 (lt18 r_x0 (by decide))).1.trans r_x0))) ((congrFun kE_S7 x1).trans ((congrFun kE_S6 x1).trans ((g_S3 x1 (lt18 r_x1 (by decide))).1.trans r_x1))) (by omega)
    replace T_S8 : ZT S8 := T_S8
    replace A_S8 : A7 S7 S8 := A_S8
    refine ok_calR h_r8 ?_
    have q_S8 := fq_X8_gather h_r8
    have kE_S8 : zK S8 = zK S7 := q_S8.2.2.1
    have nE_S8 : zN S8 = zN S7 := q_S8.2.2.2.1
    have R_S8 : RP SZ S8 := rp_f R_S7 T_S7 q_S8 (fz_X8_gather h_r8) (by decide) A_S8
    have : (zI S8 2 x0).toInt = (zI S7 2 x0).toInt := congrArg Int32.toInt ((((fz_X8_gather h_r8) T_S7.2.2.2.2.1).2.2 x0 (by rw [((congrFun kE_S7 x0).trans ((congrFun kE_S6 x0).trans ((g_S3 x0 (lt18 r_x0 (by decide))).1.trans r_x0)))]; decide)).2.2.1 2 (by rw [((congrFun kE_S7 x0).trans ((congrFun kE_S6 x0).trans ((g_S3 x0 (lt18 r_x0 (by decide))).1.trans r_x0)))]; decide))
    have : (zI S8 8 x0).toInt = (zI S7 8 x0).toInt := congrArg Int32.toInt ((((fz_X8_gather h_r8) T_S7.2.2.2.2.1).2.2 x0 (by rw [((congrFun kE_S7 x0).trans ((congrFun kE_S6 x0).trans ((g_S3 x0 (lt18 r_x0 (by decide))).1.trans r_x0)))]; decide)).2.2.1 8 (by rw [((congrFun kE_S7 x0).trans ((congrFun kE_S6 x0).trans ((g_S3 x0 (lt18 r_x0 (by decide))).1.trans r_x0)))]; decide))
    refine ok_chk ⟨q_S8.1, q_S8.2.1⟩ ?_
    refine ok_chk ((congrFun kE_S8 x0).trans ((congrFun kE_S7 x0).trans ((congrFun kE_S6 x0).trans ((g_S3 x0 (lt18 r_x0 (by decide))).1.trans r_x0)))) ?_
    have j146 := J_8_11 T_S8 ((congrFun kE_S8 x0).trans ((congrFun kE_S7 x0).trans ((congrFun kE_S6 x0).trans ((g_S3 x0 (lt18 r_x0 (by decide))).1.trans r_x0))))
    refine ok_if (fun c147 => ?_) (fun c147 => ?_)
    ·
      replace c147 := ti_eqP (a := (zI S8 11 x0)) (b := (1 : Int32)) c147 rfl (show (1 : Int32).toInt = 1 from rfl)
      unfold d_X8_matched_144
      exact ok_ret ⟨T_S8, R_S8, trivial⟩
    ·
      replace c147 := ti_eqN (a := (zI S8 11 x0)) (b := (1 : Int32)) c147 rfl (show (1 : Int32).toInt = 1 from rfl)
      unfold d_X8_matched_144
      exact ok_ret ⟨T_S8, R_S8, trivial⟩
theorem t_d_X8_matched_67 {SZ S : ZS} {self29 : Nat → Nat → Nat → Int32 → Int32 → Int32 → Int32 → Int32 → ZS → Option (Int32 × ZS)} {N29 : Nat} (hself29 : ∀ (x0 : Nat) (x1 : Nat) (x2 : Nat) (x3 : Int32) (x4 : Int32) (x5 : Int32) (x6 : Int32) (x7 : Int32) (S : ZS), ZT S → RP SZ S → (zK S x0 = 8) → (zK S x1 = 0) → (zK S x2 = 6) → (rc x2 ≤ 2) → ((0 : Int) ≤ x3.toInt ∧ x3.toInt ≤ (90100 : Int)) → ((0 : Int) ≤ x4.toInt ∧ x4.toInt ≤ (90100 : Int)) → ((0 : Int) ≤ x6.toInt ∧ x6.toInt ≤ (64 : Int)) → ((0 : Int) ≤ x7.toInt ∧ x7.toInt ≤ (64 : Int)) → (x6.toInt ≤ x7.toInt) → (65 - x7.toInt) < (N29 : Int) → Ok (self29 x0 x1 x2 x3 x4 x5 x6 x7 S) (fun o => ZT o.2 ∧ RP SZ o.2 ∧ True)) {x0 : Nat} {x1 : Nat} {x2 : Nat} {x3 : Int32} {x4 : Int32} {x6 : Int32} {x7 : Int32} (hT : ZT S) (hR : RP SZ S) (r_x0 : zK S x0 = 8) (r_x1 : zK S x1 = 0) (r_x2 : zK S x2 = 6) (c_x2 : rc x2 ≤ 2) (r_x3 : (0 : Int) ≤ x3.toInt ∧ x3.toInt ≤ (90100 : Int)) (r_x4 : (0 : Int) ≤ x4.toInt ∧ x4.toInt ≤ (90100 : Int)) (r_x6 : (0 : Int) ≤ x6.toInt ∧ x6.toInt ≤ (63 : Int)) (r_x7 : (0 : Int) ≤ x7.toInt ∧ x7.toInt ≤ (63 : Int)) (q0 : x6.toInt ≤ x7.toInt) (m29 : (65 - x7.toInt) ≤ (N29 : Int)) : Ok (d_X8_matched_67 self29 x0 x1 x2 x3 x4 x6 x7 S) (fun o => ZT o.2 ∧ RP SZ o.2 ∧ True) := by
  unfold d_X8_matched_67
  have j148 := J_8_6 hT r_x0
  have j149 := J_8_2 hT r_x0
  have j150 := J_8_8 hT r_x0
  refine ok_chk r_x0 ?_
  obtain ⟨b1, p_b1, k_b1, n_b1⟩ := T_8_10 hT r_x0
  refine ok_calR p_b1 ?_
  refine ok_chk k_b1 ?_
  refine ok_chk (ti_inN (v := x7) (n := 64) n_b1 (by omega) (by omega)) ?_
  refine ok_bnd (fun v2 e151 => ?_)
  refine ok_bnd (fun v3 e152 => ?_)
  have t_v3 : v3.toInt = x6.toInt + 1 := ti_add e152 rfl (show (1 : Int32).toInt = 1 from rfl) (by omega) (by omega)
  unfold d_X8_matched_79
  refine ok_bnd (fun v1 e153 => ?_)
  have t_v1 : v1.toInt = x7.toInt + 1 := ti_add e153 rfl (show (1 : Int32).toInt = 1 from rfl) (by omega) (by omega)
  exact hself29 x0 x1 x2 x3 x4 v2 v3 v1 S hT hR r_x0 r_x1 r_x2 c_x2 r_x3 r_x4 (by omega) (by omega) (by omega) (by omega)
theorem t_d_X8_matched_29s {SZ S : ZS} {self29 : Nat → Nat → Nat → Int32 → Int32 → Int32 → Int32 → Int32 → ZS → Option (Int32 × ZS)} {N29 : Nat} (hself29 : ∀ (x0 : Nat) (x1 : Nat) (x2 : Nat) (x3 : Int32) (x4 : Int32) (x5 : Int32) (x6 : Int32) (x7 : Int32) (S : ZS), ZT S → RP SZ S → (zK S x0 = 8) → (zK S x1 = 0) → (zK S x2 = 6) → (rc x2 ≤ 2) → ((0 : Int) ≤ x3.toInt ∧ x3.toInt ≤ (90100 : Int)) → ((0 : Int) ≤ x4.toInt ∧ x4.toInt ≤ (90100 : Int)) → ((0 : Int) ≤ x6.toInt ∧ x6.toInt ≤ (64 : Int)) → ((0 : Int) ≤ x7.toInt ∧ x7.toInt ≤ (64 : Int)) → (x6.toInt ≤ x7.toInt) → (65 - x7.toInt) < (N29 : Int) → Ok (self29 x0 x1 x2 x3 x4 x5 x6 x7 S) (fun o => ZT o.2 ∧ RP SZ o.2 ∧ True)) {x0 : Nat} {x1 : Nat} {x2 : Nat} {x3 : Int32} {x4 : Int32} {x5 : Int32} {x6 : Int32} {x7 : Int32} (hT : ZT S) (hR : RP SZ S) (r_x0 : zK S x0 = 8) (r_x1 : zK S x1 = 0) (r_x2 : zK S x2 = 6) (c_x2 : rc x2 ≤ 2) (r_x3 : (0 : Int) ≤ x3.toInt ∧ x3.toInt ≤ (90100 : Int)) (r_x4 : (0 : Int) ≤ x4.toInt ∧ x4.toInt ≤ (90100 : Int)) (r_x6 : (0 : Int) ≤ x6.toInt ∧ x6.toInt ≤ (64 : Int)) (r_x7 : (0 : Int) ≤ x7.toInt ∧ x7.toInt ≤ (64 : Int)) (q0 : x6.toInt ≤ x7.toInt) (m29 : (65 - x7.toInt) ≤ (N29 : Int)) : Ok (d_X8_matched_29s self29 x0 x1 x2 x3 x4 x5 x6 x7 S) (fun o => ZT o.2 ∧ RP SZ o.2 ∧ True) := by
  unfold d_X8_matched_29s
  have j154 := J_8_6 hT r_x0
  have j155 := J_8_2 hT r_x0
  have j156 := J_8_8 hT r_x0
  refine ok_chk r_x0 ?_
  have j157 := J_8_11 hT r_x0
  refine ok_if (fun c158 => ?_) (fun c158 => ?_)
  ·
    replace c158 := ti_leP (a := (zI S 11 x0)) (b := x7) c158 rfl rfl
    refine ok_if (fun c159 => ?_) (fun c159 => ?_)
    ·
      replace c159 := ti_leP (a := x6) (b := (0 : Int32)) c159 rfl (show (0 : Int32).toInt = 0 from rfl)
      exact t_d_X8_matched_103 (S := S)  (x0 := x0) (x1 := x1) (x2 := x2) (x3 := x3) (x4 := x4) hT hR r_x0 r_x1 r_x2 c_x2 r_x3 r_x4
    ·
      replace c159 := ti_leN (a := x6) (b := (0 : Int32)) c159 rfl (show (0 : Int32).toInt = 0 from rfl)
      refine ok_if (fun c160 => ?_) (fun c160 => ?_)
      ·
        replace c160 := ti_eqP (a := x6) (b := (1 : Int32)) c160 rfl (show (1 : Int32).toInt = 1 from rfl)
        unfold d_X8_matched_102
        exact ok_ret ⟨hT, hR, trivial⟩
      ·
        replace c160 := ti_eqN (a := x6) (b := (1 : Int32)) c160 rfl (show (1 : Int32).toInt = 1 from rfl)
        unfold d_X8_matched_102
        exact ok_ret ⟨hT, hR, trivial⟩
  ·
    replace c158 := ti_leN (a := (zI S 11 x0)) (b := x7) c158 rfl rfl
    refine ok_chk r_x0 ?_
    have j161 := J_8_9 hT r_x0
    refine ok_if (fun c162 => ?_) (fun c162 => ?_)
    ·
      replace c162 := ti_eqP (a := (zI S 9 x0)) (b := (0 : Int32)) c162 rfl (show (0 : Int32).toInt = 0 from rfl)
      exact t_d_X8_matched_67 (S := S) hself29 (x0 := x0) (x1 := x1) (x2 := x2) (x3 := x3) (x4 := x4) (x6 := x6) (x7 := x7) hT hR r_x0 r_x1 r_x2 c_x2 r_x3 r_x4 (by omega) (by omega) q0 m29
    ·
      replace c162 := ti_eqN (a := (zI S 9 x0)) (b := (0 : Int32)) c162 rfl (show (0 : Int32).toInt = 0 from rfl)
      refine ok_chk r_x0 ?_
      refine ok_chk r_x0 ?_
      obtain ⟨b1, p_b1, k_b1⟩ := T_8_0 hT r_x0
      refine ok_calR p_b1 ?_
      refine ok_chk r_x0 ?_
      obtain ⟨b2, p_b2, k_b2, n_b2⟩ := T_8_10 hT r_x0
      refine ok_calR p_b2 ?_
      refine ok_chk k_b2 ?_
      refine ok_chk (ti_inN (v := x7) (n := 64) n_b2 (by omega) (by omega)) ?_
      refine ok_bnd (fun v3 e163 => ?_)
      refine ok_chk k_b1 ?_
      obtain ⟨⟨r4, S4⟩, h_r4, T_S4, A_S4, p_r4⟩ := t_f_X7_checkSign (x0 := b1) (x1 := x1) (x2 := v3) (SZ := S) hT (a7_0 S) k_b1 r_x1
      replace T_S4 : ZT S4 := T_S4
      replace A_S4 : A7 S S4 := A_S4
      dsimp only at p_r4
      refine ok_calR h_r4 ?_
      have q_S4 := fq_X7_checkSign h_r4
      have kE_S4 : zK S4 = zK S := q_S4.2.2.1
      have nE_S4 : zN S4 = zN S := q_S4.2.2.2.1
      have R_S4 : RP SZ S4 := rp_f hR hT q_S4 (fz_X7_checkSign h_r4) (by decide) A_S4
      have : (zI S4 6 x0).toInt = (zI S 6 x0).toInt := congrArg Int32.toInt ((((fz_X7_checkSign h_r4) hT.2.2.2.2.1).2.2 x0 (by rw [r_x0]; decide)).2.2.1 6 (by rw [r_x0]; decide))
      have : (zI S4 2 x0).toInt = (zI S 2 x0).toInt := congrArg Int32.toInt ((((fz_X7_checkSign h_r4) hT.2.2.2.2.1).2.2 x0 (by rw [r_x0]; decide)).2.2.1 2 (by rw [r_x0]; decide))
      have : (zI S4 8 x0).toInt = (zI S 8 x0).toInt := congrArg Int32.toInt ((((fz_X7_checkSign h_r4) hT.2.2.2.2.1).2.2 x0 (by rw [r_x0]; decide)).2.2.1 8 (by rw [r_x0]; decide))
      refine ok_chk ⟨q_S4.1, q_S4.2.1⟩ ?_
      refine ok_if (fun c164 => ?_) (fun c164 => ?_)
      ·
        replace c164 := ti_eqP (a := (zI S 9 x0)) (b := r4) c164 rfl rfl
        exact t_d_X8_matched_67 (S := S4) hself29 (x0 := x0) (x1 := x1) (x2 := x2) (x3 := x3) (x4 := x4) (x6 := x6) (x7 := x7) T_S4 R_S4 ((congrFun kE_S4 x0).trans r_x0) ((congrFun kE_S4 x1).trans r_x1) ((congrFun kE_S4 x2).trans r_x2) c_x2 r_x3 r_x4 (by omega) (by omega) q0 m29
      ·
        replace c164 := ti_eqN (a := (zI S 9 x0)) (b := r4) c164 rfl rfl
        unfold d_X8_matched_79
        refine ok_bnd (fun v1 e165 => ?_)
        have t_v1 : v1.toInt = x7.toInt + 1 := ti_add e165 rfl (show (1 : Int32).toInt = 1 from rfl) (by omega) (by omega)
        exact hself29 x0 x1 x2 x3 x4 x5 x6 v1 S4 T_S4 R_S4 ((congrFun kE_S4 x0).trans r_x0) ((congrFun kE_S4 x1).trans r_x1) ((congrFun kE_S4 x2).trans r_x2) c_x2 r_x3 r_x4 r_x6 (by omega) (by omega) (by omega)
theorem t_d_X8_matched_29 {SZ : ZS} : ∀ (n : Nat) (x0 : Nat) (x1 : Nat) (x2 : Nat) (x3 : Int32) (x4 : Int32) (x5 : Int32) (x6 : Int32) (x7 : Int32) (S : ZS), ZT S → RP SZ S → (zK S x0 = 8) → (zK S x1 = 0) → (zK S x2 = 6) → (rc x2 ≤ 2) → ((0 : Int) ≤ x3.toInt ∧ x3.toInt ≤ (90100 : Int)) → ((0 : Int) ≤ x4.toInt ∧ x4.toInt ≤ (90100 : Int)) → ((0 : Int) ≤ x6.toInt ∧ x6.toInt ≤ (64 : Int)) → ((0 : Int) ≤ x7.toInt ∧ x7.toInt ≤ (64 : Int)) → (x6.toInt ≤ x7.toInt) → (65 - x7.toInt) < (n : Int) → Ok (d_X8_matched_29  n x0 x1 x2 x3 x4 x5 x6 x7 S) (fun o => ZT o.2 ∧ RP SZ o.2 ∧ True) := by
  intro n
  induction n with
  | zero => intro x0 x1 x2 x3 x4 x5 x6 x7 S hT hR g0 g1 g2 g3 g4 g5 g6 g7 g8  hm; exfalso; omega
  | succ n ih =>
    intro x0 x1 x2 x3 x4 x5 x6 x7 S hT hR g0 g1 g2 g3 g4 g5 g6 g7 g8  hm
    exact t_d_X8_matched_29s (N29 := n)  ih hT hR g0 g1 g2 g3 g4 g5 g6 g7 g8  (by omega)
theorem t_d_X8_matched_0 {SZ S : ZS} {x0 : Nat} {x1 : Nat} {x2 : Nat} {x3 : Int32} {x4 : Int32} (hT : ZT S) (hR : RP SZ S) (r_x0 : zK S x0 = 8) (r_x1 : zK S x1 = 0) (r_x2 : zK S x2 = 6) (c_x2 : rc x2 ≤ 2) (r_x3 : (0 : Int) ≤ x3.toInt ∧ x3.toInt ≤ (90100 : Int)) (r_x4 : (0 : Int) ≤ x4.toInt ∧ x4.toInt ≤ (90100 : Int)) : Ok (d_X8_matched_0 x0 x1 x2 x3 x4 S) (fun o => ZT o.2 ∧ RP SZ o.2 ∧ True) := by
  unfold d_X8_matched_0
  have j166 := J_8_6 hT r_x0
  have j167 := J_8_2 hT r_x0
  have j168 := J_8_8 hT r_x0
  refine ok_chk r_x0 ?_
  have j169 := J61_2 hT r_x2 c_x2
  obtain ⟨⟨r2, S3⟩, h_r2, T_S3, B_S3, -⟩ := t_d_X8_copyWhole (x0 := x0) (x1 := x2) (x2 := x3) (x3 := x4) (SZ := S) hT (rp_0 S) r_x0 r_x2 c_x2 r_x3 r_x4
  replace T_S3 : ZT S3 := T_S3
  replace B_S3 : RP S S3 := B_S3
  have R_S3 : RP SZ S3 := rp_t hR B_S3
  refine ok_cal2R h_r2 ?_
  have g_S3 := (fz_X8_copyWhole h_r2 hT.2.2.2.2.1).2.2
  have : (zI S3 6 x0).toInt = (zI S 6 x0).toInt := congrArg Int32.toInt ((g_S3 x0 (lt18 r_x0 (by decide))).2.2.1 6 (by rw [r_x0]; decide))
  have : (zI S3 2 x0).toInt = (zI S 2 x0).toInt := congrArg Int32.toInt ((g_S3 x0 (lt18 r_x0 (by decide))).2.2.1 2 (by rw [r_x0]; decide))
  have : (zI S3 8 x0).toInt = (zI S 8 x0).toInt := congrArg Int32.toInt ((g_S3 x0 (lt18 r_x0 (by decide))).2.2.1 8 (by rw [r_x0]; decide))
  refine ok_chk ((g_S3 x0 (lt18 r_x0 (by decide))).1.trans r_x0) ?_
  obtain ⟨⟨r6, S6⟩, h_r6, T_S6, A_S6, p_r6, p_r6_0⟩ := t_f_X8_parse (x0 := x0) (SZ := S3) T_S3 (a7_0 S3) ((g_S3 x0 (lt18 r_x0 (by decide))).1.trans r_x0)
  replace T_S6 : ZT S6 := T_S6
  replace A_S6 : A7 S3 S6 := A_S6
  dsimp only at p_r6 p_r6_0
  refine ok_calR h_r6 ?_
  have q_S6 := fq_X8_parse h_r6
  have kE_S6 : zK S6 = zK S3 := q_S6.2.2.1
  have nE_S6 : zN S6 = zN S3 := q_S6.2.2.2.1
  have R_S6 : RP SZ S6 := rp_f R_S3 T_S3 q_S6 (fz_X8_parse h_r6) (by decide) A_S6
  refine ok_chk ⟨q_S6.1, q_S6.2.1⟩ ?_
  refine ok_if (fun c170 => ?_) (fun c170 => ?_)
  ·
    replace c170 := ti_eqP (a := r6) (b := (0 : Int32)) c170 rfl (show (0 : Int32).toInt = 0 from rfl)
    exact t_d_X8_matched_103 (S := S6)  (x0 := x0) (x1 := x1) (x2 := x2) (x3 := x3) (x4 := x4) T_S6 R_S6 ((congrFun kE_S6 x0).trans ((g_S3 x0 (lt18 r_x0 (by decide))).1.trans r_x0)) ((congrFun kE_S6 x1).trans ((g_S3 x1 (lt18 r_x1 (by decide))).1.trans r_x1)) ((congrFun kE_S6 x2).trans ((g_S3 x2 (lt18 r_x2 (by decide))).1.trans r_x2)) c_x2 r_x3 r_x4
  ·
    replace c170 := ti_eqN (a := r6) (b := (0 : Int32)) c170 rfl (show (0 : Int32).toInt = 0 from rfl)
    refine ok_chk ((congrFun kE_S6 x0).trans ((g_S3 x0 (lt18 r_x0 (by decide))).1.trans r_x0)) ?_
    have j171 := J_8_6 T_S6 ((congrFun kE_S6 x0).trans ((g_S3 x0 (lt18 r_x0 (by decide))).1.trans r_x0))
    have j172 := J_8_2 T_S6 ((congrFun kE_S6 x0).trans ((g_S3 x0 (lt18 r_x0 (by decide))).1.trans r_x0))
    obtain ⟨⟨r7, S7⟩, h_r7, T_S7, A_S7, -⟩ := t_f_X8_gather (x0 := x0) (x1 := x1) (SZ := S6) T_S6 (a7_0 S6) ((congrFun kE_S6 x0).trans ((g_S3 x0 (lt18 r_x0 (by decide))).1.trans r_x0)) ((congrFun kE_S6 x1).trans ((g_S3 x1 (lt18 r_x1 (by decide))).1.trans r_x1)) (by omega)
    replace T_S7 : ZT S7 := T_S7
    replace A_S7 : A7 S6 S7 := A_S7
    refine ok_calR h_r7 ?_
    have q_S7 := fq_X8_gather h_r7
    have kE_S7 : zK S7 = zK S6 := q_S7.2.2.1
    have nE_S7 : zN S7 = zN S6 := q_S7.2.2.2.1
    have R_S7 : RP SZ S7 := rp_f R_S6 T_S6 q_S7 (fz_X8_gather h_r7) (by decide) A_S7
    have : (zI S7 2 x0).toInt = (zI S6 2 x0).toInt := congrArg Int32.toInt ((((fz_X8_gather h_r7) T_S6.2.2.2.2.1).2.2 x0 (by rw [((congrFun kE_S6 x0).trans ((g_S3 x0 (lt18 r_x0 (by decide))).1.trans r_x0))]; decide)).2.2.1 2 (by rw [((congrFun kE_S6 x0).trans ((g_S3 x0 (lt18 r_x0 (by decide))).1.trans r_x0))]; decide))
    have : (zI S7 8 x0).toInt = (zI S6 8 x0).toInt := congrArg Int32.toInt ((((fz_X8_gather h_r7) T_S6.2.2.2.2.1).2.2 x0 (by rw [((congrFun kE_S6 x0).trans ((g_S3 x0 (lt18 r_x0 (by decide))).1.trans r_x0))]; decide)).2.2.1 8 (by rw [((congrFun kE_S6 x0).trans ((g_S3 x0 (lt18 r_x0 (by decide))).1.trans r_x0))]; decide))
    refine ok_chk ⟨q_S7.1, q_S7.2.1⟩ ?_
    exact t_d_X8_matched_29   mFuel x0 x1 x2 x3 x4 (-1 : Int32) (0 : Int32) (0 : Int32) S7 T_S7 R_S7 ((congrFun kE_S7 x0).trans ((congrFun kE_S6 x0).trans ((g_S3 x0 (lt18 r_x0 (by decide))).1.trans r_x0))) ((congrFun kE_S7 x1).trans ((congrFun kE_S6 x1).trans ((g_S3 x1 (lt18 r_x1 (by decide))).1.trans r_x1))) ((congrFun kE_S7 x2).trans ((congrFun kE_S6 x2).trans ((g_S3 x2 (lt18 r_x2 (by decide))).1.trans r_x2))) c_x2 r_x3 r_x4 (by decide) (by decide) (by have z0 : (-1 : Int32).toInt = -1 := rfl; have z1 : (0 : Int32).toInt = 0 := rfl; have z2 : (0 : Int32).toInt = 0 := rfl; omega) (by show _ < ((200000 : Nat) : Int); have z0 : (-1 : Int32).toInt = -1 := rfl; have z1 : (0 : Int32).toInt = 0 := rfl; have z2 : (0 : Int32).toInt = 0 := rfl; omega)
theorem t_d_X8_matched {SZ S : ZS} {x0 : Nat} {x1 : Nat} {x2 : Nat} {x3 : Int32} {x4 : Int32} (hT : ZT S) (hR : RP SZ S) (r_x0 : zK S x0 = 8) (r_x1 : zK S x1 = 0) (r_x2 : zK S x2 = 6) (c_x2 : rc x2 ≤ 2) (r_x3 : (0 : Int) ≤ x3.toInt ∧ x3.toInt ≤ (90100 : Int)) (r_x4 : (0 : Int) ≤ x4.toInt ∧ x4.toInt ≤ (90100 : Int)) : Ok (d_X8_matched x0 x1 x2 x3 x4 S) (fun o => ZT o.2 ∧ RP SZ o.2 ∧ True) := t_d_X8_matched_0 hT hR r_x0 r_x1 r_x2 c_x2 r_x3 r_x4
theorem t_d_X2_readEnd_0 {SZ S : ZS} {x0 : Nat} (hT : ZT S) (hR : RP SZ S) (r_x0 : zK S x0 = 2) (q0 : (zI S 4 x0).toInt ≤ 90000) : Ok (d_X2_readEnd_0 x0 S) (fun o => ZT o.2 ∧ RP SZ o.2 ∧ ((0 : Int) ≤ o.1.toInt ∧ o.1.toInt ≤ (1 : Int))) := by
  unfold d_X2_readEnd_0
  have j173 := J_2_4 hT r_x0
  refine ok_chk r_x0 ?_
  obtain ⟨r1, h_r1, p_r1⟩ := roz (t_f_X2_resultHere (x0 := x0) hT r_x0)
  dsimp only at p_r1
  refine ok_calR h_r1 ?_
  refine ok_chk ⟨rfl, rfl⟩ ?_
  refine ok_chk r_x0 ?_
  obtain ⟨b2, p_b2, k_b2⟩ := T_2_3 hT r_x0
  have lo_b2 := M_2_3 hT r_x0 p_b2
  refine ok_calR p_b2 ?_
  refine ok_chk k_b2 ?_
  obtain ⟨r4, h_r4, p_r4⟩ := roz (t_d_X1_agreesWith (x0 := b2) (x1 := r1) hT k_b2)
  dsimp only at p_r4
  refine ok_cal2R h_r4 ?_
  refine ok_if (fun c174 => ?_) (fun c174 => ?_)
  ·
    replace c174 := ti_eqP (a := r4) (b := (0 : Int32)) c174 rfl (show (0 : Int32).toInt = 0 from rfl)
    refine ok_chk r_x0 ?_
    refine ok_chk r_x0 ?_
    obtain ⟨⟨r18, S18⟩, h_r18, T_S18, A_S18, p_r18⟩ := t_f_X2_refuse (x0 := x0) (x1 := (9 : Int32)) (x2 := (zI S 4 x0)) (SZ := S) hT (a7_0 S) r_x0
    replace T_S18 : ZT S18 := T_S18
    replace A_S18 : A7 S S18 := A_S18
    dsimp only at p_r18
    refine ok_calR h_r18 ?_
    have q_S18 := fq_X2_refuse h_r18
    have kE_S18 : zK S18 = zK S := q_S18.2.2.1
    have nE_S18 : zN S18 = zN S := q_S18.2.2.2.1
    have R_S18 : RP SZ S18 := rp_f hR hT q_S18 (fz_X2_refuse h_r18) (by decide) A_S18
    have : (zI S18 4 x0).toInt = (zI S 4 x0).toInt := congrArg Int32.toInt ((((fz_X2_refuse h_r18) hT.2.2.2.2.1).2.2 x0 (by rw [r_x0]; decide)).2.2.1 4 (by rw [r_x0]; decide))
    refine ok_chk ⟨q_S18.1, q_S18.2.1⟩ ?_
    refine ok_chk (nar_b (v := r18) (by omega) (by omega)) ?_
    exact ok_ret ⟨T_S18, R_S18, (show (0 : Int) ≤ r18.toInt ∧ r18.toInt ≤ (1 : Int) from (by omega))⟩
  ·
    replace c174 := ti_eqN (a := r4) (b := (0 : Int32)) c174 rfl (show (0 : Int32).toInt = 0 from rfl)
    refine ok_chk r_x0 ?_
    refine ok_calR p_b2 ?_
    refine ok_chk k_b2 ?_
    refine ok_bnd (fun S9 e175 => ?_)
    have T_S9 : ZT S9 := e175.symm ▸ zt_W hT k_b2 (by decide) rfl
    have kE_S9 : zK S9 = zK S := by rw [e175]; rfl
    have nE_S9 : zN S9 = zN S := by rw [e175]; rfl
    have R_S9 : RP SZ S9 := rp_I hR hT k_b2 e175 (by decide)
    have : (zI S9 4 x0).toInt = (zI S 4 x0).toInt := by rw [e175]; rfl
    refine ok_chk ((congrFun kE_S9 x0).trans r_x0) ?_
    obtain ⟨r10, h_r10, p_r10⟩ := roz (t_f_X11_resultSign (x0 := r1) T_S9 )
    dsimp only at p_r10
    refine ok_calR h_r10 ?_
    refine ok_chk ⟨rfl, rfl⟩ ?_
    refine ok_chk (show r10 < zSn from p_r10) ?_
    obtain ⟨r11, h_r11, p_r11⟩ := roz (t_f_J0_length_8abf5 (x0 := r10) T_S9 p_r10)
    dsimp only at p_r11
    refine ok_calR h_r11 ?_
    refine ok_chk ⟨rfl, rfl⟩ ?_
    refine ok_bnd (fun v12 e176 => ?_)
    have j177 := J_2_4 T_S9 ((congrFun kE_S9 x0).trans r_x0)
    have t_v12 : v12.toInt = (zI S9 4 x0).toInt + r11.toInt := ti_add e176 rfl rfl (by omega) (by omega)
    refine ok_chk ((congrFun kE_S9 x0).trans r_x0) ?_
    refine ok_bnd (fun S13 e178 => ?_)
    have T_S13 : ZT S13 := e178.symm ▸ zt_I T_S9 ((congrFun kE_S9 x0).trans r_x0) (by decide) (show (0 : Int) ≤ v12.toInt ∧ v12.toInt ≤ (90100 : Int) from (by omega))
    have kE_S13 : zK S13 = zK S9 := by rw [e178]; rfl
    have nE_S13 : zN S13 = zN S9 := by rw [e178]; rfl
    have R_S13 : RP SZ S13 := rp_I R_S9 T_S9 ((congrFun kE_S9 x0).trans r_x0) e178 (by decide)
    have : (zI S13 4 x0).toInt = v12.toInt := by rw [e178]; exact (congrArg Int32.toInt (zI_self _ _ _ _)).trans rfl
    refine ok_chk ((congrFun kE_S13 x0).trans ((congrFun kE_S9 x0).trans r_x0)) ?_
    obtain ⟨⟨r14, S14⟩, h_r14, T_S14, A_S14, -⟩ := t_f_X2_skipBlanks (x0 := x0) (SZ := S13) T_S13 (a7_0 S13) ((congrFun kE_S13 x0).trans ((congrFun kE_S9 x0).trans r_x0))
    replace T_S14 : ZT S14 := T_S14
    replace A_S14 : A7 S13 S14 := A_S14
    refine ok_calR h_r14 ?_
    have q_S14 := fq_X2_skipBlanks h_r14
    have kE_S14 : zK S14 = zK S13 := q_S14.2.2.1
    have nE_S14 : zN S14 = zN S13 := q_S14.2.2.2.1
    have R_S14 : RP SZ S14 := rp_f R_S13 T_S13 q_S14 (fz_X2_skipBlanks h_r14) (by decide) A_S14
    refine ok_chk ⟨q_S14.1, q_S14.2.1⟩ ?_
    refine ok_chk ((congrFun kE_S14 x0).trans ((congrFun kE_S13 x0).trans ((congrFun kE_S9 x0).trans r_x0))) ?_
    refine ok_chk ((congrFun kE_S14 x0).trans ((congrFun kE_S13 x0).trans ((congrFun kE_S9 x0).trans r_x0))) ?_
    obtain ⟨b15, p_b15, k_b15, c_b15⟩ := T_2_2 T_S14 ((congrFun kE_S14 x0).trans ((congrFun kE_S13 x0).trans ((congrFun kE_S9 x0).trans r_x0)))
    have rl_b15 := rL_ge b15
    refine ok_calR p_b15 ?_
    refine ok_chk k_b15 ?_
    have j179 := J61_2 T_S14 k_b15 c_b15
    obtain ⟨r16, h_r16, p_r16⟩ := roz (t_f_X6_size (x0 := b15) T_S14 k_b15)
    dsimp only at p_r16
    refine ok_calR h_r16 ?_
    have s_r16 : r16.toInt = (zI S14 1 b15).toInt := congrArg Int32.toInt p_r16.2
    refine ok_chk ⟨rfl, rfl⟩ ?_
    have j180 := J_2_4 T_S14 ((congrFun kE_S14 x0).trans ((congrFun kE_S13 x0).trans ((congrFun kE_S9 x0).trans r_x0)))
    refine ok_if (fun c181 => ?_) (fun c181 => ?_)
    ·
      replace c181 := ti_eqP (a := (zI S14 4 x0)) (b := r16) c181 rfl rfl
      unfold d_X2_readEnd_81
      unfold d_X2_readEnd_86
      refine ok_chk (by decide) ?_
      exact ok_ret ⟨T_S14, R_S14, (show (0 : Int) ≤ (1 : Int32).toInt ∧ (1 : Int32).toInt ≤ (1 : Int) from (by decide))⟩
    ·
      replace c181 := ti_eqN (a := (zI S14 4 x0)) (b := r16) c181 rfl rfl
      refine ok_chk ((congrFun kE_S14 x0).trans ((congrFun kE_S13 x0).trans ((congrFun kE_S9 x0).trans r_x0))) ?_
      refine ok_chk ((congrFun kE_S14 x0).trans ((congrFun kE_S13 x0).trans ((congrFun kE_S9 x0).trans r_x0))) ?_
      obtain ⟨⟨r17, S17⟩, h_r17, T_S17, A_S17, p_r17⟩ := t_f_X2_refuse (x0 := x0) (x1 := (1 : Int32)) (x2 := (zI S14 4 x0)) (SZ := S14) T_S14 (a7_0 S14) ((congrFun kE_S14 x0).trans ((congrFun kE_S13 x0).trans ((congrFun kE_S9 x0).trans r_x0)))
      replace T_S17 : ZT S17 := T_S17
      replace A_S17 : A7 S14 S17 := A_S17
      dsimp only at p_r17
      refine ok_calR h_r17 ?_
      have q_S17 := fq_X2_refuse h_r17
      have kE_S17 : zK S17 = zK S14 := q_S17.2.2.1
      have nE_S17 : zN S17 = zN S14 := q_S17.2.2.2.1
      have R_S17 : RP SZ S17 := rp_f R_S14 T_S14 q_S17 (fz_X2_refuse h_r17) (by decide) A_S17
      have : (zI S17 4 x0).toInt = (zI S14 4 x0).toInt := congrArg Int32.toInt ((((fz_X2_refuse h_r17) T_S14.2.2.2.2.1).2.2 x0 (by rw [((congrFun kE_S14 x0).trans ((congrFun kE_S13 x0).trans ((congrFun kE_S9 x0).trans r_x0)))]; decide)).2.2.1 4 (by rw [((congrFun kE_S14 x0).trans ((congrFun kE_S13 x0).trans ((congrFun kE_S9 x0).trans r_x0)))]; decide))
      refine ok_chk ⟨q_S17.1, q_S17.2.1⟩ ?_
      refine ok_if (fun c182 => ?_) (fun c182 => ?_)
      ·
        replace c182 := ti_eqP (a := r17) (b := (0 : Int32)) c182 rfl (show (0 : Int32).toInt = 0 from rfl)
        unfold d_X2_readEnd_86
        refine ok_chk (by decide) ?_
        exact ok_ret ⟨T_S17, R_S17, (show (0 : Int) ≤ (0 : Int32).toInt ∧ (0 : Int32).toInt ≤ (1 : Int) from (by decide))⟩
      ·
        replace c182 := ti_eqN (a := r17) (b := (0 : Int32)) c182 rfl (show (0 : Int32).toInt = 0 from rfl)
        unfold d_X2_readEnd_81
        unfold d_X2_readEnd_86
        refine ok_chk (by decide) ?_
        exact ok_ret ⟨T_S17, R_S17, (show (0 : Int) ≤ (1 : Int32).toInt ∧ (1 : Int32).toInt ≤ (1 : Int) from (by decide))⟩
theorem t_d_X2_readEnd {SZ S : ZS} {x0 : Nat} (hT : ZT S) (hR : RP SZ S) (r_x0 : zK S x0 = 2) (q0 : (zI S 4 x0).toInt ≤ 90000) : Ok (d_X2_readEnd x0 S) (fun o => ZT o.2 ∧ RP SZ o.2 ∧ ((0 : Int) ≤ o.1.toInt ∧ o.1.toInt ≤ (1 : Int))) := t_d_X2_readEnd_0 hT hR r_x0 q0
theorem t_d_X11_find_0 {SZ S : ZS} {x0 : Nat} (hT : ZT S) (hR : RP SZ S) (r_x0 : zK S x0 = 11) : Ok (d_X11_find_0 x0 S) (fun o => ZT o.2 ∧ RP SZ o.2 ∧ True) := by
  unfold d_X11_find_0
  refine ok_chk r_x0 ?_
  obtain ⟨b1, p_b1, k_b1⟩ := T_11_3 hT r_x0
  refine ok_calR p_b1 ?_
  refine ok_chk r_x0 ?_
  obtain ⟨b2, p_b2, k_b2⟩ := T_11_9 hT r_x0
  refine ok_calR p_b2 ?_
  refine ok_chk r_x0 ?_
  obtain ⟨b3, p_b3, k_b3, c_b3⟩ := T_11_0 hT r_x0
  have lo_b3 := M_11_0 hT r_x0 p_b3
  have rl_b3 := rL_x2 lo_b3 c_b3
  refine ok_calR p_b3 ?_
  refine ok_chk r_x0 ?_
  refine ok_calR p_b3 ?_
  refine ok_chk k_b3 ?_
  have j183 := J61_2 hT k_b3 c_b3
  obtain ⟨r5, h_r5, p_r5⟩ := roz (t_f_X6_size (x0 := b3) hT k_b3)
  dsimp only at p_r5
  refine ok_calR h_r5 ?_
  have s_r5 : r5.toInt = (zI S 1 b3).toInt := congrArg Int32.toInt p_r5.2
  refine ok_chk ⟨rfl, rfl⟩ ?_
  refine ok_chk k_b1 ?_
  obtain ⟨⟨r7, S8⟩, h_r7, T_S8, B_S8, -⟩ := t_d_X8_matched (x0 := b1) (x1 := b2) (x2 := b3) (x3 := (0 : Int32)) (x4 := r5) (SZ := S) hT (rp_0 S) k_b1 k_b2 k_b3 c_b3 (by decide) (by omega)
  replace T_S8 : ZT S8 := T_S8
  replace B_S8 : RP S S8 := B_S8
  have R_S8 : RP SZ S8 := rp_t hR B_S8
  refine ok_cal2R h_r7 ?_
  have g_S8 := (fz_X8_matched h_r7 hT.2.2.2.2.1).2.2
  exact ok_ret ⟨T_S8, R_S8, trivial⟩
theorem t_d_X11_find {SZ S : ZS} {x0 : Nat} (hT : ZT S) (hR : RP SZ S) (r_x0 : zK S x0 = 11) : Ok (d_X11_find x0 S) (fun o => ZT o.2 ∧ RP SZ o.2 ∧ True) := t_d_X11_find_0 hT hR r_x0
end
section
theorem zI_b {S : ZS} {j a i b : Nat} {v : Int32} (h : b ≠ a) : zI (zsI S j a v) i b = zI S i b := by
  show va_up (zI S) j (va_up (zI S j) a v) i b = zI S i b
  by_cases e : i = j
  · rw [e, va_up_self, va_up_ne _ _ h]
  · rw [va_up_ne _ _ e]
theorem zI_j {S : ZS} {j a i b : Nat} {v : Int32} (h : i ≠ j) : zI (zsI S j a v) i b = zI S i b := by
  show va_up (zI S) j (va_up (zI S j) a v) i b = zI S i b
  rw [va_up_ne _ _ h]
theorem zI_n {S : ZS} {q k n j a : Nat} (h : a ≠ q) : zI (zsNewO S q k n) j a = zI S j a := va_up_ne _ _ h
theorem zI_q {S : ZS} {q k n j : Nat} : zI (zsNewO S q k n) j q = 0 := va_up_self _ _ _
theorem zP_b {S : ZS} {j a i b : Nat} {v : Option Nat} (h : b ≠ a) : zP (zsP S j a v) i b = zP S i b := by
  show va_up (zP S) j (va_up (zP S j) a v) i b = zP S i b
  by_cases e : i = j
  · rw [e, va_up_self, va_up_ne _ _ h]
  · rw [va_up_ne _ _ e]
theorem zP_j {S : ZS} {j a i b : Nat} {v : Option Nat} (h : i ≠ j) : zP (zsP S j a v) i b = zP S i b := by
  show va_up (zP S) j (va_up (zP S j) a v) i b = zP S i b
  rw [va_up_ne _ _ h]
theorem zP_s {S : ZS} {j a : Nat} {v : Option Nat} : zP (zsP S j a v) j a = v := by
  show va_up (zP S) j (va_up (zP S j) a v) j a = v
  rw [va_up_self, va_up_self]
theorem zP_n {S : ZS} {q k n j a : Nat} (h : a ≠ q) : zP (zsNewO S q k n) j a = zP S j a := va_up_ne _ _ h
theorem zP_q {S : ZS} {q k n j : Nat} : zP (zsNewO S q k n) j q = none := va_up_self _ _ _
theorem zK_n {S : ZS} {q k n a : Nat} (h : a ≠ q) : zK (zsNewO S q k n) a = zK S a := va_up_ne _ _ h
theorem zK_q {S : ZS} {q k n : Nat} : zK (zsNewO S q k n) q = k := va_up_self _ _ _
theorem zt_ext {S S' : ZS} {N : Nat → Prop} (hT : ZT S) (hK : ∀ a, ¬ N a → zK S' a = zK S a) (hI : ∀ a j, ¬ N a → zI S' j a = zI S j a) (hP : ∀ a j, ¬ N a → zP S' j a = zP S j a) (hn : ∀ a, N a → zt S ≤ a) (eN : zN S' = zN S) (eA : zA S' = zA S) (eB : zB S' = zB S) (ec : zc S' = zc S) (et : zt S ≤ zt S') (hF : Fh S')
    (hg : ∀ a, N a → (zK S' a = 4 ∨ zK S' a = 6 ∨ zK S' a = 10) ∧ (∀ j, (pT (zK S' a) j).1 ≠ 99 → ∃ b, zP S' j a = some b ∧ zK S' b = (pT (zK S' a) j).1 ∧ (pT (zK S' a) j).2 = 0) ∧ (zK S' a = 6 → zP S' 0 a = some 0 ∧ (zI S' 1 a).toInt = 0) ∧ (∀ j, (bT (zK S' a) j).1 ≤ (zI S' j a).toInt ∧ (zI S' j a).toInt ≤ (bT (zK S' a) j).2) ∧ (∀ j b, zP S' j a = some b → cM (zK S' a) j ≤ rc b ∧ rc b ≤ cT (zK S' a) j)) : ZT S' := by
  obtain ⟨h1, h2, h3, h4, h5, h6, h7, h8, h9, h10, h11⟩ := hT
  have old : ∀ a, zK S a < 18 → ¬ N a := fun a ha hN => by have := h5 a (hn a hN); omega
  have kO : ∀ a, zK S a < 18 → zK S' a = zK S a := fun a ha => hK a (old a ha)
  have z0 : zcap S' 0 = 0 := if_pos rfl
  refine ⟨?_, ?_, ?_, ?_, hF, ?_, ?_, ?_, ?_, ?_, ?_⟩
  · intro a j ha hj
    by_cases hN : N a
    · obtain ⟨b, b1, b2, b3⟩ := (hg a hN).2.1 j hj
      exact ⟨b, b1, b2, Or.inl b3⟩
    · rw [hK a hN] at ha hj ⊢
      obtain ⟨c, c1, c2, c3⟩ := h1 a j ha hj
      have hc : zK S c < 18 := by rw [c2]; exact pT_lt _ _ hj
      exact ⟨c, by rw [hP a j hN]; exact c1, (kO c hc).trans c2, by rw [eN]; exact c3⟩
  · intro a ha
    by_cases hN : N a
    · obtain ⟨b1, b2⟩ := (hg a hN).2.2.1 ha
      exact ⟨0, b1, Or.inl rfl, by omega, by omega, by omega, by omega⟩
    · rw [hK a hN] at ha
      obtain ⟨c, c1, c2, c3, c4, c5, c6⟩ := h2 a ha
      have hz : zcap S' c = zcap S c := by unfold zcap; rw [eN]
      refine ⟨c, by rw [hP a 0 hN]; exact c1, ?_, by rw [hI a 1 hN]; exact c3, by rw [hI a 1 hN, hz]; exact c4, by rw [hI a 1 hN]; exact c5, by rw [hz]; exact c6⟩
      rcases c2 with e | e
      · exact Or.inl e
      · exact Or.inr ((kO c (by omega)).trans e)
  · intro a j ha
    by_cases hN : N a
    · exact (hg a hN).2.2.2.1 j
    · rw [hK a hN] at ha ⊢
      rw [hI a j hN]; exact h3 a j ha
  · intro a
    rw [eB]
    have kk : zK S' a = 15 ∨ zK S' a = 16 ∨ zK S' a = 17 → zK S a = zK S' a := fun h => by
      have hN : ¬ N a := fun hN => by have := (hg a hN).1; omega
      exact (hK a hN).symm
    refine ⟨fun ha i hi => ?_, fun ha i c hc => ?_, fun ha i c hc => ?_⟩
    · obtain ⟨c, c1, c2⟩ := (h4 a).1 ((kk (by omega)).trans ha) i hi
      exact ⟨c, c1, (kO c (by omega)).trans c2⟩
    · have := (h4 a).2.1 ((kk (by omega)).trans ha) i c hc
      exact (kO c (by omega)).trans this
    · have := (h4 a).2.2 ((kk (by omega)).trans ha) i c hc
      exact (kO c (by omega)).trans this
  · rw [hK 0 (fun hN => by have := hn 0 hN; omega)]; exact h6
  · intro a ha i
    have hN : ¬ N a := fun hN => by have := (hg a hN).1; omega
    rw [hK a hN] at ha
    rw [eA]; exact h7 a ha i
  · intro a j ha b hb
    by_cases hN : N a
    · exact (hg a hN).2.2.2.2 j b hb
    · rw [hK a hN] at ha ⊢
      rw [hP a j hN] at hb
      exact h8 a j ha b hb
  · intro a ha b hb i hi
    have hN : ¬ N a := fun hN => by have := (hg a hN).1; omega
    rw [hK a hN] at ha
    rw [hP a 4 hN] at hb
    rw [hI a 5 hN] at hi
    rw [eB]; exact h9 a ha b hb i hi
  · rw [ec]; exact h10
  · refine ⟨by omega, fun a a' b ka ka' pa pa' => ?_⟩
    by_cases hN : N a
    · rw [((hg a hN).2.2.1 ka).1] at pa
      cases pa
      exact Or.inl rfl
    · by_cases hN' : N a'
      · rw [((hg a' hN').2.2.1 ka').1] at pa'
        cases pa'
        exact Or.inl rfl
      · rw [hK a hN] at ka
        rw [hK a' hN'] at ka'
        rw [hP a 0 hN] at pa
        rw [hP a' 0 hN'] at pa'
        exact h11.2 a a' b ka ka' pa pa'
theorem ps_old {S S' : ZS} {N : Nat → Prop} (hK : ∀ a, ¬ N a → zK S' a = zK S a) (hP : ∀ a j, ¬ N a → zP S' j a = zP S j a) (hn : ∀ a, N a → zt S ≤ a) (eN : zN S' = zN S) (eB : zB S' = zB S) : sumN (pot S') (zt S) = PS S := by
  refine sumN_congr _ (fun a ha => ?_)
  have hN : ¬ N a := fun h => by have := hn a h; omega
  unfold pot zcap
  rw [hK a hN, hP a 0 hN, eB, eN]
theorem pT6 (j : Nat) : (pT 6 j).1 = 99 := by unfold pT; simp
theorem bT6 (j : Nat) : bT 6 j = tF := by unfold bT; simp
theorem pT4 {j : Nat} (h : j ≠ 6) : (pT 4 j).1 = 99 := by unfold pT; simp [h]
theorem bT4 {j : Nat} (h : j ≠ 4) : bT 4 j = tF := by unfold bT; simp [h]
theorem cM4 (j : Nat) : cM 4 j = 0 := by unfold cM; simp
theorem cM10 (j : Nat) : cM 10 j = 0 := by unfold cM; simp
theorem pT10 {j : Nat} (h : j ≠ 0) (h2 : j ≠ 1) : (pT 10 j).1 = 99 := by unfold pT; simp [h, h2]
theorem bT10 (j : Nat) : bT 10 j = tF := by unfold bT; simp
/-- a new row -/
noncomputable def zRw (S : ZS) : ZS := zsI (zsP (zsNewO S (zt S) 6 2) 0 (zt S) (some (zc S))) 1 (zt S) 0
noncomputable def zN6 (S : ZS) : ZS := zsI (zsI (zsI (zsI (zsI (zsI (zsNewO S (zt S) 4 7) 0 (zt S) (-1)) 1 (zt S) (-1)) 2 (zt S) (-1)) 3 (zt S) (-1)) 4 (zt S) 0) 5 (zt S) 0
noncomputable def zNd (S : ZS) : ZS := zsP (zRw (zN6 S)) 6 (zt S) (some (zt S + 1))
theorem init6 {S : ZS} {x : Nat} (h : zK S x = 6) : f_X6_init x S = some (0, zsI (zsP S 0 x (some (zc S))) 1 x 0) := by
  have hk : Ok (f_X6_init_0 x S) (fun o => o = (0, zsI (zsP S 0 x (some (zc S))) 1 x 0)) := by
    unfold f_X6_init_0
    refine ok_chk h (ok_bnd (fun S1 e1 => ?_))
    have k1 : zK S1 x = 6 := by rw [e1]; exact h
    refine ok_chk k1 (ok_bnd (fun S2 e2 => ok_ret ?_))
    rw [e2, e1]
  obtain ⟨r, h1, h2⟩ := hk
  show f_X6_init_0 x S = _
  rw [h1, h2]
theorem init4 (S : ZS) : d_X4_init (zt S) (zsNewO S (zt S) 4 7) = some (0, zNd S) := by
  have hk : Ok (d_X4_init_0 (zt S) (zsNewO S (zt S) 4 7)) (fun o => o = (0, zNd S)) := by
    unfold d_X4_init_0
    have kq : zK (zsNewO S (zt S) 4 7) (zt S) = 4 := zK_q
    refine ok_chk kq (ok_bnd (fun S1 e1 => ?_))
    have k1 : zK S1 (zt S) = 4 := by rw [e1]; exact kq
    refine ok_chk k1 (ok_bnd (fun S2 e2 => ?_))
    have k2 : zK S2 (zt S) = 4 := by rw [e2]; exact k1
    refine ok_chk k2 (ok_bnd (fun S3 e3 => ?_))
    have k3 : zK S3 (zt S) = 4 := by rw [e3]; exact k2
    refine ok_chk k3 (ok_bnd (fun S4 e4 => ?_))
    have k4 : zK S4 (zt S) = 4 := by rw [e4]; exact k3
    refine ok_chk k4 (ok_bnd (fun S5 e5 => ?_))
    have k5 : zK S5 (zt S) = 4 := by rw [e5]; exact k4
    refine ok_chk k5 (ok_bnd (fun S6 e6 => ?_))
    have k6 : zK S6 (zt S) = 4 := by rw [e6]; exact k5
    have e : S6 = zN6 S := by rw [e6, e5, e4, e3, e2, e1]; rfl
    have et : zt S6 = zt S + 1 := by rw [e]; rfl
    refine ok_bnd (fun q7 e7 => ok_bnd (fun S8 e8 => ?_))
    have k8 : zK S8 q7 = 6 := by rw [e8]; exact zK_q
    have k8' : zK S8 (zt S) = 4 := by rw [e8, zK_n (by omega)]; exact k6
    refine ok_calR (init6 k8) (ok_chk ⟨rfl, rfl⟩ (ok_chk k8' (ok_bnd (fun S12 e12 => ok_ret ?_))))
    show (0, S12) = (0, zNd S)
    rw [e12, e8, e7, e]
    rfl
  obtain ⟨r, h1, h2⟩ := hk
  show d_X4_init_0 _ _ = _
  rw [h1, h2]
theorem nd_k1 (S : ZS) : zK (zNd S) = va_up (va_up (zK S) (zt S) 4) (zt S + 1) 6 := rfl
theorem nd_k2 (S : ZS) (a j : Nat) (h : ¬ (a = zt S ∨ a = zt S + 1)) : zI (zNd S) j a = zI S j a := by
  have ha : a ≠ zt S := fun e => h (Or.inl e)
  have ha' : a ≠ zt (zN6 S) := fun e => h (Or.inr e)
  unfold zNd
  show zI (zRw (zN6 S)) j a = _
  unfold zRw
  rw [zI_b ha']
  show zI (zsNewO (zN6 S) (zt (zN6 S)) 6 2) j a = _
  rw [zI_n ha']
  unfold zN6
  rw [zI_b ha, zI_b ha, zI_b ha, zI_b ha, zI_b ha, zI_b ha, zI_n ha]
theorem nd_k3 (S : ZS) (a j : Nat) (h : ¬ (a = zt S ∨ a = zt S + 1)) : zP (zNd S) j a = zP S j a := by
  have ha : a ≠ zt S := fun e => h (Or.inl e)
  have ha' : a ≠ zt (zN6 S) := fun e => h (Or.inr e)
  unfold zNd
  rw [zP_b ha]
  unfold zRw
  show zP (zsP (zsNewO (zN6 S) (zt (zN6 S)) 6 2) 0 (zt (zN6 S)) (some (zc (zN6 S)))) j a = _
  rw [zP_b ha', zP_n ha']
  unfold zN6
  show zP (zsNewO S (zt S) 4 7) j a = _
  rw [zP_n ha]
theorem nd_f (S : ZS) : (∀ a, ¬ (a = zt S ∨ a = zt S + 1) → zK (zNd S) a = zK S a) ∧ (∀ a j, ¬ (a = zt S ∨ a = zt S + 1) → zI (zNd S) j a = zI S j a) ∧ (∀ a j, ¬ (a = zt S ∨ a = zt S + 1) → zP (zNd S) j a = zP S j a) ∧ zK (zNd S) (zt S) = 4 ∧ zK (zNd S) (zt S + 1) = 6 := by
  refine ⟨fun a h => ?_, nd_k2 S, nd_k3 S, ?_, ?_⟩
  · rw [nd_k1, va_up_ne _ _ (by omega), va_up_ne _ _ (by omega)]
  · rw [nd_k1, va_up_ne _ _ (by omega), va_up_self]
  · rw [nd_k1, va_up_self]
theorem e_I (S : ZS) (j a : Nat) (v : Int32) : zN (zsI S j a v) = zN S ∧ zA (zsI S j a v) = zA S ∧ zB (zsI S j a v) = zB S ∧ zc (zsI S j a v) = zc S := ⟨rfl, rfl, rfl, rfl⟩
theorem e_P (S : ZS) (j a : Nat) (v : Option Nat) : zN (zsP S j a v) = zN S ∧ zA (zsP S j a v) = zA S ∧ zB (zsP S j a v) = zB S ∧ zc (zsP S j a v) = zc S := ⟨rfl, rfl, rfl, rfl⟩
theorem e_O (S : ZS) (q k n : Nat) : zN (zsNewO S q k n) = zN S ∧ zA (zsNewO S q k n) = zA S ∧ zB (zsNewO S q k n) = zB S ∧ zc (zsNewO S q k n) = zc S := ⟨rfl, rfl, rfl, rfl⟩
theorem rw_e (S : ZS) : zN (zRw S) = zN S ∧ zA (zRw S) = zA S ∧ zB (zRw S) = zB S ∧ zc (zRw S) = zc S := by
  unfold zRw
  refine ⟨?_, ?_, ?_, ?_⟩
  · rw [(e_I _ _ _ _).1, (e_P _ _ _ _).1, (e_O _ _ _ _).1]
  · rw [(e_I _ _ _ _).2.1, (e_P _ _ _ _).2.1, (e_O _ _ _ _).2.1]
  · rw [(e_I _ _ _ _).2.2.1, (e_P _ _ _ _).2.2.1, (e_O _ _ _ _).2.2.1]
  · rw [(e_I _ _ _ _).2.2.2, (e_P _ _ _ _).2.2.2, (e_O _ _ _ _).2.2.2]
theorem n6_e (S : ZS) : zN (zN6 S) = zN S ∧ zA (zN6 S) = zA S ∧ zB (zN6 S) = zB S ∧ zc (zN6 S) = zc S := by
  unfold zN6
  refine ⟨?_, ?_, ?_, ?_⟩
  · rw [(e_I _ _ _ _).1, (e_I _ _ _ _).1, (e_I _ _ _ _).1, (e_I _ _ _ _).1, (e_I _ _ _ _).1, (e_I _ _ _ _).1, (e_O _ _ _ _).1]
  · rw [(e_I _ _ _ _).2.1, (e_I _ _ _ _).2.1, (e_I _ _ _ _).2.1, (e_I _ _ _ _).2.1, (e_I _ _ _ _).2.1, (e_I _ _ _ _).2.1, (e_O _ _ _ _).2.1]
  · rw [(e_I _ _ _ _).2.2.1, (e_I _ _ _ _).2.2.1, (e_I _ _ _ _).2.2.1, (e_I _ _ _ _).2.2.1, (e_I _ _ _ _).2.2.1, (e_I _ _ _ _).2.2.1, (e_O _ _ _ _).2.2.1]
  · rw [(e_I _ _ _ _).2.2.2, (e_I _ _ _ _).2.2.2, (e_I _ _ _ _).2.2.2, (e_I _ _ _ _).2.2.2, (e_I _ _ _ _).2.2.2, (e_I _ _ _ _).2.2.2, (e_O _ _ _ _).2.2.2]
theorem rw_t (S : ZS) : zt (zRw S) = zt S + 1 := rfl
theorem rw_u (S : ZS) : zu (zRw S) = zu S + 2 := rfl
theorem nd_t (S : ZS) : zt (zN6 S) = zt S + 1 := rfl
theorem nd_c (S : ZS) : zc (zN6 S) = zc S := (n6_e S).2.2.2
theorem nd_p1 (S : ZS) (j : Nat) (hj : j ≠ 6) : zP (zNd S) j (zt S) = none := by
  unfold zNd
  rw [zP_j hj]
  unfold zRw
  show zP (zsP (zsNewO (zN6 S) (zt (zN6 S)) 6 2) 0 (zt (zN6 S)) (some (zc (zN6 S)))) j (zt S) = _
  have hq : zt S ≠ zt (zN6 S) := by rw [nd_t]; omega
  rw [zP_b hq, zP_n hq]
  unfold zN6
  show zP (zsNewO S (zt S) 4 7) j (zt S) = _
  rw [zP_q]
theorem nd_p2 (S : ZS) : zP (zNd S) 6 (zt S) = some (zt S + 1) := by
  unfold zNd
  exact zP_s
theorem nd_p3 (S : ZS) : zP (zNd S) 0 (zt S + 1) = some (zc S) := by
  unfold zNd
  rw [zP_b (by omega)]
  unfold zRw
  show zP (zsP (zsNewO (zN6 S) (zt (zN6 S)) 6 2) 0 (zt (zN6 S)) (some (zc (zN6 S)))) 0 (zt S + 1) = _
  rw [← nd_t S, zP_s, nd_c]
theorem nd_i1 (S : ZS) : zI (zNd S) 4 (zt S) = 0 := by
  unfold zNd
  show zI (zRw (zN6 S)) 4 (zt S) = _
  have hq : zt S ≠ zt (zN6 S) := by rw [nd_t]; omega
  unfold zRw
  rw [zI_b hq]
  show zI (zsNewO (zN6 S) (zt (zN6 S)) 6 2) 4 (zt S) = _
  rw [zI_n hq]
  unfold zN6
  rw [zI_j (by decide), zI_self]
theorem nd_i2 (S : ZS) : zI (zNd S) 1 (zt S + 1) = 0 := by
  unfold zNd
  show zI (zRw (zN6 S)) 1 (zt S + 1) = _
  rw [← nd_t S]
  unfold zRw
  rw [zI_self]
theorem nd_e (S : ZS) : zN (zNd S) = zN S ∧ zA (zNd S) = zA S ∧ zB (zNd S) = zB S ∧ zc (zNd S) = zc S ∧ zt (zNd S) = zt S + 2 ∧ zu (zNd S) = zu S + 9 := by
  have a1 : zt (zNd S) = zt (zRw (zN6 S)) := rfl
  have b1 : zu (zNd S) = zu (zRw (zN6 S)) := rfl
  have b3 : zu (zN6 S) = zu S + 7 := rfl
  have r := rw_e (zN6 S)
  have n := n6_e S
  refine ⟨?_, ?_, ?_, ?_, ?_, ?_⟩
  · unfold zNd; rw [(e_P _ _ _ _).1, r.1, n.1]
  · unfold zNd; rw [(e_P _ _ _ _).2.1, r.2.1, n.2.1]
  · unfold zNd; rw [(e_P _ _ _ _).2.2.1, r.2.2.1, n.2.2.1]
  · unfold zNd; rw [(e_P _ _ _ _).2.2.2, r.2.2.2, n.2.2.2]
  · rw [a1, rw_t, nd_t]
  · rw [b1, rw_u, b3]
theorem zt_Nd0 {S S' : ZS} (hT : ZT S) (f1 : ∀ a, ¬ (a = zt S ∨ a = zt S + 1) → zK S' a = zK S a) (f2 : ∀ a j, ¬ (a = zt S ∨ a = zt S + 1) → zI S' j a = zI S j a) (f3 : ∀ a j, ¬ (a = zt S ∨ a = zt S + 1) → zP S' j a = zP S j a) (f4 : zK S' (zt S) = 4) (f5 : zK S' (zt S + 1) = 6) (pq : ∀ j, j ≠ 6 → zP S' j (zt S) = none) (pq6 : zP S' 6 (zt S) = some (zt S + 1)) (pr0 : zP S' 0 (zt S + 1) = some (zc S)) (i4 : zI S' 4 (zt S) = 0) (i1 : zI S' 1 (zt S + 1) = 0) (he : zN S' = zN S ∧ zA S' = zA S ∧ zB S' = zB S ∧ zc S' = zc S ∧ zt S' = zt S + 2 ∧ zu S' = zu S + 9) : ZT S' ∧ PS S' = PS S + 410 := by
  have h11 : 109 ≤ zt S := hT.2.2.2.2.2.2.2.2.2.2.1
  have hc : zc S = 0 := hT.2.2.2.2.2.2.2.2.2.1
  obtain ⟨g1, g2, g3, g4, g5, g6⟩ := he
  refine ⟨zt_ext (N := fun a => a = zt S ∨ a = zt S + 1) hT f1 f2 f3 (fun a h => by omega) g1 g2 g3 g4 (by omega) (fun a ha => ?_) (fun a h => ?_), ?_⟩
  · rw [g5] at ha
    rw [f1 a (by omega)]
    exact hT.2.2.2.2.1 a (by omega)
  · rcases h with e | e
    · rw [e, f4]
      refine ⟨Or.inl rfl, fun j hj => ?_, fun h => by omega, fun j => ?_, fun j b hb => ?_⟩
      · by_cases e6 : j = 6
        · rw [e6]; exact ⟨zt S + 1, pq6, f5, rfl⟩
        · exact absurd (pT4 e6) hj
      · by_cases e4 : j = 4
        · rw [e4, i4]; decide
        · rw [bT4 e4]; exact tf_b _
      · by_cases e6 : j = 6
        · rw [e6, pq6] at hb
          cases hb
          rw [e6, rc_new (by omega)]
          decide
        · rw [pq j e6] at hb; cases hb
    · rw [e, f5]
      refine ⟨Or.inr (Or.inl rfl), fun j hj => absurd (pT6 j) hj, fun _ => ⟨by rw [pr0, hc], by rw [i1]; rfl⟩, fun j => by rw [bT6]; exact tf_b _, fun j b hb => ?_⟩
      rw [cM6, cT6]; exact ⟨Nat.zero_le _, rc_le _⟩
  · have e : PS S' = sumN (pot S') (zt S) + pot S' (zt S) + pot S' (zt S + 1) := by
      unfold PS
      rw [g5]; rfl
    have h0 : pot S' (zt S) = 0 := by unfold pot; rw [f4]; rfl
    have h1 : pot S' (zt S + 1) = 410 := by
      unfold pot
      rw [f5, if_pos rfl, pr0, hc]
      have : rK (zt S + 1) = 410 := by
        unfold rK
        rw [rc_new (by omega)]; rfl
      rw [this]; rfl
    rw [e, h0, h1, ps_old (N := fun a => a = zt S ∨ a = zt S + 1) f1 f3 (fun a h => by omega) g1 g3]
theorem zt_Nd {S : ZS} (hT : ZT S) : ZT (zNd S) ∧ PS (zNd S) = PS S + 410 := zt_Nd0 hT (nd_f S).1 (nd_f S).2.1 (nd_f S).2.2.1 (nd_f S).2.2.2.1 (nd_f S).2.2.2.2 (nd_p1 S) (nd_p2 S) (nd_p3 S) (nd_i1 S) (nd_i2 S) (nd_e S)
theorem zt_B {S : ZS} {b i c k kc : Nat} (hT : ZT S) (hk : zK S b = k) (hc : zK S c = kc) (h : (k = 16 ∧ kc = 4) ∨ (k = 17 ∧ kc = 10)) : ZT (zsB S b i (some c)) := by
  obtain ⟨h1, h2, h3, h4, h5, h6, h7, h8, h9, h10, h11⟩ := hT
  have eB : ∀ a j, zB (zsB S b i (some c)) a j = if a = b ∧ j = i then some c else zB S a j := by
    intro a j
    show va_up (zB S) b (va_up (zB S b) i (some c)) a j = _
    by_cases e : a = b
    · rw [e, va_up_self]
      by_cases e2 : j = i
      · rw [e2, va_up_self, if_pos ⟨rfl, rfl⟩]
      · rw [va_up_ne _ _ e2, if_neg (fun h => e2 h.2)]
    · rw [va_up_ne _ _ e, if_neg (fun h => e h.1)]
  refine ⟨h1, h2, h3, ?_, h5, h6, h7, h8, ?_, h10, h11⟩
  · intro a
    have kk : zK (zsB S b i (some c)) = zK S := rfl
    rw [kk]
    refine ⟨fun ha j hj => ?_, fun ha j d hd => ?_, fun ha j d hd => ?_⟩
    · rw [eB, if_neg (fun e => by rw [e.1, hk] at ha; omega)]
      exact (h4 a).1 ha j hj
    · rw [eB] at hd
      by_cases e : a = b ∧ j = i
      · rw [if_pos e] at hd
        cases hd
        rw [e.1, hk] at ha
        rw [hc]; omega
      · rw [if_neg e] at hd
        exact (h4 a).2.1 ha j d hd
    · rw [eB] at hd
      by_cases e : a = b ∧ j = i
      · rw [if_pos e] at hd
        cases hd
        rw [e.1, hk] at ha
        rw [hc]; omega
      · rw [if_neg e] at hd
        exact (h4 a).2.2 ha j d hd
  · intro a ha d hd j hj
    rw [eB]
    by_cases e : d = b ∧ j = i
    · rw [if_pos e]; exact ⟨c, rfl⟩
    · rw [if_neg e]; exact h9 a ha d hd j hj
theorem ps_B {S : ZS} {b i c : Nat} (hT : ZT S) (hb : zB S b i = none) : (zK S b = 16 → i < 301 → PS (zsB S b i (some c)) + 430 = PS S) ∧ (zK S b = 17 → i < 8 → PS (zsB S b i (some c)) + 850 = PS S) := by
  have eo : ∀ a, a ≠ b → pot (zsB S b i (some c)) a = pot S a := fun a ha => by
    have : zB (zsB S b i (some c)) a = zB S a := va_up_ne _ _ ha
    unfold pot
    rw [this]; rfl
  have es : zB (zsB S b i (some c)) b = va_up (zB S b) i (some c) := va_up_self _ _ _
  have hn := nulls_up (f := va_up (zB S b) i (some c)) (g := zB S b) (x := i) (c := c) hb (va_up_self _ _ _) (fun a ha => va_up_ne _ _ ha)
  have lt : ∀ k, zK S b = k → k < 18 → b < zt S := fun k hk h => by
    apply Classical.byContradiction
    intro h2
    have := hT.2.2.2.2.1 b (by omega)
    omega
  refine ⟨fun hk hi => ?_, fun hk hi => ?_⟩
  · have hs := sumN_up (f := pot (zsB S b i (some c))) (g := pot S) (x := b) (zt S) (lt 16 hk (by decide)) (fun a _ ha => eo a ha)
    have p1 : pot S b = 430 * nulls (zB S b) 301 := by unfold pot; rw [hk]; rfl
    have p2 : pot (zsB S b i (some c)) b = 430 * nulls (va_up (zB S b) i (some c)) 301 := by
      have hk' : zK (zsB S b i (some c)) b = 16 := hk
      unfold pot; rw [hk', es]; rfl
    have e1 : PS (zsB S b i (some c)) = sumN (pot (zsB S b i (some c))) (zt S) := rfl
    have e2 : PS S = sumN (pot S) (zt S) := rfl
    have := (hn 301).1 hi
    rw [e1, e2]
    omega
  · have hs := sumN_up (f := pot (zsB S b i (some c))) (g := pot S) (x := b) (zt S) (lt 17 hk (by decide)) (fun a _ ha => eo a ha)
    have p1 : pot S b = 850 * nulls (zB S b) 8 := by unfold pot; rw [hk]; rfl
    have p2 : pot (zsB S b i (some c)) b = 850 * nulls (va_up (zB S b) i (some c)) 8 := by
      have hk' : zK (zsB S b i (some c)) b = 17 := hk
      unfold pot; rw [hk', es]; rfl
    have e1 : PS (zsB S b i (some c)) = sumN (pot (zsB S b i (some c))) (zt S) := rfl
    have e2 : PS S = sumN (pot S) (zt S) := rfl
    have := (hn 8).1 hi
    rw [e1, e2]
    omega
theorem rm_node {S : ZS} {b i : Nat} (hT : ZT S) (hk : zK S b = 16) (hb : zB S b i = none) (hi : i < 301) : ZT (zsB (zNd S) b i (some (zt S))) ∧ RM S (zsB (zNd S) b i (some (zt S))) := by
  have f1 := (nd_f S).1
  have f4 := (nd_f S).2.2.2.1
  have hq : 18 ≤ zK S (zt S) := hT.2.2.2.2.1 _ (Nat.le_refl _)
  have hq1 : 18 ≤ zK S (zt S + 1) := hT.2.2.2.2.1 _ (Nat.le_succ _)
  have hkb : zK (zNd S) b = 16 := by
    rw [f1 b (fun h => by rcases h with e | e <;> rw [e] at hk <;> omega)]; exact hk
  obtain ⟨T, h2⟩ := zt_Nd hT
  obtain ⟨g1, g2, g3, g4, g5, g6⟩ := nd_e S
  have hb' : zB (zNd S) b i = none := by rw [g3]; exact hb
  have h1 := (ps_B (c := zt S) T hb').1 hkb hi
  have eu : zu (zsB (zNd S) b i (some (zt S))) = zu (zNd S) := rfl
  have et : zt (zsB (zNd S) b i (some (zt S))) = zt (zNd S) := rfl
  exact ⟨zt_B T hkb f4 (Or.inl ⟨rfl, rfl⟩), by rw [eu, g6]; omega, by rw [et, g5]; omega, by rw [eu, g6]; omega, by rw [et, g5]; omega⟩
end
section
noncomputable def zT1 (S : ZS) : ZS := zsP (zRw (zsNewO S (zt S) 10 2)) 0 (zt S) (some (zt S + 1))
noncomputable def zTg (S : ZS) : ZS := zsP (zRw (zT1 S)) 1 (zt S) (some (zt S + 1 + 1))
theorem init10 (S : ZS) : d_X10_init (zt S) (zsNewO S (zt S) 10 2) = some (0, zTg S) := by
  have hk : Ok (d_X10_init_0 (zt S) (zsNewO S (zt S) 10 2)) (fun o => o = (0, zTg S)) := by
    unfold d_X10_init_0
    have kq : zK (zsNewO S (zt S) 10 2) (zt S) = 10 := zK_q
    refine ok_bnd (fun q1 e1 => ok_bnd (fun S2 e2 => ?_))
    have t1 : q1 = zt S + 1 := e1
    have k2 : zK S2 q1 = 6 := by rw [e2]; exact zK_q
    have k2' : zK S2 (zt S) = 10 := by rw [e2, zK_n (by omega)]; exact kq
    refine ok_calR (init6 k2) (ok_chk ⟨rfl, rfl⟩ (ok_chk k2' (ok_bnd (fun S6 e6 => ?_))))
    have e : S6 = zT1 S := by rw [e6, e2, e1]; rfl
    have k6 : zK S6 (zt S) = 10 := by rw [e6]; exact k2'
    have t6 : zt S6 = zt S + 1 + 1 := by rw [e]; rfl
    refine ok_bnd (fun q7 e7 => ok_bnd (fun S8 e8 => ?_))
    have k8 : zK S8 q7 = 6 := by rw [e8]; exact zK_q
    have k8' : zK S8 (zt S) = 10 := by rw [e8, zK_n (by omega)]; exact k6
    refine ok_calR (init6 k8) (ok_chk ⟨rfl, rfl⟩ (ok_chk k8' (ok_bnd (fun S12 e12 => ok_ret ?_))))
    show (0, S12) = (0, zTg S)
    rw [e12, e8, e7, e]
    rfl
  obtain ⟨r, h1, h2⟩ := hk
  show d_X10_init_0 _ _ = _
  rw [h1, h2]
theorem rw_I {S : ZS} {j a : Nat} (h : a ≠ zt S) : zI (zRw S) j a = zI S j a := by
  unfold zRw
  rw [zI_b h]
  show zI (zsNewO S (zt S) 6 2) j a = _
  rw [zI_n h]
theorem rw_P {S : ZS} {j a : Nat} (h : a ≠ zt S) : zP (zRw S) j a = zP S j a := by
  show zP (zsP (zsNewO S (zt S) 6 2) 0 (zt S) (some (zc S))) j a = _
  rw [zP_b h, zP_n h]
theorem rw_K {S : ZS} {a : Nat} (h : a ≠ zt S) : zK (zRw S) a = zK S a := by
  show zK (zsNewO S (zt S) 6 2) a = _
  rw [zK_n h]
theorem rw_q {S : ZS} : zK (zRw S) (zt S) = 6 ∧ zP (zRw S) 0 (zt S) = some (zc S) ∧ zI (zRw S) 1 (zt S) = 0 := by
  refine ⟨?_, ?_, ?_⟩
  · show zK (zsNewO S (zt S) 6 2) (zt S) = _
    exact zK_q
  · show zP (zsP (zsNewO S (zt S) 6 2) 0 (zt S) (some (zc S))) 0 (zt S) = _
    exact zP_s
  · unfold zRw
    exact zI_self _ _ _ _
theorem tg_f (S : ZS) : (∀ a, ¬ (a = zt S ∨ a = zt S + 1 ∨ a = zt S + 2) → zK (zTg S) a = zK S a) ∧ (∀ a j, ¬ (a = zt S ∨ a = zt S + 1 ∨ a = zt S + 2) → zI (zTg S) j a = zI S j a) ∧ (∀ a j, ¬ (a = zt S ∨ a = zt S + 1 ∨ a = zt S + 2) → zP (zTg S) j a = zP S j a) ∧ zK (zTg S) (zt S) = 10 ∧ (zK (zTg S) (zt S + 1) = 6 ∧ zP (zTg S) 0 (zt S + 1) = some (zc S) ∧ zI (zTg S) 1 (zt S + 1) = 0) ∧ (zK (zTg S) (zt S + 2) = 6 ∧ zP (zTg S) 0 (zt S + 2) = some (zc S) ∧ zI (zTg S) 1 (zt S + 2) = 0) ∧ zP (zTg S) 0 (zt S) = some (zt S + 1) ∧ zP (zTg S) 1 (zt S) = some (zt S + 2) ∧ ∀ j, j ≠ 0 → j ≠ 1 → zP (zTg S) j (zt S) = none := by
  have t1 : zt (zT1 S) = zt S + 2 := by
    have a2 : zt (zT1 S) = zt (zRw (zsNewO S (zt S) 10 2)) := rfl
    rw [a2, rw_t]
    rfl
  have t0 : zt (zsNewO S (zt S) 10 2) = zt S + 1 := rfl
  have c1 : zc (zT1 S) = zc S := by
    unfold zT1
    rw [(e_P _ _ _ _).2.2.2, (rw_e _).2.2.2, (e_O _ _ _ _).2.2.2]
  have c0 : zc (zsNewO S (zt S) 10 2) = zc S := rfl
  have K1 : ∀ a, a ≠ zt S + 2 → zK (zTg S) a = zK (zRw (zsNewO S (zt S) 10 2)) a := fun a h => by
    show zK (zRw (zT1 S)) a = _
    rw [rw_K (by rw [t1]; exact h)]
    unfold zT1
    rfl
  have I1 : ∀ a j, a ≠ zt S + 2 → zI (zTg S) j a = zI (zRw (zsNewO S (zt S) 10 2)) j a := fun a j h => by
    show zI (zRw (zT1 S)) j a = _
    rw [rw_I (by rw [t1]; exact h)]
    unfold zT1
    rfl
  have q2 := rw_q (S := zT1 S)
  have q1 := rw_q (S := zsNewO S (zt S) 10 2)
  rw [t1, c1] at q2
  rw [t0, c0] at q1
  refine ⟨fun a h => ?_, fun a j h => ?_, fun a j h => ?_, ?_, ⟨?_, ?_, ?_⟩, ⟨q2.1, ?_, q2.2.2⟩, ?_, ?_, fun j h0 h1 => ?_⟩
  · rw [K1 a (by omega), rw_K (by rw [t0]; omega), zK_n (by omega)]
  · rw [I1 a j (by omega), rw_I (by rw [t0]; omega), zI_n (by omega)]
  · unfold zTg
    rw [zP_b (by omega), rw_P (by rw [t1]; omega)]
    unfold zT1
    rw [zP_b (by omega), rw_P (by rw [t0]; omega), zP_n (by omega)]
  · rw [K1 _ (by omega), rw_K (by rw [t0]; omega), zK_q]
  · rw [K1 _ (by omega)]; exact q1.1
  · unfold zTg
    rw [zP_b (by omega), rw_P (by rw [t1]; omega)]
    unfold zT1
    rw [zP_b (by omega)]; exact q1.2.1
  · rw [I1 _ _ (by omega)]; exact q1.2.2
  · unfold zTg
    rw [zP_b (by omega)]; exact q2.2.1
  · unfold zTg
    rw [zP_j (by decide), rw_P (by rw [t1]; omega)]
    unfold zT1
    exact zP_s
  · unfold zTg
    exact zP_s
  · unfold zTg
    rw [zP_j h1, rw_P (by rw [t1]; omega)]
    unfold zT1
    rw [zP_j h0, rw_P (by rw [t0]; omega), zP_q]
theorem zt_Tg0 {S S' : ZS} (hT : ZT S) (f1 : ∀ a, ¬ (a = zt S ∨ a = zt S + 1 ∨ a = zt S + 2) → zK S' a = zK S a) (f2 : ∀ a j, ¬ (a = zt S ∨ a = zt S + 1 ∨ a = zt S + 2) → zI S' j a = zI S j a) (f3 : ∀ a j, ¬ (a = zt S ∨ a = zt S + 1 ∨ a = zt S + 2) → zP S' j a = zP S j a) (f4 : zK S' (zt S) = 10) (f5 : zK S' (zt S + 1) = 6 ∧ zP S' 0 (zt S + 1) = some (zc S) ∧ zI S' 1 (zt S + 1) = 0) (f6 : zK S' (zt S + 2) = 6 ∧ zP S' 0 (zt S + 2) = some (zc S) ∧ zI S' 1 (zt S + 2) = 0) (f7 : zP S' 0 (zt S) = some (zt S + 1)) (f8 : zP S' 1 (zt S) = some (zt S + 2)) (f9 : ∀ j, j ≠ 0 → j ≠ 1 → zP S' j (zt S) = none) (he : zN S' = zN S ∧ zA S' = zA S ∧ zB S' = zB S ∧ zc S' = zc S ∧ zt S' = zt S + 3 ∧ zu S' = zu S + 6) : ZT S' ∧ PS S' = PS S + 820 := by
  have h11 : 109 ≤ zt S := hT.2.2.2.2.2.2.2.2.2.2.1
  have hc : zc S = 0 := hT.2.2.2.2.2.2.2.2.2.1
  obtain ⟨g1, g2, g3, g4, g5, g6⟩ := he
  refine ⟨zt_ext (N := fun a => a = zt S ∨ a = zt S + 1 ∨ a = zt S + 2) hT f1 f2 f3 (fun a h => by omega) g1 g2 g3 g4 (by omega) (fun a ha => ?_) (fun a h => ?_), ?_⟩
  · rw [g5] at ha
    rw [f1 a (by omega)]
    exact hT.2.2.2.2.1 a (by omega)
  · rcases h with e | e | e
    · rw [e, f4]
      refine ⟨Or.inr (Or.inr rfl), fun j hj => ?_, fun h => by omega, fun j => by rw [bT10]; exact tf_b _, fun j b hb => ?_⟩
      · by_cases e0 : j = 0
        · rw [e0]; exact ⟨zt S + 1, f7, f5.1, rfl⟩
        · by_cases e1 : j = 1
          · rw [e1]; exact ⟨zt S + 2, f8, f6.1, rfl⟩
          · exact absurd (pT10 e0 e1) hj
      · by_cases e0 : j = 0
        · rw [e0, f7] at hb
          cases hb
          rw [e0, rc_new (by omega)]
          decide
        · by_cases e1 : j = 1
          · rw [e1, f8] at hb
            cases hb
            rw [e1, rc_new (by omega)]
            decide
          · rw [f9 j e0 e1] at hb; cases hb
    · rw [e, f5.1]
      refine ⟨Or.inr (Or.inl rfl), fun j hj => absurd (pT6 j) hj, fun _ => ⟨by rw [f5.2.1, hc], by rw [f5.2.2]; rfl⟩, fun j => by rw [bT6]; exact tf_b _, fun j b hb => ?_⟩
      rw [cM6, cT6]; exact ⟨Nat.zero_le _, rc_le _⟩
    · rw [e, f6.1]
      refine ⟨Or.inr (Or.inl rfl), fun j hj => absurd (pT6 j) hj, fun _ => ⟨by rw [f6.2.1, hc], by rw [f6.2.2]; rfl⟩, fun j => by rw [bT6]; exact tf_b _, fun j b hb => ?_⟩
      rw [cM6, cT6]; exact ⟨Nat.zero_le _, rc_le _⟩
  · have e : PS S' = sumN (pot S') (zt S) + pot S' (zt S) + pot S' (zt S + 1) + pot S' (zt S + 2) := by
      unfold PS
      rw [g5]; rfl
    have h0 : pot S' (zt S) = 0 := by unfold pot; rw [f4]; rfl
    have rk : ∀ a, 109 ≤ a → rK a = 410 := fun a ha => by unfold rK; rw [rc_new ha]; rfl
    have h1 : pot S' (zt S + 1) = 410 := by
      unfold pot
      rw [f5.1, if_pos rfl, f5.2.1, hc, rk _ (by omega)]; rfl
    have h2 : pot S' (zt S + 2) = 410 := by
      unfold pot
      rw [f6.1, if_pos rfl, f6.2.1, hc, rk _ (by omega)]; rfl
    rw [e, h0, h1, h2, ps_old (N := fun a => a = zt S ∨ a = zt S + 1 ∨ a = zt S + 2) f1 f3 (fun a h => by omega) g1 g3]
theorem tg_e (S : ZS) : zN (zTg S) = zN S ∧ zA (zTg S) = zA S ∧ zB (zTg S) = zB S ∧ zc (zTg S) = zc S ∧ zt (zTg S) = zt S + 3 ∧ zu (zTg S) = zu S + 6 := by
  have a1 : zt (zTg S) = zt (zRw (zT1 S)) := rfl
  have a2 : zt (zT1 S) = zt (zRw (zsNewO S (zt S) 10 2)) := rfl
  have a3 : zt (zsNewO S (zt S) 10 2) = zt S + 1 := rfl
  have b1 : zu (zTg S) = zu (zRw (zT1 S)) := rfl
  have b2 : zu (zT1 S) = zu (zRw (zsNewO S (zt S) 10 2)) := rfl
  have b3 : zu (zsNewO S (zt S) 10 2) = zu S + 2 := rfl
  have r := rw_e (zT1 S)
  have n := rw_e (zsNewO S (zt S) 10 2)
  have q := e_O S (zt S) 10 2
  refine ⟨?_, ?_, ?_, ?_, ?_, ?_⟩
  · unfold zTg; rw [(e_P _ _ _ _).1, r.1]; unfold zT1; rw [(e_P _ _ _ _).1, n.1, q.1]
  · unfold zTg; rw [(e_P _ _ _ _).2.1, r.2.1]; unfold zT1; rw [(e_P _ _ _ _).2.1, n.2.1, q.2.1]
  · unfold zTg; rw [(e_P _ _ _ _).2.2.1, r.2.2.1]; unfold zT1; rw [(e_P _ _ _ _).2.2.1, n.2.2.1, q.2.2.1]
  · unfold zTg; rw [(e_P _ _ _ _).2.2.2, r.2.2.2]; unfold zT1; rw [(e_P _ _ _ _).2.2.2, n.2.2.2, q.2.2.2]
  · rw [a1, rw_t, a2, rw_t, a3]
  · rw [b1, rw_u, b2, rw_u, b3]
theorem zt_Tg {S : ZS} (hT : ZT S) : ZT (zTg S) ∧ PS (zTg S) = PS S + 820 := by
  obtain ⟨f1, f2, f3, f4, f5, f6, f7, f8, f9⟩ := tg_f S
  exact zt_Tg0 hT f1 f2 f3 f4 f5 f6 f7 f8 f9 (tg_e S)
theorem rp_tag {S : ZS} {b i : Nat} (hT : ZT S) (hk : zK S b = 17) (hb : zB S b i = none) (hi : i < 8) : ZT (zsB (zTg S) b i (some (zt S))) ∧ RP S (zsB (zTg S) b i (some (zt S))) := by
  obtain ⟨f1, f2, f3, f4, f5, f6, f7, f8, f9⟩ := tg_f S
  have nN : ∀ a, zK S a < 18 → ¬ (a = zt S ∨ a = zt S + 1 ∨ a = zt S + 2) := fun a ha h => by
    have := hT.2.2.2.2.1 a (by omega)
    omega
  have hkb : zK (zTg S) b = 17 := by rw [f1 b (nN b (by omega))]; exact hk
  obtain ⟨T, h2⟩ := zt_Tg hT
  obtain ⟨g1, g2, g3, g4, g5, g6⟩ := tg_e S
  refine ⟨zt_B T hkb f4 (Or.inr ⟨rfl, rfl⟩), ⟨?_, fun t => ?_, ⟨fun a h1 h3 => ⟨(f1 a (nN a (by omega))).trans h1, (congrFun g1 a).trans h3, congrFun g2 a⟩, fun r h1 h3 => ⟨(f1 r (nN r (by omega))).trans h1, f2 r 1 (nN r (by omega)), f3 r 0 (nN r (by omega)), fun c _ => ⟨congrFun g1 c, congrFun g2 c⟩⟩⟩⟩⟩
  · have h1 := (ps_B (c := zt S) T (show zB (zTg S) b i = none by rw [g3]; exact hb)).2 hkb hi
    have eu : zu (zsB (zTg S) b i (some (zt S))) = zu (zTg S) := rfl
    have et : zt (zsB (zTg S) b i (some (zt S))) = zt (zTg S) := rfl
    exact ⟨by rw [eu, g6]; omega, by rw [et, g5]; omega, by rw [eu, g6]; omega, by rw [et, g5]; omega⟩
  · refine tz_x hT t (fun a ha => f1 a (nN a ha)) (fun a j ha _ => f3 a j (nN a (by omega))) (fun a ha => ?_) (fun a ha => ⟨f2 a 0 (nN a (by omega)), f2 a 2 (nN a (by omega)), f2 a 3 (nN a (by omega))⟩) (fun a ha => f2 a 3 (nN a (by omega)))
    show va_up (zB (zTg S)) b (va_up (zB (zTg S) b) i (some (zt S))) a = _
    rw [va_up_ne _ _ (fun e => by rw [e, hk] at ha; omega), g3]
end
section
theorem zt_T1 {S : ZS} {a : Nat} {v : Int32} (hT : ZT S) (hk : zK S a = 1) (h1 : v.toInt = (zI S 5 a).toInt + 1) (h2 : (zI S 5 a).toInt < 8) (hq : ∀ b, zP S 4 a = some b → ∃ c, zB S b (zI S 5 a).toNatClampNeg = some c) : ZT (zsI S 5 a v) := by
  have j := J_1_5 hT hk
  obtain ⟨g1, g2, g3, g4, g5, g6, g7, g8, g9, g10, g11⟩ := hT
  refine ⟨g1, ?_, ?_, g4, g5, g6, g7, g8, ?_, g10, g11⟩
  · intro c hc
    have e : zI (zsI S 5 a v) 1 c = zI S 1 c := by
      show va_up (zI S) 5 (va_up (zI S 5) a v) 1 c = _
      rw [va_up_ne _ _ (by decide)]
    rw [e]
    exact g2 c hc
  · intro c i hc
    by_cases e : i = 5 ∧ c = a
    · have hka : zK (zsI S 5 a v) a = 1 := hk
      rw [e.1, e.2, hka, zI_self]
      show (0 : Int) ≤ v.toInt ∧ v.toInt ≤ (8 : Int)
      omega
    · have e2 : zI (zsI S 5 a v) i c = zI S i c := by
        show va_up (zI S) 5 (va_up (zI S 5) a v) i c = _
        by_cases e1 : i = 5
        · rw [e1, va_up_self, va_up_ne _ _ (fun h => e ⟨e1, h⟩)]
        · rw [va_up_ne _ _ e1]
      rw [e2]; exact g3 c i hc
  · intro c hc b hb i hi
    by_cases e : c = a
    · rw [e, zI_self] at hi
      rw [e] at hb
      by_cases e3 : (i : Int) < (zI S 5 a).toInt
      · exact g9 a hk b hb i e3
      · have hn : (zI S 5 a).toNatClampNeg = (zI S 5 a).toInt.toNat := rfl
        have ei : i = (zI S 5 a).toNatClampNeg := by omega
        rw [ei]; exact hq b hb
    · rw [zI_ne e] at hi
      exact g9 c hc b hb i hi
theorem t_d_X1_putTag_38 {SZ S : ZS} {x0 : Nat} {x1 : Nat} {x2 : Nat} (hT : ZT S) (hR : RP SZ S) (r_x0 : zK S x0 = 1) (r_x1 : zK S x1 = 6) (r_x2 : zK S x2 = 6) (q0 : (zI S 1 x1).toInt ≤ 200) (q1 : (zI S 1 x2).toInt ≤ 200) (q2 : 1 ≤ rc x2) (q3 : (zI S 5 x0).toInt < 8) (q4 : ∀ b, zP S 4 x0 = some b → ∃ c, zB S b (zI S 5 x0).toNatClampNeg = some c) : Ok (d_X1_putTag_38 x0 x1 x2 S) (fun o => ZT o.2 ∧ RP SZ o.2 ∧ True) := by
  unfold d_X1_putTag_38
  have j1 := J_1_5 hT r_x0
  refine ok_chk r_x0 ?_
  refine ok_bnd (fun v1 e2 => ?_)
  have t_v1 : v1.toInt = (zI S 5 x0).toInt + 1 := ti_add e2 rfl (show (1 : Int32).toInt = 1 from rfl) (by omega) (by omega)
  refine ok_chk r_x0 ?_
  refine ok_bnd (fun S2 e3 => ?_)
  have T_S2 : ZT S2 := e3.symm ▸ zt_T1 hT r_x0 (by omega) (by omega) q4
  have kE_S2 : zK S2 = zK S := by rw [e3]; rfl
  have nE_S2 : zN S2 = zN S := by rw [e3]; rfl
  have R_S2 : RP SZ S2 := rp_I hR hT r_x0 e3 (by decide)
  have : (zI S2 5 x0).toInt = v1.toInt := by rw [e3]; exact (congrArg Int32.toInt (zI_self _ _ _ _)).trans rfl
  have i2 : zI S2 1 = zI S 1 := by rw [e3]; rfl
  have ix1 : (zI S2 1 x1).toInt = (zI S 1 x1).toInt := by rw [i2]
  have ix2 : (zI S2 1 x2).toInt = (zI S 1 x2).toInt := by rw [i2]
  refine ok_chk ((congrFun kE_S2 x0).trans r_x0) ?_
  refine ok_bnd (fun v3 e4 => ?_)
  have j5 := J_1_5 T_S2 ((congrFun kE_S2 x0).trans r_x0)
  have t_v3 : v3.toInt = (zI S2 5 x0).toInt - 1 := ti_sub e4 rfl (show (1 : Int32).toInt = 1 from rfl) (by omega) (by omega)
  refine ok_chk ((congrFun kE_S2 x0).trans r_x0) ?_
  obtain ⟨r5, h_r5, p_r5⟩ := roz (t_d_X1_tagAt (x0 := x0) (x1 := v3) T_S2 ((congrFun kE_S2 x0).trans r_x0) (by omega))
  dsimp only at p_r5
  refine ok_cal2R h_r5 ?_
  refine ok_chk p_r5 ?_
  obtain ⟨b9, p_b9, k_b9, c_b9⟩ := T_10_0 T_S2 p_r5
  have rl_b9 := rL_0 c_b9
  refine ok_calR p_b9 ?_
  refine ok_chk k_b9 ?_
  have j6 := J61_0 T_S2 k_b9 c_b9
  have j7 := J_6_1 T_S2 ((congrFun kE_S2 x1).trans r_x1)
  obtain ⟨⟨r11, S12⟩, h_r11, T_S12, B_S12, p_r11_0⟩ := t_d_X6_copyFrom (x0 := b9) (x1 := x1) (SZ := S2) T_S2 (rp_0 S2) k_b9 ((congrFun kE_S2 x1).trans r_x1) (Or.inr (by omega)) (by omega)
  replace T_S12 : ZT S12 := T_S12
  replace B_S12 : RP S2 S12 := B_S12
  have R_S12 : RP SZ S12 := rp_t R_S2 B_S12
  dsimp only at p_r11_0
  refine ok_cal2R h_r11 ?_
  have g_S12 := (fz_X6_copyFrom h_r11 T_S2.2.2.2.2.1).2.2
  have : (zI S12 5 x0).toInt = (zI S2 5 x0).toInt := congrArg Int32.toInt ((g_S12 x0 (lt18 ((congrFun kE_S2 x0).trans r_x0) (by decide))).2.2.1 5 (by rw [((congrFun kE_S2 x0).trans r_x0)]; decide))
  have ix3 : (zI S12 1 x2).toInt = (zI S2 1 x2).toInt := congrArg Int32.toInt (p_r11_0 x2 (fun h => by rw [h] at q2; omega))
  refine ok_chk ((g_S12 x0 (lt18 ((congrFun kE_S2 x0).trans r_x0) (by decide))).1.trans ((congrFun kE_S2 x0).trans r_x0)) ?_
  refine ok_bnd (fun v15 e8 => ?_)
  have j9 := J_1_5 T_S12 ((g_S12 x0 (lt18 ((congrFun kE_S2 x0).trans r_x0) (by decide))).1.trans ((congrFun kE_S2 x0).trans r_x0))
  have t_v15 : v15.toInt = (zI S12 5 x0).toInt - 1 := ti_sub e8 rfl (show (1 : Int32).toInt = 1 from rfl) (by omega) (by omega)
  refine ok_chk ((g_S12 x0 (lt18 ((congrFun kE_S2 x0).trans r_x0) (by decide))).1.trans ((congrFun kE_S2 x0).trans r_x0)) ?_
  obtain ⟨r17, h_r17, p_r17⟩ := roz (t_d_X1_tagAt (x0 := x0) (x1 := v15) T_S12 ((g_S12 x0 (lt18 ((congrFun kE_S2 x0).trans r_x0) (by decide))).1.trans ((congrFun kE_S2 x0).trans r_x0)) (by omega))
  dsimp only at p_r17
  refine ok_cal2R h_r17 ?_
  refine ok_chk p_r17 ?_
  obtain ⟨b21, p_b21, k_b21, c_b21⟩ := T_10_1 T_S12 p_r17
  have rl_b21 := rL_0 c_b21
  refine ok_calR p_b21 ?_
  refine ok_chk k_b21 ?_
  have j10 := J61_0 T_S12 k_b21 c_b21
  have j11 := J_6_1 T_S12 ((g_S12 x2 (lt18 ((congrFun kE_S2 x2).trans r_x2) (by decide))).1.trans ((congrFun kE_S2 x2).trans r_x2))
  obtain ⟨⟨r23, S24⟩, h_r23, T_S24, B_S24, p_r23_0⟩ := t_d_X6_copyFrom (x0 := b21) (x1 := x2) (SZ := S12) T_S12 (rp_0 S12) k_b21 ((g_S12 x2 (lt18 ((congrFun kE_S2 x2).trans r_x2) (by decide))).1.trans ((congrFun kE_S2 x2).trans r_x2)) (Or.inr (by omega)) (by omega)
  replace T_S24 : ZT S24 := T_S24
  replace B_S24 : RP S12 S24 := B_S24
  have R_S24 : RP SZ S24 := rp_t R_S12 B_S24
  dsimp only at p_r23_0
  refine ok_cal2R h_r23 ?_
  have g_S24 := (fz_X6_copyFrom h_r23 T_S12.2.2.2.2.1).2.2
  have : (zI S24 5 x0).toInt = (zI S12 5 x0).toInt := congrArg Int32.toInt ((g_S24 x0 (lt18 ((g_S12 x0 (lt18 ((congrFun kE_S2 x0).trans r_x0) (by decide))).1.trans ((congrFun kE_S2 x0).trans r_x0)) (by decide))).2.2.1 5 (by rw [((g_S12 x0 (lt18 ((congrFun kE_S2 x0).trans r_x0) (by decide))).1.trans ((congrFun kE_S2 x0).trans r_x0))]; decide))
  exact ok_ret ⟨T_S24, R_S24, trivial⟩
theorem t_d_X1_putTag_0 {SZ S : ZS} {x0 : Nat} {x1 : Nat} {x2 : Nat} (hT : ZT S) (hR : RP SZ S) (r_x0 : zK S x0 = 1) (r_x1 : zK S x1 = 6) (r_x2 : zK S x2 = 6) (q0 : (zI S 1 x1).toInt ≤ 200) (q1 : (zI S 1 x2).toInt ≤ 200) (q2 : 1 ≤ rc x2) : Ok (d_X1_putTag_0 x0 x1 x2 S) (fun o => ZT o.2 ∧ RP SZ o.2 ∧ True) := by
  unfold d_X1_putTag_0
  have j := J_1_5 hT r_x0
  refine ok_chk r_x0 (ok_if (fun c => ?_) (fun c => ok_ret ⟨hT, hR, trivial⟩))
  replace c := ti_ltP (a := zI S 5 x0) (b := 8) c rfl rfl
  have z : (8 : Int32).toInt = 8 := rfl
  obtain ⟨b, p, k, n⟩ := T_1_4 hT r_x0
  refine ok_chk r_x0 (ok_calR p (ok_chk r_x0 (ok_chk k (ok_chk (ti_inN (v := zI S 5 x0) (n := 8) n (by omega) (by omega)) (ok_bnd (fun v2 e2 => ?_))))))
  have hi : (zI S 5 x0).toNatClampNeg < 8 := ti_cl (v := zI S 5 x0) (by omega) (by omega)
  refine ok_opt (fun hv => ?_) (fun b3 hv => ?_)
  · rw [e2] at hv
    obtain ⟨T', R'⟩ := rp_tag (i := (zI S 5 x0).toNatClampNeg) hT k hv hi
    obtain ⟨f1, f2, f3, f4, -⟩ := tg_f S
    obtain ⟨g1, g2, g3, -⟩ := tg_e S
    have nN : ∀ a, zK S a < 18 → ¬ (a = zt S ∨ a = zt S + 1 ∨ a = zt S + 2) := fun a ha h => by
      have := hT.2.2.2.2.1 a (by omega)
      omega
    have kb : zK (zTg S) b = 17 := by rw [f1 b (nN b (by omega))]; exact k
    have nb : zN (zTg S) b = 8 := by rw [g1]; exact n
    refine ok_chk r_x0 (ok_calR p (ok_chk r_x0 (ok_bnd (fun q5 e5 => ok_bnd (fun S6 e6 => ?_)))))
    rw [e5] at e6 ⊢
    rw [e6]
    refine ok_cal2R (init10 S) (ok_chk kb (ok_chk f4 (ok_chk (ti_inN (v := zI S 5 x0) (n := 8) nb (by omega) (by omega)) (ok_bnd (fun S14 e14 => ?_)))))
    have kk : ∀ a, zK S a < 18 → zK S14 a = zK S a := fun a ha => by
      rw [e14]
      show zK (zTg S) a = _
      exact f1 a (nN a ha)
    have ii : ∀ a i, zK S a < 18 → zI S14 i a = zI S i a := fun a i ha => by
      rw [e14]
      show zI (zTg S) i a = _
      exact f2 a i (nN a ha)
    have l0 := ii x0 5 (by omega)
    refine t_d_X1_putTag_38 (SZ := SZ) (by rw [e14]; exact T') (by rw [e14]; exact rp_t hR R') ((kk x0 (by omega)).trans r_x0) ((kk x1 (by omega)).trans r_x1) ((kk x2 (by omega)).trans r_x2) (by rw [ii x1 1 (by omega)]; exact q0) (by rw [ii x2 1 (by omega)]; exact q1) q2 (by rw [l0]; omega) (fun b' hb' => ?_)
    have hb2 : zP S14 4 x0 = some b := by
      rw [e14]
      show zP (zTg S) 4 x0 = _
      rw [f3 x0 4 (nN x0 (by omega))]; exact p
    rw [hb2] at hb'
    cases hb'
    refine ⟨zt S, ?_⟩
    rw [l0, e14]
    show va_up (zB (zTg S)) b (va_up (zB (zTg S) b) (zI S 5 x0).toNatClampNeg (some (zt S))) b (zI S 5 x0).toNatClampNeg = _
    rw [va_up_self, va_up_self]
  · refine t_d_X1_putTag_38 (SZ := SZ) hT hR r_x0 r_x1 r_x2 q0 q1 q2 (by omega) (fun b' hb' => ?_)
    rw [p] at hb'
    cases hb'
    exact ⟨b3, by rw [← e2]; exact hv⟩
theorem t_d_X1_putTag {SZ S : ZS} {x0 : Nat} {x1 : Nat} {x2 : Nat} (hT : ZT S) (hR : RP SZ S) (r_x0 : zK S x0 = 1) (r_x1 : zK S x1 = 6) (r_x2 : zK S x2 = 6) (q0 : (zI S 1 x1).toInt ≤ 200) (q1 : (zI S 1 x2).toInt ≤ 200) (q2 : 1 ≤ rc x2) : Ok (d_X1_putTag x0 x1 x2 S) (fun o => ZT o.2 ∧ RP SZ o.2 ∧ True) := t_d_X1_putTag_0 hT hR r_x0 r_x1 r_x2 q0 q1 q2
theorem t_d_X2_readTag_111 {SZ S : ZS} {x0 : Nat} {x1 : Int32} (hT : ZT S) (hR : RP SZ S) (r_x0 : zK S x0 = 2) : Ok (d_X2_readTag_111 x0 x1 S) (fun o => ZT o.2 ∧ RP SZ o.2 ∧ ((0 : Int) ≤ o.1.toInt ∧ o.1.toInt ≤ (1 : Int))) := by
  unfold d_X2_readTag_111
  have j12 := J_2_4 hT r_x0
  refine ok_chk r_x0 ?_
  obtain ⟨⟨r1, S1⟩, h_r1, T_S1, A_S1, p_r1⟩ := t_f_X2_refuse (x0 := x0) (x1 := (2 : Int32)) (x2 := x1) (SZ := S) hT (a7_0 S) r_x0
  replace T_S1 : ZT S1 := T_S1
  replace A_S1 : A7 S S1 := A_S1
  dsimp only at p_r1
  refine ok_calR h_r1 ?_
  have q_S1 := fq_X2_refuse h_r1
  have kE_S1 : zK S1 = zK S := q_S1.2.2.1
  have nE_S1 : zN S1 = zN S := q_S1.2.2.2.1
  have R_S1 : RP SZ S1 := rp_f hR hT q_S1 (fz_X2_refuse h_r1) (by decide) A_S1
  have : (zI S1 4 x0).toInt = (zI S 4 x0).toInt := congrArg Int32.toInt ((((fz_X2_refuse h_r1) hT.2.2.2.2.1).2.2 x0 (by rw [r_x0]; decide)).2.2.1 4 (by rw [r_x0]; decide))
  refine ok_chk ⟨q_S1.1, q_S1.2.1⟩ ?_
  refine ok_chk (nar_b (v := r1) (by omega) (by omega)) ?_
  exact ok_ret ⟨T_S1, R_S1, (show (0 : Int) ≤ r1.toInt ∧ r1.toInt ≤ (1 : Int) from (by omega))⟩
theorem t_d_X2_readTag_158 {SZ S : ZS} {x0 : Nat} (hT : ZT S) (hR : RP SZ S) (r_x0 : zK S x0 = 2) (q0 : ∀ b, zP S 6 x0 = some b → (zI S 1 b).toInt ≤ 200) (q1 : ∀ b, zP S 7 x0 = some b → (zI S 1 b).toInt ≤ 200) : Ok (d_X2_readTag_158 x0 S) (fun o => ZT o.2 ∧ RP SZ o.2 ∧ ((0 : Int) ≤ o.1.toInt ∧ o.1.toInt ≤ (1 : Int))) := by
  unfold d_X2_readTag_158
  have j13 := J_2_4 hT r_x0
  refine ok_chk r_x0 ?_
  obtain ⟨b1, p_b1, k_b1⟩ := T_2_3 hT r_x0
  have lo_b1 := M_2_3 hT r_x0 p_b1
  refine ok_calR p_b1 ?_
  refine ok_chk r_x0 ?_
  obtain ⟨b2, p_b2, k_b2, c_b2⟩ := T_2_6 hT r_x0
  have lo_b2 := M_2_6 hT r_x0 p_b2
  have rl_b2 := rL_x1 lo_b2 c_b2
  refine ok_calR p_b2 ?_
  have e9 := q0 b2 p_b2
  refine ok_chk r_x0 ?_
  obtain ⟨b3, p_b3, k_b3, c_b3⟩ := T_2_7 hT r_x0
  have lo_b3 := M_2_7 hT r_x0 p_b3
  have rl_b3 := rL_x1 lo_b3 c_b3
  refine ok_calR p_b3 ?_
  have e8 := q1 b3 p_b3
  refine ok_chk k_b1 ?_
  have j14 := J61_1 hT k_b2 c_b2
  have j15 := J61_1 hT k_b3 c_b3
  obtain ⟨⟨r5, S6⟩, h_r5, T_S6, B_S6, -⟩ := t_d_X1_putTag (x0 := b1) (x1 := b2) (x2 := b3) (SZ := S) hT (rp_0 S) k_b1 k_b2 k_b3 (by omega) (by omega) lo_b3
  replace T_S6 : ZT S6 := T_S6
  replace B_S6 : RP S S6 := B_S6
  have R_S6 : RP SZ S6 := rp_t hR B_S6
  refine ok_cal2R h_r5 ?_
  have g_S6 := (fz_X1_putTag h_r5 hT.2.2.2.2.1).2.2
  have : (zI S6 4 x0).toInt = (zI S 4 x0).toInt := congrArg Int32.toInt ((g_S6 x0 (lt18 r_x0 (by decide))).2.2.1 4 (by rw [r_x0]; decide))
  refine ok_chk (by decide) ?_
  exact ok_ret ⟨T_S6, R_S6, (show (0 : Int) ≤ (1 : Int32).toInt ∧ (1 : Int32).toInt ≤ (1 : Int) from (by decide))⟩
theorem t_d_X2_readTag_0 {SZ S : ZS} {x0 : Nat} (hT : ZT S) (hR : RP SZ S) (r_x0 : zK S x0 = 2) (q0 : (zI S 4 x0).toInt ≤ 90000) : Ok (d_X2_readTag_0 x0 S) (fun o => ZT o.2 ∧ RP SZ o.2 ∧ ((0 : Int) ≤ o.1.toInt ∧ o.1.toInt ≤ (1 : Int))) := by
  unfold d_X2_readTag_0
  have j16 := J_2_4 hT r_x0
  refine ok_chk r_x0 ?_
  refine ok_chk r_x0 ?_
  obtain ⟨⟨r2, S3⟩, h_r2, T_S3, B_S3, p_r2⟩ := t_d_X2_readName (x0 := x0) (SZ := S) hT (rp_0 S) r_x0 q0
  replace T_S3 : ZT S3 := T_S3
  replace B_S3 : RP S S3 := B_S3
  have R_S3 : RP SZ S3 := rp_t hR B_S3
  dsimp only at p_r2
  refine ok_cal2R h_r2 ?_
  have g_S3 := (fz_X2_readName h_r2 hT.2.2.2.2.1).2.2
  refine ok_if (fun c17 => ?_) (fun c17 => ?_)
  ·
    replace c17 := ti_eqP (a := r2) (b := (0 : Int32)) c17 rfl (show (0 : Int32).toInt = 0 from rfl)
    unfold d_X2_readTag_19
    refine ok_chk (by decide) ?_
    exact ok_ret ⟨T_S3, R_S3, (show (0 : Int) ≤ (0 : Int32).toInt ∧ (0 : Int32).toInt ≤ (1 : Int) from (by decide))⟩
  ·
    replace c17 := ti_eqN (a := r2) (b := (0 : Int32)) c17 rfl (show (0 : Int32).toInt = 0 from rfl)
    refine ok_chk ((g_S3 x0 (lt18 r_x0 (by decide))).1.trans r_x0) ?_
    obtain ⟨⟨r7, S8⟩, h_r7, T_S8, B_S8, p_r7⟩ := t_d_X2_readValue (x0 := x0) (SZ := S3) T_S3 (rp_0 S3) ((g_S3 x0 (lt18 r_x0 (by decide))).1.trans r_x0)
    replace T_S8 : ZT S8 := T_S8
    replace B_S8 : RP S3 S8 := B_S8
    have R_S8 : RP SZ S8 := rp_t R_S3 B_S8
    dsimp only at p_r7
    refine ok_cal2R h_r7 ?_
    have g_S8 := (fz_X2_readValue h_r7 T_S3.2.2.2.2.1).2.2
    refine ok_if (fun c18 => ?_) (fun c18 => ?_)
    ·
      replace c18 := ti_eqP (a := r7) (b := (0 : Int32)) c18 rfl (show (0 : Int32).toInt = 0 from rfl)
      unfold d_X2_readTag_19
      refine ok_chk (by decide) ?_
      exact ok_ret ⟨T_S8, R_S8, (show (0 : Int) ≤ (0 : Int32).toInt ∧ (0 : Int32).toInt ≤ (1 : Int) from (by decide))⟩
    ·
      replace c18 := ti_eqN (a := r7) (b := (0 : Int32)) c18 rfl (show (0 : Int32).toInt = 0 from rfl)
      refine ok_chk ((g_S8 x0 (lt18 ((g_S3 x0 (lt18 r_x0 (by decide))).1.trans r_x0) (by decide))).1.trans ((g_S3 x0 (lt18 r_x0 (by decide))).1.trans r_x0)) ?_
      obtain ⟨⟨r11, S11⟩, h_r11, T_S11, A_S11, -⟩ := t_f_X2_skipBlanks (x0 := x0) (SZ := S8) T_S8 (a7_0 S8) ((g_S8 x0 (lt18 ((g_S3 x0 (lt18 r_x0 (by decide))).1.trans r_x0) (by decide))).1.trans ((g_S3 x0 (lt18 r_x0 (by decide))).1.trans r_x0))
      replace T_S11 : ZT S11 := T_S11
      replace A_S11 : A7 S8 S11 := A_S11
      refine ok_calR h_r11 ?_
      have q_S11 := fq_X2_skipBlanks h_r11
      have kE_S11 : zK S11 = zK S8 := q_S11.2.2.1
      have nE_S11 : zN S11 = zN S8 := q_S11.2.2.2.1
      have R_S11 : RP SZ S11 := rp_f R_S8 T_S8 q_S11 (fz_X2_skipBlanks h_r11) (by decide) A_S11
      refine ok_chk ⟨q_S11.1, q_S11.2.1⟩ ?_
      refine ok_chk ((congrFun kE_S11 x0).trans ((g_S8 x0 (lt18 ((g_S3 x0 (lt18 r_x0 (by decide))).1.trans r_x0) (by decide))).1.trans ((g_S3 x0 (lt18 r_x0 (by decide))).1.trans r_x0))) ?_
      obtain ⟨b12, p_b12, k_b12, c_b12⟩ := T_2_2 T_S11 ((congrFun kE_S11 x0).trans ((g_S8 x0 (lt18 ((g_S3 x0 (lt18 r_x0 (by decide))).1.trans r_x0) (by decide))).1.trans ((g_S3 x0 (lt18 r_x0 (by decide))).1.trans r_x0)))
      have rl_b12 := rL_ge b12
      refine ok_calR p_b12 ?_
      refine ok_chk ((congrFun kE_S11 x0).trans ((g_S8 x0 (lt18 ((g_S3 x0 (lt18 r_x0 (by decide))).1.trans r_x0) (by decide))).1.trans ((g_S3 x0 (lt18 r_x0 (by decide))).1.trans r_x0))) ?_
      refine ok_chk k_b12 ?_
      have j19 := J61_2 T_S11 k_b12 c_b12
      obtain ⟨r13, h_r13, p_r13⟩ := roz (t_f_X6_at (x0 := b12) (x1 := (zI S11 4 x0)) T_S11 k_b12)
      dsimp only at p_r13
      refine ok_calR h_r13 ?_
      refine ok_chk ⟨rfl, rfl⟩ ?_
      refine ok_if (fun c20 => ?_) (fun c20 => ?_)
      ·
        replace c20 := ti_eqP (a := r13) (b := (93 : Int32)) c20 rfl (show (93 : Int32).toInt = 93 from rfl)
        refine ok_chk ((congrFun kE_S11 x0).trans ((g_S8 x0 (lt18 ((g_S3 x0 (lt18 r_x0 (by decide))).1.trans r_x0) (by decide))).1.trans ((g_S3 x0 (lt18 r_x0 (by decide))).1.trans r_x0))) ?_
        refine ok_bnd (fun v14 e21 => ?_)
        have j22 := J_2_4 T_S11 ((congrFun kE_S11 x0).trans ((g_S8 x0 (lt18 ((g_S3 x0 (lt18 r_x0 (by decide))).1.trans r_x0) (by decide))).1.trans ((g_S3 x0 (lt18 r_x0 (by decide))).1.trans r_x0)))
        have t_v14 : v14.toInt = (zI S11 4 x0).toInt + 1 := ti_add e21 rfl (show (1 : Int32).toInt = 1 from rfl) (by omega) (by omega)
        refine ok_chk ((congrFun kE_S11 x0).trans ((g_S8 x0 (lt18 ((g_S3 x0 (lt18 r_x0 (by decide))).1.trans r_x0) (by decide))).1.trans ((g_S3 x0 (lt18 r_x0 (by decide))).1.trans r_x0))) ?_
        refine ok_bnd (fun S15 e23 => ?_)
        have T_S15 : ZT S15 := e23.symm ▸ zt_I T_S11 ((congrFun kE_S11 x0).trans ((g_S8 x0 (lt18 ((g_S3 x0 (lt18 r_x0 (by decide))).1.trans r_x0) (by decide))).1.trans ((g_S3 x0 (lt18 r_x0 (by decide))).1.trans r_x0))) (by decide) (show (0 : Int) ≤ v14.toInt ∧ v14.toInt ≤ (90100 : Int) from (by omega))
        have kE_S15 : zK S15 = zK S11 := by rw [e23]; rfl
        have nE_S15 : zN S15 = zN S11 := by rw [e23]; rfl
        have R_S15 : RP SZ S15 := rp_I R_S11 T_S11 ((congrFun kE_S11 x0).trans ((g_S8 x0 (lt18 ((g_S3 x0 (lt18 r_x0 (by decide))).1.trans r_x0) (by decide))).1.trans ((g_S3 x0 (lt18 r_x0 (by decide))).1.trans r_x0))) e23 (by decide)
        have : (zI S15 4 x0).toInt = v14.toInt := by rw [e23]; exact (congrArg Int32.toInt (zI_self _ _ _ _)).trans rfl
        refine ok_chk ((congrFun kE_S15 x0).trans ((congrFun kE_S11 x0).trans ((g_S8 x0 (lt18 ((g_S3 x0 (lt18 r_x0 (by decide))).1.trans r_x0) (by decide))).1.trans ((g_S3 x0 (lt18 r_x0 (by decide))).1.trans r_x0)))) ?_
        obtain ⟨b16, p_b16, k_b16⟩ := T_2_3 T_S15 ((congrFun kE_S15 x0).trans ((congrFun kE_S11 x0).trans ((g_S8 x0 (lt18 ((g_S3 x0 (lt18 r_x0 (by decide))).1.trans r_x0) (by decide))).1.trans ((g_S3 x0 (lt18 r_x0 (by decide))).1.trans r_x0))))
        have lo_b16 := M_2_3 T_S15 ((congrFun kE_S15 x0).trans ((congrFun kE_S11 x0).trans ((g_S8 x0 (lt18 ((g_S3 x0 (lt18 r_x0 (by decide))).1.trans r_x0) (by decide))).1.trans ((g_S3 x0 (lt18 r_x0 (by decide))).1.trans r_x0)))) p_b16
        refine ok_calR p_b16 ?_
        refine ok_chk k_b16 ?_
        have j24 := J_1_5 T_S15 k_b16
        refine ok_if (fun c25 => ?_) (fun c25 => ?_)
        ·
          replace c25 := ti_leP (a := (8 : Int32)) (b := (zI S15 5 b16)) c25 (show (8 : Int32).toInt = 8 from rfl) rfl
          exact t_d_X2_readTag_111 (S := S15)  (x0 := x0) (x1 := (zI S 4 x0)) T_S15 R_S15 ((congrFun kE_S15 x0).trans ((congrFun kE_S11 x0).trans ((g_S8 x0 (lt18 ((g_S3 x0 (lt18 r_x0 (by decide))).1.trans r_x0) (by decide))).1.trans ((g_S3 x0 (lt18 r_x0 (by decide))).1.trans r_x0))))
        ·
          replace c25 := ti_leN (a := (8 : Int32)) (b := (zI S15 5 b16)) c25 (show (8 : Int32).toInt = 8 from rfl) rfl
          refine ok_chk ((congrFun kE_S15 x0).trans ((congrFun kE_S11 x0).trans ((g_S8 x0 (lt18 ((g_S3 x0 (lt18 r_x0 (by decide))).1.trans r_x0) (by decide))).1.trans ((g_S3 x0 (lt18 r_x0 (by decide))).1.trans r_x0)))) ?_
          obtain ⟨b17, p_b17, k_b17, c_b17⟩ := T_2_6 T_S15 ((congrFun kE_S15 x0).trans ((congrFun kE_S11 x0).trans ((g_S8 x0 (lt18 ((g_S3 x0 (lt18 r_x0 (by decide))).1.trans r_x0) (by decide))).1.trans ((g_S3 x0 (lt18 r_x0 (by decide))).1.trans r_x0))))
          have lo_b17 := M_2_6 T_S15 ((congrFun kE_S15 x0).trans ((congrFun kE_S11 x0).trans ((g_S8 x0 (lt18 ((g_S3 x0 (lt18 r_x0 (by decide))).1.trans r_x0) (by decide))).1.trans ((g_S3 x0 (lt18 r_x0 (by decide))).1.trans r_x0)))) p_b17
          have rl_b17 := rL_x1 lo_b17 c_b17
          refine ok_calR p_b17 ?_
          refine ok_chk k_b17 ?_
          have j26 := J61_1 T_S15 k_b17 c_b17
          obtain ⟨r18, h_r18, p_r18⟩ := roz (t_f_X6_size (x0 := b17) T_S15 k_b17)
          dsimp only at p_r18
          refine ok_calR h_r18 ?_
          have s_r18 : r18.toInt = (zI S15 1 b17).toInt := congrArg Int32.toInt p_r18.2
          refine ok_chk ⟨rfl, rfl⟩ ?_
          refine ok_if (fun c27 => ?_) (fun c27 => ?_)
          ·
            replace c27 := ti_ltP (a := (12 : Int32)) (b := r18) c27 (show (12 : Int32).toInt = 12 from rfl) rfl
            exact t_d_X2_readTag_111 (S := S15)  (x0 := x0) (x1 := (zI S 4 x0)) T_S15 R_S15 ((congrFun kE_S15 x0).trans ((congrFun kE_S11 x0).trans ((g_S8 x0 (lt18 ((g_S3 x0 (lt18 r_x0 (by decide))).1.trans r_x0) (by decide))).1.trans ((g_S3 x0 (lt18 r_x0 (by decide))).1.trans r_x0))))
          ·
            replace c27 := ti_ltN (a := (12 : Int32)) (b := r18) c27 (show (12 : Int32).toInt = 12 from rfl) rfl
            refine ok_chk ((congrFun kE_S15 x0).trans ((congrFun kE_S11 x0).trans ((g_S8 x0 (lt18 ((g_S3 x0 (lt18 r_x0 (by decide))).1.trans r_x0) (by decide))).1.trans ((g_S3 x0 (lt18 r_x0 (by decide))).1.trans r_x0)))) ?_
            refine ok_calR p_b16 ?_
            refine ok_chk ((congrFun kE_S15 x0).trans ((congrFun kE_S11 x0).trans ((g_S8 x0 (lt18 ((g_S3 x0 (lt18 r_x0 (by decide))).1.trans r_x0) (by decide))).1.trans ((g_S3 x0 (lt18 r_x0 (by decide))).1.trans r_x0)))) ?_
            refine ok_calR p_b17 ?_
            refine ok_chk k_b16 ?_
            obtain ⟨r22, h_r22, p_r22⟩ := roz (t_d_X1_hasTag (x0 := b16) (x1 := b17) T_S15 k_b16 k_b17)
            dsimp only at p_r22
            refine ok_cal2R h_r22 ?_
            refine ok_if (fun c28 => ?_) (fun c28 => ?_)
            ·
              replace c28 := ti_eqP (a := r22) (b := (0 : Int32)) c28 rfl (show (0 : Int32).toInt = 0 from rfl)
              refine ok_chk ((congrFun kE_S15 x0).trans ((congrFun kE_S11 x0).trans ((g_S8 x0 (lt18 ((g_S3 x0 (lt18 r_x0 (by decide))).1.trans r_x0) (by decide))).1.trans ((g_S3 x0 (lt18 r_x0 (by decide))).1.trans r_x0)))) ?_
              obtain ⟨b26, p_b26, k_b26, c_b26⟩ := T_2_7 T_S15 ((congrFun kE_S15 x0).trans ((congrFun kE_S11 x0).trans ((g_S8 x0 (lt18 ((g_S3 x0 (lt18 r_x0 (by decide))).1.trans r_x0) (by decide))).1.trans ((g_S3 x0 (lt18 r_x0 (by decide))).1.trans r_x0))))
              have lo_b26 := M_2_7 T_S15 ((congrFun kE_S15 x0).trans ((congrFun kE_S11 x0).trans ((g_S8 x0 (lt18 ((g_S3 x0 (lt18 r_x0 (by decide))).1.trans r_x0) (by decide))).1.trans ((g_S3 x0 (lt18 r_x0 (by decide))).1.trans r_x0)))) p_b26
              have rl_b26 := rL_x1 lo_b26 c_b26
              refine ok_calR p_b26 ?_
              refine ok_chk k_b26 ?_
              have j29 := J61_1 T_S15 k_b26 c_b26
              obtain ⟨r27, h_r27, p_r27⟩ := roz (t_f_X6_size (x0 := b26) T_S15 k_b26)
              dsimp only at p_r27
              refine ok_calR h_r27 ?_
              have s_r27 : r27.toInt = (zI S15 1 b26).toInt := congrArg Int32.toInt p_r27.2
              refine ok_chk ⟨rfl, rfl⟩ ?_
              refine ok_if (fun c30 => ?_) (fun c30 => ?_)
              ·
                replace c30 := ti_leP (a := r27) (b := (96 : Int32)) c30 rfl (show (96 : Int32).toInt = 96 from rfl)
                refine ok_chk ((congrFun kE_S15 x0).trans ((congrFun kE_S11 x0).trans ((g_S8 x0 (lt18 ((g_S3 x0 (lt18 r_x0 (by decide))).1.trans r_x0) (by decide))).1.trans ((g_S3 x0 (lt18 r_x0 (by decide))).1.trans r_x0)))) ?_
                refine ok_calR p_b17 ?_
                refine ok_chk k_b17 ?_
                obtain ⟨r29, h_r29, p_r29⟩ := roz (t_f_X6_is (x0 := b17) (x1 := 0) T_S15 k_b17 (by decide))
                dsimp only at p_r29
                refine ok_calR h_r29 ?_
                refine ok_chk ⟨rfl, rfl⟩ ?_
                refine ok_if (fun c31 => ?_) (fun c31 => ?_)
                ·
                  replace c31 := ti_eqP (a := r29) (b := (0 : Int32)) c31 rfl (show (0 : Int32).toInt = 0 from rfl)
                  exact t_d_X2_readTag_158 (S := S15)  (x0 := x0) T_S15 R_S15 ((congrFun kE_S15 x0).trans ((congrFun kE_S11 x0).trans ((g_S8 x0 (lt18 ((g_S3 x0 (lt18 r_x0 (by decide))).1.trans r_x0) (by decide))).1.trans ((g_S3 x0 (lt18 r_x0 (by decide))).1.trans r_x0)))) (fun b9 h9 => by rw [p_b17] at h9; cases h9; omega) (fun b9 h9 => by rw [p_b26] at h9; cases h9; omega)
                ·
                  replace c31 := ti_eqN (a := r29) (b := (0 : Int32)) c31 rfl (show (0 : Int32).toInt = 0 from rfl)
                  refine ok_chk ((congrFun kE_S15 x0).trans ((congrFun kE_S11 x0).trans ((g_S8 x0 (lt18 ((g_S3 x0 (lt18 r_x0 (by decide))).1.trans r_x0) (by decide))).1.trans ((g_S3 x0 (lt18 r_x0 (by decide))).1.trans r_x0)))) ?_
                  obtain ⟨b30, p_b30, k_b30⟩ := T_2_1 T_S15 ((congrFun kE_S15 x0).trans ((congrFun kE_S11 x0).trans ((g_S8 x0 (lt18 ((g_S3 x0 (lt18 r_x0 (by decide))).1.trans r_x0) (by decide))).1.trans ((g_S3 x0 (lt18 r_x0 (by decide))).1.trans r_x0))))
                  refine ok_calR p_b30 ?_
                  refine ok_chk ((congrFun kE_S15 x0).trans ((congrFun kE_S11 x0).trans ((g_S8 x0 (lt18 ((g_S3 x0 (lt18 r_x0 (by decide))).1.trans r_x0) (by decide))).1.trans ((g_S3 x0 (lt18 r_x0 (by decide))).1.trans r_x0)))) ?_
                  refine ok_calR p_b16 ?_
                  refine ok_chk k_b16 ?_
                  obtain ⟨b32, p_b32, k_b32⟩ := T_1_0 T_S15 k_b16
                  refine ok_calR p_b32 ?_
                  refine ok_chk ((congrFun kE_S15 x0).trans ((congrFun kE_S11 x0).trans ((g_S8 x0 (lt18 ((g_S3 x0 (lt18 r_x0 (by decide))).1.trans r_x0) (by decide))).1.trans ((g_S3 x0 (lt18 r_x0 (by decide))).1.trans r_x0)))) ?_
                  refine ok_calR p_b26 ?_
                  refine ok_chk k_b30 ?_
                  obtain ⟨⟨r34, S34⟩, h_r34, T_S34, A_S34, p_r34⟩ := t_f_X5_readInto (x0 := b30) (x1 := b32) (x2 := b26) (SZ := S15) T_S15 (a7_0 S15) k_b30 k_b32 k_b26 (Nat.le_trans c_b26 (by decide))
                  replace T_S34 : ZT S34 := T_S34
                  replace A_S34 : A7 S15 S34 := A_S34
                  dsimp only at p_r34
                  refine ok_calR h_r34 ?_
                  have q_S34 := fq_X5_readInto h_r34
                  have kE_S34 : zK S34 = zK S15 := q_S34.2.2.1
                  have nE_S34 : zN S34 = zN S15 := q_S34.2.2.2.1
                  have R_S34 : RP SZ S34 := rp_f R_S15 T_S15 q_S34 (fz_X5_readInto h_r34) (by decide) A_S34
                  have : (zI S34 4 x0).toInt = (zI S15 4 x0).toInt := congrArg Int32.toInt ((((fz_X5_readInto h_r34) T_S15.2.2.2.2.1).2.2 x0 (by rw [((congrFun kE_S15 x0).trans ((congrFun kE_S11 x0).trans ((g_S8 x0 (lt18 ((g_S3 x0 (lt18 r_x0 (by decide))).1.trans r_x0) (by decide))).1.trans ((g_S3 x0 (lt18 r_x0 (by decide))).1.trans r_x0))))]; decide)).2.2.1 4 (by rw [((congrFun kE_S15 x0).trans ((congrFun kE_S11 x0).trans ((g_S8 x0 (lt18 ((g_S3 x0 (lt18 r_x0 (by decide))).1.trans r_x0) (by decide))).1.trans ((g_S3 x0 (lt18 r_x0 (by decide))).1.trans r_x0))))]; decide))
                  refine ok_chk ⟨q_S34.1, q_S34.2.1⟩ ?_
                  refine ok_if (fun c32 => ?_) (fun c32 => ?_)
                  ·
                    replace c32 := ti_eqP (a := r34) (b := (0 : Int32)) c32 rfl (show (0 : Int32).toInt = 0 from rfl)
                    refine ok_chk ((congrFun kE_S34 x0).trans ((congrFun kE_S15 x0).trans ((congrFun kE_S11 x0).trans ((g_S8 x0 (lt18 ((g_S3 x0 (lt18 r_x0 (by decide))).1.trans r_x0) (by decide))).1.trans ((g_S3 x0 (lt18 r_x0 (by decide))).1.trans r_x0))))) ?_
                    obtain ⟨⟨r35, S35⟩, h_r35, T_S35, A_S35, p_r35⟩ := t_f_X2_refuse (x0 := x0) (x1 := (3 : Int32)) (x2 := (zI S 4 x0)) (SZ := S34) T_S34 (a7_0 S34) ((congrFun kE_S34 x0).trans ((congrFun kE_S15 x0).trans ((congrFun kE_S11 x0).trans ((g_S8 x0 (lt18 ((g_S3 x0 (lt18 r_x0 (by decide))).1.trans r_x0) (by decide))).1.trans ((g_S3 x0 (lt18 r_x0 (by decide))).1.trans r_x0)))))
                    replace T_S35 : ZT S35 := T_S35
                    replace A_S35 : A7 S34 S35 := A_S35
                    dsimp only at p_r35
                    refine ok_calR h_r35 ?_
                    have q_S35 := fq_X2_refuse h_r35
                    have kE_S35 : zK S35 = zK S34 := q_S35.2.2.1
                    have nE_S35 : zN S35 = zN S34 := q_S35.2.2.2.1
                    have R_S35 : RP SZ S35 := rp_f R_S34 T_S34 q_S35 (fz_X2_refuse h_r35) (by decide) A_S35
                    have : (zI S35 4 x0).toInt = (zI S34 4 x0).toInt := congrArg Int32.toInt ((((fz_X2_refuse h_r35) T_S34.2.2.2.2.1).2.2 x0 (by rw [((congrFun kE_S34 x0).trans ((congrFun kE_S15 x0).trans ((congrFun kE_S11 x0).trans ((g_S8 x0 (lt18 ((g_S3 x0 (lt18 r_x0 (by decide))).1.trans r_x0) (by decide))).1.trans ((g_S3 x0 (lt18 r_x0 (by decide))).1.trans r_x0)))))]; decide)).2.2.1 4 (by rw [((congrFun kE_S34 x0).trans ((congrFun kE_S15 x0).trans ((congrFun kE_S11 x0).trans ((g_S8 x0 (lt18 ((g_S3 x0 (lt18 r_x0 (by decide))).1.trans r_x0) (by decide))).1.trans ((g_S3 x0 (lt18 r_x0 (by decide))).1.trans r_x0)))))]; decide))
                    refine ok_chk ⟨q_S35.1, q_S35.2.1⟩ ?_
                    refine ok_chk (nar_b (v := r35) (by omega) (by omega)) ?_
                    exact ok_ret ⟨T_S35, R_S35, (show (0 : Int) ≤ r35.toInt ∧ r35.toInt ≤ (1 : Int) from (by omega))⟩
                  ·
                    replace c32 := ti_eqN (a := r34) (b := (0 : Int32)) c32 rfl (show (0 : Int32).toInt = 0 from rfl)
                    exact t_d_X2_readTag_158 (S := S34)  (x0 := x0) T_S34 R_S34 ((congrFun kE_S34 x0).trans ((congrFun kE_S15 x0).trans ((congrFun kE_S11 x0).trans ((g_S8 x0 (lt18 ((g_S3 x0 (lt18 r_x0 (by decide))).1.trans r_x0) (by decide))).1.trans ((g_S3 x0 (lt18 r_x0 (by decide))).1.trans r_x0))))) (fun b9 h9 => by rw [(((fz_X5_readInto h_r34) T_S15.2.2.2.2.1).2.2 x0 (lt18 ((congrFun kE_S15 x0).trans ((congrFun kE_S11 x0).trans ((g_S8 x0 (lt18 ((g_S3 x0 (lt18 r_x0 (by decide))).1.trans r_x0) (by decide))).1.trans ((g_S3 x0 (lt18 r_x0 (by decide))).1.trans r_x0)))) (by decide))).2.2.2.1 6 (by rw [((congrFun kE_S15 x0).trans ((congrFun kE_S11 x0).trans ((g_S8 x0 (lt18 ((g_S3 x0 (lt18 r_x0 (by decide))).1.trans r_x0) (by decide))).1.trans ((g_S3 x0 (lt18 r_x0 (by decide))).1.trans r_x0))))]; decide), p_b17] at h9; cases h9; have h7 : (zI S34 1 b17).toInt = (zI S15 1 b17).toInt := congrArg Int32.toInt ((((fz_X5_readInto h_r34) T_S15.2.2.2.2.1).2.2 b17 (lt18 k_b17 (by decide))).2.2.1 1 (by rw [k_b17]; decide)); omega) (fun b9 h9 => by rw [(((fz_X5_readInto h_r34) T_S15.2.2.2.2.1).2.2 x0 (lt18 ((congrFun kE_S15 x0).trans ((congrFun kE_S11 x0).trans ((g_S8 x0 (lt18 ((g_S3 x0 (lt18 r_x0 (by decide))).1.trans r_x0) (by decide))).1.trans ((g_S3 x0 (lt18 r_x0 (by decide))).1.trans r_x0)))) (by decide))).2.2.2.1 7 (by rw [((congrFun kE_S15 x0).trans ((congrFun kE_S11 x0).trans ((g_S8 x0 (lt18 ((g_S3 x0 (lt18 r_x0 (by decide))).1.trans r_x0) (by decide))).1.trans ((g_S3 x0 (lt18 r_x0 (by decide))).1.trans r_x0))))]; decide), p_b26] at h9; cases h9; have h7 : (zI S34 1 b26).toInt = (zI S15 1 b26).toInt := congrArg Int32.toInt ((((fz_X5_readInto h_r34) T_S15.2.2.2.2.1).2.2 b26 (lt18 k_b26 (by decide))).2.2.1 1 (by rw [k_b26]; decide)); omega)
              ·
                replace c30 := ti_leN (a := r27) (b := (96 : Int32)) c30 rfl (show (96 : Int32).toInt = 96 from rfl)
                exact t_d_X2_readTag_111 (S := S15)  (x0 := x0) (x1 := (zI S 4 x0)) T_S15 R_S15 ((congrFun kE_S15 x0).trans ((congrFun kE_S11 x0).trans ((g_S8 x0 (lt18 ((g_S3 x0 (lt18 r_x0 (by decide))).1.trans r_x0) (by decide))).1.trans ((g_S3 x0 (lt18 r_x0 (by decide))).1.trans r_x0))))
            ·
              replace c28 := ti_eqN (a := r22) (b := (0 : Int32)) c28 rfl (show (0 : Int32).toInt = 0 from rfl)
              exact t_d_X2_readTag_111 (S := S15)  (x0 := x0) (x1 := (zI S 4 x0)) T_S15 R_S15 ((congrFun kE_S15 x0).trans ((congrFun kE_S11 x0).trans ((g_S8 x0 (lt18 ((g_S3 x0 (lt18 r_x0 (by decide))).1.trans r_x0) (by decide))).1.trans ((g_S3 x0 (lt18 r_x0 (by decide))).1.trans r_x0))))
      ·
        replace c20 := ti_eqN (a := r13) (b := (93 : Int32)) c20 rfl (show (93 : Int32).toInt = 93 from rfl)
        refine ok_chk ((congrFun kE_S11 x0).trans ((g_S8 x0 (lt18 ((g_S3 x0 (lt18 r_x0 (by decide))).1.trans r_x0) (by decide))).1.trans ((g_S3 x0 (lt18 r_x0 (by decide))).1.trans r_x0))) ?_
        refine ok_chk ((congrFun kE_S11 x0).trans ((g_S8 x0 (lt18 ((g_S3 x0 (lt18 r_x0 (by decide))).1.trans r_x0) (by decide))).1.trans ((g_S3 x0 (lt18 r_x0 (by decide))).1.trans r_x0))) ?_
        obtain ⟨⟨r36, S36⟩, h_r36, T_S36, A_S36, p_r36⟩ := t_f_X2_refuse (x0 := x0) (x1 := (1 : Int32)) (x2 := (zI S11 4 x0)) (SZ := S11) T_S11 (a7_0 S11) ((congrFun kE_S11 x0).trans ((g_S8 x0 (lt18 ((g_S3 x0 (lt18 r_x0 (by decide))).1.trans r_x0) (by decide))).1.trans ((g_S3 x0 (lt18 r_x0 (by decide))).1.trans r_x0)))
        replace T_S36 : ZT S36 := T_S36
        replace A_S36 : A7 S11 S36 := A_S36
        dsimp only at p_r36
        refine ok_calR h_r36 ?_
        have q_S36 := fq_X2_refuse h_r36
        have kE_S36 : zK S36 = zK S11 := q_S36.2.2.1
        have nE_S36 : zN S36 = zN S11 := q_S36.2.2.2.1
        have R_S36 : RP SZ S36 := rp_f R_S11 T_S11 q_S36 (fz_X2_refuse h_r36) (by decide) A_S36
        have : (zI S36 4 x0).toInt = (zI S11 4 x0).toInt := congrArg Int32.toInt ((((fz_X2_refuse h_r36) T_S11.2.2.2.2.1).2.2 x0 (by rw [((congrFun kE_S11 x0).trans ((g_S8 x0 (lt18 ((g_S3 x0 (lt18 r_x0 (by decide))).1.trans r_x0) (by decide))).1.trans ((g_S3 x0 (lt18 r_x0 (by decide))).1.trans r_x0)))]; decide)).2.2.1 4 (by rw [((congrFun kE_S11 x0).trans ((g_S8 x0 (lt18 ((g_S3 x0 (lt18 r_x0 (by decide))).1.trans r_x0) (by decide))).1.trans ((g_S3 x0 (lt18 r_x0 (by decide))).1.trans r_x0)))]; decide))
        refine ok_chk ⟨q_S36.1, q_S36.2.1⟩ ?_
        refine ok_chk (nar_b (v := r36) (by omega) (by omega)) ?_
        exact ok_ret ⟨T_S36, R_S36, (show (0 : Int) ≤ r36.toInt ∧ r36.toInt ≤ (1 : Int) from (by omega))⟩
theorem t_d_X2_readTag {SZ S : ZS} {x0 : Nat} (hT : ZT S) (hR : RP SZ S) (r_x0 : zK S x0 = 2) (q0 : (zI S 4 x0).toInt ≤ 90000) : Ok (d_X2_readTag x0 S) (fun o => ZT o.2 ∧ RP SZ o.2 ∧ ((0 : Int) ≤ o.1.toInt ∧ o.1.toInt ≤ (1 : Int))) := t_d_X2_readTag_0 hT hR r_x0 q0
theorem t_d_X2_readHead_50 {SZ S : ZS} {x0 : Nat} {x1 : Int32} (hT : ZT S) (hR : RP SZ S) (r_x0 : zK S x0 = 2) (r_x1 : (0 : Int) ≤ x1.toInt ∧ x1.toInt ≤ (1 : Int)) : Ok (d_X2_readHead_50 x0 x1 S) (fun o => ZT o.2 ∧ RP SZ o.2 ∧ ((0 : Int) ≤ o.1.toInt ∧ o.1.toInt ≤ (1 : Int))) := by
  unfold d_X2_readHead_50
  have j33 := J_2_4 hT r_x0
  refine ok_if (fun c34 => ?_) (fun c34 => ?_)
  ·
    replace c34 := ti_eqP (a := x1) (b := (0 : Int32)) c34 rfl (show (0 : Int32).toInt = 0 from rfl)
    unfold d_X2_readHead_73
    unfold d_X2_readHead_74
    refine ok_chk (by decide) ?_
    exact ok_ret ⟨hT, hR, (show (0 : Int) ≤ (0 : Int32).toInt ∧ (0 : Int32).toInt ≤ (1 : Int) from (by decide))⟩
  ·
    replace c34 := ti_eqN (a := x1) (b := (0 : Int32)) c34 rfl (show (0 : Int32).toInt = 0 from rfl)
    refine ok_chk r_x0 ?_
    obtain ⟨b1, p_b1, k_b1⟩ := T_2_3 hT r_x0
    have lo_b1 := M_2_3 hT r_x0 p_b1
    refine ok_calR p_b1 ?_
    refine ok_chk k_b1 ?_
    have zl35 : (0 : Int32).toInt = 0 := rfl
    obtain ⟨r2, h_r2, p_r2⟩ := roz (t_f_X1_at (x0 := b1) (x1 := (0 : Int32)) hT k_b1)
    dsimp only at p_r2
    refine ok_calR h_r2 ?_
    refine ok_chk ⟨rfl, rfl⟩ ?_
    refine ok_chk r_x0 ?_
    obtain ⟨⟨r4, S5⟩, h_r4, T_S5, B_S5, p_r4⟩ := t_d_X2_readRemarks (x0 := x0) (x1 := r2) (SZ := S) hT (rp_0 S) r_x0 p_r2.1
    replace T_S5 : ZT S5 := T_S5
    replace B_S5 : RP S S5 := B_S5
    have R_S5 : RP SZ S5 := rp_t hR B_S5
    dsimp only at p_r4
    refine ok_cal2R h_r4 ?_
    have g_S5 := (fz_X2_readRemarks h_r4 hT.2.2.2.2.1).2.2
    refine ok_if (fun c36 => ?_) (fun c36 => ?_)
    ·
      replace c36 := ti_eqP (a := r4) (b := (0 : Int32)) c36 rfl (show (0 : Int32).toInt = 0 from rfl)
      unfold d_X2_readHead_73
      unfold d_X2_readHead_74
      refine ok_chk (by decide) ?_
      exact ok_ret ⟨T_S5, R_S5, (show (0 : Int) ≤ (0 : Int32).toInt ∧ (0 : Int32).toInt ≤ (1 : Int) from (by decide))⟩
    ·
      replace c36 := ti_eqN (a := r4) (b := (0 : Int32)) c36 rfl (show (0 : Int32).toInt = 0 from rfl)
      unfold d_X2_readHead_74
      refine ok_chk (by decide) ?_
      exact ok_ret ⟨T_S5, R_S5, (show (0 : Int) ≤ (1 : Int32).toInt ∧ (1 : Int32).toInt ≤ (1 : Int) from (by decide))⟩
theorem t_d_X2_readHead_8s {SZ S : ZS} {self8 : Nat → Int32 → Int32 → ZS → Option (Int32 × ZS)} {N8 : Nat} (hself8 : ∀ (x0 : Nat) (x1 : Int32) (x2 : Int32) (S : ZS), ZT S → RP SZ S → (zK S x0 = 2) → ((0 : Int) ≤ x1.toInt ∧ x1.toInt ≤ (1 : Int)) → ((0 : Int) ≤ x2.toInt ∧ x2.toInt ≤ (2000 : Int)) → (2001 - x2.toInt) < (N8 : Int) → Ok (self8 x0 x1 x2 S) (fun o => ZT o.2 ∧ RP SZ o.2 ∧ ((0 : Int) ≤ o.1.toInt ∧ o.1.toInt ≤ (1 : Int)))) {x0 : Nat} {x1 : Int32} {x2 : Int32} (hT : ZT S) (hR : RP SZ S) (r_x0 : zK S x0 = 2) (r_x1 : (0 : Int) ≤ x1.toInt ∧ x1.toInt ≤ (1 : Int)) (r_x2 : (0 : Int) ≤ x2.toInt ∧ x2.toInt ≤ (2000 : Int)) (m8 : (2001 - x2.toInt) ≤ (N8 : Int)) : Ok (d_X2_readHead_8s self8 x0 x1 x2 S) (fun o => ZT o.2 ∧ RP SZ o.2 ∧ ((0 : Int) ≤ o.1.toInt ∧ o.1.toInt ≤ (1 : Int))) := by
  unfold d_X2_readHead_8s
  have j37 := J_2_4 hT r_x0
  refine ok_if (fun c38 => ?_) (fun c38 => ?_)
  ·
    replace c38 := ti_leP (a := (2000 : Int32)) (b := x2) c38 (show (2000 : Int32).toInt = 2000 from rfl) rfl
    exact t_d_X2_readHead_50 (S := S)  (x0 := x0) (x1 := x1) hT hR r_x0 r_x1
  ·
    replace c38 := ti_leN (a := (2000 : Int32)) (b := x2) c38 (show (2000 : Int32).toInt = 2000 from rfl) rfl
    refine ok_if (fun c39 => ?_) (fun c39 => ?_)
    ·
      replace c39 := ti_eqP (a := x1) (b := (0 : Int32)) c39 rfl (show (0 : Int32).toInt = 0 from rfl)
      exact t_d_X2_readHead_50 (S := S)  (x0 := x0) (x1 := x1) hT hR r_x0 r_x1
    ·
      replace c39 := ti_eqN (a := x1) (b := (0 : Int32)) c39 rfl (show (0 : Int32).toInt = 0 from rfl)
      refine ok_chk r_x0 ?_
      obtain ⟨b1, p_b1, k_b1, c_b1⟩ := T_2_2 hT r_x0
      have rl_b1 := rL_ge b1
      refine ok_calR p_b1 ?_
      refine ok_chk r_x0 ?_
      refine ok_chk k_b1 ?_
      have j40 := J61_2 hT k_b1 c_b1
      obtain ⟨r2, h_r2, p_r2⟩ := roz (t_f_X6_at (x0 := b1) (x1 := (zI S 4 x0)) hT k_b1)
      dsimp only at p_r2
      refine ok_calR h_r2 ?_
      refine ok_chk ⟨rfl, rfl⟩ ?_
      refine ok_if (fun c41 => ?_) (fun c41 => ?_)
      ·
        replace c41 := ti_eqP (a := r2) (b := (91 : Int32)) c41 rfl (show (91 : Int32).toInt = 91 from rfl)
        refine ok_chk r_x0 ?_
        obtain ⟨⟨r4, S5⟩, h_r4, T_S5, B_S5, p_r4⟩ := t_d_X2_readTag (x0 := x0) (SZ := S) hT (rp_0 S) r_x0 (by omega)
        replace T_S5 : ZT S5 := T_S5
        replace B_S5 : RP S S5 := B_S5
        have R_S5 : RP SZ S5 := rp_t hR B_S5
        dsimp only at p_r4
        refine ok_cal2R h_r4 ?_
        have g_S5 := (fz_X2_readTag h_r4 hT.2.2.2.2.1).2.2
        refine ok_chk ((g_S5 x0 (lt18 r_x0 (by decide))).1.trans r_x0) ?_
        obtain ⟨⟨r8, S8⟩, h_r8, T_S8, A_S8, -⟩ := t_f_X2_skipBlanks (x0 := x0) (SZ := S5) T_S5 (a7_0 S5) ((g_S5 x0 (lt18 r_x0 (by decide))).1.trans r_x0)
        replace T_S8 : ZT S8 := T_S8
        replace A_S8 : A7 S5 S8 := A_S8
        refine ok_calR h_r8 ?_
        have q_S8 := fq_X2_skipBlanks h_r8
        have kE_S8 : zK S8 = zK S5 := q_S8.2.2.1
        have nE_S8 : zN S8 = zN S5 := q_S8.2.2.2.1
        have R_S8 : RP SZ S8 := rp_f R_S5 T_S5 q_S8 (fz_X2_skipBlanks h_r8) (by decide) A_S8
        refine ok_chk ⟨q_S8.1, q_S8.2.1⟩ ?_
        refine ok_bnd (fun v9 e42 => ?_)
        have t_v9 : v9.toInt = x2.toInt + 1 := ti_add e42 rfl (show (1 : Int32).toInt = 1 from rfl) (by omega) (by omega)
        exact hself8 x0 r4 v9 S8 T_S8 R_S8 ((congrFun kE_S8 x0).trans ((g_S5 x0 (lt18 r_x0 (by decide))).1.trans r_x0)) (by omega) (by omega) (by omega)
      ·
        replace c41 := ti_eqN (a := r2) (b := (91 : Int32)) c41 rfl (show (91 : Int32).toInt = 91 from rfl)
        exact t_d_X2_readHead_50 (S := S)  (x0 := x0) (x1 := x1) hT hR r_x0 r_x1
theorem t_d_X2_readHead_8 {SZ : ZS} : ∀ (n : Nat) (x0 : Nat) (x1 : Int32) (x2 : Int32) (S : ZS), ZT S → RP SZ S → (zK S x0 = 2) → ((0 : Int) ≤ x1.toInt ∧ x1.toInt ≤ (1 : Int)) → ((0 : Int) ≤ x2.toInt ∧ x2.toInt ≤ (2000 : Int)) → (2001 - x2.toInt) < (n : Int) → Ok (d_X2_readHead_8  n x0 x1 x2 S) (fun o => ZT o.2 ∧ RP SZ o.2 ∧ ((0 : Int) ≤ o.1.toInt ∧ o.1.toInt ≤ (1 : Int))) := by
  intro n
  induction n with
  | zero => intro x0 x1 x2 S hT hR g0 g1 g2  hm; exfalso; omega
  | succ n ih =>
    intro x0 x1 x2 S hT hR g0 g1 g2  hm
    exact t_d_X2_readHead_8s (N8 := n)  ih hT hR g0 g1 g2  (by omega)
theorem t_d_X2_readHead_0 {SZ S : ZS} {x0 : Nat} (hT : ZT S) (hR : RP SZ S) (r_x0 : zK S x0 = 2) : Ok (d_X2_readHead_0 x0 S) (fun o => ZT o.2 ∧ RP SZ o.2 ∧ ((0 : Int) ≤ o.1.toInt ∧ o.1.toInt ≤ (1 : Int))) := by
  unfold d_X2_readHead_0
  have j43 := J_2_4 hT r_x0
  refine ok_chk r_x0 ?_
  obtain ⟨⟨r1, S1⟩, h_r1, T_S1, A_S1, -⟩ := t_f_X2_skipBlanks (x0 := x0) (SZ := S) hT (a7_0 S) r_x0
  replace T_S1 : ZT S1 := T_S1
  replace A_S1 : A7 S S1 := A_S1
  refine ok_calR h_r1 ?_
  have q_S1 := fq_X2_skipBlanks h_r1
  have kE_S1 : zK S1 = zK S := q_S1.2.2.1
  have nE_S1 : zN S1 = zN S := q_S1.2.2.2.1
  have R_S1 : RP SZ S1 := rp_f hR hT q_S1 (fz_X2_skipBlanks h_r1) (by decide) A_S1
  refine ok_chk ⟨q_S1.1, q_S1.2.1⟩ ?_
  exact t_d_X2_readHead_8   mFuel x0 (1 : Int32) (0 : Int32) S1 T_S1 R_S1 ((congrFun kE_S1 x0).trans r_x0) (by decide) (by decide) (by show _ < ((200000 : Nat) : Int); have z0 : (1 : Int32).toInt = 1 := rfl; have z1 : (0 : Int32).toInt = 0 := rfl; omega)
theorem t_d_X2_readHead {SZ S : ZS} {x0 : Nat} (hT : ZT S) (hR : RP SZ S) (r_x0 : zK S x0 = 2) : Ok (d_X2_readHead x0 S) (fun o => ZT o.2 ∧ RP SZ o.2 ∧ ((0 : Int) ≤ o.1.toInt ∧ o.1.toInt ≤ (1 : Int))) := t_d_X2_readHead_0 hT hR r_x0
end
section
theorem TTl_app {n node : Nat} {P M C N P' C' N' : Nat → Int} {L : Nat → List Nat} (hb : TTb n P M) (hl : TTl n P C N L) (hnode : node ≤ n)
    (eP : ∀ j, j ≤ n → P' j = P j) (eP1 : P' (n + 1) = (node : Int))
    (eC : ∀ j, j ≤ n → j ≠ node → C' j = C j) (eC0 : L node ≠ [] → C' node = C node) (eC1 : L node = [] → C' node = ((n + 1 : Nat) : Int)) (eC2 : C' (n + 1) = -1)
    (eN : ∀ j, j ≤ n → (∀ h : L node ≠ [], j ≠ (L node).getLast h) → N' j = N j) (eN1 : ∀ h : L node ≠ [], N' ((L node).getLast h) = ((n + 1 : Nat) : Int)) (eN2 : N' (n + 1) = -1) : TTl (n + 1) P' C' N' (fun p => if p = node then L node ++ [n + 1] else if p = n + 1 then [] else L p) := by
  have hLn : ∀ p, p ≤ n → ∀ k ∈ L p, 1 ≤ k ∧ k ≤ n ∧ P k = (p : Int) := fun p hp k hk => ((hl p hp).2.2 k).mp hk
  intro p hp
  by_cases e : p = node
  · subst e
    obtain ⟨a, b, c⟩ := hl p hnode
    dsimp only
    rw [if_pos rfl]
    have hnm : n + 1 ∉ L p := fun h => by have := hLn p hnode _ h; omega
    refine ⟨?_, ?_, fun k => ?_⟩
    · by_cases h0 : L p = []
      · rw [h0, eC1 h0]
        exact ⟨rfl, eN2⟩
      · rw [eC0 h0]
        refine chn_snoc a h0 b hnm eN2 (eN1 h0) (fun j hj hne => eN j (hLn p hnode j hj).2.1 (fun _ => hne))
    · rw [List.nodup_append]
      refine ⟨b, by simp, fun x hx y hy => ?_⟩
      have : y = n + 1 := by simpa using hy
      subst this
      intro e; subst e; exact hnm hx
    · rw [List.mem_append, c k]
      constructor
      · intro h
        rcases h with h | h
        · exact ⟨h.1, by omega, by rw [eP k h.2.1]; exact h.2.2⟩
        · have : k = n + 1 := by simpa using h
          subst this; exact ⟨by omega, by omega, eP1⟩
      · intro h
        by_cases e : k = n + 1
        · right; simp [e]
        · left; exact ⟨h.1, by omega, by rw [← eP k (by omega)]; exact h.2.2⟩
  · dsimp only
    rw [if_neg e]
    by_cases e1 : p = n + 1
    · rw [if_pos e1]
      subst e1
      refine ⟨eC2, List.nodup_nil, fun k => ?_⟩
      constructor
      · intro h; cases h
      · intro h
        by_cases e2 : k = n + 1
        · subst e2; rw [eP1] at h; omega
        · have h3 := (hb k h.1 (by omega)).1
          rw [eP k (by omega)] at h
          omega
    · rw [if_neg e1]
      obtain ⟨a, b, c⟩ := hl p (by omega)
      refine ⟨?_, b, fun k => ?_⟩
      · rw [eC p (by omega) e]
        refine chn_congr (fun j hj => eN j (hLn p (by omega) j hj).2.1 (fun h he => ?_)) a
        have h4 := hLn p (by omega) j hj
        have h5 := hLn node hnode _ (List.getLast_mem h)
        rw [← he] at h5
        omega
      · rw [c k]
        constructor
        · intro h; exact ⟨h.1, by omega, by rw [eP k h.2.1]; exact h.2.2⟩
        · intro h
          by_cases e2 : k = n + 1
          · subst e2; rw [eP1] at h; omega
          · exact ⟨h.1, by omega, by rw [← eP k (by omega)]; exact h.2.2⟩
theorem TTl_lead {n u F H b : Nat} {l r : List Nat} {P C N C' N' : Nat → Int} {L : Nat → List Nat} (hl : TTl n P C N L) (hu : u ≤ n) (hL : L u = l ++ b :: H :: r) (hF : C u = (F : Int))
    (eC : ∀ j, j ≤ n → j ≠ u → C' j = C j) (eCu : C' u = (H : Int)) (eNb : N' b = N H) (eNH : N' H = (F : Int)) (eN : ∀ j, j ≤ n → j ≠ b → j ≠ H → N' j = N j) : TTl n P C' N' (fun p => if p = u then H :: (l ++ b :: r) else L p) := by
  have hc := (hl u hu).1
  have hnd := (hl u hu).2.1
  have hmem := (hl u hu).2.2
  rw [hL] at hc hnd hmem
  have hF' : (F : Nat) ∈ l ++ b :: H :: r ∧ (l ++ b :: r).head? = some F := by
    cases l with
    | nil => have := hc.1
             have e : F = b := by omega
             subst e; exact ⟨by simp, rfl⟩
    | cons x l => have := hc.1
                  have e : F = x := by omega
                  subst e; exact ⟨by simp, rfl⟩
  obtain ⟨f1, f2, f3⟩ := (hmem F).mp hF'.1
  obtain ⟨g1, g2, g3⟩ := (hmem H).mp (by simp)
  have hnd2 := List.nodup_append.mp hnd
  have hbH : b ≠ H := by
    intro e
    have := (List.nodup_cons.mp hnd2.2.1).1
    exact this (by rw [e]; exact List.mem_cons_self)
  have hHr : H ∉ r := (List.nodup_cons.mp (List.nodup_cons.mp hnd2.2.1).2).1
  have hHl : H ∉ l := fun h => hnd2.2.2 H h H (by simp) rfl
  have hbl : b ∉ l := fun h => hnd2.2.2 b h b (by simp) rfl
  have hbr : b ∉ r := fun h => (List.nodup_cons.mp hnd2.2.1).1 (List.mem_cons_of_mem _ h)
  have hFH : F ≠ H := by
    intro e
    cases l with
    | nil => have := hc.1
             exact hbH (by omega)
    | cons x l => have := hc.1
                  have e1 : x = H := by omega
                  exact hHl (by rw [e1]; exact List.mem_cons_self)
  have hbn : b ≤ n := ((hmem b).mp (by simp)).2.1
  have hln : ∀ j ∈ l, j ≤ n := fun j hj => ((hmem j).mp (by simp [hj])).2.1
  have hrn : ∀ j ∈ r, j ≤ n := fun j hj => ((hmem j).mp (by simp [hj])).2.1
  intro p hp
  dsimp only
  by_cases e : p = u
  · subst e
    rw [if_pos rfl]
    refine ⟨⟨eCu, ?_⟩, ?_, fun k => ?_⟩
    · rw [eNH]
      have h5 : chn N (l ++ b :: H :: r) (F : Int) := by rw [← hF]; exact hc
      exact chn_del eNb (fun j hj => eN j (hrn j hj) (fun e => hbr (e ▸ hj)) (fun e => hHr (e ▸ hj))) l _ (fun j hj => eN j (hln j hj) (fun e => hbl (e ▸ hj)) (fun e => hHl (e ▸ hj))) h5
    · refine List.nodup_cons.mpr ⟨by simp [hHl, hHr, Ne.symm hbH], ?_⟩
      refine List.nodup_append.mpr ⟨hnd2.1, List.nodup_cons.mpr ⟨hbr, (List.nodup_cons.mp (List.nodup_cons.mp hnd2.2.1).2).2⟩, fun x hx y hy => hnd2.2.2 x hx y ?_⟩
      rcases List.mem_cons.mp hy with h | h
      · rw [h]; exact List.mem_cons_self
      · exact List.mem_cons_of_mem _ (List.mem_cons_of_mem _ h)
    · rw [← hmem k]
      simp only [List.mem_cons, List.mem_append]
      constructor
      · intro h; rcases h with h | h | h | h
        · exact Or.inr (Or.inr (Or.inl h))
        · exact Or.inl h
        · exact Or.inr (Or.inl h)
        · exact Or.inr (Or.inr (Or.inr h))
      · intro h; rcases h with h | h | h | h
        · exact Or.inr (Or.inl h)
        · exact Or.inr (Or.inr (Or.inl h))
        · exact Or.inl h
        · exact Or.inr (Or.inr (Or.inr h))
  · rw [if_neg e]
    obtain ⟨a, c, d⟩ := hl p hp
    refine ⟨?_, c, d⟩
    rw [eC p hp e]
    refine chn_congr (fun j hj => ?_) a
    have h6 := (d j).mp hj
    have h7 := (hmem b).mp (by simp)
    exact eN j h6.2.1 (fun e1 => by subst e1; omega) (fun e1 => by subst e1; omega)
end
section
noncomputable def TXs (S : ZS) (g r b g' r' b' : Nat) : Prop := (zK S g = 1 ∧ zK S g' = 1) ∧ (zP S 1 g = some r ∧ zP S 1 g' = some r') ∧ (zP S 2 g = some b ∧ zP S 2 g' = some b') ∧ (zK S r = 4 ∧ zK S r' = 4) ∧ (zK S b = 16 ∧ zK S b' = 16) ∧ (∀ i c, zB S b i = some c → c ≠ r ∧ c ≠ r' ∧ (∀ j, zB S b' j ≠ some c) ∧ ∀ j, zB S b j = some c → j = i) ∧ (∀ i c, zB S b' i = some c → c ≠ r ∧ c ≠ r' ∧ (∀ j, zB S b j ≠ some c) ∧ ∀ j, zB S b' j = some c → j = i)
theorem txs_1 {S : ZS} (h : TX S) : TXs S 35 38 40 99 102 104 := h
theorem txs_s {S : ZS} {g r b g' r' b' : Nat} (h : TXs S g r b g' r' b') : TXs S g' r' b' g r b := by
  obtain ⟨⟨a1, a2⟩, ⟨b1, b2⟩, ⟨c1, c2⟩, ⟨d1, d2⟩, ⟨e1, e2⟩, f, k⟩ := h
  exact ⟨⟨a2, a1⟩, ⟨b2, b1⟩, ⟨c2, c1⟩, ⟨d2, d1⟩, ⟨e2, e1⟩, fun i c h => ⟨(k i c h).2.1, (k i c h).1, (k i c h).2.2⟩, fun i c h => ⟨(f i c h).2.1, (f i c h).1, (f i c h).2.2⟩⟩
theorem cn_le {S : ZS} {g : Nat} (hT : ZT S) (hk : zK S g = 1) : cn S g ≤ 300 ∧ (zI S 3 g).toInt = (cn S g : Int) := by
  have j := J_1_3 hT hk
  unfold cn
  omega
theorem nd_nk {S : ZS} {g r b : Nat} {i : Int32} (hT : ZT S) (hk : zK S g = 1) (hr : zP S 1 g = some r) (hb : zP S 2 g = some b) (h0 : 0 ≤ i.toInt) (h1 : i.toInt ≤ (cn S g : Int)) : nd S g i = nk S r b i.toInt.toNat := by
  have hc := cn_le hT hk
  have z : (0 : Int32).toInt = 0 := rfl
  unfold nd nk
  rw [hr, hb]
  by_cases e : i.toInt = 0
  · rw [if_pos (Or.inl (Int32.le_iff_toInt_le.2 (by omega))), if_pos (by omega)]; rfl
  · rw [if_neg (fun h => ?_), if_neg (by omega)]
    · rfl
    · rcases h with h | h
      · have := Int32.le_iff_toInt_le.1 h; omega
      · have := Int32.lt_iff_toInt_lt.1 h; omega
theorem nd_x {S S' : ZS} {g b : Nat} (e1 : zI S' 3 g = zI S 3 g) (e2 : zP S' 1 g = zP S 1 g) (e3 : zP S' 2 g = zP S 2 g) (hb : zP S 2 g = some b) (e4 : zB S' b = zB S b) (i : Int32) : nd S' g i = nd S g i := by
  unfold nd
  rw [e1, e2, e3, hb]
  show (if _ then _ else (zB S' b i.toNatClampNeg).getD _) = (if _ then _ else (zB S b i.toNatClampNeg).getD _)
  rw [e4]
theorem nk_inj {S : ZS} {r b n : Nat} (hi : ∀ i c, zB S b i = some c → c ≠ r ∧ ∀ j, zB S b j = some c → j = i) (hn : ∀ k, 1 ≤ k → k ≤ n → zB S b k ≠ none) {i j : Nat} (h1 : i ≤ n) (h2 : j ≤ n) (e : nk S r b i = nk S r b j) : i = j := by
  unfold nk at e
  by_cases e1 : i = 0
  · by_cases e2 : j = 0
    · omega
    · rw [if_pos e1, if_neg e2] at e
      cases hc : zB S b j with
      | none => exact absurd hc (hn j (by omega) h2)
      | some c => rw [hc] at e; exact absurd e.symm (hi j c hc).1
  · rw [if_neg e1] at e
    cases hc : zB S b i with
    | none => exact absurd hc (hn i (by omega) h1)
    | some c =>
      rw [hc] at e
      by_cases e2 : j = 0
      · rw [if_pos e2] at e; exact absurd e (hi i c hc).1
      · rw [if_neg e2] at e
        cases hd : zB S b j with
        | none => exact absurd hd (hn j (by omega) h2)
        | some d =>
          rw [hd] at e
          have e' : c = d := e
          rw [← e'] at hd
          exact ((hi i c hc).2 j hd).symm
theorem keep_P {S S' : ZS} {x0 : Nat} {x1 y : Int32} (hf : f_X6_keep x0 x1 S = some (y, S')) : zP S' = zP S := by
  have hf : f_X6_keep_0 x0 x1 S = some (y, S') := hf
  unfold f_X6_keep_0 at hf
  rcases m_ifE hf with ⟨-, hf⟩ | ⟨-, hf⟩
  · cases hf; rfl
  · obtain ⟨-, hf⟩ := m_chkE hf
    rcases m_ifE hf with ⟨-, hf⟩ | ⟨-, hf⟩
    · cases hf; rfl
    · obtain ⟨-, hf⟩ := m_chkE hf
      obtain ⟨S1, e1, hf⟩ := m_bndE hf
      cases hf
      rw [e1]; rfl
theorem become_P {S S' : ZS} {x0 : Nat} {x1 x2 y : Int32} (hf : f_X4_become x0 x1 x2 S = some (y, S')) : zP S' = zP S := by
  have hf : f_X4_become_0 x0 x1 x2 S = some (y, S') := hf
  unfold f_X4_become_0 at hf
  obtain ⟨-, hf⟩ := m_chkE hf
  obtain ⟨S1, e1, hf⟩ := m_bndE hf
  obtain ⟨-, hf⟩ := m_chkE hf
  obtain ⟨S2, e2, hf⟩ := m_bndE hf
  obtain ⟨-, hf⟩ := m_chkE hf
  obtain ⟨S3, e3, hf⟩ := m_bndE hf
  obtain ⟨-, hf⟩ := m_chkE hf
  obtain ⟨S4, e4, hf⟩ := m_bndE hf
  obtain ⟨-, hf⟩ := m_chkE hf
  obtain ⟨S5, e5, hf⟩ := m_bndE hf
  obtain ⟨-, hf⟩ := m_chkE hf
  obtain ⟨S6, e6, hf⟩ := m_bndE hf
  obtain ⟨-, hf⟩ := m_chkE hf
  obtain ⟨b7, -, hf⟩ := m_calE hf
  obtain ⟨-, hf⟩ := m_chkE hf
  obtain ⟨⟨y8, S8⟩, ho, hf⟩ := m_calE hf
  cases hf
  show zP S8 = _
  rw [keep_P ho, e6]; show zP S5 = _; rw [e5]; show zP S4 = _; rw [e4]; show zP S3 = _; rw [e3]; show zP S2 = _; rw [e2]; show zP S1 = _; rw [e1]; rfl
theorem bec_I {S S' : ZS} {x0 : Nat} {x1 x2 y : Int32} (hT : ZT S) (hk : zK S x0 = 4) (hf : f_X4_become x0 x1 x2 S = some (y, S')) : zI S' 0 x0 = x1 ∧ zI S' 2 x0 = -1 ∧ zI S' 3 x0 = -1 ∧ zI S' 4 x0 = 0 ∧ ∀ a j, zK S a = 4 → a ≠ x0 → zI S' j a = zI S j a := by
  have hf : f_X4_become_0 x0 x1 x2 S = some (y, S') := hf
  unfold f_X4_become_0 at hf
  obtain ⟨-, hf⟩ := m_chkE hf
  obtain ⟨S1, e1, hf⟩ := m_bndE hf
  obtain ⟨-, hf⟩ := m_chkE hf
  obtain ⟨S2, e2, hf⟩ := m_bndE hf
  obtain ⟨-, hf⟩ := m_chkE hf
  obtain ⟨S3, e3, hf⟩ := m_bndE hf
  obtain ⟨-, hf⟩ := m_chkE hf
  obtain ⟨S4, e4, hf⟩ := m_bndE hf
  obtain ⟨-, hf⟩ := m_chkE hf
  obtain ⟨S5, e5, hf⟩ := m_bndE hf
  obtain ⟨-, hf⟩ := m_chkE hf
  obtain ⟨S6, e6, hf⟩ := m_bndE hf
  obtain ⟨-, hf⟩ := m_chkE hf
  obtain ⟨b7, -, hf⟩ := m_calE hf
  obtain ⟨-, hf⟩ := m_chkE hf
  obtain ⟨o8, ho, hf⟩ := m_calE hf
  cases hf
  have kE : zK S6 = zK S := by rw [e6]; show zK S5 = _; rw [e5]; show zK S4 = _; rw [e4]; show zK S3 = _; rw [e3]; show zK S2 = _; rw [e2]; show zK S1 = _; rw [e1]; rfl
  have tE : zt S6 = zt S := by rw [e6]; show zt S5 = _; rw [e5]; show zt S4 = _; rw [e4]; show zt S3 = _; rw [e3]; show zt S2 = _; rw [e2]; show zt S1 = _; rw [e1]; rfl
  have hF : Fh S6 := fun a ha => by rw [kE]; exact hT.2.2.2.2.1 a (by rw [← tE]; exact ha)
  have ff := (fz_X6_keep ho hF).2.2
  have kp : ∀ a j, zK S a = 4 → zI o8.2 j a = zI S6 j a := fun a j ha => (ff a (by rw [kE, ha]; decide)).2.2.1 j (by rw [kE, ha]; simp)
  refine ⟨?_, ?_, ?_, ?_, fun a j ha hne => ?_⟩
  · rw [kp x0 0 hk, e6, zI_j (by decide), e5, zI_j (by decide), e4, zI_j (by decide), e3, zI_j (by decide), e2, zI_j (by decide), e1, zI_self]
  · rw [kp x0 2 hk, e6, zI_j (by decide), e5, zI_j (by decide), e4, zI_j (by decide), e3, zI_self]
  · rw [kp x0 3 hk, e6, zI_j (by decide), e5, zI_j (by decide), e4, zI_self]
  · rw [kp x0 4 hk, e6, zI_j (by decide), e5, zI_self]
  · rw [kp a j ha, e6, zI_b hne, e5, zI_b hne, e4, zI_b hne, e3, zI_b hne, e2, zI_b hne, e1, zI_b hne]
theorem gw_24 {S : ZS} {g r b : Nat} {x1 x2 : Int32} {Q : Int32 × ZS → Prop} (hT : ZT S) (hk : zK S g = 1) (hr : zP S 1 g = some r) (hb : zP S 2 g = some b) : ∀ (l : List Nat) (n : Nat) (x3 x4 : Int32), chn (nF S 3 r b) l x3.toInt → (∀ k ∈ l, 1 ≤ k ∧ k ≤ cn S g) → l.length < n → 0 ≤ x4.toInt → x4.toInt + (l.length : Int) ≤ 300 → (∀ x3' : Int32, (l = [] → x3'.toInt = -1) → (∀ h : l ≠ [], x3'.toInt = ((l.getLast h : Nat) : Int)) → Ok (d_X1_grow_64 g x1 x2 x3' S) Q) → Ok (d_X1_grow_24 n g x1 x2 x3 x4 S) Q
  | _, 0, _, _, _, _, hn, _, _, _ => by omega
  | [], n + 1, x3, x4, hc, _, _, _, _, hq => by
    have hc' : x3.toInt = -1 := hc
    have key := hq x3 (fun _ => hc') (fun h => absurd rfl h)
    show Ok (d_X1_grow_24s (d_X1_grow_24 n) g x1 x2 x3 x4 S) Q
    unfold d_X1_grow_24s
    refine ok_if (fun _ => key) (fun _ => ok_ifT (Int32.toInt_inj.1 hc') key)
  | k :: l, n + 1, x3, x4, hc, hm, hn, h0, h3, hq => by
    have hc1 : x3.toInt = (k : Int) := hc.1
    have hc2 : chn (nF S 3 r b) l (nF S 3 r b k) := hc.2
    have hk1 := hm k List.mem_cons_self
    have hl : (k :: l).length = l.length + 1 := rfl
    have z3 : (300 : Int32).toInt = 300 := rfl
    have zm : (-1 : Int32).toInt = -1 := rfl
    show Ok (d_X1_grow_24s (d_X1_grow_24 n) g x1 x2 x3 x4 S) Q
    unfold d_X1_grow_24s
    refine ok_ifF (fun h => by have := Int32.le_iff_toInt_le.1 h; omega) (ok_ifF (fun h => by rw [h] at hc1; omega) ?_)
    obtain ⟨c, h1, k1, a1⟩ := roz (t_f_X1_at (x1 := x3) hT hk)
    dsimp only at k1 a1
    have e1 : c = nk S r b k := by
      rw [a1, nd_nk hT hk hr hb (by omega) (by omega), hc1]; rfl
    refine ok_chk hk (ok_calR h1 (ok_chk ⟨rfl, rfl⟩ (ok_chk k1 (ok_if (fun e => ?_) (fun e => ?_)))))
    · have e2 : (zI S 3 c).toInt = -1 := congrArg Int32.toInt e
      have hl0 : l = [] := chn_nil (v := nF S 3 r b k) hc2 (by unfold nF; rw [← e1, e2]; decide)
      subst hl0
      exact hq x3 (fun h => by cases h) (fun _ => hc1)
    · refine ok_chk hk (ok_calR h1 (ok_chk ⟨rfl, rfl⟩ (ok_chk k1 (ok_bnd (fun v3 e3 => ?_)))))
      have t3 : v3.toInt = x4.toInt + 1 := ti_add e3 rfl (show (1 : Int32).toInt = 1 from rfl) (by omega) (by omega)
      have hne : l ≠ [] := fun h => by
        rw [h] at hc2
        have h5 : nF S 3 r b k = -1 := hc2
        unfold nF at h5
        rw [← e1] at h5
        exact e (Int32.toInt_inj.1 h5)
      have hc3 : chn (nF S 3 r b) l (zI S 3 c).toInt := by
        have : nF S 3 r b k = (zI S 3 c).toInt := by unfold nF; rw [← e1]
        rw [← this]; exact hc2
      refine gw_24 hT hk hr hb l n (zI S 3 c) v3 hc3 (fun j hj => hm j (List.mem_cons_of_mem _ hj)) (by omega) (by omega) (by omega) (fun x3' g1 g2 => hq x3' (fun h => by cases h) (fun h => ?_))
      rw [g2 hne]
      exact congrArg _ (List.getLast_cons hne).symm
theorem gw_102 {S : ZS} {g b : Nat} {x1 x2 x3 : Int32} (hT : ZT S) (hk : zK S g = 1) (hb : zP S 2 g = some b) (kb : zK S b = 16) : Ok (d_X1_grow_102 g x1 x2 x3 S) (fun o => ZT o.2 ∧ RM S o.2 ∧ A7 S o.2 ∧ o.1 = zI S 3 g ∧ (∀ i, nd o.2 g i = nd S g i) ∧ (zK o.2 = zK S ∧ zP o.2 = zP S ∧ zB o.2 = zB S ∧ ∀ a, zK S a = 1 → zI o.2 3 a = zI S 3 a) ∧ ∃ S2 y, f_X4_become (nd S g (zI S 3 g)) x1 x2 S = some (y, S2) ∧ zK S (nd S g (zI S 3 g)) = 4 ∧ ((x3 = -1 ∧ zK S (nd S g x1) = 4 ∧ o.2 = zsI S2 2 (nd S g x1) (zI S 3 g)) ∨ (x3 ≠ -1 ∧ zK S (nd S g x3) = 4 ∧ o.2 = zsI S2 3 (nd S g x3) (zI S 3 g)))) := by
  unfold d_X1_grow_102
  obtain ⟨c, h1, k1, a1⟩ := roz (t_f_X1_at (x1 := zI S 3 g) hT hk)
  dsimp only at k1 a1
  refine ok_chk hk (ok_chk hk (ok_calR h1 (ok_chk ⟨rfl, rfl⟩ (ok_chk k1 ?_))))
  obtain ⟨⟨y, S2⟩, h2, T2, A2, -⟩ := t_f_X4_become (SZ := S) (x0 := c) (x1 := x1) (x2 := x2) hT (a7_0 S) k1
  replace T2 : ZT S2 := T2
  replace A2 : A7 S S2 := A2
  have q2 : EqT S S2 := fq_X4_become h2
  have f2 := (fz_X4_become h2 hT.2.2.2.2.1).2.2
  have R2 : RM S S2 := rm_f (rm_0 S) hT q2 (fz_X4_become h2) (by decide)
  have k2 : zK S2 g = 1 := by rw [q2.2.2.1]; exact hk
  have i2 : ∀ a, zK S a = 1 → zI S2 3 a = zI S 3 a := fun a ha => (f2 a (lt18 ha (by decide))).2.2.1 3 (by rw [ha]; decide)
  have p2 : zP S2 = zP S := become_P h2
  have nx : ∀ i, nd S2 g i = nd S g i := nd_x (i2 g hk) (by rw [p2]) (by rw [p2]) hb (by rw [q2.2.2.2.2])
  refine ok_calR h2 (ok_chk ⟨q2.1, q2.2.1⟩ (ok_if (fun e => ?_) (fun e => ?_)))
  · obtain ⟨u, h5, k5, a5⟩ := roz (t_f_X1_at (x1 := x1) T2 k2)
    dsimp only at k5 a5
    rw [nx] at a5
    refine ok_chk k2 (ok_calR h5 (ok_chk ⟨rfl, rfl⟩ (ok_chk k2 (ok_chk k5 (ok_bnd (fun S6 e6 => ?_))))))
    unfold d_X1_grow_147
    have k6 : zK S6 g = 1 := by rw [e6]; exact k2
    have i6 : ∀ a, zI S6 3 a = zI S2 3 a := fun a => by rw [e6]; exact zI_j (by decide)
    have T6 : ZT S6 := e6.symm ▸ zt_W T2 k5 (by decide) rfl
    have kS : zK S6 = zK S := by rw [e6, ← q2.2.2.1]; rfl
    have pS : zP S6 = zP S := by rw [e6, ← p2]; rfl
    have bS : zB S6 = zB S := by rw [e6, ← q2.2.2.2.2]; rfl
    refine ok_chk k6 (ok_ret ⟨T6, rm_t R2 (rm_I (rm_0 S2) e6), a7_I A2 e6 k5 (by decide), ?_, ?_, ⟨kS, pS, bS, fun a ha => ?_⟩, S2, y, by rw [← a1]; exact h2, by rw [← a1]; exact k1, Or.inl ⟨e, ?_, ?_⟩⟩)
    · show zI S6 3 g = _
      rw [i6, i2 g hk]
    · exact nd_x ((i6 g).trans (i2 g hk)) (by rw [pS]) (by rw [pS]) hb (by rw [bS])
    · show zI S6 3 a = _
      rw [i6, i2 a ha]
    · rw [← a5, ← q2.2.2.1]; exact k5
    · show S6 = _
      rw [e6, a5, i2 g hk]
  · obtain ⟨u, h5, k5, a5⟩ := roz (t_f_X1_at (x1 := x3) T2 k2)
    dsimp only at k5 a5
    rw [nx] at a5
    refine ok_chk k2 (ok_calR h5 (ok_chk ⟨rfl, rfl⟩ (ok_chk k2 (ok_chk k5 (ok_bnd (fun S6 e6 => ?_))))))
    unfold d_X1_grow_147
    have k6 : zK S6 g = 1 := by rw [e6]; exact k2
    have i6 : ∀ a, zK S2 a = 1 → zI S6 3 a = zI S2 3 a := fun a ha => by rw [e6]; exact zI_ne (fun h => by rw [h, k5] at ha; omega)
    have T6 : ZT S6 := e6.symm ▸ zt_W T2 k5 (by decide) rfl
    have kS : zK S6 = zK S := by rw [e6, ← q2.2.2.1]; rfl
    have pS : zP S6 = zP S := by rw [e6, ← p2]; rfl
    have bS : zB S6 = zB S := by rw [e6, ← q2.2.2.2.2]; rfl
    refine ok_chk k6 (ok_ret ⟨T6, rm_t R2 (rm_I (rm_0 S2) e6), a7_I A2 e6 k5 (by decide), ?_, ?_, ⟨kS, pS, bS, fun a ha => ?_⟩, S2, y, by rw [← a1]; exact h2, by rw [← a1]; exact k1, Or.inr ⟨e, ?_, ?_⟩⟩)
    · show zI S6 3 g = _
      rw [i6 g k2, i2 g hk]
    · exact nd_x ((i6 g k2).trans (i2 g hk)) (by rw [pS]) (by rw [pS]) hb (by rw [bS])
    · show zI S6 3 a = _
      rw [i6 a (by rw [q2.2.2.1]; exact ha), i2 a ha]
    · rw [← a5, ← q2.2.2.1]; exact k5
    · show S6 = _
      rw [e6, a5, i2 g hk]
end
section
/-- a game with room for one more node -/
noncomputable def SXF (S SX : ZS) (g b c : Nat) : Prop := ZT SX ∧ RM S SX ∧ A7 S SX ∧ (∀ a, zK S a < 18 → zK SX a = zK S a ∧ (∀ j, zP SX j a = zP S j a) ∧ ∀ j, ¬ (j = 3 ∧ a = g) → zI SX j a = zI S j a) ∧ (zI SX 3 g).toInt = (cn S g : Int) + 1 ∧ (∀ a, zK S a = 16 → a ≠ b → zB SX a = zB S a) ∧ (∀ i, i ≠ cn S g + 1 → zB SX b i = zB S b i) ∧ zB SX b (cn S g + 1) = some c ∧ (zB S b (cn S g + 1) = some c ∨ 18 ≤ zK S c) ∧ zK SX c = 4
theorem gw_64 {S : ZS} {g b : Nat} {x1 x2 x3 : Int32} {Q : Int32 × ZS → Prop} (hT : ZT S) (hk : zK S g = 1) (hb : zP S 2 g = some b) (kb : zK S b = 16) (hn : cn S g < 300) (hq : ∀ SX c, SXF S SX g b c → Ok (d_X1_grow_102 g x1 x2 x3 SX) Q) : Ok (d_X1_grow_64 g x1 x2 x3 S) Q := by
  unfold d_X1_grow_64
  have hc := cn_le hT hk
  have z1 : (1 : Int32).toInt = 1 := rfl
  refine ok_chk hk (ok_bnd (fun v1 e1 => ?_))
  have t1 : v1.toInt = (cn S g : Int) + 1 := ti_add e1 hc.2 z1 (by omega) (by omega)
  refine ok_chk hk (ok_bnd (fun S2 e2 => ?_))
  have T2 : ZT S2 := e2.symm ▸ zt_I hT hk (by decide) (show (0 : Int) ≤ v1.toInt ∧ v1.toInt ≤ (300 : Int) by omega)
  have k2 : zK S2 = zK S := by rw [e2]; rfl
  have n2 : zN S2 = zN S := by rw [e2]; rfl
  have p2 : zP S2 = zP S := by rw [e2]; rfl
  have b2 : zB S2 = zB S := by rw [e2]; rfl
  have i2 : zI S2 3 g = v1 := by rw [e2]; exact zI_self _ _ _ _
  have o2 : ∀ a j, ¬ (j = 3 ∧ a = g) → zI S2 j a = zI S j a := fun a j h => by
    rw [e2]
    by_cases e : j = 3
    · rw [e]; exact zI_ne (fun h2 => h ⟨e, h2⟩)
    · exact zI_j e
  have R2 : RM S S2 := rm_I (rm_0 S) e2
  have A2 : A7 S S2 := a7_I (a7_0 S) e2 hk (by decide)
  have kg : zK S2 g = 1 := by rw [k2]; exact hk
  have pb : zP S2 2 g = some b := by rw [p2]; exact hb
  have kb2 : zK S2 b = 16 := by rw [k2]; exact kb
  have nb : zN S2 b = 301 := by
    obtain ⟨b', h1, h2, h3⟩ := T_1_2 T2 kg
    rw [pb] at h1
    cases h1
    exact h3
  have ix : (zI S2 3 g).toNatClampNeg = cn S g + 1 := by
    have e : (zI S2 3 g).toNatClampNeg = (zI S2 3 g).toInt.toNat := rfl
    rw [e, i2]; omega
  refine ok_chk kg (ok_calR pb (ok_chk kg (ok_chk kb2 (ok_chk (ti_inN (v := zI S2 3 g) (n := 301) nb (by rw [i2]; omega) (by rw [i2]; omega)) (ok_bnd (fun v4 e4 => ?_))))))
  rw [ix, b2] at e4
  refine ok_opt (fun hv => ?_) (fun c hv => ?_)
  · rw [hv] at e4
    refine ok_chk kg (ok_calR pb (ok_chk kg (ok_bnd (fun q7 e7 => ok_bnd (fun S8 e8 => ?_)))))
    rw [e7] at e8 ⊢
    rw [e8]
    have hz : zB S2 b (cn S g + 1) = none := by rw [b2]; exact e4.symm
    obtain ⟨TX, RX⟩ := rm_node (i := cn S g + 1) T2 kb2 hz (by omega)
    obtain ⟨f1, f2, f3, f4, -⟩ := nd_f S2
    obtain ⟨g1, g2, g3, -⟩ := nd_e S2
    have hq0 : 18 ≤ zK S2 (zt S2) := T2.2.2.2.2.1 _ (Nat.le_refl _)
    have nN : ∀ a, zK S a < 18 → ¬ (a = zt S2 ∨ a = zt S2 + 1) := fun a ha h => by
      have := T2.2.2.2.2.1 a (by omega)
      rw [k2] at this
      omega
    have kbn : zK (zNd S2) b = 16 := by rw [f1 b (nN b (by omega))]; exact kb2
    have nbn : zN (zNd S2) b = 301 := by rw [g1]; exact nb
    refine ok_cal2R (init4 S2) (ok_chk kbn (ok_chk f4 (ok_chk (ti_inN (v := zI S2 3 g) (n := 301) nbn (by rw [i2]; omega) (by rw [i2]; omega)) (ok_bnd (fun S16 e16 => ?_)))))
    rw [ix] at e16
    refine hq S16 (zt S2) ⟨by rw [e16]; exact TX, by rw [e16]; exact rm_t R2 RX, ?_, fun a ha => ⟨?_, fun j => ?_, fun j hj => ?_⟩, ?_, fun a ha hne => ?_, fun i hi => ?_, ?_, Or.inr (by rw [← k2]; exact hq0), ?_⟩
    · refine a7_t A2 ⟨fun a h1 h2 => ?_, fun r9 h1 h2 => by rw [e16]; exact ⟨(f1 r9 (nN r9 (by rw [← k2, h1]; decide))).trans h1, f2 r9 1 (nN r9 (by rw [← k2, h1]; decide)), f3 r9 0 (nN r9 (by rw [← k2, h1]; decide)), fun c9 _ => ⟨congrFun g1 c9, congrFun g2 c9⟩⟩⟩
      rw [e16]
      refine ⟨?_, ?_, ?_⟩
      · show zK (zNd S2) a = _
        rw [f1 a (nN a (by rw [← k2, h1]; decide))]; exact h1
      · show zN (zNd S2) a = _
        rw [g1]; exact h2
      · show zA (zNd S2) a = _
        rw [g2]
    · rw [e16]
      show zK (zNd S2) a = _
      rw [f1 a (nN a ha), k2]
    · rw [e16]
      show zP (zNd S2) j a = _
      rw [f3 a j (nN a ha), p2]
    · rw [e16]
      show zI (zNd S2) j a = _
      rw [f2 a j (nN a ha), o2 a j hj]
    · rw [e16]
      show (zI (zNd S2) 3 g).toInt = _
      rw [f2 g 3 (nN g (by omega)), i2]; exact t1
    · rw [e16]
      show va_up (zB (zNd S2)) b (va_up (zB (zNd S2) b) (cn S g + 1) (some (zt S2))) a = _
      rw [va_up_ne _ _ hne, g3, b2]
    · rw [e16]
      show va_up (zB (zNd S2)) b (va_up (zB (zNd S2) b) (cn S g + 1) (some (zt S2))) b i = _
      rw [va_up_self, va_up_ne _ _ hi, g3, b2]
    · rw [e16]
      show va_up (zB (zNd S2)) b (va_up (zB (zNd S2) b) (cn S g + 1) (some (zt S2))) b (cn S g + 1) = _
      rw [va_up_self, va_up_self]
    · rw [e16]; exact f4
  · rw [hv] at e4
    refine hq S2 c ⟨T2, R2, A2, fun a ha => ⟨by rw [k2], fun j => by rw [p2], fun j hj => o2 a j hj⟩, by rw [i2]; exact t1, fun a _ _ => by rw [b2], fun i _ => by rw [b2], by rw [b2]; exact e4.symm, Or.inl e4.symm, ?_⟩
    exact (T2.2.2.2.1 b).2.1 kb2 (cn S g + 1) c (by rw [b2]; exact e4.symm)
theorem nk_cell {S : ZS} {r b k n : Nat} (hn : ∀ k, 1 ≤ k → k ≤ n → zB S b k ≠ none) (hk : k ≤ n) : (k = 0 ∧ nk S r b k = r) ∨ (1 ≤ k ∧ zB S b k = some (nk S r b k)) := by
  unfold nk
  by_cases e : k = 0
  · exact Or.inl ⟨e, if_pos e⟩
  · refine Or.inr ⟨by omega, ?_⟩
    rw [if_neg e]
    cases h : zB S b k with
    | none => exact absurd h (hn k (by omega) hk)
    | some c => rfl
theorem nk_or {S : ZS} {r b k : Nat} : nk S r b k = r ∨ zB S b k = some (nk S r b k) := by
  unfold nk
  by_cases e : k = 0
  · exact Or.inl (if_pos e)
  · rw [if_neg e]
    cases h : zB S b k with
    | none => exact Or.inl rfl
    | some c => exact Or.inr rfl
theorem grow_tz {S SX S2 S' : ZS} {g r b g' r' b' c node : Nat} {x1 x2 x3 y : Int32} {L : Nat → List Nat} (hT : ZT S) (hgg : g ≠ g') (hrr : r ≠ r') (hbb : b ≠ b') (hX : TXs S g r b g' r' b') (h1 : ∀ k, 1 ≤ k → k ≤ cn S g → zB S b k ≠ none) (hb : TTb (cn S g) (nF S 0 r b) (fun _ => 0)) (hl : TTl (cn S g) (nF S 0 r b) (nF S 2 r b) (nF S 3 r b) L) (hY' : TY S g' r' b') (hF : SXF S SX g b c) (hnd : x1.toInt = (node : Int)) (hnode : node ≤ cn S g)
    (hx3 : (L node = [] → x3.toInt = -1) ∧ (∀ h : L node ≠ [], x3.toInt = (((L node).getLast h : Nat) : Int)))
    (hbec : f_X4_become c x1 x2 SX = some (y, S2)) (hkS : zK S' = zK SX) (hpS : zP S' = zP SX) (hbS : zB S' = zB SX) (hiS : ∀ a, zK SX a = 1 → zI S' 3 a = zI SX 3 a)
    (hS' : (x3 = -1 ∧ S' = zsI S2 2 (nd SX g x1) (zI SX 3 g)) ∨ (x3 ≠ -1 ∧ S' = zsI S2 3 (nd SX g x3) (zI SX 3 g))) : TXs S' g r b g' r' b' ∧ TY S' g r b ∧ TY S' g' r' b' ∧ cn S' g = cn S g + 1 ∧ zI S' 4 c = 0 ∧ nk S' r b (cn S g + 1) = c := by
  obtain ⟨⟨a1, a2⟩, ⟨b1, b2⟩, ⟨c1, c2⟩, ⟨d1, d2⟩, ⟨e1, e2⟩, f, k⟩ := hX
  obtain ⟨TX, RX, AX, oX, nX, bX, iX, cX, sX, kcX⟩ := hF
  have kX : ∀ a, zK S a < 18 → zK SX a = zK S a := fun a ha => (oX a ha).1
  have kO : ∀ a, zK S a < 18 → zK S' a = zK S a := fun a ha => by rw [hkS]; exact kX a ha
  have pO : ∀ a j, zK S a < 18 → zP S' j a = zP S j a := fun a j ha => by rw [hpS]; exact (oX a ha).2.1 j
  have bb : ∀ i, i ≠ cn S g + 1 → zB S' b i = zB S b i := fun i hi => by rw [hbS]; exact iX i hi
  have bc : zB S' b (cn S g + 1) = some c := by rw [hbS]; exact cX
  have bb' : zB S' b' = zB S b' := by rw [hbS]; exact bX b' e2 (fun h => hbb h.symm)
  have eK : ∀ i d, zB S b i = some d → zK S d = 4 := fun i d h => (hT.2.2.2.1 b).2.1 e1 i d h
  have eK' : ∀ i d, zB S b' i = some d → zK S d = 4 := fun i d h => (hT.2.2.2.1 b').2.1 e2 i d h
  have cr : c ≠ r ∧ c ≠ r' ∧ (∀ j, zB S b' j ≠ some c) ∧ ∀ j, j ≠ cn S g + 1 → zB S b j ≠ some c := by
    rcases sX with h | h
    · obtain ⟨u1, u2, u3, u4⟩ := f _ _ h
      exact ⟨u1, u2, u3, fun j hj hh => hj (u4 j hh)⟩
    · refine ⟨fun e => by rw [e] at h; omega, fun e => by rw [e] at h; omega, fun j hh => ?_, fun j _ hh => ?_⟩
      · have := eK' _ _ hh; omega
      · have := eK _ _ hh; omega
  have hTXs : TXs S' g r b g' r' b' := by
    refine ⟨⟨(kO g (by omega)).trans a1, (kO g' (by omega)).trans a2⟩, ⟨(pO g 1 (by omega)).trans b1, (pO g' 1 (by omega)).trans b2⟩, ⟨(pO g 2 (by omega)).trans c1, (pO g' 2 (by omega)).trans c2⟩, ⟨(kO r (by omega)).trans d1, (kO r' (by omega)).trans d2⟩, ⟨(kO b (by omega)).trans e1, (kO b' (by omega)).trans e2⟩, fun i d hd => ?_, fun i d hd => ?_⟩
    · rw [bb']
      by_cases ei : i = cn S g + 1
      · rw [ei, bc] at hd
        cases hd
        refine ⟨cr.1, cr.2.1, cr.2.2.1, fun j hj => ?_⟩
        by_cases ej : j = cn S g + 1
        · omega
        · rw [bb j ej] at hj
          exact absurd hj (cr.2.2.2 j ej)
      · rw [bb i ei] at hd
        obtain ⟨u1, u2, u3, u4⟩ := f i d hd
        refine ⟨u1, u2, u3, fun j hj => ?_⟩
        by_cases ej : j = cn S g + 1
        · rw [ej, bc] at hj
          cases hj
          exact absurd hd (cr.2.2.2 i ei)
        · rw [bb j ej] at hj; exact u4 j hj
    · rw [bb'] at hd ⊢
      obtain ⟨u1, u2, u3, u4⟩ := k i d hd
      refine ⟨u1, u2, fun j hj => ?_, u4⟩
      by_cases ej : j = cn S g + 1
      · rw [ej, bc] at hj
        cases hj
        exact cr.2.2.1 i hd
      · rw [bb j ej] at hj; exact u3 j hj
  have ka : ∀ j, zK S (nk S r b j) = 4 := fun j => nk_kind hT d1 e1
  have ka' : ∀ j, zK S (nk S r' b' j) = 4 := fun j => nk_kind hT d2 e2
  have kg : zK SX g = 1 := (kX g (by omega)).trans a1
  have rX : zP SX 1 g = some r := ((oX g (by omega)).2.1 1).trans b1
  have pX : zP SX 2 g = some b := ((oX g (by omega)).2.1 2).trans c1
  have cnX : cn SX g = cn S g + 1 := by unfold cn at nX ⊢; omega
  have nkX : ∀ j, j ≤ cn S g → nk SX r b j = nk S r b j := fun j hj => by unfold nk; rw [iX j (by omega)]
  have nk' : ∀ j, j ≤ cn S g → nk S' r b j = nk S r b j := fun j hj => by unfold nk; rw [bb j (by omega)]
  have nkc : nk S' r b (cn S g + 1) = c := by unfold nk; rw [if_neg (by omega), bc]; rfl
  have inj : ∀ i j, i ≤ cn S g → j ≤ cn S g → nk S r b i = nk S r b j → i = j := fun i j hi hj he => nk_inj (fun i c h => ⟨(f i c h).1, (f i c h).2.2.2⟩) h1 hi hj he
  have nec : ∀ j, j ≤ cn S g → nk S r b j ≠ c := fun j hj he => by
    rcases nk_cell (r := r) h1 hj with ⟨-, h⟩ | ⟨h0, h⟩
    · exact cr.1 (by rw [← he, h])
    · rw [he] at h; exact cr.2.2.2 j (by omega) h
  have uX : ∀ (i : Int32) (m : Nat), i.toInt = (m : Int) → m ≤ cn S g → nd SX g i = nk S r b m := fun i m hi hm => by
    rw [nd_nk TX kg rX pX (by omega) (by omega), hi]
    exact nkX m hm
  obtain ⟨w0, w2, w3, w4, wo⟩ := bec_I TX kcX hbec
  have cn' : cn S' g = cn S g + 1 := by unfold cn; rw [hiS g kg]; exact cnX
  have vX : (zI SX 3 g).toInt = ((cn S g + 1 : Nat) : Int) := by omega
  have oS : ∀ a j, zK S a = 4 → a ≠ c → zI S2 j a = zI S j a := fun a j ha hne => by
    rw [wo a j ((kX a (by omega)).trans ha) hne]
    exact (oX a (by omega)).2.2 j (fun h => by rw [h.2, a1] at ha; omega)
  have mn : ∀ h : L node ≠ [], 1 ≤ (L node).getLast h ∧ (L node).getLast h ≤ cn S g := fun h => by
    have := ((hl node hnode).2.2 _).1 (List.getLast_mem h)
    exact ⟨this.1, this.2.1⟩
  have zm : (-1 : Int32).toInt = -1 := rfl
  -- what the link changes
  have main : (L node = [] ∧ (∀ a, zI S' 0 a = zI S2 0 a) ∧ (∀ a, zI S' 3 a = zI S2 3 a) ∧ (∀ a, a ≠ nk S r b node → zI S' 2 a = zI S2 2 a) ∧ zI S' 2 (nk S r b node) = zI SX 3 g ∧ zI S' 4 c = 0) ∨ (∃ h : L node ≠ [], (∀ a, zI S' 0 a = zI S2 0 a) ∧ (∀ a, zI S' 2 a = zI S2 2 a) ∧ (∀ a, a ≠ nk S r b ((L node).getLast h) → zI S' 3 a = zI S2 3 a) ∧ zI S' 3 (nk S r b ((L node).getLast h)) = zI SX 3 g ∧ zI S' 4 c = 0) := by
    rcases hS' with ⟨e, h⟩ | ⟨e, h⟩
    · left
      have hL : L node = [] := Classical.byContradiction (fun hne => by
        have := hx3.2 hne
        have := mn hne
        rw [e] at *
        omega)
      rw [uX x1 node hnd hnode] at h
      refine ⟨hL, fun a => ?_, fun a => ?_, fun a ha => ?_, ?_, ?_⟩
      · rw [h]; exact zI_j (by decide)
      · rw [h]; exact zI_j (by decide)
      · rw [h]; exact zI_ne ha
      · rw [h]; exact zI_self _ _ _ _
      · rw [h, zI_j (by decide)]; exact w4
    · right
      have hL : L node ≠ [] := fun hh => e (Int32.toInt_inj.1 (hx3.1 hh))
      have := mn hL
      rw [uX x3 _ (hx3.2 hL) this.2] at h
      refine ⟨hL, fun a => ?_, fun a => ?_, fun a ha => ?_, ?_, ?_⟩
      · rw [h]; exact zI_j (by decide)
      · rw [h]; exact zI_j (by decide)
      · rw [h]; exact zI_ne ha
      · rw [h]; exact zI_self _ _ _ _
      · rw [h, zI_j (by decide)]; exact w4
  have m0 : ∀ a, zI S' 0 a = zI S2 0 a := by
    rcases main with h | ⟨hL2, h⟩
    · exact h.2.1
    · exact h.1
  have m4 : zI S' 4 c = 0 := by
    rcases main with h | ⟨hL2, h⟩
    · exact h.2.2.2.2.2
    · exact h.2.2.2.2
  have P0 : ∀ j, j ≤ cn S g → nF S' 0 r b j = nF S 0 r b j := fun j hj => by
    unfold nF
    rw [nk' j hj, m0, oS _ 0 (ka j) (nec j hj)]
  have P1 : nF S' 0 r b (cn S g + 1) = (node : Int) := by
    unfold nF
    rw [nkc, m0, w0]; exact hnd
  have hTTl : TTl (cn S g + 1) (nF S' 0 r b) (nF S' 2 r b) (nF S' 3 r b) (fun p => if p = node then L node ++ [cn S g + 1] else if p = cn S g + 1 then [] else L p) := by
    rcases main with ⟨hL, -, m3, m2, mu, -⟩ | ⟨hL, -, m2, m3, mu, -⟩
    · refine TTl_app hb hl hnode P0 P1 (fun j hj hne => ?_) (fun h => absurd hL h) (fun _ => ?_) ?_ (fun j hj _ => ?_) (fun h => absurd hL h) ?_
      · unfold nF
        rw [nk' j hj, m2 _ (fun e => hne (inj j node hj hnode e)), oS _ 2 (ka j) (nec j hj)]
      · unfold nF
        rw [nk' node hnode, mu]; exact vX
      · unfold nF
        rw [nkc, m2 c (fun e => nec node hnode e.symm), w2]; rfl
      · unfold nF
        rw [nk' j hj, m3, oS _ 3 (ka j) (nec j hj)]
      · unfold nF
        rw [nkc, m3, w3]; rfl
    · have hm := mn hL
      refine TTl_app hb hl hnode P0 P1 (fun j hj hne => ?_) (fun _ => ?_) (fun h => absurd h hL) ?_ (fun j hj hne => ?_) (fun _ => ?_) ?_
      · unfold nF
        rw [nk' j hj, m2, oS _ 2 (ka j) (nec j hj)]
      · unfold nF
        rw [nk' node hnode, m2, oS _ 2 (ka node) (nec node hnode)]
      · unfold nF
        rw [nkc, m2, w2]; rfl
      · unfold nF
        rw [nk' j hj, m3 _ (fun e => hne hL (inj j _ hj hm.2 e)), oS _ 3 (ka j) (nec j hj)]
      · unfold nF
        rw [nk' _ hm.2, mu]; exact vX
      · unfold nF
        rw [nkc, m3 c (fun e => nec _ hm.2 e.symm), w3]; rfl
  have nor : ∀ m, nk S r b m = r ∨ zB S b m = some (nk S r b m) := fun m => nk_or
  have nor' : ∀ m, nk S r' b' m = r' ∨ zB S b' m = some (nk S r' b' m) := fun m => nk_or
  have crs : ∀ m m', nk S r' b' m' ≠ nk S r b m := fun m m' e => by
    rcases nor' m' with h | h
    · rcases nor m with h2 | h2
      · exact hrr (by rw [← h2, ← e, h])
      · exact (f _ _ h2).2.1 (by rw [← e, h])
    · rcases nor m with h2 | h2
      · exact (k _ _ h).1 (by rw [e, h2])
      · rw [e] at h; exact (k _ _ h).2.2.1 _ h2
  have nec' : ∀ m, nk S r' b' m ≠ c := fun m e => by
    rcases nor' m with h | h
    · exact cr.2.1 (by rw [← e, h])
    · rw [e] at h; exact cr.2.2.1 _ h
  refine ⟨hTXs, ⟨fun j h2 h3 => ?_, fun j h2 h3 => ?_, _, by rw [cn']; exact hTTl⟩, ty_x hY' bb' ?_ (fun j => ⟨?_, ?_, ?_⟩), cn', m4, nkc⟩
  · rw [cn'] at h3
    by_cases ej : j = cn S g + 1
    · rw [ej, bc]; intro h; cases h
    · rw [bb j ej]; exact h1 j h2 (by omega)
  · rw [cn'] at h3
    by_cases ej : j = cn S g + 1
    · rw [ej, P1]; exact ⟨by omega, Int.le_refl _⟩
    · rw [P0 j (by omega)]; exact hb j h2 (by omega)
  · rw [hiS g' ((kX g' (by omega)).trans a2), (oX g' (by omega)).2.2 3 (fun h => hgg h.2.symm)]
  · rw [m0, oS _ 0 (ka' j) (nec' j)]
  · rcases main with ⟨hL, -, m3, m2, mu, -⟩ | ⟨hL, -, m2, m3, mu, -⟩
    · rw [m2 _ (crs _ _), oS _ 2 (ka' j) (nec' j)]
    · rw [m2, oS _ 2 (ka' j) (nec' j)]
  · rcases main with ⟨hL, -, m3, m2, mu, -⟩ | ⟨hL, -, m2, m3, mu, -⟩
    · rw [m3, oS _ 3 (ka' j) (nec' j)]
    · rw [m3 _ (crs _ _), oS _ 3 (ka' j) (nec' j)]
/-- what grow leaves behind -/
noncomputable def GP (S : ZS) (g : Nat) (o : Int32 × ZS) : Prop := (o.1.toInt = -1 ∧ o.2 = S ∧ 300 ≤ cn S g) ∨ (o.1.toInt = (cn S g : Int) + 1 ∧ cn o.2 g = cn S g + 1 ∧ o.1.toInt ≤ 300 ∧ zI o.2 4 (nd o.2 g o.1) = 0 ∧ (∀ a, zK S a = 1 → a ≠ g → zI o.2 3 a = zI S 3 a) ∧ ∀ a j, zK S a < 18 → zP o.2 j a = zP S j a)
theorem grow_g {S : ZS} {g r b g' r' b' : Nat} {x1 x2 : Int32} (hT : ZT S) (hgg : g ≠ g') (hrr : r ≠ r') (hbb : b ≠ b') (hX : TXs S g r b g' r' b') (hY : TY S g r b) (hY' : TY S g' r' b') (h0 : 0 ≤ x1.toInt) (hx : x1.toInt ≤ (cn S g : Int)) : Ok (d_X1_grow g x1 x2 S) (fun o => ZT o.2 ∧ RM S o.2 ∧ A7 S o.2 ∧ (TXs o.2 g r b g' r' b' ∧ TY o.2 g r b ∧ TY o.2 g' r' b') ∧ GP S g o) := by
  show Ok (d_X1_grow_0 g x1 x2 S) _
  unfold d_X1_grow_0
  have hk : zK S g = 1 := hX.1.1
  have hr : zP S 1 g = some r := hX.2.1.1
  have hb : zP S 2 g = some b := hX.2.2.1.1
  have kb : zK S b = 16 := hX.2.2.2.2.1.1
  have hc := cn_le hT hk
  have z3 : (300 : Int32).toInt = 300 := rfl
  refine ok_chk hk (ok_if (fun e => ?_) (fun e => ok_ret ⟨hT, rm_0 S, a7_0 S, ⟨hX, hY, hY'⟩, Or.inl ⟨rfl, rfl, by
    have e9 := ti_ltN (a := zI S 3 g) (b := 300) e rfl rfl
    omega⟩⟩))
  replace e := ti_ltP (a := zI S 3 g) (b := 300) e rfl rfl
  obtain ⟨u, h1, k1, a1⟩ := roz (t_f_X1_at (x1 := x1) hT hk)
  dsimp only at k1 a1
  have eu : u = nk S r b x1.toInt.toNat := by rw [a1, nd_nk hT hk hr hb h0 hx]
  refine ok_chk hk (ok_calR h1 (ok_chk ⟨rfl, rfl⟩ (ok_chk k1 ?_)))
  obtain ⟨hn, hbt, L, hl⟩ := hY
  obtain ⟨l1, l2, l3⟩ := hl x1.toInt.toNat (by omega)
  have hlen : (L x1.toInt.toNat).length ≤ cn S g := chn_len hl (by omega)
  have hch : chn (nF S 3 r b) (L x1.toInt.toNat) (zI S 2 u).toInt := by
    have : nF S 2 r b x1.toInt.toNat = (zI S 2 u).toInt := by unfold nF; rw [← eu]
    rw [← this]; exact l1
  refine gw_24 hT hk hr hb (L x1.toInt.toNat) mFuel (zI S 2 u) 0 hch (fun k hk2 => ⟨((l3 k).1 hk2).1, ((l3 k).1 hk2).2.1⟩) (by show _ < 200000; omega) (by decide) (by have z : (0 : Int32).toInt = 0 := rfl; omega) (fun x3 g1 g2 => ?_)
  refine gw_64 hT hk hb kb (by omega) (fun SX c hF => ?_)
  have hF2 := hF
  obtain ⟨TX, RX, AX, oX, nX, bX, iX, cX, sX, kcX⟩ := hF2
  have kg : zK SX g = 1 := ((oX g (by omega)).1).trans hk
  have pX : zP SX 2 g = some b := ((oX g (by omega)).2.1 2).trans hb
  have rX : zP SX 1 g = some r := ((oX g (by omega)).2.1 1).trans hr
  have kbX : zK SX b = 16 := ((oX b (by omega)).1).trans kb
  have cnX : cn SX g = cn S g + 1 := by unfold cn at nX ⊢; omega
  have ec : nd SX g (zI SX 3 g) = c := by
    rw [nd_nk TX kg rX pX (by omega) (by omega), nX]
    have : ((cn S g : Int) + 1).toNat = cn S g + 1 := by omega
    rw [this]
    unfold nk
    rw [if_neg (by omega), cX]; rfl
  obtain ⟨o, ho, T', R', A', v', n', ⟨s1, s2, s3, s4⟩, S2, y, hbec, -, hS'⟩ := gw_102 (x1 := x1) (x2 := x2) (x3 := x3) TX kg pX kbX
  rw [ec] at hbec
  obtain ⟨t1, t2, t3, t4, t5, t6⟩ := grow_tz (S' := o.2) (node := x1.toInt.toNat) hT hgg hrr hbb hX hn hbt hl hY' hF (by omega) (by omega) ⟨g1, g2⟩ hbec s1 s2 s3 s4 (by
    rcases hS' with ⟨e1, -, e2⟩ | ⟨e1, -, e2⟩
    · exact Or.inl ⟨e1, e2⟩
    · exact Or.inr ⟨e1, e2⟩)
  refine ⟨o, ho, T', rm_t RX R', a7_t AX A', ⟨t1, t2, t3⟩, Or.inr ⟨?_, t4, ?_, ?_, fun a ha hne => ?_, fun a j ha => ?_⟩⟩
  · rw [v']; exact nX
  · rw [v', nX]; omega
  · rw [n', v', ec]; exact t5
  · rw [s4 a ((oX a (by omega)).1.trans ha)]
    exact (oX a (by omega)).2.2 3 (fun h => hne h.2)
  · rw [s2]; exact (oX a ha).2.1 j
end
section
theorem tz_g {S : ZS} {g : Nat} (hc : 4 ≤ rc g) (hZ : TZ S) : ∃ r b g' r' b', g ≠ g' ∧ r ≠ r' ∧ b ≠ b' ∧ TXs S g r b g' r' b' ∧ TY S g r b ∧ TY S g' r' b' ∧ ∀ S', TXs S' g r b g' r' b' → TY S' g r b → TY S' g' r' b' → TZ S' := by
  obtain ⟨hx, h1, h2⟩ := hZ
  rcases rc_3 hc with e | e
  · subst e
    exact ⟨38, 40, 99, 102, 104, by decide, by decide, by decide, hx, h1, h2, fun S' a b c => ⟨a, b, c⟩⟩
  · subst e
    exact ⟨102, 104, 35, 38, 40, by decide, by decide, by decide, txs_s hx, h2, h1, fun S' a b c => ⟨txs_s a, c, b⟩⟩
theorem t_d_X1_grow {SZ S : ZS} {x0 : Nat} {x1 x2 : Int32} (hT : ZT S) (hR : RP SZ S) (r_x0 : zK S x0 = 1) (q0 : TZ S) (q1 : 4 ≤ rc x0) (q2 : 0 ≤ x1.toInt ∧ x1.toInt ≤ (cn S x0 : Int)) : Ok (d_X1_grow x0 x1 x2 S) (fun o => ZT o.2 ∧ RP SZ o.2 ∧ GP S x0 (o.1, o.2)) := by
  obtain ⟨r, b, g', r', b', hgg, hrr, hbb, hX, hY, hY', back⟩ := tz_g q1 q0
  obtain ⟨o, ho, T', R', A', ⟨t1, t2, t3⟩, hG⟩ := grow_g (x1 := x1) (x2 := x2) hT hgg hrr hbb hX hY hY' q2.1 q2.2
  exact ⟨o, ho, T', rp_t hR ⟨R', fun _ => back o.2 t1 t2 t3, A'⟩, hG⟩
theorem txs_x {S S' : ZS} {g r b g' r' b' : Nat} (hX : TXs S g r b g' r' b') (hK : zK S' = zK S) (hB : zB S' = zB S) (hP : ∀ a j, zK S a = 1 → zP S' j a = zP S j a) : TXs S' g r b g' r' b' := by
  obtain ⟨⟨a1, a2⟩, ⟨b1, b2⟩, ⟨c1, c2⟩, ⟨d1, d2⟩, ⟨e1, e2⟩, f, k⟩ := hX
  unfold TXs
  rw [hK, hB, hP g 1 a1, hP g' 1 a2, hP g 2 a1, hP g' 2 a2]
  exact ⟨⟨a1, a2⟩, ⟨b1, b2⟩, ⟨c1, c2⟩, ⟨d1, d2⟩, ⟨e1, e2⟩, f, k⟩
theorem nk_crs {S : ZS} {g r b g' r' b' : Nat} (hX : TXs S g r b g' r' b') (hrr : r ≠ r') (m m' : Nat) : nk S r' b' m' ≠ nk S r b m := fun e => by
  obtain ⟨-, -, -, -, -, f, k⟩ := hX
  rcases nk_or (S := S) (r := r') (b := b') (k := m') with h | h
  · rcases nk_or (S := S) (r := r) (b := b) (k := m) with h2 | h2
    · exact hrr (by rw [← h2, ← e, h])
    · exact (f _ _ h2).2.1 (by rw [← e, h])
  · rcases nk_or (S := S) (r := r) (b := b) (k := m) with h2 | h2
    · exact (k _ _ h).1 (by rw [e, h2])
    · rw [e] at h; exact (k _ _ h).2.2.1 _ h2
theorem wipe_tz {S S' : ZS} {g r b g' r' b' : Nat} {y : Int32} (hT : ZT S) (hgg : g ≠ g') (hrr : r ≠ r') (hX : TXs S g r b g' r' b') (hY' : TY S g' r' b') (hf : f_X1_wipe g S = some (y, S')) : TXs S' g r b g' r' b' ∧ TY S' g r b ∧ TY S' g' r' b' := by
  have hX0 := hX
  obtain ⟨⟨a1, a2⟩, ⟨b1, b2⟩, ⟨c1, c2⟩, ⟨d1, d2⟩, ⟨e1, e2⟩, f, k⟩ := hX0
  have hf : f_X1_wipe_0 g S = some (y, S') := hf
  unfold f_X1_wipe_0 at hf
  obtain ⟨-, hf⟩ := m_chkE hf
  obtain ⟨bd, -, hf⟩ := m_calE hf
  obtain ⟨kbd, hf⟩ := m_chkE hf
  obtain ⟨⟨y2, S2⟩, ho2, hf⟩ := m_calE hf
  obtain ⟨-, hf⟩ := m_chkE hf
  obtain ⟨b3, hb3, hf⟩ := m_calE hf
  obtain ⟨-, hf⟩ := m_chkE hf
  obtain ⟨⟨y4, S4⟩, ho4, hf⟩ := m_calE hf
  obtain ⟨-, hf⟩ := m_chkE hf
  obtain ⟨S5, e5, hf⟩ := m_bndE hf
  obtain ⟨-, hf⟩ := m_chkE hf
  obtain ⟨S6, e6, hf⟩ := m_bndE hf
  obtain ⟨-, hf⟩ := m_chkE hf
  obtain ⟨S7, e7, hf⟩ := m_bndE hf
  cases hf
  have T2 : ZT S2 := (ok_of (t_f_X0_setUp (SZ := S) hT (a7_0 S) kbd) ho2).1
  have q2 : EqT S S2 := fq_X0_setUp ho2
  have f2 := (fz_X0_setUp ho2 hT.2.2.2.2.1).2.2
  have p2 : ∀ a j, zK S a = 1 → zP S2 j a = zP S j a := fun a j ha => (f2 a (lt18 ha (by decide))).2.2.2.1 j (fun h => by cases h)
  have hb3' : zP S2 1 g = some b3 := hb3
  have er : b3 = r := by
    rw [p2 g 1 a1, b1] at hb3'
    cases hb3'; rfl
  rw [er] at ho4
  have kr : zK S2 r = 4 := by rw [q2.2.2.1]; exact d1
  obtain ⟨w0, w2, w3, w4, wo⟩ := bec_I T2 kr ho4
  have q4 : EqT S2 S4 := fq_X4_become ho4
  have f4 := (fz_X4_become ho4 T2.2.2.2.2.1).2.2
  have p4 : zP S4 = zP S2 := become_P ho4
  have kS : zK S' = zK S := by
    rw [e7]; show zK S6 = _; rw [e6]; show zK S5 = _; rw [e5]; show zK S4 = _; rw [q4.2.2.1, q2.2.2.1]
  have bS : zB S' = zB S := by
    rw [e7]; show zB S6 = _; rw [e6]; show zB S5 = _; rw [e5]; show zB S4 = _; rw [q4.2.2.2.2, q2.2.2.2.2]
  have pS : zP S' = zP S2 := by
    rw [e7]; show zP S6 = _; rw [e6]; show zP S5 = _; rw [e5]; show zP S4 = _; rw [p4]
  have gr : ∀ a, zK S a = 4 → a ≠ g := fun a ha e => by rw [e, a1] at ha; omega
  have i7 : ∀ a j, a ≠ g → zI S' j a = zI S4 j a := fun a j h => by rw [e7, zI_b h, e6, zI_b h, e5, zI_b h]
  have i4 : ∀ a j, zK S a = 4 → a ≠ r → zI S4 j a = zI S j a := fun a j ha hne => by
    rw [wo a j (by rw [q2.2.2.1]; exact ha) hne]
    exact (f2 a (lt18 ha (by decide))).2.2.1 j (by rw [ha]; simp)
  have c7 : zI S' 3 g = 0 := by rw [e7, zI_j (by decide), e6, zI_j (by decide), e5]; exact zI_self _ _ _ _
  have cn0 : cn S' g = 0 := by unfold cn; rw [c7]; rfl
  have nr : ∀ m, nk S r' b' m ≠ r := fun m e => nk_crs hX hrr 0 m (by rw [e]; rfl)
  have ka' : ∀ j, zK S (nk S r' b' j) = 4 := fun j => nk_kind hT d2 e2
  refine ⟨txs_x hX kS bS (fun a j ha => by rw [pS]; exact p2 a j ha), ⟨fun j h1 h2 => by omega, fun j h1 h2 => by omega, fun _ => [], fun p hp => ?_⟩, ty_x hY' (by rw [bS]) ?_ (fun j => ⟨?_, ?_, ?_⟩)⟩
  · rw [cn0] at hp
    have hp0 : p = 0 := by omega
    subst hp0
    refine ⟨?_, List.nodup_nil, fun j => ⟨fun h => (by cases h), fun h => (by omega)⟩⟩
    show nF S' 2 r b 0 = -1
    unfold nF nk
    rw [if_pos rfl, i7 r 2 (gr r d1), w2]; rfl
  · rw [i7 g' 3 (fun h => hgg h.symm)]
    have h4 : zI S4 3 g' = zI S2 3 g' := (f4 g' (by rw [q2.2.2.1, a2]; decide)).2.2.1 3 (by rw [q2.2.2.1, a2]; decide)
    rw [h4]
    exact (f2 g' (by rw [a2]; decide)).2.2.1 3 (by rw [a2]; decide)
  · rw [i7 _ 0 (gr _ (ka' j)), i4 _ 0 (ka' j) (nr j)]
  · rw [i7 _ 2 (gr _ (ka' j)), i4 _ 2 (ka' j) (nr j)]
  · rw [i7 _ 3 (gr _ (ka' j)), i4 _ 3 (ka' j) (nr j)]
theorem rp_begin {SZ S S' : ZS} {x0 x1 : Nat} {y : Int32} (hR : RP SZ S) (hT : ZT S) (r_x0 : zK S x0 = 2) (r_x1 : zK S x1 = 6) (c_x1 : rc x1 ≤ 2) (hA : A7 S S') (hf : f_X2_begin x0 x1 S = some (y, S')) : RP SZ S' := by
  refine rp_t hR ⟨rm_f (rm_0 S) hT (fq_X2_begin hf) (fz_X2_begin hf) (by decide), fun t => ?_, hA⟩
  have hf : f_X2_begin_0 x0 x1 S = some (y, S') := hf
  unfold f_X2_begin_0 at hf
  obtain ⟨-, hf⟩ := m_chkE hf
  obtain ⟨S1, e1, hf⟩ := m_bndE hf
  have T1 : ZT S1 := e1.symm ▸ zt_P hT r_x0 (by decide) (Or.inr ⟨r_x1, rfl⟩) ⟨Nat.zero_le _, c_x1⟩
  have k1 : zK S1 x0 = 2 := by rw [e1]; exact r_x0
  have t1 : TZ S1 := tz_fr (W := []) (V := [(2, 2)]) (B := []) hT (frz_P frz_0 r_x0 e1 (List.mem_singleton.2 rfl)) (by decide) t
  obtain ⟨-, hf⟩ := m_chkE hf
  obtain ⟨g, hg, hf⟩ := m_calE hf
  obtain ⟨-, hf⟩ := m_chkE hf
  obtain ⟨⟨y3, S3⟩, h3, hf⟩ := m_calE hf
  obtain ⟨r, b, g', r', b', hgg, hrr, hbb, hX, hY, hY', back⟩ := tz_g (M_2_3 T1 k1 hg) t1
  obtain ⟨u1, u2, u3⟩ := wipe_tz T1 hgg hrr hX hY' h3
  have t3 : TZ S3 := back S3 u1 u2 u3
  have T3 : ZT S3 := (ok_of (t_f_X1_wipe (SZ := S1) T1 (a7_0 S1) hX.1.1) h3).1
  obtain ⟨k3, hf⟩ := m_chkE hf
  replace k3 : zK S3 x0 = 2 := k3
  obtain ⟨S4, e4, hf⟩ := m_bndE hf
  replace e4 : S4 = zsI S3 4 x0 0 := e4
  have T4 : ZT S4 := e4.symm ▸ zt_I T3 k3 (by decide) (by decide)
  have t4 : TZ S4 := tz_fr (W := [(2, 4)]) (V := []) (B := []) T3 (frz_I frz_0 k3 e4 (List.mem_singleton.2 rfl)) (by decide) t3
  obtain ⟨k4, hf⟩ := m_chkE hf
  obtain ⟨S5, e5, hf⟩ := m_bndE hf
  cases hf
  exact tz_fr (W := [(2, 5)]) (V := []) (B := []) T4 (frz_I frz_0 k4 e5 (List.mem_singleton.2 rfl)) (by decide) t4
end
section
theorem pf_21 {S : ZS} {g r b : Nat} {x1 : Int32} {x2 H : Nat} {o : Int32 × ZS} (hT : ZT S) (hk : zK S g = 1) (hr : zP S 1 g = some r) (hb : zP S 2 g = some b) (hH : x1.toInt = (H : Int)) : ∀ (l : List Nat) (n : Nat) (x3 x4 : Int32), chn (nF S 3 r b) l x3.toInt → (∀ k ∈ l, 1 ≤ k ∧ k ≤ cn S g) → H ∈ l → x3.toInt ≠ (H : Int) → 0 ≤ x4.toInt → x4.toInt + (l.length : Int) ≤ 300 → f_X1_putFirst_21 n g x1 x2 x3 x4 S = some o → ∃ (l1 r1 : List Nat) (bb : Nat) (x3' : Int32), l = l1 ++ bb :: H :: r1 ∧ x3'.toInt = (bb : Int) ∧ f_X1_putFirst_56 g x1 x2 x3' S = some o
  | [], _, _, _, _, _, hm, _, _, _, _ => by cases hm
  | _ :: _, 0, _, _, _, _, _, _, _, _, hf => by cases hf
  | k :: l, n + 1, x3, x4, hc, hm, hin, hne, h0, h3, hf => by
    have hc1 : x3.toInt = (k : Int) := hc.1
    have hc2 : chn (nF S 3 r b) l (nF S 3 r b k) := hc.2
    have hk1 := hm k List.mem_cons_self
    have hl : (k :: l).length = l.length + 1 := rfl
    have z3 : (300 : Int32).toInt = 300 := rfl
    have hf : f_X1_putFirst_21s (f_X1_putFirst_21 n) g x1 x2 x3 x4 S = some o := hf
    unfold f_X1_putFirst_21s at hf
    rcases m_ifE hf with ⟨c, hf⟩ | ⟨-, hf⟩
    · have := Int32.le_iff_toInt_le.1 c
      omega
    · obtain ⟨-, hf⟩ := m_chkE hf
      obtain ⟨⟨c, Sx⟩, h1, hf⟩ := m_calE hf
      obtain ⟨s1, k1, a1⟩ := ok_of (t_f_X1_at hT hk) h1
      dsimp only at s1 k1 a1 hf
      rw [s1] at hf k1
      have e1 : c = nk S r b k := by rw [a1, nd_nk hT hk hr hb (by omega) (by omega), hc1]; rfl
      have nE : nF S 3 r b k = (zI S 3 c).toInt := by unfold nF; rw [← e1]
      obtain ⟨-, hf⟩ := m_chkE hf
      rcases m_ifE hf with ⟨e, hf⟩ | ⟨e, hf⟩
      · have e2 : nF S 3 r b k = (H : Int) := by rw [nE, e, hH]
        cases l with
        | nil =>
          have : nF S 3 r b k = -1 := hc2
          omega
        | cons H' l' =>
          have : nF S 3 r b k = (H' : Int) := hc2.1
          have eH : H' = H := by omega
          subst eH
          exact ⟨[], l', k, x3, rfl, hc1, hf⟩
      · obtain ⟨-, hf⟩ := m_chkE hf
        obtain ⟨⟨c', Sy⟩, h2, hf⟩ := m_calE hf
        rw [h1] at h2
        cases h2
        dsimp only at hf
        rw [s1] at hf
        obtain ⟨-, hf⟩ := m_chkE hf
        obtain ⟨v3, e3, hf⟩ := m_bndE hf
        have t3 : v3.toInt = x4.toInt + 1 := ti_add e3 rfl (show (1 : Int32).toInt = 1 from rfl) (by omega) (by omega)
        have hkH : k ≠ H := fun e4 => hne (by rw [hc1, e4])
        obtain ⟨l1, r1, bb, x3', g1, g2, g3⟩ := pf_21 hT hk hr hb hH l n (zI S 3 c) v3 (by rw [← nE]; exact hc2) (fun j hj => hm j (List.mem_cons_of_mem _ hj)) (by
          rcases List.mem_cons.1 hin with h | h
          · exact absurd h.symm hkH
          · exact h) (fun h => e (Int32.toInt_inj.1 (by rw [h, hH]))) (by omega) (by omega) hf
        exact ⟨k :: l1, r1, bb, x3', by rw [g1]; rfl, g2, g3⟩
theorem putFirst_tz {S S' : ZS} {g r b g' r' b' H : Nat} {x1 y : Int32} (hT : ZT S) (hgg : g ≠ g') (hrr : r ≠ r') (hX : TXs S g r b g' r' b') (hY : TY S g r b) (hY' : TY S g' r' b') (hH : x1.toInt = (H : Int)) (h1 : 1 ≤ H) (h2 : H ≤ cn S g) (hne : nF S 2 r b (nF S 0 r b H).toNat ≠ (H : Int)) (hf : f_X1_putFirst g x1 S = some (y, S')) : TXs S' g r b g' r' b' ∧ TY S' g r b ∧ TY S' g' r' b' := by
  have hX0 := hX
  obtain ⟨⟨a1, a2⟩, ⟨b1, b2⟩, ⟨c1, c2⟩, ⟨d1, d2⟩, ⟨e1, e2⟩, f, k⟩ := hX0
  obtain ⟨hn, hbt, L, hl⟩ := hY
  have hcn := cn_le hT a1
  have hP := (hbt H h1 h2).1
  have hu : (nF S 0 r b H).toNat ≤ cn S g := by omega
  generalize hu0 : (nF S 0 r b H).toNat = u at *
  have hPu : nF S 0 r b H = (u : Int) := by omega
  have hin : H ∈ L u := ((hl u hu).2.2 H).2 ⟨h1, h2, hPu⟩
  have ka : ∀ j, zK S (nk S r b j) = 4 := fun j => nk_kind hT d1 e1
  have ka' : ∀ j, zK S (nk S r' b' j) = 4 := fun j => nk_kind hT d2 e2
  have inj : ∀ i j, i ≤ cn S g → j ≤ cn S g → nk S r b i = nk S r b j → i = j := fun i j hi hj he => nk_inj (fun i c h => ⟨(f i c h).1, (f i c h).2.2.2⟩) hn hi hj he
  have hf : f_X1_putFirst_0 g x1 S = some (y, S') := hf
  unfold f_X1_putFirst_0 at hf
  obtain ⟨-, hf⟩ := m_chkE hf
  obtain ⟨⟨q, Sx⟩, h4, hf⟩ := m_calE hf
  obtain ⟨s4, k4, a4⟩ := ok_of (t_f_X1_at hT a1) h4
  dsimp only at s4 k4 a4 hf
  rw [s4] at hf k4
  have eq : q = nk S r b H := by rw [a4, nd_nk hT a1 b1 c1 (by omega) (by omega), hH]; rfl
  obtain ⟨-, hf⟩ := m_chkE hf
  obtain ⟨-, hf⟩ := m_chkE hf
  obtain ⟨⟨d, Sy⟩, h5, hf⟩ := m_calE hf
  obtain ⟨s5, k5, a5⟩ := ok_of (t_f_X1_at hT a1) h5
  dsimp only at s5 k5 a5 hf
  rw [s5] at hf k5
  have hPq : (zI S 0 q).toInt = (u : Int) := by rw [eq]; exact hPu
  have ed : d = nk S r b u := by rw [a5, nd_nk hT a1 b1 c1 (by omega) (by omega), hPq]; rfl
  obtain ⟨-, hf⟩ := m_chkE hf
  have hCd : nF S 2 r b u = (zI S 2 d).toInt := by unfold nF; rw [← ed]
  obtain ⟨l1, r1, bb, x3, hL, hx3, hf⟩ := pf_21 hT a1 b1 c1 hH (L u) mFuel (zI S 2 d) 0 (by rw [← hCd]; exact (hl u hu).1) (fun j hj => ⟨(((hl u hu).2.2 j).1 hj).1, (((hl u hu).2.2 j).1 hj).2.1⟩) hin (by rw [← hCd]; exact hne) (by decide) (by have := chn_len hl hu; have z : (0 : Int32).toInt = 0 := rfl; omega) hf
  have hbb := ((hl u hu).2.2 bb).1 (by rw [hL]; simp)
  have hbH : bb ≠ H := fun e => by
    have hnd := (hl u hu).2.1
    rw [hL, e] at hnd
    have := (List.nodup_cons.mp (List.nodup_append.mp hnd).2.1).1
    exact this List.mem_cons_self
  unfold f_X1_putFirst_56 at hf
  obtain ⟨-, hf⟩ := m_chkE hf
  obtain ⟨⟨p, Sz⟩, h6, hf⟩ := m_calE hf
  obtain ⟨s6, k6, a6⟩ := ok_of (t_f_X1_at hT a1) h6
  dsimp only at s6 k6 a6 hf
  rw [s6] at hf k6
  have ep : p = nk S r b bb := by rw [a6, nd_nk hT a1 b1 c1 (by omega) (by omega), hx3]; rfl
  obtain ⟨-, hf⟩ := m_chkE hf
  obtain ⟨o2, h7, hf⟩ := m_calE hf
  rw [h4, s4] at h7
  cases h7
  obtain ⟨-, hf⟩ := m_chkE hf
  obtain ⟨-, hf⟩ := m_chkE hf
  obtain ⟨S3, e3, hf⟩ := m_bndE hf
  replace e3 : S3 = zsI S 3 p (zI S 3 q) := e3
  have T3 : ZT S3 := e3.symm ▸ zt_W hT k6 (by decide) rfl
  have kg3 : zK S3 g = 1 := by rw [e3]; exact a1
  have gp : g ≠ p := fun e => by rw [e] at a1; omega
  have nx3 : nd S3 g x1 = nd S g x1 := nd_x (by rw [e3]; exact zI_ne gp) (by rw [e3]; rfl) (by rw [e3]; rfl) c1 (by rw [e3]; rfl) x1
  obtain ⟨-, hf⟩ := m_chkE hf
  obtain ⟨⟨q', Sw⟩, h8, hf⟩ := m_calE hf
  obtain ⟨s8, k8, a8⟩ := ok_of (t_f_X1_at T3 kg3) h8
  dsimp only at s8 k8 a8 hf
  rw [s8] at hf
  rw [nx3, ← a4] at a8
  rw [a8] at hf
  obtain ⟨-, hf⟩ := m_chkE hf
  obtain ⟨-, hf⟩ := m_chkE hf
  obtain ⟨S5, e5, hf⟩ := m_bndE hf
  obtain ⟨-, hf⟩ := m_chkE hf
  obtain ⟨S6, e6, hf⟩ := m_bndE hf
  cases hf
  have pq : p ≠ q := fun e => hbH (inj bb H hbb.2.1 h2 (by rw [← ep, ← eq, e]))
  have m0 : ∀ a, zI S' 0 a = zI S 0 a := fun a => by rw [e6, zI_j (by decide), e5, zI_j (by decide), e3, zI_j (by decide)]
  have m2 : ∀ a, a ≠ d → zI S' 2 a = zI S 2 a := fun a h => by rw [e6, zI_ne h, e5, zI_j (by decide), e3, zI_j (by decide)]
  have m2d : zI S' 2 d = x1 := by rw [e6]; exact zI_self _ _ _ _
  have m3 : ∀ a, a ≠ p → a ≠ q → zI S' 3 a = zI S 3 a := fun a h h9 => by rw [e6, zI_j (by decide), e5, zI_ne h9, e3, zI_ne h]
  have m3p : zI S' 3 p = zI S 3 q := by rw [e6, zI_j (by decide), e5, zI_ne pq, e3]; exact zI_self _ _ _ _
  have m3q : zI S' 3 q = zI S 2 d := by
    rw [e6, zI_j (by decide), e5, zI_self, e3, zI_j (by decide)]
  have kS : zK S' = zK S := by rw [e6]; show zK S5 = _; rw [e5]; show zK S3 = _; rw [e3]; rfl
  have bS : zB S' = zB S := by rw [e6]; show zB S5 = _; rw [e5]; show zB S3 = _; rw [e3]; rfl
  have pS : zP S' = zP S := by rw [e6]; show zP S5 = _; rw [e5]; show zP S3 = _; rw [e3]; rfl
  have iG : ∀ a, zK S a = 1 → zI S' 3 a = zI S 3 a := fun a ha => m3 a (fun e => by rw [e, k6] at ha; omega) (fun e => by rw [e, k4] at ha; omega)
  have nkE : ∀ j, nk S' r b j = nk S r b j := fun j => by unfold nk; rw [bS]
  have cnE : cn S' g = cn S g := by unfold cn; rw [iG g a1]
  have P0 : nF S' 0 r b = nF S 0 r b := funext (fun j => by unfold nF; rw [nkE, m0])
  have crs := nk_crs hX hrr
  obtain ⟨F, hF⟩ : ∃ F : Nat, nF S 2 r b u = (F : Int) := by
    have hch := (hl u hu).1
    rw [hL] at hch
    cases l1 with
    | nil => exact ⟨bb, hch.1⟩
    | cons z l => exact ⟨z, hch.1⟩
  refine ⟨txs_x hX kS bS (fun a j _ => by rw [pS]), ⟨fun j h8 h9 => by rw [bS]; exact hn j h8 (by rw [← cnE]; exact h9), by rw [cnE, P0]; exact hbt, _, by
    rw [cnE, P0]
    exact TTl_lead (C' := nF S' 2 r b) (N' := nF S' 3 r b) hl hu hL hF (fun j hj hju => by
        unfold nF
        rw [nkE, m2 _ (fun e => hju (inj j u hj hu (by rw [e, ed])))]) (by
        unfold nF
        rw [nkE, ← ed, m2d]; exact hH) (by
        unfold nF
        rw [nkE, ← ep, ← eq, m3p]) (by
        unfold nF
        rw [nkE, ← eq, m3q, ← hCd]; exact hF) (fun j hj hjb hjH => by
        unfold nF
        rw [nkE, m3 _ (fun e => hjb (inj j bb hj hbb.2.1 (by rw [e, ep]))) (fun e => hjH (inj j H hj h2 (by rw [e, eq])))])⟩, ty_x hY' (by rw [bS]) (iG g' a2) (fun j => ⟨m0 _, m2 _ (by rw [ed]; exact crs _ _), m3 _ (by rw [ep]; exact crs _ _) (by rw [eq]; exact crs _ _)⟩)⟩
end
section
noncomputable def IVx (S : ZS) (x0 : Nat) (d : Int) : Prop := ∀ b8 b9 g, zP S 8 x0 = some b8 → zP S 9 x0 = some b9 → zP S 3 x0 = some g → ∀ i : Nat, (i : Int) ≤ d → 0 ≤ (zA S b8 i).toInt ∧ (zA S b8 i).toInt ≤ (zA S b9 i).toInt ∧ (zA S b9 i).toInt ≤ (cn S g : Int)
noncomputable def RT (S S' : ZS) : Prop := RM S S' ∧ (TZ S → TZ S') ∧ XR S S'
theorem rt_0 (S : ZS) : RT S S := ⟨rm_0 S, fun h => h, xr_0 S⟩
theorem rt_t {S S1 S2 : ZS} (h : RT S S1) (h2 : RT S1 S2) : RT S S2 := ⟨rm_t h.1 h2.1, fun t => h2.2.1 (h.2.1 t), xr_t h.2.2 h2.2.2⟩
theorem rt_of {S S1 : ZS} (h : RP S S1) : RT S S1 := ⟨h.1, h.2.1, h.2.2.2⟩
theorem rt_f {W V : List (Nat × Nat)} {B : List Nat} {SZ S S' : ZS} (hR : RT SZ S) (hT : ZT S) (q : EqT S S') (f : FrZ W V B S S') (hv : (6, 0) ∉ V ∧ tdis W V B) (hx : XR S S') : RT SZ S' := ⟨rm_f hR.1 hT q f hv.1, fun t => tz_fr hT f hv.2 (hR.2.1 t), xr_t hR.2.2 hx⟩
theorem rt_I {j a k : Nat} {v : Int32} {SZ S S' : ZS} (hR : RT SZ S) (hT : ZT S) (hk : zK S a = k) (e : S' = zsI S j a v) (hd : tdis [(k, j)] [] [] ∧ (k, j) ≠ (6, 1)) : RT SZ S' := ⟨rm_I hR.1 e, fun t => tz_fr hT (frz_I frz_0 hk e (List.mem_singleton.2 rfl)) hd.1 (hR.2.1 t), xr_t hR.2.2 (by rw [e]; exact xr_I hk hd.2)⟩
theorem rt_P {j a k b : Nat} {SZ S S' : ZS} (hR : RT SZ S) (hT : ZT S) (hk : zK S a = k) (e : S' = zsP S j a (some b)) (hv : (k, j) ≠ (6, 0) ∧ tdis [] [(k, j)] []) : RT SZ S' := ⟨rm_P hR.1 hT hk e hv.1, fun t => tz_fr hT (frz_P frz_0 hk e (List.mem_singleton.2 rfl)) hv.2 (hR.2.1 t), xr_t hR.2.2 (by rw [e]; exact xr_P hk hv.1)⟩
theorem rt_A {a i : Nat} {v : Int32} {SZ S S' : ZS} (hR : RT SZ S) (hT : ZT S) (e : S' = zsA S a i v) (hk : zK S a = 14) : RT SZ S' := ⟨rm_A hR.1 e, fun t => tz_fr (W := []) (V := []) (B := []) hT (frz_A frz_0 e) (by decide) (hR.2.1 t), xr_t hR.2.2 (by rw [e]; exact xr_A hT hk)⟩
theorem iv_fr {W V : List (Nat × Nat)} {B : List Nat} {S S' : ZS} {x0 : Nat} {d : Int} (hT : ZT S) (hk : zK S x0 = 2) (h : IVx S x0 d) (hA : A7 S S') (f : FrZ W V B S S') (hd : (1, 3) ∉ W ∧ (2, 3) ∉ V ∧ (2, 8) ∉ V ∧ (2, 9) ∉ V) : IVx S' x0 d := by
  intro b8 b9 g h8 h9 hg i hi
  have ff := (f hT.2.2.2.2.1).2.2
  have fx := (ff x0 (lt18 hk (by decide))).2.2.2.1
  rw [hk] at fx
  rw [fx 8 hd.2.2.1] at h8
  rw [fx 9 hd.2.2.2] at h9
  rw [fx 3 hd.2.1] at hg
  obtain ⟨c8, p8, k8, n8⟩ := T_2_8 hT hk
  obtain ⟨c9, p9, k9, n9⟩ := T_2_9 hT hk
  obtain ⟨cg, pg, kg⟩ := T_2_3 hT hk
  rw [h8] at p8
  rw [h9] at p9
  rw [hg] at pg
  cases p8
  cases p9
  cases pg
  rw [(hA.1 b8 k8 n8).2.2, (hA.1 b9 k9 n9).2.2]
  have hc : zI S' 3 g = zI S 3 g := (ff g (lt18 kg (by decide))).2.2.1 3 (by rw [kg]; exact hd.1)
  have hcn : cn S' g = cn S g := by unfold cn; rw [hc]
  rw [hcn]
  exact h b8 b9 g h8 h9 hg i hi
theorem iv_le {S : ZS} {x0 : Nat} {d d' : Int} (h : IVx S x0 d) (hd : d' ≤ d) : IVx S x0 d' := fun b8 b9 g h8 h9 hg i hi => h b8 b9 g h8 h9 hg i (by omega)
theorem iv_last {S : ZS} {x0 b9 g : Nat} {d : Int} {x1 : Int32} (h : IVx S x0 d) (hT : ZT S) (hk : zK S x0 = 2) (h9 : zP S 9 x0 = some b9) (hg : zP S 3 x0 = some g) (h0 : 0 ≤ x1.toInt) (h1 : x1.toInt ≤ d) : 0 ≤ (zA S b9 x1.toNatClampNeg).toInt ∧ (zA S b9 x1.toNatClampNeg).toInt ≤ (cn S g : Int) := by
  obtain ⟨b8, h8, -⟩ := T_2_8 hT hk
  have e : x1.toNatClampNeg = x1.toInt.toNat := rfl
  have := h b8 b9 g h8 h9 hg x1.toNatClampNeg (by omega)
  omega
theorem iv_grow {S S1 S2 : ZS} {x0 g b9 n : Nat} {y : Int32} {d : Int} (hT : ZT S) (hk : zK S x0 = 2) (h : IVx S x0 d) (hA : A7 S S1) (hx : ∀ j, zP S1 j x0 = zP S j x0) (hg : zP S 3 x0 = some g) (hy : y.toInt = (cn S g : Int) + 1) (hc : cn S1 g = cn S g + 1) (h9 : zP S1 9 x0 = some b9) (e : S2 = zsA S1 b9 n y) : IVx S2 x0 d := by
  intro c8 c9 cg p8 p9 pg i hi
  have ep : zP S2 = zP S1 := by rw [e]; rfl
  have ei : zI S2 = zI S1 := by rw [e]; rfl
  have eA : zA S2 = va_up (zA S1) b9 (upd (zA S1 b9) n y) := by rw [e]; rfl
  rw [ep, hx] at p8 p9 pg
  rw [hx] at h9
  rw [h9] at p9
  cases p9
  rw [hg] at pg
  cases pg
  obtain ⟨d8, q8, k8, n8⟩ := T_2_8 hT hk
  obtain ⟨d9, q9, k9, n9⟩ := T_2_9 hT hk
  rw [p8] at q8
  rw [h9] at q9
  cases q8
  cases q9
  have hcn : cn S2 g = cn S1 g := by unfold cn; rw [ei]
  have hh := h c8 b9 g p8 h9 hg i hi
  have a8 : zA S1 c8 i = zA S c8 i := by rw [(hA.1 c8 k8 n8).2.2]
  have a9 : zA S1 b9 i = zA S b9 i := by rw [(hA.1 b9 k9 n9).2.2]
  rw [hcn, hc, eA, va_up_self]
  by_cases e8 : c8 = b9
  · rw [e8, va_up_self]
    by_cases ei2 : i = n
    · rw [ei2, upd_self]; omega
    · rw [upd_ne ei2, a9]
      rw [e8] at hh
      omega
  · rw [va_up_ne _ _ e8, a8]
    by_cases ei2 : i = n
    · rw [ei2, upd_self]
      rw [ei2] at hh
      omega
    · rw [upd_ne ei2, a9]; omega
theorem iv_init {S S1 S2 : ZS} {x0 c8 c9 : Nat} (hT : ZT S) (hk : zK S x0 = 2) (h8 : zP S 8 x0 = some c8) (e1 : S1 = zsA S c8 0 0) (h9 : zP S1 9 x0 = some c9) (e2 : S2 = zsA S1 c9 0 0) : IVx S2 x0 0 := by
  intro d8 d9 g p8 p9 pg i hi
  have hi0 : i = 0 := by omega
  subst hi0
  have pE : zP S2 = zP S := by rw [e2]; show zP S1 = _; rw [e1]; rfl
  have pE1 : zP S1 = zP S := by rw [e1]; rfl
  rw [pE, h8] at p8
  cases p8
  rw [pE1] at h9
  rw [pE, h9] at p9
  cases p9
  have A9 : zA S2 c9 0 = 0 := by
    rw [e2]
    show va_up (zA S1) c9 (upd (zA S1 c9) 0 0) c9 0 = 0
    rw [va_up_self, upd_self]
  have A8 : zA S2 c8 0 = 0 := by
    by_cases e : c8 = c9
    · rw [e]; exact A9
    · rw [e2]
      show va_up (zA S1) c9 (upd (zA S1 c9) 0 0) c8 0 = 0
      rw [va_up_ne _ _ e, e1]
      show va_up (zA S) c8 (upd (zA S c8) 0 0) c8 0 = 0
      rw [va_up_self, upd_self]
  rw [A8, A9]
  have z : (0 : Int32).toInt = 0 := rfl
  omega
theorem copyFrom_k {S S' : ZS} {x0 x1 : Nat} {y : Int32} (hf : f_X0_copyFrom x0 x1 S = some (y, S')) : zK S x1 = 0 := by
  have hf : f_X0_copyFrom_0 x0 x1 S = some (y, S') := hf
  unfold f_X0_copyFrom_0 at hf
  obtain ⟨k1, hf⟩ := m_chkE hf
  exact k1
theorem iv_open {S S' : ZS} {x0 : Nat} {x1 y : Int32} {d : Int} (hT : ZT S) (hk : zK S x0 = 2) (h : IVx S x0 d) (hZ : TZ S) (hd : x1.toInt = d + 1) (h0 : 0 ≤ d) (hd6 : d ≤ 5) (hne : ∀ b8 b9, zP S 8 x0 = some b8 → zP S 9 x0 = some b9 → zA S b9 d.toNat ≠ zA S b8 d.toNat) (hf : f_X2_openLine x0 x1 S = some (y, S')) : IVx S' x0 x1.toInt := by
  have F := fz_X2_openLine hf
  have hf : f_X2_openLine_0 x0 x1 S = some (y, S') := hf
  unfold f_X2_openLine_0 at hf
  obtain ⟨-, hf⟩ := m_chkE hf
  obtain ⟨c8, p8, hf⟩ := m_calE hf
  obtain ⟨-, hf⟩ := m_chkE hf
  obtain ⟨g, pg, hf⟩ := m_calE hf
  obtain ⟨-, hf⟩ := m_chkE hf
  obtain ⟨c9, p9, hf⟩ := m_calE hf
  obtain ⟨v4, e4, hf⟩ := m_bndE hf
  obtain ⟨-, hf⟩ := m_chkE hf
  obtain ⟨-, hf⟩ := m_chkE hf
  obtain ⟨v5, e5, hf⟩ := m_bndE hf
  obtain ⟨kg, hf⟩ := m_chkE hf
  obtain ⟨⟨c, Sx⟩, h6, hf⟩ := m_calE hf
  obtain ⟨s6, k6, a6⟩ := ok_of (t_f_X1_at hT kg) h6
  dsimp only at s6 k6 a6 hf
  rw [s6] at hf k6
  obtain ⟨-, hf⟩ := m_chkE hf
  obtain ⟨-, hf⟩ := m_chkE hf
  obtain ⟨-, hf⟩ := m_chkE hf
  obtain ⟨S7, e7, hf⟩ := m_bndE hf
  obtain ⟨-, hf⟩ := m_chkE hf
  obtain ⟨c9', p9', hf⟩ := m_calE hf
  obtain ⟨-, hf⟩ := m_chkE hf
  obtain ⟨c8', p8', hf⟩ := m_calE hf
  obtain ⟨-, hf⟩ := m_chkE hf
  obtain ⟨-, hf⟩ := m_chkE hf
  obtain ⟨v10, e10, hf⟩ := m_bndE hf
  obtain ⟨-, hf⟩ := m_chkE hf
  obtain ⟨-, hf⟩ := m_chkE hf
  obtain ⟨S11, e11, hf⟩ := m_bndE hf
  have pE7 : zP S7 = zP S := by rw [e7]; rfl
  rw [pE7, p9] at p9'
  rw [pE7, p8] at p8'
  rw [← Option.some.inj p9'] at e11
  rw [← Option.some.inj p8'] at e10
  obtain ⟨-, hf⟩ := m_chkE hf
  obtain ⟨b12, -, hf⟩ := m_calE hf
  obtain ⟨-, hf⟩ := m_chkE hf
  obtain ⟨-, hf⟩ := m_chkE hf
  obtain ⟨b13, p13, hf⟩ := m_calE hf
  obtain ⟨-, hf⟩ := m_chkE hf
  obtain ⟨b14, -, hf⟩ := m_calE hf
  obtain ⟨v15, -, hf⟩ := m_bndE hf
  obtain ⟨-, hf⟩ := m_chkE hf
  obtain ⟨-, hf⟩ := m_chkE hf
  obtain ⟨b16, p16, hf⟩ := m_calE hf
  obtain ⟨k13, hf⟩ := m_chkE hf
  obtain ⟨⟨y17, S17⟩, h17, hf⟩ := m_calE hf
  obtain ⟨-, hf⟩ := m_chkE hf
  obtain ⟨v18, -, hf⟩ := m_bndE hf
  obtain ⟨-, hf⟩ := m_chkE hf
  obtain ⟨S19, e19, hf⟩ := m_bndE hf
  cases hf
  obtain ⟨d8, q8, k8, n8⟩ := T_2_8 hT hk
  obtain ⟨d9, q9, k9, n9⟩ := T_2_9 hT hk
  rw [p8] at q8
  rw [p9] at q9
  cases q8
  cases q9
  have z1 : (1 : Int32).toInt = 1 := rfl
  have t4 : v4.toInt = d := by
    have := ti_sub (c := v4) (a := x1) (b := 1) e4 rfl z1 (by omega) (by omega)
    omega
  have n4 : v4.toNatClampNeg = d.toNat := by
    have e : v4.toNatClampNeg = v4.toInt.toNat := rfl
    rw [e, t4]
  have n1 : x1.toNatClampNeg = d.toNat + 1 := by
    have e : x1.toNatClampNeg = x1.toInt.toNat := rfl
    omega
  rw [n4] at e5
  rw [n1] at e7 e10 e11
  have hl := h c8 c9 g p8 p9 pg d.toNat (by omega)
  have hnn := hne c8 c9 p8 p9
  obtain ⟨r, b, g', r', b', hgg, hrr, hbb, hX, hY, hY', -⟩ := tz_g (M_2_3 hT hk pg) hZ
  have v5n : 1 ≤ v5.toInt := by
    rw [e5]
    have : (zA S c9 d.toNat).toInt ≠ (zA S c8 d.toNat).toInt := fun e => hnn (Int32.toInt_inj.1 e)
    omega
  have v5m : v5.toInt ≤ (cn S g : Int) := by rw [e5]; exact hl.2.2
  have ec : c = nk S r b v5.toInt.toNat := by rw [a6, nd_nk hT kg hX.2.1.1 hX.2.2.1.1 (by omega) v5m]
  have hP := (hY.2.1 v5.toInt.toNat (by omega) (by omega)).1
  have hPc : nF S 0 r b v5.toInt.toNat = (zI S 0 c).toInt := by unfold nF; rw [← ec]
  rw [hPc] at hP
  have T7 : ZT S7 := e7.symm ▸ zt_A hT k8
  have k9' : zK S7 c9 = 14 := by rw [e7]; exact k9
  have T11 : ZT S11 := e11.symm ▸ zt_A T7 k9'
  have kE : zK S11 = zK S := by rw [e11]; show zK S7 = _; rw [e7]; rfl
  have nE : zN S11 = zN S := by rw [e11]; show zN S7 = _; rw [e7]; rfl
  have k16 : zK S11 b16 = 0 := by
    exact copyFrom_k h17
  have A17 : A7 S11 S17 := (ok_of (t_f_X0_copyFrom (SZ := S11) T11 (a7_0 S11) k13 k16) h17).2.1
  have A7' : zA S7 = va_up (zA S) c8 (upd (zA S c8) (d.toNat + 1) (zI S 0 c)) := by rw [e7]; rfl
  have A11 : zA S11 = va_up (zA S7) c9 (upd (zA S7 c9) (d.toNat + 1) v10) := by rw [e11]; rfl
  intro f8 f9 fg g8 g9 gg i hi
  have ff := (F hT.2.2.2.2.1).2.2
  have fx := (ff x0 (lt18 hk (by decide))).2.2.2.1
  rw [hk] at fx
  rw [fx 8 (by decide), p8] at g8
  rw [fx 9 (by decide), p9] at g9
  rw [fx 3 (by decide), pg] at gg
  cases g8
  cases g9
  cases gg
  have hcn : cn S' g = cn S g := by
    have : zI S' 3 g = zI S 3 g := (ff g (lt18 kg (by decide))).2.2.1 3 (by rw [kg]; decide)
    unfold cn; rw [this]
  have z8 : zA S' c8 = zA S11 c8 := by
    rw [e19]; show zA S17 c8 = _
    exact (A17.1 c8 (by rw [kE]; exact k8) (by rw [nE]; exact n8)).2.2
  have z9 : zA S' c9 = zA S11 c9 := by
    rw [e19]; show zA S17 c9 = _
    exact (A17.1 c9 (by rw [kE]; exact k9) (by rw [nE]; exact n9)).2.2
  have v10e : v10 = zI S 0 c := by
    rw [e10, A7', va_up_self, upd_self]
  rw [z8, z9, hcn, A11, va_up_self]
  by_cases ei : i = d.toNat + 1
  · rw [ei, upd_self]
    have e8 : (va_up (zA S7) c9 (upd (zA S7 c9) (d.toNat + 1) v10) c8) (d.toNat + 1) = v10 := by
      by_cases e : c8 = c9
      · rw [e, va_up_self, upd_self]
      · rw [va_up_ne _ _ e, A7', va_up_self, upd_self, v10e]
    rw [e8, v10e]
    omega
  · have hi2 := h c8 c9 g p8 p9 pg i (by omega)
    have e7a : ∀ a, zA S7 a i = zA S a i := fun a => by
      rw [A7']
      by_cases e : a = c8
      · rw [e, va_up_self, upd_ne ei]
      · rw [va_up_ne _ _ e]
    have e8 : (va_up (zA S7) c9 (upd (zA S7 c9) (d.toNat + 1) v10) c8) i = zA S c8 i := by
      by_cases e : c8 = c9
      · rw [e, va_up_self, upd_ne ei, e7a]
      · rw [va_up_ne _ _ e, e7a]
    rw [e8, upd_ne ei, e7a]
    exact hi2
theorem nd4_fr {W V : List (Nat × Nat)} {B : List Nat} {S S' : ZS} {g : Nat} {i : Int32} {v : Int32} (hT : ZT S) (hk : zK S g = 1) (f : FrZ W V B S S') (hd : (1, 3) ∉ W ∧ (4, 4) ∉ W ∧ (1, 1) ∉ V ∧ (1, 2) ∉ V ∧ 16 ∉ B) (h : zI S 4 (nd S g i) = v) : zI S' 4 (nd S' g i) = v := by
  obtain ⟨c, h1, k1, a1⟩ := roz (t_f_X1_at (x1 := i) hT hk)
  dsimp only at k1 a1
  have ff := (f hT.2.2.2.2.1).2.2
  have fg := ff g (lt18 hk (by decide))
  rw [hk] at fg
  obtain ⟨b, pb, kb, -⟩ := T_1_2 hT hk
  have e : nd S' g i = nd S g i := nd_x (fg.2.2.1 3 hd.1) (fg.2.2.2.1 1 hd.2.2.1) (fg.2.2.2.1 2 hd.2.2.2.1) pb ((ff b (lt18 kb (by decide))).2.2.2.2 (by rw [kb]; exact hd.2.2.2.2)) i
  rw [e, ← a1]
  rw [← a1] at h
  rw [(ff c (lt18 k1 (by decide))).2.2.1 4 (by rw [k1]; exact hd.2.1)]
  exact h
noncomputable def OG (x : Nat) (S S' : ZS) : Prop := zK S x = 2 → zK S' x = 2 ∧ zP S' 3 x = zP S 3 x ∧ ∀ a g, zP S 3 x = some g → zK S a = 1 → a ≠ g → zK S' a = 1 ∧ zI S' 3 a = zI S 3 a
theorem og_0 (x : Nat) (S : ZS) : OG x S S := fun h => ⟨h, rfl, fun _ _ _ h2 _ => ⟨h2, rfl⟩⟩
theorem og_t {x : Nat} {S S1 S2 : ZS} (h : OG x S S1) (h2 : OG x S1 S2) : OG x S S2 := fun hk => by
  obtain ⟨a1, a2, a3⟩ := h hk
  obtain ⟨b1, b2, b3⟩ := h2 a1
  refine ⟨b1, b2.trans a2, fun a g hg ha hne => ?_⟩
  obtain ⟨c1, c2⟩ := a3 a g hg ha hne
  obtain ⟨d1, d2⟩ := b3 a g (by rw [a2]; exact hg) c1 hne
  exact ⟨d1, d2.trans c2⟩
theorem og_fr {W V : List (Nat × Nat)} {B : List Nat} {S S' : ZS} {x : Nat} (hT : ZT S) (f : FrZ W V B S S') (hd : (1, 3) ∉ W ∧ (2, 3) ∉ V) : OG x S S' := fun hk => by
  have ff := (f hT.2.2.2.2.1).2.2
  have fx := ff x (lt18 hk (by decide))
  rw [hk] at fx
  refine ⟨fx.1, fx.2.2.2.1 3 hd.2, fun a g _ ha _ => ?_⟩
  have fa := ff a (lt18 ha (by decide))
  rw [ha] at fa
  exact ⟨fa.1, fa.2.2.1 3 hd.1⟩
theorem xr_open {S S' : ZS} {x0 : Nat} {x1 y : Int32} (hT : ZT S) (hf : f_X2_openLine x0 x1 S = some (y, S')) : XR S S' := by
  have hf : f_X2_openLine_0 x0 x1 S = some (y, S') := hf
  unfold f_X2_openLine_0 at hf
  obtain ⟨-, hf⟩ := m_chkE hf
  obtain ⟨c8, p8, hf⟩ := m_calE hf
  obtain ⟨-, hf⟩ := m_chkE hf
  obtain ⟨g, pg, hf⟩ := m_calE hf
  obtain ⟨-, hf⟩ := m_chkE hf
  obtain ⟨c9, p9, hf⟩ := m_calE hf
  obtain ⟨v4, e4, hf⟩ := m_bndE hf
  obtain ⟨-, hf⟩ := m_chkE hf
  obtain ⟨-, hf⟩ := m_chkE hf
  obtain ⟨v5, e5, hf⟩ := m_bndE hf
  obtain ⟨kg, hf⟩ := m_chkE hf
  obtain ⟨⟨c, Sx⟩, h6, hf⟩ := m_calE hf
  obtain ⟨s6, -, -⟩ := ok_of (t_f_X1_at hT kg) h6
  dsimp only at s6 hf
  rw [s6] at hf
  obtain ⟨-, hf⟩ := m_chkE hf
  obtain ⟨k8, hf⟩ := m_chkE hf
  obtain ⟨-, hf⟩ := m_chkE hf
  obtain ⟨S7, e7, hf⟩ := m_bndE hf
  have T7 : ZT S7 := e7.symm ▸ zt_A hT k8
  have X7 : XR S S7 := by rw [e7]; exact xr_A hT k8
  obtain ⟨-, hf⟩ := m_chkE hf
  obtain ⟨c9', p9', hf⟩ := m_calE hf
  obtain ⟨-, hf⟩ := m_chkE hf
  obtain ⟨c8', p8', hf⟩ := m_calE hf
  obtain ⟨-, hf⟩ := m_chkE hf
  obtain ⟨-, hf⟩ := m_chkE hf
  obtain ⟨v10, e10, hf⟩ := m_bndE hf
  obtain ⟨k9, hf⟩ := m_chkE hf
  obtain ⟨-, hf⟩ := m_chkE hf
  obtain ⟨S11, e11, hf⟩ := m_bndE hf
  have T11 : ZT S11 := e11.symm ▸ zt_A T7 k9
  have X11 : XR S7 S11 := by rw [e11]; exact xr_A T7 k9
  obtain ⟨-, hf⟩ := m_chkE hf
  obtain ⟨b12, -, hf⟩ := m_calE hf
  obtain ⟨-, hf⟩ := m_chkE hf
  obtain ⟨-, hf⟩ := m_chkE hf
  obtain ⟨b13, p13, hf⟩ := m_calE hf
  obtain ⟨-, hf⟩ := m_chkE hf
  obtain ⟨b14, -, hf⟩ := m_calE hf
  obtain ⟨v15, -, hf⟩ := m_bndE hf
  obtain ⟨-, hf⟩ := m_chkE hf
  obtain ⟨-, hf⟩ := m_chkE hf
  obtain ⟨b16, p16, hf⟩ := m_calE hf
  obtain ⟨k13, hf⟩ := m_chkE hf
  obtain ⟨⟨y17, S17⟩, h17, hf⟩ := m_calE hf
  have X17 : XR S11 S17 := (ok_of (t_f_X0_copyFrom (SZ := S11) T11 (a7_0 S11) k13 (copyFrom_k h17)) h17).2.1.2
  obtain ⟨k17, hf⟩ := m_chkE hf
  obtain ⟨v18, -, hf⟩ := m_bndE hf
  obtain ⟨-, hf⟩ := m_chkE hf
  obtain ⟨S19, e19, hf⟩ := m_bndE hf
  cases hf
  refine xr_t (xr_t (xr_t X7 X11) X17) ?_
  rw [e19]
  exact xr_I (show zK S17 x0 = 2 from k17) (by decide)
noncomputable def RG (x : Nat) (S S' : ZS) : Prop := RT S S' ∧ OG x S S'
theorem rg_0 (x : Nat) (S : ZS) : RG x S S := ⟨rt_0 S, og_0 x S⟩
theorem rg_t {x : Nat} {S S1 S2 : ZS} (h : RG x S S1) (h2 : RG x S1 S2) : RG x S S2 := ⟨rt_t h.1 h2.1, og_t h.2 h2.2⟩
theorem rg_f {x : Nat} {W V : List (Nat × Nat)} {B : List Nat} {SZ S S' : ZS} (hR : RG x SZ S) (hT : ZT S) (q : EqT S S') (f : FrZ W V B S S') (hv : ((6, 0) ∉ V ∧ tdis W V B) ∧ (2, 3) ∉ V) (hx : XR S S') : RG x SZ S' := ⟨rt_f hR.1 hT q f hv.1 hx, og_t hR.2 (og_fr hT f ⟨hv.1.2.2.2.2.1, hv.2⟩)⟩
theorem rg_I {x : Nat} {j a k : Nat} {v : Int32} {SZ S S' : ZS} (hR : RG x SZ S) (hT : ZT S) (hk : zK S a = k) (e : S' = zsI S j a v) (hd : tdis [(k, j)] [] [] ∧ (k, j) ≠ (6, 1)) : RG x SZ S' := ⟨rt_I hR.1 hT hk e hd, og_t hR.2 (og_fr (V := []) (B := []) hT (frz_I frz_0 hk e (List.mem_singleton.2 rfl)) ⟨hd.1.2.2.2.1, fun h => (by cases h)⟩)⟩
theorem rg_A {x : Nat} {a i : Nat} {v : Int32} {SZ S S' : ZS} (hR : RG x SZ S) (hT : ZT S) (e : S' = zsA S a i v) (hk : zK S a = 14) : RG x SZ S' := ⟨rt_A hR.1 hT e hk, og_t hR.2 (og_fr (W := []) (V := []) (B := []) hT (frz_A frz_0 e) ⟨fun h => (by cases h), fun h => (by cases h)⟩)⟩
theorem rg_d {x : Nat} {W V : List (Nat × Nat)} {B : List Nat} {SZ S S' : ZS} (hR : RG x SZ S) (hT : ZT S) (h : RP S S') (f : FrZ W V B S S') (hd : (1, 3) ∉ W ∧ (2, 3) ∉ V) : RG x SZ S' := ⟨rt_t hR.1 (rt_of h), og_t hR.2 (og_fr hT f hd)⟩
theorem rg_grow {x g : Nat} {SZ S S' : ZS} {y : Int32} (hR : RG x SZ S) (hk : zK S x = 2) (hT : ZT S) (h : RP S S') (hg : zP S 3 x = some g) (hG : GP S g (y, S')) (f : ∀ a, zK S a < 18 → zK S' a = zK S a) : RG x SZ S' := ⟨rt_t hR.1 (rt_of h), og_t hR.2 (fun hk => by
  rcases hG with ⟨-, e, -⟩ | ⟨-, -, -, -, h5, h6⟩
  · have e : S' = S := e
    rw [e]; exact og_0 x S hk
  · refine ⟨(f x (lt18 hk (by decide))).trans hk, h6 x 3 (lt18 hk (by decide)), fun a g' hg' ha hne => ?_⟩
    rw [hg] at hg'
    cases hg'
    exact ⟨(f a (lt18 ha (by decide))).trans ha, h5 a ha hne⟩)⟩
theorem holds_v {S S' : ZS} {x0 x1 : Nat} {x2 y : Int32} (hT : ZT S) (hk : zK S x0 = 6) (h1 : x1 < 29) (hx : x2.toInt ≤ 90100) (hf : f_X6_holds x0 x1 x2 S = some (y, S')) (hy : y ≠ 0) : x2.toInt ≤ (zI S 1 x0).toInt := by
  have hf : f_X6_holds_0 x0 x1 x2 S = some (y, S') := hf
  unfold f_X6_holds_0 at hf
  rcases m_ifE hf with ⟨-, hf⟩ | ⟨c, hf⟩
  · unfold f_X6_holds_17 at hf
    obtain ⟨-, hf⟩ := m_chkE hf
    cases hf
    exact absurd rfl hy
  · replace c := ti_ltN (a := x2) (b := 0) c rfl rfl
    have z : (0 : Int32).toInt = 0 := rfl
    obtain ⟨-, hf⟩ := m_chkE hf
    obtain ⟨⟨l, Sx⟩, hl, hf⟩ := m_calE hf
    obtain ⟨s1, r1, -⟩ := ok_of (t_f_J0_length_8abf5 hT h1) hl
    dsimp only at s1 r1 hf
    rw [s1] at hf
    obtain ⟨v2, e2, hf⟩ := m_bndE hf
    have t2 : v2.toInt = x2.toInt + l.toInt := ti_add e2 rfl rfl (by omega) (by omega)
    obtain ⟨-, hf⟩ := m_chkE hf
    rcases m_ifE hf with ⟨c2, -⟩ | ⟨-, hf⟩
    · replace c2 := ti_leP (a := v2) (b := zI S 1 x0) c2 rfl rfl
      omega
    · unfold f_X6_holds_17 at hf
      obtain ⟨-, hf⟩ := m_chkE hf
      cases hf
      exact absurd rfl hy
theorem rh_2 {S S' : ZS} {x0 : Nat} {y : Int32} (hT : ZT S) (hk : zK S x0 = 2) (hy : y.toInt ≠ -1) : ∀ (n : Nat) (x1 : Int32), f_X2_resultHere_2 n x0 x1 S = some (y, S') → (zI S 4 x0).toInt ≤ 90000
  | 0, _, hf => by cases hf
  | n + 1, x1, hf => by
    have hf : f_X2_resultHere_2s (f_X2_resultHere_2 n) x0 x1 S = some (y, S') := hf
    unfold f_X2_resultHere_2s at hf
    rcases m_ifE hf with ⟨-, hf⟩ | ⟨-, hf⟩
    · cases hf
      exact absurd rfl hy
    · obtain ⟨-, hf⟩ := m_chkE hf
      obtain ⟨b1, p1, hf⟩ := m_calE hf
      obtain ⟨⟨s, Sx⟩, hs, hf⟩ := m_calE hf
      obtain ⟨s1, r1⟩ := ok_of (t_f_X11_resultSign hT) hs
      dsimp only at s1 r1 hf
      rw [s1] at hf
      obtain ⟨-, hf⟩ := m_chkE hf
      obtain ⟨k1, hf⟩ := m_chkE hf
      obtain ⟨⟨u, Sy⟩, hu, hf⟩ := m_calE hf
      have j4 := J_2_4 hT hk
      obtain ⟨s2, r2⟩ := ok_of (t_f_X6_holds hT k1 r1 (by omega)) hu
      dsimp only at s2 r2 hf
      rw [s2] at hf
      rcases m_ifE hf with ⟨-, hf⟩ | ⟨c, hf⟩
      · obtain ⟨v4, e4, hf⟩ := m_bndE hf
        exact rh_2 hT hk hy n v4 hf
      · have h1 := holds_v hT k1 r1 (by omega) hu c
        have h2 := J_6_1 hT k1
        omega
theorem rh_v {S S' : ZS} {x0 : Nat} {y : Int32} (hT : ZT S) (hk : zK S x0 = 2) (hf : f_X2_resultHere x0 S = some (y, S')) (hy : y.toInt ≠ -1) : (zI S 4 x0).toInt ≤ 90000 := rh_2 hT hk hy mFuel 0 hf
theorem og_wipe {S S' : ZS} {g a : Nat} {y : Int32} (hT : ZT S) (hf : f_X1_wipe g S = some (y, S')) (ha : zK S a = 1) (hne : a ≠ g) : zI S' 3 a = zI S 3 a := by
  have hf : f_X1_wipe_0 g S = some (y, S') := hf
  unfold f_X1_wipe_0 at hf
  obtain ⟨-, hf⟩ := m_chkE hf
  obtain ⟨bd, -, hf⟩ := m_calE hf
  obtain ⟨kbd, hf⟩ := m_chkE hf
  obtain ⟨⟨y2, S2⟩, ho2, hf⟩ := m_calE hf
  obtain ⟨-, hf⟩ := m_chkE hf
  obtain ⟨b3, hb3, hf⟩ := m_calE hf
  obtain ⟨-, hf⟩ := m_chkE hf
  obtain ⟨⟨y4, S4⟩, ho4, hf⟩ := m_calE hf
  obtain ⟨-, hf⟩ := m_chkE hf
  obtain ⟨S5, e5, hf⟩ := m_bndE hf
  obtain ⟨-, hf⟩ := m_chkE hf
  obtain ⟨S6, e6, hf⟩ := m_bndE hf
  obtain ⟨-, hf⟩ := m_chkE hf
  obtain ⟨S7, e7, hf⟩ := m_bndE hf
  cases hf
  replace ho4 : f_X4_become b3 (-1) (-1) S2 = some (y4, S4) := ho4
  have f2 := fz_X0_setUp ho2 hT.2.2.2.2.1
  have f4 := (fz_X4_become ho4 f2.1).2.2
  have k2 : zK S2 a = 1 := (f2.2.2 a (lt18 ha (by decide))).1.trans ha
  rw [e7, zI_j (by decide), e6, zI_j (by decide), e5, zI_ne hne]
  have h4 : zI S4 3 a = zI S2 3 a := (f4 a (lt18 k2 (by decide))).2.2.1 3 (by rw [k2]; decide)
  have h2 : zI S2 3 a = zI S 3 a := (f2.2.2 a (lt18 ha (by decide))).2.2.1 3 (by rw [ha]; decide)
  exact h4.trans h2
theorem og_begin {S S' : ZS} {x0 x1 : Nat} {y : Int32} (hT : ZT S) (r_x0 : zK S x0 = 2) (r_x1 : zK S x1 = 6) (c_x1 : rc x1 ≤ 2) (hf : f_X2_begin x0 x1 S = some (y, S')) : OG x0 S S' := fun hk => by
  have F := (fz_X2_begin hf hT.2.2.2.2.1).2.2
  have fx := F x0 (lt18 hk (by decide))
  rw [hk] at fx
  refine ⟨fx.1, fx.2.2.2.1 3 (by decide), fun a g hg ha hne => ⟨(F a (lt18 ha (by decide))).1.trans ha, ?_⟩⟩
  have hf : f_X2_begin_0 x0 x1 S = some (y, S') := hf
  unfold f_X2_begin_0 at hf
  obtain ⟨-, hf⟩ := m_chkE hf
  obtain ⟨S1, e1, hf⟩ := m_bndE hf
  have T1 : ZT S1 := e1.symm ▸ zt_P hT r_x0 (by decide) (Or.inr ⟨r_x1, rfl⟩) ⟨Nat.zero_le _, c_x1⟩
  obtain ⟨-, hf⟩ := m_chkE hf
  obtain ⟨g2, hg2, hf⟩ := m_calE hf
  obtain ⟨-, hf⟩ := m_chkE hf
  obtain ⟨⟨y3, S3⟩, h3, hf⟩ := m_calE hf
  obtain ⟨k3, hf⟩ := m_chkE hf
  replace k3 : zK S3 x0 = 2 := k3
  obtain ⟨S4, e4, hf⟩ := m_bndE hf
  replace e4 : S4 = zsI S3 4 x0 0 := e4
  obtain ⟨k4, hf⟩ := m_chkE hf
  obtain ⟨S5, e5, hf⟩ := m_bndE hf
  cases hf
  have hg1 : zP S1 3 x0 = some g := by rw [e1, zP_j (by decide)]; exact hg
  rw [hg1] at hg2
  have eg : g2 = g := (Option.some.inj hg2).symm
  rw [eg] at h3
  have k1 : zK S1 a = 1 := by rw [e1]; exact ha
  rw [e5, zI_j (by decide), e4, zI_j (by decide), og_wipe T1 h3 k1 hne, e1]
  rfl
end
section
theorem t_d_X2_readMove_37 {SZ S : ZS} {x0 : Nat} {x1 : Int32} {x2 : Nat} (hT : ZT S) (hR : RG x0 SZ S) (r_x0 : zK S x0 = 2) (r_x1 : (0 : Int) ≤ x1.toInt ∧ x1.toInt ≤ (6 : Int)) (r_x2 : zK S x2 = 0) (q0 : TZ SZ) (q1 : IVx S x0 x1.toInt) : Ok (d_X2_readMove_37 x0 x1 x2 S) (fun o => ZT o.2 ∧ RG x0 SZ o.2 ∧ ((0 : Int) ≤ o.1.toInt ∧ o.1.toInt ≤ (1 : Int)) ∧ ((o.1.toInt = 1 → IVx o.2 x0 x1.toInt))) := by
  unfold d_X2_readMove_37
  have j1 := J_2_4 hT r_x0
  refine ok_chk r_x0 ?_
  obtain ⟨b1, p_b1, k_b1, c_b1⟩ := T_2_2 hT r_x0
  have rl_b1 := rL_ge b1
  refine ok_calR p_b1 ?_
  refine ok_chk r_x0 ?_
  refine ok_chk k_b1 ?_
  have j2 := J61_2 hT k_b1 c_b1
  obtain ⟨r2, h_r2, p_r2⟩ := roz (t_f_X6_at (x0 := b1) (x1 := (zI S 4 x0)) hT k_b1)
  dsimp only at p_r2
  refine ok_calR h_r2 ?_
  refine ok_chk ⟨rfl, rfl⟩ ?_
  obtain ⟨r3, h_r3, p_r3⟩ := roz (t_f_X11_isLetter (x0 := r2) hT )
  dsimp only at p_r3
  refine ok_calR h_r3 ?_
  refine ok_chk ⟨rfl, rfl⟩ ?_
  refine ok_if (fun c3 => ?_) (fun c3 => ?_)
  ·
    replace c3 := ti_eqP (a := r3) (b := (0 : Int32)) c3 rfl (show (0 : Int32).toInt = 0 from rfl)
    refine ok_chk r_x0 ?_
    refine ok_chk r_x0 ?_
    obtain ⟨⟨r42, S42⟩, h_r42, T_S42, A_S42, p_r42⟩ := t_f_X2_refuse (x0 := x0) (x1 := (1 : Int32)) (x2 := (zI S 4 x0)) (SZ := S) hT (a7_0 S) r_x0
    replace T_S42 : ZT S42 := T_S42
    replace A_S42 : A7 S S42 := A_S42
    dsimp only at p_r42
    refine ok_calR h_r42 ?_
    have q_S42 := fq_X2_refuse h_r42
    have kE_S42 : zK S42 = zK S := q_S42.2.2.1
    have nE_S42 : zN S42 = zN S := q_S42.2.2.2.1
    have R_S42 : RG x0 SZ S42 := rg_f hR hT q_S42 (fz_X2_refuse h_r42) (by decide) A_S42.2
    have : (zI S42 4 x0).toInt = (zI S 4 x0).toInt := congrArg Int32.toInt ((((fz_X2_refuse h_r42) hT.2.2.2.2.1).2.2 x0 (by rw [r_x0]; decide)).2.2.1 4 (by rw [r_x0]; decide))
    refine ok_chk ⟨q_S42.1, q_S42.2.1⟩ ?_
    refine ok_chk (nar_b (v := r42) (by omega) (by omega)) ?_
    exact ok_ret ⟨T_S42, R_S42, (show (0 : Int) ≤ r42.toInt ∧ r42.toInt ≤ (1 : Int) from (by omega)), (by show (r42.toInt = 1 → IVx S42 x0 x1.toInt); intro h9; have z9 : (0 : Int32).toInt = 0 := rfl; omega)⟩
  ·
    replace c3 := ti_eqN (a := r3) (b := (0 : Int32)) c3 rfl (show (0 : Int32).toInt = 0 from rfl)
    refine ok_chk r_x0 ?_
    refine ok_chk r_x0 ?_
    obtain ⟨⟨r4, S4⟩, h_r4, T_S4, A_S4, -⟩ := t_f_X2_skipSigns (x0 := x0) (SZ := S) hT (a7_0 S) r_x0
    replace T_S4 : ZT S4 := T_S4
    replace A_S4 : A7 S S4 := A_S4
    refine ok_calR h_r4 ?_
    have q_S4 := fq_X2_skipSigns h_r4
    have kE_S4 : zK S4 = zK S := q_S4.2.2.1
    have nE_S4 : zN S4 = zN S := q_S4.2.2.2.1
    have R_S4 : RG x0 SZ S4 := rg_f hR hT q_S4 (fz_X2_skipSigns h_r4) (by decide) A_S4.2
    have iv4 := iv_fr hT r_x0 q1 A_S4 (fz_X2_skipSigns h_r4) (by decide)
    refine ok_chk ⟨q_S4.1, q_S4.2.1⟩ ?_
    refine ok_chk ((congrFun kE_S4 x0).trans r_x0) ?_
    obtain ⟨b5, p_b5, k_b5⟩ := T_2_0 T_S4 ((congrFun kE_S4 x0).trans r_x0)
    refine ok_calR p_b5 ?_
    refine ok_chk ((congrFun kE_S4 x0).trans r_x0) ?_
    obtain ⟨b6, p_b6, k_b6, c_b6⟩ := T_2_2 T_S4 ((congrFun kE_S4 x0).trans r_x0)
    have rl_b6 := rL_ge b6
    refine ok_calR p_b6 ?_
    refine ok_chk ((congrFun kE_S4 x0).trans r_x0) ?_
    refine ok_chk k_b5 ?_
    have j4 := J61_2 T_S4 k_b6 c_b6
    have j5 := J_2_4 T_S4 ((congrFun kE_S4 x0).trans r_x0)
    obtain ⟨⟨r8, S9⟩, h_r8, T_S9, B_S9, -⟩ := t_d_X8_matched (x0 := b5) (x1 := x2) (x2 := b6) (x3 := (zI S 4 x0)) (x4 := (zI S4 4 x0)) (SZ := S4) T_S4 (rp_0 S4) k_b5 ((congrFun kE_S4 x2).trans r_x2) k_b6 c_b6 (by omega) (by omega)
    replace T_S9 : ZT S9 := T_S9
    replace B_S9 : RP S4 S9 := B_S9
    have A_S9 : A7 S4 S9 := B_S9.2.2
    have R_S9 : RG x0 SZ S9 := rg_d R_S4 T_S4 B_S9 (fz_X8_matched h_r8) (by decide)
    refine ok_cal2R h_r8 ?_
    have g_S9 := (fz_X8_matched h_r8 T_S4.2.2.2.2.1).2.2
    have : (zI S9 4 x0).toInt = (zI S4 4 x0).toInt := congrArg Int32.toInt ((g_S9 x0 (lt18 ((congrFun kE_S4 x0).trans r_x0) (by decide))).2.2.1 4 (by rw [((congrFun kE_S4 x0).trans r_x0)]; decide))
    have iv9 := iv_fr T_S4 ((congrFun kE_S4 x0).trans r_x0) iv4 A_S9 (fz_X8_matched h_r8) (by decide)
    refine ok_if (fun c6 => ?_) (fun c6 => ?_)
    ·
      replace c6 := ti_leP (a := (0 : Int32)) (b := r8) c6 (show (0 : Int32).toInt = 0 from rfl) rfl
      refine ok_chk ((g_S9 x0 (lt18 ((congrFun kE_S4 x0).trans r_x0) (by decide))).1.trans ((congrFun kE_S4 x0).trans r_x0)) ?_
      obtain ⟨b12, p_b12, k_b12⟩ := T_2_3 T_S9 ((g_S9 x0 (lt18 ((congrFun kE_S4 x0).trans r_x0) (by decide))).1.trans ((congrFun kE_S4 x0).trans r_x0))
      have lo_b12 := M_2_3 T_S9 ((g_S9 x0 (lt18 ((congrFun kE_S4 x0).trans r_x0) (by decide))).1.trans ((congrFun kE_S4 x0).trans r_x0)) p_b12
      refine ok_calR p_b12 ?_
      refine ok_chk ((g_S9 x0 (lt18 ((congrFun kE_S4 x0).trans r_x0) (by decide))).1.trans ((congrFun kE_S4 x0).trans r_x0)) ?_
      obtain ⟨b13, p_b13, k_b13, n_b13⟩ := T_2_9 T_S9 ((g_S9 x0 (lt18 ((congrFun kE_S4 x0).trans r_x0) (by decide))).1.trans ((congrFun kE_S4 x0).trans r_x0))
      refine ok_calR p_b13 ?_
      refine ok_chk k_b13 ?_
      refine ok_chk (ti_inN (v := x1) (n := 7) n_b13 (by omega) (by omega)) ?_
      refine ok_bnd (fun v14 e7 => ?_)
      refine ok_chk k_b12 ?_
      obtain ⟨r15, h_r15, p_r15⟩ := roz (t_f_X1_childWith (x0 := b12) (x1 := v14) (x2 := r8) T_S9 k_b12)
      refine ok_calR h_r15 ?_
      refine ok_chk ⟨rfl, rfl⟩ ?_
      refine ok_if (fun c8 => ?_) (fun c8 => ?_)
      ·
        replace c8 := ti_eqP (a := r15) (b := (-1 : Int32)) c8 rfl (show (-1 : Int32).toInt = -1 from rfl)
        refine ok_chk ((g_S9 x0 (lt18 ((congrFun kE_S4 x0).trans r_x0) (by decide))).1.trans ((congrFun kE_S4 x0).trans r_x0)) ?_
        refine ok_calR p_b12 ?_
        refine ok_chk ((g_S9 x0 (lt18 ((congrFun kE_S4 x0).trans r_x0) (by decide))).1.trans ((congrFun kE_S4 x0).trans r_x0)) ?_
        refine ok_calR p_b13 ?_
        refine ok_chk k_b13 ?_
        refine ok_chk (ti_inN (v := x1) (n := 7) n_b13 (by omega) (by omega)) ?_
        refine ok_bnd (fun v18 e9 => ?_)
        have w18 := iv_last iv9 T_S9 ((g_S9 x0 (lt18 ((congrFun kE_S4 x0).trans r_x0) (by decide))).1.trans ((congrFun kE_S4 x0).trans r_x0)) p_b13 p_b12 r_x1.1 (Int.le_refl _)
        rw [← e9] at w18
        refine ok_chk k_b12 ?_
        obtain ⟨⟨r20, S21⟩, h_r20, T_S21, B_S21, p_r20_0⟩ := t_d_X1_grow (x0 := b12) (x1 := v18) (x2 := r8) (SZ := S9) T_S9 (rp_0 S9) k_b12 (R_S9.1.2.1 q0) lo_b12 w18
        replace T_S21 : ZT S21 := T_S21
        replace B_S21 : RP S9 S21 := B_S21
        have A_S21 : A7 S9 S21 := B_S21.2.2
        have R_S21 : RG x0 SZ S21 := rg_grow R_S9 ((g_S9 x0 (lt18 ((congrFun kE_S4 x0).trans r_x0) (by decide))).1.trans ((congrFun kE_S4 x0).trans r_x0)) T_S9 B_S21 p_b12 p_r20_0 (fun a9 h9 => ((fz_X1_grow h_r20 T_S9.2.2.2.2.1).2.2 a9 h9).1)
        dsimp only at p_r20_0
        refine ok_cal2R h_r20 ?_
        have g_S21 := (fz_X1_grow h_r20 T_S9.2.2.2.2.1).2.2
        have : (zI S21 4 x0).toInt = (zI S9 4 x0).toInt := congrArg Int32.toInt ((g_S21 x0 (lt18 ((g_S9 x0 (lt18 ((congrFun kE_S4 x0).trans r_x0) (by decide))).1.trans ((congrFun kE_S4 x0).trans r_x0)) (by decide))).2.2.1 4 (by rw [((g_S9 x0 (lt18 ((congrFun kE_S4 x0).trans r_x0) (by decide))).1.trans ((congrFun kE_S4 x0).trans r_x0))]; decide))
        refine ok_if (fun c10 => ?_) (fun c10 => ?_)
        ·
          replace c10 := ti_eqP (a := r20) (b := (-1 : Int32)) c10 rfl (show (-1 : Int32).toInt = -1 from rfl)
          refine ok_chk ((g_S21 x0 (lt18 ((g_S9 x0 (lt18 ((congrFun kE_S4 x0).trans r_x0) (by decide))).1.trans ((congrFun kE_S4 x0).trans r_x0)) (by decide))).1.trans ((g_S9 x0 (lt18 ((congrFun kE_S4 x0).trans r_x0) (by decide))).1.trans ((congrFun kE_S4 x0).trans r_x0))) ?_
          obtain ⟨⟨r40, S40⟩, h_r40, T_S40, A_S40, p_r40⟩ := t_f_X2_refuse (x0 := x0) (x1 := (8 : Int32)) (x2 := (zI S 4 x0)) (SZ := S21) T_S21 (a7_0 S21) ((g_S21 x0 (lt18 ((g_S9 x0 (lt18 ((congrFun kE_S4 x0).trans r_x0) (by decide))).1.trans ((congrFun kE_S4 x0).trans r_x0)) (by decide))).1.trans ((g_S9 x0 (lt18 ((congrFun kE_S4 x0).trans r_x0) (by decide))).1.trans ((congrFun kE_S4 x0).trans r_x0)))
          replace T_S40 : ZT S40 := T_S40
          replace A_S40 : A7 S21 S40 := A_S40
          dsimp only at p_r40
          refine ok_calR h_r40 ?_
          have q_S40 := fq_X2_refuse h_r40
          have kE_S40 : zK S40 = zK S21 := q_S40.2.2.1
          have nE_S40 : zN S40 = zN S21 := q_S40.2.2.2.1
          have R_S40 : RG x0 SZ S40 := rg_f R_S21 T_S21 q_S40 (fz_X2_refuse h_r40) (by decide) A_S40.2
          have : (zI S40 4 x0).toInt = (zI S21 4 x0).toInt := congrArg Int32.toInt ((((fz_X2_refuse h_r40) T_S21.2.2.2.2.1).2.2 x0 (by rw [((g_S21 x0 (lt18 ((g_S9 x0 (lt18 ((congrFun kE_S4 x0).trans r_x0) (by decide))).1.trans ((congrFun kE_S4 x0).trans r_x0)) (by decide))).1.trans ((g_S9 x0 (lt18 ((congrFun kE_S4 x0).trans r_x0) (by decide))).1.trans ((congrFun kE_S4 x0).trans r_x0)))]; decide)).2.2.1 4 (by rw [((g_S21 x0 (lt18 ((g_S9 x0 (lt18 ((congrFun kE_S4 x0).trans r_x0) (by decide))).1.trans ((congrFun kE_S4 x0).trans r_x0)) (by decide))).1.trans ((g_S9 x0 (lt18 ((congrFun kE_S4 x0).trans r_x0) (by decide))).1.trans ((congrFun kE_S4 x0).trans r_x0)))]; decide))
          refine ok_chk ⟨q_S40.1, q_S40.2.1⟩ ?_
          refine ok_chk (nar_b (v := r40) (by omega) (by omega)) ?_
          exact ok_ret ⟨T_S40, R_S40, (show (0 : Int) ≤ r40.toInt ∧ r40.toInt ≤ (1 : Int) from (by omega)), (by show (r40.toInt = 1 → IVx S40 x0 x1.toInt); intro h9; have z9 : (0 : Int32).toInt = 0 := rfl; omega)⟩
        ·
          replace c10 := ti_eqN (a := r20) (b := (-1 : Int32)) c10 rfl (show (-1 : Int32).toInt = -1 from rfl)
          refine ok_chk ((g_S21 x0 (lt18 ((g_S9 x0 (lt18 ((congrFun kE_S4 x0).trans r_x0) (by decide))).1.trans ((congrFun kE_S4 x0).trans r_x0)) (by decide))).1.trans ((g_S9 x0 (lt18 ((congrFun kE_S4 x0).trans r_x0) (by decide))).1.trans ((congrFun kE_S4 x0).trans r_x0))) ?_
          obtain ⟨b24, p_b24, k_b24, n_b24⟩ := T_2_9 T_S21 ((g_S21 x0 (lt18 ((g_S9 x0 (lt18 ((congrFun kE_S4 x0).trans r_x0) (by decide))).1.trans ((congrFun kE_S4 x0).trans r_x0)) (by decide))).1.trans ((g_S9 x0 (lt18 ((congrFun kE_S4 x0).trans r_x0) (by decide))).1.trans ((congrFun kE_S4 x0).trans r_x0)))
          refine ok_calR p_b24 ?_
          refine ok_chk k_b24 ?_
          refine ok_chk (ti_inN (v := x1) (n := 7) n_b24 (by omega) (by omega)) ?_
          refine ok_bnd (fun S25 e11 => ?_)
          have T_S25 : ZT S25 := e11.symm ▸ zt_A T_S21 k_b24
          have kE_S25 : zK S25 = zK S21 := by rw [e11]; rfl
          have nE_S25 : zN S25 = zN S21 := by rw [e11]; rfl
          have R_S25 : RG x0 SZ S25 := rg_A R_S21 T_S21 e11 k_b24
          have : (zI S25 4 x0).toInt = (zI S21 4 x0).toInt := by rw [e11]; rfl
          rcases p_r20_0 with ⟨g1, -⟩ | ⟨g1, g2, g3, g4, g5, g6⟩
          · exact absurd (show r20.toInt = -1 from g1) (by omega)
          replace g1 : r20.toInt = (cn S9 b12 : Int) + 1 := g1
          replace g2 : cn S21 b12 = cn S9 b12 + 1 := g2
          replace g4 : zI S21 4 (nd S21 b12 r20) = 0 := g4
          have iv25 : IVx S25 x0 x1.toInt := iv_grow T_S9 ((g_S9 x0 (lt18 ((congrFun kE_S4 x0).trans r_x0) (by decide))).1.trans ((congrFun kE_S4 x0).trans r_x0)) iv9 A_S21 (fun j9 => g6 x0 j9 (lt18 ((g_S9 x0 (lt18 ((congrFun kE_S4 x0).trans r_x0) (by decide))).1.trans ((congrFun kE_S4 x0).trans r_x0)) (by decide))) p_b12 g1 g2 p_b24 e11
          have m25 := nd4_fr (W := []) (V := []) (B := []) T_S21 ((g_S21 b12 (lt18 k_b12 (by decide))).1.trans k_b12) (frz_A frz_0 e11) (by decide) g4
          refine ok_chk ((congrFun kE_S25 x0).trans ((g_S21 x0 (lt18 ((g_S9 x0 (lt18 ((congrFun kE_S4 x0).trans r_x0) (by decide))).1.trans ((congrFun kE_S4 x0).trans r_x0)) (by decide))).1.trans ((g_S9 x0 (lt18 ((congrFun kE_S4 x0).trans r_x0) (by decide))).1.trans ((congrFun kE_S4 x0).trans r_x0)))) ?_
          obtain ⟨b26, p_b26, k_b26, n_b26⟩ := T_2_10 T_S25 ((congrFun kE_S25 x0).trans ((g_S21 x0 (lt18 ((g_S9 x0 (lt18 ((congrFun kE_S4 x0).trans r_x0) (by decide))).1.trans ((congrFun kE_S4 x0).trans r_x0)) (by decide))).1.trans ((g_S9 x0 (lt18 ((congrFun kE_S4 x0).trans r_x0) (by decide))).1.trans ((congrFun kE_S4 x0).trans r_x0))))
          refine ok_calR p_b26 ?_
          refine ok_chk k_b26 ?_
          refine ok_chk (ti_inN (v := x1) (n := 7) n_b26 (by omega) (by omega)) ?_
          obtain ⟨b27, p_b27, k_b27⟩ := (T_S25.2.2.2.1 b26).1 k_b26 (x1).toNatClampNeg (ti_cl (v := x1) (by omega) (by omega))
          refine ok_calR p_b27 ?_
          refine ok_chk k_b27 ?_
          obtain ⟨⟨r28, S28⟩, h_r28, T_S28, A_S28, -⟩ := t_f_X0_copyFrom (x0 := b27) (x1 := x2) (SZ := S25) T_S25 (a7_0 S25) k_b27 ((congrFun kE_S25 x2).trans ((g_S21 x2 (lt18 ((g_S9 x2 (lt18 ((congrFun kE_S4 x2).trans r_x2) (by decide))).1.trans ((congrFun kE_S4 x2).trans r_x2)) (by decide))).1.trans ((g_S9 x2 (lt18 ((congrFun kE_S4 x2).trans r_x2) (by decide))).1.trans ((congrFun kE_S4 x2).trans r_x2))))
          replace T_S28 : ZT S28 := T_S28
          replace A_S28 : A7 S25 S28 := A_S28
          refine ok_calR h_r28 ?_
          have q_S28 := fq_X0_copyFrom h_r28
          have kE_S28 : zK S28 = zK S25 := q_S28.2.2.1
          have nE_S28 : zN S28 = zN S25 := q_S28.2.2.2.1
          have R_S28 : RG x0 SZ S28 := rg_f R_S25 T_S25 q_S28 (fz_X0_copyFrom h_r28) (by decide) A_S28.2
          have : (zI S28 4 x0).toInt = (zI S25 4 x0).toInt := congrArg Int32.toInt ((((fz_X0_copyFrom h_r28) T_S25.2.2.2.2.1).2.2 x0 (by rw [((congrFun kE_S25 x0).trans ((g_S21 x0 (lt18 ((g_S9 x0 (lt18 ((congrFun kE_S4 x0).trans r_x0) (by decide))).1.trans ((congrFun kE_S4 x0).trans r_x0)) (by decide))).1.trans ((g_S9 x0 (lt18 ((congrFun kE_S4 x0).trans r_x0) (by decide))).1.trans ((congrFun kE_S4 x0).trans r_x0))))]; decide)).2.2.1 4 (by rw [((congrFun kE_S25 x0).trans ((g_S21 x0 (lt18 ((g_S9 x0 (lt18 ((congrFun kE_S4 x0).trans r_x0) (by decide))).1.trans ((congrFun kE_S4 x0).trans r_x0)) (by decide))).1.trans ((g_S9 x0 (lt18 ((congrFun kE_S4 x0).trans r_x0) (by decide))).1.trans ((congrFun kE_S4 x0).trans r_x0))))]; decide))
          have iv28 := iv_fr T_S25 ((congrFun kE_S25 x0).trans ((g_S21 x0 (lt18 ((g_S9 x0 (lt18 ((congrFun kE_S4 x0).trans r_x0) (by decide))).1.trans ((congrFun kE_S4 x0).trans r_x0)) (by decide))).1.trans ((g_S9 x0 (lt18 ((congrFun kE_S4 x0).trans r_x0) (by decide))).1.trans ((congrFun kE_S4 x0).trans r_x0)))) iv25 A_S28 (fz_X0_copyFrom h_r28) (by decide)
          have m28 := nd4_fr T_S25 ((congrFun kE_S25 b12).trans ((g_S21 b12 (lt18 k_b12 (by decide))).1.trans k_b12)) (fz_X0_copyFrom h_r28) (by decide) m25
          refine ok_chk ⟨q_S28.1, q_S28.2.1⟩ ?_
          refine ok_chk ((congrFun kE_S28 x2).trans ((congrFun kE_S25 x2).trans ((g_S21 x2 (lt18 ((g_S9 x2 (lt18 ((congrFun kE_S4 x2).trans r_x2) (by decide))).1.trans ((congrFun kE_S4 x2).trans r_x2)) (by decide))).1.trans ((g_S9 x2 (lt18 ((congrFun kE_S4 x2).trans r_x2) (by decide))).1.trans ((congrFun kE_S4 x2).trans r_x2))))) ?_
          obtain ⟨⟨r29, S29⟩, h_r29, T_S29, A_S29, -⟩ := t_f_X0_play (x0 := x2) (x1 := r8) (SZ := S28) T_S28 (a7_0 S28) ((congrFun kE_S28 x2).trans ((congrFun kE_S25 x2).trans ((g_S21 x2 (lt18 ((g_S9 x2 (lt18 ((congrFun kE_S4 x2).trans r_x2) (by decide))).1.trans ((congrFun kE_S4 x2).trans r_x2)) (by decide))).1.trans ((g_S9 x2 (lt18 ((congrFun kE_S4 x2).trans r_x2) (by decide))).1.trans ((congrFun kE_S4 x2).trans r_x2)))))
          replace T_S29 : ZT S29 := T_S29
          replace A_S29 : A7 S28 S29 := A_S29
          refine ok_calR h_r29 ?_
          have q_S29 := fq_X0_play h_r29
          have kE_S29 : zK S29 = zK S28 := q_S29.2.2.1
          have nE_S29 : zN S29 = zN S28 := q_S29.2.2.2.1
          have R_S29 : RG x0 SZ S29 := rg_f R_S28 T_S28 q_S29 (fz_X0_play h_r29) (by decide) A_S29.2
          have : (zI S29 4 x0).toInt = (zI S28 4 x0).toInt := congrArg Int32.toInt ((((fz_X0_play h_r29) T_S28.2.2.2.2.1).2.2 x0 (by rw [((congrFun kE_S28 x0).trans ((congrFun kE_S25 x0).trans ((g_S21 x0 (lt18 ((g_S9 x0 (lt18 ((congrFun kE_S4 x0).trans r_x0) (by decide))).1.trans ((congrFun kE_S4 x0).trans r_x0)) (by decide))).1.trans ((g_S9 x0 (lt18 ((congrFun kE_S4 x0).trans r_x0) (by decide))).1.trans ((congrFun kE_S4 x0).trans r_x0)))))]; decide)).2.2.1 4 (by rw [((congrFun kE_S28 x0).trans ((congrFun kE_S25 x0).trans ((g_S21 x0 (lt18 ((g_S9 x0 (lt18 ((congrFun kE_S4 x0).trans r_x0) (by decide))).1.trans ((congrFun kE_S4 x0).trans r_x0)) (by decide))).1.trans ((g_S9 x0 (lt18 ((congrFun kE_S4 x0).trans r_x0) (by decide))).1.trans ((congrFun kE_S4 x0).trans r_x0)))))]; decide))
          have iv29 := iv_fr T_S28 ((congrFun kE_S28 x0).trans ((congrFun kE_S25 x0).trans ((g_S21 x0 (lt18 ((g_S9 x0 (lt18 ((congrFun kE_S4 x0).trans r_x0) (by decide))).1.trans ((congrFun kE_S4 x0).trans r_x0)) (by decide))).1.trans ((g_S9 x0 (lt18 ((congrFun kE_S4 x0).trans r_x0) (by decide))).1.trans ((congrFun kE_S4 x0).trans r_x0))))) iv28 A_S29 (fz_X0_play h_r29) (by decide)
          have m29 := nd4_fr T_S28 ((congrFun kE_S28 b12).trans ((congrFun kE_S25 b12).trans ((g_S21 b12 (lt18 k_b12 (by decide))).1.trans k_b12))) (fz_X0_play h_r29) (by decide) m28
          have pE : zP S29 3 x0 = some b12 := by rw [(((fz_X0_play h_r29) T_S28.2.2.2.2.1).2.2 x0 (lt18 ((congrFun kE_S28 x0).trans ((congrFun kE_S25 x0).trans ((g_S21 x0 (lt18 ((g_S9 x0 (lt18 ((congrFun kE_S4 x0).trans r_x0) (by decide))).1.trans ((congrFun kE_S4 x0).trans r_x0)) (by decide))).1.trans ((g_S9 x0 (lt18 ((congrFun kE_S4 x0).trans r_x0) (by decide))).1.trans ((congrFun kE_S4 x0).trans r_x0))))) (by decide))).2.2.2.1 3 (by rw [((congrFun kE_S28 x0).trans ((congrFun kE_S25 x0).trans ((g_S21 x0 (lt18 ((g_S9 x0 (lt18 ((congrFun kE_S4 x0).trans r_x0) (by decide))).1.trans ((congrFun kE_S4 x0).trans r_x0)) (by decide))).1.trans ((g_S9 x0 (lt18 ((congrFun kE_S4 x0).trans r_x0) (by decide))).1.trans ((congrFun kE_S4 x0).trans r_x0)))))]; decide), (((fz_X0_copyFrom h_r28) T_S25.2.2.2.2.1).2.2 x0 (lt18 ((congrFun kE_S25 x0).trans ((g_S21 x0 (lt18 ((g_S9 x0 (lt18 ((congrFun kE_S4 x0).trans r_x0) (by decide))).1.trans ((congrFun kE_S4 x0).trans r_x0)) (by decide))).1.trans ((g_S9 x0 (lt18 ((congrFun kE_S4 x0).trans r_x0) (by decide))).1.trans ((congrFun kE_S4 x0).trans r_x0)))) (by decide))).2.2.2.1 3 (by rw [((congrFun kE_S25 x0).trans ((g_S21 x0 (lt18 ((g_S9 x0 (lt18 ((congrFun kE_S4 x0).trans r_x0) (by decide))).1.trans ((congrFun kE_S4 x0).trans r_x0)) (by decide))).1.trans ((g_S9 x0 (lt18 ((congrFun kE_S4 x0).trans r_x0) (by decide))).1.trans ((congrFun kE_S4 x0).trans r_x0))))]; decide)]; show zP S25 3 x0 = _; rw [e11]; show zP S21 3 x0 = _; rw [g6 x0 3 (lt18 ((g_S9 x0 (lt18 ((congrFun kE_S4 x0).trans r_x0) (by decide))).1.trans ((congrFun kE_S4 x0).trans r_x0)) (by decide))]; exact p_b12
          refine ok_chk ⟨q_S29.1, q_S29.2.1⟩ ?_
          refine ok_chk ((congrFun kE_S29 x0).trans ((congrFun kE_S28 x0).trans ((congrFun kE_S25 x0).trans ((g_S21 x0 (lt18 ((g_S9 x0 (lt18 ((congrFun kE_S4 x0).trans r_x0) (by decide))).1.trans ((congrFun kE_S4 x0).trans r_x0)) (by decide))).1.trans ((g_S9 x0 (lt18 ((congrFun kE_S4 x0).trans r_x0) (by decide))).1.trans ((congrFun kE_S4 x0).trans r_x0)))))) ?_
          obtain ⟨b30, p_b30, k_b30⟩ := T_2_3 T_S29 ((congrFun kE_S29 x0).trans ((congrFun kE_S28 x0).trans ((congrFun kE_S25 x0).trans ((g_S21 x0 (lt18 ((g_S9 x0 (lt18 ((congrFun kE_S4 x0).trans r_x0) (by decide))).1.trans ((congrFun kE_S4 x0).trans r_x0)) (by decide))).1.trans ((g_S9 x0 (lt18 ((congrFun kE_S4 x0).trans r_x0) (by decide))).1.trans ((congrFun kE_S4 x0).trans r_x0))))))
          have lo_b30 := M_2_3 T_S29 ((congrFun kE_S29 x0).trans ((congrFun kE_S28 x0).trans ((congrFun kE_S25 x0).trans ((g_S21 x0 (lt18 ((g_S9 x0 (lt18 ((congrFun kE_S4 x0).trans r_x0) (by decide))).1.trans ((congrFun kE_S4 x0).trans r_x0)) (by decide))).1.trans ((g_S9 x0 (lt18 ((congrFun kE_S4 x0).trans r_x0) (by decide))).1.trans ((congrFun kE_S4 x0).trans r_x0)))))) p_b30
          refine ok_calR p_b30 ?_
          have eb : b30 = b12 := by rw [p_b30] at pE; exact Option.some.inj pE
          refine ok_chk k_b30 ?_
          obtain ⟨r31, h_r31, p_r31⟩ := roz (t_f_X1_at (x0 := b30) (x1 := r20) T_S29 k_b30)
          dsimp only at p_r31
          refine ok_calR h_r31 ?_
          have m31 : (zI S29 4 r31).toInt = 0 := by rw [p_r31.2, eb, m29]; rfl
          refine ok_chk ⟨rfl, rfl⟩ ?_
          refine ok_chk ((congrFun kE_S29 x0).trans ((congrFun kE_S28 x0).trans ((congrFun kE_S25 x0).trans ((g_S21 x0 (lt18 ((g_S9 x0 (lt18 ((congrFun kE_S4 x0).trans r_x0) (by decide))).1.trans ((congrFun kE_S4 x0).trans r_x0)) (by decide))).1.trans ((g_S9 x0 (lt18 ((congrFun kE_S4 x0).trans r_x0) (by decide))).1.trans ((congrFun kE_S4 x0).trans r_x0)))))) ?_
          have j12 := J_4_4 T_S29 p_r31.1
          obtain ⟨⟨r32, S32⟩, h_r32, T_S32, A_S32, p_r32⟩ := t_f_X2_readMarks (x0 := x0) (x1 := r31) (SZ := S29) T_S29 (a7_0 S29) ((congrFun kE_S29 x0).trans ((congrFun kE_S28 x0).trans ((congrFun kE_S25 x0).trans ((g_S21 x0 (lt18 ((g_S9 x0 (lt18 ((congrFun kE_S4 x0).trans r_x0) (by decide))).1.trans ((congrFun kE_S4 x0).trans r_x0)) (by decide))).1.trans ((g_S9 x0 (lt18 ((congrFun kE_S4 x0).trans r_x0) (by decide))).1.trans ((congrFun kE_S4 x0).trans r_x0)))))) p_r31.1 (by omega)
          replace T_S32 : ZT S32 := T_S32
          replace A_S32 : A7 S29 S32 := A_S32
          dsimp only at p_r32
          refine ok_calR h_r32 ?_
          have q_S32 := fq_X2_readMarks h_r32
          have kE_S32 : zK S32 = zK S29 := q_S32.2.2.1
          have nE_S32 : zN S32 = zN S29 := q_S32.2.2.2.1
          have R_S32 : RG x0 SZ S32 := rg_f R_S29 T_S29 q_S32 (fz_X2_readMarks h_r32) (by decide) A_S32.2
          have iv32 := iv_fr T_S29 ((congrFun kE_S29 x0).trans ((congrFun kE_S28 x0).trans ((congrFun kE_S25 x0).trans ((g_S21 x0 (lt18 ((g_S9 x0 (lt18 ((congrFun kE_S4 x0).trans r_x0) (by decide))).1.trans ((congrFun kE_S4 x0).trans r_x0)) (by decide))).1.trans ((g_S9 x0 (lt18 ((congrFun kE_S4 x0).trans r_x0) (by decide))).1.trans ((congrFun kE_S4 x0).trans r_x0)))))) iv29 A_S32 (fz_X2_readMarks h_r32) (by decide)
          refine ok_chk ⟨q_S32.1, q_S32.2.1⟩ ?_
          refine ok_if (fun c13 => ?_) (fun c13 => ?_)
          ·
            replace c13 := ti_eqP (a := r32) (b := (0 : Int32)) c13 rfl (show (0 : Int32).toInt = 0 from rfl)
            unfold d_X2_readMove_233
            unfold d_X2_readMove_234
            refine ok_chk (by decide) ?_
            exact ok_ret ⟨T_S32, R_S32, (show (0 : Int) ≤ (0 : Int32).toInt ∧ (0 : Int32).toInt ≤ (1 : Int) from (by decide)), (by show ((0 : Int32).toInt = 1 → IVx S32 x0 x1.toInt); intro h9; have z9 : (0 : Int32).toInt = 0 := rfl; omega)⟩
          ·
            replace c13 := ti_eqN (a := r32) (b := (0 : Int32)) c13 rfl (show (0 : Int32).toInt = 0 from rfl)
            refine ok_chk ((congrFun kE_S32 x0).trans ((congrFun kE_S29 x0).trans ((congrFun kE_S28 x0).trans ((congrFun kE_S25 x0).trans ((g_S21 x0 (lt18 ((g_S9 x0 (lt18 ((congrFun kE_S4 x0).trans r_x0) (by decide))).1.trans ((congrFun kE_S4 x0).trans r_x0)) (by decide))).1.trans ((g_S9 x0 (lt18 ((congrFun kE_S4 x0).trans r_x0) (by decide))).1.trans ((congrFun kE_S4 x0).trans r_x0))))))) ?_
            obtain ⟨b33, p_b33, k_b33⟩ := T_2_3 T_S32 ((congrFun kE_S32 x0).trans ((congrFun kE_S29 x0).trans ((congrFun kE_S28 x0).trans ((congrFun kE_S25 x0).trans ((g_S21 x0 (lt18 ((g_S9 x0 (lt18 ((congrFun kE_S4 x0).trans r_x0) (by decide))).1.trans ((congrFun kE_S4 x0).trans r_x0)) (by decide))).1.trans ((g_S9 x0 (lt18 ((congrFun kE_S4 x0).trans r_x0) (by decide))).1.trans ((congrFun kE_S4 x0).trans r_x0)))))))
            have lo_b33 := M_2_3 T_S32 ((congrFun kE_S32 x0).trans ((congrFun kE_S29 x0).trans ((congrFun kE_S28 x0).trans ((congrFun kE_S25 x0).trans ((g_S21 x0 (lt18 ((g_S9 x0 (lt18 ((congrFun kE_S4 x0).trans r_x0) (by decide))).1.trans ((congrFun kE_S4 x0).trans r_x0)) (by decide))).1.trans ((g_S9 x0 (lt18 ((congrFun kE_S4 x0).trans r_x0) (by decide))).1.trans ((congrFun kE_S4 x0).trans r_x0))))))) p_b33
            refine ok_calR p_b33 ?_
            refine ok_chk k_b33 ?_
            obtain ⟨r34, h_r34, p_r34⟩ := roz (t_f_X1_at (x0 := b33) (x1 := r20) T_S32 k_b33)
            dsimp only at p_r34
            refine ok_calR h_r34 ?_
            refine ok_chk ⟨rfl, rfl⟩ ?_
            refine ok_chk ((congrFun kE_S32 x0).trans ((congrFun kE_S29 x0).trans ((congrFun kE_S28 x0).trans ((congrFun kE_S25 x0).trans ((g_S21 x0 (lt18 ((g_S9 x0 (lt18 ((congrFun kE_S4 x0).trans r_x0) (by decide))).1.trans ((congrFun kE_S4 x0).trans r_x0)) (by decide))).1.trans ((g_S9 x0 (lt18 ((congrFun kE_S4 x0).trans r_x0) (by decide))).1.trans ((congrFun kE_S4 x0).trans r_x0))))))) ?_
            obtain ⟨⟨r36, S37⟩, h_r36, T_S37, B_S37, p_r36⟩ := t_d_X2_readRemarks (x0 := x0) (x1 := r34) (SZ := S32) T_S32 (rp_0 S32) ((congrFun kE_S32 x0).trans ((congrFun kE_S29 x0).trans ((congrFun kE_S28 x0).trans ((congrFun kE_S25 x0).trans ((g_S21 x0 (lt18 ((g_S9 x0 (lt18 ((congrFun kE_S4 x0).trans r_x0) (by decide))).1.trans ((congrFun kE_S4 x0).trans r_x0)) (by decide))).1.trans ((g_S9 x0 (lt18 ((congrFun kE_S4 x0).trans r_x0) (by decide))).1.trans ((congrFun kE_S4 x0).trans r_x0))))))) p_r34.1
            replace T_S37 : ZT S37 := T_S37
            replace B_S37 : RP S32 S37 := B_S37
            have A_S37 : A7 S32 S37 := B_S37.2.2
            have R_S37 : RG x0 SZ S37 := rg_d R_S32 T_S32 B_S37 (fz_X2_readRemarks h_r36) (by decide)
            dsimp only at p_r36
            refine ok_cal2R h_r36 ?_
            have g_S37 := (fz_X2_readRemarks h_r36 T_S32.2.2.2.2.1).2.2
            have iv37 := iv_fr T_S32 ((congrFun kE_S32 x0).trans ((congrFun kE_S29 x0).trans ((congrFun kE_S28 x0).trans ((congrFun kE_S25 x0).trans ((g_S21 x0 (lt18 ((g_S9 x0 (lt18 ((congrFun kE_S4 x0).trans r_x0) (by decide))).1.trans ((congrFun kE_S4 x0).trans r_x0)) (by decide))).1.trans ((g_S9 x0 (lt18 ((congrFun kE_S4 x0).trans r_x0) (by decide))).1.trans ((congrFun kE_S4 x0).trans r_x0))))))) iv32 A_S37 (fz_X2_readRemarks h_r36) (by decide)
            refine ok_if (fun c14 => ?_) (fun c14 => ?_)
            ·
              replace c14 := ti_eqP (a := r36) (b := (0 : Int32)) c14 rfl (show (0 : Int32).toInt = 0 from rfl)
              unfold d_X2_readMove_233
              unfold d_X2_readMove_234
              refine ok_chk (by decide) ?_
              exact ok_ret ⟨T_S37, R_S37, (show (0 : Int) ≤ (0 : Int32).toInt ∧ (0 : Int32).toInt ≤ (1 : Int) from (by decide)), (by show ((0 : Int32).toInt = 1 → IVx S37 x0 x1.toInt); intro h9; have z9 : (0 : Int32).toInt = 0 := rfl; omega)⟩
            ·
              replace c14 := ti_eqN (a := r36) (b := (0 : Int32)) c14 rfl (show (0 : Int32).toInt = 0 from rfl)
              unfold d_X2_readMove_234
              refine ok_chk (by decide) ?_
              exact ok_ret ⟨T_S37, R_S37, (show (0 : Int) ≤ (1 : Int32).toInt ∧ (1 : Int32).toInt ≤ (1 : Int) from (by decide)), (by show ((1 : Int32).toInt = 1 → IVx S37 x0 x1.toInt); exact fun _ => iv37)⟩
      ·
        replace c8 := ti_eqN (a := r15) (b := (-1 : Int32)) c8 rfl (show (-1 : Int32).toInt = -1 from rfl)
        refine ok_chk ((g_S9 x0 (lt18 ((congrFun kE_S4 x0).trans r_x0) (by decide))).1.trans ((congrFun kE_S4 x0).trans r_x0)) ?_
        obtain ⟨⟨r41, S41⟩, h_r41, T_S41, A_S41, p_r41⟩ := t_f_X2_refuse (x0 := x0) (x1 := (6 : Int32)) (x2 := (zI S 4 x0)) (SZ := S9) T_S9 (a7_0 S9) ((g_S9 x0 (lt18 ((congrFun kE_S4 x0).trans r_x0) (by decide))).1.trans ((congrFun kE_S4 x0).trans r_x0))
        replace T_S41 : ZT S41 := T_S41
        replace A_S41 : A7 S9 S41 := A_S41
        dsimp only at p_r41
        refine ok_calR h_r41 ?_
        have q_S41 := fq_X2_refuse h_r41
        have kE_S41 : zK S41 = zK S9 := q_S41.2.2.1
        have nE_S41 : zN S41 = zN S9 := q_S41.2.2.2.1
        have R_S41 : RG x0 SZ S41 := rg_f R_S9 T_S9 q_S41 (fz_X2_refuse h_r41) (by decide) A_S41.2
        have : (zI S41 4 x0).toInt = (zI S9 4 x0).toInt := congrArg Int32.toInt ((((fz_X2_refuse h_r41) T_S9.2.2.2.2.1).2.2 x0 (by rw [((g_S9 x0 (lt18 ((congrFun kE_S4 x0).trans r_x0) (by decide))).1.trans ((congrFun kE_S4 x0).trans r_x0))]; decide)).2.2.1 4 (by rw [((g_S9 x0 (lt18 ((congrFun kE_S4 x0).trans r_x0) (by decide))).1.trans ((congrFun kE_S4 x0).trans r_x0))]; decide))
        refine ok_chk ⟨q_S41.1, q_S41.2.1⟩ ?_
        refine ok_chk (nar_b (v := r41) (by omega) (by omega)) ?_
        exact ok_ret ⟨T_S41, R_S41, (show (0 : Int) ≤ r41.toInt ∧ r41.toInt ≤ (1 : Int) from (by omega)), (by show (r41.toInt = 1 → IVx S41 x0 x1.toInt); intro h9; have z9 : (0 : Int32).toInt = 0 := rfl; omega)⟩
    ·
      replace c6 := ti_leN (a := (0 : Int32)) (b := r8) c6 (show (0 : Int32).toInt = 0 from rfl) rfl
      refine ok_if (fun c15 => ?_) (fun c15 => ?_)
      ·
        replace c15 := ti_eqP (a := r8) (b := (-2 : Int32)) c15 rfl (show (-2 : Int32).toInt = -2 from rfl)
        unfold d_X2_readMove_110
        refine ok_chk ((g_S9 x0 (lt18 ((congrFun kE_S4 x0).trans r_x0) (by decide))).1.trans ((congrFun kE_S4 x0).trans r_x0)) ?_
        obtain ⟨⟨r1, S1⟩, h_r1, T_S1, A_S1, p_r1⟩ := t_f_X2_refuse (x0 := x0) (x1 := (5 : Int32)) (x2 := (zI S 4 x0)) (SZ := S9) T_S9 (a7_0 S9) ((g_S9 x0 (lt18 ((congrFun kE_S4 x0).trans r_x0) (by decide))).1.trans ((congrFun kE_S4 x0).trans r_x0))
        replace T_S1 : ZT S1 := T_S1
        replace A_S1 : A7 S9 S1 := A_S1
        dsimp only at p_r1
        refine ok_calR h_r1 ?_
        have q_S1 := fq_X2_refuse h_r1
        have kE_S1 : zK S1 = zK S9 := q_S1.2.2.1
        have nE_S1 : zN S1 = zN S9 := q_S1.2.2.2.1
        have R_S1 : RG x0 SZ S1 := rg_f R_S9 T_S9 q_S1 (fz_X2_refuse h_r1) (by decide) A_S1.2
        have : (zI S1 4 x0).toInt = (zI S9 4 x0).toInt := congrArg Int32.toInt ((((fz_X2_refuse h_r1) T_S9.2.2.2.2.1).2.2 x0 (by rw [((g_S9 x0 (lt18 ((congrFun kE_S4 x0).trans r_x0) (by decide))).1.trans ((congrFun kE_S4 x0).trans r_x0))]; decide)).2.2.1 4 (by rw [((g_S9 x0 (lt18 ((congrFun kE_S4 x0).trans r_x0) (by decide))).1.trans ((congrFun kE_S4 x0).trans r_x0))]; decide))
        refine ok_chk ⟨q_S1.1, q_S1.2.1⟩ ?_
        refine ok_chk (nar_b (v := r1) (by omega) (by omega)) ?_
        exact ok_ret ⟨T_S1, R_S1, (show (0 : Int) ≤ r1.toInt ∧ r1.toInt ≤ (1 : Int) from (by omega)), (by show (r1.toInt = 1 → IVx S1 x0 x1.toInt); intro h9; have z9 : (0 : Int32).toInt = 0 := rfl; omega)⟩
      ·
        replace c15 := ti_eqN (a := r8) (b := (-2 : Int32)) c15 rfl (show (-2 : Int32).toInt = -2 from rfl)
        unfold d_X2_readMove_110
        refine ok_chk ((g_S9 x0 (lt18 ((congrFun kE_S4 x0).trans r_x0) (by decide))).1.trans ((congrFun kE_S4 x0).trans r_x0)) ?_
        obtain ⟨⟨r1, S1⟩, h_r1, T_S1, A_S1, p_r1⟩ := t_f_X2_refuse (x0 := x0) (x1 := (4 : Int32)) (x2 := (zI S 4 x0)) (SZ := S9) T_S9 (a7_0 S9) ((g_S9 x0 (lt18 ((congrFun kE_S4 x0).trans r_x0) (by decide))).1.trans ((congrFun kE_S4 x0).trans r_x0))
        replace T_S1 : ZT S1 := T_S1
        replace A_S1 : A7 S9 S1 := A_S1
        dsimp only at p_r1
        refine ok_calR h_r1 ?_
        have q_S1 := fq_X2_refuse h_r1
        have kE_S1 : zK S1 = zK S9 := q_S1.2.2.1
        have nE_S1 : zN S1 = zN S9 := q_S1.2.2.2.1
        have R_S1 : RG x0 SZ S1 := rg_f R_S9 T_S9 q_S1 (fz_X2_refuse h_r1) (by decide) A_S1.2
        have : (zI S1 4 x0).toInt = (zI S9 4 x0).toInt := congrArg Int32.toInt ((((fz_X2_refuse h_r1) T_S9.2.2.2.2.1).2.2 x0 (by rw [((g_S9 x0 (lt18 ((congrFun kE_S4 x0).trans r_x0) (by decide))).1.trans ((congrFun kE_S4 x0).trans r_x0))]; decide)).2.2.1 4 (by rw [((g_S9 x0 (lt18 ((congrFun kE_S4 x0).trans r_x0) (by decide))).1.trans ((congrFun kE_S4 x0).trans r_x0))]; decide))
        refine ok_chk ⟨q_S1.1, q_S1.2.1⟩ ?_
        refine ok_chk (nar_b (v := r1) (by omega) (by omega)) ?_
        exact ok_ret ⟨T_S1, R_S1, (show (0 : Int) ≤ r1.toInt ∧ r1.toInt ≤ (1 : Int) from (by omega)), (by show (r1.toInt = 1 → IVx S1 x0 x1.toInt); intro h9; have z9 : (0 : Int32).toInt = 0 := rfl; omega)⟩
theorem t_d_X2_readMove_0 {SZ S : ZS} {x0 : Nat} {x1 : Int32} (hT : ZT S) (hR : RG x0 SZ S) (r_x0 : zK S x0 = 2) (r_x1 : (0 : Int) ≤ x1.toInt ∧ x1.toInt ≤ (6 : Int)) (q0 : TZ SZ) (q1 : IVx S x0 x1.toInt) : Ok (d_X2_readMove_0 x0 x1 S) (fun o => ZT o.2 ∧ RG x0 SZ o.2 ∧ ((0 : Int) ≤ o.1.toInt ∧ o.1.toInt ≤ (1 : Int)) ∧ ((o.1.toInt = 1 → IVx o.2 x0 x1.toInt))) := by
  unfold d_X2_readMove_0
  have j16 := J_2_4 hT r_x0
  refine ok_chk r_x0 ?_
  obtain ⟨b1, p_b1, k_b1, n_b1⟩ := T_2_11 hT r_x0
  refine ok_calR p_b1 ?_
  refine ok_chk k_b1 ?_
  refine ok_chk (ti_inN (v := x1) (n := 7) n_b1 (by omega) (by omega)) ?_
  obtain ⟨b2, p_b2, k_b2⟩ := (hT.2.2.2.1 b1).1 k_b1 (x1).toNatClampNeg (ti_cl (v := x1) (by omega) (by omega))
  refine ok_calR p_b2 ?_
  refine ok_chk r_x0 ?_
  obtain ⟨b3, p_b3, k_b3, c_b3⟩ := T_2_2 hT r_x0
  have rl_b3 := rL_ge b3
  refine ok_calR p_b3 ?_
  refine ok_chk r_x0 ?_
  refine ok_chk k_b3 ?_
  have j17 := J61_2 hT k_b3 c_b3
  obtain ⟨r4, h_r4, p_r4⟩ := roz (t_f_X6_at (x0 := b3) (x1 := (zI S 4 x0)) hT k_b3)
  dsimp only at p_r4
  refine ok_calR h_r4 ?_
  refine ok_chk ⟨rfl, rfl⟩ ?_
  obtain ⟨r5, h_r5, p_r5⟩ := roz (t_f_X11_isDigit (x0 := r4) hT )
  dsimp only at p_r5
  refine ok_calR h_r5 ?_
  refine ok_chk ⟨rfl, rfl⟩ ?_
  refine ok_if (fun c18 => ?_) (fun c18 => ?_)
  ·
    replace c18 := ti_eqP (a := r5) (b := (0 : Int32)) c18 rfl (show (0 : Int32).toInt = 0 from rfl)
    exact t_d_X2_readMove_37 (S := S)  (x0 := x0) (x1 := x1) (x2 := b2) hT hR r_x0 r_x1 k_b2 q0 q1
  ·
    replace c18 := ti_eqN (a := r5) (b := (0 : Int32)) c18 rfl (show (0 : Int32).toInt = 0 from rfl)
    refine ok_chk k_b2 ?_
    refine ok_chk r_x0 ?_
    obtain ⟨⟨r6, S6⟩, h_r6, T_S6, A_S6, p_r6⟩ := t_f_X2_readNumber (x0 := x0) (x1 := (zI S 6 b2)) (SZ := S) hT (a7_0 S) r_x0
    replace T_S6 : ZT S6 := T_S6
    replace A_S6 : A7 S S6 := A_S6
    dsimp only at p_r6
    refine ok_calR h_r6 ?_
    have q_S6 := fq_X2_readNumber h_r6
    have kE_S6 : zK S6 = zK S := q_S6.2.2.1
    have nE_S6 : zN S6 = zN S := q_S6.2.2.2.1
    have R_S6 : RG x0 SZ S6 := rg_f hR hT q_S6 (fz_X2_readNumber h_r6) (by decide) A_S6.2
    have iv6 := iv_fr hT r_x0 q1 A_S6 (fz_X2_readNumber h_r6) (by decide)
    refine ok_chk ⟨q_S6.1, q_S6.2.1⟩ ?_
    refine ok_if (fun c19 => ?_) (fun c19 => ?_)
    ·
      replace c19 := ti_eqP (a := r6) (b := (0 : Int32)) c19 rfl (show (0 : Int32).toInt = 0 from rfl)
      refine ok_chk (by decide) ?_
      exact ok_ret ⟨T_S6, R_S6, (show (0 : Int) ≤ (0 : Int32).toInt ∧ (0 : Int32).toInt ≤ (1 : Int) from (by decide)), (by show ((0 : Int32).toInt = 1 → IVx S6 x0 x1.toInt); intro h9; have z9 : (0 : Int32).toInt = 0 := rfl; omega)⟩
    ·
      replace c19 := ti_eqN (a := r6) (b := (0 : Int32)) c19 rfl (show (0 : Int32).toInt = 0 from rfl)
      exact t_d_X2_readMove_37 (S := S6)  (x0 := x0) (x1 := x1) (x2 := b2) T_S6 R_S6 ((congrFun kE_S6 x0).trans r_x0) r_x1 ((congrFun kE_S6 b2).trans k_b2) q0 iv6
theorem t_d_X2_readMove {SZ S : ZS} {x0 : Nat} {x1 : Int32} (hT : ZT S) (hR : RG x0 SZ S) (r_x0 : zK S x0 = 2) (r_x1 : (0 : Int) ≤ x1.toInt ∧ x1.toInt ≤ (6 : Int)) (q0 : TZ SZ) (q1 : IVx S x0 x1.toInt) : Ok (d_X2_readMove x0 x1 S) (fun o => ZT o.2 ∧ RG x0 SZ o.2 ∧ ((0 : Int) ≤ o.1.toInt ∧ o.1.toInt ≤ (1 : Int)) ∧ ((o.1.toInt = 1 → IVx o.2 x0 x1.toInt))) := t_d_X2_readMove_0 hT hR r_x0 r_x1 q0 q1
theorem t_d_X2_readMoves_197 {SZ S : ZS} {self34 : Nat → Int32 → Int32 → ZS → Option (Int32 × ZS)} {N34 : Nat} (hself34 : ∀ (x0 : Nat) (x1 : Int32) (x2 : Int32) (S : ZS), ZT S → RG x0 SZ S → (zK S x0 = 2) → ((0 : Int) ≤ x1.toInt ∧ x1.toInt ≤ (6 : Int)) → ((0 : Int) ≤ x2.toInt ∧ x2.toInt ≤ (2001 : Int)) → (TZ SZ) → (IVx S x0 x1.toInt) → (2002 - x2.toInt) < (N34 : Int) → Ok (self34 x0 x1 x2 S) (fun o => ZT o.2 ∧ RG x0 SZ o.2 ∧ ((0 : Int) ≤ o.1.toInt ∧ o.1.toInt ≤ (1 : Int)) ∧ ((o.1.toInt = 1 → (zI o.2 4 x0).toInt ≤ 90000)))) {x0 : Nat} {x1 : Int32} {x2 : Int32} (hT : ZT S) (hR : RG x0 SZ S) (r_x0 : zK S x0 = 2) (r_x1 : (0 : Int) ≤ x1.toInt ∧ x1.toInt ≤ (6 : Int)) (r_x2 : (0 : Int) ≤ x2.toInt ∧ x2.toInt ≤ (2000 : Int)) (q0 : TZ SZ) (q1 : IVx S x0 x1.toInt) (m34 : (2002 - x2.toInt) ≤ (N34 : Int)) : Ok (d_X2_readMoves_197 self34 x0 x1 x2 S) (fun o => ZT o.2 ∧ RG x0 SZ o.2 ∧ ((0 : Int) ≤ o.1.toInt ∧ o.1.toInt ≤ (1 : Int)) ∧ ((o.1.toInt = 1 → (zI o.2 4 x0).toInt ≤ 90000))) := by
  unfold d_X2_readMoves_197
  have j20 := J_2_4 hT r_x0
  refine ok_bnd (fun v1 e21 => ?_)
  have t_v1 : v1.toInt = x2.toInt + 1 := ti_add e21 rfl (show (1 : Int32).toInt = 1 from rfl) (by omega) (by omega)
  exact hself34 x0 x1 v1 S hT hR r_x0 r_x1 (by omega) q0 q1 (by omega)
theorem t_d_X2_readMoves_187 {SZ S : ZS} {self34 : Nat → Int32 → Int32 → ZS → Option (Int32 × ZS)} {N34 : Nat} (hself34 : ∀ (x0 : Nat) (x1 : Int32) (x2 : Int32) (S : ZS), ZT S → RG x0 SZ S → (zK S x0 = 2) → ((0 : Int) ≤ x1.toInt ∧ x1.toInt ≤ (6 : Int)) → ((0 : Int) ≤ x2.toInt ∧ x2.toInt ≤ (2001 : Int)) → (TZ SZ) → (IVx S x0 x1.toInt) → (2002 - x2.toInt) < (N34 : Int) → Ok (self34 x0 x1 x2 S) (fun o => ZT o.2 ∧ RG x0 SZ o.2 ∧ ((0 : Int) ≤ o.1.toInt ∧ o.1.toInt ≤ (1 : Int)) ∧ ((o.1.toInt = 1 → (zI o.2 4 x0).toInt ≤ 90000)))) {x0 : Nat} {x1 : Int32} {x2 : Int32} (hT : ZT S) (hR : RG x0 SZ S) (r_x0 : zK S x0 = 2) (r_x1 : (0 : Int) ≤ x1.toInt ∧ x1.toInt ≤ (6 : Int)) (r_x2 : (0 : Int) ≤ x2.toInt ∧ x2.toInt ≤ (2000 : Int)) (q0 : TZ SZ) (q1 : IVx S x0 x1.toInt) (m34 : (2002 - x2.toInt) ≤ (N34 : Int)) : Ok (d_X2_readMoves_187 self34 x0 x1 x2 S) (fun o => ZT o.2 ∧ RG x0 SZ o.2 ∧ ((0 : Int) ≤ o.1.toInt ∧ o.1.toInt ≤ (1 : Int)) ∧ ((o.1.toInt = 1 → (zI o.2 4 x0).toInt ≤ 90000))) := by
  unfold d_X2_readMoves_187
  have j22 := J_2_4 hT r_x0
  refine ok_chk r_x0 ?_
  obtain ⟨⟨r2, S3⟩, h_r2, T_S3, B_S3, p_r2, p_r2_0⟩ := t_d_X2_readMove (x0 := x0) (x1 := x1) (SZ := S) hT (rg_0 x0 S) r_x0 r_x1 (hR.1.2.1 q0) q1
  replace T_S3 : ZT S3 := T_S3
  replace B_S3 : RG x0 S S3 := B_S3
  have R_S3 : RG x0 SZ S3 := rg_t hR B_S3
  dsimp only at p_r2 p_r2_0
  refine ok_cal2R h_r2 ?_
  have g_S3 := (fz_X2_readMove h_r2 hT.2.2.2.2.1).2.2
  refine ok_if (fun c23 => ?_) (fun c23 => ?_)
  ·
    replace c23 := ti_eqP (a := r2) (b := (0 : Int32)) c23 rfl (show (0 : Int32).toInt = 0 from rfl)
    refine ok_chk (by decide) ?_
    exact ok_ret ⟨T_S3, R_S3, (show (0 : Int) ≤ (0 : Int32).toInt ∧ (0 : Int32).toInt ≤ (1 : Int) from (by decide)), (by show ((0 : Int32).toInt = 1 → (zI S3 4 x0).toInt ≤ 90000); intro h9; have z9 : (0 : Int32).toInt = 0 := rfl; omega)⟩
  ·
    replace c23 := ti_eqN (a := r2) (b := (0 : Int32)) c23 rfl (show (0 : Int32).toInt = 0 from rfl)
    exact t_d_X2_readMoves_197 (S := S3) hself34 (x0 := x0) (x1 := x1) (x2 := x2) T_S3 R_S3 ((g_S3 x0 (lt18 r_x0 (by decide))).1.trans r_x0) r_x1 r_x2 q0 (p_r2_0 (by omega)) m34
theorem t_d_X2_readMoves_128 {SZ S : ZS} {self34 : Nat → Int32 → Int32 → ZS → Option (Int32 × ZS)} {N34 : Nat} (hself34 : ∀ (x0 : Nat) (x1 : Int32) (x2 : Int32) (S : ZS), ZT S → RG x0 SZ S → (zK S x0 = 2) → ((0 : Int) ≤ x1.toInt ∧ x1.toInt ≤ (6 : Int)) → ((0 : Int) ≤ x2.toInt ∧ x2.toInt ≤ (2001 : Int)) → (TZ SZ) → (IVx S x0 x1.toInt) → (2002 - x2.toInt) < (N34 : Int) → Ok (self34 x0 x1 x2 S) (fun o => ZT o.2 ∧ RG x0 SZ o.2 ∧ ((0 : Int) ≤ o.1.toInt ∧ o.1.toInt ≤ (1 : Int)) ∧ ((o.1.toInt = 1 → (zI o.2 4 x0).toInt ≤ 90000)))) {x0 : Nat} {x1 : Int32} {x2 : Int32} {x3 : Int32} (hT : ZT S) (hR : RG x0 SZ S) (r_x0 : zK S x0 = 2) (r_x1 : (0 : Int) ≤ x1.toInt ∧ x1.toInt ≤ (6 : Int)) (r_x2 : (0 : Int) ≤ x2.toInt ∧ x2.toInt ≤ (2000 : Int)) (r_x3 : (0 : Int) ≤ x3.toInt ∧ x3.toInt ≤ (1 : Int)) (q0 : TZ SZ) (q1 : IVx S x0 x1.toInt) (m34 : (2002 - x2.toInt) ≤ (N34 : Int)) : Ok (d_X2_readMoves_128 self34 x0 x1 x2 x3 S) (fun o => ZT o.2 ∧ RG x0 SZ o.2 ∧ ((0 : Int) ≤ o.1.toInt ∧ o.1.toInt ≤ (1 : Int)) ∧ ((o.1.toInt = 1 → (zI o.2 4 x0).toInt ≤ 90000))) := by
  unfold d_X2_readMoves_128
  have j24 := J_2_4 hT r_x0
  refine ok_if (fun c25 => ?_) (fun c25 => ?_)
  ·
    replace c25 := ti_eqP (a := x3) (b := (0 : Int32)) c25 rfl (show (0 : Int32).toInt = 0 from rfl)
    exact t_d_X2_readMoves_187 (S := S) hself34 (x0 := x0) (x1 := x1) (x2 := x2) hT hR r_x0 r_x1 r_x2 q0 q1 m34
  ·
    replace c25 := ti_eqN (a := x3) (b := (0 : Int32)) c25 rfl (show (0 : Int32).toInt = 0 from rfl)
    refine ok_if (fun c26 => ?_) (fun c26 => ?_)
    ·
      replace c26 := ti_leP (a := x1) (b := (0 : Int32)) c26 rfl (show (0 : Int32).toInt = 0 from rfl)
      exact t_d_X2_readMoves_187 (S := S) hself34 (x0 := x0) (x1 := x1) (x2 := x2) hT hR r_x0 r_x1 r_x2 q0 q1 m34
    ·
      replace c26 := ti_leN (a := x1) (b := (0 : Int32)) c26 rfl (show (0 : Int32).toInt = 0 from rfl)
      refine ok_chk r_x0 ?_
      obtain ⟨b1, p_b1, k_b1, c_b1⟩ := T_2_2 hT r_x0
      have rl_b1 := rL_ge b1
      refine ok_calR p_b1 ?_
      refine ok_chk r_x0 ?_
      refine ok_chk k_b1 ?_
      have j27 := J61_2 hT k_b1 c_b1
      obtain ⟨r2, h_r2, p_r2⟩ := roz (t_f_X6_at (x0 := b1) (x1 := (zI S 4 x0)) hT k_b1)
      dsimp only at p_r2
      refine ok_calR h_r2 ?_
      refine ok_chk ⟨rfl, rfl⟩ ?_
      refine ok_if (fun c28 => ?_) (fun c28 => ?_)
      ·
        replace c28 := ti_eqP (a := r2) (b := (41 : Int32)) c28 rfl (show (41 : Int32).toInt = 41 from rfl)
        refine ok_bnd (fun v3 e29 => ?_)
        have t_v3 : v3.toInt = x1.toInt + (-1) := ti_add e29 rfl (show (-1 : Int32).toInt = -1 from rfl) (by omega) (by omega)
        refine ok_chk r_x0 ?_
        refine ok_bnd (fun v4 e30 => ?_)
        have t_v4 : v4.toInt = (zI S 4 x0).toInt + 1 := ti_add e30 rfl (show (1 : Int32).toInt = 1 from rfl) (by omega) (by omega)
        refine ok_chk r_x0 ?_
        refine ok_bnd (fun S5 e31 => ?_)
        have T_S5 : ZT S5 := e31.symm ▸ zt_I hT r_x0 (by decide) (show (0 : Int) ≤ v4.toInt ∧ v4.toInt ≤ (90100 : Int) from (by omega))
        have kE_S5 : zK S5 = zK S := by rw [e31]; rfl
        have nE_S5 : zN S5 = zN S := by rw [e31]; rfl
        have A_S5 : A7 S S5 := a7_I (a7_0 S) e31 r_x0 (by decide)
        have R_S5 : RG x0 SZ S5 := rg_I hR hT r_x0 e31 (by decide)
        have : (zI S5 4 x0).toInt = v4.toInt := by rw [e31]; exact (congrArg Int32.toInt (zI_self _ _ _ _)).trans rfl
        have iv5 := iv_fr hT r_x0 (iv_le q1 (show v3.toInt ≤ x1.toInt by omega)) A_S5 (frz_I (W := [(2, 4)]) (V := []) (B := []) frz_0 r_x0 e31 (List.mem_singleton.2 rfl)) (by decide)
        refine ok_chk ((congrFun kE_S5 x0).trans r_x0) ?_
        obtain ⟨b6, p_b6, k_b6⟩ := T_2_3 T_S5 ((congrFun kE_S5 x0).trans r_x0)
        have lo_b6 := M_2_3 T_S5 ((congrFun kE_S5 x0).trans r_x0) p_b6
        refine ok_calR p_b6 ?_
        refine ok_chk ((congrFun kE_S5 x0).trans r_x0) ?_
        obtain ⟨b7, p_b7, k_b7, n_b7⟩ := T_2_9 T_S5 ((congrFun kE_S5 x0).trans r_x0)
        refine ok_calR p_b7 ?_
        refine ok_chk k_b7 ?_
        refine ok_chk (ti_inN (v := v3) (n := 7) n_b7 (by omega) (by omega)) ?_
        refine ok_bnd (fun v8 e32 => ?_)
        refine ok_chk k_b6 ?_
        obtain ⟨r9, h_r9, p_r9⟩ := roz (t_f_X1_at (x0 := b6) (x1 := v8) T_S5 k_b6)
        dsimp only at p_r9
        refine ok_calR h_r9 ?_
        refine ok_chk ⟨rfl, rfl⟩ ?_
        refine ok_chk ((congrFun kE_S5 x0).trans r_x0) ?_
        obtain ⟨⟨r11, S12⟩, h_r11, T_S12, B_S12, p_r11⟩ := t_d_X2_readRemarks (x0 := x0) (x1 := r9) (SZ := S5) T_S5 (rp_0 S5) ((congrFun kE_S5 x0).trans r_x0) p_r9.1
        replace T_S12 : ZT S12 := T_S12
        replace B_S12 : RP S5 S12 := B_S12
        have A_S12 : A7 S5 S12 := B_S12.2.2
        have R_S12 : RG x0 SZ S12 := rg_d R_S5 T_S5 B_S12 (fz_X2_readRemarks h_r11) (by decide)
        dsimp only at p_r11
        refine ok_cal2R h_r11 ?_
        have g_S12 := (fz_X2_readRemarks h_r11 T_S5.2.2.2.2.1).2.2
        have iv12 := iv_fr T_S5 ((congrFun kE_S5 x0).trans r_x0) iv5 A_S12 (fz_X2_readRemarks h_r11) (by decide)
        refine ok_if (fun c33 => ?_) (fun c33 => ?_)
        ·
          replace c33 := ti_eqP (a := r11) (b := (0 : Int32)) c33 rfl (show (0 : Int32).toInt = 0 from rfl)
          refine ok_chk (by decide) ?_
          exact ok_ret ⟨T_S12, R_S12, (show (0 : Int) ≤ (0 : Int32).toInt ∧ (0 : Int32).toInt ≤ (1 : Int) from (by decide)), (by show ((0 : Int32).toInt = 1 → (zI S12 4 x0).toInt ≤ 90000); intro h9; have z9 : (0 : Int32).toInt = 0 := rfl; omega)⟩
        ·
          replace c33 := ti_eqN (a := r11) (b := (0 : Int32)) c33 rfl (show (0 : Int32).toInt = 0 from rfl)
          exact t_d_X2_readMoves_197 (S := S12) hself34 (x0 := x0) (x1 := v3) (x2 := x2) T_S12 R_S12 ((g_S12 x0 (lt18 ((congrFun kE_S5 x0).trans r_x0) (by decide))).1.trans ((congrFun kE_S5 x0).trans r_x0)) (by omega) r_x2 q0 iv12 m34
      ·
        replace c28 := ti_eqN (a := r2) (b := (41 : Int32)) c28 rfl (show (41 : Int32).toInt = 41 from rfl)
        exact t_d_X2_readMoves_187 (S := S) hself34 (x0 := x0) (x1 := x1) (x2 := x2) hT hR r_x0 r_x1 r_x2 q0 q1 m34
theorem t_d_X2_readMoves_80 {SZ S : ZS} {self34 : Nat → Int32 → Int32 → ZS → Option (Int32 × ZS)} {N34 : Nat} (hself34 : ∀ (x0 : Nat) (x1 : Int32) (x2 : Int32) (S : ZS), ZT S → RG x0 SZ S → (zK S x0 = 2) → ((0 : Int) ≤ x1.toInt ∧ x1.toInt ≤ (6 : Int)) → ((0 : Int) ≤ x2.toInt ∧ x2.toInt ≤ (2001 : Int)) → (TZ SZ) → (IVx S x0 x1.toInt) → (2002 - x2.toInt) < (N34 : Int) → Ok (self34 x0 x1 x2 S) (fun o => ZT o.2 ∧ RG x0 SZ o.2 ∧ ((0 : Int) ≤ o.1.toInt ∧ o.1.toInt ≤ (1 : Int)) ∧ ((o.1.toInt = 1 → (zI o.2 4 x0).toInt ≤ 90000)))) {x0 : Nat} {x1 : Int32} {x2 : Int32} {x3 : Int32} (hT : ZT S) (hR : RG x0 SZ S) (r_x0 : zK S x0 = 2) (r_x1 : (0 : Int) ≤ x1.toInt ∧ x1.toInt ≤ (6 : Int)) (r_x2 : (0 : Int) ≤ x2.toInt ∧ x2.toInt ≤ (2000 : Int)) (r_x3 : (0 : Int) ≤ x3.toInt ∧ x3.toInt ≤ (1 : Int)) (q0 : TZ SZ) (q1 : IVx S x0 x1.toInt) (q2 : x3.toInt = 0 ∨ (∀ b8 b9, zP S 8 x0 = some b8 → zP S 9 x0 = some b9 → zA S b9 x1.toInt.toNat ≠ zA S b8 x1.toInt.toNat)) (m34 : (2002 - x2.toInt) ≤ (N34 : Int)) : Ok (d_X2_readMoves_80 self34 x0 x1 x2 x3 S) (fun o => ZT o.2 ∧ RG x0 SZ o.2 ∧ ((0 : Int) ≤ o.1.toInt ∧ o.1.toInt ≤ (1 : Int)) ∧ ((o.1.toInt = 1 → (zI o.2 4 x0).toInt ≤ 90000))) := by
  unfold d_X2_readMoves_80
  have j34 := J_2_4 hT r_x0
  refine ok_if (fun c35 => ?_) (fun c35 => ?_)
  ·
    replace c35 := ti_eqP (a := x3) (b := (0 : Int32)) c35 rfl (show (0 : Int32).toInt = 0 from rfl)
    exact t_d_X2_readMoves_128 (S := S) hself34 (x0 := x0) (x1 := x1) (x2 := x2) (x3 := x3) hT hR r_x0 r_x1 r_x2 r_x3 q0 q1 m34
  ·
    replace c35 := ti_eqN (a := x3) (b := (0 : Int32)) c35 rfl (show (0 : Int32).toInt = 0 from rfl)
    refine ok_chk r_x0 ?_
    obtain ⟨b1, p_b1, k_b1, c_b1⟩ := T_2_2 hT r_x0
    have rl_b1 := rL_ge b1
    refine ok_calR p_b1 ?_
    refine ok_chk r_x0 ?_
    refine ok_chk k_b1 ?_
    have j36 := J61_2 hT k_b1 c_b1
    obtain ⟨r2, h_r2, p_r2⟩ := roz (t_f_X6_at (x0 := b1) (x1 := (zI S 4 x0)) hT k_b1)
    dsimp only at p_r2
    refine ok_calR h_r2 ?_
    refine ok_chk ⟨rfl, rfl⟩ ?_
    refine ok_if (fun c37 => ?_) (fun c37 => ?_)
    ·
      replace c37 := ti_eqP (a := r2) (b := (40 : Int32)) c37 rfl (show (40 : Int32).toInt = 40 from rfl)
      refine ok_if (fun c38 => ?_) (fun c38 => ?_)
      ·
        replace c38 := ti_ltP (a := x1) (b := (6 : Int32)) c38 rfl (show (6 : Int32).toInt = 6 from rfl)
        refine ok_bnd (fun v3 e39 => ?_)
        have t_v3 : v3.toInt = x1.toInt + 1 := ti_add e39 rfl (show (1 : Int32).toInt = 1 from rfl) (by omega) (by omega)
        refine ok_chk r_x0 ?_
        obtain ⟨⟨r4, S4⟩, h_r4, T_S4, -⟩ := t_f_X2_openLine (x0 := x0) (x1 := v3) hT r_x0 (by omega) (by omega)
        replace T_S4 : ZT S4 := T_S4
        refine ok_calR h_r4 ?_
        have q_S4 := fq_X2_openLine h_r4
        have kE_S4 : zK S4 = zK S := q_S4.2.2.1
        have nE_S4 : zN S4 = zN S := q_S4.2.2.2.1
        have R_S4 : RG x0 SZ S4 := rg_f hR hT q_S4 (fz_X2_openLine h_r4) (by decide) (xr_open hT h_r4)
        refine ok_chk ⟨q_S4.1, q_S4.2.1⟩ ?_
        exact t_d_X2_readMoves_197 (S := S4) hself34 (x0 := x0) (x1 := v3) (x2 := x2) T_S4 R_S4 ((congrFun kE_S4 x0).trans r_x0) (by omega) r_x2 q0 (iv_open hT r_x0 q1 (hR.1.2.1 q0) (by omega) (by omega) (by omega) (q2.resolve_left (by omega)) h_r4) m34
      ·
        replace c38 := ti_ltN (a := x1) (b := (6 : Int32)) c38 rfl (show (6 : Int32).toInt = 6 from rfl)
        refine ok_chk r_x0 ?_
        refine ok_chk r_x0 ?_
        obtain ⟨⟨r5, S5⟩, h_r5, T_S5, A_S5, p_r5⟩ := t_f_X2_refuse (x0 := x0) (x1 := (8 : Int32)) (x2 := (zI S 4 x0)) (SZ := S) hT (a7_0 S) r_x0
        replace T_S5 : ZT S5 := T_S5
        replace A_S5 : A7 S S5 := A_S5
        dsimp only at p_r5
        refine ok_calR h_r5 ?_
        have q_S5 := fq_X2_refuse h_r5
        have kE_S5 : zK S5 = zK S := q_S5.2.2.1
        have nE_S5 : zN S5 = zN S := q_S5.2.2.2.1
        have R_S5 : RG x0 SZ S5 := rg_f hR hT q_S5 (fz_X2_refuse h_r5) (by decide) A_S5.2
        have : (zI S5 4 x0).toInt = (zI S 4 x0).toInt := congrArg Int32.toInt ((((fz_X2_refuse h_r5) hT.2.2.2.2.1).2.2 x0 (by rw [r_x0]; decide)).2.2.1 4 (by rw [r_x0]; decide))
        refine ok_chk ⟨q_S5.1, q_S5.2.1⟩ ?_
        refine ok_chk (nar_b (v := r5) (by omega) (by omega)) ?_
        exact ok_ret ⟨T_S5, R_S5, (show (0 : Int) ≤ r5.toInt ∧ r5.toInt ≤ (1 : Int) from (by omega)), (by show (r5.toInt = 1 → (zI S5 4 x0).toInt ≤ 90000); intro h9; have z9 : (0 : Int32).toInt = 0 := rfl; omega)⟩
    ·
      replace c37 := ti_eqN (a := r2) (b := (40 : Int32)) c37 rfl (show (40 : Int32).toInt = 40 from rfl)
      exact t_d_X2_readMoves_128 (S := S) hself34 (x0 := x0) (x1 := x1) (x2 := x2) (x3 := x3) hT hR r_x0 r_x1 r_x2 r_x3 q0 q1 m34
theorem t_d_X2_readMoves_65 {SZ S : ZS} {self34 : Nat → Int32 → Int32 → ZS → Option (Int32 × ZS)} {N34 : Nat} (hself34 : ∀ (x0 : Nat) (x1 : Int32) (x2 : Int32) (S : ZS), ZT S → RG x0 SZ S → (zK S x0 = 2) → ((0 : Int) ≤ x1.toInt ∧ x1.toInt ≤ (6 : Int)) → ((0 : Int) ≤ x2.toInt ∧ x2.toInt ≤ (2001 : Int)) → (TZ SZ) → (IVx S x0 x1.toInt) → (2002 - x2.toInt) < (N34 : Int) → Ok (self34 x0 x1 x2 S) (fun o => ZT o.2 ∧ RG x0 SZ o.2 ∧ ((0 : Int) ≤ o.1.toInt ∧ o.1.toInt ≤ (1 : Int)) ∧ ((o.1.toInt = 1 → (zI o.2 4 x0).toInt ≤ 90000)))) {x0 : Nat} {x1 : Int32} {x2 : Int32} {t0 : Int32} (hT : ZT S) (hR : RG x0 SZ S) (r_x0 : zK S x0 = 2) (r_x1 : (0 : Int) ≤ x1.toInt ∧ x1.toInt ≤ (6 : Int)) (r_x2 : (0 : Int) ≤ x2.toInt ∧ x2.toInt ≤ (2000 : Int)) (r_t0 : (0 : Int) ≤ t0.toInt ∧ t0.toInt ≤ (1 : Int)) (q0 : TZ SZ) (q1 : IVx S x0 x1.toInt) (q2 : t0.toInt = 0 ∨ (∀ b8 b9, zP S 8 x0 = some b8 → zP S 9 x0 = some b9 → zA S b9 x1.toInt.toNat ≠ zA S b8 x1.toInt.toNat)) (m34 : (2002 - x2.toInt) ≤ (N34 : Int)) : Ok (d_X2_readMoves_65 self34 x0 x1 x2 t0 S) (fun o => ZT o.2 ∧ RG x0 SZ o.2 ∧ ((0 : Int) ≤ o.1.toInt ∧ o.1.toInt ≤ (1 : Int)) ∧ ((o.1.toInt = 1 → (zI o.2 4 x0).toInt ≤ 90000))) := by
  unfold d_X2_readMoves_65
  have j40 := J_2_4 hT r_x0
  refine ok_if (fun c41 => ?_) (fun c41 => ?_)
  ·
    replace c41 := ti_eqP (a := x1) (b := (0 : Int32)) c41 rfl (show (0 : Int32).toInt = 0 from rfl)
    refine ok_chk r_x0 ?_
    obtain ⟨r1, h_r1, p_r1⟩ := roz (t_f_X2_resultHere (x0 := x0) hT r_x0)
    dsimp only at p_r1
    refine ok_calR h_r1 ?_
    have rh := rh_v hT r_x0 h_r1
    refine ok_chk ⟨rfl, rfl⟩ ?_
    refine ok_if (fun c42 => ?_) (fun c42 => ?_)
    ·
      replace c42 := ti_eqP (a := r1) (b := (-1 : Int32)) c42 rfl (show (-1 : Int32).toInt = -1 from rfl)
      exact t_d_X2_readMoves_80 (S := S) hself34 (x0 := x0) (x1 := x1) (x2 := x2) (x3 := t0) hT hR r_x0 r_x1 r_x2 r_t0 q0 q1 q2 m34
    ·
      replace c42 := ti_eqN (a := r1) (b := (-1 : Int32)) c42 rfl (show (-1 : Int32).toInt = -1 from rfl)
      refine ok_chk (by decide) ?_
      exact ok_ret ⟨hT, hR, (show (0 : Int) ≤ (1 : Int32).toInt ∧ (1 : Int32).toInt ≤ (1 : Int) from (by decide)), (by show ((1 : Int32).toInt = 1 → (zI S 4 x0).toInt ≤ 90000); exact fun _ => rh (by omega))⟩
  ·
    replace c41 := ti_eqN (a := x1) (b := (0 : Int32)) c41 rfl (show (0 : Int32).toInt = 0 from rfl)
    exact t_d_X2_readMoves_80 (S := S) hself34 (x0 := x0) (x1 := x1) (x2 := x2) (x3 := t0) hT hR r_x0 r_x1 r_x2 r_t0 q0 q1 q2 m34
theorem t_d_X2_readMoves_34s {SZ S : ZS} {self34 : Nat → Int32 → Int32 → ZS → Option (Int32 × ZS)} {N34 : Nat} (hself34 : ∀ (x0 : Nat) (x1 : Int32) (x2 : Int32) (S : ZS), ZT S → RG x0 SZ S → (zK S x0 = 2) → ((0 : Int) ≤ x1.toInt ∧ x1.toInt ≤ (6 : Int)) → ((0 : Int) ≤ x2.toInt ∧ x2.toInt ≤ (2001 : Int)) → (TZ SZ) → (IVx S x0 x1.toInt) → (2002 - x2.toInt) < (N34 : Int) → Ok (self34 x0 x1 x2 S) (fun o => ZT o.2 ∧ RG x0 SZ o.2 ∧ ((0 : Int) ≤ o.1.toInt ∧ o.1.toInt ≤ (1 : Int)) ∧ ((o.1.toInt = 1 → (zI o.2 4 x0).toInt ≤ 90000)))) {x0 : Nat} {x1 : Int32} {x2 : Int32} (hT : ZT S) (hR : RG x0 SZ S) (r_x0 : zK S x0 = 2) (r_x1 : (0 : Int) ≤ x1.toInt ∧ x1.toInt ≤ (6 : Int)) (r_x2 : (0 : Int) ≤ x2.toInt ∧ x2.toInt ≤ (2001 : Int)) (q0 : TZ SZ) (q1 : IVx S x0 x1.toInt) (m34 : (2002 - x2.toInt) ≤ (N34 : Int)) : Ok (d_X2_readMoves_34s self34 x0 x1 x2 S) (fun o => ZT o.2 ∧ RG x0 SZ o.2 ∧ ((0 : Int) ≤ o.1.toInt ∧ o.1.toInt ≤ (1 : Int)) ∧ ((o.1.toInt = 1 → (zI o.2 4 x0).toInt ≤ 90000))) := by
  unfold d_X2_readMoves_34s
  have j43 := J_2_4 hT r_x0
  refine ok_if (fun c44 => ?_) (fun c44 => ?_)
  ·
    replace c44 := ti_ltP (a := (2000 : Int32)) (b := x2) c44 (show (2000 : Int32).toInt = 2000 from rfl) rfl
    refine ok_chk r_x0 ?_
    refine ok_chk r_x0 ?_
    obtain ⟨⟨r1, S1⟩, h_r1, T_S1, A_S1, p_r1⟩ := t_f_X2_refuse (x0 := x0) (x1 := (1 : Int32)) (x2 := (zI S 4 x0)) (SZ := S) hT (a7_0 S) r_x0
    replace T_S1 : ZT S1 := T_S1
    replace A_S1 : A7 S S1 := A_S1
    dsimp only at p_r1
    refine ok_calR h_r1 ?_
    have q_S1 := fq_X2_refuse h_r1
    have kE_S1 : zK S1 = zK S := q_S1.2.2.1
    have nE_S1 : zN S1 = zN S := q_S1.2.2.2.1
    have R_S1 : RG x0 SZ S1 := rg_f hR hT q_S1 (fz_X2_refuse h_r1) (by decide) A_S1.2
    have : (zI S1 4 x0).toInt = (zI S 4 x0).toInt := congrArg Int32.toInt ((((fz_X2_refuse h_r1) hT.2.2.2.2.1).2.2 x0 (by rw [r_x0]; decide)).2.2.1 4 (by rw [r_x0]; decide))
    refine ok_chk ⟨q_S1.1, q_S1.2.1⟩ ?_
    refine ok_chk (nar_b (v := r1) (by omega) (by omega)) ?_
    exact ok_ret ⟨T_S1, R_S1, (show (0 : Int) ≤ r1.toInt ∧ r1.toInt ≤ (1 : Int) from (by omega)), (by show (r1.toInt = 1 → (zI S1 4 x0).toInt ≤ 90000); intro h9; have z9 : (0 : Int32).toInt = 0 := rfl; omega)⟩
  ·
    replace c44 := ti_ltN (a := (2000 : Int32)) (b := x2) c44 (show (2000 : Int32).toInt = 2000 from rfl) rfl
    refine ok_chk r_x0 ?_
    obtain ⟨⟨r2, S2⟩, h_r2, T_S2, A_S2, -⟩ := t_f_X2_skipBlanks (x0 := x0) (SZ := S) hT (a7_0 S) r_x0
    replace T_S2 : ZT S2 := T_S2
    replace A_S2 : A7 S S2 := A_S2
    refine ok_calR h_r2 ?_
    have q_S2 := fq_X2_skipBlanks h_r2
    have kE_S2 : zK S2 = zK S := q_S2.2.2.1
    have nE_S2 : zN S2 = zN S := q_S2.2.2.2.1
    have R_S2 : RG x0 SZ S2 := rg_f hR hT q_S2 (fz_X2_skipBlanks h_r2) (by decide) A_S2.2
    have iv2 := iv_fr hT r_x0 q1 A_S2 (fz_X2_skipBlanks h_r2) (by decide)
    refine ok_chk ⟨q_S2.1, q_S2.2.1⟩ ?_
    refine ok_chk ((congrFun kE_S2 x0).trans r_x0) ?_
    obtain ⟨b3, p_b3, k_b3, n_b3⟩ := T_2_9 T_S2 ((congrFun kE_S2 x0).trans r_x0)
    refine ok_calR p_b3 ?_
    refine ok_chk k_b3 ?_
    refine ok_chk (ti_inN (v := x1) (n := 7) n_b3 (by omega) (by omega)) ?_
    refine ok_bnd (fun v4 e45 => ?_)
    refine ok_chk ((congrFun kE_S2 x0).trans r_x0) ?_
    obtain ⟨b5, p_b5, k_b5, n_b5⟩ := T_2_8 T_S2 ((congrFun kE_S2 x0).trans r_x0)
    refine ok_calR p_b5 ?_
    refine ok_chk k_b5 ?_
    refine ok_chk (ti_inN (v := x1) (n := 7) n_b5 (by omega) (by omega)) ?_
    refine ok_bnd (fun v6 e46 => ?_)
    have ne6 : v4.toInt ≠ v6.toInt → (∀ b8 b9, zP S2 8 x0 = some b8 → zP S2 9 x0 = some b9 → zA S2 b9 x1.toInt.toNat ≠ zA S2 b8 x1.toInt.toNat) := fun hh b8 b9 h8 h9 h => by rw [p_b5] at h8; rw [p_b3] at h9; cases h8; cases h9; exact hh (by rw [e45, e46]; exact congrArg Int32.toInt h)
    refine ok_if (fun c47 => ?_) (fun c47 => ?_)
    ·
      replace c47 := ti_eqP (a := v4) (b := v6) c47 rfl rfl
      exact t_d_X2_readMoves_65 (S := S2) hself34 (x0 := x0) (x1 := x1) (x2 := x2) (t0 := (0 : Int32)) T_S2 R_S2 ((congrFun kE_S2 x0).trans r_x0) r_x1 (by omega) (by decide) q0 iv2 (Or.inl rfl) m34
    ·
      replace c47 := ti_eqN (a := v4) (b := v6) c47 rfl rfl
      exact t_d_X2_readMoves_65 (S := S2) hself34 (x0 := x0) (x1 := x1) (x2 := x2) (t0 := (1 : Int32)) T_S2 R_S2 ((congrFun kE_S2 x0).trans r_x0) r_x1 (by omega) (by decide) q0 iv2 (Or.inr (ne6 (by omega))) m34
theorem t_d_X2_readMoves_34 {SZ : ZS} : ∀ (n : Nat) (x0 : Nat) (x1 : Int32) (x2 : Int32) (S : ZS), ZT S → RG x0 SZ S → (zK S x0 = 2) → ((0 : Int) ≤ x1.toInt ∧ x1.toInt ≤ (6 : Int)) → ((0 : Int) ≤ x2.toInt ∧ x2.toInt ≤ (2001 : Int)) → (TZ SZ) → (IVx S x0 x1.toInt) → (2002 - x2.toInt) < (n : Int) → Ok (d_X2_readMoves_34  n x0 x1 x2 S) (fun o => ZT o.2 ∧ RG x0 SZ o.2 ∧ ((0 : Int) ≤ o.1.toInt ∧ o.1.toInt ≤ (1 : Int)) ∧ ((o.1.toInt = 1 → (zI o.2 4 x0).toInt ≤ 90000))) := by
  intro n
  induction n with
  | zero => intro x0 x1 x2 S hT hR g0 g1 g2 g3 g4  hm; exfalso; omega
  | succ n ih =>
    intro x0 x1 x2 S hT hR g0 g1 g2 g3 g4  hm
    exact t_d_X2_readMoves_34s (N34 := n)  ih hT hR g0 g1 g2 g3 g4  (by omega)
theorem t_d_X2_readMoves_0 {SZ S : ZS} {x0 : Nat} (hT : ZT S) (hR : RG x0 SZ S) (r_x0 : zK S x0 = 2) (q0 : TZ SZ) : Ok (d_X2_readMoves_0 x0 S) (fun o => ZT o.2 ∧ RG x0 SZ o.2 ∧ ((0 : Int) ≤ o.1.toInt ∧ o.1.toInt ≤ (1 : Int)) ∧ ((o.1.toInt = 1 → (zI o.2 4 x0).toInt ≤ 90000))) := by
  unfold d_X2_readMoves_0
  have j48 := J_2_4 hT r_x0
  refine ok_chk r_x0 ?_
  obtain ⟨b1, p_b1, k_b1, n_b1⟩ := T_2_8 hT r_x0
  refine ok_calR p_b1 ?_
  refine ok_chk k_b1 ?_
  refine ok_chk (ti_inN (n := 7) n_b1 (by decide) (by decide)) ?_
  refine ok_bnd (fun S2 e49 => ?_)
  have T_S2 : ZT S2 := e49.symm ▸ zt_A hT k_b1
  have kE_S2 : zK S2 = zK S := by rw [e49]; rfl
  have nE_S2 : zN S2 = zN S := by rw [e49]; rfl
  have R_S2 : RG x0 SZ S2 := rg_A hR hT e49 k_b1
  have : (zI S2 4 x0).toInt = (zI S 4 x0).toInt := by rw [e49]; rfl
  refine ok_chk ((congrFun kE_S2 x0).trans r_x0) ?_
  obtain ⟨b3, p_b3, k_b3, n_b3⟩ := T_2_9 T_S2 ((congrFun kE_S2 x0).trans r_x0)
  refine ok_calR p_b3 ?_
  refine ok_chk k_b3 ?_
  refine ok_chk (ti_inN (n := 7) n_b3 (by decide) (by decide)) ?_
  refine ok_bnd (fun S4 e50 => ?_)
  have T_S4 : ZT S4 := e50.symm ▸ zt_A T_S2 k_b3
  have kE_S4 : zK S4 = zK S2 := by rw [e50]; rfl
  have nE_S4 : zN S4 = zN S2 := by rw [e50]; rfl
  have R_S4 : RG x0 SZ S4 := rg_A R_S2 T_S2 e50 k_b3
  have : (zI S4 4 x0).toInt = (zI S2 4 x0).toInt := by rw [e50]; rfl
  have iv4 : IVx S4 x0 0 := iv_init hT r_x0 p_b1 e49 p_b3 e50
  refine ok_chk ((congrFun kE_S4 x0).trans ((congrFun kE_S2 x0).trans r_x0)) ?_
  obtain ⟨b5, p_b5, k_b5, n_b5⟩ := T_2_11 T_S4 ((congrFun kE_S4 x0).trans ((congrFun kE_S2 x0).trans r_x0))
  refine ok_calR p_b5 ?_
  refine ok_chk k_b5 ?_
  refine ok_chk (ti_inN (n := 7) n_b5 (by decide) (by decide)) ?_
  obtain ⟨b6, p_b6, k_b6⟩ := (T_S4.2.2.2.1 b5).1 k_b5 ((0 : Int32)).toNatClampNeg (by decide)
  refine ok_calR p_b6 ?_
  refine ok_chk ((congrFun kE_S4 x0).trans ((congrFun kE_S2 x0).trans r_x0)) ?_
  obtain ⟨b7, p_b7, k_b7⟩ := T_2_3 T_S4 ((congrFun kE_S4 x0).trans ((congrFun kE_S2 x0).trans r_x0))
  have lo_b7 := M_2_3 T_S4 ((congrFun kE_S4 x0).trans ((congrFun kE_S2 x0).trans r_x0)) p_b7
  refine ok_calR p_b7 ?_
  refine ok_chk k_b7 ?_
  obtain ⟨b8, p_b8, k_b8⟩ := T_1_0 T_S4 k_b7
  refine ok_calR p_b8 ?_
  refine ok_chk k_b6 ?_
  obtain ⟨⟨r9, S9⟩, h_r9, T_S9, A_S9, -⟩ := t_f_X0_copyFrom (x0 := b6) (x1 := b8) (SZ := S4) T_S4 (a7_0 S4) k_b6 k_b8
  replace T_S9 : ZT S9 := T_S9
  replace A_S9 : A7 S4 S9 := A_S9
  refine ok_calR h_r9 ?_
  have q_S9 := fq_X0_copyFrom h_r9
  have kE_S9 : zK S9 = zK S4 := q_S9.2.2.1
  have nE_S9 : zN S9 = zN S4 := q_S9.2.2.2.1
  have R_S9 : RG x0 SZ S9 := rg_f R_S4 T_S4 q_S9 (fz_X0_copyFrom h_r9) (by decide) A_S9.2
  have : (zI S9 4 x0).toInt = (zI S4 4 x0).toInt := congrArg Int32.toInt ((((fz_X0_copyFrom h_r9) T_S4.2.2.2.2.1).2.2 x0 (by rw [((congrFun kE_S4 x0).trans ((congrFun kE_S2 x0).trans r_x0))]; decide)).2.2.1 4 (by rw [((congrFun kE_S4 x0).trans ((congrFun kE_S2 x0).trans r_x0))]; decide))
  have iv9 := iv_fr T_S4 ((congrFun kE_S4 x0).trans ((congrFun kE_S2 x0).trans r_x0)) iv4 A_S9 (fz_X0_copyFrom h_r9) (by decide)
  refine ok_chk ⟨q_S9.1, q_S9.2.1⟩ ?_
  exact t_d_X2_readMoves_34   mFuel x0 (0 : Int32) (0 : Int32) S9 T_S9 R_S9 ((congrFun kE_S9 x0).trans ((congrFun kE_S4 x0).trans ((congrFun kE_S2 x0).trans r_x0))) (by decide) (by decide) q0 (show IVx S9 x0 (0 : Int32).toInt from iv9) (by show _ < ((200000 : Nat) : Int); have z0 : (0 : Int32).toInt = 0 := rfl; have z1 : (0 : Int32).toInt = 0 := rfl; omega)
theorem t_d_X2_readMoves {SZ S : ZS} {x0 : Nat} (hT : ZT S) (hR : RG x0 SZ S) (r_x0 : zK S x0 = 2) (q0 : TZ SZ) : Ok (d_X2_readMoves x0 S) (fun o => ZT o.2 ∧ RG x0 SZ o.2 ∧ ((0 : Int) ≤ o.1.toInt ∧ o.1.toInt ≤ (1 : Int)) ∧ ((o.1.toInt = 1 → (zI o.2 4 x0).toInt ≤ 90000))) := t_d_X2_readMoves_0 hT hR r_x0 q0
end
section
noncomputable def dgf : Nat → Int → Int
  | 0, _ => 0
  | n + 1, x => if x ≤ 0 then 0 else 1 + dgf n (x / 10)
theorem dgf_b : ∀ (n : Nat) (x : Int), 0 ≤ dgf n x ∧ dgf n x ≤ (n : Int)
  | 0, _ => ⟨Int.le_refl _, Int.le_refl _⟩
  | n + 1, x => by
    show 0 ≤ (if x ≤ 0 then 0 else 1 + dgf n (x / 10)) ∧ (if x ≤ 0 then 0 else 1 + dgf n (x / 10)) ≤ ((n + 1 : Nat) : Int)
    have := dgf_b n (x / 10)
    split <;> omega
theorem dgf_s : ∀ (n : Nat) (x : Int), x < ((10 ^ n : Nat) : Int) → dgf (n + 1) x = dgf n x
  | 0, x, h => by
    have h : x < 1 := h
    show (if x ≤ 0 then 0 else 1 + dgf 0 (x / 10)) = 0
    rw [if_pos (by omega)]
  | n + 1, x, h => by
    have h : x < ((10 ^ n * 10 : Nat) : Int) := h
    show (if x ≤ 0 then 0 else 1 + dgf (n + 1) (x / 10)) = (if x ≤ 0 then 0 else 1 + dgf n (x / 10))
    by_cases e : x ≤ 0
    · rw [if_pos e, if_pos e]
    · rw [if_neg e, if_neg e, dgf_s n (x / 10) (by omega)]
noncomputable def dg (x : Int) : Int := dgf 10 x
theorem dg_s {x : Int} (h : 0 < x) (h2 : x ≤ 2147483647) : dg x = 1 + dg (x / 10) := by
  have e : dgf 10 x = if x ≤ 0 then 0 else 1 + dgf 9 (x / 10) := rfl
  unfold dg
  rw [e, if_neg (by omega), dgf_s 9 (x / 10) (by show x / 10 < 1000000000; omega)]
theorem dg_b (x : Int) : 0 ≤ dg x ∧ dg x ≤ 10 ∧ (x ≤ 999 → dg x ≤ 3) := by
  have h := dgf_b 10 x
  refine ⟨h.1, h.2, fun hx => ?_⟩
  unfold dg
  rw [dgf_s 9 x (by show x < 1000000000; omega), dgf_s 8 x (by show x < 100000000; omega), dgf_s 7 x (by show x < 10000000; omega), dgf_s 6 x (by show x < 1000000; omega), dgf_s 5 x (by show x < 100000; omega), dgf_s 4 x (by show x < 10000; omega), dgf_s 3 x (by show x < 1000; omega)]
  exact (dgf_b 3 x).2
theorem dv_ge {x1 x2 v : Int32} (e : v = x1 / x2) (h : 1 ≤ x2.toInt) : 10 ≤ v.toInt → 10 * x2.toInt ≤ x1.toInt := by
  intro h10
  by_cases h0 : 0 ≤ x1.toInt
  · have t : v.toInt = x1.toInt / x2.toInt := ti_div e rfl rfl h0 (by omega)
    have h3 : x2.toInt * (x1.toInt / x2.toInt) ≤ x1.toInt := Int.mul_ediv_self_le (by omega)
    rw [t] at h10
    have h4 : x2.toInt * 10 ≤ x2.toInt * (x1.toInt / x2.toInt) := Int.mul_le_mul_of_nonneg_left h10 (by omega)
    omega
  · exfalso
    have ht : v.toInt = x1.toInt.tdiv x2.toInt := by
      rw [e, Int32.toInt_div]
      refine Int.bmod_eq_of_le ?_ ?_
      · have hx := Int32.le_toInt x1
        have h5 : x1.toInt ≤ x1.toInt.tdiv x2.toInt := by
          have h6 := Int.neg_tdiv (a := -x1.toInt) (b := x2.toInt)
          rw [Int.neg_neg] at h6
          rw [h6, Int.tdiv_eq_ediv_of_nonneg (by omega)]
          have h7 : (-x1.toInt) / x2.toInt ≤ -x1.toInt := Int.ediv_le_self _ (by omega)
          omega
        have : Int32.minValue.toInt = -2147483648 := rfl
        omega
      · have h8 : x1.toInt.tdiv x2.toInt ≤ 0 := by
          have h6 := Int.neg_tdiv (a := -x1.toInt) (b := x2.toInt)
          rw [Int.neg_neg] at h6
          rw [h6, Int.tdiv_eq_ediv_of_nonneg (by omega)]
          have h7 : 0 ≤ (-x1.toInt) / x2.toInt := Int.ediv_nonneg (by omega) (by omega)
          omega
        omega
    have h6 := Int.neg_tdiv (a := -x1.toInt) (b := x2.toInt)
    rw [Int.neg_neg] at h6
    rw [h6, Int.tdiv_eq_ediv_of_nonneg (by omega)] at ht
    have h7 : 0 ≤ (-x1.toInt) / x2.toInt := Int.ediv_nonneg (by omega) (by omega)
    omega
theorem t_d_X6_putText_2s {SZ S : ZS} {self2 : Nat → Nat → Int32 → ZS → Option (Int32 × ZS)} {N2 : Nat} (hself2 : ∀ (x0 : Nat) (x1 : Nat) (x2 : Int32) (S : ZS), ZT S → RP SZ S → (zK S x0 = 6) → (x1 < 29) → ((0 : Int) ≤ x2.toInt ∧ x2.toInt ≤ (30 : Int)) → (rL x0 = 90000) → ((zI SZ 1 x0).toInt + 30 ≤ 90000) → ((zI S 1 x0).toInt ≤ (zI SZ 1 x0).toInt + x2.toInt) → (x2.toInt ≤ ((zSl.getD x1 0 : Nat) : Int)) → (31 - x2.toInt) < (N2 : Int) → Ok (self2 x0 x1 x2 S) (fun o => ZT o.2 ∧ RP SZ o.2 ∧ ((zI o.2 1 x0).toInt ≤ (zI SZ 1 x0).toInt + ((zSl.getD x1 0 : Nat) : Int)))) {x0 : Nat} {x1 : Nat} {x2 : Int32} (hT : ZT S) (hR : RP SZ S) (r_x0 : zK S x0 = 6) (r_x1 : x1 < 29) (r_x2 : (0 : Int) ≤ x2.toInt ∧ x2.toInt ≤ (30 : Int)) (q0 : rL x0 = 90000) (q1 : (zI SZ 1 x0).toInt + 30 ≤ 90000) (q2 : (zI S 1 x0).toInt ≤ (zI SZ 1 x0).toInt + x2.toInt) (q3 : x2.toInt ≤ ((zSl.getD x1 0 : Nat) : Int)) (m2 : (31 - x2.toInt) ≤ (N2 : Int)) : Ok (d_X6_putText_2s self2 x0 x1 x2 S) (fun o => ZT o.2 ∧ RP SZ o.2 ∧ ((zI o.2 1 x0).toInt ≤ (zI SZ 1 x0).toInt + ((zSl.getD x1 0 : Nat) : Int))) := by
  unfold d_X6_putText_2s
  refine ok_chk (show x1 < zSn from r_x1) ?_
  obtain ⟨r1, h_r1, p_r1⟩ := roz (t_f_J0_length_8abf5 (x0 := x1) hT r_x1)
  dsimp only at p_r1
  refine ok_calR h_r1 ?_
  refine ok_chk ⟨rfl, rfl⟩ ?_
  refine ok_if (fun c1 => ?_) (fun c1 => ?_)
  ·
    replace c1 := ti_leP (a := r1) (b := x2) c1 rfl rfl
    exact ok_ret ⟨hT, hR, (by show (zI S 1 x0).toInt ≤ (zI SZ 1 x0).toInt + ((zSl.getD x1 0 : Nat) : Int); have z : (0 : Int32).toInt = 0 := rfl; omega)⟩
  ·
    replace c1 := ti_leN (a := r1) (b := x2) c1 rfl rfl
    refine ok_chk (show x1 < zSn from r_x1) ?_
    obtain ⟨r2, h_r2, p_r2⟩ := roz (t_f_J0_charAt_5068e (x0 := x1) (x1 := x2) hT r_x1 (by omega))
    dsimp only at p_r2
    refine ok_calR h_r2 ?_
    refine ok_chk ⟨rfl, rfl⟩ ?_
    refine ok_chk r_x0 ?_
    have j2 := J_6_1 hT r_x0
    obtain ⟨⟨r4, S5⟩, h_r4, T_S5, B_S5, p_r4_0, p_r4_1⟩ := t_d_X6_put (x0 := x0) (x1 := r2) (SZ := S) hT (rp_0 S) r_x0 (by omega) (by omega) (rc_ol q0)
    replace T_S5 : ZT S5 := T_S5
    replace B_S5 : RP S S5 := B_S5
    have R_S5 : RP SZ S5 := rp_t hR B_S5
    dsimp only at p_r4_0 p_r4_1
    refine ok_cal2R h_r4 ?_
    have g_S5 := (fz_X6_put h_r4 hT.2.2.2.2.1).2.2
    refine ok_bnd (fun v8 e3 => ?_)
    have t_v8 : v8.toInt = x2.toInt + 1 := ti_add e3 rfl (show (1 : Int32).toInt = 1 from rfl) (by omega) (by omega)
    have j4 := J_6_1 T_S5 ((g_S5 x0 (lt18 r_x0 (by decide))).1.trans r_x0)
    exact hself2 x0 x1 v8 S5 T_S5 R_S5 ((g_S5 x0 (lt18 r_x0 (by decide))).1.trans r_x0) r_x1 (by omega) q0 q1 (by omega) (by omega) (by omega)
theorem t_d_X6_putText_2 {SZ : ZS} : ∀ (n : Nat) (x0 : Nat) (x1 : Nat) (x2 : Int32) (S : ZS), ZT S → RP SZ S → (zK S x0 = 6) → (x1 < 29) → ((0 : Int) ≤ x2.toInt ∧ x2.toInt ≤ (30 : Int)) → (rL x0 = 90000) → ((zI SZ 1 x0).toInt + 30 ≤ 90000) → ((zI S 1 x0).toInt ≤ (zI SZ 1 x0).toInt + x2.toInt) → (x2.toInt ≤ ((zSl.getD x1 0 : Nat) : Int)) → (31 - x2.toInt) < (n : Int) → Ok (d_X6_putText_2  n x0 x1 x2 S) (fun o => ZT o.2 ∧ RP SZ o.2 ∧ ((zI o.2 1 x0).toInt ≤ (zI SZ 1 x0).toInt + ((zSl.getD x1 0 : Nat) : Int))) := by
  intro n
  induction n with
  | zero => intro x0 x1 x2 S hT hR g0 g1 g2 g3 g4 g5 g6  hm; exfalso; omega
  | succ n ih =>
    intro x0 x1 x2 S hT hR g0 g1 g2 g3 g4 g5 g6  hm
    exact t_d_X6_putText_2s (N2 := n)  ih hT hR g0 g1 g2 g3 g4 g5 g6  (by omega)
theorem t_d_X6_putText_0 {SZ S : ZS} {x0 : Nat} {x1 : Nat} (hT : ZT S) (hR : RP SZ S) (r_x0 : zK S x0 = 6) (r_x1 : x1 < 29) (q0 : SZ = S) (q1 : rL x0 = 90000) (q2 : (zI SZ 1 x0).toInt + 30 ≤ 90000) : Ok (d_X6_putText_0 x0 x1 S) (fun o => ZT o.2 ∧ RP SZ o.2 ∧ ((zI o.2 1 x0).toInt ≤ (zI SZ 1 x0).toInt + ((zSl.getD x1 0 : Nat) : Int))) := by
  unfold d_X6_putText_0
  have j5 := J_6_1 hT r_x0
  exact t_d_X6_putText_2   mFuel x0 x1 (0 : Int32) S hT hR r_x0 r_x1 (by decide) q1 q2 (by rw [q0]; have z0 : (0 : Int32).toInt = 0 := rfl; omega) (by have z : (0 : Int32).toInt = 0 := rfl; omega) (by show _ < ((200000 : Nat) : Int); have z0 : (0 : Int32).toInt = 0 := rfl; omega)
theorem t_d_X6_putText {SZ S : ZS} {x0 : Nat} {x1 : Nat} (hT : ZT S) (hR : RP SZ S) (r_x0 : zK S x0 = 6) (r_x1 : x1 < 29) (q0 : SZ = S) (q1 : rL x0 = 90000) (q2 : (zI SZ 1 x0).toInt + 30 ≤ 90000) : Ok (d_X6_putText x0 x1 S) (fun o => ZT o.2 ∧ RP SZ o.2 ∧ ((zI o.2 1 x0).toInt ≤ (zI SZ 1 x0).toInt + ((zSl.getD x1 0 : Nat) : Int))) := t_d_X6_putText_0 hT hR r_x0 r_x1 q0 q1 q2
theorem t_d_X3_putGap_0 {SZ S : ZS} {x0 : Nat} (hT : ZT S) (hR : RP SZ S) (r_x0 : zK S x0 = 6) (q0 : SZ = S) (q1 : rL x0 = 90000) (q2 : (zI SZ 1 x0).toInt + 1 ≤ 90000) : Ok (d_X3_putGap_0 x0 S) (fun o => ZT o.2 ∧ RP SZ o.2 ∧ ((zI o.2 1 x0).toInt ≤ (zI SZ 1 x0).toInt + 1)) := by
  unfold d_X3_putGap_0
  have s0 : (zI SZ 1 x0).toInt = (zI S 1 x0).toInt := by rw [q0]
  refine ok_chk r_x0 ?_
  have j6 := J_6_1 hT r_x0
  obtain ⟨r1, h_r1, p_r1⟩ := roz (t_f_X6_size (x0 := x0) hT r_x0)
  dsimp only at p_r1
  refine ok_calR h_r1 ?_
  have s_r1 : r1.toInt = (zI S 1 x0).toInt := congrArg Int32.toInt p_r1.2
  refine ok_chk ⟨rfl, rfl⟩ ?_
  refine ok_bnd (fun v2 e7 => ?_)
  have t_v2 : v2.toInt = r1.toInt - 1 := ti_sub e7 rfl (show (1 : Int32).toInt = 1 from rfl) (by omega) (by omega)
  refine ok_chk r_x0 ?_
  obtain ⟨r3, h_r3, p_r3⟩ := roz (t_f_X6_at (x0 := x0) (x1 := v2) hT r_x0)
  dsimp only at p_r3
  refine ok_calR h_r3 ?_
  refine ok_chk ⟨rfl, rfl⟩ ?_
  refine ok_if (fun c8 => ?_) (fun c8 => ?_)
  ·
    replace c8 := ti_eqP (a := r3) (b := (0 : Int32)) c8 rfl (show (0 : Int32).toInt = 0 from rfl)
    unfold d_X3_putGap_33
    exact ok_ret ⟨hT, hR, (by show (zI S 1 x0).toInt ≤ (zI SZ 1 x0).toInt + 1; rw [q0]; omega)⟩
  ·
    replace c8 := ti_eqN (a := r3) (b := (0 : Int32)) c8 rfl (show (0 : Int32).toInt = 0 from rfl)
    refine ok_if (fun c9 => ?_) (fun c9 => ?_)
    ·
      replace c9 := ti_eqP (a := r3) (b := (10 : Int32)) c9 rfl (show (10 : Int32).toInt = 10 from rfl)
      unfold d_X3_putGap_33
      exact ok_ret ⟨hT, hR, (by show (zI S 1 x0).toInt ≤ (zI SZ 1 x0).toInt + 1; rw [q0]; omega)⟩
    ·
      replace c9 := ti_eqN (a := r3) (b := (10 : Int32)) c9 rfl (show (10 : Int32).toInt = 10 from rfl)
      refine ok_if (fun c10 => ?_) (fun c10 => ?_)
      ·
        replace c10 := ti_eqP (a := r3) (b := (40 : Int32)) c10 rfl (show (40 : Int32).toInt = 40 from rfl)
        unfold d_X3_putGap_33
        exact ok_ret ⟨hT, hR, (by show (zI S 1 x0).toInt ≤ (zI SZ 1 x0).toInt + 1; rw [q0]; omega)⟩
      ·
        replace c10 := ti_eqN (a := r3) (b := (40 : Int32)) c10 rfl (show (40 : Int32).toInt = 40 from rfl)
        refine ok_chk r_x0 ?_
        have zl11 : (32 : Int32).toInt = 32 := rfl
        obtain ⟨⟨r5, S6⟩, h_r5, T_S6, B_S6, p_r5_0, p_r5_1⟩ := t_d_X6_put (x0 := x0) (x1 := (32 : Int32)) (SZ := S) hT (rp_0 S) r_x0 (by decide) (by have z0 : (32 : Int32).toInt = 32 := rfl; omega) (rc_ol q1)
        replace T_S6 : ZT S6 := T_S6
        replace B_S6 : RP S S6 := B_S6
        have R_S6 : RP SZ S6 := rp_t hR B_S6
        dsimp only at p_r5_0 p_r5_1
        refine ok_cal2R h_r5 ?_
        have g_S6 := (fz_X6_put h_r5 hT.2.2.2.2.1).2.2
        unfold d_X3_putGap_33
        exact ok_ret ⟨T_S6, R_S6, (by show (zI S6 1 x0).toInt ≤ (zI SZ 1 x0).toInt + 1; rw [q0]; omega)⟩
theorem t_d_X3_putGap {SZ S : ZS} {x0 : Nat} (hT : ZT S) (hR : RP SZ S) (r_x0 : zK S x0 = 6) (q0 : SZ = S) (q1 : rL x0 = 90000) (q2 : (zI SZ 1 x0).toInt + 1 ≤ 90000) : Ok (d_X3_putGap x0 S) (fun o => ZT o.2 ∧ RP SZ o.2 ∧ ((zI o.2 1 x0).toInt ≤ (zI SZ 1 x0).toInt + 1)) := t_d_X3_putGap_0 hT hR r_x0 q0 q1 q2
theorem t_d_X3_putRemark_0 {SZ S : ZS} {x0 : Nat} {x1 : Nat} (hT : ZT S) (hR : RP SZ S) (r_x0 : zK S x0 = 4) (r_x1 : zK S x1 = 6) (q0 : SZ = S) (q1 : rL x1 = 90000) (q2 : (zI SZ 1 x1).toInt + 210 ≤ 90000) : Ok (d_X3_putRemark_0 x0 x1 S) (fun o => ZT o.2 ∧ RP SZ o.2 ∧ ((zI o.2 1 x1).toInt ≤ (zI SZ 1 x1).toInt + 203)) := by
  unfold d_X3_putRemark_0
  have s0 : (zI SZ 1 x1).toInt = (zI S 1 x1).toInt := by rw [q0]
  refine ok_chk r_x0 ?_
  obtain ⟨b1, p_b1, k_b1, c_b1⟩ := T_4_6 hT r_x0
  have rl_b1 := rL_0 c_b1
  refine ok_calR p_b1 ?_
  refine ok_chk k_b1 ?_
  have j12 := J61_0 hT k_b1 c_b1
  obtain ⟨r2, h_r2, p_r2⟩ := roz (t_f_X6_size (x0 := b1) hT k_b1)
  dsimp only at p_r2
  refine ok_calR h_r2 ?_
  have s_r2 : r2.toInt = (zI S 1 b1).toInt := congrArg Int32.toInt p_r2.2
  refine ok_chk ⟨rfl, rfl⟩ ?_
  refine ok_if (fun c13 => ?_) (fun c13 => ?_)
  ·
    replace c13 := ti_eqP (a := r2) (b := (0 : Int32)) c13 rfl (show (0 : Int32).toInt = 0 from rfl)
    exact ok_ret ⟨hT, hR, (by show (zI S 1 x1).toInt ≤ (zI SZ 1 x1).toInt + 203; rw [q0]; omega)⟩
  ·
    replace c13 := ti_eqN (a := r2) (b := (0 : Int32)) c13 rfl (show (0 : Int32).toInt = 0 from rfl)
    have j14 := J_6_1 hT r_x1
    obtain ⟨⟨r4, S5⟩, h_r4, T_S5, B_S5, p_r4_0⟩ := t_d_X3_putGap (x0 := x1) (SZ := S) hT (rp_0 S) r_x1 rfl q1 (by omega)
    replace T_S5 : ZT S5 := T_S5
    replace B_S5 : RP S S5 := B_S5
    have R_S5 : RP SZ S5 := rp_t hR B_S5
    dsimp only at p_r4_0
    refine ok_cal2R h_r4 ?_
    have g_S5 := (fz_X3_putGap h_r4 hT.2.2.2.2.1).2.2
    refine ok_chk ((g_S5 x1 (lt18 r_x1 (by decide))).1.trans r_x1) ?_
    have j15 := J_6_1 T_S5 ((g_S5 x1 (lt18 r_x1 (by decide))).1.trans r_x1)
    have zl16 : (123 : Int32).toInt = 123 := rfl
    obtain ⟨⟨r9, S10⟩, h_r9, T_S10, B_S10, p_r9_0, p_r9_1⟩ := t_d_X6_put (x0 := x1) (x1 := (123 : Int32)) (SZ := S5) T_S5 (rp_0 S5) ((g_S5 x1 (lt18 r_x1 (by decide))).1.trans r_x1) (by decide) (by have z0 : (123 : Int32).toInt = 123 := rfl; omega) (rc_ol q1)
    replace T_S10 : ZT S10 := T_S10
    replace B_S10 : RP S5 S10 := B_S10
    have R_S10 : RP SZ S10 := rp_t R_S5 B_S10
    dsimp only at p_r9_0 p_r9_1
    refine ok_cal2R h_r9 ?_
    have g_S10 := (fz_X6_put h_r9 T_S5.2.2.2.2.1).2.2
    refine ok_chk ((g_S10 x0 (lt18 ((g_S5 x0 (lt18 r_x0 (by decide))).1.trans r_x0) (by decide))).1.trans ((g_S5 x0 (lt18 r_x0 (by decide))).1.trans r_x0)) ?_
    obtain ⟨b13, p_b13, k_b13, c_b13⟩ := T_4_6 T_S10 ((g_S10 x0 (lt18 ((g_S5 x0 (lt18 r_x0 (by decide))).1.trans r_x0) (by decide))).1.trans ((g_S5 x0 (lt18 r_x0 (by decide))).1.trans r_x0))
    have rl_b13 := rL_0 c_b13
    refine ok_calR p_b13 ?_
    refine ok_chk ((g_S10 x1 (lt18 ((g_S5 x1 (lt18 r_x1 (by decide))).1.trans r_x1) (by decide))).1.trans ((g_S5 x1 (lt18 r_x1 (by decide))).1.trans r_x1)) ?_
    have j17 := J_6_1 T_S10 ((g_S10 x1 (lt18 ((g_S5 x1 (lt18 r_x1 (by decide))).1.trans r_x1) (by decide))).1.trans ((g_S5 x1 (lt18 r_x1 (by decide))).1.trans r_x1))
    have j18 := J61_0 T_S10 k_b13 c_b13
    obtain ⟨⟨r15, S16⟩, h_r15, T_S16, B_S16, p_r15_0, p_r15_1⟩ := t_d_X6_putAll (x0 := x1) (x1 := b13) (SZ := S10) T_S10 (rp_0 S10) ((g_S10 x1 (lt18 ((g_S5 x1 (lt18 r_x1 (by decide))).1.trans r_x1) (by decide))).1.trans ((g_S5 x1 (lt18 r_x1 (by decide))).1.trans r_x1)) k_b13 rfl (fun h => by rw [h] at q1; omega) (by omega) (rc_ol q1)
    replace T_S16 : ZT S16 := T_S16
    replace B_S16 : RP S10 S16 := B_S16
    have R_S16 : RP SZ S16 := rp_t R_S10 B_S16
    dsimp only at p_r15_0 p_r15_1
    refine ok_cal2R h_r15 ?_
    have g_S16 := (fz_X6_putAll h_r15 T_S10.2.2.2.2.1).2.2
    refine ok_chk ((g_S16 x1 (lt18 ((g_S10 x1 (lt18 ((g_S5 x1 (lt18 r_x1 (by decide))).1.trans r_x1) (by decide))).1.trans ((g_S5 x1 (lt18 r_x1 (by decide))).1.trans r_x1)) (by decide))).1.trans ((g_S10 x1 (lt18 ((g_S5 x1 (lt18 r_x1 (by decide))).1.trans r_x1) (by decide))).1.trans ((g_S5 x1 (lt18 r_x1 (by decide))).1.trans r_x1))) ?_
    have j19 := J_6_1 T_S16 ((g_S16 x1 (lt18 ((g_S10 x1 (lt18 ((g_S5 x1 (lt18 r_x1 (by decide))).1.trans r_x1) (by decide))).1.trans ((g_S5 x1 (lt18 r_x1 (by decide))).1.trans r_x1)) (by decide))).1.trans ((g_S10 x1 (lt18 ((g_S5 x1 (lt18 r_x1 (by decide))).1.trans r_x1) (by decide))).1.trans ((g_S5 x1 (lt18 r_x1 (by decide))).1.trans r_x1)))
    have zl20 : (125 : Int32).toInt = 125 := rfl
    obtain ⟨⟨r20, S21⟩, h_r20, T_S21, B_S21, p_r20_0, p_r20_1⟩ := t_d_X6_put (x0 := x1) (x1 := (125 : Int32)) (SZ := S16) T_S16 (rp_0 S16) ((g_S16 x1 (lt18 ((g_S10 x1 (lt18 ((g_S5 x1 (lt18 r_x1 (by decide))).1.trans r_x1) (by decide))).1.trans ((g_S5 x1 (lt18 r_x1 (by decide))).1.trans r_x1)) (by decide))).1.trans ((g_S10 x1 (lt18 ((g_S5 x1 (lt18 r_x1 (by decide))).1.trans r_x1) (by decide))).1.trans ((g_S5 x1 (lt18 r_x1 (by decide))).1.trans r_x1))) (by decide) (by have z0 : (125 : Int32).toInt = 125 := rfl; omega) (rc_ol q1)
    replace T_S21 : ZT S21 := T_S21
    replace B_S21 : RP S16 S21 := B_S21
    have R_S21 : RP SZ S21 := rp_t R_S16 B_S21
    dsimp only at p_r20_0 p_r20_1
    refine ok_cal2R h_r20 ?_
    have g_S21 := (fz_X6_put h_r20 T_S16.2.2.2.2.1).2.2
    exact ok_ret ⟨T_S21, R_S21, (by show (zI S21 1 x1).toInt ≤ (zI SZ 1 x1).toInt + 203; rw [q0]; omega)⟩
theorem t_d_X3_putRemark {SZ S : ZS} {x0 : Nat} {x1 : Nat} (hT : ZT S) (hR : RP SZ S) (r_x0 : zK S x0 = 4) (r_x1 : zK S x1 = 6) (q0 : SZ = S) (q1 : rL x1 = 90000) (q2 : (zI SZ 1 x1).toInt + 210 ≤ 90000) : Ok (d_X3_putRemark x0 x1 S) (fun o => ZT o.2 ∧ RP SZ o.2 ∧ ((zI o.2 1 x1).toInt ≤ (zI SZ 1 x1).toInt + 203)) := t_d_X3_putRemark_0 hT hR r_x0 r_x1 q0 q1 q2
theorem t_d_X3_putQuoted_2s {SZ S : ZS} {self2 : Nat → Nat → Int32 → ZS → Option (Int32 × ZS)} {N2 : Nat} (hself2 : ∀ (x0 : Nat) (x1 : Nat) (x2 : Int32) (S : ZS), ZT S → RP SZ S → (zK S x0 = 6) → (rc x0 ≤ 0) → (zK S x1 = 6) → ((0 : Int) ≤ x2.toInt ∧ x2.toInt ≤ (200 : Int)) → (rL x1 = 90000) → ((zI SZ 1 x1).toInt + 410 ≤ 90000) → ((zI S 1 x1).toInt ≤ (zI SZ 1 x1).toInt + 2 * x2.toInt) → (201 - x2.toInt) < (N2 : Int) → Ok (self2 x0 x1 x2 S) (fun o => ZT o.2 ∧ RP SZ o.2 ∧ ((zI o.2 1 x1).toInt ≤ (zI SZ 1 x1).toInt + 400))) {x0 : Nat} {x1 : Nat} {x2 : Int32} (hT : ZT S) (hR : RP SZ S) (r_x0 : zK S x0 = 6) (c_x0 : rc x0 ≤ 0) (r_x1 : zK S x1 = 6) (r_x2 : (0 : Int) ≤ x2.toInt ∧ x2.toInt ≤ (200 : Int)) (q0 : rL x1 = 90000) (q1 : (zI SZ 1 x1).toInt + 410 ≤ 90000) (q2 : (zI S 1 x1).toInt ≤ (zI SZ 1 x1).toInt + 2 * x2.toInt) (m2 : (201 - x2.toInt) ≤ (N2 : Int)) : Ok (d_X3_putQuoted_2s self2 x0 x1 x2 S) (fun o => ZT o.2 ∧ RP SZ o.2 ∧ ((zI o.2 1 x1).toInt ≤ (zI SZ 1 x1).toInt + 400)) := by
  unfold d_X3_putQuoted_2s
  refine ok_chk r_x0 ?_
  have j21 := J61_0 hT r_x0 c_x0
  obtain ⟨r1, h_r1, p_r1⟩ := roz (t_f_X6_size (x0 := x0) hT r_x0)
  dsimp only at p_r1
  refine ok_calR h_r1 ?_
  have s_r1 : r1.toInt = (zI S 1 x0).toInt := congrArg Int32.toInt p_r1.2
  refine ok_chk ⟨rfl, rfl⟩ ?_
  refine ok_if (fun c22 => ?_) (fun c22 => ?_)
  ·
    replace c22 := ti_leP (a := r1) (b := x2) c22 rfl rfl
    exact ok_ret ⟨hT, hR, (by show (zI S 1 x1).toInt ≤ (zI SZ 1 x1).toInt + 400; have z : (0 : Int32).toInt = 0 := rfl; omega)⟩
  ·
    replace c22 := ti_leN (a := r1) (b := x2) c22 rfl rfl
    refine ok_chk r_x0 ?_
    obtain ⟨r2, h_r2, p_r2⟩ := roz (t_f_X6_at (x0 := x0) (x1 := x2) hT r_x0)
    dsimp only at p_r2
    refine ok_calR h_r2 ?_
    refine ok_chk ⟨rfl, rfl⟩ ?_
    refine ok_if (fun c23 => ?_) (fun c23 => ?_)
    ·
      replace c23 := ti_eqP (a := r2) (b := (34 : Int32)) c23 rfl (show (34 : Int32).toInt = 34 from rfl)
      unfold d_X3_putQuoted_28
      refine ok_chk r_x1 ?_
      have j24 := J_6_1 hT r_x1
      have zl25 : (92 : Int32).toInt = 92 := rfl
      obtain ⟨⟨r2u, S3⟩, h_r2u, T_S3, B_S3, p_r2u_0, p_r2u_1⟩ := t_d_X6_put (x0 := x1) (x1 := (92 : Int32)) (SZ := S) hT (rp_0 S) r_x1 (by decide) (by have z0 : (92 : Int32).toInt = 92 := rfl; omega) (rc_ol q0)
      replace T_S3 : ZT S3 := T_S3
      replace B_S3 : RP S S3 := B_S3
      have R_S3 : RP SZ S3 := rp_t hR B_S3
      dsimp only at p_r2u_0 p_r2u_1
      refine ok_cal2R h_r2u ?_
      have g_S3 := (fz_X6_put h_r2u hT.2.2.2.2.1).2.2
      unfold d_X3_putQuoted_34
      refine ok_chk ((g_S3 x1 (lt18 r_x1 (by decide))).1.trans r_x1) ?_
      have j27 := J_6_1 T_S3 ((g_S3 x1 (lt18 r_x1 (by decide))).1.trans r_x1)
      obtain ⟨⟨r2uw26, S3u⟩, h_r2uw26, T_S3u, B_S3u, p_r2uw26_0, p_r2uw26_1⟩ := t_d_X6_put (x0 := x1) (x1 := r2) (SZ := S3) T_S3 (rp_0 S3) ((g_S3 x1 (lt18 r_x1 (by decide))).1.trans r_x1) (by omega) (by omega) (rc_ol q0)
      replace T_S3u : ZT S3u := T_S3u
      replace B_S3u : RP S3 S3u := B_S3u
      have R_S3u : RP SZ S3u := rp_t R_S3 B_S3u
      dsimp only at p_r2uw26_0 p_r2uw26_1
      refine ok_cal2R h_r2uw26 ?_
      have g_S3u := (fz_X6_put h_r2uw26 T_S3.2.2.2.2.1).2.2
      refine ok_bnd (fun v6 e28 => ?_)
      have t_v6 : v6.toInt = x2.toInt + 1 := ti_add e28 rfl (show (1 : Int32).toInt = 1 from rfl) (by omega) (by omega)
      have j29 := J_6_1 T_S3u ((g_S3u x1 (lt18 ((g_S3 x1 (lt18 r_x1 (by decide))).1.trans r_x1) (by decide))).1.trans ((g_S3 x1 (lt18 r_x1 (by decide))).1.trans r_x1))
      exact hself2 x0 x1 v6 S3u T_S3u R_S3u ((g_S3u x0 (lt18 ((g_S3 x0 (lt18 r_x0 (by decide))).1.trans r_x0) (by decide))).1.trans ((g_S3 x0 (lt18 r_x0 (by decide))).1.trans r_x0)) c_x0 ((g_S3u x1 (lt18 ((g_S3 x1 (lt18 r_x1 (by decide))).1.trans r_x1) (by decide))).1.trans ((g_S3 x1 (lt18 r_x1 (by decide))).1.trans r_x1)) (by omega) q0 q1 (by omega) (by omega)
    ·
      replace c23 := ti_eqN (a := r2) (b := (34 : Int32)) c23 rfl (show (34 : Int32).toInt = 34 from rfl)
      refine ok_if (fun c30 => ?_) (fun c30 => ?_)
      ·
        replace c30 := ti_eqP (a := r2) (b := (92 : Int32)) c30 rfl (show (92 : Int32).toInt = 92 from rfl)
        unfold d_X3_putQuoted_28
        refine ok_chk r_x1 ?_
        have j31 := J_6_1 hT r_x1
        have zl32 : (92 : Int32).toInt = 92 := rfl
        obtain ⟨⟨r2u, S3⟩, h_r2u, T_S3, B_S3, p_r2u_0, p_r2u_1⟩ := t_d_X6_put (x0 := x1) (x1 := (92 : Int32)) (SZ := S) hT (rp_0 S) r_x1 (by decide) (by have z0 : (92 : Int32).toInt = 92 := rfl; omega) (rc_ol q0)
        replace T_S3 : ZT S3 := T_S3
        replace B_S3 : RP S S3 := B_S3
        have R_S3 : RP SZ S3 := rp_t hR B_S3
        dsimp only at p_r2u_0 p_r2u_1
        refine ok_cal2R h_r2u ?_
        have g_S3 := (fz_X6_put h_r2u hT.2.2.2.2.1).2.2
        unfold d_X3_putQuoted_34
        refine ok_chk ((g_S3 x1 (lt18 r_x1 (by decide))).1.trans r_x1) ?_
        have j34 := J_6_1 T_S3 ((g_S3 x1 (lt18 r_x1 (by decide))).1.trans r_x1)
        obtain ⟨⟨r2uw33, S3u⟩, h_r2uw33, T_S3u, B_S3u, p_r2uw33_0, p_r2uw33_1⟩ := t_d_X6_put (x0 := x1) (x1 := r2) (SZ := S3) T_S3 (rp_0 S3) ((g_S3 x1 (lt18 r_x1 (by decide))).1.trans r_x1) (by omega) (by omega) (rc_ol q0)
        replace T_S3u : ZT S3u := T_S3u
        replace B_S3u : RP S3 S3u := B_S3u
        have R_S3u : RP SZ S3u := rp_t R_S3 B_S3u
        dsimp only at p_r2uw33_0 p_r2uw33_1
        refine ok_cal2R h_r2uw33 ?_
        have g_S3u := (fz_X6_put h_r2uw33 T_S3.2.2.2.2.1).2.2
        refine ok_bnd (fun v6 e35 => ?_)
        have t_v6 : v6.toInt = x2.toInt + 1 := ti_add e35 rfl (show (1 : Int32).toInt = 1 from rfl) (by omega) (by omega)
        have j36 := J_6_1 T_S3u ((g_S3u x1 (lt18 ((g_S3 x1 (lt18 r_x1 (by decide))).1.trans r_x1) (by decide))).1.trans ((g_S3 x1 (lt18 r_x1 (by decide))).1.trans r_x1))
        exact hself2 x0 x1 v6 S3u T_S3u R_S3u ((g_S3u x0 (lt18 ((g_S3 x0 (lt18 r_x0 (by decide))).1.trans r_x0) (by decide))).1.trans ((g_S3 x0 (lt18 r_x0 (by decide))).1.trans r_x0)) c_x0 ((g_S3u x1 (lt18 ((g_S3 x1 (lt18 r_x1 (by decide))).1.trans r_x1) (by decide))).1.trans ((g_S3 x1 (lt18 r_x1 (by decide))).1.trans r_x1)) (by omega) q0 q1 (by omega) (by omega)
      ·
        replace c30 := ti_eqN (a := r2) (b := (92 : Int32)) c30 rfl (show (92 : Int32).toInt = 92 from rfl)
        unfold d_X3_putQuoted_34
        refine ok_chk r_x1 ?_
        have j37 := J_6_1 hT r_x1
        obtain ⟨⟨r2u, S3⟩, h_r2u, T_S3, B_S3, p_r2u_0, p_r2u_1⟩ := t_d_X6_put (x0 := x1) (x1 := r2) (SZ := S) hT (rp_0 S) r_x1 (by omega) (by omega) (rc_ol q0)
        replace T_S3 : ZT S3 := T_S3
        replace B_S3 : RP S S3 := B_S3
        have R_S3 : RP SZ S3 := rp_t hR B_S3
        dsimp only at p_r2u_0 p_r2u_1
        refine ok_cal2R h_r2u ?_
        have g_S3 := (fz_X6_put h_r2u hT.2.2.2.2.1).2.2
        refine ok_bnd (fun v6 e38 => ?_)
        have t_v6 : v6.toInt = x2.toInt + 1 := ti_add e38 rfl (show (1 : Int32).toInt = 1 from rfl) (by omega) (by omega)
        have j39 := J_6_1 T_S3 ((g_S3 x1 (lt18 r_x1 (by decide))).1.trans r_x1)
        exact hself2 x0 x1 v6 S3 T_S3 R_S3 ((g_S3 x0 (lt18 r_x0 (by decide))).1.trans r_x0) c_x0 ((g_S3 x1 (lt18 r_x1 (by decide))).1.trans r_x1) (by omega) q0 q1 (by omega) (by omega)
theorem t_d_X3_putQuoted_2 {SZ : ZS} : ∀ (n : Nat) (x0 : Nat) (x1 : Nat) (x2 : Int32) (S : ZS), ZT S → RP SZ S → (zK S x0 = 6) → (rc x0 ≤ 0) → (zK S x1 = 6) → ((0 : Int) ≤ x2.toInt ∧ x2.toInt ≤ (200 : Int)) → (rL x1 = 90000) → ((zI SZ 1 x1).toInt + 410 ≤ 90000) → ((zI S 1 x1).toInt ≤ (zI SZ 1 x1).toInt + 2 * x2.toInt) → (201 - x2.toInt) < (n : Int) → Ok (d_X3_putQuoted_2  n x0 x1 x2 S) (fun o => ZT o.2 ∧ RP SZ o.2 ∧ ((zI o.2 1 x1).toInt ≤ (zI SZ 1 x1).toInt + 400)) := by
  intro n
  induction n with
  | zero => intro x0 x1 x2 S hT hR g0 g1 g2 g3 g4 g5 g6  hm; exfalso; omega
  | succ n ih =>
    intro x0 x1 x2 S hT hR g0 g1 g2 g3 g4 g5 g6  hm
    exact t_d_X3_putQuoted_2s (N2 := n)  ih hT hR g0 g1 g2 g3 g4 g5 g6  (by omega)
theorem t_d_X3_putQuoted_0 {SZ S : ZS} {x0 : Nat} {x1 : Nat} (hT : ZT S) (hR : RP SZ S) (r_x0 : zK S x0 = 6) (c_x0 : rc x0 ≤ 0) (r_x1 : zK S x1 = 6) (q0 : SZ = S) (q1 : rL x1 = 90000) (q2 : (zI SZ 1 x1).toInt + 410 ≤ 90000) : Ok (d_X3_putQuoted_0 x0 x1 S) (fun o => ZT o.2 ∧ RP SZ o.2 ∧ ((zI o.2 1 x1).toInt ≤ (zI SZ 1 x1).toInt + 400)) := by
  unfold d_X3_putQuoted_0
  have j40 := J_6_1 hT r_x1
  exact t_d_X3_putQuoted_2   mFuel x0 x1 (0 : Int32) S hT hR r_x0 c_x0 r_x1 (by decide) q1 q2 (by rw [q0]; have z0 : (0 : Int32).toInt = 0 := rfl; omega) (by show _ < ((200000 : Nat) : Int); have z0 : (0 : Int32).toInt = 0 := rfl; omega)
theorem t_d_X3_putQuoted {SZ S : ZS} {x0 : Nat} {x1 : Nat} (hT : ZT S) (hR : RP SZ S) (r_x0 : zK S x0 = 6) (c_x0 : rc x0 ≤ 0) (r_x1 : zK S x1 = 6) (q0 : SZ = S) (q1 : rL x1 = 90000) (q2 : (zI SZ 1 x1).toInt + 410 ≤ 90000) : Ok (d_X3_putQuoted x0 x1 S) (fun o => ZT o.2 ∧ RP SZ o.2 ∧ ((zI o.2 1 x1).toInt ≤ (zI SZ 1 x1).toInt + 400)) := t_d_X3_putQuoted_0 hT hR r_x0 c_x0 r_x1 q0 q1 q2
theorem t_d_X3_putHead_72 {SZ S : ZS} {x0 : Nat} {x1 : Nat} {x2 : Nat} (hT : ZT S) (hR : RP SZ S) (r_x0 : zK S x0 = 3) (r_x1 : zK S x1 = 1) (r_x2 : zK S x2 = 6) (q0 : rL x2 = 90000) (q1 : (zI S 1 x2).toInt ≤ 5000) : Ok (d_X3_putHead_72 x0 x1 x2 S) (fun o => ZT o.2 ∧ RP SZ o.2 ∧ ((zI o.2 1 x2).toInt ≤ 6000)) := by
  unfold d_X3_putHead_72
  have j41 := J_6_1 hT r_x2
  refine ok_chk r_x1 ?_
  have zl42 : (0 : Int32).toInt = 0 := rfl
  obtain ⟨r1, h_r1, p_r1⟩ := roz (t_f_X1_at (x0 := x1) (x1 := (0 : Int32)) hT r_x1)
  dsimp only at p_r1
  refine ok_calR h_r1 ?_
  refine ok_chk ⟨rfl, rfl⟩ ?_
  obtain ⟨⟨r3, S4⟩, h_r3, T_S4, B_S4, p_r3_0⟩ := t_d_X3_putRemark (x0 := r1) (x1 := x2) (SZ := S) hT (rp_0 S) p_r1.1 r_x2 rfl q0 (by omega)
  replace T_S4 : ZT S4 := T_S4
  replace B_S4 : RP S S4 := B_S4
  have R_S4 : RP SZ S4 := rp_t hR B_S4
  dsimp only at p_r3_0
  refine ok_cal2R h_r3 ?_
  have g_S4 := (fz_X3_putRemark h_r3 hT.2.2.2.2.1).2.2
  refine ok_chk ((g_S4 x0 (lt18 r_x0 (by decide))).1.trans r_x0) ?_
  obtain ⟨b7, p_b7, k_b7, n_b7⟩ := T_3_1 T_S4 ((g_S4 x0 (lt18 r_x0 (by decide))).1.trans r_x0)
  refine ok_calR p_b7 ?_
  refine ok_chk k_b7 ?_
  refine ok_chk (ti_inN (n := 7) n_b7 (by decide) (by decide)) ?_
  obtain ⟨b8, p_b8, k_b8⟩ := (T_S4.2.2.2.1 b7).1 k_b7 ((0 : Int32)).toNatClampNeg (by decide)
  refine ok_calR p_b8 ?_
  refine ok_chk ((g_S4 x1 (lt18 r_x1 (by decide))).1.trans r_x1) ?_
  obtain ⟨b9, p_b9, k_b9⟩ := T_1_0 T_S4 ((g_S4 x1 (lt18 r_x1 (by decide))).1.trans r_x1)
  refine ok_calR p_b9 ?_
  refine ok_chk k_b8 ?_
  obtain ⟨⟨r10, S10⟩, h_r10, T_S10, A_S10, -⟩ := t_f_X0_copyFrom (x0 := b8) (x1 := b9) (SZ := S4) T_S4 (a7_0 S4) k_b8 k_b9
  replace T_S10 : ZT S10 := T_S10
  replace A_S10 : A7 S4 S10 := A_S10
  refine ok_calR h_r10 ?_
  have q_S10 := fq_X0_copyFrom h_r10
  have kE_S10 : zK S10 = zK S4 := q_S10.2.2.1
  have nE_S10 : zN S10 = zN S4 := q_S10.2.2.2.1
  have R_S10 : RP SZ S10 := rp_f R_S4 T_S4 q_S10 (fz_X0_copyFrom h_r10) (by decide) A_S10
  have : (zI S10 1 x2).toInt = (zI S4 1 x2).toInt := congrArg Int32.toInt ((((fz_X0_copyFrom h_r10) T_S4.2.2.2.2.1).2.2 x2 (by rw [((g_S4 x2 (lt18 r_x2 (by decide))).1.trans r_x2)]; decide)).2.2.1 1 (by rw [((g_S4 x2 (lt18 r_x2 (by decide))).1.trans r_x2)]; decide))
  refine ok_chk ⟨q_S10.1, q_S10.2.1⟩ ?_
  exact ok_ret ⟨T_S10, R_S10, (by show (zI S10 1 x2).toInt ≤ 6000; have z : (0 : Int32).toInt = 0 := rfl; omega)⟩
theorem t_d_X3_putHead_2s {SZ S : ZS} {self2 : Nat → Nat → Nat → Int32 → ZS → Option (Int32 × ZS)} {N2 : Nat} (hself2 : ∀ (x0 : Nat) (x1 : Nat) (x2 : Nat) (x3 : Int32) (S : ZS), ZT S → RP SZ S → (zK S x0 = 3) → (zK S x1 = 1) → (zK S x2 = 6) → ((0 : Int) ≤ x3.toInt ∧ x3.toInt ≤ (8 : Int)) → (rL x2 = 90000) → ((zI S 1 x2).toInt ≤ 10 + 615 * x3.toInt) → (9 - x3.toInt) < (N2 : Int) → Ok (self2 x0 x1 x2 x3 S) (fun o => ZT o.2 ∧ RP SZ o.2 ∧ ((zI o.2 1 x2).toInt ≤ 6000))) {x0 : Nat} {x1 : Nat} {x2 : Nat} {x3 : Int32} (hT : ZT S) (hR : RP SZ S) (r_x0 : zK S x0 = 3) (r_x1 : zK S x1 = 1) (r_x2 : zK S x2 = 6) (r_x3 : (0 : Int) ≤ x3.toInt ∧ x3.toInt ≤ (8 : Int)) (q0 : rL x2 = 90000) (q1 : (zI S 1 x2).toInt ≤ 10 + 615 * x3.toInt) (m2 : (9 - x3.toInt) ≤ (N2 : Int)) : Ok (d_X3_putHead_2s self2 x0 x1 x2 x3 S) (fun o => ZT o.2 ∧ RP SZ o.2 ∧ ((zI o.2 1 x2).toInt ≤ 6000)) := by
  unfold d_X3_putHead_2s
  have j43 := J_6_1 hT r_x2
  have z11 : zSl.getD 11 0 = 2 := rfl
  have z12 : zSl.getD 12 0 = 3 := rfl
  refine ok_chk r_x1 ?_
  have j44 := J_1_5 hT r_x1
  refine ok_if (fun c45 => ?_) (fun c45 => ?_)
  ·
    replace c45 := ti_leP (a := (zI S 5 x1)) (b := x3) c45 rfl rfl
    refine ok_chk r_x1 ?_
    refine ok_if (fun c46 => ?_) (fun c46 => ?_)
    ·
      replace c46 := ti_leP (a := (zI S 5 x1)) (b := (0 : Int32)) c46 rfl (show (0 : Int32).toInt = 0 from rfl)
      exact t_d_X3_putHead_72 (S := S)  (x0 := x0) (x1 := x1) (x2 := x2) hT hR r_x0 r_x1 r_x2 q0 (by omega)
    ·
      replace c46 := ti_leN (a := (zI S 5 x1)) (b := (0 : Int32)) c46 rfl (show (0 : Int32).toInt = 0 from rfl)
      refine ok_chk r_x2 ?_
      have zl47 : (10 : Int32).toInt = 10 := rfl
      obtain ⟨⟨r2, S3⟩, h_r2, T_S3, B_S3, p_r2_0, p_r2_1⟩ := t_d_X6_put (x0 := x2) (x1 := (10 : Int32)) (SZ := S) hT (rp_0 S) r_x2 (by decide) (by have z0 : (10 : Int32).toInt = 10 := rfl; omega) (rc_ol q0)
      replace T_S3 : ZT S3 := T_S3
      replace B_S3 : RP S S3 := B_S3
      have R_S3 : RP SZ S3 := rp_t hR B_S3
      dsimp only at p_r2_0 p_r2_1
      refine ok_cal2R h_r2 ?_
      have g_S3 := (fz_X6_put h_r2 hT.2.2.2.2.1).2.2
      have j48 := J_6_1 T_S3 ((g_S3 x2 (lt18 r_x2 (by decide))).1.trans r_x2)
      exact t_d_X3_putHead_72 (S := S3)  (x0 := x0) (x1 := x1) (x2 := x2) T_S3 R_S3 ((g_S3 x0 (lt18 r_x0 (by decide))).1.trans r_x0) ((g_S3 x1 (lt18 r_x1 (by decide))).1.trans r_x1) ((g_S3 x2 (lt18 r_x2 (by decide))).1.trans r_x2) q0 (by omega)
  ·
    replace c45 := ti_leN (a := (zI S 5 x1)) (b := x3) c45 rfl rfl
    refine ok_chk r_x1 ?_
    obtain ⟨r7, h_r7, p_r7⟩ := roz (t_d_X1_tagAt (x0 := x1) (x1 := x3) hT r_x1 (by omega))
    dsimp only at p_r7
    refine ok_cal2R h_r7 ?_
    refine ok_chk r_x2 ?_
    have zl49 : (91 : Int32).toInt = 91 := rfl
    obtain ⟨⟨r12, S13⟩, h_r12, T_S13, B_S13, p_r12_0, p_r12_1⟩ := t_d_X6_put (x0 := x2) (x1 := (91 : Int32)) (SZ := S) hT (rp_0 S) r_x2 (by decide) (by have z0 : (91 : Int32).toInt = 91 := rfl; omega) (rc_ol q0)
    replace T_S13 : ZT S13 := T_S13
    replace B_S13 : RP S S13 := B_S13
    have R_S13 : RP SZ S13 := rp_t hR B_S13
    dsimp only at p_r12_0 p_r12_1
    refine ok_cal2R h_r12 ?_
    have g_S13 := (fz_X6_put h_r12 hT.2.2.2.2.1).2.2
    refine ok_chk ((g_S13 r7 (lt18 p_r7 (by decide))).1.trans p_r7) ?_
    obtain ⟨b16, p_b16, k_b16, c_b16⟩ := T_10_0 T_S13 ((g_S13 r7 (lt18 p_r7 (by decide))).1.trans p_r7)
    have rl_b16 := rL_0 c_b16
    refine ok_calR p_b16 ?_
    refine ok_chk ((g_S13 x2 (lt18 r_x2 (by decide))).1.trans r_x2) ?_
    have j50 := J_6_1 T_S13 ((g_S13 x2 (lt18 r_x2 (by decide))).1.trans r_x2)
    have j51 := J61_0 T_S13 k_b16 c_b16
    obtain ⟨⟨r18, S19⟩, h_r18, T_S19, B_S19, p_r18_0, p_r18_1⟩ := t_d_X6_putAll (x0 := x2) (x1 := b16) (SZ := S13) T_S13 (rp_0 S13) ((g_S13 x2 (lt18 r_x2 (by decide))).1.trans r_x2) k_b16 rfl (fun h => by rw [h] at q0; omega) (by omega) (rc_ol q0)
    replace T_S19 : ZT S19 := T_S19
    replace B_S19 : RP S13 S19 := B_S19
    have R_S19 : RP SZ S19 := rp_t R_S13 B_S19
    dsimp only at p_r18_0 p_r18_1
    refine ok_cal2R h_r18 ?_
    have g_S19 := (fz_X6_putAll h_r18 T_S13.2.2.2.2.1).2.2
    refine ok_chk ((g_S19 x2 (lt18 ((g_S13 x2 (lt18 r_x2 (by decide))).1.trans r_x2) (by decide))).1.trans ((g_S13 x2 (lt18 r_x2 (by decide))).1.trans r_x2)) ?_
    have j52 := J_6_1 T_S19 ((g_S19 x2 (lt18 ((g_S13 x2 (lt18 r_x2 (by decide))).1.trans r_x2) (by decide))).1.trans ((g_S13 x2 (lt18 r_x2 (by decide))).1.trans r_x2))
    obtain ⟨⟨r23, S24⟩, h_r23, T_S24, B_S24, p_r23_0⟩ := t_d_X6_putText (x0 := x2) (x1 := 11) (SZ := S19) T_S19 (rp_0 S19) ((g_S19 x2 (lt18 ((g_S13 x2 (lt18 r_x2 (by decide))).1.trans r_x2) (by decide))).1.trans ((g_S13 x2 (lt18 r_x2 (by decide))).1.trans r_x2)) (by decide) rfl q0 (by omega)
    replace T_S24 : ZT S24 := T_S24
    replace B_S24 : RP S19 S24 := B_S24
    have R_S24 : RP SZ S24 := rp_t R_S19 B_S24
    dsimp only at p_r23_0
    refine ok_cal2R h_r23 ?_
    have g_S24 := (fz_X6_putText h_r23 T_S19.2.2.2.2.1).2.2
    refine ok_chk ((g_S24 r7 (lt18 ((g_S19 r7 (lt18 ((g_S13 r7 (lt18 p_r7 (by decide))).1.trans p_r7) (by decide))).1.trans ((g_S13 r7 (lt18 p_r7 (by decide))).1.trans p_r7)) (by decide))).1.trans ((g_S19 r7 (lt18 ((g_S13 r7 (lt18 p_r7 (by decide))).1.trans p_r7) (by decide))).1.trans ((g_S13 r7 (lt18 p_r7 (by decide))).1.trans p_r7))) ?_
    obtain ⟨b27, p_b27, k_b27, c_b27⟩ := T_10_1 T_S24 ((g_S24 r7 (lt18 ((g_S19 r7 (lt18 ((g_S13 r7 (lt18 p_r7 (by decide))).1.trans p_r7) (by decide))).1.trans ((g_S13 r7 (lt18 p_r7 (by decide))).1.trans p_r7)) (by decide))).1.trans ((g_S19 r7 (lt18 ((g_S13 r7 (lt18 p_r7 (by decide))).1.trans p_r7) (by decide))).1.trans ((g_S13 r7 (lt18 p_r7 (by decide))).1.trans p_r7)))
    have rl_b27 := rL_0 c_b27
    refine ok_calR p_b27 ?_
    have j53 := J61_0 T_S24 k_b27 c_b27
    have j54 := J_6_1 T_S24 ((g_S24 x2 (lt18 ((g_S19 x2 (lt18 ((g_S13 x2 (lt18 r_x2 (by decide))).1.trans r_x2) (by decide))).1.trans ((g_S13 x2 (lt18 r_x2 (by decide))).1.trans r_x2)) (by decide))).1.trans ((g_S19 x2 (lt18 ((g_S13 x2 (lt18 r_x2 (by decide))).1.trans r_x2) (by decide))).1.trans ((g_S13 x2 (lt18 r_x2 (by decide))).1.trans r_x2)))
    obtain ⟨⟨r29, S30⟩, h_r29, T_S30, B_S30, p_r29_0⟩ := t_d_X3_putQuoted (x0 := b27) (x1 := x2) (SZ := S24) T_S24 (rp_0 S24) k_b27 c_b27 ((g_S24 x2 (lt18 ((g_S19 x2 (lt18 ((g_S13 x2 (lt18 r_x2 (by decide))).1.trans r_x2) (by decide))).1.trans ((g_S13 x2 (lt18 r_x2 (by decide))).1.trans r_x2)) (by decide))).1.trans ((g_S19 x2 (lt18 ((g_S13 x2 (lt18 r_x2 (by decide))).1.trans r_x2) (by decide))).1.trans ((g_S13 x2 (lt18 r_x2 (by decide))).1.trans r_x2))) rfl q0 (by omega)
    replace T_S30 : ZT S30 := T_S30
    replace B_S30 : RP S24 S30 := B_S30
    have R_S30 : RP SZ S30 := rp_t R_S24 B_S30
    dsimp only at p_r29_0
    refine ok_cal2R h_r29 ?_
    have g_S30 := (fz_X3_putQuoted h_r29 T_S24.2.2.2.2.1).2.2
    refine ok_chk ((g_S30 x2 (lt18 ((g_S24 x2 (lt18 ((g_S19 x2 (lt18 ((g_S13 x2 (lt18 r_x2 (by decide))).1.trans r_x2) (by decide))).1.trans ((g_S13 x2 (lt18 r_x2 (by decide))).1.trans r_x2)) (by decide))).1.trans ((g_S19 x2 (lt18 ((g_S13 x2 (lt18 r_x2 (by decide))).1.trans r_x2) (by decide))).1.trans ((g_S13 x2 (lt18 r_x2 (by decide))).1.trans r_x2))) (by decide))).1.trans ((g_S24 x2 (lt18 ((g_S19 x2 (lt18 ((g_S13 x2 (lt18 r_x2 (by decide))).1.trans r_x2) (by decide))).1.trans ((g_S13 x2 (lt18 r_x2 (by decide))).1.trans r_x2)) (by decide))).1.trans ((g_S19 x2 (lt18 ((g_S13 x2 (lt18 r_x2 (by decide))).1.trans r_x2) (by decide))).1.trans ((g_S13 x2 (lt18 r_x2 (by decide))).1.trans r_x2)))) ?_
    have j55 := J_6_1 T_S30 ((g_S30 x2 (lt18 ((g_S24 x2 (lt18 ((g_S19 x2 (lt18 ((g_S13 x2 (lt18 r_x2 (by decide))).1.trans r_x2) (by decide))).1.trans ((g_S13 x2 (lt18 r_x2 (by decide))).1.trans r_x2)) (by decide))).1.trans ((g_S19 x2 (lt18 ((g_S13 x2 (lt18 r_x2 (by decide))).1.trans r_x2) (by decide))).1.trans ((g_S13 x2 (lt18 r_x2 (by decide))).1.trans r_x2))) (by decide))).1.trans ((g_S24 x2 (lt18 ((g_S19 x2 (lt18 ((g_S13 x2 (lt18 r_x2 (by decide))).1.trans r_x2) (by decide))).1.trans ((g_S13 x2 (lt18 r_x2 (by decide))).1.trans r_x2)) (by decide))).1.trans ((g_S19 x2 (lt18 ((g_S13 x2 (lt18 r_x2 (by decide))).1.trans r_x2) (by decide))).1.trans ((g_S13 x2 (lt18 r_x2 (by decide))).1.trans r_x2))))
    obtain ⟨⟨r34, S35⟩, h_r34, T_S35, B_S35, p_r34_0⟩ := t_d_X6_putText (x0 := x2) (x1 := 12) (SZ := S30) T_S30 (rp_0 S30) ((g_S30 x2 (lt18 ((g_S24 x2 (lt18 ((g_S19 x2 (lt18 ((g_S13 x2 (lt18 r_x2 (by decide))).1.trans r_x2) (by decide))).1.trans ((g_S13 x2 (lt18 r_x2 (by decide))).1.trans r_x2)) (by decide))).1.trans ((g_S19 x2 (lt18 ((g_S13 x2 (lt18 r_x2 (by decide))).1.trans r_x2) (by decide))).1.trans ((g_S13 x2 (lt18 r_x2 (by decide))).1.trans r_x2))) (by decide))).1.trans ((g_S24 x2 (lt18 ((g_S19 x2 (lt18 ((g_S13 x2 (lt18 r_x2 (by decide))).1.trans r_x2) (by decide))).1.trans ((g_S13 x2 (lt18 r_x2 (by decide))).1.trans r_x2)) (by decide))).1.trans ((g_S19 x2 (lt18 ((g_S13 x2 (lt18 r_x2 (by decide))).1.trans r_x2) (by decide))).1.trans ((g_S13 x2 (lt18 r_x2 (by decide))).1.trans r_x2)))) (by decide) rfl q0 (by omega)
    replace T_S35 : ZT S35 := T_S35
    replace B_S35 : RP S30 S35 := B_S35
    have R_S35 : RP SZ S35 := rp_t R_S30 B_S35
    dsimp only at p_r34_0
    refine ok_cal2R h_r34 ?_
    have g_S35 := (fz_X6_putText h_r34 T_S30.2.2.2.2.1).2.2
    refine ok_bnd (fun v38 e56 => ?_)
    have t_v38 : v38.toInt = x3.toInt + 1 := ti_add e56 rfl (show (1 : Int32).toInt = 1 from rfl) (by omega) (by omega)
    have j57 := J_6_1 T_S35 ((g_S35 x2 (lt18 ((g_S30 x2 (lt18 ((g_S24 x2 (lt18 ((g_S19 x2 (lt18 ((g_S13 x2 (lt18 r_x2 (by decide))).1.trans r_x2) (by decide))).1.trans ((g_S13 x2 (lt18 r_x2 (by decide))).1.trans r_x2)) (by decide))).1.trans ((g_S19 x2 (lt18 ((g_S13 x2 (lt18 r_x2 (by decide))).1.trans r_x2) (by decide))).1.trans ((g_S13 x2 (lt18 r_x2 (by decide))).1.trans r_x2))) (by decide))).1.trans ((g_S24 x2 (lt18 ((g_S19 x2 (lt18 ((g_S13 x2 (lt18 r_x2 (by decide))).1.trans r_x2) (by decide))).1.trans ((g_S13 x2 (lt18 r_x2 (by decide))).1.trans r_x2)) (by decide))).1.trans ((g_S19 x2 (lt18 ((g_S13 x2 (lt18 r_x2 (by decide))).1.trans r_x2) (by decide))).1.trans ((g_S13 x2 (lt18 r_x2 (by decide))).1.trans r_x2)))) (by decide))).1.trans ((g_S30 x2 (lt18 ((g_S24 x2 (lt18 ((g_S19 x2 (lt18 ((g_S13 x2 (lt18 r_x2 (by decide))).1.trans r_x2) (by decide))).1.trans ((g_S13 x2 (lt18 r_x2 (by decide))).1.trans r_x2)) (by decide))).1.trans ((g_S19 x2 (lt18 ((g_S13 x2 (lt18 r_x2 (by decide))).1.trans r_x2) (by decide))).1.trans ((g_S13 x2 (lt18 r_x2 (by decide))).1.trans r_x2))) (by decide))).1.trans ((g_S24 x2 (lt18 ((g_S19 x2 (lt18 ((g_S13 x2 (lt18 r_x2 (by decide))).1.trans r_x2) (by decide))).1.trans ((g_S13 x2 (lt18 r_x2 (by decide))).1.trans r_x2)) (by decide))).1.trans ((g_S19 x2 (lt18 ((g_S13 x2 (lt18 r_x2 (by decide))).1.trans r_x2) (by decide))).1.trans ((g_S13 x2 (lt18 r_x2 (by decide))).1.trans r_x2)))))
    exact hself2 x0 x1 x2 v38 S35 T_S35 R_S35 ((g_S35 x0 (lt18 ((g_S30 x0 (lt18 ((g_S24 x0 (lt18 ((g_S19 x0 (lt18 ((g_S13 x0 (lt18 r_x0 (by decide))).1.trans r_x0) (by decide))).1.trans ((g_S13 x0 (lt18 r_x0 (by decide))).1.trans r_x0)) (by decide))).1.trans ((g_S19 x0 (lt18 ((g_S13 x0 (lt18 r_x0 (by decide))).1.trans r_x0) (by decide))).1.trans ((g_S13 x0 (lt18 r_x0 (by decide))).1.trans r_x0))) (by decide))).1.trans ((g_S24 x0 (lt18 ((g_S19 x0 (lt18 ((g_S13 x0 (lt18 r_x0 (by decide))).1.trans r_x0) (by decide))).1.trans ((g_S13 x0 (lt18 r_x0 (by decide))).1.trans r_x0)) (by decide))).1.trans ((g_S19 x0 (lt18 ((g_S13 x0 (lt18 r_x0 (by decide))).1.trans r_x0) (by decide))).1.trans ((g_S13 x0 (lt18 r_x0 (by decide))).1.trans r_x0)))) (by decide))).1.trans ((g_S30 x0 (lt18 ((g_S24 x0 (lt18 ((g_S19 x0 (lt18 ((g_S13 x0 (lt18 r_x0 (by decide))).1.trans r_x0) (by decide))).1.trans ((g_S13 x0 (lt18 r_x0 (by decide))).1.trans r_x0)) (by decide))).1.trans ((g_S19 x0 (lt18 ((g_S13 x0 (lt18 r_x0 (by decide))).1.trans r_x0) (by decide))).1.trans ((g_S13 x0 (lt18 r_x0 (by decide))).1.trans r_x0))) (by decide))).1.trans ((g_S24 x0 (lt18 ((g_S19 x0 (lt18 ((g_S13 x0 (lt18 r_x0 (by decide))).1.trans r_x0) (by decide))).1.trans ((g_S13 x0 (lt18 r_x0 (by decide))).1.trans r_x0)) (by decide))).1.trans ((g_S19 x0 (lt18 ((g_S13 x0 (lt18 r_x0 (by decide))).1.trans r_x0) (by decide))).1.trans ((g_S13 x0 (lt18 r_x0 (by decide))).1.trans r_x0))))) ((g_S35 x1 (lt18 ((g_S30 x1 (lt18 ((g_S24 x1 (lt18 ((g_S19 x1 (lt18 ((g_S13 x1 (lt18 r_x1 (by decide))).1.trans r_x1) (by decide))).1.trans ((g_S13 x1 (lt18 r_x1 (by decide))).1.trans r_x1)) (by decide))).1.trans ((g_S19 x1 (lt18 ((g_S13 x1 (lt18 r_x1 (by decide))).1.trans r_x1) (by decide))).1.trans ((g_S13 x1 (lt18 r_x1 (by decide))).1.trans r_x1))) (by decide))).1.trans ((g_S24 x1 (lt18 ((g_S19 x1 (lt18 ((g_S13 x1 (lt18 r_x1 (by decide))).1.trans r_x1) (by decide))).1.trans ((g_S13 x1 (lt18 r_x1 (by decide))).1.trans r_x1)) (by decide))).1.trans ((g_S19 x1 (lt18 ((g_S13 x1 (lt18 r_x1 (by decide))).1.trans r_x1) (by decide))).1.trans ((g_S13 x1 (lt18 r_x1 (by decide))).1.trans r_x1)))) (by decide))).1.trans ((g_S30 x1 (lt18 ((g_S24 x1 (lt18 ((g_S19 x1 (lt18 ((g_S13 x1 (lt18 r_x1 (by decide))).1.trans r_x1) (by decide))).1.trans ((g_S13 x1 (lt18 r_x1 (by decide))).1.trans r_x1)) (by decide))).1.trans ((g_S19 x1 (lt18 ((g_S13 x1 (lt18 r_x1 (by decide))).1.trans r_x1) (by decide))).1.trans ((g_S13 x1 (lt18 r_x1 (by decide))).1.trans r_x1))) (by decide))).1.trans ((g_S24 x1 (lt18 ((g_S19 x1 (lt18 ((g_S13 x1 (lt18 r_x1 (by decide))).1.trans r_x1) (by decide))).1.trans ((g_S13 x1 (lt18 r_x1 (by decide))).1.trans r_x1)) (by decide))).1.trans ((g_S19 x1 (lt18 ((g_S13 x1 (lt18 r_x1 (by decide))).1.trans r_x1) (by decide))).1.trans ((g_S13 x1 (lt18 r_x1 (by decide))).1.trans r_x1))))) ((g_S35 x2 (lt18 ((g_S30 x2 (lt18 ((g_S24 x2 (lt18 ((g_S19 x2 (lt18 ((g_S13 x2 (lt18 r_x2 (by decide))).1.trans r_x2) (by decide))).1.trans ((g_S13 x2 (lt18 r_x2 (by decide))).1.trans r_x2)) (by decide))).1.trans ((g_S19 x2 (lt18 ((g_S13 x2 (lt18 r_x2 (by decide))).1.trans r_x2) (by decide))).1.trans ((g_S13 x2 (lt18 r_x2 (by decide))).1.trans r_x2))) (by decide))).1.trans ((g_S24 x2 (lt18 ((g_S19 x2 (lt18 ((g_S13 x2 (lt18 r_x2 (by decide))).1.trans r_x2) (by decide))).1.trans ((g_S13 x2 (lt18 r_x2 (by decide))).1.trans r_x2)) (by decide))).1.trans ((g_S19 x2 (lt18 ((g_S13 x2 (lt18 r_x2 (by decide))).1.trans r_x2) (by decide))).1.trans ((g_S13 x2 (lt18 r_x2 (by decide))).1.trans r_x2)))) (by decide))).1.trans ((g_S30 x2 (lt18 ((g_S24 x2 (lt18 ((g_S19 x2 (lt18 ((g_S13 x2 (lt18 r_x2 (by decide))).1.trans r_x2) (by decide))).1.trans ((g_S13 x2 (lt18 r_x2 (by decide))).1.trans r_x2)) (by decide))).1.trans ((g_S19 x2 (lt18 ((g_S13 x2 (lt18 r_x2 (by decide))).1.trans r_x2) (by decide))).1.trans ((g_S13 x2 (lt18 r_x2 (by decide))).1.trans r_x2))) (by decide))).1.trans ((g_S24 x2 (lt18 ((g_S19 x2 (lt18 ((g_S13 x2 (lt18 r_x2 (by decide))).1.trans r_x2) (by decide))).1.trans ((g_S13 x2 (lt18 r_x2 (by decide))).1.trans r_x2)) (by decide))).1.trans ((g_S19 x2 (lt18 ((g_S13 x2 (lt18 r_x2 (by decide))).1.trans r_x2) (by decide))).1.trans ((g_S13 x2 (lt18 r_x2 (by decide))).1.trans r_x2))))) (by omega) q0 (by omega) (by omega)
theorem t_d_X3_putHead_2 {SZ : ZS} : ∀ (n : Nat) (x0 : Nat) (x1 : Nat) (x2 : Nat) (x3 : Int32) (S : ZS), ZT S → RP SZ S → (zK S x0 = 3) → (zK S x1 = 1) → (zK S x2 = 6) → ((0 : Int) ≤ x3.toInt ∧ x3.toInt ≤ (8 : Int)) → (rL x2 = 90000) → ((zI S 1 x2).toInt ≤ 10 + 615 * x3.toInt) → (9 - x3.toInt) < (n : Int) → Ok (d_X3_putHead_2  n x0 x1 x2 x3 S) (fun o => ZT o.2 ∧ RP SZ o.2 ∧ ((zI o.2 1 x2).toInt ≤ 6000)) := by
  intro n
  induction n with
  | zero => intro x0 x1 x2 x3 S hT hR g0 g1 g2 g3 g4 g5  hm; exfalso; omega
  | succ n ih =>
    intro x0 x1 x2 x3 S hT hR g0 g1 g2 g3 g4 g5  hm
    exact t_d_X3_putHead_2s (N2 := n)  ih hT hR g0 g1 g2 g3 g4 g5  (by omega)
theorem t_d_X3_putHead_0 {SZ S : ZS} {x0 : Nat} {x1 : Nat} {x2 : Nat} (hT : ZT S) (hR : RP SZ S) (r_x0 : zK S x0 = 3) (r_x1 : zK S x1 = 1) (r_x2 : zK S x2 = 6) (q0 : rL x2 = 90000) (q1 : (zI S 1 x2).toInt ≤ 10) : Ok (d_X3_putHead_0 x0 x1 x2 S) (fun o => ZT o.2 ∧ RP SZ o.2 ∧ ((zI o.2 1 x2).toInt ≤ 6000)) := by
  unfold d_X3_putHead_0
  have j58 := J_6_1 hT r_x2
  exact t_d_X3_putHead_2   mFuel x0 x1 x2 (0 : Int32) S hT hR r_x0 r_x1 r_x2 (by decide) q0 (by have z0 : (0 : Int32).toInt = 0 := rfl; omega) (by show _ < ((200000 : Nat) : Int); have z0 : (0 : Int32).toInt = 0 := rfl; omega)
theorem t_d_X3_putHead {SZ S : ZS} {x0 : Nat} {x1 : Nat} {x2 : Nat} (hT : ZT S) (hR : RP SZ S) (r_x0 : zK S x0 = 3) (r_x1 : zK S x1 = 1) (r_x2 : zK S x2 = 6) (q0 : rL x2 = 90000) (q1 : (zI S 1 x2).toInt ≤ 10) : Ok (d_X3_putHead x0 x1 x2 S) (fun o => ZT o.2 ∧ RP SZ o.2 ∧ ((zI o.2 1 x2).toInt ≤ 6000)) := t_d_X3_putHead_0 hT hR r_x0 r_x1 r_x2 q0 q1
theorem t_d_X3_putEnd_0 {SZ S : ZS} {x1 : Nat} {x2 : Nat} (hT : ZT S) (hR : RP SZ S) (r_x1 : zK S x1 = 1) (r_x2 : zK S x2 = 6) (q0 : rL x2 = 90000) (q1 : (zI S 1 x2).toInt ≤ 89900) : Ok (d_X3_putEnd_0 x1 x2 S) (fun o => ZT o.2 ∧ RP SZ o.2 ∧ True) := by
  unfold d_X3_putEnd_0
  have j59 := J_6_1 hT r_x2
  obtain ⟨⟨r2, S3⟩, h_r2, T_S3, B_S3, p_r2_0⟩ := t_d_X3_putGap (x0 := x2) (SZ := S) hT (rp_0 S) r_x2 rfl q0 (by omega)
  replace T_S3 : ZT S3 := T_S3
  replace B_S3 : RP S S3 := B_S3
  have R_S3 : RP SZ S3 := rp_t hR B_S3
  dsimp only at p_r2_0
  refine ok_cal2R h_r2 ?_
  have g_S3 := (fz_X3_putGap h_r2 hT.2.2.2.2.1).2.2
  refine ok_chk ((g_S3 x1 (lt18 r_x1 (by decide))).1.trans r_x1) ?_
  obtain ⟨r6, h_r6, p_r6⟩ := roz (t_f_X11_resultSign (x0 := (zI S3 6 x1)) T_S3 )
  dsimp only at p_r6
  refine ok_calR h_r6 ?_
  refine ok_chk ⟨rfl, rfl⟩ ?_
  refine ok_chk ((g_S3 x2 (lt18 r_x2 (by decide))).1.trans r_x2) ?_
  have j60 := J_6_1 T_S3 ((g_S3 x2 (lt18 r_x2 (by decide))).1.trans r_x2)
  obtain ⟨⟨r8, S9⟩, h_r8, T_S9, B_S9, p_r8_0⟩ := t_d_X6_putText (x0 := x2) (x1 := r6) (SZ := S3) T_S3 (rp_0 S3) ((g_S3 x2 (lt18 r_x2 (by decide))).1.trans r_x2) p_r6 rfl q0 (by omega)
  replace T_S9 : ZT S9 := T_S9
  replace B_S9 : RP S3 S9 := B_S9
  have R_S9 : RP SZ S9 := rp_t R_S3 B_S9
  dsimp only at p_r8_0
  refine ok_cal2R h_r8 ?_
  have g_S9 := (fz_X6_putText h_r8 T_S3.2.2.2.2.1).2.2
  exact ok_ret ⟨T_S9, R_S9, trivial⟩
theorem t_d_X3_putEnd {SZ S : ZS} {x0 : Nat} {x1 : Nat} {x2 : Nat} (hT : ZT S) (hR : RP SZ S) (r_x1 : zK S x1 = 1) (r_x2 : zK S x2 = 6) (q0 : rL x2 = 90000) (q1 : (zI S 1 x2).toInt ≤ 89900) : Ok (d_X3_putEnd x0 x1 x2 S) (fun o => ZT o.2 ∧ RP SZ o.2 ∧ True) := t_d_X3_putEnd_0 hT hR r_x1 r_x2 q0 q1
theorem t_d_X6_putNumber_29s {SZ S : ZS} {self29 : Nat → Int32 → Int32 → ZS → Option (Int32 × ZS)} {N29 : Nat} (hself29 : ∀ (x0 : Nat) (x1 : Int32) (x2 : Int32) (S : ZS), ZT S → RP SZ S → (zK S x0 = 6) → ((0 : Int) ≤ x2.toInt ∧ x2.toInt ≤ (2147483647 : Int)) → (rL x0 = 90000) → ((zI SZ 1 x0).toInt + 20 ≤ 90000) → ((zI S 1 x0).toInt ≤ (zI SZ 1 x0).toInt + 10 - dg x2.toInt) → ((x1.toInt ≤ 999 → (zI S 1 x0).toInt ≤ (zI SZ 1 x0).toInt + 3 - dg x2.toInt)) → (dg x2.toInt) < (N29 : Int) → Ok (self29 x0 x1 x2 S) (fun o => ZT o.2 ∧ RP SZ o.2 ∧ ((zI o.2 1 x0).toInt ≤ (zI SZ 1 x0).toInt + 10) ∧ ((x1.toInt ≤ 999 → (zI o.2 1 x0).toInt ≤ (zI SZ 1 x0).toInt + 3)))) {x0 : Nat} {x1 : Int32} {x2 : Int32} (hT : ZT S) (hR : RP SZ S) (r_x0 : zK S x0 = 6) (r_x2 : (0 : Int) ≤ x2.toInt ∧ x2.toInt ≤ (2147483647 : Int)) (q0 : rL x0 = 90000) (q1 : (zI SZ 1 x0).toInt + 20 ≤ 90000) (q2 : (zI S 1 x0).toInt ≤ (zI SZ 1 x0).toInt + 10 - dg x2.toInt) (q3 : (x1.toInt ≤ 999 → (zI S 1 x0).toInt ≤ (zI SZ 1 x0).toInt + 3 - dg x2.toInt)) (m29 : (dg x2.toInt) ≤ (N29 : Int)) : Ok (d_X6_putNumber_29s self29 x0 x1 x2 S) (fun o => ZT o.2 ∧ RP SZ o.2 ∧ ((zI o.2 1 x0).toInt ≤ (zI SZ 1 x0).toInt + 10) ∧ ((x1.toInt ≤ 999 → (zI o.2 1 x0).toInt ≤ (zI SZ 1 x0).toInt + 3))) := by
  unfold d_X6_putNumber_29s
  have d0 := dg_b x2.toInt
  refine ok_if (fun c61 => ?_) (fun c61 => ?_)
  ·
    replace c61 := ti_leP (a := x2) (b := (0 : Int32)) c61 rfl (show (0 : Int32).toInt = 0 from rfl)
    exact ok_ret ⟨hT, hR, (by show (zI S 1 x0).toInt ≤ (zI SZ 1 x0).toInt + 10; have z : (0 : Int32).toInt = 0 := rfl; omega), (by show (x1.toInt ≤ 999 → (zI S 1 x0).toInt ≤ (zI SZ 1 x0).toInt + 3); have z : (0 : Int32).toInt = 0 := rfl; omega)⟩
  ·
    replace c61 := ti_leN (a := x2) (b := (0 : Int32)) c61 rfl (show (0 : Int32).toInt = 0 from rfl)
    refine ok_chk (ti_ne0 (by omega)) ?_
    refine ok_bnd (fun v1 e62 => ?_)
    refine ok_bnd (fun v2 e63 => ?_)
    refine ok_bnd (fun v3 e64 => ?_)
    refine ok_bnd (fun v4 e65 => ?_)
    have t_v4 := nar_cb e65
    refine ok_chk r_x0 ?_
    have j66 := J_6_1 hT r_x0
    obtain ⟨⟨r6, S7⟩, h_r6, T_S7, B_S7, p_r6_0, p_r6_1⟩ := t_d_X6_put (x0 := x0) (x1 := v4) (SZ := S) hT (rp_0 S) r_x0 (by omega) (by omega) (rc_ol q0)
    replace T_S7 : ZT S7 := T_S7
    replace B_S7 : RP S S7 := B_S7
    have R_S7 : RP SZ S7 := rp_t hR B_S7
    dsimp only at p_r6_0 p_r6_1
    refine ok_cal2R h_r6 ?_
    have g_S7 := (fz_X6_put h_r6 hT.2.2.2.2.1).2.2
    refine ok_bnd (fun v10 e67 => ?_)
    have t_v10 : v10.toInt = x2.toInt / 10 := ti_div e67 rfl (show (10 : Int32).toInt = 10 from rfl) (by omega) (by decide)
    have d1 := dg_s (x := x2.toInt) (by omega) (by omega)
    have d2 : dg v10.toInt = dg (x2.toInt / 10) := by rw [t_v10]
    have j68 := J_6_1 T_S7 ((g_S7 x0 (lt18 r_x0 (by decide))).1.trans r_x0)
    exact hself29 x0 x1 v10 S7 T_S7 R_S7 ((g_S7 x0 (lt18 r_x0 (by decide))).1.trans r_x0) (by omega) q0 q1 (by omega) (by omega) (by omega)
theorem t_d_X6_putNumber_29 {SZ : ZS} : ∀ (n : Nat) (x0 : Nat) (x1 : Int32) (x2 : Int32) (S : ZS), ZT S → RP SZ S → (zK S x0 = 6) → ((0 : Int) ≤ x2.toInt ∧ x2.toInt ≤ (2147483647 : Int)) → (rL x0 = 90000) → ((zI SZ 1 x0).toInt + 20 ≤ 90000) → ((zI S 1 x0).toInt ≤ (zI SZ 1 x0).toInt + 10 - dg x2.toInt) → ((x1.toInt ≤ 999 → (zI S 1 x0).toInt ≤ (zI SZ 1 x0).toInt + 3 - dg x2.toInt)) → (dg x2.toInt) < (n : Int) → Ok (d_X6_putNumber_29  n x0 x1 x2 S) (fun o => ZT o.2 ∧ RP SZ o.2 ∧ ((zI o.2 1 x0).toInt ≤ (zI SZ 1 x0).toInt + 10) ∧ ((x1.toInt ≤ 999 → (zI o.2 1 x0).toInt ≤ (zI SZ 1 x0).toInt + 3))) := by
  intro n
  induction n with
  | zero => intro x0 x1 x2 S hT hR g0 g1 g2 g3 g4 g5  hm; exfalso; have d9 := dg_b x2.toInt; omega
  | succ n ih =>
    intro x0 x1 x2 S hT hR g0 g1 g2 g3 g4 g5  hm
    exact t_d_X6_putNumber_29s (N29 := n)  ih hT hR g0 g1 g2 g3 g4 g5  (by omega)
theorem t_d_X6_putNumber_4s {SZ S : ZS} {self4 : Nat → Int32 → Int32 → Int32 → ZS → Option (Int32 × ZS)} {N4 : Nat} (hself4 : ∀ (x0 : Nat) (x1 : Int32) (x2 : Int32) (x3 : Int32) (S : ZS), ZT S → RP SZ S → (zK S x0 = 6) → ((1 : Int) ≤ x2.toInt ∧ x2.toInt ≤ (2147483647 : Int)) → ((0 : Int) ≤ x3.toInt ∧ x3.toInt ≤ (9 : Int)) → (rL x0 = 90000) → ((zI SZ 1 x0).toInt + 20 ≤ 90000) → ((zI S 1 x0).toInt ≤ (zI SZ 1 x0).toInt + 0) → (x2.toInt = 1 ∨ x2.toInt ≤ x1.toInt) → (10 - x3.toInt) < (N4 : Int) → Ok (self4 x0 x1 x2 x3 S) (fun o => ZT o.2 ∧ RP SZ o.2 ∧ ((zI o.2 1 x0).toInt ≤ (zI SZ 1 x0).toInt + 10) ∧ ((x1.toInt ≤ 999 → (zI o.2 1 x0).toInt ≤ (zI SZ 1 x0).toInt + 3)))) {x0 : Nat} {x1 : Int32} {x2 : Int32} {x3 : Int32} (hT : ZT S) (hR : RP SZ S) (r_x0 : zK S x0 = 6) (r_x2 : (1 : Int) ≤ x2.toInt ∧ x2.toInt ≤ (2147483647 : Int)) (r_x3 : (0 : Int) ≤ x3.toInt ∧ x3.toInt ≤ (9 : Int)) (q0 : rL x0 = 90000) (q1 : (zI SZ 1 x0).toInt + 20 ≤ 90000) (q2 : (zI S 1 x0).toInt ≤ (zI SZ 1 x0).toInt + 0) (q3 : x2.toInt = 1 ∨ x2.toInt ≤ x1.toInt) (m4 : (10 - x3.toInt) ≤ (N4 : Int)) : Ok (d_X6_putNumber_4s self4 x0 x1 x2 x3 S) (fun o => ZT o.2 ∧ RP SZ o.2 ∧ ((zI o.2 1 x0).toInt ≤ (zI SZ 1 x0).toInt + 10) ∧ ((x1.toInt ≤ 999 → (zI o.2 1 x0).toInt ≤ (zI SZ 1 x0).toInt + 3))) := by
  unfold d_X6_putNumber_4s
  have d0 := dg_b x2.toInt
  have bx : x1.toInt ≤ 2147483647 := (tf_b x1).2
  refine ok_if (fun c69 => ?_) (fun c69 => ?_)
  ·
    replace c69 := ti_leP (a := (9 : Int32)) (b := x3) c69 (show (9 : Int32).toInt = 9 from rfl) rfl
    have j70 := J_6_1 hT r_x0
    exact t_d_X6_putNumber_29   mFuel x0 x1 x2 S hT hR r_x0 (by omega) q0 q1 (by omega) (by omega) (by show _ < ((200000 : Nat) : Int); omega)
  ·
    replace c69 := ti_leN (a := (9 : Int32)) (b := x3) c69 (show (9 : Int32).toInt = 9 from rfl) rfl
    refine ok_chk (ti_ne0 (by omega)) ?_
    refine ok_bnd (fun v1 e71 => ?_)
    have dv := dv_ge e71 (by omega)
    refine ok_if (fun c72 => ?_) (fun c72 => ?_)
    ·
      replace c72 := ti_ltP (a := v1) (b := (10 : Int32)) c72 rfl (show (10 : Int32).toInt = 10 from rfl)
      have j73 := J_6_1 hT r_x0
      exact t_d_X6_putNumber_29   mFuel x0 x1 x2 S hT hR r_x0 (by omega) q0 q1 (by omega) (by omega) (by show _ < ((200000 : Nat) : Int); omega)
    ·
      replace c72 := ti_ltN (a := v1) (b := (10 : Int32)) c72 rfl (show (10 : Int32).toInt = 10 from rfl)
      refine ok_bnd (fun v2 e74 => ?_)
      have t_v2 : v2.toInt = x2.toInt * 10 := ti_mul e74 rfl (show (10 : Int32).toInt = 10 from rfl) (by omega) (by omega)
      refine ok_bnd (fun v3 e75 => ?_)
      have t_v3 : v3.toInt = x3.toInt + 1 := ti_add e75 rfl (show (1 : Int32).toInt = 1 from rfl) (by omega) (by omega)
      have j76 := J_6_1 hT r_x0
      exact hself4 x0 x1 v2 v3 S hT hR r_x0 (by omega) (by omega) q0 q1 q2 (by omega) (by omega)
theorem t_d_X6_putNumber_4 {SZ : ZS} : ∀ (n : Nat) (x0 : Nat) (x1 : Int32) (x2 : Int32) (x3 : Int32) (S : ZS), ZT S → RP SZ S → (zK S x0 = 6) → ((1 : Int) ≤ x2.toInt ∧ x2.toInt ≤ (2147483647 : Int)) → ((0 : Int) ≤ x3.toInt ∧ x3.toInt ≤ (9 : Int)) → (rL x0 = 90000) → ((zI SZ 1 x0).toInt + 20 ≤ 90000) → ((zI S 1 x0).toInt ≤ (zI SZ 1 x0).toInt + 0) → (x2.toInt = 1 ∨ x2.toInt ≤ x1.toInt) → (10 - x3.toInt) < (n : Int) → Ok (d_X6_putNumber_4  n x0 x1 x2 x3 S) (fun o => ZT o.2 ∧ RP SZ o.2 ∧ ((zI o.2 1 x0).toInt ≤ (zI SZ 1 x0).toInt + 10) ∧ ((x1.toInt ≤ 999 → (zI o.2 1 x0).toInt ≤ (zI SZ 1 x0).toInt + 3))) := by
  intro n
  induction n with
  | zero => intro x0 x1 x2 x3 S hT hR g0 g1 g2 g3 g4 g5 g6  hm; exfalso; omega
  | succ n ih =>
    intro x0 x1 x2 x3 S hT hR g0 g1 g2 g3 g4 g5 g6  hm
    exact t_d_X6_putNumber_4s (N4 := n)  ih hT hR g0 g1 g2 g3 g4 g5 g6  (by omega)
theorem t_d_X6_putNumber_0 {SZ S : ZS} {x0 : Nat} {x1 : Int32} (hT : ZT S) (hR : RP SZ S) (r_x0 : zK S x0 = 6) (q0 : SZ = S) (q1 : rL x0 = 90000) (q2 : (zI SZ 1 x0).toInt + 20 ≤ 90000) : Ok (d_X6_putNumber_0 x0 x1 S) (fun o => ZT o.2 ∧ RP SZ o.2 ∧ ((zI o.2 1 x0).toInt ≤ (zI SZ 1 x0).toInt + 10) ∧ ((x1.toInt ≤ 999 → (zI o.2 1 x0).toInt ≤ (zI SZ 1 x0).toInt + 3))) := by
  unfold d_X6_putNumber_0
  have j77 := J_6_1 hT r_x0
  exact t_d_X6_putNumber_4   mFuel x0 x1 (1 : Int32) (0 : Int32) S hT hR r_x0 (by decide) (by decide) q1 q2 (by rw [q0]; have z0 : (1 : Int32).toInt = 1 := rfl; have z1 : (0 : Int32).toInt = 0 := rfl; omega) (by have z0 : (1 : Int32).toInt = 1 := rfl; have z1 : (0 : Int32).toInt = 0 := rfl; omega) (by show _ < ((200000 : Nat) : Int); have z0 : (1 : Int32).toInt = 1 := rfl; have z1 : (0 : Int32).toInt = 0 := rfl; omega)
theorem t_d_X6_putNumber {SZ S : ZS} {x0 : Nat} {x1 : Int32} (hT : ZT S) (hR : RP SZ S) (r_x0 : zK S x0 = 6) (q0 : SZ = S) (q1 : rL x0 = 90000) (q2 : (zI SZ 1 x0).toInt + 20 ≤ 90000) : Ok (d_X6_putNumber x0 x1 S) (fun o => ZT o.2 ∧ RP SZ o.2 ∧ ((zI o.2 1 x0).toInt ≤ (zI SZ 1 x0).toInt + 10) ∧ ((x1.toInt ≤ 999 → (zI o.2 1 x0).toInt ≤ (zI SZ 1 x0).toInt + 3))) := t_d_X6_putNumber_0 hT hR r_x0 q0 q1 q2
theorem t_d_X9_putApart_148 {SZ S : ZS} {x2 : Int32} {x4 : Nat} {x6 : Int32} (hT : ZT S) (hR : RP SZ S) (r_x2 : (0 : Int) ≤ x2.toInt ∧ x2.toInt ≤ (63 : Int)) (r_x4 : zK S x4 = 6) (r_x6 : (0 : Int) ≤ x6.toInt ∧ x6.toInt ≤ (1 : Int)) (q0 : rL x4 = 90000) (q1 : (zI SZ 1 x4).toInt + 10 ≤ 90000) (q2 : (zI S 1 x4).toInt ≤ (zI SZ 1 x4).toInt + 1) : Ok (d_X9_putApart_148 x2 x4 x6 S) (fun o => ZT o.2 ∧ RP SZ o.2 ∧ ((zI o.2 1 x4).toInt ≤ (zI SZ 1 x4).toInt + 2)) := by
  unfold d_X9_putApart_148
  have j78 := J_6_1 hT r_x4
  refine ok_if (fun c79 => ?_) (fun c79 => ?_)
  ·
    replace c79 := ti_eqP (a := x6) (b := (0 : Int32)) c79 rfl (show (0 : Int32).toInt = 0 from rfl)
    unfold d_X9_putApart_162
    exact ok_ret ⟨hT, hR, (by show (zI S 1 x4).toInt ≤ (zI SZ 1 x4).toInt + 2; have z : (0 : Int32).toInt = 0 := rfl; omega)⟩
  ·
    replace c79 := ti_eqN (a := x6) (b := (0 : Int32)) c79 rfl (show (0 : Int32).toInt = 0 from rfl)
    obtain ⟨r1, h_r1, p_r1⟩ := roz (t_f_X11_rankDigit (x0 := x2) hT r_x2)
    dsimp only at p_r1
    refine ok_calR h_r1 ?_
    refine ok_chk ⟨rfl, rfl⟩ ?_
    refine ok_chk r_x4 ?_
    obtain ⟨⟨r3, S4⟩, h_r3, T_S4, B_S4, p_r3_0, p_r3_1⟩ := t_d_X6_put (x0 := x4) (x1 := r1) (SZ := S) hT (rp_0 S) r_x4 (by omega) (by omega) (rc_ol q0)
    replace T_S4 : ZT S4 := T_S4
    replace B_S4 : RP S S4 := B_S4
    have R_S4 : RP SZ S4 := rp_t hR B_S4
    dsimp only at p_r3_0 p_r3_1
    refine ok_cal2R h_r3 ?_
    have g_S4 := (fz_X6_put h_r3 hT.2.2.2.2.1).2.2
    unfold d_X9_putApart_162
    exact ok_ret ⟨T_S4, R_S4, (by show (zI S4 1 x4).toInt ≤ (zI SZ 1 x4).toInt + 2; have z : (0 : Int32).toInt = 0 := rfl; omega)⟩
theorem t_d_X9_putApart_139 {SZ S : ZS} {x2 : Int32} {x4 : Nat} {x6 : Int32} (hT : ZT S) (hR : RP SZ S) (r_x2 : (0 : Int) ≤ x2.toInt ∧ x2.toInt ≤ (63 : Int)) (r_x4 : zK S x4 = 6) (r_x6 : (0 : Int) ≤ x6.toInt ∧ x6.toInt ≤ (1 : Int)) (q0 : rL x4 = 90000) (q1 : (zI SZ 1 x4).toInt + 10 ≤ 90000) (q2 : (zI S 1 x4).toInt ≤ (zI SZ 1 x4).toInt + 0) : Ok (d_X9_putApart_139 x2 x4 x6 S) (fun o => ZT o.2 ∧ RP SZ o.2 ∧ ((zI o.2 1 x4).toInt ≤ (zI SZ 1 x4).toInt + 2)) := by
  unfold d_X9_putApart_139
  have j80 := J_6_1 hT r_x4
  obtain ⟨r1, h_r1, p_r1⟩ := roz (t_f_X11_fileLetter (x0 := x2) hT r_x2)
  dsimp only at p_r1
  refine ok_calR h_r1 ?_
  refine ok_chk ⟨rfl, rfl⟩ ?_
  refine ok_chk r_x4 ?_
  obtain ⟨⟨r3, S4⟩, h_r3, T_S4, B_S4, p_r3_0, p_r3_1⟩ := t_d_X6_put (x0 := x4) (x1 := r1) (SZ := S) hT (rp_0 S) r_x4 (by omega) (by omega) (rc_ol q0)
  replace T_S4 : ZT S4 := T_S4
  replace B_S4 : RP S S4 := B_S4
  have R_S4 : RP SZ S4 := rp_t hR B_S4
  dsimp only at p_r3_0 p_r3_1
  refine ok_cal2R h_r3 ?_
  have g_S4 := (fz_X6_put h_r3 hT.2.2.2.2.1).2.2
  have j81 := J_6_1 T_S4 ((g_S4 x4 (lt18 r_x4 (by decide))).1.trans r_x4)
  exact t_d_X9_putApart_148 (S := S4)  (x2 := x2) (x4 := x4) (x6 := x6) T_S4 R_S4 r_x2 ((g_S4 x4 (lt18 r_x4 (by decide))).1.trans r_x4) r_x6 q0 q1 (by omega)
theorem t_d_X9_putApart_94 {SZ S : ZS} {self12 : Nat → Nat → Int32 → Int32 → Nat → Int32 → Int32 → Int32 → Int32 → ZS → Option (Int32 × ZS)} {N12 : Nat} (hself12 : ∀ (x0 : Nat) (x1 : Nat) (x2 : Int32) (x3 : Int32) (x4 : Nat) (x5 : Int32) (x6 : Int32) (x7 : Int32) (x8 : Int32) (S : ZS), ZT S → RP SZ S → (zK S x0 = 9) → (zK S x1 = 0) → ((0 : Int) ≤ x2.toInt ∧ x2.toInt ≤ (63 : Int)) → ((0 : Int) ≤ x3.toInt ∧ x3.toInt ≤ (63 : Int)) → (zK S x4 = 6) → ((0 : Int) ≤ x5.toInt ∧ x5.toInt ≤ (1 : Int)) → ((0 : Int) ≤ x6.toInt ∧ x6.toInt ≤ (1 : Int)) → ((0 : Int) ≤ x7.toInt ∧ x7.toInt ≤ (1 : Int)) → ((0 : Int) ≤ x8.toInt ∧ x8.toInt ≤ (64 : Int)) → (rL x4 = 90000) → ((zI SZ 1 x4).toInt + 10 ≤ 90000) → ((zI S 1 x4).toInt ≤ (zI SZ 1 x4).toInt + 0) → (65 - x8.toInt) < (N12 : Int) → Ok (self12 x0 x1 x2 x3 x4 x5 x6 x7 x8 S) (fun o => ZT o.2 ∧ RP SZ o.2 ∧ ((zI o.2 1 x4).toInt ≤ (zI SZ 1 x4).toInt + 2))) {x0 : Nat} {x1 : Nat} {x2 : Int32} {x3 : Int32} {x4 : Nat} {x5 : Int32} {x7 : Int32} {x8 : Int32} {t0 : Int32} (hT : ZT S) (hR : RP SZ S) (r_x0 : zK S x0 = 9) (r_x1 : zK S x1 = 0) (r_x2 : (0 : Int) ≤ x2.toInt ∧ x2.toInt ≤ (63 : Int)) (r_x3 : (0 : Int) ≤ x3.toInt ∧ x3.toInt ≤ (63 : Int)) (r_x4 : zK S x4 = 6) (r_x5 : (0 : Int) ≤ x5.toInt ∧ x5.toInt ≤ (1 : Int)) (r_x7 : (0 : Int) ≤ x7.toInt ∧ x7.toInt ≤ (1 : Int)) (r_x8 : (0 : Int) ≤ x8.toInt ∧ x8.toInt ≤ (63 : Int)) (r_t0 : (0 : Int) ≤ t0.toInt ∧ t0.toInt ≤ (1 : Int)) (q0 : rL x4 = 90000) (q1 : (zI SZ 1 x4).toInt + 10 ≤ 90000) (q2 : (zI S 1 x4).toInt ≤ (zI SZ 1 x4).toInt + 0) (m12 : (65 - x8.toInt) ≤ (N12 : Int)) : Ok (d_X9_putApart_94 self12 x0 x1 x2 x3 x4 x5 x7 x8 t0 S) (fun o => ZT o.2 ∧ RP SZ o.2 ∧ ((zI o.2 1 x4).toInt ≤ (zI SZ 1 x4).toInt + 2)) := by
  unfold d_X9_putApart_94
  have j82 := J_6_1 hT r_x4
  refine ok_if (fun c83 => ?_) (fun c83 => ?_)
  ·
    replace c83 := ti_eqP (a := x7) (b := (0 : Int32)) c83 rfl (show (0 : Int32).toInt = 0 from rfl)
    refine ok_bnd (fun v1 e84 => ?_)
    have t_v1 : v1.toInt = x8.toInt / 8 := b_sh3 e84 (by omega)
    refine ok_bnd (fun v2 e85 => ?_)
    have t_v2 : v2.toInt = x2.toInt / 8 := b_sh3 e85 (by omega)
    refine ok_if (fun c86 => ?_) (fun c86 => ?_)
    ·
      replace c86 := ti_eqP (a := v1) (b := v2) c86 rfl rfl
      unfold d_X9_putApart_111
      unfold d_X9_putApart_116
      unfold d_X9_putApart_118
      refine ok_bnd (fun v1w87 e87 => ?_)
      have t_v1w87 : v1w87.toInt = x8.toInt + 1 := ti_add e87 rfl (show (1 : Int32).toInt = 1 from rfl) (by omega) (by omega)
      exact hself12 x0 x1 x2 x3 x4 x5 t0 (1 : Int32) v1w87 S hT hR r_x0 r_x1 r_x2 r_x3 r_x4 r_x5 r_t0 (by decide) (by omega) q0 q1 q2 (by omega)
    ·
      replace c86 := ti_eqN (a := v1) (b := v2) c86 rfl rfl
      unfold d_X9_putApart_116
      unfold d_X9_putApart_118
      refine ok_bnd (fun v1w88 e88 => ?_)
      have t_v1w88 : v1w88.toInt = x8.toInt + 1 := ti_add e88 rfl (show (1 : Int32).toInt = 1 from rfl) (by omega) (by omega)
      exact hself12 x0 x1 x2 x3 x4 x5 t0 (0 : Int32) v1w88 S hT hR r_x0 r_x1 r_x2 r_x3 r_x4 r_x5 r_t0 (by decide) (by omega) q0 q1 q2 (by omega)
  ·
    replace c83 := ti_eqN (a := x7) (b := (0 : Int32)) c83 rfl (show (0 : Int32).toInt = 0 from rfl)
    unfold d_X9_putApart_111
    unfold d_X9_putApart_116
    unfold d_X9_putApart_118
    refine ok_bnd (fun v1 e89 => ?_)
    have t_v1 : v1.toInt = x8.toInt + 1 := ti_add e89 rfl (show (1 : Int32).toInt = 1 from rfl) (by omega) (by omega)
    exact hself12 x0 x1 x2 x3 x4 x5 t0 (1 : Int32) v1 S hT hR r_x0 r_x1 r_x2 r_x3 r_x4 r_x5 r_t0 (by decide) (by omega) q0 q1 q2 (by omega)
theorem t_d_X9_putApart_12s {SZ S : ZS} {self12 : Nat → Nat → Int32 → Int32 → Nat → Int32 → Int32 → Int32 → Int32 → ZS → Option (Int32 × ZS)} {N12 : Nat} (hself12 : ∀ (x0 : Nat) (x1 : Nat) (x2 : Int32) (x3 : Int32) (x4 : Nat) (x5 : Int32) (x6 : Int32) (x7 : Int32) (x8 : Int32) (S : ZS), ZT S → RP SZ S → (zK S x0 = 9) → (zK S x1 = 0) → ((0 : Int) ≤ x2.toInt ∧ x2.toInt ≤ (63 : Int)) → ((0 : Int) ≤ x3.toInt ∧ x3.toInt ≤ (63 : Int)) → (zK S x4 = 6) → ((0 : Int) ≤ x5.toInt ∧ x5.toInt ≤ (1 : Int)) → ((0 : Int) ≤ x6.toInt ∧ x6.toInt ≤ (1 : Int)) → ((0 : Int) ≤ x7.toInt ∧ x7.toInt ≤ (1 : Int)) → ((0 : Int) ≤ x8.toInt ∧ x8.toInt ≤ (64 : Int)) → (rL x4 = 90000) → ((zI SZ 1 x4).toInt + 10 ≤ 90000) → ((zI S 1 x4).toInt ≤ (zI SZ 1 x4).toInt + 0) → (65 - x8.toInt) < (N12 : Int) → Ok (self12 x0 x1 x2 x3 x4 x5 x6 x7 x8 S) (fun o => ZT o.2 ∧ RP SZ o.2 ∧ ((zI o.2 1 x4).toInt ≤ (zI SZ 1 x4).toInt + 2))) {x0 : Nat} {x1 : Nat} {x2 : Int32} {x3 : Int32} {x4 : Nat} {x5 : Int32} {x6 : Int32} {x7 : Int32} {x8 : Int32} (hT : ZT S) (hR : RP SZ S) (r_x0 : zK S x0 = 9) (r_x1 : zK S x1 = 0) (r_x2 : (0 : Int) ≤ x2.toInt ∧ x2.toInt ≤ (63 : Int)) (r_x3 : (0 : Int) ≤ x3.toInt ∧ x3.toInt ≤ (63 : Int)) (r_x4 : zK S x4 = 6) (r_x5 : (0 : Int) ≤ x5.toInt ∧ x5.toInt ≤ (1 : Int)) (r_x6 : (0 : Int) ≤ x6.toInt ∧ x6.toInt ≤ (1 : Int)) (r_x7 : (0 : Int) ≤ x7.toInt ∧ x7.toInt ≤ (1 : Int)) (r_x8 : (0 : Int) ≤ x8.toInt ∧ x8.toInt ≤ (64 : Int)) (q0 : rL x4 = 90000) (q1 : (zI SZ 1 x4).toInt + 10 ≤ 90000) (q2 : (zI S 1 x4).toInt ≤ (zI SZ 1 x4).toInt + 0) (m12 : (65 - x8.toInt) ≤ (N12 : Int)) : Ok (d_X9_putApart_12s self12 x0 x1 x2 x3 x4 x5 x6 x7 x8 S) (fun o => ZT o.2 ∧ RP SZ o.2 ∧ ((zI o.2 1 x4).toInt ≤ (zI SZ 1 x4).toInt + 2)) := by
  unfold d_X9_putApart_12s
  have j90 := J_6_1 hT r_x4
  refine ok_if (fun c91 => ?_) (fun c91 => ?_)
  ·
    replace c91 := ti_leP (a := (64 : Int32)) (b := x8) c91 (show (64 : Int32).toInt = 64 from rfl) rfl
    refine ok_if (fun c92 => ?_) (fun c92 => ?_)
    ·
      replace c92 := ti_eqP (a := x5) (b := (0 : Int32)) c92 rfl (show (0 : Int32).toInt = 0 from rfl)
      exact t_d_X9_putApart_148 (S := S)  (x2 := x2) (x4 := x4) (x6 := x6) hT hR r_x2 r_x4 r_x6 q0 q1 (by omega)
    ·
      replace c92 := ti_eqN (a := x5) (b := (0 : Int32)) c92 rfl (show (0 : Int32).toInt = 0 from rfl)
      refine ok_if (fun c93 => ?_) (fun c93 => ?_)
      ·
        replace c93 := ti_eqP (a := x6) (b := (0 : Int32)) c93 rfl (show (0 : Int32).toInt = 0 from rfl)
        exact t_d_X9_putApart_139 (S := S)  (x2 := x2) (x4 := x4) (x6 := x6) hT hR r_x2 r_x4 r_x6 q0 q1 q2
      ·
        replace c93 := ti_eqN (a := x6) (b := (0 : Int32)) c93 rfl (show (0 : Int32).toInt = 0 from rfl)
        refine ok_if (fun c94 => ?_) (fun c94 => ?_)
        ·
          replace c94 := ti_eqP (a := x7) (b := (0 : Int32)) c94 rfl (show (0 : Int32).toInt = 0 from rfl)
          exact t_d_X9_putApart_148 (S := S)  (x2 := x2) (x4 := x4) (x6 := x6) hT hR r_x2 r_x4 r_x6 q0 q1 (by omega)
        ·
          replace c94 := ti_eqN (a := x7) (b := (0 : Int32)) c94 rfl (show (0 : Int32).toInt = 0 from rfl)
          exact t_d_X9_putApart_139 (S := S)  (x2 := x2) (x4 := x4) (x6 := x6) hT hR r_x2 r_x4 r_x6 q0 q1 q2
  ·
    replace c91 := ti_leN (a := (64 : Int32)) (b := x8) c91 (show (64 : Int32).toInt = 64 from rfl) rfl
    refine ok_if (fun c95 => ?_) (fun c95 => ?_)
    ·
      replace c95 := ti_eqP (a := x8) (b := x2) c95 rfl rfl
      unfold d_X9_putApart_118
      refine ok_bnd (fun v1 e96 => ?_)
      have t_v1 : v1.toInt = x8.toInt + 1 := ti_add e96 rfl (show (1 : Int32).toInt = 1 from rfl) (by omega) (by omega)
      exact hself12 x0 x1 x2 x3 x4 x5 x6 x7 v1 S hT hR r_x0 r_x1 r_x2 r_x3 r_x4 r_x5 r_x6 r_x7 (by omega) q0 q1 q2 (by omega)
    ·
      replace c95 := ti_eqN (a := x8) (b := x2) c95 rfl rfl
      refine ok_chk r_x1 ?_
      obtain ⟨b1, p_b1, k_b1, n_b1⟩ := T_0_0 hT r_x1
      refine ok_calR p_b1 ?_
      refine ok_chk k_b1 ?_
      refine ok_chk (ti_inN (v := x8) (n := 64) n_b1 (by omega) (by omega)) ?_
      refine ok_bnd (fun v2 e97 => ?_)
      refine ok_chk r_x1 ?_
      refine ok_calR p_b1 ?_
      refine ok_chk k_b1 ?_
      refine ok_chk (ti_inN (v := x2) (n := 64) n_b1 (by omega) (by omega)) ?_
      refine ok_bnd (fun v4 e98 => ?_)
      refine ok_if (fun c99 => ?_) (fun c99 => ?_)
      ·
        replace c99 := ti_eqP (a := v2) (b := v4) c99 rfl rfl
        refine ok_chk r_x1 ?_
        obtain ⟨r5, h_r5, p_r5⟩ := roz (t_f_X0_reaches (x0 := x1) (x1 := x8) (x2 := x3) hT r_x1 (by omega) r_x3)
        dsimp only at p_r5
        refine ok_calR h_r5 ?_
        refine ok_chk ⟨rfl, rfl⟩ ?_
        refine ok_if (fun c100 => ?_) (fun c100 => ?_)
        ·
          replace c100 := ti_eqP (a := r5) (b := (0 : Int32)) c100 rfl (show (0 : Int32).toInt = 0 from rfl)
          unfold d_X9_putApart_118
          refine ok_bnd (fun v1 e101 => ?_)
          have t_v1 : v1.toInt = x8.toInt + 1 := ti_add e101 rfl (show (1 : Int32).toInt = 1 from rfl) (by omega) (by omega)
          exact hself12 x0 x1 x2 x3 x4 x5 x6 x7 v1 S hT hR r_x0 r_x1 r_x2 r_x3 r_x4 r_x5 r_x6 r_x7 (by omega) q0 q1 q2 (by omega)
        ·
          replace c100 := ti_eqN (a := r5) (b := (0 : Int32)) c100 rfl (show (0 : Int32).toInt = 0 from rfl)
          refine ok_chk r_x0 ?_
          obtain ⟨b6, p_b6, k_b6⟩ := T_9_0 hT r_x0
          refine ok_calR p_b6 ?_
          refine ok_bnd (fun v7 e102 => ?_)
          have t_v7 : v7.toInt = 64 * x3.toInt := ti_mul e102 (show (64 : Int32).toInt = 64 from rfl) rfl (by omega) (by omega)
          refine ok_bnd (fun v8 e103 => ?_)
          have t_v8 : v8.toInt = x8.toInt + v7.toInt := ti_add e103 rfl rfl (by omega) (by omega)
          refine ok_chk k_b6 ?_
          obtain ⟨⟨r9, S9⟩, h_r9, T_S9, A_S9, p_r9⟩ := t_f_X7_isSafe (x0 := b6) (x1 := x1) (x2 := v8) (SZ := S) hT (a7_0 S) k_b6 r_x1
          replace T_S9 : ZT S9 := T_S9
          replace A_S9 : A7 S S9 := A_S9
          dsimp only at p_r9
          refine ok_calR h_r9 ?_
          have q_S9 := fq_X7_isSafe h_r9
          have kE_S9 : zK S9 = zK S := q_S9.2.2.1
          have nE_S9 : zN S9 = zN S := q_S9.2.2.2.1
          have R_S9 : RP SZ S9 := rp_f hR hT q_S9 (fz_X7_isSafe h_r9) (by decide) A_S9
          have : (zI S9 1 x4).toInt = (zI S 1 x4).toInt := congrArg Int32.toInt ((((fz_X7_isSafe h_r9) hT.2.2.2.2.1).2.2 x4 (by rw [r_x4]; decide)).2.2.1 1 (by rw [r_x4]; decide))
          refine ok_chk ⟨q_S9.1, q_S9.2.1⟩ ?_
          refine ok_if (fun c104 => ?_) (fun c104 => ?_)
          ·
            replace c104 := ti_eqP (a := r9) (b := (0 : Int32)) c104 rfl (show (0 : Int32).toInt = 0 from rfl)
            unfold d_X9_putApart_118
            refine ok_bnd (fun v1 e105 => ?_)
            have t_v1 : v1.toInt = x8.toInt + 1 := ti_add e105 rfl (show (1 : Int32).toInt = 1 from rfl) (by omega) (by omega)
            have j106 := J_6_1 T_S9 ((congrFun kE_S9 x4).trans r_x4)
            exact hself12 x0 x1 x2 x3 x4 x5 x6 x7 v1 S9 T_S9 R_S9 ((congrFun kE_S9 x0).trans r_x0) ((congrFun kE_S9 x1).trans r_x1) r_x2 r_x3 ((congrFun kE_S9 x4).trans r_x4) r_x5 r_x6 r_x7 (by omega) q0 q1 (by omega) (by omega)
          ·
            replace c104 := ti_eqN (a := r9) (b := (0 : Int32)) c104 rfl (show (0 : Int32).toInt = 0 from rfl)
            refine ok_if (fun c107 => ?_) (fun c107 => ?_)
            ·
              replace c107 := ti_eqP (a := x6) (b := (0 : Int32)) c107 rfl (show (0 : Int32).toInt = 0 from rfl)
              refine ok_bnd (fun v10 e108 => ?_)
              have t_v10 : v10.toInt = x8.toInt % 8 := b_and7 e108 (by omega)
              refine ok_bnd (fun v11 e109 => ?_)
              have t_v11 : v11.toInt = x2.toInt % 8 := b_and7 e109 (by omega)
              refine ok_if (fun c110 => ?_) (fun c110 => ?_)
              ·
                replace c110 := ti_eqP (a := v10) (b := v11) c110 rfl rfl
                unfold d_X9_putApart_89
                have j111 := J_6_1 T_S9 ((congrFun kE_S9 x4).trans r_x4)
                exact t_d_X9_putApart_94 (S := S9) hself12 (x0 := x0) (x1 := x1) (x2 := x2) (x3 := x3) (x4 := x4) (x5 := (1 : Int32)) (x7 := x7) (x8 := x8) (t0 := (1 : Int32)) T_S9 R_S9 ((congrFun kE_S9 x0).trans r_x0) ((congrFun kE_S9 x1).trans r_x1) r_x2 r_x3 ((congrFun kE_S9 x4).trans r_x4) (by decide) r_x7 (by omega) (by decide) q0 q1 (by have z0 : (1 : Int32).toInt = 1 := rfl; have z1 : (1 : Int32).toInt = 1 := rfl; omega) m12
              ·
                replace c110 := ti_eqN (a := v10) (b := v11) c110 rfl rfl
                have j112 := J_6_1 T_S9 ((congrFun kE_S9 x4).trans r_x4)
                exact t_d_X9_putApart_94 (S := S9) hself12 (x0 := x0) (x1 := x1) (x2 := x2) (x3 := x3) (x4 := x4) (x5 := (1 : Int32)) (x7 := x7) (x8 := x8) (t0 := (0 : Int32)) T_S9 R_S9 ((congrFun kE_S9 x0).trans r_x0) ((congrFun kE_S9 x1).trans r_x1) r_x2 r_x3 ((congrFun kE_S9 x4).trans r_x4) (by decide) r_x7 (by omega) (by decide) q0 q1 (by have z0 : (1 : Int32).toInt = 1 := rfl; have z1 : (0 : Int32).toInt = 0 := rfl; omega) m12
            ·
              replace c107 := ti_eqN (a := x6) (b := (0 : Int32)) c107 rfl (show (0 : Int32).toInt = 0 from rfl)
              unfold d_X9_putApart_89
              have j113 := J_6_1 T_S9 ((congrFun kE_S9 x4).trans r_x4)
              exact t_d_X9_putApart_94 (S := S9) hself12 (x0 := x0) (x1 := x1) (x2 := x2) (x3 := x3) (x4 := x4) (x5 := (1 : Int32)) (x7 := x7) (x8 := x8) (t0 := (1 : Int32)) T_S9 R_S9 ((congrFun kE_S9 x0).trans r_x0) ((congrFun kE_S9 x1).trans r_x1) r_x2 r_x3 ((congrFun kE_S9 x4).trans r_x4) (by decide) r_x7 (by omega) (by decide) q0 q1 (by have z0 : (1 : Int32).toInt = 1 := rfl; have z1 : (1 : Int32).toInt = 1 := rfl; omega) m12
      ·
        replace c99 := ti_eqN (a := v2) (b := v4) c99 rfl rfl
        unfold d_X9_putApart_118
        refine ok_bnd (fun v1 e114 => ?_)
        have t_v1 : v1.toInt = x8.toInt + 1 := ti_add e114 rfl (show (1 : Int32).toInt = 1 from rfl) (by omega) (by omega)
        exact hself12 x0 x1 x2 x3 x4 x5 x6 x7 v1 S hT hR r_x0 r_x1 r_x2 r_x3 r_x4 r_x5 r_x6 r_x7 (by omega) q0 q1 q2 (by omega)
theorem t_d_X9_putApart_12 {SZ : ZS} : ∀ (n : Nat) (x0 : Nat) (x1 : Nat) (x2 : Int32) (x3 : Int32) (x4 : Nat) (x5 : Int32) (x6 : Int32) (x7 : Int32) (x8 : Int32) (S : ZS), ZT S → RP SZ S → (zK S x0 = 9) → (zK S x1 = 0) → ((0 : Int) ≤ x2.toInt ∧ x2.toInt ≤ (63 : Int)) → ((0 : Int) ≤ x3.toInt ∧ x3.toInt ≤ (63 : Int)) → (zK S x4 = 6) → ((0 : Int) ≤ x5.toInt ∧ x5.toInt ≤ (1 : Int)) → ((0 : Int) ≤ x6.toInt ∧ x6.toInt ≤ (1 : Int)) → ((0 : Int) ≤ x7.toInt ∧ x7.toInt ≤ (1 : Int)) → ((0 : Int) ≤ x8.toInt ∧ x8.toInt ≤ (64 : Int)) → (rL x4 = 90000) → ((zI SZ 1 x4).toInt + 10 ≤ 90000) → ((zI S 1 x4).toInt ≤ (zI SZ 1 x4).toInt + 0) → (65 - x8.toInt) < (n : Int) → Ok (d_X9_putApart_12  n x0 x1 x2 x3 x4 x5 x6 x7 x8 S) (fun o => ZT o.2 ∧ RP SZ o.2 ∧ ((zI o.2 1 x4).toInt ≤ (zI SZ 1 x4).toInt + 2)) := by
  intro n
  induction n with
  | zero => intro x0 x1 x2 x3 x4 x5 x6 x7 x8 S hT hR g0 g1 g2 g3 g4 g5 g6 g7 g8 g9 g10 g11  hm; exfalso; omega
  | succ n ih =>
    intro x0 x1 x2 x3 x4 x5 x6 x7 x8 S hT hR g0 g1 g2 g3 g4 g5 g6 g7 g8 g9 g10 g11  hm
    exact t_d_X9_putApart_12s (N12 := n)  ih hT hR g0 g1 g2 g3 g4 g5 g6 g7 g8 g9 g10 g11  (by omega)
theorem t_d_X9_putApart_0 {SZ S : ZS} {x0 : Nat} {x1 : Nat} {x2 : Int32} {x3 : Int32} {x4 : Nat} (hT : ZT S) (hR : RP SZ S) (r_x0 : zK S x0 = 9) (r_x1 : zK S x1 = 0) (r_x2 : (0 : Int) ≤ x2.toInt ∧ x2.toInt ≤ (63 : Int)) (r_x3 : (0 : Int) ≤ x3.toInt ∧ x3.toInt ≤ (63 : Int)) (r_x4 : zK S x4 = 6) (q0 : SZ = S) (q1 : rL x4 = 90000) (q2 : (zI SZ 1 x4).toInt + 10 ≤ 90000) : Ok (d_X9_putApart_0 x0 x1 x2 x3 x4 S) (fun o => ZT o.2 ∧ RP SZ o.2 ∧ ((zI o.2 1 x4).toInt ≤ (zI SZ 1 x4).toInt + 2)) := by
  unfold d_X9_putApart_0
  have j115 := J_6_1 hT r_x4
  exact t_d_X9_putApart_12   mFuel x0 x1 x2 x3 x4 (0 : Int32) (0 : Int32) (0 : Int32) (0 : Int32) S hT hR r_x0 r_x1 r_x2 r_x3 r_x4 (by decide) (by decide) (by decide) (by decide) q1 q2 (by rw [q0]; have z0 : (0 : Int32).toInt = 0 := rfl; have z1 : (0 : Int32).toInt = 0 := rfl; have z2 : (0 : Int32).toInt = 0 := rfl; have z3 : (0 : Int32).toInt = 0 := rfl; omega) (by show _ < ((200000 : Nat) : Int); have z0 : (0 : Int32).toInt = 0 := rfl; have z1 : (0 : Int32).toInt = 0 := rfl; have z2 : (0 : Int32).toInt = 0 := rfl; have z3 : (0 : Int32).toInt = 0 := rfl; omega)
theorem t_d_X9_putApart {SZ S : ZS} {x0 : Nat} {x1 : Nat} {x2 : Int32} {x3 : Int32} {x4 : Nat} (hT : ZT S) (hR : RP SZ S) (r_x0 : zK S x0 = 9) (r_x1 : zK S x1 = 0) (r_x2 : (0 : Int) ≤ x2.toInt ∧ x2.toInt ≤ (63 : Int)) (r_x3 : (0 : Int) ≤ x3.toInt ∧ x3.toInt ≤ (63 : Int)) (r_x4 : zK S x4 = 6) (q0 : SZ = S) (q1 : rL x4 = 90000) (q2 : (zI SZ 1 x4).toInt + 10 ≤ 90000) : Ok (d_X9_putApart x0 x1 x2 x3 x4 S) (fun o => ZT o.2 ∧ RP SZ o.2 ∧ ((zI o.2 1 x4).toInt ≤ (zI SZ 1 x4).toInt + 2)) := t_d_X9_putApart_0 hT hR r_x0 r_x1 r_x2 r_x3 r_x4 q0 q1 q2
theorem t_d_X9_putSigns_160 {SZ S : ZS} {x0 : Nat} {x1 : Nat} {x2 : Int32} {x3 : Nat} (hT : ZT S) (hR : RP SZ S) (r_x0 : zK S x0 = 9) (r_x1 : zK S x1 = 0) (r_x3 : zK S x3 = 6) (q0 : rL x3 = 90000) (q1 : (zI SZ 1 x3).toInt + 40 ≤ 90000) (q2 : (zI S 1 x3).toInt ≤ (zI SZ 1 x3).toInt + 9) : Ok (d_X9_putSigns_160 x0 x1 x2 x3 S) (fun o => ZT o.2 ∧ RP SZ o.2 ∧ ((zI o.2 1 x3).toInt ≤ (zI SZ 1 x3).toInt + 10)) := by
  unfold d_X9_putSigns_160
  have j116 := J_6_1 hT r_x3
  refine ok_chk r_x0 ?_
  obtain ⟨b1, p_b1, k_b1⟩ := T_9_0 hT r_x0
  refine ok_calR p_b1 ?_
  refine ok_chk k_b1 ?_
  obtain ⟨⟨r2, S2⟩, h_r2, T_S2, A_S2, p_r2⟩ := t_f_X7_checkSign (x0 := b1) (x1 := x1) (x2 := x2) (SZ := S) hT (a7_0 S) k_b1 r_x1
  replace T_S2 : ZT S2 := T_S2
  replace A_S2 : A7 S S2 := A_S2
  dsimp only at p_r2
  refine ok_calR h_r2 ?_
  have q_S2 := fq_X7_checkSign h_r2
  have kE_S2 : zK S2 = zK S := q_S2.2.2.1
  have nE_S2 : zN S2 = zN S := q_S2.2.2.2.1
  have R_S2 : RP SZ S2 := rp_f hR hT q_S2 (fz_X7_checkSign h_r2) (by decide) A_S2
  have : (zI S2 1 x3).toInt = (zI S 1 x3).toInt := congrArg Int32.toInt ((((fz_X7_checkSign h_r2) hT.2.2.2.2.1).2.2 x3 (by rw [r_x3]; decide)).2.2.1 1 (by rw [r_x3]; decide))
  refine ok_chk ⟨q_S2.1, q_S2.2.1⟩ ?_
  refine ok_if (fun c117 => ?_) (fun c117 => ?_)
  ·
    replace c117 := ti_eqP (a := r2) (b := (0 : Int32)) c117 rfl (show (0 : Int32).toInt = 0 from rfl)
    unfold d_X9_putSigns_182
    exact ok_ret ⟨T_S2, R_S2, (by show (zI S2 1 x3).toInt ≤ (zI SZ 1 x3).toInt + 10; have z : (0 : Int32).toInt = 0 := rfl; omega)⟩
  ·
    replace c117 := ti_eqN (a := r2) (b := (0 : Int32)) c117 rfl (show (0 : Int32).toInt = 0 from rfl)
    refine ok_chk ((congrFun kE_S2 x3).trans r_x3) ?_
    have j118 := J_6_1 T_S2 ((congrFun kE_S2 x3).trans r_x3)
    obtain ⟨⟨r4, S5⟩, h_r4, T_S5, B_S5, p_r4_0, p_r4_1⟩ := t_d_X6_put (x0 := x3) (x1 := r2) (SZ := S2) T_S2 (rp_0 S2) ((congrFun kE_S2 x3).trans r_x3) (by omega) (by omega) (rc_ol q0)
    replace T_S5 : ZT S5 := T_S5
    replace B_S5 : RP S2 S5 := B_S5
    have R_S5 : RP SZ S5 := rp_t R_S2 B_S5
    dsimp only at p_r4_0 p_r4_1
    refine ok_cal2R h_r4 ?_
    have g_S5 := (fz_X6_put h_r4 T_S2.2.2.2.2.1).2.2
    unfold d_X9_putSigns_182
    exact ok_ret ⟨T_S5, R_S5, (by show (zI S5 1 x3).toInt ≤ (zI SZ 1 x3).toInt + 10; have z : (0 : Int32).toInt = 0 := rfl; omega)⟩
theorem t_d_X9_putSigns_136 {SZ S : ZS} {x0 : Nat} {x1 : Nat} {x2 : Int32} {x3 : Nat} (hT : ZT S) (hR : RP SZ S) (r_x0 : zK S x0 = 9) (r_x1 : zK S x1 = 0) (r_x3 : zK S x3 = 6) (q0 : rL x3 = 90000) (q1 : (zI SZ 1 x3).toInt + 40 ≤ 90000) (q2 : (zI S 1 x3).toInt ≤ (zI SZ 1 x3).toInt + 7) : Ok (d_X9_putSigns_136 x0 x1 x2 x3 S) (fun o => ZT o.2 ∧ RP SZ o.2 ∧ ((zI o.2 1 x3).toInt ≤ (zI SZ 1 x3).toInt + 10)) := by
  unfold d_X9_putSigns_136
  have j119 := J_6_1 hT r_x3
  refine ok_if (fun c120 => ?_) (fun c120 => ?_)
  ·
    replace c120 := ti_ltP (a := x2) (b := (4096 : Int32)) c120 rfl (show (4096 : Int32).toInt = 4096 from rfl)
    exact t_d_X9_putSigns_160 (S := S)  (x0 := x0) (x1 := x1) (x2 := x2) (x3 := x3) hT hR r_x0 r_x1 r_x3 q0 q1 (by omega)
  ·
    replace c120 := ti_ltN (a := x2) (b := (4096 : Int32)) c120 rfl (show (4096 : Int32).toInt = 4096 from rfl)
    refine ok_chk r_x3 ?_
    have zl121 : (61 : Int32).toInt = 61 := rfl
    obtain ⟨⟨r2, S3⟩, h_r2, T_S3, B_S3, p_r2_0, p_r2_1⟩ := t_d_X6_put (x0 := x3) (x1 := (61 : Int32)) (SZ := S) hT (rp_0 S) r_x3 (by decide) (by have z0 : (61 : Int32).toInt = 61 := rfl; omega) (rc_ol q0)
    replace T_S3 : ZT S3 := T_S3
    replace B_S3 : RP S S3 := B_S3
    have R_S3 : RP SZ S3 := rp_t hR B_S3
    dsimp only at p_r2_0 p_r2_1
    refine ok_cal2R h_r2 ?_
    have g_S3 := (fz_X6_put h_r2 hT.2.2.2.2.1).2.2
    refine ok_bnd (fun v6 e122 => ?_)
    obtain ⟨r7, h_r7, p_r7⟩ := roz (t_f_X11_letterOf (x0 := v6) T_S3 )
    dsimp only at p_r7
    refine ok_calR h_r7 ?_
    refine ok_chk ⟨rfl, rfl⟩ ?_
    refine ok_chk ((g_S3 x3 (lt18 r_x3 (by decide))).1.trans r_x3) ?_
    have j123 := J_6_1 T_S3 ((g_S3 x3 (lt18 r_x3 (by decide))).1.trans r_x3)
    obtain ⟨⟨r9, S10⟩, h_r9, T_S10, B_S10, p_r9_0, p_r9_1⟩ := t_d_X6_put (x0 := x3) (x1 := r7) (SZ := S3) T_S3 (rp_0 S3) ((g_S3 x3 (lt18 r_x3 (by decide))).1.trans r_x3) (by omega) (by omega) (rc_ol q0)
    replace T_S10 : ZT S10 := T_S10
    replace B_S10 : RP S3 S10 := B_S10
    have R_S10 : RP SZ S10 := rp_t R_S3 B_S10
    dsimp only at p_r9_0 p_r9_1
    refine ok_cal2R h_r9 ?_
    have g_S10 := (fz_X6_put h_r9 T_S3.2.2.2.2.1).2.2
    have j124 := J_6_1 T_S10 ((g_S10 x3 (lt18 ((g_S3 x3 (lt18 r_x3 (by decide))).1.trans r_x3) (by decide))).1.trans ((g_S3 x3 (lt18 r_x3 (by decide))).1.trans r_x3))
    exact t_d_X9_putSigns_160 (S := S10)  (x0 := x0) (x1 := x1) (x2 := x2) (x3 := x3) T_S10 R_S10 ((g_S10 x0 (lt18 ((g_S3 x0 (lt18 r_x0 (by decide))).1.trans r_x0) (by decide))).1.trans ((g_S3 x0 (lt18 r_x0 (by decide))).1.trans r_x0)) ((g_S10 x1 (lt18 ((g_S3 x1 (lt18 r_x1 (by decide))).1.trans r_x1) (by decide))).1.trans ((g_S3 x1 (lt18 r_x1 (by decide))).1.trans r_x1)) ((g_S10 x3 (lt18 ((g_S3 x3 (lt18 r_x3 (by decide))).1.trans r_x3) (by decide))).1.trans ((g_S3 x3 (lt18 r_x3 (by decide))).1.trans r_x3)) q0 q1 (by omega)
theorem t_d_X9_putSigns_118 {SZ S : ZS} {x0 : Nat} {x1 : Nat} {x2 : Int32} {x3 : Nat} {x5 : Int32} (hT : ZT S) (hR : RP SZ S) (r_x0 : zK S x0 = 9) (r_x1 : zK S x1 = 0) (r_x3 : zK S x3 = 6) (r_x5 : (0 : Int) ≤ x5.toInt ∧ x5.toInt ≤ (63 : Int)) (q0 : rL x3 = 90000) (q1 : (zI SZ 1 x3).toInt + 40 ≤ 90000) (q2 : (zI S 1 x3).toInt ≤ (zI SZ 1 x3).toInt + 4) : Ok (d_X9_putSigns_118 x0 x1 x2 x3 x5 S) (fun o => ZT o.2 ∧ RP SZ o.2 ∧ ((zI o.2 1 x3).toInt ≤ (zI SZ 1 x3).toInt + 10)) := by
  unfold d_X9_putSigns_118
  have j125 := J_6_1 hT r_x3
  obtain ⟨r1, h_r1, p_r1⟩ := roz (t_f_X11_fileLetter (x0 := x5) hT r_x5)
  dsimp only at p_r1
  refine ok_calR h_r1 ?_
  refine ok_chk ⟨rfl, rfl⟩ ?_
  refine ok_chk r_x3 ?_
  obtain ⟨⟨r3, S4⟩, h_r3, T_S4, B_S4, p_r3_0, p_r3_1⟩ := t_d_X6_put (x0 := x3) (x1 := r1) (SZ := S) hT (rp_0 S) r_x3 (by omega) (by omega) (rc_ol q0)
  replace T_S4 : ZT S4 := T_S4
  replace B_S4 : RP S S4 := B_S4
  have R_S4 : RP SZ S4 := rp_t hR B_S4
  dsimp only at p_r3_0 p_r3_1
  refine ok_cal2R h_r3 ?_
  have g_S4 := (fz_X6_put h_r3 hT.2.2.2.2.1).2.2
  obtain ⟨r7, h_r7, p_r7⟩ := roz (t_f_X11_rankDigit (x0 := x5) T_S4 r_x5)
  dsimp only at p_r7
  refine ok_calR h_r7 ?_
  refine ok_chk ⟨rfl, rfl⟩ ?_
  refine ok_chk ((g_S4 x3 (lt18 r_x3 (by decide))).1.trans r_x3) ?_
  have j126 := J_6_1 T_S4 ((g_S4 x3 (lt18 r_x3 (by decide))).1.trans r_x3)
  obtain ⟨⟨r9, S10⟩, h_r9, T_S10, B_S10, p_r9_0, p_r9_1⟩ := t_d_X6_put (x0 := x3) (x1 := r7) (SZ := S4) T_S4 (rp_0 S4) ((g_S4 x3 (lt18 r_x3 (by decide))).1.trans r_x3) (by omega) (by omega) (rc_ol q0)
  replace T_S10 : ZT S10 := T_S10
  replace B_S10 : RP S4 S10 := B_S10
  have R_S10 : RP SZ S10 := rp_t R_S4 B_S10
  dsimp only at p_r9_0 p_r9_1
  refine ok_cal2R h_r9 ?_
  have g_S10 := (fz_X6_put h_r9 T_S4.2.2.2.2.1).2.2
  have j127 := J_6_1 T_S10 ((g_S10 x3 (lt18 ((g_S4 x3 (lt18 r_x3 (by decide))).1.trans r_x3) (by decide))).1.trans ((g_S4 x3 (lt18 r_x3 (by decide))).1.trans r_x3))
  exact t_d_X9_putSigns_136 (S := S10)  (x0 := x0) (x1 := x1) (x2 := x2) (x3 := x3) T_S10 R_S10 ((g_S10 x0 (lt18 ((g_S4 x0 (lt18 r_x0 (by decide))).1.trans r_x0) (by decide))).1.trans ((g_S4 x0 (lt18 r_x0 (by decide))).1.trans r_x0)) ((g_S10 x1 (lt18 ((g_S4 x1 (lt18 r_x1 (by decide))).1.trans r_x1) (by decide))).1.trans ((g_S4 x1 (lt18 r_x1 (by decide))).1.trans r_x1)) ((g_S10 x3 (lt18 ((g_S4 x3 (lt18 r_x3 (by decide))).1.trans r_x3) (by decide))).1.trans ((g_S4 x3 (lt18 r_x3 (by decide))).1.trans r_x3)) q0 q1 (by omega)
theorem t_d_X9_putSigns_107 {SZ S : ZS} {x0 : Nat} {x1 : Nat} {x2 : Int32} {x3 : Nat} {x5 : Int32} {x6 : Int32} (hT : ZT S) (hR : RP SZ S) (r_x0 : zK S x0 = 9) (r_x1 : zK S x1 = 0) (r_x3 : zK S x3 = 6) (r_x5 : (0 : Int) ≤ x5.toInt ∧ x5.toInt ≤ (63 : Int)) (r_x6 : (0 : Int) ≤ x6.toInt ∧ x6.toInt ≤ (1 : Int)) (q0 : rL x3 = 90000) (q1 : (zI SZ 1 x3).toInt + 40 ≤ 90000) (q2 : (zI S 1 x3).toInt ≤ (zI SZ 1 x3).toInt + 3) : Ok (d_X9_putSigns_107 x0 x1 x2 x3 x5 x6 S) (fun o => ZT o.2 ∧ RP SZ o.2 ∧ ((zI o.2 1 x3).toInt ≤ (zI SZ 1 x3).toInt + 10)) := by
  unfold d_X9_putSigns_107
  have j128 := J_6_1 hT r_x3
  refine ok_if (fun c129 => ?_) (fun c129 => ?_)
  ·
    replace c129 := ti_eqP (a := x6) (b := (0 : Int32)) c129 rfl (show (0 : Int32).toInt = 0 from rfl)
    exact t_d_X9_putSigns_118 (S := S)  (x0 := x0) (x1 := x1) (x2 := x2) (x3 := x3) (x5 := x5) hT hR r_x0 r_x1 r_x3 r_x5 q0 q1 (by omega)
  ·
    replace c129 := ti_eqN (a := x6) (b := (0 : Int32)) c129 rfl (show (0 : Int32).toInt = 0 from rfl)
    refine ok_chk r_x3 ?_
    have zl130 : (120 : Int32).toInt = 120 := rfl
    obtain ⟨⟨r2, S3⟩, h_r2, T_S3, B_S3, p_r2_0, p_r2_1⟩ := t_d_X6_put (x0 := x3) (x1 := (120 : Int32)) (SZ := S) hT (rp_0 S) r_x3 (by decide) (by have z0 : (120 : Int32).toInt = 120 := rfl; omega) (rc_ol q0)
    replace T_S3 : ZT S3 := T_S3
    replace B_S3 : RP S S3 := B_S3
    have R_S3 : RP SZ S3 := rp_t hR B_S3
    dsimp only at p_r2_0 p_r2_1
    refine ok_cal2R h_r2 ?_
    have g_S3 := (fz_X6_put h_r2 hT.2.2.2.2.1).2.2
    have j131 := J_6_1 T_S3 ((g_S3 x3 (lt18 r_x3 (by decide))).1.trans r_x3)
    exact t_d_X9_putSigns_118 (S := S3)  (x0 := x0) (x1 := x1) (x2 := x2) (x3 := x3) (x5 := x5) T_S3 R_S3 ((g_S3 x0 (lt18 r_x0 (by decide))).1.trans r_x0) ((g_S3 x1 (lt18 r_x1 (by decide))).1.trans r_x1) ((g_S3 x3 (lt18 r_x3 (by decide))).1.trans r_x3) r_x5 q0 q1 (by omega)
theorem t_d_X9_putSigns_0 {SZ S : ZS} {x0 : Nat} {x1 : Nat} {x2 : Int32} {x3 : Nat} (hT : ZT S) (hR : RP SZ S) (r_x0 : zK S x0 = 9) (r_x1 : zK S x1 = 0) (r_x3 : zK S x3 = 6) (q0 : SZ = S) (q1 : rL x3 = 90000) (q2 : (zI SZ 1 x3).toInt + 40 ≤ 90000) : Ok (d_X9_putSigns_0 x0 x1 x2 x3 S) (fun o => ZT o.2 ∧ RP SZ o.2 ∧ ((zI o.2 1 x3).toInt ≤ (zI SZ 1 x3).toInt + 10)) := by
  unfold d_X9_putSigns_0
  have j132 := J_6_1 hT r_x3
  have s0 : (zI SZ 1 x3).toInt = (zI S 1 x3).toInt := by rw [q0]
  have z7 : zSl.getD 7 0 = 3 := rfl
  have z8 : zSl.getD 8 0 = 5 := rfl
  refine ok_bnd (fun v1 e133 => ?_)
  have t_v1 := ti_and e133 (show (63 : Int32).toBitVec.toNat = 63 from rfl) (by decide)
  refine ok_bnd (fun v2 e134 => ?_)
  refine ok_bnd (fun v3 e135 => ?_)
  have t_v3 := ti_and e135 (show (63 : Int32).toBitVec.toNat = 63 from rfl) (by decide)
  refine ok_chk r_x1 ?_
  obtain ⟨r4, h_r4, p_r4⟩ := roz (t_f_X0_castles (x0 := x1) (x1 := v1) (x2 := v3) hT r_x1 (by omega) (by omega))
  dsimp only at p_r4
  refine ok_calR h_r4 ?_
  refine ok_chk ⟨rfl, rfl⟩ ?_
  refine ok_if (fun c136 => ?_) (fun c136 => ?_)
  ·
    replace c136 := ti_eqP (a := r4) (b := (0 : Int32)) c136 rfl (show (0 : Int32).toInt = 0 from rfl)
    refine ok_chk r_x1 ?_
    obtain ⟨r5, h_r5, p_r5⟩ := roz (t_f_X0_takes (x0 := x1) (x1 := v1) (x2 := v3) hT r_x1 (by omega) (by omega))
    dsimp only at p_r5
    refine ok_calR h_r5 ?_
    refine ok_chk ⟨rfl, rfl⟩ ?_
    refine ok_chk r_x1 ?_
    obtain ⟨r6, h_r6, p_r6⟩ := roz (t_f_X0_kindAt (x0 := x1) (x1 := v1) hT r_x1 (by omega))
    dsimp only at p_r6
    refine ok_calR h_r6 ?_
    refine ok_chk ⟨rfl, rfl⟩ ?_
    refine ok_if (fun c137 => ?_) (fun c137 => ?_)
    ·
      replace c137 := ti_eqP (a := r6) (b := (1 : Int32)) c137 rfl (show (1 : Int32).toInt = 1 from rfl)
      refine ok_if (fun c138 => ?_) (fun c138 => ?_)
      ·
        replace c138 := ti_eqP (a := r5) (b := (0 : Int32)) c138 rfl (show (0 : Int32).toInt = 0 from rfl)
        exact t_d_X9_putSigns_107 (S := S)  (x0 := x0) (x1 := x1) (x2 := x2) (x3 := x3) (x5 := v3) (x6 := r5) hT hR r_x0 r_x1 r_x3 (by omega) (by omega) q1 q2 (by rw [q0]; omega)
      ·
        replace c138 := ti_eqN (a := r5) (b := (0 : Int32)) c138 rfl (show (0 : Int32).toInt = 0 from rfl)
        obtain ⟨r7, h_r7, p_r7⟩ := roz (t_f_X11_fileLetter (x0 := v1) hT (by omega))
        dsimp only at p_r7
        refine ok_calR h_r7 ?_
        refine ok_chk ⟨rfl, rfl⟩ ?_
        refine ok_chk r_x3 ?_
        obtain ⟨⟨r9, S10⟩, h_r9, T_S10, B_S10, p_r9_0, p_r9_1⟩ := t_d_X6_put (x0 := x3) (x1 := r7) (SZ := S) hT (rp_0 S) r_x3 (by omega) (by omega) (rc_ol q1)
        replace T_S10 : ZT S10 := T_S10
        replace B_S10 : RP S S10 := B_S10
        have R_S10 : RP SZ S10 := rp_t hR B_S10
        dsimp only at p_r9_0 p_r9_1
        refine ok_cal2R h_r9 ?_
        have g_S10 := (fz_X6_put h_r9 hT.2.2.2.2.1).2.2
        have j139 := J_6_1 T_S10 ((g_S10 x3 (lt18 r_x3 (by decide))).1.trans r_x3)
        exact t_d_X9_putSigns_107 (S := S10)  (x0 := x0) (x1 := x1) (x2 := x2) (x3 := x3) (x5 := v3) (x6 := r5) T_S10 R_S10 ((g_S10 x0 (lt18 r_x0 (by decide))).1.trans r_x0) ((g_S10 x1 (lt18 r_x1 (by decide))).1.trans r_x1) ((g_S10 x3 (lt18 r_x3 (by decide))).1.trans r_x3) (by omega) (by omega) q1 q2 (by rw [q0]; omega)
    ·
      replace c137 := ti_eqN (a := r6) (b := (1 : Int32)) c137 rfl (show (1 : Int32).toInt = 1 from rfl)
      refine ok_chk r_x1 ?_
      obtain ⟨r13, h_r13, p_r13⟩ := roz (t_f_X0_kindAt (x0 := x1) (x1 := v1) hT r_x1 (by omega))
      dsimp only at p_r13
      refine ok_calR h_r13 ?_
      refine ok_chk ⟨rfl, rfl⟩ ?_
      obtain ⟨r14, h_r14, p_r14⟩ := roz (t_f_X11_letterOf (x0 := r13) hT )
      dsimp only at p_r14
      refine ok_calR h_r14 ?_
      refine ok_chk ⟨rfl, rfl⟩ ?_
      refine ok_chk r_x3 ?_
      obtain ⟨⟨r16, S17⟩, h_r16, T_S17, B_S17, p_r16_0, p_r16_1⟩ := t_d_X6_put (x0 := x3) (x1 := r14) (SZ := S) hT (rp_0 S) r_x3 (by omega) (by omega) (rc_ol q1)
      replace T_S17 : ZT S17 := T_S17
      replace B_S17 : RP S S17 := B_S17
      have R_S17 : RP SZ S17 := rp_t hR B_S17
      dsimp only at p_r16_0 p_r16_1
      refine ok_cal2R h_r16 ?_
      have g_S17 := (fz_X6_put h_r16 hT.2.2.2.2.1).2.2
      refine ok_chk ((g_S17 x0 (lt18 r_x0 (by decide))).1.trans r_x0) ?_
      have j140 := J_6_1 T_S17 ((g_S17 x3 (lt18 r_x3 (by decide))).1.trans r_x3)
      obtain ⟨⟨r21, S22⟩, h_r21, T_S22, B_S22, p_r21_0⟩ := t_d_X9_putApart (x0 := x0) (x1 := x1) (x2 := v1) (x3 := v3) (x4 := x3) (SZ := S17) T_S17 (rp_0 S17) ((g_S17 x0 (lt18 r_x0 (by decide))).1.trans r_x0) ((g_S17 x1 (lt18 r_x1 (by decide))).1.trans r_x1) (by omega) (by omega) ((g_S17 x3 (lt18 r_x3 (by decide))).1.trans r_x3) rfl q1 (by omega)
      replace T_S22 : ZT S22 := T_S22
      replace B_S22 : RP S17 S22 := B_S22
      have R_S22 : RP SZ S22 := rp_t R_S17 B_S22
      dsimp only at p_r21_0
      refine ok_cal2R h_r21 ?_
      have g_S22 := (fz_X9_putApart h_r21 T_S17.2.2.2.2.1).2.2
      have j141 := J_6_1 T_S22 ((g_S22 x3 (lt18 ((g_S17 x3 (lt18 r_x3 (by decide))).1.trans r_x3) (by decide))).1.trans ((g_S17 x3 (lt18 r_x3 (by decide))).1.trans r_x3))
      exact t_d_X9_putSigns_107 (S := S22)  (x0 := x0) (x1 := x1) (x2 := x2) (x3 := x3) (x5 := v3) (x6 := r5) T_S22 R_S22 ((g_S22 x0 (lt18 ((g_S17 x0 (lt18 r_x0 (by decide))).1.trans r_x0) (by decide))).1.trans ((g_S17 x0 (lt18 r_x0 (by decide))).1.trans r_x0)) ((g_S22 x1 (lt18 ((g_S17 x1 (lt18 r_x1 (by decide))).1.trans r_x1) (by decide))).1.trans ((g_S17 x1 (lt18 r_x1 (by decide))).1.trans r_x1)) ((g_S22 x3 (lt18 ((g_S17 x3 (lt18 r_x3 (by decide))).1.trans r_x3) (by decide))).1.trans ((g_S17 x3 (lt18 r_x3 (by decide))).1.trans r_x3)) (by omega) (by omega) q1 q2 (by rw [q0]; omega)
  ·
    replace c136 := ti_eqN (a := r4) (b := (0 : Int32)) c136 rfl (show (0 : Int32).toInt = 0 from rfl)
    refine ok_if (fun c142 => ?_) (fun c142 => ?_)
    ·
      replace c142 := ti_leP (a := v3) (b := v1) c142 rfl rfl
      unfold d_X9_putSigns_41
      refine ok_chk r_x3 ?_
      obtain ⟨⟨r2, S3⟩, h_r2, T_S3, B_S3, p_r2_0⟩ := t_d_X6_putText (x0 := x3) (x1 := 8) (SZ := S) hT (rp_0 S) r_x3 (by decide) rfl q1 (by omega)
      replace T_S3 : ZT S3 := T_S3
      replace B_S3 : RP S S3 := B_S3
      have R_S3 : RP SZ S3 := rp_t hR B_S3
      dsimp only at p_r2_0
      refine ok_cal2R h_r2 ?_
      have g_S3 := (fz_X6_putText h_r2 hT.2.2.2.2.1).2.2
      have j143 := J_6_1 T_S3 ((g_S3 x3 (lt18 r_x3 (by decide))).1.trans r_x3)
      exact t_d_X9_putSigns_136 (S := S3)  (x0 := x0) (x1 := x1) (x2 := x2) (x3 := x3) T_S3 R_S3 ((g_S3 x0 (lt18 r_x0 (by decide))).1.trans r_x0) ((g_S3 x1 (lt18 r_x1 (by decide))).1.trans r_x1) ((g_S3 x3 (lt18 r_x3 (by decide))).1.trans r_x3) q1 q2 (by omega)
    ·
      replace c142 := ti_leN (a := v3) (b := v1) c142 rfl rfl
      unfold d_X9_putSigns_41
      refine ok_chk r_x3 ?_
      obtain ⟨⟨r2, S3⟩, h_r2, T_S3, B_S3, p_r2_0⟩ := t_d_X6_putText (x0 := x3) (x1 := 7) (SZ := S) hT (rp_0 S) r_x3 (by decide) rfl q1 (by omega)
      replace T_S3 : ZT S3 := T_S3
      replace B_S3 : RP S S3 := B_S3
      have R_S3 : RP SZ S3 := rp_t hR B_S3
      dsimp only at p_r2_0
      refine ok_cal2R h_r2 ?_
      have g_S3 := (fz_X6_putText h_r2 hT.2.2.2.2.1).2.2
      have j144 := J_6_1 T_S3 ((g_S3 x3 (lt18 r_x3 (by decide))).1.trans r_x3)
      exact t_d_X9_putSigns_136 (S := S3)  (x0 := x0) (x1 := x1) (x2 := x2) (x3 := x3) T_S3 R_S3 ((g_S3 x0 (lt18 r_x0 (by decide))).1.trans r_x0) ((g_S3 x1 (lt18 r_x1 (by decide))).1.trans r_x1) ((g_S3 x3 (lt18 r_x3 (by decide))).1.trans r_x3) q1 q2 (by omega)
theorem t_d_X9_putSigns {SZ S : ZS} {x0 : Nat} {x1 : Nat} {x2 : Int32} {x3 : Nat} (hT : ZT S) (hR : RP SZ S) (r_x0 : zK S x0 = 9) (r_x1 : zK S x1 = 0) (r_x3 : zK S x3 = 6) (q0 : SZ = S) (q1 : rL x3 = 90000) (q2 : (zI SZ 1 x3).toInt + 40 ≤ 90000) : Ok (d_X9_putSigns x0 x1 x2 x3 S) (fun o => ZT o.2 ∧ RP SZ o.2 ∧ ((zI o.2 1 x3).toInt ≤ (zI SZ 1 x3).toInt + 10)) := t_d_X9_putSigns_0 hT hR r_x0 r_x1 r_x3 q0 q1 q2
theorem t_d_X3_putMove_66s {SZ S : ZS} {self66 : Nat → Nat → Int32 → ZS → Option (Int32 × ZS)} {N66 : Nat} (hself66 : ∀ (x2 : Nat) (x4 : Nat) (x5 : Int32) (S : ZS), ZT S → RP SZ S → (zK S x2 = 4) → (zK S x4 = 6) → ((0 : Int) ≤ x5.toInt ∧ x5.toInt ≤ (4 : Int)) → (rL x4 = 90000) → ((zI SZ 1 x4).toInt + 300 ≤ 90000) → ((zI S 1 x4).toInt ≤ (zI SZ 1 x4).toInt + 26 + 5 * x5.toInt) → (5 - x5.toInt) < (N66 : Int) → Ok (self66 x2 x4 x5 S) (fun o => ZT o.2 ∧ RP SZ o.2 ∧ ((zI o.2 1 x4).toInt ≤ (zI SZ 1 x4).toInt + 250))) {x2 : Nat} {x4 : Nat} {x5 : Int32} (hT : ZT S) (hR : RP SZ S) (r_x2 : zK S x2 = 4) (r_x4 : zK S x4 = 6) (r_x5 : (0 : Int) ≤ x5.toInt ∧ x5.toInt ≤ (4 : Int)) (q0 : rL x4 = 90000) (q1 : (zI SZ 1 x4).toInt + 300 ≤ 90000) (q2 : (zI S 1 x4).toInt ≤ (zI SZ 1 x4).toInt + 26 + 5 * x5.toInt) (m66 : (5 - x5.toInt) ≤ (N66 : Int)) : Ok (d_X3_putMove_66s self66 x2 x4 x5 S) (fun o => ZT o.2 ∧ RP SZ o.2 ∧ ((zI o.2 1 x4).toInt ≤ (zI SZ 1 x4).toInt + 250)) := by
  unfold d_X3_putMove_66s
  have j145 := J_6_1 hT r_x4
  refine ok_chk r_x2 ?_
  have j146 := J_4_4 hT r_x2
  refine ok_if (fun c147 => ?_) (fun c147 => ?_)
  ·
    replace c147 := ti_leP (a := (zI S 4 x2)) (b := x5) c147 rfl rfl
    obtain ⟨⟨r2, S3⟩, h_r2, T_S3, B_S3, p_r2_0⟩ := t_d_X3_putRemark (x0 := x2) (x1 := x4) (SZ := S) hT (rp_0 S) r_x2 r_x4 rfl q0 (by omega)
    replace T_S3 : ZT S3 := T_S3
    replace B_S3 : RP S S3 := B_S3
    have R_S3 : RP SZ S3 := rp_t hR B_S3
    dsimp only at p_r2_0
    refine ok_cal2R h_r2 ?_
    have g_S3 := (fz_X3_putRemark h_r2 hT.2.2.2.2.1).2.2
    exact ok_ret ⟨T_S3, R_S3, (by show (zI S3 1 x4).toInt ≤ (zI SZ 1 x4).toInt + 250; have z : (0 : Int32).toInt = 0 := rfl; omega)⟩
  ·
    replace c147 := ti_leN (a := (zI S 4 x2)) (b := x5) c147 rfl rfl
    obtain ⟨⟨r7, S8⟩, h_r7, T_S8, B_S8, p_r7_0⟩ := t_d_X3_putGap (x0 := x4) (SZ := S) hT (rp_0 S) r_x4 rfl q0 (by omega)
    replace T_S8 : ZT S8 := T_S8
    replace B_S8 : RP S S8 := B_S8
    have R_S8 : RP SZ S8 := rp_t hR B_S8
    dsimp only at p_r7_0
    refine ok_cal2R h_r7 ?_
    have g_S8 := (fz_X3_putGap h_r7 hT.2.2.2.2.1).2.2
    refine ok_chk ((g_S8 x4 (lt18 r_x4 (by decide))).1.trans r_x4) ?_
    have j148 := J_6_1 T_S8 ((g_S8 x4 (lt18 r_x4 (by decide))).1.trans r_x4)
    have zl149 : (36 : Int32).toInt = 36 := rfl
    obtain ⟨⟨r12, S13⟩, h_r12, T_S13, B_S13, p_r12_0, p_r12_1⟩ := t_d_X6_put (x0 := x4) (x1 := (36 : Int32)) (SZ := S8) T_S8 (rp_0 S8) ((g_S8 x4 (lt18 r_x4 (by decide))).1.trans r_x4) (by decide) (by have z0 : (36 : Int32).toInt = 36 := rfl; omega) (rc_ol q0)
    replace T_S13 : ZT S13 := T_S13
    replace B_S13 : RP S8 S13 := B_S13
    have R_S13 : RP SZ S13 := rp_t R_S8 B_S13
    dsimp only at p_r12_0 p_r12_1
    refine ok_cal2R h_r12 ?_
    have g_S13 := (fz_X6_put h_r12 T_S8.2.2.2.2.1).2.2
    refine ok_chk ((g_S13 x2 (lt18 ((g_S8 x2 (lt18 r_x2 (by decide))).1.trans r_x2) (by decide))).1.trans ((g_S8 x2 (lt18 r_x2 (by decide))).1.trans r_x2)) ?_
    obtain ⟨r16, h_r16, p_r16⟩ := roz (t_f_X4_markAt (x0 := x2) (x1 := x5) T_S13 ((g_S13 x2 (lt18 ((g_S8 x2 (lt18 r_x2 (by decide))).1.trans r_x2) (by decide))).1.trans ((g_S8 x2 (lt18 r_x2 (by decide))).1.trans r_x2)))
    dsimp only at p_r16
    refine ok_calR h_r16 ?_
    refine ok_chk ⟨rfl, rfl⟩ ?_
    refine ok_chk ((g_S13 x4 (lt18 ((g_S8 x4 (lt18 r_x4 (by decide))).1.trans r_x4) (by decide))).1.trans ((g_S8 x4 (lt18 r_x4 (by decide))).1.trans r_x4)) ?_
    have j150 := J_6_1 T_S13 ((g_S13 x4 (lt18 ((g_S8 x4 (lt18 r_x4 (by decide))).1.trans r_x4) (by decide))).1.trans ((g_S8 x4 (lt18 r_x4 (by decide))).1.trans r_x4))
    obtain ⟨⟨r18, S19⟩, h_r18, T_S19, B_S19, p_r18_0, p_r18_1⟩ := t_d_X6_putNumber (x0 := x4) (x1 := r16) (SZ := S13) T_S13 (rp_0 S13) ((g_S13 x4 (lt18 ((g_S8 x4 (lt18 r_x4 (by decide))).1.trans r_x4) (by decide))).1.trans ((g_S8 x4 (lt18 r_x4 (by decide))).1.trans r_x4)) rfl q0 (by omega)
    replace T_S19 : ZT S19 := T_S19
    replace B_S19 : RP S13 S19 := B_S19
    have R_S19 : RP SZ S19 := rp_t R_S13 B_S19
    dsimp only at p_r18_0 p_r18_1
    refine ok_cal2R h_r18 ?_
    have g_S19 := (fz_X6_putNumber h_r18 T_S13.2.2.2.2.1).2.2
    refine ok_bnd (fun v22 e151 => ?_)
    have t_v22 : v22.toInt = x5.toInt + 1 := ti_add e151 rfl (show (1 : Int32).toInt = 1 from rfl) (by omega) (by omega)
    have j152 := J_6_1 T_S19 ((g_S19 x4 (lt18 ((g_S13 x4 (lt18 ((g_S8 x4 (lt18 r_x4 (by decide))).1.trans r_x4) (by decide))).1.trans ((g_S8 x4 (lt18 r_x4 (by decide))).1.trans r_x4)) (by decide))).1.trans ((g_S13 x4 (lt18 ((g_S8 x4 (lt18 r_x4 (by decide))).1.trans r_x4) (by decide))).1.trans ((g_S8 x4 (lt18 r_x4 (by decide))).1.trans r_x4)))
    exact hself66 x2 x4 v22 S19 T_S19 R_S19 ((g_S19 x2 (lt18 ((g_S13 x2 (lt18 ((g_S8 x2 (lt18 r_x2 (by decide))).1.trans r_x2) (by decide))).1.trans ((g_S8 x2 (lt18 r_x2 (by decide))).1.trans r_x2)) (by decide))).1.trans ((g_S13 x2 (lt18 ((g_S8 x2 (lt18 r_x2 (by decide))).1.trans r_x2) (by decide))).1.trans ((g_S8 x2 (lt18 r_x2 (by decide))).1.trans r_x2))) ((g_S19 x4 (lt18 ((g_S13 x4 (lt18 ((g_S8 x4 (lt18 r_x4 (by decide))).1.trans r_x4) (by decide))).1.trans ((g_S8 x4 (lt18 r_x4 (by decide))).1.trans r_x4)) (by decide))).1.trans ((g_S13 x4 (lt18 ((g_S8 x4 (lt18 r_x4 (by decide))).1.trans r_x4) (by decide))).1.trans ((g_S8 x4 (lt18 r_x4 (by decide))).1.trans r_x4))) (by omega) q0 q1 (by omega) (by omega)
theorem t_d_X3_putMove_66 {SZ : ZS} : ∀ (n : Nat) (x2 : Nat) (x4 : Nat) (x5 : Int32) (S : ZS), ZT S → RP SZ S → (zK S x2 = 4) → (zK S x4 = 6) → ((0 : Int) ≤ x5.toInt ∧ x5.toInt ≤ (4 : Int)) → (rL x4 = 90000) → ((zI SZ 1 x4).toInt + 300 ≤ 90000) → ((zI S 1 x4).toInt ≤ (zI SZ 1 x4).toInt + 26 + 5 * x5.toInt) → (5 - x5.toInt) < (n : Int) → Ok (d_X3_putMove_66  n x2 x4 x5 S) (fun o => ZT o.2 ∧ RP SZ o.2 ∧ ((zI o.2 1 x4).toInt ≤ (zI SZ 1 x4).toInt + 250)) := by
  intro n
  induction n with
  | zero => intro x2 x4 x5 S hT hR g0 g1 g2 g3 g4 g5  hm; exfalso; omega
  | succ n ih =>
    intro x2 x4 x5 S hT hR g0 g1 g2 g3 g4 g5  hm
    exact t_d_X3_putMove_66s (N66 := n)  ih hT hR g0 g1 g2 g3 g4 g5  (by omega)
theorem t_d_X3_putMove_44 {SZ S : ZS} {x0 : Nat} {x1 : Nat} {x2 : Nat} {x4 : Nat} (hT : ZT S) (hR : RP SZ S) (r_x0 : zK S x0 = 3) (r_x1 : zK S x1 = 0) (r_x2 : zK S x2 = 4) (r_x4 : zK S x4 = 6) (q0 : rL x4 = 90000) (q1 : (zI SZ 1 x4).toInt + 300 ≤ 90000) (q2 : (zI S 1 x4).toInt ≤ (zI SZ 1 x4).toInt + 14) : Ok (d_X3_putMove_44 x0 x1 x2 x4 S) (fun o => ZT o.2 ∧ RP SZ o.2 ∧ ((zI o.2 1 x4).toInt ≤ (zI SZ 1 x4).toInt + 250)) := by
  unfold d_X3_putMove_44
  have j153 := J_6_1 hT r_x4
  obtain ⟨⟨r2, S3⟩, h_r2, T_S3, B_S3, p_r2_0⟩ := t_d_X3_putGap (x0 := x4) (SZ := S) hT (rp_0 S) r_x4 rfl q0 (by omega)
  replace T_S3 : ZT S3 := T_S3
  replace B_S3 : RP S S3 := B_S3
  have R_S3 : RP SZ S3 := rp_t hR B_S3
  dsimp only at p_r2_0
  refine ok_cal2R h_r2 ?_
  have g_S3 := (fz_X3_putGap h_r2 hT.2.2.2.2.1).2.2
  refine ok_chk ((g_S3 x0 (lt18 r_x0 (by decide))).1.trans r_x0) ?_
  obtain ⟨b6, p_b6, k_b6⟩ := T_3_0 T_S3 ((g_S3 x0 (lt18 r_x0 (by decide))).1.trans r_x0)
  refine ok_calR p_b6 ?_
  refine ok_chk ((g_S3 x2 (lt18 r_x2 (by decide))).1.trans r_x2) ?_
  refine ok_chk k_b6 ?_
  have j154 := J_6_1 T_S3 ((g_S3 x4 (lt18 r_x4 (by decide))).1.trans r_x4)
  obtain ⟨⟨r8, S9⟩, h_r8, T_S9, B_S9, p_r8_0⟩ := t_d_X9_putSigns (x0 := b6) (x1 := x1) (x2 := (zI S3 1 x2)) (x3 := x4) (SZ := S3) T_S3 (rp_0 S3) k_b6 ((g_S3 x1 (lt18 r_x1 (by decide))).1.trans r_x1) ((g_S3 x4 (lt18 r_x4 (by decide))).1.trans r_x4) rfl q0 (by omega)
  replace T_S9 : ZT S9 := T_S9
  replace B_S9 : RP S3 S9 := B_S9
  have R_S9 : RP SZ S9 := rp_t R_S3 B_S9
  dsimp only at p_r8_0
  refine ok_cal2R h_r8 ?_
  have g_S9 := (fz_X9_putSigns h_r8 T_S3.2.2.2.2.1).2.2
  have j155 := J_6_1 T_S9 ((g_S9 x4 (lt18 ((g_S3 x4 (lt18 r_x4 (by decide))).1.trans r_x4) (by decide))).1.trans ((g_S3 x4 (lt18 r_x4 (by decide))).1.trans r_x4))
  exact t_d_X3_putMove_66   mFuel x2 x4 (0 : Int32) S9 T_S9 R_S9 ((g_S9 x2 (lt18 ((g_S3 x2 (lt18 r_x2 (by decide))).1.trans r_x2) (by decide))).1.trans ((g_S3 x2 (lt18 r_x2 (by decide))).1.trans r_x2)) ((g_S9 x4 (lt18 ((g_S3 x4 (lt18 r_x4 (by decide))).1.trans r_x4) (by decide))).1.trans ((g_S3 x4 (lt18 r_x4 (by decide))).1.trans r_x4)) (by decide) q0 q1 (by have z0 : (0 : Int32).toInt = 0 := rfl; omega) (by show _ < ((200000 : Nat) : Int); have z0 : (0 : Int32).toInt = 0 := rfl; omega)
theorem t_d_X3_putMove_11 {SZ S : ZS} {x0 : Nat} {x1 : Nat} {x2 : Nat} {x4 : Nat} (hT : ZT S) (hR : RP SZ S) (r_x0 : zK S x0 = 3) (r_x1 : zK S x1 = 0) (r_x2 : zK S x2 = 4) (r_x4 : zK S x4 = 6) (q0 : rL x4 = 90000) (q1 : (zI SZ 1 x4).toInt + 300 ≤ 90000) (q2 : (zI S 1 x4).toInt ≤ (zI SZ 1 x4).toInt + 0) : Ok (d_X3_putMove_11 x0 x1 x2 x4 S) (fun o => ZT o.2 ∧ RP SZ o.2 ∧ ((zI o.2 1 x4).toInt ≤ (zI SZ 1 x4).toInt + 250)) := by
  unfold d_X3_putMove_11
  have j156 := J_6_1 hT r_x4
  have z13 : zSl.getD 13 0 = 1 := rfl
  have z14 : zSl.getD 14 0 = 3 := rfl
  obtain ⟨⟨r2, S3⟩, h_r2, T_S3, B_S3, p_r2_0⟩ := t_d_X3_putGap (x0 := x4) (SZ := S) hT (rp_0 S) r_x4 rfl q0 (by omega)
  replace T_S3 : ZT S3 := T_S3
  replace B_S3 : RP S S3 := B_S3
  have R_S3 : RP SZ S3 := rp_t hR B_S3
  dsimp only at p_r2_0
  refine ok_cal2R h_r2 ?_
  have g_S3 := (fz_X3_putGap h_r2 hT.2.2.2.2.1).2.2
  refine ok_chk ((g_S3 x1 (lt18 r_x1 (by decide))).1.trans r_x1) ?_
  refine ok_chk ((g_S3 x4 (lt18 r_x4 (by decide))).1.trans r_x4) ?_
  have j157 := J_6_1 T_S3 ((g_S3 x4 (lt18 r_x4 (by decide))).1.trans r_x4)
  obtain ⟨⟨r7, S8⟩, h_r7, T_S8, B_S8, p_r7_0, p_r7_1⟩ := t_d_X6_putNumber (x0 := x4) (x1 := (zI S3 6 x1)) (SZ := S3) T_S3 (rp_0 S3) ((g_S3 x4 (lt18 r_x4 (by decide))).1.trans r_x4) rfl q0 (by omega)
  replace T_S8 : ZT S8 := T_S8
  replace B_S8 : RP S3 S8 := B_S8
  have R_S8 : RP SZ S8 := rp_t R_S3 B_S8
  dsimp only at p_r7_0 p_r7_1
  refine ok_cal2R h_r7 ?_
  have g_S8 := (fz_X6_putNumber h_r7 T_S3.2.2.2.2.1).2.2
  refine ok_chk ((g_S8 x1 (lt18 ((g_S3 x1 (lt18 r_x1 (by decide))).1.trans r_x1) (by decide))).1.trans ((g_S3 x1 (lt18 r_x1 (by decide))).1.trans r_x1)) ?_
  have j158 := J_0_3 T_S8 ((g_S8 x1 (lt18 ((g_S3 x1 (lt18 r_x1 (by decide))).1.trans r_x1) (by decide))).1.trans ((g_S3 x1 (lt18 r_x1 (by decide))).1.trans r_x1))
  refine ok_if (fun c159 => ?_) (fun c159 => ?_)
  ·
    replace c159 := ti_eqP (a := (zI S8 3 x1)) (b := (0 : Int32)) c159 rfl (show (0 : Int32).toInt = 0 from rfl)
    unfold d_X3_putMove_41
    refine ok_chk ((g_S8 x4 (lt18 ((g_S3 x4 (lt18 r_x4 (by decide))).1.trans r_x4) (by decide))).1.trans ((g_S3 x4 (lt18 r_x4 (by decide))).1.trans r_x4)) ?_
    have j162 := J_6_1 T_S8 ((g_S8 x4 (lt18 ((g_S3 x4 (lt18 r_x4 (by decide))).1.trans r_x4) (by decide))).1.trans ((g_S3 x4 (lt18 r_x4 (by decide))).1.trans r_x4))
    obtain ⟨⟨r2w160, S3w161⟩, h_r2w160, T_S3w161, B_S3w161, p_r2w160_0⟩ := t_d_X6_putText (x0 := x4) (x1 := 13) (SZ := S8) T_S8 (rp_0 S8) ((g_S8 x4 (lt18 ((g_S3 x4 (lt18 r_x4 (by decide))).1.trans r_x4) (by decide))).1.trans ((g_S3 x4 (lt18 r_x4 (by decide))).1.trans r_x4)) (by decide) rfl q0 (by omega)
    replace T_S3w161 : ZT S3w161 := T_S3w161
    replace B_S3w161 : RP S8 S3w161 := B_S3w161
    have R_S3w161 : RP SZ S3w161 := rp_t R_S8 B_S3w161
    dsimp only at p_r2w160_0
    refine ok_cal2R h_r2w160 ?_
    have g_S3w161 := (fz_X6_putText h_r2w160 T_S8.2.2.2.2.1).2.2
    have j163 := J_6_1 T_S3w161 ((g_S3w161 x4 (lt18 ((g_S8 x4 (lt18 ((g_S3 x4 (lt18 r_x4 (by decide))).1.trans r_x4) (by decide))).1.trans ((g_S3 x4 (lt18 r_x4 (by decide))).1.trans r_x4)) (by decide))).1.trans ((g_S8 x4 (lt18 ((g_S3 x4 (lt18 r_x4 (by decide))).1.trans r_x4) (by decide))).1.trans ((g_S3 x4 (lt18 r_x4 (by decide))).1.trans r_x4)))
    exact t_d_X3_putMove_44 (S := S3w161)  (x0 := x0) (x1 := x1) (x2 := x2) (x4 := x4) T_S3w161 R_S3w161 ((g_S3w161 x0 (lt18 ((g_S8 x0 (lt18 ((g_S3 x0 (lt18 r_x0 (by decide))).1.trans r_x0) (by decide))).1.trans ((g_S3 x0 (lt18 r_x0 (by decide))).1.trans r_x0)) (by decide))).1.trans ((g_S8 x0 (lt18 ((g_S3 x0 (lt18 r_x0 (by decide))).1.trans r_x0) (by decide))).1.trans ((g_S3 x0 (lt18 r_x0 (by decide))).1.trans r_x0))) ((g_S3w161 x1 (lt18 ((g_S8 x1 (lt18 ((g_S3 x1 (lt18 r_x1 (by decide))).1.trans r_x1) (by decide))).1.trans ((g_S3 x1 (lt18 r_x1 (by decide))).1.trans r_x1)) (by decide))).1.trans ((g_S8 x1 (lt18 ((g_S3 x1 (lt18 r_x1 (by decide))).1.trans r_x1) (by decide))).1.trans ((g_S3 x1 (lt18 r_x1 (by decide))).1.trans r_x1))) ((g_S3w161 x2 (lt18 ((g_S8 x2 (lt18 ((g_S3 x2 (lt18 r_x2 (by decide))).1.trans r_x2) (by decide))).1.trans ((g_S3 x2 (lt18 r_x2 (by decide))).1.trans r_x2)) (by decide))).1.trans ((g_S8 x2 (lt18 ((g_S3 x2 (lt18 r_x2 (by decide))).1.trans r_x2) (by decide))).1.trans ((g_S3 x2 (lt18 r_x2 (by decide))).1.trans r_x2))) ((g_S3w161 x4 (lt18 ((g_S8 x4 (lt18 ((g_S3 x4 (lt18 r_x4 (by decide))).1.trans r_x4) (by decide))).1.trans ((g_S3 x4 (lt18 r_x4 (by decide))).1.trans r_x4)) (by decide))).1.trans ((g_S8 x4 (lt18 ((g_S3 x4 (lt18 r_x4 (by decide))).1.trans r_x4) (by decide))).1.trans ((g_S3 x4 (lt18 r_x4 (by decide))).1.trans r_x4))) q0 q1 (by omega)
  ·
    replace c159 := ti_eqN (a := (zI S8 3 x1)) (b := (0 : Int32)) c159 rfl (show (0 : Int32).toInt = 0 from rfl)
    unfold d_X3_putMove_41
    refine ok_chk ((g_S8 x4 (lt18 ((g_S3 x4 (lt18 r_x4 (by decide))).1.trans r_x4) (by decide))).1.trans ((g_S3 x4 (lt18 r_x4 (by decide))).1.trans r_x4)) ?_
    have j166 := J_6_1 T_S8 ((g_S8 x4 (lt18 ((g_S3 x4 (lt18 r_x4 (by decide))).1.trans r_x4) (by decide))).1.trans ((g_S3 x4 (lt18 r_x4 (by decide))).1.trans r_x4))
    obtain ⟨⟨r2w164, S3w165⟩, h_r2w164, T_S3w165, B_S3w165, p_r2w164_0⟩ := t_d_X6_putText (x0 := x4) (x1 := 14) (SZ := S8) T_S8 (rp_0 S8) ((g_S8 x4 (lt18 ((g_S3 x4 (lt18 r_x4 (by decide))).1.trans r_x4) (by decide))).1.trans ((g_S3 x4 (lt18 r_x4 (by decide))).1.trans r_x4)) (by decide) rfl q0 (by omega)
    replace T_S3w165 : ZT S3w165 := T_S3w165
    replace B_S3w165 : RP S8 S3w165 := B_S3w165
    have R_S3w165 : RP SZ S3w165 := rp_t R_S8 B_S3w165
    dsimp only at p_r2w164_0
    refine ok_cal2R h_r2w164 ?_
    have g_S3w165 := (fz_X6_putText h_r2w164 T_S8.2.2.2.2.1).2.2
    have j167 := J_6_1 T_S3w165 ((g_S3w165 x4 (lt18 ((g_S8 x4 (lt18 ((g_S3 x4 (lt18 r_x4 (by decide))).1.trans r_x4) (by decide))).1.trans ((g_S3 x4 (lt18 r_x4 (by decide))).1.trans r_x4)) (by decide))).1.trans ((g_S8 x4 (lt18 ((g_S3 x4 (lt18 r_x4 (by decide))).1.trans r_x4) (by decide))).1.trans ((g_S3 x4 (lt18 r_x4 (by decide))).1.trans r_x4)))
    exact t_d_X3_putMove_44 (S := S3w165)  (x0 := x0) (x1 := x1) (x2 := x2) (x4 := x4) T_S3w165 R_S3w165 ((g_S3w165 x0 (lt18 ((g_S8 x0 (lt18 ((g_S3 x0 (lt18 r_x0 (by decide))).1.trans r_x0) (by decide))).1.trans ((g_S3 x0 (lt18 r_x0 (by decide))).1.trans r_x0)) (by decide))).1.trans ((g_S8 x0 (lt18 ((g_S3 x0 (lt18 r_x0 (by decide))).1.trans r_x0) (by decide))).1.trans ((g_S3 x0 (lt18 r_x0 (by decide))).1.trans r_x0))) ((g_S3w165 x1 (lt18 ((g_S8 x1 (lt18 ((g_S3 x1 (lt18 r_x1 (by decide))).1.trans r_x1) (by decide))).1.trans ((g_S3 x1 (lt18 r_x1 (by decide))).1.trans r_x1)) (by decide))).1.trans ((g_S8 x1 (lt18 ((g_S3 x1 (lt18 r_x1 (by decide))).1.trans r_x1) (by decide))).1.trans ((g_S3 x1 (lt18 r_x1 (by decide))).1.trans r_x1))) ((g_S3w165 x2 (lt18 ((g_S8 x2 (lt18 ((g_S3 x2 (lt18 r_x2 (by decide))).1.trans r_x2) (by decide))).1.trans ((g_S3 x2 (lt18 r_x2 (by decide))).1.trans r_x2)) (by decide))).1.trans ((g_S8 x2 (lt18 ((g_S3 x2 (lt18 r_x2 (by decide))).1.trans r_x2) (by decide))).1.trans ((g_S3 x2 (lt18 r_x2 (by decide))).1.trans r_x2))) ((g_S3w165 x4 (lt18 ((g_S8 x4 (lt18 ((g_S3 x4 (lt18 r_x4 (by decide))).1.trans r_x4) (by decide))).1.trans ((g_S3 x4 (lt18 r_x4 (by decide))).1.trans r_x4)) (by decide))).1.trans ((g_S8 x4 (lt18 ((g_S3 x4 (lt18 r_x4 (by decide))).1.trans r_x4) (by decide))).1.trans ((g_S3 x4 (lt18 r_x4 (by decide))).1.trans r_x4))) q0 q1 (by omega)
theorem t_d_X3_putMove_0 {SZ S : ZS} {x0 : Nat} {x1 : Nat} {x2 : Nat} {x3 : Int32} {x4 : Nat} (hT : ZT S) (hR : RP SZ S) (r_x0 : zK S x0 = 3) (r_x1 : zK S x1 = 0) (r_x2 : zK S x2 = 4) (r_x4 : zK S x4 = 6) (q0 : SZ = S) (q1 : rL x4 = 90000) (q2 : (zI SZ 1 x4).toInt + 300 ≤ 90000) : Ok (d_X3_putMove_0 x0 x1 x2 x3 x4 S) (fun o => ZT o.2 ∧ RP SZ o.2 ∧ ((zI o.2 1 x4).toInt ≤ (zI SZ 1 x4).toInt + 250)) := by
  unfold d_X3_putMove_0
  have j168 := J_6_1 hT r_x4
  have s0 : (zI SZ 1 x4).toInt = (zI S 1 x4).toInt := by rw [q0]
  refine ok_chk r_x1 ?_
  have j169 := J_0_3 hT r_x1
  refine ok_if (fun c170 => ?_) (fun c170 => ?_)
  ·
    replace c170 := ti_eqP (a := (zI S 3 x1)) (b := (0 : Int32)) c170 rfl (show (0 : Int32).toInt = 0 from rfl)
    exact t_d_X3_putMove_11 (S := S)  (x0 := x0) (x1 := x1) (x2 := x2) (x4 := x4) hT hR r_x0 r_x1 r_x2 r_x4 q1 q2 (by rw [q0]; omega)
  ·
    replace c170 := ti_eqN (a := (zI S 3 x1)) (b := (0 : Int32)) c170 rfl (show (0 : Int32).toInt = 0 from rfl)
    refine ok_if (fun c171 => ?_) (fun c171 => ?_)
    ·
      replace c171 := ti_eqP (a := x3) (b := (0 : Int32)) c171 rfl (show (0 : Int32).toInt = 0 from rfl)
      exact t_d_X3_putMove_44 (S := S)  (x0 := x0) (x1 := x1) (x2 := x2) (x4 := x4) hT hR r_x0 r_x1 r_x2 r_x4 q1 q2 (by rw [q0]; omega)
    ·
      replace c171 := ti_eqN (a := x3) (b := (0 : Int32)) c171 rfl (show (0 : Int32).toInt = 0 from rfl)
      exact t_d_X3_putMove_11 (S := S)  (x0 := x0) (x1 := x1) (x2 := x2) (x4 := x4) hT hR r_x0 r_x1 r_x2 r_x4 q1 q2 (by rw [q0]; omega)
theorem t_d_X3_putMove {SZ S : ZS} {x0 : Nat} {x1 : Nat} {x2 : Nat} {x3 : Int32} {x4 : Nat} (hT : ZT S) (hR : RP SZ S) (r_x0 : zK S x0 = 3) (r_x1 : zK S x1 = 0) (r_x2 : zK S x2 = 4) (r_x4 : zK S x4 = 6) (q0 : SZ = S) (q1 : rL x4 = 90000) (q2 : (zI SZ 1 x4).toInt + 300 ≤ 90000) : Ok (d_X3_putMove x0 x1 x2 x3 x4 S) (fun o => ZT o.2 ∧ RP SZ o.2 ∧ ((zI o.2 1 x4).toInt ≤ (zI SZ 1 x4).toInt + 250)) := t_d_X3_putMove_0 hT hR r_x0 r_x1 r_x2 r_x4 q0 q1 q2
end
