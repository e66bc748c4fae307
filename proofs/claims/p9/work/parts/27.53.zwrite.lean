def dgf : Nat → Int → Int
  | 0, _ => 0
  | n + 1, x => if x ≤ 0 then 0 else 1 + dgf n (x / 10)
theorem dgf_b : ∀ (n : Nat) (x : Int), 0 ≤ dgf n x ∧ dgf n x ≤ (n : Int)
  | 0, _ => ⟨Int.le_refl _, Int.le_refl _⟩
  | n + 1, x => by
    show 0 ≤ (if x ≤ 0 then 0 else 1 + dgf n (x / 10)) ∧ (if x ≤ 0 then 0 else 1 + dgf n (x / 10)) ≤ ((n + 1 : Nat) : Int)
    have := dgf_b n (x / 10)
    split <;> omega
theorem dgf_s : ∀ (n : Nat) (x : Int), x < ((10 ^ n : Nat) : Int) → dgf (n + 1) x = dgf n x
  | 0, x, h => by
    have h : x < 1 := h
    show (if x ≤ 0 then 0 else 1 + dgf 0 (x / 10)) = 0
    rw [if_pos (by omega)]
  | n + 1, x, h => by
    have h : x < ((10 ^ n * 10 : Nat) : Int) := h
    show (if x ≤ 0 then 0 else 1 + dgf (n + 1) (x / 10)) = (if x ≤ 0 then 0 else 1 + dgf n (x / 10))
    by_cases e : x ≤ 0
    · rw [if_pos e, if_pos e]
    · rw [if_neg e, if_neg e, dgf_s n (x / 10) (by omega)]
def dg (x : Int) : Int := dgf 10 x
theorem dg_s {x : Int} (h : 0 < x) (h2 : x ≤ 2147483647) : dg x = 1 + dg (x / 10) := by
  have e : dgf 10 x = if x ≤ 0 then 0 else 1 + dgf 9 (x / 10) := rfl
  unfold dg
  rw [e, if_neg (by omega), dgf_s 9 (x / 10) (by show x / 10 < 1000000000; omega)]
theorem dg_b (x : Int) : 0 ≤ dg x ∧ dg x ≤ 10 ∧ (x ≤ 999 → dg x ≤ 3) := by
  have h := dgf_b 10 x
  refine ⟨h.1, h.2, fun hx => ?_⟩
  unfold dg
  rw [dgf_s 9 x (by show x < 1000000000; omega), dgf_s 8 x (by show x < 100000000; omega), dgf_s 7 x (by show x < 10000000; omega), dgf_s 6 x (by show x < 1000000; omega), dgf_s 5 x (by show x < 100000; omega), dgf_s 4 x (by show x < 10000; omega), dgf_s 3 x (by show x < 1000; omega)]
  exact (dgf_b 3 x).2
theorem dv_ge {x1 x2 v : Int32} (e : v = x1 / x2) (h : 1 ≤ x2.toInt) : 10 ≤ v.toInt → 10 * x2.toInt ≤ x1.toInt := by
  intro h10
  by_cases h0 : 0 ≤ x1.toInt
  · have t : v.toInt = x1.toInt / x2.toInt := ti_div e rfl rfl h0 (by omega)
    have h3 : x2.toInt * (x1.toInt / x2.toInt) ≤ x1.toInt := Int.mul_ediv_self_le (by omega)
    rw [t] at h10
    have h4 : x2.toInt * 10 ≤ x2.toInt * (x1.toInt / x2.toInt) := Int.mul_le_mul_of_nonneg_left h10 (by omega)
    omega
  · exfalso
    have ht : v.toInt = x1.toInt.tdiv x2.toInt := by
      rw [e, Int32.toInt_div]
      refine Int.bmod_eq_of_le ?_ ?_
      · have hx := Int32.le_toInt x1
        have h5 : x1.toInt ≤ x1.toInt.tdiv x2.toInt := by
          have h6 := Int.neg_tdiv (a := -x1.toInt) (b := x2.toInt)
          rw [Int.neg_neg] at h6
          rw [h6, Int.tdiv_eq_ediv_of_nonneg (by omega)]
          have h7 : (-x1.toInt) / x2.toInt ≤ -x1.toInt := Int.ediv_le_self _ (by omega)
          omega
        have : Int32.minValue.toInt = -2147483648 := rfl
        omega
      · have h8 : x1.toInt.tdiv x2.toInt ≤ 0 := by
          have h6 := Int.neg_tdiv (a := -x1.toInt) (b := x2.toInt)
          rw [Int.neg_neg] at h6
          rw [h6, Int.tdiv_eq_ediv_of_nonneg (by omega)]
          have h7 : 0 ≤ (-x1.toInt) / x2.toInt := Int.ediv_nonneg (by omega) (by omega)
          omega
        omega
    have h6 := Int.neg_tdiv (a := -x1.toInt) (b := x2.toInt)
    rw [Int.neg_neg] at h6
    rw [h6, Int.tdiv_eq_ediv_of_nonneg (by omega)] at ht
    have h7 : 0 ≤ (-x1.toInt) / x2.toInt := Int.ediv_nonneg (by omega) (by omega)
    omega
theorem t_d_X6_putText_2s {SZ S : ZS} {self2 : Nat → Nat → Int32 → ZS → Option (Int32 × ZS)} {N2 : Nat} (hself2 : ∀ (x0 : Nat) (x1 : Nat) (x2 : Int32) (S : ZS), ZT S → RP SZ S → (zK S x0 = 6) → (x1 < 29) → ((0 : Int) ≤ x2.toInt ∧ x2.toInt ≤ (30 : Int)) → (rL x0 = 90000) → ((zI SZ 1 x0).toInt + 30 ≤ 90000) → ((zI S 1 x0).toInt ≤ (zI SZ 1 x0).toInt + x2.toInt) → (x2.toInt ≤ ((zSl.getD x1 0 : Nat) : Int)) → (31 - x2.toInt) < (N2 : Int) → Ok (self2 x0 x1 x2 S) (fun o => ZT o.2 ∧ RP SZ o.2 ∧ ((zI o.2 1 x0).toInt ≤ (zI SZ 1 x0).toInt + ((zSl.getD x1 0 : Nat) : Int)))) {x0 : Nat} {x1 : Nat} {x2 : Int32} (hT : ZT S) (hR : RP SZ S) (r_x0 : zK S x0 = 6) (r_x1 : x1 < 29) (r_x2 : (0 : Int) ≤ x2.toInt ∧ x2.toInt ≤ (30 : Int)) (q0 : rL x0 = 90000) (q1 : (zI SZ 1 x0).toInt + 30 ≤ 90000) (q2 : (zI S 1 x0).toInt ≤ (zI SZ 1 x0).toInt + x2.toInt) (q3 : x2.toInt ≤ ((zSl.getD x1 0 : Nat) : Int)) (m2 : (31 - x2.toInt) ≤ (N2 : Int)) : Ok (d_X6_putText_2s self2 x0 x1 x2 S) (fun o => ZT o.2 ∧ RP SZ o.2 ∧ ((zI o.2 1 x0).toInt ≤ (zI SZ 1 x0).toInt + ((zSl.getD x1 0 : Nat) : Int))) := by
  unfold d_X6_putText_2s
  refine ok_chk (show x1 < zSn from r_x1) ?_
  obtain ⟨r1, h_r1, p_r1⟩ := roz (t_f_J0_length_8abf5 (x0 := x1) hT r_x1)
  dsimp only at p_r1
  refine ok_calR h_r1 ?_
  refine ok_chk ⟨rfl, rfl⟩ ?_
  refine ok_if (fun c1 => ?_) (fun c1 => ?_)
  ·
    replace c1 := ti_leP (a := r1) (b := x2) c1 rfl rfl
    exact ok_ret ⟨hT, hR, (by show (zI S 1 x0).toInt ≤ (zI SZ 1 x0).toInt + ((zSl.getD x1 0 : Nat) : Int); have z : (0 : Int32).toInt = 0 := rfl; omega)⟩
  ·
    replace c1 := ti_leN (a := r1) (b := x2) c1 rfl rfl
    refine ok_chk (show x1 < zSn from r_x1) ?_
    obtain ⟨r2, h_r2, p_r2⟩ := roz (t_f_J0_charAt_5068e (x0 := x1) (x1 := x2) hT r_x1 (by omega))
    dsimp only at p_r2
    refine ok_calR h_r2 ?_
    refine ok_chk ⟨rfl, rfl⟩ ?_
    refine ok_chk r_x0 ?_
    have j2 := J_6_1 hT r_x0
    obtain ⟨⟨r4, S5⟩, h_r4, T_S5, B_S5, p_r4_0, p_r4_1⟩ := t_d_X6_put (x0 := x0) (x1 := r2) (SZ := S) hT (rp_0 S) r_x0 (by omega) (by omega) (rc_ol q0)
    replace T_S5 : ZT S5 := T_S5
    replace B_S5 : RP S S5 := B_S5
    have R_S5 : RP SZ S5 := rp_t hR B_S5
    dsimp only at p_r4_0 p_r4_1
    refine ok_cal2R h_r4 ?_
    have g_S5 := (fz_X6_put h_r4 hT.2.2.2.2.1).2.2
    refine ok_bnd (fun v8 e3 => ?_)
    have t_v8 : v8.toInt = x2.toInt + 1 := ti_add e3 rfl (show (1 : Int32).toInt = 1 from rfl) (by omega) (by omega)
    have j4 := J_6_1 T_S5 ((g_S5 x0 (lt18 r_x0 (by decide))).1.trans r_x0)
    exact hself2 x0 x1 v8 S5 T_S5 R_S5 ((g_S5 x0 (lt18 r_x0 (by decide))).1.trans r_x0) r_x1 (by omega) q0 q1 (by omega) (by omega) (by omega)
theorem t_d_X6_putText_2 {SZ : ZS} : ∀ (n : Nat) (x0 : Nat) (x1 : Nat) (x2 : Int32) (S : ZS), ZT S → RP SZ S → (zK S x0 = 6) → (x1 < 29) → ((0 : Int) ≤ x2.toInt ∧ x2.toInt ≤ (30 : Int)) → (rL x0 = 90000) → ((zI SZ 1 x0).toInt + 30 ≤ 90000) → ((zI S 1 x0).toInt ≤ (zI SZ 1 x0).toInt + x2.toInt) → (x2.toInt ≤ ((zSl.getD x1 0 : Nat) : Int)) → (31 - x2.toInt) < (n : Int) → Ok (d_X6_putText_2  n x0 x1 x2 S) (fun o => ZT o.2 ∧ RP SZ o.2 ∧ ((zI o.2 1 x0).toInt ≤ (zI SZ 1 x0).toInt + ((zSl.getD x1 0 : Nat) : Int))) := by
  intro n
  induction n with
  | zero => intro x0 x1 x2 S hT hR g0 g1 g2 g3 g4 g5 g6  hm; exfalso; omega
  | succ n ih =>
    intro x0 x1 x2 S hT hR g0 g1 g2 g3 g4 g5 g6  hm
    exact t_d_X6_putText_2s (N2 := n)  ih hT hR g0 g1 g2 g3 g4 g5 g6  (by omega)
theorem t_d_X6_putText_0 {SZ S : ZS} {x0 : Nat} {x1 : Nat} (hT : ZT S) (hR : RP SZ S) (r_x0 : zK S x0 = 6) (r_x1 : x1 < 29) (q0 : SZ = S) (q1 : rL x0 = 90000) (q2 : (zI SZ 1 x0).toInt + 30 ≤ 90000) : Ok (d_X6_putText_0 x0 x1 S) (fun o => ZT o.2 ∧ RP SZ o.2 ∧ ((zI o.2 1 x0).toInt ≤ (zI SZ 1 x0).toInt + ((zSl.getD x1 0 : Nat) : Int))) := by
  unfold d_X6_putText_0
  have j5 := J_6_1 hT r_x0
  exact t_d_X6_putText_2   mFuel x0 x1 (0 : Int32) S hT hR r_x0 r_x1 (by decide) q1 q2 (by rw [q0]; have z0 : (0 : Int32).toInt = 0 := rfl; omega) (by have z : (0 : Int32).toInt = 0 := rfl; omega) (by show _ < ((200000 : Nat) : Int); have z0 : (0 : Int32).toInt = 0 := rfl; omega)
theorem t_d_X6_putText {SZ S : ZS} {x0 : Nat} {x1 : Nat} (hT : ZT S) (hR : RP SZ S) (r_x0 : zK S x0 = 6) (r_x1 : x1 < 29) (q0 : SZ = S) (q1 : rL x0 = 90000) (q2 : (zI SZ 1 x0).toInt + 30 ≤ 90000) : Ok (d_X6_putText x0 x1 S) (fun o => ZT o.2 ∧ RP SZ o.2 ∧ ((zI o.2 1 x0).toInt ≤ (zI SZ 1 x0).toInt + ((zSl.getD x1 0 : Nat) : Int))) := t_d_X6_putText_0 hT hR r_x0 r_x1 q0 q1 q2
theorem t_d_X3_putGap_0 {SZ S : ZS} {x0 : Nat} (hT : ZT S) (hR : RP SZ S) (r_x0 : zK S x0 = 6) (q0 : SZ = S) (q1 : rL x0 = 90000) (q2 : (zI SZ 1 x0).toInt + 1 ≤ 90000) : Ok (d_X3_putGap_0 x0 S) (fun o => ZT o.2 ∧ RP SZ o.2 ∧ ((zI o.2 1 x0).toInt ≤ (zI SZ 1 x0).toInt + 1)) := by
  unfold d_X3_putGap_0
  have s0 : (zI SZ 1 x0).toInt = (zI S 1 x0).toInt := by rw [q0]
  refine ok_chk r_x0 ?_
  have j6 := J_6_1 hT r_x0
  obtain ⟨r1, h_r1, p_r1⟩ := roz (t_f_X6_size (x0 := x0) hT r_x0)
  dsimp only at p_r1
  refine ok_calR h_r1 ?_
  have s_r1 : r1.toInt = (zI S 1 x0).toInt := congrArg Int32.toInt p_r1.2
  refine ok_chk ⟨rfl, rfl⟩ ?_
  refine ok_bnd (fun v2 e7 => ?_)
  have t_v2 : v2.toInt = r1.toInt - 1 := ti_sub e7 rfl (show (1 : Int32).toInt = 1 from rfl) (by omega) (by omega)
  refine ok_chk r_x0 ?_
  obtain ⟨r3, h_r3, p_r3⟩ := roz (t_f_X6_at (x0 := x0) (x1 := v2) hT r_x0)
  dsimp only at p_r3
  refine ok_calR h_r3 ?_
  refine ok_chk ⟨rfl, rfl⟩ ?_
  refine ok_if (fun c8 => ?_) (fun c8 => ?_)
  ·
    replace c8 := ti_eqP (a := r3) (b := (0 : Int32)) c8 rfl (show (0 : Int32).toInt = 0 from rfl)
    unfold d_X3_putGap_33
    exact ok_ret ⟨hT, hR, (by show (zI S 1 x0).toInt ≤ (zI SZ 1 x0).toInt + 1; rw [q0]; omega)⟩
  ·
    replace c8 := ti_eqN (a := r3) (b := (0 : Int32)) c8 rfl (show (0 : Int32).toInt = 0 from rfl)
    refine ok_if (fun c9 => ?_) (fun c9 => ?_)
    ·
      replace c9 := ti_eqP (a := r3) (b := (10 : Int32)) c9 rfl (show (10 : Int32).toInt = 10 from rfl)
      unfold d_X3_putGap_33
      exact ok_ret ⟨hT, hR, (by show (zI S 1 x0).toInt ≤ (zI SZ 1 x0).toInt + 1; rw [q0]; omega)⟩
    ·
      replace c9 := ti_eqN (a := r3) (b := (10 : Int32)) c9 rfl (show (10 : Int32).toInt = 10 from rfl)
      refine ok_if (fun c10 => ?_) (fun c10 => ?_)
      ·
        replace c10 := ti_eqP (a := r3) (b := (40 : Int32)) c10 rfl (show (40 : Int32).toInt = 40 from rfl)
        unfold d_X3_putGap_33
        exact ok_ret ⟨hT, hR, (by show (zI S 1 x0).toInt ≤ (zI SZ 1 x0).toInt + 1; rw [q0]; omega)⟩
      ·
        replace c10 := ti_eqN (a := r3) (b := (40 : Int32)) c10 rfl (show (40 : Int32).toInt = 40 from rfl)
        refine ok_chk r_x0 ?_
        have zl11 : (32 : Int32).toInt = 32 := rfl
        obtain ⟨⟨r5, S6⟩, h_r5, T_S6, B_S6, p_r5_0, p_r5_1⟩ := t_d_X6_put (x0 := x0) (x1 := (32 : Int32)) (SZ := S) hT (rp_0 S) r_x0 (by decide) (by have z0 : (32 : Int32).toInt = 32 := rfl; omega) (rc_ol q1)
        replace T_S6 : ZT S6 := T_S6
        replace B_S6 : RP S S6 := B_S6
        have R_S6 : RP SZ S6 := rp_t hR B_S6
        dsimp only at p_r5_0 p_r5_1
        refine ok_cal2R h_r5 ?_
        have g_S6 := (fz_X6_put h_r5 hT.2.2.2.2.1).2.2
        unfold d_X3_putGap_33
        exact ok_ret ⟨T_S6, R_S6, (by show (zI S6 1 x0).toInt ≤ (zI SZ 1 x0).toInt + 1; rw [q0]; omega)⟩
theorem t_d_X3_putGap {SZ S : ZS} {x0 : Nat} (hT : ZT S) (hR : RP SZ S) (r_x0 : zK S x0 = 6) (q0 : SZ = S) (q1 : rL x0 = 90000) (q2 : (zI SZ 1 x0).toInt + 1 ≤ 90000) : Ok (d_X3_putGap x0 S) (fun o => ZT o.2 ∧ RP SZ o.2 ∧ ((zI o.2 1 x0).toInt ≤ (zI SZ 1 x0).toInt + 1)) := t_d_X3_putGap_0 hT hR r_x0 q0 q1 q2
theorem t_d_X3_putRemark_0 {SZ S : ZS} {x0 : Nat} {x1 : Nat} (hT : ZT S) (hR : RP SZ S) (r_x0 : zK S x0 = 4) (r_x1 : zK S x1 = 6) (q0 : SZ = S) (q1 : rL x1 = 90000) (q2 : (zI SZ 1 x1).toInt + 210 ≤ 90000) : Ok (d_X3_putRemark_0 x0 x1 S) (fun o => ZT o.2 ∧ RP SZ o.2 ∧ ((zI o.2 1 x1).toInt ≤ (zI SZ 1 x1).toInt + 203)) := by
  unfold d_X3_putRemark_0
  have s0 : (zI SZ 1 x1).toInt = (zI S 1 x1).toInt := by rw [q0]
  refine ok_chk r_x0 ?_
  obtain ⟨b1, p_b1, k_b1, c_b1⟩ := T_4_6 hT r_x0
  have rl_b1 := rL_0 c_b1
  refine ok_calR p_b1 ?_
  refine ok_chk k_b1 ?_
  have j12 := J61_0 hT k_b1 c_b1
  obtain ⟨r2, h_r2, p_r2⟩ := roz (t_f_X6_size (x0 := b1) hT k_b1)
  dsimp only at p_r2
  refine ok_calR h_r2 ?_
  have s_r2 : r2.toInt = (zI S 1 b1).toInt := congrArg Int32.toInt p_r2.2
  refine ok_chk ⟨rfl, rfl⟩ ?_
  refine ok_if (fun c13 => ?_) (fun c13 => ?_)
  ·
    replace c13 := ti_eqP (a := r2) (b := (0 : Int32)) c13 rfl (show (0 : Int32).toInt = 0 from rfl)
    exact ok_ret ⟨hT, hR, (by show (zI S 1 x1).toInt ≤ (zI SZ 1 x1).toInt + 203; rw [q0]; omega)⟩
  ·
    replace c13 := ti_eqN (a := r2) (b := (0 : Int32)) c13 rfl (show (0 : Int32).toInt = 0 from rfl)
    have j14 := J_6_1 hT r_x1
    obtain ⟨⟨r4, S5⟩, h_r4, T_S5, B_S5, p_r4_0⟩ := t_d_X3_putGap (x0 := x1) (SZ := S) hT (rp_0 S) r_x1 rfl q1 (by omega)
    replace T_S5 : ZT S5 := T_S5
    replace B_S5 : RP S S5 := B_S5
    have R_S5 : RP SZ S5 := rp_t hR B_S5
    dsimp only at p_r4_0
    refine ok_cal2R h_r4 ?_
    have g_S5 := (fz_X3_putGap h_r4 hT.2.2.2.2.1).2.2
    refine ok_chk ((g_S5 x1 (lt18 r_x1 (by decide))).1.trans r_x1) ?_
    have j15 := J_6_1 T_S5 ((g_S5 x1 (lt18 r_x1 (by decide))).1.trans r_x1)
    have zl16 : (123 : Int32).toInt = 123 := rfl
    obtain ⟨⟨r9, S10⟩, h_r9, T_S10, B_S10, p_r9_0, p_r9_1⟩ := t_d_X6_put (x0 := x1) (x1 := (123 : Int32)) (SZ := S5) T_S5 (rp_0 S5) ((g_S5 x1 (lt18 r_x1 (by decide))).1.trans r_x1) (by decide) (by have z0 : (123 : Int32).toInt = 123 := rfl; omega) (rc_ol q1)
    replace T_S10 : ZT S10 := T_S10
    replace B_S10 : RP S5 S10 := B_S10
    have R_S10 : RP SZ S10 := rp_t R_S5 B_S10
    dsimp only at p_r9_0 p_r9_1
    refine ok_cal2R h_r9 ?_
    have g_S10 := (fz_X6_put h_r9 T_S5.2.2.2.2.1).2.2
    refine ok_chk ((g_S10 x0 (lt18 ((g_S5 x0 (lt18 r_x0 (by decide))).1.trans r_x0) (by decide))).1.trans ((g_S5 x0 (lt18 r_x0 (by decide))).1.trans r_x0)) ?_
    obtain ⟨b13, p_b13, k_b13, c_b13⟩ := T_4_6 T_S10 ((g_S10 x0 (lt18 ((g_S5 x0 (lt18 r_x0 (by decide))).1.trans r_x0) (by decide))).1.trans ((g_S5 x0 (lt18 r_x0 (by decide))).1.trans r_x0))
    have rl_b13 := rL_0 c_b13
    refine ok_calR p_b13 ?_
    refine ok_chk ((g_S10 x1 (lt18 ((g_S5 x1 (lt18 r_x1 (by decide))).1.trans r_x1) (by decide))).1.trans ((g_S5 x1 (lt18 r_x1 (by decide))).1.trans r_x1)) ?_
    have j17 := J_6_1 T_S10 ((g_S10 x1 (lt18 ((g_S5 x1 (lt18 r_x1 (by decide))).1.trans r_x1) (by decide))).1.trans ((g_S5 x1 (lt18 r_x1 (by decide))).1.trans r_x1))
    have j18 := J61_0 T_S10 k_b13 c_b13
    obtain ⟨⟨r15, S16⟩, h_r15, T_S16, B_S16, p_r15_0, p_r15_1⟩ := t_d_X6_putAll (x0 := x1) (x1 := b13) (SZ := S10) T_S10 (rp_0 S10) ((g_S10 x1 (lt18 ((g_S5 x1 (lt18 r_x1 (by decide))).1.trans r_x1) (by decide))).1.trans ((g_S5 x1 (lt18 r_x1 (by decide))).1.trans r_x1)) k_b13 rfl (fun h => by rw [h] at q1; omega) (by omega) (rc_ol q1)
    replace T_S16 : ZT S16 := T_S16
    replace B_S16 : RP S10 S16 := B_S16
    have R_S16 : RP SZ S16 := rp_t R_S10 B_S16
    dsimp only at p_r15_0 p_r15_1
    refine ok_cal2R h_r15 ?_
    have g_S16 := (fz_X6_putAll h_r15 T_S10.2.2.2.2.1).2.2
    refine ok_chk ((g_S16 x1 (lt18 ((g_S10 x1 (lt18 ((g_S5 x1 (lt18 r_x1 (by decide))).1.trans r_x1) (by decide))).1.trans ((g_S5 x1 (lt18 r_x1 (by decide))).1.trans r_x1)) (by decide))).1.trans ((g_S10 x1 (lt18 ((g_S5 x1 (lt18 r_x1 (by decide))).1.trans r_x1) (by decide))).1.trans ((g_S5 x1 (lt18 r_x1 (by decide))).1.trans r_x1))) ?_
    have j19 := J_6_1 T_S16 ((g_S16 x1 (lt18 ((g_S10 x1 (lt18 ((g_S5 x1 (lt18 r_x1 (by decide))).1.trans r_x1) (by decide))).1.trans ((g_S5 x1 (lt18 r_x1 (by decide))).1.trans r_x1)) (by decide))).1.trans ((g_S10 x1 (lt18 ((g_S5 x1 (lt18 r_x1 (by decide))).1.trans r_x1) (by decide))).1.trans ((g_S5 x1 (lt18 r_x1 (by decide))).1.trans r_x1)))
    have zl20 : (125 : Int32).toInt = 125 := rfl
    obtain ⟨⟨r20, S21⟩, h_r20, T_S21, B_S21, p_r20_0, p_r20_1⟩ := t_d_X6_put (x0 := x1) (x1 := (125 : Int32)) (SZ := S16) T_S16 (rp_0 S16) ((g_S16 x1 (lt18 ((g_S10 x1 (lt18 ((g_S5 x1 (lt18 r_x1 (by decide))).1.trans r_x1) (by decide))).1.trans ((g_S5 x1 (lt18 r_x1 (by decide))).1.trans r_x1)) (by decide))).1.trans ((g_S10 x1 (lt18 ((g_S5 x1 (lt18 r_x1 (by decide))).1.trans r_x1) (by decide))).1.trans ((g_S5 x1 (lt18 r_x1 (by decide))).1.trans r_x1))) (by decide) (by have z0 : (125 : Int32).toInt = 125 := rfl; omega) (rc_ol q1)
    replace T_S21 : ZT S21 := T_S21
    replace B_S21 : RP S16 S21 := B_S21
    have R_S21 : RP SZ S21 := rp_t R_S16 B_S21
    dsimp only at p_r20_0 p_r20_1
    refine ok_cal2R h_r20 ?_
    have g_S21 := (fz_X6_put h_r20 T_S16.2.2.2.2.1).2.2
    exact ok_ret ⟨T_S21, R_S21, (by show (zI S21 1 x1).toInt ≤ (zI SZ 1 x1).toInt + 203; rw [q0]; omega)⟩
theorem t_d_X3_putRemark {SZ S : ZS} {x0 : Nat} {x1 : Nat} (hT : ZT S) (hR : RP SZ S) (r_x0 : zK S x0 = 4) (r_x1 : zK S x1 = 6) (q0 : SZ = S) (q1 : rL x1 = 90000) (q2 : (zI SZ 1 x1).toInt + 210 ≤ 90000) : Ok (d_X3_putRemark x0 x1 S) (fun o => ZT o.2 ∧ RP SZ o.2 ∧ ((zI o.2 1 x1).toInt ≤ (zI SZ 1 x1).toInt + 203)) := t_d_X3_putRemark_0 hT hR r_x0 r_x1 q0 q1 q2
theorem t_d_X3_putQuoted_2s {SZ S : ZS} {self2 : Nat → Nat → Int32 → ZS → Option (Int32 × ZS)} {N2 : Nat} (hself2 : ∀ (x0 : Nat) (x1 : Nat) (x2 : Int32) (S : ZS), ZT S → RP SZ S → (zK S x0 = 6) → (rc x0 ≤ 0) → (zK S x1 = 6) → ((0 : Int) ≤ x2.toInt ∧ x2.toInt ≤ (200 : Int)) → (rL x1 = 90000) → ((zI SZ 1 x1).toInt + 410 ≤ 90000) → ((zI S 1 x1).toInt ≤ (zI SZ 1 x1).toInt + 2 * x2.toInt) → (201 - x2.toInt) < (N2 : Int) → Ok (self2 x0 x1 x2 S) (fun o => ZT o.2 ∧ RP SZ o.2 ∧ ((zI o.2 1 x1).toInt ≤ (zI SZ 1 x1).toInt + 400))) {x0 : Nat} {x1 : Nat} {x2 : Int32} (hT : ZT S) (hR : RP SZ S) (r_x0 : zK S x0 = 6) (c_x0 : rc x0 ≤ 0) (r_x1 : zK S x1 = 6) (r_x2 : (0 : Int) ≤ x2.toInt ∧ x2.toInt ≤ (200 : Int)) (q0 : rL x1 = 90000) (q1 : (zI SZ 1 x1).toInt + 410 ≤ 90000) (q2 : (zI S 1 x1).toInt ≤ (zI SZ 1 x1).toInt + 2 * x2.toInt) (m2 : (201 - x2.toInt) ≤ (N2 : Int)) : Ok (d_X3_putQuoted_2s self2 x0 x1 x2 S) (fun o => ZT o.2 ∧ RP SZ o.2 ∧ ((zI o.2 1 x1).toInt ≤ (zI SZ 1 x1).toInt + 400)) := by
  unfold d_X3_putQuoted_2s
  refine ok_chk r_x0 ?_
  have j21 := J61_0 hT r_x0 c_x0
  obtain ⟨r1, h_r1, p_r1⟩ := roz (t_f_X6_size (x0 := x0) hT r_x0)
  dsimp only at p_r1
  refine ok_calR h_r1 ?_
  have s_r1 : r1.toInt = (zI S 1 x0).toInt := congrArg Int32.toInt p_r1.2
  refine ok_chk ⟨rfl, rfl⟩ ?_
  refine ok_if (fun c22 => ?_) (fun c22 => ?_)
  ·
    replace c22 := ti_leP (a := r1) (b := x2) c22 rfl rfl
    exact ok_ret ⟨hT, hR, (by show (zI S 1 x1).toInt ≤ (zI SZ 1 x1).toInt + 400; have z : (0 : Int32).toInt = 0 := rfl; omega)⟩
  ·
    replace c22 := ti_leN (a := r1) (b := x2) c22 rfl rfl
    refine ok_chk r_x0 ?_
    obtain ⟨r2, h_r2, p_r2⟩ := roz (t_f_X6_at (x0 := x0) (x1 := x2) hT r_x0)
    dsimp only at p_r2
    refine ok_calR h_r2 ?_
    refine ok_chk ⟨rfl, rfl⟩ ?_
    refine ok_if (fun c23 => ?_) (fun c23 => ?_)
    ·
      replace c23 := ti_eqP (a := r2) (b := (34 : Int32)) c23 rfl (show (34 : Int32).toInt = 34 from rfl)
      unfold d_X3_putQuoted_28
      refine ok_chk r_x1 ?_
      have j24 := J_6_1 hT r_x1
      have zl25 : (92 : Int32).toInt = 92 := rfl
      obtain ⟨⟨r2u, S3⟩, h_r2u, T_S3, B_S3, p_r2u_0, p_r2u_1⟩ := t_d_X6_put (x0 := x1) (x1 := (92 : Int32)) (SZ := S) hT (rp_0 S) r_x1 (by decide) (by have z0 : (92 : Int32).toInt = 92 := rfl; omega) (rc_ol q0)
      replace T_S3 : ZT S3 := T_S3
      replace B_S3 : RP S S3 := B_S3
      have R_S3 : RP SZ S3 := rp_t hR B_S3
      dsimp only at p_r2u_0 p_r2u_1
      refine ok_cal2R h_r2u ?_
      have g_S3 := (fz_X6_put h_r2u hT.2.2.2.2.1).2.2
      unfold d_X3_putQuoted_34
      refine ok_chk ((g_S3 x1 (lt18 r_x1 (by decide))).1.trans r_x1) ?_
      have j27 := J_6_1 T_S3 ((g_S3 x1 (lt18 r_x1 (by decide))).1.trans r_x1)
      obtain ⟨⟨r2uw26, S3u⟩, h_r2uw26, T_S3u, B_S3u, p_r2uw26_0, p_r2uw26_1⟩ := t_d_X6_put (x0 := x1) (x1 := r2) (SZ := S3) T_S3 (rp_0 S3) ((g_S3 x1 (lt18 r_x1 (by decide))).1.trans r_x1) (by omega) (by omega) (rc_ol q0)
      replace T_S3u : ZT S3u := T_S3u
      replace B_S3u : RP S3 S3u := B_S3u
      have R_S3u : RP SZ S3u := rp_t R_S3 B_S3u
      dsimp only at p_r2uw26_0 p_r2uw26_1
      refine ok_cal2R h_r2uw26 ?_
      have g_S3u := (fz_X6_put h_r2uw26 T_S3.2.2.2.2.1).2.2
      refine ok_bnd (fun v6 e28 => ?_)
      have t_v6 : v6.toInt = x2.toInt + 1 := ti_add e28 rfl (show (1 : Int32).toInt = 1 from rfl) (by omega) (by omega)
      have j29 := J_6_1 T_S3u ((g_S3u x1 (lt18 ((g_S3 x1 (lt18 r_x1 (by decide))).1.trans r_x1) (by decide))).1.trans ((g_S3 x1 (lt18 r_x1 (by decide))).1.trans r_x1))
      exact hself2 x0 x1 v6 S3u T_S3u R_S3u ((g_S3u x0 (lt18 ((g_S3 x0 (lt18 r_x0 (by decide))).1.trans r_x0) (by decide))).1.trans ((g_S3 x0 (lt18 r_x0 (by decide))).1.trans r_x0)) c_x0 ((g_S3u x1 (lt18 ((g_S3 x1 (lt18 r_x1 (by decide))).1.trans r_x1) (by decide))).1.trans ((g_S3 x1 (lt18 r_x1 (by decide))).1.trans r_x1)) (by omega) q0 q1 (by omega) (by omega)
    ·
      replace c23 := ti_eqN (a := r2) (b := (34 : Int32)) c23 rfl (show (34 : Int32).toInt = 34 from rfl)
      refine ok_if (fun c30 => ?_) (fun c30 => ?_)
      ·
        replace c30 := ti_eqP (a := r2) (b := (92 : Int32)) c30 rfl (show (92 : Int32).toInt = 92 from rfl)
        unfold d_X3_putQuoted_28
        refine ok_chk r_x1 ?_
        have j31 := J_6_1 hT r_x1
        have zl32 : (92 : Int32).toInt = 92 := rfl
        obtain ⟨⟨r2u, S3⟩, h_r2u, T_S3, B_S3, p_r2u_0, p_r2u_1⟩ := t_d_X6_put (x0 := x1) (x1 := (92 : Int32)) (SZ := S) hT (rp_0 S) r_x1 (by decide) (by have z0 : (92 : Int32).toInt = 92 := rfl; omega) (rc_ol q0)
        replace T_S3 : ZT S3 := T_S3
        replace B_S3 : RP S S3 := B_S3
        have R_S3 : RP SZ S3 := rp_t hR B_S3
        dsimp only at p_r2u_0 p_r2u_1
        refine ok_cal2R h_r2u ?_
        have g_S3 := (fz_X6_put h_r2u hT.2.2.2.2.1).2.2
        unfold d_X3_putQuoted_34
        refine ok_chk ((g_S3 x1 (lt18 r_x1 (by decide))).1.trans r_x1) ?_
        have j34 := J_6_1 T_S3 ((g_S3 x1 (lt18 r_x1 (by decide))).1.trans r_x1)
        obtain ⟨⟨r2uw33, S3u⟩, h_r2uw33, T_S3u, B_S3u, p_r2uw33_0, p_r2uw33_1⟩ := t_d_X6_put (x0 := x1) (x1 := r2) (SZ := S3) T_S3 (rp_0 S3) ((g_S3 x1 (lt18 r_x1 (by decide))).1.trans r_x1) (by omega) (by omega) (rc_ol q0)
        replace T_S3u : ZT S3u := T_S3u
        replace B_S3u : RP S3 S3u := B_S3u
        have R_S3u : RP SZ S3u := rp_t R_S3 B_S3u
        dsimp only at p_r2uw33_0 p_r2uw33_1
        refine ok_cal2R h_r2uw33 ?_
        have g_S3u := (fz_X6_put h_r2uw33 T_S3.2.2.2.2.1).2.2
        refine ok_bnd (fun v6 e35 => ?_)
        have t_v6 : v6.toInt = x2.toInt + 1 := ti_add e35 rfl (show (1 : Int32).toInt = 1 from rfl) (by omega) (by omega)
        have j36 := J_6_1 T_S3u ((g_S3u x1 (lt18 ((g_S3 x1 (lt18 r_x1 (by decide))).1.trans r_x1) (by decide))).1.trans ((g_S3 x1 (lt18 r_x1 (by decide))).1.trans r_x1))
        exact hself2 x0 x1 v6 S3u T_S3u R_S3u ((g_S3u x0 (lt18 ((g_S3 x0 (lt18 r_x0 (by decide))).1.trans r_x0) (by decide))).1.trans ((g_S3 x0 (lt18 r_x0 (by decide))).1.trans r_x0)) c_x0 ((g_S3u x1 (lt18 ((g_S3 x1 (lt18 r_x1 (by decide))).1.trans r_x1) (by decide))).1.trans ((g_S3 x1 (lt18 r_x1 (by decide))).1.trans r_x1)) (by omega) q0 q1 (by omega) (by omega)
      ·
        replace c30 := ti_eqN (a := r2) (b := (92 : Int32)) c30 rfl (show (92 : Int32).toInt = 92 from rfl)
        unfold d_X3_putQuoted_34
        refine ok_chk r_x1 ?_
        have j37 := J_6_1 hT r_x1
        obtain ⟨⟨r2u, S3⟩, h_r2u, T_S3, B_S3, p_r2u_0, p_r2u_1⟩ := t_d_X6_put (x0 := x1) (x1 := r2) (SZ := S) hT (rp_0 S) r_x1 (by omega) (by omega) (rc_ol q0)
        replace T_S3 : ZT S3 := T_S3
        replace B_S3 : RP S S3 := B_S3
        have R_S3 : RP SZ S3 := rp_t hR B_S3
        dsimp only at p_r2u_0 p_r2u_1
        refine ok_cal2R h_r2u ?_
        have g_S3 := (fz_X6_put h_r2u hT.2.2.2.2.1).2.2
        refine ok_bnd (fun v6 e38 => ?_)
        have t_v6 : v6.toInt = x2.toInt + 1 := ti_add e38 rfl (show (1 : Int32).toInt = 1 from rfl) (by omega) (by omega)
        have j39 := J_6_1 T_S3 ((g_S3 x1 (lt18 r_x1 (by decide))).1.trans r_x1)
        exact hself2 x0 x1 v6 S3 T_S3 R_S3 ((g_S3 x0 (lt18 r_x0 (by decide))).1.trans r_x0) c_x0 ((g_S3 x1 (lt18 r_x1 (by decide))).1.trans r_x1) (by omega) q0 q1 (by omega) (by omega)
theorem t_d_X3_putQuoted_2 {SZ : ZS} : ∀ (n : Nat) (x0 : Nat) (x1 : Nat) (x2 : Int32) (S : ZS), ZT S → RP SZ S → (zK S x0 = 6) → (rc x0 ≤ 0) → (zK S x1 = 6) → ((0 : Int) ≤ x2.toInt ∧ x2.toInt ≤ (200 : Int)) → (rL x1 = 90000) → ((zI SZ 1 x1).toInt + 410 ≤ 90000) → ((zI S 1 x1).toInt ≤ (zI SZ 1 x1).toInt + 2 * x2.toInt) → (201 - x2.toInt) < (n : Int) → Ok (d_X3_putQuoted_2  n x0 x1 x2 S) (fun o => ZT o.2 ∧ RP SZ o.2 ∧ ((zI o.2 1 x1).toInt ≤ (zI SZ 1 x1).toInt + 400)) := by
  intro n
  induction n with
  | zero => intro x0 x1 x2 S hT hR g0 g1 g2 g3 g4 g5 g6  hm; exfalso; omega
  | succ n ih =>
    intro x0 x1 x2 S hT hR g0 g1 g2 g3 g4 g5 g6  hm
    exact t_d_X3_putQuoted_2s (N2 := n)  ih hT hR g0 g1 g2 g3 g4 g5 g6  (by omega)
theorem t_d_X3_putQuoted_0 {SZ S : ZS} {x0 : Nat} {x1 : Nat} (hT : ZT S) (hR : RP SZ S) (r_x0 : zK S x0 = 6) (c_x0 : rc x0 ≤ 0) (r_x1 : zK S x1 = 6) (q0 : SZ = S) (q1 : rL x1 = 90000) (q2 : (zI SZ 1 x1).toInt + 410 ≤ 90000) : Ok (d_X3_putQuoted_0 x0 x1 S) (fun o => ZT o.2 ∧ RP SZ o.2 ∧ ((zI o.2 1 x1).toInt ≤ (zI SZ 1 x1).toInt + 400)) := by
  unfold d_X3_putQuoted_0
  have j40 := J_6_1 hT r_x1
  exact t_d_X3_putQuoted_2   mFuel x0 x1 (0 : Int32) S hT hR r_x0 c_x0 r_x1 (by decide) q1 q2 (by rw [q0]; have z0 : (0 : Int32).toInt = 0 := rfl; omega) (by show _ < ((200000 : Nat) : Int); have z0 : (0 : Int32).toInt = 0 := rfl; omega)
theorem t_d_X3_putQuoted {SZ S : ZS} {x0 : Nat} {x1 : Nat} (hT : ZT S) (hR : RP SZ S) (r_x0 : zK S x0 = 6) (c_x0 : rc x0 ≤ 0) (r_x1 : zK S x1 = 6) (q0 : SZ = S) (q1 : rL x1 = 90000) (q2 : (zI SZ 1 x1).toInt + 410 ≤ 90000) : Ok (d_X3_putQuoted x0 x1 S) (fun o => ZT o.2 ∧ RP SZ o.2 ∧ ((zI o.2 1 x1).toInt ≤ (zI SZ 1 x1).toInt + 400)) := t_d_X3_putQuoted_0 hT hR r_x0 c_x0 r_x1 q0 q1 q2
theorem t_d_X3_putHead_72 {SZ S : ZS} {x0 : Nat} {x1 : Nat} {x2 : Nat} (hT : ZT S) (hR : RP SZ S) (r_x0 : zK S x0 = 3) (r_x1 : zK S x1 = 1) (r_x2 : zK S x2 = 6) (q0 : rL x2 = 90000) (q1 : (zI S 1 x2).toInt ≤ 5000) : Ok (d_X3_putHead_72 x0 x1 x2 S) (fun o => ZT o.2 ∧ RP SZ o.2 ∧ ((zI o.2 1 x2).toInt ≤ 6000)) := by
  unfold d_X3_putHead_72
  have j41 := J_6_1 hT r_x2
  refine ok_chk r_x1 ?_
  have zl42 : (0 : Int32).toInt = 0 := rfl
  obtain ⟨r1, h_r1, p_r1⟩ := roz (t_f_X1_at (x0 := x1) (x1 := (0 : Int32)) hT r_x1)
  dsimp only at p_r1
  refine ok_calR h_r1 ?_
  refine ok_chk ⟨rfl, rfl⟩ ?_
  obtain ⟨⟨r3, S4⟩, h_r3, T_S4, B_S4, p_r3_0⟩ := t_d_X3_putRemark (x0 := r1) (x1 := x2) (SZ := S) hT (rp_0 S) p_r1.1 r_x2 rfl q0 (by omega)
  replace T_S4 : ZT S4 := T_S4
  replace B_S4 : RP S S4 := B_S4
  have R_S4 : RP SZ S4 := rp_t hR B_S4
  dsimp only at p_r3_0
  refine ok_cal2R h_r3 ?_
  have g_S4 := (fz_X3_putRemark h_r3 hT.2.2.2.2.1).2.2
  refine ok_chk ((g_S4 x0 (lt18 r_x0 (by decide))).1.trans r_x0) ?_
  obtain ⟨b7, p_b7, k_b7, n_b7⟩ := T_3_1 T_S4 ((g_S4 x0 (lt18 r_x0 (by decide))).1.trans r_x0)
  refine ok_calR p_b7 ?_
  refine ok_chk k_b7 ?_
  refine ok_chk (ti_inN (n := 7) n_b7 (by decide) (by decide)) ?_
  obtain ⟨b8, p_b8, k_b8⟩ := (T_S4.2.2.2.1 b7).1 k_b7 ((0 : Int32)).toNatClampNeg (by decide)
  refine ok_calR p_b8 ?_
  refine ok_chk ((g_S4 x1 (lt18 r_x1 (by decide))).1.trans r_x1) ?_
  obtain ⟨b9, p_b9, k_b9⟩ := T_1_0 T_S4 ((g_S4 x1 (lt18 r_x1 (by decide))).1.trans r_x1)
  refine ok_calR p_b9 ?_
  refine ok_chk k_b8 ?_
  obtain ⟨⟨r10, S10⟩, h_r10, T_S10, A_S10, -⟩ := t_f_X0_copyFrom (x0 := b8) (x1 := b9) (SZ := S4) T_S4 (a7_0 S4) k_b8 k_b9
  replace T_S10 : ZT S10 := T_S10
  replace A_S10 : A7 S4 S10 := A_S10
  refine ok_calR h_r10 ?_
  have q_S10 := fq_X0_copyFrom h_r10
  have kE_S10 : zK S10 = zK S4 := q_S10.2.2.1
  have nE_S10 : zN S10 = zN S4 := q_S10.2.2.2.1
  have R_S10 : RP SZ S10 := rp_f R_S4 T_S4 q_S10 (fz_X0_copyFrom h_r10) (by decide) A_S10
  have : (zI S10 1 x2).toInt = (zI S4 1 x2).toInt := congrArg Int32.toInt ((((fz_X0_copyFrom h_r10) T_S4.2.2.2.2.1).2.2 x2 (by rw [((g_S4 x2 (lt18 r_x2 (by decide))).1.trans r_x2)]; decide)).2.2.1 1 (by rw [((g_S4 x2 (lt18 r_x2 (by decide))).1.trans r_x2)]; decide))
  refine ok_chk ⟨q_S10.1, q_S10.2.1⟩ ?_
  exact ok_ret ⟨T_S10, R_S10, (by show (zI S10 1 x2).toInt ≤ 6000; have z : (0 : Int32).toInt = 0 := rfl; omega)⟩
theorem t_d_X3_putHead_2s {SZ S : ZS} {self2 : Nat → Nat → Nat → Int32 → ZS → Option (Int32 × ZS)} {N2 : Nat} (hself2 : ∀ (x0 : Nat) (x1 : Nat) (x2 : Nat) (x3 : Int32) (S : ZS), ZT S → RP SZ S → (zK S x0 = 3) → (zK S x1 = 1) → (zK S x2 = 6) → ((0 : Int) ≤ x3.toInt ∧ x3.toInt ≤ (8 : Int)) → (rL x2 = 90000) → ((zI S 1 x2).toInt ≤ 10 + 615 * x3.toInt) → (9 - x3.toInt) < (N2 : Int) → Ok (self2 x0 x1 x2 x3 S) (fun o => ZT o.2 ∧ RP SZ o.2 ∧ ((zI o.2 1 x2).toInt ≤ 6000))) {x0 : Nat} {x1 : Nat} {x2 : Nat} {x3 : Int32} (hT : ZT S) (hR : RP SZ S) (r_x0 : zK S x0 = 3) (r_x1 : zK S x1 = 1) (r_x2 : zK S x2 = 6) (r_x3 : (0 : Int) ≤ x3.toInt ∧ x3.toInt ≤ (8 : Int)) (q0 : rL x2 = 90000) (q1 : (zI S 1 x2).toInt ≤ 10 + 615 * x3.toInt) (m2 : (9 - x3.toInt) ≤ (N2 : Int)) : Ok (d_X3_putHead_2s self2 x0 x1 x2 x3 S) (fun o => ZT o.2 ∧ RP SZ o.2 ∧ ((zI o.2 1 x2).toInt ≤ 6000)) := by
  unfold d_X3_putHead_2s
  have j43 := J_6_1 hT r_x2
  have z11 : zSl.getD 11 0 = 2 := rfl
  have z12 : zSl.getD 12 0 = 3 := rfl
  refine ok_chk r_x1 ?_
  have j44 := J_1_5 hT r_x1
  refine ok_if (fun c45 => ?_) (fun c45 => ?_)
  ·
    replace c45 := ti_leP (a := (zI S 5 x1)) (b := x3) c45 rfl rfl
    refine ok_chk r_x1 ?_
    refine ok_if (fun c46 => ?_) (fun c46 => ?_)
    ·
      replace c46 := ti_leP (a := (zI S 5 x1)) (b := (0 : Int32)) c46 rfl (show (0 : Int32).toInt = 0 from rfl)
      exact t_d_X3_putHead_72 (S := S)  (x0 := x0) (x1 := x1) (x2 := x2) hT hR r_x0 r_x1 r_x2 q0 (by omega)
    ·
      replace c46 := ti_leN (a := (zI S 5 x1)) (b := (0 : Int32)) c46 rfl (show (0 : Int32).toInt = 0 from rfl)
      refine ok_chk r_x2 ?_
      have zl47 : (10 : Int32).toInt = 10 := rfl
      obtain ⟨⟨r2, S3⟩, h_r2, T_S3, B_S3, p_r2_0, p_r2_1⟩ := t_d_X6_put (x0 := x2) (x1 := (10 : Int32)) (SZ := S) hT (rp_0 S) r_x2 (by decide) (by have z0 : (10 : Int32).toInt = 10 := rfl; omega) (rc_ol q0)
      replace T_S3 : ZT S3 := T_S3
      replace B_S3 : RP S S3 := B_S3
      have R_S3 : RP SZ S3 := rp_t hR B_S3
      dsimp only at p_r2_0 p_r2_1
      refine ok_cal2R h_r2 ?_
      have g_S3 := (fz_X6_put h_r2 hT.2.2.2.2.1).2.2
      have j48 := J_6_1 T_S3 ((g_S3 x2 (lt18 r_x2 (by decide))).1.trans r_x2)
      exact t_d_X3_putHead_72 (S := S3)  (x0 := x0) (x1 := x1) (x2 := x2) T_S3 R_S3 ((g_S3 x0 (lt18 r_x0 (by decide))).1.trans r_x0) ((g_S3 x1 (lt18 r_x1 (by decide))).1.trans r_x1) ((g_S3 x2 (lt18 r_x2 (by decide))).1.trans r_x2) q0 (by omega)
  ·
    replace c45 := ti_leN (a := (zI S 5 x1)) (b := x3) c45 rfl rfl
    refine ok_chk r_x1 ?_
    obtain ⟨r7, h_r7, p_r7⟩ := roz (t_d_X1_tagAt (x0 := x1) (x1 := x3) hT r_x1 (by omega))
    dsimp only at p_r7
    refine ok_cal2R h_r7 ?_
    refine ok_chk r_x2 ?_
    have zl49 : (91 : Int32).toInt = 91 := rfl
    obtain ⟨⟨r12, S13⟩, h_r12, T_S13, B_S13, p_r12_0, p_r12_1⟩ := t_d_X6_put (x0 := x2) (x1 := (91 : Int32)) (SZ := S) hT (rp_0 S) r_x2 (by decide) (by have z0 : (91 : Int32).toInt = 91 := rfl; omega) (rc_ol q0)
    replace T_S13 : ZT S13 := T_S13
    replace B_S13 : RP S S13 := B_S13
    have R_S13 : RP SZ S13 := rp_t hR B_S13
    dsimp only at p_r12_0 p_r12_1
    refine ok_cal2R h_r12 ?_
    have g_S13 := (fz_X6_put h_r12 hT.2.2.2.2.1).2.2
    refine ok_chk ((g_S13 r7 (lt18 p_r7 (by decide))).1.trans p_r7) ?_
    obtain ⟨b16, p_b16, k_b16, c_b16⟩ := T_10_0 T_S13 ((g_S13 r7 (lt18 p_r7 (by decide))).1.trans p_r7)
    have rl_b16 := rL_0 c_b16
    refine ok_calR p_b16 ?_
    refine ok_chk ((g_S13 x2 (lt18 r_x2 (by decide))).1.trans r_x2) ?_
    have j50 := J_6_1 T_S13 ((g_S13 x2 (lt18 r_x2 (by decide))).1.trans r_x2)
    have j51 := J61_0 T_S13 k_b16 c_b16
    obtain ⟨⟨r18, S19⟩, h_r18, T_S19, B_S19, p_r18_0, p_r18_1⟩ := t_d_X6_putAll (x0 := x2) (x1 := b16) (SZ := S13) T_S13 (rp_0 S13) ((g_S13 x2 (lt18 r_x2 (by decide))).1.trans r_x2) k_b16 rfl (fun h => by rw [h] at q0; omega) (by omega) (rc_ol q0)
    replace T_S19 : ZT S19 := T_S19
    replace B_S19 : RP S13 S19 := B_S19
    have R_S19 : RP SZ S19 := rp_t R_S13 B_S19
    dsimp only at p_r18_0 p_r18_1
    refine ok_cal2R h_r18 ?_
    have g_S19 := (fz_X6_putAll h_r18 T_S13.2.2.2.2.1).2.2
    refine ok_chk ((g_S19 x2 (lt18 ((g_S13 x2 (lt18 r_x2 (by decide))).1.trans r_x2) (by decide))).1.trans ((g_S13 x2 (lt18 r_x2 (by decide))).1.trans r_x2)) ?_
    have j52 := J_6_1 T_S19 ((g_S19 x2 (lt18 ((g_S13 x2 (lt18 r_x2 (by decide))).1.trans r_x2) (by decide))).1.trans ((g_S13 x2 (lt18 r_x2 (by decide))).1.trans r_x2))
    obtain ⟨⟨r23, S24⟩, h_r23, T_S24, B_S24, p_r23_0⟩ := t_d_X6_putText (x0 := x2) (x1 := 11) (SZ := S19) T_S19 (rp_0 S19) ((g_S19 x2 (lt18 ((g_S13 x2 (lt18 r_x2 (by decide))).1.trans r_x2) (by decide))).1.trans ((g_S13 x2 (lt18 r_x2 (by decide))).1.trans r_x2)) (by decide) rfl q0 (by omega)
    replace T_S24 : ZT S24 := T_S24
    replace B_S24 : RP S19 S24 := B_S24
    have R_S24 : RP SZ S24 := rp_t R_S19 B_S24
    dsimp only at p_r23_0
    refine ok_cal2R h_r23 ?_
    have g_S24 := (fz_X6_putText h_r23 T_S19.2.2.2.2.1).2.2
    refine ok_chk ((g_S24 r7 (lt18 ((g_S19 r7 (lt18 ((g_S13 r7 (lt18 p_r7 (by decide))).1.trans p_r7) (by decide))).1.trans ((g_S13 r7 (lt18 p_r7 (by decide))).1.trans p_r7)) (by decide))).1.trans ((g_S19 r7 (lt18 ((g_S13 r7 (lt18 p_r7 (by decide))).1.trans p_r7) (by decide))).1.trans ((g_S13 r7 (lt18 p_r7 (by decide))).1.trans p_r7))) ?_
    obtain ⟨b27, p_b27, k_b27, c_b27⟩ := T_10_1 T_S24 ((g_S24 r7 (lt18 ((g_S19 r7 (lt18 ((g_S13 r7 (lt18 p_r7 (by decide))).1.trans p_r7) (by decide))).1.trans ((g_S13 r7 (lt18 p_r7 (by decide))).1.trans p_r7)) (by decide))).1.trans ((g_S19 r7 (lt18 ((g_S13 r7 (lt18 p_r7 (by decide))).1.trans p_r7) (by decide))).1.trans ((g_S13 r7 (lt18 p_r7 (by decide))).1.trans p_r7)))
    have rl_b27 := rL_0 c_b27
    refine ok_calR p_b27 ?_
    have j53 := J61_0 T_S24 k_b27 c_b27
    have j54 := J_6_1 T_S24 ((g_S24 x2 (lt18 ((g_S19 x2 (lt18 ((g_S13 x2 (lt18 r_x2 (by decide))).1.trans r_x2) (by decide))).1.trans ((g_S13 x2 (lt18 r_x2 (by decide))).1.trans r_x2)) (by decide))).1.trans ((g_S19 x2 (lt18 ((g_S13 x2 (lt18 r_x2 (by decide))).1.trans r_x2) (by decide))).1.trans ((g_S13 x2 (lt18 r_x2 (by decide))).1.trans r_x2)))
    obtain ⟨⟨r29, S30⟩, h_r29, T_S30, B_S30, p_r29_0⟩ := t_d_X3_putQuoted (x0 := b27) (x1 := x2) (SZ := S24) T_S24 (rp_0 S24) k_b27 c_b27 ((g_S24 x2 (lt18 ((g_S19 x2 (lt18 ((g_S13 x2 (lt18 r_x2 (by decide))).1.trans r_x2) (by decide))).1.trans ((g_S13 x2 (lt18 r_x2 (by decide))).1.trans r_x2)) (by decide))).1.trans ((g_S19 x2 (lt18 ((g_S13 x2 (lt18 r_x2 (by decide))).1.trans r_x2) (by decide))).1.trans ((g_S13 x2 (lt18 r_x2 (by decide))).1.trans r_x2))) rfl q0 (by omega)
    replace T_S30 : ZT S30 := T_S30
    replace B_S30 : RP S24 S30 := B_S30
    have R_S30 : RP SZ S30 := rp_t R_S24 B_S30
    dsimp only at p_r29_0
    refine ok_cal2R h_r29 ?_
    have g_S30 := (fz_X3_putQuoted h_r29 T_S24.2.2.2.2.1).2.2
    refine ok_chk ((g_S30 x2 (lt18 ((g_S24 x2 (lt18 ((g_S19 x2 (lt18 ((g_S13 x2 (lt18 r_x2 (by decide))).1.trans r_x2) (by decide))).1.trans ((g_S13 x2 (lt18 r_x2 (by decide))).1.trans r_x2)) (by decide))).1.trans ((g_S19 x2 (lt18 ((g_S13 x2 (lt18 r_x2 (by decide))).1.trans r_x2) (by decide))).1.trans ((g_S13 x2 (lt18 r_x2 (by decide))).1.trans r_x2))) (by decide))).1.trans ((g_S24 x2 (lt18 ((g_S19 x2 (lt18 ((g_S13 x2 (lt18 r_x2 (by decide))).1.trans r_x2) (by decide))).1.trans ((g_S13 x2 (lt18 r_x2 (by decide))).1.trans r_x2)) (by decide))).1.trans ((g_S19 x2 (lt18 ((g_S13 x2 (lt18 r_x2 (by decide))).1.trans r_x2) (by decide))).1.trans ((g_S13 x2 (lt18 r_x2 (by decide))).1.trans r_x2)))) ?_
    have j55 := J_6_1 T_S30 ((g_S30 x2 (lt18 ((g_S24 x2 (lt18 ((g_S19 x2 (lt18 ((g_S13 x2 (lt18 r_x2 (by decide))).1.trans r_x2) (by decide))).1.trans ((g_S13 x2 (lt18 r_x2 (by decide))).1.trans r_x2)) (by decide))).1.trans ((g_S19 x2 (lt18 ((g_S13 x2 (lt18 r_x2 (by decide))).1.trans r_x2) (by decide))).1.trans ((g_S13 x2 (lt18 r_x2 (by decide))).1.trans r_x2))) (by decide))).1.trans ((g_S24 x2 (lt18 ((g_S19 x2 (lt18 ((g_S13 x2 (lt18 r_x2 (by decide))).1.trans r_x2) (by decide))).1.trans ((g_S13 x2 (lt18 r_x2 (by decide))).1.trans r_x2)) (by decide))).1.trans ((g_S19 x2 (lt18 ((g_S13 x2 (lt18 r_x2 (by decide))).1.trans r_x2) (by decide))).1.trans ((g_S13 x2 (lt18 r_x2 (by decide))).1.trans r_x2))))
    obtain ⟨⟨r34, S35⟩, h_r34, T_S35, B_S35, p_r34_0⟩ := t_d_X6_putText (x0 := x2) (x1 := 12) (SZ := S30) T_S30 (rp_0 S30) ((g_S30 x2 (lt18 ((g_S24 x2 (lt18 ((g_S19 x2 (lt18 ((g_S13 x2 (lt18 r_x2 (by decide))).1.trans r_x2) (by decide))).1.trans ((g_S13 x2 (lt18 r_x2 (by decide))).1.trans r_x2)) (by decide))).1.trans ((g_S19 x2 (lt18 ((g_S13 x2 (lt18 r_x2 (by decide))).1.trans r_x2) (by decide))).1.trans ((g_S13 x2 (lt18 r_x2 (by decide))).1.trans r_x2))) (by decide))).1.trans ((g_S24 x2 (lt18 ((g_S19 x2 (lt18 ((g_S13 x2 (lt18 r_x2 (by decide))).1.trans r_x2) (by decide))).1.trans ((g_S13 x2 (lt18 r_x2 (by decide))).1.trans r_x2)) (by decide))).1.trans ((g_S19 x2 (lt18 ((g_S13 x2 (lt18 r_x2 (by decide))).1.trans r_x2) (by decide))).1.trans ((g_S13 x2 (lt18 r_x2 (by decide))).1.trans r_x2)))) (by decide) rfl q0 (by omega)
    replace T_S35 : ZT S35 := T_S35
    replace B_S35 : RP S30 S35 := B_S35
    have R_S35 : RP SZ S35 := rp_t R_S30 B_S35
    dsimp only at p_r34_0
    refine ok_cal2R h_r34 ?_
    have g_S35 := (fz_X6_putText h_r34 T_S30.2.2.2.2.1).2.2
    refine ok_bnd (fun v38 e56 => ?_)
    have t_v38 : v38.toInt = x3.toInt + 1 := ti_add e56 rfl (show (1 : Int32).toInt = 1 from rfl) (by omega) (by omega)
    have j57 := J_6_1 T_S35 ((g_S35 x2 (lt18 ((g_S30 x2 (lt18 ((g_S24 x2 (lt18 ((g_S19 x2 (lt18 ((g_S13 x2 (lt18 r_x2 (by decide))).1.trans r_x2) (by decide))).1.trans ((g_S13 x2 (lt18 r_x2 (by decide))).1.trans r_x2)) (by decide))).1.trans ((g_S19 x2 (lt18 ((g_S13 x2 (lt18 r_x2 (by decide))).1.trans r_x2) (by decide))).1.trans ((g_S13 x2 (lt18 r_x2 (by decide))).1.trans r_x2))) (by decide))).1.trans ((g_S24 x2 (lt18 ((g_S19 x2 (lt18 ((g_S13 x2 (lt18 r_x2 (by decide))).1.trans r_x2) (by decide))).1.trans ((g_S13 x2 (lt18 r_x2 (by decide))).1.trans r_x2)) (by decide))).1.trans ((g_S19 x2 (lt18 ((g_S13 x2 (lt18 r_x2 (by decide))).1.trans r_x2) (by decide))).1.trans ((g_S13 x2 (lt18 r_x2 (by decide))).1.trans r_x2)))) (by decide))).1.trans ((g_S30 x2 (lt18 ((g_S24 x2 (lt18 ((g_S19 x2 (lt18 ((g_S13 x2 (lt18 r_x2 (by decide))).1.trans r_x2) (by decide))).1.trans ((g_S13 x2 (lt18 r_x2 (by decide))).1.trans r_x2)) (by decide))).1.trans ((g_S19 x2 (lt18 ((g_S13 x2 (lt18 r_x2 (by decide))).1.trans r_x2) (by decide))).1.trans ((g_S13 x2 (lt18 r_x2 (by decide))).1.trans r_x2))) (by decide))).1.trans ((g_S24 x2 (lt18 ((g_S19 x2 (lt18 ((g_S13 x2 (lt18 r_x2 (by decide))).1.trans r_x2) (by decide))).1.trans ((g_S13 x2 (lt18 r_x2 (by decide))).1.trans r_x2)) (by decide))).1.trans ((g_S19 x2 (lt18 ((g_S13 x2 (lt18 r_x2 (by decide))).1.trans r_x2) (by decide))).1.trans ((g_S13 x2 (lt18 r_x2 (by decide))).1.trans r_x2)))))
    exact hself2 x0 x1 x2 v38 S35 T_S35 R_S35 ((g_S35 x0 (lt18 ((g_S30 x0 (lt18 ((g_S24 x0 (lt18 ((g_S19 x0 (lt18 ((g_S13 x0 (lt18 r_x0 (by decide))).1.trans r_x0) (by decide))).1.trans ((g_S13 x0 (lt18 r_x0 (by decide))).1.trans r_x0)) (by decide))).1.trans ((g_S19 x0 (lt18 ((g_S13 x0 (lt18 r_x0 (by decide))).1.trans r_x0) (by decide))).1.trans ((g_S13 x0 (lt18 r_x0 (by decide))).1.trans r_x0))) (by decide))).1.trans ((g_S24 x0 (lt18 ((g_S19 x0 (lt18 ((g_S13 x0 (lt18 r_x0 (by decide))).1.trans r_x0) (by decide))).1.trans ((g_S13 x0 (lt18 r_x0 (by decide))).1.trans r_x0)) (by decide))).1.trans ((g_S19 x0 (lt18 ((g_S13 x0 (lt18 r_x0 (by decide))).1.trans r_x0) (by decide))).1.trans ((g_S13 x0 (lt18 r_x0 (by decide))).1.trans r_x0)))) (by decide))).1.trans ((g_S30 x0 (lt18 ((g_S24 x0 (lt18 ((g_S19 x0 (lt18 ((g_S13 x0 (lt18 r_x0 (by decide))).1.trans r_x0) (by decide))).1.trans ((g_S13 x0 (lt18 r_x0 (by decide))).1.trans r_x0)) (by decide))).1.trans ((g_S19 x0 (lt18 ((g_S13 x0 (lt18 r_x0 (by decide))).1.trans r_x0) (by decide))).1.trans ((g_S13 x0 (lt18 r_x0 (by decide))).1.trans r_x0))) (by decide))).1.trans ((g_S24 x0 (lt18 ((g_S19 x0 (lt18 ((g_S13 x0 (lt18 r_x0 (by decide))).1.trans r_x0) (by decide))).1.trans ((g_S13 x0 (lt18 r_x0 (by decide))).1.trans r_x0)) (by decide))).1.trans ((g_S19 x0 (lt18 ((g_S13 x0 (lt18 r_x0 (by decide))).1.trans r_x0) (by decide))).1.trans ((g_S13 x0 (lt18 r_x0 (by decide))).1.trans r_x0))))) ((g_S35 x1 (lt18 ((g_S30 x1 (lt18 ((g_S24 x1 (lt18 ((g_S19 x1 (lt18 ((g_S13 x1 (lt18 r_x1 (by decide))).1.trans r_x1) (by decide))).1.trans ((g_S13 x1 (lt18 r_x1 (by decide))).1.trans r_x1)) (by decide))).1.trans ((g_S19 x1 (lt18 ((g_S13 x1 (lt18 r_x1 (by decide))).1.trans r_x1) (by decide))).1.trans ((g_S13 x1 (lt18 r_x1 (by decide))).1.trans r_x1))) (by decide))).1.trans ((g_S24 x1 (lt18 ((g_S19 x1 (lt18 ((g_S13 x1 (lt18 r_x1 (by decide))).1.trans r_x1) (by decide))).1.trans ((g_S13 x1 (lt18 r_x1 (by decide))).1.trans r_x1)) (by decide))).1.trans ((g_S19 x1 (lt18 ((g_S13 x1 (lt18 r_x1 (by decide))).1.trans r_x1) (by decide))).1.trans ((g_S13 x1 (lt18 r_x1 (by decide))).1.trans r_x1)))) (by decide))).1.trans ((g_S30 x1 (lt18 ((g_S24 x1 (lt18 ((g_S19 x1 (lt18 ((g_S13 x1 (lt18 r_x1 (by decide))).1.trans r_x1) (by decide))).1.trans ((g_S13 x1 (lt18 r_x1 (by decide))).1.trans r_x1)) (by decide))).1.trans ((g_S19 x1 (lt18 ((g_S13 x1 (lt18 r_x1 (by decide))).1.trans r_x1) (by decide))).1.trans ((g_S13 x1 (lt18 r_x1 (by decide))).1.trans r_x1))) (by decide))).1.trans ((g_S24 x1 (lt18 ((g_S19 x1 (lt18 ((g_S13 x1 (lt18 r_x1 (by decide))).1.trans r_x1) (by decide))).1.trans ((g_S13 x1 (lt18 r_x1 (by decide))).1.trans r_x1)) (by decide))).1.trans ((g_S19 x1 (lt18 ((g_S13 x1 (lt18 r_x1 (by decide))).1.trans r_x1) (by decide))).1.trans ((g_S13 x1 (lt18 r_x1 (by decide))).1.trans r_x1))))) ((g_S35 x2 (lt18 ((g_S30 x2 (lt18 ((g_S24 x2 (lt18 ((g_S19 x2 (lt18 ((g_S13 x2 (lt18 r_x2 (by decide))).1.trans r_x2) (by decide))).1.trans ((g_S13 x2 (lt18 r_x2 (by decide))).1.trans r_x2)) (by decide))).1.trans ((g_S19 x2 (lt18 ((g_S13 x2 (lt18 r_x2 (by decide))).1.trans r_x2) (by decide))).1.trans ((g_S13 x2 (lt18 r_x2 (by decide))).1.trans r_x2))) (by decide))).1.trans ((g_S24 x2 (lt18 ((g_S19 x2 (lt18 ((g_S13 x2 (lt18 r_x2 (by decide))).1.trans r_x2) (by decide))).1.trans ((g_S13 x2 (lt18 r_x2 (by decide))).1.trans r_x2)) (by decide))).1.trans ((g_S19 x2 (lt18 ((g_S13 x2 (lt18 r_x2 (by decide))).1.trans r_x2) (by decide))).1.trans ((g_S13 x2 (lt18 r_x2 (by decide))).1.trans r_x2)))) (by decide))).1.trans ((g_S30 x2 (lt18 ((g_S24 x2 (lt18 ((g_S19 x2 (lt18 ((g_S13 x2 (lt18 r_x2 (by decide))).1.trans r_x2) (by decide))).1.trans ((g_S13 x2 (lt18 r_x2 (by decide))).1.trans r_x2)) (by decide))).1.trans ((g_S19 x2 (lt18 ((g_S13 x2 (lt18 r_x2 (by decide))).1.trans r_x2) (by decide))).1.trans ((g_S13 x2 (lt18 r_x2 (by decide))).1.trans r_x2))) (by decide))).1.trans ((g_S24 x2 (lt18 ((g_S19 x2 (lt18 ((g_S13 x2 (lt18 r_x2 (by decide))).1.trans r_x2) (by decide))).1.trans ((g_S13 x2 (lt18 r_x2 (by decide))).1.trans r_x2)) (by decide))).1.trans ((g_S19 x2 (lt18 ((g_S13 x2 (lt18 r_x2 (by decide))).1.trans r_x2) (by decide))).1.trans ((g_S13 x2 (lt18 r_x2 (by decide))).1.trans r_x2))))) (by omega) q0 (by omega) (by omega)
theorem t_d_X3_putHead_2 {SZ : ZS} : ∀ (n : Nat) (x0 : Nat) (x1 : Nat) (x2 : Nat) (x3 : Int32) (S : ZS), ZT S → RP SZ S → (zK S x0 = 3) → (zK S x1 = 1) → (zK S x2 = 6) → ((0 : Int) ≤ x3.toInt ∧ x3.toInt ≤ (8 : Int)) → (rL x2 = 90000) → ((zI S 1 x2).toInt ≤ 10 + 615 * x3.toInt) → (9 - x3.toInt) < (n : Int) → Ok (d_X3_putHead_2  n x0 x1 x2 x3 S) (fun o => ZT o.2 ∧ RP SZ o.2 ∧ ((zI o.2 1 x2).toInt ≤ 6000)) := by
  intro n
  induction n with
  | zero => intro x0 x1 x2 x3 S hT hR g0 g1 g2 g3 g4 g5  hm; exfalso; omega
  | succ n ih =>
    intro x0 x1 x2 x3 S hT hR g0 g1 g2 g3 g4 g5  hm
    exact t_d_X3_putHead_2s (N2 := n)  ih hT hR g0 g1 g2 g3 g4 g5  (by omega)
theorem t_d_X3_putHead_0 {SZ S : ZS} {x0 : Nat} {x1 : Nat} {x2 : Nat} (hT : ZT S) (hR : RP SZ S) (r_x0 : zK S x0 = 3) (r_x1 : zK S x1 = 1) (r_x2 : zK S x2 = 6) (q0 : rL x2 = 90000) (q1 : (zI S 1 x2).toInt ≤ 10) : Ok (d_X3_putHead_0 x0 x1 x2 S) (fun o => ZT o.2 ∧ RP SZ o.2 ∧ ((zI o.2 1 x2).toInt ≤ 6000)) := by
  unfold d_X3_putHead_0
  have j58 := J_6_1 hT r_x2
  exact t_d_X3_putHead_2   mFuel x0 x1 x2 (0 : Int32) S hT hR r_x0 r_x1 r_x2 (by decide) q0 (by have z0 : (0 : Int32).toInt = 0 := rfl; omega) (by show _ < ((200000 : Nat) : Int); have z0 : (0 : Int32).toInt = 0 := rfl; omega)
theorem t_d_X3_putHead {SZ S : ZS} {x0 : Nat} {x1 : Nat} {x2 : Nat} (hT : ZT S) (hR : RP SZ S) (r_x0 : zK S x0 = 3) (r_x1 : zK S x1 = 1) (r_x2 : zK S x2 = 6) (q0 : rL x2 = 90000) (q1 : (zI S 1 x2).toInt ≤ 10) : Ok (d_X3_putHead x0 x1 x2 S) (fun o => ZT o.2 ∧ RP SZ o.2 ∧ ((zI o.2 1 x2).toInt ≤ 6000)) := t_d_X3_putHead_0 hT hR r_x0 r_x1 r_x2 q0 q1
theorem t_d_X3_putEnd_0 {SZ S : ZS} {x1 : Nat} {x2 : Nat} (hT : ZT S) (hR : RP SZ S) (r_x1 : zK S x1 = 1) (r_x2 : zK S x2 = 6) (q0 : rL x2 = 90000) (q1 : (zI S 1 x2).toInt ≤ 89900) : Ok (d_X3_putEnd_0 x1 x2 S) (fun o => ZT o.2 ∧ RP SZ o.2 ∧ True) := by
  unfold d_X3_putEnd_0
  have j59 := J_6_1 hT r_x2
  obtain ⟨⟨r2, S3⟩, h_r2, T_S3, B_S3, p_r2_0⟩ := t_d_X3_putGap (x0 := x2) (SZ := S) hT (rp_0 S) r_x2 rfl q0 (by omega)
  replace T_S3 : ZT S3 := T_S3
  replace B_S3 : RP S S3 := B_S3
  have R_S3 : RP SZ S3 := rp_t hR B_S3
  dsimp only at p_r2_0
  refine ok_cal2R h_r2 ?_
  have g_S3 := (fz_X3_putGap h_r2 hT.2.2.2.2.1).2.2
  refine ok_chk ((g_S3 x1 (lt18 r_x1 (by decide))).1.trans r_x1) ?_
  obtain ⟨r6, h_r6, p_r6⟩ := roz (t_f_X11_resultSign (x0 := (zI S3 6 x1)) T_S3 )
  dsimp only at p_r6
  refine ok_calR h_r6 ?_
  refine ok_chk ⟨rfl, rfl⟩ ?_
  refine ok_chk ((g_S3 x2 (lt18 r_x2 (by decide))).1.trans r_x2) ?_
  have j60 := J_6_1 T_S3 ((g_S3 x2 (lt18 r_x2 (by decide))).1.trans r_x2)
  obtain ⟨⟨r8, S9⟩, h_r8, T_S9, B_S9, p_r8_0⟩ := t_d_X6_putText (x0 := x2) (x1 := r6) (SZ := S3) T_S3 (rp_0 S3) ((g_S3 x2 (lt18 r_x2 (by decide))).1.trans r_x2) p_r6 rfl q0 (by omega)
  replace T_S9 : ZT S9 := T_S9
  replace B_S9 : RP S3 S9 := B_S9
  have R_S9 : RP SZ S9 := rp_t R_S3 B_S9
  dsimp only at p_r8_0
  refine ok_cal2R h_r8 ?_
  have g_S9 := (fz_X6_putText h_r8 T_S3.2.2.2.2.1).2.2
  exact ok_ret ⟨T_S9, R_S9, trivial⟩
theorem t_d_X3_putEnd {SZ S : ZS} {x0 : Nat} {x1 : Nat} {x2 : Nat} (hT : ZT S) (hR : RP SZ S) (r_x1 : zK S x1 = 1) (r_x2 : zK S x2 = 6) (q0 : rL x2 = 90000) (q1 : (zI S 1 x2).toInt ≤ 89900) : Ok (d_X3_putEnd x0 x1 x2 S) (fun o => ZT o.2 ∧ RP SZ o.2 ∧ True) := t_d_X3_putEnd_0 hT hR r_x1 r_x2 q0 q1
theorem t_d_X6_putNumber_29s {SZ S : ZS} {self29 : Nat → Int32 → Int32 → ZS → Option (Int32 × ZS)} {N29 : Nat} (hself29 : ∀ (x0 : Nat) (x1 : Int32) (x2 : Int32) (S : ZS), ZT S → RP SZ S → (zK S x0 = 6) → ((0 : Int) ≤ x2.toInt ∧ x2.toInt ≤ (2147483647 : Int)) → (rL x0 = 90000) → ((zI SZ 1 x0).toInt + 20 ≤ 90000) → ((zI S 1 x0).toInt ≤ (zI SZ 1 x0).toInt + 10 - dg x2.toInt) → ((x1.toInt ≤ 999 → (zI S 1 x0).toInt ≤ (zI SZ 1 x0).toInt + 3 - dg x2.toInt)) → (dg x2.toInt) < (N29 : Int) → Ok (self29 x0 x1 x2 S) (fun o => ZT o.2 ∧ RP SZ o.2 ∧ ((zI o.2 1 x0).toInt ≤ (zI SZ 1 x0).toInt + 10) ∧ ((x1.toInt ≤ 999 → (zI o.2 1 x0).toInt ≤ (zI SZ 1 x0).toInt + 3)))) {x0 : Nat} {x1 : Int32} {x2 : Int32} (hT : ZT S) (hR : RP SZ S) (r_x0 : zK S x0 = 6) (r_x2 : (0 : Int) ≤ x2.toInt ∧ x2.toInt ≤ (2147483647 : Int)) (q0 : rL x0 = 90000) (q1 : (zI SZ 1 x0).toInt + 20 ≤ 90000) (q2 : (zI S 1 x0).toInt ≤ (zI SZ 1 x0).toInt + 10 - dg x2.toInt) (q3 : (x1.toInt ≤ 999 → (zI S 1 x0).toInt ≤ (zI SZ 1 x0).toInt + 3 - dg x2.toInt)) (m29 : (dg x2.toInt) ≤ (N29 : Int)) : Ok (d_X6_putNumber_29s self29 x0 x1 x2 S) (fun o => ZT o.2 ∧ RP SZ o.2 ∧ ((zI o.2 1 x0).toInt ≤ (zI SZ 1 x0).toInt + 10) ∧ ((x1.toInt ≤ 999 → (zI o.2 1 x0).toInt ≤ (zI SZ 1 x0).toInt + 3))) := by
  unfold d_X6_putNumber_29s
  have d0 := dg_b x2.toInt
  refine ok_if (fun c61 => ?_) (fun c61 => ?_)
  ·
    replace c61 := ti_leP (a := x2) (b := (0 : Int32)) c61 rfl (show (0 : Int32).toInt = 0 from rfl)
    exact ok_ret ⟨hT, hR, (by show (zI S 1 x0).toInt ≤ (zI SZ 1 x0).toInt + 10; have z : (0 : Int32).toInt = 0 := rfl; omega), (by show (x1.toInt ≤ 999 → (zI S 1 x0).toInt ≤ (zI SZ 1 x0).toInt + 3); have z : (0 : Int32).toInt = 0 := rfl; omega)⟩
  ·
    replace c61 := ti_leN (a := x2) (b := (0 : Int32)) c61 rfl (show (0 : Int32).toInt = 0 from rfl)
    refine ok_chk (ti_ne0 (by omega)) ?_
    refine ok_bnd (fun v1 e62 => ?_)
    refine ok_bnd (fun v2 e63 => ?_)
    refine ok_bnd (fun v3 e64 => ?_)
    refine ok_bnd (fun v4 e65 => ?_)
    have t_v4 := nar_cb e65
    refine ok_chk r_x0 ?_
    have j66 := J_6_1 hT r_x0
    obtain ⟨⟨r6, S7⟩, h_r6, T_S7, B_S7, p_r6_0, p_r6_1⟩ := t_d_X6_put (x0 := x0) (x1 := v4) (SZ := S) hT (rp_0 S) r_x0 (by omega) (by omega) (rc_ol q0)
    replace T_S7 : ZT S7 := T_S7
    replace B_S7 : RP S S7 := B_S7
    have R_S7 : RP SZ S7 := rp_t hR B_S7
    dsimp only at p_r6_0 p_r6_1
    refine ok_cal2R h_r6 ?_
    have g_S7 := (fz_X6_put h_r6 hT.2.2.2.2.1).2.2
    refine ok_bnd (fun v10 e67 => ?_)
    have t_v10 : v10.toInt = x2.toInt / 10 := ti_div e67 rfl (show (10 : Int32).toInt = 10 from rfl) (by omega) (by decide)
    have d1 := dg_s (x := x2.toInt) (by omega) (by omega)
    have d2 : dg v10.toInt = dg (x2.toInt / 10) := by rw [t_v10]
    have j68 := J_6_1 T_S7 ((g_S7 x0 (lt18 r_x0 (by decide))).1.trans r_x0)
    exact hself29 x0 x1 v10 S7 T_S7 R_S7 ((g_S7 x0 (lt18 r_x0 (by decide))).1.trans r_x0) (by omega) q0 q1 (by omega) (by omega) (by omega)
theorem t_d_X6_putNumber_29 {SZ : ZS} : ∀ (n : Nat) (x0 : Nat) (x1 : Int32) (x2 : Int32) (S : ZS), ZT S → RP SZ S → (zK S x0 = 6) → ((0 : Int) ≤ x2.toInt ∧ x2.toInt ≤ (2147483647 : Int)) → (rL x0 = 90000) → ((zI SZ 1 x0).toInt + 20 ≤ 90000) → ((zI S 1 x0).toInt ≤ (zI SZ 1 x0).toInt + 10 - dg x2.toInt) → ((x1.toInt ≤ 999 → (zI S 1 x0).toInt ≤ (zI SZ 1 x0).toInt + 3 - dg x2.toInt)) → (dg x2.toInt) < (n : Int) → Ok (d_X6_putNumber_29  n x0 x1 x2 S) (fun o => ZT o.2 ∧ RP SZ o.2 ∧ ((zI o.2 1 x0).toInt ≤ (zI SZ 1 x0).toInt + 10) ∧ ((x1.toInt ≤ 999 → (zI o.2 1 x0).toInt ≤ (zI SZ 1 x0).toInt + 3))) := by
  intro n
  induction n with
  | zero => intro x0 x1 x2 S hT hR g0 g1 g2 g3 g4 g5  hm; exfalso; have d9 := dg_b x2.toInt; omega
  | succ n ih =>
    intro x0 x1 x2 S hT hR g0 g1 g2 g3 g4 g5  hm
    exact t_d_X6_putNumber_29s (N29 := n)  ih hT hR g0 g1 g2 g3 g4 g5  (by omega)
theorem t_d_X6_putNumber_4s {SZ S : ZS} {self4 : Nat → Int32 → Int32 → Int32 → ZS → Option (Int32 × ZS)} {N4 : Nat} (hself4 : ∀ (x0 : Nat) (x1 : Int32) (x2 : Int32) (x3 : Int32) (S : ZS), ZT S → RP SZ S → (zK S x0 = 6) → ((1 : Int) ≤ x2.toInt ∧ x2.toInt ≤ (2147483647 : Int)) → ((0 : Int) ≤ x3.toInt ∧ x3.toInt ≤ (9 : Int)) → (rL x0 = 90000) → ((zI SZ 1 x0).toInt + 20 ≤ 90000) → ((zI S 1 x0).toInt ≤ (zI SZ 1 x0).toInt + 0) → (x2.toInt = 1 ∨ x2.toInt ≤ x1.toInt) → (10 - x3.toInt) < (N4 : Int) → Ok (self4 x0 x1 x2 x3 S) (fun o => ZT o.2 ∧ RP SZ o.2 ∧ ((zI o.2 1 x0).toInt ≤ (zI SZ 1 x0).toInt + 10) ∧ ((x1.toInt ≤ 999 → (zI o.2 1 x0).toInt ≤ (zI SZ 1 x0).toInt + 3)))) {x0 : Nat} {x1 : Int32} {x2 : Int32} {x3 : Int32} (hT : ZT S) (hR : RP SZ S) (r_x0 : zK S x0 = 6) (r_x2 : (1 : Int) ≤ x2.toInt ∧ x2.toInt ≤ (2147483647 : Int)) (r_x3 : (0 : Int) ≤ x3.toInt ∧ x3.toInt ≤ (9 : Int)) (q0 : rL x0 = 90000) (q1 : (zI SZ 1 x0).toInt + 20 ≤ 90000) (q2 : (zI S 1 x0).toInt ≤ (zI SZ 1 x0).toInt + 0) (q3 : x2.toInt = 1 ∨ x2.toInt ≤ x1.toInt) (m4 : (10 - x3.toInt) ≤ (N4 : Int)) : Ok (d_X6_putNumber_4s self4 x0 x1 x2 x3 S) (fun o => ZT o.2 ∧ RP SZ o.2 ∧ ((zI o.2 1 x0).toInt ≤ (zI SZ 1 x0).toInt + 10) ∧ ((x1.toInt ≤ 999 → (zI o.2 1 x0).toInt ≤ (zI SZ 1 x0).toInt + 3))) := by
  unfold d_X6_putNumber_4s
  have d0 := dg_b x2.toInt
  have bx : x1.toInt ≤ 2147483647 := (tf_b x1).2
  refine ok_if (fun c69 => ?_) (fun c69 => ?_)
  ·
    replace c69 := ti_leP (a := (9 : Int32)) (b := x3) c69 (show (9 : Int32).toInt = 9 from rfl) rfl
    have j70 := J_6_1 hT r_x0
    exact t_d_X6_putNumber_29   mFuel x0 x1 x2 S hT hR r_x0 (by omega) q0 q1 (by omega) (by omega) (by show _ < ((200000 : Nat) : Int); omega)
  ·
    replace c69 := ti_leN (a := (9 : Int32)) (b := x3) c69 (show (9 : Int32).toInt = 9 from rfl) rfl
    refine ok_chk (ti_ne0 (by omega)) ?_
    refine ok_bnd (fun v1 e71 => ?_)
    have dv := dv_ge e71 (by omega)
    refine ok_if (fun c72 => ?_) (fun c72 => ?_)
    ·
      replace c72 := ti_ltP (a := v1) (b := (10 : Int32)) c72 rfl (show (10 : Int32).toInt = 10 from rfl)
      have j73 := J_6_1 hT r_x0
      exact t_d_X6_putNumber_29   mFuel x0 x1 x2 S hT hR r_x0 (by omega) q0 q1 (by omega) (by omega) (by show _ < ((200000 : Nat) : Int); omega)
    ·
      replace c72 := ti_ltN (a := v1) (b := (10 : Int32)) c72 rfl (show (10 : Int32).toInt = 10 from rfl)
      refine ok_bnd (fun v2 e74 => ?_)
      have t_v2 : v2.toInt = x2.toInt * 10 := ti_mul e74 rfl (show (10 : Int32).toInt = 10 from rfl) (by omega) (by omega)
      refine ok_bnd (fun v3 e75 => ?_)
      have t_v3 : v3.toInt = x3.toInt + 1 := ti_add e75 rfl (show (1 : Int32).toInt = 1 from rfl) (by omega) (by omega)
      have j76 := J_6_1 hT r_x0
      exact hself4 x0 x1 v2 v3 S hT hR r_x0 (by omega) (by omega) q0 q1 q2 (by omega) (by omega)
theorem t_d_X6_putNumber_4 {SZ : ZS} : ∀ (n : Nat) (x0 : Nat) (x1 : Int32) (x2 : Int32) (x3 : Int32) (S : ZS), ZT S → RP SZ S → (zK S x0 = 6) → ((1 : Int) ≤ x2.toInt ∧ x2.toInt ≤ (2147483647 : Int)) → ((0 : Int) ≤ x3.toInt ∧ x3.toInt ≤ (9 : Int)) → (rL x0 = 90000) → ((zI SZ 1 x0).toInt + 20 ≤ 90000) → ((zI S 1 x0).toInt ≤ (zI SZ 1 x0).toInt + 0) → (x2.toInt = 1 ∨ x2.toInt ≤ x1.toInt) → (10 - x3.toInt) < (n : Int) → Ok (d_X6_putNumber_4  n x0 x1 x2 x3 S) (fun o => ZT o.2 ∧ RP SZ o.2 ∧ ((zI o.2 1 x0).toInt ≤ (zI SZ 1 x0).toInt + 10) ∧ ((x1.toInt ≤ 999 → (zI o.2 1 x0).toInt ≤ (zI SZ 1 x0).toInt + 3))) := by
  intro n
  induction n with
  | zero => intro x0 x1 x2 x3 S hT hR g0 g1 g2 g3 g4 g5 g6  hm; exfalso; omega
  | succ n ih =>
    intro x0 x1 x2 x3 S hT hR g0 g1 g2 g3 g4 g5 g6  hm
    exact t_d_X6_putNumber_4s (N4 := n)  ih hT hR g0 g1 g2 g3 g4 g5 g6  (by omega)
theorem t_d_X6_putNumber_0 {SZ S : ZS} {x0 : Nat} {x1 : Int32} (hT : ZT S) (hR : RP SZ S) (r_x0 : zK S x0 = 6) (q0 : SZ = S) (q1 : rL x0 = 90000) (q2 : (zI SZ 1 x0).toInt + 20 ≤ 90000) : Ok (d_X6_putNumber_0 x0 x1 S) (fun o => ZT o.2 ∧ RP SZ o.2 ∧ ((zI o.2 1 x0).toInt ≤ (zI SZ 1 x0).toInt + 10) ∧ ((x1.toInt ≤ 999 → (zI o.2 1 x0).toInt ≤ (zI SZ 1 x0).toInt + 3))) := by
  unfold d_X6_putNumber_0
  have j77 := J_6_1 hT r_x0
  exact t_d_X6_putNumber_4   mFuel x0 x1 (1 : Int32) (0 : Int32) S hT hR r_x0 (by decide) (by decide) q1 q2 (by rw [q0]; have z0 : (1 : Int32).toInt = 1 := rfl; have z1 : (0 : Int32).toInt = 0 := rfl; omega) (by have z0 : (1 : Int32).toInt = 1 := rfl; have z1 : (0 : Int32).toInt = 0 := rfl; omega) (by show _ < ((200000 : Nat) : Int); have z0 : (1 : Int32).toInt = 1 := rfl; have z1 : (0 : Int32).toInt = 0 := rfl; omega)
theorem t_d_X6_putNumber {SZ S : ZS} {x0 : Nat} {x1 : Int32} (hT : ZT S) (hR : RP SZ S) (r_x0 : zK S x0 = 6) (q0 : SZ = S) (q1 : rL x0 = 90000) (q2 : (zI SZ 1 x0).toInt + 20 ≤ 90000) : Ok (d_X6_putNumber x0 x1 S) (fun o => ZT o.2 ∧ RP SZ o.2 ∧ ((zI o.2 1 x0).toInt ≤ (zI SZ 1 x0).toInt + 10) ∧ ((x1.toInt ≤ 999 → (zI o.2 1 x0).toInt ≤ (zI SZ 1 x0).toInt + 3))) := t_d_X6_putNumber_0 hT hR r_x0 q0 q1 q2
theorem t_d_X9_putApart_148 {SZ S : ZS} {x2 : Int32} {x4 : Nat} {x6 : Int32} (hT : ZT S) (hR : RP SZ S) (r_x2 : (0 : Int) ≤ x2.toInt ∧ x2.toInt ≤ (63 : Int)) (r_x4 : zK S x4 = 6) (r_x6 : (0 : Int) ≤ x6.toInt ∧ x6.toInt ≤ (1 : Int)) (q0 : rL x4 = 90000) (q1 : (zI SZ 1 x4).toInt + 10 ≤ 90000) (q2 : (zI S 1 x4).toInt ≤ (zI SZ 1 x4).toInt + 1) : Ok (d_X9_putApart_148 x2 x4 x6 S) (fun o => ZT o.2 ∧ RP SZ o.2 ∧ ((zI o.2 1 x4).toInt ≤ (zI SZ 1 x4).toInt + 2)) := by
  unfold d_X9_putApart_148
  have j78 := J_6_1 hT r_x4
  refine ok_if (fun c79 => ?_) (fun c79 => ?_)
  ·
    replace c79 := ti_eqP (a := x6) (b := (0 : Int32)) c79 rfl (show (0 : Int32).toInt = 0 from rfl)
    unfold d_X9_putApart_162
    exact ok_ret ⟨hT, hR, (by show (zI S 1 x4).toInt ≤ (zI SZ 1 x4).toInt + 2; have z : (0 : Int32).toInt = 0 := rfl; omega)⟩
  ·
    replace c79 := ti_eqN (a := x6) (b := (0 : Int32)) c79 rfl (show (0 : Int32).toInt = 0 from rfl)
    obtain ⟨r1, h_r1, p_r1⟩ := roz (t_f_X11_rankDigit (x0 := x2) hT r_x2)
    dsimp only at p_r1
    refine ok_calR h_r1 ?_
    refine ok_chk ⟨rfl, rfl⟩ ?_
    refine ok_chk r_x4 ?_
    obtain ⟨⟨r3, S4⟩, h_r3, T_S4, B_S4, p_r3_0, p_r3_1⟩ := t_d_X6_put (x0 := x4) (x1 := r1) (SZ := S) hT (rp_0 S) r_x4 (by omega) (by omega) (rc_ol q0)
    replace T_S4 : ZT S4 := T_S4
    replace B_S4 : RP S S4 := B_S4
    have R_S4 : RP SZ S4 := rp_t hR B_S4
    dsimp only at p_r3_0 p_r3_1
    refine ok_cal2R h_r3 ?_
    have g_S4 := (fz_X6_put h_r3 hT.2.2.2.2.1).2.2
    unfold d_X9_putApart_162
    exact ok_ret ⟨T_S4, R_S4, (by show (zI S4 1 x4).toInt ≤ (zI SZ 1 x4).toInt + 2; have z : (0 : Int32).toInt = 0 := rfl; omega)⟩
theorem t_d_X9_putApart_139 {SZ S : ZS} {x2 : Int32} {x4 : Nat} {x6 : Int32} (hT : ZT S) (hR : RP SZ S) (r_x2 : (0 : Int) ≤ x2.toInt ∧ x2.toInt ≤ (63 : Int)) (r_x4 : zK S x4 = 6) (r_x6 : (0 : Int) ≤ x6.toInt ∧ x6.toInt ≤ (1 : Int)) (q0 : rL x4 = 90000) (q1 : (zI SZ 1 x4).toInt + 10 ≤ 90000) (q2 : (zI S 1 x4).toInt ≤ (zI SZ 1 x4).toInt + 0) : Ok (d_X9_putApart_139 x2 x4 x6 S) (fun o => ZT o.2 ∧ RP SZ o.2 ∧ ((zI o.2 1 x4).toInt ≤ (zI SZ 1 x4).toInt + 2)) := by
  unfold d_X9_putApart_139
  have j80 := J_6_1 hT r_x4
  obtain ⟨r1, h_r1, p_r1⟩ := roz (t_f_X11_fileLetter (x0 := x2) hT r_x2)
  dsimp only at p_r1
  refine ok_calR h_r1 ?_
  refine ok_chk ⟨rfl, rfl⟩ ?_
  refine ok_chk r_x4 ?_
  obtain ⟨⟨r3, S4⟩, h_r3, T_S4, B_S4, p_r3_0, p_r3_1⟩ := t_d_X6_put (x0 := x4) (x1 := r1) (SZ := S) hT (rp_0 S) r_x4 (by omega) (by omega) (rc_ol q0)
  replace T_S4 : ZT S4 := T_S4
  replace B_S4 : RP S S4 := B_S4
  have R_S4 : RP SZ S4 := rp_t hR B_S4
  dsimp only at p_r3_0 p_r3_1
  refine ok_cal2R h_r3 ?_
  have g_S4 := (fz_X6_put h_r3 hT.2.2.2.2.1).2.2
  have j81 := J_6_1 T_S4 ((g_S4 x4 (lt18 r_x4 (by decide))).1.trans r_x4)
  exact t_d_X9_putApart_148 (S := S4)  (x2 := x2) (x4 := x4) (x6 := x6) T_S4 R_S4 r_x2 ((g_S4 x4 (lt18 r_x4 (by decide))).1.trans r_x4) r_x6 q0 q1 (by omega)
theorem t_d_X9_putApart_94 {SZ S : ZS} {self12 : Nat → Nat → Int32 → Int32 → Nat → Int32 → Int32 → Int32 → Int32 → ZS → Option (Int32 × ZS)} {N12 : Nat} (hself12 : ∀ (x0 : Nat) (x1 : Nat) (x2 : Int32) (x3 : Int32) (x4 : Nat) (x5 : Int32) (x6 : Int32) (x7 : Int32) (x8 : Int32) (S : ZS), ZT S → RP SZ S → (zK S x0 = 9) → (zK S x1 = 0) → ((0 : Int) ≤ x2.toInt ∧ x2.toInt ≤ (63 : Int)) → ((0 : Int) ≤ x3.toInt ∧ x3.toInt ≤ (63 : Int)) → (zK S x4 = 6) → ((0 : Int) ≤ x5.toInt ∧ x5.toInt ≤ (1 : Int)) → ((0 : Int) ≤ x6.toInt ∧ x6.toInt ≤ (1 : Int)) → ((0 : Int) ≤ x7.toInt ∧ x7.toInt ≤ (1 : Int)) → ((0 : Int) ≤ x8.toInt ∧ x8.toInt ≤ (64 : Int)) → (rL x4 = 90000) → ((zI SZ 1 x4).toInt + 10 ≤ 90000) → ((zI S 1 x4).toInt ≤ (zI SZ 1 x4).toInt + 0) → (65 - x8.toInt) < (N12 : Int) → Ok (self12 x0 x1 x2 x3 x4 x5 x6 x7 x8 S) (fun o => ZT o.2 ∧ RP SZ o.2 ∧ ((zI o.2 1 x4).toInt ≤ (zI SZ 1 x4).toInt + 2))) {x0 : Nat} {x1 : Nat} {x2 : Int32} {x3 : Int32} {x4 : Nat} {x5 : Int32} {x7 : Int32} {x8 : Int32} {t0 : Int32} (hT : ZT S) (hR : RP SZ S) (r_x0 : zK S x0 = 9) (r_x1 : zK S x1 = 0) (r_x2 : (0 : Int) ≤ x2.toInt ∧ x2.toInt ≤ (63 : Int)) (r_x3 : (0 : Int) ≤ x3.toInt ∧ x3.toInt ≤ (63 : Int)) (r_x4 : zK S x4 = 6) (r_x5 : (0 : Int) ≤ x5.toInt ∧ x5.toInt ≤ (1 : Int)) (r_x7 : (0 : Int) ≤ x7.toInt ∧ x7.toInt ≤ (1 : Int)) (r_x8 : (0 : Int) ≤ x8.toInt ∧ x8.toInt ≤ (63 : Int)) (r_t0 : (0 : Int) ≤ t0.toInt ∧ t0.toInt ≤ (1 : Int)) (q0 : rL x4 = 90000) (q1 : (zI SZ 1 x4).toInt + 10 ≤ 90000) (q2 : (zI S 1 x4).toInt ≤ (zI SZ 1 x4).toInt + 0) (m12 : (65 - x8.toInt) ≤ (N12 : Int)) : Ok (d_X9_putApart_94 self12 x0 x1 x2 x3 x4 x5 x7 x8 t0 S) (fun o => ZT o.2 ∧ RP SZ o.2 ∧ ((zI o.2 1 x4).toInt ≤ (zI SZ 1 x4).toInt + 2)) := by
  unfold d_X9_putApart_94
  have j82 := J_6_1 hT r_x4
  refine ok_if (fun c83 => ?_) (fun c83 => ?_)
  ·
    replace c83 := ti_eqP (a := x7) (b := (0 : Int32)) c83 rfl (show (0 : Int32).toInt = 0 from rfl)
    refine ok_bnd (fun v1 e84 => ?_)
    have t_v1 : v1.toInt = x8.toInt / 8 := b_sh3 e84 (by omega)
    refine ok_bnd (fun v2 e85 => ?_)
    have t_v2 : v2.toInt = x2.toInt / 8 := b_sh3 e85 (by omega)
    refine ok_if (fun c86 => ?_) (fun c86 => ?_)
    ·
      replace c86 := ti_eqP (a := v1) (b := v2) c86 rfl rfl
      unfold d_X9_putApart_111
      unfold d_X9_putApart_116
      unfold d_X9_putApart_118
      refine ok_bnd (fun v1w87 e87 => ?_)
      have t_v1w87 : v1w87.toInt = x8.toInt + 1 := ti_add e87 rfl (show (1 : Int32).toInt = 1 from rfl) (by omega) (by omega)
      exact hself12 x0 x1 x2 x3 x4 x5 t0 (1 : Int32) v1w87 S hT hR r_x0 r_x1 r_x2 r_x3 r_x4 r_x5 r_t0 (by decide) (by omega) q0 q1 q2 (by omega)
    ·
      replace c86 := ti_eqN (a := v1) (b := v2) c86 rfl rfl
      unfold d_X9_putApart_116
      unfold d_X9_putApart_118
      refine ok_bnd (fun v1w88 e88 => ?_)
      have t_v1w88 : v1w88.toInt = x8.toInt + 1 := ti_add e88 rfl (show (1 : Int32).toInt = 1 from rfl) (by omega) (by omega)
      exact hself12 x0 x1 x2 x3 x4 x5 t0 (0 : Int32) v1w88 S hT hR r_x0 r_x1 r_x2 r_x3 r_x4 r_x5 r_t0 (by decide) (by omega) q0 q1 q2 (by omega)
  ·
    replace c83 := ti_eqN (a := x7) (b := (0 : Int32)) c83 rfl (show (0 : Int32).toInt = 0 from rfl)
    unfold d_X9_putApart_111
    unfold d_X9_putApart_116
    unfold d_X9_putApart_118
    refine ok_bnd (fun v1 e89 => ?_)
    have t_v1 : v1.toInt = x8.toInt + 1 := ti_add e89 rfl (show (1 : Int32).toInt = 1 from rfl) (by omega) (by omega)
    exact hself12 x0 x1 x2 x3 x4 x5 t0 (1 : Int32) v1 S hT hR r_x0 r_x1 r_x2 r_x3 r_x4 r_x5 r_t0 (by decide) (by omega) q0 q1 q2 (by omega)
theorem t_d_X9_putApart_12s {SZ S : ZS} {self12 : Nat → Nat → Int32 → Int32 → Nat → Int32 → Int32 → Int32 → Int32 → ZS → Option (Int32 × ZS)} {N12 : Nat} (hself12 : ∀ (x0 : Nat) (x1 : Nat) (x2 : Int32) (x3 : Int32) (x4 : Nat) (x5 : Int32) (x6 : Int32) (x7 : Int32) (x8 : Int32) (S : ZS), ZT S → RP SZ S → (zK S x0 = 9) → (zK S x1 = 0) → ((0 : Int) ≤ x2.toInt ∧ x2.toInt ≤ (63 : Int)) → ((0 : Int) ≤ x3.toInt ∧ x3.toInt ≤ (63 : Int)) → (zK S x4 = 6) → ((0 : Int) ≤ x5.toInt ∧ x5.toInt ≤ (1 : Int)) → ((0 : Int) ≤ x6.toInt ∧ x6.toInt ≤ (1 : Int)) → ((0 : Int) ≤ x7.toInt ∧ x7.toInt ≤ (1 : Int)) → ((0 : Int) ≤ x8.toInt ∧ x8.toInt ≤ (64 : Int)) → (rL x4 = 90000) → ((zI SZ 1 x4).toInt + 10 ≤ 90000) → ((zI S 1 x4).toInt ≤ (zI SZ 1 x4).toInt + 0) → (65 - x8.toInt) < (N12 : Int) → Ok (self12 x0 x1 x2 x3 x4 x5 x6 x7 x8 S) (fun o => ZT o.2 ∧ RP SZ o.2 ∧ ((zI o.2 1 x4).toInt ≤ (zI SZ 1 x4).toInt + 2))) {x0 : Nat} {x1 : Nat} {x2 : Int32} {x3 : Int32} {x4 : Nat} {x5 : Int32} {x6 : Int32} {x7 : Int32} {x8 : Int32} (hT : ZT S) (hR : RP SZ S) (r_x0 : zK S x0 = 9) (r_x1 : zK S x1 = 0) (r_x2 : (0 : Int) ≤ x2.toInt ∧ x2.toInt ≤ (63 : Int)) (r_x3 : (0 : Int) ≤ x3.toInt ∧ x3.toInt ≤ (63 : Int)) (r_x4 : zK S x4 = 6) (r_x5 : (0 : Int) ≤ x5.toInt ∧ x5.toInt ≤ (1 : Int)) (r_x6 : (0 : Int) ≤ x6.toInt ∧ x6.toInt ≤ (1 : Int)) (r_x7 : (0 : Int) ≤ x7.toInt ∧ x7.toInt ≤ (1 : Int)) (r_x8 : (0 : Int) ≤ x8.toInt ∧ x8.toInt ≤ (64 : Int)) (q0 : rL x4 = 90000) (q1 : (zI SZ 1 x4).toInt + 10 ≤ 90000) (q2 : (zI S 1 x4).toInt ≤ (zI SZ 1 x4).toInt + 0) (m12 : (65 - x8.toInt) ≤ (N12 : Int)) : Ok (d_X9_putApart_12s self12 x0 x1 x2 x3 x4 x5 x6 x7 x8 S) (fun o => ZT o.2 ∧ RP SZ o.2 ∧ ((zI o.2 1 x4).toInt ≤ (zI SZ 1 x4).toInt + 2)) := by
  unfold d_X9_putApart_12s
  have j90 := J_6_1 hT r_x4
  refine ok_if (fun c91 => ?_) (fun c91 => ?_)
  ·
    replace c91 := ti_leP (a := (64 : Int32)) (b := x8) c91 (show (64 : Int32).toInt = 64 from rfl) rfl
    refine ok_if (fun c92 => ?_) (fun c92 => ?_)
    ·
      replace c92 := ti_eqP (a := x5) (b := (0 : Int32)) c92 rfl (show (0 : Int32).toInt = 0 from rfl)
      exact t_d_X9_putApart_148 (S := S)  (x2 := x2) (x4 := x4) (x6 := x6) hT hR r_x2 r_x4 r_x6 q0 q1 (by omega)
    ·
      replace c92 := ti_eqN (a := x5) (b := (0 : Int32)) c92 rfl (show (0 : Int32).toInt = 0 from rfl)
      refine ok_if (fun c93 => ?_) (fun c93 => ?_)
      ·
        replace c93 := ti_eqP (a := x6) (b := (0 : Int32)) c93 rfl (show (0 : Int32).toInt = 0 from rfl)
        exact t_d_X9_putApart_139 (S := S)  (x2 := x2) (x4 := x4) (x6 := x6) hT hR r_x2 r_x4 r_x6 q0 q1 q2
      ·
        replace c93 := ti_eqN (a := x6) (b := (0 : Int32)) c93 rfl (show (0 : Int32).toInt = 0 from rfl)
        refine ok_if (fun c94 => ?_) (fun c94 => ?_)
        ·
          replace c94 := ti_eqP (a := x7) (b := (0 : Int32)) c94 rfl (show (0 : Int32).toInt = 0 from rfl)
          exact t_d_X9_putApart_148 (S := S)  (x2 := x2) (x4 := x4) (x6 := x6) hT hR r_x2 r_x4 r_x6 q0 q1 (by omega)
        ·
          replace c94 := ti_eqN (a := x7) (b := (0 : Int32)) c94 rfl (show (0 : Int32).toInt = 0 from rfl)
          exact t_d_X9_putApart_139 (S := S)  (x2 := x2) (x4 := x4) (x6 := x6) hT hR r_x2 r_x4 r_x6 q0 q1 q2
  ·
    replace c91 := ti_leN (a := (64 : Int32)) (b := x8) c91 (show (64 : Int32).toInt = 64 from rfl) rfl
    refine ok_if (fun c95 => ?_) (fun c95 => ?_)
    ·
      replace c95 := ti_eqP (a := x8) (b := x2) c95 rfl rfl
      unfold d_X9_putApart_118
      refine ok_bnd (fun v1 e96 => ?_)
      have t_v1 : v1.toInt = x8.toInt + 1 := ti_add e96 rfl (show (1 : Int32).toInt = 1 from rfl) (by omega) (by omega)
      exact hself12 x0 x1 x2 x3 x4 x5 x6 x7 v1 S hT hR r_x0 r_x1 r_x2 r_x3 r_x4 r_x5 r_x6 r_x7 (by omega) q0 q1 q2 (by omega)
    ·
      replace c95 := ti_eqN (a := x8) (b := x2) c95 rfl rfl
      refine ok_chk r_x1 ?_
      obtain ⟨b1, p_b1, k_b1, n_b1⟩ := T_0_0 hT r_x1
      refine ok_calR p_b1 ?_
      refine ok_chk k_b1 ?_
      refine ok_chk (ti_inN (v := x8) (n := 64) n_b1 (by omega) (by omega)) ?_
      refine ok_bnd (fun v2 e97 => ?_)
      refine ok_chk r_x1 ?_
      refine ok_calR p_b1 ?_
      refine ok_chk k_b1 ?_
      refine ok_chk (ti_inN (v := x2) (n := 64) n_b1 (by omega) (by omega)) ?_
      refine ok_bnd (fun v4 e98 => ?_)
      refine ok_if (fun c99 => ?_) (fun c99 => ?_)
      ·
        replace c99 := ti_eqP (a := v2) (b := v4) c99 rfl rfl
        refine ok_chk r_x1 ?_
        obtain ⟨r5, h_r5, p_r5⟩ := roz (t_f_X0_reaches (x0 := x1) (x1 := x8) (x2 := x3) hT r_x1 (by omega) r_x3)
        dsimp only at p_r5
        refine ok_calR h_r5 ?_
        refine ok_chk ⟨rfl, rfl⟩ ?_
        refine ok_if (fun c100 => ?_) (fun c100 => ?_)
        ·
          replace c100 := ti_eqP (a := r5) (b := (0 : Int32)) c100 rfl (show (0 : Int32).toInt = 0 from rfl)
          unfold d_X9_putApart_118
          refine ok_bnd (fun v1 e101 => ?_)
          have t_v1 : v1.toInt = x8.toInt + 1 := ti_add e101 rfl (show (1 : Int32).toInt = 1 from rfl) (by omega) (by omega)
          exact hself12 x0 x1 x2 x3 x4 x5 x6 x7 v1 S hT hR r_x0 r_x1 r_x2 r_x3 r_x4 r_x5 r_x6 r_x7 (by omega) q0 q1 q2 (by omega)
        ·
          replace c100 := ti_eqN (a := r5) (b := (0 : Int32)) c100 rfl (show (0 : Int32).toInt = 0 from rfl)
          refine ok_chk r_x0 ?_
          obtain ⟨b6, p_b6, k_b6⟩ := T_9_0 hT r_x0
          refine ok_calR p_b6 ?_
          refine ok_bnd (fun v7 e102 => ?_)
          have t_v7 : v7.toInt = 64 * x3.toInt := ti_mul e102 (show (64 : Int32).toInt = 64 from rfl) rfl (by omega) (by omega)
          refine ok_bnd (fun v8 e103 => ?_)
          have t_v8 : v8.toInt = x8.toInt + v7.toInt := ti_add e103 rfl rfl (by omega) (by omega)
          refine ok_chk k_b6 ?_
          obtain ⟨⟨r9, S9⟩, h_r9, T_S9, A_S9, p_r9⟩ := t_f_X7_isSafe (x0 := b6) (x1 := x1) (x2 := v8) (SZ := S) hT (a7_0 S) k_b6 r_x1
          replace T_S9 : ZT S9 := T_S9
          replace A_S9 : A7 S S9 := A_S9
          dsimp only at p_r9
          refine ok_calR h_r9 ?_
          have q_S9 := fq_X7_isSafe h_r9
          have kE_S9 : zK S9 = zK S := q_S9.2.2.1
          have nE_S9 : zN S9 = zN S := q_S9.2.2.2.1
          have R_S9 : RP SZ S9 := rp_f hR hT q_S9 (fz_X7_isSafe h_r9) (by decide) A_S9
          have : (zI S9 1 x4).toInt = (zI S 1 x4).toInt := congrArg Int32.toInt ((((fz_X7_isSafe h_r9) hT.2.2.2.2.1).2.2 x4 (by rw [r_x4]; decide)).2.2.1 1 (by rw [r_x4]; decide))
          refine ok_chk ⟨q_S9.1, q_S9.2.1⟩ ?_
          refine ok_if (fun c104 => ?_) (fun c104 => ?_)
          ·
            replace c104 := ti_eqP (a := r9) (b := (0 : Int32)) c104 rfl (show (0 : Int32).toInt = 0 from rfl)
            unfold d_X9_putApart_118
            refine ok_bnd (fun v1 e105 => ?_)
            have t_v1 : v1.toInt = x8.toInt + 1 := ti_add e105 rfl (show (1 : Int32).toInt = 1 from rfl) (by omega) (by omega)
            have j106 := J_6_1 T_S9 ((congrFun kE_S9 x4).trans r_x4)
            exact hself12 x0 x1 x2 x3 x4 x5 x6 x7 v1 S9 T_S9 R_S9 ((congrFun kE_S9 x0).trans r_x0) ((congrFun kE_S9 x1).trans r_x1) r_x2 r_x3 ((congrFun kE_S9 x4).trans r_x4) r_x5 r_x6 r_x7 (by omega) q0 q1 (by omega) (by omega)
          ·
            replace c104 := ti_eqN (a := r9) (b := (0 : Int32)) c104 rfl (show (0 : Int32).toInt = 0 from rfl)
            refine ok_if (fun c107 => ?_) (fun c107 => ?_)
            ·
              replace c107 := ti_eqP (a := x6) (b := (0 : Int32)) c107 rfl (show (0 : Int32).toInt = 0 from rfl)
              refine ok_bnd (fun v10 e108 => ?_)
              have t_v10 : v10.toInt = x8.toInt % 8 := b_and7 e108 (by omega)
              refine ok_bnd (fun v11 e109 => ?_)
              have t_v11 : v11.toInt = x2.toInt % 8 := b_and7 e109 (by omega)
              refine ok_if (fun c110 => ?_) (fun c110 => ?_)
              ·
                replace c110 := ti_eqP (a := v10) (b := v11) c110 rfl rfl
                unfold d_X9_putApart_89
                have j111 := J_6_1 T_S9 ((congrFun kE_S9 x4).trans r_x4)
                exact t_d_X9_putApart_94 (S := S9) hself12 (x0 := x0) (x1 := x1) (x2 := x2) (x3 := x3) (x4 := x4) (x5 := (1 : Int32)) (x7 := x7) (x8 := x8) (t0 := (1 : Int32)) T_S9 R_S9 ((congrFun kE_S9 x0).trans r_x0) ((congrFun kE_S9 x1).trans r_x1) r_x2 r_x3 ((congrFun kE_S9 x4).trans r_x4) (by decide) r_x7 (by omega) (by decide) q0 q1 (by have z0 : (1 : Int32).toInt = 1 := rfl; have z1 : (1 : Int32).toInt = 1 := rfl; omega) m12
              ·
                replace c110 := ti_eqN (a := v10) (b := v11) c110 rfl rfl
                have j112 := J_6_1 T_S9 ((congrFun kE_S9 x4).trans r_x4)
                exact t_d_X9_putApart_94 (S := S9) hself12 (x0 := x0) (x1 := x1) (x2 := x2) (x3 := x3) (x4 := x4) (x5 := (1 : Int32)) (x7 := x7) (x8 := x8) (t0 := (0 : Int32)) T_S9 R_S9 ((congrFun kE_S9 x0).trans r_x0) ((congrFun kE_S9 x1).trans r_x1) r_x2 r_x3 ((congrFun kE_S9 x4).trans r_x4) (by decide) r_x7 (by omega) (by decide) q0 q1 (by have z0 : (1 : Int32).toInt = 1 := rfl; have z1 : (0 : Int32).toInt = 0 := rfl; omega) m12
            ·
              replace c107 := ti_eqN (a := x6) (b := (0 : Int32)) c107 rfl (show (0 : Int32).toInt = 0 from rfl)
              unfold d_X9_putApart_89
              have j113 := J_6_1 T_S9 ((congrFun kE_S9 x4).trans r_x4)
              exact t_d_X9_putApart_94 (S := S9) hself12 (x0 := x0) (x1 := x1) (x2 := x2) (x3 := x3) (x4 := x4) (x5 := (1 : Int32)) (x7 := x7) (x8 := x8) (t0 := (1 : Int32)) T_S9 R_S9 ((congrFun kE_S9 x0).trans r_x0) ((congrFun kE_S9 x1).trans r_x1) r_x2 r_x3 ((congrFun kE_S9 x4).trans r_x4) (by decide) r_x7 (by omega) (by decide) q0 q1 (by have z0 : (1 : Int32).toInt = 1 := rfl; have z1 : (1 : Int32).toInt = 1 := rfl; omega) m12
      ·
        replace c99 := ti_eqN (a := v2) (b := v4) c99 rfl rfl
        unfold d_X9_putApart_118
        refine ok_bnd (fun v1 e114 => ?_)
        have t_v1 : v1.toInt = x8.toInt + 1 := ti_add e114 rfl (show (1 : Int32).toInt = 1 from rfl) (by omega) (by omega)
        exact hself12 x0 x1 x2 x3 x4 x5 x6 x7 v1 S hT hR r_x0 r_x1 r_x2 r_x3 r_x4 r_x5 r_x6 r_x7 (by omega) q0 q1 q2 (by omega)
theorem t_d_X9_putApart_12 {SZ : ZS} : ∀ (n : Nat) (x0 : Nat) (x1 : Nat) (x2 : Int32) (x3 : Int32) (x4 : Nat) (x5 : Int32) (x6 : Int32) (x7 : Int32) (x8 : Int32) (S : ZS), ZT S → RP SZ S → (zK S x0 = 9) → (zK S x1 = 0) → ((0 : Int) ≤ x2.toInt ∧ x2.toInt ≤ (63 : Int)) → ((0 : Int) ≤ x3.toInt ∧ x3.toInt ≤ (63 : Int)) → (zK S x4 = 6) → ((0 : Int) ≤ x5.toInt ∧ x5.toInt ≤ (1 : Int)) → ((0 : Int) ≤ x6.toInt ∧ x6.toInt ≤ (1 : Int)) → ((0 : Int) ≤ x7.toInt ∧ x7.toInt ≤ (1 : Int)) → ((0 : Int) ≤ x8.toInt ∧ x8.toInt ≤ (64 : Int)) → (rL x4 = 90000) → ((zI SZ 1 x4).toInt + 10 ≤ 90000) → ((zI S 1 x4).toInt ≤ (zI SZ 1 x4).toInt + 0) → (65 - x8.toInt) < (n : Int) → Ok (d_X9_putApart_12  n x0 x1 x2 x3 x4 x5 x6 x7 x8 S) (fun o => ZT o.2 ∧ RP SZ o.2 ∧ ((zI o.2 1 x4).toInt ≤ (zI SZ 1 x4).toInt + 2)) := by
  intro n
  induction n with
  | zero => intro x0 x1 x2 x3 x4 x5 x6 x7 x8 S hT hR g0 g1 g2 g3 g4 g5 g6 g7 g8 g9 g10 g11  hm; exfalso; omega
  | succ n ih =>
    intro x0 x1 x2 x3 x4 x5 x6 x7 x8 S hT hR g0 g1 g2 g3 g4 g5 g6 g7 g8 g9 g10 g11  hm
    exact t_d_X9_putApart_12s (N12 := n)  ih hT hR g0 g1 g2 g3 g4 g5 g6 g7 g8 g9 g10 g11  (by omega)
theorem t_d_X9_putApart_0 {SZ S : ZS} {x0 : Nat} {x1 : Nat} {x2 : Int32} {x3 : Int32} {x4 : Nat} (hT : ZT S) (hR : RP SZ S) (r_x0 : zK S x0 = 9) (r_x1 : zK S x1 = 0) (r_x2 : (0 : Int) ≤ x2.toInt ∧ x2.toInt ≤ (63 : Int)) (r_x3 : (0 : Int) ≤ x3.toInt ∧ x3.toInt ≤ (63 : Int)) (r_x4 : zK S x4 = 6) (q0 : SZ = S) (q1 : rL x4 = 90000) (q2 : (zI SZ 1 x4).toInt + 10 ≤ 90000) : Ok (d_X9_putApart_0 x0 x1 x2 x3 x4 S) (fun o => ZT o.2 ∧ RP SZ o.2 ∧ ((zI o.2 1 x4).toInt ≤ (zI SZ 1 x4).toInt + 2)) := by
  unfold d_X9_putApart_0
  have j115 := J_6_1 hT r_x4
  exact t_d_X9_putApart_12   mFuel x0 x1 x2 x3 x4 (0 : Int32) (0 : Int32) (0 : Int32) (0 : Int32) S hT hR r_x0 r_x1 r_x2 r_x3 r_x4 (by decide) (by decide) (by decide) (by decide) q1 q2 (by rw [q0]; have z0 : (0 : Int32).toInt = 0 := rfl; have z1 : (0 : Int32).toInt = 0 := rfl; have z2 : (0 : Int32).toInt = 0 := rfl; have z3 : (0 : Int32).toInt = 0 := rfl; omega) (by show _ < ((200000 : Nat) : Int); have z0 : (0 : Int32).toInt = 0 := rfl; have z1 : (0 : Int32).toInt = 0 := rfl; have z2 : (0 : Int32).toInt = 0 := rfl; have z3 : (0 : Int32).toInt = 0 := rfl; omega)
theorem t_d_X9_putApart {SZ S : ZS} {x0 : Nat} {x1 : Nat} {x2 : Int32} {x3 : Int32} {x4 : Nat} (hT : ZT S) (hR : RP SZ S) (r_x0 : zK S x0 = 9) (r_x1 : zK S x1 = 0) (r_x2 : (0 : Int) ≤ x2.toInt ∧ x2.toInt ≤ (63 : Int)) (r_x3 : (0 : Int) ≤ x3.toInt ∧ x3.toInt ≤ (63 : Int)) (r_x4 : zK S x4 = 6) (q0 : SZ = S) (q1 : rL x4 = 90000) (q2 : (zI SZ 1 x4).toInt + 10 ≤ 90000) : Ok (d_X9_putApart x0 x1 x2 x3 x4 S) (fun o => ZT o.2 ∧ RP SZ o.2 ∧ ((zI o.2 1 x4).toInt ≤ (zI SZ 1 x4).toInt + 2)) := t_d_X9_putApart_0 hT hR r_x0 r_x1 r_x2 r_x3 r_x4 q0 q1 q2
theorem t_d_X9_putSigns_160 {SZ S : ZS} {x0 : Nat} {x1 : Nat} {x2 : Int32} {x3 : Nat} (hT : ZT S) (hR : RP SZ S) (r_x0 : zK S x0 = 9) (r_x1 : zK S x1 = 0) (r_x3 : zK S x3 = 6) (q0 : rL x3 = 90000) (q1 : (zI SZ 1 x3).toInt + 40 ≤ 90000) (q2 : (zI S 1 x3).toInt ≤ (zI SZ 1 x3).toInt + 9) : Ok (d_X9_putSigns_160 x0 x1 x2 x3 S) (fun o => ZT o.2 ∧ RP SZ o.2 ∧ ((zI o.2 1 x3).toInt ≤ (zI SZ 1 x3).toInt + 10)) := by
  unfold d_X9_putSigns_160
  have j116 := J_6_1 hT r_x3
  refine ok_chk r_x0 ?_
  obtain ⟨b1, p_b1, k_b1⟩ := T_9_0 hT r_x0
  refine ok_calR p_b1 ?_
  refine ok_chk k_b1 ?_
  obtain ⟨⟨r2, S2⟩, h_r2, T_S2, A_S2, p_r2⟩ := t_f_X7_checkSign (x0 := b1) (x1 := x1) (x2 := x2) (SZ := S) hT (a7_0 S) k_b1 r_x1
  replace T_S2 : ZT S2 := T_S2
  replace A_S2 : A7 S S2 := A_S2
  dsimp only at p_r2
  refine ok_calR h_r2 ?_
  have q_S2 := fq_X7_checkSign h_r2
  have kE_S2 : zK S2 = zK S := q_S2.2.2.1
  have nE_S2 : zN S2 = zN S := q_S2.2.2.2.1
  have R_S2 : RP SZ S2 := rp_f hR hT q_S2 (fz_X7_checkSign h_r2) (by decide) A_S2
  have : (zI S2 1 x3).toInt = (zI S 1 x3).toInt := congrArg Int32.toInt ((((fz_X7_checkSign h_r2) hT.2.2.2.2.1).2.2 x3 (by rw [r_x3]; decide)).2.2.1 1 (by rw [r_x3]; decide))
  refine ok_chk ⟨q_S2.1, q_S2.2.1⟩ ?_
  refine ok_if (fun c117 => ?_) (fun c117 => ?_)
  ·
    replace c117 := ti_eqP (a := r2) (b := (0 : Int32)) c117 rfl (show (0 : Int32).toInt = 0 from rfl)
    unfold d_X9_putSigns_182
    exact ok_ret ⟨T_S2, R_S2, (by show (zI S2 1 x3).toInt ≤ (zI SZ 1 x3).toInt + 10; have z : (0 : Int32).toInt = 0 := rfl; omega)⟩
  ·
    replace c117 := ti_eqN (a := r2) (b := (0 : Int32)) c117 rfl (show (0 : Int32).toInt = 0 from rfl)
    refine ok_chk ((congrFun kE_S2 x3).trans r_x3) ?_
    have j118 := J_6_1 T_S2 ((congrFun kE_S2 x3).trans r_x3)
    obtain ⟨⟨r4, S5⟩, h_r4, T_S5, B_S5, p_r4_0, p_r4_1⟩ := t_d_X6_put (x0 := x3) (x1 := r2) (SZ := S2) T_S2 (rp_0 S2) ((congrFun kE_S2 x3).trans r_x3) (by omega) (by omega) (rc_ol q0)
    replace T_S5 : ZT S5 := T_S5
    replace B_S5 : RP S2 S5 := B_S5
    have R_S5 : RP SZ S5 := rp_t R_S2 B_S5
    dsimp only at p_r4_0 p_r4_1
    refine ok_cal2R h_r4 ?_
    have g_S5 := (fz_X6_put h_r4 T_S2.2.2.2.2.1).2.2
    unfold d_X9_putSigns_182
    exact ok_ret ⟨T_S5, R_S5, (by show (zI S5 1 x3).toInt ≤ (zI SZ 1 x3).toInt + 10; have z : (0 : Int32).toInt = 0 := rfl; omega)⟩
theorem t_d_X9_putSigns_136 {SZ S : ZS} {x0 : Nat} {x1 : Nat} {x2 : Int32} {x3 : Nat} (hT : ZT S) (hR : RP SZ S) (r_x0 : zK S x0 = 9) (r_x1 : zK S x1 = 0) (r_x3 : zK S x3 = 6) (q0 : rL x3 = 90000) (q1 : (zI SZ 1 x3).toInt + 40 ≤ 90000) (q2 : (zI S 1 x3).toInt ≤ (zI SZ 1 x3).toInt + 7) : Ok (d_X9_putSigns_136 x0 x1 x2 x3 S) (fun o => ZT o.2 ∧ RP SZ o.2 ∧ ((zI o.2 1 x3).toInt ≤ (zI SZ 1 x3).toInt + 10)) := by
  unfold d_X9_putSigns_136
  have j119 := J_6_1 hT r_x3
  refine ok_if (fun c120 => ?_) (fun c120 => ?_)
  ·
    replace c120 := ti_ltP (a := x2) (b := (4096 : Int32)) c120 rfl (show (4096 : Int32).toInt = 4096 from rfl)
    exact t_d_X9_putSigns_160 (S := S)  (x0 := x0) (x1 := x1) (x2 := x2) (x3 := x3) hT hR r_x0 r_x1 r_x3 q0 q1 (by omega)
  ·
    replace c120 := ti_ltN (a := x2) (b := (4096 : Int32)) c120 rfl (show (4096 : Int32).toInt = 4096 from rfl)
    refine ok_chk r_x3 ?_
    have zl121 : (61 : Int32).toInt = 61 := rfl
    obtain ⟨⟨r2, S3⟩, h_r2, T_S3, B_S3, p_r2_0, p_r2_1⟩ := t_d_X6_put (x0 := x3) (x1 := (61 : Int32)) (SZ := S) hT (rp_0 S) r_x3 (by decide) (by have z0 : (61 : Int32).toInt = 61 := rfl; omega) (rc_ol q0)
    replace T_S3 : ZT S3 := T_S3
    replace B_S3 : RP S S3 := B_S3
    have R_S3 : RP SZ S3 := rp_t hR B_S3
    dsimp only at p_r2_0 p_r2_1
    refine ok_cal2R h_r2 ?_
    have g_S3 := (fz_X6_put h_r2 hT.2.2.2.2.1).2.2
    refine ok_bnd (fun v6 e122 => ?_)
    obtain ⟨r7, h_r7, p_r7⟩ := roz (t_f_X11_letterOf (x0 := v6) T_S3 )
    dsimp only at p_r7
    refine ok_calR h_r7 ?_
    refine ok_chk ⟨rfl, rfl⟩ ?_
    refine ok_chk ((g_S3 x3 (lt18 r_x3 (by decide))).1.trans r_x3) ?_
    have j123 := J_6_1 T_S3 ((g_S3 x3 (lt18 r_x3 (by decide))).1.trans r_x3)
    obtain ⟨⟨r9, S10⟩, h_r9, T_S10, B_S10, p_r9_0, p_r9_1⟩ := t_d_X6_put (x0 := x3) (x1 := r7) (SZ := S3) T_S3 (rp_0 S3) ((g_S3 x3 (lt18 r_x3 (by decide))).1.trans r_x3) (by omega) (by omega) (rc_ol q0)
    replace T_S10 : ZT S10 := T_S10
    replace B_S10 : RP S3 S10 := B_S10
    have R_S10 : RP SZ S10 := rp_t R_S3 B_S10
    dsimp only at p_r9_0 p_r9_1
    refine ok_cal2R h_r9 ?_
    have g_S10 := (fz_X6_put h_r9 T_S3.2.2.2.2.1).2.2
    have j124 := J_6_1 T_S10 ((g_S10 x3 (lt18 ((g_S3 x3 (lt18 r_x3 (by decide))).1.trans r_x3) (by decide))).1.trans ((g_S3 x3 (lt18 r_x3 (by decide))).1.trans r_x3))
    exact t_d_X9_putSigns_160 (S := S10)  (x0 := x0) (x1 := x1) (x2 := x2) (x3 := x3) T_S10 R_S10 ((g_S10 x0 (lt18 ((g_S3 x0 (lt18 r_x0 (by decide))).1.trans r_x0) (by decide))).1.trans ((g_S3 x0 (lt18 r_x0 (by decide))).1.trans r_x0)) ((g_S10 x1 (lt18 ((g_S3 x1 (lt18 r_x1 (by decide))).1.trans r_x1) (by decide))).1.trans ((g_S3 x1 (lt18 r_x1 (by decide))).1.trans r_x1)) ((g_S10 x3 (lt18 ((g_S3 x3 (lt18 r_x3 (by decide))).1.trans r_x3) (by decide))).1.trans ((g_S3 x3 (lt18 r_x3 (by decide))).1.trans r_x3)) q0 q1 (by omega)
theorem t_d_X9_putSigns_118 {SZ S : ZS} {x0 : Nat} {x1 : Nat} {x2 : Int32} {x3 : Nat} {x5 : Int32} (hT : ZT S) (hR : RP SZ S) (r_x0 : zK S x0 = 9) (r_x1 : zK S x1 = 0) (r_x3 : zK S x3 = 6) (r_x5 : (0 : Int) ≤ x5.toInt ∧ x5.toInt ≤ (63 : Int)) (q0 : rL x3 = 90000) (q1 : (zI SZ 1 x3).toInt + 40 ≤ 90000) (q2 : (zI S 1 x3).toInt ≤ (zI SZ 1 x3).toInt + 4) : Ok (d_X9_putSigns_118 x0 x1 x2 x3 x5 S) (fun o => ZT o.2 ∧ RP SZ o.2 ∧ ((zI o.2 1 x3).toInt ≤ (zI SZ 1 x3).toInt + 10)) := by
  unfold d_X9_putSigns_118
  have j125 := J_6_1 hT r_x3
  obtain ⟨r1, h_r1, p_r1⟩ := roz (t_f_X11_fileLetter (x0 := x5) hT r_x5)
  dsimp only at p_r1
  refine ok_calR h_r1 ?_
  refine ok_chk ⟨rfl, rfl⟩ ?_
  refine ok_chk r_x3 ?_
  obtain ⟨⟨r3, S4⟩, h_r3, T_S4, B_S4, p_r3_0, p_r3_1⟩ := t_d_X6_put (x0 := x3) (x1 := r1) (SZ := S) hT (rp_0 S) r_x3 (by omega) (by omega) (rc_ol q0)
  replace T_S4 : ZT S4 := T_S4
  replace B_S4 : RP S S4 := B_S4
  have R_S4 : RP SZ S4 := rp_t hR B_S4
  dsimp only at p_r3_0 p_r3_1
  refine ok_cal2R h_r3 ?_
  have g_S4 := (fz_X6_put h_r3 hT.2.2.2.2.1).2.2
  obtain ⟨r7, h_r7, p_r7⟩ := roz (t_f_X11_rankDigit (x0 := x5) T_S4 r_x5)
  dsimp only at p_r7
  refine ok_calR h_r7 ?_
  refine ok_chk ⟨rfl, rfl⟩ ?_
  refine ok_chk ((g_S4 x3 (lt18 r_x3 (by decide))).1.trans r_x3) ?_
  have j126 := J_6_1 T_S4 ((g_S4 x3 (lt18 r_x3 (by decide))).1.trans r_x3)
  obtain ⟨⟨r9, S10⟩, h_r9, T_S10, B_S10, p_r9_0, p_r9_1⟩ := t_d_X6_put (x0 := x3) (x1 := r7) (SZ := S4) T_S4 (rp_0 S4) ((g_S4 x3 (lt18 r_x3 (by decide))).1.trans r_x3) (by omega) (by omega) (rc_ol q0)
  replace T_S10 : ZT S10 := T_S10
  replace B_S10 : RP S4 S10 := B_S10
  have R_S10 : RP SZ S10 := rp_t R_S4 B_S10
  dsimp only at p_r9_0 p_r9_1
  refine ok_cal2R h_r9 ?_
  have g_S10 := (fz_X6_put h_r9 T_S4.2.2.2.2.1).2.2
  have j127 := J_6_1 T_S10 ((g_S10 x3 (lt18 ((g_S4 x3 (lt18 r_x3 (by decide))).1.trans r_x3) (by decide))).1.trans ((g_S4 x3 (lt18 r_x3 (by decide))).1.trans r_x3))
  exact t_d_X9_putSigns_136 (S := S10)  (x0 := x0) (x1 := x1) (x2 := x2) (x3 := x3) T_S10 R_S10 ((g_S10 x0 (lt18 ((g_S4 x0 (lt18 r_x0 (by decide))).1.trans r_x0) (by decide))).1.trans ((g_S4 x0 (lt18 r_x0 (by decide))).1.trans r_x0)) ((g_S10 x1 (lt18 ((g_S4 x1 (lt18 r_x1 (by decide))).1.trans r_x1) (by decide))).1.trans ((g_S4 x1 (lt18 r_x1 (by decide))).1.trans r_x1)) ((g_S10 x3 (lt18 ((g_S4 x3 (lt18 r_x3 (by decide))).1.trans r_x3) (by decide))).1.trans ((g_S4 x3 (lt18 r_x3 (by decide))).1.trans r_x3)) q0 q1 (by omega)
theorem t_d_X9_putSigns_107 {SZ S : ZS} {x0 : Nat} {x1 : Nat} {x2 : Int32} {x3 : Nat} {x5 : Int32} {x6 : Int32} (hT : ZT S) (hR : RP SZ S) (r_x0 : zK S x0 = 9) (r_x1 : zK S x1 = 0) (r_x3 : zK S x3 = 6) (r_x5 : (0 : Int) ≤ x5.toInt ∧ x5.toInt ≤ (63 : Int)) (r_x6 : (0 : Int) ≤ x6.toInt ∧ x6.toInt ≤ (1 : Int)) (q0 : rL x3 = 90000) (q1 : (zI SZ 1 x3).toInt + 40 ≤ 90000) (q2 : (zI S 1 x3).toInt ≤ (zI SZ 1 x3).toInt + 3) : Ok (d_X9_putSigns_107 x0 x1 x2 x3 x5 x6 S) (fun o => ZT o.2 ∧ RP SZ o.2 ∧ ((zI o.2 1 x3).toInt ≤ (zI SZ 1 x3).toInt + 10)) := by
  unfold d_X9_putSigns_107
  have j128 := J_6_1 hT r_x3
  refine ok_if (fun c129 => ?_) (fun c129 => ?_)
  ·
    replace c129 := ti_eqP (a := x6) (b := (0 : Int32)) c129 rfl (show (0 : Int32).toInt = 0 from rfl)
    exact t_d_X9_putSigns_118 (S := S)  (x0 := x0) (x1 := x1) (x2 := x2) (x3 := x3) (x5 := x5) hT hR r_x0 r_x1 r_x3 r_x5 q0 q1 (by omega)
  ·
    replace c129 := ti_eqN (a := x6) (b := (0 : Int32)) c129 rfl (show (0 : Int32).toInt = 0 from rfl)
    refine ok_chk r_x3 ?_
    have zl130 : (120 : Int32).toInt = 120 := rfl
    obtain ⟨⟨r2, S3⟩, h_r2, T_S3, B_S3, p_r2_0, p_r2_1⟩ := t_d_X6_put (x0 := x3) (x1 := (120 : Int32)) (SZ := S) hT (rp_0 S) r_x3 (by decide) (by have z0 : (120 : Int32).toInt = 120 := rfl; omega) (rc_ol q0)
    replace T_S3 : ZT S3 := T_S3
    replace B_S3 : RP S S3 := B_S3
    have R_S3 : RP SZ S3 := rp_t hR B_S3
    dsimp only at p_r2_0 p_r2_1
    refine ok_cal2R h_r2 ?_
    have g_S3 := (fz_X6_put h_r2 hT.2.2.2.2.1).2.2
    have j131 := J_6_1 T_S3 ((g_S3 x3 (lt18 r_x3 (by decide))).1.trans r_x3)
    exact t_d_X9_putSigns_118 (S := S3)  (x0 := x0) (x1 := x1) (x2 := x2) (x3 := x3) (x5 := x5) T_S3 R_S3 ((g_S3 x0 (lt18 r_x0 (by decide))).1.trans r_x0) ((g_S3 x1 (lt18 r_x1 (by decide))).1.trans r_x1) ((g_S3 x3 (lt18 r_x3 (by decide))).1.trans r_x3) r_x5 q0 q1 (by omega)
theorem t_d_X9_putSigns_0 {SZ S : ZS} {x0 : Nat} {x1 : Nat} {x2 : Int32} {x3 : Nat} (hT : ZT S) (hR : RP SZ S) (r_x0 : zK S x0 = 9) (r_x1 : zK S x1 = 0) (r_x3 : zK S x3 = 6) (q0 : SZ = S) (q1 : rL x3 = 90000) (q2 : (zI SZ 1 x3).toInt + 40 ≤ 90000) : Ok (d_X9_putSigns_0 x0 x1 x2 x3 S) (fun o => ZT o.2 ∧ RP SZ o.2 ∧ ((zI o.2 1 x3).toInt ≤ (zI SZ 1 x3).toInt + 10)) := by
  unfold d_X9_putSigns_0
  have j132 := J_6_1 hT r_x3
  have s0 : (zI SZ 1 x3).toInt = (zI S 1 x3).toInt := by rw [q0]
  have z7 : zSl.getD 7 0 = 3 := rfl
  have z8 : zSl.getD 8 0 = 5 := rfl
  refine ok_bnd (fun v1 e133 => ?_)
  have t_v1 := ti_and e133 (show (63 : Int32).toBitVec.toNat = 63 from rfl) (by decide)
  refine ok_bnd (fun v2 e134 => ?_)
  refine ok_bnd (fun v3 e135 => ?_)
  have t_v3 := ti_and e135 (show (63 : Int32).toBitVec.toNat = 63 from rfl) (by decide)
  refine ok_chk r_x1 ?_
  obtain ⟨r4, h_r4, p_r4⟩ := roz (t_f_X0_castles (x0 := x1) (x1 := v1) (x2 := v3) hT r_x1 (by omega) (by omega))
  dsimp only at p_r4
  refine ok_calR h_r4 ?_
  refine ok_chk ⟨rfl, rfl⟩ ?_
  refine ok_if (fun c136 => ?_) (fun c136 => ?_)
  ·
    replace c136 := ti_eqP (a := r4) (b := (0 : Int32)) c136 rfl (show (0 : Int32).toInt = 0 from rfl)
    refine ok_chk r_x1 ?_
    obtain ⟨r5, h_r5, p_r5⟩ := roz (t_f_X0_takes (x0 := x1) (x1 := v1) (x2 := v3) hT r_x1 (by omega) (by omega))
    dsimp only at p_r5
    refine ok_calR h_r5 ?_
    refine ok_chk ⟨rfl, rfl⟩ ?_
    refine ok_chk r_x1 ?_
    obtain ⟨r6, h_r6, p_r6⟩ := roz (t_f_X0_kindAt (x0 := x1) (x1 := v1) hT r_x1 (by omega))
    dsimp only at p_r6
    refine ok_calR h_r6 ?_
    refine ok_chk ⟨rfl, rfl⟩ ?_
    refine ok_if (fun c137 => ?_) (fun c137 => ?_)
    ·
      replace c137 := ti_eqP (a := r6) (b := (1 : Int32)) c137 rfl (show (1 : Int32).toInt = 1 from rfl)
      refine ok_if (fun c138 => ?_) (fun c138 => ?_)
      ·
        replace c138 := ti_eqP (a := r5) (b := (0 : Int32)) c138 rfl (show (0 : Int32).toInt = 0 from rfl)
        exact t_d_X9_putSigns_107 (S := S)  (x0 := x0) (x1 := x1) (x2 := x2) (x3 := x3) (x5 := v3) (x6 := r5) hT hR r_x0 r_x1 r_x3 (by omega) (by omega) q1 q2 (by rw [q0]; omega)
      ·
        replace c138 := ti_eqN (a := r5) (b := (0 : Int32)) c138 rfl (show (0 : Int32).toInt = 0 from rfl)
        obtain ⟨r7, h_r7, p_r7⟩ := roz (t_f_X11_fileLetter (x0 := v1) hT (by omega))
        dsimp only at p_r7
        refine ok_calR h_r7 ?_
        refine ok_chk ⟨rfl, rfl⟩ ?_
        refine ok_chk r_x3 ?_
        obtain ⟨⟨r9, S10⟩, h_r9, T_S10, B_S10, p_r9_0, p_r9_1⟩ := t_d_X6_put (x0 := x3) (x1 := r7) (SZ := S) hT (rp_0 S) r_x3 (by omega) (by omega) (rc_ol q1)
        replace T_S10 : ZT S10 := T_S10
        replace B_S10 : RP S S10 := B_S10
        have R_S10 : RP SZ S10 := rp_t hR B_S10
        dsimp only at p_r9_0 p_r9_1
        refine ok_cal2R h_r9 ?_
        have g_S10 := (fz_X6_put h_r9 hT.2.2.2.2.1).2.2
        have j139 := J_6_1 T_S10 ((g_S10 x3 (lt18 r_x3 (by decide))).1.trans r_x3)
        exact t_d_X9_putSigns_107 (S := S10)  (x0 := x0) (x1 := x1) (x2 := x2) (x3 := x3) (x5 := v3) (x6 := r5) T_S10 R_S10 ((g_S10 x0 (lt18 r_x0 (by decide))).1.trans r_x0) ((g_S10 x1 (lt18 r_x1 (by decide))).1.trans r_x1) ((g_S10 x3 (lt18 r_x3 (by decide))).1.trans r_x3) (by omega) (by omega) q1 q2 (by rw [q0]; omega)
    ·
      replace c137 := ti_eqN (a := r6) (b := (1 : Int32)) c137 rfl (show (1 : Int32).toInt = 1 from rfl)
      refine ok_chk r_x1 ?_
      obtain ⟨r13, h_r13, p_r13⟩ := roz (t_f_X0_kindAt (x0 := x1) (x1 := v1) hT r_x1 (by omega))
      dsimp only at p_r13
      refine ok_calR h_r13 ?_
      refine ok_chk ⟨rfl, rfl⟩ ?_
      obtain ⟨r14, h_r14, p_r14⟩ := roz (t_f_X11_letterOf (x0 := r13) hT )
      dsimp only at p_r14
      refine ok_calR h_r14 ?_
      refine ok_chk ⟨rfl, rfl⟩ ?_
      refine ok_chk r_x3 ?_
      obtain ⟨⟨r16, S17⟩, h_r16, T_S17, B_S17, p_r16_0, p_r16_1⟩ := t_d_X6_put (x0 := x3) (x1 := r14) (SZ := S) hT (rp_0 S) r_x3 (by omega) (by omega) (rc_ol q1)
      replace T_S17 : ZT S17 := T_S17
      replace B_S17 : RP S S17 := B_S17
      have R_S17 : RP SZ S17 := rp_t hR B_S17
      dsimp only at p_r16_0 p_r16_1
      refine ok_cal2R h_r16 ?_
      have g_S17 := (fz_X6_put h_r16 hT.2.2.2.2.1).2.2
      refine ok_chk ((g_S17 x0 (lt18 r_x0 (by decide))).1.trans r_x0) ?_
      have j140 := J_6_1 T_S17 ((g_S17 x3 (lt18 r_x3 (by decide))).1.trans r_x3)
      obtain ⟨⟨r21, S22⟩, h_r21, T_S22, B_S22, p_r21_0⟩ := t_d_X9_putApart (x0 := x0) (x1 := x1) (x2 := v1) (x3 := v3) (x4 := x3) (SZ := S17) T_S17 (rp_0 S17) ((g_S17 x0 (lt18 r_x0 (by decide))).1.trans r_x0) ((g_S17 x1 (lt18 r_x1 (by decide))).1.trans r_x1) (by omega) (by omega) ((g_S17 x3 (lt18 r_x3 (by decide))).1.trans r_x3) rfl q1 (by omega)
      replace T_S22 : ZT S22 := T_S22
      replace B_S22 : RP S17 S22 := B_S22
      have R_S22 : RP SZ S22 := rp_t R_S17 B_S22
      dsimp only at p_r21_0
      refine ok_cal2R h_r21 ?_
      have g_S22 := (fz_X9_putApart h_r21 T_S17.2.2.2.2.1).2.2
      have j141 := J_6_1 T_S22 ((g_S22 x3 (lt18 ((g_S17 x3 (lt18 r_x3 (by decide))).1.trans r_x3) (by decide))).1.trans ((g_S17 x3 (lt18 r_x3 (by decide))).1.trans r_x3))
      exact t_d_X9_putSigns_107 (S := S22)  (x0 := x0) (x1 := x1) (x2 := x2) (x3 := x3) (x5 := v3) (x6 := r5) T_S22 R_S22 ((g_S22 x0 (lt18 ((g_S17 x0 (lt18 r_x0 (by decide))).1.trans r_x0) (by decide))).1.trans ((g_S17 x0 (lt18 r_x0 (by decide))).1.trans r_x0)) ((g_S22 x1 (lt18 ((g_S17 x1 (lt18 r_x1 (by decide))).1.trans r_x1) (by decide))).1.trans ((g_S17 x1 (lt18 r_x1 (by decide))).1.trans r_x1)) ((g_S22 x3 (lt18 ((g_S17 x3 (lt18 r_x3 (by decide))).1.trans r_x3) (by decide))).1.trans ((g_S17 x3 (lt18 r_x3 (by decide))).1.trans r_x3)) (by omega) (by omega) q1 q2 (by rw [q0]; omega)
  ·
    replace c136 := ti_eqN (a := r4) (b := (0 : Int32)) c136 rfl (show (0 : Int32).toInt = 0 from rfl)
    refine ok_if (fun c142 => ?_) (fun c142 => ?_)
    ·
      replace c142 := ti_leP (a := v3) (b := v1) c142 rfl rfl
      unfold d_X9_putSigns_41
      refine ok_chk r_x3 ?_
      obtain ⟨⟨r2, S3⟩, h_r2, T_S3, B_S3, p_r2_0⟩ := t_d_X6_putText (x0 := x3) (x1 := 8) (SZ := S) hT (rp_0 S) r_x3 (by decide) rfl q1 (by omega)
      replace T_S3 : ZT S3 := T_S3
      replace B_S3 : RP S S3 := B_S3
      have R_S3 : RP SZ S3 := rp_t hR B_S3
      dsimp only at p_r2_0
      refine ok_cal2R h_r2 ?_
      have g_S3 := (fz_X6_putText h_r2 hT.2.2.2.2.1).2.2
      have j143 := J_6_1 T_S3 ((g_S3 x3 (lt18 r_x3 (by decide))).1.trans r_x3)
      exact t_d_X9_putSigns_136 (S := S3)  (x0 := x0) (x1 := x1) (x2 := x2) (x3 := x3) T_S3 R_S3 ((g_S3 x0 (lt18 r_x0 (by decide))).1.trans r_x0) ((g_S3 x1 (lt18 r_x1 (by decide))).1.trans r_x1) ((g_S3 x3 (lt18 r_x3 (by decide))).1.trans r_x3) q1 q2 (by omega)
    ·
      replace c142 := ti_leN (a := v3) (b := v1) c142 rfl rfl
      unfold d_X9_putSigns_41
      refine ok_chk r_x3 ?_
      obtain ⟨⟨r2, S3⟩, h_r2, T_S3, B_S3, p_r2_0⟩ := t_d_X6_putText (x0 := x3) (x1 := 7) (SZ := S) hT (rp_0 S) r_x3 (by decide) rfl q1 (by omega)
      replace T_S3 : ZT S3 := T_S3
      replace B_S3 : RP S S3 := B_S3
      have R_S3 : RP SZ S3 := rp_t hR B_S3
      dsimp only at p_r2_0
      refine ok_cal2R h_r2 ?_
      have g_S3 := (fz_X6_putText h_r2 hT.2.2.2.2.1).2.2
      have j144 := J_6_1 T_S3 ((g_S3 x3 (lt18 r_x3 (by decide))).1.trans r_x3)
      exact t_d_X9_putSigns_136 (S := S3)  (x0 := x0) (x1 := x1) (x2 := x2) (x3 := x3) T_S3 R_S3 ((g_S3 x0 (lt18 r_x0 (by decide))).1.trans r_x0) ((g_S3 x1 (lt18 r_x1 (by decide))).1.trans r_x1) ((g_S3 x3 (lt18 r_x3 (by decide))).1.trans r_x3) q1 q2 (by omega)
theorem t_d_X9_putSigns {SZ S : ZS} {x0 : Nat} {x1 : Nat} {x2 : Int32} {x3 : Nat} (hT : ZT S) (hR : RP SZ S) (r_x0 : zK S x0 = 9) (r_x1 : zK S x1 = 0) (r_x3 : zK S x3 = 6) (q0 : SZ = S) (q1 : rL x3 = 90000) (q2 : (zI SZ 1 x3).toInt + 40 ≤ 90000) : Ok (d_X9_putSigns x0 x1 x2 x3 S) (fun o => ZT o.2 ∧ RP SZ o.2 ∧ ((zI o.2 1 x3).toInt ≤ (zI SZ 1 x3).toInt + 10)) := t_d_X9_putSigns_0 hT hR r_x0 r_x1 r_x3 q0 q1 q2
theorem t_d_X3_putMove_66s {SZ S : ZS} {self66 : Nat → Nat → Int32 → ZS → Option (Int32 × ZS)} {N66 : Nat} (hself66 : ∀ (x2 : Nat) (x4 : Nat) (x5 : Int32) (S : ZS), ZT S → RP SZ S → (zK S x2 = 4) → (zK S x4 = 6) → ((0 : Int) ≤ x5.toInt ∧ x5.toInt ≤ (4 : Int)) → (rL x4 = 90000) → ((zI SZ 1 x4).toInt + 300 ≤ 90000) → ((zI S 1 x4).toInt ≤ (zI SZ 1 x4).toInt + 26 + 5 * x5.toInt) → (5 - x5.toInt) < (N66 : Int) → Ok (self66 x2 x4 x5 S) (fun o => ZT o.2 ∧ RP SZ o.2 ∧ ((zI o.2 1 x4).toInt ≤ (zI SZ 1 x4).toInt + 250))) {x2 : Nat} {x4 : Nat} {x5 : Int32} (hT : ZT S) (hR : RP SZ S) (r_x2 : zK S x2 = 4) (r_x4 : zK S x4 = 6) (r_x5 : (0 : Int) ≤ x5.toInt ∧ x5.toInt ≤ (4 : Int)) (q0 : rL x4 = 90000) (q1 : (zI SZ 1 x4).toInt + 300 ≤ 90000) (q2 : (zI S 1 x4).toInt ≤ (zI SZ 1 x4).toInt + 26 + 5 * x5.toInt) (m66 : (5 - x5.toInt) ≤ (N66 : Int)) : Ok (d_X3_putMove_66s self66 x2 x4 x5 S) (fun o => ZT o.2 ∧ RP SZ o.2 ∧ ((zI o.2 1 x4).toInt ≤ (zI SZ 1 x4).toInt + 250)) := by
  unfold d_X3_putMove_66s
  have j145 := J_6_1 hT r_x4
  refine ok_chk r_x2 ?_
  have j146 := J_4_4 hT r_x2
  refine ok_if (fun c147 => ?_) (fun c147 => ?_)
  ·
    replace c147 := ti_leP (a := (zI S 4 x2)) (b := x5) c147 rfl rfl
    obtain ⟨⟨r2, S3⟩, h_r2, T_S3, B_S3, p_r2_0⟩ := t_d_X3_putRemark (x0 := x2) (x1 := x4) (SZ := S) hT (rp_0 S) r_x2 r_x4 rfl q0 (by omega)
    replace T_S3 : ZT S3 := T_S3
    replace B_S3 : RP S S3 := B_S3
    have R_S3 : RP SZ S3 := rp_t hR B_S3
    dsimp only at p_r2_0
    refine ok_cal2R h_r2 ?_
    have g_S3 := (fz_X3_putRemark h_r2 hT.2.2.2.2.1).2.2
    exact ok_ret ⟨T_S3, R_S3, (by show (zI S3 1 x4).toInt ≤ (zI SZ 1 x4).toInt + 250; have z : (0 : Int32).toInt = 0 := rfl; omega)⟩
  ·
    replace c147 := ti_leN (a := (zI S 4 x2)) (b := x5) c147 rfl rfl
    obtain ⟨⟨r7, S8⟩, h_r7, T_S8, B_S8, p_r7_0⟩ := t_d_X3_putGap (x0 := x4) (SZ := S) hT (rp_0 S) r_x4 rfl q0 (by omega)
    replace T_S8 : ZT S8 := T_S8
    replace B_S8 : RP S S8 := B_S8
    have R_S8 : RP SZ S8 := rp_t hR B_S8
    dsimp only at p_r7_0
    refine ok_cal2R h_r7 ?_
    have g_S8 := (fz_X3_putGap h_r7 hT.2.2.2.2.1).2.2
    refine ok_chk ((g_S8 x4 (lt18 r_x4 (by decide))).1.trans r_x4) ?_
    have j148 := J_6_1 T_S8 ((g_S8 x4 (lt18 r_x4 (by decide))).1.trans r_x4)
    have zl149 : (36 : Int32).toInt = 36 := rfl
    obtain ⟨⟨r12, S13⟩, h_r12, T_S13, B_S13, p_r12_0, p_r12_1⟩ := t_d_X6_put (x0 := x4) (x1 := (36 : Int32)) (SZ := S8) T_S8 (rp_0 S8) ((g_S8 x4 (lt18 r_x4 (by decide))).1.trans r_x4) (by decide) (by have z0 : (36 : Int32).toInt = 36 := rfl; omega) (rc_ol q0)
    replace T_S13 : ZT S13 := T_S13
    replace B_S13 : RP S8 S13 := B_S13
    have R_S13 : RP SZ S13 := rp_t R_S8 B_S13
    dsimp only at p_r12_0 p_r12_1
    refine ok_cal2R h_r12 ?_
    have g_S13 := (fz_X6_put h_r12 T_S8.2.2.2.2.1).2.2
    refine ok_chk ((g_S13 x2 (lt18 ((g_S8 x2 (lt18 r_x2 (by decide))).1.trans r_x2) (by decide))).1.trans ((g_S8 x2 (lt18 r_x2 (by decide))).1.trans r_x2)) ?_
    obtain ⟨r16, h_r16, p_r16⟩ := roz (t_f_X4_markAt (x0 := x2) (x1 := x5) T_S13 ((g_S13 x2 (lt18 ((g_S8 x2 (lt18 r_x2 (by decide))).1.trans r_x2) (by decide))).1.trans ((g_S8 x2 (lt18 r_x2 (by decide))).1.trans r_x2)))
    dsimp only at p_r16
    refine ok_calR h_r16 ?_
    refine ok_chk ⟨rfl, rfl⟩ ?_
    refine ok_chk ((g_S13 x4 (lt18 ((g_S8 x4 (lt18 r_x4 (by decide))).1.trans r_x4) (by decide))).1.trans ((g_S8 x4 (lt18 r_x4 (by decide))).1.trans r_x4)) ?_
    have j150 := J_6_1 T_S13 ((g_S13 x4 (lt18 ((g_S8 x4 (lt18 r_x4 (by decide))).1.trans r_x4) (by decide))).1.trans ((g_S8 x4 (lt18 r_x4 (by decide))).1.trans r_x4))
    obtain ⟨⟨r18, S19⟩, h_r18, T_S19, B_S19, p_r18_0, p_r18_1⟩ := t_d_X6_putNumber (x0 := x4) (x1 := r16) (SZ := S13) T_S13 (rp_0 S13) ((g_S13 x4 (lt18 ((g_S8 x4 (lt18 r_x4 (by decide))).1.trans r_x4) (by decide))).1.trans ((g_S8 x4 (lt18 r_x4 (by decide))).1.trans r_x4)) rfl q0 (by omega)
    replace T_S19 : ZT S19 := T_S19
    replace B_S19 : RP S13 S19 := B_S19
    have R_S19 : RP SZ S19 := rp_t R_S13 B_S19
    dsimp only at p_r18_0 p_r18_1
    refine ok_cal2R h_r18 ?_
    have g_S19 := (fz_X6_putNumber h_r18 T_S13.2.2.2.2.1).2.2
    refine ok_bnd (fun v22 e151 => ?_)
    have t_v22 : v22.toInt = x5.toInt + 1 := ti_add e151 rfl (show (1 : Int32).toInt = 1 from rfl) (by omega) (by omega)
    have j152 := J_6_1 T_S19 ((g_S19 x4 (lt18 ((g_S13 x4 (lt18 ((g_S8 x4 (lt18 r_x4 (by decide))).1.trans r_x4) (by decide))).1.trans ((g_S8 x4 (lt18 r_x4 (by decide))).1.trans r_x4)) (by decide))).1.trans ((g_S13 x4 (lt18 ((g_S8 x4 (lt18 r_x4 (by decide))).1.trans r_x4) (by decide))).1.trans ((g_S8 x4 (lt18 r_x4 (by decide))).1.trans r_x4)))
    exact hself66 x2 x4 v22 S19 T_S19 R_S19 ((g_S19 x2 (lt18 ((g_S13 x2 (lt18 ((g_S8 x2 (lt18 r_x2 (by decide))).1.trans r_x2) (by decide))).1.trans ((g_S8 x2 (lt18 r_x2 (by decide))).1.trans r_x2)) (by decide))).1.trans ((g_S13 x2 (lt18 ((g_S8 x2 (lt18 r_x2 (by decide))).1.trans r_x2) (by decide))).1.trans ((g_S8 x2 (lt18 r_x2 (by decide))).1.trans r_x2))) ((g_S19 x4 (lt18 ((g_S13 x4 (lt18 ((g_S8 x4 (lt18 r_x4 (by decide))).1.trans r_x4) (by decide))).1.trans ((g_S8 x4 (lt18 r_x4 (by decide))).1.trans r_x4)) (by decide))).1.trans ((g_S13 x4 (lt18 ((g_S8 x4 (lt18 r_x4 (by decide))).1.trans r_x4) (by decide))).1.trans ((g_S8 x4 (lt18 r_x4 (by decide))).1.trans r_x4))) (by omega) q0 q1 (by omega) (by omega)
theorem t_d_X3_putMove_66 {SZ : ZS} : ∀ (n : Nat) (x2 : Nat) (x4 : Nat) (x5 : Int32) (S : ZS), ZT S → RP SZ S → (zK S x2 = 4) → (zK S x4 = 6) → ((0 : Int) ≤ x5.toInt ∧ x5.toInt ≤ (4 : Int)) → (rL x4 = 90000) → ((zI SZ 1 x4).toInt + 300 ≤ 90000) → ((zI S 1 x4).toInt ≤ (zI SZ 1 x4).toInt + 26 + 5 * x5.toInt) → (5 - x5.toInt) < (n : Int) → Ok (d_X3_putMove_66  n x2 x4 x5 S) (fun o => ZT o.2 ∧ RP SZ o.2 ∧ ((zI o.2 1 x4).toInt ≤ (zI SZ 1 x4).toInt + 250)) := by
  intro n
  induction n with
  | zero => intro x2 x4 x5 S hT hR g0 g1 g2 g3 g4 g5  hm; exfalso; omega
  | succ n ih =>
    intro x2 x4 x5 S hT hR g0 g1 g2 g3 g4 g5  hm
    exact t_d_X3_putMove_66s (N66 := n)  ih hT hR g0 g1 g2 g3 g4 g5  (by omega)
theorem t_d_X3_putMove_44 {SZ S : ZS} {x0 : Nat} {x1 : Nat} {x2 : Nat} {x4 : Nat} (hT : ZT S) (hR : RP SZ S) (r_x0 : zK S x0 = 3) (r_x1 : zK S x1 = 0) (r_x2 : zK S x2 = 4) (r_x4 : zK S x4 = 6) (q0 : rL x4 = 90000) (q1 : (zI SZ 1 x4).toInt + 300 ≤ 90000) (q2 : (zI S 1 x4).toInt ≤ (zI SZ 1 x4).toInt + 14) : Ok (d_X3_putMove_44 x0 x1 x2 x4 S) (fun o => ZT o.2 ∧ RP SZ o.2 ∧ ((zI o.2 1 x4).toInt ≤ (zI SZ 1 x4).toInt + 250)) := by
  unfold d_X3_putMove_44
  have j153 := J_6_1 hT r_x4
  obtain ⟨⟨r2, S3⟩, h_r2, T_S3, B_S3, p_r2_0⟩ := t_d_X3_putGap (x0 := x4) (SZ := S) hT (rp_0 S) r_x4 rfl q0 (by omega)
  replace T_S3 : ZT S3 := T_S3
  replace B_S3 : RP S S3 := B_S3
  have R_S3 : RP SZ S3 := rp_t hR B_S3
  dsimp only at p_r2_0
  refine ok_cal2R h_r2 ?_
  have g_S3 := (fz_X3_putGap h_r2 hT.2.2.2.2.1).2.2
  refine ok_chk ((g_S3 x0 (lt18 r_x0 (by decide))).1.trans r_x0) ?_
  obtain ⟨b6, p_b6, k_b6⟩ := T_3_0 T_S3 ((g_S3 x0 (lt18 r_x0 (by decide))).1.trans r_x0)
  refine ok_calR p_b6 ?_
  refine ok_chk ((g_S3 x2 (lt18 r_x2 (by decide))).1.trans r_x2) ?_
  refine ok_chk k_b6 ?_
  have j154 := J_6_1 T_S3 ((g_S3 x4 (lt18 r_x4 (by decide))).1.trans r_x4)
  obtain ⟨⟨r8, S9⟩, h_r8, T_S9, B_S9, p_r8_0⟩ := t_d_X9_putSigns (x0 := b6) (x1 := x1) (x2 := (zI S3 1 x2)) (x3 := x4) (SZ := S3) T_S3 (rp_0 S3) k_b6 ((g_S3 x1 (lt18 r_x1 (by decide))).1.trans r_x1) ((g_S3 x4 (lt18 r_x4 (by decide))).1.trans r_x4) rfl q0 (by omega)
  replace T_S9 : ZT S9 := T_S9
  replace B_S9 : RP S3 S9 := B_S9
  have R_S9 : RP SZ S9 := rp_t R_S3 B_S9
  dsimp only at p_r8_0
  refine ok_cal2R h_r8 ?_
  have g_S9 := (fz_X9_putSigns h_r8 T_S3.2.2.2.2.1).2.2
  have j155 := J_6_1 T_S9 ((g_S9 x4 (lt18 ((g_S3 x4 (lt18 r_x4 (by decide))).1.trans r_x4) (by decide))).1.trans ((g_S3 x4 (lt18 r_x4 (by decide))).1.trans r_x4))
  exact t_d_X3_putMove_66   mFuel x2 x4 (0 : Int32) S9 T_S9 R_S9 ((g_S9 x2 (lt18 ((g_S3 x2 (lt18 r_x2 (by decide))).1.trans r_x2) (by decide))).1.trans ((g_S3 x2 (lt18 r_x2 (by decide))).1.trans r_x2)) ((g_S9 x4 (lt18 ((g_S3 x4 (lt18 r_x4 (by decide))).1.trans r_x4) (by decide))).1.trans ((g_S3 x4 (lt18 r_x4 (by decide))).1.trans r_x4)) (by decide) q0 q1 (by have z0 : (0 : Int32).toInt = 0 := rfl; omega) (by show _ < ((200000 : Nat) : Int); have z0 : (0 : Int32).toInt = 0 := rfl; omega)
theorem t_d_X3_putMove_11 {SZ S : ZS} {x0 : Nat} {x1 : Nat} {x2 : Nat} {x4 : Nat} (hT : ZT S) (hR : RP SZ S) (r_x0 : zK S x0 = 3) (r_x1 : zK S x1 = 0) (r_x2 : zK S x2 = 4) (r_x4 : zK S x4 = 6) (q0 : rL x4 = 90000) (q1 : (zI SZ 1 x4).toInt + 300 ≤ 90000) (q2 : (zI S 1 x4).toInt ≤ (zI SZ 1 x4).toInt + 0) : Ok (d_X3_putMove_11 x0 x1 x2 x4 S) (fun o => ZT o.2 ∧ RP SZ o.2 ∧ ((zI o.2 1 x4).toInt ≤ (zI SZ 1 x4).toInt + 250)) := by
  unfold d_X3_putMove_11
  have j156 := J_6_1 hT r_x4
  have z13 : zSl.getD 13 0 = 1 := rfl
  have z14 : zSl.getD 14 0 = 3 := rfl
  obtain ⟨⟨r2, S3⟩, h_r2, T_S3, B_S3, p_r2_0⟩ := t_d_X3_putGap (x0 := x4) (SZ := S) hT (rp_0 S) r_x4 rfl q0 (by omega)
  replace T_S3 : ZT S3 := T_S3
  replace B_S3 : RP S S3 := B_S3
  have R_S3 : RP SZ S3 := rp_t hR B_S3
  dsimp only at p_r2_0
  refine ok_cal2R h_r2 ?_
  have g_S3 := (fz_X3_putGap h_r2 hT.2.2.2.2.1).2.2
  refine ok_chk ((g_S3 x1 (lt18 r_x1 (by decide))).1.trans r_x1) ?_
  refine ok_chk ((g_S3 x4 (lt18 r_x4 (by decide))).1.trans r_x4) ?_
  have j157 := J_6_1 T_S3 ((g_S3 x4 (lt18 r_x4 (by decide))).1.trans r_x4)
  obtain ⟨⟨r7, S8⟩, h_r7, T_S8, B_S8, p_r7_0, p_r7_1⟩ := t_d_X6_putNumber (x0 := x4) (x1 := (zI S3 6 x1)) (SZ := S3) T_S3 (rp_0 S3) ((g_S3 x4 (lt18 r_x4 (by decide))).1.trans r_x4) rfl q0 (by omega)
  replace T_S8 : ZT S8 := T_S8
  replace B_S8 : RP S3 S8 := B_S8
  have R_S8 : RP SZ S8 := rp_t R_S3 B_S8
  dsimp only at p_r7_0 p_r7_1
  refine ok_cal2R h_r7 ?_
  have g_S8 := (fz_X6_putNumber h_r7 T_S3.2.2.2.2.1).2.2
  refine ok_chk ((g_S8 x1 (lt18 ((g_S3 x1 (lt18 r_x1 (by decide))).1.trans r_x1) (by decide))).1.trans ((g_S3 x1 (lt18 r_x1 (by decide))).1.trans r_x1)) ?_
  have j158 := J_0_3 T_S8 ((g_S8 x1 (lt18 ((g_S3 x1 (lt18 r_x1 (by decide))).1.trans r_x1) (by decide))).1.trans ((g_S3 x1 (lt18 r_x1 (by decide))).1.trans r_x1))
  refine ok_if (fun c159 => ?_) (fun c159 => ?_)
  ·
    replace c159 := ti_eqP (a := (zI S8 3 x1)) (b := (0 : Int32)) c159 rfl (show (0 : Int32).toInt = 0 from rfl)
    unfold d_X3_putMove_41
    refine ok_chk ((g_S8 x4 (lt18 ((g_S3 x4 (lt18 r_x4 (by decide))).1.trans r_x4) (by decide))).1.trans ((g_S3 x4 (lt18 r_x4 (by decide))).1.trans r_x4)) ?_
    have j162 := J_6_1 T_S8 ((g_S8 x4 (lt18 ((g_S3 x4 (lt18 r_x4 (by decide))).1.trans r_x4) (by decide))).1.trans ((g_S3 x4 (lt18 r_x4 (by decide))).1.trans r_x4))
    obtain ⟨⟨r2w160, S3w161⟩, h_r2w160, T_S3w161, B_S3w161, p_r2w160_0⟩ := t_d_X6_putText (x0 := x4) (x1 := 13) (SZ := S8) T_S8 (rp_0 S8) ((g_S8 x4 (lt18 ((g_S3 x4 (lt18 r_x4 (by decide))).1.trans r_x4) (by decide))).1.trans ((g_S3 x4 (lt18 r_x4 (by decide))).1.trans r_x4)) (by decide) rfl q0 (by omega)
    replace T_S3w161 : ZT S3w161 := T_S3w161
    replace B_S3w161 : RP S8 S3w161 := B_S3w161
    have R_S3w161 : RP SZ S3w161 := rp_t R_S8 B_S3w161
    dsimp only at p_r2w160_0
    refine ok_cal2R h_r2w160 ?_
    have g_S3w161 := (fz_X6_putText h_r2w160 T_S8.2.2.2.2.1).2.2
    have j163 := J_6_1 T_S3w161 ((g_S3w161 x4 (lt18 ((g_S8 x4 (lt18 ((g_S3 x4 (lt18 r_x4 (by decide))).1.trans r_x4) (by decide))).1.trans ((g_S3 x4 (lt18 r_x4 (by decide))).1.trans r_x4)) (by decide))).1.trans ((g_S8 x4 (lt18 ((g_S3 x4 (lt18 r_x4 (by decide))).1.trans r_x4) (by decide))).1.trans ((g_S3 x4 (lt18 r_x4 (by decide))).1.trans r_x4)))
    exact t_d_X3_putMove_44 (S := S3w161)  (x0 := x0) (x1 := x1) (x2 := x2) (x4 := x4) T_S3w161 R_S3w161 ((g_S3w161 x0 (lt18 ((g_S8 x0 (lt18 ((g_S3 x0 (lt18 r_x0 (by decide))).1.trans r_x0) (by decide))).1.trans ((g_S3 x0 (lt18 r_x0 (by decide))).1.trans r_x0)) (by decide))).1.trans ((g_S8 x0 (lt18 ((g_S3 x0 (lt18 r_x0 (by decide))).1.trans r_x0) (by decide))).1.trans ((g_S3 x0 (lt18 r_x0 (by decide))).1.trans r_x0))) ((g_S3w161 x1 (lt18 ((g_S8 x1 (lt18 ((g_S3 x1 (lt18 r_x1 (by decide))).1.trans r_x1) (by decide))).1.trans ((g_S3 x1 (lt18 r_x1 (by decide))).1.trans r_x1)) (by decide))).1.trans ((g_S8 x1 (lt18 ((g_S3 x1 (lt18 r_x1 (by decide))).1.trans r_x1) (by decide))).1.trans ((g_S3 x1 (lt18 r_x1 (by decide))).1.trans r_x1))) ((g_S3w161 x2 (lt18 ((g_S8 x2 (lt18 ((g_S3 x2 (lt18 r_x2 (by decide))).1.trans r_x2) (by decide))).1.trans ((g_S3 x2 (lt18 r_x2 (by decide))).1.trans r_x2)) (by decide))).1.trans ((g_S8 x2 (lt18 ((g_S3 x2 (lt18 r_x2 (by decide))).1.trans r_x2) (by decide))).1.trans ((g_S3 x2 (lt18 r_x2 (by decide))).1.trans r_x2))) ((g_S3w161 x4 (lt18 ((g_S8 x4 (lt18 ((g_S3 x4 (lt18 r_x4 (by decide))).1.trans r_x4) (by decide))).1.trans ((g_S3 x4 (lt18 r_x4 (by decide))).1.trans r_x4)) (by decide))).1.trans ((g_S8 x4 (lt18 ((g_S3 x4 (lt18 r_x4 (by decide))).1.trans r_x4) (by decide))).1.trans ((g_S3 x4 (lt18 r_x4 (by decide))).1.trans r_x4))) q0 q1 (by omega)
  ·
    replace c159 := ti_eqN (a := (zI S8 3 x1)) (b := (0 : Int32)) c159 rfl (show (0 : Int32).toInt = 0 from rfl)
    unfold d_X3_putMove_41
    refine ok_chk ((g_S8 x4 (lt18 ((g_S3 x4 (lt18 r_x4 (by decide))).1.trans r_x4) (by decide))).1.trans ((g_S3 x4 (lt18 r_x4 (by decide))).1.trans r_x4)) ?_
    have j166 := J_6_1 T_S8 ((g_S8 x4 (lt18 ((g_S3 x4 (lt18 r_x4 (by decide))).1.trans r_x4) (by decide))).1.trans ((g_S3 x4 (lt18 r_x4 (by decide))).1.trans r_x4))
    obtain ⟨⟨r2w164, S3w165⟩, h_r2w164, T_S3w165, B_S3w165, p_r2w164_0⟩ := t_d_X6_putText (x0 := x4) (x1 := 14) (SZ := S8) T_S8 (rp_0 S8) ((g_S8 x4 (lt18 ((g_S3 x4 (lt18 r_x4 (by decide))).1.trans r_x4) (by decide))).1.trans ((g_S3 x4 (lt18 r_x4 (by decide))).1.trans r_x4)) (by decide) rfl q0 (by omega)
    replace T_S3w165 : ZT S3w165 := T_S3w165
    replace B_S3w165 : RP S8 S3w165 := B_S3w165
    have R_S3w165 : RP SZ S3w165 := rp_t R_S8 B_S3w165
    dsimp only at p_r2w164_0
    refine ok_cal2R h_r2w164 ?_
    have g_S3w165 := (fz_X6_putText h_r2w164 T_S8.2.2.2.2.1).2.2
    have j167 := J_6_1 T_S3w165 ((g_S3w165 x4 (lt18 ((g_S8 x4 (lt18 ((g_S3 x4 (lt18 r_x4 (by decide))).1.trans r_x4) (by decide))).1.trans ((g_S3 x4 (lt18 r_x4 (by decide))).1.trans r_x4)) (by decide))).1.trans ((g_S8 x4 (lt18 ((g_S3 x4 (lt18 r_x4 (by decide))).1.trans r_x4) (by decide))).1.trans ((g_S3 x4 (lt18 r_x4 (by decide))).1.trans r_x4)))
    exact t_d_X3_putMove_44 (S := S3w165)  (x0 := x0) (x1 := x1) (x2 := x2) (x4 := x4) T_S3w165 R_S3w165 ((g_S3w165 x0 (lt18 ((g_S8 x0 (lt18 ((g_S3 x0 (lt18 r_x0 (by decide))).1.trans r_x0) (by decide))).1.trans ((g_S3 x0 (lt18 r_x0 (by decide))).1.trans r_x0)) (by decide))).1.trans ((g_S8 x0 (lt18 ((g_S3 x0 (lt18 r_x0 (by decide))).1.trans r_x0) (by decide))).1.trans ((g_S3 x0 (lt18 r_x0 (by decide))).1.trans r_x0))) ((g_S3w165 x1 (lt18 ((g_S8 x1 (lt18 ((g_S3 x1 (lt18 r_x1 (by decide))).1.trans r_x1) (by decide))).1.trans ((g_S3 x1 (lt18 r_x1 (by decide))).1.trans r_x1)) (by decide))).1.trans ((g_S8 x1 (lt18 ((g_S3 x1 (lt18 r_x1 (by decide))).1.trans r_x1) (by decide))).1.trans ((g_S3 x1 (lt18 r_x1 (by decide))).1.trans r_x1))) ((g_S3w165 x2 (lt18 ((g_S8 x2 (lt18 ((g_S3 x2 (lt18 r_x2 (by decide))).1.trans r_x2) (by decide))).1.trans ((g_S3 x2 (lt18 r_x2 (by decide))).1.trans r_x2)) (by decide))).1.trans ((g_S8 x2 (lt18 ((g_S3 x2 (lt18 r_x2 (by decide))).1.trans r_x2) (by decide))).1.trans ((g_S3 x2 (lt18 r_x2 (by decide))).1.trans r_x2))) ((g_S3w165 x4 (lt18 ((g_S8 x4 (lt18 ((g_S3 x4 (lt18 r_x4 (by decide))).1.trans r_x4) (by decide))).1.trans ((g_S3 x4 (lt18 r_x4 (by decide))).1.trans r_x4)) (by decide))).1.trans ((g_S8 x4 (lt18 ((g_S3 x4 (lt18 r_x4 (by decide))).1.trans r_x4) (by decide))).1.trans ((g_S3 x4 (lt18 r_x4 (by decide))).1.trans r_x4))) q0 q1 (by omega)
theorem t_d_X3_putMove_0 {SZ S : ZS} {x0 : Nat} {x1 : Nat} {x2 : Nat} {x3 : Int32} {x4 : Nat} (hT : ZT S) (hR : RP SZ S) (r_x0 : zK S x0 = 3) (r_x1 : zK S x1 = 0) (r_x2 : zK S x2 = 4) (r_x4 : zK S x4 = 6) (q0 : SZ = S) (q1 : rL x4 = 90000) (q2 : (zI SZ 1 x4).toInt + 300 ≤ 90000) : Ok (d_X3_putMove_0 x0 x1 x2 x3 x4 S) (fun o => ZT o.2 ∧ RP SZ o.2 ∧ ((zI o.2 1 x4).toInt ≤ (zI SZ 1 x4).toInt + 250)) := by
  unfold d_X3_putMove_0
  have j168 := J_6_1 hT r_x4
  have s0 : (zI SZ 1 x4).toInt = (zI S 1 x4).toInt := by rw [q0]
  refine ok_chk r_x1 ?_
  have j169 := J_0_3 hT r_x1
  refine ok_if (fun c170 => ?_) (fun c170 => ?_)
  ·
    replace c170 := ti_eqP (a := (zI S 3 x1)) (b := (0 : Int32)) c170 rfl (show (0 : Int32).toInt = 0 from rfl)
    exact t_d_X3_putMove_11 (S := S)  (x0 := x0) (x1 := x1) (x2 := x2) (x4 := x4) hT hR r_x0 r_x1 r_x2 r_x4 q1 q2 (by rw [q0]; omega)
  ·
    replace c170 := ti_eqN (a := (zI S 3 x1)) (b := (0 : Int32)) c170 rfl (show (0 : Int32).toInt = 0 from rfl)
    refine ok_if (fun c171 => ?_) (fun c171 => ?_)
    ·
      replace c171 := ti_eqP (a := x3) (b := (0 : Int32)) c171 rfl (show (0 : Int32).toInt = 0 from rfl)
      exact t_d_X3_putMove_44 (S := S)  (x0 := x0) (x1 := x1) (x2 := x2) (x4 := x4) hT hR r_x0 r_x1 r_x2 r_x4 q1 q2 (by rw [q0]; omega)
    ·
      replace c171 := ti_eqN (a := x3) (b := (0 : Int32)) c171 rfl (show (0 : Int32).toInt = 0 from rfl)
      exact t_d_X3_putMove_11 (S := S)  (x0 := x0) (x1 := x1) (x2 := x2) (x4 := x4) hT hR r_x0 r_x1 r_x2 r_x4 q1 q2 (by rw [q0]; omega)
theorem t_d_X3_putMove {SZ S : ZS} {x0 : Nat} {x1 : Nat} {x2 : Nat} {x3 : Int32} {x4 : Nat} (hT : ZT S) (hR : RP SZ S) (r_x0 : zK S x0 = 3) (r_x1 : zK S x1 = 0) (r_x2 : zK S x2 = 4) (r_x4 : zK S x4 = 6) (q0 : SZ = S) (q1 : rL x4 = 90000) (q2 : (zI SZ 1 x4).toInt + 300 ≤ 90000) : Ok (d_X3_putMove x0 x1 x2 x3 x4 S) (fun o => ZT o.2 ∧ RP SZ o.2 ∧ ((zI o.2 1 x4).toInt ≤ (zI SZ 1 x4).toInt + 250)) := t_d_X3_putMove_0 hT hR r_x0 r_x1 r_x2 r_x4 q0 q1 q2
