theorem t_f_X7_legalMove_110 {SZ S : ZS} {self11 : Nat → Nat → Int32 → Int32 → ZS → Option (Int32 × ZS)} {N11 : Nat} (hself11 : ∀ (x0 : Nat) (x1 : Nat) (x3 : Int32) (x4 : Int32) (S : ZS), ZT S → A7 SZ S → (zK S x0 = 7) → (zK S x1 = 0) → ((0 : Int) ≤ x3.toInt ∧ x3.toInt ≤ (2147483647 : Int)) → ((0 : Int) ≤ x4.toInt ∧ x4.toInt ≤ (64 : Int)) → (65 - x4.toInt) < (N11 : Int) → Ok (self11 x0 x1 x3 x4 S) (fun o => ZT o.2 ∧ A7 SZ o.2 ∧ True)) {self21 : Nat → Nat → Int32 → Int32 → Int32 → ZS → Option (Int32 × ZS)} {N21 : Nat} (hself21 : ∀ (x0 : Nat) (x1 : Nat) (x3 : Int32) (x4 : Int32) (x5 : Int32) (S : ZS), ZT S → A7 SZ S → (zK S x0 = 7) → (zK S x1 = 0) → ((0 : Int) ≤ x3.toInt ∧ x3.toInt ≤ (2147483647 : Int)) → ((0 : Int) ≤ x4.toInt ∧ x4.toInt ≤ (63 : Int)) → ((0 : Int) ≤ x5.toInt ∧ x5.toInt ≤ (64 : Int)) → ((65 - x4.toInt) ≤ (N11 : Int)) → (65 - x5.toInt) < (N21 : Int) → Ok (self21 x0 x1 x3 x4 x5 S) (fun o => ZT o.2 ∧ A7 SZ o.2 ∧ True)) {x0 : Nat} {x1 : Nat} {x3 : Int32} {x4 : Int32} {x5 : Int32} (hT : ZT S) (hR : A7 SZ S) (r_x0 : zK S x0 = 7) (r_x1 : zK S x1 = 0) (r_x3 : (0 : Int) ≤ x3.toInt ∧ x3.toInt ≤ (2147483647 : Int)) (r_x4 : (0 : Int) ≤ x4.toInt ∧ x4.toInt ≤ (63 : Int)) (r_x5 : (0 : Int) ≤ x5.toInt ∧ x5.toInt ≤ (63 : Int)) (m11 : (65 - x4.toInt) ≤ (N11 : Int)) (m21 : (65 - x5.toInt) ≤ (N21 : Int)) : Ok (f_X7_legalMove_110 self11 self21 x0 x1 x3 x4 x5 S) (fun o => ZT o.2 ∧ A7 SZ o.2 ∧ True) := by
  unfold f_X7_legalMove_110
  refine ok_bnd (fun v1 e1 => ?_)
  have t_v1 : v1.toInt = x5.toInt + 1 := ti_add e1 rfl (show (1 : Int32).toInt = 1 from rfl) (by omega) (by omega)
  exact hself21 x0 x1 x3 x4 v1 S hT hR r_x0 r_x1 r_x3 r_x4 (by omega) m11 (by omega)
theorem t_f_X7_legalMove_75 {SZ S : ZS} {self11 : Nat → Nat → Int32 → Int32 → ZS → Option (Int32 × ZS)} {N11 : Nat} (hself11 : ∀ (x0 : Nat) (x1 : Nat) (x3 : Int32) (x4 : Int32) (S : ZS), ZT S → A7 SZ S → (zK S x0 = 7) → (zK S x1 = 0) → ((0 : Int) ≤ x3.toInt ∧ x3.toInt ≤ (2147483647 : Int)) → ((0 : Int) ≤ x4.toInt ∧ x4.toInt ≤ (64 : Int)) → (65 - x4.toInt) < (N11 : Int) → Ok (self11 x0 x1 x3 x4 S) (fun o => ZT o.2 ∧ A7 SZ o.2 ∧ True)) {self21 : Nat → Nat → Int32 → Int32 → Int32 → ZS → Option (Int32 × ZS)} {N21 : Nat} (hself21 : ∀ (x0 : Nat) (x1 : Nat) (x3 : Int32) (x4 : Int32) (x5 : Int32) (S : ZS), ZT S → A7 SZ S → (zK S x0 = 7) → (zK S x1 = 0) → ((0 : Int) ≤ x3.toInt ∧ x3.toInt ≤ (2147483647 : Int)) → ((0 : Int) ≤ x4.toInt ∧ x4.toInt ≤ (63 : Int)) → ((0 : Int) ≤ x5.toInt ∧ x5.toInt ≤ (64 : Int)) → ((65 - x4.toInt) ≤ (N11 : Int)) → (65 - x5.toInt) < (N21 : Int) → Ok (self21 x0 x1 x3 x4 x5 S) (fun o => ZT o.2 ∧ A7 SZ o.2 ∧ True)) {x0 : Nat} {x1 : Nat} {x3 : Int32} {x4 : Int32} {x5 : Int32} {x6 : Int32} {t0 : Int32} (hT : ZT S) (hR : A7 SZ S) (r_x0 : zK S x0 = 7) (r_x1 : zK S x1 = 0) (r_x3 : (0 : Int) ≤ x3.toInt ∧ x3.toInt ≤ (2147483647 : Int)) (r_x4 : (0 : Int) ≤ x4.toInt ∧ x4.toInt ≤ (63 : Int)) (r_x5 : (0 : Int) ≤ x5.toInt ∧ x5.toInt ≤ (63 : Int)) (r_x6 : (0 : Int) ≤ x6.toInt ∧ x6.toInt ≤ (4095 : Int)) (r_t0 : (1 : Int) ≤ t0.toInt ∧ t0.toInt ≤ (4 : Int)) (m11 : (65 - x4.toInt) ≤ (N11 : Int)) (m21 : (65 - x5.toInt) ≤ (N21 : Int)) : Ok (f_X7_legalMove_75 self11 self21 x0 x1 x3 x4 x5 x6 t0 S) (fun o => ZT o.2 ∧ A7 SZ o.2 ∧ True) := by
  unfold f_X7_legalMove_75
  refine ok_if (fun c2 => ?_) (fun c2 => ?_)
  ·
    replace c2 := ti_leP (a := t0) (b := x3) c2 rfl rfl
    refine ok_bnd (fun v1 e3 => ?_)
    have t_v1 : v1.toInt = x3.toInt - t0.toInt := ti_sub e3 rfl rfl (by omega) (by omega)
    exact t_f_X7_legalMove_110 (S := S) hself11 hself21 (x0 := x0) (x1 := x1) (x3 := v1) (x4 := x4) (x5 := x5) hT hR r_x0 r_x1 (by omega) r_x4 r_x5 m11 m21
  ·
    replace c2 := ti_leN (a := t0) (b := x3) c2 rfl rfl
    refine ok_if (fun c4 => ?_) (fun c4 => ?_)
    ·
      replace c4 := ti_eqP (a := t0) (b := (1 : Int32)) c4 rfl (show (1 : Int32).toInt = 1 from rfl)
      unfold f_X7_legalMove_104
      exact ok_ret ⟨hT, hR, trivial⟩
    ·
      replace c4 := ti_eqN (a := t0) (b := (1 : Int32)) c4 rfl (show (1 : Int32).toInt = 1 from rfl)
      refine ok_bnd (fun v2 e5 => ?_)
      have t_v2 : v2.toInt = 2 + x3.toInt := ti_add e5 (show (2 : Int32).toInt = 2 from rfl) rfl (by omega) (by omega)
      refine ok_bnd (fun v3 e6 => ?_)
      have t_v3 : v3.toInt = 4096 * v2.toInt := ti_mul e6 (show (4096 : Int32).toInt = 4096 from rfl) rfl (by omega) (by omega)
      refine ok_bnd (fun v4 e7 => ?_)
      have t_v4 : v4.toInt = x6.toInt + v3.toInt := ti_add e7 rfl rfl (by omega) (by omega)
      unfold f_X7_legalMove_104
      exact ok_ret ⟨hT, hR, trivial⟩
theorem t_f_X7_legalMove_21s {SZ S : ZS} {self11 : Nat → Nat → Int32 → Int32 → ZS → Option (Int32 × ZS)} {N11 : Nat} (hself11 : ∀ (x0 : Nat) (x1 : Nat) (x3 : Int32) (x4 : Int32) (S : ZS), ZT S → A7 SZ S → (zK S x0 = 7) → (zK S x1 = 0) → ((0 : Int) ≤ x3.toInt ∧ x3.toInt ≤ (2147483647 : Int)) → ((0 : Int) ≤ x4.toInt ∧ x4.toInt ≤ (64 : Int)) → (65 - x4.toInt) < (N11 : Int) → Ok (self11 x0 x1 x3 x4 S) (fun o => ZT o.2 ∧ A7 SZ o.2 ∧ True)) {self21 : Nat → Nat → Int32 → Int32 → Int32 → ZS → Option (Int32 × ZS)} {N21 : Nat} (hself21 : ∀ (x0 : Nat) (x1 : Nat) (x3 : Int32) (x4 : Int32) (x5 : Int32) (S : ZS), ZT S → A7 SZ S → (zK S x0 = 7) → (zK S x1 = 0) → ((0 : Int) ≤ x3.toInt ∧ x3.toInt ≤ (2147483647 : Int)) → ((0 : Int) ≤ x4.toInt ∧ x4.toInt ≤ (63 : Int)) → ((0 : Int) ≤ x5.toInt ∧ x5.toInt ≤ (64 : Int)) → ((65 - x4.toInt) ≤ (N11 : Int)) → (65 - x5.toInt) < (N21 : Int) → Ok (self21 x0 x1 x3 x4 x5 S) (fun o => ZT o.2 ∧ A7 SZ o.2 ∧ True)) {x0 : Nat} {x1 : Nat} {x3 : Int32} {x4 : Int32} {x5 : Int32} (hT : ZT S) (hR : A7 SZ S) (r_x0 : zK S x0 = 7) (r_x1 : zK S x1 = 0) (r_x3 : (0 : Int) ≤ x3.toInt ∧ x3.toInt ≤ (2147483647 : Int)) (r_x4 : (0 : Int) ≤ x4.toInt ∧ x4.toInt ≤ (63 : Int)) (r_x5 : (0 : Int) ≤ x5.toInt ∧ x5.toInt ≤ (64 : Int)) (m11 : (65 - x4.toInt) ≤ (N11 : Int)) (m21 : (65 - x5.toInt) ≤ (N21 : Int)) : Ok (f_X7_legalMove_21s self11 self21 x0 x1 x3 x4 x5 S) (fun o => ZT o.2 ∧ A7 SZ o.2 ∧ True) := by
  unfold f_X7_legalMove_21s
  refine ok_if (fun c8 => ?_) (fun c8 => ?_)
  ·
    replace c8 := ti_leP (a := (64 : Int32)) (b := x5) c8 (show (64 : Int32).toInt = 64 from rfl) rfl
    refine ok_bnd (fun v1 e9 => ?_)
    have t_v1 : v1.toInt = x4.toInt + 1 := ti_add e9 rfl (show (1 : Int32).toInt = 1 from rfl) (by omega) (by omega)
    exact hself11 x0 x1 x3 v1 S hT hR r_x0 r_x1 r_x3 (by omega) (by omega)
  ·
    replace c8 := ti_leN (a := (64 : Int32)) (b := x5) c8 (show (64 : Int32).toInt = 64 from rfl) rfl
    refine ok_bnd (fun v2 e10 => ?_)
    have t_v2 : v2.toInt = 64 * x5.toInt := ti_mul e10 (show (64 : Int32).toInt = 64 from rfl) rfl (by omega) (by omega)
    refine ok_bnd (fun v3 e11 => ?_)
    have t_v3 : v3.toInt = x4.toInt + v2.toInt := ti_add e11 rfl rfl (by omega) (by omega)
    refine ok_chk r_x1 ?_
    obtain ⟨r4, h_r4, p_r4⟩ := roz (t_f_X0_reaches (x0 := x1) (x1 := x4) (x2 := x5) hT r_x1 r_x4 (by omega))
    dsimp only at p_r4
    refine ok_calR h_r4 ?_
    refine ok_if (fun c12 => ?_) (fun c12 => ?_)
    ·
      replace c12 := ti_eqP (a := r4) (b := (0 : Int32)) c12 rfl (show (0 : Int32).toInt = 0 from rfl)
      exact t_f_X7_legalMove_110 (S := S) hself11 hself21 (x0 := x0) (x1 := x1) (x3 := x3) (x4 := x4) (x5 := x5) hT hR r_x0 r_x1 r_x3 r_x4 (by omega) m11 m21
    ·
      replace c12 := ti_eqN (a := r4) (b := (0 : Int32)) c12 rfl (show (0 : Int32).toInt = 0 from rfl)
      refine ok_chk r_x0 ?_
      obtain ⟨⟨r5, S5⟩, h_r5, T_S5, A_S5, p_r5⟩ := t_f_X7_isSafe (x0 := x0) (x1 := x1) (x2 := v3) (SZ := S) hT (a7_0 S) r_x0 r_x1
      replace T_S5 : ZT S5 := T_S5
      replace A_S5 : A7 S S5 := A_S5
      dsimp only at p_r5
      refine ok_calR h_r5 ?_
      have q_S5 := fq_X7_isSafe h_r5
      have kE_S5 : zK S5 = zK S := q_S5.2.2.1
      have nE_S5 : zN S5 = zN S := q_S5.2.2.2.1
      have R_S5 : A7 SZ S5 := a7_t hR A_S5
      refine ok_if (fun c13 => ?_) (fun c13 => ?_)
      ·
        replace c13 := ti_eqP (a := r5) (b := (0 : Int32)) c13 rfl (show (0 : Int32).toInt = 0 from rfl)
        exact t_f_X7_legalMove_110 (S := S5) hself11 hself21 (x0 := x0) (x1 := x1) (x3 := x3) (x4 := x4) (x5 := x5) T_S5 R_S5 ((congrFun kE_S5 x0).trans r_x0) ((congrFun kE_S5 x1).trans r_x1) r_x3 r_x4 (by omega) m11 m21
      ·
        replace c13 := ti_eqN (a := r5) (b := (0 : Int32)) c13 rfl (show (0 : Int32).toInt = 0 from rfl)
        refine ok_chk ((congrFun kE_S5 x1).trans r_x1) ?_
        obtain ⟨r6, h_r6, p_r6⟩ := roz (t_f_X0_becomesAnother (x0 := x1) (x1 := x4) (x2 := x5) T_S5 ((congrFun kE_S5 x1).trans r_x1) r_x4)
        dsimp only at p_r6
        refine ok_calR h_r6 ?_
        refine ok_if (fun c14 => ?_) (fun c14 => ?_)
        ·
          replace c14 := ti_eqP (a := r6) (b := (0 : Int32)) c14 rfl (show (0 : Int32).toInt = 0 from rfl)
          exact t_f_X7_legalMove_75 (S := S5) hself11 hself21 (x0 := x0) (x1 := x1) (x3 := x3) (x4 := x4) (x5 := x5) (x6 := v3) (t0 := (1 : Int32)) T_S5 R_S5 ((congrFun kE_S5 x0).trans r_x0) ((congrFun kE_S5 x1).trans r_x1) r_x3 r_x4 (by omega) (by omega) (by decide) m11 m21
        ·
          replace c14 := ti_eqN (a := r6) (b := (0 : Int32)) c14 rfl (show (0 : Int32).toInt = 0 from rfl)
          exact t_f_X7_legalMove_75 (S := S5) hself11 hself21 (x0 := x0) (x1 := x1) (x3 := x3) (x4 := x4) (x5 := x5) (x6 := v3) (t0 := (4 : Int32)) T_S5 R_S5 ((congrFun kE_S5 x0).trans r_x0) ((congrFun kE_S5 x1).trans r_x1) r_x3 r_x4 (by omega) (by omega) (by decide) m11 m21
theorem t_f_X7_legalMove_21 {SZ : ZS} {self11 : Nat → Nat → Int32 → Int32 → ZS → Option (Int32 × ZS)} {N11 : Nat} (hself11 : ∀ (x0 : Nat) (x1 : Nat) (x3 : Int32) (x4 : Int32) (S : ZS), ZT S → A7 SZ S → (zK S x0 = 7) → (zK S x1 = 0) → ((0 : Int) ≤ x3.toInt ∧ x3.toInt ≤ (2147483647 : Int)) → ((0 : Int) ≤ x4.toInt ∧ x4.toInt ≤ (64 : Int)) → (65 - x4.toInt) < (N11 : Int) → Ok (self11 x0 x1 x3 x4 S) (fun o => ZT o.2 ∧ A7 SZ o.2 ∧ True)) : ∀ (n : Nat) (x0 : Nat) (x1 : Nat) (x3 : Int32) (x4 : Int32) (x5 : Int32) (S : ZS), ZT S → A7 SZ S → (zK S x0 = 7) → (zK S x1 = 0) → ((0 : Int) ≤ x3.toInt ∧ x3.toInt ≤ (2147483647 : Int)) → ((0 : Int) ≤ x4.toInt ∧ x4.toInt ≤ (63 : Int)) → ((0 : Int) ≤ x5.toInt ∧ x5.toInt ≤ (64 : Int)) → ((65 - x4.toInt) ≤ (N11 : Int)) → (65 - x5.toInt) < (n : Int) → Ok (f_X7_legalMove_21 self11 n x0 x1 x3 x4 x5 S) (fun o => ZT o.2 ∧ A7 SZ o.2 ∧ True) := by
  intro n
  induction n with
  | zero => intro x0 x1 x3 x4 x5 S hT hR g0 g1 g2 g3 g4 w0 hm; exfalso; omega
  | succ n ih =>
    intro x0 x1 x3 x4 x5 S hT hR g0 g1 g2 g3 g4 w0 hm
    exact t_f_X7_legalMove_21s (N21 := n) hself11 ih hT hR g0 g1 g2 g3 g4 w0 (by omega)
theorem t_f_X7_legalMove_11s {SZ S : ZS} {self11 : Nat → Nat → Int32 → Int32 → ZS → Option (Int32 × ZS)} {N11 : Nat} (hself11 : ∀ (x0 : Nat) (x1 : Nat) (x3 : Int32) (x4 : Int32) (S : ZS), ZT S → A7 SZ S → (zK S x0 = 7) → (zK S x1 = 0) → ((0 : Int) ≤ x3.toInt ∧ x3.toInt ≤ (2147483647 : Int)) → ((0 : Int) ≤ x4.toInt ∧ x4.toInt ≤ (64 : Int)) → (65 - x4.toInt) < (N11 : Int) → Ok (self11 x0 x1 x3 x4 S) (fun o => ZT o.2 ∧ A7 SZ o.2 ∧ True)) {x0 : Nat} {x1 : Nat} {x3 : Int32} {x4 : Int32} (hT : ZT S) (hR : A7 SZ S) (r_x0 : zK S x0 = 7) (r_x1 : zK S x1 = 0) (r_x3 : (0 : Int) ≤ x3.toInt ∧ x3.toInt ≤ (2147483647 : Int)) (r_x4 : (0 : Int) ≤ x4.toInt ∧ x4.toInt ≤ (64 : Int)) (m11 : (65 - x4.toInt) ≤ (N11 : Int)) : Ok (f_X7_legalMove_11s self11 x0 x1 x3 x4 S) (fun o => ZT o.2 ∧ A7 SZ o.2 ∧ True) := by
  unfold f_X7_legalMove_11s
  refine ok_if (fun c15 => ?_) (fun c15 => ?_)
  ·
    replace c15 := ti_leP (a := (64 : Int32)) (b := x4) c15 (show (64 : Int32).toInt = 64 from rfl) rfl
    exact ok_ret ⟨hT, hR, trivial⟩
  ·
    replace c15 := ti_leN (a := (64 : Int32)) (b := x4) c15 (show (64 : Int32).toInt = 64 from rfl) rfl
    exact t_f_X7_legalMove_21 hself11  mFuel x0 x1 x3 x4 (0 : Int32) S hT hR r_x0 r_x1 r_x3 (by omega) (by decide) m11 (by show _ < ((200000 : Nat) : Int); have z0 : (0 : Int32).toInt = 0 := rfl; omega)
theorem t_f_X7_legalMove_11 {SZ : ZS} : ∀ (n : Nat) (x0 : Nat) (x1 : Nat) (x3 : Int32) (x4 : Int32) (S : ZS), ZT S → A7 SZ S → (zK S x0 = 7) → (zK S x1 = 0) → ((0 : Int) ≤ x3.toInt ∧ x3.toInt ≤ (2147483647 : Int)) → ((0 : Int) ≤ x4.toInt ∧ x4.toInt ≤ (64 : Int)) → (65 - x4.toInt) < (n : Int) → Ok (f_X7_legalMove_11  n x0 x1 x3 x4 S) (fun o => ZT o.2 ∧ A7 SZ o.2 ∧ True) := by
  intro n
  induction n with
  | zero => intro x0 x1 x3 x4 S hT hR g0 g1 g2 g3  hm; exfalso; omega
  | succ n ih =>
    intro x0 x1 x3 x4 S hT hR g0 g1 g2 g3  hm
    exact t_f_X7_legalMove_11s (N11 := n)  ih hT hR g0 g1 g2 g3  (by omega)
theorem t_f_X7_legalMove_0 {SZ S : ZS} {x0 : Nat} {x1 : Nat} {x2 : Int32} (hT : ZT S) (hR : A7 SZ S) (r_x0 : zK S x0 = 7) (r_x1 : zK S x1 = 0) : Ok (f_X7_legalMove_0 x0 x1 x2 S) (fun o => ZT o.2 ∧ A7 SZ o.2 ∧ True) := by
  unfold f_X7_legalMove_0
  have hb2 : x2.toInt ≤ 2147483647 := Int32.toInt_le x2
  refine ok_if (fun c16 => ?_) (fun c16 => ?_)
  ·
    replace c16 := ti_leP (a := (0 : Int32)) (b := x2) c16 (show (0 : Int32).toInt = 0 from rfl) rfl
    exact t_f_X7_legalMove_11   mFuel x0 x1 x2 (0 : Int32) S hT hR r_x0 r_x1 (by omega) (by decide) (by show _ < ((200000 : Nat) : Int); have z0 : (0 : Int32).toInt = 0 := rfl; omega)
  ·
    replace c16 := ti_leN (a := (0 : Int32)) (b := x2) c16 (show (0 : Int32).toInt = 0 from rfl) rfl
    exact ok_ret ⟨hT, hR, trivial⟩
theorem t_f_X7_legalMove {SZ S : ZS} {x0 : Nat} {x1 : Nat} {x2 : Int32} (hT : ZT S) (hR : A7 SZ S) (r_x0 : zK S x0 = 7) (r_x1 : zK S x1 = 0) : Ok (f_X7_legalMove x0 x1 x2 S) (fun o => ZT o.2 ∧ A7 SZ o.2 ∧ True) := t_f_X7_legalMove_0 hT hR r_x0 r_x1
theorem t_f_X7_checkSign_62s {SZ S : ZS} {self53 : Nat → Int32 → ZS → Option (Int32 × ZS)} {N53 : Nat} (hself53 : ∀ (x0 : Nat) (x3 : Int32) (S : ZS), ZT S → A7 SZ S → (zK S x0 = 7) → ((0 : Int) ≤ x3.toInt ∧ x3.toInt ≤ (64 : Int)) → (65 - x3.toInt) < (N53 : Int) → Ok (self53 x0 x3 S) (fun o => ZT o.2 ∧ A7 SZ o.2 ∧ ((0 : Int) ≤ o.1.toInt ∧ o.1.toInt ≤ (65535 : Int)))) {self62 : Nat → Int32 → Int32 → ZS → Option (Int32 × ZS)} {N62 : Nat} (hself62 : ∀ (x0 : Nat) (x3 : Int32) (x4 : Int32) (S : ZS), ZT S → A7 SZ S → (zK S x0 = 7) → ((0 : Int) ≤ x3.toInt ∧ x3.toInt ≤ (63 : Int)) → ((0 : Int) ≤ x4.toInt ∧ x4.toInt ≤ (64 : Int)) → ((65 - x3.toInt) ≤ (N53 : Int)) → (65 - x4.toInt) < (N62 : Int) → Ok (self62 x0 x3 x4 S) (fun o => ZT o.2 ∧ A7 SZ o.2 ∧ ((0 : Int) ≤ o.1.toInt ∧ o.1.toInt ≤ (65535 : Int)))) {x0 : Nat} {x3 : Int32} {x4 : Int32} (hT : ZT S) (hR : A7 SZ S) (r_x0 : zK S x0 = 7) (r_x3 : (0 : Int) ≤ x3.toInt ∧ x3.toInt ≤ (63 : Int)) (r_x4 : (0 : Int) ≤ x4.toInt ∧ x4.toInt ≤ (64 : Int)) (m53 : (65 - x3.toInt) ≤ (N53 : Int)) (m62 : (65 - x4.toInt) ≤ (N62 : Int)) : Ok (f_X7_checkSign_62s self53 self62 x0 x3 x4 S) (fun o => ZT o.2 ∧ A7 SZ o.2 ∧ ((0 : Int) ≤ o.1.toInt ∧ o.1.toInt ≤ (65535 : Int))) := by
  unfold f_X7_checkSign_62s
  refine ok_if (fun c17 => ?_) (fun c17 => ?_)
  ·
    replace c17 := ti_leP (a := (64 : Int32)) (b := x4) c17 (show (64 : Int32).toInt = 64 from rfl) rfl
    refine ok_bnd (fun v1 e18 => ?_)
    have t_v1 : v1.toInt = x3.toInt + 1 := ti_add e18 rfl (show (1 : Int32).toInt = 1 from rfl) (by omega) (by omega)
    exact hself53 x0 v1 S hT hR r_x0 (by omega) (by omega)
  ·
    replace c17 := ti_leN (a := (64 : Int32)) (b := x4) c17 (show (64 : Int32).toInt = 64 from rfl) rfl
    refine ok_chk r_x0 ?_
    obtain ⟨b2, p_b2, k_b2⟩ := T_7_1 hT r_x0
    refine ok_calR p_b2 ?_
    refine ok_chk k_b2 ?_
    obtain ⟨r3, h_r3, p_r3⟩ := roz (t_f_X0_reaches (x0 := b2) (x1 := x3) (x2 := x4) hT k_b2 r_x3 (by omega))
    dsimp only at p_r3
    refine ok_calR h_r3 ?_
    refine ok_if (fun c19 => ?_) (fun c19 => ?_)
    ·
      replace c19 := ti_eqP (a := r3) (b := (0 : Int32)) c19 rfl (show (0 : Int32).toInt = 0 from rfl)
      unfold f_X7_checkSign_103
      refine ok_bnd (fun v1 e20 => ?_)
      have t_v1 : v1.toInt = x4.toInt + 1 := ti_add e20 rfl (show (1 : Int32).toInt = 1 from rfl) (by omega) (by omega)
      exact hself62 x0 x3 v1 S hT hR r_x0 r_x3 (by omega) m53 (by omega)
    ·
      replace c19 := ti_eqN (a := r3) (b := (0 : Int32)) c19 rfl (show (0 : Int32).toInt = 0 from rfl)
      refine ok_chk r_x0 ?_
      obtain ⟨b4, p_b4, k_b4⟩ := T_7_1 hT r_x0
      refine ok_calR p_b4 ?_
      refine ok_bnd (fun v5 e21 => ?_)
      have t_v5 : v5.toInt = 64 * x4.toInt := ti_mul e21 (show (64 : Int32).toInt = 64 from rfl) rfl (by omega) (by omega)
      refine ok_bnd (fun v6 e22 => ?_)
      have t_v6 : v6.toInt = x3.toInt + v5.toInt := ti_add e22 rfl rfl (by omega) (by omega)
      refine ok_chk r_x0 ?_
      obtain ⟨⟨r7, S7⟩, h_r7, T_S7, A_S7, p_r7⟩ := t_f_X7_isSafe (x0 := x0) (x1 := b4) (x2 := v6) (SZ := S) hT (a7_0 S) r_x0 k_b4
      replace T_S7 : ZT S7 := T_S7
      replace A_S7 : A7 S S7 := A_S7
      dsimp only at p_r7
      refine ok_calR h_r7 ?_
      have q_S7 := fq_X7_isSafe h_r7
      have kE_S7 : zK S7 = zK S := q_S7.2.2.1
      have nE_S7 : zN S7 = zN S := q_S7.2.2.2.1
      have R_S7 : A7 SZ S7 := a7_t hR A_S7
      refine ok_if (fun c23 => ?_) (fun c23 => ?_)
      ·
        replace c23 := ti_eqP (a := r7) (b := (0 : Int32)) c23 rfl (show (0 : Int32).toInt = 0 from rfl)
        unfold f_X7_checkSign_103
        refine ok_bnd (fun v1 e24 => ?_)
        have t_v1 : v1.toInt = x4.toInt + 1 := ti_add e24 rfl (show (1 : Int32).toInt = 1 from rfl) (by omega) (by omega)
        exact hself62 x0 x3 v1 S7 T_S7 R_S7 ((congrFun kE_S7 x0).trans r_x0) r_x3 (by omega) m53 (by omega)
      ·
        replace c23 := ti_eqN (a := r7) (b := (0 : Int32)) c23 rfl (show (0 : Int32).toInt = 0 from rfl)
        refine ok_chk (by decide) ?_
        exact ok_ret ⟨T_S7, R_S7, (show (0 : Int) ≤ (43 : Int32).toInt ∧ (43 : Int32).toInt ≤ (65535 : Int) from (by decide))⟩
theorem t_f_X7_checkSign_62 {SZ : ZS} {self53 : Nat → Int32 → ZS → Option (Int32 × ZS)} {N53 : Nat} (hself53 : ∀ (x0 : Nat) (x3 : Int32) (S : ZS), ZT S → A7 SZ S → (zK S x0 = 7) → ((0 : Int) ≤ x3.toInt ∧ x3.toInt ≤ (64 : Int)) → (65 - x3.toInt) < (N53 : Int) → Ok (self53 x0 x3 S) (fun o => ZT o.2 ∧ A7 SZ o.2 ∧ ((0 : Int) ≤ o.1.toInt ∧ o.1.toInt ≤ (65535 : Int)))) : ∀ (n : Nat) (x0 : Nat) (x3 : Int32) (x4 : Int32) (S : ZS), ZT S → A7 SZ S → (zK S x0 = 7) → ((0 : Int) ≤ x3.toInt ∧ x3.toInt ≤ (63 : Int)) → ((0 : Int) ≤ x4.toInt ∧ x4.toInt ≤ (64 : Int)) → ((65 - x3.toInt) ≤ (N53 : Int)) → (65 - x4.toInt) < (n : Int) → Ok (f_X7_checkSign_62 self53 n x0 x3 x4 S) (fun o => ZT o.2 ∧ A7 SZ o.2 ∧ ((0 : Int) ≤ o.1.toInt ∧ o.1.toInt ≤ (65535 : Int))) := by
  intro n
  induction n with
  | zero => intro x0 x3 x4 S hT hR g0 g1 g2 w0 hm; exfalso; omega
  | succ n ih =>
    intro x0 x3 x4 S hT hR g0 g1 g2 w0 hm
    exact t_f_X7_checkSign_62s (N62 := n) hself53 ih hT hR g0 g1 g2 w0 (by omega)
theorem t_f_X7_checkSign_53s {SZ S : ZS} {self53 : Nat → Int32 → ZS → Option (Int32 × ZS)} {N53 : Nat} (hself53 : ∀ (x0 : Nat) (x3 : Int32) (S : ZS), ZT S → A7 SZ S → (zK S x0 = 7) → ((0 : Int) ≤ x3.toInt ∧ x3.toInt ≤ (64 : Int)) → (65 - x3.toInt) < (N53 : Int) → Ok (self53 x0 x3 S) (fun o => ZT o.2 ∧ A7 SZ o.2 ∧ ((0 : Int) ≤ o.1.toInt ∧ o.1.toInt ≤ (65535 : Int)))) {x0 : Nat} {x3 : Int32} (hT : ZT S) (hR : A7 SZ S) (r_x0 : zK S x0 = 7) (r_x3 : (0 : Int) ≤ x3.toInt ∧ x3.toInt ≤ (64 : Int)) (m53 : (65 - x3.toInt) ≤ (N53 : Int)) : Ok (f_X7_checkSign_53s self53 x0 x3 S) (fun o => ZT o.2 ∧ A7 SZ o.2 ∧ ((0 : Int) ≤ o.1.toInt ∧ o.1.toInt ≤ (65535 : Int))) := by
  unfold f_X7_checkSign_53s
  refine ok_if (fun c25 => ?_) (fun c25 => ?_)
  ·
    replace c25 := ti_leP (a := (64 : Int32)) (b := x3) c25 (show (64 : Int32).toInt = 64 from rfl) rfl
    refine ok_chk (by decide) ?_
    exact ok_ret ⟨hT, hR, (show (0 : Int) ≤ (35 : Int32).toInt ∧ (35 : Int32).toInt ≤ (65535 : Int) from (by decide))⟩
  ·
    replace c25 := ti_leN (a := (64 : Int32)) (b := x3) c25 (show (64 : Int32).toInt = 64 from rfl) rfl
    exact t_f_X7_checkSign_62 hself53  mFuel x0 x3 (0 : Int32) S hT hR r_x0 (by omega) (by decide) m53 (by show _ < ((200000 : Nat) : Int); have z0 : (0 : Int32).toInt = 0 := rfl; omega)
theorem t_f_X7_checkSign_53 {SZ : ZS} : ∀ (n : Nat) (x0 : Nat) (x3 : Int32) (S : ZS), ZT S → A7 SZ S → (zK S x0 = 7) → ((0 : Int) ≤ x3.toInt ∧ x3.toInt ≤ (64 : Int)) → (65 - x3.toInt) < (n : Int) → Ok (f_X7_checkSign_53  n x0 x3 S) (fun o => ZT o.2 ∧ A7 SZ o.2 ∧ ((0 : Int) ≤ o.1.toInt ∧ o.1.toInt ≤ (65535 : Int))) := by
  intro n
  induction n with
  | zero => intro x0 x3 S hT hR g0 g1  hm; exfalso; omega
  | succ n ih =>
    intro x0 x3 S hT hR g0 g1  hm
    exact t_f_X7_checkSign_53s (N53 := n)  ih hT hR g0 g1  (by omega)
theorem t_f_X7_checkSign_0 {SZ S : ZS} {x0 : Nat} {x1 : Nat} {x2 : Int32} (hT : ZT S) (hR : A7 SZ S) (r_x0 : zK S x0 = 7) (r_x1 : zK S x1 = 0) : Ok (f_X7_checkSign_0 x0 x1 x2 S) (fun o => ZT o.2 ∧ A7 SZ o.2 ∧ ((0 : Int) ≤ o.1.toInt ∧ o.1.toInt ≤ (65535 : Int))) := by
  unfold f_X7_checkSign_0
  refine ok_chk r_x0 ?_
  obtain ⟨b1, p_b1, k_b1⟩ := T_7_1 hT r_x0
  refine ok_calR p_b1 ?_
  refine ok_chk k_b1 ?_
  obtain ⟨⟨r2, S2⟩, h_r2, T_S2, A_S2, -⟩ := t_f_X0_copyFrom (x0 := b1) (x1 := x1) (SZ := S) hT (a7_0 S) k_b1 r_x1
  replace T_S2 : ZT S2 := T_S2
  replace A_S2 : A7 S S2 := A_S2
  refine ok_calR h_r2 ?_
  have q_S2 := fq_X0_copyFrom h_r2
  have kE_S2 : zK S2 = zK S := q_S2.2.2.1
  have nE_S2 : zN S2 = zN S := q_S2.2.2.2.1
  have R_S2 : A7 SZ S2 := a7_t hR A_S2
  refine ok_chk ((congrFun kE_S2 x0).trans r_x0) ?_
  obtain ⟨b3, p_b3, k_b3⟩ := T_7_1 T_S2 ((congrFun kE_S2 x0).trans r_x0)
  refine ok_calR p_b3 ?_
  refine ok_chk k_b3 ?_
  obtain ⟨⟨r4, S4⟩, h_r4, T_S4, A_S4, -⟩ := t_f_X0_play (x0 := b3) (x1 := x2) (SZ := S2) T_S2 (a7_0 S2) k_b3
  replace T_S4 : ZT S4 := T_S4
  replace A_S4 : A7 S2 S4 := A_S4
  refine ok_calR h_r4 ?_
  have q_S4 := fq_X0_play h_r4
  have kE_S4 : zK S4 = zK S2 := q_S4.2.2.1
  have nE_S4 : zN S4 = zN S2 := q_S4.2.2.2.1
  have R_S4 : A7 SZ S4 := a7_t R_S2 A_S4
  refine ok_chk ((congrFun kE_S4 x0).trans ((congrFun kE_S2 x0).trans r_x0)) ?_
  obtain ⟨b5, p_b5, k_b5⟩ := T_7_1 T_S4 ((congrFun kE_S4 x0).trans ((congrFun kE_S2 x0).trans r_x0))
  refine ok_calR p_b5 ?_
  refine ok_chk ((congrFun kE_S4 x0).trans ((congrFun kE_S2 x0).trans r_x0)) ?_
  obtain ⟨b6, p_b6, k_b6⟩ := T_7_1 T_S4 ((congrFun kE_S4 x0).trans ((congrFun kE_S2 x0).trans r_x0))
  refine ok_calR p_b6 ?_
  refine ok_chk ((congrFun kE_S4 x0).trans ((congrFun kE_S2 x0).trans r_x0)) ?_
  obtain ⟨b7, p_b7, k_b7⟩ := T_7_1 T_S4 ((congrFun kE_S4 x0).trans ((congrFun kE_S2 x0).trans r_x0))
  refine ok_calR p_b7 ?_
  refine ok_chk k_b7 ?_
  refine ok_chk k_b6 ?_
  obtain ⟨r8, h_r8, p_r8⟩ := roz (t_f_X0_kingOf (x0 := b6) (x1 := (zI S4 3 b7)) T_S4 k_b6)
  dsimp only at p_r8
  refine ok_calR h_r8 ?_
  refine ok_chk ((congrFun kE_S4 x0).trans ((congrFun kE_S2 x0).trans r_x0)) ?_
  obtain ⟨b9, p_b9, k_b9⟩ := T_7_1 T_S4 ((congrFun kE_S4 x0).trans ((congrFun kE_S2 x0).trans r_x0))
  refine ok_calR p_b9 ?_
  refine ok_chk k_b9 ?_
  refine ok_bnd (fun v10 e26 => ?_)
  have j27 := J_0_3 T_S4 k_b9
  have t_v10 : v10.toInt = 1 - (zI S4 3 b9).toInt := ti_sub e26 (show (1 : Int32).toInt = 1 from rfl) rfl (by omega) (by omega)
  refine ok_chk k_b5 ?_
  obtain ⟨r11, h_r11, p_r11⟩ := roz (t_f_X0_attacked (x0 := b5) (x1 := r8) (x2 := v10) T_S4 k_b5 (by omega))
  dsimp only at p_r11
  refine ok_calR h_r11 ?_
  refine ok_if (fun c28 => ?_) (fun c28 => ?_)
  ·
    replace c28 := ti_eqP (a := r11) (b := (0 : Int32)) c28 rfl (show (0 : Int32).toInt = 0 from rfl)
    refine ok_chk (by decide) ?_
    exact ok_ret ⟨T_S4, R_S4, (show (0 : Int) ≤ (0 : Int32).toInt ∧ (0 : Int32).toInt ≤ (65535 : Int) from (by decide))⟩
  ·
    replace c28 := ti_eqN (a := r11) (b := (0 : Int32)) c28 rfl (show (0 : Int32).toInt = 0 from rfl)
    exact t_f_X7_checkSign_53   mFuel x0 (0 : Int32) S4 T_S4 R_S4 ((congrFun kE_S4 x0).trans ((congrFun kE_S2 x0).trans r_x0)) (by decide) (by show _ < ((200000 : Nat) : Int); have z0 : (0 : Int32).toInt = 0 := rfl; omega)
theorem t_f_X7_checkSign {SZ S : ZS} {x0 : Nat} {x1 : Nat} {x2 : Int32} (hT : ZT S) (hR : A7 SZ S) (r_x0 : zK S x0 = 7) (r_x1 : zK S x1 = 0) : Ok (f_X7_checkSign x0 x1 x2 S) (fun o => ZT o.2 ∧ A7 SZ o.2 ∧ ((0 : Int) ≤ o.1.toInt ∧ o.1.toInt ≤ (65535 : Int))) := t_f_X7_checkSign_0 hT hR r_x0 r_x1
theorem t_f_X6_at_0 {S : ZS} {x0 : Nat} {x1 : Int32} (hT : ZT S) (r_x0 : zK S x0 = 6) : Ok (f_X6_at_0 x0 x1 S) (fun o => o.2 = S ∧ ((0 : Int) ≤ o.1.toInt ∧ o.1.toInt ≤ (65535 : Int)) ∧ ((0 < o.1.toInt → 0 ≤ x1.toInt ∧ x1.toInt < (zI S 1 x0).toInt))) := by
  unfold f_X6_at_0
  refine ok_if (fun c29 => ?_) (fun c29 => ?_)
  ·
    replace c29 := ti_ltP (a := x1) (b := (0 : Int32)) c29 rfl (show (0 : Int32).toInt = 0 from rfl)
    unfold f_X6_at_21
    unfold f_X6_at_22
    refine ok_chk (by decide) ?_
    exact ok_ret ⟨rfl, (show (0 : Int) ≤ (0 : Int32).toInt ∧ (0 : Int32).toInt ≤ (65535 : Int) from (by decide)), (by show (0 < (0 : Int32).toInt → 0 ≤ x1.toInt ∧ x1.toInt < (zI S 1 x0).toInt); have z : (0 : Int32).toInt = 0 := rfl; omega)⟩
  ·
    replace c29 := ti_ltN (a := x1) (b := (0 : Int32)) c29 rfl (show (0 : Int32).toInt = 0 from rfl)
    refine ok_chk r_x0 ?_
    have j30 := J_6_1 hT r_x0
    refine ok_if (fun c31 => ?_) (fun c31 => ?_)
    ·
      replace c31 := ti_leP (a := (zI S 1 x0)) (b := x1) c31 rfl rfl
      unfold f_X6_at_21
      unfold f_X6_at_22
      refine ok_chk (by decide) ?_
      exact ok_ret ⟨rfl, (show (0 : Int) ≤ (0 : Int32).toInt ∧ (0 : Int32).toInt ≤ (65535 : Int) from (by decide)), (by show (0 < (0 : Int32).toInt → 0 ≤ x1.toInt ∧ x1.toInt < (zI S 1 x0).toInt); have z : (0 : Int32).toInt = 0 := rfl; omega)⟩
    ·
      replace c31 := ti_leN (a := (zI S 1 x0)) (b := x1) c31 rfl rfl
      refine ok_chk r_x0 ?_
      obtain ⟨b1, p_b1, d_b1, l0_b1, l1_b1, l2_b1, l3_b1⟩ := hT.2.1 x0 r_x0
      have z_b1 := row_nz d_b1 l1_b1 (by omega)
      refine ok_calR p_b1 ?_
      refine ok_chk z_b1.1 ?_
      refine ok_chk (ti_inR (v := x1) z_b1.2 (by omega) (by omega)) ?_
      refine ok_bnd (fun v2 e32 => ?_)
      have t_v2 : (0 : Int) ≤ v2.toInt ∧ v2.toInt ≤ (65535 : Int) := by rw [e32]; exact hT.2.2.2.2.2.2.1 b1 z_b1.1 _
      unfold f_X6_at_22
      refine ok_chk (nar_c (v := v2) (by omega) (by omega)) ?_
      exact ok_ret ⟨rfl, (show (0 : Int) ≤ v2.toInt ∧ v2.toInt ≤ (65535 : Int) from (by omega)), (by show (0 < v2.toInt → 0 ≤ x1.toInt ∧ x1.toInt < (zI S 1 x0).toInt); omega)⟩
theorem t_f_X6_at {S : ZS} {x0 : Nat} {x1 : Int32} (hT : ZT S) (r_x0 : zK S x0 = 6) : Ok (f_X6_at x0 x1 S) (fun o => o.2 = S ∧ ((0 : Int) ≤ o.1.toInt ∧ o.1.toInt ≤ (65535 : Int)) ∧ ((0 < o.1.toInt → 0 ≤ x1.toInt ∧ x1.toInt < (zI S 1 x0).toInt))) := t_f_X6_at_0 hT r_x0
theorem t_f_X6_indexOf_6s {S : ZS} {self6 : Nat → Int32 → Int32 → ZS → Option (Int32 × ZS)} {N6 : Nat} (hself6 : ∀ (x0 : Nat) (x1 : Int32) (x3 : Int32),  (zK S x0 = 6) → ((0 : Int) ≤ x3.toInt ∧ x3.toInt ≤ (90000 : Int)) → (90001 - x3.toInt) < (N6 : Int) → Ok (self6 x0 x1 x3 S) (fun o => o.2 = S ∧ ((0 : Int) ≤ o.1.toInt ∧ o.1.toInt ≤ (90000 : Int)))) {x0 : Nat} {x1 : Int32} {x3 : Int32} (hT : ZT S) (r_x0 : zK S x0 = 6) (r_x3 : (0 : Int) ≤ x3.toInt ∧ x3.toInt ≤ (90000 : Int)) (m6 : (90001 - x3.toInt) ≤ (N6 : Int)) : Ok (f_X6_indexOf_6s self6 x0 x1 x3 S) (fun o => o.2 = S ∧ ((0 : Int) ≤ o.1.toInt ∧ o.1.toInt ≤ (90000 : Int))) := by
  unfold f_X6_indexOf_6s
  refine ok_chk r_x0 ?_
  have j33 := J_6_1 hT r_x0
  refine ok_if (fun c34 => ?_) (fun c34 => ?_)
  ·
    replace c34 := ti_leP (a := (zI S 1 x0)) (b := x3) c34 rfl rfl
    unfold f_X6_indexOf_30
    exact ok_ret ⟨rfl, (show (0 : Int) ≤ x3.toInt ∧ x3.toInt ≤ (90000 : Int) from (by omega))⟩
  ·
    replace c34 := ti_leN (a := (zI S 1 x0)) (b := x3) c34 rfl rfl
    refine ok_chk r_x0 ?_
    obtain ⟨b1, p_b1, d_b1, l0_b1, l1_b1, l2_b1, l3_b1⟩ := hT.2.1 x0 r_x0
    have z_b1 := row_nz d_b1 l1_b1 (by omega)
    refine ok_calR p_b1 ?_
    refine ok_chk z_b1.1 ?_
    refine ok_chk (ti_inR (v := x3) z_b1.2 (by omega) (by omega)) ?_
    refine ok_bnd (fun v2 e35 => ?_)
    have t_v2 : (0 : Int) ≤ v2.toInt ∧ v2.toInt ≤ (65535 : Int) := by rw [e35]; exact hT.2.2.2.2.2.2.1 b1 z_b1.1 _
    refine ok_if (fun c36 => ?_) (fun c36 => ?_)
    ·
      replace c36 := ti_eqP (a := v2) (b := x1) c36 rfl rfl
      unfold f_X6_indexOf_30
      exact ok_ret ⟨rfl, (show (0 : Int) ≤ x3.toInt ∧ x3.toInt ≤ (90000 : Int) from (by omega))⟩
    ·
      replace c36 := ti_eqN (a := v2) (b := x1) c36 rfl rfl
      refine ok_bnd (fun v3 e37 => ?_)
      have t_v3 : v3.toInt = x3.toInt + 1 := ti_add e37 rfl (show (1 : Int32).toInt = 1 from rfl) (by omega) (by omega)
      exact hself6 x0 x1 v3  r_x0 (by omega) (by omega)
theorem t_f_X6_indexOf_6 {S : ZS} (hT : ZT S) : ∀ (n : Nat) (x0 : Nat) (x1 : Int32) (x3 : Int32),  (zK S x0 = 6) → ((0 : Int) ≤ x3.toInt ∧ x3.toInt ≤ (90000 : Int)) → (90001 - x3.toInt) < (n : Int) → Ok (f_X6_indexOf_6  n x0 x1 x3 S) (fun o => o.2 = S ∧ ((0 : Int) ≤ o.1.toInt ∧ o.1.toInt ≤ (90000 : Int))) := by
  intro n
  induction n with
  | zero => intro x0 x1 x3 g0 g1  hm; exfalso; omega
  | succ n ih =>
    intro x0 x1 x3 g0 g1  hm
    exact t_f_X6_indexOf_6s (N6 := n)  ih hT g0 g1  (by omega)
theorem t_f_X6_indexOf_0 {S : ZS} {x0 : Nat} {x1 : Int32} {x2 : Int32} (hT : ZT S) (r_x0 : zK S x0 = 6) (q0 : x2.toInt ≤ 90000) : Ok (f_X6_indexOf_0 x0 x1 x2 S) (fun o => o.2 = S ∧ ((0 : Int) ≤ o.1.toInt ∧ o.1.toInt ≤ (90000 : Int))) := by
  unfold f_X6_indexOf_0
  refine ok_bnd (fun v1 e38 => ?_)
  have t_v1 := ite_b (a := x2) (b := (0 : Int32)) (c := (0 : Int32)) (d := x2) e38 rfl (show (0 : Int32).toInt = 0 from rfl) (show (0 : Int32).toInt = 0 from rfl) rfl
  exact t_f_X6_indexOf_6  hT mFuel x0 x1 v1  r_x0 (by omega) (by show _ < ((200000 : Nat) : Int); omega)
theorem t_f_X6_indexOf {S : ZS} {x0 : Nat} {x1 : Int32} {x2 : Int32} (hT : ZT S) (r_x0 : zK S x0 = 6) (q0 : x2.toInt ≤ 90000) : Ok (f_X6_indexOf x0 x1 x2 S) (fun o => o.2 = S ∧ ((0 : Int) ≤ o.1.toInt ∧ o.1.toInt ≤ (90000 : Int))) := t_f_X6_indexOf_0 hT r_x0 q0
theorem t_f_X6_holds_21s {S : ZS} {self21 : Nat → Nat → Int32 → Int32 → ZS → Option (Int32 × ZS)} {N21 : Nat} (hself21 : ∀ (x0 : Nat) (x1 : Nat) (x2 : Int32) (x3 : Int32),  (zK S x0 = 6) → (x1 < 29) → ((-2147483648 : Int) ≤ x2.toInt ∧ x2.toInt ≤ (90100 : Int)) → ((0 : Int) ≤ x3.toInt ∧ x3.toInt ≤ (30 : Int)) → (0 ≤ x2.toInt) → (x2.toInt + ((zSl.getD x1 0 : Nat) : Int) ≤ (zI S 1 x0).toInt) → (31 - x3.toInt) < (N21 : Int) → Ok (self21 x0 x1 x2 x3 S) (fun o => o.2 = S ∧ ((0 : Int) ≤ o.1.toInt ∧ o.1.toInt ≤ (1 : Int)))) {x0 : Nat} {x1 : Nat} {x2 : Int32} {x3 : Int32} (hT : ZT S) (r_x0 : zK S x0 = 6) (r_x1 : x1 < 29) (r_x2 : (-2147483648 : Int) ≤ x2.toInt ∧ x2.toInt ≤ (90100 : Int)) (r_x3 : (0 : Int) ≤ x3.toInt ∧ x3.toInt ≤ (30 : Int)) (q0 : 0 ≤ x2.toInt) (q1 : x2.toInt + ((zSl.getD x1 0 : Nat) : Int) ≤ (zI S 1 x0).toInt) (m21 : (31 - x3.toInt) ≤ (N21 : Int)) : Ok (f_X6_holds_21s self21 x0 x1 x2 x3 S) (fun o => o.2 = S ∧ ((0 : Int) ≤ o.1.toInt ∧ o.1.toInt ≤ (1 : Int))) := by
  unfold f_X6_holds_21s
  have hz := zSl_le x1
  refine ok_chk (show x1 < zSn from r_x1) ?_
  obtain ⟨r1, h_r1, p_r1⟩ := roz (t_f_J0_length_8abf5 (x0 := x1) hT r_x1)
  dsimp only at p_r1
  refine ok_calR h_r1 ?_
  refine ok_if (fun c39 => ?_) (fun c39 => ?_)
  ·
    replace c39 := ti_leP (a := r1) (b := x3) c39 rfl rfl
    refine ok_chk (by decide) ?_
    exact ok_ret ⟨rfl, (show (0 : Int) ≤ (1 : Int32).toInt ∧ (1 : Int32).toInt ≤ (1 : Int) from (by decide))⟩
  ·
    replace c39 := ti_leN (a := r1) (b := x3) c39 rfl rfl
    refine ok_chk r_x0 ?_
    obtain ⟨b2, p_b2, d_b2, l0_b2, l1_b2, l2_b2, l3_b2⟩ := hT.2.1 x0 r_x0
    have j40 := J_6_1 hT r_x0
    have z_b2 := row_nz d_b2 l1_b2 (by omega)
    refine ok_calR p_b2 ?_
    refine ok_bnd (fun v3 e41 => ?_)
    have t_v3 : v3.toInt = x2.toInt + x3.toInt := ti_add e41 rfl rfl (by omega) (by omega)
    refine ok_chk z_b2.1 ?_
    refine ok_chk (ti_inR (v := v3) z_b2.2 (by omega) (by omega)) ?_
    refine ok_bnd (fun v4 e42 => ?_)
    have t_v4 : (0 : Int) ≤ v4.toInt ∧ v4.toInt ≤ (65535 : Int) := by rw [e42]; exact hT.2.2.2.2.2.2.1 b2 z_b2.1 _
    refine ok_chk (show x1 < zSn from r_x1) ?_
    obtain ⟨r5, h_r5, p_r5⟩ := roz (t_f_J0_charAt_5068e (x0 := x1) (x1 := x3) hT r_x1 (by omega))
    dsimp only at p_r5
    refine ok_calR h_r5 ?_
    refine ok_if (fun c43 => ?_) (fun c43 => ?_)
    ·
      replace c43 := ti_eqP (a := v4) (b := r5) c43 rfl rfl
      refine ok_bnd (fun v6 e44 => ?_)
      have t_v6 : v6.toInt = x3.toInt + 1 := ti_add e44 rfl (show (1 : Int32).toInt = 1 from rfl) (by omega) (by omega)
      exact hself21 x0 x1 x2 v6  r_x0 r_x1 r_x2 (by omega) q0 q1 (by omega)
    ·
      replace c43 := ti_eqN (a := v4) (b := r5) c43 rfl rfl
      refine ok_chk (by decide) ?_
      exact ok_ret ⟨rfl, (show (0 : Int) ≤ (0 : Int32).toInt ∧ (0 : Int32).toInt ≤ (1 : Int) from (by decide))⟩
theorem t_f_X6_holds_21 {S : ZS} (hT : ZT S) : ∀ (n : Nat) (x0 : Nat) (x1 : Nat) (x2 : Int32) (x3 : Int32),  (zK S x0 = 6) → (x1 < 29) → ((-2147483648 : Int) ≤ x2.toInt ∧ x2.toInt ≤ (90100 : Int)) → ((0 : Int) ≤ x3.toInt ∧ x3.toInt ≤ (30 : Int)) → (0 ≤ x2.toInt) → (x2.toInt + ((zSl.getD x1 0 : Nat) : Int) ≤ (zI S 1 x0).toInt) → (31 - x3.toInt) < (n : Int) → Ok (f_X6_holds_21  n x0 x1 x2 x3 S) (fun o => o.2 = S ∧ ((0 : Int) ≤ o.1.toInt ∧ o.1.toInt ≤ (1 : Int))) := by
  intro n
  induction n with
  | zero => intro x0 x1 x2 x3 g0 g1 g2 g3 g4 g5  hm; exfalso; omega
  | succ n ih =>
    intro x0 x1 x2 x3 g0 g1 g2 g3 g4 g5  hm
    exact t_f_X6_holds_21s (N21 := n)  ih hT g0 g1 g2 g3 g4 g5  (by omega)
theorem t_f_X6_holds_0 {S : ZS} {x0 : Nat} {x1 : Nat} {x2 : Int32} (hT : ZT S) (r_x0 : zK S x0 = 6) (r_x1 : x1 < 29) (r_x2 : (-2147483648 : Int) ≤ x2.toInt ∧ x2.toInt ≤ (90100 : Int)) : Ok (f_X6_holds_0 x0 x1 x2 S) (fun o => o.2 = S ∧ ((0 : Int) ≤ o.1.toInt ∧ o.1.toInt ≤ (1 : Int))) := by
  unfold f_X6_holds_0
  refine ok_if (fun c45 => ?_) (fun c45 => ?_)
  ·
    replace c45 := ti_ltP (a := x2) (b := (0 : Int32)) c45 rfl (show (0 : Int32).toInt = 0 from rfl)
    unfold f_X6_holds_17
    refine ok_chk (by decide) ?_
    exact ok_ret ⟨rfl, (show (0 : Int) ≤ (0 : Int32).toInt ∧ (0 : Int32).toInt ≤ (1 : Int) from (by decide))⟩
  ·
    replace c45 := ti_ltN (a := x2) (b := (0 : Int32)) c45 rfl (show (0 : Int32).toInt = 0 from rfl)
    refine ok_chk (show x1 < zSn from r_x1) ?_
    obtain ⟨r1, h_r1, p_r1⟩ := roz (t_f_J0_length_8abf5 (x0 := x1) hT r_x1)
    dsimp only at p_r1
    refine ok_calR h_r1 ?_
    refine ok_bnd (fun v2 e46 => ?_)
    have t_v2 : v2.toInt = x2.toInt + r1.toInt := ti_add e46 rfl rfl (by omega) (by omega)
    refine ok_chk r_x0 ?_
    have j47 := J_6_1 hT r_x0
    refine ok_if (fun c48 => ?_) (fun c48 => ?_)
    ·
      replace c48 := ti_leP (a := v2) (b := (zI S 1 x0)) c48 rfl rfl
      exact t_f_X6_holds_21  hT mFuel x0 x1 x2 (0 : Int32)  r_x0 r_x1 r_x2 (by decide) (by have z0 : (0 : Int32).toInt = 0 := rfl; omega) (by have z0 : (0 : Int32).toInt = 0 := rfl; omega) (by show _ < ((200000 : Nat) : Int); have z0 : (0 : Int32).toInt = 0 := rfl; omega)
    ·
      replace c48 := ti_leN (a := v2) (b := (zI S 1 x0)) c48 rfl rfl
      unfold f_X6_holds_17
      refine ok_chk (by decide) ?_
      exact ok_ret ⟨rfl, (show (0 : Int) ≤ (0 : Int32).toInt ∧ (0 : Int32).toInt ≤ (1 : Int) from (by decide))⟩
theorem t_f_X6_holds {S : ZS} {x0 : Nat} {x1 : Nat} {x2 : Int32} (hT : ZT S) (r_x0 : zK S x0 = 6) (r_x1 : x1 < 29) (r_x2 : (-2147483648 : Int) ≤ x2.toInt ∧ x2.toInt ≤ (90100 : Int)) : Ok (f_X6_holds x0 x1 x2 S) (fun o => o.2 = S ∧ ((0 : Int) ≤ o.1.toInt ∧ o.1.toInt ≤ (1 : Int))) := t_f_X6_holds_0 hT r_x0 r_x1 r_x2
theorem t_f_X6_is_0 {S : ZS} {x0 : Nat} {x1 : Nat} (hT : ZT S) (r_x0 : zK S x0 = 6) (r_x1 : x1 < 29) : Ok (f_X6_is_0 x0 x1 S) (fun o => o.2 = S ∧ ((0 : Int) ≤ o.1.toInt ∧ o.1.toInt ≤ (1 : Int))) := by
  unfold f_X6_is_0
  refine ok_chk r_x0 ?_
  refine ok_chk (show x1 < zSn from r_x1) ?_
  obtain ⟨r1, h_r1, p_r1⟩ := roz (t_f_J0_length_8abf5 (x0 := x1) hT r_x1)
  dsimp only at p_r1
  refine ok_calR h_r1 ?_
  have j49 := J_6_1 hT r_x0
  refine ok_if (fun c50 => ?_) (fun c50 => ?_)
  ·
    replace c50 := ti_eqP (a := (zI S 1 x0)) (b := r1) c50 rfl rfl
    refine ok_chk r_x0 ?_
    obtain ⟨r2, h_r2, p_r2⟩ := roz (t_f_X6_holds (x0 := x0) (x1 := x1) (x2 := (0 : Int32)) hT r_x0 r_x1 (by decide))
    dsimp only at p_r2
    refine ok_calR h_r2 ?_
    refine ok_if (fun c51 => ?_) (fun c51 => ?_)
    ·
      replace c51 := ti_eqP (a := r2) (b := (0 : Int32)) c51 rfl (show (0 : Int32).toInt = 0 from rfl)
      unfold f_X6_is_24
      unfold f_X6_is_25
      refine ok_chk (by decide) ?_
      exact ok_ret ⟨rfl, (show (0 : Int) ≤ (0 : Int32).toInt ∧ (0 : Int32).toInt ≤ (1 : Int) from (by decide))⟩
    ·
      replace c51 := ti_eqN (a := r2) (b := (0 : Int32)) c51 rfl (show (0 : Int32).toInt = 0 from rfl)
      unfold f_X6_is_25
      refine ok_chk (by decide) ?_
      exact ok_ret ⟨rfl, (show (0 : Int) ≤ (1 : Int32).toInt ∧ (1 : Int32).toInt ≤ (1 : Int) from (by decide))⟩
  ·
    replace c50 := ti_eqN (a := (zI S 1 x0)) (b := r1) c50 rfl rfl
    unfold f_X6_is_24
    unfold f_X6_is_25
    refine ok_chk (by decide) ?_
    exact ok_ret ⟨rfl, (show (0 : Int) ≤ (0 : Int32).toInt ∧ (0 : Int32).toInt ≤ (1 : Int) from (by decide))⟩
theorem t_f_X6_is {S : ZS} {x0 : Nat} {x1 : Nat} (hT : ZT S) (r_x0 : zK S x0 = 6) (r_x1 : x1 < 29) : Ok (f_X6_is x0 x1 S) (fun o => o.2 = S ∧ ((0 : Int) ≤ o.1.toInt ∧ o.1.toInt ≤ (1 : Int))) := t_f_X6_is_0 hT r_x0 r_x1
theorem t_f_X6_isLike_15s {S : ZS} {self15 : Nat → Nat → Int32 → ZS → Option (Int32 × ZS)} {N15 : Nat} (hself15 : ∀ (x0 : Nat) (x1 : Nat) (x2 : Int32),  (zK S x0 = 6) → (zK S x1 = 6) → ((0 : Int) ≤ x2.toInt ∧ x2.toInt ≤ (90000 : Int)) → (90001 - x2.toInt) < (N15 : Int) → Ok (self15 x0 x1 x2 S) (fun o => o.2 = S ∧ ((0 : Int) ≤ o.1.toInt ∧ o.1.toInt ≤ (1 : Int)))) {x0 : Nat} {x1 : Nat} {x2 : Int32} (hT : ZT S) (r_x0 : zK S x0 = 6) (r_x1 : zK S x1 = 6) (r_x2 : (0 : Int) ≤ x2.toInt ∧ x2.toInt ≤ (90000 : Int)) (m15 : (90001 - x2.toInt) ≤ (N15 : Int)) : Ok (f_X6_isLike_15s self15 x0 x1 x2 S) (fun o => o.2 = S ∧ ((0 : Int) ≤ o.1.toInt ∧ o.1.toInt ≤ (1 : Int))) := by
  unfold f_X6_isLike_15s
  refine ok_chk r_x0 ?_
  have j52 := J_6_1 hT r_x0
  refine ok_if (fun c53 => ?_) (fun c53 => ?_)
  ·
    replace c53 := ti_leP (a := (zI S 1 x0)) (b := x2) c53 rfl rfl
    refine ok_chk (by decide) ?_
    exact ok_ret ⟨rfl, (show (0 : Int) ≤ (1 : Int32).toInt ∧ (1 : Int32).toInt ≤ (1 : Int) from (by decide))⟩
  ·
    replace c53 := ti_leN (a := (zI S 1 x0)) (b := x2) c53 rfl rfl
    refine ok_chk r_x0 ?_
    obtain ⟨b1, p_b1, d_b1, l0_b1, l1_b1, l2_b1, l3_b1⟩ := hT.2.1 x0 r_x0
    have z_b1 := row_nz d_b1 l1_b1 (by omega)
    refine ok_calR p_b1 ?_
    refine ok_chk z_b1.1 ?_
    refine ok_chk (ti_inR (v := x2) z_b1.2 (by omega) (by omega)) ?_
    refine ok_bnd (fun v2 e54 => ?_)
    have t_v2 : (0 : Int) ≤ v2.toInt ∧ v2.toInt ≤ (65535 : Int) := by rw [e54]; exact hT.2.2.2.2.2.2.1 b1 z_b1.1 _
    refine ok_chk r_x1 ?_
    have j55 := J_6_1 hT r_x1
    obtain ⟨r3, h_r3, p_r3⟩ := roz (t_f_X6_at (x0 := x1) (x1 := x2) hT r_x1)
    dsimp only at p_r3
    refine ok_calR h_r3 ?_
    refine ok_if (fun c56 => ?_) (fun c56 => ?_)
    ·
      replace c56 := ti_eqP (a := v2) (b := r3) c56 rfl rfl
      refine ok_bnd (fun v4 e57 => ?_)
      have t_v4 : v4.toInt = x2.toInt + 1 := ti_add e57 rfl (show (1 : Int32).toInt = 1 from rfl) (by omega) (by omega)
      exact hself15 x0 x1 v4  r_x0 r_x1 (by omega) (by omega)
    ·
      replace c56 := ti_eqN (a := v2) (b := r3) c56 rfl rfl
      refine ok_chk (by decide) ?_
      exact ok_ret ⟨rfl, (show (0 : Int) ≤ (0 : Int32).toInt ∧ (0 : Int32).toInt ≤ (1 : Int) from (by decide))⟩
theorem t_f_X6_isLike_15 {S : ZS} (hT : ZT S) : ∀ (n : Nat) (x0 : Nat) (x1 : Nat) (x2 : Int32),  (zK S x0 = 6) → (zK S x1 = 6) → ((0 : Int) ≤ x2.toInt ∧ x2.toInt ≤ (90000 : Int)) → (90001 - x2.toInt) < (n : Int) → Ok (f_X6_isLike_15  n x0 x1 x2 S) (fun o => o.2 = S ∧ ((0 : Int) ≤ o.1.toInt ∧ o.1.toInt ≤ (1 : Int))) := by
  intro n
  induction n with
  | zero => intro x0 x1 x2 g0 g1 g2  hm; exfalso; omega
  | succ n ih =>
    intro x0 x1 x2 g0 g1 g2  hm
    exact t_f_X6_isLike_15s (N15 := n)  ih hT g0 g1 g2  (by omega)
theorem t_f_X6_isLike_0 {S : ZS} {x0 : Nat} {x1 : Nat} (hT : ZT S) (r_x0 : zK S x0 = 6) (r_x1 : zK S x1 = 6) : Ok (f_X6_isLike_0 x0 x1 S) (fun o => o.2 = S ∧ ((0 : Int) ≤ o.1.toInt ∧ o.1.toInt ≤ (1 : Int))) := by
  unfold f_X6_isLike_0
  refine ok_chk r_x0 ?_
  refine ok_chk r_x1 ?_
  have j58 := J_6_1 hT r_x0
  have j59 := J_6_1 hT r_x1
  refine ok_if (fun c60 => ?_) (fun c60 => ?_)
  ·
    replace c60 := ti_eqP (a := (zI S 1 x0)) (b := (zI S 1 x1)) c60 rfl rfl
    exact t_f_X6_isLike_15  hT mFuel x0 x1 (0 : Int32)  r_x0 r_x1 (by decide) (by show _ < ((200000 : Nat) : Int); have z0 : (0 : Int32).toInt = 0 := rfl; omega)
  ·
    replace c60 := ti_eqN (a := (zI S 1 x0)) (b := (zI S 1 x1)) c60 rfl rfl
    refine ok_chk (by decide) ?_
    exact ok_ret ⟨rfl, (show (0 : Int) ≤ (0 : Int32).toInt ∧ (0 : Int32).toInt ≤ (1 : Int) from (by decide))⟩
theorem t_f_X6_isLike {S : ZS} {x0 : Nat} {x1 : Nat} (hT : ZT S) (r_x0 : zK S x0 = 6) (r_x1 : zK S x1 = 6) : Ok (f_X6_isLike x0 x1 S) (fun o => o.2 = S ∧ ((0 : Int) ≤ o.1.toInt ∧ o.1.toInt ≤ (1 : Int))) := t_f_X6_isLike_0 hT r_x0 r_x1
theorem t_f_X8_parseApart_49 {SZ S : ZS} {x0 : Nat} {x2 : Int32} {x3 : Int32} (hT : ZT S) (hR : A7 SZ S) (r_x0 : zK S x0 = 8) (r_x2 : (-20 : Int) ≤ x2.toInt ∧ x2.toInt ≤ (90000 : Int)) (r_x3 : (0 : Int) ≤ x3.toInt ∧ x3.toInt ≤ (3 : Int)) : Ok (f_X8_parseApart_49 x0 x2 x3 S) (fun o => ZT o.2 ∧ A7 SZ o.2 ∧ ((0 : Int) ≤ o.1.toInt ∧ o.1.toInt ≤ (1 : Int))) := by
  unfold f_X8_parseApart_49
  refine ok_if (fun c61 => ?_) (fun c61 => ?_)
  ·
    replace c61 := ti_leP (a := x2) (b := x3) c61 rfl rfl
    unfold f_X8_parseApart_94
    refine ok_if (fun c62 => ?_) (fun c62 => ?_)
    ·
      replace c62 := ti_eqP (a := x3) (b := x2) c62 rfl rfl
      unfold f_X8_parseApart_104
      refine ok_chk (by decide) ?_
      exact ok_ret ⟨hT, hR, (show (0 : Int) ≤ (1 : Int32).toInt ∧ (1 : Int32).toInt ≤ (1 : Int) from (by decide))⟩
    ·
      replace c62 := ti_eqN (a := x3) (b := x2) c62 rfl rfl
      unfold f_X8_parseApart_104
      refine ok_chk (by decide) ?_
      exact ok_ret ⟨hT, hR, (show (0 : Int) ≤ (0 : Int32).toInt ∧ (0 : Int32).toInt ≤ (1 : Int) from (by decide))⟩
  ·
    replace c61 := ti_leN (a := x2) (b := x3) c61 rfl rfl
    refine ok_chk r_x0 ?_
    refine ok_if (fun c63 => ?_) (fun c63 => ?_)
    ·
      replace c63 := ti_eqP (a := (zI S 3 x0)) (b := (1 : Int32)) c63 rfl (show (1 : Int32).toInt = 1 from rfl)
      unfold f_X8_parseApart_94
      refine ok_if (fun c64 => ?_) (fun c64 => ?_)
      ·
        replace c64 := ti_eqP (a := x3) (b := x2) c64 rfl rfl
        unfold f_X8_parseApart_104
        refine ok_chk (by decide) ?_
        exact ok_ret ⟨hT, hR, (show (0 : Int) ≤ (1 : Int32).toInt ∧ (1 : Int32).toInt ≤ (1 : Int) from (by decide))⟩
      ·
        replace c64 := ti_eqN (a := x3) (b := x2) c64 rfl rfl
        unfold f_X8_parseApart_104
        refine ok_chk (by decide) ?_
        exact ok_ret ⟨hT, hR, (show (0 : Int) ≤ (0 : Int32).toInt ∧ (0 : Int32).toInt ≤ (1 : Int) from (by decide))⟩
    ·
      replace c63 := ti_eqN (a := (zI S 3 x0)) (b := (1 : Int32)) c63 rfl (show (1 : Int32).toInt = 1 from rfl)
      refine ok_chk r_x0 ?_
      obtain ⟨b1, p_b1, k_b1, c_b1⟩ := T_8_1 hT r_x0
      have lo_b1 := M_8_1 hT r_x0 p_b1
      refine ok_calR p_b1 ?_
      refine ok_chk k_b1 ?_
      have j65 := J61_1 hT k_b1 c_b1
      obtain ⟨r2, h_r2, p_r2⟩ := roz (t_f_X6_at (x0 := b1) (x1 := x3) hT k_b1)
      dsimp only at p_r2
      refine ok_calR h_r2 ?_
      obtain ⟨r3, h_r3, p_r3⟩ := roz (t_f_X11_isRank (x0 := r2) hT )
      dsimp only at p_r3
      refine ok_calR h_r3 ?_
      refine ok_if (fun c66 => ?_) (fun c66 => ?_)
      ·
        replace c66 := ti_eqP (a := r3) (b := (0 : Int32)) c66 rfl (show (0 : Int32).toInt = 0 from rfl)
        unfold f_X8_parseApart_94
        refine ok_if (fun c67 => ?_) (fun c67 => ?_)
        ·
          replace c67 := ti_eqP (a := x3) (b := x2) c67 rfl rfl
          unfold f_X8_parseApart_104
          refine ok_chk (by decide) ?_
          exact ok_ret ⟨hT, hR, (show (0 : Int) ≤ (1 : Int32).toInt ∧ (1 : Int32).toInt ≤ (1 : Int) from (by decide))⟩
        ·
          replace c67 := ti_eqN (a := x3) (b := x2) c67 rfl rfl
          unfold f_X8_parseApart_104
          refine ok_chk (by decide) ?_
          exact ok_ret ⟨hT, hR, (show (0 : Int) ≤ (0 : Int32).toInt ∧ (0 : Int32).toInt ≤ (1 : Int) from (by decide))⟩
      ·
        replace c66 := ti_eqN (a := r3) (b := (0 : Int32)) c66 rfl (show (0 : Int32).toInt = 0 from rfl)
        refine ok_chk r_x0 ?_
        obtain ⟨b4, p_b4, k_b4, c_b4⟩ := T_8_1 hT r_x0
        have lo_b4 := M_8_1 hT r_x0 p_b4
        refine ok_calR p_b4 ?_
        refine ok_chk k_b4 ?_
        have j68 := J61_1 hT k_b4 c_b4
        obtain ⟨r5, h_r5, p_r5⟩ := roz (t_f_X6_at (x0 := b4) (x1 := x3) hT k_b4)
        dsimp only at p_r5
        refine ok_calR h_r5 ?_
        refine ok_bnd (fun v6 e69 => ?_)
        have t_v6 : v6.toInt = r5.toInt - 49 := ti_sub e69 rfl (show (49 : Int32).toInt = 49 from rfl) (by omega) (by omega)
        refine ok_chk r_x0 ?_
        refine ok_bnd (fun S7 e70 => ?_)
        have T_S7 : ZT S7 := e70.symm ▸ zt_W hT r_x0 (by decide) rfl
        have kE_S7 : zK S7 = zK S := by rw [e70]; rfl
        have nE_S7 : zN S7 = zN S := by rw [e70]; rfl
        have R_S7 : A7 SZ S7 := a7_I hR e70 r_x0 (by decide)
        refine ok_bnd (fun v8 e71 => ?_)
        have t_v8 : v8.toInt = x3.toInt + 1 := ti_add e71 rfl (show (1 : Int32).toInt = 1 from rfl) (by omega) (by omega)
        unfold f_X8_parseApart_94
        refine ok_if (fun c72 => ?_) (fun c72 => ?_)
        ·
          replace c72 := ti_eqP (a := v8) (b := x2) c72 rfl rfl
          unfold f_X8_parseApart_104
          refine ok_chk (by decide) ?_
          exact ok_ret ⟨T_S7, R_S7, (show (0 : Int) ≤ (1 : Int32).toInt ∧ (1 : Int32).toInt ≤ (1 : Int) from (by decide))⟩
        ·
          replace c72 := ti_eqN (a := v8) (b := x2) c72 rfl rfl
          unfold f_X8_parseApart_104
          refine ok_chk (by decide) ?_
          exact ok_ret ⟨T_S7, R_S7, (show (0 : Int) ≤ (0 : Int32).toInt ∧ (0 : Int32).toInt ≤ (1 : Int) from (by decide))⟩
theorem t_f_X8_parseApart_0 {SZ S : ZS} {x0 : Nat} {x1 : Int32} {x2 : Int32} (hT : ZT S) (hR : A7 SZ S) (r_x0 : zK S x0 = 8) (r_x1 : (0 : Int) ≤ x1.toInt ∧ x1.toInt ≤ (1 : Int)) (r_x2 : (-20 : Int) ≤ x2.toInt ∧ x2.toInt ≤ (90000 : Int)) : Ok (f_X8_parseApart_0 x0 x1 x2 S) (fun o => ZT o.2 ∧ A7 SZ o.2 ∧ ((0 : Int) ≤ o.1.toInt ∧ o.1.toInt ≤ (1 : Int))) := by
  unfold f_X8_parseApart_0
  refine ok_chk r_x0 ?_
  refine ok_bnd (fun S1 e73 => ?_)
  have T_S1 : ZT S1 := e73.symm ▸ zt_W hT r_x0 (by decide) rfl
  have kE_S1 : zK S1 = zK S := by rw [e73]; rfl
  have nE_S1 : zN S1 = zN S := by rw [e73]; rfl
  have R_S1 : A7 SZ S1 := a7_I hR e73 r_x0 (by decide)
  refine ok_chk ((congrFun kE_S1 x0).trans r_x0) ?_
  refine ok_bnd (fun S2 e74 => ?_)
  have T_S2 : ZT S2 := e74.symm ▸ zt_W T_S1 ((congrFun kE_S1 x0).trans r_x0) (by decide) rfl
  have kE_S2 : zK S2 = zK S1 := by rw [e74]; rfl
  have nE_S2 : zN S2 = zN S1 := by rw [e74]; rfl
  have R_S2 : A7 SZ S2 := a7_I R_S1 e74 ((congrFun kE_S1 x0).trans r_x0) (by decide)
  refine ok_if (fun c75 => ?_) (fun c75 => ?_)
  ·
    replace c75 := ti_leP (a := x2) (b := x1) c75 rfl rfl
    exact t_f_X8_parseApart_49 (S := S2)  (x0 := x0) (x2 := x2) (x3 := x1) T_S2 R_S2 ((congrFun kE_S2 x0).trans ((congrFun kE_S1 x0).trans r_x0)) r_x2 (by omega)
  ·
    replace c75 := ti_leN (a := x2) (b := x1) c75 rfl rfl
    refine ok_chk ((congrFun kE_S2 x0).trans ((congrFun kE_S1 x0).trans r_x0)) ?_
    obtain ⟨b3, p_b3, k_b3, c_b3⟩ := T_8_1 T_S2 ((congrFun kE_S2 x0).trans ((congrFun kE_S1 x0).trans r_x0))
    have lo_b3 := M_8_1 T_S2 ((congrFun kE_S2 x0).trans ((congrFun kE_S1 x0).trans r_x0)) p_b3
    refine ok_calR p_b3 ?_
    refine ok_chk k_b3 ?_
    have j76 := J61_1 T_S2 k_b3 c_b3
    obtain ⟨r4, h_r4, p_r4⟩ := roz (t_f_X6_at (x0 := b3) (x1 := x1) T_S2 k_b3)
    dsimp only at p_r4
    refine ok_calR h_r4 ?_
    obtain ⟨r5, h_r5, p_r5⟩ := roz (t_f_X11_isFile (x0 := r4) T_S2 )
    dsimp only at p_r5
    refine ok_calR h_r5 ?_
    refine ok_if (fun c77 => ?_) (fun c77 => ?_)
    ·
      replace c77 := ti_eqP (a := r5) (b := (0 : Int32)) c77 rfl (show (0 : Int32).toInt = 0 from rfl)
      exact t_f_X8_parseApart_49 (S := S2)  (x0 := x0) (x2 := x2) (x3 := x1) T_S2 R_S2 ((congrFun kE_S2 x0).trans ((congrFun kE_S1 x0).trans r_x0)) r_x2 (by omega)
    ·
      replace c77 := ti_eqN (a := r5) (b := (0 : Int32)) c77 rfl (show (0 : Int32).toInt = 0 from rfl)
      refine ok_chk ((congrFun kE_S2 x0).trans ((congrFun kE_S1 x0).trans r_x0)) ?_
      obtain ⟨b6, p_b6, k_b6, c_b6⟩ := T_8_1 T_S2 ((congrFun kE_S2 x0).trans ((congrFun kE_S1 x0).trans r_x0))
      have lo_b6 := M_8_1 T_S2 ((congrFun kE_S2 x0).trans ((congrFun kE_S1 x0).trans r_x0)) p_b6
      refine ok_calR p_b6 ?_
      refine ok_chk k_b6 ?_
      have j78 := J61_1 T_S2 k_b6 c_b6
      obtain ⟨r7, h_r7, p_r7⟩ := roz (t_f_X6_at (x0 := b6) (x1 := x1) T_S2 k_b6)
      dsimp only at p_r7
      refine ok_calR h_r7 ?_
      refine ok_bnd (fun v8 e79 => ?_)
      have t_v8 : v8.toInt = r7.toInt - 97 := ti_sub e79 rfl (show (97 : Int32).toInt = 97 from rfl) (by omega) (by omega)
      refine ok_chk ((congrFun kE_S2 x0).trans ((congrFun kE_S1 x0).trans r_x0)) ?_
      refine ok_bnd (fun S9 e80 => ?_)
      have T_S9 : ZT S9 := e80.symm ▸ zt_W T_S2 ((congrFun kE_S2 x0).trans ((congrFun kE_S1 x0).trans r_x0)) (by decide) rfl
      have kE_S9 : zK S9 = zK S2 := by rw [e80]; rfl
      have nE_S9 : zN S9 = zN S2 := by rw [e80]; rfl
      have R_S9 : A7 SZ S9 := a7_I R_S2 e80 ((congrFun kE_S2 x0).trans ((congrFun kE_S1 x0).trans r_x0)) (by decide)
      refine ok_bnd (fun v10 e81 => ?_)
      have t_v10 : v10.toInt = x1.toInt + 1 := ti_add e81 rfl (show (1 : Int32).toInt = 1 from rfl) (by omega) (by omega)
      exact t_f_X8_parseApart_49 (S := S9)  (x0 := x0) (x2 := x2) (x3 := v10) T_S9 R_S9 ((congrFun kE_S9 x0).trans ((congrFun kE_S2 x0).trans ((congrFun kE_S1 x0).trans r_x0))) r_x2 (by omega)
theorem t_f_X8_parseApart {SZ S : ZS} {x0 : Nat} {x1 : Int32} {x2 : Int32} (hT : ZT S) (hR : A7 SZ S) (r_x0 : zK S x0 = 8) (r_x1 : (0 : Int) ≤ x1.toInt ∧ x1.toInt ≤ (1 : Int)) (r_x2 : (-20 : Int) ≤ x2.toInt ∧ x2.toInt ≤ (90000 : Int)) : Ok (f_X8_parseApart x0 x1 x2 S) (fun o => ZT o.2 ∧ A7 SZ o.2 ∧ ((0 : Int) ≤ o.1.toInt ∧ o.1.toInt ≤ (1 : Int))) := t_f_X8_parseApart_0 hT hR r_x0 r_x1 r_x2
