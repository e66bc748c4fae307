section
theorem t_f_X7_legalMove_110 {SZ S : ZS} {self11 : Nat → Nat → Int32 → Int32 → ZS → Option (Int32 × ZS)} {N11 : Nat} (hself11 : ∀ (x0 : Nat) (x1 : Nat) (x3 : Int32) (x4 : Int32) (S : ZS), ZT S → A7 SZ S → (zK S x0 = 7) → (zK S x1 = 0) → ((0 : Int) ≤ x3.toInt ∧ x3.toInt ≤ (2147483647 : Int)) → ((0 : Int) ≤ x4.toInt ∧ x4.toInt ≤ (64 : Int)) → (65 - x4.toInt) < (N11 : Int) → Ok (self11 x0 x1 x3 x4 S) (fun o => ZT o.2 ∧ A7 SZ o.2 ∧ True)) {self21 : Nat → Nat → Int32 → Int32 → Int32 → ZS → Option (Int32 × ZS)} {N21 : Nat} (hself21 : ∀ (x0 : Nat) (x1 : Nat) (x3 : Int32) (x4 : Int32) (x5 : Int32) (S : ZS), ZT S → A7 SZ S → (zK S x0 = 7) → (zK S x1 = 0) → ((0 : Int) ≤ x3.toInt ∧ x3.toInt ≤ (2147483647 : Int)) → ((0 : Int) ≤ x4.toInt ∧ x4.toInt ≤ (63 : Int)) → ((0 : Int) ≤ x5.toInt ∧ x5.toInt ≤ (64 : Int)) → ((65 - x4.toInt) ≤ (N11 : Int)) → (65 - x5.toInt) < (N21 : Int) → Ok (self21 x0 x1 x3 x4 x5 S) (fun o => ZT o.2 ∧ A7 SZ o.2 ∧ True)) {x0 : Nat} {x1 : Nat} {x3 : Int32} {x4 : Int32} {x5 : Int32} (hT : ZT S) (hR : A7 SZ S) (r_x0 : zK S x0 = 7) (r_x1 : zK S x1 = 0) (r_x3 : (0 : Int) ≤ x3.toInt ∧ x3.toInt ≤ (2147483647 : Int)) (r_x4 : (0 : Int) ≤ x4.toInt ∧ x4.toInt ≤ (63 : Int)) (r_x5 : (0 : Int) ≤ x5.toInt ∧ x5.toInt ≤ (63 : Int)) (m11 : (65 - x4.toInt) ≤ (N11 : Int)) (m21 : (65 - x5.toInt) ≤ (N21 : Int)) : Ok (f_X7_legalMove_110 self11 self21 x0 x1 x3 x4 x5 S) (fun o => ZT o.2 ∧ A7 SZ o.2 ∧ True) := by
  unfold f_X7_legalMove_110
  refine ok_bnd (fun v1 e1 => ?_)
  have t_v1 : v1.toInt = x5.toInt + 1 := ti_add e1 rfl (show (1 : Int32).toInt = 1 from rfl) (by omega) (by omega)
  exact hself21 x0 x1 x3 x4 v1 S hT hR r_x0 r_x1 r_x3 r_x4 (by omega) m11 (by omega)
theorem t_f_X7_legalMove_75 {SZ S : ZS} {self11 : Nat → Nat → Int32 → Int32 → ZS → Option (Int32 × ZS)} {N11 : Nat} (hself11 : ∀ (x0 : Nat) (x1 : Nat) (x3 : Int32) (x4 : Int32) (S : ZS), ZT S → A7 SZ S → (zK S x0 = 7) → (zK S x1 = 0) → ((0 : Int) ≤ x3.toInt ∧ x3.toInt ≤ (2147483647 : Int)) → ((0 : Int) ≤ x4.toInt ∧ x4.toInt ≤ (64 : Int)) → (65 - x4.toInt) < (N11 : Int) → Ok (self11 x0 x1 x3 x4 S) (fun o => ZT o.2 ∧ A7 SZ o.2 ∧ True)) {self21 : Nat → Nat → Int32 → Int32 → Int32 → ZS → Option (Int32 × ZS)} {N21 : Nat} (hself21 : ∀ (x0 : Nat) (x1 : Nat) (x3 : Int32) (x4 : Int32) (x5 : Int32) (S : ZS), ZT S → A7 SZ S → (zK S x0 = 7) → (zK S x1 = 0) → ((0 : Int) ≤ x3.toInt ∧ x3.toInt ≤ (2147483647 : Int)) → ((0 : Int) ≤ x4.toInt ∧ x4.toInt ≤ (63 : Int)) → ((0 : Int) ≤ x5.toInt ∧ x5.toInt ≤ (64 : Int)) → ((65 - x4.toInt) ≤ (N11 : Int)) → (65 - x5.toInt) < (N21 : Int) → Ok (self21 x0 x1 x3 x4 x5 S) (fun o => ZT o.2 ∧ A7 SZ o.2 ∧ True)) {x0 : Nat} {x1 : Nat} {x3 : Int32} {x4 : Int32} {x5 : Int32} {x6 : Int32} {t0 : Int32} (hT : ZT S) (hR : A7 SZ S) (r_x0 : zK S x0 = 7) (r_x1 : zK S x1 = 0) (r_x3 : (0 : Int) ≤ x3.toInt ∧ x3.toInt ≤ (2147483647 : Int)) (r_x4 : (0 : Int) ≤ x4.toInt ∧ x4.toInt ≤ (63 : Int)) (r_x5 : (0 : Int) ≤ x5.toInt ∧ x5.toInt ≤ (63 : Int)) (r_x6 : (0 : Int) ≤ x6.toInt ∧ x6.toInt ≤ (4095 : Int)) (r_t0 : (1 : Int) ≤ t0.toInt ∧ t0.toInt ≤ (4 : Int)) (m11 : (65 - x4.toInt) ≤ (N11 : Int)) (m21 : (65 - x5.toInt) ≤ (N21 : Int)) : Ok (f_X7_legalMove_75 self11 self21 x0 x1 x3 x4 x5 x6 t0 S) (fun o => ZT o.2 ∧ A7 SZ o.2 ∧ True) := by
  unfold f_X7_legalMove_75
  refine ok_if (fun c2 => ?_) (fun c2 => ?_)
  ·
    replace c2 := ti_leP (a := t0) (b := x3) c2 rfl rfl
    refine ok_bnd (fun v1 e3 => ?_)
    have t_v1 : v1.toInt = x3.toInt - t0.toInt := ti_sub e3 rfl rfl (by omega) (by omega)
    exact t_f_X7_legalMove_110 (S := S) hself11 hself21 (x0 := x0) (x1 := x1) (x3 := v1) (x4 := x4) (x5 := x5) hT hR r_x0 r_x1 (by omega) r_x4 r_x5 m11 m21
  ·
    replace c2 := ti_leN (a := t0) (b := x3) c2 rfl rfl
    refine ok_if (fun c4 => ?_) (fun c4 => ?_)
    ·
      replace c4 := ti_eqP (a := t0) (b := (1 : Int32)) c4 rfl (show (1 : Int32).toInt = 1 from rfl)
      unfold f_X7_legalMove_104
      exact ok_ret ⟨hT, hR, trivial⟩
    ·
      replace c4 := ti_eqN (a := t0) (b := (1 : Int32)) c4 rfl (show (1 : Int32).toInt = 1 from rfl)
      refine ok_bnd (fun v2 e5 => ?_)
      have t_v2 : v2.toInt = 2 + x3.toInt := ti_add e5 (show (2 : Int32).toInt = 2 from rfl) rfl (by omega) (by omega)
      refine ok_bnd (fun v3 e6 => ?_)
      have t_v3 : v3.toInt = 4096 * v2.toInt := ti_mul e6 (show (4096 : Int32).toInt = 4096 from rfl) rfl (by omega) (by omega)
      refine ok_bnd (fun v4 e7 => ?_)
      have t_v4 : v4.toInt = x6.toInt + v3.toInt := ti_add e7 rfl rfl (by omega) (by omega)
      unfold f_X7_legalMove_104
      exact ok_ret ⟨hT, hR, trivial⟩
theorem t_f_X7_legalMove_21s {SZ S : ZS} {self11 : Nat → Nat → Int32 → Int32 → ZS → Option (Int32 × ZS)} {N11 : Nat} (hself11 : ∀ (x0 : Nat) (x1 : Nat) (x3 : Int32) (x4 : Int32) (S : ZS), ZT S → A7 SZ S → (zK S x0 = 7) → (zK S x1 = 0) → ((0 : Int) ≤ x3.toInt ∧ x3.toInt ≤ (2147483647 : Int)) → ((0 : Int) ≤ x4.toInt ∧ x4.toInt ≤ (64 : Int)) → (65 - x4.toInt) < (N11 : Int) → Ok (self11 x0 x1 x3 x4 S) (fun o => ZT o.2 ∧ A7 SZ o.2 ∧ True)) {self21 : Nat → Nat → Int32 → Int32 → Int32 → ZS → Option (Int32 × ZS)} {N21 : Nat} (hself21 : ∀ (x0 : Nat) (x1 : Nat) (x3 : Int32) (x4 : Int32) (x5 : Int32) (S : ZS), ZT S → A7 SZ S → (zK S x0 = 7) → (zK S x1 = 0) → ((0 : Int) ≤ x3.toInt ∧ x3.toInt ≤ (2147483647 : Int)) → ((0 : Int) ≤ x4.toInt ∧ x4.toInt ≤ (63 : Int)) → ((0 : Int) ≤ x5.toInt ∧ x5.toInt ≤ (64 : Int)) → ((65 - x4.toInt) ≤ (N11 : Int)) → (65 - x5.toInt) < (N21 : Int) → Ok (self21 x0 x1 x3 x4 x5 S) (fun o => ZT o.2 ∧ A7 SZ o.2 ∧ True)) {x0 : Nat} {x1 : Nat} {x3 : Int32} {x4 : Int32} {x5 : Int32} (hT : ZT S) (hR : A7 SZ S) (r_x0 : zK S x0 = 7) (r_x1 : zK S x1 = 0) (r_x3 : (0 : Int) ≤ x3.toInt ∧ x3.toInt ≤ (2147483647 : Int)) (r_x4 : (0 : Int) ≤ x4.toInt ∧ x4.toInt ≤ (63 : Int)) (r_x5 : (0 : Int) ≤ x5.toInt ∧ x5.toInt ≤ (64 : Int)) (m11 : (65 - x4.toInt) ≤ (N11 : Int)) (m21 : (65 - x5.toInt) ≤ (N21 : Int)) : Ok (f_X7_legalMove_21s self11 self21 x0 x1 x3 x4 x5 S) (fun o => ZT o.2 ∧ A7 SZ o.2 ∧ True) := by
  unfold f_X7_legalMove_21s
  refine ok_if (fun c8 => ?_) (fun c8 => ?_)
  ·
    replace c8 := ti_leP (a := (64 : Int32)) (b := x5) c8 (show (64 : Int32).toInt = 64 from rfl) rfl
    refine ok_bnd (fun v1 e9 => ?_)
    have t_v1 : v1.toInt = x4.toInt + 1 := ti_add e9 rfl (show (1 : Int32).toInt = 1 from rfl) (by omega) (by omega)
    exact hself11 x0 x1 x3 v1 S hT hR r_x0 r_x1 r_x3 (by omega) (by omega)
  ·
    replace c8 := ti_leN (a := (64 : Int32)) (b := x5) c8 (show (64 : Int32).toInt = 64 from rfl) rfl
    refine ok_bnd (fun v2 e10 => ?_)
    have t_v2 : v2.toInt = 64 * x5.toInt := ti_mul e10 (show (64 : Int32).toInt = 64 from rfl) rfl (by omega) (by omega)
    refine ok_bnd (fun v3 e11 => ?_)
    have t_v3 : v3.toInt = x4.toInt + v2.toInt := ti_add e11 rfl rfl (by omega) (by omega)
    refine ok_chk r_x1 ?_
    obtain ⟨r4, h_r4, p_r4⟩ := roz (t_f_X0_reaches (x0 := x1) (x1 := x4) (x2 := x5) hT r_x1 r_x4 (by omega))
    dsimp only at p_r4
    refine ok_calR h_r4 ?_
    refine ok_if (fun c12 => ?_) (fun c12 => ?_)
    ·
      replace c12 := ti_eqP (a := r4) (b := (0 : Int32)) c12 rfl (show (0 : Int32).toInt = 0 from rfl)
      exact t_f_X7_legalMove_110 (S := S) hself11 hself21 (x0 := x0) (x1 := x1) (x3 := x3) (x4 := x4) (x5 := x5) hT hR r_x0 r_x1 r_x3 r_x4 (by omega) m11 m21
    ·
      replace c12 := ti_eqN (a := r4) (b := (0 : Int32)) c12 rfl (show (0 : Int32).toInt = 0 from rfl)
      refine ok_chk r_x0 ?_
      obtain ⟨⟨r5, S5⟩, h_r5, T_S5, A_S5, p_r5⟩ := t_f_X7_isSafe (x0 := x0) (x1 := x1) (x2 := v3) (SZ := S) hT (a7_0 S) r_x0 r_x1
      replace T_S5 : ZT S5 := T_S5
      replace A_S5 : A7 S S5 := A_S5
      dsimp only at p_r5
      refine ok_calR h_r5 ?_
      have q_S5 := fq_X7_isSafe h_r5
      have kE_S5 : zK S5 = zK S := q_S5.2.2.1
      have nE_S5 : zN S5 = zN S := q_S5.2.2.2.1
      have R_S5 : A7 SZ S5 := a7_t hR A_S5
      refine ok_if (fun c13 => ?_) (fun c13 => ?_)
      ·
        replace c13 := ti_eqP (a := r5) (b := (0 : Int32)) c13 rfl (show (0 : Int32).toInt = 0 from rfl)
        exact t_f_X7_legalMove_110 (S := S5) hself11 hself21 (x0 := x0) (x1 := x1) (x3 := x3) (x4 := x4) (x5 := x5) T_S5 R_S5 ((congrFun kE_S5 x0).trans r_x0) ((congrFun kE_S5 x1).trans r_x1) r_x3 r_x4 (by omega) m11 m21
      ·
        replace c13 := ti_eqN (a := r5) (b := (0 : Int32)) c13 rfl (show (0 : Int32).toInt = 0 from rfl)
        refine ok_chk ((congrFun kE_S5 x1).trans r_x1) ?_
        obtain ⟨r6, h_r6, p_r6⟩ := roz (t_f_X0_becomesAnother (x0 := x1) (x1 := x4) (x2 := x5) T_S5 ((congrFun kE_S5 x1).trans r_x1) r_x4)
        dsimp only at p_r6
        refine ok_calR h_r6 ?_
        refine ok_if (fun c14 => ?_) (fun c14 => ?_)
        ·
          replace c14 := ti_eqP (a := r6) (b := (0 : Int32)) c14 rfl (show (0 : Int32).toInt = 0 from rfl)
          exact t_f_X7_legalMove_75 (S := S5) hself11 hself21 (x0 := x0) (x1 := x1) (x3 := x3) (x4 := x4) (x5 := x5) (x6 := v3) (t0 := (1 : Int32)) T_S5 R_S5 ((congrFun kE_S5 x0).trans r_x0) ((congrFun kE_S5 x1).trans r_x1) r_x3 r_x4 (by omega) (by omega) (by decide) m11 m21
        ·
          replace c14 := ti_eqN (a := r6) (b := (0 : Int32)) c14 rfl (show (0 : Int32).toInt = 0 from rfl)
          exact t_f_X7_legalMove_75 (S := S5) hself11 hself21 (x0 := x0) (x1 := x1) (x3 := x3) (x4 := x4) (x5 := x5) (x6 := v3) (t0 := (4 : Int32)) T_S5 R_S5 ((congrFun kE_S5 x0).trans r_x0) ((congrFun kE_S5 x1).trans r_x1) r_x3 r_x4 (by omega) (by omega) (by decide) m11 m21
theorem t_f_X7_legalMove_21 {SZ : ZS} {self11 : Nat → Nat → Int32 → Int32 → ZS → Option (Int32 × ZS)} {N11 : Nat} (hself11 : ∀ (x0 : Nat) (x1 : Nat) (x3 : Int32) (x4 : Int32) (S : ZS), ZT S → A7 SZ S → (zK S x0 = 7) → (zK S x1 = 0) → ((0 : Int) ≤ x3.toInt ∧ x3.toInt ≤ (2147483647 : Int)) → ((0 : Int) ≤ x4.toInt ∧ x4.toInt ≤ (64 : Int)) → (65 - x4.toInt) < (N11 : Int) → Ok (self11 x0 x1 x3 x4 S) (fun o => ZT o.2 ∧ A7 SZ o.2 ∧ True)) : ∀ (n : Nat) (x0 : Nat) (x1 : Nat) (x3 : Int32) (x4 : Int32) (x5 : Int32) (S : ZS), ZT S → A7 SZ S → (zK S x0 = 7) → (zK S x1 = 0) → ((0 : Int) ≤ x3.toInt ∧ x3.toInt ≤ (2147483647 : Int)) → ((0 : Int) ≤ x4.toInt ∧ x4.toInt ≤ (63 : Int)) → ((0 : Int) ≤ x5.toInt ∧ x5.toInt ≤ (64 : Int)) → ((65 - x4.toInt) ≤ (N11 : Int)) → (65 - x5.toInt) < (n : Int) → Ok (f_X7_legalMove_21 self11 n x0 x1 x3 x4 x5 S) (fun o => ZT o.2 ∧ A7 SZ o.2 ∧ True) := by
  intro n
  induction n with
  | zero => intro x0 x1 x3 x4 x5 S hT hR g0 g1 g2 g3 g4 w0 hm; exfalso; omega
  | succ n ih =>
    intro x0 x1 x3 x4 x5 S hT hR g0 g1 g2 g3 g4 w0 hm
    exact t_f_X7_legalMove_21s (N21 := n) hself11 ih hT hR g0 g1 g2 g3 g4 w0 (by omega)
theorem t_f_X7_legalMove_11s {SZ S : ZS} {self11 : Nat → Nat → Int32 → Int32 → ZS → Option (Int32 × ZS)} {N11 : Nat} (hself11 : ∀ (x0 : Nat) (x1 : Nat) (x3 : Int32) (x4 : Int32) (S : ZS), ZT S → A7 SZ S → (zK S x0 = 7) → (zK S x1 = 0) → ((0 : Int) ≤ x3.toInt ∧ x3.toInt ≤ (2147483647 : Int)) → ((0 : Int) ≤ x4.toInt ∧ x4.toInt ≤ (64 : Int)) → (65 - x4.toInt) < (N11 : Int) → Ok (self11 x0 x1 x3 x4 S) (fun o => ZT o.2 ∧ A7 SZ o.2 ∧ True)) {x0 : Nat} {x1 : Nat} {x3 : Int32} {x4 : Int32} (hT : ZT S) (hR : A7 SZ S) (r_x0 : zK S x0 = 7) (r_x1 : zK S x1 = 0) (r_x3 : (0 : Int) ≤ x3.toInt ∧ x3.toInt ≤ (2147483647 : Int)) (r_x4 : (0 : Int) ≤ x4.toInt ∧ x4.toInt ≤ (64 : Int)) (m11 : (65 - x4.toInt) ≤ (N11 : Int)) : Ok (f_X7_legalMove_11s self11 x0 x1 x3 x4 S) (fun o => ZT o.2 ∧ A7 SZ o.2 ∧ True) := by
  unfold f_X7_legalMove_11s
  refine ok_if (fun c15 => ?_) (fun c15 => ?_)
  ·
    replace c15 := ti_leP (a := (64 : Int32)) (b := x4) c15 (show (64 : Int32).toInt = 64 from rfl) rfl
    exact ok_ret ⟨hT, hR, trivial⟩
  ·
    replace c15 := ti_leN (a := (64 : Int32)) (b := x4) c15 (show (64 : Int32).toInt = 64 from rfl) rfl
    exact t_f_X7_legalMove_21 hself11  mFuel x0 x1 x3 x4 (0 : Int32) S hT hR r_x0 r_x1 r_x3 (by omega) (by decide) m11 (by show _ < ((200000 : Nat) : Int); have z0 : (0 : Int32).toInt = 0 := rfl; omega)
theorem t_f_X7_legalMove_11 {SZ : ZS} : ∀ (n : Nat) (x0 : Nat) (x1 : Nat) (x3 : Int32) (x4 : Int32) (S : ZS), ZT S → A7 SZ S → (zK S x0 = 7) → (zK S x1 = 0) → ((0 : Int) ≤ x3.toInt ∧ x3.toInt ≤ (2147483647 : Int)) → ((0 : Int) ≤ x4.toInt ∧ x4.toInt ≤ (64 : Int)) → (65 - x4.toInt) < (n : Int) → Ok (f_X7_legalMove_11  n x0 x1 x3 x4 S) (fun o => ZT o.2 ∧ A7 SZ o.2 ∧ True) := by
  intro n
  induction n with
  | zero => intro x0 x1 x3 x4 S hT hR g0 g1 g2 g3  hm; exfalso; omega
  | succ n ih =>
    intro x0 x1 x3 x4 S hT hR g0 g1 g2 g3  hm
    exact t_f_X7_legalMove_11s (N11 := n)  ih hT hR g0 g1 g2 g3  (by omega)
theorem t_f_X7_legalMove_0 {SZ S : ZS} {x0 : Nat} {x1 : Nat} {x2 : Int32} (hT : ZT S) (hR : A7 SZ S) (r_x0 : zK S x0 = 7) (r_x1 : zK S x1 = 0) : Ok (f_X7_legalMove_0 x0 x1 x2 S) (fun o => ZT o.2 ∧ A7 SZ o.2 ∧ True) := by
  unfold f_X7_legalMove_0
  have hb2 : x2.toInt ≤ 2147483647 := Int32.toInt_le x2
  refine ok_if (fun c16 => ?_) (fun c16 => ?_)
  ·
    replace c16 := ti_leP (a := (0 : Int32)) (b := x2) c16 (show (0 : Int32).toInt = 0 from rfl) rfl
    exact t_f_X7_legalMove_11   mFuel x0 x1 x2 (0 : Int32) S hT hR r_x0 r_x1 (by omega) (by decide) (by show _ < ((200000 : Nat) : Int); have z0 : (0 : Int32).toInt = 0 := rfl; omega)
  ·
    replace c16 := ti_leN (a := (0 : Int32)) (b := x2) c16 (show (0 : Int32).toInt = 0 from rfl) rfl
    exact ok_ret ⟨hT, hR, trivial⟩
theorem t_f_X7_legalMove {SZ S : ZS} {x0 : Nat} {x1 : Nat} {x2 : Int32} (hT : ZT S) (hR : A7 SZ S) (r_x0 : zK S x0 = 7) (r_x1 : zK S x1 = 0) : Ok (f_X7_legalMove x0 x1 x2 S) (fun o => ZT o.2 ∧ A7 SZ o.2 ∧ True) := t_f_X7_legalMove_0 hT hR r_x0 r_x1
theorem t_f_X7_checkSign_62s {SZ S : ZS} {self53 : Nat → Int32 → ZS → Option (Int32 × ZS)} {N53 : Nat} (hself53 : ∀ (x0 : Nat) (x3 : Int32) (S : ZS), ZT S → A7 SZ S → (zK S x0 = 7) → ((0 : Int) ≤ x3.toInt ∧ x3.toInt ≤ (64 : Int)) → (65 - x3.toInt) < (N53 : Int) → Ok (self53 x0 x3 S) (fun o => ZT o.2 ∧ A7 SZ o.2 ∧ ((0 : Int) ≤ o.1.toInt ∧ o.1.toInt ≤ (65535 : Int)))) {self62 : Nat → Int32 → Int32 → ZS → Option (Int32 × ZS)} {N62 : Nat} (hself62 : ∀ (x0 : Nat) (x3 : Int32) (x4 : Int32) (S : ZS), ZT S → A7 SZ S → (zK S x0 = 7) → ((0 : Int) ≤ x3.toInt ∧ x3.toInt ≤ (63 : Int)) → ((0 : Int) ≤ x4.toInt ∧ x4.toInt ≤ (64 : Int)) → ((65 - x3.toInt) ≤ (N53 : Int)) → (65 - x4.toInt) < (N62 : Int) → Ok (self62 x0 x3 x4 S) (fun o => ZT o.2 ∧ A7 SZ o.2 ∧ ((0 : Int) ≤ o.1.toInt ∧ o.1.toInt ≤ (65535 : Int)))) {x0 : Nat} {x3 : Int32} {x4 : Int32} (hT : ZT S) (hR : A7 SZ S) (r_x0 : zK S x0 = 7) (r_x3 : (0 : Int) ≤ x3.toInt ∧ x3.toInt ≤ (63 : Int)) (r_x4 : (0 : Int) ≤ x4.toInt ∧ x4.toInt ≤ (64 : Int)) (m53 : (65 - x3.toInt) ≤ (N53 : Int)) (m62 : (65 - x4.toInt) ≤ (N62 : Int)) : Ok (f_X7_checkSign_62s self53 self62 x0 x3 x4 S) (fun o => ZT o.2 ∧ A7 SZ o.2 ∧ ((0 : Int) ≤ o.1.toInt ∧ o.1.toInt ≤ (65535 : Int))) := by
  unfold f_X7_checkSign_62s
  refine ok_if (fun c17 => ?_) (fun c17 => ?_)
  ·
    replace c17 := ti_leP (a := (64 : Int32)) (b := x4) c17 (show (64 : Int32).toInt = 64 from rfl) rfl
    refine ok_bnd (fun v1 e18 => ?_)
    have t_v1 : v1.toInt = x3.toInt + 1 := ti_add e18 rfl (show (1 : Int32).toInt = 1 from rfl) (by omega) (by omega)
    exact hself53 x0 v1 S hT hR r_x0 (by omega) (by omega)
  ·
    replace c17 := ti_leN (a := (64 : Int32)) (b := x4) c17 (show (64 : Int32).toInt = 64 from rfl) rfl
    refine ok_chk r_x0 ?_
    obtain ⟨b2, p_b2, k_b2⟩ := T_7_1 hT r_x0
    refine ok_calR p_b2 ?_
    refine ok_chk k_b2 ?_
    obtain ⟨r3, h_r3, p_r3⟩ := roz (t_f_X0_reaches (x0 := b2) (x1 := x3) (x2 := x4) hT k_b2 r_x3 (by omega))
    dsimp only at p_r3
    refine ok_calR h_r3 ?_
    refine ok_if (fun c19 => ?_) (fun c19 => ?_)
    ·
      replace c19 := ti_eqP (a := r3) (b := (0 : Int32)) c19 rfl (show (0 : Int32).toInt = 0 from rfl)
      unfold f_X7_checkSign_103
      refine ok_bnd (fun v1 e20 => ?_)
      have t_v1 : v1.toInt = x4.toInt + 1 := ti_add e20 rfl (show (1 : Int32).toInt = 1 from rfl) (by omega) (by omega)
      exact hself62 x0 x3 v1 S hT hR r_x0 r_x3 (by omega) m53 (by omega)
    ·
      replace c19 := ti_eqN (a := r3) (b := (0 : Int32)) c19 rfl (show (0 : Int32).toInt = 0 from rfl)
      refine ok_chk r_x0 ?_
      obtain ⟨b4, p_b4, k_b4⟩ := T_7_1 hT r_x0
      refine ok_calR p_b4 ?_
      refine ok_bnd (fun v5 e21 => ?_)
      have t_v5 : v5.toInt = 64 * x4.toInt := ti_mul e21 (show (64 : Int32).toInt = 64 from rfl) rfl (by omega) (by omega)
      refine ok_bnd (fun v6 e22 => ?_)
      have t_v6 : v6.toInt = x3.toInt + v5.toInt := ti_add e22 rfl rfl (by omega) (by omega)
      refine ok_chk r_x0 ?_
      obtain ⟨⟨r7, S7⟩, h_r7, T_S7, A_S7, p_r7⟩ := t_f_X7_isSafe (x0 := x0) (x1 := b4) (x2 := v6) (SZ := S) hT (a7_0 S) r_x0 k_b4
      replace T_S7 : ZT S7 := T_S7
      replace A_S7 : A7 S S7 := A_S7
      dsimp only at p_r7
      refine ok_calR h_r7 ?_
      have q_S7 := fq_X7_isSafe h_r7
      have kE_S7 : zK S7 = zK S := q_S7.2.2.1
      have nE_S7 : zN S7 = zN S := q_S7.2.2.2.1
      have R_S7 : A7 SZ S7 := a7_t hR A_S7
      refine ok_if (fun c23 => ?_) (fun c23 => ?_)
      ·
        replace c23 := ti_eqP (a := r7) (b := (0 : Int32)) c23 rfl (show (0 : Int32).toInt = 0 from rfl)
        unfold f_X7_checkSign_103
        refine ok_bnd (fun v1 e24 => ?_)
        have t_v1 : v1.toInt = x4.toInt + 1 := ti_add e24 rfl (show (1 : Int32).toInt = 1 from rfl) (by omega) (by omega)
        exact hself62 x0 x3 v1 S7 T_S7 R_S7 ((congrFun kE_S7 x0).trans r_x0) r_x3 (by omega) m53 (by omega)
      ·
        replace c23 := ti_eqN (a := r7) (b := (0 : Int32)) c23 rfl (show (0 : Int32).toInt = 0 from rfl)
        refine ok_chk (by decide) ?_
        exact ok_ret ⟨T_S7, R_S7, (show (0 : Int) ≤ (43 : Int32).toInt ∧ (43 : Int32).toInt ≤ (65535 : Int) from (by decide))⟩
theorem t_f_X7_checkSign_62 {SZ : ZS} {self53 : Nat → Int32 → ZS → Option (Int32 × ZS)} {N53 : Nat} (hself53 : ∀ (x0 : Nat) (x3 : Int32) (S : ZS), ZT S → A7 SZ S → (zK S x0 = 7) → ((0 : Int) ≤ x3.toInt ∧ x3.toInt ≤ (64 : Int)) → (65 - x3.toInt) < (N53 : Int) → Ok (self53 x0 x3 S) (fun o => ZT o.2 ∧ A7 SZ o.2 ∧ ((0 : Int) ≤ o.1.toInt ∧ o.1.toInt ≤ (65535 : Int)))) : ∀ (n : Nat) (x0 : Nat) (x3 : Int32) (x4 : Int32) (S : ZS), ZT S → A7 SZ S → (zK S x0 = 7) → ((0 : Int) ≤ x3.toInt ∧ x3.toInt ≤ (63 : Int)) → ((0 : Int) ≤ x4.toInt ∧ x4.toInt ≤ (64 : Int)) → ((65 - x3.toInt) ≤ (N53 : Int)) → (65 - x4.toInt) < (n : Int) → Ok (f_X7_checkSign_62 self53 n x0 x3 x4 S) (fun o => ZT o.2 ∧ A7 SZ o.2 ∧ ((0 : Int) ≤ o.1.toInt ∧ o.1.toInt ≤ (65535 : Int))) := by
  intro n
  induction n with
  | zero => intro x0 x3 x4 S hT hR g0 g1 g2 w0 hm; exfalso; omega
  | succ n ih =>
    intro x0 x3 x4 S hT hR g0 g1 g2 w0 hm
    exact t_f_X7_checkSign_62s (N62 := n) hself53 ih hT hR g0 g1 g2 w0 (by omega)
theorem t_f_X7_checkSign_53s {SZ S : ZS} {self53 : Nat → Int32 → ZS → Option (Int32 × ZS)} {N53 : Nat} (hself53 : ∀ (x0 : Nat) (x3 : Int32) (S : ZS), ZT S → A7 SZ S → (zK S x0 = 7) → ((0 : Int) ≤ x3.toInt ∧ x3.toInt ≤ (64 : Int)) → (65 - x3.toInt) < (N53 : Int) → Ok (self53 x0 x3 S) (fun o => ZT o.2 ∧ A7 SZ o.2 ∧ ((0 : Int) ≤ o.1.toInt ∧ o.1.toInt ≤ (65535 : Int)))) {x0 : Nat} {x3 : Int32} (hT : ZT S) (hR : A7 SZ S) (r_x0 : zK S x0 = 7) (r_x3 : (0 : Int) ≤ x3.toInt ∧ x3.toInt ≤ (64 : Int)) (m53 : (65 - x3.toInt) ≤ (N53 : Int)) : Ok (f_X7_checkSign_53s self53 x0 x3 S) (fun o => ZT o.2 ∧ A7 SZ o.2 ∧ ((0 : Int) ≤ o.1.toInt ∧ o.1.toInt ≤ (65535 : Int))) := by
  unfold f_X7_checkSign_53s
  refine ok_if (fun c25 => ?_) (fun c25 => ?_)
  ·
    replace c25 := ti_leP (a := (64 : Int32)) (b := x3) c25 (show (64 : Int32).toInt = 64 from rfl) rfl
    refine ok_chk (by decide) ?_
    exact ok_ret ⟨hT, hR, (show (0 : Int) ≤ (35 : Int32).toInt ∧ (35 : Int32).toInt ≤ (65535 : Int) from (by decide))⟩
  ·
    replace c25 := ti_leN (a := (64 : Int32)) (b := x3) c25 (show (64 : Int32).toInt = 64 from rfl) rfl
    exact t_f_X7_checkSign_62 hself53  mFuel x0 x3 (0 : Int32) S hT hR r_x0 (by omega) (by decide) m53 (by show _ < ((200000 : Nat) : Int); have z0 : (0 : Int32).toInt = 0 := rfl; omega)
theorem t_f_X7_checkSign_53 {SZ : ZS} : ∀ (n : Nat) (x0 : Nat) (x3 : Int32) (S : ZS), ZT S → A7 SZ S → (zK S x0 = 7) → ((0 : Int) ≤ x3.toInt ∧ x3.toInt ≤ (64 : Int)) → (65 - x3.toInt) < (n : Int) → Ok (f_X7_checkSign_53  n x0 x3 S) (fun o => ZT o.2 ∧ A7 SZ o.2 ∧ ((0 : Int) ≤ o.1.toInt ∧ o.1.toInt ≤ (65535 : Int))) := by
  intro n
  induction n with
  | zero => intro x0 x3 S hT hR g0 g1  hm; exfalso; omega
  | succ n ih =>
    intro x0 x3 S hT hR g0 g1  hm
    exact t_f_X7_checkSign_53s (N53 := n)  ih hT hR g0 g1  (by omega)
theorem t_f_X7_checkSign_0 {SZ S : ZS} {x0 : Nat} {x1 : Nat} {x2 : Int32} (hT : ZT S) (hR : A7 SZ S) (r_x0 : zK S x0 = 7) (r_x1 : zK S x1 = 0) : Ok (f_X7_checkSign_0 x0 x1 x2 S) (fun o => ZT o.2 ∧ A7 SZ o.2 ∧ ((0 : Int) ≤ o.1.toInt ∧ o.1.toInt ≤ (65535 : Int))) := by
  unfold f_X7_checkSign_0
  refine ok_chk r_x0 ?_
  obtain ⟨b1, p_b1, k_b1⟩ := T_7_1 hT r_x0
  refine ok_calR p_b1 ?_
  refine ok_chk k_b1 ?_
  obtain ⟨⟨r2, S2⟩, h_r2, T_S2, A_S2, -⟩ := t_f_X0_copyFrom (x0 := b1) (x1 := x1) (SZ := S) hT (a7_0 S) k_b1 r_x1
  replace T_S2 : ZT S2 := T_S2
  replace A_S2 : A7 S S2 := A_S2
  refine ok_calR h_r2 ?_
  have q_S2 := fq_X0_copyFrom h_r2
  have kE_S2 : zK S2 = zK S := q_S2.2.2.1
  have nE_S2 : zN S2 = zN S := q_S2.2.2.2.1
  have R_S2 : A7 SZ S2 := a7_t hR A_S2
  refine ok_chk ((congrFun kE_S2 x0).trans r_x0) ?_
  obtain ⟨b3, p_b3, k_b3⟩ := T_7_1 T_S2 ((congrFun kE_S2 x0).trans r_x0)
  refine ok_calR p_b3 ?_
  refine ok_chk k_b3 ?_
  obtain ⟨⟨r4, S4⟩, h_r4, T_S4, A_S4, -⟩ := t_f_X0_play (x0 := b3) (x1 := x2) (SZ := S2) T_S2 (a7_0 S2) k_b3
  replace T_S4 : ZT S4 := T_S4
  replace A_S4 : A7 S2 S4 := A_S4
  refine ok_calR h_r4 ?_
  have q_S4 := fq_X0_play h_r4
  have kE_S4 : zK S4 = zK S2 := q_S4.2.2.1
  have nE_S4 : zN S4 = zN S2 := q_S4.2.2.2.1
  have R_S4 : A7 SZ S4 := a7_t R_S2 A_S4
  refine ok_chk ((congrFun kE_S4 x0).trans ((congrFun kE_S2 x0).trans r_x0)) ?_
  obtain ⟨b5, p_b5, k_b5⟩ := T_7_1 T_S4 ((congrFun kE_S4 x0).trans ((congrFun kE_S2 x0).trans r_x0))
  refine ok_calR p_b5 ?_
  refine ok_chk ((congrFun kE_S4 x0).trans ((congrFun kE_S2 x0).trans r_x0)) ?_
  obtain ⟨b6, p_b6, k_b6⟩ := T_7_1 T_S4 ((congrFun kE_S4 x0).trans ((congrFun kE_S2 x0).trans r_x0))
  refine ok_calR p_b6 ?_
  refine ok_chk ((congrFun kE_S4 x0).trans ((congrFun kE_S2 x0).trans r_x0)) ?_
  obtain ⟨b7, p_b7, k_b7⟩ := T_7_1 T_S4 ((congrFun kE_S4 x0).trans ((congrFun kE_S2 x0).trans r_x0))
  refine ok_calR p_b7 ?_
  refine ok_chk k_b7 ?_
  refine ok_chk k_b6 ?_
  obtain ⟨r8, h_r8, p_r8⟩ := roz (t_f_X0_kingOf (x0 := b6) (x1 := (zI S4 3 b7)) T_S4 k_b6)
  dsimp only at p_r8
  refine ok_calR h_r8 ?_
  refine ok_chk ((congrFun kE_S4 x0).trans ((congrFun kE_S2 x0).trans r_x0)) ?_
  obtain ⟨b9, p_b9, k_b9⟩ := T_7_1 T_S4 ((congrFun kE_S4 x0).trans ((congrFun kE_S2 x0).trans r_x0))
  refine ok_calR p_b9 ?_
  refine ok_chk k_b9 ?_
  refine ok_bnd (fun v10 e26 => ?_)
  have j27 := J_0_3 T_S4 k_b9
  have t_v10 : v10.toInt = 1 - (zI S4 3 b9).toInt := ti_sub e26 (show (1 : Int32).toInt = 1 from rfl) rfl (by omega) (by omega)
  refine ok_chk k_b5 ?_
  obtain ⟨r11, h_r11, p_r11⟩ := roz (t_f_X0_attacked (x0 := b5) (x1 := r8) (x2 := v10) T_S4 k_b5 (by omega))
  dsimp only at p_r11
  refine ok_calR h_r11 ?_
  refine ok_if (fun c28 => ?_) (fun c28 => ?_)
  ·
    replace c28 := ti_eqP (a := r11) (b := (0 : Int32)) c28 rfl (show (0 : Int32).toInt = 0 from rfl)
    refine ok_chk (by decide) ?_
    exact ok_ret ⟨T_S4, R_S4, (show (0 : Int) ≤ (0 : Int32).toInt ∧ (0 : Int32).toInt ≤ (65535 : Int) from (by decide))⟩
  ·
    replace c28 := ti_eqN (a := r11) (b := (0 : Int32)) c28 rfl (show (0 : Int32).toInt = 0 from rfl)
    exact t_f_X7_checkSign_53   mFuel x0 (0 : Int32) S4 T_S4 R_S4 ((congrFun kE_S4 x0).trans ((congrFun kE_S2 x0).trans r_x0)) (by decide) (by show _ < ((200000 : Nat) : Int); have z0 : (0 : Int32).toInt = 0 := rfl; omega)
theorem t_f_X7_checkSign {SZ S : ZS} {x0 : Nat} {x1 : Nat} {x2 : Int32} (hT : ZT S) (hR : A7 SZ S) (r_x0 : zK S x0 = 7) (r_x1 : zK S x1 = 0) : Ok (f_X7_checkSign x0 x1 x2 S) (fun o => ZT o.2 ∧ A7 SZ o.2 ∧ ((0 : Int) ≤ o.1.toInt ∧ o.1.toInt ≤ (65535 : Int))) := t_f_X7_checkSign_0 hT hR r_x0 r_x1
theorem t_f_X6_at_0 {S : ZS} {x0 : Nat} {x1 : Int32} (hT : ZT S) (r_x0 : zK S x0 = 6) : Ok (f_X6_at_0 x0 x1 S) (fun o => o.2 = S ∧ ((0 : Int) ≤ o.1.toInt ∧ o.1.toInt ≤ (65535 : Int)) ∧ ((0 < o.1.toInt → 0 ≤ x1.toInt ∧ x1.toInt < (zI S 1 x0).toInt))) := by
  unfold f_X6_at_0
  refine ok_if (fun c29 => ?_) (fun c29 => ?_)
  ·
    replace c29 := ti_ltP (a := x1) (b := (0 : Int32)) c29 rfl (show (0 : Int32).toInt = 0 from rfl)
    unfold f_X6_at_21
    unfold f_X6_at_22
    refine ok_chk (by decide) ?_
    exact ok_ret ⟨rfl, (show (0 : Int) ≤ (0 : Int32).toInt ∧ (0 : Int32).toInt ≤ (65535 : Int) from (by decide)), (by show (0 < (0 : Int32).toInt → 0 ≤ x1.toInt ∧ x1.toInt < (zI S 1 x0).toInt); have z : (0 : Int32).toInt = 0 := rfl; omega)⟩
  ·
    replace c29 := ti_ltN (a := x1) (b := (0 : Int32)) c29 rfl (show (0 : Int32).toInt = 0 from rfl)
    refine ok_chk r_x0 ?_
    have j30 := J_6_1 hT r_x0
    refine ok_if (fun c31 => ?_) (fun c31 => ?_)
    ·
      replace c31 := ti_leP (a := (zI S 1 x0)) (b := x1) c31 rfl rfl
      unfold f_X6_at_21
      unfold f_X6_at_22
      refine ok_chk (by decide) ?_
      exact ok_ret ⟨rfl, (show (0 : Int) ≤ (0 : Int32).toInt ∧ (0 : Int32).toInt ≤ (65535 : Int) from (by decide)), (by show (0 < (0 : Int32).toInt → 0 ≤ x1.toInt ∧ x1.toInt < (zI S 1 x0).toInt); have z : (0 : Int32).toInt = 0 := rfl; omega)⟩
    ·
      replace c31 := ti_leN (a := (zI S 1 x0)) (b := x1) c31 rfl rfl
      refine ok_chk r_x0 ?_
      obtain ⟨b1, p_b1, d_b1, l0_b1, l1_b1, l2_b1, l3_b1⟩ := hT.2.1 x0 r_x0
      have z_b1 := row_nz d_b1 l1_b1 (by omega)
      refine ok_calR p_b1 ?_
      refine ok_chk z_b1.1 ?_
      refine ok_chk (ti_inR (v := x1) z_b1.2 (by omega) (by omega)) ?_
      refine ok_bnd (fun v2 e32 => ?_)
      have t_v2 : (0 : Int) ≤ v2.toInt ∧ v2.toInt ≤ (65535 : Int) := by rw [e32]; exact hT.2.2.2.2.2.2.1 b1 z_b1.1 _
      unfold f_X6_at_22
      refine ok_chk (nar_c (v := v2) (by omega) (by omega)) ?_
      exact ok_ret ⟨rfl, (show (0 : Int) ≤ v2.toInt ∧ v2.toInt ≤ (65535 : Int) from (by omega)), (by show (0 < v2.toInt → 0 ≤ x1.toInt ∧ x1.toInt < (zI S 1 x0).toInt); omega)⟩
theorem t_f_X6_at {S : ZS} {x0 : Nat} {x1 : Int32} (hT : ZT S) (r_x0 : zK S x0 = 6) : Ok (f_X6_at x0 x1 S) (fun o => o.2 = S ∧ ((0 : Int) ≤ o.1.toInt ∧ o.1.toInt ≤ (65535 : Int)) ∧ ((0 < o.1.toInt → 0 ≤ x1.toInt ∧ x1.toInt < (zI S 1 x0).toInt))) := t_f_X6_at_0 hT r_x0
theorem t_f_X6_indexOf_6s {S : ZS} {self6 : Nat → Int32 → Int32 → ZS → Option (Int32 × ZS)} {N6 : Nat} (hself6 : ∀ (x0 : Nat) (x1 : Int32) (x3 : Int32),  (zK S x0 = 6) → ((0 : Int) ≤ x3.toInt ∧ x3.toInt ≤ (90000 : Int)) → (90001 - x3.toInt) < (N6 : Int) → Ok (self6 x0 x1 x3 S) (fun o => o.2 = S ∧ ((0 : Int) ≤ o.1.toInt ∧ o.1.toInt ≤ (90000 : Int)))) {x0 : Nat} {x1 : Int32} {x3 : Int32} (hT : ZT S) (r_x0 : zK S x0 = 6) (r_x3 : (0 : Int) ≤ x3.toInt ∧ x3.toInt ≤ (90000 : Int)) (m6 : (90001 - x3.toInt) ≤ (N6 : Int)) : Ok (f_X6_indexOf_6s self6 x0 x1 x3 S) (fun o => o.2 = S ∧ ((0 : Int) ≤ o.1.toInt ∧ o.1.toInt ≤ (90000 : Int))) := by
  unfold f_X6_indexOf_6s
  refine ok_chk r_x0 ?_
  have j33 := J_6_1 hT r_x0
  refine ok_if (fun c34 => ?_) (fun c34 => ?_)
  ·
    replace c34 := ti_leP (a := (zI S 1 x0)) (b := x3) c34 rfl rfl
    unfold f_X6_indexOf_30
    exact ok_ret ⟨rfl, (show (0 : Int) ≤ x3.toInt ∧ x3.toInt ≤ (90000 : Int) from (by omega))⟩
  ·
    replace c34 := ti_leN (a := (zI S 1 x0)) (b := x3) c34 rfl rfl
    refine ok_chk r_x0 ?_
    obtain ⟨b1, p_b1, d_b1, l0_b1, l1_b1, l2_b1, l3_b1⟩ := hT.2.1 x0 r_x0
    have z_b1 := row_nz d_b1 l1_b1 (by omega)
    refine ok_calR p_b1 ?_
    refine ok_chk z_b1.1 ?_
    refine ok_chk (ti_inR (v := x3) z_b1.2 (by omega) (by omega)) ?_
    refine ok_bnd (fun v2 e35 => ?_)
    have t_v2 : (0 : Int) ≤ v2.toInt ∧ v2.toInt ≤ (65535 : Int) := by rw [e35]; exact hT.2.2.2.2.2.2.1 b1 z_b1.1 _
    refine ok_if (fun c36 => ?_) (fun c36 => ?_)
    ·
      replace c36 := ti_eqP (a := v2) (b := x1) c36 rfl rfl
      unfold f_X6_indexOf_30
      exact ok_ret ⟨rfl, (show (0 : Int) ≤ x3.toInt ∧ x3.toInt ≤ (90000 : Int) from (by omega))⟩
    ·
      replace c36 := ti_eqN (a := v2) (b := x1) c36 rfl rfl
      refine ok_bnd (fun v3 e37 => ?_)
      have t_v3 : v3.toInt = x3.toInt + 1 := ti_add e37 rfl (show (1 : Int32).toInt = 1 from rfl) (by omega) (by omega)
      exact hself6 x0 x1 v3  r_x0 (by omega) (by omega)
theorem t_f_X6_indexOf_6 {S : ZS} (hT : ZT S) : ∀ (n : Nat) (x0 : Nat) (x1 : Int32) (x3 : Int32),  (zK S x0 = 6) → ((0 : Int) ≤ x3.toInt ∧ x3.toInt ≤ (90000 : Int)) → (90001 - x3.toInt) < (n : Int) → Ok (f_X6_indexOf_6  n x0 x1 x3 S) (fun o => o.2 = S ∧ ((0 : Int) ≤ o.1.toInt ∧ o.1.toInt ≤ (90000 : Int))) := by
  intro n
  induction n with
  | zero => intro x0 x1 x3 g0 g1  hm; exfalso; omega
  | succ n ih =>
    intro x0 x1 x3 g0 g1  hm
    exact t_f_X6_indexOf_6s (N6 := n)  ih hT g0 g1  (by omega)
theorem t_f_X6_indexOf_0 {S : ZS} {x0 : Nat} {x1 : Int32} {x2 : Int32} (hT : ZT S) (r_x0 : zK S x0 = 6) (q0 : x2.toInt ≤ 90000) : Ok (f_X6_indexOf_0 x0 x1 x2 S) (fun o => o.2 = S ∧ ((0 : Int) ≤ o.1.toInt ∧ o.1.toInt ≤ (90000 : Int))) := by
  unfold f_X6_indexOf_0
  refine ok_bnd (fun v1 e38 => ?_)
  have t_v1 := ite_b (a := x2) (b := (0 : Int32)) (c := (0 : Int32)) (d := x2) e38 rfl (show (0 : Int32).toInt = 0 from rfl) (show (0 : Int32).toInt = 0 from rfl) rfl
  exact t_f_X6_indexOf_6  hT mFuel x0 x1 v1  r_x0 (by omega) (by show _ < ((200000 : Nat) : Int); omega)
theorem t_f_X6_indexOf {S : ZS} {x0 : Nat} {x1 : Int32} {x2 : Int32} (hT : ZT S) (r_x0 : zK S x0 = 6) (q0 : x2.toInt ≤ 90000) : Ok (f_X6_indexOf x0 x1 x2 S) (fun o => o.2 = S ∧ ((0 : Int) ≤ o.1.toInt ∧ o.1.toInt ≤ (90000 : Int))) := t_f_X6_indexOf_0 hT r_x0 q0
theorem t_f_X6_holds_21s {S : ZS} {self21 : Nat → Nat → Int32 → Int32 → ZS → Option (Int32 × ZS)} {N21 : Nat} (hself21 : ∀ (x0 : Nat) (x1 : Nat) (x2 : Int32) (x3 : Int32),  (zK S x0 = 6) → (x1 < 29) → ((-2147483648 : Int) ≤ x2.toInt ∧ x2.toInt ≤ (90100 : Int)) → ((0 : Int) ≤ x3.toInt ∧ x3.toInt ≤ (30 : Int)) → (0 ≤ x2.toInt) → (x2.toInt + ((zSl.getD x1 0 : Nat) : Int) ≤ (zI S 1 x0).toInt) → (31 - x3.toInt) < (N21 : Int) → Ok (self21 x0 x1 x2 x3 S) (fun o => o.2 = S ∧ ((0 : Int) ≤ o.1.toInt ∧ o.1.toInt ≤ (1 : Int)))) {x0 : Nat} {x1 : Nat} {x2 : Int32} {x3 : Int32} (hT : ZT S) (r_x0 : zK S x0 = 6) (r_x1 : x1 < 29) (r_x2 : (-2147483648 : Int) ≤ x2.toInt ∧ x2.toInt ≤ (90100 : Int)) (r_x3 : (0 : Int) ≤ x3.toInt ∧ x3.toInt ≤ (30 : Int)) (q0 : 0 ≤ x2.toInt) (q1 : x2.toInt + ((zSl.getD x1 0 : Nat) : Int) ≤ (zI S 1 x0).toInt) (m21 : (31 - x3.toInt) ≤ (N21 : Int)) : Ok (f_X6_holds_21s self21 x0 x1 x2 x3 S) (fun o => o.2 = S ∧ ((0 : Int) ≤ o.1.toInt ∧ o.1.toInt ≤ (1 : Int))) := by
  unfold f_X6_holds_21s
  have hz := zSl_le x1
  refine ok_chk (show x1 < zSn from r_x1) ?_
  obtain ⟨r1, h_r1, p_r1⟩ := roz (t_f_J0_length_8abf5 (x0 := x1) hT r_x1)
  dsimp only at p_r1
  refine ok_calR h_r1 ?_
  refine ok_if (fun c39 => ?_) (fun c39 => ?_)
  ·
    replace c39 := ti_leP (a := r1) (b := x3) c39 rfl rfl
    refine ok_chk (by decide) ?_
    exact ok_ret ⟨rfl, (show (0 : Int) ≤ (1 : Int32).toInt ∧ (1 : Int32).toInt ≤ (1 : Int) from (by decide))⟩
  ·
    replace c39 := ti_leN (a := r1) (b := x3) c39 rfl rfl
    refine ok_chk r_x0 ?_
    obtain ⟨b2, p_b2, d_b2, l0_b2, l1_b2, l2_b2, l3_b2⟩ := hT.2.1 x0 r_x0
    have j40 := J_6_1 hT r_x0
    have z_b2 := row_nz d_b2 l1_b2 (by omega)
    refine ok_calR p_b2 ?_
    refine ok_bnd (fun v3 e41 => ?_)
    have t_v3 : v3.toInt = x2.toInt + x3.toInt := ti_add e41 rfl rfl (by omega) (by omega)
    refine ok_chk z_b2.1 ?_
    refine ok_chk (ti_inR (v := v3) z_b2.2 (by omega) (by omega)) ?_
    refine ok_bnd (fun v4 e42 => ?_)
    have t_v4 : (0 : Int) ≤ v4.toInt ∧ v4.toInt ≤ (65535 : Int) := by rw [e42]; exact hT.2.2.2.2.2.2.1 b2 z_b2.1 _
    refine ok_chk (show x1 < zSn from r_x1) ?_
    obtain ⟨r5, h_r5, p_r5⟩ := roz (t_f_J0_charAt_5068e (x0 := x1) (x1 := x3) hT r_x1 (by omega))
    dsimp only at p_r5
    refine ok_calR h_r5 ?_
    refine ok_if (fun c43 => ?_) (fun c43 => ?_)
    ·
      replace c43 := ti_eqP (a := v4) (b := r5) c43 rfl rfl
      refine ok_bnd (fun v6 e44 => ?_)
      have t_v6 : v6.toInt = x3.toInt + 1 := ti_add e44 rfl (show (1 : Int32).toInt = 1 from rfl) (by omega) (by omega)
      exact hself21 x0 x1 x2 v6  r_x0 r_x1 r_x2 (by omega) q0 q1 (by omega)
    ·
      replace c43 := ti_eqN (a := v4) (b := r5) c43 rfl rfl
      refine ok_chk (by decide) ?_
      exact ok_ret ⟨rfl, (show (0 : Int) ≤ (0 : Int32).toInt ∧ (0 : Int32).toInt ≤ (1 : Int) from (by decide))⟩
theorem t_f_X6_holds_21 {S : ZS} (hT : ZT S) : ∀ (n : Nat) (x0 : Nat) (x1 : Nat) (x2 : Int32) (x3 : Int32),  (zK S x0 = 6) → (x1 < 29) → ((-2147483648 : Int) ≤ x2.toInt ∧ x2.toInt ≤ (90100 : Int)) → ((0 : Int) ≤ x3.toInt ∧ x3.toInt ≤ (30 : Int)) → (0 ≤ x2.toInt) → (x2.toInt + ((zSl.getD x1 0 : Nat) : Int) ≤ (zI S 1 x0).toInt) → (31 - x3.toInt) < (n : Int) → Ok (f_X6_holds_21  n x0 x1 x2 x3 S) (fun o => o.2 = S ∧ ((0 : Int) ≤ o.1.toInt ∧ o.1.toInt ≤ (1 : Int))) := by
  intro n
  induction n with
  | zero => intro x0 x1 x2 x3 g0 g1 g2 g3 g4 g5  hm; exfalso; omega
  | succ n ih =>
    intro x0 x1 x2 x3 g0 g1 g2 g3 g4 g5  hm
    exact t_f_X6_holds_21s (N21 := n)  ih hT g0 g1 g2 g3 g4 g5  (by omega)
theorem t_f_X6_holds_0 {S : ZS} {x0 : Nat} {x1 : Nat} {x2 : Int32} (hT : ZT S) (r_x0 : zK S x0 = 6) (r_x1 : x1 < 29) (r_x2 : (-2147483648 : Int) ≤ x2.toInt ∧ x2.toInt ≤ (90100 : Int)) : Ok (f_X6_holds_0 x0 x1 x2 S) (fun o => o.2 = S ∧ ((0 : Int) ≤ o.1.toInt ∧ o.1.toInt ≤ (1 : Int))) := by
  unfold f_X6_holds_0
  refine ok_if (fun c45 => ?_) (fun c45 => ?_)
  ·
    replace c45 := ti_ltP (a := x2) (b := (0 : Int32)) c45 rfl (show (0 : Int32).toInt = 0 from rfl)
    unfold f_X6_holds_17
    refine ok_chk (by decide) ?_
    exact ok_ret ⟨rfl, (show (0 : Int) ≤ (0 : Int32).toInt ∧ (0 : Int32).toInt ≤ (1 : Int) from (by decide))⟩
  ·
    replace c45 := ti_ltN (a := x2) (b := (0 : Int32)) c45 rfl (show (0 : Int32).toInt = 0 from rfl)
    refine ok_chk (show x1 < zSn from r_x1) ?_
    obtain ⟨r1, h_r1, p_r1⟩ := roz (t_f_J0_length_8abf5 (x0 := x1) hT r_x1)
    dsimp only at p_r1
    refine ok_calR h_r1 ?_
    refine ok_bnd (fun v2 e46 => ?_)
    have t_v2 : v2.toInt = x2.toInt + r1.toInt := ti_add e46 rfl rfl (by omega) (by omega)
    refine ok_chk r_x0 ?_
    have j47 := J_6_1 hT r_x0
    refine ok_if (fun c48 => ?_) (fun c48 => ?_)
    ·
      replace c48 := ti_leP (a := v2) (b := (zI S 1 x0)) c48 rfl rfl
      exact t_f_X6_holds_21  hT mFuel x0 x1 x2 (0 : Int32)  r_x0 r_x1 r_x2 (by decide) (by have z0 : (0 : Int32).toInt = 0 := rfl; omega) (by have z0 : (0 : Int32).toInt = 0 := rfl; omega) (by show _ < ((200000 : Nat) : Int); have z0 : (0 : Int32).toInt = 0 := rfl; omega)
    ·
      replace c48 := ti_leN (a := v2) (b := (zI S 1 x0)) c48 rfl rfl
      unfold f_X6_holds_17
      refine ok_chk (by decide) ?_
      exact ok_ret ⟨rfl, (show (0 : Int) ≤ (0 : Int32).toInt ∧ (0 : Int32).toInt ≤ (1 : Int) from (by decide))⟩
theorem t_f_X6_holds {S : ZS} {x0 : Nat} {x1 : Nat} {x2 : Int32} (hT : ZT S) (r_x0 : zK S x0 = 6) (r_x1 : x1 < 29) (r_x2 : (-2147483648 : Int) ≤ x2.toInt ∧ x2.toInt ≤ (90100 : Int)) : Ok (f_X6_holds x0 x1 x2 S) (fun o => o.2 = S ∧ ((0 : Int) ≤ o.1.toInt ∧ o.1.toInt ≤ (1 : Int))) := t_f_X6_holds_0 hT r_x0 r_x1 r_x2
theorem t_f_X6_is_0 {S : ZS} {x0 : Nat} {x1 : Nat} (hT : ZT S) (r_x0 : zK S x0 = 6) (r_x1 : x1 < 29) : Ok (f_X6_is_0 x0 x1 S) (fun o => o.2 = S ∧ ((0 : Int) ≤ o.1.toInt ∧ o.1.toInt ≤ (1 : Int))) := by
  unfold f_X6_is_0
  refine ok_chk r_x0 ?_
  refine ok_chk (show x1 < zSn from r_x1) ?_
  obtain ⟨r1, h_r1, p_r1⟩ := roz (t_f_J0_length_8abf5 (x0 := x1) hT r_x1)
  dsimp only at p_r1
  refine ok_calR h_r1 ?_
  have j49 := J_6_1 hT r_x0
  refine ok_if (fun c50 => ?_) (fun c50 => ?_)
  ·
    replace c50 := ti_eqP (a := (zI S 1 x0)) (b := r1) c50 rfl rfl
    refine ok_chk r_x0 ?_
    obtain ⟨r2, h_r2, p_r2⟩ := roz (t_f_X6_holds (x0 := x0) (x1 := x1) (x2 := (0 : Int32)) hT r_x0 r_x1 (by decide))
    dsimp only at p_r2
    refine ok_calR h_r2 ?_
    refine ok_if (fun c51 => ?_) (fun c51 => ?_)
    ·
      replace c51 := ti_eqP (a := r2) (b := (0 : Int32)) c51 rfl (show (0 : Int32).toInt = 0 from rfl)
      unfold f_X6_is_24
      unfold f_X6_is_25
      refine ok_chk (by decide) ?_
      exact ok_ret ⟨rfl, (show (0 : Int) ≤ (0 : Int32).toInt ∧ (0 : Int32).toInt ≤ (1 : Int) from (by decide))⟩
    ·
      replace c51 := ti_eqN (a := r2) (b := (0 : Int32)) c51 rfl (show (0 : Int32).toInt = 0 from rfl)
      unfold f_X6_is_25
      refine ok_chk (by decide) ?_
      exact ok_ret ⟨rfl, (show (0 : Int) ≤ (1 : Int32).toInt ∧ (1 : Int32).toInt ≤ (1 : Int) from (by decide))⟩
  ·
    replace c50 := ti_eqN (a := (zI S 1 x0)) (b := r1) c50 rfl rfl
    unfold f_X6_is_24
    unfold f_X6_is_25
    refine ok_chk (by decide) ?_
    exact ok_ret ⟨rfl, (show (0 : Int) ≤ (0 : Int32).toInt ∧ (0 : Int32).toInt ≤ (1 : Int) from (by decide))⟩
theorem t_f_X6_is {S : ZS} {x0 : Nat} {x1 : Nat} (hT : ZT S) (r_x0 : zK S x0 = 6) (r_x1 : x1 < 29) : Ok (f_X6_is x0 x1 S) (fun o => o.2 = S ∧ ((0 : Int) ≤ o.1.toInt ∧ o.1.toInt ≤ (1 : Int))) := t_f_X6_is_0 hT r_x0 r_x1
theorem t_f_X6_isLike_15s {S : ZS} {self15 : Nat → Nat → Int32 → ZS → Option (Int32 × ZS)} {N15 : Nat} (hself15 : ∀ (x0 : Nat) (x1 : Nat) (x2 : Int32),  (zK S x0 = 6) → (zK S x1 = 6) → ((0 : Int) ≤ x2.toInt ∧ x2.toInt ≤ (90000 : Int)) → (90001 - x2.toInt) < (N15 : Int) → Ok (self15 x0 x1 x2 S) (fun o => o.2 = S ∧ ((0 : Int) ≤ o.1.toInt ∧ o.1.toInt ≤ (1 : Int)))) {x0 : Nat} {x1 : Nat} {x2 : Int32} (hT : ZT S) (r_x0 : zK S x0 = 6) (r_x1 : zK S x1 = 6) (r_x2 : (0 : Int) ≤ x2.toInt ∧ x2.toInt ≤ (90000 : Int)) (m15 : (90001 - x2.toInt) ≤ (N15 : Int)) : Ok (f_X6_isLike_15s self15 x0 x1 x2 S) (fun o => o.2 = S ∧ ((0 : Int) ≤ o.1.toInt ∧ o.1.toInt ≤ (1 : Int))) := by
  unfold f_X6_isLike_15s
  refine ok_chk r_x0 ?_
  have j52 := J_6_1 hT r_x0
  refine ok_if (fun c53 => ?_) (fun c53 => ?_)
  ·
    replace c53 := ti_leP (a := (zI S 1 x0)) (b := x2) c53 rfl rfl
    refine ok_chk (by decide) ?_
    exact ok_ret ⟨rfl, (show (0 : Int) ≤ (1 : Int32).toInt ∧ (1 : Int32).toInt ≤ (1 : Int) from (by decide))⟩
  ·
    replace c53 := ti_leN (a := (zI S 1 x0)) (b := x2) c53 rfl rfl
    refine ok_chk r_x0 ?_
    obtain ⟨b1, p_b1, d_b1, l0_b1, l1_b1, l2_b1, l3_b1⟩ := hT.2.1 x0 r_x0
    have z_b1 := row_nz d_b1 l1_b1 (by omega)
    refine ok_calR p_b1 ?_
    refine ok_chk z_b1.1 ?_
    refine ok_chk (ti_inR (v := x2) z_b1.2 (by omega) (by omega)) ?_
    refine ok_bnd (fun v2 e54 => ?_)
    have t_v2 : (0 : Int) ≤ v2.toInt ∧ v2.toInt ≤ (65535 : Int) := by rw [e54]; exact hT.2.2.2.2.2.2.1 b1 z_b1.1 _
    refine ok_chk r_x1 ?_
    have j55 := J_6_1 hT r_x1
    obtain ⟨r3, h_r3, p_r3⟩ := roz (t_f_X6_at (x0 := x1) (x1 := x2) hT r_x1)
    dsimp only at p_r3
    refine ok_calR h_r3 ?_
    refine ok_if (fun c56 => ?_) (fun c56 => ?_)
    ·
      replace c56 := ti_eqP (a := v2) (b := r3) c56 rfl rfl
      refine ok_bnd (fun v4 e57 => ?_)
      have t_v4 : v4.toInt = x2.toInt + 1 := ti_add e57 rfl (show (1 : Int32).toInt = 1 from rfl) (by omega) (by omega)
      exact hself15 x0 x1 v4  r_x0 r_x1 (by omega) (by omega)
    ·
      replace c56 := ti_eqN (a := v2) (b := r3) c56 rfl rfl
      refine ok_chk (by decide) ?_
      exact ok_ret ⟨rfl, (show (0 : Int) ≤ (0 : Int32).toInt ∧ (0 : Int32).toInt ≤ (1 : Int) from (by decide))⟩
theorem t_f_X6_isLike_15 {S : ZS} (hT : ZT S) : ∀ (n : Nat) (x0 : Nat) (x1 : Nat) (x2 : Int32),  (zK S x0 = 6) → (zK S x1 = 6) → ((0 : Int) ≤ x2.toInt ∧ x2.toInt ≤ (90000 : Int)) → (90001 - x2.toInt) < (n : Int) → Ok (f_X6_isLike_15  n x0 x1 x2 S) (fun o => o.2 = S ∧ ((0 : Int) ≤ o.1.toInt ∧ o.1.toInt ≤ (1 : Int))) := by
  intro n
  induction n with
  | zero => intro x0 x1 x2 g0 g1 g2  hm; exfalso; omega
  | succ n ih =>
    intro x0 x1 x2 g0 g1 g2  hm
    exact t_f_X6_isLike_15s (N15 := n)  ih hT g0 g1 g2  (by omega)
theorem t_f_X6_isLike_0 {S : ZS} {x0 : Nat} {x1 : Nat} (hT : ZT S) (r_x0 : zK S x0 = 6) (r_x1 : zK S x1 = 6) : Ok (f_X6_isLike_0 x0 x1 S) (fun o => o.2 = S ∧ ((0 : Int) ≤ o.1.toInt ∧ o.1.toInt ≤ (1 : Int))) := by
  unfold f_X6_isLike_0
  refine ok_chk r_x0 ?_
  refine ok_chk r_x1 ?_
  have j58 := J_6_1 hT r_x0
  have j59 := J_6_1 hT r_x1
  refine ok_if (fun c60 => ?_) (fun c60 => ?_)
  ·
    replace c60 := ti_eqP (a := (zI S 1 x0)) (b := (zI S 1 x1)) c60 rfl rfl
    exact t_f_X6_isLike_15  hT mFuel x0 x1 (0 : Int32)  r_x0 r_x1 (by decide) (by show _ < ((200000 : Nat) : Int); have z0 : (0 : Int32).toInt = 0 := rfl; omega)
  ·
    replace c60 := ti_eqN (a := (zI S 1 x0)) (b := (zI S 1 x1)) c60 rfl rfl
    refine ok_chk (by decide) ?_
    exact ok_ret ⟨rfl, (show (0 : Int) ≤ (0 : Int32).toInt ∧ (0 : Int32).toInt ≤ (1 : Int) from (by decide))⟩
theorem t_f_X6_isLike {S : ZS} {x0 : Nat} {x1 : Nat} (hT : ZT S) (r_x0 : zK S x0 = 6) (r_x1 : zK S x1 = 6) : Ok (f_X6_isLike x0 x1 S) (fun o => o.2 = S ∧ ((0 : Int) ≤ o.1.toInt ∧ o.1.toInt ≤ (1 : Int))) := t_f_X6_isLike_0 hT r_x0 r_x1
theorem t_f_X8_parseApart_49 {SZ S : ZS} {x0 : Nat} {x2 : Int32} {x3 : Int32} (hT : ZT S) (hR : A7 SZ S) (r_x0 : zK S x0 = 8) (r_x2 : (-20 : Int) ≤ x2.toInt ∧ x2.toInt ≤ (90000 : Int)) (r_x3 : (0 : Int) ≤ x3.toInt ∧ x3.toInt ≤ (3 : Int)) : Ok (f_X8_parseApart_49 x0 x2 x3 S) (fun o => ZT o.2 ∧ A7 SZ o.2 ∧ ((0 : Int) ≤ o.1.toInt ∧ o.1.toInt ≤ (1 : Int))) := by
  unfold f_X8_parseApart_49
  refine ok_if (fun c61 => ?_) (fun c61 => ?_)
  ·
    replace c61 := ti_leP (a := x2) (b := x3) c61 rfl rfl
    unfold f_X8_parseApart_94
    refine ok_if (fun c62 => ?_) (fun c62 => ?_)
    ·
      replace c62 := ti_eqP (a := x3) (b := x2) c62 rfl rfl
      unfold f_X8_parseApart_104
      refine ok_chk (by decide) ?_
      exact ok_ret ⟨hT, hR, (show (0 : Int) ≤ (1 : Int32).toInt ∧ (1 : Int32).toInt ≤ (1 : Int) from (by decide))⟩
    ·
      replace c62 := ti_eqN (a := x3) (b := x2) c62 rfl rfl
      unfold f_X8_parseApart_104
      refine ok_chk (by decide) ?_
      exact ok_ret ⟨hT, hR, (show (0 : Int) ≤ (0 : Int32).toInt ∧ (0 : Int32).toInt ≤ (1 : Int) from (by decide))⟩
  ·
    replace c61 := ti_leN (a := x2) (b := x3) c61 rfl rfl
    refine ok_chk r_x0 ?_
    refine ok_if (fun c63 => ?_) (fun c63 => ?_)
    ·
      replace c63 := ti_eqP (a := (zI S 3 x0)) (b := (1 : Int32)) c63 rfl (show (1 : Int32).toInt = 1 from rfl)
      unfold f_X8_parseApart_94
      refine ok_if (fun c64 => ?_) (fun c64 => ?_)
      ·
        replace c64 := ti_eqP (a := x3) (b := x2) c64 rfl rfl
        unfold f_X8_parseApart_104
        refine ok_chk (by decide) ?_
        exact ok_ret ⟨hT, hR, (show (0 : Int) ≤ (1 : Int32).toInt ∧ (1 : Int32).toInt ≤ (1 : Int) from (by decide))⟩
      ·
        replace c64 := ti_eqN (a := x3) (b := x2) c64 rfl rfl
        unfold f_X8_parseApart_104
        refine ok_chk (by decide) ?_
        exact ok_ret ⟨hT, hR, (show (0 : Int) ≤ (0 : Int32).toInt ∧ (0 : Int32).toInt ≤ (1 : Int) from (by decide))⟩
    ·
      replace c63 := ti_eqN (a := (zI S 3 x0)) (b := (1 : Int32)) c63 rfl (show (1 : Int32).toInt = 1 from rfl)
      refine ok_chk r_x0 ?_
      obtain ⟨b1, p_b1, k_b1, c_b1⟩ := T_8_1 hT r_x0
      have lo_b1 := M_8_1 hT r_x0 p_b1
      refine ok_calR p_b1 ?_
      refine ok_chk k_b1 ?_
      have j65 := J61_1 hT k_b1 c_b1
      obtain ⟨r2, h_r2, p_r2⟩ := roz (t_f_X6_at (x0 := b1) (x1 := x3) hT k_b1)
      dsimp only at p_r2
      refine ok_calR h_r2 ?_
      obtain ⟨r3, h_r3, p_r3⟩ := roz (t_f_X11_isRank (x0 := r2) hT )
      dsimp only at p_r3
      refine ok_calR h_r3 ?_
      refine ok_if (fun c66 => ?_) (fun c66 => ?_)
      ·
        replace c66 := ti_eqP (a := r3) (b := (0 : Int32)) c66 rfl (show (0 : Int32).toInt = 0 from rfl)
        unfold f_X8_parseApart_94
        refine ok_if (fun c67 => ?_) (fun c67 => ?_)
        ·
          replace c67 := ti_eqP (a := x3) (b := x2) c67 rfl rfl
          unfold f_X8_parseApart_104
          refine ok_chk (by decide) ?_
          exact ok_ret ⟨hT, hR, (show (0 : Int) ≤ (1 : Int32).toInt ∧ (1 : Int32).toInt ≤ (1 : Int) from (by decide))⟩
        ·
          replace c67 := ti_eqN (a := x3) (b := x2) c67 rfl rfl
          unfold f_X8_parseApart_104
          refine ok_chk (by decide) ?_
          exact ok_ret ⟨hT, hR, (show (0 : Int) ≤ (0 : Int32).toInt ∧ (0 : Int32).toInt ≤ (1 : Int) from (by decide))⟩
      ·
        replace c66 := ti_eqN (a := r3) (b := (0 : Int32)) c66 rfl (show (0 : Int32).toInt = 0 from rfl)
        refine ok_chk r_x0 ?_
        obtain ⟨b4, p_b4, k_b4, c_b4⟩ := T_8_1 hT r_x0
        have lo_b4 := M_8_1 hT r_x0 p_b4
        refine ok_calR p_b4 ?_
        refine ok_chk k_b4 ?_
        have j68 := J61_1 hT k_b4 c_b4
        obtain ⟨r5, h_r5, p_r5⟩ := roz (t_f_X6_at (x0 := b4) (x1 := x3) hT k_b4)
        dsimp only at p_r5
        refine ok_calR h_r5 ?_
        refine ok_bnd (fun v6 e69 => ?_)
        have t_v6 : v6.toInt = r5.toInt - 49 := ti_sub e69 rfl (show (49 : Int32).toInt = 49 from rfl) (by omega) (by omega)
        refine ok_chk r_x0 ?_
        refine ok_bnd (fun S7 e70 => ?_)
        have T_S7 : ZT S7 := e70.symm ▸ zt_W hT r_x0 (by decide) rfl
        have kE_S7 : zK S7 = zK S := by rw [e70]; rfl
        have nE_S7 : zN S7 = zN S := by rw [e70]; rfl
        have R_S7 : A7 SZ S7 := a7_I hR e70 r_x0 (by decide)
        refine ok_bnd (fun v8 e71 => ?_)
        have t_v8 : v8.toInt = x3.toInt + 1 := ti_add e71 rfl (show (1 : Int32).toInt = 1 from rfl) (by omega) (by omega)
        unfold f_X8_parseApart_94
        refine ok_if (fun c72 => ?_) (fun c72 => ?_)
        ·
          replace c72 := ti_eqP (a := v8) (b := x2) c72 rfl rfl
          unfold f_X8_parseApart_104
          refine ok_chk (by decide) ?_
          exact ok_ret ⟨T_S7, R_S7, (show (0 : Int) ≤ (1 : Int32).toInt ∧ (1 : Int32).toInt ≤ (1 : Int) from (by decide))⟩
        ·
          replace c72 := ti_eqN (a := v8) (b := x2) c72 rfl rfl
          unfold f_X8_parseApart_104
          refine ok_chk (by decide) ?_
          exact ok_ret ⟨T_S7, R_S7, (show (0 : Int) ≤ (0 : Int32).toInt ∧ (0 : Int32).toInt ≤ (1 : Int) from (by decide))⟩
theorem t_f_X8_parseApart_0 {SZ S : ZS} {x0 : Nat} {x1 : Int32} {x2 : Int32} (hT : ZT S) (hR : A7 SZ S) (r_x0 : zK S x0 = 8) (r_x1 : (0 : Int) ≤ x1.toInt ∧ x1.toInt ≤ (1 : Int)) (r_x2 : (-20 : Int) ≤ x2.toInt ∧ x2.toInt ≤ (90000 : Int)) : Ok (f_X8_parseApart_0 x0 x1 x2 S) (fun o => ZT o.2 ∧ A7 SZ o.2 ∧ ((0 : Int) ≤ o.1.toInt ∧ o.1.toInt ≤ (1 : Int))) := by
  unfold f_X8_parseApart_0
  refine ok_chk r_x0 ?_
  refine ok_bnd (fun S1 e73 => ?_)
  have T_S1 : ZT S1 := e73.symm ▸ zt_W hT r_x0 (by decide) rfl
  have kE_S1 : zK S1 = zK S := by rw [e73]; rfl
  have nE_S1 : zN S1 = zN S := by rw [e73]; rfl
  have R_S1 : A7 SZ S1 := a7_I hR e73 r_x0 (by decide)
  refine ok_chk ((congrFun kE_S1 x0).trans r_x0) ?_
  refine ok_bnd (fun S2 e74 => ?_)
  have T_S2 : ZT S2 := e74.symm ▸ zt_W T_S1 ((congrFun kE_S1 x0).trans r_x0) (by decide) rfl
  have kE_S2 : zK S2 = zK S1 := by rw [e74]; rfl
  have nE_S2 : zN S2 = zN S1 := by rw [e74]; rfl
  have R_S2 : A7 SZ S2 := a7_I R_S1 e74 ((congrFun kE_S1 x0).trans r_x0) (by decide)
  refine ok_if (fun c75 => ?_) (fun c75 => ?_)
  ·
    replace c75 := ti_leP (a := x2) (b := x1) c75 rfl rfl
    exact t_f_X8_parseApart_49 (S := S2)  (x0 := x0) (x2 := x2) (x3 := x1) T_S2 R_S2 ((congrFun kE_S2 x0).trans ((congrFun kE_S1 x0).trans r_x0)) r_x2 (by omega)
  ·
    replace c75 := ti_leN (a := x2) (b := x1) c75 rfl rfl
    refine ok_chk ((congrFun kE_S2 x0).trans ((congrFun kE_S1 x0).trans r_x0)) ?_
    obtain ⟨b3, p_b3, k_b3, c_b3⟩ := T_8_1 T_S2 ((congrFun kE_S2 x0).trans ((congrFun kE_S1 x0).trans r_x0))
    have lo_b3 := M_8_1 T_S2 ((congrFun kE_S2 x0).trans ((congrFun kE_S1 x0).trans r_x0)) p_b3
    refine ok_calR p_b3 ?_
    refine ok_chk k_b3 ?_
    have j76 := J61_1 T_S2 k_b3 c_b3
    obtain ⟨r4, h_r4, p_r4⟩ := roz (t_f_X6_at (x0 := b3) (x1 := x1) T_S2 k_b3)
    dsimp only at p_r4
    refine ok_calR h_r4 ?_
    obtain ⟨r5, h_r5, p_r5⟩ := roz (t_f_X11_isFile (x0 := r4) T_S2 )
    dsimp only at p_r5
    refine ok_calR h_r5 ?_
    refine ok_if (fun c77 => ?_) (fun c77 => ?_)
    ·
      replace c77 := ti_eqP (a := r5) (b := (0 : Int32)) c77 rfl (show (0 : Int32).toInt = 0 from rfl)
      exact t_f_X8_parseApart_49 (S := S2)  (x0 := x0) (x2 := x2) (x3 := x1) T_S2 R_S2 ((congrFun kE_S2 x0).trans ((congrFun kE_S1 x0).trans r_x0)) r_x2 (by omega)
    ·
      replace c77 := ti_eqN (a := r5) (b := (0 : Int32)) c77 rfl (show (0 : Int32).toInt = 0 from rfl)
      refine ok_chk ((congrFun kE_S2 x0).trans ((congrFun kE_S1 x0).trans r_x0)) ?_
      obtain ⟨b6, p_b6, k_b6, c_b6⟩ := T_8_1 T_S2 ((congrFun kE_S2 x0).trans ((congrFun kE_S1 x0).trans r_x0))
      have lo_b6 := M_8_1 T_S2 ((congrFun kE_S2 x0).trans ((congrFun kE_S1 x0).trans r_x0)) p_b6
      refine ok_calR p_b6 ?_
      refine ok_chk k_b6 ?_
      have j78 := J61_1 T_S2 k_b6 c_b6
      obtain ⟨r7, h_r7, p_r7⟩ := roz (t_f_X6_at (x0 := b6) (x1 := x1) T_S2 k_b6)
      dsimp only at p_r7
      refine ok_calR h_r7 ?_
      refine ok_bnd (fun v8 e79 => ?_)
      have t_v8 : v8.toInt = r7.toInt - 97 := ti_sub e79 rfl (show (97 : Int32).toInt = 97 from rfl) (by omega) (by omega)
      refine ok_chk ((congrFun kE_S2 x0).trans ((congrFun kE_S1 x0).trans r_x0)) ?_
      refine ok_bnd (fun S9 e80 => ?_)
      have T_S9 : ZT S9 := e80.symm ▸ zt_W T_S2 ((congrFun kE_S2 x0).trans ((congrFun kE_S1 x0).trans r_x0)) (by decide) rfl
      have kE_S9 : zK S9 = zK S2 := by rw [e80]; rfl
      have nE_S9 : zN S9 = zN S2 := by rw [e80]; rfl
      have R_S9 : A7 SZ S9 := a7_I R_S2 e80 ((congrFun kE_S2 x0).trans ((congrFun kE_S1 x0).trans r_x0)) (by decide)
      refine ok_bnd (fun v10 e81 => ?_)
      have t_v10 : v10.toInt = x1.toInt + 1 := ti_add e81 rfl (show (1 : Int32).toInt = 1 from rfl) (by omega) (by omega)
      exact t_f_X8_parseApart_49 (S := S9)  (x0 := x0) (x2 := x2) (x3 := v10) T_S9 R_S9 ((congrFun kE_S9 x0).trans ((congrFun kE_S2 x0).trans ((congrFun kE_S1 x0).trans r_x0))) r_x2 (by omega)
theorem t_f_X8_parseApart {SZ S : ZS} {x0 : Nat} {x1 : Int32} {x2 : Int32} (hT : ZT S) (hR : A7 SZ S) (r_x0 : zK S x0 = 8) (r_x1 : (0 : Int) ≤ x1.toInt ∧ x1.toInt ≤ (1 : Int)) (r_x2 : (-20 : Int) ≤ x2.toInt ∧ x2.toInt ≤ (90000 : Int)) : Ok (f_X8_parseApart x0 x1 x2 S) (fun o => ZT o.2 ∧ A7 SZ o.2 ∧ ((0 : Int) ≤ o.1.toInt ∧ o.1.toInt ≤ (1 : Int))) := t_f_X8_parseApart_0 hT hR r_x0 r_x1 r_x2
end
section
/-- how many of the first entries are null -/
noncomputable def nulls (f : Nat → Option Nat) : Nat → Nat
  | 0 => 0
  | n + 1 => nulls f n + (if f n = none then 1 else 0)
/-- what a cell may still grow by -/
noncomputable def pot (S : ZS) (a : Nat) : Nat := if zK S a = 6 then rK a - zcap S ((zP S 0 a).getD 0) else if zK S a = 16 then 430 * nulls (zB S a) 301 else if zK S a = 17 then 850 * nulls (zB S a) 8 else 0
noncomputable def sumN (f : Nat → Nat) : Nat → Nat
  | 0 => 0
  | n + 1 => sumN f n + f n
noncomputable def PS (S : ZS) : Nat := sumN (pot S) (zt S)
theorem sumN_congr {f g : Nat → Nat} : ∀ n, (∀ a, a < n → f a = g a) → sumN f n = sumN g n
  | 0, _ => rfl
  | n + 1, h => by
    show sumN f n + f n = sumN g n + g n
    rw [sumN_congr n (fun a ha => h a (by omega)), h n (by omega)]
theorem sumN_up {f g : Nat → Nat} {x : Nat} : ∀ n, x < n → (∀ a, a < n → a ≠ x → f a = g a) → sumN f n + g x = sumN g n + f x
  | 0, h, _ => by omega
  | n + 1, h, h2 => by
    show sumN f n + f n + g x = sumN g n + g n + f x
    by_cases e : n = x
    · rw [sumN_congr (f := f) (g := g) n (fun a ha => h2 a (by omega) (by omega)), e]
      omega
    · have := sumN_up (f := f) (g := g) (x := x) n (by omega) (fun a ha hx => h2 a (by omega) hx)
      rw [h2 n (by omega) e]
      omega
theorem nulls_up {f g : Nat → Option Nat} {x c : Nat} (hx : g x = none) (hf : f x = some c) (h : ∀ a, a ≠ x → f a = g a) : ∀ n, (x < n → nulls f n + 1 = nulls g n) ∧ (n ≤ x → nulls f n = nulls g n)
  | 0 => ⟨fun h => by omega, fun _ => rfl⟩
  | n + 1 => by
    have ih := nulls_up hx hf h n
    have e : nulls f (n + 1) = nulls f n + (if f n = none then 1 else 0) := rfl
    have e2 : nulls g (n + 1) = nulls g n + (if g n = none then 1 else 0) := rfl
    by_cases hn : n = x
    · rw [e, e2, hn, hf, hx]
      have h3 := ih.2 (by omega)
      rw [hn] at h3
      refine ⟨fun _ => ?_, fun h4 => by omega⟩
      rw [h3]; simp
    · rw [e, e2, h n hn]
      refine ⟨fun h4 => ?_, fun h4 => ?_⟩
      · have := ih.1 (by omega); omega
      · have := ih.2 (by omega); omega
noncomputable def nk (S : ZS) (r b k : Nat) : Nat := if k = 0 then r else (zB S b k).getD r
noncomputable def cn (S : ZS) (g : Nat) : Nat := (zI S 3 g).toInt.toNat
noncomputable def nF (S : ZS) (j r b k : Nat) : Int := (zI S j (nk S r b k)).toInt
noncomputable def TY (S : ZS) (g r b : Nat) : Prop := (∀ k, 1 ≤ k → k ≤ cn S g → zB S b k ≠ none) ∧ TTb (cn S g) (nF S 0 r b) (fun _ => 0) ∧ ∃ L, TTl (cn S g) (nF S 0 r b) (nF S 2 r b) (nF S 3 r b) L
noncomputable def TX (S : ZS) : Prop := (zK S 35 = 1 ∧ zK S 99 = 1) ∧ (zP S 1 35 = some 38 ∧ zP S 1 99 = some 102) ∧ (zP S 2 35 = some 40 ∧ zP S 2 99 = some 104) ∧ (zK S 38 = 4 ∧ zK S 102 = 4) ∧ (zK S 40 = 16 ∧ zK S 104 = 16) ∧ (∀ i c, zB S 40 i = some c → c ≠ 38 ∧ c ≠ 102 ∧ (∀ j, zB S 104 j ≠ some c) ∧ ∀ j, zB S 40 j = some c → j = i) ∧ (∀ i c, zB S 104 i = some c → c ≠ 38 ∧ c ≠ 102 ∧ (∀ j, zB S 40 j ≠ some c) ∧ ∀ j, zB S 104 j = some c → j = i)
noncomputable def TZ (S : ZS) : Prop := TX S ∧ TY S 35 38 40 ∧ TY S 99 102 104
/-- the room and what may still grow do not rise together -/
noncomputable def RM (S S' : ZS) : Prop := zu S' + 2 * PS S' ≤ zu S + 2 * PS S ∧ 8 * zt S' + PS S' ≤ 8 * zt S + PS S ∧ zu S ≤ zu S' ∧ zt S ≤ zt S'
noncomputable def RP (S S' : ZS) : Prop := RM S S' ∧ (TZ S → TZ S') ∧ A7 S S'
theorem rm_0 (S : ZS) : RM S S := ⟨Nat.le_refl _, Nat.le_refl _, Nat.le_refl _, Nat.le_refl _⟩
theorem rm_t {S S1 S2 : ZS} (h : RM S S1) (h2 : RM S1 S2) : RM S S2 := ⟨Nat.le_trans h2.1 h.1, Nat.le_trans h2.2.1 h.2.1, Nat.le_trans h.2.2.1 h2.2.2.1, Nat.le_trans h.2.2.2 h2.2.2.2⟩
theorem rp_0 (S : ZS) : RP S S := ⟨rm_0 S, fun h => h, a7_0 S⟩
theorem rp_t {S S1 S2 : ZS} (h : RP S S1) (h2 : RP S1 S2) : RP S S2 := ⟨rm_t h.1 h2.1, fun t => h2.2.1 (h.2.1 t), a7_t h.2.2 h2.2.2⟩
theorem nk_kind {S : ZS} {r b k : Nat} (hT : ZT S) (hr : zK S r = 4) (hb : zK S b = 16) : zK S (nk S r b k) = 4 := by
  unfold nk
  split
  · exact hr
  · cases h : zB S b k with
    | none => exact hr
    | some c => exact (hT.2.2.2.1 b).2.1 hb k c h
theorem ty_x {S S' : ZS} {g r b : Nat} (h : TY S g r b) (e1 : zB S' b = zB S b) (e2 : zI S' 3 g = zI S 3 g) (e3 : ∀ k, zI S' 0 (nk S r b k) = zI S 0 (nk S r b k) ∧ zI S' 2 (nk S r b k) = zI S 2 (nk S r b k) ∧ zI S' 3 (nk S r b k) = zI S 3 (nk S r b k)) : TY S' g r b := by
  have en : ∀ k, nk S' r b k = nk S r b k := fun k => by unfold nk; rw [e1]
  have ec : cn S' g = cn S g := by unfold cn; rw [e2]
  have f0 : nF S' 0 r b = nF S 0 r b := funext (fun k => by unfold nF; rw [en, (e3 k).1])
  have f2 : nF S' 2 r b = nF S 2 r b := funext (fun k => by unfold nF; rw [en, (e3 k).2.1])
  have f3 : nF S' 3 r b = nF S 3 r b := funext (fun k => by unfold nF; rw [en, (e3 k).2.2])
  unfold TY
  rw [ec, f0, f2, f3, e1]
  exact h
theorem tx_x {S S' : ZS} (h : TX S) (hK : ∀ a, zK S a < 18 → zK S' a = zK S a) (hP : ∀ a j, zK S a = 1 → j = 1 ∨ j = 2 → zP S' j a = zP S j a) (hB : ∀ a, zK S a = 16 → zB S' a = zB S a) : TX S' := by
  obtain ⟨⟨a1, a2⟩, ⟨b1, b2⟩, ⟨c1, c2⟩, ⟨d1, d2⟩, ⟨e1, e2⟩, f, g⟩ := h
  refine ⟨⟨(hK 35 (by omega)).trans a1, (hK 99 (by omega)).trans a2⟩, ⟨(hP 35 1 a1 (Or.inl rfl)).trans b1, (hP 99 1 a2 (Or.inl rfl)).trans b2⟩, ⟨(hP 35 2 a1 (Or.inr rfl)).trans c1, (hP 99 2 a2 (Or.inr rfl)).trans c2⟩, ⟨(hK 38 (by omega)).trans d1, (hK 102 (by omega)).trans d2⟩, ⟨(hK 40 (by omega)).trans e1, (hK 104 (by omega)).trans e2⟩, ?_, ?_⟩
  · rw [hB 40 e1, hB 104 e2]; exact f
  · rw [hB 40 e1, hB 104 e2]; exact g
theorem tz_x {S S' : ZS} (hT : ZT S) (h : TZ S) (hK : ∀ a, zK S a < 18 → zK S' a = zK S a) (hP : ∀ a j, zK S a = 1 → j = 1 ∨ j = 2 → zP S' j a = zP S j a) (hB : ∀ a, zK S a = 16 → zB S' a = zB S a) (hI : ∀ a, zK S a = 4 → zI S' 0 a = zI S 0 a ∧ zI S' 2 a = zI S 2 a ∧ zI S' 3 a = zI S 3 a) (hG : ∀ a, zK S a = 1 → zI S' 3 a = zI S 3 a) : TZ S' := by
  obtain ⟨hx, h1, h2⟩ := h
  have hx' := hx
  obtain ⟨⟨a1, a2⟩, ⟨b1, b2⟩, ⟨c1, c2⟩, ⟨d1, d2⟩, ⟨e1, e2⟩, f, g⟩ := hx'
  exact ⟨tx_x hx hK hP hB, ty_x h1 (hB 40 e1) (hG 35 a1) (fun k => hI _ (nk_kind hT d1 e1)), ty_x h2 (hB 104 e2) (hG 99 a2) (fun k => hI _ (nk_kind hT d2 e2))⟩
noncomputable abbrev tdis (W V : List (Nat × Nat)) (B : List Nat) : Prop := (4, 0) ∉ W ∧ (4, 2) ∉ W ∧ (4, 3) ∉ W ∧ (1, 3) ∉ W ∧ (1, 1) ∉ V ∧ (1, 2) ∉ V ∧ 16 ∉ B
theorem tz_fr {W V : List (Nat × Nat)} {B : List Nat} {S S' : ZS} (hT : ZT S) (f : FrZ W V B S S') (hd : tdis W V B) (h : TZ S) : TZ S' := by
  obtain ⟨-, -, ff⟩ := f hT.2.2.2.2.1
  obtain ⟨w0, w2, w3, w4, v1, v2, b6⟩ := hd
  refine tz_x hT h (fun a ha => (ff a ha).1) (fun a j ha hj => ?_) (fun a ha => ?_) (fun a ha => ?_) (fun a ha => ?_)
  · refine (ff a (by omega)).2.2.2.1 j ?_
    rw [ha]
    rcases hj with e | e <;> rw [e] <;> assumption
  · exact (ff a (by omega)).2.2.2.2 (by rw [ha]; exact b6)
  · have := (ff a (by omega)).2.2.1
    rw [ha] at this
    exact ⟨this 0 w0, this 2 w2, this 3 w3⟩
  · have := (ff a (by omega)).2.2.1
    rw [ha] at this
    exact this 3 w4
theorem ps_f {W V : List (Nat × Nat)} {B : List Nat} {S S' : ZS} (hT : ZT S) (q : EqT S S') (f : FrZ W V B S S') (hv : (6, 0) ∉ V) : PS S' = PS S := by
  obtain ⟨-, -, ff⟩ := f hT.2.2.2.2.1
  obtain ⟨q1, q2, q3, q4, q5⟩ := q
  unfold PS
  rw [q1]
  refine sumN_congr _ (fun a _ => ?_)
  unfold pot
  rw [q3, q5]
  by_cases e : zK S a = 6
  · rw [if_pos e, if_pos e, (ff a (by omega)).2.2.2.1 0 (by rw [e]; exact hv)]
    unfold zcap
    rw [q4]
  · rw [if_neg e, if_neg e]
theorem rm_f {W V : List (Nat × Nat)} {B : List Nat} {SZ S S' : ZS} (hR : RM SZ S) (hT : ZT S) (q : EqT S S') (f : FrZ W V B S S') (hv : (6, 0) ∉ V) : RM SZ S' := by
  have e := ps_f hT q f hv
  unfold RM
  rw [e, q.1, q.2.1]
  exact hR
theorem rp_f {W V : List (Nat × Nat)} {B : List Nat} {SZ S S' : ZS} (hR : RP SZ S) (hT : ZT S) (q : EqT S S') (f : FrZ W V B S S') (hv : (6, 0) ∉ V ∧ tdis W V B) (ha : A7 S S') : RP SZ S' := ⟨rm_f hR.1 hT q f hv.1, fun t => tz_fr hT f hv.2 (hR.2.1 t), a7_t hR.2.2 ha⟩
theorem rm_I {j a : Nat} {v : Int32} {SZ S S' : ZS} (hR : RM SZ S) (e : S' = zsI S j a v) : RM SZ S' := by
  subst e; exact hR
theorem rm_A {a i : Nat} {v : Int32} {SZ S S' : ZS} (hR : RM SZ S) (e : S' = zsA S a i v) : RM SZ S' := by
  subst e; exact hR
theorem rm_P {j a k b : Nat} {SZ S S' : ZS} (hR : RM SZ S) (hT : ZT S) (hk : zK S a = k) (e : S' = zsP S j a (some b)) (hv : (k, j) ≠ (6, 0)) : RM SZ S' := by
  have f : FrZ [] [(k, j)] [] S S' := frz_P frz_0 hk e (List.mem_singleton.2 rfl)
  refine rm_f hR hT (by subst e; exact eqt_0) f ?_
  intro h
  exact hv (List.mem_singleton.1 h).symm
theorem rp_I {j a k : Nat} {v : Int32} {SZ S S' : ZS} (hR : RP SZ S) (hT : ZT S) (hk : zK S a = k) (e : S' = zsI S j a v) (hd : tdis [(k, j)] [] [] ∧ (k, j) ≠ (6, 1)) : RP SZ S' := ⟨rm_I hR.1 e, fun t => tz_fr hT (frz_I frz_0 hk e (List.mem_singleton.2 rfl)) hd.1 (hR.2.1 t), a7_I hR.2.2 e hk hd.2⟩
theorem rp_I6 {a : Nat} {v : Int32} {SZ S S' : ZS} (hR : RP SZ S) (hT : ZT S) (hk : zK S a = 6) (e : S' = zsI S 1 a v) (hc : rc a ≠ 2) : RP SZ S' := ⟨rm_I hR.1 e, fun t => tz_fr (W := [(6, 1)]) (V := []) (B := []) hT (frz_I frz_0 hk e (List.mem_singleton.2 rfl)) (by decide) (hR.2.1 t), a7_I6 hR.2.2 e hc⟩
theorem rp_A {a i : Nat} {v : Int32} {SZ S S' : ZS} (hR : RP SZ S) (hT : ZT S) (e : S' = zsA S a i v) (hk : zK S a = 14) (hn : zN S a ≠ 7) : RP SZ S' := ⟨rm_A hR.1 e, fun t => tz_fr (W := []) (V := []) (B := []) hT (frz_A frz_0 e) (by decide) (hR.2.1 t), a7_A hR.2.2 e hT hk rfl hn⟩
/-- as RP, but the row x itself may change -/
noncomputable def RPc (x : Nat) (S S' : ZS) : Prop := RM S S' ∧ (TZ S → TZ S') ∧ A6 S S' ∧ (rc x ≠ 2 → XR S S')
theorem rpc_of {x : Nat} {S S' : ZS} (h : RP S S') : RPc x S S' := ⟨h.1, h.2.1, h.2.2.1, fun _ => h.2.2.2⟩
theorem rpc_to {x : Nat} {S S' : ZS} (h : RPc x S S') (hc : rc x ≠ 2) : RP S S' := ⟨h.1, h.2.1, h.2.2.1, h.2.2.2 hc⟩
theorem rpc_t {x : Nat} {S S1 S2 : ZS} (h : RPc x S S1) (h2 : RPc x S1 S2) : RPc x S S2 := ⟨rm_t h.1 h2.1, fun t => h2.2.1 (h.2.1 t), a6_t h.2.2.1 h2.2.2.1, fun c => xr_t (h.2.2.2 c) (h2.2.2.2 c)⟩
theorem rpc_I {x : Nat} {v : Int32} {SZ S S' : ZS} (hR : RPc x SZ S) (hT : ZT S) (hk : zK S x = 6) (e : S' = zsI S 1 x v) : RPc x SZ S' := ⟨rm_I hR.1 e, fun t => tz_fr (W := [(6, 1)]) (V := []) (B := []) hT (frz_I frz_0 hk e (List.mem_singleton.2 rfl)) (by decide) (hR.2.1 t), by subst e; exact hR.2.2.1, fun c => by subst e; exact xr_t (hR.2.2.2 c) (xr_I6 c)⟩
theorem rpc_A {x a i : Nat} {v : Int32} {SZ S S' : ZS} (hR : RPc x SZ S) (hT : ZT S) (hx : zK S x = 6) (hp : zP S 0 x = some a) (hk : zK S a = 13) (e : S' = zsA S a i v) : RPc x SZ S' := ⟨rm_A hR.1 e, fun t => tz_fr (W := []) (V := []) (B := []) hT (frz_A frz_0 e) (by decide) (hR.2.1 t), a6_t hR.2.2.1 (fun b h1 h2 => ⟨by rw [e]; exact h1, by rw [e]; exact h2, by
  rw [e]
  exact va_up_ne _ _ (fun e2 => by rw [e2, hk] at h1; exact absurd h1 (by decide))⟩), fun c => xr_t (hR.2.2.2 c) (by rw [e]; exact xr_A13 hT hx hp (fun h0 => by have := hT.2.2.2.2.2.1; rw [← h0, hk] at this; exact absurd this (by decide)) c)⟩
theorem rp_P {j a k b : Nat} {SZ S S' : ZS} (hR : RP SZ S) (hT : ZT S) (hk : zK S a = k) (e : S' = zsP S j a (some b)) (hv : (k, j) ≠ (6, 0) ∧ tdis [] [(k, j)] []) : RP SZ S' := ⟨rm_P hR.1 hT hk e hv.1, fun t => tz_fr hT (frz_P frz_0 hk e (List.mem_singleton.2 rfl)) hv.2 (hR.2.1 t), a7_P hR.2.2 e hk hv.1⟩
theorem pT13 (j : Nat) : (pT 13 j).1 = 99 := by unfold pT; simp
theorem bT13 (j : Nat) : bT 13 j = tF := by unfold bT; simp
theorem cM13 (j : Nat) : cM 13 j = 0 := by unfold cM; simp
theorem cT13 (j : Nat) : cT 13 j = 4 := by unfold cT; simp
theorem cM6 (j : Nat) : cM 6 j = 0 := by unfold cM; simp
theorem cT6 (j : Nat) : cT 6 j = 4 := by unfold cT; simp
theorem itp {c : Prop} [Decidable c] {x y : Nat × Nat} (hx : x.1 < 18 ∨ x.1 = 99) (hy : y.1 < 18 ∨ y.1 = 99) : (if c then x else y).1 < 18 ∨ (if c then x else y).1 = 99 := by
  split
  · exact hx
  · exact hy
theorem pT_lt (k j : Nat) (h : (pT k j).1 ≠ 99) : (pT k j).1 < 18 := by
  have : (pT k j).1 < 18 ∨ (pT k j).1 = 99 := by
    unfold pT
    repeat (refine itp (by decide) ?_)
    decide
  exact this.resolve_right h
theorem zt_A13 {S : ZS} {a i : Nat} {v : Int32} (h : ZT S) (hv : (0 : Int) ≤ v.toInt ∧ v.toInt ≤ (65535 : Int)) : ZT (zsA S a i v) := by
  obtain ⟨h1, h2, h3, h4, h5, h6, h7, h8, h9, h10, h11⟩ := h
  refine ⟨h1, h2, h3, h4, h5, h6, ?_, h8, h9, h10, h11⟩
  intro b hb k
  show (0 : Int) ≤ (va_up (zA S) a (upd (zA S a) i v) b k).toInt ∧ (va_up (zA S) a (upd (zA S a) i v) b k).toInt ≤ (65535 : Int)
  have hb' : zK S b = 13 := hb
  by_cases e : b = a
  · rw [e, va_up_self]
    by_cases e2 : k = i
    · rw [e2, upd_self]; exact hv
    · rw [upd_ne e2]; exact h7 a (by rw [← e]; exact hb') k
  · rw [va_up_ne _ _ e]; exact h7 b hb' k
end
section
/-- the state after a row has got a longer array -/
noncomputable def zgr (S : ZS) (x0 b n l : Nat) : ZS := zsP (zsD (zsNewA S (zt S) 13 n) b (zt S) 0 0 l) 0 x0 (some (zt S))
theorem zt_grow {S : ZS} {x0 b n l : Nat} (hT : ZT S) (hk : zK S x0 = 6) (hb : zP S 0 x0 = some b) (hn : (zI S 1 x0).toInt ≤ (n : Int)) (hK : n ≤ rK x0) : ZT (zgr S x0 b n l) := by
  obtain ⟨h1, h2, h3, h4, h5, h6, h7, h8, h9, h10, h11⟩ := hT
  have hq : 18 ≤ zK S (zt S) := h5 _ (Nat.le_refl _)
  have nq : ∀ a, zK S a < 18 → a ≠ zt S := fun a ha e => by rw [e] at ha; omega
  have eK : zK (zgr S x0 b n l) = va_up (zK S) (zt S) 13 := rfl
  have eN : zN (zgr S x0 b n l) = va_up (zN S) (zt S) n := rfl
  have eP : zP (zgr S x0 b n l) = va_up (zP S) 0 (va_up (zP S 0) x0 (some (zt S))) := rfl
  have eI : zI (zgr S x0 b n l) = zI S := rfl
  have eB : zB (zgr S x0 b n l) = va_up (zB S) (zt S) (fun _ => none) := rfl
  have et : zt (zgr S x0 b n l) = zt S + 1 := rfl
  have kO : ∀ a, zK S a < 18 → zK (zgr S x0 b n l) a = zK S a := fun a ha => by rw [eK, va_up_ne _ _ (nq a ha)]
  have nO : ∀ a, zK S a < 18 → zN (zgr S x0 b n l) a = zN S a := fun a ha => by rw [eN, va_up_ne _ _ (nq a ha)]
  have kC : ∀ a, zK (zgr S x0 b n l) a < 18 → a = zt S ∨ zK S a < 18 := fun a ha => by
    by_cases e : a = zt S
    · exact Or.inl e
    · rw [eK, va_up_ne _ _ e] at ha; exact Or.inr ha
  have kq : zK (zgr S x0 b n l) (zt S) = 13 := by rw [eK, va_up_self]
  have pO : ∀ j a, ¬ (j = 0 ∧ a = x0) → zP (zgr S x0 b n l) j a = zP S j a := fun j a h => by
    rw [eP]
    by_cases e : j = 0
    · rw [e, va_up_self]; exact va_up_ne _ _ (fun e2 => h ⟨e, e2⟩)
    · rw [va_up_ne _ _ e]
  have pX : zP (zgr S x0 b n l) 0 x0 = some (zt S) := by rw [eP, va_up_self, va_up_self]
  have bO : ∀ a, zK S a < 18 → zB (zgr S x0 b n l) a = zB S a := fun a ha => by rw [eB, va_up_ne _ _ (nq a ha)]
  have cO : ∀ c, (c = 0 ∨ zK S c = 13) → zcap (zgr S x0 b n l) c = zcap S c := fun c hc => by
    unfold zcap
    rcases hc with e | e
    · rw [if_pos e, if_pos e]
    · rw [nO c (by omega)]
  refine ⟨?_, ?_, ?_, ?_, ?_, ?_, ?_, ?_, ?_, ?_, ?_⟩
  · intro a j ha hj
    rcases kC a ha with e | e
    · rw [e, kq] at hj; exact absurd (pT13 j) hj
    · rw [kO a e] at hj ⊢
      have hx : ¬ (j = 0 ∧ a = x0) := fun ⟨e1, e2⟩ => by rw [e1, e2, hk] at hj; exact hj rfl
      rw [pO j a hx]
      obtain ⟨c, c1, c2, c3⟩ := h1 a j e hj
      have hc : zK S c < 18 := by rw [c2]; exact pT_lt _ _ hj
      exact ⟨c, c1, (kO c hc).trans c2, by rw [nO c hc]; exact c3⟩
  · intro a ha
    rcases kC a (by omega) with e | e
    · rw [e, kq] at ha; omega
    · rw [kO a e] at ha
      obtain ⟨c, c1, c2, c3, c4, c5, c6⟩ := h2 a ha
      rw [eI]
      by_cases ex : a = x0
      · rw [ex] at c3 c5 ⊢
        refine ⟨zt S, pX, Or.inr kq, c3, ?_, c5, ?_⟩
        · unfold zcap; rw [if_neg (by omega), eN, va_up_self]; exact hn
        · unfold zcap; rw [if_neg (by omega), eN, va_up_self]; exact hK
      · refine ⟨c, (pO 0 a (fun h => ex h.2)).trans c1, ?_, c3, ?_, c5, ?_⟩
        · rcases c2 with f | f
          · exact Or.inl f
          · exact Or.inr ((kO c (by omega)).trans f)
        · rw [cO c c2]; exact c4
        · rw [cO c c2]; exact c6
  · intro a j ha
    rcases kC a ha with e | e
    · rw [e, kq, bT13]; exact tf_b _
    · rw [kO a e, eI]; exact h3 a j e
  · intro a
    refine ⟨fun ha i hi => ?_, fun ha i c hc => ?_, fun ha i c hc => ?_⟩
    · rcases kC a (by omega) with e | e
      · rw [e, kq] at ha; omega
      · rw [kO a e] at ha
        rw [bO a e]
        obtain ⟨c, c1, c2⟩ := (h4 a).1 ha i hi
        exact ⟨c, c1, (kO c (by omega)).trans c2⟩
    · rcases kC a (by omega) with e | e
      · rw [e, kq] at ha; omega
      · rw [kO a e] at ha
        rw [bO a e] at hc
        have := (h4 a).2.1 ha i c hc
        exact (kO c (by omega)).trans this
    · rcases kC a (by omega) with e | e
      · rw [e, kq] at ha; omega
      · rw [kO a e] at ha
        rw [bO a e] at hc
        have := (h4 a).2.2 ha i c hc
        exact (kO c (by omega)).trans this
  · intro a ha
    rw [et] at ha
    rw [eK, va_up_ne _ _ (by omega)]
    exact h5 a (by omega)
  · rw [eK, va_up_ne _ _ (by omega)]; exact h6
  · intro a ha i
    by_cases e : a = zt S
    · rw [e]
      have eA : zA (zgr S x0 b n l) (zt S) = if b = 0 then va_up (zA S) (zt S) (fun _ => 0) (zt S) else va_cpy (va_up (zA S) (zt S) (fun _ => 0) b) (va_up (zA S) (zt S) (fun _ => 0) (zt S)) 0 0 l := by
        show va_up _ (zt S) _ (zt S) = _
        rw [va_up_self]; rfl
      rw [eA, va_up_self]
      by_cases e2 : b = 0
      · rw [if_pos e2]; show (0 : Int) ≤ (0 : Int32).toInt ∧ (0 : Int32).toInt ≤ (65535 : Int); decide
      · rw [if_neg e2]
        have hb13 : zK S b = 13 := by
          obtain ⟨c, c1, c2, -⟩ := h2 x0 hk
          rw [hb] at c1
          cases c1
          exact c2.resolve_left e2
        rw [va_up_ne _ _ (nq b (by omega))]
        unfold va_cpy
        split
        · exact h7 b hb13 _
        · show (0 : Int) ≤ (0 : Int32).toInt ∧ (0 : Int32).toInt ≤ (65535 : Int); decide
    · have e3 : zA (zgr S x0 b n l) a = zA S a := by
        show va_up _ (zt S) _ a = _
        rw [va_up_ne _ _ e]
        show va_up (zA S) (zt S) _ a = _
        rw [va_up_ne _ _ e]
      rw [e3]
      rw [eK, va_up_ne _ _ e] at ha
      exact h7 a ha i
  · intro a j ha c hc
    rcases kC a ha with e | e
    · rw [e, kq, cM13, cT13]; exact ⟨Nat.zero_le _, rc_le _⟩
    · rw [kO a e]
      by_cases ex : j = 0 ∧ a = x0
      · rw [ex.2, hk, cM6, cT6]; exact ⟨Nat.zero_le _, rc_le _⟩
      · rw [pO j a ex] at hc; exact h8 a j e c hc
  · intro a ha c hc i hi
    rcases kC a (by omega) with e | e
    · rw [e, kq] at ha; omega
    · rw [kO a e] at ha
      rw [pO 4 a (fun h => absurd h.1 (by decide))] at hc
      rw [eI] at hi
      obtain ⟨d, d1, d2, -⟩ := h1 a 4 e (by rw [ha]; decide)
      rw [hc] at d1
      cases d1
      rw [ha] at d2
      rw [bO c (by rw [d2]; decide)]
      exact h9 a ha c hc i hi
  · exact h10
  · refine ⟨by show 109 ≤ zt S + 1; omega, fun a a' c ka ka' pa pa' => ?_⟩
    have ka2 : a ≠ zt S := fun e => by rw [e, kq] at ka; omega
    have ka2' : a' ≠ zt S := fun e => by rw [e, kq] at ka'; omega
    rw [eK, va_up_ne _ _ ka2] at ka
    rw [eK, va_up_ne _ _ ka2'] at ka'
    have nz : ∀ d, zK S d = 6 → d ≠ x0 → zP (zgr S x0 b n l) 0 d = some c → zP S 0 d = some c ∧ c ≠ zt S := fun d kd hd hp => by
      rw [pO 0 d (fun h => hd h.2)] at hp
      refine ⟨hp, fun e => ?_⟩
      obtain ⟨c', q1, q2, -⟩ := h2 d kd
      rw [hp] at q1
      cases q1
      rw [e] at q2
      rcases q2 with q2 | q2
      · omega
      · omega
    have px : zP (zgr S x0 b n l) 0 x0 = some (zt S) := by
      show va_up (zP S) 0 (va_up (zP S 0) x0 (some (zt S))) 0 x0 = _
      rw [va_up_self, va_up_self]
    by_cases ea : a = x0
    · by_cases ea' : a' = x0
      · right; rw [ea, ea']
      · have h1 := nz a' ka' ea' pa'
        rw [ea, px] at pa
        cases pa
        exact absurd rfl h1.2
    · have h1 := nz a ka ea pa
      by_cases ea' : a' = x0
      · rw [ea', px] at pa'
        cases pa'
        exact absurd rfl h1.2
      · exact h11.2 a a' c ka ka' h1.1 (nz a' ka' ea' pa').1
theorem ps_grow {S : ZS} {x0 b n l : Nat} (hT : ZT S) (hk : zK S x0 = 6) (hb : zP S 0 x0 = some b) (hc : zcap S b ≤ n) (hK : n ≤ rK x0) : PS (zgr S x0 b n l) + n = PS S + zcap S b := by
  have hq : 18 ≤ zK S (zt S) := hT.2.2.2.2.1 _ (Nat.le_refl _)
  have nq : ∀ a, zK S a < 18 → a ≠ zt S := fun a ha e => by rw [e] at ha; omega
  have eK : zK (zgr S x0 b n l) = va_up (zK S) (zt S) 13 := rfl
  have eN : zN (zgr S x0 b n l) = va_up (zN S) (zt S) n := rfl
  have eP : zP (zgr S x0 b n l) = va_up (zP S) 0 (va_up (zP S 0) x0 (some (zt S))) := rfl
  have eB : zB (zgr S x0 b n l) = va_up (zB S) (zt S) (fun _ => none) := rfl
  have hx : x0 < zt S := by
    apply Classical.byContradiction
    intro h
    have := hT.2.2.2.2.1 x0 (by omega)
    omega
  have h0 : pot (zgr S x0 b n l) (zt S) = 0 := by
    unfold pot
    rw [eK, va_up_self]
    rfl
  have h1 : pot (zgr S x0 b n l) x0 = rK x0 - n := by
    unfold pot
    rw [eK, va_up_ne _ _ (by omega), if_pos hk, eP, va_up_self, va_up_self]
    show rK x0 - zcap _ (zt S) = _
    unfold zcap
    have := hT.2.2.2.2.2.2.2.2.2.2
    rw [if_neg (by omega), eN, va_up_self]
  have h2 : pot S x0 = rK x0 - zcap S b := by
    unfold pot
    rw [if_pos hk, hb]; rfl
  have h3 : ∀ a, a < zt S → a ≠ x0 → pot (zgr S x0 b n l) a = pot S a := by
    intro a ha hne
    unfold pot
    rw [eK, va_up_ne _ _ (by omega), eB, va_up_ne _ _ (by omega), eP, va_up_self, va_up_ne _ _ hne]
    by_cases e : zK S a = 6
    · rw [if_pos e, if_pos e]
      obtain ⟨c, c1, c2, -⟩ := hT.2.1 a e
      rw [c1]
      show rK a - zcap _ c = rK a - zcap S c
      unfold zcap
      rcases c2 with f | f
      · rw [if_pos f, if_pos f]
      · rw [eN, va_up_ne _ _ (nq c (by omega))]
    · rw [if_neg e, if_neg e]
  have hs := sumN_up (f := pot (zgr S x0 b n l)) (g := pot S) (x := x0) (zt S) hx h3
  have e : PS (zgr S x0 b n l) = sumN (pot (zgr S x0 b n l)) (zt S) + pot (zgr S x0 b n l) (zt S) := rfl
  have e2 : PS S = sumN (pot S) (zt S) := rfl
  rw [h1, h2] at hs
  rw [e, h0, e2]
  omega
theorem rpc_grow {SZ S : ZS} {x0 b n l : Nat} (hR : RPc x0 SZ S) (hT : ZT S) (hk : zK S x0 = 6) (hb : zP S 0 x0 = some b) (hc : n = 2 * zcap S b + 8) (hK : n ≤ rK x0) : RPc x0 SZ (zgr S x0 b n l) := by
  have hp := ps_grow (l := l) hT hk hb (by omega) hK
  have eu : zu (zgr S x0 b n l) = zu S + n := rfl
  have et : zt (zgr S x0 b n l) = zt S + 1 := rfl
  have hq : 18 ≤ zK S (zt S) := hT.2.2.2.2.1 _ (Nat.le_refl _)
  have nq : ∀ a, zK S a < 18 → a ≠ zt S := fun a ha e => by rw [e] at ha; omega
  refine rpc_t hR ⟨⟨by rw [eu]; omega, by rw [et]; omega, by rw [eu]; omega, by rw [et]; omega⟩, fun t => ?_, fun a h1 h2 => ⟨?_, ?_, ?_⟩, fun hcx r h1 h2 => ?_⟩
  rotate_left 1
  · show va_up (zK S) (zt S) 13 a = _
    rw [va_up_ne _ _ (nq a (by omega))]; exact h1
  · show va_up (zN S) (zt S) n a = _
    rw [va_up_ne _ _ (nq a (by omega))]; exact h2
  · show va_up _ (zt S) _ a = _
    rw [va_up_ne _ _ (nq a (by omega))]
    show va_up (zA S) (zt S) _ a = _
    rw [va_up_ne _ _ (nq a (by omega))]
  · have hr : r ≠ x0 := fun e => hcx (by rw [← e]; exact h2)
    refine ⟨?_, rfl, ?_, fun c hc2 => ?_⟩
    · show va_up (zK S) (zt S) 13 r = _
      rw [va_up_ne _ _ (nq r (by omega))]; exact h1
    · show va_up (zP S) 0 (va_up (zP S 0) x0 (some (zt S))) 0 r = _
      rw [va_up_self, va_up_ne _ _ hr]
    · have hcz : c ≠ zt S := fun e => by
        obtain ⟨c', q1, q2, -⟩ := hT.2.1 r h1
        rw [hc2] at q1
        cases q1
        rw [e] at q2
        have := hT.2.2.2.2.2.2.2.2.2.2.1
        rcases q2 with q2 | q2 <;> omega
      refine ⟨?_, ?_⟩
      · show va_up (zN S) (zt S) n c = _
        rw [va_up_ne _ _ hcz]
      · show va_up _ (zt S) _ c = _
        rw [va_up_ne _ _ hcz]
        show va_up (zA S) (zt S) _ c = _
        rw [va_up_ne _ _ hcz]
  refine tz_x hT t (fun a ha => ?_) (fun a j ha hj => ?_) (fun a ha => ?_) (fun a ha => ⟨rfl, rfl, rfl⟩) (fun a ha => rfl)
  · show va_up (zK S) (zt S) 13 a = _
    rw [va_up_ne _ _ (nq a ha)]
  · show va_up (zP S) 0 (va_up (zP S 0) x0 (some (zt S))) j a = _
    rw [va_up_ne _ _ (by omega)]
  · show va_up (zB S) (zt S) (fun _ => none) a = _
    rw [va_up_ne _ _ (nq a (by omega))]
theorem rK_ge {a : Nat} : 2 * rL a + 8 ≤ rK a := by
  unfold rL rK
  split
  · omega
  · split <;> omega
theorem rL_le (a : Nat) : rL a ≤ 90000 := by
  unfold rL
  split
  · omega
  · split <;> omega
theorem rK_le (a : Nat) : rK a ≤ 185000 := by
  unfold rK
  split
  · omega
  · split <;> omega
theorem p_d_X6_put_43 {SZ S : ZS} {x0 : Nat} {x1 : Int32} (hT : ZT S) (hR : RPc x0 SZ S) (r_x0 : zK S x0 = 6) (r_x1 : (0 : Int) ≤ x1.toInt ∧ x1.toInt ≤ (65535 : Int)) (q0 : (zI S 1 x0).toInt < (rL x0 : Int)) (q1 : ∀ b, zP S 0 x0 = some b → (zI S 1 x0).toInt < (zcap S b : Int)) : Ok (d_X6_put_43 x0 x1 S) (fun o => ZT o.2 ∧ RPc x0 SZ o.2 ∧ (zI o.2 1 x0).toInt = (zI S 1 x0).toInt + 1 ∧ ∀ a, a ≠ x0 → zI o.2 1 a = zI S 1 a) := by
  unfold d_X6_put_43
  obtain ⟨b, p, d, l0, l1, l2, l3⟩ := hT.2.1 x0 r_x0
  have hq := q1 b p
  have hz := row_nz d (n := (zI S 1 x0).toInt + 1) (by omega) (by omega)
  refine ok_chk r_x0 (ok_calR p (ok_chk r_x0 (ok_chk hz.1 (ok_chk (ti_inR (v := zI S 1 x0) hz.2 l0 (by omega)) ?_))))
  refine ok_bnd (fun S2 e2 => ?_)
  have T2 : ZT S2 := e2 ▸ zt_A13 hT (by rw [nar_c r_x1.1 r_x1.2]; exact r_x1)
  have R2 : RPc x0 SZ S2 := rpc_A hR hT r_x0 p hz.1 e2
  have k2 : zK S2 x0 = 6 := by rw [e2]; exact r_x0
  have i2 : zI S2 = zI S := by rw [e2]; rfl
  have p2 : zP S2 = zP S := by rw [e2]; rfl
  have n2 : zN S2 = zN S := by rw [e2]; rfl
  refine ok_chk k2 (ok_bnd (fun v3 e3 => ?_))
  have t3 : v3.toInt = (zI S 1 x0).toInt + 1 := ti_add e3 (by rw [i2]) (show (1 : Int32).toInt = 1 from rfl) (by have := rL_le x0; omega) (by have := rL_le x0; omega)
  refine ok_chk k2 (ok_bnd (fun S4 e4 => ?_))
  have T4 : ZT S4 := by
    obtain ⟨h1, h2, h3, h4, h5, h6, h7, h8, h9, h10, h11⟩ := T2
    rw [e4]
    refine ⟨h1, ?_, ?_, h4, h5, h6, h7, h8, ?_, h10, h11⟩
    · intro a ha
      obtain ⟨c, c1, c2, c3, c4, c5, c6⟩ := h2 a ha
      by_cases e : a = x0
      · rw [e] at c1 c5 c6 ⊢
        rw [p2, p] at c1
        cases c1
        refine ⟨b, by rw [← p, ← p2]; rfl, c2, ?_, ?_, ?_, c6⟩
        · rw [zI_self]; omega
        · rw [zI_self, t3]
          have : zcap (zsI S2 1 x0 v3) b = zcap S b := by unfold zcap; rw [← n2]; rfl
          rw [this]; omega
        · rw [zI_self]; omega
      · rw [zI_ne e]
        exact ⟨c, c1, c2, c3, c4, c5, c6⟩
    · intro a j ha
      by_cases e : j = 1 ∧ a = x0
      · have k6 : zK (zsI S2 1 x0 v3) x0 = 6 := k2
        rw [e.1, e.2, k6]; exact tf_b _
      · have : zI (zsI S2 1 x0 v3) j a = zI S2 j a := by
          by_cases e1 : j = 1
          · rw [e1]; exact zI_ne (fun e2 => e ⟨e1, e2⟩)
          · show va_up (zI S2) 1 (va_up (zI S2 1) x0 v3) j a = _
            rw [va_up_ne _ _ e1]
        rw [this]; exact h3 a j ha
    · intro a ha c hc i hi
      have : zI (zsI S2 1 x0 v3) 5 a = zI S2 5 a := by
        show va_up (zI S2) 1 (va_up (zI S2 1) x0 v3) 5 a = _
        rw [va_up_ne _ _ (by decide)]
      rw [this] at hi
      exact h9 a ha c hc i hi
  have R4 : RPc x0 SZ S4 := rpc_I R2 T2 k2 e4
  refine ok_ret ⟨T4, R4, ?_, fun a ha => ?_⟩
  · show (zI S4 1 x0).toInt = _
    rw [e4, zI_self, t3]
  · show zI S4 1 a = _
    rw [e4, zI_ne ha, i2]
theorem ofN_w {n : Nat} (h : n ≤ 200000) : (Int32.ofNat n).toInt = (n : Int) := Int32.toInt_ofNat_of_lt (by omega)
theorem fits_ch {v : Int32} (h : (0 : Int) ≤ v.toInt ∧ v.toInt ≤ (65535 : Int)) : fits .char (.int v) = true := by
  have h1 : (0 : Int32) ≤ v := Int32.le_iff_toInt_le.2 h.1
  have h2 : v ≤ (65535 : Int32) := Int32.le_iff_toInt_le.2 h.2
  show ((0 : Int32) ≤ v && v ≤ (65535 : Int32)) = true
  simp [h1, h2]
theorem p_d_X6_put {SZ S : ZS} {x0 : Nat} {x1 : Int32} (hT : ZT S) (hR : RPc x0 SZ S) (r_x0 : zK S x0 = 6) (r_x1 : (0 : Int) ≤ x1.toInt ∧ x1.toInt ≤ (65535 : Int)) (q0 : (zI S 1 x0).toInt < (rL x0 : Int)) : Ok (d_X6_put x0 x1 S) (fun o => ZT o.2 ∧ RPc x0 SZ o.2 ∧ (zI o.2 1 x0).toInt = (zI S 1 x0).toInt + 1 ∧ ∀ a, a ≠ x0 → zI o.2 1 a = zI S 1 a) := by
  show Ok (d_X6_put_0 x0 x1 S) _
  unfold d_X6_put_0
  obtain ⟨b, p, d, l0, l1, l2, l3⟩ := hT.2.1 x0 r_x0
  have hL := rL_le x0
  have hK := rK_le x0
  have hG := @rK_ge x0
  refine ok_chk r_x0 (ok_chk r_x0 (ok_calR p (ok_chk d (ok_bnd (fun v2 e2 => ?_)))))
  have t2 : v2.toInt = (zcap S b : Int) := by rw [e2]; exact ofN_w (by show zcap S b ≤ _; omega)
  refine ok_if (fun c => ?_) (fun c => ?_)
  · replace c := ti_ltP (a := zI S 1 x0) (b := v2) c rfl rfl
    exact p_d_X6_put_43 hT hR r_x0 r_x1 q0 (fun b' hb' => by rw [p] at hb'; cases hb'; omega)
  · replace c := ti_ltN (a := zI S 1 x0) (b := v2) c rfl rfl
    refine ok_chk r_x0 (ok_bnd (fun v3 e3 => ok_bnd (fun v4 e4 => ?_)))
    have t3 : v3.toInt = 2 * (zI S 1 x0).toInt := ti_mul e3 (show (2 : Int32).toInt = 2 from rfl) rfl (by omega) (by omega)
    have t4 : v4.toInt = 2 * (zI S 1 x0).toInt + 8 := ti_add e4 t3 (show (8 : Int32).toInt = 8 from rfl) (by omega) (by omega)
    have n4 : v4.toNatClampNeg = 2 * zcap S b + 8 := by
      have e : v4.toNatClampNeg = v4.toInt.toNat := rfl
      omega
    have hk0 : zK S (zt S) ≥ 18 := hT.2.2.2.2.1 _ (Nat.le_refl _)
    have hx : x0 ≠ zt S := fun e => by rw [e] at r_x0; omega
    have hcb : componentBytes .char = 2 := rfl
    refine ok_chk ⟨fun h => ?_, by rw [n4, hcb]; omega⟩ ?_
    · have := Int32.lt_iff_toInt_lt.1 h
      have z : (0 : Int32).toInt = 0 := rfl
      omega
    · refine ok_bnd (fun q5 e5 => ok_bnd (fun S6 e6 => ?_))
      subst e5
      have k6 : zK S6 x0 = 6 := by rw [e6]; show va_up (zK S) (zt S) 13 x0 = 6; rw [va_up_ne _ _ hx]; exact r_x0
      have i6 : zI S6 = zI S := by rw [e6]; rfl
      have p6 : zP S6 0 x0 = some b := by rw [e6]; exact p
      have kq : zK S6 (zt S) = 13 := by rw [e6]; show va_up (zK S) (zt S) 13 (zt S) = 13; rw [va_up_self]
      have nq : zN S6 (zt S) = 2 * zcap S b + 8 := by rw [e6, n4]; show va_up (zN S) (zt S) _ (zt S) = _; rw [va_up_self]
      have nl : (zI S6 1 x0).toNatClampNeg = zcap S b := by
        have e : (zI S6 1 x0).toNatClampNeg = (zI S6 1 x0).toInt.toNat := rfl
        rw [e, i6]; omega
      refine ok_chk k6 (ok_calR p6 (ok_chk k6 (ok_chk kq (ok_chk ?_ ?_))))
      · by_cases e0 : b = 0
        · left
          refine ⟨e0, ?_⟩
          have : zcap S b = 0 := by unfold zcap; rw [if_pos e0]
          apply Int32.toInt_inj.1
          rw [i6]
          show (zI S 1 x0).toInt = 0
          omega
        · right
          have kb : zK S b = 13 := d.resolve_left e0
          have hbq : b ≠ zt S := fun e => by rw [e] at kb; omega
          refine ⟨?_, e0, ?_, ?_, ?_, ?_⟩
          · rw [e6]; show va_up (zK S) (zt S) 13 b = 13; rw [va_up_ne _ _ hbq]; exact kb
          · intro h
            have := Int32.lt_iff_toInt_lt.1 h
            rw [i6] at this
            have z : (0 : Int32).toInt = 0 := rfl
            omega
          · rw [nl, e6]
            show zcap S b ≤ va_up (zN S) (zt S) _ b
            rw [va_up_ne _ _ hbq]
            unfold zcap
            rw [if_neg e0]
            exact Nat.le_refl _
          · rw [nl, nq]; omega
          · intro i _
            rw [e6]
            show fits .char (.int (va_up (zA S) (zt S) _ b i)) = true
            rw [va_up_ne _ _ hbq]
            exact fits_ch (hT.2.2.2.2.2.2.1 b kb i)
      · refine ok_bnd (fun S10 e10 => ?_)
        have k10 : zK S10 x0 = 6 := by rw [e10]; exact k6
        refine ok_chk k10 (ok_bnd (fun S11 e11 => ?_))
        have e : S11 = zgr S x0 b (2 * zcap S b + 8) (zI S6 1 x0).toNatClampNeg := by
          rw [e11, e10, e6, n4]; rfl
        have T11 : ZT S11 := e ▸ zt_grow hT r_x0 p (by omega) (by omega)
        have R11 : RPc x0 SZ S11 := e ▸ rpc_grow hR hT r_x0 p rfl (by omega)
        have i11 : zI S11 = zI S := by rw [e]; rfl
        have k11 : zK S11 x0 = 6 := by rw [e11]; exact k10
        refine ok_mono (p_d_X6_put_43 (SZ := SZ) (x1 := x1) T11 R11 k11 r_x1 (by rw [i11]; exact q0) (fun b' hb' => ?_)) (fun o h => ?_)
        · have : zP S11 0 x0 = some (zt S) := by rw [e]; show va_up (zP S) 0 (va_up (zP S 0) x0 (some (zt S))) 0 x0 = _; rw [va_up_self, va_up_self]
          rw [this] at hb'
          cases hb'
          have ez : zcap S11 (zt S) = 2 * zcap S b + 8 := by
            have := hT.2.2.2.2.2.2.2.2.2.2
            have e1 : zcap S11 (zt S) = zN S11 (zt S) := if_neg (by omega)
            rw [e1, e]
            show va_up (zN S) (zt S) _ (zt S) = _
            rw [va_up_self]
          rw [ez, i11]; omega
        · rw [i11] at h; exact h
theorem t_d_X6_put {SZ S : ZS} {x0 : Nat} {x1 : Int32} (hT : ZT S) (hR : RP SZ S) (r_x0 : zK S x0 = 6) (r_x1 : (0 : Int) ≤ x1.toInt ∧ x1.toInt ≤ (65535 : Int)) (q0 : (zI S 1 x0).toInt < (rL x0 : Int)) (q1 : rc x0 ≠ 2) : Ok (d_X6_put x0 x1 S) (fun o => ZT o.2 ∧ RP SZ o.2 ∧ (zI o.2 1 x0).toInt = (zI S 1 x0).toInt + 1 ∧ ∀ a, a ≠ x0 → zI o.2 1 a = zI S 1 a) := by
  obtain ⟨o, ho, h1, h2, h3⟩ := p_d_X6_put hT (rpc_of hR) r_x0 r_x1 q0
  exact ⟨o, ho, h1, rpc_to h2 q1, h3⟩
end
section
theorem ti_cl {v : Int32} {n : Nat} (h1 : 0 ≤ v.toInt) (h2 : v.toInt < n) : v.toNatClampNeg < n := by
  have e : v.toNatClampNeg = v.toInt.toNat := rfl
  omega
noncomputable def nd (S : ZS) (g : Nat) (i : Int32) : Nat := if i ≤ 0 ∨ zI S 3 g < i then (zP S 1 g).getD 0 else (zB S ((zP S 2 g).getD 0) i.toNatClampNeg).getD ((zP S 1 g).getD 0)
theorem t_f_X1_at {S : ZS} {x0 : Nat} {x1 : Int32} (hT : ZT S) (r_x0 : zK S x0 = 1) : Ok (f_X1_at x0 x1 S) (fun o => o.2 = S ∧ (zK o.2 o.1 = 4) ∧ (o.1 = nd S x0 x1)) := by
  show Ok (f_X1_at_0 x0 x1 S) _
  obtain ⟨b1, p1, k1, n1⟩ := T_1_2 hT r_x0
  obtain ⟨b2, p2, k2⟩ := T_1_1 hT r_x0
  have hr : (x1 ≤ 0 ∨ zI S 3 x0 < x1) → Ok (f_X1_at_21 x0 S) (fun o => o.2 = S ∧ (zK o.2 o.1 = 4) ∧ (o.1 = nd S x0 x1)) := by
    intro hc
    unfold f_X1_at_21 f_X1_at_22
    refine ok_opt (fun _ => ?_) (fun b h => absurd h (by simp))
    refine ok_chk r_x0 (ok_calR p2 ?_)
    unfold f_X1_at_35
    refine ok_calR rfl (ok_ret ⟨rfl, k2, ?_⟩)
    unfold nd
    rw [if_pos hc, p2]; rfl
  unfold f_X1_at_0
  refine ok_if (fun c => hr (Or.inl c)) (fun c => ?_)
  refine ok_chk r_x0 ?_
  refine ok_if (fun c2 => hr (Or.inr c2)) (fun c2 => ?_)
  have j := J_1_3 hT r_x0
  have c' := ti_leN (a := x1) (b := 0) c rfl rfl
  have c2' := ti_ltN (a := zI S 3 x0) (b := x1) c2 rfl rfl
  have z : (0 : Int32).toInt = 0 := rfl
  refine ok_chk r_x0 (ok_calR p1 (ok_chk k1 ?_))
  refine ok_chk (ti_inN (v := x1) (n := 301) n1 (by omega) (by omega)) ?_
  refine ok_bnd (fun v2 e2 => ?_)
  unfold f_X1_at_22
  have hnd : nd S x0 x1 = v2.getD b2 := by
    unfold nd
    rw [if_neg (fun h => h.elim c c2), p1, p2, e2]
    rfl
  refine ok_opt (fun h => ?_) (fun b h => ?_)
  · refine ok_chk r_x0 (ok_calR p2 ?_)
    unfold f_X1_at_35
    refine ok_calR rfl (ok_ret ⟨rfl, k2, ?_⟩)
    rw [hnd, h]; rfl
  · unfold f_X1_at_35
    refine ok_calR rfl (ok_ret ⟨rfl, ?_, ?_⟩)
    · exact (hT.2.2.2.1 b1).2.1 k1 _ b (by rw [← e2]; exact h)
    · rw [hnd, h]; rfl
end
section
theorem t_f_X8_parse_232 {SZ S : ZS} {x0 : Nat} {x1 : Int32} {x2 : Int32} {t0 : Int32} {t1 : Nat} (hT : ZT S) (hR : A7 SZ S) (r_x0 : zK S x0 = 8) (r_x1 : (0 : Int) ≤ x1.toInt ∧ x1.toInt ≤ (1 : Int)) (r_x2 : (-4 : Int) ≤ x2.toInt ∧ x2.toInt ≤ (89998 : Int)) (r_t0 : (0 : Int) ≤ t0.toInt ∧ t0.toInt ≤ (1 : Int)) (r_t1 : zK S t1 = 8) (q0 : x0 = t1) (q1 : 0 ≤ (zI S 6 x0).toInt) : Ok (f_X8_parse_232 x0 x1 x2 t0 t1 S) (fun o => ZT o.2 ∧ A7 SZ o.2 ∧ ((0 : Int) ≤ o.1.toInt ∧ o.1.toInt ≤ (1 : Int)) ∧ ((o.1.toInt = 1 → 0 ≤ (zI o.2 6 x0).toInt ∨ (zI o.2 2 x0).toInt ≠ 0))) := by
  unfold f_X8_parse_232
  have j1 := J_8_6 hT r_x0
  have j2 := J_8_2 hT r_x0
  have j3 := J_8_8 hT r_x0
  subst q0
  refine ok_chk r_t1 ?_
  refine ok_bnd (fun S1 e4 => ?_)
  have T_S1 : ZT S1 := e4.symm ▸ zt_I hT r_t1 (by decide) (show (-1 : Int) ≤ t0.toInt ∧ t0.toInt ≤ (1 : Int) from (by omega))
  have kE_S1 : zK S1 = zK S := by rw [e4]; rfl
  have nE_S1 : zN S1 = zN S := by rw [e4]; rfl
  have R_S1 : A7 SZ S1 := a7_I hR e4 r_t1 (by decide)
  have : (zI S1 6 x0).toInt = (zI S 6 x0).toInt := by rw [e4]; rfl
  have : (zI S1 2 x0).toInt = (zI S 2 x0).toInt := by rw [e4]; rfl
  refine ok_chk ((congrFun kE_S1 x0).trans r_x0) ?_
  refine ok_bnd (fun v2 e5 => ?_)
  have j6 := J_8_8 T_S1 ((congrFun kE_S1 x0).trans r_x0)
  have t_v2 : v2.toInt = x2.toInt - (zI S1 8 x0).toInt := ti_sub e5 rfl rfl (by omega) (by omega)
  refine ok_chk ((congrFun kE_S1 x0).trans r_x0) ?_
  obtain ⟨⟨r3, S3⟩, h_r3, T_S3, A_S3, p_r3⟩ := t_f_X8_parseApart (x0 := x0) (x1 := x1) (x2 := v2) (SZ := S1) T_S1 (a7_0 S1) ((congrFun kE_S1 x0).trans r_x0) r_x1 (by omega)
  replace T_S3 : ZT S3 := T_S3
  replace A_S3 : A7 S1 S3 := A_S3
  dsimp only at p_r3
  refine ok_calR h_r3 ?_
  have q_S3 := fq_X8_parseApart h_r3
  have kE_S3 : zK S3 = zK S1 := q_S3.2.2.1
  have nE_S3 : zN S3 = zN S1 := q_S3.2.2.2.1
  have R_S3 : A7 SZ S3 := a7_t R_S1 A_S3
  have : (zI S3 6 x0).toInt = (zI S1 6 x0).toInt := congrArg Int32.toInt ((((fz_X8_parseApart h_r3) T_S1.2.2.2.2.1).2.2 x0 (by rw [((congrFun kE_S1 x0).trans r_x0)]; decide)).2.2.1 6 (by rw [((congrFun kE_S1 x0).trans r_x0)]; decide))
  have : (zI S3 2 x0).toInt = (zI S1 2 x0).toInt := congrArg Int32.toInt ((((fz_X8_parseApart h_r3) T_S1.2.2.2.2.1).2.2 x0 (by rw [((congrFun kE_S1 x0).trans r_x0)]; decide)).2.2.1 2 (by rw [((congrFun kE_S1 x0).trans r_x0)]; decide))
  have : (zI S3 8 x0).toInt = (zI S1 8 x0).toInt := congrArg Int32.toInt ((((fz_X8_parseApart h_r3) T_S1.2.2.2.2.1).2.2 x0 (by rw [((congrFun kE_S1 x0).trans r_x0)]; decide)).2.2.1 8 (by rw [((congrFun kE_S1 x0).trans r_x0)]; decide))
  refine ok_chk (nar_b (v := r3) (by omega) (by omega)) ?_
  exact ok_ret ⟨T_S3, R_S3, (show (0 : Int) ≤ r3.toInt ∧ r3.toInt ≤ (1 : Int) from (by omega)), (by show (r3.toInt = 1 → 0 ≤ (zI S3 6 x0).toInt ∨ (zI S3 2 x0).toInt ≠ 0); omega)⟩
theorem t_f_X8_parse_166 {SZ S : ZS} {x0 : Nat} {x1 : Int32} {x2 : Int32} (hT : ZT S) (hR : A7 SZ S) (r_x0 : zK S x0 = 8) (r_x1 : (0 : Int) ≤ x1.toInt ∧ x1.toInt ≤ (1 : Int)) (r_x2 : (-2 : Int) ≤ x2.toInt ∧ x2.toInt ≤ (90000 : Int)) : Ok (f_X8_parse_166 x0 x1 x2 S) (fun o => ZT o.2 ∧ A7 SZ o.2 ∧ ((0 : Int) ≤ o.1.toInt ∧ o.1.toInt ≤ (1 : Int)) ∧ ((o.1.toInt = 1 → 0 ≤ (zI o.2 6 x0).toInt ∨ (zI o.2 2 x0).toInt ≠ 0))) := by
  unfold f_X8_parse_166
  have j7 := J_8_6 hT r_x0
  have j8 := J_8_2 hT r_x0
  have j9 := J_8_8 hT r_x0
  refine ok_chk r_x0 ?_
  obtain ⟨b1, p_b1, k_b1, c_b1⟩ := T_8_1 hT r_x0
  have lo_b1 := M_8_1 hT r_x0 p_b1
  refine ok_calR p_b1 ?_
  refine ok_bnd (fun v2 e10 => ?_)
  have t_v2 : v2.toInt = x2.toInt - 2 := ti_sub e10 rfl (show (2 : Int32).toInt = 2 from rfl) (by omega) (by omega)
  refine ok_chk k_b1 ?_
  have j11 := J61_1 hT k_b1 c_b1
  obtain ⟨r3, h_r3, p_r3⟩ := roz (t_f_X6_at (x0 := b1) (x1 := v2) hT k_b1)
  dsimp only at p_r3
  refine ok_calR h_r3 ?_
  refine ok_chk r_x0 ?_
  obtain ⟨b4, p_b4, k_b4, c_b4⟩ := T_8_1 hT r_x0
  have lo_b4 := M_8_1 hT r_x0 p_b4
  refine ok_calR p_b4 ?_
  refine ok_bnd (fun v5 e12 => ?_)
  have t_v5 : v5.toInt = x2.toInt - 1 := ti_sub e12 rfl (show (1 : Int32).toInt = 1 from rfl) (by omega) (by omega)
  refine ok_chk k_b4 ?_
  have j13 := J61_1 hT k_b4 c_b4
  obtain ⟨r6, h_r6, p_r6⟩ := roz (t_f_X6_at (x0 := b4) (x1 := v5) hT k_b4)
  dsimp only at p_r6
  refine ok_calR h_r6 ?_
  obtain ⟨r7, h_r7, p_r7⟩ := roz (t_f_X11_squareOf (x0 := r3) (x1 := r6) hT )
  dsimp only at p_r7
  refine ok_calR h_r7 ?_
  refine ok_chk r_x0 ?_
  refine ok_bnd (fun S8 e14 => ?_)
  have T_S8 : ZT S8 := e14.symm ▸ zt_I hT r_x0 (by decide) (show (-1 : Int) ≤ r7.toInt ∧ r7.toInt ≤ (63 : Int) from (by omega))
  have kE_S8 : zK S8 = zK S := by rw [e14]; rfl
  have nE_S8 : zN S8 = zN S := by rw [e14]; rfl
  have R_S8 : A7 SZ S8 := a7_I hR e14 r_x0 (by decide)
  have : (zI S8 6 x0).toInt = r7.toInt := by rw [e14]; exact (congrArg Int32.toInt (zI_self _ _ _ _)).trans rfl
  have : (zI S8 2 x0).toInt = (zI S 2 x0).toInt := by rw [e14]; rfl
  have : (zI S8 8 x0).toInt = (zI S 8 x0).toInt := by rw [e14]; rfl
  refine ok_bnd (fun v9 e15 => ?_)
  have t_v9 : v9.toInt = x2.toInt + (-2) := ti_add e15 rfl (show (-2 : Int32).toInt = -2 from rfl) (by omega) (by omega)
  refine ok_chk ((congrFun kE_S8 x0).trans r_x0) ?_
  have j16 := J_8_6 T_S8 ((congrFun kE_S8 x0).trans r_x0)
  refine ok_if (fun c17 => ?_) (fun c17 => ?_)
  ·
    replace c17 := ti_eqP (a := (zI S8 6 x0)) (b := (-1 : Int32)) c17 rfl (show (-1 : Int32).toInt = -1 from rfl)
    refine ok_chk (by decide) ?_
    exact ok_ret ⟨T_S8, R_S8, (show (0 : Int) ≤ (0 : Int32).toInt ∧ (0 : Int32).toInt ≤ (1 : Int) from (by decide)), (by show ((0 : Int32).toInt = 1 → 0 ≤ (zI S8 6 x0).toInt ∨ (zI S8 2 x0).toInt ≠ 0); have z : (0 : Int32).toInt = 0 := rfl; omega)⟩
  ·
    replace c17 := ti_eqN (a := (zI S8 6 x0)) (b := (-1 : Int32)) c17 rfl (show (-1 : Int32).toInt = -1 from rfl)
    refine ok_if (fun c18 => ?_) (fun c18 => ?_)
    ·
      replace c18 := ti_leP (a := v9) (b := x1) c18 rfl rfl
      unfold f_X8_parse_231
      exact t_f_X8_parse_232 (S := S8)  (x0 := x0) (x1 := x1) (x2 := v9) (t0 := (0 : Int32)) (t1 := x0) T_S8 R_S8 ((congrFun kE_S8 x0).trans r_x0) r_x1 (by omega) (by decide) ((congrFun kE_S8 x0).trans r_x0) rfl (by have z0 : (0 : Int32).toInt = 0 := rfl; omega)
    ·
      replace c18 := ti_leN (a := v9) (b := x1) c18 rfl rfl
      refine ok_chk ((congrFun kE_S8 x0).trans r_x0) ?_
      obtain ⟨b10, p_b10, k_b10, c_b10⟩ := T_8_1 T_S8 ((congrFun kE_S8 x0).trans r_x0)
      have lo_b10 := M_8_1 T_S8 ((congrFun kE_S8 x0).trans r_x0) p_b10
      refine ok_calR p_b10 ?_
      refine ok_bnd (fun v11 e19 => ?_)
      have t_v11 : v11.toInt = v9.toInt - 1 := ti_sub e19 rfl (show (1 : Int32).toInt = 1 from rfl) (by omega) (by omega)
      refine ok_chk k_b10 ?_
      have j20 := J61_1 T_S8 k_b10 c_b10
      obtain ⟨r12, h_r12, p_r12⟩ := roz (t_f_X6_at (x0 := b10) (x1 := v11) T_S8 k_b10)
      dsimp only at p_r12
      refine ok_calR h_r12 ?_
      refine ok_if (fun c21 => ?_) (fun c21 => ?_)
      ·
        replace c21 := ti_eqP (a := r12) (b := (120 : Int32)) c21 rfl (show (120 : Int32).toInt = 120 from rfl)
        exact t_f_X8_parse_232 (S := S8)  (x0 := x0) (x1 := x1) (x2 := v9) (t0 := (1 : Int32)) (t1 := x0) T_S8 R_S8 ((congrFun kE_S8 x0).trans r_x0) r_x1 (by omega) (by decide) ((congrFun kE_S8 x0).trans r_x0) rfl (by have z0 : (1 : Int32).toInt = 1 := rfl; omega)
      ·
        replace c21 := ti_eqN (a := r12) (b := (120 : Int32)) c21 rfl (show (120 : Int32).toInt = 120 from rfl)
        unfold f_X8_parse_231
        exact t_f_X8_parse_232 (S := S8)  (x0 := x0) (x1 := x1) (x2 := v9) (t0 := (0 : Int32)) (t1 := x0) T_S8 R_S8 ((congrFun kE_S8 x0).trans r_x0) r_x1 (by omega) (by decide) ((congrFun kE_S8 x0).trans r_x0) rfl (by have z0 : (0 : Int32).toInt = 0 := rfl; omega)
theorem t_f_X8_parse_102 {SZ S : ZS} {x0 : Nat} {x1 : Int32} {x2 : Int32} {t0 : Int32} {t1 : Nat} (hT : ZT S) (hR : A7 SZ S) (r_x0 : zK S x0 = 8) (r_x1 : (0 : Int) ≤ x1.toInt ∧ x1.toInt ≤ (1 : Int)) (r_x2 : (0 : Int) ≤ x2.toInt ∧ x2.toInt ≤ (90000 : Int)) (r_t0 : (0 : Int) ≤ t0.toInt ∧ t0.toInt ≤ (30 : Int)) (r_t1 : zK S t1 = 8) : Ok (f_X8_parse_102 x0 x1 x2 t0 t1 S) (fun o => ZT o.2 ∧ A7 SZ o.2 ∧ ((0 : Int) ≤ o.1.toInt ∧ o.1.toInt ≤ (1 : Int)) ∧ ((o.1.toInt = 1 → 0 ≤ (zI o.2 6 x0).toInt ∨ (zI o.2 2 x0).toInt ≠ 0))) := by
  unfold f_X8_parse_102
  have j22 := J_8_6 hT r_x0
  have j23 := J_8_2 hT r_x0
  have j24 := J_8_8 hT r_x0
  refine ok_chk r_t1 ?_
  refine ok_bnd (fun S1 e25 => ?_)
  have T_S1 : ZT S1 := e25.symm ▸ zt_W hT r_t1 (by decide) rfl
  have kE_S1 : zK S1 = zK S := by rw [e25]; rfl
  have nE_S1 : zN S1 = zN S := by rw [e25]; rfl
  have R_S1 : A7 SZ S1 := a7_I hR e25 r_t1 (by decide)
  have : (zI S1 6 x0).toInt = (zI S 6 x0).toInt := by rw [e25]; rfl
  have : (zI S1 2 x0).toInt = (zI S 2 x0).toInt := by rw [e25]; rfl
  have : (zI S1 8 x0).toInt = (zI S 8 x0).toInt := by rw [e25]; rfl
  refine ok_chk ((congrFun kE_S1 x0).trans r_x0) ?_
  refine ok_if (fun c26 => ?_) (fun c26 => ?_)
  ·
    replace c26 := ti_eqP (a := (zI S1 3 x0)) (b := (1 : Int32)) c26 rfl (show (1 : Int32).toInt = 1 from rfl)
    refine ok_chk ((congrFun kE_S1 x0).trans r_x0) ?_
    obtain ⟨b2, p_b2, k_b2, c_b2⟩ := T_8_1 T_S1 ((congrFun kE_S1 x0).trans r_x0)
    have lo_b2 := M_8_1 T_S1 ((congrFun kE_S1 x0).trans r_x0) p_b2
    refine ok_calR p_b2 ?_
    refine ok_bnd (fun v3 e27 => ?_)
    have t_v3 : v3.toInt = x2.toInt - 2 := ti_sub e27 rfl (show (2 : Int32).toInt = 2 from rfl) (by omega) (by omega)
    refine ok_chk k_b2 ?_
    have j28 := J61_1 T_S1 k_b2 c_b2
    obtain ⟨r4, h_r4, p_r4⟩ := roz (t_f_X6_at (x0 := b2) (x1 := v3) T_S1 k_b2)
    dsimp only at p_r4
    refine ok_calR h_r4 ?_
    refine ok_if (fun c29 => ?_) (fun c29 => ?_)
    ·
      replace c29 := ti_eqP (a := r4) (b := (61 : Int32)) c29 rfl (show (61 : Int32).toInt = 61 from rfl)
      refine ok_chk ((congrFun kE_S1 x0).trans r_x0) ?_
      obtain ⟨b5, p_b5, k_b5, c_b5⟩ := T_8_1 T_S1 ((congrFun kE_S1 x0).trans r_x0)
      have lo_b5 := M_8_1 T_S1 ((congrFun kE_S1 x0).trans r_x0) p_b5
      refine ok_calR p_b5 ?_
      refine ok_bnd (fun v6 e30 => ?_)
      have t_v6 : v6.toInt = x2.toInt - 1 := ti_sub e30 rfl (show (1 : Int32).toInt = 1 from rfl) (by omega) (by omega)
      refine ok_chk k_b5 ?_
      have j31 := J61_1 T_S1 k_b5 c_b5
      obtain ⟨r7, h_r7, p_r7⟩ := roz (t_f_X6_at (x0 := b5) (x1 := v6) T_S1 k_b5)
      dsimp only at p_r7
      refine ok_calR h_r7 ?_
      obtain ⟨r8, h_r8, p_r8⟩ := roz (t_f_X11_kindOf (x0 := r7) T_S1 )
      dsimp only at p_r8
      refine ok_calR h_r8 ?_
      refine ok_chk ((congrFun kE_S1 x0).trans r_x0) ?_
      refine ok_bnd (fun S9 e32 => ?_)
      have T_S9 : ZT S9 := e32.symm ▸ zt_I T_S1 ((congrFun kE_S1 x0).trans r_x0) (by decide) (show (0 : Int) ≤ r8.toInt ∧ r8.toInt ≤ (30 : Int) from (by omega))
      have kE_S9 : zK S9 = zK S1 := by rw [e32]; rfl
      have nE_S9 : zN S9 = zN S1 := by rw [e32]; rfl
      have R_S9 : A7 SZ S9 := a7_I R_S1 e32 ((congrFun kE_S1 x0).trans r_x0) (by decide)
      have : (zI S9 6 x0).toInt = (zI S1 6 x0).toInt := by rw [e32]; rfl
      have : (zI S9 2 x0).toInt = (zI S1 2 x0).toInt := by rw [e32]; rfl
      have : (zI S9 8 x0).toInt = (zI S1 8 x0).toInt := by rw [e32]; rfl
      refine ok_chk ((congrFun kE_S9 x0).trans ((congrFun kE_S1 x0).trans r_x0)) ?_
      have j33 := J_8_7 T_S9 ((congrFun kE_S9 x0).trans ((congrFun kE_S1 x0).trans r_x0))
      refine ok_if (fun c34 => ?_) (fun c34 => ?_)
      ·
        replace c34 := ti_ltP (a := (zI S9 7 x0)) (b := (2 : Int32)) c34 rfl (show (2 : Int32).toInt = 2 from rfl)
        unfold f_X8_parse_161
        refine ok_chk (by decide) ?_
        exact ok_ret ⟨T_S9, R_S9, (show (0 : Int) ≤ (0 : Int32).toInt ∧ (0 : Int32).toInt ≤ (1 : Int) from (by decide)), (by show ((0 : Int32).toInt = 1 → 0 ≤ (zI S9 6 x0).toInt ∨ (zI S9 2 x0).toInt ≠ 0); have z : (0 : Int32).toInt = 0 := rfl; omega)⟩
      ·
        replace c34 := ti_ltN (a := (zI S9 7 x0)) (b := (2 : Int32)) c34 rfl (show (2 : Int32).toInt = 2 from rfl)
        refine ok_chk ((congrFun kE_S9 x0).trans ((congrFun kE_S1 x0).trans r_x0)) ?_
        refine ok_if (fun c35 => ?_) (fun c35 => ?_)
        ·
          replace c35 := ti_leP (a := (zI S9 7 x0)) (b := (5 : Int32)) c35 rfl (show (5 : Int32).toInt = 5 from rfl)
          refine ok_bnd (fun v10 e36 => ?_)
          have t_v10 : v10.toInt = x2.toInt + (-2) := ti_add e36 rfl (show (-2 : Int32).toInt = -2 from rfl) (by omega) (by omega)
          exact t_f_X8_parse_166 (S := S9)  (x0 := x0) (x1 := x1) (x2 := v10) T_S9 R_S9 ((congrFun kE_S9 x0).trans ((congrFun kE_S1 x0).trans r_x0)) r_x1 (by omega)
        ·
          replace c35 := ti_leN (a := (zI S9 7 x0)) (b := (5 : Int32)) c35 rfl (show (5 : Int32).toInt = 5 from rfl)
          unfold f_X8_parse_161
          refine ok_chk (by decide) ?_
          exact ok_ret ⟨T_S9, R_S9, (show (0 : Int) ≤ (0 : Int32).toInt ∧ (0 : Int32).toInt ≤ (1 : Int) from (by decide)), (by show ((0 : Int32).toInt = 1 → 0 ≤ (zI S9 6 x0).toInt ∨ (zI S9 2 x0).toInt ≠ 0); have z : (0 : Int32).toInt = 0 := rfl; omega)⟩
    ·
      replace c29 := ti_eqN (a := r4) (b := (61 : Int32)) c29 rfl (show (61 : Int32).toInt = 61 from rfl)
      exact t_f_X8_parse_166 (S := S1)  (x0 := x0) (x1 := x1) (x2 := x2) T_S1 R_S1 ((congrFun kE_S1 x0).trans r_x0) r_x1 (by omega)
  ·
    replace c26 := ti_eqN (a := (zI S1 3 x0)) (b := (1 : Int32)) c26 rfl (show (1 : Int32).toInt = 1 from rfl)
    exact t_f_X8_parse_166 (S := S1)  (x0 := x0) (x1 := x1) (x2 := x2) T_S1 R_S1 ((congrFun kE_S1 x0).trans r_x0) r_x1 (by omega)
theorem t_f_X8_parse_72 {SZ S : ZS} {x0 : Nat} {t0 : Int32} (hT : ZT S) (hR : A7 SZ S) (r_x0 : zK S x0 = 8) (r_t0 : (0 : Int) ≤ t0.toInt ∧ t0.toInt ≤ (1 : Int)) : Ok (f_X8_parse_72 x0 t0 S) (fun o => ZT o.2 ∧ A7 SZ o.2 ∧ ((0 : Int) ≤ o.1.toInt ∧ o.1.toInt ≤ (1 : Int)) ∧ ((o.1.toInt = 1 → 0 ≤ (zI o.2 6 x0).toInt ∨ (zI o.2 2 x0).toInt ≠ 0))) := by
  unfold f_X8_parse_72
  have j37 := J_8_6 hT r_x0
  have j38 := J_8_2 hT r_x0
  have j39 := J_8_8 hT r_x0
  refine ok_chk r_x0 ?_
  obtain ⟨b1, p_b1, k_b1, c_b1⟩ := T_8_1 hT r_x0
  have lo_b1 := M_8_1 hT r_x0 p_b1
  refine ok_calR p_b1 ?_
  refine ok_chk k_b1 ?_
  have j40 := J61_1 hT k_b1 c_b1
  obtain ⟨r2, h_r2, p_r2⟩ := roz (t_f_X6_size (x0 := b1) hT k_b1)
  dsimp only at p_r2
  refine ok_calR h_r2 ?_
  refine ok_if (fun c41 => ?_) (fun c41 => ?_)
  ·
    replace c41 := ti_eqP (a := t0) (b := (1 : Int32)) c41 rfl (show (1 : Int32).toInt = 1 from rfl)
    refine ok_chk r_x0 ?_
    obtain ⟨b3, p_b3, k_b3, c_b3⟩ := T_8_1 hT r_x0
    have lo_b3 := M_8_1 hT r_x0 p_b3
    refine ok_calR p_b3 ?_
    refine ok_chk k_b3 ?_
    have j42 := J61_1 hT k_b3 c_b3
    have zl43 : (0 : Int32).toInt = 0 := rfl
    obtain ⟨r4, h_r4, p_r4⟩ := roz (t_f_X6_at (x0 := b3) (x1 := (0 : Int32)) hT k_b3)
    dsimp only at p_r4
    refine ok_calR h_r4 ?_
    obtain ⟨r5, h_r5, p_r5⟩ := roz (t_f_X11_kindOf (x0 := r4) hT )
    dsimp only at p_r5
    refine ok_calR h_r5 ?_
    exact t_f_X8_parse_102 (S := S)  (x0 := x0) (x1 := t0) (x2 := r2) (t0 := r5) (t1 := x0) hT hR r_x0 r_t0 (by omega) (by omega) r_x0
  ·
    replace c41 := ti_eqN (a := t0) (b := (1 : Int32)) c41 rfl (show (1 : Int32).toInt = 1 from rfl)
    exact t_f_X8_parse_102 (S := S)  (x0 := x0) (x1 := t0) (x2 := r2) (t0 := (1 : Int32)) (t1 := x0) hT hR r_x0 r_t0 (by omega) (by decide) r_x0
theorem t_f_X8_parse_40 {SZ S : ZS} {x0 : Nat} {t0 : Int32} {t1 : Nat} (hT : ZT S) (hR : A7 SZ S) (r_x0 : zK S x0 = 8) (r_t0 : (-2 : Int) ≤ t0.toInt ∧ t0.toInt ≤ (2 : Int)) (r_t1 : zK S t1 = 8) : Ok (f_X8_parse_40 x0 t0 t1 S) (fun o => ZT o.2 ∧ A7 SZ o.2 ∧ ((0 : Int) ≤ o.1.toInt ∧ o.1.toInt ≤ (1 : Int)) ∧ ((o.1.toInt = 1 → 0 ≤ (zI o.2 6 x0).toInt ∨ (zI o.2 2 x0).toInt ≠ 0))) := by
  unfold f_X8_parse_40
  have j44 := J_8_6 hT r_x0
  have j45 := J_8_2 hT r_x0
  have j46 := J_8_8 hT r_x0
  refine ok_chk r_t1 ?_
  refine ok_bnd (fun S1 e47 => ?_)
  have T_S1 : ZT S1 := e47.symm ▸ zt_I hT r_t1 (by decide) (show (-2 : Int) ≤ t0.toInt ∧ t0.toInt ≤ (2 : Int) from (by omega))
  have kE_S1 : zK S1 = zK S := by rw [e47]; rfl
  have nE_S1 : zN S1 = zN S := by rw [e47]; rfl
  have R_S1 : A7 SZ S1 := a7_I hR e47 r_t1 (by decide)
  have : (zI S1 6 x0).toInt = (zI S 6 x0).toInt := by rw [e47]; rfl
  have : (zI S1 8 x0).toInt = (zI S 8 x0).toInt := by rw [e47]; rfl
  refine ok_chk ((congrFun kE_S1 x0).trans r_x0) ?_
  have j48 := J_8_2 T_S1 ((congrFun kE_S1 x0).trans r_x0)
  refine ok_if (fun c49 => ?_) (fun c49 => ?_)
  ·
    replace c49 := ti_eqP (a := (zI S1 2 x0)) (b := (0 : Int32)) c49 rfl (show (0 : Int32).toInt = 0 from rfl)
    refine ok_chk ((congrFun kE_S1 x0).trans r_x0) ?_
    obtain ⟨b2, p_b2, k_b2, c_b2⟩ := T_8_1 T_S1 ((congrFun kE_S1 x0).trans r_x0)
    have lo_b2 := M_8_1 T_S1 ((congrFun kE_S1 x0).trans r_x0) p_b2
    refine ok_calR p_b2 ?_
    refine ok_chk k_b2 ?_
    have j50 := J61_1 T_S1 k_b2 c_b2
    have zl51 : (0 : Int32).toInt = 0 := rfl
    obtain ⟨r3, h_r3, p_r3⟩ := roz (t_f_X6_at (x0 := b2) (x1 := (0 : Int32)) T_S1 k_b2)
    dsimp only at p_r3
    refine ok_calR h_r3 ?_
    obtain ⟨r4, h_r4, p_r4⟩ := roz (t_f_X11_kindOf (x0 := r3) T_S1 )
    dsimp only at p_r4
    refine ok_calR h_r4 ?_
    refine ok_if (fun c52 => ?_) (fun c52 => ?_)
    ·
      replace c52 := ti_ltP (a := r4) (b := (2 : Int32)) c52 rfl (show (2 : Int32).toInt = 2 from rfl)
      exact t_f_X8_parse_72 (S := S1)  (x0 := x0) (t0 := (0 : Int32)) T_S1 R_S1 ((congrFun kE_S1 x0).trans r_x0) (by decide)
    ·
      replace c52 := ti_ltN (a := r4) (b := (2 : Int32)) c52 rfl (show (2 : Int32).toInt = 2 from rfl)
      exact t_f_X8_parse_72 (S := S1)  (x0 := x0) (t0 := (1 : Int32)) T_S1 R_S1 ((congrFun kE_S1 x0).trans r_x0) (by decide)
  ·
    replace c49 := ti_eqN (a := (zI S1 2 x0)) (b := (0 : Int32)) c49 rfl (show (0 : Int32).toInt = 0 from rfl)
    refine ok_chk (by decide) ?_
    exact ok_ret ⟨T_S1, R_S1, (show (0 : Int) ≤ (1 : Int32).toInt ∧ (1 : Int32).toInt ≤ (1 : Int) from (by decide)), (by show ((1 : Int32).toInt = 1 → 0 ≤ (zI S1 6 x0).toInt ∨ (zI S1 2 x0).toInt ≠ 0); have z : (1 : Int32).toInt = 1 := rfl; omega)⟩
theorem t_f_X8_parse_0 {SZ S : ZS} {x0 : Nat} (hT : ZT S) (hR : A7 SZ S) (r_x0 : zK S x0 = 8) : Ok (f_X8_parse_0 x0 S) (fun o => ZT o.2 ∧ A7 SZ o.2 ∧ ((0 : Int) ≤ o.1.toInt ∧ o.1.toInt ≤ (1 : Int)) ∧ ((o.1.toInt = 1 → 0 ≤ (zI o.2 6 x0).toInt ∨ (zI o.2 2 x0).toInt ≠ 0))) := by
  unfold f_X8_parse_0
  have j53 := J_8_6 hT r_x0
  have j54 := J_8_2 hT r_x0
  have j55 := J_8_8 hT r_x0
  refine ok_chk r_x0 ?_
  refine ok_bnd (fun S1 e56 => ?_)
  have T_S1 : ZT S1 := e56.symm ▸ zt_I hT r_x0 (by decide) (show (0 : Int) ≤ (0 : Int32).toInt ∧ (0 : Int32).toInt ≤ (30 : Int) from (by decide))
  have kE_S1 : zK S1 = zK S := by rw [e56]; rfl
  have nE_S1 : zN S1 = zN S := by rw [e56]; rfl
  have R_S1 : A7 SZ S1 := a7_I hR e56 r_x0 (by decide)
  have : (zI S1 6 x0).toInt = (zI S 6 x0).toInt := by rw [e56]; rfl
  have : (zI S1 2 x0).toInt = (zI S 2 x0).toInt := by rw [e56]; rfl
  have : (zI S1 8 x0).toInt = (zI S 8 x0).toInt := by rw [e56]; rfl
  refine ok_chk ((congrFun kE_S1 x0).trans r_x0) ?_
  obtain ⟨b2, p_b2, k_b2, c_b2⟩ := T_8_1 T_S1 ((congrFun kE_S1 x0).trans r_x0)
  have lo_b2 := M_8_1 T_S1 ((congrFun kE_S1 x0).trans r_x0) p_b2
  refine ok_calR p_b2 ?_
  refine ok_chk k_b2 ?_
  have j57 := J61_1 T_S1 k_b2 c_b2
  obtain ⟨r3, h_r3, p_r3⟩ := roz (t_f_X6_is (x0 := b2) (x1 := 7) T_S1 k_b2 (by decide))
  dsimp only at p_r3
  refine ok_calR h_r3 ?_
  refine ok_if (fun c58 => ?_) (fun c58 => ?_)
  ·
    replace c58 := ti_eqP (a := r3) (b := (0 : Int32)) c58 rfl (show (0 : Int32).toInt = 0 from rfl)
    refine ok_chk ((congrFun kE_S1 x0).trans r_x0) ?_
    obtain ⟨b4, p_b4, k_b4, c_b4⟩ := T_8_1 T_S1 ((congrFun kE_S1 x0).trans r_x0)
    have lo_b4 := M_8_1 T_S1 ((congrFun kE_S1 x0).trans r_x0) p_b4
    refine ok_calR p_b4 ?_
    refine ok_chk k_b4 ?_
    have j59 := J61_1 T_S1 k_b4 c_b4
    obtain ⟨r5, h_r5, p_r5⟩ := roz (t_f_X6_is (x0 := b4) (x1 := 8) T_S1 k_b4 (by decide))
    dsimp only at p_r5
    refine ok_calR h_r5 ?_
    refine ok_if (fun c60 => ?_) (fun c60 => ?_)
    ·
      replace c60 := ti_eqP (a := r5) (b := (0 : Int32)) c60 rfl (show (0 : Int32).toInt = 0 from rfl)
      exact t_f_X8_parse_40 (S := S1)  (x0 := x0) (t0 := (0 : Int32)) (t1 := x0) T_S1 R_S1 ((congrFun kE_S1 x0).trans r_x0) (by decide) ((congrFun kE_S1 x0).trans r_x0)
    ·
      replace c60 := ti_eqN (a := r5) (b := (0 : Int32)) c60 rfl (show (0 : Int32).toInt = 0 from rfl)
      exact t_f_X8_parse_40 (S := S1)  (x0 := x0) (t0 := (-2 : Int32)) (t1 := x0) T_S1 R_S1 ((congrFun kE_S1 x0).trans r_x0) (by decide) ((congrFun kE_S1 x0).trans r_x0)
  ·
    replace c58 := ti_eqN (a := r3) (b := (0 : Int32)) c58 rfl (show (0 : Int32).toInt = 0 from rfl)
    exact t_f_X8_parse_40 (S := S1)  (x0 := x0) (t0 := (2 : Int32)) (t1 := x0) T_S1 R_S1 ((congrFun kE_S1 x0).trans r_x0) (by decide) ((congrFun kE_S1 x0).trans r_x0)
theorem t_f_X8_parse {SZ S : ZS} {x0 : Nat} (hT : ZT S) (hR : A7 SZ S) (r_x0 : zK S x0 = 8) : Ok (f_X8_parse x0 S) (fun o => ZT o.2 ∧ A7 SZ o.2 ∧ ((0 : Int) ≤ o.1.toInt ∧ o.1.toInt ≤ (1 : Int)) ∧ ((o.1.toInt = 1 → 0 ≤ (zI o.2 6 x0).toInt ∨ (zI o.2 2 x0).toInt ≠ 0))) := t_f_X8_parse_0 hT hR r_x0
theorem t_f_X8_fitsFrom_129 {S : ZS} {x0 : Nat} {x1 : Nat} {x2 : Int32} (hT : ZT S) (r_x0 : zK S x0 = 8) (r_x1 : zK S x1 = 0) (r_x2 : (0 : Int) ≤ x2.toInt ∧ x2.toInt ≤ (63 : Int)) (q0 : 0 ≤ (zI S 6 x0).toInt) : Ok (f_X8_fitsFrom_129 x0 x1 x2 S) (fun o => o.2 = S ∧ ((0 : Int) ≤ o.1.toInt ∧ o.1.toInt ≤ (1 : Int))) := by
  unfold f_X8_fitsFrom_129
  refine ok_chk r_x0 ?_
  refine ok_chk r_x1 ?_
  obtain ⟨r1, h_r1, p_r1⟩ := roz (t_f_X0_becomesAnother (x0 := x1) (x1 := x2) (x2 := (zI S 6 x0)) hT r_x1 r_x2)
  dsimp only at p_r1
  refine ok_calR h_r1 ?_
  refine ok_chk r_x0 ?_
  have j61 := J_8_7 hT r_x0
  refine ok_if (fun c62 => ?_) (fun c62 => ?_)
  ·
    replace c62 := ti_eqP (a := (zI S 7 x0)) (b := (0 : Int32)) c62 rfl (show (0 : Int32).toInt = 0 from rfl)
    unfold f_X8_fitsFrom_150
    refine ok_if (fun c63 => ?_) (fun c63 => ?_)
    ·
      replace c63 := ti_eqP (a := r1) (b := (0 : Int32)) c63 rfl (show (0 : Int32).toInt = 0 from rfl)
      unfold f_X8_fitsFrom_158
      refine ok_chk (by decide) ?_
      exact ok_ret ⟨rfl, (show (0 : Int) ≤ (1 : Int32).toInt ∧ (1 : Int32).toInt ≤ (1 : Int) from (by decide))⟩
    ·
      replace c63 := ti_eqN (a := r1) (b := (0 : Int32)) c63 rfl (show (0 : Int32).toInt = 0 from rfl)
      unfold f_X8_fitsFrom_157
      unfold f_X8_fitsFrom_158
      refine ok_chk (by decide) ?_
      exact ok_ret ⟨rfl, (show (0 : Int) ≤ (0 : Int32).toInt ∧ (0 : Int32).toInt ≤ (1 : Int) from (by decide))⟩
  ·
    replace c62 := ti_eqN (a := (zI S 7 x0)) (b := (0 : Int32)) c62 rfl (show (0 : Int32).toInt = 0 from rfl)
    unfold f_X8_fitsFrom_150
    refine ok_if (fun c64 => ?_) (fun c64 => ?_)
    ·
      replace c64 := ti_eqP (a := r1) (b := (1 : Int32)) c64 rfl (show (1 : Int32).toInt = 1 from rfl)
      unfold f_X8_fitsFrom_158
      refine ok_chk (by decide) ?_
      exact ok_ret ⟨rfl, (show (0 : Int) ≤ (1 : Int32).toInt ∧ (1 : Int32).toInt ≤ (1 : Int) from (by decide))⟩
    ·
      replace c64 := ti_eqN (a := r1) (b := (1 : Int32)) c64 rfl (show (1 : Int32).toInt = 1 from rfl)
      unfold f_X8_fitsFrom_157
      unfold f_X8_fitsFrom_158
      refine ok_chk (by decide) ?_
      exact ok_ret ⟨rfl, (show (0 : Int) ≤ (0 : Int32).toInt ∧ (0 : Int32).toInt ≤ (1 : Int) from (by decide))⟩
theorem t_f_X8_fitsFrom_104 {S : ZS} {x0 : Nat} {x1 : Nat} {x2 : Int32} {x3 : Int32} (hT : ZT S) (r_x0 : zK S x0 = 8) (r_x1 : zK S x1 = 0) (r_x2 : (0 : Int) ≤ x2.toInt ∧ x2.toInt ≤ (63 : Int)) (q0 : 0 ≤ (zI S 6 x0).toInt) : Ok (f_X8_fitsFrom_104 x0 x1 x2 x3 S) (fun o => o.2 = S ∧ ((0 : Int) ≤ o.1.toInt ∧ o.1.toInt ≤ (1 : Int))) := by
  unfold f_X8_fitsFrom_104
  refine ok_chk r_x0 ?_
  have j65 := J_8_8 hT r_x0
  refine ok_if (fun c66 => ?_) (fun c66 => ?_)
  ·
    replace c66 := ti_eqP (a := (zI S 8 x0)) (b := (-1 : Int32)) c66 rfl (show (-1 : Int32).toInt = -1 from rfl)
    have j67 := J_8_6 hT r_x0
    exact t_f_X8_fitsFrom_129 (S := S)  (x0 := x0) (x1 := x1) (x2 := x2) hT r_x0 r_x1 r_x2 q0
  ·
    replace c66 := ti_eqN (a := (zI S 8 x0)) (b := (-1 : Int32)) c66 rfl (show (-1 : Int32).toInt = -1 from rfl)
    refine ok_chk r_x0 ?_
    refine ok_if (fun c68 => ?_) (fun c68 => ?_)
    ·
      replace c68 := ti_eqP (a := (zI S 8 x0)) (b := (1 : Int32)) c68 rfl (show (1 : Int32).toInt = 1 from rfl)
      unfold f_X8_fitsFrom_126
      refine ok_if (fun c69 => ?_) (fun c69 => ?_)
      ·
        replace c69 := ti_eqP (a := x3) (b := (1 : Int32)) c69 rfl (show (1 : Int32).toInt = 1 from rfl)
        have j70 := J_8_6 hT r_x0
        exact t_f_X8_fitsFrom_129 (S := S)  (x0 := x0) (x1 := x1) (x2 := x2) hT r_x0 r_x1 r_x2 q0
      ·
        replace c69 := ti_eqN (a := x3) (b := (1 : Int32)) c69 rfl (show (1 : Int32).toInt = 1 from rfl)
        unfold f_X8_fitsFrom_157
        unfold f_X8_fitsFrom_158
        refine ok_chk (by decide) ?_
        exact ok_ret ⟨rfl, (show (0 : Int) ≤ (0 : Int32).toInt ∧ (0 : Int32).toInt ≤ (1 : Int) from (by decide))⟩
    ·
      replace c68 := ti_eqN (a := (zI S 8 x0)) (b := (1 : Int32)) c68 rfl (show (1 : Int32).toInt = 1 from rfl)
      unfold f_X8_fitsFrom_126
      refine ok_if (fun c71 => ?_) (fun c71 => ?_)
      ·
        replace c71 := ti_eqP (a := x3) (b := (0 : Int32)) c71 rfl (show (0 : Int32).toInt = 0 from rfl)
        have j72 := J_8_6 hT r_x0
        exact t_f_X8_fitsFrom_129 (S := S)  (x0 := x0) (x1 := x1) (x2 := x2) hT r_x0 r_x1 r_x2 q0
      ·
        replace c71 := ti_eqN (a := x3) (b := (0 : Int32)) c71 rfl (show (0 : Int32).toInt = 0 from rfl)
        unfold f_X8_fitsFrom_157
        unfold f_X8_fitsFrom_158
        refine ok_chk (by decide) ?_
        exact ok_ret ⟨rfl, (show (0 : Int) ≤ (0 : Int32).toInt ∧ (0 : Int32).toInt ≤ (1 : Int) from (by decide))⟩
theorem t_f_X8_fitsFrom_72 {S : ZS} {x0 : Nat} {x1 : Nat} {x2 : Int32} (hT : ZT S) (r_x0 : zK S x0 = 8) (r_x1 : zK S x1 = 0) (r_x2 : (0 : Int) ≤ x2.toInt ∧ x2.toInt ≤ (63 : Int)) (q0 : 0 ≤ (zI S 6 x0).toInt) : Ok (f_X8_fitsFrom_72 x0 x1 x2 S) (fun o => o.2 = S ∧ ((0 : Int) ≤ o.1.toInt ∧ o.1.toInt ≤ (1 : Int))) := by
  unfold f_X8_fitsFrom_72
  refine ok_chk r_x0 ?_
  refine ok_chk r_x1 ?_
  have j73 := J_8_6 hT r_x0
  obtain ⟨r1, h_r1, p_r1⟩ := roz (t_f_X0_takes (x0 := x1) (x1 := x2) (x2 := (zI S 6 x0)) hT r_x1 r_x2 (by omega))
  dsimp only at p_r1
  refine ok_calR h_r1 ?_
  refine ok_chk r_x0 ?_
  refine ok_if (fun c74 => ?_) (fun c74 => ?_)
  ·
    replace c74 := ti_eqP (a := (zI S 3 x0)) (b := (1 : Int32)) c74 rfl (show (1 : Int32).toInt = 1 from rfl)
    refine ok_if (fun c75 => ?_) (fun c75 => ?_)
    ·
      replace c75 := ti_eqP (a := r1) (b := (0 : Int32)) c75 rfl (show (0 : Int32).toInt = 0 from rfl)
      exact t_f_X8_fitsFrom_104 (S := S)  (x0 := x0) (x1 := x1) (x2 := x2) (x3 := r1) hT r_x0 r_x1 r_x2 q0
    ·
      replace c75 := ti_eqN (a := r1) (b := (0 : Int32)) c75 rfl (show (0 : Int32).toInt = 0 from rfl)
      refine ok_chk r_x0 ?_
      refine ok_if (fun c76 => ?_) (fun c76 => ?_)
      ·
        replace c76 := ti_eqP (a := (zI S 4 x0)) (b := (-1 : Int32)) c76 rfl (show (-1 : Int32).toInt = -1 from rfl)
        refine ok_chk (by decide) ?_
        exact ok_ret ⟨rfl, (show (0 : Int) ≤ (0 : Int32).toInt ∧ (0 : Int32).toInt ≤ (1 : Int) from (by decide))⟩
      ·
        replace c76 := ti_eqN (a := (zI S 4 x0)) (b := (-1 : Int32)) c76 rfl (show (-1 : Int32).toInt = -1 from rfl)
        exact t_f_X8_fitsFrom_104 (S := S)  (x0 := x0) (x1 := x1) (x2 := x2) (x3 := r1) hT r_x0 r_x1 r_x2 q0
  ·
    replace c74 := ti_eqN (a := (zI S 3 x0)) (b := (1 : Int32)) c74 rfl (show (1 : Int32).toInt = 1 from rfl)
    exact t_f_X8_fitsFrom_104 (S := S)  (x0 := x0) (x1 := x1) (x2 := x2) (x3 := r1) hT r_x0 r_x1 r_x2 q0
theorem t_f_X8_fitsFrom_52 {S : ZS} {x0 : Nat} {x1 : Nat} {x2 : Int32} (hT : ZT S) (r_x0 : zK S x0 = 8) (r_x1 : zK S x1 = 0) (r_x2 : (0 : Int) ≤ x2.toInt ∧ x2.toInt ≤ (63 : Int)) (q0 : 0 ≤ (zI S 6 x0).toInt) : Ok (f_X8_fitsFrom_52 x0 x1 x2 S) (fun o => o.2 = S ∧ ((0 : Int) ≤ o.1.toInt ∧ o.1.toInt ≤ (1 : Int))) := by
  unfold f_X8_fitsFrom_52
  refine ok_chk r_x0 ?_
  refine ok_if (fun c77 => ?_) (fun c77 => ?_)
  ·
    replace c77 := ti_eqP (a := (zI S 5 x0)) (b := (-1 : Int32)) c77 rfl (show (-1 : Int32).toInt = -1 from rfl)
    have j78 := J_8_6 hT r_x0
    exact t_f_X8_fitsFrom_72 (S := S)  (x0 := x0) (x1 := x1) (x2 := x2) hT r_x0 r_x1 r_x2 q0
  ·
    replace c77 := ti_eqN (a := (zI S 5 x0)) (b := (-1 : Int32)) c77 rfl (show (-1 : Int32).toInt = -1 from rfl)
    refine ok_chk r_x0 ?_
    refine ok_bnd (fun v1 e79 => ?_)
    have t_v1 : v1.toInt = x2.toInt / 8 := b_sh3 e79 (by omega)
    refine ok_if (fun c80 => ?_) (fun c80 => ?_)
    ·
      replace c80 := ti_eqP (a := (zI S 5 x0)) (b := v1) c80 rfl rfl
      have j81 := J_8_6 hT r_x0
      exact t_f_X8_fitsFrom_72 (S := S)  (x0 := x0) (x1 := x1) (x2 := x2) hT r_x0 r_x1 r_x2 q0
    ·
      replace c80 := ti_eqN (a := (zI S 5 x0)) (b := v1) c80 rfl rfl
      unfold f_X8_fitsFrom_70
      refine ok_chk (by decide) ?_
      exact ok_ret ⟨rfl, (show (0 : Int) ≤ (0 : Int32).toInt ∧ (0 : Int32).toInt ≤ (1 : Int) from (by decide))⟩
theorem t_f_X8_fitsFrom_0 {S : ZS} {x0 : Nat} {x1 : Nat} {x2 : Int32} (hT : ZT S) (r_x0 : zK S x0 = 8) (r_x1 : zK S x1 = 0) (r_x2 : (0 : Int) ≤ x2.toInt ∧ x2.toInt ≤ (63 : Int)) (q0 : 0 ≤ (zI S 6 x0).toInt) : Ok (f_X8_fitsFrom_0 x0 x1 x2 S) (fun o => o.2 = S ∧ ((0 : Int) ≤ o.1.toInt ∧ o.1.toInt ≤ (1 : Int))) := by
  unfold f_X8_fitsFrom_0
  refine ok_chk r_x1 ?_
  obtain ⟨b1, p_b1, k_b1, n_b1⟩ := T_0_0 hT r_x1
  refine ok_calR p_b1 ?_
  refine ok_chk k_b1 ?_
  refine ok_chk (ti_inN (v := x2) (n := 64) n_b1 (by omega) (by omega)) ?_
  refine ok_bnd (fun v2 e82 => ?_)
  refine ok_chk r_x0 ?_
  refine ok_chk r_x1 ?_
  refine ok_bnd (fun v3 e83 => ?_)
  have j84 := J_0_3 hT r_x1
  have t_v3 : v3.toInt = 8 * (zI S 3 x1).toInt := ti_mul e83 (show (8 : Int32).toInt = 8 from rfl) rfl (by omega) (by omega)
  refine ok_bnd (fun v4 e85 => ?_)
  refine ok_if (fun c86 => ?_) (fun c86 => ?_)
  ·
    replace c86 := ti_eqP (a := v2) (b := v4) c86 rfl rfl
    refine ok_chk r_x0 ?_
    refine ok_chk r_x1 ?_
    have j87 := J_8_6 hT r_x0
    obtain ⟨r5, h_r5, p_r5⟩ := roz (t_f_X0_castles (x0 := x1) (x1 := x2) (x2 := (zI S 6 x0)) hT r_x1 r_x2 (by omega))
    dsimp only at p_r5
    refine ok_calR h_r5 ?_
    refine ok_if (fun c88 => ?_) (fun c88 => ?_)
    ·
      replace c88 := ti_eqP (a := r5) (b := (0 : Int32)) c88 rfl (show (0 : Int32).toInt = 0 from rfl)
      refine ok_chk r_x0 ?_
      refine ok_if (fun c89 => ?_) (fun c89 => ?_)
      ·
        replace c89 := ti_eqP (a := (zI S 4 x0)) (b := (-1 : Int32)) c89 rfl (show (-1 : Int32).toInt = -1 from rfl)
        exact t_f_X8_fitsFrom_52 (S := S)  (x0 := x0) (x1 := x1) (x2 := x2) hT r_x0 r_x1 r_x2 q0
      ·
        replace c89 := ti_eqN (a := (zI S 4 x0)) (b := (-1 : Int32)) c89 rfl (show (-1 : Int32).toInt = -1 from rfl)
        refine ok_chk r_x0 ?_
        refine ok_bnd (fun v6 e90 => ?_)
        have t_v6 : v6.toInt = x2.toInt % 8 := b_and7 e90 (by omega)
        refine ok_if (fun c91 => ?_) (fun c91 => ?_)
        ·
          replace c91 := ti_eqP (a := (zI S 4 x0)) (b := v6) c91 rfl rfl
          exact t_f_X8_fitsFrom_52 (S := S)  (x0 := x0) (x1 := x1) (x2 := x2) hT r_x0 r_x1 r_x2 q0
        ·
          replace c91 := ti_eqN (a := (zI S 4 x0)) (b := v6) c91 rfl rfl
          unfold f_X8_fitsFrom_70
          refine ok_chk (by decide) ?_
          exact ok_ret ⟨rfl, (show (0 : Int) ≤ (0 : Int32).toInt ∧ (0 : Int32).toInt ≤ (1 : Int) from (by decide))⟩
    ·
      replace c88 := ti_eqN (a := r5) (b := (0 : Int32)) c88 rfl (show (0 : Int32).toInt = 0 from rfl)
      unfold f_X8_fitsFrom_70
      refine ok_chk (by decide) ?_
      exact ok_ret ⟨rfl, (show (0 : Int) ≤ (0 : Int32).toInt ∧ (0 : Int32).toInt ≤ (1 : Int) from (by decide))⟩
  ·
    replace c86 := ti_eqN (a := v2) (b := v4) c86 rfl rfl
    unfold f_X8_fitsFrom_70
    refine ok_chk (by decide) ?_
    exact ok_ret ⟨rfl, (show (0 : Int) ≤ (0 : Int32).toInt ∧ (0 : Int32).toInt ≤ (1 : Int) from (by decide))⟩
theorem t_f_X8_fitsFrom {S : ZS} {x0 : Nat} {x1 : Nat} {x2 : Int32} (hT : ZT S) (r_x0 : zK S x0 = 8) (r_x1 : zK S x1 = 0) (r_x2 : (0 : Int) ≤ x2.toInt ∧ x2.toInt ≤ (63 : Int)) (q0 : 0 ≤ (zI S 6 x0).toInt) : Ok (f_X8_fitsFrom x0 x1 x2 S) (fun o => o.2 = S ∧ ((0 : Int) ≤ o.1.toInt ∧ o.1.toInt ≤ (1 : Int))) := t_f_X8_fitsFrom_0 hT r_x0 r_x1 r_x2 q0
theorem t_f_X8_gather_82 {SZ S : ZS} {self38 : Nat → Nat → Int32 → Int32 → ZS → Option (Int32 × ZS)} {N38 : Nat} (hself38 : ∀ (x0 : Nat) (x1 : Nat) (x2 : Int32) (x3 : Int32) (S : ZS), ZT S → A7 SZ S → (zK S x0 = 8) → (zK S x1 = 0) → ((0 : Int) ≤ x2.toInt ∧ x2.toInt ≤ (63 : Int)) → ((0 : Int) ≤ x3.toInt ∧ x3.toInt ≤ (64 : Int)) → (0 ≤ (zI S 6 x0).toInt) → ((zI S 11 x0).toInt ≤ x3.toInt) → (65 - x3.toInt) < (N38 : Int) → Ok (self38 x0 x1 x2 x3 S) (fun o => ZT o.2 ∧ A7 SZ o.2 ∧ True)) {x0 : Nat} {x1 : Nat} {x2 : Int32} {x3 : Int32} {t0 : Int32} (hT : ZT S) (hR : A7 SZ S) (r_x0 : zK S x0 = 8) (r_x1 : zK S x1 = 0) (r_x2 : (0 : Int) ≤ x2.toInt ∧ x2.toInt ≤ (63 : Int)) (r_x3 : (0 : Int) ≤ x3.toInt ∧ x3.toInt ≤ (63 : Int)) (r_t0 : (0 : Int) ≤ t0.toInt ∧ t0.toInt ≤ (1 : Int)) (q0 : 0 ≤ (zI S 6 x0).toInt) (q1 : (zI S 11 x0).toInt ≤ x3.toInt) (m38 : (65 - x3.toInt) ≤ (N38 : Int)) : Ok (f_X8_gather_82 self38 x0 x1 x2 x3 t0 S) (fun o => ZT o.2 ∧ A7 SZ o.2 ∧ True) := by
  unfold f_X8_gather_82
  have j92 := J_8_6 hT r_x0
  have j93 := J_8_2 hT r_x0
  have j94 := J_8_7 hT r_x0
  have j95 := J_8_11 hT r_x0
  refine ok_chk r_x0 ?_
  refine ok_bnd (fun v1 e96 => ?_)
  have t_v1 : v1.toInt = 64 * (zI S 6 x0).toInt := ti_mul e96 (show (64 : Int32).toInt = 64 from rfl) rfl (by omega) (by omega)
  refine ok_bnd (fun v2 e97 => ?_)
  have t_v2 : v2.toInt = x3.toInt + v1.toInt := ti_add e97 rfl rfl (by omega) (by omega)
  refine ok_chk r_x0 ?_
  refine ok_bnd (fun v3 e98 => ?_)
  have t_v3 : v3.toInt = 4096 * (zI S 7 x0).toInt := ti_mul e98 (show (4096 : Int32).toInt = 4096 from rfl) rfl (by omega) (by omega)
  refine ok_bnd (fun v4 e99 => ?_)
  have t_v4 : v4.toInt = v2.toInt + v3.toInt := ti_add e99 rfl rfl (by omega) (by omega)
  refine ok_if (fun c100 => ?_) (fun c100 => ?_)
  ·
    replace c100 := ti_eqP (a := t0) (b := (0 : Int32)) c100 rfl (show (0 : Int32).toInt = 0 from rfl)
    unfold f_X8_gather_155
    refine ok_bnd (fun v1w101 e101 => ?_)
    have t_v1w101 : v1w101.toInt = x3.toInt + 1 := ti_add e101 rfl (show (1 : Int32).toInt = 1 from rfl) (by omega) (by omega)
    exact hself38 x0 x1 x2 v1w101 S hT hR r_x0 r_x1 r_x2 (by omega) q0 (by omega) (by omega)
  ·
    replace c100 := ti_eqN (a := t0) (b := (0 : Int32)) c100 rfl (show (0 : Int32).toInt = 0 from rfl)
    refine ok_chk r_x0 ?_
    refine ok_chk r_x1 ?_
    obtain ⟨r5, h_r5, p_r5⟩ := roz (t_f_X0_reaches (x0 := x1) (x1 := x3) (x2 := (zI S 6 x0)) hT r_x1 r_x3 (by omega))
    dsimp only at p_r5
    refine ok_calR h_r5 ?_
    refine ok_if (fun c102 => ?_) (fun c102 => ?_)
    ·
      replace c102 := ti_eqP (a := r5) (b := (0 : Int32)) c102 rfl (show (0 : Int32).toInt = 0 from rfl)
      unfold f_X8_gather_155
      refine ok_bnd (fun v1w103 e103 => ?_)
      have t_v1w103 : v1w103.toInt = x3.toInt + 1 := ti_add e103 rfl (show (1 : Int32).toInt = 1 from rfl) (by omega) (by omega)
      exact hself38 x0 x1 x2 v1w103 S hT hR r_x0 r_x1 r_x2 (by omega) q0 (by omega) (by omega)
    ·
      replace c102 := ti_eqN (a := r5) (b := (0 : Int32)) c102 rfl (show (0 : Int32).toInt = 0 from rfl)
      refine ok_chk r_x0 ?_
      obtain ⟨b6, p_b6, k_b6⟩ := T_8_0 hT r_x0
      refine ok_calR p_b6 ?_
      refine ok_chk k_b6 ?_
      obtain ⟨⟨r7, S7⟩, h_r7, T_S7, A_S7, p_r7⟩ := t_f_X7_isSafe (x0 := b6) (x1 := x1) (x2 := v4) (SZ := S) hT (a7_0 S) k_b6 r_x1
      replace T_S7 : ZT S7 := T_S7
      replace A_S7 : A7 S S7 := A_S7
      dsimp only at p_r7
      refine ok_calR h_r7 ?_
      have q_S7 := fq_X7_isSafe h_r7
      have kE_S7 : zK S7 = zK S := q_S7.2.2.1
      have nE_S7 : zN S7 = zN S := q_S7.2.2.2.1
      have R_S7 : A7 SZ S7 := a7_t hR A_S7
      have : (zI S7 6 x0).toInt = (zI S 6 x0).toInt := congrArg Int32.toInt ((((fz_X7_isSafe h_r7) hT.2.2.2.2.1).2.2 x0 (by rw [r_x0]; decide)).2.2.1 6 (by rw [r_x0]; decide))
      have : (zI S7 2 x0).toInt = (zI S 2 x0).toInt := congrArg Int32.toInt ((((fz_X7_isSafe h_r7) hT.2.2.2.2.1).2.2 x0 (by rw [r_x0]; decide)).2.2.1 2 (by rw [r_x0]; decide))
      have : (zI S7 7 x0).toInt = (zI S 7 x0).toInt := congrArg Int32.toInt ((((fz_X7_isSafe h_r7) hT.2.2.2.2.1).2.2 x0 (by rw [r_x0]; decide)).2.2.1 7 (by rw [r_x0]; decide))
      have : (zI S7 11 x0).toInt = (zI S 11 x0).toInt := congrArg Int32.toInt ((((fz_X7_isSafe h_r7) hT.2.2.2.2.1).2.2 x0 (by rw [r_x0]; decide)).2.2.1 11 (by rw [r_x0]; decide))
      refine ok_if (fun c104 => ?_) (fun c104 => ?_)
      ·
        replace c104 := ti_eqP (a := r7) (b := (0 : Int32)) c104 rfl (show (0 : Int32).toInt = 0 from rfl)
        unfold f_X8_gather_155
        refine ok_bnd (fun v1w105 e105 => ?_)
        have t_v1w105 : v1w105.toInt = x3.toInt + 1 := ti_add e105 rfl (show (1 : Int32).toInt = 1 from rfl) (by omega) (by omega)
        have j106 := J_8_6 T_S7 ((congrFun kE_S7 x0).trans r_x0)
        have j107 := J_8_11 T_S7 ((congrFun kE_S7 x0).trans r_x0)
        exact hself38 x0 x1 x2 v1w105 S7 T_S7 R_S7 ((congrFun kE_S7 x0).trans r_x0) ((congrFun kE_S7 x1).trans r_x1) r_x2 (by omega) (by omega) (by omega) (by omega)
      ·
        replace c104 := ti_eqN (a := r7) (b := (0 : Int32)) c104 rfl (show (0 : Int32).toInt = 0 from rfl)
        refine ok_chk ((congrFun kE_S7 x0).trans r_x0) ?_
        obtain ⟨b8, p_b8, k_b8, n_b8⟩ := T_8_10 T_S7 ((congrFun kE_S7 x0).trans r_x0)
        refine ok_calR p_b8 ?_
        refine ok_chk ((congrFun kE_S7 x0).trans r_x0) ?_
        refine ok_chk k_b8 ?_
        have j108 := J_8_11 T_S7 ((congrFun kE_S7 x0).trans r_x0)
        refine ok_chk (ti_inN (v := (zI S7 11 x0)) (n := 64) n_b8 (by omega) (by omega)) ?_
        refine ok_bnd (fun S9 e109 => ?_)
        have T_S9 : ZT S9 := e109.symm ▸ zt_A T_S7 k_b8
        have kE_S9 : zK S9 = zK S7 := by rw [e109]; rfl
        have nE_S9 : zN S9 = zN S7 := by rw [e109]; rfl
        have R_S9 : A7 SZ S9 := a7_A R_S7 e109 T_S7 k_b8 n_b8 (by decide)
        have : (zI S9 6 x0).toInt = (zI S7 6 x0).toInt := by rw [e109]; rfl
        have : (zI S9 2 x0).toInt = (zI S7 2 x0).toInt := by rw [e109]; rfl
        have : (zI S9 7 x0).toInt = (zI S7 7 x0).toInt := by rw [e109]; rfl
        have : (zI S9 11 x0).toInt = (zI S7 11 x0).toInt := by rw [e109]; rfl
        refine ok_chk ((congrFun kE_S9 x0).trans ((congrFun kE_S7 x0).trans r_x0)) ?_
        refine ok_bnd (fun v10 e110 => ?_)
        have j111 := J_8_11 T_S9 ((congrFun kE_S9 x0).trans ((congrFun kE_S7 x0).trans r_x0))
        have t_v10 : v10.toInt = (zI S9 11 x0).toInt + 1 := ti_add e110 rfl (show (1 : Int32).toInt = 1 from rfl) (by omega) (by omega)
        refine ok_chk ((congrFun kE_S9 x0).trans ((congrFun kE_S7 x0).trans r_x0)) ?_
        refine ok_bnd (fun S11 e112 => ?_)
        have T_S11 : ZT S11 := e112.symm ▸ zt_I T_S9 ((congrFun kE_S9 x0).trans ((congrFun kE_S7 x0).trans r_x0)) (by decide) (show (0 : Int) ≤ v10.toInt ∧ v10.toInt ≤ (64 : Int) from (by omega))
        have kE_S11 : zK S11 = zK S9 := by rw [e112]; rfl
        have nE_S11 : zN S11 = zN S9 := by rw [e112]; rfl
        have R_S11 : A7 SZ S11 := a7_I R_S9 e112 ((congrFun kE_S9 x0).trans ((congrFun kE_S7 x0).trans r_x0)) (by decide)
        have : (zI S11 6 x0).toInt = (zI S9 6 x0).toInt := by rw [e112]; rfl
        have : (zI S11 2 x0).toInt = (zI S9 2 x0).toInt := by rw [e112]; rfl
        have : (zI S11 7 x0).toInt = (zI S9 7 x0).toInt := by rw [e112]; rfl
        have : (zI S11 11 x0).toInt = v10.toInt := by rw [e112]; exact (congrArg Int32.toInt (zI_self _ _ _ _)).trans rfl
        unfold f_X8_gather_155
        refine ok_bnd (fun v1w113 e113 => ?_)
        have t_v1w113 : v1w113.toInt = x3.toInt + 1 := ti_add e113 rfl (show (1 : Int32).toInt = 1 from rfl) (by omega) (by omega)
        have j114 := J_8_6 T_S11 ((congrFun kE_S11 x0).trans ((congrFun kE_S9 x0).trans ((congrFun kE_S7 x0).trans r_x0)))
        have j115 := J_8_11 T_S11 ((congrFun kE_S11 x0).trans ((congrFun kE_S9 x0).trans ((congrFun kE_S7 x0).trans r_x0)))
        exact hself38 x0 x1 x2 v1w113 S11 T_S11 R_S11 ((congrFun kE_S11 x0).trans ((congrFun kE_S9 x0).trans ((congrFun kE_S7 x0).trans r_x0))) ((congrFun kE_S11 x1).trans ((congrFun kE_S9 x1).trans ((congrFun kE_S7 x1).trans r_x1))) r_x2 (by omega) (by omega) (by omega) (by omega)
theorem t_f_X8_gather_38s {SZ S : ZS} {self38 : Nat → Nat → Int32 → Int32 → ZS → Option (Int32 × ZS)} {N38 : Nat} (hself38 : ∀ (x0 : Nat) (x1 : Nat) (x2 : Int32) (x3 : Int32) (S : ZS), ZT S → A7 SZ S → (zK S x0 = 8) → (zK S x1 = 0) → ((0 : Int) ≤ x2.toInt ∧ x2.toInt ≤ (63 : Int)) → ((0 : Int) ≤ x3.toInt ∧ x3.toInt ≤ (64 : Int)) → (0 ≤ (zI S 6 x0).toInt) → ((zI S 11 x0).toInt ≤ x3.toInt) → (65 - x3.toInt) < (N38 : Int) → Ok (self38 x0 x1 x2 x3 S) (fun o => ZT o.2 ∧ A7 SZ o.2 ∧ True)) {x0 : Nat} {x1 : Nat} {x2 : Int32} {x3 : Int32} (hT : ZT S) (hR : A7 SZ S) (r_x0 : zK S x0 = 8) (r_x1 : zK S x1 = 0) (r_x2 : (0 : Int) ≤ x2.toInt ∧ x2.toInt ≤ (63 : Int)) (r_x3 : (0 : Int) ≤ x3.toInt ∧ x3.toInt ≤ (64 : Int)) (q0 : 0 ≤ (zI S 6 x0).toInt) (q1 : (zI S 11 x0).toInt ≤ x3.toInt) (m38 : (65 - x3.toInt) ≤ (N38 : Int)) : Ok (f_X8_gather_38s self38 x0 x1 x2 x3 S) (fun o => ZT o.2 ∧ A7 SZ o.2 ∧ True) := by
  unfold f_X8_gather_38s
  have j116 := J_8_6 hT r_x0
  have j117 := J_8_2 hT r_x0
  have j118 := J_8_7 hT r_x0
  have j119 := J_8_11 hT r_x0
  refine ok_if (fun c120 => ?_) (fun c120 => ?_)
  ·
    replace c120 := ti_leP (a := (64 : Int32)) (b := x3) c120 (show (64 : Int32).toInt = 64 from rfl) rfl
    exact ok_ret ⟨hT, hR, trivial⟩
  ·
    replace c120 := ti_leN (a := (64 : Int32)) (b := x3) c120 (show (64 : Int32).toInt = 64 from rfl) rfl
    refine ok_chk r_x0 ?_
    refine ok_if (fun c121 => ?_) (fun c121 => ?_)
    ·
      replace c121 := ti_eqP (a := (zI S 2 x0)) (b := (0 : Int32)) c121 rfl (show (0 : Int32).toInt = 0 from rfl)
      refine ok_chk r_x0 ?_
      obtain ⟨r1, h_r1, p_r1⟩ := roz (t_f_X8_fitsFrom (x0 := x0) (x1 := x1) (x2 := x3) hT r_x0 r_x1 (by omega) q0)
      dsimp only at p_r1
      refine ok_calR h_r1 ?_
      exact t_f_X8_gather_82 (S := S) hself38 (x0 := x0) (x1 := x1) (x2 := x2) (x3 := x3) (t0 := r1) hT hR r_x0 r_x1 r_x2 (by omega) (by omega) q0 q1 m38
    ·
      replace c121 := ti_eqN (a := (zI S 2 x0)) (b := (0 : Int32)) c121 rfl (show (0 : Int32).toInt = 0 from rfl)
      refine ok_if (fun c122 => ?_) (fun c122 => ?_)
      ·
        replace c122 := ti_eqP (a := x3) (b := x2) c122 rfl rfl
        refine ok_chk r_x0 ?_
        refine ok_chk r_x1 ?_
        obtain ⟨r2, h_r2, p_r2⟩ := roz (t_f_X0_castles (x0 := x1) (x1 := x3) (x2 := (zI S 6 x0)) hT r_x1 (by omega) (by omega))
        dsimp only at p_r2
        refine ok_calR h_r2 ?_
        refine ok_if (fun c123 => ?_) (fun c123 => ?_)
        ·
          replace c123 := ti_eqP (a := r2) (b := (0 : Int32)) c123 rfl (show (0 : Int32).toInt = 0 from rfl)
          unfold f_X8_gather_72
          exact t_f_X8_gather_82 (S := S) hself38 (x0 := x0) (x1 := x1) (x2 := x2) (x3 := x3) (t0 := (0 : Int32)) hT hR r_x0 r_x1 r_x2 (by omega) (by decide) q0 q1 m38
        ·
          replace c123 := ti_eqN (a := r2) (b := (0 : Int32)) c123 rfl (show (0 : Int32).toInt = 0 from rfl)
          exact t_f_X8_gather_82 (S := S) hself38 (x0 := x0) (x1 := x1) (x2 := x2) (x3 := x3) (t0 := (1 : Int32)) hT hR r_x0 r_x1 r_x2 (by omega) (by decide) q0 q1 m38
      ·
        replace c122 := ti_eqN (a := x3) (b := x2) c122 rfl rfl
        unfold f_X8_gather_72
        exact t_f_X8_gather_82 (S := S) hself38 (x0 := x0) (x1 := x1) (x2 := x2) (x3 := x3) (t0 := (0 : Int32)) hT hR r_x0 r_x1 r_x2 (by omega) (by decide) q0 q1 m38
theorem t_f_X8_gather_38 {SZ : ZS} : ∀ (n : Nat) (x0 : Nat) (x1 : Nat) (x2 : Int32) (x3 : Int32) (S : ZS), ZT S → A7 SZ S → (zK S x0 = 8) → (zK S x1 = 0) → ((0 : Int) ≤ x2.toInt ∧ x2.toInt ≤ (63 : Int)) → ((0 : Int) ≤ x3.toInt ∧ x3.toInt ≤ (64 : Int)) → (0 ≤ (zI S 6 x0).toInt) → ((zI S 11 x0).toInt ≤ x3.toInt) → (65 - x3.toInt) < (n : Int) → Ok (f_X8_gather_38  n x0 x1 x2 x3 S) (fun o => ZT o.2 ∧ A7 SZ o.2 ∧ True) := by
  intro n
  induction n with
  | zero => intro x0 x1 x2 x3 S hT hR g0 g1 g2 g3 g4 g5  hm; exfalso; omega
  | succ n ih =>
    intro x0 x1 x2 x3 S hT hR g0 g1 g2 g3 g4 g5  hm
    exact t_f_X8_gather_38s (N38 := n)  ih hT hR g0 g1 g2 g3 g4 g5  (by omega)
theorem t_f_X8_gather_18 {SZ S : ZS} {x0 : Nat} {x1 : Nat} {t0 : Int32} (hT : ZT S) (hR : A7 SZ S) (r_x0 : zK S x0 = 8) (r_x1 : zK S x1 = 0) (r_t0 : (4 : Int) ≤ t0.toInt ∧ t0.toInt ≤ (60 : Int)) (q0 : 0 ≤ (zI S 6 x0).toInt ∨ (zI S 2 x0).toInt ≠ 0) (q1 : (zI S 11 x0).toInt ≤ 0) : Ok (f_X8_gather_18 x0 x1 t0 S) (fun o => ZT o.2 ∧ A7 SZ o.2 ∧ True) := by
  unfold f_X8_gather_18
  have j124 := J_8_6 hT r_x0
  have j125 := J_8_2 hT r_x0
  have j126 := J_8_7 hT r_x0
  have j127 := J_8_11 hT r_x0
  refine ok_chk r_x0 ?_
  refine ok_if (fun c128 => ?_) (fun c128 => ?_)
  ·
    replace c128 := ti_eqP (a := (zI S 2 x0)) (b := (0 : Int32)) c128 rfl (show (0 : Int32).toInt = 0 from rfl)
    unfold f_X8_gather_36
    exact t_f_X8_gather_38   mFuel x0 x1 t0 (0 : Int32) S hT hR r_x0 r_x1 (by omega) (by decide) (by have z0 : (0 : Int32).toInt = 0 := rfl; omega) (by have z0 : (0 : Int32).toInt = 0 := rfl; omega) (by show _ < ((200000 : Nat) : Int); have z0 : (0 : Int32).toInt = 0 := rfl; omega)
  ·
    replace c128 := ti_eqN (a := (zI S 2 x0)) (b := (0 : Int32)) c128 rfl (show (0 : Int32).toInt = 0 from rfl)
    refine ok_chk r_x0 ?_
    refine ok_bnd (fun v1 e129 => ?_)
    have t_v1 : v1.toInt = t0.toInt + (zI S 2 x0).toInt := ti_add e129 rfl rfl (by omega) (by omega)
    refine ok_chk r_x0 ?_
    refine ok_bnd (fun S2 e130 => ?_)
    have T_S2 : ZT S2 := e130.symm ▸ zt_I hT r_x0 (by decide) (show (-1 : Int) ≤ v1.toInt ∧ v1.toInt ≤ (63 : Int) from (by omega))
    have kE_S2 : zK S2 = zK S := by rw [e130]; rfl
    have nE_S2 : zN S2 = zN S := by rw [e130]; rfl
    have R_S2 : A7 SZ S2 := a7_I hR e130 r_x0 (by decide)
    have : (zI S2 6 x0).toInt = v1.toInt := by rw [e130]; exact (congrArg Int32.toInt (zI_self _ _ _ _)).trans rfl
    have : (zI S2 2 x0).toInt = (zI S 2 x0).toInt := by rw [e130]; rfl
    have : (zI S2 7 x0).toInt = (zI S 7 x0).toInt := by rw [e130]; rfl
    have : (zI S2 11 x0).toInt = (zI S 11 x0).toInt := by rw [e130]; rfl
    unfold f_X8_gather_36
    have j131 := J_8_6 T_S2 ((congrFun kE_S2 x0).trans r_x0)
    have j132 := J_8_11 T_S2 ((congrFun kE_S2 x0).trans r_x0)
    exact t_f_X8_gather_38   mFuel x0 x1 t0 (0 : Int32) S2 T_S2 R_S2 ((congrFun kE_S2 x0).trans r_x0) ((congrFun kE_S2 x1).trans r_x1) (by omega) (by decide) (by have z0 : (0 : Int32).toInt = 0 := rfl; omega) (by have z0 : (0 : Int32).toInt = 0 := rfl; omega) (by show _ < ((200000 : Nat) : Int); have z0 : (0 : Int32).toInt = 0 := rfl; omega)
theorem t_f_X8_gather_0 {SZ S : ZS} {x0 : Nat} {x1 : Nat} (hT : ZT S) (hR : A7 SZ S) (r_x0 : zK S x0 = 8) (r_x1 : zK S x1 = 0) (q0 : 0 ≤ (zI S 6 x0).toInt ∨ (zI S 2 x0).toInt ≠ 0) : Ok (f_X8_gather_0 x0 x1 S) (fun o => ZT o.2 ∧ A7 SZ o.2 ∧ True) := by
  unfold f_X8_gather_0
  have j133 := J_8_6 hT r_x0
  have j134 := J_8_2 hT r_x0
  have j135 := J_8_7 hT r_x0
  have j136 := J_8_11 hT r_x0
  refine ok_chk r_x0 ?_
  refine ok_bnd (fun S1 e137 => ?_)
  have T_S1 : ZT S1 := e137.symm ▸ zt_I hT r_x0 (by decide) (show (0 : Int) ≤ (0 : Int32).toInt ∧ (0 : Int32).toInt ≤ (64 : Int) from (by decide))
  have kE_S1 : zK S1 = zK S := by rw [e137]; rfl
  have nE_S1 : zN S1 = zN S := by rw [e137]; rfl
  have R_S1 : A7 SZ S1 := a7_I hR e137 r_x0 (by decide)
  have : (zI S1 6 x0).toInt = (zI S 6 x0).toInt := by rw [e137]; rfl
  have : (zI S1 2 x0).toInt = (zI S 2 x0).toInt := by rw [e137]; rfl
  have : (zI S1 7 x0).toInt = (zI S 7 x0).toInt := by rw [e137]; rfl
  have : (zI S1 11 x0).toInt = 0 := by rw [e137]; exact (congrArg Int32.toInt (zI_self _ _ _ _)).trans (show (0 : Int32).toInt = 0 from rfl)
  refine ok_chk ((congrFun kE_S1 x1).trans r_x1) ?_
  have j138 := J_0_3 T_S1 ((congrFun kE_S1 x1).trans r_x1)
  refine ok_if (fun c139 => ?_) (fun c139 => ?_)
  ·
    replace c139 := ti_eqP (a := (zI S1 3 x1)) (b := (0 : Int32)) c139 rfl (show (0 : Int32).toInt = 0 from rfl)
    have j140 := J_8_6 T_S1 ((congrFun kE_S1 x0).trans r_x0)
    have j141 := J_8_2 T_S1 ((congrFun kE_S1 x0).trans r_x0)
    have j142 := J_8_11 T_S1 ((congrFun kE_S1 x0).trans r_x0)
    exact t_f_X8_gather_18 (S := S1)  (x0 := x0) (x1 := x1) (t0 := (4 : Int32)) T_S1 R_S1 ((congrFun kE_S1 x0).trans r_x0) ((congrFun kE_S1 x1).trans r_x1) (by decide) (by have z0 : (4 : Int32).toInt = 4 := rfl; omega) (by have z0 : (4 : Int32).toInt = 4 := rfl; omega)
  ·
    replace c139 := ti_eqN (a := (zI S1 3 x1)) (b := (0 : Int32)) c139 rfl (show (0 : Int32).toInt = 0 from rfl)
    have j143 := J_8_6 T_S1 ((congrFun kE_S1 x0).trans r_x0)
    have j144 := J_8_2 T_S1 ((congrFun kE_S1 x0).trans r_x0)
    have j145 := J_8_11 T_S1 ((congrFun kE_S1 x0).trans r_x0)
    exact t_f_X8_gather_18 (S := S1)  (x0 := x0) (x1 := x1) (t0 := (60 : Int32)) T_S1 R_S1 ((congrFun kE_S1 x0).trans r_x0) ((congrFun kE_S1 x1).trans r_x1) (by decide) (by have z0 : (60 : Int32).toInt = 60 := rfl; omega) (by have z0 : (60 : Int32).toInt = 60 := rfl; omega)
theorem t_f_X8_gather {SZ S : ZS} {x0 : Nat} {x1 : Nat} (hT : ZT S) (hR : A7 SZ S) (r_x0 : zK S x0 = 8) (r_x1 : zK S x1 = 0) (q0 : 0 ≤ (zI S 6 x0).toInt ∨ (zI S 2 x0).toInt ≠ 0) : Ok (f_X8_gather x0 x1 S) (fun o => ZT o.2 ∧ A7 SZ o.2 ∧ True) := t_f_X8_gather_0 hT hR r_x0 r_x1 q0
theorem t_f_X1_has_0 {S : ZS} {x0 : Nat} {x1 : Int32} (hT : ZT S) (r_x0 : zK S x0 = 1) : Ok (f_X1_has_0 x0 x1 S) (fun o => o.2 = S ∧ ((0 : Int) ≤ o.1.toInt ∧ o.1.toInt ≤ (1 : Int)) ∧ ((o.1.toInt = 1 → 0 ≤ x1.toInt ∧ x1.toInt ≤ (zI S 3 x0).toInt))) := by
  unfold f_X1_has_0
  refine ok_if (fun c146 => ?_) (fun c146 => ?_)
  ·
    replace c146 := ti_ltP (a := x1) (b := (0 : Int32)) c146 rfl (show (0 : Int32).toInt = 0 from rfl)
    unfold f_X1_has_16
    unfold f_X1_has_17
    refine ok_chk (by decide) ?_
    exact ok_ret ⟨rfl, (show (0 : Int) ≤ (0 : Int32).toInt ∧ (0 : Int32).toInt ≤ (1 : Int) from (by decide)), (by show ((0 : Int32).toInt = 1 → 0 ≤ x1.toInt ∧ x1.toInt ≤ (zI S 3 x0).toInt); have z : (0 : Int32).toInt = 0 := rfl; omega)⟩
  ·
    replace c146 := ti_ltN (a := x1) (b := (0 : Int32)) c146 rfl (show (0 : Int32).toInt = 0 from rfl)
    refine ok_chk r_x0 ?_
    have j147 := J_1_3 hT r_x0
    refine ok_if (fun c148 => ?_) (fun c148 => ?_)
    ·
      replace c148 := ti_ltP (a := (zI S 3 x0)) (b := x1) c148 rfl rfl
      unfold f_X1_has_16
      unfold f_X1_has_17
      refine ok_chk (by decide) ?_
      exact ok_ret ⟨rfl, (show (0 : Int) ≤ (0 : Int32).toInt ∧ (0 : Int32).toInt ≤ (1 : Int) from (by decide)), (by show ((0 : Int32).toInt = 1 → 0 ≤ x1.toInt ∧ x1.toInt ≤ (zI S 3 x0).toInt); have z : (0 : Int32).toInt = 0 := rfl; omega)⟩
    ·
      replace c148 := ti_ltN (a := (zI S 3 x0)) (b := x1) c148 rfl rfl
      unfold f_X1_has_17
      refine ok_chk (by decide) ?_
      exact ok_ret ⟨rfl, (show (0 : Int) ≤ (1 : Int32).toInt ∧ (1 : Int32).toInt ≤ (1 : Int) from (by decide)), (by show ((1 : Int32).toInt = 1 → 0 ≤ x1.toInt ∧ x1.toInt ≤ (zI S 3 x0).toInt); have z : (1 : Int32).toInt = 1 := rfl; omega)⟩
theorem t_f_X1_has {S : ZS} {x0 : Nat} {x1 : Int32} (hT : ZT S) (r_x0 : zK S x0 = 1) : Ok (f_X1_has x0 x1 S) (fun o => o.2 = S ∧ ((0 : Int) ≤ o.1.toInt ∧ o.1.toInt ≤ (1 : Int)) ∧ ((o.1.toInt = 1 → 0 ≤ x1.toInt ∧ x1.toInt ≤ (zI S 3 x0).toInt))) := t_f_X1_has_0 hT r_x0
theorem t_f_X1_childWith_12s {S : ZS} {self12 : Nat → Int32 → Int32 → Int32 → ZS → Option (Int32 × ZS)} {N12 : Nat} (hself12 : ∀ (x0 : Nat) (x2 : Int32) (x3 : Int32) (x4 : Int32),  (zK S x0 = 1) → ((0 : Int) ≤ x4.toInt ∧ x4.toInt ≤ (300 : Int)) → (301 - x4.toInt) < (N12 : Int) → Ok (self12 x0 x2 x3 x4 S) (fun o => o.2 = S ∧ True)) {x0 : Nat} {x2 : Int32} {x3 : Int32} {x4 : Int32} (hT : ZT S) (r_x0 : zK S x0 = 1) (r_x4 : (0 : Int) ≤ x4.toInt ∧ x4.toInt ≤ (300 : Int)) (m12 : (301 - x4.toInt) ≤ (N12 : Int)) : Ok (f_X1_childWith_12s self12 x0 x2 x3 x4 S) (fun o => o.2 = S ∧ True) := by
  unfold f_X1_childWith_12s
  refine ok_if (fun c149 => ?_) (fun c149 => ?_)
  ·
    replace c149 := ti_leP (a := (300 : Int32)) (b := x4) c149 (show (300 : Int32).toInt = 300 from rfl) rfl
    unfold f_X1_childWith_52
    exact ok_ret ⟨rfl, trivial⟩
  ·
    replace c149 := ti_leN (a := (300 : Int32)) (b := x4) c149 (show (300 : Int32).toInt = 300 from rfl) rfl
    refine ok_if (fun c150 => ?_) (fun c150 => ?_)
    ·
      replace c150 := ti_eqP (a := x3) (b := (-1 : Int32)) c150 rfl (show (-1 : Int32).toInt = -1 from rfl)
      unfold f_X1_childWith_52
      exact ok_ret ⟨rfl, trivial⟩
    ·
      replace c150 := ti_eqN (a := x3) (b := (-1 : Int32)) c150 rfl (show (-1 : Int32).toInt = -1 from rfl)
      refine ok_chk r_x0 ?_
      obtain ⟨r1, h_r1, p_r1⟩ := roz (t_f_X1_at (x0 := x0) (x1 := x3) hT r_x0)
      dsimp only at p_r1
      refine ok_calR h_r1 ?_
      refine ok_chk p_r1.1 ?_
      refine ok_if (fun c151 => ?_) (fun c151 => ?_)
      ·
        replace c151 := ti_eqP (a := (zI S 1 r1)) (b := x2) c151 rfl rfl
        unfold f_X1_childWith_52
        exact ok_ret ⟨rfl, trivial⟩
      ·
        replace c151 := ti_eqN (a := (zI S 1 r1)) (b := x2) c151 rfl rfl
        refine ok_chk r_x0 ?_
        obtain ⟨r2, h_r2, p_r2⟩ := roz (t_f_X1_at (x0 := x0) (x1 := x3) hT r_x0)
        dsimp only at p_r2
        refine ok_calR h_r2 ?_
        refine ok_chk p_r2.1 ?_
        refine ok_bnd (fun v3 e152 => ?_)
        have t_v3 : v3.toInt = x4.toInt + 1 := ti_add e152 rfl (show (1 : Int32).toInt = 1 from rfl) (by omega) (by omega)
        exact hself12 x0 x2 (zI S 3 r2) v3  r_x0 (by omega) (by omega)
theorem t_f_X1_childWith_12 {S : ZS} (hT : ZT S) : ∀ (n : Nat) (x0 : Nat) (x2 : Int32) (x3 : Int32) (x4 : Int32),  (zK S x0 = 1) → ((0 : Int) ≤ x4.toInt ∧ x4.toInt ≤ (300 : Int)) → (301 - x4.toInt) < (n : Int) → Ok (f_X1_childWith_12  n x0 x2 x3 x4 S) (fun o => o.2 = S ∧ True) := by
  intro n
  induction n with
  | zero => intro x0 x2 x3 x4 g0 g1  hm; exfalso; omega
  | succ n ih =>
    intro x0 x2 x3 x4 g0 g1  hm
    exact t_f_X1_childWith_12s (N12 := n)  ih hT g0 g1  (by omega)
theorem t_f_X1_childWith_0 {S : ZS} {x0 : Nat} {x1 : Int32} {x2 : Int32} (hT : ZT S) (r_x0 : zK S x0 = 1) : Ok (f_X1_childWith_0 x0 x1 x2 S) (fun o => o.2 = S ∧ True) := by
  unfold f_X1_childWith_0
  refine ok_chk r_x0 ?_
  obtain ⟨r1, h_r1, p_r1⟩ := roz (t_f_X1_at (x0 := x0) (x1 := x1) hT r_x0)
  dsimp only at p_r1
  refine ok_calR h_r1 ?_
  refine ok_chk p_r1.1 ?_
  exact t_f_X1_childWith_12  hT mFuel x0 x2 (zI S 2 r1) (0 : Int32)  r_x0 (by decide) (by show _ < ((200000 : Nat) : Int); have z0 : (0 : Int32).toInt = 0 := rfl; omega)
theorem t_f_X1_childWith {S : ZS} {x0 : Nat} {x1 : Int32} {x2 : Int32} (hT : ZT S) (r_x0 : zK S x0 = 1) : Ok (f_X1_childWith x0 x1 x2 S) (fun o => o.2 = S ∧ True) := t_f_X1_childWith_0 hT r_x0
theorem t_f_X1_goesOn_0 {S : ZS} {x0 : Nat} {x1 : Int32} (hT : ZT S) (r_x0 : zK S x0 = 1) : Ok (f_X1_goesOn_0 x0 x1 S) (fun o => o.2 = S ∧ ((0 : Int) ≤ o.1.toInt ∧ o.1.toInt ≤ (1 : Int))) := by
  unfold f_X1_goesOn_0
  refine ok_chk r_x0 ?_
  obtain ⟨r1, h_r1, p_r1⟩ := roz (t_f_X1_at (x0 := x0) (x1 := x1) hT r_x0)
  dsimp only at p_r1
  refine ok_calR h_r1 ?_
  refine ok_chk p_r1.1 ?_
  refine ok_chk r_x0 ?_
  obtain ⟨r2, h_r2, p_r2⟩ := roz (t_f_X1_at (x0 := x0) (x1 := (zI S 0 r1)) hT r_x0)
  dsimp only at p_r2
  refine ok_calR h_r2 ?_
  refine ok_chk p_r2.1 ?_
  refine ok_if (fun c153 => ?_) (fun c153 => ?_)
  ·
    replace c153 := ti_eqP (a := (zI S 2 r2)) (b := x1) c153 rfl rfl
    unfold f_X1_goesOn_24
    refine ok_chk (by decide) ?_
    exact ok_ret ⟨rfl, (show (0 : Int) ≤ (1 : Int32).toInt ∧ (1 : Int32).toInt ≤ (1 : Int) from (by decide))⟩
  ·
    replace c153 := ti_eqN (a := (zI S 2 r2)) (b := x1) c153 rfl rfl
    unfold f_X1_goesOn_24
    refine ok_chk (by decide) ?_
    exact ok_ret ⟨rfl, (show (0 : Int) ≤ (0 : Int32).toInt ∧ (0 : Int32).toInt ≤ (1 : Int) from (by decide))⟩
theorem t_f_X1_goesOn {S : ZS} {x0 : Nat} {x1 : Int32} (hT : ZT S) (r_x0 : zK S x0 = 1) : Ok (f_X1_goesOn x0 x1 S) (fun o => o.2 = S ∧ ((0 : Int) ≤ o.1.toInt ∧ o.1.toInt ≤ (1 : Int))) := t_f_X1_goesOn_0 hT r_x0
theorem t_f_X1_deepOfNext_49 {S : ZS} {self23 : Nat → Int32 → Int32 → Int32 → ZS → Option (Int32 × ZS)} {N23 : Nat} (hself23 : ∀ (x0 : Nat) (x2 : Int32) (x3 : Int32) (x4 : Int32),  (zK S x0 = 1) → ((0 : Int) ≤ x2.toInt ∧ x2.toInt ≤ (400 : Int)) → ((0 : Int) ≤ x4.toInt ∧ x4.toInt ≤ (300 : Int)) → (x2.toInt ≤ x4.toInt + 1) → (301 - x4.toInt) < (N23 : Int) → Ok (self23 x0 x2 x3 x4 S) (fun o => o.2 = S ∧ ((0 : Int) ≤ o.1.toInt ∧ o.1.toInt ≤ (400 : Int)))) {x0 : Nat} {x3 : Int32} {x4 : Int32} {t0 : Int32} {t1 : Int32} (hT : ZT S) (r_x0 : zK S x0 = 1) (r_x4 : (0 : Int) ≤ x4.toInt ∧ x4.toInt ≤ (299 : Int)) (r_t0 : (0 : Int) ≤ t0.toInt ∧ t0.toInt ≤ (1 : Int)) (r_t1 : (0 : Int) ≤ t1.toInt ∧ t1.toInt ≤ (400 : Int)) (q0 : t1.toInt ≤ x4.toInt + 1) (m23 : (301 - x4.toInt) ≤ (N23 : Int)) : Ok (f_X1_deepOfNext_49 self23 x0 x3 x4 t0 t1 S) (fun o => o.2 = S ∧ ((0 : Int) ≤ o.1.toInt ∧ o.1.toInt ≤ (400 : Int))) := by
  unfold f_X1_deepOfNext_49
  refine ok_bnd (fun v1 e154 => ?_)
  have t_v1 : v1.toInt = t1.toInt + t0.toInt := ti_add e154 rfl rfl (by omega) (by omega)
  refine ok_chk r_x0 ?_
  obtain ⟨r2, h_r2, p_r2⟩ := roz (t_f_X1_at (x0 := x0) (x1 := x3) hT r_x0)
  dsimp only at p_r2
  refine ok_calR h_r2 ?_
  refine ok_chk p_r2.1 ?_
  refine ok_bnd (fun v3 e155 => ?_)
  have t_v3 : v3.toInt = x4.toInt + 1 := ti_add e155 rfl (show (1 : Int32).toInt = 1 from rfl) (by omega) (by omega)
  exact hself23 x0 v1 (zI S 0 r2) v3  r_x0 (by omega) (by omega) (by omega) (by omega)
theorem t_f_X1_deepOfNext_23s {S : ZS} {self23 : Nat → Int32 → Int32 → Int32 → ZS → Option (Int32 × ZS)} {N23 : Nat} (hself23 : ∀ (x0 : Nat) (x2 : Int32) (x3 : Int32) (x4 : Int32),  (zK S x0 = 1) → ((0 : Int) ≤ x2.toInt ∧ x2.toInt ≤ (400 : Int)) → ((0 : Int) ≤ x4.toInt ∧ x4.toInt ≤ (300 : Int)) → (x2.toInt ≤ x4.toInt + 1) → (301 - x4.toInt) < (N23 : Int) → Ok (self23 x0 x2 x3 x4 S) (fun o => o.2 = S ∧ ((0 : Int) ≤ o.1.toInt ∧ o.1.toInt ≤ (400 : Int)))) {x0 : Nat} {x2 : Int32} {x3 : Int32} {x4 : Int32} (hT : ZT S) (r_x0 : zK S x0 = 1) (r_x2 : (0 : Int) ≤ x2.toInt ∧ x2.toInt ≤ (400 : Int)) (r_x4 : (0 : Int) ≤ x4.toInt ∧ x4.toInt ≤ (300 : Int)) (q0 : x2.toInt ≤ x4.toInt + 1) (m23 : (301 - x4.toInt) ≤ (N23 : Int)) : Ok (f_X1_deepOfNext_23s self23 x0 x2 x3 x4 S) (fun o => o.2 = S ∧ ((0 : Int) ≤ o.1.toInt ∧ o.1.toInt ≤ (400 : Int))) := by
  unfold f_X1_deepOfNext_23s
  refine ok_if (fun c156 => ?_) (fun c156 => ?_)
  ·
    replace c156 := ti_leP (a := (300 : Int32)) (b := x4) c156 (show (300 : Int32).toInt = 300 from rfl) rfl
    unfold f_X1_deepOfNext_66
    exact ok_ret ⟨rfl, (show (0 : Int) ≤ x2.toInt ∧ x2.toInt ≤ (400 : Int) from (by omega))⟩
  ·
    replace c156 := ti_leN (a := (300 : Int32)) (b := x4) c156 (show (300 : Int32).toInt = 300 from rfl) rfl
    refine ok_if (fun c157 => ?_) (fun c157 => ?_)
    ·
      replace c157 := ti_leP (a := x3) (b := (0 : Int32)) c157 rfl (show (0 : Int32).toInt = 0 from rfl)
      unfold f_X1_deepOfNext_66
      exact ok_ret ⟨rfl, (show (0 : Int) ≤ x2.toInt ∧ x2.toInt ≤ (400 : Int) from (by omega))⟩
    ·
      replace c157 := ti_leN (a := x3) (b := (0 : Int32)) c157 rfl (show (0 : Int32).toInt = 0 from rfl)
      refine ok_chk r_x0 ?_
      obtain ⟨r1, h_r1, p_r1⟩ := roz (t_f_X1_goesOn (x0 := x0) (x1 := x3) hT r_x0)
      dsimp only at p_r1
      refine ok_calR h_r1 ?_
      refine ok_if (fun c158 => ?_) (fun c158 => ?_)
      ·
        replace c158 := ti_eqP (a := r1) (b := (0 : Int32)) c158 rfl (show (0 : Int32).toInt = 0 from rfl)
        exact t_f_X1_deepOfNext_49 (S := S) hself23 (x0 := x0) (x3 := x3) (x4 := x4) (t0 := (1 : Int32)) (t1 := x2) hT r_x0 (by omega) (by decide) r_x2 q0 m23
      ·
        replace c158 := ti_eqN (a := r1) (b := (0 : Int32)) c158 rfl (show (0 : Int32).toInt = 0 from rfl)
        exact t_f_X1_deepOfNext_49 (S := S) hself23 (x0 := x0) (x3 := x3) (x4 := x4) (t0 := (0 : Int32)) (t1 := x2) hT r_x0 (by omega) (by decide) r_x2 q0 m23
theorem t_f_X1_deepOfNext_23 {S : ZS} (hT : ZT S) : ∀ (n : Nat) (x0 : Nat) (x2 : Int32) (x3 : Int32) (x4 : Int32),  (zK S x0 = 1) → ((0 : Int) ≤ x2.toInt ∧ x2.toInt ≤ (400 : Int)) → ((0 : Int) ≤ x4.toInt ∧ x4.toInt ≤ (300 : Int)) → (x2.toInt ≤ x4.toInt + 1) → (301 - x4.toInt) < (n : Int) → Ok (f_X1_deepOfNext_23  n x0 x2 x3 x4 S) (fun o => o.2 = S ∧ ((0 : Int) ≤ o.1.toInt ∧ o.1.toInt ≤ (400 : Int))) := by
  intro n
  induction n with
  | zero => intro x0 x2 x3 x4 g0 g1 g2 g3  hm; exfalso; omega
  | succ n ih =>
    intro x0 x2 x3 x4 g0 g1 g2 g3  hm
    exact t_f_X1_deepOfNext_23s (N23 := n)  ih hT g0 g1 g2 g3  (by omega)
theorem t_f_X1_deepOfNext_0 {S : ZS} {x0 : Nat} {x1 : Int32} (hT : ZT S) (r_x0 : zK S x0 = 1) : Ok (f_X1_deepOfNext_0 x0 x1 S) (fun o => o.2 = S ∧ ((0 : Int) ≤ o.1.toInt ∧ o.1.toInt ≤ (400 : Int))) := by
  unfold f_X1_deepOfNext_0
  refine ok_chk r_x0 ?_
  obtain ⟨r1, h_r1, p_r1⟩ := roz (t_f_X1_at (x0 := x0) (x1 := x1) hT r_x0)
  dsimp only at p_r1
  refine ok_calR h_r1 ?_
  refine ok_chk p_r1.1 ?_
  refine ok_if (fun c159 => ?_) (fun c159 => ?_)
  ·
    replace c159 := ti_eqP (a := (zI S 2 r1)) (b := (-1 : Int32)) c159 rfl (show (-1 : Int32).toInt = -1 from rfl)
    unfold f_X1_deepOfNext_17
    exact t_f_X1_deepOfNext_23  hT mFuel x0 (0 : Int32) x1 (0 : Int32)  r_x0 (by decide) (by decide) (by have z0 : (0 : Int32).toInt = 0 := rfl; have z1 : (0 : Int32).toInt = 0 := rfl; omega) (by show _ < ((200000 : Nat) : Int); have z0 : (0 : Int32).toInt = 0 := rfl; have z1 : (0 : Int32).toInt = 0 := rfl; omega)
  ·
    replace c159 := ti_eqN (a := (zI S 2 r1)) (b := (-1 : Int32)) c159 rfl (show (-1 : Int32).toInt = -1 from rfl)
    unfold f_X1_deepOfNext_17
    exact t_f_X1_deepOfNext_23  hT mFuel x0 (1 : Int32) x1 (0 : Int32)  r_x0 (by decide) (by decide) (by have z0 : (1 : Int32).toInt = 1 := rfl; have z1 : (0 : Int32).toInt = 0 := rfl; omega) (by show _ < ((200000 : Nat) : Int); have z0 : (1 : Int32).toInt = 1 := rfl; have z1 : (0 : Int32).toInt = 0 := rfl; omega)
theorem t_f_X1_deepOfNext {S : ZS} {x0 : Nat} {x1 : Int32} (hT : ZT S) (r_x0 : zK S x0 = 1) : Ok (f_X1_deepOfNext x0 x1 S) (fun o => o.2 = S ∧ ((0 : Int) ≤ o.1.toInt ∧ o.1.toInt ≤ (400 : Int))) := t_f_X1_deepOfNext_0 hT r_x0
theorem t_f_X1_mayLead_89 {SZ S : ZS} {self11 : Nat → Int32 → Nat → Int32 → ZS → Option (Int32 × ZS)} {N11 : Nat} (hself11 : ∀ (x0 : Nat) (x1 : Int32) (x2 : Nat) (x3 : Int32) (S : ZS), ZT S → A7 SZ S → (zK S x0 = 1) → (zK S x2 = 14) → (zN S x2 = 301) → ((1 : Int) ≤ x3.toInt ∧ x3.toInt ≤ (301 : Int)) → (302 - x3.toInt) < (N11 : Int) → Ok (self11 x0 x1 x2 x3 S) (fun o => ZT o.2 ∧ A7 SZ o.2 ∧ ((0 : Int) ≤ o.1.toInt ∧ o.1.toInt ≤ (1 : Int)))) {x0 : Nat} {x1 : Int32} {x2 : Nat} {x3 : Int32} {t0 : Int32} {t1 : Int32} {t2 : Int32} {t3 : Nat} (hT : ZT S) (hR : A7 SZ S) (r_x0 : zK S x0 = 1) (r_x2 : zK S x2 = 14) (n_x2 : zN S x2 = 301) (r_x3 : (1 : Int) ≤ x3.toInt ∧ x3.toInt ≤ (300 : Int)) (r_t0 : (0 : Int) ≤ t0.toInt ∧ t0.toInt ≤ (1 : Int)) (r_t2 : (0 : Int) ≤ t2.toInt ∧ t2.toInt ≤ (300 : Int)) (r_t3 : zK S t3 = 14) (n_t3 : zN S t3 = 301) (m11 : (302 - x3.toInt) ≤ (N11 : Int)) : Ok (f_X1_mayLead_89 self11 x0 x1 x2 x3 t0 t1 t2 t3 S) (fun o => ZT o.2 ∧ A7 SZ o.2 ∧ ((0 : Int) ≤ o.1.toInt ∧ o.1.toInt ≤ (1 : Int))) := by
  unfold f_X1_mayLead_89
  refine ok_bnd (fun v1 e160 => ?_)
  refine ok_chk r_t3 ?_
  refine ok_chk (ti_inN (v := t2) (n := 301) n_t3 (by omega) (by omega)) ?_
  refine ok_bnd (fun S2 e161 => ?_)
  have T_S2 : ZT S2 := e161.symm ▸ zt_A hT r_t3
  have kE_S2 : zK S2 = zK S := by rw [e161]; rfl
  have nE_S2 : zN S2 = zN S := by rw [e161]; rfl
  have R_S2 : A7 SZ S2 := a7_A hR e161 hT r_t3 n_t3 (by decide)
  refine ok_chk ((congrFun kE_S2 x2).trans r_x2) ?_
  refine ok_chk (ti_inN (v := x3) (n := 301) ((congrFun nE_S2 x2).trans n_x2) (by omega) (by omega)) ?_
  refine ok_bnd (fun v3 e162 => ?_)
  refine ok_if (fun c163 => ?_) (fun c163 => ?_)
  ·
    replace c163 := ti_leP (a := v3) (b := (6 : Int32)) c163 rfl (show (6 : Int32).toInt = 6 from rfl)
    refine ok_bnd (fun v4 e164 => ?_)
    have t_v4 : v4.toInt = x3.toInt + 1 := ti_add e164 rfl (show (1 : Int32).toInt = 1 from rfl) (by omega) (by omega)
    exact hself11 x0 x1 x2 v4 S2 T_S2 R_S2 ((congrFun kE_S2 x0).trans r_x0) ((congrFun kE_S2 x2).trans r_x2) ((congrFun nE_S2 x2).trans n_x2) (by omega) (by omega)
  ·
    replace c163 := ti_leN (a := v3) (b := (6 : Int32)) c163 rfl (show (6 : Int32).toInt = 6 from rfl)
    refine ok_chk (by decide) ?_
    exact ok_ret ⟨T_S2, R_S2, (show (0 : Int) ≤ (0 : Int32).toInt ∧ (0 : Int32).toInt ≤ (1 : Int) from (by decide))⟩
theorem t_f_X1_mayLead_55 {SZ S : ZS} {self11 : Nat → Int32 → Nat → Int32 → ZS → Option (Int32 × ZS)} {N11 : Nat} (hself11 : ∀ (x0 : Nat) (x1 : Int32) (x2 : Nat) (x3 : Int32) (S : ZS), ZT S → A7 SZ S → (zK S x0 = 1) → (zK S x2 = 14) → (zN S x2 = 301) → ((1 : Int) ≤ x3.toInt ∧ x3.toInt ≤ (301 : Int)) → (302 - x3.toInt) < (N11 : Int) → Ok (self11 x0 x1 x2 x3 S) (fun o => ZT o.2 ∧ A7 SZ o.2 ∧ ((0 : Int) ≤ o.1.toInt ∧ o.1.toInt ≤ (1 : Int)))) {x0 : Nat} {x1 : Int32} {x2 : Nat} {x3 : Int32} {x4 : Int32} {t0 : Int32} (hT : ZT S) (hR : A7 SZ S) (r_x0 : zK S x0 = 1) (r_x2 : zK S x2 = 14) (n_x2 : zN S x2 = 301) (r_x3 : (1 : Int) ≤ x3.toInt ∧ x3.toInt ≤ (300 : Int)) (m11 : (302 - x3.toInt) ≤ (N11 : Int)) : Ok (f_X1_mayLead_55 self11 x0 x1 x2 x3 x4 t0 S) (fun o => ZT o.2 ∧ A7 SZ o.2 ∧ ((0 : Int) ≤ o.1.toInt ∧ o.1.toInt ≤ (1 : Int))) := by
  unfold f_X1_mayLead_55
  refine ok_if (fun c165 => ?_) (fun c165 => ?_)
  ·
    replace c165 := ti_ltP (a := x4) (b := (0 : Int32)) c165 rfl (show (0 : Int32).toInt = 0 from rfl)
    unfold f_X1_mayLead_77
    unfold f_X1_mayLead_78
    refine ok_if (fun c166 => ?_) (fun c166 => ?_)
    ·
      replace c166 := ti_eqP (a := x3) (b := t0) c166 rfl rfl
      exact t_f_X1_mayLead_89 (S := S) hself11 (x0 := x0) (x1 := x1) (x2 := x2) (x3 := x3) (t0 := (0 : Int32)) (t1 := (0 : Int32)) (t2 := x3) (t3 := x2) hT hR r_x0 r_x2 n_x2 r_x3 (by decide) (by omega) r_x2 n_x2 m11
    ·
      replace c166 := ti_eqN (a := x3) (b := t0) c166 rfl rfl
      exact t_f_X1_mayLead_89 (S := S) hself11 (x0 := x0) (x1 := x1) (x2 := x2) (x3 := x3) (t0 := (1 : Int32)) (t1 := (0 : Int32)) (t2 := x3) (t3 := x2) hT hR r_x0 r_x2 n_x2 r_x3 (by decide) (by omega) r_x2 n_x2 m11
  ·
    replace c165 := ti_ltN (a := x4) (b := (0 : Int32)) c165 rfl (show (0 : Int32).toInt = 0 from rfl)
    refine ok_if (fun c167 => ?_) (fun c167 => ?_)
    ·
      replace c167 := ti_leP (a := x3) (b := x4) c167 rfl rfl
      unfold f_X1_mayLead_77
      unfold f_X1_mayLead_78
      refine ok_if (fun c168 => ?_) (fun c168 => ?_)
      ·
        replace c168 := ti_eqP (a := x3) (b := t0) c168 rfl rfl
        exact t_f_X1_mayLead_89 (S := S) hself11 (x0 := x0) (x1 := x1) (x2 := x2) (x3 := x3) (t0 := (0 : Int32)) (t1 := (0 : Int32)) (t2 := x3) (t3 := x2) hT hR r_x0 r_x2 n_x2 r_x3 (by decide) (by omega) r_x2 n_x2 m11
      ·
        replace c168 := ti_eqN (a := x3) (b := t0) c168 rfl rfl
        exact t_f_X1_mayLead_89 (S := S) hself11 (x0 := x0) (x1 := x1) (x2 := x2) (x3 := x3) (t0 := (1 : Int32)) (t1 := (0 : Int32)) (t2 := x3) (t3 := x2) hT hR r_x0 r_x2 n_x2 r_x3 (by decide) (by omega) r_x2 n_x2 m11
    ·
      replace c167 := ti_leN (a := x3) (b := x4) c167 rfl rfl
      refine ok_chk r_x2 ?_
      refine ok_chk (ti_inN (v := x4) (n := 301) n_x2 (by omega) (by omega)) ?_
      refine ok_bnd (fun v1 e169 => ?_)
      unfold f_X1_mayLead_78
      refine ok_if (fun c170 => ?_) (fun c170 => ?_)
      ·
        replace c170 := ti_eqP (a := x3) (b := t0) c170 rfl rfl
        exact t_f_X1_mayLead_89 (S := S) hself11 (x0 := x0) (x1 := x1) (x2 := x2) (x3 := x3) (t0 := (0 : Int32)) (t1 := v1) (t2 := x3) (t3 := x2) hT hR r_x0 r_x2 n_x2 r_x3 (by decide) (by omega) r_x2 n_x2 m11
      ·
        replace c170 := ti_eqN (a := x3) (b := t0) c170 rfl rfl
        exact t_f_X1_mayLead_89 (S := S) hself11 (x0 := x0) (x1 := x1) (x2 := x2) (x3 := x3) (t0 := (1 : Int32)) (t1 := v1) (t2 := x3) (t3 := x2) hT hR r_x0 r_x2 n_x2 r_x3 (by decide) (by omega) r_x2 n_x2 m11
theorem t_f_X1_mayLead_11s {SZ S : ZS} {self11 : Nat → Int32 → Nat → Int32 → ZS → Option (Int32 × ZS)} {N11 : Nat} (hself11 : ∀ (x0 : Nat) (x1 : Int32) (x2 : Nat) (x3 : Int32) (S : ZS), ZT S → A7 SZ S → (zK S x0 = 1) → (zK S x2 = 14) → (zN S x2 = 301) → ((1 : Int) ≤ x3.toInt ∧ x3.toInt ≤ (301 : Int)) → (302 - x3.toInt) < (N11 : Int) → Ok (self11 x0 x1 x2 x3 S) (fun o => ZT o.2 ∧ A7 SZ o.2 ∧ ((0 : Int) ≤ o.1.toInt ∧ o.1.toInt ≤ (1 : Int)))) {x0 : Nat} {x1 : Int32} {x2 : Nat} {x3 : Int32} (hT : ZT S) (hR : A7 SZ S) (r_x0 : zK S x0 = 1) (r_x2 : zK S x2 = 14) (n_x2 : zN S x2 = 301) (r_x3 : (1 : Int) ≤ x3.toInt ∧ x3.toInt ≤ (301 : Int)) (m11 : (302 - x3.toInt) ≤ (N11 : Int)) : Ok (f_X1_mayLead_11s self11 x0 x1 x2 x3 S) (fun o => ZT o.2 ∧ A7 SZ o.2 ∧ ((0 : Int) ≤ o.1.toInt ∧ o.1.toInt ≤ (1 : Int))) := by
  unfold f_X1_mayLead_11s
  refine ok_chk r_x0 ?_
  have j171 := J_1_3 hT r_x0
  refine ok_if (fun c172 => ?_) (fun c172 => ?_)
  ·
    replace c172 := ti_ltP (a := (zI S 3 x0)) (b := x3) c172 rfl rfl
    refine ok_chk (by decide) ?_
    exact ok_ret ⟨hT, hR, (show (0 : Int) ≤ (1 : Int32).toInt ∧ (1 : Int32).toInt ≤ (1 : Int) from (by decide))⟩
  ·
    replace c172 := ti_ltN (a := (zI S 3 x0)) (b := x3) c172 rfl rfl
    refine ok_chk r_x0 ?_
    obtain ⟨r1, h_r1, p_r1⟩ := roz (t_f_X1_at (x0 := x0) (x1 := x3) hT r_x0)
    dsimp only at p_r1
    refine ok_calR h_r1 ?_
    refine ok_chk p_r1.1 ?_
    refine ok_chk r_x0 ?_
    obtain ⟨r2, h_r2, p_r2⟩ := roz (t_f_X1_at (x0 := x0) (x1 := x1) hT r_x0)
    dsimp only at p_r2
    refine ok_calR h_r2 ?_
    refine ok_chk p_r2.1 ?_
    refine ok_if (fun c173 => ?_) (fun c173 => ?_)
    ·
      replace c173 := ti_eqP (a := (zI S 0 r1)) (b := (zI S 0 r2)) c173 rfl rfl
      exact t_f_X1_mayLead_55 (S := S) hself11 (x0 := x0) (x1 := x1) (x2 := x2) (x3 := x3) (x4 := (zI S 0 r1)) (t0 := x1) hT hR r_x0 r_x2 n_x2 (by omega) m11
    ·
      replace c173 := ti_eqN (a := (zI S 0 r1)) (b := (zI S 0 r2)) c173 rfl rfl
      refine ok_chk r_x0 ?_
      obtain ⟨r3, h_r3, p_r3⟩ := roz (t_f_X1_at (x0 := x0) (x1 := (zI S 0 r1)) hT r_x0)
      dsimp only at p_r3
      refine ok_calR h_r3 ?_
      refine ok_chk p_r3.1 ?_
      exact t_f_X1_mayLead_55 (S := S) hself11 (x0 := x0) (x1 := x1) (x2 := x2) (x3 := x3) (x4 := (zI S 0 r1)) (t0 := (zI S 2 r3)) hT hR r_x0 r_x2 n_x2 (by omega) m11
theorem t_f_X1_mayLead_11 {SZ : ZS} : ∀ (n : Nat) (x0 : Nat) (x1 : Int32) (x2 : Nat) (x3 : Int32) (S : ZS), ZT S → A7 SZ S → (zK S x0 = 1) → (zK S x2 = 14) → (zN S x2 = 301) → ((1 : Int) ≤ x3.toInt ∧ x3.toInt ≤ (301 : Int)) → (302 - x3.toInt) < (n : Int) → Ok (f_X1_mayLead_11  n x0 x1 x2 x3 S) (fun o => ZT o.2 ∧ A7 SZ o.2 ∧ ((0 : Int) ≤ o.1.toInt ∧ o.1.toInt ≤ (1 : Int))) := by
  intro n
  induction n with
  | zero => intro x0 x1 x2 x3 S hT hR g0 g1 g2 g3  hm; exfalso; omega
  | succ n ih =>
    intro x0 x1 x2 x3 S hT hR g0 g1 g2 g3  hm
    exact t_f_X1_mayLead_11s (N11 := n)  ih hT hR g0 g1 g2 g3  (by omega)
theorem t_f_X1_mayLead_0 {SZ S : ZS} {x0 : Nat} {x1 : Int32} (hT : ZT S) (hR : A7 SZ S) (r_x0 : zK S x0 = 1) : Ok (f_X1_mayLead_0 x0 x1 S) (fun o => ZT o.2 ∧ A7 SZ o.2 ∧ ((0 : Int) ≤ o.1.toInt ∧ o.1.toInt ≤ (1 : Int))) := by
  unfold f_X1_mayLead_0
  refine ok_chk r_x0 ?_
  obtain ⟨b1, p_b1, k_b1, n_b1⟩ := T_1_7 hT r_x0
  refine ok_calR p_b1 ?_
  refine ok_chk k_b1 ?_
  refine ok_chk (ti_inN (n := 301) n_b1 (by decide) (by decide)) ?_
  refine ok_bnd (fun S2 e174 => ?_)
  have T_S2 : ZT S2 := e174.symm ▸ zt_A hT k_b1
  have kE_S2 : zK S2 = zK S := by rw [e174]; rfl
  have nE_S2 : zN S2 = zN S := by rw [e174]; rfl
  have R_S2 : A7 SZ S2 := a7_A hR e174 hT k_b1 n_b1 (by decide)
  exact t_f_X1_mayLead_11   mFuel x0 x1 b1 (1 : Int32) S2 T_S2 R_S2 ((congrFun kE_S2 x0).trans r_x0) ((congrFun kE_S2 b1).trans k_b1) ((congrFun nE_S2 b1).trans n_b1) (by decide) (by show _ < ((200000 : Nat) : Int); have z0 : (1 : Int32).toInt = 1 := rfl; omega)
theorem t_f_X1_mayLead {SZ S : ZS} {x0 : Nat} {x1 : Int32} (hT : ZT S) (hR : A7 SZ S) (r_x0 : zK S x0 = 1) : Ok (f_X1_mayLead x0 x1 S) (fun o => ZT o.2 ∧ A7 SZ o.2 ∧ ((0 : Int) ≤ o.1.toInt ∧ o.1.toInt ≤ (1 : Int))) := t_f_X1_mayLead_0 hT hR r_x0
theorem t_f_X1_putFirst_56 {SZ S : ZS} {x0 : Nat} {x1 : Int32} {x2 : Nat} {x3 : Int32} (hT : ZT S) (hR : A7 SZ S) (r_x0 : zK S x0 = 1) (r_x2 : zK S x2 = 4) : Ok (f_X1_putFirst_56 x0 x1 x2 x3 S) (fun o => ZT o.2 ∧ A7 SZ o.2 ∧ True) := by
  unfold f_X1_putFirst_56
  refine ok_chk r_x0 ?_
  obtain ⟨r1, h_r1, p_r1⟩ := roz (t_f_X1_at (x0 := x0) (x1 := x3) hT r_x0)
  dsimp only at p_r1
  refine ok_calR h_r1 ?_
  refine ok_chk r_x0 ?_
  obtain ⟨r2, h_r2, p_r2⟩ := roz (t_f_X1_at (x0 := x0) (x1 := x1) hT r_x0)
  dsimp only at p_r2
  refine ok_calR h_r2 ?_
  refine ok_chk p_r2.1 ?_
  refine ok_chk p_r1.1 ?_
  refine ok_bnd (fun S3 e175 => ?_)
  have T_S3 : ZT S3 := e175.symm ▸ zt_W hT p_r1.1 (by decide) rfl
  have kE_S3 : zK S3 = zK S := by rw [e175]; rfl
  have nE_S3 : zN S3 = zN S := by rw [e175]; rfl
  have R_S3 : A7 SZ S3 := a7_I hR e175 p_r1.1 (by decide)
  refine ok_chk ((congrFun kE_S3 x0).trans r_x0) ?_
  obtain ⟨r4, h_r4, p_r4⟩ := roz (t_f_X1_at (x0 := x0) (x1 := x1) T_S3 ((congrFun kE_S3 x0).trans r_x0))
  dsimp only at p_r4
  refine ok_calR h_r4 ?_
  refine ok_chk ((congrFun kE_S3 x2).trans r_x2) ?_
  refine ok_chk p_r4.1 ?_
  refine ok_bnd (fun S5 e176 => ?_)
  have T_S5 : ZT S5 := e176.symm ▸ zt_W T_S3 p_r4.1 (by decide) rfl
  have kE_S5 : zK S5 = zK S3 := by rw [e176]; rfl
  have nE_S5 : zN S5 = zN S3 := by rw [e176]; rfl
  have R_S5 : A7 SZ S5 := a7_I R_S3 e176 p_r4.1 (by decide)
  refine ok_chk ((congrFun kE_S5 x2).trans ((congrFun kE_S3 x2).trans r_x2)) ?_
  refine ok_bnd (fun S6 e177 => ?_)
  have T_S6 : ZT S6 := e177.symm ▸ zt_W T_S5 ((congrFun kE_S5 x2).trans ((congrFun kE_S3 x2).trans r_x2)) (by decide) rfl
  have kE_S6 : zK S6 = zK S5 := by rw [e177]; rfl
  have nE_S6 : zN S6 = zN S5 := by rw [e177]; rfl
  have R_S6 : A7 SZ S6 := a7_I R_S5 e177 ((congrFun kE_S5 x2).trans ((congrFun kE_S3 x2).trans r_x2)) (by decide)
  exact ok_ret ⟨T_S6, R_S6, trivial⟩
theorem t_f_X1_putFirst_21s {SZ S : ZS} {self21 : Nat → Int32 → Nat → Int32 → Int32 → ZS → Option (Int32 × ZS)} {N21 : Nat} (hself21 : ∀ (x0 : Nat) (x1 : Int32) (x2 : Nat) (x3 : Int32) (x4 : Int32) (S : ZS), ZT S → A7 SZ S → (zK S x0 = 1) → (zK S x2 = 4) → ((0 : Int) ≤ x4.toInt ∧ x4.toInt ≤ (300 : Int)) → (301 - x4.toInt) < (N21 : Int) → Ok (self21 x0 x1 x2 x3 x4 S) (fun o => ZT o.2 ∧ A7 SZ o.2 ∧ True)) {x0 : Nat} {x1 : Int32} {x2 : Nat} {x3 : Int32} {x4 : Int32} (hT : ZT S) (hR : A7 SZ S) (r_x0 : zK S x0 = 1) (r_x2 : zK S x2 = 4) (r_x4 : (0 : Int) ≤ x4.toInt ∧ x4.toInt ≤ (300 : Int)) (m21 : (301 - x4.toInt) ≤ (N21 : Int)) : Ok (f_X1_putFirst_21s self21 x0 x1 x2 x3 x4 S) (fun o => ZT o.2 ∧ A7 SZ o.2 ∧ True) := by
  unfold f_X1_putFirst_21s
  refine ok_if (fun c178 => ?_) (fun c178 => ?_)
  ·
    replace c178 := ti_leP (a := (300 : Int32)) (b := x4) c178 (show (300 : Int32).toInt = 300 from rfl) rfl
    exact t_f_X1_putFirst_56 (S := S)  (x0 := x0) (x1 := x1) (x2 := x2) (x3 := x3) hT hR r_x0 r_x2
  ·
    replace c178 := ti_leN (a := (300 : Int32)) (b := x4) c178 (show (300 : Int32).toInt = 300 from rfl) rfl
    refine ok_chk r_x0 ?_
    obtain ⟨r1, h_r1, p_r1⟩ := roz (t_f_X1_at (x0 := x0) (x1 := x3) hT r_x0)
    dsimp only at p_r1
    refine ok_calR h_r1 ?_
    refine ok_chk p_r1.1 ?_
    refine ok_if (fun c179 => ?_) (fun c179 => ?_)
    ·
      replace c179 := ti_eqP (a := (zI S 3 r1)) (b := x1) c179 rfl rfl
      exact t_f_X1_putFirst_56 (S := S)  (x0 := x0) (x1 := x1) (x2 := x2) (x3 := x3) hT hR r_x0 r_x2
    ·
      replace c179 := ti_eqN (a := (zI S 3 r1)) (b := x1) c179 rfl rfl
      refine ok_chk r_x0 ?_
      obtain ⟨r2, h_r2, p_r2⟩ := roz (t_f_X1_at (x0 := x0) (x1 := x3) hT r_x0)
      dsimp only at p_r2
      refine ok_calR h_r2 ?_
      refine ok_chk p_r2.1 ?_
      refine ok_bnd (fun v3 e180 => ?_)
      have t_v3 : v3.toInt = x4.toInt + 1 := ti_add e180 rfl (show (1 : Int32).toInt = 1 from rfl) (by omega) (by omega)
      exact hself21 x0 x1 x2 (zI S 3 r2) v3 S hT hR r_x0 r_x2 (by omega) (by omega)
theorem t_f_X1_putFirst_21 {SZ : ZS} : ∀ (n : Nat) (x0 : Nat) (x1 : Int32) (x2 : Nat) (x3 : Int32) (x4 : Int32) (S : ZS), ZT S → A7 SZ S → (zK S x0 = 1) → (zK S x2 = 4) → ((0 : Int) ≤ x4.toInt ∧ x4.toInt ≤ (300 : Int)) → (301 - x4.toInt) < (n : Int) → Ok (f_X1_putFirst_21  n x0 x1 x2 x3 x4 S) (fun o => ZT o.2 ∧ A7 SZ o.2 ∧ True) := by
  intro n
  induction n with
  | zero => intro x0 x1 x2 x3 x4 S hT hR g0 g1 g2  hm; exfalso; omega
  | succ n ih =>
    intro x0 x1 x2 x3 x4 S hT hR g0 g1 g2  hm
    exact t_f_X1_putFirst_21s (N21 := n)  ih hT hR g0 g1 g2  (by omega)
theorem t_f_X1_putFirst_0 {SZ S : ZS} {x0 : Nat} {x1 : Int32} (hT : ZT S) (hR : A7 SZ S) (r_x0 : zK S x0 = 1) : Ok (f_X1_putFirst_0 x0 x1 S) (fun o => ZT o.2 ∧ A7 SZ o.2 ∧ True) := by
  unfold f_X1_putFirst_0
  refine ok_chk r_x0 ?_
  obtain ⟨r1, h_r1, p_r1⟩ := roz (t_f_X1_at (x0 := x0) (x1 := x1) hT r_x0)
  dsimp only at p_r1
  refine ok_calR h_r1 ?_
  refine ok_chk p_r1.1 ?_
  refine ok_chk r_x0 ?_
  obtain ⟨r2, h_r2, p_r2⟩ := roz (t_f_X1_at (x0 := x0) (x1 := (zI S 0 r1)) hT r_x0)
  dsimp only at p_r2
  refine ok_calR h_r2 ?_
  refine ok_chk p_r2.1 ?_
  exact t_f_X1_putFirst_21   mFuel x0 x1 r2 (zI S 2 r2) (0 : Int32) S hT hR r_x0 p_r2.1 (by decide) (by show _ < ((200000 : Nat) : Int); have z0 : (0 : Int32).toInt = 0 := rfl; omega)
theorem t_f_X1_putFirst {SZ S : ZS} {x0 : Nat} {x1 : Int32} (hT : ZT S) (hR : A7 SZ S) (r_x0 : zK S x0 = 1) : Ok (f_X1_putFirst x0 x1 S) (fun o => ZT o.2 ∧ A7 SZ o.2 ∧ True) := t_f_X1_putFirst_0 hT hR r_x0
theorem t_f_X1_standAt_68s {SZ S : ZS} {self68 : Nat → Nat → Int32 → ZS → Option (Int32 × ZS)} {N68 : Nat} (hself68 : ∀ (x2 : Nat) (x3 : Nat) (x5 : Int32) (S : ZS), ZT S → A7 SZ S → (zK S x2 = 0) → (zK S x3 = 14) → (zN S x3 = 301) → ((-1 : Int) ≤ x5.toInt ∧ x5.toInt ≤ (299 : Int)) → (x5.toInt + 2) < (N68 : Int) → Ok (self68 x2 x3 x5 S) (fun o => ZT o.2 ∧ A7 SZ o.2 ∧ True)) {x2 : Nat} {x3 : Nat} {x5 : Int32} (hT : ZT S) (hR : A7 SZ S) (r_x2 : zK S x2 = 0) (r_x3 : zK S x3 = 14) (n_x3 : zN S x3 = 301) (r_x5 : (-1 : Int) ≤ x5.toInt ∧ x5.toInt ≤ (299 : Int)) (m68 : (x5.toInt + 2) ≤ (N68 : Int)) : Ok (f_X1_standAt_68s self68 x2 x3 x5 S) (fun o => ZT o.2 ∧ A7 SZ o.2 ∧ True) := by
  unfold f_X1_standAt_68s
  refine ok_if (fun c181 => ?_) (fun c181 => ?_)
  ·
    replace c181 := ti_ltP (a := x5) (b := (0 : Int32)) c181 rfl (show (0 : Int32).toInt = 0 from rfl)
    exact ok_ret ⟨hT, hR, trivial⟩
  ·
    replace c181 := ti_ltN (a := x5) (b := (0 : Int32)) c181 rfl (show (0 : Int32).toInt = 0 from rfl)
    refine ok_chk r_x3 ?_
    refine ok_chk (ti_inN (v := x5) (n := 301) n_x3 (by omega) (by omega)) ?_
    refine ok_bnd (fun v1 e182 => ?_)
    refine ok_chk r_x2 ?_
    obtain ⟨⟨r2, S2⟩, h_r2, T_S2, A_S2, -⟩ := t_f_X0_play (x0 := x2) (x1 := v1) (SZ := S) hT (a7_0 S) r_x2
    replace T_S2 : ZT S2 := T_S2
    replace A_S2 : A7 S S2 := A_S2
    refine ok_calR h_r2 ?_
    have q_S2 := fq_X0_play h_r2
    have kE_S2 : zK S2 = zK S := q_S2.2.2.1
    have nE_S2 : zN S2 = zN S := q_S2.2.2.2.1
    have R_S2 : A7 SZ S2 := a7_t hR A_S2
    refine ok_bnd (fun v3 e183 => ?_)
    have t_v3 : v3.toInt = x5.toInt + (-1) := ti_add e183 rfl (show (-1 : Int32).toInt = -1 from rfl) (by omega) (by omega)
    exact hself68 x2 x3 v3 S2 T_S2 R_S2 ((congrFun kE_S2 x2).trans r_x2) ((congrFun kE_S2 x3).trans r_x3) ((congrFun nE_S2 x3).trans n_x3) (by omega) (by omega)
theorem t_f_X1_standAt_68 {SZ : ZS} : ∀ (n : Nat) (x2 : Nat) (x3 : Nat) (x5 : Int32) (S : ZS), ZT S → A7 SZ S → (zK S x2 = 0) → (zK S x3 = 14) → (zN S x3 = 301) → ((-1 : Int) ≤ x5.toInt ∧ x5.toInt ≤ (299 : Int)) → (x5.toInt + 2) < (n : Int) → Ok (f_X1_standAt_68  n x2 x3 x5 S) (fun o => ZT o.2 ∧ A7 SZ o.2 ∧ True) := by
  intro n
  induction n with
  | zero => intro x2 x3 x5 S hT hR g0 g1 g2 g3  hm; exfalso; omega
  | succ n ih =>
    intro x2 x3 x5 S hT hR g0 g1 g2 g3  hm
    exact t_f_X1_standAt_68s (N68 := n)  ih hT hR g0 g1 g2 g3  (by omega)
theorem t_f_X1_standAt_54 {SZ S : ZS} {x0 : Nat} {x2 : Nat} {x3 : Nat} {x4 : Int32} (hT : ZT S) (hR : A7 SZ S) (r_x0 : zK S x0 = 1) (r_x2 : zK S x2 = 0) (r_x3 : zK S x3 = 14) (n_x3 : zN S x3 = 301) (r_x4 : (0 : Int) ≤ x4.toInt ∧ x4.toInt ≤ (300 : Int)) : Ok (f_X1_standAt_54 x0 x2 x3 x4 S) (fun o => ZT o.2 ∧ A7 SZ o.2 ∧ True) := by
  unfold f_X1_standAt_54
  refine ok_chk r_x0 ?_
  obtain ⟨b1, p_b1, k_b1⟩ := T_1_0 hT r_x0
  refine ok_calR p_b1 ?_
  refine ok_chk r_x2 ?_
  obtain ⟨⟨r2, S2⟩, h_r2, T_S2, A_S2, -⟩ := t_f_X0_copyFrom (x0 := x2) (x1 := b1) (SZ := S) hT (a7_0 S) r_x2 k_b1
  replace T_S2 : ZT S2 := T_S2
  replace A_S2 : A7 S S2 := A_S2
  refine ok_calR h_r2 ?_
  have q_S2 := fq_X0_copyFrom h_r2
  have kE_S2 : zK S2 = zK S := q_S2.2.2.1
  have nE_S2 : zN S2 = zN S := q_S2.2.2.2.1
  have R_S2 : A7 SZ S2 := a7_t hR A_S2
  refine ok_bnd (fun v3 e184 => ?_)
  have t_v3 : v3.toInt = x4.toInt - 1 := ti_sub e184 rfl (show (1 : Int32).toInt = 1 from rfl) (by omega) (by omega)
  exact t_f_X1_standAt_68   mFuel x2 x3 v3 S2 T_S2 R_S2 ((congrFun kE_S2 x2).trans r_x2) ((congrFun kE_S2 x3).trans r_x3) ((congrFun nE_S2 x3).trans n_x3) (by omega) (by show _ < ((200000 : Nat) : Int); omega)
theorem t_f_X1_standAt_11s {SZ S : ZS} {self11 : Nat → Nat → Nat → Int32 → Int32 → ZS → Option (Int32 × ZS)} {N11 : Nat} (hself11 : ∀ (x0 : Nat) (x2 : Nat) (x3 : Nat) (x4 : Int32) (x5 : Int32) (S : ZS), ZT S → A7 SZ S → (zK S x0 = 1) → (zK S x2 = 0) → (zK S x3 = 14) → (zN S x3 = 301) → ((0 : Int) ≤ x4.toInt ∧ x4.toInt ≤ (300 : Int)) → (301 - x4.toInt) < (N11 : Int) → Ok (self11 x0 x2 x3 x4 x5 S) (fun o => ZT o.2 ∧ A7 SZ o.2 ∧ True)) {x0 : Nat} {x2 : Nat} {x3 : Nat} {x4 : Int32} {x5 : Int32} (hT : ZT S) (hR : A7 SZ S) (r_x0 : zK S x0 = 1) (r_x2 : zK S x2 = 0) (r_x3 : zK S x3 = 14) (n_x3 : zN S x3 = 301) (r_x4 : (0 : Int) ≤ x4.toInt ∧ x4.toInt ≤ (300 : Int)) (m11 : (301 - x4.toInt) ≤ (N11 : Int)) : Ok (f_X1_standAt_11s self11 x0 x2 x3 x4 x5 S) (fun o => ZT o.2 ∧ A7 SZ o.2 ∧ True) := by
  unfold f_X1_standAt_11s
  refine ok_if (fun c185 => ?_) (fun c185 => ?_)
  ·
    replace c185 := ti_leP (a := x5) (b := (0 : Int32)) c185 rfl (show (0 : Int32).toInt = 0 from rfl)
    exact t_f_X1_standAt_54 (S := S)  (x0 := x0) (x2 := x2) (x3 := x3) (x4 := x4) hT hR r_x0 r_x2 r_x3 n_x3 r_x4
  ·
    replace c185 := ti_leN (a := x5) (b := (0 : Int32)) c185 rfl (show (0 : Int32).toInt = 0 from rfl)
    refine ok_if (fun c186 => ?_) (fun c186 => ?_)
    ·
      replace c186 := ti_leP (a := (300 : Int32)) (b := x4) c186 (show (300 : Int32).toInt = 300 from rfl) rfl
      exact t_f_X1_standAt_54 (S := S)  (x0 := x0) (x2 := x2) (x3 := x3) (x4 := x4) hT hR r_x0 r_x2 r_x3 n_x3 r_x4
    ·
      replace c186 := ti_leN (a := (300 : Int32)) (b := x4) c186 (show (300 : Int32).toInt = 300 from rfl) rfl
      refine ok_chk r_x0 ?_
      obtain ⟨r1, h_r1, p_r1⟩ := roz (t_f_X1_at (x0 := x0) (x1 := x5) hT r_x0)
      dsimp only at p_r1
      refine ok_calR h_r1 ?_
      refine ok_chk p_r1.1 ?_
      refine ok_chk r_x3 ?_
      refine ok_chk (ti_inN (v := x4) (n := 301) n_x3 (by omega) (by omega)) ?_
      refine ok_bnd (fun S2 e187 => ?_)
      have T_S2 : ZT S2 := e187.symm ▸ zt_A hT r_x3
      have kE_S2 : zK S2 = zK S := by rw [e187]; rfl
      have nE_S2 : zN S2 = zN S := by rw [e187]; rfl
      have R_S2 : A7 SZ S2 := a7_A hR e187 hT r_x3 n_x3 (by decide)
      refine ok_bnd (fun v3 e188 => ?_)
      have t_v3 : v3.toInt = x4.toInt + 1 := ti_add e188 rfl (show (1 : Int32).toInt = 1 from rfl) (by omega) (by omega)
      refine ok_chk ((congrFun kE_S2 x0).trans r_x0) ?_
      obtain ⟨r4, h_r4, p_r4⟩ := roz (t_f_X1_at (x0 := x0) (x1 := x5) T_S2 ((congrFun kE_S2 x0).trans r_x0))
      dsimp only at p_r4
      refine ok_calR h_r4 ?_
      refine ok_chk p_r4.1 ?_
      exact hself11 x0 x2 x3 v3 (zI S2 0 r4) S2 T_S2 R_S2 ((congrFun kE_S2 x0).trans r_x0) ((congrFun kE_S2 x2).trans r_x2) ((congrFun kE_S2 x3).trans r_x3) ((congrFun nE_S2 x3).trans n_x3) (by omega) (by omega)
theorem t_f_X1_standAt_11 {SZ : ZS} : ∀ (n : Nat) (x0 : Nat) (x2 : Nat) (x3 : Nat) (x4 : Int32) (x5 : Int32) (S : ZS), ZT S → A7 SZ S → (zK S x0 = 1) → (zK S x2 = 0) → (zK S x3 = 14) → (zN S x3 = 301) → ((0 : Int) ≤ x4.toInt ∧ x4.toInt ≤ (300 : Int)) → (301 - x4.toInt) < (n : Int) → Ok (f_X1_standAt_11  n x0 x2 x3 x4 x5 S) (fun o => ZT o.2 ∧ A7 SZ o.2 ∧ True) := by
  intro n
  induction n with
  | zero => intro x0 x2 x3 x4 x5 S hT hR g0 g1 g2 g3 g4  hm; exfalso; omega
  | succ n ih =>
    intro x0 x2 x3 x4 x5 S hT hR g0 g1 g2 g3 g4  hm
    exact t_f_X1_standAt_11s (N11 := n)  ih hT hR g0 g1 g2 g3 g4  (by omega)
theorem t_f_X1_standAt_0 {SZ S : ZS} {x0 : Nat} {x1 : Int32} {x2 : Nat} (hT : ZT S) (hR : A7 SZ S) (r_x0 : zK S x0 = 1) (r_x2 : zK S x2 = 0) : Ok (f_X1_standAt_0 x0 x1 x2 S) (fun o => ZT o.2 ∧ A7 SZ o.2 ∧ True) := by
  unfold f_X1_standAt_0
  refine ok_chk r_x0 ?_
  obtain ⟨b1, p_b1, k_b1, n_b1⟩ := T_1_7 hT r_x0
  refine ok_calR p_b1 ?_
  exact t_f_X1_standAt_11   mFuel x0 x2 b1 (0 : Int32) x1 S hT hR r_x0 r_x2 k_b1 n_b1 (by decide) (by show _ < ((200000 : Nat) : Int); have z0 : (0 : Int32).toInt = 0 := rfl; omega)
theorem t_f_X1_standAt {SZ S : ZS} {x0 : Nat} {x1 : Int32} {x2 : Nat} (hT : ZT S) (hR : A7 SZ S) (r_x0 : zK S x0 = 1) (r_x2 : zK S x2 = 0) : Ok (f_X1_standAt x0 x1 x2 S) (fun o => ZT o.2 ∧ A7 SZ o.2 ∧ True) := t_f_X1_standAt_0 hT hR r_x0 r_x2
theorem t_f_X4_become_0 {SZ S : ZS} {x0 : Nat} {x1 : Int32} {x2 : Int32} (hT : ZT S) (hR : A7 SZ S) (r_x0 : zK S x0 = 4) : Ok (f_X4_become_0 x0 x1 x2 S) (fun o => ZT o.2 ∧ A7 SZ o.2 ∧ True) := by
  unfold f_X4_become_0
  refine ok_chk r_x0 ?_
  refine ok_bnd (fun S1 e189 => ?_)
  have T_S1 : ZT S1 := e189.symm ▸ zt_W hT r_x0 (by decide) rfl
  have kE_S1 : zK S1 = zK S := by rw [e189]; rfl
  have nE_S1 : zN S1 = zN S := by rw [e189]; rfl
  have R_S1 : A7 SZ S1 := a7_I hR e189 r_x0 (by decide)
  refine ok_chk ((congrFun kE_S1 x0).trans r_x0) ?_
  refine ok_bnd (fun S2 e190 => ?_)
  have T_S2 : ZT S2 := e190.symm ▸ zt_W T_S1 ((congrFun kE_S1 x0).trans r_x0) (by decide) rfl
  have kE_S2 : zK S2 = zK S1 := by rw [e190]; rfl
  have nE_S2 : zN S2 = zN S1 := by rw [e190]; rfl
  have R_S2 : A7 SZ S2 := a7_I R_S1 e190 ((congrFun kE_S1 x0).trans r_x0) (by decide)
  refine ok_chk ((congrFun kE_S2 x0).trans ((congrFun kE_S1 x0).trans r_x0)) ?_
  refine ok_bnd (fun S3 e191 => ?_)
  have T_S3 : ZT S3 := e191.symm ▸ zt_W T_S2 ((congrFun kE_S2 x0).trans ((congrFun kE_S1 x0).trans r_x0)) (by decide) rfl
  have kE_S3 : zK S3 = zK S2 := by rw [e191]; rfl
  have nE_S3 : zN S3 = zN S2 := by rw [e191]; rfl
  have R_S3 : A7 SZ S3 := a7_I R_S2 e191 ((congrFun kE_S2 x0).trans ((congrFun kE_S1 x0).trans r_x0)) (by decide)
  refine ok_chk ((congrFun kE_S3 x0).trans ((congrFun kE_S2 x0).trans ((congrFun kE_S1 x0).trans r_x0))) ?_
  refine ok_bnd (fun S4 e192 => ?_)
  have T_S4 : ZT S4 := e192.symm ▸ zt_W T_S3 ((congrFun kE_S3 x0).trans ((congrFun kE_S2 x0).trans ((congrFun kE_S1 x0).trans r_x0))) (by decide) rfl
  have kE_S4 : zK S4 = zK S3 := by rw [e192]; rfl
  have nE_S4 : zN S4 = zN S3 := by rw [e192]; rfl
  have R_S4 : A7 SZ S4 := a7_I R_S3 e192 ((congrFun kE_S3 x0).trans ((congrFun kE_S2 x0).trans ((congrFun kE_S1 x0).trans r_x0))) (by decide)
  refine ok_chk ((congrFun kE_S4 x0).trans ((congrFun kE_S3 x0).trans ((congrFun kE_S2 x0).trans ((congrFun kE_S1 x0).trans r_x0)))) ?_
  refine ok_bnd (fun S5 e193 => ?_)
  have T_S5 : ZT S5 := e193.symm ▸ zt_I T_S4 ((congrFun kE_S4 x0).trans ((congrFun kE_S3 x0).trans ((congrFun kE_S2 x0).trans ((congrFun kE_S1 x0).trans r_x0)))) (by decide) (show (0 : Int) ≤ (0 : Int32).toInt ∧ (0 : Int32).toInt ≤ (4 : Int) from (by decide))
  have kE_S5 : zK S5 = zK S4 := by rw [e193]; rfl
  have nE_S5 : zN S5 = zN S4 := by rw [e193]; rfl
  have R_S5 : A7 SZ S5 := a7_I R_S4 e193 ((congrFun kE_S4 x0).trans ((congrFun kE_S3 x0).trans ((congrFun kE_S2 x0).trans ((congrFun kE_S1 x0).trans r_x0)))) (by decide)
  refine ok_chk ((congrFun kE_S5 x0).trans ((congrFun kE_S4 x0).trans ((congrFun kE_S3 x0).trans ((congrFun kE_S2 x0).trans ((congrFun kE_S1 x0).trans r_x0))))) ?_
  refine ok_bnd (fun S6 e194 => ?_)
  have T_S6 : ZT S6 := e194.symm ▸ zt_W T_S5 ((congrFun kE_S5 x0).trans ((congrFun kE_S4 x0).trans ((congrFun kE_S3 x0).trans ((congrFun kE_S2 x0).trans ((congrFun kE_S1 x0).trans r_x0))))) (by decide) rfl
  have kE_S6 : zK S6 = zK S5 := by rw [e194]; rfl
  have nE_S6 : zN S6 = zN S5 := by rw [e194]; rfl
  have R_S6 : A7 SZ S6 := a7_I R_S5 e194 ((congrFun kE_S5 x0).trans ((congrFun kE_S4 x0).trans ((congrFun kE_S3 x0).trans ((congrFun kE_S2 x0).trans ((congrFun kE_S1 x0).trans r_x0))))) (by decide)
  refine ok_chk ((congrFun kE_S6 x0).trans ((congrFun kE_S5 x0).trans ((congrFun kE_S4 x0).trans ((congrFun kE_S3 x0).trans ((congrFun kE_S2 x0).trans ((congrFun kE_S1 x0).trans r_x0)))))) ?_
  obtain ⟨b7, p_b7, k_b7, c_b7⟩ := T_4_6 T_S6 ((congrFun kE_S6 x0).trans ((congrFun kE_S5 x0).trans ((congrFun kE_S4 x0).trans ((congrFun kE_S3 x0).trans ((congrFun kE_S2 x0).trans ((congrFun kE_S1 x0).trans r_x0))))))
  refine ok_calR p_b7 ?_
  refine ok_chk k_b7 ?_
  have j195 := J61_0 T_S6 k_b7 c_b7
  obtain ⟨⟨r8, S8⟩, h_r8, T_S8, A_S8, -⟩ := t_f_X6_keep (x0 := b7) (x1 := (0 : Int32)) (SZ := S6) T_S6 (a7_0 S6) k_b7 (by have z0 : (0 : Int32).toInt = 0 := rfl; omega)
  replace T_S8 : ZT S8 := T_S8
  replace A_S8 : A7 S6 S8 := A_S8
  refine ok_calR h_r8 ?_
  have q_S8 := fq_X6_keep h_r8
  have kE_S8 : zK S8 = zK S6 := q_S8.2.2.1
  have nE_S8 : zN S8 = zN S6 := q_S8.2.2.2.1
  have R_S8 : A7 SZ S8 := a7_t R_S6 A_S8
  exact ok_ret ⟨T_S8, R_S8, trivial⟩
theorem t_f_X4_become {SZ S : ZS} {x0 : Nat} {x1 : Int32} {x2 : Int32} (hT : ZT S) (hR : A7 SZ S) (r_x0 : zK S x0 = 4) : Ok (f_X4_become x0 x1 x2 S) (fun o => ZT o.2 ∧ A7 SZ o.2 ∧ True) := t_f_X4_become_0 hT hR r_x0
theorem t_f_X1_wipe_0 {SZ S : ZS} {x0 : Nat} (hT : ZT S) (hR : A7 SZ S) (r_x0 : zK S x0 = 1) : Ok (f_X1_wipe_0 x0 S) (fun o => ZT o.2 ∧ A7 SZ o.2 ∧ True) := by
  unfold f_X1_wipe_0
  refine ok_chk r_x0 ?_
  obtain ⟨b1, p_b1, k_b1⟩ := T_1_0 hT r_x0
  refine ok_calR p_b1 ?_
  refine ok_chk k_b1 ?_
  obtain ⟨⟨r2, S2⟩, h_r2, T_S2, A_S2, -⟩ := t_f_X0_setUp (x0 := b1) (SZ := S) hT (a7_0 S) k_b1
  replace T_S2 : ZT S2 := T_S2
  replace A_S2 : A7 S S2 := A_S2
  refine ok_calR h_r2 ?_
  have q_S2 := fq_X0_setUp h_r2
  have kE_S2 : zK S2 = zK S := q_S2.2.2.1
  have nE_S2 : zN S2 = zN S := q_S2.2.2.2.1
  have R_S2 : A7 SZ S2 := a7_t hR A_S2
  refine ok_chk ((congrFun kE_S2 x0).trans r_x0) ?_
  obtain ⟨b3, p_b3, k_b3⟩ := T_1_1 T_S2 ((congrFun kE_S2 x0).trans r_x0)
  refine ok_calR p_b3 ?_
  refine ok_chk k_b3 ?_
  obtain ⟨⟨r4, S4⟩, h_r4, T_S4, A_S4, -⟩ := t_f_X4_become (x0 := b3) (x1 := (-1 : Int32)) (x2 := (-1 : Int32)) (SZ := S2) T_S2 (a7_0 S2) k_b3
  replace T_S4 : ZT S4 := T_S4
  replace A_S4 : A7 S2 S4 := A_S4
  refine ok_calR h_r4 ?_
  have q_S4 := fq_X4_become h_r4
  have kE_S4 : zK S4 = zK S2 := q_S4.2.2.1
  have nE_S4 : zN S4 = zN S2 := q_S4.2.2.2.1
  have R_S4 : A7 SZ S4 := a7_t R_S2 A_S4
  refine ok_chk ((congrFun kE_S4 x0).trans ((congrFun kE_S2 x0).trans r_x0)) ?_
  refine ok_bnd (fun S5 e196 => ?_)
  have T_S5 : ZT S5 := e196.symm ▸ zt_I T_S4 ((congrFun kE_S4 x0).trans ((congrFun kE_S2 x0).trans r_x0)) (by decide) (show (0 : Int) ≤ (0 : Int32).toInt ∧ (0 : Int32).toInt ≤ (300 : Int) from (by decide))
  have kE_S5 : zK S5 = zK S4 := by rw [e196]; rfl
  have nE_S5 : zN S5 = zN S4 := by rw [e196]; rfl
  have R_S5 : A7 SZ S5 := a7_I R_S4 e196 ((congrFun kE_S4 x0).trans ((congrFun kE_S2 x0).trans r_x0)) (by decide)
  refine ok_chk ((congrFun kE_S5 x0).trans ((congrFun kE_S4 x0).trans ((congrFun kE_S2 x0).trans r_x0))) ?_
  refine ok_bnd (fun S6 e197 => ?_)
  have j198 := J_1_5 T_S5 ((congrFun kE_S5 x0).trans ((congrFun kE_S4 x0).trans ((congrFun kE_S2 x0).trans r_x0)))
  have T_S6 : ZT S6 := e197.symm ▸ zt_T T_S5 ((congrFun kE_S5 x0).trans ((congrFun kE_S4 x0).trans ((congrFun kE_S2 x0).trans r_x0))) (by decide) (by have z : (0 : Int32).toInt = 0 := rfl; omega)
  have kE_S6 : zK S6 = zK S5 := by rw [e197]; rfl
  have nE_S6 : zN S6 = zN S5 := by rw [e197]; rfl
  have R_S6 : A7 SZ S6 := a7_I R_S5 e197 ((congrFun kE_S5 x0).trans ((congrFun kE_S4 x0).trans ((congrFun kE_S2 x0).trans r_x0))) (by decide)
  refine ok_chk ((congrFun kE_S6 x0).trans ((congrFun kE_S5 x0).trans ((congrFun kE_S4 x0).trans ((congrFun kE_S2 x0).trans r_x0)))) ?_
  refine ok_bnd (fun S7 e199 => ?_)
  have T_S7 : ZT S7 := e199.symm ▸ zt_W T_S6 ((congrFun kE_S6 x0).trans ((congrFun kE_S5 x0).trans ((congrFun kE_S4 x0).trans ((congrFun kE_S2 x0).trans r_x0)))) (by decide) rfl
  have kE_S7 : zK S7 = zK S6 := by rw [e199]; rfl
  have nE_S7 : zN S7 = zN S6 := by rw [e199]; rfl
  have R_S7 : A7 SZ S7 := a7_I R_S6 e199 ((congrFun kE_S6 x0).trans ((congrFun kE_S5 x0).trans ((congrFun kE_S4 x0).trans ((congrFun kE_S2 x0).trans r_x0)))) (by decide)
  exact ok_ret ⟨T_S7, R_S7, trivial⟩
theorem t_f_X1_wipe {SZ S : ZS} {x0 : Nat} (hT : ZT S) (hR : A7 SZ S) (r_x0 : zK S x0 = 1) : Ok (f_X1_wipe x0 S) (fun o => ZT o.2 ∧ A7 SZ o.2 ∧ True) := t_f_X1_wipe_0 hT hR r_x0
theorem t_f_X4_putMark_0 {SZ S : ZS} {x0 : Nat} {x1 : Int32} (hT : ZT S) (hR : A7 SZ S) (r_x0 : zK S x0 = 4) (q0 : (zI S 4 x0).toInt ≤ 3) : Ok (f_X4_putMark_0 x0 x1 S) (fun o => ZT o.2 ∧ A7 SZ o.2 ∧ True) := by
  unfold f_X4_putMark_0
  have j200 := J_4_4 hT r_x0
  refine ok_chk r_x0 ?_
  refine ok_chk r_x0 ?_
  refine ok_bnd (fun v1 e201 => ?_)
  have t_v1 : v1.toInt = 8 * (zI S 4 x0).toInt := ti_mul e201 (show (8 : Int32).toInt = 8 from rfl) rfl (by omega) (by omega)
  refine ok_bnd (fun v2 e202 => ?_)
  refine ok_bnd (fun v3 e203 => ?_)
  refine ok_chk r_x0 ?_
  refine ok_bnd (fun S4 e204 => ?_)
  have T_S4 : ZT S4 := e204.symm ▸ zt_W hT r_x0 (by decide) rfl
  have kE_S4 : zK S4 = zK S := by rw [e204]; rfl
  have nE_S4 : zN S4 = zN S := by rw [e204]; rfl
  have R_S4 : A7 SZ S4 := a7_I hR e204 r_x0 (by decide)
  have : (zI S4 4 x0).toInt = (zI S 4 x0).toInt := by rw [e204]; rfl
  refine ok_chk ((congrFun kE_S4 x0).trans r_x0) ?_
  refine ok_bnd (fun v5 e205 => ?_)
  have j206 := J_4_4 T_S4 ((congrFun kE_S4 x0).trans r_x0)
  have t_v5 : v5.toInt = (zI S4 4 x0).toInt + 1 := ti_add e205 rfl (show (1 : Int32).toInt = 1 from rfl) (by omega) (by omega)
  refine ok_chk ((congrFun kE_S4 x0).trans r_x0) ?_
  refine ok_bnd (fun S6 e207 => ?_)
  have T_S6 : ZT S6 := e207.symm ▸ zt_I T_S4 ((congrFun kE_S4 x0).trans r_x0) (by decide) (show (0 : Int) ≤ v5.toInt ∧ v5.toInt ≤ (4 : Int) from (by omega))
  have kE_S6 : zK S6 = zK S4 := by rw [e207]; rfl
  have nE_S6 : zN S6 = zN S4 := by rw [e207]; rfl
  have R_S6 : A7 SZ S6 := a7_I R_S4 e207 ((congrFun kE_S4 x0).trans r_x0) (by decide)
  have : (zI S6 4 x0).toInt = v5.toInt := by rw [e207]; exact (congrArg Int32.toInt (zI_self _ _ _ _)).trans rfl
  exact ok_ret ⟨T_S6, R_S6, trivial⟩
theorem t_f_X4_putMark {SZ S : ZS} {x0 : Nat} {x1 : Int32} (hT : ZT S) (hR : A7 SZ S) (r_x0 : zK S x0 = 4) (q0 : (zI S 4 x0).toInt ≤ 3) : Ok (f_X4_putMark x0 x1 S) (fun o => ZT o.2 ∧ A7 SZ o.2 ∧ True) := t_f_X4_putMark_0 hT hR r_x0 q0
theorem t_f_X4_markAt_0 {S : ZS} {x0 : Nat} {x1 : Int32} (hT : ZT S) (r_x0 : zK S x0 = 4) : Ok (f_X4_markAt_0 x0 x1 S) (fun o => o.2 = S ∧ ((0 : Int) ≤ o.1.toInt ∧ o.1.toInt ≤ (255 : Int))) := by
  unfold f_X4_markAt_0
  refine ok_chk r_x0 ?_
  refine ok_bnd (fun v1 e208 => ?_)
  refine ok_bnd (fun v2 e209 => ?_)
  refine ok_bnd (fun v3 e210 => ?_)
  have t_v3 := ti_and e210 (show (255 : Int32).toBitVec.toNat = 255 from rfl) (by decide)
  exact ok_ret ⟨rfl, (show (0 : Int) ≤ v3.toInt ∧ v3.toInt ≤ (255 : Int) from (by omega))⟩
theorem t_f_X4_markAt {S : ZS} {x0 : Nat} {x1 : Int32} (hT : ZT S) (r_x0 : zK S x0 = 4) : Ok (f_X4_markAt x0 x1 S) (fun o => o.2 = S ∧ ((0 : Int) ≤ o.1.toInt ∧ o.1.toInt ≤ (255 : Int))) := t_f_X4_markAt_0 hT r_x0
end
section
theorem t_f_X5_skip_0 {SZ S : ZS} {x0 : Nat} {x1 : Int32} (hT : ZT S) (hR : A7 SZ S) (r_x0 : zK S x0 = 5) (q0 : 1 ≤ x1.toInt ∨ (zI S 1 x0).toInt ≤ 90050) : Ok (f_X5_skip_0 x0 x1 S) (fun o => ZT o.2 ∧ A7 SZ o.2 ∧ ((0 : Int) ≤ o.1.toInt ∧ o.1.toInt ≤ (1 : Int)) ∧ ((o.1.toInt = 1 → 1 ≤ x1.toInt → (zI o.2 1 x0).toInt ≤ 90000)) ∧ (((zI o.2 1 x0).toInt ≤ (zI S 1 x0).toInt + 1))) := by
  unfold f_X5_skip_0
  have j1 := J_5_1 hT r_x0
  refine ok_chk r_x0 ?_
  obtain ⟨b1, p_b1, k_b1, c_b1⟩ := T_5_0 hT r_x0
  refine ok_calR p_b1 ?_
  refine ok_chk r_x0 ?_
  refine ok_chk k_b1 ?_
  have j2 := J61_2 hT k_b1 c_b1
  obtain ⟨r2, h_r2, p_r2⟩ := roz (t_f_X6_at (x0 := b1) (x1 := (zI S 1 x0)) hT k_b1)
  dsimp only at p_r2
  refine ok_calR h_r2 ?_
  refine ok_if (fun c3 => ?_) (fun c3 => ?_)
  ·
    replace c3 := ti_eqP (a := r2) (b := x1) c3 rfl rfl
    refine ok_chk r_x0 ?_
    refine ok_bnd (fun v3 e4 => ?_)
    have t_v3 : v3.toInt = (zI S 1 x0).toInt + 1 := ti_add e4 rfl (show (1 : Int32).toInt = 1 from rfl) (by omega) (by omega)
    refine ok_chk r_x0 ?_
    refine ok_bnd (fun S4 e5 => ?_)
    have T_S4 : ZT S4 := e5.symm ▸ zt_I hT r_x0 (by decide) (show (0 : Int) ≤ v3.toInt ∧ v3.toInt ≤ (90100 : Int) from (by omega))
    have kE_S4 : zK S4 = zK S := by rw [e5]; rfl
    have nE_S4 : zN S4 = zN S := by rw [e5]; rfl
    have R_S4 : A7 SZ S4 := a7_I hR e5 r_x0 (by decide)
    have : (zI S4 1 x0).toInt = v3.toInt := by rw [e5]; exact (congrArg Int32.toInt (zI_self _ _ _ _)).trans rfl
    refine ok_chk (by decide) ?_
    exact ok_ret ⟨T_S4, R_S4, (show (0 : Int) ≤ (1 : Int32).toInt ∧ (1 : Int32).toInt ≤ (1 : Int) from (by decide)), (by show ((1 : Int32).toInt = 1 → 1 ≤ x1.toInt → (zI S4 1 x0).toInt ≤ 90000); have z : (1 : Int32).toInt = 1 := rfl; omega), (by show ((zI S4 1 x0).toInt ≤ (zI S 1 x0).toInt + 1); have z : (1 : Int32).toInt = 1 := rfl; omega)⟩
  ·
    replace c3 := ti_eqN (a := r2) (b := x1) c3 rfl rfl
    refine ok_chk (by decide) ?_
    exact ok_ret ⟨hT, hR, (show (0 : Int) ≤ (0 : Int32).toInt ∧ (0 : Int32).toInt ≤ (1 : Int) from (by decide)), (by show ((0 : Int32).toInt = 1 → 1 ≤ x1.toInt → (zI S 1 x0).toInt ≤ 90000); have z : (0 : Int32).toInt = 0 := rfl; omega), (by show ((zI S 1 x0).toInt ≤ (zI S 1 x0).toInt + 1); have z : (0 : Int32).toInt = 0 := rfl; omega)⟩
theorem t_f_X5_skip {SZ S : ZS} {x0 : Nat} {x1 : Int32} (hT : ZT S) (hR : A7 SZ S) (r_x0 : zK S x0 = 5) (q0 : 1 ≤ x1.toInt ∨ (zI S 1 x0).toInt ≤ 90050) : Ok (f_X5_skip x0 x1 S) (fun o => ZT o.2 ∧ A7 SZ o.2 ∧ ((0 : Int) ≤ o.1.toInt ∧ o.1.toInt ≤ (1 : Int)) ∧ ((o.1.toInt = 1 → 1 ≤ x1.toInt → (zI o.2 1 x0).toInt ≤ 90000)) ∧ (((zI o.2 1 x0).toInt ≤ (zI S 1 x0).toInt + 1))) := t_f_X5_skip_0 hT hR r_x0 q0
theorem t_f_X5_readRank_105 {SZ S : ZS} {self5 : Nat → Nat → Int32 → Int32 → Int32 → ZS → Option (Int32 × ZS)} {N5 : Nat} (hself5 : ∀ (x0 : Nat) (x1 : Nat) (x2 : Int32) (x3 : Int32) (x4 : Int32) (S : ZS), ZT S → A7 SZ S → (zK S x0 = 5) → (zK S x1 = 0) → ((0 : Int) ≤ x2.toInt ∧ x2.toInt ≤ (56 : Int)) → ((0 : Int) ≤ x3.toInt ∧ x3.toInt ≤ (1 : Int)) → ((0 : Int) ≤ x4.toInt ∧ x4.toInt ≤ (15 : Int)) → (16 - x4.toInt) < (N5 : Int) → Ok (self5 x0 x1 x2 x3 x4 S) (fun o => ZT o.2 ∧ A7 SZ o.2 ∧ ((0 : Int) ≤ o.1.toInt ∧ o.1.toInt ≤ (1 : Int)))) {x0 : Nat} {x1 : Nat} {x2 : Int32} {x6 : Int32} {t0 : Int32} {t1 : Int32} (hT : ZT S) (hR : A7 SZ S) (r_x0 : zK S x0 = 5) (r_x1 : zK S x1 = 0) (r_x2 : (0 : Int) ≤ x2.toInt ∧ x2.toInt ≤ (56 : Int)) (r_x6 : (0 : Int) ≤ x6.toInt ∧ x6.toInt ≤ (1 : Int)) (r_t0 : (1 : Int) ≤ t0.toInt ∧ t0.toInt ≤ (8 : Int)) (r_t1 : (0 : Int) ≤ t1.toInt ∧ t1.toInt ≤ (7 : Int)) (q0 : (zI S 1 x0).toInt < 90000) (m5 : (16 - t1.toInt) ≤ (N5 : Int)) : Ok (f_X5_readRank_105 self5 x0 x1 x2 x6 t0 t1 S) (fun o => ZT o.2 ∧ A7 SZ o.2 ∧ ((0 : Int) ≤ o.1.toInt ∧ o.1.toInt ≤ (1 : Int))) := by
  unfold f_X5_readRank_105
  have j6 := J_5_1 hT r_x0
  refine ok_bnd (fun v1 e7 => ?_)
  have t_v1 : v1.toInt = t1.toInt + t0.toInt := ti_add e7 rfl rfl (by omega) (by omega)
  refine ok_chk r_x0 ?_
  refine ok_bnd (fun v2 e8 => ?_)
  have t_v2 : v2.toInt = (zI S 1 x0).toInt + 1 := ti_add e8 rfl (show (1 : Int32).toInt = 1 from rfl) (by omega) (by omega)
  refine ok_chk r_x0 ?_
  refine ok_bnd (fun S3 e9 => ?_)
  have T_S3 : ZT S3 := e9.symm ▸ zt_I hT r_x0 (by decide) (show (0 : Int) ≤ v2.toInt ∧ v2.toInt ≤ (90100 : Int) from (by omega))
  have kE_S3 : zK S3 = zK S := by rw [e9]; rfl
  have nE_S3 : zN S3 = zN S := by rw [e9]; rfl
  have R_S3 : A7 SZ S3 := a7_I hR e9 r_x0 (by decide)
  have : (zI S3 1 x0).toInt = v2.toInt := by rw [e9]; exact (congrArg Int32.toInt (zI_self _ _ _ _)).trans rfl
  exact hself5 x0 x1 x2 x6 v1 S3 T_S3 R_S3 ((congrFun kE_S3 x0).trans r_x0) ((congrFun kE_S3 x1).trans r_x1) r_x2 r_x6 (by omega) (by omega)
theorem t_f_X5_readRank_89 {SZ S : ZS} {self5 : Nat → Nat → Int32 → Int32 → Int32 → ZS → Option (Int32 × ZS)} {N5 : Nat} (hself5 : ∀ (x0 : Nat) (x1 : Nat) (x2 : Int32) (x3 : Int32) (x4 : Int32) (S : ZS), ZT S → A7 SZ S → (zK S x0 = 5) → (zK S x1 = 0) → ((0 : Int) ≤ x2.toInt ∧ x2.toInt ≤ (56 : Int)) → ((0 : Int) ≤ x3.toInt ∧ x3.toInt ≤ (1 : Int)) → ((0 : Int) ≤ x4.toInt ∧ x4.toInt ≤ (15 : Int)) → (16 - x4.toInt) < (N5 : Int) → Ok (self5 x0 x1 x2 x3 x4 S) (fun o => ZT o.2 ∧ A7 SZ o.2 ∧ ((0 : Int) ≤ o.1.toInt ∧ o.1.toInt ≤ (1 : Int)))) {x0 : Nat} {x1 : Nat} {x2 : Int32} {x4 : Int32} {x5 : Int32} {x6 : Int32} (hT : ZT S) (hR : A7 SZ S) (r_x0 : zK S x0 = 5) (r_x1 : zK S x1 = 0) (r_x2 : (0 : Int) ≤ x2.toInt ∧ x2.toInt ≤ (56 : Int)) (r_x4 : (0 : Int) ≤ x4.toInt ∧ x4.toInt ≤ (7 : Int)) (r_x5 : (0 : Int) ≤ x5.toInt ∧ x5.toInt ≤ (65535 : Int)) (r_x6 : (0 : Int) ≤ x6.toInt ∧ x6.toInt ≤ (1 : Int)) (q0 : (zI S 1 x0).toInt < 90000) (q1 : (x6.toInt = 1 → 49 ≤ x5.toInt ∧ x5.toInt ≤ 56)) (m5 : (16 - x4.toInt) ≤ (N5 : Int)) : Ok (f_X5_readRank_89 self5 x0 x1 x2 x4 x5 x6 S) (fun o => ZT o.2 ∧ A7 SZ o.2 ∧ ((0 : Int) ≤ o.1.toInt ∧ o.1.toInt ≤ (1 : Int))) := by
  unfold f_X5_readRank_89
  have j10 := J_5_1 hT r_x0
  refine ok_if (fun c11 => ?_) (fun c11 => ?_)
  ·
    replace c11 := ti_eqP (a := x6) (b := (0 : Int32)) c11 rfl (show (0 : Int32).toInt = 0 from rfl)
    exact t_f_X5_readRank_105 (S := S) hself5 (x0 := x0) (x1 := x1) (x2 := x2) (x6 := x6) (t0 := (1 : Int32)) (t1 := x4) hT hR r_x0 r_x1 r_x2 r_x6 (by decide) r_x4 q0 m5
  ·
    replace c11 := ti_eqN (a := x6) (b := (0 : Int32)) c11 rfl (show (0 : Int32).toInt = 0 from rfl)
    refine ok_bnd (fun v1 e12 => ?_)
    have t_v1 : v1.toInt = x5.toInt - 48 := ti_sub e12 rfl (show (48 : Int32).toInt = 48 from rfl) (by omega) (by omega)
    exact t_f_X5_readRank_105 (S := S) hself5 (x0 := x0) (x1 := x1) (x2 := x2) (x6 := x6) (t0 := v1) (t1 := x4) hT hR r_x0 r_x1 r_x2 r_x6 (by omega) r_x4 q0 m5
theorem t_f_X5_readRank_74 {SZ S : ZS} {self5 : Nat → Nat → Int32 → Int32 → Int32 → ZS → Option (Int32 × ZS)} {N5 : Nat} (hself5 : ∀ (x0 : Nat) (x1 : Nat) (x2 : Int32) (x3 : Int32) (x4 : Int32) (S : ZS), ZT S → A7 SZ S → (zK S x0 = 5) → (zK S x1 = 0) → ((0 : Int) ≤ x2.toInt ∧ x2.toInt ≤ (56 : Int)) → ((0 : Int) ≤ x3.toInt ∧ x3.toInt ≤ (1 : Int)) → ((0 : Int) ≤ x4.toInt ∧ x4.toInt ≤ (15 : Int)) → (16 - x4.toInt) < (N5 : Int) → Ok (self5 x0 x1 x2 x3 x4 S) (fun o => ZT o.2 ∧ A7 SZ o.2 ∧ ((0 : Int) ≤ o.1.toInt ∧ o.1.toInt ≤ (1 : Int)))) {x0 : Nat} {x1 : Nat} {x2 : Int32} {x4 : Int32} {x5 : Int32} {x6 : Int32} {x7 : Int32} (hT : ZT S) (hR : A7 SZ S) (r_x0 : zK S x0 = 5) (r_x1 : zK S x1 = 0) (r_x2 : (0 : Int) ≤ x2.toInt ∧ x2.toInt ≤ (56 : Int)) (r_x4 : (0 : Int) ≤ x4.toInt ∧ x4.toInt ≤ (7 : Int)) (r_x5 : (0 : Int) ≤ x5.toInt ∧ x5.toInt ≤ (65535 : Int)) (r_x6 : (0 : Int) ≤ x6.toInt ∧ x6.toInt ≤ (1 : Int)) (r_x7 : (0 : Int) ≤ x7.toInt ∧ x7.toInt ≤ (30 : Int)) (q0 : (zI S 1 x0).toInt < 90000) (q1 : (x6.toInt = 1 → 49 ≤ x5.toInt ∧ x5.toInt ≤ 56)) (m5 : (16 - x4.toInt) ≤ (N5 : Int)) : Ok (f_X5_readRank_74 self5 x0 x1 x2 x4 x5 x6 x7 S) (fun o => ZT o.2 ∧ A7 SZ o.2 ∧ ((0 : Int) ≤ o.1.toInt ∧ o.1.toInt ≤ (1 : Int))) := by
  unfold f_X5_readRank_74
  have j13 := J_5_1 hT r_x0
  refine ok_if (fun c14 => ?_) (fun c14 => ?_)
  ·
    replace c14 := ti_eqP (a := x6) (b := (0 : Int32)) c14 rfl (show (0 : Int32).toInt = 0 from rfl)
    refine ok_bnd (fun v1 e15 => ?_)
    have t_v1 : v1.toInt = x2.toInt + x4.toInt := ti_add e15 rfl rfl (by omega) (by omega)
    refine ok_chk r_x1 ?_
    obtain ⟨⟨r2, S2⟩, h_r2, T_S2, A_S2, -⟩ := t_f_X0_put (x0 := x1) (x1 := v1) (x2 := x7) (SZ := S) hT (a7_0 S) r_x1 (by omega)
    replace T_S2 : ZT S2 := T_S2
    replace A_S2 : A7 S S2 := A_S2
    refine ok_calR h_r2 ?_
    have q_S2 := fq_X0_put h_r2
    have kE_S2 : zK S2 = zK S := q_S2.2.2.1
    have nE_S2 : zN S2 = zN S := q_S2.2.2.2.1
    have R_S2 : A7 SZ S2 := a7_t hR A_S2
    have : (zI S2 1 x0).toInt = (zI S 1 x0).toInt := congrArg Int32.toInt ((((fz_X0_put h_r2) hT.2.2.2.2.1).2.2 x0 (by rw [r_x0]; decide)).2.2.1 1 (by rw [r_x0]; decide))
    have j16 := J_5_1 T_S2 ((congrFun kE_S2 x0).trans r_x0)
    exact t_f_X5_readRank_89 (S := S2) hself5 (x0 := x0) (x1 := x1) (x2 := x2) (x4 := x4) (x5 := x5) (x6 := x6) T_S2 R_S2 ((congrFun kE_S2 x0).trans r_x0) ((congrFun kE_S2 x1).trans r_x1) r_x2 r_x4 r_x5 r_x6 (by omega) q1 m5
  ·
    replace c14 := ti_eqN (a := x6) (b := (0 : Int32)) c14 rfl (show (0 : Int32).toInt = 0 from rfl)
    exact t_f_X5_readRank_89 (S := S) hself5 (x0 := x0) (x1 := x1) (x2 := x2) (x4 := x4) (x5 := x5) (x6 := x6) hT hR r_x0 r_x1 r_x2 r_x4 r_x5 r_x6 q0 q1 m5
theorem t_f_X5_readRank_53 {SZ S : ZS} {self5 : Nat → Nat → Int32 → Int32 → Int32 → ZS → Option (Int32 × ZS)} {N5 : Nat} (hself5 : ∀ (x0 : Nat) (x1 : Nat) (x2 : Int32) (x3 : Int32) (x4 : Int32) (S : ZS), ZT S → A7 SZ S → (zK S x0 = 5) → (zK S x1 = 0) → ((0 : Int) ≤ x2.toInt ∧ x2.toInt ≤ (56 : Int)) → ((0 : Int) ≤ x3.toInt ∧ x3.toInt ≤ (1 : Int)) → ((0 : Int) ≤ x4.toInt ∧ x4.toInt ≤ (15 : Int)) → (16 - x4.toInt) < (N5 : Int) → Ok (self5 x0 x1 x2 x3 x4 S) (fun o => ZT o.2 ∧ A7 SZ o.2 ∧ ((0 : Int) ≤ o.1.toInt ∧ o.1.toInt ≤ (1 : Int)))) {x0 : Nat} {x1 : Nat} {x2 : Int32} {x3 : Int32} {x4 : Int32} {x5 : Int32} {x6 : Int32} {t0 : Int32} (hT : ZT S) (hR : A7 SZ S) (r_x0 : zK S x0 = 5) (r_x1 : zK S x1 = 0) (r_x2 : (0 : Int) ≤ x2.toInt ∧ x2.toInt ≤ (56 : Int)) (r_x3 : (0 : Int) ≤ x3.toInt ∧ x3.toInt ≤ (1 : Int)) (r_x4 : (0 : Int) ≤ x4.toInt ∧ x4.toInt ≤ (7 : Int)) (r_x5 : (0 : Int) ≤ x5.toInt ∧ x5.toInt ≤ (65535 : Int)) (r_x6 : (0 : Int) ≤ x6.toInt ∧ x6.toInt ≤ (1 : Int)) (r_t0 : (0 : Int) ≤ t0.toInt ∧ t0.toInt ≤ (30 : Int)) (q0 : (x6.toInt = 1 → 49 ≤ x5.toInt ∧ x5.toInt ≤ 56)) (q1 : (t0.toInt = 0 ∨ 0 < x5.toInt)) (q2 : (0 < x5.toInt → (zI S 1 x0).toInt < 90000)) (m5 : (16 - x4.toInt) ≤ (N5 : Int)) : Ok (f_X5_readRank_53 self5 x0 x1 x2 x3 x4 x5 x6 t0 S) (fun o => ZT o.2 ∧ A7 SZ o.2 ∧ ((0 : Int) ≤ o.1.toInt ∧ o.1.toInt ≤ (1 : Int))) := by
  unfold f_X5_readRank_53
  have j17 := J_5_1 hT r_x0
  refine ok_if (fun c18 => ?_) (fun c18 => ?_)
  ·
    replace c18 := ti_eqP (a := x6) (b := (0 : Int32)) c18 rfl (show (0 : Int32).toInt = 0 from rfl)
    refine ok_if (fun c19 => ?_) (fun c19 => ?_)
    ·
      replace c19 := ti_eqP (a := t0) (b := (0 : Int32)) c19 rfl (show (0 : Int32).toInt = 0 from rfl)
      unfold f_X5_readRank_72
      refine ok_chk (by decide) ?_
      exact ok_ret ⟨hT, hR, (show (0 : Int) ≤ (0 : Int32).toInt ∧ (0 : Int32).toInt ≤ (1 : Int) from (by decide))⟩
    ·
      replace c19 := ti_eqN (a := t0) (b := (0 : Int32)) c19 rfl (show (0 : Int32).toInt = 0 from rfl)
      exact t_f_X5_readRank_74 (S := S) hself5 (x0 := x0) (x1 := x1) (x2 := x2) (x4 := x4) (x5 := x5) (x6 := x6) (x7 := t0) hT hR r_x0 r_x1 r_x2 r_x4 r_x5 r_x6 r_t0 (by omega) q0 m5
  ·
    replace c18 := ti_eqN (a := x6) (b := (0 : Int32)) c18 rfl (show (0 : Int32).toInt = 0 from rfl)
    refine ok_if (fun c20 => ?_) (fun c20 => ?_)
    ·
      replace c20 := ti_eqP (a := x3) (b := (0 : Int32)) c20 rfl (show (0 : Int32).toInt = 0 from rfl)
      exact t_f_X5_readRank_74 (S := S) hself5 (x0 := x0) (x1 := x1) (x2 := x2) (x4 := x4) (x5 := x5) (x6 := x6) (x7 := t0) hT hR r_x0 r_x1 r_x2 r_x4 r_x5 r_x6 r_t0 (by omega) q0 m5
    ·
      replace c20 := ti_eqN (a := x3) (b := (0 : Int32)) c20 rfl (show (0 : Int32).toInt = 0 from rfl)
      unfold f_X5_readRank_72
      refine ok_chk (by decide) ?_
      exact ok_ret ⟨hT, hR, (show (0 : Int) ≤ (0 : Int32).toInt ∧ (0 : Int32).toInt ≤ (1 : Int) from (by decide))⟩
theorem t_f_X5_readRank_5s {SZ S : ZS} {self5 : Nat → Nat → Int32 → Int32 → Int32 → ZS → Option (Int32 × ZS)} {N5 : Nat} (hself5 : ∀ (x0 : Nat) (x1 : Nat) (x2 : Int32) (x3 : Int32) (x4 : Int32) (S : ZS), ZT S → A7 SZ S → (zK S x0 = 5) → (zK S x1 = 0) → ((0 : Int) ≤ x2.toInt ∧ x2.toInt ≤ (56 : Int)) → ((0 : Int) ≤ x3.toInt ∧ x3.toInt ≤ (1 : Int)) → ((0 : Int) ≤ x4.toInt ∧ x4.toInt ≤ (15 : Int)) → (16 - x4.toInt) < (N5 : Int) → Ok (self5 x0 x1 x2 x3 x4 S) (fun o => ZT o.2 ∧ A7 SZ o.2 ∧ ((0 : Int) ≤ o.1.toInt ∧ o.1.toInt ≤ (1 : Int)))) {x0 : Nat} {x1 : Nat} {x2 : Int32} {x3 : Int32} {x4 : Int32} (hT : ZT S) (hR : A7 SZ S) (r_x0 : zK S x0 = 5) (r_x1 : zK S x1 = 0) (r_x2 : (0 : Int) ≤ x2.toInt ∧ x2.toInt ≤ (56 : Int)) (r_x3 : (0 : Int) ≤ x3.toInt ∧ x3.toInt ≤ (1 : Int)) (r_x4 : (0 : Int) ≤ x4.toInt ∧ x4.toInt ≤ (15 : Int)) (m5 : (16 - x4.toInt) ≤ (N5 : Int)) : Ok (f_X5_readRank_5s self5 x0 x1 x2 x3 x4 S) (fun o => ZT o.2 ∧ A7 SZ o.2 ∧ ((0 : Int) ≤ o.1.toInt ∧ o.1.toInt ≤ (1 : Int))) := by
  unfold f_X5_readRank_5s
  have j21 := J_5_1 hT r_x0
  refine ok_if (fun c22 => ?_) (fun c22 => ?_)
  ·
    replace c22 := ti_leP (a := (8 : Int32)) (b := x4) c22 (show (8 : Int32).toInt = 8 from rfl) rfl
    refine ok_if (fun c23 => ?_) (fun c23 => ?_)
    ·
      replace c23 := ti_eqP (a := x4) (b := (8 : Int32)) c23 rfl (show (8 : Int32).toInt = 8 from rfl)
      unfold f_X5_readRank_136
      refine ok_chk (by decide) ?_
      exact ok_ret ⟨hT, hR, (show (0 : Int) ≤ (1 : Int32).toInt ∧ (1 : Int32).toInt ≤ (1 : Int) from (by decide))⟩
    ·
      replace c23 := ti_eqN (a := x4) (b := (8 : Int32)) c23 rfl (show (8 : Int32).toInt = 8 from rfl)
      unfold f_X5_readRank_136
      refine ok_chk (by decide) ?_
      exact ok_ret ⟨hT, hR, (show (0 : Int) ≤ (0 : Int32).toInt ∧ (0 : Int32).toInt ≤ (1 : Int) from (by decide))⟩
  ·
    replace c22 := ti_leN (a := (8 : Int32)) (b := x4) c22 (show (8 : Int32).toInt = 8 from rfl) rfl
    refine ok_chk r_x0 ?_
    obtain ⟨b1, p_b1, k_b1, c_b1⟩ := T_5_0 hT r_x0
    refine ok_calR p_b1 ?_
    refine ok_chk r_x0 ?_
    refine ok_chk k_b1 ?_
    have j24 := J61_2 hT k_b1 c_b1
    obtain ⟨r2, h_r2, p_r2⟩ := roz (t_f_X6_at (x0 := b1) (x1 := (zI S 1 x0)) hT k_b1)
    dsimp only at p_r2
    refine ok_calR h_r2 ?_
    obtain ⟨r3, h_r3, p_r3⟩ := roz (t_f_X11_isRank (x0 := r2) hT )
    dsimp only at p_r3
    refine ok_calR h_r3 ?_
    obtain ⟨r4, h_r4, p_r4⟩ := roz (t_f_X11_isLetter (x0 := r2) hT )
    dsimp only at p_r4
    refine ok_calR h_r4 ?_
    refine ok_if (fun c25 => ?_) (fun c25 => ?_)
    ·
      replace c25 := ti_eqP (a := r4) (b := (0 : Int32)) c25 rfl (show (0 : Int32).toInt = 0 from rfl)
      exact t_f_X5_readRank_53 (S := S) hself5 (x0 := x0) (x1 := x1) (x2 := x2) (x3 := x3) (x4 := x4) (x5 := r2) (x6 := r3) (t0 := (0 : Int32)) hT hR r_x0 r_x1 r_x2 r_x3 (by omega) (by omega) (by omega) (by decide) (by have z0 : (0 : Int32).toInt = 0 := rfl; omega) (by have z0 : (0 : Int32).toInt = 0 := rfl; omega) (by have z0 : (0 : Int32).toInt = 0 := rfl; omega) m5
    ·
      replace c25 := ti_eqN (a := r4) (b := (0 : Int32)) c25 rfl (show (0 : Int32).toInt = 0 from rfl)
      refine ok_chk (by decide) ?_
      obtain ⟨r5, h_r5, p_r5⟩ := roz (t_f_J0_indexOf_0f7a4 (x0 := 1) (x1 := r2) hT (by decide))
      dsimp only at p_r5
      refine ok_calR h_r5 ?_
      refine ok_bnd (fun v6 e26 => ?_)
      have t_v6 : v6.toInt = r5.toInt + 1 := ti_add e26 rfl (show (1 : Int32).toInt = 1 from rfl) (by omega) (by omega)
      exact t_f_X5_readRank_53 (S := S) hself5 (x0 := x0) (x1 := x1) (x2 := x2) (x3 := x3) (x4 := x4) (x5 := r2) (x6 := r3) (t0 := v6) hT hR r_x0 r_x1 r_x2 r_x3 (by omega) (by omega) (by omega) (by omega) (by omega) (by omega) (by omega) m5
theorem t_f_X5_readRank_5 {SZ : ZS} : ∀ (n : Nat) (x0 : Nat) (x1 : Nat) (x2 : Int32) (x3 : Int32) (x4 : Int32) (S : ZS), ZT S → A7 SZ S → (zK S x0 = 5) → (zK S x1 = 0) → ((0 : Int) ≤ x2.toInt ∧ x2.toInt ≤ (56 : Int)) → ((0 : Int) ≤ x3.toInt ∧ x3.toInt ≤ (1 : Int)) → ((0 : Int) ≤ x4.toInt ∧ x4.toInt ≤ (15 : Int)) → (16 - x4.toInt) < (n : Int) → Ok (f_X5_readRank_5  n x0 x1 x2 x3 x4 S) (fun o => ZT o.2 ∧ A7 SZ o.2 ∧ ((0 : Int) ≤ o.1.toInt ∧ o.1.toInt ≤ (1 : Int))) := by
  intro n
  induction n with
  | zero => intro x0 x1 x2 x3 x4 S hT hR g0 g1 g2 g3 g4  hm; exfalso; omega
  | succ n ih =>
    intro x0 x1 x2 x3 x4 S hT hR g0 g1 g2 g3 g4  hm
    exact t_f_X5_readRank_5s (N5 := n)  ih hT hR g0 g1 g2 g3 g4  (by omega)
theorem t_f_X5_readRank_0 {SZ S : ZS} {x0 : Nat} {x1 : Nat} {x2 : Int32} (hT : ZT S) (hR : A7 SZ S) (r_x0 : zK S x0 = 5) (r_x1 : zK S x1 = 0) (r_x2 : (0 : Int) ≤ x2.toInt ∧ x2.toInt ≤ (56 : Int)) : Ok (f_X5_readRank_0 x0 x1 x2 S) (fun o => ZT o.2 ∧ A7 SZ o.2 ∧ ((0 : Int) ≤ o.1.toInt ∧ o.1.toInt ≤ (1 : Int))) := by
  unfold f_X5_readRank_0
  have j27 := J_5_1 hT r_x0
  exact t_f_X5_readRank_5   mFuel x0 x1 x2 (0 : Int32) (0 : Int32) S hT hR r_x0 r_x1 r_x2 (by decide) (by decide) (by show _ < ((200000 : Nat) : Int); have z0 : (0 : Int32).toInt = 0 := rfl; have z1 : (0 : Int32).toInt = 0 := rfl; omega)
theorem t_f_X5_readRank {SZ S : ZS} {x0 : Nat} {x1 : Nat} {x2 : Int32} (hT : ZT S) (hR : A7 SZ S) (r_x0 : zK S x0 = 5) (r_x1 : zK S x1 = 0) (r_x2 : (0 : Int) ≤ x2.toInt ∧ x2.toInt ≤ (56 : Int)) : Ok (f_X5_readRank x0 x1 x2 S) (fun o => ZT o.2 ∧ A7 SZ o.2 ∧ ((0 : Int) ≤ o.1.toInt ∧ o.1.toInt ≤ (1 : Int))) := t_f_X5_readRank_0 hT hR r_x0 r_x1 r_x2
theorem t_f_X5_readMen_22 {SZ S : ZS} {self3 : Nat → Nat → Int32 → ZS → Option (Int32 × ZS)} {N3 : Nat} (hself3 : ∀ (x0 : Nat) (x1 : Nat) (x2 : Int32) (S : ZS), ZT S → A7 SZ S → (zK S x0 = 5) → (zK S x1 = 0) → ((-1 : Int) ≤ x2.toInt ∧ x2.toInt ≤ (7 : Int)) → (x2.toInt + 2) < (N3 : Int) → Ok (self3 x0 x1 x2 S) (fun o => ZT o.2 ∧ A7 SZ o.2 ∧ ((0 : Int) ≤ o.1.toInt ∧ o.1.toInt ≤ (1 : Int)))) {x0 : Nat} {x1 : Nat} {x2 : Int32} (hT : ZT S) (hR : A7 SZ S) (r_x0 : zK S x0 = 5) (r_x1 : zK S x1 = 0) (r_x2 : (0 : Int) ≤ x2.toInt ∧ x2.toInt ≤ (7 : Int)) (m3 : (x2.toInt + 2) ≤ (N3 : Int)) : Ok (f_X5_readMen_22 self3 x0 x1 x2 S) (fun o => ZT o.2 ∧ A7 SZ o.2 ∧ ((0 : Int) ≤ o.1.toInt ∧ o.1.toInt ≤ (1 : Int))) := by
  unfold f_X5_readMen_22
  refine ok_bnd (fun v1 e28 => ?_)
  have t_v1 : v1.toInt = 8 * x2.toInt := ti_mul e28 (show (8 : Int32).toInt = 8 from rfl) rfl (by omega) (by omega)
  refine ok_chk r_x0 ?_
  obtain ⟨⟨r2, S2⟩, h_r2, T_S2, A_S2, p_r2⟩ := t_f_X5_readRank (x0 := x0) (x1 := x1) (x2 := v1) (SZ := S) hT (a7_0 S) r_x0 r_x1 (by omega)
  replace T_S2 : ZT S2 := T_S2
  replace A_S2 : A7 S S2 := A_S2
  dsimp only at p_r2
  refine ok_calR h_r2 ?_
  have q_S2 := fq_X5_readRank h_r2
  have kE_S2 : zK S2 = zK S := q_S2.2.2.1
  have nE_S2 : zN S2 = zN S := q_S2.2.2.2.1
  have R_S2 : A7 SZ S2 := a7_t hR A_S2
  refine ok_if (fun c29 => ?_) (fun c29 => ?_)
  ·
    replace c29 := ti_eqP (a := r2) (b := (0 : Int32)) c29 rfl (show (0 : Int32).toInt = 0 from rfl)
    unfold f_X5_readMen_34
    refine ok_chk (by decide) ?_
    exact ok_ret ⟨T_S2, R_S2, (show (0 : Int) ≤ (0 : Int32).toInt ∧ (0 : Int32).toInt ≤ (1 : Int) from (by decide))⟩
  ·
    replace c29 := ti_eqN (a := r2) (b := (0 : Int32)) c29 rfl (show (0 : Int32).toInt = 0 from rfl)
    refine ok_bnd (fun v3 e30 => ?_)
    have t_v3 : v3.toInt = x2.toInt + (-1) := ti_add e30 rfl (show (-1 : Int32).toInt = -1 from rfl) (by omega) (by omega)
    exact hself3 x0 x1 v3 S2 T_S2 R_S2 ((congrFun kE_S2 x0).trans r_x0) ((congrFun kE_S2 x1).trans r_x1) (by omega) (by omega)
theorem t_f_X5_readMen_3s {SZ S : ZS} {self3 : Nat → Nat → Int32 → ZS → Option (Int32 × ZS)} {N3 : Nat} (hself3 : ∀ (x0 : Nat) (x1 : Nat) (x2 : Int32) (S : ZS), ZT S → A7 SZ S → (zK S x0 = 5) → (zK S x1 = 0) → ((-1 : Int) ≤ x2.toInt ∧ x2.toInt ≤ (7 : Int)) → (x2.toInt + 2) < (N3 : Int) → Ok (self3 x0 x1 x2 S) (fun o => ZT o.2 ∧ A7 SZ o.2 ∧ ((0 : Int) ≤ o.1.toInt ∧ o.1.toInt ≤ (1 : Int)))) {x0 : Nat} {x1 : Nat} {x2 : Int32} (hT : ZT S) (hR : A7 SZ S) (r_x0 : zK S x0 = 5) (r_x1 : zK S x1 = 0) (r_x2 : (-1 : Int) ≤ x2.toInt ∧ x2.toInt ≤ (7 : Int)) (m3 : (x2.toInt + 2) ≤ (N3 : Int)) : Ok (f_X5_readMen_3s self3 x0 x1 x2 S) (fun o => ZT o.2 ∧ A7 SZ o.2 ∧ ((0 : Int) ≤ o.1.toInt ∧ o.1.toInt ≤ (1 : Int))) := by
  unfold f_X5_readMen_3s
  refine ok_if (fun c31 => ?_) (fun c31 => ?_)
  ·
    replace c31 := ti_ltP (a := x2) (b := (0 : Int32)) c31 rfl (show (0 : Int32).toInt = 0 from rfl)
    refine ok_chk (by decide) ?_
    exact ok_ret ⟨hT, hR, (show (0 : Int) ≤ (1 : Int32).toInt ∧ (1 : Int32).toInt ≤ (1 : Int) from (by decide))⟩
  ·
    replace c31 := ti_ltN (a := x2) (b := (0 : Int32)) c31 rfl (show (0 : Int32).toInt = 0 from rfl)
    refine ok_if (fun c32 => ?_) (fun c32 => ?_)
    ·
      replace c32 := ti_leP (a := (7 : Int32)) (b := x2) c32 (show (7 : Int32).toInt = 7 from rfl) rfl
      exact t_f_X5_readMen_22 (S := S) hself3 (x0 := x0) (x1 := x1) (x2 := x2) hT hR r_x0 r_x1 (by omega) m3
    ·
      replace c32 := ti_leN (a := (7 : Int32)) (b := x2) c32 (show (7 : Int32).toInt = 7 from rfl) rfl
      refine ok_chk r_x0 ?_
      have zl33 : (47 : Int32).toInt = 47 := rfl
      have j34 := J_5_1 hT r_x0
      obtain ⟨⟨r1, S1⟩, h_r1, T_S1, A_S1, p_r1, p_r1_0, p_r1_1⟩ := t_f_X5_skip (x0 := x0) (x1 := (47 : Int32)) (SZ := S) hT (a7_0 S) r_x0 (by have z0 : (47 : Int32).toInt = 47 := rfl; omega)
      replace T_S1 : ZT S1 := T_S1
      replace A_S1 : A7 S S1 := A_S1
      dsimp only at p_r1 p_r1_0 p_r1_1
      refine ok_calR h_r1 ?_
      have q_S1 := fq_X5_skip h_r1
      have kE_S1 : zK S1 = zK S := q_S1.2.2.1
      have nE_S1 : zN S1 = zN S := q_S1.2.2.2.1
      have R_S1 : A7 SZ S1 := a7_t hR A_S1
      refine ok_if (fun c35 => ?_) (fun c35 => ?_)
      ·
        replace c35 := ti_eqP (a := r1) (b := (0 : Int32)) c35 rfl (show (0 : Int32).toInt = 0 from rfl)
        unfold f_X5_readMen_34
        refine ok_chk (by decide) ?_
        exact ok_ret ⟨T_S1, R_S1, (show (0 : Int) ≤ (0 : Int32).toInt ∧ (0 : Int32).toInt ≤ (1 : Int) from (by decide))⟩
      ·
        replace c35 := ti_eqN (a := r1) (b := (0 : Int32)) c35 rfl (show (0 : Int32).toInt = 0 from rfl)
        exact t_f_X5_readMen_22 (S := S1) hself3 (x0 := x0) (x1 := x1) (x2 := x2) T_S1 R_S1 ((congrFun kE_S1 x0).trans r_x0) ((congrFun kE_S1 x1).trans r_x1) (by omega) m3
theorem t_f_X5_readMen_3 {SZ : ZS} : ∀ (n : Nat) (x0 : Nat) (x1 : Nat) (x2 : Int32) (S : ZS), ZT S → A7 SZ S → (zK S x0 = 5) → (zK S x1 = 0) → ((-1 : Int) ≤ x2.toInt ∧ x2.toInt ≤ (7 : Int)) → (x2.toInt + 2) < (n : Int) → Ok (f_X5_readMen_3  n x0 x1 x2 S) (fun o => ZT o.2 ∧ A7 SZ o.2 ∧ ((0 : Int) ≤ o.1.toInt ∧ o.1.toInt ≤ (1 : Int))) := by
  intro n
  induction n with
  | zero => intro x0 x1 x2 S hT hR g0 g1 g2  hm; exfalso; omega
  | succ n ih =>
    intro x0 x1 x2 S hT hR g0 g1 g2  hm
    exact t_f_X5_readMen_3s (N3 := n)  ih hT hR g0 g1 g2  (by omega)
theorem t_f_X5_readMen_0 {SZ S : ZS} {x0 : Nat} {x1 : Nat} (hT : ZT S) (hR : A7 SZ S) (r_x0 : zK S x0 = 5) (r_x1 : zK S x1 = 0) : Ok (f_X5_readMen_0 x0 x1 S) (fun o => ZT o.2 ∧ A7 SZ o.2 ∧ ((0 : Int) ≤ o.1.toInt ∧ o.1.toInt ≤ (1 : Int))) := by
  unfold f_X5_readMen_0
  exact t_f_X5_readMen_3   mFuel x0 x1 (7 : Int32) S hT hR r_x0 r_x1 (by decide) (by show _ < ((200000 : Nat) : Int); have z0 : (7 : Int32).toInt = 7 := rfl; omega)
theorem t_f_X5_readMen {SZ S : ZS} {x0 : Nat} {x1 : Nat} (hT : ZT S) (hR : A7 SZ S) (r_x0 : zK S x0 = 5) (r_x1 : zK S x1 = 0) : Ok (f_X5_readMen x0 x1 S) (fun o => ZT o.2 ∧ A7 SZ o.2 ∧ ((0 : Int) ≤ o.1.toInt ∧ o.1.toInt ≤ (1 : Int))) := t_f_X5_readMen_0 hT hR r_x0 r_x1
theorem t_f_X5_readSide_22 {SZ S : ZS} {x0 : Nat} {t0 : Int32} {t1 : Nat} (hT : ZT S) (hR : A7 SZ S) (r_x0 : zK S x0 = 5) (r_t0 : (0 : Int) ≤ t0.toInt ∧ t0.toInt ≤ (1 : Int)) (r_t1 : zK S t1 = 0) : Ok (f_X5_readSide_22 x0 t0 t1 S) (fun o => ZT o.2 ∧ A7 SZ o.2 ∧ ((0 : Int) ≤ o.1.toInt ∧ o.1.toInt ≤ (1 : Int))) := by
  unfold f_X5_readSide_22
  refine ok_chk r_t1 ?_
  refine ok_bnd (fun S1 e36 => ?_)
  have T_S1 : ZT S1 := e36.symm ▸ zt_I hT r_t1 (by decide) (show (0 : Int) ≤ t0.toInt ∧ t0.toInt ≤ (1 : Int) from (by omega))
  have kE_S1 : zK S1 = zK S := by rw [e36]; rfl
  have nE_S1 : zN S1 = zN S := by rw [e36]; rfl
  have R_S1 : A7 SZ S1 := a7_I hR e36 r_t1 (by decide)
  refine ok_chk ((congrFun kE_S1 x0).trans r_x0) ?_
  have zl37 : (119 : Int32).toInt = 119 := rfl
  have j38 := J_5_1 T_S1 ((congrFun kE_S1 x0).trans r_x0)
  obtain ⟨⟨r2, S2⟩, h_r2, T_S2, A_S2, p_r2, p_r2_0, p_r2_1⟩ := t_f_X5_skip (x0 := x0) (x1 := (119 : Int32)) (SZ := S1) T_S1 (a7_0 S1) ((congrFun kE_S1 x0).trans r_x0) (by have z0 : (119 : Int32).toInt = 119 := rfl; omega)
  replace T_S2 : ZT S2 := T_S2
  replace A_S2 : A7 S1 S2 := A_S2
  dsimp only at p_r2 p_r2_0 p_r2_1
  refine ok_calR h_r2 ?_
  have q_S2 := fq_X5_skip h_r2
  have kE_S2 : zK S2 = zK S1 := q_S2.2.2.1
  have nE_S2 : zN S2 = zN S1 := q_S2.2.2.2.1
  have R_S2 : A7 SZ S2 := a7_t R_S1 A_S2
  refine ok_if (fun c39 => ?_) (fun c39 => ?_)
  ·
    replace c39 := ti_eqP (a := r2) (b := (0 : Int32)) c39 rfl (show (0 : Int32).toInt = 0 from rfl)
    refine ok_chk ((congrFun kE_S2 x0).trans ((congrFun kE_S1 x0).trans r_x0)) ?_
    have zl40 : (98 : Int32).toInt = 98 := rfl
    have j41 := J_5_1 T_S2 ((congrFun kE_S2 x0).trans ((congrFun kE_S1 x0).trans r_x0))
    obtain ⟨⟨r3, S3⟩, h_r3, T_S3, A_S3, p_r3, p_r3_0, p_r3_1⟩ := t_f_X5_skip (x0 := x0) (x1 := (98 : Int32)) (SZ := S2) T_S2 (a7_0 S2) ((congrFun kE_S2 x0).trans ((congrFun kE_S1 x0).trans r_x0)) (by have z0 : (98 : Int32).toInt = 98 := rfl; omega)
    replace T_S3 : ZT S3 := T_S3
    replace A_S3 : A7 S2 S3 := A_S3
    dsimp only at p_r3 p_r3_0 p_r3_1
    refine ok_calR h_r3 ?_
    have q_S3 := fq_X5_skip h_r3
    have kE_S3 : zK S3 = zK S2 := q_S3.2.2.1
    have nE_S3 : zN S3 = zN S2 := q_S3.2.2.2.1
    have R_S3 : A7 SZ S3 := a7_t R_S2 A_S3
    refine ok_if (fun c42 => ?_) (fun c42 => ?_)
    ·
      replace c42 := ti_eqP (a := r3) (b := (0 : Int32)) c42 rfl (show (0 : Int32).toInt = 0 from rfl)
      unfold f_X5_readSide_48
      refine ok_chk (by decide) ?_
      exact ok_ret ⟨T_S3, R_S3, (show (0 : Int) ≤ (0 : Int32).toInt ∧ (0 : Int32).toInt ≤ (1 : Int) from (by decide))⟩
    ·
      replace c42 := ti_eqN (a := r3) (b := (0 : Int32)) c42 rfl (show (0 : Int32).toInt = 0 from rfl)
      unfold f_X5_readSide_43
      unfold f_X5_readSide_48
      refine ok_chk (by decide) ?_
      exact ok_ret ⟨T_S3, R_S3, (show (0 : Int) ≤ (1 : Int32).toInt ∧ (1 : Int32).toInt ≤ (1 : Int) from (by decide))⟩
  ·
    replace c39 := ti_eqN (a := r2) (b := (0 : Int32)) c39 rfl (show (0 : Int32).toInt = 0 from rfl)
    unfold f_X5_readSide_43
    unfold f_X5_readSide_48
    refine ok_chk (by decide) ?_
    exact ok_ret ⟨T_S2, R_S2, (show (0 : Int) ≤ (1 : Int32).toInt ∧ (1 : Int32).toInt ≤ (1 : Int) from (by decide))⟩
theorem t_f_X5_readSide_0 {SZ S : ZS} {x0 : Nat} {x1 : Nat} (hT : ZT S) (hR : A7 SZ S) (r_x0 : zK S x0 = 5) (r_x1 : zK S x1 = 0) : Ok (f_X5_readSide_0 x0 x1 S) (fun o => ZT o.2 ∧ A7 SZ o.2 ∧ ((0 : Int) ≤ o.1.toInt ∧ o.1.toInt ≤ (1 : Int))) := by
  unfold f_X5_readSide_0
  refine ok_chk r_x0 ?_
  obtain ⟨b1, p_b1, k_b1, c_b1⟩ := T_5_0 hT r_x0
  refine ok_calR p_b1 ?_
  refine ok_chk r_x0 ?_
  refine ok_chk k_b1 ?_
  have j43 := J61_2 hT k_b1 c_b1
  obtain ⟨r2, h_r2, p_r2⟩ := roz (t_f_X6_at (x0 := b1) (x1 := (zI S 1 x0)) hT k_b1)
  dsimp only at p_r2
  refine ok_calR h_r2 ?_
  refine ok_if (fun c44 => ?_) (fun c44 => ?_)
  ·
    replace c44 := ti_eqP (a := r2) (b := (98 : Int32)) c44 rfl (show (98 : Int32).toInt = 98 from rfl)
    exact t_f_X5_readSide_22 (S := S)  (x0 := x0) (t0 := (1 : Int32)) (t1 := x1) hT hR r_x0 (by decide) r_x1
  ·
    replace c44 := ti_eqN (a := r2) (b := (98 : Int32)) c44 rfl (show (98 : Int32).toInt = 98 from rfl)
    exact t_f_X5_readSide_22 (S := S)  (x0 := x0) (t0 := (0 : Int32)) (t1 := x1) hT hR r_x0 (by decide) r_x1
theorem t_f_X5_readSide {SZ S : ZS} {x0 : Nat} {x1 : Nat} (hT : ZT S) (hR : A7 SZ S) (r_x0 : zK S x0 = 5) (r_x1 : zK S x1 = 0) : Ok (f_X5_readSide x0 x1 S) (fun o => ZT o.2 ∧ A7 SZ o.2 ∧ ((0 : Int) ≤ o.1.toInt ∧ o.1.toInt ≤ (1 : Int))) := t_f_X5_readSide_0 hT hR r_x0 r_x1
theorem t_f_X5_readRights_13s {SZ S : ZS} {self13 : Nat → Nat → Int32 → ZS → Option (Int32 × ZS)} {N13 : Nat} (hself13 : ∀ (x0 : Nat) (x1 : Nat) (x2 : Int32) (S : ZS), ZT S → A7 SZ S → (zK S x0 = 5) → (zK S x1 = 0) → ((0 : Int) ≤ x2.toInt ∧ x2.toInt ≤ (4 : Int)) → ((zI S 1 x0).toInt ≤ 90001 + x2.toInt) → (5 - x2.toInt) < (N13 : Int) → Ok (self13 x0 x1 x2 S) (fun o => ZT o.2 ∧ A7 SZ o.2 ∧ ((0 : Int) ≤ o.1.toInt ∧ o.1.toInt ≤ (1 : Int)))) {x0 : Nat} {x1 : Nat} {x2 : Int32} (hT : ZT S) (hR : A7 SZ S) (r_x0 : zK S x0 = 5) (r_x1 : zK S x1 = 0) (r_x2 : (0 : Int) ≤ x2.toInt ∧ x2.toInt ≤ (4 : Int)) (q0 : (zI S 1 x0).toInt ≤ 90001 + x2.toInt) (m13 : (5 - x2.toInt) ≤ (N13 : Int)) : Ok (f_X5_readRights_13s self13 x0 x1 x2 S) (fun o => ZT o.2 ∧ A7 SZ o.2 ∧ ((0 : Int) ≤ o.1.toInt ∧ o.1.toInt ≤ (1 : Int))) := by
  unfold f_X5_readRights_13s
  have j45 := J_5_1 hT r_x0
  refine ok_chk (by decide) ?_
  obtain ⟨r1, h_r1, p_r1⟩ := roz (t_f_J0_length_8abf5 (x0 := 2) hT (by decide))
  dsimp only at p_r1
  refine ok_calR h_r1 ?_
  have z4 : zSl.getD 2 0 = 4 := rfl
  refine ok_if (fun c46 => ?_) (fun c46 => ?_)
  ·
    replace c46 := ti_leP (a := r1) (b := x2) c46 rfl rfl
    refine ok_chk r_x1 ?_
    refine ok_if (fun c47 => ?_) (fun c47 => ?_)
    ·
      replace c47 := ti_eqP (a := (zI S 4 x1)) (b := (0 : Int32)) c47 rfl (show (0 : Int32).toInt = 0 from rfl)
      unfold f_X5_readRights_65
      refine ok_chk (by decide) ?_
      exact ok_ret ⟨hT, hR, (show (0 : Int) ≤ (0 : Int32).toInt ∧ (0 : Int32).toInt ≤ (1 : Int) from (by decide))⟩
    ·
      replace c47 := ti_eqN (a := (zI S 4 x1)) (b := (0 : Int32)) c47 rfl (show (0 : Int32).toInt = 0 from rfl)
      unfold f_X5_readRights_65
      refine ok_chk (by decide) ?_
      exact ok_ret ⟨hT, hR, (show (0 : Int) ≤ (1 : Int32).toInt ∧ (1 : Int32).toInt ≤ (1 : Int) from (by decide))⟩
  ·
    replace c46 := ti_leN (a := r1) (b := x2) c46 rfl rfl
    refine ok_chk (by decide) ?_
    obtain ⟨r2, h_r2, p_r2⟩ := roz (t_f_J0_charAt_5068e (x0 := 2) (x1 := x2) hT (by decide) (by omega))
    dsimp only at p_r2
    refine ok_calR h_r2 ?_
    refine ok_chk r_x0 ?_
    obtain ⟨⟨r3, S3⟩, h_r3, T_S3, A_S3, p_r3, p_r3_0, p_r3_1⟩ := t_f_X5_skip (x0 := x0) (x1 := r2) (SZ := S) hT (a7_0 S) r_x0 (by omega)
    replace T_S3 : ZT S3 := T_S3
    replace A_S3 : A7 S S3 := A_S3
    dsimp only at p_r3 p_r3_0 p_r3_1
    refine ok_calR h_r3 ?_
    have q_S3 := fq_X5_skip h_r3
    have kE_S3 : zK S3 = zK S := q_S3.2.2.1
    have nE_S3 : zN S3 = zN S := q_S3.2.2.2.1
    have R_S3 : A7 SZ S3 := a7_t hR A_S3
    refine ok_if (fun c48 => ?_) (fun c48 => ?_)
    ·
      replace c48 := ti_eqP (a := r3) (b := (0 : Int32)) c48 rfl (show (0 : Int32).toInt = 0 from rfl)
      unfold f_X5_readRights_47
      refine ok_bnd (fun v1 e49 => ?_)
      have t_v1 : v1.toInt = x2.toInt + 1 := ti_add e49 rfl (show (1 : Int32).toInt = 1 from rfl) (by omega) (by omega)
      have j50 := J_5_1 T_S3 ((congrFun kE_S3 x0).trans r_x0)
      exact hself13 x0 x1 v1 S3 T_S3 R_S3 ((congrFun kE_S3 x0).trans r_x0) ((congrFun kE_S3 x1).trans r_x1) (by omega) (by omega) (by omega)
    ·
      replace c48 := ti_eqN (a := r3) (b := (0 : Int32)) c48 rfl (show (0 : Int32).toInt = 0 from rfl)
      refine ok_chk ((congrFun kE_S3 x1).trans r_x1) ?_
      refine ok_bnd (fun v4 e51 => ?_)
      refine ok_bnd (fun v5 e52 => ?_)
      refine ok_chk ((congrFun kE_S3 x1).trans r_x1) ?_
      refine ok_bnd (fun S6 e53 => ?_)
      have T_S6 : ZT S6 := e53.symm ▸ zt_W T_S3 ((congrFun kE_S3 x1).trans r_x1) (by decide) rfl
      have kE_S6 : zK S6 = zK S3 := by rw [e53]; rfl
      have nE_S6 : zN S6 = zN S3 := by rw [e53]; rfl
      have R_S6 : A7 SZ S6 := a7_I R_S3 e53 ((congrFun kE_S3 x1).trans r_x1) (by decide)
      have : (zI S6 1 x0).toInt = (zI S3 1 x0).toInt := by rw [e53]; rfl
      unfold f_X5_readRights_47
      refine ok_bnd (fun v1 e54 => ?_)
      have t_v1 : v1.toInt = x2.toInt + 1 := ti_add e54 rfl (show (1 : Int32).toInt = 1 from rfl) (by omega) (by omega)
      have j55 := J_5_1 T_S6 ((congrFun kE_S6 x0).trans ((congrFun kE_S3 x0).trans r_x0))
      exact hself13 x0 x1 v1 S6 T_S6 R_S6 ((congrFun kE_S6 x0).trans ((congrFun kE_S3 x0).trans r_x0)) ((congrFun kE_S6 x1).trans ((congrFun kE_S3 x1).trans r_x1)) (by omega) (by omega) (by omega)
theorem t_f_X5_readRights_13 {SZ : ZS} : ∀ (n : Nat) (x0 : Nat) (x1 : Nat) (x2 : Int32) (S : ZS), ZT S → A7 SZ S → (zK S x0 = 5) → (zK S x1 = 0) → ((0 : Int) ≤ x2.toInt ∧ x2.toInt ≤ (4 : Int)) → ((zI S 1 x0).toInt ≤ 90001 + x2.toInt) → (5 - x2.toInt) < (n : Int) → Ok (f_X5_readRights_13  n x0 x1 x2 S) (fun o => ZT o.2 ∧ A7 SZ o.2 ∧ ((0 : Int) ≤ o.1.toInt ∧ o.1.toInt ≤ (1 : Int))) := by
  intro n
  induction n with
  | zero => intro x0 x1 x2 S hT hR g0 g1 g2 g3  hm; exfalso; omega
  | succ n ih =>
    intro x0 x1 x2 S hT hR g0 g1 g2 g3  hm
    exact t_f_X5_readRights_13s (N13 := n)  ih hT hR g0 g1 g2 g3  (by omega)
theorem t_f_X5_readRights_0 {SZ S : ZS} {x0 : Nat} {x1 : Nat} (hT : ZT S) (hR : A7 SZ S) (r_x0 : zK S x0 = 5) (r_x1 : zK S x1 = 0) (q0 : (zI S 1 x0).toInt ≤ 90000) : Ok (f_X5_readRights_0 x0 x1 S) (fun o => ZT o.2 ∧ A7 SZ o.2 ∧ ((0 : Int) ≤ o.1.toInt ∧ o.1.toInt ≤ (1 : Int))) := by
  unfold f_X5_readRights_0
  have j56 := J_5_1 hT r_x0
  refine ok_chk r_x0 ?_
  have zl57 : (45 : Int32).toInt = 45 := rfl
  obtain ⟨⟨r1, S1⟩, h_r1, T_S1, A_S1, p_r1, p_r1_0, p_r1_1⟩ := t_f_X5_skip (x0 := x0) (x1 := (45 : Int32)) (SZ := S) hT (a7_0 S) r_x0 (by have z0 : (45 : Int32).toInt = 45 := rfl; omega)
  replace T_S1 : ZT S1 := T_S1
  replace A_S1 : A7 S S1 := A_S1
  dsimp only at p_r1 p_r1_0 p_r1_1
  refine ok_calR h_r1 ?_
  have q_S1 := fq_X5_skip h_r1
  have kE_S1 : zK S1 = zK S := q_S1.2.2.1
  have nE_S1 : zN S1 = zN S := q_S1.2.2.2.1
  have R_S1 : A7 SZ S1 := a7_t hR A_S1
  refine ok_if (fun c58 => ?_) (fun c58 => ?_)
  ·
    replace c58 := ti_eqP (a := r1) (b := (0 : Int32)) c58 rfl (show (0 : Int32).toInt = 0 from rfl)
    have j59 := J_5_1 T_S1 ((congrFun kE_S1 x0).trans r_x0)
    exact t_f_X5_readRights_13   mFuel x0 x1 (0 : Int32) S1 T_S1 R_S1 ((congrFun kE_S1 x0).trans r_x0) ((congrFun kE_S1 x1).trans r_x1) (by decide) (by have z0 : (0 : Int32).toInt = 0 := rfl; omega) (by show _ < ((200000 : Nat) : Int); have z0 : (0 : Int32).toInt = 0 := rfl; omega)
  ·
    replace c58 := ti_eqN (a := r1) (b := (0 : Int32)) c58 rfl (show (0 : Int32).toInt = 0 from rfl)
    refine ok_chk (by decide) ?_
    exact ok_ret ⟨T_S1, R_S1, (show (0 : Int) ≤ (1 : Int32).toInt ∧ (1 : Int32).toInt ≤ (1 : Int) from (by decide))⟩
theorem t_f_X5_readRights {SZ S : ZS} {x0 : Nat} {x1 : Nat} (hT : ZT S) (hR : A7 SZ S) (r_x0 : zK S x0 = 5) (r_x1 : zK S x1 = 0) (q0 : (zI S 1 x0).toInt ≤ 90000) : Ok (f_X5_readRights x0 x1 S) (fun o => ZT o.2 ∧ A7 SZ o.2 ∧ ((0 : Int) ≤ o.1.toInt ∧ o.1.toInt ≤ (1 : Int))) := t_f_X5_readRights_0 hT hR r_x0 r_x1 q0
theorem t_f_X5_readPassed_0 {SZ S : ZS} {x0 : Nat} {x1 : Nat} (hT : ZT S) (hR : A7 SZ S) (r_x0 : zK S x0 = 5) (r_x1 : zK S x1 = 0) (q0 : (zI S 1 x0).toInt ≤ 90000) : Ok (f_X5_readPassed_0 x0 x1 S) (fun o => ZT o.2 ∧ A7 SZ o.2 ∧ ((0 : Int) ≤ o.1.toInt ∧ o.1.toInt ≤ (1 : Int))) := by
  unfold f_X5_readPassed_0
  have j60 := J_5_1 hT r_x0
  refine ok_chk r_x0 ?_
  have zl61 : (45 : Int32).toInt = 45 := rfl
  obtain ⟨⟨r1, S1⟩, h_r1, T_S1, A_S1, p_r1, p_r1_0, p_r1_1⟩ := t_f_X5_skip (x0 := x0) (x1 := (45 : Int32)) (SZ := S) hT (a7_0 S) r_x0 (by have z0 : (45 : Int32).toInt = 45 := rfl; omega)
  replace T_S1 : ZT S1 := T_S1
  replace A_S1 : A7 S S1 := A_S1
  dsimp only at p_r1 p_r1_0 p_r1_1
  refine ok_calR h_r1 ?_
  have q_S1 := fq_X5_skip h_r1
  have kE_S1 : zK S1 = zK S := q_S1.2.2.1
  have nE_S1 : zN S1 = zN S := q_S1.2.2.2.1
  have R_S1 : A7 SZ S1 := a7_t hR A_S1
  refine ok_if (fun c62 => ?_) (fun c62 => ?_)
  ·
    replace c62 := ti_eqP (a := r1) (b := (0 : Int32)) c62 rfl (show (0 : Int32).toInt = 0 from rfl)
    refine ok_chk ((congrFun kE_S1 x0).trans r_x0) ?_
    obtain ⟨b2, p_b2, k_b2, c_b2⟩ := T_5_0 T_S1 ((congrFun kE_S1 x0).trans r_x0)
    refine ok_calR p_b2 ?_
    refine ok_chk ((congrFun kE_S1 x0).trans r_x0) ?_
    refine ok_chk k_b2 ?_
    have j63 := J61_2 T_S1 k_b2 c_b2
    obtain ⟨r3, h_r3, p_r3⟩ := roz (t_f_X6_at (x0 := b2) (x1 := (zI S1 1 x0)) T_S1 k_b2)
    dsimp only at p_r3
    refine ok_calR h_r3 ?_
    refine ok_chk ((congrFun kE_S1 x0).trans r_x0) ?_
    obtain ⟨b4, p_b4, k_b4, c_b4⟩ := T_5_0 T_S1 ((congrFun kE_S1 x0).trans r_x0)
    refine ok_calR p_b4 ?_
    refine ok_chk ((congrFun kE_S1 x0).trans r_x0) ?_
    refine ok_bnd (fun v5 e64 => ?_)
    have j65 := J_5_1 T_S1 ((congrFun kE_S1 x0).trans r_x0)
    have t_v5 : v5.toInt = (zI S1 1 x0).toInt + 1 := ti_add e64 rfl (show (1 : Int32).toInt = 1 from rfl) (by omega) (by omega)
    refine ok_chk k_b4 ?_
    have j66 := J61_2 T_S1 k_b4 c_b4
    obtain ⟨r6, h_r6, p_r6⟩ := roz (t_f_X6_at (x0 := b4) (x1 := v5) T_S1 k_b4)
    dsimp only at p_r6
    refine ok_calR h_r6 ?_
    obtain ⟨r7, h_r7, p_r7⟩ := roz (t_f_X11_squareOf (x0 := r3) (x1 := r6) T_S1 )
    dsimp only at p_r7
    refine ok_calR h_r7 ?_
    refine ok_chk ((congrFun kE_S1 x1).trans r_x1) ?_
    refine ok_bnd (fun S8 e67 => ?_)
    have T_S8 : ZT S8 := e67.symm ▸ zt_I T_S1 ((congrFun kE_S1 x1).trans r_x1) (by decide) (show (-1 : Int) ≤ r7.toInt ∧ r7.toInt ≤ (63 : Int) from (by omega))
    have kE_S8 : zK S8 = zK S1 := by rw [e67]; rfl
    have nE_S8 : zN S8 = zN S1 := by rw [e67]; rfl
    have R_S8 : A7 SZ S8 := a7_I R_S1 e67 ((congrFun kE_S1 x1).trans r_x1) (by decide)
    have : (zI S8 1 x0).toInt = (zI S1 1 x0).toInt := by rw [e67]; rfl
    refine ok_chk ((congrFun kE_S8 x0).trans ((congrFun kE_S1 x0).trans r_x0)) ?_
    refine ok_bnd (fun v9 e68 => ?_)
    have j69 := J_5_1 T_S8 ((congrFun kE_S8 x0).trans ((congrFun kE_S1 x0).trans r_x0))
    have t_v9 : v9.toInt = (zI S8 1 x0).toInt + 2 := ti_add e68 rfl (show (2 : Int32).toInt = 2 from rfl) (by omega) (by omega)
    refine ok_chk ((congrFun kE_S8 x0).trans ((congrFun kE_S1 x0).trans r_x0)) ?_
    refine ok_bnd (fun S10 e70 => ?_)
    have T_S10 : ZT S10 := e70.symm ▸ zt_I T_S8 ((congrFun kE_S8 x0).trans ((congrFun kE_S1 x0).trans r_x0)) (by decide) (show (0 : Int) ≤ v9.toInt ∧ v9.toInt ≤ (90100 : Int) from (by omega))
    have kE_S10 : zK S10 = zK S8 := by rw [e70]; rfl
    have nE_S10 : zN S10 = zN S8 := by rw [e70]; rfl
    have R_S10 : A7 SZ S10 := a7_I R_S8 e70 ((congrFun kE_S8 x0).trans ((congrFun kE_S1 x0).trans r_x0)) (by decide)
    have : (zI S10 1 x0).toInt = v9.toInt := by rw [e70]; exact (congrArg Int32.toInt (zI_self _ _ _ _)).trans rfl
    refine ok_chk ((congrFun kE_S10 x1).trans ((congrFun kE_S8 x1).trans ((congrFun kE_S1 x1).trans r_x1))) ?_
    have j71 := J_0_5 T_S10 ((congrFun kE_S10 x1).trans ((congrFun kE_S8 x1).trans ((congrFun kE_S1 x1).trans r_x1)))
    refine ok_if (fun c72 => ?_) (fun c72 => ?_)
    ·
      replace c72 := ti_eqP (a := (zI S10 5 x1)) (b := (-1 : Int32)) c72 rfl (show (-1 : Int32).toInt = -1 from rfl)
      unfold f_X5_readPassed_65
      refine ok_chk (by decide) ?_
      exact ok_ret ⟨T_S10, R_S10, (show (0 : Int) ≤ (0 : Int32).toInt ∧ (0 : Int32).toInt ≤ (1 : Int) from (by decide))⟩
    ·
      replace c72 := ti_eqN (a := (zI S10 5 x1)) (b := (-1 : Int32)) c72 rfl (show (-1 : Int32).toInt = -1 from rfl)
      unfold f_X5_readPassed_65
      refine ok_chk (by decide) ?_
      exact ok_ret ⟨T_S10, R_S10, (show (0 : Int) ≤ (1 : Int32).toInt ∧ (1 : Int32).toInt ≤ (1 : Int) from (by decide))⟩
  ·
    replace c62 := ti_eqN (a := r1) (b := (0 : Int32)) c62 rfl (show (0 : Int32).toInt = 0 from rfl)
    refine ok_chk (by decide) ?_
    exact ok_ret ⟨T_S1, R_S1, (show (0 : Int) ≤ (1 : Int32).toInt ∧ (1 : Int32).toInt ≤ (1 : Int) from (by decide))⟩
theorem t_f_X5_readPassed {SZ S : ZS} {x0 : Nat} {x1 : Nat} (hT : ZT S) (hR : A7 SZ S) (r_x0 : zK S x0 = 5) (r_x1 : zK S x1 = 0) (q0 : (zI S 1 x0).toInt ≤ 90000) : Ok (f_X5_readPassed x0 x1 S) (fun o => ZT o.2 ∧ A7 SZ o.2 ∧ ((0 : Int) ≤ o.1.toInt ∧ o.1.toInt ≤ (1 : Int))) := t_f_X5_readPassed_0 hT hR r_x0 r_x1 q0
theorem t_f_X5_readNumber_95 {SZ S : ZS} {x0 : Nat} {x1 : Int32} {x2 : Int32} {t0 : Int32} (hT : ZT S) (hR : A7 SZ S) (r_x0 : zK S x0 = 5) (r_x1 : (0 : Int) ≤ x1.toInt ∧ x1.toInt ≤ (90100 : Int)) (r_t0 : (0 : Int) ≤ t0.toInt ∧ t0.toInt ≤ (1 : Int)) : Ok (f_X5_readNumber_95 x0 x1 x2 t0 S) (fun o => ZT o.2 ∧ A7 SZ o.2 ∧ True) := by
  unfold f_X5_readNumber_95
  have j73 := J_5_1 hT r_x0
  refine ok_chk r_x0 ?_
  refine ok_if (fun c74 => ?_) (fun c74 => ?_)
  ·
    replace c74 := ti_eqP (a := (zI S 1 x0)) (b := x1) c74 rfl rfl
    unfold f_X5_readNumber_108
    unfold f_X5_readNumber_113
    exact ok_ret ⟨hT, hR, trivial⟩
  ·
    replace c74 := ti_eqN (a := (zI S 1 x0)) (b := x1) c74 rfl rfl
    refine ok_if (fun c75 => ?_) (fun c75 => ?_)
    ·
      replace c75 := ti_eqP (a := t0) (b := (0 : Int32)) c75 rfl (show (0 : Int32).toInt = 0 from rfl)
      unfold f_X5_readNumber_113
      exact ok_ret ⟨hT, hR, trivial⟩
    ·
      replace c75 := ti_eqN (a := t0) (b := (0 : Int32)) c75 rfl (show (0 : Int32).toInt = 0 from rfl)
      unfold f_X5_readNumber_108
      unfold f_X5_readNumber_113
      exact ok_ret ⟨hT, hR, trivial⟩
theorem t_f_X5_readNumber_67 {SZ S : ZS} {x0 : Nat} {x1 : Int32} {x2 : Int32} (hT : ZT S) (hR : A7 SZ S) (r_x0 : zK S x0 = 5) (r_x1 : (0 : Int) ≤ x1.toInt ∧ x1.toInt ≤ (90100 : Int)) : Ok (f_X5_readNumber_67 x0 x1 x2 S) (fun o => ZT o.2 ∧ A7 SZ o.2 ∧ True) := by
  unfold f_X5_readNumber_67
  have j76 := J_5_1 hT r_x0
  refine ok_chk r_x0 ?_
  obtain ⟨b1, p_b1, k_b1, c_b1⟩ := T_5_0 hT r_x0
  refine ok_calR p_b1 ?_
  refine ok_chk k_b1 ?_
  have j77 := J61_2 hT k_b1 c_b1
  obtain ⟨r2, h_r2, p_r2⟩ := roz (t_f_X6_at (x0 := b1) (x1 := x1) hT k_b1)
  dsimp only at p_r2
  refine ok_calR h_r2 ?_
  refine ok_if (fun c78 => ?_) (fun c78 => ?_)
  ·
    replace c78 := ti_eqP (a := r2) (b := (48 : Int32)) c78 rfl (show (48 : Int32).toInt = 48 from rfl)
    refine ok_chk r_x0 ?_
    refine ok_bnd (fun v3 e79 => ?_)
    have t_v3 : v3.toInt = x1.toInt + 1 := ti_add e79 rfl (show (1 : Int32).toInt = 1 from rfl) (by omega) (by omega)
    refine ok_if (fun c80 => ?_) (fun c80 => ?_)
    ·
      replace c80 := ti_leP (a := (zI S 1 x0)) (b := v3) c80 rfl rfl
      unfold f_X5_readNumber_94
      exact t_f_X5_readNumber_95 (S := S)  (x0 := x0) (x1 := x1) (x2 := x2) (t0 := (0 : Int32)) hT hR r_x0 r_x1 (by decide)
    ·
      replace c80 := ti_leN (a := (zI S 1 x0)) (b := v3) c80 rfl rfl
      exact t_f_X5_readNumber_95 (S := S)  (x0 := x0) (x1 := x1) (x2 := x2) (t0 := (1 : Int32)) hT hR r_x0 r_x1 (by decide)
  ·
    replace c78 := ti_eqN (a := r2) (b := (48 : Int32)) c78 rfl (show (48 : Int32).toInt = 48 from rfl)
    unfold f_X5_readNumber_94
    exact t_f_X5_readNumber_95 (S := S)  (x0 := x0) (x1 := x1) (x2 := x2) (t0 := (0 : Int32)) hT hR r_x0 r_x1 (by decide)
theorem t_f_X5_readNumber_7s {SZ S : ZS} {self7 : Nat → Int32 → Int32 → ZS → Option (Int32 × ZS)} {N7 : Nat} (hself7 : ∀ (x0 : Nat) (x1 : Int32) (x2 : Int32) (S : ZS), ZT S → A7 SZ S → (zK S x0 = 5) → ((0 : Int) ≤ x1.toInt ∧ x1.toInt ≤ (90100 : Int)) → (90102 - (zI S 1 x0).toInt) < (N7 : Int) → Ok (self7 x0 x1 x2 S) (fun o => ZT o.2 ∧ A7 SZ o.2 ∧ True)) {x0 : Nat} {x1 : Int32} {x2 : Int32} (hT : ZT S) (hR : A7 SZ S) (r_x0 : zK S x0 = 5) (r_x1 : (0 : Int) ≤ x1.toInt ∧ x1.toInt ≤ (90100 : Int)) (m7 : (90102 - (zI S 1 x0).toInt) ≤ (N7 : Int)) : Ok (f_X5_readNumber_7s self7 x0 x1 x2 S) (fun o => ZT o.2 ∧ A7 SZ o.2 ∧ True) := by
  unfold f_X5_readNumber_7s
  have j81 := J_5_1 hT r_x0
  refine ok_chk r_x0 ?_
  refine ok_bnd (fun v1 e82 => ?_)
  have t_v1 : v1.toInt = x1.toInt + 3 := ti_add e82 rfl (show (3 : Int32).toInt = 3 from rfl) (by omega) (by omega)
  refine ok_if (fun c83 => ?_) (fun c83 => ?_)
  ·
    replace c83 := ti_leP (a := v1) (b := (zI S 1 x0)) c83 rfl rfl
    exact t_f_X5_readNumber_67 (S := S)  (x0 := x0) (x1 := x1) (x2 := x2) hT hR r_x0 r_x1
  ·
    replace c83 := ti_leN (a := v1) (b := (zI S 1 x0)) c83 rfl rfl
    refine ok_chk r_x0 ?_
    obtain ⟨b2, p_b2, k_b2, c_b2⟩ := T_5_0 hT r_x0
    refine ok_calR p_b2 ?_
    refine ok_chk r_x0 ?_
    refine ok_chk k_b2 ?_
    have j84 := J61_2 hT k_b2 c_b2
    obtain ⟨r3, h_r3, p_r3⟩ := roz (t_f_X6_at (x0 := b2) (x1 := (zI S 1 x0)) hT k_b2)
    dsimp only at p_r3
    refine ok_calR h_r3 ?_
    obtain ⟨r4, h_r4, p_r4⟩ := roz (t_f_X11_isDigit (x0 := r3) hT )
    dsimp only at p_r4
    refine ok_calR h_r4 ?_
    refine ok_if (fun c85 => ?_) (fun c85 => ?_)
    ·
      replace c85 := ti_eqP (a := r4) (b := (0 : Int32)) c85 rfl (show (0 : Int32).toInt = 0 from rfl)
      exact t_f_X5_readNumber_67 (S := S)  (x0 := x0) (x1 := x1) (x2 := x2) hT hR r_x0 r_x1
    ·
      replace c85 := ti_eqN (a := r4) (b := (0 : Int32)) c85 rfl (show (0 : Int32).toInt = 0 from rfl)
      refine ok_bnd (fun v5 e86 => ?_)
      refine ok_chk r_x0 ?_
      obtain ⟨b6, p_b6, k_b6, c_b6⟩ := T_5_0 hT r_x0
      refine ok_calR p_b6 ?_
      refine ok_chk r_x0 ?_
      refine ok_chk k_b6 ?_
      have j87 := J61_2 hT k_b6 c_b6
      obtain ⟨r7, h_r7, p_r7⟩ := roz (t_f_X6_at (x0 := b6) (x1 := (zI S 1 x0)) hT k_b6)
      dsimp only at p_r7
      refine ok_calR h_r7 ?_
      refine ok_bnd (fun v8 e88 => ?_)
      refine ok_bnd (fun v9 e89 => ?_)
      refine ok_chk r_x0 ?_
      refine ok_bnd (fun v10 e90 => ?_)
      have t_v10 : v10.toInt = (zI S 1 x0).toInt + 1 := ti_add e90 rfl (show (1 : Int32).toInt = 1 from rfl) (by omega) (by omega)
      refine ok_chk r_x0 ?_
      refine ok_bnd (fun S11 e91 => ?_)
      have T_S11 : ZT S11 := e91.symm ▸ zt_I hT r_x0 (by decide) (show (0 : Int) ≤ v10.toInt ∧ v10.toInt ≤ (90100 : Int) from (by omega))
      have kE_S11 : zK S11 = zK S := by rw [e91]; rfl
      have nE_S11 : zN S11 = zN S := by rw [e91]; rfl
      have R_S11 : A7 SZ S11 := a7_I hR e91 r_x0 (by decide)
      have : (zI S11 1 x0).toInt = v10.toInt := by rw [e91]; exact (congrArg Int32.toInt (zI_self _ _ _ _)).trans rfl
      exact hself7 x0 x1 v9 S11 T_S11 R_S11 ((congrFun kE_S11 x0).trans r_x0) r_x1 (by omega)
theorem t_f_X5_readNumber_7 {SZ : ZS} : ∀ (n : Nat) (x0 : Nat) (x1 : Int32) (x2 : Int32) (S : ZS), ZT S → A7 SZ S → (zK S x0 = 5) → ((0 : Int) ≤ x1.toInt ∧ x1.toInt ≤ (90100 : Int)) → (90102 - (zI S 1 x0).toInt) < (n : Int) → Ok (f_X5_readNumber_7  n x0 x1 x2 S) (fun o => ZT o.2 ∧ A7 SZ o.2 ∧ True) := by
  intro n
  induction n with
  | zero => intro x0 x1 x2 S hT hR g0 g1  hm; exfalso; have j9 := J_5_1 hT g0; omega
  | succ n ih =>
    intro x0 x1 x2 S hT hR g0 g1  hm
    exact t_f_X5_readNumber_7s (N7 := n)  ih hT hR g0 g1  (by omega)
theorem t_f_X5_readNumber_0 {SZ S : ZS} {x0 : Nat} (hT : ZT S) (hR : A7 SZ S) (r_x0 : zK S x0 = 5) : Ok (f_X5_readNumber_0 x0 S) (fun o => ZT o.2 ∧ A7 SZ o.2 ∧ True) := by
  unfold f_X5_readNumber_0
  have j92 := J_5_1 hT r_x0
  refine ok_chk r_x0 ?_
  exact t_f_X5_readNumber_7   mFuel x0 (zI S 1 x0) (0 : Int32) S hT hR r_x0 (by omega) (by show _ < ((200000 : Nat) : Int); have z0 : (0 : Int32).toInt = 0 := rfl; omega)
theorem t_f_X5_readNumber {SZ S : ZS} {x0 : Nat} (hT : ZT S) (hR : A7 SZ S) (r_x0 : zK S x0 = 5) : Ok (f_X5_readNumber x0 S) (fun o => ZT o.2 ∧ A7 SZ o.2 ∧ True) := t_f_X5_readNumber_0 hT hR r_x0
theorem t_f_X5_readMoveNumber_0 {SZ S : ZS} {x0 : Nat} {x1 : Nat} (hT : ZT S) (hR : A7 SZ S) (r_x0 : zK S x0 = 5) (r_x1 : zK S x1 = 0) : Ok (f_X5_readMoveNumber_0 x0 x1 S) (fun o => ZT o.2 ∧ A7 SZ o.2 ∧ ((0 : Int) ≤ o.1.toInt ∧ o.1.toInt ≤ (1 : Int))) := by
  unfold f_X5_readMoveNumber_0
  refine ok_chk r_x0 ?_
  obtain ⟨⟨r1, S1⟩, h_r1, T_S1, A_S1, -⟩ := t_f_X5_readNumber (x0 := x0) (SZ := S) hT (a7_0 S) r_x0
  replace T_S1 : ZT S1 := T_S1
  replace A_S1 : A7 S S1 := A_S1
  refine ok_calR h_r1 ?_
  have q_S1 := fq_X5_readNumber h_r1
  have kE_S1 : zK S1 = zK S := q_S1.2.2.1
  have nE_S1 : zN S1 = zN S := q_S1.2.2.2.1
  have R_S1 : A7 SZ S1 := a7_t hR A_S1
  refine ok_chk ((congrFun kE_S1 x1).trans r_x1) ?_
  refine ok_bnd (fun S2 e93 => ?_)
  have T_S2 : ZT S2 := e93.symm ▸ zt_W T_S1 ((congrFun kE_S1 x1).trans r_x1) (by decide) rfl
  have kE_S2 : zK S2 = zK S1 := by rw [e93]; rfl
  have nE_S2 : zN S2 = zN S1 := by rw [e93]; rfl
  have R_S2 : A7 SZ S2 := a7_I R_S1 e93 ((congrFun kE_S1 x1).trans r_x1) (by decide)
  refine ok_chk ((congrFun kE_S2 x1).trans ((congrFun kE_S1 x1).trans r_x1)) ?_
  refine ok_if (fun c94 => ?_) (fun c94 => ?_)
  ·
    replace c94 := ti_leP (a := (zI S2 6 x1)) (b := (0 : Int32)) c94 rfl (show (0 : Int32).toInt = 0 from rfl)
    unfold f_X5_readMoveNumber_20
    refine ok_chk (by decide) ?_
    exact ok_ret ⟨T_S2, R_S2, (show (0 : Int) ≤ (0 : Int32).toInt ∧ (0 : Int32).toInt ≤ (1 : Int) from (by decide))⟩
  ·
    replace c94 := ti_leN (a := (zI S2 6 x1)) (b := (0 : Int32)) c94 rfl (show (0 : Int32).toInt = 0 from rfl)
    unfold f_X5_readMoveNumber_20
    refine ok_chk (by decide) ?_
    exact ok_ret ⟨T_S2, R_S2, (show (0 : Int) ≤ (1 : Int32).toInt ∧ (1 : Int32).toInt ≤ (1 : Int) from (by decide))⟩
theorem t_f_X5_readMoveNumber {SZ S : ZS} {x0 : Nat} {x1 : Nat} (hT : ZT S) (hR : A7 SZ S) (r_x0 : zK S x0 = 5) (r_x1 : zK S x1 = 0) : Ok (f_X5_readMoveNumber x0 x1 S) (fun o => ZT o.2 ∧ A7 SZ o.2 ∧ ((0 : Int) ≤ o.1.toInt ∧ o.1.toInt ≤ (1 : Int))) := t_f_X5_readMoveNumber_0 hT hR r_x0 r_x1
theorem t_f_X5_hasSoundMen_48 {S : ZS} {self6 : Nat → Int32 → Int32 → Int32 → ZS → Option (Int32 × ZS)} {N6 : Nat} (hself6 : ∀ (x0 : Nat) (x1 : Int32) (x2 : Int32) (x3 : Int32),  (zK S x0 = 0) → ((0 : Int) ≤ x1.toInt ∧ x1.toInt ≤ (64 : Int)) → ((0 : Int) ≤ x2.toInt ∧ x2.toInt ≤ (64 : Int)) → ((0 : Int) ≤ x3.toInt ∧ x3.toInt ≤ (64 : Int)) → (x1.toInt ≤ x3.toInt) → (x2.toInt ≤ x3.toInt) → (65 - x3.toInt) < (N6 : Int) → Ok (self6 x0 x1 x2 x3 S) (fun o => o.2 = S ∧ ((0 : Int) ≤ o.1.toInt ∧ o.1.toInt ≤ (1 : Int)))) {x0 : Nat} {x1 : Int32} {x3 : Int32} {t0 : Int32} {t1 : Int32} (hT : ZT S) (r_x0 : zK S x0 = 0) (r_x1 : (0 : Int) ≤ x1.toInt ∧ x1.toInt ≤ (64 : Int)) (r_x3 : (0 : Int) ≤ x3.toInt ∧ x3.toInt ≤ (63 : Int)) (r_t0 : (0 : Int) ≤ t0.toInt ∧ t0.toInt ≤ (1 : Int)) (r_t1 : (0 : Int) ≤ t1.toInt ∧ t1.toInt ≤ (64 : Int)) (q0 : t1.toInt ≤ x3.toInt) (q1 : x1.toInt ≤ x3.toInt + 1) (m6 : (65 - x3.toInt) ≤ (N6 : Int)) : Ok (f_X5_hasSoundMen_48 self6 x0 x1 x3 t0 t1 S) (fun o => o.2 = S ∧ ((0 : Int) ≤ o.1.toInt ∧ o.1.toInt ≤ (1 : Int))) := by
  unfold f_X5_hasSoundMen_48
  refine ok_bnd (fun v1 e95 => ?_)
  have t_v1 : v1.toInt = t1.toInt + t0.toInt := ti_add e95 rfl rfl (by omega) (by omega)
  refine ok_chk r_x0 ?_
  obtain ⟨r2, h_r2, p_r2⟩ := roz (t_f_X0_kindAt (x0 := x0) (x1 := x3) hT r_x0 r_x3)
  dsimp only at p_r2
  refine ok_calR h_r2 ?_
  refine ok_if (fun c96 => ?_) (fun c96 => ?_)
  ·
    replace c96 := ti_eqP (a := r2) (b := (1 : Int32)) c96 rfl (show (1 : Int32).toInt = 1 from rfl)
    refine ok_if (fun c97 => ?_) (fun c97 => ?_)
    ·
      replace c97 := ti_ltP (a := x3) (b := (8 : Int32)) c97 rfl (show (8 : Int32).toInt = 8 from rfl)
      unfold f_X5_hasSoundMen_71
      refine ok_chk (by decide) ?_
      exact ok_ret ⟨rfl, (show (0 : Int) ≤ (0 : Int32).toInt ∧ (0 : Int32).toInt ≤ (1 : Int) from (by decide))⟩
    ·
      replace c97 := ti_ltN (a := x3) (b := (8 : Int32)) c97 rfl (show (8 : Int32).toInt = 8 from rfl)
      refine ok_if (fun c98 => ?_) (fun c98 => ?_)
      ·
        replace c98 := ti_ltP (a := x3) (b := (56 : Int32)) c98 rfl (show (56 : Int32).toInt = 56 from rfl)
        unfold f_X5_hasSoundMen_73
        refine ok_bnd (fun v1u e99 => ?_)
        have t_v1u : v1u.toInt = x3.toInt + 1 := ti_add e99 rfl (show (1 : Int32).toInt = 1 from rfl) (by omega) (by omega)
        exact hself6 x0 x1 v1 v1u  r_x0 r_x1 (by omega) (by omega) (by omega) (by omega) (by omega)
      ·
        replace c98 := ti_ltN (a := x3) (b := (56 : Int32)) c98 rfl (show (56 : Int32).toInt = 56 from rfl)
        unfold f_X5_hasSoundMen_71
        refine ok_chk (by decide) ?_
        exact ok_ret ⟨rfl, (show (0 : Int) ≤ (0 : Int32).toInt ∧ (0 : Int32).toInt ≤ (1 : Int) from (by decide))⟩
  ·
    replace c96 := ti_eqN (a := r2) (b := (1 : Int32)) c96 rfl (show (1 : Int32).toInt = 1 from rfl)
    unfold f_X5_hasSoundMen_73
    refine ok_bnd (fun v1u e100 => ?_)
    have t_v1u : v1u.toInt = x3.toInt + 1 := ti_add e100 rfl (show (1 : Int32).toInt = 1 from rfl) (by omega) (by omega)
    exact hself6 x0 x1 v1 v1u  r_x0 r_x1 (by omega) (by omega) (by omega) (by omega) (by omega)
theorem t_f_X5_hasSoundMen_29 {S : ZS} {self6 : Nat → Int32 → Int32 → Int32 → ZS → Option (Int32 × ZS)} {N6 : Nat} (hself6 : ∀ (x0 : Nat) (x1 : Int32) (x2 : Int32) (x3 : Int32),  (zK S x0 = 0) → ((0 : Int) ≤ x1.toInt ∧ x1.toInt ≤ (64 : Int)) → ((0 : Int) ≤ x2.toInt ∧ x2.toInt ≤ (64 : Int)) → ((0 : Int) ≤ x3.toInt ∧ x3.toInt ≤ (64 : Int)) → (x1.toInt ≤ x3.toInt) → (x2.toInt ≤ x3.toInt) → (65 - x3.toInt) < (N6 : Int) → Ok (self6 x0 x1 x2 x3 S) (fun o => o.2 = S ∧ ((0 : Int) ≤ o.1.toInt ∧ o.1.toInt ≤ (1 : Int)))) {x0 : Nat} {x2 : Int32} {x3 : Int32} {t0 : Int32} {t1 : Int32} (hT : ZT S) (r_x0 : zK S x0 = 0) (r_x2 : (0 : Int) ≤ x2.toInt ∧ x2.toInt ≤ (64 : Int)) (r_x3 : (0 : Int) ≤ x3.toInt ∧ x3.toInt ≤ (63 : Int)) (r_t0 : (0 : Int) ≤ t0.toInt ∧ t0.toInt ≤ (1 : Int)) (r_t1 : (0 : Int) ≤ t1.toInt ∧ t1.toInt ≤ (64 : Int)) (q0 : t1.toInt ≤ x3.toInt) (q1 : x2.toInt ≤ x3.toInt) (m6 : (65 - x3.toInt) ≤ (N6 : Int)) : Ok (f_X5_hasSoundMen_29 self6 x0 x2 x3 t0 t1 S) (fun o => o.2 = S ∧ ((0 : Int) ≤ o.1.toInt ∧ o.1.toInt ≤ (1 : Int))) := by
  unfold f_X5_hasSoundMen_29
  refine ok_bnd (fun v1 e101 => ?_)
  have t_v1 : v1.toInt = t1.toInt + t0.toInt := ti_add e101 rfl rfl (by omega) (by omega)
  refine ok_chk r_x0 ?_
  obtain ⟨b2, p_b2, k_b2, n_b2⟩ := T_0_0 hT r_x0
  refine ok_calR p_b2 ?_
  refine ok_chk k_b2 ?_
  refine ok_chk (ti_inN (v := x3) (n := 64) n_b2 (by omega) (by omega)) ?_
  refine ok_bnd (fun v3 e102 => ?_)
  refine ok_if (fun c103 => ?_) (fun c103 => ?_)
  ·
    replace c103 := ti_eqP (a := v3) (b := (14 : Int32)) c103 rfl (show (14 : Int32).toInt = 14 from rfl)
    exact t_f_X5_hasSoundMen_48 (S := S) hself6 (x0 := x0) (x1 := v1) (x3 := x3) (t0 := (1 : Int32)) (t1 := x2) hT r_x0 (by omega) r_x3 (by decide) r_x2 q1 (by have z0 : (1 : Int32).toInt = 1 := rfl; omega) m6
  ·
    replace c103 := ti_eqN (a := v3) (b := (14 : Int32)) c103 rfl (show (14 : Int32).toInt = 14 from rfl)
    exact t_f_X5_hasSoundMen_48 (S := S) hself6 (x0 := x0) (x1 := v1) (x3 := x3) (t0 := (0 : Int32)) (t1 := x2) hT r_x0 (by omega) r_x3 (by decide) r_x2 q1 (by have z0 : (0 : Int32).toInt = 0 := rfl; omega) m6
theorem t_f_X5_hasSoundMen_6s {S : ZS} {self6 : Nat → Int32 → Int32 → Int32 → ZS → Option (Int32 × ZS)} {N6 : Nat} (hself6 : ∀ (x0 : Nat) (x1 : Int32) (x2 : Int32) (x3 : Int32),  (zK S x0 = 0) → ((0 : Int) ≤ x1.toInt ∧ x1.toInt ≤ (64 : Int)) → ((0 : Int) ≤ x2.toInt ∧ x2.toInt ≤ (64 : Int)) → ((0 : Int) ≤ x3.toInt ∧ x3.toInt ≤ (64 : Int)) → (x1.toInt ≤ x3.toInt) → (x2.toInt ≤ x3.toInt) → (65 - x3.toInt) < (N6 : Int) → Ok (self6 x0 x1 x2 x3 S) (fun o => o.2 = S ∧ ((0 : Int) ≤ o.1.toInt ∧ o.1.toInt ≤ (1 : Int)))) {x0 : Nat} {x1 : Int32} {x2 : Int32} {x3 : Int32} (hT : ZT S) (r_x0 : zK S x0 = 0) (r_x1 : (0 : Int) ≤ x1.toInt ∧ x1.toInt ≤ (64 : Int)) (r_x2 : (0 : Int) ≤ x2.toInt ∧ x2.toInt ≤ (64 : Int)) (r_x3 : (0 : Int) ≤ x3.toInt ∧ x3.toInt ≤ (64 : Int)) (q0 : x1.toInt ≤ x3.toInt) (q1 : x2.toInt ≤ x3.toInt) (m6 : (65 - x3.toInt) ≤ (N6 : Int)) : Ok (f_X5_hasSoundMen_6s self6 x0 x1 x2 x3 S) (fun o => o.2 = S ∧ ((0 : Int) ≤ o.1.toInt ∧ o.1.toInt ≤ (1 : Int))) := by
  unfold f_X5_hasSoundMen_6s
  refine ok_if (fun c104 => ?_) (fun c104 => ?_)
  ·
    replace c104 := ti_leP (a := (64 : Int32)) (b := x3) c104 (show (64 : Int32).toInt = 64 from rfl) rfl
    refine ok_if (fun c105 => ?_) (fun c105 => ?_)
    ·
      replace c105 := ti_eqP (a := x1) (b := (1 : Int32)) c105 rfl (show (1 : Int32).toInt = 1 from rfl)
      refine ok_if (fun c106 => ?_) (fun c106 => ?_)
      ·
        replace c106 := ti_eqP (a := x2) (b := (1 : Int32)) c106 rfl (show (1 : Int32).toInt = 1 from rfl)
        refine ok_chk r_x0 ?_
        refine ok_bnd (fun v1 e107 => ?_)
        have j108 := J_0_3 hT r_x0
        have t_v1 : v1.toInt = 1 - (zI S 3 x0).toInt := ti_sub e107 (show (1 : Int32).toInt = 1 from rfl) rfl (by omega) (by omega)
        refine ok_chk r_x0 ?_
        obtain ⟨r2, h_r2, p_r2⟩ := roz (t_f_X0_kingOf (x0 := x0) (x1 := v1) hT r_x0)
        dsimp only at p_r2
        refine ok_calR h_r2 ?_
        refine ok_chk r_x0 ?_
        refine ok_chk r_x0 ?_
        obtain ⟨r3, h_r3, p_r3⟩ := roz (t_f_X0_attacked (x0 := x0) (x1 := r2) (x2 := (zI S 3 x0)) hT r_x0 (by omega))
        dsimp only at p_r3
        refine ok_calR h_r3 ?_
        refine ok_if (fun c109 => ?_) (fun c109 => ?_)
        ·
          replace c109 := ti_eqP (a := r3) (b := (0 : Int32)) c109 rfl (show (0 : Int32).toInt = 0 from rfl)
          unfold f_X5_hasSoundMen_115
          refine ok_chk (by decide) ?_
          exact ok_ret ⟨rfl, (show (0 : Int) ≤ (1 : Int32).toInt ∧ (1 : Int32).toInt ≤ (1 : Int) from (by decide))⟩
        ·
          replace c109 := ti_eqN (a := r3) (b := (0 : Int32)) c109 rfl (show (0 : Int32).toInt = 0 from rfl)
          unfold f_X5_hasSoundMen_114
          unfold f_X5_hasSoundMen_115
          refine ok_chk (by decide) ?_
          exact ok_ret ⟨rfl, (show (0 : Int) ≤ (0 : Int32).toInt ∧ (0 : Int32).toInt ≤ (1 : Int) from (by decide))⟩
      ·
        replace c106 := ti_eqN (a := x2) (b := (1 : Int32)) c106 rfl (show (1 : Int32).toInt = 1 from rfl)
        unfold f_X5_hasSoundMen_114
        unfold f_X5_hasSoundMen_115
        refine ok_chk (by decide) ?_
        exact ok_ret ⟨rfl, (show (0 : Int) ≤ (0 : Int32).toInt ∧ (0 : Int32).toInt ≤ (1 : Int) from (by decide))⟩
    ·
      replace c105 := ti_eqN (a := x1) (b := (1 : Int32)) c105 rfl (show (1 : Int32).toInt = 1 from rfl)
      unfold f_X5_hasSoundMen_114
      unfold f_X5_hasSoundMen_115
      refine ok_chk (by decide) ?_
      exact ok_ret ⟨rfl, (show (0 : Int) ≤ (0 : Int32).toInt ∧ (0 : Int32).toInt ≤ (1 : Int) from (by decide))⟩
  ·
    replace c104 := ti_leN (a := (64 : Int32)) (b := x3) c104 (show (64 : Int32).toInt = 64 from rfl) rfl
    refine ok_chk r_x0 ?_
    obtain ⟨b4, p_b4, k_b4, n_b4⟩ := T_0_0 hT r_x0
    refine ok_calR p_b4 ?_
    refine ok_chk k_b4 ?_
    refine ok_chk (ti_inN (v := x3) (n := 64) n_b4 (by omega) (by omega)) ?_
    refine ok_bnd (fun v5 e110 => ?_)
    refine ok_if (fun c111 => ?_) (fun c111 => ?_)
    ·
      replace c111 := ti_eqP (a := v5) (b := (6 : Int32)) c111 rfl (show (6 : Int32).toInt = 6 from rfl)
      exact t_f_X5_hasSoundMen_29 (S := S) hself6 (x0 := x0) (x2 := x2) (x3 := x3) (t0 := (1 : Int32)) (t1 := x1) hT r_x0 r_x2 (by omega) (by decide) r_x1 q0 q1 m6
    ·
      replace c111 := ti_eqN (a := v5) (b := (6 : Int32)) c111 rfl (show (6 : Int32).toInt = 6 from rfl)
      exact t_f_X5_hasSoundMen_29 (S := S) hself6 (x0 := x0) (x2 := x2) (x3 := x3) (t0 := (0 : Int32)) (t1 := x1) hT r_x0 r_x2 (by omega) (by decide) r_x1 q0 q1 m6
theorem t_f_X5_hasSoundMen_6 {S : ZS} (hT : ZT S) : ∀ (n : Nat) (x0 : Nat) (x1 : Int32) (x2 : Int32) (x3 : Int32),  (zK S x0 = 0) → ((0 : Int) ≤ x1.toInt ∧ x1.toInt ≤ (64 : Int)) → ((0 : Int) ≤ x2.toInt ∧ x2.toInt ≤ (64 : Int)) → ((0 : Int) ≤ x3.toInt ∧ x3.toInt ≤ (64 : Int)) → (x1.toInt ≤ x3.toInt) → (x2.toInt ≤ x3.toInt) → (65 - x3.toInt) < (n : Int) → Ok (f_X5_hasSoundMen_6  n x0 x1 x2 x3 S) (fun o => o.2 = S ∧ ((0 : Int) ≤ o.1.toInt ∧ o.1.toInt ≤ (1 : Int))) := by
  intro n
  induction n with
  | zero => intro x0 x1 x2 x3 g0 g1 g2 g3 g4 g5  hm; exfalso; omega
  | succ n ih =>
    intro x0 x1 x2 x3 g0 g1 g2 g3 g4 g5  hm
    exact t_f_X5_hasSoundMen_6s (N6 := n)  ih hT g0 g1 g2 g3 g4 g5  (by omega)
theorem t_f_X5_hasSoundMen_0 {S : ZS} {x0 : Nat} (hT : ZT S) (r_x0 : zK S x0 = 0) : Ok (f_X5_hasSoundMen_0 x0 S) (fun o => o.2 = S ∧ ((0 : Int) ≤ o.1.toInt ∧ o.1.toInt ≤ (1 : Int))) := by
  unfold f_X5_hasSoundMen_0
  exact t_f_X5_hasSoundMen_6  hT mFuel x0 (0 : Int32) (0 : Int32) (0 : Int32)  r_x0 (by decide) (by decide) (by decide) (by have z0 : (0 : Int32).toInt = 0 := rfl; have z1 : (0 : Int32).toInt = 0 := rfl; have z2 : (0 : Int32).toInt = 0 := rfl; omega) (by have z0 : (0 : Int32).toInt = 0 := rfl; have z1 : (0 : Int32).toInt = 0 := rfl; have z2 : (0 : Int32).toInt = 0 := rfl; omega) (by show _ < ((200000 : Nat) : Int); have z0 : (0 : Int32).toInt = 0 := rfl; have z1 : (0 : Int32).toInt = 0 := rfl; have z2 : (0 : Int32).toInt = 0 := rfl; omega)
theorem t_f_X5_hasSoundMen {S : ZS} {x0 : Nat} (hT : ZT S) (r_x0 : zK S x0 = 0) : Ok (f_X5_hasSoundMen x0 S) (fun o => o.2 = S ∧ ((0 : Int) ≤ o.1.toInt ∧ o.1.toInt ≤ (1 : Int))) := t_f_X5_hasSoundMen_0 hT r_x0
theorem t_f_X5_hasSoundRights_50 {S : ZS} {self2 : Nat → Int32 → ZS → Option (Int32 × ZS)} {N2 : Nat} (hself2 : ∀ (x0 : Nat) (x1 : Int32),  (zK S x0 = 0) → ((0 : Int) ≤ x1.toInt ∧ x1.toInt ≤ (30 : Int)) → (31 - x1.toInt) < (N2 : Int) → Ok (self2 x0 x1 S) (fun o => o.2 = S ∧ ((0 : Int) ≤ o.1.toInt ∧ o.1.toInt ≤ (1 : Int)))) {x0 : Nat} {x1 : Int32} {x2 : Int32} {x3 : Int32} {t0 : Int32} (hT : ZT S) (r_x0 : zK S x0 = 0) (r_x1 : (0 : Int) ≤ x1.toInt ∧ x1.toInt ≤ (29 : Int)) (r_x2 : (0 : Int) ≤ x2.toInt ∧ x2.toInt ≤ (8 : Int)) (r_x3 : (4 : Int) ≤ x3.toInt ∧ x3.toInt ≤ (60 : Int)) (r_t0 : (0 : Int) ≤ t0.toInt ∧ t0.toInt ≤ (63 : Int)) (m2 : (31 - x1.toInt) ≤ (N2 : Int)) : Ok (f_X5_hasSoundRights_50 self2 x0 x1 x2 x3 t0 S) (fun o => o.2 = S ∧ ((0 : Int) ≤ o.1.toInt ∧ o.1.toInt ≤ (1 : Int))) := by
  unfold f_X5_hasSoundRights_50
  refine ok_chk r_x0 ?_
  refine ok_bnd (fun v1 e112 => ?_)
  refine ok_bnd (fun v2 e113 => ?_)
  have t_v2 := ti_and e113 (show (1 : Int32).toBitVec.toNat = 1 from rfl) (by decide)
  refine ok_if (fun c114 => ?_) (fun c114 => ?_)
  ·
    replace c114 := ti_eqP (a := v2) (b := (1 : Int32)) c114 rfl (show (1 : Int32).toInt = 1 from rfl)
    refine ok_chk r_x0 ?_
    obtain ⟨b3, p_b3, k_b3, n_b3⟩ := T_0_0 hT r_x0
    refine ok_calR p_b3 ?_
    refine ok_chk k_b3 ?_
    refine ok_chk (ti_inN (v := x3) (n := 64) n_b3 (by omega) (by omega)) ?_
    refine ok_bnd (fun v4 e115 => ?_)
    refine ok_bnd (fun v5 e116 => ?_)
    have t_v5 : v5.toInt = 6 + x2.toInt := ti_add e116 (show (6 : Int32).toInt = 6 from rfl) rfl (by omega) (by omega)
    refine ok_if (fun c117 => ?_) (fun c117 => ?_)
    ·
      replace c117 := ti_eqP (a := v4) (b := v5) c117 rfl rfl
      refine ok_chk r_x0 ?_
      obtain ⟨b6, p_b6, k_b6, n_b6⟩ := T_0_0 hT r_x0
      refine ok_calR p_b6 ?_
      refine ok_chk k_b6 ?_
      refine ok_chk (ti_inN (v := t0) (n := 64) n_b6 (by omega) (by omega)) ?_
      refine ok_bnd (fun v7 e118 => ?_)
      refine ok_bnd (fun v8 e119 => ?_)
      have t_v8 : v8.toInt = 4 + x2.toInt := ti_add e119 (show (4 : Int32).toInt = 4 from rfl) rfl (by omega) (by omega)
      refine ok_if (fun c120 => ?_) (fun c120 => ?_)
      ·
        replace c120 := ti_eqP (a := v7) (b := v8) c120 rfl rfl
        unfold f_X5_hasSoundRights_92
        refine ok_bnd (fun v1w121 e121 => ?_)
        have t_v1w121 : v1w121.toInt = x1.toInt + 1 := ti_add e121 rfl (show (1 : Int32).toInt = 1 from rfl) (by omega) (by omega)
        exact hself2 x0 v1w121  r_x0 (by omega) (by omega)
      ·
        replace c120 := ti_eqN (a := v7) (b := v8) c120 rfl rfl
        unfold f_X5_hasSoundRights_90
        refine ok_chk (by decide) ?_
        exact ok_ret ⟨rfl, (show (0 : Int) ≤ (0 : Int32).toInt ∧ (0 : Int32).toInt ≤ (1 : Int) from (by decide))⟩
    ·
      replace c117 := ti_eqN (a := v4) (b := v5) c117 rfl rfl
      unfold f_X5_hasSoundRights_90
      refine ok_chk (by decide) ?_
      exact ok_ret ⟨rfl, (show (0 : Int) ≤ (0 : Int32).toInt ∧ (0 : Int32).toInt ≤ (1 : Int) from (by decide))⟩
  ·
    replace c114 := ti_eqN (a := v2) (b := (1 : Int32)) c114 rfl (show (1 : Int32).toInt = 1 from rfl)
    unfold f_X5_hasSoundRights_92
    refine ok_bnd (fun v1w122 e122 => ?_)
    have t_v1w122 : v1w122.toInt = x1.toInt + 1 := ti_add e122 rfl (show (1 : Int32).toInt = 1 from rfl) (by omega) (by omega)
    exact hself2 x0 v1w122  r_x0 (by omega) (by omega)
theorem t_f_X5_hasSoundRights_34 {S : ZS} {self2 : Nat → Int32 → ZS → Option (Int32 × ZS)} {N2 : Nat} (hself2 : ∀ (x0 : Nat) (x1 : Int32),  (zK S x0 = 0) → ((0 : Int) ≤ x1.toInt ∧ x1.toInt ≤ (30 : Int)) → (31 - x1.toInt) < (N2 : Int) → Ok (self2 x0 x1 S) (fun o => o.2 = S ∧ ((0 : Int) ≤ o.1.toInt ∧ o.1.toInt ≤ (1 : Int)))) {x0 : Nat} {x1 : Int32} {x2 : Int32} {t0 : Int32} (hT : ZT S) (r_x0 : zK S x0 = 0) (r_x1 : (0 : Int) ≤ x1.toInt ∧ x1.toInt ≤ (29 : Int)) (r_x2 : (0 : Int) ≤ x2.toInt ∧ x2.toInt ≤ (8 : Int)) (r_t0 : (4 : Int) ≤ t0.toInt ∧ t0.toInt ≤ (60 : Int)) (m2 : (31 - x1.toInt) ≤ (N2 : Int)) : Ok (f_X5_hasSoundRights_34 self2 x0 x1 x2 t0 S) (fun o => o.2 = S ∧ ((0 : Int) ≤ o.1.toInt ∧ o.1.toInt ≤ (1 : Int))) := by
  unfold f_X5_hasSoundRights_34
  refine ok_bnd (fun v1 e123 => ?_)
  have t_v1 : v1.toInt = x1.toInt % 2 := ti_rem e123 rfl (show (2 : Int32).toInt = 2 from rfl) (by omega) (by decide)
  refine ok_if (fun c124 => ?_) (fun c124 => ?_)
  ·
    replace c124 := ti_eqP (a := v1) (b := (0 : Int32)) c124 rfl (show (0 : Int32).toInt = 0 from rfl)
    refine ok_bnd (fun v3 e125 => ?_)
    have t_v3 : v3.toInt = t0.toInt + 3 := ti_add e125 rfl (show (3 : Int32).toInt = 3 from rfl) (by omega) (by omega)
    exact t_f_X5_hasSoundRights_50 (S := S) hself2 (x0 := x0) (x1 := x1) (x2 := x2) (x3 := t0) (t0 := v3) hT r_x0 r_x1 r_x2 r_t0 (by omega) m2
  ·
    replace c124 := ti_eqN (a := v1) (b := (0 : Int32)) c124 rfl (show (0 : Int32).toInt = 0 from rfl)
    refine ok_bnd (fun v2 e126 => ?_)
    have t_v2 : v2.toInt = t0.toInt - 4 := ti_sub e126 rfl (show (4 : Int32).toInt = 4 from rfl) (by omega) (by omega)
    exact t_f_X5_hasSoundRights_50 (S := S) hself2 (x0 := x0) (x1 := x1) (x2 := x2) (x3 := t0) (t0 := v2) hT r_x0 r_x1 r_x2 r_t0 (by omega) m2
theorem t_f_X5_hasSoundRights_2s {S : ZS} {self2 : Nat → Int32 → ZS → Option (Int32 × ZS)} {N2 : Nat} (hself2 : ∀ (x0 : Nat) (x1 : Int32),  (zK S x0 = 0) → ((0 : Int) ≤ x1.toInt ∧ x1.toInt ≤ (30 : Int)) → (31 - x1.toInt) < (N2 : Int) → Ok (self2 x0 x1 S) (fun o => o.2 = S ∧ ((0 : Int) ≤ o.1.toInt ∧ o.1.toInt ≤ (1 : Int)))) {x0 : Nat} {x1 : Int32} (hT : ZT S) (r_x0 : zK S x0 = 0) (r_x1 : (0 : Int) ≤ x1.toInt ∧ x1.toInt ≤ (30 : Int)) (m2 : (31 - x1.toInt) ≤ (N2 : Int)) : Ok (f_X5_hasSoundRights_2s self2 x0 x1 S) (fun o => o.2 = S ∧ ((0 : Int) ≤ o.1.toInt ∧ o.1.toInt ≤ (1 : Int))) := by
  unfold f_X5_hasSoundRights_2s
  refine ok_chk (by decide) ?_
  obtain ⟨r1, h_r1, p_r1⟩ := roz (t_f_J0_length_8abf5 (x0 := 2) hT (by decide))
  dsimp only at p_r1
  refine ok_calR h_r1 ?_
  refine ok_if (fun c127 => ?_) (fun c127 => ?_)
  ·
    replace c127 := ti_leP (a := r1) (b := x1) c127 rfl rfl
    refine ok_chk (by decide) ?_
    exact ok_ret ⟨rfl, (show (0 : Int) ≤ (1 : Int32).toInt ∧ (1 : Int32).toInt ≤ (1 : Int) from (by decide))⟩
  ·
    replace c127 := ti_leN (a := r1) (b := x1) c127 rfl rfl
    refine ok_if (fun c128 => ?_) (fun c128 => ?_)
    ·
      replace c128 := ti_leP (a := (2 : Int32)) (b := x1) c128 (show (2 : Int32).toInt = 2 from rfl) rfl
      unfold f_X5_hasSoundRights_22
      refine ok_if (fun c129 => ?_) (fun c129 => ?_)
      ·
        replace c129 := ti_leP (a := (2 : Int32)) (b := x1) c129 (show (2 : Int32).toInt = 2 from rfl) rfl
        exact t_f_X5_hasSoundRights_34 (S := S) hself2 (x0 := x0) (x1 := x1) (x2 := (8 : Int32)) (t0 := (60 : Int32)) hT r_x0 (by omega) (by decide) (by decide) m2
      ·
        replace c129 := ti_leN (a := (2 : Int32)) (b := x1) c129 (show (2 : Int32).toInt = 2 from rfl) rfl
        exact t_f_X5_hasSoundRights_34 (S := S) hself2 (x0 := x0) (x1 := x1) (x2 := (8 : Int32)) (t0 := (4 : Int32)) hT r_x0 (by omega) (by decide) (by decide) m2
    ·
      replace c128 := ti_leN (a := (2 : Int32)) (b := x1) c128 (show (2 : Int32).toInt = 2 from rfl) rfl
      unfold f_X5_hasSoundRights_22
      refine ok_if (fun c130 => ?_) (fun c130 => ?_)
      ·
        replace c130 := ti_leP (a := (2 : Int32)) (b := x1) c130 (show (2 : Int32).toInt = 2 from rfl) rfl
        exact t_f_X5_hasSoundRights_34 (S := S) hself2 (x0 := x0) (x1 := x1) (x2 := (0 : Int32)) (t0 := (60 : Int32)) hT r_x0 (by omega) (by decide) (by decide) m2
      ·
        replace c130 := ti_leN (a := (2 : Int32)) (b := x1) c130 (show (2 : Int32).toInt = 2 from rfl) rfl
        exact t_f_X5_hasSoundRights_34 (S := S) hself2 (x0 := x0) (x1 := x1) (x2 := (0 : Int32)) (t0 := (4 : Int32)) hT r_x0 (by omega) (by decide) (by decide) m2
theorem t_f_X5_hasSoundRights_2 {S : ZS} (hT : ZT S) : ∀ (n : Nat) (x0 : Nat) (x1 : Int32),  (zK S x0 = 0) → ((0 : Int) ≤ x1.toInt ∧ x1.toInt ≤ (30 : Int)) → (31 - x1.toInt) < (n : Int) → Ok (f_X5_hasSoundRights_2  n x0 x1 S) (fun o => o.2 = S ∧ ((0 : Int) ≤ o.1.toInt ∧ o.1.toInt ≤ (1 : Int))) := by
  intro n
  induction n with
  | zero => intro x0 x1 g0 g1  hm; exfalso; omega
  | succ n ih =>
    intro x0 x1 g0 g1  hm
    exact t_f_X5_hasSoundRights_2s (N2 := n)  ih hT g0 g1  (by omega)
theorem t_f_X5_hasSoundRights_0 {S : ZS} {x0 : Nat} (hT : ZT S) (r_x0 : zK S x0 = 0) : Ok (f_X5_hasSoundRights_0 x0 S) (fun o => o.2 = S ∧ ((0 : Int) ≤ o.1.toInt ∧ o.1.toInt ≤ (1 : Int))) := by
  unfold f_X5_hasSoundRights_0
  exact t_f_X5_hasSoundRights_2  hT mFuel x0 (0 : Int32)  r_x0 (by decide) (by show _ < ((200000 : Nat) : Int); have z0 : (0 : Int32).toInt = 0 := rfl; omega)
theorem t_f_X5_hasSoundRights {S : ZS} {x0 : Nat} (hT : ZT S) (r_x0 : zK S x0 = 0) : Ok (f_X5_hasSoundRights x0 S) (fun o => o.2 = S ∧ ((0 : Int) ≤ o.1.toInt ∧ o.1.toInt ≤ (1 : Int))) := t_f_X5_hasSoundRights_0 hT r_x0
theorem t_f_X5_hasSoundPassed_62 {S : ZS} {x0 : Nat} {x1 : Int32} {t0 : Int32} (hT : ZT S) (r_x0 : zK S x0 = 0) (r_x1 : (0 : Int) ≤ x1.toInt ∧ x1.toInt ≤ (63 : Int)) (r_t0 : (-8 : Int) ≤ t0.toInt ∧ t0.toInt ≤ (8 : Int)) (q0 : 16 ≤ x1.toInt ∧ x1.toInt ≤ 47) : Ok (f_X5_hasSoundPassed_62 x0 x1 t0 S) (fun o => o.2 = S ∧ ((0 : Int) ≤ o.1.toInt ∧ o.1.toInt ≤ (1 : Int))) := by
  unfold f_X5_hasSoundPassed_62
  refine ok_chk r_x0 ?_
  obtain ⟨b1, p_b1, k_b1, n_b1⟩ := T_0_0 hT r_x0
  refine ok_calR p_b1 ?_
  refine ok_bnd (fun v2 e131 => ?_)
  have t_v2 : v2.toInt = x1.toInt + t0.toInt := ti_add e131 rfl rfl (by omega) (by omega)
  refine ok_chk k_b1 ?_
  refine ok_chk (ti_inN (v := v2) (n := 64) n_b1 (by omega) (by omega)) ?_
  refine ok_bnd (fun v3 e132 => ?_)
  refine ok_chk r_x0 ?_
  refine ok_bnd (fun v4 e133 => ?_)
  have j134 := J_0_3 hT r_x0
  have t_v4 : v4.toInt = 1 - (zI S 3 x0).toInt := ti_sub e133 (show (1 : Int32).toInt = 1 from rfl) rfl (by omega) (by omega)
  refine ok_bnd (fun v5 e135 => ?_)
  have t_v5 : v5.toInt = 8 * v4.toInt := ti_mul e135 (show (8 : Int32).toInt = 8 from rfl) rfl (by omega) (by omega)
  refine ok_bnd (fun v6 e136 => ?_)
  have t_v6 : v6.toInt = 1 + v5.toInt := ti_add e136 (show (1 : Int32).toInt = 1 from rfl) rfl (by omega) (by omega)
  refine ok_if (fun c137 => ?_) (fun c137 => ?_)
  ·
    replace c137 := ti_eqP (a := v3) (b := v6) c137 rfl rfl
    refine ok_chk r_x0 ?_
    obtain ⟨b7, p_b7, k_b7, n_b7⟩ := T_0_0 hT r_x0
    refine ok_calR p_b7 ?_
    refine ok_bnd (fun v8 e138 => ?_)
    have t_v8 : v8.toInt = x1.toInt - t0.toInt := ti_sub e138 rfl rfl (by omega) (by omega)
    refine ok_chk k_b7 ?_
    refine ok_chk (ti_inN (v := v8) (n := 64) n_b7 (by omega) (by omega)) ?_
    refine ok_bnd (fun v9 e139 => ?_)
    refine ok_if (fun c140 => ?_) (fun c140 => ?_)
    ·
      replace c140 := ti_eqP (a := v9) (b := (0 : Int32)) c140 rfl (show (0 : Int32).toInt = 0 from rfl)
      refine ok_chk r_x0 ?_
      refine ok_chk r_x0 ?_
      obtain ⟨r10, h_r10, p_r10⟩ := roz (t_f_X0_pawnAttacks (x0 := x0) (x1 := x1) (x2 := (zI S 3 x0)) hT r_x0 r_x1 (by omega))
      dsimp only at p_r10
      refine ok_calR h_r10 ?_
      refine ok_if (fun c141 => ?_) (fun c141 => ?_)
      ·
        replace c141 := ti_eqP (a := r10) (b := (0 : Int32)) c141 rfl (show (0 : Int32).toInt = 0 from rfl)
        unfold f_X5_hasSoundPassed_112
        unfold f_X5_hasSoundPassed_113
        refine ok_chk (by decide) ?_
        exact ok_ret ⟨rfl, (show (0 : Int) ≤ (0 : Int32).toInt ∧ (0 : Int32).toInt ≤ (1 : Int) from (by decide))⟩
      ·
        replace c141 := ti_eqN (a := r10) (b := (0 : Int32)) c141 rfl (show (0 : Int32).toInt = 0 from rfl)
        unfold f_X5_hasSoundPassed_113
        refine ok_chk (by decide) ?_
        exact ok_ret ⟨rfl, (show (0 : Int) ≤ (1 : Int32).toInt ∧ (1 : Int32).toInt ≤ (1 : Int) from (by decide))⟩
    ·
      replace c140 := ti_eqN (a := v9) (b := (0 : Int32)) c140 rfl (show (0 : Int32).toInt = 0 from rfl)
      unfold f_X5_hasSoundPassed_112
      unfold f_X5_hasSoundPassed_113
      refine ok_chk (by decide) ?_
      exact ok_ret ⟨rfl, (show (0 : Int) ≤ (0 : Int32).toInt ∧ (0 : Int32).toInt ≤ (1 : Int) from (by decide))⟩
  ·
    replace c137 := ti_eqN (a := v3) (b := v6) c137 rfl rfl
    unfold f_X5_hasSoundPassed_112
    unfold f_X5_hasSoundPassed_113
    refine ok_chk (by decide) ?_
    exact ok_ret ⟨rfl, (show (0 : Int) ≤ (0 : Int32).toInt ∧ (0 : Int32).toInt ≤ (1 : Int) from (by decide))⟩
theorem t_f_X5_hasSoundPassed_37 {S : ZS} {x0 : Nat} {x1 : Int32} {x2 : Int32} {t0 : Int32} {t1 : Int32} (hT : ZT S) (r_x0 : zK S x0 = 0) (r_x1 : (0 : Int) ≤ x1.toInt ∧ x1.toInt ≤ (63 : Int)) (r_x2 : (0 : Int) ≤ x2.toInt ∧ x2.toInt ≤ (1 : Int)) (r_t0 : (2 : Int) ≤ t0.toInt ∧ t0.toInt ≤ (5 : Int)) (r_t1 : (0 : Int) ≤ t1.toInt ∧ t1.toInt ≤ (7 : Int)) (q0 : t1.toInt = x1.toInt / 8) (q1 : t0.toInt = 2 ∨ t0.toInt = 5) : Ok (f_X5_hasSoundPassed_37 x0 x1 x2 t0 t1 S) (fun o => o.2 = S ∧ ((0 : Int) ≤ o.1.toInt ∧ o.1.toInt ≤ (1 : Int))) := by
  unfold f_X5_hasSoundPassed_37
  refine ok_if (fun c142 => ?_) (fun c142 => ?_)
  ·
    replace c142 := ti_eqP (a := t1) (b := t0) c142 rfl rfl
    refine ok_chk r_x0 ?_
    obtain ⟨b1, p_b1, k_b1, n_b1⟩ := T_0_0 hT r_x0
    refine ok_calR p_b1 ?_
    refine ok_chk k_b1 ?_
    refine ok_chk (ti_inN (v := x1) (n := 64) n_b1 (by omega) (by omega)) ?_
    refine ok_bnd (fun v2 e143 => ?_)
    refine ok_if (fun c144 => ?_) (fun c144 => ?_)
    ·
      replace c144 := ti_eqP (a := v2) (b := (0 : Int32)) c144 rfl (show (0 : Int32).toInt = 0 from rfl)
      refine ok_if (fun c145 => ?_) (fun c145 => ?_)
      ·
        replace c145 := ti_eqP (a := x2) (b := (0 : Int32)) c145 rfl (show (0 : Int32).toInt = 0 from rfl)
        exact t_f_X5_hasSoundPassed_62 (S := S)  (x0 := x0) (x1 := x1) (t0 := (8 : Int32)) hT r_x0 r_x1 (by decide) (by have z0 : (8 : Int32).toInt = 8 := rfl; omega)
      ·
        replace c145 := ti_eqN (a := x2) (b := (0 : Int32)) c145 rfl (show (0 : Int32).toInt = 0 from rfl)
        exact t_f_X5_hasSoundPassed_62 (S := S)  (x0 := x0) (x1 := x1) (t0 := (-8 : Int32)) hT r_x0 r_x1 (by decide) (by have z0 : (-8 : Int32).toInt = -8 := rfl; omega)
    ·
      replace c144 := ti_eqN (a := v2) (b := (0 : Int32)) c144 rfl (show (0 : Int32).toInt = 0 from rfl)
      unfold f_X5_hasSoundPassed_49
      refine ok_chk (by decide) ?_
      exact ok_ret ⟨rfl, (show (0 : Int) ≤ (0 : Int32).toInt ∧ (0 : Int32).toInt ≤ (1 : Int) from (by decide))⟩
  ·
    replace c142 := ti_eqN (a := t1) (b := t0) c142 rfl rfl
    unfold f_X5_hasSoundPassed_49
    refine ok_chk (by decide) ?_
    exact ok_ret ⟨rfl, (show (0 : Int) ≤ (0 : Int32).toInt ∧ (0 : Int32).toInt ≤ (1 : Int) from (by decide))⟩
theorem t_f_X5_hasSoundPassed_24 {S : ZS} {x0 : Nat} {x1 : Int32} {t0 : Int32} (hT : ZT S) (r_x0 : zK S x0 = 0) (r_x1 : (0 : Int) ≤ x1.toInt ∧ x1.toInt ≤ (63 : Int)) (r_t0 : (0 : Int) ≤ t0.toInt ∧ t0.toInt ≤ (1 : Int)) : Ok (f_X5_hasSoundPassed_24 x0 x1 t0 S) (fun o => o.2 = S ∧ ((0 : Int) ≤ o.1.toInt ∧ o.1.toInt ≤ (1 : Int))) := by
  unfold f_X5_hasSoundPassed_24
  refine ok_bnd (fun v1 e146 => ?_)
  have t_v1 : v1.toInt = x1.toInt / 8 := b_sh3 e146 (by omega)
  refine ok_if (fun c147 => ?_) (fun c147 => ?_)
  ·
    replace c147 := ti_eqP (a := t0) (b := (0 : Int32)) c147 rfl (show (0 : Int32).toInt = 0 from rfl)
    exact t_f_X5_hasSoundPassed_37 (S := S)  (x0 := x0) (x1 := x1) (x2 := t0) (t0 := (2 : Int32)) (t1 := v1) hT r_x0 r_x1 r_t0 (by decide) (by omega) (by have z0 : (2 : Int32).toInt = 2 := rfl; omega) (by have z0 : (2 : Int32).toInt = 2 := rfl; omega)
  ·
    replace c147 := ti_eqN (a := t0) (b := (0 : Int32)) c147 rfl (show (0 : Int32).toInt = 0 from rfl)
    exact t_f_X5_hasSoundPassed_37 (S := S)  (x0 := x0) (x1 := x1) (x2 := t0) (t0 := (5 : Int32)) (t1 := v1) hT r_x0 r_x1 r_t0 (by decide) (by omega) (by have z0 : (5 : Int32).toInt = 5 := rfl; omega) (by have z0 : (5 : Int32).toInt = 5 := rfl; omega)
theorem t_f_X5_hasSoundPassed_0 {S : ZS} {x0 : Nat} (hT : ZT S) (r_x0 : zK S x0 = 0) : Ok (f_X5_hasSoundPassed_0 x0 S) (fun o => o.2 = S ∧ ((0 : Int) ≤ o.1.toInt ∧ o.1.toInt ≤ (1 : Int))) := by
  unfold f_X5_hasSoundPassed_0
  refine ok_chk r_x0 ?_
  have j148 := J_0_5 hT r_x0
  refine ok_if (fun c149 => ?_) (fun c149 => ?_)
  ·
    replace c149 := ti_eqP (a := (zI S 5 x0)) (b := (-1 : Int32)) c149 rfl (show (-1 : Int32).toInt = -1 from rfl)
    refine ok_chk (by decide) ?_
    exact ok_ret ⟨rfl, (show (0 : Int) ≤ (1 : Int32).toInt ∧ (1 : Int32).toInt ≤ (1 : Int) from (by decide))⟩
  ·
    replace c149 := ti_eqN (a := (zI S 5 x0)) (b := (-1 : Int32)) c149 rfl (show (-1 : Int32).toInt = -1 from rfl)
    refine ok_chk r_x0 ?_
    have j150 := J_0_3 hT r_x0
    refine ok_if (fun c151 => ?_) (fun c151 => ?_)
    ·
      replace c151 := ti_eqP (a := (zI S 3 x0)) (b := (0 : Int32)) c151 rfl (show (0 : Int32).toInt = 0 from rfl)
      exact t_f_X5_hasSoundPassed_24 (S := S)  (x0 := x0) (x1 := (zI S 5 x0)) (t0 := (1 : Int32)) hT r_x0 (by omega) (by decide)
    ·
      replace c151 := ti_eqN (a := (zI S 3 x0)) (b := (0 : Int32)) c151 rfl (show (0 : Int32).toInt = 0 from rfl)
      exact t_f_X5_hasSoundPassed_24 (S := S)  (x0 := x0) (x1 := (zI S 5 x0)) (t0 := (0 : Int32)) hT r_x0 (by omega) (by decide)
theorem t_f_X5_hasSoundPassed {S : ZS} {x0 : Nat} (hT : ZT S) (r_x0 : zK S x0 = 0) : Ok (f_X5_hasSoundPassed x0 S) (fun o => o.2 = S ∧ ((0 : Int) ≤ o.1.toInt ∧ o.1.toInt ≤ (1 : Int))) := t_f_X5_hasSoundPassed_0 hT r_x0
theorem t_f_X5_readInto_0 {SZ S : ZS} {x0 : Nat} {x1 : Nat} {x2 : Nat} (hT : ZT S) (hR : A7 SZ S) (r_x0 : zK S x0 = 5) (r_x1 : zK S x1 = 0) (r_x2 : zK S x2 = 6) (c_x2 : rc x2 ≤ 2) : Ok (f_X5_readInto_0 x0 x1 x2 S) (fun o => ZT o.2 ∧ A7 SZ o.2 ∧ ((0 : Int) ≤ o.1.toInt ∧ o.1.toInt ≤ (1 : Int))) := by
  unfold f_X5_readInto_0
  have j152 := J_5_1 hT r_x0
  refine ok_chk r_x0 ?_
  refine ok_bnd (fun S1 e153 => ?_)
  have T_S1 : ZT S1 := e153.symm ▸ zt_P hT r_x0 (by decide) (Or.inr ⟨r_x2, rfl⟩) ⟨(Nat.zero_le _), c_x2⟩
  have kE_S1 : zK S1 = zK S := by rw [e153]; rfl
  have nE_S1 : zN S1 = zN S := by rw [e153]; rfl
  have R_S1 : A7 SZ S1 := a7_P hR e153 r_x0 (by decide)
  have : (zI S1 1 x0).toInt = (zI S 1 x0).toInt := by rw [e153]; rfl
  refine ok_chk ((congrFun kE_S1 x0).trans r_x0) ?_
  refine ok_bnd (fun S2 e154 => ?_)
  have T_S2 : ZT S2 := e154.symm ▸ zt_I T_S1 ((congrFun kE_S1 x0).trans r_x0) (by decide) (show (0 : Int) ≤ (0 : Int32).toInt ∧ (0 : Int32).toInt ≤ (90100 : Int) from (by decide))
  have kE_S2 : zK S2 = zK S1 := by rw [e154]; rfl
  have nE_S2 : zN S2 = zN S1 := by rw [e154]; rfl
  have R_S2 : A7 SZ S2 := a7_I R_S1 e154 ((congrFun kE_S1 x0).trans r_x0) (by decide)
  have : (zI S2 1 x0).toInt = 0 := by rw [e154]; exact (congrArg Int32.toInt (zI_self _ _ _ _)).trans (show (0 : Int32).toInt = 0 from rfl)
  refine ok_chk ((congrFun kE_S2 x1).trans ((congrFun kE_S1 x1).trans r_x1)) ?_
  obtain ⟨⟨r3, S3⟩, h_r3, T_S3, A_S3, -⟩ := t_f_X0_wipe (x0 := x1) (SZ := S2) T_S2 (a7_0 S2) ((congrFun kE_S2 x1).trans ((congrFun kE_S1 x1).trans r_x1))
  replace T_S3 : ZT S3 := T_S3
  replace A_S3 : A7 S2 S3 := A_S3
  refine ok_calR h_r3 ?_
  have q_S3 := fq_X0_wipe h_r3
  have kE_S3 : zK S3 = zK S2 := q_S3.2.2.1
  have nE_S3 : zN S3 = zN S2 := q_S3.2.2.2.1
  have R_S3 : A7 SZ S3 := a7_t R_S2 A_S3
  have : (zI S3 1 x0).toInt = (zI S2 1 x0).toInt := congrArg Int32.toInt ((((fz_X0_wipe h_r3) T_S2.2.2.2.2.1).2.2 x0 (by rw [((congrFun kE_S2 x0).trans ((congrFun kE_S1 x0).trans r_x0))]; decide)).2.2.1 1 (by rw [((congrFun kE_S2 x0).trans ((congrFun kE_S1 x0).trans r_x0))]; decide))
  refine ok_chk ((congrFun kE_S3 x0).trans ((congrFun kE_S2 x0).trans ((congrFun kE_S1 x0).trans r_x0))) ?_
  obtain ⟨⟨r4, S4⟩, h_r4, T_S4, A_S4, p_r4⟩ := t_f_X5_readMen (x0 := x0) (x1 := x1) (SZ := S3) T_S3 (a7_0 S3) ((congrFun kE_S3 x0).trans ((congrFun kE_S2 x0).trans ((congrFun kE_S1 x0).trans r_x0))) ((congrFun kE_S3 x1).trans ((congrFun kE_S2 x1).trans ((congrFun kE_S1 x1).trans r_x1)))
  replace T_S4 : ZT S4 := T_S4
  replace A_S4 : A7 S3 S4 := A_S4
  dsimp only at p_r4
  refine ok_calR h_r4 ?_
  have q_S4 := fq_X5_readMen h_r4
  have kE_S4 : zK S4 = zK S3 := q_S4.2.2.1
  have nE_S4 : zN S4 = zN S3 := q_S4.2.2.2.1
  have R_S4 : A7 SZ S4 := a7_t R_S3 A_S4
  refine ok_if (fun c155 => ?_) (fun c155 => ?_)
  ·
    replace c155 := ti_eqP (a := r4) (b := (0 : Int32)) c155 rfl (show (0 : Int32).toInt = 0 from rfl)
    unfold f_X5_readInto_145
    unfold f_X5_readInto_146
    refine ok_chk (by decide) ?_
    exact ok_ret ⟨T_S4, R_S4, (show (0 : Int) ≤ (0 : Int32).toInt ∧ (0 : Int32).toInt ≤ (1 : Int) from (by decide))⟩
  ·
    replace c155 := ti_eqN (a := r4) (b := (0 : Int32)) c155 rfl (show (0 : Int32).toInt = 0 from rfl)
    refine ok_chk ((congrFun kE_S4 x0).trans ((congrFun kE_S3 x0).trans ((congrFun kE_S2 x0).trans ((congrFun kE_S1 x0).trans r_x0)))) ?_
    have zl156 : (32 : Int32).toInt = 32 := rfl
    have j157 := J_5_1 T_S4 ((congrFun kE_S4 x0).trans ((congrFun kE_S3 x0).trans ((congrFun kE_S2 x0).trans ((congrFun kE_S1 x0).trans r_x0))))
    obtain ⟨⟨r5, S5⟩, h_r5, T_S5, A_S5, p_r5, p_r5_0, p_r5_1⟩ := t_f_X5_skip (x0 := x0) (x1 := (32 : Int32)) (SZ := S4) T_S4 (a7_0 S4) ((congrFun kE_S4 x0).trans ((congrFun kE_S3 x0).trans ((congrFun kE_S2 x0).trans ((congrFun kE_S1 x0).trans r_x0)))) (by have z0 : (32 : Int32).toInt = 32 := rfl; omega)
    replace T_S5 : ZT S5 := T_S5
    replace A_S5 : A7 S4 S5 := A_S5
    dsimp only at p_r5 p_r5_0 p_r5_1
    refine ok_calR h_r5 ?_
    have q_S5 := fq_X5_skip h_r5
    have kE_S5 : zK S5 = zK S4 := q_S5.2.2.1
    have nE_S5 : zN S5 = zN S4 := q_S5.2.2.2.1
    have R_S5 : A7 SZ S5 := a7_t R_S4 A_S5
    refine ok_if (fun c158 => ?_) (fun c158 => ?_)
    ·
      replace c158 := ti_eqP (a := r5) (b := (0 : Int32)) c158 rfl (show (0 : Int32).toInt = 0 from rfl)
      unfold f_X5_readInto_145
      unfold f_X5_readInto_146
      refine ok_chk (by decide) ?_
      exact ok_ret ⟨T_S5, R_S5, (show (0 : Int) ≤ (0 : Int32).toInt ∧ (0 : Int32).toInt ≤ (1 : Int) from (by decide))⟩
    ·
      replace c158 := ti_eqN (a := r5) (b := (0 : Int32)) c158 rfl (show (0 : Int32).toInt = 0 from rfl)
      refine ok_chk ((congrFun kE_S5 x0).trans ((congrFun kE_S4 x0).trans ((congrFun kE_S3 x0).trans ((congrFun kE_S2 x0).trans ((congrFun kE_S1 x0).trans r_x0))))) ?_
      obtain ⟨⟨r6, S6⟩, h_r6, T_S6, A_S6, p_r6⟩ := t_f_X5_readSide (x0 := x0) (x1 := x1) (SZ := S5) T_S5 (a7_0 S5) ((congrFun kE_S5 x0).trans ((congrFun kE_S4 x0).trans ((congrFun kE_S3 x0).trans ((congrFun kE_S2 x0).trans ((congrFun kE_S1 x0).trans r_x0))))) ((congrFun kE_S5 x1).trans ((congrFun kE_S4 x1).trans ((congrFun kE_S3 x1).trans ((congrFun kE_S2 x1).trans ((congrFun kE_S1 x1).trans r_x1)))))
      replace T_S6 : ZT S6 := T_S6
      replace A_S6 : A7 S5 S6 := A_S6
      dsimp only at p_r6
      refine ok_calR h_r6 ?_
      have q_S6 := fq_X5_readSide h_r6
      have kE_S6 : zK S6 = zK S5 := q_S6.2.2.1
      have nE_S6 : zN S6 = zN S5 := q_S6.2.2.2.1
      have R_S6 : A7 SZ S6 := a7_t R_S5 A_S6
      refine ok_if (fun c159 => ?_) (fun c159 => ?_)
      ·
        replace c159 := ti_eqP (a := r6) (b := (0 : Int32)) c159 rfl (show (0 : Int32).toInt = 0 from rfl)
        unfold f_X5_readInto_145
        unfold f_X5_readInto_146
        refine ok_chk (by decide) ?_
        exact ok_ret ⟨T_S6, R_S6, (show (0 : Int) ≤ (0 : Int32).toInt ∧ (0 : Int32).toInt ≤ (1 : Int) from (by decide))⟩
      ·
        replace c159 := ti_eqN (a := r6) (b := (0 : Int32)) c159 rfl (show (0 : Int32).toInt = 0 from rfl)
        refine ok_chk ((congrFun kE_S6 x0).trans ((congrFun kE_S5 x0).trans ((congrFun kE_S4 x0).trans ((congrFun kE_S3 x0).trans ((congrFun kE_S2 x0).trans ((congrFun kE_S1 x0).trans r_x0)))))) ?_
        have zl160 : (32 : Int32).toInt = 32 := rfl
        have j161 := J_5_1 T_S6 ((congrFun kE_S6 x0).trans ((congrFun kE_S5 x0).trans ((congrFun kE_S4 x0).trans ((congrFun kE_S3 x0).trans ((congrFun kE_S2 x0).trans ((congrFun kE_S1 x0).trans r_x0))))))
        obtain ⟨⟨r7, S7⟩, h_r7, T_S7, A_S7, p_r7, p_r7_0, p_r7_1⟩ := t_f_X5_skip (x0 := x0) (x1 := (32 : Int32)) (SZ := S6) T_S6 (a7_0 S6) ((congrFun kE_S6 x0).trans ((congrFun kE_S5 x0).trans ((congrFun kE_S4 x0).trans ((congrFun kE_S3 x0).trans ((congrFun kE_S2 x0).trans ((congrFun kE_S1 x0).trans r_x0)))))) (by have z0 : (32 : Int32).toInt = 32 := rfl; omega)
        replace T_S7 : ZT S7 := T_S7
        replace A_S7 : A7 S6 S7 := A_S7
        dsimp only at p_r7 p_r7_0 p_r7_1
        refine ok_calR h_r7 ?_
        have q_S7 := fq_X5_skip h_r7
        have kE_S7 : zK S7 = zK S6 := q_S7.2.2.1
        have nE_S7 : zN S7 = zN S6 := q_S7.2.2.2.1
        have R_S7 : A7 SZ S7 := a7_t R_S6 A_S7
        refine ok_if (fun c162 => ?_) (fun c162 => ?_)
        ·
          replace c162 := ti_eqP (a := r7) (b := (0 : Int32)) c162 rfl (show (0 : Int32).toInt = 0 from rfl)
          unfold f_X5_readInto_145
          unfold f_X5_readInto_146
          refine ok_chk (by decide) ?_
          exact ok_ret ⟨T_S7, R_S7, (show (0 : Int) ≤ (0 : Int32).toInt ∧ (0 : Int32).toInt ≤ (1 : Int) from (by decide))⟩
        ·
          replace c162 := ti_eqN (a := r7) (b := (0 : Int32)) c162 rfl (show (0 : Int32).toInt = 0 from rfl)
          refine ok_chk ((congrFun kE_S7 x0).trans ((congrFun kE_S6 x0).trans ((congrFun kE_S5 x0).trans ((congrFun kE_S4 x0).trans ((congrFun kE_S3 x0).trans ((congrFun kE_S2 x0).trans ((congrFun kE_S1 x0).trans r_x0))))))) ?_
          have j163 := J_5_1 T_S7 ((congrFun kE_S7 x0).trans ((congrFun kE_S6 x0).trans ((congrFun kE_S5 x0).trans ((congrFun kE_S4 x0).trans ((congrFun kE_S3 x0).trans ((congrFun kE_S2 x0).trans ((congrFun kE_S1 x0).trans r_x0)))))))
          obtain ⟨⟨r8, S8⟩, h_r8, T_S8, A_S8, p_r8⟩ := t_f_X5_readRights (x0 := x0) (x1 := x1) (SZ := S7) T_S7 (a7_0 S7) ((congrFun kE_S7 x0).trans ((congrFun kE_S6 x0).trans ((congrFun kE_S5 x0).trans ((congrFun kE_S4 x0).trans ((congrFun kE_S3 x0).trans ((congrFun kE_S2 x0).trans ((congrFun kE_S1 x0).trans r_x0))))))) ((congrFun kE_S7 x1).trans ((congrFun kE_S6 x1).trans ((congrFun kE_S5 x1).trans ((congrFun kE_S4 x1).trans ((congrFun kE_S3 x1).trans ((congrFun kE_S2 x1).trans ((congrFun kE_S1 x1).trans r_x1))))))) (by omega)
          replace T_S8 : ZT S8 := T_S8
          replace A_S8 : A7 S7 S8 := A_S8
          dsimp only at p_r8
          refine ok_calR h_r8 ?_
          have q_S8 := fq_X5_readRights h_r8
          have kE_S8 : zK S8 = zK S7 := q_S8.2.2.1
          have nE_S8 : zN S8 = zN S7 := q_S8.2.2.2.1
          have R_S8 : A7 SZ S8 := a7_t R_S7 A_S8
          refine ok_if (fun c164 => ?_) (fun c164 => ?_)
          ·
            replace c164 := ti_eqP (a := r8) (b := (0 : Int32)) c164 rfl (show (0 : Int32).toInt = 0 from rfl)
            unfold f_X5_readInto_145
            unfold f_X5_readInto_146
            refine ok_chk (by decide) ?_
            exact ok_ret ⟨T_S8, R_S8, (show (0 : Int) ≤ (0 : Int32).toInt ∧ (0 : Int32).toInt ≤ (1 : Int) from (by decide))⟩
          ·
            replace c164 := ti_eqN (a := r8) (b := (0 : Int32)) c164 rfl (show (0 : Int32).toInt = 0 from rfl)
            refine ok_chk ((congrFun kE_S8 x0).trans ((congrFun kE_S7 x0).trans ((congrFun kE_S6 x0).trans ((congrFun kE_S5 x0).trans ((congrFun kE_S4 x0).trans ((congrFun kE_S3 x0).trans ((congrFun kE_S2 x0).trans ((congrFun kE_S1 x0).trans r_x0)))))))) ?_
            have zl165 : (32 : Int32).toInt = 32 := rfl
            have j166 := J_5_1 T_S8 ((congrFun kE_S8 x0).trans ((congrFun kE_S7 x0).trans ((congrFun kE_S6 x0).trans ((congrFun kE_S5 x0).trans ((congrFun kE_S4 x0).trans ((congrFun kE_S3 x0).trans ((congrFun kE_S2 x0).trans ((congrFun kE_S1 x0).trans r_x0))))))))
            obtain ⟨⟨r9, S9⟩, h_r9, T_S9, A_S9, p_r9, p_r9_0, p_r9_1⟩ := t_f_X5_skip (x0 := x0) (x1 := (32 : Int32)) (SZ := S8) T_S8 (a7_0 S8) ((congrFun kE_S8 x0).trans ((congrFun kE_S7 x0).trans ((congrFun kE_S6 x0).trans ((congrFun kE_S5 x0).trans ((congrFun kE_S4 x0).trans ((congrFun kE_S3 x0).trans ((congrFun kE_S2 x0).trans ((congrFun kE_S1 x0).trans r_x0)))))))) (by have z0 : (32 : Int32).toInt = 32 := rfl; omega)
            replace T_S9 : ZT S9 := T_S9
            replace A_S9 : A7 S8 S9 := A_S9
            dsimp only at p_r9 p_r9_0 p_r9_1
            refine ok_calR h_r9 ?_
            have q_S9 := fq_X5_skip h_r9
            have kE_S9 : zK S9 = zK S8 := q_S9.2.2.1
            have nE_S9 : zN S9 = zN S8 := q_S9.2.2.2.1
            have R_S9 : A7 SZ S9 := a7_t R_S8 A_S9
            refine ok_if (fun c167 => ?_) (fun c167 => ?_)
            ·
              replace c167 := ti_eqP (a := r9) (b := (0 : Int32)) c167 rfl (show (0 : Int32).toInt = 0 from rfl)
              unfold f_X5_readInto_145
              unfold f_X5_readInto_146
              refine ok_chk (by decide) ?_
              exact ok_ret ⟨T_S9, R_S9, (show (0 : Int) ≤ (0 : Int32).toInt ∧ (0 : Int32).toInt ≤ (1 : Int) from (by decide))⟩
            ·
              replace c167 := ti_eqN (a := r9) (b := (0 : Int32)) c167 rfl (show (0 : Int32).toInt = 0 from rfl)
              refine ok_chk ((congrFun kE_S9 x0).trans ((congrFun kE_S8 x0).trans ((congrFun kE_S7 x0).trans ((congrFun kE_S6 x0).trans ((congrFun kE_S5 x0).trans ((congrFun kE_S4 x0).trans ((congrFun kE_S3 x0).trans ((congrFun kE_S2 x0).trans ((congrFun kE_S1 x0).trans r_x0))))))))) ?_
              have j168 := J_5_1 T_S9 ((congrFun kE_S9 x0).trans ((congrFun kE_S8 x0).trans ((congrFun kE_S7 x0).trans ((congrFun kE_S6 x0).trans ((congrFun kE_S5 x0).trans ((congrFun kE_S4 x0).trans ((congrFun kE_S3 x0).trans ((congrFun kE_S2 x0).trans ((congrFun kE_S1 x0).trans r_x0)))))))))
              obtain ⟨⟨r10, S10⟩, h_r10, T_S10, A_S10, p_r10⟩ := t_f_X5_readPassed (x0 := x0) (x1 := x1) (SZ := S9) T_S9 (a7_0 S9) ((congrFun kE_S9 x0).trans ((congrFun kE_S8 x0).trans ((congrFun kE_S7 x0).trans ((congrFun kE_S6 x0).trans ((congrFun kE_S5 x0).trans ((congrFun kE_S4 x0).trans ((congrFun kE_S3 x0).trans ((congrFun kE_S2 x0).trans ((congrFun kE_S1 x0).trans r_x0))))))))) ((congrFun kE_S9 x1).trans ((congrFun kE_S8 x1).trans ((congrFun kE_S7 x1).trans ((congrFun kE_S6 x1).trans ((congrFun kE_S5 x1).trans ((congrFun kE_S4 x1).trans ((congrFun kE_S3 x1).trans ((congrFun kE_S2 x1).trans ((congrFun kE_S1 x1).trans r_x1))))))))) (by omega)
              replace T_S10 : ZT S10 := T_S10
              replace A_S10 : A7 S9 S10 := A_S10
              dsimp only at p_r10
              refine ok_calR h_r10 ?_
              have q_S10 := fq_X5_readPassed h_r10
              have kE_S10 : zK S10 = zK S9 := q_S10.2.2.1
              have nE_S10 : zN S10 = zN S9 := q_S10.2.2.2.1
              have R_S10 : A7 SZ S10 := a7_t R_S9 A_S10
              refine ok_if (fun c169 => ?_) (fun c169 => ?_)
              ·
                replace c169 := ti_eqP (a := r10) (b := (0 : Int32)) c169 rfl (show (0 : Int32).toInt = 0 from rfl)
                unfold f_X5_readInto_145
                unfold f_X5_readInto_146
                refine ok_chk (by decide) ?_
                exact ok_ret ⟨T_S10, R_S10, (show (0 : Int) ≤ (0 : Int32).toInt ∧ (0 : Int32).toInt ≤ (1 : Int) from (by decide))⟩
              ·
                replace c169 := ti_eqN (a := r10) (b := (0 : Int32)) c169 rfl (show (0 : Int32).toInt = 0 from rfl)
                refine ok_chk ((congrFun kE_S10 x0).trans ((congrFun kE_S9 x0).trans ((congrFun kE_S8 x0).trans ((congrFun kE_S7 x0).trans ((congrFun kE_S6 x0).trans ((congrFun kE_S5 x0).trans ((congrFun kE_S4 x0).trans ((congrFun kE_S3 x0).trans ((congrFun kE_S2 x0).trans ((congrFun kE_S1 x0).trans r_x0)))))))))) ?_
                have zl170 : (32 : Int32).toInt = 32 := rfl
                have j171 := J_5_1 T_S10 ((congrFun kE_S10 x0).trans ((congrFun kE_S9 x0).trans ((congrFun kE_S8 x0).trans ((congrFun kE_S7 x0).trans ((congrFun kE_S6 x0).trans ((congrFun kE_S5 x0).trans ((congrFun kE_S4 x0).trans ((congrFun kE_S3 x0).trans ((congrFun kE_S2 x0).trans ((congrFun kE_S1 x0).trans r_x0))))))))))
                obtain ⟨⟨r11, S11⟩, h_r11, T_S11, A_S11, p_r11, p_r11_0, p_r11_1⟩ := t_f_X5_skip (x0 := x0) (x1 := (32 : Int32)) (SZ := S10) T_S10 (a7_0 S10) ((congrFun kE_S10 x0).trans ((congrFun kE_S9 x0).trans ((congrFun kE_S8 x0).trans ((congrFun kE_S7 x0).trans ((congrFun kE_S6 x0).trans ((congrFun kE_S5 x0).trans ((congrFun kE_S4 x0).trans ((congrFun kE_S3 x0).trans ((congrFun kE_S2 x0).trans ((congrFun kE_S1 x0).trans r_x0)))))))))) (by have z0 : (32 : Int32).toInt = 32 := rfl; omega)
                replace T_S11 : ZT S11 := T_S11
                replace A_S11 : A7 S10 S11 := A_S11
                dsimp only at p_r11 p_r11_0 p_r11_1
                refine ok_calR h_r11 ?_
                have q_S11 := fq_X5_skip h_r11
                have kE_S11 : zK S11 = zK S10 := q_S11.2.2.1
                have nE_S11 : zN S11 = zN S10 := q_S11.2.2.2.1
                have R_S11 : A7 SZ S11 := a7_t R_S10 A_S11
                refine ok_if (fun c172 => ?_) (fun c172 => ?_)
                ·
                  replace c172 := ti_eqP (a := r11) (b := (0 : Int32)) c172 rfl (show (0 : Int32).toInt = 0 from rfl)
                  unfold f_X5_readInto_145
                  unfold f_X5_readInto_146
                  refine ok_chk (by decide) ?_
                  exact ok_ret ⟨T_S11, R_S11, (show (0 : Int) ≤ (0 : Int32).toInt ∧ (0 : Int32).toInt ≤ (1 : Int) from (by decide))⟩
                ·
                  replace c172 := ti_eqN (a := r11) (b := (0 : Int32)) c172 rfl (show (0 : Int32).toInt = 0 from rfl)
                  refine ok_chk ((congrFun kE_S11 x0).trans ((congrFun kE_S10 x0).trans ((congrFun kE_S9 x0).trans ((congrFun kE_S8 x0).trans ((congrFun kE_S7 x0).trans ((congrFun kE_S6 x0).trans ((congrFun kE_S5 x0).trans ((congrFun kE_S4 x0).trans ((congrFun kE_S3 x0).trans ((congrFun kE_S2 x0).trans ((congrFun kE_S1 x0).trans r_x0))))))))))) ?_
                  obtain ⟨⟨r12, S12⟩, h_r12, T_S12, A_S12, -⟩ := t_f_X5_readNumber (x0 := x0) (SZ := S11) T_S11 (a7_0 S11) ((congrFun kE_S11 x0).trans ((congrFun kE_S10 x0).trans ((congrFun kE_S9 x0).trans ((congrFun kE_S8 x0).trans ((congrFun kE_S7 x0).trans ((congrFun kE_S6 x0).trans ((congrFun kE_S5 x0).trans ((congrFun kE_S4 x0).trans ((congrFun kE_S3 x0).trans ((congrFun kE_S2 x0).trans ((congrFun kE_S1 x0).trans r_x0)))))))))))
                  replace T_S12 : ZT S12 := T_S12
                  replace A_S12 : A7 S11 S12 := A_S12
                  refine ok_calR h_r12 ?_
                  have q_S12 := fq_X5_readNumber h_r12
                  have kE_S12 : zK S12 = zK S11 := q_S12.2.2.1
                  have nE_S12 : zN S12 = zN S11 := q_S12.2.2.2.1
                  have R_S12 : A7 SZ S12 := a7_t R_S11 A_S12
                  refine ok_if (fun c173 => ?_) (fun c173 => ?_)
                  ·
                    replace c173 := ti_ltP (a := r12) (b := (0 : Int32)) c173 rfl (show (0 : Int32).toInt = 0 from rfl)
                    unfold f_X5_readInto_145
                    unfold f_X5_readInto_146
                    refine ok_chk (by decide) ?_
                    exact ok_ret ⟨T_S12, R_S12, (show (0 : Int) ≤ (0 : Int32).toInt ∧ (0 : Int32).toInt ≤ (1 : Int) from (by decide))⟩
                  ·
                    replace c173 := ti_ltN (a := r12) (b := (0 : Int32)) c173 rfl (show (0 : Int32).toInt = 0 from rfl)
                    refine ok_chk ((congrFun kE_S12 x0).trans ((congrFun kE_S11 x0).trans ((congrFun kE_S10 x0).trans ((congrFun kE_S9 x0).trans ((congrFun kE_S8 x0).trans ((congrFun kE_S7 x0).trans ((congrFun kE_S6 x0).trans ((congrFun kE_S5 x0).trans ((congrFun kE_S4 x0).trans ((congrFun kE_S3 x0).trans ((congrFun kE_S2 x0).trans ((congrFun kE_S1 x0).trans r_x0)))))))))))) ?_
                    have zl174 : (32 : Int32).toInt = 32 := rfl
                    have j175 := J_5_1 T_S12 ((congrFun kE_S12 x0).trans ((congrFun kE_S11 x0).trans ((congrFun kE_S10 x0).trans ((congrFun kE_S9 x0).trans ((congrFun kE_S8 x0).trans ((congrFun kE_S7 x0).trans ((congrFun kE_S6 x0).trans ((congrFun kE_S5 x0).trans ((congrFun kE_S4 x0).trans ((congrFun kE_S3 x0).trans ((congrFun kE_S2 x0).trans ((congrFun kE_S1 x0).trans r_x0))))))))))))
                    obtain ⟨⟨r13, S13⟩, h_r13, T_S13, A_S13, p_r13, p_r13_0, p_r13_1⟩ := t_f_X5_skip (x0 := x0) (x1 := (32 : Int32)) (SZ := S12) T_S12 (a7_0 S12) ((congrFun kE_S12 x0).trans ((congrFun kE_S11 x0).trans ((congrFun kE_S10 x0).trans ((congrFun kE_S9 x0).trans ((congrFun kE_S8 x0).trans ((congrFun kE_S7 x0).trans ((congrFun kE_S6 x0).trans ((congrFun kE_S5 x0).trans ((congrFun kE_S4 x0).trans ((congrFun kE_S3 x0).trans ((congrFun kE_S2 x0).trans ((congrFun kE_S1 x0).trans r_x0)))))))))))) (by have z0 : (32 : Int32).toInt = 32 := rfl; omega)
                    replace T_S13 : ZT S13 := T_S13
                    replace A_S13 : A7 S12 S13 := A_S13
                    dsimp only at p_r13 p_r13_0 p_r13_1
                    refine ok_calR h_r13 ?_
                    have q_S13 := fq_X5_skip h_r13
                    have kE_S13 : zK S13 = zK S12 := q_S13.2.2.1
                    have nE_S13 : zN S13 = zN S12 := q_S13.2.2.2.1
                    have R_S13 : A7 SZ S13 := a7_t R_S12 A_S13
                    refine ok_if (fun c176 => ?_) (fun c176 => ?_)
                    ·
                      replace c176 := ti_eqP (a := r13) (b := (0 : Int32)) c176 rfl (show (0 : Int32).toInt = 0 from rfl)
                      unfold f_X5_readInto_145
                      unfold f_X5_readInto_146
                      refine ok_chk (by decide) ?_
                      exact ok_ret ⟨T_S13, R_S13, (show (0 : Int) ≤ (0 : Int32).toInt ∧ (0 : Int32).toInt ≤ (1 : Int) from (by decide))⟩
                    ·
                      replace c176 := ti_eqN (a := r13) (b := (0 : Int32)) c176 rfl (show (0 : Int32).toInt = 0 from rfl)
                      refine ok_chk ((congrFun kE_S13 x0).trans ((congrFun kE_S12 x0).trans ((congrFun kE_S11 x0).trans ((congrFun kE_S10 x0).trans ((congrFun kE_S9 x0).trans ((congrFun kE_S8 x0).trans ((congrFun kE_S7 x0).trans ((congrFun kE_S6 x0).trans ((congrFun kE_S5 x0).trans ((congrFun kE_S4 x0).trans ((congrFun kE_S3 x0).trans ((congrFun kE_S2 x0).trans ((congrFun kE_S1 x0).trans r_x0))))))))))))) ?_
                      obtain ⟨⟨r14, S14⟩, h_r14, T_S14, A_S14, p_r14⟩ := t_f_X5_readMoveNumber (x0 := x0) (x1 := x1) (SZ := S13) T_S13 (a7_0 S13) ((congrFun kE_S13 x0).trans ((congrFun kE_S12 x0).trans ((congrFun kE_S11 x0).trans ((congrFun kE_S10 x0).trans ((congrFun kE_S9 x0).trans ((congrFun kE_S8 x0).trans ((congrFun kE_S7 x0).trans ((congrFun kE_S6 x0).trans ((congrFun kE_S5 x0).trans ((congrFun kE_S4 x0).trans ((congrFun kE_S3 x0).trans ((congrFun kE_S2 x0).trans ((congrFun kE_S1 x0).trans r_x0))))))))))))) ((congrFun kE_S13 x1).trans ((congrFun kE_S12 x1).trans ((congrFun kE_S11 x1).trans ((congrFun kE_S10 x1).trans ((congrFun kE_S9 x1).trans ((congrFun kE_S8 x1).trans ((congrFun kE_S7 x1).trans ((congrFun kE_S6 x1).trans ((congrFun kE_S5 x1).trans ((congrFun kE_S4 x1).trans ((congrFun kE_S3 x1).trans ((congrFun kE_S2 x1).trans ((congrFun kE_S1 x1).trans r_x1)))))))))))))
                      replace T_S14 : ZT S14 := T_S14
                      replace A_S14 : A7 S13 S14 := A_S14
                      dsimp only at p_r14
                      refine ok_calR h_r14 ?_
                      have q_S14 := fq_X5_readMoveNumber h_r14
                      have kE_S14 : zK S14 = zK S13 := q_S14.2.2.1
                      have nE_S14 : zN S14 = zN S13 := q_S14.2.2.2.1
                      have R_S14 : A7 SZ S14 := a7_t R_S13 A_S14
                      refine ok_if (fun c177 => ?_) (fun c177 => ?_)
                      ·
                        replace c177 := ti_eqP (a := r14) (b := (0 : Int32)) c177 rfl (show (0 : Int32).toInt = 0 from rfl)
                        unfold f_X5_readInto_145
                        unfold f_X5_readInto_146
                        refine ok_chk (by decide) ?_
                        exact ok_ret ⟨T_S14, R_S14, (show (0 : Int) ≤ (0 : Int32).toInt ∧ (0 : Int32).toInt ≤ (1 : Int) from (by decide))⟩
                      ·
                        replace c177 := ti_eqN (a := r14) (b := (0 : Int32)) c177 rfl (show (0 : Int32).toInt = 0 from rfl)
                        refine ok_chk ((congrFun kE_S14 x0).trans ((congrFun kE_S13 x0).trans ((congrFun kE_S12 x0).trans ((congrFun kE_S11 x0).trans ((congrFun kE_S10 x0).trans ((congrFun kE_S9 x0).trans ((congrFun kE_S8 x0).trans ((congrFun kE_S7 x0).trans ((congrFun kE_S6 x0).trans ((congrFun kE_S5 x0).trans ((congrFun kE_S4 x0).trans ((congrFun kE_S3 x0).trans ((congrFun kE_S2 x0).trans ((congrFun kE_S1 x0).trans r_x0)))))))))))))) ?_
                        refine ok_chk ((congrFun kE_S14 x0).trans ((congrFun kE_S13 x0).trans ((congrFun kE_S12 x0).trans ((congrFun kE_S11 x0).trans ((congrFun kE_S10 x0).trans ((congrFun kE_S9 x0).trans ((congrFun kE_S8 x0).trans ((congrFun kE_S7 x0).trans ((congrFun kE_S6 x0).trans ((congrFun kE_S5 x0).trans ((congrFun kE_S4 x0).trans ((congrFun kE_S3 x0).trans ((congrFun kE_S2 x0).trans ((congrFun kE_S1 x0).trans r_x0)))))))))))))) ?_
                        obtain ⟨b15, p_b15, k_b15, c_b15⟩ := T_5_0 T_S14 ((congrFun kE_S14 x0).trans ((congrFun kE_S13 x0).trans ((congrFun kE_S12 x0).trans ((congrFun kE_S11 x0).trans ((congrFun kE_S10 x0).trans ((congrFun kE_S9 x0).trans ((congrFun kE_S8 x0).trans ((congrFun kE_S7 x0).trans ((congrFun kE_S6 x0).trans ((congrFun kE_S5 x0).trans ((congrFun kE_S4 x0).trans ((congrFun kE_S3 x0).trans ((congrFun kE_S2 x0).trans ((congrFun kE_S1 x0).trans r_x0))))))))))))))
                        refine ok_calR p_b15 ?_
                        refine ok_chk k_b15 ?_
                        have j178 := J61_2 T_S14 k_b15 c_b15
                        obtain ⟨r16, h_r16, p_r16⟩ := roz (t_f_X6_size (x0 := b15) T_S14 k_b15)
                        dsimp only at p_r16
                        refine ok_calR h_r16 ?_
                        have j179 := J_5_1 T_S14 ((congrFun kE_S14 x0).trans ((congrFun kE_S13 x0).trans ((congrFun kE_S12 x0).trans ((congrFun kE_S11 x0).trans ((congrFun kE_S10 x0).trans ((congrFun kE_S9 x0).trans ((congrFun kE_S8 x0).trans ((congrFun kE_S7 x0).trans ((congrFun kE_S6 x0).trans ((congrFun kE_S5 x0).trans ((congrFun kE_S4 x0).trans ((congrFun kE_S3 x0).trans ((congrFun kE_S2 x0).trans ((congrFun kE_S1 x0).trans r_x0))))))))))))))
                        refine ok_if (fun c180 => ?_) (fun c180 => ?_)
                        ·
                          replace c180 := ti_eqP (a := (zI S14 1 x0)) (b := r16) c180 rfl rfl
                          obtain ⟨r17, h_r17, p_r17⟩ := roz (t_f_X5_hasSoundMen (x0 := x1) T_S14 ((congrFun kE_S14 x1).trans ((congrFun kE_S13 x1).trans ((congrFun kE_S12 x1).trans ((congrFun kE_S11 x1).trans ((congrFun kE_S10 x1).trans ((congrFun kE_S9 x1).trans ((congrFun kE_S8 x1).trans ((congrFun kE_S7 x1).trans ((congrFun kE_S6 x1).trans ((congrFun kE_S5 x1).trans ((congrFun kE_S4 x1).trans ((congrFun kE_S3 x1).trans ((congrFun kE_S2 x1).trans ((congrFun kE_S1 x1).trans r_x1)))))))))))))))
                          dsimp only at p_r17
                          refine ok_calR h_r17 ?_
                          refine ok_if (fun c181 => ?_) (fun c181 => ?_)
                          ·
                            replace c181 := ti_eqP (a := r17) (b := (0 : Int32)) c181 rfl (show (0 : Int32).toInt = 0 from rfl)
                            unfold f_X5_readInto_145
                            unfold f_X5_readInto_146
                            refine ok_chk (by decide) ?_
                            exact ok_ret ⟨T_S14, R_S14, (show (0 : Int) ≤ (0 : Int32).toInt ∧ (0 : Int32).toInt ≤ (1 : Int) from (by decide))⟩
                          ·
                            replace c181 := ti_eqN (a := r17) (b := (0 : Int32)) c181 rfl (show (0 : Int32).toInt = 0 from rfl)
                            obtain ⟨r18, h_r18, p_r18⟩ := roz (t_f_X5_hasSoundRights (x0 := x1) T_S14 ((congrFun kE_S14 x1).trans ((congrFun kE_S13 x1).trans ((congrFun kE_S12 x1).trans ((congrFun kE_S11 x1).trans ((congrFun kE_S10 x1).trans ((congrFun kE_S9 x1).trans ((congrFun kE_S8 x1).trans ((congrFun kE_S7 x1).trans ((congrFun kE_S6 x1).trans ((congrFun kE_S5 x1).trans ((congrFun kE_S4 x1).trans ((congrFun kE_S3 x1).trans ((congrFun kE_S2 x1).trans ((congrFun kE_S1 x1).trans r_x1)))))))))))))))
                            dsimp only at p_r18
                            refine ok_calR h_r18 ?_
                            refine ok_if (fun c182 => ?_) (fun c182 => ?_)
                            ·
                              replace c182 := ti_eqP (a := r18) (b := (0 : Int32)) c182 rfl (show (0 : Int32).toInt = 0 from rfl)
                              unfold f_X5_readInto_145
                              unfold f_X5_readInto_146
                              refine ok_chk (by decide) ?_
                              exact ok_ret ⟨T_S14, R_S14, (show (0 : Int) ≤ (0 : Int32).toInt ∧ (0 : Int32).toInt ≤ (1 : Int) from (by decide))⟩
                            ·
                              replace c182 := ti_eqN (a := r18) (b := (0 : Int32)) c182 rfl (show (0 : Int32).toInt = 0 from rfl)
                              obtain ⟨r19, h_r19, p_r19⟩ := roz (t_f_X5_hasSoundPassed (x0 := x1) T_S14 ((congrFun kE_S14 x1).trans ((congrFun kE_S13 x1).trans ((congrFun kE_S12 x1).trans ((congrFun kE_S11 x1).trans ((congrFun kE_S10 x1).trans ((congrFun kE_S9 x1).trans ((congrFun kE_S8 x1).trans ((congrFun kE_S7 x1).trans ((congrFun kE_S6 x1).trans ((congrFun kE_S5 x1).trans ((congrFun kE_S4 x1).trans ((congrFun kE_S3 x1).trans ((congrFun kE_S2 x1).trans ((congrFun kE_S1 x1).trans r_x1)))))))))))))))
                              dsimp only at p_r19
                              refine ok_calR h_r19 ?_
                              refine ok_if (fun c183 => ?_) (fun c183 => ?_)
                              ·
                                replace c183 := ti_eqP (a := r19) (b := (0 : Int32)) c183 rfl (show (0 : Int32).toInt = 0 from rfl)
                                unfold f_X5_readInto_145
                                unfold f_X5_readInto_146
                                refine ok_chk (by decide) ?_
                                exact ok_ret ⟨T_S14, R_S14, (show (0 : Int) ≤ (0 : Int32).toInt ∧ (0 : Int32).toInt ≤ (1 : Int) from (by decide))⟩
                              ·
                                replace c183 := ti_eqN (a := r19) (b := (0 : Int32)) c183 rfl (show (0 : Int32).toInt = 0 from rfl)
                                unfold f_X5_readInto_146
                                refine ok_chk (by decide) ?_
                                exact ok_ret ⟨T_S14, R_S14, (show (0 : Int) ≤ (1 : Int32).toInt ∧ (1 : Int32).toInt ≤ (1 : Int) from (by decide))⟩
                        ·
                          replace c180 := ti_eqN (a := (zI S14 1 x0)) (b := r16) c180 rfl rfl
                          unfold f_X5_readInto_145
                          unfold f_X5_readInto_146
                          refine ok_chk (by decide) ?_
                          exact ok_ret ⟨T_S14, R_S14, (show (0 : Int) ≤ (0 : Int32).toInt ∧ (0 : Int32).toInt ≤ (1 : Int) from (by decide))⟩
theorem t_f_X5_readInto {SZ S : ZS} {x0 : Nat} {x1 : Nat} {x2 : Nat} (hT : ZT S) (hR : A7 SZ S) (r_x0 : zK S x0 = 5) (r_x1 : zK S x1 = 0) (r_x2 : zK S x2 = 6) (c_x2 : rc x2 ≤ 2) : Ok (f_X5_readInto x0 x1 x2 S) (fun o => ZT o.2 ∧ A7 SZ o.2 ∧ ((0 : Int) ≤ o.1.toInt ∧ o.1.toInt ≤ (1 : Int))) := t_f_X5_readInto_0 hT hR r_x0 r_x1 r_x2 c_x2
theorem t_f_X2_begin_0 {SZ S : ZS} {x0 : Nat} {x1 : Nat} (hT : ZT S) (hR : A7 SZ S) (r_x0 : zK S x0 = 2) (r_x1 : zK S x1 = 6) (c_x1 : rc x1 ≤ 2) : Ok (f_X2_begin_0 x0 x1 S) (fun o => ZT o.2 ∧ A7 SZ o.2 ∧ True) := by
  unfold f_X2_begin_0
  refine ok_chk r_x0 ?_
  refine ok_bnd (fun S1 e184 => ?_)
  have T_S1 : ZT S1 := e184.symm ▸ zt_P hT r_x0 (by decide) (Or.inr ⟨r_x1, rfl⟩) ⟨(Nat.zero_le _), c_x1⟩
  have kE_S1 : zK S1 = zK S := by rw [e184]; rfl
  have nE_S1 : zN S1 = zN S := by rw [e184]; rfl
  have R_S1 : A7 SZ S1 := a7_P hR e184 r_x0 (by decide)
  refine ok_chk ((congrFun kE_S1 x0).trans r_x0) ?_
  obtain ⟨b2, p_b2, k_b2⟩ := T_2_3 T_S1 ((congrFun kE_S1 x0).trans r_x0)
  have lo_b2 := M_2_3 T_S1 ((congrFun kE_S1 x0).trans r_x0) p_b2
  refine ok_calR p_b2 ?_
  refine ok_chk k_b2 ?_
  obtain ⟨⟨r3, S3⟩, h_r3, T_S3, A_S3, -⟩ := t_f_X1_wipe (x0 := b2) (SZ := S1) T_S1 (a7_0 S1) k_b2
  replace T_S3 : ZT S3 := T_S3
  replace A_S3 : A7 S1 S3 := A_S3
  refine ok_calR h_r3 ?_
  have q_S3 := fq_X1_wipe h_r3
  have kE_S3 : zK S3 = zK S1 := q_S3.2.2.1
  have nE_S3 : zN S3 = zN S1 := q_S3.2.2.2.1
  have R_S3 : A7 SZ S3 := a7_t R_S1 A_S3
  refine ok_chk ((congrFun kE_S3 x0).trans ((congrFun kE_S1 x0).trans r_x0)) ?_
  refine ok_bnd (fun S4 e185 => ?_)
  have T_S4 : ZT S4 := e185.symm ▸ zt_I T_S3 ((congrFun kE_S3 x0).trans ((congrFun kE_S1 x0).trans r_x0)) (by decide) (show (0 : Int) ≤ (0 : Int32).toInt ∧ (0 : Int32).toInt ≤ (90100 : Int) from (by decide))
  have kE_S4 : zK S4 = zK S3 := by rw [e185]; rfl
  have nE_S4 : zN S4 = zN S3 := by rw [e185]; rfl
  have R_S4 : A7 SZ S4 := a7_I R_S3 e185 ((congrFun kE_S3 x0).trans ((congrFun kE_S1 x0).trans r_x0)) (by decide)
  refine ok_chk ((congrFun kE_S4 x0).trans ((congrFun kE_S3 x0).trans ((congrFun kE_S1 x0).trans r_x0))) ?_
  refine ok_bnd (fun S5 e186 => ?_)
  have T_S5 : ZT S5 := e186.symm ▸ zt_W T_S4 ((congrFun kE_S4 x0).trans ((congrFun kE_S3 x0).trans ((congrFun kE_S1 x0).trans r_x0))) (by decide) rfl
  have kE_S5 : zK S5 = zK S4 := by rw [e186]; rfl
  have nE_S5 : zN S5 = zN S4 := by rw [e186]; rfl
  have R_S5 : A7 SZ S5 := a7_I R_S4 e186 ((congrFun kE_S4 x0).trans ((congrFun kE_S3 x0).trans ((congrFun kE_S1 x0).trans r_x0))) (by decide)
  exact ok_ret ⟨T_S5, R_S5, trivial⟩
theorem t_f_X2_begin {SZ S : ZS} {x0 : Nat} {x1 : Nat} (hT : ZT S) (hR : A7 SZ S) (r_x0 : zK S x0 = 2) (r_x1 : zK S x1 = 6) (c_x1 : rc x1 ≤ 2) : Ok (f_X2_begin x0 x1 S) (fun o => ZT o.2 ∧ A7 SZ o.2 ∧ True) := t_f_X2_begin_0 hT hR r_x0 r_x1 c_x1
theorem t_f_X2_exchange_0 {SZ S : ZS} {x0 : Nat} {x1 : Nat} (hT : ZT S) (hR : A7 SZ S) (r_x0 : zK S x0 = 2) (r_x1 : zK S x1 = 1) (q0 : 4 ≤ rc x1) : Ok (f_X2_exchange_0 x0 x1 S) (fun o => ZT o.2 ∧ A7 SZ o.2 ∧ (zK o.2 o.1 = 1) ∧ (4 ≤ rc o.1)) := by
  unfold f_X2_exchange_0
  refine ok_chk r_x0 ?_
  obtain ⟨b1, p_b1, k_b1⟩ := T_2_3 hT r_x0
  have lo_b1 := M_2_3 hT r_x0 p_b1
  refine ok_calR p_b1 ?_
  refine ok_chk r_x0 ?_
  refine ok_bnd (fun S2 e187 => ?_)
  have T_S2 : ZT S2 := e187.symm ▸ zt_P hT r_x0 (by decide) (Or.inr ⟨r_x1, rfl⟩) ⟨q0, (rc_le _)⟩
  have kE_S2 : zK S2 = zK S := by rw [e187]; rfl
  have nE_S2 : zN S2 = zN S := by rw [e187]; rfl
  have R_S2 : A7 SZ S2 := a7_P hR e187 r_x0 (by decide)
  exact ok_ret ⟨T_S2, R_S2, ((congrFun kE_S2 b1).trans k_b1), (by show 4 ≤ rc b1; exact lo_b1)⟩
theorem t_f_X2_exchange {SZ S : ZS} {x0 : Nat} {x1 : Nat} (hT : ZT S) (hR : A7 SZ S) (r_x0 : zK S x0 = 2) (r_x1 : zK S x1 = 1) (q0 : 4 ≤ rc x1) : Ok (f_X2_exchange x0 x1 S) (fun o => ZT o.2 ∧ A7 SZ o.2 ∧ (zK o.2 o.1 = 1) ∧ (4 ≤ rc o.1)) := t_f_X2_exchange_0 hT hR r_x0 r_x1 q0
theorem t_f_X2_fault_0 {S : ZS} {x0 : Nat} (hT : ZT S) (r_x0 : zK S x0 = 2) : Ok (f_X2_fault_0 x0 S) (fun o => o.2 = S ∧ True) := by
  unfold f_X2_fault_0
  refine ok_chk r_x0 ?_
  exact ok_ret ⟨rfl, trivial⟩
theorem t_f_X2_fault {S : ZS} {x0 : Nat} (hT : ZT S) (r_x0 : zK S x0 = 2) : Ok (f_X2_fault x0 S) (fun o => o.2 = S ∧ True) := t_f_X2_fault_0 hT r_x0
theorem t_f_X2_refuse_0 {SZ S : ZS} {x0 : Nat} {x1 : Int32} {x2 : Int32} (hT : ZT S) (hR : A7 SZ S) (r_x0 : zK S x0 = 2) : Ok (f_X2_refuse_0 x0 x1 x2 S) (fun o => ZT o.2 ∧ A7 SZ o.2 ∧ ((0 : Int) ≤ o.1.toInt ∧ o.1.toInt ≤ (0 : Int))) := by
  unfold f_X2_refuse_0
  refine ok_bnd (fun v1 e188 => ?_)
  refine ok_bnd (fun v2 e189 => ?_)
  refine ok_chk r_x0 ?_
  refine ok_bnd (fun S3 e190 => ?_)
  have T_S3 : ZT S3 := e190.symm ▸ zt_W hT r_x0 (by decide) rfl
  have kE_S3 : zK S3 = zK S := by rw [e190]; rfl
  have nE_S3 : zN S3 = zN S := by rw [e190]; rfl
  have R_S3 : A7 SZ S3 := a7_I hR e190 r_x0 (by decide)
  refine ok_chk (by decide) ?_
  exact ok_ret ⟨T_S3, R_S3, (show (0 : Int) ≤ (0 : Int32).toInt ∧ (0 : Int32).toInt ≤ (0 : Int) from (by decide))⟩
theorem t_f_X2_refuse {SZ S : ZS} {x0 : Nat} {x1 : Int32} {x2 : Int32} (hT : ZT S) (hR : A7 SZ S) (r_x0 : zK S x0 = 2) : Ok (f_X2_refuse x0 x1 x2 S) (fun o => ZT o.2 ∧ A7 SZ o.2 ∧ ((0 : Int) ≤ o.1.toInt ∧ o.1.toInt ≤ (0 : Int))) := t_f_X2_refuse_0 hT hR r_x0
theorem t_f_X2_skipBlanks_0s {SZ S : ZS} {self0 : Nat → ZS → Option (Int32 × ZS)} {N0 : Nat} (hself0 : ∀ (x0 : Nat) (S : ZS), ZT S → A7 SZ S → (zK S x0 = 2) → (90102 - (zI S 4 x0).toInt) < (N0 : Int) → Ok (self0 x0 S) (fun o => ZT o.2 ∧ A7 SZ o.2 ∧ True)) {x0 : Nat} (hT : ZT S) (hR : A7 SZ S) (r_x0 : zK S x0 = 2) (m0 : (90102 - (zI S 4 x0).toInt) ≤ (N0 : Int)) : Ok (f_X2_skipBlanks_0s self0 x0 S) (fun o => ZT o.2 ∧ A7 SZ o.2 ∧ True) := by
  unfold f_X2_skipBlanks_0s
  have j191 := J_2_4 hT r_x0
  refine ok_chk r_x0 ?_
  refine ok_chk r_x0 ?_
  obtain ⟨b1, p_b1, k_b1, c_b1⟩ := T_2_2 hT r_x0
  refine ok_calR p_b1 ?_
  refine ok_chk k_b1 ?_
  have j192 := J61_2 hT k_b1 c_b1
  obtain ⟨r2, h_r2, p_r2⟩ := roz (t_f_X6_size (x0 := b1) hT k_b1)
  dsimp only at p_r2
  refine ok_calR h_r2 ?_
  refine ok_if (fun c193 => ?_) (fun c193 => ?_)
  ·
    replace c193 := ti_leP (a := r2) (b := (zI S 4 x0)) c193 rfl rfl
    unfold f_X2_skipBlanks_59
    exact ok_ret ⟨hT, hR, trivial⟩
  ·
    replace c193 := ti_leN (a := r2) (b := (zI S 4 x0)) c193 rfl rfl
    refine ok_chk r_x0 ?_
    obtain ⟨b3, p_b3, k_b3, c_b3⟩ := T_2_2 hT r_x0
    refine ok_calR p_b3 ?_
    refine ok_chk r_x0 ?_
    refine ok_chk k_b3 ?_
    have j194 := J61_2 hT k_b3 c_b3
    obtain ⟨r4, h_r4, p_r4⟩ := roz (t_f_X6_at (x0 := b3) (x1 := (zI S 4 x0)) hT k_b3)
    dsimp only at p_r4
    refine ok_calR h_r4 ?_
    refine ok_if (fun c195 => ?_) (fun c195 => ?_)
    ·
      replace c195 := ti_eqP (a := r4) (b := (32 : Int32)) c195 rfl (show (32 : Int32).toInt = 32 from rfl)
      unfold f_X2_skipBlanks_46
      refine ok_chk r_x0 ?_
      refine ok_bnd (fun v1 e196 => ?_)
      have t_v1 : v1.toInt = (zI S 4 x0).toInt + 1 := ti_add e196 rfl (show (1 : Int32).toInt = 1 from rfl) (by omega) (by omega)
      refine ok_chk r_x0 ?_
      refine ok_bnd (fun S2 e197 => ?_)
      have T_S2 : ZT S2 := e197.symm ▸ zt_I hT r_x0 (by decide) (show (0 : Int) ≤ v1.toInt ∧ v1.toInt ≤ (90100 : Int) from (by omega))
      have kE_S2 : zK S2 = zK S := by rw [e197]; rfl
      have nE_S2 : zN S2 = zN S := by rw [e197]; rfl
      have R_S2 : A7 SZ S2 := a7_I hR e197 r_x0 (by decide)
      have : (zI S2 4 x0).toInt = v1.toInt := by rw [e197]; exact (congrArg Int32.toInt (zI_self _ _ _ _)).trans rfl
      exact hself0 x0 S2 T_S2 R_S2 ((congrFun kE_S2 x0).trans r_x0) (by omega)
    ·
      replace c195 := ti_eqN (a := r4) (b := (32 : Int32)) c195 rfl (show (32 : Int32).toInt = 32 from rfl)
      refine ok_chk r_x0 ?_
      obtain ⟨b5, p_b5, k_b5, c_b5⟩ := T_2_2 hT r_x0
      refine ok_calR p_b5 ?_
      refine ok_chk r_x0 ?_
      refine ok_chk k_b5 ?_
      have j198 := J61_2 hT k_b5 c_b5
      obtain ⟨r6, h_r6, p_r6⟩ := roz (t_f_X6_at (x0 := b5) (x1 := (zI S 4 x0)) hT k_b5)
      dsimp only at p_r6
      refine ok_calR h_r6 ?_
      refine ok_if (fun c199 => ?_) (fun c199 => ?_)
      ·
        replace c199 := ti_eqP (a := r6) (b := (10 : Int32)) c199 rfl (show (10 : Int32).toInt = 10 from rfl)
        unfold f_X2_skipBlanks_46
        refine ok_chk r_x0 ?_
        refine ok_bnd (fun v1 e200 => ?_)
        have t_v1 : v1.toInt = (zI S 4 x0).toInt + 1 := ti_add e200 rfl (show (1 : Int32).toInt = 1 from rfl) (by omega) (by omega)
        refine ok_chk r_x0 ?_
        refine ok_bnd (fun S2 e201 => ?_)
        have T_S2 : ZT S2 := e201.symm ▸ zt_I hT r_x0 (by decide) (show (0 : Int) ≤ v1.toInt ∧ v1.toInt ≤ (90100 : Int) from (by omega))
        have kE_S2 : zK S2 = zK S := by rw [e201]; rfl
        have nE_S2 : zN S2 = zN S := by rw [e201]; rfl
        have R_S2 : A7 SZ S2 := a7_I hR e201 r_x0 (by decide)
        have : (zI S2 4 x0).toInt = v1.toInt := by rw [e201]; exact (congrArg Int32.toInt (zI_self _ _ _ _)).trans rfl
        exact hself0 x0 S2 T_S2 R_S2 ((congrFun kE_S2 x0).trans r_x0) (by omega)
      ·
        replace c199 := ti_eqN (a := r6) (b := (10 : Int32)) c199 rfl (show (10 : Int32).toInt = 10 from rfl)
        unfold f_X2_skipBlanks_59
        exact ok_ret ⟨hT, hR, trivial⟩
theorem t_f_X2_skipBlanks_0 {SZ : ZS} : ∀ (n : Nat) (x0 : Nat) (S : ZS), ZT S → A7 SZ S → (zK S x0 = 2) → (90102 - (zI S 4 x0).toInt) < (n : Int) → Ok (f_X2_skipBlanks_0  n x0 S) (fun o => ZT o.2 ∧ A7 SZ o.2 ∧ True) := by
  intro n
  induction n with
  | zero => intro x0 S hT hR g0  hm; exfalso; have j9 := J_2_4 hT g0; omega
  | succ n ih =>
    intro x0 S hT hR g0  hm
    exact t_f_X2_skipBlanks_0s (N0 := n)  ih hT hR g0  (by omega)
theorem t_f_X2_skipBlanks {SZ S : ZS} {x0 : Nat} (hT : ZT S) (hR : A7 SZ S) (r_x0 : zK S x0 = 2) : Ok (f_X2_skipBlanks x0 S) (fun o => ZT o.2 ∧ A7 SZ o.2 ∧ True) := t_f_X2_skipBlanks_0 mFuel x0 S hT hR r_x0 (by show _ < ((200000 : Nat) : Int); have j9 := J_2_4 hT r_x0; omega)
theorem t_f_X2_resultHere_2s {S : ZS} {self2 : Nat → Int32 → ZS → Option (Int32 × ZS)} {N2 : Nat} (hself2 : ∀ (x0 : Nat) (x1 : Int32),  (zK S x0 = 2) → ((0 : Int) ≤ x1.toInt ∧ x1.toInt ≤ (4 : Int)) → (5 - x1.toInt) < (N2 : Int) → Ok (self2 x0 x1 S) (fun o => o.2 = S ∧ ((-1 : Int) ≤ o.1.toInt ∧ o.1.toInt ≤ (3 : Int)))) {x0 : Nat} {x1 : Int32} (hT : ZT S) (r_x0 : zK S x0 = 2) (r_x1 : (0 : Int) ≤ x1.toInt ∧ x1.toInt ≤ (4 : Int)) (m2 : (5 - x1.toInt) ≤ (N2 : Int)) : Ok (f_X2_resultHere_2s self2 x0 x1 S) (fun o => o.2 = S ∧ ((-1 : Int) ≤ o.1.toInt ∧ o.1.toInt ≤ (3 : Int))) := by
  unfold f_X2_resultHere_2s
  refine ok_if (fun c202 => ?_) (fun c202 => ?_)
  ·
    replace c202 := ti_leP (a := (4 : Int32)) (b := x1) c202 (show (4 : Int32).toInt = 4 from rfl) rfl
    exact ok_ret ⟨rfl, (show (-1 : Int) ≤ (-1 : Int32).toInt ∧ (-1 : Int32).toInt ≤ (3 : Int) from (by decide))⟩
  ·
    replace c202 := ti_leN (a := (4 : Int32)) (b := x1) c202 (show (4 : Int32).toInt = 4 from rfl) rfl
    refine ok_chk r_x0 ?_
    obtain ⟨b1, p_b1, k_b1, c_b1⟩ := T_2_2 hT r_x0
    refine ok_calR p_b1 ?_
    obtain ⟨r2, h_r2, p_r2⟩ := roz (t_f_X11_resultSign (x0 := x1) hT )
    dsimp only at p_r2
    refine ok_calR h_r2 ?_
    refine ok_chk r_x0 ?_
    refine ok_chk k_b1 ?_
    have j203 := J61_2 hT k_b1 c_b1
    have j204 := J_2_4 hT r_x0
    obtain ⟨r3, h_r3, p_r3⟩ := roz (t_f_X6_holds (x0 := b1) (x1 := r2) (x2 := (zI S 4 x0)) hT k_b1 p_r2 (by omega))
    dsimp only at p_r3
    refine ok_calR h_r3 ?_
    refine ok_if (fun c205 => ?_) (fun c205 => ?_)
    ·
      replace c205 := ti_eqP (a := r3) (b := (0 : Int32)) c205 rfl (show (0 : Int32).toInt = 0 from rfl)
      refine ok_bnd (fun v4 e206 => ?_)
      have t_v4 : v4.toInt = x1.toInt + 1 := ti_add e206 rfl (show (1 : Int32).toInt = 1 from rfl) (by omega) (by omega)
      exact hself2 x0 v4  r_x0 (by omega) (by omega)
    ·
      replace c205 := ti_eqN (a := r3) (b := (0 : Int32)) c205 rfl (show (0 : Int32).toInt = 0 from rfl)
      exact ok_ret ⟨rfl, (show (-1 : Int) ≤ x1.toInt ∧ x1.toInt ≤ (3 : Int) from (by omega))⟩
theorem t_f_X2_resultHere_2 {S : ZS} (hT : ZT S) : ∀ (n : Nat) (x0 : Nat) (x1 : Int32),  (zK S x0 = 2) → ((0 : Int) ≤ x1.toInt ∧ x1.toInt ≤ (4 : Int)) → (5 - x1.toInt) < (n : Int) → Ok (f_X2_resultHere_2  n x0 x1 S) (fun o => o.2 = S ∧ ((-1 : Int) ≤ o.1.toInt ∧ o.1.toInt ≤ (3 : Int))) := by
  intro n
  induction n with
  | zero => intro x0 x1 g0 g1  hm; exfalso; omega
  | succ n ih =>
    intro x0 x1 g0 g1  hm
    exact t_f_X2_resultHere_2s (N2 := n)  ih hT g0 g1  (by omega)
theorem t_f_X2_resultHere_0 {S : ZS} {x0 : Nat} (hT : ZT S) (r_x0 : zK S x0 = 2) : Ok (f_X2_resultHere_0 x0 S) (fun o => o.2 = S ∧ ((-1 : Int) ≤ o.1.toInt ∧ o.1.toInt ≤ (3 : Int))) := by
  unfold f_X2_resultHere_0
  exact t_f_X2_resultHere_2  hT mFuel x0 (0 : Int32)  r_x0 (by decide) (by show _ < ((200000 : Nat) : Int); have z0 : (0 : Int32).toInt = 0 := rfl; omega)
theorem t_f_X2_resultHere {S : ZS} {x0 : Nat} (hT : ZT S) (r_x0 : zK S x0 = 2) : Ok (f_X2_resultHere x0 S) (fun o => o.2 = S ∧ ((-1 : Int) ≤ o.1.toInt ∧ o.1.toInt ≤ (3 : Int))) := t_f_X2_resultHere_0 hT r_x0
theorem t_f_X2_openLine_0 {S : ZS} {x0 : Nat} {x1 : Int32} (hT : ZT S) (r_x0 : zK S x0 = 2) (r_x1 : (1 : Int) ≤ x1.toInt ∧ x1.toInt ≤ (6 : Int)) (q0 : (zI S 4 x0).toInt ≤ 90000) : Ok (f_X2_openLine_0 x0 x1 S) (fun o => ZT o.2 ∧ True) := by
  unfold f_X2_openLine_0
  have j207 := J_2_4 hT r_x0
  refine ok_chk r_x0 ?_
  obtain ⟨b1, p_b1, k_b1, n_b1⟩ := T_2_8 hT r_x0
  refine ok_calR p_b1 ?_
  refine ok_chk r_x0 ?_
  obtain ⟨b2, p_b2, k_b2⟩ := T_2_3 hT r_x0
  have lo_b2 := M_2_3 hT r_x0 p_b2
  refine ok_calR p_b2 ?_
  refine ok_chk r_x0 ?_
  obtain ⟨b3, p_b3, k_b3, n_b3⟩ := T_2_9 hT r_x0
  refine ok_calR p_b3 ?_
  refine ok_bnd (fun v4 e208 => ?_)
  have t_v4 : v4.toInt = x1.toInt - 1 := ti_sub e208 rfl (show (1 : Int32).toInt = 1 from rfl) (by omega) (by omega)
  refine ok_chk k_b3 ?_
  refine ok_chk (ti_inN (v := v4) (n := 7) n_b3 (by omega) (by omega)) ?_
  refine ok_bnd (fun v5 e209 => ?_)
  refine ok_chk k_b2 ?_
  obtain ⟨r6, h_r6, p_r6⟩ := roz (t_f_X1_at (x0 := b2) (x1 := v5) hT k_b2)
  dsimp only at p_r6
  refine ok_calR h_r6 ?_
  refine ok_chk p_r6.1 ?_
  refine ok_chk k_b1 ?_
  refine ok_chk (ti_inN (v := x1) (n := 7) n_b1 (by omega) (by omega)) ?_
  refine ok_bnd (fun S7 e210 => ?_)
  have T_S7 : ZT S7 := e210.symm ▸ zt_A hT k_b1
  have kE_S7 : zK S7 = zK S := by rw [e210]; rfl
  have nE_S7 : zN S7 = zN S := by rw [e210]; rfl
  have : (zI S7 4 x0).toInt = (zI S 4 x0).toInt := by rw [e210]; rfl
  refine ok_chk ((congrFun kE_S7 x0).trans r_x0) ?_
  obtain ⟨b8, p_b8, k_b8, n_b8⟩ := T_2_9 T_S7 ((congrFun kE_S7 x0).trans r_x0)
  refine ok_calR p_b8 ?_
  refine ok_chk ((congrFun kE_S7 x0).trans r_x0) ?_
  obtain ⟨b9, p_b9, k_b9, n_b9⟩ := T_2_8 T_S7 ((congrFun kE_S7 x0).trans r_x0)
  refine ok_calR p_b9 ?_
  refine ok_chk k_b9 ?_
  refine ok_chk (ti_inN (v := x1) (n := 7) n_b9 (by omega) (by omega)) ?_
  refine ok_bnd (fun v10 e211 => ?_)
  refine ok_chk k_b8 ?_
  refine ok_chk (ti_inN (v := x1) (n := 7) n_b8 (by omega) (by omega)) ?_
  refine ok_bnd (fun S11 e212 => ?_)
  have T_S11 : ZT S11 := e212.symm ▸ zt_A T_S7 k_b8
  have kE_S11 : zK S11 = zK S7 := by rw [e212]; rfl
  have nE_S11 : zN S11 = zN S7 := by rw [e212]; rfl
  have : (zI S11 4 x0).toInt = (zI S7 4 x0).toInt := by rw [e212]; rfl
  refine ok_chk ((congrFun kE_S11 x0).trans ((congrFun kE_S7 x0).trans r_x0)) ?_
  obtain ⟨b12, p_b12, k_b12, n_b12⟩ := T_2_11 T_S11 ((congrFun kE_S11 x0).trans ((congrFun kE_S7 x0).trans r_x0))
  refine ok_calR p_b12 ?_
  refine ok_chk k_b12 ?_
  refine ok_chk (ti_inN (v := x1) (n := 7) n_b12 (by omega) (by omega)) ?_
  obtain ⟨b13, p_b13, k_b13⟩ := (T_S11.2.2.2.1 b12).1 k_b12 (x1).toNatClampNeg (ti_cl (v := x1) (by omega) (by omega))
  refine ok_calR p_b13 ?_
  refine ok_chk ((congrFun kE_S11 x0).trans ((congrFun kE_S7 x0).trans r_x0)) ?_
  obtain ⟨b14, p_b14, k_b14, n_b14⟩ := T_2_10 T_S11 ((congrFun kE_S11 x0).trans ((congrFun kE_S7 x0).trans r_x0))
  refine ok_calR p_b14 ?_
  refine ok_bnd (fun v15 e213 => ?_)
  have t_v15 : v15.toInt = x1.toInt - 1 := ti_sub e213 rfl (show (1 : Int32).toInt = 1 from rfl) (by omega) (by omega)
  refine ok_chk k_b14 ?_
  refine ok_chk (ti_inN (v := v15) (n := 7) n_b14 (by omega) (by omega)) ?_
  obtain ⟨b16, p_b16, k_b16⟩ := (T_S11.2.2.2.1 b14).1 k_b14 (v15).toNatClampNeg (ti_cl (v := v15) (by omega) (by omega))
  refine ok_calR p_b16 ?_
  refine ok_chk k_b13 ?_
  obtain ⟨⟨r17, S17⟩, h_r17, T_S17, A_S17, -⟩ := t_f_X0_copyFrom (x0 := b13) (x1 := b16) (SZ := S11) T_S11 (a7_0 S11) k_b13 k_b16
  replace T_S17 : ZT S17 := T_S17
  replace A_S17 : A7 S11 S17 := A_S17
  refine ok_calR h_r17 ?_
  have q_S17 := fq_X0_copyFrom h_r17
  have kE_S17 : zK S17 = zK S11 := q_S17.2.2.1
  have nE_S17 : zN S17 = zN S11 := q_S17.2.2.2.1
  have : (zI S17 4 x0).toInt = (zI S11 4 x0).toInt := congrArg Int32.toInt ((((fz_X0_copyFrom h_r17) T_S11.2.2.2.2.1).2.2 x0 (by rw [((congrFun kE_S11 x0).trans ((congrFun kE_S7 x0).trans r_x0))]; decide)).2.2.1 4 (by rw [((congrFun kE_S11 x0).trans ((congrFun kE_S7 x0).trans r_x0))]; decide))
  refine ok_chk ((congrFun kE_S17 x0).trans ((congrFun kE_S11 x0).trans ((congrFun kE_S7 x0).trans r_x0))) ?_
  refine ok_bnd (fun v18 e214 => ?_)
  have j215 := J_2_4 T_S17 ((congrFun kE_S17 x0).trans ((congrFun kE_S11 x0).trans ((congrFun kE_S7 x0).trans r_x0)))
  have t_v18 : v18.toInt = (zI S17 4 x0).toInt + 1 := ti_add e214 rfl (show (1 : Int32).toInt = 1 from rfl) (by omega) (by omega)
  refine ok_chk ((congrFun kE_S17 x0).trans ((congrFun kE_S11 x0).trans ((congrFun kE_S7 x0).trans r_x0))) ?_
  refine ok_bnd (fun S19 e216 => ?_)
  have T_S19 : ZT S19 := e216.symm ▸ zt_I T_S17 ((congrFun kE_S17 x0).trans ((congrFun kE_S11 x0).trans ((congrFun kE_S7 x0).trans r_x0))) (by decide) (show (0 : Int) ≤ v18.toInt ∧ v18.toInt ≤ (90100 : Int) from (by omega))
  have kE_S19 : zK S19 = zK S17 := by rw [e216]; rfl
  have nE_S19 : zN S19 = zN S17 := by rw [e216]; rfl
  have : (zI S19 4 x0).toInt = v18.toInt := by rw [e216]; exact (congrArg Int32.toInt (zI_self _ _ _ _)).trans rfl
  exact ok_ret ⟨T_S19, trivial⟩
theorem t_f_X2_openLine {S : ZS} {x0 : Nat} {x1 : Int32} (hT : ZT S) (r_x0 : zK S x0 = 2) (r_x1 : (1 : Int) ≤ x1.toInt ∧ x1.toInt ≤ (6 : Int)) (q0 : (zI S 4 x0).toInt ≤ 90000) : Ok (f_X2_openLine x0 x1 S) (fun o => ZT o.2 ∧ True) := t_f_X2_openLine_0 hT r_x0 r_x1 q0
theorem t_f_X2_readDigits_9s {SZ S : ZS} {self9 : Nat → Int32 → Int32 → ZS → Option (Int32 × ZS)} {N9 : Nat} (hself9 : ∀ (x0 : Nat) (x2 : Int32) (x3 : Int32) (S : ZS), ZT S → A7 SZ S → (zK S x0 = 2) → (90102 - (zI S 4 x0).toInt) < (N9 : Int) → Ok (self9 x0 x2 x3 S) (fun o => ZT o.2 ∧ A7 SZ o.2 ∧ True)) {x0 : Nat} {x2 : Int32} {x3 : Int32} (hT : ZT S) (hR : A7 SZ S) (r_x0 : zK S x0 = 2) (m9 : (90102 - (zI S 4 x0).toInt) ≤ (N9 : Int)) : Ok (f_X2_readDigits_9s self9 x0 x2 x3 S) (fun o => ZT o.2 ∧ A7 SZ o.2 ∧ True) := by
  unfold f_X2_readDigits_9s
  have j217 := J_2_4 hT r_x0
  refine ok_chk r_x0 ?_
  refine ok_if (fun c218 => ?_) (fun c218 => ?_)
  ·
    replace c218 := ti_leP (a := x2) (b := (zI S 4 x0)) c218 rfl rfl
    unfold f_X2_readDigits_67
    exact ok_ret ⟨hT, hR, trivial⟩
  ·
    replace c218 := ti_leN (a := x2) (b := (zI S 4 x0)) c218 rfl rfl
    refine ok_chk r_x0 ?_
    obtain ⟨b1, p_b1, k_b1, c_b1⟩ := T_2_2 hT r_x0
    refine ok_calR p_b1 ?_
    refine ok_chk r_x0 ?_
    refine ok_chk k_b1 ?_
    have j219 := J61_2 hT k_b1 c_b1
    obtain ⟨r2, h_r2, p_r2⟩ := roz (t_f_X6_at (x0 := b1) (x1 := (zI S 4 x0)) hT k_b1)
    dsimp only at p_r2
    refine ok_calR h_r2 ?_
    obtain ⟨r3, h_r3, p_r3⟩ := roz (t_f_X11_isDigit (x0 := r2) hT )
    dsimp only at p_r3
    refine ok_calR h_r3 ?_
    refine ok_if (fun c220 => ?_) (fun c220 => ?_)
    ·
      replace c220 := ti_eqP (a := r3) (b := (0 : Int32)) c220 rfl (show (0 : Int32).toInt = 0 from rfl)
      unfold f_X2_readDigits_67
      exact ok_ret ⟨hT, hR, trivial⟩
    ·
      replace c220 := ti_eqN (a := r3) (b := (0 : Int32)) c220 rfl (show (0 : Int32).toInt = 0 from rfl)
      refine ok_bnd (fun v4 e221 => ?_)
      refine ok_chk r_x0 ?_
      obtain ⟨b5, p_b5, k_b5, c_b5⟩ := T_2_2 hT r_x0
      refine ok_calR p_b5 ?_
      refine ok_chk r_x0 ?_
      refine ok_chk k_b5 ?_
      have j222 := J61_2 hT k_b5 c_b5
      obtain ⟨r6, h_r6, p_r6⟩ := roz (t_f_X6_at (x0 := b5) (x1 := (zI S 4 x0)) hT k_b5)
      dsimp only at p_r6
      refine ok_calR h_r6 ?_
      refine ok_bnd (fun v7 e223 => ?_)
      refine ok_bnd (fun v8 e224 => ?_)
      refine ok_chk r_x0 ?_
      refine ok_bnd (fun v9 e225 => ?_)
      have t_v9 : v9.toInt = (zI S 4 x0).toInt + 1 := ti_add e225 rfl (show (1 : Int32).toInt = 1 from rfl) (by omega) (by omega)
      refine ok_chk r_x0 ?_
      refine ok_bnd (fun S10 e226 => ?_)
      have T_S10 : ZT S10 := e226.symm ▸ zt_I hT r_x0 (by decide) (show (0 : Int) ≤ v9.toInt ∧ v9.toInt ≤ (90100 : Int) from (by omega))
      have kE_S10 : zK S10 = zK S := by rw [e226]; rfl
      have nE_S10 : zN S10 = zN S := by rw [e226]; rfl
      have R_S10 : A7 SZ S10 := a7_I hR e226 r_x0 (by decide)
      have : (zI S10 4 x0).toInt = v9.toInt := by rw [e226]; exact (congrArg Int32.toInt (zI_self _ _ _ _)).trans rfl
      exact hself9 x0 x2 v8 S10 T_S10 R_S10 ((congrFun kE_S10 x0).trans r_x0) (by omega)
theorem t_f_X2_readDigits_9 {SZ : ZS} : ∀ (n : Nat) (x0 : Nat) (x2 : Int32) (x3 : Int32) (S : ZS), ZT S → A7 SZ S → (zK S x0 = 2) → (90102 - (zI S 4 x0).toInt) < (n : Int) → Ok (f_X2_readDigits_9  n x0 x2 x3 S) (fun o => ZT o.2 ∧ A7 SZ o.2 ∧ True) := by
  intro n
  induction n with
  | zero => intro x0 x2 x3 S hT hR g0  hm; exfalso; have j9 := J_2_4 hT g0; omega
  | succ n ih =>
    intro x0 x2 x3 S hT hR g0  hm
    exact t_f_X2_readDigits_9s (N9 := n)  ih hT hR g0  (by omega)
theorem t_f_X2_readDigits_0 {SZ S : ZS} {x0 : Nat} {x1 : Int32} (hT : ZT S) (hR : A7 SZ S) (r_x0 : zK S x0 = 2) (r_x1 : (0 : Int) ≤ x1.toInt ∧ x1.toInt ≤ (10 : Int)) : Ok (f_X2_readDigits_0 x0 x1 S) (fun o => ZT o.2 ∧ A7 SZ o.2 ∧ True) := by
  unfold f_X2_readDigits_0
  have j227 := J_2_4 hT r_x0
  refine ok_chk r_x0 ?_
  refine ok_bnd (fun v1 e228 => ?_)
  have t_v1 : v1.toInt = (zI S 4 x0).toInt + x1.toInt := ti_add e228 rfl rfl (by omega) (by omega)
  exact t_f_X2_readDigits_9   mFuel x0 v1 (0 : Int32) S hT hR r_x0 (by show _ < ((200000 : Nat) : Int); have z0 : (0 : Int32).toInt = 0 := rfl; omega)
theorem t_f_X2_readDigits {SZ S : ZS} {x0 : Nat} {x1 : Int32} (hT : ZT S) (hR : A7 SZ S) (r_x0 : zK S x0 = 2) (r_x1 : (0 : Int) ≤ x1.toInt ∧ x1.toInt ≤ (10 : Int)) : Ok (f_X2_readDigits x0 x1 S) (fun o => ZT o.2 ∧ A7 SZ o.2 ∧ True) := t_f_X2_readDigits_0 hT hR r_x0 r_x1
theorem t_f_X2_readNumber_54 {SZ S : ZS} {x0 : Nat} {x1 : Int32} {x2 : Int32} {x3 : Int32} (hT : ZT S) (hR : A7 SZ S) (r_x0 : zK S x0 = 2) : Ok (f_X2_readNumber_54 x0 x1 x2 x3 S) (fun o => ZT o.2 ∧ A7 SZ o.2 ∧ ((0 : Int) ≤ o.1.toInt ∧ o.1.toInt ≤ (1 : Int))) := by
  unfold f_X2_readNumber_54
  have j229 := J_2_4 hT r_x0
  refine ok_chk r_x0 ?_
  obtain ⟨⟨r1, S1⟩, h_r1, T_S1, A_S1, -⟩ := t_f_X2_skipBlanks (x0 := x0) (SZ := S) hT (a7_0 S) r_x0
  replace T_S1 : ZT S1 := T_S1
  replace A_S1 : A7 S S1 := A_S1
  refine ok_calR h_r1 ?_
  have q_S1 := fq_X2_skipBlanks h_r1
  have kE_S1 : zK S1 = zK S := q_S1.2.2.1
  have nE_S1 : zN S1 = zN S := q_S1.2.2.2.1
  have R_S1 : A7 SZ S1 := a7_t hR A_S1
  refine ok_if (fun c230 => ?_) (fun c230 => ?_)
  ·
    replace c230 := ti_eqP (a := x3) (b := x1) c230 rfl rfl
    unfold f_X2_readNumber_73
    unfold f_X2_readNumber_78
    refine ok_chk (by decide) ?_
    exact ok_ret ⟨T_S1, R_S1, (show (0 : Int) ≤ (1 : Int32).toInt ∧ (1 : Int32).toInt ≤ (1 : Int) from (by decide))⟩
  ·
    replace c230 := ti_eqN (a := x3) (b := x1) c230 rfl rfl
    refine ok_chk ((congrFun kE_S1 x0).trans r_x0) ?_
    obtain ⟨⟨r2, S2⟩, h_r2, T_S2, A_S2, p_r2⟩ := t_f_X2_refuse (x0 := x0) (x1 := (7 : Int32)) (x2 := x2) (SZ := S1) T_S1 (a7_0 S1) ((congrFun kE_S1 x0).trans r_x0)
    replace T_S2 : ZT S2 := T_S2
    replace A_S2 : A7 S1 S2 := A_S2
    dsimp only at p_r2
    refine ok_calR h_r2 ?_
    have q_S2 := fq_X2_refuse h_r2
    have kE_S2 : zK S2 = zK S1 := q_S2.2.2.1
    have nE_S2 : zN S2 = zN S1 := q_S2.2.2.2.1
    have R_S2 : A7 SZ S2 := a7_t R_S1 A_S2
    have : (zI S2 4 x0).toInt = (zI S1 4 x0).toInt := congrArg Int32.toInt ((((fz_X2_refuse h_r2) T_S1.2.2.2.2.1).2.2 x0 (by rw [((congrFun kE_S1 x0).trans r_x0)]; decide)).2.2.1 4 (by rw [((congrFun kE_S1 x0).trans r_x0)]; decide))
    refine ok_if (fun c231 => ?_) (fun c231 => ?_)
    ·
      replace c231 := ti_eqP (a := r2) (b := (0 : Int32)) c231 rfl (show (0 : Int32).toInt = 0 from rfl)
      unfold f_X2_readNumber_78
      refine ok_chk (by decide) ?_
      exact ok_ret ⟨T_S2, R_S2, (show (0 : Int) ≤ (0 : Int32).toInt ∧ (0 : Int32).toInt ≤ (1 : Int) from (by decide))⟩
    ·
      replace c231 := ti_eqN (a := r2) (b := (0 : Int32)) c231 rfl (show (0 : Int32).toInt = 0 from rfl)
      unfold f_X2_readNumber_73
      unfold f_X2_readNumber_78
      refine ok_chk (by decide) ?_
      exact ok_ret ⟨T_S2, R_S2, (show (0 : Int) ≤ (1 : Int32).toInt ∧ (1 : Int32).toInt ≤ (1 : Int) from (by decide))⟩
theorem t_f_X2_readNumber_11s {SZ S : ZS} {self11 : Nat → Int32 → Int32 → Int32 → ZS → Option (Int32 × ZS)} {N11 : Nat} (hself11 : ∀ (x0 : Nat) (x1 : Int32) (x2 : Int32) (x3 : Int32) (S : ZS), ZT S → A7 SZ S → (zK S x0 = 2) → (90102 - (zI S 4 x0).toInt) < (N11 : Int) → Ok (self11 x0 x1 x2 x3 S) (fun o => ZT o.2 ∧ A7 SZ o.2 ∧ ((0 : Int) ≤ o.1.toInt ∧ o.1.toInt ≤ (1 : Int)))) {x0 : Nat} {x1 : Int32} {x2 : Int32} {x3 : Int32} (hT : ZT S) (hR : A7 SZ S) (r_x0 : zK S x0 = 2) (m11 : (90102 - (zI S 4 x0).toInt) ≤ (N11 : Int)) : Ok (f_X2_readNumber_11s self11 x0 x1 x2 x3 S) (fun o => ZT o.2 ∧ A7 SZ o.2 ∧ ((0 : Int) ≤ o.1.toInt ∧ o.1.toInt ≤ (1 : Int))) := by
  unfold f_X2_readNumber_11s
  have j232 := J_2_4 hT r_x0
  refine ok_chk r_x0 ?_
  refine ok_chk r_x0 ?_
  obtain ⟨b1, p_b1, k_b1, c_b1⟩ := T_2_2 hT r_x0
  refine ok_calR p_b1 ?_
  refine ok_chk k_b1 ?_
  have j233 := J61_2 hT k_b1 c_b1
  obtain ⟨r2, h_r2, p_r2⟩ := roz (t_f_X6_size (x0 := b1) hT k_b1)
  dsimp only at p_r2
  refine ok_calR h_r2 ?_
  refine ok_if (fun c234 => ?_) (fun c234 => ?_)
  ·
    replace c234 := ti_leP (a := r2) (b := (zI S 4 x0)) c234 rfl rfl
    exact t_f_X2_readNumber_54 (S := S)  (x0 := x0) (x1 := x1) (x2 := x2) (x3 := x3) hT hR r_x0
  ·
    replace c234 := ti_leN (a := r2) (b := (zI S 4 x0)) c234 rfl rfl
    refine ok_chk r_x0 ?_
    obtain ⟨b3, p_b3, k_b3, c_b3⟩ := T_2_2 hT r_x0
    refine ok_calR p_b3 ?_
    refine ok_chk r_x0 ?_
    refine ok_chk k_b3 ?_
    have j235 := J61_2 hT k_b3 c_b3
    obtain ⟨r4, h_r4, p_r4⟩ := roz (t_f_X6_at (x0 := b3) (x1 := (zI S 4 x0)) hT k_b3)
    dsimp only at p_r4
    refine ok_calR h_r4 ?_
    refine ok_if (fun c236 => ?_) (fun c236 => ?_)
    ·
      replace c236 := ti_eqP (a := r4) (b := (46 : Int32)) c236 rfl (show (46 : Int32).toInt = 46 from rfl)
      refine ok_chk r_x0 ?_
      refine ok_bnd (fun v5 e237 => ?_)
      have t_v5 : v5.toInt = (zI S 4 x0).toInt + 1 := ti_add e237 rfl (show (1 : Int32).toInt = 1 from rfl) (by omega) (by omega)
      refine ok_chk r_x0 ?_
      refine ok_bnd (fun S6 e238 => ?_)
      have T_S6 : ZT S6 := e238.symm ▸ zt_I hT r_x0 (by decide) (show (0 : Int) ≤ v5.toInt ∧ v5.toInt ≤ (90100 : Int) from (by omega))
      have kE_S6 : zK S6 = zK S := by rw [e238]; rfl
      have nE_S6 : zN S6 = zN S := by rw [e238]; rfl
      have R_S6 : A7 SZ S6 := a7_I hR e238 r_x0 (by decide)
      have : (zI S6 4 x0).toInt = v5.toInt := by rw [e238]; exact (congrArg Int32.toInt (zI_self _ _ _ _)).trans rfl
      exact hself11 x0 x1 x2 x3 S6 T_S6 R_S6 ((congrFun kE_S6 x0).trans r_x0) (by omega)
    ·
      replace c236 := ti_eqN (a := r4) (b := (46 : Int32)) c236 rfl (show (46 : Int32).toInt = 46 from rfl)
      exact t_f_X2_readNumber_54 (S := S)  (x0 := x0) (x1 := x1) (x2 := x2) (x3 := x3) hT hR r_x0
theorem t_f_X2_readNumber_11 {SZ : ZS} : ∀ (n : Nat) (x0 : Nat) (x1 : Int32) (x2 : Int32) (x3 : Int32) (S : ZS), ZT S → A7 SZ S → (zK S x0 = 2) → (90102 - (zI S 4 x0).toInt) < (n : Int) → Ok (f_X2_readNumber_11  n x0 x1 x2 x3 S) (fun o => ZT o.2 ∧ A7 SZ o.2 ∧ ((0 : Int) ≤ o.1.toInt ∧ o.1.toInt ≤ (1 : Int))) := by
  intro n
  induction n with
  | zero => intro x0 x1 x2 x3 S hT hR g0  hm; exfalso; have j9 := J_2_4 hT g0; omega
  | succ n ih =>
    intro x0 x1 x2 x3 S hT hR g0  hm
    exact t_f_X2_readNumber_11s (N11 := n)  ih hT hR g0  (by omega)
theorem t_f_X2_readNumber_0 {SZ S : ZS} {x0 : Nat} {x1 : Int32} (hT : ZT S) (hR : A7 SZ S) (r_x0 : zK S x0 = 2) : Ok (f_X2_readNumber_0 x0 x1 S) (fun o => ZT o.2 ∧ A7 SZ o.2 ∧ ((0 : Int) ≤ o.1.toInt ∧ o.1.toInt ≤ (1 : Int))) := by
  unfold f_X2_readNumber_0
  have j239 := J_2_4 hT r_x0
  refine ok_chk r_x0 ?_
  refine ok_chk r_x0 ?_
  obtain ⟨⟨r1, S1⟩, h_r1, T_S1, A_S1, -⟩ := t_f_X2_readDigits (x0 := x0) (x1 := (4 : Int32)) (SZ := S) hT (a7_0 S) r_x0 (by decide)
  replace T_S1 : ZT S1 := T_S1
  replace A_S1 : A7 S S1 := A_S1
  refine ok_calR h_r1 ?_
  have q_S1 := fq_X2_readDigits h_r1
  have kE_S1 : zK S1 = zK S := q_S1.2.2.1
  have nE_S1 : zN S1 = zN S := q_S1.2.2.2.1
  have R_S1 : A7 SZ S1 := a7_t hR A_S1
  have j240 := J_2_4 T_S1 ((congrFun kE_S1 x0).trans r_x0)
  exact t_f_X2_readNumber_11   mFuel x0 x1 (zI S 4 x0) r1 S1 T_S1 R_S1 ((congrFun kE_S1 x0).trans r_x0) (by show _ < ((200000 : Nat) : Int); omega)
theorem t_f_X2_readNumber {SZ S : ZS} {x0 : Nat} {x1 : Int32} (hT : ZT S) (hR : A7 SZ S) (r_x0 : zK S x0 = 2) : Ok (f_X2_readNumber x0 x1 S) (fun o => ZT o.2 ∧ A7 SZ o.2 ∧ ((0 : Int) ≤ o.1.toInt ∧ o.1.toInt ≤ (1 : Int))) := t_f_X2_readNumber_0 hT hR r_x0
theorem t_f_X2_isSign_0 {S : ZS} {x0 : Int32} (hT : ZT S) : Ok (f_X2_isSign_0 x0 S) (fun o => o.2 = S ∧ ((0 : Int) ≤ o.1.toInt ∧ o.1.toInt ≤ (1 : Int)) ∧ ((o.1.toInt = 1 → 0 < x0.toInt))) := by
  unfold f_X2_isSign_0
  obtain ⟨r1, h_r1, p_r1⟩ := roz (t_f_X11_isLetter (x0 := x0) hT )
  dsimp only at p_r1
  refine ok_calR h_r1 ?_
  refine ok_if (fun c241 => ?_) (fun c241 => ?_)
  ·
    replace c241 := ti_eqP (a := r1) (b := (0 : Int32)) c241 rfl (show (0 : Int32).toInt = 0 from rfl)
    obtain ⟨r2, h_r2, p_r2⟩ := roz (t_f_X11_isDigit (x0 := x0) hT )
    dsimp only at p_r2
    refine ok_calR h_r2 ?_
    refine ok_if (fun c242 => ?_) (fun c242 => ?_)
    ·
      replace c242 := ti_eqP (a := r2) (b := (0 : Int32)) c242 rfl (show (0 : Int32).toInt = 0 from rfl)
      refine ok_if (fun c243 => ?_) (fun c243 => ?_)
      ·
        replace c243 := ti_eqP (a := x0) (b := (61 : Int32)) c243 rfl (show (61 : Int32).toInt = 61 from rfl)
        unfold f_X2_isSign_38
        unfold f_X2_isSign_43
        refine ok_chk (by decide) ?_
        exact ok_ret ⟨rfl, (show (0 : Int) ≤ (1 : Int32).toInt ∧ (1 : Int32).toInt ≤ (1 : Int) from (by decide)), (by show ((1 : Int32).toInt = 1 → 0 < x0.toInt); have z : (1 : Int32).toInt = 1 := rfl; omega)⟩
      ·
        replace c243 := ti_eqN (a := x0) (b := (61 : Int32)) c243 rfl (show (61 : Int32).toInt = 61 from rfl)
        refine ok_if (fun c244 => ?_) (fun c244 => ?_)
        ·
          replace c244 := ti_eqP (a := x0) (b := (45 : Int32)) c244 rfl (show (45 : Int32).toInt = 45 from rfl)
          unfold f_X2_isSign_38
          unfold f_X2_isSign_43
          refine ok_chk (by decide) ?_
          exact ok_ret ⟨rfl, (show (0 : Int) ≤ (1 : Int32).toInt ∧ (1 : Int32).toInt ≤ (1 : Int) from (by decide)), (by show ((1 : Int32).toInt = 1 → 0 < x0.toInt); have z : (1 : Int32).toInt = 1 := rfl; omega)⟩
        ·
          replace c244 := ti_eqN (a := x0) (b := (45 : Int32)) c244 rfl (show (45 : Int32).toInt = 45 from rfl)
          refine ok_if (fun c245 => ?_) (fun c245 => ?_)
          ·
            replace c245 := ti_eqP (a := x0) (b := (43 : Int32)) c245 rfl (show (43 : Int32).toInt = 43 from rfl)
            unfold f_X2_isSign_38
            unfold f_X2_isSign_43
            refine ok_chk (by decide) ?_
            exact ok_ret ⟨rfl, (show (0 : Int) ≤ (1 : Int32).toInt ∧ (1 : Int32).toInt ≤ (1 : Int) from (by decide)), (by show ((1 : Int32).toInt = 1 → 0 < x0.toInt); have z : (1 : Int32).toInt = 1 := rfl; omega)⟩
          ·
            replace c245 := ti_eqN (a := x0) (b := (43 : Int32)) c245 rfl (show (43 : Int32).toInt = 43 from rfl)
            refine ok_if (fun c246 => ?_) (fun c246 => ?_)
            ·
              replace c246 := ti_eqP (a := x0) (b := (35 : Int32)) c246 rfl (show (35 : Int32).toInt = 35 from rfl)
              unfold f_X2_isSign_38
              unfold f_X2_isSign_43
              refine ok_chk (by decide) ?_
              exact ok_ret ⟨rfl, (show (0 : Int) ≤ (1 : Int32).toInt ∧ (1 : Int32).toInt ≤ (1 : Int) from (by decide)), (by show ((1 : Int32).toInt = 1 → 0 < x0.toInt); have z : (1 : Int32).toInt = 1 := rfl; omega)⟩
            ·
              replace c246 := ti_eqN (a := x0) (b := (35 : Int32)) c246 rfl (show (35 : Int32).toInt = 35 from rfl)
              unfold f_X2_isSign_43
              refine ok_chk (by decide) ?_
              exact ok_ret ⟨rfl, (show (0 : Int) ≤ (0 : Int32).toInt ∧ (0 : Int32).toInt ≤ (1 : Int) from (by decide)), (by show ((0 : Int32).toInt = 1 → 0 < x0.toInt); have z : (0 : Int32).toInt = 0 := rfl; omega)⟩
    ·
      replace c242 := ti_eqN (a := r2) (b := (0 : Int32)) c242 rfl (show (0 : Int32).toInt = 0 from rfl)
      unfold f_X2_isSign_38
      unfold f_X2_isSign_43
      refine ok_chk (by decide) ?_
      exact ok_ret ⟨rfl, (show (0 : Int) ≤ (1 : Int32).toInt ∧ (1 : Int32).toInt ≤ (1 : Int) from (by decide)), (by show ((1 : Int32).toInt = 1 → 0 < x0.toInt); have z : (1 : Int32).toInt = 1 := rfl; omega)⟩
  ·
    replace c241 := ti_eqN (a := r1) (b := (0 : Int32)) c241 rfl (show (0 : Int32).toInt = 0 from rfl)
    unfold f_X2_isSign_38
    unfold f_X2_isSign_43
    refine ok_chk (by decide) ?_
    exact ok_ret ⟨rfl, (show (0 : Int) ≤ (1 : Int32).toInt ∧ (1 : Int32).toInt ≤ (1 : Int) from (by decide)), (by show ((1 : Int32).toInt = 1 → 0 < x0.toInt); have z : (1 : Int32).toInt = 1 := rfl; omega)⟩
theorem t_f_X2_isSign {S : ZS} {x0 : Int32} (hT : ZT S) : Ok (f_X2_isSign x0 S) (fun o => o.2 = S ∧ ((0 : Int) ≤ o.1.toInt ∧ o.1.toInt ≤ (1 : Int)) ∧ ((o.1.toInt = 1 → 0 < x0.toInt))) := t_f_X2_isSign_0 hT 
theorem t_f_X2_skipSigns_0s {SZ S : ZS} {self0 : Nat → ZS → Option (Int32 × ZS)} {N0 : Nat} (hself0 : ∀ (x0 : Nat) (S : ZS), ZT S → A7 SZ S → (zK S x0 = 2) → (90102 - (zI S 4 x0).toInt) < (N0 : Int) → Ok (self0 x0 S) (fun o => ZT o.2 ∧ A7 SZ o.2 ∧ True)) {x0 : Nat} (hT : ZT S) (hR : A7 SZ S) (r_x0 : zK S x0 = 2) (m0 : (90102 - (zI S 4 x0).toInt) ≤ (N0 : Int)) : Ok (f_X2_skipSigns_0s self0 x0 S) (fun o => ZT o.2 ∧ A7 SZ o.2 ∧ True) := by
  unfold f_X2_skipSigns_0s
  have j247 := J_2_4 hT r_x0
  refine ok_chk r_x0 ?_
  refine ok_chk r_x0 ?_
  obtain ⟨b1, p_b1, k_b1, c_b1⟩ := T_2_2 hT r_x0
  refine ok_calR p_b1 ?_
  refine ok_chk k_b1 ?_
  have j248 := J61_2 hT k_b1 c_b1
  obtain ⟨r2, h_r2, p_r2⟩ := roz (t_f_X6_size (x0 := b1) hT k_b1)
  dsimp only at p_r2
  refine ok_calR h_r2 ?_
  refine ok_if (fun c249 => ?_) (fun c249 => ?_)
  ·
    replace c249 := ti_leP (a := r2) (b := (zI S 4 x0)) c249 rfl rfl
    unfold f_X2_skipSigns_44
    exact ok_ret ⟨hT, hR, trivial⟩
  ·
    replace c249 := ti_leN (a := r2) (b := (zI S 4 x0)) c249 rfl rfl
    refine ok_chk r_x0 ?_
    obtain ⟨b3, p_b3, k_b3, c_b3⟩ := T_2_2 hT r_x0
    refine ok_calR p_b3 ?_
    refine ok_chk r_x0 ?_
    refine ok_chk k_b3 ?_
    have j250 := J61_2 hT k_b3 c_b3
    obtain ⟨r4, h_r4, p_r4⟩ := roz (t_f_X6_at (x0 := b3) (x1 := (zI S 4 x0)) hT k_b3)
    dsimp only at p_r4
    refine ok_calR h_r4 ?_
    obtain ⟨r5, h_r5, p_r5⟩ := roz (t_f_X2_isSign (x0 := r4) hT )
    dsimp only at p_r5
    refine ok_calR h_r5 ?_
    refine ok_if (fun c251 => ?_) (fun c251 => ?_)
    ·
      replace c251 := ti_eqP (a := r5) (b := (0 : Int32)) c251 rfl (show (0 : Int32).toInt = 0 from rfl)
      unfold f_X2_skipSigns_44
      exact ok_ret ⟨hT, hR, trivial⟩
    ·
      replace c251 := ti_eqN (a := r5) (b := (0 : Int32)) c251 rfl (show (0 : Int32).toInt = 0 from rfl)
      refine ok_chk r_x0 ?_
      refine ok_bnd (fun v6 e252 => ?_)
      have t_v6 : v6.toInt = (zI S 4 x0).toInt + 1 := ti_add e252 rfl (show (1 : Int32).toInt = 1 from rfl) (by omega) (by omega)
      refine ok_chk r_x0 ?_
      refine ok_bnd (fun S7 e253 => ?_)
      have T_S7 : ZT S7 := e253.symm ▸ zt_I hT r_x0 (by decide) (show (0 : Int) ≤ v6.toInt ∧ v6.toInt ≤ (90100 : Int) from (by omega))
      have kE_S7 : zK S7 = zK S := by rw [e253]; rfl
      have nE_S7 : zN S7 = zN S := by rw [e253]; rfl
      have R_S7 : A7 SZ S7 := a7_I hR e253 r_x0 (by decide)
      have : (zI S7 4 x0).toInt = v6.toInt := by rw [e253]; exact (congrArg Int32.toInt (zI_self _ _ _ _)).trans rfl
      exact hself0 x0 S7 T_S7 R_S7 ((congrFun kE_S7 x0).trans r_x0) (by omega)
theorem t_f_X2_skipSigns_0 {SZ : ZS} : ∀ (n : Nat) (x0 : Nat) (S : ZS), ZT S → A7 SZ S → (zK S x0 = 2) → (90102 - (zI S 4 x0).toInt) < (n : Int) → Ok (f_X2_skipSigns_0  n x0 S) (fun o => ZT o.2 ∧ A7 SZ o.2 ∧ True) := by
  intro n
  induction n with
  | zero => intro x0 S hT hR g0  hm; exfalso; have j9 := J_2_4 hT g0; omega
  | succ n ih =>
    intro x0 S hT hR g0  hm
    exact t_f_X2_skipSigns_0s (N0 := n)  ih hT hR g0  (by omega)
theorem t_f_X2_skipSigns {SZ S : ZS} {x0 : Nat} (hT : ZT S) (hR : A7 SZ S) (r_x0 : zK S x0 = 2) : Ok (f_X2_skipSigns x0 S) (fun o => ZT o.2 ∧ A7 SZ o.2 ∧ True) := t_f_X2_skipSigns_0 mFuel x0 S hT hR r_x0 (by show _ < ((200000 : Nat) : Int); have j9 := J_2_4 hT r_x0; omega)
theorem t_f_X2_shortMark_0 {S : ZS} {x0 : Int32} {x1 : Int32} (hT : ZT S) : Ok (f_X2_shortMark_0 x0 x1 S) (fun o => o.2 = S ∧ ((0 : Int) ≤ o.1.toInt ∧ o.1.toInt ≤ (6 : Int)) ∧ ((0 < o.1.toInt → 0 < x0.toInt))) := by
  unfold f_X2_shortMark_0
  refine ok_if (fun c254 => ?_) (fun c254 => ?_)
  ·
    replace c254 := ti_eqP (a := x0) (b := (33 : Int32)) c254 rfl (show (33 : Int32).toInt = 33 from rfl)
    refine ok_if (fun c255 => ?_) (fun c255 => ?_)
    ·
      replace c255 := ti_eqP (a := x1) (b := (33 : Int32)) c255 rfl (show (33 : Int32).toInt = 33 from rfl)
      unfold f_X2_shortMark_27
      exact ok_ret ⟨rfl, (show (0 : Int) ≤ (3 : Int32).toInt ∧ (3 : Int32).toInt ≤ (6 : Int) from (by decide)), (by show (0 < (3 : Int32).toInt → 0 < x0.toInt); have z : (3 : Int32).toInt = 3 := rfl; omega)⟩
    ·
      replace c255 := ti_eqN (a := x1) (b := (33 : Int32)) c255 rfl (show (33 : Int32).toInt = 33 from rfl)
      refine ok_if (fun c256 => ?_) (fun c256 => ?_)
      ·
        replace c256 := ti_eqP (a := x1) (b := (63 : Int32)) c256 rfl (show (63 : Int32).toInt = 63 from rfl)
        unfold f_X2_shortMark_27
        exact ok_ret ⟨rfl, (show (0 : Int) ≤ (5 : Int32).toInt ∧ (5 : Int32).toInt ≤ (6 : Int) from (by decide)), (by show (0 < (5 : Int32).toInt → 0 < x0.toInt); have z : (5 : Int32).toInt = 5 := rfl; omega)⟩
      ·
        replace c256 := ti_eqN (a := x1) (b := (63 : Int32)) c256 rfl (show (63 : Int32).toInt = 63 from rfl)
        unfold f_X2_shortMark_27
        exact ok_ret ⟨rfl, (show (0 : Int) ≤ (1 : Int32).toInt ∧ (1 : Int32).toInt ≤ (6 : Int) from (by decide)), (by show (0 < (1 : Int32).toInt → 0 < x0.toInt); have z : (1 : Int32).toInt = 1 := rfl; omega)⟩
  ·
    replace c254 := ti_eqN (a := x0) (b := (33 : Int32)) c254 rfl (show (33 : Int32).toInt = 33 from rfl)
    refine ok_if (fun c257 => ?_) (fun c257 => ?_)
    ·
      replace c257 := ti_eqP (a := x0) (b := (63 : Int32)) c257 rfl (show (63 : Int32).toInt = 63 from rfl)
      refine ok_if (fun c258 => ?_) (fun c258 => ?_)
      ·
        replace c258 := ti_eqP (a := x1) (b := (63 : Int32)) c258 rfl (show (63 : Int32).toInt = 63 from rfl)
        unfold f_X2_shortMark_56
        exact ok_ret ⟨rfl, (show (0 : Int) ≤ (4 : Int32).toInt ∧ (4 : Int32).toInt ≤ (6 : Int) from (by decide)), (by show (0 < (4 : Int32).toInt → 0 < x0.toInt); have z : (4 : Int32).toInt = 4 := rfl; omega)⟩
      ·
        replace c258 := ti_eqN (a := x1) (b := (63 : Int32)) c258 rfl (show (63 : Int32).toInt = 63 from rfl)
        refine ok_if (fun c259 => ?_) (fun c259 => ?_)
        ·
          replace c259 := ti_eqP (a := x1) (b := (33 : Int32)) c259 rfl (show (33 : Int32).toInt = 33 from rfl)
          unfold f_X2_shortMark_56
          exact ok_ret ⟨rfl, (show (0 : Int) ≤ (6 : Int32).toInt ∧ (6 : Int32).toInt ≤ (6 : Int) from (by decide)), (by show (0 < (6 : Int32).toInt → 0 < x0.toInt); have z : (6 : Int32).toInt = 6 := rfl; omega)⟩
        ·
          replace c259 := ti_eqN (a := x1) (b := (33 : Int32)) c259 rfl (show (33 : Int32).toInt = 33 from rfl)
          unfold f_X2_shortMark_56
          exact ok_ret ⟨rfl, (show (0 : Int) ≤ (2 : Int32).toInt ∧ (2 : Int32).toInt ≤ (6 : Int) from (by decide)), (by show (0 < (2 : Int32).toInt → 0 < x0.toInt); have z : (2 : Int32).toInt = 2 := rfl; omega)⟩
    ·
      replace c257 := ti_eqN (a := x0) (b := (63 : Int32)) c257 rfl (show (63 : Int32).toInt = 63 from rfl)
      exact ok_ret ⟨rfl, (show (0 : Int) ≤ (0 : Int32).toInt ∧ (0 : Int32).toInt ≤ (6 : Int) from (by decide)), (by show (0 < (0 : Int32).toInt → 0 < x0.toInt); have z : (0 : Int32).toInt = 0 := rfl; omega)⟩
theorem t_f_X2_shortMark {S : ZS} {x0 : Int32} {x1 : Int32} (hT : ZT S) : Ok (f_X2_shortMark x0 x1 S) (fun o => o.2 = S ∧ ((0 : Int) ≤ o.1.toInt ∧ o.1.toInt ≤ (6 : Int)) ∧ ((0 < o.1.toInt → 0 < x0.toInt))) := t_f_X2_shortMark_0 hT 
theorem t_f_X2_readMark_0 {SZ S : ZS} {x0 : Nat} {x1 : Nat} (hT : ZT S) (hR : A7 SZ S) (r_x0 : zK S x0 = 2) (r_x1 : zK S x1 = 4) (q0 : (zI S 4 x0).toInt ≤ 90000) : Ok (f_X2_readMark_0 x0 x1 S) (fun o => ZT o.2 ∧ A7 SZ o.2 ∧ ((0 : Int) ≤ o.1.toInt ∧ o.1.toInt ≤ (1 : Int))) := by
  unfold f_X2_readMark_0
  have j260 := J_2_4 hT r_x0
  have j261 := J_4_4 hT r_x1
  refine ok_chk r_x0 ?_
  refine ok_chk r_x0 ?_
  refine ok_bnd (fun v1 e262 => ?_)
  have t_v1 : v1.toInt = (zI S 4 x0).toInt + 1 := ti_add e262 rfl (show (1 : Int32).toInt = 1 from rfl) (by omega) (by omega)
  refine ok_chk r_x0 ?_
  refine ok_bnd (fun S2 e263 => ?_)
  have T_S2 : ZT S2 := e263.symm ▸ zt_I hT r_x0 (by decide) (show (0 : Int) ≤ v1.toInt ∧ v1.toInt ≤ (90100 : Int) from (by omega))
  have kE_S2 : zK S2 = zK S := by rw [e263]; rfl
  have nE_S2 : zN S2 = zN S := by rw [e263]; rfl
  have R_S2 : A7 SZ S2 := a7_I hR e263 r_x0 (by decide)
  have : (zI S2 4 x0).toInt = v1.toInt := by rw [e263]; exact (congrArg Int32.toInt (zI_self _ _ _ _)).trans rfl
  have : (zI S2 4 x1).toInt = (zI S 4 x1).toInt := by rw [e263]; exact congrArg Int32.toInt (zI_ne (fun e9 => by have k9 := r_x1; rw [e9, r_x0] at k9; exact absurd k9 (by decide)))
  refine ok_chk ((congrFun kE_S2 x0).trans r_x0) ?_
  obtain ⟨⟨r3, S3⟩, h_r3, T_S3, A_S3, -⟩ := t_f_X2_readDigits (x0 := x0) (x1 := (3 : Int32)) (SZ := S2) T_S2 (a7_0 S2) ((congrFun kE_S2 x0).trans r_x0) (by decide)
  replace T_S3 : ZT S3 := T_S3
  replace A_S3 : A7 S2 S3 := A_S3
  refine ok_calR h_r3 ?_
  have q_S3 := fq_X2_readDigits h_r3
  have kE_S3 : zK S3 = zK S2 := q_S3.2.2.1
  have nE_S3 : zN S3 = zN S2 := q_S3.2.2.2.1
  have R_S3 : A7 SZ S3 := a7_t R_S2 A_S3
  have : (zI S3 4 x1).toInt = (zI S2 4 x1).toInt := congrArg Int32.toInt ((((fz_X2_readDigits h_r3) T_S2.2.2.2.2.1).2.2 x1 (by rw [((congrFun kE_S2 x1).trans r_x1)]; decide)).2.2.1 4 (by rw [((congrFun kE_S2 x1).trans r_x1)]; decide))
  refine ok_chk ((congrFun kE_S3 x0).trans ((congrFun kE_S2 x0).trans r_x0)) ?_
  refine ok_bnd (fun v4 e264 => ?_)
  have t_v4 : v4.toInt = (zI S 4 x0).toInt + 1 := ti_add e264 rfl (show (1 : Int32).toInt = 1 from rfl) (by omega) (by omega)
  have j265 := J_2_4 T_S3 ((congrFun kE_S3 x0).trans ((congrFun kE_S2 x0).trans r_x0))
  refine ok_if (fun c266 => ?_) (fun c266 => ?_)
  ·
    replace c266 := ti_eqP (a := (zI S3 4 x0)) (b := v4) c266 rfl rfl
    refine ok_chk ((congrFun kE_S3 x0).trans ((congrFun kE_S2 x0).trans r_x0)) ?_
    refine ok_chk ((congrFun kE_S3 x0).trans ((congrFun kE_S2 x0).trans r_x0)) ?_
    obtain ⟨⟨r10, S10⟩, h_r10, T_S10, A_S10, p_r10⟩ := t_f_X2_refuse (x0 := x0) (x1 := (1 : Int32)) (x2 := (zI S3 4 x0)) (SZ := S3) T_S3 (a7_0 S3) ((congrFun kE_S3 x0).trans ((congrFun kE_S2 x0).trans r_x0))
    replace T_S10 : ZT S10 := T_S10
    replace A_S10 : A7 S3 S10 := A_S10
    dsimp only at p_r10
    refine ok_calR h_r10 ?_
    have q_S10 := fq_X2_refuse h_r10
    have kE_S10 : zK S10 = zK S3 := q_S10.2.2.1
    have nE_S10 : zN S10 = zN S3 := q_S10.2.2.2.1
    have R_S10 : A7 SZ S10 := a7_t R_S3 A_S10
    have : (zI S10 4 x0).toInt = (zI S3 4 x0).toInt := congrArg Int32.toInt ((((fz_X2_refuse h_r10) T_S3.2.2.2.2.1).2.2 x0 (by rw [((congrFun kE_S3 x0).trans ((congrFun kE_S2 x0).trans r_x0))]; decide)).2.2.1 4 (by rw [((congrFun kE_S3 x0).trans ((congrFun kE_S2 x0).trans r_x0))]; decide))
    have : (zI S10 4 x1).toInt = (zI S3 4 x1).toInt := congrArg Int32.toInt ((((fz_X2_refuse h_r10) T_S3.2.2.2.2.1).2.2 x1 (by rw [((congrFun kE_S3 x1).trans ((congrFun kE_S2 x1).trans r_x1))]; decide)).2.2.1 4 (by rw [((congrFun kE_S3 x1).trans ((congrFun kE_S2 x1).trans r_x1))]; decide))
    refine ok_chk (nar_b (v := r10) (by omega) (by omega)) ?_
    exact ok_ret ⟨T_S10, R_S10, (show (0 : Int) ≤ r10.toInt ∧ r10.toInt ≤ (1 : Int) from (by omega))⟩
  ·
    replace c266 := ti_eqN (a := (zI S3 4 x0)) (b := v4) c266 rfl rfl
    refine ok_if (fun c267 => ?_) (fun c267 => ?_)
    ·
      replace c267 := ti_ltP (a := (255 : Int32)) (b := r3) c267 (show (255 : Int32).toInt = 255 from rfl) rfl
      unfold f_X2_readMark_56
      refine ok_chk ((congrFun kE_S3 x0).trans ((congrFun kE_S2 x0).trans r_x0)) ?_
      obtain ⟨⟨r1, S1⟩, h_r1, T_S1, A_S1, p_r1⟩ := t_f_X2_refuse (x0 := x0) (x1 := (8 : Int32)) (x2 := (zI S 4 x0)) (SZ := S3) T_S3 (a7_0 S3) ((congrFun kE_S3 x0).trans ((congrFun kE_S2 x0).trans r_x0))
      replace T_S1 : ZT S1 := T_S1
      replace A_S1 : A7 S3 S1 := A_S1
      dsimp only at p_r1
      refine ok_calR h_r1 ?_
      have q_S1 := fq_X2_refuse h_r1
      have kE_S1 : zK S1 = zK S3 := q_S1.2.2.1
      have nE_S1 : zN S1 = zN S3 := q_S1.2.2.2.1
      have R_S1 : A7 SZ S1 := a7_t R_S3 A_S1
      have : (zI S1 4 x0).toInt = (zI S3 4 x0).toInt := congrArg Int32.toInt ((((fz_X2_refuse h_r1) T_S3.2.2.2.2.1).2.2 x0 (by rw [((congrFun kE_S3 x0).trans ((congrFun kE_S2 x0).trans r_x0))]; decide)).2.2.1 4 (by rw [((congrFun kE_S3 x0).trans ((congrFun kE_S2 x0).trans r_x0))]; decide))
      have : (zI S1 4 x1).toInt = (zI S3 4 x1).toInt := congrArg Int32.toInt ((((fz_X2_refuse h_r1) T_S3.2.2.2.2.1).2.2 x1 (by rw [((congrFun kE_S3 x1).trans ((congrFun kE_S2 x1).trans r_x1))]; decide)).2.2.1 4 (by rw [((congrFun kE_S3 x1).trans ((congrFun kE_S2 x1).trans r_x1))]; decide))
      refine ok_chk (nar_b (v := r1) (by omega) (by omega)) ?_
      exact ok_ret ⟨T_S1, R_S1, (show (0 : Int) ≤ r1.toInt ∧ r1.toInt ≤ (1 : Int) from (by omega))⟩
    ·
      replace c267 := ti_ltN (a := (255 : Int32)) (b := r3) c267 (show (255 : Int32).toInt = 255 from rfl) rfl
      refine ok_chk ((congrFun kE_S3 x1).trans ((congrFun kE_S2 x1).trans r_x1)) ?_
      have j268 := J_4_4 T_S3 ((congrFun kE_S3 x1).trans ((congrFun kE_S2 x1).trans r_x1))
      refine ok_if (fun c269 => ?_) (fun c269 => ?_)
      ·
        replace c269 := ti_ltP (a := (zI S3 4 x1)) (b := (4 : Int32)) c269 rfl (show (4 : Int32).toInt = 4 from rfl)
        refine ok_chk ((congrFun kE_S3 x0).trans ((congrFun kE_S2 x0).trans r_x0)) ?_
        obtain ⟨b5, p_b5, k_b5, c_b5⟩ := T_2_2 T_S3 ((congrFun kE_S3 x0).trans ((congrFun kE_S2 x0).trans r_x0))
        refine ok_calR p_b5 ?_
        refine ok_chk ((congrFun kE_S3 x0).trans ((congrFun kE_S2 x0).trans r_x0)) ?_
        refine ok_chk k_b5 ?_
        have j270 := J61_2 T_S3 k_b5 c_b5
        obtain ⟨r6, h_r6, p_r6⟩ := roz (t_f_X6_at (x0 := b5) (x1 := (zI S3 4 x0)) T_S3 k_b5)
        dsimp only at p_r6
        refine ok_calR h_r6 ?_
        obtain ⟨r7, h_r7, p_r7⟩ := roz (t_f_X11_isDigit (x0 := r6) T_S3 )
        dsimp only at p_r7
        refine ok_calR h_r7 ?_
        refine ok_if (fun c271 => ?_) (fun c271 => ?_)
        ·
          replace c271 := ti_eqP (a := r7) (b := (0 : Int32)) c271 rfl (show (0 : Int32).toInt = 0 from rfl)
          refine ok_chk ((congrFun kE_S3 x1).trans ((congrFun kE_S2 x1).trans r_x1)) ?_
          obtain ⟨⟨r8, S8⟩, h_r8, T_S8, A_S8, -⟩ := t_f_X4_putMark (x0 := x1) (x1 := r3) (SZ := S3) T_S3 (a7_0 S3) ((congrFun kE_S3 x1).trans ((congrFun kE_S2 x1).trans r_x1)) (by omega)
          replace T_S8 : ZT S8 := T_S8
          replace A_S8 : A7 S3 S8 := A_S8
          refine ok_calR h_r8 ?_
          have q_S8 := fq_X4_putMark h_r8
          have kE_S8 : zK S8 = zK S3 := q_S8.2.2.1
          have nE_S8 : zN S8 = zN S3 := q_S8.2.2.2.1
          have R_S8 : A7 SZ S8 := a7_t R_S3 A_S8
          have : (zI S8 4 x0).toInt = (zI S3 4 x0).toInt := congrArg Int32.toInt ((((fz_X4_putMark h_r8) T_S3.2.2.2.2.1).2.2 x0 (by rw [((congrFun kE_S3 x0).trans ((congrFun kE_S2 x0).trans r_x0))]; decide)).2.2.1 4 (by rw [((congrFun kE_S3 x0).trans ((congrFun kE_S2 x0).trans r_x0))]; decide))
          refine ok_chk (by decide) ?_
          exact ok_ret ⟨T_S8, R_S8, (show (0 : Int) ≤ (1 : Int32).toInt ∧ (1 : Int32).toInt ≤ (1 : Int) from (by decide))⟩
        ·
          replace c271 := ti_eqN (a := r7) (b := (0 : Int32)) c271 rfl (show (0 : Int32).toInt = 0 from rfl)
          refine ok_chk ((congrFun kE_S3 x0).trans ((congrFun kE_S2 x0).trans r_x0)) ?_
          refine ok_chk ((congrFun kE_S3 x0).trans ((congrFun kE_S2 x0).trans r_x0)) ?_
          obtain ⟨⟨r9, S9⟩, h_r9, T_S9, A_S9, p_r9⟩ := t_f_X2_refuse (x0 := x0) (x1 := (1 : Int32)) (x2 := (zI S3 4 x0)) (SZ := S3) T_S3 (a7_0 S3) ((congrFun kE_S3 x0).trans ((congrFun kE_S2 x0).trans r_x0))
          replace T_S9 : ZT S9 := T_S9
          replace A_S9 : A7 S3 S9 := A_S9
          dsimp only at p_r9
          refine ok_calR h_r9 ?_
          have q_S9 := fq_X2_refuse h_r9
          have kE_S9 : zK S9 = zK S3 := q_S9.2.2.1
          have nE_S9 : zN S9 = zN S3 := q_S9.2.2.2.1
          have R_S9 : A7 SZ S9 := a7_t R_S3 A_S9
          have : (zI S9 4 x0).toInt = (zI S3 4 x0).toInt := congrArg Int32.toInt ((((fz_X2_refuse h_r9) T_S3.2.2.2.2.1).2.2 x0 (by rw [((congrFun kE_S3 x0).trans ((congrFun kE_S2 x0).trans r_x0))]; decide)).2.2.1 4 (by rw [((congrFun kE_S3 x0).trans ((congrFun kE_S2 x0).trans r_x0))]; decide))
          have : (zI S9 4 x1).toInt = (zI S3 4 x1).toInt := congrArg Int32.toInt ((((fz_X2_refuse h_r9) T_S3.2.2.2.2.1).2.2 x1 (by rw [((congrFun kE_S3 x1).trans ((congrFun kE_S2 x1).trans r_x1))]; decide)).2.2.1 4 (by rw [((congrFun kE_S3 x1).trans ((congrFun kE_S2 x1).trans r_x1))]; decide))
          refine ok_chk (nar_b (v := r9) (by omega) (by omega)) ?_
          exact ok_ret ⟨T_S9, R_S9, (show (0 : Int) ≤ r9.toInt ∧ r9.toInt ≤ (1 : Int) from (by omega))⟩
      ·
        replace c269 := ti_ltN (a := (zI S3 4 x1)) (b := (4 : Int32)) c269 rfl (show (4 : Int32).toInt = 4 from rfl)
        unfold f_X2_readMark_56
        refine ok_chk ((congrFun kE_S3 x0).trans ((congrFun kE_S2 x0).trans r_x0)) ?_
        obtain ⟨⟨r1, S1⟩, h_r1, T_S1, A_S1, p_r1⟩ := t_f_X2_refuse (x0 := x0) (x1 := (8 : Int32)) (x2 := (zI S 4 x0)) (SZ := S3) T_S3 (a7_0 S3) ((congrFun kE_S3 x0).trans ((congrFun kE_S2 x0).trans r_x0))
        replace T_S1 : ZT S1 := T_S1
        replace A_S1 : A7 S3 S1 := A_S1
        dsimp only at p_r1
        refine ok_calR h_r1 ?_
        have q_S1 := fq_X2_refuse h_r1
        have kE_S1 : zK S1 = zK S3 := q_S1.2.2.1
        have nE_S1 : zN S1 = zN S3 := q_S1.2.2.2.1
        have R_S1 : A7 SZ S1 := a7_t R_S3 A_S1
        have : (zI S1 4 x0).toInt = (zI S3 4 x0).toInt := congrArg Int32.toInt ((((fz_X2_refuse h_r1) T_S3.2.2.2.2.1).2.2 x0 (by rw [((congrFun kE_S3 x0).trans ((congrFun kE_S2 x0).trans r_x0))]; decide)).2.2.1 4 (by rw [((congrFun kE_S3 x0).trans ((congrFun kE_S2 x0).trans r_x0))]; decide))
        have : (zI S1 4 x1).toInt = (zI S3 4 x1).toInt := congrArg Int32.toInt ((((fz_X2_refuse h_r1) T_S3.2.2.2.2.1).2.2 x1 (by rw [((congrFun kE_S3 x1).trans ((congrFun kE_S2 x1).trans r_x1))]; decide)).2.2.1 4 (by rw [((congrFun kE_S3 x1).trans ((congrFun kE_S2 x1).trans r_x1))]; decide))
        refine ok_chk (nar_b (v := r1) (by omega) (by omega)) ?_
        exact ok_ret ⟨T_S1, R_S1, (show (0 : Int) ≤ r1.toInt ∧ r1.toInt ≤ (1 : Int) from (by omega))⟩
theorem t_f_X2_readMark {SZ S : ZS} {x0 : Nat} {x1 : Nat} (hT : ZT S) (hR : A7 SZ S) (r_x0 : zK S x0 = 2) (r_x1 : zK S x1 = 4) (q0 : (zI S 4 x0).toInt ≤ 90000) : Ok (f_X2_readMark x0 x1 S) (fun o => ZT o.2 ∧ A7 SZ o.2 ∧ ((0 : Int) ≤ o.1.toInt ∧ o.1.toInt ≤ (1 : Int))) := t_f_X2_readMark_0 hT hR r_x0 r_x1 q0
theorem t_f_X2_readMarks_69s {SZ S : ZS} {self69 : Nat → Nat → Int32 → Int32 → ZS → Option (Int32 × ZS)} {N69 : Nat} (hself69 : ∀ (x0 : Nat) (x1 : Nat) (x3 : Int32) (x4 : Int32) (S : ZS), ZT S → A7 SZ S → (zK S x0 = 2) → (zK S x1 = 4) → ((0 : Int) ≤ x3.toInt ∧ x3.toInt ≤ (1 : Int)) → ((0 : Int) ≤ x4.toInt ∧ x4.toInt ≤ (2000 : Int)) → (2001 - x4.toInt) < (N69 : Int) → Ok (self69 x0 x1 x3 x4 S) (fun o => ZT o.2 ∧ A7 SZ o.2 ∧ ((0 : Int) ≤ o.1.toInt ∧ o.1.toInt ≤ (1 : Int)))) {x0 : Nat} {x1 : Nat} {x3 : Int32} {x4 : Int32} (hT : ZT S) (hR : A7 SZ S) (r_x0 : zK S x0 = 2) (r_x1 : zK S x1 = 4) (r_x3 : (0 : Int) ≤ x3.toInt ∧ x3.toInt ≤ (1 : Int)) (r_x4 : (0 : Int) ≤ x4.toInt ∧ x4.toInt ≤ (2000 : Int)) (m69 : (2001 - x4.toInt) ≤ (N69 : Int)) : Ok (f_X2_readMarks_69s self69 x0 x1 x3 x4 S) (fun o => ZT o.2 ∧ A7 SZ o.2 ∧ ((0 : Int) ≤ o.1.toInt ∧ o.1.toInt ≤ (1 : Int))) := by
  unfold f_X2_readMarks_69s
  have j272 := J_2_4 hT r_x0
  have j273 := J_4_4 hT r_x1
  refine ok_if (fun c274 => ?_) (fun c274 => ?_)
  ·
    replace c274 := ti_leP (a := (2000 : Int32)) (b := x4) c274 (show (2000 : Int32).toInt = 2000 from rfl) rfl
    unfold f_X2_readMarks_113
    refine ok_chk (nar_b (v := x3) (by omega) (by omega)) ?_
    exact ok_ret ⟨hT, hR, (show (0 : Int) ≤ x3.toInt ∧ x3.toInt ≤ (1 : Int) from (by omega))⟩
  ·
    replace c274 := ti_leN (a := (2000 : Int32)) (b := x4) c274 (show (2000 : Int32).toInt = 2000 from rfl) rfl
    refine ok_if (fun c275 => ?_) (fun c275 => ?_)
    ·
      replace c275 := ti_eqP (a := x3) (b := (0 : Int32)) c275 rfl (show (0 : Int32).toInt = 0 from rfl)
      unfold f_X2_readMarks_113
      refine ok_chk (nar_b (v := x3) (by omega) (by omega)) ?_
      exact ok_ret ⟨hT, hR, (show (0 : Int) ≤ x3.toInt ∧ x3.toInt ≤ (1 : Int) from (by omega))⟩
    ·
      replace c275 := ti_eqN (a := x3) (b := (0 : Int32)) c275 rfl (show (0 : Int32).toInt = 0 from rfl)
      refine ok_chk r_x0 ?_
      obtain ⟨b1, p_b1, k_b1, c_b1⟩ := T_2_2 hT r_x0
      refine ok_calR p_b1 ?_
      refine ok_chk r_x0 ?_
      refine ok_chk k_b1 ?_
      have j276 := J61_2 hT k_b1 c_b1
      obtain ⟨r2, h_r2, p_r2⟩ := roz (t_f_X6_at (x0 := b1) (x1 := (zI S 4 x0)) hT k_b1)
      dsimp only at p_r2
      refine ok_calR h_r2 ?_
      refine ok_if (fun c277 => ?_) (fun c277 => ?_)
      ·
        replace c277 := ti_eqP (a := r2) (b := (36 : Int32)) c277 rfl (show (36 : Int32).toInt = 36 from rfl)
        refine ok_chk r_x0 ?_
        obtain ⟨⟨r3, S3⟩, h_r3, T_S3, A_S3, p_r3⟩ := t_f_X2_readMark (x0 := x0) (x1 := x1) (SZ := S) hT (a7_0 S) r_x0 r_x1 (by omega)
        replace T_S3 : ZT S3 := T_S3
        replace A_S3 : A7 S S3 := A_S3
        dsimp only at p_r3
        refine ok_calR h_r3 ?_
        have q_S3 := fq_X2_readMark h_r3
        have kE_S3 : zK S3 = zK S := q_S3.2.2.1
        have nE_S3 : zN S3 = zN S := q_S3.2.2.2.1
        have R_S3 : A7 SZ S3 := a7_t hR A_S3
        refine ok_chk ((congrFun kE_S3 x0).trans r_x0) ?_
        obtain ⟨⟨r4, S4⟩, h_r4, T_S4, A_S4, -⟩ := t_f_X2_skipBlanks (x0 := x0) (SZ := S3) T_S3 (a7_0 S3) ((congrFun kE_S3 x0).trans r_x0)
        replace T_S4 : ZT S4 := T_S4
        replace A_S4 : A7 S3 S4 := A_S4
        refine ok_calR h_r4 ?_
        have q_S4 := fq_X2_skipBlanks h_r4
        have kE_S4 : zK S4 = zK S3 := q_S4.2.2.1
        have nE_S4 : zN S4 = zN S3 := q_S4.2.2.2.1
        have R_S4 : A7 SZ S4 := a7_t R_S3 A_S4
        have : (zI S4 4 x1).toInt = (zI S3 4 x1).toInt := congrArg Int32.toInt ((((fz_X2_skipBlanks h_r4) T_S3.2.2.2.2.1).2.2 x1 (by rw [((congrFun kE_S3 x1).trans r_x1)]; decide)).2.2.1 4 (by rw [((congrFun kE_S3 x1).trans r_x1)]; decide))
        refine ok_bnd (fun v5 e278 => ?_)
        have t_v5 : v5.toInt = x4.toInt + 1 := ti_add e278 rfl (show (1 : Int32).toInt = 1 from rfl) (by omega) (by omega)
        exact hself69 x0 x1 r3 v5 S4 T_S4 R_S4 ((congrFun kE_S4 x0).trans ((congrFun kE_S3 x0).trans r_x0)) ((congrFun kE_S4 x1).trans ((congrFun kE_S3 x1).trans r_x1)) (by omega) (by omega) (by omega)
      ·
        replace c277 := ti_eqN (a := r2) (b := (36 : Int32)) c277 rfl (show (36 : Int32).toInt = 36 from rfl)
        unfold f_X2_readMarks_113
        refine ok_chk (nar_b (v := x3) (by omega) (by omega)) ?_
        exact ok_ret ⟨hT, hR, (show (0 : Int) ≤ x3.toInt ∧ x3.toInt ≤ (1 : Int) from (by omega))⟩
theorem t_f_X2_readMarks_69 {SZ : ZS} : ∀ (n : Nat) (x0 : Nat) (x1 : Nat) (x3 : Int32) (x4 : Int32) (S : ZS), ZT S → A7 SZ S → (zK S x0 = 2) → (zK S x1 = 4) → ((0 : Int) ≤ x3.toInt ∧ x3.toInt ≤ (1 : Int)) → ((0 : Int) ≤ x4.toInt ∧ x4.toInt ≤ (2000 : Int)) → (2001 - x4.toInt) < (n : Int) → Ok (f_X2_readMarks_69  n x0 x1 x3 x4 S) (fun o => ZT o.2 ∧ A7 SZ o.2 ∧ ((0 : Int) ≤ o.1.toInt ∧ o.1.toInt ≤ (1 : Int))) := by
  intro n
  induction n with
  | zero => intro x0 x1 x3 x4 S hT hR g0 g1 g2 g3  hm; exfalso; omega
  | succ n ih =>
    intro x0 x1 x3 x4 S hT hR g0 g1 g2 g3  hm
    exact t_f_X2_readMarks_69s (N69 := n)  ih hT hR g0 g1 g2 g3  (by omega)
theorem t_f_X2_readMarks_56 {SZ S : ZS} {x0 : Nat} {x1 : Nat} {t0 : Int32} {t1 : Int32} {t2 : Nat} (hT : ZT S) (hR : A7 SZ S) (r_x0 : zK S x0 = 2) (r_x1 : zK S x1 = 4) (r_t0 : (1 : Int) ≤ t0.toInt ∧ t0.toInt ≤ (2 : Int)) (r_t1 : (0 : Int) ≤ t1.toInt ∧ t1.toInt ≤ (90000 : Int)) (r_t2 : zK S t2 = 2) : Ok (f_X2_readMarks_56 x0 x1 t0 t1 t2 S) (fun o => ZT o.2 ∧ A7 SZ o.2 ∧ ((0 : Int) ≤ o.1.toInt ∧ o.1.toInt ≤ (1 : Int))) := by
  unfold f_X2_readMarks_56
  have j279 := J_2_4 hT r_x0
  have j280 := J_4_4 hT r_x1
  refine ok_bnd (fun v1 e281 => ?_)
  have t_v1 : v1.toInt = t1.toInt + t0.toInt := ti_add e281 rfl rfl (by omega) (by omega)
  refine ok_chk r_t2 ?_
  refine ok_bnd (fun S2 e282 => ?_)
  have T_S2 : ZT S2 := e282.symm ▸ zt_I hT r_t2 (by decide) (show (0 : Int) ≤ v1.toInt ∧ v1.toInt ≤ (90100 : Int) from (by omega))
  have kE_S2 : zK S2 = zK S := by rw [e282]; rfl
  have nE_S2 : zN S2 = zN S := by rw [e282]; rfl
  have R_S2 : A7 SZ S2 := a7_I hR e282 r_t2 (by decide)
  have : (zI S2 4 x1).toInt = (zI S 4 x1).toInt := by rw [e282]; exact congrArg Int32.toInt (zI_ne (fun e9 => by have k9 := r_x1; rw [e9, r_t2] at k9; exact absurd k9 (by decide)))
  refine ok_chk ((congrFun kE_S2 x0).trans r_x0) ?_
  obtain ⟨⟨r3, S3⟩, h_r3, T_S3, A_S3, -⟩ := t_f_X2_skipBlanks (x0 := x0) (SZ := S2) T_S2 (a7_0 S2) ((congrFun kE_S2 x0).trans r_x0)
  replace T_S3 : ZT S3 := T_S3
  replace A_S3 : A7 S2 S3 := A_S3
  refine ok_calR h_r3 ?_
  have q_S3 := fq_X2_skipBlanks h_r3
  have kE_S3 : zK S3 = zK S2 := q_S3.2.2.1
  have nE_S3 : zN S3 = zN S2 := q_S3.2.2.2.1
  have R_S3 : A7 SZ S3 := a7_t R_S2 A_S3
  have : (zI S3 4 x1).toInt = (zI S2 4 x1).toInt := congrArg Int32.toInt ((((fz_X2_skipBlanks h_r3) T_S2.2.2.2.2.1).2.2 x1 (by rw [((congrFun kE_S2 x1).trans r_x1)]; decide)).2.2.1 4 (by rw [((congrFun kE_S2 x1).trans r_x1)]; decide))
  unfold f_X2_readMarks_64
  exact t_f_X2_readMarks_69   mFuel x0 x1 (1 : Int32) (0 : Int32) S3 T_S3 R_S3 ((congrFun kE_S3 x0).trans ((congrFun kE_S2 x0).trans r_x0)) ((congrFun kE_S3 x1).trans ((congrFun kE_S2 x1).trans r_x1)) (by decide) (by decide) (by show _ < ((200000 : Nat) : Int); have z0 : (1 : Int32).toInt = 1 := rfl; have z1 : (0 : Int32).toInt = 0 := rfl; omega)
theorem t_f_X2_readMarks_0 {SZ S : ZS} {x0 : Nat} {x1 : Nat} (hT : ZT S) (hR : A7 SZ S) (r_x0 : zK S x0 = 2) (r_x1 : zK S x1 = 4) (q0 : (zI S 4 x1).toInt ≤ 3) : Ok (f_X2_readMarks_0 x0 x1 S) (fun o => ZT o.2 ∧ A7 SZ o.2 ∧ ((0 : Int) ≤ o.1.toInt ∧ o.1.toInt ≤ (1 : Int))) := by
  unfold f_X2_readMarks_0
  have j283 := J_2_4 hT r_x0
  have j284 := J_4_4 hT r_x1
  refine ok_chk r_x0 ?_
  obtain ⟨⟨r1, S1⟩, h_r1, T_S1, A_S1, -⟩ := t_f_X2_skipBlanks (x0 := x0) (SZ := S) hT (a7_0 S) r_x0
  replace T_S1 : ZT S1 := T_S1
  replace A_S1 : A7 S S1 := A_S1
  refine ok_calR h_r1 ?_
  have q_S1 := fq_X2_skipBlanks h_r1
  have kE_S1 : zK S1 = zK S := q_S1.2.2.1
  have nE_S1 : zN S1 = zN S := q_S1.2.2.2.1
  have R_S1 : A7 SZ S1 := a7_t hR A_S1
  have : (zI S1 4 x1).toInt = (zI S 4 x1).toInt := congrArg Int32.toInt ((((fz_X2_skipBlanks h_r1) hT.2.2.2.2.1).2.2 x1 (by rw [r_x1]; decide)).2.2.1 4 (by rw [r_x1]; decide))
  refine ok_chk ((congrFun kE_S1 x0).trans r_x0) ?_
  obtain ⟨b2, p_b2, k_b2, c_b2⟩ := T_2_2 T_S1 ((congrFun kE_S1 x0).trans r_x0)
  refine ok_calR p_b2 ?_
  refine ok_chk ((congrFun kE_S1 x0).trans r_x0) ?_
  refine ok_chk k_b2 ?_
  have j285 := J61_2 T_S1 k_b2 c_b2
  obtain ⟨r3, h_r3, p_r3⟩ := roz (t_f_X6_at (x0 := b2) (x1 := (zI S1 4 x0)) T_S1 k_b2)
  dsimp only at p_r3
  refine ok_calR h_r3 ?_
  refine ok_chk ((congrFun kE_S1 x0).trans r_x0) ?_
  obtain ⟨b4, p_b4, k_b4, c_b4⟩ := T_2_2 T_S1 ((congrFun kE_S1 x0).trans r_x0)
  refine ok_calR p_b4 ?_
  refine ok_chk ((congrFun kE_S1 x0).trans r_x0) ?_
  refine ok_bnd (fun v5 e286 => ?_)
  have j287 := J_2_4 T_S1 ((congrFun kE_S1 x0).trans r_x0)
  have t_v5 : v5.toInt = (zI S1 4 x0).toInt + 1 := ti_add e286 rfl (show (1 : Int32).toInt = 1 from rfl) (by omega) (by omega)
  refine ok_chk k_b4 ?_
  have j288 := J61_2 T_S1 k_b4 c_b4
  obtain ⟨r6, h_r6, p_r6⟩ := roz (t_f_X6_at (x0 := b4) (x1 := v5) T_S1 k_b4)
  dsimp only at p_r6
  refine ok_calR h_r6 ?_
  obtain ⟨r7, h_r7, p_r7⟩ := roz (t_f_X2_shortMark (x0 := r3) (x1 := r6) T_S1 )
  dsimp only at p_r7
  refine ok_calR h_r7 ?_
  refine ok_if (fun c289 => ?_) (fun c289 => ?_)
  ·
    replace c289 := ti_leP (a := r7) (b := (0 : Int32)) c289 rfl (show (0 : Int32).toInt = 0 from rfl)
    unfold f_X2_readMarks_64
    exact t_f_X2_readMarks_69   mFuel x0 x1 (1 : Int32) (0 : Int32) S1 T_S1 R_S1 ((congrFun kE_S1 x0).trans r_x0) ((congrFun kE_S1 x1).trans r_x1) (by decide) (by decide) (by show _ < ((200000 : Nat) : Int); have z0 : (1 : Int32).toInt = 1 := rfl; have z1 : (0 : Int32).toInt = 0 := rfl; omega)
  ·
    replace c289 := ti_leN (a := r7) (b := (0 : Int32)) c289 rfl (show (0 : Int32).toInt = 0 from rfl)
    refine ok_chk ((congrFun kE_S1 x1).trans r_x1) ?_
    have j290 := J_4_4 T_S1 ((congrFun kE_S1 x1).trans r_x1)
    obtain ⟨⟨r8, S8⟩, h_r8, T_S8, A_S8, -⟩ := t_f_X4_putMark (x0 := x1) (x1 := r7) (SZ := S1) T_S1 (a7_0 S1) ((congrFun kE_S1 x1).trans r_x1) (by omega)
    replace T_S8 : ZT S8 := T_S8
    replace A_S8 : A7 S1 S8 := A_S8
    refine ok_calR h_r8 ?_
    have q_S8 := fq_X4_putMark h_r8
    have kE_S8 : zK S8 = zK S1 := q_S8.2.2.1
    have nE_S8 : zN S8 = zN S1 := q_S8.2.2.2.1
    have R_S8 : A7 SZ S8 := a7_t R_S1 A_S8
    have : (zI S8 4 x0).toInt = (zI S1 4 x0).toInt := congrArg Int32.toInt ((((fz_X4_putMark h_r8) T_S1.2.2.2.2.1).2.2 x0 (by rw [((congrFun kE_S1 x0).trans r_x0)]; decide)).2.2.1 4 (by rw [((congrFun kE_S1 x0).trans r_x0)]; decide))
    refine ok_chk ((congrFun kE_S8 x0).trans ((congrFun kE_S1 x0).trans r_x0)) ?_
    refine ok_if (fun c291 => ?_) (fun c291 => ?_)
    ·
      replace c291 := ti_leP (a := r7) (b := (2 : Int32)) c291 rfl (show (2 : Int32).toInt = 2 from rfl)
      have j292 := J_2_4 T_S8 ((congrFun kE_S8 x0).trans ((congrFun kE_S1 x0).trans r_x0))
      exact t_f_X2_readMarks_56 (S := S8)  (x0 := x0) (x1 := x1) (t0 := (1 : Int32)) (t1 := (zI S8 4 x0)) (t2 := x0) T_S8 R_S8 ((congrFun kE_S8 x0).trans ((congrFun kE_S1 x0).trans r_x0)) ((congrFun kE_S8 x1).trans ((congrFun kE_S1 x1).trans r_x1)) (by decide) (by omega) ((congrFun kE_S8 x0).trans ((congrFun kE_S1 x0).trans r_x0))
    ·
      replace c291 := ti_leN (a := r7) (b := (2 : Int32)) c291 rfl (show (2 : Int32).toInt = 2 from rfl)
      have j293 := J_2_4 T_S8 ((congrFun kE_S8 x0).trans ((congrFun kE_S1 x0).trans r_x0))
      exact t_f_X2_readMarks_56 (S := S8)  (x0 := x0) (x1 := x1) (t0 := (2 : Int32)) (t1 := (zI S8 4 x0)) (t2 := x0) T_S8 R_S8 ((congrFun kE_S8 x0).trans ((congrFun kE_S1 x0).trans r_x0)) ((congrFun kE_S8 x1).trans ((congrFun kE_S1 x1).trans r_x1)) (by decide) (by omega) ((congrFun kE_S8 x0).trans ((congrFun kE_S1 x0).trans r_x0))
theorem t_f_X2_readMarks {SZ S : ZS} {x0 : Nat} {x1 : Nat} (hT : ZT S) (hR : A7 SZ S) (r_x0 : zK S x0 = 2) (r_x1 : zK S x1 = 4) (q0 : (zI S 4 x1).toInt ≤ 3) : Ok (f_X2_readMarks x0 x1 S) (fun o => ZT o.2 ∧ A7 SZ o.2 ∧ ((0 : Int) ≤ o.1.toInt ∧ o.1.toInt ≤ (1 : Int))) := t_f_X2_readMarks_0 hT hR r_x0 r_x1 q0
theorem t_f_X11_byteOf_0 {S : ZS} {x0 : Int64} {x2 : Int32} (hT : ZT S) : Ok (f_X11_byteOf_0 x0 x2 S) (fun o => o.2 = S ∧ ((0 : Int) ≤ o.1.toInt ∧ o.1.toInt ≤ (65535 : Int))) := by
  unfold f_X11_byteOf_0
  refine ok_bnd (fun v1 e294 => ?_)
  refine ok_bnd (fun v2 e295 => ?_)
  refine ok_bnd (fun v3 e296 => ?_)
  refine ok_bnd (fun v4 e297 => ?_)
  refine ok_bnd (fun v5 e298 => ?_)
  have t_v5 := nar_cb e298
  refine ok_chk (nar_c (v := v5) (by omega) (by omega)) ?_
  exact ok_ret ⟨rfl, (show (0 : Int) ≤ v5.toInt ∧ v5.toInt ≤ (65535 : Int) from (by omega))⟩
theorem t_f_X11_byteOf {S : ZS} {x0 : Int64} {x2 : Int32} (hT : ZT S) : Ok (f_X11_byteOf x0 x2 S) (fun o => o.2 = S ∧ ((0 : Int) ≤ o.1.toInt ∧ o.1.toInt ≤ (65535 : Int))) := t_f_X11_byteOf_0 hT 
theorem t_f_X11_out_0 {S : ZS} {x0 : Nat} {x1 : Int32} (hT : ZT S) (r_x0 : zK S x0 = 11) : Ok (f_X11_out_0 x0 x1 S) (fun o => o.2 = S ∧ True) := by
  unfold f_X11_out_0
  refine ok_chk r_x0 ?_
  obtain ⟨b1, p_b1, k_b1, c_b1⟩ := T_11_1 hT r_x0
  have lo_b1 := M_11_1 hT r_x0 p_b1
  refine ok_calR p_b1 ?_
  refine ok_chk k_b1 ?_
  have j299 := J_6_1 hT k_b1
  obtain ⟨r2, h_r2, p_r2⟩ := roz (t_f_X6_at (x0 := b1) (x1 := x1) hT k_b1)
  dsimp only at p_r2
  refine ok_calR h_r2 ?_
  exact ok_ret ⟨rfl, trivial⟩
theorem t_f_X11_out {S : ZS} {x0 : Nat} {x1 : Int32} (hT : ZT S) (r_x0 : zK S x0 = 11) : Ok (f_X11_out x0 x1 S) (fun o => o.2 = S ∧ True) := t_f_X11_out_0 hT r_x0
theorem t_f_X11_nodes_0 {S : ZS} {x0 : Nat} (hT : ZT S) (r_x0 : zK S x0 = 11) : Ok (f_X11_nodes_0 x0 S) (fun o => o.2 = S ∧ True) := by
  unfold f_X11_nodes_0
  refine ok_chk r_x0 ?_
  obtain ⟨b1, p_b1, k_b1⟩ := T_11_7 hT r_x0
  have lo_b1 := M_11_7 hT r_x0 p_b1
  refine ok_calR p_b1 ?_
  refine ok_chk k_b1 ?_
  exact ok_ret ⟨rfl, trivial⟩
theorem t_f_X11_nodes {S : ZS} {x0 : Nat} (hT : ZT S) (r_x0 : zK S x0 = 11) : Ok (f_X11_nodes x0 S) (fun o => o.2 = S ∧ True) := t_f_X11_nodes_0 hT r_x0
theorem t_f_X11_here_0 {S : ZS} {x0 : Nat} (hT : ZT S) (r_x0 : zK S x0 = 11) : Ok (f_X11_here_0 x0 S) (fun o => o.2 = S ∧ True) := by
  unfold f_X11_here_0
  refine ok_chk r_x0 ?_
  exact ok_ret ⟨rfl, trivial⟩
theorem t_f_X11_here {S : ZS} {x0 : Nat} (hT : ZT S) (r_x0 : zK S x0 = 11) : Ok (f_X11_here x0 S) (fun o => o.2 = S ∧ True) := t_f_X11_here_0 hT r_x0
theorem t_f_X11_move_0 {SZ S : ZS} {x0 : Nat} {x1 : Int32} (hT : ZT S) (hR : A7 SZ S) (r_x0 : zK S x0 = 11) : Ok (f_X11_move_0 x0 x1 S) (fun o => ZT o.2 ∧ A7 SZ o.2 ∧ True) := by
  unfold f_X11_move_0
  refine ok_chk r_x0 ?_
  obtain ⟨b1, p_b1, k_b1⟩ := T_11_2 hT r_x0
  refine ok_calR p_b1 ?_
  refine ok_chk r_x0 ?_
  obtain ⟨b2, p_b2, k_b2⟩ := T_11_9 hT r_x0
  refine ok_calR p_b2 ?_
  refine ok_chk k_b1 ?_
  obtain ⟨⟨r3, S3⟩, h_r3, T_S3, A_S3, -⟩ := t_f_X7_legalMove (x0 := b1) (x1 := b2) (x2 := x1) (SZ := S) hT (a7_0 S) k_b1 k_b2
  replace T_S3 : ZT S3 := T_S3
  replace A_S3 : A7 S S3 := A_S3
  refine ok_calR h_r3 ?_
  have q_S3 := fq_X7_legalMove h_r3
  have kE_S3 : zK S3 = zK S := q_S3.2.2.1
  have nE_S3 : zN S3 = zN S := q_S3.2.2.2.1
  have R_S3 : A7 SZ S3 := a7_t hR A_S3
  exact ok_ret ⟨T_S3, R_S3, trivial⟩
theorem t_f_X11_move {SZ S : ZS} {x0 : Nat} {x1 : Int32} (hT : ZT S) (hR : A7 SZ S) (r_x0 : zK S x0 = 11) : Ok (f_X11_move x0 x1 S) (fun o => ZT o.2 ∧ A7 SZ o.2 ∧ True) := t_f_X11_move_0 hT hR r_x0
theorem t_f_X11_result_0 {S : ZS} {x0 : Nat} (hT : ZT S) (r_x0 : zK S x0 = 11) : Ok (f_X11_result_0 x0 S) (fun o => o.2 = S ∧ True) := by
  unfold f_X11_result_0
  refine ok_chk r_x0 ?_
  obtain ⟨b1, p_b1, k_b1⟩ := T_11_7 hT r_x0
  have lo_b1 := M_11_7 hT r_x0 p_b1
  refine ok_calR p_b1 ?_
  refine ok_chk k_b1 ?_
  exact ok_ret ⟨rfl, trivial⟩
theorem t_f_X11_result {S : ZS} {x0 : Nat} (hT : ZT S) (r_x0 : zK S x0 = 11) : Ok (f_X11_result x0 S) (fun o => o.2 = S ∧ True) := t_f_X11_result_0 hT r_x0
theorem t_f_X11_tags_0 {S : ZS} {x0 : Nat} (hT : ZT S) (r_x0 : zK S x0 = 11) : Ok (f_X11_tags_0 x0 S) (fun o => o.2 = S ∧ True) := by
  unfold f_X11_tags_0
  refine ok_chk r_x0 ?_
  obtain ⟨b1, p_b1, k_b1⟩ := T_11_7 hT r_x0
  have lo_b1 := M_11_7 hT r_x0 p_b1
  refine ok_calR p_b1 ?_
  refine ok_chk k_b1 ?_
  exact ok_ret ⟨rfl, trivial⟩
theorem t_f_X11_tags {S : ZS} {x0 : Nat} (hT : ZT S) (r_x0 : zK S x0 = 11) : Ok (f_X11_tags x0 S) (fun o => o.2 = S ∧ True) := t_f_X11_tags_0 hT r_x0
end
section
theorem lt18 {S : ZS} {a k : Nat} (h : zK S a = k) (hk : k < 18) : zK S a < 18 := by rw [h]; exact hk
theorem rL_x1 {a : Nat} (h1 : 1 ≤ rc a) (h2 : rc a ≤ 1) : rL a = 2000 := by
  unfold rL
  rw [if_neg (by omega), if_pos (by omega)]
theorem rL_x2 {a : Nat} (h1 : 2 ≤ rc a) (h2 : rc a ≤ 2) : rL a = 2000 := by
  unfold rL
  rw [if_neg (by omega), if_pos (by omega)]
theorem rL_x3 {a : Nat} (h1 : 3 ≤ rc a) (h2 : rc a ≤ 3) : rL a = 90000 := by
  unfold rL
  rw [if_pos (by omega)]
theorem rc_ol {a : Nat} (h : rL a = 90000) : rc a ≠ 2 := fun e => by
  unfold rL at h
  rw [if_neg (by omega), if_pos (by omega)] at h
  omega
theorem ok_of {α : Type} {x : Option α} {r : α} {Q : α → Prop} (h : Ok x Q) (e : x = some r) : Q r := by
  obtain ⟨y, h1, h2⟩ := h
  rw [e] at h1
  cases h1
  exact h2
theorem keep_len {S S' : ZS} {x0 : Nat} {x1 r : Int32} (hk : zK S x0 = 6) (h : f_X6_keep x0 x1 S = some (r, S')) (h1 : 0 ≤ x1.toInt) : (zI S' 1 x0).toInt ≤ x1.toInt := by
  refine ok_of (Q := fun o => (zI o.2 1 x0).toInt ≤ x1.toInt) ?_ h
  show Ok (f_X6_keep_0 x0 x1 S) _
  unfold f_X6_keep_0
  refine ok_if (fun c => ?_) (fun c => ?_)
  · have := ti_ltP (a := x1) (b := 0) c rfl rfl
    have z : (0 : Int32).toInt = 0 := rfl
    omega
  · refine ok_chk hk (ok_if (fun c2 => ?_) (fun c2 => ?_))
    · exact ok_ret (ti_leP (a := zI S 1 x0) (b := x1) c2 rfl rfl)
    · refine ok_chk hk (ok_bnd (fun S1 e1 => ok_ret ?_))
      show (zI S1 1 x0).toInt ≤ _
      rw [e1, zI_self]
      exact Int.le_refl _
theorem keep_x {S : ZS} {x0 : Nat} {x1 : Int32} (hT : ZT S) (hk : zK S x0 = 6) : ∃ y S', f_X6_keep x0 x1 S = some (y, S') ∧ ZT S' ∧ EqT S S' ∧ ((S' = S ∧ (x1.toInt < 0 ∨ (zI S 1 x0).toInt ≤ x1.toInt)) ∨ (S' = zsI S 1 x0 x1 ∧ 0 ≤ x1.toInt ∧ x1.toInt < (zI S 1 x0).toInt)) := by
  have z : (0 : Int32).toInt = 0 := rfl
  have h : Ok (f_X6_keep_0 x0 x1 S) (fun o => ZT o.2 ∧ EqT S o.2 ∧ ((o.2 = S ∧ (x1.toInt < 0 ∨ (zI S 1 x0).toInt ≤ x1.toInt)) ∨ (o.2 = zsI S 1 x0 x1 ∧ 0 ≤ x1.toInt ∧ x1.toInt < (zI S 1 x0).toInt))) := by
    unfold f_X6_keep_0
    refine ok_if (fun c => ?_) (fun c => ?_)
    · have c := ti_ltP (a := x1) (b := 0) c rfl rfl
      exact ok_ret ⟨hT, eqt_0, Or.inl ⟨rfl, Or.inl (by omega)⟩⟩
    · have c := ti_ltN (a := x1) (b := 0) c rfl rfl
      refine ok_chk hk (ok_if (fun c2 => ?_) (fun c2 => ?_))
      · exact ok_ret ⟨hT, eqt_0, Or.inl ⟨rfl, Or.inr (ti_leP (a := zI S 1 x0) (b := x1) c2 rfl rfl)⟩⟩
      · have c2 := ti_leN (a := zI S 1 x0) (b := x1) c2 rfl rfl
        refine ok_chk hk (ok_bnd (fun S1 e1 => ?_))
        have T1 : ZT S1 := e1.symm ▸ zt_len hT hk (by omega) (by omega)
        exact ok_ret ⟨T1, by rw [e1]; exact eqt_0, Or.inr ⟨e1, by omega, by omega⟩⟩
  obtain ⟨⟨y, S'⟩, h1, h2⟩ := h
  exact ⟨y, S', h1, h2⟩
theorem t_d_X6_putAll_2s {SZ S : ZS} {self2 : Nat → Nat → Int32 → ZS → Option (Int32 × ZS)} {N2 : Nat} (hself2 : ∀ (x0 : Nat) (x1 : Nat) (x2 : Int32) (S : ZS), ZT S → RP SZ S → (zK S x0 = 6) → (zK S x1 = 6) → ((0 : Int) ≤ x2.toInt ∧ x2.toInt ≤ (90000 : Int)) → (x0 ≠ x1) → ((zI SZ 1 x0).toInt + (zI SZ 1 x1).toInt ≤ (rL x0 : Int)) → ((zI S 1 x0).toInt = (zI SZ 1 x0).toInt + x2.toInt) → (∀ a, a ≠ x0 → zI S 1 a = zI SZ 1 a) → (x2.toInt ≤ (zI SZ 1 x1).toInt) → (rc x0 ≠ 2) → (90001 - x2.toInt) < (N2 : Int) → Ok (self2 x0 x1 x2 S) (fun o => ZT o.2 ∧ RP SZ o.2 ∧ ((zI o.2 1 x0).toInt = (zI SZ 1 x0).toInt + (zI SZ 1 x1).toInt) ∧ (∀ a, a ≠ x0 → zI o.2 1 a = zI SZ 1 a))) {x0 : Nat} {x1 : Nat} {x2 : Int32} (hT : ZT S) (hR : RP SZ S) (r_x0 : zK S x0 = 6) (r_x1 : zK S x1 = 6) (r_x2 : (0 : Int) ≤ x2.toInt ∧ x2.toInt ≤ (90000 : Int)) (q0 : x0 ≠ x1) (q1 : (zI SZ 1 x0).toInt + (zI SZ 1 x1).toInt ≤ (rL x0 : Int)) (q2 : (zI S 1 x0).toInt = (zI SZ 1 x0).toInt + x2.toInt) (q3 : ∀ a, a ≠ x0 → zI S 1 a = zI SZ 1 a) (q4 : x2.toInt ≤ (zI SZ 1 x1).toInt) (q5 : rc x0 ≠ 2) (m2 : (90001 - x2.toInt) ≤ (N2 : Int)) : Ok (d_X6_putAll_2s self2 x0 x1 x2 S) (fun o => ZT o.2 ∧ RP SZ o.2 ∧ ((zI o.2 1 x0).toInt = (zI SZ 1 x0).toInt + (zI SZ 1 x1).toInt) ∧ (∀ a, a ≠ x0 → zI o.2 1 a = zI SZ 1 a)) := by
  unfold d_X6_putAll_2s
  have e9 := congrArg Int32.toInt (q3 x1 (fun h => q0 h.symm))
  refine ok_chk r_x1 ?_
  have j1 := J_6_1 hT r_x1
  refine ok_if (fun c2 => ?_) (fun c2 => ?_)
  ·
    replace c2 := ti_leP (a := (zI S 1 x1)) (b := x2) c2 rfl rfl
    exact ok_ret ⟨hT, hR, (by show (zI S 1 x0).toInt = (zI SZ 1 x0).toInt + (zI SZ 1 x1).toInt; have z : (0 : Int32).toInt = 0 := rfl; omega), (by show ∀ a, a ≠ x0 → zI S 1 a = zI SZ 1 a; exact q3)⟩
  ·
    replace c2 := ti_leN (a := (zI S 1 x1)) (b := x2) c2 rfl rfl
    refine ok_chk r_x1 ?_
    obtain ⟨r1, h_r1, p_r1⟩ := roz (t_f_X6_at (x0 := x1) (x1 := x2) hT r_x1)
    dsimp only at p_r1
    refine ok_calR h_r1 ?_
    refine ok_chk ⟨rfl, rfl⟩ ?_
    refine ok_chk r_x0 ?_
    have j3 := J_6_1 hT r_x0
    obtain ⟨⟨r3, S4⟩, h_r3, T_S4, B_S4, p_r3_0, p_r3_1⟩ := t_d_X6_put (x0 := x0) (x1 := r1) (SZ := S) hT (rp_0 S) r_x0 (by omega) (by omega) q5
    replace T_S4 : ZT S4 := T_S4
    replace B_S4 : RP S S4 := B_S4
    have R_S4 : RP SZ S4 := rp_t hR B_S4
    dsimp only at p_r3_0 p_r3_1
    refine ok_cal2R h_r3 ?_
    have g_S4 := (fz_X6_put h_r3 hT.2.2.2.2.1).2.2
    refine ok_bnd (fun v7 e4 => ?_)
    have t_v7 : v7.toInt = x2.toInt + 1 := ti_add e4 rfl (show (1 : Int32).toInt = 1 from rfl) (by omega) (by omega)
    have j5 := J_6_1 T_S4 ((g_S4 x0 (lt18 r_x0 (by decide))).1.trans r_x0)
    exact hself2 x0 x1 v7 S4 T_S4 R_S4 ((g_S4 x0 (lt18 r_x0 (by decide))).1.trans r_x0) ((g_S4 x1 (lt18 r_x1 (by decide))).1.trans r_x1) (by omega) q0 q1 (by omega) (fun a9 h9 => (p_r3_1 a9 h9).trans (q3 a9 h9)) (by omega) q5 (by omega)
theorem t_d_X6_putAll_2 {SZ : ZS} : ∀ (n : Nat) (x0 : Nat) (x1 : Nat) (x2 : Int32) (S : ZS), ZT S → RP SZ S → (zK S x0 = 6) → (zK S x1 = 6) → ((0 : Int) ≤ x2.toInt ∧ x2.toInt ≤ (90000 : Int)) → (x0 ≠ x1) → ((zI SZ 1 x0).toInt + (zI SZ 1 x1).toInt ≤ (rL x0 : Int)) → ((zI S 1 x0).toInt = (zI SZ 1 x0).toInt + x2.toInt) → (∀ a, a ≠ x0 → zI S 1 a = zI SZ 1 a) → (x2.toInt ≤ (zI SZ 1 x1).toInt) → (rc x0 ≠ 2) → (90001 - x2.toInt) < (n : Int) → Ok (d_X6_putAll_2  n x0 x1 x2 S) (fun o => ZT o.2 ∧ RP SZ o.2 ∧ ((zI o.2 1 x0).toInt = (zI SZ 1 x0).toInt + (zI SZ 1 x1).toInt) ∧ (∀ a, a ≠ x0 → zI o.2 1 a = zI SZ 1 a)) := by
  intro n
  induction n with
  | zero => intro x0 x1 x2 S hT hR g0 g1 g2 g3 g4 g5 g6 g7 g8  hm; exfalso; omega
  | succ n ih =>
    intro x0 x1 x2 S hT hR g0 g1 g2 g3 g4 g5 g6 g7 g8  hm
    exact t_d_X6_putAll_2s (N2 := n)  ih hT hR g0 g1 g2 g3 g4 g5 g6 g7 g8  (by omega)
theorem t_d_X6_putAll_0 {SZ S : ZS} {x0 : Nat} {x1 : Nat} (hT : ZT S) (hR : RP SZ S) (r_x0 : zK S x0 = 6) (r_x1 : zK S x1 = 6) (q0 : SZ = S) (q1 : x0 ≠ x1) (q2 : (zI SZ 1 x0).toInt + (zI SZ 1 x1).toInt ≤ (rL x0 : Int)) (q3 : rc x0 ≠ 2) : Ok (d_X6_putAll_0 x0 x1 S) (fun o => ZT o.2 ∧ RP SZ o.2 ∧ ((zI o.2 1 x0).toInt = (zI SZ 1 x0).toInt + (zI SZ 1 x1).toInt) ∧ (∀ a, a ≠ x0 → zI o.2 1 a = zI SZ 1 a)) := by
  unfold d_X6_putAll_0
  have j9 := J_6_1 hT r_x1
  have j6 := J_6_1 hT r_x0
  exact t_d_X6_putAll_2   mFuel x0 x1 (0 : Int32) S hT hR r_x0 r_x1 (by decide) q1 q2 (by rw [q0]; have z0 : (0 : Int32).toInt = 0 := rfl; omega) (by rw [q0]; exact fun _ _ => rfl) (by rw [q0]; have z : (0 : Int32).toInt = 0 := rfl; omega) q3 (by show _ < ((200000 : Nat) : Int); have z0 : (0 : Int32).toInt = 0 := rfl; omega)
theorem t_d_X6_putAll {SZ S : ZS} {x0 : Nat} {x1 : Nat} (hT : ZT S) (hR : RP SZ S) (r_x0 : zK S x0 = 6) (r_x1 : zK S x1 = 6) (q0 : SZ = S) (q1 : x0 ≠ x1) (q2 : (zI SZ 1 x0).toInt + (zI SZ 1 x1).toInt ≤ (rL x0 : Int)) (q3 : rc x0 ≠ 2) : Ok (d_X6_putAll x0 x1 S) (fun o => ZT o.2 ∧ RP SZ o.2 ∧ ((zI o.2 1 x0).toInt = (zI SZ 1 x0).toInt + (zI SZ 1 x1).toInt) ∧ (∀ a, a ≠ x0 → zI o.2 1 a = zI SZ 1 a)) := t_d_X6_putAll_0 hT hR r_x0 r_x1 q0 q1 q2 q3
end
section
theorem t_d_X6_copyFrom {SZ S : ZS} {x0 : Nat} {x1 : Nat} (hT : ZT S) (hR : RP SZ S) (r_x0 : zK S x0 = 6) (r_x1 : zK S x1 = 6) (q0 : x0 = x1 ∨ (zI S 1 x1).toInt ≤ (rL x0 : Int)) (q1 : rc x0 ≠ 2) : Ok (d_X6_copyFrom x0 x1 S) (fun o => ZT o.2 ∧ RP SZ o.2 ∧ ∀ a, a ≠ x0 → zI o.2 1 a = zI S 1 a) := by
  show Ok (d_X6_copyFrom_0 x0 x1 S) _
  unfold d_X6_copyFrom_0
  have j := J_6_1c hT r_x0
  have z : (0 : Int32).toInt = 0 := rfl
  refine ok_chk r_x0 (ok_bnd (fun S1 e1 => ?_))
  have T1 : ZT S1 := e1 ▸ zt_len hT r_x0 (show (0 : Int) ≤ (0 : Int32).toInt by decide) (by omega)
  have R1 : RP SZ S1 := rp_I6 hR hT r_x0 e1 q1
  have k0 : zK S1 x0 = 6 := by rw [e1]; exact r_x0
  have k1 : zK S1 x1 = 6 := by rw [e1]; exact r_x1
  have l0 : (zI S1 1 x0).toInt = 0 := by rw [e1, zI_self]; rfl
  have lo : ∀ a, a ≠ x0 → zI S1 1 a = zI S 1 a := fun a ha => by rw [e1, zI_ne ha]
  refine ok_chk k0 ?_
  by_cases e : x0 = x1
  · subst e
    have hp : d_X6_putAll x0 x0 S1 = some (0, S1) := by
      show d_X6_putAll_2 mFuel x0 x0 0 S1 = _
      show d_X6_putAll_2s (d_X6_putAll_2 199999) x0 x0 0 S1 = _
      unfold d_X6_putAll_2s
      have hc : zI S1 1 x0 ≤ 0 := Int32.le_iff_toInt_le.2 (by rw [l0]; decide)
      show m_chk (zK S1 x0 = 6) (m_if (zI S1 1 x0 ≤ 0) _ _) = _
      unfold m_chk m_if
      rw [if_pos k0, if_pos hc]
    refine ok_cal2R hp (ok_ret ⟨T1, R1, lo⟩)
  · have hl := lo x1 (fun h => e h.symm)
    obtain ⟨⟨r3, S4⟩, h3, T4, R4, p0, p1⟩ := t_d_X6_putAll (SZ := S1) (x0 := x0) (x1 := x1) T1 (rp_0 S1) k0 k1 rfl e (by rw [l0, hl]; rcases q0 with h | h <;> omega) q1
    refine ok_cal2R h3 (ok_ret ⟨T4, rp_t R1 R4, fun a ha => ?_⟩)
    exact (p1 a ha).trans (lo a ha)
theorem t_d_X1_tagAt {S : ZS} {x0 : Nat} {x1 : Int32} (hT : ZT S) (r_x0 : zK S x0 = 1) (q0 : 0 ≤ x1.toInt ∧ x1.toInt < (zI S 5 x0).toInt) : Ok (d_X1_tagAt x0 x1 S) (fun o => o.2 = S ∧ (zK o.2 o.1 = 10)) := by
  show Ok (d_X1_tagAt_0 x0 x1 S) _
  unfold d_X1_tagAt_0
  have j := J_1_5 hT r_x0
  have z : (0 : Int32).toInt = 0 := rfl
  refine ok_if (fun c => ?_) (fun c => ?_)
  · have := ti_ltP (a := x1) (b := 0) c rfl rfl; omega
  · refine ok_chk r_x0 (ok_if (fun c2 => ?_) (fun c2 => ?_))
    · have := ti_leP (a := zI S 5 x0) (b := x1) c2 rfl rfl; omega
    · obtain ⟨b, p, k, n⟩ := T_1_4 hT r_x0
      refine ok_chk r_x0 (ok_calR p (ok_chk k (ok_chk (ti_inN (v := x1) (n := 8) n (by omega) (by omega)) (ok_bnd (fun v2 e2 => ?_)))))
      have hn : x1.toNatClampNeg = x1.toInt.toNat := rfl
      obtain ⟨d, hd⟩ := hT.2.2.2.2.2.2.2.2.1 x0 r_x0 b p x1.toNatClampNeg (by omega)
      have kd := (hT.2.2.2.1 b).2.2 k _ d hd
      rw [hd] at e2
      rw [e2]
      unfold d_X1_tagAt_22
      refine ok_opt (fun h => absurd h (by simp)) (fun b1 h1 => ?_)
      cases h1
      unfold d_X1_tagAt_38
      exact ok_calR rfl (ok_ret ⟨rfl, kd⟩)
end
