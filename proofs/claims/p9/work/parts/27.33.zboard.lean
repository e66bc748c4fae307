theorem sq_all {P : Int32 → Prop} (h : ∀ n, n < 64 → P (Int32.ofNat n)) {x : Int32} (hx : 0 ≤ x.toInt ∧ x.toInt ≤ 63) : P x := by
  have e : x = Int32.ofNat x.toInt.toNat := by
    apply Int32.toInt_inj.mp
    rw [Int32.toInt_ofNat_of_lt (by omega)]
    omega
  rw [e]
  exact h _ (by omega)
theorem b_and7 {x v : Int32} (e : v = x &&& 7) (hx : 0 ≤ x.toInt ∧ x.toInt ≤ 63) : v.toInt = x.toInt % 8 := by
  rw [e]; exact sq_all (P := fun x => (x &&& 7).toInt = x.toInt % 8) (by decide) hx
theorem b_and56 {x v : Int32} (e : v = x &&& 56) (hx : 0 ≤ x.toInt ∧ x.toInt ≤ 63) : v.toInt = x.toInt / 8 * 8 := by
  rw [e]; exact sq_all (P := fun x => (x &&& 56).toInt = x.toInt / 8 * 8) (by decide) hx
theorem b_or7 {x v : Int32} (e : v = x ||| 7) (hx : 0 ≤ x.toInt ∧ x.toInt ≤ 63) : v.toInt = x.toInt / 8 * 8 + 7 := by
  rw [e]; exact sq_all (P := fun x => (x ||| 7).toInt = x.toInt / 8 * 8 + 7) (by decide) hx
theorem b_sh3 {x v : Int32} (e : v = x >>> ((3 : Int32) &&& 31)) (hx : 0 ≤ x.toInt ∧ x.toInt ≤ 63) : v.toInt = x.toInt / 8 := by
  rw [e]; exact sq_all (P := fun x => (x >>> ((3 : Int32) &&& 31)).toInt = x.toInt / 8) (by decide) hx
theorem zFR_b {v : Int32} {i : Nat} (e : v = zFR.getD i 0) : 0 ≤ v.toInt ∧ v.toInt ≤ 6 := by
  rw [e]
  by_cases h : i < 8
  · have key : ∀ i, i < 8 → 0 ≤ (zFR.getD i 0).toInt ∧ (zFR.getD i 0).toInt ≤ 6 := by decide
    exact key i h
  · have h2 : zFR[i]? = none := List.getElem?_eq_none (by show 8 ≤ i; omega)
    rw [List.getD_eq_getElem?_getD, h2]; decide
def wayk (a s n : Int) : Prop := ∀ k : Int, 1 ≤ k → k < n → 0 ≤ a + k * s ∧ a + k * s ≤ 63
def way3 (a dx u n : Int) : Prop := (u = 0 ∨ u = n ∨ u = -n) ∧ 0 ≤ n ∧ 0 ≤ a % 8 + n * dx ∧ a % 8 + n * dx ≤ 7 ∧ 0 ≤ a / 8 + u ∧ a / 8 + u ≤ 7
theorem way3_mk {a f u n dx : Int} (h1 : 0 ≤ a % 8 + f ∧ a % 8 + f ≤ 7 ∧ 0 ≤ a / 8 + u ∧ a / 8 + u ≤ 7) (h2 : f ≤ n ∧ -f ≤ n ∧ u ≤ n ∧ -u ≤ n ∧ (n = f ∨ n = -f ∨ n = u ∨ n = -u)) (h3 : f = 0 ∨ u = 0 ∨ f = u ∨ f = -u) (h4 : (0 < f → dx = 1) ∧ (f < 0 → dx = -1) ∧ (f = 0 → dx = 0)) : way3 a dx u n := by
  have e : n * dx = f := by
    rcases Int.lt_trichotomy f 0 with h | h | h
    · rw [h4.2.1 h]; omega
    · rw [h4.2.2 h]; omega
    · rw [h4.1 h]; omega
  unfold way3
  rw [e]
  omega
theorem way3_x {a dx u n s : Int} (hd : -1 ≤ dx ∧ dx ≤ 1) (ha : 0 ≤ a ∧ a ≤ 63) (h : way3 a dx u n) (hs : (u = 0 ∧ s = 0) ∨ (u < 0 ∧ s = -8) ∨ (0 < u ∧ s = 8)) : wayk a (dx + s) n := by
  intro k k1 k2
  obtain ⟨h1, h2, h3, h4, h5, h6⟩ := h
  have hx : dx = -1 ∨ dx = 0 ∨ dx = 1 := by omega
  rcases hs with ⟨hu, e⟩ | ⟨hu, e⟩ | ⟨hu, e⟩ <;> rcases hx with e2 | e2 | e2 <;> subst e <;> subst e2 <;> omega
theorem way3_0 {a dx u n : Int} (hd : -1 ≤ dx ∧ dx ≤ 1) (ha : 0 ≤ a ∧ a ≤ 63) (h : way3 a dx u n) (hu : u = 0) : wayk a (dx + (0 : Int32).toInt) n := way3_x hd ha h (Or.inl ⟨hu, rfl⟩)
theorem way3_m {a dx u n : Int} (hd : -1 ≤ dx ∧ dx ≤ 1) (ha : 0 ≤ a ∧ a ≤ 63) (h : way3 a dx u n) (hu : u < 0) : wayk a (dx + (-8 : Int32).toInt) n := way3_x hd ha h (Or.inr (Or.inl ⟨hu, rfl⟩))
theorem way3_p {a dx u n : Int} (hd : -1 ≤ dx ∧ dx ≤ 1) (ha : 0 ≤ a ∧ a ≤ 63) (h : way3 a dx u n) (hu : 0 < u) : wayk a (dx + (8 : Int32).toInt) n := way3_x hd ha h (Or.inr (Or.inr ⟨hu, rfl⟩))
theorem t_f_X0_put_0 {SZ S : ZS} {x0 : Nat} {x1 : Int32} {x2 : Int32} (hT : ZT S) (hR : A7 SZ S) (r_x0 : zK S x0 = 0) (r_x1 : (0 : Int) ≤ x1.toInt ∧ x1.toInt ≤ (63 : Int)) : Ok (f_X0_put_0 x0 x1 x2 S) (fun o => ZT o.2 ∧ A7 SZ o.2 ∧ True) := by
  unfold f_X0_put_0
  refine ok_chk r_x0 ?_
  obtain ⟨b1, p_b1, k_b1, n_b1⟩ := T_0_0 hT r_x0
  refine ok_calR p_b1 ?_
  refine ok_chk k_b1 ?_
  refine ok_chk (ti_inN (v := x1) (n := 64) n_b1 (by omega) (by omega)) ?_
  refine ok_bnd (fun S2 e1 => ?_)
  have T_S2 : ZT S2 := e1.symm ▸ zt_A hT k_b1
  have kE_S2 : zK S2 = zK S := by rw [e1]; rfl
  have nE_S2 : zN S2 = zN S := by rw [e1]; rfl
  have R_S2 : A7 SZ S2 := a7_A hR e1 hT k_b1 n_b1 (by decide)
  refine ok_if (fun c2 => ?_) (fun c2 => ?_)
  ·
    replace c2 := ti_eqP (a := x2) (b := (6 : Int32)) c2 rfl (show (6 : Int32).toInt = 6 from rfl)
    refine ok_chk ((congrFun kE_S2 x0).trans r_x0) ?_
    refine ok_bnd (fun S4 e3 => ?_)
    have T_S4 : ZT S4 := e3.symm ▸ zt_I T_S2 ((congrFun kE_S2 x0).trans r_x0) (by decide) (show (0 : Int) ≤ x1.toInt ∧ x1.toInt ≤ (63 : Int) from (by omega))
    have kE_S4 : zK S4 = zK S2 := by rw [e3]; rfl
    have nE_S4 : zN S4 = zN S2 := by rw [e3]; rfl
    have R_S4 : A7 SZ S4 := a7_I R_S2 e3 ((congrFun kE_S2 x0).trans r_x0) (by decide)
    unfold f_X0_put_32
    exact ok_ret ⟨T_S4, R_S4, trivial⟩
  ·
    replace c2 := ti_eqN (a := x2) (b := (6 : Int32)) c2 rfl (show (6 : Int32).toInt = 6 from rfl)
    refine ok_if (fun c4 => ?_) (fun c4 => ?_)
    ·
      replace c4 := ti_eqP (a := x2) (b := (14 : Int32)) c4 rfl (show (14 : Int32).toInt = 14 from rfl)
      refine ok_chk ((congrFun kE_S2 x0).trans r_x0) ?_
      refine ok_bnd (fun S3 e5 => ?_)
      have T_S3 : ZT S3 := e5.symm ▸ zt_I T_S2 ((congrFun kE_S2 x0).trans r_x0) (by decide) (show (0 : Int) ≤ x1.toInt ∧ x1.toInt ≤ (63 : Int) from (by omega))
      have kE_S3 : zK S3 = zK S2 := by rw [e5]; rfl
      have nE_S3 : zN S3 = zN S2 := by rw [e5]; rfl
      have R_S3 : A7 SZ S3 := a7_I R_S2 e5 ((congrFun kE_S2 x0).trans r_x0) (by decide)
      unfold f_X0_put_32
      exact ok_ret ⟨T_S3, R_S3, trivial⟩
    ·
      replace c4 := ti_eqN (a := x2) (b := (14 : Int32)) c4 rfl (show (14 : Int32).toInt = 14 from rfl)
      unfold f_X0_put_32
      exact ok_ret ⟨T_S2, R_S2, trivial⟩
theorem t_f_X0_put {SZ S : ZS} {x0 : Nat} {x1 : Int32} {x2 : Int32} (hT : ZT S) (hR : A7 SZ S) (r_x0 : zK S x0 = 0) (r_x1 : (0 : Int) ≤ x1.toInt ∧ x1.toInt ≤ (63 : Int)) : Ok (f_X0_put x0 x1 x2 S) (fun o => ZT o.2 ∧ A7 SZ o.2 ∧ True) := t_f_X0_put_0 hT hR r_x0 r_x1
theorem t_f_X0_wipe_2s {SZ S : ZS} {self2 : Nat → Int32 → ZS → Option (Int32 × ZS)} {N2 : Nat} (hself2 : ∀ (x0 : Nat) (x1 : Int32) (S : ZS), ZT S → A7 SZ S → (zK S x0 = 0) → ((0 : Int) ≤ x1.toInt ∧ x1.toInt ≤ (64 : Int)) → (65 - x1.toInt) < (N2 : Int) → Ok (self2 x0 x1 S) (fun o => ZT o.2 ∧ A7 SZ o.2 ∧ True)) {x0 : Nat} {x1 : Int32} (hT : ZT S) (hR : A7 SZ S) (r_x0 : zK S x0 = 0) (r_x1 : (0 : Int) ≤ x1.toInt ∧ x1.toInt ≤ (64 : Int)) (m2 : (65 - x1.toInt) ≤ (N2 : Int)) : Ok (f_X0_wipe_2s self2 x0 x1 S) (fun o => ZT o.2 ∧ A7 SZ o.2 ∧ True) := by
  unfold f_X0_wipe_2s
  refine ok_if (fun c6 => ?_) (fun c6 => ?_)
  ·
    replace c6 := ti_leP (a := (64 : Int32)) (b := x1) c6 (show (64 : Int32).toInt = 64 from rfl) rfl
    refine ok_chk r_x0 ?_
    refine ok_bnd (fun S1 e7 => ?_)
    have T_S1 : ZT S1 := e7.symm ▸ zt_I hT r_x0 (by decide) (show (0 : Int) ≤ (0 : Int32).toInt ∧ (0 : Int32).toInt ≤ (1 : Int) from (by decide))
    have kE_S1 : zK S1 = zK S := by rw [e7]; rfl
    have nE_S1 : zN S1 = zN S := by rw [e7]; rfl
    have R_S1 : A7 SZ S1 := a7_I hR e7 r_x0 (by decide)
    refine ok_chk ((congrFun kE_S1 x0).trans r_x0) ?_
    refine ok_bnd (fun S2 e8 => ?_)
    have T_S2 : ZT S2 := e8.symm ▸ zt_W T_S1 ((congrFun kE_S1 x0).trans r_x0) (by decide) rfl
    have kE_S2 : zK S2 = zK S1 := by rw [e8]; rfl
    have nE_S2 : zN S2 = zN S1 := by rw [e8]; rfl
    have R_S2 : A7 SZ S2 := a7_I R_S1 e8 ((congrFun kE_S1 x0).trans r_x0) (by decide)
    refine ok_chk ((congrFun kE_S2 x0).trans ((congrFun kE_S1 x0).trans r_x0)) ?_
    refine ok_bnd (fun S3 e9 => ?_)
    have T_S3 : ZT S3 := e9.symm ▸ zt_I T_S2 ((congrFun kE_S2 x0).trans ((congrFun kE_S1 x0).trans r_x0)) (by decide) (show (-1 : Int) ≤ (-1 : Int32).toInt ∧ (-1 : Int32).toInt ≤ (63 : Int) from (by decide))
    have kE_S3 : zK S3 = zK S2 := by rw [e9]; rfl
    have nE_S3 : zN S3 = zN S2 := by rw [e9]; rfl
    have R_S3 : A7 SZ S3 := a7_I R_S2 e9 ((congrFun kE_S2 x0).trans ((congrFun kE_S1 x0).trans r_x0)) (by decide)
    refine ok_chk ((congrFun kE_S3 x0).trans ((congrFun kE_S2 x0).trans ((congrFun kE_S1 x0).trans r_x0))) ?_
    refine ok_bnd (fun S4 e10 => ?_)
    have T_S4 : ZT S4 := e10.symm ▸ zt_W T_S3 ((congrFun kE_S3 x0).trans ((congrFun kE_S2 x0).trans ((congrFun kE_S1 x0).trans r_x0))) (by decide) rfl
    have kE_S4 : zK S4 = zK S3 := by rw [e10]; rfl
    have nE_S4 : zN S4 = zN S3 := by rw [e10]; rfl
    have R_S4 : A7 SZ S4 := a7_I R_S3 e10 ((congrFun kE_S3 x0).trans ((congrFun kE_S2 x0).trans ((congrFun kE_S1 x0).trans r_x0))) (by decide)
    exact ok_ret ⟨T_S4, R_S4, trivial⟩
  ·
    replace c6 := ti_leN (a := (64 : Int32)) (b := x1) c6 (show (64 : Int32).toInt = 64 from rfl) rfl
    refine ok_chk r_x0 ?_
    obtain ⟨b5, p_b5, k_b5, n_b5⟩ := T_0_0 hT r_x0
    refine ok_calR p_b5 ?_
    refine ok_chk k_b5 ?_
    refine ok_chk (ti_inN (v := x1) (n := 64) n_b5 (by omega) (by omega)) ?_
    refine ok_bnd (fun S6 e11 => ?_)
    have T_S6 : ZT S6 := e11.symm ▸ zt_A hT k_b5
    have kE_S6 : zK S6 = zK S := by rw [e11]; rfl
    have nE_S6 : zN S6 = zN S := by rw [e11]; rfl
    have R_S6 : A7 SZ S6 := a7_A hR e11 hT k_b5 n_b5 (by decide)
    refine ok_bnd (fun v7 e12 => ?_)
    have t_v7 : v7.toInt = x1.toInt + 1 := ti_add e12 rfl (show (1 : Int32).toInt = 1 from rfl) (by omega) (by omega)
    exact hself2 x0 v7 S6 T_S6 R_S6 ((congrFun kE_S6 x0).trans r_x0) (by omega) (by omega)
theorem t_f_X0_wipe_2 {SZ : ZS} : ∀ (n : Nat) (x0 : Nat) (x1 : Int32) (S : ZS), ZT S → A7 SZ S → (zK S x0 = 0) → ((0 : Int) ≤ x1.toInt ∧ x1.toInt ≤ (64 : Int)) → (65 - x1.toInt) < (n : Int) → Ok (f_X0_wipe_2  n x0 x1 S) (fun o => ZT o.2 ∧ A7 SZ o.2 ∧ True) := by
  intro n
  induction n with
  | zero => intro x0 x1 S hT hR g0 g1  hm; exfalso; omega
  | succ n ih =>
    intro x0 x1 S hT hR g0 g1  hm
    exact t_f_X0_wipe_2s (N2 := n)  ih hT hR g0 g1  (by omega)
theorem t_f_X0_wipe_0 {SZ S : ZS} {x0 : Nat} (hT : ZT S) (hR : A7 SZ S) (r_x0 : zK S x0 = 0) : Ok (f_X0_wipe_0 x0 S) (fun o => ZT o.2 ∧ A7 SZ o.2 ∧ True) := by
  unfold f_X0_wipe_0
  exact t_f_X0_wipe_2   mFuel x0 (0 : Int32) S hT hR r_x0 (by decide) (by show _ < ((200000 : Nat) : Int); have z0 : (0 : Int32).toInt = 0 := rfl; omega)
theorem t_f_X0_wipe {SZ S : ZS} {x0 : Nat} (hT : ZT S) (hR : A7 SZ S) (r_x0 : zK S x0 = 0) : Ok (f_X0_wipe x0 S) (fun o => ZT o.2 ∧ A7 SZ o.2 ∧ True) := t_f_X0_wipe_0 hT hR r_x0
theorem t_f_X0_setUp_6s {SZ S : ZS} {self6 : Nat → Int32 → ZS → Option (Int32 × ZS)} {N6 : Nat} (hself6 : ∀ (x0 : Nat) (x1 : Int32) (S : ZS), ZT S → A7 SZ S → (zK S x0 = 0) → ((0 : Int) ≤ x1.toInt ∧ x1.toInt ≤ (8 : Int)) → (9 - x1.toInt) < (N6 : Int) → Ok (self6 x0 x1 S) (fun o => ZT o.2 ∧ A7 SZ o.2 ∧ True)) {x0 : Nat} {x1 : Int32} (hT : ZT S) (hR : A7 SZ S) (r_x0 : zK S x0 = 0) (r_x1 : (0 : Int) ≤ x1.toInt ∧ x1.toInt ≤ (8 : Int)) (m6 : (9 - x1.toInt) ≤ (N6 : Int)) : Ok (f_X0_setUp_6s self6 x0 x1 S) (fun o => ZT o.2 ∧ A7 SZ o.2 ∧ True) := by
  unfold f_X0_setUp_6s
  refine ok_if (fun c13 => ?_) (fun c13 => ?_)
  ·
    replace c13 := ti_leP (a := (8 : Int32)) (b := x1) c13 (show (8 : Int32).toInt = 8 from rfl) rfl
    refine ok_chk r_x0 ?_
    refine ok_bnd (fun S1 e14 => ?_)
    have T_S1 : ZT S1 := e14.symm ▸ zt_W hT r_x0 (by decide) rfl
    have kE_S1 : zK S1 = zK S := by rw [e14]; rfl
    have nE_S1 : zN S1 = zN S := by rw [e14]; rfl
    have R_S1 : A7 SZ S1 := a7_I hR e14 r_x0 (by decide)
    exact ok_ret ⟨T_S1, R_S1, trivial⟩
  ·
    replace c13 := ti_leN (a := (8 : Int32)) (b := x1) c13 (show (8 : Int32).toInt = 8 from rfl) rfl
    refine ok_chk (ti_in (by omega) (by omega)) ?_
    refine ok_bnd (fun v2 e15 => ?_)
    have t_v2 := zFR_b e15
    refine ok_chk r_x0 ?_
    obtain ⟨⟨r3, S3⟩, h_r3, T_S3, A_S3, -⟩ := t_f_X0_put (x0 := x0) (x1 := x1) (x2 := v2) (SZ := S) hT (a7_0 S) r_x0 (by omega)
    replace T_S3 : ZT S3 := T_S3
    replace A_S3 : A7 S S3 := A_S3
    refine ok_calR h_r3 ?_
    have q_S3 := fq_X0_put h_r3
    have kE_S3 : zK S3 = zK S := q_S3.2.2.1
    have nE_S3 : zN S3 = zN S := q_S3.2.2.2.1
    have R_S3 : A7 SZ S3 := a7_t hR A_S3
    refine ok_bnd (fun v4 e16 => ?_)
    have t_v4 : v4.toInt = x1.toInt + 8 := ti_add e16 rfl (show (8 : Int32).toInt = 8 from rfl) (by omega) (by omega)
    refine ok_chk ((congrFun kE_S3 x0).trans r_x0) ?_
    obtain ⟨⟨r5, S5⟩, h_r5, T_S5, A_S5, -⟩ := t_f_X0_put (x0 := x0) (x1 := v4) (x2 := (1 : Int32)) (SZ := S3) T_S3 (a7_0 S3) ((congrFun kE_S3 x0).trans r_x0) (by omega)
    replace T_S5 : ZT S5 := T_S5
    replace A_S5 : A7 S3 S5 := A_S5
    refine ok_calR h_r5 ?_
    have q_S5 := fq_X0_put h_r5
    have kE_S5 : zK S5 = zK S3 := q_S5.2.2.1
    have nE_S5 : zN S5 = zN S3 := q_S5.2.2.2.1
    have R_S5 : A7 SZ S5 := a7_t R_S3 A_S5
    refine ok_bnd (fun v6 e17 => ?_)
    have t_v6 : v6.toInt = x1.toInt + 48 := ti_add e17 rfl (show (48 : Int32).toInt = 48 from rfl) (by omega) (by omega)
    refine ok_chk ((congrFun kE_S5 x0).trans ((congrFun kE_S3 x0).trans r_x0)) ?_
    obtain ⟨⟨r7, S7⟩, h_r7, T_S7, A_S7, -⟩ := t_f_X0_put (x0 := x0) (x1 := v6) (x2 := (9 : Int32)) (SZ := S5) T_S5 (a7_0 S5) ((congrFun kE_S5 x0).trans ((congrFun kE_S3 x0).trans r_x0)) (by omega)
    replace T_S7 : ZT S7 := T_S7
    replace A_S7 : A7 S5 S7 := A_S7
    refine ok_calR h_r7 ?_
    have q_S7 := fq_X0_put h_r7
    have kE_S7 : zK S7 = zK S5 := q_S7.2.2.1
    have nE_S7 : zN S7 = zN S5 := q_S7.2.2.2.1
    have R_S7 : A7 SZ S7 := a7_t R_S5 A_S7
    refine ok_bnd (fun v8 e18 => ?_)
    have t_v8 : v8.toInt = x1.toInt + 56 := ti_add e18 rfl (show (56 : Int32).toInt = 56 from rfl) (by omega) (by omega)
    refine ok_chk (ti_in (by omega) (by omega)) ?_
    refine ok_bnd (fun v9 e19 => ?_)
    have t_v9 := zFR_b e19
    refine ok_bnd (fun v10 e20 => ?_)
    have t_v10 : v10.toInt = v9.toInt + 8 := ti_add e20 rfl (show (8 : Int32).toInt = 8 from rfl) (by omega) (by omega)
    refine ok_chk ((congrFun kE_S7 x0).trans ((congrFun kE_S5 x0).trans ((congrFun kE_S3 x0).trans r_x0))) ?_
    obtain ⟨⟨r11, S11⟩, h_r11, T_S11, A_S11, -⟩ := t_f_X0_put (x0 := x0) (x1 := v8) (x2 := v10) (SZ := S7) T_S7 (a7_0 S7) ((congrFun kE_S7 x0).trans ((congrFun kE_S5 x0).trans ((congrFun kE_S3 x0).trans r_x0))) (by omega)
    replace T_S11 : ZT S11 := T_S11
    replace A_S11 : A7 S7 S11 := A_S11
    refine ok_calR h_r11 ?_
    have q_S11 := fq_X0_put h_r11
    have kE_S11 : zK S11 = zK S7 := q_S11.2.2.1
    have nE_S11 : zN S11 = zN S7 := q_S11.2.2.2.1
    have R_S11 : A7 SZ S11 := a7_t R_S7 A_S11
    refine ok_bnd (fun v12 e21 => ?_)
    have t_v12 : v12.toInt = x1.toInt + 1 := ti_add e21 rfl (show (1 : Int32).toInt = 1 from rfl) (by omega) (by omega)
    exact hself6 x0 v12 S11 T_S11 R_S11 ((congrFun kE_S11 x0).trans ((congrFun kE_S7 x0).trans ((congrFun kE_S5 x0).trans ((congrFun kE_S3 x0).trans r_x0)))) (by omega) (by omega)
theorem t_f_X0_setUp_6 {SZ : ZS} : ∀ (n : Nat) (x0 : Nat) (x1 : Int32) (S : ZS), ZT S → A7 SZ S → (zK S x0 = 0) → ((0 : Int) ≤ x1.toInt ∧ x1.toInt ≤ (8 : Int)) → (9 - x1.toInt) < (n : Int) → Ok (f_X0_setUp_6  n x0 x1 S) (fun o => ZT o.2 ∧ A7 SZ o.2 ∧ True) := by
  intro n
  induction n with
  | zero => intro x0 x1 S hT hR g0 g1  hm; exfalso; omega
  | succ n ih =>
    intro x0 x1 S hT hR g0 g1  hm
    exact t_f_X0_setUp_6s (N6 := n)  ih hT hR g0 g1  (by omega)
theorem t_f_X0_setUp_0 {SZ S : ZS} {x0 : Nat} (hT : ZT S) (hR : A7 SZ S) (r_x0 : zK S x0 = 0) : Ok (f_X0_setUp_0 x0 S) (fun o => ZT o.2 ∧ A7 SZ o.2 ∧ True) := by
  unfold f_X0_setUp_0
  refine ok_chk r_x0 ?_
  obtain ⟨⟨r1, S1⟩, h_r1, T_S1, A_S1, -⟩ := t_f_X0_wipe (x0 := x0) (SZ := S) hT (a7_0 S) r_x0
  replace T_S1 : ZT S1 := T_S1
  replace A_S1 : A7 S S1 := A_S1
  refine ok_calR h_r1 ?_
  have q_S1 := fq_X0_wipe h_r1
  have kE_S1 : zK S1 = zK S := q_S1.2.2.1
  have nE_S1 : zN S1 = zN S := q_S1.2.2.2.1
  have R_S1 : A7 SZ S1 := a7_t hR A_S1
  exact t_f_X0_setUp_6   mFuel x0 (0 : Int32) S1 T_S1 R_S1 ((congrFun kE_S1 x0).trans r_x0) (by decide) (by show _ < ((200000 : Nat) : Int); have z0 : (0 : Int32).toInt = 0 := rfl; omega)
theorem t_f_X0_setUp {SZ S : ZS} {x0 : Nat} (hT : ZT S) (hR : A7 SZ S) (r_x0 : zK S x0 = 0) : Ok (f_X0_setUp x0 S) (fun o => ZT o.2 ∧ A7 SZ o.2 ∧ True) := t_f_X0_setUp_0 hT hR r_x0
theorem t_f_X0_copyFrom_0 {SZ S : ZS} {x0 : Nat} {x1 : Nat} (hT : ZT S) (hR : A7 SZ S) (r_x0 : zK S x0 = 0) (r_x1 : zK S x1 = 0) : Ok (f_X0_copyFrom_0 x0 x1 S) (fun o => ZT o.2 ∧ A7 SZ o.2 ∧ True) := by
  unfold f_X0_copyFrom_0
  refine ok_chk r_x1 ?_
  obtain ⟨b1, p_b1, k_b1, n_b1⟩ := T_0_0 hT r_x1
  refine ok_calR p_b1 ?_
  refine ok_chk r_x0 ?_
  obtain ⟨b2, p_b2, k_b2, n_b2⟩ := T_0_0 hT r_x0
  refine ok_calR p_b2 ?_
  refine ok_chk k_b1 ?_
  refine ok_chk k_b2 ?_
  refine ok_chk (by rw [n_b1, n_b2]; decide) ?_
  refine ok_bnd (fun S3 e22 => ?_)
  have T_S3 : ZT S3 := e22.symm ▸ zt_C hT k_b2
  have kE_S3 : zK S3 = zK S := by rw [e22]; rfl
  have nE_S3 : zN S3 = zN S := by rw [e22]; rfl
  have R_S3 : A7 SZ S3 := a7_C hR e22 hT k_b2 n_b2 (by decide)
  refine ok_chk ((congrFun kE_S3 x1).trans r_x1) ?_
  refine ok_chk ((congrFun kE_S3 x0).trans r_x0) ?_
  refine ok_bnd (fun S4 e23 => ?_)
  have j24 := J_0_1 T_S3 ((congrFun kE_S3 x1).trans r_x1)
  have T_S4 : ZT S4 := e23.symm ▸ zt_I T_S3 ((congrFun kE_S3 x0).trans r_x0) (by decide) (show (0 : Int) ≤ (zI S3 1 x1).toInt ∧ (zI S3 1 x1).toInt ≤ (63 : Int) from (by omega))
  have kE_S4 : zK S4 = zK S3 := by rw [e23]; rfl
  have nE_S4 : zN S4 = zN S3 := by rw [e23]; rfl
  have R_S4 : A7 SZ S4 := a7_I R_S3 e23 ((congrFun kE_S3 x0).trans r_x0) (by decide)
  refine ok_chk ((congrFun kE_S4 x1).trans ((congrFun kE_S3 x1).trans r_x1)) ?_
  refine ok_chk ((congrFun kE_S4 x0).trans ((congrFun kE_S3 x0).trans r_x0)) ?_
  refine ok_bnd (fun S5 e25 => ?_)
  have j26 := J_0_2 T_S4 ((congrFun kE_S4 x1).trans ((congrFun kE_S3 x1).trans r_x1))
  have T_S5 : ZT S5 := e25.symm ▸ zt_I T_S4 ((congrFun kE_S4 x0).trans ((congrFun kE_S3 x0).trans r_x0)) (by decide) (show (0 : Int) ≤ (zI S4 2 x1).toInt ∧ (zI S4 2 x1).toInt ≤ (63 : Int) from (by omega))
  have kE_S5 : zK S5 = zK S4 := by rw [e25]; rfl
  have nE_S5 : zN S5 = zN S4 := by rw [e25]; rfl
  have R_S5 : A7 SZ S5 := a7_I R_S4 e25 ((congrFun kE_S4 x0).trans ((congrFun kE_S3 x0).trans r_x0)) (by decide)
  refine ok_chk ((congrFun kE_S5 x1).trans ((congrFun kE_S4 x1).trans ((congrFun kE_S3 x1).trans r_x1))) ?_
  refine ok_chk ((congrFun kE_S5 x0).trans ((congrFun kE_S4 x0).trans ((congrFun kE_S3 x0).trans r_x0))) ?_
  refine ok_bnd (fun S6 e27 => ?_)
  have j28 := J_0_3 T_S5 ((congrFun kE_S5 x1).trans ((congrFun kE_S4 x1).trans ((congrFun kE_S3 x1).trans r_x1)))
  have T_S6 : ZT S6 := e27.symm ▸ zt_I T_S5 ((congrFun kE_S5 x0).trans ((congrFun kE_S4 x0).trans ((congrFun kE_S3 x0).trans r_x0))) (by decide) (show (0 : Int) ≤ (zI S5 3 x1).toInt ∧ (zI S5 3 x1).toInt ≤ (1 : Int) from (by omega))
  have kE_S6 : zK S6 = zK S5 := by rw [e27]; rfl
  have nE_S6 : zN S6 = zN S5 := by rw [e27]; rfl
  have R_S6 : A7 SZ S6 := a7_I R_S5 e27 ((congrFun kE_S5 x0).trans ((congrFun kE_S4 x0).trans ((congrFun kE_S3 x0).trans r_x0))) (by decide)
  refine ok_chk ((congrFun kE_S6 x1).trans ((congrFun kE_S5 x1).trans ((congrFun kE_S4 x1).trans ((congrFun kE_S3 x1).trans r_x1)))) ?_
  refine ok_chk ((congrFun kE_S6 x0).trans ((congrFun kE_S5 x0).trans ((congrFun kE_S4 x0).trans ((congrFun kE_S3 x0).trans r_x0)))) ?_
  refine ok_bnd (fun S7 e29 => ?_)
  have T_S7 : ZT S7 := e29.symm ▸ zt_W T_S6 ((congrFun kE_S6 x0).trans ((congrFun kE_S5 x0).trans ((congrFun kE_S4 x0).trans ((congrFun kE_S3 x0).trans r_x0)))) (by decide) rfl
  have kE_S7 : zK S7 = zK S6 := by rw [e29]; rfl
  have nE_S7 : zN S7 = zN S6 := by rw [e29]; rfl
  have R_S7 : A7 SZ S7 := a7_I R_S6 e29 ((congrFun kE_S6 x0).trans ((congrFun kE_S5 x0).trans ((congrFun kE_S4 x0).trans ((congrFun kE_S3 x0).trans r_x0)))) (by decide)
  refine ok_chk ((congrFun kE_S7 x1).trans ((congrFun kE_S6 x1).trans ((congrFun kE_S5 x1).trans ((congrFun kE_S4 x1).trans ((congrFun kE_S3 x1).trans r_x1))))) ?_
  refine ok_chk ((congrFun kE_S7 x0).trans ((congrFun kE_S6 x0).trans ((congrFun kE_S5 x0).trans ((congrFun kE_S4 x0).trans ((congrFun kE_S3 x0).trans r_x0))))) ?_
  refine ok_bnd (fun S8 e30 => ?_)
  have j31 := J_0_5 T_S7 ((congrFun kE_S7 x1).trans ((congrFun kE_S6 x1).trans ((congrFun kE_S5 x1).trans ((congrFun kE_S4 x1).trans ((congrFun kE_S3 x1).trans r_x1)))))
  have T_S8 : ZT S8 := e30.symm ▸ zt_I T_S7 ((congrFun kE_S7 x0).trans ((congrFun kE_S6 x0).trans ((congrFun kE_S5 x0).trans ((congrFun kE_S4 x0).trans ((congrFun kE_S3 x0).trans r_x0))))) (by decide) (show (-1 : Int) ≤ (zI S7 5 x1).toInt ∧ (zI S7 5 x1).toInt ≤ (63 : Int) from (by omega))
  have kE_S8 : zK S8 = zK S7 := by rw [e30]; rfl
  have nE_S8 : zN S8 = zN S7 := by rw [e30]; rfl
  have R_S8 : A7 SZ S8 := a7_I R_S7 e30 ((congrFun kE_S7 x0).trans ((congrFun kE_S6 x0).trans ((congrFun kE_S5 x0).trans ((congrFun kE_S4 x0).trans ((congrFun kE_S3 x0).trans r_x0))))) (by decide)
  refine ok_chk ((congrFun kE_S8 x1).trans ((congrFun kE_S7 x1).trans ((congrFun kE_S6 x1).trans ((congrFun kE_S5 x1).trans ((congrFun kE_S4 x1).trans ((congrFun kE_S3 x1).trans r_x1)))))) ?_
  refine ok_chk ((congrFun kE_S8 x0).trans ((congrFun kE_S7 x0).trans ((congrFun kE_S6 x0).trans ((congrFun kE_S5 x0).trans ((congrFun kE_S4 x0).trans ((congrFun kE_S3 x0).trans r_x0)))))) ?_
  refine ok_bnd (fun S9 e32 => ?_)
  have T_S9 : ZT S9 := e32.symm ▸ zt_W T_S8 ((congrFun kE_S8 x0).trans ((congrFun kE_S7 x0).trans ((congrFun kE_S6 x0).trans ((congrFun kE_S5 x0).trans ((congrFun kE_S4 x0).trans ((congrFun kE_S3 x0).trans r_x0)))))) (by decide) rfl
  have kE_S9 : zK S9 = zK S8 := by rw [e32]; rfl
  have nE_S9 : zN S9 = zN S8 := by rw [e32]; rfl
  have R_S9 : A7 SZ S9 := a7_I R_S8 e32 ((congrFun kE_S8 x0).trans ((congrFun kE_S7 x0).trans ((congrFun kE_S6 x0).trans ((congrFun kE_S5 x0).trans ((congrFun kE_S4 x0).trans ((congrFun kE_S3 x0).trans r_x0)))))) (by decide)
  exact ok_ret ⟨T_S9, R_S9, trivial⟩
theorem t_f_X0_copyFrom {SZ S : ZS} {x0 : Nat} {x1 : Nat} (hT : ZT S) (hR : A7 SZ S) (r_x0 : zK S x0 = 0) (r_x1 : zK S x1 = 0) : Ok (f_X0_copyFrom x0 x1 S) (fun o => ZT o.2 ∧ A7 SZ o.2 ∧ True) := t_f_X0_copyFrom_0 hT hR r_x0 r_x1
theorem t_f_X0_kindAt_0 {S : ZS} {x0 : Nat} {x1 : Int32} (hT : ZT S) (r_x0 : zK S x0 = 0) (r_x1 : (0 : Int) ≤ x1.toInt ∧ x1.toInt ≤ (63 : Int)) : Ok (f_X0_kindAt_0 x0 x1 S) (fun o => o.2 = S ∧ ((0 : Int) ≤ o.1.toInt ∧ o.1.toInt ≤ (7 : Int))) := by
  unfold f_X0_kindAt_0
  refine ok_chk r_x0 ?_
  obtain ⟨b1, p_b1, k_b1, n_b1⟩ := T_0_0 hT r_x0
  refine ok_calR p_b1 ?_
  refine ok_chk k_b1 ?_
  refine ok_chk (ti_inN (v := x1) (n := 64) n_b1 (by omega) (by omega)) ?_
  refine ok_bnd (fun v2 e33 => ?_)
  refine ok_bnd (fun v3 e34 => ?_)
  have t_v3 := ti_and e34 (show (7 : Int32).toBitVec.toNat = 7 from rfl) (by decide)
  exact ok_ret ⟨rfl, (show (0 : Int) ≤ v3.toInt ∧ v3.toInt ≤ (7 : Int) from (by omega))⟩
theorem t_f_X0_kindAt {S : ZS} {x0 : Nat} {x1 : Int32} (hT : ZT S) (r_x0 : zK S x0 = 0) (r_x1 : (0 : Int) ≤ x1.toInt ∧ x1.toInt ≤ (63 : Int)) : Ok (f_X0_kindAt x0 x1 S) (fun o => o.2 = S ∧ ((0 : Int) ≤ o.1.toInt ∧ o.1.toInt ≤ (7 : Int))) := t_f_X0_kindAt_0 hT r_x0 r_x1
theorem t_f_X0_kingOf_0 {S : ZS} {x0 : Nat} {x1 : Int32} (hT : ZT S) (r_x0 : zK S x0 = 0) : Ok (f_X0_kingOf_0 x0 x1 S) (fun o => o.2 = S ∧ ((0 : Int) ≤ o.1.toInt ∧ o.1.toInt ≤ (63 : Int))) := by
  unfold f_X0_kingOf_0
  refine ok_if (fun c35 => ?_) (fun c35 => ?_)
  ·
    replace c35 := ti_eqP (a := x1) (b := (0 : Int32)) c35 rfl (show (0 : Int32).toInt = 0 from rfl)
    refine ok_chk r_x0 ?_
    unfold f_X0_kingOf_15
    have j36 := J_0_1 hT r_x0
    exact ok_ret ⟨rfl, (show (0 : Int) ≤ (zI S 1 x0).toInt ∧ (zI S 1 x0).toInt ≤ (63 : Int) from (by omega))⟩
  ·
    replace c35 := ti_eqN (a := x1) (b := (0 : Int32)) c35 rfl (show (0 : Int32).toInt = 0 from rfl)
    refine ok_chk r_x0 ?_
    unfold f_X0_kingOf_15
    have j37 := J_0_2 hT r_x0
    exact ok_ret ⟨rfl, (show (0 : Int) ≤ (zI S 2 x0).toInt ∧ (zI S 2 x0).toInt ≤ (63 : Int) from (by omega))⟩
theorem t_f_X0_kingOf {S : ZS} {x0 : Nat} {x1 : Int32} (hT : ZT S) (r_x0 : zK S x0 = 0) : Ok (f_X0_kingOf x0 x1 S) (fun o => o.2 = S ∧ ((0 : Int) ≤ o.1.toInt ∧ o.1.toInt ≤ (63 : Int))) := t_f_X0_kingOf_0 hT r_x0
theorem t_f_X0_attacks_281s {S : ZS} {self281 : Nat → Int32 → Int32 → Int32 → Int32 → ZS → Option (Int32 × ZS)} {N281 : Nat} (hself281 : ∀ (x0 : Nat) (x1 : Int32) (x8 : Int32) (x11 : Int32) (x12 : Int32),  (zK S x0 = 0) → ((0 : Int) ≤ x1.toInt ∧ x1.toInt ≤ (63 : Int)) → ((0 : Int) ≤ x8.toInt ∧ x8.toInt ≤ (7 : Int)) → ((-9 : Int) ≤ x11.toInt ∧ x11.toInt ≤ (9 : Int)) → ((1 : Int) ≤ x12.toInt ∧ x12.toInt ≤ (8 : Int)) → (wayk x1.toInt x11.toInt x8.toInt) → (9 - x12.toInt) < (N281 : Int) → Ok (self281 x0 x1 x8 x11 x12 S) (fun o => o.2 = S ∧ ((0 : Int) ≤ o.1.toInt ∧ o.1.toInt ≤ (1 : Int)))) {x0 : Nat} {x1 : Int32} {x8 : Int32} {x11 : Int32} {x12 : Int32} (hT : ZT S) (r_x0 : zK S x0 = 0) (r_x1 : (0 : Int) ≤ x1.toInt ∧ x1.toInt ≤ (63 : Int)) (r_x8 : (0 : Int) ≤ x8.toInt ∧ x8.toInt ≤ (7 : Int)) (r_x11 : (-9 : Int) ≤ x11.toInt ∧ x11.toInt ≤ (9 : Int)) (r_x12 : (1 : Int) ≤ x12.toInt ∧ x12.toInt ≤ (8 : Int)) (q0 : wayk x1.toInt x11.toInt x8.toInt) (m281 : (9 - x12.toInt) ≤ (N281 : Int)) : Ok (f_X0_attacks_281s self281 x0 x1 x8 x11 x12 S) (fun o => o.2 = S ∧ ((0 : Int) ≤ o.1.toInt ∧ o.1.toInt ≤ (1 : Int))) := by
  unfold f_X0_attacks_281s
  refine ok_if (fun c38 => ?_) (fun c38 => ?_)
  ·
    replace c38 := ti_leP (a := x8) (b := x12) c38 rfl rfl
    refine ok_chk (by decide) ?_
    exact ok_ret ⟨rfl, (show (0 : Int) ≤ (1 : Int32).toInt ∧ (1 : Int32).toInt ≤ (1 : Int) from (by decide))⟩
  ·
    replace c38 := ti_leN (a := x8) (b := x12) c38 rfl rfl
    refine ok_chk r_x0 ?_
    obtain ⟨b1, p_b1, k_b1, n_b1⟩ := T_0_0 hT r_x0
    refine ok_calR p_b1 ?_
    refine ok_bnd (fun v2 e39 => ?_)
    have w2 := q0 x12.toInt (by omega) (by omega)
    have t_v2 : v2.toInt = x12.toInt * x11.toInt := ti_mul e39 rfl rfl (by omega) (by omega)
    refine ok_bnd (fun v3 e40 => ?_)
    have t_v3 : v3.toInt = x1.toInt + v2.toInt := ti_add e40 rfl rfl (by omega) (by omega)
    refine ok_chk k_b1 ?_
    refine ok_chk (ti_inN (v := v3) (n := 64) n_b1 (by omega) (by omega)) ?_
    refine ok_bnd (fun v4 e41 => ?_)
    refine ok_if (fun c42 => ?_) (fun c42 => ?_)
    ·
      replace c42 := ti_eqP (a := v4) (b := (0 : Int32)) c42 rfl (show (0 : Int32).toInt = 0 from rfl)
      refine ok_bnd (fun v5 e43 => ?_)
      have t_v5 : v5.toInt = x12.toInt + 1 := ti_add e43 rfl (show (1 : Int32).toInt = 1 from rfl) (by omega) (by omega)
      exact hself281 x0 x1 x8 x11 v5  r_x0 r_x1 r_x8 r_x11 (by omega) q0 (by omega)
    ·
      replace c42 := ti_eqN (a := v4) (b := (0 : Int32)) c42 rfl (show (0 : Int32).toInt = 0 from rfl)
      refine ok_chk (by decide) ?_
      exact ok_ret ⟨rfl, (show (0 : Int) ≤ (0 : Int32).toInt ∧ (0 : Int32).toInt ≤ (1 : Int) from (by decide))⟩
theorem t_f_X0_attacks_281 {S : ZS} (hT : ZT S) : ∀ (n : Nat) (x0 : Nat) (x1 : Int32) (x8 : Int32) (x11 : Int32) (x12 : Int32),  (zK S x0 = 0) → ((0 : Int) ≤ x1.toInt ∧ x1.toInt ≤ (63 : Int)) → ((0 : Int) ≤ x8.toInt ∧ x8.toInt ≤ (7 : Int)) → ((-9 : Int) ≤ x11.toInt ∧ x11.toInt ≤ (9 : Int)) → ((1 : Int) ≤ x12.toInt ∧ x12.toInt ≤ (8 : Int)) → (wayk x1.toInt x11.toInt x8.toInt) → (9 - x12.toInt) < (n : Int) → Ok (f_X0_attacks_281  n x0 x1 x8 x11 x12 S) (fun o => o.2 = S ∧ ((0 : Int) ≤ o.1.toInt ∧ o.1.toInt ≤ (1 : Int))) := by
  intro n
  induction n with
  | zero => intro x0 x1 x8 x11 x12 g0 g1 g2 g3 g4 g5  hm; exfalso; omega
  | succ n ih =>
    intro x0 x1 x8 x11 x12 g0 g1 g2 g3 g4 g5  hm
    exact t_f_X0_attacks_281s (N281 := n)  ih hT g0 g1 g2 g3 g4 g5  (by omega)
theorem t_f_X0_attacks_275 {S : ZS} {x0 : Nat} {x1 : Int32} {x8 : Int32} {t0 : Int32} {t1 : Int32} (hT : ZT S) (r_x0 : zK S x0 = 0) (r_x1 : (0 : Int) ≤ x1.toInt ∧ x1.toInt ≤ (63 : Int)) (r_x8 : (0 : Int) ≤ x8.toInt ∧ x8.toInt ≤ (7 : Int)) (r_t0 : (-8 : Int) ≤ t0.toInt ∧ t0.toInt ≤ (8 : Int)) (r_t1 : (-1 : Int) ≤ t1.toInt ∧ t1.toInt ≤ (1 : Int)) (q0 : wayk x1.toInt (t1.toInt + t0.toInt) x8.toInt) : Ok (f_X0_attacks_275 x0 x1 x8 t0 t1 S) (fun o => o.2 = S ∧ ((0 : Int) ≤ o.1.toInt ∧ o.1.toInt ≤ (1 : Int))) := by
  unfold f_X0_attacks_275
  refine ok_bnd (fun v1 e44 => ?_)
  have t_v1 : v1.toInt = t1.toInt + t0.toInt := ti_add e44 rfl rfl (by omega) (by omega)
  exact t_f_X0_attacks_281  hT mFuel x0 x1 x8 v1 (1 : Int32)  r_x0 r_x1 r_x8 (by omega) (by decide) (by rw [t_v1]; exact q0) (by show _ < ((200000 : Nat) : Int); have z0 : (1 : Int32).toInt = 1 := rfl; omega)
theorem t_f_X0_attacks_254 {S : ZS} {x0 : Nat} {x1 : Int32} {x4 : Int32} {x8 : Int32} {t0 : Int32} (hT : ZT S) (r_x0 : zK S x0 = 0) (r_x1 : (0 : Int) ≤ x1.toInt ∧ x1.toInt ≤ (63 : Int)) (r_x4 : (-7 : Int) ≤ x4.toInt ∧ x4.toInt ≤ (7 : Int)) (r_x8 : (0 : Int) ≤ x8.toInt ∧ x8.toInt ≤ (7 : Int)) (r_t0 : (-1 : Int) ≤ t0.toInt ∧ t0.toInt ≤ (1 : Int)) (q0 : way3 x1.toInt t0.toInt x4.toInt x8.toInt) : Ok (f_X0_attacks_254 x0 x1 x4 x8 t0 S) (fun o => o.2 = S ∧ ((0 : Int) ≤ o.1.toInt ∧ o.1.toInt ≤ (1 : Int))) := by
  unfold f_X0_attacks_254
  refine ok_if (fun c45 => ?_) (fun c45 => ?_)
  ·
    replace c45 := ti_leP (a := x4) (b := (0 : Int32)) c45 rfl (show (0 : Int32).toInt = 0 from rfl)
    refine ok_if (fun c46 => ?_) (fun c46 => ?_)
    ·
      replace c46 := ti_leP (a := (0 : Int32)) (b := x4) c46 (show (0 : Int32).toInt = 0 from rfl) rfl
      exact t_f_X0_attacks_275 (S := S)  (x0 := x0) (x1 := x1) (x8 := x8) (t0 := (0 : Int32)) (t1 := t0) hT r_x0 r_x1 r_x8 (by decide) r_t0 (way3_0 r_t0 r_x1 q0 (by omega))
    ·
      replace c46 := ti_leN (a := (0 : Int32)) (b := x4) c46 (show (0 : Int32).toInt = 0 from rfl) rfl
      exact t_f_X0_attacks_275 (S := S)  (x0 := x0) (x1 := x1) (x8 := x8) (t0 := (-8 : Int32)) (t1 := t0) hT r_x0 r_x1 r_x8 (by decide) r_t0 (way3_m r_t0 r_x1 q0 (by omega))
  ·
    replace c45 := ti_leN (a := x4) (b := (0 : Int32)) c45 rfl (show (0 : Int32).toInt = 0 from rfl)
    exact t_f_X0_attacks_275 (S := S)  (x0 := x0) (x1 := x1) (x8 := x8) (t0 := (8 : Int32)) (t1 := t0) hT r_x0 r_x1 r_x8 (by decide) r_t0 (way3_p r_t0 r_x1 q0 (by omega))
theorem t_f_X0_attacks_223 {S : ZS} {x0 : Nat} {x1 : Int32} {x3 : Int32} {x4 : Int32} {x8 : Int32} {t0 : Int32} (hT : ZT S) (r_x0 : zK S x0 = 0) (r_x1 : (0 : Int) ≤ x1.toInt ∧ x1.toInt ≤ (63 : Int)) (r_x3 : (-7 : Int) ≤ x3.toInt ∧ x3.toInt ≤ (7 : Int)) (r_x4 : (-7 : Int) ≤ x4.toInt ∧ x4.toInt ≤ (7 : Int)) (r_x8 : (0 : Int) ≤ x8.toInt ∧ x8.toInt ≤ (7 : Int)) (r_t0 : (0 : Int) ≤ t0.toInt ∧ t0.toInt ≤ (1 : Int)) (q0 : 0 ≤ x1.toInt % 8 + x3.toInt ∧ x1.toInt % 8 + x3.toInt ≤ 7 ∧ 0 ≤ x1.toInt / 8 + x4.toInt ∧ x1.toInt / 8 + x4.toInt ≤ 7) (q1 : x3.toInt ≤ x8.toInt ∧ -x3.toInt ≤ x8.toInt ∧ x4.toInt ≤ x8.toInt ∧ -x4.toInt ≤ x8.toInt ∧ (x8.toInt = x3.toInt ∨ x8.toInt = -x3.toInt ∨ x8.toInt = x4.toInt ∨ x8.toInt = -x4.toInt)) (q2 : t0.toInt = 1 → x3.toInt = 0 ∨ x4.toInt = 0 ∨ x3.toInt = x4.toInt ∨ x3.toInt = -x4.toInt) : Ok (f_X0_attacks_223 x0 x1 x3 x4 x8 t0 S) (fun o => o.2 = S ∧ ((0 : Int) ≤ o.1.toInt ∧ o.1.toInt ≤ (1 : Int))) := by
  unfold f_X0_attacks_223
  refine ok_if (fun c47 => ?_) (fun c47 => ?_)
  ·
    replace c47 := ti_eqP (a := t0) (b := (0 : Int32)) c47 rfl (show (0 : Int32).toInt = 0 from rfl)
    unfold f_X0_attacks_235
    refine ok_chk (by decide) ?_
    exact ok_ret ⟨rfl, (show (0 : Int) ≤ (0 : Int32).toInt ∧ (0 : Int32).toInt ≤ (1 : Int) from (by decide))⟩
  ·
    replace c47 := ti_eqN (a := t0) (b := (0 : Int32)) c47 rfl (show (0 : Int32).toInt = 0 from rfl)
    refine ok_if (fun c48 => ?_) (fun c48 => ?_)
    ·
      replace c48 := ti_eqP (a := x8) (b := (0 : Int32)) c48 rfl (show (0 : Int32).toInt = 0 from rfl)
      unfold f_X0_attacks_235
      refine ok_chk (by decide) ?_
      exact ok_ret ⟨rfl, (show (0 : Int) ≤ (0 : Int32).toInt ∧ (0 : Int32).toInt ≤ (1 : Int) from (by decide))⟩
    ·
      replace c48 := ti_eqN (a := x8) (b := (0 : Int32)) c48 rfl (show (0 : Int32).toInt = 0 from rfl)
      refine ok_if (fun c49 => ?_) (fun c49 => ?_)
      ·
        replace c49 := ti_leP (a := x3) (b := (0 : Int32)) c49 rfl (show (0 : Int32).toInt = 0 from rfl)
        refine ok_if (fun c50 => ?_) (fun c50 => ?_)
        ·
          replace c50 := ti_leP (a := (0 : Int32)) (b := x3) c50 (show (0 : Int32).toInt = 0 from rfl) rfl
          exact t_f_X0_attacks_254 (S := S)  (x0 := x0) (x1 := x1) (x4 := x4) (x8 := x8) (t0 := (0 : Int32)) hT r_x0 r_x1 r_x4 r_x8 (by decide) (way3_mk q0 q1 (q2 (by omega)) (by have z0 : (0 : Int32).toInt = 0 := rfl; have z1 : (1 : Int32).toInt = 1 := rfl; have z2 : (-1 : Int32).toInt = -1 := rfl; omega))
        ·
          replace c50 := ti_leN (a := (0 : Int32)) (b := x3) c50 (show (0 : Int32).toInt = 0 from rfl) rfl
          exact t_f_X0_attacks_254 (S := S)  (x0 := x0) (x1 := x1) (x4 := x4) (x8 := x8) (t0 := (-1 : Int32)) hT r_x0 r_x1 r_x4 r_x8 (by decide) (way3_mk q0 q1 (q2 (by omega)) (by have z0 : (0 : Int32).toInt = 0 := rfl; have z1 : (1 : Int32).toInt = 1 := rfl; have z2 : (-1 : Int32).toInt = -1 := rfl; omega))
      ·
        replace c49 := ti_leN (a := x3) (b := (0 : Int32)) c49 rfl (show (0 : Int32).toInt = 0 from rfl)
        exact t_f_X0_attacks_254 (S := S)  (x0 := x0) (x1 := x1) (x4 := x4) (x8 := x8) (t0 := (1 : Int32)) hT r_x0 r_x1 r_x4 r_x8 (by decide) (way3_mk q0 q1 (q2 (by omega)) (by have z0 : (0 : Int32).toInt = 0 := rfl; have z1 : (1 : Int32).toInt = 1 := rfl; have z2 : (-1 : Int32).toInt = -1 := rfl; omega))
theorem t_f_X0_attacks_172 {S : ZS} {x0 : Nat} {x1 : Int32} {x3 : Int32} {x4 : Int32} {x5 : Int32} {x6 : Int32} {x7 : Int32} {x8 : Int32} {t0 : Int32} (hT : ZT S) (r_x0 : zK S x0 = 0) (r_x1 : (0 : Int) ≤ x1.toInt ∧ x1.toInt ≤ (63 : Int)) (r_x3 : (-7 : Int) ≤ x3.toInt ∧ x3.toInt ≤ (7 : Int)) (r_x4 : (-7 : Int) ≤ x4.toInt ∧ x4.toInt ≤ (7 : Int)) (r_x5 : (0 : Int) ≤ x5.toInt ∧ x5.toInt ≤ (7 : Int)) (r_x6 : (0 : Int) ≤ x6.toInt ∧ x6.toInt ≤ (7 : Int)) (r_x7 : (0 : Int) ≤ x7.toInt ∧ x7.toInt ≤ (7 : Int)) (r_x8 : (0 : Int) ≤ x8.toInt ∧ x8.toInt ≤ (7 : Int)) (r_t0 : (0 : Int) ≤ t0.toInt ∧ t0.toInt ≤ (1 : Int)) (q0 : 0 ≤ x1.toInt % 8 + x3.toInt ∧ x1.toInt % 8 + x3.toInt ≤ 7 ∧ 0 ≤ x1.toInt / 8 + x4.toInt ∧ x1.toInt / 8 + x4.toInt ≤ 7) (q1 : x3.toInt ≤ x8.toInt ∧ -x3.toInt ≤ x8.toInt ∧ x4.toInt ≤ x8.toInt ∧ -x4.toInt ≤ x8.toInt ∧ (x8.toInt = x3.toInt ∨ x8.toInt = -x3.toInt ∨ x8.toInt = x4.toInt ∨ x8.toInt = -x4.toInt)) (q2 : (x6.toInt = x3.toInt ∨ x6.toInt = -x3.toInt) ∧ (x7.toInt = x4.toInt ∨ x7.toInt = -x4.toInt)) (q3 : t0.toInt = 1 → x6.toInt = 0 ∨ x7.toInt = 0) : Ok (f_X0_attacks_172 x0 x1 x3 x4 x5 x6 x7 x8 t0 S) (fun o => o.2 = S ∧ ((0 : Int) ≤ o.1.toInt ∧ o.1.toInt ≤ (1 : Int))) := by
  unfold f_X0_attacks_172
  refine ok_if (fun c51 => ?_) (fun c51 => ?_)
  ·
    replace c51 := ti_eqP (a := t0) (b := (0 : Int32)) c51 rfl (show (0 : Int32).toInt = 0 from rfl)
    refine ok_if (fun c52 => ?_) (fun c52 => ?_)
    ·
      replace c52 := ti_eqP (a := x6) (b := x7) c52 rfl rfl
      refine ok_if (fun c53 => ?_) (fun c53 => ?_)
      ·
        replace c53 := ti_eqP (a := x5) (b := (3 : Int32)) c53 rfl (show (3 : Int32).toInt = 3 from rfl)
        unfold f_X0_attacks_218
        exact t_f_X0_attacks_223 (S := S)  (x0 := x0) (x1 := x1) (x3 := x3) (x4 := x4) (x8 := x8) (t0 := (1 : Int32)) hT r_x0 r_x1 r_x3 r_x4 r_x8 (by decide) q0 q1 (by have z0 : (1 : Int32).toInt = 1 := rfl; omega)
      ·
        replace c53 := ti_eqN (a := x5) (b := (3 : Int32)) c53 rfl (show (3 : Int32).toInt = 3 from rfl)
        refine ok_if (fun c54 => ?_) (fun c54 => ?_)
        ·
          replace c54 := ti_eqP (a := x5) (b := (5 : Int32)) c54 rfl (show (5 : Int32).toInt = 5 from rfl)
          unfold f_X0_attacks_218
          exact t_f_X0_attacks_223 (S := S)  (x0 := x0) (x1 := x1) (x3 := x3) (x4 := x4) (x8 := x8) (t0 := (1 : Int32)) hT r_x0 r_x1 r_x3 r_x4 r_x8 (by decide) q0 q1 (by have z0 : (1 : Int32).toInt = 1 := rfl; omega)
        ·
          replace c54 := ti_eqN (a := x5) (b := (5 : Int32)) c54 rfl (show (5 : Int32).toInt = 5 from rfl)
          unfold f_X0_attacks_222
          exact t_f_X0_attacks_223 (S := S)  (x0 := x0) (x1 := x1) (x3 := x3) (x4 := x4) (x8 := x8) (t0 := (0 : Int32)) hT r_x0 r_x1 r_x3 r_x4 r_x8 (by decide) q0 q1 (by have z0 : (0 : Int32).toInt = 0 := rfl; omega)
    ·
      replace c52 := ti_eqN (a := x6) (b := x7) c52 rfl rfl
      unfold f_X0_attacks_222
      exact t_f_X0_attacks_223 (S := S)  (x0 := x0) (x1 := x1) (x3 := x3) (x4 := x4) (x8 := x8) (t0 := (0 : Int32)) hT r_x0 r_x1 r_x3 r_x4 r_x8 (by decide) q0 q1 (by have z0 : (0 : Int32).toInt = 0 := rfl; omega)
  ·
    replace c51 := ti_eqN (a := t0) (b := (0 : Int32)) c51 rfl (show (0 : Int32).toInt = 0 from rfl)
    refine ok_if (fun c55 => ?_) (fun c55 => ?_)
    ·
      replace c55 := ti_eqP (a := x5) (b := (4 : Int32)) c55 rfl (show (4 : Int32).toInt = 4 from rfl)
      unfold f_X0_attacks_191
      exact t_f_X0_attacks_223 (S := S)  (x0 := x0) (x1 := x1) (x3 := x3) (x4 := x4) (x8 := x8) (t0 := (1 : Int32)) hT r_x0 r_x1 r_x3 r_x4 r_x8 (by decide) q0 q1 (by have z0 : (1 : Int32).toInt = 1 := rfl; omega)
    ·
      replace c55 := ti_eqN (a := x5) (b := (4 : Int32)) c55 rfl (show (4 : Int32).toInt = 4 from rfl)
      refine ok_if (fun c56 => ?_) (fun c56 => ?_)
      ·
        replace c56 := ti_eqP (a := x5) (b := (5 : Int32)) c56 rfl (show (5 : Int32).toInt = 5 from rfl)
        unfold f_X0_attacks_191
        exact t_f_X0_attacks_223 (S := S)  (x0 := x0) (x1 := x1) (x3 := x3) (x4 := x4) (x8 := x8) (t0 := (1 : Int32)) hT r_x0 r_x1 r_x3 r_x4 r_x8 (by decide) q0 q1 (by have z0 : (1 : Int32).toInt = 1 := rfl; omega)
      ·
        replace c56 := ti_eqN (a := x5) (b := (5 : Int32)) c56 rfl (show (5 : Int32).toInt = 5 from rfl)
        exact t_f_X0_attacks_223 (S := S)  (x0 := x0) (x1 := x1) (x3 := x3) (x4 := x4) (x8 := x8) (t0 := (0 : Int32)) hT r_x0 r_x1 r_x3 r_x4 r_x8 (by decide) q0 q1 (by have z0 : (0 : Int32).toInt = 0 := rfl; omega)
theorem t_f_X0_attacks_136 {S : ZS} {x0 : Nat} {x1 : Int32} {x3 : Int32} {x4 : Int32} {x5 : Int32} {x6 : Int32} {x7 : Int32} {t0 : Int32} (hT : ZT S) (r_x0 : zK S x0 = 0) (r_x1 : (0 : Int) ≤ x1.toInt ∧ x1.toInt ≤ (63 : Int)) (r_x3 : (-7 : Int) ≤ x3.toInt ∧ x3.toInt ≤ (7 : Int)) (r_x4 : (-7 : Int) ≤ x4.toInt ∧ x4.toInt ≤ (7 : Int)) (r_x5 : (0 : Int) ≤ x5.toInt ∧ x5.toInt ≤ (7 : Int)) (r_x6 : (0 : Int) ≤ x6.toInt ∧ x6.toInt ≤ (7 : Int)) (r_x7 : (0 : Int) ≤ x7.toInt ∧ x7.toInt ≤ (7 : Int)) (r_t0 : (0 : Int) ≤ t0.toInt ∧ t0.toInt ≤ (7 : Int)) (q0 : 0 ≤ x1.toInt % 8 + x3.toInt ∧ x1.toInt % 8 + x3.toInt ≤ 7 ∧ 0 ≤ x1.toInt / 8 + x4.toInt ∧ x1.toInt / 8 + x4.toInt ≤ 7) (q1 : x3.toInt ≤ t0.toInt ∧ -x3.toInt ≤ t0.toInt ∧ x4.toInt ≤ t0.toInt ∧ -x4.toInt ≤ t0.toInt ∧ (t0.toInt = x3.toInt ∨ t0.toInt = -x3.toInt ∨ t0.toInt = x4.toInt ∨ t0.toInt = -x4.toInt)) (q2 : (x6.toInt = x3.toInt ∨ x6.toInt = -x3.toInt) ∧ (x7.toInt = x4.toInt ∨ x7.toInt = -x4.toInt)) : Ok (f_X0_attacks_136 x0 x1 x3 x4 x5 x6 x7 t0 S) (fun o => o.2 = S ∧ ((0 : Int) ≤ o.1.toInt ∧ o.1.toInt ≤ (1 : Int))) := by
  unfold f_X0_attacks_136
  refine ok_if (fun c57 => ?_) (fun c57 => ?_)
  ·
    replace c57 := ti_eqP (a := x5) (b := (6 : Int32)) c57 rfl (show (6 : Int32).toInt = 6 from rfl)
    refine ok_if (fun c58 => ?_) (fun c58 => ?_)
    ·
      replace c58 := ti_eqP (a := t0) (b := (1 : Int32)) c58 rfl (show (1 : Int32).toInt = 1 from rfl)
      unfold f_X0_attacks_156
      refine ok_chk (by decide) ?_
      exact ok_ret ⟨rfl, (show (0 : Int) ≤ (1 : Int32).toInt ∧ (1 : Int32).toInt ≤ (1 : Int) from (by decide))⟩
    ·
      replace c58 := ti_eqN (a := t0) (b := (1 : Int32)) c58 rfl (show (1 : Int32).toInt = 1 from rfl)
      unfold f_X0_attacks_156
      refine ok_chk (by decide) ?_
      exact ok_ret ⟨rfl, (show (0 : Int) ≤ (0 : Int32).toInt ∧ (0 : Int32).toInt ≤ (1 : Int) from (by decide))⟩
  ·
    replace c57 := ti_eqN (a := x5) (b := (6 : Int32)) c57 rfl (show (6 : Int32).toInt = 6 from rfl)
    refine ok_if (fun c59 => ?_) (fun c59 => ?_)
    ·
      replace c59 := ti_eqP (a := x6) (b := (0 : Int32)) c59 rfl (show (0 : Int32).toInt = 0 from rfl)
      unfold f_X0_attacks_167
      exact t_f_X0_attacks_172 (S := S)  (x0 := x0) (x1 := x1) (x3 := x3) (x4 := x4) (x5 := x5) (x6 := x6) (x7 := x7) (x8 := t0) (t0 := (1 : Int32)) hT r_x0 r_x1 r_x3 r_x4 r_x5 r_x6 r_x7 r_t0 (by decide) q0 q1 q2 (by have z0 : (1 : Int32).toInt = 1 := rfl; omega)
    ·
      replace c59 := ti_eqN (a := x6) (b := (0 : Int32)) c59 rfl (show (0 : Int32).toInt = 0 from rfl)
      refine ok_if (fun c60 => ?_) (fun c60 => ?_)
      ·
        replace c60 := ti_eqP (a := x7) (b := (0 : Int32)) c60 rfl (show (0 : Int32).toInt = 0 from rfl)
        unfold f_X0_attacks_167
        exact t_f_X0_attacks_172 (S := S)  (x0 := x0) (x1 := x1) (x3 := x3) (x4 := x4) (x5 := x5) (x6 := x6) (x7 := x7) (x8 := t0) (t0 := (1 : Int32)) hT r_x0 r_x1 r_x3 r_x4 r_x5 r_x6 r_x7 r_t0 (by decide) q0 q1 q2 (by have z0 : (1 : Int32).toInt = 1 := rfl; omega)
      ·
        replace c60 := ti_eqN (a := x7) (b := (0 : Int32)) c60 rfl (show (0 : Int32).toInt = 0 from rfl)
        exact t_f_X0_attacks_172 (S := S)  (x0 := x0) (x1 := x1) (x3 := x3) (x4 := x4) (x5 := x5) (x6 := x6) (x7 := x7) (x8 := t0) (t0 := (0 : Int32)) hT r_x0 r_x1 r_x3 r_x4 r_x5 r_x6 r_x7 r_t0 (by decide) q0 q1 q2 (by have z0 : (0 : Int32).toInt = 0 := rfl; omega)
theorem t_f_X0_attacks_120 {S : ZS} {x0 : Nat} {x1 : Int32} {x3 : Int32} {x4 : Int32} {x5 : Int32} {x6 : Int32} {t0 : Int32} (hT : ZT S) (r_x0 : zK S x0 = 0) (r_x1 : (0 : Int) ≤ x1.toInt ∧ x1.toInt ≤ (63 : Int)) (r_x3 : (-7 : Int) ≤ x3.toInt ∧ x3.toInt ≤ (7 : Int)) (r_x4 : (-7 : Int) ≤ x4.toInt ∧ x4.toInt ≤ (7 : Int)) (r_x5 : (0 : Int) ≤ x5.toInt ∧ x5.toInt ≤ (7 : Int)) (r_x6 : (0 : Int) ≤ x6.toInt ∧ x6.toInt ≤ (7 : Int)) (r_t0 : (0 : Int) ≤ t0.toInt ∧ t0.toInt ≤ (7 : Int)) (q0 : 0 ≤ x1.toInt % 8 + x3.toInt ∧ x1.toInt % 8 + x3.toInt ≤ 7 ∧ 0 ≤ x1.toInt / 8 + x4.toInt ∧ x1.toInt / 8 + x4.toInt ≤ 7) (q1 : (x6.toInt = x3.toInt ∨ x6.toInt = -x3.toInt) ∧ (t0.toInt = x4.toInt ∨ t0.toInt = -x4.toInt)) : Ok (f_X0_attacks_120 x0 x1 x3 x4 x5 x6 t0 S) (fun o => o.2 = S ∧ ((0 : Int) ≤ o.1.toInt ∧ o.1.toInt ≤ (1 : Int))) := by
  unfold f_X0_attacks_120
  refine ok_if (fun c61 => ?_) (fun c61 => ?_)
  ·
    replace c61 := ti_leP (a := x6) (b := t0) c61 rfl rfl
    exact t_f_X0_attacks_136 (S := S)  (x0 := x0) (x1 := x1) (x3 := x3) (x4 := x4) (x5 := x5) (x6 := x6) (x7 := t0) (t0 := t0) hT r_x0 r_x1 r_x3 r_x4 r_x5 r_x6 r_t0 r_t0 q0 (by omega) q1
  ·
    replace c61 := ti_leN (a := x6) (b := t0) c61 rfl rfl
    exact t_f_X0_attacks_136 (S := S)  (x0 := x0) (x1 := x1) (x3 := x3) (x4 := x4) (x5 := x5) (x6 := x6) (x7 := t0) (t0 := x6) hT r_x0 r_x1 r_x3 r_x4 r_x5 r_x6 r_t0 r_x6 q0 (by omega) q1
theorem t_f_X0_attacks_105 {S : ZS} {x0 : Nat} {x1 : Int32} {x3 : Int32} {x4 : Int32} {x5 : Int32} {t0 : Int32} (hT : ZT S) (r_x0 : zK S x0 = 0) (r_x1 : (0 : Int) ≤ x1.toInt ∧ x1.toInt ≤ (63 : Int)) (r_x3 : (-7 : Int) ≤ x3.toInt ∧ x3.toInt ≤ (7 : Int)) (r_x4 : (-7 : Int) ≤ x4.toInt ∧ x4.toInt ≤ (7 : Int)) (r_x5 : (0 : Int) ≤ x5.toInt ∧ x5.toInt ≤ (7 : Int)) (r_t0 : (0 : Int) ≤ t0.toInt ∧ t0.toInt ≤ (7 : Int)) (q0 : 0 ≤ x1.toInt % 8 + x3.toInt ∧ x1.toInt % 8 + x3.toInt ≤ 7 ∧ 0 ≤ x1.toInt / 8 + x4.toInt ∧ x1.toInt / 8 + x4.toInt ≤ 7) (q1 : t0.toInt = x3.toInt ∨ t0.toInt = -x3.toInt) : Ok (f_X0_attacks_105 x0 x1 x3 x4 x5 t0 S) (fun o => o.2 = S ∧ ((0 : Int) ≤ o.1.toInt ∧ o.1.toInt ≤ (1 : Int))) := by
  unfold f_X0_attacks_105
  refine ok_if (fun c62 => ?_) (fun c62 => ?_)
  ·
    replace c62 := ti_leP (a := (0 : Int32)) (b := x4) c62 (show (0 : Int32).toInt = 0 from rfl) rfl
    exact t_f_X0_attacks_120 (S := S)  (x0 := x0) (x1 := x1) (x3 := x3) (x4 := x4) (x5 := x5) (x6 := t0) (t0 := x4) hT r_x0 r_x1 r_x3 r_x4 r_x5 r_t0 (by omega) q0 (by omega)
  ·
    replace c62 := ti_leN (a := (0 : Int32)) (b := x4) c62 (show (0 : Int32).toInt = 0 from rfl) rfl
    refine ok_bnd (fun v1 e63 => ?_)
    have t_v1 : v1.toInt = -x4.toInt := ti_neg e63 rfl (by omega)
    exact t_f_X0_attacks_120 (S := S)  (x0 := x0) (x1 := x1) (x3 := x3) (x4 := x4) (x5 := x5) (x6 := t0) (t0 := v1) hT r_x0 r_x1 r_x3 r_x4 r_x5 r_t0 (by omega) q0 (by omega)
theorem t_f_X0_attacks_54 {S : ZS} {x3 : Int32} {t0 : Int32} {t1 : Int32} (hT : ZT S) (r_x3 : (-7 : Int) ≤ x3.toInt ∧ x3.toInt ≤ (7 : Int)) (r_t0 : (-1 : Int) ≤ t0.toInt ∧ t0.toInt ≤ (1 : Int)) : Ok (f_X0_attacks_54 x3 t0 t1 S) (fun o => o.2 = S ∧ ((0 : Int) ≤ o.1.toInt ∧ o.1.toInt ≤ (1 : Int))) := by
  unfold f_X0_attacks_54
  refine ok_if (fun c64 => ?_) (fun c64 => ?_)
  ·
    replace c64 := ti_eqP (a := t1) (b := t0) c64 rfl rfl
    refine ok_bnd (fun v1 e65 => ?_)
    have t_v1 := ti_sq e65 (by omega) (by omega)
    refine ok_if (fun c66 => ?_) (fun c66 => ?_)
    ·
      replace c66 := ti_eqP (a := v1) (b := (1 : Int32)) c66 rfl (show (1 : Int32).toInt = 1 from rfl)
      unfold f_X0_attacks_69
      refine ok_chk (by decide) ?_
      exact ok_ret ⟨rfl, (show (0 : Int) ≤ (1 : Int32).toInt ∧ (1 : Int32).toInt ≤ (1 : Int) from (by decide))⟩
    ·
      replace c66 := ti_eqN (a := v1) (b := (1 : Int32)) c66 rfl (show (1 : Int32).toInt = 1 from rfl)
      unfold f_X0_attacks_68
      unfold f_X0_attacks_69
      refine ok_chk (by decide) ?_
      exact ok_ret ⟨rfl, (show (0 : Int) ≤ (0 : Int32).toInt ∧ (0 : Int32).toInt ≤ (1 : Int) from (by decide))⟩
  ·
    replace c64 := ti_eqN (a := t1) (b := t0) c64 rfl rfl
    unfold f_X0_attacks_68
    unfold f_X0_attacks_69
    refine ok_chk (by decide) ?_
    exact ok_ret ⟨rfl, (show (0 : Int) ≤ (0 : Int32).toInt ∧ (0 : Int32).toInt ≤ (1 : Int) from (by decide))⟩
theorem t_f_X0_attacks_0 {S : ZS} {x0 : Nat} {x1 : Int32} {x2 : Int32} (hT : ZT S) (r_x0 : zK S x0 = 0) (r_x1 : (0 : Int) ≤ x1.toInt ∧ x1.toInt ≤ (63 : Int)) (r_x2 : (0 : Int) ≤ x2.toInt ∧ x2.toInt ≤ (63 : Int)) : Ok (f_X0_attacks_0 x0 x1 x2 S) (fun o => o.2 = S ∧ ((0 : Int) ≤ o.1.toInt ∧ o.1.toInt ≤ (1 : Int))) := by
  unfold f_X0_attacks_0
  refine ok_bnd (fun v1 e67 => ?_)
  have t_v1 : v1.toInt = x2.toInt % 8 := b_and7 e67 (by omega)
  refine ok_bnd (fun v2 e68 => ?_)
  have t_v2 : v2.toInt = x1.toInt % 8 := b_and7 e68 (by omega)
  refine ok_bnd (fun v3 e69 => ?_)
  have t_v3 : v3.toInt = v1.toInt - v2.toInt := ti_sub e69 rfl rfl (by omega) (by omega)
  refine ok_bnd (fun v4 e70 => ?_)
  have t_v4 : v4.toInt = x2.toInt / 8 := b_sh3 e70 (by omega)
  refine ok_bnd (fun v5 e71 => ?_)
  have t_v5 : v5.toInt = x1.toInt / 8 := b_sh3 e71 (by omega)
  refine ok_bnd (fun v6 e72 => ?_)
  have t_v6 : v6.toInt = v4.toInt - v5.toInt := ti_sub e72 rfl rfl (by omega) (by omega)
  refine ok_chk r_x0 ?_
  obtain ⟨b7, p_b7, k_b7, n_b7⟩ := T_0_0 hT r_x0
  refine ok_calR p_b7 ?_
  refine ok_chk k_b7 ?_
  refine ok_chk (ti_inN (v := x1) (n := 64) n_b7 (by omega) (by omega)) ?_
  refine ok_bnd (fun v8 e73 => ?_)
  refine ok_bnd (fun v9 e74 => ?_)
  have t_v9 := ti_and e74 (show (7 : Int32).toBitVec.toNat = 7 from rfl) (by decide)
  refine ok_if (fun c75 => ?_) (fun c75 => ?_)
  ·
    replace c75 := ti_eqP (a := v9) (b := (1 : Int32)) c75 rfl (show (1 : Int32).toInt = 1 from rfl)
    refine ok_chk r_x0 ?_
    obtain ⟨b14, p_b14, k_b14, n_b14⟩ := T_0_0 hT r_x0
    refine ok_calR p_b14 ?_
    refine ok_chk k_b14 ?_
    refine ok_chk (ti_inN (v := x1) (n := 64) n_b14 (by omega) (by omega)) ?_
    refine ok_bnd (fun v15 e76 => ?_)
    refine ok_if (fun c77 => ?_) (fun c77 => ?_)
    ·
      replace c77 := ti_leP (a := (8 : Int32)) (b := v15) c77 (show (8 : Int32).toInt = 8 from rfl) rfl
      exact t_f_X0_attacks_54 (S := S)  (x3 := v3) (t0 := (-1 : Int32)) (t1 := v6) hT (by omega) (by decide)
    ·
      replace c77 := ti_leN (a := (8 : Int32)) (b := v15) c77 (show (8 : Int32).toInt = 8 from rfl) rfl
      exact t_f_X0_attacks_54 (S := S)  (x3 := v3) (t0 := (1 : Int32)) (t1 := v6) hT (by omega) (by decide)
  ·
    replace c75 := ti_eqN (a := v9) (b := (1 : Int32)) c75 rfl (show (1 : Int32).toInt = 1 from rfl)
    refine ok_if (fun c78 => ?_) (fun c78 => ?_)
    ·
      replace c78 := ti_eqP (a := v9) (b := (2 : Int32)) c78 rfl (show (2 : Int32).toInt = 2 from rfl)
      refine ok_bnd (fun v11 e79 => ?_)
      have t_v11 := ti_sq e79 (by omega) (by omega)
      refine ok_bnd (fun v12 e80 => ?_)
      have t_v12 := ti_sq e80 (by omega) (by omega)
      refine ok_bnd (fun v13 e81 => ?_)
      have t_v13 : v13.toInt = v11.toInt + v12.toInt := ti_add e81 rfl rfl (by omega) (by omega)
      refine ok_if (fun c82 => ?_) (fun c82 => ?_)
      ·
        replace c82 := ti_eqP (a := v13) (b := (5 : Int32)) c82 rfl (show (5 : Int32).toInt = 5 from rfl)
        unfold f_X0_attacks_94
        refine ok_chk (by decide) ?_
        exact ok_ret ⟨rfl, (show (0 : Int) ≤ (1 : Int32).toInt ∧ (1 : Int32).toInt ≤ (1 : Int) from (by decide))⟩
      ·
        replace c82 := ti_eqN (a := v13) (b := (5 : Int32)) c82 rfl (show (5 : Int32).toInt = 5 from rfl)
        unfold f_X0_attacks_94
        refine ok_chk (by decide) ?_
        exact ok_ret ⟨rfl, (show (0 : Int) ≤ (0 : Int32).toInt ∧ (0 : Int32).toInt ≤ (1 : Int) from (by decide))⟩
    ·
      replace c78 := ti_eqN (a := v9) (b := (2 : Int32)) c78 rfl (show (2 : Int32).toInt = 2 from rfl)
      refine ok_if (fun c83 => ?_) (fun c83 => ?_)
      ·
        replace c83 := ti_leP (a := (0 : Int32)) (b := v3) c83 (show (0 : Int32).toInt = 0 from rfl) rfl
        exact t_f_X0_attacks_105 (S := S)  (x0 := x0) (x1 := x1) (x3 := v3) (x4 := v6) (x5 := v9) (t0 := v3) hT r_x0 r_x1 (by omega) (by omega) (by omega) (by omega) (by omega) (by omega)
      ·
        replace c83 := ti_leN (a := (0 : Int32)) (b := v3) c83 (show (0 : Int32).toInt = 0 from rfl) rfl
        refine ok_bnd (fun v10 e84 => ?_)
        have t_v10 : v10.toInt = -v3.toInt := ti_neg e84 rfl (by omega)
        exact t_f_X0_attacks_105 (S := S)  (x0 := x0) (x1 := x1) (x3 := v3) (x4 := v6) (x5 := v9) (t0 := v10) hT r_x0 r_x1 (by omega) (by omega) (by omega) (by omega) (by omega) (by omega)
theorem t_f_X0_attacks {S : ZS} {x0 : Nat} {x1 : Int32} {x2 : Int32} (hT : ZT S) (r_x0 : zK S x0 = 0) (r_x1 : (0 : Int) ≤ x1.toInt ∧ x1.toInt ≤ (63 : Int)) (r_x2 : (0 : Int) ≤ x2.toInt ∧ x2.toInt ≤ (63 : Int)) : Ok (f_X0_attacks x0 x1 x2 S) (fun o => o.2 = S ∧ ((0 : Int) ≤ o.1.toInt ∧ o.1.toInt ≤ (1 : Int))) := t_f_X0_attacks_0 hT r_x0 r_x1 r_x2
theorem t_f_X0_attacked_2s {S : ZS} {self2 : Nat → Int32 → Int32 → Int32 → ZS → Option (Int32 × ZS)} {N2 : Nat} (hself2 : ∀ (x0 : Nat) (x1 : Int32) (x2 : Int32) (x3 : Int32),  (zK S x0 = 0) → ((0 : Int) ≤ x1.toInt ∧ x1.toInt ≤ (63 : Int)) → ((0 : Int) ≤ x3.toInt ∧ x3.toInt ≤ (64 : Int)) → (65 - x3.toInt) < (N2 : Int) → Ok (self2 x0 x1 x2 x3 S) (fun o => o.2 = S ∧ ((0 : Int) ≤ o.1.toInt ∧ o.1.toInt ≤ (1 : Int)))) {x0 : Nat} {x1 : Int32} {x2 : Int32} {x3 : Int32} (hT : ZT S) (r_x0 : zK S x0 = 0) (r_x1 : (0 : Int) ≤ x1.toInt ∧ x1.toInt ≤ (63 : Int)) (r_x3 : (0 : Int) ≤ x3.toInt ∧ x3.toInt ≤ (64 : Int)) (m2 : (65 - x3.toInt) ≤ (N2 : Int)) : Ok (f_X0_attacked_2s self2 x0 x1 x2 x3 S) (fun o => o.2 = S ∧ ((0 : Int) ≤ o.1.toInt ∧ o.1.toInt ≤ (1 : Int))) := by
  unfold f_X0_attacked_2s
  refine ok_if (fun c85 => ?_) (fun c85 => ?_)
  ·
    replace c85 := ti_leP (a := (64 : Int32)) (b := x3) c85 (show (64 : Int32).toInt = 64 from rfl) rfl
    refine ok_chk (by decide) ?_
    exact ok_ret ⟨rfl, (show (0 : Int) ≤ (0 : Int32).toInt ∧ (0 : Int32).toInt ≤ (1 : Int) from (by decide))⟩
  ·
    replace c85 := ti_leN (a := (64 : Int32)) (b := x3) c85 (show (64 : Int32).toInt = 64 from rfl) rfl
    refine ok_chk r_x0 ?_
    obtain ⟨b1, p_b1, k_b1, n_b1⟩ := T_0_0 hT r_x0
    refine ok_calR p_b1 ?_
    refine ok_chk k_b1 ?_
    refine ok_chk (ti_inN (v := x3) (n := 64) n_b1 (by omega) (by omega)) ?_
    refine ok_bnd (fun v2 e86 => ?_)
    refine ok_if (fun c87 => ?_) (fun c87 => ?_)
    ·
      replace c87 := ti_eqP (a := v2) (b := (0 : Int32)) c87 rfl (show (0 : Int32).toInt = 0 from rfl)
      unfold f_X0_attacked_40
      refine ok_bnd (fun v1 e88 => ?_)
      have t_v1 : v1.toInt = x3.toInt + 1 := ti_add e88 rfl (show (1 : Int32).toInt = 1 from rfl) (by omega) (by omega)
      exact hself2 x0 x1 x2 v1  r_x0 r_x1 (by omega) (by omega)
    ·
      replace c87 := ti_eqN (a := v2) (b := (0 : Int32)) c87 rfl (show (0 : Int32).toInt = 0 from rfl)
      refine ok_chk r_x0 ?_
      obtain ⟨b3, p_b3, k_b3, n_b3⟩ := T_0_0 hT r_x0
      refine ok_calR p_b3 ?_
      refine ok_chk k_b3 ?_
      refine ok_chk (ti_inN (v := x3) (n := 64) n_b3 (by omega) (by omega)) ?_
      refine ok_bnd (fun v4 e89 => ?_)
      refine ok_bnd (fun v5 e90 => ?_)
      refine ok_if (fun c91 => ?_) (fun c91 => ?_)
      ·
        replace c91 := ti_eqP (a := v5) (b := x2) c91 rfl rfl
        refine ok_chk r_x0 ?_
        obtain ⟨r6, h_r6, p_r6⟩ := roz (t_f_X0_attacks (x0 := x0) (x1 := x3) (x2 := x1) hT r_x0 (by omega) r_x1)
        dsimp only at p_r6
        refine ok_calR h_r6 ?_
        refine ok_if (fun c92 => ?_) (fun c92 => ?_)
        ·
          replace c92 := ti_eqP (a := r6) (b := (0 : Int32)) c92 rfl (show (0 : Int32).toInt = 0 from rfl)
          unfold f_X0_attacked_40
          refine ok_bnd (fun v1 e93 => ?_)
          have t_v1 : v1.toInt = x3.toInt + 1 := ti_add e93 rfl (show (1 : Int32).toInt = 1 from rfl) (by omega) (by omega)
          exact hself2 x0 x1 x2 v1  r_x0 r_x1 (by omega) (by omega)
        ·
          replace c92 := ti_eqN (a := r6) (b := (0 : Int32)) c92 rfl (show (0 : Int32).toInt = 0 from rfl)
          refine ok_chk (by decide) ?_
          exact ok_ret ⟨rfl, (show (0 : Int) ≤ (1 : Int32).toInt ∧ (1 : Int32).toInt ≤ (1 : Int) from (by decide))⟩
      ·
        replace c91 := ti_eqN (a := v5) (b := x2) c91 rfl rfl
        unfold f_X0_attacked_40
        refine ok_bnd (fun v1 e94 => ?_)
        have t_v1 : v1.toInt = x3.toInt + 1 := ti_add e94 rfl (show (1 : Int32).toInt = 1 from rfl) (by omega) (by omega)
        exact hself2 x0 x1 x2 v1  r_x0 r_x1 (by omega) (by omega)
theorem t_f_X0_attacked_2 {S : ZS} (hT : ZT S) : ∀ (n : Nat) (x0 : Nat) (x1 : Int32) (x2 : Int32) (x3 : Int32),  (zK S x0 = 0) → ((0 : Int) ≤ x1.toInt ∧ x1.toInt ≤ (63 : Int)) → ((0 : Int) ≤ x3.toInt ∧ x3.toInt ≤ (64 : Int)) → (65 - x3.toInt) < (n : Int) → Ok (f_X0_attacked_2  n x0 x1 x2 x3 S) (fun o => o.2 = S ∧ ((0 : Int) ≤ o.1.toInt ∧ o.1.toInt ≤ (1 : Int))) := by
  intro n
  induction n with
  | zero => intro x0 x1 x2 x3 g0 g1 g2  hm; exfalso; omega
  | succ n ih =>
    intro x0 x1 x2 x3 g0 g1 g2  hm
    exact t_f_X0_attacked_2s (N2 := n)  ih hT g0 g1 g2  (by omega)
theorem t_f_X0_attacked_0 {S : ZS} {x0 : Nat} {x1 : Int32} {x2 : Int32} (hT : ZT S) (r_x0 : zK S x0 = 0) (r_x1 : (0 : Int) ≤ x1.toInt ∧ x1.toInt ≤ (63 : Int)) : Ok (f_X0_attacked_0 x0 x1 x2 S) (fun o => o.2 = S ∧ ((0 : Int) ≤ o.1.toInt ∧ o.1.toInt ≤ (1 : Int))) := by
  unfold f_X0_attacked_0
  exact t_f_X0_attacked_2  hT mFuel x0 x1 x2 (0 : Int32)  r_x0 r_x1 (by decide) (by show _ < ((200000 : Nat) : Int); have z0 : (0 : Int32).toInt = 0 := rfl; omega)
theorem t_f_X0_attacked {S : ZS} {x0 : Nat} {x1 : Int32} {x2 : Int32} (hT : ZT S) (r_x0 : zK S x0 = 0) (r_x1 : (0 : Int) ≤ x1.toInt ∧ x1.toInt ≤ (63 : Int)) : Ok (f_X0_attacked x0 x1 x2 S) (fun o => o.2 = S ∧ ((0 : Int) ≤ o.1.toInt ∧ o.1.toInt ≤ (1 : Int))) := t_f_X0_attacked_0 hT r_x0 r_x1
theorem t_f_X0_pawnReaches_62 {S : ZS} {x0 : Nat} {x1 : Int32} {x2 : Int32} {x3 : Int32} {t0 : Int32} {t1 : Int32} (hT : ZT S) (r_x0 : zK S x0 = 0) (r_x1 : (0 : Int) ≤ x1.toInt ∧ x1.toInt ≤ (63 : Int)) (r_x2 : (0 : Int) ≤ x2.toInt ∧ x2.toInt ≤ (63 : Int)) (r_x3 : (-8 : Int) ≤ x3.toInt ∧ x3.toInt ≤ (8 : Int)) (r_t0 : (1 : Int) ≤ t0.toInt ∧ t0.toInt ≤ (6 : Int)) (q0 : x2.toInt = x1.toInt + 2 * x3.toInt) : Ok (f_X0_pawnReaches_62 x0 x1 x2 x3 t0 t1 S) (fun o => o.2 = S ∧ ((0 : Int) ≤ o.1.toInt ∧ o.1.toInt ≤ (1 : Int))) := by
  unfold f_X0_pawnReaches_62
  refine ok_if (fun c95 => ?_) (fun c95 => ?_)
  ·
    replace c95 := ti_eqP (a := t1) (b := t0) c95 rfl rfl
    refine ok_chk r_x0 ?_
    obtain ⟨b1, p_b1, k_b1, n_b1⟩ := T_0_0 hT r_x0
    refine ok_calR p_b1 ?_
    refine ok_bnd (fun v2 e96 => ?_)
    have t_v2 : v2.toInt = x1.toInt + x3.toInt := ti_add e96 rfl rfl (by omega) (by omega)
    refine ok_chk k_b1 ?_
    refine ok_chk (ti_inN (v := v2) (n := 64) n_b1 (by omega) (by omega)) ?_
    refine ok_bnd (fun v3 e97 => ?_)
    refine ok_if (fun c98 => ?_) (fun c98 => ?_)
    ·
      replace c98 := ti_eqP (a := v3) (b := (0 : Int32)) c98 rfl (show (0 : Int32).toInt = 0 from rfl)
      refine ok_chk r_x0 ?_
      obtain ⟨b4, p_b4, k_b4, n_b4⟩ := T_0_0 hT r_x0
      refine ok_calR p_b4 ?_
      refine ok_chk k_b4 ?_
      refine ok_chk (ti_inN (v := x2) (n := 64) n_b4 (by omega) (by omega)) ?_
      refine ok_bnd (fun v5 e99 => ?_)
      refine ok_if (fun c100 => ?_) (fun c100 => ?_)
      ·
        replace c100 := ti_eqP (a := v5) (b := (0 : Int32)) c100 rfl (show (0 : Int32).toInt = 0 from rfl)
        unfold f_X0_pawnReaches_90
        refine ok_chk (by decide) ?_
        exact ok_ret ⟨rfl, (show (0 : Int) ≤ (1 : Int32).toInt ∧ (1 : Int32).toInt ≤ (1 : Int) from (by decide))⟩
      ·
        replace c100 := ti_eqN (a := v5) (b := (0 : Int32)) c100 rfl (show (0 : Int32).toInt = 0 from rfl)
        unfold f_X0_pawnReaches_89
        unfold f_X0_pawnReaches_90
        refine ok_chk (by decide) ?_
        exact ok_ret ⟨rfl, (show (0 : Int) ≤ (0 : Int32).toInt ∧ (0 : Int32).toInt ≤ (1 : Int) from (by decide))⟩
    ·
      replace c98 := ti_eqN (a := v3) (b := (0 : Int32)) c98 rfl (show (0 : Int32).toInt = 0 from rfl)
      unfold f_X0_pawnReaches_89
      unfold f_X0_pawnReaches_90
      refine ok_chk (by decide) ?_
      exact ok_ret ⟨rfl, (show (0 : Int) ≤ (0 : Int32).toInt ∧ (0 : Int32).toInt ≤ (1 : Int) from (by decide))⟩
  ·
    replace c95 := ti_eqN (a := t1) (b := t0) c95 rfl rfl
    unfold f_X0_pawnReaches_89
    unfold f_X0_pawnReaches_90
    refine ok_chk (by decide) ?_
    exact ok_ret ⟨rfl, (show (0 : Int) ≤ (0 : Int32).toInt ∧ (0 : Int32).toInt ≤ (1 : Int) from (by decide))⟩
theorem t_f_X0_pawnReaches_14 {S : ZS} {x0 : Nat} {x1 : Int32} {x2 : Int32} {t0 : Int32} (hT : ZT S) (r_x0 : zK S x0 = 0) (r_x1 : (0 : Int) ≤ x1.toInt ∧ x1.toInt ≤ (63 : Int)) (r_x2 : (0 : Int) ≤ x2.toInt ∧ x2.toInt ≤ (63 : Int)) (r_t0 : (-8 : Int) ≤ t0.toInt ∧ t0.toInt ≤ (8 : Int)) : Ok (f_X0_pawnReaches_14 x0 x1 x2 t0 S) (fun o => o.2 = S ∧ ((0 : Int) ≤ o.1.toInt ∧ o.1.toInt ≤ (1 : Int))) := by
  unfold f_X0_pawnReaches_14
  refine ok_bnd (fun v1 e101 => ?_)
  have t_v1 : v1.toInt = x1.toInt + t0.toInt := ti_add e101 rfl rfl (by omega) (by omega)
  refine ok_if (fun c102 => ?_) (fun c102 => ?_)
  ·
    replace c102 := ti_eqP (a := x2) (b := v1) c102 rfl rfl
    refine ok_chk r_x0 ?_
    obtain ⟨b8, p_b8, k_b8, n_b8⟩ := T_0_0 hT r_x0
    refine ok_calR p_b8 ?_
    refine ok_chk k_b8 ?_
    refine ok_chk (ti_inN (v := x2) (n := 64) n_b8 (by omega) (by omega)) ?_
    refine ok_bnd (fun v9 e103 => ?_)
    refine ok_if (fun c104 => ?_) (fun c104 => ?_)
    ·
      replace c104 := ti_eqP (a := v9) (b := (0 : Int32)) c104 rfl (show (0 : Int32).toInt = 0 from rfl)
      unfold f_X0_pawnReaches_36
      refine ok_chk (by decide) ?_
      exact ok_ret ⟨rfl, (show (0 : Int) ≤ (1 : Int32).toInt ∧ (1 : Int32).toInt ≤ (1 : Int) from (by decide))⟩
    ·
      replace c104 := ti_eqN (a := v9) (b := (0 : Int32)) c104 rfl (show (0 : Int32).toInt = 0 from rfl)
      unfold f_X0_pawnReaches_36
      refine ok_chk (by decide) ?_
      exact ok_ret ⟨rfl, (show (0 : Int) ≤ (0 : Int32).toInt ∧ (0 : Int32).toInt ≤ (1 : Int) from (by decide))⟩
  ·
    replace c102 := ti_eqN (a := x2) (b := v1) c102 rfl rfl
    refine ok_bnd (fun v2 e105 => ?_)
    have t_v2 : v2.toInt = 2 * t0.toInt := ti_mul e105 (show (2 : Int32).toInt = 2 from rfl) rfl (by omega) (by omega)
    refine ok_bnd (fun v3 e106 => ?_)
    have t_v3 : v3.toInt = x1.toInt + v2.toInt := ti_add e106 rfl rfl (by omega) (by omega)
    refine ok_if (fun c107 => ?_) (fun c107 => ?_)
    ·
      replace c107 := ti_eqP (a := x2) (b := v3) c107 rfl rfl
      refine ok_bnd (fun v7 e108 => ?_)
      have t_v7 : v7.toInt = x1.toInt / 8 := b_sh3 e108 (by omega)
      refine ok_chk r_x0 ?_
      have j109 := J_0_3 hT r_x0
      refine ok_if (fun c110 => ?_) (fun c110 => ?_)
      ·
        replace c110 := ti_eqP (a := (zI S 3 x0)) (b := (0 : Int32)) c110 rfl (show (0 : Int32).toInt = 0 from rfl)
        exact t_f_X0_pawnReaches_62 (S := S)  (x0 := x0) (x1 := x1) (x2 := x2) (x3 := t0) (t0 := (1 : Int32)) (t1 := v7) hT r_x0 r_x1 r_x2 r_t0 (by decide) (by have z0 : (1 : Int32).toInt = 1 := rfl; omega)
      ·
        replace c110 := ti_eqN (a := (zI S 3 x0)) (b := (0 : Int32)) c110 rfl (show (0 : Int32).toInt = 0 from rfl)
        exact t_f_X0_pawnReaches_62 (S := S)  (x0 := x0) (x1 := x1) (x2 := x2) (x3 := t0) (t0 := (6 : Int32)) (t1 := v7) hT r_x0 r_x1 r_x2 r_t0 (by decide) (by have z0 : (6 : Int32).toInt = 6 := rfl; omega)
    ·
      replace c107 := ti_eqN (a := x2) (b := v3) c107 rfl rfl
      refine ok_chk r_x0 ?_
      obtain ⟨r4, h_r4, p_r4⟩ := roz (t_f_X0_attacks (x0 := x0) (x1 := x1) (x2 := x2) hT r_x0 r_x1 r_x2)
      dsimp only at p_r4
      refine ok_calR h_r4 ?_
      refine ok_if (fun c111 => ?_) (fun c111 => ?_)
      ·
        replace c111 := ti_eqP (a := r4) (b := (0 : Int32)) c111 rfl (show (0 : Int32).toInt = 0 from rfl)
        unfold f_X0_pawnReaches_121
        unfold f_X0_pawnReaches_122
        refine ok_chk (by decide) ?_
        exact ok_ret ⟨rfl, (show (0 : Int) ≤ (0 : Int32).toInt ∧ (0 : Int32).toInt ≤ (1 : Int) from (by decide))⟩
      ·
        replace c111 := ti_eqN (a := r4) (b := (0 : Int32)) c111 rfl (show (0 : Int32).toInt = 0 from rfl)
        refine ok_chk r_x0 ?_
        obtain ⟨b5, p_b5, k_b5, n_b5⟩ := T_0_0 hT r_x0
        refine ok_calR p_b5 ?_
        refine ok_chk k_b5 ?_
        refine ok_chk (ti_inN (v := x2) (n := 64) n_b5 (by omega) (by omega)) ?_
        refine ok_bnd (fun v6 e112 => ?_)
        refine ok_if (fun c113 => ?_) (fun c113 => ?_)
        ·
          replace c113 := ti_eqP (a := v6) (b := (0 : Int32)) c113 rfl (show (0 : Int32).toInt = 0 from rfl)
          refine ok_chk r_x0 ?_
          have j114 := J_0_5 hT r_x0
          refine ok_if (fun c115 => ?_) (fun c115 => ?_)
          ·
            replace c115 := ti_eqP (a := x2) (b := (zI S 5 x0)) c115 rfl rfl
            unfold f_X0_pawnReaches_117
            unfold f_X0_pawnReaches_122
            refine ok_chk (by decide) ?_
            exact ok_ret ⟨rfl, (show (0 : Int) ≤ (1 : Int32).toInt ∧ (1 : Int32).toInt ≤ (1 : Int) from (by decide))⟩
          ·
            replace c115 := ti_eqN (a := x2) (b := (zI S 5 x0)) c115 rfl rfl
            unfold f_X0_pawnReaches_121
            unfold f_X0_pawnReaches_122
            refine ok_chk (by decide) ?_
            exact ok_ret ⟨rfl, (show (0 : Int) ≤ (0 : Int32).toInt ∧ (0 : Int32).toInt ≤ (1 : Int) from (by decide))⟩
        ·
          replace c113 := ti_eqN (a := v6) (b := (0 : Int32)) c113 rfl (show (0 : Int32).toInt = 0 from rfl)
          unfold f_X0_pawnReaches_117
          unfold f_X0_pawnReaches_122
          refine ok_chk (by decide) ?_
          exact ok_ret ⟨rfl, (show (0 : Int) ≤ (1 : Int32).toInt ∧ (1 : Int32).toInt ≤ (1 : Int) from (by decide))⟩
theorem t_f_X0_pawnReaches_0 {S : ZS} {x0 : Nat} {x1 : Int32} {x2 : Int32} (hT : ZT S) (r_x0 : zK S x0 = 0) (r_x1 : (0 : Int) ≤ x1.toInt ∧ x1.toInt ≤ (63 : Int)) (r_x2 : (0 : Int) ≤ x2.toInt ∧ x2.toInt ≤ (63 : Int)) : Ok (f_X0_pawnReaches_0 x0 x1 x2 S) (fun o => o.2 = S ∧ ((0 : Int) ≤ o.1.toInt ∧ o.1.toInt ≤ (1 : Int))) := by
  unfold f_X0_pawnReaches_0
  refine ok_chk r_x0 ?_
  have j116 := J_0_3 hT r_x0
  refine ok_if (fun c117 => ?_) (fun c117 => ?_)
  ·
    replace c117 := ti_eqP (a := (zI S 3 x0)) (b := (0 : Int32)) c117 rfl (show (0 : Int32).toInt = 0 from rfl)
    exact t_f_X0_pawnReaches_14 (S := S)  (x0 := x0) (x1 := x1) (x2 := x2) (t0 := (8 : Int32)) hT r_x0 r_x1 r_x2 (by decide)
  ·
    replace c117 := ti_eqN (a := (zI S 3 x0)) (b := (0 : Int32)) c117 rfl (show (0 : Int32).toInt = 0 from rfl)
    exact t_f_X0_pawnReaches_14 (S := S)  (x0 := x0) (x1 := x1) (x2 := x2) (t0 := (-8 : Int32)) hT r_x0 r_x1 r_x2 (by decide)
theorem t_f_X0_pawnReaches {S : ZS} {x0 : Nat} {x1 : Int32} {x2 : Int32} (hT : ZT S) (r_x0 : zK S x0 = 0) (r_x1 : (0 : Int) ≤ x1.toInt ∧ x1.toInt ≤ (63 : Int)) (r_x2 : (0 : Int) ≤ x2.toInt ∧ x2.toInt ≤ (63 : Int)) : Ok (f_X0_pawnReaches x0 x1 x2 S) (fun o => o.2 = S ∧ ((0 : Int) ≤ o.1.toInt ∧ o.1.toInt ≤ (1 : Int))) := t_f_X0_pawnReaches_0 hT r_x0 r_x1 r_x2
theorem t_f_X0_castles_0 {S : ZS} {x0 : Nat} {x1 : Int32} {x2 : Int32} (hT : ZT S) (r_x0 : zK S x0 = 0) (r_x1 : (0 : Int) ≤ x1.toInt ∧ x1.toInt ≤ (63 : Int)) (r_x2 : (0 : Int) ≤ x2.toInt ∧ x2.toInt ≤ (63 : Int)) : Ok (f_X0_castles_0 x0 x1 x2 S) (fun o => o.2 = S ∧ ((0 : Int) ≤ o.1.toInt ∧ o.1.toInt ≤ (1 : Int)) ∧ ((o.1.toInt = 1 → x2.toInt = x1.toInt + 2 ∨ x2.toInt = x1.toInt - 2))) := by
  unfold f_X0_castles_0
  refine ok_chk r_x0 ?_
  obtain ⟨b1, p_b1, k_b1, n_b1⟩ := T_0_0 hT r_x0
  refine ok_calR p_b1 ?_
  refine ok_chk k_b1 ?_
  refine ok_chk (ti_inN (v := x1) (n := 64) n_b1 (by omega) (by omega)) ?_
  refine ok_bnd (fun v2 e118 => ?_)
  refine ok_bnd (fun v3 e119 => ?_)
  have t_v3 := ti_and e119 (show (7 : Int32).toBitVec.toNat = 7 from rfl) (by decide)
  refine ok_if (fun c120 => ?_) (fun c120 => ?_)
  ·
    replace c120 := ti_eqP (a := v3) (b := (6 : Int32)) c120 rfl (show (6 : Int32).toInt = 6 from rfl)
    refine ok_bnd (fun v4 e121 => ?_)
    have t_v4 : v4.toInt = x1.toInt / 8 := b_sh3 e121 (by omega)
    refine ok_bnd (fun v5 e122 => ?_)
    have t_v5 : v5.toInt = x2.toInt / 8 := b_sh3 e122 (by omega)
    refine ok_if (fun c123 => ?_) (fun c123 => ?_)
    ·
      replace c123 := ti_eqP (a := v4) (b := v5) c123 rfl rfl
      refine ok_bnd (fun v6 e124 => ?_)
      have t_v6 : v6.toInt = x1.toInt + 2 := ti_add e124 rfl (show (2 : Int32).toInt = 2 from rfl) (by omega) (by omega)
      refine ok_if (fun c125 => ?_) (fun c125 => ?_)
      ·
        replace c125 := ti_eqP (a := x2) (b := v6) c125 rfl rfl
        unfold f_X0_castles_37
        unfold f_X0_castles_42
        refine ok_chk (by decide) ?_
        exact ok_ret ⟨rfl, (show (0 : Int) ≤ (1 : Int32).toInt ∧ (1 : Int32).toInt ≤ (1 : Int) from (by decide)), (by show ((1 : Int32).toInt = 1 → x2.toInt = x1.toInt + 2 ∨ x2.toInt = x1.toInt - 2); have z : (1 : Int32).toInt = 1 := rfl; omega)⟩
      ·
        replace c125 := ti_eqN (a := x2) (b := v6) c125 rfl rfl
        refine ok_bnd (fun v7 e126 => ?_)
        have t_v7 : v7.toInt = x1.toInt - 2 := ti_sub e126 rfl (show (2 : Int32).toInt = 2 from rfl) (by omega) (by omega)
        refine ok_if (fun c127 => ?_) (fun c127 => ?_)
        ·
          replace c127 := ti_eqP (a := x2) (b := v7) c127 rfl rfl
          unfold f_X0_castles_37
          unfold f_X0_castles_42
          refine ok_chk (by decide) ?_
          exact ok_ret ⟨rfl, (show (0 : Int) ≤ (1 : Int32).toInt ∧ (1 : Int32).toInt ≤ (1 : Int) from (by decide)), (by show ((1 : Int32).toInt = 1 → x2.toInt = x1.toInt + 2 ∨ x2.toInt = x1.toInt - 2); have z : (1 : Int32).toInt = 1 := rfl; omega)⟩
        ·
          replace c127 := ti_eqN (a := x2) (b := v7) c127 rfl rfl
          unfold f_X0_castles_41
          unfold f_X0_castles_42
          refine ok_chk (by decide) ?_
          exact ok_ret ⟨rfl, (show (0 : Int) ≤ (0 : Int32).toInt ∧ (0 : Int32).toInt ≤ (1 : Int) from (by decide)), (by show ((0 : Int32).toInt = 1 → x2.toInt = x1.toInt + 2 ∨ x2.toInt = x1.toInt - 2); have z : (0 : Int32).toInt = 0 := rfl; omega)⟩
    ·
      replace c123 := ti_eqN (a := v4) (b := v5) c123 rfl rfl
      unfold f_X0_castles_41
      unfold f_X0_castles_42
      refine ok_chk (by decide) ?_
      exact ok_ret ⟨rfl, (show (0 : Int) ≤ (0 : Int32).toInt ∧ (0 : Int32).toInt ≤ (1 : Int) from (by decide)), (by show ((0 : Int32).toInt = 1 → x2.toInt = x1.toInt + 2 ∨ x2.toInt = x1.toInt - 2); have z : (0 : Int32).toInt = 0 := rfl; omega)⟩
  ·
    replace c120 := ti_eqN (a := v3) (b := (6 : Int32)) c120 rfl (show (6 : Int32).toInt = 6 from rfl)
    unfold f_X0_castles_41
    unfold f_X0_castles_42
    refine ok_chk (by decide) ?_
    exact ok_ret ⟨rfl, (show (0 : Int) ≤ (0 : Int32).toInt ∧ (0 : Int32).toInt ≤ (1 : Int) from (by decide)), (by show ((0 : Int32).toInt = 1 → x2.toInt = x1.toInt + 2 ∨ x2.toInt = x1.toInt - 2); have z : (0 : Int32).toInt = 0 := rfl; omega)⟩
theorem t_f_X0_castles {S : ZS} {x0 : Nat} {x1 : Int32} {x2 : Int32} (hT : ZT S) (r_x0 : zK S x0 = 0) (r_x1 : (0 : Int) ≤ x1.toInt ∧ x1.toInt ≤ (63 : Int)) (r_x2 : (0 : Int) ≤ x2.toInt ∧ x2.toInt ≤ (63 : Int)) : Ok (f_X0_castles x0 x1 x2 S) (fun o => o.2 = S ∧ ((0 : Int) ≤ o.1.toInt ∧ o.1.toInt ≤ (1 : Int)) ∧ ((o.1.toInt = 1 → x2.toInt = x1.toInt + 2 ∨ x2.toInt = x1.toInt - 2))) := t_f_X0_castles_0 hT r_x0 r_x1 r_x2
theorem t_f_X0_castlingIsOpen_38 {S : ZS} {x0 : Nat} {x1 : Int32} {x2 : Int32} {x3 : Int32} {t0 : Int32} {t1 : Int32} (hT : ZT S) (r_x0 : zK S x0 = 0) (r_x1 : (0 : Int) ≤ x1.toInt ∧ x1.toInt ≤ (63 : Int)) (r_x2 : (0 : Int) ≤ x2.toInt ∧ x2.toInt ≤ (63 : Int)) (r_t0 : (4 : Int) ≤ t0.toInt ∧ t0.toInt ≤ (60 : Int)) (q0 : x2.toInt = x1.toInt + 2 ∨ x2.toInt = x1.toInt - 2) (q1 : t1.toInt = x1.toInt ∧ (t0.toInt = 4 ∨ t0.toInt = 60)) : Ok (f_X0_castlingIsOpen_38 x0 x1 x2 x3 t0 t1 S) (fun o => o.2 = S ∧ ((0 : Int) ≤ o.1.toInt ∧ o.1.toInt ≤ (1 : Int))) := by
  unfold f_X0_castlingIsOpen_38
  refine ok_if (fun c128 => ?_) (fun c128 => ?_)
  ·
    replace c128 := ti_eqP (a := t1) (b := t0) c128 rfl rfl
    refine ok_chk r_x0 ?_
    refine ok_bnd (fun v1 e129 => ?_)
    refine ok_if (fun c130 => ?_) (fun c130 => ?_)
    ·
      replace c130 := ti_eqP (a := v1) (b := (0 : Int32)) c130 rfl (show (0 : Int32).toInt = 0 from rfl)
      unfold f_X0_castlingIsOpen_50
      refine ok_chk (by decide) ?_
      exact ok_ret ⟨rfl, (show (0 : Int) ≤ (0 : Int32).toInt ∧ (0 : Int32).toInt ≤ (1 : Int) from (by decide))⟩
    ·
      replace c130 := ti_eqN (a := v1) (b := (0 : Int32)) c130 rfl (show (0 : Int32).toInt = 0 from rfl)
      refine ok_if (fun c131 => ?_) (fun c131 => ?_)
      ·
        replace c131 := ti_leP (a := x2) (b := x1) c131 rfl rfl
        refine ok_chk r_x0 ?_
        obtain ⟨b2, p_b2, k_b2, n_b2⟩ := T_0_0 hT r_x0
        refine ok_calR p_b2 ?_
        refine ok_bnd (fun v3 e132 => ?_)
        have t_v3 : v3.toInt = x1.toInt - 1 := ti_sub e132 rfl (show (1 : Int32).toInt = 1 from rfl) (by omega) (by omega)
        refine ok_chk k_b2 ?_
        refine ok_chk (ti_inN (v := v3) (n := 64) n_b2 (by omega) (by omega)) ?_
        refine ok_bnd (fun v4 e133 => ?_)
        refine ok_if (fun c134 => ?_) (fun c134 => ?_)
        ·
          replace c134 := ti_eqP (a := v4) (b := (0 : Int32)) c134 rfl (show (0 : Int32).toInt = 0 from rfl)
          refine ok_chk r_x0 ?_
          obtain ⟨b5, p_b5, k_b5, n_b5⟩ := T_0_0 hT r_x0
          refine ok_calR p_b5 ?_
          refine ok_bnd (fun v6 e135 => ?_)
          have t_v6 : v6.toInt = x1.toInt - 2 := ti_sub e135 rfl (show (2 : Int32).toInt = 2 from rfl) (by omega) (by omega)
          refine ok_chk k_b5 ?_
          refine ok_chk (ti_inN (v := v6) (n := 64) n_b5 (by omega) (by omega)) ?_
          refine ok_bnd (fun v7 e136 => ?_)
          refine ok_if (fun c137 => ?_) (fun c137 => ?_)
          ·
            replace c137 := ti_eqP (a := v7) (b := (0 : Int32)) c137 rfl (show (0 : Int32).toInt = 0 from rfl)
            refine ok_chk r_x0 ?_
            obtain ⟨b8, p_b8, k_b8, n_b8⟩ := T_0_0 hT r_x0
            refine ok_calR p_b8 ?_
            refine ok_bnd (fun v9 e138 => ?_)
            have t_v9 : v9.toInt = x1.toInt - 3 := ti_sub e138 rfl (show (3 : Int32).toInt = 3 from rfl) (by omega) (by omega)
            refine ok_chk k_b8 ?_
            refine ok_chk (ti_inN (v := v9) (n := 64) n_b8 (by omega) (by omega)) ?_
            refine ok_bnd (fun v10 e139 => ?_)
            refine ok_if (fun c140 => ?_) (fun c140 => ?_)
            ·
              replace c140 := ti_eqP (a := v10) (b := (0 : Int32)) c140 rfl (show (0 : Int32).toInt = 0 from rfl)
              unfold f_X0_castlingIsOpen_123
              refine ok_chk (by decide) ?_
              exact ok_ret ⟨rfl, (show (0 : Int) ≤ (1 : Int32).toInt ∧ (1 : Int32).toInt ≤ (1 : Int) from (by decide))⟩
            ·
              replace c140 := ti_eqN (a := v10) (b := (0 : Int32)) c140 rfl (show (0 : Int32).toInt = 0 from rfl)
              unfold f_X0_castlingIsOpen_122
              unfold f_X0_castlingIsOpen_123
              refine ok_chk (by decide) ?_
              exact ok_ret ⟨rfl, (show (0 : Int) ≤ (0 : Int32).toInt ∧ (0 : Int32).toInt ≤ (1 : Int) from (by decide))⟩
          ·
            replace c137 := ti_eqN (a := v7) (b := (0 : Int32)) c137 rfl (show (0 : Int32).toInt = 0 from rfl)
            unfold f_X0_castlingIsOpen_122
            unfold f_X0_castlingIsOpen_123
            refine ok_chk (by decide) ?_
            exact ok_ret ⟨rfl, (show (0 : Int) ≤ (0 : Int32).toInt ∧ (0 : Int32).toInt ≤ (1 : Int) from (by decide))⟩
        ·
          replace c134 := ti_eqN (a := v4) (b := (0 : Int32)) c134 rfl (show (0 : Int32).toInt = 0 from rfl)
          unfold f_X0_castlingIsOpen_122
          unfold f_X0_castlingIsOpen_123
          refine ok_chk (by decide) ?_
          exact ok_ret ⟨rfl, (show (0 : Int) ≤ (0 : Int32).toInt ∧ (0 : Int32).toInt ≤ (1 : Int) from (by decide))⟩
      ·
        replace c131 := ti_leN (a := x2) (b := x1) c131 rfl rfl
        refine ok_chk r_x0 ?_
        obtain ⟨b11, p_b11, k_b11, n_b11⟩ := T_0_0 hT r_x0
        refine ok_calR p_b11 ?_
        refine ok_bnd (fun v12 e141 => ?_)
        have t_v12 : v12.toInt = x1.toInt + 1 := ti_add e141 rfl (show (1 : Int32).toInt = 1 from rfl) (by omega) (by omega)
        refine ok_chk k_b11 ?_
        refine ok_chk (ti_inN (v := v12) (n := 64) n_b11 (by omega) (by omega)) ?_
        refine ok_bnd (fun v13 e142 => ?_)
        refine ok_if (fun c143 => ?_) (fun c143 => ?_)
        ·
          replace c143 := ti_eqP (a := v13) (b := (0 : Int32)) c143 rfl (show (0 : Int32).toInt = 0 from rfl)
          refine ok_chk r_x0 ?_
          obtain ⟨b14, p_b14, k_b14, n_b14⟩ := T_0_0 hT r_x0
          refine ok_calR p_b14 ?_
          refine ok_bnd (fun v15 e144 => ?_)
          have t_v15 : v15.toInt = x1.toInt + 2 := ti_add e144 rfl (show (2 : Int32).toInt = 2 from rfl) (by omega) (by omega)
          refine ok_chk k_b14 ?_
          refine ok_chk (ti_inN (v := v15) (n := 64) n_b14 (by omega) (by omega)) ?_
          refine ok_bnd (fun v16 e145 => ?_)
          refine ok_if (fun c146 => ?_) (fun c146 => ?_)
          ·
            replace c146 := ti_eqP (a := v16) (b := (0 : Int32)) c146 rfl (show (0 : Int32).toInt = 0 from rfl)
            unfold f_X0_castlingIsOpen_84
            refine ok_chk (by decide) ?_
            exact ok_ret ⟨rfl, (show (0 : Int) ≤ (1 : Int32).toInt ∧ (1 : Int32).toInt ≤ (1 : Int) from (by decide))⟩
          ·
            replace c146 := ti_eqN (a := v16) (b := (0 : Int32)) c146 rfl (show (0 : Int32).toInt = 0 from rfl)
            unfold f_X0_castlingIsOpen_83
            unfold f_X0_castlingIsOpen_84
            refine ok_chk (by decide) ?_
            exact ok_ret ⟨rfl, (show (0 : Int) ≤ (0 : Int32).toInt ∧ (0 : Int32).toInt ≤ (1 : Int) from (by decide))⟩
        ·
          replace c143 := ti_eqN (a := v13) (b := (0 : Int32)) c143 rfl (show (0 : Int32).toInt = 0 from rfl)
          unfold f_X0_castlingIsOpen_83
          unfold f_X0_castlingIsOpen_84
          refine ok_chk (by decide) ?_
          exact ok_ret ⟨rfl, (show (0 : Int) ≤ (0 : Int32).toInt ∧ (0 : Int32).toInt ≤ (1 : Int) from (by decide))⟩
  ·
    replace c128 := ti_eqN (a := t1) (b := t0) c128 rfl rfl
    unfold f_X0_castlingIsOpen_50
    refine ok_chk (by decide) ?_
    exact ok_ret ⟨rfl, (show (0 : Int) ≤ (0 : Int32).toInt ∧ (0 : Int32).toInt ≤ (1 : Int) from (by decide))⟩
theorem t_f_X0_castlingIsOpen_22 {S : ZS} {x0 : Nat} {x1 : Int32} {x2 : Int32} {t0 : Int32} {t1 : Int32} (hT : ZT S) (r_x0 : zK S x0 = 0) (r_x1 : (0 : Int) ≤ x1.toInt ∧ x1.toInt ≤ (63 : Int)) (r_x2 : (0 : Int) ≤ x2.toInt ∧ x2.toInt ≤ (63 : Int)) (q0 : x2.toInt = x1.toInt + 2 ∨ x2.toInt = x1.toInt - 2) : Ok (f_X0_castlingIsOpen_22 x0 x1 x2 t0 t1 S) (fun o => o.2 = S ∧ ((0 : Int) ≤ o.1.toInt ∧ o.1.toInt ≤ (1 : Int))) := by
  unfold f_X0_castlingIsOpen_22
  refine ok_bnd (fun v1 e147 => ?_)
  refine ok_chk r_x0 ?_
  have j148 := J_0_3 hT r_x0
  refine ok_if (fun c149 => ?_) (fun c149 => ?_)
  ·
    replace c149 := ti_eqP (a := (zI S 3 x0)) (b := (0 : Int32)) c149 rfl (show (0 : Int32).toInt = 0 from rfl)
    exact t_f_X0_castlingIsOpen_38 (S := S)  (x0 := x0) (x1 := x1) (x2 := x2) (x3 := v1) (t0 := (4 : Int32)) (t1 := x1) hT r_x0 r_x1 r_x2 (by decide) q0 (by have z0 : (4 : Int32).toInt = 4 := rfl; omega)
  ·
    replace c149 := ti_eqN (a := (zI S 3 x0)) (b := (0 : Int32)) c149 rfl (show (0 : Int32).toInt = 0 from rfl)
    exact t_f_X0_castlingIsOpen_38 (S := S)  (x0 := x0) (x1 := x1) (x2 := x2) (x3 := v1) (t0 := (60 : Int32)) (t1 := x1) hT r_x0 r_x1 r_x2 (by decide) q0 (by have z0 : (60 : Int32).toInt = 60 := rfl; omega)
theorem t_f_X0_castlingIsOpen_10 {S : ZS} {x0 : Nat} {x1 : Int32} {x2 : Int32} {t0 : Int32} (hT : ZT S) (r_x0 : zK S x0 = 0) (r_x1 : (0 : Int) ≤ x1.toInt ∧ x1.toInt ≤ (63 : Int)) (r_x2 : (0 : Int) ≤ x2.toInt ∧ x2.toInt ≤ (63 : Int)) (q0 : x2.toInt = x1.toInt + 2 ∨ x2.toInt = x1.toInt - 2) : Ok (f_X0_castlingIsOpen_10 x0 x1 x2 t0 S) (fun o => o.2 = S ∧ ((0 : Int) ≤ o.1.toInt ∧ o.1.toInt ≤ (1 : Int))) := by
  unfold f_X0_castlingIsOpen_10
  refine ok_chk r_x0 ?_
  have j150 := J_0_3 hT r_x0
  refine ok_if (fun c151 => ?_) (fun c151 => ?_)
  ·
    replace c151 := ti_eqP (a := (zI S 3 x0)) (b := (0 : Int32)) c151 rfl (show (0 : Int32).toInt = 0 from rfl)
    exact t_f_X0_castlingIsOpen_22 (S := S)  (x0 := x0) (x1 := x1) (x2 := x2) (t0 := (0 : Int32)) (t1 := t0) hT r_x0 r_x1 r_x2 q0
  ·
    replace c151 := ti_eqN (a := (zI S 3 x0)) (b := (0 : Int32)) c151 rfl (show (0 : Int32).toInt = 0 from rfl)
    exact t_f_X0_castlingIsOpen_22 (S := S)  (x0 := x0) (x1 := x1) (x2 := x2) (t0 := (2 : Int32)) (t1 := t0) hT r_x0 r_x1 r_x2 q0
theorem t_f_X0_castlingIsOpen_0 {S : ZS} {x0 : Nat} {x1 : Int32} {x2 : Int32} (hT : ZT S) (r_x0 : zK S x0 = 0) (r_x1 : (0 : Int) ≤ x1.toInt ∧ x1.toInt ≤ (63 : Int)) (r_x2 : (0 : Int) ≤ x2.toInt ∧ x2.toInt ≤ (63 : Int)) (q0 : x2.toInt = x1.toInt + 2 ∨ x2.toInt = x1.toInt - 2) : Ok (f_X0_castlingIsOpen_0 x0 x1 x2 S) (fun o => o.2 = S ∧ ((0 : Int) ≤ o.1.toInt ∧ o.1.toInt ≤ (1 : Int))) := by
  unfold f_X0_castlingIsOpen_0
  refine ok_if (fun c152 => ?_) (fun c152 => ?_)
  ·
    replace c152 := ti_leP (a := x2) (b := x1) c152 rfl rfl
    exact t_f_X0_castlingIsOpen_10 (S := S)  (x0 := x0) (x1 := x1) (x2 := x2) (t0 := (2 : Int32)) hT r_x0 r_x1 r_x2 q0
  ·
    replace c152 := ti_leN (a := x2) (b := x1) c152 rfl rfl
    exact t_f_X0_castlingIsOpen_10 (S := S)  (x0 := x0) (x1 := x1) (x2 := x2) (t0 := (1 : Int32)) hT r_x0 r_x1 r_x2 q0
theorem t_f_X0_castlingIsOpen {S : ZS} {x0 : Nat} {x1 : Int32} {x2 : Int32} (hT : ZT S) (r_x0 : zK S x0 = 0) (r_x1 : (0 : Int) ≤ x1.toInt ∧ x1.toInt ≤ (63 : Int)) (r_x2 : (0 : Int) ≤ x2.toInt ∧ x2.toInt ≤ (63 : Int)) (q0 : x2.toInt = x1.toInt + 2 ∨ x2.toInt = x1.toInt - 2) : Ok (f_X0_castlingIsOpen x0 x1 x2 S) (fun o => o.2 = S ∧ ((0 : Int) ≤ o.1.toInt ∧ o.1.toInt ≤ (1 : Int))) := t_f_X0_castlingIsOpen_0 hT r_x0 r_x1 r_x2 q0
theorem t_f_X0_reaches_47 {S : ZS} {x0 : Nat} {x1 : Int32} {x2 : Int32} (hT : ZT S) (r_x0 : zK S x0 = 0) (r_x1 : (0 : Int) ≤ x1.toInt ∧ x1.toInt ≤ (63 : Int)) (r_x2 : (0 : Int) ≤ x2.toInt ∧ x2.toInt ≤ (63 : Int)) : Ok (f_X0_reaches_47 x0 x1 x2 S) (fun o => o.2 = S ∧ ((0 : Int) ≤ o.1.toInt ∧ o.1.toInt ≤ (1 : Int))) := by
  unfold f_X0_reaches_47
  refine ok_chk r_x0 ?_
  obtain ⟨r1, h_r1, p_r1⟩ := roz (t_f_X0_kindAt (x0 := x0) (x1 := x1) hT r_x0 r_x1)
  dsimp only at p_r1
  refine ok_calR h_r1 ?_
  refine ok_if (fun c153 => ?_) (fun c153 => ?_)
  ·
    replace c153 := ti_eqP (a := r1) (b := (1 : Int32)) c153 rfl (show (1 : Int32).toInt = 1 from rfl)
    refine ok_chk r_x0 ?_
    obtain ⟨r5, h_r5, p_r5⟩ := roz (t_f_X0_pawnReaches (x0 := x0) (x1 := x1) (x2 := x2) hT r_x0 r_x1 r_x2)
    dsimp only at p_r5
    refine ok_calR h_r5 ?_
    refine ok_chk (nar_b (v := r5) (by omega) (by omega)) ?_
    exact ok_ret ⟨rfl, (show (0 : Int) ≤ r5.toInt ∧ r5.toInt ≤ (1 : Int) from (by omega))⟩
  ·
    replace c153 := ti_eqN (a := r1) (b := (1 : Int32)) c153 rfl (show (1 : Int32).toInt = 1 from rfl)
    refine ok_chk r_x0 ?_
    obtain ⟨r2, h_r2, p_r2⟩ := roz (t_f_X0_attacks (x0 := x0) (x1 := x1) (x2 := x2) hT r_x0 r_x1 r_x2)
    dsimp only at p_r2
    refine ok_calR h_r2 ?_
    refine ok_if (fun c154 => ?_) (fun c154 => ?_)
    ·
      replace c154 := ti_eqP (a := r2) (b := (0 : Int32)) c154 rfl (show (0 : Int32).toInt = 0 from rfl)
      refine ok_chk r_x0 ?_
      obtain ⟨r3, h_r3, p_r3⟩ := roz (t_f_X0_castles (x0 := x0) (x1 := x1) (x2 := x2) hT r_x0 r_x1 r_x2)
      dsimp only at p_r3
      refine ok_calR h_r3 ?_
      refine ok_if (fun c155 => ?_) (fun c155 => ?_)
      ·
        replace c155 := ti_eqP (a := r3) (b := (0 : Int32)) c155 rfl (show (0 : Int32).toInt = 0 from rfl)
        unfold f_X0_reaches_94
        unfold f_X0_reaches_95
        refine ok_chk (by decide) ?_
        exact ok_ret ⟨rfl, (show (0 : Int) ≤ (0 : Int32).toInt ∧ (0 : Int32).toInt ≤ (1 : Int) from (by decide))⟩
      ·
        replace c155 := ti_eqN (a := r3) (b := (0 : Int32)) c155 rfl (show (0 : Int32).toInt = 0 from rfl)
        refine ok_chk r_x0 ?_
        obtain ⟨r4, h_r4, p_r4⟩ := roz (t_f_X0_castlingIsOpen (x0 := x0) (x1 := x1) (x2 := x2) hT r_x0 r_x1 r_x2 (by omega))
        dsimp only at p_r4
        refine ok_calR h_r4 ?_
        refine ok_if (fun c156 => ?_) (fun c156 => ?_)
        ·
          replace c156 := ti_eqP (a := r4) (b := (0 : Int32)) c156 rfl (show (0 : Int32).toInt = 0 from rfl)
          unfold f_X0_reaches_94
          unfold f_X0_reaches_95
          refine ok_chk (by decide) ?_
          exact ok_ret ⟨rfl, (show (0 : Int) ≤ (0 : Int32).toInt ∧ (0 : Int32).toInt ≤ (1 : Int) from (by decide))⟩
        ·
          replace c156 := ti_eqN (a := r4) (b := (0 : Int32)) c156 rfl (show (0 : Int32).toInt = 0 from rfl)
          unfold f_X0_reaches_90
          unfold f_X0_reaches_95
          refine ok_chk (by decide) ?_
          exact ok_ret ⟨rfl, (show (0 : Int) ≤ (1 : Int32).toInt ∧ (1 : Int32).toInt ≤ (1 : Int) from (by decide))⟩
    ·
      replace c154 := ti_eqN (a := r2) (b := (0 : Int32)) c154 rfl (show (0 : Int32).toInt = 0 from rfl)
      unfold f_X0_reaches_90
      unfold f_X0_reaches_95
      refine ok_chk (by decide) ?_
      exact ok_ret ⟨rfl, (show (0 : Int) ≤ (1 : Int32).toInt ∧ (1 : Int32).toInt ≤ (1 : Int) from (by decide))⟩
theorem t_f_X0_reaches_0 {S : ZS} {x0 : Nat} {x1 : Int32} {x2 : Int32} (hT : ZT S) (r_x0 : zK S x0 = 0) (r_x1 : (0 : Int) ≤ x1.toInt ∧ x1.toInt ≤ (63 : Int)) (r_x2 : (0 : Int) ≤ x2.toInt ∧ x2.toInt ≤ (63 : Int)) : Ok (f_X0_reaches_0 x0 x1 x2 S) (fun o => o.2 = S ∧ ((0 : Int) ≤ o.1.toInt ∧ o.1.toInt ≤ (1 : Int))) := by
  unfold f_X0_reaches_0
  refine ok_chk r_x0 ?_
  obtain ⟨b1, p_b1, k_b1, n_b1⟩ := T_0_0 hT r_x0
  refine ok_calR p_b1 ?_
  refine ok_chk k_b1 ?_
  refine ok_chk (ti_inN (v := x1) (n := 64) n_b1 (by omega) (by omega)) ?_
  refine ok_bnd (fun v2 e157 => ?_)
  refine ok_if (fun c158 => ?_) (fun c158 => ?_)
  ·
    replace c158 := ti_eqP (a := v2) (b := (0 : Int32)) c158 rfl (show (0 : Int32).toInt = 0 from rfl)
    unfold f_X0_reaches_45
    refine ok_chk (by decide) ?_
    exact ok_ret ⟨rfl, (show (0 : Int) ≤ (0 : Int32).toInt ∧ (0 : Int32).toInt ≤ (1 : Int) from (by decide))⟩
  ·
    replace c158 := ti_eqN (a := v2) (b := (0 : Int32)) c158 rfl (show (0 : Int32).toInt = 0 from rfl)
    refine ok_bnd (fun v3 e159 => ?_)
    refine ok_chk r_x0 ?_
    have j160 := J_0_3 hT r_x0
    refine ok_if (fun c161 => ?_) (fun c161 => ?_)
    ·
      replace c161 := ti_eqP (a := v3) (b := (zI S 3 x0)) c161 rfl rfl
      refine ok_chk r_x0 ?_
      obtain ⟨b4, p_b4, k_b4, n_b4⟩ := T_0_0 hT r_x0
      refine ok_calR p_b4 ?_
      refine ok_chk k_b4 ?_
      refine ok_chk (ti_inN (v := x2) (n := 64) n_b4 (by omega) (by omega)) ?_
      refine ok_bnd (fun v5 e162 => ?_)
      refine ok_if (fun c163 => ?_) (fun c163 => ?_)
      ·
        replace c163 := ti_eqP (a := v5) (b := (0 : Int32)) c163 rfl (show (0 : Int32).toInt = 0 from rfl)
        exact t_f_X0_reaches_47 (S := S)  (x0 := x0) (x1 := x1) (x2 := x2) hT r_x0 r_x1 r_x2
      ·
        replace c163 := ti_eqN (a := v5) (b := (0 : Int32)) c163 rfl (show (0 : Int32).toInt = 0 from rfl)
        refine ok_chk r_x0 ?_
        obtain ⟨b6, p_b6, k_b6, n_b6⟩ := T_0_0 hT r_x0
        refine ok_calR p_b6 ?_
        refine ok_chk k_b6 ?_
        refine ok_chk (ti_inN (v := x2) (n := 64) n_b6 (by omega) (by omega)) ?_
        refine ok_bnd (fun v7 e164 => ?_)
        refine ok_bnd (fun v8 e165 => ?_)
        refine ok_chk r_x0 ?_
        refine ok_if (fun c166 => ?_) (fun c166 => ?_)
        ·
          replace c166 := ti_eqP (a := v8) (b := (zI S 3 x0)) c166 rfl rfl
          unfold f_X0_reaches_45
          refine ok_chk (by decide) ?_
          exact ok_ret ⟨rfl, (show (0 : Int) ≤ (0 : Int32).toInt ∧ (0 : Int32).toInt ≤ (1 : Int) from (by decide))⟩
        ·
          replace c166 := ti_eqN (a := v8) (b := (zI S 3 x0)) c166 rfl rfl
          exact t_f_X0_reaches_47 (S := S)  (x0 := x0) (x1 := x1) (x2 := x2) hT r_x0 r_x1 r_x2
    ·
      replace c161 := ti_eqN (a := v3) (b := (zI S 3 x0)) c161 rfl rfl
      unfold f_X0_reaches_45
      refine ok_chk (by decide) ?_
      exact ok_ret ⟨rfl, (show (0 : Int) ≤ (0 : Int32).toInt ∧ (0 : Int32).toInt ≤ (1 : Int) from (by decide))⟩
theorem t_f_X0_reaches {S : ZS} {x0 : Nat} {x1 : Int32} {x2 : Int32} (hT : ZT S) (r_x0 : zK S x0 = 0) (r_x1 : (0 : Int) ≤ x1.toInt ∧ x1.toInt ≤ (63 : Int)) (r_x2 : (0 : Int) ≤ x2.toInt ∧ x2.toInt ≤ (63 : Int)) : Ok (f_X0_reaches x0 x1 x2 S) (fun o => o.2 = S ∧ ((0 : Int) ≤ o.1.toInt ∧ o.1.toInt ≤ (1 : Int))) := t_f_X0_reaches_0 hT r_x0 r_x1 r_x2
theorem t_f_X0_takes_0 {S : ZS} {x0 : Nat} {x1 : Int32} {x2 : Int32} (hT : ZT S) (r_x0 : zK S x0 = 0) (r_x1 : (0 : Int) ≤ x1.toInt ∧ x1.toInt ≤ (63 : Int)) (r_x2 : (0 : Int) ≤ x2.toInt ∧ x2.toInt ≤ (63 : Int)) : Ok (f_X0_takes_0 x0 x1 x2 S) (fun o => o.2 = S ∧ ((0 : Int) ≤ o.1.toInt ∧ o.1.toInt ≤ (1 : Int))) := by
  unfold f_X0_takes_0
  refine ok_chk r_x0 ?_
  obtain ⟨b1, p_b1, k_b1, n_b1⟩ := T_0_0 hT r_x0
  refine ok_calR p_b1 ?_
  refine ok_chk k_b1 ?_
  refine ok_chk (ti_inN (v := x2) (n := 64) n_b1 (by omega) (by omega)) ?_
  refine ok_bnd (fun v2 e167 => ?_)
  refine ok_if (fun c168 => ?_) (fun c168 => ?_)
  ·
    replace c168 := ti_eqP (a := v2) (b := (0 : Int32)) c168 rfl (show (0 : Int32).toInt = 0 from rfl)
    refine ok_chk r_x0 ?_
    obtain ⟨r3, h_r3, p_r3⟩ := roz (t_f_X0_kindAt (x0 := x0) (x1 := x1) hT r_x0 r_x1)
    dsimp only at p_r3
    refine ok_calR h_r3 ?_
    refine ok_if (fun c169 => ?_) (fun c169 => ?_)
    ·
      replace c169 := ti_eqP (a := r3) (b := (1 : Int32)) c169 rfl (show (1 : Int32).toInt = 1 from rfl)
      refine ok_bnd (fun v4 e170 => ?_)
      have t_v4 : v4.toInt = x1.toInt % 8 := b_and7 e170 (by omega)
      refine ok_bnd (fun v5 e171 => ?_)
      have t_v5 : v5.toInt = x2.toInt % 8 := b_and7 e171 (by omega)
      refine ok_if (fun c172 => ?_) (fun c172 => ?_)
      ·
        replace c172 := ti_eqP (a := v4) (b := v5) c172 rfl rfl
        unfold f_X0_takes_33
        unfold f_X0_takes_34
        refine ok_chk (by decide) ?_
        exact ok_ret ⟨rfl, (show (0 : Int) ≤ (0 : Int32).toInt ∧ (0 : Int32).toInt ≤ (1 : Int) from (by decide))⟩
      ·
        replace c172 := ti_eqN (a := v4) (b := v5) c172 rfl rfl
        unfold f_X0_takes_29
        unfold f_X0_takes_34
        refine ok_chk (by decide) ?_
        exact ok_ret ⟨rfl, (show (0 : Int) ≤ (1 : Int32).toInt ∧ (1 : Int32).toInt ≤ (1 : Int) from (by decide))⟩
    ·
      replace c169 := ti_eqN (a := r3) (b := (1 : Int32)) c169 rfl (show (1 : Int32).toInt = 1 from rfl)
      unfold f_X0_takes_33
      unfold f_X0_takes_34
      refine ok_chk (by decide) ?_
      exact ok_ret ⟨rfl, (show (0 : Int) ≤ (0 : Int32).toInt ∧ (0 : Int32).toInt ≤ (1 : Int) from (by decide))⟩
  ·
    replace c168 := ti_eqN (a := v2) (b := (0 : Int32)) c168 rfl (show (0 : Int32).toInt = 0 from rfl)
    unfold f_X0_takes_29
    unfold f_X0_takes_34
    refine ok_chk (by decide) ?_
    exact ok_ret ⟨rfl, (show (0 : Int) ≤ (1 : Int32).toInt ∧ (1 : Int32).toInt ≤ (1 : Int) from (by decide))⟩
theorem t_f_X0_takes {S : ZS} {x0 : Nat} {x1 : Int32} {x2 : Int32} (hT : ZT S) (r_x0 : zK S x0 = 0) (r_x1 : (0 : Int) ≤ x1.toInt ∧ x1.toInt ≤ (63 : Int)) (r_x2 : (0 : Int) ≤ x2.toInt ∧ x2.toInt ≤ (63 : Int)) : Ok (f_X0_takes x0 x1 x2 S) (fun o => o.2 = S ∧ ((0 : Int) ≤ o.1.toInt ∧ o.1.toInt ≤ (1 : Int))) := t_f_X0_takes_0 hT r_x0 r_x1 r_x2
theorem t_f_X0_becomesAnother_0 {S : ZS} {x0 : Nat} {x1 : Int32} {x2 : Int32} (hT : ZT S) (r_x0 : zK S x0 = 0) (r_x1 : (0 : Int) ≤ x1.toInt ∧ x1.toInt ≤ (63 : Int)) : Ok (f_X0_becomesAnother_0 x0 x1 x2 S) (fun o => o.2 = S ∧ ((0 : Int) ≤ o.1.toInt ∧ o.1.toInt ≤ (1 : Int))) := by
  unfold f_X0_becomesAnother_0
  refine ok_chk r_x0 ?_
  obtain ⟨r1, h_r1, p_r1⟩ := roz (t_f_X0_kindAt (x0 := x0) (x1 := x1) hT r_x0 r_x1)
  dsimp only at p_r1
  refine ok_calR h_r1 ?_
  refine ok_if (fun c173 => ?_) (fun c173 => ?_)
  ·
    replace c173 := ti_eqP (a := r1) (b := (1 : Int32)) c173 rfl (show (1 : Int32).toInt = 1 from rfl)
    refine ok_if (fun c174 => ?_) (fun c174 => ?_)
    ·
      replace c174 := ti_ltP (a := x2) (b := (8 : Int32)) c174 rfl (show (8 : Int32).toInt = 8 from rfl)
      unfold f_X0_becomesAnother_21
      unfold f_X0_becomesAnother_26
      refine ok_chk (by decide) ?_
      exact ok_ret ⟨rfl, (show (0 : Int) ≤ (1 : Int32).toInt ∧ (1 : Int32).toInt ≤ (1 : Int) from (by decide))⟩
    ·
      replace c174 := ti_ltN (a := x2) (b := (8 : Int32)) c174 rfl (show (8 : Int32).toInt = 8 from rfl)
      refine ok_if (fun c175 => ?_) (fun c175 => ?_)
      ·
        replace c175 := ti_ltP (a := x2) (b := (56 : Int32)) c175 rfl (show (56 : Int32).toInt = 56 from rfl)
        unfold f_X0_becomesAnother_25
        unfold f_X0_becomesAnother_26
        refine ok_chk (by decide) ?_
        exact ok_ret ⟨rfl, (show (0 : Int) ≤ (0 : Int32).toInt ∧ (0 : Int32).toInt ≤ (1 : Int) from (by decide))⟩
      ·
        replace c175 := ti_ltN (a := x2) (b := (56 : Int32)) c175 rfl (show (56 : Int32).toInt = 56 from rfl)
        unfold f_X0_becomesAnother_21
        unfold f_X0_becomesAnother_26
        refine ok_chk (by decide) ?_
        exact ok_ret ⟨rfl, (show (0 : Int) ≤ (1 : Int32).toInt ∧ (1 : Int32).toInt ≤ (1 : Int) from (by decide))⟩
  ·
    replace c173 := ti_eqN (a := r1) (b := (1 : Int32)) c173 rfl (show (1 : Int32).toInt = 1 from rfl)
    unfold f_X0_becomesAnother_25
    unfold f_X0_becomesAnother_26
    refine ok_chk (by decide) ?_
    exact ok_ret ⟨rfl, (show (0 : Int) ≤ (0 : Int32).toInt ∧ (0 : Int32).toInt ≤ (1 : Int) from (by decide))⟩
theorem t_f_X0_becomesAnother {S : ZS} {x0 : Nat} {x1 : Int32} {x2 : Int32} (hT : ZT S) (r_x0 : zK S x0 = 0) (r_x1 : (0 : Int) ≤ x1.toInt ∧ x1.toInt ≤ (63 : Int)) : Ok (f_X0_becomesAnother x0 x1 x2 S) (fun o => o.2 = S ∧ ((0 : Int) ≤ o.1.toInt ∧ o.1.toInt ≤ (1 : Int))) := t_f_X0_becomesAnother_0 hT r_x0 r_x1
theorem t_f_X0_pawnAttacks_57 {S : ZS} {x0 : Nat} {x3 : Int32} {x4 : Int32} (hT : ZT S) (r_x0 : zK S x0 = 0) (r_x4 : (0 : Int) ≤ x4.toInt ∧ x4.toInt ≤ (63 : Int)) : Ok (f_X0_pawnAttacks_57 x0 x3 x4 S) (fun o => o.2 = S ∧ ((0 : Int) ≤ o.1.toInt ∧ o.1.toInt ≤ (1 : Int))) := by
  unfold f_X0_pawnAttacks_57
  refine ok_bnd (fun v1 e176 => ?_)
  have t_v1 : v1.toInt = x4.toInt % 8 := b_and7 e176 (by omega)
  refine ok_if (fun c177 => ?_) (fun c177 => ?_)
  ·
    replace c177 := ti_leP (a := (7 : Int32)) (b := v1) c177 (show (7 : Int32).toInt = 7 from rfl) rfl
    unfold f_X0_pawnAttacks_84
    unfold f_X0_pawnAttacks_85
    refine ok_chk (by decide) ?_
    exact ok_ret ⟨rfl, (show (0 : Int) ≤ (0 : Int32).toInt ∧ (0 : Int32).toInt ≤ (1 : Int) from (by decide))⟩
  ·
    replace c177 := ti_leN (a := (7 : Int32)) (b := v1) c177 (show (7 : Int32).toInt = 7 from rfl) rfl
    refine ok_chk r_x0 ?_
    obtain ⟨b2, p_b2, k_b2, n_b2⟩ := T_0_0 hT r_x0
    refine ok_calR p_b2 ?_
    refine ok_bnd (fun v3 e178 => ?_)
    have t_v3 : v3.toInt = x4.toInt + 1 := ti_add e178 rfl (show (1 : Int32).toInt = 1 from rfl) (by omega) (by omega)
    refine ok_chk k_b2 ?_
    refine ok_chk (ti_inN (v := v3) (n := 64) n_b2 (by omega) (by omega)) ?_
    refine ok_bnd (fun v4 e179 => ?_)
    refine ok_if (fun c180 => ?_) (fun c180 => ?_)
    ·
      replace c180 := ti_eqP (a := v4) (b := x3) c180 rfl rfl
      unfold f_X0_pawnAttacks_80
      unfold f_X0_pawnAttacks_85
      refine ok_chk (by decide) ?_
      exact ok_ret ⟨rfl, (show (0 : Int) ≤ (1 : Int32).toInt ∧ (1 : Int32).toInt ≤ (1 : Int) from (by decide))⟩
    ·
      replace c180 := ti_eqN (a := v4) (b := x3) c180 rfl rfl
      unfold f_X0_pawnAttacks_84
      unfold f_X0_pawnAttacks_85
      refine ok_chk (by decide) ?_
      exact ok_ret ⟨rfl, (show (0 : Int) ≤ (0 : Int32).toInt ∧ (0 : Int32).toInt ≤ (1 : Int) from (by decide))⟩
theorem t_f_X0_pawnAttacks_19 {S : ZS} {x0 : Nat} {x3 : Int32} {t0 : Int32} {t1 : Int32} (hT : ZT S) (r_x0 : zK S x0 = 0) (r_t0 : (-8 : Int) ≤ t0.toInt ∧ t0.toInt ≤ (8 : Int)) (r_t1 : (0 : Int) ≤ t1.toInt ∧ t1.toInt ≤ (63 : Int)) : Ok (f_X0_pawnAttacks_19 x0 x3 t0 t1 S) (fun o => o.2 = S ∧ ((0 : Int) ≤ o.1.toInt ∧ o.1.toInt ≤ (1 : Int))) := by
  unfold f_X0_pawnAttacks_19
  refine ok_bnd (fun v1 e181 => ?_)
  have t_v1 : v1.toInt = t1.toInt + t0.toInt := ti_add e181 rfl rfl (by omega) (by omega)
  refine ok_if (fun c182 => ?_) (fun c182 => ?_)
  ·
    replace c182 := ti_ltP (a := v1) (b := (0 : Int32)) c182 rfl (show (0 : Int32).toInt = 0 from rfl)
    unfold f_X0_pawnAttacks_34
    refine ok_chk (by decide) ?_
    exact ok_ret ⟨rfl, (show (0 : Int) ≤ (0 : Int32).toInt ∧ (0 : Int32).toInt ≤ (1 : Int) from (by decide))⟩
  ·
    replace c182 := ti_ltN (a := v1) (b := (0 : Int32)) c182 rfl (show (0 : Int32).toInt = 0 from rfl)
    refine ok_if (fun c183 => ?_) (fun c183 => ?_)
    ·
      replace c183 := ti_ltP (a := v1) (b := (64 : Int32)) c183 rfl (show (64 : Int32).toInt = 64 from rfl)
      refine ok_bnd (fun v2 e184 => ?_)
      have t_v2 : v2.toInt = v1.toInt % 8 := b_and7 e184 (by omega)
      refine ok_if (fun c185 => ?_) (fun c185 => ?_)
      ·
        replace c185 := ti_leP (a := v2) (b := (0 : Int32)) c185 rfl (show (0 : Int32).toInt = 0 from rfl)
        exact t_f_X0_pawnAttacks_57 (S := S)  (x0 := x0) (x3 := x3) (x4 := v1) hT r_x0 (by omega)
      ·
        replace c185 := ti_leN (a := v2) (b := (0 : Int32)) c185 rfl (show (0 : Int32).toInt = 0 from rfl)
        refine ok_chk r_x0 ?_
        obtain ⟨b3, p_b3, k_b3, n_b3⟩ := T_0_0 hT r_x0
        refine ok_calR p_b3 ?_
        refine ok_bnd (fun v4 e186 => ?_)
        have t_v4 : v4.toInt = v1.toInt - 1 := ti_sub e186 rfl (show (1 : Int32).toInt = 1 from rfl) (by omega) (by omega)
        refine ok_chk k_b3 ?_
        refine ok_chk (ti_inN (v := v4) (n := 64) n_b3 (by omega) (by omega)) ?_
        refine ok_bnd (fun v5 e187 => ?_)
        refine ok_if (fun c188 => ?_) (fun c188 => ?_)
        ·
          replace c188 := ti_eqP (a := v5) (b := x3) c188 rfl rfl
          unfold f_X0_pawnAttacks_80
          unfold f_X0_pawnAttacks_85
          refine ok_chk (by decide) ?_
          exact ok_ret ⟨rfl, (show (0 : Int) ≤ (1 : Int32).toInt ∧ (1 : Int32).toInt ≤ (1 : Int) from (by decide))⟩
        ·
          replace c188 := ti_eqN (a := v5) (b := x3) c188 rfl rfl
          exact t_f_X0_pawnAttacks_57 (S := S)  (x0 := x0) (x3 := x3) (x4 := v1) hT r_x0 (by omega)
    ·
      replace c183 := ti_ltN (a := v1) (b := (64 : Int32)) c183 rfl (show (64 : Int32).toInt = 64 from rfl)
      unfold f_X0_pawnAttacks_34
      refine ok_chk (by decide) ?_
      exact ok_ret ⟨rfl, (show (0 : Int) ≤ (0 : Int32).toInt ∧ (0 : Int32).toInt ≤ (1 : Int) from (by decide))⟩
theorem t_f_X0_pawnAttacks_0 {S : ZS} {x0 : Nat} {x1 : Int32} {x2 : Int32} (hT : ZT S) (r_x0 : zK S x0 = 0) (r_x1 : (0 : Int) ≤ x1.toInt ∧ x1.toInt ≤ (63 : Int)) (r_x2 : (0 : Int) ≤ x2.toInt ∧ x2.toInt ≤ (1 : Int)) : Ok (f_X0_pawnAttacks_0 x0 x1 x2 S) (fun o => o.2 = S ∧ ((0 : Int) ≤ o.1.toInt ∧ o.1.toInt ≤ (1 : Int))) := by
  unfold f_X0_pawnAttacks_0
  refine ok_bnd (fun v1 e189 => ?_)
  have t_v1 : v1.toInt = 8 * x2.toInt := ti_mul e189 (show (8 : Int32).toInt = 8 from rfl) rfl (by omega) (by omega)
  refine ok_bnd (fun v2 e190 => ?_)
  have t_v2 : v2.toInt = 1 + v1.toInt := ti_add e190 (show (1 : Int32).toInt = 1 from rfl) rfl (by omega) (by omega)
  refine ok_if (fun c191 => ?_) (fun c191 => ?_)
  ·
    replace c191 := ti_eqP (a := x2) (b := (0 : Int32)) c191 rfl (show (0 : Int32).toInt = 0 from rfl)
    exact t_f_X0_pawnAttacks_19 (S := S)  (x0 := x0) (x3 := v2) (t0 := (-8 : Int32)) (t1 := x1) hT r_x0 (by decide) r_x1
  ·
    replace c191 := ti_eqN (a := x2) (b := (0 : Int32)) c191 rfl (show (0 : Int32).toInt = 0 from rfl)
    exact t_f_X0_pawnAttacks_19 (S := S)  (x0 := x0) (x3 := v2) (t0 := (8 : Int32)) (t1 := x1) hT r_x0 (by decide) r_x1
theorem t_f_X0_pawnAttacks {S : ZS} {x0 : Nat} {x1 : Int32} {x2 : Int32} (hT : ZT S) (r_x0 : zK S x0 = 0) (r_x1 : (0 : Int) ≤ x1.toInt ∧ x1.toInt ≤ (63 : Int)) (r_x2 : (0 : Int) ≤ x2.toInt ∧ x2.toInt ≤ (1 : Int)) : Ok (f_X0_pawnAttacks x0 x1 x2 S) (fun o => o.2 = S ∧ ((0 : Int) ≤ o.1.toInt ∧ o.1.toInt ≤ (1 : Int))) := t_f_X0_pawnAttacks_0 hT r_x0 r_x1 r_x2
theorem t_f_X0_rightsOf_0 {S : ZS} {x0 : Int32} (hT : ZT S) : Ok (f_X0_rightsOf_0 x0 S) (fun o => o.2 = S ∧ ((0 : Int) ≤ o.1.toInt ∧ o.1.toInt ≤ (12 : Int))) := by
  unfold f_X0_rightsOf_0
  refine ok_if (fun c192 => ?_) (fun c192 => ?_)
  ·
    replace c192 := ti_eqP (a := x0) (b := (0 : Int32)) c192 rfl (show (0 : Int32).toInt = 0 from rfl)
    exact ok_ret ⟨rfl, (show (0 : Int) ≤ (2 : Int32).toInt ∧ (2 : Int32).toInt ≤ (12 : Int) from (by decide))⟩
  ·
    replace c192 := ti_eqN (a := x0) (b := (0 : Int32)) c192 rfl (show (0 : Int32).toInt = 0 from rfl)
    refine ok_if (fun c193 => ?_) (fun c193 => ?_)
    ·
      replace c193 := ti_eqP (a := x0) (b := (4 : Int32)) c193 rfl (show (4 : Int32).toInt = 4 from rfl)
      exact ok_ret ⟨rfl, (show (0 : Int) ≤ (3 : Int32).toInt ∧ (3 : Int32).toInt ≤ (12 : Int) from (by decide))⟩
    ·
      replace c193 := ti_eqN (a := x0) (b := (4 : Int32)) c193 rfl (show (4 : Int32).toInt = 4 from rfl)
      refine ok_if (fun c194 => ?_) (fun c194 => ?_)
      ·
        replace c194 := ti_eqP (a := x0) (b := (7 : Int32)) c194 rfl (show (7 : Int32).toInt = 7 from rfl)
        exact ok_ret ⟨rfl, (show (0 : Int) ≤ (1 : Int32).toInt ∧ (1 : Int32).toInt ≤ (12 : Int) from (by decide))⟩
      ·
        replace c194 := ti_eqN (a := x0) (b := (7 : Int32)) c194 rfl (show (7 : Int32).toInt = 7 from rfl)
        refine ok_if (fun c195 => ?_) (fun c195 => ?_)
        ·
          replace c195 := ti_eqP (a := x0) (b := (56 : Int32)) c195 rfl (show (56 : Int32).toInt = 56 from rfl)
          exact ok_ret ⟨rfl, (show (0 : Int) ≤ (8 : Int32).toInt ∧ (8 : Int32).toInt ≤ (12 : Int) from (by decide))⟩
        ·
          replace c195 := ti_eqN (a := x0) (b := (56 : Int32)) c195 rfl (show (56 : Int32).toInt = 56 from rfl)
          refine ok_if (fun c196 => ?_) (fun c196 => ?_)
          ·
            replace c196 := ti_eqP (a := x0) (b := (60 : Int32)) c196 rfl (show (60 : Int32).toInt = 60 from rfl)
            exact ok_ret ⟨rfl, (show (0 : Int) ≤ (12 : Int32).toInt ∧ (12 : Int32).toInt ≤ (12 : Int) from (by decide))⟩
          ·
            replace c196 := ti_eqN (a := x0) (b := (60 : Int32)) c196 rfl (show (60 : Int32).toInt = 60 from rfl)
            refine ok_if (fun c197 => ?_) (fun c197 => ?_)
            ·
              replace c197 := ti_eqP (a := x0) (b := (63 : Int32)) c197 rfl (show (63 : Int32).toInt = 63 from rfl)
              exact ok_ret ⟨rfl, (show (0 : Int) ≤ (4 : Int32).toInt ∧ (4 : Int32).toInt ≤ (12 : Int) from (by decide))⟩
            ·
              replace c197 := ti_eqN (a := x0) (b := (63 : Int32)) c197 rfl (show (63 : Int32).toInt = 63 from rfl)
              exact ok_ret ⟨rfl, (show (0 : Int) ≤ (0 : Int32).toInt ∧ (0 : Int32).toInt ≤ (12 : Int) from (by decide))⟩
theorem t_f_X0_rightsOf {S : ZS} {x0 : Int32} (hT : ZT S) : Ok (f_X0_rightsOf x0 S) (fun o => o.2 = S ∧ ((0 : Int) ≤ o.1.toInt ∧ o.1.toInt ≤ (12 : Int))) := t_f_X0_rightsOf_0 hT 
theorem t_f_X0_play_227 {SZ S : ZS} {x0 : Nat} (hT : ZT S) (hR : A7 SZ S) (r_x0 : zK S x0 = 0) : Ok (f_X0_play_227 x0 S) (fun o => ZT o.2 ∧ A7 SZ o.2 ∧ True) := by
  unfold f_X0_play_227
  refine ok_chk r_x0 ?_
  refine ok_chk r_x0 ?_
  refine ok_bnd (fun v1 e198 => ?_)
  have j199 := J_0_3 hT r_x0
  refine ok_chk r_x0 ?_
  refine ok_bnd (fun S2 e200 => ?_)
  have T_S2 : ZT S2 := e200.symm ▸ zt_W hT r_x0 (by decide) rfl
  have kE_S2 : zK S2 = zK S := by rw [e200]; rfl
  have nE_S2 : zN S2 = zN S := by rw [e200]; rfl
  have R_S2 : A7 SZ S2 := a7_I hR e200 r_x0 (by decide)
  refine ok_chk ((congrFun kE_S2 x0).trans r_x0) ?_
  refine ok_bnd (fun v3 e201 => ?_)
  have j202 := J_0_3 T_S2 ((congrFun kE_S2 x0).trans r_x0)
  have t_v3 : v3.toInt = 1 - (zI S2 3 x0).toInt := ti_sub e201 (show (1 : Int32).toInt = 1 from rfl) rfl (by omega) (by omega)
  refine ok_chk ((congrFun kE_S2 x0).trans r_x0) ?_
  refine ok_bnd (fun S4 e203 => ?_)
  have T_S4 : ZT S4 := e203.symm ▸ zt_I T_S2 ((congrFun kE_S2 x0).trans r_x0) (by decide) (show (0 : Int) ≤ v3.toInt ∧ v3.toInt ≤ (1 : Int) from (by omega))
  have kE_S4 : zK S4 = zK S2 := by rw [e203]; rfl
  have nE_S4 : zN S4 = zN S2 := by rw [e203]; rfl
  have R_S4 : A7 SZ S4 := a7_I R_S2 e203 ((congrFun kE_S2 x0).trans r_x0) (by decide)
  exact ok_ret ⟨T_S4, R_S4, trivial⟩
theorem t_f_X0_play_200 {SZ S : ZS} {x0 : Nat} {x2 : Int32} {x3 : Int32} (hT : ZT S) (hR : A7 SZ S) (r_x0 : zK S x0 = 0) (r_x2 : (0 : Int) ≤ x2.toInt ∧ x2.toInt ≤ (63 : Int)) (r_x3 : (0 : Int) ≤ x3.toInt ∧ x3.toInt ≤ (63 : Int)) : Ok (f_X0_play_200 x0 x2 x3 S) (fun o => ZT o.2 ∧ A7 SZ o.2 ∧ True) := by
  unfold f_X0_play_200
  refine ok_bnd (fun v1 e204 => ?_)
  have t_v1 : v1.toInt = x2.toInt + x3.toInt := ti_add e204 rfl rfl (by omega) (by omega)
  refine ok_bnd (fun v2 e205 => ?_)
  have t_v2 : v2.toInt = v1.toInt / 2 := ti_div e205 rfl (show (2 : Int32).toInt = 2 from rfl) (by omega) (by decide)
  refine ok_chk r_x0 ?_
  refine ok_bnd (fun v3 e206 => ?_)
  have j207 := J_0_3 hT r_x0
  have t_v3 : v3.toInt = 1 - (zI S 3 x0).toInt := ti_sub e206 (show (1 : Int32).toInt = 1 from rfl) rfl (by omega) (by omega)
  refine ok_chk r_x0 ?_
  obtain ⟨r4, h_r4, p_r4⟩ := roz (t_f_X0_pawnAttacks (x0 := x0) (x1 := v2) (x2 := v3) hT r_x0 (by omega) (by omega))
  dsimp only at p_r4
  refine ok_calR h_r4 ?_
  refine ok_if (fun c208 => ?_) (fun c208 => ?_)
  ·
    replace c208 := ti_eqP (a := r4) (b := (0 : Int32)) c208 rfl (show (0 : Int32).toInt = 0 from rfl)
    exact t_f_X0_play_227 (S := S)  (x0 := x0) hT hR r_x0
  ·
    replace c208 := ti_eqN (a := r4) (b := (0 : Int32)) c208 rfl (show (0 : Int32).toInt = 0 from rfl)
    refine ok_bnd (fun v5 e209 => ?_)
    have t_v5 : v5.toInt = x2.toInt + x3.toInt := ti_add e209 rfl rfl (by omega) (by omega)
    refine ok_bnd (fun v6 e210 => ?_)
    have t_v6 : v6.toInt = v5.toInt / 2 := ti_div e210 rfl (show (2 : Int32).toInt = 2 from rfl) (by omega) (by decide)
    refine ok_chk r_x0 ?_
    refine ok_bnd (fun S7 e211 => ?_)
    have T_S7 : ZT S7 := e211.symm ▸ zt_I hT r_x0 (by decide) (show (-1 : Int) ≤ v6.toInt ∧ v6.toInt ≤ (63 : Int) from (by omega))
    have kE_S7 : zK S7 = zK S := by rw [e211]; rfl
    have nE_S7 : zN S7 = zN S := by rw [e211]; rfl
    have R_S7 : A7 SZ S7 := a7_I hR e211 r_x0 (by decide)
    exact t_f_X0_play_227 (S := S7)  (x0 := x0) T_S7 R_S7 ((congrFun kE_S7 x0).trans r_x0)
theorem t_f_X0_play_144 {SZ S : ZS} {x0 : Nat} {x2 : Int32} {x3 : Int32} {x5 : Int32} {t0 : Int32} {t1 : Int32} {t2 : Nat} (hT : ZT S) (hR : A7 SZ S) (r_x0 : zK S x0 = 0) (r_x2 : (0 : Int) ≤ x2.toInt ∧ x2.toInt ≤ (63 : Int)) (r_x3 : (0 : Int) ≤ x3.toInt ∧ x3.toInt ≤ (63 : Int)) (r_x5 : (0 : Int) ≤ x5.toInt ∧ x5.toInt ≤ (1 : Int)) (r_t1 : (0 : Int) ≤ t1.toInt ∧ t1.toInt ≤ (63 : Int)) (r_t2 : zK S t2 = 0) : Ok (f_X0_play_144 x0 x2 x3 x5 t0 t1 t2 S) (fun o => ZT o.2 ∧ A7 SZ o.2 ∧ True) := by
  unfold f_X0_play_144
  refine ok_chk r_t2 ?_
  obtain ⟨⟨r1, S1⟩, h_r1, T_S1, A_S1, -⟩ := t_f_X0_put (x0 := t2) (x1 := t1) (x2 := t0) (SZ := S) hT (a7_0 S) r_t2 r_t1
  replace T_S1 : ZT S1 := T_S1
  replace A_S1 : A7 S S1 := A_S1
  refine ok_calR h_r1 ?_
  have q_S1 := fq_X0_put h_r1
  have kE_S1 : zK S1 = zK S := q_S1.2.2.1
  have nE_S1 : zN S1 = zN S := q_S1.2.2.2.1
  have R_S1 : A7 SZ S1 := a7_t hR A_S1
  refine ok_chk ((congrFun kE_S1 x0).trans r_x0) ?_
  obtain ⟨b2, p_b2, k_b2, n_b2⟩ := T_0_0 T_S1 ((congrFun kE_S1 x0).trans r_x0)
  refine ok_calR p_b2 ?_
  refine ok_chk k_b2 ?_
  refine ok_chk (ti_inN (v := x2) (n := 64) n_b2 (by omega) (by omega)) ?_
  refine ok_bnd (fun S3 e212 => ?_)
  have T_S3 : ZT S3 := e212.symm ▸ zt_A T_S1 k_b2
  have kE_S3 : zK S3 = zK S1 := by rw [e212]; rfl
  have nE_S3 : zN S3 = zN S1 := by rw [e212]; rfl
  have R_S3 : A7 SZ S3 := a7_A R_S1 e212 T_S1 k_b2 n_b2 (by decide)
  refine ok_chk ((congrFun kE_S3 x0).trans ((congrFun kE_S1 x0).trans r_x0)) ?_
  obtain ⟨r4, h_r4, p_r4⟩ := roz (t_f_X0_rightsOf (x0 := x2) T_S3 )
  dsimp only at p_r4
  refine ok_calR h_r4 ?_
  obtain ⟨r5, h_r5, p_r5⟩ := roz (t_f_X0_rightsOf (x0 := x3) T_S3 )
  dsimp only at p_r5
  refine ok_calR h_r5 ?_
  refine ok_bnd (fun v6 e213 => ?_)
  refine ok_bnd (fun v7 e214 => ?_)
  refine ok_bnd (fun v8 e215 => ?_)
  refine ok_chk ((congrFun kE_S3 x0).trans ((congrFun kE_S1 x0).trans r_x0)) ?_
  refine ok_bnd (fun S9 e216 => ?_)
  have T_S9 : ZT S9 := e216.symm ▸ zt_W T_S3 ((congrFun kE_S3 x0).trans ((congrFun kE_S1 x0).trans r_x0)) (by decide) rfl
  have kE_S9 : zK S9 = zK S3 := by rw [e216]; rfl
  have nE_S9 : zN S9 = zN S3 := by rw [e216]; rfl
  have R_S9 : A7 SZ S9 := a7_I R_S3 e216 ((congrFun kE_S3 x0).trans ((congrFun kE_S1 x0).trans r_x0)) (by decide)
  refine ok_chk ((congrFun kE_S9 x0).trans ((congrFun kE_S3 x0).trans ((congrFun kE_S1 x0).trans r_x0))) ?_
  refine ok_bnd (fun S10 e217 => ?_)
  have T_S10 : ZT S10 := e217.symm ▸ zt_I T_S9 ((congrFun kE_S9 x0).trans ((congrFun kE_S3 x0).trans ((congrFun kE_S1 x0).trans r_x0))) (by decide) (show (-1 : Int) ≤ (-1 : Int32).toInt ∧ (-1 : Int32).toInt ≤ (63 : Int) from (by decide))
  have kE_S10 : zK S10 = zK S9 := by rw [e217]; rfl
  have nE_S10 : zN S10 = zN S9 := by rw [e217]; rfl
  have R_S10 : A7 SZ S10 := a7_I R_S9 e217 ((congrFun kE_S9 x0).trans ((congrFun kE_S3 x0).trans ((congrFun kE_S1 x0).trans r_x0))) (by decide)
  refine ok_if (fun c218 => ?_) (fun c218 => ?_)
  ·
    replace c218 := ti_eqP (a := x5) (b := (0 : Int32)) c218 rfl (show (0 : Int32).toInt = 0 from rfl)
    exact t_f_X0_play_227 (S := S10)  (x0 := x0) T_S10 R_S10 ((congrFun kE_S10 x0).trans ((congrFun kE_S9 x0).trans ((congrFun kE_S3 x0).trans ((congrFun kE_S1 x0).trans r_x0))))
  ·
    replace c218 := ti_eqN (a := x5) (b := (0 : Int32)) c218 rfl (show (0 : Int32).toInt = 0 from rfl)
    refine ok_bnd (fun v11 e219 => ?_)
    have t_v11 : v11.toInt = x2.toInt + 16 := ti_add e219 rfl (show (16 : Int32).toInt = 16 from rfl) (by omega) (by omega)
    refine ok_if (fun c220 => ?_) (fun c220 => ?_)
    ·
      replace c220 := ti_eqP (a := x3) (b := v11) c220 rfl rfl
      exact t_f_X0_play_200 (S := S10)  (x0 := x0) (x2 := x2) (x3 := x3) T_S10 R_S10 ((congrFun kE_S10 x0).trans ((congrFun kE_S9 x0).trans ((congrFun kE_S3 x0).trans ((congrFun kE_S1 x0).trans r_x0)))) r_x2 r_x3
    ·
      replace c220 := ti_eqN (a := x3) (b := v11) c220 rfl rfl
      refine ok_bnd (fun v12 e221 => ?_)
      have t_v12 : v12.toInt = x2.toInt - 16 := ti_sub e221 rfl (show (16 : Int32).toInt = 16 from rfl) (by omega) (by omega)
      refine ok_if (fun c222 => ?_) (fun c222 => ?_)
      ·
        replace c222 := ti_eqP (a := x3) (b := v12) c222 rfl rfl
        exact t_f_X0_play_200 (S := S10)  (x0 := x0) (x2 := x2) (x3 := x3) T_S10 R_S10 ((congrFun kE_S10 x0).trans ((congrFun kE_S9 x0).trans ((congrFun kE_S3 x0).trans ((congrFun kE_S1 x0).trans r_x0)))) r_x2 r_x3
      ·
        replace c222 := ti_eqN (a := x3) (b := v12) c222 rfl rfl
        exact t_f_X0_play_227 (S := S10)  (x0 := x0) T_S10 R_S10 ((congrFun kE_S10 x0).trans ((congrFun kE_S9 x0).trans ((congrFun kE_S3 x0).trans ((congrFun kE_S1 x0).trans r_x0))))
theorem t_f_X0_play_118 {SZ S : ZS} {x0 : Nat} {x2 : Int32} {x3 : Int32} {x4 : Int32} {x5 : Int32} (hT : ZT S) (hR : A7 SZ S) (r_x0 : zK S x0 = 0) (r_x2 : (0 : Int) ≤ x2.toInt ∧ x2.toInt ≤ (63 : Int)) (r_x3 : (0 : Int) ≤ x3.toInt ∧ x3.toInt ≤ (63 : Int)) (r_x4 : (0 : Int) ≤ x4.toInt ∧ x4.toInt ≤ (7 : Int)) (r_x5 : (0 : Int) ≤ x5.toInt ∧ x5.toInt ≤ (1 : Int)) : Ok (f_X0_play_118 x0 x2 x3 x4 x5 S) (fun o => ZT o.2 ∧ A7 SZ o.2 ∧ True) := by
  unfold f_X0_play_118
  refine ok_if (fun c223 => ?_) (fun c223 => ?_)
  ·
    replace c223 := ti_eqP (a := x4) (b := (0 : Int32)) c223 rfl (show (0 : Int32).toInt = 0 from rfl)
    refine ok_chk r_x0 ?_
    obtain ⟨b3, p_b3, k_b3, n_b3⟩ := T_0_0 hT r_x0
    refine ok_calR p_b3 ?_
    refine ok_chk k_b3 ?_
    refine ok_chk (ti_inN (v := x2) (n := 64) n_b3 (by omega) (by omega)) ?_
    refine ok_bnd (fun v4 e224 => ?_)
    exact t_f_X0_play_144 (S := S)  (x0 := x0) (x2 := x2) (x3 := x3) (x5 := x5) (t0 := v4) (t1 := x3) (t2 := x0) hT hR r_x0 r_x2 r_x3 r_x5 r_x3 r_x0
  ·
    replace c223 := ti_eqN (a := x4) (b := (0 : Int32)) c223 rfl (show (0 : Int32).toInt = 0 from rfl)
    refine ok_chk r_x0 ?_
    refine ok_bnd (fun v1 e225 => ?_)
    have j226 := J_0_3 hT r_x0
    have t_v1 : v1.toInt = 8 * (zI S 3 x0).toInt := ti_mul e225 (show (8 : Int32).toInt = 8 from rfl) rfl (by omega) (by omega)
    refine ok_bnd (fun v2 e227 => ?_)
    have t_v2 : v2.toInt = x4.toInt + v1.toInt := ti_add e227 rfl rfl (by omega) (by omega)
    exact t_f_X0_play_144 (S := S)  (x0 := x0) (x2 := x2) (x3 := x3) (x5 := x5) (t0 := v2) (t1 := x3) (t2 := x0) hT hR r_x0 r_x2 r_x3 r_x5 r_x3 r_x0
theorem t_f_X0_play_91 {SZ S : ZS} {x0 : Nat} {x2 : Int32} {x3 : Int32} {x4 : Int32} {x5 : Int32} {t0 : Int32} (hT : ZT S) (hR : A7 SZ S) (r_x0 : zK S x0 = 0) (r_x2 : (0 : Int) ≤ x2.toInt ∧ x2.toInt ≤ (63 : Int)) (r_x3 : (0 : Int) ≤ x3.toInt ∧ x3.toInt ≤ (63 : Int)) (r_x4 : (0 : Int) ≤ x4.toInt ∧ x4.toInt ≤ (7 : Int)) (r_x5 : (0 : Int) ≤ x5.toInt ∧ x5.toInt ≤ (1 : Int)) (r_t0 : (0 : Int) ≤ t0.toInt ∧ t0.toInt ≤ (63 : Int)) : Ok (f_X0_play_91 x0 x2 x3 x4 x5 t0 S) (fun o => ZT o.2 ∧ A7 SZ o.2 ∧ True) := by
  unfold f_X0_play_91
  refine ok_chk r_x0 ?_
  obtain ⟨b1, p_b1, k_b1, n_b1⟩ := T_0_0 hT r_x0
  refine ok_calR p_b1 ?_
  refine ok_bnd (fun v2 e228 => ?_)
  have t_v2 : v2.toInt = x2.toInt + x3.toInt := ti_add e228 rfl rfl (by omega) (by omega)
  refine ok_bnd (fun v3 e229 => ?_)
  have t_v3 : v3.toInt = v2.toInt / 2 := ti_div e229 rfl (show (2 : Int32).toInt = 2 from rfl) (by omega) (by decide)
  refine ok_chk r_x0 ?_
  obtain ⟨b4, p_b4, k_b4, n_b4⟩ := T_0_0 hT r_x0
  refine ok_calR p_b4 ?_
  refine ok_chk k_b4 ?_
  refine ok_chk (ti_inN (v := t0) (n := 64) n_b4 (by omega) (by omega)) ?_
  refine ok_bnd (fun v5 e230 => ?_)
  refine ok_chk k_b1 ?_
  refine ok_chk (ti_inN (v := v3) (n := 64) n_b1 (by omega) (by omega)) ?_
  refine ok_bnd (fun S6 e231 => ?_)
  have T_S6 : ZT S6 := e231.symm ▸ zt_A hT k_b1
  have kE_S6 : zK S6 = zK S := by rw [e231]; rfl
  have nE_S6 : zN S6 = zN S := by rw [e231]; rfl
  have R_S6 : A7 SZ S6 := a7_A hR e231 hT k_b1 n_b1 (by decide)
  refine ok_chk ((congrFun kE_S6 x0).trans r_x0) ?_
  obtain ⟨b7, p_b7, k_b7, n_b7⟩ := T_0_0 T_S6 ((congrFun kE_S6 x0).trans r_x0)
  refine ok_calR p_b7 ?_
  refine ok_chk k_b7 ?_
  refine ok_chk (ti_inN (v := t0) (n := 64) n_b7 (by omega) (by omega)) ?_
  refine ok_bnd (fun S8 e232 => ?_)
  have T_S8 : ZT S8 := e232.symm ▸ zt_A T_S6 k_b7
  have kE_S8 : zK S8 = zK S6 := by rw [e232]; rfl
  have nE_S8 : zN S8 = zN S6 := by rw [e232]; rfl
  have R_S8 : A7 SZ S8 := a7_A R_S6 e232 T_S6 k_b7 n_b7 (by decide)
  exact t_f_X0_play_118 (S := S8)  (x0 := x0) (x2 := x2) (x3 := x3) (x4 := x4) (x5 := x5) T_S8 R_S8 ((congrFun kE_S8 x0).trans ((congrFun kE_S6 x0).trans r_x0)) r_x2 r_x3 r_x4 r_x5
theorem t_f_X0_play_66 {SZ S : ZS} {x0 : Nat} {x2 : Int32} {x3 : Int32} {x4 : Int32} {x5 : Int32} (hT : ZT S) (hR : A7 SZ S) (r_x0 : zK S x0 = 0) (r_x2 : (0 : Int) ≤ x2.toInt ∧ x2.toInt ≤ (63 : Int)) (r_x3 : (0 : Int) ≤ x3.toInt ∧ x3.toInt ≤ (63 : Int)) (r_x4 : (0 : Int) ≤ x4.toInt ∧ x4.toInt ≤ (7 : Int)) (r_x5 : (0 : Int) ≤ x5.toInt ∧ x5.toInt ≤ (1 : Int)) : Ok (f_X0_play_66 x0 x2 x3 x4 x5 S) (fun o => ZT o.2 ∧ A7 SZ o.2 ∧ True) := by
  unfold f_X0_play_66
  refine ok_chk r_x0 ?_
  obtain ⟨r1, h_r1, p_r1⟩ := roz (t_f_X0_castles (x0 := x0) (x1 := x2) (x2 := x3) hT r_x0 r_x2 r_x3)
  dsimp only at p_r1
  refine ok_calR h_r1 ?_
  refine ok_if (fun c233 => ?_) (fun c233 => ?_)
  ·
    replace c233 := ti_eqP (a := r1) (b := (0 : Int32)) c233 rfl (show (0 : Int32).toInt = 0 from rfl)
    exact t_f_X0_play_118 (S := S)  (x0 := x0) (x2 := x2) (x3 := x3) (x4 := x4) (x5 := x5) hT hR r_x0 r_x2 r_x3 r_x4 r_x5
  ·
    replace c233 := ti_eqN (a := r1) (b := (0 : Int32)) c233 rfl (show (0 : Int32).toInt = 0 from rfl)
    refine ok_if (fun c234 => ?_) (fun c234 => ?_)
    ·
      replace c234 := ti_leP (a := x3) (b := x2) c234 rfl rfl
      refine ok_bnd (fun v2 e235 => ?_)
      have t_v2 : v2.toInt = x2.toInt / 8 * 8 := b_and56 e235 (by omega)
      exact t_f_X0_play_91 (S := S)  (x0 := x0) (x2 := x2) (x3 := x3) (x4 := x4) (x5 := x5) (t0 := v2) hT hR r_x0 r_x2 r_x3 r_x4 r_x5 (by omega)
    ·
      replace c234 := ti_leN (a := x3) (b := x2) c234 rfl rfl
      refine ok_bnd (fun v3 e236 => ?_)
      have t_v3 : v3.toInt = x2.toInt / 8 * 8 + 7 := b_or7 e236 (by omega)
      exact t_f_X0_play_91 (S := S)  (x0 := x0) (x2 := x2) (x3 := x3) (x4 := x4) (x5 := x5) (t0 := v3) hT hR r_x0 r_x2 r_x3 r_x4 r_x5 (by omega)
theorem t_f_X0_play_36 {SZ S : ZS} {x0 : Nat} {x2 : Int32} {x3 : Int32} {x4 : Int32} {t0 : Int32} (hT : ZT S) (hR : A7 SZ S) (r_x0 : zK S x0 = 0) (r_x2 : (0 : Int) ≤ x2.toInt ∧ x2.toInt ≤ (63 : Int)) (r_x3 : (0 : Int) ≤ x3.toInt ∧ x3.toInt ≤ (63 : Int)) (r_x4 : (0 : Int) ≤ x4.toInt ∧ x4.toInt ≤ (7 : Int)) (r_t0 : (0 : Int) ≤ t0.toInt ∧ t0.toInt ≤ (1 : Int)) : Ok (f_X0_play_36 x0 x2 x3 x4 t0 S) (fun o => ZT o.2 ∧ A7 SZ o.2 ∧ True) := by
  unfold f_X0_play_36
  refine ok_if (fun c237 => ?_) (fun c237 => ?_)
  ·
    replace c237 := ti_eqP (a := t0) (b := (0 : Int32)) c237 rfl (show (0 : Int32).toInt = 0 from rfl)
    exact t_f_X0_play_66 (S := S)  (x0 := x0) (x2 := x2) (x3 := x3) (x4 := x4) (x5 := t0) hT hR r_x0 r_x2 r_x3 r_x4 r_t0
  ·
    replace c237 := ti_eqN (a := t0) (b := (0 : Int32)) c237 rfl (show (0 : Int32).toInt = 0 from rfl)
    refine ok_chk r_x0 ?_
    have j238 := J_0_5 hT r_x0
    refine ok_if (fun c239 => ?_) (fun c239 => ?_)
    ·
      replace c239 := ti_eqP (a := x3) (b := (zI S 5 x0)) c239 rfl rfl
      refine ok_chk r_x0 ?_
      obtain ⟨b1, p_b1, k_b1, n_b1⟩ := T_0_0 hT r_x0
      refine ok_calR p_b1 ?_
      refine ok_bnd (fun v2 e240 => ?_)
      have t_v2 : v2.toInt = x2.toInt / 8 * 8 := b_and56 e240 (by omega)
      refine ok_bnd (fun v3 e241 => ?_)
      have t_v3 : v3.toInt = x3.toInt % 8 := b_and7 e241 (by omega)
      refine ok_bnd (fun v4 e242 => ?_)
      have t_v4 : v4.toInt = v2.toInt + v3.toInt := ti_add e242 rfl rfl (by omega) (by omega)
      refine ok_chk k_b1 ?_
      refine ok_chk (ti_inN (v := v4) (n := 64) n_b1 (by omega) (by omega)) ?_
      refine ok_bnd (fun S5 e243 => ?_)
      have T_S5 : ZT S5 := e243.symm ▸ zt_A hT k_b1
      have kE_S5 : zK S5 = zK S := by rw [e243]; rfl
      have nE_S5 : zN S5 = zN S := by rw [e243]; rfl
      have R_S5 : A7 SZ S5 := a7_A hR e243 hT k_b1 n_b1 (by decide)
      exact t_f_X0_play_66 (S := S5)  (x0 := x0) (x2 := x2) (x3 := x3) (x4 := x4) (x5 := t0) T_S5 R_S5 ((congrFun kE_S5 x0).trans r_x0) r_x2 r_x3 r_x4 r_t0
    ·
      replace c239 := ti_eqN (a := x3) (b := (zI S 5 x0)) c239 rfl rfl
      exact t_f_X0_play_66 (S := S)  (x0 := x0) (x2 := x2) (x3 := x3) (x4 := x4) (x5 := t0) hT hR r_x0 r_x2 r_x3 r_x4 r_t0
theorem t_f_X0_play_0 {SZ S : ZS} {x0 : Nat} {x1 : Int32} (hT : ZT S) (hR : A7 SZ S) (r_x0 : zK S x0 = 0) : Ok (f_X0_play_0 x0 x1 S) (fun o => ZT o.2 ∧ A7 SZ o.2 ∧ True) := by
  unfold f_X0_play_0
  refine ok_bnd (fun v1 e244 => ?_)
  have t_v1 := ti_and e244 (show (63 : Int32).toBitVec.toNat = 63 from rfl) (by decide)
  refine ok_bnd (fun v2 e245 => ?_)
  refine ok_bnd (fun v3 e246 => ?_)
  have t_v3 := ti_and e246 (show (63 : Int32).toBitVec.toNat = 63 from rfl) (by decide)
  refine ok_bnd (fun v4 e247 => ?_)
  refine ok_bnd (fun v5 e248 => ?_)
  have t_v5 := ti_and e248 (show (7 : Int32).toBitVec.toNat = 7 from rfl) (by decide)
  refine ok_chk r_x0 ?_
  obtain ⟨r6, h_r6, p_r6⟩ := roz (t_f_X0_kindAt (x0 := x0) (x1 := v1) hT r_x0 (by omega))
  dsimp only at p_r6
  refine ok_calR h_r6 ?_
  refine ok_if (fun c249 => ?_) (fun c249 => ?_)
  ·
    replace c249 := ti_eqP (a := r6) (b := (1 : Int32)) c249 rfl (show (1 : Int32).toInt = 1 from rfl)
    exact t_f_X0_play_36 (S := S)  (x0 := x0) (x2 := v1) (x3 := v3) (x4 := v5) (t0 := (1 : Int32)) hT hR r_x0 (by omega) (by omega) (by omega) (by decide)
  ·
    replace c249 := ti_eqN (a := r6) (b := (1 : Int32)) c249 rfl (show (1 : Int32).toInt = 1 from rfl)
    exact t_f_X0_play_36 (S := S)  (x0 := x0) (x2 := v1) (x3 := v3) (x4 := v5) (t0 := (0 : Int32)) hT hR r_x0 (by omega) (by omega) (by omega) (by decide)
theorem t_f_X0_play {SZ S : ZS} {x0 : Nat} {x1 : Int32} (hT : ZT S) (hR : A7 SZ S) (r_x0 : zK S x0 = 0) : Ok (f_X0_play x0 x1 S) (fun o => ZT o.2 ∧ A7 SZ o.2 ∧ True) := t_f_X0_play_0 hT hR r_x0
