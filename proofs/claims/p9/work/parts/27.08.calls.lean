theorem t_type_90s  {I : Nat → Int32} {A : Nat → Nat → Int32} {self90 : Int64 → Int32 → Int32 → (Nat → Int32) → (Nat → Nat → Int32) → Option (Int32 × MS)} {N90 : Nat} (hself90 : ∀ (x1 : Int64) (x3 : Int32) (x4 : Int32) (I : Nat → Int32) (A : Nat → Nat → Int32), TJ I → TK A → ((1 : Int) ≤ x3.toInt ∧ x3.toInt ≤ (8 : Int)) → ((0 : Int) ≤ x4.toInt ∧ x4.toInt ≤ (8 : Int)) → ((I 1).toInt + (x3.toInt - x4.toInt) ≤ 2000) → (9 - x4.toInt) < (N90 : Int) → Ok (self90 x1 x3 x4 I A) (fun o => TJ o.2.1 ∧ TK o.2.2 ∧ ((0 : Int) ≤ o.1.toInt ∧ o.1.toInt ≤ (1 : Int)))) {x1 : Int64} {x3 : Int32} {x4 : Int32} (hI : TJ I) (hA : TK A) (r_x3 : (1 : Int) ≤ x3.toInt ∧ x3.toInt ≤ (8 : Int)) (r_x4 : (0 : Int) ≤ x4.toInt ∧ x4.toInt ≤ (8 : Int)) (q0 : (I 1).toInt + (x3.toInt - x4.toInt) ≤ 2000) (m90 : (9 - x4.toInt) ≤ (N90 : Int)) : Ok (f_type_90s self90 x1 x3 x4 I A) (fun o => TJ o.2.1 ∧ TK o.2.2 ∧ ((0 : Int) ≤ o.1.toInt ∧ o.1.toInt ≤ (1 : Int))) := by
  unfold f_type_90s
  have b_I_1 := tI_1 hI
  refine ok_if (fun c1 => ?_) (fun c1 => ?_)
  ·
    replace c1 := ti_leP c1 rfl rfl
    refine ok_chk (by decide) ?_
    exact ok_ret ⟨hI, hA, (show (0 : Int) ≤ (1 : Int32).toInt ∧ (1 : Int32).toInt ≤ (1 : Int) from (by decide))⟩
  ·
    replace c1 := ti_leN c1 rfl rfl
    refine ok_bnd (fun v1 e2 => ?_)
    have t_v1 : v1.toInt = 8 * x4.toInt := ti_mul e2 (show (8 : Int32).toInt = 8 from rfl) rfl (by omega) (by omega)
    refine ok_bnd (fun v2 e3 => ?_)
    refine ok_bnd (fun v3 e4 => ?_)
    refine ok_bnd (fun v4 e5 => ?_)
    refine ok_bnd (fun v5 e6 => ?_)
    have t_v5 := nar_cb e6
    refine ok_chk (ti_in (by omega) (by omega)) ?_
    refine ok_bnd (fun A6 e7 => ?_)
    have hA_A6 : TK A6 := e7.symm ▸ tk_n hA rfl
    refine ok_bnd (fun v7 e8 => ?_)
    have t_v7 : v7.toInt = (I 1).toInt + 1 := ti_add e8 rfl (show (1 : Int32).toInt = 1 from rfl) (by omega) (by omega)
    refine ok_bnd (fun I8 e9 => ?_)
    have hI_I8 : TJ I8 := e9.symm ▸ tj_u hI (k := 1) (show (0 : Int) ≤ v7.toInt from (by omega)) (show v7.toInt ≤ (2000 : Int) from (by omega))
    have : (I8 1).toInt = v7.toInt := by rw [e9]; exact rfl
    refine ok_bnd (fun v9 e10 => ?_)
    have t_v9 : v9.toInt = x4.toInt + 1 := ti_add e10 rfl (show (1 : Int32).toInt = 1 from rfl) (by omega) (by omega)
    have b_I8_1 := tI_1 hI_I8
    exact hself90 x1 x3 v9 I8 A6 hI_I8 hA_A6 r_x3 (by omega) (by omega) (by omega)
theorem t_type_90   : ∀ (n : Nat) (x1 : Int64) (x3 : Int32) (x4 : Int32) (I : Nat → Int32) (A : Nat → Nat → Int32), TJ I → TK A → ((1 : Int) ≤ x3.toInt ∧ x3.toInt ≤ (8 : Int)) → ((0 : Int) ≤ x4.toInt ∧ x4.toInt ≤ (8 : Int)) → ((I 1).toInt + (x3.toInt - x4.toInt) ≤ 2000) → (9 - x4.toInt) < (n : Int) → Ok (f_type_90  n x1 x3 x4 I A) (fun o => TJ o.2.1 ∧ TK o.2.2 ∧ ((0 : Int) ≤ o.1.toInt ∧ o.1.toInt ≤ (1 : Int))) := by
  intro n
  induction n with
  | zero => intro x1 x3 x4 I A hI hA g0 g1 g2  hm; exfalso; omega
  | succ n ih =>
    intro x1 x3 x4 I A hI hA g0 g1 g2  hm
    exact t_type_90s   (N90 := n)  ih hI hA g0 g1 g2  (by omega)
theorem t_type_81  {I : Nat → Int32} {A : Nat → Nat → Int32} {self33 : Int64 → Int32 → Int32 → (Nat → Int32) → (Nat → Nat → Int32) → Option (Int32 × MS)} {N33 : Nat} (hself33 : ∀ (x1 : Int64) (x3 : Int32) (x4 : Int32) (I : Nat → Int32) (A : Nat → Nat → Int32), TJ I → TK A → ((1 : Int) ≤ x3.toInt ∧ x3.toInt ≤ (8 : Int)) → ((0 : Int) ≤ x4.toInt ∧ x4.toInt ≤ (8 : Int)) → ((I 1).toInt + x3.toInt ≤ 2000) → (9 - x4.toInt) < (N33 : Int) → Ok (self33 x1 x3 x4 I A) (fun o => TJ o.2.1 ∧ TK o.2.2 ∧ ((0 : Int) ≤ o.1.toInt ∧ o.1.toInt ≤ (1 : Int)))) {x1 : Int64} {x3 : Int32} {x4 : Int32} (hI : TJ I) (hA : TK A) (r_x3 : (1 : Int) ≤ x3.toInt ∧ x3.toInt ≤ (8 : Int)) (r_x4 : (0 : Int) ≤ x4.toInt ∧ x4.toInt ≤ (7 : Int)) (q0 : (I 1).toInt + x3.toInt ≤ 2000) (m33 : (9 - x4.toInt) ≤ (N33 : Int)) : Ok (f_type_81 self33 x1 x3 x4 I A) (fun o => TJ o.2.1 ∧ TK o.2.2 ∧ ((0 : Int) ≤ o.1.toInt ∧ o.1.toInt ≤ (1 : Int))) := by
  unfold f_type_81
  have b_I_1 := tI_1 hI
  refine ok_bnd (fun v1 e11 => ?_)
  have t_v1 : v1.toInt = x4.toInt + 1 := ti_add e11 rfl (show (1 : Int32).toInt = 1 from rfl) (by omega) (by omega)
  exact hself33 x1 x3 v1 I A hI hA r_x3 (by omega) q0 (by omega)
theorem t_type_33s  {I : Nat → Int32} {A : Nat → Nat → Int32} {self33 : Int64 → Int32 → Int32 → (Nat → Int32) → (Nat → Nat → Int32) → Option (Int32 × MS)} {N33 : Nat} (hself33 : ∀ (x1 : Int64) (x3 : Int32) (x4 : Int32) (I : Nat → Int32) (A : Nat → Nat → Int32), TJ I → TK A → ((1 : Int) ≤ x3.toInt ∧ x3.toInt ≤ (8 : Int)) → ((0 : Int) ≤ x4.toInt ∧ x4.toInt ≤ (8 : Int)) → ((I 1).toInt + x3.toInt ≤ 2000) → (9 - x4.toInt) < (N33 : Int) → Ok (self33 x1 x3 x4 I A) (fun o => TJ o.2.1 ∧ TK o.2.2 ∧ ((0 : Int) ≤ o.1.toInt ∧ o.1.toInt ≤ (1 : Int)))) {x1 : Int64} {x3 : Int32} {x4 : Int32} (hI : TJ I) (hA : TK A) (r_x3 : (1 : Int) ≤ x3.toInt ∧ x3.toInt ≤ (8 : Int)) (r_x4 : (0 : Int) ≤ x4.toInt ∧ x4.toInt ≤ (8 : Int)) (q0 : (I 1).toInt + x3.toInt ≤ 2000) (m33 : (9 - x4.toInt) ≤ (N33 : Int)) : Ok (f_type_33s self33 x1 x3 x4 I A) (fun o => TJ o.2.1 ∧ TK o.2.2 ∧ ((0 : Int) ≤ o.1.toInt ∧ o.1.toInt ≤ (1 : Int))) := by
  unfold f_type_33s
  have b_I_1 := tI_1 hI
  refine ok_if (fun c12 => ?_) (fun c12 => ?_)
  ·
    replace c12 := ti_leP c12 rfl rfl
    exact t_type_90     mFuel x1 x3 (0 : Int32) I A hI hA r_x3 (by decide) (by have z0 : (0 : Int32).toInt = 0 := rfl; omega) (by show _ < ((200000 : Nat) : Int); have z0 : (0 : Int32).toInt = 0 := rfl; omega)
  ·
    replace c12 := ti_leN c12 rfl rfl
    refine ok_bnd (fun v1 e13 => ?_)
    have t_v1 : v1.toInt = 8 * x4.toInt := ti_mul e13 (show (8 : Int32).toInt = 8 from rfl) rfl (by omega) (by omega)
    refine ok_bnd (fun v2 e14 => ?_)
    refine ok_bnd (fun v3 e15 => ?_)
    refine ok_bnd (fun v4 e16 => ?_)
    refine ok_if (fun c17 => ?_) (fun c17 => ?_)
    ·
      replace c17 := ti_eqP c17 rfl (show (0 : Int32).toInt = 0 from rfl)
      exact t_type_81   hself33 (x1 := x1) (x3 := x3) (x4 := x4) hI hA r_x3 (by omega) q0 m33
    ·
      replace c17 := ti_eqN c17 rfl (show (0 : Int32).toInt = 0 from rfl)
      refine ok_bnd (fun v5 e18 => ?_)
      refine ok_if (fun c19 => ?_) (fun c19 => ?_)
      ·
        replace c19 := ti_ltP c19 rfl (show (0 : Int32).toInt = 0 from rfl)
        unfold f_type_79
        refine ok_chk (by decide) ?_
        exact ok_ret ⟨hI, hA, (show (0 : Int) ≤ (0 : Int32).toInt ∧ (0 : Int32).toInt ≤ (1 : Int) from (by decide))⟩
      ·
        replace c19 := ti_ltN c19 rfl (show (0 : Int32).toInt = 0 from rfl)
        refine ok_bnd (fun v6 e20 => ?_)
        refine ok_if (fun c21 => ?_) (fun c21 => ?_)
        ·
          replace c21 := ti_leP c21 rfl (show (0 : Int32).toInt = 0 from rfl)
          exact t_type_81   hself33 (x1 := x1) (x3 := x3) (x4 := x4) hI hA r_x3 (by omega) q0 m33
        ·
          replace c21 := ti_leN c21 rfl (show (0 : Int32).toInt = 0 from rfl)
          unfold f_type_79
          refine ok_chk (by decide) ?_
          exact ok_ret ⟨hI, hA, (show (0 : Int) ≤ (0 : Int32).toInt ∧ (0 : Int32).toInt ≤ (1 : Int) from (by decide))⟩
theorem t_type_33   : ∀ (n : Nat) (x1 : Int64) (x3 : Int32) (x4 : Int32) (I : Nat → Int32) (A : Nat → Nat → Int32), TJ I → TK A → ((1 : Int) ≤ x3.toInt ∧ x3.toInt ≤ (8 : Int)) → ((0 : Int) ≤ x4.toInt ∧ x4.toInt ≤ (8 : Int)) → ((I 1).toInt + x3.toInt ≤ 2000) → (9 - x4.toInt) < (n : Int) → Ok (f_type_33  n x1 x3 x4 I A) (fun o => TJ o.2.1 ∧ TK o.2.2 ∧ ((0 : Int) ≤ o.1.toInt ∧ o.1.toInt ≤ (1 : Int))) := by
  intro n
  induction n with
  | zero => intro x1 x3 x4 I A hI hA g0 g1 g2  hm; exfalso; omega
  | succ n ih =>
    intro x1 x3 x4 I A hI hA g0 g1 g2  hm
    exact t_type_33s   (N33 := n)  ih hI hA g0 g1 g2  (by omega)
theorem t_type_0  {I : Nat → Int32} {A : Nat → Nat → Int32} {x1 : Int64} {x3 : Int32} (hI : TJ I) (hA : TK A) : Ok (f_type_0 x1 x3 I A) (fun o => TJ o.2.1 ∧ TK o.2.2 ∧ ((0 : Int) ≤ o.1.toInt ∧ o.1.toInt ≤ (1 : Int))) := by
  unfold f_type_0
  have b_I_1 := tI_1 hI
  refine ok_bnd (fun I1 e22 => ?_)
  have hI_I1 : TJ I1 := e22.symm ▸ tj_u hI (k := 0) (show (0 : Int) ≤ (0 : Int32).toInt from (by decide)) (show (0 : Int32).toInt ≤ (2 : Int) from (by decide))
  have : (I1 1).toInt = (I 1).toInt := by rw [e22]; rfl
  refine ok_if (fun c23 => ?_) (fun c23 => ?_)
  ·
    replace c23 := ti_ltP c23 rfl (show (1 : Int32).toInt = 1 from rfl)
    unfold f_type_28
    refine ok_chk (by decide) ?_
    exact ok_ret ⟨hI_I1, hA, (show (0 : Int) ≤ (0 : Int32).toInt ∧ (0 : Int32).toInt ≤ (1 : Int) from (by decide))⟩
  ·
    replace c23 := ti_ltN c23 rfl (show (1 : Int32).toInt = 1 from rfl)
    refine ok_if (fun c24 => ?_) (fun c24 => ?_)
    ·
      replace c24 := ti_ltP c24 (show (8 : Int32).toInt = 8 from rfl) rfl
      unfold f_type_28
      refine ok_chk (by decide) ?_
      exact ok_ret ⟨hI_I1, hA, (show (0 : Int) ≤ (0 : Int32).toInt ∧ (0 : Int32).toInt ≤ (1 : Int) from (by decide))⟩
    ·
      replace c24 := ti_ltN c24 (show (8 : Int32).toInt = 8 from rfl) rfl
      refine ok_bnd (fun v2 e25 => ?_)
      have b_I1_1 := tI_1 hI_I1
      have t_v2 : v2.toInt = (I1 1).toInt + x3.toInt := ti_add e25 rfl rfl (by omega) (by omega)
      refine ok_if (fun c26 => ?_) (fun c26 => ?_)
      ·
        replace c26 := ti_leP c26 rfl (show (2000 : Int32).toInt = 2000 from rfl)
        exact t_type_33     mFuel x1 x3 (0 : Int32) I1 A hI_I1 hA (by omega) (by decide) (by have z0 : (0 : Int32).toInt = 0 := rfl; omega) (by show _ < ((200000 : Nat) : Int); have z0 : (0 : Int32).toInt = 0 := rfl; omega)
      ·
        replace c26 := ti_leN c26 rfl (show (2000 : Int32).toInt = 2000 from rfl)
        unfold f_type_28
        refine ok_chk (by decide) ?_
        exact ok_ret ⟨hI_I1, hA, (show (0 : Int) ≤ (0 : Int32).toInt ∧ (0 : Int32).toInt ≤ (1 : Int) from (by decide))⟩
theorem t_type  {I : Nat → Int32} {A : Nat → Nat → Int32} {x1 : Int64} {x3 : Int32} (hI : TJ I) (hA : TK A) : Ok (f_type x1 x3 I A) (fun o => TJ o.2.1 ∧ TK o.2.2 ∧ ((0 : Int) ≤ o.1.toInt ∧ o.1.toInt ≤ (1 : Int))) := t_type_0  hI hA 
theorem t_cut_0  {I : Nat → Int32} {A : Nat → Nat → Int32} {x1 : Int32} (hI : TJ I) (hA : TK A) : Ok (f_cut_0 x1 I A) (fun o => TJ o.2.1 ∧ TK o.2.2 ∧ ((0 : Int) ≤ o.1.toInt ∧ o.1.toInt ≤ (1 : Int))) := by
  unfold f_cut_0
  have b_I_1 := tI_1 hI
  refine ok_bnd (fun I1 e27 => ?_)
  have hI_I1 : TJ I1 := e27.symm ▸ tj_u hI (k := 0) (show (0 : Int) ≤ (0 : Int32).toInt from (by decide)) (show (0 : Int32).toInt ≤ (2 : Int) from (by decide))
  have : (I1 1).toInt = (I 1).toInt := by rw [e27]; rfl
  refine ok_if (fun c28 => ?_) (fun c28 => ?_)
  ·
    replace c28 := ti_ltP c28 rfl (show (0 : Int32).toInt = 0 from rfl)
    unfold f_cut_17
    refine ok_chk (by decide) ?_
    exact ok_ret ⟨hI_I1, hA, (show (0 : Int) ≤ (0 : Int32).toInt ∧ (0 : Int32).toInt ≤ (1 : Int) from (by decide))⟩
  ·
    replace c28 := ti_ltN c28 rfl (show (0 : Int32).toInt = 0 from rfl)
    have b_I1_1 := tI_1 hI_I1
    refine ok_if (fun c29 => ?_) (fun c29 => ?_)
    ·
      replace c29 := ti_leP c29 rfl rfl
      refine ok_bnd (fun I2 e30 => ?_)
      have hI_I2 : TJ I2 := e30.symm ▸ tj_u hI_I1 (k := 1) (show (0 : Int) ≤ x1.toInt from (by omega)) (show x1.toInt ≤ (2000 : Int) from (by omega))
      have : (I2 1).toInt = x1.toInt := by rw [e30]; exact rfl
      refine ok_chk (by decide) ?_
      exact ok_ret ⟨hI_I2, hA, (show (0 : Int) ≤ (1 : Int32).toInt ∧ (1 : Int32).toInt ≤ (1 : Int) from (by decide))⟩
    ·
      replace c29 := ti_leN c29 rfl rfl
      unfold f_cut_17
      refine ok_chk (by decide) ?_
      exact ok_ret ⟨hI_I1, hA, (show (0 : Int) ≤ (0 : Int32).toInt ∧ (0 : Int32).toInt ≤ (1 : Int) from (by decide))⟩
theorem t_cut  {I : Nat → Int32} {A : Nat → Nat → Int32} {x1 : Int32} (hI : TJ I) (hA : TK A) : Ok (f_cut x1 I A) (fun o => TJ o.2.1 ∧ TK o.2.2 ∧ ((0 : Int) ≤ o.1.toInt ∧ o.1.toInt ≤ (1 : Int))) := t_cut_0  hI hA 
theorem t_ink_0  {I : Nat → Int32} {A : Nat → Nat → Int32} {x1 : Int32} (hI : TJ I) (hA : TK A) (q0 : (I 3).toInt ≤ 79999) : Ok (f_ink_0 x1 I A) (fun o => TJ o.2.1 ∧ TK o.2.2 ∧ ((o.2.1 3).toInt = (I 3).toInt + 1)) := by
  unfold f_ink_0
  have b_I_3 := tI_3 hI
  refine ok_chk (ti_in (by omega) (by omega)) ?_
  refine ok_bnd (fun A1 e31 => ?_)
  have hA_A1 : TK A1 := e31.symm ▸ tk_n hA rfl
  refine ok_bnd (fun v2 e32 => ?_)
  have t_v2 : v2.toInt = (I 3).toInt + 1 := ti_add e32 rfl (show (1 : Int32).toInt = 1 from rfl) (by omega) (by omega)
  refine ok_bnd (fun I3 e33 => ?_)
  have hI_I3 : TJ I3 := e33.symm ▸ tj_u hI (k := 3) (show (0 : Int) ≤ v2.toInt from (by omega)) (show v2.toInt ≤ (80000 : Int) from (by omega))
  have : (I3 3).toInt = v2.toInt := by rw [e33]; exact rfl
  exact ok_ret ⟨hI_I3, hA_A1, (by show (I3 3).toInt = (I 3).toInt + 1; have z : (0 : Int32).toInt = 0 := rfl; omega)⟩
theorem t_ink  {I : Nat → Int32} {A : Nat → Nat → Int32} {x1 : Int32} (hI : TJ I) (hA : TK A) (q0 : (I 3).toInt ≤ 79999) : Ok (f_ink x1 I A) (fun o => TJ o.2.1 ∧ TK o.2.2 ∧ ((o.2.1 3).toInt = (I 3).toInt + 1)) := t_ink_0  hI hA q0
theorem t_sayNumber_18s {cc : Int} {I : Nat → Int32} {A : Nat → Nat → Int32} {self18 : Int32 → Int32 → (Nat → Int32) → (Nat → Nat → Int32) → Option (Int32 × MS)} {N18 : Nat} (hself18 : ∀ (x1 : Int32) (x2 : Int32) (I : Nat → Int32) (A : Nat → Nat → Int32), TJ I → TK A → ((-1 : Int) ≤ x1.toInt ∧ x1.toInt ≤ (100000 : Int)) → ((0 : Int) ≤ x2.toInt ∧ x2.toInt ≤ (100000 : Int)) → ((I 3).toInt ≤ cc + 6 ∧ (1 ≤ x2.toInt → (I 3).toInt ≤ cc + 5) ∧ (10 ≤ x2.toInt → (I 3).toInt ≤ cc + 4) ∧ (100 ≤ x2.toInt → (I 3).toInt ≤ cc + 3) ∧ (1000 ≤ x2.toInt → (I 3).toInt ≤ cc + 2) ∧ (10000 ≤ x2.toInt → (I 3).toInt ≤ cc + 1) ∧ (100000 ≤ x2.toInt → (I 3).toInt ≤ cc) ∧ cc ≤ 79900) → (x2.toInt + 1) < (N18 : Int) → Ok (self18 x1 x2 I A) (fun o => TJ o.2.1 ∧ TK o.2.2 ∧ ((o.2.1 3).toInt ≤ cc + 6))) {x1 : Int32} {x2 : Int32} (hI : TJ I) (hA : TK A) (r_x1 : (-1 : Int) ≤ x1.toInt ∧ x1.toInt ≤ (100000 : Int)) (r_x2 : (0 : Int) ≤ x2.toInt ∧ x2.toInt ≤ (100000 : Int)) (q0 : (I 3).toInt ≤ cc + 6 ∧ (1 ≤ x2.toInt → (I 3).toInt ≤ cc + 5) ∧ (10 ≤ x2.toInt → (I 3).toInt ≤ cc + 4) ∧ (100 ≤ x2.toInt → (I 3).toInt ≤ cc + 3) ∧ (1000 ≤ x2.toInt → (I 3).toInt ≤ cc + 2) ∧ (10000 ≤ x2.toInt → (I 3).toInt ≤ cc + 1) ∧ (100000 ≤ x2.toInt → (I 3).toInt ≤ cc) ∧ cc ≤ 79900) (m18 : (x2.toInt + 1) ≤ (N18 : Int)) : Ok (f_sayNumber_18s self18 x1 x2 I A) (fun o => TJ o.2.1 ∧ TK o.2.2 ∧ ((o.2.1 3).toInt ≤ cc + 6)) := by
  unfold f_sayNumber_18s
  have b_I_3 := tI_3 hI
  refine ok_if (fun c34 => ?_) (fun c34 => ?_)
  ·
    replace c34 := ti_leP c34 rfl (show (0 : Int32).toInt = 0 from rfl)
    exact ok_ret ⟨hI, hA, (by show (I 3).toInt ≤ cc + 6; have z : (0 : Int32).toInt = 0 := rfl; omega)⟩
  ·
    replace c34 := ti_leN c34 rfl (show (0 : Int32).toInt = 0 from rfl)
    refine ok_chk (ti_ne0 (by omega)) ?_
    refine ok_bnd (fun v1 e35 => ?_)
    refine ok_bnd (fun v2 e36 => ?_)
    refine ok_bnd (fun v3 e37 => ?_)
    refine ok_bnd (fun v4 e38 => ?_)
    have t_v4 := nar_cb e38
    obtain ⟨⟨r5, Ic5, Ac5⟩, h_r5, hI_Ic5, hA_Ac5, p_r5_0⟩ := t_ink (x1 := v4)  hI hA (by omega)
    replace hI_Ic5 : TJ Ic5 := hI_Ic5
    replace hA_Ac5 : TK Ac5 := hA_Ac5
    dsimp only at p_r5_0
    refine ok_clR h_r5 ?_
    refine ok_bnd (fun v6 e39 => ?_)
    have t_v6 : v6.toInt = x2.toInt / 10 := ti_div e39 rfl (show (10 : Int32).toInt = 10 from rfl) (by omega) (by decide)
    have b_Ic5_3 := tI_3 hI_Ic5
    exact hself18 x1 v6 Ic5 Ac5 hI_Ic5 hA_Ac5 r_x1 (by omega) (by omega) (by omega)
theorem t_sayNumber_18 {cc : Int}  : ∀ (n : Nat) (x1 : Int32) (x2 : Int32) (I : Nat → Int32) (A : Nat → Nat → Int32), TJ I → TK A → ((-1 : Int) ≤ x1.toInt ∧ x1.toInt ≤ (100000 : Int)) → ((0 : Int) ≤ x2.toInt ∧ x2.toInt ≤ (100000 : Int)) → ((I 3).toInt ≤ cc + 6 ∧ (1 ≤ x2.toInt → (I 3).toInt ≤ cc + 5) ∧ (10 ≤ x2.toInt → (I 3).toInt ≤ cc + 4) ∧ (100 ≤ x2.toInt → (I 3).toInt ≤ cc + 3) ∧ (1000 ≤ x2.toInt → (I 3).toInt ≤ cc + 2) ∧ (10000 ≤ x2.toInt → (I 3).toInt ≤ cc + 1) ∧ (100000 ≤ x2.toInt → (I 3).toInt ≤ cc) ∧ cc ≤ 79900) → (x2.toInt + 1) < (n : Int) → Ok (f_sayNumber_18  n x1 x2 I A) (fun o => TJ o.2.1 ∧ TK o.2.2 ∧ ((o.2.1 3).toInt ≤ cc + 6)) := by
  intro n
  induction n with
  | zero => intro x1 x2 I A hI hA g0 g1 g2  hm; exfalso; omega
  | succ n ih =>
    intro x1 x2 I A hI hA g0 g1 g2  hm
    exact t_sayNumber_18s (cc := cc)  (N18 := n)  ih hI hA g0 g1 g2  (by omega)
theorem t_sayNumber_2s {cc : Int} {I : Nat → Int32} {A : Nat → Nat → Int32} {self2 : Int32 → Int32 → (Nat → Int32) → (Nat → Nat → Int32) → Option (Int32 × MS)} {N2 : Nat} (hself2 : ∀ (x1 : Int32) (x2 : Int32) (I : Nat → Int32) (A : Nat → Nat → Int32), TJ I → TK A → ((-1 : Int) ≤ x1.toInt ∧ x1.toInt ≤ (100000 : Int)) → ((1 : Int) ≤ x2.toInt ∧ x2.toInt ≤ (100000 : Int)) → ((I 3).toInt ≤ cc ∧ cc ≤ 79700) → (x2.toInt ≤ x1.toInt ∨ x2.toInt = 1) → (100001 - x2.toInt) < (N2 : Int) → Ok (self2 x1 x2 I A) (fun o => TJ o.2.1 ∧ TK o.2.2 ∧ ((o.2.1 3).toInt ≤ cc + 6))) {x1 : Int32} {x2 : Int32} (hI : TJ I) (hA : TK A) (r_x1 : (-1 : Int) ≤ x1.toInt ∧ x1.toInt ≤ (100000 : Int)) (r_x2 : (1 : Int) ≤ x2.toInt ∧ x2.toInt ≤ (100000 : Int)) (q0 : (I 3).toInt ≤ cc ∧ cc ≤ 79700) (q1 : x2.toInt ≤ x1.toInt ∨ x2.toInt = 1) (m2 : (100001 - x2.toInt) ≤ (N2 : Int)) : Ok (f_sayNumber_2s self2 x1 x2 I A) (fun o => TJ o.2.1 ∧ TK o.2.2 ∧ ((o.2.1 3).toInt ≤ cc + 6)) := by
  unfold f_sayNumber_2s
  have b_I_3 := tI_3 hI
  refine ok_bnd (fun v1 e40 => ?_)
  have t_v1 : v1.toInt = x2.toInt * 10 := ti_mul e40 rfl (show (10 : Int32).toInt = 10 from rfl) (by omega) (by omega)
  refine ok_if (fun c41 => ?_) (fun c41 => ?_)
  ·
    replace c41 := ti_ltP c41 rfl rfl
    exact t_sayNumber_18 (cc := cc)    mFuel x1 x2 I A hI hA r_x1 (by omega) (by omega) (by show _ < ((200000 : Nat) : Int); omega)
  ·
    replace c41 := ti_ltN c41 rfl rfl
    refine ok_bnd (fun v2 e42 => ?_)
    have t_v2 : v2.toInt = x2.toInt * 10 := ti_mul e42 rfl (show (10 : Int32).toInt = 10 from rfl) (by omega) (by omega)
    exact hself2 x1 v2 I A hI hA r_x1 (by omega) q0 (by omega) (by omega)
theorem t_sayNumber_2 {cc : Int}  : ∀ (n : Nat) (x1 : Int32) (x2 : Int32) (I : Nat → Int32) (A : Nat → Nat → Int32), TJ I → TK A → ((-1 : Int) ≤ x1.toInt ∧ x1.toInt ≤ (100000 : Int)) → ((1 : Int) ≤ x2.toInt ∧ x2.toInt ≤ (100000 : Int)) → ((I 3).toInt ≤ cc ∧ cc ≤ 79700) → (x2.toInt ≤ x1.toInt ∨ x2.toInt = 1) → (100001 - x2.toInt) < (n : Int) → Ok (f_sayNumber_2  n x1 x2 I A) (fun o => TJ o.2.1 ∧ TK o.2.2 ∧ ((o.2.1 3).toInt ≤ cc + 6)) := by
  intro n
  induction n with
  | zero => intro x1 x2 I A hI hA g0 g1 g2 g3  hm; exfalso; omega
  | succ n ih =>
    intro x1 x2 I A hI hA g0 g1 g2 g3  hm
    exact t_sayNumber_2s (cc := cc)  (N2 := n)  ih hI hA g0 g1 g2 g3  (by omega)
theorem t_sayNumber_0 {cc : Int} {I : Nat → Int32} {A : Nat → Nat → Int32} {x1 : Int32} (hI : TJ I) (hA : TK A) (r_x1 : (-1 : Int) ≤ x1.toInt ∧ x1.toInt ≤ (100000 : Int)) (q0 : (I 3).toInt ≤ cc ∧ cc ≤ 79700) : Ok (f_sayNumber_0 x1 I A) (fun o => TJ o.2.1 ∧ TK o.2.2 ∧ ((o.2.1 3).toInt ≤ cc + 6)) := by
  unfold f_sayNumber_0
  have b_I_3 := tI_3 hI
  exact t_sayNumber_2 (cc := cc)    mFuel x1 (1 : Int32) I A hI hA r_x1 (by decide) q0 (by have z0 : (1 : Int32).toInt = 1 := rfl; omega) (by show _ < ((200000 : Nat) : Int); have z0 : (1 : Int32).toInt = 1 := rfl; omega)
theorem t_sayNumber {cc : Int} {I : Nat → Int32} {A : Nat → Nat → Int32} {x1 : Int32} (hI : TJ I) (hA : TK A) (r_x1 : (-1 : Int) ≤ x1.toInt ∧ x1.toInt ≤ (100000 : Int)) (q0 : (I 3).toInt ≤ cc ∧ cc ≤ 79700) : Ok (f_sayNumber x1 I A) (fun o => TJ o.2.1 ∧ TK o.2.2 ∧ ((o.2.1 3).toInt ≤ cc + 6)) := t_sayNumber_0 (cc := cc) hI hA r_x1 q0
theorem t_sayRemark_8s {cc : Int} {I : Nat → Int32} {A : Nat → Nat → Int32} {self8 : Int32 → Int32 → (Nat → Int32) → (Nat → Nat → Int32) → Option (Int32 × MS)} {N8 : Nat} (hself8 : ∀ (x1 : Int32) (x2 : Int32) (I : Nat → Int32) (A : Nat → Nat → Int32), TJ I → TK A → ((0 : Int) ≤ x1.toInt ∧ x1.toInt ≤ (601 : Int)) → ((0 : Int) ≤ x2.toInt ∧ x2.toInt ≤ (200 : Int)) → ((I 3).toInt ≤ cc + 1 + x2.toInt ∧ cc ≤ 79700) → (201 - x2.toInt) < (N8 : Int) → Ok (self8 x1 x2 I A) (fun o => TJ o.2.1 ∧ TK o.2.2 ∧ ((o.2.1 3).toInt ≤ cc + 202))) {x1 : Int32} {x2 : Int32} (hI : TJ I) (hA : TK A) (r_x1 : (0 : Int) ≤ x1.toInt ∧ x1.toInt ≤ (601 : Int)) (r_x2 : (0 : Int) ≤ x2.toInt ∧ x2.toInt ≤ (200 : Int)) (q0 : (I 3).toInt ≤ cc + 1 + x2.toInt ∧ cc ≤ 79700) (m8 : (201 - x2.toInt) ≤ (N8 : Int)) : Ok (f_sayRemark_8s self8 x1 x2 I A) (fun o => TJ o.2.1 ∧ TK o.2.2 ∧ ((o.2.1 3).toInt ≤ cc + 202)) := by
  unfold f_sayRemark_8s
  have b_I_3 := tI_3 hI
  refine ok_chk (ti_in (by omega) (by omega)) ?_
  refine ok_bnd (fun v1 e43 => ?_)
  have b_v1 := tA_14 hA ((x1).toNatClampNeg)
  rw [← e43] at b_v1
  refine ok_if (fun c44 => ?_) (fun c44 => ?_)
  ·
    replace c44 := ti_leP c44 rfl rfl
    obtain ⟨⟨r2, Ic2, Ac2⟩, h_r2, hI_Ic2, hA_Ac2, p_r2_0⟩ := t_ink (x1 := (125 : Int32))  hI hA (by have z0 : (125 : Int32).toInt = 125 := rfl; omega)
    replace hI_Ic2 : TJ Ic2 := hI_Ic2
    replace hA_Ac2 : TK Ac2 := hA_Ac2
    dsimp only at p_r2_0
    refine ok_clR h_r2 ?_
    exact ok_ret ⟨hI_Ic2, hA_Ac2, (by show (Ic2 3).toInt ≤ cc + 202; have z : (0 : Int32).toInt = 0 := rfl; omega)⟩
  ·
    replace c44 := ti_leN c44 rfl rfl
    refine ok_bnd (fun v3 e45 => ?_)
    have t_v3 : v3.toInt = 200 * x1.toInt := ti_mul e45 (show (200 : Int32).toInt = 200 from rfl) rfl (by omega) (by omega)
    refine ok_bnd (fun v4 e46 => ?_)
    have t_v4 : v4.toInt = v3.toInt + x2.toInt := ti_add e46 rfl rfl (by omega) (by omega)
    refine ok_chk (ti_in (by omega) (by omega)) ?_
    refine ok_bnd (fun v5 e47 => ?_)
    have b_v5 := tA_15 hA ((v4).toNatClampNeg)
    rw [← e47] at b_v5
    obtain ⟨⟨r6, Ic6, Ac6⟩, h_r6, hI_Ic6, hA_Ac6, p_r6_0⟩ := t_ink (x1 := v5)  hI hA (by omega)
    replace hI_Ic6 : TJ Ic6 := hI_Ic6
    replace hA_Ac6 : TK Ac6 := hA_Ac6
    dsimp only at p_r6_0
    refine ok_clR h_r6 ?_
    refine ok_bnd (fun v7 e48 => ?_)
    have t_v7 : v7.toInt = x2.toInt + 1 := ti_add e48 rfl (show (1 : Int32).toInt = 1 from rfl) (by omega) (by omega)
    have b_Ic6_3 := tI_3 hI_Ic6
    exact hself8 x1 v7 Ic6 Ac6 hI_Ic6 hA_Ac6 r_x1 (by omega) (by omega) (by omega)
theorem t_sayRemark_8 {cc : Int}  : ∀ (n : Nat) (x1 : Int32) (x2 : Int32) (I : Nat → Int32) (A : Nat → Nat → Int32), TJ I → TK A → ((0 : Int) ≤ x1.toInt ∧ x1.toInt ≤ (601 : Int)) → ((0 : Int) ≤ x2.toInt ∧ x2.toInt ≤ (200 : Int)) → ((I 3).toInt ≤ cc + 1 + x2.toInt ∧ cc ≤ 79700) → (201 - x2.toInt) < (n : Int) → Ok (f_sayRemark_8  n x1 x2 I A) (fun o => TJ o.2.1 ∧ TK o.2.2 ∧ ((o.2.1 3).toInt ≤ cc + 202)) := by
  intro n
  induction n with
  | zero => intro x1 x2 I A hI hA g0 g1 g2  hm; exfalso; omega
  | succ n ih =>
    intro x1 x2 I A hI hA g0 g1 g2  hm
    exact t_sayRemark_8s (cc := cc)  (N8 := n)  ih hI hA g0 g1 g2  (by omega)
theorem t_sayRemark_0 {cc : Int} {I : Nat → Int32} {A : Nat → Nat → Int32} {x1 : Int32} (hI : TJ I) (hA : TK A) (r_x1 : (0 : Int) ≤ x1.toInt ∧ x1.toInt ≤ (601 : Int)) (q0 : (I 3).toInt ≤ cc ∧ cc ≤ 79700) : Ok (f_sayRemark_0 x1 I A) (fun o => TJ o.2.1 ∧ TK o.2.2 ∧ ((o.2.1 3).toInt ≤ cc + 202)) := by
  unfold f_sayRemark_0
  have b_I_3 := tI_3 hI
  obtain ⟨⟨r1, Ic1, Ac1⟩, h_r1, hI_Ic1, hA_Ac1, p_r1_0⟩ := t_ink (x1 := (123 : Int32))  hI hA (by have z0 : (123 : Int32).toInt = 123 := rfl; omega)
  replace hI_Ic1 : TJ Ic1 := hI_Ic1
  replace hA_Ac1 : TK Ac1 := hA_Ac1
  dsimp only at p_r1_0
  refine ok_clR h_r1 ?_
  have b_Ic1_3 := tI_3 hI_Ic1
  exact t_sayRemark_8 (cc := cc)    mFuel x1 (0 : Int32) Ic1 Ac1 hI_Ic1 hA_Ac1 r_x1 (by decide) (by have z0 : (0 : Int32).toInt = 0 := rfl; omega) (by show _ < ((200000 : Nat) : Int); have z0 : (0 : Int32).toInt = 0 := rfl; omega)
theorem t_sayRemark {cc : Int} {I : Nat → Int32} {A : Nat → Nat → Int32} {x1 : Int32} (hI : TJ I) (hA : TK A) (r_x1 : (0 : Int) ≤ x1.toInt ∧ x1.toInt ≤ (601 : Int)) (q0 : (I 3).toInt ≤ cc ∧ cc ≤ 79700) : Ok (f_sayRemark x1 I A) (fun o => TJ o.2.1 ∧ TK o.2.2 ∧ ((o.2.1 3).toInt ≤ cc + 202)) := t_sayRemark_0 (cc := cc) hI hA r_x1 q0
theorem t_isLegal_31  {I : Nat → Int32} {A : Nat → Nat → Int32} {self4 : Int32 → Int32 → Int32 → (Nat → Int32) → (Nat → Nat → Int32) → Option (Int32 × MS)} {N4 : Nat} (hself4 : ∀ (x1 : Int32) (x2 : Int32) (x3 : Int32),  ((0 : Int) ≤ x2.toInt ∧ x2.toInt ≤ (1 : Int)) → ((0 : Int) ≤ x3.toInt ∧ x3.toInt ≤ (2048 : Int)) → (x2.toInt = 1 → 0 ≤ x1.toInt ∧ x1.toInt ≤ 24575) → (2049 - x3.toInt) < (N4 : Int) → Ok (self4 x1 x2 x3 I A) (fun o => o.2 = (I, A) ∧ ((0 : Int) ≤ o.1.toInt ∧ o.1.toInt ≤ (1 : Int)) ∧ ((o.1.toInt = 1 → 0 ≤ x1.toInt ∧ x1.toInt ≤ 24575)))) {x1 : Int32} {x3 : Int32} {t0 : Int32} (hI : TJ I) (hA : TK A) (r_x3 : (0 : Int) ≤ x3.toInt ∧ x3.toInt ≤ (2047 : Int)) (r_t0 : (0 : Int) ≤ t0.toInt ∧ t0.toInt ≤ (1 : Int)) (q0 : t0.toInt = 1 → 0 ≤ x1.toInt ∧ x1.toInt ≤ 24575) (m4 : (2049 - x3.toInt) ≤ (N4 : Int)) : Ok (f_isLegal_31 self4 x1 x3 t0 I A) (fun o => o.2 = (I, A) ∧ ((0 : Int) ≤ o.1.toInt ∧ o.1.toInt ≤ (1 : Int)) ∧ ((o.1.toInt = 1 → 0 ≤ x1.toInt ∧ x1.toInt ≤ 24575))) := by
  unfold f_isLegal_31
  refine ok_bnd (fun v1 e49 => ?_)
  have t_v1 : v1.toInt = x3.toInt + 1 := ti_add e49 rfl (show (1 : Int32).toInt = 1 from rfl) (by omega) (by omega)
  exact hself4 x1 t0 v1 r_t0 (by omega) q0 (by omega)
theorem t_isLegal_4s  {I : Nat → Int32} {A : Nat → Nat → Int32} {self4 : Int32 → Int32 → Int32 → (Nat → Int32) → (Nat → Nat → Int32) → Option (Int32 × MS)} {N4 : Nat} (hself4 : ∀ (x1 : Int32) (x2 : Int32) (x3 : Int32),  ((0 : Int) ≤ x2.toInt ∧ x2.toInt ≤ (1 : Int)) → ((0 : Int) ≤ x3.toInt ∧ x3.toInt ≤ (2048 : Int)) → (x2.toInt = 1 → 0 ≤ x1.toInt ∧ x1.toInt ≤ 24575) → (2049 - x3.toInt) < (N4 : Int) → Ok (self4 x1 x2 x3 I A) (fun o => o.2 = (I, A) ∧ ((0 : Int) ≤ o.1.toInt ∧ o.1.toInt ≤ (1 : Int)) ∧ ((o.1.toInt = 1 → 0 ≤ x1.toInt ∧ x1.toInt ≤ 24575)))) {x1 : Int32} {x2 : Int32} {x3 : Int32} (hI : TJ I) (hA : TK A) (r_x2 : (0 : Int) ≤ x2.toInt ∧ x2.toInt ≤ (1 : Int)) (r_x3 : (0 : Int) ≤ x3.toInt ∧ x3.toInt ≤ (2048 : Int)) (q0 : x2.toInt = 1 → 0 ≤ x1.toInt ∧ x1.toInt ≤ 24575) (m4 : (2049 - x3.toInt) ≤ (N4 : Int)) : Ok (f_isLegal_4s self4 x1 x2 x3 I A) (fun o => o.2 = (I, A) ∧ ((0 : Int) ≤ o.1.toInt ∧ o.1.toInt ≤ (1 : Int)) ∧ ((o.1.toInt = 1 → 0 ≤ x1.toInt ∧ x1.toInt ≤ 24575))) := by
  unfold f_isLegal_4s
  have b_I_33 := tI_33 hI
  refine ok_if (fun c50 => ?_) (fun c50 => ?_)
  ·
    replace c50 := ti_leP c50 rfl rfl
    refine ok_chk (nar_b (by omega) (by omega)) ?_
    exact ok_ret ⟨rfl, (show (0 : Int) ≤ x2.toInt ∧ x2.toInt ≤ (1 : Int) from (by omega)), (by show ((x2 : Int32).toInt = 1 → 0 ≤ x1.toInt ∧ x1.toInt ≤ 24575); omega)⟩
  ·
    replace c50 := ti_leN c50 rfl rfl
    refine ok_if (fun c51 => ?_) (fun c51 => ?_)
    ·
      replace c51 := ti_eqP c51 rfl (show (0 : Int32).toInt = 0 from rfl)
      refine ok_chk (ti_in (by omega) (by omega)) ?_
      refine ok_bnd (fun v1 e52 => ?_)
      have b_v1 := tA_32 hA ((x3).toNatClampNeg)
      rw [← e52] at b_v1
      refine ok_if (fun c53 => ?_) (fun c53 => ?_)
      ·
        replace c53 := ti_eqP c53 rfl rfl
        unfold f_isLegal_26
        exact t_isLegal_31   hself4 (x1 := x1) (x3 := x3) (t0 := (1 : Int32)) hI hA (by omega) (by decide) (by have z0 : (1 : Int32).toInt = 1 := rfl; omega) m4
      ·
        replace c53 := ti_eqN c53 rfl rfl
        exact t_isLegal_31   hself4 (x1 := x1) (x3 := x3) (t0 := (0 : Int32)) hI hA (by omega) (by decide) (by have z0 : (0 : Int32).toInt = 0 := rfl; omega) m4
    ·
      replace c51 := ti_eqN c51 rfl (show (0 : Int32).toInt = 0 from rfl)
      unfold f_isLegal_26
      exact t_isLegal_31   hself4 (x1 := x1) (x3 := x3) (t0 := (1 : Int32)) hI hA (by omega) (by decide) (by have z0 : (1 : Int32).toInt = 1 := rfl; omega) m4
theorem t_isLegal_4  {I : Nat → Int32} {A : Nat → Nat → Int32} (hI : TJ I) (hA : TK A) : ∀ (n : Nat) (x1 : Int32) (x2 : Int32) (x3 : Int32),  ((0 : Int) ≤ x2.toInt ∧ x2.toInt ≤ (1 : Int)) → ((0 : Int) ≤ x3.toInt ∧ x3.toInt ≤ (2048 : Int)) → (x2.toInt = 1 → 0 ≤ x1.toInt ∧ x1.toInt ≤ 24575) → (2049 - x3.toInt) < (n : Int) → Ok (f_isLegal_4  n x1 x2 x3 I A) (fun o => o.2 = (I, A) ∧ ((0 : Int) ≤ o.1.toInt ∧ o.1.toInt ≤ (1 : Int)) ∧ ((o.1.toInt = 1 → 0 ≤ x1.toInt ∧ x1.toInt ≤ 24575))) := by
  intro n
  induction n with
  | zero => intro x1 x2 x3 g0 g1 g2  hm; exfalso; omega
  | succ n ih =>
    intro x1 x2 x3 g0 g1 g2  hm
    exact t_isLegal_4s   (N4 := n)  ih hI hA g0 g1 g2  (by omega)
theorem t_isLegal_0  {I : Nat → Int32} {A : Nat → Nat → Int32} {x1 : Int32} (hI : TJ I) (hA : TK A) : Ok (f_isLegal_0 x1 I A) (fun o => o.2 = (I, A) ∧ ((0 : Int) ≤ o.1.toInt ∧ o.1.toInt ≤ (1 : Int)) ∧ ((o.1.toInt = 1 → 0 ≤ x1.toInt ∧ x1.toInt ≤ 24575))) := by
  unfold f_isLegal_0
  exact t_isLegal_4    hI hA mFuel x1 (0 : Int32) (0 : Int32)  (by decide) (by decide) (by have z0 : (0 : Int32).toInt = 0 := rfl; have z1 : (0 : Int32).toInt = 0 := rfl; omega) (by show _ < ((200000 : Nat) : Int); have z0 : (0 : Int32).toInt = 0 := rfl; have z1 : (0 : Int32).toInt = 0 := rfl; omega)
theorem t_isLegal  {I : Nat → Int32} {A : Nat → Nat → Int32} {x1 : Int32} (hI : TJ I) (hA : TK A) : Ok (f_isLegal x1 I A) (fun o => o.2 = (I, A) ∧ ((0 : Int) ≤ o.1.toInt ∧ o.1.toInt ≤ (1 : Int)) ∧ ((o.1.toInt = 1 → 0 ≤ x1.toInt ∧ x1.toInt ≤ 24575))) := t_isLegal_0  hI hA 
theorem t_signs_33s  {I : Nat → Int32} {A : Nat → Nat → Int32} {self33 : Int32 → (Nat → Int32) → (Nat → Nat → Int32) → Option (Int32 × MS)} {N33 : Nat} (hself33 : ∀ (x2 : Int32) (I : Nat → Int32) (A : Nat → Nat → Int32), TJ I → TK A → ((0 : Int) ≤ x2.toInt ∧ x2.toInt ≤ (16 : Int)) → ((I 29).toInt ≤ 1999) → (17 - x2.toInt) < (N33 : Int) → Ok (self33 x2 I A) (fun o => TJ o.2.1 ∧ TK o.2.2 ∧ ((0 : Int) ≤ o.1.toInt ∧ o.1.toInt ≤ (80000 : Int)) ∧ ((o.2.1 29).toInt ≤ 1999))) {x2 : Int32} (hI : TJ I) (hA : TK A) (r_x2 : (0 : Int) ≤ x2.toInt ∧ x2.toInt ≤ (16 : Int)) (q0 : (I 29).toInt ≤ 1999) (m33 : (17 - x2.toInt) ≤ (N33 : Int)) : Ok (f_signs_33s self33 x2 I A) (fun o => TJ o.2.1 ∧ TK o.2.2 ∧ ((0 : Int) ≤ o.1.toInt ∧ o.1.toInt ≤ (80000 : Int)) ∧ ((o.2.1 29).toInt ≤ 1999)) := by
  unfold f_signs_33s
  have b_I_29 := tI_29 hI
  have b_I_36 := tI_36 hI
  have b_I_0 := tI_0 hI
  refine ok_if (fun c54 => ?_) (fun c54 => ?_)
  ·
    replace c54 := ti_leP c54 rfl rfl
    refine ok_bnd (fun I1 e55 => ?_)
    have hI_I1 : TJ I1 := e55.symm ▸ tj_u hI (k := 3) (show (0 : Int) ≤ (I 36).toInt from (by omega)) (show (I 36).toInt ≤ (80000 : Int) from (by omega))
    have : (I1 29).toInt = (I 29).toInt := by rw [e55]; rfl
    have : (I1 36).toInt = (I 36).toInt := by rw [e55]; rfl
    have : (I1 0).toInt = (I 0).toInt := by rw [e55]; rfl
    have b_I1_3 := tI_3 hI_I1
    exact ok_ret ⟨hI_I1, hA, (show (0 : Int) ≤ (I1 3).toInt ∧ (I1 3).toInt ≤ (80000 : Int) from (by omega)), (by show (I1 29).toInt ≤ 1999; omega)⟩
  ·
    replace c54 := ti_leN c54 rfl rfl
    refine ok_chk (ti_in (by omega) (by omega)) ?_
    refine ok_bnd (fun v2 e56 => ?_)
    have b_v2 := tA_35 hA ((x2).toNatClampNeg)
    rw [← e56] at b_v2
    refine ok_chk (ti_in (by omega) (by omega)) ?_
    refine ok_bnd (fun A3 e57 => ?_)
    have hA_A3 : TK A3 := e57.symm ▸ tk_n hA rfl
    refine ok_bnd (fun v4 e58 => ?_)
    have t_v4 : v4.toInt = x2.toInt + 1 := ti_add e58 rfl (show (1 : Int32).toInt = 1 from rfl) (by omega) (by omega)
    exact hself33 v4 I A3 hI hA_A3 (by omega) q0 (by omega)
theorem t_signs_33   : ∀ (n : Nat) (x2 : Int32) (I : Nat → Int32) (A : Nat → Nat → Int32), TJ I → TK A → ((0 : Int) ≤ x2.toInt ∧ x2.toInt ≤ (16 : Int)) → ((I 29).toInt ≤ 1999) → (17 - x2.toInt) < (n : Int) → Ok (f_signs_33  n x2 I A) (fun o => TJ o.2.1 ∧ TK o.2.2 ∧ ((0 : Int) ≤ o.1.toInt ∧ o.1.toInt ≤ (80000 : Int)) ∧ ((o.2.1 29).toInt ≤ 1999)) := by
  intro n
  induction n with
  | zero => intro x2 I A hI hA g0 g1  hm; exfalso; omega
  | succ n ih =>
    intro x2 I A hI hA g0 g1  hm
    exact t_signs_33s   (N33 := n)  ih hI hA g0 g1  (by omega)
theorem t_signs_14  {I : Nat → Int32} {A : Nat → Nat → Int32} {x1 : Int32} {t0 : Int32} (hI : TJ I) (hA : TK A) (r_t0 : (0 : Int) ≤ t0.toInt ∧ t0.toInt ≤ (1 : Int)) (q0 : (I 29).toInt ≤ 1999) (q1 : t0.toInt = 0 → 0 ≤ x1.toInt ∧ x1.toInt ≤ 24575) : Ok (f_signs_14 x1 t0 I A) (fun o => TJ o.2.1 ∧ TK o.2.2 ∧ ((0 : Int) ≤ o.1.toInt ∧ o.1.toInt ≤ (80000 : Int)) ∧ ((o.2.1 29).toInt ≤ 1999)) := by
  unfold f_signs_14
  have b_I_29 := tI_29 hI
  have b_I_36 := tI_36 hI
  have b_I_0 := tI_0 hI
  refine ok_bnd (fun I1 e59 => ?_)
  have hI_I1 : TJ I1 := e59.symm ▸ tj_u hI (k := 0) (show (0 : Int) ≤ t0.toInt from (by omega)) (show t0.toInt ≤ (2 : Int) from (by omega))
  have : (I1 29).toInt = (I 29).toInt := by rw [e59]; rfl
  have : (I1 36).toInt = (I 36).toInt := by rw [e59]; rfl
  have : (I1 0).toInt = t0.toInt := by rw [e59]; exact rfl
  have b_I1_0 := tI_0 hI_I1
  refine ok_if (fun c60 => ?_) (fun c60 => ?_)
  ·
    replace c60 := ti_leP c60 rfl (show (0 : Int32).toInt = 0 from rfl)
    have b_I1_29 := tI_29 hI_I1
    obtain ⟨⟨r2, Ic2, Ac2⟩, h_r2, hI_Ic2, hA_Ac2, p_r2_0, p_r2_1⟩ := t_spellWhole (x1 := x1)  hI_I1 hA (by omega) (by omega)
    replace hI_Ic2 : TJ Ic2 := hI_Ic2
    replace hA_Ac2 : TK Ac2 := hA_Ac2
    dsimp only at p_r2_0 p_r2_1
    refine ok_clR h_r2 ?_
    have f_r2 := fw_spellWhole h_r2
    have : (Ic2 0).toInt = (I1 0).toInt := congrArg Int32.toInt (f_r2.1 0 (by decide))
    have b_Ic2_29 := tI_29 hI_Ic2
    exact t_signs_33     mFuel (0 : Int32) Ic2 Ac2 hI_Ic2 hA_Ac2 (by decide) (by have z0 : (0 : Int32).toInt = 0 := rfl; omega) (by show _ < ((200000 : Nat) : Int); have z0 : (0 : Int32).toInt = 0 := rfl; omega)
  ·
    replace c60 := ti_leN c60 rfl (show (0 : Int32).toInt = 0 from rfl)
    exact ok_ret ⟨hI_I1, hA, (show (0 : Int) ≤ (0 : Int32).toInt ∧ (0 : Int32).toInt ≤ (80000 : Int) from (by decide)), (by show (I1 29).toInt ≤ 1999; have z : (0 : Int32).toInt = 0 := rfl; omega)⟩
theorem t_signs_0  {I : Nat → Int32} {A : Nat → Nat → Int32} {x1 : Int32} (hI : TJ I) (hA : TK A) (q0 : (I 29).toInt ≤ 1999) : Ok (f_signs_0 x1 I A) (fun o => TJ o.2.1 ∧ TK o.2.2 ∧ ((0 : Int) ≤ o.1.toInt ∧ o.1.toInt ≤ (80000 : Int)) ∧ ((o.2.1 29).toInt ≤ 1999)) := by
  unfold f_signs_0
  have b_I_29 := tI_29 hI
  have b_I_36 := tI_36 hI
  have b_I_0 := tI_0 hI
  obtain ⟨r1, h_r1, p_r1⟩ := ro (t_isLegal (x1 := x1)  hI hA )
  refine ok_clR h_r1 ?_
  dsimp only at p_r1
  refine ok_if (fun c61 => ?_) (fun c61 => ?_)
  ·
    replace c61 := ti_eqP c61 rfl (show (0 : Int32).toInt = 0 from rfl)
    exact t_signs_14    (x1 := x1) (t0 := (1 : Int32)) hI hA (by decide) q0 (by have z0 : (1 : Int32).toInt = 1 := rfl; omega)
  ·
    replace c61 := ti_eqN c61 rfl (show (0 : Int32).toInt = 0 from rfl)
    exact t_signs_14    (x1 := x1) (t0 := (0 : Int32)) hI hA (by decide) q0 (by have z0 : (0 : Int32).toInt = 0 := rfl; omega)
theorem t_signs  {I : Nat → Int32} {A : Nat → Nat → Int32} {x1 : Int32} (hI : TJ I) (hA : TK A) (q0 : (I 29).toInt ≤ 1999) : Ok (f_signs x1 I A) (fun o => TJ o.2.1 ∧ TK o.2.2 ∧ ((0 : Int) ≤ o.1.toInt ∧ o.1.toInt ≤ (80000 : Int)) ∧ ((o.2.1 29).toInt ≤ 1999)) := t_signs_0  hI hA q0
theorem t_out_0  {I : Nat → Int32} {A : Nat → Nat → Int32} {x1 : Int32} (hI : TJ I) (hA : TK A) : Ok (f_out_0 x1 I A) (fun o => TJ o.2.1 ∧ TK o.2.2 ∧ ((0 : Int) ≤ o.1.toInt ∧ o.1.toInt ≤ (65535 : Int))) := by
  unfold f_out_0
  have b_I_3 := tI_3 hI
  refine ok_bnd (fun I1 e62 => ?_)
  have hI_I1 : TJ I1 := e62.symm ▸ tj_u hI (k := 0) (show (0 : Int) ≤ (0 : Int32).toInt from (by decide)) (show (0 : Int32).toInt ≤ (2 : Int) from (by decide))
  have : (I1 3).toInt = (I 3).toInt := by rw [e62]; rfl
  refine ok_if (fun c63 => ?_) (fun c63 => ?_)
  ·
    replace c63 := ti_ltP c63 rfl (show (0 : Int32).toInt = 0 from rfl)
    unfold f_out_17
    unfold f_out_27
    exact ok_ret ⟨hI_I1, hA, (show (0 : Int) ≤ (0 : Int32).toInt ∧ (0 : Int32).toInt ≤ (65535 : Int) from (by decide))⟩
  ·
    replace c63 := ti_ltN c63 rfl (show (0 : Int32).toInt = 0 from rfl)
    have b_I1_3 := tI_3 hI_I1
    refine ok_if (fun c64 => ?_) (fun c64 => ?_)
    ·
      replace c64 := ti_ltP c64 rfl rfl
      refine ok_chk (ti_in (by omega) (by omega)) ?_
      refine ok_bnd (fun v2 e65 => ?_)
      have b_v2 := tA_4 hA ((x1).toNatClampNeg)
      rw [← e65] at b_v2
      unfold f_out_27
      exact ok_ret ⟨hI_I1, hA, (show (0 : Int) ≤ v2.toInt ∧ v2.toInt ≤ (65535 : Int) from (by omega))⟩
    ·
      replace c64 := ti_ltN c64 rfl rfl
      unfold f_out_17
      unfold f_out_27
      exact ok_ret ⟨hI_I1, hA, (show (0 : Int) ≤ (0 : Int32).toInt ∧ (0 : Int32).toInt ≤ (65535 : Int) from (by decide))⟩
theorem t_out  {I : Nat → Int32} {A : Nat → Nat → Int32} {x1 : Int32} (hI : TJ I) (hA : TK A) : Ok (f_out x1 I A) (fun o => TJ o.2.1 ∧ TK o.2.2 ∧ ((0 : Int) ≤ o.1.toInt ∧ o.1.toInt ≤ (65535 : Int))) := t_out_0  hI hA 
theorem t_isNode_0  {I : Nat → Int32} {A : Nat → Nat → Int32} {x1 : Int32} (hI : TJ I) (hA : TK A) : Ok (f_isNode_0 x1 I A) (fun o => o.2 = (I, A) ∧ ((0 : Int) ≤ o.1.toInt ∧ o.1.toInt ≤ (1 : Int)) ∧ ((o.1.toInt = 1 → 0 ≤ x1.toInt ∧ x1.toInt ≤ (A 7 ((I 5)).toNatClampNeg).toInt))) := by
  unfold f_isNode_0
  refine ok_if (fun c66 => ?_) (fun c66 => ?_)
  ·
    replace c66 := ti_ltP c66 rfl (show (0 : Int32).toInt = 0 from rfl)
    unfold f_isNode_21
    unfold f_isNode_22
    refine ok_chk (by decide) ?_
    exact ok_ret ⟨rfl, (show (0 : Int) ≤ (0 : Int32).toInt ∧ (0 : Int32).toInt ≤ (1 : Int) from (by decide)), (by show ((0 : Int32).toInt = 1 → 0 ≤ x1.toInt ∧ x1.toInt ≤ (A 7 ((I 5)).toNatClampNeg).toInt); exact fun h => absurd h (by decide))⟩
  ·
    replace c66 := ti_ltN c66 rfl (show (0 : Int32).toInt = 0 from rfl)
    have b_I_5 := tI_5 hI
    refine ok_chk (ti_in (by omega) (by omega)) ?_
    refine ok_bnd (fun v1 e67 => ?_)
    have b_v1 := tA_7 hA (((I 5)).toNatClampNeg)
    rw [← e67] at b_v1
    have w1 : (A 7 ((I 5)).toNatClampNeg).toInt = v1.toInt := by rw [e67]
    refine ok_if (fun c68 => ?_) (fun c68 => ?_)
    ·
      replace c68 := ti_ltP c68 rfl rfl
      unfold f_isNode_21
      unfold f_isNode_22
      refine ok_chk (by decide) ?_
      exact ok_ret ⟨rfl, (show (0 : Int) ≤ (0 : Int32).toInt ∧ (0 : Int32).toInt ≤ (1 : Int) from (by decide)), (by show ((0 : Int32).toInt = 1 → 0 ≤ x1.toInt ∧ x1.toInt ≤ (A 7 ((I 5)).toNatClampNeg).toInt); exact fun h => absurd h (by decide))⟩
    ·
      replace c68 := ti_ltN c68 rfl rfl
      unfold f_isNode_22
      refine ok_chk (by decide) ?_
      exact ok_ret ⟨rfl, (show (0 : Int) ≤ (1 : Int32).toInt ∧ (1 : Int32).toInt ≤ (1 : Int) from (by decide)), (by show ((1 : Int32).toInt = 1 → 0 ≤ x1.toInt ∧ x1.toInt ≤ (A 7 ((I 5)).toNatClampNeg).toInt); omega)⟩
theorem t_isNode  {I : Nat → Int32} {A : Nat → Nat → Int32} {x1 : Int32} (hI : TJ I) (hA : TK A) : Ok (f_isNode x1 I A) (fun o => o.2 = (I, A) ∧ ((0 : Int) ≤ o.1.toInt ∧ o.1.toInt ≤ (1 : Int)) ∧ ((o.1.toInt = 1 → 0 ≤ x1.toInt ∧ x1.toInt ≤ (A 7 ((I 5)).toNatClampNeg).toInt))) := t_isNode_0  hI hA 
theorem t_nodes_0  {I : Nat → Int32} {A : Nat → Nat → Int32} (hI : TJ I) (hA : TK A) : Ok (f_nodes_0 I A) (fun o => TJ o.2.1 ∧ TK o.2.2 ∧ ((0 : Int) ≤ o.1.toInt ∧ o.1.toInt ≤ (300 : Int))) := by
  unfold f_nodes_0
  have b_I_5 := tI_5 hI
  refine ok_bnd (fun I1 e69 => ?_)
  have hI_I1 : TJ I1 := e69.symm ▸ tj_u hI (k := 0) (show (0 : Int) ≤ (0 : Int32).toInt from (by decide)) (show (0 : Int32).toInt ≤ (2 : Int) from (by decide))
  have : (I1 5).toInt = (I 5).toInt := by rw [e69]; rfl
  have b_I1_5 := tI_5 hI_I1
  refine ok_chk (ti_in (by omega) (by omega)) ?_
  refine ok_bnd (fun v2 e70 => ?_)
  have b_v2 := tA_7 hA (((I1 5)).toNatClampNeg)
  rw [← e70] at b_v2
  exact ok_ret ⟨hI_I1, hA, (show (0 : Int) ≤ v2.toInt ∧ v2.toInt ≤ (300 : Int) from (by omega))⟩
theorem t_nodes  {I : Nat → Int32} {A : Nat → Nat → Int32}  (hI : TJ I) (hA : TK A) : Ok (f_nodes  I A) (fun o => TJ o.2.1 ∧ TK o.2.2 ∧ ((0 : Int) ≤ o.1.toInt ∧ o.1.toInt ≤ (300 : Int))) := t_nodes_0  hI hA 
theorem t_node_23  {I : Nat → Int32} {A : Nat → Nat → Int32} {x1 : Int32} {x2 : Int32} {t0 : Int32} (hI : TJ I) (hA : TK A) (r_t0 : (0 : Int) ≤ t0.toInt ∧ t0.toInt ≤ (1 : Int)) (q0 : t0.toInt = 0 → 0 ≤ x1.toInt ∧ x1.toInt ≤ 300) : Ok (f_node_23 x1 x2 t0 I A) (fun o => TJ o.2.1 ∧ TK o.2.2 ∧ True) := by
  unfold f_node_23
  have b_I_5 := tI_5 hI
  have b_I_0 := tI_0 hI
  refine ok_bnd (fun I1 e71 => ?_)
  have hI_I1 : TJ I1 := e71.symm ▸ tj_u hI (k := 0) (show (0 : Int) ≤ t0.toInt from (by omega)) (show t0.toInt ≤ (2 : Int) from (by omega))
  have : (I1 5).toInt = (I 5).toInt := by rw [e71]; rfl
  have : (I1 0).toInt = t0.toInt := by rw [e71]; exact rfl
  have b_I1_0 := tI_0 hI_I1
  refine ok_if (fun c72 => ?_) (fun c72 => ?_)
  ·
    replace c72 := ti_leP c72 rfl (show (0 : Int32).toInt = 0 from rfl)
    refine ok_bnd (fun v2 e73 => ?_)
    have b_I1_5 := tI_5 hI_I1
    have t_v2 : v2.toInt = 301 * (I1 5).toInt := ti_mul e73 (show (301 : Int32).toInt = 301 from rfl) rfl (by omega) (by omega)
    refine ok_bnd (fun v3 e74 => ?_)
    have t_v3 : v3.toInt = v2.toInt + x1.toInt := ti_add e74 rfl rfl (by omega) (by omega)
    refine ok_if (fun c75 => ?_) (fun c75 => ?_)
    ·
      replace c75 := ti_eqP c75 rfl (show (0 : Int32).toInt = 0 from rfl)
      refine ok_chk (ti_in (by omega) (by omega)) ?_
      refine ok_bnd (fun v4 e76 => ?_)
      have b_v4 := tA_8 hA ((v3).toNatClampNeg)
      rw [← e76] at b_v4
      exact ok_ret ⟨hI_I1, hA, trivial⟩
    ·
      replace c75 := ti_eqN c75 rfl (show (0 : Int32).toInt = 0 from rfl)
      refine ok_if (fun c77 => ?_) (fun c77 => ?_)
      ·
        replace c77 := ti_eqP c77 rfl (show (1 : Int32).toInt = 1 from rfl)
        refine ok_chk (ti_in (by omega) (by omega)) ?_
        refine ok_bnd (fun v5 e78 => ?_)
        have b_v5 := tA_9 hA ((v3).toNatClampNeg)
        rw [← e78] at b_v5
        exact ok_ret ⟨hI_I1, hA, trivial⟩
      ·
        replace c77 := ti_eqN c77 rfl (show (1 : Int32).toInt = 1 from rfl)
        refine ok_if (fun c79 => ?_) (fun c79 => ?_)
        ·
          replace c79 := ti_eqP c79 rfl (show (2 : Int32).toInt = 2 from rfl)
          refine ok_chk (ti_in (by omega) (by omega)) ?_
          refine ok_bnd (fun v6 e80 => ?_)
          have b_v6 := tA_10 hA ((v3).toNatClampNeg)
          rw [← e80] at b_v6
          exact ok_ret ⟨hI_I1, hA, trivial⟩
        ·
          replace c79 := ti_eqN c79 rfl (show (2 : Int32).toInt = 2 from rfl)
          refine ok_if (fun c81 => ?_) (fun c81 => ?_)
          ·
            replace c81 := ti_eqP c81 rfl (show (3 : Int32).toInt = 3 from rfl)
            refine ok_chk (ti_in (by omega) (by omega)) ?_
            refine ok_bnd (fun v7 e82 => ?_)
            have b_v7 := tA_11 hA ((v3).toNatClampNeg)
            rw [← e82] at b_v7
            exact ok_ret ⟨hI_I1, hA, trivial⟩
          ·
            replace c81 := ti_eqN c81 rfl (show (3 : Int32).toInt = 3 from rfl)
            refine ok_if (fun c83 => ?_) (fun c83 => ?_)
            ·
              replace c83 := ti_eqP c83 rfl (show (4 : Int32).toInt = 4 from rfl)
              refine ok_chk (ti_in (by omega) (by omega)) ?_
              refine ok_bnd (fun v8 e84 => ?_)
              have b_v8 := tA_12 hA ((v3).toNatClampNeg)
              rw [← e84] at b_v8
              exact ok_ret ⟨hI_I1, hA, trivial⟩
            ·
              replace c83 := ti_eqN c83 rfl (show (4 : Int32).toInt = 4 from rfl)
              refine ok_chk (ti_in (by omega) (by omega)) ?_
              refine ok_bnd (fun v9 e85 => ?_)
              have b_v9 := tA_14 hA ((v3).toNatClampNeg)
              rw [← e85] at b_v9
              exact ok_ret ⟨hI_I1, hA, trivial⟩
  ·
    replace c72 := ti_leN c72 rfl (show (0 : Int32).toInt = 0 from rfl)
    exact ok_ret ⟨hI_I1, hA, trivial⟩
theorem t_node_0  {I : Nat → Int32} {A : Nat → Nat → Int32} {x1 : Int32} {x2 : Int32} (hI : TJ I) (hA : TK A) : Ok (f_node_0 x1 x2 I A) (fun o => TJ o.2.1 ∧ TK o.2.2 ∧ True) := by
  unfold f_node_0
  have b_I_5 := tI_5 hI
  have b_I_0 := tI_0 hI
  obtain ⟨r1, h_r1, p_r1⟩ := ro (t_isNode (x1 := x1)  hI hA )
  refine ok_clR h_r1 ?_
  dsimp only at p_r1
  have w1 := tA_7 hA ((I 5)).toNatClampNeg
  refine ok_if (fun c86 => ?_) (fun c86 => ?_)
  ·
    replace c86 := ti_eqP c86 rfl (show (0 : Int32).toInt = 0 from rfl)
    unfold f_node_18
    exact t_node_23    (x1 := x1) (x2 := x2) (t0 := (1 : Int32)) hI hA (by decide) (by have z0 : (1 : Int32).toInt = 1 := rfl; omega)
  ·
    replace c86 := ti_eqN c86 rfl (show (0 : Int32).toInt = 0 from rfl)
    refine ok_if (fun c87 => ?_) (fun c87 => ?_)
    ·
      replace c87 := ti_ltP c87 rfl (show (0 : Int32).toInt = 0 from rfl)
      unfold f_node_18
      exact t_node_23    (x1 := x1) (x2 := x2) (t0 := (1 : Int32)) hI hA (by decide) (by have z0 : (1 : Int32).toInt = 1 := rfl; omega)
    ·
      replace c87 := ti_ltN c87 rfl (show (0 : Int32).toInt = 0 from rfl)
      refine ok_if (fun c88 => ?_) (fun c88 => ?_)
      ·
        replace c88 := ti_leP c88 rfl (show (5 : Int32).toInt = 5 from rfl)
        exact t_node_23    (x1 := x1) (x2 := x2) (t0 := (0 : Int32)) hI hA (by decide) (by have z0 : (0 : Int32).toInt = 0 := rfl; omega)
      ·
        replace c88 := ti_leN c88 rfl (show (5 : Int32).toInt = 5 from rfl)
        unfold f_node_18
        exact t_node_23    (x1 := x1) (x2 := x2) (t0 := (1 : Int32)) hI hA (by decide) (by have z0 : (1 : Int32).toInt = 1 := rfl; omega)
theorem t_node  {I : Nat → Int32} {A : Nat → Nat → Int32} {x1 : Int32} {x2 : Int32} (hI : TJ I) (hA : TK A) : Ok (f_node x1 x2 I A) (fun o => TJ o.2.1 ∧ TK o.2.2 ∧ True) := t_node_0  hI hA 
theorem t_mark_37  {I : Nat → Int32} {A : Nat → Nat → Int32} {x1 : Int32} {x2 : Int32} {t0 : Int32} (hI : TJ I) (hA : TK A) (r_t0 : (0 : Int) ≤ t0.toInt ∧ t0.toInt ≤ (1 : Int)) (q0 : t0.toInt = 0 → 0 ≤ x1.toInt ∧ x1.toInt ≤ 300 ∧ 0 ≤ x2.toInt ∧ x2.toInt ≤ 3) : Ok (f_mark_37 x1 x2 t0 I A) (fun o => TJ o.2.1 ∧ TK o.2.2 ∧ ((0 : Int) ≤ o.1.toInt ∧ o.1.toInt ≤ (255 : Int))) := by
  unfold f_mark_37
  have b_I_5 := tI_5 hI
  have b_I_0 := tI_0 hI
  refine ok_bnd (fun I1 e89 => ?_)
  have hI_I1 : TJ I1 := e89.symm ▸ tj_u hI (k := 0) (show (0 : Int) ≤ t0.toInt from (by omega)) (show t0.toInt ≤ (2 : Int) from (by omega))
  have : (I1 5).toInt = (I 5).toInt := by rw [e89]; rfl
  have : (I1 0).toInt = t0.toInt := by rw [e89]; exact rfl
  have b_I1_0 := tI_0 hI_I1
  refine ok_if (fun c90 => ?_) (fun c90 => ?_)
  ·
    replace c90 := ti_leP c90 rfl (show (0 : Int32).toInt = 0 from rfl)
    refine ok_bnd (fun v2 e91 => ?_)
    have b_I1_5 := tI_5 hI_I1
    have t_v2 : v2.toInt = 301 * (I1 5).toInt := ti_mul e91 (show (301 : Int32).toInt = 301 from rfl) rfl (by omega) (by omega)
    refine ok_bnd (fun v3 e92 => ?_)
    have t_v3 : v3.toInt = v2.toInt + x1.toInt := ti_add e92 rfl rfl (by omega) (by omega)
    refine ok_bnd (fun v4 e93 => ?_)
    have t_v4 : v4.toInt = 4 * v3.toInt := ti_mul e93 (show (4 : Int32).toInt = 4 from rfl) rfl (by omega) (by omega)
    refine ok_bnd (fun v5 e94 => ?_)
    have t_v5 : v5.toInt = v4.toInt + x2.toInt := ti_add e94 rfl rfl (by omega) (by omega)
    refine ok_chk (ti_in (by omega) (by omega)) ?_
    refine ok_bnd (fun v6 e95 => ?_)
    have b_v6 := tA_13 hA ((v5).toNatClampNeg)
    rw [← e95] at b_v6
    unfold f_mark_70
    exact ok_ret ⟨hI_I1, hA, (show (0 : Int) ≤ v6.toInt ∧ v6.toInt ≤ (255 : Int) from (by omega))⟩
  ·
    replace c90 := ti_leN c90 rfl (show (0 : Int32).toInt = 0 from rfl)
    unfold f_mark_70
    exact ok_ret ⟨hI_I1, hA, (show (0 : Int) ≤ (0 : Int32).toInt ∧ (0 : Int32).toInt ≤ (255 : Int) from (by decide))⟩
theorem t_mark_0  {I : Nat → Int32} {A : Nat → Nat → Int32} {x1 : Int32} {x2 : Int32} (hI : TJ I) (hA : TK A) : Ok (f_mark_0 x1 x2 I A) (fun o => TJ o.2.1 ∧ TK o.2.2 ∧ ((0 : Int) ≤ o.1.toInt ∧ o.1.toInt ≤ (255 : Int))) := by
  unfold f_mark_0
  have b_I_5 := tI_5 hI
  have b_I_0 := tI_0 hI
  obtain ⟨r1, h_r1, p_r1⟩ := ro (t_isNode (x1 := x1)  hI hA )
  refine ok_clR h_r1 ?_
  dsimp only at p_r1
  have w1 := tA_7 hA ((I 5)).toNatClampNeg
  refine ok_if (fun c96 => ?_) (fun c96 => ?_)
  ·
    replace c96 := ti_eqP c96 rfl (show (0 : Int32).toInt = 0 from rfl)
    unfold f_mark_32
    exact t_mark_37    (x1 := x1) (x2 := x2) (t0 := (1 : Int32)) hI hA (by decide) (by have z0 : (1 : Int32).toInt = 1 := rfl; omega)
  ·
    replace c96 := ti_eqN c96 rfl (show (0 : Int32).toInt = 0 from rfl)
    refine ok_if (fun c97 => ?_) (fun c97 => ?_)
    ·
      replace c97 := ti_ltP c97 rfl (show (0 : Int32).toInt = 0 from rfl)
      unfold f_mark_32
      exact t_mark_37    (x1 := x1) (x2 := x2) (t0 := (1 : Int32)) hI hA (by decide) (by have z0 : (1 : Int32).toInt = 1 := rfl; omega)
    ·
      replace c97 := ti_ltN c97 rfl (show (0 : Int32).toInt = 0 from rfl)
      refine ok_bnd (fun v2 e98 => ?_)
      have t_v2 : v2.toInt = 301 * (I 5).toInt := ti_mul e98 (show (301 : Int32).toInt = 301 from rfl) rfl (by omega) (by omega)
      refine ok_bnd (fun v3 e99 => ?_)
      have t_v3 : v3.toInt = v2.toInt + x1.toInt := ti_add e99 rfl rfl (by omega) (by omega)
      refine ok_chk (ti_in (by omega) (by omega)) ?_
      refine ok_bnd (fun v4 e100 => ?_)
      have b_v4 := tA_12 hA ((v3).toNatClampNeg)
      rw [← e100] at b_v4
      refine ok_if (fun c101 => ?_) (fun c101 => ?_)
      ·
        replace c101 := ti_ltP c101 rfl rfl
        exact t_mark_37    (x1 := x1) (x2 := x2) (t0 := (0 : Int32)) hI hA (by decide) (by have z0 : (0 : Int32).toInt = 0 := rfl; omega)
      ·
        replace c101 := ti_ltN c101 rfl rfl
        unfold f_mark_32
        exact t_mark_37    (x1 := x1) (x2 := x2) (t0 := (1 : Int32)) hI hA (by decide) (by have z0 : (1 : Int32).toInt = 1 := rfl; omega)
theorem t_mark  {I : Nat → Int32} {A : Nat → Nat → Int32} {x1 : Int32} {x2 : Int32} (hI : TJ I) (hA : TK A) : Ok (f_mark x1 x2 I A) (fun o => TJ o.2.1 ∧ TK o.2.2 ∧ ((0 : Int) ≤ o.1.toInt ∧ o.1.toInt ≤ (255 : Int))) := t_mark_0  hI hA 
theorem t_remark_37  {I : Nat → Int32} {A : Nat → Nat → Int32} {x1 : Int32} {x2 : Int32} {t0 : Int32} (hI : TJ I) (hA : TK A) (r_t0 : (0 : Int) ≤ t0.toInt ∧ t0.toInt ≤ (1 : Int)) (q0 : t0.toInt = 0 → 0 ≤ x1.toInt ∧ x1.toInt ≤ 300 ∧ 0 ≤ x2.toInt ∧ x2.toInt ≤ 199) : Ok (f_remark_37 x1 x2 t0 I A) (fun o => TJ o.2.1 ∧ TK o.2.2 ∧ ((0 : Int) ≤ o.1.toInt ∧ o.1.toInt ≤ (65535 : Int))) := by
  unfold f_remark_37
  have b_I_5 := tI_5 hI
  have b_I_0 := tI_0 hI
  refine ok_bnd (fun I1 e102 => ?_)
  have hI_I1 : TJ I1 := e102.symm ▸ tj_u hI (k := 0) (show (0 : Int) ≤ t0.toInt from (by omega)) (show t0.toInt ≤ (2 : Int) from (by omega))
  have : (I1 5).toInt = (I 5).toInt := by rw [e102]; rfl
  have : (I1 0).toInt = t0.toInt := by rw [e102]; exact rfl
  have b_I1_0 := tI_0 hI_I1
  refine ok_if (fun c103 => ?_) (fun c103 => ?_)
  ·
    replace c103 := ti_leP c103 rfl (show (0 : Int32).toInt = 0 from rfl)
    refine ok_bnd (fun v2 e104 => ?_)
    have b_I1_5 := tI_5 hI_I1
    have t_v2 : v2.toInt = 301 * (I1 5).toInt := ti_mul e104 (show (301 : Int32).toInt = 301 from rfl) rfl (by omega) (by omega)
    refine ok_bnd (fun v3 e105 => ?_)
    have t_v3 : v3.toInt = v2.toInt + x1.toInt := ti_add e105 rfl rfl (by omega) (by omega)
    refine ok_bnd (fun v4 e106 => ?_)
    have t_v4 : v4.toInt = 200 * v3.toInt := ti_mul e106 (show (200 : Int32).toInt = 200 from rfl) rfl (by omega) (by omega)
    refine ok_bnd (fun v5 e107 => ?_)
    have t_v5 : v5.toInt = v4.toInt + x2.toInt := ti_add e107 rfl rfl (by omega) (by omega)
    refine ok_chk (ti_in (by omega) (by omega)) ?_
    refine ok_bnd (fun v6 e108 => ?_)
    have b_v6 := tA_15 hA ((v5).toNatClampNeg)
    rw [← e108] at b_v6
    unfold f_remark_72
    exact ok_ret ⟨hI_I1, hA, (show (0 : Int) ≤ v6.toInt ∧ v6.toInt ≤ (65535 : Int) from (by omega))⟩
  ·
    replace c103 := ti_leN c103 rfl (show (0 : Int32).toInt = 0 from rfl)
    unfold f_remark_72
    exact ok_ret ⟨hI_I1, hA, (show (0 : Int) ≤ (0 : Int32).toInt ∧ (0 : Int32).toInt ≤ (65535 : Int) from (by decide))⟩
theorem t_remark_0  {I : Nat → Int32} {A : Nat → Nat → Int32} {x1 : Int32} {x2 : Int32} (hI : TJ I) (hA : TK A) : Ok (f_remark_0 x1 x2 I A) (fun o => TJ o.2.1 ∧ TK o.2.2 ∧ ((0 : Int) ≤ o.1.toInt ∧ o.1.toInt ≤ (65535 : Int))) := by
  unfold f_remark_0
  have b_I_5 := tI_5 hI
  have b_I_0 := tI_0 hI
  obtain ⟨r1, h_r1, p_r1⟩ := ro (t_isNode (x1 := x1)  hI hA )
  refine ok_clR h_r1 ?_
  dsimp only at p_r1
  have w1 := tA_7 hA ((I 5)).toNatClampNeg
  refine ok_if (fun c109 => ?_) (fun c109 => ?_)
  ·
    replace c109 := ti_eqP c109 rfl (show (0 : Int32).toInt = 0 from rfl)
    unfold f_remark_32
    exact t_remark_37    (x1 := x1) (x2 := x2) (t0 := (1 : Int32)) hI hA (by decide) (by have z0 : (1 : Int32).toInt = 1 := rfl; omega)
  ·
    replace c109 := ti_eqN c109 rfl (show (0 : Int32).toInt = 0 from rfl)
    refine ok_if (fun c110 => ?_) (fun c110 => ?_)
    ·
      replace c110 := ti_ltP c110 rfl (show (0 : Int32).toInt = 0 from rfl)
      unfold f_remark_32
      exact t_remark_37    (x1 := x1) (x2 := x2) (t0 := (1 : Int32)) hI hA (by decide) (by have z0 : (1 : Int32).toInt = 1 := rfl; omega)
    ·
      replace c110 := ti_ltN c110 rfl (show (0 : Int32).toInt = 0 from rfl)
      refine ok_bnd (fun v2 e111 => ?_)
      have t_v2 : v2.toInt = 301 * (I 5).toInt := ti_mul e111 (show (301 : Int32).toInt = 301 from rfl) rfl (by omega) (by omega)
      refine ok_bnd (fun v3 e112 => ?_)
      have t_v3 : v3.toInt = v2.toInt + x1.toInt := ti_add e112 rfl rfl (by omega) (by omega)
      refine ok_chk (ti_in (by omega) (by omega)) ?_
      refine ok_bnd (fun v4 e113 => ?_)
      have b_v4 := tA_14 hA ((v3).toNatClampNeg)
      rw [← e113] at b_v4
      refine ok_if (fun c114 => ?_) (fun c114 => ?_)
      ·
        replace c114 := ti_ltP c114 rfl rfl
        exact t_remark_37    (x1 := x1) (x2 := x2) (t0 := (0 : Int32)) hI hA (by decide) (by have z0 : (0 : Int32).toInt = 0 := rfl; omega)
      ·
        replace c114 := ti_ltN c114 rfl rfl
        unfold f_remark_32
        exact t_remark_37    (x1 := x1) (x2 := x2) (t0 := (1 : Int32)) hI hA (by decide) (by have z0 : (1 : Int32).toInt = 1 := rfl; omega)
theorem t_remark  {I : Nat → Int32} {A : Nat → Nat → Int32} {x1 : Int32} {x2 : Int32} (hI : TJ I) (hA : TK A) : Ok (f_remark x1 x2 I A) (fun o => TJ o.2.1 ∧ TK o.2.2 ∧ ((0 : Int) ≤ o.1.toInt ∧ o.1.toInt ≤ (65535 : Int))) := t_remark_0  hI hA 
theorem t_here_0  {I : Nat → Int32} {A : Nat → Nat → Int32} (hI : TJ I) (hA : TK A) : Ok (f_here_0 I A) (fun o => TJ o.2.1 ∧ TK o.2.2 ∧ ((0 : Int) ≤ o.1.toInt ∧ o.1.toInt ≤ (300 : Int))) := by
  unfold f_here_0
  have b_I_6 := tI_6 hI
  refine ok_bnd (fun I1 e115 => ?_)
  have hI_I1 : TJ I1 := e115.symm ▸ tj_u hI (k := 0) (show (0 : Int) ≤ (0 : Int32).toInt from (by decide)) (show (0 : Int32).toInt ≤ (2 : Int) from (by decide))
  have : (I1 6).toInt = (I 6).toInt := by rw [e115]; rfl
  have b_I1_6 := tI_6 hI_I1
  exact ok_ret ⟨hI_I1, hA, (show (0 : Int) ≤ (I1 6).toInt ∧ (I1 6).toInt ≤ (300 : Int) from (by omega))⟩
theorem t_here  {I : Nat → Int32} {A : Nat → Nat → Int32}  (hI : TJ I) (hA : TK A) : Ok (f_here  I A) (fun o => TJ o.2.1 ∧ TK o.2.2 ∧ ((0 : Int) ≤ o.1.toInt ∧ o.1.toInt ≤ (300 : Int))) := t_here_0  hI hA 
theorem t_man_16  {I : Nat → Int32} {A : Nat → Nat → Int32} {x1 : Int32} {t0 : Int32} (hI : TJ I) (hA : TK A) (r_t0 : (0 : Int) ≤ t0.toInt ∧ t0.toInt ≤ (1 : Int)) (q0 : t0.toInt = 0 → 0 ≤ x1.toInt ∧ x1.toInt ≤ 63) : Ok (f_man_16 x1 t0 I A) (fun o => TJ o.2.1 ∧ TK o.2.2 ∧ True) := by
  unfold f_man_16
  have b_I_0 := tI_0 hI
  refine ok_bnd (fun I1 e116 => ?_)
  have hI_I1 : TJ I1 := e116.symm ▸ tj_u hI (k := 0) (show (0 : Int) ≤ t0.toInt from (by omega)) (show t0.toInt ≤ (2 : Int) from (by omega))
  have : (I1 0).toInt = t0.toInt := by rw [e116]; exact rfl
  have b_I1_0 := tI_0 hI_I1
  refine ok_if (fun c117 => ?_) (fun c117 => ?_)
  ·
    replace c117 := ti_leP c117 rfl (show (0 : Int32).toInt = 0 from rfl)
    refine ok_chk (ti_in (by omega) (by omega)) ?_
    refine ok_bnd (fun v2 e118 => ?_)
    unfold f_man_36
    exact ok_ret ⟨hI_I1, hA, trivial⟩
  ·
    replace c117 := ti_leN c117 rfl (show (0 : Int32).toInt = 0 from rfl)
    unfold f_man_36
    exact ok_ret ⟨hI_I1, hA, trivial⟩
theorem t_man_0  {I : Nat → Int32} {A : Nat → Nat → Int32} {x1 : Int32} (hI : TJ I) (hA : TK A) : Ok (f_man_0 x1 I A) (fun o => TJ o.2.1 ∧ TK o.2.2 ∧ True) := by
  unfold f_man_0
  have b_I_0 := tI_0 hI
  refine ok_if (fun c119 => ?_) (fun c119 => ?_)
  ·
    replace c119 := ti_ltP c119 rfl (show (0 : Int32).toInt = 0 from rfl)
    unfold f_man_11
    exact t_man_16    (x1 := x1) (t0 := (1 : Int32)) hI hA (by decide) (by have z0 : (1 : Int32).toInt = 1 := rfl; omega)
  ·
    replace c119 := ti_ltN c119 rfl (show (0 : Int32).toInt = 0 from rfl)
    refine ok_if (fun c120 => ?_) (fun c120 => ?_)
    ·
      replace c120 := ti_leP c120 rfl (show (63 : Int32).toInt = 63 from rfl)
      exact t_man_16    (x1 := x1) (t0 := (0 : Int32)) hI hA (by decide) (by have z0 : (0 : Int32).toInt = 0 := rfl; omega)
    ·
      replace c120 := ti_leN c120 rfl (show (63 : Int32).toInt = 63 from rfl)
      unfold f_man_11
      exact t_man_16    (x1 := x1) (t0 := (1 : Int32)) hI hA (by decide) (by have z0 : (1 : Int32).toInt = 1 := rfl; omega)
theorem t_man  {I : Nat → Int32} {A : Nat → Nat → Int32} {x1 : Int32} (hI : TJ I) (hA : TK A) : Ok (f_man x1 I A) (fun o => TJ o.2.1 ∧ TK o.2.2 ∧ True) := t_man_0  hI hA 
theorem t_move_0  {I : Nat → Int32} {A : Nat → Nat → Int32} {x1 : Int32} (hI : TJ I) (hA : TK A) : Ok (f_move_0 x1 I A) (fun o => TJ o.2.1 ∧ TK o.2.2 ∧ ((-1 : Int) ≤ o.1.toInt ∧ o.1.toInt ≤ (24575 : Int))) := by
  unfold f_move_0
  have b_I_33 := tI_33 hI
  refine ok_bnd (fun I1 e121 => ?_)
  have hI_I1 : TJ I1 := e121.symm ▸ tj_u hI (k := 0) (show (0 : Int) ≤ (0 : Int32).toInt from (by decide)) (show (0 : Int32).toInt ≤ (2 : Int) from (by decide))
  have : (I1 33).toInt = (I 33).toInt := by rw [e121]; rfl
  refine ok_if (fun c122 => ?_) (fun c122 => ?_)
  ·
    replace c122 := ti_ltP c122 rfl (show (0 : Int32).toInt = 0 from rfl)
    unfold f_move_17
    unfold f_move_27
    exact ok_ret ⟨hI_I1, hA, (show (-1 : Int) ≤ (-1 : Int32).toInt ∧ (-1 : Int32).toInt ≤ (24575 : Int) from (by decide))⟩
  ·
    replace c122 := ti_ltN c122 rfl (show (0 : Int32).toInt = 0 from rfl)
    have b_I1_33 := tI_33 hI_I1
    refine ok_if (fun c123 => ?_) (fun c123 => ?_)
    ·
      replace c123 := ti_ltP c123 rfl rfl
      refine ok_chk (ti_in (by omega) (by omega)) ?_
      refine ok_bnd (fun v2 e124 => ?_)
      have b_v2 := tA_32 hA ((x1).toNatClampNeg)
      rw [← e124] at b_v2
      unfold f_move_27
      exact ok_ret ⟨hI_I1, hA, (show (-1 : Int) ≤ v2.toInt ∧ v2.toInt ≤ (24575 : Int) from (by omega))⟩
    ·
      replace c123 := ti_ltN c123 rfl rfl
      unfold f_move_17
      unfold f_move_27
      exact ok_ret ⟨hI_I1, hA, (show (-1 : Int) ≤ (-1 : Int32).toInt ∧ (-1 : Int32).toInt ≤ (24575 : Int) from (by decide))⟩
theorem t_move  {I : Nat → Int32} {A : Nat → Nat → Int32} {x1 : Int32} (hI : TJ I) (hA : TK A) : Ok (f_move x1 I A) (fun o => TJ o.2.1 ∧ TK o.2.2 ∧ ((-1 : Int) ≤ o.1.toInt ∧ o.1.toInt ≤ (24575 : Int))) := t_move_0  hI hA 
theorem t_addMark_50  {I : Nat → Int32} {A : Nat → Nat → Int32} {x1 : Int32} {t0 : Int32} (hI : TJ I) (hA : TK A) (r_t0 : (0 : Int) ≤ t0.toInt ∧ t0.toInt ≤ (2 : Int)) (q0 : t0.toInt = 0 → 0 ≤ x1.toInt ∧ x1.toInt ≤ 255) (q1 : t0.toInt = 0 → m3 A (I 5).toInt (I 6).toInt) : Ok (f_addMark_50 x1 t0 I A) (fun o => TJ o.2.1 ∧ TK o.2.2 ∧ ((0 : Int) ≤ o.1.toInt ∧ o.1.toInt ≤ (4 : Int))) := by
  unfold f_addMark_50
  have b_I_0 := tI_0 hI
  have b_I_5 := tI_5 hI
  have b_I_6 := tI_6 hI
  refine ok_bnd (fun I1 e125 => ?_)
  have hI_I1 : TJ I1 := e125.symm ▸ tj_u hI (k := 0) (show (0 : Int) ≤ t0.toInt from (by omega)) (show t0.toInt ≤ (2 : Int) from (by omega))
  have : (I1 0).toInt = t0.toInt := by rw [e125]; exact rfl
  have : (I1 5).toInt = (I 5).toInt := by rw [e125]; rfl
  have : (I1 6).toInt = (I 6).toInt := by rw [e125]; rfl
  have b_I1_0 := tI_0 hI_I1
  refine ok_if (fun c126 => ?_) (fun c126 => ?_)
  ·
    replace c126 := ti_leP c126 rfl (show (0 : Int32).toInt = 0 from rfl)
    have b_I1_5 := tI_5 hI_I1
    have b_I1_6 := tI_6 hI_I1
    obtain ⟨⟨r2, Ic2, Ac2⟩, h_r2, hI_Ic2, hA_Ac2, -⟩ := t_addMarkTo (x1 := (I1 5)) (x2 := (I1 6)) (x3 := x1)  hI_I1 hA (by omega) (by omega) (by omega) (by rw [e125]; exact q1 (by omega))
    replace hI_Ic2 : TJ Ic2 := hI_Ic2
    replace hA_Ac2 : TK Ac2 := hA_Ac2
    refine ok_clR h_r2 ?_
    have f_r2 := fw_addMarkTo h_r2
    have : (Ic2 0).toInt = (I1 0).toInt := congrArg Int32.toInt (f_r2.1 0 (by decide))
    have : (Ic2 5).toInt = (I1 5).toInt := congrArg Int32.toInt (f_r2.1 5 (by decide))
    have : (Ic2 6).toInt = (I1 6).toInt := congrArg Int32.toInt (f_r2.1 6 (by decide))
    refine ok_bnd (fun v3 e127 => ?_)
    have b_Ic2_5 := tI_5 hI_Ic2
    have t_v3 : v3.toInt = 301 * (Ic2 5).toInt := ti_mul e127 (show (301 : Int32).toInt = 301 from rfl) rfl (by omega) (by omega)
    refine ok_bnd (fun v4 e128 => ?_)
    have b_Ic2_6 := tI_6 hI_Ic2
    have t_v4 : v4.toInt = v3.toInt + (Ic2 6).toInt := ti_add e128 rfl rfl (by omega) (by omega)
    refine ok_chk (ti_in (by omega) (by omega)) ?_
    refine ok_bnd (fun v5 e129 => ?_)
    have b_v5 := tA_12 hA_Ac2 ((v4).toNatClampNeg)
    rw [← e129] at b_v5
    exact ok_ret ⟨hI_Ic2, hA_Ac2, (show (0 : Int) ≤ v5.toInt ∧ v5.toInt ≤ (4 : Int) from (by omega))⟩
  ·
    replace c126 := ti_leN c126 rfl (show (0 : Int32).toInt = 0 from rfl)
    exact ok_ret ⟨hI_I1, hA, (show (0 : Int) ≤ (0 : Int32).toInt ∧ (0 : Int32).toInt ≤ (4 : Int) from (by decide))⟩
theorem t_addMark_0  {I : Nat → Int32} {A : Nat → Nat → Int32} {x1 : Int32} (hI : TJ I) (hA : TK A) : Ok (f_addMark_0 x1 I A) (fun o => TJ o.2.1 ∧ TK o.2.2 ∧ ((0 : Int) ≤ o.1.toInt ∧ o.1.toInt ≤ (4 : Int))) := by
  unfold f_addMark_0
  have b_I_0 := tI_0 hI
  have b_I_5 := tI_5 hI
  have b_I_6 := tI_6 hI
  refine ok_if (fun c130 => ?_) (fun c130 => ?_)
  ·
    replace c130 := ti_ltP c130 rfl (show (0 : Int32).toInt = 0 from rfl)
    unfold f_addMark_12
    exact t_addMark_50    (x1 := x1) (t0 := (1 : Int32)) hI hA (by decide) (by have z0 : (1 : Int32).toInt = 1 := rfl; omega) (fun h => absurd h (by decide))
  ·
    replace c130 := ti_ltN c130 rfl (show (0 : Int32).toInt = 0 from rfl)
    refine ok_if (fun c131 => ?_) (fun c131 => ?_)
    ·
      replace c131 := ti_leP c131 rfl (show (255 : Int32).toInt = 255 from rfl)
      refine ok_if (fun c132 => ?_) (fun c132 => ?_)
      ·
        replace c132 := ti_eqP c132 rfl (show (0 : Int32).toInt = 0 from rfl)
        unfold f_addMark_45
        exact t_addMark_50    (x1 := x1) (t0 := (2 : Int32)) hI hA (by decide) (by have z0 : (2 : Int32).toInt = 2 := rfl; omega) (fun h => absurd h (by decide))
      ·
        replace c132 := ti_eqN c132 rfl (show (0 : Int32).toInt = 0 from rfl)
        refine ok_bnd (fun v1 e133 => ?_)
        have t_v1 : v1.toInt = 301 * (I 5).toInt := ti_mul e133 (show (301 : Int32).toInt = 301 from rfl) rfl (by omega) (by omega)
        refine ok_bnd (fun v2 e134 => ?_)
        have t_v2 : v2.toInt = v1.toInt + (I 6).toInt := ti_add e134 rfl rfl (by omega) (by omega)
        refine ok_chk (ti_in (by omega) (by omega)) ?_
        refine ok_bnd (fun v3 e135 => ?_)
        have b_v3 := tA_12 hA ((v2).toNatClampNeg)
        rw [← e135] at b_v3
        have i3 : v2.toNatClampNeg = (301 * (I 5).toInt + (I 6).toInt).toNat := by have := ti_nc (a := v2) (by omega); omega
        have j3 : (A 12 (301 * (I 5).toInt + (I 6).toInt).toNat).toInt = v3.toInt := by rw [e135, i3]
        refine ok_if (fun c136 => ?_) (fun c136 => ?_)
        ·
          replace c136 := ti_eqP c136 rfl (show (4 : Int32).toInt = 4 from rfl)
          unfold f_addMark_45
          exact t_addMark_50    (x1 := x1) (t0 := (2 : Int32)) hI hA (by decide) (by have z0 : (2 : Int32).toInt = 2 := rfl; omega) (fun h => absurd h (by decide))
        ·
          replace c136 := ti_eqN c136 rfl (show (4 : Int32).toInt = 4 from rfl)
          exact t_addMark_50    (x1 := x1) (t0 := (0 : Int32)) hI hA (by decide) (by have z0 : (0 : Int32).toInt = 0 := rfl; omega) (fun _ => by unfold m3; omega)
    ·
      replace c131 := ti_leN c131 rfl (show (255 : Int32).toInt = 255 from rfl)
      unfold f_addMark_12
      exact t_addMark_50    (x1 := x1) (t0 := (1 : Int32)) hI hA (by decide) (by have z0 : (1 : Int32).toInt = 1 := rfl; omega) (fun h => absurd h (by decide))
theorem t_addMark  {I : Nat → Int32} {A : Nat → Nat → Int32} {x1 : Int32} (hI : TJ I) (hA : TK A) : Ok (f_addMark x1 I A) (fun o => TJ o.2.1 ∧ TK o.2.2 ∧ ((0 : Int) ≤ o.1.toInt ∧ o.1.toInt ≤ (4 : Int))) := t_addMark_0  hI hA 
theorem t_say_102s  {I : Nat → Int32} {A : Nat → Nat → Int32} {self102 : Int32 → Int32 → (Nat → Int32) → (Nat → Nat → Int32) → Option (Int32 × MS)} {N102 : Nat} (hself102 : ∀ (x2 : Int32) (x3 : Int32) (I : Nat → Int32) (A : Nat → Nat → Int32), TJ I → TK A → ((0 : Int) ≤ x2.toInt ∧ x2.toInt ≤ (601 : Int)) → ((0 : Int) ≤ x3.toInt ∧ x3.toInt ≤ (200 : Int)) → ((I 1).toInt ≤ 200) → (201 - x3.toInt) < (N102 : Int) → Ok (self102 x2 x3 I A) (fun o => TJ o.2.1 ∧ TK o.2.2 ∧ ((0 : Int) ≤ o.1.toInt ∧ o.1.toInt ≤ (200 : Int)))) {x2 : Int32} {x3 : Int32} (hI : TJ I) (hA : TK A) (r_x2 : (0 : Int) ≤ x2.toInt ∧ x2.toInt ≤ (601 : Int)) (r_x3 : (0 : Int) ≤ x3.toInt ∧ x3.toInt ≤ (200 : Int)) (q0 : (I 1).toInt ≤ 200) (m102 : (201 - x3.toInt) ≤ (N102 : Int)) : Ok (f_say_102s self102 x2 x3 I A) (fun o => TJ o.2.1 ∧ TK o.2.2 ∧ ((0 : Int) ≤ o.1.toInt ∧ o.1.toInt ≤ (200 : Int))) := by
  unfold f_say_102s
  have b_I_0 := tI_0 hI
  have b_I_1 := tI_1 hI
  have b_I_5 := tI_5 hI
  have b_I_6 := tI_6 hI
  refine ok_if (fun c137 => ?_) (fun c137 => ?_)
  ·
    replace c137 := ti_leP c137 rfl rfl
    refine ok_chk (ti_in (by omega) (by omega)) ?_
    refine ok_bnd (fun A1 e138 => ?_)
    have hA_A1 : TK A1 := e138.symm ▸ tk_u hA (j := 14) (show (0 : Int) ≤ (I 1).toInt from (by omega)) (show (I 1).toInt ≤ (200 : Int) from (by omega))
    refine ok_bnd (fun I2 e139 => ?_)
    have hI_I2 : TJ I2 := e139.symm ▸ tj_u hI (k := 1) (show (0 : Int) ≤ (0 : Int32).toInt from (by decide)) (show (0 : Int32).toInt ≤ (2000 : Int) from (by decide))
    have : (I2 0).toInt = (I 0).toInt := by rw [e139]; rfl
    have : (I2 1).toInt = 0 := by rw [e139]; exact (show (0 : Int32).toInt = 0 from rfl)
    have : (I2 5).toInt = (I 5).toInt := by rw [e139]; rfl
    have : (I2 6).toInt = (I 6).toInt := by rw [e139]; rfl
    refine ok_chk (ti_in (by omega) (by omega)) ?_
    refine ok_bnd (fun v3 e140 => ?_)
    have b_v3 := tA_14 hA_A1 ((x2).toNatClampNeg)
    rw [← e140] at b_v3
    exact ok_ret ⟨hI_I2, hA_A1, (show (0 : Int) ≤ v3.toInt ∧ v3.toInt ≤ (200 : Int) from (by omega))⟩
  ·
    replace c137 := ti_leN c137 rfl rfl
    refine ok_bnd (fun v4 e141 => ?_)
    have t_v4 : v4.toInt = 200 * x2.toInt := ti_mul e141 (show (200 : Int32).toInt = 200 from rfl) rfl (by omega) (by omega)
    refine ok_bnd (fun v5 e142 => ?_)
    have t_v5 : v5.toInt = v4.toInt + x3.toInt := ti_add e142 rfl rfl (by omega) (by omega)
    refine ok_chk (ti_in (by omega) (by omega)) ?_
    refine ok_bnd (fun v6 e143 => ?_)
    have b_v6 := tA_2 hA ((x3).toNatClampNeg)
    rw [← e143] at b_v6
    refine ok_chk (ti_in (by omega) (by omega)) ?_
    refine ok_bnd (fun A7 e144 => ?_)
    have hA_A7 : TK A7 := e144.symm ▸ tk_n hA rfl
    refine ok_bnd (fun v8 e145 => ?_)
    have t_v8 : v8.toInt = x3.toInt + 1 := ti_add e145 rfl (show (1 : Int32).toInt = 1 from rfl) (by omega) (by omega)
    exact hself102 x2 v8 I A7 hI hA_A7 r_x2 (by omega) q0 (by omega)
theorem t_say_102   : ∀ (n : Nat) (x2 : Int32) (x3 : Int32) (I : Nat → Int32) (A : Nat → Nat → Int32), TJ I → TK A → ((0 : Int) ≤ x2.toInt ∧ x2.toInt ≤ (601 : Int)) → ((0 : Int) ≤ x3.toInt ∧ x3.toInt ≤ (200 : Int)) → ((I 1).toInt ≤ 200) → (201 - x3.toInt) < (n : Int) → Ok (f_say_102  n x2 x3 I A) (fun o => TJ o.2.1 ∧ TK o.2.2 ∧ ((0 : Int) ≤ o.1.toInt ∧ o.1.toInt ≤ (200 : Int))) := by
  intro n
  induction n with
  | zero => intro x2 x3 I A hI hA g0 g1 g2  hm; exfalso; omega
  | succ n ih =>
    intro x2 x3 I A hI hA g0 g1 g2  hm
    exact t_say_102s   (N102 := n)  ih hI hA g0 g1 g2  (by omega)
theorem t_say_74  {I : Nat → Int32} {A : Nat → Nat → Int32} {t0 : Int32} (hI : TJ I) (hA : TK A) (r_t0 : (0 : Int) ≤ t0.toInt ∧ t0.toInt ≤ (1 : Int)) (q0 : t0.toInt = 0 → (I 1).toInt ≤ 200) : Ok (f_say_74 t0 I A) (fun o => TJ o.2.1 ∧ TK o.2.2 ∧ ((0 : Int) ≤ o.1.toInt ∧ o.1.toInt ≤ (200 : Int))) := by
  unfold f_say_74
  have b_I_0 := tI_0 hI
  have b_I_1 := tI_1 hI
  have b_I_5 := tI_5 hI
  have b_I_6 := tI_6 hI
  refine ok_bnd (fun I1 e146 => ?_)
  have hI_I1 : TJ I1 := e146.symm ▸ tj_u hI (k := 0) (show (0 : Int) ≤ t0.toInt from (by omega)) (show t0.toInt ≤ (2 : Int) from (by omega))
  have : (I1 0).toInt = t0.toInt := by rw [e146]; exact rfl
  have : (I1 1).toInt = (I 1).toInt := by rw [e146]; rfl
  have : (I1 5).toInt = (I 5).toInt := by rw [e146]; rfl
  have : (I1 6).toInt = (I 6).toInt := by rw [e146]; rfl
  have b_I1_0 := tI_0 hI_I1
  refine ok_if (fun c147 => ?_) (fun c147 => ?_)
  ·
    replace c147 := ti_leP c147 rfl (show (0 : Int32).toInt = 0 from rfl)
    refine ok_bnd (fun v2 e148 => ?_)
    have b_I1_5 := tI_5 hI_I1
    have t_v2 : v2.toInt = 301 * (I1 5).toInt := ti_mul e148 (show (301 : Int32).toInt = 301 from rfl) rfl (by omega) (by omega)
    refine ok_bnd (fun v3 e149 => ?_)
    have b_I1_6 := tI_6 hI_I1
    have t_v3 : v3.toInt = v2.toInt + (I1 6).toInt := ti_add e149 rfl rfl (by omega) (by omega)
    have b_I1_1 := tI_1 hI_I1
    exact t_say_102     mFuel v3 (0 : Int32) I1 A hI_I1 hA (by omega) (by decide) (by have z0 : (0 : Int32).toInt = 0 := rfl; omega) (by show _ < ((200000 : Nat) : Int); have z0 : (0 : Int32).toInt = 0 := rfl; omega)
  ·
    replace c147 := ti_leN c147 rfl (show (0 : Int32).toInt = 0 from rfl)
    exact ok_ret ⟨hI_I1, hA, (show (0 : Int) ≤ (0 : Int32).toInt ∧ (0 : Int32).toInt ≤ (200 : Int) from (by decide))⟩
theorem t_say_57  {I : Nat → Int32} {A : Nat → Nat → Int32} {self18 : Int32 → Int32 → (Nat → Int32) → (Nat → Nat → Int32) → Option (Int32 × MS)} {N18 : Nat} (hself18 : ∀ (x1 : Int32) (x2 : Int32) (I : Nat → Int32) (A : Nat → Nat → Int32), TJ I → TK A → ((0 : Int) ≤ x1.toInt ∧ x1.toInt ≤ (1 : Int)) → ((0 : Int) ≤ x2.toInt ∧ x2.toInt ≤ (2000 : Int)) → (x1.toInt = 1 → (I 1).toInt ≤ 200) → (2001 - x2.toInt) < (N18 : Int) → Ok (self18 x1 x2 I A) (fun o => TJ o.2.1 ∧ TK o.2.2 ∧ ((0 : Int) ≤ o.1.toInt ∧ o.1.toInt ≤ (200 : Int)))) {x2 : Int32} {t0 : Int32} (hI : TJ I) (hA : TK A) (r_x2 : (0 : Int) ≤ x2.toInt ∧ x2.toInt ≤ (1999 : Int)) (r_t0 : (0 : Int) ≤ t0.toInt ∧ t0.toInt ≤ (1 : Int)) (q0 : t0.toInt = 1 → (I 1).toInt ≤ 200) (m18 : (2001 - x2.toInt) ≤ (N18 : Int)) : Ok (f_say_57 self18 x2 t0 I A) (fun o => TJ o.2.1 ∧ TK o.2.2 ∧ ((0 : Int) ≤ o.1.toInt ∧ o.1.toInt ≤ (200 : Int))) := by
  unfold f_say_57
  have b_I_0 := tI_0 hI
  have b_I_1 := tI_1 hI
  have b_I_5 := tI_5 hI
  have b_I_6 := tI_6 hI
  refine ok_bnd (fun v1 e150 => ?_)
  have t_v1 : v1.toInt = x2.toInt + 1 := ti_add e150 rfl (show (1 : Int32).toInt = 1 from rfl) (by omega) (by omega)
  exact hself18 t0 v1 I A hI hA r_t0 (by omega) q0 (by omega)
theorem t_say_18s  {I : Nat → Int32} {A : Nat → Nat → Int32} {self18 : Int32 → Int32 → (Nat → Int32) → (Nat → Nat → Int32) → Option (Int32 × MS)} {N18 : Nat} (hself18 : ∀ (x1 : Int32) (x2 : Int32) (I : Nat → Int32) (A : Nat → Nat → Int32), TJ I → TK A → ((0 : Int) ≤ x1.toInt ∧ x1.toInt ≤ (1 : Int)) → ((0 : Int) ≤ x2.toInt ∧ x2.toInt ≤ (2000 : Int)) → (x1.toInt = 1 → (I 1).toInt ≤ 200) → (2001 - x2.toInt) < (N18 : Int) → Ok (self18 x1 x2 I A) (fun o => TJ o.2.1 ∧ TK o.2.2 ∧ ((0 : Int) ≤ o.1.toInt ∧ o.1.toInt ≤ (200 : Int)))) {x1 : Int32} {x2 : Int32} (hI : TJ I) (hA : TK A) (r_x1 : (0 : Int) ≤ x1.toInt ∧ x1.toInt ≤ (1 : Int)) (r_x2 : (0 : Int) ≤ x2.toInt ∧ x2.toInt ≤ (2000 : Int)) (q0 : x1.toInt = 1 → (I 1).toInt ≤ 200) (m18 : (2001 - x2.toInt) ≤ (N18 : Int)) : Ok (f_say_18s self18 x1 x2 I A) (fun o => TJ o.2.1 ∧ TK o.2.2 ∧ ((0 : Int) ≤ o.1.toInt ∧ o.1.toInt ≤ (200 : Int))) := by
  unfold f_say_18s
  have b_I_0 := tI_0 hI
  have b_I_1 := tI_1 hI
  have b_I_5 := tI_5 hI
  have b_I_6 := tI_6 hI
  refine ok_if (fun c151 => ?_) (fun c151 => ?_)
  ·
    replace c151 := ti_leP c151 rfl rfl
    refine ok_if (fun c152 => ?_) (fun c152 => ?_)
    ·
      replace c152 := ti_eqP c152 rfl (show (0 : Int32).toInt = 0 from rfl)
      exact t_say_74    (t0 := (1 : Int32)) hI hA (by decide) (by have z0 : (1 : Int32).toInt = 1 := rfl; omega)
    ·
      replace c152 := ti_eqN c152 rfl (show (0 : Int32).toInt = 0 from rfl)
      exact t_say_74    (t0 := (0 : Int32)) hI hA (by decide) (by have z0 : (0 : Int32).toInt = 0 := rfl; omega)
  ·
    replace c151 := ti_leN c151 rfl rfl
    refine ok_if (fun c153 => ?_) (fun c153 => ?_)
    ·
      replace c153 := ti_eqP c153 rfl (show (0 : Int32).toInt = 0 from rfl)
      unfold f_say_56
      exact t_say_57   hself18 (x2 := x2) (t0 := (0 : Int32)) hI hA (by omega) (by decide) (by have z0 : (0 : Int32).toInt = 0 := rfl; omega) m18
    ·
      replace c153 := ti_eqN c153 rfl (show (0 : Int32).toInt = 0 from rfl)
      refine ok_chk (ti_in (by omega) (by omega)) ?_
      refine ok_bnd (fun v1 e154 => ?_)
      have b_v1 := tA_2 hA ((x2).toNatClampNeg)
      rw [← e154] at b_v1
      refine ok_if (fun c155 => ?_) (fun c155 => ?_)
      ·
        replace c155 := ti_eqP c155 rfl (show (125 : Int32).toInt = 125 from rfl)
        unfold f_say_56
        exact t_say_57   hself18 (x2 := x2) (t0 := (0 : Int32)) hI hA (by omega) (by decide) (by have z0 : (0 : Int32).toInt = 0 := rfl; omega) m18
      ·
        replace c155 := ti_eqN c155 rfl (show (125 : Int32).toInt = 125 from rfl)
        refine ok_chk (ti_in (by omega) (by omega)) ?_
        refine ok_bnd (fun v2 e156 => ?_)
        have b_v2 := tA_2 hA ((x2).toNatClampNeg)
        rw [← e156] at b_v2
        refine ok_if (fun c157 => ?_) (fun c157 => ?_)
        ·
          replace c157 := ti_eqP c157 rfl (show (10 : Int32).toInt = 10 from rfl)
          unfold f_say_56
          exact t_say_57   hself18 (x2 := x2) (t0 := (0 : Int32)) hI hA (by omega) (by decide) (by have z0 : (0 : Int32).toInt = 0 := rfl; omega) m18
        ·
          replace c157 := ti_eqN c157 rfl (show (10 : Int32).toInt = 10 from rfl)
          exact t_say_57   hself18 (x2 := x2) (t0 := (1 : Int32)) hI hA (by omega) (by decide) (by have z0 : (1 : Int32).toInt = 1 := rfl; omega) m18
theorem t_say_18   : ∀ (n : Nat) (x1 : Int32) (x2 : Int32) (I : Nat → Int32) (A : Nat → Nat → Int32), TJ I → TK A → ((0 : Int) ≤ x1.toInt ∧ x1.toInt ≤ (1 : Int)) → ((0 : Int) ≤ x2.toInt ∧ x2.toInt ≤ (2000 : Int)) → (x1.toInt = 1 → (I 1).toInt ≤ 200) → (2001 - x2.toInt) < (n : Int) → Ok (f_say_18  n x1 x2 I A) (fun o => TJ o.2.1 ∧ TK o.2.2 ∧ ((0 : Int) ≤ o.1.toInt ∧ o.1.toInt ≤ (200 : Int))) := by
  intro n
  induction n with
  | zero => intro x1 x2 I A hI hA g0 g1 g2  hm; exfalso; omega
  | succ n ih =>
    intro x1 x2 I A hI hA g0 g1 g2  hm
    exact t_say_18s   (N18 := n)  ih hI hA g0 g1 g2  (by omega)
theorem t_say_15  {I : Nat → Int32} {A : Nat → Nat → Int32} {t0 : Int32} (hI : TJ I) (hA : TK A) (r_t0 : (0 : Int) ≤ t0.toInt ∧ t0.toInt ≤ (1 : Int)) (q0 : t0.toInt = 1 → (I 1).toInt ≤ 200) : Ok (f_say_15 t0 I A) (fun o => TJ o.2.1 ∧ TK o.2.2 ∧ ((0 : Int) ≤ o.1.toInt ∧ o.1.toInt ≤ (200 : Int))) := by
  unfold f_say_15
  have b_I_0 := tI_0 hI
  have b_I_1 := tI_1 hI
  have b_I_5 := tI_5 hI
  have b_I_6 := tI_6 hI
  exact t_say_18     mFuel t0 (0 : Int32) I A hI hA r_t0 (by decide) q0 (by show _ < ((200000 : Nat) : Int); have z0 : (0 : Int32).toInt = 0 := rfl; omega)
theorem t_say_0  {I : Nat → Int32} {A : Nat → Nat → Int32} (hI : TJ I) (hA : TK A) : Ok (f_say_0 I A) (fun o => TJ o.2.1 ∧ TK o.2.2 ∧ ((0 : Int) ≤ o.1.toInt ∧ o.1.toInt ≤ (200 : Int))) := by
  unfold f_say_0
  have b_I_0 := tI_0 hI
  have b_I_1 := tI_1 hI
  have b_I_5 := tI_5 hI
  have b_I_6 := tI_6 hI
  refine ok_if (fun c158 => ?_) (fun c158 => ?_)
  ·
    replace c158 := ti_ltP c158 (show (200 : Int32).toInt = 200 from rfl) rfl
    exact t_say_15    (t0 := (0 : Int32)) hI hA (by decide) (by have z0 : (0 : Int32).toInt = 0 := rfl; omega)
  ·
    replace c158 := ti_ltN c158 (show (200 : Int32).toInt = 200 from rfl) rfl
    exact t_say_15    (t0 := (1 : Int32)) hI hA (by decide) (by have z0 : (1 : Int32).toInt = 1 := rfl; omega)
theorem t_say  {I : Nat → Int32} {A : Nat → Nat → Int32}  (hI : TJ I) (hA : TK A) : Ok (f_say  I A) (fun o => TJ o.2.1 ∧ TK o.2.2 ∧ ((0 : Int) ≤ o.1.toInt ∧ o.1.toInt ≤ (200 : Int))) := t_say_0  hI hA 
theorem t_end_15  {I : Nat → Int32} {A : Nat → Nat → Int32} {x1 : Int32} {t0 : Int32} (hI : TJ I) (hA : TK A) (r_t0 : (0 : Int) ≤ t0.toInt ∧ t0.toInt ≤ (1 : Int)) (q0 : t0.toInt = 0 → 0 ≤ x1.toInt ∧ x1.toInt ≤ 3) (q1 : t0.toInt = 1 → x1.toInt < 0 ∨ 3 < x1.toInt) : Ok (f_end_15 x1 t0 I A) (fun o => TJ o.2.1 ∧ TK o.2.2 ∧ ((0 ≤ x1.toInt ∧ x1.toInt ≤ 3 → (o.2.1 0).toInt = 0) ∧ (x1.toInt < 0 ∨ 3 < x1.toInt → (o.2.1 0).toInt = 1))) := by
  unfold f_end_15
  have b_I_0 := tI_0 hI
  have b_I_5 := tI_5 hI
  refine ok_bnd (fun I1 e159 => ?_)
  have hI_I1 : TJ I1 := e159.symm ▸ tj_u hI (k := 0) (show (0 : Int) ≤ t0.toInt from (by omega)) (show t0.toInt ≤ (2 : Int) from (by omega))
  have : (I1 0).toInt = t0.toInt := by rw [e159]; exact rfl
  have : (I1 5).toInt = (I 5).toInt := by rw [e159]; rfl
  have b_I1_0 := tI_0 hI_I1
  refine ok_if (fun c160 => ?_) (fun c160 => ?_)
  ·
    replace c160 := ti_leP c160 rfl (show (0 : Int32).toInt = 0 from rfl)
    unfold f_end_46
    have b_I1_5 := tI_5 hI_I1
    refine ok_chk (ti_in (by omega) (by omega)) ?_
    refine ok_bnd (fun A1 e161 => ?_)
    have hA_A1 : TK A1 := e161.symm ▸ tk_u hA (j := 23) (show (-1 : Int) ≤ x1.toInt from (by omega)) (show x1.toInt ≤ (3 : Int) from (by omega))
    exact ok_ret ⟨hI_I1, hA_A1, (by show (0 ≤ x1.toInt ∧ x1.toInt ≤ 3 → (I1 0).toInt = 0) ∧ (x1.toInt < 0 ∨ 3 < x1.toInt → (I1 0).toInt = 1); have z : (0 : Int32).toInt = 0 := rfl; omega)⟩
  ·
    replace c160 := ti_leN c160 rfl (show (0 : Int32).toInt = 0 from rfl)
    have b_I1_5 := tI_5 hI_I1
    refine ok_chk (ti_in (by omega) (by omega)) ?_
    refine ok_bnd (fun v2 e162 => ?_)
    have b_v2 := tA_23 hA (((I1 5)).toNatClampNeg)
    rw [← e162] at b_v2
    unfold f_end_46
    refine ok_chk (ti_in (by omega) (by omega)) ?_
    refine ok_bnd (fun A1 e163 => ?_)
    have hA_A1 : TK A1 := e163.symm ▸ tk_u hA (j := 23) (show (-1 : Int) ≤ v2.toInt from (by omega)) (show v2.toInt ≤ (3 : Int) from (by omega))
    exact ok_ret ⟨hI_I1, hA_A1, (by show (0 ≤ x1.toInt ∧ x1.toInt ≤ 3 → (I1 0).toInt = 0) ∧ (x1.toInt < 0 ∨ 3 < x1.toInt → (I1 0).toInt = 1); have z : (0 : Int32).toInt = 0 := rfl; omega)⟩
theorem t_end_0  {I : Nat → Int32} {A : Nat → Nat → Int32} {x1 : Int32} (hI : TJ I) (hA : TK A) : Ok (f_end_0 x1 I A) (fun o => TJ o.2.1 ∧ TK o.2.2 ∧ ((0 ≤ x1.toInt ∧ x1.toInt ≤ 3 → (o.2.1 0).toInt = 0) ∧ (x1.toInt < 0 ∨ 3 < x1.toInt → (o.2.1 0).toInt = 1))) := by
  unfold f_end_0
  have b_I_0 := tI_0 hI
  have b_I_5 := tI_5 hI
  refine ok_if (fun c164 => ?_) (fun c164 => ?_)
  ·
    replace c164 := ti_ltP c164 rfl (show (0 : Int32).toInt = 0 from rfl)
    unfold f_end_10
    exact t_end_15    (x1 := x1) (t0 := (1 : Int32)) hI hA (by decide) (by have z0 : (1 : Int32).toInt = 1 := rfl; omega) (by have z0 : (1 : Int32).toInt = 1 := rfl; omega)
  ·
    replace c164 := ti_ltN c164 rfl (show (0 : Int32).toInt = 0 from rfl)
    refine ok_if (fun c165 => ?_) (fun c165 => ?_)
    ·
      replace c165 := ti_leP c165 rfl (show (3 : Int32).toInt = 3 from rfl)
      exact t_end_15    (x1 := x1) (t0 := (0 : Int32)) hI hA (by decide) (by have z0 : (0 : Int32).toInt = 0 := rfl; omega) (by have z0 : (0 : Int32).toInt = 0 := rfl; omega)
    ·
      replace c165 := ti_leN c165 rfl (show (3 : Int32).toInt = 3 from rfl)
      unfold f_end_10
      exact t_end_15    (x1 := x1) (t0 := (1 : Int32)) hI hA (by decide) (by have z0 : (1 : Int32).toInt = 1 := rfl; omega) (by have z0 : (1 : Int32).toInt = 1 := rfl; omega)
theorem t_end  {I : Nat → Int32} {A : Nat → Nat → Int32} {x1 : Int32} (hI : TJ I) (hA : TK A) : Ok (f_end x1 I A) (fun o => TJ o.2.1 ∧ TK o.2.2 ∧ ((0 ≤ x1.toInt ∧ x1.toInt ≤ 3 → (o.2.1 0).toInt = 0) ∧ (x1.toInt < 0 ∨ 3 < x1.toInt → (o.2.1 0).toInt = 1))) := t_end_0  hI hA 
theorem t_result_0  {I : Nat → Int32} {A : Nat → Nat → Int32} (hI : TJ I) (hA : TK A) : Ok (f_result_0 I A) (fun o => TJ o.2.1 ∧ TK o.2.2 ∧ ((-1 : Int) ≤ o.1.toInt ∧ o.1.toInt ≤ (3 : Int))) := by
  unfold f_result_0
  have b_I_5 := tI_5 hI
  refine ok_bnd (fun I1 e166 => ?_)
  have hI_I1 : TJ I1 := e166.symm ▸ tj_u hI (k := 0) (show (0 : Int) ≤ (0 : Int32).toInt from (by decide)) (show (0 : Int32).toInt ≤ (2 : Int) from (by decide))
  have : (I1 5).toInt = (I 5).toInt := by rw [e166]; rfl
  have b_I1_5 := tI_5 hI_I1
  refine ok_chk (ti_in (by omega) (by omega)) ?_
  refine ok_bnd (fun v2 e167 => ?_)
  have b_v2 := tA_23 hA (((I1 5)).toNatClampNeg)
  rw [← e167] at b_v2
  exact ok_ret ⟨hI_I1, hA, (show (-1 : Int) ≤ v2.toInt ∧ v2.toInt ≤ (3 : Int) from (by omega))⟩
theorem t_result  {I : Nat → Int32} {A : Nat → Nat → Int32}  (hI : TJ I) (hA : TK A) : Ok (f_result  I A) (fun o => TJ o.2.1 ∧ TK o.2.2 ∧ ((-1 : Int) ≤ o.1.toInt ∧ o.1.toInt ≤ (3 : Int))) := t_result_0  hI hA 
theorem t_tags_0  {I : Nat → Int32} {A : Nat → Nat → Int32} (hI : TJ I) (hA : TK A) : Ok (f_tags_0 I A) (fun o => TJ o.2.1 ∧ TK o.2.2 ∧ ((0 : Int) ≤ o.1.toInt ∧ o.1.toInt ≤ (8 : Int))) := by
  unfold f_tags_0
  have b_I_5 := tI_5 hI
  refine ok_bnd (fun I1 e168 => ?_)
  have hI_I1 : TJ I1 := e168.symm ▸ tj_u hI (k := 0) (show (0 : Int) ≤ (0 : Int32).toInt from (by decide)) (show (0 : Int32).toInt ≤ (2 : Int) from (by decide))
  have : (I1 5).toInt = (I 5).toInt := by rw [e168]; rfl
  have b_I1_5 := tI_5 hI_I1
  refine ok_chk (ti_in (by omega) (by omega)) ?_
  refine ok_bnd (fun v2 e169 => ?_)
  have b_v2 := tA_18 hA (((I1 5)).toNatClampNeg)
  rw [← e169] at b_v2
  exact ok_ret ⟨hI_I1, hA, (show (0 : Int) ≤ v2.toInt ∧ v2.toInt ≤ (8 : Int) from (by omega))⟩
theorem t_tags  {I : Nat → Int32} {A : Nat → Nat → Int32}  (hI : TJ I) (hA : TK A) : Ok (f_tags  I A) (fun o => TJ o.2.1 ∧ TK o.2.2 ∧ ((0 : Int) ≤ o.1.toInt ∧ o.1.toInt ≤ (8 : Int))) := t_tags_0  hI hA 
theorem t_tag_74  {I : Nat → Int32} {A : Nat → Nat → Int32} {x1 : Int32} {x2 : Int32} {x3 : Int32} {t0 : Int32} (hI : TJ I) (hA : TK A) (r_t0 : (0 : Int) ≤ t0.toInt ∧ t0.toInt ≤ (96 : Int)) (q0 : 0 ≤ x1.toInt ∧ x1.toInt ≤ 7 ∧ 0 ≤ x3.toInt) (q1 : x2.toInt = 0 → t0.toInt ≤ 12) : Ok (f_tag_74 x1 x2 x3 t0 I A) (fun o => TJ o.2.1 ∧ TK o.2.2 ∧ ((0 : Int) ≤ o.1.toInt ∧ o.1.toInt ≤ (65535 : Int))) := by
  unfold f_tag_74
  have b_I_5 := tI_5 hI
  have b_I_0 := tI_0 hI
  refine ok_if (fun c170 => ?_) (fun c170 => ?_)
  ·
    replace c170 := ti_ltP c170 rfl rfl
    refine ok_if (fun c171 => ?_) (fun c171 => ?_)
    ·
      replace c171 := ti_eqP c171 rfl (show (0 : Int32).toInt = 0 from rfl)
      refine ok_bnd (fun v1 e172 => ?_)
      have t_v1 : v1.toInt = 96 * (I 5).toInt := ti_mul e172 (show (96 : Int32).toInt = 96 from rfl) rfl (by omega) (by omega)
      refine ok_bnd (fun v2 e173 => ?_)
      have t_v2 : v2.toInt = 12 * x1.toInt := ti_mul e173 (show (12 : Int32).toInt = 12 from rfl) rfl (by omega) (by omega)
      refine ok_bnd (fun v3 e174 => ?_)
      have t_v3 : v3.toInt = v1.toInt + v2.toInt := ti_add e174 rfl rfl (by omega) (by omega)
      refine ok_bnd (fun v4 e175 => ?_)
      have t_v4 : v4.toInt = v3.toInt + x3.toInt := ti_add e175 rfl rfl (by omega) (by omega)
      refine ok_chk (ti_in (by omega) (by omega)) ?_
      refine ok_bnd (fun v5 e176 => ?_)
      have b_v5 := tA_20 hA ((v4).toNatClampNeg)
      rw [← e176] at b_v5
      unfold f_tag_132
      exact ok_ret ⟨hI, hA, (show (0 : Int) ≤ v5.toInt ∧ v5.toInt ≤ (65535 : Int) from (by omega))⟩
    ·
      replace c171 := ti_eqN c171 rfl (show (0 : Int32).toInt = 0 from rfl)
      refine ok_bnd (fun v6 e177 => ?_)
      have t_v6 : v6.toInt = 768 * (I 5).toInt := ti_mul e177 (show (768 : Int32).toInt = 768 from rfl) rfl (by omega) (by omega)
      refine ok_bnd (fun v7 e178 => ?_)
      have t_v7 : v7.toInt = 96 * x1.toInt := ti_mul e178 (show (96 : Int32).toInt = 96 from rfl) rfl (by omega) (by omega)
      refine ok_bnd (fun v8 e179 => ?_)
      have t_v8 : v8.toInt = v6.toInt + v7.toInt := ti_add e179 rfl rfl (by omega) (by omega)
      refine ok_bnd (fun v9 e180 => ?_)
      have t_v9 : v9.toInt = v8.toInt + x3.toInt := ti_add e180 rfl rfl (by omega) (by omega)
      refine ok_chk (ti_in (by omega) (by omega)) ?_
      refine ok_bnd (fun v10 e181 => ?_)
      have b_v10 := tA_22 hA ((v9).toNatClampNeg)
      rw [← e181] at b_v10
      unfold f_tag_132
      exact ok_ret ⟨hI, hA, (show (0 : Int) ≤ v10.toInt ∧ v10.toInt ≤ (65535 : Int) from (by omega))⟩
  ·
    replace c170 := ti_ltN c170 rfl rfl
    unfold f_tag_132
    exact ok_ret ⟨hI, hA, (show (0 : Int) ≤ (0 : Int32).toInt ∧ (0 : Int32).toInt ≤ (65535 : Int) from (by decide))⟩
theorem t_tag_27  {I : Nat → Int32} {A : Nat → Nat → Int32} {x1 : Int32} {x2 : Int32} {x3 : Int32} {t0 : Int32} (hI : TJ I) (hA : TK A) (r_t0 : (0 : Int) ≤ t0.toInt ∧ t0.toInt ≤ (1 : Int)) (q0 : t0.toInt = 0 → 0 ≤ x1.toInt ∧ x1.toInt ≤ 7 ∧ 0 ≤ x3.toInt) : Ok (f_tag_27 x1 x2 x3 t0 I A) (fun o => TJ o.2.1 ∧ TK o.2.2 ∧ ((0 : Int) ≤ o.1.toInt ∧ o.1.toInt ≤ (65535 : Int))) := by
  unfold f_tag_27
  have b_I_5 := tI_5 hI
  have b_I_0 := tI_0 hI
  refine ok_bnd (fun I1 e182 => ?_)
  have hI_I1 : TJ I1 := e182.symm ▸ tj_u hI (k := 0) (show (0 : Int) ≤ t0.toInt from (by omega)) (show t0.toInt ≤ (2 : Int) from (by omega))
  have : (I1 5).toInt = (I 5).toInt := by rw [e182]; rfl
  have : (I1 0).toInt = t0.toInt := by rw [e182]; exact rfl
  have b_I1_0 := tI_0 hI_I1
  refine ok_if (fun c183 => ?_) (fun c183 => ?_)
  ·
    replace c183 := ti_leP c183 rfl (show (0 : Int32).toInt = 0 from rfl)
    refine ok_if (fun c184 => ?_) (fun c184 => ?_)
    ·
      replace c184 := ti_eqP c184 rfl (show (0 : Int32).toInt = 0 from rfl)
      refine ok_bnd (fun v2 e185 => ?_)
      have b_I1_5 := tI_5 hI_I1
      have t_v2 : v2.toInt = 8 * (I1 5).toInt := ti_mul e185 (show (8 : Int32).toInt = 8 from rfl) rfl (by omega) (by omega)
      refine ok_bnd (fun v3 e186 => ?_)
      have t_v3 : v3.toInt = v2.toInt + x1.toInt := ti_add e186 rfl rfl (by omega) (by omega)
      refine ok_chk (ti_in (by omega) (by omega)) ?_
      refine ok_bnd (fun v4 e187 => ?_)
      have b_v4 := tA_19 hA ((v3).toNatClampNeg)
      rw [← e187] at b_v4
      exact t_tag_74    (x1 := x1) (x2 := x2) (x3 := x3) (t0 := v4) hI_I1 hA (by omega) (by omega) (by omega)
    ·
      replace c184 := ti_eqN c184 rfl (show (0 : Int32).toInt = 0 from rfl)
      refine ok_bnd (fun v5 e188 => ?_)
      have b_I1_5 := tI_5 hI_I1
      have t_v5 : v5.toInt = 8 * (I1 5).toInt := ti_mul e188 (show (8 : Int32).toInt = 8 from rfl) rfl (by omega) (by omega)
      refine ok_bnd (fun v6 e189 => ?_)
      have t_v6 : v6.toInt = v5.toInt + x1.toInt := ti_add e189 rfl rfl (by omega) (by omega)
      refine ok_chk (ti_in (by omega) (by omega)) ?_
      refine ok_bnd (fun v7 e190 => ?_)
      have b_v7 := tA_21 hA ((v6).toNatClampNeg)
      rw [← e190] at b_v7
      exact t_tag_74    (x1 := x1) (x2 := x2) (x3 := x3) (t0 := v7) hI_I1 hA (by omega) (by omega) (by omega)
  ·
    replace c183 := ti_leN c183 rfl (show (0 : Int32).toInt = 0 from rfl)
    exact ok_ret ⟨hI_I1, hA, (show (0 : Int) ≤ (0 : Int32).toInt ∧ (0 : Int32).toInt ≤ (65535 : Int) from (by decide))⟩
theorem t_tag_0  {I : Nat → Int32} {A : Nat → Nat → Int32} {x1 : Int32} {x2 : Int32} {x3 : Int32} (hI : TJ I) (hA : TK A) : Ok (f_tag_0 x1 x2 x3 I A) (fun o => TJ o.2.1 ∧ TK o.2.2 ∧ ((0 : Int) ≤ o.1.toInt ∧ o.1.toInt ≤ (65535 : Int))) := by
  unfold f_tag_0
  have b_I_5 := tI_5 hI
  have b_I_0 := tI_0 hI
  refine ok_if (fun c191 => ?_) (fun c191 => ?_)
  ·
    replace c191 := ti_ltP c191 rfl (show (0 : Int32).toInt = 0 from rfl)
    unfold f_tag_22
    exact t_tag_27    (x1 := x1) (x2 := x2) (x3 := x3) (t0 := (1 : Int32)) hI hA (by decide) (by have z0 : (1 : Int32).toInt = 1 := rfl; omega)
  ·
    replace c191 := ti_ltN c191 rfl (show (0 : Int32).toInt = 0 from rfl)
    refine ok_chk (ti_in (by omega) (by omega)) ?_
    refine ok_bnd (fun v1 e192 => ?_)
    have b_v1 := tA_18 hA (((I 5)).toNatClampNeg)
    rw [← e192] at b_v1
    refine ok_if (fun c193 => ?_) (fun c193 => ?_)
    ·
      replace c193 := ti_leP c193 rfl rfl
      unfold f_tag_22
      exact t_tag_27    (x1 := x1) (x2 := x2) (x3 := x3) (t0 := (1 : Int32)) hI hA (by decide) (by have z0 : (1 : Int32).toInt = 1 := rfl; omega)
    ·
      replace c193 := ti_leN c193 rfl rfl
      refine ok_if (fun c194 => ?_) (fun c194 => ?_)
      ·
        replace c194 := ti_leP c194 (show (0 : Int32).toInt = 0 from rfl) rfl
        exact t_tag_27    (x1 := x1) (x2 := x2) (x3 := x3) (t0 := (0 : Int32)) hI hA (by decide) (by have z0 : (0 : Int32).toInt = 0 := rfl; omega)
      ·
        replace c194 := ti_leN c194 (show (0 : Int32).toInt = 0 from rfl) rfl
        unfold f_tag_22
        exact t_tag_27    (x1 := x1) (x2 := x2) (x3 := x3) (t0 := (1 : Int32)) hI hA (by decide) (by have z0 : (1 : Int32).toInt = 1 := rfl; omega)
theorem t_tag  {I : Nat → Int32} {A : Nat → Nat → Int32} {x1 : Int32} {x2 : Int32} {x3 : Int32} (hI : TJ I) (hA : TK A) : Ok (f_tag x1 x2 x3 I A) (fun o => TJ o.2.1 ∧ TK o.2.2 ∧ ((0 : Int) ≤ o.1.toInt ∧ o.1.toInt ≤ (65535 : Int))) := t_tag_0  hI hA 
theorem t_thrown_0  {I : Nat → Int32} {A : Nat → Nat → Int32} (hI : TJ I) (hA : TK A) : Ok (f_thrown_0 I A) (fun o => o.2 = (I, A) ∧ ((0 : Int) ≤ o.1.toInt ∧ o.1.toInt ≤ (2 : Int))) := by
  unfold f_thrown_0
  have b_I_0 := tI_0 hI
  exact ok_ret ⟨rfl, (show (0 : Int) ≤ (I 0).toInt ∧ (I 0).toInt ≤ (2 : Int) from (by omega))⟩
theorem t_thrown  {I : Nat → Int32} {A : Nat → Nat → Int32}  (hI : TJ I) (hA : TK A) : Ok (f_thrown  I A) (fun o => o.2 = (I, A) ∧ ((0 : Int) ≤ o.1.toInt ∧ o.1.toInt ≤ (2 : Int))) := t_thrown_0  hI hA 
