def m9 (A : Nat → Nat → Int32) (i : Nat) : Prop := 0 ≤ (A 9 i).toInt
theorem m9_fr {A A' : Nat → Nat → Int32} {i : Nat} (e : A' 9 = A 9) (h : m9 A i) : m9 A' i := by
  unfold m9; rw [e]; exact h
theorem t_sayMove_124s {gg nn : Nat} {cc : Int} {I : Nat → Int32} {A : Nat → Nat → Int32} {self124 : Int32 → Int32 → (Nat → Int32) → (Nat → Nat → Int32) → Option (Int32 × MS)} {N124 : Nat} (hself124 : ∀ (x3 : Int32) (x4 : Int32) (I : Nat → Int32) (A : Nat → Nat → Int32), TJ I → TK A → ((0 : Int) ≤ x3.toInt ∧ x3.toInt ≤ (601 : Int)) → ((0 : Int) ≤ x4.toInt ∧ x4.toInt ≤ (4 : Int)) → ((I 3).toInt ≤ cc + 19 + 8 * x4.toInt ∧ cc ≤ 79400) → (5 - x4.toInt) < (N124 : Int) → Ok (self124 x3 x4 I A) (fun o => TJ o.2.1 ∧ TK o.2.2 ∧ ((o.2.1 3).toInt ≤ cc + 254))) {x3 : Int32} {x4 : Int32} (hI : TJ I) (hA : TK A) (r_x3 : (0 : Int) ≤ x3.toInt ∧ x3.toInt ≤ (601 : Int)) (r_x4 : (0 : Int) ≤ x4.toInt ∧ x4.toInt ≤ (4 : Int)) (q0 : (I 3).toInt ≤ cc + 19 + 8 * x4.toInt ∧ cc ≤ 79400) (m124 : (5 - x4.toInt) ≤ (N124 : Int)) : Ok (f_sayMove_124s self124 x3 x4 I A) (fun o => TJ o.2.1 ∧ TK o.2.2 ∧ ((o.2.1 3).toInt ≤ cc + 254)) := by
  unfold f_sayMove_124s
  have b_I_3 := tI_3 hI
  have b_I_5 := tI_5 hI
  have b_I_29 := tI_29 hI
  have b_I_36 := tI_36 hI
  refine ok_chk (ti_in (by omega) (by omega)) ?_
  refine ok_bnd (fun v1 e1 => ?_)
  have b_v1 := tA_12 hA ((x3).toNatClampNeg)
  rw [← e1] at b_v1
  refine ok_if (fun c2 => ?_) (fun c2 => ?_)
  ·
    replace c2 := ti_leP c2 rfl rfl
    refine ok_chk (ti_in (by omega) (by omega)) ?_
    refine ok_bnd (fun v2 e3 => ?_)
    have b_v2 := tA_14 hA ((x3).toNatClampNeg)
    rw [← e3] at b_v2
    refine ok_if (fun c4 => ?_) (fun c4 => ?_)
    ·
      replace c4 := ti_leP c4 rfl (show (0 : Int32).toInt = 0 from rfl)
      unfold f_sayMove_188
      exact ok_ret ⟨hI, hA, (by show (I 3).toInt ≤ cc + 254; have z : (0 : Int32).toInt = 0 := rfl; omega)⟩
    ·
      replace c4 := ti_leN c4 rfl (show (0 : Int32).toInt = 0 from rfl)
      obtain ⟨⟨r3, Ic3, Ac3⟩, h_r3, hI_Ic3, hA_Ac3, p_r3_0⟩ := t_ink (x1 := (32 : Int32))  hI hA (by have z0 : (32 : Int32).toInt = 32 := rfl; omega)
      replace hI_Ic3 : TJ Ic3 := hI_Ic3
      replace hA_Ac3 : TK Ac3 := hA_Ac3
      dsimp only at p_r3_0
      refine ok_clR h_r3 ?_
      have f_r3 := fw_ink h_r3
      have : (Ic3 5).toInt = (I 5).toInt := congrArg Int32.toInt (f_r3.1 5 (by decide))
      have : (Ic3 29).toInt = (I 29).toInt := congrArg Int32.toInt (f_r3.1 29 (by decide))
      have : (Ic3 36).toInt = (I 36).toInt := congrArg Int32.toInt (f_r3.1 36 (by decide))
      have b_Ic3_3 := tI_3 hI_Ic3
      obtain ⟨⟨r4, Ic4, Ac4⟩, h_r4, hI_Ic4, hA_Ac4, p_r4_0⟩ := t_sayRemark (x1 := x3)  hI_Ic3 hA_Ac3 r_x3 (show (Ic3 3).toInt ≤ (Ic3 3).toInt ∧ (Ic3 3).toInt ≤ 79700 from ⟨Int.le_refl _, by omega⟩)
      replace hI_Ic4 : TJ Ic4 := hI_Ic4
      replace hA_Ac4 : TK Ac4 := hA_Ac4
      dsimp only at p_r4_0
      refine ok_clR h_r4 ?_
      have f_r4 := fw_sayRemark h_r4
      have : (Ic4 5).toInt = (Ic3 5).toInt := congrArg Int32.toInt (f_r4.1 5 (by decide))
      have : (Ic4 29).toInt = (Ic3 29).toInt := congrArg Int32.toInt (f_r4.1 29 (by decide))
      have : (Ic4 36).toInt = (Ic3 36).toInt := congrArg Int32.toInt (f_r4.1 36 (by decide))
      unfold f_sayMove_188
      exact ok_ret ⟨hI_Ic4, hA_Ac4, (by show (Ic4 3).toInt ≤ cc + 254; have z : (0 : Int32).toInt = 0 := rfl; omega)⟩
  ·
    replace c2 := ti_leN c2 rfl rfl
    obtain ⟨⟨r5, Ic5, Ac5⟩, h_r5, hI_Ic5, hA_Ac5, p_r5_0⟩ := t_ink (x1 := (32 : Int32))  hI hA (by have z0 : (32 : Int32).toInt = 32 := rfl; omega)
    replace hI_Ic5 : TJ Ic5 := hI_Ic5
    replace hA_Ac5 : TK Ac5 := hA_Ac5
    dsimp only at p_r5_0
    refine ok_clR h_r5 ?_
    have f_r5 := fw_ink h_r5
    have : (Ic5 5).toInt = (I 5).toInt := congrArg Int32.toInt (f_r5.1 5 (by decide))
    have : (Ic5 29).toInt = (I 29).toInt := congrArg Int32.toInt (f_r5.1 29 (by decide))
    have : (Ic5 36).toInt = (I 36).toInt := congrArg Int32.toInt (f_r5.1 36 (by decide))
    have b_Ic5_3 := tI_3 hI_Ic5
    obtain ⟨⟨r6, Ic6, Ac6⟩, h_r6, hI_Ic6, hA_Ac6, p_r6_0⟩ := t_ink (x1 := (36 : Int32))  hI_Ic5 hA_Ac5 (by have z0 : (36 : Int32).toInt = 36 := rfl; omega)
    replace hI_Ic6 : TJ Ic6 := hI_Ic6
    replace hA_Ac6 : TK Ac6 := hA_Ac6
    dsimp only at p_r6_0
    refine ok_clR h_r6 ?_
    have f_r6 := fw_ink h_r6
    have : (Ic6 5).toInt = (Ic5 5).toInt := congrArg Int32.toInt (f_r6.1 5 (by decide))
    have : (Ic6 29).toInt = (Ic5 29).toInt := congrArg Int32.toInt (f_r6.1 29 (by decide))
    have : (Ic6 36).toInt = (Ic5 36).toInt := congrArg Int32.toInt (f_r6.1 36 (by decide))
    refine ok_bnd (fun v7 e5 => ?_)
    have t_v7 : v7.toInt = 4 * x3.toInt := ti_mul e5 (show (4 : Int32).toInt = 4 from rfl) rfl (by omega) (by omega)
    refine ok_bnd (fun v8 e6 => ?_)
    have t_v8 : v8.toInt = v7.toInt + x4.toInt := ti_add e6 rfl rfl (by omega) (by omega)
    refine ok_chk (ti_in (by omega) (by omega)) ?_
    refine ok_bnd (fun v9 e7 => ?_)
    have b_v9 := tA_13 hA_Ac6 ((v8).toNatClampNeg)
    rw [← e7] at b_v9
    have b_Ic6_3 := tI_3 hI_Ic6
    obtain ⟨⟨r10, Ic10, Ac10⟩, h_r10, hI_Ic10, hA_Ac10, p_r10_0⟩ := t_sayNumber (x1 := v9)  hI_Ic6 hA_Ac6 (by omega) (show (Ic6 3).toInt ≤ (Ic6 3).toInt ∧ (Ic6 3).toInt ≤ 79700 from ⟨Int.le_refl _, by omega⟩)
    replace hI_Ic10 : TJ Ic10 := hI_Ic10
    replace hA_Ac10 : TK Ac10 := hA_Ac10
    dsimp only at p_r10_0
    refine ok_clR h_r10 ?_
    have f_r10 := fw_sayNumber h_r10
    have : (Ic10 5).toInt = (Ic6 5).toInt := congrArg Int32.toInt (f_r10.1 5 (by decide))
    have : (Ic10 29).toInt = (Ic6 29).toInt := congrArg Int32.toInt (f_r10.1 29 (by decide))
    have : (Ic10 36).toInt = (Ic6 36).toInt := congrArg Int32.toInt (f_r10.1 36 (by decide))
    refine ok_bnd (fun v11 e8 => ?_)
    have t_v11 : v11.toInt = x4.toInt + 1 := ti_add e8 rfl (show (1 : Int32).toInt = 1 from rfl) (by omega) (by omega)
    have b_Ic10_3 := tI_3 hI_Ic10
    exact hself124 x3 v11 Ic10 Ac10 hI_Ic10 hA_Ac10 r_x3 (by omega) (by omega) (by omega)
theorem t_sayMove_124 {gg nn : Nat} {cc : Int}  : ∀ (n : Nat) (x3 : Int32) (x4 : Int32) (I : Nat → Int32) (A : Nat → Nat → Int32), TJ I → TK A → ((0 : Int) ≤ x3.toInt ∧ x3.toInt ≤ (601 : Int)) → ((0 : Int) ≤ x4.toInt ∧ x4.toInt ≤ (4 : Int)) → ((I 3).toInt ≤ cc + 19 + 8 * x4.toInt ∧ cc ≤ 79400) → (5 - x4.toInt) < (n : Int) → Ok (f_sayMove_124  n x3 x4 I A) (fun o => TJ o.2.1 ∧ TK o.2.2 ∧ ((o.2.1 3).toInt ≤ cc + 254)) := by
  intro n
  induction n with
  | zero => intro x3 x4 I A hI hA g0 g1 g2  hm; exfalso; omega
  | succ n ih =>
    intro x3 x4 I A hI hA g0 g1 g2  hm
    exact t_sayMove_124s (gg := gg) (nn := nn) (cc := cc)  (N124 := n)  ih hI hA g0 g1 g2  (by omega)
theorem t_sayMove_95s {gg nn : Nat} {cc : Int} {I : Nat → Int32} {A : Nat → Nat → Int32} {self95 : Int32 → Int32 → (Nat → Int32) → (Nat → Nat → Int32) → Option (Int32 × MS)} {N95 : Nat} (hself95 : ∀ (x3 : Int32) (x4 : Int32) (I : Nat → Int32) (A : Nat → Nat → Int32), TJ I → TK A → ((0 : Int) ≤ x3.toInt ∧ x3.toInt ≤ (601 : Int)) → ((0 : Int) ≤ x4.toInt ∧ x4.toInt ≤ (9 : Int)) → ((I 3).toInt ≤ cc + 10 + x4.toInt ∧ cc ≤ 79400) → ((I 36).toInt ≤ 9) → (17 - x4.toInt) < (N95 : Int) → Ok (self95 x3 x4 I A) (fun o => TJ o.2.1 ∧ TK o.2.2 ∧ ((o.2.1 3).toInt ≤ cc + 254))) {x3 : Int32} {x4 : Int32} (hI : TJ I) (hA : TK A) (r_x3 : (0 : Int) ≤ x3.toInt ∧ x3.toInt ≤ (601 : Int)) (r_x4 : (0 : Int) ≤ x4.toInt ∧ x4.toInt ≤ (9 : Int)) (q0 : (I 3).toInt ≤ cc + 10 + x4.toInt ∧ cc ≤ 79400) (q1 : (I 36).toInt ≤ 9) (m95 : (17 - x4.toInt) ≤ (N95 : Int)) : Ok (f_sayMove_95s self95 x3 x4 I A) (fun o => TJ o.2.1 ∧ TK o.2.2 ∧ ((o.2.1 3).toInt ≤ cc + 254)) := by
  unfold f_sayMove_95s
  have b_I_3 := tI_3 hI
  have b_I_5 := tI_5 hI
  have b_I_29 := tI_29 hI
  have b_I_36 := tI_36 hI
  refine ok_if (fun c9 => ?_) (fun c9 => ?_)
  ·
    replace c9 := ti_leP c9 rfl rfl
    exact t_sayMove_124 (gg := gg) (nn := nn) (cc := cc)    mFuel x3 (0 : Int32) I A hI hA r_x3 (by decide) (by have z0 : (0 : Int32).toInt = 0 := rfl; omega) (by show _ < ((200000 : Nat) : Int); have z0 : (0 : Int32).toInt = 0 := rfl; omega)
  ·
    replace c9 := ti_leN c9 rfl rfl
    refine ok_chk (ti_in (by omega) (by omega)) ?_
    refine ok_bnd (fun v1 e10 => ?_)
    have b_v1 := tA_35 hA ((x4).toNatClampNeg)
    rw [← e10] at b_v1
    obtain ⟨⟨r2, Ic2, Ac2⟩, h_r2, hI_Ic2, hA_Ac2, p_r2_0⟩ := t_ink (x1 := v1)  hI hA (by omega)
    replace hI_Ic2 : TJ Ic2 := hI_Ic2
    replace hA_Ac2 : TK Ac2 := hA_Ac2
    dsimp only at p_r2_0
    refine ok_clR h_r2 ?_
    have f_r2 := fw_ink h_r2
    have : (Ic2 5).toInt = (I 5).toInt := congrArg Int32.toInt (f_r2.1 5 (by decide))
    have : (Ic2 29).toInt = (I 29).toInt := congrArg Int32.toInt (f_r2.1 29 (by decide))
    have : (Ic2 36).toInt = (I 36).toInt := congrArg Int32.toInt (f_r2.1 36 (by decide))
    refine ok_bnd (fun v3 e11 => ?_)
    have t_v3 : v3.toInt = x4.toInt + 1 := ti_add e11 rfl (show (1 : Int32).toInt = 1 from rfl) (by omega) (by omega)
    have b_Ic2_3 := tI_3 hI_Ic2
    have b_Ic2_36 := tI_36 hI_Ic2
    exact hself95 x3 v3 Ic2 Ac2 hI_Ic2 hA_Ac2 r_x3 (by omega) (by omega) (by omega) (by omega)
theorem t_sayMove_95 {gg nn : Nat} {cc : Int}  : ∀ (n : Nat) (x3 : Int32) (x4 : Int32) (I : Nat → Int32) (A : Nat → Nat → Int32), TJ I → TK A → ((0 : Int) ≤ x3.toInt ∧ x3.toInt ≤ (601 : Int)) → ((0 : Int) ≤ x4.toInt ∧ x4.toInt ≤ (9 : Int)) → ((I 3).toInt ≤ cc + 10 + x4.toInt ∧ cc ≤ 79400) → ((I 36).toInt ≤ 9) → (17 - x4.toInt) < (n : Int) → Ok (f_sayMove_95  n x3 x4 I A) (fun o => TJ o.2.1 ∧ TK o.2.2 ∧ ((o.2.1 3).toInt ≤ cc + 254)) := by
  intro n
  induction n with
  | zero => intro x3 x4 I A hI hA g0 g1 g2 g3  hm; exfalso; omega
  | succ n ih =>
    intro x3 x4 I A hI hA g0 g1 g2 g3  hm
    exact t_sayMove_95s (gg := gg) (nn := nn) (cc := cc)  (N95 := n)  ih hI hA g0 g1 g2 g3  (by omega)
theorem t_sayMove_82 {gg nn : Nat} {cc : Int} {I : Nat → Int32} {A : Nat → Nat → Int32} {x3 : Int32} (hI : TJ I) (hA : TK A) (r_x3 : (0 : Int) ≤ x3.toInt ∧ x3.toInt ≤ (601 : Int)) (q0 : (I 3).toInt ≤ cc + 10 ∧ cc ≤ 79400) (q1 : (I 29).toInt ≤ 1999) (q2 : m9 A (x3).toNatClampNeg) : Ok (f_sayMove_82 x3 I A) (fun o => TJ o.2.1 ∧ TK o.2.2 ∧ ((o.2.1 3).toInt ≤ cc + 254)) := by
  unfold f_sayMove_82
  have b_I_3 := tI_3 hI
  have b_I_5 := tI_5 hI
  have b_I_29 := tI_29 hI
  have b_I_36 := tI_36 hI
  refine ok_chk (ti_in (by omega) (by omega)) ?_
  refine ok_bnd (fun v1 e12 => ?_)
  have b_v1 := tA_9 hA ((x3).toNatClampNeg)
  rw [← e12] at b_v1
  have l1 : 0 ≤ v1.toInt := by rw [e12]; exact q2
  obtain ⟨⟨r2, Ic2, Ac2⟩, h_r2, hI_Ic2, hA_Ac2, p_r2_0, p_r2_1⟩ := t_spellWhole (x1 := v1)  hI hA (by omega) q1
  replace hI_Ic2 : TJ Ic2 := hI_Ic2
  replace hA_Ac2 : TK Ac2 := hA_Ac2
  dsimp only at p_r2_0 p_r2_1
  refine ok_clR h_r2 ?_
  have f_r2 := fw_spellWhole h_r2
  have : (Ic2 3).toInt = (I 3).toInt := congrArg Int32.toInt (f_r2.1 3 (by decide))
  have : (Ic2 5).toInt = (I 5).toInt := congrArg Int32.toInt (f_r2.1 5 (by decide))
  have k13 : m9 Ac2 (x3).toNatClampNeg := m9_fr (f_r2.2 9 (by decide)) q2
  have b_Ic2_3 := tI_3 hI_Ic2
  have b_Ic2_36 := tI_36 hI_Ic2
  exact t_sayMove_95 (gg := gg) (nn := nn) (cc := cc)    mFuel x3 (0 : Int32) Ic2 Ac2 hI_Ic2 hA_Ac2 r_x3 (by decide) (by have z0 : (0 : Int32).toInt = 0 := rfl; omega) (by have z0 : (0 : Int32).toInt = 0 := rfl; omega) (by show _ < ((200000 : Nat) : Int); have z0 : (0 : Int32).toInt = 0 := rfl; omega)
theorem t_sayMove_61 {gg nn : Nat} {cc : Int} {I : Nat → Int32} {A : Nat → Nat → Int32} {self47 : Int32 → Int32 → (Nat → Int32) → (Nat → Nat → Int32) → Option (Int32 × MS)} {N47 : Nat} (hself47 : ∀ (x3 : Int32) (x4 : Int32) (I : Nat → Int32) (A : Nat → Nat → Int32), TJ I → TK A → ((0 : Int) ≤ x3.toInt ∧ x3.toInt ≤ (601 : Int)) → ((0 : Int) ≤ x4.toInt ∧ x4.toInt ≤ (3 : Int)) → ((I 3).toInt ≤ cc + 6 + x4.toInt ∧ cc ≤ 79400) → ((I 29).toInt ≤ 1999) → (m9 A (x3).toNatClampNeg) → (4 - x4.toInt) < (N47 : Int) → Ok (self47 x3 x4 I A) (fun o => TJ o.2.1 ∧ TK o.2.2 ∧ ((o.2.1 3).toInt ≤ cc + 254))) {x3 : Int32} {x4 : Int32} {t0 : Int32} {t1 : Int32} (hI : TJ I) (hA : TK A) (r_x3 : (0 : Int) ≤ x3.toInt ∧ x3.toInt ≤ (601 : Int)) (r_x4 : (0 : Int) ≤ x4.toInt ∧ x4.toInt ≤ (3 : Int)) (r_t0 : (1 : Int) ≤ t0.toInt ∧ t0.toInt ≤ (3 : Int)) (q0 : (I 3).toInt ≤ cc + 6 + x4.toInt ∧ cc ≤ 79400) (q1 : (I 29).toInt ≤ 1999) (q2 : m9 A (x3).toNatClampNeg) (q3 : t1.toInt = x4.toInt) (m47 : (4 - x4.toInt) ≤ (N47 : Int)) : Ok (f_sayMove_61 self47 x3 x4 t0 t1 I A) (fun o => TJ o.2.1 ∧ TK o.2.2 ∧ ((o.2.1 3).toInt ≤ cc + 254)) := by
  unfold f_sayMove_61
  have b_I_3 := tI_3 hI
  have b_I_5 := tI_5 hI
  have b_I_29 := tI_29 hI
  have b_I_36 := tI_36 hI
  refine ok_if (fun c14 => ?_) (fun c14 => ?_)
  ·
    replace c14 := ti_leP c14 rfl rfl
    obtain ⟨⟨r1, Ic1, Ac1⟩, h_r1, hI_Ic1, hA_Ac1, p_r1_0⟩ := t_ink (x1 := (32 : Int32))  hI hA (by have z0 : (32 : Int32).toInt = 32 := rfl; omega)
    replace hI_Ic1 : TJ Ic1 := hI_Ic1
    replace hA_Ac1 : TK Ac1 := hA_Ac1
    dsimp only at p_r1_0
    refine ok_clR h_r1 ?_
    have f_r1 := fw_ink h_r1
    have : (Ic1 5).toInt = (I 5).toInt := congrArg Int32.toInt (f_r1.1 5 (by decide))
    have : (Ic1 29).toInt = (I 29).toInt := congrArg Int32.toInt (f_r1.1 29 (by decide))
    have : (Ic1 36).toInt = (I 36).toInt := congrArg Int32.toInt (f_r1.1 36 (by decide))
    have k15 : m9 Ac1 (x3).toNatClampNeg := m9_fr (f_r1.2 9 (by decide)) q2
    have b_Ic1_3 := tI_3 hI_Ic1
    have b_Ic1_29 := tI_29 hI_Ic1
    exact t_sayMove_82 (gg := gg) (nn := nn) (cc := cc)   (x3 := x3) hI_Ic1 hA_Ac1 r_x3 (by omega) (by omega) k15
  ·
    replace c14 := ti_leN c14 rfl rfl
    obtain ⟨⟨r2, Ic2, Ac2⟩, h_r2, hI_Ic2, hA_Ac2, p_r2_0⟩ := t_ink (x1 := (46 : Int32))  hI hA (by have z0 : (46 : Int32).toInt = 46 := rfl; omega)
    replace hI_Ic2 : TJ Ic2 := hI_Ic2
    replace hA_Ac2 : TK Ac2 := hA_Ac2
    dsimp only at p_r2_0
    refine ok_clR h_r2 ?_
    have f_r2 := fw_ink h_r2
    have : (Ic2 5).toInt = (I 5).toInt := congrArg Int32.toInt (f_r2.1 5 (by decide))
    have : (Ic2 29).toInt = (I 29).toInt := congrArg Int32.toInt (f_r2.1 29 (by decide))
    have : (Ic2 36).toInt = (I 36).toInt := congrArg Int32.toInt (f_r2.1 36 (by decide))
    have k16 : m9 Ac2 (x3).toNatClampNeg := m9_fr (f_r2.2 9 (by decide)) q2
    refine ok_bnd (fun v3 e17 => ?_)
    have t_v3 : v3.toInt = x4.toInt + 1 := ti_add e17 rfl (show (1 : Int32).toInt = 1 from rfl) (by omega) (by omega)
    have b_Ic2_3 := tI_3 hI_Ic2
    have b_Ic2_29 := tI_29 hI_Ic2
    exact hself47 x3 v3 Ic2 Ac2 hI_Ic2 hA_Ac2 r_x3 (by omega) (by omega) (by omega) k16 (by omega)
theorem t_sayMove_47s {gg nn : Nat} {cc : Int} {I : Nat → Int32} {A : Nat → Nat → Int32} {self47 : Int32 → Int32 → (Nat → Int32) → (Nat → Nat → Int32) → Option (Int32 × MS)} {N47 : Nat} (hself47 : ∀ (x3 : Int32) (x4 : Int32) (I : Nat → Int32) (A : Nat → Nat → Int32), TJ I → TK A → ((0 : Int) ≤ x3.toInt ∧ x3.toInt ≤ (601 : Int)) → ((0 : Int) ≤ x4.toInt ∧ x4.toInt ≤ (3 : Int)) → ((I 3).toInt ≤ cc + 6 + x4.toInt ∧ cc ≤ 79400) → ((I 29).toInt ≤ 1999) → (m9 A (x3).toNatClampNeg) → (4 - x4.toInt) < (N47 : Int) → Ok (self47 x3 x4 I A) (fun o => TJ o.2.1 ∧ TK o.2.2 ∧ ((o.2.1 3).toInt ≤ cc + 254))) {x3 : Int32} {x4 : Int32} (hI : TJ I) (hA : TK A) (r_x3 : (0 : Int) ≤ x3.toInt ∧ x3.toInt ≤ (601 : Int)) (r_x4 : (0 : Int) ≤ x4.toInt ∧ x4.toInt ≤ (3 : Int)) (q0 : (I 3).toInt ≤ cc + 6 + x4.toInt ∧ cc ≤ 79400) (q1 : (I 29).toInt ≤ 1999) (q2 : m9 A (x3).toNatClampNeg) (m47 : (4 - x4.toInt) ≤ (N47 : Int)) : Ok (f_sayMove_47s self47 x3 x4 I A) (fun o => TJ o.2.1 ∧ TK o.2.2 ∧ ((o.2.1 3).toInt ≤ cc + 254)) := by
  unfold f_sayMove_47s
  have b_I_3 := tI_3 hI
  have b_I_5 := tI_5 hI
  have b_I_29 := tI_29 hI
  have b_I_36 := tI_36 hI
  have b_I_25 := tI_25 hI
  refine ok_if (fun c18 => ?_) (fun c18 => ?_)
  ·
    replace c18 := ti_eqP c18 rfl (show (0 : Int32).toInt = 0 from rfl)
    exact t_sayMove_61 (gg := gg) (nn := nn) (cc := cc)  hself47 (x3 := x3) (x4 := x4) (t0 := (1 : Int32)) (t1 := x4) hI hA r_x3 r_x4 (by decide) q0 q1 q2 (by have z0 : (1 : Int32).toInt = 1 := rfl; omega) m47
  ·
    replace c18 := ti_eqN c18 rfl (show (0 : Int32).toInt = 0 from rfl)
    exact t_sayMove_61 (gg := gg) (nn := nn) (cc := cc)  hself47 (x3 := x3) (x4 := x4) (t0 := (3 : Int32)) (t1 := x4) hI hA r_x3 r_x4 (by decide) q0 q1 q2 (by have z0 : (3 : Int32).toInt = 3 := rfl; omega) m47
theorem t_sayMove_47 {gg nn : Nat} {cc : Int}  : ∀ (n : Nat) (x3 : Int32) (x4 : Int32) (I : Nat → Int32) (A : Nat → Nat → Int32), TJ I → TK A → ((0 : Int) ≤ x3.toInt ∧ x3.toInt ≤ (601 : Int)) → ((0 : Int) ≤ x4.toInt ∧ x4.toInt ≤ (3 : Int)) → ((I 3).toInt ≤ cc + 6 + x4.toInt ∧ cc ≤ 79400) → ((I 29).toInt ≤ 1999) → (m9 A (x3).toNatClampNeg) → (4 - x4.toInt) < (n : Int) → Ok (f_sayMove_47  n x3 x4 I A) (fun o => TJ o.2.1 ∧ TK o.2.2 ∧ ((o.2.1 3).toInt ≤ cc + 254)) := by
  intro n
  induction n with
  | zero => intro x3 x4 I A hI hA g0 g1 g2 g3 g4  hm; exfalso; omega
  | succ n ih =>
    intro x3 x4 I A hI hA g0 g1 g2 g3 g4  hm
    exact t_sayMove_47s (gg := gg) (nn := nn) (cc := cc)  (N47 := n)  ih hI hA g0 g1 g2 g3 g4  (by omega)
theorem t_sayMove_36 {gg nn : Nat} {cc : Int} {I : Nat → Int32} {A : Nat → Nat → Int32} {x3 : Int32} (hI : TJ I) (hA : TK A) (r_x3 : (0 : Int) ≤ x3.toInt ∧ x3.toInt ≤ (601 : Int)) (q0 : (I 3).toInt ≤ cc + 0 ∧ cc ≤ 79400) (q1 : (I 29).toInt ≤ 1999) (q2 : m9 A (x3).toNatClampNeg) : Ok (f_sayMove_36 x3 I A) (fun o => TJ o.2.1 ∧ TK o.2.2 ∧ ((o.2.1 3).toInt ≤ cc + 254)) := by
  unfold f_sayMove_36
  have b_I_3 := tI_3 hI
  have b_I_5 := tI_5 hI
  have b_I_29 := tI_29 hI
  have b_I_36 := tI_36 hI
  obtain ⟨⟨r1, Ic1, Ac1⟩, h_r1, hI_Ic1, hA_Ac1, p_r1_0⟩ := t_sayNumber (x1 := (I 29))  hI hA (by omega) (show (I 3).toInt ≤ (I 3).toInt ∧ (I 3).toInt ≤ 79700 from ⟨Int.le_refl _, by omega⟩)
  replace hI_Ic1 : TJ Ic1 := hI_Ic1
  replace hA_Ac1 : TK Ac1 := hA_Ac1
  dsimp only at p_r1_0
  refine ok_clR h_r1 ?_
  have f_r1 := fw_sayNumber h_r1
  have : (Ic1 5).toInt = (I 5).toInt := congrArg Int32.toInt (f_r1.1 5 (by decide))
  have : (Ic1 29).toInt = (I 29).toInt := congrArg Int32.toInt (f_r1.1 29 (by decide))
  have : (Ic1 36).toInt = (I 36).toInt := congrArg Int32.toInt (f_r1.1 36 (by decide))
  have k19 : m9 Ac1 (x3).toNatClampNeg := m9_fr (f_r1.2 9 (by decide)) q2
  have b_Ic1_3 := tI_3 hI_Ic1
  have b_Ic1_29 := tI_29 hI_Ic1
  exact t_sayMove_47 (gg := gg) (nn := nn) (cc := cc)    mFuel x3 (0 : Int32) Ic1 Ac1 hI_Ic1 hA_Ac1 r_x3 (by decide) (by have z0 : (0 : Int32).toInt = 0 := rfl; omega) (by have z0 : (0 : Int32).toInt = 0 := rfl; omega) k19 (by show _ < ((200000 : Nat) : Int); have z0 : (0 : Int32).toInt = 0 := rfl; omega)
theorem t_sayMove_0 {gg nn : Nat} {cc : Int} {I : Nat → Int32} {A : Nat → Nat → Int32} {x1 : Int32} {x2 : Int32} (hI : TJ I) (hA : TK A) (r_x1 : (1 : Int) ≤ x1.toInt ∧ x1.toInt ≤ (300 : Int)) (r_x2 : (0 : Int) ≤ x2.toInt ∧ x2.toInt ≤ (1 : Int)) (q0 : TRn A gg nn) (q1 : (I 5).toInt = (gg : Int)) (q2 : x1.toInt ≤ (nn : Int)) (q3 : (I 3).toInt ≤ cc ∧ cc ≤ 79400) : Ok (f_sayMove_0 x1 x2 I A) (fun o => TJ o.2.1 ∧ TK o.2.2 ∧ ((o.2.1 3).toInt ≤ cc + 254)) := by
  unfold f_sayMove_0
  have b_I_3 := tI_3 hI
  have b_I_5 := tI_5 hI
  have b_I_29 := tI_29 hI
  have b_I_36 := tI_36 hI
  refine ok_bnd (fun v1 e20 => ?_)
  have t_v1 : v1.toInt = 301 * (I 5).toInt := ti_mul e20 (show (301 : Int32).toInt = 301 from rfl) rfl (by omega) (by omega)
  refine ok_bnd (fun v2 e21 => ?_)
  have t_v2 : v2.toInt = v1.toInt + x1.toInt := ti_add e21 rfl rfl (by omega) (by omega)
  refine ok_chk (ti_in (by omega) (by omega)) ?_
  refine ok_bnd (fun v3 e22 => ?_)
  have b_v3 := tA_8 hA ((v2).toNatClampNeg)
  rw [← e22] at b_v3
  have hp := q0 x1.toInt.toNat (by omega) (by omega)
  have i3 : v2.toNatClampNeg = 301 * gg + x1.toInt.toNat := by have := ti_nc (a := v2) (by omega); omega
  have w3 : v3.toInt = aP A gg x1.toInt.toNat := by rw [e22, i3]; rfl
  have m90 : m9 A v2.toNatClampNeg := by unfold m9; rw [i3]; exact hp.2
  obtain ⟨⟨r4, Ic4, Ac4⟩, h_r4, hI_Ic4, hA_Ac4, p_r4_0⟩ := t_place (x1 := (I 5)) (x2 := v3)  hI hA (by omega) (by omega) q0 q1 (by omega)
  replace hI_Ic4 : TJ Ic4 := hI_Ic4
  replace hA_Ac4 : TK Ac4 := hA_Ac4
  dsimp only at p_r4_0
  refine ok_clR h_r4 ?_
  have f_r4 := fw_place h_r4
  have : (Ic4 3).toInt = (I 3).toInt := congrArg Int32.toInt (f_r4.1 3 (by decide))
  have : (Ic4 5).toInt = (I 5).toInt := congrArg Int32.toInt (f_r4.1 5 (by decide))
  have : (Ic4 36).toInt = (I 36).toInt := congrArg Int32.toInt (f_r4.1 36 (by decide))
  have k23 : TRn Ac4 gg nn := TRn_fr (f_r4.2 8 (by decide)) (f_r4.2 9 (by decide)) q0
  have k24 : m9 Ac4 (v2).toNatClampNeg := m9_fr (f_r4.2 9 (by decide)) m90
  have b_Ic4_25 := tI_25 hI_Ic4
  refine ok_if (fun c25 => ?_) (fun c25 => ?_)
  ·
    replace c25 := ti_eqP c25 rfl (show (0 : Int32).toInt = 0 from rfl)
    have b_Ic4_3 := tI_3 hI_Ic4
    have b_Ic4_29 := tI_29 hI_Ic4
    exact t_sayMove_36 (gg := gg) (nn := nn) (cc := cc)   (x3 := v2) hI_Ic4 hA_Ac4 (by omega) (by omega) (by omega) k24
  ·
    replace c25 := ti_eqN c25 rfl (show (0 : Int32).toInt = 0 from rfl)
    refine ok_if (fun c26 => ?_) (fun c26 => ?_)
    ·
      replace c26 := ti_eqP c26 rfl (show (0 : Int32).toInt = 0 from rfl)
      have b_Ic4_3 := tI_3 hI_Ic4
      have b_Ic4_29 := tI_29 hI_Ic4
      exact t_sayMove_82 (gg := gg) (nn := nn) (cc := cc)   (x3 := v2) hI_Ic4 hA_Ac4 (by omega) (by omega) (by omega) k24
    ·
      replace c26 := ti_eqN c26 rfl (show (0 : Int32).toInt = 0 from rfl)
      have b_Ic4_3 := tI_3 hI_Ic4
      have b_Ic4_29 := tI_29 hI_Ic4
      exact t_sayMove_36 (gg := gg) (nn := nn) (cc := cc)   (x3 := v2) hI_Ic4 hA_Ac4 (by omega) (by omega) (by omega) k24
theorem t_sayMove {gg nn : Nat} {cc : Int} {I : Nat → Int32} {A : Nat → Nat → Int32} {x1 : Int32} {x2 : Int32} (hI : TJ I) (hA : TK A) (r_x1 : (1 : Int) ≤ x1.toInt ∧ x1.toInt ≤ (300 : Int)) (r_x2 : (0 : Int) ≤ x2.toInt ∧ x2.toInt ≤ (1 : Int)) (q0 : TRn A gg nn) (q1 : (I 5).toInt = (gg : Int)) (q2 : x1.toInt ≤ (nn : Int)) (q3 : (I 3).toInt ≤ cc ∧ cc ≤ 79400) : Ok (f_sayMove x1 x2 I A) (fun o => TJ o.2.1 ∧ TK o.2.2 ∧ ((o.2.1 3).toInt ≤ cc + 254)) := t_sayMove_0 (gg := gg) (nn := nn) (cc := cc) hI hA r_x1 r_x2 q0 q1 q2 q3
