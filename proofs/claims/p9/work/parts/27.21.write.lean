theorem t_write_280s {gg : Nat} {I : Nat → Int32} {A : Nat → Nat → Int32} {self280 : Int32 → (Nat → Int32) → (Nat → Nat → Int32) → Option (Int32 × MS)} {N280 : Nat} (hself280 : ∀ (x1 : Int32) (I : Nat → Int32) (A : Nat → Nat → Int32), TJ I → TK A → ((0 : Int) ≤ x1.toInt ∧ x1.toInt ≤ (7 : Int)) → (TRE A gg) → ((I 5).toInt = (gg : Int)) → ((I 6).toInt ≤ (aK A gg : Int)) → ((I 3).toInt ≤ 79500 + x1.toInt) → (8 - x1.toInt) < (N280 : Int) → Ok (self280 x1 I A) (fun o => TJ o.2.1 ∧ TK o.2.2 ∧ ((0 : Int) ≤ o.1.toInt ∧ o.1.toInt ≤ (80000 : Int)) ∧ (RIv o.2.1 o.2.2))) {x1 : Int32} (hI : TJ I) (hA : TK A) (r_x1 : (0 : Int) ≤ x1.toInt ∧ x1.toInt ≤ (7 : Int)) (q0 : TRE A gg) (q1 : (I 5).toInt = (gg : Int)) (q2 : (I 6).toInt ≤ (aK A gg : Int)) (q3 : (I 3).toInt ≤ 79500 + x1.toInt) (m280 : (8 - x1.toInt) ≤ (N280 : Int)) : Ok (f_write_280s self280 x1 I A) (fun o => TJ o.2.1 ∧ TK o.2.2 ∧ ((0 : Int) ≤ o.1.toInt ∧ o.1.toInt ≤ (80000 : Int)) ∧ (RIv o.2.1 o.2.2)) := by
  unfold f_write_280s
  have b_I_3 := tI_3 hI
  have b_I_5 := tI_5 hI
  have b_I_6 := tI_6 hI
  have b_I_29 := tI_29 hI
  have ck0 : cK A gg (aK A gg) := rfl
  refine ok_chk (ti_in (by omega) (by omega)) ?_
  refine ok_bnd (fun v1 e1 => ?_)
  have b_v1 := tA_23 hA (((I 5)).toNatClampNeg)
  rw [← e1] at b_v1
  obtain ⟨r2, h_r2, p_r2⟩ := ro (t_resultSize (x0 := v1)  hI hA )
  refine ok_clR h_r2 ?_
  dsimp only at p_r2
  refine ok_if (fun c2 => ?_) (fun c2 => ?_)
  ·
    replace c2 := ti_leP c2 rfl rfl
    obtain ⟨⟨r3, Ic3, Ac3⟩, h_r3, hI_Ic3, hA_Ac3, p_r3_0⟩ := t_place (x1 := (I 5)) (x2 := (I 6))  hI hA (by omega) (by omega) (TRE_n q0) q1 (by have z := ck0; unfold cK at z; omega)
    replace hI_Ic3 : TJ Ic3 := hI_Ic3
    replace hA_Ac3 : TK Ac3 := hA_Ac3
    dsimp only at p_r3_0
    refine ok_clR h_r3 ?_
    have f_r3 := fw_place h_r3
    have : (Ic3 3).toInt = (I 3).toInt := congrArg Int32.toInt (f_r3.1 3 (by decide))
    have : (Ic3 5).toInt = (I 5).toInt := congrArg Int32.toInt (f_r3.1 5 (by decide))
    have : (Ic3 6).toInt = (I 6).toInt := congrArg Int32.toInt (f_r3.1 6 (by decide))
    have k3 : TRE Ac3 gg := TRE_fr (f_r3.2 7 (by decide)) (f_r3.2 8 (by decide)) (f_r3.2 9 (by decide)) (f_r3.2 10 (by decide)) (f_r3.2 11 (by decide)) q0
    have k4 : cK Ac3 gg (aK A gg) := cK_fr (f_r3.2 7 (by decide)) ck0
    have b_Ic3_3 := tI_3 hI_Ic3
    exact ok_ret ⟨hI_Ic3, hA_Ac3, (show (0 : Int) ≤ (Ic3 3).toInt ∧ (Ic3 3).toInt ≤ (80000 : Int) from (by omega)), (by show RIv Ic3 Ac3; exact (RIv_mk (g := gg) k3 (by omega) (by have z := k4; unfold cK at z; omega) (by omega)))⟩
  ·
    replace c2 := ti_leN c2 rfl rfl
    refine ok_chk (ti_in (by omega) (by omega)) ?_
    refine ok_bnd (fun v4 e5 => ?_)
    have b_v4 := tA_23 hA (((I 5)).toNatClampNeg)
    rw [← e5] at b_v4
    obtain ⟨r5, h_r5, p_r5⟩ := ro (t_resultSign (x0 := v4) (x1 := x1)  hI hA )
    refine ok_clR h_r5 ?_
    dsimp only at p_r5
    obtain ⟨⟨r6, Ic6, Ac6⟩, h_r6, hI_Ic6, hA_Ac6, p_r6_0⟩ := t_ink (x1 := r5)  hI hA (by omega)
    replace hI_Ic6 : TJ Ic6 := hI_Ic6
    replace hA_Ac6 : TK Ac6 := hA_Ac6
    dsimp only at p_r6_0
    refine ok_clR h_r6 ?_
    have f_r6 := fw_ink h_r6
    have : (Ic6 5).toInt = (I 5).toInt := congrArg Int32.toInt (f_r6.1 5 (by decide))
    have : (Ic6 6).toInt = (I 6).toInt := congrArg Int32.toInt (f_r6.1 6 (by decide))
    have : (Ic6 29).toInt = (I 29).toInt := congrArg Int32.toInt (f_r6.1 29 (by decide))
    have k6 : TRE Ac6 gg := TRE_fr (f_r6.2 7 (by decide)) (f_r6.2 8 (by decide)) (f_r6.2 9 (by decide)) (f_r6.2 10 (by decide)) (f_r6.2 11 (by decide)) q0
    have k7 : cK Ac6 gg (aK A gg) := cK_fr (f_r6.2 7 (by decide)) ck0
    refine ok_bnd (fun v7 e8 => ?_)
    have t_v7 : v7.toInt = x1.toInt + 1 := ti_add e8 rfl (show (1 : Int32).toInt = 1 from rfl) (by omega) (by omega)
    have b_Ic6_5 := tI_5 hI_Ic6
    have b_Ic6_6 := tI_6 hI_Ic6
    have b_Ic6_3 := tI_3 hI_Ic6
    exact hself280 v7 Ic6 Ac6 hI_Ic6 hA_Ac6 (by omega) k6 (by omega) (by have z := k7; unfold cK at z; omega) (by omega) (by omega)
theorem t_write_280 {gg : Nat}  : ∀ (n : Nat) (x1 : Int32) (I : Nat → Int32) (A : Nat → Nat → Int32), TJ I → TK A → ((0 : Int) ≤ x1.toInt ∧ x1.toInt ≤ (7 : Int)) → (TRE A gg) → ((I 5).toInt = (gg : Int)) → ((I 6).toInt ≤ (aK A gg : Int)) → ((I 3).toInt ≤ 79500 + x1.toInt) → (8 - x1.toInt) < (n : Int) → Ok (f_write_280  n x1 I A) (fun o => TJ o.2.1 ∧ TK o.2.2 ∧ ((0 : Int) ≤ o.1.toInt ∧ o.1.toInt ≤ (80000 : Int)) ∧ (RIv o.2.1 o.2.2)) := by
  intro n
  induction n with
  | zero => intro x1 I A hI hA g0 g1 g2 g3 g4  hm; exfalso; omega
  | succ n ih =>
    intro x1 I A hI hA g0 g1 g2 g3 g4  hm
    exact t_write_280s (gg := gg)  (N280 := n)  ih hI hA g0 g1 g2 g3 g4  (by omega)
theorem t_write_238 {gg : Nat} {I : Nat → Int32} {A : Nat → Nat → Int32} (hI : TJ I) (hA : TK A) (q0 : TRE A gg) (q1 : (I 5).toInt = (gg : Int)) (q2 : (I 6).toInt ≤ (aK A gg : Int)) (q3 : (I 3).toInt ≤ 1950) : Ok (f_write_238 I A) (fun o => TJ o.2.1 ∧ TK o.2.2 ∧ ((0 : Int) ≤ o.1.toInt ∧ o.1.toInt ≤ (80000 : Int)) ∧ (RIv o.2.1 o.2.2)) := by
  unfold f_write_238
  have b_I_3 := tI_3 hI
  have b_I_5 := tI_5 hI
  have b_I_6 := tI_6 hI
  have b_I_29 := tI_29 hI
  have ck0 : cK A gg (aK A gg) := rfl
  refine ok_bnd (fun v1 e9 => ?_)
  have t_v1 : v1.toInt = 301 * (I 5).toInt := ti_mul e9 (show (301 : Int32).toInt = 301 from rfl) rfl (by omega) (by omega)
  refine ok_chk (ti_in (by omega) (by omega)) ?_
  refine ok_bnd (fun v2 e10 => ?_)
  have b_v2 := tA_10 hA ((v1).toNatClampNeg)
  rw [← e10] at b_v2
  refine ok_if (fun c11 => ?_) (fun c11 => ?_)
  ·
    replace c11 := ti_ltP c11 rfl (show (0 : Int32).toInt = 0 from rfl)
    unfold f_write_278
    exact t_write_280 (gg := gg)    mFuel (0 : Int32) I A hI hA (by decide) q0 q1 q2 (by have z0 : (0 : Int32).toInt = 0 := rfl; omega) (by show _ < ((200000 : Nat) : Int); have z0 : (0 : Int32).toInt = 0 := rfl; omega)
  ·
    replace c11 := ti_ltN c11 rfl (show (0 : Int32).toInt = 0 from rfl)
    refine ok_bnd (fun v3 e12 => ?_)
    have t_v3 : v3.toInt = 301 * (I 5).toInt := ti_mul e12 (show (301 : Int32).toInt = 301 from rfl) rfl (by omega) (by omega)
    refine ok_chk (ti_in (by omega) (by omega)) ?_
    refine ok_bnd (fun v4 e13 => ?_)
    have b_v4 := tA_10 hA ((v3).toNatClampNeg)
    rw [← e13] at b_v4
    have i4 : v3.toNatClampNeg = 301 * gg + 0 := by have := ti_nc (a := v3) (by omega); omega
    have w4 : v4.toInt = aC A gg 0 := by rw [e13, i4]; rfl
    obtain ⟨⟨r5, Ic5, Ac5⟩, h_r5, hI_Ic5, hA_Ac5, p_r5_0⟩ := t_sayLine (x1 := v4) (x2 := (1 : Int32))  hI hA q0 q1 w4 (by have z0 : (1 : Int32).toInt = 1 := rfl; omega) (show (I 3).toInt ≤ (I 3).toInt ∧ (I 3).toInt ≤ 2000 from ⟨Int.le_refl _, by omega⟩)
    replace hI_Ic5 : TJ Ic5 := hI_Ic5
    replace hA_Ac5 : TK Ac5 := hA_Ac5
    dsimp only at p_r5_0
    refine ok_clR h_r5 ?_
    have f_r5 := fw_sayLine h_r5
    have : (Ic5 5).toInt = (I 5).toInt := congrArg Int32.toInt (f_r5.1 5 (by decide))
    have : (Ic5 6).toInt = (I 6).toInt := congrArg Int32.toInt (f_r5.1 6 (by decide))
    have k14 : TRE Ac5 gg := TRE_fr (f_r5.2 7 (by decide)) (f_r5.2 8 (by decide)) (f_r5.2 9 (by decide)) (f_r5.2 10 (by decide)) (f_r5.2 11 (by decide)) q0
    have k15 : cK Ac5 gg (aK A gg) := cK_fr (f_r5.2 7 (by decide)) ck0
    have b_Ic5_3 := tI_3 hI_Ic5
    obtain ⟨⟨r6, Ic6, Ac6⟩, h_r6, hI_Ic6, hA_Ac6, p_r6_0⟩ := t_ink (x1 := (32 : Int32))  hI_Ic5 hA_Ac5 (by have z0 : (32 : Int32).toInt = 32 := rfl; omega)
    replace hI_Ic6 : TJ Ic6 := hI_Ic6
    replace hA_Ac6 : TK Ac6 := hA_Ac6
    dsimp only at p_r6_0
    refine ok_clR h_r6 ?_
    have f_r6 := fw_ink h_r6
    have : (Ic6 5).toInt = (Ic5 5).toInt := congrArg Int32.toInt (f_r6.1 5 (by decide))
    have : (Ic6 6).toInt = (Ic5 6).toInt := congrArg Int32.toInt (f_r6.1 6 (by decide))
    have : (Ic6 29).toInt = (Ic5 29).toInt := congrArg Int32.toInt (f_r6.1 29 (by decide))
    have k16 : TRE Ac6 gg := TRE_fr (f_r6.2 7 (by decide)) (f_r6.2 8 (by decide)) (f_r6.2 9 (by decide)) (f_r6.2 10 (by decide)) (f_r6.2 11 (by decide)) k14
    have k17 : cK Ac6 gg (aK A gg) := cK_fr (f_r6.2 7 (by decide)) k15
    unfold f_write_278
    have b_Ic6_5 := tI_5 hI_Ic6
    have b_Ic6_6 := tI_6 hI_Ic6
    have b_Ic6_3 := tI_3 hI_Ic6
    exact t_write_280 (gg := gg)    mFuel (0 : Int32) Ic6 Ac6 hI_Ic6 hA_Ac6 (by decide) k16 (by have z0 : (0 : Int32).toInt = 0 := rfl; omega) (by have z := k17; unfold cK at z; omega) (by have z0 : (0 : Int32).toInt = 0 := rfl; omega) (by show _ < ((200000 : Nat) : Int); have z0 : (0 : Int32).toInt = 0 := rfl; omega)
theorem t_write_204 {gg : Nat} {I : Nat → Int32} {A : Nat → Nat → Int32} (hI : TJ I) (hA : TK A) (q0 : TRE A gg) (q1 : (I 5).toInt = (gg : Int)) (q2 : (I 6).toInt ≤ (aK A gg : Int)) (q3 : (I 3).toInt ≤ 1730) : Ok (f_write_204 I A) (fun o => TJ o.2.1 ∧ TK o.2.2 ∧ ((0 : Int) ≤ o.1.toInt ∧ o.1.toInt ≤ (80000 : Int)) ∧ (RIv o.2.1 o.2.2)) := by
  unfold f_write_204
  have b_I_3 := tI_3 hI
  have b_I_5 := tI_5 hI
  have b_I_6 := tI_6 hI
  have b_I_29 := tI_29 hI
  have ck0 : cK A gg (aK A gg) := rfl
  refine ok_bnd (fun v1 e18 => ?_)
  have t_v1 : v1.toInt = 301 * (I 5).toInt := ti_mul e18 (show (301 : Int32).toInt = 301 from rfl) rfl (by omega) (by omega)
  refine ok_chk (ti_in (by omega) (by omega)) ?_
  refine ok_bnd (fun v2 e19 => ?_)
  have b_v2 := tA_14 hA ((v1).toNatClampNeg)
  rw [← e19] at b_v2
  refine ok_if (fun c20 => ?_) (fun c20 => ?_)
  ·
    replace c20 := ti_leP c20 rfl (show (0 : Int32).toInt = 0 from rfl)
    exact t_write_238 (gg := gg)    hI hA q0 q1 q2 (by omega)
  ·
    replace c20 := ti_leN c20 rfl (show (0 : Int32).toInt = 0 from rfl)
    refine ok_bnd (fun v3 e21 => ?_)
    have t_v3 : v3.toInt = 301 * (I 5).toInt := ti_mul e21 (show (301 : Int32).toInt = 301 from rfl) rfl (by omega) (by omega)
    obtain ⟨⟨r4, Ic4, Ac4⟩, h_r4, hI_Ic4, hA_Ac4, p_r4_0⟩ := t_sayRemark (x1 := v3)  hI hA (by omega) (show (I 3).toInt ≤ (I 3).toInt ∧ (I 3).toInt ≤ 79700 from ⟨Int.le_refl _, by omega⟩)
    replace hI_Ic4 : TJ Ic4 := hI_Ic4
    replace hA_Ac4 : TK Ac4 := hA_Ac4
    dsimp only at p_r4_0
    refine ok_clR h_r4 ?_
    have f_r4 := fw_sayRemark h_r4
    have : (Ic4 5).toInt = (I 5).toInt := congrArg Int32.toInt (f_r4.1 5 (by decide))
    have : (Ic4 6).toInt = (I 6).toInt := congrArg Int32.toInt (f_r4.1 6 (by decide))
    have : (Ic4 29).toInt = (I 29).toInt := congrArg Int32.toInt (f_r4.1 29 (by decide))
    have k22 : TRE Ac4 gg := TRE_fr (f_r4.2 7 (by decide)) (f_r4.2 8 (by decide)) (f_r4.2 9 (by decide)) (f_r4.2 10 (by decide)) (f_r4.2 11 (by decide)) q0
    have k23 : cK Ac4 gg (aK A gg) := cK_fr (f_r4.2 7 (by decide)) ck0
    have b_Ic4_3 := tI_3 hI_Ic4
    obtain ⟨⟨r5, Ic5, Ac5⟩, h_r5, hI_Ic5, hA_Ac5, p_r5_0⟩ := t_ink (x1 := (32 : Int32))  hI_Ic4 hA_Ac4 (by have z0 : (32 : Int32).toInt = 32 := rfl; omega)
    replace hI_Ic5 : TJ Ic5 := hI_Ic5
    replace hA_Ac5 : TK Ac5 := hA_Ac5
    dsimp only at p_r5_0
    refine ok_clR h_r5 ?_
    have f_r5 := fw_ink h_r5
    have : (Ic5 5).toInt = (Ic4 5).toInt := congrArg Int32.toInt (f_r5.1 5 (by decide))
    have : (Ic5 6).toInt = (Ic4 6).toInt := congrArg Int32.toInt (f_r5.1 6 (by decide))
    have : (Ic5 29).toInt = (Ic4 29).toInt := congrArg Int32.toInt (f_r5.1 29 (by decide))
    have k24 : TRE Ac5 gg := TRE_fr (f_r5.2 7 (by decide)) (f_r5.2 8 (by decide)) (f_r5.2 9 (by decide)) (f_r5.2 10 (by decide)) (f_r5.2 11 (by decide)) k22
    have k25 : cK Ac5 gg (aK A gg) := cK_fr (f_r5.2 7 (by decide)) k23
    have b_Ic5_5 := tI_5 hI_Ic5
    have b_Ic5_6 := tI_6 hI_Ic5
    have b_Ic5_3 := tI_3 hI_Ic5
    exact t_write_238 (gg := gg)    hI_Ic5 hA_Ac5 k24 (by omega) (by have z := k25; unfold cK at z; omega) (by omega)
theorem t_write_151 {gg : Nat} {I : Nat → Int32} {A : Nat → Nat → Int32} {self12 : Int32 → (Nat → Int32) → (Nat → Nat → Int32) → Option (Int32 × MS)} {N12 : Nat} (hself12 : ∀ (x1 : Int32) (I : Nat → Int32) (A : Nat → Nat → Int32), TJ I → TK A → ((0 : Int) ≤ x1.toInt ∧ x1.toInt ≤ (8 : Int)) → (TRE A gg) → ((I 5).toInt = (gg : Int)) → ((I 6).toInt ≤ (aK A gg : Int)) → ((I 3).toInt ≤ 215 * x1.toInt) → (9 - x1.toInt) < (N12 : Int) → Ok (self12 x1 I A) (fun o => TJ o.2.1 ∧ TK o.2.2 ∧ ((0 : Int) ≤ o.1.toInt ∧ o.1.toInt ≤ (80000 : Int)) ∧ (RIv o.2.1 o.2.2))) {self94 : Int32 → Int32 → (Nat → Int32) → (Nat → Nat → Int32) → Option (Int32 × MS)} {N94 : Nat} (hself94 : ∀ (x1 : Int32) (x2 : Int32) (I : Nat → Int32) (A : Nat → Nat → Int32), TJ I → TK A → ((0 : Int) ≤ x1.toInt ∧ x1.toInt ≤ (7 : Int)) → ((0 : Int) ≤ x2.toInt ∧ x2.toInt ≤ (96 : Int)) → (TRE A gg) → ((I 5).toInt = (gg : Int)) → ((I 6).toInt ≤ (aK A gg : Int)) → ((I 3).toInt ≤ 215 * x1.toInt + 15 + 2 * x2.toInt) → ((9 - x1.toInt) ≤ (N12 : Int)) → (97 - x2.toInt) < (N94 : Int) → Ok (self94 x1 x2 I A) (fun o => TJ o.2.1 ∧ TK o.2.2 ∧ ((0 : Int) ≤ o.1.toInt ∧ o.1.toInt ≤ (80000 : Int)) ∧ (RIv o.2.1 o.2.2))) {x1 : Int32} {x2 : Int32} {x3 : Int32} (hI : TJ I) (hA : TK A) (r_x1 : (0 : Int) ≤ x1.toInt ∧ x1.toInt ≤ (7 : Int)) (r_x2 : (0 : Int) ≤ x2.toInt ∧ x2.toInt ≤ (95 : Int)) (q0 : TRE A gg) (q1 : (I 5).toInt = (gg : Int)) (q2 : (I 6).toInt ≤ (aK A gg : Int)) (q3 : (I 3).toInt ≤ 215 * x1.toInt + 15 + 2 * x2.toInt + 1) (m12 : (9 - x1.toInt) ≤ (N12 : Int)) (m94 : (97 - x2.toInt) ≤ (N94 : Int)) : Ok (f_write_151 self12 self94 x1 x2 x3 I A) (fun o => TJ o.2.1 ∧ TK o.2.2 ∧ ((0 : Int) ≤ o.1.toInt ∧ o.1.toInt ≤ (80000 : Int)) ∧ (RIv o.2.1 o.2.2)) := by
  unfold f_write_151
  have b_I_3 := tI_3 hI
  have b_I_5 := tI_5 hI
  have b_I_6 := tI_6 hI
  have b_I_29 := tI_29 hI
  have ck0 : cK A gg (aK A gg) := rfl
  obtain ⟨⟨r1, Ic1, Ac1⟩, h_r1, hI_Ic1, hA_Ac1, p_r1_0⟩ := t_ink (x1 := x3)  hI hA (by omega)
  replace hI_Ic1 : TJ Ic1 := hI_Ic1
  replace hA_Ac1 : TK Ac1 := hA_Ac1
  dsimp only at p_r1_0
  refine ok_clR h_r1 ?_
  have f_r1 := fw_ink h_r1
  have : (Ic1 5).toInt = (I 5).toInt := congrArg Int32.toInt (f_r1.1 5 (by decide))
  have : (Ic1 6).toInt = (I 6).toInt := congrArg Int32.toInt (f_r1.1 6 (by decide))
  have : (Ic1 29).toInt = (I 29).toInt := congrArg Int32.toInt (f_r1.1 29 (by decide))
  have k26 : TRE Ac1 gg := TRE_fr (f_r1.2 7 (by decide)) (f_r1.2 8 (by decide)) (f_r1.2 9 (by decide)) (f_r1.2 10 (by decide)) (f_r1.2 11 (by decide)) q0
  have k27 : cK Ac1 gg (aK A gg) := cK_fr (f_r1.2 7 (by decide)) ck0
  refine ok_bnd (fun v2 e28 => ?_)
  have t_v2 : v2.toInt = x2.toInt + 1 := ti_add e28 rfl (show (1 : Int32).toInt = 1 from rfl) (by omega) (by omega)
  have b_Ic1_5 := tI_5 hI_Ic1
  have b_Ic1_6 := tI_6 hI_Ic1
  have b_Ic1_3 := tI_3 hI_Ic1
  exact hself94 x1 v2 Ic1 Ac1 hI_Ic1 hA_Ac1 r_x1 (by omega) k26 (by omega) (by have z := k27; unfold cK at z; omega) (by omega) m12 (by omega)
theorem t_write_94s {gg : Nat} {I : Nat → Int32} {A : Nat → Nat → Int32} {self12 : Int32 → (Nat → Int32) → (Nat → Nat → Int32) → Option (Int32 × MS)} {N12 : Nat} (hself12 : ∀ (x1 : Int32) (I : Nat → Int32) (A : Nat → Nat → Int32), TJ I → TK A → ((0 : Int) ≤ x1.toInt ∧ x1.toInt ≤ (8 : Int)) → (TRE A gg) → ((I 5).toInt = (gg : Int)) → ((I 6).toInt ≤ (aK A gg : Int)) → ((I 3).toInt ≤ 215 * x1.toInt) → (9 - x1.toInt) < (N12 : Int) → Ok (self12 x1 I A) (fun o => TJ o.2.1 ∧ TK o.2.2 ∧ ((0 : Int) ≤ o.1.toInt ∧ o.1.toInt ≤ (80000 : Int)) ∧ (RIv o.2.1 o.2.2))) {self94 : Int32 → Int32 → (Nat → Int32) → (Nat → Nat → Int32) → Option (Int32 × MS)} {N94 : Nat} (hself94 : ∀ (x1 : Int32) (x2 : Int32) (I : Nat → Int32) (A : Nat → Nat → Int32), TJ I → TK A → ((0 : Int) ≤ x1.toInt ∧ x1.toInt ≤ (7 : Int)) → ((0 : Int) ≤ x2.toInt ∧ x2.toInt ≤ (96 : Int)) → (TRE A gg) → ((I 5).toInt = (gg : Int)) → ((I 6).toInt ≤ (aK A gg : Int)) → ((I 3).toInt ≤ 215 * x1.toInt + 15 + 2 * x2.toInt) → ((9 - x1.toInt) ≤ (N12 : Int)) → (97 - x2.toInt) < (N94 : Int) → Ok (self94 x1 x2 I A) (fun o => TJ o.2.1 ∧ TK o.2.2 ∧ ((0 : Int) ≤ o.1.toInt ∧ o.1.toInt ≤ (80000 : Int)) ∧ (RIv o.2.1 o.2.2))) {x1 : Int32} {x2 : Int32} (hI : TJ I) (hA : TK A) (r_x1 : (0 : Int) ≤ x1.toInt ∧ x1.toInt ≤ (7 : Int)) (r_x2 : (0 : Int) ≤ x2.toInt ∧ x2.toInt ≤ (96 : Int)) (q0 : TRE A gg) (q1 : (I 5).toInt = (gg : Int)) (q2 : (I 6).toInt ≤ (aK A gg : Int)) (q3 : (I 3).toInt ≤ 215 * x1.toInt + 15 + 2 * x2.toInt) (m12 : (9 - x1.toInt) ≤ (N12 : Int)) (m94 : (97 - x2.toInt) ≤ (N94 : Int)) : Ok (f_write_94s self12 self94 x1 x2 I A) (fun o => TJ o.2.1 ∧ TK o.2.2 ∧ ((0 : Int) ≤ o.1.toInt ∧ o.1.toInt ≤ (80000 : Int)) ∧ (RIv o.2.1 o.2.2)) := by
  unfold f_write_94s
  have b_I_3 := tI_3 hI
  have b_I_5 := tI_5 hI
  have b_I_6 := tI_6 hI
  have b_I_29 := tI_29 hI
  have ck0 : cK A gg (aK A gg) := rfl
  refine ok_bnd (fun v1 e29 => ?_)
  have t_v1 : v1.toInt = 8 * (I 5).toInt := ti_mul e29 (show (8 : Int32).toInt = 8 from rfl) rfl (by omega) (by omega)
  refine ok_bnd (fun v2 e30 => ?_)
  have t_v2 : v2.toInt = v1.toInt + x1.toInt := ti_add e30 rfl rfl (by omega) (by omega)
  refine ok_chk (ti_in (by omega) (by omega)) ?_
  refine ok_bnd (fun v3 e31 => ?_)
  have b_v3 := tA_21 hA ((v2).toNatClampNeg)
  rw [← e31] at b_v3
  refine ok_if (fun c32 => ?_) (fun c32 => ?_)
  ·
    replace c32 := ti_leP c32 rfl rfl
    obtain ⟨⟨r4, Ic4, Ac4⟩, h_r4, hI_Ic4, hA_Ac4, p_r4_0⟩ := t_ink (x1 := (34 : Int32))  hI hA (by have z0 : (34 : Int32).toInt = 34 := rfl; omega)
    replace hI_Ic4 : TJ Ic4 := hI_Ic4
    replace hA_Ac4 : TK Ac4 := hA_Ac4
    dsimp only at p_r4_0
    refine ok_clR h_r4 ?_
    have f_r4 := fw_ink h_r4
    have : (Ic4 5).toInt = (I 5).toInt := congrArg Int32.toInt (f_r4.1 5 (by decide))
    have : (Ic4 6).toInt = (I 6).toInt := congrArg Int32.toInt (f_r4.1 6 (by decide))
    have : (Ic4 29).toInt = (I 29).toInt := congrArg Int32.toInt (f_r4.1 29 (by decide))
    have k33 : TRE Ac4 gg := TRE_fr (f_r4.2 7 (by decide)) (f_r4.2 8 (by decide)) (f_r4.2 9 (by decide)) (f_r4.2 10 (by decide)) (f_r4.2 11 (by decide)) q0
    have k34 : cK Ac4 gg (aK A gg) := cK_fr (f_r4.2 7 (by decide)) ck0
    have b_Ic4_3 := tI_3 hI_Ic4
    obtain ⟨⟨r5, Ic5, Ac5⟩, h_r5, hI_Ic5, hA_Ac5, p_r5_0⟩ := t_ink (x1 := (93 : Int32))  hI_Ic4 hA_Ac4 (by have z0 : (93 : Int32).toInt = 93 := rfl; omega)
    replace hI_Ic5 : TJ Ic5 := hI_Ic5
    replace hA_Ac5 : TK Ac5 := hA_Ac5
    dsimp only at p_r5_0
    refine ok_clR h_r5 ?_
    have f_r5 := fw_ink h_r5
    have : (Ic5 5).toInt = (Ic4 5).toInt := congrArg Int32.toInt (f_r5.1 5 (by decide))
    have : (Ic5 6).toInt = (Ic4 6).toInt := congrArg Int32.toInt (f_r5.1 6 (by decide))
    have : (Ic5 29).toInt = (Ic4 29).toInt := congrArg Int32.toInt (f_r5.1 29 (by decide))
    have k35 : TRE Ac5 gg := TRE_fr (f_r5.2 7 (by decide)) (f_r5.2 8 (by decide)) (f_r5.2 9 (by decide)) (f_r5.2 10 (by decide)) (f_r5.2 11 (by decide)) k33
    have k36 : cK Ac5 gg (aK A gg) := cK_fr (f_r5.2 7 (by decide)) k34
    have b_Ic5_3 := tI_3 hI_Ic5
    obtain ⟨⟨r6, Ic6, Ac6⟩, h_r6, hI_Ic6, hA_Ac6, p_r6_0⟩ := t_ink (x1 := (10 : Int32))  hI_Ic5 hA_Ac5 (by have z0 : (10 : Int32).toInt = 10 := rfl; omega)
    replace hI_Ic6 : TJ Ic6 := hI_Ic6
    replace hA_Ac6 : TK Ac6 := hA_Ac6
    dsimp only at p_r6_0
    refine ok_clR h_r6 ?_
    have f_r6 := fw_ink h_r6
    have : (Ic6 5).toInt = (Ic5 5).toInt := congrArg Int32.toInt (f_r6.1 5 (by decide))
    have : (Ic6 6).toInt = (Ic5 6).toInt := congrArg Int32.toInt (f_r6.1 6 (by decide))
    have : (Ic6 29).toInt = (Ic5 29).toInt := congrArg Int32.toInt (f_r6.1 29 (by decide))
    have k37 : TRE Ac6 gg := TRE_fr (f_r6.2 7 (by decide)) (f_r6.2 8 (by decide)) (f_r6.2 9 (by decide)) (f_r6.2 10 (by decide)) (f_r6.2 11 (by decide)) k35
    have k38 : cK Ac6 gg (aK A gg) := cK_fr (f_r6.2 7 (by decide)) k36
    refine ok_bnd (fun v7 e39 => ?_)
    have t_v7 : v7.toInt = x1.toInt + 1 := ti_add e39 rfl (show (1 : Int32).toInt = 1 from rfl) (by omega) (by omega)
    have b_Ic6_5 := tI_5 hI_Ic6
    have b_Ic6_6 := tI_6 hI_Ic6
    have b_Ic6_3 := tI_3 hI_Ic6
    exact hself12 v7 Ic6 Ac6 hI_Ic6 hA_Ac6 (by omega) k37 (by omega) (by have z := k38; unfold cK at z; omega) (by omega) (by omega)
  ·
    replace c32 := ti_leN c32 rfl rfl
    refine ok_bnd (fun v8 e40 => ?_)
    have t_v8 : v8.toInt = 768 * (I 5).toInt := ti_mul e40 (show (768 : Int32).toInt = 768 from rfl) rfl (by omega) (by omega)
    refine ok_bnd (fun v9 e41 => ?_)
    have t_v9 : v9.toInt = 96 * x1.toInt := ti_mul e41 (show (96 : Int32).toInt = 96 from rfl) rfl (by omega) (by omega)
    refine ok_bnd (fun v10 e42 => ?_)
    have t_v10 : v10.toInt = v8.toInt + v9.toInt := ti_add e42 rfl rfl (by omega) (by omega)
    refine ok_bnd (fun v11 e43 => ?_)
    have t_v11 : v11.toInt = v10.toInt + x2.toInt := ti_add e43 rfl rfl (by omega) (by omega)
    refine ok_chk (ti_in (by omega) (by omega)) ?_
    refine ok_bnd (fun v12 e44 => ?_)
    have b_v12 := tA_22 hA ((v11).toNatClampNeg)
    rw [← e44] at b_v12
    refine ok_if (fun c45 => ?_) (fun c45 => ?_)
    ·
      replace c45 := ti_eqP c45 rfl (show (34 : Int32).toInt = 34 from rfl)
      unfold f_write_145
      obtain ⟨⟨r1, Ic1, Ac1⟩, h_r1, hI_Ic1, hA_Ac1, p_r1_0⟩ := t_ink (x1 := (92 : Int32))  hI hA (by have z0 : (92 : Int32).toInt = 92 := rfl; omega)
      replace hI_Ic1 : TJ Ic1 := hI_Ic1
      replace hA_Ac1 : TK Ac1 := hA_Ac1
      dsimp only at p_r1_0
      refine ok_clR h_r1 ?_
      have f_r1 := fw_ink h_r1
      have : (Ic1 5).toInt = (I 5).toInt := congrArg Int32.toInt (f_r1.1 5 (by decide))
      have : (Ic1 6).toInt = (I 6).toInt := congrArg Int32.toInt (f_r1.1 6 (by decide))
      have : (Ic1 29).toInt = (I 29).toInt := congrArg Int32.toInt (f_r1.1 29 (by decide))
      have k46 : TRE Ac1 gg := TRE_fr (f_r1.2 7 (by decide)) (f_r1.2 8 (by decide)) (f_r1.2 9 (by decide)) (f_r1.2 10 (by decide)) (f_r1.2 11 (by decide)) q0
      have k47 : cK Ac1 gg (aK A gg) := cK_fr (f_r1.2 7 (by decide)) ck0
      have b_Ic1_5 := tI_5 hI_Ic1
      have b_Ic1_6 := tI_6 hI_Ic1
      have b_Ic1_3 := tI_3 hI_Ic1
      exact t_write_151 (gg := gg)  hself12 hself94 (x1 := x1) (x2 := x2) (x3 := v12) hI_Ic1 hA_Ac1 r_x1 (by omega) k46 (by omega) (by have z := k47; unfold cK at z; omega) (by omega) m12 m94
    ·
      replace c45 := ti_eqN c45 rfl (show (34 : Int32).toInt = 34 from rfl)
      refine ok_if (fun c48 => ?_) (fun c48 => ?_)
      ·
        replace c48 := ti_eqP c48 rfl (show (92 : Int32).toInt = 92 from rfl)
        unfold f_write_145
        obtain ⟨⟨r1, Ic1, Ac1⟩, h_r1, hI_Ic1, hA_Ac1, p_r1_0⟩ := t_ink (x1 := (92 : Int32))  hI hA (by have z0 : (92 : Int32).toInt = 92 := rfl; omega)
        replace hI_Ic1 : TJ Ic1 := hI_Ic1
        replace hA_Ac1 : TK Ac1 := hA_Ac1
        dsimp only at p_r1_0
        refine ok_clR h_r1 ?_
        have f_r1 := fw_ink h_r1
        have : (Ic1 5).toInt = (I 5).toInt := congrArg Int32.toInt (f_r1.1 5 (by decide))
        have : (Ic1 6).toInt = (I 6).toInt := congrArg Int32.toInt (f_r1.1 6 (by decide))
        have : (Ic1 29).toInt = (I 29).toInt := congrArg Int32.toInt (f_r1.1 29 (by decide))
        have k49 : TRE Ac1 gg := TRE_fr (f_r1.2 7 (by decide)) (f_r1.2 8 (by decide)) (f_r1.2 9 (by decide)) (f_r1.2 10 (by decide)) (f_r1.2 11 (by decide)) q0
        have k50 : cK Ac1 gg (aK A gg) := cK_fr (f_r1.2 7 (by decide)) ck0
        have b_Ic1_5 := tI_5 hI_Ic1
        have b_Ic1_6 := tI_6 hI_Ic1
        have b_Ic1_3 := tI_3 hI_Ic1
        exact t_write_151 (gg := gg)  hself12 hself94 (x1 := x1) (x2 := x2) (x3 := v12) hI_Ic1 hA_Ac1 r_x1 (by omega) k49 (by omega) (by have z := k50; unfold cK at z; omega) (by omega) m12 m94
      ·
        replace c48 := ti_eqN c48 rfl (show (92 : Int32).toInt = 92 from rfl)
        exact t_write_151 (gg := gg)  hself12 hself94 (x1 := x1) (x2 := x2) (x3 := v12) hI hA r_x1 (by omega) q0 q1 q2 (by omega) m12 m94
theorem t_write_94 {gg : Nat} {self12 : Int32 → (Nat → Int32) → (Nat → Nat → Int32) → Option (Int32 × MS)} {N12 : Nat} (hself12 : ∀ (x1 : Int32) (I : Nat → Int32) (A : Nat → Nat → Int32), TJ I → TK A → ((0 : Int) ≤ x1.toInt ∧ x1.toInt ≤ (8 : Int)) → (TRE A gg) → ((I 5).toInt = (gg : Int)) → ((I 6).toInt ≤ (aK A gg : Int)) → ((I 3).toInt ≤ 215 * x1.toInt) → (9 - x1.toInt) < (N12 : Int) → Ok (self12 x1 I A) (fun o => TJ o.2.1 ∧ TK o.2.2 ∧ ((0 : Int) ≤ o.1.toInt ∧ o.1.toInt ≤ (80000 : Int)) ∧ (RIv o.2.1 o.2.2))) : ∀ (n : Nat) (x1 : Int32) (x2 : Int32) (I : Nat → Int32) (A : Nat → Nat → Int32), TJ I → TK A → ((0 : Int) ≤ x1.toInt ∧ x1.toInt ≤ (7 : Int)) → ((0 : Int) ≤ x2.toInt ∧ x2.toInt ≤ (96 : Int)) → (TRE A gg) → ((I 5).toInt = (gg : Int)) → ((I 6).toInt ≤ (aK A gg : Int)) → ((I 3).toInt ≤ 215 * x1.toInt + 15 + 2 * x2.toInt) → ((9 - x1.toInt) ≤ (N12 : Int)) → (97 - x2.toInt) < (n : Int) → Ok (f_write_94 self12 n x1 x2 I A) (fun o => TJ o.2.1 ∧ TK o.2.2 ∧ ((0 : Int) ≤ o.1.toInt ∧ o.1.toInt ≤ (80000 : Int)) ∧ (RIv o.2.1 o.2.2)) := by
  intro n
  induction n with
  | zero => intro x1 x2 I A hI hA g0 g1 g2 g3 g4 g5 w0 hm; exfalso; omega
  | succ n ih =>
    intro x1 x2 I A hI hA g0 g1 g2 g3 g4 g5 w0 hm
    exact t_write_94s (gg := gg)  (N94 := n) hself12 ih hI hA g0 g1 g2 g3 g4 g5 w0 (by omega)
theorem t_write_33s {gg : Nat} {I : Nat → Int32} {A : Nat → Nat → Int32} {self12 : Int32 → (Nat → Int32) → (Nat → Nat → Int32) → Option (Int32 × MS)} {N12 : Nat} (hself12 : ∀ (x1 : Int32) (I : Nat → Int32) (A : Nat → Nat → Int32), TJ I → TK A → ((0 : Int) ≤ x1.toInt ∧ x1.toInt ≤ (8 : Int)) → (TRE A gg) → ((I 5).toInt = (gg : Int)) → ((I 6).toInt ≤ (aK A gg : Int)) → ((I 3).toInt ≤ 215 * x1.toInt) → (9 - x1.toInt) < (N12 : Int) → Ok (self12 x1 I A) (fun o => TJ o.2.1 ∧ TK o.2.2 ∧ ((0 : Int) ≤ o.1.toInt ∧ o.1.toInt ≤ (80000 : Int)) ∧ (RIv o.2.1 o.2.2))) {self33 : Int32 → Int32 → (Nat → Int32) → (Nat → Nat → Int32) → Option (Int32 × MS)} {N33 : Nat} (hself33 : ∀ (x1 : Int32) (x2 : Int32) (I : Nat → Int32) (A : Nat → Nat → Int32), TJ I → TK A → ((0 : Int) ≤ x1.toInt ∧ x1.toInt ≤ (7 : Int)) → ((0 : Int) ≤ x2.toInt ∧ x2.toInt ≤ (12 : Int)) → (TRE A gg) → ((I 5).toInt = (gg : Int)) → ((I 6).toInt ≤ (aK A gg : Int)) → ((I 3).toInt ≤ 215 * x1.toInt + 1 + x2.toInt) → ((9 - x1.toInt) ≤ (N12 : Int)) → (13 - x2.toInt) < (N33 : Int) → Ok (self33 x1 x2 I A) (fun o => TJ o.2.1 ∧ TK o.2.2 ∧ ((0 : Int) ≤ o.1.toInt ∧ o.1.toInt ≤ (80000 : Int)) ∧ (RIv o.2.1 o.2.2))) {x1 : Int32} {x2 : Int32} (hI : TJ I) (hA : TK A) (r_x1 : (0 : Int) ≤ x1.toInt ∧ x1.toInt ≤ (7 : Int)) (r_x2 : (0 : Int) ≤ x2.toInt ∧ x2.toInt ≤ (12 : Int)) (q0 : TRE A gg) (q1 : (I 5).toInt = (gg : Int)) (q2 : (I 6).toInt ≤ (aK A gg : Int)) (q3 : (I 3).toInt ≤ 215 * x1.toInt + 1 + x2.toInt) (m12 : (9 - x1.toInt) ≤ (N12 : Int)) (m33 : (13 - x2.toInt) ≤ (N33 : Int)) : Ok (f_write_33s self12 self33 x1 x2 I A) (fun o => TJ o.2.1 ∧ TK o.2.2 ∧ ((0 : Int) ≤ o.1.toInt ∧ o.1.toInt ≤ (80000 : Int)) ∧ (RIv o.2.1 o.2.2)) := by
  unfold f_write_33s
  have b_I_3 := tI_3 hI
  have b_I_5 := tI_5 hI
  have b_I_6 := tI_6 hI
  have b_I_29 := tI_29 hI
  have ck0 : cK A gg (aK A gg) := rfl
  refine ok_bnd (fun v1 e51 => ?_)
  have t_v1 : v1.toInt = 8 * (I 5).toInt := ti_mul e51 (show (8 : Int32).toInt = 8 from rfl) rfl (by omega) (by omega)
  refine ok_bnd (fun v2 e52 => ?_)
  have t_v2 : v2.toInt = v1.toInt + x1.toInt := ti_add e52 rfl rfl (by omega) (by omega)
  refine ok_chk (ti_in (by omega) (by omega)) ?_
  refine ok_bnd (fun v3 e53 => ?_)
  have b_v3 := tA_19 hA ((v2).toNatClampNeg)
  rw [← e53] at b_v3
  refine ok_if (fun c54 => ?_) (fun c54 => ?_)
  ·
    replace c54 := ti_leP c54 rfl rfl
    obtain ⟨⟨r4, Ic4, Ac4⟩, h_r4, hI_Ic4, hA_Ac4, p_r4_0⟩ := t_ink (x1 := (32 : Int32))  hI hA (by have z0 : (32 : Int32).toInt = 32 := rfl; omega)
    replace hI_Ic4 : TJ Ic4 := hI_Ic4
    replace hA_Ac4 : TK Ac4 := hA_Ac4
    dsimp only at p_r4_0
    refine ok_clR h_r4 ?_
    have f_r4 := fw_ink h_r4
    have : (Ic4 5).toInt = (I 5).toInt := congrArg Int32.toInt (f_r4.1 5 (by decide))
    have : (Ic4 6).toInt = (I 6).toInt := congrArg Int32.toInt (f_r4.1 6 (by decide))
    have : (Ic4 29).toInt = (I 29).toInt := congrArg Int32.toInt (f_r4.1 29 (by decide))
    have k55 : TRE Ac4 gg := TRE_fr (f_r4.2 7 (by decide)) (f_r4.2 8 (by decide)) (f_r4.2 9 (by decide)) (f_r4.2 10 (by decide)) (f_r4.2 11 (by decide)) q0
    have k56 : cK Ac4 gg (aK A gg) := cK_fr (f_r4.2 7 (by decide)) ck0
    have b_Ic4_3 := tI_3 hI_Ic4
    obtain ⟨⟨r5, Ic5, Ac5⟩, h_r5, hI_Ic5, hA_Ac5, p_r5_0⟩ := t_ink (x1 := (34 : Int32))  hI_Ic4 hA_Ac4 (by have z0 : (34 : Int32).toInt = 34 := rfl; omega)
    replace hI_Ic5 : TJ Ic5 := hI_Ic5
    replace hA_Ac5 : TK Ac5 := hA_Ac5
    dsimp only at p_r5_0
    refine ok_clR h_r5 ?_
    have f_r5 := fw_ink h_r5
    have : (Ic5 5).toInt = (Ic4 5).toInt := congrArg Int32.toInt (f_r5.1 5 (by decide))
    have : (Ic5 6).toInt = (Ic4 6).toInt := congrArg Int32.toInt (f_r5.1 6 (by decide))
    have : (Ic5 29).toInt = (Ic4 29).toInt := congrArg Int32.toInt (f_r5.1 29 (by decide))
    have k57 : TRE Ac5 gg := TRE_fr (f_r5.2 7 (by decide)) (f_r5.2 8 (by decide)) (f_r5.2 9 (by decide)) (f_r5.2 10 (by decide)) (f_r5.2 11 (by decide)) k55
    have k58 : cK Ac5 gg (aK A gg) := cK_fr (f_r5.2 7 (by decide)) k56
    have b_Ic5_5 := tI_5 hI_Ic5
    have b_Ic5_6 := tI_6 hI_Ic5
    have b_Ic5_3 := tI_3 hI_Ic5
    exact t_write_94 (gg := gg)  hself12  mFuel x1 (0 : Int32) Ic5 Ac5 hI_Ic5 hA_Ac5 r_x1 (by decide) k57 (by have z0 : (0 : Int32).toInt = 0 := rfl; omega) (by have z := k58; unfold cK at z; omega) (by have z0 : (0 : Int32).toInt = 0 := rfl; omega) m12 (by show _ < ((200000 : Nat) : Int); have z0 : (0 : Int32).toInt = 0 := rfl; omega)
  ·
    replace c54 := ti_leN c54 rfl rfl
    refine ok_bnd (fun v6 e59 => ?_)
    have t_v6 : v6.toInt = 96 * (I 5).toInt := ti_mul e59 (show (96 : Int32).toInt = 96 from rfl) rfl (by omega) (by omega)
    refine ok_bnd (fun v7 e60 => ?_)
    have t_v7 : v7.toInt = 12 * x1.toInt := ti_mul e60 (show (12 : Int32).toInt = 12 from rfl) rfl (by omega) (by omega)
    refine ok_bnd (fun v8 e61 => ?_)
    have t_v8 : v8.toInt = v6.toInt + v7.toInt := ti_add e61 rfl rfl (by omega) (by omega)
    refine ok_bnd (fun v9 e62 => ?_)
    have t_v9 : v9.toInt = v8.toInt + x2.toInt := ti_add e62 rfl rfl (by omega) (by omega)
    refine ok_chk (ti_in (by omega) (by omega)) ?_
    refine ok_bnd (fun v10 e63 => ?_)
    have b_v10 := tA_20 hA ((v9).toNatClampNeg)
    rw [← e63] at b_v10
    obtain ⟨⟨r11, Ic11, Ac11⟩, h_r11, hI_Ic11, hA_Ac11, p_r11_0⟩ := t_ink (x1 := v10)  hI hA (by omega)
    replace hI_Ic11 : TJ Ic11 := hI_Ic11
    replace hA_Ac11 : TK Ac11 := hA_Ac11
    dsimp only at p_r11_0
    refine ok_clR h_r11 ?_
    have f_r11 := fw_ink h_r11
    have : (Ic11 5).toInt = (I 5).toInt := congrArg Int32.toInt (f_r11.1 5 (by decide))
    have : (Ic11 6).toInt = (I 6).toInt := congrArg Int32.toInt (f_r11.1 6 (by decide))
    have : (Ic11 29).toInt = (I 29).toInt := congrArg Int32.toInt (f_r11.1 29 (by decide))
    have k64 : TRE Ac11 gg := TRE_fr (f_r11.2 7 (by decide)) (f_r11.2 8 (by decide)) (f_r11.2 9 (by decide)) (f_r11.2 10 (by decide)) (f_r11.2 11 (by decide)) q0
    have k65 : cK Ac11 gg (aK A gg) := cK_fr (f_r11.2 7 (by decide)) ck0
    refine ok_bnd (fun v12 e66 => ?_)
    have t_v12 : v12.toInt = x2.toInt + 1 := ti_add e66 rfl (show (1 : Int32).toInt = 1 from rfl) (by omega) (by omega)
    have b_Ic11_5 := tI_5 hI_Ic11
    have b_Ic11_6 := tI_6 hI_Ic11
    have b_Ic11_3 := tI_3 hI_Ic11
    exact hself33 x1 v12 Ic11 Ac11 hI_Ic11 hA_Ac11 r_x1 (by omega) k64 (by omega) (by have z := k65; unfold cK at z; omega) (by omega) m12 (by omega)
theorem t_write_33 {gg : Nat} {self12 : Int32 → (Nat → Int32) → (Nat → Nat → Int32) → Option (Int32 × MS)} {N12 : Nat} (hself12 : ∀ (x1 : Int32) (I : Nat → Int32) (A : Nat → Nat → Int32), TJ I → TK A → ((0 : Int) ≤ x1.toInt ∧ x1.toInt ≤ (8 : Int)) → (TRE A gg) → ((I 5).toInt = (gg : Int)) → ((I 6).toInt ≤ (aK A gg : Int)) → ((I 3).toInt ≤ 215 * x1.toInt) → (9 - x1.toInt) < (N12 : Int) → Ok (self12 x1 I A) (fun o => TJ o.2.1 ∧ TK o.2.2 ∧ ((0 : Int) ≤ o.1.toInt ∧ o.1.toInt ≤ (80000 : Int)) ∧ (RIv o.2.1 o.2.2))) : ∀ (n : Nat) (x1 : Int32) (x2 : Int32) (I : Nat → Int32) (A : Nat → Nat → Int32), TJ I → TK A → ((0 : Int) ≤ x1.toInt ∧ x1.toInt ≤ (7 : Int)) → ((0 : Int) ≤ x2.toInt ∧ x2.toInt ≤ (12 : Int)) → (TRE A gg) → ((I 5).toInt = (gg : Int)) → ((I 6).toInt ≤ (aK A gg : Int)) → ((I 3).toInt ≤ 215 * x1.toInt + 1 + x2.toInt) → ((9 - x1.toInt) ≤ (N12 : Int)) → (13 - x2.toInt) < (n : Int) → Ok (f_write_33 self12 n x1 x2 I A) (fun o => TJ o.2.1 ∧ TK o.2.2 ∧ ((0 : Int) ≤ o.1.toInt ∧ o.1.toInt ≤ (80000 : Int)) ∧ (RIv o.2.1 o.2.2)) := by
  intro n
  induction n with
  | zero => intro x1 x2 I A hI hA g0 g1 g2 g3 g4 g5 w0 hm; exfalso; omega
  | succ n ih =>
    intro x1 x2 I A hI hA g0 g1 g2 g3 g4 g5 w0 hm
    exact t_write_33s (gg := gg)  (N33 := n) hself12 ih hI hA g0 g1 g2 g3 g4 g5 w0 (by omega)
theorem t_write_12s {gg : Nat} {I : Nat → Int32} {A : Nat → Nat → Int32} {self12 : Int32 → (Nat → Int32) → (Nat → Nat → Int32) → Option (Int32 × MS)} {N12 : Nat} (hself12 : ∀ (x1 : Int32) (I : Nat → Int32) (A : Nat → Nat → Int32), TJ I → TK A → ((0 : Int) ≤ x1.toInt ∧ x1.toInt ≤ (8 : Int)) → (TRE A gg) → ((I 5).toInt = (gg : Int)) → ((I 6).toInt ≤ (aK A gg : Int)) → ((I 3).toInt ≤ 215 * x1.toInt) → (9 - x1.toInt) < (N12 : Int) → Ok (self12 x1 I A) (fun o => TJ o.2.1 ∧ TK o.2.2 ∧ ((0 : Int) ≤ o.1.toInt ∧ o.1.toInt ≤ (80000 : Int)) ∧ (RIv o.2.1 o.2.2))) {x1 : Int32} (hI : TJ I) (hA : TK A) (r_x1 : (0 : Int) ≤ x1.toInt ∧ x1.toInt ≤ (8 : Int)) (q0 : TRE A gg) (q1 : (I 5).toInt = (gg : Int)) (q2 : (I 6).toInt ≤ (aK A gg : Int)) (q3 : (I 3).toInt ≤ 215 * x1.toInt) (m12 : (9 - x1.toInt) ≤ (N12 : Int)) : Ok (f_write_12s self12 x1 I A) (fun o => TJ o.2.1 ∧ TK o.2.2 ∧ ((0 : Int) ≤ o.1.toInt ∧ o.1.toInt ≤ (80000 : Int)) ∧ (RIv o.2.1 o.2.2)) := by
  unfold f_write_12s
  have b_I_3 := tI_3 hI
  have b_I_5 := tI_5 hI
  have b_I_6 := tI_6 hI
  have b_I_29 := tI_29 hI
  have ck0 : cK A gg (aK A gg) := rfl
  refine ok_chk (ti_in (by omega) (by omega)) ?_
  refine ok_bnd (fun v1 e67 => ?_)
  have b_v1 := tA_18 hA (((I 5)).toNatClampNeg)
  rw [← e67] at b_v1
  refine ok_if (fun c68 => ?_) (fun c68 => ?_)
  ·
    replace c68 := ti_leP c68 rfl rfl
    refine ok_chk (ti_in (by omega) (by omega)) ?_
    refine ok_bnd (fun v2 e69 => ?_)
    have b_v2 := tA_18 hA (((I 5)).toNatClampNeg)
    rw [← e69] at b_v2
    refine ok_if (fun c70 => ?_) (fun c70 => ?_)
    ·
      replace c70 := ti_leP c70 rfl (show (0 : Int32).toInt = 0 from rfl)
      exact t_write_204 (gg := gg)    hI hA q0 q1 q2 (by omega)
    ·
      replace c70 := ti_leN c70 rfl (show (0 : Int32).toInt = 0 from rfl)
      obtain ⟨⟨r3, Ic3, Ac3⟩, h_r3, hI_Ic3, hA_Ac3, p_r3_0⟩ := t_ink (x1 := (10 : Int32))  hI hA (by have z0 : (10 : Int32).toInt = 10 := rfl; omega)
      replace hI_Ic3 : TJ Ic3 := hI_Ic3
      replace hA_Ac3 : TK Ac3 := hA_Ac3
      dsimp only at p_r3_0
      refine ok_clR h_r3 ?_
      have f_r3 := fw_ink h_r3
      have : (Ic3 5).toInt = (I 5).toInt := congrArg Int32.toInt (f_r3.1 5 (by decide))
      have : (Ic3 6).toInt = (I 6).toInt := congrArg Int32.toInt (f_r3.1 6 (by decide))
      have : (Ic3 29).toInt = (I 29).toInt := congrArg Int32.toInt (f_r3.1 29 (by decide))
      have k71 : TRE Ac3 gg := TRE_fr (f_r3.2 7 (by decide)) (f_r3.2 8 (by decide)) (f_r3.2 9 (by decide)) (f_r3.2 10 (by decide)) (f_r3.2 11 (by decide)) q0
      have k72 : cK Ac3 gg (aK A gg) := cK_fr (f_r3.2 7 (by decide)) ck0
      have b_Ic3_5 := tI_5 hI_Ic3
      have b_Ic3_6 := tI_6 hI_Ic3
      have b_Ic3_3 := tI_3 hI_Ic3
      exact t_write_204 (gg := gg)    hI_Ic3 hA_Ac3 k71 (by omega) (by have z := k72; unfold cK at z; omega) (by omega)
  ·
    replace c68 := ti_leN c68 rfl rfl
    obtain ⟨⟨r4, Ic4, Ac4⟩, h_r4, hI_Ic4, hA_Ac4, p_r4_0⟩ := t_ink (x1 := (91 : Int32))  hI hA (by have z0 : (91 : Int32).toInt = 91 := rfl; omega)
    replace hI_Ic4 : TJ Ic4 := hI_Ic4
    replace hA_Ac4 : TK Ac4 := hA_Ac4
    dsimp only at p_r4_0
    refine ok_clR h_r4 ?_
    have f_r4 := fw_ink h_r4
    have : (Ic4 5).toInt = (I 5).toInt := congrArg Int32.toInt (f_r4.1 5 (by decide))
    have : (Ic4 6).toInt = (I 6).toInt := congrArg Int32.toInt (f_r4.1 6 (by decide))
    have : (Ic4 29).toInt = (I 29).toInt := congrArg Int32.toInt (f_r4.1 29 (by decide))
    have k73 : TRE Ac4 gg := TRE_fr (f_r4.2 7 (by decide)) (f_r4.2 8 (by decide)) (f_r4.2 9 (by decide)) (f_r4.2 10 (by decide)) (f_r4.2 11 (by decide)) q0
    have k74 : cK Ac4 gg (aK A gg) := cK_fr (f_r4.2 7 (by decide)) ck0
    have b_Ic4_5 := tI_5 hI_Ic4
    have b_Ic4_6 := tI_6 hI_Ic4
    have b_Ic4_3 := tI_3 hI_Ic4
    exact t_write_33 (gg := gg)  hself12  mFuel x1 (0 : Int32) Ic4 Ac4 hI_Ic4 hA_Ac4 (by omega) (by decide) k73 (by have z0 : (0 : Int32).toInt = 0 := rfl; omega) (by have z := k74; unfold cK at z; omega) (by have z0 : (0 : Int32).toInt = 0 := rfl; omega) m12 (by show _ < ((200000 : Nat) : Int); have z0 : (0 : Int32).toInt = 0 := rfl; omega)
theorem t_write_12 {gg : Nat}  : ∀ (n : Nat) (x1 : Int32) (I : Nat → Int32) (A : Nat → Nat → Int32), TJ I → TK A → ((0 : Int) ≤ x1.toInt ∧ x1.toInt ≤ (8 : Int)) → (TRE A gg) → ((I 5).toInt = (gg : Int)) → ((I 6).toInt ≤ (aK A gg : Int)) → ((I 3).toInt ≤ 215 * x1.toInt) → (9 - x1.toInt) < (n : Int) → Ok (f_write_12  n x1 I A) (fun o => TJ o.2.1 ∧ TK o.2.2 ∧ ((0 : Int) ≤ o.1.toInt ∧ o.1.toInt ≤ (80000 : Int)) ∧ (RIv o.2.1 o.2.2)) := by
  intro n
  induction n with
  | zero => intro x1 I A hI hA g0 g1 g2 g3 g4  hm; exfalso; omega
  | succ n ih =>
    intro x1 I A hI hA g0 g1 g2 g3 g4  hm
    exact t_write_12s (gg := gg)  (N12 := n)  ih hI hA g0 g1 g2 g3 g4  (by omega)
theorem t_write_0 {gg : Nat} {I : Nat → Int32} {A : Nat → Nat → Int32} (hI : TJ I) (hA : TK A) (q0 : (I 5).toInt = (gg : Int)) (q1 : TRE A gg) (q2 : (I 6).toInt ≤ (aK A gg : Int)) : Ok (f_write_0 I A) (fun o => TJ o.2.1 ∧ TK o.2.2 ∧ ((0 : Int) ≤ o.1.toInt ∧ o.1.toInt ≤ (80000 : Int)) ∧ (RIv o.2.1 o.2.2)) := by
  unfold f_write_0
  have b_I_3 := tI_3 hI
  have b_I_5 := tI_5 hI
  have b_I_6 := tI_6 hI
  have b_I_29 := tI_29 hI
  have ck0 : cK A gg (aK A gg) := rfl
  refine ok_bnd (fun I1 e75 => ?_)
  have hI_I1 : TJ I1 := e75.symm ▸ tj_u hI (k := 0) (show (0 : Int) ≤ (0 : Int32).toInt from (by decide)) (show (0 : Int32).toInt ≤ (2 : Int) from (by decide))
  have : (I1 3).toInt = (I 3).toInt := by rw [e75]; rfl
  have : (I1 5).toInt = (I 5).toInt := by rw [e75]; rfl
  have : (I1 6).toInt = (I 6).toInt := by rw [e75]; rfl
  have : (I1 29).toInt = (I 29).toInt := by rw [e75]; rfl
  refine ok_bnd (fun I2 e76 => ?_)
  have hI_I2 : TJ I2 := e76.symm ▸ tj_u hI_I1 (k := 3) (show (0 : Int) ≤ (0 : Int32).toInt from (by decide)) (show (0 : Int32).toInt ≤ (80000 : Int) from (by decide))
  have : (I2 3).toInt = 0 := by rw [e76]; exact (show (0 : Int32).toInt = 0 from rfl)
  have : (I2 5).toInt = (I1 5).toInt := by rw [e76]; rfl
  have : (I2 6).toInt = (I1 6).toInt := by rw [e76]; rfl
  have : (I2 29).toInt = (I1 29).toInt := by rw [e76]; rfl
  have b_I2_5 := tI_5 hI_I2
  have b_I2_6 := tI_6 hI_I2
  have b_I2_3 := tI_3 hI_I2
  exact t_write_12 (gg := gg)    mFuel (0 : Int32) I2 A hI_I2 hA (by decide) q1 (by have z0 : (0 : Int32).toInt = 0 := rfl; omega) (by have z := ck0; unfold cK at z; omega) (by have z0 : (0 : Int32).toInt = 0 := rfl; omega) (by show _ < ((200000 : Nat) : Int); have z0 : (0 : Int32).toInt = 0 := rfl; omega)
theorem t_write {gg : Nat} {I : Nat → Int32} {A : Nat → Nat → Int32}  (hI : TJ I) (hA : TK A) (q0 : (I 5).toInt = (gg : Int)) (q1 : TRE A gg) (q2 : (I 6).toInt ≤ (aK A gg : Int)) : Ok (f_write  I A) (fun o => TJ o.2.1 ∧ TK o.2.2 ∧ ((0 : Int) ≤ o.1.toInt ∧ o.1.toInt ≤ (80000 : Int)) ∧ (RIv o.2.1 o.2.2)) := t_write_0 (gg := gg) hI hA q0 q1 q2
