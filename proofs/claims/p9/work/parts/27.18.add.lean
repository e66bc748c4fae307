theorem t_go_14 {gg : Nat} {I : Nat → Int32} {A : Nat → Nat → Int32} {x1 : Int32} {t0 : Int32} (hI : TJ I) (hA : TK A) (r_t0 : (0 : Int) ≤ t0.toInt ∧ t0.toInt ≤ (1 : Int)) (q0 : (I 5).toInt = (gg : Int)) (q1 : TRE A gg) (q2 : (I 6).toInt ≤ (aK A gg : Int)) (q3 : (I 29).toInt ≤ 1999) (q4 : t0.toInt = 0 → 0 ≤ x1.toInt ∧ x1.toInt ≤ (aK A gg : Int)) : Ok (f_go_14 x1 t0 I A) (fun o => TJ o.2.1 ∧ TK o.2.2 ∧ (RIv o.2.1 o.2.2)) := by
  unfold f_go_14
  have b_I_0 := tI_0 hI
  have b_I_5 := tI_5 hI
  have b_I_6 := tI_6 hI
  have b_I_29 := tI_29 hI
  have ck0 : cK A gg (aK A gg) := rfl
  have ak0 := aK_le (g := gg) hA
  refine ok_bnd (fun I1 e1 => ?_)
  have hI_I1 : TJ I1 := e1.symm ▸ tj_u hI (k := 0) (show (0 : Int) ≤ t0.toInt from (by omega)) (show t0.toInt ≤ (2 : Int) from (by omega))
  have : (I1 0).toInt = t0.toInt := by rw [e1]; exact rfl
  have : (I1 5).toInt = (I 5).toInt := by rw [e1]; rfl
  have : (I1 6).toInt = (I 6).toInt := by rw [e1]; rfl
  have : (I1 29).toInt = (I 29).toInt := by rw [e1]; rfl
  have b_I1_0 := tI_0 hI_I1
  refine ok_if (fun c2 => ?_) (fun c2 => ?_)
  ·
    replace c2 := ti_eqP c2 rfl (show (0 : Int32).toInt = 0 from rfl)
    refine ok_bnd (fun I2 e3 => ?_)
    have hI_I2 : TJ I2 := e3.symm ▸ tj_u hI_I1 (k := 6) (show (0 : Int) ≤ x1.toInt from (by omega)) (show x1.toInt ≤ (300 : Int) from (by omega))
    have : (I2 0).toInt = (I1 0).toInt := by rw [e3]; rfl
    have : (I2 5).toInt = (I1 5).toInt := by rw [e3]; rfl
    have : (I2 6).toInt = x1.toInt := by rw [e3]; exact rfl
    have : (I2 29).toInt = (I1 29).toInt := by rw [e3]; rfl
    have b_I2_5 := tI_5 hI_I2
    have b_I2_6 := tI_6 hI_I2
    obtain ⟨⟨r3, Ic3, Ac3⟩, h_r3, hI_Ic3, hA_Ac3, p_r3_0⟩ := t_place (x1 := (I2 5)) (x2 := (I2 6))  hI_I2 hA (by omega) (by omega) (TRE_n q1) (by omega) (by omega)
    replace hI_Ic3 : TJ Ic3 := hI_Ic3
    replace hA_Ac3 : TK Ac3 := hA_Ac3
    dsimp only at p_r3_0
    refine ok_clR h_r3 ?_
    have f_r3 := fw_place h_r3
    have : (Ic3 0).toInt = (I2 0).toInt := congrArg Int32.toInt (f_r3.1 0 (by decide))
    have : (Ic3 5).toInt = (I2 5).toInt := congrArg Int32.toInt (f_r3.1 5 (by decide))
    have : (Ic3 6).toInt = (I2 6).toInt := congrArg Int32.toInt (f_r3.1 6 (by decide))
    have k4 : TRE Ac3 gg := TRE_fr (f_r3.2 7 (by decide)) (f_r3.2 8 (by decide)) (f_r3.2 9 (by decide)) (f_r3.2 10 (by decide)) (f_r3.2 11 (by decide)) q1
    have k5 : cK Ac3 gg (aK A gg) := cK_fr (f_r3.2 7 (by decide)) ck0
    unfold f_go_41
    exact ok_ret ⟨hI_Ic3, hA_Ac3, (by show RIv Ic3 Ac3; exact (RIv_mk (g := gg) k4 (by omega) (by have z := k5; unfold cK at z; omega) (by omega)))⟩
  ·
    replace c2 := ti_eqN c2 rfl (show (0 : Int32).toInt = 0 from rfl)
    unfold f_go_41
    exact ok_ret ⟨hI_I1, hA, (by show RIv I1 A; exact (RIv_mk (g := gg) q1 (by omega) (by have z := ck0; unfold cK at z; omega) (by omega)))⟩
theorem t_go_0 {gg : Nat} {I : Nat → Int32} {A : Nat → Nat → Int32} {x1 : Int32} (hI : TJ I) (hA : TK A) (q0 : (I 5).toInt = (gg : Int)) (q1 : TRE A gg) (q2 : (I 6).toInt ≤ (aK A gg : Int)) (q3 : (I 29).toInt ≤ 1999) : Ok (f_go_0 x1 I A) (fun o => TJ o.2.1 ∧ TK o.2.2 ∧ (RIv o.2.1 o.2.2)) := by
  unfold f_go_0
  have b_I_0 := tI_0 hI
  have b_I_5 := tI_5 hI
  have b_I_6 := tI_6 hI
  have b_I_29 := tI_29 hI
  obtain ⟨r1, h_r1, p_r1⟩ := ro (t_isNode (x1 := x1)  hI hA )
  refine ok_clR h_r1 ?_
  dsimp only at p_r1
  have k7 := aK_ix hA q0
  refine ok_if (fun c6 => ?_) (fun c6 => ?_)
  ·
    replace c6 := ti_eqP c6 rfl (show (0 : Int32).toInt = 0 from rfl)
    exact t_go_14 (gg := gg)   (x1 := x1) (t0 := (1 : Int32)) hI hA (by decide) q0 q1 q2 q3 (by have z0 : (1 : Int32).toInt = 1 := rfl; omega)
  ·
    replace c6 := ti_eqN c6 rfl (show (0 : Int32).toInt = 0 from rfl)
    exact t_go_14 (gg := gg)   (x1 := x1) (t0 := (0 : Int32)) hI hA (by decide) q0 q1 q2 q3 (by have z0 : (0 : Int32).toInt = 0 := rfl; omega)
theorem t_go {gg : Nat} {I : Nat → Int32} {A : Nat → Nat → Int32} {x1 : Int32} (hI : TJ I) (hA : TK A) (q0 : (I 5).toInt = (gg : Int)) (q1 : TRE A gg) (q2 : (I 6).toInt ≤ (aK A gg : Int)) (q3 : (I 29).toInt ≤ 1999) : Ok (f_go x1 I A) (fun o => TJ o.2.1 ∧ TK o.2.2 ∧ (RIv o.2.1 o.2.2)) := t_go_0 (gg := gg) hI hA q0 q1 q2 q3
theorem t_add_137 {gg : Nat} {I : Nat → Int32} {A : Nat → Nat → Int32} {x2 : Int32} (hI : TJ I) (hA : TK A) (r_x2 : (0 : Int) ≤ x2.toInt ∧ x2.toInt ≤ (300 : Int)) (q0 : (I 5).toInt = (gg : Int)) (q1 : TRE A gg) (q2 : x2.toInt ≤ (aK A gg : Int)) : Ok (f_add_137 x2 I A) (fun o => TJ o.2.1 ∧ TK o.2.2 ∧ ((-1 : Int) ≤ o.1.toInt ∧ o.1.toInt ≤ (300 : Int)) ∧ (RIv o.2.1 o.2.2)) := by
  unfold f_add_137
  have b_I_0 := tI_0 hI
  have b_I_5 := tI_5 hI
  have b_I_6 := tI_6 hI
  have b_I_29 := tI_29 hI
  have ck0 : cK A gg (aK A gg) := rfl
  refine ok_bnd (fun I1 e7 => ?_)
  have hI_I1 : TJ I1 := e7.symm ▸ tj_u hI (k := 6) (show (0 : Int) ≤ x2.toInt from (by omega)) (show x2.toInt ≤ (300 : Int) from (by omega))
  have : (I1 0).toInt = (I 0).toInt := by rw [e7]; rfl
  have : (I1 5).toInt = (I 5).toInt := by rw [e7]; rfl
  have : (I1 6).toInt = x2.toInt := by rw [e7]; exact rfl
  have : (I1 29).toInt = (I 29).toInt := by rw [e7]; rfl
  have b_I1_5 := tI_5 hI_I1
  have b_I1_6 := tI_6 hI_I1
  obtain ⟨⟨r2, Ic2, Ac2⟩, h_r2, hI_Ic2, hA_Ac2, p_r2_0⟩ := t_place (x1 := (I1 5)) (x2 := (I1 6))  hI_I1 hA (by omega) (by omega) (TRE_n q1) (by omega) (by omega)
  replace hI_Ic2 : TJ Ic2 := hI_Ic2
  replace hA_Ac2 : TK Ac2 := hA_Ac2
  dsimp only at p_r2_0
  refine ok_clR h_r2 ?_
  have f_r2 := fw_place h_r2
  have : (Ic2 0).toInt = (I1 0).toInt := congrArg Int32.toInt (f_r2.1 0 (by decide))
  have : (Ic2 5).toInt = (I1 5).toInt := congrArg Int32.toInt (f_r2.1 5 (by decide))
  have : (Ic2 6).toInt = (I1 6).toInt := congrArg Int32.toInt (f_r2.1 6 (by decide))
  have k8 : TRE Ac2 gg := TRE_fr (f_r2.2 7 (by decide)) (f_r2.2 8 (by decide)) (f_r2.2 9 (by decide)) (f_r2.2 10 (by decide)) (f_r2.2 11 (by decide)) q1
  have k9 : cK Ac2 gg (aK A gg) := cK_fr (f_r2.2 7 (by decide)) ck0
  exact ok_ret ⟨hI_Ic2, hA_Ac2, (show (-1 : Int) ≤ x2.toInt ∧ x2.toInt ≤ (300 : Int) from (by omega)), (by show RIv Ic2 Ac2; exact (RIv_mk (g := gg) k8 (by omega) (by have z := k9; unfold cK at z; omega) (by omega)))⟩
theorem t_add_111 {gg : Nat} {I : Nat → Int32} {A : Nat → Nat → Int32} {x1 : Int32} {t0 : Int32} (hI : TJ I) (hA : TK A) (r_t0 : (0 : Int) ≤ t0.toInt ∧ t0.toInt ≤ (2 : Int)) (q0 : (I 5).toInt = (gg : Int)) (q1 : TRE A gg) (q2 : (I 6).toInt ≤ (aK A gg : Int)) (q3 : (I 29).toInt ≤ 1999) (q4 : t0.toInt = 0 → 0 ≤ x1.toInt ∧ x1.toInt ≤ 24575 ∧ (aK A gg : Int) ≤ 299) (q5 : t0.toInt = 0 → apd A gg (I 6).toInt.toNat 6) : Ok (f_add_111 x1 t0 I A) (fun o => TJ o.2.1 ∧ TK o.2.2 ∧ ((-1 : Int) ≤ o.1.toInt ∧ o.1.toInt ≤ (300 : Int)) ∧ (RIv o.2.1 o.2.2)) := by
  unfold f_add_111
  have b_I_0 := tI_0 hI
  have b_I_5 := tI_5 hI
  have b_I_6 := tI_6 hI
  have b_I_29 := tI_29 hI
  have ck0 : cK A gg (aK A gg) := rfl
  refine ok_bnd (fun I1 e10 => ?_)
  have hI_I1 : TJ I1 := e10.symm ▸ tj_u hI (k := 0) (show (0 : Int) ≤ t0.toInt from (by omega)) (show t0.toInt ≤ (2 : Int) from (by omega))
  have : (I1 0).toInt = t0.toInt := by rw [e10]; exact rfl
  have : (I1 5).toInt = (I 5).toInt := by rw [e10]; rfl
  have : (I1 6).toInt = (I 6).toInt := by rw [e10]; rfl
  have : (I1 29).toInt = (I 29).toInt := by rw [e10]; rfl
  have b_I1_0 := tI_0 hI_I1
  refine ok_if (fun c11 => ?_) (fun c11 => ?_)
  ·
    replace c11 := ti_leP c11 rfl (show (0 : Int32).toInt = 0 from rfl)
    have b_I1_5 := tI_5 hI_I1
    have b_I1_6 := tI_6 hI_I1
    obtain ⟨⟨r2, Ic2, Ac2⟩, h_r2, hI_Ic2, hA_Ac2, p_r2, p_r2_0, p_r2_1, p_r2_2, p_r2_3⟩ := t_append (x1 := (I1 5)) (x2 := (I1 6)) (x3 := x1)  hI_I1 hA (by omega) (by omega) (by omega) q1 (by omega) (by omega) (by rw [show (I1 6).toInt = (I 6).toInt by omega]; exact q5 (by omega))
    replace hI_Ic2 : TJ Ic2 := hI_Ic2
    replace hA_Ac2 : TK Ac2 := hA_Ac2
    dsimp only at p_r2 p_r2_0 p_r2_1 p_r2_2 p_r2_3
    refine ok_clR h_r2 ?_
    have f_r2 := fw_append h_r2
    have : (Ic2 0).toInt = (I1 0).toInt := congrArg Int32.toInt (f_r2.1 0 (by decide))
    have : (Ic2 5).toInt = (I1 5).toInt := congrArg Int32.toInt (f_r2.1 5 (by decide))
    have : (Ic2 6).toInt = (I1 6).toInt := congrArg Int32.toInt (f_r2.1 6 (by decide))
    have : (Ic2 29).toInt = (I1 29).toInt := congrArg Int32.toInt (f_r2.1 29 (by decide))
    have b_Ic2_5 := tI_5 hI_Ic2
    exact t_add_137 (gg := gg)   (x2 := r2) hI_Ic2 hA_Ac2 (by omega) (by omega) p_r2_0 (by have z1 := p_r2_2.1; have z2 := p_r2_2.2.1; omega)
  ·
    replace c11 := ti_leN c11 rfl (show (0 : Int32).toInt = 0 from rfl)
    exact ok_ret ⟨hI_I1, hA, (show (-1 : Int) ≤ (0 : Int32).toInt ∧ (0 : Int32).toInt ≤ (300 : Int) from (by decide)), (by show RIv I1 A; exact (RIv_mk (g := gg) q1 (by omega) (by have z := ck0; unfold cK at z; omega) (by omega)))⟩
theorem t_add_82 {gg : Nat} {I : Nat → Int32} {A : Nat → Nat → Int32} {x1 : Int32} {t0 : Int32} {t1 : Int32} (hI : TJ I) (hA : TK A) (r_t0 : (0 : Int) ≤ t0.toInt ∧ t0.toInt ≤ (1 : Int)) (r_t1 : (0 : Int) ≤ t1.toInt ∧ t1.toInt ≤ (6 : Int)) (q0 : (I 5).toInt = (gg : Int)) (q1 : TRE A gg) (q2 : (I 6).toInt ≤ (aK A gg : Int)) (q3 : (I 29).toInt ≤ 1999) (q4 : 0 ≤ x1.toInt ∧ x1.toInt ≤ 24575) (q5 : t1.toInt + t0.toInt ≤ 6 → apd A gg (I 6).toInt.toNat 6) : Ok (f_add_82 x1 t0 t1 I A) (fun o => TJ o.2.1 ∧ TK o.2.2 ∧ ((-1 : Int) ≤ o.1.toInt ∧ o.1.toInt ≤ (300 : Int)) ∧ (RIv o.2.1 o.2.2)) := by
  unfold f_add_82
  have b_I_0 := tI_0 hI
  have b_I_5 := tI_5 hI
  have b_I_6 := tI_6 hI
  have b_I_29 := tI_29 hI
  refine ok_bnd (fun v1 e12 => ?_)
  have t_v1 : v1.toInt = t1.toInt + t0.toInt := ti_add e12 rfl rfl (by omega) (by omega)
  refine ok_chk (ti_in (by omega) (by omega)) ?_
  refine ok_bnd (fun v2 e13 => ?_)
  have b_v2 := tA_7 hA (((I 5)).toNatClampNeg)
  rw [← e13] at b_v2
  have k7 := aK_ix hA q0
  rw [← e13] at k7
  refine ok_if (fun c14 => ?_) (fun c14 => ?_)
  ·
    replace c14 := ti_eqP c14 rfl (show (300 : Int32).toInt = 300 from rfl)
    unfold f_add_106
    exact t_add_111 (gg := gg)   (x1 := x1) (t0 := (2 : Int32)) hI hA (by decide) q0 q1 q2 q3 (by have z0 : (2 : Int32).toInt = 2 := rfl; omega) (fun h => absurd h (by decide))
  ·
    replace c14 := ti_eqN c14 rfl (show (300 : Int32).toInt = 300 from rfl)
    refine ok_if (fun c15 => ?_) (fun c15 => ?_)
    ·
      replace c15 := ti_leP c15 rfl (show (6 : Int32).toInt = 6 from rfl)
      exact t_add_111 (gg := gg)   (x1 := x1) (t0 := (0 : Int32)) hI hA (by decide) q0 q1 q2 q3 (by have z0 : (0 : Int32).toInt = 0 := rfl; omega) (fun _ => q5 (by omega))
    ·
      replace c15 := ti_leN c15 rfl (show (6 : Int32).toInt = 6 from rfl)
      unfold f_add_106
      exact t_add_111 (gg := gg)   (x1 := x1) (t0 := (2 : Int32)) hI hA (by decide) q0 q1 q2 q3 (by have z0 : (2 : Int32).toInt = 2 := rfl; omega) (fun h => absurd h (by decide))
theorem t_add_14 {gg : Nat} {I : Nat → Int32} {A : Nat → Nat → Int32} {x1 : Int32} {t0 : Int32} (hI : TJ I) (hA : TK A) (r_t0 : (0 : Int) ≤ t0.toInt ∧ t0.toInt ≤ (1 : Int)) (q0 : (I 5).toInt = (gg : Int)) (q1 : TRE A gg) (q2 : (I 6).toInt ≤ (aK A gg : Int)) (q3 : (I 29).toInt ≤ 1999) (q4 : t0.toInt = 0 → 0 ≤ x1.toInt ∧ x1.toInt ≤ 24575) : Ok (f_add_14 x1 t0 I A) (fun o => TJ o.2.1 ∧ TK o.2.2 ∧ ((-1 : Int) ≤ o.1.toInt ∧ o.1.toInt ≤ (300 : Int)) ∧ (RIv o.2.1 o.2.2)) := by
  unfold f_add_14
  have b_I_0 := tI_0 hI
  have b_I_5 := tI_5 hI
  have b_I_6 := tI_6 hI
  have b_I_29 := tI_29 hI
  have ck0 : cK A gg (aK A gg) := rfl
  refine ok_bnd (fun I1 e16 => ?_)
  have hI_I1 : TJ I1 := e16.symm ▸ tj_u hI (k := 0) (show (0 : Int) ≤ t0.toInt from (by omega)) (show t0.toInt ≤ (2 : Int) from (by omega))
  have : (I1 0).toInt = t0.toInt := by rw [e16]; exact rfl
  have : (I1 5).toInt = (I 5).toInt := by rw [e16]; rfl
  have : (I1 6).toInt = (I 6).toInt := by rw [e16]; rfl
  have : (I1 29).toInt = (I 29).toInt := by rw [e16]; rfl
  have b_I1_0 := tI_0 hI_I1
  refine ok_if (fun c17 => ?_) (fun c17 => ?_)
  ·
    replace c17 := ti_leP c17 rfl (show (0 : Int32).toInt = 0 from rfl)
    have b_I1_5 := tI_5 hI_I1
    have b_I1_6 := tI_6 hI_I1
    obtain ⟨r2, h_r2, p_r2⟩ := ro (t_childWith (x1 := (I1 5)) (x2 := (I1 6)) (x3 := x1)  hI_I1 hA (by omega) (by omega) q1 (by omega) (by omega))
    refine ok_clR h_r2 ?_
    dsimp only at p_r2
    have q1c := q1
    obtain ⟨hb, L, D, hl, hd⟩ := q1c
    have h66 := hd.2.2 (I1 6).toInt.toNat (by omega)
    refine ok_if (fun c18 => ?_) (fun c18 => ?_)
    ·
      replace c18 := ti_leP c18 (show (0 : Int32).toInt = 0 from rfl) rfl
      exact t_add_137 (gg := gg)   (x2 := r2) hI_I1 hA (by omega) (by omega) q1 (by have z := p_r2.2; omega)
    ·
      replace c18 := ti_leN c18 (show (0 : Int32).toInt = 0 from rfl) rfl
      obtain ⟨r3, h_r3, p_r3⟩ := ro (t_deepOf (x1 := (I1 5)) (x2 := (I1 6))  hI_I1 hA (by omega) (by omega) (TRE_n q1) (by omega) (by omega) hd rfl)
      refine ok_clR h_r3 ?_
      dsimp only at p_r3
      refine ok_bnd (fun v4 e19 => ?_)
      have t_v4 : v4.toInt = 301 * (I1 5).toInt := ti_mul e19 (show (301 : Int32).toInt = 301 from rfl) rfl (by omega) (by omega)
      refine ok_bnd (fun v5 e20 => ?_)
      have t_v5 : v5.toInt = v4.toInt + (I1 6).toInt := ti_add e20 rfl rfl (by omega) (by omega)
      refine ok_chk (ti_in (by omega) (by omega)) ?_
      refine ok_bnd (fun v6 e21 => ?_)
      have b_v6 := tA_10 hA ((v5).toNatClampNeg)
      rw [← e21] at b_v6
      have i6 : v5.toNatClampNeg = 301 * gg + (I1 6).toInt.toNat := by have := ti_nc (a := v5) (by omega); omega
      have w6 : v6.toInt = aC A gg (I1 6).toInt.toNat := by rw [e21, i6]; rfl
      refine ok_if (fun c22 => ?_) (fun c22 => ?_)
      ·
        replace c22 := ti_ltP c22 rfl (show (0 : Int32).toInt = 0 from rfl)
        have b_I1_29 := tI_29 hI_I1
        exact t_add_82 (gg := gg)   (x1 := x1) (t0 := (0 : Int32)) (t1 := r3) hI_I1 hA (by decide) (by omega) (by have z0 : (0 : Int32).toInt = 0 := rfl; omega) q1 (by have z := ck0; unfold cK at z; omega) (by have z0 : (0 : Int32).toInt = 0 := rfl; omega) (by have z0 : (0 : Int32).toInt = 0 := rfl; omega) (fun h => ⟨by omega, fun D2 hD2 => by rw [TTd_u hb hD2 hd _ (by omega), if_pos (by omega)]; have zz := p_r3.2; have z0 : (0 : Int32).toInt = 0 := rfl; omega⟩)
      ·
        replace c22 := ti_ltN c22 rfl (show (0 : Int32).toInt = 0 from rfl)
        have b_I1_29 := tI_29 hI_I1
        exact t_add_82 (gg := gg)   (x1 := x1) (t0 := (1 : Int32)) (t1 := r3) hI_I1 hA (by decide) (by omega) (by have z0 : (1 : Int32).toInt = 1 := rfl; omega) q1 (by have z := ck0; unfold cK at z; omega) (by have z0 : (1 : Int32).toInt = 1 := rfl; omega) (by have z0 : (1 : Int32).toInt = 1 := rfl; omega) (fun h => ⟨by omega, fun D2 hD2 => by rw [TTd_u hb hD2 hd _ (by omega), if_neg (by omega)]; have zz := p_r3.2; have z0 : (1 : Int32).toInt = 1 := rfl; omega⟩)
  ·
    replace c17 := ti_leN c17 rfl (show (0 : Int32).toInt = 0 from rfl)
    exact ok_ret ⟨hI_I1, hA, (show (-1 : Int) ≤ (0 : Int32).toInt ∧ (0 : Int32).toInt ≤ (300 : Int) from (by decide)), (by show RIv I1 A; exact (RIv_mk (g := gg) q1 (by omega) (by have z := ck0; unfold cK at z; omega) (by omega)))⟩
theorem t_add_0 {gg : Nat} {I : Nat → Int32} {A : Nat → Nat → Int32} {x1 : Int32} (hI : TJ I) (hA : TK A) (q0 : (I 5).toInt = (gg : Int)) (q1 : TRE A gg) (q2 : (I 6).toInt ≤ (aK A gg : Int)) (q3 : (I 29).toInt ≤ 1999) : Ok (f_add_0 x1 I A) (fun o => TJ o.2.1 ∧ TK o.2.2 ∧ ((-1 : Int) ≤ o.1.toInt ∧ o.1.toInt ≤ (300 : Int)) ∧ (RIv o.2.1 o.2.2)) := by
  unfold f_add_0
  have b_I_0 := tI_0 hI
  have b_I_5 := tI_5 hI
  have b_I_6 := tI_6 hI
  have b_I_29 := tI_29 hI
  obtain ⟨r1, h_r1, p_r1⟩ := ro (t_isLegal (x1 := x1)  hI hA )
  refine ok_clR h_r1 ?_
  dsimp only at p_r1
  refine ok_if (fun c23 => ?_) (fun c23 => ?_)
  ·
    replace c23 := ti_eqP c23 rfl (show (0 : Int32).toInt = 0 from rfl)
    exact t_add_14 (gg := gg)   (x1 := x1) (t0 := (1 : Int32)) hI hA (by decide) q0 q1 q2 q3 (by have z0 : (1 : Int32).toInt = 1 := rfl; omega)
  ·
    replace c23 := ti_eqN c23 rfl (show (0 : Int32).toInt = 0 from rfl)
    exact t_add_14 (gg := gg)   (x1 := x1) (t0 := (0 : Int32)) hI hA (by decide) q0 q1 q2 q3 (by have z0 : (0 : Int32).toInt = 0 := rfl; omega)
theorem t_add {gg : Nat} {I : Nat → Int32} {A : Nat → Nat → Int32} {x1 : Int32} (hI : TJ I) (hA : TK A) (q0 : (I 5).toInt = (gg : Int)) (q1 : TRE A gg) (q2 : (I 6).toInt ≤ (aK A gg : Int)) (q3 : (I 29).toInt ≤ 1999) : Ok (f_add x1 I A) (fun o => TJ o.2.1 ∧ TK o.2.2 ∧ ((-1 : Int) ≤ o.1.toInt ∧ o.1.toInt ≤ (300 : Int)) ∧ (RIv o.2.1 o.2.2)) := t_add_0 (gg := gg) hI hA q0 q1 q2 q3
theorem t_lead_72s {gg : Nat} {I : Nat → Int32} {A : Nat → Nat → Int32} {self72 : Int32 → Int32 → Int32 → (Nat → Int32) → (Nat → Nat → Int32) → Option (Int32 × MS)} {N72 : Nat} (hself72 : ∀ (x1 : Int32) (x2 : Int32) (x3 : Int32) (I : Nat → Int32) (A : Nat → Nat → Int32), TJ I → TK A → ((0 : Int) ≤ x1.toInt ∧ x1.toInt ≤ (300 : Int)) → ((1 : Int) ≤ x2.toInt ∧ x2.toInt ≤ (300 : Int)) → ((1 : Int) ≤ x3.toInt ∧ x3.toInt ≤ (301 : Int)) → ((I 5).toInt = (gg : Int)) → (TRE A gg) → (1 ≤ (I 6).toInt ∧ (I 6).toInt ≤ (aK A gg : Int)) → ((I 29).toInt ≤ 1999) → (x1.toInt = aP A gg (I 6).toInt.toNat) → (x2.toInt = aC A gg x1.toInt.toNat) → (x2.toInt ≠ (I 6).toInt) → (chk6 A gg x2.toInt.toNat x3.toInt) → (302 - x3.toInt) < (N72 : Int) → Ok (self72 x1 x2 x3 I A) (fun o => TJ o.2.1 ∧ TK o.2.2 ∧ ((0 : Int) ≤ o.1.toInt ∧ o.1.toInt ≤ (1 : Int)) ∧ (RIv o.2.1 o.2.2))) {x1 : Int32} {x2 : Int32} {x3 : Int32} (hI : TJ I) (hA : TK A) (r_x1 : (0 : Int) ≤ x1.toInt ∧ x1.toInt ≤ (300 : Int)) (r_x2 : (1 : Int) ≤ x2.toInt ∧ x2.toInt ≤ (300 : Int)) (r_x3 : (1 : Int) ≤ x3.toInt ∧ x3.toInt ≤ (301 : Int)) (q0 : (I 5).toInt = (gg : Int)) (q1 : TRE A gg) (q2 : 1 ≤ (I 6).toInt ∧ (I 6).toInt ≤ (aK A gg : Int)) (q3 : (I 29).toInt ≤ 1999) (q4 : x1.toInt = aP A gg (I 6).toInt.toNat) (q5 : x2.toInt = aC A gg x1.toInt.toNat) (q6 : x2.toInt ≠ (I 6).toInt) (q7 : chk6 A gg x2.toInt.toNat x3.toInt) (m72 : (302 - x3.toInt) ≤ (N72 : Int)) : Ok (f_lead_72s self72 x1 x2 x3 I A) (fun o => TJ o.2.1 ∧ TK o.2.2 ∧ ((0 : Int) ≤ o.1.toInt ∧ o.1.toInt ≤ (1 : Int)) ∧ (RIv o.2.1 o.2.2)) := by
  unfold f_lead_72s
  have b_I_0 := tI_0 hI
  have b_I_5 := tI_5 hI
  have b_I_6 := tI_6 hI
  have b_I_29 := tI_29 hI
  have ck0 : cK A gg (aK A gg) := rfl
  have q1c := q1
  obtain ⟨hb, L, D, hl, hd⟩ := q1c
  refine ok_chk (ti_in (by omega) (by omega)) ?_
  refine ok_bnd (fun v1 e24 => ?_)
  have b_v1 := tA_7 hA (((I 5)).toNatClampNeg)
  rw [← e24] at b_v1
  have k7 := aK_ix hA q0
  rw [← e24] at k7
  refine ok_if (fun c25 => ?_) (fun c25 => ?_)
  ·
    replace c25 := ti_ltP c25 rfl rfl
    exact lead_fin hI hA q0 q1 q2 q3 q4 q5 q6 q7 (by omega)
  ·
    replace c25 := ti_ltN c25 rfl rfl
    obtain ⟨r2, h_r2, p_r2⟩ := ro (t_isBehind (x1 := x3) (x2 := x2)  hI hA (by omega) (by omega) (TRE_n q1) q0 (by omega) Iff.rfl)
    refine ok_clR h_r2 ?_
    dsimp only at p_r2
    refine ok_if (fun c26 => ?_) (fun c26 => ?_)
    ·
      replace c26 := ti_eqP c26 rfl (show (0 : Int32).toInt = 0 from rfl)
      unfold f_lead_115
      refine ok_bnd (fun v1 e27 => ?_)
      have t_v1 : v1.toInt = x3.toInt + 1 := ti_add e27 rfl (show (1 : Int32).toInt = 1 from rfl) (by omega) (by omega)
      exact hself72 x1 x2 v1 I A hI hA r_x1 r_x2 (by omega) q0 q1 q2 q3 q4 q5 q6 (chk6_up q7 t_v1 (fun h => absurd h (p_r2.2.2 (by omega)))) (by omega)
    ·
      replace c26 := ti_eqN c26 rfl (show (0 : Int32).toInt = 0 from rfl)
      obtain ⟨r3, h_r3, p_r3⟩ := ro (t_deepOf (x1 := (I 5)) (x2 := x3)  hI hA (by omega) (by omega) (TRE_n q1) q0 (by omega) hd rfl)
      refine ok_clR h_r3 ?_
      dsimp only at p_r3
      refine ok_if (fun c28 => ?_) (fun c28 => ?_)
      ·
        replace c28 := ti_eqP c28 rfl (show (6 : Int32).toInt = 6 from rfl)
        refine ok_bnd (fun I4 e29 => ?_)
        have hI_I4 : TJ I4 := e29.symm ▸ tj_u hI (k := 0) (show (0 : Int) ≤ (1 : Int32).toInt from (by decide)) (show (1 : Int32).toInt ≤ (2 : Int) from (by decide))
        have : (I4 0).toInt = 1 := by rw [e29]; exact (show (1 : Int32).toInt = 1 from rfl)
        have : (I4 5).toInt = (I 5).toInt := by rw [e29]; rfl
        have : (I4 6).toInt = (I 6).toInt := by rw [e29]; rfl
        have : (I4 29).toInt = (I 29).toInt := by rw [e29]; rfl
        refine ok_chk (by decide) ?_
        exact ok_ret ⟨hI_I4, hA, (show (0 : Int) ≤ (0 : Int32).toInt ∧ (0 : Int32).toInt ≤ (1 : Int) from (by decide)), (by show RIv I4 A; exact (RIv_mk (g := gg) q1 (by omega) (by have z := ck0; unfold cK at z; omega) (by omega)))⟩
      ·
        replace c28 := ti_eqN c28 rfl (show (6 : Int32).toInt = 6 from rfl)
        unfold f_lead_115
        refine ok_bnd (fun v1 e30 => ?_)
        have t_v1 : v1.toInt = x3.toInt + 1 := ti_add e30 rfl (show (1 : Int32).toInt = 1 from rfl) (by omega) (by omega)
        exact hself72 x1 x2 v1 I A hI hA r_x1 r_x2 (by omega) q0 q1 q2 q3 q4 q5 q6 (chk6_up q7 t_v1 (fun _ D2 hD2 => by rw [TTd_u hb hD2 hd _ (by omega)]; have zz := p_r3.2; omega)) (by omega)
theorem t_lead_72 {gg : Nat}  : ∀ (n : Nat) (x1 : Int32) (x2 : Int32) (x3 : Int32) (I : Nat → Int32) (A : Nat → Nat → Int32), TJ I → TK A → ((0 : Int) ≤ x1.toInt ∧ x1.toInt ≤ (300 : Int)) → ((1 : Int) ≤ x2.toInt ∧ x2.toInt ≤ (300 : Int)) → ((1 : Int) ≤ x3.toInt ∧ x3.toInt ≤ (301 : Int)) → ((I 5).toInt = (gg : Int)) → (TRE A gg) → (1 ≤ (I 6).toInt ∧ (I 6).toInt ≤ (aK A gg : Int)) → ((I 29).toInt ≤ 1999) → (x1.toInt = aP A gg (I 6).toInt.toNat) → (x2.toInt = aC A gg x1.toInt.toNat) → (x2.toInt ≠ (I 6).toInt) → (chk6 A gg x2.toInt.toNat x3.toInt) → (302 - x3.toInt) < (n : Int) → Ok (f_lead_72  n x1 x2 x3 I A) (fun o => TJ o.2.1 ∧ TK o.2.2 ∧ ((0 : Int) ≤ o.1.toInt ∧ o.1.toInt ≤ (1 : Int)) ∧ (RIv o.2.1 o.2.2)) := by
  intro n
  induction n with
  | zero => intro x1 x2 x3 I A hI hA g0 g1 g2 g3 g4 g5 g6 g7 g8 g9 g10  hm; exfalso; omega
  | succ n ih =>
    intro x1 x2 x3 I A hI hA g0 g1 g2 g3 g4 g5 g6 g7 g8 g9 g10  hm
    exact t_lead_72s (gg := gg)  (N72 := n)  ih hI hA g0 g1 g2 g3 g4 g5 g6 g7 g8 g9 g10  (by omega)
theorem t_lead_13 {gg : Nat} {I : Nat → Int32} {A : Nat → Nat → Int32} {t0 : Int32} (hI : TJ I) (hA : TK A) (r_t0 : (0 : Int) ≤ t0.toInt ∧ t0.toInt ≤ (1 : Int)) (q0 : (I 5).toInt = (gg : Int)) (q1 : TRE A gg) (q2 : (I 6).toInt ≤ (aK A gg : Int)) (q3 : (I 29).toInt ≤ 1999) (q4 : t0.toInt = 0 → 1 ≤ (I 6).toInt) : Ok (f_lead_13 t0 I A) (fun o => TJ o.2.1 ∧ TK o.2.2 ∧ ((0 : Int) ≤ o.1.toInt ∧ o.1.toInt ≤ (1 : Int)) ∧ (RIv o.2.1 o.2.2)) := by
  unfold f_lead_13
  have b_I_0 := tI_0 hI
  have b_I_5 := tI_5 hI
  have b_I_6 := tI_6 hI
  have b_I_29 := tI_29 hI
  have ck0 : cK A gg (aK A gg) := rfl
  refine ok_bnd (fun I1 e31 => ?_)
  have hI_I1 : TJ I1 := e31.symm ▸ tj_u hI (k := 0) (show (0 : Int) ≤ t0.toInt from (by omega)) (show t0.toInt ≤ (2 : Int) from (by omega))
  have : (I1 0).toInt = t0.toInt := by rw [e31]; exact rfl
  have : (I1 5).toInt = (I 5).toInt := by rw [e31]; rfl
  have : (I1 6).toInt = (I 6).toInt := by rw [e31]; rfl
  have : (I1 29).toInt = (I 29).toInt := by rw [e31]; rfl
  have b_I1_0 := tI_0 hI_I1
  refine ok_if (fun c32 => ?_) (fun c32 => ?_)
  ·
    replace c32 := ti_leP c32 rfl (show (0 : Int32).toInt = 0 from rfl)
    refine ok_bnd (fun v2 e33 => ?_)
    have b_I1_5 := tI_5 hI_I1
    have t_v2 : v2.toInt = 301 * (I1 5).toInt := ti_mul e33 (show (301 : Int32).toInt = 301 from rfl) rfl (by omega) (by omega)
    refine ok_bnd (fun v3 e34 => ?_)
    have b_I1_6 := tI_6 hI_I1
    have t_v3 : v3.toInt = v2.toInt + (I1 6).toInt := ti_add e34 rfl rfl (by omega) (by omega)
    refine ok_chk (ti_in (by omega) (by omega)) ?_
    refine ok_bnd (fun v4 e35 => ?_)
    have b_v4 := tA_8 hA ((v3).toNatClampNeg)
    rw [← e35] at b_v4
    have hf := first_ge (H := (I 6).toInt.toNat) q1 (by omega) (by omega)
    have i4 : v3.toNatClampNeg = 301 * gg + (I 6).toInt.toNat := by have := ti_nc (a := v3) (by omega); omega
    have w4 : v4.toInt = aP A gg (I 6).toInt.toNat := by rw [e35, i4]; rfl
    refine ok_bnd (fun v5 e36 => ?_)
    have t_v5 : v5.toInt = 301 * (I1 5).toInt := ti_mul e36 (show (301 : Int32).toInt = 301 from rfl) rfl (by omega) (by omega)
    refine ok_bnd (fun v6 e37 => ?_)
    have t_v6 : v6.toInt = v5.toInt + v4.toInt := ti_add e37 rfl rfl (by omega) (by omega)
    refine ok_chk (ti_in (by omega) (by omega)) ?_
    refine ok_bnd (fun v7 e38 => ?_)
    have b_v7 := tA_10 hA ((v6).toNatClampNeg)
    rw [← e38] at b_v7
    have i7 : v6.toNatClampNeg = 301 * gg + v4.toInt.toNat := by have := ti_nc (a := v6) (by omega); omega
    have w7 : v7.toInt = aC A gg v4.toInt.toNat := by rw [e38, i7]; rfl
    rw [← w4, ← w7] at hf
    have e6 : (I1 6).toInt.toNat = (I 6).toInt.toNat := by omega
    refine ok_if (fun c39 => ?_) (fun c39 => ?_)
    ·
      replace c39 := ti_eqP c39 rfl rfl
      refine ok_chk (by decide) ?_
      exact ok_ret ⟨hI_I1, hA, (show (0 : Int) ≤ (0 : Int32).toInt ∧ (0 : Int32).toInt ≤ (1 : Int) from (by decide)), (by show RIv I1 A; exact (RIv_mk (g := gg) q1 (by omega) (by have z := ck0; unfold cK at z; omega) (by omega)))⟩
    ·
      replace c39 := ti_eqN c39 rfl rfl
      have b_I1_29 := tI_29 hI_I1
      exact t_lead_72 (gg := gg)    mFuel v4 v7 (1 : Int32) I1 A hI_I1 hA (by omega) (by omega) (by decide) (by have z0 : (1 : Int32).toInt = 1 := rfl; omega) q1 (by have z0 : (1 : Int32).toInt = 1 := rfl; omega) (by have z0 : (1 : Int32).toInt = 1 := rfl; omega) (by rw [e6]; exact w4) w7 (by have z0 : (1 : Int32).toInt = 1 := rfl; omega) (fun k h1 h2 => by have z0 : (1 : Int32).toInt = 1 := rfl; omega) (by show _ < ((200000 : Nat) : Int); have z0 : (1 : Int32).toInt = 1 := rfl; omega)
  ·
    replace c32 := ti_leN c32 rfl (show (0 : Int32).toInt = 0 from rfl)
    refine ok_chk (by decide) ?_
    exact ok_ret ⟨hI_I1, hA, (show (0 : Int) ≤ (0 : Int32).toInt ∧ (0 : Int32).toInt ≤ (1 : Int) from (by decide)), (by show RIv I1 A; exact (RIv_mk (g := gg) q1 (by omega) (by have z := ck0; unfold cK at z; omega) (by omega)))⟩
theorem t_lead_0 {gg : Nat} {I : Nat → Int32} {A : Nat → Nat → Int32} (hI : TJ I) (hA : TK A) (q0 : (I 5).toInt = (gg : Int)) (q1 : TRE A gg) (q2 : (I 6).toInt ≤ (aK A gg : Int)) (q3 : (I 29).toInt ≤ 1999) : Ok (f_lead_0 I A) (fun o => TJ o.2.1 ∧ TK o.2.2 ∧ ((0 : Int) ≤ o.1.toInt ∧ o.1.toInt ≤ (1 : Int)) ∧ (RIv o.2.1 o.2.2)) := by
  unfold f_lead_0
  have b_I_0 := tI_0 hI
  have b_I_5 := tI_5 hI
  have b_I_6 := tI_6 hI
  have b_I_29 := tI_29 hI
  refine ok_if (fun c40 => ?_) (fun c40 => ?_)
  ·
    replace c40 := ti_eqP c40 rfl (show (0 : Int32).toInt = 0 from rfl)
    exact t_lead_13 (gg := gg)   (t0 := (1 : Int32)) hI hA (by decide) q0 q1 q2 q3 (by have z0 : (1 : Int32).toInt = 1 := rfl; omega)
  ·
    replace c40 := ti_eqN c40 rfl (show (0 : Int32).toInt = 0 from rfl)
    exact t_lead_13 (gg := gg)   (t0 := (0 : Int32)) hI hA (by decide) q0 q1 q2 q3 (by have z0 : (0 : Int32).toInt = 0 := rfl; omega)
theorem t_lead {gg : Nat} {I : Nat → Int32} {A : Nat → Nat → Int32}  (hI : TJ I) (hA : TK A) (q0 : (I 5).toInt = (gg : Int)) (q1 : TRE A gg) (q2 : (I 6).toInt ≤ (aK A gg : Int)) (q3 : (I 29).toInt ≤ 1999) : Ok (f_lead  I A) (fun o => TJ o.2.1 ∧ TK o.2.2 ∧ ((0 : Int) ≤ o.1.toInt ∧ o.1.toInt ≤ (1 : Int)) ∧ (RIv o.2.1 o.2.2)) := t_lead_0 (gg := gg) hI hA q0 q1 q2 q3
