/-- what holds of the reference between calls, beside the bounds of its numbers -/
def RIv (I : Nat → Int32) (A : Nat → Nat → Int32) : Prop := TRE A (I 5).toInt.toNat ∧ (I 6).toInt ≤ ((aK A (I 5).toInt.toNat : Nat) : Int) ∧ (I 29).toInt ≤ 1999
theorem RIv_mk {I : Nat → Int32} {A : Nat → Nat → Int32} {g : Nat} (h : TRE A g) (h5 : (I 5).toInt = (g : Int)) (h6 : (I 6).toInt ≤ (aK A g : Int)) (h29 : (I 29).toInt ≤ 1999) : RIv I A := by
  have e : (I 5).toInt.toNat = g := by omega
  unfold RIv
  rw [e]
  exact ⟨h, h6, h29⟩
theorem t_readGame_154 {gg hh nb : Nat} {I : Nat → Int32} {A : Nat → Nat → Int32} {t0 : Int32} {t1 : Int32} (hI : TJ I) (hA : TK A) (r_t0 : (1 : Int) ≤ t0.toInt ∧ t0.toInt ≤ (7 : Int)) (r_t1 : (0 : Int) ≤ t1.toInt ∧ t1.toInt ≤ (2000 : Int)) (q0 : TRE A gg) (q1 : TRH A hh nb) : Ok (f_readGame_154 t0 t1 I A) (fun o => TJ o.2.1 ∧ TK o.2.2 ∧ ((0 : Int) ≤ o.1.toInt ∧ o.1.toInt ≤ (92100 : Int)) ∧ (TRE o.2.2 gg) ∧ (TRH o.2.2 hh nb)) := by
  unfold f_readGame_154
  have b_I_1 := tI_1 hI
  have b_I_37 := tI_37 hI
  have b_I_29 := tI_29 hI
  refine ok_bnd (fun v1 e1 => ?_)
  have t_v1 : v1.toInt = t1.toInt + t0.toInt := ti_add e1 rfl rfl (by omega) (by omega)
  refine ok_bnd (fun I2 e2 => ?_)
  have hI_I2 : TJ I2 := e2.symm ▸ tj_u hI (k := 37) (show (0 : Int) ≤ v1.toInt from (by omega)) (show v1.toInt ≤ (2100 : Int) from (by omega))
  have : (I2 1).toInt = (I 1).toInt := by rw [e2]; rfl
  have : (I2 37).toInt = v1.toInt := by rw [e2]; exact rfl
  have : (I2 29).toInt = (I 29).toInt := by rw [e2]; rfl
  have b_I2_1 := tI_1 hI_I2
  have b_I2_37 := tI_37 hI_I2
  obtain ⟨⟨r3, Ic3, Ac3⟩, h_r3, hI_Ic3, hA_Ac3, p_r3_0⟩ := t_blanks   hI_I2 hA (show (I2 37).toInt ≤ (I2 37).toInt ∧ (I2 37).toInt ≤ 2100 ∧ (I2 1).toInt ≤ 2100 from ⟨Int.le_refl _, by omega, by omega⟩)
  replace hI_Ic3 : TJ Ic3 := hI_Ic3
  replace hA_Ac3 : TK Ac3 := hA_Ac3
  dsimp only at p_r3_0
  refine ok_clR h_r3 ?_
  have f_r3 := fw_blanks h_r3
  have : (Ic3 1).toInt = (I2 1).toInt := congrArg Int32.toInt (f_r3.1 1 (by decide))
  have : (Ic3 29).toInt = (I2 29).toInt := congrArg Int32.toInt (f_r3.1 29 (by decide))
  have k3 : TRE Ac3 gg := TRE_fr (f_r3.2 7 (by decide)) (f_r3.2 8 (by decide)) (f_r3.2 9 (by decide)) (f_r3.2 10 (by decide)) (f_r3.2 11 (by decide)) q0
  have k4 : TRH Ac3 hh nb := TRH_fr (f_r3.2 7 (by decide)) (f_r3.2 8 (by decide)) (f_r3.2 9 (by decide)) (f_r3.2 10 (by decide)) (f_r3.2 11 (by decide)) q1
  have b_Ic3_1 := tI_1 hI_Ic3
  have b_Ic3_37 := tI_37 hI_Ic3
  refine ok_if (fun c5 => ?_) (fun c5 => ?_)
  ·
    replace c5 := ti_leP c5 rfl rfl
    unfold f_readGame_185
    exact ok_ret ⟨hI_Ic3, hA_Ac3, (show (0 : Int) ≤ (0 : Int32).toInt ∧ (0 : Int32).toInt ≤ (92100 : Int) from (by decide)), k3, k4⟩
  ·
    replace c5 := ti_leN c5 rfl rfl
    obtain ⟨r4, h_r4, p_r4⟩ := ro (t_fault (x0 := (1 : Int32)) (x1 := (Ic3 37))  hI_Ic3 hA_Ac3 (by decide) (by omega))
    refine ok_clR h_r4 ?_
    dsimp only at p_r4
    unfold f_readGame_185
    exact ok_ret ⟨hI_Ic3, hA_Ac3, (show (0 : Int) ≤ r4.toInt ∧ r4.toInt ≤ (92100 : Int) from (by omega)), k3, k4⟩
theorem t_readGame_117 {gg hh nb : Nat} {I : Nat → Int32} {A : Nat → Nat → Int32} {self74 : Int32 → Int32 → Int32 → (Nat → Int32) → (Nat → Nat → Int32) → Option (Int32 × MS)} {N74 : Nat} (hself74 : ∀ (x1 : Int32) (x3 : Int32) (x4 : Int32) (I : Nat → Int32) (A : Nat → Nat → Int32), TJ I → TK A → ((0 : Int) ≤ x1.toInt ∧ x1.toInt ≤ (1 : Int)) → ((-1 : Int) ≤ x3.toInt ∧ x3.toInt ≤ (3 : Int)) → ((0 : Int) ≤ x4.toInt ∧ x4.toInt ≤ (8 : Int)) → (TRE A gg) → (TRH A hh nb) → ((I 37).toInt ≤ (I 1).toInt) → (9 - x4.toInt) < (N74 : Int) → Ok (self74 x1 x3 x4 I A) (fun o => TJ o.2.1 ∧ TK o.2.2 ∧ ((0 : Int) ≤ o.1.toInt ∧ o.1.toInt ≤ (92100 : Int)) ∧ (TRE o.2.2 gg) ∧ (TRH o.2.2 hh nb))) {x1 : Int32} {x3 : Int32} {x4 : Int32} (hI : TJ I) (hA : TK A) (r_x1 : (0 : Int) ≤ x1.toInt ∧ x1.toInt ≤ (1 : Int)) (r_x3 : (-1 : Int) ≤ x3.toInt ∧ x3.toInt ≤ (3 : Int)) (r_x4 : (0 : Int) ≤ x4.toInt ∧ x4.toInt ≤ (7 : Int)) (q0 : TRE A gg) (q1 : TRH A hh nb) (q2 : (I 37).toInt ≤ (I 1).toInt) (m74 : (9 - x4.toInt) ≤ (N74 : Int)) : Ok (f_readGame_117 self74 x1 x3 x4 I A) (fun o => TJ o.2.1 ∧ TK o.2.2 ∧ ((0 : Int) ≤ o.1.toInt ∧ o.1.toInt ≤ (92100 : Int)) ∧ (TRE o.2.2 gg) ∧ (TRH o.2.2 hh nb)) := by
  unfold f_readGame_117
  have b_I_1 := tI_1 hI
  have b_I_37 := tI_37 hI
  have b_I_29 := tI_29 hI
  refine ok_bnd (fun v1 e6 => ?_)
  have t_v1 : v1.toInt = x4.toInt + 1 := ti_add e6 rfl (show (1 : Int32).toInt = 1 from rfl) (by omega) (by omega)
  exact hself74 x1 x3 v1 I A hI hA r_x1 r_x3 (by omega) q0 q1 q2 (by omega)
theorem t_readGame_74s {gg hh nb : Nat} {I : Nat → Int32} {A : Nat → Nat → Int32} {self74 : Int32 → Int32 → Int32 → (Nat → Int32) → (Nat → Nat → Int32) → Option (Int32 × MS)} {N74 : Nat} (hself74 : ∀ (x1 : Int32) (x3 : Int32) (x4 : Int32) (I : Nat → Int32) (A : Nat → Nat → Int32), TJ I → TK A → ((0 : Int) ≤ x1.toInt ∧ x1.toInt ≤ (1 : Int)) → ((-1 : Int) ≤ x3.toInt ∧ x3.toInt ≤ (3 : Int)) → ((0 : Int) ≤ x4.toInt ∧ x4.toInt ≤ (8 : Int)) → (TRE A gg) → (TRH A hh nb) → ((I 37).toInt ≤ (I 1).toInt) → (9 - x4.toInt) < (N74 : Int) → Ok (self74 x1 x3 x4 I A) (fun o => TJ o.2.1 ∧ TK o.2.2 ∧ ((0 : Int) ≤ o.1.toInt ∧ o.1.toInt ≤ (92100 : Int)) ∧ (TRE o.2.2 gg) ∧ (TRH o.2.2 hh nb))) {x1 : Int32} {x3 : Int32} {x4 : Int32} (hI : TJ I) (hA : TK A) (r_x1 : (0 : Int) ≤ x1.toInt ∧ x1.toInt ≤ (1 : Int)) (r_x3 : (-1 : Int) ≤ x3.toInt ∧ x3.toInt ≤ (3 : Int)) (r_x4 : (0 : Int) ≤ x4.toInt ∧ x4.toInt ≤ (8 : Int)) (q0 : TRE A gg) (q1 : TRH A hh nb) (q2 : (I 37).toInt ≤ (I 1).toInt) (m74 : (9 - x4.toInt) ≤ (N74 : Int)) : Ok (f_readGame_74s self74 x1 x3 x4 I A) (fun o => TJ o.2.1 ∧ TK o.2.2 ∧ ((0 : Int) ≤ o.1.toInt ∧ o.1.toInt ≤ (92100 : Int)) ∧ (TRE o.2.2 gg) ∧ (TRH o.2.2 hh nb)) := by
  unfold f_readGame_74s
  have b_I_1 := tI_1 hI
  have b_I_37 := tI_37 hI
  have b_I_29 := tI_29 hI
  refine ok_chk (ti_in (by omega) (by omega)) ?_
  refine ok_bnd (fun v1 e7 => ?_)
  have b_v1 := tA_18 hA ((x1).toNatClampNeg)
  rw [← e7] at b_v1
  refine ok_if (fun c8 => ?_) (fun c8 => ?_)
  ·
    replace c8 := ti_leP c8 rfl rfl
    refine ok_chk (ti_in (by omega) (by omega)) ?_
    refine ok_bnd (fun A2 e9 => ?_)
    have hA_A2 : TK A2 := e9.symm ▸ tk_u hA (j := 23) (show (-1 : Int) ≤ x3.toInt from (by omega)) (show x3.toInt ≤ (3 : Int) from (by omega))
    have k10 : TRE A2 gg := TRE_fr (show A2 7 = A 7 by rw [e9]; exact va_up_ne _ _ (by decide)) (show A2 8 = A 8 by rw [e9]; exact va_up_ne _ _ (by decide)) (show A2 9 = A 9 by rw [e9]; exact va_up_ne _ _ (by decide)) (show A2 10 = A 10 by rw [e9]; exact va_up_ne _ _ (by decide)) (show A2 11 = A 11 by rw [e9]; exact va_up_ne _ _ (by decide)) q0
    have k11 : TRH A2 hh nb := TRH_fr (show A2 7 = A 7 by rw [e9]; exact va_up_ne _ _ (by decide)) (show A2 8 = A 8 by rw [e9]; exact va_up_ne _ _ (by decide)) (show A2 9 = A 9 by rw [e9]; exact va_up_ne _ _ (by decide)) (show A2 10 = A 10 by rw [e9]; exact va_up_ne _ _ (by decide)) (show A2 11 = A 11 by rw [e9]; exact va_up_ne _ _ (by decide)) q1
    refine ok_if (fun c12 => ?_) (fun c12 => ?_)
    ·
      replace c12 := ti_eqP c12 rfl (show (0 : Int32).toInt = 0 from rfl)
      exact t_readGame_154 (gg := gg) (hh := hh) (nb := nb)   (t0 := (1 : Int32)) (t1 := (I 37)) hI hA_A2 (by decide) (by omega) k10 k11
    ·
      replace c12 := ti_eqN c12 rfl (show (0 : Int32).toInt = 0 from rfl)
      refine ok_if (fun c13 => ?_) (fun c13 => ?_)
      ·
        replace c13 := ti_eqP c13 rfl (show (3 : Int32).toInt = 3 from rfl)
        exact t_readGame_154 (gg := gg) (hh := hh) (nb := nb)   (t0 := (7 : Int32)) (t1 := (I 37)) hI hA_A2 (by decide) (by omega) k10 k11
      ·
        replace c13 := ti_eqN c13 rfl (show (3 : Int32).toInt = 3 from rfl)
        exact t_readGame_154 (gg := gg) (hh := hh) (nb := nb)   (t0 := (3 : Int32)) (t1 := (I 37)) hI hA_A2 (by decide) (by omega) k10 k11
  ·
    replace c8 := ti_leN c8 rfl rfl
    obtain ⟨r3, h_r3, p_r3⟩ := ro (t_isTag (x1 := x4) (x2 := x1) (x3 := (1 : Int32))  hI hA (by omega) r_x1 (by decide))
    refine ok_clR h_r3 ?_
    dsimp only at p_r3
    refine ok_if (fun c14 => ?_) (fun c14 => ?_)
    ·
      replace c14 := ti_eqP c14 rfl (show (0 : Int32).toInt = 0 from rfl)
      exact t_readGame_117 (gg := gg) (hh := hh) (nb := nb)  hself74 (x1 := x1) (x3 := x3) (x4 := x4) hI hA r_x1 r_x3 (by omega) q0 q1 q2 m74
    ·
      replace c14 := ti_eqN c14 rfl (show (0 : Int32).toInt = 0 from rfl)
      obtain ⟨r4, h_r4, p_r4⟩ := ro (t_isResultValue (x1 := x1) (x2 := x4) (x3 := x3)  hI hA r_x1 (by omega))
      refine ok_clR h_r4 ?_
      dsimp only at p_r4
      refine ok_if (fun c15 => ?_) (fun c15 => ?_)
      ·
        replace c15 := ti_eqP c15 rfl (show (0 : Int32).toInt = 0 from rfl)
        obtain ⟨r5, h_r5, p_r5⟩ := ro (t_fault (x0 := (9 : Int32)) (x1 := (I 37))  hI hA (by decide) (by omega))
        refine ok_clR h_r5 ?_
        dsimp only at p_r5
        exact ok_ret ⟨hI, hA, (show (0 : Int) ≤ r5.toInt ∧ r5.toInt ≤ (92100 : Int) from (by omega)), q0, q1⟩
      ·
        replace c15 := ti_eqN c15 rfl (show (0 : Int32).toInt = 0 from rfl)
        exact t_readGame_117 (gg := gg) (hh := hh) (nb := nb)  hself74 (x1 := x1) (x3 := x3) (x4 := x4) hI hA r_x1 r_x3 (by omega) q0 q1 q2 m74
theorem t_readGame_74 {gg hh nb : Nat}  : ∀ (n : Nat) (x1 : Int32) (x3 : Int32) (x4 : Int32) (I : Nat → Int32) (A : Nat → Nat → Int32), TJ I → TK A → ((0 : Int) ≤ x1.toInt ∧ x1.toInt ≤ (1 : Int)) → ((-1 : Int) ≤ x3.toInt ∧ x3.toInt ≤ (3 : Int)) → ((0 : Int) ≤ x4.toInt ∧ x4.toInt ≤ (8 : Int)) → (TRE A gg) → (TRH A hh nb) → ((I 37).toInt ≤ (I 1).toInt) → (9 - x4.toInt) < (n : Int) → Ok (f_readGame_74  n x1 x3 x4 I A) (fun o => TJ o.2.1 ∧ TK o.2.2 ∧ ((0 : Int) ≤ o.1.toInt ∧ o.1.toInt ≤ (92100 : Int)) ∧ (TRE o.2.2 gg) ∧ (TRH o.2.2 hh nb)) := by
  intro n
  induction n with
  | zero => intro x1 x3 x4 I A hI hA g0 g1 g2 g3 g4 g5  hm; exfalso; omega
  | succ n ih =>
    intro x1 x3 x4 I A hI hA g0 g1 g2 g3 g4 g5  hm
    exact t_readGame_74s (gg := gg) (hh := hh) (nb := nb)  (N74 := n)  ih hI hA g0 g1 g2 g3 g4 g5  (by omega)
theorem t_readGame_59 {gg hh nb : Nat} {I : Nat → Int32} {A : Nat → Nat → Int32} {x1 : Int32} {t0 : Int32} (hI : TJ I) (hA : TK A) (r_x1 : (0 : Int) ≤ x1.toInt ∧ x1.toInt ≤ (1 : Int)) (r_t0 : (0 : Int) ≤ t0.toInt ∧ t0.toInt ≤ (92100 : Int)) (q0 : TRE A gg) (q1 : TRH A hh nb) (q2 : (I 37).toInt ≤ (I 1).toInt) : Ok (f_readGame_59 x1 t0 I A) (fun o => TJ o.2.1 ∧ TK o.2.2 ∧ ((0 : Int) ≤ o.1.toInt ∧ o.1.toInt ≤ (92100 : Int)) ∧ (TRE o.2.2 gg) ∧ (TRH o.2.2 hh nb)) := by
  unfold f_readGame_59
  have b_I_1 := tI_1 hI
  have b_I_37 := tI_37 hI
  have b_I_29 := tI_29 hI
  refine ok_if (fun c16 => ?_) (fun c16 => ?_)
  ·
    replace c16 := ti_leP c16 rfl (show (0 : Int32).toInt = 0 from rfl)
    obtain ⟨r1, h_r1, p_r1⟩ := ro (t_resultHere   hI hA )
    refine ok_clR h_r1 ?_
    dsimp only at p_r1
    exact t_readGame_74 (gg := gg) (hh := hh) (nb := nb)    mFuel x1 r1 (0 : Int32) I A hI hA r_x1 (by omega) (by decide) q0 q1 q2 (by show _ < ((200000 : Nat) : Int); have z0 : (0 : Int32).toInt = 0 := rfl; omega)
  ·
    replace c16 := ti_leN c16 rfl (show (0 : Int32).toInt = 0 from rfl)
    exact ok_ret ⟨hI, hA, (show (0 : Int) ≤ t0.toInt ∧ t0.toInt ≤ (92100 : Int) from (by omega)), q0, q1⟩
theorem t_readGame_9s {gg hh nb : Nat} {I : Nat → Int32} {A : Nat → Nat → Int32} {self9 : Int32 → (Nat → Int32) → (Nat → Nat → Int32) → Option (Int32 × MS)} {N9 : Nat} (hself9 : ∀ (x1 : Int32) (I : Nat → Int32) (A : Nat → Nat → Int32), TJ I → TK A → ((0 : Int) ≤ x1.toInt ∧ x1.toInt ≤ (1 : Int)) → ((I 37).toInt ≤ (I 1).toInt) → ((I 29).toInt ≤ 1999) → (TRE A gg) → (TRH A hh nb) → (x1.toInt = (gg : Int)) → (hh ≤ 1 ∧ hh ≠ gg) → (lnk A gg 0 0) → (leaf A gg 0) → ((I 1).toInt - (I 37).toInt) < (N9 : Int) → Ok (self9 x1 I A) (fun o => TJ o.2.1 ∧ TK o.2.2 ∧ ((0 : Int) ≤ o.1.toInt ∧ o.1.toInt ≤ (92100 : Int)) ∧ (TRE o.2.2 gg) ∧ (TRH o.2.2 hh nb))) {x1 : Int32} (hI : TJ I) (hA : TK A) (r_x1 : (0 : Int) ≤ x1.toInt ∧ x1.toInt ≤ (1 : Int)) (q0 : (I 37).toInt ≤ (I 1).toInt) (q1 : (I 29).toInt ≤ 1999) (q2 : TRE A gg) (q3 : TRH A hh nb) (q4 : x1.toInt = (gg : Int)) (q5 : hh ≤ 1 ∧ hh ≠ gg) (q6 : lnk A gg 0 0) (q7 : leaf A gg 0) (m9 : ((I 1).toInt - (I 37).toInt) ≤ (N9 : Int)) : Ok (f_readGame_9s self9 x1 I A) (fun o => TJ o.2.1 ∧ TK o.2.2 ∧ ((0 : Int) ≤ o.1.toInt ∧ o.1.toInt ≤ (92100 : Int)) ∧ (TRE o.2.2 gg) ∧ (TRH o.2.2 hh nb)) := by
  unfold f_readGame_9s
  have b_I_1 := tI_1 hI
  have b_I_37 := tI_37 hI
  have b_I_29 := tI_29 hI
  obtain ⟨r1, h_r1, p_r1⟩ := ro (t_look   hI hA )
  refine ok_clR h_r1 ?_
  dsimp only at p_r1
  refine ok_if (fun c17 => ?_) (fun c17 => ?_)
  ·
    replace c17 := ti_eqP c17 rfl (show (91 : Int32).toInt = 91 from rfl)
    obtain ⟨⟨r4, Ic4, Ac4⟩, h_r4, hI_Ic4, hA_Ac4, p_r4, p_r4_0, p_r4_1⟩ := t_readTag (x1 := x1)  hI hA r_x1 (by omega) (show (I 37).toInt ≤ (I 37).toInt from Int.le_refl _) q1
    replace hI_Ic4 : TJ Ic4 := hI_Ic4
    replace hA_Ac4 : TK Ac4 := hA_Ac4
    dsimp only at p_r4 p_r4_0 p_r4_1
    refine ok_clR h_r4 ?_
    have f_r4 := fw_readTag h_r4
    have : (Ic4 1).toInt = (I 1).toInt := congrArg Int32.toInt (f_r4.1 1 (by decide))
    have k18 : TRE Ac4 gg := TRE_fr (f_r4.2 7 (by decide)) (f_r4.2 8 (by decide)) (f_r4.2 9 (by decide)) (f_r4.2 10 (by decide)) (f_r4.2 11 (by decide)) q2
    have k19 : TRH Ac4 hh nb := TRH_fr (f_r4.2 7 (by decide)) (f_r4.2 8 (by decide)) (f_r4.2 9 (by decide)) (f_r4.2 10 (by decide)) (f_r4.2 11 (by decide)) q3
    have k20 : lnk Ac4 gg 0 0 := lnk_fr (f_r4.2 7 (by decide)) (f_r4.2 8 (by decide)) (f_r4.2 10 (by decide)) q6
    have k21 : leaf Ac4 gg 0 := leaf_fr (f_r4.2 10 (by decide)) q7
    refine ok_if (fun c22 => ?_) (fun c22 => ?_)
    ·
      replace c22 := ti_leP c22 rfl (show (0 : Int32).toInt = 0 from rfl)
      have b_Ic4_1 := tI_1 hI_Ic4
      have b_Ic4_37 := tI_37 hI_Ic4
      obtain ⟨⟨r5, Ic5, Ac5⟩, h_r5, hI_Ic5, hA_Ac5, p_r5_0⟩ := t_blanks   hI_Ic4 hA_Ac4 (show (Ic4 37).toInt ≤ (Ic4 37).toInt ∧ (Ic4 37).toInt ≤ (Ic4 1).toInt ∧ (Ic4 1).toInt ≤ (Ic4 1).toInt from ⟨Int.le_refl _, by omega, Int.le_refl _⟩)
      replace hI_Ic5 : TJ Ic5 := hI_Ic5
      replace hA_Ac5 : TK Ac5 := hA_Ac5
      dsimp only at p_r5_0
      refine ok_clR h_r5 ?_
      have f_r5 := fw_blanks h_r5
      have : (Ic5 1).toInt = (Ic4 1).toInt := congrArg Int32.toInt (f_r5.1 1 (by decide))
      have : (Ic5 29).toInt = (Ic4 29).toInt := congrArg Int32.toInt (f_r5.1 29 (by decide))
      have k23 : TRE Ac5 gg := TRE_fr (f_r5.2 7 (by decide)) (f_r5.2 8 (by decide)) (f_r5.2 9 (by decide)) (f_r5.2 10 (by decide)) (f_r5.2 11 (by decide)) k18
      have k24 : TRH Ac5 hh nb := TRH_fr (f_r5.2 7 (by decide)) (f_r5.2 8 (by decide)) (f_r5.2 9 (by decide)) (f_r5.2 10 (by decide)) (f_r5.2 11 (by decide)) k19
      have k25 : lnk Ac5 gg 0 0 := lnk_fr (f_r5.2 7 (by decide)) (f_r5.2 8 (by decide)) (f_r5.2 10 (by decide)) k20
      have k26 : leaf Ac5 gg 0 := leaf_fr (f_r5.2 10 (by decide)) k21
      have b_Ic5_1 := tI_1 hI_Ic5
      have b_Ic5_37 := tI_37 hI_Ic5
      have b_Ic5_29 := tI_29 hI_Ic5
      exact hself9 x1 Ic5 Ac5 hI_Ic5 hA_Ac5 r_x1 (by omega) (by omega) k23 k24 q4 q5 k25 k26 (by omega)
    ·
      replace c22 := ti_leN c22 rfl (show (0 : Int32).toInt = 0 from rfl)
      exact ok_ret ⟨hI_Ic4, hA_Ac4, (show (0 : Int) ≤ r4.toInt ∧ r4.toInt ≤ (92100 : Int) from (by omega)), k18, k19⟩
  ·
    replace c17 := ti_eqN c17 rfl (show (91 : Int32).toInt = 91 from rfl)
    obtain ⟨⟨r2, Ic2, Ac2⟩, h_r2, hI_Ic2, hA_Ac2, p_r2, p_r2_0⟩ := t_readRemarks (x1 := x1) (x2 := (0 : Int32))  hI hA r_x1 (by decide) q0 (show (I 37).toInt ≤ (I 37).toInt from Int.le_refl _)
    replace hI_Ic2 : TJ Ic2 := hI_Ic2
    replace hA_Ac2 : TK Ac2 := hA_Ac2
    dsimp only at p_r2 p_r2_0
    refine ok_clR h_r2 ?_
    have f_r2 := fw_readRemarks h_r2
    have : (Ic2 1).toInt = (I 1).toInt := congrArg Int32.toInt (f_r2.1 1 (by decide))
    have : (Ic2 29).toInt = (I 29).toInt := congrArg Int32.toInt (f_r2.1 29 (by decide))
    have k27 : TRE Ac2 gg := TRE_fr (f_r2.2 7 (by decide)) (f_r2.2 8 (by decide)) (f_r2.2 9 (by decide)) (f_r2.2 10 (by decide)) (f_r2.2 11 (by decide)) q2
    have k28 : TRH Ac2 hh nb := TRH_fr (f_r2.2 7 (by decide)) (f_r2.2 8 (by decide)) (f_r2.2 9 (by decide)) (f_r2.2 10 (by decide)) (f_r2.2 11 (by decide)) q3
    have k29 : lnk Ac2 gg 0 0 := lnk_fr (f_r2.2 7 (by decide)) (f_r2.2 8 (by decide)) (f_r2.2 10 (by decide)) q6
    have k30 : leaf Ac2 gg 0 := leaf_fr (f_r2.2 10 (by decide)) q7
    refine ok_if (fun c31 => ?_) (fun c31 => ?_)
    ·
      replace c31 := ti_leP c31 rfl (show (0 : Int32).toInt = 0 from rfl)
      have b_Ic2_1 := tI_1 hI_Ic2
      have b_Ic2_37 := tI_37 hI_Ic2
      obtain ⟨⟨r3, Ic3, Ac3⟩, h_r3, hI_Ic3, hA_Ac3, p_r3, p_r3_0, p_r3_1, p_r3_2, p_r3_3, p_r3_4⟩ := t_readLine (x1 := x1) (x2 := (0 : Int32)) (x3 := (0 : Int32)) (gg := gg) (hh := hh) (nb := nb) (aa := (Ic2 37).toInt) (A0 := Ac2) (nd := 0) hI_Ic2 hA_Ac2 r_x1 (by decide) (by decide) (by have z0 : (0 : Int32).toInt = 0 := rfl; have z1 : (0 : Int32).toInt = 0 := rfl; omega) (by have z0 : (0 : Int32).toInt = 0 := rfl; have z1 : (0 : Int32).toInt = 0 := rfl; omega) k27 k28 EX_refl q4 q5 (Or.inl rfl) (apd_leaf k29 k30)
      replace hI_Ic3 : TJ Ic3 := hI_Ic3
      replace hA_Ac3 : TK Ac3 := hA_Ac3
      dsimp only at p_r3 p_r3_0 p_r3_1 p_r3_2 p_r3_3 p_r3_4
      refine ok_clR h_r3 ?_
      have f_r3 := fw_readLine h_r3
      have : (Ic3 1).toInt = (Ic2 1).toInt := congrArg Int32.toInt (f_r3.1 1 (by decide))
      have b_Ic3_1 := tI_1 hI_Ic3
      have b_Ic3_37 := tI_37 hI_Ic3
      exact t_readGame_59 (gg := gg) (hh := hh) (nb := nb)   (x1 := x1) (t0 := r3) hI_Ic3 hA_Ac3 r_x1 (by omega) p_r3_2 p_r3_3 (by omega)
    ·
      replace c31 := ti_leN c31 rfl (show (0 : Int32).toInt = 0 from rfl)
      have b_Ic2_1 := tI_1 hI_Ic2
      have b_Ic2_37 := tI_37 hI_Ic2
      exact t_readGame_59 (gg := gg) (hh := hh) (nb := nb)   (x1 := x1) (t0 := r2) hI_Ic2 hA_Ac2 r_x1 (by omega) k27 k28 (by omega)
theorem t_readGame_9 {gg hh nb : Nat}  : ∀ (n : Nat) (x1 : Int32) (I : Nat → Int32) (A : Nat → Nat → Int32), TJ I → TK A → ((0 : Int) ≤ x1.toInt ∧ x1.toInt ≤ (1 : Int)) → ((I 37).toInt ≤ (I 1).toInt) → ((I 29).toInt ≤ 1999) → (TRE A gg) → (TRH A hh nb) → (x1.toInt = (gg : Int)) → (hh ≤ 1 ∧ hh ≠ gg) → (lnk A gg 0 0) → (leaf A gg 0) → ((I 1).toInt - (I 37).toInt) < (n : Int) → Ok (f_readGame_9  n x1 I A) (fun o => TJ o.2.1 ∧ TK o.2.2 ∧ ((0 : Int) ≤ o.1.toInt ∧ o.1.toInt ≤ (92100 : Int)) ∧ (TRE o.2.2 gg) ∧ (TRH o.2.2 hh nb)) := by
  intro n
  induction n with
  | zero => intro x1 I A hI hA g0 g1 g2 g3 g4 g5 g6 g7 g8  hm; exfalso; omega
  | succ n ih =>
    intro x1 I A hI hA g0 g1 g2 g3 g4 g5 g6 g7 g8  hm
    exact t_readGame_9s (gg := gg) (hh := hh) (nb := nb)  (N9 := n)  ih hI hA g0 g1 g2 g3 g4 g5 g6 g7 g8  (by omega)
theorem t_readGame_0 {gg hh nb : Nat} {I : Nat → Int32} {A : Nat → Nat → Int32} {x1 : Int32} (hI : TJ I) (hA : TK A) (r_x1 : (0 : Int) ≤ x1.toInt ∧ x1.toInt ≤ (1 : Int)) (q0 : (I 29).toInt ≤ 1999) (q1 : TRE A gg) (q2 : TRH A hh nb) (q3 : x1.toInt = (gg : Int)) (q4 : hh ≤ 1 ∧ hh ≠ gg) (q5 : lnk A gg 0 0) (q6 : leaf A gg 0) : Ok (f_readGame_0 x1 I A) (fun o => TJ o.2.1 ∧ TK o.2.2 ∧ ((0 : Int) ≤ o.1.toInt ∧ o.1.toInt ≤ (92100 : Int)) ∧ (TRE o.2.2 gg) ∧ (TRH o.2.2 hh nb)) := by
  unfold f_readGame_0
  have b_I_1 := tI_1 hI
  have b_I_37 := tI_37 hI
  have b_I_29 := tI_29 hI
  refine ok_bnd (fun I1 e32 => ?_)
  have hI_I1 : TJ I1 := e32.symm ▸ tj_u hI (k := 37) (show (0 : Int) ≤ (0 : Int32).toInt from (by decide)) (show (0 : Int32).toInt ≤ (2100 : Int) from (by decide))
  have : (I1 1).toInt = (I 1).toInt := by rw [e32]; rfl
  have : (I1 37).toInt = 0 := by rw [e32]; exact (show (0 : Int32).toInt = 0 from rfl)
  have : (I1 29).toInt = (I 29).toInt := by rw [e32]; rfl
  have b_I1_1 := tI_1 hI_I1
  have b_I1_37 := tI_37 hI_I1
  obtain ⟨⟨r2, Ic2, Ac2⟩, h_r2, hI_Ic2, hA_Ac2, p_r2_0⟩ := t_blanks   hI_I1 hA (show (I1 37).toInt ≤ (I1 37).toInt ∧ (I1 37).toInt ≤ (I1 1).toInt ∧ (I1 1).toInt ≤ (I1 1).toInt from ⟨Int.le_refl _, by omega, Int.le_refl _⟩)
  replace hI_Ic2 : TJ Ic2 := hI_Ic2
  replace hA_Ac2 : TK Ac2 := hA_Ac2
  dsimp only at p_r2_0
  refine ok_clR h_r2 ?_
  have f_r2 := fw_blanks h_r2
  have : (Ic2 1).toInt = (I1 1).toInt := congrArg Int32.toInt (f_r2.1 1 (by decide))
  have : (Ic2 29).toInt = (I1 29).toInt := congrArg Int32.toInt (f_r2.1 29 (by decide))
  have k33 : TRE Ac2 gg := TRE_fr (f_r2.2 7 (by decide)) (f_r2.2 8 (by decide)) (f_r2.2 9 (by decide)) (f_r2.2 10 (by decide)) (f_r2.2 11 (by decide)) q1
  have k34 : TRH Ac2 hh nb := TRH_fr (f_r2.2 7 (by decide)) (f_r2.2 8 (by decide)) (f_r2.2 9 (by decide)) (f_r2.2 10 (by decide)) (f_r2.2 11 (by decide)) q2
  have k35 : lnk Ac2 gg 0 0 := lnk_fr (f_r2.2 7 (by decide)) (f_r2.2 8 (by decide)) (f_r2.2 10 (by decide)) q5
  have k36 : leaf Ac2 gg 0 := leaf_fr (f_r2.2 10 (by decide)) q6
  have b_Ic2_1 := tI_1 hI_Ic2
  have b_Ic2_37 := tI_37 hI_Ic2
  have b_Ic2_29 := tI_29 hI_Ic2
  exact t_readGame_9 (gg := gg) (hh := hh) (nb := nb)    mFuel x1 Ic2 Ac2 hI_Ic2 hA_Ac2 r_x1 (by omega) (by omega) k33 k34 q3 q4 k35 k36 (by show _ < ((200000 : Nat) : Int); omega)
theorem t_readGame {gg hh nb : Nat} {I : Nat → Int32} {A : Nat → Nat → Int32} {x1 : Int32} (hI : TJ I) (hA : TK A) (r_x1 : (0 : Int) ≤ x1.toInt ∧ x1.toInt ≤ (1 : Int)) (q0 : (I 29).toInt ≤ 1999) (q1 : TRE A gg) (q2 : TRH A hh nb) (q3 : x1.toInt = (gg : Int)) (q4 : hh ≤ 1 ∧ hh ≠ gg) (q5 : lnk A gg 0 0) (q6 : leaf A gg 0) : Ok (f_readGame x1 I A) (fun o => TJ o.2.1 ∧ TK o.2.2 ∧ ((0 : Int) ≤ o.1.toInt ∧ o.1.toInt ≤ (92100 : Int)) ∧ (TRE o.2.2 gg) ∧ (TRH o.2.2 hh nb)) := t_readGame_0 (gg := gg) (hh := hh) (nb := nb) hI hA r_x1 q0 q1 q2 q3 q4 q5 q6
theorem t_read_47 {gg : Nat} {kk : Nat} {I : Nat → Int32} {A : Nat → Nat → Int32} {x2 : Int32} (hI : TJ I) (hA : TK A) (r_x2 : (0 : Int) ≤ x2.toInt ∧ x2.toInt ≤ (92100 : Int)) (q0 : TRE A kk) (q1 : (I 5).toInt = (kk : Int)) (q2 : (I 6).toInt ≤ (aK A kk : Int)) : Ok (f_read_47 x2 I A) (fun o => TJ o.2.1 ∧ TK o.2.2 ∧ ((0 : Int) ≤ o.1.toInt ∧ o.1.toInt ≤ (92100 : Int)) ∧ (RIv o.2.1 o.2.2)) := by
  unfold f_read_47
  have b_I_1 := tI_1 hI
  have b_I_5 := tI_5 hI
  have b_I_6 := tI_6 hI
  have b_I_29 := tI_29 hI
  have ck0 : cK A kk (aK A kk) := rfl
  obtain ⟨⟨r1, Ic1, Ac1⟩, h_r1, hI_Ic1, hA_Ac1, p_r1_0⟩ := t_place (x1 := (I 5)) (x2 := (I 6))  hI hA (by omega) (by omega) (TRE_n q0) (by omega) (by omega)
  replace hI_Ic1 : TJ Ic1 := hI_Ic1
  replace hA_Ac1 : TK Ac1 := hA_Ac1
  dsimp only at p_r1_0
  refine ok_clR h_r1 ?_
  have f_r1 := fw_place h_r1
  have : (Ic1 1).toInt = (I 1).toInt := congrArg Int32.toInt (f_r1.1 1 (by decide))
  have : (Ic1 5).toInt = (I 5).toInt := congrArg Int32.toInt (f_r1.1 5 (by decide))
  have : (Ic1 6).toInt = (I 6).toInt := congrArg Int32.toInt (f_r1.1 6 (by decide))
  have k37 : TRE Ac1 kk := TRE_fr (f_r1.2 7 (by decide)) (f_r1.2 8 (by decide)) (f_r1.2 9 (by decide)) (f_r1.2 10 (by decide)) (f_r1.2 11 (by decide)) q0
  have k38 : cK Ac1 kk (aK A kk) := cK_fr (f_r1.2 7 (by decide)) ck0
  exact ok_ret ⟨hI_Ic1, hA_Ac1, (show (0 : Int) ≤ x2.toInt ∧ x2.toInt ≤ (92100 : Int) from (by omega)), (by show RIv Ic1 Ac1; exact (RIv_mk (g := kk) k37 (by omega) (by have z := k38; unfold cK at z; omega) (by omega)))⟩
theorem t_read_0 {gg : Nat} {I : Nat → Int32} {A : Nat → Nat → Int32} (hI : TJ I) (hA : TK A) (q0 : (I 5).toInt = (gg : Int)) (q1 : TRE A gg) (q2 : (I 6).toInt ≤ (aK A gg : Int)) : Ok (f_read_0 I A) (fun o => TJ o.2.1 ∧ TK o.2.2 ∧ ((0 : Int) ≤ o.1.toInt ∧ o.1.toInt ≤ (92100 : Int)) ∧ (RIv o.2.1 o.2.2)) := by
  unfold f_read_0
  have b_I_1 := tI_1 hI
  have b_I_5 := tI_5 hI
  have b_I_6 := tI_6 hI
  have b_I_29 := tI_29 hI
  refine ok_bnd (fun I1 e39 => ?_)
  have hI_I1 : TJ I1 := e39.symm ▸ tj_u hI (k := 0) (show (0 : Int) ≤ (0 : Int32).toInt from (by decide)) (show (0 : Int32).toInt ≤ (2 : Int) from (by decide))
  have : (I1 1).toInt = (I 1).toInt := by rw [e39]; rfl
  have : (I1 5).toInt = (I 5).toInt := by rw [e39]; rfl
  have : (I1 6).toInt = (I 6).toInt := by rw [e39]; rfl
  have : (I1 29).toInt = (I 29).toInt := by rw [e39]; rfl
  refine ok_bnd (fun v2 e40 => ?_)
  have b_I1_5 := tI_5 hI_I1
  have t_v2 : v2.toInt = 1 - (I1 5).toInt := ti_sub e40 (show (1 : Int32).toInt = 1 from rfl) rfl (by omega) (by omega)
  obtain ⟨⟨r3, Ic3, Ac3⟩, h_r3, hI_Ic3, hA_Ac3, p_r3_0, p_r3_1, p_r3_2, p_r3_3⟩ := t_clearGame2 (x1 := v2) (gg := (1 - gg)) hI_I1 hA (by omega) (by omega)
  replace hI_Ic3 : TJ Ic3 := hI_Ic3
  replace hA_Ac3 : TK Ac3 := hA_Ac3
  dsimp only at p_r3_0 p_r3_1 p_r3_2 p_r3_3
  refine ok_clR h_r3 ?_
  have f_r3 := fw_clearGame h_r3
  have : (Ic3 1).toInt = (I1 1).toInt := congrArg Int32.toInt (f_r3.1 1 (by decide))
  have : (Ic3 5).toInt = (I1 5).toInt := congrArg Int32.toInt (f_r3.1 5 (by decide))
  have : (Ic3 6).toInt = (I1 6).toInt := congrArg Int32.toInt (f_r3.1 6 (by decide))
  have : (Ic3 29).toInt = (I1 29).toInt := congrArg Int32.toInt (f_r3.1 29 (by decide))
  have th3 : TRH Ac3 gg (aK A gg) := p_r3_1 gg (aK A gg) (by omega) (by omega) ⟨q1, rfl⟩
  obtain ⟨⟨r4, Ic4, Ac4⟩, h_r4, hI_Ic4, hA_Ac4, p_r4_0⟩ := t_usual (x1 := v2)  hI_Ic3 hA_Ac3 (by omega)
  replace hI_Ic4 : TJ Ic4 := hI_Ic4
  replace hA_Ac4 : TK Ac4 := hA_Ac4
  dsimp only at p_r4_0
  refine ok_clR h_r4 ?_
  have f_r4 := fw_usual h_r4
  have : (Ic4 1).toInt = (Ic3 1).toInt := congrArg Int32.toInt (f_r4.1 1 (by decide))
  have : (Ic4 5).toInt = (Ic3 5).toInt := congrArg Int32.toInt (f_r4.1 5 (by decide))
  have : (Ic4 6).toInt = (Ic3 6).toInt := congrArg Int32.toInt (f_r4.1 6 (by decide))
  have k41 : TRE Ac4 (1 - gg) := TRE_fr (f_r4.2 7 (by decide)) (f_r4.2 8 (by decide)) (f_r4.2 9 (by decide)) (f_r4.2 10 (by decide)) (f_r4.2 11 (by decide)) p_r3_0
  have k42 : lnk Ac4 (1 - gg) 0 0 := lnk_fr (f_r4.2 7 (by decide)) (f_r4.2 8 (by decide)) (f_r4.2 10 (by decide)) p_r3_2
  have k43 : leaf Ac4 (1 - gg) 0 := leaf_fr (f_r4.2 10 (by decide)) p_r3_3
  have k44 : TRH Ac4 gg (aK A gg) := TRH_fr (f_r4.2 7 (by decide)) (f_r4.2 8 (by decide)) (f_r4.2 9 (by decide)) (f_r4.2 10 (by decide)) (f_r4.2 11 (by decide)) th3
  have b_Ic4_29 := tI_29 hI_Ic4
  obtain ⟨⟨r5, Ic5, Ac5⟩, h_r5, hI_Ic5, hA_Ac5, p_r5, p_r5_0, p_r5_1⟩ := t_readGame (x1 := v2) (gg := (1 - gg)) (hh := gg) (nb := (aK A gg)) hI_Ic4 hA_Ac4 (by omega) (by omega) k41 (by omega) (by omega) (by omega) k42 k43
  replace hI_Ic5 : TJ Ic5 := hI_Ic5
  replace hA_Ac5 : TK Ac5 := hA_Ac5
  dsimp only at p_r5 p_r5_0 p_r5_1
  refine ok_clR h_r5 ?_
  have f_r5 := fw_readGame h_r5
  have : (Ic5 1).toInt = (Ic4 1).toInt := congrArg Int32.toInt (f_r5.1 1 (by decide))
  have : (Ic5 5).toInt = (Ic4 5).toInt := congrArg Int32.toInt (f_r5.1 5 (by decide))
  have : (Ic5 6).toInt = (Ic4 6).toInt := congrArg Int32.toInt (f_r5.1 6 (by decide))
  refine ok_if (fun c45 => ?_) (fun c45 => ?_)
  ·
    replace c45 := ti_eqP c45 rfl (show (0 : Int32).toInt = 0 from rfl)
    refine ok_bnd (fun I6 e46 => ?_)
    have hI_I6 : TJ I6 := e46.symm ▸ tj_u hI_Ic5 (k := 5) (show (0 : Int) ≤ v2.toInt from (by omega)) (show v2.toInt ≤ (1 : Int) from (by omega))
    have : (I6 1).toInt = (Ic5 1).toInt := by rw [e46]; rfl
    have : (I6 5).toInt = v2.toInt := by rw [e46]; exact rfl
    have : (I6 6).toInt = (Ic5 6).toInt := by rw [e46]; rfl
    have : (I6 29).toInt = (Ic5 29).toInt := by rw [e46]; rfl
    refine ok_bnd (fun I7 e47 => ?_)
    have hI_I7 : TJ I7 := e47.symm ▸ tj_u hI_I6 (k := 6) (show (0 : Int) ≤ (0 : Int32).toInt from (by decide)) (show (0 : Int32).toInt ≤ (300 : Int) from (by decide))
    have : (I7 1).toInt = (I6 1).toInt := by rw [e47]; rfl
    have : (I7 5).toInt = (I6 5).toInt := by rw [e47]; rfl
    have : (I7 6).toInt = 0 := by rw [e47]; exact (show (0 : Int32).toInt = 0 from rfl)
    have : (I7 29).toInt = (I6 29).toInt := by rw [e47]; rfl
    refine ok_bnd (fun I8 e48 => ?_)
    have hI_I8 : TJ I8 := e48.symm ▸ tj_u hI_I7 (k := 1) (show (0 : Int) ≤ (0 : Int32).toInt from (by decide)) (show (0 : Int32).toInt ≤ (2000 : Int) from (by decide))
    have : (I8 1).toInt = 0 := by rw [e48]; exact (show (0 : Int32).toInt = 0 from rfl)
    have : (I8 5).toInt = (I7 5).toInt := by rw [e48]; rfl
    have : (I8 6).toInt = (I7 6).toInt := by rw [e48]; rfl
    have : (I8 29).toInt = (I7 29).toInt := by rw [e48]; rfl
    have b_I8_5 := tI_5 hI_I8
    have b_I8_6 := tI_6 hI_I8
    exact t_read_47 (gg := gg)   (x2 := r5) hI_I8 hA_Ac5 (by omega) p_r5_0 (by omega) (by omega)
  ·
    replace c45 := ti_eqN c45 rfl (show (0 : Int32).toInt = 0 from rfl)
    have b_Ic5_5 := tI_5 hI_Ic5
    have b_Ic5_6 := tI_6 hI_Ic5
    exact t_read_47 (gg := gg)   (x2 := r5) hI_Ic5 hA_Ac5 (by omega) (p_r5_1).1 (by omega) (by have z := (p_r5_1).2; omega)
theorem t_read {gg : Nat} {I : Nat → Int32} {A : Nat → Nat → Int32}  (hI : TJ I) (hA : TK A) (q0 : (I 5).toInt = (gg : Int)) (q1 : TRE A gg) (q2 : (I 6).toInt ≤ (aK A gg : Int)) : Ok (f_read  I A) (fun o => TJ o.2.1 ∧ TK o.2.2 ∧ ((0 : Int) ≤ o.1.toInt ∧ o.1.toInt ≤ (92100 : Int)) ∧ (RIv o.2.1 o.2.2)) := t_read_0 (gg := gg) hI hA q0 q1 q2
