section
noncomputable def cK (A : Nat → Nat → Int32) (g n : Nat) : Prop := aK A g = n
theorem cK_fr {A A' : Nat → Nat → Int32} {g n : Nat} (e7 : A' 7 = A 7) (h : cK A g n) : cK A' g n := by
  unfold cK aK; rw [e7]; exact h
noncomputable def cG (A : Nat → Nat → Int32) (g : Nat) (v : Int) : Prop := v ≤ (aK A g : Int)
theorem cG_fr {A A' : Nat → Nat → Int32} {g : Nat} {v : Int} (e7 : A' 7 = A 7) (h : cG A g v) : cG A' g v := by
  unfold cG aK; rw [e7]; exact h
theorem t_readMove_81 {gg hh nb : Nat} {aa : Int} {A0 : Nat → Nat → Int32} {nd : Nat} {dp : Int} {na : Nat} {I : Nat → Int32} {A : Nat → Nat → Int32} {self25 : Int32 → Int32 → Int32 → (Nat → Int32) → (Nat → Nat → Int32) → Option (Int32 × MS)} {N25 : Nat} (hself25 : ∀ (x1 : Int32) (x2 : Int32) (x3 : Int32) (I : Nat → Int32) (A : Nat → Nat → Int32), TJ I → TK A → ((0 : Int) ≤ x1.toInt ∧ x1.toInt ≤ (1 : Int)) → ((0 : Int) ≤ x2.toInt ∧ x2.toInt ≤ (300 : Int)) → ((0 : Int) ≤ x3.toInt ∧ x3.toInt ≤ (2000 : Int)) → ((I 37).toInt ≤ (I 1).toInt) → (aa ≤ (I 37).toInt) → ((I 29).toInt ≤ 1999) → (TRE A gg) → (TRH A hh nb) → (EX A gg A0 nd) → (x1.toInt = (gg : Int)) → (hh ≤ 1 ∧ hh ≠ gg) → (x2.toInt.toNat = nd ∨ aK A0 gg < x2.toInt.toNat) → (apd A gg x2.toInt.toNat dp) → (dp ≤ 6) → (cK A gg na) → ((I 1).toInt - (I 37).toInt) < (N25 : Int) → Ok (self25 x1 x2 x3 I A) (fun o => TJ o.2.1 ∧ TK o.2.2 ∧ ((-92100 : Int) ≤ o.1.toInt ∧ o.1.toInt ≤ (300 : Int)) ∧ ((o.2.1 37).toInt ≤ (o.2.1 1).toInt ∧ aa ≤ (o.2.1 37).toInt) ∧ ((o.2.1 29).toInt ≤ 1999) ∧ (TRE o.2.2 gg) ∧ (TRH o.2.2 hh nb) ∧ (EX o.2.2 gg A0 nd) ∧ (lnk o.2.2 gg x2.toInt.toNat dp) ∧ ((0 ≤ o.1.toInt → m3 o.2.2 x1.toInt o.1.toInt ∧ leaf o.2.2 gg o.1.toInt.toNat ∧ lnk o.2.2 gg o.1.toInt.toNat dp ∧ aK A0 gg < o.1.toInt.toNat ∧ x2.toInt < o.1.toInt ∧ (na : Int) < (aK o.2.2 gg : Int))))) {x1 : Int32} {x2 : Int32} {x3 : Int32} (hI : TJ I) (hA : TK A) (r_x1 : (0 : Int) ≤ x1.toInt ∧ x1.toInt ≤ (1 : Int)) (r_x2 : (0 : Int) ≤ x2.toInt ∧ x2.toInt ≤ (300 : Int)) (r_x3 : (0 : Int) ≤ x3.toInt ∧ x3.toInt ≤ (2000 : Int)) (q0 : (I 37).toInt < (I 1).toInt) (q1 : aa ≤ (I 37).toInt) (q2 : (I 29).toInt ≤ 1999) (q3 : TRE A gg) (q4 : TRH A hh nb) (q5 : EX A gg A0 nd) (q6 : x1.toInt = (gg : Int)) (q7 : hh ≤ 1 ∧ hh ≠ gg) (q8 : x2.toInt.toNat = nd ∨ aK A0 gg < x2.toInt.toNat) (q9 : apd A gg x2.toInt.toNat dp) (q10 : dp ≤ 6) (q11 : cK A gg na) (m25 : ((I 1).toInt - (I 37).toInt) ≤ (N25 : Int)) : Ok (f_readMove_81 self25 x1 x2 x3 I A) (fun o => TJ o.2.1 ∧ TK o.2.2 ∧ ((-92100 : Int) ≤ o.1.toInt ∧ o.1.toInt ≤ (300 : Int)) ∧ ((o.2.1 37).toInt ≤ (o.2.1 1).toInt ∧ aa ≤ (o.2.1 37).toInt) ∧ ((o.2.1 29).toInt ≤ 1999) ∧ (TRE o.2.2 gg) ∧ (TRH o.2.2 hh nb) ∧ (EX o.2.2 gg A0 nd) ∧ (lnk o.2.2 gg x2.toInt.toNat dp) ∧ ((0 ≤ o.1.toInt → m3 o.2.2 x1.toInt o.1.toInt ∧ leaf o.2.2 gg o.1.toInt.toNat ∧ lnk o.2.2 gg o.1.toInt.toNat dp ∧ aK A0 gg < o.1.toInt.toNat ∧ x2.toInt < o.1.toInt ∧ (na : Int) < (aK o.2.2 gg : Int)))) := by
  unfold f_readMove_81
  have b_I_1 := tI_1 hI
  have b_I_37 := tI_37 hI
  have b_I_29 := tI_29 hI
  refine ok_bnd (fun v1 e1 => ?_)
  have t_v1 : v1.toInt = (I 37).toInt + 1 := ti_add e1 rfl (show (1 : Int32).toInt = 1 from rfl) (by omega) (by omega)
  refine ok_bnd (fun I2 e2 => ?_)
  have hI_I2 : TJ I2 := e2.symm ▸ tj_u hI (k := 37) (show (0 : Int) ≤ v1.toInt from (by omega)) (show v1.toInt ≤ (2100 : Int) from (by omega))
  have : (I2 1).toInt = (I 1).toInt := by rw [e2]; rfl
  have : (I2 37).toInt = v1.toInt := by rw [e2]; exact rfl
  have : (I2 29).toInt = (I 29).toInt := by rw [e2]; rfl
  have b_I2_1 := tI_1 hI_I2
  have b_I2_37 := tI_37 hI_I2
  have b_I2_29 := tI_29 hI_I2
  exact hself25 x1 x2 x3 I2 A hI_I2 hA r_x1 r_x2 r_x3 (by omega) (by omega) (by omega) q3 q4 q5 q6 q7 q8 q9 q10 q11 (by omega)
theorem t_readMove_25s {gg hh nb : Nat} {aa : Int} {A0 : Nat → Nat → Int32} {nd : Nat} {dp : Int} {na : Nat} {I : Nat → Int32} {A : Nat → Nat → Int32} {self25 : Int32 → Int32 → Int32 → (Nat → Int32) → (Nat → Nat → Int32) → Option (Int32 × MS)} {N25 : Nat} (hself25 : ∀ (x1 : Int32) (x2 : Int32) (x3 : Int32) (I : Nat → Int32) (A : Nat → Nat → Int32), TJ I → TK A → ((0 : Int) ≤ x1.toInt ∧ x1.toInt ≤ (1 : Int)) → ((0 : Int) ≤ x2.toInt ∧ x2.toInt ≤ (300 : Int)) → ((0 : Int) ≤ x3.toInt ∧ x3.toInt ≤ (2000 : Int)) → ((I 37).toInt ≤ (I 1).toInt) → (aa ≤ (I 37).toInt) → ((I 29).toInt ≤ 1999) → (TRE A gg) → (TRH A hh nb) → (EX A gg A0 nd) → (x1.toInt = (gg : Int)) → (hh ≤ 1 ∧ hh ≠ gg) → (x2.toInt.toNat = nd ∨ aK A0 gg < x2.toInt.toNat) → (apd A gg x2.toInt.toNat dp) → (dp ≤ 6) → (cK A gg na) → ((I 1).toInt - (I 37).toInt) < (N25 : Int) → Ok (self25 x1 x2 x3 I A) (fun o => TJ o.2.1 ∧ TK o.2.2 ∧ ((-92100 : Int) ≤ o.1.toInt ∧ o.1.toInt ≤ (300 : Int)) ∧ ((o.2.1 37).toInt ≤ (o.2.1 1).toInt ∧ aa ≤ (o.2.1 37).toInt) ∧ ((o.2.1 29).toInt ≤ 1999) ∧ (TRE o.2.2 gg) ∧ (TRH o.2.2 hh nb) ∧ (EX o.2.2 gg A0 nd) ∧ (lnk o.2.2 gg x2.toInt.toNat dp) ∧ ((0 ≤ o.1.toInt → m3 o.2.2 x1.toInt o.1.toInt ∧ leaf o.2.2 gg o.1.toInt.toNat ∧ lnk o.2.2 gg o.1.toInt.toNat dp ∧ aK A0 gg < o.1.toInt.toNat ∧ x2.toInt < o.1.toInt ∧ (na : Int) < (aK o.2.2 gg : Int))))) {x1 : Int32} {x2 : Int32} {x3 : Int32} (hI : TJ I) (hA : TK A) (r_x1 : (0 : Int) ≤ x1.toInt ∧ x1.toInt ≤ (1 : Int)) (r_x2 : (0 : Int) ≤ x2.toInt ∧ x2.toInt ≤ (300 : Int)) (r_x3 : (0 : Int) ≤ x3.toInt ∧ x3.toInt ≤ (2000 : Int)) (q0 : (I 37).toInt ≤ (I 1).toInt) (q1 : aa ≤ (I 37).toInt) (q2 : (I 29).toInt ≤ 1999) (q3 : TRE A gg) (q4 : TRH A hh nb) (q5 : EX A gg A0 nd) (q6 : x1.toInt = (gg : Int)) (q7 : hh ≤ 1 ∧ hh ≠ gg) (q8 : x2.toInt.toNat = nd ∨ aK A0 gg < x2.toInt.toNat) (q9 : apd A gg x2.toInt.toNat dp) (q10 : dp ≤ 6) (q11 : cK A gg na) (m25 : ((I 1).toInt - (I 37).toInt) ≤ (N25 : Int)) : Ok (f_readMove_25s self25 x1 x2 x3 I A) (fun o => TJ o.2.1 ∧ TK o.2.2 ∧ ((-92100 : Int) ≤ o.1.toInt ∧ o.1.toInt ≤ (300 : Int)) ∧ ((o.2.1 37).toInt ≤ (o.2.1 1).toInt ∧ aa ≤ (o.2.1 37).toInt) ∧ ((o.2.1 29).toInt ≤ 1999) ∧ (TRE o.2.2 gg) ∧ (TRH o.2.2 hh nb) ∧ (EX o.2.2 gg A0 nd) ∧ (lnk o.2.2 gg x2.toInt.toNat dp) ∧ ((0 ≤ o.1.toInt → m3 o.2.2 x1.toInt o.1.toInt ∧ leaf o.2.2 gg o.1.toInt.toNat ∧ lnk o.2.2 gg o.1.toInt.toNat dp ∧ aK A0 gg < o.1.toInt.toNat ∧ x2.toInt < o.1.toInt ∧ (na : Int) < (aK o.2.2 gg : Int)))) := by
  unfold f_readMove_25s
  have b_I_1 := tI_1 hI
  have b_I_37 := tI_37 hI
  have b_I_29 := tI_29 hI
  obtain ⟨r1, h_r1, p_r1⟩ := ro (t_look   hI hA )
  refine ok_clR h_r1 ?_
  dsimp only at p_r1
  obtain ⟨r2, h_r2, p_r2⟩ := ro (t_isLetter (x0 := r1)  hI hA )
  refine ok_clR h_r2 ?_
  dsimp only at p_r2
  refine ok_if (fun c3 => ?_) (fun c3 => ?_)
  ·
    replace c3 := ti_eqP c3 rfl (show (0 : Int32).toInt = 0 from rfl)
    obtain ⟨r3, h_r3, p_r3⟩ := ro (t_look   hI hA )
    refine ok_clR h_r3 ?_
    dsimp only at p_r3
    obtain ⟨r4, h_r4, p_r4⟩ := ro (t_isDigit (x0 := r3)  hI hA )
    refine ok_clR h_r4 ?_
    dsimp only at p_r4
    refine ok_if (fun c4 => ?_) (fun c4 => ?_)
    ·
      replace c4 := ti_eqP c4 rfl (show (0 : Int32).toInt = 0 from rfl)
      obtain ⟨r5, h_r5, p_r5⟩ := ro (t_look   hI hA )
      refine ok_clR h_r5 ?_
      dsimp only at p_r5
      refine ok_if (fun c5 => ?_) (fun c5 => ?_)
      ·
        replace c5 := ti_eqP c5 rfl (show (61 : Int32).toInt = 61 from rfl)
        exact t_readMove_81 (gg := gg) (hh := hh) (nb := nb) (aa := aa) (A0 := A0) (nd := nd) (dp := dp) (na := na)  hself25 (x1 := x1) (x2 := x2) (x3 := x3) hI hA r_x1 r_x2 r_x3 (by omega) q1 q2 q3 q4 q5 q6 q7 q8 q9 q10 q11 m25
      ·
        replace c5 := ti_eqN c5 rfl (show (61 : Int32).toInt = 61 from rfl)
        obtain ⟨r6, h_r6, p_r6⟩ := ro (t_look   hI hA )
        refine ok_clR h_r6 ?_
        dsimp only at p_r6
        refine ok_if (fun c6 => ?_) (fun c6 => ?_)
        ·
          replace c6 := ti_eqP c6 rfl (show (45 : Int32).toInt = 45 from rfl)
          exact t_readMove_81 (gg := gg) (hh := hh) (nb := nb) (aa := aa) (A0 := A0) (nd := nd) (dp := dp) (na := na)  hself25 (x1 := x1) (x2 := x2) (x3 := x3) hI hA r_x1 r_x2 r_x3 (by omega) q1 q2 q3 q4 q5 q6 q7 q8 q9 q10 q11 m25
        ·
          replace c6 := ti_eqN c6 rfl (show (45 : Int32).toInt = 45 from rfl)
          obtain ⟨r7, h_r7, p_r7⟩ := ro (t_look   hI hA )
          refine ok_clR h_r7 ?_
          dsimp only at p_r7
          refine ok_if (fun c7 => ?_) (fun c7 => ?_)
          ·
            replace c7 := ti_eqP c7 rfl (show (43 : Int32).toInt = 43 from rfl)
            exact t_readMove_81 (gg := gg) (hh := hh) (nb := nb) (aa := aa) (A0 := A0) (nd := nd) (dp := dp) (na := na)  hself25 (x1 := x1) (x2 := x2) (x3 := x3) hI hA r_x1 r_x2 r_x3 (by omega) q1 q2 q3 q4 q5 q6 q7 q8 q9 q10 q11 m25
          ·
            replace c7 := ti_eqN c7 rfl (show (43 : Int32).toInt = 43 from rfl)
            obtain ⟨r8, h_r8, p_r8⟩ := ro (t_look   hI hA )
            refine ok_clR h_r8 ?_
            dsimp only at p_r8
            refine ok_if (fun c8 => ?_) (fun c8 => ?_)
            ·
              replace c8 := ti_eqP c8 rfl (show (35 : Int32).toInt = 35 from rfl)
              exact t_readMove_81 (gg := gg) (hh := hh) (nb := nb) (aa := aa) (A0 := A0) (nd := nd) (dp := dp) (na := na)  hself25 (x1 := x1) (x2 := x2) (x3 := x3) hI hA r_x1 r_x2 r_x3 (by omega) q1 q2 q3 q4 q5 q6 q7 q8 q9 q10 q11 m25
            ·
              replace c8 := ti_eqN c8 rfl (show (35 : Int32).toInt = 35 from rfl)
              obtain ⟨⟨r9, Ic9, Ac9⟩, h_r9, hI_Ic9, hA_Ac9, p_r9, p_r9_0⟩ := t_understood (x1 := x3) (x2 := (I 37))  hI hA r_x3 (by omega) q2
              replace hI_Ic9 : TJ Ic9 := hI_Ic9
              replace hA_Ac9 : TK Ac9 := hA_Ac9
              dsimp only at p_r9 p_r9_0
              refine ok_clR h_r9 ?_
              have f_r9 := fw_understood h_r9
              have : (Ic9 1).toInt = (I 1).toInt := congrArg Int32.toInt (f_r9.1 1 (by decide))
              have : (Ic9 37).toInt = (I 37).toInt := congrArg Int32.toInt (f_r9.1 37 (by decide))
              have k9 : TRE Ac9 gg := TRE_fr (f_r9.2 7 (by decide)) (f_r9.2 8 (by decide)) (f_r9.2 9 (by decide)) (f_r9.2 10 (by decide)) (f_r9.2 11 (by decide)) q3
              have k10 : TRH Ac9 hh nb := TRH_fr (f_r9.2 7 (by decide)) (f_r9.2 8 (by decide)) (f_r9.2 9 (by decide)) (f_r9.2 10 (by decide)) (f_r9.2 11 (by decide)) q4
              have k11 : EX Ac9 gg A0 nd := EX_fr (f_r9.2 7 (by decide)) (f_r9.2 8 (by decide)) (f_r9.2 10 (by decide)) q5
              have k12 : apd Ac9 gg x2.toInt.toNat dp := apd_fr (f_r9.2 7 (by decide)) (f_r9.2 8 (by decide)) (f_r9.2 10 (by decide)) q9
              have k13 : cK Ac9 gg na := cK_fr (f_r9.2 7 (by decide)) q11
              refine ok_if (fun c14 => ?_) (fun c14 => ?_)
              ·
                replace c14 := ti_leP c14 (show (0 : Int32).toInt = 0 from rfl) rfl
                obtain ⟨r10, h_r10, p_r10⟩ := ro (t_childWith (x1 := x1) (x2 := x2) (x3 := r9)  hI_Ic9 hA_Ac9 r_x1 r_x2 k9 q6 (by have z := (k12).1; omega))
                refine ok_clR h_r10 ?_
                dsimp only at p_r10
                refine ok_if (fun c15 => ?_) (fun c15 => ?_)
                ·
                  replace c15 := ti_ltP c15 rfl (show (0 : Int32).toInt = 0 from rfl)
                  refine ok_chk (ti_in (by omega) (by omega)) ?_
                  refine ok_bnd (fun v11 e16 => ?_)
                  have b_v11 := tA_7 hA_Ac9 ((x1).toNatClampNeg)
                  rw [← e16] at b_v11
                  have hx : x1.toNatClampNeg = gg := by have := ti_nc (a := x1) (by omega); omega
                  have kk11 : ((aK Ac9 gg : Nat) : Int) = v11.toInt := by have z := tA_7 hA_Ac9 gg; unfold aK; rw [e16, hx]; omega
                  refine ok_if (fun c17 => ?_) (fun c17 => ?_)
                  ·
                    replace c17 := ti_eqP c17 rfl (show (300 : Int32).toInt = 300 from rfl)
                    obtain ⟨r13, h_r13, p_r13⟩ := ro (t_fault (x0 := (8 : Int32)) (x1 := x3)  hI_Ic9 hA_Ac9 (by decide) (by omega))
                    refine ok_clR h_r13 ?_
                    dsimp only at p_r13
                    refine ok_bnd (fun v14 e18 => ?_)
                    have t_v14 : v14.toInt = -r13.toInt := ti_neg e18 rfl (by omega)
                    exact ok_ret ⟨hI_Ic9, hA_Ac9, (show (-92100 : Int) ≤ v14.toInt ∧ v14.toInt ≤ (300 : Int) from (by omega)), (by show (Ic9 37).toInt ≤ (Ic9 1).toInt ∧ aa ≤ (Ic9 37).toInt; omega), (by show (Ic9 29).toInt ≤ 1999; omega), k9, k10, k11, (by show lnk Ac9 gg x2.toInt.toNat dp; exact (lnk_apd k12)), (by show (0 ≤ (v14 : Int32).toInt → m3 Ac9 x1.toInt (v14 : Int32).toInt ∧ leaf Ac9 gg (v14 : Int32).toInt.toNat ∧ lnk Ac9 gg (v14 : Int32).toInt.toNat dp ∧ aK A0 gg < (v14 : Int32).toInt.toNat ∧ x2.toInt < (v14 : Int32).toInt ∧ (na : Int) < (aK Ac9 gg : Int)); intro h; first | (exfalso; omega) | exact ⟨p_r12_3, p_r12_2.2.2.2.2.1, n12, by omega, by omega, by omega⟩)⟩
                  ·
                    replace c17 := ti_eqN c17 rfl (show (300 : Int32).toInt = 300 from rfl)
                    obtain ⟨⟨r12, Ic12, Ac12⟩, h_r12, hI_Ic12, hA_Ac12, p_r12, p_r12_0, p_r12_1, p_r12_2, p_r12_3⟩ := t_append (x1 := x1) (x2 := x2) (x3 := r9)  hI_Ic9 hA_Ac9 r_x1 r_x2 (by omega) k9 q6 (by omega) (apd_le k12 q10)
                    replace hI_Ic12 : TJ Ic12 := hI_Ic12
                    replace hA_Ac12 : TK Ac12 := hA_Ac12
                    dsimp only at p_r12 p_r12_0 p_r12_1 p_r12_2 p_r12_3
                    refine ok_clR h_r12 ?_
                    have f_r12 := fw_append h_r12
                    have : (Ic12 1).toInt = (Ic9 1).toInt := congrArg Int32.toInt (f_r12.1 1 (by decide))
                    have : (Ic12 37).toInt = (Ic9 37).toInt := congrArg Int32.toInt (f_r12.1 37 (by decide))
                    have : (Ic12 29).toInt = (Ic9 29).toInt := congrArg Int32.toInt (f_r12.1 29 (by decide))
                    have zc := k13
                    unfold cK at zc
                    have zp := p_r12_2
                    have zx := (k11).1
                    have za := (k12).1
                    have ex12 : EX Ac12 gg A0 nd := EX_ap k11 p_r12_2 q8
                    have th12 : TRH Ac12 hh nb := p_r12_1 hh nb q7.1 q7.2 k10
                    have l12 : lnk Ac12 gg x2.toInt.toNat dp := p_r12_2.2.2.1 _ _ (lnk_apd k12)
                    have n12 : lnk Ac12 gg r12.toInt.toNat dp := p_r12_2.2.2.2.2.2 _ k12
                    have z1 := p_r12_2.1
                    have z2 := p_r12_2.2.1
                    exact ok_ret ⟨hI_Ic12, hA_Ac12, (show (-92100 : Int) ≤ r12.toInt ∧ r12.toInt ≤ (300 : Int) from (by omega)), (by show (Ic12 37).toInt ≤ (Ic12 1).toInt ∧ aa ≤ (Ic12 37).toInt; omega), (by show (Ic12 29).toInt ≤ 1999; omega), p_r12_0, th12, ex12, l12, (by show (0 ≤ (r12 : Int32).toInt → m3 Ac12 x1.toInt (r12 : Int32).toInt ∧ leaf Ac12 gg (r12 : Int32).toInt.toNat ∧ lnk Ac12 gg (r12 : Int32).toInt.toNat dp ∧ aK A0 gg < (r12 : Int32).toInt.toNat ∧ x2.toInt < (r12 : Int32).toInt ∧ (na : Int) < (aK Ac12 gg : Int)); intro h; first | (exfalso; omega) | exact ⟨p_r12_3, p_r12_2.2.2.2.2.1, n12, by omega, by omega, by omega⟩)⟩
                ·
                  replace c15 := ti_ltN c15 rfl (show (0 : Int32).toInt = 0 from rfl)
                  obtain ⟨r15, h_r15, p_r15⟩ := ro (t_fault (x0 := (6 : Int32)) (x1 := x3)  hI_Ic9 hA_Ac9 (by decide) (by omega))
                  refine ok_clR h_r15 ?_
                  dsimp only at p_r15
                  refine ok_bnd (fun v16 e19 => ?_)
                  have t_v16 : v16.toInt = -r15.toInt := ti_neg e19 rfl (by omega)
                  exact ok_ret ⟨hI_Ic9, hA_Ac9, (show (-92100 : Int) ≤ v16.toInt ∧ v16.toInt ≤ (300 : Int) from (by omega)), (by show (Ic9 37).toInt ≤ (Ic9 1).toInt ∧ aa ≤ (Ic9 37).toInt; omega), (by show (Ic9 29).toInt ≤ 1999; omega), k9, k10, k11, (by show lnk Ac9 gg x2.toInt.toNat dp; exact (lnk_apd k12)), (by show (0 ≤ (v16 : Int32).toInt → m3 Ac9 x1.toInt (v16 : Int32).toInt ∧ leaf Ac9 gg (v16 : Int32).toInt.toNat ∧ lnk Ac9 gg (v16 : Int32).toInt.toNat dp ∧ aK A0 gg < (v16 : Int32).toInt.toNat ∧ x2.toInt < (v16 : Int32).toInt ∧ (na : Int) < (aK Ac9 gg : Int)); intro h; first | (exfalso; omega) | exact ⟨p_r12_3, p_r12_2.2.2.2.2.1, n12, by omega, by omega, by omega⟩)⟩
              ·
                replace c14 := ti_leN c14 (show (0 : Int32).toInt = 0 from rfl) rfl
                refine ok_if (fun c20 => ?_) (fun c20 => ?_)
                ·
                  replace c20 := ti_eqP c20 rfl (show (-2 : Int32).toInt = -2 from rfl)
                  unfold f_readMove_122
                  obtain ⟨r1, h_r1, p_r1⟩ := ro (t_fault (x0 := (5 : Int32)) (x1 := x3)  hI_Ic9 hA_Ac9 (by decide) (by omega))
                  refine ok_clR h_r1 ?_
                  dsimp only at p_r1
                  refine ok_bnd (fun v2 e21 => ?_)
                  have t_v2 : v2.toInt = -r1.toInt := ti_neg e21 rfl (by omega)
                  exact ok_ret ⟨hI_Ic9, hA_Ac9, (show (-92100 : Int) ≤ v2.toInt ∧ v2.toInt ≤ (300 : Int) from (by omega)), (by show (Ic9 37).toInt ≤ (Ic9 1).toInt ∧ aa ≤ (Ic9 37).toInt; omega), (by show (Ic9 29).toInt ≤ 1999; omega), k9, k10, k11, (by show lnk Ac9 gg x2.toInt.toNat dp; exact (lnk_apd k12)), (by show (0 ≤ (v2 : Int32).toInt → m3 Ac9 x1.toInt (v2 : Int32).toInt ∧ leaf Ac9 gg (v2 : Int32).toInt.toNat ∧ lnk Ac9 gg (v2 : Int32).toInt.toNat dp ∧ aK A0 gg < (v2 : Int32).toInt.toNat ∧ x2.toInt < (v2 : Int32).toInt ∧ (na : Int) < (aK Ac9 gg : Int)); intro h; exfalso; omega)⟩
                ·
                  replace c20 := ti_eqN c20 rfl (show (-2 : Int32).toInt = -2 from rfl)
                  unfold f_readMove_122
                  obtain ⟨r1, h_r1, p_r1⟩ := ro (t_fault (x0 := (4 : Int32)) (x1 := x3)  hI_Ic9 hA_Ac9 (by decide) (by omega))
                  refine ok_clR h_r1 ?_
                  dsimp only at p_r1
                  refine ok_bnd (fun v2 e22 => ?_)
                  have t_v2 : v2.toInt = -r1.toInt := ti_neg e22 rfl (by omega)
                  exact ok_ret ⟨hI_Ic9, hA_Ac9, (show (-92100 : Int) ≤ v2.toInt ∧ v2.toInt ≤ (300 : Int) from (by omega)), (by show (Ic9 37).toInt ≤ (Ic9 1).toInt ∧ aa ≤ (Ic9 37).toInt; omega), (by show (Ic9 29).toInt ≤ 1999; omega), k9, k10, k11, (by show lnk Ac9 gg x2.toInt.toNat dp; exact (lnk_apd k12)), (by show (0 ≤ (v2 : Int32).toInt → m3 Ac9 x1.toInt (v2 : Int32).toInt ∧ leaf Ac9 gg (v2 : Int32).toInt.toNat ∧ lnk Ac9 gg (v2 : Int32).toInt.toNat dp ∧ aK A0 gg < (v2 : Int32).toInt.toNat ∧ x2.toInt < (v2 : Int32).toInt ∧ (na : Int) < (aK Ac9 gg : Int)); intro h; exfalso; omega)⟩
    ·
      replace c4 := ti_eqN c4 rfl (show (0 : Int32).toInt = 0 from rfl)
      exact t_readMove_81 (gg := gg) (hh := hh) (nb := nb) (aa := aa) (A0 := A0) (nd := nd) (dp := dp) (na := na)  hself25 (x1 := x1) (x2 := x2) (x3 := x3) hI hA r_x1 r_x2 r_x3 (by omega) q1 q2 q3 q4 q5 q6 q7 q8 q9 q10 q11 m25
  ·
    replace c3 := ti_eqN c3 rfl (show (0 : Int32).toInt = 0 from rfl)
    exact t_readMove_81 (gg := gg) (hh := hh) (nb := nb) (aa := aa) (A0 := A0) (nd := nd) (dp := dp) (na := na)  hself25 (x1 := x1) (x2 := x2) (x3 := x3) hI hA r_x1 r_x2 r_x3 (by omega) q1 q2 q3 q4 q5 q6 q7 q8 q9 q10 q11 m25
theorem t_readMove_25 {gg hh nb : Nat} {aa : Int} {A0 : Nat → Nat → Int32} {nd : Nat} {dp : Int} {na : Nat}  : ∀ (n : Nat) (x1 : Int32) (x2 : Int32) (x3 : Int32) (I : Nat → Int32) (A : Nat → Nat → Int32), TJ I → TK A → ((0 : Int) ≤ x1.toInt ∧ x1.toInt ≤ (1 : Int)) → ((0 : Int) ≤ x2.toInt ∧ x2.toInt ≤ (300 : Int)) → ((0 : Int) ≤ x3.toInt ∧ x3.toInt ≤ (2000 : Int)) → ((I 37).toInt ≤ (I 1).toInt) → (aa ≤ (I 37).toInt) → ((I 29).toInt ≤ 1999) → (TRE A gg) → (TRH A hh nb) → (EX A gg A0 nd) → (x1.toInt = (gg : Int)) → (hh ≤ 1 ∧ hh ≠ gg) → (x2.toInt.toNat = nd ∨ aK A0 gg < x2.toInt.toNat) → (apd A gg x2.toInt.toNat dp) → (dp ≤ 6) → (cK A gg na) → ((I 1).toInt - (I 37).toInt) < (n : Int) → Ok (f_readMove_25  n x1 x2 x3 I A) (fun o => TJ o.2.1 ∧ TK o.2.2 ∧ ((-92100 : Int) ≤ o.1.toInt ∧ o.1.toInt ≤ (300 : Int)) ∧ ((o.2.1 37).toInt ≤ (o.2.1 1).toInt ∧ aa ≤ (o.2.1 37).toInt) ∧ ((o.2.1 29).toInt ≤ 1999) ∧ (TRE o.2.2 gg) ∧ (TRH o.2.2 hh nb) ∧ (EX o.2.2 gg A0 nd) ∧ (lnk o.2.2 gg x2.toInt.toNat dp) ∧ ((0 ≤ o.1.toInt → m3 o.2.2 x1.toInt o.1.toInt ∧ leaf o.2.2 gg o.1.toInt.toNat ∧ lnk o.2.2 gg o.1.toInt.toNat dp ∧ aK A0 gg < o.1.toInt.toNat ∧ x2.toInt < o.1.toInt ∧ (na : Int) < (aK o.2.2 gg : Int)))) := by
  intro n
  induction n with
  | zero => intro x1 x2 x3 I A hI hA g0 g1 g2 g3 g4 g5 g6 g7 g8 g9 g10 g11 g12 g13 g14  hm; exfalso; omega
  | succ n ih =>
    intro x1 x2 x3 I A hI hA g0 g1 g2 g3 g4 g5 g6 g7 g8 g9 g10 g11 g12 g13 g14  hm
    exact t_readMove_25s (gg := gg) (hh := hh) (nb := nb) (aa := aa) (A0 := A0) (nd := nd) (dp := dp) (na := na)  (N25 := n)  ih hI hA g0 g1 g2 g3 g4 g5 g6 g7 g8 g9 g10 g11 g12 g13 g14  (by omega)
theorem t_readMove_0 {gg hh nb : Nat} {aa : Int} {A0 : Nat → Nat → Int32} {nd : Nat} {dp : Int} {na : Nat} {I : Nat → Int32} {A : Nat → Nat → Int32} {x1 : Int32} {x2 : Int32} (hI : TJ I) (hA : TK A) (r_x1 : (0 : Int) ≤ x1.toInt ∧ x1.toInt ≤ (1 : Int)) (r_x2 : (0 : Int) ≤ x2.toInt ∧ x2.toInt ≤ (300 : Int)) (q0 : (I 37).toInt ≤ (I 1).toInt) (q1 : aa ≤ (I 37).toInt) (q2 : (I 29).toInt ≤ 1999) (q3 : TRE A gg) (q4 : TRH A hh nb) (q5 : EX A gg A0 nd) (q6 : x1.toInt = (gg : Int)) (q7 : hh ≤ 1 ∧ hh ≠ gg) (q8 : x2.toInt.toNat = nd ∨ aK A0 gg < x2.toInt.toNat) (q9 : apd A gg x2.toInt.toNat dp) (q10 : dp ≤ 6) (q11 : cK A gg na) : Ok (f_readMove_0 x1 x2 I A) (fun o => TJ o.2.1 ∧ TK o.2.2 ∧ ((-92100 : Int) ≤ o.1.toInt ∧ o.1.toInt ≤ (300 : Int)) ∧ ((o.2.1 37).toInt ≤ (o.2.1 1).toInt ∧ aa ≤ (o.2.1 37).toInt) ∧ ((o.2.1 29).toInt ≤ 1999) ∧ (TRE o.2.2 gg) ∧ (TRH o.2.2 hh nb) ∧ (EX o.2.2 gg A0 nd) ∧ (lnk o.2.2 gg x2.toInt.toNat dp) ∧ ((0 ≤ o.1.toInt → m3 o.2.2 x1.toInt o.1.toInt ∧ leaf o.2.2 gg o.1.toInt.toNat ∧ lnk o.2.2 gg o.1.toInt.toNat dp ∧ aK A0 gg < o.1.toInt.toNat ∧ x2.toInt < o.1.toInt ∧ (na : Int) < (aK o.2.2 gg : Int)))) := by
  unfold f_readMove_0
  have b_I_1 := tI_1 hI
  have b_I_37 := tI_37 hI
  have b_I_29 := tI_29 hI
  obtain ⟨r1, h_r1, p_r1⟩ := ro (t_look   hI hA )
  refine ok_clR h_r1 ?_
  dsimp only at p_r1
  obtain ⟨r2, h_r2, p_r2⟩ := ro (t_isLetter (x0 := r1)  hI hA )
  refine ok_clR h_r2 ?_
  dsimp only at p_r2
  refine ok_if (fun c23 => ?_) (fun c23 => ?_)
  ·
    replace c23 := ti_eqP c23 rfl (show (0 : Int32).toInt = 0 from rfl)
    obtain ⟨r3, h_r3, p_r3⟩ := ro (t_fault (x0 := (1 : Int32)) (x1 := (I 37))  hI hA (by decide) (by omega))
    refine ok_clR h_r3 ?_
    dsimp only at p_r3
    refine ok_bnd (fun v4 e24 => ?_)
    have t_v4 : v4.toInt = -r3.toInt := ti_neg e24 rfl (by omega)
    exact ok_ret ⟨hI, hA, (show (-92100 : Int) ≤ v4.toInt ∧ v4.toInt ≤ (300 : Int) from (by omega)), (by show (I 37).toInt ≤ (I 1).toInt ∧ aa ≤ (I 37).toInt; omega), q2, q3, q4, q5, (by show lnk A gg x2.toInt.toNat dp; exact (lnk_apd q9)), (by show (0 ≤ (v4 : Int32).toInt → m3 A x1.toInt (v4 : Int32).toInt ∧ leaf A gg (v4 : Int32).toInt.toNat ∧ lnk A gg (v4 : Int32).toInt.toNat dp ∧ aK A0 gg < (v4 : Int32).toInt.toNat ∧ x2.toInt < (v4 : Int32).toInt ∧ (na : Int) < (aK A gg : Int)); intro h; exfalso; omega)⟩
  ·
    replace c23 := ti_eqN c23 rfl (show (0 : Int32).toInt = 0 from rfl)
    exact t_readMove_25 (gg := gg) (hh := hh) (nb := nb) (aa := aa) (A0 := A0) (nd := nd) (dp := dp) (na := na)    mFuel x1 x2 (I 37) I A hI hA r_x1 r_x2 (by omega) q0 q1 q2 q3 q4 q5 q6 q7 q8 q9 q10 q11 (by show _ < ((200000 : Nat) : Int); omega)
theorem t_readMove {gg hh nb : Nat} {aa : Int} {A0 : Nat → Nat → Int32} {nd : Nat} {dp : Int} {na : Nat} {I : Nat → Int32} {A : Nat → Nat → Int32} {x1 : Int32} {x2 : Int32} (hI : TJ I) (hA : TK A) (r_x1 : (0 : Int) ≤ x1.toInt ∧ x1.toInt ≤ (1 : Int)) (r_x2 : (0 : Int) ≤ x2.toInt ∧ x2.toInt ≤ (300 : Int)) (q0 : (I 37).toInt ≤ (I 1).toInt) (q1 : aa ≤ (I 37).toInt) (q2 : (I 29).toInt ≤ 1999) (q3 : TRE A gg) (q4 : TRH A hh nb) (q5 : EX A gg A0 nd) (q6 : x1.toInt = (gg : Int)) (q7 : hh ≤ 1 ∧ hh ≠ gg) (q8 : x2.toInt.toNat = nd ∨ aK A0 gg < x2.toInt.toNat) (q9 : apd A gg x2.toInt.toNat dp) (q10 : dp ≤ 6) (q11 : cK A gg na) : Ok (f_readMove x1 x2 I A) (fun o => TJ o.2.1 ∧ TK o.2.2 ∧ ((-92100 : Int) ≤ o.1.toInt ∧ o.1.toInt ≤ (300 : Int)) ∧ ((o.2.1 37).toInt ≤ (o.2.1 1).toInt ∧ aa ≤ (o.2.1 37).toInt) ∧ ((o.2.1 29).toInt ≤ 1999) ∧ (TRE o.2.2 gg) ∧ (TRH o.2.2 hh nb) ∧ (EX o.2.2 gg A0 nd) ∧ (lnk o.2.2 gg x2.toInt.toNat dp) ∧ ((0 ≤ o.1.toInt → m3 o.2.2 x1.toInt o.1.toInt ∧ leaf o.2.2 gg o.1.toInt.toNat ∧ lnk o.2.2 gg o.1.toInt.toNat dp ∧ aK A0 gg < o.1.toInt.toNat ∧ x2.toInt < o.1.toInt ∧ (na : Int) < (aK o.2.2 gg : Int)))) := t_readMove_0 (gg := gg) (hh := hh) (nb := nb) (aa := aa) (A0 := A0) (nd := nd) (dp := dp) (na := na) hI hA r_x1 r_x2 q0 q1 q2 q3 q4 q5 q6 q7 q8 q9 q10 q11
theorem t_readLine_199 {gg hh nb : Nat} {aa : Int} {A0 : Nat → Nat → Int32} {nd : Nat} {rr : Int} {I : Nat → Int32} {A : Nat → Nat → Int32} {rec : Int32 → Int32 → Int32 → (Nat → Int32) → (Nat → Nat → Int32) → Option (Int32 × MS)} (hrec : ∀ (gg hh nb : Nat) (aa : Int) (A0 : Nat → Nat → Int32) (nd : Nat) (x1 : Int32) (x2 : Int32) (x3 : Int32) (I : Nat → Int32) (A : Nat → Nat → Int32), TJ I → TK A → ((0 : Int) ≤ x1.toInt ∧ x1.toInt ≤ (1 : Int)) → ((0 : Int) ≤ x2.toInt ∧ x2.toInt ≤ (300 : Int)) → ((0 : Int) ≤ x3.toInt ∧ x3.toInt ≤ (6 : Int)) → ((I 37).toInt ≤ (I 1).toInt) → (aa ≤ (I 37).toInt) → (TRE A gg) → (TRH A hh nb) → (EX A gg A0 nd) → (x1.toInt = (gg : Int)) → (hh ≤ 1 ∧ hh ≠ gg) → (x2.toInt.toNat = nd ∨ aK A0 gg < x2.toInt.toNat) → (apd A gg x2.toInt.toNat x3.toInt) → (7 - x3.toInt ≤ rr - 1) → Ok (rec x1 x2 x3 I A) (fun o => TJ o.2.1 ∧ TK o.2.2 ∧ ((0 : Int) ≤ o.1.toInt ∧ o.1.toInt ≤ (92100 : Int)) ∧ ((o.2.1 37).toInt ≤ (o.2.1 1).toInt ∧ aa ≤ (o.2.1 37).toInt) ∧ ((o.1.toInt ≤ 0 → x3.toInt ≠ 0 → (o.2.1 37).toInt < (o.2.1 1).toInt)) ∧ (TRE o.2.2 gg) ∧ (TRH o.2.2 hh nb) ∧ (EX o.2.2 gg A0 nd))) (hfrec : ∀ (x1 : Int32) (x2 : Int32) (x3 : Int32) (I : Nat → Int32) (A : Nat → Nat → Int32) (o : Int32 × MS), rec x1 x2 x3 I A = some o → FrS [25, 26, 27, 28, 29, 33, 36, 37] [7, 8, 9, 10, 11, 12, 13, 14, 15, 24, 30, 31, 32, 34, 35] I A o.2.1 o.2.2) {self3 : Int32 → Int32 → Int32 → Int32 → (Nat → Int32) → (Nat → Nat → Int32) → Option (Int32 × MS)} {N3 : Nat} (hself3 : ∀ (x1 : Int32) (x2 : Int32) (x3 : Int32) (x4 : Int32) (I : Nat → Int32) (A : Nat → Nat → Int32), TJ I → TK A → ((0 : Int) ≤ x1.toInt ∧ x1.toInt ≤ (1 : Int)) → ((0 : Int) ≤ x2.toInt ∧ x2.toInt ≤ (300 : Int)) → ((0 : Int) ≤ x3.toInt ∧ x3.toInt ≤ (6 : Int)) → ((0 : Int) ≤ x4.toInt ∧ x4.toInt ≤ (300 : Int)) → ((I 37).toInt ≤ (I 1).toInt) → (aa ≤ (I 37).toInt) → (TRE A gg) → (TRH A hh nb) → (EX A gg A0 nd) → (x1.toInt = (gg : Int)) → (hh ≤ 1 ∧ hh ≠ gg) → (x4.toInt.toNat = nd ∨ aK A0 gg < x4.toInt.toNat) → (apd A gg x4.toInt.toNat x3.toInt) → (7 - x3.toInt ≤ rr) → (301 - (aK A gg : Int)) < (N3 : Int) → Ok (self3 x1 x2 x3 x4 I A) (fun o => TJ o.2.1 ∧ TK o.2.2 ∧ ((0 : Int) ≤ o.1.toInt ∧ o.1.toInt ≤ (92100 : Int)) ∧ ((o.2.1 37).toInt ≤ (o.2.1 1).toInt ∧ aa ≤ (o.2.1 37).toInt) ∧ ((o.1.toInt ≤ 0 → x3.toInt ≠ 0 → (o.2.1 37).toInt < (o.2.1 1).toInt)) ∧ (TRE o.2.2 gg) ∧ (TRH o.2.2 hh nb) ∧ (EX o.2.2 gg A0 nd))) {self113 : Int32 → Int32 → Int32 → Int32 → Int32 → Int32 → (Nat → Int32) → (Nat → Nat → Int32) → Option (Int32 × MS)} {N113 : Nat} (hself113 : ∀ (x1 : Int32) (x2 : Int32) (x3 : Int32) (x4 : Int32) (x5 : Int32) (x7 : Int32) (I : Nat → Int32) (A : Nat → Nat → Int32), TJ I → TK A → ((0 : Int) ≤ x1.toInt ∧ x1.toInt ≤ (1 : Int)) → ((0 : Int) ≤ x2.toInt ∧ x2.toInt ≤ (300 : Int)) → ((0 : Int) ≤ x3.toInt ∧ x3.toInt ≤ (6 : Int)) → ((0 : Int) ≤ x4.toInt ∧ x4.toInt ≤ (300 : Int)) → ((0 : Int) ≤ x5.toInt ∧ x5.toInt ≤ (92100 : Int)) → ((0 : Int) ≤ x7.toInt ∧ x7.toInt ≤ (300 : Int)) → ((I 37).toInt ≤ (I 1).toInt) → (aa ≤ (I 37).toInt) → (TRE A gg) → (TRH A hh nb) → (EX A gg A0 nd) → (x1.toInt = (gg : Int)) → (hh ≤ 1 ∧ hh ≠ gg) → (lnk A gg x4.toInt.toNat x3.toInt) → (leaf A gg x4.toInt.toNat) → (lnk A gg x7.toInt.toNat x3.toInt) → (aK A0 gg < x4.toInt.toNat) → (x7.toInt.toNat = nd ∨ aK A0 gg < x7.toInt.toNat) → (x7.toInt < x4.toInt) → (7 - x3.toInt ≤ rr) → ((302 - (aK A gg : Int)) ≤ (N3 : Int)) → ((I 1).toInt - (I 37).toInt) < (N113 : Int) → Ok (self113 x1 x2 x3 x4 x5 x7 I A) (fun o => TJ o.2.1 ∧ TK o.2.2 ∧ ((0 : Int) ≤ o.1.toInt ∧ o.1.toInt ≤ (92100 : Int)) ∧ ((o.2.1 37).toInt ≤ (o.2.1 1).toInt ∧ aa ≤ (o.2.1 37).toInt) ∧ ((o.1.toInt ≤ 0 → x3.toInt ≠ 0 → (o.2.1 37).toInt < (o.2.1 1).toInt)) ∧ (TRE o.2.2 gg) ∧ (TRH o.2.2 hh nb) ∧ (EX o.2.2 gg A0 nd))) {x1 : Int32} {x2 : Int32} {x3 : Int32} {x4 : Int32} {x5 : Int32} {x7 : Int32} {t0 : Int32} (hI : TJ I) (hA : TK A) (r_x1 : (0 : Int) ≤ x1.toInt ∧ x1.toInt ≤ (1 : Int)) (r_x2 : (0 : Int) ≤ x2.toInt ∧ x2.toInt ≤ (300 : Int)) (r_x3 : (0 : Int) ≤ x3.toInt ∧ x3.toInt ≤ (6 : Int)) (r_x4 : (0 : Int) ≤ x4.toInt ∧ x4.toInt ≤ (300 : Int)) (r_x5 : (0 : Int) ≤ x5.toInt ∧ x5.toInt ≤ (92100 : Int)) (r_x7 : (0 : Int) ≤ x7.toInt ∧ x7.toInt ≤ (300 : Int)) (r_t0 : (0 : Int) ≤ t0.toInt ∧ t0.toInt ≤ (2000 : Int)) (q0 : t0.toInt ≤ (I 1).toInt) (q1 : aa ≤ t0.toInt) (q2 : TRE A gg) (q3 : TRH A hh nb) (q4 : EX A gg A0 nd) (q5 : x1.toInt = (gg : Int)) (q6 : hh ≤ 1 ∧ hh ≠ gg) (q7 : lnk A gg x4.toInt.toNat x3.toInt) (q8 : leaf A gg x4.toInt.toNat) (q9 : lnk A gg x7.toInt.toNat x3.toInt) (q10 : aK A0 gg < x4.toInt.toNat) (q11 : x7.toInt.toNat = nd ∨ aK A0 gg < x7.toInt.toNat) (q12 : x7.toInt < x4.toInt) (q13 : 7 - x3.toInt ≤ rr) (m3 : (302 - (aK A gg : Int)) ≤ (N3 : Int)) (m113 : ((I 1).toInt - t0.toInt + 1) ≤ (N113 : Int)) : Ok (f_readLine_199 rec self3 self113 x1 x2 x3 x4 x5 x7 t0 I A) (fun o => TJ o.2.1 ∧ TK o.2.2 ∧ ((0 : Int) ≤ o.1.toInt ∧ o.1.toInt ≤ (92100 : Int)) ∧ ((o.2.1 37).toInt ≤ (o.2.1 1).toInt ∧ aa ≤ (o.2.1 37).toInt) ∧ ((o.1.toInt ≤ 0 → x3.toInt ≠ 0 → (o.2.1 37).toInt < (o.2.1 1).toInt)) ∧ (TRE o.2.2 gg) ∧ (TRH o.2.2 hh nb) ∧ (EX o.2.2 gg A0 nd)) := by
  unfold f_readLine_199
  have b_I_1 := tI_1 hI
  have b_I_37 := tI_37 hI
  have b_I_29 := tI_29 hI
  have ck0 : cK A gg (aK A gg) := rfl
  refine ok_bnd (fun I1 e25 => ?_)
  have hI_I1 : TJ I1 := e25.symm ▸ tj_u hI (k := 37) (show (0 : Int) ≤ t0.toInt from (by omega)) (show t0.toInt ≤ (2100 : Int) from (by omega))
  have : (I1 1).toInt = (I 1).toInt := by rw [e25]; rfl
  have : (I1 37).toInt = t0.toInt := by rw [e25]; exact rfl
  have : (I1 29).toInt = (I 29).toInt := by rw [e25]; rfl
  refine ok_if (fun c26 => ?_) (fun c26 => ?_)
  ·
    replace c26 := ti_leP c26 rfl (show (0 : Int32).toInt = 0 from rfl)
    have b_I1_1 := tI_1 hI_I1
    have b_I1_37 := tI_37 hI_I1
    obtain ⟨⟨r2, Ic2, Ac2⟩, h_r2, hI_Ic2, hA_Ac2, p_r2, p_r2_0⟩ := t_readRemarks (x1 := x1) (x2 := x4)  hI_I1 hA r_x1 r_x4 (by omega) (show (I1 37).toInt ≤ (I1 37).toInt from Int.le_refl _)
    replace hI_Ic2 : TJ Ic2 := hI_Ic2
    replace hA_Ac2 : TK Ac2 := hA_Ac2
    dsimp only at p_r2 p_r2_0
    refine ok_clR h_r2 ?_
    have f_r2 := fw_readRemarks h_r2
    have : (Ic2 1).toInt = (I1 1).toInt := congrArg Int32.toInt (f_r2.1 1 (by decide))
    have : (Ic2 29).toInt = (I1 29).toInt := congrArg Int32.toInt (f_r2.1 29 (by decide))
    have k27 : TRE Ac2 gg := TRE_fr (f_r2.2 7 (by decide)) (f_r2.2 8 (by decide)) (f_r2.2 9 (by decide)) (f_r2.2 10 (by decide)) (f_r2.2 11 (by decide)) q2
    have k28 : TRH Ac2 hh nb := TRH_fr (f_r2.2 7 (by decide)) (f_r2.2 8 (by decide)) (f_r2.2 9 (by decide)) (f_r2.2 10 (by decide)) (f_r2.2 11 (by decide)) q3
    have k29 : EX Ac2 gg A0 nd := EX_fr (f_r2.2 7 (by decide)) (f_r2.2 8 (by decide)) (f_r2.2 10 (by decide)) q4
    have k30 : lnk Ac2 gg x4.toInt.toNat x3.toInt := lnk_fr (f_r2.2 7 (by decide)) (f_r2.2 8 (by decide)) (f_r2.2 10 (by decide)) q7
    have k31 : leaf Ac2 gg x4.toInt.toNat := leaf_fr (f_r2.2 10 (by decide)) q8
    have k32 : lnk Ac2 gg x7.toInt.toNat x3.toInt := lnk_fr (f_r2.2 7 (by decide)) (f_r2.2 8 (by decide)) (f_r2.2 10 (by decide)) q9
    have k33 : cK Ac2 gg (aK A gg) := cK_fr (f_r2.2 7 (by decide)) ck0
    unfold f_readLine_219
    have b_Ic2_1 := tI_1 hI_Ic2
    have b_Ic2_37 := tI_37 hI_Ic2
    exact hself113 x1 x2 x3 x4 r2 x7 Ic2 Ac2 hI_Ic2 hA_Ac2 r_x1 r_x2 r_x3 r_x4 (by omega) r_x7 (by omega) (by omega) k27 k28 k29 q5 q6 k30 k31 k32 q10 q11 q12 q13 (by have z := k33; unfold cK at z; omega) (by omega)
  ·
    replace c26 := ti_leN c26 rfl (show (0 : Int32).toInt = 0 from rfl)
    unfold f_readLine_219
    have b_I1_1 := tI_1 hI_I1
    have b_I1_37 := tI_37 hI_I1
    exact hself113 x1 x2 x3 x4 x5 x7 I1 A hI_I1 hA r_x1 r_x2 r_x3 r_x4 r_x5 r_x7 (by omega) (by omega) q2 q3 q4 q5 q6 q7 q8 q9 q10 q11 q12 q13 m3 (by omega)
theorem t_readLine_178 {gg hh nb : Nat} {aa : Int} {A0 : Nat → Nat → Int32} {nd : Nat} {rr : Int} {I : Nat → Int32} {A : Nat → Nat → Int32} {rec : Int32 → Int32 → Int32 → (Nat → Int32) → (Nat → Nat → Int32) → Option (Int32 × MS)} (hrec : ∀ (gg hh nb : Nat) (aa : Int) (A0 : Nat → Nat → Int32) (nd : Nat) (x1 : Int32) (x2 : Int32) (x3 : Int32) (I : Nat → Int32) (A : Nat → Nat → Int32), TJ I → TK A → ((0 : Int) ≤ x1.toInt ∧ x1.toInt ≤ (1 : Int)) → ((0 : Int) ≤ x2.toInt ∧ x2.toInt ≤ (300 : Int)) → ((0 : Int) ≤ x3.toInt ∧ x3.toInt ≤ (6 : Int)) → ((I 37).toInt ≤ (I 1).toInt) → (aa ≤ (I 37).toInt) → (TRE A gg) → (TRH A hh nb) → (EX A gg A0 nd) → (x1.toInt = (gg : Int)) → (hh ≤ 1 ∧ hh ≠ gg) → (x2.toInt.toNat = nd ∨ aK A0 gg < x2.toInt.toNat) → (apd A gg x2.toInt.toNat x3.toInt) → (7 - x3.toInt ≤ rr - 1) → Ok (rec x1 x2 x3 I A) (fun o => TJ o.2.1 ∧ TK o.2.2 ∧ ((0 : Int) ≤ o.1.toInt ∧ o.1.toInt ≤ (92100 : Int)) ∧ ((o.2.1 37).toInt ≤ (o.2.1 1).toInt ∧ aa ≤ (o.2.1 37).toInt) ∧ ((o.1.toInt ≤ 0 → x3.toInt ≠ 0 → (o.2.1 37).toInt < (o.2.1 1).toInt)) ∧ (TRE o.2.2 gg) ∧ (TRH o.2.2 hh nb) ∧ (EX o.2.2 gg A0 nd))) (hfrec : ∀ (x1 : Int32) (x2 : Int32) (x3 : Int32) (I : Nat → Int32) (A : Nat → Nat → Int32) (o : Int32 × MS), rec x1 x2 x3 I A = some o → FrS [25, 26, 27, 28, 29, 33, 36, 37] [7, 8, 9, 10, 11, 12, 13, 14, 15, 24, 30, 31, 32, 34, 35] I A o.2.1 o.2.2) {self3 : Int32 → Int32 → Int32 → Int32 → (Nat → Int32) → (Nat → Nat → Int32) → Option (Int32 × MS)} {N3 : Nat} (hself3 : ∀ (x1 : Int32) (x2 : Int32) (x3 : Int32) (x4 : Int32) (I : Nat → Int32) (A : Nat → Nat → Int32), TJ I → TK A → ((0 : Int) ≤ x1.toInt ∧ x1.toInt ≤ (1 : Int)) → ((0 : Int) ≤ x2.toInt ∧ x2.toInt ≤ (300 : Int)) → ((0 : Int) ≤ x3.toInt ∧ x3.toInt ≤ (6 : Int)) → ((0 : Int) ≤ x4.toInt ∧ x4.toInt ≤ (300 : Int)) → ((I 37).toInt ≤ (I 1).toInt) → (aa ≤ (I 37).toInt) → (TRE A gg) → (TRH A hh nb) → (EX A gg A0 nd) → (x1.toInt = (gg : Int)) → (hh ≤ 1 ∧ hh ≠ gg) → (x4.toInt.toNat = nd ∨ aK A0 gg < x4.toInt.toNat) → (apd A gg x4.toInt.toNat x3.toInt) → (7 - x3.toInt ≤ rr) → (301 - (aK A gg : Int)) < (N3 : Int) → Ok (self3 x1 x2 x3 x4 I A) (fun o => TJ o.2.1 ∧ TK o.2.2 ∧ ((0 : Int) ≤ o.1.toInt ∧ o.1.toInt ≤ (92100 : Int)) ∧ ((o.2.1 37).toInt ≤ (o.2.1 1).toInt ∧ aa ≤ (o.2.1 37).toInt) ∧ ((o.1.toInt ≤ 0 → x3.toInt ≠ 0 → (o.2.1 37).toInt < (o.2.1 1).toInt)) ∧ (TRE o.2.2 gg) ∧ (TRH o.2.2 hh nb) ∧ (EX o.2.2 gg A0 nd))) {self113 : Int32 → Int32 → Int32 → Int32 → Int32 → Int32 → (Nat → Int32) → (Nat → Nat → Int32) → Option (Int32 × MS)} {N113 : Nat} (hself113 : ∀ (x1 : Int32) (x2 : Int32) (x3 : Int32) (x4 : Int32) (x5 : Int32) (x7 : Int32) (I : Nat → Int32) (A : Nat → Nat → Int32), TJ I → TK A → ((0 : Int) ≤ x1.toInt ∧ x1.toInt ≤ (1 : Int)) → ((0 : Int) ≤ x2.toInt ∧ x2.toInt ≤ (300 : Int)) → ((0 : Int) ≤ x3.toInt ∧ x3.toInt ≤ (6 : Int)) → ((0 : Int) ≤ x4.toInt ∧ x4.toInt ≤ (300 : Int)) → ((0 : Int) ≤ x5.toInt ∧ x5.toInt ≤ (92100 : Int)) → ((0 : Int) ≤ x7.toInt ∧ x7.toInt ≤ (300 : Int)) → ((I 37).toInt ≤ (I 1).toInt) → (aa ≤ (I 37).toInt) → (TRE A gg) → (TRH A hh nb) → (EX A gg A0 nd) → (x1.toInt = (gg : Int)) → (hh ≤ 1 ∧ hh ≠ gg) → (lnk A gg x4.toInt.toNat x3.toInt) → (leaf A gg x4.toInt.toNat) → (lnk A gg x7.toInt.toNat x3.toInt) → (aK A0 gg < x4.toInt.toNat) → (x7.toInt.toNat = nd ∨ aK A0 gg < x7.toInt.toNat) → (x7.toInt < x4.toInt) → (7 - x3.toInt ≤ rr) → ((302 - (aK A gg : Int)) ≤ (N3 : Int)) → ((I 1).toInt - (I 37).toInt) < (N113 : Int) → Ok (self113 x1 x2 x3 x4 x5 x7 I A) (fun o => TJ o.2.1 ∧ TK o.2.2 ∧ ((0 : Int) ≤ o.1.toInt ∧ o.1.toInt ≤ (92100 : Int)) ∧ ((o.2.1 37).toInt ≤ (o.2.1 1).toInt ∧ aa ≤ (o.2.1 37).toInt) ∧ ((o.1.toInt ≤ 0 → x3.toInt ≠ 0 → (o.2.1 37).toInt < (o.2.1 1).toInt)) ∧ (TRE o.2.2 gg) ∧ (TRH o.2.2 hh nb) ∧ (EX o.2.2 gg A0 nd))) {x1 : Int32} {x2 : Int32} {x3 : Int32} {x4 : Int32} {x7 : Int32} {t0 : Int32} (hI : TJ I) (hA : TK A) (r_x1 : (0 : Int) ≤ x1.toInt ∧ x1.toInt ≤ (1 : Int)) (r_x2 : (0 : Int) ≤ x2.toInt ∧ x2.toInt ≤ (300 : Int)) (r_x3 : (0 : Int) ≤ x3.toInt ∧ x3.toInt ≤ (6 : Int)) (r_x4 : (0 : Int) ≤ x4.toInt ∧ x4.toInt ≤ (300 : Int)) (r_x7 : (0 : Int) ≤ x7.toInt ∧ x7.toInt ≤ (300 : Int)) (r_t0 : (0 : Int) ≤ t0.toInt ∧ t0.toInt ≤ (92100 : Int)) (q0 : (I 37).toInt ≤ (I 1).toInt) (q1 : aa ≤ (I 37).toInt) (q2 : TRE A gg) (q3 : TRH A hh nb) (q4 : EX A gg A0 nd) (q5 : x1.toInt = (gg : Int)) (q6 : hh ≤ 1 ∧ hh ≠ gg) (q7 : lnk A gg x4.toInt.toNat x3.toInt) (q8 : leaf A gg x4.toInt.toNat) (q9 : lnk A gg x7.toInt.toNat x3.toInt) (q10 : aK A0 gg < x4.toInt.toNat) (q11 : x7.toInt.toNat = nd ∨ aK A0 gg < x7.toInt.toNat) (q12 : x7.toInt < x4.toInt) (q13 : 7 - x3.toInt ≤ rr) (q14 : t0.toInt ≤ 0 → (I 37).toInt < (I 1).toInt) (m3 : (302 - (aK A gg : Int)) ≤ (N3 : Int)) (m113 : ((I 1).toInt - (I 37).toInt + 1) ≤ (N113 : Int)) : Ok (f_readLine_178 rec self3 self113 x1 x2 x3 x4 x7 t0 I A) (fun o => TJ o.2.1 ∧ TK o.2.2 ∧ ((0 : Int) ≤ o.1.toInt ∧ o.1.toInt ≤ (92100 : Int)) ∧ ((o.2.1 37).toInt ≤ (o.2.1 1).toInt ∧ aa ≤ (o.2.1 37).toInt) ∧ ((o.1.toInt ≤ 0 → x3.toInt ≠ 0 → (o.2.1 37).toInt < (o.2.1 1).toInt)) ∧ (TRE o.2.2 gg) ∧ (TRH o.2.2 hh nb) ∧ (EX o.2.2 gg A0 nd)) := by
  unfold f_readLine_178
  have b_I_1 := tI_1 hI
  have b_I_37 := tI_37 hI
  have b_I_29 := tI_29 hI
  refine ok_if (fun c34 => ?_) (fun c34 => ?_)
  ·
    replace c34 := ti_leP c34 rfl (show (0 : Int32).toInt = 0 from rfl)
    refine ok_bnd (fun v1 e35 => ?_)
    have t_v1 : v1.toInt = (I 37).toInt + 1 := ti_add e35 rfl (show (1 : Int32).toInt = 1 from rfl) (by omega) (by omega)
    exact t_readLine_199 (gg := gg) (hh := hh) (nb := nb) (aa := aa) (A0 := A0) (nd := nd) (rr := rr) hrec hfrec hself3 hself113 (x1 := x1) (x2 := x2) (x3 := x3) (x4 := x4) (x5 := t0) (x7 := x7) (t0 := v1) hI hA r_x1 r_x2 r_x3 r_x4 r_t0 r_x7 (by omega) (by omega) (by omega) q2 q3 q4 q5 q6 q7 q8 q9 q10 q11 q12 q13 m3 (by omega)
  ·
    replace c34 := ti_leN c34 rfl (show (0 : Int32).toInt = 0 from rfl)
    exact t_readLine_199 (gg := gg) (hh := hh) (nb := nb) (aa := aa) (A0 := A0) (nd := nd) (rr := rr) hrec hfrec hself3 hself113 (x1 := x1) (x2 := x2) (x3 := x3) (x4 := x4) (x5 := t0) (x7 := x7) (t0 := (I 37)) hI hA r_x1 r_x2 r_x3 r_x4 r_t0 r_x7 (by omega) q0 q1 q2 q3 q4 q5 q6 q7 q8 q9 q10 q11 q12 q13 m3 m113
theorem t_readLine_146 {gg hh nb : Nat} {aa : Int} {A0 : Nat → Nat → Int32} {nd : Nat} {rr : Int} {I : Nat → Int32} {A : Nat → Nat → Int32} {rec : Int32 → Int32 → Int32 → (Nat → Int32) → (Nat → Nat → Int32) → Option (Int32 × MS)} (hrec : ∀ (gg hh nb : Nat) (aa : Int) (A0 : Nat → Nat → Int32) (nd : Nat) (x1 : Int32) (x2 : Int32) (x3 : Int32) (I : Nat → Int32) (A : Nat → Nat → Int32), TJ I → TK A → ((0 : Int) ≤ x1.toInt ∧ x1.toInt ≤ (1 : Int)) → ((0 : Int) ≤ x2.toInt ∧ x2.toInt ≤ (300 : Int)) → ((0 : Int) ≤ x3.toInt ∧ x3.toInt ≤ (6 : Int)) → ((I 37).toInt ≤ (I 1).toInt) → (aa ≤ (I 37).toInt) → (TRE A gg) → (TRH A hh nb) → (EX A gg A0 nd) → (x1.toInt = (gg : Int)) → (hh ≤ 1 ∧ hh ≠ gg) → (x2.toInt.toNat = nd ∨ aK A0 gg < x2.toInt.toNat) → (apd A gg x2.toInt.toNat x3.toInt) → (7 - x3.toInt ≤ rr - 1) → Ok (rec x1 x2 x3 I A) (fun o => TJ o.2.1 ∧ TK o.2.2 ∧ ((0 : Int) ≤ o.1.toInt ∧ o.1.toInt ≤ (92100 : Int)) ∧ ((o.2.1 37).toInt ≤ (o.2.1 1).toInt ∧ aa ≤ (o.2.1 37).toInt) ∧ ((o.1.toInt ≤ 0 → x3.toInt ≠ 0 → (o.2.1 37).toInt < (o.2.1 1).toInt)) ∧ (TRE o.2.2 gg) ∧ (TRH o.2.2 hh nb) ∧ (EX o.2.2 gg A0 nd))) (hfrec : ∀ (x1 : Int32) (x2 : Int32) (x3 : Int32) (I : Nat → Int32) (A : Nat → Nat → Int32) (o : Int32 × MS), rec x1 x2 x3 I A = some o → FrS [25, 26, 27, 28, 29, 33, 36, 37] [7, 8, 9, 10, 11, 12, 13, 14, 15, 24, 30, 31, 32, 34, 35] I A o.2.1 o.2.2) {self3 : Int32 → Int32 → Int32 → Int32 → (Nat → Int32) → (Nat → Nat → Int32) → Option (Int32 × MS)} {N3 : Nat} (hself3 : ∀ (x1 : Int32) (x2 : Int32) (x3 : Int32) (x4 : Int32) (I : Nat → Int32) (A : Nat → Nat → Int32), TJ I → TK A → ((0 : Int) ≤ x1.toInt ∧ x1.toInt ≤ (1 : Int)) → ((0 : Int) ≤ x2.toInt ∧ x2.toInt ≤ (300 : Int)) → ((0 : Int) ≤ x3.toInt ∧ x3.toInt ≤ (6 : Int)) → ((0 : Int) ≤ x4.toInt ∧ x4.toInt ≤ (300 : Int)) → ((I 37).toInt ≤ (I 1).toInt) → (aa ≤ (I 37).toInt) → (TRE A gg) → (TRH A hh nb) → (EX A gg A0 nd) → (x1.toInt = (gg : Int)) → (hh ≤ 1 ∧ hh ≠ gg) → (x4.toInt.toNat = nd ∨ aK A0 gg < x4.toInt.toNat) → (apd A gg x4.toInt.toNat x3.toInt) → (7 - x3.toInt ≤ rr) → (301 - (aK A gg : Int)) < (N3 : Int) → Ok (self3 x1 x2 x3 x4 I A) (fun o => TJ o.2.1 ∧ TK o.2.2 ∧ ((0 : Int) ≤ o.1.toInt ∧ o.1.toInt ≤ (92100 : Int)) ∧ ((o.2.1 37).toInt ≤ (o.2.1 1).toInt ∧ aa ≤ (o.2.1 37).toInt) ∧ ((o.1.toInt ≤ 0 → x3.toInt ≠ 0 → (o.2.1 37).toInt < (o.2.1 1).toInt)) ∧ (TRE o.2.2 gg) ∧ (TRH o.2.2 hh nb) ∧ (EX o.2.2 gg A0 nd))) {self113 : Int32 → Int32 → Int32 → Int32 → Int32 → Int32 → (Nat → Int32) → (Nat → Nat → Int32) → Option (Int32 × MS)} {N113 : Nat} (hself113 : ∀ (x1 : Int32) (x2 : Int32) (x3 : Int32) (x4 : Int32) (x5 : Int32) (x7 : Int32) (I : Nat → Int32) (A : Nat → Nat → Int32), TJ I → TK A → ((0 : Int) ≤ x1.toInt ∧ x1.toInt ≤ (1 : Int)) → ((0 : Int) ≤ x2.toInt ∧ x2.toInt ≤ (300 : Int)) → ((0 : Int) ≤ x3.toInt ∧ x3.toInt ≤ (6 : Int)) → ((0 : Int) ≤ x4.toInt ∧ x4.toInt ≤ (300 : Int)) → ((0 : Int) ≤ x5.toInt ∧ x5.toInt ≤ (92100 : Int)) → ((0 : Int) ≤ x7.toInt ∧ x7.toInt ≤ (300 : Int)) → ((I 37).toInt ≤ (I 1).toInt) → (aa ≤ (I 37).toInt) → (TRE A gg) → (TRH A hh nb) → (EX A gg A0 nd) → (x1.toInt = (gg : Int)) → (hh ≤ 1 ∧ hh ≠ gg) → (lnk A gg x4.toInt.toNat x3.toInt) → (leaf A gg x4.toInt.toNat) → (lnk A gg x7.toInt.toNat x3.toInt) → (aK A0 gg < x4.toInt.toNat) → (x7.toInt.toNat = nd ∨ aK A0 gg < x7.toInt.toNat) → (x7.toInt < x4.toInt) → (7 - x3.toInt ≤ rr) → ((302 - (aK A gg : Int)) ≤ (N3 : Int)) → ((I 1).toInt - (I 37).toInt) < (N113 : Int) → Ok (self113 x1 x2 x3 x4 x5 x7 I A) (fun o => TJ o.2.1 ∧ TK o.2.2 ∧ ((0 : Int) ≤ o.1.toInt ∧ o.1.toInt ≤ (92100 : Int)) ∧ ((o.2.1 37).toInt ≤ (o.2.1 1).toInt ∧ aa ≤ (o.2.1 37).toInt) ∧ ((o.1.toInt ≤ 0 → x3.toInt ≠ 0 → (o.2.1 37).toInt < (o.2.1 1).toInt)) ∧ (TRE o.2.2 gg) ∧ (TRH o.2.2 hh nb) ∧ (EX o.2.2 gg A0 nd))) {x1 : Int32} {x2 : Int32} {x3 : Int32} {x4 : Int32} {x7 : Int32} {t0 : Int32} (hI : TJ I) (hA : TK A) (r_x1 : (0 : Int) ≤ x1.toInt ∧ x1.toInt ≤ (1 : Int)) (r_x2 : (0 : Int) ≤ x2.toInt ∧ x2.toInt ≤ (300 : Int)) (r_x3 : (0 : Int) ≤ x3.toInt ∧ x3.toInt ≤ (6 : Int)) (r_x4 : (0 : Int) ≤ x4.toInt ∧ x4.toInt ≤ (300 : Int)) (r_x7 : (0 : Int) ≤ x7.toInt ∧ x7.toInt ≤ (300 : Int)) (r_t0 : (0 : Int) ≤ t0.toInt ∧ t0.toInt ≤ (92100 : Int)) (q0 : (I 37).toInt < (I 1).toInt) (q1 : aa ≤ (I 37).toInt) (q2 : TRE A gg) (q3 : TRH A hh nb) (q4 : EX A gg A0 nd) (q5 : x1.toInt = (gg : Int)) (q6 : hh ≤ 1 ∧ hh ≠ gg) (q7 : lnk A gg x4.toInt.toNat x3.toInt) (q8 : leaf A gg x4.toInt.toNat) (q9 : lnk A gg x7.toInt.toNat x3.toInt) (q10 : aK A0 gg < x4.toInt.toNat) (q11 : x7.toInt.toNat = nd ∨ aK A0 gg < x7.toInt.toNat) (q12 : x7.toInt < x4.toInt) (q13 : 7 - x3.toInt ≤ rr) (q14 : t0.toInt ≤ 0 → x3.toInt ≤ 5) (m3 : (302 - (aK A gg : Int)) ≤ (N3 : Int)) (m113 : ((I 1).toInt - (I 37).toInt) ≤ (N113 : Int)) : Ok (f_readLine_146 rec self3 self113 x1 x2 x3 x4 x7 t0 I A) (fun o => TJ o.2.1 ∧ TK o.2.2 ∧ ((0 : Int) ≤ o.1.toInt ∧ o.1.toInt ≤ (92100 : Int)) ∧ ((o.2.1 37).toInt ≤ (o.2.1 1).toInt ∧ aa ≤ (o.2.1 37).toInt) ∧ ((o.1.toInt ≤ 0 → x3.toInt ≠ 0 → (o.2.1 37).toInt < (o.2.1 1).toInt)) ∧ (TRE o.2.2 gg) ∧ (TRH o.2.2 hh nb) ∧ (EX o.2.2 gg A0 nd)) := by
  unfold f_readLine_146
  have b_I_1 := tI_1 hI
  have b_I_37 := tI_37 hI
  have b_I_29 := tI_29 hI
  refine ok_bnd (fun v1 e36 => ?_)
  have t_v1 : v1.toInt = (I 37).toInt + 1 := ti_add e36 rfl (show (1 : Int32).toInt = 1 from rfl) (by omega) (by omega)
  refine ok_bnd (fun I2 e37 => ?_)
  have hI_I2 : TJ I2 := e37.symm ▸ tj_u hI (k := 37) (show (0 : Int) ≤ v1.toInt from (by omega)) (show v1.toInt ≤ (2100 : Int) from (by omega))
  have : (I2 1).toInt = (I 1).toInt := by rw [e37]; rfl
  have : (I2 37).toInt = v1.toInt := by rw [e37]; exact rfl
  have : (I2 29).toInt = (I 29).toInt := by rw [e37]; rfl
  refine ok_if (fun c38 => ?_) (fun c38 => ?_)
  ·
    replace c38 := ti_leP c38 rfl (show (0 : Int32).toInt = 0 from rfl)
    refine ok_bnd (fun v3 e39 => ?_)
    have t_v3 : v3.toInt = x3.toInt + 1 := ti_add e39 rfl (show (1 : Int32).toInt = 1 from rfl) (by omega) (by omega)
    have b_I2_1 := tI_1 hI_I2
    have b_I2_37 := tI_37 hI_I2
    obtain ⟨⟨r4, Ic4, Ac4⟩, h_r4, hI_Ic4, hA_Ac4, p_r4, p_r4_0, p_r4_1, p_r4_2, p_r4_3, p_r4_4⟩ := hrec (gg) (hh) (nb) ((I2 37).toInt) (A) (x7.toInt.toNat) x1 x7 v3 I2 A  hI_I2 hA r_x1 r_x7 (by omega) (by omega) (by omega) q2 q3 EX_refl q5 q6 (Or.inl rfl) (by rw [t_v3]; exact apd_lnk q9) (by omega)
    replace hI_Ic4 : TJ Ic4 := hI_Ic4
    replace hA_Ac4 : TK Ac4 := hA_Ac4
    dsimp only at p_r4 p_r4_0 p_r4_1 p_r4_2 p_r4_3 p_r4_4
    refine ok_clR h_r4 ?_
    have f_r4 := hfrec _ _ _ _ _ _ h_r4
    have : (Ic4 1).toInt = (I2 1).toInt := congrArg Int32.toInt (f_r4.1 1 (by decide))
    have ex4 : EX Ac4 gg A0 nd := EX_tr q4 p_r4_4 q11
    have ln4 : lnk Ac4 gg x4.toInt.toNat x3.toInt := p_r4_4.2.1 _ _ q7
    have lf4 : leaf Ac4 gg x4.toInt.toNat := p_r4_4.2.2 _ (q7).1 (by omega) q8
    have lb4 : lnk Ac4 gg x7.toInt.toNat x3.toInt := p_r4_4.2.1 _ _ q9
    have k4 := p_r4_4.1
    have b_Ic4_1 := tI_1 hI_Ic4
    have b_Ic4_37 := tI_37 hI_Ic4
    exact t_readLine_178 (gg := gg) (hh := hh) (nb := nb) (aa := aa) (A0 := A0) (nd := nd) (rr := rr) hrec hfrec hself3 hself113 (x1 := x1) (x2 := x2) (x3 := x3) (x4 := x4) (x7 := x7) (t0 := r4) hI_Ic4 hA_Ac4 r_x1 r_x2 r_x3 r_x4 r_x7 (by omega) (by omega) (by omega) p_r4_2 p_r4_3 ex4 q5 q6 ln4 lf4 lb4 q10 q11 q12 q13 (by first | exact (fun h => p_r4_1 h (by omega)) | omega) (by omega) (by omega)
  ·
    replace c38 := ti_leN c38 rfl (show (0 : Int32).toInt = 0 from rfl)
    have b_I2_1 := tI_1 hI_I2
    have b_I2_37 := tI_37 hI_I2
    exact t_readLine_178 (gg := gg) (hh := hh) (nb := nb) (aa := aa) (A0 := A0) (nd := nd) (rr := rr) hrec hfrec hself3 hself113 (x1 := x1) (x2 := x2) (x3 := x3) (x4 := x4) (x7 := x7) (t0 := t0) hI_I2 hA r_x1 r_x2 r_x3 r_x4 r_x7 r_t0 (by omega) (by omega) q2 q3 q4 q5 q6 q7 q8 q9 q10 q11 q12 q13 (by first | exact (fun h => p_r4_1 h (by omega)) | omega) m3 (by omega)
theorem t_readLine_113s {gg hh nb : Nat} {aa : Int} {A0 : Nat → Nat → Int32} {nd : Nat} {rr : Int} {I : Nat → Int32} {A : Nat → Nat → Int32} {rec : Int32 → Int32 → Int32 → (Nat → Int32) → (Nat → Nat → Int32) → Option (Int32 × MS)} (hrec : ∀ (gg hh nb : Nat) (aa : Int) (A0 : Nat → Nat → Int32) (nd : Nat) (x1 : Int32) (x2 : Int32) (x3 : Int32) (I : Nat → Int32) (A : Nat → Nat → Int32), TJ I → TK A → ((0 : Int) ≤ x1.toInt ∧ x1.toInt ≤ (1 : Int)) → ((0 : Int) ≤ x2.toInt ∧ x2.toInt ≤ (300 : Int)) → ((0 : Int) ≤ x3.toInt ∧ x3.toInt ≤ (6 : Int)) → ((I 37).toInt ≤ (I 1).toInt) → (aa ≤ (I 37).toInt) → (TRE A gg) → (TRH A hh nb) → (EX A gg A0 nd) → (x1.toInt = (gg : Int)) → (hh ≤ 1 ∧ hh ≠ gg) → (x2.toInt.toNat = nd ∨ aK A0 gg < x2.toInt.toNat) → (apd A gg x2.toInt.toNat x3.toInt) → (7 - x3.toInt ≤ rr - 1) → Ok (rec x1 x2 x3 I A) (fun o => TJ o.2.1 ∧ TK o.2.2 ∧ ((0 : Int) ≤ o.1.toInt ∧ o.1.toInt ≤ (92100 : Int)) ∧ ((o.2.1 37).toInt ≤ (o.2.1 1).toInt ∧ aa ≤ (o.2.1 37).toInt) ∧ ((o.1.toInt ≤ 0 → x3.toInt ≠ 0 → (o.2.1 37).toInt < (o.2.1 1).toInt)) ∧ (TRE o.2.2 gg) ∧ (TRH o.2.2 hh nb) ∧ (EX o.2.2 gg A0 nd))) (hfrec : ∀ (x1 : Int32) (x2 : Int32) (x3 : Int32) (I : Nat → Int32) (A : Nat → Nat → Int32) (o : Int32 × MS), rec x1 x2 x3 I A = some o → FrS [25, 26, 27, 28, 29, 33, 36, 37] [7, 8, 9, 10, 11, 12, 13, 14, 15, 24, 30, 31, 32, 34, 35] I A o.2.1 o.2.2) {self3 : Int32 → Int32 → Int32 → Int32 → (Nat → Int32) → (Nat → Nat → Int32) → Option (Int32 × MS)} {N3 : Nat} (hself3 : ∀ (x1 : Int32) (x2 : Int32) (x3 : Int32) (x4 : Int32) (I : Nat → Int32) (A : Nat → Nat → Int32), TJ I → TK A → ((0 : Int) ≤ x1.toInt ∧ x1.toInt ≤ (1 : Int)) → ((0 : Int) ≤ x2.toInt ∧ x2.toInt ≤ (300 : Int)) → ((0 : Int) ≤ x3.toInt ∧ x3.toInt ≤ (6 : Int)) → ((0 : Int) ≤ x4.toInt ∧ x4.toInt ≤ (300 : Int)) → ((I 37).toInt ≤ (I 1).toInt) → (aa ≤ (I 37).toInt) → (TRE A gg) → (TRH A hh nb) → (EX A gg A0 nd) → (x1.toInt = (gg : Int)) → (hh ≤ 1 ∧ hh ≠ gg) → (x4.toInt.toNat = nd ∨ aK A0 gg < x4.toInt.toNat) → (apd A gg x4.toInt.toNat x3.toInt) → (7 - x3.toInt ≤ rr) → (301 - (aK A gg : Int)) < (N3 : Int) → Ok (self3 x1 x2 x3 x4 I A) (fun o => TJ o.2.1 ∧ TK o.2.2 ∧ ((0 : Int) ≤ o.1.toInt ∧ o.1.toInt ≤ (92100 : Int)) ∧ ((o.2.1 37).toInt ≤ (o.2.1 1).toInt ∧ aa ≤ (o.2.1 37).toInt) ∧ ((o.1.toInt ≤ 0 → x3.toInt ≠ 0 → (o.2.1 37).toInt < (o.2.1 1).toInt)) ∧ (TRE o.2.2 gg) ∧ (TRH o.2.2 hh nb) ∧ (EX o.2.2 gg A0 nd))) {self113 : Int32 → Int32 → Int32 → Int32 → Int32 → Int32 → (Nat → Int32) → (Nat → Nat → Int32) → Option (Int32 × MS)} {N113 : Nat} (hself113 : ∀ (x1 : Int32) (x2 : Int32) (x3 : Int32) (x4 : Int32) (x5 : Int32) (x7 : Int32) (I : Nat → Int32) (A : Nat → Nat → Int32), TJ I → TK A → ((0 : Int) ≤ x1.toInt ∧ x1.toInt ≤ (1 : Int)) → ((0 : Int) ≤ x2.toInt ∧ x2.toInt ≤ (300 : Int)) → ((0 : Int) ≤ x3.toInt ∧ x3.toInt ≤ (6 : Int)) → ((0 : Int) ≤ x4.toInt ∧ x4.toInt ≤ (300 : Int)) → ((0 : Int) ≤ x5.toInt ∧ x5.toInt ≤ (92100 : Int)) → ((0 : Int) ≤ x7.toInt ∧ x7.toInt ≤ (300 : Int)) → ((I 37).toInt ≤ (I 1).toInt) → (aa ≤ (I 37).toInt) → (TRE A gg) → (TRH A hh nb) → (EX A gg A0 nd) → (x1.toInt = (gg : Int)) → (hh ≤ 1 ∧ hh ≠ gg) → (lnk A gg x4.toInt.toNat x3.toInt) → (leaf A gg x4.toInt.toNat) → (lnk A gg x7.toInt.toNat x3.toInt) → (aK A0 gg < x4.toInt.toNat) → (x7.toInt.toNat = nd ∨ aK A0 gg < x7.toInt.toNat) → (x7.toInt < x4.toInt) → (7 - x3.toInt ≤ rr) → ((302 - (aK A gg : Int)) ≤ (N3 : Int)) → ((I 1).toInt - (I 37).toInt) < (N113 : Int) → Ok (self113 x1 x2 x3 x4 x5 x7 I A) (fun o => TJ o.2.1 ∧ TK o.2.2 ∧ ((0 : Int) ≤ o.1.toInt ∧ o.1.toInt ≤ (92100 : Int)) ∧ ((o.2.1 37).toInt ≤ (o.2.1 1).toInt ∧ aa ≤ (o.2.1 37).toInt) ∧ ((o.1.toInt ≤ 0 → x3.toInt ≠ 0 → (o.2.1 37).toInt < (o.2.1 1).toInt)) ∧ (TRE o.2.2 gg) ∧ (TRH o.2.2 hh nb) ∧ (EX o.2.2 gg A0 nd))) {x1 : Int32} {x2 : Int32} {x3 : Int32} {x4 : Int32} {x5 : Int32} {x7 : Int32} (hI : TJ I) (hA : TK A) (r_x1 : (0 : Int) ≤ x1.toInt ∧ x1.toInt ≤ (1 : Int)) (r_x2 : (0 : Int) ≤ x2.toInt ∧ x2.toInt ≤ (300 : Int)) (r_x3 : (0 : Int) ≤ x3.toInt ∧ x3.toInt ≤ (6 : Int)) (r_x4 : (0 : Int) ≤ x4.toInt ∧ x4.toInt ≤ (300 : Int)) (r_x5 : (0 : Int) ≤ x5.toInt ∧ x5.toInt ≤ (92100 : Int)) (r_x7 : (0 : Int) ≤ x7.toInt ∧ x7.toInt ≤ (300 : Int)) (q0 : (I 37).toInt ≤ (I 1).toInt) (q1 : aa ≤ (I 37).toInt) (q2 : TRE A gg) (q3 : TRH A hh nb) (q4 : EX A gg A0 nd) (q5 : x1.toInt = (gg : Int)) (q6 : hh ≤ 1 ∧ hh ≠ gg) (q7 : lnk A gg x4.toInt.toNat x3.toInt) (q8 : leaf A gg x4.toInt.toNat) (q9 : lnk A gg x7.toInt.toNat x3.toInt) (q10 : aK A0 gg < x4.toInt.toNat) (q11 : x7.toInt.toNat = nd ∨ aK A0 gg < x7.toInt.toNat) (q12 : x7.toInt < x4.toInt) (q13 : 7 - x3.toInt ≤ rr) (m3 : (302 - (aK A gg : Int)) ≤ (N3 : Int)) (m113 : ((I 1).toInt - (I 37).toInt) ≤ (N113 : Int)) : Ok (f_readLine_113s rec self3 self113 x1 x2 x3 x4 x5 x7 I A) (fun o => TJ o.2.1 ∧ TK o.2.2 ∧ ((0 : Int) ≤ o.1.toInt ∧ o.1.toInt ≤ (92100 : Int)) ∧ ((o.2.1 37).toInt ≤ (o.2.1 1).toInt ∧ aa ≤ (o.2.1 37).toInt) ∧ ((o.1.toInt ≤ 0 → x3.toInt ≠ 0 → (o.2.1 37).toInt < (o.2.1 1).toInt)) ∧ (TRE o.2.2 gg) ∧ (TRH o.2.2 hh nb) ∧ (EX o.2.2 gg A0 nd)) := by
  unfold f_readLine_113s
  have b_I_1 := tI_1 hI
  have b_I_37 := tI_37 hI
  have b_I_29 := tI_29 hI
  refine ok_if (fun c40 => ?_) (fun c40 => ?_)
  ·
    replace c40 := ti_eqP c40 rfl (show (0 : Int32).toInt = 0 from rfl)
    obtain ⟨r1, h_r1, p_r1⟩ := ro (t_look   hI hA )
    refine ok_clR h_r1 ?_
    dsimp only at p_r1
    refine ok_if (fun c41 => ?_) (fun c41 => ?_)
    ·
      replace c41 := ti_eqP c41 rfl (show (40 : Int32).toInt = 40 from rfl)
      refine ok_if (fun c42 => ?_) (fun c42 => ?_)
      ·
        replace c42 := ti_eqP c42 rfl (show (6 : Int32).toInt = 6 from rfl)
        obtain ⟨r2, h_r2, p_r2⟩ := ro (t_fault (x0 := (8 : Int32)) (x1 := (I 37))  hI hA (by decide) (by omega))
        refine ok_clR h_r2 ?_
        dsimp only at p_r2
        exact t_readLine_146 (gg := gg) (hh := hh) (nb := nb) (aa := aa) (A0 := A0) (nd := nd) (rr := rr) hrec hfrec hself3 hself113 (x1 := x1) (x2 := x2) (x3 := x3) (x4 := x4) (x7 := x7) (t0 := r2) hI hA r_x1 r_x2 r_x3 r_x4 r_x7 (by omega) (by omega) q1 q2 q3 q4 q5 q6 q7 q8 q9 q10 q11 q12 q13 (by omega) m3 m113
      ·
        replace c42 := ti_eqN c42 rfl (show (6 : Int32).toInt = 6 from rfl)
        exact t_readLine_146 (gg := gg) (hh := hh) (nb := nb) (aa := aa) (A0 := A0) (nd := nd) (rr := rr) hrec hfrec hself3 hself113 (x1 := x1) (x2 := x2) (x3 := x3) (x4 := x4) (x7 := x7) (t0 := (0 : Int32)) hI hA r_x1 r_x2 r_x3 r_x4 r_x7 (by decide) (by have z0 : (0 : Int32).toInt = 0 := rfl; omega) q1 q2 q3 q4 q5 q6 q7 q8 q9 q10 q11 q12 q13 (by have z0 : (0 : Int32).toInt = 0 := rfl; omega) m3 m113
    ·
      replace c41 := ti_eqN c41 rfl (show (40 : Int32).toInt = 40 from rfl)
      unfold f_readLine_224
      refine ok_if (fun c43 => ?_) (fun c43 => ?_)
      ·
        replace c43 := ti_leP c43 rfl (show (0 : Int32).toInt = 0 from rfl)
        exact hself3 x1 x2 x3 x4 I A hI hA r_x1 r_x2 r_x3 r_x4 q0 q1 q2 q3 q4 q5 q6 (Or.inr q10) (apd_leaf q7 q8) q13 (by omega)
      ·
        replace c43 := ti_leN c43 rfl (show (0 : Int32).toInt = 0 from rfl)
        exact ok_ret ⟨hI, hA, (show (0 : Int) ≤ x5.toInt ∧ x5.toInt ≤ (92100 : Int) from (by omega)), (by show (I 37).toInt ≤ (I 1).toInt ∧ aa ≤ (I 37).toInt; omega), (by show ((x5 : Int32).toInt ≤ 0 → x3.toInt ≠ 0 → (I 37).toInt < (I 1).toInt); intro h h2; omega), q2, q3, q4⟩
  ·
    replace c40 := ti_eqN c40 rfl (show (0 : Int32).toInt = 0 from rfl)
    unfold f_readLine_224
    refine ok_if (fun c44 => ?_) (fun c44 => ?_)
    ·
      replace c44 := ti_leP c44 rfl (show (0 : Int32).toInt = 0 from rfl)
      exact hself3 x1 x2 x3 x4 I A hI hA r_x1 r_x2 r_x3 r_x4 q0 q1 q2 q3 q4 q5 q6 (Or.inr q10) (apd_leaf q7 q8) q13 (by omega)
    ·
      replace c44 := ti_leN c44 rfl (show (0 : Int32).toInt = 0 from rfl)
      exact ok_ret ⟨hI, hA, (show (0 : Int) ≤ x5.toInt ∧ x5.toInt ≤ (92100 : Int) from (by omega)), (by show (I 37).toInt ≤ (I 1).toInt ∧ aa ≤ (I 37).toInt; omega), (by show ((x5 : Int32).toInt ≤ 0 → x3.toInt ≠ 0 → (I 37).toInt < (I 1).toInt); intro h h2; omega), q2, q3, q4⟩
theorem t_readLine_113 {gg hh nb : Nat} {aa : Int} {A0 : Nat → Nat → Int32} {nd : Nat} {rr : Int} {rec : Int32 → Int32 → Int32 → (Nat → Int32) → (Nat → Nat → Int32) → Option (Int32 × MS)} (hrec : ∀ (gg hh nb : Nat) (aa : Int) (A0 : Nat → Nat → Int32) (nd : Nat) (x1 : Int32) (x2 : Int32) (x3 : Int32) (I : Nat → Int32) (A : Nat → Nat → Int32), TJ I → TK A → ((0 : Int) ≤ x1.toInt ∧ x1.toInt ≤ (1 : Int)) → ((0 : Int) ≤ x2.toInt ∧ x2.toInt ≤ (300 : Int)) → ((0 : Int) ≤ x3.toInt ∧ x3.toInt ≤ (6 : Int)) → ((I 37).toInt ≤ (I 1).toInt) → (aa ≤ (I 37).toInt) → (TRE A gg) → (TRH A hh nb) → (EX A gg A0 nd) → (x1.toInt = (gg : Int)) → (hh ≤ 1 ∧ hh ≠ gg) → (x2.toInt.toNat = nd ∨ aK A0 gg < x2.toInt.toNat) → (apd A gg x2.toInt.toNat x3.toInt) → (7 - x3.toInt ≤ rr - 1) → Ok (rec x1 x2 x3 I A) (fun o => TJ o.2.1 ∧ TK o.2.2 ∧ ((0 : Int) ≤ o.1.toInt ∧ o.1.toInt ≤ (92100 : Int)) ∧ ((o.2.1 37).toInt ≤ (o.2.1 1).toInt ∧ aa ≤ (o.2.1 37).toInt) ∧ ((o.1.toInt ≤ 0 → x3.toInt ≠ 0 → (o.2.1 37).toInt < (o.2.1 1).toInt)) ∧ (TRE o.2.2 gg) ∧ (TRH o.2.2 hh nb) ∧ (EX o.2.2 gg A0 nd))) (hfrec : ∀ (x1 : Int32) (x2 : Int32) (x3 : Int32) (I : Nat → Int32) (A : Nat → Nat → Int32) (o : Int32 × MS), rec x1 x2 x3 I A = some o → FrS [25, 26, 27, 28, 29, 33, 36, 37] [7, 8, 9, 10, 11, 12, 13, 14, 15, 24, 30, 31, 32, 34, 35] I A o.2.1 o.2.2) {self3 : Int32 → Int32 → Int32 → Int32 → (Nat → Int32) → (Nat → Nat → Int32) → Option (Int32 × MS)} {N3 : Nat} (hself3 : ∀ (x1 : Int32) (x2 : Int32) (x3 : Int32) (x4 : Int32) (I : Nat → Int32) (A : Nat → Nat → Int32), TJ I → TK A → ((0 : Int) ≤ x1.toInt ∧ x1.toInt ≤ (1 : Int)) → ((0 : Int) ≤ x2.toInt ∧ x2.toInt ≤ (300 : Int)) → ((0 : Int) ≤ x3.toInt ∧ x3.toInt ≤ (6 : Int)) → ((0 : Int) ≤ x4.toInt ∧ x4.toInt ≤ (300 : Int)) → ((I 37).toInt ≤ (I 1).toInt) → (aa ≤ (I 37).toInt) → (TRE A gg) → (TRH A hh nb) → (EX A gg A0 nd) → (x1.toInt = (gg : Int)) → (hh ≤ 1 ∧ hh ≠ gg) → (x4.toInt.toNat = nd ∨ aK A0 gg < x4.toInt.toNat) → (apd A gg x4.toInt.toNat x3.toInt) → (7 - x3.toInt ≤ rr) → (301 - (aK A gg : Int)) < (N3 : Int) → Ok (self3 x1 x2 x3 x4 I A) (fun o => TJ o.2.1 ∧ TK o.2.2 ∧ ((0 : Int) ≤ o.1.toInt ∧ o.1.toInt ≤ (92100 : Int)) ∧ ((o.2.1 37).toInt ≤ (o.2.1 1).toInt ∧ aa ≤ (o.2.1 37).toInt) ∧ ((o.1.toInt ≤ 0 → x3.toInt ≠ 0 → (o.2.1 37).toInt < (o.2.1 1).toInt)) ∧ (TRE o.2.2 gg) ∧ (TRH o.2.2 hh nb) ∧ (EX o.2.2 gg A0 nd))) : ∀ (n : Nat) (x1 : Int32) (x2 : Int32) (x3 : Int32) (x4 : Int32) (x5 : Int32) (x7 : Int32) (I : Nat → Int32) (A : Nat → Nat → Int32), TJ I → TK A → ((0 : Int) ≤ x1.toInt ∧ x1.toInt ≤ (1 : Int)) → ((0 : Int) ≤ x2.toInt ∧ x2.toInt ≤ (300 : Int)) → ((0 : Int) ≤ x3.toInt ∧ x3.toInt ≤ (6 : Int)) → ((0 : Int) ≤ x4.toInt ∧ x4.toInt ≤ (300 : Int)) → ((0 : Int) ≤ x5.toInt ∧ x5.toInt ≤ (92100 : Int)) → ((0 : Int) ≤ x7.toInt ∧ x7.toInt ≤ (300 : Int)) → ((I 37).toInt ≤ (I 1).toInt) → (aa ≤ (I 37).toInt) → (TRE A gg) → (TRH A hh nb) → (EX A gg A0 nd) → (x1.toInt = (gg : Int)) → (hh ≤ 1 ∧ hh ≠ gg) → (lnk A gg x4.toInt.toNat x3.toInt) → (leaf A gg x4.toInt.toNat) → (lnk A gg x7.toInt.toNat x3.toInt) → (aK A0 gg < x4.toInt.toNat) → (x7.toInt.toNat = nd ∨ aK A0 gg < x7.toInt.toNat) → (x7.toInt < x4.toInt) → (7 - x3.toInt ≤ rr) → ((302 - (aK A gg : Int)) ≤ (N3 : Int)) → ((I 1).toInt - (I 37).toInt) < (n : Int) → Ok (f_readLine_113 rec self3 n x1 x2 x3 x4 x5 x7 I A) (fun o => TJ o.2.1 ∧ TK o.2.2 ∧ ((0 : Int) ≤ o.1.toInt ∧ o.1.toInt ≤ (92100 : Int)) ∧ ((o.2.1 37).toInt ≤ (o.2.1 1).toInt ∧ aa ≤ (o.2.1 37).toInt) ∧ ((o.1.toInt ≤ 0 → x3.toInt ≠ 0 → (o.2.1 37).toInt < (o.2.1 1).toInt)) ∧ (TRE o.2.2 gg) ∧ (TRH o.2.2 hh nb) ∧ (EX o.2.2 gg A0 nd)) := by
  intro n
  induction n with
  | zero => intro x1 x2 x3 x4 x5 x7 I A hI hA g0 g1 g2 g3 g4 g5 g6 g7 g8 g9 g10 g11 g12 g13 g14 g15 g16 g17 g18 g19 w0 hm; exfalso; omega
  | succ n ih =>
    intro x1 x2 x3 x4 x5 x7 I A hI hA g0 g1 g2 g3 g4 g5 g6 g7 g8 g9 g10 g11 g12 g13 g14 g15 g16 g17 g18 g19 w0 hm
    exact t_readLine_113s (gg := gg) (hh := hh) (nb := nb) (aa := aa) (A0 := A0) (nd := nd) (rr := rr) hrec hfrec (N113 := n) hself3 ih hI hA g0 g1 g2 g3 g4 g5 g6 g7 g8 g9 g10 g11 g12 g13 g14 g15 g16 g17 g18 g19 w0 (by omega)
theorem t_readLine_111 {gg hh nb : Nat} {aa : Int} {A0 : Nat → Nat → Int32} {nd : Nat} {rr : Int} {I : Nat → Int32} {A : Nat → Nat → Int32} {rec : Int32 → Int32 → Int32 → (Nat → Int32) → (Nat → Nat → Int32) → Option (Int32 × MS)} (hrec : ∀ (gg hh nb : Nat) (aa : Int) (A0 : Nat → Nat → Int32) (nd : Nat) (x1 : Int32) (x2 : Int32) (x3 : Int32) (I : Nat → Int32) (A : Nat → Nat → Int32), TJ I → TK A → ((0 : Int) ≤ x1.toInt ∧ x1.toInt ≤ (1 : Int)) → ((0 : Int) ≤ x2.toInt ∧ x2.toInt ≤ (300 : Int)) → ((0 : Int) ≤ x3.toInt ∧ x3.toInt ≤ (6 : Int)) → ((I 37).toInt ≤ (I 1).toInt) → (aa ≤ (I 37).toInt) → (TRE A gg) → (TRH A hh nb) → (EX A gg A0 nd) → (x1.toInt = (gg : Int)) → (hh ≤ 1 ∧ hh ≠ gg) → (x2.toInt.toNat = nd ∨ aK A0 gg < x2.toInt.toNat) → (apd A gg x2.toInt.toNat x3.toInt) → (7 - x3.toInt ≤ rr - 1) → Ok (rec x1 x2 x3 I A) (fun o => TJ o.2.1 ∧ TK o.2.2 ∧ ((0 : Int) ≤ o.1.toInt ∧ o.1.toInt ≤ (92100 : Int)) ∧ ((o.2.1 37).toInt ≤ (o.2.1 1).toInt ∧ aa ≤ (o.2.1 37).toInt) ∧ ((o.1.toInt ≤ 0 → x3.toInt ≠ 0 → (o.2.1 37).toInt < (o.2.1 1).toInt)) ∧ (TRE o.2.2 gg) ∧ (TRH o.2.2 hh nb) ∧ (EX o.2.2 gg A0 nd))) (hfrec : ∀ (x1 : Int32) (x2 : Int32) (x3 : Int32) (I : Nat → Int32) (A : Nat → Nat → Int32) (o : Int32 × MS), rec x1 x2 x3 I A = some o → FrS [25, 26, 27, 28, 29, 33, 36, 37] [7, 8, 9, 10, 11, 12, 13, 14, 15, 24, 30, 31, 32, 34, 35] I A o.2.1 o.2.2) {self3 : Int32 → Int32 → Int32 → Int32 → (Nat → Int32) → (Nat → Nat → Int32) → Option (Int32 × MS)} {N3 : Nat} (hself3 : ∀ (x1 : Int32) (x2 : Int32) (x3 : Int32) (x4 : Int32) (I : Nat → Int32) (A : Nat → Nat → Int32), TJ I → TK A → ((0 : Int) ≤ x1.toInt ∧ x1.toInt ≤ (1 : Int)) → ((0 : Int) ≤ x2.toInt ∧ x2.toInt ≤ (300 : Int)) → ((0 : Int) ≤ x3.toInt ∧ x3.toInt ≤ (6 : Int)) → ((0 : Int) ≤ x4.toInt ∧ x4.toInt ≤ (300 : Int)) → ((I 37).toInt ≤ (I 1).toInt) → (aa ≤ (I 37).toInt) → (TRE A gg) → (TRH A hh nb) → (EX A gg A0 nd) → (x1.toInt = (gg : Int)) → (hh ≤ 1 ∧ hh ≠ gg) → (x4.toInt.toNat = nd ∨ aK A0 gg < x4.toInt.toNat) → (apd A gg x4.toInt.toNat x3.toInt) → (7 - x3.toInt ≤ rr) → (301 - (aK A gg : Int)) < (N3 : Int) → Ok (self3 x1 x2 x3 x4 I A) (fun o => TJ o.2.1 ∧ TK o.2.2 ∧ ((0 : Int) ≤ o.1.toInt ∧ o.1.toInt ≤ (92100 : Int)) ∧ ((o.2.1 37).toInt ≤ (o.2.1 1).toInt ∧ aa ≤ (o.2.1 37).toInt) ∧ ((o.1.toInt ≤ 0 → x3.toInt ≠ 0 → (o.2.1 37).toInt < (o.2.1 1).toInt)) ∧ (TRE o.2.2 gg) ∧ (TRH o.2.2 hh nb) ∧ (EX o.2.2 gg A0 nd))) {x1 : Int32} {x2 : Int32} {x3 : Int32} {x4 : Int32} {x7 : Int32} {t0 : Int32} (hI : TJ I) (hA : TK A) (r_x1 : (0 : Int) ≤ x1.toInt ∧ x1.toInt ≤ (1 : Int)) (r_x2 : (0 : Int) ≤ x2.toInt ∧ x2.toInt ≤ (300 : Int)) (r_x3 : (0 : Int) ≤ x3.toInt ∧ x3.toInt ≤ (6 : Int)) (r_x4 : (0 : Int) ≤ x4.toInt ∧ x4.toInt ≤ (300 : Int)) (r_x7 : (0 : Int) ≤ x7.toInt ∧ x7.toInt ≤ (300 : Int)) (r_t0 : (0 : Int) ≤ t0.toInt ∧ t0.toInt ≤ (92100 : Int)) (q0 : (I 37).toInt ≤ (I 1).toInt) (q1 : aa ≤ (I 37).toInt) (q2 : TRE A gg) (q3 : TRH A hh nb) (q4 : EX A gg A0 nd) (q5 : x1.toInt = (gg : Int)) (q6 : hh ≤ 1 ∧ hh ≠ gg) (q7 : lnk A gg x4.toInt.toNat x3.toInt) (q8 : leaf A gg x4.toInt.toNat) (q9 : lnk A gg x7.toInt.toNat x3.toInt) (q10 : aK A0 gg < x4.toInt.toNat) (q11 : x7.toInt.toNat = nd ∨ aK A0 gg < x7.toInt.toNat) (q12 : x7.toInt < x4.toInt) (q13 : 7 - x3.toInt ≤ rr) (m3 : (302 - (aK A gg : Int)) ≤ (N3 : Int)) : Ok (f_readLine_111 rec self3 x1 x2 x3 x4 x7 t0 I A) (fun o => TJ o.2.1 ∧ TK o.2.2 ∧ ((0 : Int) ≤ o.1.toInt ∧ o.1.toInt ≤ (92100 : Int)) ∧ ((o.2.1 37).toInt ≤ (o.2.1 1).toInt ∧ aa ≤ (o.2.1 37).toInt) ∧ ((o.1.toInt ≤ 0 → x3.toInt ≠ 0 → (o.2.1 37).toInt < (o.2.1 1).toInt)) ∧ (TRE o.2.2 gg) ∧ (TRH o.2.2 hh nb) ∧ (EX o.2.2 gg A0 nd)) := by
  unfold f_readLine_111
  have b_I_1 := tI_1 hI
  have b_I_37 := tI_37 hI
  have b_I_29 := tI_29 hI
  exact t_readLine_113 (gg := gg) (hh := hh) (nb := nb) (aa := aa) (A0 := A0) (nd := nd) (rr := rr) hrec hfrec hself3  mFuel x1 x2 x3 x4 t0 x7 I A hI hA r_x1 r_x2 r_x3 r_x4 r_t0 r_x7 q0 q1 q2 q3 q4 q5 q6 q7 q8 q9 q10 q11 q12 q13 m3 (by show _ < ((200000 : Nat) : Int); omega)
theorem t_readLine_38 {gg hh nb : Nat} {aa : Int} {A0 : Nat → Nat → Int32} {nd : Nat} {rr : Int} {I : Nat → Int32} {A : Nat → Nat → Int32} {rec : Int32 → Int32 → Int32 → (Nat → Int32) → (Nat → Nat → Int32) → Option (Int32 × MS)} (hrec : ∀ (gg hh nb : Nat) (aa : Int) (A0 : Nat → Nat → Int32) (nd : Nat) (x1 : Int32) (x2 : Int32) (x3 : Int32) (I : Nat → Int32) (A : Nat → Nat → Int32), TJ I → TK A → ((0 : Int) ≤ x1.toInt ∧ x1.toInt ≤ (1 : Int)) → ((0 : Int) ≤ x2.toInt ∧ x2.toInt ≤ (300 : Int)) → ((0 : Int) ≤ x3.toInt ∧ x3.toInt ≤ (6 : Int)) → ((I 37).toInt ≤ (I 1).toInt) → (aa ≤ (I 37).toInt) → (TRE A gg) → (TRH A hh nb) → (EX A gg A0 nd) → (x1.toInt = (gg : Int)) → (hh ≤ 1 ∧ hh ≠ gg) → (x2.toInt.toNat = nd ∨ aK A0 gg < x2.toInt.toNat) → (apd A gg x2.toInt.toNat x3.toInt) → (7 - x3.toInt ≤ rr - 1) → Ok (rec x1 x2 x3 I A) (fun o => TJ o.2.1 ∧ TK o.2.2 ∧ ((0 : Int) ≤ o.1.toInt ∧ o.1.toInt ≤ (92100 : Int)) ∧ ((o.2.1 37).toInt ≤ (o.2.1 1).toInt ∧ aa ≤ (o.2.1 37).toInt) ∧ ((o.1.toInt ≤ 0 → x3.toInt ≠ 0 → (o.2.1 37).toInt < (o.2.1 1).toInt)) ∧ (TRE o.2.2 gg) ∧ (TRH o.2.2 hh nb) ∧ (EX o.2.2 gg A0 nd))) (hfrec : ∀ (x1 : Int32) (x2 : Int32) (x3 : Int32) (I : Nat → Int32) (A : Nat → Nat → Int32) (o : Int32 × MS), rec x1 x2 x3 I A = some o → FrS [25, 26, 27, 28, 29, 33, 36, 37] [7, 8, 9, 10, 11, 12, 13, 14, 15, 24, 30, 31, 32, 34, 35] I A o.2.1 o.2.2) {self3 : Int32 → Int32 → Int32 → Int32 → (Nat → Int32) → (Nat → Nat → Int32) → Option (Int32 × MS)} {N3 : Nat} (hself3 : ∀ (x1 : Int32) (x2 : Int32) (x3 : Int32) (x4 : Int32) (I : Nat → Int32) (A : Nat → Nat → Int32), TJ I → TK A → ((0 : Int) ≤ x1.toInt ∧ x1.toInt ≤ (1 : Int)) → ((0 : Int) ≤ x2.toInt ∧ x2.toInt ≤ (300 : Int)) → ((0 : Int) ≤ x3.toInt ∧ x3.toInt ≤ (6 : Int)) → ((0 : Int) ≤ x4.toInt ∧ x4.toInt ≤ (300 : Int)) → ((I 37).toInt ≤ (I 1).toInt) → (aa ≤ (I 37).toInt) → (TRE A gg) → (TRH A hh nb) → (EX A gg A0 nd) → (x1.toInt = (gg : Int)) → (hh ≤ 1 ∧ hh ≠ gg) → (x4.toInt.toNat = nd ∨ aK A0 gg < x4.toInt.toNat) → (apd A gg x4.toInt.toNat x3.toInt) → (7 - x3.toInt ≤ rr) → (301 - (aK A gg : Int)) < (N3 : Int) → Ok (self3 x1 x2 x3 x4 I A) (fun o => TJ o.2.1 ∧ TK o.2.2 ∧ ((0 : Int) ≤ o.1.toInt ∧ o.1.toInt ≤ (92100 : Int)) ∧ ((o.2.1 37).toInt ≤ (o.2.1 1).toInt ∧ aa ≤ (o.2.1 37).toInt) ∧ ((o.1.toInt ≤ 0 → x3.toInt ≠ 0 → (o.2.1 37).toInt < (o.2.1 1).toInt)) ∧ (TRE o.2.2 gg) ∧ (TRH o.2.2 hh nb) ∧ (EX o.2.2 gg A0 nd))) {x1 : Int32} {x2 : Int32} {x3 : Int32} {x4 : Int32} (hI : TJ I) (hA : TK A) (r_x1 : (0 : Int) ≤ x1.toInt ∧ x1.toInt ≤ (1 : Int)) (r_x2 : (0 : Int) ≤ x2.toInt ∧ x2.toInt ≤ (300 : Int)) (r_x3 : (0 : Int) ≤ x3.toInt ∧ x3.toInt ≤ (6 : Int)) (r_x4 : (0 : Int) ≤ x4.toInt ∧ x4.toInt ≤ (300 : Int)) (q0 : (I 37).toInt ≤ (I 1).toInt) (q1 : aa ≤ (I 37).toInt) (q2 : TRE A gg) (q3 : TRH A hh nb) (q4 : EX A gg A0 nd) (q5 : x1.toInt = (gg : Int)) (q6 : hh ≤ 1 ∧ hh ≠ gg) (q7 : x4.toInt.toNat = nd ∨ aK A0 gg < x4.toInt.toNat) (q8 : apd A gg x4.toInt.toNat x3.toInt) (q9 : 7 - x3.toInt ≤ rr) (m3 : (301 - (aK A gg : Int)) ≤ (N3 : Int)) : Ok (f_readLine_38 rec self3 x1 x2 x3 x4 I A) (fun o => TJ o.2.1 ∧ TK o.2.2 ∧ ((0 : Int) ≤ o.1.toInt ∧ o.1.toInt ≤ (92100 : Int)) ∧ ((o.2.1 37).toInt ≤ (o.2.1 1).toInt ∧ aa ≤ (o.2.1 37).toInt) ∧ ((o.1.toInt ≤ 0 → x3.toInt ≠ 0 → (o.2.1 37).toInt < (o.2.1 1).toInt)) ∧ (TRE o.2.2 gg) ∧ (TRH o.2.2 hh nb) ∧ (EX o.2.2 gg A0 nd)) := by
  unfold f_readLine_38
  have b_I_1 := tI_1 hI
  have b_I_37 := tI_37 hI
  have b_I_29 := tI_29 hI
  have ck0 : cK A gg (aK A gg) := rfl
  obtain ⟨⟨r1, Ic1, Ac1⟩, h_r1, hI_Ic1, hA_Ac1, p_r1_0⟩ := t_place (x1 := x1) (x2 := x4)  hI hA r_x1 r_x4 (TRE_n q2) q5 (by have z := (q8).1; omega)
  replace hI_Ic1 : TJ Ic1 := hI_Ic1
  replace hA_Ac1 : TK Ac1 := hA_Ac1
  dsimp only at p_r1_0
  refine ok_clR h_r1 ?_
  have f_r1 := fw_place h_r1
  have : (Ic1 1).toInt = (I 1).toInt := congrArg Int32.toInt (f_r1.1 1 (by decide))
  have : (Ic1 37).toInt = (I 37).toInt := congrArg Int32.toInt (f_r1.1 37 (by decide))
  have k45 : TRE Ac1 gg := TRE_fr (f_r1.2 7 (by decide)) (f_r1.2 8 (by decide)) (f_r1.2 9 (by decide)) (f_r1.2 10 (by decide)) (f_r1.2 11 (by decide)) q2
  have k46 : TRH Ac1 hh nb := TRH_fr (f_r1.2 7 (by decide)) (f_r1.2 8 (by decide)) (f_r1.2 9 (by decide)) (f_r1.2 10 (by decide)) (f_r1.2 11 (by decide)) q3
  have k47 : EX Ac1 gg A0 nd := EX_fr (f_r1.2 7 (by decide)) (f_r1.2 8 (by decide)) (f_r1.2 10 (by decide)) q4
  have k48 : apd Ac1 gg x4.toInt.toNat x3.toInt := apd_fr (f_r1.2 7 (by decide)) (f_r1.2 8 (by decide)) (f_r1.2 10 (by decide)) q8
  have k49 : cK Ac1 gg (aK A gg) := cK_fr (f_r1.2 7 (by decide)) ck0
  have b_Ic1_1 := tI_1 hI_Ic1
  have b_Ic1_37 := tI_37 hI_Ic1
  obtain ⟨⟨r2, Ic2, Ac2⟩, h_r2, hI_Ic2, hA_Ac2, p_r2, p_r2_0⟩ := t_readMoveNumber   hI_Ic1 hA_Ac1 (by omega) (show (Ic1 37).toInt ≤ (Ic1 37).toInt from Int.le_refl _)
  replace hI_Ic2 : TJ Ic2 := hI_Ic2
  replace hA_Ac2 : TK Ac2 := hA_Ac2
  dsimp only at p_r2 p_r2_0
  refine ok_clR h_r2 ?_
  have f_r2 := fw_readMoveNumber h_r2
  have : (Ic2 1).toInt = (Ic1 1).toInt := congrArg Int32.toInt (f_r2.1 1 (by decide))
  have : (Ic2 29).toInt = (Ic1 29).toInt := congrArg Int32.toInt (f_r2.1 29 (by decide))
  have k50 : TRE Ac2 gg := TRE_fr (f_r2.2 7 (by decide)) (f_r2.2 8 (by decide)) (f_r2.2 9 (by decide)) (f_r2.2 10 (by decide)) (f_r2.2 11 (by decide)) k45
  have k51 : TRH Ac2 hh nb := TRH_fr (f_r2.2 7 (by decide)) (f_r2.2 8 (by decide)) (f_r2.2 9 (by decide)) (f_r2.2 10 (by decide)) (f_r2.2 11 (by decide)) k46
  have k52 : EX Ac2 gg A0 nd := EX_fr (f_r2.2 7 (by decide)) (f_r2.2 8 (by decide)) (f_r2.2 10 (by decide)) k47
  have k53 : apd Ac2 gg x4.toInt.toNat x3.toInt := apd_fr (f_r2.2 7 (by decide)) (f_r2.2 8 (by decide)) (f_r2.2 10 (by decide)) k48
  have k54 : cK Ac2 gg (aK A gg) := cK_fr (f_r2.2 7 (by decide)) k49
  refine ok_if (fun c55 => ?_) (fun c55 => ?_)
  ·
    replace c55 := ti_leP c55 rfl (show (0 : Int32).toInt = 0 from rfl)
    have b_Ic2_1 := tI_1 hI_Ic2
    have b_Ic2_37 := tI_37 hI_Ic2
    have b_Ic2_29 := tI_29 hI_Ic2
    obtain ⟨⟨r3, Ic3, Ac3⟩, h_r3, hI_Ic3, hA_Ac3, p_r3, p_r3_0, p_r3_1, p_r3_2, p_r3_3, p_r3_4, p_r3_5, p_r3_6⟩ := t_readMove (x1 := x1) (x2 := x4) (dp := x3.toInt) (na := (aK A gg)) hI_Ic2 hA_Ac2 r_x1 r_x4 (by omega) (show (Ic2 37).toInt ≤ (Ic2 37).toInt from Int.le_refl _) (by omega) k50 k51 k52 q5 q6 q7 k53 (by omega) (by omega)
    replace hI_Ic3 : TJ Ic3 := hI_Ic3
    replace hA_Ac3 : TK Ac3 := hA_Ac3
    dsimp only at p_r3 p_r3_0 p_r3_1 p_r3_2 p_r3_3 p_r3_4 p_r3_5 p_r3_6
    refine ok_clR h_r3 ?_
    have f_r3 := fw_readMove h_r3
    have : (Ic3 1).toInt = (Ic2 1).toInt := congrArg Int32.toInt (f_r3.1 1 (by decide))
    refine ok_if (fun c56 => ?_) (fun c56 => ?_)
    ·
      replace c56 := ti_leP c56 (show (0 : Int32).toInt = 0 from rfl) rfl
      have n6 := p_r3_6 (by omega)
      have cg3 : cG Ac3 gg ((aK A gg : Int) + 1) := by unfold cG; omega
      have gt3 : aK A0 gg < r3.toInt.toNat := n6.2.2.2.1
      have b_Ic3_1 := tI_1 hI_Ic3
      have b_Ic3_37 := tI_37 hI_Ic3
      obtain ⟨⟨r4, Ic4, Ac4⟩, h_r4, hI_Ic4, hA_Ac4, p_r4, p_r4_0⟩ := t_readMarks (x1 := x1) (x2 := r3)  hI_Ic3 hA_Ac3 r_x1 (by omega) (by omega) (show (Ic3 37).toInt ≤ (Ic3 37).toInt from Int.le_refl _) n6.1
      replace hI_Ic4 : TJ Ic4 := hI_Ic4
      replace hA_Ac4 : TK Ac4 := hA_Ac4
      dsimp only at p_r4 p_r4_0
      refine ok_clR h_r4 ?_
      have f_r4 := fw_readMarks h_r4
      have : (Ic4 1).toInt = (Ic3 1).toInt := congrArg Int32.toInt (f_r4.1 1 (by decide))
      have : (Ic4 29).toInt = (Ic3 29).toInt := congrArg Int32.toInt (f_r4.1 29 (by decide))
      have k57 : TRE Ac4 gg := TRE_fr (f_r4.2 7 (by decide)) (f_r4.2 8 (by decide)) (f_r4.2 9 (by decide)) (f_r4.2 10 (by decide)) (f_r4.2 11 (by decide)) p_r3_2
      have k58 : TRH Ac4 hh nb := TRH_fr (f_r4.2 7 (by decide)) (f_r4.2 8 (by decide)) (f_r4.2 9 (by decide)) (f_r4.2 10 (by decide)) (f_r4.2 11 (by decide)) p_r3_3
      have k59 : EX Ac4 gg A0 nd := EX_fr (f_r4.2 7 (by decide)) (f_r4.2 8 (by decide)) (f_r4.2 10 (by decide)) p_r3_4
      have k60 : lnk Ac4 gg x4.toInt.toNat x3.toInt := lnk_fr (f_r4.2 7 (by decide)) (f_r4.2 8 (by decide)) (f_r4.2 10 (by decide)) p_r3_5
      have k61 : leaf Ac4 gg r3.toInt.toNat := leaf_fr (f_r4.2 10 (by decide)) n6.2.1
      have k62 : lnk Ac4 gg r3.toInt.toNat x3.toInt := lnk_fr (f_r4.2 7 (by decide)) (f_r4.2 8 (by decide)) (f_r4.2 10 (by decide)) n6.2.2.1
      have k63 : cG Ac4 gg ((aK A gg : Int) + 1) := cG_fr (f_r4.2 7 (by decide)) cg3
      refine ok_if (fun c64 => ?_) (fun c64 => ?_)
      ·
        replace c64 := ti_leP c64 rfl (show (0 : Int32).toInt = 0 from rfl)
        have b_Ic4_1 := tI_1 hI_Ic4
        have b_Ic4_37 := tI_37 hI_Ic4
        obtain ⟨⟨r5, Ic5, Ac5⟩, h_r5, hI_Ic5, hA_Ac5, p_r5, p_r5_0⟩ := t_readRemarks (x1 := x1) (x2 := r3)  hI_Ic4 hA_Ac4 r_x1 (by omega) (by omega) (show (Ic4 37).toInt ≤ (Ic4 37).toInt from Int.le_refl _)
        replace hI_Ic5 : TJ Ic5 := hI_Ic5
        replace hA_Ac5 : TK Ac5 := hA_Ac5
        dsimp only at p_r5 p_r5_0
        refine ok_clR h_r5 ?_
        have f_r5 := fw_readRemarks h_r5
        have : (Ic5 1).toInt = (Ic4 1).toInt := congrArg Int32.toInt (f_r5.1 1 (by decide))
        have : (Ic5 29).toInt = (Ic4 29).toInt := congrArg Int32.toInt (f_r5.1 29 (by decide))
        have k65 : TRE Ac5 gg := TRE_fr (f_r5.2 7 (by decide)) (f_r5.2 8 (by decide)) (f_r5.2 9 (by decide)) (f_r5.2 10 (by decide)) (f_r5.2 11 (by decide)) k57
        have k66 : TRH Ac5 hh nb := TRH_fr (f_r5.2 7 (by decide)) (f_r5.2 8 (by decide)) (f_r5.2 9 (by decide)) (f_r5.2 10 (by decide)) (f_r5.2 11 (by decide)) k58
        have k67 : EX Ac5 gg A0 nd := EX_fr (f_r5.2 7 (by decide)) (f_r5.2 8 (by decide)) (f_r5.2 10 (by decide)) k59
        have k68 : lnk Ac5 gg x4.toInt.toNat x3.toInt := lnk_fr (f_r5.2 7 (by decide)) (f_r5.2 8 (by decide)) (f_r5.2 10 (by decide)) k60
        have k69 : leaf Ac5 gg r3.toInt.toNat := leaf_fr (f_r5.2 10 (by decide)) k61
        have k70 : lnk Ac5 gg r3.toInt.toNat x3.toInt := lnk_fr (f_r5.2 7 (by decide)) (f_r5.2 8 (by decide)) (f_r5.2 10 (by decide)) k62
        have k71 : cG Ac5 gg ((aK A gg : Int) + 1) := cG_fr (f_r5.2 7 (by decide)) k63
        have b_Ic5_1 := tI_1 hI_Ic5
        have b_Ic5_37 := tI_37 hI_Ic5
        exact t_readLine_111 (gg := gg) (hh := hh) (nb := nb) (aa := aa) (A0 := A0) (nd := nd) (rr := rr) hrec hfrec hself3 (x1 := x1) (x2 := x2) (x3 := x3) (x4 := r3) (x7 := x4) (t0 := r5) hI_Ic5 hA_Ac5 r_x1 r_x2 r_x3 (by omega) r_x4 (by omega) (by omega) (by omega) k65 k66 k67 q5 q6 k70 k69 k68 (by omega) q7 (by omega) q9 (by have z := k71; unfold cG at z; omega)
      ·
        replace c64 := ti_leN c64 rfl (show (0 : Int32).toInt = 0 from rfl)
        have b_Ic4_1 := tI_1 hI_Ic4
        have b_Ic4_37 := tI_37 hI_Ic4
        exact t_readLine_111 (gg := gg) (hh := hh) (nb := nb) (aa := aa) (A0 := A0) (nd := nd) (rr := rr) hrec hfrec hself3 (x1 := x1) (x2 := x2) (x3 := x3) (x4 := r3) (x7 := x4) (t0 := r4) hI_Ic4 hA_Ac4 r_x1 r_x2 r_x3 (by omega) r_x4 (by omega) (by omega) (by omega) k57 k58 k59 q5 q6 k62 k61 k60 (by omega) q7 (by omega) q9 (by have z := k63; unfold cG at z; omega)
    ·
      replace c56 := ti_leN c56 (show (0 : Int32).toInt = 0 from rfl) rfl
      refine ok_bnd (fun v6 e72 => ?_)
      have t_v6 : v6.toInt = -r3.toInt := ti_neg e72 rfl (by omega)
      exact ok_ret ⟨hI_Ic3, hA_Ac3, (show (0 : Int) ≤ v6.toInt ∧ v6.toInt ≤ (92100 : Int) from (by omega)), (by show (Ic3 37).toInt ≤ (Ic3 1).toInt ∧ aa ≤ (Ic3 37).toInt; omega), (by show ((v6 : Int32).toInt ≤ 0 → x3.toInt ≠ 0 → (Ic3 37).toInt < (Ic3 1).toInt); intro h h2; omega), p_r3_2, p_r3_3, p_r3_4⟩
  ·
    replace c55 := ti_leN c55 rfl (show (0 : Int32).toInt = 0 from rfl)
    exact ok_ret ⟨hI_Ic2, hA_Ac2, (show (0 : Int) ≤ r2.toInt ∧ r2.toInt ≤ (92100 : Int) from (by omega)), (by show (Ic2 37).toInt ≤ (Ic2 1).toInt ∧ aa ≤ (Ic2 37).toInt; omega), (by show ((r2 : Int32).toInt ≤ 0 → x3.toInt ≠ 0 → (Ic2 37).toInt < (Ic2 1).toInt); intro h h2; omega), k50, k51, k52⟩
theorem t_readLine_3s {gg hh nb : Nat} {aa : Int} {A0 : Nat → Nat → Int32} {nd : Nat} {rr : Int} {I : Nat → Int32} {A : Nat → Nat → Int32} {rec : Int32 → Int32 → Int32 → (Nat → Int32) → (Nat → Nat → Int32) → Option (Int32 × MS)} (hrec : ∀ (gg hh nb : Nat) (aa : Int) (A0 : Nat → Nat → Int32) (nd : Nat) (x1 : Int32) (x2 : Int32) (x3 : Int32) (I : Nat → Int32) (A : Nat → Nat → Int32), TJ I → TK A → ((0 : Int) ≤ x1.toInt ∧ x1.toInt ≤ (1 : Int)) → ((0 : Int) ≤ x2.toInt ∧ x2.toInt ≤ (300 : Int)) → ((0 : Int) ≤ x3.toInt ∧ x3.toInt ≤ (6 : Int)) → ((I 37).toInt ≤ (I 1).toInt) → (aa ≤ (I 37).toInt) → (TRE A gg) → (TRH A hh nb) → (EX A gg A0 nd) → (x1.toInt = (gg : Int)) → (hh ≤ 1 ∧ hh ≠ gg) → (x2.toInt.toNat = nd ∨ aK A0 gg < x2.toInt.toNat) → (apd A gg x2.toInt.toNat x3.toInt) → (7 - x3.toInt ≤ rr - 1) → Ok (rec x1 x2 x3 I A) (fun o => TJ o.2.1 ∧ TK o.2.2 ∧ ((0 : Int) ≤ o.1.toInt ∧ o.1.toInt ≤ (92100 : Int)) ∧ ((o.2.1 37).toInt ≤ (o.2.1 1).toInt ∧ aa ≤ (o.2.1 37).toInt) ∧ ((o.1.toInt ≤ 0 → x3.toInt ≠ 0 → (o.2.1 37).toInt < (o.2.1 1).toInt)) ∧ (TRE o.2.2 gg) ∧ (TRH o.2.2 hh nb) ∧ (EX o.2.2 gg A0 nd))) (hfrec : ∀ (x1 : Int32) (x2 : Int32) (x3 : Int32) (I : Nat → Int32) (A : Nat → Nat → Int32) (o : Int32 × MS), rec x1 x2 x3 I A = some o → FrS [25, 26, 27, 28, 29, 33, 36, 37] [7, 8, 9, 10, 11, 12, 13, 14, 15, 24, 30, 31, 32, 34, 35] I A o.2.1 o.2.2) {self3 : Int32 → Int32 → Int32 → Int32 → (Nat → Int32) → (Nat → Nat → Int32) → Option (Int32 × MS)} {N3 : Nat} (hself3 : ∀ (x1 : Int32) (x2 : Int32) (x3 : Int32) (x4 : Int32) (I : Nat → Int32) (A : Nat → Nat → Int32), TJ I → TK A → ((0 : Int) ≤ x1.toInt ∧ x1.toInt ≤ (1 : Int)) → ((0 : Int) ≤ x2.toInt ∧ x2.toInt ≤ (300 : Int)) → ((0 : Int) ≤ x3.toInt ∧ x3.toInt ≤ (6 : Int)) → ((0 : Int) ≤ x4.toInt ∧ x4.toInt ≤ (300 : Int)) → ((I 37).toInt ≤ (I 1).toInt) → (aa ≤ (I 37).toInt) → (TRE A gg) → (TRH A hh nb) → (EX A gg A0 nd) → (x1.toInt = (gg : Int)) → (hh ≤ 1 ∧ hh ≠ gg) → (x4.toInt.toNat = nd ∨ aK A0 gg < x4.toInt.toNat) → (apd A gg x4.toInt.toNat x3.toInt) → (7 - x3.toInt ≤ rr) → (301 - (aK A gg : Int)) < (N3 : Int) → Ok (self3 x1 x2 x3 x4 I A) (fun o => TJ o.2.1 ∧ TK o.2.2 ∧ ((0 : Int) ≤ o.1.toInt ∧ o.1.toInt ≤ (92100 : Int)) ∧ ((o.2.1 37).toInt ≤ (o.2.1 1).toInt ∧ aa ≤ (o.2.1 37).toInt) ∧ ((o.1.toInt ≤ 0 → x3.toInt ≠ 0 → (o.2.1 37).toInt < (o.2.1 1).toInt)) ∧ (TRE o.2.2 gg) ∧ (TRH o.2.2 hh nb) ∧ (EX o.2.2 gg A0 nd))) {x1 : Int32} {x2 : Int32} {x3 : Int32} {x4 : Int32} (hI : TJ I) (hA : TK A) (r_x1 : (0 : Int) ≤ x1.toInt ∧ x1.toInt ≤ (1 : Int)) (r_x2 : (0 : Int) ≤ x2.toInt ∧ x2.toInt ≤ (300 : Int)) (r_x3 : (0 : Int) ≤ x3.toInt ∧ x3.toInt ≤ (6 : Int)) (r_x4 : (0 : Int) ≤ x4.toInt ∧ x4.toInt ≤ (300 : Int)) (q0 : (I 37).toInt ≤ (I 1).toInt) (q1 : aa ≤ (I 37).toInt) (q2 : TRE A gg) (q3 : TRH A hh nb) (q4 : EX A gg A0 nd) (q5 : x1.toInt = (gg : Int)) (q6 : hh ≤ 1 ∧ hh ≠ gg) (q7 : x4.toInt.toNat = nd ∨ aK A0 gg < x4.toInt.toNat) (q8 : apd A gg x4.toInt.toNat x3.toInt) (q9 : 7 - x3.toInt ≤ rr) (m3 : (301 - (aK A gg : Int)) ≤ (N3 : Int)) : Ok (f_readLine_3s rec self3 x1 x2 x3 x4 I A) (fun o => TJ o.2.1 ∧ TK o.2.2 ∧ ((0 : Int) ≤ o.1.toInt ∧ o.1.toInt ≤ (92100 : Int)) ∧ ((o.2.1 37).toInt ≤ (o.2.1 1).toInt ∧ aa ≤ (o.2.1 37).toInt) ∧ ((o.1.toInt ≤ 0 → x3.toInt ≠ 0 → (o.2.1 37).toInt < (o.2.1 1).toInt)) ∧ (TRE o.2.2 gg) ∧ (TRH o.2.2 hh nb) ∧ (EX o.2.2 gg A0 nd)) := by
  unfold f_readLine_3s
  have b_I_1 := tI_1 hI
  have b_I_37 := tI_37 hI
  have b_I_29 := tI_29 hI
  have ck0 : cK A gg (aK A gg) := rfl
  obtain ⟨⟨r1, Ic1, Ac1⟩, h_r1, hI_Ic1, hA_Ac1, p_r1_0⟩ := t_blanks   hI hA (show (I 37).toInt ≤ (I 37).toInt ∧ (I 37).toInt ≤ (I 1).toInt ∧ (I 1).toInt ≤ (I 1).toInt from ⟨Int.le_refl _, by omega, Int.le_refl _⟩)
  replace hI_Ic1 : TJ Ic1 := hI_Ic1
  replace hA_Ac1 : TK Ac1 := hA_Ac1
  dsimp only at p_r1_0
  refine ok_clR h_r1 ?_
  have f_r1 := fw_blanks h_r1
  have : (Ic1 1).toInt = (I 1).toInt := congrArg Int32.toInt (f_r1.1 1 (by decide))
  have : (Ic1 29).toInt = (I 29).toInt := congrArg Int32.toInt (f_r1.1 29 (by decide))
  have k73 : TRE Ac1 gg := TRE_fr (f_r1.2 7 (by decide)) (f_r1.2 8 (by decide)) (f_r1.2 9 (by decide)) (f_r1.2 10 (by decide)) (f_r1.2 11 (by decide)) q2
  have k74 : TRH Ac1 hh nb := TRH_fr (f_r1.2 7 (by decide)) (f_r1.2 8 (by decide)) (f_r1.2 9 (by decide)) (f_r1.2 10 (by decide)) (f_r1.2 11 (by decide)) q3
  have k75 : EX Ac1 gg A0 nd := EX_fr (f_r1.2 7 (by decide)) (f_r1.2 8 (by decide)) (f_r1.2 10 (by decide)) q4
  have k76 : apd Ac1 gg x4.toInt.toNat x3.toInt := apd_fr (f_r1.2 7 (by decide)) (f_r1.2 8 (by decide)) (f_r1.2 10 (by decide)) q8
  have k77 : cK Ac1 gg (aK A gg) := cK_fr (f_r1.2 7 (by decide)) ck0
  refine ok_if (fun c78 => ?_) (fun c78 => ?_)
  ·
    replace c78 := ti_eqP c78 rfl (show (0 : Int32).toInt = 0 from rfl)
    obtain ⟨r3, h_r3, p_r3⟩ := ro (t_resultHere   hI_Ic1 hA_Ac1 )
    refine ok_clR h_r3 ?_
    dsimp only at p_r3
    refine ok_if (fun c79 => ?_) (fun c79 => ?_)
    ·
      replace c79 := ti_ltP c79 rfl (show (0 : Int32).toInt = 0 from rfl)
      have b_Ic1_1 := tI_1 hI_Ic1
      have b_Ic1_37 := tI_37 hI_Ic1
      exact t_readLine_38 (gg := gg) (hh := hh) (nb := nb) (aa := aa) (A0 := A0) (nd := nd) (rr := rr) hrec hfrec hself3 (x1 := x1) (x2 := x2) (x3 := x3) (x4 := x4) hI_Ic1 hA_Ac1 r_x1 r_x2 r_x3 r_x4 (by omega) (by omega) k73 k74 k75 q5 q6 q7 k76 q9 (by have z := k77; unfold cK at z; omega)
    ·
      replace c79 := ti_ltN c79 rfl (show (0 : Int32).toInt = 0 from rfl)
      unfold f_readLine_36
      exact ok_ret ⟨hI_Ic1, hA_Ac1, (show (0 : Int) ≤ (0 : Int32).toInt ∧ (0 : Int32).toInt ≤ (92100 : Int) from (by decide)), (by show (Ic1 37).toInt ≤ (Ic1 1).toInt ∧ aa ≤ (Ic1 37).toInt; have z : (0 : Int32).toInt = 0 := rfl; omega), (by show ((0 : Int32).toInt ≤ 0 → x3.toInt ≠ 0 → (Ic1 37).toInt < (Ic1 1).toInt); intro h h2; omega), k73, k74, k75⟩
  ·
    replace c78 := ti_eqN c78 rfl (show (0 : Int32).toInt = 0 from rfl)
    obtain ⟨r2, h_r2, p_r2⟩ := ro (t_look   hI_Ic1 hA_Ac1 )
    refine ok_clR h_r2 ?_
    dsimp only at p_r2
    refine ok_if (fun c80 => ?_) (fun c80 => ?_)
    ·
      replace c80 := ti_eqP c80 rfl (show (41 : Int32).toInt = 41 from rfl)
      refine ok_if (fun c81 => ?_) (fun c81 => ?_)
      ·
        replace c81 := ti_eqP c81 rfl rfl
        have b_Ic1_1 := tI_1 hI_Ic1
        have b_Ic1_37 := tI_37 hI_Ic1
        exact t_readLine_38 (gg := gg) (hh := hh) (nb := nb) (aa := aa) (A0 := A0) (nd := nd) (rr := rr) hrec hfrec hself3 (x1 := x1) (x2 := x2) (x3 := x3) (x4 := x4) hI_Ic1 hA_Ac1 r_x1 r_x2 r_x3 r_x4 (by omega) (by omega) k73 k74 k75 q5 q6 q7 k76 q9 (by have z := k77; unfold cK at z; omega)
      ·
        replace c81 := ti_eqN c81 rfl rfl
        unfold f_readLine_36
        exact ok_ret ⟨hI_Ic1, hA_Ac1, (show (0 : Int) ≤ (0 : Int32).toInt ∧ (0 : Int32).toInt ≤ (92100 : Int) from (by decide)), (by show (Ic1 37).toInt ≤ (Ic1 1).toInt ∧ aa ≤ (Ic1 37).toInt; have z : (0 : Int32).toInt = 0 := rfl; omega), (by show ((0 : Int32).toInt ≤ 0 → x3.toInt ≠ 0 → (Ic1 37).toInt < (Ic1 1).toInt); intro h h2; omega), k73, k74, k75⟩
    ·
      replace c80 := ti_eqN c80 rfl (show (41 : Int32).toInt = 41 from rfl)
      have b_Ic1_1 := tI_1 hI_Ic1
      have b_Ic1_37 := tI_37 hI_Ic1
      exact t_readLine_38 (gg := gg) (hh := hh) (nb := nb) (aa := aa) (A0 := A0) (nd := nd) (rr := rr) hrec hfrec hself3 (x1 := x1) (x2 := x2) (x3 := x3) (x4 := x4) hI_Ic1 hA_Ac1 r_x1 r_x2 r_x3 r_x4 (by omega) (by omega) k73 k74 k75 q5 q6 q7 k76 q9 (by have z := k77; unfold cK at z; omega)
theorem t_readLine_3 {gg hh nb : Nat} {aa : Int} {A0 : Nat → Nat → Int32} {nd : Nat} {rr : Int} {rec : Int32 → Int32 → Int32 → (Nat → Int32) → (Nat → Nat → Int32) → Option (Int32 × MS)} (hrec : ∀ (gg hh nb : Nat) (aa : Int) (A0 : Nat → Nat → Int32) (nd : Nat) (x1 : Int32) (x2 : Int32) (x3 : Int32) (I : Nat → Int32) (A : Nat → Nat → Int32), TJ I → TK A → ((0 : Int) ≤ x1.toInt ∧ x1.toInt ≤ (1 : Int)) → ((0 : Int) ≤ x2.toInt ∧ x2.toInt ≤ (300 : Int)) → ((0 : Int) ≤ x3.toInt ∧ x3.toInt ≤ (6 : Int)) → ((I 37).toInt ≤ (I 1).toInt) → (aa ≤ (I 37).toInt) → (TRE A gg) → (TRH A hh nb) → (EX A gg A0 nd) → (x1.toInt = (gg : Int)) → (hh ≤ 1 ∧ hh ≠ gg) → (x2.toInt.toNat = nd ∨ aK A0 gg < x2.toInt.toNat) → (apd A gg x2.toInt.toNat x3.toInt) → (7 - x3.toInt ≤ rr - 1) → Ok (rec x1 x2 x3 I A) (fun o => TJ o.2.1 ∧ TK o.2.2 ∧ ((0 : Int) ≤ o.1.toInt ∧ o.1.toInt ≤ (92100 : Int)) ∧ ((o.2.1 37).toInt ≤ (o.2.1 1).toInt ∧ aa ≤ (o.2.1 37).toInt) ∧ ((o.1.toInt ≤ 0 → x3.toInt ≠ 0 → (o.2.1 37).toInt < (o.2.1 1).toInt)) ∧ (TRE o.2.2 gg) ∧ (TRH o.2.2 hh nb) ∧ (EX o.2.2 gg A0 nd))) (hfrec : ∀ (x1 : Int32) (x2 : Int32) (x3 : Int32) (I : Nat → Int32) (A : Nat → Nat → Int32) (o : Int32 × MS), rec x1 x2 x3 I A = some o → FrS [25, 26, 27, 28, 29, 33, 36, 37] [7, 8, 9, 10, 11, 12, 13, 14, 15, 24, 30, 31, 32, 34, 35] I A o.2.1 o.2.2) : ∀ (n : Nat) (x1 : Int32) (x2 : Int32) (x3 : Int32) (x4 : Int32) (I : Nat → Int32) (A : Nat → Nat → Int32), TJ I → TK A → ((0 : Int) ≤ x1.toInt ∧ x1.toInt ≤ (1 : Int)) → ((0 : Int) ≤ x2.toInt ∧ x2.toInt ≤ (300 : Int)) → ((0 : Int) ≤ x3.toInt ∧ x3.toInt ≤ (6 : Int)) → ((0 : Int) ≤ x4.toInt ∧ x4.toInt ≤ (300 : Int)) → ((I 37).toInt ≤ (I 1).toInt) → (aa ≤ (I 37).toInt) → (TRE A gg) → (TRH A hh nb) → (EX A gg A0 nd) → (x1.toInt = (gg : Int)) → (hh ≤ 1 ∧ hh ≠ gg) → (x4.toInt.toNat = nd ∨ aK A0 gg < x4.toInt.toNat) → (apd A gg x4.toInt.toNat x3.toInt) → (7 - x3.toInt ≤ rr) → (301 - (aK A gg : Int)) < (n : Int) → Ok (f_readLine_3 rec  n x1 x2 x3 x4 I A) (fun o => TJ o.2.1 ∧ TK o.2.2 ∧ ((0 : Int) ≤ o.1.toInt ∧ o.1.toInt ≤ (92100 : Int)) ∧ ((o.2.1 37).toInt ≤ (o.2.1 1).toInt ∧ aa ≤ (o.2.1 37).toInt) ∧ ((o.1.toInt ≤ 0 → x3.toInt ≠ 0 → (o.2.1 37).toInt < (o.2.1 1).toInt)) ∧ (TRE o.2.2 gg) ∧ (TRH o.2.2 hh nb) ∧ (EX o.2.2 gg A0 nd)) := by
  intro n
  induction n with
  | zero => intro x1 x2 x3 x4 I A hI hA g0 g1 g2 g3 g4 g5 g6 g7 g8 g9 g10 g11 g12 g13  hm; exfalso; have := aK_le (g := gg) hA; omega
  | succ n ih =>
    intro x1 x2 x3 x4 I A hI hA g0 g1 g2 g3 g4 g5 g6 g7 g8 g9 g10 g11 g12 g13  hm
    exact t_readLine_3s (gg := gg) (hh := hh) (nb := nb) (aa := aa) (A0 := A0) (nd := nd) (rr := rr) hrec hfrec (N3 := n)  ih hI hA g0 g1 g2 g3 g4 g5 g6 g7 g8 g9 g10 g11 g12 g13  (by omega)
theorem t_readLine_0 {gg hh nb : Nat} {aa : Int} {A0 : Nat → Nat → Int32} {nd : Nat} {rr : Int} {I : Nat → Int32} {A : Nat → Nat → Int32} {rec : Int32 → Int32 → Int32 → (Nat → Int32) → (Nat → Nat → Int32) → Option (Int32 × MS)} (hrec : ∀ (gg hh nb : Nat) (aa : Int) (A0 : Nat → Nat → Int32) (nd : Nat) (x1 : Int32) (x2 : Int32) (x3 : Int32) (I : Nat → Int32) (A : Nat → Nat → Int32), TJ I → TK A → ((0 : Int) ≤ x1.toInt ∧ x1.toInt ≤ (1 : Int)) → ((0 : Int) ≤ x2.toInt ∧ x2.toInt ≤ (300 : Int)) → ((0 : Int) ≤ x3.toInt ∧ x3.toInt ≤ (6 : Int)) → ((I 37).toInt ≤ (I 1).toInt) → (aa ≤ (I 37).toInt) → (TRE A gg) → (TRH A hh nb) → (EX A gg A0 nd) → (x1.toInt = (gg : Int)) → (hh ≤ 1 ∧ hh ≠ gg) → (x2.toInt.toNat = nd ∨ aK A0 gg < x2.toInt.toNat) → (apd A gg x2.toInt.toNat x3.toInt) → (7 - x3.toInt ≤ rr - 1) → Ok (rec x1 x2 x3 I A) (fun o => TJ o.2.1 ∧ TK o.2.2 ∧ ((0 : Int) ≤ o.1.toInt ∧ o.1.toInt ≤ (92100 : Int)) ∧ ((o.2.1 37).toInt ≤ (o.2.1 1).toInt ∧ aa ≤ (o.2.1 37).toInt) ∧ ((o.1.toInt ≤ 0 → x3.toInt ≠ 0 → (o.2.1 37).toInt < (o.2.1 1).toInt)) ∧ (TRE o.2.2 gg) ∧ (TRH o.2.2 hh nb) ∧ (EX o.2.2 gg A0 nd))) (hfrec : ∀ (x1 : Int32) (x2 : Int32) (x3 : Int32) (I : Nat → Int32) (A : Nat → Nat → Int32) (o : Int32 × MS), rec x1 x2 x3 I A = some o → FrS [25, 26, 27, 28, 29, 33, 36, 37] [7, 8, 9, 10, 11, 12, 13, 14, 15, 24, 30, 31, 32, 34, 35] I A o.2.1 o.2.2) {x1 : Int32} {x2 : Int32} {x3 : Int32} (hI : TJ I) (hA : TK A) (r_x1 : (0 : Int) ≤ x1.toInt ∧ x1.toInt ≤ (1 : Int)) (r_x2 : (0 : Int) ≤ x2.toInt ∧ x2.toInt ≤ (300 : Int)) (r_x3 : (0 : Int) ≤ x3.toInt ∧ x3.toInt ≤ (6 : Int)) (q0 : (I 37).toInt ≤ (I 1).toInt) (q1 : aa ≤ (I 37).toInt) (q2 : TRE A gg) (q3 : TRH A hh nb) (q4 : EX A gg A0 nd) (q5 : x1.toInt = (gg : Int)) (q6 : hh ≤ 1 ∧ hh ≠ gg) (q7 : x2.toInt.toNat = nd ∨ aK A0 gg < x2.toInt.toNat) (q8 : apd A gg x2.toInt.toNat x3.toInt) (q9 : 7 - x3.toInt ≤ rr) : Ok (f_readLine_0 rec x1 x2 x3 I A) (fun o => TJ o.2.1 ∧ TK o.2.2 ∧ ((0 : Int) ≤ o.1.toInt ∧ o.1.toInt ≤ (92100 : Int)) ∧ ((o.2.1 37).toInt ≤ (o.2.1 1).toInt ∧ aa ≤ (o.2.1 37).toInt) ∧ ((o.1.toInt ≤ 0 → x3.toInt ≠ 0 → (o.2.1 37).toInt < (o.2.1 1).toInt)) ∧ (TRE o.2.2 gg) ∧ (TRH o.2.2 hh nb) ∧ (EX o.2.2 gg A0 nd)) := by
  unfold f_readLine_0
  have b_I_1 := tI_1 hI
  have b_I_37 := tI_37 hI
  have b_I_29 := tI_29 hI
  exact t_readLine_3 (gg := gg) (hh := hh) (nb := nb) (aa := aa) (A0 := A0) (nd := nd) (rr := rr) hrec hfrec   mFuel x1 x2 x3 x2 I A hI hA r_x1 r_x2 r_x3 r_x2 q0 q1 q2 q3 q4 q5 q6 q7 q8 q9 (by show _ < ((200000 : Nat) : Int); omega)
theorem tr_readLine : ∀ (n : Nat) (gg hh nb : Nat) (aa : Int) (A0 : Nat → Nat → Int32) (nd : Nat) (x1 : Int32) (x2 : Int32) (x3 : Int32) (I : Nat → Int32) (A : Nat → Nat → Int32), TJ I → TK A → ((0 : Int) ≤ x1.toInt ∧ x1.toInt ≤ (1 : Int)) → ((0 : Int) ≤ x2.toInt ∧ x2.toInt ≤ (300 : Int)) → ((0 : Int) ≤ x3.toInt ∧ x3.toInt ≤ (6 : Int)) → ((I 37).toInt ≤ (I 1).toInt) → (aa ≤ (I 37).toInt) → (TRE A gg) → (TRH A hh nb) → (EX A gg A0 nd) → (x1.toInt = (gg : Int)) → (hh ≤ 1 ∧ hh ≠ gg) → (x2.toInt.toNat = nd ∨ aK A0 gg < x2.toInt.toNat) → (apd A gg x2.toInt.toNat x3.toInt) → (7 - x3.toInt ≤ (n : Int)) → Ok (fr_readLine n x1 x2 x3 I A) (fun o => TJ o.2.1 ∧ TK o.2.2 ∧ ((0 : Int) ≤ o.1.toInt ∧ o.1.toInt ≤ (92100 : Int)) ∧ ((o.2.1 37).toInt ≤ (o.2.1 1).toInt ∧ aa ≤ (o.2.1 37).toInt) ∧ ((o.1.toInt ≤ 0 → x3.toInt ≠ 0 → (o.2.1 37).toInt < (o.2.1 1).toInt)) ∧ (TRE o.2.2 gg) ∧ (TRH o.2.2 hh nb) ∧ (EX o.2.2 gg A0 nd)) := by
  intro n
  induction n with
  | zero => intro gg hh nb aa A0 nd x1 x2 x3 I A hI hA g0 g1 g2 g3 g4 g5 g6 g7 g8 g9 g10 g11 hb; exfalso; omega
  | succ n ih =>
    intro gg hh nb aa A0 nd x1 x2 x3 I A hI hA g0 g1 g2 g3 g4 g5 g6 g7 g8 g9 g10 g11 hb
    exact t_readLine_0 (gg := gg) (hh := hh) (nb := nb) (aa := aa) (A0 := A0) (nd := nd) (rr := ((n + 1 : Nat) : Int)) (rec := fr_readLine n) (fun gg hh nb aa A0 nd x1 x2 x3 I A hI hA g0 g1 g2 g3 g4 g5 g6 g7 g8 g9 g10 g11 hb => ih gg hh nb aa A0 nd x1 x2 x3 I A hI hA g0 g1 g2 g3 g4 g5 g6 g7 g8 g9 g10 g11 (by omega)) (fun x1 x2 x3 I A o h => fwr_readLine n x1 x2 x3 I A o h) hI hA g0 g1 g2 g3 g4 g5 g6 g7 g8 g9 g10 g11 hb
theorem t_readLine {gg hh nb : Nat} {aa : Int} {A0 : Nat → Nat → Int32} {nd : Nat} {I : Nat → Int32} {A : Nat → Nat → Int32} {x1 : Int32} {x2 : Int32} {x3 : Int32} (hI : TJ I) (hA : TK A) (g0 : (0 : Int) ≤ x1.toInt ∧ x1.toInt ≤ (1 : Int)) (g1 : (0 : Int) ≤ x2.toInt ∧ x2.toInt ≤ (300 : Int)) (g2 : (0 : Int) ≤ x3.toInt ∧ x3.toInt ≤ (6 : Int)) (g3 : (I 37).toInt ≤ (I 1).toInt) (g4 : aa ≤ (I 37).toInt) (g5 : TRE A gg) (g6 : TRH A hh nb) (g7 : EX A gg A0 nd) (g8 : x1.toInt = (gg : Int)) (g9 : hh ≤ 1 ∧ hh ≠ gg) (g10 : x2.toInt.toNat = nd ∨ aK A0 gg < x2.toInt.toNat) (g11 : apd A gg x2.toInt.toNat x3.toInt) : Ok (f_readLine x1 x2 x3 I A) (fun o => TJ o.2.1 ∧ TK o.2.2 ∧ ((0 : Int) ≤ o.1.toInt ∧ o.1.toInt ≤ (92100 : Int)) ∧ ((o.2.1 37).toInt ≤ (o.2.1 1).toInt ∧ aa ≤ (o.2.1 37).toInt) ∧ ((o.1.toInt ≤ 0 → x3.toInt ≠ 0 → (o.2.1 37).toInt < (o.2.1 1).toInt)) ∧ (TRE o.2.2 gg) ∧ (TRH o.2.2 hh nb) ∧ (EX o.2.2 gg A0 nd)) := tr_readLine 8 gg hh nb aa A0 nd x1 x2 x3 I A hI hA g0 g1 g2 g3 g4 g5 g6 g7 g8 g9 g10 g11 (by omega)
end
section
/-- what holds of the reference between calls, beside the bounds of its numbers -/
noncomputable def RIv (I : Nat → Int32) (A : Nat → Nat → Int32) : Prop := TRE A (I 5).toInt.toNat ∧ (I 6).toInt ≤ ((aK A (I 5).toInt.toNat : Nat) : Int) ∧ (I 29).toInt ≤ 1999
theorem RIv_mk {I : Nat → Int32} {A : Nat → Nat → Int32} {g : Nat} (h : TRE A g) (h5 : (I 5).toInt = (g : Int)) (h6 : (I 6).toInt ≤ (aK A g : Int)) (h29 : (I 29).toInt ≤ 1999) : RIv I A := by
  have e : (I 5).toInt.toNat = g := by omega
  unfold RIv
  rw [e]
  exact ⟨h, h6, h29⟩
theorem t_readGame_154 {gg hh nb : Nat} {I : Nat → Int32} {A : Nat → Nat → Int32} {t0 : Int32} {t1 : Int32} (hI : TJ I) (hA : TK A) (r_t0 : (1 : Int) ≤ t0.toInt ∧ t0.toInt ≤ (7 : Int)) (r_t1 : (0 : Int) ≤ t1.toInt ∧ t1.toInt ≤ (2000 : Int)) (q0 : TRE A gg) (q1 : TRH A hh nb) : Ok (f_readGame_154 t0 t1 I A) (fun o => TJ o.2.1 ∧ TK o.2.2 ∧ ((0 : Int) ≤ o.1.toInt ∧ o.1.toInt ≤ (92100 : Int)) ∧ (TRE o.2.2 gg) ∧ (TRH o.2.2 hh nb)) := by
  unfold f_readGame_154
  have b_I_1 := tI_1 hI
  have b_I_37 := tI_37 hI
  have b_I_29 := tI_29 hI
  refine ok_bnd (fun v1 e1 => ?_)
  have t_v1 : v1.toInt = t1.toInt + t0.toInt := ti_add e1 rfl rfl (by omega) (by omega)
  refine ok_bnd (fun I2 e2 => ?_)
  have hI_I2 : TJ I2 := e2.symm ▸ tj_u hI (k := 37) (show (0 : Int) ≤ v1.toInt from (by omega)) (show v1.toInt ≤ (2100 : Int) from (by omega))
  have : (I2 1).toInt = (I 1).toInt := by rw [e2]; rfl
  have : (I2 37).toInt = v1.toInt := by rw [e2]; exact rfl
  have : (I2 29).toInt = (I 29).toInt := by rw [e2]; rfl
  have b_I2_1 := tI_1 hI_I2
  have b_I2_37 := tI_37 hI_I2
  obtain ⟨⟨r3, Ic3, Ac3⟩, h_r3, hI_Ic3, hA_Ac3, p_r3_0⟩ := t_blanks   hI_I2 hA (show (I2 37).toInt ≤ (I2 37).toInt ∧ (I2 37).toInt ≤ 2100 ∧ (I2 1).toInt ≤ 2100 from ⟨Int.le_refl _, by omega, by omega⟩)
  replace hI_Ic3 : TJ Ic3 := hI_Ic3
  replace hA_Ac3 : TK Ac3 := hA_Ac3
  dsimp only at p_r3_0
  refine ok_clR h_r3 ?_
  have f_r3 := fw_blanks h_r3
  have : (Ic3 1).toInt = (I2 1).toInt := congrArg Int32.toInt (f_r3.1 1 (by decide))
  have : (Ic3 29).toInt = (I2 29).toInt := congrArg Int32.toInt (f_r3.1 29 (by decide))
  have k3 : TRE Ac3 gg := TRE_fr (f_r3.2 7 (by decide)) (f_r3.2 8 (by decide)) (f_r3.2 9 (by decide)) (f_r3.2 10 (by decide)) (f_r3.2 11 (by decide)) q0
  have k4 : TRH Ac3 hh nb := TRH_fr (f_r3.2 7 (by decide)) (f_r3.2 8 (by decide)) (f_r3.2 9 (by decide)) (f_r3.2 10 (by decide)) (f_r3.2 11 (by decide)) q1
  have b_Ic3_1 := tI_1 hI_Ic3
  have b_Ic3_37 := tI_37 hI_Ic3
  refine ok_if (fun c5 => ?_) (fun c5 => ?_)
  ·
    replace c5 := ti_leP c5 rfl rfl
    unfold f_readGame_185
    exact ok_ret ⟨hI_Ic3, hA_Ac3, (show (0 : Int) ≤ (0 : Int32).toInt ∧ (0 : Int32).toInt ≤ (92100 : Int) from (by decide)), k3, k4⟩
  ·
    replace c5 := ti_leN c5 rfl rfl
    obtain ⟨r4, h_r4, p_r4⟩ := ro (t_fault (x0 := (1 : Int32)) (x1 := (Ic3 37))  hI_Ic3 hA_Ac3 (by decide) (by omega))
    refine ok_clR h_r4 ?_
    dsimp only at p_r4
    unfold f_readGame_185
    exact ok_ret ⟨hI_Ic3, hA_Ac3, (show (0 : Int) ≤ r4.toInt ∧ r4.toInt ≤ (92100 : Int) from (by omega)), k3, k4⟩
theorem t_readGame_117 {gg hh nb : Nat} {I : Nat → Int32} {A : Nat → Nat → Int32} {self74 : Int32 → Int32 → Int32 → (Nat → Int32) → (Nat → Nat → Int32) → Option (Int32 × MS)} {N74 : Nat} (hself74 : ∀ (x1 : Int32) (x3 : Int32) (x4 : Int32) (I : Nat → Int32) (A : Nat → Nat → Int32), TJ I → TK A → ((0 : Int) ≤ x1.toInt ∧ x1.toInt ≤ (1 : Int)) → ((-1 : Int) ≤ x3.toInt ∧ x3.toInt ≤ (3 : Int)) → ((0 : Int) ≤ x4.toInt ∧ x4.toInt ≤ (8 : Int)) → (TRE A gg) → (TRH A hh nb) → ((I 37).toInt ≤ (I 1).toInt) → (9 - x4.toInt) < (N74 : Int) → Ok (self74 x1 x3 x4 I A) (fun o => TJ o.2.1 ∧ TK o.2.2 ∧ ((0 : Int) ≤ o.1.toInt ∧ o.1.toInt ≤ (92100 : Int)) ∧ (TRE o.2.2 gg) ∧ (TRH o.2.2 hh nb))) {x1 : Int32} {x3 : Int32} {x4 : Int32} (hI : TJ I) (hA : TK A) (r_x1 : (0 : Int) ≤ x1.toInt ∧ x1.toInt ≤ (1 : Int)) (r_x3 : (-1 : Int) ≤ x3.toInt ∧ x3.toInt ≤ (3 : Int)) (r_x4 : (0 : Int) ≤ x4.toInt ∧ x4.toInt ≤ (7 : Int)) (q0 : TRE A gg) (q1 : TRH A hh nb) (q2 : (I 37).toInt ≤ (I 1).toInt) (m74 : (9 - x4.toInt) ≤ (N74 : Int)) : Ok (f_readGame_117 self74 x1 x3 x4 I A) (fun o => TJ o.2.1 ∧ TK o.2.2 ∧ ((0 : Int) ≤ o.1.toInt ∧ o.1.toInt ≤ (92100 : Int)) ∧ (TRE o.2.2 gg) ∧ (TRH o.2.2 hh nb)) := by
  unfold f_readGame_117
  have b_I_1 := tI_1 hI
  have b_I_37 := tI_37 hI
  have b_I_29 := tI_29 hI
  refine ok_bnd (fun v1 e6 => ?_)
  have t_v1 : v1.toInt = x4.toInt + 1 := ti_add e6 rfl (show (1 : Int32).toInt = 1 from rfl) (by omega) (by omega)
  exact hself74 x1 x3 v1 I A hI hA r_x1 r_x3 (by omega) q0 q1 q2 (by omega)
theorem t_readGame_74s {gg hh nb : Nat} {I : Nat → Int32} {A : Nat → Nat → Int32} {self74 : Int32 → Int32 → Int32 → (Nat → Int32) → (Nat → Nat → Int32) → Option (Int32 × MS)} {N74 : Nat} (hself74 : ∀ (x1 : Int32) (x3 : Int32) (x4 : Int32) (I : Nat → Int32) (A : Nat → Nat → Int32), TJ I → TK A → ((0 : Int) ≤ x1.toInt ∧ x1.toInt ≤ (1 : Int)) → ((-1 : Int) ≤ x3.toInt ∧ x3.toInt ≤ (3 : Int)) → ((0 : Int) ≤ x4.toInt ∧ x4.toInt ≤ (8 : Int)) → (TRE A gg) → (TRH A hh nb) → ((I 37).toInt ≤ (I 1).toInt) → (9 - x4.toInt) < (N74 : Int) → Ok (self74 x1 x3 x4 I A) (fun o => TJ o.2.1 ∧ TK o.2.2 ∧ ((0 : Int) ≤ o.1.toInt ∧ o.1.toInt ≤ (92100 : Int)) ∧ (TRE o.2.2 gg) ∧ (TRH o.2.2 hh nb))) {x1 : Int32} {x3 : Int32} {x4 : Int32} (hI : TJ I) (hA : TK A) (r_x1 : (0 : Int) ≤ x1.toInt ∧ x1.toInt ≤ (1 : Int)) (r_x3 : (-1 : Int) ≤ x3.toInt ∧ x3.toInt ≤ (3 : Int)) (r_x4 : (0 : Int) ≤ x4.toInt ∧ x4.toInt ≤ (8 : Int)) (q0 : TRE A gg) (q1 : TRH A hh nb) (q2 : (I 37).toInt ≤ (I 1).toInt) (m74 : (9 - x4.toInt) ≤ (N74 : Int)) : Ok (f_readGame_74s self74 x1 x3 x4 I A) (fun o => TJ o.2.1 ∧ TK o.2.2 ∧ ((0 : Int) ≤ o.1.toInt ∧ o.1.toInt ≤ (92100 : Int)) ∧ (TRE o.2.2 gg) ∧ (TRH o.2.2 hh nb)) := by
  unfold f_readGame_74s
  have b_I_1 := tI_1 hI
  have b_I_37 := tI_37 hI
  have b_I_29 := tI_29 hI
  refine ok_chk (ti_in (by omega) (by omega)) ?_
  refine ok_bnd (fun v1 e7 => ?_)
  have b_v1 := tA_18 hA ((x1).toNatClampNeg)
  rw [← e7] at b_v1
  refine ok_if (fun c8 => ?_) (fun c8 => ?_)
  ·
    replace c8 := ti_leP c8 rfl rfl
    refine ok_chk (ti_in (by omega) (by omega)) ?_
    refine ok_bnd (fun A2 e9 => ?_)
    have hA_A2 : TK A2 := e9.symm ▸ tk_u hA (j := 23) (show (-1 : Int) ≤ x3.toInt from (by omega)) (show x3.toInt ≤ (3 : Int) from (by omega))
    have k10 : TRE A2 gg := TRE_fr (show A2 7 = A 7 by rw [e9]; exact va_up_ne _ _ (by decide)) (show A2 8 = A 8 by rw [e9]; exact va_up_ne _ _ (by decide)) (show A2 9 = A 9 by rw [e9]; exact va_up_ne _ _ (by decide)) (show A2 10 = A 10 by rw [e9]; exact va_up_ne _ _ (by decide)) (show A2 11 = A 11 by rw [e9]; exact va_up_ne _ _ (by decide)) q0
    have k11 : TRH A2 hh nb := TRH_fr (show A2 7 = A 7 by rw [e9]; exact va_up_ne _ _ (by decide)) (show A2 8 = A 8 by rw [e9]; exact va_up_ne _ _ (by decide)) (show A2 9 = A 9 by rw [e9]; exact va_up_ne _ _ (by decide)) (show A2 10 = A 10 by rw [e9]; exact va_up_ne _ _ (by decide)) (show A2 11 = A 11 by rw [e9]; exact va_up_ne _ _ (by decide)) q1
    refine ok_if (fun c12 => ?_) (fun c12 => ?_)
    ·
      replace c12 := ti_eqP c12 rfl (show (0 : Int32).toInt = 0 from rfl)
      exact t_readGame_154 (gg := gg) (hh := hh) (nb := nb)   (t0 := (1 : Int32)) (t1 := (I 37)) hI hA_A2 (by decide) (by omega) k10 k11
    ·
      replace c12 := ti_eqN c12 rfl (show (0 : Int32).toInt = 0 from rfl)
      refine ok_if (fun c13 => ?_) (fun c13 => ?_)
      ·
        replace c13 := ti_eqP c13 rfl (show (3 : Int32).toInt = 3 from rfl)
        exact t_readGame_154 (gg := gg) (hh := hh) (nb := nb)   (t0 := (7 : Int32)) (t1 := (I 37)) hI hA_A2 (by decide) (by omega) k10 k11
      ·
        replace c13 := ti_eqN c13 rfl (show (3 : Int32).toInt = 3 from rfl)
        exact t_readGame_154 (gg := gg) (hh := hh) (nb := nb)   (t0 := (3 : Int32)) (t1 := (I 37)) hI hA_A2 (by decide) (by omega) k10 k11
  ·
    replace c8 := ti_leN c8 rfl rfl
    obtain ⟨r3, h_r3, p_r3⟩ := ro (t_isTag (x1 := x4) (x2 := x1) (x3 := (1 : Int32))  hI hA (by omega) r_x1 (by decide))
    refine ok_clR h_r3 ?_
    dsimp only at p_r3
    refine ok_if (fun c14 => ?_) (fun c14 => ?_)
    ·
      replace c14 := ti_eqP c14 rfl (show (0 : Int32).toInt = 0 from rfl)
      exact t_readGame_117 (gg := gg) (hh := hh) (nb := nb)  hself74 (x1 := x1) (x3 := x3) (x4 := x4) hI hA r_x1 r_x3 (by omega) q0 q1 q2 m74
    ·
      replace c14 := ti_eqN c14 rfl (show (0 : Int32).toInt = 0 from rfl)
      obtain ⟨r4, h_r4, p_r4⟩ := ro (t_isResultValue (x1 := x1) (x2 := x4) (x3 := x3)  hI hA r_x1 (by omega))
      refine ok_clR h_r4 ?_
      dsimp only at p_r4
      refine ok_if (fun c15 => ?_) (fun c15 => ?_)
      ·
        replace c15 := ti_eqP c15 rfl (show (0 : Int32).toInt = 0 from rfl)
        obtain ⟨r5, h_r5, p_r5⟩ := ro (t_fault (x0 := (9 : Int32)) (x1 := (I 37))  hI hA (by decide) (by omega))
        refine ok_clR h_r5 ?_
        dsimp only at p_r5
        exact ok_ret ⟨hI, hA, (show (0 : Int) ≤ r5.toInt ∧ r5.toInt ≤ (92100 : Int) from (by omega)), q0, q1⟩
      ·
        replace c15 := ti_eqN c15 rfl (show (0 : Int32).toInt = 0 from rfl)
        exact t_readGame_117 (gg := gg) (hh := hh) (nb := nb)  hself74 (x1 := x1) (x3 := x3) (x4 := x4) hI hA r_x1 r_x3 (by omega) q0 q1 q2 m74
theorem t_readGame_74 {gg hh nb : Nat}  : ∀ (n : Nat) (x1 : Int32) (x3 : Int32) (x4 : Int32) (I : Nat → Int32) (A : Nat → Nat → Int32), TJ I → TK A → ((0 : Int) ≤ x1.toInt ∧ x1.toInt ≤ (1 : Int)) → ((-1 : Int) ≤ x3.toInt ∧ x3.toInt ≤ (3 : Int)) → ((0 : Int) ≤ x4.toInt ∧ x4.toInt ≤ (8 : Int)) → (TRE A gg) → (TRH A hh nb) → ((I 37).toInt ≤ (I 1).toInt) → (9 - x4.toInt) < (n : Int) → Ok (f_readGame_74  n x1 x3 x4 I A) (fun o => TJ o.2.1 ∧ TK o.2.2 ∧ ((0 : Int) ≤ o.1.toInt ∧ o.1.toInt ≤ (92100 : Int)) ∧ (TRE o.2.2 gg) ∧ (TRH o.2.2 hh nb)) := by
  intro n
  induction n with
  | zero => intro x1 x3 x4 I A hI hA g0 g1 g2 g3 g4 g5  hm; exfalso; omega
  | succ n ih =>
    intro x1 x3 x4 I A hI hA g0 g1 g2 g3 g4 g5  hm
    exact t_readGame_74s (gg := gg) (hh := hh) (nb := nb)  (N74 := n)  ih hI hA g0 g1 g2 g3 g4 g5  (by omega)
theorem t_readGame_59 {gg hh nb : Nat} {I : Nat → Int32} {A : Nat → Nat → Int32} {x1 : Int32} {t0 : Int32} (hI : TJ I) (hA : TK A) (r_x1 : (0 : Int) ≤ x1.toInt ∧ x1.toInt ≤ (1 : Int)) (r_t0 : (0 : Int) ≤ t0.toInt ∧ t0.toInt ≤ (92100 : Int)) (q0 : TRE A gg) (q1 : TRH A hh nb) (q2 : (I 37).toInt ≤ (I 1).toInt) : Ok (f_readGame_59 x1 t0 I A) (fun o => TJ o.2.1 ∧ TK o.2.2 ∧ ((0 : Int) ≤ o.1.toInt ∧ o.1.toInt ≤ (92100 : Int)) ∧ (TRE o.2.2 gg) ∧ (TRH o.2.2 hh nb)) := by
  unfold f_readGame_59
  have b_I_1 := tI_1 hI
  have b_I_37 := tI_37 hI
  have b_I_29 := tI_29 hI
  refine ok_if (fun c16 => ?_) (fun c16 => ?_)
  ·
    replace c16 := ti_leP c16 rfl (show (0 : Int32).toInt = 0 from rfl)
    obtain ⟨r1, h_r1, p_r1⟩ := ro (t_resultHere   hI hA )
    refine ok_clR h_r1 ?_
    dsimp only at p_r1
    exact t_readGame_74 (gg := gg) (hh := hh) (nb := nb)    mFuel x1 r1 (0 : Int32) I A hI hA r_x1 (by omega) (by decide) q0 q1 q2 (by show _ < ((200000 : Nat) : Int); have z0 : (0 : Int32).toInt = 0 := rfl; omega)
  ·
    replace c16 := ti_leN c16 rfl (show (0 : Int32).toInt = 0 from rfl)
    exact ok_ret ⟨hI, hA, (show (0 : Int) ≤ t0.toInt ∧ t0.toInt ≤ (92100 : Int) from (by omega)), q0, q1⟩
theorem t_readGame_9s {gg hh nb : Nat} {I : Nat → Int32} {A : Nat → Nat → Int32} {self9 : Int32 → (Nat → Int32) → (Nat → Nat → Int32) → Option (Int32 × MS)} {N9 : Nat} (hself9 : ∀ (x1 : Int32) (I : Nat → Int32) (A : Nat → Nat → Int32), TJ I → TK A → ((0 : Int) ≤ x1.toInt ∧ x1.toInt ≤ (1 : Int)) → ((I 37).toInt ≤ (I 1).toInt) → ((I 29).toInt ≤ 1999) → (TRE A gg) → (TRH A hh nb) → (x1.toInt = (gg : Int)) → (hh ≤ 1 ∧ hh ≠ gg) → (lnk A gg 0 0) → (leaf A gg 0) → ((I 1).toInt - (I 37).toInt) < (N9 : Int) → Ok (self9 x1 I A) (fun o => TJ o.2.1 ∧ TK o.2.2 ∧ ((0 : Int) ≤ o.1.toInt ∧ o.1.toInt ≤ (92100 : Int)) ∧ (TRE o.2.2 gg) ∧ (TRH o.2.2 hh nb))) {x1 : Int32} (hI : TJ I) (hA : TK A) (r_x1 : (0 : Int) ≤ x1.toInt ∧ x1.toInt ≤ (1 : Int)) (q0 : (I 37).toInt ≤ (I 1).toInt) (q1 : (I 29).toInt ≤ 1999) (q2 : TRE A gg) (q3 : TRH A hh nb) (q4 : x1.toInt = (gg : Int)) (q5 : hh ≤ 1 ∧ hh ≠ gg) (q6 : lnk A gg 0 0) (q7 : leaf A gg 0) (m9 : ((I 1).toInt - (I 37).toInt) ≤ (N9 : Int)) : Ok (f_readGame_9s self9 x1 I A) (fun o => TJ o.2.1 ∧ TK o.2.2 ∧ ((0 : Int) ≤ o.1.toInt ∧ o.1.toInt ≤ (92100 : Int)) ∧ (TRE o.2.2 gg) ∧ (TRH o.2.2 hh nb)) := by
  unfold f_readGame_9s
  have b_I_1 := tI_1 hI
  have b_I_37 := tI_37 hI
  have b_I_29 := tI_29 hI
  obtain ⟨r1, h_r1, p_r1⟩ := ro (t_look   hI hA )
  refine ok_clR h_r1 ?_
  dsimp only at p_r1
  refine ok_if (fun c17 => ?_) (fun c17 => ?_)
  ·
    replace c17 := ti_eqP c17 rfl (show (91 : Int32).toInt = 91 from rfl)
    obtain ⟨⟨r4, Ic4, Ac4⟩, h_r4, hI_Ic4, hA_Ac4, p_r4, p_r4_0, p_r4_1⟩ := t_readTag (x1 := x1)  hI hA r_x1 (by omega) (show (I 37).toInt ≤ (I 37).toInt from Int.le_refl _) q1
    replace hI_Ic4 : TJ Ic4 := hI_Ic4
    replace hA_Ac4 : TK Ac4 := hA_Ac4
    dsimp only at p_r4 p_r4_0 p_r4_1
    refine ok_clR h_r4 ?_
    have f_r4 := fw_readTag h_r4
    have : (Ic4 1).toInt = (I 1).toInt := congrArg Int32.toInt (f_r4.1 1 (by decide))
    have k18 : TRE Ac4 gg := TRE_fr (f_r4.2 7 (by decide)) (f_r4.2 8 (by decide)) (f_r4.2 9 (by decide)) (f_r4.2 10 (by decide)) (f_r4.2 11 (by decide)) q2
    have k19 : TRH Ac4 hh nb := TRH_fr (f_r4.2 7 (by decide)) (f_r4.2 8 (by decide)) (f_r4.2 9 (by decide)) (f_r4.2 10 (by decide)) (f_r4.2 11 (by decide)) q3
    have k20 : lnk Ac4 gg 0 0 := lnk_fr (f_r4.2 7 (by decide)) (f_r4.2 8 (by decide)) (f_r4.2 10 (by decide)) q6
    have k21 : leaf Ac4 gg 0 := leaf_fr (f_r4.2 10 (by decide)) q7
    refine ok_if (fun c22 => ?_) (fun c22 => ?_)
    ·
      replace c22 := ti_leP c22 rfl (show (0 : Int32).toInt = 0 from rfl)
      have b_Ic4_1 := tI_1 hI_Ic4
      have b_Ic4_37 := tI_37 hI_Ic4
      obtain ⟨⟨r5, Ic5, Ac5⟩, h_r5, hI_Ic5, hA_Ac5, p_r5_0⟩ := t_blanks   hI_Ic4 hA_Ac4 (show (Ic4 37).toInt ≤ (Ic4 37).toInt ∧ (Ic4 37).toInt ≤ (Ic4 1).toInt ∧ (Ic4 1).toInt ≤ (Ic4 1).toInt from ⟨Int.le_refl _, by omega, Int.le_refl _⟩)
      replace hI_Ic5 : TJ Ic5 := hI_Ic5
      replace hA_Ac5 : TK Ac5 := hA_Ac5
      dsimp only at p_r5_0
      refine ok_clR h_r5 ?_
      have f_r5 := fw_blanks h_r5
      have : (Ic5 1).toInt = (Ic4 1).toInt := congrArg Int32.toInt (f_r5.1 1 (by decide))
      have : (Ic5 29).toInt = (Ic4 29).toInt := congrArg Int32.toInt (f_r5.1 29 (by decide))
      have k23 : TRE Ac5 gg := TRE_fr (f_r5.2 7 (by decide)) (f_r5.2 8 (by decide)) (f_r5.2 9 (by decide)) (f_r5.2 10 (by decide)) (f_r5.2 11 (by decide)) k18
      have k24 : TRH Ac5 hh nb := TRH_fr (f_r5.2 7 (by decide)) (f_r5.2 8 (by decide)) (f_r5.2 9 (by decide)) (f_r5.2 10 (by decide)) (f_r5.2 11 (by decide)) k19
      have k25 : lnk Ac5 gg 0 0 := lnk_fr (f_r5.2 7 (by decide)) (f_r5.2 8 (by decide)) (f_r5.2 10 (by decide)) k20
      have k26 : leaf Ac5 gg 0 := leaf_fr (f_r5.2 10 (by decide)) k21
      have b_Ic5_1 := tI_1 hI_Ic5
      have b_Ic5_37 := tI_37 hI_Ic5
      have b_Ic5_29 := tI_29 hI_Ic5
      exact hself9 x1 Ic5 Ac5 hI_Ic5 hA_Ac5 r_x1 (by omega) (by omega) k23 k24 q4 q5 k25 k26 (by omega)
    ·
      replace c22 := ti_leN c22 rfl (show (0 : Int32).toInt = 0 from rfl)
      exact ok_ret ⟨hI_Ic4, hA_Ac4, (show (0 : Int) ≤ r4.toInt ∧ r4.toInt ≤ (92100 : Int) from (by omega)), k18, k19⟩
  ·
    replace c17 := ti_eqN c17 rfl (show (91 : Int32).toInt = 91 from rfl)
    obtain ⟨⟨r2, Ic2, Ac2⟩, h_r2, hI_Ic2, hA_Ac2, p_r2, p_r2_0⟩ := t_readRemarks (x1 := x1) (x2 := (0 : Int32))  hI hA r_x1 (by decide) q0 (show (I 37).toInt ≤ (I 37).toInt from Int.le_refl _)
    replace hI_Ic2 : TJ Ic2 := hI_Ic2
    replace hA_Ac2 : TK Ac2 := hA_Ac2
    dsimp only at p_r2 p_r2_0
    refine ok_clR h_r2 ?_
    have f_r2 := fw_readRemarks h_r2
    have : (Ic2 1).toInt = (I 1).toInt := congrArg Int32.toInt (f_r2.1 1 (by decide))
    have : (Ic2 29).toInt = (I 29).toInt := congrArg Int32.toInt (f_r2.1 29 (by decide))
    have k27 : TRE Ac2 gg := TRE_fr (f_r2.2 7 (by decide)) (f_r2.2 8 (by decide)) (f_r2.2 9 (by decide)) (f_r2.2 10 (by decide)) (f_r2.2 11 (by decide)) q2
    have k28 : TRH Ac2 hh nb := TRH_fr (f_r2.2 7 (by decide)) (f_r2.2 8 (by decide)) (f_r2.2 9 (by decide)) (f_r2.2 10 (by decide)) (f_r2.2 11 (by decide)) q3
    have k29 : lnk Ac2 gg 0 0 := lnk_fr (f_r2.2 7 (by decide)) (f_r2.2 8 (by decide)) (f_r2.2 10 (by decide)) q6
    have k30 : leaf Ac2 gg 0 := leaf_fr (f_r2.2 10 (by decide)) q7
    refine ok_if (fun c31 => ?_) (fun c31 => ?_)
    ·
      replace c31 := ti_leP c31 rfl (show (0 : Int32).toInt = 0 from rfl)
      have b_Ic2_1 := tI_1 hI_Ic2
      have b_Ic2_37 := tI_37 hI_Ic2
      obtain ⟨⟨r3, Ic3, Ac3⟩, h_r3, hI_Ic3, hA_Ac3, p_r3, p_r3_0, p_r3_1, p_r3_2, p_r3_3, p_r3_4⟩ := t_readLine (x1 := x1) (x2 := (0 : Int32)) (x3 := (0 : Int32)) (gg := gg) (hh := hh) (nb := nb) (aa := (Ic2 37).toInt) (A0 := Ac2) (nd := 0) hI_Ic2 hA_Ac2 r_x1 (by decide) (by decide) (by have z0 : (0 : Int32).toInt = 0 := rfl; have z1 : (0 : Int32).toInt = 0 := rfl; omega) (by have z0 : (0 : Int32).toInt = 0 := rfl; have z1 : (0 : Int32).toInt = 0 := rfl; omega) k27 k28 EX_refl q4 q5 (Or.inl rfl) (apd_leaf k29 k30)
      replace hI_Ic3 : TJ Ic3 := hI_Ic3
      replace hA_Ac3 : TK Ac3 := hA_Ac3
      dsimp only at p_r3 p_r3_0 p_r3_1 p_r3_2 p_r3_3 p_r3_4
      refine ok_clR h_r3 ?_
      have f_r3 := fw_readLine h_r3
      have : (Ic3 1).toInt = (Ic2 1).toInt := congrArg Int32.toInt (f_r3.1 1 (by decide))
      have b_Ic3_1 := tI_1 hI_Ic3
      have b_Ic3_37 := tI_37 hI_Ic3
      exact t_readGame_59 (gg := gg) (hh := hh) (nb := nb)   (x1 := x1) (t0 := r3) hI_Ic3 hA_Ac3 r_x1 (by omega) p_r3_2 p_r3_3 (by omega)
    ·
      replace c31 := ti_leN c31 rfl (show (0 : Int32).toInt = 0 from rfl)
      have b_Ic2_1 := tI_1 hI_Ic2
      have b_Ic2_37 := tI_37 hI_Ic2
      exact t_readGame_59 (gg := gg) (hh := hh) (nb := nb)   (x1 := x1) (t0 := r2) hI_Ic2 hA_Ac2 r_x1 (by omega) k27 k28 (by omega)
theorem t_readGame_9 {gg hh nb : Nat}  : ∀ (n : Nat) (x1 : Int32) (I : Nat → Int32) (A : Nat → Nat → Int32), TJ I → TK A → ((0 : Int) ≤ x1.toInt ∧ x1.toInt ≤ (1 : Int)) → ((I 37).toInt ≤ (I 1).toInt) → ((I 29).toInt ≤ 1999) → (TRE A gg) → (TRH A hh nb) → (x1.toInt = (gg : Int)) → (hh ≤ 1 ∧ hh ≠ gg) → (lnk A gg 0 0) → (leaf A gg 0) → ((I 1).toInt - (I 37).toInt) < (n : Int) → Ok (f_readGame_9  n x1 I A) (fun o => TJ o.2.1 ∧ TK o.2.2 ∧ ((0 : Int) ≤ o.1.toInt ∧ o.1.toInt ≤ (92100 : Int)) ∧ (TRE o.2.2 gg) ∧ (TRH o.2.2 hh nb)) := by
  intro n
  induction n with
  | zero => intro x1 I A hI hA g0 g1 g2 g3 g4 g5 g6 g7 g8  hm; exfalso; omega
  | succ n ih =>
    intro x1 I A hI hA g0 g1 g2 g3 g4 g5 g6 g7 g8  hm
    exact t_readGame_9s (gg := gg) (hh := hh) (nb := nb)  (N9 := n)  ih hI hA g0 g1 g2 g3 g4 g5 g6 g7 g8  (by omega)
theorem t_readGame_0 {gg hh nb : Nat} {I : Nat → Int32} {A : Nat → Nat → Int32} {x1 : Int32} (hI : TJ I) (hA : TK A) (r_x1 : (0 : Int) ≤ x1.toInt ∧ x1.toInt ≤ (1 : Int)) (q0 : (I 29).toInt ≤ 1999) (q1 : TRE A gg) (q2 : TRH A hh nb) (q3 : x1.toInt = (gg : Int)) (q4 : hh ≤ 1 ∧ hh ≠ gg) (q5 : lnk A gg 0 0) (q6 : leaf A gg 0) : Ok (f_readGame_0 x1 I A) (fun o => TJ o.2.1 ∧ TK o.2.2 ∧ ((0 : Int) ≤ o.1.toInt ∧ o.1.toInt ≤ (92100 : Int)) ∧ (TRE o.2.2 gg) ∧ (TRH o.2.2 hh nb)) := by
  unfold f_readGame_0
  have b_I_1 := tI_1 hI
  have b_I_37 := tI_37 hI
  have b_I_29 := tI_29 hI
  refine ok_bnd (fun I1 e32 => ?_)
  have hI_I1 : TJ I1 := e32.symm ▸ tj_u hI (k := 37) (show (0 : Int) ≤ (0 : Int32).toInt from (by decide)) (show (0 : Int32).toInt ≤ (2100 : Int) from (by decide))
  have : (I1 1).toInt = (I 1).toInt := by rw [e32]; rfl
  have : (I1 37).toInt = 0 := by rw [e32]; exact (show (0 : Int32).toInt = 0 from rfl)
  have : (I1 29).toInt = (I 29).toInt := by rw [e32]; rfl
  have b_I1_1 := tI_1 hI_I1
  have b_I1_37 := tI_37 hI_I1
  obtain ⟨⟨r2, Ic2, Ac2⟩, h_r2, hI_Ic2, hA_Ac2, p_r2_0⟩ := t_blanks   hI_I1 hA (show (I1 37).toInt ≤ (I1 37).toInt ∧ (I1 37).toInt ≤ (I1 1).toInt ∧ (I1 1).toInt ≤ (I1 1).toInt from ⟨Int.le_refl _, by omega, Int.le_refl _⟩)
  replace hI_Ic2 : TJ Ic2 := hI_Ic2
  replace hA_Ac2 : TK Ac2 := hA_Ac2
  dsimp only at p_r2_0
  refine ok_clR h_r2 ?_
  have f_r2 := fw_blanks h_r2
  have : (Ic2 1).toInt = (I1 1).toInt := congrArg Int32.toInt (f_r2.1 1 (by decide))
  have : (Ic2 29).toInt = (I1 29).toInt := congrArg Int32.toInt (f_r2.1 29 (by decide))
  have k33 : TRE Ac2 gg := TRE_fr (f_r2.2 7 (by decide)) (f_r2.2 8 (by decide)) (f_r2.2 9 (by decide)) (f_r2.2 10 (by decide)) (f_r2.2 11 (by decide)) q1
  have k34 : TRH Ac2 hh nb := TRH_fr (f_r2.2 7 (by decide)) (f_r2.2 8 (by decide)) (f_r2.2 9 (by decide)) (f_r2.2 10 (by decide)) (f_r2.2 11 (by decide)) q2
  have k35 : lnk Ac2 gg 0 0 := lnk_fr (f_r2.2 7 (by decide)) (f_r2.2 8 (by decide)) (f_r2.2 10 (by decide)) q5
  have k36 : leaf Ac2 gg 0 := leaf_fr (f_r2.2 10 (by decide)) q6
  have b_Ic2_1 := tI_1 hI_Ic2
  have b_Ic2_37 := tI_37 hI_Ic2
  have b_Ic2_29 := tI_29 hI_Ic2
  exact t_readGame_9 (gg := gg) (hh := hh) (nb := nb)    mFuel x1 Ic2 Ac2 hI_Ic2 hA_Ac2 r_x1 (by omega) (by omega) k33 k34 q3 q4 k35 k36 (by show _ < ((200000 : Nat) : Int); omega)
theorem t_readGame {gg hh nb : Nat} {I : Nat → Int32} {A : Nat → Nat → Int32} {x1 : Int32} (hI : TJ I) (hA : TK A) (r_x1 : (0 : Int) ≤ x1.toInt ∧ x1.toInt ≤ (1 : Int)) (q0 : (I 29).toInt ≤ 1999) (q1 : TRE A gg) (q2 : TRH A hh nb) (q3 : x1.toInt = (gg : Int)) (q4 : hh ≤ 1 ∧ hh ≠ gg) (q5 : lnk A gg 0 0) (q6 : leaf A gg 0) : Ok (f_readGame x1 I A) (fun o => TJ o.2.1 ∧ TK o.2.2 ∧ ((0 : Int) ≤ o.1.toInt ∧ o.1.toInt ≤ (92100 : Int)) ∧ (TRE o.2.2 gg) ∧ (TRH o.2.2 hh nb)) := t_readGame_0 (gg := gg) (hh := hh) (nb := nb) hI hA r_x1 q0 q1 q2 q3 q4 q5 q6
theorem t_read_47 {gg : Nat} {kk : Nat} {I : Nat → Int32} {A : Nat → Nat → Int32} {x2 : Int32} (hI : TJ I) (hA : TK A) (r_x2 : (0 : Int) ≤ x2.toInt ∧ x2.toInt ≤ (92100 : Int)) (q0 : TRE A kk) (q1 : (I 5).toInt = (kk : Int)) (q2 : (I 6).toInt ≤ (aK A kk : Int)) : Ok (f_read_47 x2 I A) (fun o => TJ o.2.1 ∧ TK o.2.2 ∧ ((0 : Int) ≤ o.1.toInt ∧ o.1.toInt ≤ (92100 : Int)) ∧ (RIv o.2.1 o.2.2)) := by
  unfold f_read_47
  have b_I_1 := tI_1 hI
  have b_I_5 := tI_5 hI
  have b_I_6 := tI_6 hI
  have b_I_29 := tI_29 hI
  have ck0 : cK A kk (aK A kk) := rfl
  obtain ⟨⟨r1, Ic1, Ac1⟩, h_r1, hI_Ic1, hA_Ac1, p_r1_0⟩ := t_place (x1 := (I 5)) (x2 := (I 6))  hI hA (by omega) (by omega) (TRE_n q0) (by omega) (by omega)
  replace hI_Ic1 : TJ Ic1 := hI_Ic1
  replace hA_Ac1 : TK Ac1 := hA_Ac1
  dsimp only at p_r1_0
  refine ok_clR h_r1 ?_
  have f_r1 := fw_place h_r1
  have : (Ic1 1).toInt = (I 1).toInt := congrArg Int32.toInt (f_r1.1 1 (by decide))
  have : (Ic1 5).toInt = (I 5).toInt := congrArg Int32.toInt (f_r1.1 5 (by decide))
  have : (Ic1 6).toInt = (I 6).toInt := congrArg Int32.toInt (f_r1.1 6 (by decide))
  have k37 : TRE Ac1 kk := TRE_fr (f_r1.2 7 (by decide)) (f_r1.2 8 (by decide)) (f_r1.2 9 (by decide)) (f_r1.2 10 (by decide)) (f_r1.2 11 (by decide)) q0
  have k38 : cK Ac1 kk (aK A kk) := cK_fr (f_r1.2 7 (by decide)) ck0
  exact ok_ret ⟨hI_Ic1, hA_Ac1, (show (0 : Int) ≤ x2.toInt ∧ x2.toInt ≤ (92100 : Int) from (by omega)), (by show RIv Ic1 Ac1; exact (RIv_mk (g := kk) k37 (by omega) (by have z := k38; unfold cK at z; omega) (by omega)))⟩
theorem t_read_0 {gg : Nat} {I : Nat → Int32} {A : Nat → Nat → Int32} (hI : TJ I) (hA : TK A) (q0 : (I 5).toInt = (gg : Int)) (q1 : TRE A gg) (q2 : (I 6).toInt ≤ (aK A gg : Int)) : Ok (f_read_0 I A) (fun o => TJ o.2.1 ∧ TK o.2.2 ∧ ((0 : Int) ≤ o.1.toInt ∧ o.1.toInt ≤ (92100 : Int)) ∧ (RIv o.2.1 o.2.2)) := by
  unfold f_read_0
  have b_I_1 := tI_1 hI
  have b_I_5 := tI_5 hI
  have b_I_6 := tI_6 hI
  have b_I_29 := tI_29 hI
  refine ok_bnd (fun I1 e39 => ?_)
  have hI_I1 : TJ I1 := e39.symm ▸ tj_u hI (k := 0) (show (0 : Int) ≤ (0 : Int32).toInt from (by decide)) (show (0 : Int32).toInt ≤ (2 : Int) from (by decide))
  have : (I1 1).toInt = (I 1).toInt := by rw [e39]; rfl
  have : (I1 5).toInt = (I 5).toInt := by rw [e39]; rfl
  have : (I1 6).toInt = (I 6).toInt := by rw [e39]; rfl
  have : (I1 29).toInt = (I 29).toInt := by rw [e39]; rfl
  refine ok_bnd (fun v2 e40 => ?_)
  have b_I1_5 := tI_5 hI_I1
  have t_v2 : v2.toInt = 1 - (I1 5).toInt := ti_sub e40 (show (1 : Int32).toInt = 1 from rfl) rfl (by omega) (by omega)
  obtain ⟨⟨r3, Ic3, Ac3⟩, h_r3, hI_Ic3, hA_Ac3, p_r3_0, p_r3_1, p_r3_2, p_r3_3⟩ := t_clearGame2 (x1 := v2) (gg := (1 - gg)) hI_I1 hA (by omega) (by omega)
  replace hI_Ic3 : TJ Ic3 := hI_Ic3
  replace hA_Ac3 : TK Ac3 := hA_Ac3
  dsimp only at p_r3_0 p_r3_1 p_r3_2 p_r3_3
  refine ok_clR h_r3 ?_
  have f_r3 := fw_clearGame h_r3
  have : (Ic3 1).toInt = (I1 1).toInt := congrArg Int32.toInt (f_r3.1 1 (by decide))
  have : (Ic3 5).toInt = (I1 5).toInt := congrArg Int32.toInt (f_r3.1 5 (by decide))
  have : (Ic3 6).toInt = (I1 6).toInt := congrArg Int32.toInt (f_r3.1 6 (by decide))
  have : (Ic3 29).toInt = (I1 29).toInt := congrArg Int32.toInt (f_r3.1 29 (by decide))
  have th3 : TRH Ac3 gg (aK A gg) := p_r3_1 gg (aK A gg) (by omega) (by omega) ⟨q1, rfl⟩
  obtain ⟨⟨r4, Ic4, Ac4⟩, h_r4, hI_Ic4, hA_Ac4, p_r4_0⟩ := t_usual (x1 := v2)  hI_Ic3 hA_Ac3 (by omega)
  replace hI_Ic4 : TJ Ic4 := hI_Ic4
  replace hA_Ac4 : TK Ac4 := hA_Ac4
  dsimp only at p_r4_0
  refine ok_clR h_r4 ?_
  have f_r4 := fw_usual h_r4
  have : (Ic4 1).toInt = (Ic3 1).toInt := congrArg Int32.toInt (f_r4.1 1 (by decide))
  have : (Ic4 5).toInt = (Ic3 5).toInt := congrArg Int32.toInt (f_r4.1 5 (by decide))
  have : (Ic4 6).toInt = (Ic3 6).toInt := congrArg Int32.toInt (f_r4.1 6 (by decide))
  have k41 : TRE Ac4 (1 - gg) := TRE_fr (f_r4.2 7 (by decide)) (f_r4.2 8 (by decide)) (f_r4.2 9 (by decide)) (f_r4.2 10 (by decide)) (f_r4.2 11 (by decide)) p_r3_0
  have k42 : lnk Ac4 (1 - gg) 0 0 := lnk_fr (f_r4.2 7 (by decide)) (f_r4.2 8 (by decide)) (f_r4.2 10 (by decide)) p_r3_2
  have k43 : leaf Ac4 (1 - gg) 0 := leaf_fr (f_r4.2 10 (by decide)) p_r3_3
  have k44 : TRH Ac4 gg (aK A gg) := TRH_fr (f_r4.2 7 (by decide)) (f_r4.2 8 (by decide)) (f_r4.2 9 (by decide)) (f_r4.2 10 (by decide)) (f_r4.2 11 (by decide)) th3
  have b_Ic4_29 := tI_29 hI_Ic4
  obtain ⟨⟨r5, Ic5, Ac5⟩, h_r5, hI_Ic5, hA_Ac5, p_r5, p_r5_0, p_r5_1⟩ := t_readGame (x1 := v2) (gg := (1 - gg)) (hh := gg) (nb := (aK A gg)) hI_Ic4 hA_Ac4 (by omega) (by omega) k41 (by omega) (by omega) (by omega) k42 k43
  replace hI_Ic5 : TJ Ic5 := hI_Ic5
  replace hA_Ac5 : TK Ac5 := hA_Ac5
  dsimp only at p_r5 p_r5_0 p_r5_1
  refine ok_clR h_r5 ?_
  have f_r5 := fw_readGame h_r5
  have : (Ic5 1).toInt = (Ic4 1).toInt := congrArg Int32.toInt (f_r5.1 1 (by decide))
  have : (Ic5 5).toInt = (Ic4 5).toInt := congrArg Int32.toInt (f_r5.1 5 (by decide))
  have : (Ic5 6).toInt = (Ic4 6).toInt := congrArg Int32.toInt (f_r5.1 6 (by decide))
  refine ok_if (fun c45 => ?_) (fun c45 => ?_)
  ·
    replace c45 := ti_eqP c45 rfl (show (0 : Int32).toInt = 0 from rfl)
    refine ok_bnd (fun I6 e46 => ?_)
    have hI_I6 : TJ I6 := e46.symm ▸ tj_u hI_Ic5 (k := 5) (show (0 : Int) ≤ v2.toInt from (by omega)) (show v2.toInt ≤ (1 : Int) from (by omega))
    have : (I6 1).toInt = (Ic5 1).toInt := by rw [e46]; rfl
    have : (I6 5).toInt = v2.toInt := by rw [e46]; exact rfl
    have : (I6 6).toInt = (Ic5 6).toInt := by rw [e46]; rfl
    have : (I6 29).toInt = (Ic5 29).toInt := by rw [e46]; rfl
    refine ok_bnd (fun I7 e47 => ?_)
    have hI_I7 : TJ I7 := e47.symm ▸ tj_u hI_I6 (k := 6) (show (0 : Int) ≤ (0 : Int32).toInt from (by decide)) (show (0 : Int32).toInt ≤ (300 : Int) from (by decide))
    have : (I7 1).toInt = (I6 1).toInt := by rw [e47]; rfl
    have : (I7 5).toInt = (I6 5).toInt := by rw [e47]; rfl
    have : (I7 6).toInt = 0 := by rw [e47]; exact (show (0 : Int32).toInt = 0 from rfl)
    have : (I7 29).toInt = (I6 29).toInt := by rw [e47]; rfl
    refine ok_bnd (fun I8 e48 => ?_)
    have hI_I8 : TJ I8 := e48.symm ▸ tj_u hI_I7 (k := 1) (show (0 : Int) ≤ (0 : Int32).toInt from (by decide)) (show (0 : Int32).toInt ≤ (2000 : Int) from (by decide))
    have : (I8 1).toInt = 0 := by rw [e48]; exact (show (0 : Int32).toInt = 0 from rfl)
    have : (I8 5).toInt = (I7 5).toInt := by rw [e48]; rfl
    have : (I8 6).toInt = (I7 6).toInt := by rw [e48]; rfl
    have : (I8 29).toInt = (I7 29).toInt := by rw [e48]; rfl
    have b_I8_5 := tI_5 hI_I8
    have b_I8_6 := tI_6 hI_I8
    exact t_read_47 (gg := gg)   (x2 := r5) hI_I8 hA_Ac5 (by omega) p_r5_0 (by omega) (by omega)
  ·
    replace c45 := ti_eqN c45 rfl (show (0 : Int32).toInt = 0 from rfl)
    have b_Ic5_5 := tI_5 hI_Ic5
    have b_Ic5_6 := tI_6 hI_Ic5
    exact t_read_47 (gg := gg)   (x2 := r5) hI_Ic5 hA_Ac5 (by omega) (p_r5_1).1 (by omega) (by have z := (p_r5_1).2; omega)
theorem t_read {gg : Nat} {I : Nat → Int32} {A : Nat → Nat → Int32}  (hI : TJ I) (hA : TK A) (q0 : (I 5).toInt = (gg : Int)) (q1 : TRE A gg) (q2 : (I 6).toInt ≤ (aK A gg : Int)) : Ok (f_read  I A) (fun o => TJ o.2.1 ∧ TK o.2.2 ∧ ((0 : Int) ≤ o.1.toInt ∧ o.1.toInt ≤ (92100 : Int)) ∧ (RIv o.2.1 o.2.2)) := t_read_0 (gg := gg) hI hA q0 q1 q2
end
section
theorem aK_ix {I : Nat → Int32} {A : Nat → Nat → Int32} {g : Nat} (hA : TK A) (h : (I 5).toInt = (g : Int)) : ((aK A g : Nat) : Int) = (A 7 ((I 5)).toNatClampNeg).toInt := by
  have e : ((I 5)).toNatClampNeg = g := by have := ti_nc (a := I 5) (by omega); omega
  have := tA_7 hA g
  rw [e]; unfold aK; omega
noncomputable def ldA (A : Nat → Nat → Int32) (g u b H : Nat) (F h : Int32) : Nat → Nat → Int32 := va_up (va_up A 11 (upd (upd (A 11) (301 * g + b) (A 11 (301 * g + H))) (301 * g + H) F)) 10 (upd (A 10) (301 * g + u) h)
theorem t_lead_123 {I : Nat → Int32} {A : Nat → Nat → Int32} {g u H : Nat} (hg : g ≤ 1) (h5 : (I 5).toInt = (g : Int)) (h6 : (I 6).toInt = (H : Int)) (hu : u ≤ 300) (hH : H ≤ 300) : ∀ (l : List Nat) (b n : Nat) (x1 x2 x3 : Int32), x1.toInt = (u : Int) → x3.toInt = (b : Int) → b ≤ 300 → (∀ k ∈ l, k ≤ 300) → chn (aN A g) l (aN A g b) → H ∈ l → l.length < n → ∃ (l1 r : List Nat) (b' : Nat), b :: l = l1 ++ b' :: H :: r ∧ b' ≤ 300 ∧ f_lead_123 n x1 x2 x3 I A = some (1, (I, ldA A g u b' H x2 (I 6))) := by
  intro l
  induction l with
  | nil => intro b n x1 x2 x3 _ _ _ _ _ hm; cases hm
  | cons k l ih =>
    intro b n x1 x2 x3 h1 h3 hb hl hc hm hn
    cases n with
    | zero => exact absurd hn (Nat.not_lt_zero _)
    | succ n =>
      have hk := hl k List.mem_cons_self
      have hck : aN A g b = (k : Int) := hc.1
      by_cases e : k = H
      · subst e
        refine ⟨[], l, b, rfl, hb, ?_⟩
        have key : Ok (f_lead_123s (f_lead_123 n) x1 x2 x3 I A) (fun o => o = (1, (I, ldA A g u b k x2 (I 6)))) := by
          unfold f_lead_123s
          refine ok_bnd (fun v1 e1 => ?_)
          have t1 := ti_mul e1 (show (301 : Int32).toInt = 301 from rfl) h5 (by omega) (by omega)
          refine ok_bnd (fun v2 e2 => ?_)
          have t2 := ti_add e2 t1 h3 (by omega) (by omega)
          have i2 : v2.toNatClampNeg = 301 * g + b := by have := ti_nc (a := v2) (by omega); omega
          refine ok_chk (ti_in (by omega) (by omega)) ?_
          refine ok_bnd (fun v3 e3 => ?_)
          have w3 : v3.toInt = aN A g b := by rw [e3, i2]; rfl
          refine ok_ifT (Int32.toInt_inj.mp (by rw [w3, hck, h6])) ?_
          refine ok_bnd (fun v4 e4 => ?_)
          have t4 := ti_mul e4 (show (301 : Int32).toInt = 301 from rfl) h5 (by omega) (by omega)
          refine ok_bnd (fun v5 e5 => ?_)
          have t5 := ti_add e5 t4 h3 (by omega) (by omega)
          have i5 : v5.toNatClampNeg = 301 * g + b := by have := ti_nc (a := v5) (by omega); omega
          refine ok_bnd (fun v6 e6 => ?_)
          have t6 := ti_mul e6 (show (301 : Int32).toInt = 301 from rfl) h5 (by omega) (by omega)
          refine ok_bnd (fun v7 e7 => ?_)
          have t7 := ti_add e7 t6 h6 (by omega) (by omega)
          have i7 : v7.toNatClampNeg = 301 * g + k := by have := ti_nc (a := v7) (by omega); omega
          refine ok_chk (ti_in (by omega) (by omega)) ?_
          refine ok_bnd (fun v8 e8 => ?_)
          rw [i7] at e8
          refine ok_chk (ti_in (by omega) (by omega)) ?_
          refine ok_bnd (fun A9 e9 => ?_)
          rw [i5, e8] at e9
          refine ok_bnd (fun v10 e10 => ?_)
          have t10 := ti_mul e10 (show (301 : Int32).toInt = 301 from rfl) h5 (by omega) (by omega)
          refine ok_bnd (fun v11 e11 => ?_)
          have t11 := ti_add e11 t10 h6 (by omega) (by omega)
          have i11 : v11.toNatClampNeg = 301 * g + k := by have := ti_nc (a := v11) (by omega); omega
          refine ok_chk (ti_in (by omega) (by omega)) ?_
          refine ok_bnd (fun A12 e12 => ?_)
          rw [i11] at e12
          refine ok_bnd (fun v13 e13 => ?_)
          have t13 := ti_mul e13 (show (301 : Int32).toInt = 301 from rfl) h5 (by omega) (by omega)
          refine ok_bnd (fun v14 e14 => ?_)
          have t14 := ti_add e14 t13 h1 (by omega) (by omega)
          have i14 : v14.toNatClampNeg = 301 * g + u := by have := ti_nc (a := v14) (by omega); omega
          refine ok_chk (ti_in (by omega) (by omega)) ?_
          refine ok_bnd (fun A15 e15 => ?_)
          rw [i14] at e15
          refine ok_chk (by decide) (ok_ret ?_)
          rw [e15, e12, e9]
          unfold ldA
          congr 2
          funext j
          by_cases j10 : j = 10
          · subst j10; rfl
          · by_cases j11 : j = 11
            · subst j11; rfl
            · rw [va_up_ne _ _ j10, va_up_ne _ _ j11, va_up_ne _ _ j11, va_up_ne _ _ j10, va_up_ne _ _ j11]
        obtain ⟨o, h8, h9⟩ := key
        show f_lead_123s (f_lead_123 n) x1 x2 x3 I A = _
        rw [h8, h9]
      · have hm2 : H ∈ l := by
          rcases List.mem_cons.mp hm with h | h
          · exact absurd h.symm e
          · exact h
        have key : ∃ v : Int32, v.toInt = (k : Int) ∧ f_lead_123s (f_lead_123 n) x1 x2 x3 I A = f_lead_123 n x1 x2 v I A := by
          have key2 : Ok (f_lead_123s (f_lead_123 n) x1 x2 x3 I A) (fun o => ∃ v : Int32, v.toInt = (k : Int) ∧ f_lead_123 n x1 x2 v I A = some o) ∨ True := Or.inr trivial
          refine ⟨A 11 (301 * g + b), hck, ?_⟩
          unfold f_lead_123s
          have t1 := ti_mul (c := 301 * I 5) rfl (show (301 : Int32).toInt = 301 from rfl) h5 (by omega) (by omega)
          have t2 := ti_add (c := 301 * I 5 + x3) rfl t1 h3 (by omega) (by omega)
          have i2 : (301 * I 5 + x3 : Int32).toNatClampNeg = 301 * g + b := by have := ti_nc (a := 301 * I 5 + x3) (by omega); omega
          have hin : ¬ ((301 * I 5 + x3 : Int32) < 0 ∨ 602 ≤ (301 * I 5 + x3 : Int32).toNatClampNeg) := ti_in (by omega) (by omega)
          have hne : ¬ A 11 (301 * I 5 + x3 : Int32).toNatClampNeg = I 6 := fun h => by
            rw [i2] at h
            have h' := congrArg Int32.toInt h
            have h'' : (A 11 (301 * g + b)).toInt = (k : Int) := hck
            omega
          have e1 : ∀ {β : Type} {q : Option β}, m_chk (¬ ((301 * I 5 + x3 : Int32) < 0 ∨ 602 ≤ (301 * I 5 + x3 : Int32).toNatClampNeg)) q = q := fun {β} {q} => if_pos hin
          have e2 : ∀ {β : Type} {q r : Option β}, m_if (A 11 (301 * I 5 + x3 : Int32).toNatClampNeg = I 6) q r = r := fun {β} {q r} => if_neg hne
          rw [m_bnd, m_bnd, e1, m_bnd, e2, m_bnd, m_bnd, e1, m_bnd, i2]
        obtain ⟨v, hv, hrun⟩ := key
        obtain ⟨l1, r, b', h7, h8, h9⟩ := ih k n x1 x2 v h1 hv hk (fun j hj => hl j (List.mem_cons_of_mem _ hj)) hc.2 hm2 (by simp only [List.length_cons] at hn; omega)
        refine ⟨b :: l1, r, b', by rw [h7]; rfl, h8, ?_⟩
        show f_lead_123s (f_lead_123 n) x1 x2 x3 I A = _
        rw [hrun, h9]
noncomputable def chk6 (A : Nat → Nat → Int32) (g F : Nat) (m : Int) : Prop := ∀ k : Nat, 1 ≤ k → (k : Int) < m → bh (aP A g) F k → ∀ D, TTd (aK A g) (aP A g) (aC A g) D → D k ≠ 6
theorem chk6_up {A : Nat → Nat → Int32} {g F : Nat} {m v : Int} (h : chk6 A g F m) (hv : v = m + 1) (hx : bh (aP A g) F m.toNat → ∀ D, TTd (aK A g) (aP A g) (aC A g) D → D m.toNat ≠ 6) : chk6 A g F v := by
  intro k h1 h2 h3 D hD
  by_cases e : (k : Int) = m
  · have e2 : m.toNat = k := by omega
    rw [e2] at hx
    exact hx h3 D hD
  · exact h k h1 (by omega) h3 D hD
theorem first_ge {A : Nat → Nat → Int32} {g H : Nat} (h : TRE A g) (h1 : 1 ≤ H) (h2 : H ≤ aK A g) : (1 ≤ aC A g (aP A g H).toNat ∧ aC A g (aP A g H).toNat ≤ (aK A g : Int)) ∧ (0 ≤ aP A g H ∧ aP A g H < (H : Int)) := by
  obtain ⟨hb, L, D, hl, hd⟩ := h
  have h3 := (hb H h1 h2).1
  obtain ⟨a, b, c⟩ := hl (aP A g H).toNat (by omega)
  have hm := (c H).mpr ⟨h1, h2, by omega⟩
  cases hL : L (aP A g H).toNat with
  | nil => rw [hL] at hm; cases hm
  | cons x l =>
    have hx := (c x).mp (by rw [hL]; exact List.mem_cons_self)
    rw [hL] at a
    have := a.1
    exact ⟨by omega, h3⟩
theorem lead_fin {gg : Nat} {I : Nat → Int32} {A : Nat → Nat → Int32} {x1 x2 : Int32} (hI : TJ I) (hA : TK A) (h5 : (I 5).toInt = (gg : Int)) (ht : TRE A gg) (h6 : 1 ≤ (I 6).toInt ∧ (I 6).toInt ≤ (aK A gg : Int)) (h29 : (I 29).toInt ≤ 1999) (hx1 : x1.toInt = aP A gg (I 6).toInt.toNat) (hx2 : x2.toInt = aC A gg x1.toInt.toNat) (hne : x2.toInt ≠ (I 6).toInt) {m : Int} (hchk : chk6 A gg x2.toInt.toNat m) (hm : (aK A gg : Int) < m) : Ok (f_lead_123 mFuel x1 x2 x2 I A) (fun o => TJ o.2.1 ∧ TK o.2.2 ∧ ((0 : Int) ≤ o.1.toInt ∧ o.1.toInt ≤ (1 : Int)) ∧ (RIv o.2.1 o.2.2)) := by
  have hb5 := tI_5 hI
  have hk := aK_le (g := gg) hA
  have hf := first_ge (H := (I 6).toInt.toNat) ht (by omega) (by omega)
  have htc := ht
  obtain ⟨hb, L, D, hl, hd⟩ := htc
  have hu : x1.toInt.toNat ≤ aK A gg := by omega
  obtain ⟨a, b, c⟩ := hl x1.toInt.toNat hu
  have hHm : (I 6).toInt.toNat ∈ L x1.toInt.toNat := (c _).mpr ⟨by omega, by omega, by omega⟩
  rw [← hx1] at hf
  cases hL : L x1.toInt.toNat with
  | nil => rw [hL] at hHm; cases hHm
  | cons F l =>
    rw [hL] at a hHm
    have hF : x2.toInt = (F : Int) := by rw [hx2]; exact a.1
    have hFm := (c F).mp (by rw [hL]; exact List.mem_cons_self)
    have hHl : (I 6).toInt.toNat ∈ l := by
      rcases List.mem_cons.mp hHm with h | h
      · omega
      · exact h
    have hlk : ∀ k ∈ l, 1 ≤ k ∧ k ≤ aK A gg := fun k hk' => by
      have := (c k).mp (by rw [hL]; exact List.mem_cons_of_mem _ hk')
      omega
    have hlen := chn_len hl hu
    rw [hL] at hlen
    simp only [List.length_cons] at hlen
    obtain ⟨l1, r, b', e1, e2, e3⟩ := t_lead_123 (I := I) (A := A) (g := gg) (u := x1.toInt.toNat) (H := (I 6).toInt.toNat) (by omega) h5 (by omega) (by omega) (by omega) l F mFuel x1 x2 x2 (by omega) hF (by omega) (fun k hk' => by have := hlk k hk'; omega) a.2 hHl (by show _ < 200000; omega)
    have hLu : L x1.toInt.toNat = l1 ++ b' :: (I 6).toInt.toNat :: r := by rw [hL]; exact e1
    have hbm := (c b').mp (by rw [hLu]; simp)
    have hbH : b' ≠ (I 6).toInt.toNat := by
      rw [hLu] at b
      have b2 := (List.nodup_append.mp b).2.1
      intro e
      exact (List.nodup_cons.mp b2).1 (by rw [e]; exact List.mem_cons_self)
    refine ⟨_, e3, hI, ?_, (show (0 : Int) ≤ (1 : Int32).toInt ∧ (1 : Int32).toInt ≤ (1 : Int) by decide), ?_⟩
    · unfold ldA
      have g11 : ∀ i, (tC 11 i).1 ≤ (upd (upd (A 11) (301 * gg + b') (A 11 (301 * gg + (I 6).toInt.toNat))) (301 * gg + (I 6).toInt.toNat) x2 i).toInt ∧ (upd (upd (A 11) (301 * gg + b') (A 11 (301 * gg + (I 6).toInt.toNat))) (301 * gg + (I 6).toInt.toNat) x2 i).toInt ≤ (tC 11 i).2 := fun i => by
        by_cases c1 : i = 301 * gg + (I 6).toInt.toNat
        · rw [c1, upd_self]; exact ⟨show (-1 : Int) ≤ x2.toInt by omega, show x2.toInt ≤ (300 : Int) by omega⟩
        · rw [upd_ne c1]
          by_cases c2 : i = 301 * gg + b'
          · rw [c2, upd_self]; exact hA 11 _
          · rw [upd_ne c2]; exact hA 11 i
      refine tk_x (tk_x hA g11) (fun i => ?_)
      have hb6 := tI_6 hI
      by_cases c1 : i = 301 * gg + x1.toInt.toNat
      · rw [c1, upd_self]; exact ⟨show (-1 : Int) ≤ (I 6).toInt by omega, show (I 6).toInt ≤ (300 : Int) by omega⟩
      · rw [upd_ne c1]; exact hA 10 i
    · have s7 : ldA A gg x1.toInt.toNat b' (I 6).toInt.toNat x2 (I 6) 7 = A 7 := rfl
      have s8 : ldA A gg x1.toInt.toNat b' (I 6).toInt.toNat x2 (I 6) 8 = A 8 := rfl
      have s9 : ldA A gg x1.toInt.toNat b' (I 6).toInt.toNat x2 (I 6) 9 = A 9 := rfl
      have s10 : ldA A gg x1.toInt.toNat b' (I 6).toInt.toNat x2 (I 6) 10 = upd (A 10) (301 * gg + x1.toInt.toNat) (I 6) := rfl
      have s11 : ldA A gg x1.toInt.toNat b' (I 6).toInt.toNat x2 (I 6) 11 = upd (upd (A 11) (301 * gg + b') (A 11 (301 * gg + (I 6).toInt.toNat))) (301 * gg + (I 6).toInt.toNat) x2 := rfl
      generalize ldA A gg x1.toInt.toNat b' (I 6).toInt.toNat x2 (I 6) = A' at s7 s8 s9 s10 s11
      have eK : aK A' gg = aK A gg := by unfold aK; rw [s7]
      have eP : aP A' gg = aP A gg := by funext j; unfold aP; rw [s8]
      have eM : aM A' gg = aM A gg := by funext j; unfold aM; rw [s9]
      have hTT : TRE A' gg := by
        unfold TRE
        rw [eK, eP, eM]
        refine TT_lead (n := aK A gg) (u := x1.toInt.toNat) (F := F) (H := (I 6).toInt.toNat) (b := b') hb hl hd hu hLu (by rw [← hx2]; exact hF) (fun k h1 h2 h3 => ?_) (fun j hj hne' => ?_) ?_ ?_ ?_ (fun j hj h1 h2 => ?_)
        · refine hchk k h1 (by omega) ?_ D hd
          have : x2.toInt.toNat = F := by omega
          rw [this]; exact h3
        · show (A' 10 (301 * gg + j)).toInt = _
          rw [s10, upd_ne (by omega)]; rfl
        · show (A' 10 (301 * gg + x1.toInt.toNat)).toInt = _
          rw [s10, upd_self]; omega
        · show (A' 11 (301 * gg + b')).toInt = (A 11 (301 * gg + (I 6).toInt.toNat)).toInt
          rw [s11, upd_ne (by omega), upd_self]
        · show (A' 11 (301 * gg + (I 6).toInt.toNat)).toInt = _
          rw [s11, upd_self]; exact hF
        · show (A' 11 (301 * gg + j)).toInt = (A 11 (301 * gg + j)).toInt
          rw [s11, upd_ne (by omega), upd_ne (by omega)]
      exact RIv_mk hTT h5 (by rw [eK]; exact h6.2) h29
end
section
theorem t_go_14 {gg : Nat} {I : Nat → Int32} {A : Nat → Nat → Int32} {x1 : Int32} {t0 : Int32} (hI : TJ I) (hA : TK A) (r_t0 : (0 : Int) ≤ t0.toInt ∧ t0.toInt ≤ (1 : Int)) (q0 : (I 5).toInt = (gg : Int)) (q1 : TRE A gg) (q2 : (I 6).toInt ≤ (aK A gg : Int)) (q3 : (I 29).toInt ≤ 1999) (q4 : t0.toInt = 0 → 0 ≤ x1.toInt ∧ x1.toInt ≤ (aK A gg : Int)) : Ok (f_go_14 x1 t0 I A) (fun o => TJ o.2.1 ∧ TK o.2.2 ∧ (RIv o.2.1 o.2.2)) := by
  unfold f_go_14
  have b_I_0 := tI_0 hI
  have b_I_5 := tI_5 hI
  have b_I_6 := tI_6 hI
  have b_I_29 := tI_29 hI
  have ck0 : cK A gg (aK A gg) := rfl
  have ak0 := aK_le (g := gg) hA
  refine ok_bnd (fun I1 e1 => ?_)
  have hI_I1 : TJ I1 := e1.symm ▸ tj_u hI (k := 0) (show (0 : Int) ≤ t0.toInt from (by omega)) (show t0.toInt ≤ (2 : Int) from (by omega))
  have : (I1 0).toInt = t0.toInt := by rw [e1]; exact rfl
  have : (I1 5).toInt = (I 5).toInt := by rw [e1]; rfl
  have : (I1 6).toInt = (I 6).toInt := by rw [e1]; rfl
  have : (I1 29).toInt = (I 29).toInt := by rw [e1]; rfl
  have b_I1_0 := tI_0 hI_I1
  refine ok_if (fun c2 => ?_) (fun c2 => ?_)
  ·
    replace c2 := ti_eqP c2 rfl (show (0 : Int32).toInt = 0 from rfl)
    refine ok_bnd (fun I2 e3 => ?_)
    have hI_I2 : TJ I2 := e3.symm ▸ tj_u hI_I1 (k := 6) (show (0 : Int) ≤ x1.toInt from (by omega)) (show x1.toInt ≤ (300 : Int) from (by omega))
    have : (I2 0).toInt = (I1 0).toInt := by rw [e3]; rfl
    have : (I2 5).toInt = (I1 5).toInt := by rw [e3]; rfl
    have : (I2 6).toInt = x1.toInt := by rw [e3]; exact rfl
    have : (I2 29).toInt = (I1 29).toInt := by rw [e3]; rfl
    have b_I2_5 := tI_5 hI_I2
    have b_I2_6 := tI_6 hI_I2
    obtain ⟨⟨r3, Ic3, Ac3⟩, h_r3, hI_Ic3, hA_Ac3, p_r3_0⟩ := t_place (x1 := (I2 5)) (x2 := (I2 6))  hI_I2 hA (by omega) (by omega) (TRE_n q1) (by omega) (by omega)
    replace hI_Ic3 : TJ Ic3 := hI_Ic3
    replace hA_Ac3 : TK Ac3 := hA_Ac3
    dsimp only at p_r3_0
    refine ok_clR h_r3 ?_
    have f_r3 := fw_place h_r3
    have : (Ic3 0).toInt = (I2 0).toInt := congrArg Int32.toInt (f_r3.1 0 (by decide))
    have : (Ic3 5).toInt = (I2 5).toInt := congrArg Int32.toInt (f_r3.1 5 (by decide))
    have : (Ic3 6).toInt = (I2 6).toInt := congrArg Int32.toInt (f_r3.1 6 (by decide))
    have k4 : TRE Ac3 gg := TRE_fr (f_r3.2 7 (by decide)) (f_r3.2 8 (by decide)) (f_r3.2 9 (by decide)) (f_r3.2 10 (by decide)) (f_r3.2 11 (by decide)) q1
    have k5 : cK Ac3 gg (aK A gg) := cK_fr (f_r3.2 7 (by decide)) ck0
    unfold f_go_41
    exact ok_ret ⟨hI_Ic3, hA_Ac3, (by show RIv Ic3 Ac3; exact (RIv_mk (g := gg) k4 (by omega) (by have z := k5; unfold cK at z; omega) (by omega)))⟩
  ·
    replace c2 := ti_eqN c2 rfl (show (0 : Int32).toInt = 0 from rfl)
    unfold f_go_41
    exact ok_ret ⟨hI_I1, hA, (by show RIv I1 A; exact (RIv_mk (g := gg) q1 (by omega) (by have z := ck0; unfold cK at z; omega) (by omega)))⟩
theorem t_go_0 {gg : Nat} {I : Nat → Int32} {A : Nat → Nat → Int32} {x1 : Int32} (hI : TJ I) (hA : TK A) (q0 : (I 5).toInt = (gg : Int)) (q1 : TRE A gg) (q2 : (I 6).toInt ≤ (aK A gg : Int)) (q3 : (I 29).toInt ≤ 1999) : Ok (f_go_0 x1 I A) (fun o => TJ o.2.1 ∧ TK o.2.2 ∧ (RIv o.2.1 o.2.2)) := by
  unfold f_go_0
  have b_I_0 := tI_0 hI
  have b_I_5 := tI_5 hI
  have b_I_6 := tI_6 hI
  have b_I_29 := tI_29 hI
  obtain ⟨r1, h_r1, p_r1⟩ := ro (t_isNode (x1 := x1)  hI hA )
  refine ok_clR h_r1 ?_
  dsimp only at p_r1
  have k7 := aK_ix hA q0
  refine ok_if (fun c6 => ?_) (fun c6 => ?_)
  ·
    replace c6 := ti_eqP c6 rfl (show (0 : Int32).toInt = 0 from rfl)
    exact t_go_14 (gg := gg)   (x1 := x1) (t0 := (1 : Int32)) hI hA (by decide) q0 q1 q2 q3 (by have z0 : (1 : Int32).toInt = 1 := rfl; omega)
  ·
    replace c6 := ti_eqN c6 rfl (show (0 : Int32).toInt = 0 from rfl)
    exact t_go_14 (gg := gg)   (x1 := x1) (t0 := (0 : Int32)) hI hA (by decide) q0 q1 q2 q3 (by have z0 : (0 : Int32).toInt = 0 := rfl; omega)
theorem t_go {gg : Nat} {I : Nat → Int32} {A : Nat → Nat → Int32} {x1 : Int32} (hI : TJ I) (hA : TK A) (q0 : (I 5).toInt = (gg : Int)) (q1 : TRE A gg) (q2 : (I 6).toInt ≤ (aK A gg : Int)) (q3 : (I 29).toInt ≤ 1999) : Ok (f_go x1 I A) (fun o => TJ o.2.1 ∧ TK o.2.2 ∧ (RIv o.2.1 o.2.2)) := t_go_0 (gg := gg) hI hA q0 q1 q2 q3
theorem t_add_137 {gg : Nat} {I : Nat → Int32} {A : Nat → Nat → Int32} {x2 : Int32} (hI : TJ I) (hA : TK A) (r_x2 : (0 : Int) ≤ x2.toInt ∧ x2.toInt ≤ (300 : Int)) (q0 : (I 5).toInt = (gg : Int)) (q1 : TRE A gg) (q2 : x2.toInt ≤ (aK A gg : Int)) : Ok (f_add_137 x2 I A) (fun o => TJ o.2.1 ∧ TK o.2.2 ∧ ((-1 : Int) ≤ o.1.toInt ∧ o.1.toInt ≤ (300 : Int)) ∧ (RIv o.2.1 o.2.2)) := by
  unfold f_add_137
  have b_I_0 := tI_0 hI
  have b_I_5 := tI_5 hI
  have b_I_6 := tI_6 hI
  have b_I_29 := tI_29 hI
  have ck0 : cK A gg (aK A gg) := rfl
  refine ok_bnd (fun I1 e7 => ?_)
  have hI_I1 : TJ I1 := e7.symm ▸ tj_u hI (k := 6) (show (0 : Int) ≤ x2.toInt from (by omega)) (show x2.toInt ≤ (300 : Int) from (by omega))
  have : (I1 0).toInt = (I 0).toInt := by rw [e7]; rfl
  have : (I1 5).toInt = (I 5).toInt := by rw [e7]; rfl
  have : (I1 6).toInt = x2.toInt := by rw [e7]; exact rfl
  have : (I1 29).toInt = (I 29).toInt := by rw [e7]; rfl
  have b_I1_5 := tI_5 hI_I1
  have b_I1_6 := tI_6 hI_I1
  obtain ⟨⟨r2, Ic2, Ac2⟩, h_r2, hI_Ic2, hA_Ac2, p_r2_0⟩ := t_place (x1 := (I1 5)) (x2 := (I1 6))  hI_I1 hA (by omega) (by omega) (TRE_n q1) (by omega) (by omega)
  replace hI_Ic2 : TJ Ic2 := hI_Ic2
  replace hA_Ac2 : TK Ac2 := hA_Ac2
  dsimp only at p_r2_0
  refine ok_clR h_r2 ?_
  have f_r2 := fw_place h_r2
  have : (Ic2 0).toInt = (I1 0).toInt := congrArg Int32.toInt (f_r2.1 0 (by decide))
  have : (Ic2 5).toInt = (I1 5).toInt := congrArg Int32.toInt (f_r2.1 5 (by decide))
  have : (Ic2 6).toInt = (I1 6).toInt := congrArg Int32.toInt (f_r2.1 6 (by decide))
  have k8 : TRE Ac2 gg := TRE_fr (f_r2.2 7 (by decide)) (f_r2.2 8 (by decide)) (f_r2.2 9 (by decide)) (f_r2.2 10 (by decide)) (f_r2.2 11 (by decide)) q1
  have k9 : cK Ac2 gg (aK A gg) := cK_fr (f_r2.2 7 (by decide)) ck0
  exact ok_ret ⟨hI_Ic2, hA_Ac2, (show (-1 : Int) ≤ x2.toInt ∧ x2.toInt ≤ (300 : Int) from (by omega)), (by show RIv Ic2 Ac2; exact (RIv_mk (g := gg) k8 (by omega) (by have z := k9; unfold cK at z; omega) (by omega)))⟩
theorem t_add_111 {gg : Nat} {I : Nat → Int32} {A : Nat → Nat → Int32} {x1 : Int32} {t0 : Int32} (hI : TJ I) (hA : TK A) (r_t0 : (0 : Int) ≤ t0.toInt ∧ t0.toInt ≤ (2 : Int)) (q0 : (I 5).toInt = (gg : Int)) (q1 : TRE A gg) (q2 : (I 6).toInt ≤ (aK A gg : Int)) (q3 : (I 29).toInt ≤ 1999) (q4 : t0.toInt = 0 → 0 ≤ x1.toInt ∧ x1.toInt ≤ 24575 ∧ (aK A gg : Int) ≤ 299) (q5 : t0.toInt = 0 → apd A gg (I 6).toInt.toNat 6) : Ok (f_add_111 x1 t0 I A) (fun o => TJ o.2.1 ∧ TK o.2.2 ∧ ((-1 : Int) ≤ o.1.toInt ∧ o.1.toInt ≤ (300 : Int)) ∧ (RIv o.2.1 o.2.2)) := by
  unfold f_add_111
  have b_I_0 := tI_0 hI
  have b_I_5 := tI_5 hI
  have b_I_6 := tI_6 hI
  have b_I_29 := tI_29 hI
  have ck0 : cK A gg (aK A gg) := rfl
  refine ok_bnd (fun I1 e10 => ?_)
  have hI_I1 : TJ I1 := e10.symm ▸ tj_u hI (k := 0) (show (0 : Int) ≤ t0.toInt from (by omega)) (show t0.toInt ≤ (2 : Int) from (by omega))
  have : (I1 0).toInt = t0.toInt := by rw [e10]; exact rfl
  have : (I1 5).toInt = (I 5).toInt := by rw [e10]; rfl
  have : (I1 6).toInt = (I 6).toInt := by rw [e10]; rfl
  have : (I1 29).toInt = (I 29).toInt := by rw [e10]; rfl
  have b_I1_0 := tI_0 hI_I1
  refine ok_if (fun c11 => ?_) (fun c11 => ?_)
  ·
    replace c11 := ti_leP c11 rfl (show (0 : Int32).toInt = 0 from rfl)
    have b_I1_5 := tI_5 hI_I1
    have b_I1_6 := tI_6 hI_I1
    obtain ⟨⟨r2, Ic2, Ac2⟩, h_r2, hI_Ic2, hA_Ac2, p_r2, p_r2_0, p_r2_1, p_r2_2, p_r2_3⟩ := t_append (x1 := (I1 5)) (x2 := (I1 6)) (x3 := x1)  hI_I1 hA (by omega) (by omega) (by omega) q1 (by omega) (by omega) (by rw [show (I1 6).toInt = (I 6).toInt by omega]; exact q5 (by omega))
    replace hI_Ic2 : TJ Ic2 := hI_Ic2
    replace hA_Ac2 : TK Ac2 := hA_Ac2
    dsimp only at p_r2 p_r2_0 p_r2_1 p_r2_2 p_r2_3
    refine ok_clR h_r2 ?_
    have f_r2 := fw_append h_r2
    have : (Ic2 0).toInt = (I1 0).toInt := congrArg Int32.toInt (f_r2.1 0 (by decide))
    have : (Ic2 5).toInt = (I1 5).toInt := congrArg Int32.toInt (f_r2.1 5 (by decide))
    have : (Ic2 6).toInt = (I1 6).toInt := congrArg Int32.toInt (f_r2.1 6 (by decide))
    have : (Ic2 29).toInt = (I1 29).toInt := congrArg Int32.toInt (f_r2.1 29 (by decide))
    have b_Ic2_5 := tI_5 hI_Ic2
    exact t_add_137 (gg := gg)   (x2 := r2) hI_Ic2 hA_Ac2 (by omega) (by omega) p_r2_0 (by have z1 := p_r2_2.1; have z2 := p_r2_2.2.1; omega)
  ·
    replace c11 := ti_leN c11 rfl (show (0 : Int32).toInt = 0 from rfl)
    exact ok_ret ⟨hI_I1, hA, (show (-1 : Int) ≤ (0 : Int32).toInt ∧ (0 : Int32).toInt ≤ (300 : Int) from (by decide)), (by show RIv I1 A; exact (RIv_mk (g := gg) q1 (by omega) (by have z := ck0; unfold cK at z; omega) (by omega)))⟩
theorem t_add_82 {gg : Nat} {I : Nat → Int32} {A : Nat → Nat → Int32} {x1 : Int32} {t0 : Int32} {t1 : Int32} (hI : TJ I) (hA : TK A) (r_t0 : (0 : Int) ≤ t0.toInt ∧ t0.toInt ≤ (1 : Int)) (r_t1 : (0 : Int) ≤ t1.toInt ∧ t1.toInt ≤ (6 : Int)) (q0 : (I 5).toInt = (gg : Int)) (q1 : TRE A gg) (q2 : (I 6).toInt ≤ (aK A gg : Int)) (q3 : (I 29).toInt ≤ 1999) (q4 : 0 ≤ x1.toInt ∧ x1.toInt ≤ 24575) (q5 : t1.toInt + t0.toInt ≤ 6 → apd A gg (I 6).toInt.toNat 6) : Ok (f_add_82 x1 t0 t1 I A) (fun o => TJ o.2.1 ∧ TK o.2.2 ∧ ((-1 : Int) ≤ o.1.toInt ∧ o.1.toInt ≤ (300 : Int)) ∧ (RIv o.2.1 o.2.2)) := by
  unfold f_add_82
  have b_I_0 := tI_0 hI
  have b_I_5 := tI_5 hI
  have b_I_6 := tI_6 hI
  have b_I_29 := tI_29 hI
  refine ok_bnd (fun v1 e12 => ?_)
  have t_v1 : v1.toInt = t1.toInt + t0.toInt := ti_add e12 rfl rfl (by omega) (by omega)
  refine ok_chk (ti_in (by omega) (by omega)) ?_
  refine ok_bnd (fun v2 e13 => ?_)
  have b_v2 := tA_7 hA (((I 5)).toNatClampNeg)
  rw [← e13] at b_v2
  have k7 := aK_ix hA q0
  rw [← e13] at k7
  refine ok_if (fun c14 => ?_) (fun c14 => ?_)
  ·
    replace c14 := ti_eqP c14 rfl (show (300 : Int32).toInt = 300 from rfl)
    unfold f_add_106
    exact t_add_111 (gg := gg)   (x1 := x1) (t0 := (2 : Int32)) hI hA (by decide) q0 q1 q2 q3 (by have z0 : (2 : Int32).toInt = 2 := rfl; omega) (fun h => absurd h (by decide))
  ·
    replace c14 := ti_eqN c14 rfl (show (300 : Int32).toInt = 300 from rfl)
    refine ok_if (fun c15 => ?_) (fun c15 => ?_)
    ·
      replace c15 := ti_leP c15 rfl (show (6 : Int32).toInt = 6 from rfl)
      exact t_add_111 (gg := gg)   (x1 := x1) (t0 := (0 : Int32)) hI hA (by decide) q0 q1 q2 q3 (by have z0 : (0 : Int32).toInt = 0 := rfl; omega) (fun _ => q5 (by omega))
    ·
      replace c15 := ti_leN c15 rfl (show (6 : Int32).toInt = 6 from rfl)
      unfold f_add_106
      exact t_add_111 (gg := gg)   (x1 := x1) (t0 := (2 : Int32)) hI hA (by decide) q0 q1 q2 q3 (by have z0 : (2 : Int32).toInt = 2 := rfl; omega) (fun h => absurd h (by decide))
theorem t_add_14 {gg : Nat} {I : Nat → Int32} {A : Nat → Nat → Int32} {x1 : Int32} {t0 : Int32} (hI : TJ I) (hA : TK A) (r_t0 : (0 : Int) ≤ t0.toInt ∧ t0.toInt ≤ (1 : Int)) (q0 : (I 5).toInt = (gg : Int)) (q1 : TRE A gg) (q2 : (I 6).toInt ≤ (aK A gg : Int)) (q3 : (I 29).toInt ≤ 1999) (q4 : t0.toInt = 0 → 0 ≤ x1.toInt ∧ x1.toInt ≤ 24575) : Ok (f_add_14 x1 t0 I A) (fun o => TJ o.2.1 ∧ TK o.2.2 ∧ ((-1 : Int) ≤ o.1.toInt ∧ o.1.toInt ≤ (300 : Int)) ∧ (RIv o.2.1 o.2.2)) := by
  unfold f_add_14
  have b_I_0 := tI_0 hI
  have b_I_5 := tI_5 hI
  have b_I_6 := tI_6 hI
  have b_I_29 := tI_29 hI
  have ck0 : cK A gg (aK A gg) := rfl
  refine ok_bnd (fun I1 e16 => ?_)
  have hI_I1 : TJ I1 := e16.symm ▸ tj_u hI (k := 0) (show (0 : Int) ≤ t0.toInt from (by omega)) (show t0.toInt ≤ (2 : Int) from (by omega))
  have : (I1 0).toInt = t0.toInt := by rw [e16]; exact rfl
  have : (I1 5).toInt = (I 5).toInt := by rw [e16]; rfl
  have : (I1 6).toInt = (I 6).toInt := by rw [e16]; rfl
  have : (I1 29).toInt = (I 29).toInt := by rw [e16]; rfl
  have b_I1_0 := tI_0 hI_I1
  refine ok_if (fun c17 => ?_) (fun c17 => ?_)
  ·
    replace c17 := ti_leP c17 rfl (show (0 : Int32).toInt = 0 from rfl)
    have b_I1_5 := tI_5 hI_I1
    have b_I1_6 := tI_6 hI_I1
    obtain ⟨r2, h_r2, p_r2⟩ := ro (t_childWith (x1 := (I1 5)) (x2 := (I1 6)) (x3 := x1)  hI_I1 hA (by omega) (by omega) q1 (by omega) (by omega))
    refine ok_clR h_r2 ?_
    dsimp only at p_r2
    have q1c := q1
    obtain ⟨hb, L, D, hl, hd⟩ := q1c
    have h66 := hd.2.2 (I1 6).toInt.toNat (by omega)
    refine ok_if (fun c18 => ?_) (fun c18 => ?_)
    ·
      replace c18 := ti_leP c18 (show (0 : Int32).toInt = 0 from rfl) rfl
      exact t_add_137 (gg := gg)   (x2 := r2) hI_I1 hA (by omega) (by omega) q1 (by have z := p_r2.2; omega)
    ·
      replace c18 := ti_leN c18 (show (0 : Int32).toInt = 0 from rfl) rfl
      obtain ⟨r3, h_r3, p_r3⟩ := ro (t_deepOf (x1 := (I1 5)) (x2 := (I1 6))  hI_I1 hA (by omega) (by omega) (TRE_n q1) (by omega) (by omega) hd rfl)
      refine ok_clR h_r3 ?_
      dsimp only at p_r3
      refine ok_bnd (fun v4 e19 => ?_)
      have t_v4 : v4.toInt = 301 * (I1 5).toInt := ti_mul e19 (show (301 : Int32).toInt = 301 from rfl) rfl (by omega) (by omega)
      refine ok_bnd (fun v5 e20 => ?_)
      have t_v5 : v5.toInt = v4.toInt + (I1 6).toInt := ti_add e20 rfl rfl (by omega) (by omega)
      refine ok_chk (ti_in (by omega) (by omega)) ?_
      refine ok_bnd (fun v6 e21 => ?_)
      have b_v6 := tA_10 hA ((v5).toNatClampNeg)
      rw [← e21] at b_v6
      have i6 : v5.toNatClampNeg = 301 * gg + (I1 6).toInt.toNat := by have := ti_nc (a := v5) (by omega); omega
      have w6 : v6.toInt = aC A gg (I1 6).toInt.toNat := by rw [e21, i6]; rfl
      refine ok_if (fun c22 => ?_) (fun c22 => ?_)
      ·
        replace c22 := ti_ltP c22 rfl (show (0 : Int32).toInt = 0 from rfl)
        have b_I1_29 := tI_29 hI_I1
        exact t_add_82 (gg := gg)   (x1 := x1) (t0 := (0 : Int32)) (t1 := r3) hI_I1 hA (by decide) (by omega) (by have z0 : (0 : Int32).toInt = 0 := rfl; omega) q1 (by have z := ck0; unfold cK at z; omega) (by have z0 : (0 : Int32).toInt = 0 := rfl; omega) (by have z0 : (0 : Int32).toInt = 0 := rfl; omega) (fun h => ⟨by omega, fun D2 hD2 => by rw [TTd_u hb hD2 hd _ (by omega), if_pos (by omega)]; have zz := p_r3.2; have z0 : (0 : Int32).toInt = 0 := rfl; omega⟩)
      ·
        replace c22 := ti_ltN c22 rfl (show (0 : Int32).toInt = 0 from rfl)
        have b_I1_29 := tI_29 hI_I1
        exact t_add_82 (gg := gg)   (x1 := x1) (t0 := (1 : Int32)) (t1 := r3) hI_I1 hA (by decide) (by omega) (by have z0 : (1 : Int32).toInt = 1 := rfl; omega) q1 (by have z := ck0; unfold cK at z; omega) (by have z0 : (1 : Int32).toInt = 1 := rfl; omega) (by have z0 : (1 : Int32).toInt = 1 := rfl; omega) (fun h => ⟨by omega, fun D2 hD2 => by rw [TTd_u hb hD2 hd _ (by omega), if_neg (by omega)]; have zz := p_r3.2; have z0 : (1 : Int32).toInt = 1 := rfl; omega⟩)
  ·
    replace c17 := ti_leN c17 rfl (show (0 : Int32).toInt = 0 from rfl)
    exact ok_ret ⟨hI_I1, hA, (show (-1 : Int) ≤ (0 : Int32).toInt ∧ (0 : Int32).toInt ≤ (300 : Int) from (by decide)), (by show RIv I1 A; exact (RIv_mk (g := gg) q1 (by omega) (by have z := ck0; unfold cK at z; omega) (by omega)))⟩
theorem t_add_0 {gg : Nat} {I : Nat → Int32} {A : Nat → Nat → Int32} {x1 : Int32} (hI : TJ I) (hA : TK A) (q0 : (I 5).toInt = (gg : Int)) (q1 : TRE A gg) (q2 : (I 6).toInt ≤ (aK A gg : Int)) (q3 : (I 29).toInt ≤ 1999) : Ok (f_add_0 x1 I A) (fun o => TJ o.2.1 ∧ TK o.2.2 ∧ ((-1 : Int) ≤ o.1.toInt ∧ o.1.toInt ≤ (300 : Int)) ∧ (RIv o.2.1 o.2.2)) := by
  unfold f_add_0
  have b_I_0 := tI_0 hI
  have b_I_5 := tI_5 hI
  have b_I_6 := tI_6 hI
  have b_I_29 := tI_29 hI
  obtain ⟨r1, h_r1, p_r1⟩ := ro (t_isLegal (x1 := x1)  hI hA )
  refine ok_clR h_r1 ?_
  dsimp only at p_r1
  refine ok_if (fun c23 => ?_) (fun c23 => ?_)
  ·
    replace c23 := ti_eqP c23 rfl (show (0 : Int32).toInt = 0 from rfl)
    exact t_add_14 (gg := gg)   (x1 := x1) (t0 := (1 : Int32)) hI hA (by decide) q0 q1 q2 q3 (by have z0 : (1 : Int32).toInt = 1 := rfl; omega)
  ·
    replace c23 := ti_eqN c23 rfl (show (0 : Int32).toInt = 0 from rfl)
    exact t_add_14 (gg := gg)   (x1 := x1) (t0 := (0 : Int32)) hI hA (by decide) q0 q1 q2 q3 (by have z0 : (0 : Int32).toInt = 0 := rfl; omega)
theorem t_add {gg : Nat} {I : Nat → Int32} {A : Nat → Nat → Int32} {x1 : Int32} (hI : TJ I) (hA : TK A) (q0 : (I 5).toInt = (gg : Int)) (q1 : TRE A gg) (q2 : (I 6).toInt ≤ (aK A gg : Int)) (q3 : (I 29).toInt ≤ 1999) : Ok (f_add x1 I A) (fun o => TJ o.2.1 ∧ TK o.2.2 ∧ ((-1 : Int) ≤ o.1.toInt ∧ o.1.toInt ≤ (300 : Int)) ∧ (RIv o.2.1 o.2.2)) := t_add_0 (gg := gg) hI hA q0 q1 q2 q3
theorem t_lead_72s {gg : Nat} {I : Nat → Int32} {A : Nat → Nat → Int32} {self72 : Int32 → Int32 → Int32 → (Nat → Int32) → (Nat → Nat → Int32) → Option (Int32 × MS)} {N72 : Nat} (hself72 : ∀ (x1 : Int32) (x2 : Int32) (x3 : Int32) (I : Nat → Int32) (A : Nat → Nat → Int32), TJ I → TK A → ((0 : Int) ≤ x1.toInt ∧ x1.toInt ≤ (300 : Int)) → ((1 : Int) ≤ x2.toInt ∧ x2.toInt ≤ (300 : Int)) → ((1 : Int) ≤ x3.toInt ∧ x3.toInt ≤ (301 : Int)) → ((I 5).toInt = (gg : Int)) → (TRE A gg) → (1 ≤ (I 6).toInt ∧ (I 6).toInt ≤ (aK A gg : Int)) → ((I 29).toInt ≤ 1999) → (x1.toInt = aP A gg (I 6).toInt.toNat) → (x2.toInt = aC A gg x1.toInt.toNat) → (x2.toInt ≠ (I 6).toInt) → (chk6 A gg x2.toInt.toNat x3.toInt) → (302 - x3.toInt) < (N72 : Int) → Ok (self72 x1 x2 x3 I A) (fun o => TJ o.2.1 ∧ TK o.2.2 ∧ ((0 : Int) ≤ o.1.toInt ∧ o.1.toInt ≤ (1 : Int)) ∧ (RIv o.2.1 o.2.2))) {x1 : Int32} {x2 : Int32} {x3 : Int32} (hI : TJ I) (hA : TK A) (r_x1 : (0 : Int) ≤ x1.toInt ∧ x1.toInt ≤ (300 : Int)) (r_x2 : (1 : Int) ≤ x2.toInt ∧ x2.toInt ≤ (300 : Int)) (r_x3 : (1 : Int) ≤ x3.toInt ∧ x3.toInt ≤ (301 : Int)) (q0 : (I 5).toInt = (gg : Int)) (q1 : TRE A gg) (q2 : 1 ≤ (I 6).toInt ∧ (I 6).toInt ≤ (aK A gg : Int)) (q3 : (I 29).toInt ≤ 1999) (q4 : x1.toInt = aP A gg (I 6).toInt.toNat) (q5 : x2.toInt = aC A gg x1.toInt.toNat) (q6 : x2.toInt ≠ (I 6).toInt) (q7 : chk6 A gg x2.toInt.toNat x3.toInt) (m72 : (302 - x3.toInt) ≤ (N72 : Int)) : Ok (f_lead_72s self72 x1 x2 x3 I A) (fun o => TJ o.2.1 ∧ TK o.2.2 ∧ ((0 : Int) ≤ o.1.toInt ∧ o.1.toInt ≤ (1 : Int)) ∧ (RIv o.2.1 o.2.2)) := by
  unfold f_lead_72s
  have b_I_0 := tI_0 hI
  have b_I_5 := tI_5 hI
  have b_I_6 := tI_6 hI
  have b_I_29 := tI_29 hI
  have ck0 : cK A gg (aK A gg) := rfl
  have q1c := q1
  obtain ⟨hb, L, D, hl, hd⟩ := q1c
  refine ok_chk (ti_in (by omega) (by omega)) ?_
  refine ok_bnd (fun v1 e24 => ?_)
  have b_v1 := tA_7 hA (((I 5)).toNatClampNeg)
  rw [← e24] at b_v1
  have k7 := aK_ix hA q0
  rw [← e24] at k7
  refine ok_if (fun c25 => ?_) (fun c25 => ?_)
  ·
    replace c25 := ti_ltP c25 rfl rfl
    exact lead_fin hI hA q0 q1 q2 q3 q4 q5 q6 q7 (by omega)
  ·
    replace c25 := ti_ltN c25 rfl rfl
    obtain ⟨r2, h_r2, p_r2⟩ := ro (t_isBehind (x1 := x3) (x2 := x2)  hI hA (by omega) (by omega) (TRE_n q1) q0 (by omega) Iff.rfl)
    refine ok_clR h_r2 ?_
    dsimp only at p_r2
    refine ok_if (fun c26 => ?_) (fun c26 => ?_)
    ·
      replace c26 := ti_eqP c26 rfl (show (0 : Int32).toInt = 0 from rfl)
      unfold f_lead_115
      refine ok_bnd (fun v1 e27 => ?_)
      have t_v1 : v1.toInt = x3.toInt + 1 := ti_add e27 rfl (show (1 : Int32).toInt = 1 from rfl) (by omega) (by omega)
      exact hself72 x1 x2 v1 I A hI hA r_x1 r_x2 (by omega) q0 q1 q2 q3 q4 q5 q6 (chk6_up q7 t_v1 (fun h => absurd h (p_r2.2.2 (by omega)))) (by omega)
    ·
      replace c26 := ti_eqN c26 rfl (show (0 : Int32).toInt = 0 from rfl)
      obtain ⟨r3, h_r3, p_r3⟩ := ro (t_deepOf (x1 := (I 5)) (x2 := x3)  hI hA (by omega) (by omega) (TRE_n q1) q0 (by omega) hd rfl)
      refine ok_clR h_r3 ?_
      dsimp only at p_r3
      refine ok_if (fun c28 => ?_) (fun c28 => ?_)
      ·
        replace c28 := ti_eqP c28 rfl (show (6 : Int32).toInt = 6 from rfl)
        refine ok_bnd (fun I4 e29 => ?_)
        have hI_I4 : TJ I4 := e29.symm ▸ tj_u hI (k := 0) (show (0 : Int) ≤ (1 : Int32).toInt from (by decide)) (show (1 : Int32).toInt ≤ (2 : Int) from (by decide))
        have : (I4 0).toInt = 1 := by rw [e29]; exact (show (1 : Int32).toInt = 1 from rfl)
        have : (I4 5).toInt = (I 5).toInt := by rw [e29]; rfl
        have : (I4 6).toInt = (I 6).toInt := by rw [e29]; rfl
        have : (I4 29).toInt = (I 29).toInt := by rw [e29]; rfl
        refine ok_chk (by decide) ?_
        exact ok_ret ⟨hI_I4, hA, (show (0 : Int) ≤ (0 : Int32).toInt ∧ (0 : Int32).toInt ≤ (1 : Int) from (by decide)), (by show RIv I4 A; exact (RIv_mk (g := gg) q1 (by omega) (by have z := ck0; unfold cK at z; omega) (by omega)))⟩
      ·
        replace c28 := ti_eqN c28 rfl (show (6 : Int32).toInt = 6 from rfl)
        unfold f_lead_115
        refine ok_bnd (fun v1 e30 => ?_)
        have t_v1 : v1.toInt = x3.toInt + 1 := ti_add e30 rfl (show (1 : Int32).toInt = 1 from rfl) (by omega) (by omega)
        exact hself72 x1 x2 v1 I A hI hA r_x1 r_x2 (by omega) q0 q1 q2 q3 q4 q5 q6 (chk6_up q7 t_v1 (fun _ D2 hD2 => by rw [TTd_u hb hD2 hd _ (by omega)]; have zz := p_r3.2; omega)) (by omega)
theorem t_lead_72 {gg : Nat}  : ∀ (n : Nat) (x1 : Int32) (x2 : Int32) (x3 : Int32) (I : Nat → Int32) (A : Nat → Nat → Int32), TJ I → TK A → ((0 : Int) ≤ x1.toInt ∧ x1.toInt ≤ (300 : Int)) → ((1 : Int) ≤ x2.toInt ∧ x2.toInt ≤ (300 : Int)) → ((1 : Int) ≤ x3.toInt ∧ x3.toInt ≤ (301 : Int)) → ((I 5).toInt = (gg : Int)) → (TRE A gg) → (1 ≤ (I 6).toInt ∧ (I 6).toInt ≤ (aK A gg : Int)) → ((I 29).toInt ≤ 1999) → (x1.toInt = aP A gg (I 6).toInt.toNat) → (x2.toInt = aC A gg x1.toInt.toNat) → (x2.toInt ≠ (I 6).toInt) → (chk6 A gg x2.toInt.toNat x3.toInt) → (302 - x3.toInt) < (n : Int) → Ok (f_lead_72  n x1 x2 x3 I A) (fun o => TJ o.2.1 ∧ TK o.2.2 ∧ ((0 : Int) ≤ o.1.toInt ∧ o.1.toInt ≤ (1 : Int)) ∧ (RIv o.2.1 o.2.2)) := by
  intro n
  induction n with
  | zero => intro x1 x2 x3 I A hI hA g0 g1 g2 g3 g4 g5 g6 g7 g8 g9 g10  hm; exfalso; omega
  | succ n ih =>
    intro x1 x2 x3 I A hI hA g0 g1 g2 g3 g4 g5 g6 g7 g8 g9 g10  hm
    exact t_lead_72s (gg := gg)  (N72 := n)  ih hI hA g0 g1 g2 g3 g4 g5 g6 g7 g8 g9 g10  (by omega)
theorem t_lead_13 {gg : Nat} {I : Nat → Int32} {A : Nat → Nat → Int32} {t0 : Int32} (hI : TJ I) (hA : TK A) (r_t0 : (0 : Int) ≤ t0.toInt ∧ t0.toInt ≤ (1 : Int)) (q0 : (I 5).toInt = (gg : Int)) (q1 : TRE A gg) (q2 : (I 6).toInt ≤ (aK A gg : Int)) (q3 : (I 29).toInt ≤ 1999) (q4 : t0.toInt = 0 → 1 ≤ (I 6).toInt) : Ok (f_lead_13 t0 I A) (fun o => TJ o.2.1 ∧ TK o.2.2 ∧ ((0 : Int) ≤ o.1.toInt ∧ o.1.toInt ≤ (1 : Int)) ∧ (RIv o.2.1 o.2.2)) := by
  unfold f_lead_13
  have b_I_0 := tI_0 hI
  have b_I_5 := tI_5 hI
  have b_I_6 := tI_6 hI
  have b_I_29 := tI_29 hI
  have ck0 : cK A gg (aK A gg) := rfl
  refine ok_bnd (fun I1 e31 => ?_)
  have hI_I1 : TJ I1 := e31.symm ▸ tj_u hI (k := 0) (show (0 : Int) ≤ t0.toInt from (by omega)) (show t0.toInt ≤ (2 : Int) from (by omega))
  have : (I1 0).toInt = t0.toInt := by rw [e31]; exact rfl
  have : (I1 5).toInt = (I 5).toInt := by rw [e31]; rfl
  have : (I1 6).toInt = (I 6).toInt := by rw [e31]; rfl
  have : (I1 29).toInt = (I 29).toInt := by rw [e31]; rfl
  have b_I1_0 := tI_0 hI_I1
  refine ok_if (fun c32 => ?_) (fun c32 => ?_)
  ·
    replace c32 := ti_leP c32 rfl (show (0 : Int32).toInt = 0 from rfl)
    refine ok_bnd (fun v2 e33 => ?_)
    have b_I1_5 := tI_5 hI_I1
    have t_v2 : v2.toInt = 301 * (I1 5).toInt := ti_mul e33 (show (301 : Int32).toInt = 301 from rfl) rfl (by omega) (by omega)
    refine ok_bnd (fun v3 e34 => ?_)
    have b_I1_6 := tI_6 hI_I1
    have t_v3 : v3.toInt = v2.toInt + (I1 6).toInt := ti_add e34 rfl rfl (by omega) (by omega)
    refine ok_chk (ti_in (by omega) (by omega)) ?_
    refine ok_bnd (fun v4 e35 => ?_)
    have b_v4 := tA_8 hA ((v3).toNatClampNeg)
    rw [← e35] at b_v4
    have hf := first_ge (H := (I 6).toInt.toNat) q1 (by omega) (by omega)
    have i4 : v3.toNatClampNeg = 301 * gg + (I 6).toInt.toNat := by have := ti_nc (a := v3) (by omega); omega
    have w4 : v4.toInt = aP A gg (I 6).toInt.toNat := by rw [e35, i4]; rfl
    refine ok_bnd (fun v5 e36 => ?_)
    have t_v5 : v5.toInt = 301 * (I1 5).toInt := ti_mul e36 (show (301 : Int32).toInt = 301 from rfl) rfl (by omega) (by omega)
    refine ok_bnd (fun v6 e37 => ?_)
    have t_v6 : v6.toInt = v5.toInt + v4.toInt := ti_add e37 rfl rfl (by omega) (by omega)
    refine ok_chk (ti_in (by omega) (by omega)) ?_
    refine ok_bnd (fun v7 e38 => ?_)
    have b_v7 := tA_10 hA ((v6).toNatClampNeg)
    rw [← e38] at b_v7
    have i7 : v6.toNatClampNeg = 301 * gg + v4.toInt.toNat := by have := ti_nc (a := v6) (by omega); omega
    have w7 : v7.toInt = aC A gg v4.toInt.toNat := by rw [e38, i7]; rfl
    rw [← w4, ← w7] at hf
    have e6 : (I1 6).toInt.toNat = (I 6).toInt.toNat := by omega
    refine ok_if (fun c39 => ?_) (fun c39 => ?_)
    ·
      replace c39 := ti_eqP c39 rfl rfl
      refine ok_chk (by decide) ?_
      exact ok_ret ⟨hI_I1, hA, (show (0 : Int) ≤ (0 : Int32).toInt ∧ (0 : Int32).toInt ≤ (1 : Int) from (by decide)), (by show RIv I1 A; exact (RIv_mk (g := gg) q1 (by omega) (by have z := ck0; unfold cK at z; omega) (by omega)))⟩
    ·
      replace c39 := ti_eqN c39 rfl rfl
      have b_I1_29 := tI_29 hI_I1
      exact t_lead_72 (gg := gg)    mFuel v4 v7 (1 : Int32) I1 A hI_I1 hA (by omega) (by omega) (by decide) (by have z0 : (1 : Int32).toInt = 1 := rfl; omega) q1 (by have z0 : (1 : Int32).toInt = 1 := rfl; omega) (by have z0 : (1 : Int32).toInt = 1 := rfl; omega) (by rw [e6]; exact w4) w7 (by have z0 : (1 : Int32).toInt = 1 := rfl; omega) (fun k h1 h2 => by have z0 : (1 : Int32).toInt = 1 := rfl; omega) (by show _ < ((200000 : Nat) : Int); have z0 : (1 : Int32).toInt = 1 := rfl; omega)
  ·
    replace c32 := ti_leN c32 rfl (show (0 : Int32).toInt = 0 from rfl)
    refine ok_chk (by decide) ?_
    exact ok_ret ⟨hI_I1, hA, (show (0 : Int) ≤ (0 : Int32).toInt ∧ (0 : Int32).toInt ≤ (1 : Int) from (by decide)), (by show RIv I1 A; exact (RIv_mk (g := gg) q1 (by omega) (by have z := ck0; unfold cK at z; omega) (by omega)))⟩
theorem t_lead_0 {gg : Nat} {I : Nat → Int32} {A : Nat → Nat → Int32} (hI : TJ I) (hA : TK A) (q0 : (I 5).toInt = (gg : Int)) (q1 : TRE A gg) (q2 : (I 6).toInt ≤ (aK A gg : Int)) (q3 : (I 29).toInt ≤ 1999) : Ok (f_lead_0 I A) (fun o => TJ o.2.1 ∧ TK o.2.2 ∧ ((0 : Int) ≤ o.1.toInt ∧ o.1.toInt ≤ (1 : Int)) ∧ (RIv o.2.1 o.2.2)) := by
  unfold f_lead_0
  have b_I_0 := tI_0 hI
  have b_I_5 := tI_5 hI
  have b_I_6 := tI_6 hI
  have b_I_29 := tI_29 hI
  refine ok_if (fun c40 => ?_) (fun c40 => ?_)
  ·
    replace c40 := ti_eqP c40 rfl (show (0 : Int32).toInt = 0 from rfl)
    exact t_lead_13 (gg := gg)   (t0 := (1 : Int32)) hI hA (by decide) q0 q1 q2 q3 (by have z0 : (1 : Int32).toInt = 1 := rfl; omega)
  ·
    replace c40 := ti_eqN c40 rfl (show (0 : Int32).toInt = 0 from rfl)
    exact t_lead_13 (gg := gg)   (t0 := (0 : Int32)) hI hA (by decide) q0 q1 q2 q3 (by have z0 : (0 : Int32).toInt = 0 := rfl; omega)
theorem t_lead {gg : Nat} {I : Nat → Int32} {A : Nat → Nat → Int32}  (hI : TJ I) (hA : TK A) (q0 : (I 5).toInt = (gg : Int)) (q1 : TRE A gg) (q2 : (I 6).toInt ≤ (aK A gg : Int)) (q3 : (I 29).toInt ≤ 1999) : Ok (f_lead  I A) (fun o => TJ o.2.1 ∧ TK o.2.2 ∧ ((0 : Int) ≤ o.1.toInt ∧ o.1.toInt ≤ (1 : Int)) ∧ (RIv o.2.1 o.2.2)) := t_lead_0 (gg := gg) hI hA q0 q1 q2 q3
end
section
noncomputable def m9 (A : Nat → Nat → Int32) (i : Nat) : Prop := 0 ≤ (A 9 i).toInt
theorem m9_fr {A A' : Nat → Nat → Int32} {i : Nat} (e : A' 9 = A 9) (h : m9 A i) : m9 A' i := by
  unfold m9; rw [e]; exact h
theorem t_sayMove_124s {gg nn : Nat} {cc : Int} {I : Nat → Int32} {A : Nat → Nat → Int32} {self124 : Int32 → Int32 → (Nat → Int32) → (Nat → Nat → Int32) → Option (Int32 × MS)} {N124 : Nat} (hself124 : ∀ (x3 : Int32) (x4 : Int32) (I : Nat → Int32) (A : Nat → Nat → Int32), TJ I → TK A → ((0 : Int) ≤ x3.toInt ∧ x3.toInt ≤ (601 : Int)) → ((0 : Int) ≤ x4.toInt ∧ x4.toInt ≤ (4 : Int)) → ((I 3).toInt ≤ cc + 19 + 8 * x4.toInt ∧ cc ≤ 79400) → (5 - x4.toInt) < (N124 : Int) → Ok (self124 x3 x4 I A) (fun o => TJ o.2.1 ∧ TK o.2.2 ∧ ((o.2.1 3).toInt ≤ cc + 254))) {x3 : Int32} {x4 : Int32} (hI : TJ I) (hA : TK A) (r_x3 : (0 : Int) ≤ x3.toInt ∧ x3.toInt ≤ (601 : Int)) (r_x4 : (0 : Int) ≤ x4.toInt ∧ x4.toInt ≤ (4 : Int)) (q0 : (I 3).toInt ≤ cc + 19 + 8 * x4.toInt ∧ cc ≤ 79400) (m124 : (5 - x4.toInt) ≤ (N124 : Int)) : Ok (f_sayMove_124s self124 x3 x4 I A) (fun o => TJ o.2.1 ∧ TK o.2.2 ∧ ((o.2.1 3).toInt ≤ cc + 254)) := by
  unfold f_sayMove_124s
  have b_I_3 := tI_3 hI
  have b_I_5 := tI_5 hI
  have b_I_29 := tI_29 hI
  have b_I_36 := tI_36 hI
  refine ok_chk (ti_in (by omega) (by omega)) ?_
  refine ok_bnd (fun v1 e1 => ?_)
  have b_v1 := tA_12 hA ((x3).toNatClampNeg)
  rw [← e1] at b_v1
  refine ok_if (fun c2 => ?_) (fun c2 => ?_)
  ·
    replace c2 := ti_leP c2 rfl rfl
    refine ok_chk (ti_in (by omega) (by omega)) ?_
    refine ok_bnd (fun v2 e3 => ?_)
    have b_v2 := tA_14 hA ((x3).toNatClampNeg)
    rw [← e3] at b_v2
    refine ok_if (fun c4 => ?_) (fun c4 => ?_)
    ·
      replace c4 := ti_leP c4 rfl (show (0 : Int32).toInt = 0 from rfl)
      unfold f_sayMove_188
      exact ok_ret ⟨hI, hA, (by show (I 3).toInt ≤ cc + 254; have z : (0 : Int32).toInt = 0 := rfl; omega)⟩
    ·
      replace c4 := ti_leN c4 rfl (show (0 : Int32).toInt = 0 from rfl)
      obtain ⟨⟨r3, Ic3, Ac3⟩, h_r3, hI_Ic3, hA_Ac3, p_r3_0⟩ := t_ink (x1 := (32 : Int32))  hI hA (by have z0 : (32 : Int32).toInt = 32 := rfl; omega)
      replace hI_Ic3 : TJ Ic3 := hI_Ic3
      replace hA_Ac3 : TK Ac3 := hA_Ac3
      dsimp only at p_r3_0
      refine ok_clR h_r3 ?_
      have f_r3 := fw_ink h_r3
      have : (Ic3 5).toInt = (I 5).toInt := congrArg Int32.toInt (f_r3.1 5 (by decide))
      have : (Ic3 29).toInt = (I 29).toInt := congrArg Int32.toInt (f_r3.1 29 (by decide))
      have : (Ic3 36).toInt = (I 36).toInt := congrArg Int32.toInt (f_r3.1 36 (by decide))
      have b_Ic3_3 := tI_3 hI_Ic3
      obtain ⟨⟨r4, Ic4, Ac4⟩, h_r4, hI_Ic4, hA_Ac4, p_r4_0⟩ := t_sayRemark (x1 := x3)  hI_Ic3 hA_Ac3 r_x3 (show (Ic3 3).toInt ≤ (Ic3 3).toInt ∧ (Ic3 3).toInt ≤ 79700 from ⟨Int.le_refl _, by omega⟩)
      replace hI_Ic4 : TJ Ic4 := hI_Ic4
      replace hA_Ac4 : TK Ac4 := hA_Ac4
      dsimp only at p_r4_0
      refine ok_clR h_r4 ?_
      have f_r4 := fw_sayRemark h_r4
      have : (Ic4 5).toInt = (Ic3 5).toInt := congrArg Int32.toInt (f_r4.1 5 (by decide))
      have : (Ic4 29).toInt = (Ic3 29).toInt := congrArg Int32.toInt (f_r4.1 29 (by decide))
      have : (Ic4 36).toInt = (Ic3 36).toInt := congrArg Int32.toInt (f_r4.1 36 (by decide))
      unfold f_sayMove_188
      exact ok_ret ⟨hI_Ic4, hA_Ac4, (by show (Ic4 3).toInt ≤ cc + 254; have z : (0 : Int32).toInt = 0 := rfl; omega)⟩
  ·
    replace c2 := ti_leN c2 rfl rfl
    obtain ⟨⟨r5, Ic5, Ac5⟩, h_r5, hI_Ic5, hA_Ac5, p_r5_0⟩ := t_ink (x1 := (32 : Int32))  hI hA (by have z0 : (32 : Int32).toInt = 32 := rfl; omega)
    replace hI_Ic5 : TJ Ic5 := hI_Ic5
    replace hA_Ac5 : TK Ac5 := hA_Ac5
    dsimp only at p_r5_0
    refine ok_clR h_r5 ?_
    have f_r5 := fw_ink h_r5
    have : (Ic5 5).toInt = (I 5).toInt := congrArg Int32.toInt (f_r5.1 5 (by decide))
    have : (Ic5 29).toInt = (I 29).toInt := congrArg Int32.toInt (f_r5.1 29 (by decide))
    have : (Ic5 36).toInt = (I 36).toInt := congrArg Int32.toInt (f_r5.1 36 (by decide))
    have b_Ic5_3 := tI_3 hI_Ic5
    obtain ⟨⟨r6, Ic6, Ac6⟩, h_r6, hI_Ic6, hA_Ac6, p_r6_0⟩ := t_ink (x1 := (36 : Int32))  hI_Ic5 hA_Ac5 (by have z0 : (36 : Int32).toInt = 36 := rfl; omega)
    replace hI_Ic6 : TJ Ic6 := hI_Ic6
    replace hA_Ac6 : TK Ac6 := hA_Ac6
    dsimp only at p_r6_0
    refine ok_clR h_r6 ?_
    have f_r6 := fw_ink h_r6
    have : (Ic6 5).toInt = (Ic5 5).toInt := congrArg Int32.toInt (f_r6.1 5 (by decide))
    have : (Ic6 29).toInt = (Ic5 29).toInt := congrArg Int32.toInt (f_r6.1 29 (by decide))
    have : (Ic6 36).toInt = (Ic5 36).toInt := congrArg Int32.toInt (f_r6.1 36 (by decide))
    refine ok_bnd (fun v7 e5 => ?_)
    have t_v7 : v7.toInt = 4 * x3.toInt := ti_mul e5 (show (4 : Int32).toInt = 4 from rfl) rfl (by omega) (by omega)
    refine ok_bnd (fun v8 e6 => ?_)
    have t_v8 : v8.toInt = v7.toInt + x4.toInt := ti_add e6 rfl rfl (by omega) (by omega)
    refine ok_chk (ti_in (by omega) (by omega)) ?_
    refine ok_bnd (fun v9 e7 => ?_)
    have b_v9 := tA_13 hA_Ac6 ((v8).toNatClampNeg)
    rw [← e7] at b_v9
    have b_Ic6_3 := tI_3 hI_Ic6
    obtain ⟨⟨r10, Ic10, Ac10⟩, h_r10, hI_Ic10, hA_Ac10, p_r10_0⟩ := t_sayNumber (x1 := v9)  hI_Ic6 hA_Ac6 (by omega) (show (Ic6 3).toInt ≤ (Ic6 3).toInt ∧ (Ic6 3).toInt ≤ 79700 from ⟨Int.le_refl _, by omega⟩)
    replace hI_Ic10 : TJ Ic10 := hI_Ic10
    replace hA_Ac10 : TK Ac10 := hA_Ac10
    dsimp only at p_r10_0
    refine ok_clR h_r10 ?_
    have f_r10 := fw_sayNumber h_r10
    have : (Ic10 5).toInt = (Ic6 5).toInt := congrArg Int32.toInt (f_r10.1 5 (by decide))
    have : (Ic10 29).toInt = (Ic6 29).toInt := congrArg Int32.toInt (f_r10.1 29 (by decide))
    have : (Ic10 36).toInt = (Ic6 36).toInt := congrArg Int32.toInt (f_r10.1 36 (by decide))
    refine ok_bnd (fun v11 e8 => ?_)
    have t_v11 : v11.toInt = x4.toInt + 1 := ti_add e8 rfl (show (1 : Int32).toInt = 1 from rfl) (by omega) (by omega)
    have b_Ic10_3 := tI_3 hI_Ic10
    exact hself124 x3 v11 Ic10 Ac10 hI_Ic10 hA_Ac10 r_x3 (by omega) (by omega) (by omega)
theorem t_sayMove_124 {gg nn : Nat} {cc : Int}  : ∀ (n : Nat) (x3 : Int32) (x4 : Int32) (I : Nat → Int32) (A : Nat → Nat → Int32), TJ I → TK A → ((0 : Int) ≤ x3.toInt ∧ x3.toInt ≤ (601 : Int)) → ((0 : Int) ≤ x4.toInt ∧ x4.toInt ≤ (4 : Int)) → ((I 3).toInt ≤ cc + 19 + 8 * x4.toInt ∧ cc ≤ 79400) → (5 - x4.toInt) < (n : Int) → Ok (f_sayMove_124  n x3 x4 I A) (fun o => TJ o.2.1 ∧ TK o.2.2 ∧ ((o.2.1 3).toInt ≤ cc + 254)) := by
  intro n
  induction n with
  | zero => intro x3 x4 I A hI hA g0 g1 g2  hm; exfalso; omega
  | succ n ih =>
    intro x3 x4 I A hI hA g0 g1 g2  hm
    exact t_sayMove_124s (gg := gg) (nn := nn) (cc := cc)  (N124 := n)  ih hI hA g0 g1 g2  (by omega)
theorem t_sayMove_95s {gg nn : Nat} {cc : Int} {I : Nat → Int32} {A : Nat → Nat → Int32} {self95 : Int32 → Int32 → (Nat → Int32) → (Nat → Nat → Int32) → Option (Int32 × MS)} {N95 : Nat} (hself95 : ∀ (x3 : Int32) (x4 : Int32) (I : Nat → Int32) (A : Nat → Nat → Int32), TJ I → TK A → ((0 : Int) ≤ x3.toInt ∧ x3.toInt ≤ (601 : Int)) → ((0 : Int) ≤ x4.toInt ∧ x4.toInt ≤ (9 : Int)) → ((I 3).toInt ≤ cc + 10 + x4.toInt ∧ cc ≤ 79400) → ((I 36).toInt ≤ 9) → (17 - x4.toInt) < (N95 : Int) → Ok (self95 x3 x4 I A) (fun o => TJ o.2.1 ∧ TK o.2.2 ∧ ((o.2.1 3).toInt ≤ cc + 254))) {x3 : Int32} {x4 : Int32} (hI : TJ I) (hA : TK A) (r_x3 : (0 : Int) ≤ x3.toInt ∧ x3.toInt ≤ (601 : Int)) (r_x4 : (0 : Int) ≤ x4.toInt ∧ x4.toInt ≤ (9 : Int)) (q0 : (I 3).toInt ≤ cc + 10 + x4.toInt ∧ cc ≤ 79400) (q1 : (I 36).toInt ≤ 9) (m95 : (17 - x4.toInt) ≤ (N95 : Int)) : Ok (f_sayMove_95s self95 x3 x4 I A) (fun o => TJ o.2.1 ∧ TK o.2.2 ∧ ((o.2.1 3).toInt ≤ cc + 254)) := by
  unfold f_sayMove_95s
  have b_I_3 := tI_3 hI
  have b_I_5 := tI_5 hI
  have b_I_29 := tI_29 hI
  have b_I_36 := tI_36 hI
  refine ok_if (fun c9 => ?_) (fun c9 => ?_)
  ·
    replace c9 := ti_leP c9 rfl rfl
    exact t_sayMove_124 (gg := gg) (nn := nn) (cc := cc)    mFuel x3 (0 : Int32) I A hI hA r_x3 (by decide) (by have z0 : (0 : Int32).toInt = 0 := rfl; omega) (by show _ < ((200000 : Nat) : Int); have z0 : (0 : Int32).toInt = 0 := rfl; omega)
  ·
    replace c9 := ti_leN c9 rfl rfl
    refine ok_chk (ti_in (by omega) (by omega)) ?_
    refine ok_bnd (fun v1 e10 => ?_)
    have b_v1 := tA_35 hA ((x4).toNatClampNeg)
    rw [← e10] at b_v1
    obtain ⟨⟨r2, Ic2, Ac2⟩, h_r2, hI_Ic2, hA_Ac2, p_r2_0⟩ := t_ink (x1 := v1)  hI hA (by omega)
    replace hI_Ic2 : TJ Ic2 := hI_Ic2
    replace hA_Ac2 : TK Ac2 := hA_Ac2
    dsimp only at p_r2_0
    refine ok_clR h_r2 ?_
    have f_r2 := fw_ink h_r2
    have : (Ic2 5).toInt = (I 5).toInt := congrArg Int32.toInt (f_r2.1 5 (by decide))
    have : (Ic2 29).toInt = (I 29).toInt := congrArg Int32.toInt (f_r2.1 29 (by decide))
    have : (Ic2 36).toInt = (I 36).toInt := congrArg Int32.toInt (f_r2.1 36 (by decide))
    refine ok_bnd (fun v3 e11 => ?_)
    have t_v3 : v3.toInt = x4.toInt + 1 := ti_add e11 rfl (show (1 : Int32).toInt = 1 from rfl) (by omega) (by omega)
    have b_Ic2_3 := tI_3 hI_Ic2
    have b_Ic2_36 := tI_36 hI_Ic2
    exact hself95 x3 v3 Ic2 Ac2 hI_Ic2 hA_Ac2 r_x3 (by omega) (by omega) (by omega) (by omega)
theorem t_sayMove_95 {gg nn : Nat} {cc : Int}  : ∀ (n : Nat) (x3 : Int32) (x4 : Int32) (I : Nat → Int32) (A : Nat → Nat → Int32), TJ I → TK A → ((0 : Int) ≤ x3.toInt ∧ x3.toInt ≤ (601 : Int)) → ((0 : Int) ≤ x4.toInt ∧ x4.toInt ≤ (9 : Int)) → ((I 3).toInt ≤ cc + 10 + x4.toInt ∧ cc ≤ 79400) → ((I 36).toInt ≤ 9) → (17 - x4.toInt) < (n : Int) → Ok (f_sayMove_95  n x3 x4 I A) (fun o => TJ o.2.1 ∧ TK o.2.2 ∧ ((o.2.1 3).toInt ≤ cc + 254)) := by
  intro n
  induction n with
  | zero => intro x3 x4 I A hI hA g0 g1 g2 g3  hm; exfalso; omega
  | succ n ih =>
    intro x3 x4 I A hI hA g0 g1 g2 g3  hm
    exact t_sayMove_95s (gg := gg) (nn := nn) (cc := cc)  (N95 := n)  ih hI hA g0 g1 g2 g3  (by omega)
theorem t_sayMove_82 {gg nn : Nat} {cc : Int} {I : Nat → Int32} {A : Nat → Nat → Int32} {x3 : Int32} (hI : TJ I) (hA : TK A) (r_x3 : (0 : Int) ≤ x3.toInt ∧ x3.toInt ≤ (601 : Int)) (q0 : (I 3).toInt ≤ cc + 10 ∧ cc ≤ 79400) (q1 : (I 29).toInt ≤ 1999) (q2 : m9 A (x3).toNatClampNeg) : Ok (f_sayMove_82 x3 I A) (fun o => TJ o.2.1 ∧ TK o.2.2 ∧ ((o.2.1 3).toInt ≤ cc + 254)) := by
  unfold f_sayMove_82
  have b_I_3 := tI_3 hI
  have b_I_5 := tI_5 hI
  have b_I_29 := tI_29 hI
  have b_I_36 := tI_36 hI
  refine ok_chk (ti_in (by omega) (by omega)) ?_
  refine ok_bnd (fun v1 e12 => ?_)
  have b_v1 := tA_9 hA ((x3).toNatClampNeg)
  rw [← e12] at b_v1
  have l1 : 0 ≤ v1.toInt := by rw [e12]; exact q2
  obtain ⟨⟨r2, Ic2, Ac2⟩, h_r2, hI_Ic2, hA_Ac2, p_r2_0, p_r2_1⟩ := t_spellWhole (x1 := v1)  hI hA (by omega) q1
  replace hI_Ic2 : TJ Ic2 := hI_Ic2
  replace hA_Ac2 : TK Ac2 := hA_Ac2
  dsimp only at p_r2_0 p_r2_1
  refine ok_clR h_r2 ?_
  have f_r2 := fw_spellWhole h_r2
  have : (Ic2 3).toInt = (I 3).toInt := congrArg Int32.toInt (f_r2.1 3 (by decide))
  have : (Ic2 5).toInt = (I 5).toInt := congrArg Int32.toInt (f_r2.1 5 (by decide))
  have k13 : m9 Ac2 (x3).toNatClampNeg := m9_fr (f_r2.2 9 (by decide)) q2
  have b_Ic2_3 := tI_3 hI_Ic2
  have b_Ic2_36 := tI_36 hI_Ic2
  exact t_sayMove_95 (gg := gg) (nn := nn) (cc := cc)    mFuel x3 (0 : Int32) Ic2 Ac2 hI_Ic2 hA_Ac2 r_x3 (by decide) (by have z0 : (0 : Int32).toInt = 0 := rfl; omega) (by have z0 : (0 : Int32).toInt = 0 := rfl; omega) (by show _ < ((200000 : Nat) : Int); have z0 : (0 : Int32).toInt = 0 := rfl; omega)
theorem t_sayMove_61 {gg nn : Nat} {cc : Int} {I : Nat → Int32} {A : Nat → Nat → Int32} {self47 : Int32 → Int32 → (Nat → Int32) → (Nat → Nat → Int32) → Option (Int32 × MS)} {N47 : Nat} (hself47 : ∀ (x3 : Int32) (x4 : Int32) (I : Nat → Int32) (A : Nat → Nat → Int32), TJ I → TK A → ((0 : Int) ≤ x3.toInt ∧ x3.toInt ≤ (601 : Int)) → ((0 : Int) ≤ x4.toInt ∧ x4.toInt ≤ (3 : Int)) → ((I 3).toInt ≤ cc + 6 + x4.toInt ∧ cc ≤ 79400) → ((I 29).toInt ≤ 1999) → (m9 A (x3).toNatClampNeg) → (4 - x4.toInt) < (N47 : Int) → Ok (self47 x3 x4 I A) (fun o => TJ o.2.1 ∧ TK o.2.2 ∧ ((o.2.1 3).toInt ≤ cc + 254))) {x3 : Int32} {x4 : Int32} {t0 : Int32} {t1 : Int32} (hI : TJ I) (hA : TK A) (r_x3 : (0 : Int) ≤ x3.toInt ∧ x3.toInt ≤ (601 : Int)) (r_x4 : (0 : Int) ≤ x4.toInt ∧ x4.toInt ≤ (3 : Int)) (r_t0 : (1 : Int) ≤ t0.toInt ∧ t0.toInt ≤ (3 : Int)) (q0 : (I 3).toInt ≤ cc + 6 + x4.toInt ∧ cc ≤ 79400) (q1 : (I 29).toInt ≤ 1999) (q2 : m9 A (x3).toNatClampNeg) (q3 : t1.toInt = x4.toInt) (m47 : (4 - x4.toInt) ≤ (N47 : Int)) : Ok (f_sayMove_61 self47 x3 x4 t0 t1 I A) (fun o => TJ o.2.1 ∧ TK o.2.2 ∧ ((o.2.1 3).toInt ≤ cc + 254)) := by
  unfold f_sayMove_61
  have b_I_3 := tI_3 hI
  have b_I_5 := tI_5 hI
  have b_I_29 := tI_29 hI
  have b_I_36 := tI_36 hI
  refine ok_if (fun c14 => ?_) (fun c14 => ?_)
  ·
    replace c14 := ti_leP c14 rfl rfl
    obtain ⟨⟨r1, Ic1, Ac1⟩, h_r1, hI_Ic1, hA_Ac1, p_r1_0⟩ := t_ink (x1 := (32 : Int32))  hI hA (by have z0 : (32 : Int32).toInt = 32 := rfl; omega)
    replace hI_Ic1 : TJ Ic1 := hI_Ic1
    replace hA_Ac1 : TK Ac1 := hA_Ac1
    dsimp only at p_r1_0
    refine ok_clR h_r1 ?_
    have f_r1 := fw_ink h_r1
    have : (Ic1 5).toInt = (I 5).toInt := congrArg Int32.toInt (f_r1.1 5 (by decide))
    have : (Ic1 29).toInt = (I 29).toInt := congrArg Int32.toInt (f_r1.1 29 (by decide))
    have : (Ic1 36).toInt = (I 36).toInt := congrArg Int32.toInt (f_r1.1 36 (by decide))
    have k15 : m9 Ac1 (x3).toNatClampNeg := m9_fr (f_r1.2 9 (by decide)) q2
    have b_Ic1_3 := tI_3 hI_Ic1
    have b_Ic1_29 := tI_29 hI_Ic1
    exact t_sayMove_82 (gg := gg) (nn := nn) (cc := cc)   (x3 := x3) hI_Ic1 hA_Ac1 r_x3 (by omega) (by omega) k15
  ·
    replace c14 := ti_leN c14 rfl rfl
    obtain ⟨⟨r2, Ic2, Ac2⟩, h_r2, hI_Ic2, hA_Ac2, p_r2_0⟩ := t_ink (x1 := (46 : Int32))  hI hA (by have z0 : (46 : Int32).toInt = 46 := rfl; omega)
    replace hI_Ic2 : TJ Ic2 := hI_Ic2
    replace hA_Ac2 : TK Ac2 := hA_Ac2
    dsimp only at p_r2_0
    refine ok_clR h_r2 ?_
    have f_r2 := fw_ink h_r2
    have : (Ic2 5).toInt = (I 5).toInt := congrArg Int32.toInt (f_r2.1 5 (by decide))
    have : (Ic2 29).toInt = (I 29).toInt := congrArg Int32.toInt (f_r2.1 29 (by decide))
    have : (Ic2 36).toInt = (I 36).toInt := congrArg Int32.toInt (f_r2.1 36 (by decide))
    have k16 : m9 Ac2 (x3).toNatClampNeg := m9_fr (f_r2.2 9 (by decide)) q2
    refine ok_bnd (fun v3 e17 => ?_)
    have t_v3 : v3.toInt = x4.toInt + 1 := ti_add e17 rfl (show (1 : Int32).toInt = 1 from rfl) (by omega) (by omega)
    have b_Ic2_3 := tI_3 hI_Ic2
    have b_Ic2_29 := tI_29 hI_Ic2
    exact hself47 x3 v3 Ic2 Ac2 hI_Ic2 hA_Ac2 r_x3 (by omega) (by omega) (by omega) k16 (by omega)
theorem t_sayMove_47s {gg nn : Nat} {cc : Int} {I : Nat → Int32} {A : Nat → Nat → Int32} {self47 : Int32 → Int32 → (Nat → Int32) → (Nat → Nat → Int32) → Option (Int32 × MS)} {N47 : Nat} (hself47 : ∀ (x3 : Int32) (x4 : Int32) (I : Nat → Int32) (A : Nat → Nat → Int32), TJ I → TK A → ((0 : Int) ≤ x3.toInt ∧ x3.toInt ≤ (601 : Int)) → ((0 : Int) ≤ x4.toInt ∧ x4.toInt ≤ (3 : Int)) → ((I 3).toInt ≤ cc + 6 + x4.toInt ∧ cc ≤ 79400) → ((I 29).toInt ≤ 1999) → (m9 A (x3).toNatClampNeg) → (4 - x4.toInt) < (N47 : Int) → Ok (self47 x3 x4 I A) (fun o => TJ o.2.1 ∧ TK o.2.2 ∧ ((o.2.1 3).toInt ≤ cc + 254))) {x3 : Int32} {x4 : Int32} (hI : TJ I) (hA : TK A) (r_x3 : (0 : Int) ≤ x3.toInt ∧ x3.toInt ≤ (601 : Int)) (r_x4 : (0 : Int) ≤ x4.toInt ∧ x4.toInt ≤ (3 : Int)) (q0 : (I 3).toInt ≤ cc + 6 + x4.toInt ∧ cc ≤ 79400) (q1 : (I 29).toInt ≤ 1999) (q2 : m9 A (x3).toNatClampNeg) (m47 : (4 - x4.toInt) ≤ (N47 : Int)) : Ok (f_sayMove_47s self47 x3 x4 I A) (fun o => TJ o.2.1 ∧ TK o.2.2 ∧ ((o.2.1 3).toInt ≤ cc + 254)) := by
  unfold f_sayMove_47s
  have b_I_3 := tI_3 hI
  have b_I_5 := tI_5 hI
  have b_I_29 := tI_29 hI
  have b_I_36 := tI_36 hI
  have b_I_25 := tI_25 hI
  refine ok_if (fun c18 => ?_) (fun c18 => ?_)
  ·
    replace c18 := ti_eqP c18 rfl (show (0 : Int32).toInt = 0 from rfl)
    exact t_sayMove_61 (gg := gg) (nn := nn) (cc := cc)  hself47 (x3 := x3) (x4 := x4) (t0 := (1 : Int32)) (t1 := x4) hI hA r_x3 r_x4 (by decide) q0 q1 q2 (by have z0 : (1 : Int32).toInt = 1 := rfl; omega) m47
  ·
    replace c18 := ti_eqN c18 rfl (show (0 : Int32).toInt = 0 from rfl)
    exact t_sayMove_61 (gg := gg) (nn := nn) (cc := cc)  hself47 (x3 := x3) (x4 := x4) (t0 := (3 : Int32)) (t1 := x4) hI hA r_x3 r_x4 (by decide) q0 q1 q2 (by have z0 : (3 : Int32).toInt = 3 := rfl; omega) m47
theorem t_sayMove_47 {gg nn : Nat} {cc : Int}  : ∀ (n : Nat) (x3 : Int32) (x4 : Int32) (I : Nat → Int32) (A : Nat → Nat → Int32), TJ I → TK A → ((0 : Int) ≤ x3.toInt ∧ x3.toInt ≤ (601 : Int)) → ((0 : Int) ≤ x4.toInt ∧ x4.toInt ≤ (3 : Int)) → ((I 3).toInt ≤ cc + 6 + x4.toInt ∧ cc ≤ 79400) → ((I 29).toInt ≤ 1999) → (m9 A (x3).toNatClampNeg) → (4 - x4.toInt) < (n : Int) → Ok (f_sayMove_47  n x3 x4 I A) (fun o => TJ o.2.1 ∧ TK o.2.2 ∧ ((o.2.1 3).toInt ≤ cc + 254)) := by
  intro n
  induction n with
  | zero => intro x3 x4 I A hI hA g0 g1 g2 g3 g4  hm; exfalso; omega
  | succ n ih =>
    intro x3 x4 I A hI hA g0 g1 g2 g3 g4  hm
    exact t_sayMove_47s (gg := gg) (nn := nn) (cc := cc)  (N47 := n)  ih hI hA g0 g1 g2 g3 g4  (by omega)
theorem t_sayMove_36 {gg nn : Nat} {cc : Int} {I : Nat → Int32} {A : Nat → Nat → Int32} {x3 : Int32} (hI : TJ I) (hA : TK A) (r_x3 : (0 : Int) ≤ x3.toInt ∧ x3.toInt ≤ (601 : Int)) (q0 : (I 3).toInt ≤ cc + 0 ∧ cc ≤ 79400) (q1 : (I 29).toInt ≤ 1999) (q2 : m9 A (x3).toNatClampNeg) : Ok (f_sayMove_36 x3 I A) (fun o => TJ o.2.1 ∧ TK o.2.2 ∧ ((o.2.1 3).toInt ≤ cc + 254)) := by
  unfold f_sayMove_36
  have b_I_3 := tI_3 hI
  have b_I_5 := tI_5 hI
  have b_I_29 := tI_29 hI
  have b_I_36 := tI_36 hI
  obtain ⟨⟨r1, Ic1, Ac1⟩, h_r1, hI_Ic1, hA_Ac1, p_r1_0⟩ := t_sayNumber (x1 := (I 29))  hI hA (by omega) (show (I 3).toInt ≤ (I 3).toInt ∧ (I 3).toInt ≤ 79700 from ⟨Int.le_refl _, by omega⟩)
  replace hI_Ic1 : TJ Ic1 := hI_Ic1
  replace hA_Ac1 : TK Ac1 := hA_Ac1
  dsimp only at p_r1_0
  refine ok_clR h_r1 ?_
  have f_r1 := fw_sayNumber h_r1
  have : (Ic1 5).toInt = (I 5).toInt := congrArg Int32.toInt (f_r1.1 5 (by decide))
  have : (Ic1 29).toInt = (I 29).toInt := congrArg Int32.toInt (f_r1.1 29 (by decide))
  have : (Ic1 36).toInt = (I 36).toInt := congrArg Int32.toInt (f_r1.1 36 (by decide))
  have k19 : m9 Ac1 (x3).toNatClampNeg := m9_fr (f_r1.2 9 (by decide)) q2
  have b_Ic1_3 := tI_3 hI_Ic1
  have b_Ic1_29 := tI_29 hI_Ic1
  exact t_sayMove_47 (gg := gg) (nn := nn) (cc := cc)    mFuel x3 (0 : Int32) Ic1 Ac1 hI_Ic1 hA_Ac1 r_x3 (by decide) (by have z0 : (0 : Int32).toInt = 0 := rfl; omega) (by have z0 : (0 : Int32).toInt = 0 := rfl; omega) k19 (by show _ < ((200000 : Nat) : Int); have z0 : (0 : Int32).toInt = 0 := rfl; omega)
theorem t_sayMove_0 {gg nn : Nat} {cc : Int} {I : Nat → Int32} {A : Nat → Nat → Int32} {x1 : Int32} {x2 : Int32} (hI : TJ I) (hA : TK A) (r_x1 : (1 : Int) ≤ x1.toInt ∧ x1.toInt ≤ (300 : Int)) (r_x2 : (0 : Int) ≤ x2.toInt ∧ x2.toInt ≤ (1 : Int)) (q0 : TRn A gg nn) (q1 : (I 5).toInt = (gg : Int)) (q2 : x1.toInt ≤ (nn : Int)) (q3 : (I 3).toInt ≤ cc ∧ cc ≤ 79400) : Ok (f_sayMove_0 x1 x2 I A) (fun o => TJ o.2.1 ∧ TK o.2.2 ∧ ((o.2.1 3).toInt ≤ cc + 254)) := by
  unfold f_sayMove_0
  have b_I_3 := tI_3 hI
  have b_I_5 := tI_5 hI
  have b_I_29 := tI_29 hI
  have b_I_36 := tI_36 hI
  refine ok_bnd (fun v1 e20 => ?_)
  have t_v1 : v1.toInt = 301 * (I 5).toInt := ti_mul e20 (show (301 : Int32).toInt = 301 from rfl) rfl (by omega) (by omega)
  refine ok_bnd (fun v2 e21 => ?_)
  have t_v2 : v2.toInt = v1.toInt + x1.toInt := ti_add e21 rfl rfl (by omega) (by omega)
  refine ok_chk (ti_in (by omega) (by omega)) ?_
  refine ok_bnd (fun v3 e22 => ?_)
  have b_v3 := tA_8 hA ((v2).toNatClampNeg)
  rw [← e22] at b_v3
  have hp := q0 x1.toInt.toNat (by omega) (by omega)
  have i3 : v2.toNatClampNeg = 301 * gg + x1.toInt.toNat := by have := ti_nc (a := v2) (by omega); omega
  have w3 : v3.toInt = aP A gg x1.toInt.toNat := by rw [e22, i3]; rfl
  have m90 : m9 A v2.toNatClampNeg := by unfold m9; rw [i3]; exact hp.2
  obtain ⟨⟨r4, Ic4, Ac4⟩, h_r4, hI_Ic4, hA_Ac4, p_r4_0⟩ := t_place (x1 := (I 5)) (x2 := v3)  hI hA (by omega) (by omega) q0 q1 (by omega)
  replace hI_Ic4 : TJ Ic4 := hI_Ic4
  replace hA_Ac4 : TK Ac4 := hA_Ac4
  dsimp only at p_r4_0
  refine ok_clR h_r4 ?_
  have f_r4 := fw_place h_r4
  have : (Ic4 3).toInt = (I 3).toInt := congrArg Int32.toInt (f_r4.1 3 (by decide))
  have : (Ic4 5).toInt = (I 5).toInt := congrArg Int32.toInt (f_r4.1 5 (by decide))
  have : (Ic4 36).toInt = (I 36).toInt := congrArg Int32.toInt (f_r4.1 36 (by decide))
  have k23 : TRn Ac4 gg nn := TRn_fr (f_r4.2 8 (by decide)) (f_r4.2 9 (by decide)) q0
  have k24 : m9 Ac4 (v2).toNatClampNeg := m9_fr (f_r4.2 9 (by decide)) m90
  have b_Ic4_25 := tI_25 hI_Ic4
  refine ok_if (fun c25 => ?_) (fun c25 => ?_)
  ·
    replace c25 := ti_eqP c25 rfl (show (0 : Int32).toInt = 0 from rfl)
    have b_Ic4_3 := tI_3 hI_Ic4
    have b_Ic4_29 := tI_29 hI_Ic4
    exact t_sayMove_36 (gg := gg) (nn := nn) (cc := cc)   (x3 := v2) hI_Ic4 hA_Ac4 (by omega) (by omega) (by omega) k24
  ·
    replace c25 := ti_eqN c25 rfl (show (0 : Int32).toInt = 0 from rfl)
    refine ok_if (fun c26 => ?_) (fun c26 => ?_)
    ·
      replace c26 := ti_eqP c26 rfl (show (0 : Int32).toInt = 0 from rfl)
      have b_Ic4_3 := tI_3 hI_Ic4
      have b_Ic4_29 := tI_29 hI_Ic4
      exact t_sayMove_82 (gg := gg) (nn := nn) (cc := cc)   (x3 := v2) hI_Ic4 hA_Ac4 (by omega) (by omega) (by omega) k24
    ·
      replace c26 := ti_eqN c26 rfl (show (0 : Int32).toInt = 0 from rfl)
      have b_Ic4_3 := tI_3 hI_Ic4
      have b_Ic4_29 := tI_29 hI_Ic4
      exact t_sayMove_36 (gg := gg) (nn := nn) (cc := cc)   (x3 := v2) hI_Ic4 hA_Ac4 (by omega) (by omega) (by omega) k24
theorem t_sayMove {gg nn : Nat} {cc : Int} {I : Nat → Int32} {A : Nat → Nat → Int32} {x1 : Int32} {x2 : Int32} (hI : TJ I) (hA : TK A) (r_x1 : (1 : Int) ≤ x1.toInt ∧ x1.toInt ≤ (300 : Int)) (r_x2 : (0 : Int) ≤ x2.toInt ∧ x2.toInt ≤ (1 : Int)) (q0 : TRn A gg nn) (q1 : (I 5).toInt = (gg : Int)) (q2 : x1.toInt ≤ (nn : Int)) (q3 : (I 3).toInt ≤ cc ∧ cc ≤ 79400) : Ok (f_sayMove x1 x2 I A) (fun o => TJ o.2.1 ∧ TK o.2.2 ∧ ((o.2.1 3).toInt ≤ cc + 254)) := t_sayMove_0 (gg := gg) (nn := nn) (cc := cc) hI hA r_x1 r_x2 q0 q1 q2 q3
end
section
noncomputable def SLs (A0 : Nat → Nat → Int32) (gg : Nat) (I : Nat → Int32) (A : Nat → Nat → Int32) : Prop := TJ I ∧ TK A ∧ (I 5).toInt = (gg : Int) ∧ A 8 = A0 8 ∧ A 9 = A0 9 ∧ A 10 = A0 10 ∧ A 11 = A0 11
noncomputable def sm (len : Nat → Nat) : List Nat → Int
  | [] => 0
  | o :: l => 258 * (1 + (len o : Int)) + sm len l
theorem sm_nn {len : Nat → Nat} : ∀ l, 0 ≤ sm len l
  | [] => Int.le_refl _
  | o :: l => by have := sm_nn (len := len) l; show 0 ≤ 258 * (1 + (len o : Int)) + sm len l; omega
theorem sm_dsc {L : Nat → List Nat} {m : Nat} : ∀ l : List Nat, 258 * ((l.flatMap (fun x => x :: dsc L m x)).length : Int) = sm (fun x => (dsc L m x).length) l
  | [] => rfl
  | o :: l => by
    have ih := sm_dsc (L := L) (m := m) l
    rw [List.flatMap_cons, List.length_append, List.length_cons]
    show _ = 258 * (1 + ((dsc L m o).length : Int)) + sm _ l
    rw [← ih]
    omega
theorem ink_S {A0 : Nat → Nat → Int32} {gg : Nat} {x1 : Int32} {I : Nat → Int32} {A : Nat → Nat → Int32} {γ : Type} {k : Int32 → (Nat → Int32) → (Nat → Nat → Int32) → Option γ} {Q : γ → Prop} (hS : SLs A0 gg I A) (hc : (I 3).toInt ≤ 79999) (hk : ∀ r I' A', SLs A0 gg I' A' → (I' 3).toInt = (I 3).toInt + 1 → Ok (k r I' A') Q) : Ok (m_cl (f_ink x1 I A) k) Q := by
  obtain ⟨⟨r, I', A'⟩, h, hI', hA', p⟩ := t_ink (x1 := x1) hS.1 hS.2.1 hc
  have f := fw_ink h
  refine ok_clR h (hk r I' A' ⟨hI', hA', ?_, (f.2 8 (by decide)).trans hS.2.2.2.1, (f.2 9 (by decide)).trans hS.2.2.2.2.1, (f.2 10 (by decide)).trans hS.2.2.2.2.2.1, (f.2 11 (by decide)).trans hS.2.2.2.2.2.2⟩ p)
  have e : I' 5 = I 5 := f.1 5 (by decide)
  rw [e]; exact hS.2.2.1
theorem mF_succ : ∃ f : Nat, mFuel = f + 1 ∧ 1000 ≤ f := ⟨199999, rfl, by decide⟩
section SL
variable {A0 : Nat → Nat → Int32} {gg N : Nat} {L : Nat → List Nat} {D : Nat → Nat}
theorem SLs_n {I : Nat → Int32} {A : Nat → Nat → Int32} (hb : TTb N (aP A0 gg) (aM A0 gg)) (hS : SLs A0 gg I A) : TRn A gg N := by
  intro k h1 h2
  unfold aP aM
  rw [hS.2.2.2.1, hS.2.2.2.2.1]
  exact hb k h1 h2
theorem sl_8s (hb : TTb N (aP A0 gg) (aM A0 gg)) (hN : N ≤ 300) {rec : Int32 → Int32 → (Nat → Int32) → (Nat → Nat → Int32) → Option (Int32 × MS)} {self8 : Int32 → Int32 → Int32 → (Nat → Int32) → (Nat → Nat → Int32) → Option (Int32 × MS)} {x3 x4 x5 : Int32} {I : Nat → Int32} {A : Nat → Nat → Int32} {Q : Int32 × MS → Prop} {k : Nat} {c : Int} (hx : x3.toInt = (k : Int)) (h1 : 1 ≤ k) (h2 : k ≤ N) (h4 : 0 ≤ x4.toInt ∧ x4.toInt ≤ 1) (hS : SLs A0 gg I A) (h3 : (I 3).toInt ≤ c) (hc : c ≤ 79400)
    (cont : ∀ (t0 x6 : Int32) (I' : Nat → Int32) (A' : Nat → Nat → Int32), SLs A0 gg I' A' → (I' 3).toInt ≤ c + 254 → x6.toInt = 301 * (gg : Int) + (k : Int) → (0 ≤ t0.toInt ∧ t0.toInt ≤ 1) → Ok (f_sayLine_46 rec self8 x5 x6 t0 I' A') Q) : Ok (f_sayLine_8s rec self8 x3 x4 x5 I A) Q := by
  have b5 := tI_5 hS.1
  have h5 := hS.2.2.1
  unfold f_sayLine_8s
  refine ok_ifF (fun h => by have := ti_ltP h rfl (show (0 : Int32).toInt = 0 from rfl); omega) ?_
  refine ok_bnd (fun v1 e1 => ?_)
  have t1 := ti_mul e1 (show (301 : Int32).toInt = 301 from rfl) h5 (by omega) (by omega)
  refine ok_bnd (fun v2 e2 => ?_)
  have t2 := ti_add e2 t1 hx (by omega) (by omega)
  obtain ⟨⟨r, I', A'⟩, h, hI', hA', p⟩ := t_sayMove (x1 := x3) (x2 := x4) (gg := gg) (nn := N) (cc := c) hS.1 hS.2.1 (by omega) (by omega) (SLs_n hb hS) h5 (by omega) (by omega)
  dsimp only at p
  have f := fw_sayMove h
  have hS' : SLs A0 gg I' A' := ⟨hI', hA', by have e : I' 5 = I 5 := f.1 5 (by decide)
                                              rw [e]; exact h5, (f.2 8 (by decide)).trans hS.2.2.2.1, (f.2 9 (by decide)).trans hS.2.2.2.2.1, (f.2 10 (by decide)).trans hS.2.2.2.2.2.1, (f.2 11 (by decide)).trans hS.2.2.2.2.2.2⟩
  refine ok_clR h ?_
  refine ok_chk (ti_in (by omega) (by omega)) ?_
  refine ok_bnd (fun v4 e4 => ?_)
  refine ok_if (fun _ => ?_) (fun _ => ?_)
  · exact cont _ _ _ _ hS' p t2 (by decide)
  · exact cont _ _ _ _ hS' p t2 (by decide)
theorem sl_66 {len : Nat → Nat} (hN : N ≤ 300) (hg : gg ≤ 1) {rec : Int32 → Int32 → (Nat → Int32) → (Nat → Nat → Int32) → Option (Int32 × MS)} {self8 : Int32 → Int32 → Int32 → (Nat → Int32) → (Nat → Nat → Int32) → Option (Int32 × MS)} {Q : Int32 × MS → Prop} {k : Nat} (hk : k ≤ N) : ∀ (l : List Nat) (n : Nat) (x4 x6 x7 : Int32) (I : Nat → Int32) (A : Nat → Nat → Int32) (c : Int), chn (aN A0 gg) l x7.toInt → (∀ o ∈ l, 1 ≤ o ∧ o ≤ N) → l.length < n → (0 ≤ x4.toInt ∧ x4.toInt ≤ 1) → x6.toInt = 301 * (gg : Int) + (k : Int) → SLs A0 gg I A → (I 3).toInt ≤ c → c + sm len l ≤ 79396 →
    (∀ o ∈ l, ∀ (x : Int32) (I' : Nat → Int32) (A' : Nat → Nat → Int32) (c' : Int), x.toInt = (o : Int) → SLs A0 gg I' A' → (I' 3).toInt ≤ c' → c' + 255 + 258 * (len o : Int) ≤ 79396 → Ok (rec x 0 I' A') (fun q => SLs A0 gg q.2.1 q.2.2 ∧ (q.2.1 3).toInt ≤ c' + 255 + 258 * (len o : Int))) →
    (∀ (v x4' : Int32) (I' : Nat → Int32) (A' : Nat → Nat → Int32), SLs A0 gg I' A' → (I' 3).toInt ≤ c + sm len l + 1 → v.toInt = aC A0 gg k → (0 ≤ x4'.toInt ∧ x4'.toInt ≤ 1) → Ok (self8 v x4' 1 I' A') Q) → Ok (f_sayLine_66 rec self8 n x4 x6 x7 I A) Q := by
  intro l
  induction l with
  | nil =>
    intro n x4 x6 x7 I A c hch hl hn h4 h6 hS h3 hc hrec hself
    cases n with
    | zero => omega
    | succ n =>
      have h7 : x7.toInt = -1 := hch
      have e0 : sm len ([] : List Nat) = 0 := rfl
      show Ok (f_sayLine_66s rec self8 (f_sayLine_66 rec self8 n) x4 x6 x7 I A) Q
      unfold f_sayLine_66s
      refine ok_ifT (Int32.lt_iff_toInt_lt.mpr (by rw [h7]; decide)) ?_
      refine ok_chk (ti_in (by omega) (by omega)) ?_
      refine ok_bnd (fun v1 e1 => ?_)
      have i6 : x6.toNatClampNeg = 301 * gg + k := by have := ti_nc (a := x6) (by omega); omega
      have w1 : v1.toInt = aC A0 gg k := by rw [e1, i6, hS.2.2.2.2.2.1]; rfl
      refine ok_if (fun _ => ?_) (fun _ => ?_)
      · exact hself v1 x4 I A hS (by omega) w1 h4
      · exact ink_S hS (by omega) (fun r I' A' hS' h3' => hself v1 x4 I' A' hS' (by omega) w1 h4)
  | cons o l ih =>
    intro n x4 x6 x7 I A c hch hl hn h4 h6 hS h3 hc hrec hself
    cases n with
    | zero => exact absurd hn (Nat.not_lt_zero _)
    | succ n =>
      have h7 : x7.toInt = (o : Int) := hch.1
      have ho := hl o List.mem_cons_self
      have e0 : sm len (o :: l) = 258 * (1 + (len o : Int)) + sm len l := rfl
      have snn := sm_nn (len := len) l
      show Ok (f_sayLine_66s rec self8 (f_sayLine_66 rec self8 n) x4 x6 x7 I A) Q
      unfold f_sayLine_66s
      refine ok_ifF (fun h => by have := ti_ltP h rfl (show (0 : Int32).toInt = 0 from rfl); omega) ?_
      refine ink_S hS (by omega) (fun r1 I1 A1 hS1 h31 => ?_)
      refine ink_S hS1 (by omega) (fun r2 I2 A2 hS2 h32 => ?_)
      obtain ⟨⟨r3, I3, A3⟩, h, hS3, h33⟩ := hrec o List.mem_cons_self x7 I2 A2 (c + 2) h7 hS2 (by omega) (by omega)
      replace hS3 : SLs A0 gg I3 A3 := hS3
      replace h33 : (I3 3).toInt ≤ c + 2 + 255 + 258 * (len o : Int) := h33
      refine ok_clR h ?_
      refine ink_S hS3 (by omega) (fun r4 I4 A4 hS4 h34 => ?_)
      have h5 := hS4.2.2.1
      refine ok_bnd (fun v7 e7 => ?_)
      have t7 := ti_mul e7 (show (301 : Int32).toInt = 301 from rfl) h5 (by omega) (by omega)
      refine ok_bnd (fun v8 e8 => ?_)
      have t8 := ti_add e8 t7 h7 (by omega) (by omega)
      refine ok_chk (ti_in (by omega) (by omega)) ?_
      refine ok_bnd (fun v9 e9 => ?_)
      have i8 : v8.toNatClampNeg = 301 * gg + o := by have := ti_nc (a := v8) (by omega); omega
      have w9 : v9.toInt = aN A0 gg o := by rw [e9, i8, hS4.2.2.2.2.2.2]; rfl
      refine ih n 1 x6 v9 I4 A4 (c + 258 * (1 + (len o : Int))) (by rw [w9]; exact hch.2) (fun j hj => hl j (List.mem_cons_of_mem _ hj)) (by simp only [List.length_cons] at hn; omega) (by decide) h6 hS4 (by omega) (by omega) (fun j hj => hrec j (List.mem_cons_of_mem _ hj)) (fun v x4' I' A' hS' h3' hv hx => hself v x4' I' A' hS' (by omega) hv hx)
theorem sl_main (hN : N ≤ 300) (hg : gg ≤ 1) (hb : TTb N (aP A0 gg) (aM A0 gg)) (hl : TTl N (aP A0 gg) (aC A0 gg) (aN A0 gg) L) (hd : TTd N (aP A0 gg) (aC A0 gg) D) : ∀ (m p : Nat), p ≤ N → N < p + m → ∀ (r : Nat), 7 ≤ r + D p → ∀ (f : Nat), N < p + f → ∀ (x3 x4 : Int32) (I : Nat → Int32) (A : Nat → Nat → Int32) (c : Int), x3.toInt = aC A0 gg p → (0 ≤ x4.toInt ∧ x4.toInt ≤ 1) → SLs A0 gg I A → (I 3).toInt ≤ c → c + 258 * ((dsc L m p).length : Int) ≤ 79400 → Ok (f_sayLine_8 (fr_sayLine r) f x3 x4 1 I A) (fun q => SLs A0 gg q.2.1 q.2.2 ∧ (q.2.1 3).toInt ≤ c + 258 * ((dsc L m p).length : Int)) := by
  intro m
  induction m with
  | zero => intro p h1 h2; omega
  | succ m ih =>
    intro p hp hm r hr f hf x3 x4 I A c hx h4 hS h3 hc
    have hLp := hl p hp
    have hsum : 258 * ((dsc L (m + 1) p).length : Int) = sm (fun x => (dsc L m x).length) (L p) := sm_dsc (L p)
    cases f with
    | zero => omega
    | succ f =>
      show Ok (f_sayLine_8s (fr_sayLine r) (f_sayLine_8 (fr_sayLine r) f) x3 x4 1 I A) _
      cases hL : L p with
      | nil =>
        rw [hL] at hLp
        have hC : aC A0 gg p = -1 := hLp.1
        unfold f_sayLine_8s
        refine ok_ifT (Int32.lt_iff_toInt_lt.mpr (by rw [hx, hC]; decide)) (ok_ret ⟨hS, ?_⟩)
        show (I 3).toInt ≤ _
        omega
      | cons F l =>
        rw [hL] at hLp hsum
        have hC : aC A0 gg p = (F : Int) := hLp.1.1
        have hmem : ∀ o ∈ F :: l, 1 ≤ o ∧ o ≤ N ∧ aP A0 gg o = (p : Int) := fun o ho => (hLp.2.2 o).mp ho
        have hF := hmem F List.mem_cons_self
        have hFp := (hb F hF.1 hF.2.1).1
        have hlen : (F :: l).length ≤ N := by have := chn_len hl hp; rw [hL] at this; exact this
        simp only [List.length_cons] at hlen
        have e0 : sm (fun x => (dsc L m x).length) (F :: l) = 258 * (1 + ((dsc L m F).length : Int)) + sm (fun x => (dsc L m x).length) l := rfl
        have snn := sm_nn (len := fun x => (dsc L m x).length) l
        have dF : D F = D p := by
          have h5 := hd.2.1 F hF.1 hF.2.1
          have e : (aP A0 gg F).toNat = p := by omega
          rw [e, if_pos hC] at h5; omega
        refine sl_8s hb hN (k := F) (c := c) (by rw [hx, hC]) hF.1 hF.2.1 h4 hS h3 (by omega) (fun t0 x6 I' A' hS' h3' h6 ht => ?_)
        unfold f_sayLine_46
        refine ok_ifF (by decide) ?_
        have hg1 := hS'.2.2.1
        refine ok_chk (ti_in (by omega) (by omega)) ?_
        refine ok_bnd (fun v1 e1 => ?_)
        have i6 : x6.toNatClampNeg = 301 * gg + F := by have := ti_nc (a := x6) (by omega); omega
        have w1 : v1.toInt = aN A0 gg F := by rw [e1, i6, hS'.2.2.2.2.2.2]; rfl
        show Ok (f_sayLine_66 (fr_sayLine r) (f_sayLine_8 (fr_sayLine r) f) mFuel t0 x6 v1 I' A') _
        refine sl_66 (len := fun x => (dsc L m x).length) hN hg (k := F) hF.2.1 l mFuel t0 x6 v1 I' A' (c + 254) (by rw [w1]; exact hLp.1.2) (fun o ho => by have := hmem o (List.mem_cons_of_mem _ ho); omega) (by show _ < 200000; omega) ht h6 hS' h3' (by omega) (fun o ho x I2 A2 c2 hxo hS2 h32 hc2 => ?_) (fun v x4' I2 A2 hS2 h32 hv hx4 => ?_)
        · have hom := hmem o (List.mem_cons_of_mem _ ho)
          have hop := (hb o hom.1 hom.2.1).1
          have hoF : o ≠ F := fun e => by
            have := (List.nodup_cons.mp hLp.2.1).1
            exact this (e ▸ ho)
          have dO : D o = D p + 1 := by
            have h5 := hd.2.1 o hom.1 hom.2.1
            have e : (aP A0 gg o).toNat = p := by omega
            rw [e, if_neg (by rw [hC]; omega)] at h5; exact h5
          have d6 := hd.2.2 o hom.2.1
          cases r with
          | zero => omega
          | succ r =>
            have e9 : fr_sayLine (r + 1) x 0 I2 A2 = f_sayLine_8 (fr_sayLine r) mFuel x 1 0 I2 A2 := rfl
            obtain ⟨f9, hf9, hf9'⟩ := mF_succ
            rw [e9, hf9]
            show Ok (f_sayLine_8s (fr_sayLine r) (f_sayLine_8 (fr_sayLine r) f9) x 1 0 I2 A2) _
            refine sl_8s hb hN (k := o) (c := c2) hxo hom.1 hom.2.1 (by decide) hS2 h32 (by omega) (fun t0 x6 I3 A3 hS3 h33 h63 ht3 => ?_)
            unfold f_sayLine_46
            refine ok_ifT (by decide) ?_
            show Ok (f_sayLine_66 (fr_sayLine r) (f_sayLine_8 (fr_sayLine r) f9) mFuel t0 x6 (-1) I3 A3) _
            refine sl_66 (len := fun x => (dsc L m x).length) hN hg (k := o) hom.2.1 [] mFuel t0 x6 (-1) I3 A3 (c2 + 254) (show (-1 : Int32).toInt = -1 from rfl) (fun _ h => by cases h) (by show 0 < 200000; omega) ht3 h63 hS3 h33 (by show c2 + 254 + 0 ≤ 79396; omega) (fun _ h => by cases h) (fun v x4' I4 A4 hS4 h34 hv hx4 => ?_)
            have h34' : (I4 3).toInt ≤ c2 + 254 + 0 + 1 := h34
            exact ok_mono (ih o hom.2.1 (by omega) r (by omega) f9 (by omega) v x4' I4 A4 (c2 + 255) hv hx4 hS4 (by omega) (by omega)) (fun q hq => ⟨hq.1, by have := hq.2; omega⟩)
        · exact ok_mono (ih F hF.2.1 (by omega) r (by omega) f (by omega) v x4' I2 A2 (c + 254 + sm (fun x => (dsc L m x).length) l + 1) hv hx4 hS2 h32 (by omega)) (fun q hq => ⟨hq.1, by have := hq.2; omega⟩)
end SL
theorem t_sayLine {gg : Nat} {I : Nat → Int32} {A : Nat → Nat → Int32} {x1 x2 : Int32} {cc : Int} (hI : TJ I) (hA : TK A) (q0 : TRE A gg) (q1 : (I 5).toInt = (gg : Int)) (q2 : x1.toInt = aC A gg 0) (q3 : x2.toInt = 1) (q4 : (I 3).toInt ≤ cc ∧ cc ≤ 2000) : Ok (f_sayLine x1 x2 I A) (fun o => TJ o.2.1 ∧ TK o.2.2 ∧ ((o.2.1 3).toInt ≤ cc + 77400)) := by
  obtain ⟨hb, L, D, hl, hd⟩ := q0
  have hN := aK_le (g := gg) hA
  have b5 := tI_5 hI
  have hlen := dsc_len hb hl (aK A gg + 1)
  have hx2 : x2 = 1 := Int32.toInt_inj.mp q3
  subst hx2
  have key := sl_main (A0 := A) (gg := gg) hN (by omega) hb hl hd (aK A gg + 1) 0 (Nat.zero_le _) (by omega) 7 (by rw [hd.1]; omega) mFuel (by show _ < 0 + 200000; omega) x1 1 I A cc q2 (by decide) ⟨hI, hA, q1, rfl, rfl, rfl, rfl⟩ q4.1 (by omega)
  exact ok_mono (show Ok (f_sayLine x1 1 I A) _ from key) (fun q hq => ⟨hq.1.1, hq.1.2.1, by have := hq.2; omega⟩)
end
section
theorem t_write_280s {gg : Nat} {I : Nat → Int32} {A : Nat → Nat → Int32} {self280 : Int32 → (Nat → Int32) → (Nat → Nat → Int32) → Option (Int32 × MS)} {N280 : Nat} (hself280 : ∀ (x1 : Int32) (I : Nat → Int32) (A : Nat → Nat → Int32), TJ I → TK A → ((0 : Int) ≤ x1.toInt ∧ x1.toInt ≤ (7 : Int)) → (TRE A gg) → ((I 5).toInt = (gg : Int)) → ((I 6).toInt ≤ (aK A gg : Int)) → ((I 3).toInt ≤ 79500 + x1.toInt) → (8 - x1.toInt) < (N280 : Int) → Ok (self280 x1 I A) (fun o => TJ o.2.1 ∧ TK o.2.2 ∧ ((0 : Int) ≤ o.1.toInt ∧ o.1.toInt ≤ (80000 : Int)) ∧ (RIv o.2.1 o.2.2))) {x1 : Int32} (hI : TJ I) (hA : TK A) (r_x1 : (0 : Int) ≤ x1.toInt ∧ x1.toInt ≤ (7 : Int)) (q0 : TRE A gg) (q1 : (I 5).toInt = (gg : Int)) (q2 : (I 6).toInt ≤ (aK A gg : Int)) (q3 : (I 3).toInt ≤ 79500 + x1.toInt) (m280 : (8 - x1.toInt) ≤ (N280 : Int)) : Ok (f_write_280s self280 x1 I A) (fun o => TJ o.2.1 ∧ TK o.2.2 ∧ ((0 : Int) ≤ o.1.toInt ∧ o.1.toInt ≤ (80000 : Int)) ∧ (RIv o.2.1 o.2.2)) := by
  unfold f_write_280s
  have b_I_3 := tI_3 hI
  have b_I_5 := tI_5 hI
  have b_I_6 := tI_6 hI
  have b_I_29 := tI_29 hI
  have ck0 : cK A gg (aK A gg) := rfl
  refine ok_chk (ti_in (by omega) (by omega)) ?_
  refine ok_bnd (fun v1 e1 => ?_)
  have b_v1 := tA_23 hA (((I 5)).toNatClampNeg)
  rw [← e1] at b_v1
  obtain ⟨r2, h_r2, p_r2⟩ := ro (t_resultSize (x0 := v1)  hI hA )
  refine ok_clR h_r2 ?_
  dsimp only at p_r2
  refine ok_if (fun c2 => ?_) (fun c2 => ?_)
  ·
    replace c2 := ti_leP c2 rfl rfl
    obtain ⟨⟨r3, Ic3, Ac3⟩, h_r3, hI_Ic3, hA_Ac3, p_r3_0⟩ := t_place (x1 := (I 5)) (x2 := (I 6))  hI hA (by omega) (by omega) (TRE_n q0) q1 (by have z := ck0; unfold cK at z; omega)
    replace hI_Ic3 : TJ Ic3 := hI_Ic3
    replace hA_Ac3 : TK Ac3 := hA_Ac3
    dsimp only at p_r3_0
    refine ok_clR h_r3 ?_
    have f_r3 := fw_place h_r3
    have : (Ic3 3).toInt = (I 3).toInt := congrArg Int32.toInt (f_r3.1 3 (by decide))
    have : (Ic3 5).toInt = (I 5).toInt := congrArg Int32.toInt (f_r3.1 5 (by decide))
    have : (Ic3 6).toInt = (I 6).toInt := congrArg Int32.toInt (f_r3.1 6 (by decide))
    have k3 : TRE Ac3 gg := TRE_fr (f_r3.2 7 (by decide)) (f_r3.2 8 (by decide)) (f_r3.2 9 (by decide)) (f_r3.2 10 (by decide)) (f_r3.2 11 (by decide)) q0
    have k4 : cK Ac3 gg (aK A gg) := cK_fr (f_r3.2 7 (by decide)) ck0
    have b_Ic3_3 := tI_3 hI_Ic3
    exact ok_ret ⟨hI_Ic3, hA_Ac3, (show (0 : Int) ≤ (Ic3 3).toInt ∧ (Ic3 3).toInt ≤ (80000 : Int) from (by omega)), (by show RIv Ic3 Ac3; exact (RIv_mk (g := gg) k3 (by omega) (by have z := k4; unfold cK at z; omega) (by omega)))⟩
  ·
    replace c2 := ti_leN c2 rfl rfl
    refine ok_chk (ti_in (by omega) (by omega)) ?_
    refine ok_bnd (fun v4 e5 => ?_)
    have b_v4 := tA_23 hA (((I 5)).toNatClampNeg)
    rw [← e5] at b_v4
    obtain ⟨r5, h_r5, p_r5⟩ := ro (t_resultSign (x0 := v4) (x1 := x1)  hI hA )
    refine ok_clR h_r5 ?_
    dsimp only at p_r5
    obtain ⟨⟨r6, Ic6, Ac6⟩, h_r6, hI_Ic6, hA_Ac6, p_r6_0⟩ := t_ink (x1 := r5)  hI hA (by omega)
    replace hI_Ic6 : TJ Ic6 := hI_Ic6
    replace hA_Ac6 : TK Ac6 := hA_Ac6
    dsimp only at p_r6_0
    refine ok_clR h_r6 ?_
    have f_r6 := fw_ink h_r6
    have : (Ic6 5).toInt = (I 5).toInt := congrArg Int32.toInt (f_r6.1 5 (by decide))
    have : (Ic6 6).toInt = (I 6).toInt := congrArg Int32.toInt (f_r6.1 6 (by decide))
    have : (Ic6 29).toInt = (I 29).toInt := congrArg Int32.toInt (f_r6.1 29 (by decide))
    have k6 : TRE Ac6 gg := TRE_fr (f_r6.2 7 (by decide)) (f_r6.2 8 (by decide)) (f_r6.2 9 (by decide)) (f_r6.2 10 (by decide)) (f_r6.2 11 (by decide)) q0
    have k7 : cK Ac6 gg (aK A gg) := cK_fr (f_r6.2 7 (by decide)) ck0
    refine ok_bnd (fun v7 e8 => ?_)
    have t_v7 : v7.toInt = x1.toInt + 1 := ti_add e8 rfl (show (1 : Int32).toInt = 1 from rfl) (by omega) (by omega)
    have b_Ic6_5 := tI_5 hI_Ic6
    have b_Ic6_6 := tI_6 hI_Ic6
    have b_Ic6_3 := tI_3 hI_Ic6
    exact hself280 v7 Ic6 Ac6 hI_Ic6 hA_Ac6 (by omega) k6 (by omega) (by have z := k7; unfold cK at z; omega) (by omega) (by omega)
theorem t_write_280 {gg : Nat}  : ∀ (n : Nat) (x1 : Int32) (I : Nat → Int32) (A : Nat → Nat → Int32), TJ I → TK A → ((0 : Int) ≤ x1.toInt ∧ x1.toInt ≤ (7 : Int)) → (TRE A gg) → ((I 5).toInt = (gg : Int)) → ((I 6).toInt ≤ (aK A gg : Int)) → ((I 3).toInt ≤ 79500 + x1.toInt) → (8 - x1.toInt) < (n : Int) → Ok (f_write_280  n x1 I A) (fun o => TJ o.2.1 ∧ TK o.2.2 ∧ ((0 : Int) ≤ o.1.toInt ∧ o.1.toInt ≤ (80000 : Int)) ∧ (RIv o.2.1 o.2.2)) := by
  intro n
  induction n with
  | zero => intro x1 I A hI hA g0 g1 g2 g3 g4  hm; exfalso; omega
  | succ n ih =>
    intro x1 I A hI hA g0 g1 g2 g3 g4  hm
    exact t_write_280s (gg := gg)  (N280 := n)  ih hI hA g0 g1 g2 g3 g4  (by omega)
theorem t_write_238 {gg : Nat} {I : Nat → Int32} {A : Nat → Nat → Int32} (hI : TJ I) (hA : TK A) (q0 : TRE A gg) (q1 : (I 5).toInt = (gg : Int)) (q2 : (I 6).toInt ≤ (aK A gg : Int)) (q3 : (I 3).toInt ≤ 1950) : Ok (f_write_238 I A) (fun o => TJ o.2.1 ∧ TK o.2.2 ∧ ((0 : Int) ≤ o.1.toInt ∧ o.1.toInt ≤ (80000 : Int)) ∧ (RIv o.2.1 o.2.2)) := by
  unfold f_write_238
  have b_I_3 := tI_3 hI
  have b_I_5 := tI_5 hI
  have b_I_6 := tI_6 hI
  have b_I_29 := tI_29 hI
  have ck0 : cK A gg (aK A gg) := rfl
  refine ok_bnd (fun v1 e9 => ?_)
  have t_v1 : v1.toInt = 301 * (I 5).toInt := ti_mul e9 (show (301 : Int32).toInt = 301 from rfl) rfl (by omega) (by omega)
  refine ok_chk (ti_in (by omega) (by omega)) ?_
  refine ok_bnd (fun v2 e10 => ?_)
  have b_v2 := tA_10 hA ((v1).toNatClampNeg)
  rw [← e10] at b_v2
  refine ok_if (fun c11 => ?_) (fun c11 => ?_)
  ·
    replace c11 := ti_ltP c11 rfl (show (0 : Int32).toInt = 0 from rfl)
    unfold f_write_278
    exact t_write_280 (gg := gg)    mFuel (0 : Int32) I A hI hA (by decide) q0 q1 q2 (by have z0 : (0 : Int32).toInt = 0 := rfl; omega) (by show _ < ((200000 : Nat) : Int); have z0 : (0 : Int32).toInt = 0 := rfl; omega)
  ·
    replace c11 := ti_ltN c11 rfl (show (0 : Int32).toInt = 0 from rfl)
    refine ok_bnd (fun v3 e12 => ?_)
    have t_v3 : v3.toInt = 301 * (I 5).toInt := ti_mul e12 (show (301 : Int32).toInt = 301 from rfl) rfl (by omega) (by omega)
    refine ok_chk (ti_in (by omega) (by omega)) ?_
    refine ok_bnd (fun v4 e13 => ?_)
    have b_v4 := tA_10 hA ((v3).toNatClampNeg)
    rw [← e13] at b_v4
    have i4 : v3.toNatClampNeg = 301 * gg + 0 := by have := ti_nc (a := v3) (by omega); omega
    have w4 : v4.toInt = aC A gg 0 := by rw [e13, i4]; rfl
    obtain ⟨⟨r5, Ic5, Ac5⟩, h_r5, hI_Ic5, hA_Ac5, p_r5_0⟩ := t_sayLine (x1 := v4) (x2 := (1 : Int32))  hI hA q0 q1 w4 (by have z0 : (1 : Int32).toInt = 1 := rfl; omega) (show (I 3).toInt ≤ (I 3).toInt ∧ (I 3).toInt ≤ 2000 from ⟨Int.le_refl _, by omega⟩)
    replace hI_Ic5 : TJ Ic5 := hI_Ic5
    replace hA_Ac5 : TK Ac5 := hA_Ac5
    dsimp only at p_r5_0
    refine ok_clR h_r5 ?_
    have f_r5 := fw_sayLine h_r5
    have : (Ic5 5).toInt = (I 5).toInt := congrArg Int32.toInt (f_r5.1 5 (by decide))
    have : (Ic5 6).toInt = (I 6).toInt := congrArg Int32.toInt (f_r5.1 6 (by decide))
    have k14 : TRE Ac5 gg := TRE_fr (f_r5.2 7 (by decide)) (f_r5.2 8 (by decide)) (f_r5.2 9 (by decide)) (f_r5.2 10 (by decide)) (f_r5.2 11 (by decide)) q0
    have k15 : cK Ac5 gg (aK A gg) := cK_fr (f_r5.2 7 (by decide)) ck0
    have b_Ic5_3 := tI_3 hI_Ic5
    obtain ⟨⟨r6, Ic6, Ac6⟩, h_r6, hI_Ic6, hA_Ac6, p_r6_0⟩ := t_ink (x1 := (32 : Int32))  hI_Ic5 hA_Ac5 (by have z0 : (32 : Int32).toInt = 32 := rfl; omega)
    replace hI_Ic6 : TJ Ic6 := hI_Ic6
    replace hA_Ac6 : TK Ac6 := hA_Ac6
    dsimp only at p_r6_0
    refine ok_clR h_r6 ?_
    have f_r6 := fw_ink h_r6
    have : (Ic6 5).toInt = (Ic5 5).toInt := congrArg Int32.toInt (f_r6.1 5 (by decide))
    have : (Ic6 6).toInt = (Ic5 6).toInt := congrArg Int32.toInt (f_r6.1 6 (by decide))
    have : (Ic6 29).toInt = (Ic5 29).toInt := congrArg Int32.toInt (f_r6.1 29 (by decide))
    have k16 : TRE Ac6 gg := TRE_fr (f_r6.2 7 (by decide)) (f_r6.2 8 (by decide)) (f_r6.2 9 (by decide)) (f_r6.2 10 (by decide)) (f_r6.2 11 (by decide)) k14
    have k17 : cK Ac6 gg (aK A gg) := cK_fr (f_r6.2 7 (by decide)) k15
    unfold f_write_278
    have b_Ic6_5 := tI_5 hI_Ic6
    have b_Ic6_6 := tI_6 hI_Ic6
    have b_Ic6_3 := tI_3 hI_Ic6
    exact t_write_280 (gg := gg)    mFuel (0 : Int32) Ic6 Ac6 hI_Ic6 hA_Ac6 (by decide) k16 (by have z0 : (0 : Int32).toInt = 0 := rfl; omega) (by have z := k17; unfold cK at z; omega) (by have z0 : (0 : Int32).toInt = 0 := rfl; omega) (by show _ < ((200000 : Nat) : Int); have z0 : (0 : Int32).toInt = 0 := rfl; omega)
theorem t_write_204 {gg : Nat} {I : Nat → Int32} {A : Nat → Nat → Int32} (hI : TJ I) (hA : TK A) (q0 : TRE A gg) (q1 : (I 5).toInt = (gg : Int)) (q2 : (I 6).toInt ≤ (aK A gg : Int)) (q3 : (I 3).toInt ≤ 1730) : Ok (f_write_204 I A) (fun o => TJ o.2.1 ∧ TK o.2.2 ∧ ((0 : Int) ≤ o.1.toInt ∧ o.1.toInt ≤ (80000 : Int)) ∧ (RIv o.2.1 o.2.2)) := by
  unfold f_write_204
  have b_I_3 := tI_3 hI
  have b_I_5 := tI_5 hI
  have b_I_6 := tI_6 hI
  have b_I_29 := tI_29 hI
  have ck0 : cK A gg (aK A gg) := rfl
  refine ok_bnd (fun v1 e18 => ?_)
  have t_v1 : v1.toInt = 301 * (I 5).toInt := ti_mul e18 (show (301 : Int32).toInt = 301 from rfl) rfl (by omega) (by omega)
  refine ok_chk (ti_in (by omega) (by omega)) ?_
  refine ok_bnd (fun v2 e19 => ?_)
  have b_v2 := tA_14 hA ((v1).toNatClampNeg)
  rw [← e19] at b_v2
  refine ok_if (fun c20 => ?_) (fun c20 => ?_)
  ·
    replace c20 := ti_leP c20 rfl (show (0 : Int32).toInt = 0 from rfl)
    exact t_write_238 (gg := gg)    hI hA q0 q1 q2 (by omega)
  ·
    replace c20 := ti_leN c20 rfl (show (0 : Int32).toInt = 0 from rfl)
    refine ok_bnd (fun v3 e21 => ?_)
    have t_v3 : v3.toInt = 301 * (I 5).toInt := ti_mul e21 (show (301 : Int32).toInt = 301 from rfl) rfl (by omega) (by omega)
    obtain ⟨⟨r4, Ic4, Ac4⟩, h_r4, hI_Ic4, hA_Ac4, p_r4_0⟩ := t_sayRemark (x1 := v3)  hI hA (by omega) (show (I 3).toInt ≤ (I 3).toInt ∧ (I 3).toInt ≤ 79700 from ⟨Int.le_refl _, by omega⟩)
    replace hI_Ic4 : TJ Ic4 := hI_Ic4
    replace hA_Ac4 : TK Ac4 := hA_Ac4
    dsimp only at p_r4_0
    refine ok_clR h_r4 ?_
    have f_r4 := fw_sayRemark h_r4
    have : (Ic4 5).toInt = (I 5).toInt := congrArg Int32.toInt (f_r4.1 5 (by decide))
    have : (Ic4 6).toInt = (I 6).toInt := congrArg Int32.toInt (f_r4.1 6 (by decide))
    have : (Ic4 29).toInt = (I 29).toInt := congrArg Int32.toInt (f_r4.1 29 (by decide))
    have k22 : TRE Ac4 gg := TRE_fr (f_r4.2 7 (by decide)) (f_r4.2 8 (by decide)) (f_r4.2 9 (by decide)) (f_r4.2 10 (by decide)) (f_r4.2 11 (by decide)) q0
    have k23 : cK Ac4 gg (aK A gg) := cK_fr (f_r4.2 7 (by decide)) ck0
    have b_Ic4_3 := tI_3 hI_Ic4
    obtain ⟨⟨r5, Ic5, Ac5⟩, h_r5, hI_Ic5, hA_Ac5, p_r5_0⟩ := t_ink (x1 := (32 : Int32))  hI_Ic4 hA_Ac4 (by have z0 : (32 : Int32).toInt = 32 := rfl; omega)
    replace hI_Ic5 : TJ Ic5 := hI_Ic5
    replace hA_Ac5 : TK Ac5 := hA_Ac5
    dsimp only at p_r5_0
    refine ok_clR h_r5 ?_
    have f_r5 := fw_ink h_r5
    have : (Ic5 5).toInt = (Ic4 5).toInt := congrArg Int32.toInt (f_r5.1 5 (by decide))
    have : (Ic5 6).toInt = (Ic4 6).toInt := congrArg Int32.toInt (f_r5.1 6 (by decide))
    have : (Ic5 29).toInt = (Ic4 29).toInt := congrArg Int32.toInt (f_r5.1 29 (by decide))
    have k24 : TRE Ac5 gg := TRE_fr (f_r5.2 7 (by decide)) (f_r5.2 8 (by decide)) (f_r5.2 9 (by decide)) (f_r5.2 10 (by decide)) (f_r5.2 11 (by decide)) k22
    have k25 : cK Ac5 gg (aK A gg) := cK_fr (f_r5.2 7 (by decide)) k23
    have b_Ic5_5 := tI_5 hI_Ic5
    have b_Ic5_6 := tI_6 hI_Ic5
    have b_Ic5_3 := tI_3 hI_Ic5
    exact t_write_238 (gg := gg)    hI_Ic5 hA_Ac5 k24 (by omega) (by have z := k25; unfold cK at z; omega) (by omega)
theorem t_write_151 {gg : Nat} {I : Nat → Int32} {A : Nat → Nat → Int32} {self12 : Int32 → (Nat → Int32) → (Nat → Nat → Int32) → Option (Int32 × MS)} {N12 : Nat} (hself12 : ∀ (x1 : Int32) (I : Nat → Int32) (A : Nat → Nat → Int32), TJ I → TK A → ((0 : Int) ≤ x1.toInt ∧ x1.toInt ≤ (8 : Int)) → (TRE A gg) → ((I 5).toInt = (gg : Int)) → ((I 6).toInt ≤ (aK A gg : Int)) → ((I 3).toInt ≤ 215 * x1.toInt) → (9 - x1.toInt) < (N12 : Int) → Ok (self12 x1 I A) (fun o => TJ o.2.1 ∧ TK o.2.2 ∧ ((0 : Int) ≤ o.1.toInt ∧ o.1.toInt ≤ (80000 : Int)) ∧ (RIv o.2.1 o.2.2))) {self94 : Int32 → Int32 → (Nat → Int32) → (Nat → Nat → Int32) → Option (Int32 × MS)} {N94 : Nat} (hself94 : ∀ (x1 : Int32) (x2 : Int32) (I : Nat → Int32) (A : Nat → Nat → Int32), TJ I → TK A → ((0 : Int) ≤ x1.toInt ∧ x1.toInt ≤ (7 : Int)) → ((0 : Int) ≤ x2.toInt ∧ x2.toInt ≤ (96 : Int)) → (TRE A gg) → ((I 5).toInt = (gg : Int)) → ((I 6).toInt ≤ (aK A gg : Int)) → ((I 3).toInt ≤ 215 * x1.toInt + 15 + 2 * x2.toInt) → ((9 - x1.toInt) ≤ (N12 : Int)) → (97 - x2.toInt) < (N94 : Int) → Ok (self94 x1 x2 I A) (fun o => TJ o.2.1 ∧ TK o.2.2 ∧ ((0 : Int) ≤ o.1.toInt ∧ o.1.toInt ≤ (80000 : Int)) ∧ (RIv o.2.1 o.2.2))) {x1 : Int32} {x2 : Int32} {x3 : Int32} (hI : TJ I) (hA : TK A) (r_x1 : (0 : Int) ≤ x1.toInt ∧ x1.toInt ≤ (7 : Int)) (r_x2 : (0 : Int) ≤ x2.toInt ∧ x2.toInt ≤ (95 : Int)) (q0 : TRE A gg) (q1 : (I 5).toInt = (gg : Int)) (q2 : (I 6).toInt ≤ (aK A gg : Int)) (q3 : (I 3).toInt ≤ 215 * x1.toInt + 15 + 2 * x2.toInt + 1) (m12 : (9 - x1.toInt) ≤ (N12 : Int)) (m94 : (97 - x2.toInt) ≤ (N94 : Int)) : Ok (f_write_151 self12 self94 x1 x2 x3 I A) (fun o => TJ o.2.1 ∧ TK o.2.2 ∧ ((0 : Int) ≤ o.1.toInt ∧ o.1.toInt ≤ (80000 : Int)) ∧ (RIv o.2.1 o.2.2)) := by
  unfold f_write_151
  have b_I_3 := tI_3 hI
  have b_I_5 := tI_5 hI
  have b_I_6 := tI_6 hI
  have b_I_29 := tI_29 hI
  have ck0 : cK A gg (aK A gg) := rfl
  obtain ⟨⟨r1, Ic1, Ac1⟩, h_r1, hI_Ic1, hA_Ac1, p_r1_0⟩ := t_ink (x1 := x3)  hI hA (by omega)
  replace hI_Ic1 : TJ Ic1 := hI_Ic1
  replace hA_Ac1 : TK Ac1 := hA_Ac1
  dsimp only at p_r1_0
  refine ok_clR h_r1 ?_
  have f_r1 := fw_ink h_r1
  have : (Ic1 5).toInt = (I 5).toInt := congrArg Int32.toInt (f_r1.1 5 (by decide))
  have : (Ic1 6).toInt = (I 6).toInt := congrArg Int32.toInt (f_r1.1 6 (by decide))
  have : (Ic1 29).toInt = (I 29).toInt := congrArg Int32.toInt (f_r1.1 29 (by decide))
  have k26 : TRE Ac1 gg := TRE_fr (f_r1.2 7 (by decide)) (f_r1.2 8 (by decide)) (f_r1.2 9 (by decide)) (f_r1.2 10 (by decide)) (f_r1.2 11 (by decide)) q0
  have k27 : cK Ac1 gg (aK A gg) := cK_fr (f_r1.2 7 (by decide)) ck0
  refine ok_bnd (fun v2 e28 => ?_)
  have t_v2 : v2.toInt = x2.toInt + 1 := ti_add e28 rfl (show (1 : Int32).toInt = 1 from rfl) (by omega) (by omega)
  have b_Ic1_5 := tI_5 hI_Ic1
  have b_Ic1_6 := tI_6 hI_Ic1
  have b_Ic1_3 := tI_3 hI_Ic1
  exact hself94 x1 v2 Ic1 Ac1 hI_Ic1 hA_Ac1 r_x1 (by omega) k26 (by omega) (by have z := k27; unfold cK at z; omega) (by omega) m12 (by omega)
theorem t_write_94s {gg : Nat} {I : Nat → Int32} {A : Nat → Nat → Int32} {self12 : Int32 → (Nat → Int32) → (Nat → Nat → Int32) → Option (Int32 × MS)} {N12 : Nat} (hself12 : ∀ (x1 : Int32) (I : Nat → Int32) (A : Nat → Nat → Int32), TJ I → TK A → ((0 : Int) ≤ x1.toInt ∧ x1.toInt ≤ (8 : Int)) → (TRE A gg) → ((I 5).toInt = (gg : Int)) → ((I 6).toInt ≤ (aK A gg : Int)) → ((I 3).toInt ≤ 215 * x1.toInt) → (9 - x1.toInt) < (N12 : Int) → Ok (self12 x1 I A) (fun o => TJ o.2.1 ∧ TK o.2.2 ∧ ((0 : Int) ≤ o.1.toInt ∧ o.1.toInt ≤ (80000 : Int)) ∧ (RIv o.2.1 o.2.2))) {self94 : Int32 → Int32 → (Nat → Int32) → (Nat → Nat → Int32) → Option (Int32 × MS)} {N94 : Nat} (hself94 : ∀ (x1 : Int32) (x2 : Int32) (I : Nat → Int32) (A : Nat → Nat → Int32), TJ I → TK A → ((0 : Int) ≤ x1.toInt ∧ x1.toInt ≤ (7 : Int)) → ((0 : Int) ≤ x2.toInt ∧ x2.toInt ≤ (96 : Int)) → (TRE A gg) → ((I 5).toInt = (gg : Int)) → ((I 6).toInt ≤ (aK A gg : Int)) → ((I 3).toInt ≤ 215 * x1.toInt + 15 + 2 * x2.toInt) → ((9 - x1.toInt) ≤ (N12 : Int)) → (97 - x2.toInt) < (N94 : Int) → Ok (self94 x1 x2 I A) (fun o => TJ o.2.1 ∧ TK o.2.2 ∧ ((0 : Int) ≤ o.1.toInt ∧ o.1.toInt ≤ (80000 : Int)) ∧ (RIv o.2.1 o.2.2))) {x1 : Int32} {x2 : Int32} (hI : TJ I) (hA : TK A) (r_x1 : (0 : Int) ≤ x1.toInt ∧ x1.toInt ≤ (7 : Int)) (r_x2 : (0 : Int) ≤ x2.toInt ∧ x2.toInt ≤ (96 : Int)) (q0 : TRE A gg) (q1 : (I 5).toInt = (gg : Int)) (q2 : (I 6).toInt ≤ (aK A gg : Int)) (q3 : (I 3).toInt ≤ 215 * x1.toInt + 15 + 2 * x2.toInt) (m12 : (9 - x1.toInt) ≤ (N12 : Int)) (m94 : (97 - x2.toInt) ≤ (N94 : Int)) : Ok (f_write_94s self12 self94 x1 x2 I A) (fun o => TJ o.2.1 ∧ TK o.2.2 ∧ ((0 : Int) ≤ o.1.toInt ∧ o.1.toInt ≤ (80000 : Int)) ∧ (RIv o.2.1 o.2.2)) := by
  unfold f_write_94s
  have b_I_3 := tI_3 hI
  have b_I_5 := tI_5 hI
  have b_I_6 := tI_6 hI
  have b_I_29 := tI_29 hI
  have ck0 : cK A gg (aK A gg) := rfl
  refine ok_bnd (fun v1 e29 => ?_)
  have t_v1 : v1.toInt = 8 * (I 5).toInt := ti_mul e29 (show (8 : Int32).toInt = 8 from rfl) rfl (by omega) (by omega)
  refine ok_bnd (fun v2 e30 => ?_)
  have t_v2 : v2.toInt = v1.toInt + x1.toInt := ti_add e30 rfl rfl (by omega) (by omega)
  refine ok_chk (ti_in (by omega) (by omega)) ?_
  refine ok_bnd (fun v3 e31 => ?_)
  have b_v3 := tA_21 hA ((v2).toNatClampNeg)
  rw [← e31] at b_v3
  refine ok_if (fun c32 => ?_) (fun c32 => ?_)
  ·
    replace c32 := ti_leP c32 rfl rfl
    obtain ⟨⟨r4, Ic4, Ac4⟩, h_r4, hI_Ic4, hA_Ac4, p_r4_0⟩ := t_ink (x1 := (34 : Int32))  hI hA (by have z0 : (34 : Int32).toInt = 34 := rfl; omega)
    replace hI_Ic4 : TJ Ic4 := hI_Ic4
    replace hA_Ac4 : TK Ac4 := hA_Ac4
    dsimp only at p_r4_0
    refine ok_clR h_r4 ?_
    have f_r4 := fw_ink h_r4
    have : (Ic4 5).toInt = (I 5).toInt := congrArg Int32.toInt (f_r4.1 5 (by decide))
    have : (Ic4 6).toInt = (I 6).toInt := congrArg Int32.toInt (f_r4.1 6 (by decide))
    have : (Ic4 29).toInt = (I 29).toInt := congrArg Int32.toInt (f_r4.1 29 (by decide))
    have k33 : TRE Ac4 gg := TRE_fr (f_r4.2 7 (by decide)) (f_r4.2 8 (by decide)) (f_r4.2 9 (by decide)) (f_r4.2 10 (by decide)) (f_r4.2 11 (by decide)) q0
    have k34 : cK Ac4 gg (aK A gg) := cK_fr (f_r4.2 7 (by decide)) ck0
    have b_Ic4_3 := tI_3 hI_Ic4
    obtain ⟨⟨r5, Ic5, Ac5⟩, h_r5, hI_Ic5, hA_Ac5, p_r5_0⟩ := t_ink (x1 := (93 : Int32))  hI_Ic4 hA_Ac4 (by have z0 : (93 : Int32).toInt = 93 := rfl; omega)
    replace hI_Ic5 : TJ Ic5 := hI_Ic5
    replace hA_Ac5 : TK Ac5 := hA_Ac5
    dsimp only at p_r5_0
    refine ok_clR h_r5 ?_
    have f_r5 := fw_ink h_r5
    have : (Ic5 5).toInt = (Ic4 5).toInt := congrArg Int32.toInt (f_r5.1 5 (by decide))
    have : (Ic5 6).toInt = (Ic4 6).toInt := congrArg Int32.toInt (f_r5.1 6 (by decide))
    have : (Ic5 29).toInt = (Ic4 29).toInt := congrArg Int32.toInt (f_r5.1 29 (by decide))
    have k35 : TRE Ac5 gg := TRE_fr (f_r5.2 7 (by decide)) (f_r5.2 8 (by decide)) (f_r5.2 9 (by decide)) (f_r5.2 10 (by decide)) (f_r5.2 11 (by decide)) k33
    have k36 : cK Ac5 gg (aK A gg) := cK_fr (f_r5.2 7 (by decide)) k34
    have b_Ic5_3 := tI_3 hI_Ic5
    obtain ⟨⟨r6, Ic6, Ac6⟩, h_r6, hI_Ic6, hA_Ac6, p_r6_0⟩ := t_ink (x1 := (10 : Int32))  hI_Ic5 hA_Ac5 (by have z0 : (10 : Int32).toInt = 10 := rfl; omega)
    replace hI_Ic6 : TJ Ic6 := hI_Ic6
    replace hA_Ac6 : TK Ac6 := hA_Ac6
    dsimp only at p_r6_0
    refine ok_clR h_r6 ?_
    have f_r6 := fw_ink h_r6
    have : (Ic6 5).toInt = (Ic5 5).toInt := congrArg Int32.toInt (f_r6.1 5 (by decide))
    have : (Ic6 6).toInt = (Ic5 6).toInt := congrArg Int32.toInt (f_r6.1 6 (by decide))
    have : (Ic6 29).toInt = (Ic5 29).toInt := congrArg Int32.toInt (f_r6.1 29 (by decide))
    have k37 : TRE Ac6 gg := TRE_fr (f_r6.2 7 (by decide)) (f_r6.2 8 (by decide)) (f_r6.2 9 (by decide)) (f_r6.2 10 (by decide)) (f_r6.2 11 (by decide)) k35
    have k38 : cK Ac6 gg (aK A gg) := cK_fr (f_r6.2 7 (by decide)) k36
    refine ok_bnd (fun v7 e39 => ?_)
    have t_v7 : v7.toInt = x1.toInt + 1 := ti_add e39 rfl (show (1 : Int32).toInt = 1 from rfl) (by omega) (by omega)
    have b_Ic6_5 := tI_5 hI_Ic6
    have b_Ic6_6 := tI_6 hI_Ic6
    have b_Ic6_3 := tI_3 hI_Ic6
    exact hself12 v7 Ic6 Ac6 hI_Ic6 hA_Ac6 (by omega) k37 (by omega) (by have z := k38; unfold cK at z; omega) (by omega) (by omega)
  ·
    replace c32 := ti_leN c32 rfl rfl
    refine ok_bnd (fun v8 e40 => ?_)
    have t_v8 : v8.toInt = 768 * (I 5).toInt := ti_mul e40 (show (768 : Int32).toInt = 768 from rfl) rfl (by omega) (by omega)
    refine ok_bnd (fun v9 e41 => ?_)
    have t_v9 : v9.toInt = 96 * x1.toInt := ti_mul e41 (show (96 : Int32).toInt = 96 from rfl) rfl (by omega) (by omega)
    refine ok_bnd (fun v10 e42 => ?_)
    have t_v10 : v10.toInt = v8.toInt + v9.toInt := ti_add e42 rfl rfl (by omega) (by omega)
    refine ok_bnd (fun v11 e43 => ?_)
    have t_v11 : v11.toInt = v10.toInt + x2.toInt := ti_add e43 rfl rfl (by omega) (by omega)
    refine ok_chk (ti_in (by omega) (by omega)) ?_
    refine ok_bnd (fun v12 e44 => ?_)
    have b_v12 := tA_22 hA ((v11).toNatClampNeg)
    rw [← e44] at b_v12
    refine ok_if (fun c45 => ?_) (fun c45 => ?_)
    ·
      replace c45 := ti_eqP c45 rfl (show (34 : Int32).toInt = 34 from rfl)
      unfold f_write_145
      obtain ⟨⟨r1, Ic1, Ac1⟩, h_r1, hI_Ic1, hA_Ac1, p_r1_0⟩ := t_ink (x1 := (92 : Int32))  hI hA (by have z0 : (92 : Int32).toInt = 92 := rfl; omega)
      replace hI_Ic1 : TJ Ic1 := hI_Ic1
      replace hA_Ac1 : TK Ac1 := hA_Ac1
      dsimp only at p_r1_0
      refine ok_clR h_r1 ?_
      have f_r1 := fw_ink h_r1
      have : (Ic1 5).toInt = (I 5).toInt := congrArg Int32.toInt (f_r1.1 5 (by decide))
      have : (Ic1 6).toInt = (I 6).toInt := congrArg Int32.toInt (f_r1.1 6 (by decide))
      have : (Ic1 29).toInt = (I 29).toInt := congrArg Int32.toInt (f_r1.1 29 (by decide))
      have k46 : TRE Ac1 gg := TRE_fr (f_r1.2 7 (by decide)) (f_r1.2 8 (by decide)) (f_r1.2 9 (by decide)) (f_r1.2 10 (by decide)) (f_r1.2 11 (by decide)) q0
      have k47 : cK Ac1 gg (aK A gg) := cK_fr (f_r1.2 7 (by decide)) ck0
      have b_Ic1_5 := tI_5 hI_Ic1
      have b_Ic1_6 := tI_6 hI_Ic1
      have b_Ic1_3 := tI_3 hI_Ic1
      exact t_write_151 (gg := gg)  hself12 hself94 (x1 := x1) (x2 := x2) (x3 := v12) hI_Ic1 hA_Ac1 r_x1 (by omega) k46 (by omega) (by have z := k47; unfold cK at z; omega) (by omega) m12 m94
    ·
      replace c45 := ti_eqN c45 rfl (show (34 : Int32).toInt = 34 from rfl)
      refine ok_if (fun c48 => ?_) (fun c48 => ?_)
      ·
        replace c48 := ti_eqP c48 rfl (show (92 : Int32).toInt = 92 from rfl)
        unfold f_write_145
        obtain ⟨⟨r1, Ic1, Ac1⟩, h_r1, hI_Ic1, hA_Ac1, p_r1_0⟩ := t_ink (x1 := (92 : Int32))  hI hA (by have z0 : (92 : Int32).toInt = 92 := rfl; omega)
        replace hI_Ic1 : TJ Ic1 := hI_Ic1
        replace hA_Ac1 : TK Ac1 := hA_Ac1
        dsimp only at p_r1_0
        refine ok_clR h_r1 ?_
        have f_r1 := fw_ink h_r1
        have : (Ic1 5).toInt = (I 5).toInt := congrArg Int32.toInt (f_r1.1 5 (by decide))
        have : (Ic1 6).toInt = (I 6).toInt := congrArg Int32.toInt (f_r1.1 6 (by decide))
        have : (Ic1 29).toInt = (I 29).toInt := congrArg Int32.toInt (f_r1.1 29 (by decide))
        have k49 : TRE Ac1 gg := TRE_fr (f_r1.2 7 (by decide)) (f_r1.2 8 (by decide)) (f_r1.2 9 (by decide)) (f_r1.2 10 (by decide)) (f_r1.2 11 (by decide)) q0
        have k50 : cK Ac1 gg (aK A gg) := cK_fr (f_r1.2 7 (by decide)) ck0
        have b_Ic1_5 := tI_5 hI_Ic1
        have b_Ic1_6 := tI_6 hI_Ic1
        have b_Ic1_3 := tI_3 hI_Ic1
        exact t_write_151 (gg := gg)  hself12 hself94 (x1 := x1) (x2 := x2) (x3 := v12) hI_Ic1 hA_Ac1 r_x1 (by omega) k49 (by omega) (by have z := k50; unfold cK at z; omega) (by omega) m12 m94
      ·
        replace c48 := ti_eqN c48 rfl (show (92 : Int32).toInt = 92 from rfl)
        exact t_write_151 (gg := gg)  hself12 hself94 (x1 := x1) (x2 := x2) (x3 := v12) hI hA r_x1 (by omega) q0 q1 q2 (by omega) m12 m94
theorem t_write_94 {gg : Nat} {self12 : Int32 → (Nat → Int32) → (Nat → Nat → Int32) → Option (Int32 × MS)} {N12 : Nat} (hself12 : ∀ (x1 : Int32) (I : Nat → Int32) (A : Nat → Nat → Int32), TJ I → TK A → ((0 : Int) ≤ x1.toInt ∧ x1.toInt ≤ (8 : Int)) → (TRE A gg) → ((I 5).toInt = (gg : Int)) → ((I 6).toInt ≤ (aK A gg : Int)) → ((I 3).toInt ≤ 215 * x1.toInt) → (9 - x1.toInt) < (N12 : Int) → Ok (self12 x1 I A) (fun o => TJ o.2.1 ∧ TK o.2.2 ∧ ((0 : Int) ≤ o.1.toInt ∧ o.1.toInt ≤ (80000 : Int)) ∧ (RIv o.2.1 o.2.2))) : ∀ (n : Nat) (x1 : Int32) (x2 : Int32) (I : Nat → Int32) (A : Nat → Nat → Int32), TJ I → TK A → ((0 : Int) ≤ x1.toInt ∧ x1.toInt ≤ (7 : Int)) → ((0 : Int) ≤ x2.toInt ∧ x2.toInt ≤ (96 : Int)) → (TRE A gg) → ((I 5).toInt = (gg : Int)) → ((I 6).toInt ≤ (aK A gg : Int)) → ((I 3).toInt ≤ 215 * x1.toInt + 15 + 2 * x2.toInt) → ((9 - x1.toInt) ≤ (N12 : Int)) → (97 - x2.toInt) < (n : Int) → Ok (f_write_94 self12 n x1 x2 I A) (fun o => TJ o.2.1 ∧ TK o.2.2 ∧ ((0 : Int) ≤ o.1.toInt ∧ o.1.toInt ≤ (80000 : Int)) ∧ (RIv o.2.1 o.2.2)) := by
  intro n
  induction n with
  | zero => intro x1 x2 I A hI hA g0 g1 g2 g3 g4 g5 w0 hm; exfalso; omega
  | succ n ih =>
    intro x1 x2 I A hI hA g0 g1 g2 g3 g4 g5 w0 hm
    exact t_write_94s (gg := gg)  (N94 := n) hself12 ih hI hA g0 g1 g2 g3 g4 g5 w0 (by omega)
theorem t_write_33s {gg : Nat} {I : Nat → Int32} {A : Nat → Nat → Int32} {self12 : Int32 → (Nat → Int32) → (Nat → Nat → Int32) → Option (Int32 × MS)} {N12 : Nat} (hself12 : ∀ (x1 : Int32) (I : Nat → Int32) (A : Nat → Nat → Int32), TJ I → TK A → ((0 : Int) ≤ x1.toInt ∧ x1.toInt ≤ (8 : Int)) → (TRE A gg) → ((I 5).toInt = (gg : Int)) → ((I 6).toInt ≤ (aK A gg : Int)) → ((I 3).toInt ≤ 215 * x1.toInt) → (9 - x1.toInt) < (N12 : Int) → Ok (self12 x1 I A) (fun o => TJ o.2.1 ∧ TK o.2.2 ∧ ((0 : Int) ≤ o.1.toInt ∧ o.1.toInt ≤ (80000 : Int)) ∧ (RIv o.2.1 o.2.2))) {self33 : Int32 → Int32 → (Nat → Int32) → (Nat → Nat → Int32) → Option (Int32 × MS)} {N33 : Nat} (hself33 : ∀ (x1 : Int32) (x2 : Int32) (I : Nat → Int32) (A : Nat → Nat → Int32), TJ I → TK A → ((0 : Int) ≤ x1.toInt ∧ x1.toInt ≤ (7 : Int)) → ((0 : Int) ≤ x2.toInt ∧ x2.toInt ≤ (12 : Int)) → (TRE A gg) → ((I 5).toInt = (gg : Int)) → ((I 6).toInt ≤ (aK A gg : Int)) → ((I 3).toInt ≤ 215 * x1.toInt + 1 + x2.toInt) → ((9 - x1.toInt) ≤ (N12 : Int)) → (13 - x2.toInt) < (N33 : Int) → Ok (self33 x1 x2 I A) (fun o => TJ o.2.1 ∧ TK o.2.2 ∧ ((0 : Int) ≤ o.1.toInt ∧ o.1.toInt ≤ (80000 : Int)) ∧ (RIv o.2.1 o.2.2))) {x1 : Int32} {x2 : Int32} (hI : TJ I) (hA : TK A) (r_x1 : (0 : Int) ≤ x1.toInt ∧ x1.toInt ≤ (7 : Int)) (r_x2 : (0 : Int) ≤ x2.toInt ∧ x2.toInt ≤ (12 : Int)) (q0 : TRE A gg) (q1 : (I 5).toInt = (gg : Int)) (q2 : (I 6).toInt ≤ (aK A gg : Int)) (q3 : (I 3).toInt ≤ 215 * x1.toInt + 1 + x2.toInt) (m12 : (9 - x1.toInt) ≤ (N12 : Int)) (m33 : (13 - x2.toInt) ≤ (N33 : Int)) : Ok (f_write_33s self12 self33 x1 x2 I A) (fun o => TJ o.2.1 ∧ TK o.2.2 ∧ ((0 : Int) ≤ o.1.toInt ∧ o.1.toInt ≤ (80000 : Int)) ∧ (RIv o.2.1 o.2.2)) := by
  unfold f_write_33s
  have b_I_3 := tI_3 hI
  have b_I_5 := tI_5 hI
  have b_I_6 := tI_6 hI
  have b_I_29 := tI_29 hI
  have ck0 : cK A gg (aK A gg) := rfl
  refine ok_bnd (fun v1 e51 => ?_)
  have t_v1 : v1.toInt = 8 * (I 5).toInt := ti_mul e51 (show (8 : Int32).toInt = 8 from rfl) rfl (by omega) (by omega)
  refine ok_bnd (fun v2 e52 => ?_)
  have t_v2 : v2.toInt = v1.toInt + x1.toInt := ti_add e52 rfl rfl (by omega) (by omega)
  refine ok_chk (ti_in (by omega) (by omega)) ?_
  refine ok_bnd (fun v3 e53 => ?_)
  have b_v3 := tA_19 hA ((v2).toNatClampNeg)
  rw [← e53] at b_v3
  refine ok_if (fun c54 => ?_) (fun c54 => ?_)
  ·
    replace c54 := ti_leP c54 rfl rfl
    obtain ⟨⟨r4, Ic4, Ac4⟩, h_r4, hI_Ic4, hA_Ac4, p_r4_0⟩ := t_ink (x1 := (32 : Int32))  hI hA (by have z0 : (32 : Int32).toInt = 32 := rfl; omega)
    replace hI_Ic4 : TJ Ic4 := hI_Ic4
    replace hA_Ac4 : TK Ac4 := hA_Ac4
    dsimp only at p_r4_0
    refine ok_clR h_r4 ?_
    have f_r4 := fw_ink h_r4
    have : (Ic4 5).toInt = (I 5).toInt := congrArg Int32.toInt (f_r4.1 5 (by decide))
    have : (Ic4 6).toInt = (I 6).toInt := congrArg Int32.toInt (f_r4.1 6 (by decide))
    have : (Ic4 29).toInt = (I 29).toInt := congrArg Int32.toInt (f_r4.1 29 (by decide))
    have k55 : TRE Ac4 gg := TRE_fr (f_r4.2 7 (by decide)) (f_r4.2 8 (by decide)) (f_r4.2 9 (by decide)) (f_r4.2 10 (by decide)) (f_r4.2 11 (by decide)) q0
    have k56 : cK Ac4 gg (aK A gg) := cK_fr (f_r4.2 7 (by decide)) ck0
    have b_Ic4_3 := tI_3 hI_Ic4
    obtain ⟨⟨r5, Ic5, Ac5⟩, h_r5, hI_Ic5, hA_Ac5, p_r5_0⟩ := t_ink (x1 := (34 : Int32))  hI_Ic4 hA_Ac4 (by have z0 : (34 : Int32).toInt = 34 := rfl; omega)
    replace hI_Ic5 : TJ Ic5 := hI_Ic5
    replace hA_Ac5 : TK Ac5 := hA_Ac5
    dsimp only at p_r5_0
    refine ok_clR h_r5 ?_
    have f_r5 := fw_ink h_r5
    have : (Ic5 5).toInt = (Ic4 5).toInt := congrArg Int32.toInt (f_r5.1 5 (by decide))
    have : (Ic5 6).toInt = (Ic4 6).toInt := congrArg Int32.toInt (f_r5.1 6 (by decide))
    have : (Ic5 29).toInt = (Ic4 29).toInt := congrArg Int32.toInt (f_r5.1 29 (by decide))
    have k57 : TRE Ac5 gg := TRE_fr (f_r5.2 7 (by decide)) (f_r5.2 8 (by decide)) (f_r5.2 9 (by decide)) (f_r5.2 10 (by decide)) (f_r5.2 11 (by decide)) k55
    have k58 : cK Ac5 gg (aK A gg) := cK_fr (f_r5.2 7 (by decide)) k56
    have b_Ic5_5 := tI_5 hI_Ic5
    have b_Ic5_6 := tI_6 hI_Ic5
    have b_Ic5_3 := tI_3 hI_Ic5
    exact t_write_94 (gg := gg)  hself12  mFuel x1 (0 : Int32) Ic5 Ac5 hI_Ic5 hA_Ac5 r_x1 (by decide) k57 (by have z0 : (0 : Int32).toInt = 0 := rfl; omega) (by have z := k58; unfold cK at z; omega) (by have z0 : (0 : Int32).toInt = 0 := rfl; omega) m12 (by show _ < ((200000 : Nat) : Int); have z0 : (0 : Int32).toInt = 0 := rfl; omega)
  ·
    replace c54 := ti_leN c54 rfl rfl
    refine ok_bnd (fun v6 e59 => ?_)
    have t_v6 : v6.toInt = 96 * (I 5).toInt := ti_mul e59 (show (96 : Int32).toInt = 96 from rfl) rfl (by omega) (by omega)
    refine ok_bnd (fun v7 e60 => ?_)
    have t_v7 : v7.toInt = 12 * x1.toInt := ti_mul e60 (show (12 : Int32).toInt = 12 from rfl) rfl (by omega) (by omega)
    refine ok_bnd (fun v8 e61 => ?_)
    have t_v8 : v8.toInt = v6.toInt + v7.toInt := ti_add e61 rfl rfl (by omega) (by omega)
    refine ok_bnd (fun v9 e62 => ?_)
    have t_v9 : v9.toInt = v8.toInt + x2.toInt := ti_add e62 rfl rfl (by omega) (by omega)
    refine ok_chk (ti_in (by omega) (by omega)) ?_
    refine ok_bnd (fun v10 e63 => ?_)
    have b_v10 := tA_20 hA ((v9).toNatClampNeg)
    rw [← e63] at b_v10
    obtain ⟨⟨r11, Ic11, Ac11⟩, h_r11, hI_Ic11, hA_Ac11, p_r11_0⟩ := t_ink (x1 := v10)  hI hA (by omega)
    replace hI_Ic11 : TJ Ic11 := hI_Ic11
    replace hA_Ac11 : TK Ac11 := hA_Ac11
    dsimp only at p_r11_0
    refine ok_clR h_r11 ?_
    have f_r11 := fw_ink h_r11
    have : (Ic11 5).toInt = (I 5).toInt := congrArg Int32.toInt (f_r11.1 5 (by decide))
    have : (Ic11 6).toInt = (I 6).toInt := congrArg Int32.toInt (f_r11.1 6 (by decide))
    have : (Ic11 29).toInt = (I 29).toInt := congrArg Int32.toInt (f_r11.1 29 (by decide))
    have k64 : TRE Ac11 gg := TRE_fr (f_r11.2 7 (by decide)) (f_r11.2 8 (by decide)) (f_r11.2 9 (by decide)) (f_r11.2 10 (by decide)) (f_r11.2 11 (by decide)) q0
    have k65 : cK Ac11 gg (aK A gg) := cK_fr (f_r11.2 7 (by decide)) ck0
    refine ok_bnd (fun v12 e66 => ?_)
    have t_v12 : v12.toInt = x2.toInt + 1 := ti_add e66 rfl (show (1 : Int32).toInt = 1 from rfl) (by omega) (by omega)
    have b_Ic11_5 := tI_5 hI_Ic11
    have b_Ic11_6 := tI_6 hI_Ic11
    have b_Ic11_3 := tI_3 hI_Ic11
    exact hself33 x1 v12 Ic11 Ac11 hI_Ic11 hA_Ac11 r_x1 (by omega) k64 (by omega) (by have z := k65; unfold cK at z; omega) (by omega) m12 (by omega)
theorem t_write_33 {gg : Nat} {self12 : Int32 → (Nat → Int32) → (Nat → Nat → Int32) → Option (Int32 × MS)} {N12 : Nat} (hself12 : ∀ (x1 : Int32) (I : Nat → Int32) (A : Nat → Nat → Int32), TJ I → TK A → ((0 : Int) ≤ x1.toInt ∧ x1.toInt ≤ (8 : Int)) → (TRE A gg) → ((I 5).toInt = (gg : Int)) → ((I 6).toInt ≤ (aK A gg : Int)) → ((I 3).toInt ≤ 215 * x1.toInt) → (9 - x1.toInt) < (N12 : Int) → Ok (self12 x1 I A) (fun o => TJ o.2.1 ∧ TK o.2.2 ∧ ((0 : Int) ≤ o.1.toInt ∧ o.1.toInt ≤ (80000 : Int)) ∧ (RIv o.2.1 o.2.2))) : ∀ (n : Nat) (x1 : Int32) (x2 : Int32) (I : Nat → Int32) (A : Nat → Nat → Int32), TJ I → TK A → ((0 : Int) ≤ x1.toInt ∧ x1.toInt ≤ (7 : Int)) → ((0 : Int) ≤ x2.toInt ∧ x2.toInt ≤ (12 : Int)) → (TRE A gg) → ((I 5).toInt = (gg : Int)) → ((I 6).toInt ≤ (aK A gg : Int)) → ((I 3).toInt ≤ 215 * x1.toInt + 1 + x2.toInt) → ((9 - x1.toInt) ≤ (N12 : Int)) → (13 - x2.toInt) < (n : Int) → Ok (f_write_33 self12 n x1 x2 I A) (fun o => TJ o.2.1 ∧ TK o.2.2 ∧ ((0 : Int) ≤ o.1.toInt ∧ o.1.toInt ≤ (80000 : Int)) ∧ (RIv o.2.1 o.2.2)) := by
  intro n
  induction n with
  | zero => intro x1 x2 I A hI hA g0 g1 g2 g3 g4 g5 w0 hm; exfalso; omega
  | succ n ih =>
    intro x1 x2 I A hI hA g0 g1 g2 g3 g4 g5 w0 hm
    exact t_write_33s (gg := gg)  (N33 := n) hself12 ih hI hA g0 g1 g2 g3 g4 g5 w0 (by omega)
theorem t_write_12s {gg : Nat} {I : Nat → Int32} {A : Nat → Nat → Int32} {self12 : Int32 → (Nat → Int32) → (Nat → Nat → Int32) → Option (Int32 × MS)} {N12 : Nat} (hself12 : ∀ (x1 : Int32) (I : Nat → Int32) (A : Nat → Nat → Int32), TJ I → TK A → ((0 : Int) ≤ x1.toInt ∧ x1.toInt ≤ (8 : Int)) → (TRE A gg) → ((I 5).toInt = (gg : Int)) → ((I 6).toInt ≤ (aK A gg : Int)) → ((I 3).toInt ≤ 215 * x1.toInt) → (9 - x1.toInt) < (N12 : Int) → Ok (self12 x1 I A) (fun o => TJ o.2.1 ∧ TK o.2.2 ∧ ((0 : Int) ≤ o.1.toInt ∧ o.1.toInt ≤ (80000 : Int)) ∧ (RIv o.2.1 o.2.2))) {x1 : Int32} (hI : TJ I) (hA : TK A) (r_x1 : (0 : Int) ≤ x1.toInt ∧ x1.toInt ≤ (8 : Int)) (q0 : TRE A gg) (q1 : (I 5).toInt = (gg : Int)) (q2 : (I 6).toInt ≤ (aK A gg : Int)) (q3 : (I 3).toInt ≤ 215 * x1.toInt) (m12 : (9 - x1.toInt) ≤ (N12 : Int)) : Ok (f_write_12s self12 x1 I A) (fun o => TJ o.2.1 ∧ TK o.2.2 ∧ ((0 : Int) ≤ o.1.toInt ∧ o.1.toInt ≤ (80000 : Int)) ∧ (RIv o.2.1 o.2.2)) := by
  unfold f_write_12s
  have b_I_3 := tI_3 hI
  have b_I_5 := tI_5 hI
  have b_I_6 := tI_6 hI
  have b_I_29 := tI_29 hI
  have ck0 : cK A gg (aK A gg) := rfl
  refine ok_chk (ti_in (by omega) (by omega)) ?_
  refine ok_bnd (fun v1 e67 => ?_)
  have b_v1 := tA_18 hA (((I 5)).toNatClampNeg)
  rw [← e67] at b_v1
  refine ok_if (fun c68 => ?_) (fun c68 => ?_)
  ·
    replace c68 := ti_leP c68 rfl rfl
    refine ok_chk (ti_in (by omega) (by omega)) ?_
    refine ok_bnd (fun v2 e69 => ?_)
    have b_v2 := tA_18 hA (((I 5)).toNatClampNeg)
    rw [← e69] at b_v2
    refine ok_if (fun c70 => ?_) (fun c70 => ?_)
    ·
      replace c70 := ti_leP c70 rfl (show (0 : Int32).toInt = 0 from rfl)
      exact t_write_204 (gg := gg)    hI hA q0 q1 q2 (by omega)
    ·
      replace c70 := ti_leN c70 rfl (show (0 : Int32).toInt = 0 from rfl)
      obtain ⟨⟨r3, Ic3, Ac3⟩, h_r3, hI_Ic3, hA_Ac3, p_r3_0⟩ := t_ink (x1 := (10 : Int32))  hI hA (by have z0 : (10 : Int32).toInt = 10 := rfl; omega)
      replace hI_Ic3 : TJ Ic3 := hI_Ic3
      replace hA_Ac3 : TK Ac3 := hA_Ac3
      dsimp only at p_r3_0
      refine ok_clR h_r3 ?_
      have f_r3 := fw_ink h_r3
      have : (Ic3 5).toInt = (I 5).toInt := congrArg Int32.toInt (f_r3.1 5 (by decide))
      have : (Ic3 6).toInt = (I 6).toInt := congrArg Int32.toInt (f_r3.1 6 (by decide))
      have : (Ic3 29).toInt = (I 29).toInt := congrArg Int32.toInt (f_r3.1 29 (by decide))
      have k71 : TRE Ac3 gg := TRE_fr (f_r3.2 7 (by decide)) (f_r3.2 8 (by decide)) (f_r3.2 9 (by decide)) (f_r3.2 10 (by decide)) (f_r3.2 11 (by decide)) q0
      have k72 : cK Ac3 gg (aK A gg) := cK_fr (f_r3.2 7 (by decide)) ck0
      have b_Ic3_5 := tI_5 hI_Ic3
      have b_Ic3_6 := tI_6 hI_Ic3
      have b_Ic3_3 := tI_3 hI_Ic3
      exact t_write_204 (gg := gg)    hI_Ic3 hA_Ac3 k71 (by omega) (by have z := k72; unfold cK at z; omega) (by omega)
  ·
    replace c68 := ti_leN c68 rfl rfl
    obtain ⟨⟨r4, Ic4, Ac4⟩, h_r4, hI_Ic4, hA_Ac4, p_r4_0⟩ := t_ink (x1 := (91 : Int32))  hI hA (by have z0 : (91 : Int32).toInt = 91 := rfl; omega)
    replace hI_Ic4 : TJ Ic4 := hI_Ic4
    replace hA_Ac4 : TK Ac4 := hA_Ac4
    dsimp only at p_r4_0
    refine ok_clR h_r4 ?_
    have f_r4 := fw_ink h_r4
    have : (Ic4 5).toInt = (I 5).toInt := congrArg Int32.toInt (f_r4.1 5 (by decide))
    have : (Ic4 6).toInt = (I 6).toInt := congrArg Int32.toInt (f_r4.1 6 (by decide))
    have : (Ic4 29).toInt = (I 29).toInt := congrArg Int32.toInt (f_r4.1 29 (by decide))
    have k73 : TRE Ac4 gg := TRE_fr (f_r4.2 7 (by decide)) (f_r4.2 8 (by decide)) (f_r4.2 9 (by decide)) (f_r4.2 10 (by decide)) (f_r4.2 11 (by decide)) q0
    have k74 : cK Ac4 gg (aK A gg) := cK_fr (f_r4.2 7 (by decide)) ck0
    have b_Ic4_5 := tI_5 hI_Ic4
    have b_Ic4_6 := tI_6 hI_Ic4
    have b_Ic4_3 := tI_3 hI_Ic4
    exact t_write_33 (gg := gg)  hself12  mFuel x1 (0 : Int32) Ic4 Ac4 hI_Ic4 hA_Ac4 (by omega) (by decide) k73 (by have z0 : (0 : Int32).toInt = 0 := rfl; omega) (by have z := k74; unfold cK at z; omega) (by have z0 : (0 : Int32).toInt = 0 := rfl; omega) m12 (by show _ < ((200000 : Nat) : Int); have z0 : (0 : Int32).toInt = 0 := rfl; omega)
theorem t_write_12 {gg : Nat}  : ∀ (n : Nat) (x1 : Int32) (I : Nat → Int32) (A : Nat → Nat → Int32), TJ I → TK A → ((0 : Int) ≤ x1.toInt ∧ x1.toInt ≤ (8 : Int)) → (TRE A gg) → ((I 5).toInt = (gg : Int)) → ((I 6).toInt ≤ (aK A gg : Int)) → ((I 3).toInt ≤ 215 * x1.toInt) → (9 - x1.toInt) < (n : Int) → Ok (f_write_12  n x1 I A) (fun o => TJ o.2.1 ∧ TK o.2.2 ∧ ((0 : Int) ≤ o.1.toInt ∧ o.1.toInt ≤ (80000 : Int)) ∧ (RIv o.2.1 o.2.2)) := by
  intro n
  induction n with
  | zero => intro x1 I A hI hA g0 g1 g2 g3 g4  hm; exfalso; omega
  | succ n ih =>
    intro x1 I A hI hA g0 g1 g2 g3 g4  hm
    exact t_write_12s (gg := gg)  (N12 := n)  ih hI hA g0 g1 g2 g3 g4  (by omega)
theorem t_write_0 {gg : Nat} {I : Nat → Int32} {A : Nat → Nat → Int32} (hI : TJ I) (hA : TK A) (q0 : (I 5).toInt = (gg : Int)) (q1 : TRE A gg) (q2 : (I 6).toInt ≤ (aK A gg : Int)) : Ok (f_write_0 I A) (fun o => TJ o.2.1 ∧ TK o.2.2 ∧ ((0 : Int) ≤ o.1.toInt ∧ o.1.toInt ≤ (80000 : Int)) ∧ (RIv o.2.1 o.2.2)) := by
  unfold f_write_0
  have b_I_3 := tI_3 hI
  have b_I_5 := tI_5 hI
  have b_I_6 := tI_6 hI
  have b_I_29 := tI_29 hI
  have ck0 : cK A gg (aK A gg) := rfl
  refine ok_bnd (fun I1 e75 => ?_)
  have hI_I1 : TJ I1 := e75.symm ▸ tj_u hI (k := 0) (show (0 : Int) ≤ (0 : Int32).toInt from (by decide)) (show (0 : Int32).toInt ≤ (2 : Int) from (by decide))
  have : (I1 3).toInt = (I 3).toInt := by rw [e75]; rfl
  have : (I1 5).toInt = (I 5).toInt := by rw [e75]; rfl
  have : (I1 6).toInt = (I 6).toInt := by rw [e75]; rfl
  have : (I1 29).toInt = (I 29).toInt := by rw [e75]; rfl
  refine ok_bnd (fun I2 e76 => ?_)
  have hI_I2 : TJ I2 := e76.symm ▸ tj_u hI_I1 (k := 3) (show (0 : Int) ≤ (0 : Int32).toInt from (by decide)) (show (0 : Int32).toInt ≤ (80000 : Int) from (by decide))
  have : (I2 3).toInt = 0 := by rw [e76]; exact (show (0 : Int32).toInt = 0 from rfl)
  have : (I2 5).toInt = (I1 5).toInt := by rw [e76]; rfl
  have : (I2 6).toInt = (I1 6).toInt := by rw [e76]; rfl
  have : (I2 29).toInt = (I1 29).toInt := by rw [e76]; rfl
  have b_I2_5 := tI_5 hI_I2
  have b_I2_6 := tI_6 hI_I2
  have b_I2_3 := tI_3 hI_I2
  exact t_write_12 (gg := gg)    mFuel (0 : Int32) I2 A hI_I2 hA (by decide) q1 (by have z0 : (0 : Int32).toInt = 0 := rfl; omega) (by have z := ck0; unfold cK at z; omega) (by have z0 : (0 : Int32).toInt = 0 := rfl; omega) (by show _ < ((200000 : Nat) : Int); have z0 : (0 : Int32).toInt = 0 := rfl; omega)
theorem t_write {gg : Nat} {I : Nat → Int32} {A : Nat → Nat → Int32}  (hI : TJ I) (hA : TK A) (q0 : (I 5).toInt = (gg : Int)) (q1 : TRE A gg) (q2 : (I 6).toInt ≤ (aK A gg : Int)) : Ok (f_write  I A) (fun o => TJ o.2.1 ∧ TK o.2.2 ∧ ((0 : Int) ≤ o.1.toInt ∧ o.1.toInt ≤ (80000 : Int)) ∧ (RIv o.2.1 o.2.2)) := t_write_0 (gg := gg) hI hA q0 q1 q2
end
section
/-- what holds of the reference between calls -/
noncomputable def RIt (I : Nat → Int32) (A : Nat → Nat → Int32) : Prop := TJ I ∧ TK A ∧ RIv I A
theorem RIv_fr {I I' : Nat → Int32} {A A' : Nat → Nat → Int32} {WI WA : List Nat} (h : RIv I A) (f : FrS WI WA I A I' A') (h5 : 5 ∉ WI) (h6 : 6 ∉ WI) (h29 : (I' 29).toInt ≤ 1999) (a7 : 7 ∉ WA) (a8 : 8 ∉ WA) (a9 : 9 ∉ WA) (a10 : 10 ∉ WA) (a11 : 11 ∉ WA) : RIv I' A' := by
  unfold RIv
  have e5 := f.1 5 h5
  have e6 := f.1 6 h6
  have e7 := f.2 7 a7
  rw [e5, e6]
  refine ⟨TRE_fr e7 (f.2 8 a8) (f.2 9 a9) (f.2 10 a10) (f.2 11 a11) h.1, ?_, h29⟩
  have : aK A' (I 5).toInt.toNat = aK A (I 5).toInt.toNat := by unfold aK; rw [e7]
  rw [this]
  exact h.2.1
theorem ri_type {I : Nat → Int32} {A : Nat → Nat → Int32} {x1 : Int64} {x3 : Int32} (h : RIt I A) : Ok (f_type x1 x3 I A) (fun o => RIt o.2.1 o.2.2) := by
  obtain ⟨o, h1, hI, hA, -⟩ := t_type (x1 := x1) (x3 := x3) h.1 h.2.1 
  exact ⟨o, h1, ⟨hI, hA, RIv_fr h.2.2 (fw_type h1) (by decide) (by decide) (by rw [(fw_type h1).1 29 (by decide)]; exact h.2.2.2.2) (by decide) (by decide) (by decide) (by decide) (by decide)⟩⟩
theorem ri_cut {I : Nat → Int32} {A : Nat → Nat → Int32} {x1 : Int32} (h : RIt I A) : Ok (f_cut x1 I A) (fun o => RIt o.2.1 o.2.2) := by
  obtain ⟨o, h1, hI, hA, -⟩ := t_cut (x1 := x1) h.1 h.2.1 
  exact ⟨o, h1, ⟨hI, hA, RIv_fr h.2.2 (fw_cut h1) (by decide) (by decide) (by rw [(fw_cut h1).1 29 (by decide)]; exact h.2.2.2.2) (by decide) (by decide) (by decide) (by decide) (by decide)⟩⟩
theorem ri_read {I : Nat → Int32} {A : Nat → Nat → Int32}  (h : RIt I A) : Ok (f_read  I A) (fun o => RIt o.2.1 o.2.2) := by
  obtain ⟨o, h1, hI, hA, -, p⟩ := t_read (gg := (I 5).toInt.toNat) h.1 h.2.1 (by have := tI_5 h.1; omega) h.2.2.1 h.2.2.2.1
  exact ⟨o, h1, hI, hA, p⟩
theorem ri_find {I : Nat → Int32} {A : Nat → Nat → Int32}  (h : RIt I A) : Ok (f_find  I A) (fun o => RIt o.2.1 o.2.2) := by
  obtain ⟨o, h1, hI, hA, -, p0⟩ := t_find  h.1 h.2.1 h.2.2.2.2
  exact ⟨o, h1, ⟨hI, hA, RIv_fr h.2.2 (fw_find h1) (by decide) (by decide) p0 (by decide) (by decide) (by decide) (by decide) (by decide)⟩⟩
theorem ri_write {I : Nat → Int32} {A : Nat → Nat → Int32}  (h : RIt I A) : Ok (f_write  I A) (fun o => RIt o.2.1 o.2.2) := by
  obtain ⟨o, h1, hI, hA, -, p⟩ := t_write (gg := (I 5).toInt.toNat) h.1 h.2.1 (by have := tI_5 h.1; omega) h.2.2.1 h.2.2.2.1
  exact ⟨o, h1, hI, hA, p⟩
theorem ri_signs {I : Nat → Int32} {A : Nat → Nat → Int32} {x1 : Int32} (h : RIt I A) : Ok (f_signs x1 I A) (fun o => RIt o.2.1 o.2.2) := by
  obtain ⟨o, h1, hI, hA, -, p0⟩ := t_signs (x1 := x1) h.1 h.2.1 h.2.2.2.2
  exact ⟨o, h1, ⟨hI, hA, RIv_fr h.2.2 (fw_signs h1) (by decide) (by decide) p0 (by decide) (by decide) (by decide) (by decide) (by decide)⟩⟩
theorem ri_out {I : Nat → Int32} {A : Nat → Nat → Int32} {x1 : Int32} (h : RIt I A) : Ok (f_out x1 I A) (fun o => RIt o.2.1 o.2.2) := by
  obtain ⟨o, h1, hI, hA, -⟩ := t_out (x1 := x1) h.1 h.2.1 
  exact ⟨o, h1, ⟨hI, hA, RIv_fr h.2.2 (fw_out h1) (by decide) (by decide) (by rw [(fw_out h1).1 29 (by decide)]; exact h.2.2.2.2) (by decide) (by decide) (by decide) (by decide) (by decide)⟩⟩
theorem ri_nodes {I : Nat → Int32} {A : Nat → Nat → Int32}  (h : RIt I A) : Ok (f_nodes  I A) (fun o => RIt o.2.1 o.2.2) := by
  obtain ⟨o, h1, hI, hA, -⟩ := t_nodes  h.1 h.2.1 
  exact ⟨o, h1, ⟨hI, hA, RIv_fr h.2.2 (fw_nodes h1) (by decide) (by decide) (by rw [(fw_nodes h1).1 29 (by decide)]; exact h.2.2.2.2) (by decide) (by decide) (by decide) (by decide) (by decide)⟩⟩
theorem ri_node {I : Nat → Int32} {A : Nat → Nat → Int32} {x1 : Int32} {x2 : Int32} (h : RIt I A) : Ok (f_node x1 x2 I A) (fun o => RIt o.2.1 o.2.2) := by
  obtain ⟨o, h1, hI, hA, -⟩ := t_node (x1 := x1) (x2 := x2) h.1 h.2.1 
  exact ⟨o, h1, ⟨hI, hA, RIv_fr h.2.2 (fw_node h1) (by decide) (by decide) (by rw [(fw_node h1).1 29 (by decide)]; exact h.2.2.2.2) (by decide) (by decide) (by decide) (by decide) (by decide)⟩⟩
theorem ri_mark {I : Nat → Int32} {A : Nat → Nat → Int32} {x1 : Int32} {x2 : Int32} (h : RIt I A) : Ok (f_mark x1 x2 I A) (fun o => RIt o.2.1 o.2.2) := by
  obtain ⟨o, h1, hI, hA, -⟩ := t_mark (x1 := x1) (x2 := x2) h.1 h.2.1 
  exact ⟨o, h1, ⟨hI, hA, RIv_fr h.2.2 (fw_mark h1) (by decide) (by decide) (by rw [(fw_mark h1).1 29 (by decide)]; exact h.2.2.2.2) (by decide) (by decide) (by decide) (by decide) (by decide)⟩⟩
theorem ri_remark {I : Nat → Int32} {A : Nat → Nat → Int32} {x1 : Int32} {x2 : Int32} (h : RIt I A) : Ok (f_remark x1 x2 I A) (fun o => RIt o.2.1 o.2.2) := by
  obtain ⟨o, h1, hI, hA, -⟩ := t_remark (x1 := x1) (x2 := x2) h.1 h.2.1 
  exact ⟨o, h1, ⟨hI, hA, RIv_fr h.2.2 (fw_remark h1) (by decide) (by decide) (by rw [(fw_remark h1).1 29 (by decide)]; exact h.2.2.2.2) (by decide) (by decide) (by decide) (by decide) (by decide)⟩⟩
theorem ri_here {I : Nat → Int32} {A : Nat → Nat → Int32}  (h : RIt I A) : Ok (f_here  I A) (fun o => RIt o.2.1 o.2.2) := by
  obtain ⟨o, h1, hI, hA, -⟩ := t_here  h.1 h.2.1 
  exact ⟨o, h1, ⟨hI, hA, RIv_fr h.2.2 (fw_here h1) (by decide) (by decide) (by rw [(fw_here h1).1 29 (by decide)]; exact h.2.2.2.2) (by decide) (by decide) (by decide) (by decide) (by decide)⟩⟩
theorem ri_go {I : Nat → Int32} {A : Nat → Nat → Int32} {x1 : Int32} (h : RIt I A) : Ok (f_go x1 I A) (fun o => RIt o.2.1 o.2.2) := by
  obtain ⟨o, h1, hI, hA, p⟩ := t_go (gg := (I 5).toInt.toNat) h.1 h.2.1 (by have := tI_5 h.1; omega) h.2.2.1 h.2.2.2.1 h.2.2.2.2
  exact ⟨o, h1, hI, hA, p⟩
theorem ri_man {I : Nat → Int32} {A : Nat → Nat → Int32} {x1 : Int32} (h : RIt I A) : Ok (f_man x1 I A) (fun o => RIt o.2.1 o.2.2) := by
  obtain ⟨o, h1, hI, hA, -⟩ := t_man (x1 := x1) h.1 h.2.1 
  exact ⟨o, h1, ⟨hI, hA, RIv_fr h.2.2 (fw_man h1) (by decide) (by decide) (by rw [(fw_man h1).1 29 (by decide)]; exact h.2.2.2.2) (by decide) (by decide) (by decide) (by decide) (by decide)⟩⟩
theorem ri_move {I : Nat → Int32} {A : Nat → Nat → Int32} {x1 : Int32} (h : RIt I A) : Ok (f_move x1 I A) (fun o => RIt o.2.1 o.2.2) := by
  obtain ⟨o, h1, hI, hA, -⟩ := t_move (x1 := x1) h.1 h.2.1 
  exact ⟨o, h1, ⟨hI, hA, RIv_fr h.2.2 (fw_move h1) (by decide) (by decide) (by rw [(fw_move h1).1 29 (by decide)]; exact h.2.2.2.2) (by decide) (by decide) (by decide) (by decide) (by decide)⟩⟩
theorem ri_add {I : Nat → Int32} {A : Nat → Nat → Int32} {x1 : Int32} (h : RIt I A) : Ok (f_add x1 I A) (fun o => RIt o.2.1 o.2.2) := by
  obtain ⟨o, h1, hI, hA, -, p⟩ := t_add (gg := (I 5).toInt.toNat) h.1 h.2.1 (by have := tI_5 h.1; omega) h.2.2.1 h.2.2.2.1 h.2.2.2.2
  exact ⟨o, h1, hI, hA, p⟩
theorem ri_addMark {I : Nat → Int32} {A : Nat → Nat → Int32} {x1 : Int32} (h : RIt I A) : Ok (f_addMark x1 I A) (fun o => RIt o.2.1 o.2.2) := by
  obtain ⟨o, h1, hI, hA, -⟩ := t_addMark (x1 := x1) h.1 h.2.1 
  exact ⟨o, h1, ⟨hI, hA, RIv_fr h.2.2 (fw_addMark h1) (by decide) (by decide) (by rw [(fw_addMark h1).1 29 (by decide)]; exact h.2.2.2.2) (by decide) (by decide) (by decide) (by decide) (by decide)⟩⟩
theorem ri_say {I : Nat → Int32} {A : Nat → Nat → Int32}  (h : RIt I A) : Ok (f_say  I A) (fun o => RIt o.2.1 o.2.2) := by
  obtain ⟨o, h1, hI, hA, -⟩ := t_say  h.1 h.2.1 
  exact ⟨o, h1, ⟨hI, hA, RIv_fr h.2.2 (fw_say h1) (by decide) (by decide) (by rw [(fw_say h1).1 29 (by decide)]; exact h.2.2.2.2) (by decide) (by decide) (by decide) (by decide) (by decide)⟩⟩
theorem ri_lead {I : Nat → Int32} {A : Nat → Nat → Int32}  (h : RIt I A) : Ok (f_lead  I A) (fun o => RIt o.2.1 o.2.2) := by
  obtain ⟨o, h1, hI, hA, -, p⟩ := t_lead (gg := (I 5).toInt.toNat) h.1 h.2.1 (by have := tI_5 h.1; omega) h.2.2.1 h.2.2.2.1 h.2.2.2.2
  exact ⟨o, h1, hI, hA, p⟩
theorem ri_end {I : Nat → Int32} {A : Nat → Nat → Int32} {x1 : Int32} (h : RIt I A) : Ok (f_end x1 I A) (fun o => RIt o.2.1 o.2.2 ∧ ((0 ≤ x1.toInt ∧ x1.toInt ≤ 3 → (o.2.1 0).toInt = 0) ∧ (x1.toInt < 0 ∨ 3 < x1.toInt → (o.2.1 0).toInt = 1))) := by
  obtain ⟨o, h1, hI, hA, p0⟩ := t_end (x1 := x1) h.1 h.2.1 
  exact ⟨o, h1, ⟨⟨hI, hA, RIv_fr h.2.2 (fw_end h1) (by decide) (by decide) (by rw [(fw_end h1).1 29 (by decide)]; exact h.2.2.2.2) (by decide) (by decide) (by decide) (by decide) (by decide)⟩, p0⟩⟩
theorem ri_result {I : Nat → Int32} {A : Nat → Nat → Int32}  (h : RIt I A) : Ok (f_result  I A) (fun o => RIt o.2.1 o.2.2) := by
  obtain ⟨o, h1, hI, hA, -⟩ := t_result  h.1 h.2.1 
  exact ⟨o, h1, ⟨hI, hA, RIv_fr h.2.2 (fw_result h1) (by decide) (by decide) (by rw [(fw_result h1).1 29 (by decide)]; exact h.2.2.2.2) (by decide) (by decide) (by decide) (by decide) (by decide)⟩⟩
theorem ri_tags {I : Nat → Int32} {A : Nat → Nat → Int32}  (h : RIt I A) : Ok (f_tags  I A) (fun o => RIt o.2.1 o.2.2) := by
  obtain ⟨o, h1, hI, hA, -⟩ := t_tags  h.1 h.2.1 
  exact ⟨o, h1, ⟨hI, hA, RIv_fr h.2.2 (fw_tags h1) (by decide) (by decide) (by rw [(fw_tags h1).1 29 (by decide)]; exact h.2.2.2.2) (by decide) (by decide) (by decide) (by decide) (by decide)⟩⟩
theorem ri_tag {I : Nat → Int32} {A : Nat → Nat → Int32} {x1 : Int32} {x2 : Int32} {x3 : Int32} (h : RIt I A) : Ok (f_tag x1 x2 x3 I A) (fun o => RIt o.2.1 o.2.2) := by
  obtain ⟨o, h1, hI, hA, -⟩ := t_tag (x1 := x1) (x2 := x2) (x3 := x3) h.1 h.2.1 
  exact ⟨o, h1, ⟨hI, hA, RIv_fr h.2.2 (fw_tag h1) (by decide) (by decide) (by rw [(fw_tag h1).1 29 (by decide)]; exact h.2.2.2.2) (by decide) (by decide) (by decide) (by decide) (by decide)⟩⟩
end
