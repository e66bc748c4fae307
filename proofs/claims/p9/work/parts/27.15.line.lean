def cK (A : Nat → Nat → Int32) (g n : Nat) : Prop := aK A g = n
theorem cK_fr {A A' : Nat → Nat → Int32} {g n : Nat} (e7 : A' 7 = A 7) (h : cK A g n) : cK A' g n := by
  unfold cK aK; rw [e7]; exact h
def cG (A : Nat → Nat → Int32) (g : Nat) (v : Int) : Prop := v ≤ (aK A g : Int)
theorem cG_fr {A A' : Nat → Nat → Int32} {g : Nat} {v : Int} (e7 : A' 7 = A 7) (h : cG A g v) : cG A' g v := by
  unfold cG aK; rw [e7]; exact h
theorem t_readMove_81 {gg hh nb : Nat} {aa : Int} {A0 : Nat → Nat → Int32} {nd : Nat} {dp : Int} {na : Nat} {I : Nat → Int32} {A : Nat → Nat → Int32} {self25 : Int32 → Int32 → Int32 → (Nat → Int32) → (Nat → Nat → Int32) → Option (Int32 × MS)} {N25 : Nat} (hself25 : ∀ (x1 : Int32) (x2 : Int32) (x3 : Int32) (I : Nat → Int32) (A : Nat → Nat → Int32), TJ I → TK A → ((0 : Int) ≤ x1.toInt ∧ x1.toInt ≤ (1 : Int)) → ((0 : Int) ≤ x2.toInt ∧ x2.toInt ≤ (300 : Int)) → ((0 : Int) ≤ x3.toInt ∧ x3.toInt ≤ (2000 : Int)) → ((I 37).toInt ≤ (I 1).toInt) → (aa ≤ (I 37).toInt) → ((I 29).toInt ≤ 1999) → (TRE A gg) → (TRH A hh nb) → (EX A gg A0 nd) → (x1.toInt = (gg : Int)) → (hh ≤ 1 ∧ hh ≠ gg) → (x2.toInt.toNat = nd ∨ aK A0 gg < x2.toInt.toNat) → (apd A gg x2.toInt.toNat dp) → (dp ≤ 6) → (cK A gg na) → ((I 1).toInt - (I 37).toInt) < (N25 : Int) → Ok (self25 x1 x2 x3 I A) (fun o => TJ o.2.1 ∧ TK o.2.2 ∧ ((-92100 : Int) ≤ o.1.toInt ∧ o.1.toInt ≤ (300 : Int)) ∧ ((o.2.1 37).toInt ≤ (o.2.1 1).toInt ∧ aa ≤ (o.2.1 37).toInt) ∧ ((o.2.1 29).toInt ≤ 1999) ∧ (TRE o.2.2 gg) ∧ (TRH o.2.2 hh nb) ∧ (EX o.2.2 gg A0 nd) ∧ (lnk o.2.2 gg x2.toInt.toNat dp) ∧ ((0 ≤ o.1.toInt → m3 o.2.2 x1.toInt o.1.toInt ∧ leaf o.2.2 gg o.1.toInt.toNat ∧ lnk o.2.2 gg o.1.toInt.toNat dp ∧ aK A0 gg < o.1.toInt.toNat ∧ x2.toInt < o.1.toInt ∧ (na : Int) < (aK o.2.2 gg : Int))))) {x1 : Int32} {x2 : Int32} {x3 : Int32} (hI : TJ I) (hA : TK A) (r_x1 : (0 : Int) ≤ x1.toInt ∧ x1.toInt ≤ (1 : Int)) (r_x2 : (0 : Int) ≤ x2.toInt ∧ x2.toInt ≤ (300 : Int)) (r_x3 : (0 : Int) ≤ x3.toInt ∧ x3.toInt ≤ (2000 : Int)) (q0 : (I 37).toInt < (I 1).toInt) (q1 : aa ≤ (I 37).toInt) (q2 : (I 29).toInt ≤ 1999) (q3 : TRE A gg) (q4 : TRH A hh nb) (q5 : EX A gg A0 nd) (q6 : x1.toInt = (gg : Int)) (q7 : hh ≤ 1 ∧ hh ≠ gg) (q8 : x2.toInt.toNat = nd ∨ aK A0 gg < x2.toInt.toNat) (q9 : apd A gg x2.toInt.toNat dp) (q10 : dp ≤ 6) (q11 : cK A gg na) (m25 : ((I 1).toInt - (I 37).toInt) ≤ (N25 : Int)) : Ok (f_readMove_81 self25 x1 x2 x3 I A) (fun o => TJ o.2.1 ∧ TK o.2.2 ∧ ((-92100 : Int) ≤ o.1.toInt ∧ o.1.toInt ≤ (300 : Int)) ∧ ((o.2.1 37).toInt ≤ (o.2.1 1).toInt ∧ aa ≤ (o.2.1 37).toInt) ∧ ((o.2.1 29).toInt ≤ 1999) ∧ (TRE o.2.2 gg) ∧ (TRH o.2.2 hh nb) ∧ (EX o.2.2 gg A0 nd) ∧ (lnk o.2.2 gg x2.toInt.toNat dp) ∧ ((0 ≤ o.1.toInt → m3 o.2.2 x1.toInt o.1.toInt ∧ leaf o.2.2 gg o.1.toInt.toNat ∧ lnk o.2.2 gg o.1.toInt.toNat dp ∧ aK A0 gg < o.1.toInt.toNat ∧ x2.toInt < o.1.toInt ∧ (na : Int) < (aK o.2.2 gg : Int)))) := by
  unfold f_readMove_81
  have b_I_1 := tI_1 hI
  have b_I_37 := tI_37 hI
  have b_I_29 := tI_29 hI
  refine ok_bnd (fun v1 e1 => ?_)
  have t_v1 : v1.toInt = (I 37).toInt + 1 := ti_add e1 rfl (show (1 : Int32).toInt = 1 from rfl) (by omega) (by omega)
  refine ok_bnd (fun I2 e2 => ?_)
  have hI_I2 : TJ I2 := e2.symm ▸ tj_u hI (k := 37) (show (0 : Int) ≤ v1.toInt from (by omega)) (show v1.toInt ≤ (2100 : Int) from (by omega))
  have : (I2 1).toInt = (I 1).toInt := by rw [e2]; rfl
  have : (I2 37).toInt = v1.toInt := by rw [e2]; exact rfl
  have : (I2 29).toInt = (I 29).toInt := by rw [e2]; rfl
  have b_I2_1 := tI_1 hI_I2
  have b_I2_37 := tI_37 hI_I2
  have b_I2_29 := tI_29 hI_I2
  exact hself25 x1 x2 x3 I2 A hI_I2 hA r_x1 r_x2 r_x3 (by omega) (by omega) (by omega) q3 q4 q5 q6 q7 q8 q9 q10 q11 (by omega)
theorem t_readMove_25s {gg hh nb : Nat} {aa : Int} {A0 : Nat → Nat → Int32} {nd : Nat} {dp : Int} {na : Nat} {I : Nat → Int32} {A : Nat → Nat → Int32} {self25 : Int32 → Int32 → Int32 → (Nat → Int32) → (Nat → Nat → Int32) → Option (Int32 × MS)} {N25 : Nat} (hself25 : ∀ (x1 : Int32) (x2 : Int32) (x3 : Int32) (I : Nat → Int32) (A : Nat → Nat → Int32), TJ I → TK A → ((0 : Int) ≤ x1.toInt ∧ x1.toInt ≤ (1 : Int)) → ((0 : Int) ≤ x2.toInt ∧ x2.toInt ≤ (300 : Int)) → ((0 : Int) ≤ x3.toInt ∧ x3.toInt ≤ (2000 : Int)) → ((I 37).toInt ≤ (I 1).toInt) → (aa ≤ (I 37).toInt) → ((I 29).toInt ≤ 1999) → (TRE A gg) → (TRH A hh nb) → (EX A gg A0 nd) → (x1.toInt = (gg : Int)) → (hh ≤ 1 ∧ hh ≠ gg) → (x2.toInt.toNat = nd ∨ aK A0 gg < x2.toInt.toNat) → (apd A gg x2.toInt.toNat dp) → (dp ≤ 6) → (cK A gg na) → ((I 1).toInt - (I 37).toInt) < (N25 : Int) → Ok (self25 x1 x2 x3 I A) (fun o => TJ o.2.1 ∧ TK o.2.2 ∧ ((-92100 : Int) ≤ o.1.toInt ∧ o.1.toInt ≤ (300 : Int)) ∧ ((o.2.1 37).toInt ≤ (o.2.1 1).toInt ∧ aa ≤ (o.2.1 37).toInt) ∧ ((o.2.1 29).toInt ≤ 1999) ∧ (TRE o.2.2 gg) ∧ (TRH o.2.2 hh nb) ∧ (EX o.2.2 gg A0 nd) ∧ (lnk o.2.2 gg x2.toInt.toNat dp) ∧ ((0 ≤ o.1.toInt → m3 o.2.2 x1.toInt o.1.toInt ∧ leaf o.2.2 gg o.1.toInt.toNat ∧ lnk o.2.2 gg o.1.toInt.toNat dp ∧ aK A0 gg < o.1.toInt.toNat ∧ x2.toInt < o.1.toInt ∧ (na : Int) < (aK o.2.2 gg : Int))))) {x1 : Int32} {x2 : Int32} {x3 : Int32} (hI : TJ I) (hA : TK A) (r_x1 : (0 : Int) ≤ x1.toInt ∧ x1.toInt ≤ (1 : Int)) (r_x2 : (0 : Int) ≤ x2.toInt ∧ x2.toInt ≤ (300 : Int)) (r_x3 : (0 : Int) ≤ x3.toInt ∧ x3.toInt ≤ (2000 : Int)) (q0 : (I 37).toInt ≤ (I 1).toInt) (q1 : aa ≤ (I 37).toInt) (q2 : (I 29).toInt ≤ 1999) (q3 : TRE A gg) (q4 : TRH A hh nb) (q5 : EX A gg A0 nd) (q6 : x1.toInt = (gg : Int)) (q7 : hh ≤ 1 ∧ hh ≠ gg) (q8 : x2.toInt.toNat = nd ∨ aK A0 gg < x2.toInt.toNat) (q9 : apd A gg x2.toInt.toNat dp) (q10 : dp ≤ 6) (q11 : cK A gg na) (m25 : ((I 1).toInt - (I 37).toInt) ≤ (N25 : Int)) : Ok (f_readMove_25s self25 x1 x2 x3 I A) (fun o => TJ o.2.1 ∧ TK o.2.2 ∧ ((-92100 : Int) ≤ o.1.toInt ∧ o.1.toInt ≤ (300 : Int)) ∧ ((o.2.1 37).toInt ≤ (o.2.1 1).toInt ∧ aa ≤ (o.2.1 37).toInt) ∧ ((o.2.1 29).toInt ≤ 1999) ∧ (TRE o.2.2 gg) ∧ (TRH o.2.2 hh nb) ∧ (EX o.2.2 gg A0 nd) ∧ (lnk o.2.2 gg x2.toInt.toNat dp) ∧ ((0 ≤ o.1.toInt → m3 o.2.2 x1.toInt o.1.toInt ∧ leaf o.2.2 gg o.1.toInt.toNat ∧ lnk o.2.2 gg o.1.toInt.toNat dp ∧ aK A0 gg < o.1.toInt.toNat ∧ x2.toInt < o.1.toInt ∧ (na : Int) < (aK o.2.2 gg : Int)))) := by
  unfold f_readMove_25s
  have b_I_1 := tI_1 hI
  have b_I_37 := tI_37 hI
  have b_I_29 := tI_29 hI
  obtain ⟨r1, h_r1, p_r1⟩ := ro (t_look   hI hA )
  refine ok_clR h_r1 ?_
  dsimp only at p_r1
  obtain ⟨r2, h_r2, p_r2⟩ := ro (t_isLetter (x0 := r1)  hI hA )
  refine ok_clR h_r2 ?_
  dsimp only at p_r2
  refine ok_if (fun c3 => ?_) (fun c3 => ?_)
  ·
    replace c3 := ti_eqP c3 rfl (show (0 : Int32).toInt = 0 from rfl)
    obtain ⟨r3, h_r3, p_r3⟩ := ro (t_look   hI hA )
    refine ok_clR h_r3 ?_
    dsimp only at p_r3
    obtain ⟨r4, h_r4, p_r4⟩ := ro (t_isDigit (x0 := r3)  hI hA )
    refine ok_clR h_r4 ?_
    dsimp only at p_r4
    refine ok_if (fun c4 => ?_) (fun c4 => ?_)
    ·
      replace c4 := ti_eqP c4 rfl (show (0 : Int32).toInt = 0 from rfl)
      obtain ⟨r5, h_r5, p_r5⟩ := ro (t_look   hI hA )
      refine ok_clR h_r5 ?_
      dsimp only at p_r5
      refine ok_if (fun c5 => ?_) (fun c5 => ?_)
      ·
        replace c5 := ti_eqP c5 rfl (show (61 : Int32).toInt = 61 from rfl)
        exact t_readMove_81 (gg := gg) (hh := hh) (nb := nb) (aa := aa) (A0 := A0) (nd := nd) (dp := dp) (na := na)  hself25 (x1 := x1) (x2 := x2) (x3 := x3) hI hA r_x1 r_x2 r_x3 (by omega) q1 q2 q3 q4 q5 q6 q7 q8 q9 q10 q11 m25
      ·
        replace c5 := ti_eqN c5 rfl (show (61 : Int32).toInt = 61 from rfl)
        obtain ⟨r6, h_r6, p_r6⟩ := ro (t_look   hI hA )
        refine ok_clR h_r6 ?_
        dsimp only at p_r6
        refine ok_if (fun c6 => ?_) (fun c6 => ?_)
        ·
          replace c6 := ti_eqP c6 rfl (show (45 : Int32).toInt = 45 from rfl)
          exact t_readMove_81 (gg := gg) (hh := hh) (nb := nb) (aa := aa) (A0 := A0) (nd := nd) (dp := dp) (na := na)  hself25 (x1 := x1) (x2 := x2) (x3 := x3) hI hA r_x1 r_x2 r_x3 (by omega) q1 q2 q3 q4 q5 q6 q7 q8 q9 q10 q11 m25
        ·
          replace c6 := ti_eqN c6 rfl (show (45 : Int32).toInt = 45 from rfl)
          obtain ⟨r7, h_r7, p_r7⟩ := ro (t_look   hI hA )
          refine ok_clR h_r7 ?_
          dsimp only at p_r7
          refine ok_if (fun c7 => ?_) (fun c7 => ?_)
          ·
            replace c7 := ti_eqP c7 rfl (show (43 : Int32).toInt = 43 from rfl)
            exact t_readMove_81 (gg := gg) (hh := hh) (nb := nb) (aa := aa) (A0 := A0) (nd := nd) (dp := dp) (na := na)  hself25 (x1 := x1) (x2 := x2) (x3 := x3) hI hA r_x1 r_x2 r_x3 (by omega) q1 q2 q3 q4 q5 q6 q7 q8 q9 q10 q11 m25
          ·
            replace c7 := ti_eqN c7 rfl (show (43 : Int32).toInt = 43 from rfl)
            obtain ⟨r8, h_r8, p_r8⟩ := ro (t_look   hI hA )
            refine ok_clR h_r8 ?_
            dsimp only at p_r8
            refine ok_if (fun c8 => ?_) (fun c8 => ?_)
            ·
              replace c8 := ti_eqP c8 rfl (show (35 : Int32).toInt = 35 from rfl)
              exact t_readMove_81 (gg := gg) (hh := hh) (nb := nb) (aa := aa) (A0 := A0) (nd := nd) (dp := dp) (na := na)  hself25 (x1 := x1) (x2 := x2) (x3 := x3) hI hA r_x1 r_x2 r_x3 (by omega) q1 q2 q3 q4 q5 q6 q7 q8 q9 q10 q11 m25
            ·
              replace c8 := ti_eqN c8 rfl (show (35 : Int32).toInt = 35 from rfl)
              obtain ⟨⟨r9, Ic9, Ac9⟩, h_r9, hI_Ic9, hA_Ac9, p_r9, p_r9_0⟩ := t_understood (x1 := x3) (x2 := (I 37))  hI hA r_x3 (by omega) q2
              replace hI_Ic9 : TJ Ic9 := hI_Ic9
              replace hA_Ac9 : TK Ac9 := hA_Ac9
              dsimp only at p_r9 p_r9_0
              refine ok_clR h_r9 ?_
              have f_r9 := fw_understood h_r9
              have : (Ic9 1).toInt = (I 1).toInt := congrArg Int32.toInt (f_r9.1 1 (by decide))
              have : (Ic9 37).toInt = (I 37).toInt := congrArg Int32.toInt (f_r9.1 37 (by decide))
              have k9 : TRE Ac9 gg := TRE_fr (f_r9.2 7 (by decide)) (f_r9.2 8 (by decide)) (f_r9.2 9 (by decide)) (f_r9.2 10 (by decide)) (f_r9.2 11 (by decide)) q3
              have k10 : TRH Ac9 hh nb := TRH_fr (f_r9.2 7 (by decide)) (f_r9.2 8 (by decide)) (f_r9.2 9 (by decide)) (f_r9.2 10 (by decide)) (f_r9.2 11 (by decide)) q4
              have k11 : EX Ac9 gg A0 nd := EX_fr (f_r9.2 7 (by decide)) (f_r9.2 8 (by decide)) (f_r9.2 10 (by decide)) q5
              have k12 : apd Ac9 gg x2.toInt.toNat dp := apd_fr (f_r9.2 7 (by decide)) (f_r9.2 8 (by decide)) (f_r9.2 10 (by decide)) q9
              have k13 : cK Ac9 gg na := cK_fr (f_r9.2 7 (by decide)) q11
              refine ok_if (fun c14 => ?_) (fun c14 => ?_)
              ·
                replace c14 := ti_leP c14 (show (0 : Int32).toInt = 0 from rfl) rfl
                obtain ⟨r10, h_r10, p_r10⟩ := ro (t_childWith (x1 := x1) (x2 := x2) (x3 := r9)  hI_Ic9 hA_Ac9 r_x1 r_x2 k9 q6 (by have z := (k12).1; omega))
                refine ok_clR h_r10 ?_
                dsimp only at p_r10
                refine ok_if (fun c15 => ?_) (fun c15 => ?_)
                ·
                  replace c15 := ti_ltP c15 rfl (show (0 : Int32).toInt = 0 from rfl)
                  refine ok_chk (ti_in (by omega) (by omega)) ?_
                  refine ok_bnd (fun v11 e16 => ?_)
                  have b_v11 := tA_7 hA_Ac9 ((x1).toNatClampNeg)
                  rw [← e16] at b_v11
                  have hx : x1.toNatClampNeg = gg := by have := ti_nc (a := x1) (by omega); omega
                  have kk11 : ((aK Ac9 gg : Nat) : Int) = v11.toInt := by have z := tA_7 hA_Ac9 gg; unfold aK; rw [e16, hx]; omega
                  refine ok_if (fun c17 => ?_) (fun c17 => ?_)
                  ·
                    replace c17 := ti_eqP c17 rfl (show (300 : Int32).toInt = 300 from rfl)
                    obtain ⟨r13, h_r13, p_r13⟩ := ro (t_fault (x0 := (8 : Int32)) (x1 := x3)  hI_Ic9 hA_Ac9 (by decide) (by omega))
                    refine ok_clR h_r13 ?_
                    dsimp only at p_r13
                    refine ok_bnd (fun v14 e18 => ?_)
                    have t_v14 : v14.toInt = -r13.toInt := ti_neg e18 rfl (by omega)
                    exact ok_ret ⟨hI_Ic9, hA_Ac9, (show (-92100 : Int) ≤ v14.toInt ∧ v14.toInt ≤ (300 : Int) from (by omega)), (by show (Ic9 37).toInt ≤ (Ic9 1).toInt ∧ aa ≤ (Ic9 37).toInt; omega), (by show (Ic9 29).toInt ≤ 1999; omega), k9, k10, k11, (by show lnk Ac9 gg x2.toInt.toNat dp; exact (lnk_apd k12)), (by show (0 ≤ (v14 : Int32).toInt → m3 Ac9 x1.toInt (v14 : Int32).toInt ∧ leaf Ac9 gg (v14 : Int32).toInt.toNat ∧ lnk Ac9 gg (v14 : Int32).toInt.toNat dp ∧ aK A0 gg < (v14 : Int32).toInt.toNat ∧ x2.toInt < (v14 : Int32).toInt ∧ (na : Int) < (aK Ac9 gg : Int)); intro h; first | (exfalso; omega) | exact ⟨p_r12_3, p_r12_2.2.2.2.2.1, n12, by omega, by omega, by omega⟩)⟩
                  ·
                    replace c17 := ti_eqN c17 rfl (show (300 : Int32).toInt = 300 from rfl)
                    obtain ⟨⟨r12, Ic12, Ac12⟩, h_r12, hI_Ic12, hA_Ac12, p_r12, p_r12_0, p_r12_1, p_r12_2, p_r12_3⟩ := t_append (x1 := x1) (x2 := x2) (x3 := r9)  hI_Ic9 hA_Ac9 r_x1 r_x2 (by omega) k9 q6 (by omega) (apd_le k12 q10)
                    replace hI_Ic12 : TJ Ic12 := hI_Ic12
                    replace hA_Ac12 : TK Ac12 := hA_Ac12
                    dsimp only at p_r12 p_r12_0 p_r12_1 p_r12_2 p_r12_3
                    refine ok_clR h_r12 ?_
                    have f_r12 := fw_append h_r12
                    have : (Ic12 1).toInt = (Ic9 1).toInt := congrArg Int32.toInt (f_r12.1 1 (by decide))
                    have : (Ic12 37).toInt = (Ic9 37).toInt := congrArg Int32.toInt (f_r12.1 37 (by decide))
                    have : (Ic12 29).toInt = (Ic9 29).toInt := congrArg Int32.toInt (f_r12.1 29 (by decide))
                    have zc := k13
                    unfold cK at zc
                    have zp := p_r12_2
                    have zx := (k11).1
                    have za := (k12).1
                    have ex12 : EX Ac12 gg A0 nd := EX_ap k11 p_r12_2 q8
                    have th12 : TRH Ac12 hh nb := p_r12_1 hh nb q7.1 q7.2 k10
                    have l12 : lnk Ac12 gg x2.toInt.toNat dp := p_r12_2.2.2.1 _ _ (lnk_apd k12)
                    have n12 : lnk Ac12 gg r12.toInt.toNat dp := p_r12_2.2.2.2.2.2 _ k12
                    have z1 := p_r12_2.1
                    have z2 := p_r12_2.2.1
                    exact ok_ret ⟨hI_Ic12, hA_Ac12, (show (-92100 : Int) ≤ r12.toInt ∧ r12.toInt ≤ (300 : Int) from (by omega)), (by show (Ic12 37).toInt ≤ (Ic12 1).toInt ∧ aa ≤ (Ic12 37).toInt; omega), (by show (Ic12 29).toInt ≤ 1999; omega), p_r12_0, th12, ex12, l12, (by show (0 ≤ (r12 : Int32).toInt → m3 Ac12 x1.toInt (r12 : Int32).toInt ∧ leaf Ac12 gg (r12 : Int32).toInt.toNat ∧ lnk Ac12 gg (r12 : Int32).toInt.toNat dp ∧ aK A0 gg < (r12 : Int32).toInt.toNat ∧ x2.toInt < (r12 : Int32).toInt ∧ (na : Int) < (aK Ac12 gg : Int)); intro h; first | (exfalso; omega) | exact ⟨p_r12_3, p_r12_2.2.2.2.2.1, n12, by omega, by omega, by omega⟩)⟩
                ·
                  replace c15 := ti_ltN c15 rfl (show (0 : Int32).toInt = 0 from rfl)
                  obtain ⟨r15, h_r15, p_r15⟩ := ro (t_fault (x0 := (6 : Int32)) (x1 := x3)  hI_Ic9 hA_Ac9 (by decide) (by omega))
                  refine ok_clR h_r15 ?_
                  dsimp only at p_r15
                  refine ok_bnd (fun v16 e19 => ?_)
                  have t_v16 : v16.toInt = -r15.toInt := ti_neg e19 rfl (by omega)
                  exact ok_ret ⟨hI_Ic9, hA_Ac9, (show (-92100 : Int) ≤ v16.toInt ∧ v16.toInt ≤ (300 : Int) from (by omega)), (by show (Ic9 37).toInt ≤ (Ic9 1).toInt ∧ aa ≤ (Ic9 37).toInt; omega), (by show (Ic9 29).toInt ≤ 1999; omega), k9, k10, k11, (by show lnk Ac9 gg x2.toInt.toNat dp; exact (lnk_apd k12)), (by show (0 ≤ (v16 : Int32).toInt → m3 Ac9 x1.toInt (v16 : Int32).toInt ∧ leaf Ac9 gg (v16 : Int32).toInt.toNat ∧ lnk Ac9 gg (v16 : Int32).toInt.toNat dp ∧ aK A0 gg < (v16 : Int32).toInt.toNat ∧ x2.toInt < (v16 : Int32).toInt ∧ (na : Int) < (aK Ac9 gg : Int)); intro h; first | (exfalso; omega) | exact ⟨p_r12_3, p_r12_2.2.2.2.2.1, n12, by omega, by omega, by omega⟩)⟩
              ·
                replace c14 := ti_leN c14 (show (0 : Int32).toInt = 0 from rfl) rfl
                refine ok_if (fun c20 => ?_) (fun c20 => ?_)
                ·
                  replace c20 := ti_eqP c20 rfl (show (-2 : Int32).toInt = -2 from rfl)
                  unfold f_readMove_122
                  obtain ⟨r1, h_r1, p_r1⟩ := ro (t_fault (x0 := (5 : Int32)) (x1 := x3)  hI_Ic9 hA_Ac9 (by decide) (by omega))
                  refine ok_clR h_r1 ?_
                  dsimp only at p_r1
                  refine ok_bnd (fun v2 e21 => ?_)
                  have t_v2 : v2.toInt = -r1.toInt := ti_neg e21 rfl (by omega)
                  exact ok_ret ⟨hI_Ic9, hA_Ac9, (show (-92100 : Int) ≤ v2.toInt ∧ v2.toInt ≤ (300 : Int) from (by omega)), (by show (Ic9 37).toInt ≤ (Ic9 1).toInt ∧ aa ≤ (Ic9 37).toInt; omega), (by show (Ic9 29).toInt ≤ 1999; omega), k9, k10, k11, (by show lnk Ac9 gg x2.toInt.toNat dp; exact (lnk_apd k12)), (by show (0 ≤ (v2 : Int32).toInt → m3 Ac9 x1.toInt (v2 : Int32).toInt ∧ leaf Ac9 gg (v2 : Int32).toInt.toNat ∧ lnk Ac9 gg (v2 : Int32).toInt.toNat dp ∧ aK A0 gg < (v2 : Int32).toInt.toNat ∧ x2.toInt < (v2 : Int32).toInt ∧ (na : Int) < (aK Ac9 gg : Int)); intro h; exfalso; omega)⟩
                ·
                  replace c20 := ti_eqN c20 rfl (show (-2 : Int32).toInt = -2 from rfl)
                  unfold f_readMove_122
                  obtain ⟨r1, h_r1, p_r1⟩ := ro (t_fault (x0 := (4 : Int32)) (x1 := x3)  hI_Ic9 hA_Ac9 (by decide) (by omega))
                  refine ok_clR h_r1 ?_
                  dsimp only at p_r1
                  refine ok_bnd (fun v2 e22 => ?_)
                  have t_v2 : v2.toInt = -r1.toInt := ti_neg e22 rfl (by omega)
                  exact ok_ret ⟨hI_Ic9, hA_Ac9, (show (-92100 : Int) ≤ v2.toInt ∧ v2.toInt ≤ (300 : Int) from (by omega)), (by show (Ic9 37).toInt ≤ (Ic9 1).toInt ∧ aa ≤ (Ic9 37).toInt; omega), (by show (Ic9 29).toInt ≤ 1999; omega), k9, k10, k11, (by show lnk Ac9 gg x2.toInt.toNat dp; exact (lnk_apd k12)), (by show (0 ≤ (v2 : Int32).toInt → m3 Ac9 x1.toInt (v2 : Int32).toInt ∧ leaf Ac9 gg (v2 : Int32).toInt.toNat ∧ lnk Ac9 gg (v2 : Int32).toInt.toNat dp ∧ aK A0 gg < (v2 : Int32).toInt.toNat ∧ x2.toInt < (v2 : Int32).toInt ∧ (na : Int) < (aK Ac9 gg : Int)); intro h; exfalso; omega)⟩
    ·
      replace c4 := ti_eqN c4 rfl (show (0 : Int32).toInt = 0 from rfl)
      exact t_readMove_81 (gg := gg) (hh := hh) (nb := nb) (aa := aa) (A0 := A0) (nd := nd) (dp := dp) (na := na)  hself25 (x1 := x1) (x2 := x2) (x3 := x3) hI hA r_x1 r_x2 r_x3 (by omega) q1 q2 q3 q4 q5 q6 q7 q8 q9 q10 q11 m25
  ·
    replace c3 := ti_eqN c3 rfl (show (0 : Int32).toInt = 0 from rfl)
    exact t_readMove_81 (gg := gg) (hh := hh) (nb := nb) (aa := aa) (A0 := A0) (nd := nd) (dp := dp) (na := na)  hself25 (x1 := x1) (x2 := x2) (x3 := x3) hI hA r_x1 r_x2 r_x3 (by omega) q1 q2 q3 q4 q5 q6 q7 q8 q9 q10 q11 m25
theorem t_readMove_25 {gg hh nb : Nat} {aa : Int} {A0 : Nat → Nat → Int32} {nd : Nat} {dp : Int} {na : Nat}  : ∀ (n : Nat) (x1 : Int32) (x2 : Int32) (x3 : Int32) (I : Nat → Int32) (A : Nat → Nat → Int32), TJ I → TK A → ((0 : Int) ≤ x1.toInt ∧ x1.toInt ≤ (1 : Int)) → ((0 : Int) ≤ x2.toInt ∧ x2.toInt ≤ (300 : Int)) → ((0 : Int) ≤ x3.toInt ∧ x3.toInt ≤ (2000 : Int)) → ((I 37).toInt ≤ (I 1).toInt) → (aa ≤ (I 37).toInt) → ((I 29).toInt ≤ 1999) → (TRE A gg) → (TRH A hh nb) → (EX A gg A0 nd) → (x1.toInt = (gg : Int)) → (hh ≤ 1 ∧ hh ≠ gg) → (x2.toInt.toNat = nd ∨ aK A0 gg < x2.toInt.toNat) → (apd A gg x2.toInt.toNat dp) → (dp ≤ 6) → (cK A gg na) → ((I 1).toInt - (I 37).toInt) < (n : Int) → Ok (f_readMove_25  n x1 x2 x3 I A) (fun o => TJ o.2.1 ∧ TK o.2.2 ∧ ((-92100 : Int) ≤ o.1.toInt ∧ o.1.toInt ≤ (300 : Int)) ∧ ((o.2.1 37).toInt ≤ (o.2.1 1).toInt ∧ aa ≤ (o.2.1 37).toInt) ∧ ((o.2.1 29).toInt ≤ 1999) ∧ (TRE o.2.2 gg) ∧ (TRH o.2.2 hh nb) ∧ (EX o.2.2 gg A0 nd) ∧ (lnk o.2.2 gg x2.toInt.toNat dp) ∧ ((0 ≤ o.1.toInt → m3 o.2.2 x1.toInt o.1.toInt ∧ leaf o.2.2 gg o.1.toInt.toNat ∧ lnk o.2.2 gg o.1.toInt.toNat dp ∧ aK A0 gg < o.1.toInt.toNat ∧ x2.toInt < o.1.toInt ∧ (na : Int) < (aK o.2.2 gg : Int)))) := by
  intro n
  induction n with
  | zero => intro x1 x2 x3 I A hI hA g0 g1 g2 g3 g4 g5 g6 g7 g8 g9 g10 g11 g12 g13 g14  hm; exfalso; omega
  | succ n ih =>
    intro x1 x2 x3 I A hI hA g0 g1 g2 g3 g4 g5 g6 g7 g8 g9 g10 g11 g12 g13 g14  hm
    exact t_readMove_25s (gg := gg) (hh := hh) (nb := nb) (aa := aa) (A0 := A0) (nd := nd) (dp := dp) (na := na)  (N25 := n)  ih hI hA g0 g1 g2 g3 g4 g5 g6 g7 g8 g9 g10 g11 g12 g13 g14  (by omega)
theorem t_readMove_0 {gg hh nb : Nat} {aa : Int} {A0 : Nat → Nat → Int32} {nd : Nat} {dp : Int} {na : Nat} {I : Nat → Int32} {A : Nat → Nat → Int32} {x1 : Int32} {x2 : Int32} (hI : TJ I) (hA : TK A) (r_x1 : (0 : Int) ≤ x1.toInt ∧ x1.toInt ≤ (1 : Int)) (r_x2 : (0 : Int) ≤ x2.toInt ∧ x2.toInt ≤ (300 : Int)) (q0 : (I 37).toInt ≤ (I 1).toInt) (q1 : aa ≤ (I 37).toInt) (q2 : (I 29).toInt ≤ 1999) (q3 : TRE A gg) (q4 : TRH A hh nb) (q5 : EX A gg A0 nd) (q6 : x1.toInt = (gg : Int)) (q7 : hh ≤ 1 ∧ hh ≠ gg) (q8 : x2.toInt.toNat = nd ∨ aK A0 gg < x2.toInt.toNat) (q9 : apd A gg x2.toInt.toNat dp) (q10 : dp ≤ 6) (q11 : cK A gg na) : Ok (f_readMove_0 x1 x2 I A) (fun o => TJ o.2.1 ∧ TK o.2.2 ∧ ((-92100 : Int) ≤ o.1.toInt ∧ o.1.toInt ≤ (300 : Int)) ∧ ((o.2.1 37).toInt ≤ (o.2.1 1).toInt ∧ aa ≤ (o.2.1 37).toInt) ∧ ((o.2.1 29).toInt ≤ 1999) ∧ (TRE o.2.2 gg) ∧ (TRH o.2.2 hh nb) ∧ (EX o.2.2 gg A0 nd) ∧ (lnk o.2.2 gg x2.toInt.toNat dp) ∧ ((0 ≤ o.1.toInt → m3 o.2.2 x1.toInt o.1.toInt ∧ leaf o.2.2 gg o.1.toInt.toNat ∧ lnk o.2.2 gg o.1.toInt.toNat dp ∧ aK A0 gg < o.1.toInt.toNat ∧ x2.toInt < o.1.toInt ∧ (na : Int) < (aK o.2.2 gg : Int)))) := by
  unfold f_readMove_0
  have b_I_1 := tI_1 hI
  have b_I_37 := tI_37 hI
  have b_I_29 := tI_29 hI
  obtain ⟨r1, h_r1, p_r1⟩ := ro (t_look   hI hA )
  refine ok_clR h_r1 ?_
  dsimp only at p_r1
  obtain ⟨r2, h_r2, p_r2⟩ := ro (t_isLetter (x0 := r1)  hI hA )
  refine ok_clR h_r2 ?_
  dsimp only at p_r2
  refine ok_if (fun c23 => ?_) (fun c23 => ?_)
  ·
    replace c23 := ti_eqP c23 rfl (show (0 : Int32).toInt = 0 from rfl)
    obtain ⟨r3, h_r3, p_r3⟩ := ro (t_fault (x0 := (1 : Int32)) (x1 := (I 37))  hI hA (by decide) (by omega))
    refine ok_clR h_r3 ?_
    dsimp only at p_r3
    refine ok_bnd (fun v4 e24 => ?_)
    have t_v4 : v4.toInt = -r3.toInt := ti_neg e24 rfl (by omega)
    exact ok_ret ⟨hI, hA, (show (-92100 : Int) ≤ v4.toInt ∧ v4.toInt ≤ (300 : Int) from (by omega)), (by show (I 37).toInt ≤ (I 1).toInt ∧ aa ≤ (I 37).toInt; omega), q2, q3, q4, q5, (by show lnk A gg x2.toInt.toNat dp; exact (lnk_apd q9)), (by show (0 ≤ (v4 : Int32).toInt → m3 A x1.toInt (v4 : Int32).toInt ∧ leaf A gg (v4 : Int32).toInt.toNat ∧ lnk A gg (v4 : Int32).toInt.toNat dp ∧ aK A0 gg < (v4 : Int32).toInt.toNat ∧ x2.toInt < (v4 : Int32).toInt ∧ (na : Int) < (aK A gg : Int)); intro h; exfalso; omega)⟩
  ·
    replace c23 := ti_eqN c23 rfl (show (0 : Int32).toInt = 0 from rfl)
    exact t_readMove_25 (gg := gg) (hh := hh) (nb := nb) (aa := aa) (A0 := A0) (nd := nd) (dp := dp) (na := na)    mFuel x1 x2 (I 37) I A hI hA r_x1 r_x2 (by omega) q0 q1 q2 q3 q4 q5 q6 q7 q8 q9 q10 q11 (by show _ < ((200000 : Nat) : Int); omega)
theorem t_readMove {gg hh nb : Nat} {aa : Int} {A0 : Nat → Nat → Int32} {nd : Nat} {dp : Int} {na : Nat} {I : Nat → Int32} {A : Nat → Nat → Int32} {x1 : Int32} {x2 : Int32} (hI : TJ I) (hA : TK A) (r_x1 : (0 : Int) ≤ x1.toInt ∧ x1.toInt ≤ (1 : Int)) (r_x2 : (0 : Int) ≤ x2.toInt ∧ x2.toInt ≤ (300 : Int)) (q0 : (I 37).toInt ≤ (I 1).toInt) (q1 : aa ≤ (I 37).toInt) (q2 : (I 29).toInt ≤ 1999) (q3 : TRE A gg) (q4 : TRH A hh nb) (q5 : EX A gg A0 nd) (q6 : x1.toInt = (gg : Int)) (q7 : hh ≤ 1 ∧ hh ≠ gg) (q8 : x2.toInt.toNat = nd ∨ aK A0 gg < x2.toInt.toNat) (q9 : apd A gg x2.toInt.toNat dp) (q10 : dp ≤ 6) (q11 : cK A gg na) : Ok (f_readMove x1 x2 I A) (fun o => TJ o.2.1 ∧ TK o.2.2 ∧ ((-92100 : Int) ≤ o.1.toInt ∧ o.1.toInt ≤ (300 : Int)) ∧ ((o.2.1 37).toInt ≤ (o.2.1 1).toInt ∧ aa ≤ (o.2.1 37).toInt) ∧ ((o.2.1 29).toInt ≤ 1999) ∧ (TRE o.2.2 gg) ∧ (TRH o.2.2 hh nb) ∧ (EX o.2.2 gg A0 nd) ∧ (lnk o.2.2 gg x2.toInt.toNat dp) ∧ ((0 ≤ o.1.toInt → m3 o.2.2 x1.toInt o.1.toInt ∧ leaf o.2.2 gg o.1.toInt.toNat ∧ lnk o.2.2 gg o.1.toInt.toNat dp ∧ aK A0 gg < o.1.toInt.toNat ∧ x2.toInt < o.1.toInt ∧ (na : Int) < (aK o.2.2 gg : Int)))) := t_readMove_0 (gg := gg) (hh := hh) (nb := nb) (aa := aa) (A0 := A0) (nd := nd) (dp := dp) (na := na) hI hA r_x1 r_x2 q0 q1 q2 q3 q4 q5 q6 q7 q8 q9 q10 q11
theorem t_readLine_199 {gg hh nb : Nat} {aa : Int} {A0 : Nat → Nat → Int32} {nd : Nat} {rr : Int} {I : Nat → Int32} {A : Nat → Nat → Int32} {rec : Int32 → Int32 → Int32 → (Nat → Int32) → (Nat → Nat → Int32) → Option (Int32 × MS)} (hrec : ∀ (gg hh nb : Nat) (aa : Int) (A0 : Nat → Nat → Int32) (nd : Nat) (x1 : Int32) (x2 : Int32) (x3 : Int32) (I : Nat → Int32) (A : Nat → Nat → Int32), TJ I → TK A → ((0 : Int) ≤ x1.toInt ∧ x1.toInt ≤ (1 : Int)) → ((0 : Int) ≤ x2.toInt ∧ x2.toInt ≤ (300 : Int)) → ((0 : Int) ≤ x3.toInt ∧ x3.toInt ≤ (6 : Int)) → ((I 37).toInt ≤ (I 1).toInt) → (aa ≤ (I 37).toInt) → (TRE A gg) → (TRH A hh nb) → (EX A gg A0 nd) → (x1.toInt = (gg : Int)) → (hh ≤ 1 ∧ hh ≠ gg) → (x2.toInt.toNat = nd ∨ aK A0 gg < x2.toInt.toNat) → (apd A gg x2.toInt.toNat x3.toInt) → (7 - x3.toInt ≤ rr - 1) → Ok (rec x1 x2 x3 I A) (fun o => TJ o.2.1 ∧ TK o.2.2 ∧ ((0 : Int) ≤ o.1.toInt ∧ o.1.toInt ≤ (92100 : Int)) ∧ ((o.2.1 37).toInt ≤ (o.2.1 1).toInt ∧ aa ≤ (o.2.1 37).toInt) ∧ ((o.1.toInt ≤ 0 → x3.toInt ≠ 0 → (o.2.1 37).toInt < (o.2.1 1).toInt)) ∧ (TRE o.2.2 gg) ∧ (TRH o.2.2 hh nb) ∧ (EX o.2.2 gg A0 nd))) (hfrec : ∀ (x1 : Int32) (x2 : Int32) (x3 : Int32) (I : Nat → Int32) (A : Nat → Nat → Int32) (o : Int32 × MS), rec x1 x2 x3 I A = some o → FrS [25, 26, 27, 28, 29, 33, 36, 37] [7, 8, 9, 10, 11, 12, 13, 14, 15, 24, 30, 31, 32, 34, 35] I A o.2.1 o.2.2) {self3 : Int32 → Int32 → Int32 → Int32 → (Nat → Int32) → (Nat → Nat → Int32) → Option (Int32 × MS)} {N3 : Nat} (hself3 : ∀ (x1 : Int32) (x2 : Int32) (x3 : Int32) (x4 : Int32) (I : Nat → Int32) (A : Nat → Nat → Int32), TJ I → TK A → ((0 : Int) ≤ x1.toInt ∧ x1.toInt ≤ (1 : Int)) → ((0 : Int) ≤ x2.toInt ∧ x2.toInt ≤ (300 : Int)) → ((0 : Int) ≤ x3.toInt ∧ x3.toInt ≤ (6 : Int)) → ((0 : Int) ≤ x4.toInt ∧ x4.toInt ≤ (300 : Int)) → ((I 37).toInt ≤ (I 1).toInt) → (aa ≤ (I 37).toInt) → (TRE A gg) → (TRH A hh nb) → (EX A gg A0 nd) → (x1.toInt = (gg : Int)) → (hh ≤ 1 ∧ hh ≠ gg) → (x4.toInt.toNat = nd ∨ aK A0 gg < x4.toInt.toNat) → (apd A gg x4.toInt.toNat x3.toInt) → (7 - x3.toInt ≤ rr) → (301 - (aK A gg : Int)) < (N3 : Int) → Ok (self3 x1 x2 x3 x4 I A) (fun o => TJ o.2.1 ∧ TK o.2.2 ∧ ((0 : Int) ≤ o.1.toInt ∧ o.1.toInt ≤ (92100 : Int)) ∧ ((o.2.1 37).toInt ≤ (o.2.1 1).toInt ∧ aa ≤ (o.2.1 37).toInt) ∧ ((o.1.toInt ≤ 0 → x3.toInt ≠ 0 → (o.2.1 37).toInt < (o.2.1 1).toInt)) ∧ (TRE o.2.2 gg) ∧ (TRH o.2.2 hh nb) ∧ (EX o.2.2 gg A0 nd))) {self113 : Int32 → Int32 → Int32 → Int32 → Int32 → Int32 → (Nat → Int32) → (Nat → Nat → Int32) → Option (Int32 × MS)} {N113 : Nat} (hself113 : ∀ (x1 : Int32) (x2 : Int32) (x3 : Int32) (x4 : Int32) (x5 : Int32) (x7 : Int32) (I : Nat → Int32) (A : Nat → Nat → Int32), TJ I → TK A → ((0 : Int) ≤ x1.toInt ∧ x1.toInt ≤ (1 : Int)) → ((0 : Int) ≤ x2.toInt ∧ x2.toInt ≤ (300 : Int)) → ((0 : Int) ≤ x3.toInt ∧ x3.toInt ≤ (6 : Int)) → ((0 : Int) ≤ x4.toInt ∧ x4.toInt ≤ (300 : Int)) → ((0 : Int) ≤ x5.toInt ∧ x5.toInt ≤ (92100 : Int)) → ((0 : Int) ≤ x7.toInt ∧ x7.toInt ≤ (300 : Int)) → ((I 37).toInt ≤ (I 1).toInt) → (aa ≤ (I 37).toInt) → (TRE A gg) → (TRH A hh nb) → (EX A gg A0 nd) → (x1.toInt = (gg : Int)) → (hh ≤ 1 ∧ hh ≠ gg) → (lnk A gg x4.toInt.toNat x3.toInt) → (leaf A gg x4.toInt.toNat) → (lnk A gg x7.toInt.toNat x3.toInt) → (aK A0 gg < x4.toInt.toNat) → (x7.toInt.toNat = nd ∨ aK A0 gg < x7.toInt.toNat) → (x7.toInt < x4.toInt) → (7 - x3.toInt ≤ rr) → ((302 - (aK A gg : Int)) ≤ (N3 : Int)) → ((I 1).toInt - (I 37).toInt) < (N113 : Int) → Ok (self113 x1 x2 x3 x4 x5 x7 I A) (fun o => TJ o.2.1 ∧ TK o.2.2 ∧ ((0 : Int) ≤ o.1.toInt ∧ o.1.toInt ≤ (92100 : Int)) ∧ ((o.2.1 37).toInt ≤ (o.2.1 1).toInt ∧ aa ≤ (o.2.1 37).toInt) ∧ ((o.1.toInt ≤ 0 → x3.toInt ≠ 0 → (o.2.1 37).toInt < (o.2.1 1).toInt)) ∧ (TRE o.2.2 gg) ∧ (TRH o.2.2 hh nb) ∧ (EX o.2.2 gg A0 nd))) {x1 : Int32} {x2 : Int32} {x3 : Int32} {x4 : Int32} {x5 : Int32} {x7 : Int32} {t0 : Int32} (hI : TJ I) (hA : TK A) (r_x1 : (0 : Int) ≤ x1.toInt ∧ x1.toInt ≤ (1 : Int)) (r_x2 : (0 : Int) ≤ x2.toInt ∧ x2.toInt ≤ (300 : Int)) (r_x3 : (0 : Int) ≤ x3.toInt ∧ x3.toInt ≤ (6 : Int)) (r_x4 : (0 : Int) ≤ x4.toInt ∧ x4.toInt ≤ (300 : Int)) (r_x5 : (0 : Int) ≤ x5.toInt ∧ x5.toInt ≤ (92100 : Int)) (r_x7 : (0 : Int) ≤ x7.toInt ∧ x7.toInt ≤ (300 : Int)) (r_t0 : (0 : Int) ≤ t0.toInt ∧ t0.toInt ≤ (2000 : Int)) (q0 : t0.toInt ≤ (I 1).toInt) (q1 : aa ≤ t0.toInt) (q2 : TRE A gg) (q3 : TRH A hh nb) (q4 : EX A gg A0 nd) (q5 : x1.toInt = (gg : Int)) (q6 : hh ≤ 1 ∧ hh ≠ gg) (q7 : lnk A gg x4.toInt.toNat x3.toInt) (q8 : leaf A gg x4.toInt.toNat) (q9 : lnk A gg x7.toInt.toNat x3.toInt) (q10 : aK A0 gg < x4.toInt.toNat) (q11 : x7.toInt.toNat = nd ∨ aK A0 gg < x7.toInt.toNat) (q12 : x7.toInt < x4.toInt) (q13 : 7 - x3.toInt ≤ rr) (m3 : (302 - (aK A gg : Int)) ≤ (N3 : Int)) (m113 : ((I 1).toInt - t0.toInt + 1) ≤ (N113 : Int)) : Ok (f_readLine_199 rec self3 self113 x1 x2 x3 x4 x5 x7 t0 I A) (fun o => TJ o.2.1 ∧ TK o.2.2 ∧ ((0 : Int) ≤ o.1.toInt ∧ o.1.toInt ≤ (92100 : Int)) ∧ ((o.2.1 37).toInt ≤ (o.2.1 1).toInt ∧ aa ≤ (o.2.1 37).toInt) ∧ ((o.1.toInt ≤ 0 → x3.toInt ≠ 0 → (o.2.1 37).toInt < (o.2.1 1).toInt)) ∧ (TRE o.2.2 gg) ∧ (TRH o.2.2 hh nb) ∧ (EX o.2.2 gg A0 nd)) := by
  unfold f_readLine_199
  have b_I_1 := tI_1 hI
  have b_I_37 := tI_37 hI
  have b_I_29 := tI_29 hI
  have ck0 : cK A gg (aK A gg) := rfl
  refine ok_bnd (fun I1 e25 => ?_)
  have hI_I1 : TJ I1 := e25.symm ▸ tj_u hI (k := 37) (show (0 : Int) ≤ t0.toInt from (by omega)) (show t0.toInt ≤ (2100 : Int) from (by omega))
  have : (I1 1).toInt = (I 1).toInt := by rw [e25]; rfl
  have : (I1 37).toInt = t0.toInt := by rw [e25]; exact rfl
  have : (I1 29).toInt = (I 29).toInt := by rw [e25]; rfl
  refine ok_if (fun c26 => ?_) (fun c26 => ?_)
  ·
    replace c26 := ti_leP c26 rfl (show (0 : Int32).toInt = 0 from rfl)
    have b_I1_1 := tI_1 hI_I1
    have b_I1_37 := tI_37 hI_I1
    obtain ⟨⟨r2, Ic2, Ac2⟩, h_r2, hI_Ic2, hA_Ac2, p_r2, p_r2_0⟩ := t_readRemarks (x1 := x1) (x2 := x4)  hI_I1 hA r_x1 r_x4 (by omega) (show (I1 37).toInt ≤ (I1 37).toInt from Int.le_refl _)
    replace hI_Ic2 : TJ Ic2 := hI_Ic2
    replace hA_Ac2 : TK Ac2 := hA_Ac2
    dsimp only at p_r2 p_r2_0
    refine ok_clR h_r2 ?_
    have f_r2 := fw_readRemarks h_r2
    have : (Ic2 1).toInt = (I1 1).toInt := congrArg Int32.toInt (f_r2.1 1 (by decide))
    have : (Ic2 29).toInt = (I1 29).toInt := congrArg Int32.toInt (f_r2.1 29 (by decide))
    have k27 : TRE Ac2 gg := TRE_fr (f_r2.2 7 (by decide)) (f_r2.2 8 (by decide)) (f_r2.2 9 (by decide)) (f_r2.2 10 (by decide)) (f_r2.2 11 (by decide)) q2
    have k28 : TRH Ac2 hh nb := TRH_fr (f_r2.2 7 (by decide)) (f_r2.2 8 (by decide)) (f_r2.2 9 (by decide)) (f_r2.2 10 (by decide)) (f_r2.2 11 (by decide)) q3
    have k29 : EX Ac2 gg A0 nd := EX_fr (f_r2.2 7 (by decide)) (f_r2.2 8 (by decide)) (f_r2.2 10 (by decide)) q4
    have k30 : lnk Ac2 gg x4.toInt.toNat x3.toInt := lnk_fr (f_r2.2 7 (by decide)) (f_r2.2 8 (by decide)) (f_r2.2 10 (by decide)) q7
    have k31 : leaf Ac2 gg x4.toInt.toNat := leaf_fr (f_r2.2 10 (by decide)) q8
    have k32 : lnk Ac2 gg x7.toInt.toNat x3.toInt := lnk_fr (f_r2.2 7 (by decide)) (f_r2.2 8 (by decide)) (f_r2.2 10 (by decide)) q9
    have k33 : cK Ac2 gg (aK A gg) := cK_fr (f_r2.2 7 (by decide)) ck0
    unfold f_readLine_219
    have b_Ic2_1 := tI_1 hI_Ic2
    have b_Ic2_37 := tI_37 hI_Ic2
    exact hself113 x1 x2 x3 x4 r2 x7 Ic2 Ac2 hI_Ic2 hA_Ac2 r_x1 r_x2 r_x3 r_x4 (by omega) r_x7 (by omega) (by omega) k27 k28 k29 q5 q6 k30 k31 k32 q10 q11 q12 q13 (by have z := k33; unfold cK at z; omega) (by omega)
  ·
    replace c26 := ti_leN c26 rfl (show (0 : Int32).toInt = 0 from rfl)
    unfold f_readLine_219
    have b_I1_1 := tI_1 hI_I1
    have b_I1_37 := tI_37 hI_I1
    exact hself113 x1 x2 x3 x4 x5 x7 I1 A hI_I1 hA r_x1 r_x2 r_x3 r_x4 r_x5 r_x7 (by omega) (by omega) q2 q3 q4 q5 q6 q7 q8 q9 q10 q11 q12 q13 m3 (by omega)
theorem t_readLine_178 {gg hh nb : Nat} {aa : Int} {A0 : Nat → Nat → Int32} {nd : Nat} {rr : Int} {I : Nat → Int32} {A : Nat → Nat → Int32} {rec : Int32 → Int32 → Int32 → (Nat → Int32) → (Nat → Nat → Int32) → Option (Int32 × MS)} (hrec : ∀ (gg hh nb : Nat) (aa : Int) (A0 : Nat → Nat → Int32) (nd : Nat) (x1 : Int32) (x2 : Int32) (x3 : Int32) (I : Nat → Int32) (A : Nat → Nat → Int32), TJ I → TK A → ((0 : Int) ≤ x1.toInt ∧ x1.toInt ≤ (1 : Int)) → ((0 : Int) ≤ x2.toInt ∧ x2.toInt ≤ (300 : Int)) → ((0 : Int) ≤ x3.toInt ∧ x3.toInt ≤ (6 : Int)) → ((I 37).toInt ≤ (I 1).toInt) → (aa ≤ (I 37).toInt) → (TRE A gg) → (TRH A hh nb) → (EX A gg A0 nd) → (x1.toInt = (gg : Int)) → (hh ≤ 1 ∧ hh ≠ gg) → (x2.toInt.toNat = nd ∨ aK A0 gg < x2.toInt.toNat) → (apd A gg x2.toInt.toNat x3.toInt) → (7 - x3.toInt ≤ rr - 1) → Ok (rec x1 x2 x3 I A) (fun o => TJ o.2.1 ∧ TK o.2.2 ∧ ((0 : Int) ≤ o.1.toInt ∧ o.1.toInt ≤ (92100 : Int)) ∧ ((o.2.1 37).toInt ≤ (o.2.1 1).toInt ∧ aa ≤ (o.2.1 37).toInt) ∧ ((o.1.toInt ≤ 0 → x3.toInt ≠ 0 → (o.2.1 37).toInt < (o.2.1 1).toInt)) ∧ (TRE o.2.2 gg) ∧ (TRH o.2.2 hh nb) ∧ (EX o.2.2 gg A0 nd))) (hfrec : ∀ (x1 : Int32) (x2 : Int32) (x3 : Int32) (I : Nat → Int32) (A : Nat → Nat → Int32) (o : Int32 × MS), rec x1 x2 x3 I A = some o → FrS [25, 26, 27, 28, 29, 33, 36, 37] [7, 8, 9, 10, 11, 12, 13, 14, 15, 24, 30, 31, 32, 34, 35] I A o.2.1 o.2.2) {self3 : Int32 → Int32 → Int32 → Int32 → (Nat → Int32) → (Nat → Nat → Int32) → Option (Int32 × MS)} {N3 : Nat} (hself3 : ∀ (x1 : Int32) (x2 : Int32) (x3 : Int32) (x4 : Int32) (I : Nat → Int32) (A : Nat → Nat → Int32), TJ I → TK A → ((0 : Int) ≤ x1.toInt ∧ x1.toInt ≤ (1 : Int)) → ((0 : Int) ≤ x2.toInt ∧ x2.toInt ≤ (300 : Int)) → ((0 : Int) ≤ x3.toInt ∧ x3.toInt ≤ (6 : Int)) → ((0 : Int) ≤ x4.toInt ∧ x4.toInt ≤ (300 : Int)) → ((I 37).toInt ≤ (I 1).toInt) → (aa ≤ (I 37).toInt) → (TRE A gg) → (TRH A hh nb) → (EX A gg A0 nd) → (x1.toInt = (gg : Int)) → (hh ≤ 1 ∧ hh ≠ gg) → (x4.toInt.toNat = nd ∨ aK A0 gg < x4.toInt.toNat) → (apd A gg x4.toInt.toNat x3.toInt) → (7 - x3.toInt ≤ rr) → (301 - (aK A gg : Int)) < (N3 : Int) → Ok (self3 x1 x2 x3 x4 I A) (fun o => TJ o.2.1 ∧ TK o.2.2 ∧ ((0 : Int) ≤ o.1.toInt ∧ o.1.toInt ≤ (92100 : Int)) ∧ ((o.2.1 37).toInt ≤ (o.2.1 1).toInt ∧ aa ≤ (o.2.1 37).toInt) ∧ ((o.1.toInt ≤ 0 → x3.toInt ≠ 0 → (o.2.1 37).toInt < (o.2.1 1).toInt)) ∧ (TRE o.2.2 gg) ∧ (TRH o.2.2 hh nb) ∧ (EX o.2.2 gg A0 nd))) {self113 : Int32 → Int32 → Int32 → Int32 → Int32 → Int32 → (Nat → Int32) → (Nat → Nat → Int32) → Option (Int32 × MS)} {N113 : Nat} (hself113 : ∀ (x1 : Int32) (x2 : Int32) (x3 : Int32) (x4 : Int32) (x5 : Int32) (x7 : Int32) (I : Nat → Int32) (A : Nat → Nat → Int32), TJ I → TK A → ((0 : Int) ≤ x1.toInt ∧ x1.toInt ≤ (1 : Int)) → ((0 : Int) ≤ x2.toInt ∧ x2.toInt ≤ (300 : Int)) → ((0 : Int) ≤ x3.toInt ∧ x3.toInt ≤ (6 : Int)) → ((0 : Int) ≤ x4.toInt ∧ x4.toInt ≤ (300 : Int)) → ((0 : Int) ≤ x5.toInt ∧ x5.toInt ≤ (92100 : Int)) → ((0 : Int) ≤ x7.toInt ∧ x7.toInt ≤ (300 : Int)) → ((I 37).toInt ≤ (I 1).toInt) → (aa ≤ (I 37).toInt) → (TRE A gg) → (TRH A hh nb) → (EX A gg A0 nd) → (x1.toInt = (gg : Int)) → (hh ≤ 1 ∧ hh ≠ gg) → (lnk A gg x4.toInt.toNat x3.toInt) → (leaf A gg x4.toInt.toNat) → (lnk A gg x7.toInt.toNat x3.toInt) → (aK A0 gg < x4.toInt.toNat) → (x7.toInt.toNat = nd ∨ aK A0 gg < x7.toInt.toNat) → (x7.toInt < x4.toInt) → (7 - x3.toInt ≤ rr) → ((302 - (aK A gg : Int)) ≤ (N3 : Int)) → ((I 1).toInt - (I 37).toInt) < (N113 : Int) → Ok (self113 x1 x2 x3 x4 x5 x7 I A) (fun o => TJ o.2.1 ∧ TK o.2.2 ∧ ((0 : Int) ≤ o.1.toInt ∧ o.1.toInt ≤ (92100 : Int)) ∧ ((o.2.1 37).toInt ≤ (o.2.1 1).toInt ∧ aa ≤ (o.2.1 37).toInt) ∧ ((o.1.toInt ≤ 0 → x3.toInt ≠ 0 → (o.2.1 37).toInt < (o.2.1 1).toInt)) ∧ (TRE o.2.2 gg) ∧ (TRH o.2.2 hh nb) ∧ (EX o.2.2 gg A0 nd))) {x1 : Int32} {x2 : Int32} {x3 : Int32} {x4 : Int32} {x7 : Int32} {t0 : Int32} (hI : TJ I) (hA : TK A) (r_x1 : (0 : Int) ≤ x1.toInt ∧ x1.toInt ≤ (1 : Int)) (r_x2 : (0 : Int) ≤ x2.toInt ∧ x2.toInt ≤ (300 : Int)) (r_x3 : (0 : Int) ≤ x3.toInt ∧ x3.toInt ≤ (6 : Int)) (r_x4 : (0 : Int) ≤ x4.toInt ∧ x4.toInt ≤ (300 : Int)) (r_x7 : (0 : Int) ≤ x7.toInt ∧ x7.toInt ≤ (300 : Int)) (r_t0 : (0 : Int) ≤ t0.toInt ∧ t0.toInt ≤ (92100 : Int)) (q0 : (I 37).toInt ≤ (I 1).toInt) (q1 : aa ≤ (I 37).toInt) (q2 : TRE A gg) (q3 : TRH A hh nb) (q4 : EX A gg A0 nd) (q5 : x1.toInt = (gg : Int)) (q6 : hh ≤ 1 ∧ hh ≠ gg) (q7 : lnk A gg x4.toInt.toNat x3.toInt) (q8 : leaf A gg x4.toInt.toNat) (q9 : lnk A gg x7.toInt.toNat x3.toInt) (q10 : aK A0 gg < x4.toInt.toNat) (q11 : x7.toInt.toNat = nd ∨ aK A0 gg < x7.toInt.toNat) (q12 : x7.toInt < x4.toInt) (q13 : 7 - x3.toInt ≤ rr) (q14 : t0.toInt ≤ 0 → (I 37).toInt < (I 1).toInt) (m3 : (302 - (aK A gg : Int)) ≤ (N3 : Int)) (m113 : ((I 1).toInt - (I 37).toInt + 1) ≤ (N113 : Int)) : Ok (f_readLine_178 rec self3 self113 x1 x2 x3 x4 x7 t0 I A) (fun o => TJ o.2.1 ∧ TK o.2.2 ∧ ((0 : Int) ≤ o.1.toInt ∧ o.1.toInt ≤ (92100 : Int)) ∧ ((o.2.1 37).toInt ≤ (o.2.1 1).toInt ∧ aa ≤ (o.2.1 37).toInt) ∧ ((o.1.toInt ≤ 0 → x3.toInt ≠ 0 → (o.2.1 37).toInt < (o.2.1 1).toInt)) ∧ (TRE o.2.2 gg) ∧ (TRH o.2.2 hh nb) ∧ (EX o.2.2 gg A0 nd)) := by
  unfold f_readLine_178
  have b_I_1 := tI_1 hI
  have b_I_37 := tI_37 hI
  have b_I_29 := tI_29 hI
  refine ok_if (fun c34 => ?_) (fun c34 => ?_)
  ·
    replace c34 := ti_leP c34 rfl (show (0 : Int32).toInt = 0 from rfl)
    refine ok_bnd (fun v1 e35 => ?_)
    have t_v1 : v1.toInt = (I 37).toInt + 1 := ti_add e35 rfl (show (1 : Int32).toInt = 1 from rfl) (by omega) (by omega)
    exact t_readLine_199 (gg := gg) (hh := hh) (nb := nb) (aa := aa) (A0 := A0) (nd := nd) (rr := rr) hrec hfrec hself3 hself113 (x1 := x1) (x2 := x2) (x3 := x3) (x4 := x4) (x5 := t0) (x7 := x7) (t0 := v1) hI hA r_x1 r_x2 r_x3 r_x4 r_t0 r_x7 (by omega) (by omega) (by omega) q2 q3 q4 q5 q6 q7 q8 q9 q10 q11 q12 q13 m3 (by omega)
  ·
    replace c34 := ti_leN c34 rfl (show (0 : Int32).toInt = 0 from rfl)
    exact t_readLine_199 (gg := gg) (hh := hh) (nb := nb) (aa := aa) (A0 := A0) (nd := nd) (rr := rr) hrec hfrec hself3 hself113 (x1 := x1) (x2 := x2) (x3 := x3) (x4 := x4) (x5 := t0) (x7 := x7) (t0 := (I 37)) hI hA r_x1 r_x2 r_x3 r_x4 r_t0 r_x7 (by omega) q0 q1 q2 q3 q4 q5 q6 q7 q8 q9 q10 q11 q12 q13 m3 m113
theorem t_readLine_146 {gg hh nb : Nat} {aa : Int} {A0 : Nat → Nat → Int32} {nd : Nat} {rr : Int} {I : Nat → Int32} {A : Nat → Nat → Int32} {rec : Int32 → Int32 → Int32 → (Nat → Int32) → (Nat → Nat → Int32) → Option (Int32 × MS)} (hrec : ∀ (gg hh nb : Nat) (aa : Int) (A0 : Nat → Nat → Int32) (nd : Nat) (x1 : Int32) (x2 : Int32) (x3 : Int32) (I : Nat → Int32) (A : Nat → Nat → Int32), TJ I → TK A → ((0 : Int) ≤ x1.toInt ∧ x1.toInt ≤ (1 : Int)) → ((0 : Int) ≤ x2.toInt ∧ x2.toInt ≤ (300 : Int)) → ((0 : Int) ≤ x3.toInt ∧ x3.toInt ≤ (6 : Int)) → ((I 37).toInt ≤ (I 1).toInt) → (aa ≤ (I 37).toInt) → (TRE A gg) → (TRH A hh nb) → (EX A gg A0 nd) → (x1.toInt = (gg : Int)) → (hh ≤ 1 ∧ hh ≠ gg) → (x2.toInt.toNat = nd ∨ aK A0 gg < x2.toInt.toNat) → (apd A gg x2.toInt.toNat x3.toInt) → (7 - x3.toInt ≤ rr - 1) → Ok (rec x1 x2 x3 I A) (fun o => TJ o.2.1 ∧ TK o.2.2 ∧ ((0 : Int) ≤ o.1.toInt ∧ o.1.toInt ≤ (92100 : Int)) ∧ ((o.2.1 37).toInt ≤ (o.2.1 1).toInt ∧ aa ≤ (o.2.1 37).toInt) ∧ ((o.1.toInt ≤ 0 → x3.toInt ≠ 0 → (o.2.1 37).toInt < (o.2.1 1).toInt)) ∧ (TRE o.2.2 gg) ∧ (TRH o.2.2 hh nb) ∧ (EX o.2.2 gg A0 nd))) (hfrec : ∀ (x1 : Int32) (x2 : Int32) (x3 : Int32) (I : Nat → Int32) (A : Nat → Nat → Int32) (o : Int32 × MS), rec x1 x2 x3 I A = some o → FrS [25, 26, 27, 28, 29, 33, 36, 37] [7, 8, 9, 10, 11, 12, 13, 14, 15, 24, 30, 31, 32, 34, 35] I A o.2.1 o.2.2) {self3 : Int32 → Int32 → Int32 → Int32 → (Nat → Int32) → (Nat → Nat → Int32) → Option (Int32 × MS)} {N3 : Nat} (hself3 : ∀ (x1 : Int32) (x2 : Int32) (x3 : Int32) (x4 : Int32) (I : Nat → Int32) (A : Nat → Nat → Int32), TJ I → TK A → ((0 : Int) ≤ x1.toInt ∧ x1.toInt ≤ (1 : Int)) → ((0 : Int) ≤ x2.toInt ∧ x2.toInt ≤ (300 : Int)) → ((0 : Int) ≤ x3.toInt ∧ x3.toInt ≤ (6 : Int)) → ((0 : Int) ≤ x4.toInt ∧ x4.toInt ≤ (300 : Int)) → ((I 37).toInt ≤ (I 1).toInt) → (aa ≤ (I 37).toInt) → (TRE A gg) → (TRH A hh nb) → (EX A gg A0 nd) → (x1.toInt = (gg : Int)) → (hh ≤ 1 ∧ hh ≠ gg) → (x4.toInt.toNat = nd ∨ aK A0 gg < x4.toInt.toNat) → (apd A gg x4.toInt.toNat x3.toInt) → (7 - x3.toInt ≤ rr) → (301 - (aK A gg : Int)) < (N3 : Int) → Ok (self3 x1 x2 x3 x4 I A) (fun o => TJ o.2.1 ∧ TK o.2.2 ∧ ((0 : Int) ≤ o.1.toInt ∧ o.1.toInt ≤ (92100 : Int)) ∧ ((o.2.1 37).toInt ≤ (o.2.1 1).toInt ∧ aa ≤ (o.2.1 37).toInt) ∧ ((o.1.toInt ≤ 0 → x3.toInt ≠ 0 → (o.2.1 37).toInt < (o.2.1 1).toInt)) ∧ (TRE o.2.2 gg) ∧ (TRH o.2.2 hh nb) ∧ (EX o.2.2 gg A0 nd))) {self113 : Int32 → Int32 → Int32 → Int32 → Int32 → Int32 → (Nat → Int32) → (Nat → Nat → Int32) → Option (Int32 × MS)} {N113 : Nat} (hself113 : ∀ (x1 : Int32) (x2 : Int32) (x3 : Int32) (x4 : Int32) (x5 : Int32) (x7 : Int32) (I : Nat → Int32) (A : Nat → Nat → Int32), TJ I → TK A → ((0 : Int) ≤ x1.toInt ∧ x1.toInt ≤ (1 : Int)) → ((0 : Int) ≤ x2.toInt ∧ x2.toInt ≤ (300 : Int)) → ((0 : Int) ≤ x3.toInt ∧ x3.toInt ≤ (6 : Int)) → ((0 : Int) ≤ x4.toInt ∧ x4.toInt ≤ (300 : Int)) → ((0 : Int) ≤ x5.toInt ∧ x5.toInt ≤ (92100 : Int)) → ((0 : Int) ≤ x7.toInt ∧ x7.toInt ≤ (300 : Int)) → ((I 37).toInt ≤ (I 1).toInt) → (aa ≤ (I 37).toInt) → (TRE A gg) → (TRH A hh nb) → (EX A gg A0 nd) → (x1.toInt = (gg : Int)) → (hh ≤ 1 ∧ hh ≠ gg) → (lnk A gg x4.toInt.toNat x3.toInt) → (leaf A gg x4.toInt.toNat) → (lnk A gg x7.toInt.toNat x3.toInt) → (aK A0 gg < x4.toInt.toNat) → (x7.toInt.toNat = nd ∨ aK A0 gg < x7.toInt.toNat) → (x7.toInt < x4.toInt) → (7 - x3.toInt ≤ rr) → ((302 - (aK A gg : Int)) ≤ (N3 : Int)) → ((I 1).toInt - (I 37).toInt) < (N113 : Int) → Ok (self113 x1 x2 x3 x4 x5 x7 I A) (fun o => TJ o.2.1 ∧ TK o.2.2 ∧ ((0 : Int) ≤ o.1.toInt ∧ o.1.toInt ≤ (92100 : Int)) ∧ ((o.2.1 37).toInt ≤ (o.2.1 1).toInt ∧ aa ≤ (o.2.1 37).toInt) ∧ ((o.1.toInt ≤ 0 → x3.toInt ≠ 0 → (o.2.1 37).toInt < (o.2.1 1).toInt)) ∧ (TRE o.2.2 gg) ∧ (TRH o.2.2 hh nb) ∧ (EX o.2.2 gg A0 nd))) {x1 : Int32} {x2 : Int32} {x3 : Int32} {x4 : Int32} {x7 : Int32} {t0 : Int32} (hI : TJ I) (hA : TK A) (r_x1 : (0 : Int) ≤ x1.toInt ∧ x1.toInt ≤ (1 : Int)) (r_x2 : (0 : Int) ≤ x2.toInt ∧ x2.toInt ≤ (300 : Int)) (r_x3 : (0 : Int) ≤ x3.toInt ∧ x3.toInt ≤ (6 : Int)) (r_x4 : (0 : Int) ≤ x4.toInt ∧ x4.toInt ≤ (300 : Int)) (r_x7 : (0 : Int) ≤ x7.toInt ∧ x7.toInt ≤ (300 : Int)) (r_t0 : (0 : Int) ≤ t0.toInt ∧ t0.toInt ≤ (92100 : Int)) (q0 : (I 37).toInt < (I 1).toInt) (q1 : aa ≤ (I 37).toInt) (q2 : TRE A gg) (q3 : TRH A hh nb) (q4 : EX A gg A0 nd) (q5 : x1.toInt = (gg : Int)) (q6 : hh ≤ 1 ∧ hh ≠ gg) (q7 : lnk A gg x4.toInt.toNat x3.toInt) (q8 : leaf A gg x4.toInt.toNat) (q9 : lnk A gg x7.toInt.toNat x3.toInt) (q10 : aK A0 gg < x4.toInt.toNat) (q11 : x7.toInt.toNat = nd ∨ aK A0 gg < x7.toInt.toNat) (q12 : x7.toInt < x4.toInt) (q13 : 7 - x3.toInt ≤ rr) (q14 : t0.toInt ≤ 0 → x3.toInt ≤ 5) (m3 : (302 - (aK A gg : Int)) ≤ (N3 : Int)) (m113 : ((I 1).toInt - (I 37).toInt) ≤ (N113 : Int)) : Ok (f_readLine_146 rec self3 self113 x1 x2 x3 x4 x7 t0 I A) (fun o => TJ o.2.1 ∧ TK o.2.2 ∧ ((0 : Int) ≤ o.1.toInt ∧ o.1.toInt ≤ (92100 : Int)) ∧ ((o.2.1 37).toInt ≤ (o.2.1 1).toInt ∧ aa ≤ (o.2.1 37).toInt) ∧ ((o.1.toInt ≤ 0 → x3.toInt ≠ 0 → (o.2.1 37).toInt < (o.2.1 1).toInt)) ∧ (TRE o.2.2 gg) ∧ (TRH o.2.2 hh nb) ∧ (EX o.2.2 gg A0 nd)) := by
  unfold f_readLine_146
  have b_I_1 := tI_1 hI
  have b_I_37 := tI_37 hI
  have b_I_29 := tI_29 hI
  refine ok_bnd (fun v1 e36 => ?_)
  have t_v1 : v1.toInt = (I 37).toInt + 1 := ti_add e36 rfl (show (1 : Int32).toInt = 1 from rfl) (by omega) (by omega)
  refine ok_bnd (fun I2 e37 => ?_)
  have hI_I2 : TJ I2 := e37.symm ▸ tj_u hI (k := 37) (show (0 : Int) ≤ v1.toInt from (by omega)) (show v1.toInt ≤ (2100 : Int) from (by omega))
  have : (I2 1).toInt = (I 1).toInt := by rw [e37]; rfl
  have : (I2 37).toInt = v1.toInt := by rw [e37]; exact rfl
  have : (I2 29).toInt = (I 29).toInt := by rw [e37]; rfl
  refine ok_if (fun c38 => ?_) (fun c38 => ?_)
  ·
    replace c38 := ti_leP c38 rfl (show (0 : Int32).toInt = 0 from rfl)
    refine ok_bnd (fun v3 e39 => ?_)
    have t_v3 : v3.toInt = x3.toInt + 1 := ti_add e39 rfl (show (1 : Int32).toInt = 1 from rfl) (by omega) (by omega)
    have b_I2_1 := tI_1 hI_I2
    have b_I2_37 := tI_37 hI_I2
    obtain ⟨⟨r4, Ic4, Ac4⟩, h_r4, hI_Ic4, hA_Ac4, p_r4, p_r4_0, p_r4_1, p_r4_2, p_r4_3, p_r4_4⟩ := hrec (gg) (hh) (nb) ((I2 37).toInt) (A) (x7.toInt.toNat) x1 x7 v3 I2 A  hI_I2 hA r_x1 r_x7 (by omega) (by omega) (by omega) q2 q3 EX_refl q5 q6 (Or.inl rfl) (by rw [t_v3]; exact apd_lnk q9) (by omega)
    replace hI_Ic4 : TJ Ic4 := hI_Ic4
    replace hA_Ac4 : TK Ac4 := hA_Ac4
    dsimp only at p_r4 p_r4_0 p_r4_1 p_r4_2 p_r4_3 p_r4_4
    refine ok_clR h_r4 ?_
    have f_r4 := hfrec _ _ _ _ _ _ h_r4
    have : (Ic4 1).toInt = (I2 1).toInt := congrArg Int32.toInt (f_r4.1 1 (by decide))
    have ex4 : EX Ac4 gg A0 nd := EX_tr q4 p_r4_4 q11
    have ln4 : lnk Ac4 gg x4.toInt.toNat x3.toInt := p_r4_4.2.1 _ _ q7
    have lf4 : leaf Ac4 gg x4.toInt.toNat := p_r4_4.2.2 _ (q7).1 (by omega) q8
    have lb4 : lnk Ac4 gg x7.toInt.toNat x3.toInt := p_r4_4.2.1 _ _ q9
    have k4 := p_r4_4.1
    have b_Ic4_1 := tI_1 hI_Ic4
    have b_Ic4_37 := tI_37 hI_Ic4
    exact t_readLine_178 (gg := gg) (hh := hh) (nb := nb) (aa := aa) (A0 := A0) (nd := nd) (rr := rr) hrec hfrec hself3 hself113 (x1 := x1) (x2 := x2) (x3 := x3) (x4 := x4) (x7 := x7) (t0 := r4) hI_Ic4 hA_Ac4 r_x1 r_x2 r_x3 r_x4 r_x7 (by omega) (by omega) (by omega) p_r4_2 p_r4_3 ex4 q5 q6 ln4 lf4 lb4 q10 q11 q12 q13 (by first | exact (fun h => p_r4_1 h (by omega)) | omega) (by omega) (by omega)
  ·
    replace c38 := ti_leN c38 rfl (show (0 : Int32).toInt = 0 from rfl)
    have b_I2_1 := tI_1 hI_I2
    have b_I2_37 := tI_37 hI_I2
    exact t_readLine_178 (gg := gg) (hh := hh) (nb := nb) (aa := aa) (A0 := A0) (nd := nd) (rr := rr) hrec hfrec hself3 hself113 (x1 := x1) (x2 := x2) (x3 := x3) (x4 := x4) (x7 := x7) (t0 := t0) hI_I2 hA r_x1 r_x2 r_x3 r_x4 r_x7 r_t0 (by omega) (by omega) q2 q3 q4 q5 q6 q7 q8 q9 q10 q11 q12 q13 (by first | exact (fun h => p_r4_1 h (by omega)) | omega) m3 (by omega)
theorem t_readLine_113s {gg hh nb : Nat} {aa : Int} {A0 : Nat → Nat → Int32} {nd : Nat} {rr : Int} {I : Nat → Int32} {A : Nat → Nat → Int32} {rec : Int32 → Int32 → Int32 → (Nat → Int32) → (Nat → Nat → Int32) → Option (Int32 × MS)} (hrec : ∀ (gg hh nb : Nat) (aa : Int) (A0 : Nat → Nat → Int32) (nd : Nat) (x1 : Int32) (x2 : Int32) (x3 : Int32) (I : Nat → Int32) (A : Nat → Nat → Int32), TJ I → TK A → ((0 : Int) ≤ x1.toInt ∧ x1.toInt ≤ (1 : Int)) → ((0 : Int) ≤ x2.toInt ∧ x2.toInt ≤ (300 : Int)) → ((0 : Int) ≤ x3.toInt ∧ x3.toInt ≤ (6 : Int)) → ((I 37).toInt ≤ (I 1).toInt) → (aa ≤ (I 37).toInt) → (TRE A gg) → (TRH A hh nb) → (EX A gg A0 nd) → (x1.toInt = (gg : Int)) → (hh ≤ 1 ∧ hh ≠ gg) → (x2.toInt.toNat = nd ∨ aK A0 gg < x2.toInt.toNat) → (apd A gg x2.toInt.toNat x3.toInt) → (7 - x3.toInt ≤ rr - 1) → Ok (rec x1 x2 x3 I A) (fun o => TJ o.2.1 ∧ TK o.2.2 ∧ ((0 : Int) ≤ o.1.toInt ∧ o.1.toInt ≤ (92100 : Int)) ∧ ((o.2.1 37).toInt ≤ (o.2.1 1).toInt ∧ aa ≤ (o.2.1 37).toInt) ∧ ((o.1.toInt ≤ 0 → x3.toInt ≠ 0 → (o.2.1 37).toInt < (o.2.1 1).toInt)) ∧ (TRE o.2.2 gg) ∧ (TRH o.2.2 hh nb) ∧ (EX o.2.2 gg A0 nd))) (hfrec : ∀ (x1 : Int32) (x2 : Int32) (x3 : Int32) (I : Nat → Int32) (A : Nat → Nat → Int32) (o : Int32 × MS), rec x1 x2 x3 I A = some o → FrS [25, 26, 27, 28, 29, 33, 36, 37] [7, 8, 9, 10, 11, 12, 13, 14, 15, 24, 30, 31, 32, 34, 35] I A o.2.1 o.2.2) {self3 : Int32 → Int32 → Int32 → Int32 → (Nat → Int32) → (Nat → Nat → Int32) → Option (Int32 × MS)} {N3 : Nat} (hself3 : ∀ (x1 : Int32) (x2 : Int32) (x3 : Int32) (x4 : Int32) (I : Nat → Int32) (A : Nat → Nat → Int32), TJ I → TK A → ((0 : Int) ≤ x1.toInt ∧ x1.toInt ≤ (1 : Int)) → ((0 : Int) ≤ x2.toInt ∧ x2.toInt ≤ (300 : Int)) → ((0 : Int) ≤ x3.toInt ∧ x3.toInt ≤ (6 : Int)) → ((0 : Int) ≤ x4.toInt ∧ x4.toInt ≤ (300 : Int)) → ((I 37).toInt ≤ (I 1).toInt) → (aa ≤ (I 37).toInt) → (TRE A gg) → (TRH A hh nb) → (EX A gg A0 nd) → (x1.toInt = (gg : Int)) → (hh ≤ 1 ∧ hh ≠ gg) → (x4.toInt.toNat = nd ∨ aK A0 gg < x4.toInt.toNat) → (apd A gg x4.toInt.toNat x3.toInt) → (7 - x3.toInt ≤ rr) → (301 - (aK A gg : Int)) < (N3 : Int) → Ok (self3 x1 x2 x3 x4 I A) (fun o => TJ o.2.1 ∧ TK o.2.2 ∧ ((0 : Int) ≤ o.1.toInt ∧ o.1.toInt ≤ (92100 : Int)) ∧ ((o.2.1 37).toInt ≤ (o.2.1 1).toInt ∧ aa ≤ (o.2.1 37).toInt) ∧ ((o.1.toInt ≤ 0 → x3.toInt ≠ 0 → (o.2.1 37).toInt < (o.2.1 1).toInt)) ∧ (TRE o.2.2 gg) ∧ (TRH o.2.2 hh nb) ∧ (EX o.2.2 gg A0 nd))) {self113 : Int32 → Int32 → Int32 → Int32 → Int32 → Int32 → (Nat → Int32) → (Nat → Nat → Int32) → Option (Int32 × MS)} {N113 : Nat} (hself113 : ∀ (x1 : Int32) (x2 : Int32) (x3 : Int32) (x4 : Int32) (x5 : Int32) (x7 : Int32) (I : Nat → Int32) (A : Nat → Nat → Int32), TJ I → TK A → ((0 : Int) ≤ x1.toInt ∧ x1.toInt ≤ (1 : Int)) → ((0 : Int) ≤ x2.toInt ∧ x2.toInt ≤ (300 : Int)) → ((0 : Int) ≤ x3.toInt ∧ x3.toInt ≤ (6 : Int)) → ((0 : Int) ≤ x4.toInt ∧ x4.toInt ≤ (300 : Int)) → ((0 : Int) ≤ x5.toInt ∧ x5.toInt ≤ (92100 : Int)) → ((0 : Int) ≤ x7.toInt ∧ x7.toInt ≤ (300 : Int)) → ((I 37).toInt ≤ (I 1).toInt) → (aa ≤ (I 37).toInt) → (TRE A gg) → (TRH A hh nb) → (EX A gg A0 nd) → (x1.toInt = (gg : Int)) → (hh ≤ 1 ∧ hh ≠ gg) → (lnk A gg x4.toInt.toNat x3.toInt) → (leaf A gg x4.toInt.toNat) → (lnk A gg x7.toInt.toNat x3.toInt) → (aK A0 gg < x4.toInt.toNat) → (x7.toInt.toNat = nd ∨ aK A0 gg < x7.toInt.toNat) → (x7.toInt < x4.toInt) → (7 - x3.toInt ≤ rr) → ((302 - (aK A gg : Int)) ≤ (N3 : Int)) → ((I 1).toInt - (I 37).toInt) < (N113 : Int) → Ok (self113 x1 x2 x3 x4 x5 x7 I A) (fun o => TJ o.2.1 ∧ TK o.2.2 ∧ ((0 : Int) ≤ o.1.toInt ∧ o.1.toInt ≤ (92100 : Int)) ∧ ((o.2.1 37).toInt ≤ (o.2.1 1).toInt ∧ aa ≤ (o.2.1 37).toInt) ∧ ((o.1.toInt ≤ 0 → x3.toInt ≠ 0 → (o.2.1 37).toInt < (o.2.1 1).toInt)) ∧ (TRE o.2.2 gg) ∧ (TRH o.2.2 hh nb) ∧ (EX o.2.2 gg A0 nd))) {x1 : Int32} {x2 : Int32} {x3 : Int32} {x4 : Int32} {x5 : Int32} {x7 : Int32} (hI : TJ I) (hA : TK A) (r_x1 : (0 : Int) ≤ x1.toInt ∧ x1.toInt ≤ (1 : Int)) (r_x2 : (0 : Int) ≤ x2.toInt ∧ x2.toInt ≤ (300 : Int)) (r_x3 : (0 : Int) ≤ x3.toInt ∧ x3.toInt ≤ (6 : Int)) (r_x4 : (0 : Int) ≤ x4.toInt ∧ x4.toInt ≤ (300 : Int)) (r_x5 : (0 : Int) ≤ x5.toInt ∧ x5.toInt ≤ (92100 : Int)) (r_x7 : (0 : Int) ≤ x7.toInt ∧ x7.toInt ≤ (300 : Int)) (q0 : (I 37).toInt ≤ (I 1).toInt) (q1 : aa ≤ (I 37).toInt) (q2 : TRE A gg) (q3 : TRH A hh nb) (q4 : EX A gg A0 nd) (q5 : x1.toInt = (gg : Int)) (q6 : hh ≤ 1 ∧ hh ≠ gg) (q7 : lnk A gg x4.toInt.toNat x3.toInt) (q8 : leaf A gg x4.toInt.toNat) (q9 : lnk A gg x7.toInt.toNat x3.toInt) (q10 : aK A0 gg < x4.toInt.toNat) (q11 : x7.toInt.toNat = nd ∨ aK A0 gg < x7.toInt.toNat) (q12 : x7.toInt < x4.toInt) (q13 : 7 - x3.toInt ≤ rr) (m3 : (302 - (aK A gg : Int)) ≤ (N3 : Int)) (m113 : ((I 1).toInt - (I 37).toInt) ≤ (N113 : Int)) : Ok (f_readLine_113s rec self3 self113 x1 x2 x3 x4 x5 x7 I A) (fun o => TJ o.2.1 ∧ TK o.2.2 ∧ ((0 : Int) ≤ o.1.toInt ∧ o.1.toInt ≤ (92100 : Int)) ∧ ((o.2.1 37).toInt ≤ (o.2.1 1).toInt ∧ aa ≤ (o.2.1 37).toInt) ∧ ((o.1.toInt ≤ 0 → x3.toInt ≠ 0 → (o.2.1 37).toInt < (o.2.1 1).toInt)) ∧ (TRE o.2.2 gg) ∧ (TRH o.2.2 hh nb) ∧ (EX o.2.2 gg A0 nd)) := by
  unfold f_readLine_113s
  have b_I_1 := tI_1 hI
  have b_I_37 := tI_37 hI
  have b_I_29 := tI_29 hI
  refine ok_if (fun c40 => ?_) (fun c40 => ?_)
  ·
    replace c40 := ti_eqP c40 rfl (show (0 : Int32).toInt = 0 from rfl)
    obtain ⟨r1, h_r1, p_r1⟩ := ro (t_look   hI hA )
    refine ok_clR h_r1 ?_
    dsimp only at p_r1
    refine ok_if (fun c41 => ?_) (fun c41 => ?_)
    ·
      replace c41 := ti_eqP c41 rfl (show (40 : Int32).toInt = 40 from rfl)
      refine ok_if (fun c42 => ?_) (fun c42 => ?_)
      ·
        replace c42 := ti_eqP c42 rfl (show (6 : Int32).toInt = 6 from rfl)
        obtain ⟨r2, h_r2, p_r2⟩ := ro (t_fault (x0 := (8 : Int32)) (x1 := (I 37))  hI hA (by decide) (by omega))
        refine ok_clR h_r2 ?_
        dsimp only at p_r2
        exact t_readLine_146 (gg := gg) (hh := hh) (nb := nb) (aa := aa) (A0 := A0) (nd := nd) (rr := rr) hrec hfrec hself3 hself113 (x1 := x1) (x2 := x2) (x3 := x3) (x4 := x4) (x7 := x7) (t0 := r2) hI hA r_x1 r_x2 r_x3 r_x4 r_x7 (by omega) (by omega) q1 q2 q3 q4 q5 q6 q7 q8 q9 q10 q11 q12 q13 (by omega) m3 m113
      ·
        replace c42 := ti_eqN c42 rfl (show (6 : Int32).toInt = 6 from rfl)
        exact t_readLine_146 (gg := gg) (hh := hh) (nb := nb) (aa := aa) (A0 := A0) (nd := nd) (rr := rr) hrec hfrec hself3 hself113 (x1 := x1) (x2 := x2) (x3 := x3) (x4 := x4) (x7 := x7) (t0 := (0 : Int32)) hI hA r_x1 r_x2 r_x3 r_x4 r_x7 (by decide) (by have z0 : (0 : Int32).toInt = 0 := rfl; omega) q1 q2 q3 q4 q5 q6 q7 q8 q9 q10 q11 q12 q13 (by have z0 : (0 : Int32).toInt = 0 := rfl; omega) m3 m113
    ·
      replace c41 := ti_eqN c41 rfl (show (40 : Int32).toInt = 40 from rfl)
      unfold f_readLine_224
      refine ok_if (fun c43 => ?_) (fun c43 => ?_)
      ·
        replace c43 := ti_leP c43 rfl (show (0 : Int32).toInt = 0 from rfl)
        exact hself3 x1 x2 x3 x4 I A hI hA r_x1 r_x2 r_x3 r_x4 q0 q1 q2 q3 q4 q5 q6 (Or.inr q10) (apd_leaf q7 q8) q13 (by omega)
      ·
        replace c43 := ti_leN c43 rfl (show (0 : Int32).toInt = 0 from rfl)
        exact ok_ret ⟨hI, hA, (show (0 : Int) ≤ x5.toInt ∧ x5.toInt ≤ (92100 : Int) from (by omega)), (by show (I 37).toInt ≤ (I 1).toInt ∧ aa ≤ (I 37).toInt; omega), (by show ((x5 : Int32).toInt ≤ 0 → x3.toInt ≠ 0 → (I 37).toInt < (I 1).toInt); intro h h2; omega), q2, q3, q4⟩
  ·
    replace c40 := ti_eqN c40 rfl (show (0 : Int32).toInt = 0 from rfl)
    unfold f_readLine_224
    refine ok_if (fun c44 => ?_) (fun c44 => ?_)
    ·
      replace c44 := ti_leP c44 rfl (show (0 : Int32).toInt = 0 from rfl)
      exact hself3 x1 x2 x3 x4 I A hI hA r_x1 r_x2 r_x3 r_x4 q0 q1 q2 q3 q4 q5 q6 (Or.inr q10) (apd_leaf q7 q8) q13 (by omega)
    ·
      replace c44 := ti_leN c44 rfl (show (0 : Int32).toInt = 0 from rfl)
      exact ok_ret ⟨hI, hA, (show (0 : Int) ≤ x5.toInt ∧ x5.toInt ≤ (92100 : Int) from (by omega)), (by show (I 37).toInt ≤ (I 1).toInt ∧ aa ≤ (I 37).toInt; omega), (by show ((x5 : Int32).toInt ≤ 0 → x3.toInt ≠ 0 → (I 37).toInt < (I 1).toInt); intro h h2; omega), q2, q3, q4⟩
theorem t_readLine_113 {gg hh nb : Nat} {aa : Int} {A0 : Nat → Nat → Int32} {nd : Nat} {rr : Int} {rec : Int32 → Int32 → Int32 → (Nat → Int32) → (Nat → Nat → Int32) → Option (Int32 × MS)} (hrec : ∀ (gg hh nb : Nat) (aa : Int) (A0 : Nat → Nat → Int32) (nd : Nat) (x1 : Int32) (x2 : Int32) (x3 : Int32) (I : Nat → Int32) (A : Nat → Nat → Int32), TJ I → TK A → ((0 : Int) ≤ x1.toInt ∧ x1.toInt ≤ (1 : Int)) → ((0 : Int) ≤ x2.toInt ∧ x2.toInt ≤ (300 : Int)) → ((0 : Int) ≤ x3.toInt ∧ x3.toInt ≤ (6 : Int)) → ((I 37).toInt ≤ (I 1).toInt) → (aa ≤ (I 37).toInt) → (TRE A gg) → (TRH A hh nb) → (EX A gg A0 nd) → (x1.toInt = (gg : Int)) → (hh ≤ 1 ∧ hh ≠ gg) → (x2.toInt.toNat = nd ∨ aK A0 gg < x2.toInt.toNat) → (apd A gg x2.toInt.toNat x3.toInt) → (7 - x3.toInt ≤ rr - 1) → Ok (rec x1 x2 x3 I A) (fun o => TJ o.2.1 ∧ TK o.2.2 ∧ ((0 : Int) ≤ o.1.toInt ∧ o.1.toInt ≤ (92100 : Int)) ∧ ((o.2.1 37).toInt ≤ (o.2.1 1).toInt ∧ aa ≤ (o.2.1 37).toInt) ∧ ((o.1.toInt ≤ 0 → x3.toInt ≠ 0 → (o.2.1 37).toInt < (o.2.1 1).toInt)) ∧ (TRE o.2.2 gg) ∧ (TRH o.2.2 hh nb) ∧ (EX o.2.2 gg A0 nd))) (hfrec : ∀ (x1 : Int32) (x2 : Int32) (x3 : Int32) (I : Nat → Int32) (A : Nat → Nat → Int32) (o : Int32 × MS), rec x1 x2 x3 I A = some o → FrS [25, 26, 27, 28, 29, 33, 36, 37] [7, 8, 9, 10, 11, 12, 13, 14, 15, 24, 30, 31, 32, 34, 35] I A o.2.1 o.2.2) {self3 : Int32 → Int32 → Int32 → Int32 → (Nat → Int32) → (Nat → Nat → Int32) → Option (Int32 × MS)} {N3 : Nat} (hself3 : ∀ (x1 : Int32) (x2 : Int32) (x3 : Int32) (x4 : Int32) (I : Nat → Int32) (A : Nat → Nat → Int32), TJ I → TK A → ((0 : Int) ≤ x1.toInt ∧ x1.toInt ≤ (1 : Int)) → ((0 : Int) ≤ x2.toInt ∧ x2.toInt ≤ (300 : Int)) → ((0 : Int) ≤ x3.toInt ∧ x3.toInt ≤ (6 : Int)) → ((0 : Int) ≤ x4.toInt ∧ x4.toInt ≤ (300 : Int)) → ((I 37).toInt ≤ (I 1).toInt) → (aa ≤ (I 37).toInt) → (TRE A gg) → (TRH A hh nb) → (EX A gg A0 nd) → (x1.toInt = (gg : Int)) → (hh ≤ 1 ∧ hh ≠ gg) → (x4.toInt.toNat = nd ∨ aK A0 gg < x4.toInt.toNat) → (apd A gg x4.toInt.toNat x3.toInt) → (7 - x3.toInt ≤ rr) → (301 - (aK A gg : Int)) < (N3 : Int) → Ok (self3 x1 x2 x3 x4 I A) (fun o => TJ o.2.1 ∧ TK o.2.2 ∧ ((0 : Int) ≤ o.1.toInt ∧ o.1.toInt ≤ (92100 : Int)) ∧ ((o.2.1 37).toInt ≤ (o.2.1 1).toInt ∧ aa ≤ (o.2.1 37).toInt) ∧ ((o.1.toInt ≤ 0 → x3.toInt ≠ 0 → (o.2.1 37).toInt < (o.2.1 1).toInt)) ∧ (TRE o.2.2 gg) ∧ (TRH o.2.2 hh nb) ∧ (EX o.2.2 gg A0 nd))) : ∀ (n : Nat) (x1 : Int32) (x2 : Int32) (x3 : Int32) (x4 : Int32) (x5 : Int32) (x7 : Int32) (I : Nat → Int32) (A : Nat → Nat → Int32), TJ I → TK A → ((0 : Int) ≤ x1.toInt ∧ x1.toInt ≤ (1 : Int)) → ((0 : Int) ≤ x2.toInt ∧ x2.toInt ≤ (300 : Int)) → ((0 : Int) ≤ x3.toInt ∧ x3.toInt ≤ (6 : Int)) → ((0 : Int) ≤ x4.toInt ∧ x4.toInt ≤ (300 : Int)) → ((0 : Int) ≤ x5.toInt ∧ x5.toInt ≤ (92100 : Int)) → ((0 : Int) ≤ x7.toInt ∧ x7.toInt ≤ (300 : Int)) → ((I 37).toInt ≤ (I 1).toInt) → (aa ≤ (I 37).toInt) → (TRE A gg) → (TRH A hh nb) → (EX A gg A0 nd) → (x1.toInt = (gg : Int)) → (hh ≤ 1 ∧ hh ≠ gg) → (lnk A gg x4.toInt.toNat x3.toInt) → (leaf A gg x4.toInt.toNat) → (lnk A gg x7.toInt.toNat x3.toInt) → (aK A0 gg < x4.toInt.toNat) → (x7.toInt.toNat = nd ∨ aK A0 gg < x7.toInt.toNat) → (x7.toInt < x4.toInt) → (7 - x3.toInt ≤ rr) → ((302 - (aK A gg : Int)) ≤ (N3 : Int)) → ((I 1).toInt - (I 37).toInt) < (n : Int) → Ok (f_readLine_113 rec self3 n x1 x2 x3 x4 x5 x7 I A) (fun o => TJ o.2.1 ∧ TK o.2.2 ∧ ((0 : Int) ≤ o.1.toInt ∧ o.1.toInt ≤ (92100 : Int)) ∧ ((o.2.1 37).toInt ≤ (o.2.1 1).toInt ∧ aa ≤ (o.2.1 37).toInt) ∧ ((o.1.toInt ≤ 0 → x3.toInt ≠ 0 → (o.2.1 37).toInt < (o.2.1 1).toInt)) ∧ (TRE o.2.2 gg) ∧ (TRH o.2.2 hh nb) ∧ (EX o.2.2 gg A0 nd)) := by
  intro n
  induction n with
  | zero => intro x1 x2 x3 x4 x5 x7 I A hI hA g0 g1 g2 g3 g4 g5 g6 g7 g8 g9 g10 g11 g12 g13 g14 g15 g16 g17 g18 g19 w0 hm; exfalso; omega
  | succ n ih =>
    intro x1 x2 x3 x4 x5 x7 I A hI hA g0 g1 g2 g3 g4 g5 g6 g7 g8 g9 g10 g11 g12 g13 g14 g15 g16 g17 g18 g19 w0 hm
    exact t_readLine_113s (gg := gg) (hh := hh) (nb := nb) (aa := aa) (A0 := A0) (nd := nd) (rr := rr) hrec hfrec (N113 := n) hself3 ih hI hA g0 g1 g2 g3 g4 g5 g6 g7 g8 g9 g10 g11 g12 g13 g14 g15 g16 g17 g18 g19 w0 (by omega)
theorem t_readLine_111 {gg hh nb : Nat} {aa : Int} {A0 : Nat → Nat → Int32} {nd : Nat} {rr : Int} {I : Nat → Int32} {A : Nat → Nat → Int32} {rec : Int32 → Int32 → Int32 → (Nat → Int32) → (Nat → Nat → Int32) → Option (Int32 × MS)} (hrec : ∀ (gg hh nb : Nat) (aa : Int) (A0 : Nat → Nat → Int32) (nd : Nat) (x1 : Int32) (x2 : Int32) (x3 : Int32) (I : Nat → Int32) (A : Nat → Nat → Int32), TJ I → TK A → ((0 : Int) ≤ x1.toInt ∧ x1.toInt ≤ (1 : Int)) → ((0 : Int) ≤ x2.toInt ∧ x2.toInt ≤ (300 : Int)) → ((0 : Int) ≤ x3.toInt ∧ x3.toInt ≤ (6 : Int)) → ((I 37).toInt ≤ (I 1).toInt) → (aa ≤ (I 37).toInt) → (TRE A gg) → (TRH A hh nb) → (EX A gg A0 nd) → (x1.toInt = (gg : Int)) → (hh ≤ 1 ∧ hh ≠ gg) → (x2.toInt.toNat = nd ∨ aK A0 gg < x2.toInt.toNat) → (apd A gg x2.toInt.toNat x3.toInt) → (7 - x3.toInt ≤ rr - 1) → Ok (rec x1 x2 x3 I A) (fun o => TJ o.2.1 ∧ TK o.2.2 ∧ ((0 : Int) ≤ o.1.toInt ∧ o.1.toInt ≤ (92100 : Int)) ∧ ((o.2.1 37).toInt ≤ (o.2.1 1).toInt ∧ aa ≤ (o.2.1 37).toInt) ∧ ((o.1.toInt ≤ 0 → x3.toInt ≠ 0 → (o.2.1 37).toInt < (o.2.1 1).toInt)) ∧ (TRE o.2.2 gg) ∧ (TRH o.2.2 hh nb) ∧ (EX o.2.2 gg A0 nd))) (hfrec : ∀ (x1 : Int32) (x2 : Int32) (x3 : Int32) (I : Nat → Int32) (A : Nat → Nat → Int32) (o : Int32 × MS), rec x1 x2 x3 I A = some o → FrS [25, 26, 27, 28, 29, 33, 36, 37] [7, 8, 9, 10, 11, 12, 13, 14, 15, 24, 30, 31, 32, 34, 35] I A o.2.1 o.2.2) {self3 : Int32 → Int32 → Int32 → Int32 → (Nat → Int32) → (Nat → Nat → Int32) → Option (Int32 × MS)} {N3 : Nat} (hself3 : ∀ (x1 : Int32) (x2 : Int32) (x3 : Int32) (x4 : Int32) (I : Nat → Int32) (A : Nat → Nat → Int32), TJ I → TK A → ((0 : Int) ≤ x1.toInt ∧ x1.toInt ≤ (1 : Int)) → ((0 : Int) ≤ x2.toInt ∧ x2.toInt ≤ (300 : Int)) → ((0 : Int) ≤ x3.toInt ∧ x3.toInt ≤ (6 : Int)) → ((0 : Int) ≤ x4.toInt ∧ x4.toInt ≤ (300 : Int)) → ((I 37).toInt ≤ (I 1).toInt) → (aa ≤ (I 37).toInt) → (TRE A gg) → (TRH A hh nb) → (EX A gg A0 nd) → (x1.toInt = (gg : Int)) → (hh ≤ 1 ∧ hh ≠ gg) → (x4.toInt.toNat = nd ∨ aK A0 gg < x4.toInt.toNat) → (apd A gg x4.toInt.toNat x3.toInt) → (7 - x3.toInt ≤ rr) → (301 - (aK A gg : Int)) < (N3 : Int) → Ok (self3 x1 x2 x3 x4 I A) (fun o => TJ o.2.1 ∧ TK o.2.2 ∧ ((0 : Int) ≤ o.1.toInt ∧ o.1.toInt ≤ (92100 : Int)) ∧ ((o.2.1 37).toInt ≤ (o.2.1 1).toInt ∧ aa ≤ (o.2.1 37).toInt) ∧ ((o.1.toInt ≤ 0 → x3.toInt ≠ 0 → (o.2.1 37).toInt < (o.2.1 1).toInt)) ∧ (TRE o.2.2 gg) ∧ (TRH o.2.2 hh nb) ∧ (EX o.2.2 gg A0 nd))) {x1 : Int32} {x2 : Int32} {x3 : Int32} {x4 : Int32} {x7 : Int32} {t0 : Int32} (hI : TJ I) (hA : TK A) (r_x1 : (0 : Int) ≤ x1.toInt ∧ x1.toInt ≤ (1 : Int)) (r_x2 : (0 : Int) ≤ x2.toInt ∧ x2.toInt ≤ (300 : Int)) (r_x3 : (0 : Int) ≤ x3.toInt ∧ x3.toInt ≤ (6 : Int)) (r_x4 : (0 : Int) ≤ x4.toInt ∧ x4.toInt ≤ (300 : Int)) (r_x7 : (0 : Int) ≤ x7.toInt ∧ x7.toInt ≤ (300 : Int)) (r_t0 : (0 : Int) ≤ t0.toInt ∧ t0.toInt ≤ (92100 : Int)) (q0 : (I 37).toInt ≤ (I 1).toInt) (q1 : aa ≤ (I 37).toInt) (q2 : TRE A gg) (q3 : TRH A hh nb) (q4 : EX A gg A0 nd) (q5 : x1.toInt = (gg : Int)) (q6 : hh ≤ 1 ∧ hh ≠ gg) (q7 : lnk A gg x4.toInt.toNat x3.toInt) (q8 : leaf A gg x4.toInt.toNat) (q9 : lnk A gg x7.toInt.toNat x3.toInt) (q10 : aK A0 gg < x4.toInt.toNat) (q11 : x7.toInt.toNat = nd ∨ aK A0 gg < x7.toInt.toNat) (q12 : x7.toInt < x4.toInt) (q13 : 7 - x3.toInt ≤ rr) (m3 : (302 - (aK A gg : Int)) ≤ (N3 : Int)) : Ok (f_readLine_111 rec self3 x1 x2 x3 x4 x7 t0 I A) (fun o => TJ o.2.1 ∧ TK o.2.2 ∧ ((0 : Int) ≤ o.1.toInt ∧ o.1.toInt ≤ (92100 : Int)) ∧ ((o.2.1 37).toInt ≤ (o.2.1 1).toInt ∧ aa ≤ (o.2.1 37).toInt) ∧ ((o.1.toInt ≤ 0 → x3.toInt ≠ 0 → (o.2.1 37).toInt < (o.2.1 1).toInt)) ∧ (TRE o.2.2 gg) ∧ (TRH o.2.2 hh nb) ∧ (EX o.2.2 gg A0 nd)) := by
  unfold f_readLine_111
  have b_I_1 := tI_1 hI
  have b_I_37 := tI_37 hI
  have b_I_29 := tI_29 hI
  exact t_readLine_113 (gg := gg) (hh := hh) (nb := nb) (aa := aa) (A0 := A0) (nd := nd) (rr := rr) hrec hfrec hself3  mFuel x1 x2 x3 x4 t0 x7 I A hI hA r_x1 r_x2 r_x3 r_x4 r_t0 r_x7 q0 q1 q2 q3 q4 q5 q6 q7 q8 q9 q10 q11 q12 q13 m3 (by show _ < ((200000 : Nat) : Int); omega)
theorem t_readLine_38 {gg hh nb : Nat} {aa : Int} {A0 : Nat → Nat → Int32} {nd : Nat} {rr : Int} {I : Nat → Int32} {A : Nat → Nat → Int32} {rec : Int32 → Int32 → Int32 → (Nat → Int32) → (Nat → Nat → Int32) → Option (Int32 × MS)} (hrec : ∀ (gg hh nb : Nat) (aa : Int) (A0 : Nat → Nat → Int32) (nd : Nat) (x1 : Int32) (x2 : Int32) (x3 : Int32) (I : Nat → Int32) (A : Nat → Nat → Int32), TJ I → TK A → ((0 : Int) ≤ x1.toInt ∧ x1.toInt ≤ (1 : Int)) → ((0 : Int) ≤ x2.toInt ∧ x2.toInt ≤ (300 : Int)) → ((0 : Int) ≤ x3.toInt ∧ x3.toInt ≤ (6 : Int)) → ((I 37).toInt ≤ (I 1).toInt) → (aa ≤ (I 37).toInt) → (TRE A gg) → (TRH A hh nb) → (EX A gg A0 nd) → (x1.toInt = (gg : Int)) → (hh ≤ 1 ∧ hh ≠ gg) → (x2.toInt.toNat = nd ∨ aK A0 gg < x2.toInt.toNat) → (apd A gg x2.toInt.toNat x3.toInt) → (7 - x3.toInt ≤ rr - 1) → Ok (rec x1 x2 x3 I A) (fun o => TJ o.2.1 ∧ TK o.2.2 ∧ ((0 : Int) ≤ o.1.toInt ∧ o.1.toInt ≤ (92100 : Int)) ∧ ((o.2.1 37).toInt ≤ (o.2.1 1).toInt ∧ aa ≤ (o.2.1 37).toInt) ∧ ((o.1.toInt ≤ 0 → x3.toInt ≠ 0 → (o.2.1 37).toInt < (o.2.1 1).toInt)) ∧ (TRE o.2.2 gg) ∧ (TRH o.2.2 hh nb) ∧ (EX o.2.2 gg A0 nd))) (hfrec : ∀ (x1 : Int32) (x2 : Int32) (x3 : Int32) (I : Nat → Int32) (A : Nat → Nat → Int32) (o : Int32 × MS), rec x1 x2 x3 I A = some o → FrS [25, 26, 27, 28, 29, 33, 36, 37] [7, 8, 9, 10, 11, 12, 13, 14, 15, 24, 30, 31, 32, 34, 35] I A o.2.1 o.2.2) {self3 : Int32 → Int32 → Int32 → Int32 → (Nat → Int32) → (Nat → Nat → Int32) → Option (Int32 × MS)} {N3 : Nat} (hself3 : ∀ (x1 : Int32) (x2 : Int32) (x3 : Int32) (x4 : Int32) (I : Nat → Int32) (A : Nat → Nat → Int32), TJ I → TK A → ((0 : Int) ≤ x1.toInt ∧ x1.toInt ≤ (1 : Int)) → ((0 : Int) ≤ x2.toInt ∧ x2.toInt ≤ (300 : Int)) → ((0 : Int) ≤ x3.toInt ∧ x3.toInt ≤ (6 : Int)) → ((0 : Int) ≤ x4.toInt ∧ x4.toInt ≤ (300 : Int)) → ((I 37).toInt ≤ (I 1).toInt) → (aa ≤ (I 37).toInt) → (TRE A gg) → (TRH A hh nb) → (EX A gg A0 nd) → (x1.toInt = (gg : Int)) → (hh ≤ 1 ∧ hh ≠ gg) → (x4.toInt.toNat = nd ∨ aK A0 gg < x4.toInt.toNat) → (apd A gg x4.toInt.toNat x3.toInt) → (7 - x3.toInt ≤ rr) → (301 - (aK A gg : Int)) < (N3 : Int) → Ok (self3 x1 x2 x3 x4 I A) (fun o => TJ o.2.1 ∧ TK o.2.2 ∧ ((0 : Int) ≤ o.1.toInt ∧ o.1.toInt ≤ (92100 : Int)) ∧ ((o.2.1 37).toInt ≤ (o.2.1 1).toInt ∧ aa ≤ (o.2.1 37).toInt) ∧ ((o.1.toInt ≤ 0 → x3.toInt ≠ 0 → (o.2.1 37).toInt < (o.2.1 1).toInt)) ∧ (TRE o.2.2 gg) ∧ (TRH o.2.2 hh nb) ∧ (EX o.2.2 gg A0 nd))) {x1 : Int32} {x2 : Int32} {x3 : Int32} {x4 : Int32} (hI : TJ I) (hA : TK A) (r_x1 : (0 : Int) ≤ x1.toInt ∧ x1.toInt ≤ (1 : Int)) (r_x2 : (0 : Int) ≤ x2.toInt ∧ x2.toInt ≤ (300 : Int)) (r_x3 : (0 : Int) ≤ x3.toInt ∧ x3.toInt ≤ (6 : Int)) (r_x4 : (0 : Int) ≤ x4.toInt ∧ x4.toInt ≤ (300 : Int)) (q0 : (I 37).toInt ≤ (I 1).toInt) (q1 : aa ≤ (I 37).toInt) (q2 : TRE A gg) (q3 : TRH A hh nb) (q4 : EX A gg A0 nd) (q5 : x1.toInt = (gg : Int)) (q6 : hh ≤ 1 ∧ hh ≠ gg) (q7 : x4.toInt.toNat = nd ∨ aK A0 gg < x4.toInt.toNat) (q8 : apd A gg x4.toInt.toNat x3.toInt) (q9 : 7 - x3.toInt ≤ rr) (m3 : (301 - (aK A gg : Int)) ≤ (N3 : Int)) : Ok (f_readLine_38 rec self3 x1 x2 x3 x4 I A) (fun o => TJ o.2.1 ∧ TK o.2.2 ∧ ((0 : Int) ≤ o.1.toInt ∧ o.1.toInt ≤ (92100 : Int)) ∧ ((o.2.1 37).toInt ≤ (o.2.1 1).toInt ∧ aa ≤ (o.2.1 37).toInt) ∧ ((o.1.toInt ≤ 0 → x3.toInt ≠ 0 → (o.2.1 37).toInt < (o.2.1 1).toInt)) ∧ (TRE o.2.2 gg) ∧ (TRH o.2.2 hh nb) ∧ (EX o.2.2 gg A0 nd)) := by
  unfold f_readLine_38
  have b_I_1 := tI_1 hI
  have b_I_37 := tI_37 hI
  have b_I_29 := tI_29 hI
  have ck0 : cK A gg (aK A gg) := rfl
  obtain ⟨⟨r1, Ic1, Ac1⟩, h_r1, hI_Ic1, hA_Ac1, p_r1_0⟩ := t_place (x1 := x1) (x2 := x4)  hI hA r_x1 r_x4 (TRE_n q2) q5 (by have z := (q8).1; omega)
  replace hI_Ic1 : TJ Ic1 := hI_Ic1
  replace hA_Ac1 : TK Ac1 := hA_Ac1
  dsimp only at p_r1_0
  refine ok_clR h_r1 ?_
  have f_r1 := fw_place h_r1
  have : (Ic1 1).toInt = (I 1).toInt := congrArg Int32.toInt (f_r1.1 1 (by decide))
  have : (Ic1 37).toInt = (I 37).toInt := congrArg Int32.toInt (f_r1.1 37 (by decide))
  have k45 : TRE Ac1 gg := TRE_fr (f_r1.2 7 (by decide)) (f_r1.2 8 (by decide)) (f_r1.2 9 (by decide)) (f_r1.2 10 (by decide)) (f_r1.2 11 (by decide)) q2
  have k46 : TRH Ac1 hh nb := TRH_fr (f_r1.2 7 (by decide)) (f_r1.2 8 (by decide)) (f_r1.2 9 (by decide)) (f_r1.2 10 (by decide)) (f_r1.2 11 (by decide)) q3
  have k47 : EX Ac1 gg A0 nd := EX_fr (f_r1.2 7 (by decide)) (f_r1.2 8 (by decide)) (f_r1.2 10 (by decide)) q4
  have k48 : apd Ac1 gg x4.toInt.toNat x3.toInt := apd_fr (f_r1.2 7 (by decide)) (f_r1.2 8 (by decide)) (f_r1.2 10 (by decide)) q8
  have k49 : cK Ac1 gg (aK A gg) := cK_fr (f_r1.2 7 (by decide)) ck0
  have b_Ic1_1 := tI_1 hI_Ic1
  have b_Ic1_37 := tI_37 hI_Ic1
  obtain ⟨⟨r2, Ic2, Ac2⟩, h_r2, hI_Ic2, hA_Ac2, p_r2, p_r2_0⟩ := t_readMoveNumber   hI_Ic1 hA_Ac1 (by omega) (show (Ic1 37).toInt ≤ (Ic1 37).toInt from Int.le_refl _)
  replace hI_Ic2 : TJ Ic2 := hI_Ic2
  replace hA_Ac2 : TK Ac2 := hA_Ac2
  dsimp only at p_r2 p_r2_0
  refine ok_clR h_r2 ?_
  have f_r2 := fw_readMoveNumber h_r2
  have : (Ic2 1).toInt = (Ic1 1).toInt := congrArg Int32.toInt (f_r2.1 1 (by decide))
  have : (Ic2 29).toInt = (Ic1 29).toInt := congrArg Int32.toInt (f_r2.1 29 (by decide))
  have k50 : TRE Ac2 gg := TRE_fr (f_r2.2 7 (by decide)) (f_r2.2 8 (by decide)) (f_r2.2 9 (by decide)) (f_r2.2 10 (by decide)) (f_r2.2 11 (by decide)) k45
  have k51 : TRH Ac2 hh nb := TRH_fr (f_r2.2 7 (by decide)) (f_r2.2 8 (by decide)) (f_r2.2 9 (by decide)) (f_r2.2 10 (by decide)) (f_r2.2 11 (by decide)) k46
  have k52 : EX Ac2 gg A0 nd := EX_fr (f_r2.2 7 (by decide)) (f_r2.2 8 (by decide)) (f_r2.2 10 (by decide)) k47
  have k53 : apd Ac2 gg x4.toInt.toNat x3.toInt := apd_fr (f_r2.2 7 (by decide)) (f_r2.2 8 (by decide)) (f_r2.2 10 (by decide)) k48
  have k54 : cK Ac2 gg (aK A gg) := cK_fr (f_r2.2 7 (by decide)) k49
  refine ok_if (fun c55 => ?_) (fun c55 => ?_)
  ·
    replace c55 := ti_leP c55 rfl (show (0 : Int32).toInt = 0 from rfl)
    have b_Ic2_1 := tI_1 hI_Ic2
    have b_Ic2_37 := tI_37 hI_Ic2
    have b_Ic2_29 := tI_29 hI_Ic2
    obtain ⟨⟨r3, Ic3, Ac3⟩, h_r3, hI_Ic3, hA_Ac3, p_r3, p_r3_0, p_r3_1, p_r3_2, p_r3_3, p_r3_4, p_r3_5, p_r3_6⟩ := t_readMove (x1 := x1) (x2 := x4) (dp := x3.toInt) (na := (aK A gg)) hI_Ic2 hA_Ac2 r_x1 r_x4 (by omega) (show (Ic2 37).toInt ≤ (Ic2 37).toInt from Int.le_refl _) (by omega) k50 k51 k52 q5 q6 q7 k53 (by omega) (by omega)
    replace hI_Ic3 : TJ Ic3 := hI_Ic3
    replace hA_Ac3 : TK Ac3 := hA_Ac3
    dsimp only at p_r3 p_r3_0 p_r3_1 p_r3_2 p_r3_3 p_r3_4 p_r3_5 p_r3_6
    refine ok_clR h_r3 ?_
    have f_r3 := fw_readMove h_r3
    have : (Ic3 1).toInt = (Ic2 1).toInt := congrArg Int32.toInt (f_r3.1 1 (by decide))
    refine ok_if (fun c56 => ?_) (fun c56 => ?_)
    ·
      replace c56 := ti_leP c56 (show (0 : Int32).toInt = 0 from rfl) rfl
      have n6 := p_r3_6 (by omega)
      have cg3 : cG Ac3 gg ((aK A gg : Int) + 1) := by unfold cG; omega
      have gt3 : aK A0 gg < r3.toInt.toNat := n6.2.2.2.1
      have b_Ic3_1 := tI_1 hI_Ic3
      have b_Ic3_37 := tI_37 hI_Ic3
      obtain ⟨⟨r4, Ic4, Ac4⟩, h_r4, hI_Ic4, hA_Ac4, p_r4, p_r4_0⟩ := t_readMarks (x1 := x1) (x2 := r3)  hI_Ic3 hA_Ac3 r_x1 (by omega) (by omega) (show (Ic3 37).toInt ≤ (Ic3 37).toInt from Int.le_refl _) n6.1
      replace hI_Ic4 : TJ Ic4 := hI_Ic4
      replace hA_Ac4 : TK Ac4 := hA_Ac4
      dsimp only at p_r4 p_r4_0
      refine ok_clR h_r4 ?_
      have f_r4 := fw_readMarks h_r4
      have : (Ic4 1).toInt = (Ic3 1).toInt := congrArg Int32.toInt (f_r4.1 1 (by decide))
      have : (Ic4 29).toInt = (Ic3 29).toInt := congrArg Int32.toInt (f_r4.1 29 (by decide))
      have k57 : TRE Ac4 gg := TRE_fr (f_r4.2 7 (by decide)) (f_r4.2 8 (by decide)) (f_r4.2 9 (by decide)) (f_r4.2 10 (by decide)) (f_r4.2 11 (by decide)) p_r3_2
      have k58 : TRH Ac4 hh nb := TRH_fr (f_r4.2 7 (by decide)) (f_r4.2 8 (by decide)) (f_r4.2 9 (by decide)) (f_r4.2 10 (by decide)) (f_r4.2 11 (by decide)) p_r3_3
      have k59 : EX Ac4 gg A0 nd := EX_fr (f_r4.2 7 (by decide)) (f_r4.2 8 (by decide)) (f_r4.2 10 (by decide)) p_r3_4
      have k60 : lnk Ac4 gg x4.toInt.toNat x3.toInt := lnk_fr (f_r4.2 7 (by decide)) (f_r4.2 8 (by decide)) (f_r4.2 10 (by decide)) p_r3_5
      have k61 : leaf Ac4 gg r3.toInt.toNat := leaf_fr (f_r4.2 10 (by decide)) n6.2.1
      have k62 : lnk Ac4 gg r3.toInt.toNat x3.toInt := lnk_fr (f_r4.2 7 (by decide)) (f_r4.2 8 (by decide)) (f_r4.2 10 (by decide)) n6.2.2.1
      have k63 : cG Ac4 gg ((aK A gg : Int) + 1) := cG_fr (f_r4.2 7 (by decide)) cg3
      refine ok_if (fun c64 => ?_) (fun c64 => ?_)
      ·
        replace c64 := ti_leP c64 rfl (show (0 : Int32).toInt = 0 from rfl)
        have b_Ic4_1 := tI_1 hI_Ic4
        have b_Ic4_37 := tI_37 hI_Ic4
        obtain ⟨⟨r5, Ic5, Ac5⟩, h_r5, hI_Ic5, hA_Ac5, p_r5, p_r5_0⟩ := t_readRemarks (x1 := x1) (x2 := r3)  hI_Ic4 hA_Ac4 r_x1 (by omega) (by omega) (show (Ic4 37).toInt ≤ (Ic4 37).toInt from Int.le_refl _)
        replace hI_Ic5 : TJ Ic5 := hI_Ic5
        replace hA_Ac5 : TK Ac5 := hA_Ac5
        dsimp only at p_r5 p_r5_0
        refine ok_clR h_r5 ?_
        have f_r5 := fw_readRemarks h_r5
        have : (Ic5 1).toInt = (Ic4 1).toInt := congrArg Int32.toInt (f_r5.1 1 (by decide))
        have : (Ic5 29).toInt = (Ic4 29).toInt := congrArg Int32.toInt (f_r5.1 29 (by decide))
        have k65 : TRE Ac5 gg := TRE_fr (f_r5.2 7 (by decide)) (f_r5.2 8 (by decide)) (f_r5.2 9 (by decide)) (f_r5.2 10 (by decide)) (f_r5.2 11 (by decide)) k57
        have k66 : TRH Ac5 hh nb := TRH_fr (f_r5.2 7 (by decide)) (f_r5.2 8 (by decide)) (f_r5.2 9 (by decide)) (f_r5.2 10 (by decide)) (f_r5.2 11 (by decide)) k58
        have k67 : EX Ac5 gg A0 nd := EX_fr (f_r5.2 7 (by decide)) (f_r5.2 8 (by decide)) (f_r5.2 10 (by decide)) k59
        have k68 : lnk Ac5 gg x4.toInt.toNat x3.toInt := lnk_fr (f_r5.2 7 (by decide)) (f_r5.2 8 (by decide)) (f_r5.2 10 (by decide)) k60
        have k69 : leaf Ac5 gg r3.toInt.toNat := leaf_fr (f_r5.2 10 (by decide)) k61
        have k70 : lnk Ac5 gg r3.toInt.toNat x3.toInt := lnk_fr (f_r5.2 7 (by decide)) (f_r5.2 8 (by decide)) (f_r5.2 10 (by decide)) k62
        have k71 : cG Ac5 gg ((aK A gg : Int) + 1) := cG_fr (f_r5.2 7 (by decide)) k63
        have b_Ic5_1 := tI_1 hI_Ic5
        have b_Ic5_37 := tI_37 hI_Ic5
        exact t_readLine_111 (gg := gg) (hh := hh) (nb := nb) (aa := aa) (A0 := A0) (nd := nd) (rr := rr) hrec hfrec hself3 (x1 := x1) (x2 := x2) (x3 := x3) (x4 := r3) (x7 := x4) (t0 := r5) hI_Ic5 hA_Ac5 r_x1 r_x2 r_x3 (by omega) r_x4 (by omega) (by omega) (by omega) k65 k66 k67 q5 q6 k70 k69 k68 (by omega) q7 (by omega) q9 (by have z := k71; unfold cG at z; omega)
      ·
        replace c64 := ti_leN c64 rfl (show (0 : Int32).toInt = 0 from rfl)
        have b_Ic4_1 := tI_1 hI_Ic4
        have b_Ic4_37 := tI_37 hI_Ic4
        exact t_readLine_111 (gg := gg) (hh := hh) (nb := nb) (aa := aa) (A0 := A0) (nd := nd) (rr := rr) hrec hfrec hself3 (x1 := x1) (x2 := x2) (x3 := x3) (x4 := r3) (x7 := x4) (t0 := r4) hI_Ic4 hA_Ac4 r_x1 r_x2 r_x3 (by omega) r_x4 (by omega) (by omega) (by omega) k57 k58 k59 q5 q6 k62 k61 k60 (by omega) q7 (by omega) q9 (by have z := k63; unfold cG at z; omega)
    ·
      replace c56 := ti_leN c56 (show (0 : Int32).toInt = 0 from rfl) rfl
      refine ok_bnd (fun v6 e72 => ?_)
      have t_v6 : v6.toInt = -r3.toInt := ti_neg e72 rfl (by omega)
      exact ok_ret ⟨hI_Ic3, hA_Ac3, (show (0 : Int) ≤ v6.toInt ∧ v6.toInt ≤ (92100 : Int) from (by omega)), (by show (Ic3 37).toInt ≤ (Ic3 1).toInt ∧ aa ≤ (Ic3 37).toInt; omega), (by show ((v6 : Int32).toInt ≤ 0 → x3.toInt ≠ 0 → (Ic3 37).toInt < (Ic3 1).toInt); intro h h2; omega), p_r3_2, p_r3_3, p_r3_4⟩
  ·
    replace c55 := ti_leN c55 rfl (show (0 : Int32).toInt = 0 from rfl)
    exact ok_ret ⟨hI_Ic2, hA_Ac2, (show (0 : Int) ≤ r2.toInt ∧ r2.toInt ≤ (92100 : Int) from (by omega)), (by show (Ic2 37).toInt ≤ (Ic2 1).toInt ∧ aa ≤ (Ic2 37).toInt; omega), (by show ((r2 : Int32).toInt ≤ 0 → x3.toInt ≠ 0 → (Ic2 37).toInt < (Ic2 1).toInt); intro h h2; omega), k50, k51, k52⟩
theorem t_readLine_3s {gg hh nb : Nat} {aa : Int} {A0 : Nat → Nat → Int32} {nd : Nat} {rr : Int} {I : Nat → Int32} {A : Nat → Nat → Int32} {rec : Int32 → Int32 → Int32 → (Nat → Int32) → (Nat → Nat → Int32) → Option (Int32 × MS)} (hrec : ∀ (gg hh nb : Nat) (aa : Int) (A0 : Nat → Nat → Int32) (nd : Nat) (x1 : Int32) (x2 : Int32) (x3 : Int32) (I : Nat → Int32) (A : Nat → Nat → Int32), TJ I → TK A → ((0 : Int) ≤ x1.toInt ∧ x1.toInt ≤ (1 : Int)) → ((0 : Int) ≤ x2.toInt ∧ x2.toInt ≤ (300 : Int)) → ((0 : Int) ≤ x3.toInt ∧ x3.toInt ≤ (6 : Int)) → ((I 37).toInt ≤ (I 1).toInt) → (aa ≤ (I 37).toInt) → (TRE A gg) → (TRH A hh nb) → (EX A gg A0 nd) → (x1.toInt = (gg : Int)) → (hh ≤ 1 ∧ hh ≠ gg) → (x2.toInt.toNat = nd ∨ aK A0 gg < x2.toInt.toNat) → (apd A gg x2.toInt.toNat x3.toInt) → (7 - x3.toInt ≤ rr - 1) → Ok (rec x1 x2 x3 I A) (fun o => TJ o.2.1 ∧ TK o.2.2 ∧ ((0 : Int) ≤ o.1.toInt ∧ o.1.toInt ≤ (92100 : Int)) ∧ ((o.2.1 37).toInt ≤ (o.2.1 1).toInt ∧ aa ≤ (o.2.1 37).toInt) ∧ ((o.1.toInt ≤ 0 → x3.toInt ≠ 0 → (o.2.1 37).toInt < (o.2.1 1).toInt)) ∧ (TRE o.2.2 gg) ∧ (TRH o.2.2 hh nb) ∧ (EX o.2.2 gg A0 nd))) (hfrec : ∀ (x1 : Int32) (x2 : Int32) (x3 : Int32) (I : Nat → Int32) (A : Nat → Nat → Int32) (o : Int32 × MS), rec x1 x2 x3 I A = some o → FrS [25, 26, 27, 28, 29, 33, 36, 37] [7, 8, 9, 10, 11, 12, 13, 14, 15, 24, 30, 31, 32, 34, 35] I A o.2.1 o.2.2) {self3 : Int32 → Int32 → Int32 → Int32 → (Nat → Int32) → (Nat → Nat → Int32) → Option (Int32 × MS)} {N3 : Nat} (hself3 : ∀ (x1 : Int32) (x2 : Int32) (x3 : Int32) (x4 : Int32) (I : Nat → Int32) (A : Nat → Nat → Int32), TJ I → TK A → ((0 : Int) ≤ x1.toInt ∧ x1.toInt ≤ (1 : Int)) → ((0 : Int) ≤ x2.toInt ∧ x2.toInt ≤ (300 : Int)) → ((0 : Int) ≤ x3.toInt ∧ x3.toInt ≤ (6 : Int)) → ((0 : Int) ≤ x4.toInt ∧ x4.toInt ≤ (300 : Int)) → ((I 37).toInt ≤ (I 1).toInt) → (aa ≤ (I 37).toInt) → (TRE A gg) → (TRH A hh nb) → (EX A gg A0 nd) → (x1.toInt = (gg : Int)) → (hh ≤ 1 ∧ hh ≠ gg) → (x4.toInt.toNat = nd ∨ aK A0 gg < x4.toInt.toNat) → (apd A gg x4.toInt.toNat x3.toInt) → (7 - x3.toInt ≤ rr) → (301 - (aK A gg : Int)) < (N3 : Int) → Ok (self3 x1 x2 x3 x4 I A) (fun o => TJ o.2.1 ∧ TK o.2.2 ∧ ((0 : Int) ≤ o.1.toInt ∧ o.1.toInt ≤ (92100 : Int)) ∧ ((o.2.1 37).toInt ≤ (o.2.1 1).toInt ∧ aa ≤ (o.2.1 37).toInt) ∧ ((o.1.toInt ≤ 0 → x3.toInt ≠ 0 → (o.2.1 37).toInt < (o.2.1 1).toInt)) ∧ (TRE o.2.2 gg) ∧ (TRH o.2.2 hh nb) ∧ (EX o.2.2 gg A0 nd))) {x1 : Int32} {x2 : Int32} {x3 : Int32} {x4 : Int32} (hI : TJ I) (hA : TK A) (r_x1 : (0 : Int) ≤ x1.toInt ∧ x1.toInt ≤ (1 : Int)) (r_x2 : (0 : Int) ≤ x2.toInt ∧ x2.toInt ≤ (300 : Int)) (r_x3 : (0 : Int) ≤ x3.toInt ∧ x3.toInt ≤ (6 : Int)) (r_x4 : (0 : Int) ≤ x4.toInt ∧ x4.toInt ≤ (300 : Int)) (q0 : (I 37).toInt ≤ (I 1).toInt) (q1 : aa ≤ (I 37).toInt) (q2 : TRE A gg) (q3 : TRH A hh nb) (q4 : EX A gg A0 nd) (q5 : x1.toInt = (gg : Int)) (q6 : hh ≤ 1 ∧ hh ≠ gg) (q7 : x4.toInt.toNat = nd ∨ aK A0 gg < x4.toInt.toNat) (q8 : apd A gg x4.toInt.toNat x3.toInt) (q9 : 7 - x3.toInt ≤ rr) (m3 : (301 - (aK A gg : Int)) ≤ (N3 : Int)) : Ok (f_readLine_3s rec self3 x1 x2 x3 x4 I A) (fun o => TJ o.2.1 ∧ TK o.2.2 ∧ ((0 : Int) ≤ o.1.toInt ∧ o.1.toInt ≤ (92100 : Int)) ∧ ((o.2.1 37).toInt ≤ (o.2.1 1).toInt ∧ aa ≤ (o.2.1 37).toInt) ∧ ((o.1.toInt ≤ 0 → x3.toInt ≠ 0 → (o.2.1 37).toInt < (o.2.1 1).toInt)) ∧ (TRE o.2.2 gg) ∧ (TRH o.2.2 hh nb) ∧ (EX o.2.2 gg A0 nd)) := by
  unfold f_readLine_3s
  have b_I_1 := tI_1 hI
  have b_I_37 := tI_37 hI
  have b_I_29 := tI_29 hI
  have ck0 : cK A gg (aK A gg) := rfl
  obtain ⟨⟨r1, Ic1, Ac1⟩, h_r1, hI_Ic1, hA_Ac1, p_r1_0⟩ := t_blanks   hI hA (show (I 37).toInt ≤ (I 37).toInt ∧ (I 37).toInt ≤ (I 1).toInt ∧ (I 1).toInt ≤ (I 1).toInt from ⟨Int.le_refl _, by omega, Int.le_refl _⟩)
  replace hI_Ic1 : TJ Ic1 := hI_Ic1
  replace hA_Ac1 : TK Ac1 := hA_Ac1
  dsimp only at p_r1_0
  refine ok_clR h_r1 ?_
  have f_r1 := fw_blanks h_r1
  have : (Ic1 1).toInt = (I 1).toInt := congrArg Int32.toInt (f_r1.1 1 (by decide))
  have : (Ic1 29).toInt = (I 29).toInt := congrArg Int32.toInt (f_r1.1 29 (by decide))
  have k73 : TRE Ac1 gg := TRE_fr (f_r1.2 7 (by decide)) (f_r1.2 8 (by decide)) (f_r1.2 9 (by decide)) (f_r1.2 10 (by decide)) (f_r1.2 11 (by decide)) q2
  have k74 : TRH Ac1 hh nb := TRH_fr (f_r1.2 7 (by decide)) (f_r1.2 8 (by decide)) (f_r1.2 9 (by decide)) (f_r1.2 10 (by decide)) (f_r1.2 11 (by decide)) q3
  have k75 : EX Ac1 gg A0 nd := EX_fr (f_r1.2 7 (by decide)) (f_r1.2 8 (by decide)) (f_r1.2 10 (by decide)) q4
  have k76 : apd Ac1 gg x4.toInt.toNat x3.toInt := apd_fr (f_r1.2 7 (by decide)) (f_r1.2 8 (by decide)) (f_r1.2 10 (by decide)) q8
  have k77 : cK Ac1 gg (aK A gg) := cK_fr (f_r1.2 7 (by decide)) ck0
  refine ok_if (fun c78 => ?_) (fun c78 => ?_)
  ·
    replace c78 := ti_eqP c78 rfl (show (0 : Int32).toInt = 0 from rfl)
    obtain ⟨r3, h_r3, p_r3⟩ := ro (t_resultHere   hI_Ic1 hA_Ac1 )
    refine ok_clR h_r3 ?_
    dsimp only at p_r3
    refine ok_if (fun c79 => ?_) (fun c79 => ?_)
    ·
      replace c79 := ti_ltP c79 rfl (show (0 : Int32).toInt = 0 from rfl)
      have b_Ic1_1 := tI_1 hI_Ic1
      have b_Ic1_37 := tI_37 hI_Ic1
      exact t_readLine_38 (gg := gg) (hh := hh) (nb := nb) (aa := aa) (A0 := A0) (nd := nd) (rr := rr) hrec hfrec hself3 (x1 := x1) (x2 := x2) (x3 := x3) (x4 := x4) hI_Ic1 hA_Ac1 r_x1 r_x2 r_x3 r_x4 (by omega) (by omega) k73 k74 k75 q5 q6 q7 k76 q9 (by have z := k77; unfold cK at z; omega)
    ·
      replace c79 := ti_ltN c79 rfl (show (0 : Int32).toInt = 0 from rfl)
      unfold f_readLine_36
      exact ok_ret ⟨hI_Ic1, hA_Ac1, (show (0 : Int) ≤ (0 : Int32).toInt ∧ (0 : Int32).toInt ≤ (92100 : Int) from (by decide)), (by show (Ic1 37).toInt ≤ (Ic1 1).toInt ∧ aa ≤ (Ic1 37).toInt; have z : (0 : Int32).toInt = 0 := rfl; omega), (by show ((0 : Int32).toInt ≤ 0 → x3.toInt ≠ 0 → (Ic1 37).toInt < (Ic1 1).toInt); intro h h2; omega), k73, k74, k75⟩
  ·
    replace c78 := ti_eqN c78 rfl (show (0 : Int32).toInt = 0 from rfl)
    obtain ⟨r2, h_r2, p_r2⟩ := ro (t_look   hI_Ic1 hA_Ac1 )
    refine ok_clR h_r2 ?_
    dsimp only at p_r2
    refine ok_if (fun c80 => ?_) (fun c80 => ?_)
    ·
      replace c80 := ti_eqP c80 rfl (show (41 : Int32).toInt = 41 from rfl)
      refine ok_if (fun c81 => ?_) (fun c81 => ?_)
      ·
        replace c81 := ti_eqP c81 rfl rfl
        have b_Ic1_1 := tI_1 hI_Ic1
        have b_Ic1_37 := tI_37 hI_Ic1
        exact t_readLine_38 (gg := gg) (hh := hh) (nb := nb) (aa := aa) (A0 := A0) (nd := nd) (rr := rr) hrec hfrec hself3 (x1 := x1) (x2 := x2) (x3 := x3) (x4 := x4) hI_Ic1 hA_Ac1 r_x1 r_x2 r_x3 r_x4 (by omega) (by omega) k73 k74 k75 q5 q6 q7 k76 q9 (by have z := k77; unfold cK at z; omega)
      ·
        replace c81 := ti_eqN c81 rfl rfl
        unfold f_readLine_36
        exact ok_ret ⟨hI_Ic1, hA_Ac1, (show (0 : Int) ≤ (0 : Int32).toInt ∧ (0 : Int32).toInt ≤ (92100 : Int) from (by decide)), (by show (Ic1 37).toInt ≤ (Ic1 1).toInt ∧ aa ≤ (Ic1 37).toInt; have z : (0 : Int32).toInt = 0 := rfl; omega), (by show ((0 : Int32).toInt ≤ 0 → x3.toInt ≠ 0 → (Ic1 37).toInt < (Ic1 1).toInt); intro h h2; omega), k73, k74, k75⟩
    ·
      replace c80 := ti_eqN c80 rfl (show (41 : Int32).toInt = 41 from rfl)
      have b_Ic1_1 := tI_1 hI_Ic1
      have b_Ic1_37 := tI_37 hI_Ic1
      exact t_readLine_38 (gg := gg) (hh := hh) (nb := nb) (aa := aa) (A0 := A0) (nd := nd) (rr := rr) hrec hfrec hself3 (x1 := x1) (x2 := x2) (x3 := x3) (x4 := x4) hI_Ic1 hA_Ac1 r_x1 r_x2 r_x3 r_x4 (by omega) (by omega) k73 k74 k75 q5 q6 q7 k76 q9 (by have z := k77; unfold cK at z; omega)
theorem t_readLine_3 {gg hh nb : Nat} {aa : Int} {A0 : Nat → Nat → Int32} {nd : Nat} {rr : Int} {rec : Int32 → Int32 → Int32 → (Nat → Int32) → (Nat → Nat → Int32) → Option (Int32 × MS)} (hrec : ∀ (gg hh nb : Nat) (aa : Int) (A0 : Nat → Nat → Int32) (nd : Nat) (x1 : Int32) (x2 : Int32) (x3 : Int32) (I : Nat → Int32) (A : Nat → Nat → Int32), TJ I → TK A → ((0 : Int) ≤ x1.toInt ∧ x1.toInt ≤ (1 : Int)) → ((0 : Int) ≤ x2.toInt ∧ x2.toInt ≤ (300 : Int)) → ((0 : Int) ≤ x3.toInt ∧ x3.toInt ≤ (6 : Int)) → ((I 37).toInt ≤ (I 1).toInt) → (aa ≤ (I 37).toInt) → (TRE A gg) → (TRH A hh nb) → (EX A gg A0 nd) → (x1.toInt = (gg : Int)) → (hh ≤ 1 ∧ hh ≠ gg) → (x2.toInt.toNat = nd ∨ aK A0 gg < x2.toInt.toNat) → (apd A gg x2.toInt.toNat x3.toInt) → (7 - x3.toInt ≤ rr - 1) → Ok (rec x1 x2 x3 I A) (fun o => TJ o.2.1 ∧ TK o.2.2 ∧ ((0 : Int) ≤ o.1.toInt ∧ o.1.toInt ≤ (92100 : Int)) ∧ ((o.2.1 37).toInt ≤ (o.2.1 1).toInt ∧ aa ≤ (o.2.1 37).toInt) ∧ ((o.1.toInt ≤ 0 → x3.toInt ≠ 0 → (o.2.1 37).toInt < (o.2.1 1).toInt)) ∧ (TRE o.2.2 gg) ∧ (TRH o.2.2 hh nb) ∧ (EX o.2.2 gg A0 nd))) (hfrec : ∀ (x1 : Int32) (x2 : Int32) (x3 : Int32) (I : Nat → Int32) (A : Nat → Nat → Int32) (o : Int32 × MS), rec x1 x2 x3 I A = some o → FrS [25, 26, 27, 28, 29, 33, 36, 37] [7, 8, 9, 10, 11, 12, 13, 14, 15, 24, 30, 31, 32, 34, 35] I A o.2.1 o.2.2) : ∀ (n : Nat) (x1 : Int32) (x2 : Int32) (x3 : Int32) (x4 : Int32) (I : Nat → Int32) (A : Nat → Nat → Int32), TJ I → TK A → ((0 : Int) ≤ x1.toInt ∧ x1.toInt ≤ (1 : Int)) → ((0 : Int) ≤ x2.toInt ∧ x2.toInt ≤ (300 : Int)) → ((0 : Int) ≤ x3.toInt ∧ x3.toInt ≤ (6 : Int)) → ((0 : Int) ≤ x4.toInt ∧ x4.toInt ≤ (300 : Int)) → ((I 37).toInt ≤ (I 1).toInt) → (aa ≤ (I 37).toInt) → (TRE A gg) → (TRH A hh nb) → (EX A gg A0 nd) → (x1.toInt = (gg : Int)) → (hh ≤ 1 ∧ hh ≠ gg) → (x4.toInt.toNat = nd ∨ aK A0 gg < x4.toInt.toNat) → (apd A gg x4.toInt.toNat x3.toInt) → (7 - x3.toInt ≤ rr) → (301 - (aK A gg : Int)) < (n : Int) → Ok (f_readLine_3 rec  n x1 x2 x3 x4 I A) (fun o => TJ o.2.1 ∧ TK o.2.2 ∧ ((0 : Int) ≤ o.1.toInt ∧ o.1.toInt ≤ (92100 : Int)) ∧ ((o.2.1 37).toInt ≤ (o.2.1 1).toInt ∧ aa ≤ (o.2.1 37).toInt) ∧ ((o.1.toInt ≤ 0 → x3.toInt ≠ 0 → (o.2.1 37).toInt < (o.2.1 1).toInt)) ∧ (TRE o.2.2 gg) ∧ (TRH o.2.2 hh nb) ∧ (EX o.2.2 gg A0 nd)) := by
  intro n
  induction n with
  | zero => intro x1 x2 x3 x4 I A hI hA g0 g1 g2 g3 g4 g5 g6 g7 g8 g9 g10 g11 g12 g13  hm; exfalso; have := aK_le (g := gg) hA; omega
  | succ n ih =>
    intro x1 x2 x3 x4 I A hI hA g0 g1 g2 g3 g4 g5 g6 g7 g8 g9 g10 g11 g12 g13  hm
    exact t_readLine_3s (gg := gg) (hh := hh) (nb := nb) (aa := aa) (A0 := A0) (nd := nd) (rr := rr) hrec hfrec (N3 := n)  ih hI hA g0 g1 g2 g3 g4 g5 g6 g7 g8 g9 g10 g11 g12 g13  (by omega)
theorem t_readLine_0 {gg hh nb : Nat} {aa : Int} {A0 : Nat → Nat → Int32} {nd : Nat} {rr : Int} {I : Nat → Int32} {A : Nat → Nat → Int32} {rec : Int32 → Int32 → Int32 → (Nat → Int32) → (Nat → Nat → Int32) → Option (Int32 × MS)} (hrec : ∀ (gg hh nb : Nat) (aa : Int) (A0 : Nat → Nat → Int32) (nd : Nat) (x1 : Int32) (x2 : Int32) (x3 : Int32) (I : Nat → Int32) (A : Nat → Nat → Int32), TJ I → TK A → ((0 : Int) ≤ x1.toInt ∧ x1.toInt ≤ (1 : Int)) → ((0 : Int) ≤ x2.toInt ∧ x2.toInt ≤ (300 : Int)) → ((0 : Int) ≤ x3.toInt ∧ x3.toInt ≤ (6 : Int)) → ((I 37).toInt ≤ (I 1).toInt) → (aa ≤ (I 37).toInt) → (TRE A gg) → (TRH A hh nb) → (EX A gg A0 nd) → (x1.toInt = (gg : Int)) → (hh ≤ 1 ∧ hh ≠ gg) → (x2.toInt.toNat = nd ∨ aK A0 gg < x2.toInt.toNat) → (apd A gg x2.toInt.toNat x3.toInt) → (7 - x3.toInt ≤ rr - 1) → Ok (rec x1 x2 x3 I A) (fun o => TJ o.2.1 ∧ TK o.2.2 ∧ ((0 : Int) ≤ o.1.toInt ∧ o.1.toInt ≤ (92100 : Int)) ∧ ((o.2.1 37).toInt ≤ (o.2.1 1).toInt ∧ aa ≤ (o.2.1 37).toInt) ∧ ((o.1.toInt ≤ 0 → x3.toInt ≠ 0 → (o.2.1 37).toInt < (o.2.1 1).toInt)) ∧ (TRE o.2.2 gg) ∧ (TRH o.2.2 hh nb) ∧ (EX o.2.2 gg A0 nd))) (hfrec : ∀ (x1 : Int32) (x2 : Int32) (x3 : Int32) (I : Nat → Int32) (A : Nat → Nat → Int32) (o : Int32 × MS), rec x1 x2 x3 I A = some o → FrS [25, 26, 27, 28, 29, 33, 36, 37] [7, 8, 9, 10, 11, 12, 13, 14, 15, 24, 30, 31, 32, 34, 35] I A o.2.1 o.2.2) {x1 : Int32} {x2 : Int32} {x3 : Int32} (hI : TJ I) (hA : TK A) (r_x1 : (0 : Int) ≤ x1.toInt ∧ x1.toInt ≤ (1 : Int)) (r_x2 : (0 : Int) ≤ x2.toInt ∧ x2.toInt ≤ (300 : Int)) (r_x3 : (0 : Int) ≤ x3.toInt ∧ x3.toInt ≤ (6 : Int)) (q0 : (I 37).toInt ≤ (I 1).toInt) (q1 : aa ≤ (I 37).toInt) (q2 : TRE A gg) (q3 : TRH A hh nb) (q4 : EX A gg A0 nd) (q5 : x1.toInt = (gg : Int)) (q6 : hh ≤ 1 ∧ hh ≠ gg) (q7 : x2.toInt.toNat = nd ∨ aK A0 gg < x2.toInt.toNat) (q8 : apd A gg x2.toInt.toNat x3.toInt) (q9 : 7 - x3.toInt ≤ rr) : Ok (f_readLine_0 rec x1 x2 x3 I A) (fun o => TJ o.2.1 ∧ TK o.2.2 ∧ ((0 : Int) ≤ o.1.toInt ∧ o.1.toInt ≤ (92100 : Int)) ∧ ((o.2.1 37).toInt ≤ (o.2.1 1).toInt ∧ aa ≤ (o.2.1 37).toInt) ∧ ((o.1.toInt ≤ 0 → x3.toInt ≠ 0 → (o.2.1 37).toInt < (o.2.1 1).toInt)) ∧ (TRE o.2.2 gg) ∧ (TRH o.2.2 hh nb) ∧ (EX o.2.2 gg A0 nd)) := by
  unfold f_readLine_0
  have b_I_1 := tI_1 hI
  have b_I_37 := tI_37 hI
  have b_I_29 := tI_29 hI
  exact t_readLine_3 (gg := gg) (hh := hh) (nb := nb) (aa := aa) (A0 := A0) (nd := nd) (rr := rr) hrec hfrec   mFuel x1 x2 x3 x2 I A hI hA r_x1 r_x2 r_x3 r_x2 q0 q1 q2 q3 q4 q5 q6 q7 q8 q9 (by show _ < ((200000 : Nat) : Int); omega)
theorem tr_readLine : ∀ (n : Nat) (gg hh nb : Nat) (aa : Int) (A0 : Nat → Nat → Int32) (nd : Nat) (x1 : Int32) (x2 : Int32) (x3 : Int32) (I : Nat → Int32) (A : Nat → Nat → Int32), TJ I → TK A → ((0 : Int) ≤ x1.toInt ∧ x1.toInt ≤ (1 : Int)) → ((0 : Int) ≤ x2.toInt ∧ x2.toInt ≤ (300 : Int)) → ((0 : Int) ≤ x3.toInt ∧ x3.toInt ≤ (6 : Int)) → ((I 37).toInt ≤ (I 1).toInt) → (aa ≤ (I 37).toInt) → (TRE A gg) → (TRH A hh nb) → (EX A gg A0 nd) → (x1.toInt = (gg : Int)) → (hh ≤ 1 ∧ hh ≠ gg) → (x2.toInt.toNat = nd ∨ aK A0 gg < x2.toInt.toNat) → (apd A gg x2.toInt.toNat x3.toInt) → (7 - x3.toInt ≤ (n : Int)) → Ok (fr_readLine n x1 x2 x3 I A) (fun o => TJ o.2.1 ∧ TK o.2.2 ∧ ((0 : Int) ≤ o.1.toInt ∧ o.1.toInt ≤ (92100 : Int)) ∧ ((o.2.1 37).toInt ≤ (o.2.1 1).toInt ∧ aa ≤ (o.2.1 37).toInt) ∧ ((o.1.toInt ≤ 0 → x3.toInt ≠ 0 → (o.2.1 37).toInt < (o.2.1 1).toInt)) ∧ (TRE o.2.2 gg) ∧ (TRH o.2.2 hh nb) ∧ (EX o.2.2 gg A0 nd)) := by
  intro n
  induction n with
  | zero => intro gg hh nb aa A0 nd x1 x2 x3 I A hI hA g0 g1 g2 g3 g4 g5 g6 g7 g8 g9 g10 g11 hb; exfalso; omega
  | succ n ih =>
    intro gg hh nb aa A0 nd x1 x2 x3 I A hI hA g0 g1 g2 g3 g4 g5 g6 g7 g8 g9 g10 g11 hb
    exact t_readLine_0 (gg := gg) (hh := hh) (nb := nb) (aa := aa) (A0 := A0) (nd := nd) (rr := ((n + 1 : Nat) : Int)) (rec := fr_readLine n) (fun gg hh nb aa A0 nd x1 x2 x3 I A hI hA g0 g1 g2 g3 g4 g5 g6 g7 g8 g9 g10 g11 hb => ih gg hh nb aa A0 nd x1 x2 x3 I A hI hA g0 g1 g2 g3 g4 g5 g6 g7 g8 g9 g10 g11 (by omega)) (fun x1 x2 x3 I A o h => fwr_readLine n x1 x2 x3 I A o h) hI hA g0 g1 g2 g3 g4 g5 g6 g7 g8 g9 g10 g11 hb
theorem t_readLine {gg hh nb : Nat} {aa : Int} {A0 : Nat → Nat → Int32} {nd : Nat} {I : Nat → Int32} {A : Nat → Nat → Int32} {x1 : Int32} {x2 : Int32} {x3 : Int32} (hI : TJ I) (hA : TK A) (g0 : (0 : Int) ≤ x1.toInt ∧ x1.toInt ≤ (1 : Int)) (g1 : (0 : Int) ≤ x2.toInt ∧ x2.toInt ≤ (300 : Int)) (g2 : (0 : Int) ≤ x3.toInt ∧ x3.toInt ≤ (6 : Int)) (g3 : (I 37).toInt ≤ (I 1).toInt) (g4 : aa ≤ (I 37).toInt) (g5 : TRE A gg) (g6 : TRH A hh nb) (g7 : EX A gg A0 nd) (g8 : x1.toInt = (gg : Int)) (g9 : hh ≤ 1 ∧ hh ≠ gg) (g10 : x2.toInt.toNat = nd ∨ aK A0 gg < x2.toInt.toNat) (g11 : apd A gg x2.toInt.toNat x3.toInt) : Ok (f_readLine x1 x2 x3 I A) (fun o => TJ o.2.1 ∧ TK o.2.2 ∧ ((0 : Int) ≤ o.1.toInt ∧ o.1.toInt ≤ (92100 : Int)) ∧ ((o.2.1 37).toInt ≤ (o.2.1 1).toInt ∧ aa ≤ (o.2.1 37).toInt) ∧ ((o.1.toInt ≤ 0 → x3.toInt ≠ 0 → (o.2.1 37).toInt < (o.2.1 1).toInt)) ∧ (TRE o.2.2 gg) ∧ (TRH o.2.2 hh nb) ∧ (EX o.2.2 gg A0 nd)) := tr_readLine 8 gg hh nb aa A0 nd x1 x2 x3 I A hI hA g0 g1 g2 g3 g4 g5 g6 g7 g8 g9 g10 g11 (by omega)
