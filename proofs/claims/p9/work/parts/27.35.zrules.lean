theorem t_f_X11_isLetter_0 {S : ZS} {x0 : Int32} (hT : ZT S) : Ok (f_X11_isLetter_0 x0 S) (fun o => o.2 = S ∧ ((0 : Int) ≤ o.1.toInt ∧ o.1.toInt ≤ (1 : Int)) ∧ ((o.1.toInt = 1 → 65 ≤ x0.toInt))) := by
  unfold f_X11_isLetter_0
  refine ok_if (fun c1 => ?_) (fun c1 => ?_)
  ·
    replace c1 := ti_ltP (a := x0) (b := (97 : Int32)) c1 rfl (show (97 : Int32).toInt = 97 from rfl)
    unfold f_X11_isLetter_12
    refine ok_if (fun c2 => ?_) (fun c2 => ?_)
    ·
      replace c2 := ti_ltP (a := x0) (b := (65 : Int32)) c2 rfl (show (65 : Int32).toInt = 65 from rfl)
      unfold f_X11_isLetter_28
      unfold f_X11_isLetter_29
      refine ok_chk (by decide) ?_
      exact ok_ret ⟨rfl, (show (0 : Int) ≤ (0 : Int32).toInt ∧ (0 : Int32).toInt ≤ (1 : Int) from (by decide)), (by show ((0 : Int32).toInt = 1 → 65 ≤ x0.toInt); have z : (0 : Int32).toInt = 0 := rfl; omega)⟩
    ·
      replace c2 := ti_ltN (a := x0) (b := (65 : Int32)) c2 rfl (show (65 : Int32).toInt = 65 from rfl)
      refine ok_if (fun c3 => ?_) (fun c3 => ?_)
      ·
        replace c3 := ti_ltP (a := (90 : Int32)) (b := x0) c3 (show (90 : Int32).toInt = 90 from rfl) rfl
        unfold f_X11_isLetter_28
        unfold f_X11_isLetter_29
        refine ok_chk (by decide) ?_
        exact ok_ret ⟨rfl, (show (0 : Int) ≤ (0 : Int32).toInt ∧ (0 : Int32).toInt ≤ (1 : Int) from (by decide)), (by show ((0 : Int32).toInt = 1 → 65 ≤ x0.toInt); have z : (0 : Int32).toInt = 0 := rfl; omega)⟩
      ·
        replace c3 := ti_ltN (a := (90 : Int32)) (b := x0) c3 (show (90 : Int32).toInt = 90 from rfl) rfl
        unfold f_X11_isLetter_24
        unfold f_X11_isLetter_29
        refine ok_chk (by decide) ?_
        exact ok_ret ⟨rfl, (show (0 : Int) ≤ (1 : Int32).toInt ∧ (1 : Int32).toInt ≤ (1 : Int) from (by decide)), (by show ((1 : Int32).toInt = 1 → 65 ≤ x0.toInt); have z : (1 : Int32).toInt = 1 := rfl; omega)⟩
  ·
    replace c1 := ti_ltN (a := x0) (b := (97 : Int32)) c1 rfl (show (97 : Int32).toInt = 97 from rfl)
    refine ok_if (fun c4 => ?_) (fun c4 => ?_)
    ·
      replace c4 := ti_leP (a := x0) (b := (122 : Int32)) c4 rfl (show (122 : Int32).toInt = 122 from rfl)
      unfold f_X11_isLetter_24
      unfold f_X11_isLetter_29
      refine ok_chk (by decide) ?_
      exact ok_ret ⟨rfl, (show (0 : Int) ≤ (1 : Int32).toInt ∧ (1 : Int32).toInt ≤ (1 : Int) from (by decide)), (by show ((1 : Int32).toInt = 1 → 65 ≤ x0.toInt); have z : (1 : Int32).toInt = 1 := rfl; omega)⟩
    ·
      replace c4 := ti_leN (a := x0) (b := (122 : Int32)) c4 rfl (show (122 : Int32).toInt = 122 from rfl)
      unfold f_X11_isLetter_12
      refine ok_if (fun c5 => ?_) (fun c5 => ?_)
      ·
        replace c5 := ti_ltP (a := x0) (b := (65 : Int32)) c5 rfl (show (65 : Int32).toInt = 65 from rfl)
        unfold f_X11_isLetter_28
        unfold f_X11_isLetter_29
        refine ok_chk (by decide) ?_
        exact ok_ret ⟨rfl, (show (0 : Int) ≤ (0 : Int32).toInt ∧ (0 : Int32).toInt ≤ (1 : Int) from (by decide)), (by show ((0 : Int32).toInt = 1 → 65 ≤ x0.toInt); have z : (0 : Int32).toInt = 0 := rfl; omega)⟩
      ·
        replace c5 := ti_ltN (a := x0) (b := (65 : Int32)) c5 rfl (show (65 : Int32).toInt = 65 from rfl)
        refine ok_if (fun c6 => ?_) (fun c6 => ?_)
        ·
          replace c6 := ti_ltP (a := (90 : Int32)) (b := x0) c6 (show (90 : Int32).toInt = 90 from rfl) rfl
          unfold f_X11_isLetter_28
          unfold f_X11_isLetter_29
          refine ok_chk (by decide) ?_
          exact ok_ret ⟨rfl, (show (0 : Int) ≤ (0 : Int32).toInt ∧ (0 : Int32).toInt ≤ (1 : Int) from (by decide)), (by show ((0 : Int32).toInt = 1 → 65 ≤ x0.toInt); have z : (0 : Int32).toInt = 0 := rfl; omega)⟩
        ·
          replace c6 := ti_ltN (a := (90 : Int32)) (b := x0) c6 (show (90 : Int32).toInt = 90 from rfl) rfl
          unfold f_X11_isLetter_24
          unfold f_X11_isLetter_29
          refine ok_chk (by decide) ?_
          exact ok_ret ⟨rfl, (show (0 : Int) ≤ (1 : Int32).toInt ∧ (1 : Int32).toInt ≤ (1 : Int) from (by decide)), (by show ((1 : Int32).toInt = 1 → 65 ≤ x0.toInt); have z : (1 : Int32).toInt = 1 := rfl; omega)⟩
theorem t_f_X11_isLetter {S : ZS} {x0 : Int32} (hT : ZT S) : Ok (f_X11_isLetter x0 S) (fun o => o.2 = S ∧ ((0 : Int) ≤ o.1.toInt ∧ o.1.toInt ≤ (1 : Int)) ∧ ((o.1.toInt = 1 → 65 ≤ x0.toInt))) := t_f_X11_isLetter_0 hT 
theorem t_f_X11_isDigit_0 {S : ZS} {x0 : Int32} (hT : ZT S) : Ok (f_X11_isDigit_0 x0 S) (fun o => o.2 = S ∧ ((0 : Int) ≤ o.1.toInt ∧ o.1.toInt ≤ (1 : Int)) ∧ ((o.1.toInt = 1 → 48 ≤ x0.toInt ∧ x0.toInt ≤ 57))) := by
  unfold f_X11_isDigit_0
  refine ok_if (fun c7 => ?_) (fun c7 => ?_)
  ·
    replace c7 := ti_ltP (a := x0) (b := (48 : Int32)) c7 rfl (show (48 : Int32).toInt = 48 from rfl)
    unfold f_X11_isDigit_16
    unfold f_X11_isDigit_17
    refine ok_chk (by decide) ?_
    exact ok_ret ⟨rfl, (show (0 : Int) ≤ (0 : Int32).toInt ∧ (0 : Int32).toInt ≤ (1 : Int) from (by decide)), (by show ((0 : Int32).toInt = 1 → 48 ≤ x0.toInt ∧ x0.toInt ≤ 57); have z : (0 : Int32).toInt = 0 := rfl; omega)⟩
  ·
    replace c7 := ti_ltN (a := x0) (b := (48 : Int32)) c7 rfl (show (48 : Int32).toInt = 48 from rfl)
    refine ok_if (fun c8 => ?_) (fun c8 => ?_)
    ·
      replace c8 := ti_ltP (a := (57 : Int32)) (b := x0) c8 (show (57 : Int32).toInt = 57 from rfl) rfl
      unfold f_X11_isDigit_16
      unfold f_X11_isDigit_17
      refine ok_chk (by decide) ?_
      exact ok_ret ⟨rfl, (show (0 : Int) ≤ (0 : Int32).toInt ∧ (0 : Int32).toInt ≤ (1 : Int) from (by decide)), (by show ((0 : Int32).toInt = 1 → 48 ≤ x0.toInt ∧ x0.toInt ≤ 57); have z : (0 : Int32).toInt = 0 := rfl; omega)⟩
    ·
      replace c8 := ti_ltN (a := (57 : Int32)) (b := x0) c8 (show (57 : Int32).toInt = 57 from rfl) rfl
      unfold f_X11_isDigit_17
      refine ok_chk (by decide) ?_
      exact ok_ret ⟨rfl, (show (0 : Int) ≤ (1 : Int32).toInt ∧ (1 : Int32).toInt ≤ (1 : Int) from (by decide)), (by show ((1 : Int32).toInt = 1 → 48 ≤ x0.toInt ∧ x0.toInt ≤ 57); have z : (1 : Int32).toInt = 1 := rfl; omega)⟩
theorem t_f_X11_isDigit {S : ZS} {x0 : Int32} (hT : ZT S) : Ok (f_X11_isDigit x0 S) (fun o => o.2 = S ∧ ((0 : Int) ≤ o.1.toInt ∧ o.1.toInt ≤ (1 : Int)) ∧ ((o.1.toInt = 1 → 48 ≤ x0.toInt ∧ x0.toInt ≤ 57))) := t_f_X11_isDigit_0 hT 
theorem t_f_X11_isRank_0 {S : ZS} {x0 : Int32} (hT : ZT S) : Ok (f_X11_isRank_0 x0 S) (fun o => o.2 = S ∧ ((0 : Int) ≤ o.1.toInt ∧ o.1.toInt ≤ (1 : Int)) ∧ ((o.1.toInt = 1 → 49 ≤ x0.toInt ∧ x0.toInt ≤ 56))) := by
  unfold f_X11_isRank_0
  refine ok_if (fun c9 => ?_) (fun c9 => ?_)
  ·
    replace c9 := ti_ltP (a := x0) (b := (49 : Int32)) c9 rfl (show (49 : Int32).toInt = 49 from rfl)
    unfold f_X11_isRank_16
    unfold f_X11_isRank_17
    refine ok_chk (by decide) ?_
    exact ok_ret ⟨rfl, (show (0 : Int) ≤ (0 : Int32).toInt ∧ (0 : Int32).toInt ≤ (1 : Int) from (by decide)), (by show ((0 : Int32).toInt = 1 → 49 ≤ x0.toInt ∧ x0.toInt ≤ 56); have z : (0 : Int32).toInt = 0 := rfl; omega)⟩
  ·
    replace c9 := ti_ltN (a := x0) (b := (49 : Int32)) c9 rfl (show (49 : Int32).toInt = 49 from rfl)
    refine ok_if (fun c10 => ?_) (fun c10 => ?_)
    ·
      replace c10 := ti_ltP (a := (56 : Int32)) (b := x0) c10 (show (56 : Int32).toInt = 56 from rfl) rfl
      unfold f_X11_isRank_16
      unfold f_X11_isRank_17
      refine ok_chk (by decide) ?_
      exact ok_ret ⟨rfl, (show (0 : Int) ≤ (0 : Int32).toInt ∧ (0 : Int32).toInt ≤ (1 : Int) from (by decide)), (by show ((0 : Int32).toInt = 1 → 49 ≤ x0.toInt ∧ x0.toInt ≤ 56); have z : (0 : Int32).toInt = 0 := rfl; omega)⟩
    ·
      replace c10 := ti_ltN (a := (56 : Int32)) (b := x0) c10 (show (56 : Int32).toInt = 56 from rfl) rfl
      unfold f_X11_isRank_17
      refine ok_chk (by decide) ?_
      exact ok_ret ⟨rfl, (show (0 : Int) ≤ (1 : Int32).toInt ∧ (1 : Int32).toInt ≤ (1 : Int) from (by decide)), (by show ((1 : Int32).toInt = 1 → 49 ≤ x0.toInt ∧ x0.toInt ≤ 56); have z : (1 : Int32).toInt = 1 := rfl; omega)⟩
theorem t_f_X11_isRank {S : ZS} {x0 : Int32} (hT : ZT S) : Ok (f_X11_isRank x0 S) (fun o => o.2 = S ∧ ((0 : Int) ≤ o.1.toInt ∧ o.1.toInt ≤ (1 : Int)) ∧ ((o.1.toInt = 1 → 49 ≤ x0.toInt ∧ x0.toInt ≤ 56))) := t_f_X11_isRank_0 hT 
theorem t_f_X11_isFile_0 {S : ZS} {x0 : Int32} (hT : ZT S) : Ok (f_X11_isFile_0 x0 S) (fun o => o.2 = S ∧ ((0 : Int) ≤ o.1.toInt ∧ o.1.toInt ≤ (1 : Int)) ∧ ((o.1.toInt = 1 → 97 ≤ x0.toInt ∧ x0.toInt ≤ 104))) := by
  unfold f_X11_isFile_0
  refine ok_if (fun c11 => ?_) (fun c11 => ?_)
  ·
    replace c11 := ti_ltP (a := x0) (b := (97 : Int32)) c11 rfl (show (97 : Int32).toInt = 97 from rfl)
    unfold f_X11_isFile_16
    unfold f_X11_isFile_17
    refine ok_chk (by decide) ?_
    exact ok_ret ⟨rfl, (show (0 : Int) ≤ (0 : Int32).toInt ∧ (0 : Int32).toInt ≤ (1 : Int) from (by decide)), (by show ((0 : Int32).toInt = 1 → 97 ≤ x0.toInt ∧ x0.toInt ≤ 104); have z : (0 : Int32).toInt = 0 := rfl; omega)⟩
  ·
    replace c11 := ti_ltN (a := x0) (b := (97 : Int32)) c11 rfl (show (97 : Int32).toInt = 97 from rfl)
    refine ok_if (fun c12 => ?_) (fun c12 => ?_)
    ·
      replace c12 := ti_ltP (a := (104 : Int32)) (b := x0) c12 (show (104 : Int32).toInt = 104 from rfl) rfl
      unfold f_X11_isFile_16
      unfold f_X11_isFile_17
      refine ok_chk (by decide) ?_
      exact ok_ret ⟨rfl, (show (0 : Int) ≤ (0 : Int32).toInt ∧ (0 : Int32).toInt ≤ (1 : Int) from (by decide)), (by show ((0 : Int32).toInt = 1 → 97 ≤ x0.toInt ∧ x0.toInt ≤ 104); have z : (0 : Int32).toInt = 0 := rfl; omega)⟩
    ·
      replace c12 := ti_ltN (a := (104 : Int32)) (b := x0) c12 (show (104 : Int32).toInt = 104 from rfl) rfl
      unfold f_X11_isFile_17
      refine ok_chk (by decide) ?_
      exact ok_ret ⟨rfl, (show (0 : Int) ≤ (1 : Int32).toInt ∧ (1 : Int32).toInt ≤ (1 : Int) from (by decide)), (by show ((1 : Int32).toInt = 1 → 97 ≤ x0.toInt ∧ x0.toInt ≤ 104); have z : (1 : Int32).toInt = 1 := rfl; omega)⟩
theorem t_f_X11_isFile {S : ZS} {x0 : Int32} (hT : ZT S) : Ok (f_X11_isFile x0 S) (fun o => o.2 = S ∧ ((0 : Int) ≤ o.1.toInt ∧ o.1.toInt ≤ (1 : Int)) ∧ ((o.1.toInt = 1 → 97 ≤ x0.toInt ∧ x0.toInt ≤ 104))) := t_f_X11_isFile_0 hT 
theorem t_f_X11_squareOf_0 {S : ZS} {x0 : Int32} {x1 : Int32} (hT : ZT S) : Ok (f_X11_squareOf_0 x0 x1 S) (fun o => o.2 = S ∧ ((-1 : Int) ≤ o.1.toInt ∧ o.1.toInt ≤ (63 : Int))) := by
  unfold f_X11_squareOf_0
  obtain ⟨r1, h_r1, p_r1⟩ := roz (t_f_X11_isFile (x0 := x0) hT )
  dsimp only at p_r1
  refine ok_calR h_r1 ?_
  refine ok_if (fun c13 => ?_) (fun c13 => ?_)
  ·
    replace c13 := ti_eqP (a := r1) (b := (0 : Int32)) c13 rfl (show (0 : Int32).toInt = 0 from rfl)
    unfold f_X11_squareOf_29
    unfold f_X11_squareOf_30
    exact ok_ret ⟨rfl, (show (-1 : Int) ≤ (-1 : Int32).toInt ∧ (-1 : Int32).toInt ≤ (63 : Int) from (by decide))⟩
  ·
    replace c13 := ti_eqN (a := r1) (b := (0 : Int32)) c13 rfl (show (0 : Int32).toInt = 0 from rfl)
    obtain ⟨r2, h_r2, p_r2⟩ := roz (t_f_X11_isRank (x0 := x1) hT )
    dsimp only at p_r2
    refine ok_calR h_r2 ?_
    refine ok_if (fun c14 => ?_) (fun c14 => ?_)
    ·
      replace c14 := ti_eqP (a := r2) (b := (0 : Int32)) c14 rfl (show (0 : Int32).toInt = 0 from rfl)
      unfold f_X11_squareOf_29
      unfold f_X11_squareOf_30
      exact ok_ret ⟨rfl, (show (-1 : Int) ≤ (-1 : Int32).toInt ∧ (-1 : Int32).toInt ≤ (63 : Int) from (by decide))⟩
    ·
      replace c14 := ti_eqN (a := r2) (b := (0 : Int32)) c14 rfl (show (0 : Int32).toInt = 0 from rfl)
      refine ok_bnd (fun v3 e15 => ?_)
      have t_v3 : v3.toInt = x0.toInt - 97 := ti_sub e15 rfl (show (97 : Int32).toInt = 97 from rfl) (by omega) (by omega)
      refine ok_bnd (fun v4 e16 => ?_)
      have t_v4 : v4.toInt = x1.toInt - 49 := ti_sub e16 rfl (show (49 : Int32).toInt = 49 from rfl) (by omega) (by omega)
      refine ok_bnd (fun v5 e17 => ?_)
      have t_v5 : v5.toInt = 8 * v4.toInt := ti_mul e17 (show (8 : Int32).toInt = 8 from rfl) rfl (by omega) (by omega)
      refine ok_bnd (fun v6 e18 => ?_)
      have t_v6 : v6.toInt = v3.toInt + v5.toInt := ti_add e18 rfl rfl (by omega) (by omega)
      unfold f_X11_squareOf_30
      exact ok_ret ⟨rfl, (show (-1 : Int) ≤ v6.toInt ∧ v6.toInt ≤ (63 : Int) from (by omega))⟩
theorem t_f_X11_squareOf {S : ZS} {x0 : Int32} {x1 : Int32} (hT : ZT S) : Ok (f_X11_squareOf x0 x1 S) (fun o => o.2 = S ∧ ((-1 : Int) ≤ o.1.toInt ∧ o.1.toInt ≤ (63 : Int))) := t_f_X11_squareOf_0 hT 
theorem t_f_X11_kindOf_0 {S : ZS} {x0 : Int32} (hT : ZT S) : Ok (f_X11_kindOf_0 x0 S) (fun o => o.2 = S ∧ ((0 : Int) ≤ o.1.toInt ∧ o.1.toInt ≤ (30 : Int))) := by
  unfold f_X11_kindOf_0
  refine ok_chk (by decide) ?_
  obtain ⟨r1, h_r1, p_r1⟩ := roz (t_f_J0_indexOf_0f7a4 (x0 := 9) (x1 := x0) hT (by decide))
  dsimp only at p_r1
  refine ok_calR h_r1 ?_
  refine ok_bnd (fun v2 e19 => ?_)
  have t_v2 : v2.toInt = r1.toInt + 1 := ti_add e19 rfl (show (1 : Int32).toInt = 1 from rfl) (by omega) (by omega)
  exact ok_ret ⟨rfl, (show (0 : Int) ≤ v2.toInt ∧ v2.toInt ≤ (30 : Int) from (by omega))⟩
theorem t_f_X11_kindOf {S : ZS} {x0 : Int32} (hT : ZT S) : Ok (f_X11_kindOf x0 S) (fun o => o.2 = S ∧ ((0 : Int) ≤ o.1.toInt ∧ o.1.toInt ≤ (30 : Int))) := t_f_X11_kindOf_0 hT 
theorem t_f_X11_letterOf_0 {S : ZS} {x0 : Int32} (hT : ZT S) : Ok (f_X11_letterOf_0 x0 S) (fun o => o.2 = S ∧ ((0 : Int) ≤ o.1.toInt ∧ o.1.toInt ≤ (65535 : Int))) := by
  unfold f_X11_letterOf_0
  refine ok_if (fun c20 => ?_) (fun c20 => ?_)
  ·
    replace c20 := ti_ltP (a := x0) (b := (1 : Int32)) c20 rfl (show (1 : Int32).toInt = 1 from rfl)
    unfold f_X11_letterOf_23
    unfold f_X11_letterOf_25
    refine ok_chk (by decide) ?_
    exact ok_ret ⟨rfl, (show (0 : Int) ≤ (63 : Int32).toInt ∧ (63 : Int32).toInt ≤ (65535 : Int) from (by decide))⟩
  ·
    replace c20 := ti_ltN (a := x0) (b := (1 : Int32)) c20 rfl (show (1 : Int32).toInt = 1 from rfl)
    refine ok_if (fun c21 => ?_) (fun c21 => ?_)
    ·
      replace c21 := ti_ltP (a := (6 : Int32)) (b := x0) c21 (show (6 : Int32).toInt = 6 from rfl) rfl
      unfold f_X11_letterOf_23
      unfold f_X11_letterOf_25
      refine ok_chk (by decide) ?_
      exact ok_ret ⟨rfl, (show (0 : Int) ≤ (63 : Int32).toInt ∧ (63 : Int32).toInt ≤ (65535 : Int) from (by decide))⟩
    ·
      replace c21 := ti_ltN (a := (6 : Int32)) (b := x0) c21 (show (6 : Int32).toInt = 6 from rfl) rfl
      refine ok_bnd (fun v1 e22 => ?_)
      have t_v1 : v1.toInt = x0.toInt - 1 := ti_sub e22 rfl (show (1 : Int32).toInt = 1 from rfl) (by omega) (by omega)
      refine ok_chk (by decide) ?_
      obtain ⟨r2, h_r2, p_r2⟩ := roz (t_f_J0_charAt_5068e (x0 := 9) (x1 := v1) hT (by decide) (by have z : zSl.getD 9 0 = 6 := rfl; omega))
      dsimp only at p_r2
      refine ok_calR h_r2 ?_
      unfold f_X11_letterOf_25
      refine ok_chk (nar_c (v := r2) (by omega) (by omega)) ?_
      exact ok_ret ⟨rfl, (show (0 : Int) ≤ r2.toInt ∧ r2.toInt ≤ (65535 : Int) from (by omega))⟩
theorem t_f_X11_letterOf {S : ZS} {x0 : Int32} (hT : ZT S) : Ok (f_X11_letterOf x0 S) (fun o => o.2 = S ∧ ((0 : Int) ≤ o.1.toInt ∧ o.1.toInt ≤ (65535 : Int))) := t_f_X11_letterOf_0 hT 
theorem t_f_X11_fileLetter_0 {S : ZS} {x0 : Int32} (hT : ZT S) (r_x0 : (0 : Int) ≤ x0.toInt ∧ x0.toInt ≤ (63 : Int)) : Ok (f_X11_fileLetter_0 x0 S) (fun o => o.2 = S ∧ ((0 : Int) ≤ o.1.toInt ∧ o.1.toInt ≤ (65535 : Int))) := by
  unfold f_X11_fileLetter_0
  refine ok_bnd (fun v1 e23 => ?_)
  have t_v1 : v1.toInt = x0.toInt % 8 := b_and7 e23 (by omega)
  refine ok_bnd (fun v2 e24 => ?_)
  have t_v2 : v2.toInt = 97 + v1.toInt := ti_add e24 (show (97 : Int32).toInt = 97 from rfl) rfl (by omega) (by omega)
  refine ok_bnd (fun v3 e25 => ?_)
  have t_v3 : v3.toInt = v2.toInt := by rw [e25]; exact nar_ci rfl (by omega) (by omega)
  refine ok_chk (nar_c (v := v3) (by omega) (by omega)) ?_
  exact ok_ret ⟨rfl, (show (0 : Int) ≤ v3.toInt ∧ v3.toInt ≤ (65535 : Int) from (by omega))⟩
theorem t_f_X11_fileLetter {S : ZS} {x0 : Int32} (hT : ZT S) (r_x0 : (0 : Int) ≤ x0.toInt ∧ x0.toInt ≤ (63 : Int)) : Ok (f_X11_fileLetter x0 S) (fun o => o.2 = S ∧ ((0 : Int) ≤ o.1.toInt ∧ o.1.toInt ≤ (65535 : Int))) := t_f_X11_fileLetter_0 hT r_x0
theorem t_f_X11_rankDigit_0 {S : ZS} {x0 : Int32} (hT : ZT S) (r_x0 : (0 : Int) ≤ x0.toInt ∧ x0.toInt ≤ (63 : Int)) : Ok (f_X11_rankDigit_0 x0 S) (fun o => o.2 = S ∧ ((0 : Int) ≤ o.1.toInt ∧ o.1.toInt ≤ (65535 : Int))) := by
  unfold f_X11_rankDigit_0
  refine ok_bnd (fun v1 e26 => ?_)
  have t_v1 : v1.toInt = x0.toInt / 8 := b_sh3 e26 (by omega)
  refine ok_bnd (fun v2 e27 => ?_)
  have t_v2 : v2.toInt = 49 + v1.toInt := ti_add e27 (show (49 : Int32).toInt = 49 from rfl) rfl (by omega) (by omega)
  refine ok_bnd (fun v3 e28 => ?_)
  have t_v3 : v3.toInt = v2.toInt := by rw [e28]; exact nar_ci rfl (by omega) (by omega)
  refine ok_chk (nar_c (v := v3) (by omega) (by omega)) ?_
  exact ok_ret ⟨rfl, (show (0 : Int) ≤ v3.toInt ∧ v3.toInt ≤ (65535 : Int) from (by omega))⟩
theorem t_f_X11_rankDigit {S : ZS} {x0 : Int32} (hT : ZT S) (r_x0 : (0 : Int) ≤ x0.toInt ∧ x0.toInt ≤ (63 : Int)) : Ok (f_X11_rankDigit x0 S) (fun o => o.2 = S ∧ ((0 : Int) ≤ o.1.toInt ∧ o.1.toInt ≤ (65535 : Int))) := t_f_X11_rankDigit_0 hT r_x0
theorem t_f_X11_resultSign_0 {S : ZS} {x0 : Int32} (hT : ZT S) : Ok (f_X11_resultSign_0 x0 S) (fun o => o.2 = S ∧ (o.1 < 29)) := by
  unfold f_X11_resultSign_0
  refine ok_if (fun c29 => ?_) (fun c29 => ?_)
  ·
    replace c29 := ti_eqP (a := x0) (b := (1 : Int32)) c29 rfl (show (1 : Int32).toInt = 1 from rfl)
    exact ok_ret ⟨rfl, (show 3 < 29 by decide)⟩
  ·
    replace c29 := ti_eqN (a := x0) (b := (1 : Int32)) c29 rfl (show (1 : Int32).toInt = 1 from rfl)
    refine ok_if (fun c30 => ?_) (fun c30 => ?_)
    ·
      replace c30 := ti_eqP (a := x0) (b := (2 : Int32)) c30 rfl (show (2 : Int32).toInt = 2 from rfl)
      exact ok_ret ⟨rfl, (show 4 < 29 by decide)⟩
    ·
      replace c30 := ti_eqN (a := x0) (b := (2 : Int32)) c30 rfl (show (2 : Int32).toInt = 2 from rfl)
      refine ok_if (fun c31 => ?_) (fun c31 => ?_)
      ·
        replace c31 := ti_eqP (a := x0) (b := (3 : Int32)) c31 rfl (show (3 : Int32).toInt = 3 from rfl)
        exact ok_ret ⟨rfl, (show 5 < 29 by decide)⟩
      ·
        replace c31 := ti_eqN (a := x0) (b := (3 : Int32)) c31 rfl (show (3 : Int32).toInt = 3 from rfl)
        exact ok_ret ⟨rfl, (show 6 < 29 by decide)⟩
theorem t_f_X11_resultSign {S : ZS} {x0 : Int32} (hT : ZT S) : Ok (f_X11_resultSign x0 S) (fun o => o.2 = S ∧ (o.1 < 29)) := t_f_X11_resultSign_0 hT 
theorem t_f_X6_size_0 {S : ZS} {x0 : Nat} (hT : ZT S) (r_x0 : zK S x0 = 6) : Ok (f_X6_size_0 x0 S) (fun o => o.2 = S ∧ ((0 : Int) ≤ o.1.toInt ∧ o.1.toInt ≤ (90000 : Int)) ∧ (o.1 = zI S 1 x0)) := by
  unfold f_X6_size_0
  refine ok_chk r_x0 ?_
  have j32 := J_6_1 hT r_x0
  exact ok_ret ⟨rfl, (show (0 : Int) ≤ (zI S 1 x0).toInt ∧ (zI S 1 x0).toInt ≤ (90000 : Int) from (by omega)), (by show (zI S 1 x0) = zI S 1 x0; exact rfl)⟩
theorem t_f_X6_size {S : ZS} {x0 : Nat} (hT : ZT S) (r_x0 : zK S x0 = 6) : Ok (f_X6_size x0 S) (fun o => o.2 = S ∧ ((0 : Int) ≤ o.1.toInt ∧ o.1.toInt ≤ (90000 : Int)) ∧ (o.1 = zI S 1 x0)) := t_f_X6_size_0 hT r_x0
theorem t_f_X6_keep_0 {SZ S : ZS} {x0 : Nat} {x1 : Int32} (hT : ZT S) (hR : A7 SZ S) (r_x0 : zK S x0 = 6) (q0 : rc x0 ≠ 2) : Ok (f_X6_keep_0 x0 x1 S) (fun o => ZT o.2 ∧ A7 SZ o.2 ∧ True) := by
  unfold f_X6_keep_0
  refine ok_if (fun c33 => ?_) (fun c33 => ?_)
  ·
    replace c33 := ti_ltP (a := x1) (b := (0 : Int32)) c33 rfl (show (0 : Int32).toInt = 0 from rfl)
    unfold f_X6_keep_17
    exact ok_ret ⟨hT, hR, trivial⟩
  ·
    replace c33 := ti_ltN (a := x1) (b := (0 : Int32)) c33 rfl (show (0 : Int32).toInt = 0 from rfl)
    refine ok_chk r_x0 ?_
    have j34 := J_6_1 hT r_x0
    refine ok_if (fun c35 => ?_) (fun c35 => ?_)
    ·
      replace c35 := ti_leP (a := (zI S 1 x0)) (b := x1) c35 rfl rfl
      unfold f_X6_keep_17
      exact ok_ret ⟨hT, hR, trivial⟩
    ·
      replace c35 := ti_leN (a := (zI S 1 x0)) (b := x1) c35 rfl rfl
      refine ok_chk r_x0 ?_
      refine ok_bnd (fun S1 e36 => ?_)
      have T_S1 : ZT S1 := e36.symm ▸ zt_len hT r_x0 (show (0 : Int) ≤ x1.toInt from by omega) (show x1.toInt ≤ (zI S 1 x0).toInt by omega)
      have kE_S1 : zK S1 = zK S := by rw [e36]; rfl
      have nE_S1 : zN S1 = zN S := by rw [e36]; rfl
      have R_S1 : A7 SZ S1 := a7_I6 hR e36 (by omega)
      unfold f_X6_keep_17
      exact ok_ret ⟨T_S1, R_S1, trivial⟩
theorem t_f_X6_keep {SZ S : ZS} {x0 : Nat} {x1 : Int32} (hT : ZT S) (hR : A7 SZ S) (r_x0 : zK S x0 = 6) (q0 : rc x0 ≠ 2) : Ok (f_X6_keep x0 x1 S) (fun o => ZT o.2 ∧ A7 SZ o.2 ∧ True) := t_f_X6_keep_0 hT hR r_x0 q0
theorem t_f_X7_isSafe_61 {SZ S : ZS} {x0 : Nat} {x1 : Nat} {x2 : Int32} {x5 : Int32} (hT : ZT S) (hR : A7 SZ S) (r_x0 : zK S x0 = 7) (r_x1 : zK S x1 = 0) : Ok (f_X7_isSafe_61 x0 x1 x2 x5 S) (fun o => ZT o.2 ∧ A7 SZ o.2 ∧ ((0 : Int) ≤ o.1.toInt ∧ o.1.toInt ≤ (1 : Int))) := by
  unfold f_X7_isSafe_61
  refine ok_chk r_x0 ?_
  obtain ⟨b1, p_b1, k_b1⟩ := T_7_0 hT r_x0
  refine ok_calR p_b1 ?_
  refine ok_chk k_b1 ?_
  obtain ⟨⟨r2, S2⟩, h_r2, T_S2, A_S2, -⟩ := t_f_X0_copyFrom (x0 := b1) (x1 := x1) (SZ := S) hT (a7_0 S) k_b1 r_x1
  replace T_S2 : ZT S2 := T_S2
  replace A_S2 : A7 S S2 := A_S2
  refine ok_calR h_r2 ?_
  have q_S2 := fq_X0_copyFrom h_r2
  have kE_S2 : zK S2 = zK S := q_S2.2.2.1
  have nE_S2 : zN S2 = zN S := q_S2.2.2.2.1
  have R_S2 : A7 SZ S2 := a7_t hR A_S2
  refine ok_chk ((congrFun kE_S2 x0).trans r_x0) ?_
  obtain ⟨b3, p_b3, k_b3⟩ := T_7_0 T_S2 ((congrFun kE_S2 x0).trans r_x0)
  refine ok_calR p_b3 ?_
  refine ok_chk k_b3 ?_
  obtain ⟨⟨r4, S4⟩, h_r4, T_S4, A_S4, -⟩ := t_f_X0_play (x0 := b3) (x1 := x2) (SZ := S2) T_S2 (a7_0 S2) k_b3
  replace T_S4 : ZT S4 := T_S4
  replace A_S4 : A7 S2 S4 := A_S4
  refine ok_calR h_r4 ?_
  have q_S4 := fq_X0_play h_r4
  have kE_S4 : zK S4 = zK S2 := q_S4.2.2.1
  have nE_S4 : zN S4 = zN S2 := q_S4.2.2.2.1
  have R_S4 : A7 SZ S4 := a7_t R_S2 A_S4
  refine ok_chk ((congrFun kE_S4 x0).trans ((congrFun kE_S2 x0).trans r_x0)) ?_
  obtain ⟨b5, p_b5, k_b5⟩ := T_7_0 T_S4 ((congrFun kE_S4 x0).trans ((congrFun kE_S2 x0).trans r_x0))
  refine ok_calR p_b5 ?_
  refine ok_chk ((congrFun kE_S4 x0).trans ((congrFun kE_S2 x0).trans r_x0)) ?_
  obtain ⟨b6, p_b6, k_b6⟩ := T_7_0 T_S4 ((congrFun kE_S4 x0).trans ((congrFun kE_S2 x0).trans r_x0))
  refine ok_calR p_b6 ?_
  refine ok_chk k_b6 ?_
  obtain ⟨r7, h_r7, p_r7⟩ := roz (t_f_X0_kingOf (x0 := b6) (x1 := x5) T_S4 k_b6)
  dsimp only at p_r7
  refine ok_calR h_r7 ?_
  refine ok_bnd (fun v8 e37 => ?_)
  refine ok_chk k_b5 ?_
  obtain ⟨r9, h_r9, p_r9⟩ := roz (t_f_X0_attacked (x0 := b5) (x1 := r7) (x2 := v8) T_S4 k_b5 (by omega))
  dsimp only at p_r9
  refine ok_calR h_r9 ?_
  refine ok_if (fun c38 => ?_) (fun c38 => ?_)
  ·
    replace c38 := ti_eqP (a := r9) (b := (0 : Int32)) c38 rfl (show (0 : Int32).toInt = 0 from rfl)
    unfold f_X7_isSafe_105
    refine ok_chk (by decide) ?_
    exact ok_ret ⟨T_S4, R_S4, (show (0 : Int) ≤ (1 : Int32).toInt ∧ (1 : Int32).toInt ≤ (1 : Int) from (by decide))⟩
  ·
    replace c38 := ti_eqN (a := r9) (b := (0 : Int32)) c38 rfl (show (0 : Int32).toInt = 0 from rfl)
    unfold f_X7_isSafe_105
    refine ok_chk (by decide) ?_
    exact ok_ret ⟨T_S4, R_S4, (show (0 : Int) ≤ (0 : Int32).toInt ∧ (0 : Int32).toInt ≤ (1 : Int) from (by decide))⟩
theorem t_f_X7_isSafe_0 {SZ S : ZS} {x0 : Nat} {x1 : Nat} {x2 : Int32} (hT : ZT S) (hR : A7 SZ S) (r_x0 : zK S x0 = 7) (r_x1 : zK S x1 = 0) : Ok (f_X7_isSafe_0 x0 x1 x2 S) (fun o => ZT o.2 ∧ A7 SZ o.2 ∧ ((0 : Int) ≤ o.1.toInt ∧ o.1.toInt ≤ (1 : Int))) := by
  unfold f_X7_isSafe_0
  refine ok_bnd (fun v1 e39 => ?_)
  have t_v1 := ti_and e39 (show (63 : Int32).toBitVec.toNat = 63 from rfl) (by decide)
  refine ok_bnd (fun v2 e40 => ?_)
  refine ok_bnd (fun v3 e41 => ?_)
  have t_v3 := ti_and e41 (show (63 : Int32).toBitVec.toNat = 63 from rfl) (by decide)
  refine ok_chk r_x1 ?_
  refine ok_chk r_x1 ?_
  obtain ⟨r4, h_r4, p_r4⟩ := roz (t_f_X0_castles (x0 := x1) (x1 := v1) (x2 := v3) hT r_x1 (by omega) (by omega))
  dsimp only at p_r4
  refine ok_calR h_r4 ?_
  refine ok_if (fun c42 => ?_) (fun c42 => ?_)
  ·
    replace c42 := ti_eqP (a := r4) (b := (0 : Int32)) c42 rfl (show (0 : Int32).toInt = 0 from rfl)
    exact t_f_X7_isSafe_61 (S := S)  (x0 := x0) (x1 := x1) (x2 := x2) (x5 := (zI S 3 x1)) hT hR r_x0 r_x1
  ·
    replace c42 := ti_eqN (a := r4) (b := (0 : Int32)) c42 rfl (show (0 : Int32).toInt = 0 from rfl)
    refine ok_bnd (fun v5 e43 => ?_)
    have j44 := J_0_3 hT r_x1
    have t_v5 : v5.toInt = 1 - (zI S 3 x1).toInt := ti_sub e43 (show (1 : Int32).toInt = 1 from rfl) rfl (by omega) (by omega)
    refine ok_chk r_x1 ?_
    obtain ⟨r6, h_r6, p_r6⟩ := roz (t_f_X0_attacked (x0 := x1) (x1 := v1) (x2 := v5) hT r_x1 (by omega))
    dsimp only at p_r6
    refine ok_calR h_r6 ?_
    refine ok_if (fun c45 => ?_) (fun c45 => ?_)
    ·
      replace c45 := ti_eqP (a := r6) (b := (0 : Int32)) c45 rfl (show (0 : Int32).toInt = 0 from rfl)
      refine ok_bnd (fun v7 e46 => ?_)
      have t_v7 : v7.toInt = v1.toInt + v3.toInt := ti_add e46 rfl rfl (by omega) (by omega)
      refine ok_bnd (fun v8 e47 => ?_)
      have t_v8 : v8.toInt = v7.toInt / 2 := ti_div e47 rfl (show (2 : Int32).toInt = 2 from rfl) (by omega) (by decide)
      refine ok_bnd (fun v9 e48 => ?_)
      have t_v9 : v9.toInt = 1 - (zI S 3 x1).toInt := ti_sub e48 (show (1 : Int32).toInt = 1 from rfl) rfl (by omega) (by omega)
      refine ok_chk r_x1 ?_
      obtain ⟨r10, h_r10, p_r10⟩ := roz (t_f_X0_attacked (x0 := x1) (x1 := v8) (x2 := v9) hT r_x1 (by omega))
      dsimp only at p_r10
      refine ok_calR h_r10 ?_
      refine ok_if (fun c49 => ?_) (fun c49 => ?_)
      ·
        replace c49 := ti_eqP (a := r10) (b := (0 : Int32)) c49 rfl (show (0 : Int32).toInt = 0 from rfl)
        exact t_f_X7_isSafe_61 (S := S)  (x0 := x0) (x1 := x1) (x2 := x2) (x5 := (zI S 3 x1)) hT hR r_x0 r_x1
      ·
        replace c49 := ti_eqN (a := r10) (b := (0 : Int32)) c49 rfl (show (0 : Int32).toInt = 0 from rfl)
        unfold f_X7_isSafe_59
        refine ok_chk (by decide) ?_
        exact ok_ret ⟨hT, hR, (show (0 : Int) ≤ (0 : Int32).toInt ∧ (0 : Int32).toInt ≤ (1 : Int) from (by decide))⟩
    ·
      replace c45 := ti_eqN (a := r6) (b := (0 : Int32)) c45 rfl (show (0 : Int32).toInt = 0 from rfl)
      unfold f_X7_isSafe_59
      refine ok_chk (by decide) ?_
      exact ok_ret ⟨hT, hR, (show (0 : Int) ≤ (0 : Int32).toInt ∧ (0 : Int32).toInt ≤ (1 : Int) from (by decide))⟩
theorem t_f_X7_isSafe {SZ S : ZS} {x0 : Nat} {x1 : Nat} {x2 : Int32} (hT : ZT S) (hR : A7 SZ S) (r_x0 : zK S x0 = 7) (r_x1 : zK S x1 = 0) : Ok (f_X7_isSafe x0 x1 x2 S) (fun o => ZT o.2 ∧ A7 SZ o.2 ∧ ((0 : Int) ≤ o.1.toInt ∧ o.1.toInt ≤ (1 : Int))) := t_f_X7_isSafe_0 hT hR r_x0 r_x1
theorem t_f_X7_isLegal_66 {SZ S : ZS} {x0 : Nat} {x1 : Nat} {x2 : Int32} {t0 : Int32} {t1 : Int32} (hT : ZT S) (hR : A7 SZ S) (r_x0 : zK S x0 = 7) (r_x1 : zK S x1 = 0) : Ok (f_X7_isLegal_66 x0 x1 x2 t0 t1 S) (fun o => ZT o.2 ∧ A7 SZ o.2 ∧ ((0 : Int) ≤ o.1.toInt ∧ o.1.toInt ≤ (1 : Int))) := by
  unfold f_X7_isLegal_66
  refine ok_if (fun c50 => ?_) (fun c50 => ?_)
  ·
    replace c50 := ti_eqP (a := t1) (b := t0) c50 rfl rfl
    refine ok_chk r_x0 ?_
    obtain ⟨⟨r1, S1⟩, h_r1, T_S1, A_S1, p_r1⟩ := t_f_X7_isSafe (x0 := x0) (x1 := x1) (x2 := x2) (SZ := S) hT (a7_0 S) r_x0 r_x1
    replace T_S1 : ZT S1 := T_S1
    replace A_S1 : A7 S S1 := A_S1
    dsimp only at p_r1
    refine ok_calR h_r1 ?_
    have q_S1 := fq_X7_isSafe h_r1
    have kE_S1 : zK S1 = zK S := q_S1.2.2.1
    have nE_S1 : zN S1 = zN S := q_S1.2.2.2.1
    have R_S1 : A7 SZ S1 := a7_t hR A_S1
    refine ok_if (fun c51 => ?_) (fun c51 => ?_)
    ·
      replace c51 := ti_eqP (a := r1) (b := (0 : Int32)) c51 rfl (show (0 : Int32).toInt = 0 from rfl)
      unfold f_X7_isLegal_82
      unfold f_X7_isLegal_83
      refine ok_chk (by decide) ?_
      exact ok_ret ⟨T_S1, R_S1, (show (0 : Int) ≤ (0 : Int32).toInt ∧ (0 : Int32).toInt ≤ (1 : Int) from (by decide))⟩
    ·
      replace c51 := ti_eqN (a := r1) (b := (0 : Int32)) c51 rfl (show (0 : Int32).toInt = 0 from rfl)
      unfold f_X7_isLegal_83
      refine ok_chk (by decide) ?_
      exact ok_ret ⟨T_S1, R_S1, (show (0 : Int) ≤ (1 : Int32).toInt ∧ (1 : Int32).toInt ≤ (1 : Int) from (by decide))⟩
  ·
    replace c50 := ti_eqN (a := t1) (b := t0) c50 rfl rfl
    unfold f_X7_isLegal_82
    unfold f_X7_isLegal_83
    refine ok_chk (by decide) ?_
    exact ok_ret ⟨hT, hR, (show (0 : Int) ≤ (0 : Int32).toInt ∧ (0 : Int32).toInt ≤ (1 : Int) from (by decide))⟩
theorem t_f_X7_isLegal_0 {SZ S : ZS} {x0 : Nat} {x1 : Nat} {x2 : Int32} (hT : ZT S) (hR : A7 SZ S) (r_x0 : zK S x0 = 7) (r_x1 : zK S x1 = 0) : Ok (f_X7_isLegal_0 x0 x1 x2 S) (fun o => ZT o.2 ∧ A7 SZ o.2 ∧ ((0 : Int) ≤ o.1.toInt ∧ o.1.toInt ≤ (1 : Int))) := by
  unfold f_X7_isLegal_0
  refine ok_bnd (fun v1 e52 => ?_)
  have t_v1 := ti_and e52 (show (63 : Int32).toBitVec.toNat = 63 from rfl) (by decide)
  refine ok_bnd (fun v2 e53 => ?_)
  refine ok_bnd (fun v3 e54 => ?_)
  have t_v3 := ti_and e54 (show (63 : Int32).toBitVec.toNat = 63 from rfl) (by decide)
  refine ok_bnd (fun v4 e55 => ?_)
  refine ok_if (fun c56 => ?_) (fun c56 => ?_)
  ·
    replace c56 := ti_ltP (a := v4) (b := (0 : Int32)) c56 rfl (show (0 : Int32).toInt = 0 from rfl)
    unfold f_X7_isLegal_47
    refine ok_chk (by decide) ?_
    exact ok_ret ⟨hT, hR, (show (0 : Int) ≤ (0 : Int32).toInt ∧ (0 : Int32).toInt ≤ (1 : Int) from (by decide))⟩
  ·
    replace c56 := ti_ltN (a := v4) (b := (0 : Int32)) c56 rfl (show (0 : Int32).toInt = 0 from rfl)
    refine ok_if (fun c57 => ?_) (fun c57 => ?_)
    ·
      replace c57 := ti_eqP (a := v4) (b := (1 : Int32)) c57 rfl (show (1 : Int32).toInt = 1 from rfl)
      unfold f_X7_isLegal_47
      refine ok_chk (by decide) ?_
      exact ok_ret ⟨hT, hR, (show (0 : Int) ≤ (0 : Int32).toInt ∧ (0 : Int32).toInt ≤ (1 : Int) from (by decide))⟩
    ·
      replace c57 := ti_eqN (a := v4) (b := (1 : Int32)) c57 rfl (show (1 : Int32).toInt = 1 from rfl)
      refine ok_if (fun c58 => ?_) (fun c58 => ?_)
      ·
        replace c58 := ti_ltP (a := (5 : Int32)) (b := v4) c58 (show (5 : Int32).toInt = 5 from rfl) rfl
        unfold f_X7_isLegal_47
        refine ok_chk (by decide) ?_
        exact ok_ret ⟨hT, hR, (show (0 : Int) ≤ (0 : Int32).toInt ∧ (0 : Int32).toInt ≤ (1 : Int) from (by decide))⟩
      ·
        replace c58 := ti_ltN (a := (5 : Int32)) (b := v4) c58 (show (5 : Int32).toInt = 5 from rfl) rfl
        refine ok_chk r_x1 ?_
        obtain ⟨r5, h_r5, p_r5⟩ := roz (t_f_X0_reaches (x0 := x1) (x1 := v1) (x2 := v3) hT r_x1 (by omega) (by omega))
        dsimp only at p_r5
        refine ok_calR h_r5 ?_
        refine ok_if (fun c59 => ?_) (fun c59 => ?_)
        ·
          replace c59 := ti_eqP (a := r5) (b := (0 : Int32)) c59 rfl (show (0 : Int32).toInt = 0 from rfl)
          unfold f_X7_isLegal_47
          refine ok_chk (by decide) ?_
          exact ok_ret ⟨hT, hR, (show (0 : Int) ≤ (0 : Int32).toInt ∧ (0 : Int32).toInt ≤ (1 : Int) from (by decide))⟩
        ·
          replace c59 := ti_eqN (a := r5) (b := (0 : Int32)) c59 rfl (show (0 : Int32).toInt = 0 from rfl)
          refine ok_chk r_x1 ?_
          obtain ⟨r6, h_r6, p_r6⟩ := roz (t_f_X0_becomesAnother (x0 := x1) (x1 := v1) (x2 := v3) hT r_x1 (by omega))
          dsimp only at p_r6
          refine ok_calR h_r6 ?_
          refine ok_if (fun c60 => ?_) (fun c60 => ?_)
          ·
            replace c60 := ti_eqP (a := v4) (b := (0 : Int32)) c60 rfl (show (0 : Int32).toInt = 0 from rfl)
            exact t_f_X7_isLegal_66 (S := S)  (x0 := x0) (x1 := x1) (x2 := x2) (t0 := (0 : Int32)) (t1 := r6) hT hR r_x0 r_x1
          ·
            replace c60 := ti_eqN (a := v4) (b := (0 : Int32)) c60 rfl (show (0 : Int32).toInt = 0 from rfl)
            exact t_f_X7_isLegal_66 (S := S)  (x0 := x0) (x1 := x1) (x2 := x2) (t0 := (1 : Int32)) (t1 := r6) hT hR r_x0 r_x1
theorem t_f_X7_isLegal {SZ S : ZS} {x0 : Nat} {x1 : Nat} {x2 : Int32} (hT : ZT S) (hR : A7 SZ S) (r_x0 : zK S x0 = 7) (r_x1 : zK S x1 = 0) : Ok (f_X7_isLegal x0 x1 x2 S) (fun o => ZT o.2 ∧ A7 SZ o.2 ∧ ((0 : Int) ≤ o.1.toInt ∧ o.1.toInt ≤ (1 : Int))) := t_f_X7_isLegal_0 hT hR r_x0 r_x1
