def d_X8_matched_29  : Nat → Nat → Nat → Nat → Int32 → Int32 → Int32 → Int32 → Int32 → ZS → Option (Int32 × ZS)
  | 0 => fun _ _ _ _ _ _ _ _ _ => none
  | n + 1 => d_X8_matched_29s  (d_X8_matched_29  n)
theorem tt_X8_matched_29 {Pw : Int32 → ZS → Prop}   {n : Nat} : ∀ {z0 : Nat} {z1 : Nat} {z2 : Nat} {z3 : Int32} {z4 : Int32} {z5 : Int32} {z6 : Int32} {z7 : Int32} {S : ZS}, Tw Pw (d_X8_matched_29  n z0 z1 z2 z3 z4 z5 z6 z7 S) (zt S) (zu S) (fun C T => g_X8_matched_29 Pw  n z0 z1 z2 z3 z4 z5 z6 z7 S C T) := by
  induction n with
  | zero => intro z0 z1 z2 z3 z4 z5 z6 z7 S; exact tw_none
  | succ n ih => intro z0 z1 z2 z3 z4 z5 z6 z7 S; exact tt_X8_matched_29s  (fun _ _ _ _ _ _ _ _ _ => ih)
def d_X8_matched_0 (x0 : Nat) (x1 : Nat) (x2 : Nat) (x3 : Int32) (x4 : Int32) (S : ZS) : Option (Int32 × ZS) :=
  m_chk (zK S x0 = 8) (
  m_cal2 (d_X8_copyWhole x0 x2 x3 x4 S) (fun r2 S3 =>
  m_chk (zK S3 x0 = 8) (
  m_cal (f_X8_parse x0 S3) (fun o6 => m_chk (zt o6.2 = zt S3 ∧ zu o6.2 = zu S3) (
  m_if (o6.1 = 0) (
  d_X8_matched_103 x0 x1 x2 x3 x4 o6.2
  ) (
  m_chk (zK o6.2 x0 = 8) (
  m_cal (f_X8_gather x0 x1 o6.2) (fun o7 => m_chk (zt o7.2 = zt o6.2 ∧ zu o7.2 = zu o6.2) (
  d_X8_matched_29 mFuel x0 x1 x2 x3 x4 (-1 : Int32) (0 : Int32) (0 : Int32) o7.2)))
  ))))))
theorem tt_X8_matched_0 {Pw : Int32 → ZS → Prop}   {x0 : Nat} {x1 : Nat} {x2 : Nat} {x3 : Int32} {x4 : Int32} {S : ZS} : Tw Pw (d_X8_matched_0 x0 x1 x2 x3 x4 S) (zt S) (zu S) (fun C T => g_X8_matched_0 Pw x0 x1 x2 x3 x4 S C T) := by
  unfold d_X8_matched_0 g_X8_matched_0
  refine tw_chk (fun _ => ?_)
  refine tw_gal (fun Pw9 => tw_at (⟨rfl, rfl⟩ : zt S = zt S ∧ zu S = zu S) tt_X8_copyWhole) (fun r2 S3 => ?_)
  refine tw_chk (fun _ => ?_)
  refine tw_calf (⟨rfl, rfl⟩ : zt S3 = zt S3 ∧ zu S3 = zu S3) (fun o6 co6 => ?_)
  refine tw_if (fun _ => ?_) (fun _ => ?_)
  ·
    exact tw_at co6 (tt_X8_matched_103)
  ·
    refine tw_chk (fun _ => ?_)
    refine tw_calf co6 (fun o7 co7 => ?_)
    exact tw_at co7 (tt_X8_matched_29)
def d_X8_matched (x0 : Nat) (x1 : Nat) (x2 : Nat) (x3 : Int32) (x4 : Int32) (S : ZS) : Option (Int32 × ZS) := d_X8_matched_0 x0 x1 x2 x3 x4 S
theorem tt_X8_matched {Pw : Int32 → ZS → Prop} {x0 : Nat} {x1 : Nat} {x2 : Nat} {x3 : Int32} {x4 : Int32} {S : ZS} : Tw Pw (d_X8_matched x0 x1 x2 x3 x4 S) (zt S) (zu S) (fun C T => g_X8_matched x0 x1 x2 x3 x4 S C T Pw) := tt_X8_matched_0
def d_X2_readMove_234 (t0 : Int32) (S : ZS) : Option (Int32 × ZS) :=
  m_chk (vp_nar .boolean t0 = t0) (
  some (t0, S))
theorem tt_X2_readMove_234 {Pw : Int32 → ZS → Prop}   {t0 : Int32} {S : ZS} : Tw Pw (d_X2_readMove_234 t0 S) (zt S) (zu S) (fun C T => g_X2_readMove_234 Pw t0 S C T) := by
  unfold d_X2_readMove_234 g_X2_readMove_234
  refine tw_chk (fun _ => ?_)
  exact tw_ret (⟨rfl, rfl⟩ : zt S = zt S ∧ zu S = zu S)
def d_X2_readMove_233 (S : ZS) : Option (Int32 × ZS) :=
  d_X2_readMove_234 (0 : Int32) S
theorem tt_X2_readMove_233 {Pw : Int32 → ZS → Prop}   {S : ZS} : Tw Pw (d_X2_readMove_233 S) (zt S) (zu S) (fun C T => g_X2_readMove_233 Pw S C T) := by
  unfold d_X2_readMove_233 g_X2_readMove_233
  exact tw_at (⟨rfl, rfl⟩ : zt S = zt S ∧ zu S = zu S) (tt_X2_readMove_234)
def d_X2_readMove_110 (x3 : Int32) (t0 : Int32) (t1 : Nat) (S : ZS) : Option (Int32 × ZS) :=
  m_chk (zK S t1 = 2) (
  m_cal (f_X2_refuse t1 t0 x3 S) (fun o1 => m_chk (zt o1.2 = zt S ∧ zu o1.2 = zu S) (
  m_chk (vp_nar .boolean o1.1 = o1.1) (
  some (o1.1, o1.2)))))
theorem tt_X2_readMove_110 {Pw : Int32 → ZS → Prop}   {x3 : Int32} {t0 : Int32} {t1 : Nat} {S : ZS} : Tw Pw (d_X2_readMove_110 x3 t0 t1 S) (zt S) (zu S) (fun C T => g_X2_readMove_110 Pw x3 t0 t1 S C T) := by
  unfold d_X2_readMove_110 g_X2_readMove_110
  refine tw_chk (fun _ => ?_)
  refine tw_calf (⟨rfl, rfl⟩ : zt S = zt S ∧ zu S = zu S) (fun o1 co1 => ?_)
  refine tw_chk (fun _ => ?_)
  exact tw_ret co1
def d_X2_readMove_37 (x0 : Nat) (x1 : Int32) (x2 : Nat) (S : ZS) : Option (Int32 × ZS) :=
  m_chk (zK S x0 = 2) (
  m_cal (zP S 2 x0) (fun b1 =>
  m_chk (zK S x0 = 2) (
  m_chk (zK S b1 = 6) (
  m_cal (f_X6_at b1 (zI S 4 x0) S) (fun o2 => m_chk (zt o2.2 = zt S ∧ zu o2.2 = zu S) (
  m_cal (f_X11_isLetter o2.1 o2.2) (fun o3 => m_chk (zt o3.2 = zt o2.2 ∧ zu o3.2 = zu o2.2) (
  m_if (o3.1 = 0) (
  m_chk (zK o3.2 x0 = 2) (
  m_chk (zK o3.2 x0 = 2) (
  m_cal (f_X2_refuse x0 (1 : Int32) (zI o3.2 4 x0) o3.2) (fun o42 => m_chk (zt o42.2 = zt o3.2 ∧ zu o42.2 = zu o3.2) (
  m_chk (vp_nar .boolean o42.1 = o42.1) (
  some (o42.1, o42.2))))))
  ) (
  m_chk (zK o3.2 x0 = 2) (
  m_chk (zK o3.2 x0 = 2) (
  m_cal (f_X2_skipSigns x0 o3.2) (fun o4 => m_chk (zt o4.2 = zt o3.2 ∧ zu o4.2 = zu o3.2) (
  m_chk (zK o4.2 x0 = 2) (
  m_cal (zP o4.2 0 x0) (fun b5 =>
  m_chk (zK o4.2 x0 = 2) (
  m_cal (zP o4.2 2 x0) (fun b6 =>
  m_chk (zK o4.2 x0 = 2) (
  m_chk (zK o4.2 b5 = 8) (
  m_cal2 (d_X8_matched b5 x2 b6 (zI o3.2 4 x0) (zI o4.2 4 x0) o4.2) (fun r8 S9 =>
  m_if (0 ≤ r8) (
  m_chk (zK S9 x0 = 2) (
  m_cal (zP S9 3 x0) (fun b12 =>
  m_chk (zK S9 x0 = 2) (
  m_cal (zP S9 9 x0) (fun b13 =>
  m_chk (zK S9 b13 = 14) (
  m_chk (¬ (x1 < 0 ∨ zN S9 b13 ≤ (x1).toNatClampNeg)) (
  m_bnd (zA S9 b13 (x1).toNatClampNeg) (fun v14 =>
  m_chk (zK S9 b12 = 1) (
  m_cal (f_X1_childWith b12 v14 r8 S9) (fun o15 => m_chk (zt o15.2 = zt S9 ∧ zu o15.2 = zu S9) (
  m_if (o15.1 = (-1 : Int32)) (
  m_chk (zK o15.2 x0 = 2) (
  m_cal (zP o15.2 3 x0) (fun b16 =>
  m_chk (zK o15.2 x0 = 2) (
  m_cal (zP o15.2 9 x0) (fun b17 =>
  m_chk (zK o15.2 b17 = 14) (
  m_chk (¬ (x1 < 0 ∨ zN o15.2 b17 ≤ (x1).toNatClampNeg)) (
  m_bnd (zA o15.2 b17 (x1).toNatClampNeg) (fun v18 =>
  m_chk (zK o15.2 b16 = 1) (
  m_cal2 (d_X1_grow b16 v18 r8 o15.2) (fun r20 S21 =>
  m_if (r20 = (-1 : Int32)) (
  m_chk (zK S21 x0 = 2) (
  m_cal (f_X2_refuse x0 (8 : Int32) (zI o3.2 4 x0) S21) (fun o40 => m_chk (zt o40.2 = zt S21 ∧ zu o40.2 = zu S21) (
  m_chk (vp_nar .boolean o40.1 = o40.1) (
  some (o40.1, o40.2)))))
  ) (
  m_chk (zK S21 x0 = 2) (
  m_cal (zP S21 9 x0) (fun b24 =>
  m_chk (zK S21 b24 = 14) (
  m_chk (¬ (x1 < 0 ∨ zN S21 b24 ≤ (x1).toNatClampNeg)) (
  m_bnd (zsA S21 b24 (x1).toNatClampNeg r20) (fun S25 =>
  m_chk (zK S25 x0 = 2) (
  m_cal (zP S25 10 x0) (fun b26 =>
  m_chk (zK S25 b26 = 15) (
  m_chk (¬ (x1 < 0 ∨ zN S25 b26 ≤ (x1).toNatClampNeg)) (
  m_cal (zB S25 b26 (x1).toNatClampNeg) (fun b27 =>
  m_chk (zK S25 b27 = 0) (
  m_cal (f_X0_copyFrom b27 x2 S25) (fun o28 => m_chk (zt o28.2 = zt S25 ∧ zu o28.2 = zu S25) (
  m_chk (zK o28.2 x2 = 0) (
  m_cal (f_X0_play x2 r8 o28.2) (fun o29 => m_chk (zt o29.2 = zt o28.2 ∧ zu o29.2 = zu o28.2) (
  m_chk (zK o29.2 x0 = 2) (
  m_cal (zP o29.2 3 x0) (fun b30 =>
  m_chk (zK o29.2 b30 = 1) (
  m_cal (f_X1_at b30 r20 o29.2) (fun o31 => m_chk (zt o31.2 = zt o29.2 ∧ zu o31.2 = zu o29.2) (
  m_chk (zK o31.2 x0 = 2) (
  m_cal (f_X2_readMarks x0 o31.1 o31.2) (fun o32 => m_chk (zt o32.2 = zt o31.2 ∧ zu o32.2 = zu o31.2) (
  m_if (o32.1 = 0) (
  d_X2_readMove_233 o32.2
  ) (
  m_chk (zK o32.2 x0 = 2) (
  m_cal (zP o32.2 3 x0) (fun b33 =>
  m_chk (zK o32.2 b33 = 1) (
  m_cal (f_X1_at b33 r20 o32.2) (fun o34 => m_chk (zt o34.2 = zt o32.2 ∧ zu o34.2 = zu o32.2) (
  m_chk (zK o34.2 x0 = 2) (
  m_cal2 (d_X2_readRemarks x0 o34.1 o34.2) (fun r36 S37 =>
  m_if (r36 = 0) (
  d_X2_readMove_233 S37
  ) (
  d_X2_readMove_234 (1 : Int32) S37
  ))))))))
  )))))))))))))))))))))))))
  ))))))))))
  ) (
  m_chk (zK o15.2 x0 = 2) (
  m_cal (f_X2_refuse x0 (6 : Int32) (zI o3.2 4 x0) o15.2) (fun o41 => m_chk (zt o41.2 = zt o15.2 ∧ zu o41.2 = zu o15.2) (
  m_chk (vp_nar .boolean o41.1 = o41.1) (
  some (o41.1, o41.2)))))
  )))))))))))
  ) (
  m_if (r8 = (-2 : Int32)) (
  d_X2_readMove_110 (zI o3.2 4 x0) (5 : Int32) x0 S9
  ) (
  d_X2_readMove_110 (zI o3.2 4 x0) (4 : Int32) x0 S9
  )
  ))))))))))))
  )))))))))
theorem tt_X2_readMove_37 {Pw : Int32 → ZS → Prop}   {x0 : Nat} {x1 : Int32} {x2 : Nat} {S : ZS} : Tw Pw (d_X2_readMove_37 x0 x1 x2 S) (zt S) (zu S) (fun C T => g_X2_readMove_37 Pw x0 x1 x2 S C T) := by
  unfold d_X2_readMove_37 g_X2_readMove_37
  refine tw_chk (fun _ => ?_)
  refine tw_calv (fun b1 => ?_)
  refine tw_chk (fun _ => ?_)
  refine tw_chk (fun _ => ?_)
  refine tw_calf (⟨rfl, rfl⟩ : zt S = zt S ∧ zu S = zu S) (fun o2 co2 => ?_)
  refine tw_calf co2 (fun o3 co3 => ?_)
  refine tw_if (fun _ => ?_) (fun _ => ?_)
  ·
    refine tw_chk (fun _ => ?_)
    refine tw_chk (fun _ => ?_)
    refine tw_calf co3 (fun o42 co42 => ?_)
    refine tw_chk (fun _ => ?_)
    exact tw_ret co42
  ·
    refine tw_chk (fun _ => ?_)
    refine tw_chk (fun _ => ?_)
    refine tw_calf co3 (fun o4 co4 => ?_)
    refine tw_chk (fun _ => ?_)
    refine tw_calv (fun b5 => ?_)
    refine tw_chk (fun _ => ?_)
    refine tw_calv (fun b6 => ?_)
    refine tw_chk (fun _ => ?_)
    refine tw_chk (fun _ => ?_)
    refine tw_gal (fun Pw9 => tw_at co4 tt_X8_matched) (fun r8 S9 => ?_)
    refine tw_if (fun _ => ?_) (fun _ => ?_)
    ·
      refine tw_chk (fun _ => ?_)
      refine tw_calv (fun b12 => ?_)
      refine tw_chk (fun _ => ?_)
      refine tw_calv (fun b13 => ?_)
      refine tw_chk (fun _ => ?_)
      refine tw_chk (fun _ => ?_)
      refine tw_bndv (fun v14 => ?_)
      refine tw_chk (fun _ => ?_)
      refine tw_calf (⟨rfl, rfl⟩ : zt S9 = zt S9 ∧ zu S9 = zu S9) (fun o15 co15 => ?_)
      refine tw_if (fun _ => ?_) (fun _ => ?_)
      ·
        refine tw_chk (fun _ => ?_)
        refine tw_calv (fun b16 => ?_)
        refine tw_chk (fun _ => ?_)
        refine tw_calv (fun b17 => ?_)
        refine tw_chk (fun _ => ?_)
        refine tw_chk (fun _ => ?_)
        refine tw_bndv (fun v18 => ?_)
        refine tw_chk (fun _ => ?_)
        refine tw_gal (fun Pw9 => tw_at co15 tt_X1_grow) (fun r20 S21 => ?_)
        refine tw_if (fun _ => ?_) (fun _ => ?_)
        ·
          refine tw_chk (fun _ => ?_)
          refine tw_calf (⟨rfl, rfl⟩ : zt S21 = zt S21 ∧ zu S21 = zu S21) (fun o40 co40 => ?_)
          refine tw_chk (fun _ => ?_)
          exact tw_ret co40
        ·
          refine tw_chk (fun _ => ?_)
          refine tw_calv (fun b24 => ?_)
          refine tw_chk (fun _ => ?_)
          refine tw_chk (fun _ => ?_)
          refine tw_bnds (⟨rfl, rfl⟩ : zt S21 = zt S21 ∧ zu S21 = zu S21) (fun S25 cS25 => ?_)
          refine tw_chk (fun _ => ?_)
          refine tw_calv (fun b26 => ?_)
          refine tw_chk (fun _ => ?_)
          refine tw_chk (fun _ => ?_)
          refine tw_calv (fun b27 => ?_)
          refine tw_chk (fun _ => ?_)
          refine tw_calf cS25 (fun o28 co28 => ?_)
          refine tw_chk (fun _ => ?_)
          refine tw_calf co28 (fun o29 co29 => ?_)
          refine tw_chk (fun _ => ?_)
          refine tw_calv (fun b30 => ?_)
          refine tw_chk (fun _ => ?_)
          refine tw_calf co29 (fun o31 co31 => ?_)
          refine tw_chk (fun _ => ?_)
          refine tw_calf co31 (fun o32 co32 => ?_)
          refine tw_if (fun _ => ?_) (fun _ => ?_)
          ·
            exact tw_at co32 (tt_X2_readMove_233)
          ·
            refine tw_chk (fun _ => ?_)
            refine tw_calv (fun b33 => ?_)
            refine tw_chk (fun _ => ?_)
            refine tw_calf co32 (fun o34 co34 => ?_)
            refine tw_chk (fun _ => ?_)
            refine tw_gal (fun Pw9 => tw_at co34 tt_X2_readRemarks) (fun r36 S37 => ?_)
            refine tw_if (fun _ => ?_) (fun _ => ?_)
            ·
              exact tw_at (⟨rfl, rfl⟩ : zt S37 = zt S37 ∧ zu S37 = zu S37) (tt_X2_readMove_233)
            ·
              exact tw_at (⟨rfl, rfl⟩ : zt S37 = zt S37 ∧ zu S37 = zu S37) (tt_X2_readMove_234)
      ·
        refine tw_chk (fun _ => ?_)
        refine tw_calf co15 (fun o41 co41 => ?_)
        refine tw_chk (fun _ => ?_)
        exact tw_ret co41
    ·
      refine tw_if (fun _ => ?_) (fun _ => ?_)
      ·
        exact tw_at (⟨rfl, rfl⟩ : zt S9 = zt S9 ∧ zu S9 = zu S9) (tt_X2_readMove_110)
      ·
        exact tw_at (⟨rfl, rfl⟩ : zt S9 = zt S9 ∧ zu S9 = zu S9) (tt_X2_readMove_110)
def d_X2_readMove_0 (x0 : Nat) (x1 : Int32) (S : ZS) : Option (Int32 × ZS) :=
  m_chk (zK S x0 = 2) (
  m_cal (zP S 11 x0) (fun b1 =>
  m_chk (zK S b1 = 15) (
  m_chk (¬ (x1 < 0 ∨ zN S b1 ≤ (x1).toNatClampNeg)) (
  m_cal (zB S b1 (x1).toNatClampNeg) (fun b2 =>
  m_chk (zK S x0 = 2) (
  m_cal (zP S 2 x0) (fun b3 =>
  m_chk (zK S x0 = 2) (
  m_chk (zK S b3 = 6) (
  m_cal (f_X6_at b3 (zI S 4 x0) S) (fun o4 => m_chk (zt o4.2 = zt S ∧ zu o4.2 = zu S) (
  m_cal (f_X11_isDigit o4.1 o4.2) (fun o5 => m_chk (zt o5.2 = zt o4.2 ∧ zu o5.2 = zu o4.2) (
  m_if (o5.1 = 0) (
  d_X2_readMove_37 x0 x1 b2 o5.2
  ) (
  m_chk (zK o5.2 b2 = 0) (
  m_chk (zK o5.2 x0 = 2) (
  m_cal (f_X2_readNumber x0 (zI o5.2 6 b2) o5.2) (fun o6 => m_chk (zt o6.2 = zt o5.2 ∧ zu o6.2 = zu o5.2) (
  m_if (o6.1 = 0) (
  m_chk (vp_nar .boolean (0 : Int32) = (0 : Int32)) (
  some ((0 : Int32), o6.2))
  ) (
  d_X2_readMove_37 x0 x1 b2 o6.2
  )))))
  ))))))))))))))
theorem tt_X2_readMove_0 {Pw : Int32 → ZS → Prop}   {x0 : Nat} {x1 : Int32} {S : ZS} : Tw Pw (d_X2_readMove_0 x0 x1 S) (zt S) (zu S) (fun C T => g_X2_readMove_0 Pw x0 x1 S C T) := by
  unfold d_X2_readMove_0 g_X2_readMove_0
  refine tw_chk (fun _ => ?_)
  refine tw_calv (fun b1 => ?_)
  refine tw_chk (fun _ => ?_)
  refine tw_chk (fun _ => ?_)
  refine tw_calv (fun b2 => ?_)
  refine tw_chk (fun _ => ?_)
  refine tw_calv (fun b3 => ?_)
  refine tw_chk (fun _ => ?_)
  refine tw_chk (fun _ => ?_)
  refine tw_calf (⟨rfl, rfl⟩ : zt S = zt S ∧ zu S = zu S) (fun o4 co4 => ?_)
  refine tw_calf co4 (fun o5 co5 => ?_)
  refine tw_if (fun _ => ?_) (fun _ => ?_)
  ·
    exact tw_at co5 (tt_X2_readMove_37)
  ·
    refine tw_chk (fun _ => ?_)
    refine tw_chk (fun _ => ?_)
    refine tw_calf co5 (fun o6 co6 => ?_)
    refine tw_if (fun _ => ?_) (fun _ => ?_)
    ·
      refine tw_chk (fun _ => ?_)
      exact tw_ret co6
    ·
      exact tw_at co6 (tt_X2_readMove_37)
def d_X2_readMove (x0 : Nat) (x1 : Int32) (S : ZS) : Option (Int32 × ZS) := d_X2_readMove_0 x0 x1 S
theorem tt_X2_readMove {Pw : Int32 → ZS → Prop} {x0 : Nat} {x1 : Int32} {S : ZS} : Tw Pw (d_X2_readMove x0 x1 S) (zt S) (zu S) (fun C T => g_X2_readMove x0 x1 S C T Pw) := tt_X2_readMove_0
def d_X2_readMoves_197 (self34 : Nat → Int32 → Int32 → ZS → Option (Int32 × ZS)) (x0 : Nat) (x1 : Int32) (x2 : Int32) (S : ZS) : Option (Int32 × ZS) :=
  m_bnd (x2 + (1 : Int32)) (fun v1 =>
  self34 x0 x1 v1 S)
theorem tt_X2_readMoves_197 {Pw : Int32 → ZS → Prop} {self34 : Nat → Int32 → Int32 → ZS → Option (Int32 × ZS)} {self34g : Nat → Int32 → Int32 → ZS → Nat → Nat → Prop} (hself34 : ∀ (y0 : Nat) (y1 : Int32) (y2 : Int32) (S : ZS), Tw Pw (self34 y0 y1 y2 S) (zt S) (zu S) (fun C T => self34g y0 y1 y2 S C T)) {x0 : Nat} {x1 : Int32} {x2 : Int32} {S : ZS} : Tw Pw (d_X2_readMoves_197 self34 x0 x1 x2 S) (zt S) (zu S) (fun C T => g_X2_readMoves_197 Pw self34g x0 x1 x2 S C T) := by
  unfold d_X2_readMoves_197 g_X2_readMoves_197
  refine tw_bndv (fun v1 => ?_)
  exact tw_at (⟨rfl, rfl⟩ : zt S = zt S ∧ zu S = zu S) (hself34 _ _ _ _)
def d_X2_readMoves_187 (self34 : Nat → Int32 → Int32 → ZS → Option (Int32 × ZS)) (x0 : Nat) (x1 : Int32) (x2 : Int32) (S : ZS) : Option (Int32 × ZS) :=
  m_chk (zK S x0 = 2) (
  m_cal2 (d_X2_readMove x0 x1 S) (fun r2 S3 =>
  m_if (r2 = 0) (
  m_chk (vp_nar .boolean (0 : Int32) = (0 : Int32)) (
  some ((0 : Int32), S3))
  ) (
  d_X2_readMoves_197 self34 x0 x1 x2 S3
  )))
theorem tt_X2_readMoves_187 {Pw : Int32 → ZS → Prop} {self34 : Nat → Int32 → Int32 → ZS → Option (Int32 × ZS)} {self34g : Nat → Int32 → Int32 → ZS → Nat → Nat → Prop} (hself34 : ∀ (y0 : Nat) (y1 : Int32) (y2 : Int32) (S : ZS), Tw Pw (self34 y0 y1 y2 S) (zt S) (zu S) (fun C T => self34g y0 y1 y2 S C T)) {x0 : Nat} {x1 : Int32} {x2 : Int32} {S : ZS} : Tw Pw (d_X2_readMoves_187 self34 x0 x1 x2 S) (zt S) (zu S) (fun C T => g_X2_readMoves_187 Pw self34g x0 x1 x2 S C T) := by
  unfold d_X2_readMoves_187 g_X2_readMoves_187
  refine tw_chk (fun _ => ?_)
  refine tw_gal (fun Pw9 => tw_at (⟨rfl, rfl⟩ : zt S = zt S ∧ zu S = zu S) tt_X2_readMove) (fun r2 S3 => ?_)
  refine tw_if (fun _ => ?_) (fun _ => ?_)
  ·
    refine tw_chk (fun _ => ?_)
    exact tw_ret (⟨rfl, rfl⟩ : zt S3 = zt S3 ∧ zu S3 = zu S3)
  ·
    exact tw_at (⟨rfl, rfl⟩ : zt S3 = zt S3 ∧ zu S3 = zu S3) (tt_X2_readMoves_197 hself34)
def d_X2_readMoves_128 (self34 : Nat → Int32 → Int32 → ZS → Option (Int32 × ZS)) (x0 : Nat) (x1 : Int32) (x2 : Int32) (x3 : Int32) (S : ZS) : Option (Int32 × ZS) :=
  m_if (x3 = 0) (
  d_X2_readMoves_187 self34 x0 x1 x2 S
  ) (
  m_if (x1 ≤ 0) (
  d_X2_readMoves_187 self34 x0 x1 x2 S
  ) (
  m_chk (zK S x0 = 2) (
  m_cal (zP S 2 x0) (fun b1 =>
  m_chk (zK S x0 = 2) (
  m_chk (zK S b1 = 6) (
  m_cal (f_X6_at b1 (zI S 4 x0) S) (fun o2 => m_chk (zt o2.2 = zt S ∧ zu o2.2 = zu S) (
  m_if (o2.1 = (41 : Int32)) (
  m_bnd (x1 + (-1 : Int32)) (fun v3 =>
  m_chk (zK o2.2 x0 = 2) (
  m_bnd ((zI o2.2 4 x0) + (1 : Int32)) (fun v4 =>
  m_chk (zK o2.2 x0 = 2) (
  m_bnd (zsI o2.2 4 x0 v4) (fun S5 =>
  m_chk (zK S5 x0 = 2) (
  m_cal (zP S5 3 x0) (fun b6 =>
  m_chk (zK S5 x0 = 2) (
  m_cal (zP S5 9 x0) (fun b7 =>
  m_chk (zK S5 b7 = 14) (
  m_chk (¬ (v3 < 0 ∨ zN S5 b7 ≤ (v3).toNatClampNeg)) (
  m_bnd (zA S5 b7 (v3).toNatClampNeg) (fun v8 =>
  m_chk (zK S5 b6 = 1) (
  m_cal (f_X1_at b6 v8 S5) (fun o9 => m_chk (zt o9.2 = zt S5 ∧ zu o9.2 = zu S5) (
  m_chk (zK o9.2 x0 = 2) (
  m_cal2 (d_X2_readRemarks x0 o9.1 o9.2) (fun r11 S12 =>
  m_if (r11 = 0) (
  m_chk (vp_nar .boolean (0 : Int32) = (0 : Int32)) (
  some ((0 : Int32), S12))
  ) (
  d_X2_readMoves_197 self34 x0 v3 x2 S12
  ))))))))))))))))))
  ) (
  d_X2_readMoves_187 self34 x0 x1 x2 o2.2
  )))))))
  )
  )
theorem tt_X2_readMoves_128 {Pw : Int32 → ZS → Prop} {self34 : Nat → Int32 → Int32 → ZS → Option (Int32 × ZS)} {self34g : Nat → Int32 → Int32 → ZS → Nat → Nat → Prop} (hself34 : ∀ (y0 : Nat) (y1 : Int32) (y2 : Int32) (S : ZS), Tw Pw (self34 y0 y1 y2 S) (zt S) (zu S) (fun C T => self34g y0 y1 y2 S C T)) {x0 : Nat} {x1 : Int32} {x2 : Int32} {x3 : Int32} {S : ZS} : Tw Pw (d_X2_readMoves_128 self34 x0 x1 x2 x3 S) (zt S) (zu S) (fun C T => g_X2_readMoves_128 Pw self34g x0 x1 x2 x3 S C T) := by
  unfold d_X2_readMoves_128 g_X2_readMoves_128
  refine tw_if (fun _ => ?_) (fun _ => ?_)
  ·
    exact tw_at (⟨rfl, rfl⟩ : zt S = zt S ∧ zu S = zu S) (tt_X2_readMoves_187 hself34)
  ·
    refine tw_if (fun _ => ?_) (fun _ => ?_)
    ·
      exact tw_at (⟨rfl, rfl⟩ : zt S = zt S ∧ zu S = zu S) (tt_X2_readMoves_187 hself34)
    ·
      refine tw_chk (fun _ => ?_)
      refine tw_calv (fun b1 => ?_)
      refine tw_chk (fun _ => ?_)
      refine tw_chk (fun _ => ?_)
      refine tw_calf (⟨rfl, rfl⟩ : zt S = zt S ∧ zu S = zu S) (fun o2 co2 => ?_)
      refine tw_if (fun _ => ?_) (fun _ => ?_)
      ·
        refine tw_bndv (fun v3 => ?_)
        refine tw_chk (fun _ => ?_)
        refine tw_bndv (fun v4 => ?_)
        refine tw_chk (fun _ => ?_)
        refine tw_bnds co2 (fun S5 cS5 => ?_)
        refine tw_chk (fun _ => ?_)
        refine tw_calv (fun b6 => ?_)
        refine tw_chk (fun _ => ?_)
        refine tw_calv (fun b7 => ?_)
        refine tw_chk (fun _ => ?_)
        refine tw_chk (fun _ => ?_)
        refine tw_bndv (fun v8 => ?_)
        refine tw_chk (fun _ => ?_)
        refine tw_calf cS5 (fun o9 co9 => ?_)
        refine tw_chk (fun _ => ?_)
        refine tw_gal (fun Pw9 => tw_at co9 tt_X2_readRemarks) (fun r11 S12 => ?_)
        refine tw_if (fun _ => ?_) (fun _ => ?_)
        ·
          refine tw_chk (fun _ => ?_)
          exact tw_ret (⟨rfl, rfl⟩ : zt S12 = zt S12 ∧ zu S12 = zu S12)
        ·
          exact tw_at (⟨rfl, rfl⟩ : zt S12 = zt S12 ∧ zu S12 = zu S12) (tt_X2_readMoves_197 hself34)
      ·
        exact tw_at co2 (tt_X2_readMoves_187 hself34)
def d_X2_readMoves_80 (self34 : Nat → Int32 → Int32 → ZS → Option (Int32 × ZS)) (x0 : Nat) (x1 : Int32) (x2 : Int32) (x3 : Int32) (S : ZS) : Option (Int32 × ZS) :=
  m_if (x3 = 0) (
  d_X2_readMoves_128 self34 x0 x1 x2 x3 S
  ) (
  m_chk (zK S x0 = 2) (
  m_cal (zP S 2 x0) (fun b1 =>
  m_chk (zK S x0 = 2) (
  m_chk (zK S b1 = 6) (
  m_cal (f_X6_at b1 (zI S 4 x0) S) (fun o2 => m_chk (zt o2.2 = zt S ∧ zu o2.2 = zu S) (
  m_if (o2.1 = (40 : Int32)) (
  m_if (x1 < (6 : Int32)) (
  m_bnd (x1 + (1 : Int32)) (fun v3 =>
  m_chk (zK o2.2 x0 = 2) (
  m_cal (f_X2_openLine x0 v3 o2.2) (fun o4 => m_chk (zt o4.2 = zt o2.2 ∧ zu o4.2 = zu o2.2) (
  d_X2_readMoves_197 self34 x0 v3 x2 o4.2))))
  ) (
  m_chk (zK o2.2 x0 = 2) (
  m_chk (zK o2.2 x0 = 2) (
  m_cal (f_X2_refuse x0 (8 : Int32) (zI o2.2 4 x0) o2.2) (fun o5 => m_chk (zt o5.2 = zt o2.2 ∧ zu o5.2 = zu o2.2) (
  m_chk (vp_nar .boolean o5.1 = o5.1) (
  some (o5.1, o5.2))))))
  )
  ) (
  d_X2_readMoves_128 self34 x0 x1 x2 x3 o2.2
  )))))))
  )
theorem tt_X2_readMoves_80 {Pw : Int32 → ZS → Prop} {self34 : Nat → Int32 → Int32 → ZS → Option (Int32 × ZS)} {self34g : Nat → Int32 → Int32 → ZS → Nat → Nat → Prop} (hself34 : ∀ (y0 : Nat) (y1 : Int32) (y2 : Int32) (S : ZS), Tw Pw (self34 y0 y1 y2 S) (zt S) (zu S) (fun C T => self34g y0 y1 y2 S C T)) {x0 : Nat} {x1 : Int32} {x2 : Int32} {x3 : Int32} {S : ZS} : Tw Pw (d_X2_readMoves_80 self34 x0 x1 x2 x3 S) (zt S) (zu S) (fun C T => g_X2_readMoves_80 Pw self34g x0 x1 x2 x3 S C T) := by
  unfold d_X2_readMoves_80 g_X2_readMoves_80
  refine tw_if (fun _ => ?_) (fun _ => ?_)
  ·
    exact tw_at (⟨rfl, rfl⟩ : zt S = zt S ∧ zu S = zu S) (tt_X2_readMoves_128 hself34)
  ·
    refine tw_chk (fun _ => ?_)
    refine tw_calv (fun b1 => ?_)
    refine tw_chk (fun _ => ?_)
    refine tw_chk (fun _ => ?_)
    refine tw_calf (⟨rfl, rfl⟩ : zt S = zt S ∧ zu S = zu S) (fun o2 co2 => ?_)
    refine tw_if (fun _ => ?_) (fun _ => ?_)
    ·
      refine tw_if (fun _ => ?_) (fun _ => ?_)
      ·
        refine tw_bndv (fun v3 => ?_)
        refine tw_chk (fun _ => ?_)
        refine tw_calf co2 (fun o4 co4 => ?_)
        exact tw_at co4 (tt_X2_readMoves_197 hself34)
      ·
        refine tw_chk (fun _ => ?_)
        refine tw_chk (fun _ => ?_)
        refine tw_calf co2 (fun o5 co5 => ?_)
        refine tw_chk (fun _ => ?_)
        exact tw_ret co5
    ·
      exact tw_at co2 (tt_X2_readMoves_128 hself34)
def d_X2_readMoves_65 (self34 : Nat → Int32 → Int32 → ZS → Option (Int32 × ZS)) (x0 : Nat) (x1 : Int32) (x2 : Int32) (t0 : Int32) (S : ZS) : Option (Int32 × ZS) :=
  m_if (x1 = 0) (
  m_chk (zK S x0 = 2) (
  m_cal (f_X2_resultHere x0 S) (fun o1 => m_chk (zt o1.2 = zt S ∧ zu o1.2 = zu S) (
  m_if (o1.1 = (-1 : Int32)) (
  d_X2_readMoves_80 self34 x0 x1 x2 t0 o1.2
  ) (
  m_chk (vp_nar .boolean (1 : Int32) = (1 : Int32)) (
  some ((1 : Int32), o1.2))
  ))))
  ) (
  d_X2_readMoves_80 self34 x0 x1 x2 t0 S
  )
theorem tt_X2_readMoves_65 {Pw : Int32 → ZS → Prop} {self34 : Nat → Int32 → Int32 → ZS → Option (Int32 × ZS)} {self34g : Nat → Int32 → Int32 → ZS → Nat → Nat → Prop} (hself34 : ∀ (y0 : Nat) (y1 : Int32) (y2 : Int32) (S : ZS), Tw Pw (self34 y0 y1 y2 S) (zt S) (zu S) (fun C T => self34g y0 y1 y2 S C T)) {x0 : Nat} {x1 : Int32} {x2 : Int32} {t0 : Int32} {S : ZS} : Tw Pw (d_X2_readMoves_65 self34 x0 x1 x2 t0 S) (zt S) (zu S) (fun C T => g_X2_readMoves_65 Pw self34g x0 x1 x2 t0 S C T) := by
  unfold d_X2_readMoves_65 g_X2_readMoves_65
  refine tw_if (fun _ => ?_) (fun _ => ?_)
  ·
    refine tw_chk (fun _ => ?_)
    refine tw_calf (⟨rfl, rfl⟩ : zt S = zt S ∧ zu S = zu S) (fun o1 co1 => ?_)
    refine tw_if (fun _ => ?_) (fun _ => ?_)
    ·
      exact tw_at co1 (tt_X2_readMoves_80 hself34)
    ·
      refine tw_chk (fun _ => ?_)
      exact tw_ret co1
  ·
    exact tw_at (⟨rfl, rfl⟩ : zt S = zt S ∧ zu S = zu S) (tt_X2_readMoves_80 hself34)
def d_X2_readMoves_34s (self34 : Nat → Int32 → Int32 → ZS → Option (Int32 × ZS)) (x0 : Nat) (x1 : Int32) (x2 : Int32) (S : ZS) : Option (Int32 × ZS) :=
  m_if ((2000 : Int32) < x2) (
  m_chk (zK S x0 = 2) (
  m_chk (zK S x0 = 2) (
  m_cal (f_X2_refuse x0 (1 : Int32) (zI S 4 x0) S) (fun o1 => m_chk (zt o1.2 = zt S ∧ zu o1.2 = zu S) (
  m_chk (vp_nar .boolean o1.1 = o1.1) (
  some (o1.1, o1.2))))))
  ) (
  m_chk (zK S x0 = 2) (
  m_cal (f_X2_skipBlanks x0 S) (fun o2 => m_chk (zt o2.2 = zt S ∧ zu o2.2 = zu S) (
  m_chk (zK o2.2 x0 = 2) (
  m_cal (zP o2.2 9 x0) (fun b3 =>
  m_chk (zK o2.2 b3 = 14) (
  m_chk (¬ (x1 < 0 ∨ zN o2.2 b3 ≤ (x1).toNatClampNeg)) (
  m_bnd (zA o2.2 b3 (x1).toNatClampNeg) (fun v4 =>
  m_chk (zK o2.2 x0 = 2) (
  m_cal (zP o2.2 8 x0) (fun b5 =>
  m_chk (zK o2.2 b5 = 14) (
  m_chk (¬ (x1 < 0 ∨ zN o2.2 b5 ≤ (x1).toNatClampNeg)) (
  m_bnd (zA o2.2 b5 (x1).toNatClampNeg) (fun v6 =>
  m_if (v4 = v6) (
  d_X2_readMoves_65 self34 x0 x1 x2 (0 : Int32) o2.2
  ) (
  d_X2_readMoves_65 self34 x0 x1 x2 (1 : Int32) o2.2
  ))))))))))))))
  )
theorem tt_X2_readMoves_34s {Pw : Int32 → ZS → Prop} {self34 : Nat → Int32 → Int32 → ZS → Option (Int32 × ZS)} {self34g : Nat → Int32 → Int32 → ZS → Nat → Nat → Prop} (hself34 : ∀ (y0 : Nat) (y1 : Int32) (y2 : Int32) (S : ZS), Tw Pw (self34 y0 y1 y2 S) (zt S) (zu S) (fun C T => self34g y0 y1 y2 S C T)) {x0 : Nat} {x1 : Int32} {x2 : Int32} {S : ZS} : Tw Pw (d_X2_readMoves_34s self34 x0 x1 x2 S) (zt S) (zu S) (fun C T => g_X2_readMoves_34s Pw self34g x0 x1 x2 S C T) := by
  unfold d_X2_readMoves_34s g_X2_readMoves_34s
  refine tw_if (fun _ => ?_) (fun _ => ?_)
  ·
    refine tw_chk (fun _ => ?_)
    refine tw_chk (fun _ => ?_)
    refine tw_calf (⟨rfl, rfl⟩ : zt S = zt S ∧ zu S = zu S) (fun o1 co1 => ?_)
    refine tw_chk (fun _ => ?_)
    exact tw_ret co1
  ·
    refine tw_chk (fun _ => ?_)
    refine tw_calf (⟨rfl, rfl⟩ : zt S = zt S ∧ zu S = zu S) (fun o2 co2 => ?_)
    refine tw_chk (fun _ => ?_)
    refine tw_calv (fun b3 => ?_)
    refine tw_chk (fun _ => ?_)
    refine tw_chk (fun _ => ?_)
    refine tw_bndv (fun v4 => ?_)
    refine tw_chk (fun _ => ?_)
    refine tw_calv (fun b5 => ?_)
    refine tw_chk (fun _ => ?_)
    refine tw_chk (fun _ => ?_)
    refine tw_bndv (fun v6 => ?_)
    refine tw_if (fun _ => ?_) (fun _ => ?_)
    ·
      exact tw_at co2 (tt_X2_readMoves_65 hself34)
    ·
      exact tw_at co2 (tt_X2_readMoves_65 hself34)
def d_X2_readMoves_34  : Nat → Nat → Int32 → Int32 → ZS → Option (Int32 × ZS)
  | 0 => fun _ _ _ _ => none
  | n + 1 => d_X2_readMoves_34s  (d_X2_readMoves_34  n)
theorem tt_X2_readMoves_34 {Pw : Int32 → ZS → Prop}   {n : Nat} : ∀ {z0 : Nat} {z1 : Int32} {z2 : Int32} {S : ZS}, Tw Pw (d_X2_readMoves_34  n z0 z1 z2 S) (zt S) (zu S) (fun C T => g_X2_readMoves_34 Pw  n z0 z1 z2 S C T) := by
  induction n with
  | zero => intro z0 z1 z2 S; exact tw_none
  | succ n ih => intro z0 z1 z2 S; exact tt_X2_readMoves_34s  (fun _ _ _ _ => ih)
def d_X2_readMoves_0 (x0 : Nat) (S : ZS) : Option (Int32 × ZS) :=
  m_chk (zK S x0 = 2) (
  m_cal (zP S 8 x0) (fun b1 =>
  m_chk (zK S b1 = 14) (
  m_chk (¬ ((0 : Int32) < 0 ∨ zN S b1 ≤ ((0 : Int32)).toNatClampNeg)) (
  m_bnd (zsA S b1 ((0 : Int32)).toNatClampNeg (0 : Int32)) (fun S2 =>
  m_chk (zK S2 x0 = 2) (
  m_cal (zP S2 9 x0) (fun b3 =>
  m_chk (zK S2 b3 = 14) (
  m_chk (¬ ((0 : Int32) < 0 ∨ zN S2 b3 ≤ ((0 : Int32)).toNatClampNeg)) (
  m_bnd (zsA S2 b3 ((0 : Int32)).toNatClampNeg (0 : Int32)) (fun S4 =>
  m_chk (zK S4 x0 = 2) (
  m_cal (zP S4 11 x0) (fun b5 =>
  m_chk (zK S4 b5 = 15) (
  m_chk (¬ ((0 : Int32) < 0 ∨ zN S4 b5 ≤ ((0 : Int32)).toNatClampNeg)) (
  m_cal (zB S4 b5 ((0 : Int32)).toNatClampNeg) (fun b6 =>
  m_chk (zK S4 x0 = 2) (
  m_cal (zP S4 3 x0) (fun b7 =>
  m_chk (zK S4 b7 = 1) (
  m_cal (zP S4 0 b7) (fun b8 =>
  m_chk (zK S4 b6 = 0) (
  m_cal (f_X0_copyFrom b6 b8 S4) (fun o9 => m_chk (zt o9.2 = zt S4 ∧ zu o9.2 = zu S4) (
  d_X2_readMoves_34 mFuel x0 (0 : Int32) (0 : Int32) o9.2))))))))))))))))))))))
theorem tt_X2_readMoves_0 {Pw : Int32 → ZS → Prop}   {x0 : Nat} {S : ZS} : Tw Pw (d_X2_readMoves_0 x0 S) (zt S) (zu S) (fun C T => g_X2_readMoves_0 Pw x0 S C T) := by
  unfold d_X2_readMoves_0 g_X2_readMoves_0
  refine tw_chk (fun _ => ?_)
  refine tw_calv (fun b1 => ?_)
  refine tw_chk (fun _ => ?_)
  refine tw_chk (fun _ => ?_)
  refine tw_bnds (⟨rfl, rfl⟩ : zt S = zt S ∧ zu S = zu S) (fun S2 cS2 => ?_)
  refine tw_chk (fun _ => ?_)
  refine tw_calv (fun b3 => ?_)
  refine tw_chk (fun _ => ?_)
  refine tw_chk (fun _ => ?_)
  refine tw_bnds cS2 (fun S4 cS4 => ?_)
  refine tw_chk (fun _ => ?_)
  refine tw_calv (fun b5 => ?_)
  refine tw_chk (fun _ => ?_)
  refine tw_chk (fun _ => ?_)
  refine tw_calv (fun b6 => ?_)
  refine tw_chk (fun _ => ?_)
  refine tw_calv (fun b7 => ?_)
  refine tw_chk (fun _ => ?_)
  refine tw_calv (fun b8 => ?_)
  refine tw_chk (fun _ => ?_)
  refine tw_calf cS4 (fun o9 co9 => ?_)
  exact tw_at co9 (tt_X2_readMoves_34)
def d_X2_readMoves (x0 : Nat) (S : ZS) : Option (Int32 × ZS) := d_X2_readMoves_0 x0 S
theorem tt_X2_readMoves {Pw : Int32 → ZS → Prop} {x0 : Nat} {S : ZS} : Tw Pw (d_X2_readMoves x0 S) (zt S) (zu S) (fun C T => g_X2_readMoves x0 S C T Pw) := tt_X2_readMoves_0
def d_X2_readEnd_86 (t0 : Int32) (S : ZS) : Option (Int32 × ZS) :=
  m_chk (vp_nar .boolean t0 = t0) (
  some (t0, S))
theorem tt_X2_readEnd_86 {Pw : Int32 → ZS → Prop}   {t0 : Int32} {S : ZS} : Tw Pw (d_X2_readEnd_86 t0 S) (zt S) (zu S) (fun C T => g_X2_readEnd_86 Pw t0 S C T) := by
  unfold d_X2_readEnd_86 g_X2_readEnd_86
  refine tw_chk (fun _ => ?_)
  exact tw_ret (⟨rfl, rfl⟩ : zt S = zt S ∧ zu S = zu S)
def d_X2_readEnd_81 (S : ZS) : Option (Int32 × ZS) :=
  d_X2_readEnd_86 (1 : Int32) S
theorem tt_X2_readEnd_81 {Pw : Int32 → ZS → Prop}   {S : ZS} : Tw Pw (d_X2_readEnd_81 S) (zt S) (zu S) (fun C T => g_X2_readEnd_81 Pw S C T) := by
  unfold d_X2_readEnd_81 g_X2_readEnd_81
  exact tw_at (⟨rfl, rfl⟩ : zt S = zt S ∧ zu S = zu S) (tt_X2_readEnd_86)
def d_X2_readEnd_0 (x0 : Nat) (S : ZS) : Option (Int32 × ZS) :=
  m_chk (zK S x0 = 2) (
  m_cal (f_X2_resultHere x0 S) (fun o1 => m_chk (zt o1.2 = zt S ∧ zu o1.2 = zu S) (
  m_chk (zK o1.2 x0 = 2) (
  m_cal (zP o1.2 3 x0) (fun b2 =>
  m_chk (zK o1.2 b2 = 1) (
  m_cal2 (d_X1_agreesWith b2 o1.1 o1.2) (fun r4 S5 =>
  m_if (r4 = 0) (
  m_chk (zK S5 x0 = 2) (
  m_chk (zK S5 x0 = 2) (
  m_cal (f_X2_refuse x0 (9 : Int32) (zI S5 4 x0) S5) (fun o18 => m_chk (zt o18.2 = zt S5 ∧ zu o18.2 = zu S5) (
  m_chk (vp_nar .boolean o18.1 = o18.1) (
  some (o18.1, o18.2))))))
  ) (
  m_chk (zK S5 x0 = 2) (
  m_cal (zP S5 3 x0) (fun b8 =>
  m_chk (zK S5 b8 = 1) (
  m_bnd (zsI S5 6 b8 o1.1) (fun S9 =>
  m_chk (zK S9 x0 = 2) (
  m_cal (f_X11_resultSign o1.1 S9) (fun o10 => m_chk (zt o10.2 = zt S9 ∧ zu o10.2 = zu S9) (
  m_chk (o10.1 < zSn) (
  m_cal (f_J0_length_8abf5 o10.1 o10.2) (fun o11 => m_chk (zt o11.2 = zt o10.2 ∧ zu o11.2 = zu o10.2) (
  m_bnd ((zI S9 4 x0) + o11.1) (fun v12 =>
  m_chk (zK o11.2 x0 = 2) (
  m_bnd (zsI o11.2 4 x0 v12) (fun S13 =>
  m_chk (zK S13 x0 = 2) (
  m_cal (f_X2_skipBlanks x0 S13) (fun o14 => m_chk (zt o14.2 = zt S13 ∧ zu o14.2 = zu S13) (
  m_chk (zK o14.2 x0 = 2) (
  m_chk (zK o14.2 x0 = 2) (
  m_cal (zP o14.2 2 x0) (fun b15 =>
  m_chk (zK o14.2 b15 = 6) (
  m_cal (f_X6_size b15 o14.2) (fun o16 => m_chk (zt o16.2 = zt o14.2 ∧ zu o16.2 = zu o14.2) (
  m_if ((zI o14.2 4 x0) = o16.1) (
  d_X2_readEnd_81 o16.2
  ) (
  m_chk (zK o16.2 x0 = 2) (
  m_chk (zK o16.2 x0 = 2) (
  m_cal (f_X2_refuse x0 (1 : Int32) (zI o16.2 4 x0) o16.2) (fun o17 => m_chk (zt o17.2 = zt o16.2 ∧ zu o17.2 = zu o16.2) (
  m_if (o17.1 = 0) (
  d_X2_readEnd_86 (0 : Int32) o17.2
  ) (
  d_X2_readEnd_81 o17.2
  )))))
  )))))))))))))))))))))))
  ))))))))
theorem tt_X2_readEnd_0 {Pw : Int32 → ZS → Prop}   {x0 : Nat} {S : ZS} : Tw Pw (d_X2_readEnd_0 x0 S) (zt S) (zu S) (fun C T => g_X2_readEnd_0 Pw x0 S C T) := by
  unfold d_X2_readEnd_0 g_X2_readEnd_0
  refine tw_chk (fun _ => ?_)
  refine tw_calf (⟨rfl, rfl⟩ : zt S = zt S ∧ zu S = zu S) (fun o1 co1 => ?_)
  refine tw_chk (fun _ => ?_)
  refine tw_calv (fun b2 => ?_)
  refine tw_chk (fun _ => ?_)
  refine tw_gal (fun Pw9 => tw_at co1 tt_X1_agreesWith) (fun r4 S5 => ?_)
  refine tw_if (fun _ => ?_) (fun _ => ?_)
  ·
    refine tw_chk (fun _ => ?_)
    refine tw_chk (fun _ => ?_)
    refine tw_calf (⟨rfl, rfl⟩ : zt S5 = zt S5 ∧ zu S5 = zu S5) (fun o18 co18 => ?_)
    refine tw_chk (fun _ => ?_)
    exact tw_ret co18
  ·
    refine tw_chk (fun _ => ?_)
    refine tw_calv (fun b8 => ?_)
    refine tw_chk (fun _ => ?_)
    refine tw_bnds (⟨rfl, rfl⟩ : zt S5 = zt S5 ∧ zu S5 = zu S5) (fun S9 cS9 => ?_)
    refine tw_chk (fun _ => ?_)
    refine tw_calf cS9 (fun o10 co10 => ?_)
    refine tw_chk (fun _ => ?_)
    refine tw_calf co10 (fun o11 co11 => ?_)
    refine tw_bndv (fun v12 => ?_)
    refine tw_chk (fun _ => ?_)
    refine tw_bnds co11 (fun S13 cS13 => ?_)
    refine tw_chk (fun _ => ?_)
    refine tw_calf cS13 (fun o14 co14 => ?_)
    refine tw_chk (fun _ => ?_)
    refine tw_chk (fun _ => ?_)
    refine tw_calv (fun b15 => ?_)
    refine tw_chk (fun _ => ?_)
    refine tw_calf co14 (fun o16 co16 => ?_)
    refine tw_if (fun _ => ?_) (fun _ => ?_)
    ·
      exact tw_at co16 (tt_X2_readEnd_81)
    ·
      refine tw_chk (fun _ => ?_)
      refine tw_chk (fun _ => ?_)
      refine tw_calf co16 (fun o17 co17 => ?_)
      refine tw_if (fun _ => ?_) (fun _ => ?_)
      ·
        exact tw_at co17 (tt_X2_readEnd_86)
      ·
        exact tw_at co17 (tt_X2_readEnd_81)
def d_X2_readEnd (x0 : Nat) (S : ZS) : Option (Int32 × ZS) := d_X2_readEnd_0 x0 S
theorem tt_X2_readEnd {Pw : Int32 → ZS → Prop} {x0 : Nat} {S : ZS} : Tw Pw (d_X2_readEnd x0 S) (zt S) (zu S) (fun C T => g_X2_readEnd x0 S C T Pw) := tt_X2_readEnd_0
def d_X9_init_0 (x0 : Nat) (S : ZS) : Option (Int32 × ZS) :=
  m_bnd (zt S) (fun q1 =>
  m_bnd (zsNewO S q1 7 2) (fun S2 =>
  m_cal2 (d_X7_init q1 S2) (fun r6 S7 =>
  m_chk (zK S7 x0 = 9) (
  m_bnd (zsP S7 0 x0 (some q1)) (fun S10 =>
  some (0, S10))))))
theorem tt_X9_init_0 {Pw : Int32 → ZS → Prop}   {x0 : Nat} {S : ZS} : Tw Pw (d_X9_init_0 x0 S) (zt S) (zu S) (fun C T => g_X9_init_0 Pw x0 S C T) := by
  unfold d_X9_init_0 g_X9_init_0
  refine tw_new (fun _ => ⟨congrArg (· + 1) (⟨rfl, rfl⟩ : zt S = zt S ∧ zu S = zu S).1, congrArg (· + _) (⟨rfl, rfl⟩ : zt S = zt S ∧ zu S = zu S).2⟩) (fun q1 S2 cS2 => ?_)
  refine tw_gal (fun Pw9 => tw_at cS2 tt_X7_init) (fun r6 S7 => ?_)
  refine tw_chk (fun _ => ?_)
  refine tw_bnds (⟨rfl, rfl⟩ : zt S7 = zt S7 ∧ zu S7 = zu S7) (fun S10 cS10 => ?_)
  exact tw_ret cS10
def d_X9_init (x0 : Nat) (S : ZS) : Option (Int32 × ZS) := d_X9_init_0 x0 S
theorem tt_X9_init {Pw : Int32 → ZS → Prop} {x0 : Nat} {S : ZS} : Tw Pw (d_X9_init x0 S) (zt S) (zu S) (fun C T => g_X9_init x0 S C T Pw) := tt_X9_init_0
def d_X3_init_26s (self26 : Nat → Int32 → ZS → Option (Int32 × ZS)) (x0 : Nat) (x1 : Int32) (S : ZS) : Option (Int32 × ZS) :=
  m_if ((6 : Int32) < x1) (
  some (0, S)
  ) (
  m_chk (zK S x0 = 3) (
  m_cal (zP S 1 x0) (fun b1 =>
  m_bnd (zt S) (fun q2 =>
  m_bnd (zsNewO S q2 0 7) (fun S3 =>
  m_cal2 (d_X0_init q2 S3) (fun r7 S8 =>
  m_chk (zK S8 b1 = 15) (
  m_chk (zK S8 q2 = 0) (
  m_chk (¬ (x1 < 0 ∨ zN S8 b1 ≤ (x1).toNatClampNeg)) (
  m_bnd (zsB S8 b1 (x1).toNatClampNeg (some q2)) (fun S11 =>
  m_bnd (x1 + (1 : Int32)) (fun v12 =>
  self26 x0 v12 S11))))))))))
  )
theorem tt_X3_init_26s {Pw : Int32 → ZS → Prop} {self26 : Nat → Int32 → ZS → Option (Int32 × ZS)} {self26g : Nat → Int32 → ZS → Nat → Nat → Prop} (hself26 : ∀ (y0 : Nat) (y1 : Int32) (S : ZS), Tw Pw (self26 y0 y1 S) (zt S) (zu S) (fun C T => self26g y0 y1 S C T)) {x0 : Nat} {x1 : Int32} {S : ZS} : Tw Pw (d_X3_init_26s self26 x0 x1 S) (zt S) (zu S) (fun C T => g_X3_init_26s Pw self26g x0 x1 S C T) := by
  unfold d_X3_init_26s g_X3_init_26s
  refine tw_if (fun _ => ?_) (fun _ => ?_)
  ·
    exact tw_ret (⟨rfl, rfl⟩ : zt S = zt S ∧ zu S = zu S)
  ·
    refine tw_chk (fun _ => ?_)
    refine tw_calv (fun b1 => ?_)
    refine tw_new (fun _ => ⟨congrArg (· + 1) (⟨rfl, rfl⟩ : zt S = zt S ∧ zu S = zu S).1, congrArg (· + _) (⟨rfl, rfl⟩ : zt S = zt S ∧ zu S = zu S).2⟩) (fun q2 S3 cS3 => ?_)
    refine tw_gal (fun Pw9 => tw_at cS3 tt_X0_init) (fun r7 S8 => ?_)
    refine tw_chk (fun _ => ?_)
    refine tw_chk (fun _ => ?_)
    refine tw_chk (fun _ => ?_)
    refine tw_bnds (⟨rfl, rfl⟩ : zt S8 = zt S8 ∧ zu S8 = zu S8) (fun S11 cS11 => ?_)
    refine tw_bndv (fun v12 => ?_)
    exact tw_at cS11 (hself26 _ _ _)
def d_X3_init_26  : Nat → Nat → Int32 → ZS → Option (Int32 × ZS)
  | 0 => fun _ _ _ => none
  | n + 1 => d_X3_init_26s  (d_X3_init_26  n)
theorem tt_X3_init_26 {Pw : Int32 → ZS → Prop}   {n : Nat} : ∀ {z0 : Nat} {z1 : Int32} {S : ZS}, Tw Pw (d_X3_init_26  n z0 z1 S) (zt S) (zu S) (fun C T => g_X3_init_26 Pw  n z0 z1 S C T) := by
  induction n with
  | zero => intro z0 z1 S; exact tw_none
  | succ n ih => intro z0 z1 S; exact tt_X3_init_26s  (fun _ _ _ => ih)
def d_X3_init_0 (x0 : Nat) (S : ZS) : Option (Int32 × ZS) :=
  m_bnd (zt S) (fun q1 =>
  m_bnd (zsNewO S q1 9 1) (fun S2 =>
  m_cal2 (d_X9_init q1 S2) (fun r6 S7 =>
  m_chk (zK S7 x0 = 3) (
  m_bnd (zsP S7 0 x0 (some q1)) (fun S10 =>
  m_chk (¬ (7 : Int32) < 0 ∧ ((7 : Int32)).toNatClampNeg * 4 ≤ 536870912) (
  m_bnd (zt S10) (fun q11 =>
  m_bnd (zsNewA S10 q11 15 ((7 : Int32)).toNatClampNeg) (fun S12 =>
  m_chk (zK S12 x0 = 3) (
  m_bnd (zsP S12 1 x0 (some q11)) (fun S15 =>
  d_X3_init_26 mFuel x0 (0 : Int32) S15))))))))))
theorem tt_X3_init_0 {Pw : Int32 → ZS → Prop}   {x0 : Nat} {S : ZS} : Tw Pw (d_X3_init_0 x0 S) (zt S) (zu S) (fun C T => g_X3_init_0 Pw x0 S C T) := by
  unfold d_X3_init_0 g_X3_init_0
  refine tw_new (fun _ => ⟨congrArg (· + 1) (⟨rfl, rfl⟩ : zt S = zt S ∧ zu S = zu S).1, congrArg (· + _) (⟨rfl, rfl⟩ : zt S = zt S ∧ zu S = zu S).2⟩) (fun q1 S2 cS2 => ?_)
  refine tw_gal (fun Pw9 => tw_at cS2 tt_X9_init) (fun r6 S7 => ?_)
  refine tw_chk (fun _ => ?_)
  refine tw_bnds (⟨rfl, rfl⟩ : zt S7 = zt S7 ∧ zu S7 = zu S7) (fun S10 cS10 => ?_)
  refine tw_chk (fun _ => ?_)
  refine tw_new (fun _ => ⟨congrArg (· + 1) cS10.1, congrArg (· + _) cS10.2⟩) (fun q11 S12 cS12 => ?_)
  refine tw_chk (fun _ => ?_)
  refine tw_bnds cS12 (fun S15 cS15 => ?_)
  exact tw_at cS15 (tt_X3_init_26)
def d_X3_init (x0 : Nat) (S : ZS) : Option (Int32 × ZS) := d_X3_init_0 x0 S
theorem tt_X3_init {Pw : Int32 → ZS → Prop} {x0 : Nat} {S : ZS} : Tw Pw (d_X3_init x0 S) (zt S) (zu S) (fun C T => g_X3_init x0 S C T Pw) := tt_X3_init_0
def d_X6_putText_2s (self2 : Nat → Nat → Int32 → ZS → Option (Int32 × ZS)) (x0 : Nat) (x1 : Nat) (x2 : Int32) (S : ZS) : Option (Int32 × ZS) :=
  m_chk (x1 < zSn) (
  m_cal (f_J0_length_8abf5 x1 S) (fun o1 => m_chk (zt o1.2 = zt S ∧ zu o1.2 = zu S) (
  m_if (o1.1 ≤ x2) (
  some (0, o1.2)
  ) (
  m_chk (x1 < zSn) (
  m_cal (f_J0_charAt_5068e x1 x2 o1.2) (fun o2 => m_chk (zt o2.2 = zt o1.2 ∧ zu o2.2 = zu o1.2) (
  m_chk (zK o2.2 x0 = 6) (
  m_cal2 (d_X6_put x0 o2.1 o2.2) (fun r4 S5 =>
  m_bnd (x2 + (1 : Int32)) (fun v8 =>
  self2 x0 x1 v8 S5))))))
  ))))
theorem tt_X6_putText_2s {Pw : Int32 → ZS → Prop} {self2 : Nat → Nat → Int32 → ZS → Option (Int32 × ZS)} {self2g : Nat → Nat → Int32 → ZS → Nat → Nat → Prop} (hself2 : ∀ (y0 : Nat) (y1 : Nat) (y2 : Int32) (S : ZS), Tw Pw (self2 y0 y1 y2 S) (zt S) (zu S) (fun C T => self2g y0 y1 y2 S C T)) {x0 : Nat} {x1 : Nat} {x2 : Int32} {S : ZS} : Tw Pw (d_X6_putText_2s self2 x0 x1 x2 S) (zt S) (zu S) (fun C T => g_X6_putText_2s Pw self2g x0 x1 x2 S C T) := by
  unfold d_X6_putText_2s g_X6_putText_2s
  refine tw_chk (fun _ => ?_)
  refine tw_calf (⟨rfl, rfl⟩ : zt S = zt S ∧ zu S = zu S) (fun o1 co1 => ?_)
  refine tw_if (fun _ => ?_) (fun _ => ?_)
  ·
    exact tw_ret co1
  ·
    refine tw_chk (fun _ => ?_)
    refine tw_calf co1 (fun o2 co2 => ?_)
    refine tw_chk (fun _ => ?_)
    refine tw_gal (fun Pw9 => tw_at co2 tt_X6_put) (fun r4 S5 => ?_)
    refine tw_bndv (fun v8 => ?_)
    exact tw_at (⟨rfl, rfl⟩ : zt S5 = zt S5 ∧ zu S5 = zu S5) (hself2 _ _ _ _)
def d_X6_putText_2  : Nat → Nat → Nat → Int32 → ZS → Option (Int32 × ZS)
  | 0 => fun _ _ _ _ => none
  | n + 1 => d_X6_putText_2s  (d_X6_putText_2  n)
theorem tt_X6_putText_2 {Pw : Int32 → ZS → Prop}   {n : Nat} : ∀ {z0 : Nat} {z1 : Nat} {z2 : Int32} {S : ZS}, Tw Pw (d_X6_putText_2  n z0 z1 z2 S) (zt S) (zu S) (fun C T => g_X6_putText_2 Pw  n z0 z1 z2 S C T) := by
  induction n with
  | zero => intro z0 z1 z2 S; exact tw_none
  | succ n ih => intro z0 z1 z2 S; exact tt_X6_putText_2s  (fun _ _ _ _ => ih)
