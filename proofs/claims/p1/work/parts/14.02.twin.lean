def d_X2_readMove_0 (x0 : Nat) (x1 : Int32) (S : ZS) : Option (Int32 × ZS) :=
  m_chk (x0 ∈ zL S ∧ zK S x0 = 2) (
  m_cal (zP S 11 x0) (fun b1 =>
  m_chk (b1 ∈ zL S ∧ zK S b1 = 15) (
  m_chk (¬ (x1 < 0 ∨ zN S b1 ≤ (x1).toNatClampNeg)) (
  m_cal (zB S b1 (x1).toNatClampNeg) (fun b2 =>
  m_chk (x0 ∈ zL S ∧ zK S x0 = 2) (
  m_cal (zP S 2 x0) (fun b3 =>
  m_chk (x0 ∈ zL S ∧ zK S x0 = 2) (
  m_chk (b3 ∈ zL S ∧ zK S b3 = 6) (
  m_cal (f_X6_at b3 (zI S 4 x0) S) (fun o4 => m_chk (zt o4.2 = zt S ∧ zu o4.2 = zu S) (
  m_cal (f_X11_isDigit o4.1 o4.2) (fun o5 => m_chk (zt o5.2 = zt o4.2 ∧ zu o5.2 = zu o4.2) (
  m_if (o5.1 = 0) (
  d_X2_readMove_37 x0 x1 b2 o5.2
  ) (
  m_chk (b2 ∈ zL o5.2 ∧ zK o5.2 b2 = 0) (
  m_chk (x0 ∈ zL o5.2 ∧ zK o5.2 x0 = 2) (
  m_cal (f_X2_readNumber x0 (zI o5.2 6 b2) o5.2) (fun o6 => m_chk (zt o6.2 = zt o5.2 ∧ zu o6.2 = zu o5.2) (
  m_if (o6.1 = 0) (
  m_chk (vp_nar .boolean (0 : Int32) = (0 : Int32)) (
  some ((0 : Int32), o6.2))
  ) (
  d_X2_readMove_37 x0 x1 b2 o6.2
  )))))
  ))))))))))))))
theorem tt_X2_readMove_0 {Pw : Int32 → ZS → Prop}   {x0 : Nat} {x1 : Int32} {S : ZS} : Tw Pw (d_X2_readMove_0 x0 x1 S) (zt S) (zu S) (fun C T => g_X2_readMove_0 Pw x0 x1 S C T) := by
  unfold d_X2_readMove_0 g_X2_readMove_0
  refine tw_chk (fun _ => ?_)
  refine tw_calv (fun b1 => ?_)
  refine tw_chk (fun _ => ?_)
  refine tw_chk (fun _ => ?_)
  refine tw_calv (fun b2 => ?_)
  refine tw_chk (fun _ => ?_)
  refine tw_calv (fun b3 => ?_)
  refine tw_chk (fun _ => ?_)
  refine tw_chk (fun _ => ?_)
  refine tw_calf (⟨rfl, rfl⟩ : zt S = zt S ∧ zu S = zu S) (fun o4 co4 => ?_)
  refine tw_calf co4 (fun o5 co5 => ?_)
  refine tw_if (fun _ => ?_) (fun _ => ?_)
  ·
    exact tw_at co5 (tt_X2_readMove_37)
  ·
    refine tw_chk (fun _ => ?_)
    refine tw_chk (fun _ => ?_)
    refine tw_calf co5 (fun o6 co6 => ?_)
    refine tw_if (fun _ => ?_) (fun _ => ?_)
    ·
      refine tw_chk (fun _ => ?_)
      exact tw_ret co6
    ·
      exact tw_at co6 (tt_X2_readMove_37)
def d_X2_readMove (x0 : Nat) (x1 : Int32) (S : ZS) : Option (Int32 × ZS) := d_X2_readMove_0 x0 x1 S
theorem tt_X2_readMove {Pw : Int32 → ZS → Prop} {x0 : Nat} {x1 : Int32} {S : ZS} : Tw Pw (d_X2_readMove x0 x1 S) (zt S) (zu S) (fun C T => g_X2_readMove x0 x1 S C T Pw) := tt_X2_readMove_0
def d_X2_readMoves_197 (self34 : Nat → Int32 → Int32 → ZS → Option (Int32 × ZS)) (x0 : Nat) (x1 : Int32) (x2 : Int32) (S : ZS) : Option (Int32 × ZS) :=
  m_bnd (x2 + (1 : Int32)) (fun v1 =>
  self34 x0 x1 v1 S)
theorem tt_X2_readMoves_197 {Pw : Int32 → ZS → Prop} {self34 : Nat → Int32 → Int32 → ZS → Option (Int32 × ZS)} {self34g : Nat → Int32 → Int32 → ZS → Nat → Nat → Prop} (hself34 : ∀ (y0 : Nat) (y1 : Int32) (y2 : Int32) (S : ZS), Tw Pw (self34 y0 y1 y2 S) (zt S) (zu S) (fun C T => self34g y0 y1 y2 S C T)) {x0 : Nat} {x1 : Int32} {x2 : Int32} {S : ZS} : Tw Pw (d_X2_readMoves_197 self34 x0 x1 x2 S) (zt S) (zu S) (fun C T => g_X2_readMoves_197 Pw self34g x0 x1 x2 S C T) := by
  unfold d_X2_readMoves_197 g_X2_readMoves_197
  refine tw_bndv (fun v1 => ?_)
  exact tw_at (⟨rfl, rfl⟩ : zt S = zt S ∧ zu S = zu S) (hself34 _ _ _ _)
def d_X2_readMoves_187 (self34 : Nat → Int32 → Int32 → ZS → Option (Int32 × ZS)) (x0 : Nat) (x1 : Int32) (x2 : Int32) (S : ZS) : Option (Int32 × ZS) :=
  m_chk (x0 ∈ zL S ∧ zK S x0 = 2) (
  m_cal2 (d_X2_readMove x0 x1 S) (fun r2 S3 =>
  m_if (r2 = 0) (
  m_chk (vp_nar .boolean (0 : Int32) = (0 : Int32)) (
  some ((0 : Int32), S3))
  ) (
  d_X2_readMoves_197 self34 x0 x1 x2 S3
  )))
theorem tt_X2_readMoves_187 {Pw : Int32 → ZS → Prop} {self34 : Nat → Int32 → Int32 → ZS → Option (Int32 × ZS)} {self34g : Nat → Int32 → Int32 → ZS → Nat → Nat → Prop} (hself34 : ∀ (y0 : Nat) (y1 : Int32) (y2 : Int32) (S : ZS), Tw Pw (self34 y0 y1 y2 S) (zt S) (zu S) (fun C T => self34g y0 y1 y2 S C T)) {x0 : Nat} {x1 : Int32} {x2 : Int32} {S : ZS} : Tw Pw (d_X2_readMoves_187 self34 x0 x1 x2 S) (zt S) (zu S) (fun C T => g_X2_readMoves_187 Pw self34g x0 x1 x2 S C T) := by
  unfold d_X2_readMoves_187 g_X2_readMoves_187
  refine tw_chk (fun _ => ?_)
  refine tw_gal (fun Pw9 => tw_at (⟨rfl, rfl⟩ : zt S = zt S ∧ zu S = zu S) tt_X2_readMove) (fun r2 S3 => ?_)
  refine tw_if (fun _ => ?_) (fun _ => ?_)
  ·
    refine tw_chk (fun _ => ?_)
    exact tw_ret (⟨rfl, rfl⟩ : zt S3 = zt S3 ∧ zu S3 = zu S3)
  ·
    exact tw_at (⟨rfl, rfl⟩ : zt S3 = zt S3 ∧ zu S3 = zu S3) (tt_X2_readMoves_197 hself34)
def d_X2_readMoves_128 (self34 : Nat → Int32 → Int32 → ZS → Option (Int32 × ZS)) (x0 : Nat) (x1 : Int32) (x2 : Int32) (x3 : Int32) (S : ZS) : Option (Int32 × ZS) :=
  m_if (x3 = 0) (
  d_X2_readMoves_187 self34 x0 x1 x2 S
  ) (
  m_if (x1 ≤ 0) (
  d_X2_readMoves_187 self34 x0 x1 x2 S
  ) (
  m_chk (x0 ∈ zL S ∧ zK S x0 = 2) (
  m_cal (zP S 2 x0) (fun b1 =>
  m_chk (x0 ∈ zL S ∧ zK S x0 = 2) (
  m_chk (b1 ∈ zL S ∧ zK S b1 = 6) (
  m_cal (f_X6_at b1 (zI S 4 x0) S) (fun o2 => m_chk (zt o2.2 = zt S ∧ zu o2.2 = zu S) (
  m_if (o2.1 = (41 : Int32)) (
  m_bnd (x1 + (-1 : Int32)) (fun v3 =>
  m_chk (x0 ∈ zL o2.2 ∧ zK o2.2 x0 = 2) (
  m_bnd ((zI o2.2 4 x0) + (1 : Int32)) (fun v4 =>
  m_chk (x0 ∈ zL o2.2 ∧ zK o2.2 x0 = 2) (
  m_bnd (zsI o2.2 4 x0 v4) (fun S5 =>
  m_chk (x0 ∈ zL S5 ∧ zK S5 x0 = 2) (
  m_cal (zP S5 3 x0) (fun b6 =>
  m_chk (x0 ∈ zL S5 ∧ zK S5 x0 = 2) (
  m_cal (zP S5 9 x0) (fun b7 =>
  m_chk (b7 ∈ zL S5 ∧ zK S5 b7 = 14) (
  m_chk (¬ (v3 < 0 ∨ zN S5 b7 ≤ (v3).toNatClampNeg)) (
  m_bnd (zA S5 b7 (v3).toNatClampNeg) (fun v8 =>
  m_chk (b6 ∈ zL S5 ∧ zK S5 b6 = 1) (
  m_cal (f_X1_at b6 v8 S5) (fun o9 => m_chk (zt o9.2 = zt S5 ∧ zu o9.2 = zu S5) (
  m_chk (x0 ∈ zL o9.2 ∧ zK o9.2 x0 = 2) (
  m_cal2 (d_X2_readRemarks x0 o9.1 o9.2) (fun r11 S12 =>
  m_if (r11 = 0) (
  m_chk (vp_nar .boolean (0 : Int32) = (0 : Int32)) (
  some ((0 : Int32), S12))
  ) (
  d_X2_readMoves_197 self34 x0 v3 x2 S12
  ))))))))))))))))))
  ) (
  d_X2_readMoves_187 self34 x0 x1 x2 o2.2
  )))))))
  )
  )
theorem tt_X2_readMoves_128 {Pw : Int32 → ZS → Prop} {self34 : Nat → Int32 → Int32 → ZS → Option (Int32 × ZS)} {self34g : Nat → Int32 → Int32 → ZS → Nat → Nat → Prop} (hself34 : ∀ (y0 : Nat) (y1 : Int32) (y2 : Int32) (S : ZS), Tw Pw (self34 y0 y1 y2 S) (zt S) (zu S) (fun C T => self34g y0 y1 y2 S C T)) {x0 : Nat} {x1 : Int32} {x2 : Int32} {x3 : Int32} {S : ZS} : Tw Pw (d_X2_readMoves_128 self34 x0 x1 x2 x3 S) (zt S) (zu S) (fun C T => g_X2_readMoves_128 Pw self34g x0 x1 x2 x3 S C T) := by
  unfold d_X2_readMoves_128 g_X2_readMoves_128
  refine tw_if (fun _ => ?_) (fun _ => ?_)
  ·
    exact tw_at (⟨rfl, rfl⟩ : zt S = zt S ∧ zu S = zu S) (tt_X2_readMoves_187 hself34)
  ·
    refine tw_if (fun _ => ?_) (fun _ => ?_)
    ·
      exact tw_at (⟨rfl, rfl⟩ : zt S = zt S ∧ zu S = zu S) (tt_X2_readMoves_187 hself34)
    ·
      refine tw_chk (fun _ => ?_)
      refine tw_calv (fun b1 => ?_)
      refine tw_chk (fun _ => ?_)
      refine tw_chk (fun _ => ?_)
      refine tw_calf (⟨rfl, rfl⟩ : zt S = zt S ∧ zu S = zu S) (fun o2 co2 => ?_)
      refine tw_if (fun _ => ?_) (fun _ => ?_)
      ·
        refine tw_bndv (fun v3 => ?_)
        refine tw_chk (fun _ => ?_)
        refine tw_bndv (fun v4 => ?_)
        refine tw_chk (fun _ => ?_)
        refine tw_bnds co2 (fun S5 cS5 => ?_)
        refine tw_chk (fun _ => ?_)
        refine tw_calv (fun b6 => ?_)
        refine tw_chk (fun _ => ?_)
        refine tw_calv (fun b7 => ?_)
        refine tw_chk (fun _ => ?_)
        refine tw_chk (fun _ => ?_)
        refine tw_bndv (fun v8 => ?_)
        refine tw_chk (fun _ => ?_)
        refine tw_calf cS5 (fun o9 co9 => ?_)
        refine tw_chk (fun _ => ?_)
        refine tw_gal (fun Pw9 => tw_at co9 tt_X2_readRemarks) (fun r11 S12 => ?_)
        refine tw_if (fun _ => ?_) (fun _ => ?_)
        ·
          refine tw_chk (fun _ => ?_)
          exact tw_ret (⟨rfl, rfl⟩ : zt S12 = zt S12 ∧ zu S12 = zu S12)
        ·
          exact tw_at (⟨rfl, rfl⟩ : zt S12 = zt S12 ∧ zu S12 = zu S12) (tt_X2_readMoves_197 hself34)
      ·
        exact tw_at co2 (tt_X2_readMoves_187 hself34)
def d_X2_readMoves_80 (self34 : Nat → Int32 → Int32 → ZS → Option (Int32 × ZS)) (x0 : Nat) (x1 : Int32) (x2 : Int32) (x3 : Int32) (S : ZS) : Option (Int32 × ZS) :=
  m_if (x3 = 0) (
  d_X2_readMoves_128 self34 x0 x1 x2 x3 S
  ) (
  m_chk (x0 ∈ zL S ∧ zK S x0 = 2) (
  m_cal (zP S 2 x0) (fun b1 =>
  m_chk (x0 ∈ zL S ∧ zK S x0 = 2) (
  m_chk (b1 ∈ zL S ∧ zK S b1 = 6) (
  m_cal (f_X6_at b1 (zI S 4 x0) S) (fun o2 => m_chk (zt o2.2 = zt S ∧ zu o2.2 = zu S) (
  m_if (o2.1 = (40 : Int32)) (
  m_if (x1 < (6 : Int32)) (
  m_bnd (x1 + (1 : Int32)) (fun v3 =>
  m_chk (x0 ∈ zL o2.2 ∧ zK o2.2 x0 = 2) (
  m_cal (f_X2_openLine x0 v3 o2.2) (fun o4 => m_chk (zt o4.2 = zt o2.2 ∧ zu o4.2 = zu o2.2) (
  d_X2_readMoves_197 self34 x0 v3 x2 o4.2))))
  ) (
  m_chk (x0 ∈ zL o2.2 ∧ zK o2.2 x0 = 2) (
  m_chk (x0 ∈ zL o2.2 ∧ zK o2.2 x0 = 2) (
  m_cal (f_X2_refuse x0 (8 : Int32) (zI o2.2 4 x0) o2.2) (fun o5 => m_chk (zt o5.2 = zt o2.2 ∧ zu o5.2 = zu o2.2) (
  m_chk (vp_nar .boolean o5.1 = o5.1) (
  some (o5.1, o5.2))))))
  )
  ) (
  d_X2_readMoves_128 self34 x0 x1 x2 x3 o2.2
  )))))))
  )
theorem tt_X2_readMoves_80 {Pw : Int32 → ZS → Prop} {self34 : Nat → Int32 → Int32 → ZS → Option (Int32 × ZS)} {self34g : Nat → Int32 → Int32 → ZS → Nat → Nat → Prop} (hself34 : ∀ (y0 : Nat) (y1 : Int32) (y2 : Int32) (S : ZS), Tw Pw (self34 y0 y1 y2 S) (zt S) (zu S) (fun C T => self34g y0 y1 y2 S C T)) {x0 : Nat} {x1 : Int32} {x2 : Int32} {x3 : Int32} {S : ZS} : Tw Pw (d_X2_readMoves_80 self34 x0 x1 x2 x3 S) (zt S) (zu S) (fun C T => g_X2_readMoves_80 Pw self34g x0 x1 x2 x3 S C T) := by
  unfold d_X2_readMoves_80 g_X2_readMoves_80
  refine tw_if (fun _ => ?_) (fun _ => ?_)
  ·
    exact tw_at (⟨rfl, rfl⟩ : zt S = zt S ∧ zu S = zu S) (tt_X2_readMoves_128 hself34)
  ·
    refine tw_chk (fun _ => ?_)
    refine tw_calv (fun b1 => ?_)
    refine tw_chk (fun _ => ?_)
    refine tw_chk (fun _ => ?_)
    refine tw_calf (⟨rfl, rfl⟩ : zt S = zt S ∧ zu S = zu S) (fun o2 co2 => ?_)
    refine tw_if (fun _ => ?_) (fun _ => ?_)
    ·
      refine tw_if (fun _ => ?_) (fun _ => ?_)
      ·
        refine tw_bndv (fun v3 => ?_)
        refine tw_chk (fun _ => ?_)
        refine tw_calf co2 (fun o4 co4 => ?_)
        exact tw_at co4 (tt_X2_readMoves_197 hself34)
      ·
        refine tw_chk (fun _ => ?_)
        refine tw_chk (fun _ => ?_)
        refine tw_calf co2 (fun o5 co5 => ?_)
        refine tw_chk (fun _ => ?_)
        exact tw_ret co5
    ·
      exact tw_at co2 (tt_X2_readMoves_128 hself34)
def d_X2_readMoves_65 (self34 : Nat → Int32 → Int32 → ZS → Option (Int32 × ZS)) (x0 : Nat) (x1 : Int32) (x2 : Int32) (t0 : Int32) (S : ZS) : Option (Int32 × ZS) :=
  m_if (x1 = 0) (
  m_chk (x0 ∈ zL S ∧ zK S x0 = 2) (
  m_cal (f_X2_resultHere x0 S) (fun o1 => m_chk (zt o1.2 = zt S ∧ zu o1.2 = zu S) (
  m_if (o1.1 = (-1 : Int32)) (
  d_X2_readMoves_80 self34 x0 x1 x2 t0 o1.2
  ) (
  m_chk (vp_nar .boolean (1 : Int32) = (1 : Int32)) (
  some ((1 : Int32), o1.2))
  ))))
  ) (
  d_X2_readMoves_80 self34 x0 x1 x2 t0 S
  )
theorem tt_X2_readMoves_65 {Pw : Int32 → ZS → Prop} {self34 : Nat → Int32 → Int32 → ZS → Option (Int32 × ZS)} {self34g : Nat → Int32 → Int32 → ZS → Nat → Nat → Prop} (hself34 : ∀ (y0 : Nat) (y1 : Int32) (y2 : Int32) (S : ZS), Tw Pw (self34 y0 y1 y2 S) (zt S) (zu S) (fun C T => self34g y0 y1 y2 S C T)) {x0 : Nat} {x1 : Int32} {x2 : Int32} {t0 : Int32} {S : ZS} : Tw Pw (d_X2_readMoves_65 self34 x0 x1 x2 t0 S) (zt S) (zu S) (fun C T => g_X2_readMoves_65 Pw self34g x0 x1 x2 t0 S C T) := by
  unfold d_X2_readMoves_65 g_X2_readMoves_65
  refine tw_if (fun _ => ?_) (fun _ => ?_)
  ·
    refine tw_chk (fun _ => ?_)
    refine tw_calf (⟨rfl, rfl⟩ : zt S = zt S ∧ zu S = zu S) (fun o1 co1 => ?_)
    refine tw_if (fun _ => ?_) (fun _ => ?_)
    ·
      exact tw_at co1 (tt_X2_readMoves_80 hself34)
    ·
      refine tw_chk (fun _ => ?_)
      exact tw_ret co1
  ·
    exact tw_at (⟨rfl, rfl⟩ : zt S = zt S ∧ zu S = zu S) (tt_X2_readMoves_80 hself34)
def d_X2_readMoves_34s (self34 : Nat → Int32 → Int32 → ZS → Option (Int32 × ZS)) (x0 : Nat) (x1 : Int32) (x2 : Int32) (S : ZS) : Option (Int32 × ZS) :=
  m_if ((2000 : Int32) < x2) (
  m_chk (x0 ∈ zL S ∧ zK S x0 = 2) (
  m_chk (x0 ∈ zL S ∧ zK S x0 = 2) (
  m_cal (f_X2_refuse x0 (1 : Int32) (zI S 4 x0) S) (fun o1 => m_chk (zt o1.2 = zt S ∧ zu o1.2 = zu S) (
  m_chk (vp_nar .boolean o1.1 = o1.1) (
  some (o1.1, o1.2))))))
  ) (
  m_chk (x0 ∈ zL S ∧ zK S x0 = 2) (
  m_cal (f_X2_skipBlanks x0 S) (fun o2 => m_chk (zt o2.2 = zt S ∧ zu o2.2 = zu S) (
  m_chk (x0 ∈ zL o2.2 ∧ zK o2.2 x0 = 2) (
  m_cal (zP o2.2 9 x0) (fun b3 =>
  m_chk (b3 ∈ zL o2.2 ∧ zK o2.2 b3 = 14) (
  m_chk (¬ (x1 < 0 ∨ zN o2.2 b3 ≤ (x1).toNatClampNeg)) (
  m_bnd (zA o2.2 b3 (x1).toNatClampNeg) (fun v4 =>
  m_chk (x0 ∈ zL o2.2 ∧ zK o2.2 x0 = 2) (
  m_cal (zP o2.2 8 x0) (fun b5 =>
  m_chk (b5 ∈ zL o2.2 ∧ zK o2.2 b5 = 14) (
  m_chk (¬ (x1 < 0 ∨ zN o2.2 b5 ≤ (x1).toNatClampNeg)) (
  m_bnd (zA o2.2 b5 (x1).toNatClampNeg) (fun v6 =>
  m_if (v4 = v6) (
  d_X2_readMoves_65 self34 x0 x1 x2 (0 : Int32) o2.2
  ) (
  d_X2_readMoves_65 self34 x0 x1 x2 (1 : Int32) o2.2
  ))))))))))))))
  )
theorem tt_X2_readMoves_34s {Pw : Int32 → ZS → Prop} {self34 : Nat → Int32 → Int32 → ZS → Option (Int32 × ZS)} {self34g : Nat → Int32 → Int32 → ZS → Nat → Nat → Prop} (hself34 : ∀ (y0 : Nat) (y1 : Int32) (y2 : Int32) (S : ZS), Tw Pw (self34 y0 y1 y2 S) (zt S) (zu S) (fun C T => self34g y0 y1 y2 S C T)) {x0 : Nat} {x1 : Int32} {x2 : Int32} {S : ZS} : Tw Pw (d_X2_readMoves_34s self34 x0 x1 x2 S) (zt S) (zu S) (fun C T => g_X2_readMoves_34s Pw self34g x0 x1 x2 S C T) := by
  unfold d_X2_readMoves_34s g_X2_readMoves_34s
  refine tw_if (fun _ => ?_) (fun _ => ?_)
  ·
    refine tw_chk (fun _ => ?_)
    refine tw_chk (fun _ => ?_)
    refine tw_calf (⟨rfl, rfl⟩ : zt S = zt S ∧ zu S = zu S) (fun o1 co1 => ?_)
    refine tw_chk (fun _ => ?_)
    exact tw_ret co1
  ·
    refine tw_chk (fun _ => ?_)
    refine tw_calf (⟨rfl, rfl⟩ : zt S = zt S ∧ zu S = zu S) (fun o2 co2 => ?_)
    refine tw_chk (fun _ => ?_)
    refine tw_calv (fun b3 => ?_)
    refine tw_chk (fun _ => ?_)
    refine tw_chk (fun _ => ?_)
    refine tw_bndv (fun v4 => ?_)
    refine tw_chk (fun _ => ?_)
    refine tw_calv (fun b5 => ?_)
    refine tw_chk (fun _ => ?_)
    refine tw_chk (fun _ => ?_)
    refine tw_bndv (fun v6 => ?_)
    refine tw_if (fun _ => ?_) (fun _ => ?_)
    ·
      exact tw_at co2 (tt_X2_readMoves_65 hself34)
    ·
      exact tw_at co2 (tt_X2_readMoves_65 hself34)
def d_X2_readMoves_34  : Nat → Nat → Int32 → Int32 → ZS → Option (Int32 × ZS)
  | 0 => fun _ _ _ _ => none
  | n + 1 => d_X2_readMoves_34s  (d_X2_readMoves_34  n)
theorem tt_X2_readMoves_34 {Pw : Int32 → ZS → Prop}   {n : Nat} : ∀ {z0 : Nat} {z1 : Int32} {z2 : Int32} {S : ZS}, Tw Pw (d_X2_readMoves_34  n z0 z1 z2 S) (zt S) (zu S) (fun C T => g_X2_readMoves_34 Pw  n z0 z1 z2 S C T) := by
  induction n with
  | zero => intro z0 z1 z2 S; exact tw_none
  | succ n ih => intro z0 z1 z2 S; exact tt_X2_readMoves_34s  (fun _ _ _ _ => ih)
def d_X2_readMoves_0 (x0 : Nat) (S : ZS) : Option (Int32 × ZS) :=
  m_chk (x0 ∈ zL S ∧ zK S x0 = 2) (
  m_cal (zP S 8 x0) (fun b1 =>
  m_chk (b1 ∈ zL S ∧ zK S b1 = 14) (
  m_chk (¬ ((0 : Int32) < 0 ∨ zN S b1 ≤ ((0 : Int32)).toNatClampNeg)) (
  m_bnd (zsA S b1 ((0 : Int32)).toNatClampNeg (0 : Int32)) (fun S2 =>
  m_chk (x0 ∈ zL S2 ∧ zK S2 x0 = 2) (
  m_cal (zP S2 9 x0) (fun b3 =>
  m_chk (b3 ∈ zL S2 ∧ zK S2 b3 = 14) (
  m_chk (¬ ((0 : Int32) < 0 ∨ zN S2 b3 ≤ ((0 : Int32)).toNatClampNeg)) (
  m_bnd (zsA S2 b3 ((0 : Int32)).toNatClampNeg (0 : Int32)) (fun S4 =>
  m_chk (x0 ∈ zL S4 ∧ zK S4 x0 = 2) (
  m_cal (zP S4 11 x0) (fun b5 =>
  m_chk (b5 ∈ zL S4 ∧ zK S4 b5 = 15) (
  m_chk (¬ ((0 : Int32) < 0 ∨ zN S4 b5 ≤ ((0 : Int32)).toNatClampNeg)) (
  m_cal (zB S4 b5 ((0 : Int32)).toNatClampNeg) (fun b6 =>
  m_chk (x0 ∈ zL S4 ∧ zK S4 x0 = 2) (
  m_cal (zP S4 3 x0) (fun b7 =>
  m_chk (b7 ∈ zL S4 ∧ zK S4 b7 = 1) (
  m_cal (zP S4 0 b7) (fun b8 =>
  m_chk (b6 ∈ zL S4 ∧ zK S4 b6 = 0) (
  m_cal (f_X0_copyFrom b6 b8 S4) (fun o9 => m_chk (zt o9.2 = zt S4 ∧ zu o9.2 = zu S4) (
  d_X2_readMoves_34 mFuel x0 (0 : Int32) (0 : Int32) o9.2))))))))))))))))))))))
theorem tt_X2_readMoves_0 {Pw : Int32 → ZS → Prop}   {x0 : Nat} {S : ZS} : Tw Pw (d_X2_readMoves_0 x0 S) (zt S) (zu S) (fun C T => g_X2_readMoves_0 Pw x0 S C T) := by
  unfold d_X2_readMoves_0 g_X2_readMoves_0
  refine tw_chk (fun _ => ?_)
  refine tw_calv (fun b1 => ?_)
  refine tw_chk (fun _ => ?_)
  refine tw_chk (fun _ => ?_)
  refine tw_bnds (⟨rfl, rfl⟩ : zt S = zt S ∧ zu S = zu S) (fun S2 cS2 => ?_)
  refine tw_chk (fun _ => ?_)
  refine tw_calv (fun b3 => ?_)
  refine tw_chk (fun _ => ?_)
  refine tw_chk (fun _ => ?_)
  refine tw_bnds cS2 (fun S4 cS4 => ?_)
  refine tw_chk (fun _ => ?_)
  refine tw_calv (fun b5 => ?_)
  refine tw_chk (fun _ => ?_)
  refine tw_chk (fun _ => ?_)
  refine tw_calv (fun b6 => ?_)
  refine tw_chk (fun _ => ?_)
  refine tw_calv (fun b7 => ?_)
  refine tw_chk (fun _ => ?_)
  refine tw_calv (fun b8 => ?_)
  refine tw_chk (fun _ => ?_)
  refine tw_calf cS4 (fun o9 co9 => ?_)
  exact tw_at co9 (tt_X2_readMoves_34)
def d_X2_readMoves (x0 : Nat) (S : ZS) : Option (Int32 × ZS) := d_X2_readMoves_0 x0 S
theorem tt_X2_readMoves {Pw : Int32 → ZS → Prop} {x0 : Nat} {S : ZS} : Tw Pw (d_X2_readMoves x0 S) (zt S) (zu S) (fun C T => g_X2_readMoves x0 S C T Pw) := tt_X2_readMoves_0
def d_X2_readEnd_86 (t0 : Int32) (S : ZS) : Option (Int32 × ZS) :=
  m_chk (vp_nar .boolean t0 = t0) (
  some (t0, S))
theorem tt_X2_readEnd_86 {Pw : Int32 → ZS → Prop}   {t0 : Int32} {S : ZS} : Tw Pw (d_X2_readEnd_86 t0 S) (zt S) (zu S) (fun C T => g_X2_readEnd_86 Pw t0 S C T) := by
  unfold d_X2_readEnd_86 g_X2_readEnd_86
  refine tw_chk (fun _ => ?_)
  exact tw_ret (⟨rfl, rfl⟩ : zt S = zt S ∧ zu S = zu S)
def d_X2_readEnd_81 (S : ZS) : Option (Int32 × ZS) :=
  d_X2_readEnd_86 (1 : Int32) S
theorem tt_X2_readEnd_81 {Pw : Int32 → ZS → Prop}   {S : ZS} : Tw Pw (d_X2_readEnd_81 S) (zt S) (zu S) (fun C T => g_X2_readEnd_81 Pw S C T) := by
  unfold d_X2_readEnd_81 g_X2_readEnd_81
  exact tw_at (⟨rfl, rfl⟩ : zt S = zt S ∧ zu S = zu S) (tt_X2_readEnd_86)
def d_X2_readEnd_0 (x0 : Nat) (S : ZS) : Option (Int32 × ZS) :=
  m_chk (x0 ∈ zL S ∧ zK S x0 = 2) (
  m_cal (f_X2_resultHere x0 S) (fun o1 => m_chk (zt o1.2 = zt S ∧ zu o1.2 = zu S) (
  m_chk (x0 ∈ zL o1.2 ∧ zK o1.2 x0 = 2) (
  m_cal (zP o1.2 3 x0) (fun b2 =>
  m_chk (b2 ∈ zL o1.2 ∧ zK o1.2 b2 = 1) (
  m_cal2 (d_X1_agreesWith b2 o1.1 o1.2) (fun r4 S5 =>
  m_if (r4 = 0) (
  m_chk (x0 ∈ zL S5 ∧ zK S5 x0 = 2) (
  m_chk (x0 ∈ zL S5 ∧ zK S5 x0 = 2) (
  m_cal (f_X2_refuse x0 (9 : Int32) (zI S5 4 x0) S5) (fun o18 => m_chk (zt o18.2 = zt S5 ∧ zu o18.2 = zu S5) (
  m_chk (vp_nar .boolean o18.1 = o18.1) (
  some (o18.1, o18.2))))))
  ) (
  m_chk (x0 ∈ zL S5 ∧ zK S5 x0 = 2) (
  m_cal (zP S5 3 x0) (fun b8 =>
  m_chk (b8 ∈ zL S5 ∧ zK S5 b8 = 1) (
  m_bnd (zsI S5 6 b8 o1.1) (fun S9 =>
  m_chk (x0 ∈ zL S9 ∧ zK S9 x0 = 2) (
  m_cal (f_X11_resultSign o1.1 S9) (fun o10 => m_chk (zt o10.2 = zt S9 ∧ zu o10.2 = zu S9) (
  m_chk (o10.1 < zSn) (
  m_cal (f_J0_length_8abf5 o10.1 o10.2) (fun o11 => m_chk (zt o11.2 = zt o10.2 ∧ zu o11.2 = zu o10.2) (
  m_bnd ((zI S9 4 x0) + o11.1) (fun v12 =>
  m_chk (x0 ∈ zL o11.2 ∧ zK o11.2 x0 = 2) (
  m_bnd (zsI o11.2 4 x0 v12) (fun S13 =>
  m_chk (x0 ∈ zL S13 ∧ zK S13 x0 = 2) (
  m_cal (f_X2_skipBlanks x0 S13) (fun o14 => m_chk (zt o14.2 = zt S13 ∧ zu o14.2 = zu S13) (
  m_chk (x0 ∈ zL o14.2 ∧ zK o14.2 x0 = 2) (
  m_chk (x0 ∈ zL o14.2 ∧ zK o14.2 x0 = 2) (
  m_cal (zP o14.2 2 x0) (fun b15 =>
  m_chk (b15 ∈ zL o14.2 ∧ zK o14.2 b15 = 6) (
  m_cal (f_X6_size b15 o14.2) (fun o16 => m_chk (zt o16.2 = zt o14.2 ∧ zu o16.2 = zu o14.2) (
  m_if ((zI o14.2 4 x0) = o16.1) (
  d_X2_readEnd_81 o16.2
  ) (
  m_chk (x0 ∈ zL o16.2 ∧ zK o16.2 x0 = 2) (
  m_chk (x0 ∈ zL o16.2 ∧ zK o16.2 x0 = 2) (
  m_cal (f_X2_refuse x0 (1 : Int32) (zI o16.2 4 x0) o16.2) (fun o17 => m_chk (zt o17.2 = zt o16.2 ∧ zu o17.2 = zu o16.2) (
  m_if (o17.1 = 0) (
  d_X2_readEnd_86 (0 : Int32) o17.2
  ) (
  d_X2_readEnd_81 o17.2
  )))))
  )))))))))))))))))))))))
  ))))))))
theorem tt_X2_readEnd_0 {Pw : Int32 → ZS → Prop}   {x0 : Nat} {S : ZS} : Tw Pw (d_X2_readEnd_0 x0 S) (zt S) (zu S) (fun C T => g_X2_readEnd_0 Pw x0 S C T) := by
  unfold d_X2_readEnd_0 g_X2_readEnd_0
  refine tw_chk (fun _ => ?_)
  refine tw_calf (⟨rfl, rfl⟩ : zt S = zt S ∧ zu S = zu S) (fun o1 co1 => ?_)
  refine tw_chk (fun _ => ?_)
  refine tw_calv (fun b2 => ?_)
  refine tw_chk (fun _ => ?_)
  refine tw_gal (fun Pw9 => tw_at co1 tt_X1_agreesWith) (fun r4 S5 => ?_)
  refine tw_if (fun _ => ?_) (fun _ => ?_)
  ·
    refine tw_chk (fun _ => ?_)
    refine tw_chk (fun _ => ?_)
    refine tw_calf (⟨rfl, rfl⟩ : zt S5 = zt S5 ∧ zu S5 = zu S5) (fun o18 co18 => ?_)
    refine tw_chk (fun _ => ?_)
    exact tw_ret co18
  ·
    refine tw_chk (fun _ => ?_)
    refine tw_calv (fun b8 => ?_)
    refine tw_chk (fun _ => ?_)
    refine tw_bnds (⟨rfl, rfl⟩ : zt S5 = zt S5 ∧ zu S5 = zu S5) (fun S9 cS9 => ?_)
    refine tw_chk (fun _ => ?_)
    refine tw_calf cS9 (fun o10 co10 => ?_)
    refine tw_chk (fun _ => ?_)
    refine tw_calf co10 (fun o11 co11 => ?_)
    refine tw_bndv (fun v12 => ?_)
    refine tw_chk (fun _ => ?_)
    refine tw_bnds co11 (fun S13 cS13 => ?_)
    refine tw_chk (fun _ => ?_)
    refine tw_calf cS13 (fun o14 co14 => ?_)
    refine tw_chk (fun _ => ?_)
    refine tw_chk (fun _ => ?_)
    refine tw_calv (fun b15 => ?_)
    refine tw_chk (fun _ => ?_)
    refine tw_calf co14 (fun o16 co16 => ?_)
    refine tw_if (fun _ => ?_) (fun _ => ?_)
    ·
      exact tw_at co16 (tt_X2_readEnd_81)
    ·
      refine tw_chk (fun _ => ?_)
      refine tw_chk (fun _ => ?_)
      refine tw_calf co16 (fun o17 co17 => ?_)
      refine tw_if (fun _ => ?_) (fun _ => ?_)
      ·
        exact tw_at co17 (tt_X2_readEnd_86)
      ·
        exact tw_at co17 (tt_X2_readEnd_81)
def d_X2_readEnd (x0 : Nat) (S : ZS) : Option (Int32 × ZS) := d_X2_readEnd_0 x0 S
theorem tt_X2_readEnd {Pw : Int32 → ZS → Prop} {x0 : Nat} {S : ZS} : Tw Pw (d_X2_readEnd x0 S) (zt S) (zu S) (fun C T => g_X2_readEnd x0 S C T Pw) := tt_X2_readEnd_0
def d_X9_init_0 (x0 : Nat) (S : ZS) : Option (Int32 × ZS) :=
  m_bnd (zt S) (fun q1 =>
  m_bnd (zsNewO S q1 7 2) (fun S2 =>
  m_cal2 (d_X7_init q1 S2) (fun r6 S7 =>
  m_chk (x0 ∈ zL S7 ∧ zK S7 x0 = 9) (
  m_bnd (zsP S7 0 x0 (some q1)) (fun S10 =>
  some (0, S10))))))
theorem tt_X9_init_0 {Pw : Int32 → ZS → Prop}   {x0 : Nat} {S : ZS} : Tw Pw (d_X9_init_0 x0 S) (zt S) (zu S) (fun C T => g_X9_init_0 Pw x0 S C T) := by
  unfold d_X9_init_0 g_X9_init_0
  refine tw_new (fun _ => ⟨congrArg (· + 1) (⟨rfl, rfl⟩ : zt S = zt S ∧ zu S = zu S).1, congrArg (· + _) (⟨rfl, rfl⟩ : zt S = zt S ∧ zu S = zu S).2⟩) (fun q1 S2 cS2 => ?_)
  refine tw_gal (fun Pw9 => tw_at cS2 tt_X7_init) (fun r6 S7 => ?_)
  refine tw_chk (fun _ => ?_)
  refine tw_bnds (⟨rfl, rfl⟩ : zt S7 = zt S7 ∧ zu S7 = zu S7) (fun S10 cS10 => ?_)
  exact tw_ret cS10
def d_X9_init (x0 : Nat) (S : ZS) : Option (Int32 × ZS) := d_X9_init_0 x0 S
theorem tt_X9_init {Pw : Int32 → ZS → Prop} {x0 : Nat} {S : ZS} : Tw Pw (d_X9_init x0 S) (zt S) (zu S) (fun C T => g_X9_init x0 S C T Pw) := tt_X9_init_0
def d_X3_init_26s (self26 : Nat → Int32 → ZS → Option (Int32 × ZS)) (x0 : Nat) (x1 : Int32) (S : ZS) : Option (Int32 × ZS) :=
  m_if ((6 : Int32) < x1) (
  some (0, S)
  ) (
  m_chk (x0 ∈ zL S ∧ zK S x0 = 3) (
  m_cal (zP S 1 x0) (fun b1 =>
  m_bnd (zt S) (fun q2 =>
  m_bnd (zsNewO S q2 0 7) (fun S3 =>
  m_cal2 (d_X0_init q2 S3) (fun r7 S8 =>
  m_chk (b1 ∈ zL S8 ∧ zK S8 b1 = 15) (
  m_chk (q2 ∈ zL S8 ∧ zK S8 q2 = 0) (
  m_chk (¬ (x1 < 0 ∨ zN S8 b1 ≤ (x1).toNatClampNeg)) (
  m_bnd (zsB S8 b1 (x1).toNatClampNeg (some q2)) (fun S11 =>
  m_bnd (x1 + (1 : Int32)) (fun v12 =>
  self26 x0 v12 S11))))))))))
  )
theorem tt_X3_init_26s {Pw : Int32 → ZS → Prop} {self26 : Nat → Int32 → ZS → Option (Int32 × ZS)} {self26g : Nat → Int32 → ZS → Nat → Nat → Prop} (hself26 : ∀ (y0 : Nat) (y1 : Int32) (S : ZS), Tw Pw (self26 y0 y1 S) (zt S) (zu S) (fun C T => self26g y0 y1 S C T)) {x0 : Nat} {x1 : Int32} {S : ZS} : Tw Pw (d_X3_init_26s self26 x0 x1 S) (zt S) (zu S) (fun C T => g_X3_init_26s Pw self26g x0 x1 S C T) := by
  unfold d_X3_init_26s g_X3_init_26s
  refine tw_if (fun _ => ?_) (fun _ => ?_)
  ·
    exact tw_ret (⟨rfl, rfl⟩ : zt S = zt S ∧ zu S = zu S)
  ·
    refine tw_chk (fun _ => ?_)
    refine tw_calv (fun b1 => ?_)
    refine tw_new (fun _ => ⟨congrArg (· + 1) (⟨rfl, rfl⟩ : zt S = zt S ∧ zu S = zu S).1, congrArg (· + _) (⟨rfl, rfl⟩ : zt S = zt S ∧ zu S = zu S).2⟩) (fun q2 S3 cS3 => ?_)
    refine tw_gal (fun Pw9 => tw_at cS3 tt_X0_init) (fun r7 S8 => ?_)
    refine tw_chk (fun _ => ?_)
    refine tw_chk (fun _ => ?_)
    refine tw_chk (fun _ => ?_)
    refine tw_bnds (⟨rfl, rfl⟩ : zt S8 = zt S8 ∧ zu S8 = zu S8) (fun S11 cS11 => ?_)
    refine tw_bndv (fun v12 => ?_)
    exact tw_at cS11 (hself26 _ _ _)
def d_X3_init_26  : Nat → Nat → Int32 → ZS → Option (Int32 × ZS)
  | 0 => fun _ _ _ => none
  | n + 1 => d_X3_init_26s  (d_X3_init_26  n)
theorem tt_X3_init_26 {Pw : Int32 → ZS → Prop}   {n : Nat} : ∀ {z0 : Nat} {z1 : Int32} {S : ZS}, Tw Pw (d_X3_init_26  n z0 z1 S) (zt S) (zu S) (fun C T => g_X3_init_26 Pw  n z0 z1 S C T) := by
  induction n with
  | zero => intro z0 z1 S; exact tw_none
  | succ n ih => intro z0 z1 S; exact tt_X3_init_26s  (fun _ _ _ => ih)
def d_X3_init_0 (x0 : Nat) (S : ZS) : Option (Int32 × ZS) :=
  m_bnd (zt S) (fun q1 =>
  m_bnd (zsNewO S q1 9 1) (fun S2 =>
  m_cal2 (d_X9_init q1 S2) (fun r6 S7 =>
  m_chk (x0 ∈ zL S7 ∧ zK S7 x0 = 3) (
  m_bnd (zsP S7 0 x0 (some q1)) (fun S10 =>
  m_chk (¬ (7 : Int32) < 0 ∧ ((7 : Int32)).toNatClampNeg * 4 ≤ 536870912) (
  m_bnd (zt S10) (fun q11 =>
  m_bnd (zsNewA S10 q11 15 ((7 : Int32)).toNatClampNeg) (fun S12 =>
  m_chk (x0 ∈ zL S12 ∧ zK S12 x0 = 3) (
  m_bnd (zsP S12 1 x0 (some q11)) (fun S15 =>
  d_X3_init_26 mFuel x0 (0 : Int32) S15))))))))))
theorem tt_X3_init_0 {Pw : Int32 → ZS → Prop}   {x0 : Nat} {S : ZS} : Tw Pw (d_X3_init_0 x0 S) (zt S) (zu S) (fun C T => g_X3_init_0 Pw x0 S C T) := by
  unfold d_X3_init_0 g_X3_init_0
  refine tw_new (fun _ => ⟨congrArg (· + 1) (⟨rfl, rfl⟩ : zt S = zt S ∧ zu S = zu S).1, congrArg (· + _) (⟨rfl, rfl⟩ : zt S = zt S ∧ zu S = zu S).2⟩) (fun q1 S2 cS2 => ?_)
  refine tw_gal (fun Pw9 => tw_at cS2 tt_X9_init) (fun r6 S7 => ?_)
  refine tw_chk (fun _ => ?_)
  refine tw_bnds (⟨rfl, rfl⟩ : zt S7 = zt S7 ∧ zu S7 = zu S7) (fun S10 cS10 => ?_)
  refine tw_chk (fun _ => ?_)
  refine tw_new (fun _ => ⟨congrArg (· + 1) cS10.1, congrArg (· + _) cS10.2⟩) (fun q11 S12 cS12 => ?_)
  refine tw_chk (fun _ => ?_)
  refine tw_bnds cS12 (fun S15 cS15 => ?_)
  exact tw_at cS15 (tt_X3_init_26)
def d_X3_init (x0 : Nat) (S : ZS) : Option (Int32 × ZS) := d_X3_init_0 x0 S
theorem tt_X3_init {Pw : Int32 → ZS → Prop} {x0 : Nat} {S : ZS} : Tw Pw (d_X3_init x0 S) (zt S) (zu S) (fun C T => g_X3_init x0 S C T Pw) := tt_X3_init_0
def d_X6_putText_2s (self2 : Nat → Nat → Int32 → ZS → Option (Int32 × ZS)) (x0 : Nat) (x1 : Nat) (x2 : Int32) (S : ZS) : Option (Int32 × ZS) :=
  m_chk (x1 < zSn) (
  m_cal (f_J0_length_8abf5 x1 S) (fun o1 => m_chk (zt o1.2 = zt S ∧ zu o1.2 = zu S) (
  m_if (o1.1 ≤ x2) (
  some (0, o1.2)
  ) (
  m_chk (x1 < zSn) (
  m_cal (f_J0_charAt_5068e x1 x2 o1.2) (fun o2 => m_chk (zt o2.2 = zt o1.2 ∧ zu o2.2 = zu o1.2) (
  m_chk (x0 ∈ zL o2.2 ∧ zK o2.2 x0 = 6) (
  m_cal2 (d_X6_put x0 o2.1 o2.2) (fun r4 S5 =>
  m_bnd (x2 + (1 : Int32)) (fun v8 =>
  self2 x0 x1 v8 S5))))))
  ))))
theorem tt_X6_putText_2s {Pw : Int32 → ZS → Prop} {self2 : Nat → Nat → Int32 → ZS → Option (Int32 × ZS)} {self2g : Nat → Nat → Int32 → ZS → Nat → Nat → Prop} (hself2 : ∀ (y0 : Nat) (y1 : Nat) (y2 : Int32) (S : ZS), Tw Pw (self2 y0 y1 y2 S) (zt S) (zu S) (fun C T => self2g y0 y1 y2 S C T)) {x0 : Nat} {x1 : Nat} {x2 : Int32} {S : ZS} : Tw Pw (d_X6_putText_2s self2 x0 x1 x2 S) (zt S) (zu S) (fun C T => g_X6_putText_2s Pw self2g x0 x1 x2 S C T) := by
  unfold d_X6_putText_2s g_X6_putText_2s
  refine tw_chk (fun _ => ?_)
  refine tw_calf (⟨rfl, rfl⟩ : zt S = zt S ∧ zu S = zu S) (fun o1 co1 => ?_)
  refine tw_if (fun _ => ?_) (fun _ => ?_)
  ·
    exact tw_ret co1
  ·
    refine tw_chk (fun _ => ?_)
    refine tw_calf co1 (fun o2 co2 => ?_)
    refine tw_chk (fun _ => ?_)
    refine tw_gal (fun Pw9 => tw_at co2 tt_X6_put) (fun r4 S5 => ?_)
    refine tw_bndv (fun v8 => ?_)
    exact tw_at (⟨rfl, rfl⟩ : zt S5 = zt S5 ∧ zu S5 = zu S5) (hself2 _ _ _ _)
def d_X6_putText_2  : Nat → Nat → Nat → Int32 → ZS → Option (Int32 × ZS)
  | 0 => fun _ _ _ _ => none
  | n + 1 => d_X6_putText_2s  (d_X6_putText_2  n)
theorem tt_X6_putText_2 {Pw : Int32 → ZS → Prop}   {n : Nat} : ∀ {z0 : Nat} {z1 : Nat} {z2 : Int32} {S : ZS}, Tw Pw (d_X6_putText_2  n z0 z1 z2 S) (zt S) (zu S) (fun C T => g_X6_putText_2 Pw  n z0 z1 z2 S C T) := by
  induction n with
  | zero => intro z0 z1 z2 S; exact tw_none
  | succ n ih => intro z0 z1 z2 S; exact tt_X6_putText_2s  (fun _ _ _ _ => ih)
def d_X6_putText_0 (x0 : Nat) (x1 : Nat) (S : ZS) : Option (Int32 × ZS) :=
  d_X6_putText_2 mFuel x0 x1 (0 : Int32) S
theorem tt_X6_putText_0 {Pw : Int32 → ZS → Prop}   {x0 : Nat} {x1 : Nat} {S : ZS} : Tw Pw (d_X6_putText_0 x0 x1 S) (zt S) (zu S) (fun C T => g_X6_putText_0 Pw x0 x1 S C T) := by
  unfold d_X6_putText_0 g_X6_putText_0
  exact tw_at (⟨rfl, rfl⟩ : zt S = zt S ∧ zu S = zu S) (tt_X6_putText_2)
def d_X6_putText (x0 : Nat) (x1 : Nat) (S : ZS) : Option (Int32 × ZS) := d_X6_putText_0 x0 x1 S
theorem tt_X6_putText {Pw : Int32 → ZS → Prop} {x0 : Nat} {x1 : Nat} {S : ZS} : Tw Pw (d_X6_putText x0 x1 S) (zt S) (zu S) (fun C T => g_X6_putText x0 x1 S C T Pw) := tt_X6_putText_0
def d_X3_putQuoted_34 (self2 : Nat → Nat → Int32 → ZS → Option (Int32 × ZS)) (x0 : Nat) (x1 : Nat) (x2 : Int32) (x3 : Int32) (S : ZS) : Option (Int32 × ZS) :=
  m_chk (x1 ∈ zL S ∧ zK S x1 = 6) (
  m_cal2 (d_X6_put x1 x3 S) (fun r2 S3 =>
  m_bnd (x2 + (1 : Int32)) (fun v6 =>
  self2 x0 x1 v6 S3)))
theorem tt_X3_putQuoted_34 {Pw : Int32 → ZS → Prop} {self2 : Nat → Nat → Int32 → ZS → Option (Int32 × ZS)} {self2g : Nat → Nat → Int32 → ZS → Nat → Nat → Prop} (hself2 : ∀ (y0 : Nat) (y1 : Nat) (y2 : Int32) (S : ZS), Tw Pw (self2 y0 y1 y2 S) (zt S) (zu S) (fun C T => self2g y0 y1 y2 S C T)) {x0 : Nat} {x1 : Nat} {x2 : Int32} {x3 : Int32} {S : ZS} : Tw Pw (d_X3_putQuoted_34 self2 x0 x1 x2 x3 S) (zt S) (zu S) (fun C T => g_X3_putQuoted_34 Pw self2g x0 x1 x2 x3 S C T) := by
  unfold d_X3_putQuoted_34 g_X3_putQuoted_34
  refine tw_chk (fun _ => ?_)
  refine tw_gal (fun Pw9 => tw_at (⟨rfl, rfl⟩ : zt S = zt S ∧ zu S = zu S) tt_X6_put) (fun r2 S3 => ?_)
  refine tw_bndv (fun v6 => ?_)
  exact tw_at (⟨rfl, rfl⟩ : zt S3 = zt S3 ∧ zu S3 = zu S3) (hself2 _ _ _ _)
def d_X3_putQuoted_28 (self2 : Nat → Nat → Int32 → ZS → Option (Int32 × ZS)) (x0 : Nat) (x1 : Nat) (x2 : Int32) (x3 : Int32) (S : ZS) : Option (Int32 × ZS) :=
  m_chk (x1 ∈ zL S ∧ zK S x1 = 6) (
  m_cal2 (d_X6_put x1 (92 : Int32) S) (fun r2 S3 =>
  d_X3_putQuoted_34 self2 x0 x1 x2 x3 S3))
theorem tt_X3_putQuoted_28 {Pw : Int32 → ZS → Prop} {self2 : Nat → Nat → Int32 → ZS → Option (Int32 × ZS)} {self2g : Nat → Nat → Int32 → ZS → Nat → Nat → Prop} (hself2 : ∀ (y0 : Nat) (y1 : Nat) (y2 : Int32) (S : ZS), Tw Pw (self2 y0 y1 y2 S) (zt S) (zu S) (fun C T => self2g y0 y1 y2 S C T)) {x0 : Nat} {x1 : Nat} {x2 : Int32} {x3 : Int32} {S : ZS} : Tw Pw (d_X3_putQuoted_28 self2 x0 x1 x2 x3 S) (zt S) (zu S) (fun C T => g_X3_putQuoted_28 Pw self2g x0 x1 x2 x3 S C T) := by
  unfold d_X3_putQuoted_28 g_X3_putQuoted_28
  refine tw_chk (fun _ => ?_)
  refine tw_gal (fun Pw9 => tw_at (⟨rfl, rfl⟩ : zt S = zt S ∧ zu S = zu S) tt_X6_put) (fun r2 S3 => ?_)
  exact tw_at (⟨rfl, rfl⟩ : zt S3 = zt S3 ∧ zu S3 = zu S3) (tt_X3_putQuoted_34 hself2)
def d_X3_putQuoted_2s (self2 : Nat → Nat → Int32 → ZS → Option (Int32 × ZS)) (x0 : Nat) (x1 : Nat) (x2 : Int32) (S : ZS) : Option (Int32 × ZS) :=
  m_chk (x0 ∈ zL S ∧ zK S x0 = 6) (
  m_cal (f_X6_size x0 S) (fun o1 => m_chk (zt o1.2 = zt S ∧ zu o1.2 = zu S) (
  m_if (o1.1 ≤ x2) (
  some (0, o1.2)
  ) (
  m_chk (x0 ∈ zL o1.2 ∧ zK o1.2 x0 = 6) (
  m_cal (f_X6_at x0 x2 o1.2) (fun o2 => m_chk (zt o2.2 = zt o1.2 ∧ zu o2.2 = zu o1.2) (
  m_if (o2.1 = (34 : Int32)) (
  d_X3_putQuoted_28 self2 x0 x1 x2 o2.1 o2.2
  ) (
  m_if (o2.1 = (92 : Int32)) (
  d_X3_putQuoted_28 self2 x0 x1 x2 o2.1 o2.2
  ) (
  d_X3_putQuoted_34 self2 x0 x1 x2 o2.1 o2.2
  )
  ))))
  ))))
theorem tt_X3_putQuoted_2s {Pw : Int32 → ZS → Prop} {self2 : Nat → Nat → Int32 → ZS → Option (Int32 × ZS)} {self2g : Nat → Nat → Int32 → ZS → Nat → Nat → Prop} (hself2 : ∀ (y0 : Nat) (y1 : Nat) (y2 : Int32) (S : ZS), Tw Pw (self2 y0 y1 y2 S) (zt S) (zu S) (fun C T => self2g y0 y1 y2 S C T)) {x0 : Nat} {x1 : Nat} {x2 : Int32} {S : ZS} : Tw Pw (d_X3_putQuoted_2s self2 x0 x1 x2 S) (zt S) (zu S) (fun C T => g_X3_putQuoted_2s Pw self2g x0 x1 x2 S C T) := by
  unfold d_X3_putQuoted_2s g_X3_putQuoted_2s
  refine tw_chk (fun _ => ?_)
  refine tw_calf (⟨rfl, rfl⟩ : zt S = zt S ∧ zu S = zu S) (fun o1 co1 => ?_)
  refine tw_if (fun _ => ?_) (fun _ => ?_)
  ·
    exact tw_ret co1
  ·
    refine tw_chk (fun _ => ?_)
    refine tw_calf co1 (fun o2 co2 => ?_)
    refine tw_if (fun _ => ?_) (fun _ => ?_)
    ·
      exact tw_at co2 (tt_X3_putQuoted_28 hself2)
    ·
      refine tw_if (fun _ => ?_) (fun _ => ?_)
      ·
        exact tw_at co2 (tt_X3_putQuoted_28 hself2)
      ·
        exact tw_at co2 (tt_X3_putQuoted_34 hself2)
def d_X3_putQuoted_2  : Nat → Nat → Nat → Int32 → ZS → Option (Int32 × ZS)
  | 0 => fun _ _ _ _ => none
  | n + 1 => d_X3_putQuoted_2s  (d_X3_putQuoted_2  n)
theorem tt_X3_putQuoted_2 {Pw : Int32 → ZS → Prop}   {n : Nat} : ∀ {z0 : Nat} {z1 : Nat} {z2 : Int32} {S : ZS}, Tw Pw (d_X3_putQuoted_2  n z0 z1 z2 S) (zt S) (zu S) (fun C T => g_X3_putQuoted_2 Pw  n z0 z1 z2 S C T) := by
  induction n with
  | zero => intro z0 z1 z2 S; exact tw_none
  | succ n ih => intro z0 z1 z2 S; exact tt_X3_putQuoted_2s  (fun _ _ _ _ => ih)
def d_X3_putQuoted_0 (x0 : Nat) (x1 : Nat) (S : ZS) : Option (Int32 × ZS) :=
  d_X3_putQuoted_2 mFuel x0 x1 (0 : Int32) S
theorem tt_X3_putQuoted_0 {Pw : Int32 → ZS → Prop}   {x0 : Nat} {x1 : Nat} {S : ZS} : Tw Pw (d_X3_putQuoted_0 x0 x1 S) (zt S) (zu S) (fun C T => g_X3_putQuoted_0 Pw x0 x1 S C T) := by
  unfold d_X3_putQuoted_0 g_X3_putQuoted_0
  exact tw_at (⟨rfl, rfl⟩ : zt S = zt S ∧ zu S = zu S) (tt_X3_putQuoted_2)
def d_X3_putQuoted (x0 : Nat) (x1 : Nat) (S : ZS) : Option (Int32 × ZS) := d_X3_putQuoted_0 x0 x1 S
theorem tt_X3_putQuoted {Pw : Int32 → ZS → Prop} {x0 : Nat} {x1 : Nat} {S : ZS} : Tw Pw (d_X3_putQuoted x0 x1 S) (zt S) (zu S) (fun C T => g_X3_putQuoted x0 x1 S C T Pw) := tt_X3_putQuoted_0
def d_X3_putGap_33 (S : ZS) : Option (Int32 × ZS) :=
  some (0, S)
theorem tt_X3_putGap_33 {Pw : Int32 → ZS → Prop}   {S : ZS} : Tw Pw (d_X3_putGap_33 S) (zt S) (zu S) (fun C T => g_X3_putGap_33 Pw S C T) := by
  unfold d_X3_putGap_33 g_X3_putGap_33
  exact tw_ret (⟨rfl, rfl⟩ : zt S = zt S ∧ zu S = zu S)
def d_X3_putGap_0 (x0 : Nat) (S : ZS) : Option (Int32 × ZS) :=
  m_chk (x0 ∈ zL S ∧ zK S x0 = 6) (
  m_cal (f_X6_size x0 S) (fun o1 => m_chk (zt o1.2 = zt S ∧ zu o1.2 = zu S) (
  m_bnd (o1.1 - (1 : Int32)) (fun v2 =>
  m_chk (x0 ∈ zL o1.2 ∧ zK o1.2 x0 = 6) (
  m_cal (f_X6_at x0 v2 o1.2) (fun o3 => m_chk (zt o3.2 = zt o1.2 ∧ zu o3.2 = zu o1.2) (
  m_if (o3.1 = 0) (
  d_X3_putGap_33 o3.2
  ) (
  m_if (o3.1 = (10 : Int32)) (
  d_X3_putGap_33 o3.2
  ) (
  m_if (o3.1 = (40 : Int32)) (
  d_X3_putGap_33 o3.2
  ) (
  m_chk (x0 ∈ zL o3.2 ∧ zK o3.2 x0 = 6) (
  m_cal2 (d_X6_put x0 (32 : Int32) o3.2) (fun r5 S6 =>
  d_X3_putGap_33 S6))
  )
  )
  ))))))))
theorem tt_X3_putGap_0 {Pw : Int32 → ZS → Prop}   {x0 : Nat} {S : ZS} : Tw Pw (d_X3_putGap_0 x0 S) (zt S) (zu S) (fun C T => g_X3_putGap_0 Pw x0 S C T) := by
  unfold d_X3_putGap_0 g_X3_putGap_0
  refine tw_chk (fun _ => ?_)
  refine tw_calf (⟨rfl, rfl⟩ : zt S = zt S ∧ zu S = zu S) (fun o1 co1 => ?_)
  refine tw_bndv (fun v2 => ?_)
  refine tw_chk (fun _ => ?_)
  refine tw_calf co1 (fun o3 co3 => ?_)
  refine tw_if (fun _ => ?_) (fun _ => ?_)
  ·
    exact tw_at co3 (tt_X3_putGap_33)
  ·
    refine tw_if (fun _ => ?_) (fun _ => ?_)
    ·
      exact tw_at co3 (tt_X3_putGap_33)
    ·
      refine tw_if (fun _ => ?_) (fun _ => ?_)
      ·
        exact tw_at co3 (tt_X3_putGap_33)
      ·
        refine tw_chk (fun _ => ?_)
        refine tw_gal (fun Pw9 => tw_at co3 tt_X6_put) (fun r5 S6 => ?_)
        exact tw_at (⟨rfl, rfl⟩ : zt S6 = zt S6 ∧ zu S6 = zu S6) (tt_X3_putGap_33)
def d_X3_putGap (x0 : Nat) (S : ZS) : Option (Int32 × ZS) := d_X3_putGap_0 x0 S
theorem tt_X3_putGap {Pw : Int32 → ZS → Prop} {x0 : Nat} {S : ZS} : Tw Pw (d_X3_putGap x0 S) (zt S) (zu S) (fun C T => g_X3_putGap x0 S C T Pw) := tt_X3_putGap_0
def d_X3_putRemark_0 (x0 : Nat) (x1 : Nat) (S : ZS) : Option (Int32 × ZS) :=
  m_chk (x0 ∈ zL S ∧ zK S x0 = 4) (
  m_cal (zP S 6 x0) (fun b1 =>
  m_chk (b1 ∈ zL S ∧ zK S b1 = 6) (
  m_cal (f_X6_size b1 S) (fun o2 => m_chk (zt o2.2 = zt S ∧ zu o2.2 = zu S) (
  m_if (o2.1 = 0) (
  some (0, o2.2)
  ) (
  m_cal2 (d_X3_putGap x1 o2.2) (fun r4 S5 =>
  m_chk (x1 ∈ zL S5 ∧ zK S5 x1 = 6) (
  m_cal2 (d_X6_put x1 (123 : Int32) S5) (fun r9 S10 =>
  m_chk (x0 ∈ zL S10 ∧ zK S10 x0 = 4) (
  m_cal (zP S10 6 x0) (fun b13 =>
  m_chk (x1 ∈ zL S10 ∧ zK S10 x1 = 6) (
  m_cal2 (d_X6_putAll x1 b13 S10) (fun r15 S16 =>
  m_chk (x1 ∈ zL S16 ∧ zK S16 x1 = 6) (
  m_cal2 (d_X6_put x1 (125 : Int32) S16) (fun r20 S21 =>
  some (0, S21))))))))))
  ))))))
theorem tt_X3_putRemark_0 {Pw : Int32 → ZS → Prop}   {x0 : Nat} {x1 : Nat} {S : ZS} : Tw Pw (d_X3_putRemark_0 x0 x1 S) (zt S) (zu S) (fun C T => g_X3_putRemark_0 Pw x0 x1 S C T) := by
  unfold d_X3_putRemark_0 g_X3_putRemark_0
  refine tw_chk (fun _ => ?_)
  refine tw_calv (fun b1 => ?_)
  refine tw_chk (fun _ => ?_)
  refine tw_calf (⟨rfl, rfl⟩ : zt S = zt S ∧ zu S = zu S) (fun o2 co2 => ?_)
  refine tw_if (fun _ => ?_) (fun _ => ?_)
  ·
    exact tw_ret co2
  ·
    refine tw_gal (fun Pw9 => tw_at co2 tt_X3_putGap) (fun r4 S5 => ?_)
    refine tw_chk (fun _ => ?_)
    refine tw_gal (fun Pw9 => tw_at (⟨rfl, rfl⟩ : zt S5 = zt S5 ∧ zu S5 = zu S5) tt_X6_put) (fun r9 S10 => ?_)
    refine tw_chk (fun _ => ?_)
    refine tw_calv (fun b13 => ?_)
    refine tw_chk (fun _ => ?_)
    refine tw_gal (fun Pw9 => tw_at (⟨rfl, rfl⟩ : zt S10 = zt S10 ∧ zu S10 = zu S10) tt_X6_putAll) (fun r15 S16 => ?_)
    refine tw_chk (fun _ => ?_)
    refine tw_gal (fun Pw9 => tw_at (⟨rfl, rfl⟩ : zt S16 = zt S16 ∧ zu S16 = zu S16) tt_X6_put) (fun r20 S21 => ?_)
    exact tw_ret (⟨rfl, rfl⟩ : zt S21 = zt S21 ∧ zu S21 = zu S21)
def d_X3_putRemark (x0 : Nat) (x1 : Nat) (S : ZS) : Option (Int32 × ZS) := d_X3_putRemark_0 x0 x1 S
theorem tt_X3_putRemark {Pw : Int32 → ZS → Prop} {x0 : Nat} {x1 : Nat} {S : ZS} : Tw Pw (d_X3_putRemark x0 x1 S) (zt S) (zu S) (fun C T => g_X3_putRemark x0 x1 S C T Pw) := tt_X3_putRemark_0
def d_X3_putHead_72 (x0 : Nat) (x1 : Nat) (x2 : Nat) (S : ZS) : Option (Int32 × ZS) :=
  m_chk (x1 ∈ zL S ∧ zK S x1 = 1) (
  m_cal (f_X1_at x1 (0 : Int32) S) (fun o1 => m_chk (zt o1.2 = zt S ∧ zu o1.2 = zu S) (
  m_cal2 (d_X3_putRemark o1.1 x2 o1.2) (fun r3 S4 =>
  m_chk (x0 ∈ zL S4 ∧ zK S4 x0 = 3) (
  m_cal (zP S4 1 x0) (fun b7 =>
  m_chk (b7 ∈ zL S4 ∧ zK S4 b7 = 15) (
  m_chk (¬ ((0 : Int32) < 0 ∨ zN S4 b7 ≤ ((0 : Int32)).toNatClampNeg)) (
  m_cal (zB S4 b7 ((0 : Int32)).toNatClampNeg) (fun b8 =>
  m_chk (x1 ∈ zL S4 ∧ zK S4 x1 = 1) (
  m_cal (zP S4 0 x1) (fun b9 =>
  m_chk (b8 ∈ zL S4 ∧ zK S4 b8 = 0) (
  m_cal (f_X0_copyFrom b8 b9 S4) (fun o10 => m_chk (zt o10.2 = zt S4 ∧ zu o10.2 = zu S4) (
  some (0, o10.2)))))))))))))))
theorem tt_X3_putHead_72 {Pw : Int32 → ZS → Prop}   {x0 : Nat} {x1 : Nat} {x2 : Nat} {S : ZS} : Tw Pw (d_X3_putHead_72 x0 x1 x2 S) (zt S) (zu S) (fun C T => g_X3_putHead_72 Pw x0 x1 x2 S C T) := by
  unfold d_X3_putHead_72 g_X3_putHead_72
  refine tw_chk (fun _ => ?_)
  refine tw_calf (⟨rfl, rfl⟩ : zt S = zt S ∧ zu S = zu S) (fun o1 co1 => ?_)
  refine tw_gal (fun Pw9 => tw_at co1 tt_X3_putRemark) (fun r3 S4 => ?_)
  refine tw_chk (fun _ => ?_)
  refine tw_calv (fun b7 => ?_)
  refine tw_chk (fun _ => ?_)
  refine tw_chk (fun _ => ?_)
  refine tw_calv (fun b8 => ?_)
  refine tw_chk (fun _ => ?_)
  refine tw_calv (fun b9 => ?_)
  refine tw_chk (fun _ => ?_)
  refine tw_calf (⟨rfl, rfl⟩ : zt S4 = zt S4 ∧ zu S4 = zu S4) (fun o10 co10 => ?_)
  exact tw_ret co10
def d_X3_putHead_2s (self2 : Nat → Nat → Nat → Int32 → ZS → Option (Int32 × ZS)) (x0 : Nat) (x1 : Nat) (x2 : Nat) (x3 : Int32) (S : ZS) : Option (Int32 × ZS) :=
  m_chk (x1 ∈ zL S ∧ zK S x1 = 1) (
  m_if ((zI S 5 x1) ≤ x3) (
  m_chk (x1 ∈ zL S ∧ zK S x1 = 1) (
  m_if ((zI S 5 x1) ≤ 0) (
  d_X3_putHead_72 x0 x1 x2 S
  ) (
  m_chk (x2 ∈ zL S ∧ zK S x2 = 6) (
  m_cal2 (d_X6_put x2 (10 : Int32) S) (fun r2 S3 =>
  d_X3_putHead_72 x0 x1 x2 S3))
  ))
  ) (
  m_chk (x1 ∈ zL S ∧ zK S x1 = 1) (
  m_cal2 (d_X1_tagAt x1 x3 S) (fun r7 S8 =>
  m_chk (x2 ∈ zL S8 ∧ zK S8 x2 = 6) (
  m_cal2 (d_X6_put x2 (91 : Int32) S8) (fun r12 S13 =>
  m_chk (r7 ∈ zL S13 ∧ zK S13 r7 = 10) (
  m_cal (zP S13 0 r7) (fun b16 =>
  m_chk (x2 ∈ zL S13 ∧ zK S13 x2 = 6) (
  m_cal2 (d_X6_putAll x2 b16 S13) (fun r18 S19 =>
  m_chk (x2 ∈ zL S19 ∧ zK S19 x2 = 6) (
  m_cal2 (d_X6_putText x2 11 S19) (fun r23 S24 =>
  m_chk (r7 ∈ zL S24 ∧ zK S24 r7 = 10) (
  m_cal (zP S24 1 r7) (fun b27 =>
  m_cal2 (d_X3_putQuoted b27 x2 S24) (fun r29 S30 =>
  m_chk (x2 ∈ zL S30 ∧ zK S30 x2 = 6) (
  m_cal2 (d_X6_putText x2 12 S30) (fun r34 S35 =>
  m_bnd (x3 + (1 : Int32)) (fun v38 =>
  self2 x0 x1 x2 v38 S35))))))))))))))))
  ))
theorem tt_X3_putHead_2s {Pw : Int32 → ZS → Prop} {self2 : Nat → Nat → Nat → Int32 → ZS → Option (Int32 × ZS)} {self2g : Nat → Nat → Nat → Int32 → ZS → Nat → Nat → Prop} (hself2 : ∀ (y0 : Nat) (y1 : Nat) (y2 : Nat) (y3 : Int32) (S : ZS), Tw Pw (self2 y0 y1 y2 y3 S) (zt S) (zu S) (fun C T => self2g y0 y1 y2 y3 S C T)) {x0 : Nat} {x1 : Nat} {x2 : Nat} {x3 : Int32} {S : ZS} : Tw Pw (d_X3_putHead_2s self2 x0 x1 x2 x3 S) (zt S) (zu S) (fun C T => g_X3_putHead_2s Pw self2g x0 x1 x2 x3 S C T) := by
  unfold d_X3_putHead_2s g_X3_putHead_2s
  refine tw_chk (fun _ => ?_)
  refine tw_if (fun _ => ?_) (fun _ => ?_)
  ·
    refine tw_chk (fun _ => ?_)
    refine tw_if (fun _ => ?_) (fun _ => ?_)
    ·
      exact tw_at (⟨rfl, rfl⟩ : zt S = zt S ∧ zu S = zu S) (tt_X3_putHead_72)
    ·
      refine tw_chk (fun _ => ?_)
      refine tw_gal (fun Pw9 => tw_at (⟨rfl, rfl⟩ : zt S = zt S ∧ zu S = zu S) tt_X6_put) (fun r2 S3 => ?_)
      exact tw_at (⟨rfl, rfl⟩ : zt S3 = zt S3 ∧ zu S3 = zu S3) (tt_X3_putHead_72)
  ·
    refine tw_chk (fun _ => ?_)
    refine tw_gal (fun Pw9 => tw_at (⟨rfl, rfl⟩ : zt S = zt S ∧ zu S = zu S) tt_X1_tagAt) (fun r7 S8 => ?_)
    refine tw_chk (fun _ => ?_)
    refine tw_gal (fun Pw9 => tw_at (⟨rfl, rfl⟩ : zt S8 = zt S8 ∧ zu S8 = zu S8) tt_X6_put) (fun r12 S13 => ?_)
    refine tw_chk (fun _ => ?_)
    refine tw_calv (fun b16 => ?_)
    refine tw_chk (fun _ => ?_)
    refine tw_gal (fun Pw9 => tw_at (⟨rfl, rfl⟩ : zt S13 = zt S13 ∧ zu S13 = zu S13) tt_X6_putAll) (fun r18 S19 => ?_)
    refine tw_chk (fun _ => ?_)
    refine tw_gal (fun Pw9 => tw_at (⟨rfl, rfl⟩ : zt S19 = zt S19 ∧ zu S19 = zu S19) tt_X6_putText) (fun r23 S24 => ?_)
    refine tw_chk (fun _ => ?_)
    refine tw_calv (fun b27 => ?_)
    refine tw_gal (fun Pw9 => tw_at (⟨rfl, rfl⟩ : zt S24 = zt S24 ∧ zu S24 = zu S24) tt_X3_putQuoted) (fun r29 S30 => ?_)
    refine tw_chk (fun _ => ?_)
    refine tw_gal (fun Pw9 => tw_at (⟨rfl, rfl⟩ : zt S30 = zt S30 ∧ zu S30 = zu S30) tt_X6_putText) (fun r34 S35 => ?_)
    refine tw_bndv (fun v38 => ?_)
    exact tw_at (⟨rfl, rfl⟩ : zt S35 = zt S35 ∧ zu S35 = zu S35) (hself2 _ _ _ _ _)
def d_X3_putHead_2  : Nat → Nat → Nat → Nat → Int32 → ZS → Option (Int32 × ZS)
  | 0 => fun _ _ _ _ _ => none
  | n + 1 => d_X3_putHead_2s  (d_X3_putHead_2  n)
theorem tt_X3_putHead_2 {Pw : Int32 → ZS → Prop}   {n : Nat} : ∀ {z0 : Nat} {z1 : Nat} {z2 : Nat} {z3 : Int32} {S : ZS}, Tw Pw (d_X3_putHead_2  n z0 z1 z2 z3 S) (zt S) (zu S) (fun C T => g_X3_putHead_2 Pw  n z0 z1 z2 z3 S C T) := by
  induction n with
  | zero => intro z0 z1 z2 z3 S; exact tw_none
  | succ n ih => intro z0 z1 z2 z3 S; exact tt_X3_putHead_2s  (fun _ _ _ _ _ => ih)
def d_X3_putHead_0 (x0 : Nat) (x1 : Nat) (x2 : Nat) (S : ZS) : Option (Int32 × ZS) :=
  d_X3_putHead_2 mFuel x0 x1 x2 (0 : Int32) S
theorem tt_X3_putHead_0 {Pw : Int32 → ZS → Prop}   {x0 : Nat} {x1 : Nat} {x2 : Nat} {S : ZS} : Tw Pw (d_X3_putHead_0 x0 x1 x2 S) (zt S) (zu S) (fun C T => g_X3_putHead_0 Pw x0 x1 x2 S C T) := by
  unfold d_X3_putHead_0 g_X3_putHead_0
  exact tw_at (⟨rfl, rfl⟩ : zt S = zt S ∧ zu S = zu S) (tt_X3_putHead_2)
def d_X3_putHead (x0 : Nat) (x1 : Nat) (x2 : Nat) (S : ZS) : Option (Int32 × ZS) := d_X3_putHead_0 x0 x1 x2 S
theorem tt_X3_putHead {Pw : Int32 → ZS → Prop} {x0 : Nat} {x1 : Nat} {x2 : Nat} {S : ZS} : Tw Pw (d_X3_putHead x0 x1 x2 S) (zt S) (zu S) (fun C T => g_X3_putHead x0 x1 x2 S C T Pw) := tt_X3_putHead_0
def d_X3_putEnd_0 (x1 : Nat) (x2 : Nat) (S : ZS) : Option (Int32 × ZS) :=
  m_cal2 (d_X3_putGap x2 S) (fun r2 S3 =>
  m_chk (x1 ∈ zL S3 ∧ zK S3 x1 = 1) (
  m_cal (f_X11_resultSign (zI S3 6 x1) S3) (fun o6 => m_chk (zt o6.2 = zt S3 ∧ zu o6.2 = zu S3) (
  m_chk (x2 ∈ zL o6.2 ∧ zK o6.2 x2 = 6) (
  m_cal2 (d_X6_putText x2 o6.1 o6.2) (fun r8 S9 =>
  some (0, S9)))))))
theorem tt_X3_putEnd_0 {Pw : Int32 → ZS → Prop}   {x1 : Nat} {x2 : Nat} {S : ZS} : Tw Pw (d_X3_putEnd_0 x1 x2 S) (zt S) (zu S) (fun C T => g_X3_putEnd_0 Pw x1 x2 S C T) := by
  unfold d_X3_putEnd_0 g_X3_putEnd_0
  refine tw_gal (fun Pw9 => tw_at (⟨rfl, rfl⟩ : zt S = zt S ∧ zu S = zu S) tt_X3_putGap) (fun r2 S3 => ?_)
  refine tw_chk (fun _ => ?_)
  refine tw_calf (⟨rfl, rfl⟩ : zt S3 = zt S3 ∧ zu S3 = zu S3) (fun o6 co6 => ?_)
  refine tw_chk (fun _ => ?_)
  refine tw_gal (fun Pw9 => tw_at co6 tt_X6_putText) (fun r8 S9 => ?_)
  exact tw_ret (⟨rfl, rfl⟩ : zt S9 = zt S9 ∧ zu S9 = zu S9)
def d_X3_putEnd (x0 : Nat) (x1 : Nat) (x2 : Nat) (S : ZS) : Option (Int32 × ZS) := d_X3_putEnd_0 x1 x2 S
theorem tt_X3_putEnd {Pw : Int32 → ZS → Prop} {x0 : Nat} {x1 : Nat} {x2 : Nat} {S : ZS} : Tw Pw (d_X3_putEnd x0 x1 x2 S) (zt S) (zu S) (fun C T => g_X3_putEnd x0 x1 x2 S C T Pw) := tt_X3_putEnd_0
def d_X6_putNumber_29s (self29 : Nat → Int32 → Int32 → ZS → Option (Int32 × ZS)) (x0 : Nat) (x1 : Int32) (x2 : Int32) (S : ZS) : Option (Int32 × ZS) :=
  m_if (x2 ≤ 0) (
  some (0, S)
  ) (
  m_chk (¬ x2 = 0) (
  m_bnd (x1 / x2) (fun v1 =>
  m_bnd (v1 - v1 / (10 : Int32) * (10 : Int32)) (fun v2 =>
  m_bnd ((48 : Int32) + v2) (fun v3 =>
  m_bnd ((v3.toUInt32 % 65536).toInt32) (fun v4 =>
  m_chk (x0 ∈ zL S ∧ zK S x0 = 6) (
  m_cal2 (d_X6_put x0 v4 S) (fun r6 S7 =>
  m_bnd (x2 / (10 : Int32)) (fun v10 =>
  self29 x0 x1 v10 S7))))))))
  )
theorem tt_X6_putNumber_29s {Pw : Int32 → ZS → Prop} {self29 : Nat → Int32 → Int32 → ZS → Option (Int32 × ZS)} {self29g : Nat → Int32 → Int32 → ZS → Nat → Nat → Prop} (hself29 : ∀ (y0 : Nat) (y1 : Int32) (y2 : Int32) (S : ZS), Tw Pw (self29 y0 y1 y2 S) (zt S) (zu S) (fun C T => self29g y0 y1 y2 S C T)) {x0 : Nat} {x1 : Int32} {x2 : Int32} {S : ZS} : Tw Pw (d_X6_putNumber_29s self29 x0 x1 x2 S) (zt S) (zu S) (fun C T => g_X6_putNumber_29s Pw self29g x0 x1 x2 S C T) := by
  unfold d_X6_putNumber_29s g_X6_putNumber_29s
  refine tw_if (fun _ => ?_) (fun _ => ?_)
  ·
    exact tw_ret (⟨rfl, rfl⟩ : zt S = zt S ∧ zu S = zu S)
  ·
    refine tw_chk (fun _ => ?_)
    refine tw_bndv (fun v1 => ?_)
    refine tw_bndv (fun v2 => ?_)
    refine tw_bndv (fun v3 => ?_)
    refine tw_bndv (fun v4 => ?_)
    refine tw_chk (fun _ => ?_)
    refine tw_gal (fun Pw9 => tw_at (⟨rfl, rfl⟩ : zt S = zt S ∧ zu S = zu S) tt_X6_put) (fun r6 S7 => ?_)
    refine tw_bndv (fun v10 => ?_)
    exact tw_at (⟨rfl, rfl⟩ : zt S7 = zt S7 ∧ zu S7 = zu S7) (hself29 _ _ _ _)
def d_X6_putNumber_29  : Nat → Nat → Int32 → Int32 → ZS → Option (Int32 × ZS)
  | 0 => fun _ _ _ _ => none
  | n + 1 => d_X6_putNumber_29s  (d_X6_putNumber_29  n)
theorem tt_X6_putNumber_29 {Pw : Int32 → ZS → Prop}   {n : Nat} : ∀ {z0 : Nat} {z1 : Int32} {z2 : Int32} {S : ZS}, Tw Pw (d_X6_putNumber_29  n z0 z1 z2 S) (zt S) (zu S) (fun C T => g_X6_putNumber_29 Pw  n z0 z1 z2 S C T) := by
  induction n with
  | zero => intro z0 z1 z2 S; exact tw_none
  | succ n ih => intro z0 z1 z2 S; exact tt_X6_putNumber_29s  (fun _ _ _ _ => ih)
def d_X6_putNumber_4s (self4 : Nat → Int32 → Int32 → Int32 → ZS → Option (Int32 × ZS)) (x0 : Nat) (x1 : Int32) (x2 : Int32) (x3 : Int32) (S : ZS) : Option (Int32 × ZS) :=
  m_if ((9 : Int32) ≤ x3) (
  d_X6_putNumber_29 mFuel x0 x1 x2 S
  ) (
  m_chk (¬ x2 = 0) (
  m_bnd (x1 / x2) (fun v1 =>
  m_if (v1 < (10 : Int32)) (
  d_X6_putNumber_29 mFuel x0 x1 x2 S
  ) (
  m_bnd (x2 * (10 : Int32)) (fun v2 =>
  m_bnd (x3 + (1 : Int32)) (fun v3 =>
  self4 x0 x1 v2 v3 S))
  )))
  )
theorem tt_X6_putNumber_4s {Pw : Int32 → ZS → Prop} {self4 : Nat → Int32 → Int32 → Int32 → ZS → Option (Int32 × ZS)} {self4g : Nat → Int32 → Int32 → Int32 → ZS → Nat → Nat → Prop} (hself4 : ∀ (y0 : Nat) (y1 : Int32) (y2 : Int32) (y3 : Int32) (S : ZS), Tw Pw (self4 y0 y1 y2 y3 S) (zt S) (zu S) (fun C T => self4g y0 y1 y2 y3 S C T)) {x0 : Nat} {x1 : Int32} {x2 : Int32} {x3 : Int32} {S : ZS} : Tw Pw (d_X6_putNumber_4s self4 x0 x1 x2 x3 S) (zt S) (zu S) (fun C T => g_X6_putNumber_4s Pw self4g x0 x1 x2 x3 S C T) := by
  unfold d_X6_putNumber_4s g_X6_putNumber_4s
  refine tw_if (fun _ => ?_) (fun _ => ?_)
  ·
    exact tw_at (⟨rfl, rfl⟩ : zt S = zt S ∧ zu S = zu S) (tt_X6_putNumber_29)
  ·
    refine tw_chk (fun _ => ?_)
    refine tw_bndv (fun v1 => ?_)
    refine tw_if (fun _ => ?_) (fun _ => ?_)
    ·
      exact tw_at (⟨rfl, rfl⟩ : zt S = zt S ∧ zu S = zu S) (tt_X6_putNumber_29)
    ·
      refine tw_bndv (fun v2 => ?_)
      refine tw_bndv (fun v3 => ?_)
      exact tw_at (⟨rfl, rfl⟩ : zt S = zt S ∧ zu S = zu S) (hself4 _ _ _ _ _)
def d_X6_putNumber_4  : Nat → Nat → Int32 → Int32 → Int32 → ZS → Option (Int32 × ZS)
  | 0 => fun _ _ _ _ _ => none
  | n + 1 => d_X6_putNumber_4s  (d_X6_putNumber_4  n)
theorem tt_X6_putNumber_4 {Pw : Int32 → ZS → Prop}   {n : Nat} : ∀ {z0 : Nat} {z1 : Int32} {z2 : Int32} {z3 : Int32} {S : ZS}, Tw Pw (d_X6_putNumber_4  n z0 z1 z2 z3 S) (zt S) (zu S) (fun C T => g_X6_putNumber_4 Pw  n z0 z1 z2 z3 S C T) := by
  induction n with
  | zero => intro z0 z1 z2 z3 S; exact tw_none
  | succ n ih => intro z0 z1 z2 z3 S; exact tt_X6_putNumber_4s  (fun _ _ _ _ _ => ih)
def d_X6_putNumber_0 (x0 : Nat) (x1 : Int32) (S : ZS) : Option (Int32 × ZS) :=
  d_X6_putNumber_4 mFuel x0 x1 (1 : Int32) (0 : Int32) S
theorem tt_X6_putNumber_0 {Pw : Int32 → ZS → Prop}   {x0 : Nat} {x1 : Int32} {S : ZS} : Tw Pw (d_X6_putNumber_0 x0 x1 S) (zt S) (zu S) (fun C T => g_X6_putNumber_0 Pw x0 x1 S C T) := by
  unfold d_X6_putNumber_0 g_X6_putNumber_0
  exact tw_at (⟨rfl, rfl⟩ : zt S = zt S ∧ zu S = zu S) (tt_X6_putNumber_4)
def d_X6_putNumber (x0 : Nat) (x1 : Int32) (S : ZS) : Option (Int32 × ZS) := d_X6_putNumber_0 x0 x1 S
theorem tt_X6_putNumber {Pw : Int32 → ZS → Prop} {x0 : Nat} {x1 : Int32} {S : ZS} : Tw Pw (d_X6_putNumber x0 x1 S) (zt S) (zu S) (fun C T => g_X6_putNumber x0 x1 S C T Pw) := tt_X6_putNumber_0
def d_X9_putApart_162 (S : ZS) : Option (Int32 × ZS) :=
  some (0, S)
theorem tt_X9_putApart_162 {Pw : Int32 → ZS → Prop}   {S : ZS} : Tw Pw (d_X9_putApart_162 S) (zt S) (zu S) (fun C T => g_X9_putApart_162 Pw S C T) := by
  unfold d_X9_putApart_162 g_X9_putApart_162
  exact tw_ret (⟨rfl, rfl⟩ : zt S = zt S ∧ zu S = zu S)
def d_X9_putApart_148 (x2 : Int32) (x4 : Nat) (x6 : Int32) (S : ZS) : Option (Int32 × ZS) :=
  m_if (x6 = 0) (
  d_X9_putApart_162 S
  ) (
  m_cal (f_X11_rankDigit x2 S) (fun o1 => m_chk (zt o1.2 = zt S ∧ zu o1.2 = zu S) (
  m_chk (x4 ∈ zL o1.2 ∧ zK o1.2 x4 = 6) (
  m_cal2 (d_X6_put x4 o1.1 o1.2) (fun r3 S4 =>
  d_X9_putApart_162 S4))))
  )
theorem tt_X9_putApart_148 {Pw : Int32 → ZS → Prop}   {x2 : Int32} {x4 : Nat} {x6 : Int32} {S : ZS} : Tw Pw (d_X9_putApart_148 x2 x4 x6 S) (zt S) (zu S) (fun C T => g_X9_putApart_148 Pw x2 x4 x6 S C T) := by
  unfold d_X9_putApart_148 g_X9_putApart_148
  refine tw_if (fun _ => ?_) (fun _ => ?_)
  ·
    exact tw_at (⟨rfl, rfl⟩ : zt S = zt S ∧ zu S = zu S) (tt_X9_putApart_162)
  ·
    refine tw_calf (⟨rfl, rfl⟩ : zt S = zt S ∧ zu S = zu S) (fun o1 co1 => ?_)
    refine tw_chk (fun _ => ?_)
    refine tw_gal (fun Pw9 => tw_at co1 tt_X6_put) (fun r3 S4 => ?_)
    exact tw_at (⟨rfl, rfl⟩ : zt S4 = zt S4 ∧ zu S4 = zu S4) (tt_X9_putApart_162)
def d_X9_putApart_139 (x2 : Int32) (x4 : Nat) (x6 : Int32) (S : ZS) : Option (Int32 × ZS) :=
  m_cal (f_X11_fileLetter x2 S) (fun o1 => m_chk (zt o1.2 = zt S ∧ zu o1.2 = zu S) (
  m_chk (x4 ∈ zL o1.2 ∧ zK o1.2 x4 = 6) (
  m_cal2 (d_X6_put x4 o1.1 o1.2) (fun r3 S4 =>
  d_X9_putApart_148 x2 x4 x6 S4))))
theorem tt_X9_putApart_139 {Pw : Int32 → ZS → Prop}   {x2 : Int32} {x4 : Nat} {x6 : Int32} {S : ZS} : Tw Pw (d_X9_putApart_139 x2 x4 x6 S) (zt S) (zu S) (fun C T => g_X9_putApart_139 Pw x2 x4 x6 S C T) := by
  unfold d_X9_putApart_139 g_X9_putApart_139
  refine tw_calf (⟨rfl, rfl⟩ : zt S = zt S ∧ zu S = zu S) (fun o1 co1 => ?_)
  refine tw_chk (fun _ => ?_)
  refine tw_gal (fun Pw9 => tw_at co1 tt_X6_put) (fun r3 S4 => ?_)
  exact tw_at (⟨rfl, rfl⟩ : zt S4 = zt S4 ∧ zu S4 = zu S4) (tt_X9_putApart_148)
def d_X9_putApart_118 (self12 : Nat → Nat → Int32 → Int32 → Nat → Int32 → Int32 → Int32 → Int32 → ZS → Option (Int32 × ZS)) (x0 : Nat) (x1 : Nat) (x2 : Int32) (x3 : Int32) (x4 : Nat) (x5 : Int32) (x6 : Int32) (x7 : Int32) (x8 : Int32) (S : ZS) : Option (Int32 × ZS) :=
  m_bnd (x8 + (1 : Int32)) (fun v1 =>
  self12 x0 x1 x2 x3 x4 x5 x6 x7 v1 S)
theorem tt_X9_putApart_118 {Pw : Int32 → ZS → Prop} {self12 : Nat → Nat → Int32 → Int32 → Nat → Int32 → Int32 → Int32 → Int32 → ZS → Option (Int32 × ZS)} {self12g : Nat → Nat → Int32 → Int32 → Nat → Int32 → Int32 → Int32 → Int32 → ZS → Nat → Nat → Prop} (hself12 : ∀ (y0 : Nat) (y1 : Nat) (y2 : Int32) (y3 : Int32) (y4 : Nat) (y5 : Int32) (y6 : Int32) (y7 : Int32) (y8 : Int32) (S : ZS), Tw Pw (self12 y0 y1 y2 y3 y4 y5 y6 y7 y8 S) (zt S) (zu S) (fun C T => self12g y0 y1 y2 y3 y4 y5 y6 y7 y8 S C T)) {x0 : Nat} {x1 : Nat} {x2 : Int32} {x3 : Int32} {x4 : Nat} {x5 : Int32} {x6 : Int32} {x7 : Int32} {x8 : Int32} {S : ZS} : Tw Pw (d_X9_putApart_118 self12 x0 x1 x2 x3 x4 x5 x6 x7 x8 S) (zt S) (zu S) (fun C T => g_X9_putApart_118 Pw self12g x0 x1 x2 x3 x4 x5 x6 x7 x8 S C T) := by
  unfold d_X9_putApart_118 g_X9_putApart_118
  refine tw_bndv (fun v1 => ?_)
  exact tw_at (⟨rfl, rfl⟩ : zt S = zt S ∧ zu S = zu S) (hself12 _ _ _ _ _ _ _ _ _ _)
def d_X9_putApart_116 (self12 : Nat → Nat → Int32 → Int32 → Nat → Int32 → Int32 → Int32 → Int32 → ZS → Option (Int32 × ZS)) (x0 : Nat) (x1 : Nat) (x2 : Int32) (x3 : Int32) (x4 : Nat) (x5 : Int32) (x6 : Int32) (x8 : Int32) (t0 : Int32) (S : ZS) : Option (Int32 × ZS) :=
  d_X9_putApart_118 self12 x0 x1 x2 x3 x4 x5 x6 t0 x8 S
theorem tt_X9_putApart_116 {Pw : Int32 → ZS → Prop} {self12 : Nat → Nat → Int32 → Int32 → Nat → Int32 → Int32 → Int32 → Int32 → ZS → Option (Int32 × ZS)} {self12g : Nat → Nat → Int32 → Int32 → Nat → Int32 → Int32 → Int32 → Int32 → ZS → Nat → Nat → Prop} (hself12 : ∀ (y0 : Nat) (y1 : Nat) (y2 : Int32) (y3 : Int32) (y4 : Nat) (y5 : Int32) (y6 : Int32) (y7 : Int32) (y8 : Int32) (S : ZS), Tw Pw (self12 y0 y1 y2 y3 y4 y5 y6 y7 y8 S) (zt S) (zu S) (fun C T => self12g y0 y1 y2 y3 y4 y5 y6 y7 y8 S C T)) {x0 : Nat} {x1 : Nat} {x2 : Int32} {x3 : Int32} {x4 : Nat} {x5 : Int32} {x6 : Int32} {x8 : Int32} {t0 : Int32} {S : ZS} : Tw Pw (d_X9_putApart_116 self12 x0 x1 x2 x3 x4 x5 x6 x8 t0 S) (zt S) (zu S) (fun C T => g_X9_putApart_116 Pw self12g x0 x1 x2 x3 x4 x5 x6 x8 t0 S C T) := by
  unfold d_X9_putApart_116 g_X9_putApart_116
  exact tw_at (⟨rfl, rfl⟩ : zt S = zt S ∧ zu S = zu S) (tt_X9_putApart_118 hself12)
def d_X9_putApart_111 (self12 : Nat → Nat → Int32 → Int32 → Nat → Int32 → Int32 → Int32 → Int32 → ZS → Option (Int32 × ZS)) (x0 : Nat) (x1 : Nat) (x2 : Int32) (x3 : Int32) (x4 : Nat) (x5 : Int32) (x6 : Int32) (x8 : Int32) (S : ZS) : Option (Int32 × ZS) :=
  d_X9_putApart_116 self12 x0 x1 x2 x3 x4 x5 x6 x8 (1 : Int32) S
theorem tt_X9_putApart_111 {Pw : Int32 → ZS → Prop} {self12 : Nat → Nat → Int32 → Int32 → Nat → Int32 → Int32 → Int32 → Int32 → ZS → Option (Int32 × ZS)} {self12g : Nat → Nat → Int32 → Int32 → Nat → Int32 → Int32 → Int32 → Int32 → ZS → Nat → Nat → Prop} (hself12 : ∀ (y0 : Nat) (y1 : Nat) (y2 : Int32) (y3 : Int32) (y4 : Nat) (y5 : Int32) (y6 : Int32) (y7 : Int32) (y8 : Int32) (S : ZS), Tw Pw (self12 y0 y1 y2 y3 y4 y5 y6 y7 y8 S) (zt S) (zu S) (fun C T => self12g y0 y1 y2 y3 y4 y5 y6 y7 y8 S C T)) {x0 : Nat} {x1 : Nat} {x2 : Int32} {x3 : Int32} {x4 : Nat} {x5 : Int32} {x6 : Int32} {x8 : Int32} {S : ZS} : Tw Pw (d_X9_putApart_111 self12 x0 x1 x2 x3 x4 x5 x6 x8 S) (zt S) (zu S) (fun C T => g_X9_putApart_111 Pw self12g x0 x1 x2 x3 x4 x5 x6 x8 S C T) := by
  unfold d_X9_putApart_111 g_X9_putApart_111
  exact tw_at (⟨rfl, rfl⟩ : zt S = zt S ∧ zu S = zu S) (tt_X9_putApart_116 hself12)
def d_X9_putApart_94 (self12 : Nat → Nat → Int32 → Int32 → Nat → Int32 → Int32 → Int32 → Int32 → ZS → Option (Int32 × ZS)) (x0 : Nat) (x1 : Nat) (x2 : Int32) (x3 : Int32) (x4 : Nat) (x5 : Int32) (x7 : Int32) (x8 : Int32) (t0 : Int32) (S : ZS) : Option (Int32 × ZS) :=
  m_if (x7 = 0) (
  m_bnd (x8 >>> ((3 : Int32) &&& 31)) (fun v1 =>
  m_bnd (x2 >>> ((3 : Int32) &&& 31)) (fun v2 =>
  m_if (v1 = v2) (
  d_X9_putApart_111 self12 x0 x1 x2 x3 x4 x5 t0 x8 S
  ) (
  d_X9_putApart_116 self12 x0 x1 x2 x3 x4 x5 t0 x8 (0 : Int32) S
  )))
  ) (
  d_X9_putApart_111 self12 x0 x1 x2 x3 x4 x5 t0 x8 S
  )
theorem tt_X9_putApart_94 {Pw : Int32 → ZS → Prop} {self12 : Nat → Nat → Int32 → Int32 → Nat → Int32 → Int32 → Int32 → Int32 → ZS → Option (Int32 × ZS)} {self12g : Nat → Nat → Int32 → Int32 → Nat → Int32 → Int32 → Int32 → Int32 → ZS → Nat → Nat → Prop} (hself12 : ∀ (y0 : Nat) (y1 : Nat) (y2 : Int32) (y3 : Int32) (y4 : Nat) (y5 : Int32) (y6 : Int32) (y7 : Int32) (y8 : Int32) (S : ZS), Tw Pw (self12 y0 y1 y2 y3 y4 y5 y6 y7 y8 S) (zt S) (zu S) (fun C T => self12g y0 y1 y2 y3 y4 y5 y6 y7 y8 S C T)) {x0 : Nat} {x1 : Nat} {x2 : Int32} {x3 : Int32} {x4 : Nat} {x5 : Int32} {x7 : Int32} {x8 : Int32} {t0 : Int32} {S : ZS} : Tw Pw (d_X9_putApart_94 self12 x0 x1 x2 x3 x4 x5 x7 x8 t0 S) (zt S) (zu S) (fun C T => g_X9_putApart_94 Pw self12g x0 x1 x2 x3 x4 x5 x7 x8 t0 S C T) := by
  unfold d_X9_putApart_94 g_X9_putApart_94
  refine tw_if (fun _ => ?_) (fun _ => ?_)
  ·
    refine tw_bndv (fun v1 => ?_)
    refine tw_bndv (fun v2 => ?_)
    refine tw_if (fun _ => ?_) (fun _ => ?_)
    ·
      exact tw_at (⟨rfl, rfl⟩ : zt S = zt S ∧ zu S = zu S) (tt_X9_putApart_111 hself12)
    ·
      exact tw_at (⟨rfl, rfl⟩ : zt S = zt S ∧ zu S = zu S) (tt_X9_putApart_116 hself12)
  ·
    exact tw_at (⟨rfl, rfl⟩ : zt S = zt S ∧ zu S = zu S) (tt_X9_putApart_111 hself12)
def d_X9_putApart_89 (self12 : Nat → Nat → Int32 → Int32 → Nat → Int32 → Int32 → Int32 → Int32 → ZS → Option (Int32 × ZS)) (x0 : Nat) (x1 : Nat) (x2 : Int32) (x3 : Int32) (x4 : Nat) (x5 : Int32) (x7 : Int32) (x8 : Int32) (S : ZS) : Option (Int32 × ZS) :=
  d_X9_putApart_94 self12 x0 x1 x2 x3 x4 x5 x7 x8 (1 : Int32) S
theorem tt_X9_putApart_89 {Pw : Int32 → ZS → Prop} {self12 : Nat → Nat → Int32 → Int32 → Nat → Int32 → Int32 → Int32 → Int32 → ZS → Option (Int32 × ZS)} {self12g : Nat → Nat → Int32 → Int32 → Nat → Int32 → Int32 → Int32 → Int32 → ZS → Nat → Nat → Prop} (hself12 : ∀ (y0 : Nat) (y1 : Nat) (y2 : Int32) (y3 : Int32) (y4 : Nat) (y5 : Int32) (y6 : Int32) (y7 : Int32) (y8 : Int32) (S : ZS), Tw Pw (self12 y0 y1 y2 y3 y4 y5 y6 y7 y8 S) (zt S) (zu S) (fun C T => self12g y0 y1 y2 y3 y4 y5 y6 y7 y8 S C T)) {x0 : Nat} {x1 : Nat} {x2 : Int32} {x3 : Int32} {x4 : Nat} {x5 : Int32} {x7 : Int32} {x8 : Int32} {S : ZS} : Tw Pw (d_X9_putApart_89 self12 x0 x1 x2 x3 x4 x5 x7 x8 S) (zt S) (zu S) (fun C T => g_X9_putApart_89 Pw self12g x0 x1 x2 x3 x4 x5 x7 x8 S C T) := by
  unfold d_X9_putApart_89 g_X9_putApart_89
  exact tw_at (⟨rfl, rfl⟩ : zt S = zt S ∧ zu S = zu S) (tt_X9_putApart_94 hself12)
def d_X9_putApart_12s (self12 : Nat → Nat → Int32 → Int32 → Nat → Int32 → Int32 → Int32 → Int32 → ZS → Option (Int32 × ZS)) (x0 : Nat) (x1 : Nat) (x2 : Int32) (x3 : Int32) (x4 : Nat) (x5 : Int32) (x6 : Int32) (x7 : Int32) (x8 : Int32) (S : ZS) : Option (Int32 × ZS) :=
  m_if ((64 : Int32) ≤ x8) (
  m_if (x5 = 0) (
  d_X9_putApart_148 x2 x4 x6 S
  ) (
  m_if (x6 = 0) (
  d_X9_putApart_139 x2 x4 x6 S
  ) (
  m_if (x7 = 0) (
  d_X9_putApart_148 x2 x4 x6 S
  ) (
  d_X9_putApart_139 x2 x4 x6 S
  )
  )
  )
  ) (
  m_if (x8 = x2) (
  d_X9_putApart_118 self12 x0 x1 x2 x3 x4 x5 x6 x7 x8 S
  ) (
  m_chk (x1 ∈ zL S ∧ zK S x1 = 0) (
  m_cal (zP S 0 x1) (fun b1 =>
  m_chk (b1 ∈ zL S ∧ zK S b1 = 14) (
  m_chk (¬ (x8 < 0 ∨ zN S b1 ≤ (x8).toNatClampNeg)) (
  m_bnd (zA S b1 (x8).toNatClampNeg) (fun v2 =>
  m_chk (x1 ∈ zL S ∧ zK S x1 = 0) (
  m_cal (zP S 0 x1) (fun b3 =>
  m_chk (b3 ∈ zL S ∧ zK S b3 = 14) (
  m_chk (¬ (x2 < 0 ∨ zN S b3 ≤ (x2).toNatClampNeg)) (
  m_bnd (zA S b3 (x2).toNatClampNeg) (fun v4 =>
  m_if (v2 = v4) (
  m_chk (x1 ∈ zL S ∧ zK S x1 = 0) (
  m_cal (f_X0_reaches x1 x8 x3 S) (fun o5 => m_chk (zt o5.2 = zt S ∧ zu o5.2 = zu S) (
  m_if (o5.1 = 0) (
  d_X9_putApart_118 self12 x0 x1 x2 x3 x4 x5 x6 x7 x8 o5.2
  ) (
  m_chk (x0 ∈ zL o5.2 ∧ zK o5.2 x0 = 9) (
  m_cal (zP o5.2 0 x0) (fun b6 =>
  m_bnd ((64 : Int32) * x3) (fun v7 =>
  m_bnd (x8 + v7) (fun v8 =>
  m_chk (b6 ∈ zL o5.2 ∧ zK o5.2 b6 = 7) (
  m_cal (f_X7_isSafe b6 x1 v8 o5.2) (fun o9 => m_chk (zt o9.2 = zt o5.2 ∧ zu o9.2 = zu o5.2) (
  m_if (o9.1 = 0) (
  d_X9_putApart_118 self12 x0 x1 x2 x3 x4 x5 x6 x7 x8 o9.2
  ) (
  m_if (x6 = 0) (
  m_bnd (x8 &&& (7 : Int32)) (fun v10 =>
  m_bnd (x2 &&& (7 : Int32)) (fun v11 =>
  m_if (v10 = v11) (
  d_X9_putApart_89 self12 x0 x1 x2 x3 x4 (1 : Int32) x7 x8 o9.2
  ) (
  d_X9_putApart_94 self12 x0 x1 x2 x3 x4 (1 : Int32) x7 x8 (0 : Int32) o9.2
  )))
  ) (
  d_X9_putApart_89 self12 x0 x1 x2 x3 x4 (1 : Int32) x7 x8 o9.2
  )
  ))))))))
  ))))
  ) (
  d_X9_putApart_118 self12 x0 x1 x2 x3 x4 x5 x6 x7 x8 S
  )))))))))))
  )
  )
theorem tt_X9_putApart_12s {Pw : Int32 → ZS → Prop} {self12 : Nat → Nat → Int32 → Int32 → Nat → Int32 → Int32 → Int32 → Int32 → ZS → Option (Int32 × ZS)} {self12g : Nat → Nat → Int32 → Int32 → Nat → Int32 → Int32 → Int32 → Int32 → ZS → Nat → Nat → Prop} (hself12 : ∀ (y0 : Nat) (y1 : Nat) (y2 : Int32) (y3 : Int32) (y4 : Nat) (y5 : Int32) (y6 : Int32) (y7 : Int32) (y8 : Int32) (S : ZS), Tw Pw (self12 y0 y1 y2 y3 y4 y5 y6 y7 y8 S) (zt S) (zu S) (fun C T => self12g y0 y1 y2 y3 y4 y5 y6 y7 y8 S C T)) {x0 : Nat} {x1 : Nat} {x2 : Int32} {x3 : Int32} {x4 : Nat} {x5 : Int32} {x6 : Int32} {x7 : Int32} {x8 : Int32} {S : ZS} : Tw Pw (d_X9_putApart_12s self12 x0 x1 x2 x3 x4 x5 x6 x7 x8 S) (zt S) (zu S) (fun C T => g_X9_putApart_12s Pw self12g x0 x1 x2 x3 x4 x5 x6 x7 x8 S C T) := by
  unfold d_X9_putApart_12s g_X9_putApart_12s
  refine tw_if (fun _ => ?_) (fun _ => ?_)
  ·
    refine tw_if (fun _ => ?_) (fun _ => ?_)
    ·
      exact tw_at (⟨rfl, rfl⟩ : zt S = zt S ∧ zu S = zu S) (tt_X9_putApart_148)
    ·
      refine tw_if (fun _ => ?_) (fun _ => ?_)
      ·
        exact tw_at (⟨rfl, rfl⟩ : zt S = zt S ∧ zu S = zu S) (tt_X9_putApart_139)
      ·
        refine tw_if (fun _ => ?_) (fun _ => ?_)
        ·
          exact tw_at (⟨rfl, rfl⟩ : zt S = zt S ∧ zu S = zu S) (tt_X9_putApart_148)
        ·
          exact tw_at (⟨rfl, rfl⟩ : zt S = zt S ∧ zu S = zu S) (tt_X9_putApart_139)
  ·
    refine tw_if (fun _ => ?_) (fun _ => ?_)
    ·
      exact tw_at (⟨rfl, rfl⟩ : zt S = zt S ∧ zu S = zu S) (tt_X9_putApart_118 hself12)
    ·
      refine tw_chk (fun _ => ?_)
      refine tw_calv (fun b1 => ?_)
      refine tw_chk (fun _ => ?_)
      refine tw_chk (fun _ => ?_)
      refine tw_bndv (fun v2 => ?_)
      refine tw_chk (fun _ => ?_)
      refine tw_calv (fun b3 => ?_)
      refine tw_chk (fun _ => ?_)
      refine tw_chk (fun _ => ?_)
      refine tw_bndv (fun v4 => ?_)
      refine tw_if (fun _ => ?_) (fun _ => ?_)
      ·
        refine tw_chk (fun _ => ?_)
        refine tw_calf (⟨rfl, rfl⟩ : zt S = zt S ∧ zu S = zu S) (fun o5 co5 => ?_)
        refine tw_if (fun _ => ?_) (fun _ => ?_)
        ·
          exact tw_at co5 (tt_X9_putApart_118 hself12)
        ·
          refine tw_chk (fun _ => ?_)
          refine tw_calv (fun b6 => ?_)
          refine tw_bndv (fun v7 => ?_)
          refine tw_bndv (fun v8 => ?_)
          refine tw_chk (fun _ => ?_)
          refine tw_calf co5 (fun o9 co9 => ?_)
          refine tw_if (fun _ => ?_) (fun _ => ?_)
          ·
            exact tw_at co9 (tt_X9_putApart_118 hself12)
          ·
            refine tw_if (fun _ => ?_) (fun _ => ?_)
            ·
              refine tw_bndv (fun v10 => ?_)
              refine tw_bndv (fun v11 => ?_)
              refine tw_if (fun _ => ?_) (fun _ => ?_)
              ·
                exact tw_at co9 (tt_X9_putApart_89 hself12)
              ·
                exact tw_at co9 (tt_X9_putApart_94 hself12)
            ·
              exact tw_at co9 (tt_X9_putApart_89 hself12)
      ·
        exact tw_at (⟨rfl, rfl⟩ : zt S = zt S ∧ zu S = zu S) (tt_X9_putApart_118 hself12)
def d_X9_putApart_12  : Nat → Nat → Nat → Int32 → Int32 → Nat → Int32 → Int32 → Int32 → Int32 → ZS → Option (Int32 × ZS)
  | 0 => fun _ _ _ _ _ _ _ _ _ _ => none
  | n + 1 => d_X9_putApart_12s  (d_X9_putApart_12  n)
theorem tt_X9_putApart_12 {Pw : Int32 → ZS → Prop}   {n : Nat} : ∀ {z0 : Nat} {z1 : Nat} {z2 : Int32} {z3 : Int32} {z4 : Nat} {z5 : Int32} {z6 : Int32} {z7 : Int32} {z8 : Int32} {S : ZS}, Tw Pw (d_X9_putApart_12  n z0 z1 z2 z3 z4 z5 z6 z7 z8 S) (zt S) (zu S) (fun C T => g_X9_putApart_12 Pw  n z0 z1 z2 z3 z4 z5 z6 z7 z8 S C T) := by
  induction n with
  | zero => intro z0 z1 z2 z3 z4 z5 z6 z7 z8 S; exact tw_none
  | succ n ih => intro z0 z1 z2 z3 z4 z5 z6 z7 z8 S; exact tt_X9_putApart_12s  (fun _ _ _ _ _ _ _ _ _ _ => ih)
def d_X9_putApart_0 (x0 : Nat) (x1 : Nat) (x2 : Int32) (x3 : Int32) (x4 : Nat) (S : ZS) : Option (Int32 × ZS) :=
  d_X9_putApart_12 mFuel x0 x1 x2 x3 x4 (0 : Int32) (0 : Int32) (0 : Int32) (0 : Int32) S
theorem tt_X9_putApart_0 {Pw : Int32 → ZS → Prop}   {x0 : Nat} {x1 : Nat} {x2 : Int32} {x3 : Int32} {x4 : Nat} {S : ZS} : Tw Pw (d_X9_putApart_0 x0 x1 x2 x3 x4 S) (zt S) (zu S) (fun C T => g_X9_putApart_0 Pw x0 x1 x2 x3 x4 S C T) := by
  unfold d_X9_putApart_0 g_X9_putApart_0
  exact tw_at (⟨rfl, rfl⟩ : zt S = zt S ∧ zu S = zu S) (tt_X9_putApart_12)
def d_X9_putApart (x0 : Nat) (x1 : Nat) (x2 : Int32) (x3 : Int32) (x4 : Nat) (S : ZS) : Option (Int32 × ZS) := d_X9_putApart_0 x0 x1 x2 x3 x4 S
theorem tt_X9_putApart {Pw : Int32 → ZS → Prop} {x0 : Nat} {x1 : Nat} {x2 : Int32} {x3 : Int32} {x4 : Nat} {S : ZS} : Tw Pw (d_X9_putApart x0 x1 x2 x3 x4 S) (zt S) (zu S) (fun C T => g_X9_putApart x0 x1 x2 x3 x4 S C T Pw) := tt_X9_putApart_0
def d_X9_putSigns_182 (S : ZS) : Option (Int32 × ZS) :=
  some (0, S)
theorem tt_X9_putSigns_182 {Pw : Int32 → ZS → Prop}   {S : ZS} : Tw Pw (d_X9_putSigns_182 S) (zt S) (zu S) (fun C T => g_X9_putSigns_182 Pw S C T) := by
  unfold d_X9_putSigns_182 g_X9_putSigns_182
  exact tw_ret (⟨rfl, rfl⟩ : zt S = zt S ∧ zu S = zu S)
def d_X9_putSigns_160 (x0 : Nat) (x1 : Nat) (x2 : Int32) (x3 : Nat) (S : ZS) : Option (Int32 × ZS) :=
  m_chk (x0 ∈ zL S ∧ zK S x0 = 9) (
  m_cal (zP S 0 x0) (fun b1 =>
  m_chk (b1 ∈ zL S ∧ zK S b1 = 7) (
  m_cal (f_X7_checkSign b1 x1 x2 S) (fun o2 => m_chk (zt o2.2 = zt S ∧ zu o2.2 = zu S) (
  m_if (o2.1 = 0) (
  d_X9_putSigns_182 o2.2
  ) (
  m_chk (x3 ∈ zL o2.2 ∧ zK o2.2 x3 = 6) (
  m_cal2 (d_X6_put x3 o2.1 o2.2) (fun r4 S5 =>
  d_X9_putSigns_182 S5))
  ))))))
theorem tt_X9_putSigns_160 {Pw : Int32 → ZS → Prop}   {x0 : Nat} {x1 : Nat} {x2 : Int32} {x3 : Nat} {S : ZS} : Tw Pw (d_X9_putSigns_160 x0 x1 x2 x3 S) (zt S) (zu S) (fun C T => g_X9_putSigns_160 Pw x0 x1 x2 x3 S C T) := by
  unfold d_X9_putSigns_160 g_X9_putSigns_160
  refine tw_chk (fun _ => ?_)
  refine tw_calv (fun b1 => ?_)
  refine tw_chk (fun _ => ?_)
  refine tw_calf (⟨rfl, rfl⟩ : zt S = zt S ∧ zu S = zu S) (fun o2 co2 => ?_)
  refine tw_if (fun _ => ?_) (fun _ => ?_)
  ·
    exact tw_at co2 (tt_X9_putSigns_182)
  ·
    refine tw_chk (fun _ => ?_)
    refine tw_gal (fun Pw9 => tw_at co2 tt_X6_put) (fun r4 S5 => ?_)
    exact tw_at (⟨rfl, rfl⟩ : zt S5 = zt S5 ∧ zu S5 = zu S5) (tt_X9_putSigns_182)
def d_X9_putSigns_136 (x0 : Nat) (x1 : Nat) (x2 : Int32) (x3 : Nat) (S : ZS) : Option (Int32 × ZS) :=
  m_if (x2 < (4096 : Int32)) (
  d_X9_putSigns_160 x0 x1 x2 x3 S
  ) (
  m_chk (x3 ∈ zL S ∧ zK S x3 = 6) (
  m_cal2 (d_X6_put x3 (61 : Int32) S) (fun r2 S3 =>
  m_bnd (x2 >>> ((12 : Int32) &&& 31)) (fun v6 =>
  m_cal (f_X11_letterOf v6 S3) (fun o7 => m_chk (zt o7.2 = zt S3 ∧ zu o7.2 = zu S3) (
  m_chk (x3 ∈ zL o7.2 ∧ zK o7.2 x3 = 6) (
  m_cal2 (d_X6_put x3 o7.1 o7.2) (fun r9 S10 =>
  d_X9_putSigns_160 x0 x1 x2 x3 S10)))))))
  )
theorem tt_X9_putSigns_136 {Pw : Int32 → ZS → Prop}   {x0 : Nat} {x1 : Nat} {x2 : Int32} {x3 : Nat} {S : ZS} : Tw Pw (d_X9_putSigns_136 x0 x1 x2 x3 S) (zt S) (zu S) (fun C T => g_X9_putSigns_136 Pw x0 x1 x2 x3 S C T) := by
  unfold d_X9_putSigns_136 g_X9_putSigns_136
  refine tw_if (fun _ => ?_) (fun _ => ?_)
  ·
    exact tw_at (⟨rfl, rfl⟩ : zt S = zt S ∧ zu S = zu S) (tt_X9_putSigns_160)
  ·
    refine tw_chk (fun _ => ?_)
    refine tw_gal (fun Pw9 => tw_at (⟨rfl, rfl⟩ : zt S = zt S ∧ zu S = zu S) tt_X6_put) (fun r2 S3 => ?_)
    refine tw_bndv (fun v6 => ?_)
    refine tw_calf (⟨rfl, rfl⟩ : zt S3 = zt S3 ∧ zu S3 = zu S3) (fun o7 co7 => ?_)
    refine tw_chk (fun _ => ?_)
    refine tw_gal (fun Pw9 => tw_at co7 tt_X6_put) (fun r9 S10 => ?_)
    exact tw_at (⟨rfl, rfl⟩ : zt S10 = zt S10 ∧ zu S10 = zu S10) (tt_X9_putSigns_160)
def d_X9_putSigns_118 (x0 : Nat) (x1 : Nat) (x2 : Int32) (x3 : Nat) (x5 : Int32) (S : ZS) : Option (Int32 × ZS) :=
  m_cal (f_X11_fileLetter x5 S) (fun o1 => m_chk (zt o1.2 = zt S ∧ zu o1.2 = zu S) (
  m_chk (x3 ∈ zL o1.2 ∧ zK o1.2 x3 = 6) (
  m_cal2 (d_X6_put x3 o1.1 o1.2) (fun r3 S4 =>
  m_cal (f_X11_rankDigit x5 S4) (fun o7 => m_chk (zt o7.2 = zt S4 ∧ zu o7.2 = zu S4) (
  m_chk (x3 ∈ zL o7.2 ∧ zK o7.2 x3 = 6) (
  m_cal2 (d_X6_put x3 o7.1 o7.2) (fun r9 S10 =>
  d_X9_putSigns_136 x0 x1 x2 x3 S10))))))))
theorem tt_X9_putSigns_118 {Pw : Int32 → ZS → Prop}   {x0 : Nat} {x1 : Nat} {x2 : Int32} {x3 : Nat} {x5 : Int32} {S : ZS} : Tw Pw (d_X9_putSigns_118 x0 x1 x2 x3 x5 S) (zt S) (zu S) (fun C T => g_X9_putSigns_118 Pw x0 x1 x2 x3 x5 S C T) := by
  unfold d_X9_putSigns_118 g_X9_putSigns_118
  refine tw_calf (⟨rfl, rfl⟩ : zt S = zt S ∧ zu S = zu S) (fun o1 co1 => ?_)
  refine tw_chk (fun _ => ?_)
  refine tw_gal (fun Pw9 => tw_at co1 tt_X6_put) (fun r3 S4 => ?_)
  refine tw_calf (⟨rfl, rfl⟩ : zt S4 = zt S4 ∧ zu S4 = zu S4) (fun o7 co7 => ?_)
  refine tw_chk (fun _ => ?_)
  refine tw_gal (fun Pw9 => tw_at co7 tt_X6_put) (fun r9 S10 => ?_)
  exact tw_at (⟨rfl, rfl⟩ : zt S10 = zt S10 ∧ zu S10 = zu S10) (tt_X9_putSigns_136)
def d_X9_putSigns_107 (x0 : Nat) (x1 : Nat) (x2 : Int32) (x3 : Nat) (x5 : Int32) (x6 : Int32) (S : ZS) : Option (Int32 × ZS) :=
  m_if (x6 = 0) (
  d_X9_putSigns_118 x0 x1 x2 x3 x5 S
  ) (
  m_chk (x3 ∈ zL S ∧ zK S x3 = 6) (
  m_cal2 (d_X6_put x3 (120 : Int32) S) (fun r2 S3 =>
  d_X9_putSigns_118 x0 x1 x2 x3 x5 S3))
  )
theorem tt_X9_putSigns_107 {Pw : Int32 → ZS → Prop}   {x0 : Nat} {x1 : Nat} {x2 : Int32} {x3 : Nat} {x5 : Int32} {x6 : Int32} {S : ZS} : Tw Pw (d_X9_putSigns_107 x0 x1 x2 x3 x5 x6 S) (zt S) (zu S) (fun C T => g_X9_putSigns_107 Pw x0 x1 x2 x3 x5 x6 S C T) := by
  unfold d_X9_putSigns_107 g_X9_putSigns_107
  refine tw_if (fun _ => ?_) (fun _ => ?_)
  ·
    exact tw_at (⟨rfl, rfl⟩ : zt S = zt S ∧ zu S = zu S) (tt_X9_putSigns_118)
  ·
    refine tw_chk (fun _ => ?_)
    refine tw_gal (fun Pw9 => tw_at (⟨rfl, rfl⟩ : zt S = zt S ∧ zu S = zu S) tt_X6_put) (fun r2 S3 => ?_)
    exact tw_at (⟨rfl, rfl⟩ : zt S3 = zt S3 ∧ zu S3 = zu S3) (tt_X9_putSigns_118)
def d_X9_putSigns_41 (x0 : Nat) (x1 : Nat) (x2 : Int32) (x3 : Nat) (t0 : Nat) (t1 : Nat) (S : ZS) : Option (Int32 × ZS) :=
  m_chk (t1 ∈ zL S ∧ zK S t1 = 6) (
  m_cal2 (d_X6_putText t1 t0 S) (fun r2 S3 =>
  d_X9_putSigns_136 x0 x1 x2 x3 S3))
theorem tt_X9_putSigns_41 {Pw : Int32 → ZS → Prop}   {x0 : Nat} {x1 : Nat} {x2 : Int32} {x3 : Nat} {t0 : Nat} {t1 : Nat} {S : ZS} : Tw Pw (d_X9_putSigns_41 x0 x1 x2 x3 t0 t1 S) (zt S) (zu S) (fun C T => g_X9_putSigns_41 Pw x0 x1 x2 x3 t0 t1 S C T) := by
  unfold d_X9_putSigns_41 g_X9_putSigns_41
  refine tw_chk (fun _ => ?_)
  refine tw_gal (fun Pw9 => tw_at (⟨rfl, rfl⟩ : zt S = zt S ∧ zu S = zu S) tt_X6_putText) (fun r2 S3 => ?_)
  exact tw_at (⟨rfl, rfl⟩ : zt S3 = zt S3 ∧ zu S3 = zu S3) (tt_X9_putSigns_136)
def d_X9_putSigns_0 (x0 : Nat) (x1 : Nat) (x2 : Int32) (x3 : Nat) (S : ZS) : Option (Int32 × ZS) :=
  m_bnd (x2 &&& (63 : Int32)) (fun v1 =>
  m_bnd (x2 >>> ((6 : Int32) &&& 31)) (fun v2 =>
  m_bnd (v2 &&& (63 : Int32)) (fun v3 =>
  m_chk (x1 ∈ zL S ∧ zK S x1 = 0) (
  m_cal (f_X0_castles x1 v1 v3 S) (fun o4 => m_chk (zt o4.2 = zt S ∧ zu o4.2 = zu S) (
  m_if (o4.1 = 0) (
  m_chk (x1 ∈ zL o4.2 ∧ zK o4.2 x1 = 0) (
  m_cal (f_X0_takes x1 v1 v3 o4.2) (fun o5 => m_chk (zt o5.2 = zt o4.2 ∧ zu o5.2 = zu o4.2) (
  m_chk (x1 ∈ zL o5.2 ∧ zK o5.2 x1 = 0) (
  m_cal (f_X0_kindAt x1 v1 o5.2) (fun o6 => m_chk (zt o6.2 = zt o5.2 ∧ zu o6.2 = zu o5.2) (
  m_if (o6.1 = (1 : Int32)) (
  m_if (o5.1 = 0) (
  d_X9_putSigns_107 x0 x1 x2 x3 v3 o5.1 o6.2
  ) (
  m_cal (f_X11_fileLetter v1 o6.2) (fun o7 => m_chk (zt o7.2 = zt o6.2 ∧ zu o7.2 = zu o6.2) (
  m_chk (x3 ∈ zL o7.2 ∧ zK o7.2 x3 = 6) (
  m_cal2 (d_X6_put x3 o7.1 o7.2) (fun r9 S10 =>
  d_X9_putSigns_107 x0 x1 x2 x3 v3 o5.1 S10))))
  )
  ) (
  m_chk (x1 ∈ zL o6.2 ∧ zK o6.2 x1 = 0) (
  m_cal (f_X0_kindAt x1 v1 o6.2) (fun o13 => m_chk (zt o13.2 = zt o6.2 ∧ zu o13.2 = zu o6.2) (
  m_cal (f_X11_letterOf o13.1 o13.2) (fun o14 => m_chk (zt o14.2 = zt o13.2 ∧ zu o14.2 = zu o13.2) (
  m_chk (x3 ∈ zL o14.2 ∧ zK o14.2 x3 = 6) (
  m_cal2 (d_X6_put x3 o14.1 o14.2) (fun r16 S17 =>
  m_chk (x0 ∈ zL S17 ∧ zK S17 x0 = 9) (
  m_cal2 (d_X9_putApart x0 x1 v1 v3 x3 S17) (fun r21 S22 =>
  d_X9_putSigns_107 x0 x1 x2 x3 v3 o5.1 S22)))))))))
  )))))))
  ) (
  m_if (v3 ≤ v1) (
  d_X9_putSigns_41 x0 x1 x2 x3 8 x3 o4.2
  ) (
  d_X9_putSigns_41 x0 x1 x2 x3 7 x3 o4.2
  )
  )))))))
theorem tt_X9_putSigns_0 {Pw : Int32 → ZS → Prop}   {x0 : Nat} {x1 : Nat} {x2 : Int32} {x3 : Nat} {S : ZS} : Tw Pw (d_X9_putSigns_0 x0 x1 x2 x3 S) (zt S) (zu S) (fun C T => g_X9_putSigns_0 Pw x0 x1 x2 x3 S C T) := by
  unfold d_X9_putSigns_0 g_X9_putSigns_0
  refine tw_bndv (fun v1 => ?_)
  refine tw_bndv (fun v2 => ?_)
  refine tw_bndv (fun v3 => ?_)
  refine tw_chk (fun _ => ?_)
  refine tw_calf (⟨rfl, rfl⟩ : zt S = zt S ∧ zu S = zu S) (fun o4 co4 => ?_)
  refine tw_if (fun _ => ?_) (fun _ => ?_)
  ·
    refine tw_chk (fun _ => ?_)
    refine tw_calf co4 (fun o5 co5 => ?_)
    refine tw_chk (fun _ => ?_)
    refine tw_calf co5 (fun o6 co6 => ?_)
    refine tw_if (fun _ => ?_) (fun _ => ?_)
    ·
      refine tw_if (fun _ => ?_) (fun _ => ?_)
      ·
        exact tw_at co6 (tt_X9_putSigns_107)
      ·
        refine tw_calf co6 (fun o7 co7 => ?_)
        refine tw_chk (fun _ => ?_)
        refine tw_gal (fun Pw9 => tw_at co7 tt_X6_put) (fun r9 S10 => ?_)
        exact tw_at (⟨rfl, rfl⟩ : zt S10 = zt S10 ∧ zu S10 = zu S10) (tt_X9_putSigns_107)
    ·
      refine tw_chk (fun _ => ?_)
      refine tw_calf co6 (fun o13 co13 => ?_)
      refine tw_calf co13 (fun o14 co14 => ?_)
      refine tw_chk (fun _ => ?_)
      refine tw_gal (fun Pw9 => tw_at co14 tt_X6_put) (fun r16 S17 => ?_)
      refine tw_chk (fun _ => ?_)
      refine tw_gal (fun Pw9 => tw_at (⟨rfl, rfl⟩ : zt S17 = zt S17 ∧ zu S17 = zu S17) tt_X9_putApart) (fun r21 S22 => ?_)
      exact tw_at (⟨rfl, rfl⟩ : zt S22 = zt S22 ∧ zu S22 = zu S22) (tt_X9_putSigns_107)
  ·
    refine tw_if (fun _ => ?_) (fun _ => ?_)
    ·
      exact tw_at co4 (tt_X9_putSigns_41)
    ·
      exact tw_at co4 (tt_X9_putSigns_41)
def d_X9_putSigns (x0 : Nat) (x1 : Nat) (x2 : Int32) (x3 : Nat) (S : ZS) : Option (Int32 × ZS) := d_X9_putSigns_0 x0 x1 x2 x3 S
theorem tt_X9_putSigns {Pw : Int32 → ZS → Prop} {x0 : Nat} {x1 : Nat} {x2 : Int32} {x3 : Nat} {S : ZS} : Tw Pw (d_X9_putSigns x0 x1 x2 x3 S) (zt S) (zu S) (fun C T => g_X9_putSigns x0 x1 x2 x3 S C T Pw) := tt_X9_putSigns_0
def d_X3_putMove_66s (self66 : Nat → Nat → Int32 → ZS → Option (Int32 × ZS)) (x2 : Nat) (x4 : Nat) (x5 : Int32) (S : ZS) : Option (Int32 × ZS) :=
  m_chk (x2 ∈ zL S ∧ zK S x2 = 4) (
  m_if ((zI S 4 x2) ≤ x5) (
  m_cal2 (d_X3_putRemark x2 x4 S) (fun r2 S3 =>
  some (0, S3))
  ) (
  m_cal2 (d_X3_putGap x4 S) (fun r7 S8 =>
  m_chk (x4 ∈ zL S8 ∧ zK S8 x4 = 6) (
  m_cal2 (d_X6_put x4 (36 : Int32) S8) (fun r12 S13 =>
  m_chk (x2 ∈ zL S13 ∧ zK S13 x2 = 4) (
  m_cal (f_X4_markAt x2 x5 S13) (fun o16 => m_chk (zt o16.2 = zt S13 ∧ zu o16.2 = zu S13) (
  m_chk (x4 ∈ zL o16.2 ∧ zK o16.2 x4 = 6) (
  m_cal2 (d_X6_putNumber x4 o16.1 o16.2) (fun r18 S19 =>
  m_bnd (x5 + (1 : Int32)) (fun v22 =>
  self66 x2 x4 v22 S19)))))))))
  ))
theorem tt_X3_putMove_66s {Pw : Int32 → ZS → Prop} {self66 : Nat → Nat → Int32 → ZS → Option (Int32 × ZS)} {self66g : Nat → Nat → Int32 → ZS → Nat → Nat → Prop} (hself66 : ∀ (y0 : Nat) (y1 : Nat) (y2 : Int32) (S : ZS), Tw Pw (self66 y0 y1 y2 S) (zt S) (zu S) (fun C T => self66g y0 y1 y2 S C T)) {x2 : Nat} {x4 : Nat} {x5 : Int32} {S : ZS} : Tw Pw (d_X3_putMove_66s self66 x2 x4 x5 S) (zt S) (zu S) (fun C T => g_X3_putMove_66s Pw self66g x2 x4 x5 S C T) := by
  unfold d_X3_putMove_66s g_X3_putMove_66s
  refine tw_chk (fun _ => ?_)
  refine tw_if (fun _ => ?_) (fun _ => ?_)
  ·
    refine tw_gal (fun Pw9 => tw_at (⟨rfl, rfl⟩ : zt S = zt S ∧ zu S = zu S) tt_X3_putRemark) (fun r2 S3 => ?_)
    exact tw_ret (⟨rfl, rfl⟩ : zt S3 = zt S3 ∧ zu S3 = zu S3)
  ·
    refine tw_gal (fun Pw9 => tw_at (⟨rfl, rfl⟩ : zt S = zt S ∧ zu S = zu S) tt_X3_putGap) (fun r7 S8 => ?_)
    refine tw_chk (fun _ => ?_)
    refine tw_gal (fun Pw9 => tw_at (⟨rfl, rfl⟩ : zt S8 = zt S8 ∧ zu S8 = zu S8) tt_X6_put) (fun r12 S13 => ?_)
    refine tw_chk (fun _ => ?_)
    refine tw_calf (⟨rfl, rfl⟩ : zt S13 = zt S13 ∧ zu S13 = zu S13) (fun o16 co16 => ?_)
    refine tw_chk (fun _ => ?_)
    refine tw_gal (fun Pw9 => tw_at co16 tt_X6_putNumber) (fun r18 S19 => ?_)
    refine tw_bndv (fun v22 => ?_)
    exact tw_at (⟨rfl, rfl⟩ : zt S19 = zt S19 ∧ zu S19 = zu S19) (hself66 _ _ _ _)
def d_X3_putMove_66  : Nat → Nat → Nat → Int32 → ZS → Option (Int32 × ZS)
  | 0 => fun _ _ _ _ => none
  | n + 1 => d_X3_putMove_66s  (d_X3_putMove_66  n)
theorem tt_X3_putMove_66 {Pw : Int32 → ZS → Prop}   {n : Nat} : ∀ {z0 : Nat} {z1 : Nat} {z2 : Int32} {S : ZS}, Tw Pw (d_X3_putMove_66  n z0 z1 z2 S) (zt S) (zu S) (fun C T => g_X3_putMove_66 Pw  n z0 z1 z2 S C T) := by
  induction n with
  | zero => intro z0 z1 z2 S; exact tw_none
  | succ n ih => intro z0 z1 z2 S; exact tt_X3_putMove_66s  (fun _ _ _ _ => ih)
def d_X3_putMove_44 (x0 : Nat) (x1 : Nat) (x2 : Nat) (x4 : Nat) (S : ZS) : Option (Int32 × ZS) :=
  m_cal2 (d_X3_putGap x4 S) (fun r2 S3 =>
  m_chk (x0 ∈ zL S3 ∧ zK S3 x0 = 3) (
  m_cal (zP S3 0 x0) (fun b6 =>
  m_chk (x2 ∈ zL S3 ∧ zK S3 x2 = 4) (
  m_chk (b6 ∈ zL S3 ∧ zK S3 b6 = 9) (
  m_cal2 (d_X9_putSigns b6 x1 (zI S3 1 x2) x4 S3) (fun r8 S9 =>
  d_X3_putMove_66 mFuel x2 x4 (0 : Int32) S9))))))
theorem tt_X3_putMove_44 {Pw : Int32 → ZS → Prop}   {x0 : Nat} {x1 : Nat} {x2 : Nat} {x4 : Nat} {S : ZS} : Tw Pw (d_X3_putMove_44 x0 x1 x2 x4 S) (zt S) (zu S) (fun C T => g_X3_putMove_44 Pw x0 x1 x2 x4 S C T) := by
  unfold d_X3_putMove_44 g_X3_putMove_44
  refine tw_gal (fun Pw9 => tw_at (⟨rfl, rfl⟩ : zt S = zt S ∧ zu S = zu S) tt_X3_putGap) (fun r2 S3 => ?_)
  refine tw_chk (fun _ => ?_)
  refine tw_calv (fun b6 => ?_)
  refine tw_chk (fun _ => ?_)
  refine tw_chk (fun _ => ?_)
  refine tw_gal (fun Pw9 => tw_at (⟨rfl, rfl⟩ : zt S3 = zt S3 ∧ zu S3 = zu S3) tt_X9_putSigns) (fun r8 S9 => ?_)
  exact tw_at (⟨rfl, rfl⟩ : zt S9 = zt S9 ∧ zu S9 = zu S9) (tt_X3_putMove_66)
def d_X3_putMove_41 (x0 : Nat) (x1 : Nat) (x2 : Nat) (x4 : Nat) (t0 : Nat) (t1 : Nat) (S : ZS) : Option (Int32 × ZS) :=
  m_chk (t1 ∈ zL S ∧ zK S t1 = 6) (
  m_cal2 (d_X6_putText t1 t0 S) (fun r2 S3 =>
  d_X3_putMove_44 x0 x1 x2 x4 S3))
theorem tt_X3_putMove_41 {Pw : Int32 → ZS → Prop}   {x0 : Nat} {x1 : Nat} {x2 : Nat} {x4 : Nat} {t0 : Nat} {t1 : Nat} {S : ZS} : Tw Pw (d_X3_putMove_41 x0 x1 x2 x4 t0 t1 S) (zt S) (zu S) (fun C T => g_X3_putMove_41 Pw x0 x1 x2 x4 t0 t1 S C T) := by
  unfold d_X3_putMove_41 g_X3_putMove_41
  refine tw_chk (fun _ => ?_)
  refine tw_gal (fun Pw9 => tw_at (⟨rfl, rfl⟩ : zt S = zt S ∧ zu S = zu S) tt_X6_putText) (fun r2 S3 => ?_)
  exact tw_at (⟨rfl, rfl⟩ : zt S3 = zt S3 ∧ zu S3 = zu S3) (tt_X3_putMove_44)
def d_X3_putMove_11 (x0 : Nat) (x1 : Nat) (x2 : Nat) (x4 : Nat) (S : ZS) : Option (Int32 × ZS) :=
  m_cal2 (d_X3_putGap x4 S) (fun r2 S3 =>
  m_chk (x1 ∈ zL S3 ∧ zK S3 x1 = 0) (
  m_chk (x4 ∈ zL S3 ∧ zK S3 x4 = 6) (
  m_cal2 (d_X6_putNumber x4 (zI S3 6 x1) S3) (fun r7 S8 =>
  m_chk (x1 ∈ zL S8 ∧ zK S8 x1 = 0) (
  m_if ((zI S8 3 x1) = 0) (
  d_X3_putMove_41 x0 x1 x2 x4 13 x4 S8
  ) (
  d_X3_putMove_41 x0 x1 x2 x4 14 x4 S8
  ))))))
theorem tt_X3_putMove_11 {Pw : Int32 → ZS → Prop}   {x0 : Nat} {x1 : Nat} {x2 : Nat} {x4 : Nat} {S : ZS} : Tw Pw (d_X3_putMove_11 x0 x1 x2 x4 S) (zt S) (zu S) (fun C T => g_X3_putMove_11 Pw x0 x1 x2 x4 S C T) := by
  unfold d_X3_putMove_11 g_X3_putMove_11
  refine tw_gal (fun Pw9 => tw_at (⟨rfl, rfl⟩ : zt S = zt S ∧ zu S = zu S) tt_X3_putGap) (fun r2 S3 => ?_)
  refine tw_chk (fun _ => ?_)
  refine tw_chk (fun _ => ?_)
  refine tw_gal (fun Pw9 => tw_at (⟨rfl, rfl⟩ : zt S3 = zt S3 ∧ zu S3 = zu S3) tt_X6_putNumber) (fun r7 S8 => ?_)
  refine tw_chk (fun _ => ?_)
  refine tw_if (fun _ => ?_) (fun _ => ?_)
  ·
    exact tw_at (⟨rfl, rfl⟩ : zt S8 = zt S8 ∧ zu S8 = zu S8) (tt_X3_putMove_41)
  ·
    exact tw_at (⟨rfl, rfl⟩ : zt S8 = zt S8 ∧ zu S8 = zu S8) (tt_X3_putMove_41)
def d_X3_putMove_0 (x0 : Nat) (x1 : Nat) (x2 : Nat) (x3 : Int32) (x4 : Nat) (S : ZS) : Option (Int32 × ZS) :=
  m_chk (x1 ∈ zL S ∧ zK S x1 = 0) (
  m_if ((zI S 3 x1) = 0) (
  d_X3_putMove_11 x0 x1 x2 x4 S
  ) (
  m_if (x3 = 0) (
  d_X3_putMove_44 x0 x1 x2 x4 S
  ) (
  d_X3_putMove_11 x0 x1 x2 x4 S
  )
  ))
theorem tt_X3_putMove_0 {Pw : Int32 → ZS → Prop}   {x0 : Nat} {x1 : Nat} {x2 : Nat} {x3 : Int32} {x4 : Nat} {S : ZS} : Tw Pw (d_X3_putMove_0 x0 x1 x2 x3 x4 S) (zt S) (zu S) (fun C T => g_X3_putMove_0 Pw x0 x1 x2 x3 x4 S C T) := by
  unfold d_X3_putMove_0 g_X3_putMove_0
  refine tw_chk (fun _ => ?_)
  refine tw_if (fun _ => ?_) (fun _ => ?_)
  ·
    exact tw_at (⟨rfl, rfl⟩ : zt S = zt S ∧ zu S = zu S) (tt_X3_putMove_11)
  ·
    refine tw_if (fun _ => ?_) (fun _ => ?_)
    ·
      exact tw_at (⟨rfl, rfl⟩ : zt S = zt S ∧ zu S = zu S) (tt_X3_putMove_44)
    ·
      exact tw_at (⟨rfl, rfl⟩ : zt S = zt S ∧ zu S = zu S) (tt_X3_putMove_11)
def d_X3_putMove (x0 : Nat) (x1 : Nat) (x2 : Nat) (x3 : Int32) (x4 : Nat) (S : ZS) : Option (Int32 × ZS) := d_X3_putMove_0 x0 x1 x2 x3 x4 S
theorem tt_X3_putMove {Pw : Int32 → ZS → Prop} {x0 : Nat} {x1 : Nat} {x2 : Nat} {x3 : Int32} {x4 : Nat} {S : ZS} : Tw Pw (d_X3_putMove x0 x1 x2 x3 x4 S) (zt S) (zu S) (fun C T => g_X3_putMove x0 x1 x2 x3 x4 S C T Pw) := tt_X3_putMove_0
def d_X3_putLine_206 (rec : Nat → Nat → Int32 → Int32 → Nat → ZS → Option (Int32 × ZS)) (S : ZS) : Option (Int32 × ZS) :=
  some (0, S)
theorem tt_X3_putLine_206 {Pw : Int32 → ZS → Prop} {rec : Nat → Nat → Int32 → Int32 → Nat → ZS → Option (Int32 × ZS)} {recg : Nat → Nat → Int32 → Int32 → Nat → ZS → Nat → Nat → (Int32 → ZS → Prop) → Prop} (hrec : ∀ (y0 : Nat) (y1 : Nat) (y2 : Int32) (y3 : Int32) (y4 : Nat) (S : ZS) (Pw : Int32 → ZS → Prop), Tw Pw (rec y0 y1 y2 y3 y4 S) (zt S) (zu S) (fun C T => recg y0 y1 y2 y3 y4 S C T Pw)) {S : ZS} : Tw Pw (d_X3_putLine_206 rec S) (zt S) (zu S) (fun C T => g_X3_putLine_206 Pw recg S C T) := by
  unfold d_X3_putLine_206 g_X3_putLine_206
  exact tw_ret (⟨rfl, rfl⟩ : zt S = zt S ∧ zu S = zu S)
def d_X3_putLine_183 (rec : Nat → Nat → Int32 → Int32 → Nat → ZS → Option (Int32 × ZS)) (self24 : Nat → Nat → Int32 → Nat → Nat → Int32 → Int32 → Int32 → ZS → Option (Int32 × ZS)) (x0 : Nat) (x1 : Nat) (x3 : Int32) (x4 : Nat) (x5 : Nat) (x6 : Int32) (x8 : Int32) (x9 : Nat) (S : ZS) : Option (Int32 × ZS) :=
  m_chk (x9 ∈ zL S ∧ zK S x9 = 4) (
  m_chk (x5 ∈ zL S ∧ zK S x5 = 0) (
  m_cal (f_X0_play x5 (zI S 1 x9) S) (fun o1 => m_chk (zt o1.2 = zt S ∧ zu o1.2 = zu S) (
  m_chk (x9 ∈ zL o1.2 ∧ zK o1.2 x9 = 4) (
  m_bnd (x8 + (1 : Int32)) (fun v2 =>
  self24 x0 x1 x3 x4 x5 x6 (zI o1.2 2 x9) v2 o1.2))))))
theorem tt_X3_putLine_183 {Pw : Int32 → ZS → Prop} {rec : Nat → Nat → Int32 → Int32 → Nat → ZS → Option (Int32 × ZS)} {recg : Nat → Nat → Int32 → Int32 → Nat → ZS → Nat → Nat → (Int32 → ZS → Prop) → Prop} {self24 : Nat → Nat → Int32 → Nat → Nat → Int32 → Int32 → Int32 → ZS → Option (Int32 × ZS)} {self24g : Nat → Nat → Int32 → Nat → Nat → Int32 → Int32 → Int32 → ZS → Nat → Nat → Prop} (hrec : ∀ (y0 : Nat) (y1 : Nat) (y2 : Int32) (y3 : Int32) (y4 : Nat) (S : ZS) (Pw : Int32 → ZS → Prop), Tw Pw (rec y0 y1 y2 y3 y4 S) (zt S) (zu S) (fun C T => recg y0 y1 y2 y3 y4 S C T Pw)) (hself24 : ∀ (y0 : Nat) (y1 : Nat) (y2 : Int32) (y3 : Nat) (y4 : Nat) (y5 : Int32) (y6 : Int32) (y7 : Int32) (S : ZS), Tw Pw (self24 y0 y1 y2 y3 y4 y5 y6 y7 S) (zt S) (zu S) (fun C T => self24g y0 y1 y2 y3 y4 y5 y6 y7 S C T)) {x0 : Nat} {x1 : Nat} {x3 : Int32} {x4 : Nat} {x5 : Nat} {x6 : Int32} {x8 : Int32} {x9 : Nat} {S : ZS} : Tw Pw (d_X3_putLine_183 rec self24 x0 x1 x3 x4 x5 x6 x8 x9 S) (zt S) (zu S) (fun C T => g_X3_putLine_183 Pw recg self24g x0 x1 x3 x4 x5 x6 x8 x9 S C T) := by
  unfold d_X3_putLine_183 g_X3_putLine_183
  refine tw_chk (fun _ => ?_)
  refine tw_chk (fun _ => ?_)
  refine tw_calf (⟨rfl, rfl⟩ : zt S = zt S ∧ zu S = zu S) (fun o1 co1 => ?_)
  refine tw_chk (fun _ => ?_)
  refine tw_bndv (fun v2 => ?_)
  exact tw_at co1 (hself24 _ _ _ _ _ _ _ _ _)
def d_X3_putLine_99s (rec : Nat → Nat → Int32 → Int32 → Nat → ZS → Option (Int32 × ZS)) (self24 : Nat → Nat → Int32 → Nat → Nat → Int32 → Int32 → Int32 → ZS → Option (Int32 × ZS)) (self99 : Nat → Nat → Int32 → Nat → Nat → Int32 → Int32 → Nat → Int32 → Int32 → ZS → Option (Int32 × ZS)) (x0 : Nat) (x1 : Nat) (x3 : Int32) (x4 : Nat) (x5 : Nat) (x6 : Int32) (x8 : Int32) (x9 : Nat) (x10 : Int32) (x11 : Int32) (S : ZS) : Option (Int32 × ZS) :=
  m_if ((300 : Int32) ≤ x11) (
  d_X3_putLine_183 rec self24 x0 x1 x3 x4 x5 x6 x8 x9 S
  ) (
  m_if (x10 = (-1 : Int32)) (
  d_X3_putLine_183 rec self24 x0 x1 x3 x4 x5 x6 x8 x9 S
  ) (
  m_if ((6 : Int32) ≤ x3) (
  d_X3_putLine_183 rec self24 x0 x1 x3 x4 x5 x6 x8 x9 S
  ) (
  m_chk (x0 ∈ zL S ∧ zK S x0 = 3) (
  m_cal (zP S 1 x0) (fun b1 =>
  m_bnd (x3 + (1 : Int32)) (fun v2 =>
  m_chk (b1 ∈ zL S ∧ zK S b1 = 15) (
  m_chk (¬ (v2 < 0 ∨ zN S b1 ≤ (v2).toNatClampNeg)) (
  m_cal (zB S b1 (v2).toNatClampNeg) (fun b3 =>
  m_chk (b3 ∈ zL S ∧ zK S b3 = 0) (
  m_cal (f_X0_copyFrom b3 x5 S) (fun o4 => m_chk (zt o4.2 = zt S ∧ zu o4.2 = zu S) (
  m_cal2 (d_X3_putGap x4 o4.2) (fun r6 S7 =>
  m_chk (x4 ∈ zL S7 ∧ zK S7 x4 = 6) (
  m_cal2 (d_X6_put x4 (40 : Int32) S7) (fun r11 S12 =>
  m_bnd (x3 + (1 : Int32)) (fun v15 =>
  m_chk (x0 ∈ zL S12 ∧ zK S12 x0 = 3) (
  m_cal2 (rec x0 x1 x10 v15 x4 S12) (fun r17 S18 =>
  m_chk (x4 ∈ zL S18 ∧ zK S18 x4 = 6) (
  m_cal2 (d_X6_put x4 (41 : Int32) S18) (fun r22 S23 =>
  m_chk (x1 ∈ zL S23 ∧ zK S23 x1 = 1) (
  m_cal (f_X1_at x1 x10 S23) (fun o26 => m_chk (zt o26.2 = zt S23 ∧ zu o26.2 = zu S23) (
  m_chk (o26.1 ∈ zL o26.2 ∧ zK o26.2 o26.1 = 4) (
  m_bnd (x11 + (1 : Int32)) (fun v27 =>
  self99 x0 x1 x3 x4 x5 (1 : Int32) x8 x9 (zI o26.2 3 o26.1) v27 o26.2))))))))))))))))))))))
  )
  )
  )
theorem tt_X3_putLine_99s {Pw : Int32 → ZS → Prop} {rec : Nat → Nat → Int32 → Int32 → Nat → ZS → Option (Int32 × ZS)} {recg : Nat → Nat → Int32 → Int32 → Nat → ZS → Nat → Nat → (Int32 → ZS → Prop) → Prop} {self24 : Nat → Nat → Int32 → Nat → Nat → Int32 → Int32 → Int32 → ZS → Option (Int32 × ZS)} {self24g : Nat → Nat → Int32 → Nat → Nat → Int32 → Int32 → Int32 → ZS → Nat → Nat → Prop} {self99 : Nat → Nat → Int32 → Nat → Nat → Int32 → Int32 → Nat → Int32 → Int32 → ZS → Option (Int32 × ZS)} {self99g : Nat → Nat → Int32 → Nat → Nat → Int32 → Int32 → Nat → Int32 → Int32 → ZS → Nat → Nat → Prop} (hrec : ∀ (y0 : Nat) (y1 : Nat) (y2 : Int32) (y3 : Int32) (y4 : Nat) (S : ZS) (Pw : Int32 → ZS → Prop), Tw Pw (rec y0 y1 y2 y3 y4 S) (zt S) (zu S) (fun C T => recg y0 y1 y2 y3 y4 S C T Pw)) (hself24 : ∀ (y0 : Nat) (y1 : Nat) (y2 : Int32) (y3 : Nat) (y4 : Nat) (y5 : Int32) (y6 : Int32) (y7 : Int32) (S : ZS), Tw Pw (self24 y0 y1 y2 y3 y4 y5 y6 y7 S) (zt S) (zu S) (fun C T => self24g y0 y1 y2 y3 y4 y5 y6 y7 S C T)) (hself99 : ∀ (y0 : Nat) (y1 : Nat) (y2 : Int32) (y3 : Nat) (y4 : Nat) (y5 : Int32) (y6 : Int32) (y7 : Nat) (y8 : Int32) (y9 : Int32) (S : ZS), Tw Pw (self99 y0 y1 y2 y3 y4 y5 y6 y7 y8 y9 S) (zt S) (zu S) (fun C T => self99g y0 y1 y2 y3 y4 y5 y6 y7 y8 y9 S C T)) {x0 : Nat} {x1 : Nat} {x3 : Int32} {x4 : Nat} {x5 : Nat} {x6 : Int32} {x8 : Int32} {x9 : Nat} {x10 : Int32} {x11 : Int32} {S : ZS} : Tw Pw (d_X3_putLine_99s rec self24 self99 x0 x1 x3 x4 x5 x6 x8 x9 x10 x11 S) (zt S) (zu S) (fun C T => g_X3_putLine_99s Pw recg self24g self99g x0 x1 x3 x4 x5 x6 x8 x9 x10 x11 S C T) := by
  unfold d_X3_putLine_99s g_X3_putLine_99s
  refine tw_if (fun _ => ?_) (fun _ => ?_)
  ·
    exact tw_at (⟨rfl, rfl⟩ : zt S = zt S ∧ zu S = zu S) (tt_X3_putLine_183 hrec hself24)
  ·
    refine tw_if (fun _ => ?_) (fun _ => ?_)
    ·
      exact tw_at (⟨rfl, rfl⟩ : zt S = zt S ∧ zu S = zu S) (tt_X3_putLine_183 hrec hself24)
    ·
      refine tw_if (fun _ => ?_) (fun _ => ?_)
      ·
        exact tw_at (⟨rfl, rfl⟩ : zt S = zt S ∧ zu S = zu S) (tt_X3_putLine_183 hrec hself24)
      ·
        refine tw_chk (fun _ => ?_)
        refine tw_calv (fun b1 => ?_)
        refine tw_bndv (fun v2 => ?_)
        refine tw_chk (fun _ => ?_)
        refine tw_chk (fun _ => ?_)
        refine tw_calv (fun b3 => ?_)
        refine tw_chk (fun _ => ?_)
        refine tw_calf (⟨rfl, rfl⟩ : zt S = zt S ∧ zu S = zu S) (fun o4 co4 => ?_)
        refine tw_gal (fun Pw9 => tw_at co4 tt_X3_putGap) (fun r6 S7 => ?_)
        refine tw_chk (fun _ => ?_)
        refine tw_gal (fun Pw9 => tw_at (⟨rfl, rfl⟩ : zt S7 = zt S7 ∧ zu S7 = zu S7) tt_X6_put) (fun r11 S12 => ?_)
        refine tw_bndv (fun v15 => ?_)
        refine tw_chk (fun _ => ?_)
        refine tw_gal (fun Pw9 => tw_at (⟨rfl, rfl⟩ : zt S12 = zt S12 ∧ zu S12 = zu S12) (hrec _ _ _ _ _ _ Pw9)) (fun r17 S18 => ?_)
        refine tw_chk (fun _ => ?_)
        refine tw_gal (fun Pw9 => tw_at (⟨rfl, rfl⟩ : zt S18 = zt S18 ∧ zu S18 = zu S18) tt_X6_put) (fun r22 S23 => ?_)
        refine tw_chk (fun _ => ?_)
        refine tw_calf (⟨rfl, rfl⟩ : zt S23 = zt S23 ∧ zu S23 = zu S23) (fun o26 co26 => ?_)
        refine tw_chk (fun _ => ?_)
        refine tw_bndv (fun v27 => ?_)
        exact tw_at co26 (hself99 _ _ _ _ _ _ _ _ _ _ _)
def d_X3_putLine_99 (rec : Nat → Nat → Int32 → Int32 → Nat → ZS → Option (Int32 × ZS)) (self24 : Nat → Nat → Int32 → Nat → Nat → Int32 → Int32 → Int32 → ZS → Option (Int32 × ZS)) : Nat → Nat → Nat → Int32 → Nat → Nat → Int32 → Int32 → Nat → Int32 → Int32 → ZS → Option (Int32 × ZS)
  | 0 => fun _ _ _ _ _ _ _ _ _ _ _ => none
  | n + 1 => d_X3_putLine_99s rec self24 (d_X3_putLine_99 rec self24 n)
theorem tt_X3_putLine_99 {Pw : Int32 → ZS → Prop} {rec : Nat → Nat → Int32 → Int32 → Nat → ZS → Option (Int32 × ZS)} {recg : Nat → Nat → Int32 → Int32 → Nat → ZS → Nat → Nat → (Int32 → ZS → Prop) → Prop} {self24 : Nat → Nat → Int32 → Nat → Nat → Int32 → Int32 → Int32 → ZS → Option (Int32 × ZS)} {self24g : Nat → Nat → Int32 → Nat → Nat → Int32 → Int32 → Int32 → ZS → Nat → Nat → Prop} (hrec : ∀ (y0 : Nat) (y1 : Nat) (y2 : Int32) (y3 : Int32) (y4 : Nat) (S : ZS) (Pw : Int32 → ZS → Prop), Tw Pw (rec y0 y1 y2 y3 y4 S) (zt S) (zu S) (fun C T => recg y0 y1 y2 y3 y4 S C T Pw)) (hself24 : ∀ (y0 : Nat) (y1 : Nat) (y2 : Int32) (y3 : Nat) (y4 : Nat) (y5 : Int32) (y6 : Int32) (y7 : Int32) (S : ZS), Tw Pw (self24 y0 y1 y2 y3 y4 y5 y6 y7 S) (zt S) (zu S) (fun C T => self24g y0 y1 y2 y3 y4 y5 y6 y7 S C T)) {n : Nat} : ∀ {z0 : Nat} {z1 : Nat} {z2 : Int32} {z3 : Nat} {z4 : Nat} {z5 : Int32} {z6 : Int32} {z7 : Nat} {z8 : Int32} {z9 : Int32} {S : ZS}, Tw Pw (d_X3_putLine_99 rec self24 n z0 z1 z2 z3 z4 z5 z6 z7 z8 z9 S) (zt S) (zu S) (fun C T => g_X3_putLine_99 Pw recg self24g n z0 z1 z2 z3 z4 z5 z6 z7 z8 z9 S C T) := by
  induction n with
  | zero => intro z0 z1 z2 z3 z4 z5 z6 z7 z8 z9 S; exact tw_none
  | succ n ih => intro z0 z1 z2 z3 z4 z5 z6 z7 z8 z9 S; exact tt_X3_putLine_99s hrec hself24 (fun _ _ _ _ _ _ _ _ _ _ _ => ih)
def d_X3_putLine_94 (rec : Nat → Nat → Int32 → Int32 → Nat → ZS → Option (Int32 × ZS)) (self24 : Nat → Nat → Int32 → Nat → Nat → Int32 → Int32 → Int32 → ZS → Option (Int32 × ZS)) (x0 : Nat) (x1 : Nat) (x3 : Int32) (x4 : Nat) (x5 : Nat) (x6 : Int32) (x8 : Int32) (x9 : Nat) (t0 : Int32) (S : ZS) : Option (Int32 × ZS) :=
  d_X3_putLine_99 rec self24 mFuel x0 x1 x3 x4 x5 x6 x8 x9 t0 (0 : Int32) S
theorem tt_X3_putLine_94 {Pw : Int32 → ZS → Prop} {rec : Nat → Nat → Int32 → Int32 → Nat → ZS → Option (Int32 × ZS)} {recg : Nat → Nat → Int32 → Int32 → Nat → ZS → Nat → Nat → (Int32 → ZS → Prop) → Prop} {self24 : Nat → Nat → Int32 → Nat → Nat → Int32 → Int32 → Int32 → ZS → Option (Int32 × ZS)} {self24g : Nat → Nat → Int32 → Nat → Nat → Int32 → Int32 → Int32 → ZS → Nat → Nat → Prop} (hrec : ∀ (y0 : Nat) (y1 : Nat) (y2 : Int32) (y3 : Int32) (y4 : Nat) (S : ZS) (Pw : Int32 → ZS → Prop), Tw Pw (rec y0 y1 y2 y3 y4 S) (zt S) (zu S) (fun C T => recg y0 y1 y2 y3 y4 S C T Pw)) (hself24 : ∀ (y0 : Nat) (y1 : Nat) (y2 : Int32) (y3 : Nat) (y4 : Nat) (y5 : Int32) (y6 : Int32) (y7 : Int32) (S : ZS), Tw Pw (self24 y0 y1 y2 y3 y4 y5 y6 y7 S) (zt S) (zu S) (fun C T => self24g y0 y1 y2 y3 y4 y5 y6 y7 S C T)) {x0 : Nat} {x1 : Nat} {x3 : Int32} {x4 : Nat} {x5 : Nat} {x6 : Int32} {x8 : Int32} {x9 : Nat} {t0 : Int32} {S : ZS} : Tw Pw (d_X3_putLine_94 rec self24 x0 x1 x3 x4 x5 x6 x8 x9 t0 S) (zt S) (zu S) (fun C T => g_X3_putLine_94 Pw recg self24g x0 x1 x3 x4 x5 x6 x8 x9 t0 S C T) := by
  unfold d_X3_putLine_94 g_X3_putLine_94
  exact tw_at (⟨rfl, rfl⟩ : zt S = zt S ∧ zu S = zu S) (tt_X3_putLine_99 hrec hself24)
def d_X3_putLine_74 (rec : Nat → Nat → Int32 → Int32 → Nat → ZS → Option (Int32 × ZS)) (self24 : Nat → Nat → Int32 → Nat → Nat → Int32 → Int32 → Int32 → ZS → Option (Int32 × ZS)) (x0 : Nat) (x1 : Nat) (x3 : Int32) (x4 : Nat) (x5 : Nat) (x7 : Int32) (x8 : Int32) (x9 : Nat) (t0 : Int32) (S : ZS) : Option (Int32 × ZS) :=
  m_chk (x1 ∈ zL S ∧ zK S x1 = 1) (
  m_cal (f_X1_goesOn x1 x7 S) (fun o1 => m_chk (zt o1.2 = zt S ∧ zu o1.2 = zu S) (
  m_if (o1.1 = 0) (
  d_X3_putLine_94 rec self24 x0 x1 x3 x4 x5 t0 x8 x9 (-1 : Int32) o1.2
  ) (
  m_chk (x9 ∈ zL o1.2 ∧ zK o1.2 x9 = 4) (
  d_X3_putLine_94 rec self24 x0 x1 x3 x4 x5 t0 x8 x9 (zI o1.2 3 x9) o1.2)
  ))))
theorem tt_X3_putLine_74 {Pw : Int32 → ZS → Prop} {rec : Nat → Nat → Int32 → Int32 → Nat → ZS → Option (Int32 × ZS)} {recg : Nat → Nat → Int32 → Int32 → Nat → ZS → Nat → Nat → (Int32 → ZS → Prop) → Prop} {self24 : Nat → Nat → Int32 → Nat → Nat → Int32 → Int32 → Int32 → ZS → Option (Int32 × ZS)} {self24g : Nat → Nat → Int32 → Nat → Nat → Int32 → Int32 → Int32 → ZS → Nat → Nat → Prop} (hrec : ∀ (y0 : Nat) (y1 : Nat) (y2 : Int32) (y3 : Int32) (y4 : Nat) (S : ZS) (Pw : Int32 → ZS → Prop), Tw Pw (rec y0 y1 y2 y3 y4 S) (zt S) (zu S) (fun C T => recg y0 y1 y2 y3 y4 S C T Pw)) (hself24 : ∀ (y0 : Nat) (y1 : Nat) (y2 : Int32) (y3 : Nat) (y4 : Nat) (y5 : Int32) (y6 : Int32) (y7 : Int32) (S : ZS), Tw Pw (self24 y0 y1 y2 y3 y4 y5 y6 y7 S) (zt S) (zu S) (fun C T => self24g y0 y1 y2 y3 y4 y5 y6 y7 S C T)) {x0 : Nat} {x1 : Nat} {x3 : Int32} {x4 : Nat} {x5 : Nat} {x7 : Int32} {x8 : Int32} {x9 : Nat} {t0 : Int32} {S : ZS} : Tw Pw (d_X3_putLine_74 rec self24 x0 x1 x3 x4 x5 x7 x8 x9 t0 S) (zt S) (zu S) (fun C T => g_X3_putLine_74 Pw recg self24g x0 x1 x3 x4 x5 x7 x8 x9 t0 S C T) := by
  unfold d_X3_putLine_74 g_X3_putLine_74
  refine tw_chk (fun _ => ?_)
  refine tw_calf (⟨rfl, rfl⟩ : zt S = zt S ∧ zu S = zu S) (fun o1 co1 => ?_)
  refine tw_if (fun _ => ?_) (fun _ => ?_)
  ·
    exact tw_at co1 (tt_X3_putLine_94 hrec hself24)
  ·
    refine tw_chk (fun _ => ?_)
    exact tw_at co1 (tt_X3_putLine_94 hrec hself24)
def d_X3_putLine_24s (rec : Nat → Nat → Int32 → Int32 → Nat → ZS → Option (Int32 × ZS)) (self24 : Nat → Nat → Int32 → Nat → Nat → Int32 → Int32 → Int32 → ZS → Option (Int32 × ZS)) (x0 : Nat) (x1 : Nat) (x3 : Int32) (x4 : Nat) (x5 : Nat) (x6 : Int32) (x7 : Int32) (x8 : Int32) (S : ZS) : Option (Int32 × ZS) :=
  m_if ((300 : Int32) ≤ x8) (
  d_X3_putLine_206 rec S
  ) (
  m_if (x7 = (-1 : Int32)) (
  d_X3_putLine_206 rec S
  ) (
  m_chk (x1 ∈ zL S ∧ zK S x1 = 1) (
  m_cal (f_X1_at x1 x7 S) (fun o1 => m_chk (zt o1.2 = zt S ∧ zu o1.2 = zu S) (
  m_chk (x0 ∈ zL o1.2 ∧ zK o1.2 x0 = 3) (
  m_cal2 (d_X3_putMove x0 x5 o1.1 x6 x4 o1.2) (fun r3 S4 =>
  m_chk (o1.1 ∈ zL S4 ∧ zK S4 o1.1 = 4) (
  m_cal (zP S4 6 o1.1) (fun b7 =>
  m_chk (b7 ∈ zL S4 ∧ zK S4 b7 = 6) (
  m_cal (f_X6_size b7 S4) (fun o8 => m_chk (zt o8.2 = zt S4 ∧ zu o8.2 = zu S4) (
  m_if (o8.1 ≤ 0) (
  d_X3_putLine_74 rec self24 x0 x1 x3 x4 x5 x7 x8 o1.1 (0 : Int32) o8.2
  ) (
  d_X3_putLine_74 rec self24 x0 x1 x3 x4 x5 x7 x8 o1.1 (1 : Int32) o8.2
  )))))))))))
  )
  )
theorem tt_X3_putLine_24s {Pw : Int32 → ZS → Prop} {rec : Nat → Nat → Int32 → Int32 → Nat → ZS → Option (Int32 × ZS)} {recg : Nat → Nat → Int32 → Int32 → Nat → ZS → Nat → Nat → (Int32 → ZS → Prop) → Prop} {self24 : Nat → Nat → Int32 → Nat → Nat → Int32 → Int32 → Int32 → ZS → Option (Int32 × ZS)} {self24g : Nat → Nat → Int32 → Nat → Nat → Int32 → Int32 → Int32 → ZS → Nat → Nat → Prop} (hrec : ∀ (y0 : Nat) (y1 : Nat) (y2 : Int32) (y3 : Int32) (y4 : Nat) (S : ZS) (Pw : Int32 → ZS → Prop), Tw Pw (rec y0 y1 y2 y3 y4 S) (zt S) (zu S) (fun C T => recg y0 y1 y2 y3 y4 S C T Pw)) (hself24 : ∀ (y0 : Nat) (y1 : Nat) (y2 : Int32) (y3 : Nat) (y4 : Nat) (y5 : Int32) (y6 : Int32) (y7 : Int32) (S : ZS), Tw Pw (self24 y0 y1 y2 y3 y4 y5 y6 y7 S) (zt S) (zu S) (fun C T => self24g y0 y1 y2 y3 y4 y5 y6 y7 S C T)) {x0 : Nat} {x1 : Nat} {x3 : Int32} {x4 : Nat} {x5 : Nat} {x6 : Int32} {x7 : Int32} {x8 : Int32} {S : ZS} : Tw Pw (d_X3_putLine_24s rec self24 x0 x1 x3 x4 x5 x6 x7 x8 S) (zt S) (zu S) (fun C T => g_X3_putLine_24s Pw recg self24g x0 x1 x3 x4 x5 x6 x7 x8 S C T) := by
  unfold d_X3_putLine_24s g_X3_putLine_24s
  refine tw_if (fun _ => ?_) (fun _ => ?_)
  ·
    exact tw_at (⟨rfl, rfl⟩ : zt S = zt S ∧ zu S = zu S) (tt_X3_putLine_206 hrec)
  ·
    refine tw_if (fun _ => ?_) (fun _ => ?_)
    ·
      exact tw_at (⟨rfl, rfl⟩ : zt S = zt S ∧ zu S = zu S) (tt_X3_putLine_206 hrec)
    ·
      refine tw_chk (fun _ => ?_)
      refine tw_calf (⟨rfl, rfl⟩ : zt S = zt S ∧ zu S = zu S) (fun o1 co1 => ?_)
      refine tw_chk (fun _ => ?_)
      refine tw_gal (fun Pw9 => tw_at co1 tt_X3_putMove) (fun r3 S4 => ?_)
      refine tw_chk (fun _ => ?_)
      refine tw_calv (fun b7 => ?_)
      refine tw_chk (fun _ => ?_)
      refine tw_calf (⟨rfl, rfl⟩ : zt S4 = zt S4 ∧ zu S4 = zu S4) (fun o8 co8 => ?_)
      refine tw_if (fun _ => ?_) (fun _ => ?_)
      ·
        exact tw_at co8 (tt_X3_putLine_74 hrec hself24)
      ·
        exact tw_at co8 (tt_X3_putLine_74 hrec hself24)
def d_X3_putLine_24 (rec : Nat → Nat → Int32 → Int32 → Nat → ZS → Option (Int32 × ZS)) : Nat → Nat → Nat → Int32 → Nat → Nat → Int32 → Int32 → Int32 → ZS → Option (Int32 × ZS)
  | 0 => fun _ _ _ _ _ _ _ _ _ => none
  | n + 1 => d_X3_putLine_24s rec (d_X3_putLine_24 rec n)
theorem tt_X3_putLine_24 {Pw : Int32 → ZS → Prop} {rec : Nat → Nat → Int32 → Int32 → Nat → ZS → Option (Int32 × ZS)} {recg : Nat → Nat → Int32 → Int32 → Nat → ZS → Nat → Nat → (Int32 → ZS → Prop) → Prop} (hrec : ∀ (y0 : Nat) (y1 : Nat) (y2 : Int32) (y3 : Int32) (y4 : Nat) (S : ZS) (Pw : Int32 → ZS → Prop), Tw Pw (rec y0 y1 y2 y3 y4 S) (zt S) (zu S) (fun C T => recg y0 y1 y2 y3 y4 S C T Pw)) {n : Nat} : ∀ {z0 : Nat} {z1 : Nat} {z2 : Int32} {z3 : Nat} {z4 : Nat} {z5 : Int32} {z6 : Int32} {z7 : Int32} {S : ZS}, Tw Pw (d_X3_putLine_24 rec n z0 z1 z2 z3 z4 z5 z6 z7 S) (zt S) (zu S) (fun C T => g_X3_putLine_24 Pw recg n z0 z1 z2 z3 z4 z5 z6 z7 S C T) := by
  induction n with
  | zero => intro z0 z1 z2 z3 z4 z5 z6 z7 S; exact tw_none
  | succ n ih => intro z0 z1 z2 z3 z4 z5 z6 z7 S; exact tt_X3_putLine_24s hrec (fun _ _ _ _ _ _ _ _ _ => ih)
def d_X3_putLine_0 (rec : Nat → Nat → Int32 → Int32 → Nat → ZS → Option (Int32 × ZS)) (x0 : Nat) (x1 : Nat) (x2 : Int32) (x3 : Int32) (x4 : Nat) (S : ZS) : Option (Int32 × ZS) :=
  m_if (x3 ≤ (6 : Int32)) (
  m_chk (x0 ∈ zL S ∧ zK S x0 = 3) (
  m_cal (zP S 1 x0) (fun b1 =>
  m_chk (b1 ∈ zL S ∧ zK S b1 = 15) (
  m_chk (¬ (x3 < 0 ∨ zN S b1 ≤ (x3).toNatClampNeg)) (
  m_cal (zB S b1 (x3).toNatClampNeg) (fun b2 =>
  d_X3_putLine_24 rec mFuel x0 x1 x3 x4 b2 (1 : Int32) x2 (0 : Int32) S)))))
  ) (
  some (0, S)
  )
theorem tt_X3_putLine_0 {Pw : Int32 → ZS → Prop} {rec : Nat → Nat → Int32 → Int32 → Nat → ZS → Option (Int32 × ZS)} {recg : Nat → Nat → Int32 → Int32 → Nat → ZS → Nat → Nat → (Int32 → ZS → Prop) → Prop} (hrec : ∀ (y0 : Nat) (y1 : Nat) (y2 : Int32) (y3 : Int32) (y4 : Nat) (S : ZS) (Pw : Int32 → ZS → Prop), Tw Pw (rec y0 y1 y2 y3 y4 S) (zt S) (zu S) (fun C T => recg y0 y1 y2 y3 y4 S C T Pw)) {x0 : Nat} {x1 : Nat} {x2 : Int32} {x3 : Int32} {x4 : Nat} {S : ZS} : Tw Pw (d_X3_putLine_0 rec x0 x1 x2 x3 x4 S) (zt S) (zu S) (fun C T => g_X3_putLine_0 Pw recg x0 x1 x2 x3 x4 S C T) := by
  unfold d_X3_putLine_0 g_X3_putLine_0
  refine tw_if (fun _ => ?_) (fun _ => ?_)
  ·
    refine tw_chk (fun _ => ?_)
    refine tw_calv (fun b1 => ?_)
    refine tw_chk (fun _ => ?_)
    refine tw_chk (fun _ => ?_)
    refine tw_calv (fun b2 => ?_)
    exact tw_at (⟨rfl, rfl⟩ : zt S = zt S ∧ zu S = zu S) (tt_X3_putLine_24 hrec)
  ·
    exact tw_ret (⟨rfl, rfl⟩ : zt S = zt S ∧ zu S = zu S)
def dr_X3_putLine : Nat → Nat → Nat → Int32 → Int32 → Nat → ZS → Option (Int32 × ZS)
  | 0 => fun _ _ _ _ _ _ => none
  | n + 1 => fun x0 x1 x2 x3 x4 S => d_X3_putLine_0 (dr_X3_putLine n) x0 x1 x2 x3 x4 S
theorem tr_X3_putLine (n : Nat) : ∀ (x0 : Nat) (x1 : Nat) (x2 : Int32) (x3 : Int32) (x4 : Nat) (S : ZS) (Pw : Int32 → ZS → Prop), Tw Pw (dr_X3_putLine n x0 x1 x2 x3 x4 S) (zt S) (zu S) (fun C T => gr_X3_putLine n x0 x1 x2 x3 x4 S C T Pw) := by
  induction n with
  | zero => intro x0 x1 x2 x3 x4 S Pw; exact tw_none
  | succ n ih => intro x0 x1 x2 x3 x4 S Pw; exact tt_X3_putLine_0 (fun x0 x1 x2 x3 x4 S Pw => ih x0 x1 x2 x3 x4 S Pw)
def d_X3_putLine (x0 : Nat) (x1 : Nat) (x2 : Int32) (x3 : Int32) (x4 : Nat) (S : ZS) : Option (Int32 × ZS) := dr_X3_putLine 8 x0 x1 x2 x3 x4 S
theorem tt_X3_putLine {Pw : Int32 → ZS → Prop} {x0 : Nat} {x1 : Nat} {x2 : Int32} {x3 : Int32} {x4 : Nat} {S : ZS} : Tw Pw (d_X3_putLine x0 x1 x2 x3 x4 S) (zt S) (zu S) (fun C T => g_X3_putLine x0 x1 x2 x3 x4 S C T Pw) := tr_X3_putLine _ _ _ _ _ _ _ Pw
def d_X11_init_0 (x0 : Nat) (S : ZS) : Option (Int32 × ZS) :=
  m_bnd (zt S) (fun q1 =>
  m_bnd (zsNewO S q1 6 2) (fun S2 =>
  m_cal (f_X6_init q1 S2) (fun o5 => m_chk (zt o5.2 = zt S2 ∧ zu o5.2 = zu S2) (
  m_chk (x0 ∈ zL o5.2 ∧ zK o5.2 x0 = 11) (
  m_bnd (zsP o5.2 0 x0 (some q1)) (fun S6 =>
  m_bnd (zt S6) (fun q7 =>
  m_bnd (zsNewO S6 q7 6 2) (fun S8 =>
  m_cal (f_X6_init q7 S8) (fun o11 => m_chk (zt o11.2 = zt S8 ∧ zu o11.2 = zu S8) (
  m_chk (x0 ∈ zL o11.2 ∧ zK o11.2 x0 = 11) (
  m_bnd (zsP o11.2 1 x0 (some q7)) (fun S12 =>
  m_bnd (zt S12) (fun q13 =>
  m_bnd (zsNewO S12 q13 7 2) (fun S14 =>
  m_cal2 (d_X7_init q13 S14) (fun r18 S19 =>
  m_chk (x0 ∈ zL S19 ∧ zK S19 x0 = 11) (
  m_bnd (zsP S19 2 x0 (some q13)) (fun S22 =>
  m_bnd (zt S22) (fun q23 =>
  m_bnd (zsNewO S22 q23 8 12) (fun S24 =>
  m_cal2 (d_X8_init q23 S24) (fun r28 S29 =>
  m_chk (x0 ∈ zL S29 ∧ zK S29 x0 = 11) (
  m_bnd (zsP S29 3 x0 (some q23)) (fun S32 =>
  m_bnd (zt S32) (fun q33 =>
  m_bnd (zsNewO S32 q33 9 1) (fun S34 =>
  m_cal2 (d_X9_init q33 S34) (fun r38 S39 =>
  m_chk (x0 ∈ zL S39 ∧ zK S39 x0 = 11) (
  m_bnd (zsP S39 4 x0 (some q33)) (fun S42 =>
  m_bnd (zt S42) (fun q43 =>
  m_bnd (zsNewO S42 q43 2 12) (fun S44 =>
  m_cal2 (d_X2_init q43 S44) (fun r48 S49 =>
  m_chk (x0 ∈ zL S49 ∧ zK S49 x0 = 11) (
  m_bnd (zsP S49 5 x0 (some q43)) (fun S52 =>
  m_bnd (zt S52) (fun q53 =>
  m_bnd (zsNewO S52 q53 3 2) (fun S54 =>
  m_cal2 (d_X3_init q53 S54) (fun r58 S59 =>
  m_chk (x0 ∈ zL S59 ∧ zK S59 x0 = 11) (
  m_bnd (zsP S59 6 x0 (some q53)) (fun S62 =>
  m_bnd (zt S62) (fun q63 =>
  m_bnd (zsNewO S62 q63 1 8) (fun S64 =>
  m_cal2 (d_X1_init q63 S64) (fun r68 S69 =>
  m_chk (x0 ∈ zL S69 ∧ zK S69 x0 = 11) (
  m_bnd (zsP S69 7 x0 (some q63)) (fun S72 =>
  m_chk (x0 ∈ zL S72 ∧ zK S72 x0 = 11) (
  m_bnd (zsI S72 8 x0 (0 : Int32)) (fun S73 =>
  m_bnd (zt S73) (fun q74 =>
  m_bnd (zsNewO S73 q74 0 7) (fun S75 =>
  m_cal2 (d_X0_init q74 S75) (fun r79 S80 =>
  m_chk (x0 ∈ zL S80 ∧ zK S80 x0 = 11) (
  m_bnd (zsP S80 9 x0 (some q74)) (fun S83 =>
  m_chk (x0 ∈ zL S83 ∧ zK S83 x0 = 11) (
  m_cal (zP S83 9 x0) (fun b84 =>
  m_chk (b84 ∈ zL S83 ∧ zK S83 b84 = 0) (
  m_cal (f_X0_setUp b84 S83) (fun o85 => m_chk (zt o85.2 = zt S83 ∧ zu o85.2 = zu S83) (
  some (0, o85.2)))))))))))))))))))))))))))))))))))))))))))))))))))))))
theorem tt_X11_init_0 {Pw : Int32 → ZS → Prop}   {x0 : Nat} {S : ZS} : Tw Pw (d_X11_init_0 x0 S) (zt S) (zu S) (fun C T => g_X11_init_0 Pw x0 S C T) := by
  unfold d_X11_init_0 g_X11_init_0
  refine tw_new (fun _ => ⟨congrArg (· + 1) (⟨rfl, rfl⟩ : zt S = zt S ∧ zu S = zu S).1, congrArg (· + _) (⟨rfl, rfl⟩ : zt S = zt S ∧ zu S = zu S).2⟩) (fun q1 S2 cS2 => ?_)
  refine tw_calf cS2 (fun o5 co5 => ?_)
  refine tw_chk (fun _ => ?_)
  refine tw_bnds co5 (fun S6 cS6 => ?_)
  refine tw_new (fun _ => ⟨congrArg (· + 1) cS6.1, congrArg (· + _) cS6.2⟩) (fun q7 S8 cS8 => ?_)
  refine tw_calf cS8 (fun o11 co11 => ?_)
  refine tw_chk (fun _ => ?_)
  refine tw_bnds co11 (fun S12 cS12 => ?_)
  refine tw_new (fun _ => ⟨congrArg (· + 1) cS12.1, congrArg (· + _) cS12.2⟩) (fun q13 S14 cS14 => ?_)
  refine tw_gal (fun Pw9 => tw_at cS14 tt_X7_init) (fun r18 S19 => ?_)
  refine tw_chk (fun _ => ?_)
  refine tw_bnds (⟨rfl, rfl⟩ : zt S19 = zt S19 ∧ zu S19 = zu S19) (fun S22 cS22 => ?_)
  refine tw_new (fun _ => ⟨congrArg (· + 1) cS22.1, congrArg (· + _) cS22.2⟩) (fun q23 S24 cS24 => ?_)
  refine tw_gal (fun Pw9 => tw_at cS24 tt_X8_init) (fun r28 S29 => ?_)
  refine tw_chk (fun _ => ?_)
  refine tw_bnds (⟨rfl, rfl⟩ : zt S29 = zt S29 ∧ zu S29 = zu S29) (fun S32 cS32 => ?_)
  refine tw_new (fun _ => ⟨congrArg (· + 1) cS32.1, congrArg (· + _) cS32.2⟩) (fun q33 S34 cS34 => ?_)
  refine tw_gal (fun Pw9 => tw_at cS34 tt_X9_init) (fun r38 S39 => ?_)
  refine tw_chk (fun _ => ?_)
  refine tw_bnds (⟨rfl, rfl⟩ : zt S39 = zt S39 ∧ zu S39 = zu S39) (fun S42 cS42 => ?_)
  refine tw_new (fun _ => ⟨congrArg (· + 1) cS42.1, congrArg (· + _) cS42.2⟩) (fun q43 S44 cS44 => ?_)
  refine tw_gal (fun Pw9 => tw_at cS44 tt_X2_init) (fun r48 S49 => ?_)
  refine tw_chk (fun _ => ?_)
  refine tw_bnds (⟨rfl, rfl⟩ : zt S49 = zt S49 ∧ zu S49 = zu S49) (fun S52 cS52 => ?_)
  refine tw_new (fun _ => ⟨congrArg (· + 1) cS52.1, congrArg (· + _) cS52.2⟩) (fun q53 S54 cS54 => ?_)
  refine tw_gal (fun Pw9 => tw_at cS54 tt_X3_init) (fun r58 S59 => ?_)
  refine tw_chk (fun _ => ?_)
  refine tw_bnds (⟨rfl, rfl⟩ : zt S59 = zt S59 ∧ zu S59 = zu S59) (fun S62 cS62 => ?_)
  refine tw_new (fun _ => ⟨congrArg (· + 1) cS62.1, congrArg (· + _) cS62.2⟩) (fun q63 S64 cS64 => ?_)
  refine tw_gal (fun Pw9 => tw_at cS64 tt_X1_init) (fun r68 S69 => ?_)
  refine tw_chk (fun _ => ?_)
  refine tw_bnds (⟨rfl, rfl⟩ : zt S69 = zt S69 ∧ zu S69 = zu S69) (fun S72 cS72 => ?_)
  refine tw_chk (fun _ => ?_)
  refine tw_bnds cS72 (fun S73 cS73 => ?_)
  refine tw_new (fun _ => ⟨congrArg (· + 1) cS73.1, congrArg (· + _) cS73.2⟩) (fun q74 S75 cS75 => ?_)
  refine tw_gal (fun Pw9 => tw_at cS75 tt_X0_init) (fun r79 S80 => ?_)
  refine tw_chk (fun _ => ?_)
  refine tw_bnds (⟨rfl, rfl⟩ : zt S80 = zt S80 ∧ zu S80 = zu S80) (fun S83 cS83 => ?_)
  refine tw_chk (fun _ => ?_)
  refine tw_calv (fun b84 => ?_)
  refine tw_chk (fun _ => ?_)
  refine tw_calf cS83 (fun o85 co85 => ?_)
  exact tw_ret co85
def d_X11_init (x0 : Nat) (S : ZS) : Option (Int32 × ZS) := d_X11_init_0 x0 S
theorem tt_X11_init {Pw : Int32 → ZS → Prop} {x0 : Nat} {S : ZS} : Tw Pw (d_X11_init x0 S) (zt S) (zu S) (fun C T => g_X11_init x0 S C T Pw) := tt_X11_init_0
def d_X11_type_26 (S : ZS) : Option (Int32 × ZS) :=
  m_chk (vp_nar .boolean (0 : Int32) = (0 : Int32)) (
  some ((0 : Int32), S))
theorem tt_X11_type_26 {Pw : Int32 → ZS → Prop}   {S : ZS} : Tw Pw (d_X11_type_26 S) (zt S) (zu S) (fun C T => g_X11_type_26 Pw S C T) := by
  unfold d_X11_type_26 g_X11_type_26
  refine tw_chk (fun _ => ?_)
  exact tw_ret (⟨rfl, rfl⟩ : zt S = zt S ∧ zu S = zu S)
def d_X11_type_77s (self77 : Nat → Int64 → Int32 → Int32 → ZS → Option (Int32 × ZS)) (x0 : Nat) (x1 : Int64) (x3 : Int32) (x4 : Int32) (S : ZS) : Option (Int32 × ZS) :=
  m_if (x3 ≤ x4) (
  m_chk (vp_nar .boolean (1 : Int32) = (1 : Int32)) (
  some ((1 : Int32), S))
  ) (
  m_chk (x0 ∈ zL S ∧ zK S x0 = 11) (
  m_cal (zP S 0 x0) (fun b1 =>
  m_cal (f_X11_byteOf x1 x4 S) (fun o2 => m_chk (zt o2.2 = zt S ∧ zu o2.2 = zu S) (
  m_chk (b1 ∈ zL o2.2 ∧ zK o2.2 b1 = 6) (
  m_cal2 (d_X6_put b1 o2.1 o2.2) (fun r4 S5 =>
  m_bnd (x4 + (1 : Int32)) (fun v8 =>
  self77 x0 x1 x3 v8 S5)))))))
  )
theorem tt_X11_type_77s {Pw : Int32 → ZS → Prop} {self77 : Nat → Int64 → Int32 → Int32 → ZS → Option (Int32 × ZS)} {self77g : Nat → Int64 → Int32 → Int32 → ZS → Nat → Nat → Prop} (hself77 : ∀ (y0 : Nat) (y1 : Int64) (y2 : Int32) (y3 : Int32) (S : ZS), Tw Pw (self77 y0 y1 y2 y3 S) (zt S) (zu S) (fun C T => self77g y0 y1 y2 y3 S C T)) {x0 : Nat} {x1 : Int64} {x3 : Int32} {x4 : Int32} {S : ZS} : Tw Pw (d_X11_type_77s self77 x0 x1 x3 x4 S) (zt S) (zu S) (fun C T => g_X11_type_77s Pw self77g x0 x1 x3 x4 S C T) := by
  unfold d_X11_type_77s g_X11_type_77s
  refine tw_if (fun _ => ?_) (fun _ => ?_)
  ·
    refine tw_chk (fun _ => ?_)
    exact tw_ret (⟨rfl, rfl⟩ : zt S = zt S ∧ zu S = zu S)
  ·
    refine tw_chk (fun _ => ?_)
    refine tw_calv (fun b1 => ?_)
    refine tw_calf (⟨rfl, rfl⟩ : zt S = zt S ∧ zu S = zu S) (fun o2 co2 => ?_)
    refine tw_chk (fun _ => ?_)
    refine tw_gal (fun Pw9 => tw_at co2 tt_X6_put) (fun r4 S5 => ?_)
    refine tw_bndv (fun v8 => ?_)
    exact tw_at (⟨rfl, rfl⟩ : zt S5 = zt S5 ∧ zu S5 = zu S5) (hself77 _ _ _ _ _)
def d_X11_type_77  : Nat → Nat → Int64 → Int32 → Int32 → ZS → Option (Int32 × ZS)
  | 0 => fun _ _ _ _ _ => none
  | n + 1 => d_X11_type_77s  (d_X11_type_77  n)
theorem tt_X11_type_77 {Pw : Int32 → ZS → Prop}   {n : Nat} : ∀ {z0 : Nat} {z1 : Int64} {z2 : Int32} {z3 : Int32} {S : ZS}, Tw Pw (d_X11_type_77  n z0 z1 z2 z3 S) (zt S) (zu S) (fun C T => g_X11_type_77 Pw  n z0 z1 z2 z3 S C T) := by
  induction n with
  | zero => intro z0 z1 z2 z3 S; exact tw_none
  | succ n ih => intro z0 z1 z2 z3 S; exact tt_X11_type_77s  (fun _ _ _ _ _ => ih)
def d_X11_type_68 (self31 : Nat → Int64 → Int32 → Int32 → ZS → Option (Int32 × ZS)) (x0 : Nat) (x1 : Int64) (x3 : Int32) (x4 : Int32) (S : ZS) : Option (Int32 × ZS) :=
  m_bnd (x4 + (1 : Int32)) (fun v1 =>
  self31 x0 x1 x3 v1 S)
theorem tt_X11_type_68 {Pw : Int32 → ZS → Prop} {self31 : Nat → Int64 → Int32 → Int32 → ZS → Option (Int32 × ZS)} {self31g : Nat → Int64 → Int32 → Int32 → ZS → Nat → Nat → Prop} (hself31 : ∀ (y0 : Nat) (y1 : Int64) (y2 : Int32) (y3 : Int32) (S : ZS), Tw Pw (self31 y0 y1 y2 y3 S) (zt S) (zu S) (fun C T => self31g y0 y1 y2 y3 S C T)) {x0 : Nat} {x1 : Int64} {x3 : Int32} {x4 : Int32} {S : ZS} : Tw Pw (d_X11_type_68 self31 x0 x1 x3 x4 S) (zt S) (zu S) (fun C T => g_X11_type_68 Pw self31g x0 x1 x3 x4 S C T) := by
  unfold d_X11_type_68 g_X11_type_68
  refine tw_bndv (fun v1 => ?_)
  exact tw_at (⟨rfl, rfl⟩ : zt S = zt S ∧ zu S = zu S) (hself31 _ _ _ _ _)
def d_X11_type_66 (S : ZS) : Option (Int32 × ZS) :=
  m_chk (vp_nar .boolean (0 : Int32) = (0 : Int32)) (
  some ((0 : Int32), S))
theorem tt_X11_type_66 {Pw : Int32 → ZS → Prop}   {S : ZS} : Tw Pw (d_X11_type_66 S) (zt S) (zu S) (fun C T => g_X11_type_66 Pw S C T) := by
  unfold d_X11_type_66 g_X11_type_66
  refine tw_chk (fun _ => ?_)
  exact tw_ret (⟨rfl, rfl⟩ : zt S = zt S ∧ zu S = zu S)
def d_X11_type_31s (self31 : Nat → Int64 → Int32 → Int32 → ZS → Option (Int32 × ZS)) (x0 : Nat) (x1 : Int64) (x3 : Int32) (x4 : Int32) (S : ZS) : Option (Int32 × ZS) :=
  m_if (x3 ≤ x4) (
  d_X11_type_77 mFuel x0 x1 x3 (0 : Int32) S
  ) (
  m_cal (f_X11_byteOf x1 x4 S) (fun o1 => m_chk (zt o1.2 = zt S ∧ zu o1.2 = zu S) (
  m_if (o1.1 = (10 : Int32)) (
  d_X11_type_68 self31 x0 x1 x3 x4 o1.2
  ) (
  m_if (o1.1 < (32 : Int32)) (
  d_X11_type_66 o1.2
  ) (
  m_if (o1.1 ≤ (126 : Int32)) (
  d_X11_type_68 self31 x0 x1 x3 x4 o1.2
  ) (
  d_X11_type_66 o1.2
  )
  )
  )))
  )
theorem tt_X11_type_31s {Pw : Int32 → ZS → Prop} {self31 : Nat → Int64 → Int32 → Int32 → ZS → Option (Int32 × ZS)} {self31g : Nat → Int64 → Int32 → Int32 → ZS → Nat → Nat → Prop} (hself31 : ∀ (y0 : Nat) (y1 : Int64) (y2 : Int32) (y3 : Int32) (S : ZS), Tw Pw (self31 y0 y1 y2 y3 S) (zt S) (zu S) (fun C T => self31g y0 y1 y2 y3 S C T)) {x0 : Nat} {x1 : Int64} {x3 : Int32} {x4 : Int32} {S : ZS} : Tw Pw (d_X11_type_31s self31 x0 x1 x3 x4 S) (zt S) (zu S) (fun C T => g_X11_type_31s Pw self31g x0 x1 x3 x4 S C T) := by
  unfold d_X11_type_31s g_X11_type_31s
  refine tw_if (fun _ => ?_) (fun _ => ?_)
  ·
    exact tw_at (⟨rfl, rfl⟩ : zt S = zt S ∧ zu S = zu S) (tt_X11_type_77)
  ·
    refine tw_calf (⟨rfl, rfl⟩ : zt S = zt S ∧ zu S = zu S) (fun o1 co1 => ?_)
    refine tw_if (fun _ => ?_) (fun _ => ?_)
    ·
      exact tw_at co1 (tt_X11_type_68 hself31)
    ·
      refine tw_if (fun _ => ?_) (fun _ => ?_)
      ·
        exact tw_at co1 (tt_X11_type_66)
      ·
        refine tw_if (fun _ => ?_) (fun _ => ?_)
        ·
          exact tw_at co1 (tt_X11_type_68 hself31)
        ·
          exact tw_at co1 (tt_X11_type_66)
def d_X11_type_31  : Nat → Nat → Int64 → Int32 → Int32 → ZS → Option (Int32 × ZS)
  | 0 => fun _ _ _ _ _ => none
  | n + 1 => d_X11_type_31s  (d_X11_type_31  n)
theorem tt_X11_type_31 {Pw : Int32 → ZS → Prop}   {n : Nat} : ∀ {z0 : Nat} {z1 : Int64} {z2 : Int32} {z3 : Int32} {S : ZS}, Tw Pw (d_X11_type_31  n z0 z1 z2 z3 S) (zt S) (zu S) (fun C T => g_X11_type_31 Pw  n z0 z1 z2 z3 S C T) := by
  induction n with
  | zero => intro z0 z1 z2 z3 S; exact tw_none
  | succ n ih => intro z0 z1 z2 z3 S; exact tt_X11_type_31s  (fun _ _ _ _ _ => ih)
def d_X11_type_0 (x0 : Nat) (x1 : Int64) (x3 : Int32) (S : ZS) : Option (Int32 × ZS) :=
  m_if (x3 < (1 : Int32)) (
  d_X11_type_26 S
  ) (
  m_if ((8 : Int32) < x3) (
  d_X11_type_26 S
  ) (
  m_chk (x0 ∈ zL S ∧ zK S x0 = 11) (
  m_cal (zP S 0 x0) (fun b1 =>
  m_chk (b1 ∈ zL S ∧ zK S b1 = 6) (
  m_cal (f_X6_size b1 S) (fun o2 => m_chk (zt o2.2 = zt S ∧ zu o2.2 = zu S) (
  m_bnd (o2.1 + x3) (fun v3 =>
  m_if (v3 ≤ (2000 : Int32)) (
  d_X11_type_31 mFuel x0 x1 x3 (0 : Int32) o2.2
  ) (
  d_X11_type_26 o2.2
  )))))))
  )
  )
theorem tt_X11_type_0 {Pw : Int32 → ZS → Prop}   {x0 : Nat} {x1 : Int64} {x3 : Int32} {S : ZS} : Tw Pw (d_X11_type_0 x0 x1 x3 S) (zt S) (zu S) (fun C T => g_X11_type_0 Pw x0 x1 x3 S C T) := by
  unfold d_X11_type_0 g_X11_type_0
  refine tw_if (fun _ => ?_) (fun _ => ?_)
  ·
    exact tw_at (⟨rfl, rfl⟩ : zt S = zt S ∧ zu S = zu S) (tt_X11_type_26)
  ·
    refine tw_if (fun _ => ?_) (fun _ => ?_)
    ·
      exact tw_at (⟨rfl, rfl⟩ : zt S = zt S ∧ zu S = zu S) (tt_X11_type_26)
    ·
      refine tw_chk (fun _ => ?_)
      refine tw_calv (fun b1 => ?_)
      refine tw_chk (fun _ => ?_)
      refine tw_calf (⟨rfl, rfl⟩ : zt S = zt S ∧ zu S = zu S) (fun o2 co2 => ?_)
      refine tw_bndv (fun v3 => ?_)
      refine tw_if (fun _ => ?_) (fun _ => ?_)
      ·
        exact tw_at co2 (tt_X11_type_31)
      ·
        exact tw_at co2 (tt_X11_type_26)
def d_X11_type (x0 : Nat) (x1 : Int64) (x3 : Int32) (S : ZS) : Option (Int32 × ZS) := d_X11_type_0 x0 x1 x3 S
theorem tt_X11_type {Pw : Int32 → ZS → Prop} {x0 : Nat} {x1 : Int64} {x3 : Int32} {S : ZS} : Tw Pw (d_X11_type x0 x1 x3 S) (zt S) (zu S) (fun C T => g_X11_type x0 x1 x3 S C T Pw) := tt_X11_type_0
def d_X11_read_41 (x0 : Nat) (S : ZS) : Option (Int32 × ZS) :=
  m_chk (x0 ∈ zL S ∧ zK S x0 = 11) (
  m_cal (zP S 5 x0) (fun b1 =>
  m_chk (b1 ∈ zL S ∧ zK S b1 = 2) (
  m_cal (f_X2_fault b1 S) (fun o2 => m_chk (zt o2.2 = zt S ∧ zu o2.2 = zu S) (
  some (o2.1, o2.2))))))
theorem tt_X11_read_41 {Pw : Int32 → ZS → Prop}   {x0 : Nat} {S : ZS} : Tw Pw (d_X11_read_41 x0 S) (zt S) (zu S) (fun C T => g_X11_read_41 Pw x0 S C T) := by
  unfold d_X11_read_41 g_X11_read_41
  refine tw_chk (fun _ => ?_)
  refine tw_calv (fun b1 => ?_)
  refine tw_chk (fun _ => ?_)
  refine tw_calf (⟨rfl, rfl⟩ : zt S = zt S ∧ zu S = zu S) (fun o2 co2 => ?_)
  exact tw_ret co2
def d_X11_read_0 (x0 : Nat) (S : ZS) : Option (Int32 × ZS) :=
  m_chk (x0 ∈ zL S ∧ zK S x0 = 11) (
  m_cal (zP S 5 x0) (fun b1 =>
  m_chk (x0 ∈ zL S ∧ zK S x0 = 11) (
  m_cal (zP S 0 x0) (fun b2 =>
  m_chk (b1 ∈ zL S ∧ zK S b1 = 2) (
  m_cal (f_X2_begin b1 b2 S) (fun o3 => m_chk (zt o3.2 = zt S ∧ zu o3.2 = zu S) (
  m_chk (x0 ∈ zL o3.2 ∧ zK o3.2 x0 = 11) (
  m_cal (zP o3.2 5 x0) (fun b4 =>
  m_chk (b4 ∈ zL o3.2 ∧ zK o3.2 b4 = 2) (
  m_cal2 (d_X2_readHead b4 o3.2) (fun r6 S7 =>
  m_if (r6 = 0) (
  d_X11_read_41 x0 S7
  ) (
  m_chk (x0 ∈ zL S7 ∧ zK S7 x0 = 11) (
  m_cal (zP S7 5 x0) (fun b10 =>
  m_chk (b10 ∈ zL S7 ∧ zK S7 b10 = 2) (
  m_cal2 (d_X2_readMoves b10 S7) (fun r12 S13 =>
  m_if (r12 = 0) (
  d_X11_read_41 x0 S13
  ) (
  m_chk (x0 ∈ zL S13 ∧ zK S13 x0 = 11) (
  m_cal (zP S13 5 x0) (fun b16 =>
  m_chk (b16 ∈ zL S13 ∧ zK S13 b16 = 2) (
  m_cal2 (d_X2_readEnd b16 S13) (fun r18 S19 =>
  m_if (r18 = 0) (
  d_X11_read_41 x0 S19
  ) (
  m_chk (x0 ∈ zL S19 ∧ zK S19 x0 = 11) (
  m_cal (zP S19 5 x0) (fun b22 =>
  m_chk (x0 ∈ zL S19 ∧ zK S19 x0 = 11) (
  m_cal (zP S19 7 x0) (fun b23 =>
  m_chk (b22 ∈ zL S19 ∧ zK S19 b22 = 2) (
  m_cal (f_X2_exchange b22 b23 S19) (fun o24 => m_chk (zt o24.2 = zt S19 ∧ zu o24.2 = zu S19) (
  m_chk (x0 ∈ zL o24.2 ∧ zK o24.2 x0 = 11) (
  m_bnd (zsP o24.2 7 x0 (some o24.1)) (fun S25 =>
  m_chk (x0 ∈ zL S25 ∧ zK S25 x0 = 11) (
  m_cal (zP S25 0 x0) (fun b26 =>
  m_chk (b26 ∈ zL S25 ∧ zK S25 b26 = 6) (
  m_cal (f_X6_keep b26 (0 : Int32) S25) (fun o27 => m_chk (zt o27.2 = zt S25 ∧ zu o27.2 = zu S25) (
  m_chk (x0 ∈ zL o27.2 ∧ zK o27.2 x0 = 11) (
  m_bnd (zsI o27.2 8 x0 (0 : Int32)) (fun S28 =>
  m_chk (x0 ∈ zL S28 ∧ zK S28 x0 = 11) (
  m_cal (zP S28 7 x0) (fun b29 =>
  m_chk (x0 ∈ zL S28 ∧ zK S28 x0 = 11) (
  m_cal (zP S28 9 x0) (fun b30 =>
  m_chk (b29 ∈ zL S28 ∧ zK S28 b29 = 1) (
  m_cal (f_X1_standAt b29 (0 : Int32) b30 S28) (fun o31 => m_chk (zt o31.2 = zt S28 ∧ zu o31.2 = zu S28) (
  some ((0 : Int32), o31.2))))))))))))))))))))))))
  )))))
  )))))
  ))))))))))))
theorem tt_X11_read_0 {Pw : Int32 → ZS → Prop}   {x0 : Nat} {S : ZS} : Tw Pw (d_X11_read_0 x0 S) (zt S) (zu S) (fun C T => g_X11_read_0 Pw x0 S C T) := by
  unfold d_X11_read_0 g_X11_read_0
  refine tw_chk (fun _ => ?_)
  refine tw_calv (fun b1 => ?_)
  refine tw_chk (fun _ => ?_)
  refine tw_calv (fun b2 => ?_)
  refine tw_chk (fun _ => ?_)
  refine tw_calf (⟨rfl, rfl⟩ : zt S = zt S ∧ zu S = zu S) (fun o3 co3 => ?_)
  refine tw_chk (fun _ => ?_)
  refine tw_calv (fun b4 => ?_)
  refine tw_chk (fun _ => ?_)
  refine tw_gal (fun Pw9 => tw_at co3 tt_X2_readHead) (fun r6 S7 => ?_)
  refine tw_if (fun _ => ?_) (fun _ => ?_)
  ·
    exact tw_at (⟨rfl, rfl⟩ : zt S7 = zt S7 ∧ zu S7 = zu S7) (tt_X11_read_41)
  ·
    refine tw_chk (fun _ => ?_)
    refine tw_calv (fun b10 => ?_)
    refine tw_chk (fun _ => ?_)
    refine tw_gal (fun Pw9 => tw_at (⟨rfl, rfl⟩ : zt S7 = zt S7 ∧ zu S7 = zu S7) tt_X2_readMoves) (fun r12 S13 => ?_)
    refine tw_if (fun _ => ?_) (fun _ => ?_)
    ·
      exact tw_at (⟨rfl, rfl⟩ : zt S13 = zt S13 ∧ zu S13 = zu S13) (tt_X11_read_41)
    ·
      refine tw_chk (fun _ => ?_)
      refine tw_calv (fun b16 => ?_)
      refine tw_chk (fun _ => ?_)
      refine tw_gal (fun Pw9 => tw_at (⟨rfl, rfl⟩ : zt S13 = zt S13 ∧ zu S13 = zu S13) tt_X2_readEnd) (fun r18 S19 => ?_)
      refine tw_if (fun _ => ?_) (fun _ => ?_)
      ·
        exact tw_at (⟨rfl, rfl⟩ : zt S19 = zt S19 ∧ zu S19 = zu S19) (tt_X11_read_41)
      ·
        refine tw_chk (fun _ => ?_)
        refine tw_calv (fun b22 => ?_)
        refine tw_chk (fun _ => ?_)
        refine tw_calv (fun b23 => ?_)
        refine tw_chk (fun _ => ?_)
        refine tw_calf (⟨rfl, rfl⟩ : zt S19 = zt S19 ∧ zu S19 = zu S19) (fun o24 co24 => ?_)
        refine tw_chk (fun _ => ?_)
        refine tw_bnds co24 (fun S25 cS25 => ?_)
        refine tw_chk (fun _ => ?_)
        refine tw_calv (fun b26 => ?_)
        refine tw_chk (fun _ => ?_)
        refine tw_calf cS25 (fun o27 co27 => ?_)
        refine tw_chk (fun _ => ?_)
        refine tw_bnds co27 (fun S28 cS28 => ?_)
        refine tw_chk (fun _ => ?_)
        refine tw_calv (fun b29 => ?_)
        refine tw_chk (fun _ => ?_)
        refine tw_calv (fun b30 => ?_)
        refine tw_chk (fun _ => ?_)
        refine tw_calf cS28 (fun o31 co31 => ?_)
        exact tw_ret co31
def d_X11_read (x0 : Nat) (S : ZS) : Option (Int32 × ZS) := d_X11_read_0 x0 S
theorem tt_X11_read {Pw : Int32 → ZS → Prop} {x0 : Nat} {S : ZS} : Tw Pw (d_X11_read x0 S) (zt S) (zu S) (fun C T => g_X11_read x0 S C T Pw) := tt_X11_read_0
def d_X11_find_0 (x0 : Nat) (S : ZS) : Option (Int32 × ZS) :=
  m_chk (x0 ∈ zL S ∧ zK S x0 = 11) (
  m_cal (zP S 3 x0) (fun b1 =>
  m_chk (x0 ∈ zL S ∧ zK S x0 = 11) (
  m_cal (zP S 9 x0) (fun b2 =>
  m_chk (x0 ∈ zL S ∧ zK S x0 = 11) (
  m_cal (zP S 0 x0) (fun b3 =>
  m_chk (x0 ∈ zL S ∧ zK S x0 = 11) (
  m_cal (zP S 0 x0) (fun b4 =>
  m_chk (b4 ∈ zL S ∧ zK S b4 = 6) (
  m_cal (f_X6_size b4 S) (fun o5 => m_chk (zt o5.2 = zt S ∧ zu o5.2 = zu S) (
  m_chk (b1 ∈ zL o5.2 ∧ zK o5.2 b1 = 8) (
  m_cal2 (d_X8_matched b1 b2 b3 (0 : Int32) o5.1 o5.2) (fun r7 S8 =>
  some (r7, S8))))))))))))))
theorem tt_X11_find_0 {Pw : Int32 → ZS → Prop}   {x0 : Nat} {S : ZS} : Tw Pw (d_X11_find_0 x0 S) (zt S) (zu S) (fun C T => g_X11_find_0 Pw x0 S C T) := by
  unfold d_X11_find_0 g_X11_find_0
  refine tw_chk (fun _ => ?_)
  refine tw_calv (fun b1 => ?_)
  refine tw_chk (fun _ => ?_)
  refine tw_calv (fun b2 => ?_)
  refine tw_chk (fun _ => ?_)
  refine tw_calv (fun b3 => ?_)
  refine tw_chk (fun _ => ?_)
  refine tw_calv (fun b4 => ?_)
  refine tw_chk (fun _ => ?_)
  refine tw_calf (⟨rfl, rfl⟩ : zt S = zt S ∧ zu S = zu S) (fun o5 co5 => ?_)
  refine tw_chk (fun _ => ?_)
  refine tw_gal (fun Pw9 => tw_at co5 tt_X8_matched) (fun r7 S8 => ?_)
  exact tw_ret (⟨rfl, rfl⟩ : zt S8 = zt S8 ∧ zu S8 = zu S8)
def d_X11_find (x0 : Nat) (S : ZS) : Option (Int32 × ZS) := d_X11_find_0 x0 S
theorem tt_X11_find {Pw : Int32 → ZS → Prop} {x0 : Nat} {S : ZS} : Tw Pw (d_X11_find x0 S) (zt S) (zu S) (fun C T => g_X11_find x0 S C T Pw) := tt_X11_find_0
def d_X11_write_0 (x0 : Nat) (S : ZS) : Option (Int32 × ZS) :=
  m_chk (x0 ∈ zL S ∧ zK S x0 = 11) (
  m_cal (zP S 1 x0) (fun b1 =>
  m_chk (b1 ∈ zL S ∧ zK S b1 = 6) (
  m_cal (f_X6_keep b1 (0 : Int32) S) (fun o2 => m_chk (zt o2.2 = zt S ∧ zu o2.2 = zu S) (
  m_chk (x0 ∈ zL o2.2 ∧ zK o2.2 x0 = 11) (
  m_cal (zP o2.2 6 x0) (fun b3 =>
  m_chk (x0 ∈ zL o2.2 ∧ zK o2.2 x0 = 11) (
  m_cal (zP o2.2 7 x0) (fun b4 =>
  m_chk (x0 ∈ zL o2.2 ∧ zK o2.2 x0 = 11) (
  m_cal (zP o2.2 1 x0) (fun b5 =>
  m_chk (b3 ∈ zL o2.2 ∧ zK o2.2 b3 = 3) (
  m_cal2 (d_X3_putHead b3 b4 b5 o2.2) (fun r7 S8 =>
  m_chk (x0 ∈ zL S8 ∧ zK S8 x0 = 11) (
  m_cal (zP S8 6 x0) (fun b11 =>
  m_chk (x0 ∈ zL S8 ∧ zK S8 x0 = 11) (
  m_cal (zP S8 7 x0) (fun b12 =>
  m_chk (x0 ∈ zL S8 ∧ zK S8 x0 = 11) (
  m_cal (zP S8 7 x0) (fun b13 =>
  m_chk (b13 ∈ zL S8 ∧ zK S8 b13 = 1) (
  m_cal (f_X1_at b13 (0 : Int32) S8) (fun o14 => m_chk (zt o14.2 = zt S8 ∧ zu o14.2 = zu S8) (
  m_chk (o14.1 ∈ zL o14.2 ∧ zK o14.2 o14.1 = 4) (
  m_chk (x0 ∈ zL o14.2 ∧ zK o14.2 x0 = 11) (
  m_cal (zP o14.2 1 x0) (fun b15 =>
  m_chk (b11 ∈ zL o14.2 ∧ zK o14.2 b11 = 3) (
  m_cal2 (d_X3_putLine b11 b12 (zI o14.2 2 o14.1) (0 : Int32) b15 o14.2) (fun r17 S18 =>
  m_chk (x0 ∈ zL S18 ∧ zK S18 x0 = 11) (
  m_cal (zP S18 6 x0) (fun b21 =>
  m_chk (x0 ∈ zL S18 ∧ zK S18 x0 = 11) (
  m_cal (zP S18 7 x0) (fun b22 =>
  m_chk (x0 ∈ zL S18 ∧ zK S18 x0 = 11) (
  m_cal (zP S18 1 x0) (fun b23 =>
  m_chk (b21 ∈ zL S18 ∧ zK S18 b21 = 3) (
  m_cal2 (d_X3_putEnd b21 b22 b23 S18) (fun r25 S26 =>
  m_chk (x0 ∈ zL S26 ∧ zK S26 x0 = 11) (
  m_cal (zP S26 1 x0) (fun b29 =>
  m_chk (b29 ∈ zL S26 ∧ zK S26 b29 = 6) (
  m_cal (f_X6_size b29 S26) (fun o30 => m_chk (zt o30.2 = zt S26 ∧ zu o30.2 = zu S26) (
  some (o30.1, o30.2)))))))))))))))))))))))))))))))))))))))))
theorem tt_X11_write_0 {Pw : Int32 → ZS → Prop}   {x0 : Nat} {S : ZS} : Tw Pw (d_X11_write_0 x0 S) (zt S) (zu S) (fun C T => g_X11_write_0 Pw x0 S C T) := by
  unfold d_X11_write_0 g_X11_write_0
  refine tw_chk (fun _ => ?_)
  refine tw_calv (fun b1 => ?_)
  refine tw_chk (fun _ => ?_)
  refine tw_calf (⟨rfl, rfl⟩ : zt S = zt S ∧ zu S = zu S) (fun o2 co2 => ?_)
  refine tw_chk (fun _ => ?_)
  refine tw_calv (fun b3 => ?_)
  refine tw_chk (fun _ => ?_)
  refine tw_calv (fun b4 => ?_)
  refine tw_chk (fun _ => ?_)
  refine tw_calv (fun b5 => ?_)
  refine tw_chk (fun _ => ?_)
  refine tw_gal (fun Pw9 => tw_at co2 tt_X3_putHead) (fun r7 S8 => ?_)
  refine tw_chk (fun _ => ?_)
  refine tw_calv (fun b11 => ?_)
  refine tw_chk (fun _ => ?_)
  refine tw_calv (fun b12 => ?_)
  refine tw_chk (fun _ => ?_)
  refine tw_calv (fun b13 => ?_)
  refine tw_chk (fun _ => ?_)
  refine tw_calf (⟨rfl, rfl⟩ : zt S8 = zt S8 ∧ zu S8 = zu S8) (fun o14 co14 => ?_)
  refine tw_chk (fun _ => ?_)
  refine tw_chk (fun _ => ?_)
  refine tw_calv (fun b15 => ?_)
  refine tw_chk (fun _ => ?_)
  refine tw_gal (fun Pw9 => tw_at co14 tt_X3_putLine) (fun r17 S18 => ?_)
  refine tw_chk (fun _ => ?_)
  refine tw_calv (fun b21 => ?_)
  refine tw_chk (fun _ => ?_)
  refine tw_calv (fun b22 => ?_)
  refine tw_chk (fun _ => ?_)
  refine tw_calv (fun b23 => ?_)
  refine tw_chk (fun _ => ?_)
  refine tw_gal (fun Pw9 => tw_at (⟨rfl, rfl⟩ : zt S18 = zt S18 ∧ zu S18 = zu S18) tt_X3_putEnd) (fun r25 S26 => ?_)
  refine tw_chk (fun _ => ?_)
  refine tw_calv (fun b29 => ?_)
  refine tw_chk (fun _ => ?_)
  refine tw_calf (⟨rfl, rfl⟩ : zt S26 = zt S26 ∧ zu S26 = zu S26) (fun o30 co30 => ?_)
  exact tw_ret co30
def d_X11_write (x0 : Nat) (S : ZS) : Option (Int32 × ZS) := d_X11_write_0 x0 S
theorem tt_X11_write {Pw : Int32 → ZS → Prop} {x0 : Nat} {S : ZS} : Tw Pw (d_X11_write x0 S) (zt S) (zu S) (fun C T => g_X11_write x0 S C T Pw) := tt_X11_write_0
