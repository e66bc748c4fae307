def d_X9_putSigns (x0 : Nat) (x1 : Nat) (x2 : Int32) (x3 : Nat) (S : ZS) : Option (Int32 × ZS) := d_X9_putSigns_0 x0 x1 x2 x3 S
theorem tt_X9_putSigns {Pw : Int32 → ZS → Prop} {x0 : Nat} {x1 : Nat} {x2 : Int32} {x3 : Nat} {S : ZS} : Tw Pw (d_X9_putSigns x0 x1 x2 x3 S) (zt S) (zu S) (fun C T => g_X9_putSigns x0 x1 x2 x3 S C T Pw) := tt_X9_putSigns_0
def d_X3_putMove_66s (self66 : Nat → Nat → Int32 → ZS → Option (Int32 × ZS)) (x2 : Nat) (x4 : Nat) (x5 : Int32) (S : ZS) : Option (Int32 × ZS) :=
  m_chk (zK S x2 = 4) (
  m_if ((zI S 4 x2) ≤ x5) (
  m_cal2 (d_X3_putRemark x2 x4 S) (fun r2 S3 =>
  some (0, S3))
  ) (
  m_cal2 (d_X3_putGap x4 S) (fun r7 S8 =>
  m_chk (zK S8 x4 = 6) (
  m_cal2 (d_X6_put x4 (36 : Int32) S8) (fun r12 S13 =>
  m_chk (zK S13 x2 = 4) (
  m_cal (f_X4_markAt x2 x5 S13) (fun o16 => m_chk (zt o16.2 = zt S13 ∧ zu o16.2 = zu S13) (
  m_chk (zK o16.2 x4 = 6) (
  m_cal2 (d_X6_putNumber x4 o16.1 o16.2) (fun r18 S19 =>
  m_bnd (x5 + (1 : Int32)) (fun v22 =>
  self66 x2 x4 v22 S19)))))))))
  ))
theorem tt_X3_putMove_66s {Pw : Int32 → ZS → Prop} {self66 : Nat → Nat → Int32 → ZS → Option (Int32 × ZS)} {self66g : Nat → Nat → Int32 → ZS → Nat → Nat → Prop} (hself66 : ∀ (y0 : Nat) (y1 : Nat) (y2 : Int32) (S : ZS), Tw Pw (self66 y0 y1 y2 S) (zt S) (zu S) (fun C T => self66g y0 y1 y2 S C T)) {x2 : Nat} {x4 : Nat} {x5 : Int32} {S : ZS} : Tw Pw (d_X3_putMove_66s self66 x2 x4 x5 S) (zt S) (zu S) (fun C T => g_X3_putMove_66s Pw self66g x2 x4 x5 S C T) := by
  unfold d_X3_putMove_66s g_X3_putMove_66s
  refine tw_chk (fun _ => ?_)
  refine tw_if (fun _ => ?_) (fun _ => ?_)
  ·
    refine tw_gal (fun Pw9 => tw_at (⟨rfl, rfl⟩ : zt S = zt S ∧ zu S = zu S) tt_X3_putRemark) (fun r2 S3 => ?_)
    exact tw_ret (⟨rfl, rfl⟩ : zt S3 = zt S3 ∧ zu S3 = zu S3)
  ·
    refine tw_gal (fun Pw9 => tw_at (⟨rfl, rfl⟩ : zt S = zt S ∧ zu S = zu S) tt_X3_putGap) (fun r7 S8 => ?_)
    refine tw_chk (fun _ => ?_)
    refine tw_gal (fun Pw9 => tw_at (⟨rfl, rfl⟩ : zt S8 = zt S8 ∧ zu S8 = zu S8) tt_X6_put) (fun r12 S13 => ?_)
    refine tw_chk (fun _ => ?_)
    refine tw_calf (⟨rfl, rfl⟩ : zt S13 = zt S13 ∧ zu S13 = zu S13) (fun o16 co16 => ?_)
    refine tw_chk (fun _ => ?_)
    refine tw_gal (fun Pw9 => tw_at co16 tt_X6_putNumber) (fun r18 S19 => ?_)
    refine tw_bndv (fun v22 => ?_)
    exact tw_at (⟨rfl, rfl⟩ : zt S19 = zt S19 ∧ zu S19 = zu S19) (hself66 _ _ _ _)
def d_X3_putMove_66  : Nat → Nat → Nat → Int32 → ZS → Option (Int32 × ZS)
  | 0 => fun _ _ _ _ => none
  | n + 1 => d_X3_putMove_66s  (d_X3_putMove_66  n)
theorem tt_X3_putMove_66 {Pw : Int32 → ZS → Prop}   {n : Nat} : ∀ {z0 : Nat} {z1 : Nat} {z2 : Int32} {S : ZS}, Tw Pw (d_X3_putMove_66  n z0 z1 z2 S) (zt S) (zu S) (fun C T => g_X3_putMove_66 Pw  n z0 z1 z2 S C T) := by
  induction n with
  | zero => intro z0 z1 z2 S; exact tw_none
  | succ n ih => intro z0 z1 z2 S; exact tt_X3_putMove_66s  (fun _ _ _ _ => ih)
def d_X3_putMove_44 (x0 : Nat) (x1 : Nat) (x2 : Nat) (x4 : Nat) (S : ZS) : Option (Int32 × ZS) :=
  m_cal2 (d_X3_putGap x4 S) (fun r2 S3 =>
  m_chk (zK S3 x0 = 3) (
  m_cal (zP S3 0 x0) (fun b6 =>
  m_chk (zK S3 x2 = 4) (
  m_chk (zK S3 b6 = 9) (
  m_cal2 (d_X9_putSigns b6 x1 (zI S3 1 x2) x4 S3) (fun r8 S9 =>
  d_X3_putMove_66 mFuel x2 x4 (0 : Int32) S9))))))
theorem tt_X3_putMove_44 {Pw : Int32 → ZS → Prop}   {x0 : Nat} {x1 : Nat} {x2 : Nat} {x4 : Nat} {S : ZS} : Tw Pw (d_X3_putMove_44 x0 x1 x2 x4 S) (zt S) (zu S) (fun C T => g_X3_putMove_44 Pw x0 x1 x2 x4 S C T) := by
  unfold d_X3_putMove_44 g_X3_putMove_44
  refine tw_gal (fun Pw9 => tw_at (⟨rfl, rfl⟩ : zt S = zt S ∧ zu S = zu S) tt_X3_putGap) (fun r2 S3 => ?_)
  refine tw_chk (fun _ => ?_)
  refine tw_calv (fun b6 => ?_)
  refine tw_chk (fun _ => ?_)
  refine tw_chk (fun _ => ?_)
  refine tw_gal (fun Pw9 => tw_at (⟨rfl, rfl⟩ : zt S3 = zt S3 ∧ zu S3 = zu S3) tt_X9_putSigns) (fun r8 S9 => ?_)
  exact tw_at (⟨rfl, rfl⟩ : zt S9 = zt S9 ∧ zu S9 = zu S9) (tt_X3_putMove_66)
def d_X3_putMove_41 (x0 : Nat) (x1 : Nat) (x2 : Nat) (x4 : Nat) (t0 : Nat) (t1 : Nat) (S : ZS) : Option (Int32 × ZS) :=
  m_chk (zK S t1 = 6) (
  m_cal2 (d_X6_putText t1 t0 S) (fun r2 S3 =>
  d_X3_putMove_44 x0 x1 x2 x4 S3))
theorem tt_X3_putMove_41 {Pw : Int32 → ZS → Prop}   {x0 : Nat} {x1 : Nat} {x2 : Nat} {x4 : Nat} {t0 : Nat} {t1 : Nat} {S : ZS} : Tw Pw (d_X3_putMove_41 x0 x1 x2 x4 t0 t1 S) (zt S) (zu S) (fun C T => g_X3_putMove_41 Pw x0 x1 x2 x4 t0 t1 S C T) := by
  unfold d_X3_putMove_41 g_X3_putMove_41
  refine tw_chk (fun _ => ?_)
  refine tw_gal (fun Pw9 => tw_at (⟨rfl, rfl⟩ : zt S = zt S ∧ zu S = zu S) tt_X6_putText) (fun r2 S3 => ?_)
  exact tw_at (⟨rfl, rfl⟩ : zt S3 = zt S3 ∧ zu S3 = zu S3) (tt_X3_putMove_44)
def d_X3_putMove_11 (x0 : Nat) (x1 : Nat) (x2 : Nat) (x4 : Nat) (S : ZS) : Option (Int32 × ZS) :=
  m_cal2 (d_X3_putGap x4 S) (fun r2 S3 =>
  m_chk (zK S3 x1 = 0) (
  m_chk (zK S3 x4 = 6) (
  m_cal2 (d_X6_putNumber x4 (zI S3 6 x1) S3) (fun r7 S8 =>
  m_chk (zK S8 x1 = 0) (
  m_if ((zI S8 3 x1) = 0) (
  d_X3_putMove_41 x0 x1 x2 x4 13 x4 S8
  ) (
  d_X3_putMove_41 x0 x1 x2 x4 14 x4 S8
  ))))))
theorem tt_X3_putMove_11 {Pw : Int32 → ZS → Prop}   {x0 : Nat} {x1 : Nat} {x2 : Nat} {x4 : Nat} {S : ZS} : Tw Pw (d_X3_putMove_11 x0 x1 x2 x4 S) (zt S) (zu S) (fun C T => g_X3_putMove_11 Pw x0 x1 x2 x4 S C T) := by
  unfold d_X3_putMove_11 g_X3_putMove_11
  refine tw_gal (fun Pw9 => tw_at (⟨rfl, rfl⟩ : zt S = zt S ∧ zu S = zu S) tt_X3_putGap) (fun r2 S3 => ?_)
  refine tw_chk (fun _ => ?_)
  refine tw_chk (fun _ => ?_)
  refine tw_gal (fun Pw9 => tw_at (⟨rfl, rfl⟩ : zt S3 = zt S3 ∧ zu S3 = zu S3) tt_X6_putNumber) (fun r7 S8 => ?_)
  refine tw_chk (fun _ => ?_)
  refine tw_if (fun _ => ?_) (fun _ => ?_)
  ·
    exact tw_at (⟨rfl, rfl⟩ : zt S8 = zt S8 ∧ zu S8 = zu S8) (tt_X3_putMove_41)
  ·
    exact tw_at (⟨rfl, rfl⟩ : zt S8 = zt S8 ∧ zu S8 = zu S8) (tt_X3_putMove_41)
def d_X3_putMove_0 (x0 : Nat) (x1 : Nat) (x2 : Nat) (x3 : Int32) (x4 : Nat) (S : ZS) : Option (Int32 × ZS) :=
  m_chk (zK S x1 = 0) (
  m_if ((zI S 3 x1) = 0) (
  d_X3_putMove_11 x0 x1 x2 x4 S
  ) (
  m_if (x3 = 0) (
  d_X3_putMove_44 x0 x1 x2 x4 S
  ) (
  d_X3_putMove_11 x0 x1 x2 x4 S
  )
  ))
theorem tt_X3_putMove_0 {Pw : Int32 → ZS → Prop}   {x0 : Nat} {x1 : Nat} {x2 : Nat} {x3 : Int32} {x4 : Nat} {S : ZS} : Tw Pw (d_X3_putMove_0 x0 x1 x2 x3 x4 S) (zt S) (zu S) (fun C T => g_X3_putMove_0 Pw x0 x1 x2 x3 x4 S C T) := by
  unfold d_X3_putMove_0 g_X3_putMove_0
  refine tw_chk (fun _ => ?_)
  refine tw_if (fun _ => ?_) (fun _ => ?_)
  ·
    exact tw_at (⟨rfl, rfl⟩ : zt S = zt S ∧ zu S = zu S) (tt_X3_putMove_11)
  ·
    refine tw_if (fun _ => ?_) (fun _ => ?_)
    ·
      exact tw_at (⟨rfl, rfl⟩ : zt S = zt S ∧ zu S = zu S) (tt_X3_putMove_44)
    ·
      exact tw_at (⟨rfl, rfl⟩ : zt S = zt S ∧ zu S = zu S) (tt_X3_putMove_11)
def d_X3_putMove (x0 : Nat) (x1 : Nat) (x2 : Nat) (x3 : Int32) (x4 : Nat) (S : ZS) : Option (Int32 × ZS) := d_X3_putMove_0 x0 x1 x2 x3 x4 S
theorem tt_X3_putMove {Pw : Int32 → ZS → Prop} {x0 : Nat} {x1 : Nat} {x2 : Nat} {x3 : Int32} {x4 : Nat} {S : ZS} : Tw Pw (d_X3_putMove x0 x1 x2 x3 x4 S) (zt S) (zu S) (fun C T => g_X3_putMove x0 x1 x2 x3 x4 S C T Pw) := tt_X3_putMove_0
def d_X3_putLine_206 (rec : Nat → Nat → Int32 → Int32 → Nat → ZS → Option (Int32 × ZS)) (S : ZS) : Option (Int32 × ZS) :=
  some (0, S)
theorem tt_X3_putLine_206 {Pw : Int32 → ZS → Prop} {rec : Nat → Nat → Int32 → Int32 → Nat → ZS → Option (Int32 × ZS)} {recg : Nat → Nat → Int32 → Int32 → Nat → ZS → Nat → Nat → (Int32 → ZS → Prop) → Prop} (hrec : ∀ (y0 : Nat) (y1 : Nat) (y2 : Int32) (y3 : Int32) (y4 : Nat) (S : ZS) (Pw : Int32 → ZS → Prop), Tw Pw (rec y0 y1 y2 y3 y4 S) (zt S) (zu S) (fun C T => recg y0 y1 y2 y3 y4 S C T Pw)) {S : ZS} : Tw Pw (d_X3_putLine_206 rec S) (zt S) (zu S) (fun C T => g_X3_putLine_206 Pw recg S C T) := by
  unfold d_X3_putLine_206 g_X3_putLine_206
  exact tw_ret (⟨rfl, rfl⟩ : zt S = zt S ∧ zu S = zu S)
def d_X3_putLine_183 (rec : Nat → Nat → Int32 → Int32 → Nat → ZS → Option (Int32 × ZS)) (self24 : Nat → Nat → Int32 → Nat → Nat → Int32 → Int32 → Int32 → ZS → Option (Int32 × ZS)) (x0 : Nat) (x1 : Nat) (x3 : Int32) (x4 : Nat) (x5 : Nat) (x6 : Int32) (x8 : Int32) (x9 : Nat) (S : ZS) : Option (Int32 × ZS) :=
  m_chk (zK S x9 = 4) (
  m_chk (zK S x5 = 0) (
  m_cal (f_X0_play x5 (zI S 1 x9) S) (fun o1 => m_chk (zt o1.2 = zt S ∧ zu o1.2 = zu S) (
  m_chk (zK o1.2 x9 = 4) (
  m_bnd (x8 + (1 : Int32)) (fun v2 =>
  self24 x0 x1 x3 x4 x5 x6 (zI o1.2 2 x9) v2 o1.2))))))
theorem tt_X3_putLine_183 {Pw : Int32 → ZS → Prop} {rec : Nat → Nat → Int32 → Int32 → Nat → ZS → Option (Int32 × ZS)} {recg : Nat → Nat → Int32 → Int32 → Nat → ZS → Nat → Nat → (Int32 → ZS → Prop) → Prop} {self24 : Nat → Nat → Int32 → Nat → Nat → Int32 → Int32 → Int32 → ZS → Option (Int32 × ZS)} {self24g : Nat → Nat → Int32 → Nat → Nat → Int32 → Int32 → Int32 → ZS → Nat → Nat → Prop} (hrec : ∀ (y0 : Nat) (y1 : Nat) (y2 : Int32) (y3 : Int32) (y4 : Nat) (S : ZS) (Pw : Int32 → ZS → Prop), Tw Pw (rec y0 y1 y2 y3 y4 S) (zt S) (zu S) (fun C T => recg y0 y1 y2 y3 y4 S C T Pw)) (hself24 : ∀ (y0 : Nat) (y1 : Nat) (y2 : Int32) (y3 : Nat) (y4 : Nat) (y5 : Int32) (y6 : Int32) (y7 : Int32) (S : ZS), Tw Pw (self24 y0 y1 y2 y3 y4 y5 y6 y7 S) (zt S) (zu S) (fun C T => self24g y0 y1 y2 y3 y4 y5 y6 y7 S C T)) {x0 : Nat} {x1 : Nat} {x3 : Int32} {x4 : Nat} {x5 : Nat} {x6 : Int32} {x8 : Int32} {x9 : Nat} {S : ZS} : Tw Pw (d_X3_putLine_183 rec self24 x0 x1 x3 x4 x5 x6 x8 x9 S) (zt S) (zu S) (fun C T => g_X3_putLine_183 Pw recg self24g x0 x1 x3 x4 x5 x6 x8 x9 S C T) := by
  unfold d_X3_putLine_183 g_X3_putLine_183
  refine tw_chk (fun _ => ?_)
  refine tw_chk (fun _ => ?_)
  refine tw_calf (⟨rfl, rfl⟩ : zt S = zt S ∧ zu S = zu S) (fun o1 co1 => ?_)
  refine tw_chk (fun _ => ?_)
  refine tw_bndv (fun v2 => ?_)
  exact tw_at co1 (hself24 _ _ _ _ _ _ _ _ _)
def d_X3_putLine_99s (rec : Nat → Nat → Int32 → Int32 → Nat → ZS → Option (Int32 × ZS)) (self24 : Nat → Nat → Int32 → Nat → Nat → Int32 → Int32 → Int32 → ZS → Option (Int32 × ZS)) (self99 : Nat → Nat → Int32 → Nat → Nat → Int32 → Int32 → Nat → Int32 → Int32 → ZS → Option (Int32 × ZS)) (x0 : Nat) (x1 : Nat) (x3 : Int32) (x4 : Nat) (x5 : Nat) (x6 : Int32) (x8 : Int32) (x9 : Nat) (x10 : Int32) (x11 : Int32) (S : ZS) : Option (Int32 × ZS) :=
  m_if ((300 : Int32) ≤ x11) (
  d_X3_putLine_183 rec self24 x0 x1 x3 x4 x5 x6 x8 x9 S
  ) (
  m_if (x10 = (-1 : Int32)) (
  d_X3_putLine_183 rec self24 x0 x1 x3 x4 x5 x6 x8 x9 S
  ) (
  m_if ((6 : Int32) ≤ x3) (
  d_X3_putLine_183 rec self24 x0 x1 x3 x4 x5 x6 x8 x9 S
  ) (
  m_chk (zK S x0 = 3) (
  m_cal (zP S 1 x0) (fun b1 =>
  m_bnd (x3 + (1 : Int32)) (fun v2 =>
  m_chk (zK S b1 = 15) (
  m_chk (¬ (v2 < 0 ∨ zN S b1 ≤ (v2).toNatClampNeg)) (
  m_cal (zB S b1 (v2).toNatClampNeg) (fun b3 =>
  m_chk (zK S b3 = 0) (
  m_cal (f_X0_copyFrom b3 x5 S) (fun o4 => m_chk (zt o4.2 = zt S ∧ zu o4.2 = zu S) (
  m_cal2 (d_X3_putGap x4 o4.2) (fun r6 S7 =>
  m_chk (zK S7 x4 = 6) (
  m_cal2 (d_X6_put x4 (40 : Int32) S7) (fun r11 S12 =>
  m_bnd (x3 + (1 : Int32)) (fun v15 =>
  m_chk (zK S12 x0 = 3) (
  m_cal2 (rec x0 x1 x10 v15 x4 S12) (fun r17 S18 =>
  m_chk (zK S18 x4 = 6) (
  m_cal2 (d_X6_put x4 (41 : Int32) S18) (fun r22 S23 =>
  m_chk (zK S23 x1 = 1) (
  m_cal (f_X1_at x1 x10 S23) (fun o26 => m_chk (zt o26.2 = zt S23 ∧ zu o26.2 = zu S23) (
  m_chk (zK o26.2 o26.1 = 4) (
  m_bnd (x11 + (1 : Int32)) (fun v27 =>
  self99 x0 x1 x3 x4 x5 (1 : Int32) x8 x9 (zI o26.2 3 o26.1) v27 o26.2))))))))))))))))))))))
  )
  )
  )
theorem tt_X3_putLine_99s {Pw : Int32 → ZS → Prop} {rec : Nat → Nat → Int32 → Int32 → Nat → ZS → Option (Int32 × ZS)} {recg : Nat → Nat → Int32 → Int32 → Nat → ZS → Nat → Nat → (Int32 → ZS → Prop) → Prop} {self24 : Nat → Nat → Int32 → Nat → Nat → Int32 → Int32 → Int32 → ZS → Option (Int32 × ZS)} {self24g : Nat → Nat → Int32 → Nat → Nat → Int32 → Int32 → Int32 → ZS → Nat → Nat → Prop} {self99 : Nat → Nat → Int32 → Nat → Nat → Int32 → Int32 → Nat → Int32 → Int32 → ZS → Option (Int32 × ZS)} {self99g : Nat → Nat → Int32 → Nat → Nat → Int32 → Int32 → Nat → Int32 → Int32 → ZS → Nat → Nat → Prop} (hrec : ∀ (y0 : Nat) (y1 : Nat) (y2 : Int32) (y3 : Int32) (y4 : Nat) (S : ZS) (Pw : Int32 → ZS → Prop), Tw Pw (rec y0 y1 y2 y3 y4 S) (zt S) (zu S) (fun C T => recg y0 y1 y2 y3 y4 S C T Pw)) (hself24 : ∀ (y0 : Nat) (y1 : Nat) (y2 : Int32) (y3 : Nat) (y4 : Nat) (y5 : Int32) (y6 : Int32) (y7 : Int32) (S : ZS), Tw Pw (self24 y0 y1 y2 y3 y4 y5 y6 y7 S) (zt S) (zu S) (fun C T => self24g y0 y1 y2 y3 y4 y5 y6 y7 S C T)) (hself99 : ∀ (y0 : Nat) (y1 : Nat) (y2 : Int32) (y3 : Nat) (y4 : Nat) (y5 : Int32) (y6 : Int32) (y7 : Nat) (y8 : Int32) (y9 : Int32) (S : ZS), Tw Pw (self99 y0 y1 y2 y3 y4 y5 y6 y7 y8 y9 S) (zt S) (zu S) (fun C T => self99g y0 y1 y2 y3 y4 y5 y6 y7 y8 y9 S C T)) {x0 : Nat} {x1 : Nat} {x3 : Int32} {x4 : Nat} {x5 : Nat} {x6 : Int32} {x8 : Int32} {x9 : Nat} {x10 : Int32} {x11 : Int32} {S : ZS} : Tw Pw (d_X3_putLine_99s rec self24 self99 x0 x1 x3 x4 x5 x6 x8 x9 x10 x11 S) (zt S) (zu S) (fun C T => g_X3_putLine_99s Pw recg self24g self99g x0 x1 x3 x4 x5 x6 x8 x9 x10 x11 S C T) := by
  unfold d_X3_putLine_99s g_X3_putLine_99s
  refine tw_if (fun _ => ?_) (fun _ => ?_)
  ·
    exact tw_at (⟨rfl, rfl⟩ : zt S = zt S ∧ zu S = zu S) (tt_X3_putLine_183 hrec hself24)
  ·
    refine tw_if (fun _ => ?_) (fun _ => ?_)
    ·
      exact tw_at (⟨rfl, rfl⟩ : zt S = zt S ∧ zu S = zu S) (tt_X3_putLine_183 hrec hself24)
    ·
      refine tw_if (fun _ => ?_) (fun _ => ?_)
      ·
        exact tw_at (⟨rfl, rfl⟩ : zt S = zt S ∧ zu S = zu S) (tt_X3_putLine_183 hrec hself24)
      ·
        refine tw_chk (fun _ => ?_)
        refine tw_calv (fun b1 => ?_)
        refine tw_bndv (fun v2 => ?_)
        refine tw_chk (fun _ => ?_)
        refine tw_chk (fun _ => ?_)
        refine tw_calv (fun b3 => ?_)
        refine tw_chk (fun _ => ?_)
        refine tw_calf (⟨rfl, rfl⟩ : zt S = zt S ∧ zu S = zu S) (fun o4 co4 => ?_)
        refine tw_gal (fun Pw9 => tw_at co4 tt_X3_putGap) (fun r6 S7 => ?_)
        refine tw_chk (fun _ => ?_)
        refine tw_gal (fun Pw9 => tw_at (⟨rfl, rfl⟩ : zt S7 = zt S7 ∧ zu S7 = zu S7) tt_X6_put) (fun r11 S12 => ?_)
        refine tw_bndv (fun v15 => ?_)
        refine tw_chk (fun _ => ?_)
        refine tw_gal (fun Pw9 => tw_at (⟨rfl, rfl⟩ : zt S12 = zt S12 ∧ zu S12 = zu S12) (hrec _ _ _ _ _ _ Pw9)) (fun r17 S18 => ?_)
        refine tw_chk (fun _ => ?_)
        refine tw_gal (fun Pw9 => tw_at (⟨rfl, rfl⟩ : zt S18 = zt S18 ∧ zu S18 = zu S18) tt_X6_put) (fun r22 S23 => ?_)
        refine tw_chk (fun _ => ?_)
        refine tw_calf (⟨rfl, rfl⟩ : zt S23 = zt S23 ∧ zu S23 = zu S23) (fun o26 co26 => ?_)
        refine tw_chk (fun _ => ?_)
        refine tw_bndv (fun v27 => ?_)
        exact tw_at co26 (hself99 _ _ _ _ _ _ _ _ _ _ _)
def d_X3_putLine_99 (rec : Nat → Nat → Int32 → Int32 → Nat → ZS → Option (Int32 × ZS)) (self24 : Nat → Nat → Int32 → Nat → Nat → Int32 → Int32 → Int32 → ZS → Option (Int32 × ZS)) : Nat → Nat → Nat → Int32 → Nat → Nat → Int32 → Int32 → Nat → Int32 → Int32 → ZS → Option (Int32 × ZS)
  | 0 => fun _ _ _ _ _ _ _ _ _ _ _ => none
  | n + 1 => d_X3_putLine_99s rec self24 (d_X3_putLine_99 rec self24 n)
theorem tt_X3_putLine_99 {Pw : Int32 → ZS → Prop} {rec : Nat → Nat → Int32 → Int32 → Nat → ZS → Option (Int32 × ZS)} {recg : Nat → Nat → Int32 → Int32 → Nat → ZS → Nat → Nat → (Int32 → ZS → Prop) → Prop} {self24 : Nat → Nat → Int32 → Nat → Nat → Int32 → Int32 → Int32 → ZS → Option (Int32 × ZS)} {self24g : Nat → Nat → Int32 → Nat → Nat → Int32 → Int32 → Int32 → ZS → Nat → Nat → Prop} (hrec : ∀ (y0 : Nat) (y1 : Nat) (y2 : Int32) (y3 : Int32) (y4 : Nat) (S : ZS) (Pw : Int32 → ZS → Prop), Tw Pw (rec y0 y1 y2 y3 y4 S) (zt S) (zu S) (fun C T => recg y0 y1 y2 y3 y4 S C T Pw)) (hself24 : ∀ (y0 : Nat) (y1 : Nat) (y2 : Int32) (y3 : Nat) (y4 : Nat) (y5 : Int32) (y6 : Int32) (y7 : Int32) (S : ZS), Tw Pw (self24 y0 y1 y2 y3 y4 y5 y6 y7 S) (zt S) (zu S) (fun C T => self24g y0 y1 y2 y3 y4 y5 y6 y7 S C T)) {n : Nat} : ∀ {z0 : Nat} {z1 : Nat} {z2 : Int32} {z3 : Nat} {z4 : Nat} {z5 : Int32} {z6 : Int32} {z7 : Nat} {z8 : Int32} {z9 : Int32} {S : ZS}, Tw Pw (d_X3_putLine_99 rec self24 n z0 z1 z2 z3 z4 z5 z6 z7 z8 z9 S) (zt S) (zu S) (fun C T => g_X3_putLine_99 Pw recg self24g n z0 z1 z2 z3 z4 z5 z6 z7 z8 z9 S C T) := by
  induction n with
  | zero => intro z0 z1 z2 z3 z4 z5 z6 z7 z8 z9 S; exact tw_none
  | succ n ih => intro z0 z1 z2 z3 z4 z5 z6 z7 z8 z9 S; exact tt_X3_putLine_99s hrec hself24 (fun _ _ _ _ _ _ _ _ _ _ _ => ih)
def d_X3_putLine_94 (rec : Nat → Nat → Int32 → Int32 → Nat → ZS → Option (Int32 × ZS)) (self24 : Nat → Nat → Int32 → Nat → Nat → Int32 → Int32 → Int32 → ZS → Option (Int32 × ZS)) (x0 : Nat) (x1 : Nat) (x3 : Int32) (x4 : Nat) (x5 : Nat) (x6 : Int32) (x8 : Int32) (x9 : Nat) (t0 : Int32) (S : ZS) : Option (Int32 × ZS) :=
  d_X3_putLine_99 rec self24 mFuel x0 x1 x3 x4 x5 x6 x8 x9 t0 (0 : Int32) S
theorem tt_X3_putLine_94 {Pw : Int32 → ZS → Prop} {rec : Nat → Nat → Int32 → Int32 → Nat → ZS → Option (Int32 × ZS)} {recg : Nat → Nat → Int32 → Int32 → Nat → ZS → Nat → Nat → (Int32 → ZS → Prop) → Prop} {self24 : Nat → Nat → Int32 → Nat → Nat → Int32 → Int32 → Int32 → ZS → Option (Int32 × ZS)} {self24g : Nat → Nat → Int32 → Nat → Nat → Int32 → Int32 → Int32 → ZS → Nat → Nat → Prop} (hrec : ∀ (y0 : Nat) (y1 : Nat) (y2 : Int32) (y3 : Int32) (y4 : Nat) (S : ZS) (Pw : Int32 → ZS → Prop), Tw Pw (rec y0 y1 y2 y3 y4 S) (zt S) (zu S) (fun C T => recg y0 y1 y2 y3 y4 S C T Pw)) (hself24 : ∀ (y0 : Nat) (y1 : Nat) (y2 : Int32) (y3 : Nat) (y4 : Nat) (y5 : Int32) (y6 : Int32) (y7 : Int32) (S : ZS), Tw Pw (self24 y0 y1 y2 y3 y4 y5 y6 y7 S) (zt S) (zu S) (fun C T => self24g y0 y1 y2 y3 y4 y5 y6 y7 S C T)) {x0 : Nat} {x1 : Nat} {x3 : Int32} {x4 : Nat} {x5 : Nat} {x6 : Int32} {x8 : Int32} {x9 : Nat} {t0 : Int32} {S : ZS} : Tw Pw (d_X3_putLine_94 rec self24 x0 x1 x3 x4 x5 x6 x8 x9 t0 S) (zt S) (zu S) (fun C T => g_X3_putLine_94 Pw recg self24g x0 x1 x3 x4 x5 x6 x8 x9 t0 S C T) := by
  unfold d_X3_putLine_94 g_X3_putLine_94
  exact tw_at (⟨rfl, rfl⟩ : zt S = zt S ∧ zu S = zu S) (tt_X3_putLine_99 hrec hself24)
def d_X3_putLine_74 (rec : Nat → Nat → Int32 → Int32 → Nat → ZS → Option (Int32 × ZS)) (self24 : Nat → Nat → Int32 → Nat → Nat → Int32 → Int32 → Int32 → ZS → Option (Int32 × ZS)) (x0 : Nat) (x1 : Nat) (x3 : Int32) (x4 : Nat) (x5 : Nat) (x7 : Int32) (x8 : Int32) (x9 : Nat) (t0 : Int32) (S : ZS) : Option (Int32 × ZS) :=
  m_chk (zK S x1 = 1) (
  m_cal (f_X1_goesOn x1 x7 S) (fun o1 => m_chk (zt o1.2 = zt S ∧ zu o1.2 = zu S) (
  m_if (o1.1 = 0) (
  d_X3_putLine_94 rec self24 x0 x1 x3 x4 x5 t0 x8 x9 (-1 : Int32) o1.2
  ) (
  m_chk (zK o1.2 x9 = 4) (
  d_X3_putLine_94 rec self24 x0 x1 x3 x4 x5 t0 x8 x9 (zI o1.2 3 x9) o1.2)
  ))))
theorem tt_X3_putLine_74 {Pw : Int32 → ZS → Prop} {rec : Nat → Nat → Int32 → Int32 → Nat → ZS → Option (Int32 × ZS)} {recg : Nat → Nat → Int32 → Int32 → Nat → ZS → Nat → Nat → (Int32 → ZS → Prop) → Prop} {self24 : Nat → Nat → Int32 → Nat → Nat → Int32 → Int32 → Int32 → ZS → Option (Int32 × ZS)} {self24g : Nat → Nat → Int32 → Nat → Nat → Int32 → Int32 → Int32 → ZS → Nat → Nat → Prop} (hrec : ∀ (y0 : Nat) (y1 : Nat) (y2 : Int32) (y3 : Int32) (y4 : Nat) (S : ZS) (Pw : Int32 → ZS → Prop), Tw Pw (rec y0 y1 y2 y3 y4 S) (zt S) (zu S) (fun C T => recg y0 y1 y2 y3 y4 S C T Pw)) (hself24 : ∀ (y0 : Nat) (y1 : Nat) (y2 : Int32) (y3 : Nat) (y4 : Nat) (y5 : Int32) (y6 : Int32) (y7 : Int32) (S : ZS), Tw Pw (self24 y0 y1 y2 y3 y4 y5 y6 y7 S) (zt S) (zu S) (fun C T => self24g y0 y1 y2 y3 y4 y5 y6 y7 S C T)) {x0 : Nat} {x1 : Nat} {x3 : Int32} {x4 : Nat} {x5 : Nat} {x7 : Int32} {x8 : Int32} {x9 : Nat} {t0 : Int32} {S : ZS} : Tw Pw (d_X3_putLine_74 rec self24 x0 x1 x3 x4 x5 x7 x8 x9 t0 S) (zt S) (zu S) (fun C T => g_X3_putLine_74 Pw recg self24g x0 x1 x3 x4 x5 x7 x8 x9 t0 S C T) := by
  unfold d_X3_putLine_74 g_X3_putLine_74
  refine tw_chk (fun _ => ?_)
  refine tw_calf (⟨rfl, rfl⟩ : zt S = zt S ∧ zu S = zu S) (fun o1 co1 => ?_)
  refine tw_if (fun _ => ?_) (fun _ => ?_)
  ·
    exact tw_at co1 (tt_X3_putLine_94 hrec hself24)
  ·
    refine tw_chk (fun _ => ?_)
    exact tw_at co1 (tt_X3_putLine_94 hrec hself24)
def d_X3_putLine_24s (rec : Nat → Nat → Int32 → Int32 → Nat → ZS → Option (Int32 × ZS)) (self24 : Nat → Nat → Int32 → Nat → Nat → Int32 → Int32 → Int32 → ZS → Option (Int32 × ZS)) (x0 : Nat) (x1 : Nat) (x3 : Int32) (x4 : Nat) (x5 : Nat) (x6 : Int32) (x7 : Int32) (x8 : Int32) (S : ZS) : Option (Int32 × ZS) :=
  m_if ((300 : Int32) ≤ x8) (
  d_X3_putLine_206 rec S
  ) (
  m_if (x7 = (-1 : Int32)) (
  d_X3_putLine_206 rec S
  ) (
  m_chk (zK S x1 = 1) (
  m_cal (f_X1_at x1 x7 S) (fun o1 => m_chk (zt o1.2 = zt S ∧ zu o1.2 = zu S) (
  m_chk (zK o1.2 x0 = 3) (
  m_cal2 (d_X3_putMove x0 x5 o1.1 x6 x4 o1.2) (fun r3 S4 =>
  m_chk (zK S4 o1.1 = 4) (
  m_cal (zP S4 6 o1.1) (fun b7 =>
  m_chk (zK S4 b7 = 6) (
  m_cal (f_X6_size b7 S4) (fun o8 => m_chk (zt o8.2 = zt S4 ∧ zu o8.2 = zu S4) (
  m_if (o8.1 ≤ 0) (
  d_X3_putLine_74 rec self24 x0 x1 x3 x4 x5 x7 x8 o1.1 (0 : Int32) o8.2
  ) (
  d_X3_putLine_74 rec self24 x0 x1 x3 x4 x5 x7 x8 o1.1 (1 : Int32) o8.2
  )))))))))))
  )
  )
theorem tt_X3_putLine_24s {Pw : Int32 → ZS → Prop} {rec : Nat → Nat → Int32 → Int32 → Nat → ZS → Option (Int32 × ZS)} {recg : Nat → Nat → Int32 → Int32 → Nat → ZS → Nat → Nat → (Int32 → ZS → Prop) → Prop} {self24 : Nat → Nat → Int32 → Nat → Nat → Int32 → Int32 → Int32 → ZS → Option (Int32 × ZS)} {self24g : Nat → Nat → Int32 → Nat → Nat → Int32 → Int32 → Int32 → ZS → Nat → Nat → Prop} (hrec : ∀ (y0 : Nat) (y1 : Nat) (y2 : Int32) (y3 : Int32) (y4 : Nat) (S : ZS) (Pw : Int32 → ZS → Prop), Tw Pw (rec y0 y1 y2 y3 y4 S) (zt S) (zu S) (fun C T => recg y0 y1 y2 y3 y4 S C T Pw)) (hself24 : ∀ (y0 : Nat) (y1 : Nat) (y2 : Int32) (y3 : Nat) (y4 : Nat) (y5 : Int32) (y6 : Int32) (y7 : Int32) (S : ZS), Tw Pw (self24 y0 y1 y2 y3 y4 y5 y6 y7 S) (zt S) (zu S) (fun C T => self24g y0 y1 y2 y3 y4 y5 y6 y7 S C T)) {x0 : Nat} {x1 : Nat} {x3 : Int32} {x4 : Nat} {x5 : Nat} {x6 : Int32} {x7 : Int32} {x8 : Int32} {S : ZS} : Tw Pw (d_X3_putLine_24s rec self24 x0 x1 x3 x4 x5 x6 x7 x8 S) (zt S) (zu S) (fun C T => g_X3_putLine_24s Pw recg self24g x0 x1 x3 x4 x5 x6 x7 x8 S C T) := by
  unfold d_X3_putLine_24s g_X3_putLine_24s
  refine tw_if (fun _ => ?_) (fun _ => ?_)
  ·
    exact tw_at (⟨rfl, rfl⟩ : zt S = zt S ∧ zu S = zu S) (tt_X3_putLine_206 hrec)
  ·
    refine tw_if (fun _ => ?_) (fun _ => ?_)
    ·
      exact tw_at (⟨rfl, rfl⟩ : zt S = zt S ∧ zu S = zu S) (tt_X3_putLine_206 hrec)
    ·
      refine tw_chk (fun _ => ?_)
      refine tw_calf (⟨rfl, rfl⟩ : zt S = zt S ∧ zu S = zu S) (fun o1 co1 => ?_)
      refine tw_chk (fun _ => ?_)
      refine tw_gal (fun Pw9 => tw_at co1 tt_X3_putMove) (fun r3 S4 => ?_)
      refine tw_chk (fun _ => ?_)
      refine tw_calv (fun b7 => ?_)
      refine tw_chk (fun _ => ?_)
      refine tw_calf (⟨rfl, rfl⟩ : zt S4 = zt S4 ∧ zu S4 = zu S4) (fun o8 co8 => ?_)
      refine tw_if (fun _ => ?_) (fun _ => ?_)
      ·
        exact tw_at co8 (tt_X3_putLine_74 hrec hself24)
      ·
        exact tw_at co8 (tt_X3_putLine_74 hrec hself24)
def d_X3_putLine_24 (rec : Nat → Nat → Int32 → Int32 → Nat → ZS → Option (Int32 × ZS)) : Nat → Nat → Nat → Int32 → Nat → Nat → Int32 → Int32 → Int32 → ZS → Option (Int32 × ZS)
  | 0 => fun _ _ _ _ _ _ _ _ _ => none
  | n + 1 => d_X3_putLine_24s rec (d_X3_putLine_24 rec n)
theorem tt_X3_putLine_24 {Pw : Int32 → ZS → Prop} {rec : Nat → Nat → Int32 → Int32 → Nat → ZS → Option (Int32 × ZS)} {recg : Nat → Nat → Int32 → Int32 → Nat → ZS → Nat → Nat → (Int32 → ZS → Prop) → Prop} (hrec : ∀ (y0 : Nat) (y1 : Nat) (y2 : Int32) (y3 : Int32) (y4 : Nat) (S : ZS) (Pw : Int32 → ZS → Prop), Tw Pw (rec y0 y1 y2 y3 y4 S) (zt S) (zu S) (fun C T => recg y0 y1 y2 y3 y4 S C T Pw)) {n : Nat} : ∀ {z0 : Nat} {z1 : Nat} {z2 : Int32} {z3 : Nat} {z4 : Nat} {z5 : Int32} {z6 : Int32} {z7 : Int32} {S : ZS}, Tw Pw (d_X3_putLine_24 rec n z0 z1 z2 z3 z4 z5 z6 z7 S) (zt S) (zu S) (fun C T => g_X3_putLine_24 Pw recg n z0 z1 z2 z3 z4 z5 z6 z7 S C T) := by
  induction n with
  | zero => intro z0 z1 z2 z3 z4 z5 z6 z7 S; exact tw_none
  | succ n ih => intro z0 z1 z2 z3 z4 z5 z6 z7 S; exact tt_X3_putLine_24s hrec (fun _ _ _ _ _ _ _ _ _ => ih)
def d_X3_putLine_0 (rec : Nat → Nat → Int32 → Int32 → Nat → ZS → Option (Int32 × ZS)) (x0 : Nat) (x1 : Nat) (x2 : Int32) (x3 : Int32) (x4 : Nat) (S : ZS) : Option (Int32 × ZS) :=
  m_if (x3 ≤ (6 : Int32)) (
  m_chk (zK S x0 = 3) (
  m_cal (zP S 1 x0) (fun b1 =>
  m_chk (zK S b1 = 15) (
  m_chk (¬ (x3 < 0 ∨ zN S b1 ≤ (x3).toNatClampNeg)) (
  m_cal (zB S b1 (x3).toNatClampNeg) (fun b2 =>
  d_X3_putLine_24 rec mFuel x0 x1 x3 x4 b2 (1 : Int32) x2 (0 : Int32) S)))))
  ) (
  some (0, S)
  )
theorem tt_X3_putLine_0 {Pw : Int32 → ZS → Prop} {rec : Nat → Nat → Int32 → Int32 → Nat → ZS → Option (Int32 × ZS)} {recg : Nat → Nat → Int32 → Int32 → Nat → ZS → Nat → Nat → (Int32 → ZS → Prop) → Prop} (hrec : ∀ (y0 : Nat) (y1 : Nat) (y2 : Int32) (y3 : Int32) (y4 : Nat) (S : ZS) (Pw : Int32 → ZS → Prop), Tw Pw (rec y0 y1 y2 y3 y4 S) (zt S) (zu S) (fun C T => recg y0 y1 y2 y3 y4 S C T Pw)) {x0 : Nat} {x1 : Nat} {x2 : Int32} {x3 : Int32} {x4 : Nat} {S : ZS} : Tw Pw (d_X3_putLine_0 rec x0 x1 x2 x3 x4 S) (zt S) (zu S) (fun C T => g_X3_putLine_0 Pw recg x0 x1 x2 x3 x4 S C T) := by
  unfold d_X3_putLine_0 g_X3_putLine_0
  refine tw_if (fun _ => ?_) (fun _ => ?_)
  ·
    refine tw_chk (fun _ => ?_)
    refine tw_calv (fun b1 => ?_)
    refine tw_chk (fun _ => ?_)
    refine tw_chk (fun _ => ?_)
    refine tw_calv (fun b2 => ?_)
    exact tw_at (⟨rfl, rfl⟩ : zt S = zt S ∧ zu S = zu S) (tt_X3_putLine_24 hrec)
  ·
    exact tw_ret (⟨rfl, rfl⟩ : zt S = zt S ∧ zu S = zu S)
def dr_X3_putLine : Nat → Nat → Nat → Int32 → Int32 → Nat → ZS → Option (Int32 × ZS)
  | 0 => fun _ _ _ _ _ _ => none
  | n + 1 => fun x0 x1 x2 x3 x4 S => d_X3_putLine_0 (dr_X3_putLine n) x0 x1 x2 x3 x4 S
theorem tr_X3_putLine (n : Nat) : ∀ (x0 : Nat) (x1 : Nat) (x2 : Int32) (x3 : Int32) (x4 : Nat) (S : ZS) (Pw : Int32 → ZS → Prop), Tw Pw (dr_X3_putLine n x0 x1 x2 x3 x4 S) (zt S) (zu S) (fun C T => gr_X3_putLine n x0 x1 x2 x3 x4 S C T Pw) := by
  induction n with
  | zero => intro x0 x1 x2 x3 x4 S Pw; exact tw_none
  | succ n ih => intro x0 x1 x2 x3 x4 S Pw; exact tt_X3_putLine_0 (fun x0 x1 x2 x3 x4 S Pw => ih x0 x1 x2 x3 x4 S Pw)
def d_X3_putLine (x0 : Nat) (x1 : Nat) (x2 : Int32) (x3 : Int32) (x4 : Nat) (S : ZS) : Option (Int32 × ZS) := dr_X3_putLine 8 x0 x1 x2 x3 x4 S
theorem tt_X3_putLine {Pw : Int32 → ZS → Prop} {x0 : Nat} {x1 : Nat} {x2 : Int32} {x3 : Int32} {x4 : Nat} {S : ZS} : Tw Pw (d_X3_putLine x0 x1 x2 x3 x4 S) (zt S) (zu S) (fun C T => g_X3_putLine x0 x1 x2 x3 x4 S C T Pw) := tr_X3_putLine _ _ _ _ _ _ _ Pw
def d_X11_init_0 (x0 : Nat) (S : ZS) : Option (Int32 × ZS) :=
  m_bnd (zt S) (fun q1 =>
  m_bnd (zsNewO S q1 6 2) (fun S2 =>
  m_cal (f_X6_init q1 S2) (fun o5 => m_chk (zt o5.2 = zt S2 ∧ zu o5.2 = zu S2) (
  m_chk (zK o5.2 x0 = 11) (
  m_bnd (zsP o5.2 0 x0 (some q1)) (fun S6 =>
  m_bnd (zt S6) (fun q7 =>
  m_bnd (zsNewO S6 q7 6 2) (fun S8 =>
  m_cal (f_X6_init q7 S8) (fun o11 => m_chk (zt o11.2 = zt S8 ∧ zu o11.2 = zu S8) (
  m_chk (zK o11.2 x0 = 11) (
  m_bnd (zsP o11.2 1 x0 (some q7)) (fun S12 =>
  m_bnd (zt S12) (fun q13 =>
  m_bnd (zsNewO S12 q13 7 2) (fun S14 =>
  m_cal2 (d_X7_init q13 S14) (fun r18 S19 =>
  m_chk (zK S19 x0 = 11) (
  m_bnd (zsP S19 2 x0 (some q13)) (fun S22 =>
  m_bnd (zt S22) (fun q23 =>
  m_bnd (zsNewO S22 q23 8 12) (fun S24 =>
  m_cal2 (d_X8_init q23 S24) (fun r28 S29 =>
  m_chk (zK S29 x0 = 11) (
  m_bnd (zsP S29 3 x0 (some q23)) (fun S32 =>
  m_bnd (zt S32) (fun q33 =>
  m_bnd (zsNewO S32 q33 9 1) (fun S34 =>
  m_cal2 (d_X9_init q33 S34) (fun r38 S39 =>
  m_chk (zK S39 x0 = 11) (
  m_bnd (zsP S39 4 x0 (some q33)) (fun S42 =>
  m_bnd (zt S42) (fun q43 =>
  m_bnd (zsNewO S42 q43 2 12) (fun S44 =>
  m_cal2 (d_X2_init q43 S44) (fun r48 S49 =>
  m_chk (zK S49 x0 = 11) (
  m_bnd (zsP S49 5 x0 (some q43)) (fun S52 =>
  m_bnd (zt S52) (fun q53 =>
  m_bnd (zsNewO S52 q53 3 2) (fun S54 =>
  m_cal2 (d_X3_init q53 S54) (fun r58 S59 =>
  m_chk (zK S59 x0 = 11) (
  m_bnd (zsP S59 6 x0 (some q53)) (fun S62 =>
  m_bnd (zt S62) (fun q63 =>
  m_bnd (zsNewO S62 q63 1 8) (fun S64 =>
  m_cal2 (d_X1_init q63 S64) (fun r68 S69 =>
  m_chk (zK S69 x0 = 11) (
  m_bnd (zsP S69 7 x0 (some q63)) (fun S72 =>
  m_chk (zK S72 x0 = 11) (
  m_bnd (zsI S72 8 x0 (0 : Int32)) (fun S73 =>
  m_bnd (zt S73) (fun q74 =>
  m_bnd (zsNewO S73 q74 0 7) (fun S75 =>
  m_cal2 (d_X0_init q74 S75) (fun r79 S80 =>
  m_chk (zK S80 x0 = 11) (
  m_bnd (zsP S80 9 x0 (some q74)) (fun S83 =>
  m_chk (zK S83 x0 = 11) (
  m_cal (zP S83 9 x0) (fun b84 =>
  m_chk (zK S83 b84 = 0) (
  m_cal (f_X0_setUp b84 S83) (fun o85 => m_chk (zt o85.2 = zt S83 ∧ zu o85.2 = zu S83) (
  some (0, o85.2)))))))))))))))))))))))))))))))))))))))))))))))))))))))
theorem tt_X11_init_0 {Pw : Int32 → ZS → Prop}   {x0 : Nat} {S : ZS} : Tw Pw (d_X11_init_0 x0 S) (zt S) (zu S) (fun C T => g_X11_init_0 Pw x0 S C T) := by
  unfold d_X11_init_0 g_X11_init_0
  refine tw_new (fun _ => ⟨congrArg (· + 1) (⟨rfl, rfl⟩ : zt S = zt S ∧ zu S = zu S).1, congrArg (· + _) (⟨rfl, rfl⟩ : zt S = zt S ∧ zu S = zu S).2⟩) (fun q1 S2 cS2 => ?_)
  refine tw_calf cS2 (fun o5 co5 => ?_)
  refine tw_chk (fun _ => ?_)
  refine tw_bnds co5 (fun S6 cS6 => ?_)
  refine tw_new (fun _ => ⟨congrArg (· + 1) cS6.1, congrArg (· + _) cS6.2⟩) (fun q7 S8 cS8 => ?_)
  refine tw_calf cS8 (fun o11 co11 => ?_)
  refine tw_chk (fun _ => ?_)
  refine tw_bnds co11 (fun S12 cS12 => ?_)
  refine tw_new (fun _ => ⟨congrArg (· + 1) cS12.1, congrArg (· + _) cS12.2⟩) (fun q13 S14 cS14 => ?_)
  refine tw_gal (fun Pw9 => tw_at cS14 tt_X7_init) (fun r18 S19 => ?_)
  refine tw_chk (fun _ => ?_)
  refine tw_bnds (⟨rfl, rfl⟩ : zt S19 = zt S19 ∧ zu S19 = zu S19) (fun S22 cS22 => ?_)
  refine tw_new (fun _ => ⟨congrArg (· + 1) cS22.1, congrArg (· + _) cS22.2⟩) (fun q23 S24 cS24 => ?_)
  refine tw_gal (fun Pw9 => tw_at cS24 tt_X8_init) (fun r28 S29 => ?_)
  refine tw_chk (fun _ => ?_)
  refine tw_bnds (⟨rfl, rfl⟩ : zt S29 = zt S29 ∧ zu S29 = zu S29) (fun S32 cS32 => ?_)
  refine tw_new (fun _ => ⟨congrArg (· + 1) cS32.1, congrArg (· + _) cS32.2⟩) (fun q33 S34 cS34 => ?_)
  refine tw_gal (fun Pw9 => tw_at cS34 tt_X9_init) (fun r38 S39 => ?_)
  refine tw_chk (fun _ => ?_)
  refine tw_bnds (⟨rfl, rfl⟩ : zt S39 = zt S39 ∧ zu S39 = zu S39) (fun S42 cS42 => ?_)
  refine tw_new (fun _ => ⟨congrArg (· + 1) cS42.1, congrArg (· + _) cS42.2⟩) (fun q43 S44 cS44 => ?_)
  refine tw_gal (fun Pw9 => tw_at cS44 tt_X2_init) (fun r48 S49 => ?_)
  refine tw_chk (fun _ => ?_)
  refine tw_bnds (⟨rfl, rfl⟩ : zt S49 = zt S49 ∧ zu S49 = zu S49) (fun S52 cS52 => ?_)
  refine tw_new (fun _ => ⟨congrArg (· + 1) cS52.1, congrArg (· + _) cS52.2⟩) (fun q53 S54 cS54 => ?_)
  refine tw_gal (fun Pw9 => tw_at cS54 tt_X3_init) (fun r58 S59 => ?_)
  refine tw_chk (fun _ => ?_)
  refine tw_bnds (⟨rfl, rfl⟩ : zt S59 = zt S59 ∧ zu S59 = zu S59) (fun S62 cS62 => ?_)
  refine tw_new (fun _ => ⟨congrArg (· + 1) cS62.1, congrArg (· + _) cS62.2⟩) (fun q63 S64 cS64 => ?_)
  refine tw_gal (fun Pw9 => tw_at cS64 tt_X1_init) (fun r68 S69 => ?_)
  refine tw_chk (fun _ => ?_)
  refine tw_bnds (⟨rfl, rfl⟩ : zt S69 = zt S69 ∧ zu S69 = zu S69) (fun S72 cS72 => ?_)
  refine tw_chk (fun _ => ?_)
  refine tw_bnds cS72 (fun S73 cS73 => ?_)
  refine tw_new (fun _ => ⟨congrArg (· + 1) cS73.1, congrArg (· + _) cS73.2⟩) (fun q74 S75 cS75 => ?_)
  refine tw_gal (fun Pw9 => tw_at cS75 tt_X0_init) (fun r79 S80 => ?_)
  refine tw_chk (fun _ => ?_)
  refine tw_bnds (⟨rfl, rfl⟩ : zt S80 = zt S80 ∧ zu S80 = zu S80) (fun S83 cS83 => ?_)
  refine tw_chk (fun _ => ?_)
  refine tw_calv (fun b84 => ?_)
  refine tw_chk (fun _ => ?_)
  refine tw_calf cS83 (fun o85 co85 => ?_)
  exact tw_ret co85
def d_X11_init (x0 : Nat) (S : ZS) : Option (Int32 × ZS) := d_X11_init_0 x0 S
theorem tt_X11_init {Pw : Int32 → ZS → Prop} {x0 : Nat} {S : ZS} : Tw Pw (d_X11_init x0 S) (zt S) (zu S) (fun C T => g_X11_init x0 S C T Pw) := tt_X11_init_0
def d_X11_type_26 (S : ZS) : Option (Int32 × ZS) :=
  m_chk (vp_nar .boolean (0 : Int32) = (0 : Int32)) (
  some ((0 : Int32), S))
theorem tt_X11_type_26 {Pw : Int32 → ZS → Prop}   {S : ZS} : Tw Pw (d_X11_type_26 S) (zt S) (zu S) (fun C T => g_X11_type_26 Pw S C T) := by
  unfold d_X11_type_26 g_X11_type_26
  refine tw_chk (fun _ => ?_)
  exact tw_ret (⟨rfl, rfl⟩ : zt S = zt S ∧ zu S = zu S)
def d_X11_type_77s (self77 : Nat → Int64 → Int32 → Int32 → ZS → Option (Int32 × ZS)) (x0 : Nat) (x1 : Int64) (x3 : Int32) (x4 : Int32) (S : ZS) : Option (Int32 × ZS) :=
  m_if (x3 ≤ x4) (
  m_chk (vp_nar .boolean (1 : Int32) = (1 : Int32)) (
  some ((1 : Int32), S))
  ) (
  m_chk (zK S x0 = 11) (
  m_cal (zP S 0 x0) (fun b1 =>
  m_cal (f_X11_byteOf x1 x4 S) (fun o2 => m_chk (zt o2.2 = zt S ∧ zu o2.2 = zu S) (
  m_chk (zK o2.2 b1 = 6) (
  m_cal2 (d_X6_put b1 o2.1 o2.2) (fun r4 S5 =>
  m_bnd (x4 + (1 : Int32)) (fun v8 =>
  self77 x0 x1 x3 v8 S5)))))))
  )
theorem tt_X11_type_77s {Pw : Int32 → ZS → Prop} {self77 : Nat → Int64 → Int32 → Int32 → ZS → Option (Int32 × ZS)} {self77g : Nat → Int64 → Int32 → Int32 → ZS → Nat → Nat → Prop} (hself77 : ∀ (y0 : Nat) (y1 : Int64) (y2 : Int32) (y3 : Int32) (S : ZS), Tw Pw (self77 y0 y1 y2 y3 S) (zt S) (zu S) (fun C T => self77g y0 y1 y2 y3 S C T)) {x0 : Nat} {x1 : Int64} {x3 : Int32} {x4 : Int32} {S : ZS} : Tw Pw (d_X11_type_77s self77 x0 x1 x3 x4 S) (zt S) (zu S) (fun C T => g_X11_type_77s Pw self77g x0 x1 x3 x4 S C T) := by
  unfold d_X11_type_77s g_X11_type_77s
  refine tw_if (fun _ => ?_) (fun _ => ?_)
  ·
    refine tw_chk (fun _ => ?_)
    exact tw_ret (⟨rfl, rfl⟩ : zt S = zt S ∧ zu S = zu S)
  ·
    refine tw_chk (fun _ => ?_)
    refine tw_calv (fun b1 => ?_)
    refine tw_calf (⟨rfl, rfl⟩ : zt S = zt S ∧ zu S = zu S) (fun o2 co2 => ?_)
    refine tw_chk (fun _ => ?_)
    refine tw_gal (fun Pw9 => tw_at co2 tt_X6_put) (fun r4 S5 => ?_)
    refine tw_bndv (fun v8 => ?_)
    exact tw_at (⟨rfl, rfl⟩ : zt S5 = zt S5 ∧ zu S5 = zu S5) (hself77 _ _ _ _ _)
def d_X11_type_77  : Nat → Nat → Int64 → Int32 → Int32 → ZS → Option (Int32 × ZS)
  | 0 => fun _ _ _ _ _ => none
  | n + 1 => d_X11_type_77s  (d_X11_type_77  n)
theorem tt_X11_type_77 {Pw : Int32 → ZS → Prop}   {n : Nat} : ∀ {z0 : Nat} {z1 : Int64} {z2 : Int32} {z3 : Int32} {S : ZS}, Tw Pw (d_X11_type_77  n z0 z1 z2 z3 S) (zt S) (zu S) (fun C T => g_X11_type_77 Pw  n z0 z1 z2 z3 S C T) := by
  induction n with
  | zero => intro z0 z1 z2 z3 S; exact tw_none
  | succ n ih => intro z0 z1 z2 z3 S; exact tt_X11_type_77s  (fun _ _ _ _ _ => ih)
def d_X11_type_68 (self31 : Nat → Int64 → Int32 → Int32 → ZS → Option (Int32 × ZS)) (x0 : Nat) (x1 : Int64) (x3 : Int32) (x4 : Int32) (S : ZS) : Option (Int32 × ZS) :=
  m_bnd (x4 + (1 : Int32)) (fun v1 =>
  self31 x0 x1 x3 v1 S)
theorem tt_X11_type_68 {Pw : Int32 → ZS → Prop} {self31 : Nat → Int64 → Int32 → Int32 → ZS → Option (Int32 × ZS)} {self31g : Nat → Int64 → Int32 → Int32 → ZS → Nat → Nat → Prop} (hself31 : ∀ (y0 : Nat) (y1 : Int64) (y2 : Int32) (y3 : Int32) (S : ZS), Tw Pw (self31 y0 y1 y2 y3 S) (zt S) (zu S) (fun C T => self31g y0 y1 y2 y3 S C T)) {x0 : Nat} {x1 : Int64} {x3 : Int32} {x4 : Int32} {S : ZS} : Tw Pw (d_X11_type_68 self31 x0 x1 x3 x4 S) (zt S) (zu S) (fun C T => g_X11_type_68 Pw self31g x0 x1 x3 x4 S C T) := by
  unfold d_X11_type_68 g_X11_type_68
  refine tw_bndv (fun v1 => ?_)
  exact tw_at (⟨rfl, rfl⟩ : zt S = zt S ∧ zu S = zu S) (hself31 _ _ _ _ _)
def d_X11_type_66 (S : ZS) : Option (Int32 × ZS) :=
  m_chk (vp_nar .boolean (0 : Int32) = (0 : Int32)) (
  some ((0 : Int32), S))
theorem tt_X11_type_66 {Pw : Int32 → ZS → Prop}   {S : ZS} : Tw Pw (d_X11_type_66 S) (zt S) (zu S) (fun C T => g_X11_type_66 Pw S C T) := by
  unfold d_X11_type_66 g_X11_type_66
  refine tw_chk (fun _ => ?_)
  exact tw_ret (⟨rfl, rfl⟩ : zt S = zt S ∧ zu S = zu S)
def d_X11_type_31s (self31 : Nat → Int64 → Int32 → Int32 → ZS → Option (Int32 × ZS)) (x0 : Nat) (x1 : Int64) (x3 : Int32) (x4 : Int32) (S : ZS) : Option (Int32 × ZS) :=
  m_if (x3 ≤ x4) (
  d_X11_type_77 mFuel x0 x1 x3 (0 : Int32) S
  ) (
  m_cal (f_X11_byteOf x1 x4 S) (fun o1 => m_chk (zt o1.2 = zt S ∧ zu o1.2 = zu S) (
  m_if (o1.1 = (10 : Int32)) (
  d_X11_type_68 self31 x0 x1 x3 x4 o1.2
  ) (
  m_if (o1.1 < (32 : Int32)) (
  d_X11_type_66 o1.2
  ) (
  m_if (o1.1 ≤ (126 : Int32)) (
  d_X11_type_68 self31 x0 x1 x3 x4 o1.2
  ) (
  d_X11_type_66 o1.2
  )
  )
  )))
  )
theorem tt_X11_type_31s {Pw : Int32 → ZS → Prop} {self31 : Nat → Int64 → Int32 → Int32 → ZS → Option (Int32 × ZS)} {self31g : Nat → Int64 → Int32 → Int32 → ZS → Nat → Nat → Prop} (hself31 : ∀ (y0 : Nat) (y1 : Int64) (y2 : Int32) (y3 : Int32) (S : ZS), Tw Pw (self31 y0 y1 y2 y3 S) (zt S) (zu S) (fun C T => self31g y0 y1 y2 y3 S C T)) {x0 : Nat} {x1 : Int64} {x3 : Int32} {x4 : Int32} {S : ZS} : Tw Pw (d_X11_type_31s self31 x0 x1 x3 x4 S) (zt S) (zu S) (fun C T => g_X11_type_31s Pw self31g x0 x1 x3 x4 S C T) := by
  unfold d_X11_type_31s g_X11_type_31s
  refine tw_if (fun _ => ?_) (fun _ => ?_)
  ·
    exact tw_at (⟨rfl, rfl⟩ : zt S = zt S ∧ zu S = zu S) (tt_X11_type_77)
  ·
    refine tw_calf (⟨rfl, rfl⟩ : zt S = zt S ∧ zu S = zu S) (fun o1 co1 => ?_)
    refine tw_if (fun _ => ?_) (fun _ => ?_)
    ·
      exact tw_at co1 (tt_X11_type_68 hself31)
    ·
      refine tw_if (fun _ => ?_) (fun _ => ?_)
      ·
        exact tw_at co1 (tt_X11_type_66)
      ·
        refine tw_if (fun _ => ?_) (fun _ => ?_)
        ·
          exact tw_at co1 (tt_X11_type_68 hself31)
        ·
          exact tw_at co1 (tt_X11_type_66)
def d_X11_type_31  : Nat → Nat → Int64 → Int32 → Int32 → ZS → Option (Int32 × ZS)
  | 0 => fun _ _ _ _ _ => none
  | n + 1 => d_X11_type_31s  (d_X11_type_31  n)
theorem tt_X11_type_31 {Pw : Int32 → ZS → Prop}   {n : Nat} : ∀ {z0 : Nat} {z1 : Int64} {z2 : Int32} {z3 : Int32} {S : ZS}, Tw Pw (d_X11_type_31  n z0 z1 z2 z3 S) (zt S) (zu S) (fun C T => g_X11_type_31 Pw  n z0 z1 z2 z3 S C T) := by
  induction n with
  | zero => intro z0 z1 z2 z3 S; exact tw_none
  | succ n ih => intro z0 z1 z2 z3 S; exact tt_X11_type_31s  (fun _ _ _ _ _ => ih)
def d_X11_type_0 (x0 : Nat) (x1 : Int64) (x3 : Int32) (S : ZS) : Option (Int32 × ZS) :=
  m_if (x3 < (1 : Int32)) (
  d_X11_type_26 S
  ) (
  m_if ((8 : Int32) < x3) (
  d_X11_type_26 S
  ) (
  m_chk (zK S x0 = 11) (
  m_cal (zP S 0 x0) (fun b1 =>
  m_chk (zK S b1 = 6) (
  m_cal (f_X6_size b1 S) (fun o2 => m_chk (zt o2.2 = zt S ∧ zu o2.2 = zu S) (
  m_bnd (o2.1 + x3) (fun v3 =>
  m_if (v3 ≤ (2000 : Int32)) (
  d_X11_type_31 mFuel x0 x1 x3 (0 : Int32) o2.2
  ) (
  d_X11_type_26 o2.2
  )))))))
  )
  )
theorem tt_X11_type_0 {Pw : Int32 → ZS → Prop}   {x0 : Nat} {x1 : Int64} {x3 : Int32} {S : ZS} : Tw Pw (d_X11_type_0 x0 x1 x3 S) (zt S) (zu S) (fun C T => g_X11_type_0 Pw x0 x1 x3 S C T) := by
  unfold d_X11_type_0 g_X11_type_0
  refine tw_if (fun _ => ?_) (fun _ => ?_)
  ·
    exact tw_at (⟨rfl, rfl⟩ : zt S = zt S ∧ zu S = zu S) (tt_X11_type_26)
  ·
    refine tw_if (fun _ => ?_) (fun _ => ?_)
    ·
      exact tw_at (⟨rfl, rfl⟩ : zt S = zt S ∧ zu S = zu S) (tt_X11_type_26)
    ·
      refine tw_chk (fun _ => ?_)
      refine tw_calv (fun b1 => ?_)
      refine tw_chk (fun _ => ?_)
      refine tw_calf (⟨rfl, rfl⟩ : zt S = zt S ∧ zu S = zu S) (fun o2 co2 => ?_)
      refine tw_bndv (fun v3 => ?_)
      refine tw_if (fun _ => ?_) (fun _ => ?_)
      ·
        exact tw_at co2 (tt_X11_type_31)
      ·
        exact tw_at co2 (tt_X11_type_26)
def d_X11_type (x0 : Nat) (x1 : Int64) (x3 : Int32) (S : ZS) : Option (Int32 × ZS) := d_X11_type_0 x0 x1 x3 S
theorem tt_X11_type {Pw : Int32 → ZS → Prop} {x0 : Nat} {x1 : Int64} {x3 : Int32} {S : ZS} : Tw Pw (d_X11_type x0 x1 x3 S) (zt S) (zu S) (fun C T => g_X11_type x0 x1 x3 S C T Pw) := tt_X11_type_0
def d_X11_read_41 (x0 : Nat) (S : ZS) : Option (Int32 × ZS) :=
  m_chk (zK S x0 = 11) (
  m_cal (zP S 5 x0) (fun b1 =>
  m_chk (zK S b1 = 2) (
  m_cal (f_X2_fault b1 S) (fun o2 => m_chk (zt o2.2 = zt S ∧ zu o2.2 = zu S) (
  some (o2.1, o2.2))))))
theorem tt_X11_read_41 {Pw : Int32 → ZS → Prop}   {x0 : Nat} {S : ZS} : Tw Pw (d_X11_read_41 x0 S) (zt S) (zu S) (fun C T => g_X11_read_41 Pw x0 S C T) := by
  unfold d_X11_read_41 g_X11_read_41
  refine tw_chk (fun _ => ?_)
  refine tw_calv (fun b1 => ?_)
  refine tw_chk (fun _ => ?_)
  refine tw_calf (⟨rfl, rfl⟩ : zt S = zt S ∧ zu S = zu S) (fun o2 co2 => ?_)
  exact tw_ret co2
def d_X11_read_0 (x0 : Nat) (S : ZS) : Option (Int32 × ZS) :=
  m_chk (zK S x0 = 11) (
  m_cal (zP S 5 x0) (fun b1 =>
  m_chk (zK S x0 = 11) (
  m_cal (zP S 0 x0) (fun b2 =>
  m_chk (zK S b1 = 2) (
  m_cal (f_X2_begin b1 b2 S) (fun o3 => m_chk (zt o3.2 = zt S ∧ zu o3.2 = zu S) (
  m_chk (zK o3.2 x0 = 11) (
  m_cal (zP o3.2 5 x0) (fun b4 =>
  m_chk (zK o3.2 b4 = 2) (
  m_cal2 (d_X2_readHead b4 o3.2) (fun r6 S7 =>
  m_if (r6 = 0) (
  d_X11_read_41 x0 S7
  ) (
  m_chk (zK S7 x0 = 11) (
  m_cal (zP S7 5 x0) (fun b10 =>
  m_chk (zK S7 b10 = 2) (
  m_cal2 (d_X2_readMoves b10 S7) (fun r12 S13 =>
  m_if (r12 = 0) (
  d_X11_read_41 x0 S13
  ) (
  m_chk (zK S13 x0 = 11) (
  m_cal (zP S13 5 x0) (fun b16 =>
  m_chk (zK S13 b16 = 2) (
  m_cal2 (d_X2_readEnd b16 S13) (fun r18 S19 =>
  m_if (r18 = 0) (
  d_X11_read_41 x0 S19
  ) (
  m_chk (zK S19 x0 = 11) (
  m_cal (zP S19 5 x0) (fun b22 =>
  m_chk (zK S19 x0 = 11) (
  m_cal (zP S19 7 x0) (fun b23 =>
  m_chk (zK S19 b22 = 2) (
  m_cal (f_X2_exchange b22 b23 S19) (fun o24 => m_chk (zt o24.2 = zt S19 ∧ zu o24.2 = zu S19) (
  m_chk (zK o24.2 x0 = 11) (
  m_bnd (zsP o24.2 7 x0 (some o24.1)) (fun S25 =>
  m_chk (zK S25 x0 = 11) (
  m_cal (zP S25 0 x0) (fun b26 =>
  m_chk (zK S25 b26 = 6) (
  m_cal (f_X6_keep b26 (0 : Int32) S25) (fun o27 => m_chk (zt o27.2 = zt S25 ∧ zu o27.2 = zu S25) (
  m_chk (zK o27.2 x0 = 11) (
  m_bnd (zsI o27.2 8 x0 (0 : Int32)) (fun S28 =>
  m_chk (zK S28 x0 = 11) (
  m_cal (zP S28 7 x0) (fun b29 =>
  m_chk (zK S28 x0 = 11) (
  m_cal (zP S28 9 x0) (fun b30 =>
  m_chk (zK S28 b29 = 1) (
  m_cal (f_X1_standAt b29 (0 : Int32) b30 S28) (fun o31 => m_chk (zt o31.2 = zt S28 ∧ zu o31.2 = zu S28) (
  some ((0 : Int32), o31.2))))))))))))))))))))))))
  )))))
  )))))
  ))))))))))))
theorem tt_X11_read_0 {Pw : Int32 → ZS → Prop}   {x0 : Nat} {S : ZS} : Tw Pw (d_X11_read_0 x0 S) (zt S) (zu S) (fun C T => g_X11_read_0 Pw x0 S C T) := by
  unfold d_X11_read_0 g_X11_read_0
  refine tw_chk (fun _ => ?_)
  refine tw_calv (fun b1 => ?_)
  refine tw_chk (fun _ => ?_)
  refine tw_calv (fun b2 => ?_)
  refine tw_chk (fun _ => ?_)
  refine tw_calf (⟨rfl, rfl⟩ : zt S = zt S ∧ zu S = zu S) (fun o3 co3 => ?_)
  refine tw_chk (fun _ => ?_)
  refine tw_calv (fun b4 => ?_)
  refine tw_chk (fun _ => ?_)
  refine tw_gal (fun Pw9 => tw_at co3 tt_X2_readHead) (fun r6 S7 => ?_)
  refine tw_if (fun _ => ?_) (fun _ => ?_)
  ·
    exact tw_at (⟨rfl, rfl⟩ : zt S7 = zt S7 ∧ zu S7 = zu S7) (tt_X11_read_41)
  ·
    refine tw_chk (fun _ => ?_)
    refine tw_calv (fun b10 => ?_)
    refine tw_chk (fun _ => ?_)
    refine tw_gal (fun Pw9 => tw_at (⟨rfl, rfl⟩ : zt S7 = zt S7 ∧ zu S7 = zu S7) tt_X2_readMoves) (fun r12 S13 => ?_)
    refine tw_if (fun _ => ?_) (fun _ => ?_)
    ·
      exact tw_at (⟨rfl, rfl⟩ : zt S13 = zt S13 ∧ zu S13 = zu S13) (tt_X11_read_41)
    ·
      refine tw_chk (fun _ => ?_)
      refine tw_calv (fun b16 => ?_)
      refine tw_chk (fun _ => ?_)
      refine tw_gal (fun Pw9 => tw_at (⟨rfl, rfl⟩ : zt S13 = zt S13 ∧ zu S13 = zu S13) tt_X2_readEnd) (fun r18 S19 => ?_)
      refine tw_if (fun _ => ?_) (fun _ => ?_)
      ·
        exact tw_at (⟨rfl, rfl⟩ : zt S19 = zt S19 ∧ zu S19 = zu S19) (tt_X11_read_41)
      ·
        refine tw_chk (fun _ => ?_)
        refine tw_calv (fun b22 => ?_)
        refine tw_chk (fun _ => ?_)
        refine tw_calv (fun b23 => ?_)
        refine tw_chk (fun _ => ?_)
        refine tw_calf (⟨rfl, rfl⟩ : zt S19 = zt S19 ∧ zu S19 = zu S19) (fun o24 co24 => ?_)
        refine tw_chk (fun _ => ?_)
        refine tw_bnds co24 (fun S25 cS25 => ?_)
        refine tw_chk (fun _ => ?_)
        refine tw_calv (fun b26 => ?_)
        refine tw_chk (fun _ => ?_)
        refine tw_calf cS25 (fun o27 co27 => ?_)
        refine tw_chk (fun _ => ?_)
        refine tw_bnds co27 (fun S28 cS28 => ?_)
        refine tw_chk (fun _ => ?_)
        refine tw_calv (fun b29 => ?_)
        refine tw_chk (fun _ => ?_)
        refine tw_calv (fun b30 => ?_)
        refine tw_chk (fun _ => ?_)
        refine tw_calf cS28 (fun o31 co31 => ?_)
        exact tw_ret co31
