def d_X2_readTag (x0 : Nat) (S : ZS) : Option (Int32 × ZS) := d_X2_readTag_0 x0 S
theorem tt_X2_readTag {Pw : Int32 → ZS → Prop} {x0 : Nat} {S : ZS} : Tw Pw (d_X2_readTag x0 S) (zt S) (zu S) (fun C T => g_X2_readTag x0 S C T Pw) := tt_X2_readTag_0
def d_X4_joinRemark_96 (self64 : Nat → Nat → Int32 → Int32 → ZS → Option (Int32 × ZS)) (x0 : Nat) (x1 : Nat) (x3 : Int32) (x5 : Int32) (t0 : Int32) (t1 : Nat) (S : ZS) : Option (Int32 × ZS) :=
  m_chk (zK S t1 = 6) (
  m_cal2 (d_X6_put t1 t0 S) (fun r2 S3 =>
  m_bnd (x5 + (1 : Int32)) (fun v6 =>
  self64 x0 x1 x3 v6 S3)))
theorem tt_X4_joinRemark_96 {Pw : Int32 → ZS → Prop} {self64 : Nat → Nat → Int32 → Int32 → ZS → Option (Int32 × ZS)} {self64g : Nat → Nat → Int32 → Int32 → ZS → Nat → Nat → Prop} (hself64 : ∀ (y0 : Nat) (y1 : Nat) (y2 : Int32) (y3 : Int32) (S : ZS), Tw Pw (self64 y0 y1 y2 y3 S) (zt S) (zu S) (fun C T => self64g y0 y1 y2 y3 S C T)) {x0 : Nat} {x1 : Nat} {x3 : Int32} {x5 : Int32} {t0 : Int32} {t1 : Nat} {S : ZS} : Tw Pw (d_X4_joinRemark_96 self64 x0 x1 x3 x5 t0 t1 S) (zt S) (zu S) (fun C T => g_X4_joinRemark_96 Pw self64g x0 x1 x3 x5 t0 t1 S C T) := by
  unfold d_X4_joinRemark_96 g_X4_joinRemark_96
  refine tw_chk (fun _ => ?_)
  refine tw_gal (fun Pw9 => tw_at (⟨rfl, rfl⟩ : zt S = zt S ∧ zu S = zu S) tt_X6_put) (fun r2 S3 => ?_)
  refine tw_bndv (fun v6 => ?_)
  exact tw_at (⟨rfl, rfl⟩ : zt S3 = zt S3 ∧ zu S3 = zu S3) (hself64 _ _ _ _ _)
def d_X4_joinRemark_64s (self64 : Nat → Nat → Int32 → Int32 → ZS → Option (Int32 × ZS)) (x0 : Nat) (x1 : Nat) (x3 : Int32) (x5 : Int32) (S : ZS) : Option (Int32 × ZS) :=
  m_if (x3 ≤ x5) (
  m_chk (vp_nar .boolean (1 : Int32) = (1 : Int32)) (
  some ((1 : Int32), S))
  ) (
  m_chk (zK S x0 = 4) (
  m_cal (zP S 6 x0) (fun b1 =>
  m_chk (zK S x1 = 6) (
  m_cal (f_X6_at x1 x5 S) (fun o2 => m_chk (zt o2.2 = zt S ∧ zu o2.2 = zu S) (
  m_if (o2.1 = (10 : Int32)) (
  d_X4_joinRemark_96 self64 x0 x1 x3 x5 (32 : Int32) b1 o2.2
  ) (
  m_chk (zK o2.2 x1 = 6) (
  m_cal (f_X6_at x1 x5 o2.2) (fun o3 => m_chk (zt o3.2 = zt o2.2 ∧ zu o3.2 = zu o2.2) (
  d_X4_joinRemark_96 self64 x0 x1 x3 x5 o3.1 b1 o3.2)))
  ))))))
  )
theorem tt_X4_joinRemark_64s {Pw : Int32 → ZS → Prop} {self64 : Nat → Nat → Int32 → Int32 → ZS → Option (Int32 × ZS)} {self64g : Nat → Nat → Int32 → Int32 → ZS → Nat → Nat → Prop} (hself64 : ∀ (y0 : Nat) (y1 : Nat) (y2 : Int32) (y3 : Int32) (S : ZS), Tw Pw (self64 y0 y1 y2 y3 S) (zt S) (zu S) (fun C T => self64g y0 y1 y2 y3 S C T)) {x0 : Nat} {x1 : Nat} {x3 : Int32} {x5 : Int32} {S : ZS} : Tw Pw (d_X4_joinRemark_64s self64 x0 x1 x3 x5 S) (zt S) (zu S) (fun C T => g_X4_joinRemark_64s Pw self64g x0 x1 x3 x5 S C T) := by
  unfold d_X4_joinRemark_64s g_X4_joinRemark_64s
  refine tw_if (fun _ => ?_) (fun _ => ?_)
  ·
    refine tw_chk (fun _ => ?_)
    exact tw_ret (⟨rfl, rfl⟩ : zt S = zt S ∧ zu S = zu S)
  ·
    refine tw_chk (fun _ => ?_)
    refine tw_calv (fun b1 => ?_)
    refine tw_chk (fun _ => ?_)
    refine tw_calf (⟨rfl, rfl⟩ : zt S = zt S ∧ zu S = zu S) (fun o2 co2 => ?_)
    refine tw_if (fun _ => ?_) (fun _ => ?_)
    ·
      exact tw_at co2 (tt_X4_joinRemark_96 hself64)
    ·
      refine tw_chk (fun _ => ?_)
      refine tw_calf co2 (fun o3 co3 => ?_)
      exact tw_at co3 (tt_X4_joinRemark_96 hself64)
def d_X4_joinRemark_64  : Nat → Nat → Nat → Int32 → Int32 → ZS → Option (Int32 × ZS)
  | 0 => fun _ _ _ _ _ => none
  | n + 1 => d_X4_joinRemark_64s  (d_X4_joinRemark_64  n)
theorem tt_X4_joinRemark_64 {Pw : Int32 → ZS → Prop}   {n : Nat} : ∀ {z0 : Nat} {z1 : Nat} {z2 : Int32} {z3 : Int32} {S : ZS}, Tw Pw (d_X4_joinRemark_64  n z0 z1 z2 z3 S) (zt S) (zu S) (fun C T => g_X4_joinRemark_64 Pw  n z0 z1 z2 z3 S C T) := by
  induction n with
  | zero => intro z0 z1 z2 z3 S; exact tw_none
  | succ n ih => intro z0 z1 z2 z3 S; exact tt_X4_joinRemark_64s  (fun _ _ _ _ _ => ih)
def d_X4_joinRemark_61 (x0 : Nat) (x1 : Nat) (x2 : Int32) (x3 : Int32) (S : ZS) : Option (Int32 × ZS) :=
  d_X4_joinRemark_64 mFuel x0 x1 x3 x2 S
theorem tt_X4_joinRemark_61 {Pw : Int32 → ZS → Prop}   {x0 : Nat} {x1 : Nat} {x2 : Int32} {x3 : Int32} {S : ZS} : Tw Pw (d_X4_joinRemark_61 x0 x1 x2 x3 S) (zt S) (zu S) (fun C T => g_X4_joinRemark_61 Pw x0 x1 x2 x3 S C T) := by
  unfold d_X4_joinRemark_61 g_X4_joinRemark_61
  exact tw_at (⟨rfl, rfl⟩ : zt S = zt S ∧ zu S = zu S) (tt_X4_joinRemark_64)
def d_X4_joinRemark_22 (x0 : Nat) (x1 : Nat) (x2 : Int32) (x3 : Int32) (t0 : Int32) (S : ZS) : Option (Int32 × ZS) :=
  m_chk (zK S x0 = 4) (
  m_cal (zP S 6 x0) (fun b1 =>
  m_chk (zK S b1 = 6) (
  m_cal (f_X6_size b1 S) (fun o2 => m_chk (zt o2.2 = zt S ∧ zu o2.2 = zu S) (
  m_bnd (o2.1 + t0) (fun v3 =>
  m_bnd (v3 + x3) (fun v4 =>
  m_bnd (v4 - x2) (fun v5 =>
  m_if (v5 ≤ (200 : Int32)) (
  m_if (t0 = (1 : Int32)) (
  m_chk (zK o2.2 x0 = 4) (
  m_cal (zP o2.2 6 x0) (fun b6 =>
  m_chk (zK o2.2 b6 = 6) (
  m_cal2 (d_X6_put b6 (32 : Int32) o2.2) (fun r8 S9 =>
  d_X4_joinRemark_61 x0 x1 x2 x3 S9))))
  ) (
  d_X4_joinRemark_61 x0 x1 x2 x3 o2.2
  )
  ) (
  m_chk (vp_nar .boolean (0 : Int32) = (0 : Int32)) (
  some ((0 : Int32), o2.2))
  )))))))))
theorem tt_X4_joinRemark_22 {Pw : Int32 → ZS → Prop}   {x0 : Nat} {x1 : Nat} {x2 : Int32} {x3 : Int32} {t0 : Int32} {S : ZS} : Tw Pw (d_X4_joinRemark_22 x0 x1 x2 x3 t0 S) (zt S) (zu S) (fun C T => g_X4_joinRemark_22 Pw x0 x1 x2 x3 t0 S C T) := by
  unfold d_X4_joinRemark_22 g_X4_joinRemark_22
  refine tw_chk (fun _ => ?_)
  refine tw_calv (fun b1 => ?_)
  refine tw_chk (fun _ => ?_)
  refine tw_calf (⟨rfl, rfl⟩ : zt S = zt S ∧ zu S = zu S) (fun o2 co2 => ?_)
  refine tw_bndv (fun v3 => ?_)
  refine tw_bndv (fun v4 => ?_)
  refine tw_bndv (fun v5 => ?_)
  refine tw_if (fun _ => ?_) (fun _ => ?_)
  ·
    refine tw_if (fun _ => ?_) (fun _ => ?_)
    ·
      refine tw_chk (fun _ => ?_)
      refine tw_calv (fun b6 => ?_)
      refine tw_chk (fun _ => ?_)
      refine tw_gal (fun Pw9 => tw_at co2 tt_X6_put) (fun r8 S9 => ?_)
      exact tw_at (⟨rfl, rfl⟩ : zt S9 = zt S9 ∧ zu S9 = zu S9) (tt_X4_joinRemark_61)
    ·
      exact tw_at co2 (tt_X4_joinRemark_61)
  ·
    refine tw_chk (fun _ => ?_)
    exact tw_ret co2
def d_X4_joinRemark_0 (x0 : Nat) (x1 : Nat) (x2 : Int32) (x3 : Int32) (S : ZS) : Option (Int32 × ZS) :=
  m_if (x2 < x3) (
  m_chk (zK S x0 = 4) (
  m_cal (zP S 6 x0) (fun b1 =>
  m_chk (zK S b1 = 6) (
  m_cal (f_X6_size b1 S) (fun o2 => m_chk (zt o2.2 = zt S ∧ zu o2.2 = zu S) (
  m_if (o2.1 ≤ 0) (
  d_X4_joinRemark_22 x0 x1 x2 x3 (0 : Int32) o2.2
  ) (
  d_X4_joinRemark_22 x0 x1 x2 x3 (1 : Int32) o2.2
  ))))))
  ) (
  m_chk (vp_nar .boolean (1 : Int32) = (1 : Int32)) (
  some ((1 : Int32), S))
  )
theorem tt_X4_joinRemark_0 {Pw : Int32 → ZS → Prop}   {x0 : Nat} {x1 : Nat} {x2 : Int32} {x3 : Int32} {S : ZS} : Tw Pw (d_X4_joinRemark_0 x0 x1 x2 x3 S) (zt S) (zu S) (fun C T => g_X4_joinRemark_0 Pw x0 x1 x2 x3 S C T) := by
  unfold d_X4_joinRemark_0 g_X4_joinRemark_0
  refine tw_if (fun _ => ?_) (fun _ => ?_)
  ·
    refine tw_chk (fun _ => ?_)
    refine tw_calv (fun b1 => ?_)
    refine tw_chk (fun _ => ?_)
    refine tw_calf (⟨rfl, rfl⟩ : zt S = zt S ∧ zu S = zu S) (fun o2 co2 => ?_)
    refine tw_if (fun _ => ?_) (fun _ => ?_)
    ·
      exact tw_at co2 (tt_X4_joinRemark_22)
    ·
      exact tw_at co2 (tt_X4_joinRemark_22)
  ·
    refine tw_chk (fun _ => ?_)
    exact tw_ret (⟨rfl, rfl⟩ : zt S = zt S ∧ zu S = zu S)
def d_X4_joinRemark (x0 : Nat) (x1 : Nat) (x2 : Int32) (x3 : Int32) (S : ZS) : Option (Int32 × ZS) := d_X4_joinRemark_0 x0 x1 x2 x3 S
theorem tt_X4_joinRemark {Pw : Int32 → ZS → Prop} {x0 : Nat} {x1 : Nat} {x2 : Int32} {x3 : Int32} {S : ZS} : Tw Pw (d_X4_joinRemark x0 x1 x2 x3 S) (zt S) (zu S) (fun C T => g_X4_joinRemark x0 x1 x2 x3 S C T Pw) := tt_X4_joinRemark_0
def d_X2_readRemark_91 (x0 : Nat) (x1 : Nat) (x2 : Int32) (x5 : Int32) (S : ZS) : Option (Int32 × ZS) :=
  m_chk (zK S x0 = 2) (
  m_cal (zP S 2 x0) (fun b1 =>
  m_bnd (x2 + (1 : Int32)) (fun v2 =>
  m_chk (zK S x1 = 4) (
  m_cal2 (d_X4_joinRemark x1 b1 v2 x5 S) (fun r4 S5 =>
  m_if (r4 = 0) (
  m_chk (zK S5 x0 = 2) (
  m_cal (f_X2_refuse x0 (8 : Int32) x2 S5) (fun o13 => m_chk (zt o13.2 = zt S5 ∧ zu o13.2 = zu S5) (
  m_chk (vp_nar .boolean o13.1 = o13.1) (
  some (o13.1, o13.2)))))
  ) (
  m_bnd (x5 + (1 : Int32)) (fun v8 =>
  m_chk (zK S5 x0 = 2) (
  m_cal (zP S5 2 x0) (fun b9 =>
  m_chk (zK S5 b9 = 6) (
  m_cal (f_X6_size b9 S5) (fun o10 => m_chk (zt o10.2 = zt S5 ∧ zu o10.2 = zu S5) (
  m_bnd (if o10.1 < v8 then o10.1 else v8) (fun v11 =>
  m_chk (zK o10.2 x0 = 2) (
  m_bnd (zsI o10.2 4 x0 v11) (fun S12 =>
  m_chk (vp_nar .boolean (1 : Int32) = (1 : Int32)) (
  some ((1 : Int32), S12)))))))))))
  ))))))
theorem tt_X2_readRemark_91 {Pw : Int32 → ZS → Prop}   {x0 : Nat} {x1 : Nat} {x2 : Int32} {x5 : Int32} {S : ZS} : Tw Pw (d_X2_readRemark_91 x0 x1 x2 x5 S) (zt S) (zu S) (fun C T => g_X2_readRemark_91 Pw x0 x1 x2 x5 S C T) := by
  unfold d_X2_readRemark_91 g_X2_readRemark_91
  refine tw_chk (fun _ => ?_)
  refine tw_calv (fun b1 => ?_)
  refine tw_bndv (fun v2 => ?_)
  refine tw_chk (fun _ => ?_)
  refine tw_gal (fun Pw9 => tw_at (⟨rfl, rfl⟩ : zt S = zt S ∧ zu S = zu S) tt_X4_joinRemark) (fun r4 S5 => ?_)
  refine tw_if (fun _ => ?_) (fun _ => ?_)
  ·
    refine tw_chk (fun _ => ?_)
    refine tw_calf (⟨rfl, rfl⟩ : zt S5 = zt S5 ∧ zu S5 = zu S5) (fun o13 co13 => ?_)
    refine tw_chk (fun _ => ?_)
    exact tw_ret co13
  ·
    refine tw_bndv (fun v8 => ?_)
    refine tw_chk (fun _ => ?_)
    refine tw_calv (fun b9 => ?_)
    refine tw_chk (fun _ => ?_)
    refine tw_calf (⟨rfl, rfl⟩ : zt S5 = zt S5 ∧ zu S5 = zu S5) (fun o10 co10 => ?_)
    refine tw_bndv (fun v11 => ?_)
    refine tw_chk (fun _ => ?_)
    refine tw_bnds co10 (fun S12 cS12 => ?_)
    refine tw_chk (fun _ => ?_)
    exact tw_ret cS12
def d_X2_readRemark_83 (x0 : Nat) (x4 : Int32) (S : ZS) : Option (Int32 × ZS) :=
  m_chk (zK S x0 = 2) (
  m_cal (f_X2_refuse x0 (1 : Int32) x4 S) (fun o1 => m_chk (zt o1.2 = zt S ∧ zu o1.2 = zu S) (
  m_chk (vp_nar .boolean o1.1 = o1.1) (
  some (o1.1, o1.2)))))
theorem tt_X2_readRemark_83 {Pw : Int32 → ZS → Prop}   {x0 : Nat} {x4 : Int32} {S : ZS} : Tw Pw (d_X2_readRemark_83 x0 x4 S) (zt S) (zu S) (fun C T => g_X2_readRemark_83 Pw x0 x4 S C T) := by
  unfold d_X2_readRemark_83 g_X2_readRemark_83
  refine tw_chk (fun _ => ?_)
  refine tw_calf (⟨rfl, rfl⟩ : zt S = zt S ∧ zu S = zu S) (fun o1 co1 => ?_)
  refine tw_chk (fun _ => ?_)
  exact tw_ret co1
def d_X2_readRemark_55 (x0 : Nat) (x1 : Nat) (x2 : Int32) (x3 : Int32) (x4 : Int32) (t0 : Int32) (S : ZS) : Option (Int32 × ZS) :=
  m_if (x3 = 0) (
  m_if (t0 ≤ x4) (
  d_X2_readRemark_91 x0 x1 x2 t0 S
  ) (
  d_X2_readRemark_83 x0 x4 S
  )
  ) (
  m_chk (zK S x0 = 2) (
  m_cal (zP S 2 x0) (fun b1 =>
  m_chk (zK S b1 = 6) (
  m_cal (f_X6_size b1 S) (fun o2 => m_chk (zt o2.2 = zt S ∧ zu o2.2 = zu S) (
  m_if (x4 = o2.1) (
  d_X2_readRemark_83 x0 x4 o2.2
  ) (
  d_X2_readRemark_91 x0 x1 x2 t0 o2.2
  ))))))
  )
theorem tt_X2_readRemark_55 {Pw : Int32 → ZS → Prop}   {x0 : Nat} {x1 : Nat} {x2 : Int32} {x3 : Int32} {x4 : Int32} {t0 : Int32} {S : ZS} : Tw Pw (d_X2_readRemark_55 x0 x1 x2 x3 x4 t0 S) (zt S) (zu S) (fun C T => g_X2_readRemark_55 Pw x0 x1 x2 x3 x4 t0 S C T) := by
  unfold d_X2_readRemark_55 g_X2_readRemark_55
  refine tw_if (fun _ => ?_) (fun _ => ?_)
  ·
    refine tw_if (fun _ => ?_) (fun _ => ?_)
    ·
      exact tw_at (⟨rfl, rfl⟩ : zt S = zt S ∧ zu S = zu S) (tt_X2_readRemark_91)
    ·
      exact tw_at (⟨rfl, rfl⟩ : zt S = zt S ∧ zu S = zu S) (tt_X2_readRemark_83)
  ·
    refine tw_chk (fun _ => ?_)
    refine tw_calv (fun b1 => ?_)
    refine tw_chk (fun _ => ?_)
    refine tw_calf (⟨rfl, rfl⟩ : zt S = zt S ∧ zu S = zu S) (fun o2 co2 => ?_)
    refine tw_if (fun _ => ?_) (fun _ => ?_)
    ·
      exact tw_at co2 (tt_X2_readRemark_83)
    ·
      exact tw_at co2 (tt_X2_readRemark_91)
def d_X2_readRemark_23 (x0 : Nat) (x1 : Nat) (x2 : Int32) (t0 : Int32) (S : ZS) : Option (Int32 × ZS) :=
  m_chk (zK S x0 = 2) (
  m_cal (zP S 2 x0) (fun b1 =>
  m_chk (zK S b1 = 6) (
  m_cal (f_X6_indexOf b1 (125 : Int32) x2 S) (fun o2 => m_chk (zt o2.2 = zt S ∧ zu o2.2 = zu S) (
  m_if (t0 = 0) (
  m_chk (zK o2.2 x0 = 2) (
  m_cal (zP o2.2 2 x0) (fun b3 =>
  m_chk (zK o2.2 b3 = 6) (
  m_cal (f_X6_indexOf b3 (10 : Int32) x2 o2.2) (fun o4 => m_chk (zt o4.2 = zt o2.2 ∧ zu o4.2 = zu o2.2) (
  d_X2_readRemark_55 x0 x1 x2 t0 o2.1 o4.1 o4.2)))))
  ) (
  d_X2_readRemark_55 x0 x1 x2 t0 o2.1 o2.1 o2.2
  ))))))
theorem tt_X2_readRemark_23 {Pw : Int32 → ZS → Prop}   {x0 : Nat} {x1 : Nat} {x2 : Int32} {t0 : Int32} {S : ZS} : Tw Pw (d_X2_readRemark_23 x0 x1 x2 t0 S) (zt S) (zu S) (fun C T => g_X2_readRemark_23 Pw x0 x1 x2 t0 S C T) := by
  unfold d_X2_readRemark_23 g_X2_readRemark_23
  refine tw_chk (fun _ => ?_)
  refine tw_calv (fun b1 => ?_)
  refine tw_chk (fun _ => ?_)
  refine tw_calf (⟨rfl, rfl⟩ : zt S = zt S ∧ zu S = zu S) (fun o2 co2 => ?_)
  refine tw_if (fun _ => ?_) (fun _ => ?_)
  ·
    refine tw_chk (fun _ => ?_)
    refine tw_calv (fun b3 => ?_)
    refine tw_chk (fun _ => ?_)
    refine tw_calf co2 (fun o4 co4 => ?_)
    exact tw_at co4 (tt_X2_readRemark_55)
  ·
    exact tw_at co2 (tt_X2_readRemark_55)
def d_X2_readRemark_0 (x0 : Nat) (x1 : Nat) (S : ZS) : Option (Int32 × ZS) :=
  m_chk (zK S x0 = 2) (
  m_chk (zK S x0 = 2) (
  m_cal (zP S 2 x0) (fun b1 =>
  m_chk (zK S b1 = 6) (
  m_cal (f_X6_at b1 (zI S 4 x0) S) (fun o2 => m_chk (zt o2.2 = zt S ∧ zu o2.2 = zu S) (
  m_if (o2.1 = (123 : Int32)) (
  d_X2_readRemark_23 x0 x1 (zI S 4 x0) (1 : Int32) o2.2
  ) (
  d_X2_readRemark_23 x0 x1 (zI S 4 x0) (0 : Int32) o2.2
  )))))))
theorem tt_X2_readRemark_0 {Pw : Int32 → ZS → Prop}   {x0 : Nat} {x1 : Nat} {S : ZS} : Tw Pw (d_X2_readRemark_0 x0 x1 S) (zt S) (zu S) (fun C T => g_X2_readRemark_0 Pw x0 x1 S C T) := by
  unfold d_X2_readRemark_0 g_X2_readRemark_0
  refine tw_chk (fun _ => ?_)
  refine tw_chk (fun _ => ?_)
  refine tw_calv (fun b1 => ?_)
  refine tw_chk (fun _ => ?_)
  refine tw_calf (⟨rfl, rfl⟩ : zt S = zt S ∧ zu S = zu S) (fun o2 co2 => ?_)
  refine tw_if (fun _ => ?_) (fun _ => ?_)
  ·
    exact tw_at co2 (tt_X2_readRemark_23)
  ·
    exact tw_at co2 (tt_X2_readRemark_23)
def d_X2_readRemark (x0 : Nat) (x1 : Nat) (S : ZS) : Option (Int32 × ZS) := d_X2_readRemark_0 x0 x1 S
theorem tt_X2_readRemark {Pw : Int32 → ZS → Prop} {x0 : Nat} {x1 : Nat} {S : ZS} : Tw Pw (d_X2_readRemark x0 x1 S) (zt S) (zu S) (fun C T => g_X2_readRemark x0 x1 S C T Pw) := tt_X2_readRemark_0
def d_X2_readRemarks_67 (x2 : Int32) (S : ZS) : Option (Int32 × ZS) :=
  m_chk (vp_nar .boolean x2 = x2) (
  some (x2, S))
theorem tt_X2_readRemarks_67 {Pw : Int32 → ZS → Prop}   {x2 : Int32} {S : ZS} : Tw Pw (d_X2_readRemarks_67 x2 S) (zt S) (zu S) (fun C T => g_X2_readRemarks_67 Pw x2 S C T) := by
  unfold d_X2_readRemarks_67 g_X2_readRemarks_67
  refine tw_chk (fun _ => ?_)
  exact tw_ret (⟨rfl, rfl⟩ : zt S = zt S ∧ zu S = zu S)
def d_X2_readRemarks_51 (self8 : Nat → Nat → Int32 → Int32 → ZS → Option (Int32 × ZS)) (x0 : Nat) (x1 : Nat) (x3 : Int32) (S : ZS) : Option (Int32 × ZS) :=
  m_chk (zK S x0 = 2) (
  m_cal2 (d_X2_readRemark x0 x1 S) (fun r2 S3 =>
  m_chk (zK S3 x0 = 2) (
  m_cal (f_X2_skipBlanks x0 S3) (fun o6 => m_chk (zt o6.2 = zt S3 ∧ zu o6.2 = zu S3) (
  m_bnd (x3 + (1 : Int32)) (fun v7 =>
  self8 x0 x1 r2 v7 o6.2))))))
theorem tt_X2_readRemarks_51 {Pw : Int32 → ZS → Prop} {self8 : Nat → Nat → Int32 → Int32 → ZS → Option (Int32 × ZS)} {self8g : Nat → Nat → Int32 → Int32 → ZS → Nat → Nat → Prop} (hself8 : ∀ (y0 : Nat) (y1 : Nat) (y2 : Int32) (y3 : Int32) (S : ZS), Tw Pw (self8 y0 y1 y2 y3 S) (zt S) (zu S) (fun C T => self8g y0 y1 y2 y3 S C T)) {x0 : Nat} {x1 : Nat} {x3 : Int32} {S : ZS} : Tw Pw (d_X2_readRemarks_51 self8 x0 x1 x3 S) (zt S) (zu S) (fun C T => g_X2_readRemarks_51 Pw self8g x0 x1 x3 S C T) := by
  unfold d_X2_readRemarks_51 g_X2_readRemarks_51
  refine tw_chk (fun _ => ?_)
  refine tw_gal (fun Pw9 => tw_at (⟨rfl, rfl⟩ : zt S = zt S ∧ zu S = zu S) tt_X2_readRemark) (fun r2 S3 => ?_)
  refine tw_chk (fun _ => ?_)
  refine tw_calf (⟨rfl, rfl⟩ : zt S3 = zt S3 ∧ zu S3 = zu S3) (fun o6 co6 => ?_)
  refine tw_bndv (fun v7 => ?_)
  exact tw_at co6 (hself8 _ _ _ _ _)
def d_X2_readRemarks_8s (self8 : Nat → Nat → Int32 → Int32 → ZS → Option (Int32 × ZS)) (x0 : Nat) (x1 : Nat) (x2 : Int32) (x3 : Int32) (S : ZS) : Option (Int32 × ZS) :=
  m_if ((2000 : Int32) ≤ x3) (
  d_X2_readRemarks_67 x2 S
  ) (
  m_if (x2 = 0) (
  d_X2_readRemarks_67 x2 S
  ) (
  m_chk (zK S x0 = 2) (
  m_cal (zP S 2 x0) (fun b1 =>
  m_chk (zK S x0 = 2) (
  m_chk (zK S b1 = 6) (
  m_cal (f_X6_at b1 (zI S 4 x0) S) (fun o2 => m_chk (zt o2.2 = zt S ∧ zu o2.2 = zu S) (
  m_if (o2.1 = (123 : Int32)) (
  d_X2_readRemarks_51 self8 x0 x1 x3 o2.2
  ) (
  m_chk (zK o2.2 x0 = 2) (
  m_cal (zP o2.2 2 x0) (fun b3 =>
  m_chk (zK o2.2 x0 = 2) (
  m_chk (zK o2.2 b3 = 6) (
  m_cal (f_X6_at b3 (zI o2.2 4 x0) o2.2) (fun o4 => m_chk (zt o4.2 = zt o2.2 ∧ zu o4.2 = zu o2.2) (
  m_if (o4.1 = (59 : Int32)) (
  d_X2_readRemarks_51 self8 x0 x1 x3 o4.2
  ) (
  d_X2_readRemarks_67 x2 o4.2
  )))))))
  )))))))
  )
  )
theorem tt_X2_readRemarks_8s {Pw : Int32 → ZS → Prop} {self8 : Nat → Nat → Int32 → Int32 → ZS → Option (Int32 × ZS)} {self8g : Nat → Nat → Int32 → Int32 → ZS → Nat → Nat → Prop} (hself8 : ∀ (y0 : Nat) (y1 : Nat) (y2 : Int32) (y3 : Int32) (S : ZS), Tw Pw (self8 y0 y1 y2 y3 S) (zt S) (zu S) (fun C T => self8g y0 y1 y2 y3 S C T)) {x0 : Nat} {x1 : Nat} {x2 : Int32} {x3 : Int32} {S : ZS} : Tw Pw (d_X2_readRemarks_8s self8 x0 x1 x2 x3 S) (zt S) (zu S) (fun C T => g_X2_readRemarks_8s Pw self8g x0 x1 x2 x3 S C T) := by
  unfold d_X2_readRemarks_8s g_X2_readRemarks_8s
  refine tw_if (fun _ => ?_) (fun _ => ?_)
  ·
    exact tw_at (⟨rfl, rfl⟩ : zt S = zt S ∧ zu S = zu S) (tt_X2_readRemarks_67)
  ·
    refine tw_if (fun _ => ?_) (fun _ => ?_)
    ·
      exact tw_at (⟨rfl, rfl⟩ : zt S = zt S ∧ zu S = zu S) (tt_X2_readRemarks_67)
    ·
      refine tw_chk (fun _ => ?_)
      refine tw_calv (fun b1 => ?_)
      refine tw_chk (fun _ => ?_)
      refine tw_chk (fun _ => ?_)
      refine tw_calf (⟨rfl, rfl⟩ : zt S = zt S ∧ zu S = zu S) (fun o2 co2 => ?_)
      refine tw_if (fun _ => ?_) (fun _ => ?_)
      ·
        exact tw_at co2 (tt_X2_readRemarks_51 hself8)
      ·
        refine tw_chk (fun _ => ?_)
        refine tw_calv (fun b3 => ?_)
        refine tw_chk (fun _ => ?_)
        refine tw_chk (fun _ => ?_)
        refine tw_calf co2 (fun o4 co4 => ?_)
        refine tw_if (fun _ => ?_) (fun _ => ?_)
        ·
          exact tw_at co4 (tt_X2_readRemarks_51 hself8)
        ·
          exact tw_at co4 (tt_X2_readRemarks_67)
def d_X2_readRemarks_8  : Nat → Nat → Nat → Int32 → Int32 → ZS → Option (Int32 × ZS)
  | 0 => fun _ _ _ _ _ => none
  | n + 1 => d_X2_readRemarks_8s  (d_X2_readRemarks_8  n)
theorem tt_X2_readRemarks_8 {Pw : Int32 → ZS → Prop}   {n : Nat} : ∀ {z0 : Nat} {z1 : Nat} {z2 : Int32} {z3 : Int32} {S : ZS}, Tw Pw (d_X2_readRemarks_8  n z0 z1 z2 z3 S) (zt S) (zu S) (fun C T => g_X2_readRemarks_8 Pw  n z0 z1 z2 z3 S C T) := by
  induction n with
  | zero => intro z0 z1 z2 z3 S; exact tw_none
  | succ n ih => intro z0 z1 z2 z3 S; exact tt_X2_readRemarks_8s  (fun _ _ _ _ _ => ih)
def d_X2_readRemarks_0 (x0 : Nat) (x1 : Nat) (S : ZS) : Option (Int32 × ZS) :=
  m_chk (zK S x0 = 2) (
  m_cal (f_X2_skipBlanks x0 S) (fun o1 => m_chk (zt o1.2 = zt S ∧ zu o1.2 = zu S) (
  d_X2_readRemarks_8 mFuel x0 x1 (1 : Int32) (0 : Int32) o1.2)))
theorem tt_X2_readRemarks_0 {Pw : Int32 → ZS → Prop}   {x0 : Nat} {x1 : Nat} {S : ZS} : Tw Pw (d_X2_readRemarks_0 x0 x1 S) (zt S) (zu S) (fun C T => g_X2_readRemarks_0 Pw x0 x1 S C T) := by
  unfold d_X2_readRemarks_0 g_X2_readRemarks_0
  refine tw_chk (fun _ => ?_)
  refine tw_calf (⟨rfl, rfl⟩ : zt S = zt S ∧ zu S = zu S) (fun o1 co1 => ?_)
  exact tw_at co1 (tt_X2_readRemarks_8)
def d_X2_readRemarks (x0 : Nat) (x1 : Nat) (S : ZS) : Option (Int32 × ZS) := d_X2_readRemarks_0 x0 x1 S
theorem tt_X2_readRemarks {Pw : Int32 → ZS → Prop} {x0 : Nat} {x1 : Nat} {S : ZS} : Tw Pw (d_X2_readRemarks x0 x1 S) (zt S) (zu S) (fun C T => g_X2_readRemarks x0 x1 S C T Pw) := tt_X2_readRemarks_0
def d_X2_readHead_74 (t0 : Int32) (S : ZS) : Option (Int32 × ZS) :=
  m_chk (vp_nar .boolean t0 = t0) (
  some (t0, S))
theorem tt_X2_readHead_74 {Pw : Int32 → ZS → Prop}   {t0 : Int32} {S : ZS} : Tw Pw (d_X2_readHead_74 t0 S) (zt S) (zu S) (fun C T => g_X2_readHead_74 Pw t0 S C T) := by
  unfold d_X2_readHead_74 g_X2_readHead_74
  refine tw_chk (fun _ => ?_)
  exact tw_ret (⟨rfl, rfl⟩ : zt S = zt S ∧ zu S = zu S)
def d_X2_readHead_73 (S : ZS) : Option (Int32 × ZS) :=
  d_X2_readHead_74 (0 : Int32) S
theorem tt_X2_readHead_73 {Pw : Int32 → ZS → Prop}   {S : ZS} : Tw Pw (d_X2_readHead_73 S) (zt S) (zu S) (fun C T => g_X2_readHead_73 Pw S C T) := by
  unfold d_X2_readHead_73 g_X2_readHead_73
  exact tw_at (⟨rfl, rfl⟩ : zt S = zt S ∧ zu S = zu S) (tt_X2_readHead_74)
def d_X2_readHead_50 (x0 : Nat) (x1 : Int32) (S : ZS) : Option (Int32 × ZS) :=
  m_if (x1 = 0) (
  d_X2_readHead_73 S
  ) (
  m_chk (zK S x0 = 2) (
  m_cal (zP S 3 x0) (fun b1 =>
  m_chk (zK S b1 = 1) (
  m_cal (f_X1_at b1 (0 : Int32) S) (fun o2 => m_chk (zt o2.2 = zt S ∧ zu o2.2 = zu S) (
  m_chk (zK o2.2 x0 = 2) (
  m_cal2 (d_X2_readRemarks x0 o2.1 o2.2) (fun r4 S5 =>
  m_if (r4 = 0) (
  d_X2_readHead_73 S5
  ) (
  d_X2_readHead_74 (1 : Int32) S5
  ))))))))
  )
theorem tt_X2_readHead_50 {Pw : Int32 → ZS → Prop}   {x0 : Nat} {x1 : Int32} {S : ZS} : Tw Pw (d_X2_readHead_50 x0 x1 S) (zt S) (zu S) (fun C T => g_X2_readHead_50 Pw x0 x1 S C T) := by
  unfold d_X2_readHead_50 g_X2_readHead_50
  refine tw_if (fun _ => ?_) (fun _ => ?_)
  ·
    exact tw_at (⟨rfl, rfl⟩ : zt S = zt S ∧ zu S = zu S) (tt_X2_readHead_73)
  ·
    refine tw_chk (fun _ => ?_)
    refine tw_calv (fun b1 => ?_)
    refine tw_chk (fun _ => ?_)
    refine tw_calf (⟨rfl, rfl⟩ : zt S = zt S ∧ zu S = zu S) (fun o2 co2 => ?_)
    refine tw_chk (fun _ => ?_)
    refine tw_gal (fun Pw9 => tw_at co2 tt_X2_readRemarks) (fun r4 S5 => ?_)
    refine tw_if (fun _ => ?_) (fun _ => ?_)
    ·
      exact tw_at (⟨rfl, rfl⟩ : zt S5 = zt S5 ∧ zu S5 = zu S5) (tt_X2_readHead_73)
    ·
      exact tw_at (⟨rfl, rfl⟩ : zt S5 = zt S5 ∧ zu S5 = zu S5) (tt_X2_readHead_74)
def d_X2_readHead_8s (self8 : Nat → Int32 → Int32 → ZS → Option (Int32 × ZS)) (x0 : Nat) (x1 : Int32) (x2 : Int32) (S : ZS) : Option (Int32 × ZS) :=
  m_if ((2000 : Int32) ≤ x2) (
  d_X2_readHead_50 x0 x1 S
  ) (
  m_if (x1 = 0) (
  d_X2_readHead_50 x0 x1 S
  ) (
  m_chk (zK S x0 = 2) (
  m_cal (zP S 2 x0) (fun b1 =>
  m_chk (zK S x0 = 2) (
  m_chk (zK S b1 = 6) (
  m_cal (f_X6_at b1 (zI S 4 x0) S) (fun o2 => m_chk (zt o2.2 = zt S ∧ zu o2.2 = zu S) (
  m_if (o2.1 = (91 : Int32)) (
  m_chk (zK o2.2 x0 = 2) (
  m_cal2 (d_X2_readTag x0 o2.2) (fun r4 S5 =>
  m_chk (zK S5 x0 = 2) (
  m_cal (f_X2_skipBlanks x0 S5) (fun o8 => m_chk (zt o8.2 = zt S5 ∧ zu o8.2 = zu S5) (
  m_bnd (x2 + (1 : Int32)) (fun v9 =>
  self8 x0 r4 v9 o8.2))))))
  ) (
  d_X2_readHead_50 x0 x1 o2.2
  )))))))
  )
  )
theorem tt_X2_readHead_8s {Pw : Int32 → ZS → Prop} {self8 : Nat → Int32 → Int32 → ZS → Option (Int32 × ZS)} {self8g : Nat → Int32 → Int32 → ZS → Nat → Nat → Prop} (hself8 : ∀ (y0 : Nat) (y1 : Int32) (y2 : Int32) (S : ZS), Tw Pw (self8 y0 y1 y2 S) (zt S) (zu S) (fun C T => self8g y0 y1 y2 S C T)) {x0 : Nat} {x1 : Int32} {x2 : Int32} {S : ZS} : Tw Pw (d_X2_readHead_8s self8 x0 x1 x2 S) (zt S) (zu S) (fun C T => g_X2_readHead_8s Pw self8g x0 x1 x2 S C T) := by
  unfold d_X2_readHead_8s g_X2_readHead_8s
  refine tw_if (fun _ => ?_) (fun _ => ?_)
  ·
    exact tw_at (⟨rfl, rfl⟩ : zt S = zt S ∧ zu S = zu S) (tt_X2_readHead_50)
  ·
    refine tw_if (fun _ => ?_) (fun _ => ?_)
    ·
      exact tw_at (⟨rfl, rfl⟩ : zt S = zt S ∧ zu S = zu S) (tt_X2_readHead_50)
    ·
      refine tw_chk (fun _ => ?_)
      refine tw_calv (fun b1 => ?_)
      refine tw_chk (fun _ => ?_)
      refine tw_chk (fun _ => ?_)
      refine tw_calf (⟨rfl, rfl⟩ : zt S = zt S ∧ zu S = zu S) (fun o2 co2 => ?_)
      refine tw_if (fun _ => ?_) (fun _ => ?_)
      ·
        refine tw_chk (fun _ => ?_)
        refine tw_gal (fun Pw9 => tw_at co2 tt_X2_readTag) (fun r4 S5 => ?_)
        refine tw_chk (fun _ => ?_)
        refine tw_calf (⟨rfl, rfl⟩ : zt S5 = zt S5 ∧ zu S5 = zu S5) (fun o8 co8 => ?_)
        refine tw_bndv (fun v9 => ?_)
        exact tw_at co8 (hself8 _ _ _ _)
      ·
        exact tw_at co2 (tt_X2_readHead_50)
def d_X2_readHead_8  : Nat → Nat → Int32 → Int32 → ZS → Option (Int32 × ZS)
  | 0 => fun _ _ _ _ => none
  | n + 1 => d_X2_readHead_8s  (d_X2_readHead_8  n)
theorem tt_X2_readHead_8 {Pw : Int32 → ZS → Prop}   {n : Nat} : ∀ {z0 : Nat} {z1 : Int32} {z2 : Int32} {S : ZS}, Tw Pw (d_X2_readHead_8  n z0 z1 z2 S) (zt S) (zu S) (fun C T => g_X2_readHead_8 Pw  n z0 z1 z2 S C T) := by
  induction n with
  | zero => intro z0 z1 z2 S; exact tw_none
  | succ n ih => intro z0 z1 z2 S; exact tt_X2_readHead_8s  (fun _ _ _ _ => ih)
def d_X2_readHead_0 (x0 : Nat) (S : ZS) : Option (Int32 × ZS) :=
  m_chk (zK S x0 = 2) (
  m_cal (f_X2_skipBlanks x0 S) (fun o1 => m_chk (zt o1.2 = zt S ∧ zu o1.2 = zu S) (
  d_X2_readHead_8 mFuel x0 (1 : Int32) (0 : Int32) o1.2)))
theorem tt_X2_readHead_0 {Pw : Int32 → ZS → Prop}   {x0 : Nat} {S : ZS} : Tw Pw (d_X2_readHead_0 x0 S) (zt S) (zu S) (fun C T => g_X2_readHead_0 Pw x0 S C T) := by
  unfold d_X2_readHead_0 g_X2_readHead_0
  refine tw_chk (fun _ => ?_)
  refine tw_calf (⟨rfl, rfl⟩ : zt S = zt S ∧ zu S = zu S) (fun o1 co1 => ?_)
  exact tw_at co1 (tt_X2_readHead_8)
def d_X2_readHead (x0 : Nat) (S : ZS) : Option (Int32 × ZS) := d_X2_readHead_0 x0 S
theorem tt_X2_readHead {Pw : Int32 → ZS → Prop} {x0 : Nat} {S : ZS} : Tw Pw (d_X2_readHead x0 S) (zt S) (zu S) (fun C T => g_X2_readHead x0 S C T Pw) := tt_X2_readHead_0
def d_X8_copyWhole_113 (S : ZS) : Option (Int32 × ZS) :=
  some (0, S)
theorem tt_X8_copyWhole_113 {Pw : Int32 → ZS → Prop}   {S : ZS} : Tw Pw (d_X8_copyWhole_113 S) (zt S) (zu S) (fun C T => g_X8_copyWhole_113 Pw S C T) := by
  unfold d_X8_copyWhole_113 g_X8_copyWhole_113
  exact tw_ret (⟨rfl, rfl⟩ : zt S = zt S ∧ zu S = zu S)
def d_X8_copyWhole_87 (x0 : Nat) (t0 : Int32) (t1 : Nat) (S : ZS) : Option (Int32 × ZS) :=
  m_chk (zK S t1 = 8) (
  m_chk (vp_nar .char t0 = t0 ∧ fits .char (.int t0) = true) (
  m_bnd (zsI S 9 t1 t0) (fun S1 =>
  m_chk (zK S1 x0 = 8) (
  m_if ((zI S1 9 x0) = 0) (
  d_X8_copyWhole_113 S1
  ) (
  m_chk (zK S1 x0 = 8) (
  m_cal (zP S1 1 x0) (fun b2 =>
  m_chk (zK S1 x0 = 8) (
  m_cal (zP S1 1 x0) (fun b3 =>
  m_chk (zK S1 b3 = 6) (
  m_cal (f_X6_size b3 S1) (fun o4 => m_chk (zt o4.2 = zt S1 ∧ zu o4.2 = zu S1) (
  m_bnd (o4.1 - (1 : Int32)) (fun v5 =>
  m_chk (zK o4.2 b2 = 6) (
  m_cal (f_X6_keep b2 v5 o4.2) (fun o6 => m_chk (zt o6.2 = zt o4.2 ∧ zu o6.2 = zu o4.2) (
  d_X8_copyWhole_113 o6.2)))))))))))
  )))))
theorem tt_X8_copyWhole_87 {Pw : Int32 → ZS → Prop}   {x0 : Nat} {t0 : Int32} {t1 : Nat} {S : ZS} : Tw Pw (d_X8_copyWhole_87 x0 t0 t1 S) (zt S) (zu S) (fun C T => g_X8_copyWhole_87 Pw x0 t0 t1 S C T) := by
  unfold d_X8_copyWhole_87 g_X8_copyWhole_87
  refine tw_chk (fun _ => ?_)
  refine tw_chk (fun _ => ?_)
  refine tw_bnds (⟨rfl, rfl⟩ : zt S = zt S ∧ zu S = zu S) (fun S1 cS1 => ?_)
  refine tw_chk (fun _ => ?_)
  refine tw_if (fun _ => ?_) (fun _ => ?_)
  ·
    exact tw_at cS1 (tt_X8_copyWhole_113)
  ·
    refine tw_chk (fun _ => ?_)
    refine tw_calv (fun b2 => ?_)
    refine tw_chk (fun _ => ?_)
    refine tw_calv (fun b3 => ?_)
    refine tw_chk (fun _ => ?_)
    refine tw_calf cS1 (fun o4 co4 => ?_)
    refine tw_bndv (fun v5 => ?_)
    refine tw_chk (fun _ => ?_)
    refine tw_calf co4 (fun o6 co6 => ?_)
    exact tw_at co6 (tt_X8_copyWhole_113)
def d_X8_copyWhole_81 (x0 : Nat) (x4 : Int32) (t0 : Nat) (S : ZS) : Option (Int32 × ZS) :=
  d_X8_copyWhole_87 x0 x4 t0 S
theorem tt_X8_copyWhole_81 {Pw : Int32 → ZS → Prop}   {x0 : Nat} {x4 : Int32} {t0 : Nat} {S : ZS} : Tw Pw (d_X8_copyWhole_81 x0 x4 t0 S) (zt S) (zu S) (fun C T => g_X8_copyWhole_81 Pw x0 x4 t0 S C T) := by
  unfold d_X8_copyWhole_81 g_X8_copyWhole_81
  exact tw_at (⟨rfl, rfl⟩ : zt S = zt S ∧ zu S = zu S) (tt_X8_copyWhole_87)
def d_X8_copyWhole_48 (x0 : Nat) (S : ZS) : Option (Int32 × ZS) :=
  m_chk (zK S x0 = 8) (
  m_cal (zP S 1 x0) (fun b1 =>
  m_chk (zK S x0 = 8) (
  m_cal (zP S 1 x0) (fun b2 =>
  m_chk (zK S b2 = 6) (
  m_cal (f_X6_size b2 S) (fun o3 => m_chk (zt o3.2 = zt S ∧ zu o3.2 = zu S) (
  m_bnd (o3.1 - (1 : Int32)) (fun v4 =>
  m_chk (zK o3.2 b1 = 6) (
  m_cal (f_X6_at b1 v4 o3.2) (fun o5 => m_chk (zt o5.2 = zt o3.2 ∧ zu o5.2 = zu o3.2) (
  m_if (o5.1 = (43 : Int32)) (
  d_X8_copyWhole_81 x0 o5.1 x0 o5.2
  ) (
  m_if (o5.1 = (35 : Int32)) (
  d_X8_copyWhole_81 x0 o5.1 x0 o5.2
  ) (
  d_X8_copyWhole_87 x0 (0 : Int32) x0 o5.2
  )
  ))))))))))))
theorem tt_X8_copyWhole_48 {Pw : Int32 → ZS → Prop}   {x0 : Nat} {S : ZS} : Tw Pw (d_X8_copyWhole_48 x0 S) (zt S) (zu S) (fun C T => g_X8_copyWhole_48 Pw x0 S C T) := by
  unfold d_X8_copyWhole_48 g_X8_copyWhole_48
  refine tw_chk (fun _ => ?_)
  refine tw_calv (fun b1 => ?_)
  refine tw_chk (fun _ => ?_)
  refine tw_calv (fun b2 => ?_)
  refine tw_chk (fun _ => ?_)
  refine tw_calf (⟨rfl, rfl⟩ : zt S = zt S ∧ zu S = zu S) (fun o3 co3 => ?_)
  refine tw_bndv (fun v4 => ?_)
  refine tw_chk (fun _ => ?_)
  refine tw_calf co3 (fun o5 co5 => ?_)
  refine tw_if (fun _ => ?_) (fun _ => ?_)
  ·
    exact tw_at co5 (tt_X8_copyWhole_81)
  ·
    refine tw_if (fun _ => ?_) (fun _ => ?_)
    ·
      exact tw_at co5 (tt_X8_copyWhole_81)
    ·
      exact tw_at co5 (tt_X8_copyWhole_87)
def d_X8_copyWhole_11s (self11 : Nat → Nat → Int32 → Int32 → ZS → Option (Int32 × ZS)) (x0 : Nat) (x1 : Nat) (x3 : Int32) (x4 : Int32) (S : ZS) : Option (Int32 × ZS) :=
  m_if (x3 ≤ x4) (
  d_X8_copyWhole_48 x0 S
  ) (
  m_chk (zK S x0 = 8) (
  m_cal (zP S 1 x0) (fun b1 =>
  m_chk (zK S b1 = 6) (
  m_cal (f_X6_size b1 S) (fun o2 => m_chk (zt o2.2 = zt S ∧ zu o2.2 = zu S) (
  m_if ((7 : Int32) < o2.1) (
  d_X8_copyWhole_48 x0 o2.2
  ) (
  m_chk (zK o2.2 x0 = 8) (
  m_cal (zP o2.2 1 x0) (fun b3 =>
  m_chk (zK o2.2 x1 = 6) (
  m_cal (f_X6_at x1 x4 o2.2) (fun o4 => m_chk (zt o4.2 = zt o2.2 ∧ zu o4.2 = zu o2.2) (
  m_chk (zK o4.2 b3 = 6) (
  m_cal2 (d_X6_put b3 o4.1 o4.2) (fun r6 S7 =>
  m_bnd (x4 + (1 : Int32)) (fun v10 =>
  self11 x0 x1 x3 v10 S7))))))))
  ))))))
  )
theorem tt_X8_copyWhole_11s {Pw : Int32 → ZS → Prop} {self11 : Nat → Nat → Int32 → Int32 → ZS → Option (Int32 × ZS)} {self11g : Nat → Nat → Int32 → Int32 → ZS → Nat → Nat → Prop} (hself11 : ∀ (y0 : Nat) (y1 : Nat) (y2 : Int32) (y3 : Int32) (S : ZS), Tw Pw (self11 y0 y1 y2 y3 S) (zt S) (zu S) (fun C T => self11g y0 y1 y2 y3 S C T)) {x0 : Nat} {x1 : Nat} {x3 : Int32} {x4 : Int32} {S : ZS} : Tw Pw (d_X8_copyWhole_11s self11 x0 x1 x3 x4 S) (zt S) (zu S) (fun C T => g_X8_copyWhole_11s Pw self11g x0 x1 x3 x4 S C T) := by
  unfold d_X8_copyWhole_11s g_X8_copyWhole_11s
  refine tw_if (fun _ => ?_) (fun _ => ?_)
  ·
    exact tw_at (⟨rfl, rfl⟩ : zt S = zt S ∧ zu S = zu S) (tt_X8_copyWhole_48)
  ·
    refine tw_chk (fun _ => ?_)
    refine tw_calv (fun b1 => ?_)
    refine tw_chk (fun _ => ?_)
    refine tw_calf (⟨rfl, rfl⟩ : zt S = zt S ∧ zu S = zu S) (fun o2 co2 => ?_)
    refine tw_if (fun _ => ?_) (fun _ => ?_)
    ·
      exact tw_at co2 (tt_X8_copyWhole_48)
    ·
      refine tw_chk (fun _ => ?_)
      refine tw_calv (fun b3 => ?_)
      refine tw_chk (fun _ => ?_)
      refine tw_calf co2 (fun o4 co4 => ?_)
      refine tw_chk (fun _ => ?_)
      refine tw_gal (fun Pw9 => tw_at co4 tt_X6_put) (fun r6 S7 => ?_)
      refine tw_bndv (fun v10 => ?_)
      exact tw_at (⟨rfl, rfl⟩ : zt S7 = zt S7 ∧ zu S7 = zu S7) (hself11 _ _ _ _ _)
def d_X8_copyWhole_11  : Nat → Nat → Nat → Int32 → Int32 → ZS → Option (Int32 × ZS)
  | 0 => fun _ _ _ _ _ => none
  | n + 1 => d_X8_copyWhole_11s  (d_X8_copyWhole_11  n)
theorem tt_X8_copyWhole_11 {Pw : Int32 → ZS → Prop}   {n : Nat} : ∀ {z0 : Nat} {z1 : Nat} {z2 : Int32} {z3 : Int32} {S : ZS}, Tw Pw (d_X8_copyWhole_11  n z0 z1 z2 z3 S) (zt S) (zu S) (fun C T => g_X8_copyWhole_11 Pw  n z0 z1 z2 z3 S C T) := by
  induction n with
  | zero => intro z0 z1 z2 z3 S; exact tw_none
  | succ n ih => intro z0 z1 z2 z3 S; exact tt_X8_copyWhole_11s  (fun _ _ _ _ _ => ih)
def d_X8_copyWhole_0 (x0 : Nat) (x1 : Nat) (x2 : Int32) (x3 : Int32) (S : ZS) : Option (Int32 × ZS) :=
  m_chk (zK S x0 = 8) (
  m_cal (zP S 1 x0) (fun b1 =>
  m_chk (zK S b1 = 6) (
  m_cal (f_X6_keep b1 (0 : Int32) S) (fun o2 => m_chk (zt o2.2 = zt S ∧ zu o2.2 = zu S) (
  d_X8_copyWhole_11 mFuel x0 x1 x3 x2 o2.2)))))
theorem tt_X8_copyWhole_0 {Pw : Int32 → ZS → Prop}   {x0 : Nat} {x1 : Nat} {x2 : Int32} {x3 : Int32} {S : ZS} : Tw Pw (d_X8_copyWhole_0 x0 x1 x2 x3 S) (zt S) (zu S) (fun C T => g_X8_copyWhole_0 Pw x0 x1 x2 x3 S C T) := by
  unfold d_X8_copyWhole_0 g_X8_copyWhole_0
  refine tw_chk (fun _ => ?_)
  refine tw_calv (fun b1 => ?_)
  refine tw_chk (fun _ => ?_)
  refine tw_calf (⟨rfl, rfl⟩ : zt S = zt S ∧ zu S = zu S) (fun o2 co2 => ?_)
  exact tw_at co2 (tt_X8_copyWhole_11)
def d_X8_copyWhole (x0 : Nat) (x1 : Nat) (x2 : Int32) (x3 : Int32) (S : ZS) : Option (Int32 × ZS) := d_X8_copyWhole_0 x0 x1 x2 x3 S
theorem tt_X8_copyWhole {Pw : Int32 → ZS → Prop} {x0 : Nat} {x1 : Nat} {x2 : Int32} {x3 : Int32} {S : ZS} : Tw Pw (d_X8_copyWhole x0 x1 x2 x3 S) (zt S) (zu S) (fun C T => g_X8_copyWhole x0 x1 x2 x3 S C T Pw) := tt_X8_copyWhole_0
def d_X8_copyBare_73 (S : ZS) : Option (Int32 × ZS) :=
  some (0, S)
theorem tt_X8_copyBare_73 {Pw : Int32 → ZS → Prop}   {S : ZS} : Tw Pw (d_X8_copyBare_73 S) (zt S) (zu S) (fun C T => g_X8_copyBare_73 Pw S C T) := by
  unfold d_X8_copyBare_73 g_X8_copyBare_73
  exact tw_ret (⟨rfl, rfl⟩ : zt S = zt S ∧ zu S = zu S)
def d_X8_copyBare_67 (self11 : Nat → Nat → Int32 → Int32 → ZS → Option (Int32 × ZS)) (x0 : Nat) (x1 : Nat) (x3 : Int32) (x4 : Int32) (S : ZS) : Option (Int32 × ZS) :=
  m_bnd (x4 + (1 : Int32)) (fun v1 =>
  self11 x0 x1 x3 v1 S)
theorem tt_X8_copyBare_67 {Pw : Int32 → ZS → Prop} {self11 : Nat → Nat → Int32 → Int32 → ZS → Option (Int32 × ZS)} {self11g : Nat → Nat → Int32 → Int32 → ZS → Nat → Nat → Prop} (hself11 : ∀ (y0 : Nat) (y1 : Nat) (y2 : Int32) (y3 : Int32) (S : ZS), Tw Pw (self11 y0 y1 y2 y3 S) (zt S) (zu S) (fun C T => self11g y0 y1 y2 y3 S C T)) {x0 : Nat} {x1 : Nat} {x3 : Int32} {x4 : Int32} {S : ZS} : Tw Pw (d_X8_copyBare_67 self11 x0 x1 x3 x4 S) (zt S) (zu S) (fun C T => g_X8_copyBare_67 Pw self11g x0 x1 x3 x4 S C T) := by
  unfold d_X8_copyBare_67 g_X8_copyBare_67
  refine tw_bndv (fun v1 => ?_)
  exact tw_at (⟨rfl, rfl⟩ : zt S = zt S ∧ zu S = zu S) (hself11 _ _ _ _ _)
def d_X8_copyBare_11s (self11 : Nat → Nat → Int32 → Int32 → ZS → Option (Int32 × ZS)) (x0 : Nat) (x1 : Nat) (x3 : Int32) (x4 : Int32) (S : ZS) : Option (Int32 × ZS) :=
  m_if (x3 ≤ x4) (
  d_X8_copyBare_73 S
  ) (
  m_chk (zK S x0 = 8) (
  m_cal (zP S 1 x0) (fun b1 =>
  m_chk (zK S b1 = 6) (
  m_cal (f_X6_size b1 S) (fun o2 => m_chk (zt o2.2 = zt S ∧ zu o2.2 = zu S) (
  m_if ((7 : Int32) < o2.1) (
  d_X8_copyBare_73 o2.2
  ) (
  m_chk (zK o2.2 x1 = 6) (
  m_cal (f_X6_at x1 x4 o2.2) (fun o3 => m_chk (zt o3.2 = zt o2.2 ∧ zu o3.2 = zu o2.2) (
  m_if (o3.1 = (120 : Int32)) (
  d_X8_copyBare_67 self11 x0 x1 x3 x4 o3.2
  ) (
  m_if (o3.1 = (43 : Int32)) (
  d_X8_copyBare_67 self11 x0 x1 x3 x4 o3.2
  ) (
  m_if (o3.1 = (35 : Int32)) (
  d_X8_copyBare_67 self11 x0 x1 x3 x4 o3.2
  ) (
  m_chk (zK o3.2 x0 = 8) (
  m_cal (zP o3.2 1 x0) (fun b4 =>
  m_chk (zK o3.2 b4 = 6) (
  m_cal2 (d_X6_put b4 o3.1 o3.2) (fun r6 S7 =>
  d_X8_copyBare_67 self11 x0 x1 x3 x4 S7))))
  )
  )
  ))))
  ))))))
  )
theorem tt_X8_copyBare_11s {Pw : Int32 → ZS → Prop} {self11 : Nat → Nat → Int32 → Int32 → ZS → Option (Int32 × ZS)} {self11g : Nat → Nat → Int32 → Int32 → ZS → Nat → Nat → Prop} (hself11 : ∀ (y0 : Nat) (y1 : Nat) (y2 : Int32) (y3 : Int32) (S : ZS), Tw Pw (self11 y0 y1 y2 y3 S) (zt S) (zu S) (fun C T => self11g y0 y1 y2 y3 S C T)) {x0 : Nat} {x1 : Nat} {x3 : Int32} {x4 : Int32} {S : ZS} : Tw Pw (d_X8_copyBare_11s self11 x0 x1 x3 x4 S) (zt S) (zu S) (fun C T => g_X8_copyBare_11s Pw self11g x0 x1 x3 x4 S C T) := by
  unfold d_X8_copyBare_11s g_X8_copyBare_11s
  refine tw_if (fun _ => ?_) (fun _ => ?_)
  ·
    exact tw_at (⟨rfl, rfl⟩ : zt S = zt S ∧ zu S = zu S) (tt_X8_copyBare_73)
  ·
    refine tw_chk (fun _ => ?_)
    refine tw_calv (fun b1 => ?_)
    refine tw_chk (fun _ => ?_)
    refine tw_calf (⟨rfl, rfl⟩ : zt S = zt S ∧ zu S = zu S) (fun o2 co2 => ?_)
    refine tw_if (fun _ => ?_) (fun _ => ?_)
    ·
      exact tw_at co2 (tt_X8_copyBare_73)
    ·
      refine tw_chk (fun _ => ?_)
      refine tw_calf co2 (fun o3 co3 => ?_)
      refine tw_if (fun _ => ?_) (fun _ => ?_)
      ·
        exact tw_at co3 (tt_X8_copyBare_67 hself11)
      ·
        refine tw_if (fun _ => ?_) (fun _ => ?_)
        ·
          exact tw_at co3 (tt_X8_copyBare_67 hself11)
        ·
          refine tw_if (fun _ => ?_) (fun _ => ?_)
          ·
            exact tw_at co3 (tt_X8_copyBare_67 hself11)
          ·
            refine tw_chk (fun _ => ?_)
            refine tw_calv (fun b4 => ?_)
            refine tw_chk (fun _ => ?_)
            refine tw_gal (fun Pw9 => tw_at co3 tt_X6_put) (fun r6 S7 => ?_)
            exact tw_at (⟨rfl, rfl⟩ : zt S7 = zt S7 ∧ zu S7 = zu S7) (tt_X8_copyBare_67 hself11)
def d_X8_copyBare_11  : Nat → Nat → Nat → Int32 → Int32 → ZS → Option (Int32 × ZS)
  | 0 => fun _ _ _ _ _ => none
  | n + 1 => d_X8_copyBare_11s  (d_X8_copyBare_11  n)
theorem tt_X8_copyBare_11 {Pw : Int32 → ZS → Prop}   {n : Nat} : ∀ {z0 : Nat} {z1 : Nat} {z2 : Int32} {z3 : Int32} {S : ZS}, Tw Pw (d_X8_copyBare_11  n z0 z1 z2 z3 S) (zt S) (zu S) (fun C T => g_X8_copyBare_11 Pw  n z0 z1 z2 z3 S C T) := by
  induction n with
  | zero => intro z0 z1 z2 z3 S; exact tw_none
  | succ n ih => intro z0 z1 z2 z3 S; exact tt_X8_copyBare_11s  (fun _ _ _ _ _ => ih)
def d_X8_copyBare_0 (x0 : Nat) (x1 : Nat) (x2 : Int32) (x3 : Int32) (S : ZS) : Option (Int32 × ZS) :=
  m_chk (zK S x0 = 8) (
  m_cal (zP S 1 x0) (fun b1 =>
  m_chk (zK S b1 = 6) (
  m_cal (f_X6_keep b1 (0 : Int32) S) (fun o2 => m_chk (zt o2.2 = zt S ∧ zu o2.2 = zu S) (
  d_X8_copyBare_11 mFuel x0 x1 x3 x2 o2.2)))))
theorem tt_X8_copyBare_0 {Pw : Int32 → ZS → Prop}   {x0 : Nat} {x1 : Nat} {x2 : Int32} {x3 : Int32} {S : ZS} : Tw Pw (d_X8_copyBare_0 x0 x1 x2 x3 S) (zt S) (zu S) (fun C T => g_X8_copyBare_0 Pw x0 x1 x2 x3 S C T) := by
  unfold d_X8_copyBare_0 g_X8_copyBare_0
  refine tw_chk (fun _ => ?_)
  refine tw_calv (fun b1 => ?_)
  refine tw_chk (fun _ => ?_)
  refine tw_calf (⟨rfl, rfl⟩ : zt S = zt S ∧ zu S = zu S) (fun o2 co2 => ?_)
  exact tw_at co2 (tt_X8_copyBare_11)
def d_X8_copyBare (x0 : Nat) (x1 : Nat) (x2 : Int32) (x3 : Int32) (S : ZS) : Option (Int32 × ZS) := d_X8_copyBare_0 x0 x1 x2 x3 S
theorem tt_X8_copyBare {Pw : Int32 → ZS → Prop} {x0 : Nat} {x1 : Nat} {x2 : Int32} {x3 : Int32} {S : ZS} : Tw Pw (d_X8_copyBare x0 x1 x2 x3 S) (zt S) (zu S) (fun C T => g_X8_copyBare x0 x1 x2 x3 S C T Pw) := tt_X8_copyBare_0
def d_X8_matched_144 (t0 : Int32) (S : ZS) : Option (Int32 × ZS) :=
  some (t0, S)
theorem tt_X8_matched_144 {Pw : Int32 → ZS → Prop}   {t0 : Int32} {S : ZS} : Tw Pw (d_X8_matched_144 t0 S) (zt S) (zu S) (fun C T => g_X8_matched_144 Pw t0 S C T) := by
  unfold d_X8_matched_144 g_X8_matched_144
  exact tw_ret (⟨rfl, rfl⟩ : zt S = zt S ∧ zu S = zu S)
def d_X8_matched_103 (x0 : Nat) (x1 : Nat) (x2 : Nat) (x3 : Int32) (x4 : Int32) (S : ZS) : Option (Int32 × ZS) :=
  m_chk (zK S x0 = 8) (
  m_cal2 (d_X8_copyBare x0 x2 x3 x4 S) (fun r2 S3 =>
  m_chk (zK S3 x0 = 8) (
  m_cal (f_X8_parse x0 S3) (fun o6 => m_chk (zt o6.2 = zt S3 ∧ zu o6.2 = zu S3) (
  m_if (o6.1 = 0) (
  some ((-1 : Int32), o6.2)
  ) (
  m_chk (zK o6.2 x0 = 8) (
  m_bnd (zsI o6.2 8 x0 (-1 : Int32)) (fun S7 =>
  m_chk (zK S7 x0 = 8) (
  m_cal (f_X8_gather x0 x1 S7) (fun o8 => m_chk (zt o8.2 = zt S7 ∧ zu o8.2 = zu S7) (
  m_chk (zK o8.2 x0 = 8) (
  m_if ((zI o8.2 11 x0) = (1 : Int32)) (
  d_X8_matched_144 (-2 : Int32) o8.2
  ) (
  d_X8_matched_144 (-1 : Int32) o8.2
  )))))))
  ))))))
theorem tt_X8_matched_103 {Pw : Int32 → ZS → Prop}   {x0 : Nat} {x1 : Nat} {x2 : Nat} {x3 : Int32} {x4 : Int32} {S : ZS} : Tw Pw (d_X8_matched_103 x0 x1 x2 x3 x4 S) (zt S) (zu S) (fun C T => g_X8_matched_103 Pw x0 x1 x2 x3 x4 S C T) := by
  unfold d_X8_matched_103 g_X8_matched_103
  refine tw_chk (fun _ => ?_)
  refine tw_gal (fun Pw9 => tw_at (⟨rfl, rfl⟩ : zt S = zt S ∧ zu S = zu S) tt_X8_copyBare) (fun r2 S3 => ?_)
  refine tw_chk (fun _ => ?_)
  refine tw_calf (⟨rfl, rfl⟩ : zt S3 = zt S3 ∧ zu S3 = zu S3) (fun o6 co6 => ?_)
  refine tw_if (fun _ => ?_) (fun _ => ?_)
  ·
    exact tw_ret co6
  ·
    refine tw_chk (fun _ => ?_)
    refine tw_bnds co6 (fun S7 cS7 => ?_)
    refine tw_chk (fun _ => ?_)
    refine tw_calf cS7 (fun o8 co8 => ?_)
    refine tw_chk (fun _ => ?_)
    refine tw_if (fun _ => ?_) (fun _ => ?_)
    ·
      exact tw_at co8 (tt_X8_matched_144)
    ·
      exact tw_at co8 (tt_X8_matched_144)
def d_X8_matched_102 (t0 : Int32) (S : ZS) : Option (Int32 × ZS) :=
  some (t0, S)
theorem tt_X8_matched_102 {Pw : Int32 → ZS → Prop}   {t0 : Int32} {S : ZS} : Tw Pw (d_X8_matched_102 t0 S) (zt S) (zu S) (fun C T => g_X8_matched_102 Pw t0 S C T) := by
  unfold d_X8_matched_102 g_X8_matched_102
  exact tw_ret (⟨rfl, rfl⟩ : zt S = zt S ∧ zu S = zu S)
def d_X8_matched_79 (self29 : Nat → Nat → Nat → Int32 → Int32 → Int32 → Int32 → Int32 → ZS → Option (Int32 × ZS)) (x0 : Nat) (x1 : Nat) (x2 : Nat) (x3 : Int32) (x4 : Int32) (x5 : Int32) (x6 : Int32) (x7 : Int32) (S : ZS) : Option (Int32 × ZS) :=
  m_bnd (x7 + (1 : Int32)) (fun v1 =>
  self29 x0 x1 x2 x3 x4 x5 x6 v1 S)
theorem tt_X8_matched_79 {Pw : Int32 → ZS → Prop} {self29 : Nat → Nat → Nat → Int32 → Int32 → Int32 → Int32 → Int32 → ZS → Option (Int32 × ZS)} {self29g : Nat → Nat → Nat → Int32 → Int32 → Int32 → Int32 → Int32 → ZS → Nat → Nat → Prop} (hself29 : ∀ (y0 : Nat) (y1 : Nat) (y2 : Nat) (y3 : Int32) (y4 : Int32) (y5 : Int32) (y6 : Int32) (y7 : Int32) (S : ZS), Tw Pw (self29 y0 y1 y2 y3 y4 y5 y6 y7 S) (zt S) (zu S) (fun C T => self29g y0 y1 y2 y3 y4 y5 y6 y7 S C T)) {x0 : Nat} {x1 : Nat} {x2 : Nat} {x3 : Int32} {x4 : Int32} {x5 : Int32} {x6 : Int32} {x7 : Int32} {S : ZS} : Tw Pw (d_X8_matched_79 self29 x0 x1 x2 x3 x4 x5 x6 x7 S) (zt S) (zu S) (fun C T => g_X8_matched_79 Pw self29g x0 x1 x2 x3 x4 x5 x6 x7 S C T) := by
  unfold d_X8_matched_79 g_X8_matched_79
  refine tw_bndv (fun v1 => ?_)
  exact tw_at (⟨rfl, rfl⟩ : zt S = zt S ∧ zu S = zu S) (hself29 _ _ _ _ _ _ _ _ _)
def d_X8_matched_67 (self29 : Nat → Nat → Nat → Int32 → Int32 → Int32 → Int32 → Int32 → ZS → Option (Int32 × ZS)) (x0 : Nat) (x1 : Nat) (x2 : Nat) (x3 : Int32) (x4 : Int32) (x6 : Int32) (x7 : Int32) (S : ZS) : Option (Int32 × ZS) :=
  m_chk (zK S x0 = 8) (
  m_cal (zP S 10 x0) (fun b1 =>
  m_chk (zK S b1 = 14) (
  m_chk (¬ (x7 < 0 ∨ zN S b1 ≤ (x7).toNatClampNeg)) (
  m_bnd (zA S b1 (x7).toNatClampNeg) (fun v2 =>
  m_bnd (x6 + (1 : Int32)) (fun v3 =>
  d_X8_matched_79 self29 x0 x1 x2 x3 x4 v2 v3 x7 S))))))
theorem tt_X8_matched_67 {Pw : Int32 → ZS → Prop} {self29 : Nat → Nat → Nat → Int32 → Int32 → Int32 → Int32 → Int32 → ZS → Option (Int32 × ZS)} {self29g : Nat → Nat → Nat → Int32 → Int32 → Int32 → Int32 → Int32 → ZS → Nat → Nat → Prop} (hself29 : ∀ (y0 : Nat) (y1 : Nat) (y2 : Nat) (y3 : Int32) (y4 : Int32) (y5 : Int32) (y6 : Int32) (y7 : Int32) (S : ZS), Tw Pw (self29 y0 y1 y2 y3 y4 y5 y6 y7 S) (zt S) (zu S) (fun C T => self29g y0 y1 y2 y3 y4 y5 y6 y7 S C T)) {x0 : Nat} {x1 : Nat} {x2 : Nat} {x3 : Int32} {x4 : Int32} {x6 : Int32} {x7 : Int32} {S : ZS} : Tw Pw (d_X8_matched_67 self29 x0 x1 x2 x3 x4 x6 x7 S) (zt S) (zu S) (fun C T => g_X8_matched_67 Pw self29g x0 x1 x2 x3 x4 x6 x7 S C T) := by
  unfold d_X8_matched_67 g_X8_matched_67
  refine tw_chk (fun _ => ?_)
  refine tw_calv (fun b1 => ?_)
  refine tw_chk (fun _ => ?_)
  refine tw_chk (fun _ => ?_)
  refine tw_bndv (fun v2 => ?_)
  refine tw_bndv (fun v3 => ?_)
  exact tw_at (⟨rfl, rfl⟩ : zt S = zt S ∧ zu S = zu S) (tt_X8_matched_79 hself29)
def d_X8_matched_29s (self29 : Nat → Nat → Nat → Int32 → Int32 → Int32 → Int32 → Int32 → ZS → Option (Int32 × ZS)) (x0 : Nat) (x1 : Nat) (x2 : Nat) (x3 : Int32) (x4 : Int32) (x5 : Int32) (x6 : Int32) (x7 : Int32) (S : ZS) : Option (Int32 × ZS) :=
  m_chk (zK S x0 = 8) (
  m_if ((zI S 11 x0) ≤ x7) (
  m_if (x6 ≤ 0) (
  d_X8_matched_103 x0 x1 x2 x3 x4 S
  ) (
  m_if (x6 = (1 : Int32)) (
  d_X8_matched_102 x5 S
  ) (
  d_X8_matched_102 (-1 : Int32) S
  )
  )
  ) (
  m_chk (zK S x0 = 8) (
  m_if ((zI S 9 x0) = 0) (
  d_X8_matched_67 self29 x0 x1 x2 x3 x4 x6 x7 S
  ) (
  m_chk (zK S x0 = 8) (
  m_chk (zK S x0 = 8) (
  m_cal (zP S 0 x0) (fun b1 =>
  m_chk (zK S x0 = 8) (
  m_cal (zP S 10 x0) (fun b2 =>
  m_chk (zK S b2 = 14) (
  m_chk (¬ (x7 < 0 ∨ zN S b2 ≤ (x7).toNatClampNeg)) (
  m_bnd (zA S b2 (x7).toNatClampNeg) (fun v3 =>
  m_chk (zK S b1 = 7) (
  m_cal (f_X7_checkSign b1 x1 v3 S) (fun o4 => m_chk (zt o4.2 = zt S ∧ zu o4.2 = zu S) (
  m_if ((zI S 9 x0) = o4.1) (
  d_X8_matched_67 self29 x0 x1 x2 x3 x4 x6 x7 o4.2
  ) (
  d_X8_matched_79 self29 x0 x1 x2 x3 x4 x5 x6 x7 o4.2
  ))))))))))))
  ))
  ))
theorem tt_X8_matched_29s {Pw : Int32 → ZS → Prop} {self29 : Nat → Nat → Nat → Int32 → Int32 → Int32 → Int32 → Int32 → ZS → Option (Int32 × ZS)} {self29g : Nat → Nat → Nat → Int32 → Int32 → Int32 → Int32 → Int32 → ZS → Nat → Nat → Prop} (hself29 : ∀ (y0 : Nat) (y1 : Nat) (y2 : Nat) (y3 : Int32) (y4 : Int32) (y5 : Int32) (y6 : Int32) (y7 : Int32) (S : ZS), Tw Pw (self29 y0 y1 y2 y3 y4 y5 y6 y7 S) (zt S) (zu S) (fun C T => self29g y0 y1 y2 y3 y4 y5 y6 y7 S C T)) {x0 : Nat} {x1 : Nat} {x2 : Nat} {x3 : Int32} {x4 : Int32} {x5 : Int32} {x6 : Int32} {x7 : Int32} {S : ZS} : Tw Pw (d_X8_matched_29s self29 x0 x1 x2 x3 x4 x5 x6 x7 S) (zt S) (zu S) (fun C T => g_X8_matched_29s Pw self29g x0 x1 x2 x3 x4 x5 x6 x7 S C T) := by
  unfold d_X8_matched_29s g_X8_matched_29s
  refine tw_chk (fun _ => ?_)
  refine tw_if (fun _ => ?_) (fun _ => ?_)
  ·
    refine tw_if (fun _ => ?_) (fun _ => ?_)
    ·
      exact tw_at (⟨rfl, rfl⟩ : zt S = zt S ∧ zu S = zu S) (tt_X8_matched_103)
    ·
      refine tw_if (fun _ => ?_) (fun _ => ?_)
      ·
        exact tw_at (⟨rfl, rfl⟩ : zt S = zt S ∧ zu S = zu S) (tt_X8_matched_102)
      ·
        exact tw_at (⟨rfl, rfl⟩ : zt S = zt S ∧ zu S = zu S) (tt_X8_matched_102)
  ·
    refine tw_chk (fun _ => ?_)
    refine tw_if (fun _ => ?_) (fun _ => ?_)
    ·
      exact tw_at (⟨rfl, rfl⟩ : zt S = zt S ∧ zu S = zu S) (tt_X8_matched_67 hself29)
    ·
      refine tw_chk (fun _ => ?_)
      refine tw_chk (fun _ => ?_)
      refine tw_calv (fun b1 => ?_)
      refine tw_chk (fun _ => ?_)
      refine tw_calv (fun b2 => ?_)
      refine tw_chk (fun _ => ?_)
      refine tw_chk (fun _ => ?_)
      refine tw_bndv (fun v3 => ?_)
      refine tw_chk (fun _ => ?_)
      refine tw_calf (⟨rfl, rfl⟩ : zt S = zt S ∧ zu S = zu S) (fun o4 co4 => ?_)
      refine tw_if (fun _ => ?_) (fun _ => ?_)
      ·
        exact tw_at co4 (tt_X8_matched_67 hself29)
      ·
        exact tw_at co4 (tt_X8_matched_79 hself29)
