def d_X6_putText_0 (x0 : Nat) (x1 : Nat) (S : ZS) : Option (Int32 × ZS) :=
  d_X6_putText_2 mFuel x0 x1 (0 : Int32) S
theorem tt_X6_putText_0 {Pw : Int32 → ZS → Prop}   {x0 : Nat} {x1 : Nat} {S : ZS} : Tw Pw (d_X6_putText_0 x0 x1 S) (zt S) (zu S) (fun C T => g_X6_putText_0 Pw x0 x1 S C T) := by
  unfold d_X6_putText_0 g_X6_putText_0
  exact tw_at (⟨rfl, rfl⟩ : zt S = zt S ∧ zu S = zu S) (tt_X6_putText_2)
def d_X6_putText (x0 : Nat) (x1 : Nat) (S : ZS) : Option (Int32 × ZS) := d_X6_putText_0 x0 x1 S
theorem tt_X6_putText {Pw : Int32 → ZS → Prop} {x0 : Nat} {x1 : Nat} {S : ZS} : Tw Pw (d_X6_putText x0 x1 S) (zt S) (zu S) (fun C T => g_X6_putText x0 x1 S C T Pw) := tt_X6_putText_0
def d_X3_putQuoted_34 (self2 : Nat → Nat → Int32 → ZS → Option (Int32 × ZS)) (x0 : Nat) (x1 : Nat) (x2 : Int32) (x3 : Int32) (S : ZS) : Option (Int32 × ZS) :=
  m_chk (zK S x1 = 6) (
  m_cal2 (d_X6_put x1 x3 S) (fun r2 S3 =>
  m_bnd (x2 + (1 : Int32)) (fun v6 =>
  self2 x0 x1 v6 S3)))
theorem tt_X3_putQuoted_34 {Pw : Int32 → ZS → Prop} {self2 : Nat → Nat → Int32 → ZS → Option (Int32 × ZS)} {self2g : Nat → Nat → Int32 → ZS → Nat → Nat → Prop} (hself2 : ∀ (y0 : Nat) (y1 : Nat) (y2 : Int32) (S : ZS), Tw Pw (self2 y0 y1 y2 S) (zt S) (zu S) (fun C T => self2g y0 y1 y2 S C T)) {x0 : Nat} {x1 : Nat} {x2 : Int32} {x3 : Int32} {S : ZS} : Tw Pw (d_X3_putQuoted_34 self2 x0 x1 x2 x3 S) (zt S) (zu S) (fun C T => g_X3_putQuoted_34 Pw self2g x0 x1 x2 x3 S C T) := by
  unfold d_X3_putQuoted_34 g_X3_putQuoted_34
  refine tw_chk (fun _ => ?_)
  refine tw_gal (fun Pw9 => tw_at (⟨rfl, rfl⟩ : zt S = zt S ∧ zu S = zu S) tt_X6_put) (fun r2 S3 => ?_)
  refine tw_bndv (fun v6 => ?_)
  exact tw_at (⟨rfl, rfl⟩ : zt S3 = zt S3 ∧ zu S3 = zu S3) (hself2 _ _ _ _)
def d_X3_putQuoted_28 (self2 : Nat → Nat → Int32 → ZS → Option (Int32 × ZS)) (x0 : Nat) (x1 : Nat) (x2 : Int32) (x3 : Int32) (S : ZS) : Option (Int32 × ZS) :=
  m_chk (zK S x1 = 6) (
  m_cal2 (d_X6_put x1 (92 : Int32) S) (fun r2 S3 =>
  d_X3_putQuoted_34 self2 x0 x1 x2 x3 S3))
theorem tt_X3_putQuoted_28 {Pw : Int32 → ZS → Prop} {self2 : Nat → Nat → Int32 → ZS → Option (Int32 × ZS)} {self2g : Nat → Nat → Int32 → ZS → Nat → Nat → Prop} (hself2 : ∀ (y0 : Nat) (y1 : Nat) (y2 : Int32) (S : ZS), Tw Pw (self2 y0 y1 y2 S) (zt S) (zu S) (fun C T => self2g y0 y1 y2 S C T)) {x0 : Nat} {x1 : Nat} {x2 : Int32} {x3 : Int32} {S : ZS} : Tw Pw (d_X3_putQuoted_28 self2 x0 x1 x2 x3 S) (zt S) (zu S) (fun C T => g_X3_putQuoted_28 Pw self2g x0 x1 x2 x3 S C T) := by
  unfold d_X3_putQuoted_28 g_X3_putQuoted_28
  refine tw_chk (fun _ => ?_)
  refine tw_gal (fun Pw9 => tw_at (⟨rfl, rfl⟩ : zt S = zt S ∧ zu S = zu S) tt_X6_put) (fun r2 S3 => ?_)
  exact tw_at (⟨rfl, rfl⟩ : zt S3 = zt S3 ∧ zu S3 = zu S3) (tt_X3_putQuoted_34 hself2)
def d_X3_putQuoted_2s (self2 : Nat → Nat → Int32 → ZS → Option (Int32 × ZS)) (x0 : Nat) (x1 : Nat) (x2 : Int32) (S : ZS) : Option (Int32 × ZS) :=
  m_chk (zK S x0 = 6) (
  m_cal (f_X6_size x0 S) (fun o1 => m_chk (zt o1.2 = zt S ∧ zu o1.2 = zu S) (
  m_if (o1.1 ≤ x2) (
  some (0, o1.2)
  ) (
  m_chk (zK o1.2 x0 = 6) (
  m_cal (f_X6_at x0 x2 o1.2) (fun o2 => m_chk (zt o2.2 = zt o1.2 ∧ zu o2.2 = zu o1.2) (
  m_if (o2.1 = (34 : Int32)) (
  d_X3_putQuoted_28 self2 x0 x1 x2 o2.1 o2.2
  ) (
  m_if (o2.1 = (92 : Int32)) (
  d_X3_putQuoted_28 self2 x0 x1 x2 o2.1 o2.2
  ) (
  d_X3_putQuoted_34 self2 x0 x1 x2 o2.1 o2.2
  )
  ))))
  ))))
theorem tt_X3_putQuoted_2s {Pw : Int32 → ZS → Prop} {self2 : Nat → Nat → Int32 → ZS → Option (Int32 × ZS)} {self2g : Nat → Nat → Int32 → ZS → Nat → Nat → Prop} (hself2 : ∀ (y0 : Nat) (y1 : Nat) (y2 : Int32) (S : ZS), Tw Pw (self2 y0 y1 y2 S) (zt S) (zu S) (fun C T => self2g y0 y1 y2 S C T)) {x0 : Nat} {x1 : Nat} {x2 : Int32} {S : ZS} : Tw Pw (d_X3_putQuoted_2s self2 x0 x1 x2 S) (zt S) (zu S) (fun C T => g_X3_putQuoted_2s Pw self2g x0 x1 x2 S C T) := by
  unfold d_X3_putQuoted_2s g_X3_putQuoted_2s
  refine tw_chk (fun _ => ?_)
  refine tw_calf (⟨rfl, rfl⟩ : zt S = zt S ∧ zu S = zu S) (fun o1 co1 => ?_)
  refine tw_if (fun _ => ?_) (fun _ => ?_)
  ·
    exact tw_ret co1
  ·
    refine tw_chk (fun _ => ?_)
    refine tw_calf co1 (fun o2 co2 => ?_)
    refine tw_if (fun _ => ?_) (fun _ => ?_)
    ·
      exact tw_at co2 (tt_X3_putQuoted_28 hself2)
    ·
      refine tw_if (fun _ => ?_) (fun _ => ?_)
      ·
        exact tw_at co2 (tt_X3_putQuoted_28 hself2)
      ·
        exact tw_at co2 (tt_X3_putQuoted_34 hself2)
def d_X3_putQuoted_2  : Nat → Nat → Nat → Int32 → ZS → Option (Int32 × ZS)
  | 0 => fun _ _ _ _ => none
  | n + 1 => d_X3_putQuoted_2s  (d_X3_putQuoted_2  n)
theorem tt_X3_putQuoted_2 {Pw : Int32 → ZS → Prop}   {n : Nat} : ∀ {z0 : Nat} {z1 : Nat} {z2 : Int32} {S : ZS}, Tw Pw (d_X3_putQuoted_2  n z0 z1 z2 S) (zt S) (zu S) (fun C T => g_X3_putQuoted_2 Pw  n z0 z1 z2 S C T) := by
  induction n with
  | zero => intro z0 z1 z2 S; exact tw_none
  | succ n ih => intro z0 z1 z2 S; exact tt_X3_putQuoted_2s  (fun _ _ _ _ => ih)
def d_X3_putQuoted_0 (x0 : Nat) (x1 : Nat) (S : ZS) : Option (Int32 × ZS) :=
  d_X3_putQuoted_2 mFuel x0 x1 (0 : Int32) S
theorem tt_X3_putQuoted_0 {Pw : Int32 → ZS → Prop}   {x0 : Nat} {x1 : Nat} {S : ZS} : Tw Pw (d_X3_putQuoted_0 x0 x1 S) (zt S) (zu S) (fun C T => g_X3_putQuoted_0 Pw x0 x1 S C T) := by
  unfold d_X3_putQuoted_0 g_X3_putQuoted_0
  exact tw_at (⟨rfl, rfl⟩ : zt S = zt S ∧ zu S = zu S) (tt_X3_putQuoted_2)
def d_X3_putQuoted (x0 : Nat) (x1 : Nat) (S : ZS) : Option (Int32 × ZS) := d_X3_putQuoted_0 x0 x1 S
theorem tt_X3_putQuoted {Pw : Int32 → ZS → Prop} {x0 : Nat} {x1 : Nat} {S : ZS} : Tw Pw (d_X3_putQuoted x0 x1 S) (zt S) (zu S) (fun C T => g_X3_putQuoted x0 x1 S C T Pw) := tt_X3_putQuoted_0
def d_X3_putGap_33 (S : ZS) : Option (Int32 × ZS) :=
  some (0, S)
theorem tt_X3_putGap_33 {Pw : Int32 → ZS → Prop}   {S : ZS} : Tw Pw (d_X3_putGap_33 S) (zt S) (zu S) (fun C T => g_X3_putGap_33 Pw S C T) := by
  unfold d_X3_putGap_33 g_X3_putGap_33
  exact tw_ret (⟨rfl, rfl⟩ : zt S = zt S ∧ zu S = zu S)
def d_X3_putGap_0 (x0 : Nat) (S : ZS) : Option (Int32 × ZS) :=
  m_chk (zK S x0 = 6) (
  m_cal (f_X6_size x0 S) (fun o1 => m_chk (zt o1.2 = zt S ∧ zu o1.2 = zu S) (
  m_bnd (o1.1 - (1 : Int32)) (fun v2 =>
  m_chk (zK o1.2 x0 = 6) (
  m_cal (f_X6_at x0 v2 o1.2) (fun o3 => m_chk (zt o3.2 = zt o1.2 ∧ zu o3.2 = zu o1.2) (
  m_if (o3.1 = 0) (
  d_X3_putGap_33 o3.2
  ) (
  m_if (o3.1 = (10 : Int32)) (
  d_X3_putGap_33 o3.2
  ) (
  m_if (o3.1 = (40 : Int32)) (
  d_X3_putGap_33 o3.2
  ) (
  m_chk (zK o3.2 x0 = 6) (
  m_cal2 (d_X6_put x0 (32 : Int32) o3.2) (fun r5 S6 =>
  d_X3_putGap_33 S6))
  )
  )
  ))))))))
theorem tt_X3_putGap_0 {Pw : Int32 → ZS → Prop}   {x0 : Nat} {S : ZS} : Tw Pw (d_X3_putGap_0 x0 S) (zt S) (zu S) (fun C T => g_X3_putGap_0 Pw x0 S C T) := by
  unfold d_X3_putGap_0 g_X3_putGap_0
  refine tw_chk (fun _ => ?_)
  refine tw_calf (⟨rfl, rfl⟩ : zt S = zt S ∧ zu S = zu S) (fun o1 co1 => ?_)
  refine tw_bndv (fun v2 => ?_)
  refine tw_chk (fun _ => ?_)
  refine tw_calf co1 (fun o3 co3 => ?_)
  refine tw_if (fun _ => ?_) (fun _ => ?_)
  ·
    exact tw_at co3 (tt_X3_putGap_33)
  ·
    refine tw_if (fun _ => ?_) (fun _ => ?_)
    ·
      exact tw_at co3 (tt_X3_putGap_33)
    ·
      refine tw_if (fun _ => ?_) (fun _ => ?_)
      ·
        exact tw_at co3 (tt_X3_putGap_33)
      ·
        refine tw_chk (fun _ => ?_)
        refine tw_gal (fun Pw9 => tw_at co3 tt_X6_put) (fun r5 S6 => ?_)
        exact tw_at (⟨rfl, rfl⟩ : zt S6 = zt S6 ∧ zu S6 = zu S6) (tt_X3_putGap_33)
def d_X3_putGap (x0 : Nat) (S : ZS) : Option (Int32 × ZS) := d_X3_putGap_0 x0 S
theorem tt_X3_putGap {Pw : Int32 → ZS → Prop} {x0 : Nat} {S : ZS} : Tw Pw (d_X3_putGap x0 S) (zt S) (zu S) (fun C T => g_X3_putGap x0 S C T Pw) := tt_X3_putGap_0
def d_X3_putRemark_0 (x0 : Nat) (x1 : Nat) (S : ZS) : Option (Int32 × ZS) :=
  m_chk (zK S x0 = 4) (
  m_cal (zP S 6 x0) (fun b1 =>
  m_chk (zK S b1 = 6) (
  m_cal (f_X6_size b1 S) (fun o2 => m_chk (zt o2.2 = zt S ∧ zu o2.2 = zu S) (
  m_if (o2.1 = 0) (
  some (0, o2.2)
  ) (
  m_cal2 (d_X3_putGap x1 o2.2) (fun r4 S5 =>
  m_chk (zK S5 x1 = 6) (
  m_cal2 (d_X6_put x1 (123 : Int32) S5) (fun r9 S10 =>
  m_chk (zK S10 x0 = 4) (
  m_cal (zP S10 6 x0) (fun b13 =>
  m_chk (zK S10 x1 = 6) (
  m_cal2 (d_X6_putAll x1 b13 S10) (fun r15 S16 =>
  m_chk (zK S16 x1 = 6) (
  m_cal2 (d_X6_put x1 (125 : Int32) S16) (fun r20 S21 =>
  some (0, S21))))))))))
  ))))))
theorem tt_X3_putRemark_0 {Pw : Int32 → ZS → Prop}   {x0 : Nat} {x1 : Nat} {S : ZS} : Tw Pw (d_X3_putRemark_0 x0 x1 S) (zt S) (zu S) (fun C T => g_X3_putRemark_0 Pw x0 x1 S C T) := by
  unfold d_X3_putRemark_0 g_X3_putRemark_0
  refine tw_chk (fun _ => ?_)
  refine tw_calv (fun b1 => ?_)
  refine tw_chk (fun _ => ?_)
  refine tw_calf (⟨rfl, rfl⟩ : zt S = zt S ∧ zu S = zu S) (fun o2 co2 => ?_)
  refine tw_if (fun _ => ?_) (fun _ => ?_)
  ·
    exact tw_ret co2
  ·
    refine tw_gal (fun Pw9 => tw_at co2 tt_X3_putGap) (fun r4 S5 => ?_)
    refine tw_chk (fun _ => ?_)
    refine tw_gal (fun Pw9 => tw_at (⟨rfl, rfl⟩ : zt S5 = zt S5 ∧ zu S5 = zu S5) tt_X6_put) (fun r9 S10 => ?_)
    refine tw_chk (fun _ => ?_)
    refine tw_calv (fun b13 => ?_)
    refine tw_chk (fun _ => ?_)
    refine tw_gal (fun Pw9 => tw_at (⟨rfl, rfl⟩ : zt S10 = zt S10 ∧ zu S10 = zu S10) tt_X6_putAll) (fun r15 S16 => ?_)
    refine tw_chk (fun _ => ?_)
    refine tw_gal (fun Pw9 => tw_at (⟨rfl, rfl⟩ : zt S16 = zt S16 ∧ zu S16 = zu S16) tt_X6_put) (fun r20 S21 => ?_)
    exact tw_ret (⟨rfl, rfl⟩ : zt S21 = zt S21 ∧ zu S21 = zu S21)
def d_X3_putRemark (x0 : Nat) (x1 : Nat) (S : ZS) : Option (Int32 × ZS) := d_X3_putRemark_0 x0 x1 S
theorem tt_X3_putRemark {Pw : Int32 → ZS → Prop} {x0 : Nat} {x1 : Nat} {S : ZS} : Tw Pw (d_X3_putRemark x0 x1 S) (zt S) (zu S) (fun C T => g_X3_putRemark x0 x1 S C T Pw) := tt_X3_putRemark_0
def d_X3_putHead_72 (x0 : Nat) (x1 : Nat) (x2 : Nat) (S : ZS) : Option (Int32 × ZS) :=
  m_chk (zK S x1 = 1) (
  m_cal (f_X1_at x1 (0 : Int32) S) (fun o1 => m_chk (zt o1.2 = zt S ∧ zu o1.2 = zu S) (
  m_cal2 (d_X3_putRemark o1.1 x2 o1.2) (fun r3 S4 =>
  m_chk (zK S4 x0 = 3) (
  m_cal (zP S4 1 x0) (fun b7 =>
  m_chk (zK S4 b7 = 15) (
  m_chk (¬ ((0 : Int32) < 0 ∨ zN S4 b7 ≤ ((0 : Int32)).toNatClampNeg)) (
  m_cal (zB S4 b7 ((0 : Int32)).toNatClampNeg) (fun b8 =>
  m_chk (zK S4 x1 = 1) (
  m_cal (zP S4 0 x1) (fun b9 =>
  m_chk (zK S4 b8 = 0) (
  m_cal (f_X0_copyFrom b8 b9 S4) (fun o10 => m_chk (zt o10.2 = zt S4 ∧ zu o10.2 = zu S4) (
  some (0, o10.2)))))))))))))))
theorem tt_X3_putHead_72 {Pw : Int32 → ZS → Prop}   {x0 : Nat} {x1 : Nat} {x2 : Nat} {S : ZS} : Tw Pw (d_X3_putHead_72 x0 x1 x2 S) (zt S) (zu S) (fun C T => g_X3_putHead_72 Pw x0 x1 x2 S C T) := by
  unfold d_X3_putHead_72 g_X3_putHead_72
  refine tw_chk (fun _ => ?_)
  refine tw_calf (⟨rfl, rfl⟩ : zt S = zt S ∧ zu S = zu S) (fun o1 co1 => ?_)
  refine tw_gal (fun Pw9 => tw_at co1 tt_X3_putRemark) (fun r3 S4 => ?_)
  refine tw_chk (fun _ => ?_)
  refine tw_calv (fun b7 => ?_)
  refine tw_chk (fun _ => ?_)
  refine tw_chk (fun _ => ?_)
  refine tw_calv (fun b8 => ?_)
  refine tw_chk (fun _ => ?_)
  refine tw_calv (fun b9 => ?_)
  refine tw_chk (fun _ => ?_)
  refine tw_calf (⟨rfl, rfl⟩ : zt S4 = zt S4 ∧ zu S4 = zu S4) (fun o10 co10 => ?_)
  exact tw_ret co10
def d_X3_putHead_2s (self2 : Nat → Nat → Nat → Int32 → ZS → Option (Int32 × ZS)) (x0 : Nat) (x1 : Nat) (x2 : Nat) (x3 : Int32) (S : ZS) : Option (Int32 × ZS) :=
  m_chk (zK S x1 = 1) (
  m_if ((zI S 5 x1) ≤ x3) (
  m_chk (zK S x1 = 1) (
  m_if ((zI S 5 x1) ≤ 0) (
  d_X3_putHead_72 x0 x1 x2 S
  ) (
  m_chk (zK S x2 = 6) (
  m_cal2 (d_X6_put x2 (10 : Int32) S) (fun r2 S3 =>
  d_X3_putHead_72 x0 x1 x2 S3))
  ))
  ) (
  m_chk (zK S x1 = 1) (
  m_cal2 (d_X1_tagAt x1 x3 S) (fun r7 S8 =>
  m_chk (zK S8 x2 = 6) (
  m_cal2 (d_X6_put x2 (91 : Int32) S8) (fun r12 S13 =>
  m_chk (zK S13 r7 = 10) (
  m_cal (zP S13 0 r7) (fun b16 =>
  m_chk (zK S13 x2 = 6) (
  m_cal2 (d_X6_putAll x2 b16 S13) (fun r18 S19 =>
  m_chk (zK S19 x2 = 6) (
  m_cal2 (d_X6_putText x2 11 S19) (fun r23 S24 =>
  m_chk (zK S24 r7 = 10) (
  m_cal (zP S24 1 r7) (fun b27 =>
  m_cal2 (d_X3_putQuoted b27 x2 S24) (fun r29 S30 =>
  m_chk (zK S30 x2 = 6) (
  m_cal2 (d_X6_putText x2 12 S30) (fun r34 S35 =>
  m_bnd (x3 + (1 : Int32)) (fun v38 =>
  self2 x0 x1 x2 v38 S35))))))))))))))))
  ))
theorem tt_X3_putHead_2s {Pw : Int32 → ZS → Prop} {self2 : Nat → Nat → Nat → Int32 → ZS → Option (Int32 × ZS)} {self2g : Nat → Nat → Nat → Int32 → ZS → Nat → Nat → Prop} (hself2 : ∀ (y0 : Nat) (y1 : Nat) (y2 : Nat) (y3 : Int32) (S : ZS), Tw Pw (self2 y0 y1 y2 y3 S) (zt S) (zu S) (fun C T => self2g y0 y1 y2 y3 S C T)) {x0 : Nat} {x1 : Nat} {x2 : Nat} {x3 : Int32} {S : ZS} : Tw Pw (d_X3_putHead_2s self2 x0 x1 x2 x3 S) (zt S) (zu S) (fun C T => g_X3_putHead_2s Pw self2g x0 x1 x2 x3 S C T) := by
  unfold d_X3_putHead_2s g_X3_putHead_2s
  refine tw_chk (fun _ => ?_)
  refine tw_if (fun _ => ?_) (fun _ => ?_)
  ·
    refine tw_chk (fun _ => ?_)
    refine tw_if (fun _ => ?_) (fun _ => ?_)
    ·
      exact tw_at (⟨rfl, rfl⟩ : zt S = zt S ∧ zu S = zu S) (tt_X3_putHead_72)
    ·
      refine tw_chk (fun _ => ?_)
      refine tw_gal (fun Pw9 => tw_at (⟨rfl, rfl⟩ : zt S = zt S ∧ zu S = zu S) tt_X6_put) (fun r2 S3 => ?_)
      exact tw_at (⟨rfl, rfl⟩ : zt S3 = zt S3 ∧ zu S3 = zu S3) (tt_X3_putHead_72)
  ·
    refine tw_chk (fun _ => ?_)
    refine tw_galN (fun Pw9 => tw_at (⟨rfl, rfl⟩ : zt S = zt S ∧ zu S = zu S) tt_X1_tagAt) (fun r7 S8 => ?_)
    refine tw_chk (fun _ => ?_)
    refine tw_gal (fun Pw9 => tw_at (⟨rfl, rfl⟩ : zt S8 = zt S8 ∧ zu S8 = zu S8) tt_X6_put) (fun r12 S13 => ?_)
    refine tw_chk (fun _ => ?_)
    refine tw_calv (fun b16 => ?_)
    refine tw_chk (fun _ => ?_)
    refine tw_gal (fun Pw9 => tw_at (⟨rfl, rfl⟩ : zt S13 = zt S13 ∧ zu S13 = zu S13) tt_X6_putAll) (fun r18 S19 => ?_)
    refine tw_chk (fun _ => ?_)
    refine tw_gal (fun Pw9 => tw_at (⟨rfl, rfl⟩ : zt S19 = zt S19 ∧ zu S19 = zu S19) tt_X6_putText) (fun r23 S24 => ?_)
    refine tw_chk (fun _ => ?_)
    refine tw_calv (fun b27 => ?_)
    refine tw_gal (fun Pw9 => tw_at (⟨rfl, rfl⟩ : zt S24 = zt S24 ∧ zu S24 = zu S24) tt_X3_putQuoted) (fun r29 S30 => ?_)
    refine tw_chk (fun _ => ?_)
    refine tw_gal (fun Pw9 => tw_at (⟨rfl, rfl⟩ : zt S30 = zt S30 ∧ zu S30 = zu S30) tt_X6_putText) (fun r34 S35 => ?_)
    refine tw_bndv (fun v38 => ?_)
    exact tw_at (⟨rfl, rfl⟩ : zt S35 = zt S35 ∧ zu S35 = zu S35) (hself2 _ _ _ _ _)
def d_X3_putHead_2  : Nat → Nat → Nat → Nat → Int32 → ZS → Option (Int32 × ZS)
  | 0 => fun _ _ _ _ _ => none
  | n + 1 => d_X3_putHead_2s  (d_X3_putHead_2  n)
theorem tt_X3_putHead_2 {Pw : Int32 → ZS → Prop}   {n : Nat} : ∀ {z0 : Nat} {z1 : Nat} {z2 : Nat} {z3 : Int32} {S : ZS}, Tw Pw (d_X3_putHead_2  n z0 z1 z2 z3 S) (zt S) (zu S) (fun C T => g_X3_putHead_2 Pw  n z0 z1 z2 z3 S C T) := by
  induction n with
  | zero => intro z0 z1 z2 z3 S; exact tw_none
  | succ n ih => intro z0 z1 z2 z3 S; exact tt_X3_putHead_2s  (fun _ _ _ _ _ => ih)
def d_X3_putHead_0 (x0 : Nat) (x1 : Nat) (x2 : Nat) (S : ZS) : Option (Int32 × ZS) :=
  d_X3_putHead_2 mFuel x0 x1 x2 (0 : Int32) S
theorem tt_X3_putHead_0 {Pw : Int32 → ZS → Prop}   {x0 : Nat} {x1 : Nat} {x2 : Nat} {S : ZS} : Tw Pw (d_X3_putHead_0 x0 x1 x2 S) (zt S) (zu S) (fun C T => g_X3_putHead_0 Pw x0 x1 x2 S C T) := by
  unfold d_X3_putHead_0 g_X3_putHead_0
  exact tw_at (⟨rfl, rfl⟩ : zt S = zt S ∧ zu S = zu S) (tt_X3_putHead_2)
def d_X3_putHead (x0 : Nat) (x1 : Nat) (x2 : Nat) (S : ZS) : Option (Int32 × ZS) := d_X3_putHead_0 x0 x1 x2 S
theorem tt_X3_putHead {Pw : Int32 → ZS → Prop} {x0 : Nat} {x1 : Nat} {x2 : Nat} {S : ZS} : Tw Pw (d_X3_putHead x0 x1 x2 S) (zt S) (zu S) (fun C T => g_X3_putHead x0 x1 x2 S C T Pw) := tt_X3_putHead_0
def d_X3_putEnd_0 (x1 : Nat) (x2 : Nat) (S : ZS) : Option (Int32 × ZS) :=
  m_cal2 (d_X3_putGap x2 S) (fun r2 S3 =>
  m_chk (zK S3 x1 = 1) (
  m_cal (f_X11_resultSign (zI S3 6 x1) S3) (fun o6 => m_chk (zt o6.2 = zt S3 ∧ zu o6.2 = zu S3) (
  m_chk (zK o6.2 x2 = 6) (
  m_cal2 (d_X6_putText x2 o6.1 o6.2) (fun r8 S9 =>
  some (0, S9)))))))
theorem tt_X3_putEnd_0 {Pw : Int32 → ZS → Prop}   {x1 : Nat} {x2 : Nat} {S : ZS} : Tw Pw (d_X3_putEnd_0 x1 x2 S) (zt S) (zu S) (fun C T => g_X3_putEnd_0 Pw x1 x2 S C T) := by
  unfold d_X3_putEnd_0 g_X3_putEnd_0
  refine tw_gal (fun Pw9 => tw_at (⟨rfl, rfl⟩ : zt S = zt S ∧ zu S = zu S) tt_X3_putGap) (fun r2 S3 => ?_)
  refine tw_chk (fun _ => ?_)
  refine tw_calf (⟨rfl, rfl⟩ : zt S3 = zt S3 ∧ zu S3 = zu S3) (fun o6 co6 => ?_)
  refine tw_chk (fun _ => ?_)
  refine tw_gal (fun Pw9 => tw_at co6 tt_X6_putText) (fun r8 S9 => ?_)
  exact tw_ret (⟨rfl, rfl⟩ : zt S9 = zt S9 ∧ zu S9 = zu S9)
def d_X3_putEnd (x0 : Nat) (x1 : Nat) (x2 : Nat) (S : ZS) : Option (Int32 × ZS) := d_X3_putEnd_0 x1 x2 S
theorem tt_X3_putEnd {Pw : Int32 → ZS → Prop} {x0 : Nat} {x1 : Nat} {x2 : Nat} {S : ZS} : Tw Pw (d_X3_putEnd x0 x1 x2 S) (zt S) (zu S) (fun C T => g_X3_putEnd x0 x1 x2 S C T Pw) := tt_X3_putEnd_0
def d_X6_putNumber_29s (self29 : Nat → Int32 → Int32 → ZS → Option (Int32 × ZS)) (x0 : Nat) (x1 : Int32) (x2 : Int32) (S : ZS) : Option (Int32 × ZS) :=
  m_if (x2 ≤ 0) (
  some (0, S)
  ) (
  m_chk (¬ x2 = 0) (
  m_bnd (x1 / x2) (fun v1 =>
  m_bnd (v1 - v1 / (10 : Int32) * (10 : Int32)) (fun v2 =>
  m_bnd ((48 : Int32) + v2) (fun v3 =>
  m_bnd ((v3.toUInt32 % 65536).toInt32) (fun v4 =>
  m_chk (zK S x0 = 6) (
  m_cal2 (d_X6_put x0 v4 S) (fun r6 S7 =>
  m_bnd (x2 / (10 : Int32)) (fun v10 =>
  self29 x0 x1 v10 S7))))))))
  )
theorem tt_X6_putNumber_29s {Pw : Int32 → ZS → Prop} {self29 : Nat → Int32 → Int32 → ZS → Option (Int32 × ZS)} {self29g : Nat → Int32 → Int32 → ZS → Nat → Nat → Prop} (hself29 : ∀ (y0 : Nat) (y1 : Int32) (y2 : Int32) (S : ZS), Tw Pw (self29 y0 y1 y2 S) (zt S) (zu S) (fun C T => self29g y0 y1 y2 S C T)) {x0 : Nat} {x1 : Int32} {x2 : Int32} {S : ZS} : Tw Pw (d_X6_putNumber_29s self29 x0 x1 x2 S) (zt S) (zu S) (fun C T => g_X6_putNumber_29s Pw self29g x0 x1 x2 S C T) := by
  unfold d_X6_putNumber_29s g_X6_putNumber_29s
  refine tw_if (fun _ => ?_) (fun _ => ?_)
  ·
    exact tw_ret (⟨rfl, rfl⟩ : zt S = zt S ∧ zu S = zu S)
  ·
    refine tw_chk (fun _ => ?_)
    refine tw_bndv (fun v1 => ?_)
    refine tw_bndv (fun v2 => ?_)
    refine tw_bndv (fun v3 => ?_)
    refine tw_bndv (fun v4 => ?_)
    refine tw_chk (fun _ => ?_)
    refine tw_gal (fun Pw9 => tw_at (⟨rfl, rfl⟩ : zt S = zt S ∧ zu S = zu S) tt_X6_put) (fun r6 S7 => ?_)
    refine tw_bndv (fun v10 => ?_)
    exact tw_at (⟨rfl, rfl⟩ : zt S7 = zt S7 ∧ zu S7 = zu S7) (hself29 _ _ _ _)
def d_X6_putNumber_29  : Nat → Nat → Int32 → Int32 → ZS → Option (Int32 × ZS)
  | 0 => fun _ _ _ _ => none
  | n + 1 => d_X6_putNumber_29s  (d_X6_putNumber_29  n)
theorem tt_X6_putNumber_29 {Pw : Int32 → ZS → Prop}   {n : Nat} : ∀ {z0 : Nat} {z1 : Int32} {z2 : Int32} {S : ZS}, Tw Pw (d_X6_putNumber_29  n z0 z1 z2 S) (zt S) (zu S) (fun C T => g_X6_putNumber_29 Pw  n z0 z1 z2 S C T) := by
  induction n with
  | zero => intro z0 z1 z2 S; exact tw_none
  | succ n ih => intro z0 z1 z2 S; exact tt_X6_putNumber_29s  (fun _ _ _ _ => ih)
def d_X6_putNumber_4s (self4 : Nat → Int32 → Int32 → Int32 → ZS → Option (Int32 × ZS)) (x0 : Nat) (x1 : Int32) (x2 : Int32) (x3 : Int32) (S : ZS) : Option (Int32 × ZS) :=
  m_if ((9 : Int32) ≤ x3) (
  d_X6_putNumber_29 mFuel x0 x1 x2 S
  ) (
  m_chk (¬ x2 = 0) (
  m_bnd (x1 / x2) (fun v1 =>
  m_if (v1 < (10 : Int32)) (
  d_X6_putNumber_29 mFuel x0 x1 x2 S
  ) (
  m_bnd (x2 * (10 : Int32)) (fun v2 =>
  m_bnd (x3 + (1 : Int32)) (fun v3 =>
  self4 x0 x1 v2 v3 S))
  )))
  )
theorem tt_X6_putNumber_4s {Pw : Int32 → ZS → Prop} {self4 : Nat → Int32 → Int32 → Int32 → ZS → Option (Int32 × ZS)} {self4g : Nat → Int32 → Int32 → Int32 → ZS → Nat → Nat → Prop} (hself4 : ∀ (y0 : Nat) (y1 : Int32) (y2 : Int32) (y3 : Int32) (S : ZS), Tw Pw (self4 y0 y1 y2 y3 S) (zt S) (zu S) (fun C T => self4g y0 y1 y2 y3 S C T)) {x0 : Nat} {x1 : Int32} {x2 : Int32} {x3 : Int32} {S : ZS} : Tw Pw (d_X6_putNumber_4s self4 x0 x1 x2 x3 S) (zt S) (zu S) (fun C T => g_X6_putNumber_4s Pw self4g x0 x1 x2 x3 S C T) := by
  unfold d_X6_putNumber_4s g_X6_putNumber_4s
  refine tw_if (fun _ => ?_) (fun _ => ?_)
  ·
    exact tw_at (⟨rfl, rfl⟩ : zt S = zt S ∧ zu S = zu S) (tt_X6_putNumber_29)
  ·
    refine tw_chk (fun _ => ?_)
    refine tw_bndv (fun v1 => ?_)
    refine tw_if (fun _ => ?_) (fun _ => ?_)
    ·
      exact tw_at (⟨rfl, rfl⟩ : zt S = zt S ∧ zu S = zu S) (tt_X6_putNumber_29)
    ·
      refine tw_bndv (fun v2 => ?_)
      refine tw_bndv (fun v3 => ?_)
      exact tw_at (⟨rfl, rfl⟩ : zt S = zt S ∧ zu S = zu S) (hself4 _ _ _ _ _)
def d_X6_putNumber_4  : Nat → Nat → Int32 → Int32 → Int32 → ZS → Option (Int32 × ZS)
  | 0 => fun _ _ _ _ _ => none
  | n + 1 => d_X6_putNumber_4s  (d_X6_putNumber_4  n)
theorem tt_X6_putNumber_4 {Pw : Int32 → ZS → Prop}   {n : Nat} : ∀ {z0 : Nat} {z1 : Int32} {z2 : Int32} {z3 : Int32} {S : ZS}, Tw Pw (d_X6_putNumber_4  n z0 z1 z2 z3 S) (zt S) (zu S) (fun C T => g_X6_putNumber_4 Pw  n z0 z1 z2 z3 S C T) := by
  induction n with
  | zero => intro z0 z1 z2 z3 S; exact tw_none
  | succ n ih => intro z0 z1 z2 z3 S; exact tt_X6_putNumber_4s  (fun _ _ _ _ _ => ih)
def d_X6_putNumber_0 (x0 : Nat) (x1 : Int32) (S : ZS) : Option (Int32 × ZS) :=
  d_X6_putNumber_4 mFuel x0 x1 (1 : Int32) (0 : Int32) S
theorem tt_X6_putNumber_0 {Pw : Int32 → ZS → Prop}   {x0 : Nat} {x1 : Int32} {S : ZS} : Tw Pw (d_X6_putNumber_0 x0 x1 S) (zt S) (zu S) (fun C T => g_X6_putNumber_0 Pw x0 x1 S C T) := by
  unfold d_X6_putNumber_0 g_X6_putNumber_0
  exact tw_at (⟨rfl, rfl⟩ : zt S = zt S ∧ zu S = zu S) (tt_X6_putNumber_4)
def d_X6_putNumber (x0 : Nat) (x1 : Int32) (S : ZS) : Option (Int32 × ZS) := d_X6_putNumber_0 x0 x1 S
theorem tt_X6_putNumber {Pw : Int32 → ZS → Prop} {x0 : Nat} {x1 : Int32} {S : ZS} : Tw Pw (d_X6_putNumber x0 x1 S) (zt S) (zu S) (fun C T => g_X6_putNumber x0 x1 S C T Pw) := tt_X6_putNumber_0
def d_X9_putApart_162 (S : ZS) : Option (Int32 × ZS) :=
  some (0, S)
theorem tt_X9_putApart_162 {Pw : Int32 → ZS → Prop}   {S : ZS} : Tw Pw (d_X9_putApart_162 S) (zt S) (zu S) (fun C T => g_X9_putApart_162 Pw S C T) := by
  unfold d_X9_putApart_162 g_X9_putApart_162
  exact tw_ret (⟨rfl, rfl⟩ : zt S = zt S ∧ zu S = zu S)
def d_X9_putApart_148 (x2 : Int32) (x4 : Nat) (x6 : Int32) (S : ZS) : Option (Int32 × ZS) :=
  m_if (x6 = 0) (
  d_X9_putApart_162 S
  ) (
  m_cal (f_X11_rankDigit x2 S) (fun o1 => m_chk (zt o1.2 = zt S ∧ zu o1.2 = zu S) (
  m_chk (zK o1.2 x4 = 6) (
  m_cal2 (d_X6_put x4 o1.1 o1.2) (fun r3 S4 =>
  d_X9_putApart_162 S4))))
  )
theorem tt_X9_putApart_148 {Pw : Int32 → ZS → Prop}   {x2 : Int32} {x4 : Nat} {x6 : Int32} {S : ZS} : Tw Pw (d_X9_putApart_148 x2 x4 x6 S) (zt S) (zu S) (fun C T => g_X9_putApart_148 Pw x2 x4 x6 S C T) := by
  unfold d_X9_putApart_148 g_X9_putApart_148
  refine tw_if (fun _ => ?_) (fun _ => ?_)
  ·
    exact tw_at (⟨rfl, rfl⟩ : zt S = zt S ∧ zu S = zu S) (tt_X9_putApart_162)
  ·
    refine tw_calf (⟨rfl, rfl⟩ : zt S = zt S ∧ zu S = zu S) (fun o1 co1 => ?_)
    refine tw_chk (fun _ => ?_)
    refine tw_gal (fun Pw9 => tw_at co1 tt_X6_put) (fun r3 S4 => ?_)
    exact tw_at (⟨rfl, rfl⟩ : zt S4 = zt S4 ∧ zu S4 = zu S4) (tt_X9_putApart_162)
def d_X9_putApart_139 (x2 : Int32) (x4 : Nat) (x6 : Int32) (S : ZS) : Option (Int32 × ZS) :=
  m_cal (f_X11_fileLetter x2 S) (fun o1 => m_chk (zt o1.2 = zt S ∧ zu o1.2 = zu S) (
  m_chk (zK o1.2 x4 = 6) (
  m_cal2 (d_X6_put x4 o1.1 o1.2) (fun r3 S4 =>
  d_X9_putApart_148 x2 x4 x6 S4))))
theorem tt_X9_putApart_139 {Pw : Int32 → ZS → Prop}   {x2 : Int32} {x4 : Nat} {x6 : Int32} {S : ZS} : Tw Pw (d_X9_putApart_139 x2 x4 x6 S) (zt S) (zu S) (fun C T => g_X9_putApart_139 Pw x2 x4 x6 S C T) := by
  unfold d_X9_putApart_139 g_X9_putApart_139
  refine tw_calf (⟨rfl, rfl⟩ : zt S = zt S ∧ zu S = zu S) (fun o1 co1 => ?_)
  refine tw_chk (fun _ => ?_)
  refine tw_gal (fun Pw9 => tw_at co1 tt_X6_put) (fun r3 S4 => ?_)
  exact tw_at (⟨rfl, rfl⟩ : zt S4 = zt S4 ∧ zu S4 = zu S4) (tt_X9_putApart_148)
def d_X9_putApart_118 (self12 : Nat → Nat → Int32 → Int32 → Nat → Int32 → Int32 → Int32 → Int32 → ZS → Option (Int32 × ZS)) (x0 : Nat) (x1 : Nat) (x2 : Int32) (x3 : Int32) (x4 : Nat) (x5 : Int32) (x6 : Int32) (x7 : Int32) (x8 : Int32) (S : ZS) : Option (Int32 × ZS) :=
  m_bnd (x8 + (1 : Int32)) (fun v1 =>
  self12 x0 x1 x2 x3 x4 x5 x6 x7 v1 S)
theorem tt_X9_putApart_118 {Pw : Int32 → ZS → Prop} {self12 : Nat → Nat → Int32 → Int32 → Nat → Int32 → Int32 → Int32 → Int32 → ZS → Option (Int32 × ZS)} {self12g : Nat → Nat → Int32 → Int32 → Nat → Int32 → Int32 → Int32 → Int32 → ZS → Nat → Nat → Prop} (hself12 : ∀ (y0 : Nat) (y1 : Nat) (y2 : Int32) (y3 : Int32) (y4 : Nat) (y5 : Int32) (y6 : Int32) (y7 : Int32) (y8 : Int32) (S : ZS), Tw Pw (self12 y0 y1 y2 y3 y4 y5 y6 y7 y8 S) (zt S) (zu S) (fun C T => self12g y0 y1 y2 y3 y4 y5 y6 y7 y8 S C T)) {x0 : Nat} {x1 : Nat} {x2 : Int32} {x3 : Int32} {x4 : Nat} {x5 : Int32} {x6 : Int32} {x7 : Int32} {x8 : Int32} {S : ZS} : Tw Pw (d_X9_putApart_118 self12 x0 x1 x2 x3 x4 x5 x6 x7 x8 S) (zt S) (zu S) (fun C T => g_X9_putApart_118 Pw self12g x0 x1 x2 x3 x4 x5 x6 x7 x8 S C T) := by
  unfold d_X9_putApart_118 g_X9_putApart_118
  refine tw_bndv (fun v1 => ?_)
  exact tw_at (⟨rfl, rfl⟩ : zt S = zt S ∧ zu S = zu S) (hself12 _ _ _ _ _ _ _ _ _ _)
def d_X9_putApart_116 (self12 : Nat → Nat → Int32 → Int32 → Nat → Int32 → Int32 → Int32 → Int32 → ZS → Option (Int32 × ZS)) (x0 : Nat) (x1 : Nat) (x2 : Int32) (x3 : Int32) (x4 : Nat) (x5 : Int32) (x6 : Int32) (x8 : Int32) (t0 : Int32) (S : ZS) : Option (Int32 × ZS) :=
  d_X9_putApart_118 self12 x0 x1 x2 x3 x4 x5 x6 t0 x8 S
theorem tt_X9_putApart_116 {Pw : Int32 → ZS → Prop} {self12 : Nat → Nat → Int32 → Int32 → Nat → Int32 → Int32 → Int32 → Int32 → ZS → Option (Int32 × ZS)} {self12g : Nat → Nat → Int32 → Int32 → Nat → Int32 → Int32 → Int32 → Int32 → ZS → Nat → Nat → Prop} (hself12 : ∀ (y0 : Nat) (y1 : Nat) (y2 : Int32) (y3 : Int32) (y4 : Nat) (y5 : Int32) (y6 : Int32) (y7 : Int32) (y8 : Int32) (S : ZS), Tw Pw (self12 y0 y1 y2 y3 y4 y5 y6 y7 y8 S) (zt S) (zu S) (fun C T => self12g y0 y1 y2 y3 y4 y5 y6 y7 y8 S C T)) {x0 : Nat} {x1 : Nat} {x2 : Int32} {x3 : Int32} {x4 : Nat} {x5 : Int32} {x6 : Int32} {x8 : Int32} {t0 : Int32} {S : ZS} : Tw Pw (d_X9_putApart_116 self12 x0 x1 x2 x3 x4 x5 x6 x8 t0 S) (zt S) (zu S) (fun C T => g_X9_putApart_116 Pw self12g x0 x1 x2 x3 x4 x5 x6 x8 t0 S C T) := by
  unfold d_X9_putApart_116 g_X9_putApart_116
  exact tw_at (⟨rfl, rfl⟩ : zt S = zt S ∧ zu S = zu S) (tt_X9_putApart_118 hself12)
def d_X9_putApart_111 (self12 : Nat → Nat → Int32 → Int32 → Nat → Int32 → Int32 → Int32 → Int32 → ZS → Option (Int32 × ZS)) (x0 : Nat) (x1 : Nat) (x2 : Int32) (x3 : Int32) (x4 : Nat) (x5 : Int32) (x6 : Int32) (x8 : Int32) (S : ZS) : Option (Int32 × ZS) :=
  d_X9_putApart_116 self12 x0 x1 x2 x3 x4 x5 x6 x8 (1 : Int32) S
theorem tt_X9_putApart_111 {Pw : Int32 → ZS → Prop} {self12 : Nat → Nat → Int32 → Int32 → Nat → Int32 → Int32 → Int32 → Int32 → ZS → Option (Int32 × ZS)} {self12g : Nat → Nat → Int32 → Int32 → Nat → Int32 → Int32 → Int32 → Int32 → ZS → Nat → Nat → Prop} (hself12 : ∀ (y0 : Nat) (y1 : Nat) (y2 : Int32) (y3 : Int32) (y4 : Nat) (y5 : Int32) (y6 : Int32) (y7 : Int32) (y8 : Int32) (S : ZS), Tw Pw (self12 y0 y1 y2 y3 y4 y5 y6 y7 y8 S) (zt S) (zu S) (fun C T => self12g y0 y1 y2 y3 y4 y5 y6 y7 y8 S C T)) {x0 : Nat} {x1 : Nat} {x2 : Int32} {x3 : Int32} {x4 : Nat} {x5 : Int32} {x6 : Int32} {x8 : Int32} {S : ZS} : Tw Pw (d_X9_putApart_111 self12 x0 x1 x2 x3 x4 x5 x6 x8 S) (zt S) (zu S) (fun C T => g_X9_putApart_111 Pw self12g x0 x1 x2 x3 x4 x5 x6 x8 S C T) := by
  unfold d_X9_putApart_111 g_X9_putApart_111
  exact tw_at (⟨rfl, rfl⟩ : zt S = zt S ∧ zu S = zu S) (tt_X9_putApart_116 hself12)
def d_X9_putApart_94 (self12 : Nat → Nat → Int32 → Int32 → Nat → Int32 → Int32 → Int32 → Int32 → ZS → Option (Int32 × ZS)) (x0 : Nat) (x1 : Nat) (x2 : Int32) (x3 : Int32) (x4 : Nat) (x5 : Int32) (x7 : Int32) (x8 : Int32) (t0 : Int32) (S : ZS) : Option (Int32 × ZS) :=
  m_if (x7 = 0) (
  m_bnd (x8 >>> ((3 : Int32) &&& 31)) (fun v1 =>
  m_bnd (x2 >>> ((3 : Int32) &&& 31)) (fun v2 =>
  m_if (v1 = v2) (
  d_X9_putApart_111 self12 x0 x1 x2 x3 x4 x5 t0 x8 S
  ) (
  d_X9_putApart_116 self12 x0 x1 x2 x3 x4 x5 t0 x8 (0 : Int32) S
  )))
  ) (
  d_X9_putApart_111 self12 x0 x1 x2 x3 x4 x5 t0 x8 S
  )
theorem tt_X9_putApart_94 {Pw : Int32 → ZS → Prop} {self12 : Nat → Nat → Int32 → Int32 → Nat → Int32 → Int32 → Int32 → Int32 → ZS → Option (Int32 × ZS)} {self12g : Nat → Nat → Int32 → Int32 → Nat → Int32 → Int32 → Int32 → Int32 → ZS → Nat → Nat → Prop} (hself12 : ∀ (y0 : Nat) (y1 : Nat) (y2 : Int32) (y3 : Int32) (y4 : Nat) (y5 : Int32) (y6 : Int32) (y7 : Int32) (y8 : Int32) (S : ZS), Tw Pw (self12 y0 y1 y2 y3 y4 y5 y6 y7 y8 S) (zt S) (zu S) (fun C T => self12g y0 y1 y2 y3 y4 y5 y6 y7 y8 S C T)) {x0 : Nat} {x1 : Nat} {x2 : Int32} {x3 : Int32} {x4 : Nat} {x5 : Int32} {x7 : Int32} {x8 : Int32} {t0 : Int32} {S : ZS} : Tw Pw (d_X9_putApart_94 self12 x0 x1 x2 x3 x4 x5 x7 x8 t0 S) (zt S) (zu S) (fun C T => g_X9_putApart_94 Pw self12g x0 x1 x2 x3 x4 x5 x7 x8 t0 S C T) := by
  unfold d_X9_putApart_94 g_X9_putApart_94
  refine tw_if (fun _ => ?_) (fun _ => ?_)
  ·
    refine tw_bndv (fun v1 => ?_)
    refine tw_bndv (fun v2 => ?_)
    refine tw_if (fun _ => ?_) (fun _ => ?_)
    ·
      exact tw_at (⟨rfl, rfl⟩ : zt S = zt S ∧ zu S = zu S) (tt_X9_putApart_111 hself12)
    ·
      exact tw_at (⟨rfl, rfl⟩ : zt S = zt S ∧ zu S = zu S) (tt_X9_putApart_116 hself12)
  ·
    exact tw_at (⟨rfl, rfl⟩ : zt S = zt S ∧ zu S = zu S) (tt_X9_putApart_111 hself12)
def d_X9_putApart_89 (self12 : Nat → Nat → Int32 → Int32 → Nat → Int32 → Int32 → Int32 → Int32 → ZS → Option (Int32 × ZS)) (x0 : Nat) (x1 : Nat) (x2 : Int32) (x3 : Int32) (x4 : Nat) (x5 : Int32) (x7 : Int32) (x8 : Int32) (S : ZS) : Option (Int32 × ZS) :=
  d_X9_putApart_94 self12 x0 x1 x2 x3 x4 x5 x7 x8 (1 : Int32) S
theorem tt_X9_putApart_89 {Pw : Int32 → ZS → Prop} {self12 : Nat → Nat → Int32 → Int32 → Nat → Int32 → Int32 → Int32 → Int32 → ZS → Option (Int32 × ZS)} {self12g : Nat → Nat → Int32 → Int32 → Nat → Int32 → Int32 → Int32 → Int32 → ZS → Nat → Nat → Prop} (hself12 : ∀ (y0 : Nat) (y1 : Nat) (y2 : Int32) (y3 : Int32) (y4 : Nat) (y5 : Int32) (y6 : Int32) (y7 : Int32) (y8 : Int32) (S : ZS), Tw Pw (self12 y0 y1 y2 y3 y4 y5 y6 y7 y8 S) (zt S) (zu S) (fun C T => self12g y0 y1 y2 y3 y4 y5 y6 y7 y8 S C T)) {x0 : Nat} {x1 : Nat} {x2 : Int32} {x3 : Int32} {x4 : Nat} {x5 : Int32} {x7 : Int32} {x8 : Int32} {S : ZS} : Tw Pw (d_X9_putApart_89 self12 x0 x1 x2 x3 x4 x5 x7 x8 S) (zt S) (zu S) (fun C T => g_X9_putApart_89 Pw self12g x0 x1 x2 x3 x4 x5 x7 x8 S C T) := by
  unfold d_X9_putApart_89 g_X9_putApart_89
  exact tw_at (⟨rfl, rfl⟩ : zt S = zt S ∧ zu S = zu S) (tt_X9_putApart_94 hself12)
def d_X9_putApart_12s (self12 : Nat → Nat → Int32 → Int32 → Nat → Int32 → Int32 → Int32 → Int32 → ZS → Option (Int32 × ZS)) (x0 : Nat) (x1 : Nat) (x2 : Int32) (x3 : Int32) (x4 : Nat) (x5 : Int32) (x6 : Int32) (x7 : Int32) (x8 : Int32) (S : ZS) : Option (Int32 × ZS) :=
  m_if ((64 : Int32) ≤ x8) (
  m_if (x5 = 0) (
  d_X9_putApart_148 x2 x4 x6 S
  ) (
  m_if (x6 = 0) (
  d_X9_putApart_139 x2 x4 x6 S
  ) (
  m_if (x7 = 0) (
  d_X9_putApart_148 x2 x4 x6 S
  ) (
  d_X9_putApart_139 x2 x4 x6 S
  )
  )
  )
  ) (
  m_if (x8 = x2) (
  d_X9_putApart_118 self12 x0 x1 x2 x3 x4 x5 x6 x7 x8 S
  ) (
  m_chk (zK S x1 = 0) (
  m_cal (zP S 0 x1) (fun b1 =>
  m_chk (zK S b1 = 14) (
  m_chk (¬ (x8 < 0 ∨ zN S b1 ≤ (x8).toNatClampNeg)) (
  m_bnd (zA S b1 (x8).toNatClampNeg) (fun v2 =>
  m_chk (zK S x1 = 0) (
  m_cal (zP S 0 x1) (fun b3 =>
  m_chk (zK S b3 = 14) (
  m_chk (¬ (x2 < 0 ∨ zN S b3 ≤ (x2).toNatClampNeg)) (
  m_bnd (zA S b3 (x2).toNatClampNeg) (fun v4 =>
  m_if (v2 = v4) (
  m_chk (zK S x1 = 0) (
  m_cal (f_X0_reaches x1 x8 x3 S) (fun o5 => m_chk (zt o5.2 = zt S ∧ zu o5.2 = zu S) (
  m_if (o5.1 = 0) (
  d_X9_putApart_118 self12 x0 x1 x2 x3 x4 x5 x6 x7 x8 o5.2
  ) (
  m_chk (zK o5.2 x0 = 9) (
  m_cal (zP o5.2 0 x0) (fun b6 =>
  m_bnd ((64 : Int32) * x3) (fun v7 =>
  m_bnd (x8 + v7) (fun v8 =>
  m_chk (zK o5.2 b6 = 7) (
  m_cal (f_X7_isSafe b6 x1 v8 o5.2) (fun o9 => m_chk (zt o9.2 = zt o5.2 ∧ zu o9.2 = zu o5.2) (
  m_if (o9.1 = 0) (
  d_X9_putApart_118 self12 x0 x1 x2 x3 x4 x5 x6 x7 x8 o9.2
  ) (
  m_if (x6 = 0) (
  m_bnd (x8 &&& (7 : Int32)) (fun v10 =>
  m_bnd (x2 &&& (7 : Int32)) (fun v11 =>
  m_if (v10 = v11) (
  d_X9_putApart_89 self12 x0 x1 x2 x3 x4 (1 : Int32) x7 x8 o9.2
  ) (
  d_X9_putApart_94 self12 x0 x1 x2 x3 x4 (1 : Int32) x7 x8 (0 : Int32) o9.2
  )))
  ) (
  d_X9_putApart_89 self12 x0 x1 x2 x3 x4 (1 : Int32) x7 x8 o9.2
  )
  ))))))))
  ))))
  ) (
  d_X9_putApart_118 self12 x0 x1 x2 x3 x4 x5 x6 x7 x8 S
  )))))))))))
  )
  )
theorem tt_X9_putApart_12s {Pw : Int32 → ZS → Prop} {self12 : Nat → Nat → Int32 → Int32 → Nat → Int32 → Int32 → Int32 → Int32 → ZS → Option (Int32 × ZS)} {self12g : Nat → Nat → Int32 → Int32 → Nat → Int32 → Int32 → Int32 → Int32 → ZS → Nat → Nat → Prop} (hself12 : ∀ (y0 : Nat) (y1 : Nat) (y2 : Int32) (y3 : Int32) (y4 : Nat) (y5 : Int32) (y6 : Int32) (y7 : Int32) (y8 : Int32) (S : ZS), Tw Pw (self12 y0 y1 y2 y3 y4 y5 y6 y7 y8 S) (zt S) (zu S) (fun C T => self12g y0 y1 y2 y3 y4 y5 y6 y7 y8 S C T)) {x0 : Nat} {x1 : Nat} {x2 : Int32} {x3 : Int32} {x4 : Nat} {x5 : Int32} {x6 : Int32} {x7 : Int32} {x8 : Int32} {S : ZS} : Tw Pw (d_X9_putApart_12s self12 x0 x1 x2 x3 x4 x5 x6 x7 x8 S) (zt S) (zu S) (fun C T => g_X9_putApart_12s Pw self12g x0 x1 x2 x3 x4 x5 x6 x7 x8 S C T) := by
  unfold d_X9_putApart_12s g_X9_putApart_12s
  refine tw_if (fun _ => ?_) (fun _ => ?_)
  ·
    refine tw_if (fun _ => ?_) (fun _ => ?_)
    ·
      exact tw_at (⟨rfl, rfl⟩ : zt S = zt S ∧ zu S = zu S) (tt_X9_putApart_148)
    ·
      refine tw_if (fun _ => ?_) (fun _ => ?_)
      ·
        exact tw_at (⟨rfl, rfl⟩ : zt S = zt S ∧ zu S = zu S) (tt_X9_putApart_139)
      ·
        refine tw_if (fun _ => ?_) (fun _ => ?_)
        ·
          exact tw_at (⟨rfl, rfl⟩ : zt S = zt S ∧ zu S = zu S) (tt_X9_putApart_148)
        ·
          exact tw_at (⟨rfl, rfl⟩ : zt S = zt S ∧ zu S = zu S) (tt_X9_putApart_139)
  ·
    refine tw_if (fun _ => ?_) (fun _ => ?_)
    ·
      exact tw_at (⟨rfl, rfl⟩ : zt S = zt S ∧ zu S = zu S) (tt_X9_putApart_118 hself12)
    ·
      refine tw_chk (fun _ => ?_)
      refine tw_calv (fun b1 => ?_)
      refine tw_chk (fun _ => ?_)
      refine tw_chk (fun _ => ?_)
      refine tw_bndv (fun v2 => ?_)
      refine tw_chk (fun _ => ?_)
      refine tw_calv (fun b3 => ?_)
      refine tw_chk (fun _ => ?_)
      refine tw_chk (fun _ => ?_)
      refine tw_bndv (fun v4 => ?_)
      refine tw_if (fun _ => ?_) (fun _ => ?_)
      ·
        refine tw_chk (fun _ => ?_)
        refine tw_calf (⟨rfl, rfl⟩ : zt S = zt S ∧ zu S = zu S) (fun o5 co5 => ?_)
        refine tw_if (fun _ => ?_) (fun _ => ?_)
        ·
          exact tw_at co5 (tt_X9_putApart_118 hself12)
        ·
          refine tw_chk (fun _ => ?_)
          refine tw_calv (fun b6 => ?_)
          refine tw_bndv (fun v7 => ?_)
          refine tw_bndv (fun v8 => ?_)
          refine tw_chk (fun _ => ?_)
          refine tw_calf co5 (fun o9 co9 => ?_)
          refine tw_if (fun _ => ?_) (fun _ => ?_)
          ·
            exact tw_at co9 (tt_X9_putApart_118 hself12)
          ·
            refine tw_if (fun _ => ?_) (fun _ => ?_)
            ·
              refine tw_bndv (fun v10 => ?_)
              refine tw_bndv (fun v11 => ?_)
              refine tw_if (fun _ => ?_) (fun _ => ?_)
              ·
                exact tw_at co9 (tt_X9_putApart_89 hself12)
              ·
                exact tw_at co9 (tt_X9_putApart_94 hself12)
            ·
              exact tw_at co9 (tt_X9_putApart_89 hself12)
      ·
        exact tw_at (⟨rfl, rfl⟩ : zt S = zt S ∧ zu S = zu S) (tt_X9_putApart_118 hself12)
def d_X9_putApart_12  : Nat → Nat → Nat → Int32 → Int32 → Nat → Int32 → Int32 → Int32 → Int32 → ZS → Option (Int32 × ZS)
  | 0 => fun _ _ _ _ _ _ _ _ _ _ => none
  | n + 1 => d_X9_putApart_12s  (d_X9_putApart_12  n)
theorem tt_X9_putApart_12 {Pw : Int32 → ZS → Prop}   {n : Nat} : ∀ {z0 : Nat} {z1 : Nat} {z2 : Int32} {z3 : Int32} {z4 : Nat} {z5 : Int32} {z6 : Int32} {z7 : Int32} {z8 : Int32} {S : ZS}, Tw Pw (d_X9_putApart_12  n z0 z1 z2 z3 z4 z5 z6 z7 z8 S) (zt S) (zu S) (fun C T => g_X9_putApart_12 Pw  n z0 z1 z2 z3 z4 z5 z6 z7 z8 S C T) := by
  induction n with
  | zero => intro z0 z1 z2 z3 z4 z5 z6 z7 z8 S; exact tw_none
  | succ n ih => intro z0 z1 z2 z3 z4 z5 z6 z7 z8 S; exact tt_X9_putApart_12s  (fun _ _ _ _ _ _ _ _ _ _ => ih)
def d_X9_putApart_0 (x0 : Nat) (x1 : Nat) (x2 : Int32) (x3 : Int32) (x4 : Nat) (S : ZS) : Option (Int32 × ZS) :=
  d_X9_putApart_12 mFuel x0 x1 x2 x3 x4 (0 : Int32) (0 : Int32) (0 : Int32) (0 : Int32) S
theorem tt_X9_putApart_0 {Pw : Int32 → ZS → Prop}   {x0 : Nat} {x1 : Nat} {x2 : Int32} {x3 : Int32} {x4 : Nat} {S : ZS} : Tw Pw (d_X9_putApart_0 x0 x1 x2 x3 x4 S) (zt S) (zu S) (fun C T => g_X9_putApart_0 Pw x0 x1 x2 x3 x4 S C T) := by
  unfold d_X9_putApart_0 g_X9_putApart_0
  exact tw_at (⟨rfl, rfl⟩ : zt S = zt S ∧ zu S = zu S) (tt_X9_putApart_12)
def d_X9_putApart (x0 : Nat) (x1 : Nat) (x2 : Int32) (x3 : Int32) (x4 : Nat) (S : ZS) : Option (Int32 × ZS) := d_X9_putApart_0 x0 x1 x2 x3 x4 S
theorem tt_X9_putApart {Pw : Int32 → ZS → Prop} {x0 : Nat} {x1 : Nat} {x2 : Int32} {x3 : Int32} {x4 : Nat} {S : ZS} : Tw Pw (d_X9_putApart x0 x1 x2 x3 x4 S) (zt S) (zu S) (fun C T => g_X9_putApart x0 x1 x2 x3 x4 S C T Pw) := tt_X9_putApart_0
def d_X9_putSigns_182 (S : ZS) : Option (Int32 × ZS) :=
  some (0, S)
theorem tt_X9_putSigns_182 {Pw : Int32 → ZS → Prop}   {S : ZS} : Tw Pw (d_X9_putSigns_182 S) (zt S) (zu S) (fun C T => g_X9_putSigns_182 Pw S C T) := by
  unfold d_X9_putSigns_182 g_X9_putSigns_182
  exact tw_ret (⟨rfl, rfl⟩ : zt S = zt S ∧ zu S = zu S)
def d_X9_putSigns_160 (x0 : Nat) (x1 : Nat) (x2 : Int32) (x3 : Nat) (S : ZS) : Option (Int32 × ZS) :=
  m_chk (zK S x0 = 9) (
  m_cal (zP S 0 x0) (fun b1 =>
  m_chk (zK S b1 = 7) (
  m_cal (f_X7_checkSign b1 x1 x2 S) (fun o2 => m_chk (zt o2.2 = zt S ∧ zu o2.2 = zu S) (
  m_if (o2.1 = 0) (
  d_X9_putSigns_182 o2.2
  ) (
  m_chk (zK o2.2 x3 = 6) (
  m_cal2 (d_X6_put x3 o2.1 o2.2) (fun r4 S5 =>
  d_X9_putSigns_182 S5))
  ))))))
theorem tt_X9_putSigns_160 {Pw : Int32 → ZS → Prop}   {x0 : Nat} {x1 : Nat} {x2 : Int32} {x3 : Nat} {S : ZS} : Tw Pw (d_X9_putSigns_160 x0 x1 x2 x3 S) (zt S) (zu S) (fun C T => g_X9_putSigns_160 Pw x0 x1 x2 x3 S C T) := by
  unfold d_X9_putSigns_160 g_X9_putSigns_160
  refine tw_chk (fun _ => ?_)
  refine tw_calv (fun b1 => ?_)
  refine tw_chk (fun _ => ?_)
  refine tw_calf (⟨rfl, rfl⟩ : zt S = zt S ∧ zu S = zu S) (fun o2 co2 => ?_)
  refine tw_if (fun _ => ?_) (fun _ => ?_)
  ·
    exact tw_at co2 (tt_X9_putSigns_182)
  ·
    refine tw_chk (fun _ => ?_)
    refine tw_gal (fun Pw9 => tw_at co2 tt_X6_put) (fun r4 S5 => ?_)
    exact tw_at (⟨rfl, rfl⟩ : zt S5 = zt S5 ∧ zu S5 = zu S5) (tt_X9_putSigns_182)
def d_X9_putSigns_136 (x0 : Nat) (x1 : Nat) (x2 : Int32) (x3 : Nat) (S : ZS) : Option (Int32 × ZS) :=
  m_if (x2 < (4096 : Int32)) (
  d_X9_putSigns_160 x0 x1 x2 x3 S
  ) (
  m_chk (zK S x3 = 6) (
  m_cal2 (d_X6_put x3 (61 : Int32) S) (fun r2 S3 =>
  m_bnd (x2 >>> ((12 : Int32) &&& 31)) (fun v6 =>
  m_cal (f_X11_letterOf v6 S3) (fun o7 => m_chk (zt o7.2 = zt S3 ∧ zu o7.2 = zu S3) (
  m_chk (zK o7.2 x3 = 6) (
  m_cal2 (d_X6_put x3 o7.1 o7.2) (fun r9 S10 =>
  d_X9_putSigns_160 x0 x1 x2 x3 S10)))))))
  )
theorem tt_X9_putSigns_136 {Pw : Int32 → ZS → Prop}   {x0 : Nat} {x1 : Nat} {x2 : Int32} {x3 : Nat} {S : ZS} : Tw Pw (d_X9_putSigns_136 x0 x1 x2 x3 S) (zt S) (zu S) (fun C T => g_X9_putSigns_136 Pw x0 x1 x2 x3 S C T) := by
  unfold d_X9_putSigns_136 g_X9_putSigns_136
  refine tw_if (fun _ => ?_) (fun _ => ?_)
  ·
    exact tw_at (⟨rfl, rfl⟩ : zt S = zt S ∧ zu S = zu S) (tt_X9_putSigns_160)
  ·
    refine tw_chk (fun _ => ?_)
    refine tw_gal (fun Pw9 => tw_at (⟨rfl, rfl⟩ : zt S = zt S ∧ zu S = zu S) tt_X6_put) (fun r2 S3 => ?_)
    refine tw_bndv (fun v6 => ?_)
    refine tw_calf (⟨rfl, rfl⟩ : zt S3 = zt S3 ∧ zu S3 = zu S3) (fun o7 co7 => ?_)
    refine tw_chk (fun _ => ?_)
    refine tw_gal (fun Pw9 => tw_at co7 tt_X6_put) (fun r9 S10 => ?_)
    exact tw_at (⟨rfl, rfl⟩ : zt S10 = zt S10 ∧ zu S10 = zu S10) (tt_X9_putSigns_160)
def d_X9_putSigns_118 (x0 : Nat) (x1 : Nat) (x2 : Int32) (x3 : Nat) (x5 : Int32) (S : ZS) : Option (Int32 × ZS) :=
  m_cal (f_X11_fileLetter x5 S) (fun o1 => m_chk (zt o1.2 = zt S ∧ zu o1.2 = zu S) (
  m_chk (zK o1.2 x3 = 6) (
  m_cal2 (d_X6_put x3 o1.1 o1.2) (fun r3 S4 =>
  m_cal (f_X11_rankDigit x5 S4) (fun o7 => m_chk (zt o7.2 = zt S4 ∧ zu o7.2 = zu S4) (
  m_chk (zK o7.2 x3 = 6) (
  m_cal2 (d_X6_put x3 o7.1 o7.2) (fun r9 S10 =>
  d_X9_putSigns_136 x0 x1 x2 x3 S10))))))))
theorem tt_X9_putSigns_118 {Pw : Int32 → ZS → Prop}   {x0 : Nat} {x1 : Nat} {x2 : Int32} {x3 : Nat} {x5 : Int32} {S : ZS} : Tw Pw (d_X9_putSigns_118 x0 x1 x2 x3 x5 S) (zt S) (zu S) (fun C T => g_X9_putSigns_118 Pw x0 x1 x2 x3 x5 S C T) := by
  unfold d_X9_putSigns_118 g_X9_putSigns_118
  refine tw_calf (⟨rfl, rfl⟩ : zt S = zt S ∧ zu S = zu S) (fun o1 co1 => ?_)
  refine tw_chk (fun _ => ?_)
  refine tw_gal (fun Pw9 => tw_at co1 tt_X6_put) (fun r3 S4 => ?_)
  refine tw_calf (⟨rfl, rfl⟩ : zt S4 = zt S4 ∧ zu S4 = zu S4) (fun o7 co7 => ?_)
  refine tw_chk (fun _ => ?_)
  refine tw_gal (fun Pw9 => tw_at co7 tt_X6_put) (fun r9 S10 => ?_)
  exact tw_at (⟨rfl, rfl⟩ : zt S10 = zt S10 ∧ zu S10 = zu S10) (tt_X9_putSigns_136)
def d_X9_putSigns_107 (x0 : Nat) (x1 : Nat) (x2 : Int32) (x3 : Nat) (x5 : Int32) (x6 : Int32) (S : ZS) : Option (Int32 × ZS) :=
  m_if (x6 = 0) (
  d_X9_putSigns_118 x0 x1 x2 x3 x5 S
  ) (
  m_chk (zK S x3 = 6) (
  m_cal2 (d_X6_put x3 (120 : Int32) S) (fun r2 S3 =>
  d_X9_putSigns_118 x0 x1 x2 x3 x5 S3))
  )
theorem tt_X9_putSigns_107 {Pw : Int32 → ZS → Prop}   {x0 : Nat} {x1 : Nat} {x2 : Int32} {x3 : Nat} {x5 : Int32} {x6 : Int32} {S : ZS} : Tw Pw (d_X9_putSigns_107 x0 x1 x2 x3 x5 x6 S) (zt S) (zu S) (fun C T => g_X9_putSigns_107 Pw x0 x1 x2 x3 x5 x6 S C T) := by
  unfold d_X9_putSigns_107 g_X9_putSigns_107
  refine tw_if (fun _ => ?_) (fun _ => ?_)
  ·
    exact tw_at (⟨rfl, rfl⟩ : zt S = zt S ∧ zu S = zu S) (tt_X9_putSigns_118)
  ·
    refine tw_chk (fun _ => ?_)
    refine tw_gal (fun Pw9 => tw_at (⟨rfl, rfl⟩ : zt S = zt S ∧ zu S = zu S) tt_X6_put) (fun r2 S3 => ?_)
    exact tw_at (⟨rfl, rfl⟩ : zt S3 = zt S3 ∧ zu S3 = zu S3) (tt_X9_putSigns_118)
def d_X9_putSigns_41 (x0 : Nat) (x1 : Nat) (x2 : Int32) (x3 : Nat) (t0 : Nat) (t1 : Nat) (S : ZS) : Option (Int32 × ZS) :=
  m_chk (zK S t1 = 6) (
  m_cal2 (d_X6_putText t1 t0 S) (fun r2 S3 =>
  d_X9_putSigns_136 x0 x1 x2 x3 S3))
theorem tt_X9_putSigns_41 {Pw : Int32 → ZS → Prop}   {x0 : Nat} {x1 : Nat} {x2 : Int32} {x3 : Nat} {t0 : Nat} {t1 : Nat} {S : ZS} : Tw Pw (d_X9_putSigns_41 x0 x1 x2 x3 t0 t1 S) (zt S) (zu S) (fun C T => g_X9_putSigns_41 Pw x0 x1 x2 x3 t0 t1 S C T) := by
  unfold d_X9_putSigns_41 g_X9_putSigns_41
  refine tw_chk (fun _ => ?_)
  refine tw_gal (fun Pw9 => tw_at (⟨rfl, rfl⟩ : zt S = zt S ∧ zu S = zu S) tt_X6_putText) (fun r2 S3 => ?_)
  exact tw_at (⟨rfl, rfl⟩ : zt S3 = zt S3 ∧ zu S3 = zu S3) (tt_X9_putSigns_136)
def d_X9_putSigns_0 (x0 : Nat) (x1 : Nat) (x2 : Int32) (x3 : Nat) (S : ZS) : Option (Int32 × ZS) :=
  m_bnd (x2 &&& (63 : Int32)) (fun v1 =>
  m_bnd (x2 >>> ((6 : Int32) &&& 31)) (fun v2 =>
  m_bnd (v2 &&& (63 : Int32)) (fun v3 =>
  m_chk (zK S x1 = 0) (
  m_cal (f_X0_castles x1 v1 v3 S) (fun o4 => m_chk (zt o4.2 = zt S ∧ zu o4.2 = zu S) (
  m_if (o4.1 = 0) (
  m_chk (zK o4.2 x1 = 0) (
  m_cal (f_X0_takes x1 v1 v3 o4.2) (fun o5 => m_chk (zt o5.2 = zt o4.2 ∧ zu o5.2 = zu o4.2) (
  m_chk (zK o5.2 x1 = 0) (
  m_cal (f_X0_kindAt x1 v1 o5.2) (fun o6 => m_chk (zt o6.2 = zt o5.2 ∧ zu o6.2 = zu o5.2) (
  m_if (o6.1 = (1 : Int32)) (
  m_if (o5.1 = 0) (
  d_X9_putSigns_107 x0 x1 x2 x3 v3 o5.1 o6.2
  ) (
  m_cal (f_X11_fileLetter v1 o6.2) (fun o7 => m_chk (zt o7.2 = zt o6.2 ∧ zu o7.2 = zu o6.2) (
  m_chk (zK o7.2 x3 = 6) (
  m_cal2 (d_X6_put x3 o7.1 o7.2) (fun r9 S10 =>
  d_X9_putSigns_107 x0 x1 x2 x3 v3 o5.1 S10))))
  )
  ) (
  m_chk (zK o6.2 x1 = 0) (
  m_cal (f_X0_kindAt x1 v1 o6.2) (fun o13 => m_chk (zt o13.2 = zt o6.2 ∧ zu o13.2 = zu o6.2) (
  m_cal (f_X11_letterOf o13.1 o13.2) (fun o14 => m_chk (zt o14.2 = zt o13.2 ∧ zu o14.2 = zu o13.2) (
  m_chk (zK o14.2 x3 = 6) (
  m_cal2 (d_X6_put x3 o14.1 o14.2) (fun r16 S17 =>
  m_chk (zK S17 x0 = 9) (
  m_cal2 (d_X9_putApart x0 x1 v1 v3 x3 S17) (fun r21 S22 =>
  d_X9_putSigns_107 x0 x1 x2 x3 v3 o5.1 S22)))))))))
  )))))))
  ) (
  m_if (v3 ≤ v1) (
  d_X9_putSigns_41 x0 x1 x2 x3 8 x3 o4.2
  ) (
  d_X9_putSigns_41 x0 x1 x2 x3 7 x3 o4.2
  )
  )))))))
theorem tt_X9_putSigns_0 {Pw : Int32 → ZS → Prop}   {x0 : Nat} {x1 : Nat} {x2 : Int32} {x3 : Nat} {S : ZS} : Tw Pw (d_X9_putSigns_0 x0 x1 x2 x3 S) (zt S) (zu S) (fun C T => g_X9_putSigns_0 Pw x0 x1 x2 x3 S C T) := by
  unfold d_X9_putSigns_0 g_X9_putSigns_0
  refine tw_bndv (fun v1 => ?_)
  refine tw_bndv (fun v2 => ?_)
  refine tw_bndv (fun v3 => ?_)
  refine tw_chk (fun _ => ?_)
  refine tw_calf (⟨rfl, rfl⟩ : zt S = zt S ∧ zu S = zu S) (fun o4 co4 => ?_)
  refine tw_if (fun _ => ?_) (fun _ => ?_)
  ·
    refine tw_chk (fun _ => ?_)
    refine tw_calf co4 (fun o5 co5 => ?_)
    refine tw_chk (fun _ => ?_)
    refine tw_calf co5 (fun o6 co6 => ?_)
    refine tw_if (fun _ => ?_) (fun _ => ?_)
    ·
      refine tw_if (fun _ => ?_) (fun _ => ?_)
      ·
        exact tw_at co6 (tt_X9_putSigns_107)
      ·
        refine tw_calf co6 (fun o7 co7 => ?_)
        refine tw_chk (fun _ => ?_)
        refine tw_gal (fun Pw9 => tw_at co7 tt_X6_put) (fun r9 S10 => ?_)
        exact tw_at (⟨rfl, rfl⟩ : zt S10 = zt S10 ∧ zu S10 = zu S10) (tt_X9_putSigns_107)
    ·
      refine tw_chk (fun _ => ?_)
      refine tw_calf co6 (fun o13 co13 => ?_)
      refine tw_calf co13 (fun o14 co14 => ?_)
      refine tw_chk (fun _ => ?_)
      refine tw_gal (fun Pw9 => tw_at co14 tt_X6_put) (fun r16 S17 => ?_)
      refine tw_chk (fun _ => ?_)
      refine tw_gal (fun Pw9 => tw_at (⟨rfl, rfl⟩ : zt S17 = zt S17 ∧ zu S17 = zu S17) tt_X9_putApart) (fun r21 S22 => ?_)
      exact tw_at (⟨rfl, rfl⟩ : zt S22 = zt S22 ∧ zu S22 = zu S22) (tt_X9_putSigns_107)
  ·
    refine tw_if (fun _ => ?_) (fun _ => ?_)
    ·
      exact tw_at co4 (tt_X9_putSigns_41)
    ·
      exact tw_at co4 (tt_X9_putSigns_41)
