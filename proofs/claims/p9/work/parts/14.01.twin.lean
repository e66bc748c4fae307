def d_X0_init_0 (x0 : Nat) (S : ZS) : Option (Int32 × ZS) :=
  m_chk (¬ (64 : Int32) < 0 ∧ ((64 : Int32)).toNatClampNeg * componentBytes .int ≤ 536870912) (
  m_bnd (zt S) (fun q1 =>
  m_bnd (zsNewA S q1 14 ((64 : Int32)).toNatClampNeg) (fun S2 =>
  m_chk (zK S2 x0 = 0) (
  m_bnd (zsP S2 0 x0 (some q1)) (fun S5 =>
  m_chk (zK S5 x0 = 0) (
  m_bnd (zsI S5 1 x0 (4 : Int32)) (fun S6 =>
  m_chk (zK S6 x0 = 0) (
  m_bnd (zsI S6 2 x0 (60 : Int32)) (fun S7 =>
  m_chk (zK S7 x0 = 0) (
  m_bnd (zsI S7 3 x0 (0 : Int32)) (fun S8 =>
  m_chk (zK S8 x0 = 0) (
  m_bnd (zsI S8 4 x0 (0 : Int32)) (fun S9 =>
  m_chk (zK S9 x0 = 0) (
  m_bnd (zsI S9 5 x0 (-1 : Int32)) (fun S10 =>
  m_chk (zK S10 x0 = 0) (
  m_bnd (zsI S10 6 x0 (1 : Int32)) (fun S11 =>
  some (0, S11))))))))))))))))))
theorem tt_X0_init_0 {Pw : Int32 → ZS → Prop}   {x0 : Nat} {S : ZS} : Tw Pw (d_X0_init_0 x0 S) (zt S) (zu S) (fun C T => g_X0_init_0 Pw x0 S C T) := by
  unfold d_X0_init_0 g_X0_init_0
  refine tw_chk (fun _ => ?_)
  refine tw_new (fun _ => ⟨congrArg (· + 1) (⟨rfl, rfl⟩ : zt S = zt S ∧ zu S = zu S).1, congrArg (· + _) (⟨rfl, rfl⟩ : zt S = zt S ∧ zu S = zu S).2⟩) (fun q1 S2 cS2 => ?_)
  refine tw_chk (fun _ => ?_)
  refine tw_bnds cS2 (fun S5 cS5 => ?_)
  refine tw_chk (fun _ => ?_)
  refine tw_bnds cS5 (fun S6 cS6 => ?_)
  refine tw_chk (fun _ => ?_)
  refine tw_bnds cS6 (fun S7 cS7 => ?_)
  refine tw_chk (fun _ => ?_)
  refine tw_bnds cS7 (fun S8 cS8 => ?_)
  refine tw_chk (fun _ => ?_)
  refine tw_bnds cS8 (fun S9 cS9 => ?_)
  refine tw_chk (fun _ => ?_)
  refine tw_bnds cS9 (fun S10 cS10 => ?_)
  refine tw_chk (fun _ => ?_)
  refine tw_bnds cS10 (fun S11 cS11 => ?_)
  exact tw_ret cS11
def d_X0_init (x0 : Nat) (S : ZS) : Option (Int32 × ZS) := d_X0_init_0 x0 S
theorem tt_X0_init {Pw : Int32 → ZS → Prop} {x0 : Nat} {S : ZS} : Tw Pw (d_X0_init x0 S) (zt S) (zu S) (fun C T => g_X0_init x0 S C T Pw) := tt_X0_init_0
def d_X4_init_0 (x0 : Nat) (S : ZS) : Option (Int32 × ZS) :=
  m_chk (zK S x0 = 4) (
  m_bnd (zsI S 0 x0 (-1 : Int32)) (fun S1 =>
  m_chk (zK S1 x0 = 4) (
  m_bnd (zsI S1 1 x0 (-1 : Int32)) (fun S2 =>
  m_chk (zK S2 x0 = 4) (
  m_bnd (zsI S2 2 x0 (-1 : Int32)) (fun S3 =>
  m_chk (zK S3 x0 = 4) (
  m_bnd (zsI S3 3 x0 (-1 : Int32)) (fun S4 =>
  m_chk (zK S4 x0 = 4) (
  m_bnd (zsI S4 4 x0 (0 : Int32)) (fun S5 =>
  m_chk (zK S5 x0 = 4) (
  m_bnd (zsI S5 5 x0 (0 : Int32)) (fun S6 =>
  m_bnd (zt S6) (fun q7 =>
  m_bnd (zsNewO S6 q7 6 2) (fun S8 =>
  m_cal (f_X6_init q7 S8) (fun o11 => m_chk (zt o11.2 = zt S8 ∧ zu o11.2 = zu S8) (
  m_chk (zK o11.2 x0 = 4) (
  m_bnd (zsP o11.2 6 x0 (some q7)) (fun S12 =>
  some (0, S12)))))))))))))))))))
theorem tt_X4_init_0 {Pw : Int32 → ZS → Prop}   {x0 : Nat} {S : ZS} : Tw Pw (d_X4_init_0 x0 S) (zt S) (zu S) (fun C T => g_X4_init_0 Pw x0 S C T) := by
  unfold d_X4_init_0 g_X4_init_0
  refine tw_chk (fun _ => ?_)
  refine tw_bnds (⟨rfl, rfl⟩ : zt S = zt S ∧ zu S = zu S) (fun S1 cS1 => ?_)
  refine tw_chk (fun _ => ?_)
  refine tw_bnds cS1 (fun S2 cS2 => ?_)
  refine tw_chk (fun _ => ?_)
  refine tw_bnds cS2 (fun S3 cS3 => ?_)
  refine tw_chk (fun _ => ?_)
  refine tw_bnds cS3 (fun S4 cS4 => ?_)
  refine tw_chk (fun _ => ?_)
  refine tw_bnds cS4 (fun S5 cS5 => ?_)
  refine tw_chk (fun _ => ?_)
  refine tw_bnds cS5 (fun S6 cS6 => ?_)
  refine tw_new (fun _ => ⟨congrArg (· + 1) cS6.1, congrArg (· + _) cS6.2⟩) (fun q7 S8 cS8 => ?_)
  refine tw_calf cS8 (fun o11 co11 => ?_)
  refine tw_chk (fun _ => ?_)
  refine tw_bnds co11 (fun S12 cS12 => ?_)
  exact tw_ret cS12
def d_X4_init (x0 : Nat) (S : ZS) : Option (Int32 × ZS) := d_X4_init_0 x0 S
theorem tt_X4_init {Pw : Int32 → ZS → Prop} {x0 : Nat} {S : ZS} : Tw Pw (d_X4_init x0 S) (zt S) (zu S) (fun C T => g_X4_init x0 S C T Pw) := tt_X4_init_0
def d_X1_init_0 (x0 : Nat) (S : ZS) : Option (Int32 × ZS) :=
  m_bnd (zt S) (fun q1 =>
  m_bnd (zsNewO S q1 0 7) (fun S2 =>
  m_cal2 (d_X0_init q1 S2) (fun r6 S7 =>
  m_chk (zK S7 x0 = 1) (
  m_bnd (zsP S7 0 x0 (some q1)) (fun S10 =>
  m_bnd (zt S10) (fun q11 =>
  m_bnd (zsNewO S10 q11 4 7) (fun S12 =>
  m_cal2 (d_X4_init q11 S12) (fun r16 S17 =>
  m_chk (zK S17 x0 = 1) (
  m_bnd (zsP S17 1 x0 (some q11)) (fun S20 =>
  m_chk (¬ (301 : Int32) < 0 ∧ ((301 : Int32)).toNatClampNeg * 4 ≤ 536870912) (
  m_bnd (zt S20) (fun q21 =>
  m_bnd (zsNewA S20 q21 16 ((301 : Int32)).toNatClampNeg) (fun S22 =>
  m_chk (zK S22 x0 = 1) (
  m_bnd (zsP S22 2 x0 (some q21)) (fun S25 =>
  m_chk (zK S25 x0 = 1) (
  m_bnd (zsI S25 3 x0 (0 : Int32)) (fun S26 =>
  m_chk (¬ (8 : Int32) < 0 ∧ ((8 : Int32)).toNatClampNeg * 4 ≤ 536870912) (
  m_bnd (zt S26) (fun q27 =>
  m_bnd (zsNewA S26 q27 17 ((8 : Int32)).toNatClampNeg) (fun S28 =>
  m_chk (zK S28 x0 = 1) (
  m_bnd (zsP S28 4 x0 (some q27)) (fun S31 =>
  m_chk (zK S31 x0 = 1) (
  m_bnd (zsI S31 5 x0 (0 : Int32)) (fun S32 =>
  m_chk (zK S32 x0 = 1) (
  m_bnd (zsI S32 6 x0 (0 : Int32)) (fun S33 =>
  m_chk (¬ (301 : Int32) < 0 ∧ ((301 : Int32)).toNatClampNeg * componentBytes .int ≤ 536870912) (
  m_bnd (zt S33) (fun q34 =>
  m_bnd (zsNewA S33 q34 14 ((301 : Int32)).toNatClampNeg) (fun S35 =>
  m_chk (zK S35 x0 = 1) (
  m_bnd (zsP S35 7 x0 (some q34)) (fun S38 =>
  m_chk (zK S38 x0 = 1) (
  m_cal (zP S38 0 x0) (fun b39 =>
  m_chk (zK S38 b39 = 0) (
  m_cal (f_X0_setUp b39 S38) (fun o40 => m_chk (zt o40.2 = zt S38 ∧ zu o40.2 = zu S38) (
  some (0, o40.2)))))))))))))))))))))))))))))))))))))
theorem tt_X1_init_0 {Pw : Int32 → ZS → Prop}   {x0 : Nat} {S : ZS} : Tw Pw (d_X1_init_0 x0 S) (zt S) (zu S) (fun C T => g_X1_init_0 Pw x0 S C T) := by
  unfold d_X1_init_0 g_X1_init_0
  refine tw_new (fun _ => ⟨congrArg (· + 1) (⟨rfl, rfl⟩ : zt S = zt S ∧ zu S = zu S).1, congrArg (· + _) (⟨rfl, rfl⟩ : zt S = zt S ∧ zu S = zu S).2⟩) (fun q1 S2 cS2 => ?_)
  refine tw_gal (fun Pw9 => tw_at cS2 tt_X0_init) (fun r6 S7 => ?_)
  refine tw_chk (fun _ => ?_)
  refine tw_bnds (⟨rfl, rfl⟩ : zt S7 = zt S7 ∧ zu S7 = zu S7) (fun S10 cS10 => ?_)
  refine tw_new (fun _ => ⟨congrArg (· + 1) cS10.1, congrArg (· + _) cS10.2⟩) (fun q11 S12 cS12 => ?_)
  refine tw_gal (fun Pw9 => tw_at cS12 tt_X4_init) (fun r16 S17 => ?_)
  refine tw_chk (fun _ => ?_)
  refine tw_bnds (⟨rfl, rfl⟩ : zt S17 = zt S17 ∧ zu S17 = zu S17) (fun S20 cS20 => ?_)
  refine tw_chk (fun _ => ?_)
  refine tw_new (fun _ => ⟨congrArg (· + 1) cS20.1, congrArg (· + _) cS20.2⟩) (fun q21 S22 cS22 => ?_)
  refine tw_chk (fun _ => ?_)
  refine tw_bnds cS22 (fun S25 cS25 => ?_)
  refine tw_chk (fun _ => ?_)
  refine tw_bnds cS25 (fun S26 cS26 => ?_)
  refine tw_chk (fun _ => ?_)
  refine tw_new (fun _ => ⟨congrArg (· + 1) cS26.1, congrArg (· + _) cS26.2⟩) (fun q27 S28 cS28 => ?_)
  refine tw_chk (fun _ => ?_)
  refine tw_bnds cS28 (fun S31 cS31 => ?_)
  refine tw_chk (fun _ => ?_)
  refine tw_bnds cS31 (fun S32 cS32 => ?_)
  refine tw_chk (fun _ => ?_)
  refine tw_bnds cS32 (fun S33 cS33 => ?_)
  refine tw_chk (fun _ => ?_)
  refine tw_new (fun _ => ⟨congrArg (· + 1) cS33.1, congrArg (· + _) cS33.2⟩) (fun q34 S35 cS35 => ?_)
  refine tw_chk (fun _ => ?_)
  refine tw_bnds cS35 (fun S38 cS38 => ?_)
  refine tw_chk (fun _ => ?_)
  refine tw_calv (fun b39 => ?_)
  refine tw_chk (fun _ => ?_)
  refine tw_calf cS38 (fun o40 co40 => ?_)
  exact tw_ret co40
def d_X1_init (x0 : Nat) (S : ZS) : Option (Int32 × ZS) := d_X1_init_0 x0 S
theorem tt_X1_init {Pw : Int32 → ZS → Prop} {x0 : Nat} {S : ZS} : Tw Pw (d_X1_init x0 S) (zt S) (zu S) (fun C T => g_X1_init x0 S C T Pw) := tt_X1_init_0
def d_X1_grow_147 (x0 : Nat) (S : ZS) : Option (Int32 × ZS) :=
  m_chk (zK S x0 = 1) (
  some ((zI S 3 x0), S))
theorem tt_X1_grow_147 {Pw : Int32 → ZS → Prop}   {x0 : Nat} {S : ZS} : Tw Pw (d_X1_grow_147 x0 S) (zt S) (zu S) (fun C T => g_X1_grow_147 Pw x0 S C T) := by
  unfold d_X1_grow_147 g_X1_grow_147
  refine tw_chk (fun _ => ?_)
  exact tw_ret (⟨rfl, rfl⟩ : zt S = zt S ∧ zu S = zu S)
def d_X1_grow_102 (x0 : Nat) (x1 : Int32) (x2 : Int32) (x3 : Int32) (S : ZS) : Option (Int32 × ZS) :=
  m_chk (zK S x0 = 1) (
  m_chk (zK S x0 = 1) (
  m_cal (f_X1_at x0 (zI S 3 x0) S) (fun o1 => m_chk (zt o1.2 = zt S ∧ zu o1.2 = zu S) (
  m_chk (zK o1.2 o1.1 = 4) (
  m_cal (f_X4_become o1.1 x1 x2 o1.2) (fun o2 => m_chk (zt o2.2 = zt o1.2 ∧ zu o2.2 = zu o1.2) (
  m_if (x3 = (-1 : Int32)) (
  m_chk (zK o2.2 x0 = 1) (
  m_cal (f_X1_at x0 x1 o2.2) (fun o5 => m_chk (zt o5.2 = zt o2.2 ∧ zu o5.2 = zu o2.2) (
  m_chk (zK o5.2 x0 = 1) (
  m_chk (zK o5.2 o5.1 = 4) (
  m_bnd (zsI o5.2 2 o5.1 (zI o5.2 3 x0)) (fun S6 =>
  d_X1_grow_147 x0 S6))))))
  ) (
  m_chk (zK o2.2 x0 = 1) (
  m_cal (f_X1_at x0 x3 o2.2) (fun o3 => m_chk (zt o3.2 = zt o2.2 ∧ zu o3.2 = zu o2.2) (
  m_chk (zK o3.2 x0 = 1) (
  m_chk (zK o3.2 o3.1 = 4) (
  m_bnd (zsI o3.2 3 o3.1 (zI o3.2 3 x0)) (fun S4 =>
  d_X1_grow_147 x0 S4))))))
  ))))))))
theorem tt_X1_grow_102 {Pw : Int32 → ZS → Prop}   {x0 : Nat} {x1 : Int32} {x2 : Int32} {x3 : Int32} {S : ZS} : Tw Pw (d_X1_grow_102 x0 x1 x2 x3 S) (zt S) (zu S) (fun C T => g_X1_grow_102 Pw x0 x1 x2 x3 S C T) := by
  unfold d_X1_grow_102 g_X1_grow_102
  refine tw_chk (fun _ => ?_)
  refine tw_chk (fun _ => ?_)
  refine tw_calf (⟨rfl, rfl⟩ : zt S = zt S ∧ zu S = zu S) (fun o1 co1 => ?_)
  refine tw_chk (fun _ => ?_)
  refine tw_calf co1 (fun o2 co2 => ?_)
  refine tw_if (fun _ => ?_) (fun _ => ?_)
  ·
    refine tw_chk (fun _ => ?_)
    refine tw_calf co2 (fun o5 co5 => ?_)
    refine tw_chk (fun _ => ?_)
    refine tw_chk (fun _ => ?_)
    refine tw_bnds co5 (fun S6 cS6 => ?_)
    exact tw_at cS6 (tt_X1_grow_147)
  ·
    refine tw_chk (fun _ => ?_)
    refine tw_calf co2 (fun o3 co3 => ?_)
    refine tw_chk (fun _ => ?_)
    refine tw_chk (fun _ => ?_)
    refine tw_bnds co3 (fun S4 cS4 => ?_)
    exact tw_at cS4 (tt_X1_grow_147)
def d_X1_grow_64 (x0 : Nat) (x1 : Int32) (x2 : Int32) (x3 : Int32) (S : ZS) : Option (Int32 × ZS) :=
  m_chk (zK S x0 = 1) (
  m_bnd ((zI S 3 x0) + (1 : Int32)) (fun v1 =>
  m_chk (zK S x0 = 1) (
  m_bnd (zsI S 3 x0 v1) (fun S2 =>
  m_chk (zK S2 x0 = 1) (
  m_cal (zP S2 2 x0) (fun b3 =>
  m_chk (zK S2 x0 = 1) (
  m_chk (zK S2 b3 = 16) (
  m_chk (¬ ((zI S2 3 x0) < 0 ∨ zN S2 b3 ≤ ((zI S2 3 x0)).toNatClampNeg)) (
  m_bnd (zB S2 b3 ((zI S2 3 x0)).toNatClampNeg) (fun v4 =>
  m_opt v4 (
  m_chk (zK S2 x0 = 1) (
  m_cal (zP S2 2 x0) (fun b6 =>
  m_chk (zK S2 x0 = 1) (
  m_bnd (zt S2) (fun q7 =>
  m_bnd (zsNewO S2 q7 4 7) (fun S8 =>
  m_cal2 (d_X4_init q7 S8) (fun r12 S13 =>
  m_chk (zK S13 b6 = 16) (
  m_chk (zK S13 q7 = 4) (
  m_chk (¬ ((zI S2 3 x0) < 0 ∨ zN S13 b6 ≤ ((zI S2 3 x0)).toNatClampNeg)) (
  m_bnd (zsB S13 b6 ((zI S2 3 x0)).toNatClampNeg (some q7)) (fun S16 =>
  d_X1_grow_102 x0 x1 x2 x3 S16))))))))))) (fun b5 =>
  d_X1_grow_102 x0 x1 x2 x3 S2)))))))))))
theorem tt_X1_grow_64 {Pw : Int32 → ZS → Prop}   {x0 : Nat} {x1 : Int32} {x2 : Int32} {x3 : Int32} {S : ZS} : Tw Pw (d_X1_grow_64 x0 x1 x2 x3 S) (zt S) (zu S) (fun C T => g_X1_grow_64 Pw x0 x1 x2 x3 S C T) := by
  unfold d_X1_grow_64 g_X1_grow_64
  refine tw_chk (fun _ => ?_)
  refine tw_bndv (fun v1 => ?_)
  refine tw_chk (fun _ => ?_)
  refine tw_bnds (⟨rfl, rfl⟩ : zt S = zt S ∧ zu S = zu S) (fun S2 cS2 => ?_)
  refine tw_chk (fun _ => ?_)
  refine tw_calv (fun b3 => ?_)
  refine tw_chk (fun _ => ?_)
  refine tw_chk (fun _ => ?_)
  refine tw_chk (fun _ => ?_)
  refine tw_bndv (fun v4 => ?_)
  refine tw_opt ?_ (fun b5 => ?_)
  ·
    refine tw_chk (fun _ => ?_)
    refine tw_calv (fun b6 => ?_)
    refine tw_chk (fun _ => ?_)
    refine tw_new (fun _ => ⟨congrArg (· + 1) cS2.1, congrArg (· + _) cS2.2⟩) (fun q7 S8 cS8 => ?_)
    refine tw_gal (fun Pw9 => tw_at cS8 tt_X4_init) (fun r12 S13 => ?_)
    refine tw_chk (fun _ => ?_)
    refine tw_chk (fun _ => ?_)
    refine tw_chk (fun _ => ?_)
    refine tw_bnds (⟨rfl, rfl⟩ : zt S13 = zt S13 ∧ zu S13 = zu S13) (fun S16 cS16 => ?_)
    exact tw_at cS16 (tt_X1_grow_102)
  ·
    exact tw_at cS2 (tt_X1_grow_102)
def d_X1_grow_24s (self24 : Nat → Int32 → Int32 → Int32 → Int32 → ZS → Option (Int32 × ZS)) (x0 : Nat) (x1 : Int32) (x2 : Int32) (x3 : Int32) (x4 : Int32) (S : ZS) : Option (Int32 × ZS) :=
  m_if ((300 : Int32) ≤ x4) (
  d_X1_grow_64 x0 x1 x2 x3 S
  ) (
  m_if (x3 = (-1 : Int32)) (
  d_X1_grow_64 x0 x1 x2 x3 S
  ) (
  m_chk (zK S x0 = 1) (
  m_cal (f_X1_at x0 x3 S) (fun o1 => m_chk (zt o1.2 = zt S ∧ zu o1.2 = zu S) (
  m_chk (zK o1.2 o1.1 = 4) (
  m_if ((zI o1.2 3 o1.1) = (-1 : Int32)) (
  d_X1_grow_64 x0 x1 x2 x3 o1.2
  ) (
  m_chk (zK o1.2 x0 = 1) (
  m_cal (f_X1_at x0 x3 o1.2) (fun o2 => m_chk (zt o2.2 = zt o1.2 ∧ zu o2.2 = zu o1.2) (
  m_chk (zK o2.2 o2.1 = 4) (
  m_bnd (x4 + (1 : Int32)) (fun v3 =>
  self24 x0 x1 x2 (zI o2.2 3 o2.1) v3 o2.2)))))
  )))))
  )
  )
theorem tt_X1_grow_24s {Pw : Int32 → ZS → Prop} {self24 : Nat → Int32 → Int32 → Int32 → Int32 → ZS → Option (Int32 × ZS)} {self24g : Nat → Int32 → Int32 → Int32 → Int32 → ZS → Nat → Nat → Prop} (hself24 : ∀ (y0 : Nat) (y1 : Int32) (y2 : Int32) (y3 : Int32) (y4 : Int32) (S : ZS), Tw Pw (self24 y0 y1 y2 y3 y4 S) (zt S) (zu S) (fun C T => self24g y0 y1 y2 y3 y4 S C T)) {x0 : Nat} {x1 : Int32} {x2 : Int32} {x3 : Int32} {x4 : Int32} {S : ZS} : Tw Pw (d_X1_grow_24s self24 x0 x1 x2 x3 x4 S) (zt S) (zu S) (fun C T => g_X1_grow_24s Pw self24g x0 x1 x2 x3 x4 S C T) := by
  unfold d_X1_grow_24s g_X1_grow_24s
  refine tw_if (fun _ => ?_) (fun _ => ?_)
  ·
    exact tw_at (⟨rfl, rfl⟩ : zt S = zt S ∧ zu S = zu S) (tt_X1_grow_64)
  ·
    refine tw_if (fun _ => ?_) (fun _ => ?_)
    ·
      exact tw_at (⟨rfl, rfl⟩ : zt S = zt S ∧ zu S = zu S) (tt_X1_grow_64)
    ·
      refine tw_chk (fun _ => ?_)
      refine tw_calf (⟨rfl, rfl⟩ : zt S = zt S ∧ zu S = zu S) (fun o1 co1 => ?_)
      refine tw_chk (fun _ => ?_)
      refine tw_if (fun _ => ?_) (fun _ => ?_)
      ·
        exact tw_at co1 (tt_X1_grow_64)
      ·
        refine tw_chk (fun _ => ?_)
        refine tw_calf co1 (fun o2 co2 => ?_)
        refine tw_chk (fun _ => ?_)
        refine tw_bndv (fun v3 => ?_)
        exact tw_at co2 (hself24 _ _ _ _ _ _)
def d_X1_grow_24  : Nat → Nat → Int32 → Int32 → Int32 → Int32 → ZS → Option (Int32 × ZS)
  | 0 => fun _ _ _ _ _ _ => none
  | n + 1 => d_X1_grow_24s  (d_X1_grow_24  n)
theorem tt_X1_grow_24 {Pw : Int32 → ZS → Prop}   {n : Nat} : ∀ {z0 : Nat} {z1 : Int32} {z2 : Int32} {z3 : Int32} {z4 : Int32} {S : ZS}, Tw Pw (d_X1_grow_24  n z0 z1 z2 z3 z4 S) (zt S) (zu S) (fun C T => g_X1_grow_24 Pw  n z0 z1 z2 z3 z4 S C T) := by
  induction n with
  | zero => intro z0 z1 z2 z3 z4 S; exact tw_none
  | succ n ih => intro z0 z1 z2 z3 z4 S; exact tt_X1_grow_24s  (fun _ _ _ _ _ _ => ih)
def d_X1_grow_0 (x0 : Nat) (x1 : Int32) (x2 : Int32) (S : ZS) : Option (Int32 × ZS) :=
  m_chk (zK S x0 = 1) (
  m_if ((zI S 3 x0) < (300 : Int32)) (
  m_chk (zK S x0 = 1) (
  m_cal (f_X1_at x0 x1 S) (fun o1 => m_chk (zt o1.2 = zt S ∧ zu o1.2 = zu S) (
  m_chk (zK o1.2 o1.1 = 4) (
  d_X1_grow_24 mFuel x0 x1 x2 (zI o1.2 2 o1.1) (0 : Int32) o1.2))))
  ) (
  some ((-1 : Int32), S)
  ))
theorem tt_X1_grow_0 {Pw : Int32 → ZS → Prop}   {x0 : Nat} {x1 : Int32} {x2 : Int32} {S : ZS} : Tw Pw (d_X1_grow_0 x0 x1 x2 S) (zt S) (zu S) (fun C T => g_X1_grow_0 Pw x0 x1 x2 S C T) := by
  unfold d_X1_grow_0 g_X1_grow_0
  refine tw_chk (fun _ => ?_)
  refine tw_if (fun _ => ?_) (fun _ => ?_)
  ·
    refine tw_chk (fun _ => ?_)
    refine tw_calf (⟨rfl, rfl⟩ : zt S = zt S ∧ zu S = zu S) (fun o1 co1 => ?_)
    refine tw_chk (fun _ => ?_)
    exact tw_at co1 (tt_X1_grow_24)
  ·
    exact tw_ret (⟨rfl, rfl⟩ : zt S = zt S ∧ zu S = zu S)
def d_X1_grow (x0 : Nat) (x1 : Int32) (x2 : Int32) (S : ZS) : Option (Int32 × ZS) := d_X1_grow_0 x0 x1 x2 S
theorem tt_X1_grow {Pw : Int32 → ZS → Prop} {x0 : Nat} {x1 : Int32} {x2 : Int32} {S : ZS} : Tw Pw (d_X1_grow x0 x1 x2 S) (zt S) (zu S) (fun C T => g_X1_grow x0 x1 x2 S C T Pw) := tt_X1_grow_0
def d_X10_init_0 (x0 : Nat) (S : ZS) : Option (Int32 × ZS) :=
  m_bnd (zt S) (fun q1 =>
  m_bnd (zsNewO S q1 6 2) (fun S2 =>
  m_cal (f_X6_init q1 S2) (fun o5 => m_chk (zt o5.2 = zt S2 ∧ zu o5.2 = zu S2) (
  m_chk (zK o5.2 x0 = 10) (
  m_bnd (zsP o5.2 0 x0 (some q1)) (fun S6 =>
  m_bnd (zt S6) (fun q7 =>
  m_bnd (zsNewO S6 q7 6 2) (fun S8 =>
  m_cal (f_X6_init q7 S8) (fun o11 => m_chk (zt o11.2 = zt S8 ∧ zu o11.2 = zu S8) (
  m_chk (zK o11.2 x0 = 10) (
  m_bnd (zsP o11.2 1 x0 (some q7)) (fun S12 =>
  some (0, S12)))))))))))))
theorem tt_X10_init_0 {Pw : Int32 → ZS → Prop}   {x0 : Nat} {S : ZS} : Tw Pw (d_X10_init_0 x0 S) (zt S) (zu S) (fun C T => g_X10_init_0 Pw x0 S C T) := by
  unfold d_X10_init_0 g_X10_init_0
  refine tw_new (fun _ => ⟨congrArg (· + 1) (⟨rfl, rfl⟩ : zt S = zt S ∧ zu S = zu S).1, congrArg (· + _) (⟨rfl, rfl⟩ : zt S = zt S ∧ zu S = zu S).2⟩) (fun q1 S2 cS2 => ?_)
  refine tw_calf cS2 (fun o5 co5 => ?_)
  refine tw_chk (fun _ => ?_)
  refine tw_bnds co5 (fun S6 cS6 => ?_)
  refine tw_new (fun _ => ⟨congrArg (· + 1) cS6.1, congrArg (· + _) cS6.2⟩) (fun q7 S8 cS8 => ?_)
  refine tw_calf cS8 (fun o11 co11 => ?_)
  refine tw_chk (fun _ => ?_)
  refine tw_bnds co11 (fun S12 cS12 => ?_)
  exact tw_ret cS12
def d_X10_init (x0 : Nat) (S : ZS) : Option (Int32 × ZS) := d_X10_init_0 x0 S
theorem tt_X10_init {Pw : Int32 → ZS → Prop} {x0 : Nat} {S : ZS} : Tw Pw (d_X10_init x0 S) (zt S) (zu S) (fun C T => g_X10_init x0 S C T Pw) := tt_X10_init_0
def d_X1_tagAt_38 (t0 : Option Nat) (S : ZS) : Option (Nat × ZS) :=
  m_cal t0 (fun b1 =>
  some (b1, S))
theorem tt_X1_tagAt_38 {Pw : Nat → ZS → Prop}   {t0 : Option Nat} {S : ZS} : Tw Pw (d_X1_tagAt_38 t0 S) (zt S) (zu S) (fun C T => g_X1_tagAt_38 Pw t0 S C T) := by
  unfold d_X1_tagAt_38 g_X1_tagAt_38
  refine tw_calv (fun b1 => ?_)
  exact tw_ret (⟨rfl, rfl⟩ : zt S = zt S ∧ zu S = zu S)
def d_X1_tagAt_22 (t0 : Option Nat) (S : ZS) : Option (Nat × ZS) :=
  m_opt t0 (
  m_bnd (zt S) (fun q2 =>
  m_bnd (zsNewO S q2 10 2) (fun S3 =>
  m_cal2 (d_X10_init q2 S3) (fun r7 S8 =>
  d_X1_tagAt_38 (some q2) S8)))) (fun b1 =>
  d_X1_tagAt_38 (some b1) S)
theorem tt_X1_tagAt_22 {Pw : Nat → ZS → Prop}   {t0 : Option Nat} {S : ZS} : Tw Pw (d_X1_tagAt_22 t0 S) (zt S) (zu S) (fun C T => g_X1_tagAt_22 Pw t0 S C T) := by
  unfold d_X1_tagAt_22 g_X1_tagAt_22
  refine tw_opt ?_ (fun b1 => ?_)
  ·
    refine tw_new (fun _ => ⟨congrArg (· + 1) (⟨rfl, rfl⟩ : zt S = zt S ∧ zu S = zu S).1, congrArg (· + _) (⟨rfl, rfl⟩ : zt S = zt S ∧ zu S = zu S).2⟩) (fun q2 S3 cS3 => ?_)
    refine tw_gal (fun Pw9 => tw_at cS3 tt_X10_init) (fun r7 S8 => ?_)
    exact tw_at (⟨rfl, rfl⟩ : zt S8 = zt S8 ∧ zu S8 = zu S8) (tt_X1_tagAt_38)
  ·
    exact tw_at (⟨rfl, rfl⟩ : zt S = zt S ∧ zu S = zu S) (tt_X1_tagAt_38)
def d_X1_tagAt_21 (S : ZS) : Option (Nat × ZS) :=
  d_X1_tagAt_22 none S
theorem tt_X1_tagAt_21 {Pw : Nat → ZS → Prop}   {S : ZS} : Tw Pw (d_X1_tagAt_21 S) (zt S) (zu S) (fun C T => g_X1_tagAt_21 Pw S C T) := by
  unfold d_X1_tagAt_21 g_X1_tagAt_21
  exact tw_at (⟨rfl, rfl⟩ : zt S = zt S ∧ zu S = zu S) (tt_X1_tagAt_22)
def d_X1_tagAt_0 (x0 : Nat) (x1 : Int32) (S : ZS) : Option (Nat × ZS) :=
  m_if (x1 < 0) (
  d_X1_tagAt_21 S
  ) (
  m_chk (zK S x0 = 1) (
  m_if ((zI S 5 x0) ≤ x1) (
  d_X1_tagAt_21 S
  ) (
  m_chk (zK S x0 = 1) (
  m_cal (zP S 4 x0) (fun b1 =>
  m_chk (zK S b1 = 17) (
  m_chk (¬ (x1 < 0 ∨ zN S b1 ≤ (x1).toNatClampNeg)) (
  m_bnd (zB S b1 (x1).toNatClampNeg) (fun v2 =>
  d_X1_tagAt_22 v2 S)))))
  ))
  )
theorem tt_X1_tagAt_0 {Pw : Nat → ZS → Prop}   {x0 : Nat} {x1 : Int32} {S : ZS} : Tw Pw (d_X1_tagAt_0 x0 x1 S) (zt S) (zu S) (fun C T => g_X1_tagAt_0 Pw x0 x1 S C T) := by
  unfold d_X1_tagAt_0 g_X1_tagAt_0
  refine tw_if (fun _ => ?_) (fun _ => ?_)
  ·
    exact tw_at (⟨rfl, rfl⟩ : zt S = zt S ∧ zu S = zu S) (tt_X1_tagAt_21)
  ·
    refine tw_chk (fun _ => ?_)
    refine tw_if (fun _ => ?_) (fun _ => ?_)
    ·
      exact tw_at (⟨rfl, rfl⟩ : zt S = zt S ∧ zu S = zu S) (tt_X1_tagAt_21)
    ·
      refine tw_chk (fun _ => ?_)
      refine tw_calv (fun b1 => ?_)
      refine tw_chk (fun _ => ?_)
      refine tw_chk (fun _ => ?_)
      refine tw_bndv (fun v2 => ?_)
      exact tw_at (⟨rfl, rfl⟩ : zt S = zt S ∧ zu S = zu S) (tt_X1_tagAt_22)
def d_X1_tagAt (x0 : Nat) (x1 : Int32) (S : ZS) : Option (Nat × ZS) := d_X1_tagAt_0 x0 x1 S
theorem tt_X1_tagAt {Pw : Nat → ZS → Prop} {x0 : Nat} {x1 : Int32} {S : ZS} : Tw Pw (d_X1_tagAt x0 x1 S) (zt S) (zu S) (fun C T => g_X1_tagAt x0 x1 S C T Pw) := tt_X1_tagAt_0
def d_X1_hasTag_2s (self2 : Nat → Nat → Int32 → ZS → Option (Int32 × ZS)) (x0 : Nat) (x1 : Nat) (x2 : Int32) (S : ZS) : Option (Int32 × ZS) :=
  m_chk (zK S x0 = 1) (
  m_if ((zI S 5 x0) ≤ x2) (
  m_chk (vp_nar .boolean (0 : Int32) = (0 : Int32)) (
  some ((0 : Int32), S))
  ) (
  m_chk (zK S x0 = 1) (
  m_cal2 (d_X1_tagAt x0 x2 S) (fun r2 S3 =>
  m_chk (zK S3 r2 = 10) (
  m_cal (zP S3 0 r2) (fun b6 =>
  m_chk (zK S3 b6 = 6) (
  m_cal (f_X6_isLike b6 x1 S3) (fun o7 => m_chk (zt o7.2 = zt S3 ∧ zu o7.2 = zu S3) (
  m_if (o7.1 = 0) (
  m_bnd (x2 + (1 : Int32)) (fun v8 =>
  self2 x0 x1 v8 o7.2)
  ) (
  m_chk (vp_nar .boolean (1 : Int32) = (1 : Int32)) (
  some ((1 : Int32), o7.2))
  ))))))))
  ))
theorem tt_X1_hasTag_2s {Pw : Int32 → ZS → Prop} {self2 : Nat → Nat → Int32 → ZS → Option (Int32 × ZS)} {self2g : Nat → Nat → Int32 → ZS → Nat → Nat → Prop} (hself2 : ∀ (y0 : Nat) (y1 : Nat) (y2 : Int32) (S : ZS), Tw Pw (self2 y0 y1 y2 S) (zt S) (zu S) (fun C T => self2g y0 y1 y2 S C T)) {x0 : Nat} {x1 : Nat} {x2 : Int32} {S : ZS} : Tw Pw (d_X1_hasTag_2s self2 x0 x1 x2 S) (zt S) (zu S) (fun C T => g_X1_hasTag_2s Pw self2g x0 x1 x2 S C T) := by
  unfold d_X1_hasTag_2s g_X1_hasTag_2s
  refine tw_chk (fun _ => ?_)
  refine tw_if (fun _ => ?_) (fun _ => ?_)
  ·
    refine tw_chk (fun _ => ?_)
    exact tw_ret (⟨rfl, rfl⟩ : zt S = zt S ∧ zu S = zu S)
  ·
    refine tw_chk (fun _ => ?_)
    refine tw_galN (fun Pw9 => tw_at (⟨rfl, rfl⟩ : zt S = zt S ∧ zu S = zu S) tt_X1_tagAt) (fun r2 S3 => ?_)
    refine tw_chk (fun _ => ?_)
    refine tw_calv (fun b6 => ?_)
    refine tw_chk (fun _ => ?_)
    refine tw_calf (⟨rfl, rfl⟩ : zt S3 = zt S3 ∧ zu S3 = zu S3) (fun o7 co7 => ?_)
    refine tw_if (fun _ => ?_) (fun _ => ?_)
    ·
      refine tw_bndv (fun v8 => ?_)
      exact tw_at co7 (hself2 _ _ _ _)
    ·
      refine tw_chk (fun _ => ?_)
      exact tw_ret co7
def d_X1_hasTag_2  : Nat → Nat → Nat → Int32 → ZS → Option (Int32 × ZS)
  | 0 => fun _ _ _ _ => none
  | n + 1 => d_X1_hasTag_2s  (d_X1_hasTag_2  n)
theorem tt_X1_hasTag_2 {Pw : Int32 → ZS → Prop}   {n : Nat} : ∀ {z0 : Nat} {z1 : Nat} {z2 : Int32} {S : ZS}, Tw Pw (d_X1_hasTag_2  n z0 z1 z2 S) (zt S) (zu S) (fun C T => g_X1_hasTag_2 Pw  n z0 z1 z2 S C T) := by
  induction n with
  | zero => intro z0 z1 z2 S; exact tw_none
  | succ n ih => intro z0 z1 z2 S; exact tt_X1_hasTag_2s  (fun _ _ _ _ => ih)
def d_X1_hasTag_0 (x0 : Nat) (x1 : Nat) (S : ZS) : Option (Int32 × ZS) :=
  d_X1_hasTag_2 mFuel x0 x1 (0 : Int32) S
theorem tt_X1_hasTag_0 {Pw : Int32 → ZS → Prop}   {x0 : Nat} {x1 : Nat} {S : ZS} : Tw Pw (d_X1_hasTag_0 x0 x1 S) (zt S) (zu S) (fun C T => g_X1_hasTag_0 Pw x0 x1 S C T) := by
  unfold d_X1_hasTag_0 g_X1_hasTag_0
  exact tw_at (⟨rfl, rfl⟩ : zt S = zt S ∧ zu S = zu S) (tt_X1_hasTag_2)
def d_X1_hasTag (x0 : Nat) (x1 : Nat) (S : ZS) : Option (Int32 × ZS) := d_X1_hasTag_0 x0 x1 S
theorem tt_X1_hasTag {Pw : Int32 → ZS → Prop} {x0 : Nat} {x1 : Nat} {S : ZS} : Tw Pw (d_X1_hasTag x0 x1 S) (zt S) (zu S) (fun C T => g_X1_hasTag x0 x1 S C T Pw) := tt_X1_hasTag_0
def d_X6_put_43 (x0 : Nat) (x1 : Int32) (S : ZS) : Option (Int32 × ZS) :=
  m_chk (zK S x0 = 6) (
  m_cal (zP S 0 x0) (fun b1 =>
  m_chk (zK S x0 = 6) (
  m_chk (zK S b1 = 13) (
  m_chk (¬ ((zI S 1 x0) < 0 ∨ zN S b1 ≤ ((zI S 1 x0)).toNatClampNeg)) (
  m_bnd (zsA S b1 ((zI S 1 x0)).toNatClampNeg (vp_nar .char x1)) (fun S2 =>
  m_chk (zK S2 x0 = 6) (
  m_bnd ((zI S2 1 x0) + (1 : Int32)) (fun v3 =>
  m_chk (zK S2 x0 = 6) (
  m_bnd (zsI S2 1 x0 v3) (fun S4 =>
  some (0, S4)))))))))))
theorem tt_X6_put_43 {Pw : Int32 → ZS → Prop}   {x0 : Nat} {x1 : Int32} {S : ZS} : Tw Pw (d_X6_put_43 x0 x1 S) (zt S) (zu S) (fun C T => g_X6_put_43 Pw x0 x1 S C T) := by
  unfold d_X6_put_43 g_X6_put_43
  refine tw_chk (fun _ => ?_)
  refine tw_calv (fun b1 => ?_)
  refine tw_chk (fun _ => ?_)
  refine tw_chk (fun _ => ?_)
  refine tw_chk (fun _ => ?_)
  refine tw_bnds (⟨rfl, rfl⟩ : zt S = zt S ∧ zu S = zu S) (fun S2 cS2 => ?_)
  refine tw_chk (fun _ => ?_)
  refine tw_bndv (fun v3 => ?_)
  refine tw_chk (fun _ => ?_)
  refine tw_bnds cS2 (fun S4 cS4 => ?_)
  exact tw_ret cS4
def d_X6_put_0 (x0 : Nat) (x1 : Int32) (S : ZS) : Option (Int32 × ZS) :=
  m_chk (zK S x0 = 6) (
  m_chk (zK S x0 = 6) (
  m_cal (zP S 0 x0) (fun b1 =>
  m_chk (b1 = 0 ∨ zK S b1 = 13) (
  m_bnd (Int32.ofNat (if b1 = 0 then 0 else zN S b1)) (fun v2 =>
  m_if ((zI S 1 x0) < v2) (
  d_X6_put_43 x0 x1 S
  ) (
  m_chk (zK S x0 = 6) (
  m_bnd ((2 : Int32) * (zI S 1 x0)) (fun v3 =>
  m_bnd (v3 + (8 : Int32)) (fun v4 =>
  m_chk (¬ v4 < 0 ∧ (v4).toNatClampNeg * componentBytes .char ≤ 536870912) (
  m_bnd (zt S) (fun q5 =>
  m_bnd (zsNewA S q5 13 (v4).toNatClampNeg) (fun S6 =>
  m_chk (zK S6 x0 = 6) (
  m_cal (zP S6 0 x0) (fun b9 =>
  m_chk (zK S6 x0 = 6) (
  m_chk (zK S6 q5 = 13) (
  m_chk ((b9 = 0 ∧ (zI S6 1 x0) = 0) ∨ (zK S6 b9 = 13 ∧ ¬ b9 = 0 ∧ ¬ (zI S6 1 x0) < 0 ∧ ((zI S6 1 x0)).toNatClampNeg ≤ zN S6 b9 ∧ ((zI S6 1 x0)).toNatClampNeg ≤ zN S6 q5 ∧ ∀ i, i < ((zI S6 1 x0)).toNatClampNeg → fits .char (.int (zA S6 b9 i)) = true)) (
  m_bnd (zsD S6 b9 q5 0 0 ((zI S6 1 x0)).toNatClampNeg) (fun S10 =>
  m_chk (zK S10 x0 = 6) (
  m_bnd (zsP S10 0 x0 (some q5)) (fun S11 =>
  d_X6_put_43 x0 x1 S11))))))))))))))
  ))))))
theorem tt_X6_put_0 {Pw : Int32 → ZS → Prop}   {x0 : Nat} {x1 : Int32} {S : ZS} : Tw Pw (d_X6_put_0 x0 x1 S) (zt S) (zu S) (fun C T => g_X6_put_0 Pw x0 x1 S C T) := by
  unfold d_X6_put_0 g_X6_put_0
  refine tw_chk (fun _ => ?_)
  refine tw_chk (fun _ => ?_)
  refine tw_calv (fun b1 => ?_)
  refine tw_chk (fun _ => ?_)
  refine tw_bndv (fun v2 => ?_)
  refine tw_if (fun _ => ?_) (fun _ => ?_)
  ·
    exact tw_at (⟨rfl, rfl⟩ : zt S = zt S ∧ zu S = zu S) (tt_X6_put_43)
  ·
    refine tw_chk (fun _ => ?_)
    refine tw_bndv (fun v3 => ?_)
    refine tw_bndv (fun v4 => ?_)
    refine tw_chk (fun _ => ?_)
    refine tw_new (fun _ => ⟨congrArg (· + 1) (⟨rfl, rfl⟩ : zt S = zt S ∧ zu S = zu S).1, congrArg (· + _) (⟨rfl, rfl⟩ : zt S = zt S ∧ zu S = zu S).2⟩) (fun q5 S6 cS6 => ?_)
    refine tw_chk (fun _ => ?_)
    refine tw_calv (fun b9 => ?_)
    refine tw_chk (fun _ => ?_)
    refine tw_chk (fun _ => ?_)
    refine tw_chk (fun _ => ?_)
    refine tw_bnds cS6 (fun S10 cS10 => ?_)
    refine tw_chk (fun _ => ?_)
    refine tw_bnds cS10 (fun S11 cS11 => ?_)
    exact tw_at cS11 (tt_X6_put_43)
def d_X6_put (x0 : Nat) (x1 : Int32) (S : ZS) : Option (Int32 × ZS) := d_X6_put_0 x0 x1 S
theorem tt_X6_put {Pw : Int32 → ZS → Prop} {x0 : Nat} {x1 : Int32} {S : ZS} : Tw Pw (d_X6_put x0 x1 S) (zt S) (zu S) (fun C T => g_X6_put x0 x1 S C T Pw) := tt_X6_put_0
def d_X6_putAll_2s (self2 : Nat → Nat → Int32 → ZS → Option (Int32 × ZS)) (x0 : Nat) (x1 : Nat) (x2 : Int32) (S : ZS) : Option (Int32 × ZS) :=
  m_chk (zK S x1 = 6) (
  m_if ((zI S 1 x1) ≤ x2) (
  some (0, S)
  ) (
  m_chk (zK S x1 = 6) (
  m_cal (f_X6_at x1 x2 S) (fun o1 => m_chk (zt o1.2 = zt S ∧ zu o1.2 = zu S) (
  m_chk (zK o1.2 x0 = 6) (
  m_cal2 (d_X6_put x0 o1.1 o1.2) (fun r3 S4 =>
  m_bnd (x2 + (1 : Int32)) (fun v7 =>
  self2 x0 x1 v7 S4))))))
  ))
theorem tt_X6_putAll_2s {Pw : Int32 → ZS → Prop} {self2 : Nat → Nat → Int32 → ZS → Option (Int32 × ZS)} {self2g : Nat → Nat → Int32 → ZS → Nat → Nat → Prop} (hself2 : ∀ (y0 : Nat) (y1 : Nat) (y2 : Int32) (S : ZS), Tw Pw (self2 y0 y1 y2 S) (zt S) (zu S) (fun C T => self2g y0 y1 y2 S C T)) {x0 : Nat} {x1 : Nat} {x2 : Int32} {S : ZS} : Tw Pw (d_X6_putAll_2s self2 x0 x1 x2 S) (zt S) (zu S) (fun C T => g_X6_putAll_2s Pw self2g x0 x1 x2 S C T) := by
  unfold d_X6_putAll_2s g_X6_putAll_2s
  refine tw_chk (fun _ => ?_)
  refine tw_if (fun _ => ?_) (fun _ => ?_)
  ·
    exact tw_ret (⟨rfl, rfl⟩ : zt S = zt S ∧ zu S = zu S)
  ·
    refine tw_chk (fun _ => ?_)
    refine tw_calf (⟨rfl, rfl⟩ : zt S = zt S ∧ zu S = zu S) (fun o1 co1 => ?_)
    refine tw_chk (fun _ => ?_)
    refine tw_gal (fun Pw9 => tw_at co1 tt_X6_put) (fun r3 S4 => ?_)
    refine tw_bndv (fun v7 => ?_)
    exact tw_at (⟨rfl, rfl⟩ : zt S4 = zt S4 ∧ zu S4 = zu S4) (hself2 _ _ _ _)
def d_X6_putAll_2  : Nat → Nat → Nat → Int32 → ZS → Option (Int32 × ZS)
  | 0 => fun _ _ _ _ => none
  | n + 1 => d_X6_putAll_2s  (d_X6_putAll_2  n)
theorem tt_X6_putAll_2 {Pw : Int32 → ZS → Prop}   {n : Nat} : ∀ {z0 : Nat} {z1 : Nat} {z2 : Int32} {S : ZS}, Tw Pw (d_X6_putAll_2  n z0 z1 z2 S) (zt S) (zu S) (fun C T => g_X6_putAll_2 Pw  n z0 z1 z2 S C T) := by
  induction n with
  | zero => intro z0 z1 z2 S; exact tw_none
  | succ n ih => intro z0 z1 z2 S; exact tt_X6_putAll_2s  (fun _ _ _ _ => ih)
def d_X6_putAll_0 (x0 : Nat) (x1 : Nat) (S : ZS) : Option (Int32 × ZS) :=
  d_X6_putAll_2 mFuel x0 x1 (0 : Int32) S
theorem tt_X6_putAll_0 {Pw : Int32 → ZS → Prop}   {x0 : Nat} {x1 : Nat} {S : ZS} : Tw Pw (d_X6_putAll_0 x0 x1 S) (zt S) (zu S) (fun C T => g_X6_putAll_0 Pw x0 x1 S C T) := by
  unfold d_X6_putAll_0 g_X6_putAll_0
  exact tw_at (⟨rfl, rfl⟩ : zt S = zt S ∧ zu S = zu S) (tt_X6_putAll_2)
def d_X6_putAll (x0 : Nat) (x1 : Nat) (S : ZS) : Option (Int32 × ZS) := d_X6_putAll_0 x0 x1 S
theorem tt_X6_putAll {Pw : Int32 → ZS → Prop} {x0 : Nat} {x1 : Nat} {S : ZS} : Tw Pw (d_X6_putAll x0 x1 S) (zt S) (zu S) (fun C T => g_X6_putAll x0 x1 S C T Pw) := tt_X6_putAll_0
def d_X6_copyFrom_0 (x0 : Nat) (x1 : Nat) (S : ZS) : Option (Int32 × ZS) :=
  m_chk (zK S x0 = 6) (
  m_bnd (zsI S 1 x0 (0 : Int32)) (fun S1 =>
  m_chk (zK S1 x0 = 6) (
  m_cal2 (d_X6_putAll x0 x1 S1) (fun r3 S4 =>
  some (0, S4)))))
theorem tt_X6_copyFrom_0 {Pw : Int32 → ZS → Prop}   {x0 : Nat} {x1 : Nat} {S : ZS} : Tw Pw (d_X6_copyFrom_0 x0 x1 S) (zt S) (zu S) (fun C T => g_X6_copyFrom_0 Pw x0 x1 S C T) := by
  unfold d_X6_copyFrom_0 g_X6_copyFrom_0
  refine tw_chk (fun _ => ?_)
  refine tw_bnds (⟨rfl, rfl⟩ : zt S = zt S ∧ zu S = zu S) (fun S1 cS1 => ?_)
  refine tw_chk (fun _ => ?_)
  refine tw_gal (fun Pw9 => tw_at cS1 tt_X6_putAll) (fun r3 S4 => ?_)
  exact tw_ret (⟨rfl, rfl⟩ : zt S4 = zt S4 ∧ zu S4 = zu S4)
def d_X6_copyFrom (x0 : Nat) (x1 : Nat) (S : ZS) : Option (Int32 × ZS) := d_X6_copyFrom_0 x0 x1 S
theorem tt_X6_copyFrom {Pw : Int32 → ZS → Prop} {x0 : Nat} {x1 : Nat} {S : ZS} : Tw Pw (d_X6_copyFrom x0 x1 S) (zt S) (zu S) (fun C T => g_X6_copyFrom x0 x1 S C T Pw) := tt_X6_copyFrom_0
def d_X1_putTag_38 (x0 : Nat) (x1 : Nat) (x2 : Nat) (S : ZS) : Option (Int32 × ZS) :=
  m_chk (zK S x0 = 1) (
  m_bnd ((zI S 5 x0) + (1 : Int32)) (fun v1 =>
  m_chk (zK S x0 = 1) (
  m_bnd (zsI S 5 x0 v1) (fun S2 =>
  m_chk (zK S2 x0 = 1) (
  m_bnd ((zI S2 5 x0) - (1 : Int32)) (fun v3 =>
  m_chk (zK S2 x0 = 1) (
  m_cal2 (d_X1_tagAt x0 v3 S2) (fun r5 S6 =>
  m_chk (zK S6 r5 = 10) (
  m_cal (zP S6 0 r5) (fun b9 =>
  m_chk (zK S6 b9 = 6) (
  m_cal2 (d_X6_copyFrom b9 x1 S6) (fun r11 S12 =>
  m_chk (zK S12 x0 = 1) (
  m_bnd ((zI S12 5 x0) - (1 : Int32)) (fun v15 =>
  m_chk (zK S12 x0 = 1) (
  m_cal2 (d_X1_tagAt x0 v15 S12) (fun r17 S18 =>
  m_chk (zK S18 r17 = 10) (
  m_cal (zP S18 1 r17) (fun b21 =>
  m_chk (zK S18 b21 = 6) (
  m_cal2 (d_X6_copyFrom b21 x2 S18) (fun r23 S24 =>
  some (0, S24)))))))))))))))))))))
theorem tt_X1_putTag_38 {Pw : Int32 → ZS → Prop}   {x0 : Nat} {x1 : Nat} {x2 : Nat} {S : ZS} : Tw Pw (d_X1_putTag_38 x0 x1 x2 S) (zt S) (zu S) (fun C T => g_X1_putTag_38 Pw x0 x1 x2 S C T) := by
  unfold d_X1_putTag_38 g_X1_putTag_38
  refine tw_chk (fun _ => ?_)
  refine tw_bndv (fun v1 => ?_)
  refine tw_chk (fun _ => ?_)
  refine tw_bnds (⟨rfl, rfl⟩ : zt S = zt S ∧ zu S = zu S) (fun S2 cS2 => ?_)
  refine tw_chk (fun _ => ?_)
  refine tw_bndv (fun v3 => ?_)
  refine tw_chk (fun _ => ?_)
  refine tw_galN (fun Pw9 => tw_at cS2 tt_X1_tagAt) (fun r5 S6 => ?_)
  refine tw_chk (fun _ => ?_)
  refine tw_calv (fun b9 => ?_)
  refine tw_chk (fun _ => ?_)
  refine tw_gal (fun Pw9 => tw_at (⟨rfl, rfl⟩ : zt S6 = zt S6 ∧ zu S6 = zu S6) tt_X6_copyFrom) (fun r11 S12 => ?_)
  refine tw_chk (fun _ => ?_)
  refine tw_bndv (fun v15 => ?_)
  refine tw_chk (fun _ => ?_)
  refine tw_galN (fun Pw9 => tw_at (⟨rfl, rfl⟩ : zt S12 = zt S12 ∧ zu S12 = zu S12) tt_X1_tagAt) (fun r17 S18 => ?_)
  refine tw_chk (fun _ => ?_)
  refine tw_calv (fun b21 => ?_)
  refine tw_chk (fun _ => ?_)
  refine tw_gal (fun Pw9 => tw_at (⟨rfl, rfl⟩ : zt S18 = zt S18 ∧ zu S18 = zu S18) tt_X6_copyFrom) (fun r23 S24 => ?_)
  exact tw_ret (⟨rfl, rfl⟩ : zt S24 = zt S24 ∧ zu S24 = zu S24)
def d_X1_putTag_0 (x0 : Nat) (x1 : Nat) (x2 : Nat) (S : ZS) : Option (Int32 × ZS) :=
  m_chk (zK S x0 = 1) (
  m_if ((zI S 5 x0) < (8 : Int32)) (
  m_chk (zK S x0 = 1) (
  m_cal (zP S 4 x0) (fun b1 =>
  m_chk (zK S x0 = 1) (
  m_chk (zK S b1 = 17) (
  m_chk (¬ ((zI S 5 x0) < 0 ∨ zN S b1 ≤ ((zI S 5 x0)).toNatClampNeg)) (
  m_bnd (zB S b1 ((zI S 5 x0)).toNatClampNeg) (fun v2 =>
  m_opt v2 (
  m_chk (zK S x0 = 1) (
  m_cal (zP S 4 x0) (fun b4 =>
  m_chk (zK S x0 = 1) (
  m_bnd (zt S) (fun q5 =>
  m_bnd (zsNewO S q5 10 2) (fun S6 =>
  m_cal2 (d_X10_init q5 S6) (fun r10 S11 =>
  m_chk (zK S11 b4 = 17) (
  m_chk (zK S11 q5 = 10) (
  m_chk (¬ ((zI S 5 x0) < 0 ∨ zN S11 b4 ≤ ((zI S 5 x0)).toNatClampNeg)) (
  m_bnd (zsB S11 b4 ((zI S 5 x0)).toNatClampNeg (some q5)) (fun S14 =>
  d_X1_putTag_38 x0 x1 x2 S14))))))))))) (fun b3 =>
  d_X1_putTag_38 x0 x1 x2 S)))))))
  ) (
  some (0, S)
  ))
theorem tt_X1_putTag_0 {Pw : Int32 → ZS → Prop}   {x0 : Nat} {x1 : Nat} {x2 : Nat} {S : ZS} : Tw Pw (d_X1_putTag_0 x0 x1 x2 S) (zt S) (zu S) (fun C T => g_X1_putTag_0 Pw x0 x1 x2 S C T) := by
  unfold d_X1_putTag_0 g_X1_putTag_0
  refine tw_chk (fun _ => ?_)
  refine tw_if (fun _ => ?_) (fun _ => ?_)
  ·
    refine tw_chk (fun _ => ?_)
    refine tw_calv (fun b1 => ?_)
    refine tw_chk (fun _ => ?_)
    refine tw_chk (fun _ => ?_)
    refine tw_chk (fun _ => ?_)
    refine tw_bndv (fun v2 => ?_)
    refine tw_opt ?_ (fun b3 => ?_)
    ·
      refine tw_chk (fun _ => ?_)
      refine tw_calv (fun b4 => ?_)
      refine tw_chk (fun _ => ?_)
      refine tw_new (fun _ => ⟨congrArg (· + 1) (⟨rfl, rfl⟩ : zt S = zt S ∧ zu S = zu S).1, congrArg (· + _) (⟨rfl, rfl⟩ : zt S = zt S ∧ zu S = zu S).2⟩) (fun q5 S6 cS6 => ?_)
      refine tw_gal (fun Pw9 => tw_at cS6 tt_X10_init) (fun r10 S11 => ?_)
      refine tw_chk (fun _ => ?_)
      refine tw_chk (fun _ => ?_)
      refine tw_chk (fun _ => ?_)
      refine tw_bnds (⟨rfl, rfl⟩ : zt S11 = zt S11 ∧ zu S11 = zu S11) (fun S14 cS14 => ?_)
      exact tw_at cS14 (tt_X1_putTag_38)
    ·
      exact tw_at (⟨rfl, rfl⟩ : zt S = zt S ∧ zu S = zu S) (tt_X1_putTag_38)
  ·
    exact tw_ret (⟨rfl, rfl⟩ : zt S = zt S ∧ zu S = zu S)
def d_X1_putTag (x0 : Nat) (x1 : Nat) (x2 : Nat) (S : ZS) : Option (Int32 × ZS) := d_X1_putTag_0 x0 x1 x2 S
theorem tt_X1_putTag {Pw : Int32 → ZS → Prop} {x0 : Nat} {x1 : Nat} {x2 : Nat} {S : ZS} : Tw Pw (d_X1_putTag x0 x1 x2 S) (zt S) (zu S) (fun C T => g_X1_putTag x0 x1 x2 S C T Pw) := tt_X1_putTag_0
def d_X1_agreesWith_46 (self2 : Nat → Int32 → Int32 → ZS → Option (Int32 × ZS)) (x0 : Nat) (x1 : Int32) (x2 : Int32) (S : ZS) : Option (Int32 × ZS) :=
  m_bnd (x2 + (1 : Int32)) (fun v1 =>
  self2 x0 x1 v1 S)
theorem tt_X1_agreesWith_46 {Pw : Int32 → ZS → Prop} {self2 : Nat → Int32 → Int32 → ZS → Option (Int32 × ZS)} {self2g : Nat → Int32 → Int32 → ZS → Nat → Nat → Prop} (hself2 : ∀ (y0 : Nat) (y1 : Int32) (y2 : Int32) (S : ZS), Tw Pw (self2 y0 y1 y2 S) (zt S) (zu S) (fun C T => self2g y0 y1 y2 S C T)) {x0 : Nat} {x1 : Int32} {x2 : Int32} {S : ZS} : Tw Pw (d_X1_agreesWith_46 self2 x0 x1 x2 S) (zt S) (zu S) (fun C T => g_X1_agreesWith_46 Pw self2g x0 x1 x2 S C T) := by
  unfold d_X1_agreesWith_46 g_X1_agreesWith_46
  refine tw_bndv (fun v1 => ?_)
  exact tw_at (⟨rfl, rfl⟩ : zt S = zt S ∧ zu S = zu S) (hself2 _ _ _ _)
def d_X1_agreesWith_2s (self2 : Nat → Int32 → Int32 → ZS → Option (Int32 × ZS)) (x0 : Nat) (x1 : Int32) (x2 : Int32) (S : ZS) : Option (Int32 × ZS) :=
  m_chk (zK S x0 = 1) (
  m_if ((zI S 5 x0) ≤ x2) (
  m_chk (vp_nar .boolean (1 : Int32) = (1 : Int32)) (
  some ((1 : Int32), S))
  ) (
  m_chk (zK S x0 = 1) (
  m_cal2 (d_X1_tagAt x0 x2 S) (fun r2 S3 =>
  m_chk (zK S3 r2 = 10) (
  m_cal (zP S3 0 r2) (fun b6 =>
  m_chk (zK S3 b6 = 6) (
  m_cal (f_X6_is b6 10 S3) (fun o7 => m_chk (zt o7.2 = zt S3 ∧ zu o7.2 = zu S3) (
  m_if (o7.1 = 0) (
  d_X1_agreesWith_46 self2 x0 x1 x2 o7.2
  ) (
  m_chk (zK o7.2 x0 = 1) (
  m_cal2 (d_X1_tagAt x0 x2 o7.2) (fun r9 S10 =>
  m_chk (zK S10 r9 = 10) (
  m_cal (zP S10 1 r9) (fun b13 =>
  m_cal (f_X11_resultSign x1 S10) (fun o14 => m_chk (zt o14.2 = zt S10 ∧ zu o14.2 = zu S10) (
  m_chk (zK o14.2 b13 = 6) (
  m_cal (f_X6_is b13 o14.1 o14.2) (fun o15 => m_chk (zt o15.2 = zt o14.2 ∧ zu o15.2 = zu o14.2) (
  m_if (o15.1 = 0) (
  m_chk (vp_nar .boolean (0 : Int32) = (0 : Int32)) (
  some ((0 : Int32), o15.2))
  ) (
  d_X1_agreesWith_46 self2 x0 x1 x2 o15.2
  ))))))))))
  ))))))))
  ))
theorem tt_X1_agreesWith_2s {Pw : Int32 → ZS → Prop} {self2 : Nat → Int32 → Int32 → ZS → Option (Int32 × ZS)} {self2g : Nat → Int32 → Int32 → ZS → Nat → Nat → Prop} (hself2 : ∀ (y0 : Nat) (y1 : Int32) (y2 : Int32) (S : ZS), Tw Pw (self2 y0 y1 y2 S) (zt S) (zu S) (fun C T => self2g y0 y1 y2 S C T)) {x0 : Nat} {x1 : Int32} {x2 : Int32} {S : ZS} : Tw Pw (d_X1_agreesWith_2s self2 x0 x1 x2 S) (zt S) (zu S) (fun C T => g_X1_agreesWith_2s Pw self2g x0 x1 x2 S C T) := by
  unfold d_X1_agreesWith_2s g_X1_agreesWith_2s
  refine tw_chk (fun _ => ?_)
  refine tw_if (fun _ => ?_) (fun _ => ?_)
  ·
    refine tw_chk (fun _ => ?_)
    exact tw_ret (⟨rfl, rfl⟩ : zt S = zt S ∧ zu S = zu S)
  ·
    refine tw_chk (fun _ => ?_)
    refine tw_galN (fun Pw9 => tw_at (⟨rfl, rfl⟩ : zt S = zt S ∧ zu S = zu S) tt_X1_tagAt) (fun r2 S3 => ?_)
    refine tw_chk (fun _ => ?_)
    refine tw_calv (fun b6 => ?_)
    refine tw_chk (fun _ => ?_)
    refine tw_calf (⟨rfl, rfl⟩ : zt S3 = zt S3 ∧ zu S3 = zu S3) (fun o7 co7 => ?_)
    refine tw_if (fun _ => ?_) (fun _ => ?_)
    ·
      exact tw_at co7 (tt_X1_agreesWith_46 hself2)
    ·
      refine tw_chk (fun _ => ?_)
      refine tw_galN (fun Pw9 => tw_at co7 tt_X1_tagAt) (fun r9 S10 => ?_)
      refine tw_chk (fun _ => ?_)
      refine tw_calv (fun b13 => ?_)
      refine tw_calf (⟨rfl, rfl⟩ : zt S10 = zt S10 ∧ zu S10 = zu S10) (fun o14 co14 => ?_)
      refine tw_chk (fun _ => ?_)
      refine tw_calf co14 (fun o15 co15 => ?_)
      refine tw_if (fun _ => ?_) (fun _ => ?_)
      ·
        refine tw_chk (fun _ => ?_)
        exact tw_ret co15
      ·
        exact tw_at co15 (tt_X1_agreesWith_46 hself2)
