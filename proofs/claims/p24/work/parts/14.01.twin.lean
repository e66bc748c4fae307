section
noncomputable def d_X0_init_0 (x0 : Nat) (S : ZS) : Option (Int32 × ZS) :=
  m_chk (¬ (64 : Int32) < 0 ∧ ((64 : Int32)).toNatClampNeg * componentBytes .int ≤ 536870912) (
  m_bnd (zt S) (fun q1 =>
  m_bnd (zsNewA S q1 14 ((64 : Int32)).toNatClampNeg) (fun S2 =>
  m_chk (zK S2 x0 = 0) (
  m_bnd (zsP S2 0 x0 (some q1)) (fun S5 =>
  m_chk (zK S5 x0 = 0) (
  m_bnd (zsI S5 1 x0 (4 : Int32)) (fun S6 =>
  m_chk (zK S6 x0 = 0) (
  m_bnd (zsI S6 2 x0 (60 : Int32)) (fun S7 =>
  m_chk (zK S7 x0 = 0) (
  m_bnd (zsI S7 3 x0 (0 : Int32)) (fun S8 =>
  m_chk (zK S8 x0 = 0) (
  m_bnd (zsI S8 4 x0 (0 : Int32)) (fun S9 =>
  m_chk (zK S9 x0 = 0) (
  m_bnd (zsI S9 5 x0 (-1 : Int32)) (fun S10 =>
  m_chk (zK S10 x0 = 0) (
  m_bnd (zsI S10 6 x0 (1 : Int32)) (fun S11 =>
  some (0, S11))))))))))))))))))
theorem tt_X0_init_0 {Pw : Int32 → ZS → Prop}   {x0 : Nat} {S : ZS} : Tw Pw (d_X0_init_0 x0 S) (zt S) (zu S) (fun C T => g_X0_init_0 Pw x0 S C T) := by
  unfold d_X0_init_0 g_X0_init_0
  refine tw_chk (fun _ => ?_)
  refine tw_new (fun _ => ⟨congrArg (· + 1) (⟨rfl, rfl⟩ : zt S = zt S ∧ zu S = zu S).1, congrArg (· + _) (⟨rfl, rfl⟩ : zt S = zt S ∧ zu S = zu S).2⟩) (fun q1 S2 cS2 => ?_)
  refine tw_chk (fun _ => ?_)
  refine tw_bnds cS2 (fun S5 cS5 => ?_)
  refine tw_chk (fun _ => ?_)
  refine tw_bnds cS5 (fun S6 cS6 => ?_)
  refine tw_chk (fun _ => ?_)
  refine tw_bnds cS6 (fun S7 cS7 => ?_)
  refine tw_chk (fun _ => ?_)
  refine tw_bnds cS7 (fun S8 cS8 => ?_)
  refine tw_chk (fun _ => ?_)
  refine tw_bnds cS8 (fun S9 cS9 => ?_)
  refine tw_chk (fun _ => ?_)
  refine tw_bnds cS9 (fun S10 cS10 => ?_)
  refine tw_chk (fun _ => ?_)
  refine tw_bnds cS10 (fun S11 cS11 => ?_)
  exact tw_ret cS11
noncomputable def d_X0_init (x0 : Nat) (S : ZS) : Option (Int32 × ZS) := d_X0_init_0 x0 S
theorem tt_X0_init {Pw : Int32 → ZS → Prop} {x0 : Nat} {S : ZS} : Tw Pw (d_X0_init x0 S) (zt S) (zu S) (fun C T => g_X0_init x0 S C T Pw) := tt_X0_init_0
noncomputable def d_X4_init_0 (x0 : Nat) (S : ZS) : Option (Int32 × ZS) :=
  m_chk (zK S x0 = 4) (
  m_bnd (zsI S 0 x0 (-1 : Int32)) (fun S1 =>
  m_chk (zK S1 x0 = 4) (
  m_bnd (zsI S1 1 x0 (-1 : Int32)) (fun S2 =>
  m_chk (zK S2 x0 = 4) (
  m_bnd (zsI S2 2 x0 (-1 : Int32)) (fun S3 =>
  m_chk (zK S3 x0 = 4) (
  m_bnd (zsI S3 3 x0 (-1 : Int32)) (fun S4 =>
  m_chk (zK S4 x0 = 4) (
  m_bnd (zsI S4 4 x0 (0 : Int32)) (fun S5 =>
  m_chk (zK S5 x0 = 4) (
  m_bnd (zsI S5 5 x0 (0 : Int32)) (fun S6 =>
  m_bnd (zt S6) (fun q7 =>
  m_bnd (zsNewO S6 q7 6 2) (fun S8 =>
  m_cal (f_X6_init q7 S8) (fun o11 => m_chk (zt o11.2 = zt S8 ∧ zu o11.2 = zu S8) (
  m_chk (zK o11.2 x0 = 4) (
  m_bnd (zsP o11.2 6 x0 (some q7)) (fun S12 =>
  some (0, S12)))))))))))))))))))
theorem tt_X4_init_0 {Pw : Int32 → ZS → Prop}   {x0 : Nat} {S : ZS} : Tw Pw (d_X4_init_0 x0 S) (zt S) (zu S) (fun C T => g_X4_init_0 Pw x0 S C T) := by
  unfold d_X4_init_0 g_X4_init_0
  refine tw_chk (fun _ => ?_)
  refine tw_bnds (⟨rfl, rfl⟩ : zt S = zt S ∧ zu S = zu S) (fun S1 cS1 => ?_)
  refine tw_chk (fun _ => ?_)
  refine tw_bnds cS1 (fun S2 cS2 => ?_)
  refine tw_chk (fun _ => ?_)
  refine tw_bnds cS2 (fun S3 cS3 => ?_)
  refine tw_chk (fun _ => ?_)
  refine tw_bnds cS3 (fun S4 cS4 => ?_)
  refine tw_chk (fun _ => ?_)
  refine tw_bnds cS4 (fun S5 cS5 => ?_)
  refine tw_chk (fun _ => ?_)
  refine tw_bnds cS5 (fun S6 cS6 => ?_)
  refine tw_new (fun _ => ⟨congrArg (· + 1) cS6.1, congrArg (· + _) cS6.2⟩) (fun q7 S8 cS8 => ?_)
  refine tw_calf cS8 (fun o11 co11 => ?_)
  refine tw_chk (fun _ => ?_)
  refine tw_bnds co11 (fun S12 cS12 => ?_)
  exact tw_ret cS12
noncomputable def d_X4_init (x0 : Nat) (S : ZS) : Option (Int32 × ZS) := d_X4_init_0 x0 S
theorem tt_X4_init {Pw : Int32 → ZS → Prop} {x0 : Nat} {S : ZS} : Tw Pw (d_X4_init x0 S) (zt S) (zu S) (fun C T => g_X4_init x0 S C T Pw) := tt_X4_init_0
noncomputable def d_X1_init_0 (x0 : Nat) (S : ZS) : Option (Int32 × ZS) :=
  m_bnd (zt S) (fun q1 =>
  m_bnd (zsNewO S q1 0 7) (fun S2 =>
  m_cal2 (d_X0_init q1 S2) (fun r6 S7 =>
  m_chk (zK S7 x0 = 1) (
  m_bnd (zsP S7 0 x0 (some q1)) (fun S10 =>
  m_bnd (zt S10) (fun q11 =>
  m_bnd (zsNewO S10 q11 4 7) (fun S12 =>
  m_cal2 (d_X4_init q11 S12) (fun r16 S17 =>
  m_chk (zK S17 x0 = 1) (
  m_bnd (zsP S17 1 x0 (some q11)) (fun S20 =>
  m_chk (¬ (301 : Int32) < 0 ∧ ((301 : Int32)).toNatClampNeg * 4 ≤ 536870912) (
  m_bnd (zt S20) (fun q21 =>
  m_bnd (zsNewA S20 q21 16 ((301 : Int32)).toNatClampNeg) (fun S22 =>
  m_chk (zK S22 x0 = 1) (
  m_bnd (zsP S22 2 x0 (some q21)) (fun S25 =>
  m_chk (zK S25 x0 = 1) (
  m_bnd (zsI S25 3 x0 (0 : Int32)) (fun S26 =>
  m_chk (¬ (8 : Int32) < 0 ∧ ((8 : Int32)).toNatClampNeg * 4 ≤ 536870912) (
  m_bnd (zt S26) (fun q27 =>
  m_bnd (zsNewA S26 q27 17 ((8 : Int32)).toNatClampNeg) (fun S28 =>
  m_chk (zK S28 x0 = 1) (
  m_bnd (zsP S28 4 x0 (some q27)) (fun S31 =>
  m_chk (zK S31 x0 = 1) (
  m_bnd (zsI S31 5 x0 (0 : Int32)) (fun S32 =>
  m_chk (zK S32 x0 = 1) (
  m_bnd (zsI S32 6 x0 (0 : Int32)) (fun S33 =>
  m_chk (¬ (301 : Int32) < 0 ∧ ((301 : Int32)).toNatClampNeg * componentBytes .int ≤ 536870912) (
  m_bnd (zt S33) (fun q34 =>
  m_bnd (zsNewA S33 q34 14 ((301 : Int32)).toNatClampNeg) (fun S35 =>
  m_chk (zK S35 x0 = 1) (
  m_bnd (zsP S35 7 x0 (some q34)) (fun S38 =>
  m_chk (zK S38 x0 = 1) (
  m_cal (zP S38 0 x0) (fun b39 =>
  m_chk (zK S38 b39 = 0) (
  m_cal (f_X0_setUp b39 S38) (fun o40 => m_chk (zt o40.2 = zt S38 ∧ zu o40.2 = zu S38) (
  some (0, o40.2)))))))))))))))))))))))))))))))))))))
theorem tt_X1_init_0 {Pw : Int32 → ZS → Prop}   {x0 : Nat} {S : ZS} : Tw Pw (d_X1_init_0 x0 S) (zt S) (zu S) (fun C T => g_X1_init_0 Pw x0 S C T) := by
  unfold d_X1_init_0 g_X1_init_0
  refine tw_new (fun _ => ⟨congrArg (· + 1) (⟨rfl, rfl⟩ : zt S = zt S ∧ zu S = zu S).1, congrArg (· + _) (⟨rfl, rfl⟩ : zt S = zt S ∧ zu S = zu S).2⟩) (fun q1 S2 cS2 => ?_)
  refine tw_gal (fun Pw9 => tw_at cS2 tt_X0_init) (fun r6 S7 => ?_)
  refine tw_chk (fun _ => ?_)
  refine tw_bnds (⟨rfl, rfl⟩ : zt S7 = zt S7 ∧ zu S7 = zu S7) (fun S10 cS10 => ?_)
  refine tw_new (fun _ => ⟨congrArg (· + 1) cS10.1, congrArg (· + _) cS10.2⟩) (fun q11 S12 cS12 => ?_)
  refine tw_gal (fun Pw9 => tw_at cS12 tt_X4_init) (fun r16 S17 => ?_)
  refine tw_chk (fun _ => ?_)
  refine tw_bnds (⟨rfl, rfl⟩ : zt S17 = zt S17 ∧ zu S17 = zu S17) (fun S20 cS20 => ?_)
  refine tw_chk (fun _ => ?_)
  refine tw_new (fun _ => ⟨congrArg (· + 1) cS20.1, congrArg (· + _) cS20.2⟩) (fun q21 S22 cS22 => ?_)
  refine tw_chk (fun _ => ?_)
  refine tw_bnds cS22 (fun S25 cS25 => ?_)
  refine tw_chk (fun _ => ?_)
  refine tw_bnds cS25 (fun S26 cS26 => ?_)
  refine tw_chk (fun _ => ?_)
  refine tw_new (fun _ => ⟨congrArg (· + 1) cS26.1, congrArg (· + _) cS26.2⟩) (fun q27 S28 cS28 => ?_)
  refine tw_chk (fun _ => ?_)
  refine tw_bnds cS28 (fun S31 cS31 => ?_)
  refine tw_chk (fun _ => ?_)
  refine tw_bnds cS31 (fun S32 cS32 => ?_)
  refine tw_chk (fun _ => ?_)
  refine tw_bnds cS32 (fun S33 cS33 => ?_)
  refine tw_chk (fun _ => ?_)
  refine tw_new (fun _ => ⟨congrArg (· + 1) cS33.1, congrArg (· + _) cS33.2⟩) (fun q34 S35 cS35 => ?_)
  refine tw_chk (fun _ => ?_)
  refine tw_bnds cS35 (fun S38 cS38 => ?_)
  refine tw_chk (fun _ => ?_)
  refine tw_calv (fun b39 => ?_)
  refine tw_chk (fun _ => ?_)
  refine tw_calf cS38 (fun o40 co40 => ?_)
  exact tw_ret co40
noncomputable def d_X1_init (x0 : Nat) (S : ZS) : Option (Int32 × ZS) := d_X1_init_0 x0 S
theorem tt_X1_init {Pw : Int32 → ZS → Prop} {x0 : Nat} {S : ZS} : Tw Pw (d_X1_init x0 S) (zt S) (zu S) (fun C T => g_X1_init x0 S C T Pw) := tt_X1_init_0
noncomputable def d_X1_grow_147 (x0 : Nat) (S : ZS) : Option (Int32 × ZS) :=
  m_chk (zK S x0 = 1) (
  some ((zI S 3 x0), S))
theorem tt_X1_grow_147 {Pw : Int32 → ZS → Prop}   {x0 : Nat} {S : ZS} : Tw Pw (d_X1_grow_147 x0 S) (zt S) (zu S) (fun C T => g_X1_grow_147 Pw x0 S C T) := by
  unfold d_X1_grow_147 g_X1_grow_147
  refine tw_chk (fun _ => ?_)
  exact tw_ret (⟨rfl, rfl⟩ : zt S = zt S ∧ zu S = zu S)
noncomputable def d_X1_grow_102 (x0 : Nat) (x1 : Int32) (x2 : Int32) (x3 : Int32) (S : ZS) : Option (Int32 × ZS) :=
  m_chk (zK S x0 = 1) (
  m_chk (zK S x0 = 1) (
  m_cal (f_X1_at x0 (zI S 3 x0) S) (fun o1 => m_chk (zt o1.2 = zt S ∧ zu o1.2 = zu S) (
  m_chk (zK o1.2 o1.1 = 4) (
  m_cal (f_X4_become o1.1 x1 x2 o1.2) (fun o2 => m_chk (zt o2.2 = zt o1.2 ∧ zu o2.2 = zu o1.2) (
  m_if (x3 = (-1 : Int32)) (
  m_chk (zK o2.2 x0 = 1) (
  m_cal (f_X1_at x0 x1 o2.2) (fun o5 => m_chk (zt o5.2 = zt o2.2 ∧ zu o5.2 = zu o2.2) (
  m_chk (zK o5.2 x0 = 1) (
  m_chk (zK o5.2 o5.1 = 4) (
  m_bnd (zsI o5.2 2 o5.1 (zI o5.2 3 x0)) (fun S6 =>
  d_X1_grow_147 x0 S6))))))
  ) (
  m_chk (zK o2.2 x0 = 1) (
  m_cal (f_X1_at x0 x3 o2.2) (fun o3 => m_chk (zt o3.2 = zt o2.2 ∧ zu o3.2 = zu o2.2) (
  m_chk (zK o3.2 x0 = 1) (
  m_chk (zK o3.2 o3.1 = 4) (
  m_bnd (zsI o3.2 3 o3.1 (zI o3.2 3 x0)) (fun S4 =>
  d_X1_grow_147 x0 S4))))))
  ))))))))
theorem tt_X1_grow_102 {Pw : Int32 → ZS → Prop}   {x0 : Nat} {x1 : Int32} {x2 : Int32} {x3 : Int32} {S : ZS} : Tw Pw (d_X1_grow_102 x0 x1 x2 x3 S) (zt S) (zu S) (fun C T => g_X1_grow_102 Pw x0 x1 x2 x3 S C T) := by
  unfold d_X1_grow_102 g_X1_grow_102
  refine tw_chk (fun _ => ?_)
  refine tw_chk (fun _ => ?_)
  refine tw_calf (⟨rfl, rfl⟩ : zt S = zt S ∧ zu S = zu S) (fun o1 co1 => ?_)
  refine tw_chk (fun _ => ?_)
  refine tw_calf co1 (fun o2 co2 => ?_)
  refine tw_if (fun _ => ?_) (fun _ => ?_)
  ·
    refine tw_chk (fun _ => ?_)
    refine tw_calf co2 (fun o5 co5 => ?_)
    refine tw_chk (fun _ => ?_)
    refine tw_chk (fun _ => ?_)
    refine tw_bnds co5 (fun S6 cS6 => ?_)
    exact tw_at cS6 (tt_X1_grow_147)
  ·
    refine tw_chk (fun _ => ?_)
    refine tw_calf co2 (fun o3 co3 => ?_)
    refine tw_chk (fun _ => ?_)
    refine tw_chk (fun _ => ?_)
    refine tw_bnds co3 (fun S4 cS4 => ?_)
    exact tw_at cS4 (tt_X1_grow_147)
noncomputable def d_X1_grow_64 (x0 : Nat) (x1 : Int32) (x2 : Int32) (x3 : Int32) (S : ZS) : Option (Int32 × ZS) :=
  m_chk (zK S x0 = 1) (
  m_bnd ((zI S 3 x0) + (1 : Int32)) (fun v1 =>
  m_chk (zK S x0 = 1) (
  m_bnd (zsI S 3 x0 v1) (fun S2 =>
  m_chk (zK S2 x0 = 1) (
  m_cal (zP S2 2 x0) (fun b3 =>
  m_chk (zK S2 x0 = 1) (
  m_chk (zK S2 b3 = 16) (
  m_chk (¬ ((zI S2 3 x0) < 0 ∨ zN S2 b3 ≤ ((zI S2 3 x0)).toNatClampNeg)) (
  m_bnd (zB S2 b3 ((zI S2 3 x0)).toNatClampNeg) (fun v4 =>
  m_opt v4 (
  m_chk (zK S2 x0 = 1) (
  m_cal (zP S2 2 x0) (fun b6 =>
  m_chk (zK S2 x0 = 1) (
  m_bnd (zt S2) (fun q7 =>
  m_bnd (zsNewO S2 q7 4 7) (fun S8 =>
  m_cal2 (d_X4_init q7 S8) (fun r12 S13 =>
  m_chk (zK S13 b6 = 16) (
  m_chk (zK S13 q7 = 4) (
  m_chk (¬ ((zI S2 3 x0) < 0 ∨ zN S13 b6 ≤ ((zI S2 3 x0)).toNatClampNeg)) (
  m_bnd (zsB S13 b6 ((zI S2 3 x0)).toNatClampNeg (some q7)) (fun S16 =>
  d_X1_grow_102 x0 x1 x2 x3 S16))))))))))) (fun b5 =>
  d_X1_grow_102 x0 x1 x2 x3 S2)))))))))))
theorem tt_X1_grow_64 {Pw : Int32 → ZS → Prop}   {x0 : Nat} {x1 : Int32} {x2 : Int32} {x3 : Int32} {S : ZS} : Tw Pw (d_X1_grow_64 x0 x1 x2 x3 S) (zt S) (zu S) (fun C T => g_X1_grow_64 Pw x0 x1 x2 x3 S C T) := by
  unfold d_X1_grow_64 g_X1_grow_64
  refine tw_chk (fun _ => ?_)
  refine tw_bndv (fun v1 => ?_)
  refine tw_chk (fun _ => ?_)
  refine tw_bnds (⟨rfl, rfl⟩ : zt S = zt S ∧ zu S = zu S) (fun S2 cS2 => ?_)
  refine tw_chk (fun _ => ?_)
  refine tw_calv (fun b3 => ?_)
  refine tw_chk (fun _ => ?_)
  refine tw_chk (fun _ => ?_)
  refine tw_chk (fun _ => ?_)
  refine tw_bndv (fun v4 => ?_)
  refine tw_opt ?_ (fun b5 => ?_)
  ·
    refine tw_chk (fun _ => ?_)
    refine tw_calv (fun b6 => ?_)
    refine tw_chk (fun _ => ?_)
    refine tw_new (fun _ => ⟨congrArg (· + 1) cS2.1, congrArg (· + _) cS2.2⟩) (fun q7 S8 cS8 => ?_)
    refine tw_gal (fun Pw9 => tw_at cS8 tt_X4_init) (fun r12 S13 => ?_)
    refine tw_chk (fun _ => ?_)
    refine tw_chk (fun _ => ?_)
    refine tw_chk (fun _ => ?_)
    refine tw_bnds (⟨rfl, rfl⟩ : zt S13 = zt S13 ∧ zu S13 = zu S13) (fun S16 cS16 => ?_)
    exact tw_at cS16 (tt_X1_grow_102)
  ·
    exact tw_at cS2 (tt_X1_grow_102)
noncomputable def d_X1_grow_24s (self24 : Nat → Int32 → Int32 → Int32 → Int32 → ZS → Option (Int32 × ZS)) (x0 : Nat) (x1 : Int32) (x2 : Int32) (x3 : Int32) (x4 : Int32) (S : ZS) : Option (Int32 × ZS) :=
  m_if ((300 : Int32) ≤ x4) (
  d_X1_grow_64 x0 x1 x2 x3 S
  ) (
  m_if (x3 = (-1 : Int32)) (
  d_X1_grow_64 x0 x1 x2 x3 S
  ) (
  m_chk (zK S x0 = 1) (
  m_cal (f_X1_at x0 x3 S) (fun o1 => m_chk (zt o1.2 = zt S ∧ zu o1.2 = zu S) (
  m_chk (zK o1.2 o1.1 = 4) (
  m_if ((zI o1.2 3 o1.1) = (-1 : Int32)) (
  d_X1_grow_64 x0 x1 x2 x3 o1.2
  ) (
  m_chk (zK o1.2 x0 = 1) (
  m_cal (f_X1_at x0 x3 o1.2) (fun o2 => m_chk (zt o2.2 = zt o1.2 ∧ zu o2.2 = zu o1.2) (
  m_chk (zK o2.2 o2.1 = 4) (
  m_bnd (x4 + (1 : Int32)) (fun v3 =>
  self24 x0 x1 x2 (zI o2.2 3 o2.1) v3 o2.2)))))
  )))))
  )
  )
theorem tt_X1_grow_24s {Pw : Int32 → ZS → Prop} {self24 : Nat → Int32 → Int32 → Int32 → Int32 → ZS → Option (Int32 × ZS)} {self24g : Nat → Int32 → Int32 → Int32 → Int32 → ZS → Nat → Nat → Prop} (hself24 : ∀ (y0 : Nat) (y1 : Int32) (y2 : Int32) (y3 : Int32) (y4 : Int32) (S : ZS), Tw Pw (self24 y0 y1 y2 y3 y4 S) (zt S) (zu S) (fun C T => self24g y0 y1 y2 y3 y4 S C T)) {x0 : Nat} {x1 : Int32} {x2 : Int32} {x3 : Int32} {x4 : Int32} {S : ZS} : Tw Pw (d_X1_grow_24s self24 x0 x1 x2 x3 x4 S) (zt S) (zu S) (fun C T => g_X1_grow_24s Pw self24g x0 x1 x2 x3 x4 S C T) := by
  unfold d_X1_grow_24s g_X1_grow_24s
  refine tw_if (fun _ => ?_) (fun _ => ?_)
  ·
    exact tw_at (⟨rfl, rfl⟩ : zt S = zt S ∧ zu S = zu S) (tt_X1_grow_64)
  ·
    refine tw_if (fun _ => ?_) (fun _ => ?_)
    ·
      exact tw_at (⟨rfl, rfl⟩ : zt S = zt S ∧ zu S = zu S) (tt_X1_grow_64)
    ·
      refine tw_chk (fun _ => ?_)
      refine tw_calf (⟨rfl, rfl⟩ : zt S = zt S ∧ zu S = zu S) (fun o1 co1 => ?_)
      refine tw_chk (fun _ => ?_)
      refine tw_if (fun _ => ?_) (fun _ => ?_)
      ·
        exact tw_at co1 (tt_X1_grow_64)
      ·
        refine tw_chk (fun _ => ?_)
        refine tw_calf co1 (fun o2 co2 => ?_)
        refine tw_chk (fun _ => ?_)
        refine tw_bndv (fun v3 => ?_)
        exact tw_at co2 (hself24 _ _ _ _ _ _)
noncomputable def d_X1_grow_24  : Nat → Nat → Int32 → Int32 → Int32 → Int32 → ZS → Option (Int32 × ZS)
  | 0 => fun _ _ _ _ _ _ => none
  | n + 1 => d_X1_grow_24s  (d_X1_grow_24  n)
theorem tt_X1_grow_24 {Pw : Int32 → ZS → Prop}   {n : Nat} : ∀ {z0 : Nat} {z1 : Int32} {z2 : Int32} {z3 : Int32} {z4 : Int32} {S : ZS}, Tw Pw (d_X1_grow_24  n z0 z1 z2 z3 z4 S) (zt S) (zu S) (fun C T => g_X1_grow_24 Pw  n z0 z1 z2 z3 z4 S C T) := by
  induction n with
  | zero => intro z0 z1 z2 z3 z4 S; exact tw_none
  | succ n ih => intro z0 z1 z2 z3 z4 S; exact tt_X1_grow_24s  (fun _ _ _ _ _ _ => ih)
noncomputable def d_X1_grow_0 (x0 : Nat) (x1 : Int32) (x2 : Int32) (S : ZS) : Option (Int32 × ZS) :=
  m_chk (zK S x0 = 1) (
  m_if ((zI S 3 x0) < (300 : Int32)) (
  m_chk (zK S x0 = 1) (
  m_cal (f_X1_at x0 x1 S) (fun o1 => m_chk (zt o1.2 = zt S ∧ zu o1.2 = zu S) (
  m_chk (zK o1.2 o1.1 = 4) (
  d_X1_grow_24 mFuel x0 x1 x2 (zI o1.2 2 o1.1) (0 : Int32) o1.2))))
  ) (
  some ((-1 : Int32), S)
  ))
theorem tt_X1_grow_0 {Pw : Int32 → ZS → Prop}   {x0 : Nat} {x1 : Int32} {x2 : Int32} {S : ZS} : Tw Pw (d_X1_grow_0 x0 x1 x2 S) (zt S) (zu S) (fun C T => g_X1_grow_0 Pw x0 x1 x2 S C T) := by
  unfold d_X1_grow_0 g_X1_grow_0
  refine tw_chk (fun _ => ?_)
  refine tw_if (fun _ => ?_) (fun _ => ?_)
  ·
    refine tw_chk (fun _ => ?_)
    refine tw_calf (⟨rfl, rfl⟩ : zt S = zt S ∧ zu S = zu S) (fun o1 co1 => ?_)
    refine tw_chk (fun _ => ?_)
    exact tw_at co1 (tt_X1_grow_24)
  ·
    exact tw_ret (⟨rfl, rfl⟩ : zt S = zt S ∧ zu S = zu S)
noncomputable def d_X1_grow (x0 : Nat) (x1 : Int32) (x2 : Int32) (S : ZS) : Option (Int32 × ZS) := d_X1_grow_0 x0 x1 x2 S
theorem tt_X1_grow {Pw : Int32 → ZS → Prop} {x0 : Nat} {x1 : Int32} {x2 : Int32} {S : ZS} : Tw Pw (d_X1_grow x0 x1 x2 S) (zt S) (zu S) (fun C T => g_X1_grow x0 x1 x2 S C T Pw) := tt_X1_grow_0
noncomputable def d_X10_init_0 (x0 : Nat) (S : ZS) : Option (Int32 × ZS) :=
  m_bnd (zt S) (fun q1 =>
  m_bnd (zsNewO S q1 6 2) (fun S2 =>
  m_cal (f_X6_init q1 S2) (fun o5 => m_chk (zt o5.2 = zt S2 ∧ zu o5.2 = zu S2) (
  m_chk (zK o5.2 x0 = 10) (
  m_bnd (zsP o5.2 0 x0 (some q1)) (fun S6 =>
  m_bnd (zt S6) (fun q7 =>
  m_bnd (zsNewO S6 q7 6 2) (fun S8 =>
  m_cal (f_X6_init q7 S8) (fun o11 => m_chk (zt o11.2 = zt S8 ∧ zu o11.2 = zu S8) (
  m_chk (zK o11.2 x0 = 10) (
  m_bnd (zsP o11.2 1 x0 (some q7)) (fun S12 =>
  some (0, S12)))))))))))))
theorem tt_X10_init_0 {Pw : Int32 → ZS → Prop}   {x0 : Nat} {S : ZS} : Tw Pw (d_X10_init_0 x0 S) (zt S) (zu S) (fun C T => g_X10_init_0 Pw x0 S C T) := by
  unfold d_X10_init_0 g_X10_init_0
  refine tw_new (fun _ => ⟨congrArg (· + 1) (⟨rfl, rfl⟩ : zt S = zt S ∧ zu S = zu S).1, congrArg (· + _) (⟨rfl, rfl⟩ : zt S = zt S ∧ zu S = zu S).2⟩) (fun q1 S2 cS2 => ?_)
  refine tw_calf cS2 (fun o5 co5 => ?_)
  refine tw_chk (fun _ => ?_)
  refine tw_bnds co5 (fun S6 cS6 => ?_)
  refine tw_new (fun _ => ⟨congrArg (· + 1) cS6.1, congrArg (· + _) cS6.2⟩) (fun q7 S8 cS8 => ?_)
  refine tw_calf cS8 (fun o11 co11 => ?_)
  refine tw_chk (fun _ => ?_)
  refine tw_bnds co11 (fun S12 cS12 => ?_)
  exact tw_ret cS12
noncomputable def d_X10_init (x0 : Nat) (S : ZS) : Option (Int32 × ZS) := d_X10_init_0 x0 S
theorem tt_X10_init {Pw : Int32 → ZS → Prop} {x0 : Nat} {S : ZS} : Tw Pw (d_X10_init x0 S) (zt S) (zu S) (fun C T => g_X10_init x0 S C T Pw) := tt_X10_init_0
noncomputable def d_X1_tagAt_38 (t0 : Option Nat) (S : ZS) : Option (Nat × ZS) :=
  m_cal t0 (fun b1 =>
  some (b1, S))
theorem tt_X1_tagAt_38 {Pw : Nat → ZS → Prop}   {t0 : Option Nat} {S : ZS} : Tw Pw (d_X1_tagAt_38 t0 S) (zt S) (zu S) (fun C T => g_X1_tagAt_38 Pw t0 S C T) := by
  unfold d_X1_tagAt_38 g_X1_tagAt_38
  refine tw_calv (fun b1 => ?_)
  exact tw_ret (⟨rfl, rfl⟩ : zt S = zt S ∧ zu S = zu S)
noncomputable def d_X1_tagAt_22 (t0 : Option Nat) (S : ZS) : Option (Nat × ZS) :=
  m_opt t0 (
  m_bnd (zt S) (fun q2 =>
  m_bnd (zsNewO S q2 10 2) (fun S3 =>
  m_cal2 (d_X10_init q2 S3) (fun r7 S8 =>
  d_X1_tagAt_38 (some q2) S8)))) (fun b1 =>
  d_X1_tagAt_38 (some b1) S)
theorem tt_X1_tagAt_22 {Pw : Nat → ZS → Prop}   {t0 : Option Nat} {S : ZS} : Tw Pw (d_X1_tagAt_22 t0 S) (zt S) (zu S) (fun C T => g_X1_tagAt_22 Pw t0 S C T) := by
  unfold d_X1_tagAt_22 g_X1_tagAt_22
  refine tw_opt ?_ (fun b1 => ?_)
  ·
    refine tw_new (fun _ => ⟨congrArg (· + 1) (⟨rfl, rfl⟩ : zt S = zt S ∧ zu S = zu S).1, congrArg (· + _) (⟨rfl, rfl⟩ : zt S = zt S ∧ zu S = zu S).2⟩) (fun q2 S3 cS3 => ?_)
    refine tw_gal (fun Pw9 => tw_at cS3 tt_X10_init) (fun r7 S8 => ?_)
    exact tw_at (⟨rfl, rfl⟩ : zt S8 = zt S8 ∧ zu S8 = zu S8) (tt_X1_tagAt_38)
  ·
    exact tw_at (⟨rfl, rfl⟩ : zt S = zt S ∧ zu S = zu S) (tt_X1_tagAt_38)
noncomputable def d_X1_tagAt_21 (S : ZS) : Option (Nat × ZS) :=
  d_X1_tagAt_22 none S
theorem tt_X1_tagAt_21 {Pw : Nat → ZS → Prop}   {S : ZS} : Tw Pw (d_X1_tagAt_21 S) (zt S) (zu S) (fun C T => g_X1_tagAt_21 Pw S C T) := by
  unfold d_X1_tagAt_21 g_X1_tagAt_21
  exact tw_at (⟨rfl, rfl⟩ : zt S = zt S ∧ zu S = zu S) (tt_X1_tagAt_22)
noncomputable def d_X1_tagAt_0 (x0 : Nat) (x1 : Int32) (S : ZS) : Option (Nat × ZS) :=
  m_if (x1 < 0) (
  d_X1_tagAt_21 S
  ) (
  m_chk (zK S x0 = 1) (
  m_if ((zI S 5 x0) ≤ x1) (
  d_X1_tagAt_21 S
  ) (
  m_chk (zK S x0 = 1) (
  m_cal (zP S 4 x0) (fun b1 =>
  m_chk (zK S b1 = 17) (
  m_chk (¬ (x1 < 0 ∨ zN S b1 ≤ (x1).toNatClampNeg)) (
  m_bnd (zB S b1 (x1).toNatClampNeg) (fun v2 =>
  d_X1_tagAt_22 v2 S)))))
  ))
  )
theorem tt_X1_tagAt_0 {Pw : Nat → ZS → Prop}   {x0 : Nat} {x1 : Int32} {S : ZS} : Tw Pw (d_X1_tagAt_0 x0 x1 S) (zt S) (zu S) (fun C T => g_X1_tagAt_0 Pw x0 x1 S C T) := by
  unfold d_X1_tagAt_0 g_X1_tagAt_0
  refine tw_if (fun _ => ?_) (fun _ => ?_)
  ·
    exact tw_at (⟨rfl, rfl⟩ : zt S = zt S ∧ zu S = zu S) (tt_X1_tagAt_21)
  ·
    refine tw_chk (fun _ => ?_)
    refine tw_if (fun _ => ?_) (fun _ => ?_)
    ·
      exact tw_at (⟨rfl, rfl⟩ : zt S = zt S ∧ zu S = zu S) (tt_X1_tagAt_21)
    ·
      refine tw_chk (fun _ => ?_)
      refine tw_calv (fun b1 => ?_)
      refine tw_chk (fun _ => ?_)
      refine tw_chk (fun _ => ?_)
      refine tw_bndv (fun v2 => ?_)
      exact tw_at (⟨rfl, rfl⟩ : zt S = zt S ∧ zu S = zu S) (tt_X1_tagAt_22)
noncomputable def d_X1_tagAt (x0 : Nat) (x1 : Int32) (S : ZS) : Option (Nat × ZS) := d_X1_tagAt_0 x0 x1 S
theorem tt_X1_tagAt {Pw : Nat → ZS → Prop} {x0 : Nat} {x1 : Int32} {S : ZS} : Tw Pw (d_X1_tagAt x0 x1 S) (zt S) (zu S) (fun C T => g_X1_tagAt x0 x1 S C T Pw) := tt_X1_tagAt_0
noncomputable def d_X1_hasTag_2s (self2 : Nat → Nat → Int32 → ZS → Option (Int32 × ZS)) (x0 : Nat) (x1 : Nat) (x2 : Int32) (S : ZS) : Option (Int32 × ZS) :=
  m_chk (zK S x0 = 1) (
  m_if ((zI S 5 x0) ≤ x2) (
  m_chk (vp_nar .boolean (0 : Int32) = (0 : Int32)) (
  some ((0 : Int32), S))
  ) (
  m_chk (zK S x0 = 1) (
  m_cal2 (d_X1_tagAt x0 x2 S) (fun r2 S3 =>
  m_chk (zK S3 r2 = 10) (
  m_cal (zP S3 0 r2) (fun b6 =>
  m_chk (zK S3 b6 = 6) (
  m_cal (f_X6_isLike b6 x1 S3) (fun o7 => m_chk (zt o7.2 = zt S3 ∧ zu o7.2 = zu S3) (
  m_if (o7.1 = 0) (
  m_bnd (x2 + (1 : Int32)) (fun v8 =>
  self2 x0 x1 v8 o7.2)
  ) (
  m_chk (vp_nar .boolean (1 : Int32) = (1 : Int32)) (
  some ((1 : Int32), o7.2))
  ))))))))
  ))
theorem tt_X1_hasTag_2s {Pw : Int32 → ZS → Prop} {self2 : Nat → Nat → Int32 → ZS → Option (Int32 × ZS)} {self2g : Nat → Nat → Int32 → ZS → Nat → Nat → Prop} (hself2 : ∀ (y0 : Nat) (y1 : Nat) (y2 : Int32) (S : ZS), Tw Pw (self2 y0 y1 y2 S) (zt S) (zu S) (fun C T => self2g y0 y1 y2 S C T)) {x0 : Nat} {x1 : Nat} {x2 : Int32} {S : ZS} : Tw Pw (d_X1_hasTag_2s self2 x0 x1 x2 S) (zt S) (zu S) (fun C T => g_X1_hasTag_2s Pw self2g x0 x1 x2 S C T) := by
  unfold d_X1_hasTag_2s g_X1_hasTag_2s
  refine tw_chk (fun _ => ?_)
  refine tw_if (fun _ => ?_) (fun _ => ?_)
  ·
    refine tw_chk (fun _ => ?_)
    exact tw_ret (⟨rfl, rfl⟩ : zt S = zt S ∧ zu S = zu S)
  ·
    refine tw_chk (fun _ => ?_)
    refine tw_galN (fun Pw9 => tw_at (⟨rfl, rfl⟩ : zt S = zt S ∧ zu S = zu S) tt_X1_tagAt) (fun r2 S3 => ?_)
    refine tw_chk (fun _ => ?_)
    refine tw_calv (fun b6 => ?_)
    refine tw_chk (fun _ => ?_)
    refine tw_calf (⟨rfl, rfl⟩ : zt S3 = zt S3 ∧ zu S3 = zu S3) (fun o7 co7 => ?_)
    refine tw_if (fun _ => ?_) (fun _ => ?_)
    ·
      refine tw_bndv (fun v8 => ?_)
      exact tw_at co7 (hself2 _ _ _ _)
    ·
      refine tw_chk (fun _ => ?_)
      exact tw_ret co7
noncomputable def d_X1_hasTag_2  : Nat → Nat → Nat → Int32 → ZS → Option (Int32 × ZS)
  | 0 => fun _ _ _ _ => none
  | n + 1 => d_X1_hasTag_2s  (d_X1_hasTag_2  n)
theorem tt_X1_hasTag_2 {Pw : Int32 → ZS → Prop}   {n : Nat} : ∀ {z0 : Nat} {z1 : Nat} {z2 : Int32} {S : ZS}, Tw Pw (d_X1_hasTag_2  n z0 z1 z2 S) (zt S) (zu S) (fun C T => g_X1_hasTag_2 Pw  n z0 z1 z2 S C T) := by
  induction n with
  | zero => intro z0 z1 z2 S; exact tw_none
  | succ n ih => intro z0 z1 z2 S; exact tt_X1_hasTag_2s  (fun _ _ _ _ => ih)
noncomputable def d_X1_hasTag_0 (x0 : Nat) (x1 : Nat) (S : ZS) : Option (Int32 × ZS) :=
  d_X1_hasTag_2 mFuel x0 x1 (0 : Int32) S
theorem tt_X1_hasTag_0 {Pw : Int32 → ZS → Prop}   {x0 : Nat} {x1 : Nat} {S : ZS} : Tw Pw (d_X1_hasTag_0 x0 x1 S) (zt S) (zu S) (fun C T => g_X1_hasTag_0 Pw x0 x1 S C T) := by
  unfold d_X1_hasTag_0 g_X1_hasTag_0
  exact tw_at (⟨rfl, rfl⟩ : zt S = zt S ∧ zu S = zu S) (tt_X1_hasTag_2)
noncomputable def d_X1_hasTag (x0 : Nat) (x1 : Nat) (S : ZS) : Option (Int32 × ZS) := d_X1_hasTag_0 x0 x1 S
theorem tt_X1_hasTag {Pw : Int32 → ZS → Prop} {x0 : Nat} {x1 : Nat} {S : ZS} : Tw Pw (d_X1_hasTag x0 x1 S) (zt S) (zu S) (fun C T => g_X1_hasTag x0 x1 S C T Pw) := tt_X1_hasTag_0
noncomputable def d_X6_put_43 (x0 : Nat) (x1 : Int32) (S : ZS) : Option (Int32 × ZS) :=
  m_chk (zK S x0 = 6) (
  m_cal (zP S 0 x0) (fun b1 =>
  m_chk (zK S x0 = 6) (
  m_chk (zK S b1 = 13) (
  m_chk (¬ ((zI S 1 x0) < 0 ∨ zN S b1 ≤ ((zI S 1 x0)).toNatClampNeg)) (
  m_bnd (zsA S b1 ((zI S 1 x0)).toNatClampNeg (vp_nar .char x1)) (fun S2 =>
  m_chk (zK S2 x0 = 6) (
  m_bnd ((zI S2 1 x0) + (1 : Int32)) (fun v3 =>
  m_chk (zK S2 x0 = 6) (
  m_bnd (zsI S2 1 x0 v3) (fun S4 =>
  some (0, S4)))))))))))
theorem tt_X6_put_43 {Pw : Int32 → ZS → Prop}   {x0 : Nat} {x1 : Int32} {S : ZS} : Tw Pw (d_X6_put_43 x0 x1 S) (zt S) (zu S) (fun C T => g_X6_put_43 Pw x0 x1 S C T) := by
  unfold d_X6_put_43 g_X6_put_43
  refine tw_chk (fun _ => ?_)
  refine tw_calv (fun b1 => ?_)
  refine tw_chk (fun _ => ?_)
  refine tw_chk (fun _ => ?_)
  refine tw_chk (fun _ => ?_)
  refine tw_bnds (⟨rfl, rfl⟩ : zt S = zt S ∧ zu S = zu S) (fun S2 cS2 => ?_)
  refine tw_chk (fun _ => ?_)
  refine tw_bndv (fun v3 => ?_)
  refine tw_chk (fun _ => ?_)
  refine tw_bnds cS2 (fun S4 cS4 => ?_)
  exact tw_ret cS4
noncomputable def d_X6_put_0 (x0 : Nat) (x1 : Int32) (S : ZS) : Option (Int32 × ZS) :=
  m_chk (zK S x0 = 6) (
  m_chk (zK S x0 = 6) (
  m_cal (zP S 0 x0) (fun b1 =>
  m_chk (b1 = 0 ∨ zK S b1 = 13) (
  m_bnd (Int32.ofNat (if b1 = 0 then 0 else zN S b1)) (fun v2 =>
  m_if ((zI S 1 x0) < v2) (
  d_X6_put_43 x0 x1 S
  ) (
  m_chk (zK S x0 = 6) (
  m_bnd ((2 : Int32) * (zI S 1 x0)) (fun v3 =>
  m_bnd (v3 + (8 : Int32)) (fun v4 =>
  m_chk (¬ v4 < 0 ∧ (v4).toNatClampNeg * componentBytes .char ≤ 536870912) (
  m_bnd (zt S) (fun q5 =>
  m_bnd (zsNewA S q5 13 (v4).toNatClampNeg) (fun S6 =>
  m_chk (zK S6 x0 = 6) (
  m_cal (zP S6 0 x0) (fun b9 =>
  m_chk (zK S6 x0 = 6) (
  m_chk (zK S6 q5 = 13) (
  m_chk ((b9 = 0 ∧ (zI S6 1 x0) = 0) ∨ (zK S6 b9 = 13 ∧ ¬ b9 = 0 ∧ ¬ (zI S6 1 x0) < 0 ∧ ((zI S6 1 x0)).toNatClampNeg ≤ zN S6 b9 ∧ ((zI S6 1 x0)).toNatClampNeg ≤ zN S6 q5 ∧ ∀ i, i < ((zI S6 1 x0)).toNatClampNeg → fits .char (.int (zA S6 b9 i)) = true)) (
  m_bnd (zsD S6 b9 q5 0 0 ((zI S6 1 x0)).toNatClampNeg) (fun S10 =>
  m_chk (zK S10 x0 = 6) (
  m_bnd (zsP S10 0 x0 (some q5)) (fun S11 =>
  d_X6_put_43 x0 x1 S11))))))))))))))
  ))))))
theorem tt_X6_put_0 {Pw : Int32 → ZS → Prop}   {x0 : Nat} {x1 : Int32} {S : ZS} : Tw Pw (d_X6_put_0 x0 x1 S) (zt S) (zu S) (fun C T => g_X6_put_0 Pw x0 x1 S C T) := by
  unfold d_X6_put_0 g_X6_put_0
  refine tw_chk (fun _ => ?_)
  refine tw_chk (fun _ => ?_)
  refine tw_calv (fun b1 => ?_)
  refine tw_chk (fun _ => ?_)
  refine tw_bndv (fun v2 => ?_)
  refine tw_if (fun _ => ?_) (fun _ => ?_)
  ·
    exact tw_at (⟨rfl, rfl⟩ : zt S = zt S ∧ zu S = zu S) (tt_X6_put_43)
  ·
    refine tw_chk (fun _ => ?_)
    refine tw_bndv (fun v3 => ?_)
    refine tw_bndv (fun v4 => ?_)
    refine tw_chk (fun _ => ?_)
    refine tw_new (fun _ => ⟨congrArg (· + 1) (⟨rfl, rfl⟩ : zt S = zt S ∧ zu S = zu S).1, congrArg (· + _) (⟨rfl, rfl⟩ : zt S = zt S ∧ zu S = zu S).2⟩) (fun q5 S6 cS6 => ?_)
    refine tw_chk (fun _ => ?_)
    refine tw_calv (fun b9 => ?_)
    refine tw_chk (fun _ => ?_)
    refine tw_chk (fun _ => ?_)
    refine tw_chk (fun _ => ?_)
    refine tw_bnds cS6 (fun S10 cS10 => ?_)
    refine tw_chk (fun _ => ?_)
    refine tw_bnds cS10 (fun S11 cS11 => ?_)
    exact tw_at cS11 (tt_X6_put_43)
noncomputable def d_X6_put (x0 : Nat) (x1 : Int32) (S : ZS) : Option (Int32 × ZS) := d_X6_put_0 x0 x1 S
theorem tt_X6_put {Pw : Int32 → ZS → Prop} {x0 : Nat} {x1 : Int32} {S : ZS} : Tw Pw (d_X6_put x0 x1 S) (zt S) (zu S) (fun C T => g_X6_put x0 x1 S C T Pw) := tt_X6_put_0
noncomputable def d_X6_putAll_2s (self2 : Nat → Nat → Int32 → ZS → Option (Int32 × ZS)) (x0 : Nat) (x1 : Nat) (x2 : Int32) (S : ZS) : Option (Int32 × ZS) :=
  m_chk (zK S x1 = 6) (
  m_if ((zI S 1 x1) ≤ x2) (
  some (0, S)
  ) (
  m_chk (zK S x1 = 6) (
  m_cal (f_X6_at x1 x2 S) (fun o1 => m_chk (zt o1.2 = zt S ∧ zu o1.2 = zu S) (
  m_chk (zK o1.2 x0 = 6) (
  m_cal2 (d_X6_put x0 o1.1 o1.2) (fun r3 S4 =>
  m_bnd (x2 + (1 : Int32)) (fun v7 =>
  self2 x0 x1 v7 S4))))))
  ))
theorem tt_X6_putAll_2s {Pw : Int32 → ZS → Prop} {self2 : Nat → Nat → Int32 → ZS → Option (Int32 × ZS)} {self2g : Nat → Nat → Int32 → ZS → Nat → Nat → Prop} (hself2 : ∀ (y0 : Nat) (y1 : Nat) (y2 : Int32) (S : ZS), Tw Pw (self2 y0 y1 y2 S) (zt S) (zu S) (fun C T => self2g y0 y1 y2 S C T)) {x0 : Nat} {x1 : Nat} {x2 : Int32} {S : ZS} : Tw Pw (d_X6_putAll_2s self2 x0 x1 x2 S) (zt S) (zu S) (fun C T => g_X6_putAll_2s Pw self2g x0 x1 x2 S C T) := by
  unfold d_X6_putAll_2s g_X6_putAll_2s
  refine tw_chk (fun _ => ?_)
  refine tw_if (fun _ => ?_) (fun _ => ?_)
  ·
    exact tw_ret (⟨rfl, rfl⟩ : zt S = zt S ∧ zu S = zu S)
  ·
    refine tw_chk (fun _ => ?_)
    refine tw_calf (⟨rfl, rfl⟩ : zt S = zt S ∧ zu S = zu S) (fun o1 co1 => ?_)
    refine tw_chk (fun _ => ?_)
    refine tw_gal (fun Pw9 => tw_at co1 tt_X6_put) (fun r3 S4 => ?_)
    refine tw_bndv (fun v7 => ?_)
    exact tw_at (⟨rfl, rfl⟩ : zt S4 = zt S4 ∧ zu S4 = zu S4) (hself2 _ _ _ _)
noncomputable def d_X6_putAll_2  : Nat → Nat → Nat → Int32 → ZS → Option (Int32 × ZS)
  | 0 => fun _ _ _ _ => none
  | n + 1 => d_X6_putAll_2s  (d_X6_putAll_2  n)
theorem tt_X6_putAll_2 {Pw : Int32 → ZS → Prop}   {n : Nat} : ∀ {z0 : Nat} {z1 : Nat} {z2 : Int32} {S : ZS}, Tw Pw (d_X6_putAll_2  n z0 z1 z2 S) (zt S) (zu S) (fun C T => g_X6_putAll_2 Pw  n z0 z1 z2 S C T) := by
  induction n with
  | zero => intro z0 z1 z2 S; exact tw_none
  | succ n ih => intro z0 z1 z2 S; exact tt_X6_putAll_2s  (fun _ _ _ _ => ih)
noncomputable def d_X6_putAll_0 (x0 : Nat) (x1 : Nat) (S : ZS) : Option (Int32 × ZS) :=
  d_X6_putAll_2 mFuel x0 x1 (0 : Int32) S
theorem tt_X6_putAll_0 {Pw : Int32 → ZS → Prop}   {x0 : Nat} {x1 : Nat} {S : ZS} : Tw Pw (d_X6_putAll_0 x0 x1 S) (zt S) (zu S) (fun C T => g_X6_putAll_0 Pw x0 x1 S C T) := by
  unfold d_X6_putAll_0 g_X6_putAll_0
  exact tw_at (⟨rfl, rfl⟩ : zt S = zt S ∧ zu S = zu S) (tt_X6_putAll_2)
noncomputable def d_X6_putAll (x0 : Nat) (x1 : Nat) (S : ZS) : Option (Int32 × ZS) := d_X6_putAll_0 x0 x1 S
theorem tt_X6_putAll {Pw : Int32 → ZS → Prop} {x0 : Nat} {x1 : Nat} {S : ZS} : Tw Pw (d_X6_putAll x0 x1 S) (zt S) (zu S) (fun C T => g_X6_putAll x0 x1 S C T Pw) := tt_X6_putAll_0
noncomputable def d_X6_copyFrom_0 (x0 : Nat) (x1 : Nat) (S : ZS) : Option (Int32 × ZS) :=
  m_chk (zK S x0 = 6) (
  m_bnd (zsI S 1 x0 (0 : Int32)) (fun S1 =>
  m_chk (zK S1 x0 = 6) (
  m_cal2 (d_X6_putAll x0 x1 S1) (fun r3 S4 =>
  some (0, S4)))))
theorem tt_X6_copyFrom_0 {Pw : Int32 → ZS → Prop}   {x0 : Nat} {x1 : Nat} {S : ZS} : Tw Pw (d_X6_copyFrom_0 x0 x1 S) (zt S) (zu S) (fun C T => g_X6_copyFrom_0 Pw x0 x1 S C T) := by
  unfold d_X6_copyFrom_0 g_X6_copyFrom_0
  refine tw_chk (fun _ => ?_)
  refine tw_bnds (⟨rfl, rfl⟩ : zt S = zt S ∧ zu S = zu S) (fun S1 cS1 => ?_)
  refine tw_chk (fun _ => ?_)
  refine tw_gal (fun Pw9 => tw_at cS1 tt_X6_putAll) (fun r3 S4 => ?_)
  exact tw_ret (⟨rfl, rfl⟩ : zt S4 = zt S4 ∧ zu S4 = zu S4)
noncomputable def d_X6_copyFrom (x0 : Nat) (x1 : Nat) (S : ZS) : Option (Int32 × ZS) := d_X6_copyFrom_0 x0 x1 S
theorem tt_X6_copyFrom {Pw : Int32 → ZS → Prop} {x0 : Nat} {x1 : Nat} {S : ZS} : Tw Pw (d_X6_copyFrom x0 x1 S) (zt S) (zu S) (fun C T => g_X6_copyFrom x0 x1 S C T Pw) := tt_X6_copyFrom_0
noncomputable def d_X1_putTag_38 (x0 : Nat) (x1 : Nat) (x2 : Nat) (S : ZS) : Option (Int32 × ZS) :=
  m_chk (zK S x0 = 1) (
  m_bnd ((zI S 5 x0) + (1 : Int32)) (fun v1 =>
  m_chk (zK S x0 = 1) (
  m_bnd (zsI S 5 x0 v1) (fun S2 =>
  m_chk (zK S2 x0 = 1) (
  m_bnd ((zI S2 5 x0) - (1 : Int32)) (fun v3 =>
  m_chk (zK S2 x0 = 1) (
  m_cal2 (d_X1_tagAt x0 v3 S2) (fun r5 S6 =>
  m_chk (zK S6 r5 = 10) (
  m_cal (zP S6 0 r5) (fun b9 =>
  m_chk (zK S6 b9 = 6) (
  m_cal2 (d_X6_copyFrom b9 x1 S6) (fun r11 S12 =>
  m_chk (zK S12 x0 = 1) (
  m_bnd ((zI S12 5 x0) - (1 : Int32)) (fun v15 =>
  m_chk (zK S12 x0 = 1) (
  m_cal2 (d_X1_tagAt x0 v15 S12) (fun r17 S18 =>
  m_chk (zK S18 r17 = 10) (
  m_cal (zP S18 1 r17) (fun b21 =>
  m_chk (zK S18 b21 = 6) (
  m_cal2 (d_X6_copyFrom b21 x2 S18) (fun r23 S24 =>
  some (0, S24)))))))))))))))))))))
theorem tt_X1_putTag_38 {Pw : Int32 → ZS → Prop}   {x0 : Nat} {x1 : Nat} {x2 : Nat} {S : ZS} : Tw Pw (d_X1_putTag_38 x0 x1 x2 S) (zt S) (zu S) (fun C T => g_X1_putTag_38 Pw x0 x1 x2 S C T) := by
  unfold d_X1_putTag_38 g_X1_putTag_38
  refine tw_chk (fun _ => ?_)
  refine tw_bndv (fun v1 => ?_)
  refine tw_chk (fun _ => ?_)
  refine tw_bnds (⟨rfl, rfl⟩ : zt S = zt S ∧ zu S = zu S) (fun S2 cS2 => ?_)
  refine tw_chk (fun _ => ?_)
  refine tw_bndv (fun v3 => ?_)
  refine tw_chk (fun _ => ?_)
  refine tw_galN (fun Pw9 => tw_at cS2 tt_X1_tagAt) (fun r5 S6 => ?_)
  refine tw_chk (fun _ => ?_)
  refine tw_calv (fun b9 => ?_)
  refine tw_chk (fun _ => ?_)
  refine tw_gal (fun Pw9 => tw_at (⟨rfl, rfl⟩ : zt S6 = zt S6 ∧ zu S6 = zu S6) tt_X6_copyFrom) (fun r11 S12 => ?_)
  refine tw_chk (fun _ => ?_)
  refine tw_bndv (fun v15 => ?_)
  refine tw_chk (fun _ => ?_)
  refine tw_galN (fun Pw9 => tw_at (⟨rfl, rfl⟩ : zt S12 = zt S12 ∧ zu S12 = zu S12) tt_X1_tagAt) (fun r17 S18 => ?_)
  refine tw_chk (fun _ => ?_)
  refine tw_calv (fun b21 => ?_)
  refine tw_chk (fun _ => ?_)
  refine tw_gal (fun Pw9 => tw_at (⟨rfl, rfl⟩ : zt S18 = zt S18 ∧ zu S18 = zu S18) tt_X6_copyFrom) (fun r23 S24 => ?_)
  exact tw_ret (⟨rfl, rfl⟩ : zt S24 = zt S24 ∧ zu S24 = zu S24)
noncomputable def d_X1_putTag_0 (x0 : Nat) (x1 : Nat) (x2 : Nat) (S : ZS) : Option (Int32 × ZS) :=
  m_chk (zK S x0 = 1) (
  m_if ((zI S 5 x0) < (8 : Int32)) (
  m_chk (zK S x0 = 1) (
  m_cal (zP S 4 x0) (fun b1 =>
  m_chk (zK S x0 = 1) (
  m_chk (zK S b1 = 17) (
  m_chk (¬ ((zI S 5 x0) < 0 ∨ zN S b1 ≤ ((zI S 5 x0)).toNatClampNeg)) (
  m_bnd (zB S b1 ((zI S 5 x0)).toNatClampNeg) (fun v2 =>
  m_opt v2 (
  m_chk (zK S x0 = 1) (
  m_cal (zP S 4 x0) (fun b4 =>
  m_chk (zK S x0 = 1) (
  m_bnd (zt S) (fun q5 =>
  m_bnd (zsNewO S q5 10 2) (fun S6 =>
  m_cal2 (d_X10_init q5 S6) (fun r10 S11 =>
  m_chk (zK S11 b4 = 17) (
  m_chk (zK S11 q5 = 10) (
  m_chk (¬ ((zI S 5 x0) < 0 ∨ zN S11 b4 ≤ ((zI S 5 x0)).toNatClampNeg)) (
  m_bnd (zsB S11 b4 ((zI S 5 x0)).toNatClampNeg (some q5)) (fun S14 =>
  d_X1_putTag_38 x0 x1 x2 S14))))))))))) (fun b3 =>
  d_X1_putTag_38 x0 x1 x2 S)))))))
  ) (
  some (0, S)
  ))
theorem tt_X1_putTag_0 {Pw : Int32 → ZS → Prop}   {x0 : Nat} {x1 : Nat} {x2 : Nat} {S : ZS} : Tw Pw (d_X1_putTag_0 x0 x1 x2 S) (zt S) (zu S) (fun C T => g_X1_putTag_0 Pw x0 x1 x2 S C T) := by
  unfold d_X1_putTag_0 g_X1_putTag_0
  refine tw_chk (fun _ => ?_)
  refine tw_if (fun _ => ?_) (fun _ => ?_)
  ·
    refine tw_chk (fun _ => ?_)
    refine tw_calv (fun b1 => ?_)
    refine tw_chk (fun _ => ?_)
    refine tw_chk (fun _ => ?_)
    refine tw_chk (fun _ => ?_)
    refine tw_bndv (fun v2 => ?_)
    refine tw_opt ?_ (fun b3 => ?_)
    ·
      refine tw_chk (fun _ => ?_)
      refine tw_calv (fun b4 => ?_)
      refine tw_chk (fun _ => ?_)
      refine tw_new (fun _ => ⟨congrArg (· + 1) (⟨rfl, rfl⟩ : zt S = zt S ∧ zu S = zu S).1, congrArg (· + _) (⟨rfl, rfl⟩ : zt S = zt S ∧ zu S = zu S).2⟩) (fun q5 S6 cS6 => ?_)
      refine tw_gal (fun Pw9 => tw_at cS6 tt_X10_init) (fun r10 S11 => ?_)
      refine tw_chk (fun _ => ?_)
      refine tw_chk (fun _ => ?_)
      refine tw_chk (fun _ => ?_)
      refine tw_bnds (⟨rfl, rfl⟩ : zt S11 = zt S11 ∧ zu S11 = zu S11) (fun S14 cS14 => ?_)
      exact tw_at cS14 (tt_X1_putTag_38)
    ·
      exact tw_at (⟨rfl, rfl⟩ : zt S = zt S ∧ zu S = zu S) (tt_X1_putTag_38)
  ·
    exact tw_ret (⟨rfl, rfl⟩ : zt S = zt S ∧ zu S = zu S)
noncomputable def d_X1_putTag (x0 : Nat) (x1 : Nat) (x2 : Nat) (S : ZS) : Option (Int32 × ZS) := d_X1_putTag_0 x0 x1 x2 S
theorem tt_X1_putTag {Pw : Int32 → ZS → Prop} {x0 : Nat} {x1 : Nat} {x2 : Nat} {S : ZS} : Tw Pw (d_X1_putTag x0 x1 x2 S) (zt S) (zu S) (fun C T => g_X1_putTag x0 x1 x2 S C T Pw) := tt_X1_putTag_0
noncomputable def d_X1_agreesWith_46 (self2 : Nat → Int32 → Int32 → ZS → Option (Int32 × ZS)) (x0 : Nat) (x1 : Int32) (x2 : Int32) (S : ZS) : Option (Int32 × ZS) :=
  m_bnd (x2 + (1 : Int32)) (fun v1 =>
  self2 x0 x1 v1 S)
theorem tt_X1_agreesWith_46 {Pw : Int32 → ZS → Prop} {self2 : Nat → Int32 → Int32 → ZS → Option (Int32 × ZS)} {self2g : Nat → Int32 → Int32 → ZS → Nat → Nat → Prop} (hself2 : ∀ (y0 : Nat) (y1 : Int32) (y2 : Int32) (S : ZS), Tw Pw (self2 y0 y1 y2 S) (zt S) (zu S) (fun C T => self2g y0 y1 y2 S C T)) {x0 : Nat} {x1 : Int32} {x2 : Int32} {S : ZS} : Tw Pw (d_X1_agreesWith_46 self2 x0 x1 x2 S) (zt S) (zu S) (fun C T => g_X1_agreesWith_46 Pw self2g x0 x1 x2 S C T) := by
  unfold d_X1_agreesWith_46 g_X1_agreesWith_46
  refine tw_bndv (fun v1 => ?_)
  exact tw_at (⟨rfl, rfl⟩ : zt S = zt S ∧ zu S = zu S) (hself2 _ _ _ _)
noncomputable def d_X1_agreesWith_2s (self2 : Nat → Int32 → Int32 → ZS → Option (Int32 × ZS)) (x0 : Nat) (x1 : Int32) (x2 : Int32) (S : ZS) : Option (Int32 × ZS) :=
  m_chk (zK S x0 = 1) (
  m_if ((zI S 5 x0) ≤ x2) (
  m_chk (vp_nar .boolean (1 : Int32) = (1 : Int32)) (
  some ((1 : Int32), S))
  ) (
  m_chk (zK S x0 = 1) (
  m_cal2 (d_X1_tagAt x0 x2 S) (fun r2 S3 =>
  m_chk (zK S3 r2 = 10) (
  m_cal (zP S3 0 r2) (fun b6 =>
  m_chk (zK S3 b6 = 6) (
  m_cal (f_X6_is b6 10 S3) (fun o7 => m_chk (zt o7.2 = zt S3 ∧ zu o7.2 = zu S3) (
  m_if (o7.1 = 0) (
  d_X1_agreesWith_46 self2 x0 x1 x2 o7.2
  ) (
  m_chk (zK o7.2 x0 = 1) (
  m_cal2 (d_X1_tagAt x0 x2 o7.2) (fun r9 S10 =>
  m_chk (zK S10 r9 = 10) (
  m_cal (zP S10 1 r9) (fun b13 =>
  m_cal (f_X11_resultSign x1 S10) (fun o14 => m_chk (zt o14.2 = zt S10 ∧ zu o14.2 = zu S10) (
  m_chk (zK o14.2 b13 = 6) (
  m_cal (f_X6_is b13 o14.1 o14.2) (fun o15 => m_chk (zt o15.2 = zt o14.2 ∧ zu o15.2 = zu o14.2) (
  m_if (o15.1 = 0) (
  m_chk (vp_nar .boolean (0 : Int32) = (0 : Int32)) (
  some ((0 : Int32), o15.2))
  ) (
  d_X1_agreesWith_46 self2 x0 x1 x2 o15.2
  ))))))))))
  ))))))))
  ))
theorem tt_X1_agreesWith_2s {Pw : Int32 → ZS → Prop} {self2 : Nat → Int32 → Int32 → ZS → Option (Int32 × ZS)} {self2g : Nat → Int32 → Int32 → ZS → Nat → Nat → Prop} (hself2 : ∀ (y0 : Nat) (y1 : Int32) (y2 : Int32) (S : ZS), Tw Pw (self2 y0 y1 y2 S) (zt S) (zu S) (fun C T => self2g y0 y1 y2 S C T)) {x0 : Nat} {x1 : Int32} {x2 : Int32} {S : ZS} : Tw Pw (d_X1_agreesWith_2s self2 x0 x1 x2 S) (zt S) (zu S) (fun C T => g_X1_agreesWith_2s Pw self2g x0 x1 x2 S C T) := by
  unfold d_X1_agreesWith_2s g_X1_agreesWith_2s
  refine tw_chk (fun _ => ?_)
  refine tw_if (fun _ => ?_) (fun _ => ?_)
  ·
    refine tw_chk (fun _ => ?_)
    exact tw_ret (⟨rfl, rfl⟩ : zt S = zt S ∧ zu S = zu S)
  ·
    refine tw_chk (fun _ => ?_)
    refine tw_galN (fun Pw9 => tw_at (⟨rfl, rfl⟩ : zt S = zt S ∧ zu S = zu S) tt_X1_tagAt) (fun r2 S3 => ?_)
    refine tw_chk (fun _ => ?_)
    refine tw_calv (fun b6 => ?_)
    refine tw_chk (fun _ => ?_)
    refine tw_calf (⟨rfl, rfl⟩ : zt S3 = zt S3 ∧ zu S3 = zu S3) (fun o7 co7 => ?_)
    refine tw_if (fun _ => ?_) (fun _ => ?_)
    ·
      exact tw_at co7 (tt_X1_agreesWith_46 hself2)
    ·
      refine tw_chk (fun _ => ?_)
      refine tw_galN (fun Pw9 => tw_at co7 tt_X1_tagAt) (fun r9 S10 => ?_)
      refine tw_chk (fun _ => ?_)
      refine tw_calv (fun b13 => ?_)
      refine tw_calf (⟨rfl, rfl⟩ : zt S10 = zt S10 ∧ zu S10 = zu S10) (fun o14 co14 => ?_)
      refine tw_chk (fun _ => ?_)
      refine tw_calf co14 (fun o15 co15 => ?_)
      refine tw_if (fun _ => ?_) (fun _ => ?_)
      ·
        refine tw_chk (fun _ => ?_)
        exact tw_ret co15
      ·
        exact tw_at co15 (tt_X1_agreesWith_46 hself2)
end
section
noncomputable def d_X1_agreesWith_2  : Nat → Nat → Int32 → Int32 → ZS → Option (Int32 × ZS)
  | 0 => fun _ _ _ _ => none
  | n + 1 => d_X1_agreesWith_2s  (d_X1_agreesWith_2  n)
theorem tt_X1_agreesWith_2 {Pw : Int32 → ZS → Prop}   {n : Nat} : ∀ {z0 : Nat} {z1 : Int32} {z2 : Int32} {S : ZS}, Tw Pw (d_X1_agreesWith_2  n z0 z1 z2 S) (zt S) (zu S) (fun C T => g_X1_agreesWith_2 Pw  n z0 z1 z2 S C T) := by
  induction n with
  | zero => intro z0 z1 z2 S; exact tw_none
  | succ n ih => intro z0 z1 z2 S; exact tt_X1_agreesWith_2s  (fun _ _ _ _ => ih)
noncomputable def d_X1_agreesWith_0 (x0 : Nat) (x1 : Int32) (S : ZS) : Option (Int32 × ZS) :=
  d_X1_agreesWith_2 mFuel x0 x1 (0 : Int32) S
theorem tt_X1_agreesWith_0 {Pw : Int32 → ZS → Prop}   {x0 : Nat} {x1 : Int32} {S : ZS} : Tw Pw (d_X1_agreesWith_0 x0 x1 S) (zt S) (zu S) (fun C T => g_X1_agreesWith_0 Pw x0 x1 S C T) := by
  unfold d_X1_agreesWith_0 g_X1_agreesWith_0
  exact tw_at (⟨rfl, rfl⟩ : zt S = zt S ∧ zu S = zu S) (tt_X1_agreesWith_2)
noncomputable def d_X1_agreesWith (x0 : Nat) (x1 : Int32) (S : ZS) : Option (Int32 × ZS) := d_X1_agreesWith_0 x0 x1 S
theorem tt_X1_agreesWith {Pw : Int32 → ZS → Prop} {x0 : Nat} {x1 : Int32} {S : ZS} : Tw Pw (d_X1_agreesWith x0 x1 S) (zt S) (zu S) (fun C T => g_X1_agreesWith x0 x1 S C T Pw) := tt_X1_agreesWith_0
noncomputable def d_X7_init_0 (x0 : Nat) (S : ZS) : Option (Int32 × ZS) :=
  m_bnd (zt S) (fun q1 =>
  m_bnd (zsNewO S q1 0 7) (fun S2 =>
  m_cal2 (d_X0_init q1 S2) (fun r6 S7 =>
  m_chk (zK S7 x0 = 7) (
  m_bnd (zsP S7 0 x0 (some q1)) (fun S10 =>
  m_bnd (zt S10) (fun q11 =>
  m_bnd (zsNewO S10 q11 0 7) (fun S12 =>
  m_cal2 (d_X0_init q11 S12) (fun r16 S17 =>
  m_chk (zK S17 x0 = 7) (
  m_bnd (zsP S17 1 x0 (some q11)) (fun S20 =>
  some (0, S20)))))))))))
theorem tt_X7_init_0 {Pw : Int32 → ZS → Prop}   {x0 : Nat} {S : ZS} : Tw Pw (d_X7_init_0 x0 S) (zt S) (zu S) (fun C T => g_X7_init_0 Pw x0 S C T) := by
  unfold d_X7_init_0 g_X7_init_0
  refine tw_new (fun _ => ⟨congrArg (· + 1) (⟨rfl, rfl⟩ : zt S = zt S ∧ zu S = zu S).1, congrArg (· + _) (⟨rfl, rfl⟩ : zt S = zt S ∧ zu S = zu S).2⟩) (fun q1 S2 cS2 => ?_)
  refine tw_gal (fun Pw9 => tw_at cS2 tt_X0_init) (fun r6 S7 => ?_)
  refine tw_chk (fun _ => ?_)
  refine tw_bnds (⟨rfl, rfl⟩ : zt S7 = zt S7 ∧ zu S7 = zu S7) (fun S10 cS10 => ?_)
  refine tw_new (fun _ => ⟨congrArg (· + 1) cS10.1, congrArg (· + _) cS10.2⟩) (fun q11 S12 cS12 => ?_)
  refine tw_gal (fun Pw9 => tw_at cS12 tt_X0_init) (fun r16 S17 => ?_)
  refine tw_chk (fun _ => ?_)
  refine tw_bnds (⟨rfl, rfl⟩ : zt S17 = zt S17 ∧ zu S17 = zu S17) (fun S20 cS20 => ?_)
  exact tw_ret cS20
noncomputable def d_X7_init (x0 : Nat) (S : ZS) : Option (Int32 × ZS) := d_X7_init_0 x0 S
theorem tt_X7_init {Pw : Int32 → ZS → Prop} {x0 : Nat} {S : ZS} : Tw Pw (d_X7_init x0 S) (zt S) (zu S) (fun C T => g_X7_init x0 S C T Pw) := tt_X7_init_0
noncomputable def d_X8_init_0 (x0 : Nat) (S : ZS) : Option (Int32 × ZS) :=
  m_bnd (zt S) (fun q1 =>
  m_bnd (zsNewO S q1 7 2) (fun S2 =>
  m_cal2 (d_X7_init q1 S2) (fun r6 S7 =>
  m_chk (zK S7 x0 = 8) (
  m_bnd (zsP S7 0 x0 (some q1)) (fun S10 =>
  m_bnd (zt S10) (fun q11 =>
  m_bnd (zsNewO S10 q11 6 2) (fun S12 =>
  m_cal (f_X6_init q11 S12) (fun o15 => m_chk (zt o15.2 = zt S12 ∧ zu o15.2 = zu S12) (
  m_chk (zK o15.2 x0 = 8) (
  m_bnd (zsP o15.2 1 x0 (some q11)) (fun S16 =>
  m_chk (¬ (64 : Int32) < 0 ∧ ((64 : Int32)).toNatClampNeg * componentBytes .int ≤ 536870912) (
  m_bnd (zt S16) (fun q17 =>
  m_bnd (zsNewA S16 q17 14 ((64 : Int32)).toNatClampNeg) (fun S18 =>
  m_chk (zK S18 x0 = 8) (
  m_bnd (zsP S18 10 x0 (some q17)) (fun S21 =>
  some (0, S21)))))))))))))))))
theorem tt_X8_init_0 {Pw : Int32 → ZS → Prop}   {x0 : Nat} {S : ZS} : Tw Pw (d_X8_init_0 x0 S) (zt S) (zu S) (fun C T => g_X8_init_0 Pw x0 S C T) := by
  unfold d_X8_init_0 g_X8_init_0
  refine tw_new (fun _ => ⟨congrArg (· + 1) (⟨rfl, rfl⟩ : zt S = zt S ∧ zu S = zu S).1, congrArg (· + _) (⟨rfl, rfl⟩ : zt S = zt S ∧ zu S = zu S).2⟩) (fun q1 S2 cS2 => ?_)
  refine tw_gal (fun Pw9 => tw_at cS2 tt_X7_init) (fun r6 S7 => ?_)
  refine tw_chk (fun _ => ?_)
  refine tw_bnds (⟨rfl, rfl⟩ : zt S7 = zt S7 ∧ zu S7 = zu S7) (fun S10 cS10 => ?_)
  refine tw_new (fun _ => ⟨congrArg (· + 1) cS10.1, congrArg (· + _) cS10.2⟩) (fun q11 S12 cS12 => ?_)
  refine tw_calf cS12 (fun o15 co15 => ?_)
  refine tw_chk (fun _ => ?_)
  refine tw_bnds co15 (fun S16 cS16 => ?_)
  refine tw_chk (fun _ => ?_)
  refine tw_new (fun _ => ⟨congrArg (· + 1) cS16.1, congrArg (· + _) cS16.2⟩) (fun q17 S18 cS18 => ?_)
  refine tw_chk (fun _ => ?_)
  refine tw_bnds cS18 (fun S21 cS21 => ?_)
  exact tw_ret cS21
noncomputable def d_X8_init (x0 : Nat) (S : ZS) : Option (Int32 × ZS) := d_X8_init_0 x0 S
theorem tt_X8_init {Pw : Int32 → ZS → Prop} {x0 : Nat} {S : ZS} : Tw Pw (d_X8_init x0 S) (zt S) (zu S) (fun C T => g_X8_init x0 S C T Pw) := tt_X8_init_0
noncomputable def d_X5_init_0 (x0 : Nat) (S : ZS) : Option (Int32 × ZS) :=
  m_bnd (zt S) (fun q1 =>
  m_bnd (zsNewO S q1 6 2) (fun S2 =>
  m_cal (f_X6_init q1 S2) (fun o5 => m_chk (zt o5.2 = zt S2 ∧ zu o5.2 = zu S2) (
  m_chk (zK o5.2 x0 = 5) (
  m_bnd (zsP o5.2 0 x0 (some q1)) (fun S6 =>
  m_chk (zK S6 x0 = 5) (
  m_bnd (zsI S6 1 x0 (0 : Int32)) (fun S7 =>
  some (0, S7)))))))))
theorem tt_X5_init_0 {Pw : Int32 → ZS → Prop}   {x0 : Nat} {S : ZS} : Tw Pw (d_X5_init_0 x0 S) (zt S) (zu S) (fun C T => g_X5_init_0 Pw x0 S C T) := by
  unfold d_X5_init_0 g_X5_init_0
  refine tw_new (fun _ => ⟨congrArg (· + 1) (⟨rfl, rfl⟩ : zt S = zt S ∧ zu S = zu S).1, congrArg (· + _) (⟨rfl, rfl⟩ : zt S = zt S ∧ zu S = zu S).2⟩) (fun q1 S2 cS2 => ?_)
  refine tw_calf cS2 (fun o5 co5 => ?_)
  refine tw_chk (fun _ => ?_)
  refine tw_bnds co5 (fun S6 cS6 => ?_)
  refine tw_chk (fun _ => ?_)
  refine tw_bnds cS6 (fun S7 cS7 => ?_)
  exact tw_ret cS7
noncomputable def d_X5_init (x0 : Nat) (S : ZS) : Option (Int32 × ZS) := d_X5_init_0 x0 S
theorem tt_X5_init {Pw : Int32 → ZS → Prop} {x0 : Nat} {S : ZS} : Tw Pw (d_X5_init x0 S) (zt S) (zu S) (fun C T => g_X5_init x0 S C T Pw) := tt_X5_init_0
noncomputable def d_X2_init_116s (self116 : Nat → Int32 → ZS → Option (Int32 × ZS)) (x0 : Nat) (x1 : Int32) (S : ZS) : Option (Int32 × ZS) :=
  m_if ((6 : Int32) < x1) (
  some (0, S)
  ) (
  m_chk (zK S x0 = 2) (
  m_cal (zP S 10 x0) (fun b1 =>
  m_bnd (zt S) (fun q2 =>
  m_bnd (zsNewO S q2 0 7) (fun S3 =>
  m_cal2 (d_X0_init q2 S3) (fun r7 S8 =>
  m_chk (zK S8 b1 = 15) (
  m_chk (zK S8 q2 = 0) (
  m_chk (¬ (x1 < 0 ∨ zN S8 b1 ≤ (x1).toNatClampNeg)) (
  m_bnd (zsB S8 b1 (x1).toNatClampNeg (some q2)) (fun S11 =>
  m_chk (zK S11 x0 = 2) (
  m_cal (zP S11 11 x0) (fun b12 =>
  m_bnd (zt S11) (fun q13 =>
  m_bnd (zsNewO S11 q13 0 7) (fun S14 =>
  m_cal2 (d_X0_init q13 S14) (fun r18 S19 =>
  m_chk (zK S19 b12 = 15) (
  m_chk (zK S19 q13 = 0) (
  m_chk (¬ (x1 < 0 ∨ zN S19 b12 ≤ (x1).toNatClampNeg)) (
  m_bnd (zsB S19 b12 (x1).toNatClampNeg (some q13)) (fun S22 =>
  m_bnd (x1 + (1 : Int32)) (fun v23 =>
  self116 x0 v23 S22)))))))))))))))))))
  )
theorem tt_X2_init_116s {Pw : Int32 → ZS → Prop} {self116 : Nat → Int32 → ZS → Option (Int32 × ZS)} {self116g : Nat → Int32 → ZS → Nat → Nat → Prop} (hself116 : ∀ (y0 : Nat) (y1 : Int32) (S : ZS), Tw Pw (self116 y0 y1 S) (zt S) (zu S) (fun C T => self116g y0 y1 S C T)) {x0 : Nat} {x1 : Int32} {S : ZS} : Tw Pw (d_X2_init_116s self116 x0 x1 S) (zt S) (zu S) (fun C T => g_X2_init_116s Pw self116g x0 x1 S C T) := by
  unfold d_X2_init_116s g_X2_init_116s
  refine tw_if (fun _ => ?_) (fun _ => ?_)
  ·
    exact tw_ret (⟨rfl, rfl⟩ : zt S = zt S ∧ zu S = zu S)
  ·
    refine tw_chk (fun _ => ?_)
    refine tw_calv (fun b1 => ?_)
    refine tw_new (fun _ => ⟨congrArg (· + 1) (⟨rfl, rfl⟩ : zt S = zt S ∧ zu S = zu S).1, congrArg (· + _) (⟨rfl, rfl⟩ : zt S = zt S ∧ zu S = zu S).2⟩) (fun q2 S3 cS3 => ?_)
    refine tw_gal (fun Pw9 => tw_at cS3 tt_X0_init) (fun r7 S8 => ?_)
    refine tw_chk (fun _ => ?_)
    refine tw_chk (fun _ => ?_)
    refine tw_chk (fun _ => ?_)
    refine tw_bnds (⟨rfl, rfl⟩ : zt S8 = zt S8 ∧ zu S8 = zu S8) (fun S11 cS11 => ?_)
    refine tw_chk (fun _ => ?_)
    refine tw_calv (fun b12 => ?_)
    refine tw_new (fun _ => ⟨congrArg (· + 1) cS11.1, congrArg (· + _) cS11.2⟩) (fun q13 S14 cS14 => ?_)
    refine tw_gal (fun Pw9 => tw_at cS14 tt_X0_init) (fun r18 S19 => ?_)
    refine tw_chk (fun _ => ?_)
    refine tw_chk (fun _ => ?_)
    refine tw_chk (fun _ => ?_)
    refine tw_bnds (⟨rfl, rfl⟩ : zt S19 = zt S19 ∧ zu S19 = zu S19) (fun S22 cS22 => ?_)
    refine tw_bndv (fun v23 => ?_)
    exact tw_at cS22 (hself116 _ _ _)
noncomputable def d_X2_init_116  : Nat → Nat → Int32 → ZS → Option (Int32 × ZS)
  | 0 => fun _ _ _ => none
  | n + 1 => d_X2_init_116s  (d_X2_init_116  n)
theorem tt_X2_init_116 {Pw : Int32 → ZS → Prop}   {n : Nat} : ∀ {z0 : Nat} {z1 : Int32} {S : ZS}, Tw Pw (d_X2_init_116  n z0 z1 S) (zt S) (zu S) (fun C T => g_X2_init_116 Pw  n z0 z1 S C T) := by
  induction n with
  | zero => intro z0 z1 S; exact tw_none
  | succ n ih => intro z0 z1 S; exact tt_X2_init_116s  (fun _ _ _ => ih)
noncomputable def d_X2_init_0 (x0 : Nat) (S : ZS) : Option (Int32 × ZS) :=
  m_bnd (zt S) (fun q1 =>
  m_bnd (zsNewO S q1 8 12) (fun S2 =>
  m_cal2 (d_X8_init q1 S2) (fun r6 S7 =>
  m_chk (zK S7 x0 = 2) (
  m_bnd (zsP S7 0 x0 (some q1)) (fun S10 =>
  m_bnd (zt S10) (fun q11 =>
  m_bnd (zsNewO S10 q11 5 2) (fun S12 =>
  m_cal2 (d_X5_init q11 S12) (fun r16 S17 =>
  m_chk (zK S17 x0 = 2) (
  m_bnd (zsP S17 1 x0 (some q11)) (fun S20 =>
  m_bnd (zt S20) (fun q21 =>
  m_bnd (zsNewO S20 q21 6 2) (fun S22 =>
  m_cal (f_X6_init q21 S22) (fun o25 => m_chk (zt o25.2 = zt S22 ∧ zu o25.2 = zu S22) (
  m_chk (zK o25.2 x0 = 2) (
  m_bnd (zsP o25.2 2 x0 (some q21)) (fun S26 =>
  m_bnd (zt S26) (fun q27 =>
  m_bnd (zsNewO S26 q27 1 8) (fun S28 =>
  m_cal2 (d_X1_init q27 S28) (fun r32 S33 =>
  m_chk (zK S33 x0 = 2) (
  m_bnd (zsP S33 3 x0 (some q27)) (fun S36 =>
  m_chk (zK S36 x0 = 2) (
  m_bnd (zsI S36 4 x0 (0 : Int32)) (fun S37 =>
  m_chk (zK S37 x0 = 2) (
  m_bnd (zsI S37 5 x0 (0 : Int32)) (fun S38 =>
  m_bnd (zt S38) (fun q39 =>
  m_bnd (zsNewO S38 q39 6 2) (fun S40 =>
  m_cal (f_X6_init q39 S40) (fun o43 => m_chk (zt o43.2 = zt S40 ∧ zu o43.2 = zu S40) (
  m_chk (zK o43.2 x0 = 2) (
  m_bnd (zsP o43.2 6 x0 (some q39)) (fun S44 =>
  m_bnd (zt S44) (fun q45 =>
  m_bnd (zsNewO S44 q45 6 2) (fun S46 =>
  m_cal (f_X6_init q45 S46) (fun o49 => m_chk (zt o49.2 = zt S46 ∧ zu o49.2 = zu S46) (
  m_chk (zK o49.2 x0 = 2) (
  m_bnd (zsP o49.2 7 x0 (some q45)) (fun S50 =>
  m_chk (¬ (7 : Int32) < 0 ∧ ((7 : Int32)).toNatClampNeg * componentBytes .int ≤ 536870912) (
  m_bnd (zt S50) (fun q51 =>
  m_bnd (zsNewA S50 q51 14 ((7 : Int32)).toNatClampNeg) (fun S52 =>
  m_chk (zK S52 x0 = 2) (
  m_bnd (zsP S52 8 x0 (some q51)) (fun S55 =>
  m_chk (¬ (7 : Int32) < 0 ∧ ((7 : Int32)).toNatClampNeg * componentBytes .int ≤ 536870912) (
  m_bnd (zt S55) (fun q56 =>
  m_bnd (zsNewA S55 q56 14 ((7 : Int32)).toNatClampNeg) (fun S57 =>
  m_chk (zK S57 x0 = 2) (
  m_bnd (zsP S57 9 x0 (some q56)) (fun S60 =>
  m_chk (¬ (7 : Int32) < 0 ∧ ((7 : Int32)).toNatClampNeg * 4 ≤ 536870912) (
  m_bnd (zt S60) (fun q61 =>
  m_bnd (zsNewA S60 q61 15 ((7 : Int32)).toNatClampNeg) (fun S62 =>
  m_chk (zK S62 x0 = 2) (
  m_bnd (zsP S62 10 x0 (some q61)) (fun S65 =>
  m_chk (¬ (7 : Int32) < 0 ∧ ((7 : Int32)).toNatClampNeg * 4 ≤ 536870912) (
  m_bnd (zt S65) (fun q66 =>
  m_bnd (zsNewA S65 q66 15 ((7 : Int32)).toNatClampNeg) (fun S67 =>
  m_chk (zK S67 x0 = 2) (
  m_bnd (zsP S67 11 x0 (some q66)) (fun S70 =>
  d_X2_init_116 mFuel x0 (0 : Int32) S70)))))))))))))))))))))))))))))))))))))))))))))))))))))))))
theorem tt_X2_init_0 {Pw : Int32 → ZS → Prop}   {x0 : Nat} {S : ZS} : Tw Pw (d_X2_init_0 x0 S) (zt S) (zu S) (fun C T => g_X2_init_0 Pw x0 S C T) := by
  unfold d_X2_init_0 g_X2_init_0
  refine tw_new (fun _ => ⟨congrArg (· + 1) (⟨rfl, rfl⟩ : zt S = zt S ∧ zu S = zu S).1, congrArg (· + _) (⟨rfl, rfl⟩ : zt S = zt S ∧ zu S = zu S).2⟩) (fun q1 S2 cS2 => ?_)
  refine tw_gal (fun Pw9 => tw_at cS2 tt_X8_init) (fun r6 S7 => ?_)
  refine tw_chk (fun _ => ?_)
  refine tw_bnds (⟨rfl, rfl⟩ : zt S7 = zt S7 ∧ zu S7 = zu S7) (fun S10 cS10 => ?_)
  refine tw_new (fun _ => ⟨congrArg (· + 1) cS10.1, congrArg (· + _) cS10.2⟩) (fun q11 S12 cS12 => ?_)
  refine tw_gal (fun Pw9 => tw_at cS12 tt_X5_init) (fun r16 S17 => ?_)
  refine tw_chk (fun _ => ?_)
  refine tw_bnds (⟨rfl, rfl⟩ : zt S17 = zt S17 ∧ zu S17 = zu S17) (fun S20 cS20 => ?_)
  refine tw_new (fun _ => ⟨congrArg (· + 1) cS20.1, congrArg (· + _) cS20.2⟩) (fun q21 S22 cS22 => ?_)
  refine tw_calf cS22 (fun o25 co25 => ?_)
  refine tw_chk (fun _ => ?_)
  refine tw_bnds co25 (fun S26 cS26 => ?_)
  refine tw_new (fun _ => ⟨congrArg (· + 1) cS26.1, congrArg (· + _) cS26.2⟩) (fun q27 S28 cS28 => ?_)
  refine tw_gal (fun Pw9 => tw_at cS28 tt_X1_init) (fun r32 S33 => ?_)
  refine tw_chk (fun _ => ?_)
  refine tw_bnds (⟨rfl, rfl⟩ : zt S33 = zt S33 ∧ zu S33 = zu S33) (fun S36 cS36 => ?_)
  refine tw_chk (fun _ => ?_)
  refine tw_bnds cS36 (fun S37 cS37 => ?_)
  refine tw_chk (fun _ => ?_)
  refine tw_bnds cS37 (fun S38 cS38 => ?_)
  refine tw_new (fun _ => ⟨congrArg (· + 1) cS38.1, congrArg (· + _) cS38.2⟩) (fun q39 S40 cS40 => ?_)
  refine tw_calf cS40 (fun o43 co43 => ?_)
  refine tw_chk (fun _ => ?_)
  refine tw_bnds co43 (fun S44 cS44 => ?_)
  refine tw_new (fun _ => ⟨congrArg (· + 1) cS44.1, congrArg (· + _) cS44.2⟩) (fun q45 S46 cS46 => ?_)
  refine tw_calf cS46 (fun o49 co49 => ?_)
  refine tw_chk (fun _ => ?_)
  refine tw_bnds co49 (fun S50 cS50 => ?_)
  refine tw_chk (fun _ => ?_)
  refine tw_new (fun _ => ⟨congrArg (· + 1) cS50.1, congrArg (· + _) cS50.2⟩) (fun q51 S52 cS52 => ?_)
  refine tw_chk (fun _ => ?_)
  refine tw_bnds cS52 (fun S55 cS55 => ?_)
  refine tw_chk (fun _ => ?_)
  refine tw_new (fun _ => ⟨congrArg (· + 1) cS55.1, congrArg (· + _) cS55.2⟩) (fun q56 S57 cS57 => ?_)
  refine tw_chk (fun _ => ?_)
  refine tw_bnds cS57 (fun S60 cS60 => ?_)
  refine tw_chk (fun _ => ?_)
  refine tw_new (fun _ => ⟨congrArg (· + 1) cS60.1, congrArg (· + _) cS60.2⟩) (fun q61 S62 cS62 => ?_)
  refine tw_chk (fun _ => ?_)
  refine tw_bnds cS62 (fun S65 cS65 => ?_)
  refine tw_chk (fun _ => ?_)
  refine tw_new (fun _ => ⟨congrArg (· + 1) cS65.1, congrArg (· + _) cS65.2⟩) (fun q66 S67 cS67 => ?_)
  refine tw_chk (fun _ => ?_)
  refine tw_bnds cS67 (fun S70 cS70 => ?_)
  exact tw_at cS70 (tt_X2_init_116)
noncomputable def d_X2_init (x0 : Nat) (S : ZS) : Option (Int32 × ZS) := d_X2_init_0 x0 S
theorem tt_X2_init {Pw : Int32 → ZS → Prop} {x0 : Nat} {S : ZS} : Tw Pw (d_X2_init x0 S) (zt S) (zu S) (fun C T => g_X2_init x0 S C T Pw) := tt_X2_init_0
noncomputable def d_X2_readName_128 (t0 : Int32) (S : ZS) : Option (Int32 × ZS) :=
  m_chk (vp_nar .boolean t0 = t0) (
  some (t0, S))
theorem tt_X2_readName_128 {Pw : Int32 → ZS → Prop}   {t0 : Int32} {S : ZS} : Tw Pw (d_X2_readName_128 t0 S) (zt S) (zu S) (fun C T => g_X2_readName_128 Pw t0 S C T) := by
  unfold d_X2_readName_128 g_X2_readName_128
  refine tw_chk (fun _ => ?_)
  exact tw_ret (⟨rfl, rfl⟩ : zt S = zt S ∧ zu S = zu S)
noncomputable def d_X2_readName_123 (S : ZS) : Option (Int32 × ZS) :=
  d_X2_readName_128 (1 : Int32) S
theorem tt_X2_readName_123 {Pw : Int32 → ZS → Prop}   {S : ZS} : Tw Pw (d_X2_readName_123 S) (zt S) (zu S) (fun C T => g_X2_readName_123 Pw S C T) := by
  unfold d_X2_readName_123 g_X2_readName_123
  exact tw_at (⟨rfl, rfl⟩ : zt S = zt S ∧ zu S = zu S) (tt_X2_readName_128)
noncomputable def d_X2_readName_101 (x0 : Nat) (S : ZS) : Option (Int32 × ZS) :=
  m_chk (zK S x0 = 2) (
  m_cal (zP S 6 x0) (fun b1 =>
  m_chk (zK S b1 = 6) (
  m_cal (f_X6_size b1 S) (fun o2 => m_chk (zt o2.2 = zt S ∧ zu o2.2 = zu S) (
  m_if (0 < o2.1) (
  d_X2_readName_123 o2.2
  ) (
  m_chk (zK o2.2 x0 = 2) (
  m_chk (zK o2.2 x0 = 2) (
  m_cal (f_X2_refuse x0 (1 : Int32) (zI o2.2 4 x0) o2.2) (fun o3 => m_chk (zt o3.2 = zt o2.2 ∧ zu o3.2 = zu o2.2) (
  m_if (o3.1 = 0) (
  d_X2_readName_128 (0 : Int32) o3.2
  ) (
  d_X2_readName_123 o3.2
  )))))
  ))))))
theorem tt_X2_readName_101 {Pw : Int32 → ZS → Prop}   {x0 : Nat} {S : ZS} : Tw Pw (d_X2_readName_101 x0 S) (zt S) (zu S) (fun C T => g_X2_readName_101 Pw x0 S C T) := by
  unfold d_X2_readName_101 g_X2_readName_101
  refine tw_chk (fun _ => ?_)
  refine tw_calv (fun b1 => ?_)
  refine tw_chk (fun _ => ?_)
  refine tw_calf (⟨rfl, rfl⟩ : zt S = zt S ∧ zu S = zu S) (fun o2 co2 => ?_)
  refine tw_if (fun _ => ?_) (fun _ => ?_)
  ·
    exact tw_at co2 (tt_X2_readName_123)
  ·
    refine tw_chk (fun _ => ?_)
    refine tw_chk (fun _ => ?_)
    refine tw_calf co2 (fun o3 co3 => ?_)
    refine tw_if (fun _ => ?_) (fun _ => ?_)
    ·
      exact tw_at co3 (tt_X2_readName_128)
    ·
      exact tw_at co3 (tt_X2_readName_123)
noncomputable def d_X2_readName_70 (self22 : Nat → ZS → Option (Int32 × ZS)) (x0 : Nat) (S : ZS) : Option (Int32 × ZS) :=
  m_chk (zK S x0 = 2) (
  m_cal (zP S 6 x0) (fun b1 =>
  m_chk (zK S x0 = 2) (
  m_cal (zP S 2 x0) (fun b2 =>
  m_chk (zK S x0 = 2) (
  m_chk (zK S b2 = 6) (
  m_cal (f_X6_at b2 (zI S 4 x0) S) (fun o3 => m_chk (zt o3.2 = zt S ∧ zu o3.2 = zu S) (
  m_chk (zK o3.2 b1 = 6) (
  m_cal2 (d_X6_put b1 o3.1 o3.2) (fun r5 S6 =>
  m_chk (zK S6 x0 = 2) (
  m_bnd ((zI S6 4 x0) + (1 : Int32)) (fun v9 =>
  m_chk (zK S6 x0 = 2) (
  m_bnd (zsI S6 4 x0 v9) (fun S10 =>
  self22 x0 S10))))))))))))))
theorem tt_X2_readName_70 {Pw : Int32 → ZS → Prop} {self22 : Nat → ZS → Option (Int32 × ZS)} {self22g : Nat → ZS → Nat → Nat → Prop} (hself22 : ∀ (y0 : Nat) (S : ZS), Tw Pw (self22 y0 S) (zt S) (zu S) (fun C T => self22g y0 S C T)) {x0 : Nat} {S : ZS} : Tw Pw (d_X2_readName_70 self22 x0 S) (zt S) (zu S) (fun C T => g_X2_readName_70 Pw self22g x0 S C T) := by
  unfold d_X2_readName_70 g_X2_readName_70
  refine tw_chk (fun _ => ?_)
  refine tw_calv (fun b1 => ?_)
  refine tw_chk (fun _ => ?_)
  refine tw_calv (fun b2 => ?_)
  refine tw_chk (fun _ => ?_)
  refine tw_chk (fun _ => ?_)
  refine tw_calf (⟨rfl, rfl⟩ : zt S = zt S ∧ zu S = zu S) (fun o3 co3 => ?_)
  refine tw_chk (fun _ => ?_)
  refine tw_gal (fun Pw9 => tw_at co3 tt_X6_put) (fun r5 S6 => ?_)
  refine tw_chk (fun _ => ?_)
  refine tw_bndv (fun v9 => ?_)
  refine tw_chk (fun _ => ?_)
  refine tw_bnds (⟨rfl, rfl⟩ : zt S6 = zt S6 ∧ zu S6 = zu S6) (fun S10 cS10 => ?_)
  exact tw_at cS10 (hself22 _ _)
noncomputable def d_X2_readName_22s (self22 : Nat → ZS → Option (Int32 × ZS)) (x0 : Nat) (S : ZS) : Option (Int32 × ZS) :=
  m_chk (zK S x0 = 2) (
  m_chk (zK S x0 = 2) (
  m_cal (zP S 2 x0) (fun b1 =>
  m_chk (zK S b1 = 6) (
  m_cal (f_X6_size b1 S) (fun o2 => m_chk (zt o2.2 = zt S ∧ zu o2.2 = zu S) (
  m_if (o2.1 ≤ (zI S 4 x0)) (
  d_X2_readName_101 x0 o2.2
  ) (
  m_chk (zK o2.2 x0 = 2) (
  m_cal (zP o2.2 2 x0) (fun b3 =>
  m_chk (zK o2.2 x0 = 2) (
  m_chk (zK o2.2 b3 = 6) (
  m_cal (f_X6_at b3 (zI o2.2 4 x0) o2.2) (fun o4 => m_chk (zt o4.2 = zt o2.2 ∧ zu o4.2 = zu o2.2) (
  m_cal (f_X11_isLetter o4.1 o4.2) (fun o5 => m_chk (zt o5.2 = zt o4.2 ∧ zu o5.2 = zu o4.2) (
  m_if (o5.1 = 0) (
  m_chk (zK o5.2 x0 = 2) (
  m_cal (zP o5.2 2 x0) (fun b6 =>
  m_chk (zK o5.2 x0 = 2) (
  m_chk (zK o5.2 b6 = 6) (
  m_cal (f_X6_at b6 (zI o5.2 4 x0) o5.2) (fun o7 => m_chk (zt o7.2 = zt o5.2 ∧ zu o7.2 = zu o5.2) (
  m_cal (f_X11_isDigit o7.1 o7.2) (fun o8 => m_chk (zt o8.2 = zt o7.2 ∧ zu o8.2 = zu o7.2) (
  m_if (o8.1 = 0) (
  d_X2_readName_101 x0 o8.2
  ) (
  d_X2_readName_70 self22 x0 o8.2
  )))))))))
  ) (
  d_X2_readName_70 self22 x0 o5.2
  )))))))))
  )))))))
theorem tt_X2_readName_22s {Pw : Int32 → ZS → Prop} {self22 : Nat → ZS → Option (Int32 × ZS)} {self22g : Nat → ZS → Nat → Nat → Prop} (hself22 : ∀ (y0 : Nat) (S : ZS), Tw Pw (self22 y0 S) (zt S) (zu S) (fun C T => self22g y0 S C T)) {x0 : Nat} {S : ZS} : Tw Pw (d_X2_readName_22s self22 x0 S) (zt S) (zu S) (fun C T => g_X2_readName_22s Pw self22g x0 S C T) := by
  unfold d_X2_readName_22s g_X2_readName_22s
  refine tw_chk (fun _ => ?_)
  refine tw_chk (fun _ => ?_)
  refine tw_calv (fun b1 => ?_)
  refine tw_chk (fun _ => ?_)
  refine tw_calf (⟨rfl, rfl⟩ : zt S = zt S ∧ zu S = zu S) (fun o2 co2 => ?_)
  refine tw_if (fun _ => ?_) (fun _ => ?_)
  ·
    exact tw_at co2 (tt_X2_readName_101)
  ·
    refine tw_chk (fun _ => ?_)
    refine tw_calv (fun b3 => ?_)
    refine tw_chk (fun _ => ?_)
    refine tw_chk (fun _ => ?_)
    refine tw_calf co2 (fun o4 co4 => ?_)
    refine tw_calf co4 (fun o5 co5 => ?_)
    refine tw_if (fun _ => ?_) (fun _ => ?_)
    ·
      refine tw_chk (fun _ => ?_)
      refine tw_calv (fun b6 => ?_)
      refine tw_chk (fun _ => ?_)
      refine tw_chk (fun _ => ?_)
      refine tw_calf co5 (fun o7 co7 => ?_)
      refine tw_calf co7 (fun o8 co8 => ?_)
      refine tw_if (fun _ => ?_) (fun _ => ?_)
      ·
        exact tw_at co8 (tt_X2_readName_101)
      ·
        exact tw_at co8 (tt_X2_readName_70 hself22)
    ·
      exact tw_at co5 (tt_X2_readName_70 hself22)
noncomputable def d_X2_readName_22  : Nat → Nat → ZS → Option (Int32 × ZS)
  | 0 => fun _ _ => none
  | n + 1 => d_X2_readName_22s  (d_X2_readName_22  n)
theorem tt_X2_readName_22 {Pw : Int32 → ZS → Prop}   {n : Nat} : ∀ {z0 : Nat} {S : ZS}, Tw Pw (d_X2_readName_22  n z0 S) (zt S) (zu S) (fun C T => g_X2_readName_22 Pw  n z0 S C T) := by
  induction n with
  | zero => intro z0 S; exact tw_none
  | succ n ih => intro z0 S; exact tt_X2_readName_22s  (fun _ _ => ih)
noncomputable def d_X2_readName_0 (x0 : Nat) (S : ZS) : Option (Int32 × ZS) :=
  m_chk (zK S x0 = 2) (
  m_bnd ((zI S 4 x0) + (1 : Int32)) (fun v1 =>
  m_chk (zK S x0 = 2) (
  m_bnd (zsI S 4 x0 v1) (fun S2 =>
  m_chk (zK S2 x0 = 2) (
  m_cal (f_X2_skipBlanks x0 S2) (fun o3 => m_chk (zt o3.2 = zt S2 ∧ zu o3.2 = zu S2) (
  m_chk (zK o3.2 x0 = 2) (
  m_cal (zP o3.2 6 x0) (fun b4 =>
  m_chk (zK o3.2 b4 = 6) (
  m_cal (f_X6_keep b4 (0 : Int32) o3.2) (fun o5 => m_chk (zt o5.2 = zt o3.2 ∧ zu o5.2 = zu o3.2) (
  d_X2_readName_22 mFuel x0 o5.2))))))))))))
theorem tt_X2_readName_0 {Pw : Int32 → ZS → Prop}   {x0 : Nat} {S : ZS} : Tw Pw (d_X2_readName_0 x0 S) (zt S) (zu S) (fun C T => g_X2_readName_0 Pw x0 S C T) := by
  unfold d_X2_readName_0 g_X2_readName_0
  refine tw_chk (fun _ => ?_)
  refine tw_bndv (fun v1 => ?_)
  refine tw_chk (fun _ => ?_)
  refine tw_bnds (⟨rfl, rfl⟩ : zt S = zt S ∧ zu S = zu S) (fun S2 cS2 => ?_)
  refine tw_chk (fun _ => ?_)
  refine tw_calf cS2 (fun o3 co3 => ?_)
  refine tw_chk (fun _ => ?_)
  refine tw_calv (fun b4 => ?_)
  refine tw_chk (fun _ => ?_)
  refine tw_calf co3 (fun o5 co5 => ?_)
  exact tw_at co5 (tt_X2_readName_22)
noncomputable def d_X2_readName (x0 : Nat) (S : ZS) : Option (Int32 × ZS) := d_X2_readName_0 x0 S
theorem tt_X2_readName {Pw : Int32 → ZS → Prop} {x0 : Nat} {S : ZS} : Tw Pw (d_X2_readName x0 S) (zt S) (zu S) (fun C T => g_X2_readName x0 S C T Pw) := tt_X2_readName_0
noncomputable def d_X2_readValue_142 (self48 : Nat → ZS → Option (Int32 × ZS)) (x0 : Nat) (x1 : Int32) (S : ZS) : Option (Int32 × ZS) :=
  m_if (x1 = (10 : Int32)) (
  m_chk (zK S x0 = 2) (
  m_chk (zK S x0 = 2) (
  m_cal (f_X2_refuse x0 (1 : Int32) (zI S 4 x0) S) (fun o9 => m_chk (zt o9.2 = zt S ∧ zu o9.2 = zu S) (
  m_chk (vp_nar .boolean o9.1 = o9.1) (
  some (o9.1, o9.2))))))
  ) (
  m_chk (zK S x0 = 2) (
  m_cal (zP S 7 x0) (fun b1 =>
  m_chk (zK S b1 = 6) (
  m_cal2 (d_X6_put b1 x1 S) (fun r3 S4 =>
  m_chk (zK S4 x0 = 2) (
  m_bnd ((zI S4 4 x0) + (1 : Int32)) (fun v7 =>
  m_chk (zK S4 x0 = 2) (
  m_bnd (zsI S4 4 x0 v7) (fun S8 =>
  self48 x0 S8))))))))
  )
theorem tt_X2_readValue_142 {Pw : Int32 → ZS → Prop} {self48 : Nat → ZS → Option (Int32 × ZS)} {self48g : Nat → ZS → Nat → Nat → Prop} (hself48 : ∀ (y0 : Nat) (S : ZS), Tw Pw (self48 y0 S) (zt S) (zu S) (fun C T => self48g y0 S C T)) {x0 : Nat} {x1 : Int32} {S : ZS} : Tw Pw (d_X2_readValue_142 self48 x0 x1 S) (zt S) (zu S) (fun C T => g_X2_readValue_142 Pw self48g x0 x1 S C T) := by
  unfold d_X2_readValue_142 g_X2_readValue_142
  refine tw_if (fun _ => ?_) (fun _ => ?_)
  ·
    refine tw_chk (fun _ => ?_)
    refine tw_chk (fun _ => ?_)
    refine tw_calf (⟨rfl, rfl⟩ : zt S = zt S ∧ zu S = zu S) (fun o9 co9 => ?_)
    refine tw_chk (fun _ => ?_)
    exact tw_ret co9
  ·
    refine tw_chk (fun _ => ?_)
    refine tw_calv (fun b1 => ?_)
    refine tw_chk (fun _ => ?_)
    refine tw_gal (fun Pw9 => tw_at (⟨rfl, rfl⟩ : zt S = zt S ∧ zu S = zu S) tt_X6_put) (fun r3 S4 => ?_)
    refine tw_chk (fun _ => ?_)
    refine tw_bndv (fun v7 => ?_)
    refine tw_chk (fun _ => ?_)
    refine tw_bnds (⟨rfl, rfl⟩ : zt S4 = zt S4 ∧ zu S4 = zu S4) (fun S8 cS8 => ?_)
    exact tw_at cS8 (hself48 _ _)
noncomputable def d_X2_readValue_48s (self48 : Nat → ZS → Option (Int32 × ZS)) (x0 : Nat) (S : ZS) : Option (Int32 × ZS) :=
  m_chk (zK S x0 = 2) (
  m_chk (zK S x0 = 2) (
  m_cal (zP S 2 x0) (fun b1 =>
  m_chk (zK S b1 = 6) (
  m_cal (f_X6_size b1 S) (fun o2 => m_chk (zt o2.2 = zt S ∧ zu o2.2 = zu S) (
  m_if (o2.1 ≤ (zI S 4 x0)) (
  m_chk (zK o2.2 x0 = 2) (
  m_chk (zK o2.2 x0 = 2) (
  m_cal (f_X2_refuse x0 (1 : Int32) (zI o2.2 4 x0) o2.2) (fun o3 => m_chk (zt o3.2 = zt o2.2 ∧ zu o3.2 = zu o2.2) (
  m_chk (vp_nar .boolean o3.1 = o3.1) (
  some (o3.1, o3.2))))))
  ) (
  m_chk (zK o2.2 x0 = 2) (
  m_cal (zP o2.2 2 x0) (fun b4 =>
  m_chk (zK o2.2 x0 = 2) (
  m_chk (zK o2.2 b4 = 6) (
  m_cal (f_X6_at b4 (zI o2.2 4 x0) o2.2) (fun o5 => m_chk (zt o5.2 = zt o2.2 ∧ zu o5.2 = zu o2.2) (
  m_if (o5.1 = (34 : Int32)) (
  m_chk (zK o5.2 x0 = 2) (
  m_bnd ((zI o5.2 4 x0) + (1 : Int32)) (fun v11 =>
  m_chk (zK o5.2 x0 = 2) (
  m_bnd (zsI o5.2 4 x0 v11) (fun S12 =>
  m_chk (vp_nar .boolean (1 : Int32) = (1 : Int32)) (
  some ((1 : Int32), S12))))))
  ) (
  m_if (o5.1 = (92 : Int32)) (
  m_chk (zK o5.2 x0 = 2) (
  m_bnd ((zI o5.2 4 x0) + (1 : Int32)) (fun v6 =>
  m_chk (zK o5.2 x0 = 2) (
  m_bnd (zsI o5.2 4 x0 v6) (fun S7 =>
  m_chk (zK S7 x0 = 2) (
  m_cal (zP S7 2 x0) (fun b8 =>
  m_chk (zK S7 x0 = 2) (
  m_chk (zK S7 b8 = 6) (
  m_cal (f_X6_at b8 (zI S7 4 x0) S7) (fun o9 => m_chk (zt o9.2 = zt S7 ∧ zu o9.2 = zu S7) (
  m_if (o9.1 = (34 : Int32)) (
  d_X2_readValue_142 self48 x0 o9.1 o9.2
  ) (
  m_if (o9.1 = (92 : Int32)) (
  d_X2_readValue_142 self48 x0 o9.1 o9.2
  ) (
  m_chk (zK o9.2 x0 = 2) (
  m_chk (zK o9.2 x0 = 2) (
  m_cal (f_X2_refuse x0 (1 : Int32) (zI o9.2 4 x0) o9.2) (fun o10 => m_chk (zt o10.2 = zt o9.2 ∧ zu o10.2 = zu o9.2) (
  m_chk (vp_nar .boolean o10.1 = o10.1) (
  some (o10.1, o10.2))))))
  )
  )))))))))))
  ) (
  d_X2_readValue_142 self48 x0 o5.1 o5.2
  )
  )))))))
  )))))))
theorem tt_X2_readValue_48s {Pw : Int32 → ZS → Prop} {self48 : Nat → ZS → Option (Int32 × ZS)} {self48g : Nat → ZS → Nat → Nat → Prop} (hself48 : ∀ (y0 : Nat) (S : ZS), Tw Pw (self48 y0 S) (zt S) (zu S) (fun C T => self48g y0 S C T)) {x0 : Nat} {S : ZS} : Tw Pw (d_X2_readValue_48s self48 x0 S) (zt S) (zu S) (fun C T => g_X2_readValue_48s Pw self48g x0 S C T) := by
  unfold d_X2_readValue_48s g_X2_readValue_48s
  refine tw_chk (fun _ => ?_)
  refine tw_chk (fun _ => ?_)
  refine tw_calv (fun b1 => ?_)
  refine tw_chk (fun _ => ?_)
  refine tw_calf (⟨rfl, rfl⟩ : zt S = zt S ∧ zu S = zu S) (fun o2 co2 => ?_)
  refine tw_if (fun _ => ?_) (fun _ => ?_)
  ·
    refine tw_chk (fun _ => ?_)
    refine tw_chk (fun _ => ?_)
    refine tw_calf co2 (fun o3 co3 => ?_)
    refine tw_chk (fun _ => ?_)
    exact tw_ret co3
  ·
    refine tw_chk (fun _ => ?_)
    refine tw_calv (fun b4 => ?_)
    refine tw_chk (fun _ => ?_)
    refine tw_chk (fun _ => ?_)
    refine tw_calf co2 (fun o5 co5 => ?_)
    refine tw_if (fun _ => ?_) (fun _ => ?_)
    ·
      refine tw_chk (fun _ => ?_)
      refine tw_bndv (fun v11 => ?_)
      refine tw_chk (fun _ => ?_)
      refine tw_bnds co5 (fun S12 cS12 => ?_)
      refine tw_chk (fun _ => ?_)
      exact tw_ret cS12
    ·
      refine tw_if (fun _ => ?_) (fun _ => ?_)
      ·
        refine tw_chk (fun _ => ?_)
        refine tw_bndv (fun v6 => ?_)
        refine tw_chk (fun _ => ?_)
        refine tw_bnds co5 (fun S7 cS7 => ?_)
        refine tw_chk (fun _ => ?_)
        refine tw_calv (fun b8 => ?_)
        refine tw_chk (fun _ => ?_)
        refine tw_chk (fun _ => ?_)
        refine tw_calf cS7 (fun o9 co9 => ?_)
        refine tw_if (fun _ => ?_) (fun _ => ?_)
        ·
          exact tw_at co9 (tt_X2_readValue_142 hself48)
        ·
          refine tw_if (fun _ => ?_) (fun _ => ?_)
          ·
            exact tw_at co9 (tt_X2_readValue_142 hself48)
          ·
            refine tw_chk (fun _ => ?_)
            refine tw_chk (fun _ => ?_)
            refine tw_calf co9 (fun o10 co10 => ?_)
            refine tw_chk (fun _ => ?_)
            exact tw_ret co10
      ·
        exact tw_at co5 (tt_X2_readValue_142 hself48)
noncomputable def d_X2_readValue_48  : Nat → Nat → ZS → Option (Int32 × ZS)
  | 0 => fun _ _ => none
  | n + 1 => d_X2_readValue_48s  (d_X2_readValue_48  n)
theorem tt_X2_readValue_48 {Pw : Int32 → ZS → Prop}   {n : Nat} : ∀ {z0 : Nat} {S : ZS}, Tw Pw (d_X2_readValue_48  n z0 S) (zt S) (zu S) (fun C T => g_X2_readValue_48 Pw  n z0 S C T) := by
  induction n with
  | zero => intro z0 S; exact tw_none
  | succ n ih => intro z0 S; exact tt_X2_readValue_48s  (fun _ _ => ih)
noncomputable def d_X2_readValue_0 (x0 : Nat) (S : ZS) : Option (Int32 × ZS) :=
  m_chk (zK S x0 = 2) (
  m_cal (f_X2_skipBlanks x0 S) (fun o1 => m_chk (zt o1.2 = zt S ∧ zu o1.2 = zu S) (
  m_chk (zK o1.2 x0 = 2) (
  m_cal (zP o1.2 2 x0) (fun b2 =>
  m_chk (zK o1.2 x0 = 2) (
  m_chk (zK o1.2 b2 = 6) (
  m_cal (f_X6_at b2 (zI o1.2 4 x0) o1.2) (fun o3 => m_chk (zt o3.2 = zt o1.2 ∧ zu o3.2 = zu o1.2) (
  m_if (o3.1 = (34 : Int32)) (
  m_chk (zK o3.2 x0 = 2) (
  m_cal (zP o3.2 7 x0) (fun b4 =>
  m_chk (zK o3.2 b4 = 6) (
  m_cal (f_X6_keep b4 (0 : Int32) o3.2) (fun o5 => m_chk (zt o5.2 = zt o3.2 ∧ zu o5.2 = zu o3.2) (
  m_chk (zK o5.2 x0 = 2) (
  m_bnd ((zI o5.2 4 x0) + (1 : Int32)) (fun v6 =>
  m_chk (zK o5.2 x0 = 2) (
  m_bnd (zsI o5.2 4 x0 v6) (fun S7 =>
  d_X2_readValue_48 mFuel x0 S7)))))))))
  ) (
  m_chk (zK o3.2 x0 = 2) (
  m_chk (zK o3.2 x0 = 2) (
  m_cal (f_X2_refuse x0 (1 : Int32) (zI o3.2 4 x0) o3.2) (fun o8 => m_chk (zt o8.2 = zt o3.2 ∧ zu o8.2 = zu o3.2) (
  m_chk (vp_nar .boolean o8.1 = o8.1) (
  some (o8.1, o8.2))))))
  ))))))))))
theorem tt_X2_readValue_0 {Pw : Int32 → ZS → Prop}   {x0 : Nat} {S : ZS} : Tw Pw (d_X2_readValue_0 x0 S) (zt S) (zu S) (fun C T => g_X2_readValue_0 Pw x0 S C T) := by
  unfold d_X2_readValue_0 g_X2_readValue_0
  refine tw_chk (fun _ => ?_)
  refine tw_calf (⟨rfl, rfl⟩ : zt S = zt S ∧ zu S = zu S) (fun o1 co1 => ?_)
  refine tw_chk (fun _ => ?_)
  refine tw_calv (fun b2 => ?_)
  refine tw_chk (fun _ => ?_)
  refine tw_chk (fun _ => ?_)
  refine tw_calf co1 (fun o3 co3 => ?_)
  refine tw_if (fun _ => ?_) (fun _ => ?_)
  ·
    refine tw_chk (fun _ => ?_)
    refine tw_calv (fun b4 => ?_)
    refine tw_chk (fun _ => ?_)
    refine tw_calf co3 (fun o5 co5 => ?_)
    refine tw_chk (fun _ => ?_)
    refine tw_bndv (fun v6 => ?_)
    refine tw_chk (fun _ => ?_)
    refine tw_bnds co5 (fun S7 cS7 => ?_)
    exact tw_at cS7 (tt_X2_readValue_48)
  ·
    refine tw_chk (fun _ => ?_)
    refine tw_chk (fun _ => ?_)
    refine tw_calf co3 (fun o8 co8 => ?_)
    refine tw_chk (fun _ => ?_)
    exact tw_ret co8
noncomputable def d_X2_readValue (x0 : Nat) (S : ZS) : Option (Int32 × ZS) := d_X2_readValue_0 x0 S
theorem tt_X2_readValue {Pw : Int32 → ZS → Prop} {x0 : Nat} {S : ZS} : Tw Pw (d_X2_readValue x0 S) (zt S) (zu S) (fun C T => g_X2_readValue x0 S C T Pw) := tt_X2_readValue_0
noncomputable def d_X2_readTag_19 (S : ZS) : Option (Int32 × ZS) :=
  m_chk (vp_nar .boolean (0 : Int32) = (0 : Int32)) (
  some ((0 : Int32), S))
theorem tt_X2_readTag_19 {Pw : Int32 → ZS → Prop}   {S : ZS} : Tw Pw (d_X2_readTag_19 S) (zt S) (zu S) (fun C T => g_X2_readTag_19 Pw S C T) := by
  unfold d_X2_readTag_19 g_X2_readTag_19
  refine tw_chk (fun _ => ?_)
  exact tw_ret (⟨rfl, rfl⟩ : zt S = zt S ∧ zu S = zu S)
noncomputable def d_X2_readTag_111 (x0 : Nat) (x1 : Int32) (S : ZS) : Option (Int32 × ZS) :=
  m_chk (zK S x0 = 2) (
  m_cal (f_X2_refuse x0 (2 : Int32) x1 S) (fun o1 => m_chk (zt o1.2 = zt S ∧ zu o1.2 = zu S) (
  m_chk (vp_nar .boolean o1.1 = o1.1) (
  some (o1.1, o1.2)))))
theorem tt_X2_readTag_111 {Pw : Int32 → ZS → Prop}   {x0 : Nat} {x1 : Int32} {S : ZS} : Tw Pw (d_X2_readTag_111 x0 x1 S) (zt S) (zu S) (fun C T => g_X2_readTag_111 Pw x0 x1 S C T) := by
  unfold d_X2_readTag_111 g_X2_readTag_111
  refine tw_chk (fun _ => ?_)
  refine tw_calf (⟨rfl, rfl⟩ : zt S = zt S ∧ zu S = zu S) (fun o1 co1 => ?_)
  refine tw_chk (fun _ => ?_)
  exact tw_ret co1
noncomputable def d_X2_readTag_158 (x0 : Nat) (S : ZS) : Option (Int32 × ZS) :=
  m_chk (zK S x0 = 2) (
  m_cal (zP S 3 x0) (fun b1 =>
  m_chk (zK S x0 = 2) (
  m_cal (zP S 6 x0) (fun b2 =>
  m_chk (zK S x0 = 2) (
  m_cal (zP S 7 x0) (fun b3 =>
  m_chk (zK S b1 = 1) (
  m_cal2 (d_X1_putTag b1 b2 b3 S) (fun r5 S6 =>
  m_chk (vp_nar .boolean (1 : Int32) = (1 : Int32)) (
  some ((1 : Int32), S6))))))))))
theorem tt_X2_readTag_158 {Pw : Int32 → ZS → Prop}   {x0 : Nat} {S : ZS} : Tw Pw (d_X2_readTag_158 x0 S) (zt S) (zu S) (fun C T => g_X2_readTag_158 Pw x0 S C T) := by
  unfold d_X2_readTag_158 g_X2_readTag_158
  refine tw_chk (fun _ => ?_)
  refine tw_calv (fun b1 => ?_)
  refine tw_chk (fun _ => ?_)
  refine tw_calv (fun b2 => ?_)
  refine tw_chk (fun _ => ?_)
  refine tw_calv (fun b3 => ?_)
  refine tw_chk (fun _ => ?_)
  refine tw_gal (fun Pw9 => tw_at (⟨rfl, rfl⟩ : zt S = zt S ∧ zu S = zu S) tt_X1_putTag) (fun r5 S6 => ?_)
  refine tw_chk (fun _ => ?_)
  exact tw_ret (⟨rfl, rfl⟩ : zt S6 = zt S6 ∧ zu S6 = zu S6)
noncomputable def d_X2_readTag_0 (x0 : Nat) (S : ZS) : Option (Int32 × ZS) :=
  m_chk (zK S x0 = 2) (
  m_chk (zK S x0 = 2) (
  m_cal2 (d_X2_readName x0 S) (fun r2 S3 =>
  m_if (r2 = 0) (
  d_X2_readTag_19 S3
  ) (
  m_chk (zK S3 x0 = 2) (
  m_cal2 (d_X2_readValue x0 S3) (fun r7 S8 =>
  m_if (r7 = 0) (
  d_X2_readTag_19 S8
  ) (
  m_chk (zK S8 x0 = 2) (
  m_cal (f_X2_skipBlanks x0 S8) (fun o11 => m_chk (zt o11.2 = zt S8 ∧ zu o11.2 = zu S8) (
  m_chk (zK o11.2 x0 = 2) (
  m_cal (zP o11.2 2 x0) (fun b12 =>
  m_chk (zK o11.2 x0 = 2) (
  m_chk (zK o11.2 b12 = 6) (
  m_cal (f_X6_at b12 (zI o11.2 4 x0) o11.2) (fun o13 => m_chk (zt o13.2 = zt o11.2 ∧ zu o13.2 = zu o11.2) (
  m_if (o13.1 = (93 : Int32)) (
  m_chk (zK o13.2 x0 = 2) (
  m_bnd ((zI o13.2 4 x0) + (1 : Int32)) (fun v14 =>
  m_chk (zK o13.2 x0 = 2) (
  m_bnd (zsI o13.2 4 x0 v14) (fun S15 =>
  m_chk (zK S15 x0 = 2) (
  m_cal (zP S15 3 x0) (fun b16 =>
  m_chk (zK S15 b16 = 1) (
  m_if ((8 : Int32) ≤ (zI S15 5 b16)) (
  d_X2_readTag_111 x0 (zI S 4 x0) S15
  ) (
  m_chk (zK S15 x0 = 2) (
  m_cal (zP S15 6 x0) (fun b17 =>
  m_chk (zK S15 b17 = 6) (
  m_cal (f_X6_size b17 S15) (fun o18 => m_chk (zt o18.2 = zt S15 ∧ zu o18.2 = zu S15) (
  m_if ((12 : Int32) < o18.1) (
  d_X2_readTag_111 x0 (zI S 4 x0) o18.2
  ) (
  m_chk (zK o18.2 x0 = 2) (
  m_cal (zP o18.2 3 x0) (fun b19 =>
  m_chk (zK o18.2 x0 = 2) (
  m_cal (zP o18.2 6 x0) (fun b20 =>
  m_chk (zK o18.2 b19 = 1) (
  m_cal2 (d_X1_hasTag b19 b20 o18.2) (fun r22 S23 =>
  m_if (r22 = 0) (
  m_chk (zK S23 x0 = 2) (
  m_cal (zP S23 7 x0) (fun b26 =>
  m_chk (zK S23 b26 = 6) (
  m_cal (f_X6_size b26 S23) (fun o27 => m_chk (zt o27.2 = zt S23 ∧ zu o27.2 = zu S23) (
  m_if (o27.1 ≤ (96 : Int32)) (
  m_chk (zK o27.2 x0 = 2) (
  m_cal (zP o27.2 6 x0) (fun b28 =>
  m_chk (zK o27.2 b28 = 6) (
  m_cal (f_X6_is b28 0 o27.2) (fun o29 => m_chk (zt o29.2 = zt o27.2 ∧ zu o29.2 = zu o27.2) (
  m_if (o29.1 = 0) (
  d_X2_readTag_158 x0 o29.2
  ) (
  m_chk (zK o29.2 x0 = 2) (
  m_cal (zP o29.2 1 x0) (fun b30 =>
  m_chk (zK o29.2 x0 = 2) (
  m_cal (zP o29.2 3 x0) (fun b31 =>
  m_chk (zK o29.2 b31 = 1) (
  m_cal (zP o29.2 0 b31) (fun b32 =>
  m_chk (zK o29.2 x0 = 2) (
  m_cal (zP o29.2 7 x0) (fun b33 =>
  m_chk (zK o29.2 b30 = 5) (
  m_cal (f_X5_readInto b30 b32 b33 o29.2) (fun o34 => m_chk (zt o34.2 = zt o29.2 ∧ zu o34.2 = zu o29.2) (
  m_if (o34.1 = 0) (
  m_chk (zK o34.2 x0 = 2) (
  m_cal (f_X2_refuse x0 (3 : Int32) (zI S 4 x0) o34.2) (fun o35 => m_chk (zt o35.2 = zt o34.2 ∧ zu o35.2 = zu o34.2) (
  m_chk (vp_nar .boolean o35.1 = o35.1) (
  some (o35.1, o35.2)))))
  ) (
  d_X2_readTag_158 x0 o34.2
  ))))))))))))
  ))))))
  ) (
  d_X2_readTag_111 x0 (zI S 4 x0) o27.2
  ))))))
  ) (
  d_X2_readTag_111 x0 (zI S 4 x0) S23
  )))))))
  ))))))
  ))))))))
  ) (
  m_chk (zK o13.2 x0 = 2) (
  m_chk (zK o13.2 x0 = 2) (
  m_cal (f_X2_refuse x0 (1 : Int32) (zI o13.2 4 x0) o13.2) (fun o36 => m_chk (zt o36.2 = zt o13.2 ∧ zu o36.2 = zu o13.2) (
  m_chk (vp_nar .boolean o36.1 = o36.1) (
  some (o36.1, o36.2))))))
  ))))))))))
  )))
  ))))
theorem tt_X2_readTag_0 {Pw : Int32 → ZS → Prop}   {x0 : Nat} {S : ZS} : Tw Pw (d_X2_readTag_0 x0 S) (zt S) (zu S) (fun C T => g_X2_readTag_0 Pw x0 S C T) := by
  unfold d_X2_readTag_0 g_X2_readTag_0
  refine tw_chk (fun _ => ?_)
  refine tw_chk (fun _ => ?_)
  refine tw_gal (fun Pw9 => tw_at (⟨rfl, rfl⟩ : zt S = zt S ∧ zu S = zu S) tt_X2_readName) (fun r2 S3 => ?_)
  refine tw_if (fun _ => ?_) (fun _ => ?_)
  ·
    exact tw_at (⟨rfl, rfl⟩ : zt S3 = zt S3 ∧ zu S3 = zu S3) (tt_X2_readTag_19)
  ·
    refine tw_chk (fun _ => ?_)
    refine tw_gal (fun Pw9 => tw_at (⟨rfl, rfl⟩ : zt S3 = zt S3 ∧ zu S3 = zu S3) tt_X2_readValue) (fun r7 S8 => ?_)
    refine tw_if (fun _ => ?_) (fun _ => ?_)
    ·
      exact tw_at (⟨rfl, rfl⟩ : zt S8 = zt S8 ∧ zu S8 = zu S8) (tt_X2_readTag_19)
    ·
      refine tw_chk (fun _ => ?_)
      refine tw_calf (⟨rfl, rfl⟩ : zt S8 = zt S8 ∧ zu S8 = zu S8) (fun o11 co11 => ?_)
      refine tw_chk (fun _ => ?_)
      refine tw_calv (fun b12 => ?_)
      refine tw_chk (fun _ => ?_)
      refine tw_chk (fun _ => ?_)
      refine tw_calf co11 (fun o13 co13 => ?_)
      refine tw_if (fun _ => ?_) (fun _ => ?_)
      ·
        refine tw_chk (fun _ => ?_)
        refine tw_bndv (fun v14 => ?_)
        refine tw_chk (fun _ => ?_)
        refine tw_bnds co13 (fun S15 cS15 => ?_)
        refine tw_chk (fun _ => ?_)
        refine tw_calv (fun b16 => ?_)
        refine tw_chk (fun _ => ?_)
        refine tw_if (fun _ => ?_) (fun _ => ?_)
        ·
          exact tw_at cS15 (tt_X2_readTag_111)
        ·
          refine tw_chk (fun _ => ?_)
          refine tw_calv (fun b17 => ?_)
          refine tw_chk (fun _ => ?_)
          refine tw_calf cS15 (fun o18 co18 => ?_)
          refine tw_if (fun _ => ?_) (fun _ => ?_)
          ·
            exact tw_at co18 (tt_X2_readTag_111)
          ·
            refine tw_chk (fun _ => ?_)
            refine tw_calv (fun b19 => ?_)
            refine tw_chk (fun _ => ?_)
            refine tw_calv (fun b20 => ?_)
            refine tw_chk (fun _ => ?_)
            refine tw_gal (fun Pw9 => tw_at co18 tt_X1_hasTag) (fun r22 S23 => ?_)
            refine tw_if (fun _ => ?_) (fun _ => ?_)
            ·
              refine tw_chk (fun _ => ?_)
              refine tw_calv (fun b26 => ?_)
              refine tw_chk (fun _ => ?_)
              refine tw_calf (⟨rfl, rfl⟩ : zt S23 = zt S23 ∧ zu S23 = zu S23) (fun o27 co27 => ?_)
              refine tw_if (fun _ => ?_) (fun _ => ?_)
              ·
                refine tw_chk (fun _ => ?_)
                refine tw_calv (fun b28 => ?_)
                refine tw_chk (fun _ => ?_)
                refine tw_calf co27 (fun o29 co29 => ?_)
                refine tw_if (fun _ => ?_) (fun _ => ?_)
                ·
                  exact tw_at co29 (tt_X2_readTag_158)
                ·
                  refine tw_chk (fun _ => ?_)
                  refine tw_calv (fun b30 => ?_)
                  refine tw_chk (fun _ => ?_)
                  refine tw_calv (fun b31 => ?_)
                  refine tw_chk (fun _ => ?_)
                  refine tw_calv (fun b32 => ?_)
                  refine tw_chk (fun _ => ?_)
                  refine tw_calv (fun b33 => ?_)
                  refine tw_chk (fun _ => ?_)
                  refine tw_calf co29 (fun o34 co34 => ?_)
                  refine tw_if (fun _ => ?_) (fun _ => ?_)
                  ·
                    refine tw_chk (fun _ => ?_)
                    refine tw_calf co34 (fun o35 co35 => ?_)
                    refine tw_chk (fun _ => ?_)
                    exact tw_ret co35
                  ·
                    exact tw_at co34 (tt_X2_readTag_158)
              ·
                exact tw_at co27 (tt_X2_readTag_111)
            ·
              exact tw_at (⟨rfl, rfl⟩ : zt S23 = zt S23 ∧ zu S23 = zu S23) (tt_X2_readTag_111)
      ·
        refine tw_chk (fun _ => ?_)
        refine tw_chk (fun _ => ?_)
        refine tw_calf co13 (fun o36 co36 => ?_)
        refine tw_chk (fun _ => ?_)
        exact tw_ret co36
end
section
noncomputable def d_X2_readTag (x0 : Nat) (S : ZS) : Option (Int32 × ZS) := d_X2_readTag_0 x0 S
theorem tt_X2_readTag {Pw : Int32 → ZS → Prop} {x0 : Nat} {S : ZS} : Tw Pw (d_X2_readTag x0 S) (zt S) (zu S) (fun C T => g_X2_readTag x0 S C T Pw) := tt_X2_readTag_0
noncomputable def d_X4_joinRemark_96 (self64 : Nat → Nat → Int32 → Int32 → ZS → Option (Int32 × ZS)) (x0 : Nat) (x1 : Nat) (x3 : Int32) (x5 : Int32) (t0 : Int32) (t1 : Nat) (S : ZS) : Option (Int32 × ZS) :=
  m_chk (zK S t1 = 6) (
  m_cal2 (d_X6_put t1 t0 S) (fun r2 S3 =>
  m_bnd (x5 + (1 : Int32)) (fun v6 =>
  self64 x0 x1 x3 v6 S3)))
theorem tt_X4_joinRemark_96 {Pw : Int32 → ZS → Prop} {self64 : Nat → Nat → Int32 → Int32 → ZS → Option (Int32 × ZS)} {self64g : Nat → Nat → Int32 → Int32 → ZS → Nat → Nat → Prop} (hself64 : ∀ (y0 : Nat) (y1 : Nat) (y2 : Int32) (y3 : Int32) (S : ZS), Tw Pw (self64 y0 y1 y2 y3 S) (zt S) (zu S) (fun C T => self64g y0 y1 y2 y3 S C T)) {x0 : Nat} {x1 : Nat} {x3 : Int32} {x5 : Int32} {t0 : Int32} {t1 : Nat} {S : ZS} : Tw Pw (d_X4_joinRemark_96 self64 x0 x1 x3 x5 t0 t1 S) (zt S) (zu S) (fun C T => g_X4_joinRemark_96 Pw self64g x0 x1 x3 x5 t0 t1 S C T) := by
  unfold d_X4_joinRemark_96 g_X4_joinRemark_96
  refine tw_chk (fun _ => ?_)
  refine tw_gal (fun Pw9 => tw_at (⟨rfl, rfl⟩ : zt S = zt S ∧ zu S = zu S) tt_X6_put) (fun r2 S3 => ?_)
  refine tw_bndv (fun v6 => ?_)
  exact tw_at (⟨rfl, rfl⟩ : zt S3 = zt S3 ∧ zu S3 = zu S3) (hself64 _ _ _ _ _)
noncomputable def d_X4_joinRemark_64s (self64 : Nat → Nat → Int32 → Int32 → ZS → Option (Int32 × ZS)) (x0 : Nat) (x1 : Nat) (x3 : Int32) (x5 : Int32) (S : ZS) : Option (Int32 × ZS) :=
  m_if (x3 ≤ x5) (
  m_chk (vp_nar .boolean (1 : Int32) = (1 : Int32)) (
  some ((1 : Int32), S))
  ) (
  m_chk (zK S x0 = 4) (
  m_cal (zP S 6 x0) (fun b1 =>
  m_chk (zK S x1 = 6) (
  m_cal (f_X6_at x1 x5 S) (fun o2 => m_chk (zt o2.2 = zt S ∧ zu o2.2 = zu S) (
  m_if (o2.1 = (10 : Int32)) (
  d_X4_joinRemark_96 self64 x0 x1 x3 x5 (32 : Int32) b1 o2.2
  ) (
  m_chk (zK o2.2 x1 = 6) (
  m_cal (f_X6_at x1 x5 o2.2) (fun o3 => m_chk (zt o3.2 = zt o2.2 ∧ zu o3.2 = zu o2.2) (
  d_X4_joinRemark_96 self64 x0 x1 x3 x5 o3.1 b1 o3.2)))
  ))))))
  )
theorem tt_X4_joinRemark_64s {Pw : Int32 → ZS → Prop} {self64 : Nat → Nat → Int32 → Int32 → ZS → Option (Int32 × ZS)} {self64g : Nat → Nat → Int32 → Int32 → ZS → Nat → Nat → Prop} (hself64 : ∀ (y0 : Nat) (y1 : Nat) (y2 : Int32) (y3 : Int32) (S : ZS), Tw Pw (self64 y0 y1 y2 y3 S) (zt S) (zu S) (fun C T => self64g y0 y1 y2 y3 S C T)) {x0 : Nat} {x1 : Nat} {x3 : Int32} {x5 : Int32} {S : ZS} : Tw Pw (d_X4_joinRemark_64s self64 x0 x1 x3 x5 S) (zt S) (zu S) (fun C T => g_X4_joinRemark_64s Pw self64g x0 x1 x3 x5 S C T) := by
  unfold d_X4_joinRemark_64s g_X4_joinRemark_64s
  refine tw_if (fun _ => ?_) (fun _ => ?_)
  ·
    refine tw_chk (fun _ => ?_)
    exact tw_ret (⟨rfl, rfl⟩ : zt S = zt S ∧ zu S = zu S)
  ·
    refine tw_chk (fun _ => ?_)
    refine tw_calv (fun b1 => ?_)
    refine tw_chk (fun _ => ?_)
    refine tw_calf (⟨rfl, rfl⟩ : zt S = zt S ∧ zu S = zu S) (fun o2 co2 => ?_)
    refine tw_if (fun _ => ?_) (fun _ => ?_)
    ·
      exact tw_at co2 (tt_X4_joinRemark_96 hself64)
    ·
      refine tw_chk (fun _ => ?_)
      refine tw_calf co2 (fun o3 co3 => ?_)
      exact tw_at co3 (tt_X4_joinRemark_96 hself64)
noncomputable def d_X4_joinRemark_64  : Nat → Nat → Nat → Int32 → Int32 → ZS → Option (Int32 × ZS)
  | 0 => fun _ _ _ _ _ => none
  | n + 1 => d_X4_joinRemark_64s  (d_X4_joinRemark_64  n)
theorem tt_X4_joinRemark_64 {Pw : Int32 → ZS → Prop}   {n : Nat} : ∀ {z0 : Nat} {z1 : Nat} {z2 : Int32} {z3 : Int32} {S : ZS}, Tw Pw (d_X4_joinRemark_64  n z0 z1 z2 z3 S) (zt S) (zu S) (fun C T => g_X4_joinRemark_64 Pw  n z0 z1 z2 z3 S C T) := by
  induction n with
  | zero => intro z0 z1 z2 z3 S; exact tw_none
  | succ n ih => intro z0 z1 z2 z3 S; exact tt_X4_joinRemark_64s  (fun _ _ _ _ _ => ih)
noncomputable def d_X4_joinRemark_61 (x0 : Nat) (x1 : Nat) (x2 : Int32) (x3 : Int32) (S : ZS) : Option (Int32 × ZS) :=
  d_X4_joinRemark_64 mFuel x0 x1 x3 x2 S
theorem tt_X4_joinRemark_61 {Pw : Int32 → ZS → Prop}   {x0 : Nat} {x1 : Nat} {x2 : Int32} {x3 : Int32} {S : ZS} : Tw Pw (d_X4_joinRemark_61 x0 x1 x2 x3 S) (zt S) (zu S) (fun C T => g_X4_joinRemark_61 Pw x0 x1 x2 x3 S C T) := by
  unfold d_X4_joinRemark_61 g_X4_joinRemark_61
  exact tw_at (⟨rfl, rfl⟩ : zt S = zt S ∧ zu S = zu S) (tt_X4_joinRemark_64)
noncomputable def d_X4_joinRemark_22 (x0 : Nat) (x1 : Nat) (x2 : Int32) (x3 : Int32) (t0 : Int32) (S : ZS) : Option (Int32 × ZS) :=
  m_chk (zK S x0 = 4) (
  m_cal (zP S 6 x0) (fun b1 =>
  m_chk (zK S b1 = 6) (
  m_cal (f_X6_size b1 S) (fun o2 => m_chk (zt o2.2 = zt S ∧ zu o2.2 = zu S) (
  m_bnd (o2.1 + t0) (fun v3 =>
  m_bnd (v3 + x3) (fun v4 =>
  m_bnd (v4 - x2) (fun v5 =>
  m_if (v5 ≤ (200 : Int32)) (
  m_if (t0 = (1 : Int32)) (
  m_chk (zK o2.2 x0 = 4) (
  m_cal (zP o2.2 6 x0) (fun b6 =>
  m_chk (zK o2.2 b6 = 6) (
  m_cal2 (d_X6_put b6 (32 : Int32) o2.2) (fun r8 S9 =>
  d_X4_joinRemark_61 x0 x1 x2 x3 S9))))
  ) (
  d_X4_joinRemark_61 x0 x1 x2 x3 o2.2
  )
  ) (
  m_chk (vp_nar .boolean (0 : Int32) = (0 : Int32)) (
  some ((0 : Int32), o2.2))
  )))))))))
theorem tt_X4_joinRemark_22 {Pw : Int32 → ZS → Prop}   {x0 : Nat} {x1 : Nat} {x2 : Int32} {x3 : Int32} {t0 : Int32} {S : ZS} : Tw Pw (d_X4_joinRemark_22 x0 x1 x2 x3 t0 S) (zt S) (zu S) (fun C T => g_X4_joinRemark_22 Pw x0 x1 x2 x3 t0 S C T) := by
  unfold d_X4_joinRemark_22 g_X4_joinRemark_22
  refine tw_chk (fun _ => ?_)
  refine tw_calv (fun b1 => ?_)
  refine tw_chk (fun _ => ?_)
  refine tw_calf (⟨rfl, rfl⟩ : zt S = zt S ∧ zu S = zu S) (fun o2 co2 => ?_)
  refine tw_bndv (fun v3 => ?_)
  refine tw_bndv (fun v4 => ?_)
  refine tw_bndv (fun v5 => ?_)
  refine tw_if (fun _ => ?_) (fun _ => ?_)
  ·
    refine tw_if (fun _ => ?_) (fun _ => ?_)
    ·
      refine tw_chk (fun _ => ?_)
      refine tw_calv (fun b6 => ?_)
      refine tw_chk (fun _ => ?_)
      refine tw_gal (fun Pw9 => tw_at co2 tt_X6_put) (fun r8 S9 => ?_)
      exact tw_at (⟨rfl, rfl⟩ : zt S9 = zt S9 ∧ zu S9 = zu S9) (tt_X4_joinRemark_61)
    ·
      exact tw_at co2 (tt_X4_joinRemark_61)
  ·
    refine tw_chk (fun _ => ?_)
    exact tw_ret co2
noncomputable def d_X4_joinRemark_0 (x0 : Nat) (x1 : Nat) (x2 : Int32) (x3 : Int32) (S : ZS) : Option (Int32 × ZS) :=
  m_if (x2 < x3) (
  m_chk (zK S x0 = 4) (
  m_cal (zP S 6 x0) (fun b1 =>
  m_chk (zK S b1 = 6) (
  m_cal (f_X6_size b1 S) (fun o2 => m_chk (zt o2.2 = zt S ∧ zu o2.2 = zu S) (
  m_if (o2.1 ≤ 0) (
  d_X4_joinRemark_22 x0 x1 x2 x3 (0 : Int32) o2.2
  ) (
  d_X4_joinRemark_22 x0 x1 x2 x3 (1 : Int32) o2.2
  ))))))
  ) (
  m_chk (vp_nar .boolean (1 : Int32) = (1 : Int32)) (
  some ((1 : Int32), S))
  )
theorem tt_X4_joinRemark_0 {Pw : Int32 → ZS → Prop}   {x0 : Nat} {x1 : Nat} {x2 : Int32} {x3 : Int32} {S : ZS} : Tw Pw (d_X4_joinRemark_0 x0 x1 x2 x3 S) (zt S) (zu S) (fun C T => g_X4_joinRemark_0 Pw x0 x1 x2 x3 S C T) := by
  unfold d_X4_joinRemark_0 g_X4_joinRemark_0
  refine tw_if (fun _ => ?_) (fun _ => ?_)
  ·
    refine tw_chk (fun _ => ?_)
    refine tw_calv (fun b1 => ?_)
    refine tw_chk (fun _ => ?_)
    refine tw_calf (⟨rfl, rfl⟩ : zt S = zt S ∧ zu S = zu S) (fun o2 co2 => ?_)
    refine tw_if (fun _ => ?_) (fun _ => ?_)
    ·
      exact tw_at co2 (tt_X4_joinRemark_22)
    ·
      exact tw_at co2 (tt_X4_joinRemark_22)
  ·
    refine tw_chk (fun _ => ?_)
    exact tw_ret (⟨rfl, rfl⟩ : zt S = zt S ∧ zu S = zu S)
noncomputable def d_X4_joinRemark (x0 : Nat) (x1 : Nat) (x2 : Int32) (x3 : Int32) (S : ZS) : Option (Int32 × ZS) := d_X4_joinRemark_0 x0 x1 x2 x3 S
theorem tt_X4_joinRemark {Pw : Int32 → ZS → Prop} {x0 : Nat} {x1 : Nat} {x2 : Int32} {x3 : Int32} {S : ZS} : Tw Pw (d_X4_joinRemark x0 x1 x2 x3 S) (zt S) (zu S) (fun C T => g_X4_joinRemark x0 x1 x2 x3 S C T Pw) := tt_X4_joinRemark_0
noncomputable def d_X2_readRemark_91 (x0 : Nat) (x1 : Nat) (x2 : Int32) (x5 : Int32) (S : ZS) : Option (Int32 × ZS) :=
  m_chk (zK S x0 = 2) (
  m_cal (zP S 2 x0) (fun b1 =>
  m_bnd (x2 + (1 : Int32)) (fun v2 =>
  m_chk (zK S x1 = 4) (
  m_cal2 (d_X4_joinRemark x1 b1 v2 x5 S) (fun r4 S5 =>
  m_if (r4 = 0) (
  m_chk (zK S5 x0 = 2) (
  m_cal (f_X2_refuse x0 (8 : Int32) x2 S5) (fun o13 => m_chk (zt o13.2 = zt S5 ∧ zu o13.2 = zu S5) (
  m_chk (vp_nar .boolean o13.1 = o13.1) (
  some (o13.1, o13.2)))))
  ) (
  m_bnd (x5 + (1 : Int32)) (fun v8 =>
  m_chk (zK S5 x0 = 2) (
  m_cal (zP S5 2 x0) (fun b9 =>
  m_chk (zK S5 b9 = 6) (
  m_cal (f_X6_size b9 S5) (fun o10 => m_chk (zt o10.2 = zt S5 ∧ zu o10.2 = zu S5) (
  m_bnd (if o10.1 < v8 then o10.1 else v8) (fun v11 =>
  m_chk (zK o10.2 x0 = 2) (
  m_bnd (zsI o10.2 4 x0 v11) (fun S12 =>
  m_chk (vp_nar .boolean (1 : Int32) = (1 : Int32)) (
  some ((1 : Int32), S12)))))))))))
  ))))))
theorem tt_X2_readRemark_91 {Pw : Int32 → ZS → Prop}   {x0 : Nat} {x1 : Nat} {x2 : Int32} {x5 : Int32} {S : ZS} : Tw Pw (d_X2_readRemark_91 x0 x1 x2 x5 S) (zt S) (zu S) (fun C T => g_X2_readRemark_91 Pw x0 x1 x2 x5 S C T) := by
  unfold d_X2_readRemark_91 g_X2_readRemark_91
  refine tw_chk (fun _ => ?_)
  refine tw_calv (fun b1 => ?_)
  refine tw_bndv (fun v2 => ?_)
  refine tw_chk (fun _ => ?_)
  refine tw_gal (fun Pw9 => tw_at (⟨rfl, rfl⟩ : zt S = zt S ∧ zu S = zu S) tt_X4_joinRemark) (fun r4 S5 => ?_)
  refine tw_if (fun _ => ?_) (fun _ => ?_)
  ·
    refine tw_chk (fun _ => ?_)
    refine tw_calf (⟨rfl, rfl⟩ : zt S5 = zt S5 ∧ zu S5 = zu S5) (fun o13 co13 => ?_)
    refine tw_chk (fun _ => ?_)
    exact tw_ret co13
  ·
    refine tw_bndv (fun v8 => ?_)
    refine tw_chk (fun _ => ?_)
    refine tw_calv (fun b9 => ?_)
    refine tw_chk (fun _ => ?_)
    refine tw_calf (⟨rfl, rfl⟩ : zt S5 = zt S5 ∧ zu S5 = zu S5) (fun o10 co10 => ?_)
    refine tw_bndv (fun v11 => ?_)
    refine tw_chk (fun _ => ?_)
    refine tw_bnds co10 (fun S12 cS12 => ?_)
    refine tw_chk (fun _ => ?_)
    exact tw_ret cS12
noncomputable def d_X2_readRemark_83 (x0 : Nat) (x4 : Int32) (S : ZS) : Option (Int32 × ZS) :=
  m_chk (zK S x0 = 2) (
  m_cal (f_X2_refuse x0 (1 : Int32) x4 S) (fun o1 => m_chk (zt o1.2 = zt S ∧ zu o1.2 = zu S) (
  m_chk (vp_nar .boolean o1.1 = o1.1) (
  some (o1.1, o1.2)))))
theorem tt_X2_readRemark_83 {Pw : Int32 → ZS → Prop}   {x0 : Nat} {x4 : Int32} {S : ZS} : Tw Pw (d_X2_readRemark_83 x0 x4 S) (zt S) (zu S) (fun C T => g_X2_readRemark_83 Pw x0 x4 S C T) := by
  unfold d_X2_readRemark_83 g_X2_readRemark_83
  refine tw_chk (fun _ => ?_)
  refine tw_calf (⟨rfl, rfl⟩ : zt S = zt S ∧ zu S = zu S) (fun o1 co1 => ?_)
  refine tw_chk (fun _ => ?_)
  exact tw_ret co1
noncomputable def d_X2_readRemark_55 (x0 : Nat) (x1 : Nat) (x2 : Int32) (x3 : Int32) (x4 : Int32) (t0 : Int32) (S : ZS) : Option (Int32 × ZS) :=
  m_if (x3 = 0) (
  m_if (t0 ≤ x4) (
  d_X2_readRemark_91 x0 x1 x2 t0 S
  ) (
  d_X2_readRemark_83 x0 x4 S
  )
  ) (
  m_chk (zK S x0 = 2) (
  m_cal (zP S 2 x0) (fun b1 =>
  m_chk (zK S b1 = 6) (
  m_cal (f_X6_size b1 S) (fun o2 => m_chk (zt o2.2 = zt S ∧ zu o2.2 = zu S) (
  m_if (x4 = o2.1) (
  d_X2_readRemark_83 x0 x4 o2.2
  ) (
  d_X2_readRemark_91 x0 x1 x2 t0 o2.2
  ))))))
  )
theorem tt_X2_readRemark_55 {Pw : Int32 → ZS → Prop}   {x0 : Nat} {x1 : Nat} {x2 : Int32} {x3 : Int32} {x4 : Int32} {t0 : Int32} {S : ZS} : Tw Pw (d_X2_readRemark_55 x0 x1 x2 x3 x4 t0 S) (zt S) (zu S) (fun C T => g_X2_readRemark_55 Pw x0 x1 x2 x3 x4 t0 S C T) := by
  unfold d_X2_readRemark_55 g_X2_readRemark_55
  refine tw_if (fun _ => ?_) (fun _ => ?_)
  ·
    refine tw_if (fun _ => ?_) (fun _ => ?_)
    ·
      exact tw_at (⟨rfl, rfl⟩ : zt S = zt S ∧ zu S = zu S) (tt_X2_readRemark_91)
    ·
      exact tw_at (⟨rfl, rfl⟩ : zt S = zt S ∧ zu S = zu S) (tt_X2_readRemark_83)
  ·
    refine tw_chk (fun _ => ?_)
    refine tw_calv (fun b1 => ?_)
    refine tw_chk (fun _ => ?_)
    refine tw_calf (⟨rfl, rfl⟩ : zt S = zt S ∧ zu S = zu S) (fun o2 co2 => ?_)
    refine tw_if (fun _ => ?_) (fun _ => ?_)
    ·
      exact tw_at co2 (tt_X2_readRemark_83)
    ·
      exact tw_at co2 (tt_X2_readRemark_91)
noncomputable def d_X2_readRemark_23 (x0 : Nat) (x1 : Nat) (x2 : Int32) (t0 : Int32) (S : ZS) : Option (Int32 × ZS) :=
  m_chk (zK S x0 = 2) (
  m_cal (zP S 2 x0) (fun b1 =>
  m_chk (zK S b1 = 6) (
  m_cal (f_X6_indexOf b1 (125 : Int32) x2 S) (fun o2 => m_chk (zt o2.2 = zt S ∧ zu o2.2 = zu S) (
  m_if (t0 = 0) (
  m_chk (zK o2.2 x0 = 2) (
  m_cal (zP o2.2 2 x0) (fun b3 =>
  m_chk (zK o2.2 b3 = 6) (
  m_cal (f_X6_indexOf b3 (10 : Int32) x2 o2.2) (fun o4 => m_chk (zt o4.2 = zt o2.2 ∧ zu o4.2 = zu o2.2) (
  d_X2_readRemark_55 x0 x1 x2 t0 o2.1 o4.1 o4.2)))))
  ) (
  d_X2_readRemark_55 x0 x1 x2 t0 o2.1 o2.1 o2.2
  ))))))
theorem tt_X2_readRemark_23 {Pw : Int32 → ZS → Prop}   {x0 : Nat} {x1 : Nat} {x2 : Int32} {t0 : Int32} {S : ZS} : Tw Pw (d_X2_readRemark_23 x0 x1 x2 t0 S) (zt S) (zu S) (fun C T => g_X2_readRemark_23 Pw x0 x1 x2 t0 S C T) := by
  unfold d_X2_readRemark_23 g_X2_readRemark_23
  refine tw_chk (fun _ => ?_)
  refine tw_calv (fun b1 => ?_)
  refine tw_chk (fun _ => ?_)
  refine tw_calf (⟨rfl, rfl⟩ : zt S = zt S ∧ zu S = zu S) (fun o2 co2 => ?_)
  refine tw_if (fun _ => ?_) (fun _ => ?_)
  ·
    refine tw_chk (fun _ => ?_)
    refine tw_calv (fun b3 => ?_)
    refine tw_chk (fun _ => ?_)
    refine tw_calf co2 (fun o4 co4 => ?_)
    exact tw_at co4 (tt_X2_readRemark_55)
  ·
    exact tw_at co2 (tt_X2_readRemark_55)
noncomputable def d_X2_readRemark_0 (x0 : Nat) (x1 : Nat) (S : ZS) : Option (Int32 × ZS) :=
  m_chk (zK S x0 = 2) (
  m_chk (zK S x0 = 2) (
  m_cal (zP S 2 x0) (fun b1 =>
  m_chk (zK S b1 = 6) (
  m_cal (f_X6_at b1 (zI S 4 x0) S) (fun o2 => m_chk (zt o2.2 = zt S ∧ zu o2.2 = zu S) (
  m_if (o2.1 = (123 : Int32)) (
  d_X2_readRemark_23 x0 x1 (zI S 4 x0) (1 : Int32) o2.2
  ) (
  d_X2_readRemark_23 x0 x1 (zI S 4 x0) (0 : Int32) o2.2
  )))))))
theorem tt_X2_readRemark_0 {Pw : Int32 → ZS → Prop}   {x0 : Nat} {x1 : Nat} {S : ZS} : Tw Pw (d_X2_readRemark_0 x0 x1 S) (zt S) (zu S) (fun C T => g_X2_readRemark_0 Pw x0 x1 S C T) := by
  unfold d_X2_readRemark_0 g_X2_readRemark_0
  refine tw_chk (fun _ => ?_)
  refine tw_chk (fun _ => ?_)
  refine tw_calv (fun b1 => ?_)
  refine tw_chk (fun _ => ?_)
  refine tw_calf (⟨rfl, rfl⟩ : zt S = zt S ∧ zu S = zu S) (fun o2 co2 => ?_)
  refine tw_if (fun _ => ?_) (fun _ => ?_)
  ·
    exact tw_at co2 (tt_X2_readRemark_23)
  ·
    exact tw_at co2 (tt_X2_readRemark_23)
noncomputable def d_X2_readRemark (x0 : Nat) (x1 : Nat) (S : ZS) : Option (Int32 × ZS) := d_X2_readRemark_0 x0 x1 S
theorem tt_X2_readRemark {Pw : Int32 → ZS → Prop} {x0 : Nat} {x1 : Nat} {S : ZS} : Tw Pw (d_X2_readRemark x0 x1 S) (zt S) (zu S) (fun C T => g_X2_readRemark x0 x1 S C T Pw) := tt_X2_readRemark_0
noncomputable def d_X2_readRemarks_67 (x2 : Int32) (S : ZS) : Option (Int32 × ZS) :=
  m_chk (vp_nar .boolean x2 = x2) (
  some (x2, S))
theorem tt_X2_readRemarks_67 {Pw : Int32 → ZS → Prop}   {x2 : Int32} {S : ZS} : Tw Pw (d_X2_readRemarks_67 x2 S) (zt S) (zu S) (fun C T => g_X2_readRemarks_67 Pw x2 S C T) := by
  unfold d_X2_readRemarks_67 g_X2_readRemarks_67
  refine tw_chk (fun _ => ?_)
  exact tw_ret (⟨rfl, rfl⟩ : zt S = zt S ∧ zu S = zu S)
noncomputable def d_X2_readRemarks_51 (self8 : Nat → Nat → Int32 → Int32 → ZS → Option (Int32 × ZS)) (x0 : Nat) (x1 : Nat) (x3 : Int32) (S : ZS) : Option (Int32 × ZS) :=
  m_chk (zK S x0 = 2) (
  m_cal2 (d_X2_readRemark x0 x1 S) (fun r2 S3 =>
  m_chk (zK S3 x0 = 2) (
  m_cal (f_X2_skipBlanks x0 S3) (fun o6 => m_chk (zt o6.2 = zt S3 ∧ zu o6.2 = zu S3) (
  m_bnd (x3 + (1 : Int32)) (fun v7 =>
  self8 x0 x1 r2 v7 o6.2))))))
theorem tt_X2_readRemarks_51 {Pw : Int32 → ZS → Prop} {self8 : Nat → Nat → Int32 → Int32 → ZS → Option (Int32 × ZS)} {self8g : Nat → Nat → Int32 → Int32 → ZS → Nat → Nat → Prop} (hself8 : ∀ (y0 : Nat) (y1 : Nat) (y2 : Int32) (y3 : Int32) (S : ZS), Tw Pw (self8 y0 y1 y2 y3 S) (zt S) (zu S) (fun C T => self8g y0 y1 y2 y3 S C T)) {x0 : Nat} {x1 : Nat} {x3 : Int32} {S : ZS} : Tw Pw (d_X2_readRemarks_51 self8 x0 x1 x3 S) (zt S) (zu S) (fun C T => g_X2_readRemarks_51 Pw self8g x0 x1 x3 S C T) := by
  unfold d_X2_readRemarks_51 g_X2_readRemarks_51
  refine tw_chk (fun _ => ?_)
  refine tw_gal (fun Pw9 => tw_at (⟨rfl, rfl⟩ : zt S = zt S ∧ zu S = zu S) tt_X2_readRemark) (fun r2 S3 => ?_)
  refine tw_chk (fun _ => ?_)
  refine tw_calf (⟨rfl, rfl⟩ : zt S3 = zt S3 ∧ zu S3 = zu S3) (fun o6 co6 => ?_)
  refine tw_bndv (fun v7 => ?_)
  exact tw_at co6 (hself8 _ _ _ _ _)
noncomputable def d_X2_readRemarks_8s (self8 : Nat → Nat → Int32 → Int32 → ZS → Option (Int32 × ZS)) (x0 : Nat) (x1 : Nat) (x2 : Int32) (x3 : Int32) (S : ZS) : Option (Int32 × ZS) :=
  m_if ((2000 : Int32) ≤ x3) (
  d_X2_readRemarks_67 x2 S
  ) (
  m_if (x2 = 0) (
  d_X2_readRemarks_67 x2 S
  ) (
  m_chk (zK S x0 = 2) (
  m_cal (zP S 2 x0) (fun b1 =>
  m_chk (zK S x0 = 2) (
  m_chk (zK S b1 = 6) (
  m_cal (f_X6_at b1 (zI S 4 x0) S) (fun o2 => m_chk (zt o2.2 = zt S ∧ zu o2.2 = zu S) (
  m_if (o2.1 = (123 : Int32)) (
  d_X2_readRemarks_51 self8 x0 x1 x3 o2.2
  ) (
  m_chk (zK o2.2 x0 = 2) (
  m_cal (zP o2.2 2 x0) (fun b3 =>
  m_chk (zK o2.2 x0 = 2) (
  m_chk (zK o2.2 b3 = 6) (
  m_cal (f_X6_at b3 (zI o2.2 4 x0) o2.2) (fun o4 => m_chk (zt o4.2 = zt o2.2 ∧ zu o4.2 = zu o2.2) (
  m_if (o4.1 = (59 : Int32)) (
  d_X2_readRemarks_51 self8 x0 x1 x3 o4.2
  ) (
  d_X2_readRemarks_67 x2 o4.2
  )))))))
  )))))))
  )
  )
theorem tt_X2_readRemarks_8s {Pw : Int32 → ZS → Prop} {self8 : Nat → Nat → Int32 → Int32 → ZS → Option (Int32 × ZS)} {self8g : Nat → Nat → Int32 → Int32 → ZS → Nat → Nat → Prop} (hself8 : ∀ (y0 : Nat) (y1 : Nat) (y2 : Int32) (y3 : Int32) (S : ZS), Tw Pw (self8 y0 y1 y2 y3 S) (zt S) (zu S) (fun C T => self8g y0 y1 y2 y3 S C T)) {x0 : Nat} {x1 : Nat} {x2 : Int32} {x3 : Int32} {S : ZS} : Tw Pw (d_X2_readRemarks_8s self8 x0 x1 x2 x3 S) (zt S) (zu S) (fun C T => g_X2_readRemarks_8s Pw self8g x0 x1 x2 x3 S C T) := by
  unfold d_X2_readRemarks_8s g_X2_readRemarks_8s
  refine tw_if (fun _ => ?_) (fun _ => ?_)
  ·
    exact tw_at (⟨rfl, rfl⟩ : zt S = zt S ∧ zu S = zu S) (tt_X2_readRemarks_67)
  ·
    refine tw_if (fun _ => ?_) (fun _ => ?_)
    ·
      exact tw_at (⟨rfl, rfl⟩ : zt S = zt S ∧ zu S = zu S) (tt_X2_readRemarks_67)
    ·
      refine tw_chk (fun _ => ?_)
      refine tw_calv (fun b1 => ?_)
      refine tw_chk (fun _ => ?_)
      refine tw_chk (fun _ => ?_)
      refine tw_calf (⟨rfl, rfl⟩ : zt S = zt S ∧ zu S = zu S) (fun o2 co2 => ?_)
      refine tw_if (fun _ => ?_) (fun _ => ?_)
      ·
        exact tw_at co2 (tt_X2_readRemarks_51 hself8)
      ·
        refine tw_chk (fun _ => ?_)
        refine tw_calv (fun b3 => ?_)
        refine tw_chk (fun _ => ?_)
        refine tw_chk (fun _ => ?_)
        refine tw_calf co2 (fun o4 co4 => ?_)
        refine tw_if (fun _ => ?_) (fun _ => ?_)
        ·
          exact tw_at co4 (tt_X2_readRemarks_51 hself8)
        ·
          exact tw_at co4 (tt_X2_readRemarks_67)
noncomputable def d_X2_readRemarks_8  : Nat → Nat → Nat → Int32 → Int32 → ZS → Option (Int32 × ZS)
  | 0 => fun _ _ _ _ _ => none
  | n + 1 => d_X2_readRemarks_8s  (d_X2_readRemarks_8  n)
theorem tt_X2_readRemarks_8 {Pw : Int32 → ZS → Prop}   {n : Nat} : ∀ {z0 : Nat} {z1 : Nat} {z2 : Int32} {z3 : Int32} {S : ZS}, Tw Pw (d_X2_readRemarks_8  n z0 z1 z2 z3 S) (zt S) (zu S) (fun C T => g_X2_readRemarks_8 Pw  n z0 z1 z2 z3 S C T) := by
  induction n with
  | zero => intro z0 z1 z2 z3 S; exact tw_none
  | succ n ih => intro z0 z1 z2 z3 S; exact tt_X2_readRemarks_8s  (fun _ _ _ _ _ => ih)
noncomputable def d_X2_readRemarks_0 (x0 : Nat) (x1 : Nat) (S : ZS) : Option (Int32 × ZS) :=
  m_chk (zK S x0 = 2) (
  m_cal (f_X2_skipBlanks x0 S) (fun o1 => m_chk (zt o1.2 = zt S ∧ zu o1.2 = zu S) (
  d_X2_readRemarks_8 mFuel x0 x1 (1 : Int32) (0 : Int32) o1.2)))
theorem tt_X2_readRemarks_0 {Pw : Int32 → ZS → Prop}   {x0 : Nat} {x1 : Nat} {S : ZS} : Tw Pw (d_X2_readRemarks_0 x0 x1 S) (zt S) (zu S) (fun C T => g_X2_readRemarks_0 Pw x0 x1 S C T) := by
  unfold d_X2_readRemarks_0 g_X2_readRemarks_0
  refine tw_chk (fun _ => ?_)
  refine tw_calf (⟨rfl, rfl⟩ : zt S = zt S ∧ zu S = zu S) (fun o1 co1 => ?_)
  exact tw_at co1 (tt_X2_readRemarks_8)
noncomputable def d_X2_readRemarks (x0 : Nat) (x1 : Nat) (S : ZS) : Option (Int32 × ZS) := d_X2_readRemarks_0 x0 x1 S
theorem tt_X2_readRemarks {Pw : Int32 → ZS → Prop} {x0 : Nat} {x1 : Nat} {S : ZS} : Tw Pw (d_X2_readRemarks x0 x1 S) (zt S) (zu S) (fun C T => g_X2_readRemarks x0 x1 S C T Pw) := tt_X2_readRemarks_0
noncomputable def d_X2_readHead_74 (t0 : Int32) (S : ZS) : Option (Int32 × ZS) :=
  m_chk (vp_nar .boolean t0 = t0) (
  some (t0, S))
theorem tt_X2_readHead_74 {Pw : Int32 → ZS → Prop}   {t0 : Int32} {S : ZS} : Tw Pw (d_X2_readHead_74 t0 S) (zt S) (zu S) (fun C T => g_X2_readHead_74 Pw t0 S C T) := by
  unfold d_X2_readHead_74 g_X2_readHead_74
  refine tw_chk (fun _ => ?_)
  exact tw_ret (⟨rfl, rfl⟩ : zt S = zt S ∧ zu S = zu S)
noncomputable def d_X2_readHead_73 (S : ZS) : Option (Int32 × ZS) :=
  d_X2_readHead_74 (0 : Int32) S
theorem tt_X2_readHead_73 {Pw : Int32 → ZS → Prop}   {S : ZS} : Tw Pw (d_X2_readHead_73 S) (zt S) (zu S) (fun C T => g_X2_readHead_73 Pw S C T) := by
  unfold d_X2_readHead_73 g_X2_readHead_73
  exact tw_at (⟨rfl, rfl⟩ : zt S = zt S ∧ zu S = zu S) (tt_X2_readHead_74)
noncomputable def d_X2_readHead_50 (x0 : Nat) (x1 : Int32) (S : ZS) : Option (Int32 × ZS) :=
  m_if (x1 = 0) (
  d_X2_readHead_73 S
  ) (
  m_chk (zK S x0 = 2) (
  m_cal (zP S 3 x0) (fun b1 =>
  m_chk (zK S b1 = 1) (
  m_cal (f_X1_at b1 (0 : Int32) S) (fun o2 => m_chk (zt o2.2 = zt S ∧ zu o2.2 = zu S) (
  m_chk (zK o2.2 x0 = 2) (
  m_cal2 (d_X2_readRemarks x0 o2.1 o2.2) (fun r4 S5 =>
  m_if (r4 = 0) (
  d_X2_readHead_73 S5
  ) (
  d_X2_readHead_74 (1 : Int32) S5
  ))))))))
  )
theorem tt_X2_readHead_50 {Pw : Int32 → ZS → Prop}   {x0 : Nat} {x1 : Int32} {S : ZS} : Tw Pw (d_X2_readHead_50 x0 x1 S) (zt S) (zu S) (fun C T => g_X2_readHead_50 Pw x0 x1 S C T) := by
  unfold d_X2_readHead_50 g_X2_readHead_50
  refine tw_if (fun _ => ?_) (fun _ => ?_)
  ·
    exact tw_at (⟨rfl, rfl⟩ : zt S = zt S ∧ zu S = zu S) (tt_X2_readHead_73)
  ·
    refine tw_chk (fun _ => ?_)
    refine tw_calv (fun b1 => ?_)
    refine tw_chk (fun _ => ?_)
    refine tw_calf (⟨rfl, rfl⟩ : zt S = zt S ∧ zu S = zu S) (fun o2 co2 => ?_)
    refine tw_chk (fun _ => ?_)
    refine tw_gal (fun Pw9 => tw_at co2 tt_X2_readRemarks) (fun r4 S5 => ?_)
    refine tw_if (fun _ => ?_) (fun _ => ?_)
    ·
      exact tw_at (⟨rfl, rfl⟩ : zt S5 = zt S5 ∧ zu S5 = zu S5) (tt_X2_readHead_73)
    ·
      exact tw_at (⟨rfl, rfl⟩ : zt S5 = zt S5 ∧ zu S5 = zu S5) (tt_X2_readHead_74)
noncomputable def d_X2_readHead_8s (self8 : Nat → Int32 → Int32 → ZS → Option (Int32 × ZS)) (x0 : Nat) (x1 : Int32) (x2 : Int32) (S : ZS) : Option (Int32 × ZS) :=
  m_if ((2000 : Int32) ≤ x2) (
  d_X2_readHead_50 x0 x1 S
  ) (
  m_if (x1 = 0) (
  d_X2_readHead_50 x0 x1 S
  ) (
  m_chk (zK S x0 = 2) (
  m_cal (zP S 2 x0) (fun b1 =>
  m_chk (zK S x0 = 2) (
  m_chk (zK S b1 = 6) (
  m_cal (f_X6_at b1 (zI S 4 x0) S) (fun o2 => m_chk (zt o2.2 = zt S ∧ zu o2.2 = zu S) (
  m_if (o2.1 = (91 : Int32)) (
  m_chk (zK o2.2 x0 = 2) (
  m_cal2 (d_X2_readTag x0 o2.2) (fun r4 S5 =>
  m_chk (zK S5 x0 = 2) (
  m_cal (f_X2_skipBlanks x0 S5) (fun o8 => m_chk (zt o8.2 = zt S5 ∧ zu o8.2 = zu S5) (
  m_bnd (x2 + (1 : Int32)) (fun v9 =>
  self8 x0 r4 v9 o8.2))))))
  ) (
  d_X2_readHead_50 x0 x1 o2.2
  )))))))
  )
  )
theorem tt_X2_readHead_8s {Pw : Int32 → ZS → Prop} {self8 : Nat → Int32 → Int32 → ZS → Option (Int32 × ZS)} {self8g : Nat → Int32 → Int32 → ZS → Nat → Nat → Prop} (hself8 : ∀ (y0 : Nat) (y1 : Int32) (y2 : Int32) (S : ZS), Tw Pw (self8 y0 y1 y2 S) (zt S) (zu S) (fun C T => self8g y0 y1 y2 S C T)) {x0 : Nat} {x1 : Int32} {x2 : Int32} {S : ZS} : Tw Pw (d_X2_readHead_8s self8 x0 x1 x2 S) (zt S) (zu S) (fun C T => g_X2_readHead_8s Pw self8g x0 x1 x2 S C T) := by
  unfold d_X2_readHead_8s g_X2_readHead_8s
  refine tw_if (fun _ => ?_) (fun _ => ?_)
  ·
    exact tw_at (⟨rfl, rfl⟩ : zt S = zt S ∧ zu S = zu S) (tt_X2_readHead_50)
  ·
    refine tw_if (fun _ => ?_) (fun _ => ?_)
    ·
      exact tw_at (⟨rfl, rfl⟩ : zt S = zt S ∧ zu S = zu S) (tt_X2_readHead_50)
    ·
      refine tw_chk (fun _ => ?_)
      refine tw_calv (fun b1 => ?_)
      refine tw_chk (fun _ => ?_)
      refine tw_chk (fun _ => ?_)
      refine tw_calf (⟨rfl, rfl⟩ : zt S = zt S ∧ zu S = zu S) (fun o2 co2 => ?_)
      refine tw_if (fun _ => ?_) (fun _ => ?_)
      ·
        refine tw_chk (fun _ => ?_)
        refine tw_gal (fun Pw9 => tw_at co2 tt_X2_readTag) (fun r4 S5 => ?_)
        refine tw_chk (fun _ => ?_)
        refine tw_calf (⟨rfl, rfl⟩ : zt S5 = zt S5 ∧ zu S5 = zu S5) (fun o8 co8 => ?_)
        refine tw_bndv (fun v9 => ?_)
        exact tw_at co8 (hself8 _ _ _ _)
      ·
        exact tw_at co2 (tt_X2_readHead_50)
noncomputable def d_X2_readHead_8  : Nat → Nat → Int32 → Int32 → ZS → Option (Int32 × ZS)
  | 0 => fun _ _ _ _ => none
  | n + 1 => d_X2_readHead_8s  (d_X2_readHead_8  n)
theorem tt_X2_readHead_8 {Pw : Int32 → ZS → Prop}   {n : Nat} : ∀ {z0 : Nat} {z1 : Int32} {z2 : Int32} {S : ZS}, Tw Pw (d_X2_readHead_8  n z0 z1 z2 S) (zt S) (zu S) (fun C T => g_X2_readHead_8 Pw  n z0 z1 z2 S C T) := by
  induction n with
  | zero => intro z0 z1 z2 S; exact tw_none
  | succ n ih => intro z0 z1 z2 S; exact tt_X2_readHead_8s  (fun _ _ _ _ => ih)
noncomputable def d_X2_readHead_0 (x0 : Nat) (S : ZS) : Option (Int32 × ZS) :=
  m_chk (zK S x0 = 2) (
  m_cal (f_X2_skipBlanks x0 S) (fun o1 => m_chk (zt o1.2 = zt S ∧ zu o1.2 = zu S) (
  d_X2_readHead_8 mFuel x0 (1 : Int32) (0 : Int32) o1.2)))
theorem tt_X2_readHead_0 {Pw : Int32 → ZS → Prop}   {x0 : Nat} {S : ZS} : Tw Pw (d_X2_readHead_0 x0 S) (zt S) (zu S) (fun C T => g_X2_readHead_0 Pw x0 S C T) := by
  unfold d_X2_readHead_0 g_X2_readHead_0
  refine tw_chk (fun _ => ?_)
  refine tw_calf (⟨rfl, rfl⟩ : zt S = zt S ∧ zu S = zu S) (fun o1 co1 => ?_)
  exact tw_at co1 (tt_X2_readHead_8)
noncomputable def d_X2_readHead (x0 : Nat) (S : ZS) : Option (Int32 × ZS) := d_X2_readHead_0 x0 S
theorem tt_X2_readHead {Pw : Int32 → ZS → Prop} {x0 : Nat} {S : ZS} : Tw Pw (d_X2_readHead x0 S) (zt S) (zu S) (fun C T => g_X2_readHead x0 S C T Pw) := tt_X2_readHead_0
noncomputable def d_X8_copyWhole_113 (S : ZS) : Option (Int32 × ZS) :=
  some (0, S)
theorem tt_X8_copyWhole_113 {Pw : Int32 → ZS → Prop}   {S : ZS} : Tw Pw (d_X8_copyWhole_113 S) (zt S) (zu S) (fun C T => g_X8_copyWhole_113 Pw S C T) := by
  unfold d_X8_copyWhole_113 g_X8_copyWhole_113
  exact tw_ret (⟨rfl, rfl⟩ : zt S = zt S ∧ zu S = zu S)
noncomputable def d_X8_copyWhole_87 (x0 : Nat) (t0 : Int32) (t1 : Nat) (S : ZS) : Option (Int32 × ZS) :=
  m_chk (zK S t1 = 8) (
  m_chk (vp_nar .char t0 = t0 ∧ fits .char (.int t0) = true) (
  m_bnd (zsI S 9 t1 t0) (fun S1 =>
  m_chk (zK S1 x0 = 8) (
  m_if ((zI S1 9 x0) = 0) (
  d_X8_copyWhole_113 S1
  ) (
  m_chk (zK S1 x0 = 8) (
  m_cal (zP S1 1 x0) (fun b2 =>
  m_chk (zK S1 x0 = 8) (
  m_cal (zP S1 1 x0) (fun b3 =>
  m_chk (zK S1 b3 = 6) (
  m_cal (f_X6_size b3 S1) (fun o4 => m_chk (zt o4.2 = zt S1 ∧ zu o4.2 = zu S1) (
  m_bnd (o4.1 - (1 : Int32)) (fun v5 =>
  m_chk (zK o4.2 b2 = 6) (
  m_cal (f_X6_keep b2 v5 o4.2) (fun o6 => m_chk (zt o6.2 = zt o4.2 ∧ zu o6.2 = zu o4.2) (
  d_X8_copyWhole_113 o6.2)))))))))))
  )))))
theorem tt_X8_copyWhole_87 {Pw : Int32 → ZS → Prop}   {x0 : Nat} {t0 : Int32} {t1 : Nat} {S : ZS} : Tw Pw (d_X8_copyWhole_87 x0 t0 t1 S) (zt S) (zu S) (fun C T => g_X8_copyWhole_87 Pw x0 t0 t1 S C T) := by
  unfold d_X8_copyWhole_87 g_X8_copyWhole_87
  refine tw_chk (fun _ => ?_)
  refine tw_chk (fun _ => ?_)
  refine tw_bnds (⟨rfl, rfl⟩ : zt S = zt S ∧ zu S = zu S) (fun S1 cS1 => ?_)
  refine tw_chk (fun _ => ?_)
  refine tw_if (fun _ => ?_) (fun _ => ?_)
  ·
    exact tw_at cS1 (tt_X8_copyWhole_113)
  ·
    refine tw_chk (fun _ => ?_)
    refine tw_calv (fun b2 => ?_)
    refine tw_chk (fun _ => ?_)
    refine tw_calv (fun b3 => ?_)
    refine tw_chk (fun _ => ?_)
    refine tw_calf cS1 (fun o4 co4 => ?_)
    refine tw_bndv (fun v5 => ?_)
    refine tw_chk (fun _ => ?_)
    refine tw_calf co4 (fun o6 co6 => ?_)
    exact tw_at co6 (tt_X8_copyWhole_113)
noncomputable def d_X8_copyWhole_81 (x0 : Nat) (x4 : Int32) (t0 : Nat) (S : ZS) : Option (Int32 × ZS) :=
  d_X8_copyWhole_87 x0 x4 t0 S
theorem tt_X8_copyWhole_81 {Pw : Int32 → ZS → Prop}   {x0 : Nat} {x4 : Int32} {t0 : Nat} {S : ZS} : Tw Pw (d_X8_copyWhole_81 x0 x4 t0 S) (zt S) (zu S) (fun C T => g_X8_copyWhole_81 Pw x0 x4 t0 S C T) := by
  unfold d_X8_copyWhole_81 g_X8_copyWhole_81
  exact tw_at (⟨rfl, rfl⟩ : zt S = zt S ∧ zu S = zu S) (tt_X8_copyWhole_87)
noncomputable def d_X8_copyWhole_48 (x0 : Nat) (S : ZS) : Option (Int32 × ZS) :=
  m_chk (zK S x0 = 8) (
  m_cal (zP S 1 x0) (fun b1 =>
  m_chk (zK S x0 = 8) (
  m_cal (zP S 1 x0) (fun b2 =>
  m_chk (zK S b2 = 6) (
  m_cal (f_X6_size b2 S) (fun o3 => m_chk (zt o3.2 = zt S ∧ zu o3.2 = zu S) (
  m_bnd (o3.1 - (1 : Int32)) (fun v4 =>
  m_chk (zK o3.2 b1 = 6) (
  m_cal (f_X6_at b1 v4 o3.2) (fun o5 => m_chk (zt o5.2 = zt o3.2 ∧ zu o5.2 = zu o3.2) (
  m_if (o5.1 = (43 : Int32)) (
  d_X8_copyWhole_81 x0 o5.1 x0 o5.2
  ) (
  m_if (o5.1 = (35 : Int32)) (
  d_X8_copyWhole_81 x0 o5.1 x0 o5.2
  ) (
  d_X8_copyWhole_87 x0 (0 : Int32) x0 o5.2
  )
  ))))))))))))
theorem tt_X8_copyWhole_48 {Pw : Int32 → ZS → Prop}   {x0 : Nat} {S : ZS} : Tw Pw (d_X8_copyWhole_48 x0 S) (zt S) (zu S) (fun C T => g_X8_copyWhole_48 Pw x0 S C T) := by
  unfold d_X8_copyWhole_48 g_X8_copyWhole_48
  refine tw_chk (fun _ => ?_)
  refine tw_calv (fun b1 => ?_)
  refine tw_chk (fun _ => ?_)
  refine tw_calv (fun b2 => ?_)
  refine tw_chk (fun _ => ?_)
  refine tw_calf (⟨rfl, rfl⟩ : zt S = zt S ∧ zu S = zu S) (fun o3 co3 => ?_)
  refine tw_bndv (fun v4 => ?_)
  refine tw_chk (fun _ => ?_)
  refine tw_calf co3 (fun o5 co5 => ?_)
  refine tw_if (fun _ => ?_) (fun _ => ?_)
  ·
    exact tw_at co5 (tt_X8_copyWhole_81)
  ·
    refine tw_if (fun _ => ?_) (fun _ => ?_)
    ·
      exact tw_at co5 (tt_X8_copyWhole_81)
    ·
      exact tw_at co5 (tt_X8_copyWhole_87)
noncomputable def d_X8_copyWhole_11s (self11 : Nat → Nat → Int32 → Int32 → ZS → Option (Int32 × ZS)) (x0 : Nat) (x1 : Nat) (x3 : Int32) (x4 : Int32) (S : ZS) : Option (Int32 × ZS) :=
  m_if (x3 ≤ x4) (
  d_X8_copyWhole_48 x0 S
  ) (
  m_chk (zK S x0 = 8) (
  m_cal (zP S 1 x0) (fun b1 =>
  m_chk (zK S b1 = 6) (
  m_cal (f_X6_size b1 S) (fun o2 => m_chk (zt o2.2 = zt S ∧ zu o2.2 = zu S) (
  m_if ((7 : Int32) < o2.1) (
  d_X8_copyWhole_48 x0 o2.2
  ) (
  m_chk (zK o2.2 x0 = 8) (
  m_cal (zP o2.2 1 x0) (fun b3 =>
  m_chk (zK o2.2 x1 = 6) (
  m_cal (f_X6_at x1 x4 o2.2) (fun o4 => m_chk (zt o4.2 = zt o2.2 ∧ zu o4.2 = zu o2.2) (
  m_chk (zK o4.2 b3 = 6) (
  m_cal2 (d_X6_put b3 o4.1 o4.2) (fun r6 S7 =>
  m_bnd (x4 + (1 : Int32)) (fun v10 =>
  self11 x0 x1 x3 v10 S7))))))))
  ))))))
  )
theorem tt_X8_copyWhole_11s {Pw : Int32 → ZS → Prop} {self11 : Nat → Nat → Int32 → Int32 → ZS → Option (Int32 × ZS)} {self11g : Nat → Nat → Int32 → Int32 → ZS → Nat → Nat → Prop} (hself11 : ∀ (y0 : Nat) (y1 : Nat) (y2 : Int32) (y3 : Int32) (S : ZS), Tw Pw (self11 y0 y1 y2 y3 S) (zt S) (zu S) (fun C T => self11g y0 y1 y2 y3 S C T)) {x0 : Nat} {x1 : Nat} {x3 : Int32} {x4 : Int32} {S : ZS} : Tw Pw (d_X8_copyWhole_11s self11 x0 x1 x3 x4 S) (zt S) (zu S) (fun C T => g_X8_copyWhole_11s Pw self11g x0 x1 x3 x4 S C T) := by
  unfold d_X8_copyWhole_11s g_X8_copyWhole_11s
  refine tw_if (fun _ => ?_) (fun _ => ?_)
  ·
    exact tw_at (⟨rfl, rfl⟩ : zt S = zt S ∧ zu S = zu S) (tt_X8_copyWhole_48)
  ·
    refine tw_chk (fun _ => ?_)
    refine tw_calv (fun b1 => ?_)
    refine tw_chk (fun _ => ?_)
    refine tw_calf (⟨rfl, rfl⟩ : zt S = zt S ∧ zu S = zu S) (fun o2 co2 => ?_)
    refine tw_if (fun _ => ?_) (fun _ => ?_)
    ·
      exact tw_at co2 (tt_X8_copyWhole_48)
    ·
      refine tw_chk (fun _ => ?_)
      refine tw_calv (fun b3 => ?_)
      refine tw_chk (fun _ => ?_)
      refine tw_calf co2 (fun o4 co4 => ?_)
      refine tw_chk (fun _ => ?_)
      refine tw_gal (fun Pw9 => tw_at co4 tt_X6_put) (fun r6 S7 => ?_)
      refine tw_bndv (fun v10 => ?_)
      exact tw_at (⟨rfl, rfl⟩ : zt S7 = zt S7 ∧ zu S7 = zu S7) (hself11 _ _ _ _ _)
noncomputable def d_X8_copyWhole_11  : Nat → Nat → Nat → Int32 → Int32 → ZS → Option (Int32 × ZS)
  | 0 => fun _ _ _ _ _ => none
  | n + 1 => d_X8_copyWhole_11s  (d_X8_copyWhole_11  n)
theorem tt_X8_copyWhole_11 {Pw : Int32 → ZS → Prop}   {n : Nat} : ∀ {z0 : Nat} {z1 : Nat} {z2 : Int32} {z3 : Int32} {S : ZS}, Tw Pw (d_X8_copyWhole_11  n z0 z1 z2 z3 S) (zt S) (zu S) (fun C T => g_X8_copyWhole_11 Pw  n z0 z1 z2 z3 S C T) := by
  induction n with
  | zero => intro z0 z1 z2 z3 S; exact tw_none
  | succ n ih => intro z0 z1 z2 z3 S; exact tt_X8_copyWhole_11s  (fun _ _ _ _ _ => ih)
noncomputable def d_X8_copyWhole_0 (x0 : Nat) (x1 : Nat) (x2 : Int32) (x3 : Int32) (S : ZS) : Option (Int32 × ZS) :=
  m_chk (zK S x0 = 8) (
  m_cal (zP S 1 x0) (fun b1 =>
  m_chk (zK S b1 = 6) (
  m_cal (f_X6_keep b1 (0 : Int32) S) (fun o2 => m_chk (zt o2.2 = zt S ∧ zu o2.2 = zu S) (
  d_X8_copyWhole_11 mFuel x0 x1 x3 x2 o2.2)))))
theorem tt_X8_copyWhole_0 {Pw : Int32 → ZS → Prop}   {x0 : Nat} {x1 : Nat} {x2 : Int32} {x3 : Int32} {S : ZS} : Tw Pw (d_X8_copyWhole_0 x0 x1 x2 x3 S) (zt S) (zu S) (fun C T => g_X8_copyWhole_0 Pw x0 x1 x2 x3 S C T) := by
  unfold d_X8_copyWhole_0 g_X8_copyWhole_0
  refine tw_chk (fun _ => ?_)
  refine tw_calv (fun b1 => ?_)
  refine tw_chk (fun _ => ?_)
  refine tw_calf (⟨rfl, rfl⟩ : zt S = zt S ∧ zu S = zu S) (fun o2 co2 => ?_)
  exact tw_at co2 (tt_X8_copyWhole_11)
noncomputable def d_X8_copyWhole (x0 : Nat) (x1 : Nat) (x2 : Int32) (x3 : Int32) (S : ZS) : Option (Int32 × ZS) := d_X8_copyWhole_0 x0 x1 x2 x3 S
theorem tt_X8_copyWhole {Pw : Int32 → ZS → Prop} {x0 : Nat} {x1 : Nat} {x2 : Int32} {x3 : Int32} {S : ZS} : Tw Pw (d_X8_copyWhole x0 x1 x2 x3 S) (zt S) (zu S) (fun C T => g_X8_copyWhole x0 x1 x2 x3 S C T Pw) := tt_X8_copyWhole_0
noncomputable def d_X8_copyBare_73 (S : ZS) : Option (Int32 × ZS) :=
  some (0, S)
theorem tt_X8_copyBare_73 {Pw : Int32 → ZS → Prop}   {S : ZS} : Tw Pw (d_X8_copyBare_73 S) (zt S) (zu S) (fun C T => g_X8_copyBare_73 Pw S C T) := by
  unfold d_X8_copyBare_73 g_X8_copyBare_73
  exact tw_ret (⟨rfl, rfl⟩ : zt S = zt S ∧ zu S = zu S)
noncomputable def d_X8_copyBare_67 (self11 : Nat → Nat → Int32 → Int32 → ZS → Option (Int32 × ZS)) (x0 : Nat) (x1 : Nat) (x3 : Int32) (x4 : Int32) (S : ZS) : Option (Int32 × ZS) :=
  m_bnd (x4 + (1 : Int32)) (fun v1 =>
  self11 x0 x1 x3 v1 S)
theorem tt_X8_copyBare_67 {Pw : Int32 → ZS → Prop} {self11 : Nat → Nat → Int32 → Int32 → ZS → Option (Int32 × ZS)} {self11g : Nat → Nat → Int32 → Int32 → ZS → Nat → Nat → Prop} (hself11 : ∀ (y0 : Nat) (y1 : Nat) (y2 : Int32) (y3 : Int32) (S : ZS), Tw Pw (self11 y0 y1 y2 y3 S) (zt S) (zu S) (fun C T => self11g y0 y1 y2 y3 S C T)) {x0 : Nat} {x1 : Nat} {x3 : Int32} {x4 : Int32} {S : ZS} : Tw Pw (d_X8_copyBare_67 self11 x0 x1 x3 x4 S) (zt S) (zu S) (fun C T => g_X8_copyBare_67 Pw self11g x0 x1 x3 x4 S C T) := by
  unfold d_X8_copyBare_67 g_X8_copyBare_67
  refine tw_bndv (fun v1 => ?_)
  exact tw_at (⟨rfl, rfl⟩ : zt S = zt S ∧ zu S = zu S) (hself11 _ _ _ _ _)
noncomputable def d_X8_copyBare_11s (self11 : Nat → Nat → Int32 → Int32 → ZS → Option (Int32 × ZS)) (x0 : Nat) (x1 : Nat) (x3 : Int32) (x4 : Int32) (S : ZS) : Option (Int32 × ZS) :=
  m_if (x3 ≤ x4) (
  d_X8_copyBare_73 S
  ) (
  m_chk (zK S x0 = 8) (
  m_cal (zP S 1 x0) (fun b1 =>
  m_chk (zK S b1 = 6) (
  m_cal (f_X6_size b1 S) (fun o2 => m_chk (zt o2.2 = zt S ∧ zu o2.2 = zu S) (
  m_if ((7 : Int32) < o2.1) (
  d_X8_copyBare_73 o2.2
  ) (
  m_chk (zK o2.2 x1 = 6) (
  m_cal (f_X6_at x1 x4 o2.2) (fun o3 => m_chk (zt o3.2 = zt o2.2 ∧ zu o3.2 = zu o2.2) (
  m_if (o3.1 = (120 : Int32)) (
  d_X8_copyBare_67 self11 x0 x1 x3 x4 o3.2
  ) (
  m_if (o3.1 = (43 : Int32)) (
  d_X8_copyBare_67 self11 x0 x1 x3 x4 o3.2
  ) (
  m_if (o3.1 = (35 : Int32)) (
  d_X8_copyBare_67 self11 x0 x1 x3 x4 o3.2
  ) (
  m_chk (zK o3.2 x0 = 8) (
  m_cal (zP o3.2 1 x0) (fun b4 =>
  m_chk (zK o3.2 b4 = 6) (
  m_cal2 (d_X6_put b4 o3.1 o3.2) (fun r6 S7 =>
  d_X8_copyBare_67 self11 x0 x1 x3 x4 S7))))
  )
  )
  ))))
  ))))))
  )
theorem tt_X8_copyBare_11s {Pw : Int32 → ZS → Prop} {self11 : Nat → Nat → Int32 → Int32 → ZS → Option (Int32 × ZS)} {self11g : Nat → Nat → Int32 → Int32 → ZS → Nat → Nat → Prop} (hself11 : ∀ (y0 : Nat) (y1 : Nat) (y2 : Int32) (y3 : Int32) (S : ZS), Tw Pw (self11 y0 y1 y2 y3 S) (zt S) (zu S) (fun C T => self11g y0 y1 y2 y3 S C T)) {x0 : Nat} {x1 : Nat} {x3 : Int32} {x4 : Int32} {S : ZS} : Tw Pw (d_X8_copyBare_11s self11 x0 x1 x3 x4 S) (zt S) (zu S) (fun C T => g_X8_copyBare_11s Pw self11g x0 x1 x3 x4 S C T) := by
  unfold d_X8_copyBare_11s g_X8_copyBare_11s
  refine tw_if (fun _ => ?_) (fun _ => ?_)
  ·
    exact tw_at (⟨rfl, rfl⟩ : zt S = zt S ∧ zu S = zu S) (tt_X8_copyBare_73)
  ·
    refine tw_chk (fun _ => ?_)
    refine tw_calv (fun b1 => ?_)
    refine tw_chk (fun _ => ?_)
    refine tw_calf (⟨rfl, rfl⟩ : zt S = zt S ∧ zu S = zu S) (fun o2 co2 => ?_)
    refine tw_if (fun _ => ?_) (fun _ => ?_)
    ·
      exact tw_at co2 (tt_X8_copyBare_73)
    ·
      refine tw_chk (fun _ => ?_)
      refine tw_calf co2 (fun o3 co3 => ?_)
      refine tw_if (fun _ => ?_) (fun _ => ?_)
      ·
        exact tw_at co3 (tt_X8_copyBare_67 hself11)
      ·
        refine tw_if (fun _ => ?_) (fun _ => ?_)
        ·
          exact tw_at co3 (tt_X8_copyBare_67 hself11)
        ·
          refine tw_if (fun _ => ?_) (fun _ => ?_)
          ·
            exact tw_at co3 (tt_X8_copyBare_67 hself11)
          ·
            refine tw_chk (fun _ => ?_)
            refine tw_calv (fun b4 => ?_)
            refine tw_chk (fun _ => ?_)
            refine tw_gal (fun Pw9 => tw_at co3 tt_X6_put) (fun r6 S7 => ?_)
            exact tw_at (⟨rfl, rfl⟩ : zt S7 = zt S7 ∧ zu S7 = zu S7) (tt_X8_copyBare_67 hself11)
noncomputable def d_X8_copyBare_11  : Nat → Nat → Nat → Int32 → Int32 → ZS → Option (Int32 × ZS)
  | 0 => fun _ _ _ _ _ => none
  | n + 1 => d_X8_copyBare_11s  (d_X8_copyBare_11  n)
theorem tt_X8_copyBare_11 {Pw : Int32 → ZS → Prop}   {n : Nat} : ∀ {z0 : Nat} {z1 : Nat} {z2 : Int32} {z3 : Int32} {S : ZS}, Tw Pw (d_X8_copyBare_11  n z0 z1 z2 z3 S) (zt S) (zu S) (fun C T => g_X8_copyBare_11 Pw  n z0 z1 z2 z3 S C T) := by
  induction n with
  | zero => intro z0 z1 z2 z3 S; exact tw_none
  | succ n ih => intro z0 z1 z2 z3 S; exact tt_X8_copyBare_11s  (fun _ _ _ _ _ => ih)
noncomputable def d_X8_copyBare_0 (x0 : Nat) (x1 : Nat) (x2 : Int32) (x3 : Int32) (S : ZS) : Option (Int32 × ZS) :=
  m_chk (zK S x0 = 8) (
  m_cal (zP S 1 x0) (fun b1 =>
  m_chk (zK S b1 = 6) (
  m_cal (f_X6_keep b1 (0 : Int32) S) (fun o2 => m_chk (zt o2.2 = zt S ∧ zu o2.2 = zu S) (
  d_X8_copyBare_11 mFuel x0 x1 x3 x2 o2.2)))))
theorem tt_X8_copyBare_0 {Pw : Int32 → ZS → Prop}   {x0 : Nat} {x1 : Nat} {x2 : Int32} {x3 : Int32} {S : ZS} : Tw Pw (d_X8_copyBare_0 x0 x1 x2 x3 S) (zt S) (zu S) (fun C T => g_X8_copyBare_0 Pw x0 x1 x2 x3 S C T) := by
  unfold d_X8_copyBare_0 g_X8_copyBare_0
  refine tw_chk (fun _ => ?_)
  refine tw_calv (fun b1 => ?_)
  refine tw_chk (fun _ => ?_)
  refine tw_calf (⟨rfl, rfl⟩ : zt S = zt S ∧ zu S = zu S) (fun o2 co2 => ?_)
  exact tw_at co2 (tt_X8_copyBare_11)
noncomputable def d_X8_copyBare (x0 : Nat) (x1 : Nat) (x2 : Int32) (x3 : Int32) (S : ZS) : Option (Int32 × ZS) := d_X8_copyBare_0 x0 x1 x2 x3 S
theorem tt_X8_copyBare {Pw : Int32 → ZS → Prop} {x0 : Nat} {x1 : Nat} {x2 : Int32} {x3 : Int32} {S : ZS} : Tw Pw (d_X8_copyBare x0 x1 x2 x3 S) (zt S) (zu S) (fun C T => g_X8_copyBare x0 x1 x2 x3 S C T Pw) := tt_X8_copyBare_0
noncomputable def d_X8_matched_144 (t0 : Int32) (S : ZS) : Option (Int32 × ZS) :=
  some (t0, S)
theorem tt_X8_matched_144 {Pw : Int32 → ZS → Prop}   {t0 : Int32} {S : ZS} : Tw Pw (d_X8_matched_144 t0 S) (zt S) (zu S) (fun C T => g_X8_matched_144 Pw t0 S C T) := by
  unfold d_X8_matched_144 g_X8_matched_144
  exact tw_ret (⟨rfl, rfl⟩ : zt S = zt S ∧ zu S = zu S)
noncomputable def d_X8_matched_103 (x0 : Nat) (x1 : Nat) (x2 : Nat) (x3 : Int32) (x4 : Int32) (S : ZS) : Option (Int32 × ZS) :=
  m_chk (zK S x0 = 8) (
  m_cal2 (d_X8_copyBare x0 x2 x3 x4 S) (fun r2 S3 =>
  m_chk (zK S3 x0 = 8) (
  m_cal (f_X8_parse x0 S3) (fun o6 => m_chk (zt o6.2 = zt S3 ∧ zu o6.2 = zu S3) (
  m_if (o6.1 = 0) (
  some ((-1 : Int32), o6.2)
  ) (
  m_chk (zK o6.2 x0 = 8) (
  m_bnd (zsI o6.2 8 x0 (-1 : Int32)) (fun S7 =>
  m_chk (zK S7 x0 = 8) (
  m_cal (f_X8_gather x0 x1 S7) (fun o8 => m_chk (zt o8.2 = zt S7 ∧ zu o8.2 = zu S7) (
  m_chk (zK o8.2 x0 = 8) (
  m_if ((zI o8.2 11 x0) = (1 : Int32)) (
  d_X8_matched_144 (-2 : Int32) o8.2
  ) (
  d_X8_matched_144 (-1 : Int32) o8.2
  )))))))
  ))))))
theorem tt_X8_matched_103 {Pw : Int32 → ZS → Prop}   {x0 : Nat} {x1 : Nat} {x2 : Nat} {x3 : Int32} {x4 : Int32} {S : ZS} : Tw Pw (d_X8_matched_103 x0 x1 x2 x3 x4 S) (zt S) (zu S) (fun C T => g_X8_matched_103 Pw x0 x1 x2 x3 x4 S C T) := by
  unfold d_X8_matched_103 g_X8_matched_103
  refine tw_chk (fun _ => ?_)
  refine tw_gal (fun Pw9 => tw_at (⟨rfl, rfl⟩ : zt S = zt S ∧ zu S = zu S) tt_X8_copyBare) (fun r2 S3 => ?_)
  refine tw_chk (fun _ => ?_)
  refine tw_calf (⟨rfl, rfl⟩ : zt S3 = zt S3 ∧ zu S3 = zu S3) (fun o6 co6 => ?_)
  refine tw_if (fun _ => ?_) (fun _ => ?_)
  ·
    exact tw_ret co6
  ·
    refine tw_chk (fun _ => ?_)
    refine tw_bnds co6 (fun S7 cS7 => ?_)
    refine tw_chk (fun _ => ?_)
    refine tw_calf cS7 (fun o8 co8 => ?_)
    refine tw_chk (fun _ => ?_)
    refine tw_if (fun _ => ?_) (fun _ => ?_)
    ·
      exact tw_at co8 (tt_X8_matched_144)
    ·
      exact tw_at co8 (tt_X8_matched_144)
noncomputable def d_X8_matched_102 (t0 : Int32) (S : ZS) : Option (Int32 × ZS) :=
  some (t0, S)
theorem tt_X8_matched_102 {Pw : Int32 → ZS → Prop}   {t0 : Int32} {S : ZS} : Tw Pw (d_X8_matched_102 t0 S) (zt S) (zu S) (fun C T => g_X8_matched_102 Pw t0 S C T) := by
  unfold d_X8_matched_102 g_X8_matched_102
  exact tw_ret (⟨rfl, rfl⟩ : zt S = zt S ∧ zu S = zu S)
noncomputable def d_X8_matched_79 (self29 : Nat → Nat → Nat → Int32 → Int32 → Int32 → Int32 → Int32 → ZS → Option (Int32 × ZS)) (x0 : Nat) (x1 : Nat) (x2 : Nat) (x3 : Int32) (x4 : Int32) (x5 : Int32) (x6 : Int32) (x7 : Int32) (S : ZS) : Option (Int32 × ZS) :=
  m_bnd (x7 + (1 : Int32)) (fun v1 =>
  self29 x0 x1 x2 x3 x4 x5 x6 v1 S)
theorem tt_X8_matched_79 {Pw : Int32 → ZS → Prop} {self29 : Nat → Nat → Nat → Int32 → Int32 → Int32 → Int32 → Int32 → ZS → Option (Int32 × ZS)} {self29g : Nat → Nat → Nat → Int32 → Int32 → Int32 → Int32 → Int32 → ZS → Nat → Nat → Prop} (hself29 : ∀ (y0 : Nat) (y1 : Nat) (y2 : Nat) (y3 : Int32) (y4 : Int32) (y5 : Int32) (y6 : Int32) (y7 : Int32) (S : ZS), Tw Pw (self29 y0 y1 y2 y3 y4 y5 y6 y7 S) (zt S) (zu S) (fun C T => self29g y0 y1 y2 y3 y4 y5 y6 y7 S C T)) {x0 : Nat} {x1 : Nat} {x2 : Nat} {x3 : Int32} {x4 : Int32} {x5 : Int32} {x6 : Int32} {x7 : Int32} {S : ZS} : Tw Pw (d_X8_matched_79 self29 x0 x1 x2 x3 x4 x5 x6 x7 S) (zt S) (zu S) (fun C T => g_X8_matched_79 Pw self29g x0 x1 x2 x3 x4 x5 x6 x7 S C T) := by
  unfold d_X8_matched_79 g_X8_matched_79
  refine tw_bndv (fun v1 => ?_)
  exact tw_at (⟨rfl, rfl⟩ : zt S = zt S ∧ zu S = zu S) (hself29 _ _ _ _ _ _ _ _ _)
noncomputable def d_X8_matched_67 (self29 : Nat → Nat → Nat → Int32 → Int32 → Int32 → Int32 → Int32 → ZS → Option (Int32 × ZS)) (x0 : Nat) (x1 : Nat) (x2 : Nat) (x3 : Int32) (x4 : Int32) (x6 : Int32) (x7 : Int32) (S : ZS) : Option (Int32 × ZS) :=
  m_chk (zK S x0 = 8) (
  m_cal (zP S 10 x0) (fun b1 =>
  m_chk (zK S b1 = 14) (
  m_chk (¬ (x7 < 0 ∨ zN S b1 ≤ (x7).toNatClampNeg)) (
  m_bnd (zA S b1 (x7).toNatClampNeg) (fun v2 =>
  m_bnd (x6 + (1 : Int32)) (fun v3 =>
  d_X8_matched_79 self29 x0 x1 x2 x3 x4 v2 v3 x7 S))))))
theorem tt_X8_matched_67 {Pw : Int32 → ZS → Prop} {self29 : Nat → Nat → Nat → Int32 → Int32 → Int32 → Int32 → Int32 → ZS → Option (Int32 × ZS)} {self29g : Nat → Nat → Nat → Int32 → Int32 → Int32 → Int32 → Int32 → ZS → Nat → Nat → Prop} (hself29 : ∀ (y0 : Nat) (y1 : Nat) (y2 : Nat) (y3 : Int32) (y4 : Int32) (y5 : Int32) (y6 : Int32) (y7 : Int32) (S : ZS), Tw Pw (self29 y0 y1 y2 y3 y4 y5 y6 y7 S) (zt S) (zu S) (fun C T => self29g y0 y1 y2 y3 y4 y5 y6 y7 S C T)) {x0 : Nat} {x1 : Nat} {x2 : Nat} {x3 : Int32} {x4 : Int32} {x6 : Int32} {x7 : Int32} {S : ZS} : Tw Pw (d_X8_matched_67 self29 x0 x1 x2 x3 x4 x6 x7 S) (zt S) (zu S) (fun C T => g_X8_matched_67 Pw self29g x0 x1 x2 x3 x4 x6 x7 S C T) := by
  unfold d_X8_matched_67 g_X8_matched_67
  refine tw_chk (fun _ => ?_)
  refine tw_calv (fun b1 => ?_)
  refine tw_chk (fun _ => ?_)
  refine tw_chk (fun _ => ?_)
  refine tw_bndv (fun v2 => ?_)
  refine tw_bndv (fun v3 => ?_)
  exact tw_at (⟨rfl, rfl⟩ : zt S = zt S ∧ zu S = zu S) (tt_X8_matched_79 hself29)
noncomputable def d_X8_matched_29s (self29 : Nat → Nat → Nat → Int32 → Int32 → Int32 → Int32 → Int32 → ZS → Option (Int32 × ZS)) (x0 : Nat) (x1 : Nat) (x2 : Nat) (x3 : Int32) (x4 : Int32) (x5 : Int32) (x6 : Int32) (x7 : Int32) (S : ZS) : Option (Int32 × ZS) :=
  m_chk (zK S x0 = 8) (
  m_if ((zI S 11 x0) ≤ x7) (
  m_if (x6 ≤ 0) (
  d_X8_matched_103 x0 x1 x2 x3 x4 S
  ) (
  m_if (x6 = (1 : Int32)) (
  d_X8_matched_102 x5 S
  ) (
  d_X8_matched_102 (-1 : Int32) S
  )
  )
  ) (
  m_chk (zK S x0 = 8) (
  m_if ((zI S 9 x0) = 0) (
  d_X8_matched_67 self29 x0 x1 x2 x3 x4 x6 x7 S
  ) (
  m_chk (zK S x0 = 8) (
  m_chk (zK S x0 = 8) (
  m_cal (zP S 0 x0) (fun b1 =>
  m_chk (zK S x0 = 8) (
  m_cal (zP S 10 x0) (fun b2 =>
  m_chk (zK S b2 = 14) (
  m_chk (¬ (x7 < 0 ∨ zN S b2 ≤ (x7).toNatClampNeg)) (
  m_bnd (zA S b2 (x7).toNatClampNeg) (fun v3 =>
  m_chk (zK S b1 = 7) (
  m_cal (f_X7_checkSign b1 x1 v3 S) (fun o4 => m_chk (zt o4.2 = zt S ∧ zu o4.2 = zu S) (
  m_if ((zI S 9 x0) = o4.1) (
  d_X8_matched_67 self29 x0 x1 x2 x3 x4 x6 x7 o4.2
  ) (
  d_X8_matched_79 self29 x0 x1 x2 x3 x4 x5 x6 x7 o4.2
  ))))))))))))
  ))
  ))
theorem tt_X8_matched_29s {Pw : Int32 → ZS → Prop} {self29 : Nat → Nat → Nat → Int32 → Int32 → Int32 → Int32 → Int32 → ZS → Option (Int32 × ZS)} {self29g : Nat → Nat → Nat → Int32 → Int32 → Int32 → Int32 → Int32 → ZS → Nat → Nat → Prop} (hself29 : ∀ (y0 : Nat) (y1 : Nat) (y2 : Nat) (y3 : Int32) (y4 : Int32) (y5 : Int32) (y6 : Int32) (y7 : Int32) (S : ZS), Tw Pw (self29 y0 y1 y2 y3 y4 y5 y6 y7 S) (zt S) (zu S) (fun C T => self29g y0 y1 y2 y3 y4 y5 y6 y7 S C T)) {x0 : Nat} {x1 : Nat} {x2 : Nat} {x3 : Int32} {x4 : Int32} {x5 : Int32} {x6 : Int32} {x7 : Int32} {S : ZS} : Tw Pw (d_X8_matched_29s self29 x0 x1 x2 x3 x4 x5 x6 x7 S) (zt S) (zu S) (fun C T => g_X8_matched_29s Pw self29g x0 x1 x2 x3 x4 x5 x6 x7 S C T) := by
  unfold d_X8_matched_29s g_X8_matched_29s
  refine tw_chk (fun _ => ?_)
  refine tw_if (fun _ => ?_) (fun _ => ?_)
  ·
    refine tw_if (fun _ => ?_) (fun _ => ?_)
    ·
      exact tw_at (⟨rfl, rfl⟩ : zt S = zt S ∧ zu S = zu S) (tt_X8_matched_103)
    ·
      refine tw_if (fun _ => ?_) (fun _ => ?_)
      ·
        exact tw_at (⟨rfl, rfl⟩ : zt S = zt S ∧ zu S = zu S) (tt_X8_matched_102)
      ·
        exact tw_at (⟨rfl, rfl⟩ : zt S = zt S ∧ zu S = zu S) (tt_X8_matched_102)
  ·
    refine tw_chk (fun _ => ?_)
    refine tw_if (fun _ => ?_) (fun _ => ?_)
    ·
      exact tw_at (⟨rfl, rfl⟩ : zt S = zt S ∧ zu S = zu S) (tt_X8_matched_67 hself29)
    ·
      refine tw_chk (fun _ => ?_)
      refine tw_chk (fun _ => ?_)
      refine tw_calv (fun b1 => ?_)
      refine tw_chk (fun _ => ?_)
      refine tw_calv (fun b2 => ?_)
      refine tw_chk (fun _ => ?_)
      refine tw_chk (fun _ => ?_)
      refine tw_bndv (fun v3 => ?_)
      refine tw_chk (fun _ => ?_)
      refine tw_calf (⟨rfl, rfl⟩ : zt S = zt S ∧ zu S = zu S) (fun o4 co4 => ?_)
      refine tw_if (fun _ => ?_) (fun _ => ?_)
      ·
        exact tw_at co4 (tt_X8_matched_67 hself29)
      ·
        exact tw_at co4 (tt_X8_matched_79 hself29)
end
section
noncomputable def d_X8_matched_29  : Nat → Nat → Nat → Nat → Int32 → Int32 → Int32 → Int32 → Int32 → ZS → Option (Int32 × ZS)
  | 0 => fun _ _ _ _ _ _ _ _ _ => none
  | n + 1 => d_X8_matched_29s  (d_X8_matched_29  n)
theorem tt_X8_matched_29 {Pw : Int32 → ZS → Prop}   {n : Nat} : ∀ {z0 : Nat} {z1 : Nat} {z2 : Nat} {z3 : Int32} {z4 : Int32} {z5 : Int32} {z6 : Int32} {z7 : Int32} {S : ZS}, Tw Pw (d_X8_matched_29  n z0 z1 z2 z3 z4 z5 z6 z7 S) (zt S) (zu S) (fun C T => g_X8_matched_29 Pw  n z0 z1 z2 z3 z4 z5 z6 z7 S C T) := by
  induction n with
  | zero => intro z0 z1 z2 z3 z4 z5 z6 z7 S; exact tw_none
  | succ n ih => intro z0 z1 z2 z3 z4 z5 z6 z7 S; exact tt_X8_matched_29s  (fun _ _ _ _ _ _ _ _ _ => ih)
noncomputable def d_X8_matched_0 (x0 : Nat) (x1 : Nat) (x2 : Nat) (x3 : Int32) (x4 : Int32) (S : ZS) : Option (Int32 × ZS) :=
  m_chk (zK S x0 = 8) (
  m_cal2 (d_X8_copyWhole x0 x2 x3 x4 S) (fun r2 S3 =>
  m_chk (zK S3 x0 = 8) (
  m_cal (f_X8_parse x0 S3) (fun o6 => m_chk (zt o6.2 = zt S3 ∧ zu o6.2 = zu S3) (
  m_if (o6.1 = 0) (
  d_X8_matched_103 x0 x1 x2 x3 x4 o6.2
  ) (
  m_chk (zK o6.2 x0 = 8) (
  m_cal (f_X8_gather x0 x1 o6.2) (fun o7 => m_chk (zt o7.2 = zt o6.2 ∧ zu o7.2 = zu o6.2) (
  d_X8_matched_29 mFuel x0 x1 x2 x3 x4 (-1 : Int32) (0 : Int32) (0 : Int32) o7.2)))
  ))))))
theorem tt_X8_matched_0 {Pw : Int32 → ZS → Prop}   {x0 : Nat} {x1 : Nat} {x2 : Nat} {x3 : Int32} {x4 : Int32} {S : ZS} : Tw Pw (d_X8_matched_0 x0 x1 x2 x3 x4 S) (zt S) (zu S) (fun C T => g_X8_matched_0 Pw x0 x1 x2 x3 x4 S C T) := by
  unfold d_X8_matched_0 g_X8_matched_0
  refine tw_chk (fun _ => ?_)
  refine tw_gal (fun Pw9 => tw_at (⟨rfl, rfl⟩ : zt S = zt S ∧ zu S = zu S) tt_X8_copyWhole) (fun r2 S3 => ?_)
  refine tw_chk (fun _ => ?_)
  refine tw_calf (⟨rfl, rfl⟩ : zt S3 = zt S3 ∧ zu S3 = zu S3) (fun o6 co6 => ?_)
  refine tw_if (fun _ => ?_) (fun _ => ?_)
  ·
    exact tw_at co6 (tt_X8_matched_103)
  ·
    refine tw_chk (fun _ => ?_)
    refine tw_calf co6 (fun o7 co7 => ?_)
    exact tw_at co7 (tt_X8_matched_29)
noncomputable def d_X8_matched (x0 : Nat) (x1 : Nat) (x2 : Nat) (x3 : Int32) (x4 : Int32) (S : ZS) : Option (Int32 × ZS) := d_X8_matched_0 x0 x1 x2 x3 x4 S
theorem tt_X8_matched {Pw : Int32 → ZS → Prop} {x0 : Nat} {x1 : Nat} {x2 : Nat} {x3 : Int32} {x4 : Int32} {S : ZS} : Tw Pw (d_X8_matched x0 x1 x2 x3 x4 S) (zt S) (zu S) (fun C T => g_X8_matched x0 x1 x2 x3 x4 S C T Pw) := tt_X8_matched_0
noncomputable def d_X2_readMove_234 (t0 : Int32) (S : ZS) : Option (Int32 × ZS) :=
  m_chk (vp_nar .boolean t0 = t0) (
  some (t0, S))
theorem tt_X2_readMove_234 {Pw : Int32 → ZS → Prop}   {t0 : Int32} {S : ZS} : Tw Pw (d_X2_readMove_234 t0 S) (zt S) (zu S) (fun C T => g_X2_readMove_234 Pw t0 S C T) := by
  unfold d_X2_readMove_234 g_X2_readMove_234
  refine tw_chk (fun _ => ?_)
  exact tw_ret (⟨rfl, rfl⟩ : zt S = zt S ∧ zu S = zu S)
noncomputable def d_X2_readMove_233 (S : ZS) : Option (Int32 × ZS) :=
  d_X2_readMove_234 (0 : Int32) S
theorem tt_X2_readMove_233 {Pw : Int32 → ZS → Prop}   {S : ZS} : Tw Pw (d_X2_readMove_233 S) (zt S) (zu S) (fun C T => g_X2_readMove_233 Pw S C T) := by
  unfold d_X2_readMove_233 g_X2_readMove_233
  exact tw_at (⟨rfl, rfl⟩ : zt S = zt S ∧ zu S = zu S) (tt_X2_readMove_234)
noncomputable def d_X2_readMove_110 (x3 : Int32) (t0 : Int32) (t1 : Nat) (S : ZS) : Option (Int32 × ZS) :=
  m_chk (zK S t1 = 2) (
  m_cal (f_X2_refuse t1 t0 x3 S) (fun o1 => m_chk (zt o1.2 = zt S ∧ zu o1.2 = zu S) (
  m_chk (vp_nar .boolean o1.1 = o1.1) (
  some (o1.1, o1.2)))))
theorem tt_X2_readMove_110 {Pw : Int32 → ZS → Prop}   {x3 : Int32} {t0 : Int32} {t1 : Nat} {S : ZS} : Tw Pw (d_X2_readMove_110 x3 t0 t1 S) (zt S) (zu S) (fun C T => g_X2_readMove_110 Pw x3 t0 t1 S C T) := by
  unfold d_X2_readMove_110 g_X2_readMove_110
  refine tw_chk (fun _ => ?_)
  refine tw_calf (⟨rfl, rfl⟩ : zt S = zt S ∧ zu S = zu S) (fun o1 co1 => ?_)
  refine tw_chk (fun _ => ?_)
  exact tw_ret co1
noncomputable def d_X2_readMove_37 (x0 : Nat) (x1 : Int32) (x2 : Nat) (S : ZS) : Option (Int32 × ZS) :=
  m_chk (zK S x0 = 2) (
  m_cal (zP S 2 x0) (fun b1 =>
  m_chk (zK S x0 = 2) (
  m_chk (zK S b1 = 6) (
  m_cal (f_X6_at b1 (zI S 4 x0) S) (fun o2 => m_chk (zt o2.2 = zt S ∧ zu o2.2 = zu S) (
  m_cal (f_X11_isLetter o2.1 o2.2) (fun o3 => m_chk (zt o3.2 = zt o2.2 ∧ zu o3.2 = zu o2.2) (
  m_if (o3.1 = 0) (
  m_chk (zK o3.2 x0 = 2) (
  m_chk (zK o3.2 x0 = 2) (
  m_cal (f_X2_refuse x0 (1 : Int32) (zI o3.2 4 x0) o3.2) (fun o42 => m_chk (zt o42.2 = zt o3.2 ∧ zu o42.2 = zu o3.2) (
  m_chk (vp_nar .boolean o42.1 = o42.1) (
  some (o42.1, o42.2))))))
  ) (
  m_chk (zK o3.2 x0 = 2) (
  m_chk (zK o3.2 x0 = 2) (
  m_cal (f_X2_skipSigns x0 o3.2) (fun o4 => m_chk (zt o4.2 = zt o3.2 ∧ zu o4.2 = zu o3.2) (
  m_chk (zK o4.2 x0 = 2) (
  m_cal (zP o4.2 0 x0) (fun b5 =>
  m_chk (zK o4.2 x0 = 2) (
  m_cal (zP o4.2 2 x0) (fun b6 =>
  m_chk (zK o4.2 x0 = 2) (
  m_chk (zK o4.2 b5 = 8) (
  m_cal2 (d_X8_matched b5 x2 b6 (zI o3.2 4 x0) (zI o4.2 4 x0) o4.2) (fun r8 S9 =>
  m_if (0 ≤ r8) (
  m_chk (zK S9 x0 = 2) (
  m_cal (zP S9 3 x0) (fun b12 =>
  m_chk (zK S9 x0 = 2) (
  m_cal (zP S9 9 x0) (fun b13 =>
  m_chk (zK S9 b13 = 14) (
  m_chk (¬ (x1 < 0 ∨ zN S9 b13 ≤ (x1).toNatClampNeg)) (
  m_bnd (zA S9 b13 (x1).toNatClampNeg) (fun v14 =>
  m_chk (zK S9 b12 = 1) (
  m_cal (f_X1_childWith b12 v14 r8 S9) (fun o15 => m_chk (zt o15.2 = zt S9 ∧ zu o15.2 = zu S9) (
  m_if (o15.1 = (-1 : Int32)) (
  m_chk (zK o15.2 x0 = 2) (
  m_cal (zP o15.2 3 x0) (fun b16 =>
  m_chk (zK o15.2 x0 = 2) (
  m_cal (zP o15.2 9 x0) (fun b17 =>
  m_chk (zK o15.2 b17 = 14) (
  m_chk (¬ (x1 < 0 ∨ zN o15.2 b17 ≤ (x1).toNatClampNeg)) (
  m_bnd (zA o15.2 b17 (x1).toNatClampNeg) (fun v18 =>
  m_chk (zK o15.2 b16 = 1) (
  m_cal2 (d_X1_grow b16 v18 r8 o15.2) (fun r20 S21 =>
  m_if (r20 = (-1 : Int32)) (
  m_chk (zK S21 x0 = 2) (
  m_cal (f_X2_refuse x0 (8 : Int32) (zI o3.2 4 x0) S21) (fun o40 => m_chk (zt o40.2 = zt S21 ∧ zu o40.2 = zu S21) (
  m_chk (vp_nar .boolean o40.1 = o40.1) (
  some (o40.1, o40.2)))))
  ) (
  m_chk (zK S21 x0 = 2) (
  m_cal (zP S21 9 x0) (fun b24 =>
  m_chk (zK S21 b24 = 14) (
  m_chk (¬ (x1 < 0 ∨ zN S21 b24 ≤ (x1).toNatClampNeg)) (
  m_bnd (zsA S21 b24 (x1).toNatClampNeg r20) (fun S25 =>
  m_chk (zK S25 x0 = 2) (
  m_cal (zP S25 10 x0) (fun b26 =>
  m_chk (zK S25 b26 = 15) (
  m_chk (¬ (x1 < 0 ∨ zN S25 b26 ≤ (x1).toNatClampNeg)) (
  m_cal (zB S25 b26 (x1).toNatClampNeg) (fun b27 =>
  m_chk (zK S25 b27 = 0) (
  m_cal (f_X0_copyFrom b27 x2 S25) (fun o28 => m_chk (zt o28.2 = zt S25 ∧ zu o28.2 = zu S25) (
  m_chk (zK o28.2 x2 = 0) (
  m_cal (f_X0_play x2 r8 o28.2) (fun o29 => m_chk (zt o29.2 = zt o28.2 ∧ zu o29.2 = zu o28.2) (
  m_chk (zK o29.2 x0 = 2) (
  m_cal (zP o29.2 3 x0) (fun b30 =>
  m_chk (zK o29.2 b30 = 1) (
  m_cal (f_X1_at b30 r20 o29.2) (fun o31 => m_chk (zt o31.2 = zt o29.2 ∧ zu o31.2 = zu o29.2) (
  m_chk (zK o31.2 x0 = 2) (
  m_cal (f_X2_readMarks x0 o31.1 o31.2) (fun o32 => m_chk (zt o32.2 = zt o31.2 ∧ zu o32.2 = zu o31.2) (
  m_if (o32.1 = 0) (
  d_X2_readMove_233 o32.2
  ) (
  m_chk (zK o32.2 x0 = 2) (
  m_cal (zP o32.2 3 x0) (fun b33 =>
  m_chk (zK o32.2 b33 = 1) (
  m_cal (f_X1_at b33 r20 o32.2) (fun o34 => m_chk (zt o34.2 = zt o32.2 ∧ zu o34.2 = zu o32.2) (
  m_chk (zK o34.2 x0 = 2) (
  m_cal2 (d_X2_readRemarks x0 o34.1 o34.2) (fun r36 S37 =>
  m_if (r36 = 0) (
  d_X2_readMove_233 S37
  ) (
  d_X2_readMove_234 (1 : Int32) S37
  ))))))))
  )))))))))))))))))))))))))
  ))))))))))
  ) (
  m_chk (zK o15.2 x0 = 2) (
  m_cal (f_X2_refuse x0 (6 : Int32) (zI o3.2 4 x0) o15.2) (fun o41 => m_chk (zt o41.2 = zt o15.2 ∧ zu o41.2 = zu o15.2) (
  m_chk (vp_nar .boolean o41.1 = o41.1) (
  some (o41.1, o41.2)))))
  )))))))))))
  ) (
  m_if (r8 = (-2 : Int32)) (
  d_X2_readMove_110 (zI o3.2 4 x0) (5 : Int32) x0 S9
  ) (
  d_X2_readMove_110 (zI o3.2 4 x0) (4 : Int32) x0 S9
  )
  ))))))))))))
  )))))))))
theorem tt_X2_readMove_37 {Pw : Int32 → ZS → Prop}   {x0 : Nat} {x1 : Int32} {x2 : Nat} {S : ZS} : Tw Pw (d_X2_readMove_37 x0 x1 x2 S) (zt S) (zu S) (fun C T => g_X2_readMove_37 Pw x0 x1 x2 S C T) := by
  unfold d_X2_readMove_37 g_X2_readMove_37
  refine tw_chk (fun _ => ?_)
  refine tw_calv (fun b1 => ?_)
  refine tw_chk (fun _ => ?_)
  refine tw_chk (fun _ => ?_)
  refine tw_calf (⟨rfl, rfl⟩ : zt S = zt S ∧ zu S = zu S) (fun o2 co2 => ?_)
  refine tw_calf co2 (fun o3 co3 => ?_)
  refine tw_if (fun _ => ?_) (fun _ => ?_)
  ·
    refine tw_chk (fun _ => ?_)
    refine tw_chk (fun _ => ?_)
    refine tw_calf co3 (fun o42 co42 => ?_)
    refine tw_chk (fun _ => ?_)
    exact tw_ret co42
  ·
    refine tw_chk (fun _ => ?_)
    refine tw_chk (fun _ => ?_)
    refine tw_calf co3 (fun o4 co4 => ?_)
    refine tw_chk (fun _ => ?_)
    refine tw_calv (fun b5 => ?_)
    refine tw_chk (fun _ => ?_)
    refine tw_calv (fun b6 => ?_)
    refine tw_chk (fun _ => ?_)
    refine tw_chk (fun _ => ?_)
    refine tw_gal (fun Pw9 => tw_at co4 tt_X8_matched) (fun r8 S9 => ?_)
    refine tw_if (fun _ => ?_) (fun _ => ?_)
    ·
      refine tw_chk (fun _ => ?_)
      refine tw_calv (fun b12 => ?_)
      refine tw_chk (fun _ => ?_)
      refine tw_calv (fun b13 => ?_)
      refine tw_chk (fun _ => ?_)
      refine tw_chk (fun _ => ?_)
      refine tw_bndv (fun v14 => ?_)
      refine tw_chk (fun _ => ?_)
      refine tw_calf (⟨rfl, rfl⟩ : zt S9 = zt S9 ∧ zu S9 = zu S9) (fun o15 co15 => ?_)
      refine tw_if (fun _ => ?_) (fun _ => ?_)
      ·
        refine tw_chk (fun _ => ?_)
        refine tw_calv (fun b16 => ?_)
        refine tw_chk (fun _ => ?_)
        refine tw_calv (fun b17 => ?_)
        refine tw_chk (fun _ => ?_)
        refine tw_chk (fun _ => ?_)
        refine tw_bndv (fun v18 => ?_)
        refine tw_chk (fun _ => ?_)
        refine tw_gal (fun Pw9 => tw_at co15 tt_X1_grow) (fun r20 S21 => ?_)
        refine tw_if (fun _ => ?_) (fun _ => ?_)
        ·
          refine tw_chk (fun _ => ?_)
          refine tw_calf (⟨rfl, rfl⟩ : zt S21 = zt S21 ∧ zu S21 = zu S21) (fun o40 co40 => ?_)
          refine tw_chk (fun _ => ?_)
          exact tw_ret co40
        ·
          refine tw_chk (fun _ => ?_)
          refine tw_calv (fun b24 => ?_)
          refine tw_chk (fun _ => ?_)
          refine tw_chk (fun _ => ?_)
          refine tw_bnds (⟨rfl, rfl⟩ : zt S21 = zt S21 ∧ zu S21 = zu S21) (fun S25 cS25 => ?_)
          refine tw_chk (fun _ => ?_)
          refine tw_calv (fun b26 => ?_)
          refine tw_chk (fun _ => ?_)
          refine tw_chk (fun _ => ?_)
          refine tw_calv (fun b27 => ?_)
          refine tw_chk (fun _ => ?_)
          refine tw_calf cS25 (fun o28 co28 => ?_)
          refine tw_chk (fun _ => ?_)
          refine tw_calf co28 (fun o29 co29 => ?_)
          refine tw_chk (fun _ => ?_)
          refine tw_calv (fun b30 => ?_)
          refine tw_chk (fun _ => ?_)
          refine tw_calf co29 (fun o31 co31 => ?_)
          refine tw_chk (fun _ => ?_)
          refine tw_calf co31 (fun o32 co32 => ?_)
          refine tw_if (fun _ => ?_) (fun _ => ?_)
          ·
            exact tw_at co32 (tt_X2_readMove_233)
          ·
            refine tw_chk (fun _ => ?_)
            refine tw_calv (fun b33 => ?_)
            refine tw_chk (fun _ => ?_)
            refine tw_calf co32 (fun o34 co34 => ?_)
            refine tw_chk (fun _ => ?_)
            refine tw_gal (fun Pw9 => tw_at co34 tt_X2_readRemarks) (fun r36 S37 => ?_)
            refine tw_if (fun _ => ?_) (fun _ => ?_)
            ·
              exact tw_at (⟨rfl, rfl⟩ : zt S37 = zt S37 ∧ zu S37 = zu S37) (tt_X2_readMove_233)
            ·
              exact tw_at (⟨rfl, rfl⟩ : zt S37 = zt S37 ∧ zu S37 = zu S37) (tt_X2_readMove_234)
      ·
        refine tw_chk (fun _ => ?_)
        refine tw_calf co15 (fun o41 co41 => ?_)
        refine tw_chk (fun _ => ?_)
        exact tw_ret co41
    ·
      refine tw_if (fun _ => ?_) (fun _ => ?_)
      ·
        exact tw_at (⟨rfl, rfl⟩ : zt S9 = zt S9 ∧ zu S9 = zu S9) (tt_X2_readMove_110)
      ·
        exact tw_at (⟨rfl, rfl⟩ : zt S9 = zt S9 ∧ zu S9 = zu S9) (tt_X2_readMove_110)
noncomputable def d_X2_readMove_0 (x0 : Nat) (x1 : Int32) (S : ZS) : Option (Int32 × ZS) :=
  m_chk (zK S x0 = 2) (
  m_cal (zP S 11 x0) (fun b1 =>
  m_chk (zK S b1 = 15) (
  m_chk (¬ (x1 < 0 ∨ zN S b1 ≤ (x1).toNatClampNeg)) (
  m_cal (zB S b1 (x1).toNatClampNeg) (fun b2 =>
  m_chk (zK S x0 = 2) (
  m_cal (zP S 2 x0) (fun b3 =>
  m_chk (zK S x0 = 2) (
  m_chk (zK S b3 = 6) (
  m_cal (f_X6_at b3 (zI S 4 x0) S) (fun o4 => m_chk (zt o4.2 = zt S ∧ zu o4.2 = zu S) (
  m_cal (f_X11_isDigit o4.1 o4.2) (fun o5 => m_chk (zt o5.2 = zt o4.2 ∧ zu o5.2 = zu o4.2) (
  m_if (o5.1 = 0) (
  d_X2_readMove_37 x0 x1 b2 o5.2
  ) (
  m_chk (zK o5.2 b2 = 0) (
  m_chk (zK o5.2 x0 = 2) (
  m_cal (f_X2_readNumber x0 (zI o5.2 6 b2) o5.2) (fun o6 => m_chk (zt o6.2 = zt o5.2 ∧ zu o6.2 = zu o5.2) (
  m_if (o6.1 = 0) (
  m_chk (vp_nar .boolean (0 : Int32) = (0 : Int32)) (
  some ((0 : Int32), o6.2))
  ) (
  d_X2_readMove_37 x0 x1 b2 o6.2
  )))))
  ))))))))))))))
theorem tt_X2_readMove_0 {Pw : Int32 → ZS → Prop}   {x0 : Nat} {x1 : Int32} {S : ZS} : Tw Pw (d_X2_readMove_0 x0 x1 S) (zt S) (zu S) (fun C T => g_X2_readMove_0 Pw x0 x1 S C T) := by
  unfold d_X2_readMove_0 g_X2_readMove_0
  refine tw_chk (fun _ => ?_)
  refine tw_calv (fun b1 => ?_)
  refine tw_chk (fun _ => ?_)
  refine tw_chk (fun _ => ?_)
  refine tw_calv (fun b2 => ?_)
  refine tw_chk (fun _ => ?_)
  refine tw_calv (fun b3 => ?_)
  refine tw_chk (fun _ => ?_)
  refine tw_chk (fun _ => ?_)
  refine tw_calf (⟨rfl, rfl⟩ : zt S = zt S ∧ zu S = zu S) (fun o4 co4 => ?_)
  refine tw_calf co4 (fun o5 co5 => ?_)
  refine tw_if (fun _ => ?_) (fun _ => ?_)
  ·
    exact tw_at co5 (tt_X2_readMove_37)
  ·
    refine tw_chk (fun _ => ?_)
    refine tw_chk (fun _ => ?_)
    refine tw_calf co5 (fun o6 co6 => ?_)
    refine tw_if (fun _ => ?_) (fun _ => ?_)
    ·
      refine tw_chk (fun _ => ?_)
      exact tw_ret co6
    ·
      exact tw_at co6 (tt_X2_readMove_37)
noncomputable def d_X2_readMove (x0 : Nat) (x1 : Int32) (S : ZS) : Option (Int32 × ZS) := d_X2_readMove_0 x0 x1 S
theorem tt_X2_readMove {Pw : Int32 → ZS → Prop} {x0 : Nat} {x1 : Int32} {S : ZS} : Tw Pw (d_X2_readMove x0 x1 S) (zt S) (zu S) (fun C T => g_X2_readMove x0 x1 S C T Pw) := tt_X2_readMove_0
noncomputable def d_X2_readMoves_197 (self34 : Nat → Int32 → Int32 → ZS → Option (Int32 × ZS)) (x0 : Nat) (x1 : Int32) (x2 : Int32) (S : ZS) : Option (Int32 × ZS) :=
  m_bnd (x2 + (1 : Int32)) (fun v1 =>
  self34 x0 x1 v1 S)
theorem tt_X2_readMoves_197 {Pw : Int32 → ZS → Prop} {self34 : Nat → Int32 → Int32 → ZS → Option (Int32 × ZS)} {self34g : Nat → Int32 → Int32 → ZS → Nat → Nat → Prop} (hself34 : ∀ (y0 : Nat) (y1 : Int32) (y2 : Int32) (S : ZS), Tw Pw (self34 y0 y1 y2 S) (zt S) (zu S) (fun C T => self34g y0 y1 y2 S C T)) {x0 : Nat} {x1 : Int32} {x2 : Int32} {S : ZS} : Tw Pw (d_X2_readMoves_197 self34 x0 x1 x2 S) (zt S) (zu S) (fun C T => g_X2_readMoves_197 Pw self34g x0 x1 x2 S C T) := by
  unfold d_X2_readMoves_197 g_X2_readMoves_197
  refine tw_bndv (fun v1 => ?_)
  exact tw_at (⟨rfl, rfl⟩ : zt S = zt S ∧ zu S = zu S) (hself34 _ _ _ _)
noncomputable def d_X2_readMoves_187 (self34 : Nat → Int32 → Int32 → ZS → Option (Int32 × ZS)) (x0 : Nat) (x1 : Int32) (x2 : Int32) (S : ZS) : Option (Int32 × ZS) :=
  m_chk (zK S x0 = 2) (
  m_cal2 (d_X2_readMove x0 x1 S) (fun r2 S3 =>
  m_if (r2 = 0) (
  m_chk (vp_nar .boolean (0 : Int32) = (0 : Int32)) (
  some ((0 : Int32), S3))
  ) (
  d_X2_readMoves_197 self34 x0 x1 x2 S3
  )))
theorem tt_X2_readMoves_187 {Pw : Int32 → ZS → Prop} {self34 : Nat → Int32 → Int32 → ZS → Option (Int32 × ZS)} {self34g : Nat → Int32 → Int32 → ZS → Nat → Nat → Prop} (hself34 : ∀ (y0 : Nat) (y1 : Int32) (y2 : Int32) (S : ZS), Tw Pw (self34 y0 y1 y2 S) (zt S) (zu S) (fun C T => self34g y0 y1 y2 S C T)) {x0 : Nat} {x1 : Int32} {x2 : Int32} {S : ZS} : Tw Pw (d_X2_readMoves_187 self34 x0 x1 x2 S) (zt S) (zu S) (fun C T => g_X2_readMoves_187 Pw self34g x0 x1 x2 S C T) := by
  unfold d_X2_readMoves_187 g_X2_readMoves_187
  refine tw_chk (fun _ => ?_)
  refine tw_gal (fun Pw9 => tw_at (⟨rfl, rfl⟩ : zt S = zt S ∧ zu S = zu S) tt_X2_readMove) (fun r2 S3 => ?_)
  refine tw_if (fun _ => ?_) (fun _ => ?_)
  ·
    refine tw_chk (fun _ => ?_)
    exact tw_ret (⟨rfl, rfl⟩ : zt S3 = zt S3 ∧ zu S3 = zu S3)
  ·
    exact tw_at (⟨rfl, rfl⟩ : zt S3 = zt S3 ∧ zu S3 = zu S3) (tt_X2_readMoves_197 hself34)
noncomputable def d_X2_readMoves_128 (self34 : Nat → Int32 → Int32 → ZS → Option (Int32 × ZS)) (x0 : Nat) (x1 : Int32) (x2 : Int32) (x3 : Int32) (S : ZS) : Option (Int32 × ZS) :=
  m_if (x3 = 0) (
  d_X2_readMoves_187 self34 x0 x1 x2 S
  ) (
  m_if (x1 ≤ 0) (
  d_X2_readMoves_187 self34 x0 x1 x2 S
  ) (
  m_chk (zK S x0 = 2) (
  m_cal (zP S 2 x0) (fun b1 =>
  m_chk (zK S x0 = 2) (
  m_chk (zK S b1 = 6) (
  m_cal (f_X6_at b1 (zI S 4 x0) S) (fun o2 => m_chk (zt o2.2 = zt S ∧ zu o2.2 = zu S) (
  m_if (o2.1 = (41 : Int32)) (
  m_bnd (x1 + (-1 : Int32)) (fun v3 =>
  m_chk (zK o2.2 x0 = 2) (
  m_bnd ((zI o2.2 4 x0) + (1 : Int32)) (fun v4 =>
  m_chk (zK o2.2 x0 = 2) (
  m_bnd (zsI o2.2 4 x0 v4) (fun S5 =>
  m_chk (zK S5 x0 = 2) (
  m_cal (zP S5 3 x0) (fun b6 =>
  m_chk (zK S5 x0 = 2) (
  m_cal (zP S5 9 x0) (fun b7 =>
  m_chk (zK S5 b7 = 14) (
  m_chk (¬ (v3 < 0 ∨ zN S5 b7 ≤ (v3).toNatClampNeg)) (
  m_bnd (zA S5 b7 (v3).toNatClampNeg) (fun v8 =>
  m_chk (zK S5 b6 = 1) (
  m_cal (f_X1_at b6 v8 S5) (fun o9 => m_chk (zt o9.2 = zt S5 ∧ zu o9.2 = zu S5) (
  m_chk (zK o9.2 x0 = 2) (
  m_cal2 (d_X2_readRemarks x0 o9.1 o9.2) (fun r11 S12 =>
  m_if (r11 = 0) (
  m_chk (vp_nar .boolean (0 : Int32) = (0 : Int32)) (
  some ((0 : Int32), S12))
  ) (
  d_X2_readMoves_197 self34 x0 v3 x2 S12
  ))))))))))))))))))
  ) (
  d_X2_readMoves_187 self34 x0 x1 x2 o2.2
  )))))))
  )
  )
theorem tt_X2_readMoves_128 {Pw : Int32 → ZS → Prop} {self34 : Nat → Int32 → Int32 → ZS → Option (Int32 × ZS)} {self34g : Nat → Int32 → Int32 → ZS → Nat → Nat → Prop} (hself34 : ∀ (y0 : Nat) (y1 : Int32) (y2 : Int32) (S : ZS), Tw Pw (self34 y0 y1 y2 S) (zt S) (zu S) (fun C T => self34g y0 y1 y2 S C T)) {x0 : Nat} {x1 : Int32} {x2 : Int32} {x3 : Int32} {S : ZS} : Tw Pw (d_X2_readMoves_128 self34 x0 x1 x2 x3 S) (zt S) (zu S) (fun C T => g_X2_readMoves_128 Pw self34g x0 x1 x2 x3 S C T) := by
  unfold d_X2_readMoves_128 g_X2_readMoves_128
  refine tw_if (fun _ => ?_) (fun _ => ?_)
  ·
    exact tw_at (⟨rfl, rfl⟩ : zt S = zt S ∧ zu S = zu S) (tt_X2_readMoves_187 hself34)
  ·
    refine tw_if (fun _ => ?_) (fun _ => ?_)
    ·
      exact tw_at (⟨rfl, rfl⟩ : zt S = zt S ∧ zu S = zu S) (tt_X2_readMoves_187 hself34)
    ·
      refine tw_chk (fun _ => ?_)
      refine tw_calv (fun b1 => ?_)
      refine tw_chk (fun _ => ?_)
      refine tw_chk (fun _ => ?_)
      refine tw_calf (⟨rfl, rfl⟩ : zt S = zt S ∧ zu S = zu S) (fun o2 co2 => ?_)
      refine tw_if (fun _ => ?_) (fun _ => ?_)
      ·
        refine tw_bndv (fun v3 => ?_)
        refine tw_chk (fun _ => ?_)
        refine tw_bndv (fun v4 => ?_)
        refine tw_chk (fun _ => ?_)
        refine tw_bnds co2 (fun S5 cS5 => ?_)
        refine tw_chk (fun _ => ?_)
        refine tw_calv (fun b6 => ?_)
        refine tw_chk (fun _ => ?_)
        refine tw_calv (fun b7 => ?_)
        refine tw_chk (fun _ => ?_)
        refine tw_chk (fun _ => ?_)
        refine tw_bndv (fun v8 => ?_)
        refine tw_chk (fun _ => ?_)
        refine tw_calf cS5 (fun o9 co9 => ?_)
        refine tw_chk (fun _ => ?_)
        refine tw_gal (fun Pw9 => tw_at co9 tt_X2_readRemarks) (fun r11 S12 => ?_)
        refine tw_if (fun _ => ?_) (fun _ => ?_)
        ·
          refine tw_chk (fun _ => ?_)
          exact tw_ret (⟨rfl, rfl⟩ : zt S12 = zt S12 ∧ zu S12 = zu S12)
        ·
          exact tw_at (⟨rfl, rfl⟩ : zt S12 = zt S12 ∧ zu S12 = zu S12) (tt_X2_readMoves_197 hself34)
      ·
        exact tw_at co2 (tt_X2_readMoves_187 hself34)
noncomputable def d_X2_readMoves_80 (self34 : Nat → Int32 → Int32 → ZS → Option (Int32 × ZS)) (x0 : Nat) (x1 : Int32) (x2 : Int32) (x3 : Int32) (S : ZS) : Option (Int32 × ZS) :=
  m_if (x3 = 0) (
  d_X2_readMoves_128 self34 x0 x1 x2 x3 S
  ) (
  m_chk (zK S x0 = 2) (
  m_cal (zP S 2 x0) (fun b1 =>
  m_chk (zK S x0 = 2) (
  m_chk (zK S b1 = 6) (
  m_cal (f_X6_at b1 (zI S 4 x0) S) (fun o2 => m_chk (zt o2.2 = zt S ∧ zu o2.2 = zu S) (
  m_if (o2.1 = (40 : Int32)) (
  m_if (x1 < (6 : Int32)) (
  m_bnd (x1 + (1 : Int32)) (fun v3 =>
  m_chk (zK o2.2 x0 = 2) (
  m_cal (f_X2_openLine x0 v3 o2.2) (fun o4 => m_chk (zt o4.2 = zt o2.2 ∧ zu o4.2 = zu o2.2) (
  d_X2_readMoves_197 self34 x0 v3 x2 o4.2))))
  ) (
  m_chk (zK o2.2 x0 = 2) (
  m_chk (zK o2.2 x0 = 2) (
  m_cal (f_X2_refuse x0 (8 : Int32) (zI o2.2 4 x0) o2.2) (fun o5 => m_chk (zt o5.2 = zt o2.2 ∧ zu o5.2 = zu o2.2) (
  m_chk (vp_nar .boolean o5.1 = o5.1) (
  some (o5.1, o5.2))))))
  )
  ) (
  d_X2_readMoves_128 self34 x0 x1 x2 x3 o2.2
  )))))))
  )
theorem tt_X2_readMoves_80 {Pw : Int32 → ZS → Prop} {self34 : Nat → Int32 → Int32 → ZS → Option (Int32 × ZS)} {self34g : Nat → Int32 → Int32 → ZS → Nat → Nat → Prop} (hself34 : ∀ (y0 : Nat) (y1 : Int32) (y2 : Int32) (S : ZS), Tw Pw (self34 y0 y1 y2 S) (zt S) (zu S) (fun C T => self34g y0 y1 y2 S C T)) {x0 : Nat} {x1 : Int32} {x2 : Int32} {x3 : Int32} {S : ZS} : Tw Pw (d_X2_readMoves_80 self34 x0 x1 x2 x3 S) (zt S) (zu S) (fun C T => g_X2_readMoves_80 Pw self34g x0 x1 x2 x3 S C T) := by
  unfold d_X2_readMoves_80 g_X2_readMoves_80
  refine tw_if (fun _ => ?_) (fun _ => ?_)
  ·
    exact tw_at (⟨rfl, rfl⟩ : zt S = zt S ∧ zu S = zu S) (tt_X2_readMoves_128 hself34)
  ·
    refine tw_chk (fun _ => ?_)
    refine tw_calv (fun b1 => ?_)
    refine tw_chk (fun _ => ?_)
    refine tw_chk (fun _ => ?_)
    refine tw_calf (⟨rfl, rfl⟩ : zt S = zt S ∧ zu S = zu S) (fun o2 co2 => ?_)
    refine tw_if (fun _ => ?_) (fun _ => ?_)
    ·
      refine tw_if (fun _ => ?_) (fun _ => ?_)
      ·
        refine tw_bndv (fun v3 => ?_)
        refine tw_chk (fun _ => ?_)
        refine tw_calf co2 (fun o4 co4 => ?_)
        exact tw_at co4 (tt_X2_readMoves_197 hself34)
      ·
        refine tw_chk (fun _ => ?_)
        refine tw_chk (fun _ => ?_)
        refine tw_calf co2 (fun o5 co5 => ?_)
        refine tw_chk (fun _ => ?_)
        exact tw_ret co5
    ·
      exact tw_at co2 (tt_X2_readMoves_128 hself34)
noncomputable def d_X2_readMoves_65 (self34 : Nat → Int32 → Int32 → ZS → Option (Int32 × ZS)) (x0 : Nat) (x1 : Int32) (x2 : Int32) (t0 : Int32) (S : ZS) : Option (Int32 × ZS) :=
  m_if (x1 = 0) (
  m_chk (zK S x0 = 2) (
  m_cal (f_X2_resultHere x0 S) (fun o1 => m_chk (zt o1.2 = zt S ∧ zu o1.2 = zu S) (
  m_if (o1.1 = (-1 : Int32)) (
  d_X2_readMoves_80 self34 x0 x1 x2 t0 o1.2
  ) (
  m_chk (vp_nar .boolean (1 : Int32) = (1 : Int32)) (
  some ((1 : Int32), o1.2))
  ))))
  ) (
  d_X2_readMoves_80 self34 x0 x1 x2 t0 S
  )
theorem tt_X2_readMoves_65 {Pw : Int32 → ZS → Prop} {self34 : Nat → Int32 → Int32 → ZS → Option (Int32 × ZS)} {self34g : Nat → Int32 → Int32 → ZS → Nat → Nat → Prop} (hself34 : ∀ (y0 : Nat) (y1 : Int32) (y2 : Int32) (S : ZS), Tw Pw (self34 y0 y1 y2 S) (zt S) (zu S) (fun C T => self34g y0 y1 y2 S C T)) {x0 : Nat} {x1 : Int32} {x2 : Int32} {t0 : Int32} {S : ZS} : Tw Pw (d_X2_readMoves_65 self34 x0 x1 x2 t0 S) (zt S) (zu S) (fun C T => g_X2_readMoves_65 Pw self34g x0 x1 x2 t0 S C T) := by
  unfold d_X2_readMoves_65 g_X2_readMoves_65
  refine tw_if (fun _ => ?_) (fun _ => ?_)
  ·
    refine tw_chk (fun _ => ?_)
    refine tw_calf (⟨rfl, rfl⟩ : zt S = zt S ∧ zu S = zu S) (fun o1 co1 => ?_)
    refine tw_if (fun _ => ?_) (fun _ => ?_)
    ·
      exact tw_at co1 (tt_X2_readMoves_80 hself34)
    ·
      refine tw_chk (fun _ => ?_)
      exact tw_ret co1
  ·
    exact tw_at (⟨rfl, rfl⟩ : zt S = zt S ∧ zu S = zu S) (tt_X2_readMoves_80 hself34)
noncomputable def d_X2_readMoves_34s (self34 : Nat → Int32 → Int32 → ZS → Option (Int32 × ZS)) (x0 : Nat) (x1 : Int32) (x2 : Int32) (S : ZS) : Option (Int32 × ZS) :=
  m_if ((2000 : Int32) < x2) (
  m_chk (zK S x0 = 2) (
  m_chk (zK S x0 = 2) (
  m_cal (f_X2_refuse x0 (1 : Int32) (zI S 4 x0) S) (fun o1 => m_chk (zt o1.2 = zt S ∧ zu o1.2 = zu S) (
  m_chk (vp_nar .boolean o1.1 = o1.1) (
  some (o1.1, o1.2))))))
  ) (
  m_chk (zK S x0 = 2) (
  m_cal (f_X2_skipBlanks x0 S) (fun o2 => m_chk (zt o2.2 = zt S ∧ zu o2.2 = zu S) (
  m_chk (zK o2.2 x0 = 2) (
  m_cal (zP o2.2 9 x0) (fun b3 =>
  m_chk (zK o2.2 b3 = 14) (
  m_chk (¬ (x1 < 0 ∨ zN o2.2 b3 ≤ (x1).toNatClampNeg)) (
  m_bnd (zA o2.2 b3 (x1).toNatClampNeg) (fun v4 =>
  m_chk (zK o2.2 x0 = 2) (
  m_cal (zP o2.2 8 x0) (fun b5 =>
  m_chk (zK o2.2 b5 = 14) (
  m_chk (¬ (x1 < 0 ∨ zN o2.2 b5 ≤ (x1).toNatClampNeg)) (
  m_bnd (zA o2.2 b5 (x1).toNatClampNeg) (fun v6 =>
  m_if (v4 = v6) (
  d_X2_readMoves_65 self34 x0 x1 x2 (0 : Int32) o2.2
  ) (
  d_X2_readMoves_65 self34 x0 x1 x2 (1 : Int32) o2.2
  ))))))))))))))
  )
theorem tt_X2_readMoves_34s {Pw : Int32 → ZS → Prop} {self34 : Nat → Int32 → Int32 → ZS → Option (Int32 × ZS)} {self34g : Nat → Int32 → Int32 → ZS → Nat → Nat → Prop} (hself34 : ∀ (y0 : Nat) (y1 : Int32) (y2 : Int32) (S : ZS), Tw Pw (self34 y0 y1 y2 S) (zt S) (zu S) (fun C T => self34g y0 y1 y2 S C T)) {x0 : Nat} {x1 : Int32} {x2 : Int32} {S : ZS} : Tw Pw (d_X2_readMoves_34s self34 x0 x1 x2 S) (zt S) (zu S) (fun C T => g_X2_readMoves_34s Pw self34g x0 x1 x2 S C T) := by
  unfold d_X2_readMoves_34s g_X2_readMoves_34s
  refine tw_if (fun _ => ?_) (fun _ => ?_)
  ·
    refine tw_chk (fun _ => ?_)
    refine tw_chk (fun _ => ?_)
    refine tw_calf (⟨rfl, rfl⟩ : zt S = zt S ∧ zu S = zu S) (fun o1 co1 => ?_)
    refine tw_chk (fun _ => ?_)
    exact tw_ret co1
  ·
    refine tw_chk (fun _ => ?_)
    refine tw_calf (⟨rfl, rfl⟩ : zt S = zt S ∧ zu S = zu S) (fun o2 co2 => ?_)
    refine tw_chk (fun _ => ?_)
    refine tw_calv (fun b3 => ?_)
    refine tw_chk (fun _ => ?_)
    refine tw_chk (fun _ => ?_)
    refine tw_bndv (fun v4 => ?_)
    refine tw_chk (fun _ => ?_)
    refine tw_calv (fun b5 => ?_)
    refine tw_chk (fun _ => ?_)
    refine tw_chk (fun _ => ?_)
    refine tw_bndv (fun v6 => ?_)
    refine tw_if (fun _ => ?_) (fun _ => ?_)
    ·
      exact tw_at co2 (tt_X2_readMoves_65 hself34)
    ·
      exact tw_at co2 (tt_X2_readMoves_65 hself34)
noncomputable def d_X2_readMoves_34  : Nat → Nat → Int32 → Int32 → ZS → Option (Int32 × ZS)
  | 0 => fun _ _ _ _ => none
  | n + 1 => d_X2_readMoves_34s  (d_X2_readMoves_34  n)
theorem tt_X2_readMoves_34 {Pw : Int32 → ZS → Prop}   {n : Nat} : ∀ {z0 : Nat} {z1 : Int32} {z2 : Int32} {S : ZS}, Tw Pw (d_X2_readMoves_34  n z0 z1 z2 S) (zt S) (zu S) (fun C T => g_X2_readMoves_34 Pw  n z0 z1 z2 S C T) := by
  induction n with
  | zero => intro z0 z1 z2 S; exact tw_none
  | succ n ih => intro z0 z1 z2 S; exact tt_X2_readMoves_34s  (fun _ _ _ _ => ih)
noncomputable def d_X2_readMoves_0 (x0 : Nat) (S : ZS) : Option (Int32 × ZS) :=
  m_chk (zK S x0 = 2) (
  m_cal (zP S 8 x0) (fun b1 =>
  m_chk (zK S b1 = 14) (
  m_chk (¬ ((0 : Int32) < 0 ∨ zN S b1 ≤ ((0 : Int32)).toNatClampNeg)) (
  m_bnd (zsA S b1 ((0 : Int32)).toNatClampNeg (0 : Int32)) (fun S2 =>
  m_chk (zK S2 x0 = 2) (
  m_cal (zP S2 9 x0) (fun b3 =>
  m_chk (zK S2 b3 = 14) (
  m_chk (¬ ((0 : Int32) < 0 ∨ zN S2 b3 ≤ ((0 : Int32)).toNatClampNeg)) (
  m_bnd (zsA S2 b3 ((0 : Int32)).toNatClampNeg (0 : Int32)) (fun S4 =>
  m_chk (zK S4 x0 = 2) (
  m_cal (zP S4 11 x0) (fun b5 =>
  m_chk (zK S4 b5 = 15) (
  m_chk (¬ ((0 : Int32) < 0 ∨ zN S4 b5 ≤ ((0 : Int32)).toNatClampNeg)) (
  m_cal (zB S4 b5 ((0 : Int32)).toNatClampNeg) (fun b6 =>
  m_chk (zK S4 x0 = 2) (
  m_cal (zP S4 3 x0) (fun b7 =>
  m_chk (zK S4 b7 = 1) (
  m_cal (zP S4 0 b7) (fun b8 =>
  m_chk (zK S4 b6 = 0) (
  m_cal (f_X0_copyFrom b6 b8 S4) (fun o9 => m_chk (zt o9.2 = zt S4 ∧ zu o9.2 = zu S4) (
  d_X2_readMoves_34 mFuel x0 (0 : Int32) (0 : Int32) o9.2))))))))))))))))))))))
theorem tt_X2_readMoves_0 {Pw : Int32 → ZS → Prop}   {x0 : Nat} {S : ZS} : Tw Pw (d_X2_readMoves_0 x0 S) (zt S) (zu S) (fun C T => g_X2_readMoves_0 Pw x0 S C T) := by
  unfold d_X2_readMoves_0 g_X2_readMoves_0
  refine tw_chk (fun _ => ?_)
  refine tw_calv (fun b1 => ?_)
  refine tw_chk (fun _ => ?_)
  refine tw_chk (fun _ => ?_)
  refine tw_bnds (⟨rfl, rfl⟩ : zt S = zt S ∧ zu S = zu S) (fun S2 cS2 => ?_)
  refine tw_chk (fun _ => ?_)
  refine tw_calv (fun b3 => ?_)
  refine tw_chk (fun _ => ?_)
  refine tw_chk (fun _ => ?_)
  refine tw_bnds cS2 (fun S4 cS4 => ?_)
  refine tw_chk (fun _ => ?_)
  refine tw_calv (fun b5 => ?_)
  refine tw_chk (fun _ => ?_)
  refine tw_chk (fun _ => ?_)
  refine tw_calv (fun b6 => ?_)
  refine tw_chk (fun _ => ?_)
  refine tw_calv (fun b7 => ?_)
  refine tw_chk (fun _ => ?_)
  refine tw_calv (fun b8 => ?_)
  refine tw_chk (fun _ => ?_)
  refine tw_calf cS4 (fun o9 co9 => ?_)
  exact tw_at co9 (tt_X2_readMoves_34)
noncomputable def d_X2_readMoves (x0 : Nat) (S : ZS) : Option (Int32 × ZS) := d_X2_readMoves_0 x0 S
theorem tt_X2_readMoves {Pw : Int32 → ZS → Prop} {x0 : Nat} {S : ZS} : Tw Pw (d_X2_readMoves x0 S) (zt S) (zu S) (fun C T => g_X2_readMoves x0 S C T Pw) := tt_X2_readMoves_0
noncomputable def d_X2_readEnd_86 (t0 : Int32) (S : ZS) : Option (Int32 × ZS) :=
  m_chk (vp_nar .boolean t0 = t0) (
  some (t0, S))
theorem tt_X2_readEnd_86 {Pw : Int32 → ZS → Prop}   {t0 : Int32} {S : ZS} : Tw Pw (d_X2_readEnd_86 t0 S) (zt S) (zu S) (fun C T => g_X2_readEnd_86 Pw t0 S C T) := by
  unfold d_X2_readEnd_86 g_X2_readEnd_86
  refine tw_chk (fun _ => ?_)
  exact tw_ret (⟨rfl, rfl⟩ : zt S = zt S ∧ zu S = zu S)
noncomputable def d_X2_readEnd_81 (S : ZS) : Option (Int32 × ZS) :=
  d_X2_readEnd_86 (1 : Int32) S
theorem tt_X2_readEnd_81 {Pw : Int32 → ZS → Prop}   {S : ZS} : Tw Pw (d_X2_readEnd_81 S) (zt S) (zu S) (fun C T => g_X2_readEnd_81 Pw S C T) := by
  unfold d_X2_readEnd_81 g_X2_readEnd_81
  exact tw_at (⟨rfl, rfl⟩ : zt S = zt S ∧ zu S = zu S) (tt_X2_readEnd_86)
noncomputable def d_X2_readEnd_0 (x0 : Nat) (S : ZS) : Option (Int32 × ZS) :=
  m_chk (zK S x0 = 2) (
  m_cal (f_X2_resultHere x0 S) (fun o1 => m_chk (zt o1.2 = zt S ∧ zu o1.2 = zu S) (
  m_chk (zK o1.2 x0 = 2) (
  m_cal (zP o1.2 3 x0) (fun b2 =>
  m_chk (zK o1.2 b2 = 1) (
  m_cal2 (d_X1_agreesWith b2 o1.1 o1.2) (fun r4 S5 =>
  m_if (r4 = 0) (
  m_chk (zK S5 x0 = 2) (
  m_chk (zK S5 x0 = 2) (
  m_cal (f_X2_refuse x0 (9 : Int32) (zI S5 4 x0) S5) (fun o18 => m_chk (zt o18.2 = zt S5 ∧ zu o18.2 = zu S5) (
  m_chk (vp_nar .boolean o18.1 = o18.1) (
  some (o18.1, o18.2))))))
  ) (
  m_chk (zK S5 x0 = 2) (
  m_cal (zP S5 3 x0) (fun b8 =>
  m_chk (zK S5 b8 = 1) (
  m_bnd (zsI S5 6 b8 o1.1) (fun S9 =>
  m_chk (zK S9 x0 = 2) (
  m_cal (f_X11_resultSign o1.1 S9) (fun o10 => m_chk (zt o10.2 = zt S9 ∧ zu o10.2 = zu S9) (
  m_chk (o10.1 < zSn) (
  m_cal (f_J0_length_8abf5 o10.1 o10.2) (fun o11 => m_chk (zt o11.2 = zt o10.2 ∧ zu o11.2 = zu o10.2) (
  m_bnd ((zI S9 4 x0) + o11.1) (fun v12 =>
  m_chk (zK o11.2 x0 = 2) (
  m_bnd (zsI o11.2 4 x0 v12) (fun S13 =>
  m_chk (zK S13 x0 = 2) (
  m_cal (f_X2_skipBlanks x0 S13) (fun o14 => m_chk (zt o14.2 = zt S13 ∧ zu o14.2 = zu S13) (
  m_chk (zK o14.2 x0 = 2) (
  m_chk (zK o14.2 x0 = 2) (
  m_cal (zP o14.2 2 x0) (fun b15 =>
  m_chk (zK o14.2 b15 = 6) (
  m_cal (f_X6_size b15 o14.2) (fun o16 => m_chk (zt o16.2 = zt o14.2 ∧ zu o16.2 = zu o14.2) (
  m_if ((zI o14.2 4 x0) = o16.1) (
  d_X2_readEnd_81 o16.2
  ) (
  m_chk (zK o16.2 x0 = 2) (
  m_chk (zK o16.2 x0 = 2) (
  m_cal (f_X2_refuse x0 (1 : Int32) (zI o16.2 4 x0) o16.2) (fun o17 => m_chk (zt o17.2 = zt o16.2 ∧ zu o17.2 = zu o16.2) (
  m_if (o17.1 = 0) (
  d_X2_readEnd_86 (0 : Int32) o17.2
  ) (
  d_X2_readEnd_81 o17.2
  )))))
  )))))))))))))))))))))))
  ))))))))
theorem tt_X2_readEnd_0 {Pw : Int32 → ZS → Prop}   {x0 : Nat} {S : ZS} : Tw Pw (d_X2_readEnd_0 x0 S) (zt S) (zu S) (fun C T => g_X2_readEnd_0 Pw x0 S C T) := by
  unfold d_X2_readEnd_0 g_X2_readEnd_0
  refine tw_chk (fun _ => ?_)
  refine tw_calf (⟨rfl, rfl⟩ : zt S = zt S ∧ zu S = zu S) (fun o1 co1 => ?_)
  refine tw_chk (fun _ => ?_)
  refine tw_calv (fun b2 => ?_)
  refine tw_chk (fun _ => ?_)
  refine tw_gal (fun Pw9 => tw_at co1 tt_X1_agreesWith) (fun r4 S5 => ?_)
  refine tw_if (fun _ => ?_) (fun _ => ?_)
  ·
    refine tw_chk (fun _ => ?_)
    refine tw_chk (fun _ => ?_)
    refine tw_calf (⟨rfl, rfl⟩ : zt S5 = zt S5 ∧ zu S5 = zu S5) (fun o18 co18 => ?_)
    refine tw_chk (fun _ => ?_)
    exact tw_ret co18
  ·
    refine tw_chk (fun _ => ?_)
    refine tw_calv (fun b8 => ?_)
    refine tw_chk (fun _ => ?_)
    refine tw_bnds (⟨rfl, rfl⟩ : zt S5 = zt S5 ∧ zu S5 = zu S5) (fun S9 cS9 => ?_)
    refine tw_chk (fun _ => ?_)
    refine tw_calf cS9 (fun o10 co10 => ?_)
    refine tw_chk (fun _ => ?_)
    refine tw_calf co10 (fun o11 co11 => ?_)
    refine tw_bndv (fun v12 => ?_)
    refine tw_chk (fun _ => ?_)
    refine tw_bnds co11 (fun S13 cS13 => ?_)
    refine tw_chk (fun _ => ?_)
    refine tw_calf cS13 (fun o14 co14 => ?_)
    refine tw_chk (fun _ => ?_)
    refine tw_chk (fun _ => ?_)
    refine tw_calv (fun b15 => ?_)
    refine tw_chk (fun _ => ?_)
    refine tw_calf co14 (fun o16 co16 => ?_)
    refine tw_if (fun _ => ?_) (fun _ => ?_)
    ·
      exact tw_at co16 (tt_X2_readEnd_81)
    ·
      refine tw_chk (fun _ => ?_)
      refine tw_chk (fun _ => ?_)
      refine tw_calf co16 (fun o17 co17 => ?_)
      refine tw_if (fun _ => ?_) (fun _ => ?_)
      ·
        exact tw_at co17 (tt_X2_readEnd_86)
      ·
        exact tw_at co17 (tt_X2_readEnd_81)
noncomputable def d_X2_readEnd (x0 : Nat) (S : ZS) : Option (Int32 × ZS) := d_X2_readEnd_0 x0 S
theorem tt_X2_readEnd {Pw : Int32 → ZS → Prop} {x0 : Nat} {S : ZS} : Tw Pw (d_X2_readEnd x0 S) (zt S) (zu S) (fun C T => g_X2_readEnd x0 S C T Pw) := tt_X2_readEnd_0
noncomputable def d_X9_init_0 (x0 : Nat) (S : ZS) : Option (Int32 × ZS) :=
  m_bnd (zt S) (fun q1 =>
  m_bnd (zsNewO S q1 7 2) (fun S2 =>
  m_cal2 (d_X7_init q1 S2) (fun r6 S7 =>
  m_chk (zK S7 x0 = 9) (
  m_bnd (zsP S7 0 x0 (some q1)) (fun S10 =>
  some (0, S10))))))
theorem tt_X9_init_0 {Pw : Int32 → ZS → Prop}   {x0 : Nat} {S : ZS} : Tw Pw (d_X9_init_0 x0 S) (zt S) (zu S) (fun C T => g_X9_init_0 Pw x0 S C T) := by
  unfold d_X9_init_0 g_X9_init_0
  refine tw_new (fun _ => ⟨congrArg (· + 1) (⟨rfl, rfl⟩ : zt S = zt S ∧ zu S = zu S).1, congrArg (· + _) (⟨rfl, rfl⟩ : zt S = zt S ∧ zu S = zu S).2⟩) (fun q1 S2 cS2 => ?_)
  refine tw_gal (fun Pw9 => tw_at cS2 tt_X7_init) (fun r6 S7 => ?_)
  refine tw_chk (fun _ => ?_)
  refine tw_bnds (⟨rfl, rfl⟩ : zt S7 = zt S7 ∧ zu S7 = zu S7) (fun S10 cS10 => ?_)
  exact tw_ret cS10
noncomputable def d_X9_init (x0 : Nat) (S : ZS) : Option (Int32 × ZS) := d_X9_init_0 x0 S
theorem tt_X9_init {Pw : Int32 → ZS → Prop} {x0 : Nat} {S : ZS} : Tw Pw (d_X9_init x0 S) (zt S) (zu S) (fun C T => g_X9_init x0 S C T Pw) := tt_X9_init_0
noncomputable def d_X3_init_26s (self26 : Nat → Int32 → ZS → Option (Int32 × ZS)) (x0 : Nat) (x1 : Int32) (S : ZS) : Option (Int32 × ZS) :=
  m_if ((6 : Int32) < x1) (
  some (0, S)
  ) (
  m_chk (zK S x0 = 3) (
  m_cal (zP S 1 x0) (fun b1 =>
  m_bnd (zt S) (fun q2 =>
  m_bnd (zsNewO S q2 0 7) (fun S3 =>
  m_cal2 (d_X0_init q2 S3) (fun r7 S8 =>
  m_chk (zK S8 b1 = 15) (
  m_chk (zK S8 q2 = 0) (
  m_chk (¬ (x1 < 0 ∨ zN S8 b1 ≤ (x1).toNatClampNeg)) (
  m_bnd (zsB S8 b1 (x1).toNatClampNeg (some q2)) (fun S11 =>
  m_bnd (x1 + (1 : Int32)) (fun v12 =>
  self26 x0 v12 S11))))))))))
  )
theorem tt_X3_init_26s {Pw : Int32 → ZS → Prop} {self26 : Nat → Int32 → ZS → Option (Int32 × ZS)} {self26g : Nat → Int32 → ZS → Nat → Nat → Prop} (hself26 : ∀ (y0 : Nat) (y1 : Int32) (S : ZS), Tw Pw (self26 y0 y1 S) (zt S) (zu S) (fun C T => self26g y0 y1 S C T)) {x0 : Nat} {x1 : Int32} {S : ZS} : Tw Pw (d_X3_init_26s self26 x0 x1 S) (zt S) (zu S) (fun C T => g_X3_init_26s Pw self26g x0 x1 S C T) := by
  unfold d_X3_init_26s g_X3_init_26s
  refine tw_if (fun _ => ?_) (fun _ => ?_)
  ·
    exact tw_ret (⟨rfl, rfl⟩ : zt S = zt S ∧ zu S = zu S)
  ·
    refine tw_chk (fun _ => ?_)
    refine tw_calv (fun b1 => ?_)
    refine tw_new (fun _ => ⟨congrArg (· + 1) (⟨rfl, rfl⟩ : zt S = zt S ∧ zu S = zu S).1, congrArg (· + _) (⟨rfl, rfl⟩ : zt S = zt S ∧ zu S = zu S).2⟩) (fun q2 S3 cS3 => ?_)
    refine tw_gal (fun Pw9 => tw_at cS3 tt_X0_init) (fun r7 S8 => ?_)
    refine tw_chk (fun _ => ?_)
    refine tw_chk (fun _ => ?_)
    refine tw_chk (fun _ => ?_)
    refine tw_bnds (⟨rfl, rfl⟩ : zt S8 = zt S8 ∧ zu S8 = zu S8) (fun S11 cS11 => ?_)
    refine tw_bndv (fun v12 => ?_)
    exact tw_at cS11 (hself26 _ _ _)
noncomputable def d_X3_init_26  : Nat → Nat → Int32 → ZS → Option (Int32 × ZS)
  | 0 => fun _ _ _ => none
  | n + 1 => d_X3_init_26s  (d_X3_init_26  n)
theorem tt_X3_init_26 {Pw : Int32 → ZS → Prop}   {n : Nat} : ∀ {z0 : Nat} {z1 : Int32} {S : ZS}, Tw Pw (d_X3_init_26  n z0 z1 S) (zt S) (zu S) (fun C T => g_X3_init_26 Pw  n z0 z1 S C T) := by
  induction n with
  | zero => intro z0 z1 S; exact tw_none
  | succ n ih => intro z0 z1 S; exact tt_X3_init_26s  (fun _ _ _ => ih)
noncomputable def d_X3_init_0 (x0 : Nat) (S : ZS) : Option (Int32 × ZS) :=
  m_bnd (zt S) (fun q1 =>
  m_bnd (zsNewO S q1 9 1) (fun S2 =>
  m_cal2 (d_X9_init q1 S2) (fun r6 S7 =>
  m_chk (zK S7 x0 = 3) (
  m_bnd (zsP S7 0 x0 (some q1)) (fun S10 =>
  m_chk (¬ (7 : Int32) < 0 ∧ ((7 : Int32)).toNatClampNeg * 4 ≤ 536870912) (
  m_bnd (zt S10) (fun q11 =>
  m_bnd (zsNewA S10 q11 15 ((7 : Int32)).toNatClampNeg) (fun S12 =>
  m_chk (zK S12 x0 = 3) (
  m_bnd (zsP S12 1 x0 (some q11)) (fun S15 =>
  d_X3_init_26 mFuel x0 (0 : Int32) S15))))))))))
theorem tt_X3_init_0 {Pw : Int32 → ZS → Prop}   {x0 : Nat} {S : ZS} : Tw Pw (d_X3_init_0 x0 S) (zt S) (zu S) (fun C T => g_X3_init_0 Pw x0 S C T) := by
  unfold d_X3_init_0 g_X3_init_0
  refine tw_new (fun _ => ⟨congrArg (· + 1) (⟨rfl, rfl⟩ : zt S = zt S ∧ zu S = zu S).1, congrArg (· + _) (⟨rfl, rfl⟩ : zt S = zt S ∧ zu S = zu S).2⟩) (fun q1 S2 cS2 => ?_)
  refine tw_gal (fun Pw9 => tw_at cS2 tt_X9_init) (fun r6 S7 => ?_)
  refine tw_chk (fun _ => ?_)
  refine tw_bnds (⟨rfl, rfl⟩ : zt S7 = zt S7 ∧ zu S7 = zu S7) (fun S10 cS10 => ?_)
  refine tw_chk (fun _ => ?_)
  refine tw_new (fun _ => ⟨congrArg (· + 1) cS10.1, congrArg (· + _) cS10.2⟩) (fun q11 S12 cS12 => ?_)
  refine tw_chk (fun _ => ?_)
  refine tw_bnds cS12 (fun S15 cS15 => ?_)
  exact tw_at cS15 (tt_X3_init_26)
noncomputable def d_X3_init (x0 : Nat) (S : ZS) : Option (Int32 × ZS) := d_X3_init_0 x0 S
theorem tt_X3_init {Pw : Int32 → ZS → Prop} {x0 : Nat} {S : ZS} : Tw Pw (d_X3_init x0 S) (zt S) (zu S) (fun C T => g_X3_init x0 S C T Pw) := tt_X3_init_0
noncomputable def d_X6_putText_2s (self2 : Nat → Nat → Int32 → ZS → Option (Int32 × ZS)) (x0 : Nat) (x1 : Nat) (x2 : Int32) (S : ZS) : Option (Int32 × ZS) :=
  m_chk (x1 < zSn) (
  m_cal (f_J0_length_8abf5 x1 S) (fun o1 => m_chk (zt o1.2 = zt S ∧ zu o1.2 = zu S) (
  m_if (o1.1 ≤ x2) (
  some (0, o1.2)
  ) (
  m_chk (x1 < zSn) (
  m_cal (f_J0_charAt_5068e x1 x2 o1.2) (fun o2 => m_chk (zt o2.2 = zt o1.2 ∧ zu o2.2 = zu o1.2) (
  m_chk (zK o2.2 x0 = 6) (
  m_cal2 (d_X6_put x0 o2.1 o2.2) (fun r4 S5 =>
  m_bnd (x2 + (1 : Int32)) (fun v8 =>
  self2 x0 x1 v8 S5))))))
  ))))
theorem tt_X6_putText_2s {Pw : Int32 → ZS → Prop} {self2 : Nat → Nat → Int32 → ZS → Option (Int32 × ZS)} {self2g : Nat → Nat → Int32 → ZS → Nat → Nat → Prop} (hself2 : ∀ (y0 : Nat) (y1 : Nat) (y2 : Int32) (S : ZS), Tw Pw (self2 y0 y1 y2 S) (zt S) (zu S) (fun C T => self2g y0 y1 y2 S C T)) {x0 : Nat} {x1 : Nat} {x2 : Int32} {S : ZS} : Tw Pw (d_X6_putText_2s self2 x0 x1 x2 S) (zt S) (zu S) (fun C T => g_X6_putText_2s Pw self2g x0 x1 x2 S C T) := by
  unfold d_X6_putText_2s g_X6_putText_2s
  refine tw_chk (fun _ => ?_)
  refine tw_calf (⟨rfl, rfl⟩ : zt S = zt S ∧ zu S = zu S) (fun o1 co1 => ?_)
  refine tw_if (fun _ => ?_) (fun _ => ?_)
  ·
    exact tw_ret co1
  ·
    refine tw_chk (fun _ => ?_)
    refine tw_calf co1 (fun o2 co2 => ?_)
    refine tw_chk (fun _ => ?_)
    refine tw_gal (fun Pw9 => tw_at co2 tt_X6_put) (fun r4 S5 => ?_)
    refine tw_bndv (fun v8 => ?_)
    exact tw_at (⟨rfl, rfl⟩ : zt S5 = zt S5 ∧ zu S5 = zu S5) (hself2 _ _ _ _)
noncomputable def d_X6_putText_2  : Nat → Nat → Nat → Int32 → ZS → Option (Int32 × ZS)
  | 0 => fun _ _ _ _ => none
  | n + 1 => d_X6_putText_2s  (d_X6_putText_2  n)
theorem tt_X6_putText_2 {Pw : Int32 → ZS → Prop}   {n : Nat} : ∀ {z0 : Nat} {z1 : Nat} {z2 : Int32} {S : ZS}, Tw Pw (d_X6_putText_2  n z0 z1 z2 S) (zt S) (zu S) (fun C T => g_X6_putText_2 Pw  n z0 z1 z2 S C T) := by
  induction n with
  | zero => intro z0 z1 z2 S; exact tw_none
  | succ n ih => intro z0 z1 z2 S; exact tt_X6_putText_2s  (fun _ _ _ _ => ih)
end
section
noncomputable def d_X6_putText_0 (x0 : Nat) (x1 : Nat) (S : ZS) : Option (Int32 × ZS) :=
  d_X6_putText_2 mFuel x0 x1 (0 : Int32) S
theorem tt_X6_putText_0 {Pw : Int32 → ZS → Prop}   {x0 : Nat} {x1 : Nat} {S : ZS} : Tw Pw (d_X6_putText_0 x0 x1 S) (zt S) (zu S) (fun C T => g_X6_putText_0 Pw x0 x1 S C T) := by
  unfold d_X6_putText_0 g_X6_putText_0
  exact tw_at (⟨rfl, rfl⟩ : zt S = zt S ∧ zu S = zu S) (tt_X6_putText_2)
noncomputable def d_X6_putText (x0 : Nat) (x1 : Nat) (S : ZS) : Option (Int32 × ZS) := d_X6_putText_0 x0 x1 S
theorem tt_X6_putText {Pw : Int32 → ZS → Prop} {x0 : Nat} {x1 : Nat} {S : ZS} : Tw Pw (d_X6_putText x0 x1 S) (zt S) (zu S) (fun C T => g_X6_putText x0 x1 S C T Pw) := tt_X6_putText_0
noncomputable def d_X3_putQuoted_34 (self2 : Nat → Nat → Int32 → ZS → Option (Int32 × ZS)) (x0 : Nat) (x1 : Nat) (x2 : Int32) (x3 : Int32) (S : ZS) : Option (Int32 × ZS) :=
  m_chk (zK S x1 = 6) (
  m_cal2 (d_X6_put x1 x3 S) (fun r2 S3 =>
  m_bnd (x2 + (1 : Int32)) (fun v6 =>
  self2 x0 x1 v6 S3)))
theorem tt_X3_putQuoted_34 {Pw : Int32 → ZS → Prop} {self2 : Nat → Nat → Int32 → ZS → Option (Int32 × ZS)} {self2g : Nat → Nat → Int32 → ZS → Nat → Nat → Prop} (hself2 : ∀ (y0 : Nat) (y1 : Nat) (y2 : Int32) (S : ZS), Tw Pw (self2 y0 y1 y2 S) (zt S) (zu S) (fun C T => self2g y0 y1 y2 S C T)) {x0 : Nat} {x1 : Nat} {x2 : Int32} {x3 : Int32} {S : ZS} : Tw Pw (d_X3_putQuoted_34 self2 x0 x1 x2 x3 S) (zt S) (zu S) (fun C T => g_X3_putQuoted_34 Pw self2g x0 x1 x2 x3 S C T) := by
  unfold d_X3_putQuoted_34 g_X3_putQuoted_34
  refine tw_chk (fun _ => ?_)
  refine tw_gal (fun Pw9 => tw_at (⟨rfl, rfl⟩ : zt S = zt S ∧ zu S = zu S) tt_X6_put) (fun r2 S3 => ?_)
  refine tw_bndv (fun v6 => ?_)
  exact tw_at (⟨rfl, rfl⟩ : zt S3 = zt S3 ∧ zu S3 = zu S3) (hself2 _ _ _ _)
noncomputable def d_X3_putQuoted_28 (self2 : Nat → Nat → Int32 → ZS → Option (Int32 × ZS)) (x0 : Nat) (x1 : Nat) (x2 : Int32) (x3 : Int32) (S : ZS) : Option (Int32 × ZS) :=
  m_chk (zK S x1 = 6) (
  m_cal2 (d_X6_put x1 (92 : Int32) S) (fun r2 S3 =>
  d_X3_putQuoted_34 self2 x0 x1 x2 x3 S3))
theorem tt_X3_putQuoted_28 {Pw : Int32 → ZS → Prop} {self2 : Nat → Nat → Int32 → ZS → Option (Int32 × ZS)} {self2g : Nat → Nat → Int32 → ZS → Nat → Nat → Prop} (hself2 : ∀ (y0 : Nat) (y1 : Nat) (y2 : Int32) (S : ZS), Tw Pw (self2 y0 y1 y2 S) (zt S) (zu S) (fun C T => self2g y0 y1 y2 S C T)) {x0 : Nat} {x1 : Nat} {x2 : Int32} {x3 : Int32} {S : ZS} : Tw Pw (d_X3_putQuoted_28 self2 x0 x1 x2 x3 S) (zt S) (zu S) (fun C T => g_X3_putQuoted_28 Pw self2g x0 x1 x2 x3 S C T) := by
  unfold d_X3_putQuoted_28 g_X3_putQuoted_28
  refine tw_chk (fun _ => ?_)
  refine tw_gal (fun Pw9 => tw_at (⟨rfl, rfl⟩ : zt S = zt S ∧ zu S = zu S) tt_X6_put) (fun r2 S3 => ?_)
  exact tw_at (⟨rfl, rfl⟩ : zt S3 = zt S3 ∧ zu S3 = zu S3) (tt_X3_putQuoted_34 hself2)
noncomputable def d_X3_putQuoted_2s (self2 : Nat → Nat → Int32 → ZS → Option (Int32 × ZS)) (x0 : Nat) (x1 : Nat) (x2 : Int32) (S : ZS) : Option (Int32 × ZS) :=
  m_chk (zK S x0 = 6) (
  m_cal (f_X6_size x0 S) (fun o1 => m_chk (zt o1.2 = zt S ∧ zu o1.2 = zu S) (
  m_if (o1.1 ≤ x2) (
  some (0, o1.2)
  ) (
  m_chk (zK o1.2 x0 = 6) (
  m_cal (f_X6_at x0 x2 o1.2) (fun o2 => m_chk (zt o2.2 = zt o1.2 ∧ zu o2.2 = zu o1.2) (
  m_if (o2.1 = (34 : Int32)) (
  d_X3_putQuoted_28 self2 x0 x1 x2 o2.1 o2.2
  ) (
  m_if (o2.1 = (92 : Int32)) (
  d_X3_putQuoted_28 self2 x0 x1 x2 o2.1 o2.2
  ) (
  d_X3_putQuoted_34 self2 x0 x1 x2 o2.1 o2.2
  )
  ))))
  ))))
theorem tt_X3_putQuoted_2s {Pw : Int32 → ZS → Prop} {self2 : Nat → Nat → Int32 → ZS → Option (Int32 × ZS)} {self2g : Nat → Nat → Int32 → ZS → Nat → Nat → Prop} (hself2 : ∀ (y0 : Nat) (y1 : Nat) (y2 : Int32) (S : ZS), Tw Pw (self2 y0 y1 y2 S) (zt S) (zu S) (fun C T => self2g y0 y1 y2 S C T)) {x0 : Nat} {x1 : Nat} {x2 : Int32} {S : ZS} : Tw Pw (d_X3_putQuoted_2s self2 x0 x1 x2 S) (zt S) (zu S) (fun C T => g_X3_putQuoted_2s Pw self2g x0 x1 x2 S C T) := by
  unfold d_X3_putQuoted_2s g_X3_putQuoted_2s
  refine tw_chk (fun _ => ?_)
  refine tw_calf (⟨rfl, rfl⟩ : zt S = zt S ∧ zu S = zu S) (fun o1 co1 => ?_)
  refine tw_if (fun _ => ?_) (fun _ => ?_)
  ·
    exact tw_ret co1
  ·
    refine tw_chk (fun _ => ?_)
    refine tw_calf co1 (fun o2 co2 => ?_)
    refine tw_if (fun _ => ?_) (fun _ => ?_)
    ·
      exact tw_at co2 (tt_X3_putQuoted_28 hself2)
    ·
      refine tw_if (fun _ => ?_) (fun _ => ?_)
      ·
        exact tw_at co2 (tt_X3_putQuoted_28 hself2)
      ·
        exact tw_at co2 (tt_X3_putQuoted_34 hself2)
noncomputable def d_X3_putQuoted_2  : Nat → Nat → Nat → Int32 → ZS → Option (Int32 × ZS)
  | 0 => fun _ _ _ _ => none
  | n + 1 => d_X3_putQuoted_2s  (d_X3_putQuoted_2  n)
theorem tt_X3_putQuoted_2 {Pw : Int32 → ZS → Prop}   {n : Nat} : ∀ {z0 : Nat} {z1 : Nat} {z2 : Int32} {S : ZS}, Tw Pw (d_X3_putQuoted_2  n z0 z1 z2 S) (zt S) (zu S) (fun C T => g_X3_putQuoted_2 Pw  n z0 z1 z2 S C T) := by
  induction n with
  | zero => intro z0 z1 z2 S; exact tw_none
  | succ n ih => intro z0 z1 z2 S; exact tt_X3_putQuoted_2s  (fun _ _ _ _ => ih)
noncomputable def d_X3_putQuoted_0 (x0 : Nat) (x1 : Nat) (S : ZS) : Option (Int32 × ZS) :=
  d_X3_putQuoted_2 mFuel x0 x1 (0 : Int32) S
theorem tt_X3_putQuoted_0 {Pw : Int32 → ZS → Prop}   {x0 : Nat} {x1 : Nat} {S : ZS} : Tw Pw (d_X3_putQuoted_0 x0 x1 S) (zt S) (zu S) (fun C T => g_X3_putQuoted_0 Pw x0 x1 S C T) := by
  unfold d_X3_putQuoted_0 g_X3_putQuoted_0
  exact tw_at (⟨rfl, rfl⟩ : zt S = zt S ∧ zu S = zu S) (tt_X3_putQuoted_2)
noncomputable def d_X3_putQuoted (x0 : Nat) (x1 : Nat) (S : ZS) : Option (Int32 × ZS) := d_X3_putQuoted_0 x0 x1 S
theorem tt_X3_putQuoted {Pw : Int32 → ZS → Prop} {x0 : Nat} {x1 : Nat} {S : ZS} : Tw Pw (d_X3_putQuoted x0 x1 S) (zt S) (zu S) (fun C T => g_X3_putQuoted x0 x1 S C T Pw) := tt_X3_putQuoted_0
noncomputable def d_X3_putGap_33 (S : ZS) : Option (Int32 × ZS) :=
  some (0, S)
theorem tt_X3_putGap_33 {Pw : Int32 → ZS → Prop}   {S : ZS} : Tw Pw (d_X3_putGap_33 S) (zt S) (zu S) (fun C T => g_X3_putGap_33 Pw S C T) := by
  unfold d_X3_putGap_33 g_X3_putGap_33
  exact tw_ret (⟨rfl, rfl⟩ : zt S = zt S ∧ zu S = zu S)
noncomputable def d_X3_putGap_0 (x0 : Nat) (S : ZS) : Option (Int32 × ZS) :=
  m_chk (zK S x0 = 6) (
  m_cal (f_X6_size x0 S) (fun o1 => m_chk (zt o1.2 = zt S ∧ zu o1.2 = zu S) (
  m_bnd (o1.1 - (1 : Int32)) (fun v2 =>
  m_chk (zK o1.2 x0 = 6) (
  m_cal (f_X6_at x0 v2 o1.2) (fun o3 => m_chk (zt o3.2 = zt o1.2 ∧ zu o3.2 = zu o1.2) (
  m_if (o3.1 = 0) (
  d_X3_putGap_33 o3.2
  ) (
  m_if (o3.1 = (10 : Int32)) (
  d_X3_putGap_33 o3.2
  ) (
  m_if (o3.1 = (40 : Int32)) (
  d_X3_putGap_33 o3.2
  ) (
  m_chk (zK o3.2 x0 = 6) (
  m_cal2 (d_X6_put x0 (32 : Int32) o3.2) (fun r5 S6 =>
  d_X3_putGap_33 S6))
  )
  )
  ))))))))
theorem tt_X3_putGap_0 {Pw : Int32 → ZS → Prop}   {x0 : Nat} {S : ZS} : Tw Pw (d_X3_putGap_0 x0 S) (zt S) (zu S) (fun C T => g_X3_putGap_0 Pw x0 S C T) := by
  unfold d_X3_putGap_0 g_X3_putGap_0
  refine tw_chk (fun _ => ?_)
  refine tw_calf (⟨rfl, rfl⟩ : zt S = zt S ∧ zu S = zu S) (fun o1 co1 => ?_)
  refine tw_bndv (fun v2 => ?_)
  refine tw_chk (fun _ => ?_)
  refine tw_calf co1 (fun o3 co3 => ?_)
  refine tw_if (fun _ => ?_) (fun _ => ?_)
  ·
    exact tw_at co3 (tt_X3_putGap_33)
  ·
    refine tw_if (fun _ => ?_) (fun _ => ?_)
    ·
      exact tw_at co3 (tt_X3_putGap_33)
    ·
      refine tw_if (fun _ => ?_) (fun _ => ?_)
      ·
        exact tw_at co3 (tt_X3_putGap_33)
      ·
        refine tw_chk (fun _ => ?_)
        refine tw_gal (fun Pw9 => tw_at co3 tt_X6_put) (fun r5 S6 => ?_)
        exact tw_at (⟨rfl, rfl⟩ : zt S6 = zt S6 ∧ zu S6 = zu S6) (tt_X3_putGap_33)
noncomputable def d_X3_putGap (x0 : Nat) (S : ZS) : Option (Int32 × ZS) := d_X3_putGap_0 x0 S
theorem tt_X3_putGap {Pw : Int32 → ZS → Prop} {x0 : Nat} {S : ZS} : Tw Pw (d_X3_putGap x0 S) (zt S) (zu S) (fun C T => g_X3_putGap x0 S C T Pw) := tt_X3_putGap_0
noncomputable def d_X3_putRemark_0 (x0 : Nat) (x1 : Nat) (S : ZS) : Option (Int32 × ZS) :=
  m_chk (zK S x0 = 4) (
  m_cal (zP S 6 x0) (fun b1 =>
  m_chk (zK S b1 = 6) (
  m_cal (f_X6_size b1 S) (fun o2 => m_chk (zt o2.2 = zt S ∧ zu o2.2 = zu S) (
  m_if (o2.1 = 0) (
  some (0, o2.2)
  ) (
  m_cal2 (d_X3_putGap x1 o2.2) (fun r4 S5 =>
  m_chk (zK S5 x1 = 6) (
  m_cal2 (d_X6_put x1 (123 : Int32) S5) (fun r9 S10 =>
  m_chk (zK S10 x0 = 4) (
  m_cal (zP S10 6 x0) (fun b13 =>
  m_chk (zK S10 x1 = 6) (
  m_cal2 (d_X6_putAll x1 b13 S10) (fun r15 S16 =>
  m_chk (zK S16 x1 = 6) (
  m_cal2 (d_X6_put x1 (125 : Int32) S16) (fun r20 S21 =>
  some (0, S21))))))))))
  ))))))
theorem tt_X3_putRemark_0 {Pw : Int32 → ZS → Prop}   {x0 : Nat} {x1 : Nat} {S : ZS} : Tw Pw (d_X3_putRemark_0 x0 x1 S) (zt S) (zu S) (fun C T => g_X3_putRemark_0 Pw x0 x1 S C T) := by
  unfold d_X3_putRemark_0 g_X3_putRemark_0
  refine tw_chk (fun _ => ?_)
  refine tw_calv (fun b1 => ?_)
  refine tw_chk (fun _ => ?_)
  refine tw_calf (⟨rfl, rfl⟩ : zt S = zt S ∧ zu S = zu S) (fun o2 co2 => ?_)
  refine tw_if (fun _ => ?_) (fun _ => ?_)
  ·
    exact tw_ret co2
  ·
    refine tw_gal (fun Pw9 => tw_at co2 tt_X3_putGap) (fun r4 S5 => ?_)
    refine tw_chk (fun _ => ?_)
    refine tw_gal (fun Pw9 => tw_at (⟨rfl, rfl⟩ : zt S5 = zt S5 ∧ zu S5 = zu S5) tt_X6_put) (fun r9 S10 => ?_)
    refine tw_chk (fun _ => ?_)
    refine tw_calv (fun b13 => ?_)
    refine tw_chk (fun _ => ?_)
    refine tw_gal (fun Pw9 => tw_at (⟨rfl, rfl⟩ : zt S10 = zt S10 ∧ zu S10 = zu S10) tt_X6_putAll) (fun r15 S16 => ?_)
    refine tw_chk (fun _ => ?_)
    refine tw_gal (fun Pw9 => tw_at (⟨rfl, rfl⟩ : zt S16 = zt S16 ∧ zu S16 = zu S16) tt_X6_put) (fun r20 S21 => ?_)
    exact tw_ret (⟨rfl, rfl⟩ : zt S21 = zt S21 ∧ zu S21 = zu S21)
noncomputable def d_X3_putRemark (x0 : Nat) (x1 : Nat) (S : ZS) : Option (Int32 × ZS) := d_X3_putRemark_0 x0 x1 S
theorem tt_X3_putRemark {Pw : Int32 → ZS → Prop} {x0 : Nat} {x1 : Nat} {S : ZS} : Tw Pw (d_X3_putRemark x0 x1 S) (zt S) (zu S) (fun C T => g_X3_putRemark x0 x1 S C T Pw) := tt_X3_putRemark_0
noncomputable def d_X3_putHead_72 (x0 : Nat) (x1 : Nat) (x2 : Nat) (S : ZS) : Option (Int32 × ZS) :=
  m_chk (zK S x1 = 1) (
  m_cal (f_X1_at x1 (0 : Int32) S) (fun o1 => m_chk (zt o1.2 = zt S ∧ zu o1.2 = zu S) (
  m_cal2 (d_X3_putRemark o1.1 x2 o1.2) (fun r3 S4 =>
  m_chk (zK S4 x0 = 3) (
  m_cal (zP S4 1 x0) (fun b7 =>
  m_chk (zK S4 b7 = 15) (
  m_chk (¬ ((0 : Int32) < 0 ∨ zN S4 b7 ≤ ((0 : Int32)).toNatClampNeg)) (
  m_cal (zB S4 b7 ((0 : Int32)).toNatClampNeg) (fun b8 =>
  m_chk (zK S4 x1 = 1) (
  m_cal (zP S4 0 x1) (fun b9 =>
  m_chk (zK S4 b8 = 0) (
  m_cal (f_X0_copyFrom b8 b9 S4) (fun o10 => m_chk (zt o10.2 = zt S4 ∧ zu o10.2 = zu S4) (
  some (0, o10.2)))))))))))))))
theorem tt_X3_putHead_72 {Pw : Int32 → ZS → Prop}   {x0 : Nat} {x1 : Nat} {x2 : Nat} {S : ZS} : Tw Pw (d_X3_putHead_72 x0 x1 x2 S) (zt S) (zu S) (fun C T => g_X3_putHead_72 Pw x0 x1 x2 S C T) := by
  unfold d_X3_putHead_72 g_X3_putHead_72
  refine tw_chk (fun _ => ?_)
  refine tw_calf (⟨rfl, rfl⟩ : zt S = zt S ∧ zu S = zu S) (fun o1 co1 => ?_)
  refine tw_gal (fun Pw9 => tw_at co1 tt_X3_putRemark) (fun r3 S4 => ?_)
  refine tw_chk (fun _ => ?_)
  refine tw_calv (fun b7 => ?_)
  refine tw_chk (fun _ => ?_)
  refine tw_chk (fun _ => ?_)
  refine tw_calv (fun b8 => ?_)
  refine tw_chk (fun _ => ?_)
  refine tw_calv (fun b9 => ?_)
  refine tw_chk (fun _ => ?_)
  refine tw_calf (⟨rfl, rfl⟩ : zt S4 = zt S4 ∧ zu S4 = zu S4) (fun o10 co10 => ?_)
  exact tw_ret co10
noncomputable def d_X3_putHead_2s (self2 : Nat → Nat → Nat → Int32 → ZS → Option (Int32 × ZS)) (x0 : Nat) (x1 : Nat) (x2 : Nat) (x3 : Int32) (S : ZS) : Option (Int32 × ZS) :=
  m_chk (zK S x1 = 1) (
  m_if ((zI S 5 x1) ≤ x3) (
  m_chk (zK S x1 = 1) (
  m_if ((zI S 5 x1) ≤ 0) (
  d_X3_putHead_72 x0 x1 x2 S
  ) (
  m_chk (zK S x2 = 6) (
  m_cal2 (d_X6_put x2 (10 : Int32) S) (fun r2 S3 =>
  d_X3_putHead_72 x0 x1 x2 S3))
  ))
  ) (
  m_chk (zK S x1 = 1) (
  m_cal2 (d_X1_tagAt x1 x3 S) (fun r7 S8 =>
  m_chk (zK S8 x2 = 6) (
  m_cal2 (d_X6_put x2 (91 : Int32) S8) (fun r12 S13 =>
  m_chk (zK S13 r7 = 10) (
  m_cal (zP S13 0 r7) (fun b16 =>
  m_chk (zK S13 x2 = 6) (
  m_cal2 (d_X6_putAll x2 b16 S13) (fun r18 S19 =>
  m_chk (zK S19 x2 = 6) (
  m_cal2 (d_X6_putText x2 11 S19) (fun r23 S24 =>
  m_chk (zK S24 r7 = 10) (
  m_cal (zP S24 1 r7) (fun b27 =>
  m_cal2 (d_X3_putQuoted b27 x2 S24) (fun r29 S30 =>
  m_chk (zK S30 x2 = 6) (
  m_cal2 (d_X6_putText x2 12 S30) (fun r34 S35 =>
  m_bnd (x3 + (1 : Int32)) (fun v38 =>
  self2 x0 x1 x2 v38 S35))))))))))))))))
  ))
theorem tt_X3_putHead_2s {Pw : Int32 → ZS → Prop} {self2 : Nat → Nat → Nat → Int32 → ZS → Option (Int32 × ZS)} {self2g : Nat → Nat → Nat → Int32 → ZS → Nat → Nat → Prop} (hself2 : ∀ (y0 : Nat) (y1 : Nat) (y2 : Nat) (y3 : Int32) (S : ZS), Tw Pw (self2 y0 y1 y2 y3 S) (zt S) (zu S) (fun C T => self2g y0 y1 y2 y3 S C T)) {x0 : Nat} {x1 : Nat} {x2 : Nat} {x3 : Int32} {S : ZS} : Tw Pw (d_X3_putHead_2s self2 x0 x1 x2 x3 S) (zt S) (zu S) (fun C T => g_X3_putHead_2s Pw self2g x0 x1 x2 x3 S C T) := by
  unfold d_X3_putHead_2s g_X3_putHead_2s
  refine tw_chk (fun _ => ?_)
  refine tw_if (fun _ => ?_) (fun _ => ?_)
  ·
    refine tw_chk (fun _ => ?_)
    refine tw_if (fun _ => ?_) (fun _ => ?_)
    ·
      exact tw_at (⟨rfl, rfl⟩ : zt S = zt S ∧ zu S = zu S) (tt_X3_putHead_72)
    ·
      refine tw_chk (fun _ => ?_)
      refine tw_gal (fun Pw9 => tw_at (⟨rfl, rfl⟩ : zt S = zt S ∧ zu S = zu S) tt_X6_put) (fun r2 S3 => ?_)
      exact tw_at (⟨rfl, rfl⟩ : zt S3 = zt S3 ∧ zu S3 = zu S3) (tt_X3_putHead_72)
  ·
    refine tw_chk (fun _ => ?_)
    refine tw_galN (fun Pw9 => tw_at (⟨rfl, rfl⟩ : zt S = zt S ∧ zu S = zu S) tt_X1_tagAt) (fun r7 S8 => ?_)
    refine tw_chk (fun _ => ?_)
    refine tw_gal (fun Pw9 => tw_at (⟨rfl, rfl⟩ : zt S8 = zt S8 ∧ zu S8 = zu S8) tt_X6_put) (fun r12 S13 => ?_)
    refine tw_chk (fun _ => ?_)
    refine tw_calv (fun b16 => ?_)
    refine tw_chk (fun _ => ?_)
    refine tw_gal (fun Pw9 => tw_at (⟨rfl, rfl⟩ : zt S13 = zt S13 ∧ zu S13 = zu S13) tt_X6_putAll) (fun r18 S19 => ?_)
    refine tw_chk (fun _ => ?_)
    refine tw_gal (fun Pw9 => tw_at (⟨rfl, rfl⟩ : zt S19 = zt S19 ∧ zu S19 = zu S19) tt_X6_putText) (fun r23 S24 => ?_)
    refine tw_chk (fun _ => ?_)
    refine tw_calv (fun b27 => ?_)
    refine tw_gal (fun Pw9 => tw_at (⟨rfl, rfl⟩ : zt S24 = zt S24 ∧ zu S24 = zu S24) tt_X3_putQuoted) (fun r29 S30 => ?_)
    refine tw_chk (fun _ => ?_)
    refine tw_gal (fun Pw9 => tw_at (⟨rfl, rfl⟩ : zt S30 = zt S30 ∧ zu S30 = zu S30) tt_X6_putText) (fun r34 S35 => ?_)
    refine tw_bndv (fun v38 => ?_)
    exact tw_at (⟨rfl, rfl⟩ : zt S35 = zt S35 ∧ zu S35 = zu S35) (hself2 _ _ _ _ _)
noncomputable def d_X3_putHead_2  : Nat → Nat → Nat → Nat → Int32 → ZS → Option (Int32 × ZS)
  | 0 => fun _ _ _ _ _ => none
  | n + 1 => d_X3_putHead_2s  (d_X3_putHead_2  n)
theorem tt_X3_putHead_2 {Pw : Int32 → ZS → Prop}   {n : Nat} : ∀ {z0 : Nat} {z1 : Nat} {z2 : Nat} {z3 : Int32} {S : ZS}, Tw Pw (d_X3_putHead_2  n z0 z1 z2 z3 S) (zt S) (zu S) (fun C T => g_X3_putHead_2 Pw  n z0 z1 z2 z3 S C T) := by
  induction n with
  | zero => intro z0 z1 z2 z3 S; exact tw_none
  | succ n ih => intro z0 z1 z2 z3 S; exact tt_X3_putHead_2s  (fun _ _ _ _ _ => ih)
noncomputable def d_X3_putHead_0 (x0 : Nat) (x1 : Nat) (x2 : Nat) (S : ZS) : Option (Int32 × ZS) :=
  d_X3_putHead_2 mFuel x0 x1 x2 (0 : Int32) S
theorem tt_X3_putHead_0 {Pw : Int32 → ZS → Prop}   {x0 : Nat} {x1 : Nat} {x2 : Nat} {S : ZS} : Tw Pw (d_X3_putHead_0 x0 x1 x2 S) (zt S) (zu S) (fun C T => g_X3_putHead_0 Pw x0 x1 x2 S C T) := by
  unfold d_X3_putHead_0 g_X3_putHead_0
  exact tw_at (⟨rfl, rfl⟩ : zt S = zt S ∧ zu S = zu S) (tt_X3_putHead_2)
noncomputable def d_X3_putHead (x0 : Nat) (x1 : Nat) (x2 : Nat) (S : ZS) : Option (Int32 × ZS) := d_X3_putHead_0 x0 x1 x2 S
theorem tt_X3_putHead {Pw : Int32 → ZS → Prop} {x0 : Nat} {x1 : Nat} {x2 : Nat} {S : ZS} : Tw Pw (d_X3_putHead x0 x1 x2 S) (zt S) (zu S) (fun C T => g_X3_putHead x0 x1 x2 S C T Pw) := tt_X3_putHead_0
noncomputable def d_X3_putEnd_0 (x1 : Nat) (x2 : Nat) (S : ZS) : Option (Int32 × ZS) :=
  m_cal2 (d_X3_putGap x2 S) (fun r2 S3 =>
  m_chk (zK S3 x1 = 1) (
  m_cal (f_X11_resultSign (zI S3 6 x1) S3) (fun o6 => m_chk (zt o6.2 = zt S3 ∧ zu o6.2 = zu S3) (
  m_chk (zK o6.2 x2 = 6) (
  m_cal2 (d_X6_putText x2 o6.1 o6.2) (fun r8 S9 =>
  some (0, S9)))))))
theorem tt_X3_putEnd_0 {Pw : Int32 → ZS → Prop}   {x1 : Nat} {x2 : Nat} {S : ZS} : Tw Pw (d_X3_putEnd_0 x1 x2 S) (zt S) (zu S) (fun C T => g_X3_putEnd_0 Pw x1 x2 S C T) := by
  unfold d_X3_putEnd_0 g_X3_putEnd_0
  refine tw_gal (fun Pw9 => tw_at (⟨rfl, rfl⟩ : zt S = zt S ∧ zu S = zu S) tt_X3_putGap) (fun r2 S3 => ?_)
  refine tw_chk (fun _ => ?_)
  refine tw_calf (⟨rfl, rfl⟩ : zt S3 = zt S3 ∧ zu S3 = zu S3) (fun o6 co6 => ?_)
  refine tw_chk (fun _ => ?_)
  refine tw_gal (fun Pw9 => tw_at co6 tt_X6_putText) (fun r8 S9 => ?_)
  exact tw_ret (⟨rfl, rfl⟩ : zt S9 = zt S9 ∧ zu S9 = zu S9)
noncomputable def d_X3_putEnd (x0 : Nat) (x1 : Nat) (x2 : Nat) (S : ZS) : Option (Int32 × ZS) := d_X3_putEnd_0 x1 x2 S
theorem tt_X3_putEnd {Pw : Int32 → ZS → Prop} {x0 : Nat} {x1 : Nat} {x2 : Nat} {S : ZS} : Tw Pw (d_X3_putEnd x0 x1 x2 S) (zt S) (zu S) (fun C T => g_X3_putEnd x0 x1 x2 S C T Pw) := tt_X3_putEnd_0
noncomputable def d_X6_putNumber_29s (self29 : Nat → Int32 → Int32 → ZS → Option (Int32 × ZS)) (x0 : Nat) (x1 : Int32) (x2 : Int32) (S : ZS) : Option (Int32 × ZS) :=
  m_if (x2 ≤ 0) (
  some (0, S)
  ) (
  m_chk (¬ x2 = 0) (
  m_bnd (x1 / x2) (fun v1 =>
  m_bnd (v1 - v1 / (10 : Int32) * (10 : Int32)) (fun v2 =>
  m_bnd ((48 : Int32) + v2) (fun v3 =>
  m_bnd ((v3.toUInt32 % 65536).toInt32) (fun v4 =>
  m_chk (zK S x0 = 6) (
  m_cal2 (d_X6_put x0 v4 S) (fun r6 S7 =>
  m_bnd (x2 / (10 : Int32)) (fun v10 =>
  self29 x0 x1 v10 S7))))))))
  )
theorem tt_X6_putNumber_29s {Pw : Int32 → ZS → Prop} {self29 : Nat → Int32 → Int32 → ZS → Option (Int32 × ZS)} {self29g : Nat → Int32 → Int32 → ZS → Nat → Nat → Prop} (hself29 : ∀ (y0 : Nat) (y1 : Int32) (y2 : Int32) (S : ZS), Tw Pw (self29 y0 y1 y2 S) (zt S) (zu S) (fun C T => self29g y0 y1 y2 S C T)) {x0 : Nat} {x1 : Int32} {x2 : Int32} {S : ZS} : Tw Pw (d_X6_putNumber_29s self29 x0 x1 x2 S) (zt S) (zu S) (fun C T => g_X6_putNumber_29s Pw self29g x0 x1 x2 S C T) := by
  unfold d_X6_putNumber_29s g_X6_putNumber_29s
  refine tw_if (fun _ => ?_) (fun _ => ?_)
  ·
    exact tw_ret (⟨rfl, rfl⟩ : zt S = zt S ∧ zu S = zu S)
  ·
    refine tw_chk (fun _ => ?_)
    refine tw_bndv (fun v1 => ?_)
    refine tw_bndv (fun v2 => ?_)
    refine tw_bndv (fun v3 => ?_)
    refine tw_bndv (fun v4 => ?_)
    refine tw_chk (fun _ => ?_)
    refine tw_gal (fun Pw9 => tw_at (⟨rfl, rfl⟩ : zt S = zt S ∧ zu S = zu S) tt_X6_put) (fun r6 S7 => ?_)
    refine tw_bndv (fun v10 => ?_)
    exact tw_at (⟨rfl, rfl⟩ : zt S7 = zt S7 ∧ zu S7 = zu S7) (hself29 _ _ _ _)
noncomputable def d_X6_putNumber_29  : Nat → Nat → Int32 → Int32 → ZS → Option (Int32 × ZS)
  | 0 => fun _ _ _ _ => none
  | n + 1 => d_X6_putNumber_29s  (d_X6_putNumber_29  n)
theorem tt_X6_putNumber_29 {Pw : Int32 → ZS → Prop}   {n : Nat} : ∀ {z0 : Nat} {z1 : Int32} {z2 : Int32} {S : ZS}, Tw Pw (d_X6_putNumber_29  n z0 z1 z2 S) (zt S) (zu S) (fun C T => g_X6_putNumber_29 Pw  n z0 z1 z2 S C T) := by
  induction n with
  | zero => intro z0 z1 z2 S; exact tw_none
  | succ n ih => intro z0 z1 z2 S; exact tt_X6_putNumber_29s  (fun _ _ _ _ => ih)
noncomputable def d_X6_putNumber_4s (self4 : Nat → Int32 → Int32 → Int32 → ZS → Option (Int32 × ZS)) (x0 : Nat) (x1 : Int32) (x2 : Int32) (x3 : Int32) (S : ZS) : Option (Int32 × ZS) :=
  m_if ((9 : Int32) ≤ x3) (
  d_X6_putNumber_29 mFuel x0 x1 x2 S
  ) (
  m_chk (¬ x2 = 0) (
  m_bnd (x1 / x2) (fun v1 =>
  m_if (v1 < (10 : Int32)) (
  d_X6_putNumber_29 mFuel x0 x1 x2 S
  ) (
  m_bnd (x2 * (10 : Int32)) (fun v2 =>
  m_bnd (x3 + (1 : Int32)) (fun v3 =>
  self4 x0 x1 v2 v3 S))
  )))
  )
theorem tt_X6_putNumber_4s {Pw : Int32 → ZS → Prop} {self4 : Nat → Int32 → Int32 → Int32 → ZS → Option (Int32 × ZS)} {self4g : Nat → Int32 → Int32 → Int32 → ZS → Nat → Nat → Prop} (hself4 : ∀ (y0 : Nat) (y1 : Int32) (y2 : Int32) (y3 : Int32) (S : ZS), Tw Pw (self4 y0 y1 y2 y3 S) (zt S) (zu S) (fun C T => self4g y0 y1 y2 y3 S C T)) {x0 : Nat} {x1 : Int32} {x2 : Int32} {x3 : Int32} {S : ZS} : Tw Pw (d_X6_putNumber_4s self4 x0 x1 x2 x3 S) (zt S) (zu S) (fun C T => g_X6_putNumber_4s Pw self4g x0 x1 x2 x3 S C T) := by
  unfold d_X6_putNumber_4s g_X6_putNumber_4s
  refine tw_if (fun _ => ?_) (fun _ => ?_)
  ·
    exact tw_at (⟨rfl, rfl⟩ : zt S = zt S ∧ zu S = zu S) (tt_X6_putNumber_29)
  ·
    refine tw_chk (fun _ => ?_)
    refine tw_bndv (fun v1 => ?_)
    refine tw_if (fun _ => ?_) (fun _ => ?_)
    ·
      exact tw_at (⟨rfl, rfl⟩ : zt S = zt S ∧ zu S = zu S) (tt_X6_putNumber_29)
    ·
      refine tw_bndv (fun v2 => ?_)
      refine tw_bndv (fun v3 => ?_)
      exact tw_at (⟨rfl, rfl⟩ : zt S = zt S ∧ zu S = zu S) (hself4 _ _ _ _ _)
noncomputable def d_X6_putNumber_4  : Nat → Nat → Int32 → Int32 → Int32 → ZS → Option (Int32 × ZS)
  | 0 => fun _ _ _ _ _ => none
  | n + 1 => d_X6_putNumber_4s  (d_X6_putNumber_4  n)
theorem tt_X6_putNumber_4 {Pw : Int32 → ZS → Prop}   {n : Nat} : ∀ {z0 : Nat} {z1 : Int32} {z2 : Int32} {z3 : Int32} {S : ZS}, Tw Pw (d_X6_putNumber_4  n z0 z1 z2 z3 S) (zt S) (zu S) (fun C T => g_X6_putNumber_4 Pw  n z0 z1 z2 z3 S C T) := by
  induction n with
  | zero => intro z0 z1 z2 z3 S; exact tw_none
  | succ n ih => intro z0 z1 z2 z3 S; exact tt_X6_putNumber_4s  (fun _ _ _ _ _ => ih)
noncomputable def d_X6_putNumber_0 (x0 : Nat) (x1 : Int32) (S : ZS) : Option (Int32 × ZS) :=
  d_X6_putNumber_4 mFuel x0 x1 (1 : Int32) (0 : Int32) S
theorem tt_X6_putNumber_0 {Pw : Int32 → ZS → Prop}   {x0 : Nat} {x1 : Int32} {S : ZS} : Tw Pw (d_X6_putNumber_0 x0 x1 S) (zt S) (zu S) (fun C T => g_X6_putNumber_0 Pw x0 x1 S C T) := by
  unfold d_X6_putNumber_0 g_X6_putNumber_0
  exact tw_at (⟨rfl, rfl⟩ : zt S = zt S ∧ zu S = zu S) (tt_X6_putNumber_4)
noncomputable def d_X6_putNumber (x0 : Nat) (x1 : Int32) (S : ZS) : Option (Int32 × ZS) := d_X6_putNumber_0 x0 x1 S
theorem tt_X6_putNumber {Pw : Int32 → ZS → Prop} {x0 : Nat} {x1 : Int32} {S : ZS} : Tw Pw (d_X6_putNumber x0 x1 S) (zt S) (zu S) (fun C T => g_X6_putNumber x0 x1 S C T Pw) := tt_X6_putNumber_0
noncomputable def d_X9_putApart_162 (S : ZS) : Option (Int32 × ZS) :=
  some (0, S)
theorem tt_X9_putApart_162 {Pw : Int32 → ZS → Prop}   {S : ZS} : Tw Pw (d_X9_putApart_162 S) (zt S) (zu S) (fun C T => g_X9_putApart_162 Pw S C T) := by
  unfold d_X9_putApart_162 g_X9_putApart_162
  exact tw_ret (⟨rfl, rfl⟩ : zt S = zt S ∧ zu S = zu S)
noncomputable def d_X9_putApart_148 (x2 : Int32) (x4 : Nat) (x6 : Int32) (S : ZS) : Option (Int32 × ZS) :=
  m_if (x6 = 0) (
  d_X9_putApart_162 S
  ) (
  m_cal (f_X11_rankDigit x2 S) (fun o1 => m_chk (zt o1.2 = zt S ∧ zu o1.2 = zu S) (
  m_chk (zK o1.2 x4 = 6) (
  m_cal2 (d_X6_put x4 o1.1 o1.2) (fun r3 S4 =>
  d_X9_putApart_162 S4))))
  )
theorem tt_X9_putApart_148 {Pw : Int32 → ZS → Prop}   {x2 : Int32} {x4 : Nat} {x6 : Int32} {S : ZS} : Tw Pw (d_X9_putApart_148 x2 x4 x6 S) (zt S) (zu S) (fun C T => g_X9_putApart_148 Pw x2 x4 x6 S C T) := by
  unfold d_X9_putApart_148 g_X9_putApart_148
  refine tw_if (fun _ => ?_) (fun _ => ?_)
  ·
    exact tw_at (⟨rfl, rfl⟩ : zt S = zt S ∧ zu S = zu S) (tt_X9_putApart_162)
  ·
    refine tw_calf (⟨rfl, rfl⟩ : zt S = zt S ∧ zu S = zu S) (fun o1 co1 => ?_)
    refine tw_chk (fun _ => ?_)
    refine tw_gal (fun Pw9 => tw_at co1 tt_X6_put) (fun r3 S4 => ?_)
    exact tw_at (⟨rfl, rfl⟩ : zt S4 = zt S4 ∧ zu S4 = zu S4) (tt_X9_putApart_162)
noncomputable def d_X9_putApart_139 (x2 : Int32) (x4 : Nat) (x6 : Int32) (S : ZS) : Option (Int32 × ZS) :=
  m_cal (f_X11_fileLetter x2 S) (fun o1 => m_chk (zt o1.2 = zt S ∧ zu o1.2 = zu S) (
  m_chk (zK o1.2 x4 = 6) (
  m_cal2 (d_X6_put x4 o1.1 o1.2) (fun r3 S4 =>
  d_X9_putApart_148 x2 x4 x6 S4))))
theorem tt_X9_putApart_139 {Pw : Int32 → ZS → Prop}   {x2 : Int32} {x4 : Nat} {x6 : Int32} {S : ZS} : Tw Pw (d_X9_putApart_139 x2 x4 x6 S) (zt S) (zu S) (fun C T => g_X9_putApart_139 Pw x2 x4 x6 S C T) := by
  unfold d_X9_putApart_139 g_X9_putApart_139
  refine tw_calf (⟨rfl, rfl⟩ : zt S = zt S ∧ zu S = zu S) (fun o1 co1 => ?_)
  refine tw_chk (fun _ => ?_)
  refine tw_gal (fun Pw9 => tw_at co1 tt_X6_put) (fun r3 S4 => ?_)
  exact tw_at (⟨rfl, rfl⟩ : zt S4 = zt S4 ∧ zu S4 = zu S4) (tt_X9_putApart_148)
noncomputable def d_X9_putApart_118 (self12 : Nat → Nat → Int32 → Int32 → Nat → Int32 → Int32 → Int32 → Int32 → ZS → Option (Int32 × ZS)) (x0 : Nat) (x1 : Nat) (x2 : Int32) (x3 : Int32) (x4 : Nat) (x5 : Int32) (x6 : Int32) (x7 : Int32) (x8 : Int32) (S : ZS) : Option (Int32 × ZS) :=
  m_bnd (x8 + (1 : Int32)) (fun v1 =>
  self12 x0 x1 x2 x3 x4 x5 x6 x7 v1 S)
theorem tt_X9_putApart_118 {Pw : Int32 → ZS → Prop} {self12 : Nat → Nat → Int32 → Int32 → Nat → Int32 → Int32 → Int32 → Int32 → ZS → Option (Int32 × ZS)} {self12g : Nat → Nat → Int32 → Int32 → Nat → Int32 → Int32 → Int32 → Int32 → ZS → Nat → Nat → Prop} (hself12 : ∀ (y0 : Nat) (y1 : Nat) (y2 : Int32) (y3 : Int32) (y4 : Nat) (y5 : Int32) (y6 : Int32) (y7 : Int32) (y8 : Int32) (S : ZS), Tw Pw (self12 y0 y1 y2 y3 y4 y5 y6 y7 y8 S) (zt S) (zu S) (fun C T => self12g y0 y1 y2 y3 y4 y5 y6 y7 y8 S C T)) {x0 : Nat} {x1 : Nat} {x2 : Int32} {x3 : Int32} {x4 : Nat} {x5 : Int32} {x6 : Int32} {x7 : Int32} {x8 : Int32} {S : ZS} : Tw Pw (d_X9_putApart_118 self12 x0 x1 x2 x3 x4 x5 x6 x7 x8 S) (zt S) (zu S) (fun C T => g_X9_putApart_118 Pw self12g x0 x1 x2 x3 x4 x5 x6 x7 x8 S C T) := by
  unfold d_X9_putApart_118 g_X9_putApart_118
  refine tw_bndv (fun v1 => ?_)
  exact tw_at (⟨rfl, rfl⟩ : zt S = zt S ∧ zu S = zu S) (hself12 _ _ _ _ _ _ _ _ _ _)
noncomputable def d_X9_putApart_116 (self12 : Nat → Nat → Int32 → Int32 → Nat → Int32 → Int32 → Int32 → Int32 → ZS → Option (Int32 × ZS)) (x0 : Nat) (x1 : Nat) (x2 : Int32) (x3 : Int32) (x4 : Nat) (x5 : Int32) (x6 : Int32) (x8 : Int32) (t0 : Int32) (S : ZS) : Option (Int32 × ZS) :=
  d_X9_putApart_118 self12 x0 x1 x2 x3 x4 x5 x6 t0 x8 S
theorem tt_X9_putApart_116 {Pw : Int32 → ZS → Prop} {self12 : Nat → Nat → Int32 → Int32 → Nat → Int32 → Int32 → Int32 → Int32 → ZS → Option (Int32 × ZS)} {self12g : Nat → Nat → Int32 → Int32 → Nat → Int32 → Int32 → Int32 → Int32 → ZS → Nat → Nat → Prop} (hself12 : ∀ (y0 : Nat) (y1 : Nat) (y2 : Int32) (y3 : Int32) (y4 : Nat) (y5 : Int32) (y6 : Int32) (y7 : Int32) (y8 : Int32) (S : ZS), Tw Pw (self12 y0 y1 y2 y3 y4 y5 y6 y7 y8 S) (zt S) (zu S) (fun C T => self12g y0 y1 y2 y3 y4 y5 y6 y7 y8 S C T)) {x0 : Nat} {x1 : Nat} {x2 : Int32} {x3 : Int32} {x4 : Nat} {x5 : Int32} {x6 : Int32} {x8 : Int32} {t0 : Int32} {S : ZS} : Tw Pw (d_X9_putApart_116 self12 x0 x1 x2 x3 x4 x5 x6 x8 t0 S) (zt S) (zu S) (fun C T => g_X9_putApart_116 Pw self12g x0 x1 x2 x3 x4 x5 x6 x8 t0 S C T) := by
  unfold d_X9_putApart_116 g_X9_putApart_116
  exact tw_at (⟨rfl, rfl⟩ : zt S = zt S ∧ zu S = zu S) (tt_X9_putApart_118 hself12)
noncomputable def d_X9_putApart_111 (self12 : Nat → Nat → Int32 → Int32 → Nat → Int32 → Int32 → Int32 → Int32 → ZS → Option (Int32 × ZS)) (x0 : Nat) (x1 : Nat) (x2 : Int32) (x3 : Int32) (x4 : Nat) (x5 : Int32) (x6 : Int32) (x8 : Int32) (S : ZS) : Option (Int32 × ZS) :=
  d_X9_putApart_116 self12 x0 x1 x2 x3 x4 x5 x6 x8 (1 : Int32) S
theorem tt_X9_putApart_111 {Pw : Int32 → ZS → Prop} {self12 : Nat → Nat → Int32 → Int32 → Nat → Int32 → Int32 → Int32 → Int32 → ZS → Option (Int32 × ZS)} {self12g : Nat → Nat → Int32 → Int32 → Nat → Int32 → Int32 → Int32 → Int32 → ZS → Nat → Nat → Prop} (hself12 : ∀ (y0 : Nat) (y1 : Nat) (y2 : Int32) (y3 : Int32) (y4 : Nat) (y5 : Int32) (y6 : Int32) (y7 : Int32) (y8 : Int32) (S : ZS), Tw Pw (self12 y0 y1 y2 y3 y4 y5 y6 y7 y8 S) (zt S) (zu S) (fun C T => self12g y0 y1 y2 y3 y4 y5 y6 y7 y8 S C T)) {x0 : Nat} {x1 : Nat} {x2 : Int32} {x3 : Int32} {x4 : Nat} {x5 : Int32} {x6 : Int32} {x8 : Int32} {S : ZS} : Tw Pw (d_X9_putApart_111 self12 x0 x1 x2 x3 x4 x5 x6 x8 S) (zt S) (zu S) (fun C T => g_X9_putApart_111 Pw self12g x0 x1 x2 x3 x4 x5 x6 x8 S C T) := by
  unfold d_X9_putApart_111 g_X9_putApart_111
  exact tw_at (⟨rfl, rfl⟩ : zt S = zt S ∧ zu S = zu S) (tt_X9_putApart_116 hself12)
noncomputable def d_X9_putApart_94 (self12 : Nat → Nat → Int32 → Int32 → Nat → Int32 → Int32 → Int32 → Int32 → ZS → Option (Int32 × ZS)) (x0 : Nat) (x1 : Nat) (x2 : Int32) (x3 : Int32) (x4 : Nat) (x5 : Int32) (x7 : Int32) (x8 : Int32) (t0 : Int32) (S : ZS) : Option (Int32 × ZS) :=
  m_if (x7 = 0) (
  m_bnd (x8 >>> ((3 : Int32) &&& 31)) (fun v1 =>
  m_bnd (x2 >>> ((3 : Int32) &&& 31)) (fun v2 =>
  m_if (v1 = v2) (
  d_X9_putApart_111 self12 x0 x1 x2 x3 x4 x5 t0 x8 S
  ) (
  d_X9_putApart_116 self12 x0 x1 x2 x3 x4 x5 t0 x8 (0 : Int32) S
  )))
  ) (
  d_X9_putApart_111 self12 x0 x1 x2 x3 x4 x5 t0 x8 S
  )
theorem tt_X9_putApart_94 {Pw : Int32 → ZS → Prop} {self12 : Nat → Nat → Int32 → Int32 → Nat → Int32 → Int32 → Int32 → Int32 → ZS → Option (Int32 × ZS)} {self12g : Nat → Nat → Int32 → Int32 → Nat → Int32 → Int32 → Int32 → Int32 → ZS → Nat → Nat → Prop} (hself12 : ∀ (y0 : Nat) (y1 : Nat) (y2 : Int32) (y3 : Int32) (y4 : Nat) (y5 : Int32) (y6 : Int32) (y7 : Int32) (y8 : Int32) (S : ZS), Tw Pw (self12 y0 y1 y2 y3 y4 y5 y6 y7 y8 S) (zt S) (zu S) (fun C T => self12g y0 y1 y2 y3 y4 y5 y6 y7 y8 S C T)) {x0 : Nat} {x1 : Nat} {x2 : Int32} {x3 : Int32} {x4 : Nat} {x5 : Int32} {x7 : Int32} {x8 : Int32} {t0 : Int32} {S : ZS} : Tw Pw (d_X9_putApart_94 self12 x0 x1 x2 x3 x4 x5 x7 x8 t0 S) (zt S) (zu S) (fun C T => g_X9_putApart_94 Pw self12g x0 x1 x2 x3 x4 x5 x7 x8 t0 S C T) := by
  unfold d_X9_putApart_94 g_X9_putApart_94
  refine tw_if (fun _ => ?_) (fun _ => ?_)
  ·
    refine tw_bndv (fun v1 => ?_)
    refine tw_bndv (fun v2 => ?_)
    refine tw_if (fun _ => ?_) (fun _ => ?_)
    ·
      exact tw_at (⟨rfl, rfl⟩ : zt S = zt S ∧ zu S = zu S) (tt_X9_putApart_111 hself12)
    ·
      exact tw_at (⟨rfl, rfl⟩ : zt S = zt S ∧ zu S = zu S) (tt_X9_putApart_116 hself12)
  ·
    exact tw_at (⟨rfl, rfl⟩ : zt S = zt S ∧ zu S = zu S) (tt_X9_putApart_111 hself12)
noncomputable def d_X9_putApart_89 (self12 : Nat → Nat → Int32 → Int32 → Nat → Int32 → Int32 → Int32 → Int32 → ZS → Option (Int32 × ZS)) (x0 : Nat) (x1 : Nat) (x2 : Int32) (x3 : Int32) (x4 : Nat) (x5 : Int32) (x7 : Int32) (x8 : Int32) (S : ZS) : Option (Int32 × ZS) :=
  d_X9_putApart_94 self12 x0 x1 x2 x3 x4 x5 x7 x8 (1 : Int32) S
theorem tt_X9_putApart_89 {Pw : Int32 → ZS → Prop} {self12 : Nat → Nat → Int32 → Int32 → Nat → Int32 → Int32 → Int32 → Int32 → ZS → Option (Int32 × ZS)} {self12g : Nat → Nat → Int32 → Int32 → Nat → Int32 → Int32 → Int32 → Int32 → ZS → Nat → Nat → Prop} (hself12 : ∀ (y0 : Nat) (y1 : Nat) (y2 : Int32) (y3 : Int32) (y4 : Nat) (y5 : Int32) (y6 : Int32) (y7 : Int32) (y8 : Int32) (S : ZS), Tw Pw (self12 y0 y1 y2 y3 y4 y5 y6 y7 y8 S) (zt S) (zu S) (fun C T => self12g y0 y1 y2 y3 y4 y5 y6 y7 y8 S C T)) {x0 : Nat} {x1 : Nat} {x2 : Int32} {x3 : Int32} {x4 : Nat} {x5 : Int32} {x7 : Int32} {x8 : Int32} {S : ZS} : Tw Pw (d_X9_putApart_89 self12 x0 x1 x2 x3 x4 x5 x7 x8 S) (zt S) (zu S) (fun C T => g_X9_putApart_89 Pw self12g x0 x1 x2 x3 x4 x5 x7 x8 S C T) := by
  unfold d_X9_putApart_89 g_X9_putApart_89
  exact tw_at (⟨rfl, rfl⟩ : zt S = zt S ∧ zu S = zu S) (tt_X9_putApart_94 hself12)
noncomputable def d_X9_putApart_12s (self12 : Nat → Nat → Int32 → Int32 → Nat → Int32 → Int32 → Int32 → Int32 → ZS → Option (Int32 × ZS)) (x0 : Nat) (x1 : Nat) (x2 : Int32) (x3 : Int32) (x4 : Nat) (x5 : Int32) (x6 : Int32) (x7 : Int32) (x8 : Int32) (S : ZS) : Option (Int32 × ZS) :=
  m_if ((64 : Int32) ≤ x8) (
  m_if (x5 = 0) (
  d_X9_putApart_148 x2 x4 x6 S
  ) (
  m_if (x6 = 0) (
  d_X9_putApart_139 x2 x4 x6 S
  ) (
  m_if (x7 = 0) (
  d_X9_putApart_148 x2 x4 x6 S
  ) (
  d_X9_putApart_139 x2 x4 x6 S
  )
  )
  )
  ) (
  m_if (x8 = x2) (
  d_X9_putApart_118 self12 x0 x1 x2 x3 x4 x5 x6 x7 x8 S
  ) (
  m_chk (zK S x1 = 0) (
  m_cal (zP S 0 x1) (fun b1 =>
  m_chk (zK S b1 = 14) (
  m_chk (¬ (x8 < 0 ∨ zN S b1 ≤ (x8).toNatClampNeg)) (
  m_bnd (zA S b1 (x8).toNatClampNeg) (fun v2 =>
  m_chk (zK S x1 = 0) (
  m_cal (zP S 0 x1) (fun b3 =>
  m_chk (zK S b3 = 14) (
  m_chk (¬ (x2 < 0 ∨ zN S b3 ≤ (x2).toNatClampNeg)) (
  m_bnd (zA S b3 (x2).toNatClampNeg) (fun v4 =>
  m_if (v2 = v4) (
  m_chk (zK S x1 = 0) (
  m_cal (f_X0_reaches x1 x8 x3 S) (fun o5 => m_chk (zt o5.2 = zt S ∧ zu o5.2 = zu S) (
  m_if (o5.1 = 0) (
  d_X9_putApart_118 self12 x0 x1 x2 x3 x4 x5 x6 x7 x8 o5.2
  ) (
  m_chk (zK o5.2 x0 = 9) (
  m_cal (zP o5.2 0 x0) (fun b6 =>
  m_bnd ((64 : Int32) * x3) (fun v7 =>
  m_bnd (x8 + v7) (fun v8 =>
  m_chk (zK o5.2 b6 = 7) (
  m_cal (f_X7_isSafe b6 x1 v8 o5.2) (fun o9 => m_chk (zt o9.2 = zt o5.2 ∧ zu o9.2 = zu o5.2) (
  m_if (o9.1 = 0) (
  d_X9_putApart_118 self12 x0 x1 x2 x3 x4 x5 x6 x7 x8 o9.2
  ) (
  m_if (x6 = 0) (
  m_bnd (x8 &&& (7 : Int32)) (fun v10 =>
  m_bnd (x2 &&& (7 : Int32)) (fun v11 =>
  m_if (v10 = v11) (
  d_X9_putApart_89 self12 x0 x1 x2 x3 x4 (1 : Int32) x7 x8 o9.2
  ) (
  d_X9_putApart_94 self12 x0 x1 x2 x3 x4 (1 : Int32) x7 x8 (0 : Int32) o9.2
  )))
  ) (
  d_X9_putApart_89 self12 x0 x1 x2 x3 x4 (1 : Int32) x7 x8 o9.2
  )
  ))))))))
  ))))
  ) (
  d_X9_putApart_118 self12 x0 x1 x2 x3 x4 x5 x6 x7 x8 S
  )))))))))))
  )
  )
theorem tt_X9_putApart_12s {Pw : Int32 → ZS → Prop} {self12 : Nat → Nat → Int32 → Int32 → Nat → Int32 → Int32 → Int32 → Int32 → ZS → Option (Int32 × ZS)} {self12g : Nat → Nat → Int32 → Int32 → Nat → Int32 → Int32 → Int32 → Int32 → ZS → Nat → Nat → Prop} (hself12 : ∀ (y0 : Nat) (y1 : Nat) (y2 : Int32) (y3 : Int32) (y4 : Nat) (y5 : Int32) (y6 : Int32) (y7 : Int32) (y8 : Int32) (S : ZS), Tw Pw (self12 y0 y1 y2 y3 y4 y5 y6 y7 y8 S) (zt S) (zu S) (fun C T => self12g y0 y1 y2 y3 y4 y5 y6 y7 y8 S C T)) {x0 : Nat} {x1 : Nat} {x2 : Int32} {x3 : Int32} {x4 : Nat} {x5 : Int32} {x6 : Int32} {x7 : Int32} {x8 : Int32} {S : ZS} : Tw Pw (d_X9_putApart_12s self12 x0 x1 x2 x3 x4 x5 x6 x7 x8 S) (zt S) (zu S) (fun C T => g_X9_putApart_12s Pw self12g x0 x1 x2 x3 x4 x5 x6 x7 x8 S C T) := by
  unfold d_X9_putApart_12s g_X9_putApart_12s
  refine tw_if (fun _ => ?_) (fun _ => ?_)
  ·
    refine tw_if (fun _ => ?_) (fun _ => ?_)
    ·
      exact tw_at (⟨rfl, rfl⟩ : zt S = zt S ∧ zu S = zu S) (tt_X9_putApart_148)
    ·
      refine tw_if (fun _ => ?_) (fun _ => ?_)
      ·
        exact tw_at (⟨rfl, rfl⟩ : zt S = zt S ∧ zu S = zu S) (tt_X9_putApart_139)
      ·
        refine tw_if (fun _ => ?_) (fun _ => ?_)
        ·
          exact tw_at (⟨rfl, rfl⟩ : zt S = zt S ∧ zu S = zu S) (tt_X9_putApart_148)
        ·
          exact tw_at (⟨rfl, rfl⟩ : zt S = zt S ∧ zu S = zu S) (tt_X9_putApart_139)
  ·
    refine tw_if (fun _ => ?_) (fun _ => ?_)
    ·
      exact tw_at (⟨rfl, rfl⟩ : zt S = zt S ∧ zu S = zu S) (tt_X9_putApart_118 hself12)
    ·
      refine tw_chk (fun _ => ?_)
      refine tw_calv (fun b1 => ?_)
      refine tw_chk (fun _ => ?_)
      refine tw_chk (fun _ => ?_)
      refine tw_bndv (fun v2 => ?_)
      refine tw_chk (fun _ => ?_)
      refine tw_calv (fun b3 => ?_)
      refine tw_chk (fun _ => ?_)
      refine tw_chk (fun _ => ?_)
      refine tw_bndv (fun v4 => ?_)
      refine tw_if (fun _ => ?_) (fun _ => ?_)
      ·
        refine tw_chk (fun _ => ?_)
        refine tw_calf (⟨rfl, rfl⟩ : zt S = zt S ∧ zu S = zu S) (fun o5 co5 => ?_)
        refine tw_if (fun _ => ?_) (fun _ => ?_)
        ·
          exact tw_at co5 (tt_X9_putApart_118 hself12)
        ·
          refine tw_chk (fun _ => ?_)
          refine tw_calv (fun b6 => ?_)
          refine tw_bndv (fun v7 => ?_)
          refine tw_bndv (fun v8 => ?_)
          refine tw_chk (fun _ => ?_)
          refine tw_calf co5 (fun o9 co9 => ?_)
          refine tw_if (fun _ => ?_) (fun _ => ?_)
          ·
            exact tw_at co9 (tt_X9_putApart_118 hself12)
          ·
            refine tw_if (fun _ => ?_) (fun _ => ?_)
            ·
              refine tw_bndv (fun v10 => ?_)
              refine tw_bndv (fun v11 => ?_)
              refine tw_if (fun _ => ?_) (fun _ => ?_)
              ·
                exact tw_at co9 (tt_X9_putApart_89 hself12)
              ·
                exact tw_at co9 (tt_X9_putApart_94 hself12)
            ·
              exact tw_at co9 (tt_X9_putApart_89 hself12)
      ·
        exact tw_at (⟨rfl, rfl⟩ : zt S = zt S ∧ zu S = zu S) (tt_X9_putApart_118 hself12)
noncomputable def d_X9_putApart_12  : Nat → Nat → Nat → Int32 → Int32 → Nat → Int32 → Int32 → Int32 → Int32 → ZS → Option (Int32 × ZS)
  | 0 => fun _ _ _ _ _ _ _ _ _ _ => none
  | n + 1 => d_X9_putApart_12s  (d_X9_putApart_12  n)
theorem tt_X9_putApart_12 {Pw : Int32 → ZS → Prop}   {n : Nat} : ∀ {z0 : Nat} {z1 : Nat} {z2 : Int32} {z3 : Int32} {z4 : Nat} {z5 : Int32} {z6 : Int32} {z7 : Int32} {z8 : Int32} {S : ZS}, Tw Pw (d_X9_putApart_12  n z0 z1 z2 z3 z4 z5 z6 z7 z8 S) (zt S) (zu S) (fun C T => g_X9_putApart_12 Pw  n z0 z1 z2 z3 z4 z5 z6 z7 z8 S C T) := by
  induction n with
  | zero => intro z0 z1 z2 z3 z4 z5 z6 z7 z8 S; exact tw_none
  | succ n ih => intro z0 z1 z2 z3 z4 z5 z6 z7 z8 S; exact tt_X9_putApart_12s  (fun _ _ _ _ _ _ _ _ _ _ => ih)
noncomputable def d_X9_putApart_0 (x0 : Nat) (x1 : Nat) (x2 : Int32) (x3 : Int32) (x4 : Nat) (S : ZS) : Option (Int32 × ZS) :=
  d_X9_putApart_12 mFuel x0 x1 x2 x3 x4 (0 : Int32) (0 : Int32) (0 : Int32) (0 : Int32) S
theorem tt_X9_putApart_0 {Pw : Int32 → ZS → Prop}   {x0 : Nat} {x1 : Nat} {x2 : Int32} {x3 : Int32} {x4 : Nat} {S : ZS} : Tw Pw (d_X9_putApart_0 x0 x1 x2 x3 x4 S) (zt S) (zu S) (fun C T => g_X9_putApart_0 Pw x0 x1 x2 x3 x4 S C T) := by
  unfold d_X9_putApart_0 g_X9_putApart_0
  exact tw_at (⟨rfl, rfl⟩ : zt S = zt S ∧ zu S = zu S) (tt_X9_putApart_12)
noncomputable def d_X9_putApart (x0 : Nat) (x1 : Nat) (x2 : Int32) (x3 : Int32) (x4 : Nat) (S : ZS) : Option (Int32 × ZS) := d_X9_putApart_0 x0 x1 x2 x3 x4 S
theorem tt_X9_putApart {Pw : Int32 → ZS → Prop} {x0 : Nat} {x1 : Nat} {x2 : Int32} {x3 : Int32} {x4 : Nat} {S : ZS} : Tw Pw (d_X9_putApart x0 x1 x2 x3 x4 S) (zt S) (zu S) (fun C T => g_X9_putApart x0 x1 x2 x3 x4 S C T Pw) := tt_X9_putApart_0
noncomputable def d_X9_putSigns_182 (S : ZS) : Option (Int32 × ZS) :=
  some (0, S)
theorem tt_X9_putSigns_182 {Pw : Int32 → ZS → Prop}   {S : ZS} : Tw Pw (d_X9_putSigns_182 S) (zt S) (zu S) (fun C T => g_X9_putSigns_182 Pw S C T) := by
  unfold d_X9_putSigns_182 g_X9_putSigns_182
  exact tw_ret (⟨rfl, rfl⟩ : zt S = zt S ∧ zu S = zu S)
noncomputable def d_X9_putSigns_160 (x0 : Nat) (x1 : Nat) (x2 : Int32) (x3 : Nat) (S : ZS) : Option (Int32 × ZS) :=
  m_chk (zK S x0 = 9) (
  m_cal (zP S 0 x0) (fun b1 =>
  m_chk (zK S b1 = 7) (
  m_cal (f_X7_checkSign b1 x1 x2 S) (fun o2 => m_chk (zt o2.2 = zt S ∧ zu o2.2 = zu S) (
  m_if (o2.1 = 0) (
  d_X9_putSigns_182 o2.2
  ) (
  m_chk (zK o2.2 x3 = 6) (
  m_cal2 (d_X6_put x3 o2.1 o2.2) (fun r4 S5 =>
  d_X9_putSigns_182 S5))
  ))))))
theorem tt_X9_putSigns_160 {Pw : Int32 → ZS → Prop}   {x0 : Nat} {x1 : Nat} {x2 : Int32} {x3 : Nat} {S : ZS} : Tw Pw (d_X9_putSigns_160 x0 x1 x2 x3 S) (zt S) (zu S) (fun C T => g_X9_putSigns_160 Pw x0 x1 x2 x3 S C T) := by
  unfold d_X9_putSigns_160 g_X9_putSigns_160
  refine tw_chk (fun _ => ?_)
  refine tw_calv (fun b1 => ?_)
  refine tw_chk (fun _ => ?_)
  refine tw_calf (⟨rfl, rfl⟩ : zt S = zt S ∧ zu S = zu S) (fun o2 co2 => ?_)
  refine tw_if (fun _ => ?_) (fun _ => ?_)
  ·
    exact tw_at co2 (tt_X9_putSigns_182)
  ·
    refine tw_chk (fun _ => ?_)
    refine tw_gal (fun Pw9 => tw_at co2 tt_X6_put) (fun r4 S5 => ?_)
    exact tw_at (⟨rfl, rfl⟩ : zt S5 = zt S5 ∧ zu S5 = zu S5) (tt_X9_putSigns_182)
noncomputable def d_X9_putSigns_136 (x0 : Nat) (x1 : Nat) (x2 : Int32) (x3 : Nat) (S : ZS) : Option (Int32 × ZS) :=
  m_if (x2 < (4096 : Int32)) (
  d_X9_putSigns_160 x0 x1 x2 x3 S
  ) (
  m_chk (zK S x3 = 6) (
  m_cal2 (d_X6_put x3 (61 : Int32) S) (fun r2 S3 =>
  m_bnd (x2 >>> ((12 : Int32) &&& 31)) (fun v6 =>
  m_cal (f_X11_letterOf v6 S3) (fun o7 => m_chk (zt o7.2 = zt S3 ∧ zu o7.2 = zu S3) (
  m_chk (zK o7.2 x3 = 6) (
  m_cal2 (d_X6_put x3 o7.1 o7.2) (fun r9 S10 =>
  d_X9_putSigns_160 x0 x1 x2 x3 S10)))))))
  )
theorem tt_X9_putSigns_136 {Pw : Int32 → ZS → Prop}   {x0 : Nat} {x1 : Nat} {x2 : Int32} {x3 : Nat} {S : ZS} : Tw Pw (d_X9_putSigns_136 x0 x1 x2 x3 S) (zt S) (zu S) (fun C T => g_X9_putSigns_136 Pw x0 x1 x2 x3 S C T) := by
  unfold d_X9_putSigns_136 g_X9_putSigns_136
  refine tw_if (fun _ => ?_) (fun _ => ?_)
  ·
    exact tw_at (⟨rfl, rfl⟩ : zt S = zt S ∧ zu S = zu S) (tt_X9_putSigns_160)
  ·
    refine tw_chk (fun _ => ?_)
    refine tw_gal (fun Pw9 => tw_at (⟨rfl, rfl⟩ : zt S = zt S ∧ zu S = zu S) tt_X6_put) (fun r2 S3 => ?_)
    refine tw_bndv (fun v6 => ?_)
    refine tw_calf (⟨rfl, rfl⟩ : zt S3 = zt S3 ∧ zu S3 = zu S3) (fun o7 co7 => ?_)
    refine tw_chk (fun _ => ?_)
    refine tw_gal (fun Pw9 => tw_at co7 tt_X6_put) (fun r9 S10 => ?_)
    exact tw_at (⟨rfl, rfl⟩ : zt S10 = zt S10 ∧ zu S10 = zu S10) (tt_X9_putSigns_160)
noncomputable def d_X9_putSigns_118 (x0 : Nat) (x1 : Nat) (x2 : Int32) (x3 : Nat) (x5 : Int32) (S : ZS) : Option (Int32 × ZS) :=
  m_cal (f_X11_fileLetter x5 S) (fun o1 => m_chk (zt o1.2 = zt S ∧ zu o1.2 = zu S) (
  m_chk (zK o1.2 x3 = 6) (
  m_cal2 (d_X6_put x3 o1.1 o1.2) (fun r3 S4 =>
  m_cal (f_X11_rankDigit x5 S4) (fun o7 => m_chk (zt o7.2 = zt S4 ∧ zu o7.2 = zu S4) (
  m_chk (zK o7.2 x3 = 6) (
  m_cal2 (d_X6_put x3 o7.1 o7.2) (fun r9 S10 =>
  d_X9_putSigns_136 x0 x1 x2 x3 S10))))))))
theorem tt_X9_putSigns_118 {Pw : Int32 → ZS → Prop}   {x0 : Nat} {x1 : Nat} {x2 : Int32} {x3 : Nat} {x5 : Int32} {S : ZS} : Tw Pw (d_X9_putSigns_118 x0 x1 x2 x3 x5 S) (zt S) (zu S) (fun C T => g_X9_putSigns_118 Pw x0 x1 x2 x3 x5 S C T) := by
  unfold d_X9_putSigns_118 g_X9_putSigns_118
  refine tw_calf (⟨rfl, rfl⟩ : zt S = zt S ∧ zu S = zu S) (fun o1 co1 => ?_)
  refine tw_chk (fun _ => ?_)
  refine tw_gal (fun Pw9 => tw_at co1 tt_X6_put) (fun r3 S4 => ?_)
  refine tw_calf (⟨rfl, rfl⟩ : zt S4 = zt S4 ∧ zu S4 = zu S4) (fun o7 co7 => ?_)
  refine tw_chk (fun _ => ?_)
  refine tw_gal (fun Pw9 => tw_at co7 tt_X6_put) (fun r9 S10 => ?_)
  exact tw_at (⟨rfl, rfl⟩ : zt S10 = zt S10 ∧ zu S10 = zu S10) (tt_X9_putSigns_136)
noncomputable def d_X9_putSigns_107 (x0 : Nat) (x1 : Nat) (x2 : Int32) (x3 : Nat) (x5 : Int32) (x6 : Int32) (S : ZS) : Option (Int32 × ZS) :=
  m_if (x6 = 0) (
  d_X9_putSigns_118 x0 x1 x2 x3 x5 S
  ) (
  m_chk (zK S x3 = 6) (
  m_cal2 (d_X6_put x3 (120 : Int32) S) (fun r2 S3 =>
  d_X9_putSigns_118 x0 x1 x2 x3 x5 S3))
  )
theorem tt_X9_putSigns_107 {Pw : Int32 → ZS → Prop}   {x0 : Nat} {x1 : Nat} {x2 : Int32} {x3 : Nat} {x5 : Int32} {x6 : Int32} {S : ZS} : Tw Pw (d_X9_putSigns_107 x0 x1 x2 x3 x5 x6 S) (zt S) (zu S) (fun C T => g_X9_putSigns_107 Pw x0 x1 x2 x3 x5 x6 S C T) := by
  unfold d_X9_putSigns_107 g_X9_putSigns_107
  refine tw_if (fun _ => ?_) (fun _ => ?_)
  ·
    exact tw_at (⟨rfl, rfl⟩ : zt S = zt S ∧ zu S = zu S) (tt_X9_putSigns_118)
  ·
    refine tw_chk (fun _ => ?_)
    refine tw_gal (fun Pw9 => tw_at (⟨rfl, rfl⟩ : zt S = zt S ∧ zu S = zu S) tt_X6_put) (fun r2 S3 => ?_)
    exact tw_at (⟨rfl, rfl⟩ : zt S3 = zt S3 ∧ zu S3 = zu S3) (tt_X9_putSigns_118)
noncomputable def d_X9_putSigns_41 (x0 : Nat) (x1 : Nat) (x2 : Int32) (x3 : Nat) (t0 : Nat) (t1 : Nat) (S : ZS) : Option (Int32 × ZS) :=
  m_chk (zK S t1 = 6) (
  m_cal2 (d_X6_putText t1 t0 S) (fun r2 S3 =>
  d_X9_putSigns_136 x0 x1 x2 x3 S3))
theorem tt_X9_putSigns_41 {Pw : Int32 → ZS → Prop}   {x0 : Nat} {x1 : Nat} {x2 : Int32} {x3 : Nat} {t0 : Nat} {t1 : Nat} {S : ZS} : Tw Pw (d_X9_putSigns_41 x0 x1 x2 x3 t0 t1 S) (zt S) (zu S) (fun C T => g_X9_putSigns_41 Pw x0 x1 x2 x3 t0 t1 S C T) := by
  unfold d_X9_putSigns_41 g_X9_putSigns_41
  refine tw_chk (fun _ => ?_)
  refine tw_gal (fun Pw9 => tw_at (⟨rfl, rfl⟩ : zt S = zt S ∧ zu S = zu S) tt_X6_putText) (fun r2 S3 => ?_)
  exact tw_at (⟨rfl, rfl⟩ : zt S3 = zt S3 ∧ zu S3 = zu S3) (tt_X9_putSigns_136)
noncomputable def d_X9_putSigns_0 (x0 : Nat) (x1 : Nat) (x2 : Int32) (x3 : Nat) (S : ZS) : Option (Int32 × ZS) :=
  m_bnd (x2 &&& (63 : Int32)) (fun v1 =>
  m_bnd (x2 >>> ((6 : Int32) &&& 31)) (fun v2 =>
  m_bnd (v2 &&& (63 : Int32)) (fun v3 =>
  m_chk (zK S x1 = 0) (
  m_cal (f_X0_castles x1 v1 v3 S) (fun o4 => m_chk (zt o4.2 = zt S ∧ zu o4.2 = zu S) (
  m_if (o4.1 = 0) (
  m_chk (zK o4.2 x1 = 0) (
  m_cal (f_X0_takes x1 v1 v3 o4.2) (fun o5 => m_chk (zt o5.2 = zt o4.2 ∧ zu o5.2 = zu o4.2) (
  m_chk (zK o5.2 x1 = 0) (
  m_cal (f_X0_kindAt x1 v1 o5.2) (fun o6 => m_chk (zt o6.2 = zt o5.2 ∧ zu o6.2 = zu o5.2) (
  m_if (o6.1 = (1 : Int32)) (
  m_if (o5.1 = 0) (
  d_X9_putSigns_107 x0 x1 x2 x3 v3 o5.1 o6.2
  ) (
  m_cal (f_X11_fileLetter v1 o6.2) (fun o7 => m_chk (zt o7.2 = zt o6.2 ∧ zu o7.2 = zu o6.2) (
  m_chk (zK o7.2 x3 = 6) (
  m_cal2 (d_X6_put x3 o7.1 o7.2) (fun r9 S10 =>
  d_X9_putSigns_107 x0 x1 x2 x3 v3 o5.1 S10))))
  )
  ) (
  m_chk (zK o6.2 x1 = 0) (
  m_cal (f_X0_kindAt x1 v1 o6.2) (fun o13 => m_chk (zt o13.2 = zt o6.2 ∧ zu o13.2 = zu o6.2) (
  m_cal (f_X11_letterOf o13.1 o13.2) (fun o14 => m_chk (zt o14.2 = zt o13.2 ∧ zu o14.2 = zu o13.2) (
  m_chk (zK o14.2 x3 = 6) (
  m_cal2 (d_X6_put x3 o14.1 o14.2) (fun r16 S17 =>
  m_chk (zK S17 x0 = 9) (
  m_cal2 (d_X9_putApart x0 x1 v1 v3 x3 S17) (fun r21 S22 =>
  d_X9_putSigns_107 x0 x1 x2 x3 v3 o5.1 S22)))))))))
  )))))))
  ) (
  m_if (v3 ≤ v1) (
  d_X9_putSigns_41 x0 x1 x2 x3 8 x3 o4.2
  ) (
  d_X9_putSigns_41 x0 x1 x2 x3 7 x3 o4.2
  )
  )))))))
theorem tt_X9_putSigns_0 {Pw : Int32 → ZS → Prop}   {x0 : Nat} {x1 : Nat} {x2 : Int32} {x3 : Nat} {S : ZS} : Tw Pw (d_X9_putSigns_0 x0 x1 x2 x3 S) (zt S) (zu S) (fun C T => g_X9_putSigns_0 Pw x0 x1 x2 x3 S C T) := by
  unfold d_X9_putSigns_0 g_X9_putSigns_0
  refine tw_bndv (fun v1 => ?_)
  refine tw_bndv (fun v2 => ?_)
  refine tw_bndv (fun v3 => ?_)
  refine tw_chk (fun _ => ?_)
  refine tw_calf (⟨rfl, rfl⟩ : zt S = zt S ∧ zu S = zu S) (fun o4 co4 => ?_)
  refine tw_if (fun _ => ?_) (fun _ => ?_)
  ·
    refine tw_chk (fun _ => ?_)
    refine tw_calf co4 (fun o5 co5 => ?_)
    refine tw_chk (fun _ => ?_)
    refine tw_calf co5 (fun o6 co6 => ?_)
    refine tw_if (fun _ => ?_) (fun _ => ?_)
    ·
      refine tw_if (fun _ => ?_) (fun _ => ?_)
      ·
        exact tw_at co6 (tt_X9_putSigns_107)
      ·
        refine tw_calf co6 (fun o7 co7 => ?_)
        refine tw_chk (fun _ => ?_)
        refine tw_gal (fun Pw9 => tw_at co7 tt_X6_put) (fun r9 S10 => ?_)
        exact tw_at (⟨rfl, rfl⟩ : zt S10 = zt S10 ∧ zu S10 = zu S10) (tt_X9_putSigns_107)
    ·
      refine tw_chk (fun _ => ?_)
      refine tw_calf co6 (fun o13 co13 => ?_)
      refine tw_calf co13 (fun o14 co14 => ?_)
      refine tw_chk (fun _ => ?_)
      refine tw_gal (fun Pw9 => tw_at co14 tt_X6_put) (fun r16 S17 => ?_)
      refine tw_chk (fun _ => ?_)
      refine tw_gal (fun Pw9 => tw_at (⟨rfl, rfl⟩ : zt S17 = zt S17 ∧ zu S17 = zu S17) tt_X9_putApart) (fun r21 S22 => ?_)
      exact tw_at (⟨rfl, rfl⟩ : zt S22 = zt S22 ∧ zu S22 = zu S22) (tt_X9_putSigns_107)
  ·
    refine tw_if (fun _ => ?_) (fun _ => ?_)
    ·
      exact tw_at co4 (tt_X9_putSigns_41)
    ·
      exact tw_at co4 (tt_X9_putSigns_41)
end
section
noncomputable def d_X9_putSigns (x0 : Nat) (x1 : Nat) (x2 : Int32) (x3 : Nat) (S : ZS) : Option (Int32 × ZS) := d_X9_putSigns_0 x0 x1 x2 x3 S
theorem tt_X9_putSigns {Pw : Int32 → ZS → Prop} {x0 : Nat} {x1 : Nat} {x2 : Int32} {x3 : Nat} {S : ZS} : Tw Pw (d_X9_putSigns x0 x1 x2 x3 S) (zt S) (zu S) (fun C T => g_X9_putSigns x0 x1 x2 x3 S C T Pw) := tt_X9_putSigns_0
noncomputable def d_X3_putMove_66s (self66 : Nat → Nat → Int32 → ZS → Option (Int32 × ZS)) (x2 : Nat) (x4 : Nat) (x5 : Int32) (S : ZS) : Option (Int32 × ZS) :=
  m_chk (zK S x2 = 4) (
  m_if ((zI S 4 x2) ≤ x5) (
  m_cal2 (d_X3_putRemark x2 x4 S) (fun r2 S3 =>
  some (0, S3))
  ) (
  m_cal2 (d_X3_putGap x4 S) (fun r7 S8 =>
  m_chk (zK S8 x4 = 6) (
  m_cal2 (d_X6_put x4 (36 : Int32) S8) (fun r12 S13 =>
  m_chk (zK S13 x2 = 4) (
  m_cal (f_X4_markAt x2 x5 S13) (fun o16 => m_chk (zt o16.2 = zt S13 ∧ zu o16.2 = zu S13) (
  m_chk (zK o16.2 x4 = 6) (
  m_cal2 (d_X6_putNumber x4 o16.1 o16.2) (fun r18 S19 =>
  m_bnd (x5 + (1 : Int32)) (fun v22 =>
  self66 x2 x4 v22 S19)))))))))
  ))
theorem tt_X3_putMove_66s {Pw : Int32 → ZS → Prop} {self66 : Nat → Nat → Int32 → ZS → Option (Int32 × ZS)} {self66g : Nat → Nat → Int32 → ZS → Nat → Nat → Prop} (hself66 : ∀ (y0 : Nat) (y1 : Nat) (y2 : Int32) (S : ZS), Tw Pw (self66 y0 y1 y2 S) (zt S) (zu S) (fun C T => self66g y0 y1 y2 S C T)) {x2 : Nat} {x4 : Nat} {x5 : Int32} {S : ZS} : Tw Pw (d_X3_putMove_66s self66 x2 x4 x5 S) (zt S) (zu S) (fun C T => g_X3_putMove_66s Pw self66g x2 x4 x5 S C T) := by
  unfold d_X3_putMove_66s g_X3_putMove_66s
  refine tw_chk (fun _ => ?_)
  refine tw_if (fun _ => ?_) (fun _ => ?_)
  ·
    refine tw_gal (fun Pw9 => tw_at (⟨rfl, rfl⟩ : zt S = zt S ∧ zu S = zu S) tt_X3_putRemark) (fun r2 S3 => ?_)
    exact tw_ret (⟨rfl, rfl⟩ : zt S3 = zt S3 ∧ zu S3 = zu S3)
  ·
    refine tw_gal (fun Pw9 => tw_at (⟨rfl, rfl⟩ : zt S = zt S ∧ zu S = zu S) tt_X3_putGap) (fun r7 S8 => ?_)
    refine tw_chk (fun _ => ?_)
    refine tw_gal (fun Pw9 => tw_at (⟨rfl, rfl⟩ : zt S8 = zt S8 ∧ zu S8 = zu S8) tt_X6_put) (fun r12 S13 => ?_)
    refine tw_chk (fun _ => ?_)
    refine tw_calf (⟨rfl, rfl⟩ : zt S13 = zt S13 ∧ zu S13 = zu S13) (fun o16 co16 => ?_)
    refine tw_chk (fun _ => ?_)
    refine tw_gal (fun Pw9 => tw_at co16 tt_X6_putNumber) (fun r18 S19 => ?_)
    refine tw_bndv (fun v22 => ?_)
    exact tw_at (⟨rfl, rfl⟩ : zt S19 = zt S19 ∧ zu S19 = zu S19) (hself66 _ _ _ _)
noncomputable def d_X3_putMove_66  : Nat → Nat → Nat → Int32 → ZS → Option (Int32 × ZS)
  | 0 => fun _ _ _ _ => none
  | n + 1 => d_X3_putMove_66s  (d_X3_putMove_66  n)
theorem tt_X3_putMove_66 {Pw : Int32 → ZS → Prop}   {n : Nat} : ∀ {z0 : Nat} {z1 : Nat} {z2 : Int32} {S : ZS}, Tw Pw (d_X3_putMove_66  n z0 z1 z2 S) (zt S) (zu S) (fun C T => g_X3_putMove_66 Pw  n z0 z1 z2 S C T) := by
  induction n with
  | zero => intro z0 z1 z2 S; exact tw_none
  | succ n ih => intro z0 z1 z2 S; exact tt_X3_putMove_66s  (fun _ _ _ _ => ih)
noncomputable def d_X3_putMove_44 (x0 : Nat) (x1 : Nat) (x2 : Nat) (x4 : Nat) (S : ZS) : Option (Int32 × ZS) :=
  m_cal2 (d_X3_putGap x4 S) (fun r2 S3 =>
  m_chk (zK S3 x0 = 3) (
  m_cal (zP S3 0 x0) (fun b6 =>
  m_chk (zK S3 x2 = 4) (
  m_chk (zK S3 b6 = 9) (
  m_cal2 (d_X9_putSigns b6 x1 (zI S3 1 x2) x4 S3) (fun r8 S9 =>
  d_X3_putMove_66 mFuel x2 x4 (0 : Int32) S9))))))
theorem tt_X3_putMove_44 {Pw : Int32 → ZS → Prop}   {x0 : Nat} {x1 : Nat} {x2 : Nat} {x4 : Nat} {S : ZS} : Tw Pw (d_X3_putMove_44 x0 x1 x2 x4 S) (zt S) (zu S) (fun C T => g_X3_putMove_44 Pw x0 x1 x2 x4 S C T) := by
  unfold d_X3_putMove_44 g_X3_putMove_44
  refine tw_gal (fun Pw9 => tw_at (⟨rfl, rfl⟩ : zt S = zt S ∧ zu S = zu S) tt_X3_putGap) (fun r2 S3 => ?_)
  refine tw_chk (fun _ => ?_)
  refine tw_calv (fun b6 => ?_)
  refine tw_chk (fun _ => ?_)
  refine tw_chk (fun _ => ?_)
  refine tw_gal (fun Pw9 => tw_at (⟨rfl, rfl⟩ : zt S3 = zt S3 ∧ zu S3 = zu S3) tt_X9_putSigns) (fun r8 S9 => ?_)
  exact tw_at (⟨rfl, rfl⟩ : zt S9 = zt S9 ∧ zu S9 = zu S9) (tt_X3_putMove_66)
noncomputable def d_X3_putMove_41 (x0 : Nat) (x1 : Nat) (x2 : Nat) (x4 : Nat) (t0 : Nat) (t1 : Nat) (S : ZS) : Option (Int32 × ZS) :=
  m_chk (zK S t1 = 6) (
  m_cal2 (d_X6_putText t1 t0 S) (fun r2 S3 =>
  d_X3_putMove_44 x0 x1 x2 x4 S3))
theorem tt_X3_putMove_41 {Pw : Int32 → ZS → Prop}   {x0 : Nat} {x1 : Nat} {x2 : Nat} {x4 : Nat} {t0 : Nat} {t1 : Nat} {S : ZS} : Tw Pw (d_X3_putMove_41 x0 x1 x2 x4 t0 t1 S) (zt S) (zu S) (fun C T => g_X3_putMove_41 Pw x0 x1 x2 x4 t0 t1 S C T) := by
  unfold d_X3_putMove_41 g_X3_putMove_41
  refine tw_chk (fun _ => ?_)
  refine tw_gal (fun Pw9 => tw_at (⟨rfl, rfl⟩ : zt S = zt S ∧ zu S = zu S) tt_X6_putText) (fun r2 S3 => ?_)
  exact tw_at (⟨rfl, rfl⟩ : zt S3 = zt S3 ∧ zu S3 = zu S3) (tt_X3_putMove_44)
noncomputable def d_X3_putMove_11 (x0 : Nat) (x1 : Nat) (x2 : Nat) (x4 : Nat) (S : ZS) : Option (Int32 × ZS) :=
  m_cal2 (d_X3_putGap x4 S) (fun r2 S3 =>
  m_chk (zK S3 x1 = 0) (
  m_chk (zK S3 x4 = 6) (
  m_cal2 (d_X6_putNumber x4 (zI S3 6 x1) S3) (fun r7 S8 =>
  m_chk (zK S8 x1 = 0) (
  m_if ((zI S8 3 x1) = 0) (
  d_X3_putMove_41 x0 x1 x2 x4 13 x4 S8
  ) (
  d_X3_putMove_41 x0 x1 x2 x4 14 x4 S8
  ))))))
theorem tt_X3_putMove_11 {Pw : Int32 → ZS → Prop}   {x0 : Nat} {x1 : Nat} {x2 : Nat} {x4 : Nat} {S : ZS} : Tw Pw (d_X3_putMove_11 x0 x1 x2 x4 S) (zt S) (zu S) (fun C T => g_X3_putMove_11 Pw x0 x1 x2 x4 S C T) := by
  unfold d_X3_putMove_11 g_X3_putMove_11
  refine tw_gal (fun Pw9 => tw_at (⟨rfl, rfl⟩ : zt S = zt S ∧ zu S = zu S) tt_X3_putGap) (fun r2 S3 => ?_)
  refine tw_chk (fun _ => ?_)
  refine tw_chk (fun _ => ?_)
  refine tw_gal (fun Pw9 => tw_at (⟨rfl, rfl⟩ : zt S3 = zt S3 ∧ zu S3 = zu S3) tt_X6_putNumber) (fun r7 S8 => ?_)
  refine tw_chk (fun _ => ?_)
  refine tw_if (fun _ => ?_) (fun _ => ?_)
  ·
    exact tw_at (⟨rfl, rfl⟩ : zt S8 = zt S8 ∧ zu S8 = zu S8) (tt_X3_putMove_41)
  ·
    exact tw_at (⟨rfl, rfl⟩ : zt S8 = zt S8 ∧ zu S8 = zu S8) (tt_X3_putMove_41)
noncomputable def d_X3_putMove_0 (x0 : Nat) (x1 : Nat) (x2 : Nat) (x3 : Int32) (x4 : Nat) (S : ZS) : Option (Int32 × ZS) :=
  m_chk (zK S x1 = 0) (
  m_if ((zI S 3 x1) = 0) (
  d_X3_putMove_11 x0 x1 x2 x4 S
  ) (
  m_if (x3 = 0) (
  d_X3_putMove_44 x0 x1 x2 x4 S
  ) (
  d_X3_putMove_11 x0 x1 x2 x4 S
  )
  ))
theorem tt_X3_putMove_0 {Pw : Int32 → ZS → Prop}   {x0 : Nat} {x1 : Nat} {x2 : Nat} {x3 : Int32} {x4 : Nat} {S : ZS} : Tw Pw (d_X3_putMove_0 x0 x1 x2 x3 x4 S) (zt S) (zu S) (fun C T => g_X3_putMove_0 Pw x0 x1 x2 x3 x4 S C T) := by
  unfold d_X3_putMove_0 g_X3_putMove_0
  refine tw_chk (fun _ => ?_)
  refine tw_if (fun _ => ?_) (fun _ => ?_)
  ·
    exact tw_at (⟨rfl, rfl⟩ : zt S = zt S ∧ zu S = zu S) (tt_X3_putMove_11)
  ·
    refine tw_if (fun _ => ?_) (fun _ => ?_)
    ·
      exact tw_at (⟨rfl, rfl⟩ : zt S = zt S ∧ zu S = zu S) (tt_X3_putMove_44)
    ·
      exact tw_at (⟨rfl, rfl⟩ : zt S = zt S ∧ zu S = zu S) (tt_X3_putMove_11)
noncomputable def d_X3_putMove (x0 : Nat) (x1 : Nat) (x2 : Nat) (x3 : Int32) (x4 : Nat) (S : ZS) : Option (Int32 × ZS) := d_X3_putMove_0 x0 x1 x2 x3 x4 S
theorem tt_X3_putMove {Pw : Int32 → ZS → Prop} {x0 : Nat} {x1 : Nat} {x2 : Nat} {x3 : Int32} {x4 : Nat} {S : ZS} : Tw Pw (d_X3_putMove x0 x1 x2 x3 x4 S) (zt S) (zu S) (fun C T => g_X3_putMove x0 x1 x2 x3 x4 S C T Pw) := tt_X3_putMove_0
noncomputable def d_X3_putLine_206 (rec : Nat → Nat → Int32 → Int32 → Nat → ZS → Option (Int32 × ZS)) (S : ZS) : Option (Int32 × ZS) :=
  some (0, S)
theorem tt_X3_putLine_206 {Pw : Int32 → ZS → Prop} {rec : Nat → Nat → Int32 → Int32 → Nat → ZS → Option (Int32 × ZS)} {recg : Nat → Nat → Int32 → Int32 → Nat → ZS → Nat → Nat → (Int32 → ZS → Prop) → Prop} (hrec : ∀ (y0 : Nat) (y1 : Nat) (y2 : Int32) (y3 : Int32) (y4 : Nat) (S : ZS) (Pw : Int32 → ZS → Prop), Tw Pw (rec y0 y1 y2 y3 y4 S) (zt S) (zu S) (fun C T => recg y0 y1 y2 y3 y4 S C T Pw)) {S : ZS} : Tw Pw (d_X3_putLine_206 rec S) (zt S) (zu S) (fun C T => g_X3_putLine_206 Pw recg S C T) := by
  unfold d_X3_putLine_206 g_X3_putLine_206
  exact tw_ret (⟨rfl, rfl⟩ : zt S = zt S ∧ zu S = zu S)
noncomputable def d_X3_putLine_183 (rec : Nat → Nat → Int32 → Int32 → Nat → ZS → Option (Int32 × ZS)) (self24 : Nat → Nat → Int32 → Nat → Nat → Int32 → Int32 → Int32 → ZS → Option (Int32 × ZS)) (x0 : Nat) (x1 : Nat) (x3 : Int32) (x4 : Nat) (x5 : Nat) (x6 : Int32) (x8 : Int32) (x9 : Nat) (S : ZS) : Option (Int32 × ZS) :=
  m_chk (zK S x9 = 4) (
  m_chk (zK S x5 = 0) (
  m_cal (f_X0_play x5 (zI S 1 x9) S) (fun o1 => m_chk (zt o1.2 = zt S ∧ zu o1.2 = zu S) (
  m_chk (zK o1.2 x9 = 4) (
  m_bnd (x8 + (1 : Int32)) (fun v2 =>
  self24 x0 x1 x3 x4 x5 x6 (zI o1.2 2 x9) v2 o1.2))))))
theorem tt_X3_putLine_183 {Pw : Int32 → ZS → Prop} {rec : Nat → Nat → Int32 → Int32 → Nat → ZS → Option (Int32 × ZS)} {recg : Nat → Nat → Int32 → Int32 → Nat → ZS → Nat → Nat → (Int32 → ZS → Prop) → Prop} {self24 : Nat → Nat → Int32 → Nat → Nat → Int32 → Int32 → Int32 → ZS → Option (Int32 × ZS)} {self24g : Nat → Nat → Int32 → Nat → Nat → Int32 → Int32 → Int32 → ZS → Nat → Nat → Prop} (hrec : ∀ (y0 : Nat) (y1 : Nat) (y2 : Int32) (y3 : Int32) (y4 : Nat) (S : ZS) (Pw : Int32 → ZS → Prop), Tw Pw (rec y0 y1 y2 y3 y4 S) (zt S) (zu S) (fun C T => recg y0 y1 y2 y3 y4 S C T Pw)) (hself24 : ∀ (y0 : Nat) (y1 : Nat) (y2 : Int32) (y3 : Nat) (y4 : Nat) (y5 : Int32) (y6 : Int32) (y7 : Int32) (S : ZS), Tw Pw (self24 y0 y1 y2 y3 y4 y5 y6 y7 S) (zt S) (zu S) (fun C T => self24g y0 y1 y2 y3 y4 y5 y6 y7 S C T)) {x0 : Nat} {x1 : Nat} {x3 : Int32} {x4 : Nat} {x5 : Nat} {x6 : Int32} {x8 : Int32} {x9 : Nat} {S : ZS} : Tw Pw (d_X3_putLine_183 rec self24 x0 x1 x3 x4 x5 x6 x8 x9 S) (zt S) (zu S) (fun C T => g_X3_putLine_183 Pw recg self24g x0 x1 x3 x4 x5 x6 x8 x9 S C T) := by
  unfold d_X3_putLine_183 g_X3_putLine_183
  refine tw_chk (fun _ => ?_)
  refine tw_chk (fun _ => ?_)
  refine tw_calf (⟨rfl, rfl⟩ : zt S = zt S ∧ zu S = zu S) (fun o1 co1 => ?_)
  refine tw_chk (fun _ => ?_)
  refine tw_bndv (fun v2 => ?_)
  exact tw_at co1 (hself24 _ _ _ _ _ _ _ _ _)
noncomputable def d_X3_putLine_99s (rec : Nat → Nat → Int32 → Int32 → Nat → ZS → Option (Int32 × ZS)) (self24 : Nat → Nat → Int32 → Nat → Nat → Int32 → Int32 → Int32 → ZS → Option (Int32 × ZS)) (self99 : Nat → Nat → Int32 → Nat → Nat → Int32 → Int32 → Nat → Int32 → Int32 → ZS → Option (Int32 × ZS)) (x0 : Nat) (x1 : Nat) (x3 : Int32) (x4 : Nat) (x5 : Nat) (x6 : Int32) (x8 : Int32) (x9 : Nat) (x10 : Int32) (x11 : Int32) (S : ZS) : Option (Int32 × ZS) :=
  m_if ((300 : Int32) ≤ x11) (
  d_X3_putLine_183 rec self24 x0 x1 x3 x4 x5 x6 x8 x9 S
  ) (
  m_if (x10 = (-1 : Int32)) (
  d_X3_putLine_183 rec self24 x0 x1 x3 x4 x5 x6 x8 x9 S
  ) (
  m_if ((6 : Int32) ≤ x3) (
  d_X3_putLine_183 rec self24 x0 x1 x3 x4 x5 x6 x8 x9 S
  ) (
  m_chk (zK S x0 = 3) (
  m_cal (zP S 1 x0) (fun b1 =>
  m_bnd (x3 + (1 : Int32)) (fun v2 =>
  m_chk (zK S b1 = 15) (
  m_chk (¬ (v2 < 0 ∨ zN S b1 ≤ (v2).toNatClampNeg)) (
  m_cal (zB S b1 (v2).toNatClampNeg) (fun b3 =>
  m_chk (zK S b3 = 0) (
  m_cal (f_X0_copyFrom b3 x5 S) (fun o4 => m_chk (zt o4.2 = zt S ∧ zu o4.2 = zu S) (
  m_cal2 (d_X3_putGap x4 o4.2) (fun r6 S7 =>
  m_chk (zK S7 x4 = 6) (
  m_cal2 (d_X6_put x4 (40 : Int32) S7) (fun r11 S12 =>
  m_bnd (x3 + (1 : Int32)) (fun v15 =>
  m_chk (zK S12 x0 = 3) (
  m_cal2 (rec x0 x1 x10 v15 x4 S12) (fun r17 S18 =>
  m_chk (zK S18 x4 = 6) (
  m_cal2 (d_X6_put x4 (41 : Int32) S18) (fun r22 S23 =>
  m_chk (zK S23 x1 = 1) (
  m_cal (f_X1_at x1 x10 S23) (fun o26 => m_chk (zt o26.2 = zt S23 ∧ zu o26.2 = zu S23) (
  m_chk (zK o26.2 o26.1 = 4) (
  m_bnd (x11 + (1 : Int32)) (fun v27 =>
  self99 x0 x1 x3 x4 x5 (1 : Int32) x8 x9 (zI o26.2 3 o26.1) v27 o26.2))))))))))))))))))))))
  )
  )
  )
theorem tt_X3_putLine_99s {Pw : Int32 → ZS → Prop} {rec : Nat → Nat → Int32 → Int32 → Nat → ZS → Option (Int32 × ZS)} {recg : Nat → Nat → Int32 → Int32 → Nat → ZS → Nat → Nat → (Int32 → ZS → Prop) → Prop} {self24 : Nat → Nat → Int32 → Nat → Nat → Int32 → Int32 → Int32 → ZS → Option (Int32 × ZS)} {self24g : Nat → Nat → Int32 → Nat → Nat → Int32 → Int32 → Int32 → ZS → Nat → Nat → Prop} {self99 : Nat → Nat → Int32 → Nat → Nat → Int32 → Int32 → Nat → Int32 → Int32 → ZS → Option (Int32 × ZS)} {self99g : Nat → Nat → Int32 → Nat → Nat → Int32 → Int32 → Nat → Int32 → Int32 → ZS → Nat → Nat → Prop} (hrec : ∀ (y0 : Nat) (y1 : Nat) (y2 : Int32) (y3 : Int32) (y4 : Nat) (S : ZS) (Pw : Int32 → ZS → Prop), Tw Pw (rec y0 y1 y2 y3 y4 S) (zt S) (zu S) (fun C T => recg y0 y1 y2 y3 y4 S C T Pw)) (hself24 : ∀ (y0 : Nat) (y1 : Nat) (y2 : Int32) (y3 : Nat) (y4 : Nat) (y5 : Int32) (y6 : Int32) (y7 : Int32) (S : ZS), Tw Pw (self24 y0 y1 y2 y3 y4 y5 y6 y7 S) (zt S) (zu S) (fun C T => self24g y0 y1 y2 y3 y4 y5 y6 y7 S C T)) (hself99 : ∀ (y0 : Nat) (y1 : Nat) (y2 : Int32) (y3 : Nat) (y4 : Nat) (y5 : Int32) (y6 : Int32) (y7 : Nat) (y8 : Int32) (y9 : Int32) (S : ZS), Tw Pw (self99 y0 y1 y2 y3 y4 y5 y6 y7 y8 y9 S) (zt S) (zu S) (fun C T => self99g y0 y1 y2 y3 y4 y5 y6 y7 y8 y9 S C T)) {x0 : Nat} {x1 : Nat} {x3 : Int32} {x4 : Nat} {x5 : Nat} {x6 : Int32} {x8 : Int32} {x9 : Nat} {x10 : Int32} {x11 : Int32} {S : ZS} : Tw Pw (d_X3_putLine_99s rec self24 self99 x0 x1 x3 x4 x5 x6 x8 x9 x10 x11 S) (zt S) (zu S) (fun C T => g_X3_putLine_99s Pw recg self24g self99g x0 x1 x3 x4 x5 x6 x8 x9 x10 x11 S C T) := by
  unfold d_X3_putLine_99s g_X3_putLine_99s
  refine tw_if (fun _ => ?_) (fun _ => ?_)
  ·
    exact tw_at (⟨rfl, rfl⟩ : zt S = zt S ∧ zu S = zu S) (tt_X3_putLine_183 hrec hself24)
  ·
    refine tw_if (fun _ => ?_) (fun _ => ?_)
    ·
      exact tw_at (⟨rfl, rfl⟩ : zt S = zt S ∧ zu S = zu S) (tt_X3_putLine_183 hrec hself24)
    ·
      refine tw_if (fun _ => ?_) (fun _ => ?_)
      ·
        exact tw_at (⟨rfl, rfl⟩ : zt S = zt S ∧ zu S = zu S) (tt_X3_putLine_183 hrec hself24)
      ·
        refine tw_chk (fun _ => ?_)
        refine tw_calv (fun b1 => ?_)
        refine tw_bndv (fun v2 => ?_)
        refine tw_chk (fun _ => ?_)
        refine tw_chk (fun _ => ?_)
        refine tw_calv (fun b3 => ?_)
        refine tw_chk (fun _ => ?_)
        refine tw_calf (⟨rfl, rfl⟩ : zt S = zt S ∧ zu S = zu S) (fun o4 co4 => ?_)
        refine tw_gal (fun Pw9 => tw_at co4 tt_X3_putGap) (fun r6 S7 => ?_)
        refine tw_chk (fun _ => ?_)
        refine tw_gal (fun Pw9 => tw_at (⟨rfl, rfl⟩ : zt S7 = zt S7 ∧ zu S7 = zu S7) tt_X6_put) (fun r11 S12 => ?_)
        refine tw_bndv (fun v15 => ?_)
        refine tw_chk (fun _ => ?_)
        refine tw_gal (fun Pw9 => tw_at (⟨rfl, rfl⟩ : zt S12 = zt S12 ∧ zu S12 = zu S12) (hrec _ _ _ _ _ _ Pw9)) (fun r17 S18 => ?_)
        refine tw_chk (fun _ => ?_)
        refine tw_gal (fun Pw9 => tw_at (⟨rfl, rfl⟩ : zt S18 = zt S18 ∧ zu S18 = zu S18) tt_X6_put) (fun r22 S23 => ?_)
        refine tw_chk (fun _ => ?_)
        refine tw_calf (⟨rfl, rfl⟩ : zt S23 = zt S23 ∧ zu S23 = zu S23) (fun o26 co26 => ?_)
        refine tw_chk (fun _ => ?_)
        refine tw_bndv (fun v27 => ?_)
        exact tw_at co26 (hself99 _ _ _ _ _ _ _ _ _ _ _)
noncomputable def d_X3_putLine_99 (rec : Nat → Nat → Int32 → Int32 → Nat → ZS → Option (Int32 × ZS)) (self24 : Nat → Nat → Int32 → Nat → Nat → Int32 → Int32 → Int32 → ZS → Option (Int32 × ZS)) : Nat → Nat → Nat → Int32 → Nat → Nat → Int32 → Int32 → Nat → Int32 → Int32 → ZS → Option (Int32 × ZS)
  | 0 => fun _ _ _ _ _ _ _ _ _ _ _ => none
  | n + 1 => d_X3_putLine_99s rec self24 (d_X3_putLine_99 rec self24 n)
theorem tt_X3_putLine_99 {Pw : Int32 → ZS → Prop} {rec : Nat → Nat → Int32 → Int32 → Nat → ZS → Option (Int32 × ZS)} {recg : Nat → Nat → Int32 → Int32 → Nat → ZS → Nat → Nat → (Int32 → ZS → Prop) → Prop} {self24 : Nat → Nat → Int32 → Nat → Nat → Int32 → Int32 → Int32 → ZS → Option (Int32 × ZS)} {self24g : Nat → Nat → Int32 → Nat → Nat → Int32 → Int32 → Int32 → ZS → Nat → Nat → Prop} (hrec : ∀ (y0 : Nat) (y1 : Nat) (y2 : Int32) (y3 : Int32) (y4 : Nat) (S : ZS) (Pw : Int32 → ZS → Prop), Tw Pw (rec y0 y1 y2 y3 y4 S) (zt S) (zu S) (fun C T => recg y0 y1 y2 y3 y4 S C T Pw)) (hself24 : ∀ (y0 : Nat) (y1 : Nat) (y2 : Int32) (y3 : Nat) (y4 : Nat) (y5 : Int32) (y6 : Int32) (y7 : Int32) (S : ZS), Tw Pw (self24 y0 y1 y2 y3 y4 y5 y6 y7 S) (zt S) (zu S) (fun C T => self24g y0 y1 y2 y3 y4 y5 y6 y7 S C T)) {n : Nat} : ∀ {z0 : Nat} {z1 : Nat} {z2 : Int32} {z3 : Nat} {z4 : Nat} {z5 : Int32} {z6 : Int32} {z7 : Nat} {z8 : Int32} {z9 : Int32} {S : ZS}, Tw Pw (d_X3_putLine_99 rec self24 n z0 z1 z2 z3 z4 z5 z6 z7 z8 z9 S) (zt S) (zu S) (fun C T => g_X3_putLine_99 Pw recg self24g n z0 z1 z2 z3 z4 z5 z6 z7 z8 z9 S C T) := by
  induction n with
  | zero => intro z0 z1 z2 z3 z4 z5 z6 z7 z8 z9 S; exact tw_none
  | succ n ih => intro z0 z1 z2 z3 z4 z5 z6 z7 z8 z9 S; exact tt_X3_putLine_99s hrec hself24 (fun _ _ _ _ _ _ _ _ _ _ _ => ih)
noncomputable def d_X3_putLine_94 (rec : Nat → Nat → Int32 → Int32 → Nat → ZS → Option (Int32 × ZS)) (self24 : Nat → Nat → Int32 → Nat → Nat → Int32 → Int32 → Int32 → ZS → Option (Int32 × ZS)) (x0 : Nat) (x1 : Nat) (x3 : Int32) (x4 : Nat) (x5 : Nat) (x6 : Int32) (x8 : Int32) (x9 : Nat) (t0 : Int32) (S : ZS) : Option (Int32 × ZS) :=
  d_X3_putLine_99 rec self24 mFuel x0 x1 x3 x4 x5 x6 x8 x9 t0 (0 : Int32) S
theorem tt_X3_putLine_94 {Pw : Int32 → ZS → Prop} {rec : Nat → Nat → Int32 → Int32 → Nat → ZS → Option (Int32 × ZS)} {recg : Nat → Nat → Int32 → Int32 → Nat → ZS → Nat → Nat → (Int32 → ZS → Prop) → Prop} {self24 : Nat → Nat → Int32 → Nat → Nat → Int32 → Int32 → Int32 → ZS → Option (Int32 × ZS)} {self24g : Nat → Nat → Int32 → Nat → Nat → Int32 → Int32 → Int32 → ZS → Nat → Nat → Prop} (hrec : ∀ (y0 : Nat) (y1 : Nat) (y2 : Int32) (y3 : Int32) (y4 : Nat) (S : ZS) (Pw : Int32 → ZS → Prop), Tw Pw (rec y0 y1 y2 y3 y4 S) (zt S) (zu S) (fun C T => recg y0 y1 y2 y3 y4 S C T Pw)) (hself24 : ∀ (y0 : Nat) (y1 : Nat) (y2 : Int32) (y3 : Nat) (y4 : Nat) (y5 : Int32) (y6 : Int32) (y7 : Int32) (S : ZS), Tw Pw (self24 y0 y1 y2 y3 y4 y5 y6 y7 S) (zt S) (zu S) (fun C T => self24g y0 y1 y2 y3 y4 y5 y6 y7 S C T)) {x0 : Nat} {x1 : Nat} {x3 : Int32} {x4 : Nat} {x5 : Nat} {x6 : Int32} {x8 : Int32} {x9 : Nat} {t0 : Int32} {S : ZS} : Tw Pw (d_X3_putLine_94 rec self24 x0 x1 x3 x4 x5 x6 x8 x9 t0 S) (zt S) (zu S) (fun C T => g_X3_putLine_94 Pw recg self24g x0 x1 x3 x4 x5 x6 x8 x9 t0 S C T) := by
  unfold d_X3_putLine_94 g_X3_putLine_94
  exact tw_at (⟨rfl, rfl⟩ : zt S = zt S ∧ zu S = zu S) (tt_X3_putLine_99 hrec hself24)
noncomputable def d_X3_putLine_74 (rec : Nat → Nat → Int32 → Int32 → Nat → ZS → Option (Int32 × ZS)) (self24 : Nat → Nat → Int32 → Nat → Nat → Int32 → Int32 → Int32 → ZS → Option (Int32 × ZS)) (x0 : Nat) (x1 : Nat) (x3 : Int32) (x4 : Nat) (x5 : Nat) (x7 : Int32) (x8 : Int32) (x9 : Nat) (t0 : Int32) (S : ZS) : Option (Int32 × ZS) :=
  m_chk (zK S x1 = 1) (
  m_cal (f_X1_goesOn x1 x7 S) (fun o1 => m_chk (zt o1.2 = zt S ∧ zu o1.2 = zu S) (
  m_if (o1.1 = 0) (
  d_X3_putLine_94 rec self24 x0 x1 x3 x4 x5 t0 x8 x9 (-1 : Int32) o1.2
  ) (
  m_chk (zK o1.2 x9 = 4) (
  d_X3_putLine_94 rec self24 x0 x1 x3 x4 x5 t0 x8 x9 (zI o1.2 3 x9) o1.2)
  ))))
theorem tt_X3_putLine_74 {Pw : Int32 → ZS → Prop} {rec : Nat → Nat → Int32 → Int32 → Nat → ZS → Option (Int32 × ZS)} {recg : Nat → Nat → Int32 → Int32 → Nat → ZS → Nat → Nat → (Int32 → ZS → Prop) → Prop} {self24 : Nat → Nat → Int32 → Nat → Nat → Int32 → Int32 → Int32 → ZS → Option (Int32 × ZS)} {self24g : Nat → Nat → Int32 → Nat → Nat → Int32 → Int32 → Int32 → ZS → Nat → Nat → Prop} (hrec : ∀ (y0 : Nat) (y1 : Nat) (y2 : Int32) (y3 : Int32) (y4 : Nat) (S : ZS) (Pw : Int32 → ZS → Prop), Tw Pw (rec y0 y1 y2 y3 y4 S) (zt S) (zu S) (fun C T => recg y0 y1 y2 y3 y4 S C T Pw)) (hself24 : ∀ (y0 : Nat) (y1 : Nat) (y2 : Int32) (y3 : Nat) (y4 : Nat) (y5 : Int32) (y6 : Int32) (y7 : Int32) (S : ZS), Tw Pw (self24 y0 y1 y2 y3 y4 y5 y6 y7 S) (zt S) (zu S) (fun C T => self24g y0 y1 y2 y3 y4 y5 y6 y7 S C T)) {x0 : Nat} {x1 : Nat} {x3 : Int32} {x4 : Nat} {x5 : Nat} {x7 : Int32} {x8 : Int32} {x9 : Nat} {t0 : Int32} {S : ZS} : Tw Pw (d_X3_putLine_74 rec self24 x0 x1 x3 x4 x5 x7 x8 x9 t0 S) (zt S) (zu S) (fun C T => g_X3_putLine_74 Pw recg self24g x0 x1 x3 x4 x5 x7 x8 x9 t0 S C T) := by
  unfold d_X3_putLine_74 g_X3_putLine_74
  refine tw_chk (fun _ => ?_)
  refine tw_calf (⟨rfl, rfl⟩ : zt S = zt S ∧ zu S = zu S) (fun o1 co1 => ?_)
  refine tw_if (fun _ => ?_) (fun _ => ?_)
  ·
    exact tw_at co1 (tt_X3_putLine_94 hrec hself24)
  ·
    refine tw_chk (fun _ => ?_)
    exact tw_at co1 (tt_X3_putLine_94 hrec hself24)
noncomputable def d_X3_putLine_24s (rec : Nat → Nat → Int32 → Int32 → Nat → ZS → Option (Int32 × ZS)) (self24 : Nat → Nat → Int32 → Nat → Nat → Int32 → Int32 → Int32 → ZS → Option (Int32 × ZS)) (x0 : Nat) (x1 : Nat) (x3 : Int32) (x4 : Nat) (x5 : Nat) (x6 : Int32) (x7 : Int32) (x8 : Int32) (S : ZS) : Option (Int32 × ZS) :=
  m_if ((300 : Int32) ≤ x8) (
  d_X3_putLine_206 rec S
  ) (
  m_if (x7 = (-1 : Int32)) (
  d_X3_putLine_206 rec S
  ) (
  m_chk (zK S x1 = 1) (
  m_cal (f_X1_at x1 x7 S) (fun o1 => m_chk (zt o1.2 = zt S ∧ zu o1.2 = zu S) (
  m_chk (zK o1.2 x0 = 3) (
  m_cal2 (d_X3_putMove x0 x5 o1.1 x6 x4 o1.2) (fun r3 S4 =>
  m_chk (zK S4 o1.1 = 4) (
  m_cal (zP S4 6 o1.1) (fun b7 =>
  m_chk (zK S4 b7 = 6) (
  m_cal (f_X6_size b7 S4) (fun o8 => m_chk (zt o8.2 = zt S4 ∧ zu o8.2 = zu S4) (
  m_if (o8.1 ≤ 0) (
  d_X3_putLine_74 rec self24 x0 x1 x3 x4 x5 x7 x8 o1.1 (0 : Int32) o8.2
  ) (
  d_X3_putLine_74 rec self24 x0 x1 x3 x4 x5 x7 x8 o1.1 (1 : Int32) o8.2
  )))))))))))
  )
  )
theorem tt_X3_putLine_24s {Pw : Int32 → ZS → Prop} {rec : Nat → Nat → Int32 → Int32 → Nat → ZS → Option (Int32 × ZS)} {recg : Nat → Nat → Int32 → Int32 → Nat → ZS → Nat → Nat → (Int32 → ZS → Prop) → Prop} {self24 : Nat → Nat → Int32 → Nat → Nat → Int32 → Int32 → Int32 → ZS → Option (Int32 × ZS)} {self24g : Nat → Nat → Int32 → Nat → Nat → Int32 → Int32 → Int32 → ZS → Nat → Nat → Prop} (hrec : ∀ (y0 : Nat) (y1 : Nat) (y2 : Int32) (y3 : Int32) (y4 : Nat) (S : ZS) (Pw : Int32 → ZS → Prop), Tw Pw (rec y0 y1 y2 y3 y4 S) (zt S) (zu S) (fun C T => recg y0 y1 y2 y3 y4 S C T Pw)) (hself24 : ∀ (y0 : Nat) (y1 : Nat) (y2 : Int32) (y3 : Nat) (y4 : Nat) (y5 : Int32) (y6 : Int32) (y7 : Int32) (S : ZS), Tw Pw (self24 y0 y1 y2 y3 y4 y5 y6 y7 S) (zt S) (zu S) (fun C T => self24g y0 y1 y2 y3 y4 y5 y6 y7 S C T)) {x0 : Nat} {x1 : Nat} {x3 : Int32} {x4 : Nat} {x5 : Nat} {x6 : Int32} {x7 : Int32} {x8 : Int32} {S : ZS} : Tw Pw (d_X3_putLine_24s rec self24 x0 x1 x3 x4 x5 x6 x7 x8 S) (zt S) (zu S) (fun C T => g_X3_putLine_24s Pw recg self24g x0 x1 x3 x4 x5 x6 x7 x8 S C T) := by
  unfold d_X3_putLine_24s g_X3_putLine_24s
  refine tw_if (fun _ => ?_) (fun _ => ?_)
  ·
    exact tw_at (⟨rfl, rfl⟩ : zt S = zt S ∧ zu S = zu S) (tt_X3_putLine_206 hrec)
  ·
    refine tw_if (fun _ => ?_) (fun _ => ?_)
    ·
      exact tw_at (⟨rfl, rfl⟩ : zt S = zt S ∧ zu S = zu S) (tt_X3_putLine_206 hrec)
    ·
      refine tw_chk (fun _ => ?_)
      refine tw_calf (⟨rfl, rfl⟩ : zt S = zt S ∧ zu S = zu S) (fun o1 co1 => ?_)
      refine tw_chk (fun _ => ?_)
      refine tw_gal (fun Pw9 => tw_at co1 tt_X3_putMove) (fun r3 S4 => ?_)
      refine tw_chk (fun _ => ?_)
      refine tw_calv (fun b7 => ?_)
      refine tw_chk (fun _ => ?_)
      refine tw_calf (⟨rfl, rfl⟩ : zt S4 = zt S4 ∧ zu S4 = zu S4) (fun o8 co8 => ?_)
      refine tw_if (fun _ => ?_) (fun _ => ?_)
      ·
        exact tw_at co8 (tt_X3_putLine_74 hrec hself24)
      ·
        exact tw_at co8 (tt_X3_putLine_74 hrec hself24)
noncomputable def d_X3_putLine_24 (rec : Nat → Nat → Int32 → Int32 → Nat → ZS → Option (Int32 × ZS)) : Nat → Nat → Nat → Int32 → Nat → Nat → Int32 → Int32 → Int32 → ZS → Option (Int32 × ZS)
  | 0 => fun _ _ _ _ _ _ _ _ _ => none
  | n + 1 => d_X3_putLine_24s rec (d_X3_putLine_24 rec n)
theorem tt_X3_putLine_24 {Pw : Int32 → ZS → Prop} {rec : Nat → Nat → Int32 → Int32 → Nat → ZS → Option (Int32 × ZS)} {recg : Nat → Nat → Int32 → Int32 → Nat → ZS → Nat → Nat → (Int32 → ZS → Prop) → Prop} (hrec : ∀ (y0 : Nat) (y1 : Nat) (y2 : Int32) (y3 : Int32) (y4 : Nat) (S : ZS) (Pw : Int32 → ZS → Prop), Tw Pw (rec y0 y1 y2 y3 y4 S) (zt S) (zu S) (fun C T => recg y0 y1 y2 y3 y4 S C T Pw)) {n : Nat} : ∀ {z0 : Nat} {z1 : Nat} {z2 : Int32} {z3 : Nat} {z4 : Nat} {z5 : Int32} {z6 : Int32} {z7 : Int32} {S : ZS}, Tw Pw (d_X3_putLine_24 rec n z0 z1 z2 z3 z4 z5 z6 z7 S) (zt S) (zu S) (fun C T => g_X3_putLine_24 Pw recg n z0 z1 z2 z3 z4 z5 z6 z7 S C T) := by
  induction n with
  | zero => intro z0 z1 z2 z3 z4 z5 z6 z7 S; exact tw_none
  | succ n ih => intro z0 z1 z2 z3 z4 z5 z6 z7 S; exact tt_X3_putLine_24s hrec (fun _ _ _ _ _ _ _ _ _ => ih)
noncomputable def d_X3_putLine_0 (rec : Nat → Nat → Int32 → Int32 → Nat → ZS → Option (Int32 × ZS)) (x0 : Nat) (x1 : Nat) (x2 : Int32) (x3 : Int32) (x4 : Nat) (S : ZS) : Option (Int32 × ZS) :=
  m_if (x3 ≤ (6 : Int32)) (
  m_chk (zK S x0 = 3) (
  m_cal (zP S 1 x0) (fun b1 =>
  m_chk (zK S b1 = 15) (
  m_chk (¬ (x3 < 0 ∨ zN S b1 ≤ (x3).toNatClampNeg)) (
  m_cal (zB S b1 (x3).toNatClampNeg) (fun b2 =>
  d_X3_putLine_24 rec mFuel x0 x1 x3 x4 b2 (1 : Int32) x2 (0 : Int32) S)))))
  ) (
  some (0, S)
  )
theorem tt_X3_putLine_0 {Pw : Int32 → ZS → Prop} {rec : Nat → Nat → Int32 → Int32 → Nat → ZS → Option (Int32 × ZS)} {recg : Nat → Nat → Int32 → Int32 → Nat → ZS → Nat → Nat → (Int32 → ZS → Prop) → Prop} (hrec : ∀ (y0 : Nat) (y1 : Nat) (y2 : Int32) (y3 : Int32) (y4 : Nat) (S : ZS) (Pw : Int32 → ZS → Prop), Tw Pw (rec y0 y1 y2 y3 y4 S) (zt S) (zu S) (fun C T => recg y0 y1 y2 y3 y4 S C T Pw)) {x0 : Nat} {x1 : Nat} {x2 : Int32} {x3 : Int32} {x4 : Nat} {S : ZS} : Tw Pw (d_X3_putLine_0 rec x0 x1 x2 x3 x4 S) (zt S) (zu S) (fun C T => g_X3_putLine_0 Pw recg x0 x1 x2 x3 x4 S C T) := by
  unfold d_X3_putLine_0 g_X3_putLine_0
  refine tw_if (fun _ => ?_) (fun _ => ?_)
  ·
    refine tw_chk (fun _ => ?_)
    refine tw_calv (fun b1 => ?_)
    refine tw_chk (fun _ => ?_)
    refine tw_chk (fun _ => ?_)
    refine tw_calv (fun b2 => ?_)
    exact tw_at (⟨rfl, rfl⟩ : zt S = zt S ∧ zu S = zu S) (tt_X3_putLine_24 hrec)
  ·
    exact tw_ret (⟨rfl, rfl⟩ : zt S = zt S ∧ zu S = zu S)
noncomputable def dr_X3_putLine : Nat → Nat → Nat → Int32 → Int32 → Nat → ZS → Option (Int32 × ZS)
  | 0 => fun _ _ _ _ _ _ => none
  | n + 1 => fun x0 x1 x2 x3 x4 S => d_X3_putLine_0 (dr_X3_putLine n) x0 x1 x2 x3 x4 S
theorem tr_X3_putLine (n : Nat) : ∀ (x0 : Nat) (x1 : Nat) (x2 : Int32) (x3 : Int32) (x4 : Nat) (S : ZS) (Pw : Int32 → ZS → Prop), Tw Pw (dr_X3_putLine n x0 x1 x2 x3 x4 S) (zt S) (zu S) (fun C T => gr_X3_putLine n x0 x1 x2 x3 x4 S C T Pw) := by
  induction n with
  | zero => intro x0 x1 x2 x3 x4 S Pw; exact tw_none
  | succ n ih => intro x0 x1 x2 x3 x4 S Pw; exact tt_X3_putLine_0 (fun x0 x1 x2 x3 x4 S Pw => ih x0 x1 x2 x3 x4 S Pw)
noncomputable def d_X3_putLine (x0 : Nat) (x1 : Nat) (x2 : Int32) (x3 : Int32) (x4 : Nat) (S : ZS) : Option (Int32 × ZS) := dr_X3_putLine 8 x0 x1 x2 x3 x4 S
theorem tt_X3_putLine {Pw : Int32 → ZS → Prop} {x0 : Nat} {x1 : Nat} {x2 : Int32} {x3 : Int32} {x4 : Nat} {S : ZS} : Tw Pw (d_X3_putLine x0 x1 x2 x3 x4 S) (zt S) (zu S) (fun C T => g_X3_putLine x0 x1 x2 x3 x4 S C T Pw) := tr_X3_putLine _ _ _ _ _ _ _ Pw
noncomputable def d_X11_init_0 (x0 : Nat) (S : ZS) : Option (Int32 × ZS) :=
  m_bnd (zt S) (fun q1 =>
  m_bnd (zsNewO S q1 6 2) (fun S2 =>
  m_cal (f_X6_init q1 S2) (fun o5 => m_chk (zt o5.2 = zt S2 ∧ zu o5.2 = zu S2) (
  m_chk (zK o5.2 x0 = 11) (
  m_bnd (zsP o5.2 0 x0 (some q1)) (fun S6 =>
  m_bnd (zt S6) (fun q7 =>
  m_bnd (zsNewO S6 q7 6 2) (fun S8 =>
  m_cal (f_X6_init q7 S8) (fun o11 => m_chk (zt o11.2 = zt S8 ∧ zu o11.2 = zu S8) (
  m_chk (zK o11.2 x0 = 11) (
  m_bnd (zsP o11.2 1 x0 (some q7)) (fun S12 =>
  m_bnd (zt S12) (fun q13 =>
  m_bnd (zsNewO S12 q13 7 2) (fun S14 =>
  m_cal2 (d_X7_init q13 S14) (fun r18 S19 =>
  m_chk (zK S19 x0 = 11) (
  m_bnd (zsP S19 2 x0 (some q13)) (fun S22 =>
  m_bnd (zt S22) (fun q23 =>
  m_bnd (zsNewO S22 q23 8 12) (fun S24 =>
  m_cal2 (d_X8_init q23 S24) (fun r28 S29 =>
  m_chk (zK S29 x0 = 11) (
  m_bnd (zsP S29 3 x0 (some q23)) (fun S32 =>
  m_bnd (zt S32) (fun q33 =>
  m_bnd (zsNewO S32 q33 9 1) (fun S34 =>
  m_cal2 (d_X9_init q33 S34) (fun r38 S39 =>
  m_chk (zK S39 x0 = 11) (
  m_bnd (zsP S39 4 x0 (some q33)) (fun S42 =>
  m_bnd (zt S42) (fun q43 =>
  m_bnd (zsNewO S42 q43 2 12) (fun S44 =>
  m_cal2 (d_X2_init q43 S44) (fun r48 S49 =>
  m_chk (zK S49 x0 = 11) (
  m_bnd (zsP S49 5 x0 (some q43)) (fun S52 =>
  m_bnd (zt S52) (fun q53 =>
  m_bnd (zsNewO S52 q53 3 2) (fun S54 =>
  m_cal2 (d_X3_init q53 S54) (fun r58 S59 =>
  m_chk (zK S59 x0 = 11) (
  m_bnd (zsP S59 6 x0 (some q53)) (fun S62 =>
  m_bnd (zt S62) (fun q63 =>
  m_bnd (zsNewO S62 q63 1 8) (fun S64 =>
  m_cal2 (d_X1_init q63 S64) (fun r68 S69 =>
  m_chk (zK S69 x0 = 11) (
  m_bnd (zsP S69 7 x0 (some q63)) (fun S72 =>
  m_chk (zK S72 x0 = 11) (
  m_bnd (zsI S72 8 x0 (0 : Int32)) (fun S73 =>
  m_bnd (zt S73) (fun q74 =>
  m_bnd (zsNewO S73 q74 0 7) (fun S75 =>
  m_cal2 (d_X0_init q74 S75) (fun r79 S80 =>
  m_chk (zK S80 x0 = 11) (
  m_bnd (zsP S80 9 x0 (some q74)) (fun S83 =>
  m_chk (zK S83 x0 = 11) (
  m_cal (zP S83 9 x0) (fun b84 =>
  m_chk (zK S83 b84 = 0) (
  m_cal (f_X0_setUp b84 S83) (fun o85 => m_chk (zt o85.2 = zt S83 ∧ zu o85.2 = zu S83) (
  some (0, o85.2)))))))))))))))))))))))))))))))))))))))))))))))))))))))
theorem tt_X11_init_0 {Pw : Int32 → ZS → Prop}   {x0 : Nat} {S : ZS} : Tw Pw (d_X11_init_0 x0 S) (zt S) (zu S) (fun C T => g_X11_init_0 Pw x0 S C T) := by
  unfold d_X11_init_0 g_X11_init_0
  refine tw_new (fun _ => ⟨congrArg (· + 1) (⟨rfl, rfl⟩ : zt S = zt S ∧ zu S = zu S).1, congrArg (· + _) (⟨rfl, rfl⟩ : zt S = zt S ∧ zu S = zu S).2⟩) (fun q1 S2 cS2 => ?_)
  refine tw_calf cS2 (fun o5 co5 => ?_)
  refine tw_chk (fun _ => ?_)
  refine tw_bnds co5 (fun S6 cS6 => ?_)
  refine tw_new (fun _ => ⟨congrArg (· + 1) cS6.1, congrArg (· + _) cS6.2⟩) (fun q7 S8 cS8 => ?_)
  refine tw_calf cS8 (fun o11 co11 => ?_)
  refine tw_chk (fun _ => ?_)
  refine tw_bnds co11 (fun S12 cS12 => ?_)
  refine tw_new (fun _ => ⟨congrArg (· + 1) cS12.1, congrArg (· + _) cS12.2⟩) (fun q13 S14 cS14 => ?_)
  refine tw_gal (fun Pw9 => tw_at cS14 tt_X7_init) (fun r18 S19 => ?_)
  refine tw_chk (fun _ => ?_)
  refine tw_bnds (⟨rfl, rfl⟩ : zt S19 = zt S19 ∧ zu S19 = zu S19) (fun S22 cS22 => ?_)
  refine tw_new (fun _ => ⟨congrArg (· + 1) cS22.1, congrArg (· + _) cS22.2⟩) (fun q23 S24 cS24 => ?_)
  refine tw_gal (fun Pw9 => tw_at cS24 tt_X8_init) (fun r28 S29 => ?_)
  refine tw_chk (fun _ => ?_)
  refine tw_bnds (⟨rfl, rfl⟩ : zt S29 = zt S29 ∧ zu S29 = zu S29) (fun S32 cS32 => ?_)
  refine tw_new (fun _ => ⟨congrArg (· + 1) cS32.1, congrArg (· + _) cS32.2⟩) (fun q33 S34 cS34 => ?_)
  refine tw_gal (fun Pw9 => tw_at cS34 tt_X9_init) (fun r38 S39 => ?_)
  refine tw_chk (fun _ => ?_)
  refine tw_bnds (⟨rfl, rfl⟩ : zt S39 = zt S39 ∧ zu S39 = zu S39) (fun S42 cS42 => ?_)
  refine tw_new (fun _ => ⟨congrArg (· + 1) cS42.1, congrArg (· + _) cS42.2⟩) (fun q43 S44 cS44 => ?_)
  refine tw_gal (fun Pw9 => tw_at cS44 tt_X2_init) (fun r48 S49 => ?_)
  refine tw_chk (fun _ => ?_)
  refine tw_bnds (⟨rfl, rfl⟩ : zt S49 = zt S49 ∧ zu S49 = zu S49) (fun S52 cS52 => ?_)
  refine tw_new (fun _ => ⟨congrArg (· + 1) cS52.1, congrArg (· + _) cS52.2⟩) (fun q53 S54 cS54 => ?_)
  refine tw_gal (fun Pw9 => tw_at cS54 tt_X3_init) (fun r58 S59 => ?_)
  refine tw_chk (fun _ => ?_)
  refine tw_bnds (⟨rfl, rfl⟩ : zt S59 = zt S59 ∧ zu S59 = zu S59) (fun S62 cS62 => ?_)
  refine tw_new (fun _ => ⟨congrArg (· + 1) cS62.1, congrArg (· + _) cS62.2⟩) (fun q63 S64 cS64 => ?_)
  refine tw_gal (fun Pw9 => tw_at cS64 tt_X1_init) (fun r68 S69 => ?_)
  refine tw_chk (fun _ => ?_)
  refine tw_bnds (⟨rfl, rfl⟩ : zt S69 = zt S69 ∧ zu S69 = zu S69) (fun S72 cS72 => ?_)
  refine tw_chk (fun _ => ?_)
  refine tw_bnds cS72 (fun S73 cS73 => ?_)
  refine tw_new (fun _ => ⟨congrArg (· + 1) cS73.1, congrArg (· + _) cS73.2⟩) (fun q74 S75 cS75 => ?_)
  refine tw_gal (fun Pw9 => tw_at cS75 tt_X0_init) (fun r79 S80 => ?_)
  refine tw_chk (fun _ => ?_)
  refine tw_bnds (⟨rfl, rfl⟩ : zt S80 = zt S80 ∧ zu S80 = zu S80) (fun S83 cS83 => ?_)
  refine tw_chk (fun _ => ?_)
  refine tw_calv (fun b84 => ?_)
  refine tw_chk (fun _ => ?_)
  refine tw_calf cS83 (fun o85 co85 => ?_)
  exact tw_ret co85
noncomputable def d_X11_init (x0 : Nat) (S : ZS) : Option (Int32 × ZS) := d_X11_init_0 x0 S
theorem tt_X11_init {Pw : Int32 → ZS → Prop} {x0 : Nat} {S : ZS} : Tw Pw (d_X11_init x0 S) (zt S) (zu S) (fun C T => g_X11_init x0 S C T Pw) := tt_X11_init_0
noncomputable def d_X11_type_26 (S : ZS) : Option (Int32 × ZS) :=
  m_chk (vp_nar .boolean (0 : Int32) = (0 : Int32)) (
  some ((0 : Int32), S))
theorem tt_X11_type_26 {Pw : Int32 → ZS → Prop}   {S : ZS} : Tw Pw (d_X11_type_26 S) (zt S) (zu S) (fun C T => g_X11_type_26 Pw S C T) := by
  unfold d_X11_type_26 g_X11_type_26
  refine tw_chk (fun _ => ?_)
  exact tw_ret (⟨rfl, rfl⟩ : zt S = zt S ∧ zu S = zu S)
noncomputable def d_X11_type_77s (self77 : Nat → Int64 → Int32 → Int32 → ZS → Option (Int32 × ZS)) (x0 : Nat) (x1 : Int64) (x3 : Int32) (x4 : Int32) (S : ZS) : Option (Int32 × ZS) :=
  m_if (x3 ≤ x4) (
  m_chk (vp_nar .boolean (1 : Int32) = (1 : Int32)) (
  some ((1 : Int32), S))
  ) (
  m_chk (zK S x0 = 11) (
  m_cal (zP S 0 x0) (fun b1 =>
  m_cal (f_X11_byteOf x1 x4 S) (fun o2 => m_chk (zt o2.2 = zt S ∧ zu o2.2 = zu S) (
  m_chk (zK o2.2 b1 = 6) (
  m_cal2 (d_X6_put b1 o2.1 o2.2) (fun r4 S5 =>
  m_bnd (x4 + (1 : Int32)) (fun v8 =>
  self77 x0 x1 x3 v8 S5)))))))
  )
theorem tt_X11_type_77s {Pw : Int32 → ZS → Prop} {self77 : Nat → Int64 → Int32 → Int32 → ZS → Option (Int32 × ZS)} {self77g : Nat → Int64 → Int32 → Int32 → ZS → Nat → Nat → Prop} (hself77 : ∀ (y0 : Nat) (y1 : Int64) (y2 : Int32) (y3 : Int32) (S : ZS), Tw Pw (self77 y0 y1 y2 y3 S) (zt S) (zu S) (fun C T => self77g y0 y1 y2 y3 S C T)) {x0 : Nat} {x1 : Int64} {x3 : Int32} {x4 : Int32} {S : ZS} : Tw Pw (d_X11_type_77s self77 x0 x1 x3 x4 S) (zt S) (zu S) (fun C T => g_X11_type_77s Pw self77g x0 x1 x3 x4 S C T) := by
  unfold d_X11_type_77s g_X11_type_77s
  refine tw_if (fun _ => ?_) (fun _ => ?_)
  ·
    refine tw_chk (fun _ => ?_)
    exact tw_ret (⟨rfl, rfl⟩ : zt S = zt S ∧ zu S = zu S)
  ·
    refine tw_chk (fun _ => ?_)
    refine tw_calv (fun b1 => ?_)
    refine tw_calf (⟨rfl, rfl⟩ : zt S = zt S ∧ zu S = zu S) (fun o2 co2 => ?_)
    refine tw_chk (fun _ => ?_)
    refine tw_gal (fun Pw9 => tw_at co2 tt_X6_put) (fun r4 S5 => ?_)
    refine tw_bndv (fun v8 => ?_)
    exact tw_at (⟨rfl, rfl⟩ : zt S5 = zt S5 ∧ zu S5 = zu S5) (hself77 _ _ _ _ _)
noncomputable def d_X11_type_77  : Nat → Nat → Int64 → Int32 → Int32 → ZS → Option (Int32 × ZS)
  | 0 => fun _ _ _ _ _ => none
  | n + 1 => d_X11_type_77s  (d_X11_type_77  n)
theorem tt_X11_type_77 {Pw : Int32 → ZS → Prop}   {n : Nat} : ∀ {z0 : Nat} {z1 : Int64} {z2 : Int32} {z3 : Int32} {S : ZS}, Tw Pw (d_X11_type_77  n z0 z1 z2 z3 S) (zt S) (zu S) (fun C T => g_X11_type_77 Pw  n z0 z1 z2 z3 S C T) := by
  induction n with
  | zero => intro z0 z1 z2 z3 S; exact tw_none
  | succ n ih => intro z0 z1 z2 z3 S; exact tt_X11_type_77s  (fun _ _ _ _ _ => ih)
noncomputable def d_X11_type_68 (self31 : Nat → Int64 → Int32 → Int32 → ZS → Option (Int32 × ZS)) (x0 : Nat) (x1 : Int64) (x3 : Int32) (x4 : Int32) (S : ZS) : Option (Int32 × ZS) :=
  m_bnd (x4 + (1 : Int32)) (fun v1 =>
  self31 x0 x1 x3 v1 S)
theorem tt_X11_type_68 {Pw : Int32 → ZS → Prop} {self31 : Nat → Int64 → Int32 → Int32 → ZS → Option (Int32 × ZS)} {self31g : Nat → Int64 → Int32 → Int32 → ZS → Nat → Nat → Prop} (hself31 : ∀ (y0 : Nat) (y1 : Int64) (y2 : Int32) (y3 : Int32) (S : ZS), Tw Pw (self31 y0 y1 y2 y3 S) (zt S) (zu S) (fun C T => self31g y0 y1 y2 y3 S C T)) {x0 : Nat} {x1 : Int64} {x3 : Int32} {x4 : Int32} {S : ZS} : Tw Pw (d_X11_type_68 self31 x0 x1 x3 x4 S) (zt S) (zu S) (fun C T => g_X11_type_68 Pw self31g x0 x1 x3 x4 S C T) := by
  unfold d_X11_type_68 g_X11_type_68
  refine tw_bndv (fun v1 => ?_)
  exact tw_at (⟨rfl, rfl⟩ : zt S = zt S ∧ zu S = zu S) (hself31 _ _ _ _ _)
noncomputable def d_X11_type_66 (S : ZS) : Option (Int32 × ZS) :=
  m_chk (vp_nar .boolean (0 : Int32) = (0 : Int32)) (
  some ((0 : Int32), S))
theorem tt_X11_type_66 {Pw : Int32 → ZS → Prop}   {S : ZS} : Tw Pw (d_X11_type_66 S) (zt S) (zu S) (fun C T => g_X11_type_66 Pw S C T) := by
  unfold d_X11_type_66 g_X11_type_66
  refine tw_chk (fun _ => ?_)
  exact tw_ret (⟨rfl, rfl⟩ : zt S = zt S ∧ zu S = zu S)
noncomputable def d_X11_type_31s (self31 : Nat → Int64 → Int32 → Int32 → ZS → Option (Int32 × ZS)) (x0 : Nat) (x1 : Int64) (x3 : Int32) (x4 : Int32) (S : ZS) : Option (Int32 × ZS) :=
  m_if (x3 ≤ x4) (
  d_X11_type_77 mFuel x0 x1 x3 (0 : Int32) S
  ) (
  m_cal (f_X11_byteOf x1 x4 S) (fun o1 => m_chk (zt o1.2 = zt S ∧ zu o1.2 = zu S) (
  m_if (o1.1 = (10 : Int32)) (
  d_X11_type_68 self31 x0 x1 x3 x4 o1.2
  ) (
  m_if (o1.1 < (32 : Int32)) (
  d_X11_type_66 o1.2
  ) (
  m_if (o1.1 ≤ (126 : Int32)) (
  d_X11_type_68 self31 x0 x1 x3 x4 o1.2
  ) (
  d_X11_type_66 o1.2
  )
  )
  )))
  )
theorem tt_X11_type_31s {Pw : Int32 → ZS → Prop} {self31 : Nat → Int64 → Int32 → Int32 → ZS → Option (Int32 × ZS)} {self31g : Nat → Int64 → Int32 → Int32 → ZS → Nat → Nat → Prop} (hself31 : ∀ (y0 : Nat) (y1 : Int64) (y2 : Int32) (y3 : Int32) (S : ZS), Tw Pw (self31 y0 y1 y2 y3 S) (zt S) (zu S) (fun C T => self31g y0 y1 y2 y3 S C T)) {x0 : Nat} {x1 : Int64} {x3 : Int32} {x4 : Int32} {S : ZS} : Tw Pw (d_X11_type_31s self31 x0 x1 x3 x4 S) (zt S) (zu S) (fun C T => g_X11_type_31s Pw self31g x0 x1 x3 x4 S C T) := by
  unfold d_X11_type_31s g_X11_type_31s
  refine tw_if (fun _ => ?_) (fun _ => ?_)
  ·
    exact tw_at (⟨rfl, rfl⟩ : zt S = zt S ∧ zu S = zu S) (tt_X11_type_77)
  ·
    refine tw_calf (⟨rfl, rfl⟩ : zt S = zt S ∧ zu S = zu S) (fun o1 co1 => ?_)
    refine tw_if (fun _ => ?_) (fun _ => ?_)
    ·
      exact tw_at co1 (tt_X11_type_68 hself31)
    ·
      refine tw_if (fun _ => ?_) (fun _ => ?_)
      ·
        exact tw_at co1 (tt_X11_type_66)
      ·
        refine tw_if (fun _ => ?_) (fun _ => ?_)
        ·
          exact tw_at co1 (tt_X11_type_68 hself31)
        ·
          exact tw_at co1 (tt_X11_type_66)
noncomputable def d_X11_type_31  : Nat → Nat → Int64 → Int32 → Int32 → ZS → Option (Int32 × ZS)
  | 0 => fun _ _ _ _ _ => none
  | n + 1 => d_X11_type_31s  (d_X11_type_31  n)
theorem tt_X11_type_31 {Pw : Int32 → ZS → Prop}   {n : Nat} : ∀ {z0 : Nat} {z1 : Int64} {z2 : Int32} {z3 : Int32} {S : ZS}, Tw Pw (d_X11_type_31  n z0 z1 z2 z3 S) (zt S) (zu S) (fun C T => g_X11_type_31 Pw  n z0 z1 z2 z3 S C T) := by
  induction n with
  | zero => intro z0 z1 z2 z3 S; exact tw_none
  | succ n ih => intro z0 z1 z2 z3 S; exact tt_X11_type_31s  (fun _ _ _ _ _ => ih)
noncomputable def d_X11_type_0 (x0 : Nat) (x1 : Int64) (x3 : Int32) (S : ZS) : Option (Int32 × ZS) :=
  m_if (x3 < (1 : Int32)) (
  d_X11_type_26 S
  ) (
  m_if ((8 : Int32) < x3) (
  d_X11_type_26 S
  ) (
  m_chk (zK S x0 = 11) (
  m_cal (zP S 0 x0) (fun b1 =>
  m_chk (zK S b1 = 6) (
  m_cal (f_X6_size b1 S) (fun o2 => m_chk (zt o2.2 = zt S ∧ zu o2.2 = zu S) (
  m_bnd (o2.1 + x3) (fun v3 =>
  m_if (v3 ≤ (2000 : Int32)) (
  d_X11_type_31 mFuel x0 x1 x3 (0 : Int32) o2.2
  ) (
  d_X11_type_26 o2.2
  )))))))
  )
  )
theorem tt_X11_type_0 {Pw : Int32 → ZS → Prop}   {x0 : Nat} {x1 : Int64} {x3 : Int32} {S : ZS} : Tw Pw (d_X11_type_0 x0 x1 x3 S) (zt S) (zu S) (fun C T => g_X11_type_0 Pw x0 x1 x3 S C T) := by
  unfold d_X11_type_0 g_X11_type_0
  refine tw_if (fun _ => ?_) (fun _ => ?_)
  ·
    exact tw_at (⟨rfl, rfl⟩ : zt S = zt S ∧ zu S = zu S) (tt_X11_type_26)
  ·
    refine tw_if (fun _ => ?_) (fun _ => ?_)
    ·
      exact tw_at (⟨rfl, rfl⟩ : zt S = zt S ∧ zu S = zu S) (tt_X11_type_26)
    ·
      refine tw_chk (fun _ => ?_)
      refine tw_calv (fun b1 => ?_)
      refine tw_chk (fun _ => ?_)
      refine tw_calf (⟨rfl, rfl⟩ : zt S = zt S ∧ zu S = zu S) (fun o2 co2 => ?_)
      refine tw_bndv (fun v3 => ?_)
      refine tw_if (fun _ => ?_) (fun _ => ?_)
      ·
        exact tw_at co2 (tt_X11_type_31)
      ·
        exact tw_at co2 (tt_X11_type_26)
noncomputable def d_X11_type (x0 : Nat) (x1 : Int64) (x3 : Int32) (S : ZS) : Option (Int32 × ZS) := d_X11_type_0 x0 x1 x3 S
theorem tt_X11_type {Pw : Int32 → ZS → Prop} {x0 : Nat} {x1 : Int64} {x3 : Int32} {S : ZS} : Tw Pw (d_X11_type x0 x1 x3 S) (zt S) (zu S) (fun C T => g_X11_type x0 x1 x3 S C T Pw) := tt_X11_type_0
noncomputable def d_X11_read_41 (x0 : Nat) (S : ZS) : Option (Int32 × ZS) :=
  m_chk (zK S x0 = 11) (
  m_cal (zP S 5 x0) (fun b1 =>
  m_chk (zK S b1 = 2) (
  m_cal (f_X2_fault b1 S) (fun o2 => m_chk (zt o2.2 = zt S ∧ zu o2.2 = zu S) (
  some (o2.1, o2.2))))))
theorem tt_X11_read_41 {Pw : Int32 → ZS → Prop}   {x0 : Nat} {S : ZS} : Tw Pw (d_X11_read_41 x0 S) (zt S) (zu S) (fun C T => g_X11_read_41 Pw x0 S C T) := by
  unfold d_X11_read_41 g_X11_read_41
  refine tw_chk (fun _ => ?_)
  refine tw_calv (fun b1 => ?_)
  refine tw_chk (fun _ => ?_)
  refine tw_calf (⟨rfl, rfl⟩ : zt S = zt S ∧ zu S = zu S) (fun o2 co2 => ?_)
  exact tw_ret co2
noncomputable def d_X11_read_0 (x0 : Nat) (S : ZS) : Option (Int32 × ZS) :=
  m_chk (zK S x0 = 11) (
  m_cal (zP S 5 x0) (fun b1 =>
  m_chk (zK S x0 = 11) (
  m_cal (zP S 0 x0) (fun b2 =>
  m_chk (zK S b1 = 2) (
  m_cal (f_X2_begin b1 b2 S) (fun o3 => m_chk (zt o3.2 = zt S ∧ zu o3.2 = zu S) (
  m_chk (zK o3.2 x0 = 11) (
  m_cal (zP o3.2 5 x0) (fun b4 =>
  m_chk (zK o3.2 b4 = 2) (
  m_cal2 (d_X2_readHead b4 o3.2) (fun r6 S7 =>
  m_if (r6 = 0) (
  d_X11_read_41 x0 S7
  ) (
  m_chk (zK S7 x0 = 11) (
  m_cal (zP S7 5 x0) (fun b10 =>
  m_chk (zK S7 b10 = 2) (
  m_cal2 (d_X2_readMoves b10 S7) (fun r12 S13 =>
  m_if (r12 = 0) (
  d_X11_read_41 x0 S13
  ) (
  m_chk (zK S13 x0 = 11) (
  m_cal (zP S13 5 x0) (fun b16 =>
  m_chk (zK S13 b16 = 2) (
  m_cal2 (d_X2_readEnd b16 S13) (fun r18 S19 =>
  m_if (r18 = 0) (
  d_X11_read_41 x0 S19
  ) (
  m_chk (zK S19 x0 = 11) (
  m_cal (zP S19 5 x0) (fun b22 =>
  m_chk (zK S19 x0 = 11) (
  m_cal (zP S19 7 x0) (fun b23 =>
  m_chk (zK S19 b22 = 2) (
  m_cal (f_X2_exchange b22 b23 S19) (fun o24 => m_chk (zt o24.2 = zt S19 ∧ zu o24.2 = zu S19) (
  m_chk (zK o24.2 x0 = 11) (
  m_bnd (zsP o24.2 7 x0 (some o24.1)) (fun S25 =>
  m_chk (zK S25 x0 = 11) (
  m_cal (zP S25 0 x0) (fun b26 =>
  m_chk (zK S25 b26 = 6) (
  m_cal (f_X6_keep b26 (0 : Int32) S25) (fun o27 => m_chk (zt o27.2 = zt S25 ∧ zu o27.2 = zu S25) (
  m_chk (zK o27.2 x0 = 11) (
  m_bnd (zsI o27.2 8 x0 (0 : Int32)) (fun S28 =>
  m_chk (zK S28 x0 = 11) (
  m_cal (zP S28 7 x0) (fun b29 =>
  m_chk (zK S28 x0 = 11) (
  m_cal (zP S28 9 x0) (fun b30 =>
  m_chk (zK S28 b29 = 1) (
  m_cal (f_X1_standAt b29 (0 : Int32) b30 S28) (fun o31 => m_chk (zt o31.2 = zt S28 ∧ zu o31.2 = zu S28) (
  some ((0 : Int32), o31.2))))))))))))))))))))))))
  )))))
  )))))
  ))))))))))))
theorem tt_X11_read_0 {Pw : Int32 → ZS → Prop}   {x0 : Nat} {S : ZS} : Tw Pw (d_X11_read_0 x0 S) (zt S) (zu S) (fun C T => g_X11_read_0 Pw x0 S C T) := by
  unfold d_X11_read_0 g_X11_read_0
  refine tw_chk (fun _ => ?_)
  refine tw_calv (fun b1 => ?_)
  refine tw_chk (fun _ => ?_)
  refine tw_calv (fun b2 => ?_)
  refine tw_chk (fun _ => ?_)
  refine tw_calf (⟨rfl, rfl⟩ : zt S = zt S ∧ zu S = zu S) (fun o3 co3 => ?_)
  refine tw_chk (fun _ => ?_)
  refine tw_calv (fun b4 => ?_)
  refine tw_chk (fun _ => ?_)
  refine tw_gal (fun Pw9 => tw_at co3 tt_X2_readHead) (fun r6 S7 => ?_)
  refine tw_if (fun _ => ?_) (fun _ => ?_)
  ·
    exact tw_at (⟨rfl, rfl⟩ : zt S7 = zt S7 ∧ zu S7 = zu S7) (tt_X11_read_41)
  ·
    refine tw_chk (fun _ => ?_)
    refine tw_calv (fun b10 => ?_)
    refine tw_chk (fun _ => ?_)
    refine tw_gal (fun Pw9 => tw_at (⟨rfl, rfl⟩ : zt S7 = zt S7 ∧ zu S7 = zu S7) tt_X2_readMoves) (fun r12 S13 => ?_)
    refine tw_if (fun _ => ?_) (fun _ => ?_)
    ·
      exact tw_at (⟨rfl, rfl⟩ : zt S13 = zt S13 ∧ zu S13 = zu S13) (tt_X11_read_41)
    ·
      refine tw_chk (fun _ => ?_)
      refine tw_calv (fun b16 => ?_)
      refine tw_chk (fun _ => ?_)
      refine tw_gal (fun Pw9 => tw_at (⟨rfl, rfl⟩ : zt S13 = zt S13 ∧ zu S13 = zu S13) tt_X2_readEnd) (fun r18 S19 => ?_)
      refine tw_if (fun _ => ?_) (fun _ => ?_)
      ·
        exact tw_at (⟨rfl, rfl⟩ : zt S19 = zt S19 ∧ zu S19 = zu S19) (tt_X11_read_41)
      ·
        refine tw_chk (fun _ => ?_)
        refine tw_calv (fun b22 => ?_)
        refine tw_chk (fun _ => ?_)
        refine tw_calv (fun b23 => ?_)
        refine tw_chk (fun _ => ?_)
        refine tw_calf (⟨rfl, rfl⟩ : zt S19 = zt S19 ∧ zu S19 = zu S19) (fun o24 co24 => ?_)
        refine tw_chk (fun _ => ?_)
        refine tw_bnds co24 (fun S25 cS25 => ?_)
        refine tw_chk (fun _ => ?_)
        refine tw_calv (fun b26 => ?_)
        refine tw_chk (fun _ => ?_)
        refine tw_calf cS25 (fun o27 co27 => ?_)
        refine tw_chk (fun _ => ?_)
        refine tw_bnds co27 (fun S28 cS28 => ?_)
        refine tw_chk (fun _ => ?_)
        refine tw_calv (fun b29 => ?_)
        refine tw_chk (fun _ => ?_)
        refine tw_calv (fun b30 => ?_)
        refine tw_chk (fun _ => ?_)
        refine tw_calf cS28 (fun o31 co31 => ?_)
        exact tw_ret co31
end
section
noncomputable def d_X11_read (x0 : Nat) (S : ZS) : Option (Int32 × ZS) := d_X11_read_0 x0 S
theorem tt_X11_read {Pw : Int32 → ZS → Prop} {x0 : Nat} {S : ZS} : Tw Pw (d_X11_read x0 S) (zt S) (zu S) (fun C T => g_X11_read x0 S C T Pw) := tt_X11_read_0
noncomputable def d_X11_find_0 (x0 : Nat) (S : ZS) : Option (Int32 × ZS) :=
  m_chk (zK S x0 = 11) (
  m_cal (zP S 3 x0) (fun b1 =>
  m_chk (zK S x0 = 11) (
  m_cal (zP S 9 x0) (fun b2 =>
  m_chk (zK S x0 = 11) (
  m_cal (zP S 0 x0) (fun b3 =>
  m_chk (zK S x0 = 11) (
  m_cal (zP S 0 x0) (fun b4 =>
  m_chk (zK S b4 = 6) (
  m_cal (f_X6_size b4 S) (fun o5 => m_chk (zt o5.2 = zt S ∧ zu o5.2 = zu S) (
  m_chk (zK o5.2 b1 = 8) (
  m_cal2 (d_X8_matched b1 b2 b3 (0 : Int32) o5.1 o5.2) (fun r7 S8 =>
  some (r7, S8))))))))))))))
theorem tt_X11_find_0 {Pw : Int32 → ZS → Prop}   {x0 : Nat} {S : ZS} : Tw Pw (d_X11_find_0 x0 S) (zt S) (zu S) (fun C T => g_X11_find_0 Pw x0 S C T) := by
  unfold d_X11_find_0 g_X11_find_0
  refine tw_chk (fun _ => ?_)
  refine tw_calv (fun b1 => ?_)
  refine tw_chk (fun _ => ?_)
  refine tw_calv (fun b2 => ?_)
  refine tw_chk (fun _ => ?_)
  refine tw_calv (fun b3 => ?_)
  refine tw_chk (fun _ => ?_)
  refine tw_calv (fun b4 => ?_)
  refine tw_chk (fun _ => ?_)
  refine tw_calf (⟨rfl, rfl⟩ : zt S = zt S ∧ zu S = zu S) (fun o5 co5 => ?_)
  refine tw_chk (fun _ => ?_)
  refine tw_gal (fun Pw9 => tw_at co5 tt_X8_matched) (fun r7 S8 => ?_)
  exact tw_ret (⟨rfl, rfl⟩ : zt S8 = zt S8 ∧ zu S8 = zu S8)
noncomputable def d_X11_find (x0 : Nat) (S : ZS) : Option (Int32 × ZS) := d_X11_find_0 x0 S
theorem tt_X11_find {Pw : Int32 → ZS → Prop} {x0 : Nat} {S : ZS} : Tw Pw (d_X11_find x0 S) (zt S) (zu S) (fun C T => g_X11_find x0 S C T Pw) := tt_X11_find_0
noncomputable def d_X11_write_0 (x0 : Nat) (S : ZS) : Option (Int32 × ZS) :=
  m_chk (zK S x0 = 11) (
  m_cal (zP S 1 x0) (fun b1 =>
  m_chk (zK S b1 = 6) (
  m_cal (f_X6_keep b1 (0 : Int32) S) (fun o2 => m_chk (zt o2.2 = zt S ∧ zu o2.2 = zu S) (
  m_chk (zK o2.2 x0 = 11) (
  m_cal (zP o2.2 6 x0) (fun b3 =>
  m_chk (zK o2.2 x0 = 11) (
  m_cal (zP o2.2 7 x0) (fun b4 =>
  m_chk (zK o2.2 x0 = 11) (
  m_cal (zP o2.2 1 x0) (fun b5 =>
  m_chk (zK o2.2 b3 = 3) (
  m_cal2 (d_X3_putHead b3 b4 b5 o2.2) (fun r7 S8 =>
  m_chk (zK S8 x0 = 11) (
  m_cal (zP S8 6 x0) (fun b11 =>
  m_chk (zK S8 x0 = 11) (
  m_cal (zP S8 7 x0) (fun b12 =>
  m_chk (zK S8 x0 = 11) (
  m_cal (zP S8 7 x0) (fun b13 =>
  m_chk (zK S8 b13 = 1) (
  m_cal (f_X1_at b13 (0 : Int32) S8) (fun o14 => m_chk (zt o14.2 = zt S8 ∧ zu o14.2 = zu S8) (
  m_chk (zK o14.2 o14.1 = 4) (
  m_chk (zK o14.2 x0 = 11) (
  m_cal (zP o14.2 1 x0) (fun b15 =>
  m_chk (zK o14.2 b11 = 3) (
  m_cal2 (d_X3_putLine b11 b12 (zI o14.2 2 o14.1) (0 : Int32) b15 o14.2) (fun r17 S18 =>
  m_chk (zK S18 x0 = 11) (
  m_cal (zP S18 6 x0) (fun b21 =>
  m_chk (zK S18 x0 = 11) (
  m_cal (zP S18 7 x0) (fun b22 =>
  m_chk (zK S18 x0 = 11) (
  m_cal (zP S18 1 x0) (fun b23 =>
  m_chk (zK S18 b21 = 3) (
  m_cal2 (d_X3_putEnd b21 b22 b23 S18) (fun r25 S26 =>
  m_chk (zK S26 x0 = 11) (
  m_cal (zP S26 1 x0) (fun b29 =>
  m_chk (zK S26 b29 = 6) (
  m_cal (f_X6_size b29 S26) (fun o30 => m_chk (zt o30.2 = zt S26 ∧ zu o30.2 = zu S26) (
  some (o30.1, o30.2)))))))))))))))))))))))))))))))))))))))))
theorem tt_X11_write_0 {Pw : Int32 → ZS → Prop}   {x0 : Nat} {S : ZS} : Tw Pw (d_X11_write_0 x0 S) (zt S) (zu S) (fun C T => g_X11_write_0 Pw x0 S C T) := by
  unfold d_X11_write_0 g_X11_write_0
  refine tw_chk (fun _ => ?_)
  refine tw_calv (fun b1 => ?_)
  refine tw_chk (fun _ => ?_)
  refine tw_calf (⟨rfl, rfl⟩ : zt S = zt S ∧ zu S = zu S) (fun o2 co2 => ?_)
  refine tw_chk (fun _ => ?_)
  refine tw_calv (fun b3 => ?_)
  refine tw_chk (fun _ => ?_)
  refine tw_calv (fun b4 => ?_)
  refine tw_chk (fun _ => ?_)
  refine tw_calv (fun b5 => ?_)
  refine tw_chk (fun _ => ?_)
  refine tw_gal (fun Pw9 => tw_at co2 tt_X3_putHead) (fun r7 S8 => ?_)
  refine tw_chk (fun _ => ?_)
  refine tw_calv (fun b11 => ?_)
  refine tw_chk (fun _ => ?_)
  refine tw_calv (fun b12 => ?_)
  refine tw_chk (fun _ => ?_)
  refine tw_calv (fun b13 => ?_)
  refine tw_chk (fun _ => ?_)
  refine tw_calf (⟨rfl, rfl⟩ : zt S8 = zt S8 ∧ zu S8 = zu S8) (fun o14 co14 => ?_)
  refine tw_chk (fun _ => ?_)
  refine tw_chk (fun _ => ?_)
  refine tw_calv (fun b15 => ?_)
  refine tw_chk (fun _ => ?_)
  refine tw_gal (fun Pw9 => tw_at co14 tt_X3_putLine) (fun r17 S18 => ?_)
  refine tw_chk (fun _ => ?_)
  refine tw_calv (fun b21 => ?_)
  refine tw_chk (fun _ => ?_)
  refine tw_calv (fun b22 => ?_)
  refine tw_chk (fun _ => ?_)
  refine tw_calv (fun b23 => ?_)
  refine tw_chk (fun _ => ?_)
  refine tw_gal (fun Pw9 => tw_at (⟨rfl, rfl⟩ : zt S18 = zt S18 ∧ zu S18 = zu S18) tt_X3_putEnd) (fun r25 S26 => ?_)
  refine tw_chk (fun _ => ?_)
  refine tw_calv (fun b29 => ?_)
  refine tw_chk (fun _ => ?_)
  refine tw_calf (⟨rfl, rfl⟩ : zt S26 = zt S26 ∧ zu S26 = zu S26) (fun o30 co30 => ?_)
  exact tw_ret co30
noncomputable def d_X11_write (x0 : Nat) (S : ZS) : Option (Int32 × ZS) := d_X11_write_0 x0 S
theorem tt_X11_write {Pw : Int32 → ZS → Prop} {x0 : Nat} {S : ZS} : Tw Pw (d_X11_write x0 S) (zt S) (zu S) (fun C T => g_X11_write x0 S C T Pw) := tt_X11_write_0
end
section
section VXA
/-! The laws vx_back, vx_callV, vx_callS, vx_callSW, vx_throw0, vx_throwS follow proofs of the library, with one case more: JvmDerived/Free/Laws.lean (Back.of_free), Shelf42/LK1.lean (callV, callS), Shelf/KitTraced.lean (throwNew0V, throwNewS). -/
/-- where a method has thrown q: the class by its name, the cell, what was written, the world -/
noncomputable def vx_T (XC : String → State → State → Prop) (st : State) (q : Addr) (t : State) (mc ms : Nat) (free : Addr → Prop) : Prop :=
  ∃ (E : String) (ce : Cell) (L : List Loc), XC E st t ∧ t.heap[q]? = some ce ∧ ce.vm = .none ∧ st.vm.findClass E = some ce.cls ∧ st.WarmedH t.vm ∧ st.sameButNew ({ t with vm := st.vm } : State) L mc ms ∧ ∀ z ∈ L, free z.base
noncomputable def vx_Q (Qc : Array Value → State → Outcome → State → Prop) (XC : String → State → State → Prop) (mc ms : Nat) (free : Addr → Prop) : Array Value → State → Outcome → State → Prop := fun a st o t =>
  (Qc a st o t ∧ ∃ L, FrameEnd st o t L mc ms ∧ ∀ q ∈ L, free q.base) ∨ ∃ q, o = .threw q ∧ vx_T XC st q t mc ms free
/-- a callee that returns or throws -/
noncomputable def vx_Met (l : Launch) (y : MethodName) (ws : List Cond) (rm : Room) (Pc : Array Value → State → Prop) (Qc : Array Value → State → Outcome → State → Prop) (XC : String → State → State → Prop) (mc ms : Nat) (free : Addr → Prop) : Prop :=
  MetFree l y (headSpec ws rm) Pc (fun _ _ _ _ _ => True) (vx_Q Qc XC mc ms free)
noncomputable def vx_Post (XC : String → State → State → Prop) (mc ms : Nat) (free : Addr → Prop) : Pt → Array Value → Addr → Pt → Prop := fun A a q B =>
  ∃ (g : JFrame) (mk : MethodId) (t : State) (L : List Loc) (E : String) (ce : Cell), B.U.heap = t.heap ∧ B.U.vm = t.vm ∧ XC E (A.U.calling g mk a) t ∧ t.heap[q]? = some ce ∧ ce.vm = .none ∧ A.U.vm.findClass E = some ce.cls ∧ B.locs = A.locs ++ L ∧ (∀ z ∈ L, free z.base) ∧ B.cells = A.cells + mc ∧ B.slots = A.slots + ms
noncomputable def vx_Back (l : Launch) (R : Room) (p : Program) (e : Env) (below : List Frame) (s : State) (sargs : Array Value) (y : MethodName) (len W9 : Nat)
    (Pre : Pt → Array Value → Prop) (Post : Pt → Array Value → Option Value → Pt → Prop) (PostX : Pt → Array Value → Addr → Pt → Prop) : Prop :=
  ∀ (m : MethodId) (meth : Method) (c : Code) (A : Pt) (g : JFrame) (ig : Instr) (mk : MethodId) (a : Array Value),
    Stand p l e R s m sargs below meth c A.U A.locs A.cells A.slots → g.method = m → g.locals.size = c.maxLocals → decode c.code g.pc = .ok (ig, len) →
    2 * g.monitorRoom + (g.stack.map fun v => v.category).sum ≤ W9 → A.U.methodNamed? y = some mk → Pre A a →
    (∃ (v : Option Value) (B : Pt), Stand p l e R s m sargs below meth c B.U B.locs B.cells B.slots ∧ Post A a v B ∧
      Steps p.tables e below (doInvoke e (A.U.setTop g) [] mk a).1 (B.U.setTop { g with pc := g.pc + len, stack := v.toList ++ g.stack })) ∨
    (∃ (q : Addr) (B : Pt), Stand p l e R s m sargs below meth c B.U B.locs B.cells B.slots ∧ PostX A a q B ∧
      Steps p.tables e below (doInvoke e (A.U.setTop g) [] mk a).1 ((B.U.setTop g).pushFrame (.throwing q)))
section Payer
variable {l : Launch} {R : Room} {p : Program} {e : Env} {below : List Frame} {s : State} {sargs : Array Value} {y : MethodName} {len W9 : Nat}
theorem vx_back {ws : List Cond} {rm : Room} {Pc : Array Value → State → Prop} {Qc : Array Value → State → Outcome → State → Prop} {XC : String → State → State → Prop} {mc ms : Nat} {free : Addr → Prop} {bytes : ByteArray} {maxL : Nat} {ret : Option FieldType}
    (hM : vx_Met l y ws rm Pc Qc XC mc ms free) (hblind : FrameBlind Pc) (hrc : rm.cells = mc) (hrs : rm.slots = ms)
    (hframes : rm.frames + 1 ≤ R.frames) (hlocals : W9 + (maxL + 11) + rm.locals ≤ R.locals)
    (hws : ∀ w ∈ ws, ∀ a' U, s.WarmedH U.vm → w.before a' U = true) (hcode : Cond.code y bytes maxL ret ∈ ws) (hinit : ∀ a' U, s.WarmedH U.vm → (Cond.initialized y.cls).before a' U = true) :
    vx_Back l R p e below s sargs y len W9 (PreOf R mc ms Pc) (PostOf Qc mc ms free) (vx_Post XC mc ms free) := by
  intro m meth c A g ig mk a X hg hsize hdg hW hn hp
  have h1 : (headSpec ws rm).pre.before a A.U = true := atoms_intro fun w hw => hws w hw _ _ X.warmed
  have h2 : (Cond.code y bytes maxL ret).before a A.U = true := hws _ hcode _ _ X.warmed
  have h3 : (Cond.initialized y.cls).before a A.U = true := hinit _ _ X.warmed
  have h4 : A.cells + (headSpec ws rm).room.cells ≤ R.cells := by rw [show (headSpec ws rm).room.cells = mc from hrc]; exact hp.1
  have h5 : A.slots + (headSpec ws rm).room.slots ≤ R.slots := by rw [show (headSpec ws rm).room.slots = ms from hrs]; exact hp.2.1
  have hPc : Pc a (A.U.calling g mk a) := hblind _ _ _ _ hp.2.2
  obtain ⟨U, Ls, c0, s0⟩ := A
  dsimp only [Pt.U, Pt.locs, Pt.cells, Pt.slots] at h1 h2 h3 h4 h5 X hn hPc ⊢
  obtain ⟨methY, cY, hmY, hcY, -, hlY, -, -, -, -⟩ := Cond.code_spec hn h2
  obtain ⟨kY, hkY, -⟩ := className_of_methodNamed hn
  have hinitY : kY.init = .initialized := Cond.initialized_spec (findClass_of_methodNamed hn) hkY h3
  have h : At U g.method c below := by rw [hg]; exact X.here
  have hlocals9 : W9 + (maxL + 11) + (headSpec ws rm).room.locals ≤ R.locals := hlocals
  have happ : (headSpec ws rm).appliesLoose y e.platform (U.calling g mk a) = true :=
    Spec.appliesLoose_calling (g := g) h hdg hn hkY hinitY
      (X.room_calling (g := g) (R' := (headSpec ws rm).room) hsize hmY hcY hframes (by rw [hlY]; omega) h4 h5) h1
  obtain ⟨mid, hmid⟩ := h.above
  have hfr : (U.setTop g).frames = (.java g :: mid) ++ below := by rw [State.frames_setTop' g h.top, hmid]; rfl
  obtain ⟨o, s₂, hsteps, -, hend, hq⟩ := Steps.callFree hM p X.admits X.cas X.clock (acts := []) hfr happ hPc trivial
  have hq' : vx_Q Qc XC mc ms free a (U.calling g mk a) o s₂ := hq
  rw [State.frames_setTop' g h.top] at hend
  obtain ⟨g₀, hg0⟩ := Option.isSome_iff_exists.mp h.top
  obtain ⟨r, hr⟩ := State.topJava?_eq_some.mp hg0
  have hr' : (({ U with heap := s₂.heap, slotsUsed := s₂.slotsUsed } : State).setVm s₂.vm).frames = .java g₀ :: r := hr
  rcases hq' with ⟨hqc, L, hfe, hL⟩ | ⟨q, rfl, E, ce, L, hx, hce, hcv, hcl, hW₂, hsm, hL⟩
  · obtain ⟨⟨v, rfl⟩, hW₂, e2, q2, q3, q4, q5, q6⟩ := id hfe
    have e3 : s₂ = ({ (U.calling g mk a).setFrames s₂.frames with heap := s₂.heap, slotsUsed := s₂.slotsUsed } : State).setVm s₂.vm := by
      have : s₂ = ({ s₂ with vm := (U.calling g mk a).vm } : State).setVm s₂.vm := rfl
      rw [e2] at this
      exact this
    obtain ⟨c₂, i₂, len₂, hc₂, hd₂, hf₂⟩ := hend
    have hW' : U.WarmedH s₂.vm := hW₂
    have hcc : c₂ = c := by
      have h1 : s₂.code? g.method = U.code? g.method := by
        rw [State.code?_eq, State.code?_eq, hW'.alike.method?]
      exact Option.some.inj (hc₂.symm.trans (h1.trans h.code))
    subst hcc
    have hlen : len₂ = len := by rw [hdg] at hd₂; cases hd₂; rfl
    subst hlen
    have hs₂ : s₂ = (({ U with heap := s₂.heap, slotsUsed := s₂.slotsUsed } : State).setVm s₂.vm).setTop { g with pc := g.pc + len₂, stack := v.toList ++ g.stack } := by
      refine e3.trans ?_
      rw [hf₂, State.calling_eq h.top, State.setFrames_setFrames, State.setTop_of_frames _ hr', hr]
      rfl
    have hsame : U.sameButNew ({ U with heap := s₂.heap, slotsUsed := s₂.slotsUsed } : State) L mc ms := by
      refine ⟨?_, q2, q3, q4, q5, q6⟩
      obtain ⟨t, ht, -⟩ := State.frames_cons hr
      show ({ U with heap := s₂.heap, slotsUsed := s₂.slotsUsed } : State) = { U.setFrames U.frames with heap := s₂.heap, slotsUsed := s₂.slotsUsed }
      rw [State.setFrames_self ht]
    subst hg
    refine Or.inl ⟨v, ⟨(({ U with heap := s₂.heap, slotsUsed := s₂.slotsUsed } : State).setVm s₂.vm), Ls ++ L, c0 + mc, s0 + ms⟩,
      ⟨X.admits, X.cas, X.clock, X.frames, X.room, X.hears, X.method, X.code, (X.here.setHeapUsed s₂.heap s₂.slotsUsed).setVm hW'.alike, X.tail, State.WarmedH.trans X.warmed hW', X.limits, X.bytes, X.same.trans (hsame.setVm s.vm)⟩,
      ⟨g, mk, s₂, L, rfl, rfl, hqc, rfl, hL, rfl, rfl⟩, ?_⟩
    show Steps p.tables e below _ ((({ U with heap := s₂.heap, slotsUsed := s₂.slotsUsed } : State).setVm s₂.vm).setTop { g with pc := g.pc + len₂, stack := v.toList ++ g.stack })
    rw [← hs₂]
    exact hsteps
  · obtain ⟨e2, q2, q3, q4, q5, q6⟩ := id hsm
    have e3 : s₂ = ({ (U.calling g mk a).setFrames s₂.frames with heap := s₂.heap, slotsUsed := s₂.slotsUsed } : State).setVm s₂.vm := by
      have : s₂ = ({ s₂ with vm := (U.calling g mk a).vm } : State).setVm s₂.vm := rfl
      rw [e2] at this
      exact this
    have hf₂ : s₂.frames = .throwing q :: .java g :: U.frames.tail := hend
    have hW' : U.WarmedH s₂.vm := hW₂
    have hs₂ : s₂ = ((({ U with heap := s₂.heap, slotsUsed := s₂.slotsUsed } : State).setVm s₂.vm).setTop g).pushFrame (.throwing q) := by
      refine e3.trans ?_
      rw [hf₂, State.calling_eq h.top, State.setFrames_setFrames, State.pushFrame, State.frames_setTop _ hr', State.setTop_of_frames _ hr', State.setFrames_setFrames, hr]
      rfl
    have hsame : U.sameButNew ({ U with heap := s₂.heap, slotsUsed := s₂.slotsUsed } : State) L mc ms := by
      refine ⟨?_, q2, q3, q4, q5, q6⟩
      obtain ⟨t, ht, -⟩ := State.frames_cons hr
      show ({ U with heap := s₂.heap, slotsUsed := s₂.slotsUsed } : State) = { U.setFrames U.frames with heap := s₂.heap, slotsUsed := s₂.slotsUsed }
      rw [State.setFrames_self ht]
    subst hg
    refine Or.inr ⟨q, ⟨(({ U with heap := s₂.heap, slotsUsed := s₂.slotsUsed } : State).setVm s₂.vm), Ls ++ L, c0 + mc, s0 + ms⟩,
      ⟨X.admits, X.cas, X.clock, X.frames, X.room, X.hears, X.method, X.code, (X.here.setHeapUsed s₂.heap s₂.slotsUsed).setVm hW'.alike, X.tail, State.WarmedH.trans X.warmed hW', X.limits, X.bytes, X.same.trans (hsame.setVm s.vm)⟩,
      ⟨g, mk, s₂, L, E, ce, rfl, rfl, hx, hce, hcv, hcl, rfl, hL, rfl, rfl⟩, ?_⟩
    show Steps p.tables e below _ (((({ U with heap := s₂.heap, slotsUsed := s₂.slotsUsed } : State).setVm s₂.vm).setTop g).pushFrame (.throwing q))
    rw [← hs₂]
    exact hsteps
end Payer
section Calls
variable {p : Program} {l : Launch} {e : Env} {R : Room} {s : State} {m : MethodId} {args : Array Value} {below : List Frame} {meth : Method} {c : Code} {T : State} {locs : List Loc} {cells slots : Nat}
theorem vx_callV (X : Stand p l e R s m args below meth c T locs cells slots) (hexec : p.tables.exec = Jvm.exec) {own C : String} {index : Nat} {y : MethodName} {bytes : ByteArray} {maxL : Nat} {ret : Option FieldType}
    (hown : s.vm.findClass own = some m.cls) (hlink : (Cond.methodLink own index y).before args s = true) (hinst : (Cond.instanceMethod y).before args s = true) (hsel : (Cond.selects C y y).before args s = true)
    (hcode : (Cond.code y bytes maxL ret).before args s = true) (hy : y.cls ≠ "java/lang/invoke/MethodHandle" ∧ y.cls ≠ "java/lang/invoke/VarHandle")
    {W9 : Nat} {Pre : Pt → Array Value → Prop} {Post : Pt → Array Value → Option Value → Pt → Prop} {PostX : Pt → Array Value → Addr → Pt → Prop} (hK : vx_Back l R p e below s args y 3 W9 Pre Post PostX)
    {b : Addr} {cellB : Cell} (hcell : T.heap[b]? = some cellB) (hobj : cellB.vm.isStatics = false) (hcls : s.vm.findClass C = some cellB.cls)
    {g : JFrame} (hg : g.method = m) (hsize : g.locals.size = c.maxLocals) {argsL rest : List Value} (hlen : ∀ sig, parseMethodDescriptor y.desc = some sig → argsL.length = sig.parameters.length)
    (hstack : g.stack = argsL.reverse ++ .ref b :: rest) (hW : 2 * g.monitorRoom + (rest.map fun v => v.category).sum ≤ W9) (hdg : decode c.code g.pc = .ok (.invokevirtual index, 3))
    (hpre : ∀ vm₁, s.WarmedH vm₁ → Pre ⟨T.setVm vm₁, locs, cells, slots⟩ (Value.ref b :: argsL).toArray) :
    (∃ (v : Option Value) (vm₁ : Vm) (B : Pt), s.WarmedH vm₁ ∧ Stand p l e R s m args below meth c B.U B.locs B.cells B.slots ∧ Post ⟨T.setVm vm₁, locs, cells, slots⟩ (Value.ref b :: argsL).toArray v B ∧
      ∀ target, Steps p.tables e below (B.U.setTop { g with pc := g.pc + 3, stack := v.toList ++ rest }) target → Steps p.tables e below (T.setTop g) target) ∨
    (∃ (q : Addr) (vm₁ : Vm) (B : Pt), s.WarmedH vm₁ ∧ Stand p l e R s m args below meth c B.U B.locs B.cells B.slots ∧ PostX ⟨T.setVm vm₁, locs, cells, slots⟩ (Value.ref b :: argsL).toArray q B ∧
      Steps p.tables e below (T.setTop g) ((B.U.setTop { g with stack := rest }).pushFrame (.throwing q))) := by
  obtain ⟨mk, methM, hnamed, hmethM, hstM, habM⟩ := Cond.instanceMethod_spec hinst
  obtain ⟨methM', cM, hmethM', -, -, -, -, -, -, hsigM⟩ := Cond.code_spec hnamed hcode
  cases hmethM.symm.trans hmethM'
  obtain ⟨c2, r2, m2, q1, q2, q3, q4, kP, hkP, hkPi⟩ := Cond.selects_spec hsel
  cases hcls.symm.trans q1
  cases (State.methodFound?_of_named hnamed hy).symm.trans q2
  cases hnamed.symm.trans q3
  have hselP : selectMethod e.platform s.vm cellB.cls mk = .method mk := by rw [Launch.admits_selectMethod X.admits]; exact q4
  obtain ⟨vm₁, X₁, hstep₁⟩ := X.invokevirtual hexec hown hlink hnamed hmethM hstM hkP hkPi hy (a := b) (cell := cellB) hcell
    (fun z h => by rw [h] at hobj; cases hobj) hselP hmethM habM hkP hkPi (g := g) hg (argsL := argsL) (rest := rest) (hlen _ hsigM) hstack hdg
  rcases hK m meth c ⟨T.setVm vm₁, locs, cells, slots⟩ { g with stack := rest } (.invokevirtual index) mk (Value.ref b :: argsL).toArray X₁ hg hsize hdg hW (X₁.named hnamed) (hpre vm₁ X₁.warmed) with ⟨v, B, X', hpost, hsteps⟩ | ⟨q, B, X', hpost, hsteps⟩
  · exact Or.inl ⟨v, vm₁, B, X₁.warmed, X', hpost, fun target h => hstep₁ _ fun acts => by rw [doInvoke_state]; exact hsteps.trans h⟩
  · exact Or.inr ⟨q, vm₁, B, X₁.warmed, X', hpost, hstep₁ _ fun acts => by rw [doInvoke_state]; exact hsteps⟩
theorem vx_callS (X : Stand p l e R s m args below meth c T locs cells slots) (hexec : p.tables.exec = Jvm.exec) {own : String} {index : Nat} {y : MethodName} {bytes : ByteArray} {maxL : Nat} {ret : Option FieldType}
    (hown : s.vm.findClass own = some m.cls) (hlink : (Cond.methodLink own index y).before args s = true) (hstat : (Cond.static y).before args s = true) (hinit : (Cond.initialized y.cls).before args s = true)
    (hcode : (Cond.code y bytes maxL ret).before args s = true) (hy : y.cls ≠ "java/lang/invoke/MethodHandle" ∧ y.cls ≠ "java/lang/invoke/VarHandle")
    {W9 : Nat} {Pre : Pt → Array Value → Prop} {Post : Pt → Array Value → Option Value → Pt → Prop} {PostX : Pt → Array Value → Addr → Pt → Prop} (hK : vx_Back l R p e below s args y 3 W9 Pre Post PostX)
    {g : JFrame} (hg : g.method = m) (hsize : g.locals.size = c.maxLocals) {argsL rest : List Value} (hlen : ∀ sig, parseMethodDescriptor y.desc = some sig → argsL.length = sig.parameters.length)
    (hstack : g.stack = argsL.reverse ++ rest) (hW : 2 * g.monitorRoom + (rest.map fun v => v.category).sum ≤ W9) (hdg : decode c.code g.pc = .ok (.invokestatic index, 3))
    (hpre : ∀ vm₁, s.WarmedH vm₁ → Pre ⟨T.setVm vm₁, locs, cells, slots⟩ argsL.toArray) :
    (∃ (v : Option Value) (vm₁ : Vm) (B : Pt), s.WarmedH vm₁ ∧ Stand p l e R s m args below meth c B.U B.locs B.cells B.slots ∧ Post ⟨T.setVm vm₁, locs, cells, slots⟩ argsL.toArray v B ∧
      ∀ target, Steps p.tables e below (B.U.setTop { g with pc := g.pc + 3, stack := v.toList ++ rest }) target → Steps p.tables e below (T.setTop g) target) ∨
    (∃ (q : Addr) (vm₁ : Vm) (B : Pt), s.WarmedH vm₁ ∧ Stand p l e R s m args below meth c B.U B.locs B.cells B.slots ∧ PostX ⟨T.setVm vm₁, locs, cells, slots⟩ argsL.toArray q B ∧
      Steps p.tables e below (T.setTop g) ((B.U.setTop { g with stack := rest }).pushFrame (.throwing q))) := by
  obtain ⟨mk, hnamed⟩ := Cond.code_named hcode
  obtain ⟨methM, cM, hmethM, -, -, -, -, -, -, hsigM⟩ := Cond.code_spec hnamed hcode
  have hstatic : methM.isStatic = true := Cond.static_spec hnamed hmethM hstat
  obtain ⟨kP, hkP, -⟩ := className_of_methodNamed hnamed
  have hinitP : kP.init = .initialized := Cond.initialized_spec (findClass_of_methodNamed hnamed) hkP hinit
  obtain ⟨vm₁, X₁, hstep₁⟩ := X.invokestatic hexec hown hlink hnamed hmethM hstatic hkP hinitP hy (g := g) hg (argsL := argsL) (rest := rest) (hlen _ hsigM) hstack hdg
  rcases hK m meth c ⟨T.setVm vm₁, locs, cells, slots⟩ { g with stack := rest } (.invokestatic index) mk argsL.toArray X₁ hg hsize hdg hW (X₁.named hnamed) (hpre vm₁ X₁.warmed) with ⟨v, B, X', hpost, hsteps⟩ | ⟨q, B, X', hpost, hsteps⟩
  · exact Or.inl ⟨v, vm₁, B, X₁.warmed, X', hpost, fun target h => hstep₁ _ fun acts => by rw [doInvoke_state]; exact hsteps.trans h⟩
  · exact Or.inr ⟨q, vm₁, B, X₁.warmed, X', hpost, hstep₁ _ fun acts => by rw [doInvoke_state]; exact hsteps⟩
end Calls
theorem vx_cls {s : State} {T : State} {vm₁ : Vm} {E : String} {k : ClassId} (hW : s.WarmedH vm₁) (h : (T.setVm vm₁).vm.findClass E = some k) : s.vm.findClass E = some k := by
  have h1 : vm₁.findClass E = some k := h
  rw [hW.alike.findClass] at h1
  exact h1
/-- the method's frame g, with q thrown over it -/
noncomputable def vx_W (p : Program) (l : Launch) (e : Env) (R : Room) (s : State) (m : MethodId) (args : Array Value) (below : List Frame) (meth : Method) (c : Code) (H : Heap) (locs : List Loc) (cells slots : Nat) (Q : State → Prop) (g : JFrame) (q : Addr) : Prop :=
  ∀ T : State, T.heap = H → Stand p l e R s m args below meth c T locs cells slots → ∃ t, Steps p.tables e below ((T.setTop g).pushFrame (.throwing q)) t ∧ Q t
noncomputable def vx_Run (p : Program) (l : Launch) (e : Env) (R : Room) (s : State) (m : MethodId) (args : Array Value) (below : List Frame) (meth : Method) (c : Code) (H : Heap) (locs : List Loc) (cells slots mc ms : Nat) (g : JFrame) (rest : List Value) (Qa : State → Outcome → State → Prop) (XC : String → State → State → Prop) (free : Addr → Prop) : Prop :=
  ∀ T : State, T.heap = H → Stand p l e R s m args below meth c T locs cells slots →
    (∃ (v : Option Value) (st₀ t T' : State) (L : List Loc), st₀.heap = H ∧ Stand p l e R s m args below meth c T' (locs ++ L) (cells + mc) (slots + ms) ∧ (∀ q ∈ L, free q.base) ∧ T'.heap = t.heap ∧ T'.vm = t.vm ∧ Qa st₀ (.returned v) t ∧
      Goes p e below T g T' { g with pc := g.pc + 3, stack := v.toList ++ rest }) ∨
    (∃ (q : Addr) (st₀ t T' : State) (L : List Loc) (E : String) (ce : Cell), st₀.heap = H ∧ Stand p l e R s m args below meth c T' (locs ++ L) (cells + mc) (slots + ms) ∧ (∀ z ∈ L, free z.base) ∧ T'.heap = t.heap ∧ T'.vm = t.vm ∧ XC E st₀ t ∧ t.heap[q]? = some ce ∧ ce.vm = .none ∧ s.vm.findClass E = some ce.cls ∧
      Steps p.tables e below (T.setTop g) ((T'.setTop { g with stack := rest }).pushFrame (.throwing q)))
noncomputable def vx_X {S : Type} (px : S → Prop) (B : String → S → State → Prop) (A : Nat → Prop) : String → State → State → Prop := fun E st t => ∃ u : S, px u ∧ B E u t ∧ va_F A st t
section Runs
variable {p : Program} {l : Launch} {e : Env} {R : Room} {s : State} {m : MethodId} {args : Array Value} {below : List Frame} {meth : Method} {c : Code} {H : Heap} {locs : List Loc} {cells slots : Nat}
variable {y : MethodName} {bytes cc : ByteArray} {maxL nL mc ms n index : Nat} {ret : Option FieldType} {ws : List Cond} {rm : Room} {Pc : Array Value → State → Prop} {Qc : Array Value → State → Outcome → State → Prop} {XC : String → State → State → Prop} {free : Addr → Prop} {Ts : List Cond} {own C : String} {b : Addr} {As rest : List Value} {g : JFrame}
theorem vx_callBack (cb : CallB R s args own index y bytes maxL ret ws rm mc ms n) (hM : vx_Met l y ws rm Pc Qc XC mc ms free) (hbl : FrameBlind Pc) : vx_Back l R p e below s args y 3 8 (PreOf R mc ms Pc) (PostOf Qc mc ms free) (vx_Post XC mc ms free) := by
  obtain ⟨hrc, hrs, hfr, hlo, hws, hcw, -, hini, -⟩ := cb
  exact vx_back (bytes := bytes) (maxL := maxL) (ret := ret) hM hbl hrc hrs hfr hlo hws hcw (fun a' U hW => word_at hW (Or.inl (by first | rfl | simp [Cond.onTables, Cond.keeps, Cond.steady])) hini)
theorem vx_runV (S : CallFix p m c cc nL s args Ts own) (hM : vx_Met l y ws rm Pc Qc XC mc ms free) (cw : CallW R s args own C index y bytes maxL ret ws rm mc ms n) (hp : PreV s H C b Pc As)
    (hg : g.method = m) (hn : As.length = n) (hsize : g.locals.size = nL) (hstack : g.stack = As.reverse ++ .ref b :: rest) (hW : 2 * g.monitorRoom + (rest.map fun v => v.category).sum ≤ 8) (hdg : decode cc g.pc = .ok (.invokevirtual index, 3)) (hf : cells + mc ≤ R.cells ∧ slots + ms ≤ R.slots) :
    vx_Run p l e R s m args below meth c H locs cells slots mc ms g rest (Qc (Value.ref b :: As).toArray) XC free := by
  have hK : vx_Back l R p e below s args y 3 8 (PreOf R mc ms Pc) (PostOf Qc mc ms free) (vx_Post XC mc ms free) := vx_callBack cw.1 hM hp.1
  obtain ⟨⟨-, -, -, -, -, -, hcode, -, hy, hlen, hl⟩, hin, hse⟩ := cw
  obtain ⟨hx, hb, hml, ho, -⟩ := S
  obtain ⟨-, ⟨cellB, hcB, hoB, hclB⟩, hPc⟩ := hp
  intro T hT X
  rcases vx_callV X hx (C := C) (bytes := bytes) (maxL := maxL) (ret := ret) ho hl hin hse hcode hy hK (by rw [hT]; exact hcB) hoB hclB hg (hsize.trans hml.symm) (argsL := As) (rest := rest) (fun sig h => hn.trans (hlen sig h)) hstack hW (by rw [hb]; exact hdg)
    (fun vm₁ hW₁ => ⟨hf.1, hf.2, hPc (T.setVm vm₁) hT hW₁⟩) with ⟨v, vm₁, ⟨U', l2, c2, s2⟩, hW₁, X', ⟨g', mk, t, L, e1, e2, hq, h1, hL, h2, h3⟩, st⟩ | ⟨q, vm₁, ⟨U', l2, c2, s2⟩, hW₁, X', ⟨g', mk, t, L, E, ce, e1, e2, hq, hce, hcv, hcl, h1, hL, h2, h3⟩, st⟩
  · dsimp only [Pt.U, Pt.locs, Pt.cells, Pt.slots] at X' e1 e2 h1 h2 h3 st
    subst h1; subst h2; subst h3
    exact Or.inl ⟨v, (T.setVm vm₁).calling g' mk (Value.ref b :: As).toArray, t, U', L, hT, X', hL, e1, e2, hq, st⟩
  · dsimp only [Pt.U, Pt.locs, Pt.cells, Pt.slots] at X' e1 e2 h1 h2 h3 st hcl
    subst h1; subst h2; subst h3
    exact Or.inr ⟨q, (T.setVm vm₁).calling g' mk (Value.ref b :: As).toArray, t, U', L, E, ce, hT, X', hL, e1, e2, hq, hce, hcv, vx_cls hW₁ hcl, st⟩
theorem vx_runS (S : CallFix p m c cc nL s args Ts own) (hM : vx_Met l y ws rm Pc Qc XC mc ms free) (cw : CallB R s args own index y bytes maxL ret ws rm mc ms n ∧ (Cond.static y).before args s = true) (hp : PreS s H Pc As)
    (hg : g.method = m) (hn : As.length = n) (hsize : g.locals.size = nL) (hstack : g.stack = As.reverse ++ rest) (hW : 2 * g.monitorRoom + (rest.map fun v => v.category).sum ≤ 8) (hdg : decode cc g.pc = .ok (.invokestatic index, 3)) (hf : cells + mc ≤ R.cells ∧ slots + ms ≤ R.slots) :
    vx_Run p l e R s m args below meth c H locs cells slots mc ms g rest (Qc As.toArray) XC free := by
  have hK : vx_Back l R p e below s args y 3 8 (PreOf R mc ms Pc) (PostOf Qc mc ms free) (vx_Post XC mc ms free) := vx_callBack cw.1 hM hp.1
  obtain ⟨⟨-, -, -, -, -, -, hcode, hini, hy, hlen, hl⟩, hstt⟩ := cw
  obtain ⟨hx, hb, hml, ho, -⟩ := S
  intro T hT X
  rcases vx_callS X hx (bytes := bytes) (maxL := maxL) (ret := ret) ho hl hstt hini hcode hy hK hg (hsize.trans hml.symm) (argsL := As) (rest := rest) (fun sig h => hn.trans (hlen sig h)) hstack hW (by rw [hb]; exact hdg)
    (fun vm₁ hW₁ => ⟨hf.1, hf.2, hp.2 (T.setVm vm₁) hT hW₁⟩) with ⟨v, vm₁, ⟨U', l2, c2, s2⟩, hW₁, X', ⟨g', mk, t, L, e1, e2, hq, h1, hL, h2, h3⟩, st⟩ | ⟨q, vm₁, ⟨U', l2, c2, s2⟩, hW₁, X', ⟨g', mk, t, L, E, ce, e1, e2, hq, hce, hcv, hcl, h1, hL, h2, h3⟩, st⟩
  · dsimp only [Pt.U, Pt.locs, Pt.cells, Pt.slots] at X' e1 e2 h1 h2 h3 st
    subst h1; subst h2; subst h3
    exact Or.inl ⟨v, (T.setVm vm₁).calling g' mk As.toArray, t, U', L, hT, X', hL, e1, e2, hq, st⟩
  · dsimp only [Pt.U, Pt.locs, Pt.cells, Pt.slots] at X' e1 e2 h1 h2 h3 st hcl
    subst h1; subst h2; subst h3
    exact Or.inr ⟨q, (T.setVm vm₁).calling g' mk As.toArray, t, U', L, E, ce, hT, X', hL, e1, e2, hq, hce, hcv, vx_cls hW₁ hcl, st⟩
end Runs
section Rows
variable {p : Program} {l : Launch} {e : Env} {R : Room} {s : State} {m : MethodId} {args : Array Value} {below : List Frame} {meth : Method} {c : Code} {H : Heap} {locs : List Loc} {cells slots : Nat} {Q : State → Prop}
variable {mc ms : Nat} {free : Addr → Prop} {A0 A1 : Nat → Prop} {H0 : Heap} {a : Array Value} {pc : Nat} {ls : Array Slot} {st0 rest : List Value}
theorem vx_keep {st₀ t T' : State} {L : List Loc} (h0 : st₀.heap = H) (e1 : T'.heap = t.heap) (hS : va_S A0 H0 H locs) (hA : ∀ q, q < H.size → A1 q → A0 q) (hf : ∀ q, free q → A0 q) (hL : ∀ q ∈ L, free q.base) (hF : va_F A1 st₀ t) :
    H.size ≤ T'.heap.size ∧ (∀ q : Nat, q < H.size → ¬ A1 q → T'.heap[q]? = H[q]?) ∧ va_S A0 H0 T'.heap (locs ++ L) := by
  obtain ⟨hz, hk⟩ := hF
  rw [h0] at hz hk
  exact ⟨by rw [e1]; exact hz, fun q h1 h2 => by rw [e1]; exact hk q h1 h2,
    ⟨Nat.le_trans hS.1 (by rw [e1]; exact hz), fun q h1 h2 => by rw [e1, hk q (Nat.lt_of_lt_of_le h1 hS.1) (fun z => h2 (hA q (Nat.lt_of_lt_of_le h1 hS.1) z))]; exact hS.2.1 q h1 h2, fun q hq => by
      rcases List.mem_append.mp hq with h | h
      · exact hS.2.2 q h
      · exact hf _ (hL q h)⟩⟩
theorem vx_calli {S SX : Type} {post : Int32 → S → Prop} {px : SX → Prop} {B : S → State → Prop} {BX : String → SX → State → Prop} {AX : Nat → Prop} (hr : vx_Run p l e R s m args below meth c H locs cells slots mc ms (F0 m pc ls st0) rest (va_Qi post B A1 a) (vx_X px BX AX) free) (hS : va_S A0 H0 H locs) (hA : ∀ q, q < H.size → A1 q → A0 q) (hf : ∀ q, free q → A0 q) (hAX : ∀ q, q < H.size → AX q → A0 q)
    (kx : ∀ (E : String) (ce : Cell) (q9 : Addr) (u : SX) (t : State) (H1 : Heap) (locs1 : List Loc), t.heap = H1 → s.vm.Alike t.vm → px u → BX E u t → H.size ≤ H1.size → (∀ q : Nat, q < H.size → ¬ AX q → H1[q]? = H[q]?) → va_S A0 H0 H1 locs1 → H1[q9]? = some ce → ce.vm = .none → s.vm.findClass E = some ce.cls → vx_W p l e R s m args below meth c H1 locs1 (cells + mc) (slots + ms) Q (F0 m pc ls rest) q9)
    (kk : ∀ (r : Int32) (u : S) (t : State) (H1 : Heap) (locs1 : List Loc), t.heap = H1 → s.vm.Alike t.vm → post r u → B u t → H.size ≤ H1.size → (∀ q : Nat, q < H.size → ¬ A1 q → H1[q]? = H[q]?) → va_S A0 H0 H1 locs1 → W p l e R s m args below meth c H1 locs1 (cells + mc) (slots + ms) Q (F0 m (pc + 3) ls (.int r :: rest))) : W p l e R s m args below meth c H locs cells slots Q (F0 m pc ls st0) := by
  intro T hT X
  rcases hr T hT X with ⟨v, st₀, t, T', L, h0, X', hL, e1, e2, ⟨⟨r, u, hv, hp, hb⟩, hF⟩, st⟩ | ⟨q, st₀, t, T', L, E, ce, h0, X', hL, e1, e2, ⟨u, hp, hb, hF⟩, hce, hcv, hcl, st⟩
  · cases hv
    obtain ⟨k1, k2, k3⟩ := vx_keep h0 e1 hS hA hf hL hF
    obtain ⟨t2, a1, b1⟩ := kk r u t T'.heap (locs ++ L) e1.symm (by rw [← e2]; exact X'.warmed.alike) hp hb k1 k2 k3 T' rfl X'
    exact ⟨t2, st t2 a1, b1⟩
  · obtain ⟨k1, k2, k3⟩ := vx_keep h0 e1 hS hAX hf hL hF
    obtain ⟨t2, a1, b1⟩ := kx E ce q u t T'.heap (locs ++ L) e1.symm (by rw [← e2]; exact X'.warmed.alike) hp hb k1 k2 k3 (by rw [e1]; exact hce) hcv hcl T' rfl X'
    exact ⟨t2, st.trans a1, b1⟩
theorem vx_calll {S SX : Type} {post : Int64 → S → Prop} {px : SX → Prop} {B : S → State → Prop} {BX : String → SX → State → Prop} {AX : Nat → Prop} (hr : vx_Run p l e R s m args below meth c H locs cells slots mc ms (F0 m pc ls st0) rest (va_Ql post B A1 a) (vx_X px BX AX) free) (hS : va_S A0 H0 H locs) (hA : ∀ q, q < H.size → A1 q → A0 q) (hf : ∀ q, free q → A0 q) (hAX : ∀ q, q < H.size → AX q → A0 q)
    (kx : ∀ (E : String) (ce : Cell) (q9 : Addr) (u : SX) (t : State) (H1 : Heap) (locs1 : List Loc), t.heap = H1 → s.vm.Alike t.vm → px u → BX E u t → H.size ≤ H1.size → (∀ q : Nat, q < H.size → ¬ AX q → H1[q]? = H[q]?) → va_S A0 H0 H1 locs1 → H1[q9]? = some ce → ce.vm = .none → s.vm.findClass E = some ce.cls → vx_W p l e R s m args below meth c H1 locs1 (cells + mc) (slots + ms) Q (F0 m pc ls rest) q9)
    (kk : ∀ (r : Int64) (u : S) (t : State) (H1 : Heap) (locs1 : List Loc), t.heap = H1 → s.vm.Alike t.vm → post r u → B u t → H.size ≤ H1.size → (∀ q : Nat, q < H.size → ¬ A1 q → H1[q]? = H[q]?) → va_S A0 H0 H1 locs1 → W p l e R s m args below meth c H1 locs1 (cells + mc) (slots + ms) Q (F0 m (pc + 3) ls (.long r :: rest))) : W p l e R s m args below meth c H locs cells slots Q (F0 m pc ls st0) := by
  intro T hT X
  rcases hr T hT X with ⟨v, st₀, t, T', L, h0, X', hL, e1, e2, ⟨⟨r, u, hv, hp, hb⟩, hF⟩, st⟩ | ⟨q, st₀, t, T', L, E, ce, h0, X', hL, e1, e2, ⟨u, hp, hb, hF⟩, hce, hcv, hcl, st⟩
  · cases hv
    obtain ⟨k1, k2, k3⟩ := vx_keep h0 e1 hS hA hf hL hF
    obtain ⟨t2, a1, b1⟩ := kk r u t T'.heap (locs ++ L) e1.symm (by rw [← e2]; exact X'.warmed.alike) hp hb k1 k2 k3 T' rfl X'
    exact ⟨t2, st t2 a1, b1⟩
  · obtain ⟨k1, k2, k3⟩ := vx_keep h0 e1 hS hAX hf hL hF
    obtain ⟨t2, a1, b1⟩ := kx E ce q u t T'.heap (locs ++ L) e1.symm (by rw [← e2]; exact X'.warmed.alike) hp hb k1 k2 k3 (by rw [e1]; exact hce) hcv hcl T' rfl X'
    exact ⟨t2, st.trans a1, b1⟩
theorem vx_callf {S SX : Type} {post : UInt32 → S → Prop} {px : SX → Prop} {B : S → State → Prop} {BX : String → SX → State → Prop} {AX : Nat → Prop} (hr : vx_Run p l e R s m args below meth c H locs cells slots mc ms (F0 m pc ls st0) rest (va_Qf post B A1 a) (vx_X px BX AX) free) (hS : va_S A0 H0 H locs) (hA : ∀ q, q < H.size → A1 q → A0 q) (hf : ∀ q, free q → A0 q) (hAX : ∀ q, q < H.size → AX q → A0 q)
    (kx : ∀ (E : String) (ce : Cell) (q9 : Addr) (u : SX) (t : State) (H1 : Heap) (locs1 : List Loc), t.heap = H1 → s.vm.Alike t.vm → px u → BX E u t → H.size ≤ H1.size → (∀ q : Nat, q < H.size → ¬ AX q → H1[q]? = H[q]?) → va_S A0 H0 H1 locs1 → H1[q9]? = some ce → ce.vm = .none → s.vm.findClass E = some ce.cls → vx_W p l e R s m args below meth c H1 locs1 (cells + mc) (slots + ms) Q (F0 m pc ls rest) q9)
    (kk : ∀ (r : UInt32) (u : S) (t : State) (H1 : Heap) (locs1 : List Loc), t.heap = H1 → s.vm.Alike t.vm → post r u → B u t → H.size ≤ H1.size → (∀ q : Nat, q < H.size → ¬ A1 q → H1[q]? = H[q]?) → va_S A0 H0 H1 locs1 → W p l e R s m args below meth c H1 locs1 (cells + mc) (slots + ms) Q (F0 m (pc + 3) ls (.float r :: rest))) : W p l e R s m args below meth c H locs cells slots Q (F0 m pc ls st0) := by
  intro T hT X
  rcases hr T hT X with ⟨v, st₀, t, T', L, h0, X', hL, e1, e2, ⟨⟨r, u, hv, hp, hb⟩, hF⟩, st⟩ | ⟨q, st₀, t, T', L, E, ce, h0, X', hL, e1, e2, ⟨u, hp, hb, hF⟩, hce, hcv, hcl, st⟩
  · cases hv
    obtain ⟨k1, k2, k3⟩ := vx_keep h0 e1 hS hA hf hL hF
    obtain ⟨t2, a1, b1⟩ := kk r u t T'.heap (locs ++ L) e1.symm (by rw [← e2]; exact X'.warmed.alike) hp hb k1 k2 k3 T' rfl X'
    exact ⟨t2, st t2 a1, b1⟩
  · obtain ⟨k1, k2, k3⟩ := vx_keep h0 e1 hS hAX hf hL hF
    obtain ⟨t2, a1, b1⟩ := kx E ce q u t T'.heap (locs ++ L) e1.symm (by rw [← e2]; exact X'.warmed.alike) hp hb k1 k2 k3 (by rw [e1]; exact hce) hcv hcl T' rfl X'
    exact ⟨t2, st.trans a1, b1⟩
theorem vx_calld {S SX : Type} {post : UInt64 → S → Prop} {px : SX → Prop} {B : S → State → Prop} {BX : String → SX → State → Prop} {AX : Nat → Prop} (hr : vx_Run p l e R s m args below meth c H locs cells slots mc ms (F0 m pc ls st0) rest (va_Qd post B A1 a) (vx_X px BX AX) free) (hS : va_S A0 H0 H locs) (hA : ∀ q, q < H.size → A1 q → A0 q) (hf : ∀ q, free q → A0 q) (hAX : ∀ q, q < H.size → AX q → A0 q)
    (kx : ∀ (E : String) (ce : Cell) (q9 : Addr) (u : SX) (t : State) (H1 : Heap) (locs1 : List Loc), t.heap = H1 → s.vm.Alike t.vm → px u → BX E u t → H.size ≤ H1.size → (∀ q : Nat, q < H.size → ¬ AX q → H1[q]? = H[q]?) → va_S A0 H0 H1 locs1 → H1[q9]? = some ce → ce.vm = .none → s.vm.findClass E = some ce.cls → vx_W p l e R s m args below meth c H1 locs1 (cells + mc) (slots + ms) Q (F0 m pc ls rest) q9)
    (kk : ∀ (r : UInt64) (u : S) (t : State) (H1 : Heap) (locs1 : List Loc), t.heap = H1 → s.vm.Alike t.vm → post r u → B u t → H.size ≤ H1.size → (∀ q : Nat, q < H.size → ¬ A1 q → H1[q]? = H[q]?) → va_S A0 H0 H1 locs1 → W p l e R s m args below meth c H1 locs1 (cells + mc) (slots + ms) Q (F0 m (pc + 3) ls (.double r :: rest))) : W p l e R s m args below meth c H locs cells slots Q (F0 m pc ls st0) := by
  intro T hT X
  rcases hr T hT X with ⟨v, st₀, t, T', L, h0, X', hL, e1, e2, ⟨⟨r, u, hv, hp, hb⟩, hF⟩, st⟩ | ⟨q, st₀, t, T', L, E, ce, h0, X', hL, e1, e2, ⟨u, hp, hb, hF⟩, hce, hcv, hcl, st⟩
  · cases hv
    obtain ⟨k1, k2, k3⟩ := vx_keep h0 e1 hS hA hf hL hF
    obtain ⟨t2, a1, b1⟩ := kk r u t T'.heap (locs ++ L) e1.symm (by rw [← e2]; exact X'.warmed.alike) hp hb k1 k2 k3 T' rfl X'
    exact ⟨t2, st t2 a1, b1⟩
  · obtain ⟨k1, k2, k3⟩ := vx_keep h0 e1 hS hAX hf hL hF
    obtain ⟨t2, a1, b1⟩ := kx E ce q u t T'.heap (locs ++ L) e1.symm (by rw [← e2]; exact X'.warmed.alike) hp hb k1 k2 k3 (by rw [e1]; exact hce) hcv hcl T' rfl X'
    exact ⟨t2, st.trans a1, b1⟩
theorem vx_callv {S SX : Type} {post : S → Prop} {px : SX → Prop} {B : S → State → Prop} {BX : String → SX → State → Prop} {AX : Nat → Prop} (hr : vx_Run p l e R s m args below meth c H locs cells slots mc ms (F0 m pc ls st0) rest (va_Qv post B A1 a) (vx_X px BX AX) free) (hS : va_S A0 H0 H locs) (hA : ∀ q, q < H.size → A1 q → A0 q) (hf : ∀ q, free q → A0 q) (hAX : ∀ q, q < H.size → AX q → A0 q)
    (kx : ∀ (E : String) (ce : Cell) (q9 : Addr) (u : SX) (t : State) (H1 : Heap) (locs1 : List Loc), t.heap = H1 → s.vm.Alike t.vm → px u → BX E u t → H.size ≤ H1.size → (∀ q : Nat, q < H.size → ¬ AX q → H1[q]? = H[q]?) → va_S A0 H0 H1 locs1 → H1[q9]? = some ce → ce.vm = .none → s.vm.findClass E = some ce.cls → vx_W p l e R s m args below meth c H1 locs1 (cells + mc) (slots + ms) Q (F0 m pc ls rest) q9)
    (kk : ∀ (u : S) (t : State) (H1 : Heap) (locs1 : List Loc), t.heap = H1 → s.vm.Alike t.vm → post u → B u t → H.size ≤ H1.size → (∀ q : Nat, q < H.size → ¬ A1 q → H1[q]? = H[q]?) → va_S A0 H0 H1 locs1 → W p l e R s m args below meth c H1 locs1 (cells + mc) (slots + ms) Q (F0 m (pc + 3) ls (rest))) : W p l e R s m args below meth c H locs cells slots Q (F0 m pc ls st0) := by
  intro T hT X
  rcases hr T hT X with ⟨v, st₀, t, T', L, h0, X', hL, e1, e2, ⟨⟨u, hv, hp, hb⟩, hF⟩, st⟩ | ⟨q, st₀, t, T', L, E, ce, h0, X', hL, e1, e2, ⟨u, hp, hb, hF⟩, hce, hcv, hcl, st⟩
  · cases hv
    obtain ⟨k1, k2, k3⟩ := vx_keep h0 e1 hS hA hf hL hF
    obtain ⟨t2, a1, b1⟩ := kk u t T'.heap (locs ++ L) e1.symm (by rw [← e2]; exact X'.warmed.alike) hp hb k1 k2 k3 T' rfl X'
    exact ⟨t2, st t2 a1, b1⟩
  · obtain ⟨k1, k2, k3⟩ := vx_keep h0 e1 hS hAX hf hL hF
    obtain ⟨t2, a1, b1⟩ := kx E ce q u t T'.heap (locs ++ L) e1.symm (by rw [← e2]; exact X'.warmed.alike) hp hb k1 k2 k3 (by rw [e1]; exact hce) hcv hcl T' rfl X'
    exact ⟨t2, st.trans a1, b1⟩
/-- caught by the row x of this method's table; the rows ahead don't take it -/
theorem vx_catch {own name : String} {E : String} {ce : Cell} {q : Addr} (hown : s.vm.findClass own = some m.cls) (pre : List ExceptionTableEntry) (x : ExceptionTableEntry) (suf : List ExceptionTableEntry) (hsplit : c.exceptionTable.toList = pre ++ x :: suf)
    (hpass : ∀ z ∈ pre, covers z pc = false ∨ (z.catchType ≠ 0 ∧ ∃ nm : String, (Cond.classLink own z.catchType nm).before args s = true ∧ va_Nc E nm s)) (hx : covers x pc = true) (h0 : x.catchType ≠ 0)
    (hlink : (Cond.classLink own x.catchType name).before args s = true) (hcast : (Cond.castable E name).before args s = true) (hcell : H[q]? = some ce) (hv : ce.vm = .none) (hcl : s.vm.findClass E = some ce.cls)
    (kk : W p l e R s m args below meth c H locs cells slots Q (F0 m x.handlerPc ls [.ref q])) : vx_W p l e R s m args below meth c H locs cells slots Q (F0 m pc ls rest) q := by
  intro T hT X
  have hpl : e.platform.magicAccessors = ({} : Platform).magicAccessors := by rw [X.admits.platform]
  obtain ⟨c3, c4, hc3, hc4, hasg⟩ := Cond.castable_spec hcast
  cases Option.some.inj (hc3.symm.trans hcl)
  obtain ⟨c5, hc5, hcl5⟩ := Cond.classLink_spec hown hlink e.platform hpl
  cases Option.some.inj (hc4.symm.trans hc5)
  obtain ⟨vm', X', st⟩ := Stand.thenCaughtThrough X q (g := F0 m pc ls rest) rfl (Steps.refl _) (by rw [hT]; exact hcell) (by rw [hv]; rfl) (by obtain ⟨k9, h9, -⟩ := Vm.findClass_spec hcl; exact ⟨k9, h9⟩) pre x suf hsplit
    (fun z hz => by
      rcases hpass z hz with h | ⟨hz0, nm, hl1, hn1⟩
      · exact Or.inl h
      · obtain ⟨c6, hc6, hcl6⟩ := Cond.classLink_spec hown hl1 e.platform hpl
        obtain ⟨a8, b8, h1, h2, h3⟩ := hn1
        cases Option.some.inj (h1.symm.trans hcl)
        cases Option.some.inj (h2.symm.trans hc6)
        exact Or.inr ⟨hz0, _, hcl6, h3⟩) hx (Or.inr ⟨h0, c4, hcl5, hasg⟩)
  obtain ⟨t, a1, b1⟩ := kk (T.setVm vm') hT X'
  exact ⟨t, st.trans a1, b1⟩
end Rows
section Ends
variable {p : Program} {l : Launch} {e : Env} {R : Room} {s : State} {m : MethodId} {args : Array Value} {below : List Frame} {meth : Method} {c : Code} {H : Heap} {locs : List Loc} {cells slots : Nat} {Q : State → Prop}
variable {mc ms : Nat} {free : Addr → Prop} {A0 A1 : Nat → Prop} {H0 : Heap} {a : Array Value} {ls : Array Slot} {st0 rest : List Value}
variable {Qc : Array Value → State → Outcome → State → Prop} {XC : String → State → State → Prop}
/-- what a body that may throw owes at its end -/
noncomputable def vx_MQ (below : List Frame) (Qc : Array Value → State → Outcome → State → Prop) (XC : String → State → State → Prop) (a : Array Value) (s : State) (mc ms : Nat) (free : Addr → Prop) : State → Prop := fun t =>
  ∃ o, t.status = .running ∧ Ended t below o ∧ vx_Q Qc XC mc ms free a s o t
theorem vx_ret {g : JFrame} {mc ms : Nat} (k : W p l e R s m args below meth c H locs cells slots (MQ below Qc args s mc ms free) g) : W p l e R s m args below meth c H locs cells slots (vx_MQ below Qc XC args s mc ms free) g := by
  intro T hT X
  obtain ⟨t, a1, o, b1, b2, b3, b4⟩ := k T hT X
  exact ⟨t, a1, o, b1, b2, Or.inl ⟨b3, b4⟩⟩
/-- not caught here: it goes on to the caller -/
theorem vx_widen {g : JFrame} {q : Addr} {k n : Nat} (h1 : cells ≤ k) (h2 : slots ≤ n) (kk : vx_W p l e R s m args below meth c H locs k n Q g q) : vx_W p l e R s m args below meth c H locs cells slots Q g q := fun T hT X => kk T hT (stand_widen X h1 h2)
theorem vx_out {pc : Nat} {E : String} {ce : Cell} {q : Addr} {mc ms : Nat} (hout : ∀ x ∈ c.exceptionTable.toList, covers x pc = false) (hlocks : meth.locks = false) (hcell : H[q]? = some ce) (hv : ce.vm = .none) (hcl : s.vm.findClass E = some ce.cls)
    (hx : ∀ t : State, t.heap = H → s.vm.Alike t.vm → XC E s t) (hf : ∀ z ∈ locs, free z.base) (hc : cells ≤ mc) (hs : slots ≤ ms) :
    vx_W p l e R s m args below meth c H locs cells slots (vx_MQ below Qc XC args s mc ms free) (F0 m pc ls rest) q := by
  intro T hT X
  obtain ⟨st1, hrun, hend, hW, hsm⟩ := X.leaveThrown q (g := F0 m pc ls rest) rfl rfl rfl hout hlocks
  have hcell9 : (T.setFrames (.throwing q :: below)).heap[q]? = some ce := by
    show T.heap[q]? = some ce
    rw [hT]; exact hcell
  exact ⟨_, st1, .threw q, hrun, hend, Or.inr ⟨q, rfl, E, ce, locs, hx _ hT hW.alike, hcell9, hv, hcl, hW, hsm.mono hc hs, hf⟩⟩
theorem vx_frame {U : State} {k n : Nat} (h : s.sameButNew ({ U with vm := s.vm } : State) locs k n) : s.heap.size ≤ U.heap.size ∧ ∀ q : Nat, q < s.heap.size → (∀ z ∈ locs, z.base ≠ q) → U.heap[q]? = s.heap[q]? := by
  obtain ⟨-, h2, -, -, -, h6⟩ := h
  refine ⟨h2, fun q hq hz => ?_⟩
  obtain ⟨c9, e1, e2, e3, e4⟩ := h6 q _ (Array.getElem?_eq_getElem hq)
  have hs : c9.slots = (s.heap[q]).slots := Array.ext_getElem? fun i => e4 i fun hm => hz _ hm rfl
  have h9 : c9 = s.heap[q] := by
    rw [hs] at e2
    exact e2
  have e5 : U.heap[q]? = some c9 := e1
  rw [e5, h9, Array.getElem?_eq_getElem hq]
/-- the words of a throw but the four that speak of the heap -/
noncomputable def vx_no (w : Cond) : Bool := decide (w ≠ .isRef (.static Bundle.tN "UNASSIGNED_STACK" Bundle.steD)) && decide (w ≠ .isRef (.static Bundle.tN "SUPPRESSED_SENTINEL" Bundle.listD)) && decide (w ≠ .laysStatic Bundle.tN "UNASSIGNED_STACK" Bundle.steD) && decide (w ≠ .laysStatic Bundle.tN "SUPPRESSED_SENTINEL" Bundle.listD)
noncomputable def vx_at0 (own : String) (ic : Nat) (X : String) (names : List String) : List Cond := (Bundle.ownAtoms0 own ic X names).filter vx_no
noncomputable def vx_atS (own : String) (ic : Nat) (X : String) (names : List String) : List Cond := (Bundle.ownAtoms own ic X names).filter vx_no
/-- a word that the tables alone decide, or a good one -/
noncomputable def vx_ot (w : Cond) : Bool := w.onTables || goodWord w
theorem vx_ot_at {args a' : Array Value} {s U : State} {w : Cond} (hW : s.WarmedH U.vm) (hvm : s.vm = U.vm) (hg : vx_ot w = true) (h : w.before args s = true) : w.before a' U = true := by
  simp only [vx_ot, Bool.or_eq_true] at hg
  rcases hg with hg | hg
  · exact va_tabs hg hvm h
  · exact word_at hW (good_of_word hg) h
/-- a list's words: the good ones out of the method's own list, the others by premises of their own -/
theorem vx_hat {args : Array Value} {s : State} {L B : List Cond} (h1 : ∀ w ∈ L.filter goodWord, w.before args s = true) (h2 : ∀ w ∈ L.filter (fun w => !goodWord w), w ∈ B) (h3 : ∀ w ∈ B, w.before args s = true) : ∀ w ∈ L, w.before args s = true := by
  intro w hw
  by_cases g : goodWord w = true
  · exact h1 w (List.mem_filter.mpr ⟨hw, g⟩)
  · refine h3 w (h2 w (List.mem_filter.mpr ⟨hw, ?_⟩))
    show (!goodWord w) = true
    cases hgw : goodWord w
    · rfl
    · exact absurd hgw g
theorem vx_c {args : Array Value} {s : State} {w : Cond} {B : List Cond} (h : w.before args s = true) (t : ∀ w ∈ B, w.before args s = true) : ∀ w' ∈ w :: B, w'.before args s = true := fun w' h' => (List.mem_cons.mp h').elim (fun e => by rw [e]; exact h) (t w')
theorem vx_n {args : Array Value} {s : State} : ∀ w ∈ ([] : List Cond), w.before args s = true := fun _ h => nomatch h
theorem vx_own {args : Array Value} {s : State} {L : List Cond} (h1 : ∀ w ∈ L.filter vx_no, w.before args s = true)
    (hU : (Cond.isRef (.static Bundle.tN "UNASSIGNED_STACK" Bundle.steD)).before args s = true) (hN : (Cond.isRef (.static Bundle.tN "SUPPRESSED_SENTINEL" Bundle.listD)).before args s = true)
    (lU : (Cond.laysStatic Bundle.tN "UNASSIGNED_STACK" Bundle.steD).before args s = true) (lN : (Cond.laysStatic Bundle.tN "SUPPRESSED_SENTINEL" Bundle.listD).before args s = true) : ∀ w ∈ L, w.before args s = true := by
  intro w hw
  by_cases e1 : w = .isRef (.static Bundle.tN "UNASSIGNED_STACK" Bundle.steD)
  · rw [e1]; exact hU
  · by_cases e2 : w = .isRef (.static Bundle.tN "SUPPRESSED_SENTINEL" Bundle.listD)
    · rw [e2]; exact hN
    · by_cases e3 : w = .laysStatic Bundle.tN "UNASSIGNED_STACK" Bundle.steD
      · rw [e3]; exact lU
      · by_cases e4 : w = .laysStatic Bundle.tN "SUPPRESSED_SENTINEL" Bundle.listD
        · rw [e4]; exact lN
        · exact h1 w (List.mem_filter.mpr ⟨hw, by unfold vx_no; rw [decide_eq_true e1, decide_eq_true e2, decide_eq_true e3, decide_eq_true e4]; rfl⟩)
/-- where a static field lies, its class's statics cell in H -/
noncomputable def vx_L (C n d : String) (A : Nat → Prop) (U : State) (H : Heap) : Prop := ∃ (c : ClassId) (k : Class) (i : Nat) (f : Field) (a : Nat) (cell : Cell), U.vm.findClass C = some c ∧ U.fieldFound? C n d = some (c, k, i, f) ∧ f.isStatic = true ∧ k.statics = some a ∧ H[a]? = some cell ∧ cell.vm.isStatics = true ∧ cell.cls = c ∧ f.slot < cell.slots.size ∧ k.staticTypes[f.slot]? = some f.type ∧ ¬ A a
theorem vx_L.moved {C n d : String} {A : Nat → Prop} {u U : State} {H : Heap} (hvm : u.vm.Alike U.vm) (h : vx_L C n d A u H) : vx_L C n d A U H := by
  obtain ⟨c, k, i, f, a, cell, h1, h2, h3, h4, h5, h6, h7, h8, h9, h10⟩ := h
  obtain ⟨k', hi', he⟩ := State.fieldFound?_setVm hvm h2
  exact ⟨c, k', i, f, a, cell, by rw [hvm.findClass]; exact h1, hi', h3, by rw [he]; exact h4, h5, h6, h7, h8, by rw [he]; exact h9, h10⟩
theorem vx_L.kept {C n d : String} {A : Nat → Prop} {U : State} {H H1 : Heap} (h : vx_L C n d A U H) (hq : ∀ a : Nat, a < H.size → ¬ A a → H1[a]? = H[a]?) : vx_L C n d A U H1 := by
  obtain ⟨c, k, i, f, a, cell, h1, h2, h3, h4, h5, h6, h7, h8, h9, h10⟩ := h
  exact ⟨c, k, i, f, a, cell, h1, h2, h3, h4, by rw [hq a (Array.getElem?_eq_some_iff.mp h5).1 h10]; exact h5, h6, h7, h8, h9, h10⟩
theorem vx_L.narrow {C n d : String} {A B : Nat → Prop} {U : State} {H : Heap} (h : vx_L C n d A U H) (hAB : ∀ q, B q → A q) : vx_L C n d B U H := by
  obtain ⟨c, k, i, f, a, cell, h1, h2, h3, h4, h5, h6, h7, h8, h9, h10⟩ := h
  exact ⟨c, k, i, f, a, cell, h1, h2, h3, h4, h5, h6, h7, h8, h9, fun z => h10 (hAB _ z)⟩
theorem vx_L.word {C n d : String} {A : Nat → Prop} {s : State} {args : Array Value} (h : vx_L C n d A s s.heap) : (Cond.laysStatic C n d).before args s = true := by
  obtain ⟨c, k, i, f, a, cell, h1, h2, h3, h4, h5, h6, h7, h8, h9, -⟩ := h
  show (Cond.laysStatic C n d).holds args s none s [] = true
  exact Cond.laysStatic_of h1 h2 h3 h4 h5 h6 h7 h8 h9
/-- .. and what it holds: null or some reference -/
noncomputable def vx_Zq (C n d : String) (A : Nat → Prop) (U : State) (H : Heap) : Prop := va_Zq C n d A U H ∧ vx_L C n d A U H
theorem vx_Zq.moved {C n d : String} {A : Nat → Prop} {u U : State} {H : Heap} (hvm : u.vm.Alike U.vm) (h : vx_Zq C n d A u H) : vx_Zq C n d A U H := ⟨va_Zq.moved hvm h.1, vx_L.moved hvm h.2⟩
theorem vx_Zq.kept {C n d : String} {A : Nat → Prop} {U : State} {H H1 : Heap} (h : vx_Zq C n d A U H) (hq : ∀ a : Nat, a < H.size → ¬ A a → H1[a]? = H[a]?) : vx_Zq C n d A U H1 := ⟨va_Zq.kept h.1 hq, vx_L.kept h.2 hq⟩
theorem vx_Zq.narrow {C n d : String} {A B : Nat → Prop} {U : State} {H : Heap} (h : vx_Zq C n d A U H) (hAB : ∀ q, B q → A q) : vx_Zq C n d B U H := ⟨va_Zq.narrow h.1 hAB, vx_L.narrow h.2 hAB⟩
theorem vx_Zqof {args : Array Value} {s : State} {C n d : String} {A : Nat → Prop} (hl : (Cond.laysStatic C n d).before args s = true) (hini : (Cond.initialized C).before args s = true) (h : (Cond.isRef (.static C n d)).before args s = true) (hA : ∀ a : Nat, a < s.heap.size → ¬ A a) : vx_Zq C n d A s s.heap := by
  refine ⟨va_Zqof hl hini h hA, ?_⟩
  obtain ⟨c, k, i, f, a, cell, h1, h2, h3, h4, h5, h6, h7, h8, h9⟩ := Cond.laysStatic_spec hl
  exact ⟨c, k, i, f, a, cell, h1, h2, h3, h4, h5, h6, h7, h8, h9, hA a (Array.getElem?_eq_some_iff.mp h5).1⟩
theorem vx_isRef {C n d : String} {v : Value} {A : Nat → Prop} {s : State} {args : Array Value} (h : va_Z C n d v A s s.heap) (hv : v.isRef = true) : (Cond.isRef (.static C n d)).before args s = true := by
  obtain ⟨cf, kf, fi, f, a, cell, h1, h2, h3, h4, h5, h6, h7, -⟩ := h
  have he : (Term.static C n d).eval args s none [] s = some v := by
    simp [Term.eval, State.fieldNamed?, h1, h2, h4, h5, h6, h7]
  simp only [Cond.before, Cond.holds, Cond.value, he]
  cases v <;> simp_all [Value.isRef]
theorem vx_isRefq {C n d : String} {A : Nat → Prop} {s : State} {args : Array Value} (h : va_Zq C n d A s s.heap) : (Cond.isRef (.static C n d)).before args s = true := by
  rcases h with h | ⟨t, h⟩
  · exact vx_isRef h rfl
  · exact vx_isRef h rfl
/-- the same frame, seen from here: as if the method were called anew in this heap -/
theorem vx_rebase {T : State} (X : Stand p l e R s m args below meth c T locs cells slots) {R' : Room} (hf : R'.frames ≤ R.frames) (hl : R'.locals ≤ R.locals) (hc : cells + R'.cells ≤ R.cells) (hs : slots + R'.slots ≤ R.slots) :
    Stand p l e R' ((T.setVm s.vm).setFrames (.invoking m args :: below)) m args below meth c T [] 0 0 := by
  have htop : (T.setVm s.vm).topJava?.isSome := X.here.top
  have hF : ((T.setVm s.vm).setFrames (.invoking m args :: below)).frames = .invoking m args :: below := State.frames_setFrames _ (State.cur_lt_of_top htop)
  obtain ⟨g₀, hg0⟩ := Option.isSome_iff_exists.mp htop
  obtain ⟨r, hr⟩ := State.topJava?_eq_some.mp hg0
  have hl9 : e.platform.stackLimits (T.setVm s.vm).me = e.platform.stackLimits s.me := X.limits
  have hb9 : (T.setVm s.vm).me.stackBytes = s.me.stackBytes := X.bytes
  refine ⟨X.admits, X.cas, X.clock, hF, ?_, X.hears, X.method, X.code, X.here, X.tail, X.warmed, ?_, ?_, ?_⟩
  · have h := X.room
    have hU : ((T.setVm s.vm).setFrames (.invoking m args :: below)).localsInUse = s.localsInUse := by
      rw [State.localsInUse_invoking hF (meth := meth) (c := c) X.method X.code, State.localsInUse_invoking X.frames X.method X.code]
    simp only [State.hasRoom, Bool.and_eq_true, decide_eq_true_eq] at h ⊢
    obtain ⟨⟨⟨⟨h1, h2, h3, h4, h5, h6⟩, h7⟩, h8⟩, h9⟩ := h
    rw [X.frames, List.length_cons] at h2 h3
    have q1 := X.heapSize
    have q2 := X.used
    simp only [hF, hU, List.length_cons, State.stackLimits_setFrames, State.stackBytes_setFrames, hl9, hb9]
    refine ⟨⟨⟨⟨by omega, by omega, by omega, by omega, by omega, h6⟩, ?_⟩, ?_⟩, X.book⟩
    · show T.heap.size + R'.cells ≤ e.platform.maxCells
      omega
    · show T.slotsUsed + R'.slots ≤ e.platform.maxSlots
      omega
  · rw [State.stackLimits_setFrames]; rfl
  · rw [State.stackBytes_setFrames]; rfl
  · refine ⟨?_, Nat.le_refl _, Nat.le_refl _, ?_, ?_, fun a c9 h9 => ⟨c9, h9, rfl, rfl, fun _ _ => rfl⟩⟩
    · obtain ⟨t, ht, -⟩ := State.frames_cons hr
      show T.setVm s.vm = { ((T.setVm s.vm).setFrames (.invoking m args :: below)).setFrames (T.setVm s.vm).frames with heap := T.heap, slotsUsed := T.slotsUsed }
      rw [State.setFrames_setFrames, State.setFrames_self ht]
      rfl
    · show T.slotsUsed = T.slotsUsed + ((T.heap.toList.drop T.heap.size).map (·.slots.size)).sum
      rw [List.drop_eq_nil_of_le (Nat.le_of_eq Array.length_toList)]
      rfl
    · show ((T.heap.toList.drop T.heap.size).map (·.slots.size)).sum ≤ 0
      rw [List.drop_eq_nil_of_le (Nat.le_of_eq Array.length_toList)]
      exact Nat.le_refl _
/-- 'throw new E()': new; dup; invokespecial; athrow -/
theorem vx_throw0 {cc : ByteArray} {pc : Nat} (hexec : p.tables.exec = Jvm.exec) (hb : c.code = cc) (hl : l.stackTraces = false) {own cls : String} {names : List String} {ik ic mc ms : Nat} {A : Nat → Prop}
    (hown : s.vm.findClass own = some m.cls) (hcls : Bundle.fit cls = true) (hnames : ∀ n ∈ names, Bundle.fit n = true)
    (hk : (Cond.classLink own ik cls).before args s = true) (hini : (Cond.initialized cls).before args s = true) (hat : ∀ w ∈ vx_at0 own ic cls names, w.before args s = true)
    (hgood : ∀ w ∈ Cond.classLink own ik cls :: Cond.initialized cls :: vx_at0 own ic cls names, vx_ot w = true)
    (hU : vx_Zq Bundle.tN "UNASSIGNED_STACK" Bundle.steD A s s.heap) (hN : vx_Zq Bundle.tN "SUPPRESSED_SENTINEL" Bundle.listD A s s.heap) (hS : va_S A s.heap H locs) (hsize : ls.size = c.maxLocals)
    (d0 : decode cc pc = .ok (.new ik, 3)) (d3 : decode cc (pc + 3) = .ok (.dup, 1)) (d4 : decode cc (pc + 4) = .ok (.invokespecial ic, 3)) (d7 : decode cc (pc + 7) = .ok (.athrow, 1))
    (hout : ∀ x ∈ c.exceptionTable.toList, covers x (pc + 7) = false)
    (hRframes : names.length + 3 < R.frames) (hRlocals : (rest.map fun v => v.category).sum + (13 * (names.length + 1) + 42) ≤ R.locals) (hRcells : cells + 1 ≤ R.cells) (hRslots : slots + 6 ≤ R.slots) (hlocks : meth.locks = false)
    (hx : ∀ t : State, s.vm.Alike t.vm → H.size ≤ t.heap.size → (∀ q : Nat, q < H.size → t.heap[q]? = H[q]?) → XC cls s t)
    (hf : ∀ z ∈ locs, free z.base) (hc : cells + 1 ≤ mc) (hs : slots + 6 ≤ ms) :
    W p l e R s m args below meth c H locs cells slots (vx_MQ below Qc XC args s mc ms free) (F0 m pc ls rest) := by
  intro T hT X
  have htr : e.platform.stackTraces = false := (show e.platform.stackTraces = l.stackTraces by rw [X.admits.platform]).trans hl
  have Y := vx_rebase X (R' := { frames := R.frames, locals := R.locals, cells := 1, slots := 6 }) (Nat.le_refl _) (Nat.le_refl _) hRcells hRslots
  obtain ⟨s', hA⟩ : ∃ z, z = (T.setVm s.vm).setFrames (.invoking m args :: below) := ⟨_, rfl⟩
  rw [← hA] at Y
  have hvm : s'.vm = s.vm := by rw [hA]; rfl
  have hhp : s'.heap = H := by rw [hA]; exact hT
  have hW0 : s.WarmedH s'.vm := by rw [hvm]; exact State.WarmedH.refl s
  have hat' : ∀ w ∈ vx_at0 own ic cls names, w.before args s' = true := fun w hw => vx_ot_at hW0 hvm.symm (hgood w (List.mem_cons_of_mem _ (List.mem_cons_of_mem _ hw))) (hat w hw)
  have hk' : (Cond.classLink own ik cls).before args s' = true := vx_ot_at hW0 hvm.symm (hgood _ List.mem_cons_self) hk
  have hini' : (Cond.initialized cls).before args s' = true := vx_ot_at hW0 hvm.symm (hgood _ (List.mem_cons_of_mem _ List.mem_cons_self)) hini
  have hU' : vx_Zq Bundle.tN "UNASSIGNED_STACK" Bundle.steD A s' s'.heap := by rw [hhp]; exact vx_Zq.moved hW0.alike (hU.kept hS.2.1)
  have hN' : vx_Zq Bundle.tN "SUPPRESSED_SENTINEL" Bundle.listD A s' s'.heap := by rw [hhp]; exact vx_Zq.moved hW0.alike (hN.kept hS.2.1)
  have h : ∀ w ∈ Bundle.ownAtoms0 own ic cls names, w.before args s' = true := vx_own hat' (vx_isRefq hU'.1) (vx_isRefq hN'.1) hU'.2.word hN'.2.word
  have hown' : s'.vm.findClass own = some m.cls := by rw [hvm]; exact hown
  have hins : (Cond.instantiable cls 6).before args s' = true := h _ (by simp [Bundle.ownAtoms0])
  obtain ⟨vm₁, cX, kX, hfX, hkX, -, -, X₁, st1⟩ := Y.newCold hexec (own := own) (C := cls) (index := ik) (n := 6) hown' hk' hins hini'
    (g := F0 m pc ls rest) rfl (by rw [hb]; exact d0) (Nat.le_refl _) (Nat.le_refl _)
  generalize hT1 : (T.setVm vm₁).pushCell { cls := cX, slots := kX.instanceTypes.map defaultValue, vm := .none } = T1 at X₁ st1
  have hcat : (Value.ref T.heap.size).category = 1 := rfl
  have hcellA : T1.heap[T.heap.size]? = some (freshCell cX kX) := by rw [← hT1]; exact State.heap_pushCell_size _ _
  have d3' : decode c.code (pc + 3) = .ok (.dup, 1) := by rw [hb]; exact d3
  obtain ⟨U, hsteps, hrun, hend, hW, hsame, ce, hce, hO⟩ := X₁.ctorThrow0 hexec htr (own := own) (cls := cls) (names := names) (ic := ic) hown' hcls hnames h (fun x hx => nomatch hx) hfX hkX hcellA (by rw [hhp, hT]; exact Nat.le_refl _)
    (g := { method := m, pc := pc + 4, locals := ls, stack := .ref T.heap.size :: .ref T.heap.size :: rest, locked := none }) rfl hsize rfl rfl (rest := rest) rfl
    (by rw [hb]; exact d4) (by rw [hb]; exact d7) hout hRframes (by simp only [List.map_cons, List.sum_cons, hcat]; omega) hlocks
  obtain ⟨f1, f2⟩ := vx_frame hsame
  rw [hhp] at f1 f2
  have hWs : s.WarmedH U.vm := State.WarmedH.trans hW0 hW
  have hcl : s.vm.findClass cls = some ce.cls := by
    have h9 := hO.cls
    rw [hvm] at h9
    exact h9
  have hall : s.sameButNew ({ U with vm := s.vm } : State) locs mc ms := by
    subst hA
    obtain ⟨e1, e2⟩ := hsame
    rw [State.setFrames_setFrames] at e1
    have h2 : (T.setVm s.vm).sameButNew ({ U with vm := s.vm } : State) [] (0 + 1) (0 + 6) := ⟨e1, e2⟩
    have h3 := X.same.trans h2
    rw [List.append_nil] at h3
    exact h3.mono hc hs
  refine ⟨U, ?_, .threw T.heap.size, hrun, hend, Or.inr ⟨T.heap.size, rfl, cls, ce, locs, hx U hWs.alike f1 (fun q hq => f2 q hq (fun z hz => nomatch hz)), hce, hO.vm, hcl, hWs, hall, hf⟩⟩
  refine st1 _ ?_
  show Steps p.tables e below (T1.setTop { method := m, pc := pc + 3, locals := ls, stack := .ref T.heap.size :: rest, locked := none }) _
  jvm_step X₁.here [X₁.here.top, hexec, d3', Value.category]
  exact hsteps
/-- 'throw new E("text")': new; dup; ldc; invokespecial; athrow -/
theorem vx_throwS {cc : ByteArray} {pc : Nat} (hexec : p.tables.exec = Jvm.exec) (hb : c.code = cc) (hl : l.stackTraces = false) {own cls text : String} {names : List String} {ik is ic mc ms sa : Nat} {A : Nat → Prop}
    (hown : s.vm.findClass own = some m.cls) (hcls : Bundle.fit cls = true) (hnames : ∀ n ∈ names, Bundle.fit n = true)
    (hk : (Cond.classLink own ik cls).before args s = true) (hini : (Cond.initialized cls).before args s = true) (hstr : vk_R own is text sa s) (hat : ∀ w ∈ vx_atS own ic cls names, w.before args s = true)
    (hgood : ∀ w ∈ Cond.classLink own ik cls :: Cond.initialized cls :: vx_atS own ic cls names, vx_ot w = true)
    (hU : vx_Zq Bundle.tN "UNASSIGNED_STACK" Bundle.steD A s s.heap) (hN : vx_Zq Bundle.tN "SUPPRESSED_SENTINEL" Bundle.listD A s s.heap) (hS : va_S A s.heap H locs) (hsize : ls.size = c.maxLocals)
    (d0 : decode cc pc = .ok (.new ik, 3)) (d3 : decode cc (pc + 3) = .ok (.dup, 1)) (d4 : decode cc (pc + 4) = .ok (.ldc is, 2)) (d6 : decode cc (pc + 6) = .ok (.invokespecial ic, 3)) (d9 : decode cc (pc + 9) = .ok (.athrow, 1))
    (hout : ∀ x ∈ c.exceptionTable.toList, covers x (pc + 9) = false)
    (hRframes : names.length + 3 < R.frames) (hRlocals : (rest.map fun v => v.category).sum + (13 * (names.length + 1) + 43) ≤ R.locals) (hRcells : cells + 1 ≤ R.cells) (hRslots : slots + 6 ≤ R.slots) (hlocks : meth.locks = false)
    (hx : ∀ t : State, s.vm.Alike t.vm → H.size ≤ t.heap.size → (∀ q : Nat, q < H.size → t.heap[q]? = H[q]?) → XC cls s t)
    (hf : ∀ z ∈ locs, free z.base) (hc : cells + 1 ≤ mc) (hs : slots + 6 ≤ ms) :
    W p l e R s m args below meth c H locs cells slots (vx_MQ below Qc XC args s mc ms free) (F0 m pc ls rest) := by
  intro T hT X
  have htr : e.platform.stackTraces = false := (show e.platform.stackTraces = l.stackTraces by rw [X.admits.platform]).trans hl
  have Y := vx_rebase X (R' := { frames := R.frames, locals := R.locals, cells := 1, slots := 6 }) (Nat.le_refl _) (Nat.le_refl _) hRcells hRslots
  obtain ⟨s', hA⟩ : ∃ z, z = (T.setVm s.vm).setFrames (.invoking m args :: below) := ⟨_, rfl⟩
  rw [← hA] at Y
  have hvm : s'.vm = s.vm := by rw [hA]; rfl
  have hhp : s'.heap = H := by rw [hA]; exact hT
  have hW0 : s.WarmedH s'.vm := by rw [hvm]; exact State.WarmedH.refl s
  have hat' : ∀ w ∈ vx_atS own ic cls names, w.before args s' = true := fun w hw => vx_ot_at hW0 hvm.symm (hgood w (List.mem_cons_of_mem _ (List.mem_cons_of_mem _ hw))) (hat w hw)
  have hk' : (Cond.classLink own ik cls).before args s' = true := vx_ot_at hW0 hvm.symm (hgood _ List.mem_cons_self) hk
  have hini' : (Cond.initialized cls).before args s' = true := vx_ot_at hW0 hvm.symm (hgood _ (List.mem_cons_of_mem _ List.mem_cons_self)) hini
  have hU' : vx_Zq Bundle.tN "UNASSIGNED_STACK" Bundle.steD A s' s'.heap := by rw [hhp]; exact vx_Zq.moved hW0.alike (hU.kept hS.2.1)
  have hN' : vx_Zq Bundle.tN "SUPPRESSED_SENTINEL" Bundle.listD A s' s'.heap := by rw [hhp]; exact vx_Zq.moved hW0.alike (hN.kept hS.2.1)
  have h : ∀ w ∈ Bundle.ownAtoms own ic cls names, w.before args s' = true := vx_own hat' (vx_isRefq hU'.1) (vx_isRefq hN'.1) hU'.2.word hN'.2.word
  have hown' : s'.vm.findClass own = some m.cls := by rw [hvm]; exact hown
  have hins : (Cond.instantiable cls 6).before args s' = true := h _ (by simp [Bundle.ownAtoms])
  obtain ⟨vm₁, cX, kX, hfX, hkX, -, -, X₁, st1⟩ := Y.newCold hexec (own := own) (C := cls) (index := ik) (n := 6) hown' hk' hins hini'
    (g := F0 m pc ls rest) rfl (by rw [hb]; exact d0) (Nat.le_refl _) (Nat.le_refl _)
  generalize hT1 : (T.setVm vm₁).pushCell { cls := cX, slots := kX.instanceTypes.map defaultValue, vm := .none } = T1 at X₁ st1
  have hcat : (Value.ref T.heap.size).category = 1 := rfl
  have hcellA : T1.heap[T.heap.size]? = some (freshCell cX kX) := by rw [← hT1]; exact State.heap_pushCell_size _ _
  have d3' : decode c.code (pc + 3) = .ok (.dup, 1) := by rw [hb]; exact d3
  have d4' : decode c.code (pc + 4) = .ok (.ldc is, 2) := by rw [hb]; exact d4
  have hstr' : vk_R own is text sa s' := vk_R.warm hW0 hstr
  obtain ⟨U, hsteps, hrun, hend, hW, hsame, ce, hce, hO⟩ := X₁.ctorThrowS hexec htr (own := own) (cls := cls) (names := names) (ic := ic) hown' hcls hnames h (fun x hx => nomatch hx) hfX hkX hcellA (by rw [hhp, hT]; exact Nat.le_refl _) (msg := .ref sa) rfl
    (g := { method := m, pc := pc + 6, locals := ls, stack := .ref sa :: .ref T.heap.size :: .ref T.heap.size :: rest, locked := none }) rfl hsize rfl rfl (rest := rest) rfl
    (by rw [hb]; exact d6) (by rw [hb]; exact d9) hout hRframes (by simp only [List.map_cons, List.sum_cons, hcat]; omega) hlocks
  obtain ⟨f1, f2⟩ := vx_frame hsame
  rw [hhp] at f1 f2
  have hWs : s.WarmedH U.vm := State.WarmedH.trans hW0 hW
  have hcl : s.vm.findClass cls = some ce.cls := by
    have h9 := hO.cls
    rw [hvm] at h9
    exact h9
  have hall : s.sameButNew ({ U with vm := s.vm } : State) locs mc ms := by
    subst hA
    obtain ⟨e1, e2⟩ := hsame
    rw [State.setFrames_setFrames] at e1
    have h2 : (T.setVm s.vm).sameButNew ({ U with vm := s.vm } : State) [] (0 + 1) (0 + 6) := ⟨e1, e2⟩
    have h3 := X.same.trans h2
    rw [List.append_nil] at h3
    exact h3.mono hc hs
  refine ⟨U, ?_, .threw T.heap.size, hrun, hend, Or.inr ⟨T.heap.size, rfl, cls, ce, locs, hx U hWs.alike f1 (fun q hq => f2 q hq (fun z hz => nomatch hz)), hce, hO.vm, hcl, hWs, hall, hf⟩⟩
  refine st1 _ ?_
  show Steps p.tables e below (T1.setTop { method := m, pc := pc + 3, locals := ls, stack := .ref T.heap.size :: rest, locked := none }) _
  jvm_step X₁.here [X₁.here.top, hexec, d3', Value.category]
  exact X₁.ldcString hexec (own := own) (text := text) (index := is) (a := sa) hown' hstr'.1 hstr'.2
    (g := { method := m, pc := pc + 4, locals := ls, stack := .ref T.heap.size :: .ref T.heap.size :: rest, locked := none }) rfl d4' _ hsteps
/-- 'throw new E("text")', the text by a wide index -/
theorem vx_throwSW {cc : ByteArray} {pc : Nat} (hexec : p.tables.exec = Jvm.exec) (hb : c.code = cc) (hl : l.stackTraces = false) {own cls text : String} {names : List String} {ik is ic mc ms sa : Nat} {A : Nat → Prop}
    (hown : s.vm.findClass own = some m.cls) (hcls : Bundle.fit cls = true) (hnames : ∀ n ∈ names, Bundle.fit n = true)
    (hk : (Cond.classLink own ik cls).before args s = true) (hini : (Cond.initialized cls).before args s = true) (hstr : vk_R own is text sa s) (hat : ∀ w ∈ vx_atS own ic cls names, w.before args s = true)
    (hgood : ∀ w ∈ Cond.classLink own ik cls :: Cond.initialized cls :: vx_atS own ic cls names, vx_ot w = true)
    (hU : vx_Zq Bundle.tN "UNASSIGNED_STACK" Bundle.steD A s s.heap) (hN : vx_Zq Bundle.tN "SUPPRESSED_SENTINEL" Bundle.listD A s s.heap) (hS : va_S A s.heap H locs) (hsize : ls.size = c.maxLocals)
    (d0 : decode cc pc = .ok (.new ik, 3)) (d3 : decode cc (pc + 3) = .ok (.dup, 1)) (d4 : decode cc (pc + 4) = .ok (.ldc_w is, 3)) (d7 : decode cc (pc + 7) = .ok (.invokespecial ic, 3)) (d10 : decode cc (pc + 10) = .ok (.athrow, 1))
    (hout : ∀ x ∈ c.exceptionTable.toList, covers x (pc + 10) = false)
    (hRframes : names.length + 3 < R.frames) (hRlocals : (rest.map fun v => v.category).sum + (13 * (names.length + 1) + 43) ≤ R.locals) (hRcells : cells + 1 ≤ R.cells) (hRslots : slots + 6 ≤ R.slots) (hlocks : meth.locks = false)
    (hx : ∀ t : State, s.vm.Alike t.vm → H.size ≤ t.heap.size → (∀ q : Nat, q < H.size → t.heap[q]? = H[q]?) → XC cls s t)
    (hf : ∀ z ∈ locs, free z.base) (hc : cells + 1 ≤ mc) (hs : slots + 6 ≤ ms) :
    W p l e R s m args below meth c H locs cells slots (vx_MQ below Qc XC args s mc ms free) (F0 m pc ls rest) := by
  intro T hT X
  have htr : e.platform.stackTraces = false := (show e.platform.stackTraces = l.stackTraces by rw [X.admits.platform]).trans hl
  have Y := vx_rebase X (R' := { frames := R.frames, locals := R.locals, cells := 1, slots := 6 }) (Nat.le_refl _) (Nat.le_refl _) hRcells hRslots
  obtain ⟨s', hA⟩ : ∃ z, z = (T.setVm s.vm).setFrames (.invoking m args :: below) := ⟨_, rfl⟩
  rw [← hA] at Y
  have hvm : s'.vm = s.vm := by rw [hA]; rfl
  have hhp : s'.heap = H := by rw [hA]; exact hT
  have hW0 : s.WarmedH s'.vm := by rw [hvm]; exact State.WarmedH.refl s
  have hat' : ∀ w ∈ vx_atS own ic cls names, w.before args s' = true := fun w hw => vx_ot_at hW0 hvm.symm (hgood w (List.mem_cons_of_mem _ (List.mem_cons_of_mem _ hw))) (hat w hw)
  have hk' : (Cond.classLink own ik cls).before args s' = true := vx_ot_at hW0 hvm.symm (hgood _ List.mem_cons_self) hk
  have hini' : (Cond.initialized cls).before args s' = true := vx_ot_at hW0 hvm.symm (hgood _ (List.mem_cons_of_mem _ List.mem_cons_self)) hini
  have hU' : vx_Zq Bundle.tN "UNASSIGNED_STACK" Bundle.steD A s' s'.heap := by rw [hhp]; exact vx_Zq.moved hW0.alike (hU.kept hS.2.1)
  have hN' : vx_Zq Bundle.tN "SUPPRESSED_SENTINEL" Bundle.listD A s' s'.heap := by rw [hhp]; exact vx_Zq.moved hW0.alike (hN.kept hS.2.1)
  have h : ∀ w ∈ Bundle.ownAtoms own ic cls names, w.before args s' = true := vx_own hat' (vx_isRefq hU'.1) (vx_isRefq hN'.1) hU'.2.word hN'.2.word
  have hown' : s'.vm.findClass own = some m.cls := by rw [hvm]; exact hown
  have hins : (Cond.instantiable cls 6).before args s' = true := h _ (by simp [Bundle.ownAtoms])
  obtain ⟨vm₁, cX, kX, hfX, hkX, -, -, X₁, st1⟩ := Y.newCold hexec (own := own) (C := cls) (index := ik) (n := 6) hown' hk' hins hini'
    (g := F0 m pc ls rest) rfl (by rw [hb]; exact d0) (Nat.le_refl _) (Nat.le_refl _)
  generalize hT1 : (T.setVm vm₁).pushCell { cls := cX, slots := kX.instanceTypes.map defaultValue, vm := .none } = T1 at X₁ st1
  have hcat : (Value.ref T.heap.size).category = 1 := rfl
  have hcellA : T1.heap[T.heap.size]? = some (freshCell cX kX) := by rw [← hT1]; exact State.heap_pushCell_size _ _
  have d3' : decode c.code (pc + 3) = .ok (.dup, 1) := by rw [hb]; exact d3
  have d4' : decode c.code (pc + 4) = .ok (.ldc_w is, 3) := by rw [hb]; exact d4
  have hstr' : vk_R own is text sa s' := vk_R.warm hW0 hstr
  obtain ⟨U, hsteps, hrun, hend, hW, hsame, ce, hce, hO⟩ := X₁.ctorThrowS hexec htr (own := own) (cls := cls) (names := names) (ic := ic) hown' hcls hnames h (fun x hx => nomatch hx) hfX hkX hcellA (by rw [hhp, hT]; exact Nat.le_refl _) (msg := .ref sa) rfl
    (g := { method := m, pc := pc + 7, locals := ls, stack := .ref sa :: .ref T.heap.size :: .ref T.heap.size :: rest, locked := none }) rfl hsize rfl rfl (rest := rest) rfl
    (by rw [hb]; exact d7) (by rw [hb]; exact d10) hout hRframes (by simp only [List.map_cons, List.sum_cons, hcat]; omega) hlocks
  obtain ⟨f1, f2⟩ := vx_frame hsame
  rw [hhp] at f1 f2
  have hWs : s.WarmedH U.vm := State.WarmedH.trans hW0 hW
  have hcl : s.vm.findClass cls = some ce.cls := by
    have h9 := hO.cls
    rw [hvm] at h9
    exact h9
  have hall : s.sameButNew ({ U with vm := s.vm } : State) locs mc ms := by
    subst hA
    obtain ⟨e1, e2⟩ := hsame
    rw [State.setFrames_setFrames] at e1
    have h2 : (T.setVm s.vm).sameButNew ({ U with vm := s.vm } : State) [] (0 + 1) (0 + 6) := ⟨e1, e2⟩
    have h3 := X.same.trans h2
    rw [List.append_nil] at h3
    exact h3.mono hc hs
  refine ⟨U, ?_, .threw T.heap.size, hrun, hend, Or.inr ⟨T.heap.size, rfl, cls, ce, locs, hx U hWs.alike f1 (fun q hq => f2 q hq (fun z hz => nomatch hz)), hce, hO.vm, hcl, hWs, hall, hf⟩⟩
  refine st1 _ ?_
  show Steps p.tables e below (T1.setTop { method := m, pc := pc + 3, locals := ls, stack := .ref T.heap.size :: rest, locked := none }) _
  jvm_step X₁.here [X₁.here.top, hexec, d3', Value.category]
  exact X₁.ldcStringW hexec (own := own) (text := text) (index := is) (a := sa) hown' hstr'.1 hstr'.2
    (g := { method := m, pc := pc + 4, locals := ls, stack := .ref T.heap.size :: .ref T.heap.size :: rest, locked := none }) rfl d4' _ hsteps
end Ends
section Bodies
variable {l : Launch}
theorem vx_ofW {y : MethodName} {ws ws' : List Cond} {rm : Room} {Pc : Array Value → State → Prop} {Qc : Array Value → State → Outcome → State → Prop} {XC : String → State → State → Prop} {mc ms : Nat} {free : Addr → Prop} {cc : ByteArray} {maxL : Nat} {ret : Option FieldType}
    (hy : plainName y.cls = true) (hw : ws = Cond.code y cc maxL ret :: ws')
    (body : ∀ p e s m args below meth c s₁, BodyLoose p l y (headSpec ws rm) cc maxL ret e s m args below meth c s₁ → c.maxLocals = maxL → (∀ x ∈ c.exceptionTable.toList, False) → Pc args s →
      W p l e (headSpec ws rm).room s m args below meth c s.heap [] 0 0 (vx_MQ below Qc XC args s mc ms free) (entryFrame m args maxL)) : vx_Met l y ws rm Pc Qc XC mc ms free := by
  refine MetFree.of_bodyS (code := cc) (maxLocals := maxL) (ret := ret) hy ?_ ?_
  · intro args s m h hn
    obtain ⟨meth, c, h1, h2, h3, h4, h5, h6, -, -⟩ := Cond.code_spec hn (atoms_spec (ws := ws) h _ (by rw [hw]; exact List.mem_cons_self))
    exact ⟨meth, c, h1, h2, h3, h4, h5, h6⟩
  · intro p e s m args below meth c s₁ B hml hP _
    have hh0 : s₁.heap = s.heap := by rw [B.state]; rfl
    have ht : ∀ x ∈ c.exceptionTable.toList, False := by
      obtain ⟨meth9, c9, h1, h2, -, -, -, -, h7, -⟩ := Cond.code_spec B.named (atoms_spec (ws := ws) B.pre _ (by rw [hw]; exact List.mem_cons_self))
      cases Option.some.inj (h1.symm.trans B.method)
      cases Option.some.inj (h2.symm.trans (Stand.of_body B).code)
      intro x hx
      rw [Array.isEmpty_iff.mp h7] at hx
      cases hx
    obtain ⟨t, a1, o, b1, b2, b3⟩ := body p e s m args below meth c s₁ B hml ht hP s₁ hh0 (Stand.of_body B)
    exact ⟨t, o, a1, b1, b2, b3⟩
/-- the table of a body with handlers -/
theorem vx_table {p : Program} {x y : MethodName} {S : Spec} {cc bytes : ByteArray} {maxL maxL' : Nat} {ret ret' : Option FieldType} {e : Env} {s s₁ : State} {m : MethodId} {args : Array Value} {below : List Frame} {meth : Method} {c : Code} {hh : List (Nat × Nat × Nat × Nat)}
    (B : BodyLoose p l y S cc maxL ret e s m args below meth c s₁) (h : (Cond.codeWith y bytes maxL' ret' hh).before args s = true) : c.exceptionTable.toList = tableOf hh := by
  obtain ⟨m9, meth9, c9, hn9, h1, h2, -, -, h6, -⟩ := Cond.codeWith_spec h
  cases Option.some.inj (hn9.symm.trans B.named)
  cases Option.some.inj (h1.symm.trans B.method)
  cases Option.some.inj (h2.symm.trans (Stand.of_body B).code)
  rw [← h6, table_eq]
end Bodies
end VXA
section VXS
variable {p : Program} {l : Launch} {e : Env} {R : Room} {s : State} {m : MethodId} {args : Array Value} {below : List Frame} {meth : Method} {c : Code} {T : State} {H : Heap} {locs : List Loc} {cells slots : Nat}
noncomputable abbrev vx_CSW (R : Room) (s : State) (args : Array Value) (own : String) (index : Nat) (y : MethodName) (bytes : ByteArray) (maxL : Nat) (ret : Option FieldType) (hh : List (Nat × Nat × Nat × Nat)) (ws : List Cond) (rm : Room) (mc ms n : Nat) : Prop :=
  (rm.cells = mc ∧ rm.slots = ms ∧ rm.frames + 1 ≤ R.frames ∧ 8 + (maxL + 11) + rm.locals ≤ R.locals ∧ (∀ w ∈ ws, ∀ (a' : Array Value) (U : State), s.WarmedH U.vm → w.before a' U = true) ∧ Cond.codeWith y bytes maxL ret hh ∈ ws) ∧
  (Cond.codeWith y bytes maxL ret hh).before args s = true ∧ (Cond.initialized y.cls).before args s = true ∧ (y.cls ≠ "java/lang/invoke/MethodHandle" ∧ y.cls ≠ "java/lang/invoke/VarHandle") ∧
  (∀ sig, parseMethodDescriptor y.desc = some sig → n = sig.parameters.length) ∧ (Cond.methodLink own index y).before args s = true ∧ (Cond.static y).before args s = true
theorem vx_cwSW {own : String} {index maxL mc ms : Nat} {y : MethodName} {bytes : ByteArray} {ret : Option FieldType} {hh : List (Nat × Nat × Nat × Nat)} {Ts ws ws' : List Cond} {rm : Room} (n : Nat) (ht : ∀ w ∈ Ts, w.before args s = true) (hT : GoodIn Ts (va_wsS own index y ws)) (hw : ws = Cond.codeWith y bytes maxL ret hh :: ws') (hrc : rm.cells = mc) (hrs : rm.slots = ms)
    (hd : y.cls ≠ "java/lang/invoke/MethodHandle" ∧ y.cls ≠ "java/lang/invoke/VarHandle" ∧ (parseMethodDescriptor y.desc).map (fun d => d.parameters.length) = some n) (hR : rm.frames + 1 ≤ R.frames ∧ 8 + (maxL + 11) + rm.locals ≤ R.locals) :
    vx_CSW R s args own index y bytes maxL ret hh ws rm mc ms n := by
  have ok : ∀ w ∈ va_wsS own index y ws, w.before args s = true := fun w h => ht w (hT w h).1
  have hG : GoodIn Ts ws := fun w h => hT w (by unfold va_wsS; exact List.mem_append_right _ h)
  have hc : Cond.codeWith y bytes maxL ret hh ∈ ws := by rw [hw]; exact List.mem_cons_self
  refine ⟨⟨hrc, hrs, hR.1, hR.2, pay_in ht hG, hc⟩, ht _ (hG _ hc).1, ok _ (by simp [va_wsS]), ⟨hd.1, hd.2.1⟩, fun sig h => ?_, ok _ (by simp [va_wsS]), ok _ (by simp [va_wsS])⟩
  have h2 := hd.2.2
  rw [h] at h2
  exact (Option.some.inj h2).symm
theorem vx_callSW (X : Stand p l e R s m args below meth c T locs cells slots) (hexec : p.tables.exec = Jvm.exec) {own : String} {index : Nat} {y : MethodName} {bytes : ByteArray} {maxL : Nat} {ret : Option FieldType} {hh : List (Nat × Nat × Nat × Nat)}
    (hown : s.vm.findClass own = some m.cls) (hlink : (Cond.methodLink own index y).before args s = true) (hstat : (Cond.static y).before args s = true) (hinit : (Cond.initialized y.cls).before args s = true)
    (hcode : (Cond.codeWith y bytes maxL ret hh).before args s = true) (hy : y.cls ≠ "java/lang/invoke/MethodHandle" ∧ y.cls ≠ "java/lang/invoke/VarHandle")
    {W9 : Nat} {Pre : Pt → Array Value → Prop} {Post : Pt → Array Value → Option Value → Pt → Prop} (hK : Back l R p e below s args y 3 W9 Pre Post)
    {g : JFrame} (hg : g.method = m) (hsize : g.locals.size = c.maxLocals) {argsL rest : List Value} (hlen : ∀ sig, parseMethodDescriptor y.desc = some sig → argsL.length = sig.parameters.length)
    (hstack : g.stack = argsL.reverse ++ rest) (hW : 2 * g.monitorRoom + (rest.map fun v => v.category).sum ≤ W9) (hdg : decode c.code g.pc = .ok (.invokestatic index, 3))
    (hpre : ∀ vm₁, s.WarmedH vm₁ → Pre ⟨T.setVm vm₁, locs, cells, slots⟩ argsL.toArray) :
    ∃ (v : Option Value) (vm₁ : Vm) (B : Pt), s.WarmedH vm₁ ∧ Stand p l e R s m args below meth c B.U B.locs B.cells B.slots ∧ Post ⟨T.setVm vm₁, locs, cells, slots⟩ argsL.toArray v B ∧
      ∀ target, Steps p.tables e below (B.U.setTop { g with pc := g.pc + 3, stack := v.toList ++ rest }) target → Steps p.tables e below (T.setTop g) target := by
  obtain ⟨mk, methM, cM, hnamed, hmethM, -, -, -, -, -, -, hsigM⟩ := Cond.codeWith_spec hcode
  have hstatic : methM.isStatic = true := Cond.static_spec hnamed hmethM hstat
  obtain ⟨kP, hkP, -⟩ := className_of_methodNamed hnamed
  have hinitP : kP.init = .initialized := Cond.initialized_spec (findClass_of_methodNamed hnamed) hkP hinit
  obtain ⟨vm₁, X₁, hstep₁⟩ := X.invokestatic hexec hown hlink hnamed hmethM hstatic hkP hinitP hy (g := g) hg (argsL := argsL) (rest := rest) (hlen _ hsigM) hstack hdg
  obtain ⟨v, B, X', hpost, hsteps⟩ := hK m meth c ⟨T.setVm vm₁, locs, cells, slots⟩ { g with stack := rest } (.invokestatic index) mk argsL.toArray X₁ hg hsize hdg hW (X₁.named hnamed) (hpre vm₁ X₁.warmed)
  exact ⟨v, vm₁, B, X₁.warmed, X', hpost, fun target h => hstep₁ _ fun acts => by rw [doInvoke_state]; exact hsteps.trans h⟩
theorem vx_runSW {y : MethodName} {bytes cc : ByteArray} {maxL nL mc ms n index : Nat} {ret : Option FieldType} {hh : List (Nat × Nat × Nat × Nat)} {ws : List Cond} {rm : Room} {Pc : Array Value → State → Prop} {Qc : Array Value → State → Outcome → State → Prop} {free : Addr → Prop} {Ts : List Cond} {own : String} {As rest : List Value} {g : JFrame}
    (S : CallFix p m c cc nL s args Ts own) (hM : Met l y ws rm Pc Qc mc ms free) (cw : vx_CSW R s args own index y bytes maxL ret hh ws rm mc ms n) (hp : PreS s H Pc As)
    (hg : g.method = m) (hn : As.length = n) (hsize : g.locals.size = nL) (hstack : g.stack = As.reverse ++ rest) (hW : 2 * g.monitorRoom + (rest.map fun v => v.category).sum ≤ 8) (hdg : decode cc g.pc = .ok (.invokestatic index, 3)) (hf : cells + mc ≤ R.cells ∧ slots + ms ≤ R.slots) :
    va_Run p l e R s m args below meth c H locs cells slots mc ms g rest (Qc As.toArray) (free) := by
  obtain ⟨⟨hrc, hrs, hfr, hlo, hws, hcw⟩, hcode, hini, hy, hlen, hl, hstt⟩ := cw
  have hK : Back l R p e below s args y 3 8 (PreOf R mc ms Pc) (PostOf Qc mc ms free) := va_backW (hh := hh) (bytes := bytes) (maxL := maxL) (ret := ret) hM hp.1 hrc hrs hfr hlo hws hcw (fun a' U hW => word_at hW (Or.inl (by first | rfl | simp [Cond.onTables, Cond.keeps, Cond.steady])) hini)
  obtain ⟨hx, hb, hml, ho, -⟩ := S
  intro T hT X
  obtain ⟨v, vm₁, ⟨U', l2, c2, s2⟩, hW₁, X', ⟨g', mk, t, L, e1, e2, hq, h1, hL, h2, h3⟩, st⟩ := vx_callSW X hx (hh := hh) (bytes := bytes) (maxL := maxL) (ret := ret) ho hl hstt hini hcode hy hK hg (hsize.trans hml.symm) (argsL := As) (rest := rest) (fun sig h => hn.trans (hlen sig h)) hstack hW (by rw [hb]; exact hdg)
    (fun vm₁ hW₁ => ⟨hf.1, hf.2, hp.2 (T.setVm vm₁) hT hW₁⟩)
  dsimp only [Pt.U, Pt.locs, Pt.cells, Pt.slots] at X' e1 e2 h1 h2 h3 st
  subst h1; subst h2; subst h3
  exact ⟨v, (T.setVm vm₁).calling g' mk As.toArray, t, U', L, hT, X', hL, e1, e2, hq, st⟩
/-- a thing of a world lies in the heap -/
theorem vx_lt {D : va_G} {cl : List vw_C} {ws : va_W} {H1 : Heap} (h : va_P D cl ws H1) {k : Nat} {q : Nat × va_E} (hk : ws[k]? = some q) : q.1 < H1.size := (h k q hk).lt
end VXS
section VXH
/-! vx_backW, vx_callVX, vx_callSX, vx_callVW, vx_runVW, vx_runVX, vx_runSX, vx_ofWH follow the same proofs as their sisters above (Free/Laws.lean, Shelf42/LK1.lean); vx_outP calls Shelf42/NT130.lean (outThrough). -/
section
variable {l : Launch} {R : Room} {p : Program} {e : Env} {below : List Frame} {s : State} {sargs : Array Value} {y : MethodName} {len W9 : Nat}
theorem vx_backW {ws : List Cond} {rm : Room} {Pc : Array Value → State → Prop} {Qc : Array Value → State → Outcome → State → Prop} {XC : String → State → State → Prop} {mc ms : Nat} {free : Addr → Prop} {bytes : ByteArray} {maxL : Nat} {ret : Option FieldType} {hh : List (Nat × Nat × Nat × Nat)}
    (hM : vx_Met l y ws rm Pc Qc XC mc ms free) (hblind : FrameBlind Pc) (hrc : rm.cells = mc) (hrs : rm.slots = ms)
    (hframes : rm.frames + 1 ≤ R.frames) (hlocals : W9 + (maxL + 11) + rm.locals ≤ R.locals)
    (hws : ∀ w ∈ ws, ∀ a' U, s.WarmedH U.vm → w.before a' U = true) (hcode : Cond.codeWith y bytes maxL ret hh ∈ ws) (hinit : ∀ a' U, s.WarmedH U.vm → (Cond.initialized y.cls).before a' U = true) :
    vx_Back l R p e below s sargs y len W9 (PreOf R mc ms Pc) (PostOf Qc mc ms free) (vx_Post XC mc ms free) := by
  intro m meth c A g ig mk a X hg hsize hdg hW hn hp
  have h1 : (headSpec ws rm).pre.before a A.U = true := atoms_intro fun w hw => hws w hw _ _ X.warmed
  have h2 : (Cond.codeWith y bytes maxL ret hh).before a A.U = true := hws _ hcode _ _ X.warmed
  have h3 : (Cond.initialized y.cls).before a A.U = true := hinit _ _ X.warmed
  have h4 : A.cells + (headSpec ws rm).room.cells ≤ R.cells := by rw [show (headSpec ws rm).room.cells = mc from hrc]; exact hp.1
  have h5 : A.slots + (headSpec ws rm).room.slots ≤ R.slots := by rw [show (headSpec ws rm).room.slots = ms from hrs]; exact hp.2.1
  have hPc : Pc a (A.U.calling g mk a) := hblind _ _ _ _ hp.2.2
  obtain ⟨U, Ls, c0, s0⟩ := A
  dsimp only [Pt.U, Pt.locs, Pt.cells, Pt.slots] at h1 h2 h3 h4 h5 X hn hPc ⊢
  obtain ⟨m9, methY, cY, hn9, hmY, hcY, -, hlY, -⟩ := Cond.codeWith_spec h2
  cases Option.some.inj (hn9.symm.trans hn)
  obtain ⟨kY, hkY, -⟩ := className_of_methodNamed hn
  have hinitY : kY.init = .initialized := Cond.initialized_spec (findClass_of_methodNamed hn) hkY h3
  have h : At U g.method c below := by rw [hg]; exact X.here
  have hlocals9 : W9 + (maxL + 11) + (headSpec ws rm).room.locals ≤ R.locals := hlocals
  have happ : (headSpec ws rm).appliesLoose y e.platform (U.calling g mk a) = true :=
    Spec.appliesLoose_calling (g := g) h hdg hn hkY hinitY
      (X.room_calling (g := g) (R' := (headSpec ws rm).room) hsize hmY hcY hframes (by rw [hlY]; omega) h4 h5) h1
  obtain ⟨mid, hmid⟩ := h.above
  have hfr : (U.setTop g).frames = (.java g :: mid) ++ below := by rw [State.frames_setTop' g h.top, hmid]; rfl
  obtain ⟨o, s₂, hsteps, -, hend, hq⟩ := Steps.callFree hM p X.admits X.cas X.clock (acts := []) hfr happ hPc trivial
  have hq' : vx_Q Qc XC mc ms free a (U.calling g mk a) o s₂ := hq
  rw [State.frames_setTop' g h.top] at hend
  obtain ⟨g₀, hg0⟩ := Option.isSome_iff_exists.mp h.top
  obtain ⟨r, hr⟩ := State.topJava?_eq_some.mp hg0
  have hr' : (({ U with heap := s₂.heap, slotsUsed := s₂.slotsUsed } : State).setVm s₂.vm).frames = .java g₀ :: r := hr
  rcases hq' with ⟨hqc, L, hfe, hL⟩ | ⟨q, rfl, E, ce, L, hx, hce, hcv, hcl, hW₂, hsm, hL⟩
  · obtain ⟨⟨v, rfl⟩, hW₂, e2, q2, q3, q4, q5, q6⟩ := id hfe
    have e3 : s₂ = ({ (U.calling g mk a).setFrames s₂.frames with heap := s₂.heap, slotsUsed := s₂.slotsUsed } : State).setVm s₂.vm := by
      have : s₂ = ({ s₂ with vm := (U.calling g mk a).vm } : State).setVm s₂.vm := rfl
      rw [e2] at this
      exact this
    obtain ⟨c₂, i₂, len₂, hc₂, hd₂, hf₂⟩ := hend
    have hW' : U.WarmedH s₂.vm := hW₂
    have hcc : c₂ = c := by
      have h1 : s₂.code? g.method = U.code? g.method := by
        rw [State.code?_eq, State.code?_eq, hW'.alike.method?]
      exact Option.some.inj (hc₂.symm.trans (h1.trans h.code))
    subst hcc
    have hlen : len₂ = len := by rw [hdg] at hd₂; cases hd₂; rfl
    subst hlen
    have hs₂ : s₂ = (({ U with heap := s₂.heap, slotsUsed := s₂.slotsUsed } : State).setVm s₂.vm).setTop { g with pc := g.pc + len₂, stack := v.toList ++ g.stack } := by
      refine e3.trans ?_
      rw [hf₂, State.calling_eq h.top, State.setFrames_setFrames, State.setTop_of_frames _ hr', hr]
      rfl
    have hsame : U.sameButNew ({ U with heap := s₂.heap, slotsUsed := s₂.slotsUsed } : State) L mc ms := by
      refine ⟨?_, q2, q3, q4, q5, q6⟩
      obtain ⟨t, ht, -⟩ := State.frames_cons hr
      show ({ U with heap := s₂.heap, slotsUsed := s₂.slotsUsed } : State) = { U.setFrames U.frames with heap := s₂.heap, slotsUsed := s₂.slotsUsed }
      rw [State.setFrames_self ht]
    subst hg
    refine Or.inl ⟨v, ⟨(({ U with heap := s₂.heap, slotsUsed := s₂.slotsUsed } : State).setVm s₂.vm), Ls ++ L, c0 + mc, s0 + ms⟩,
      ⟨X.admits, X.cas, X.clock, X.frames, X.room, X.hears, X.method, X.code, (X.here.setHeapUsed s₂.heap s₂.slotsUsed).setVm hW'.alike, X.tail, State.WarmedH.trans X.warmed hW', X.limits, X.bytes, X.same.trans (hsame.setVm s.vm)⟩,
      ⟨g, mk, s₂, L, rfl, rfl, hqc, rfl, hL, rfl, rfl⟩, ?_⟩
    show Steps p.tables e below _ ((({ U with heap := s₂.heap, slotsUsed := s₂.slotsUsed } : State).setVm s₂.vm).setTop { g with pc := g.pc + len₂, stack := v.toList ++ g.stack })
    rw [← hs₂]
    exact hsteps
  · obtain ⟨e2, q2, q3, q4, q5, q6⟩ := id hsm
    have e3 : s₂ = ({ (U.calling g mk a).setFrames s₂.frames with heap := s₂.heap, slotsUsed := s₂.slotsUsed } : State).setVm s₂.vm := by
      have : s₂ = ({ s₂ with vm := (U.calling g mk a).vm } : State).setVm s₂.vm := rfl
      rw [e2] at this
      exact this
    have hf₂ : s₂.frames = .throwing q :: .java g :: U.frames.tail := hend
    have hW' : U.WarmedH s₂.vm := hW₂
    have hs₂ : s₂ = ((({ U with heap := s₂.heap, slotsUsed := s₂.slotsUsed } : State).setVm s₂.vm).setTop g).pushFrame (.throwing q) := by
      refine e3.trans ?_
      rw [hf₂, State.calling_eq h.top, State.setFrames_setFrames, State.pushFrame, State.frames_setTop _ hr', State.setTop_of_frames _ hr', State.setFrames_setFrames, hr]
      rfl
    have hsame : U.sameButNew ({ U with heap := s₂.heap, slotsUsed := s₂.slotsUsed } : State) L mc ms := by
      refine ⟨?_, q2, q3, q4, q5, q6⟩
      obtain ⟨t, ht, -⟩ := State.frames_cons hr
      show ({ U with heap := s₂.heap, slotsUsed := s₂.slotsUsed } : State) = { U.setFrames U.frames with heap := s₂.heap, slotsUsed := s₂.slotsUsed }
      rw [State.setFrames_self ht]
    subst hg
    refine Or.inr ⟨q, ⟨(({ U with heap := s₂.heap, slotsUsed := s₂.slotsUsed } : State).setVm s₂.vm), Ls ++ L, c0 + mc, s0 + ms⟩,
      ⟨X.admits, X.cas, X.clock, X.frames, X.room, X.hears, X.method, X.code, (X.here.setHeapUsed s₂.heap s₂.slotsUsed).setVm hW'.alike, X.tail, State.WarmedH.trans X.warmed hW', X.limits, X.bytes, X.same.trans (hsame.setVm s.vm)⟩,
      ⟨g, mk, s₂, L, E, ce, rfl, rfl, hx, hce, hcv, hcl, rfl, hL, rfl, rfl⟩, ?_⟩
    show Steps p.tables e below _ (((({ U with heap := s₂.heap, slotsUsed := s₂.slotsUsed } : State).setVm s₂.vm).setTop g).pushFrame (.throwing q))
    rw [← hs₂]
    exact hsteps
end
variable {p : Program} {l : Launch} {e : Env} {R : Room} {s : State} {m : MethodId} {args : Array Value} {below : List Frame} {meth : Method} {c : Code} {T : State} {H : Heap} {locs : List Loc} {cells slots : Nat}
theorem vx_callVX (X : Stand p l e R s m args below meth c T locs cells slots) (hexec : p.tables.exec = Jvm.exec) {own C : String} {index : Nat} {y : MethodName} {bytes : ByteArray} {maxL : Nat} {ret : Option FieldType} {hh : List (Nat × Nat × Nat × Nat)}
    (hown : s.vm.findClass own = some m.cls) (hlink : (Cond.methodLink own index y).before args s = true) (hinst : (Cond.instanceMethod y).before args s = true) (hsel : (Cond.selects C y y).before args s = true)
    (hcode : (Cond.codeWith y bytes maxL ret hh).before args s = true) (hy : y.cls ≠ "java/lang/invoke/MethodHandle" ∧ y.cls ≠ "java/lang/invoke/VarHandle")
    {W9 : Nat} {Pre : Pt → Array Value → Prop} {Post : Pt → Array Value → Option Value → Pt → Prop} {PostX : Pt → Array Value → Addr → Pt → Prop} (hK : vx_Back l R p e below s args y 3 W9 Pre Post PostX)
    {b : Addr} {cellB : Cell} (hcell : T.heap[b]? = some cellB) (hobj : cellB.vm.isStatics = false) (hcls : s.vm.findClass C = some cellB.cls)
    {g : JFrame} (hg : g.method = m) (hsize : g.locals.size = c.maxLocals) {argsL rest : List Value} (hlen : ∀ sig, parseMethodDescriptor y.desc = some sig → argsL.length = sig.parameters.length)
    (hstack : g.stack = argsL.reverse ++ .ref b :: rest) (hW : 2 * g.monitorRoom + (rest.map fun v => v.category).sum ≤ W9) (hdg : decode c.code g.pc = .ok (.invokevirtual index, 3))
    (hpre : ∀ vm₁, s.WarmedH vm₁ → Pre ⟨T.setVm vm₁, locs, cells, slots⟩ (Value.ref b :: argsL).toArray) :
    (∃ (v : Option Value) (vm₁ : Vm) (B : Pt), s.WarmedH vm₁ ∧ Stand p l e R s m args below meth c B.U B.locs B.cells B.slots ∧ Post ⟨T.setVm vm₁, locs, cells, slots⟩ (Value.ref b :: argsL).toArray v B ∧
      ∀ target, Steps p.tables e below (B.U.setTop { g with pc := g.pc + 3, stack := v.toList ++ rest }) target → Steps p.tables e below (T.setTop g) target) ∨
    (∃ (q : Addr) (vm₁ : Vm) (B : Pt), s.WarmedH vm₁ ∧ Stand p l e R s m args below meth c B.U B.locs B.cells B.slots ∧ PostX ⟨T.setVm vm₁, locs, cells, slots⟩ (Value.ref b :: argsL).toArray q B ∧
      Steps p.tables e below (T.setTop g) ((B.U.setTop { g with stack := rest }).pushFrame (.throwing q))) := by
  obtain ⟨mk, methM, hnamed, hmethM, hstM, habM⟩ := Cond.instanceMethod_spec hinst
  obtain ⟨m8, methM', cM, hn8, hmethM', -, -, -, -, -, -, hsigM⟩ := Cond.codeWith_spec hcode
  cases Option.some.inj (hn8.symm.trans hnamed)
  cases hmethM.symm.trans hmethM'
  obtain ⟨c2, r2, m2, q1, q2, q3, q4, kP, hkP, hkPi⟩ := Cond.selects_spec hsel
  cases hcls.symm.trans q1
  cases (State.methodFound?_of_named hnamed hy).symm.trans q2
  cases hnamed.symm.trans q3
  have hselP : selectMethod e.platform s.vm cellB.cls mk = .method mk := by rw [Launch.admits_selectMethod X.admits]; exact q4
  obtain ⟨vm₁, X₁, hstep₁⟩ := X.invokevirtual hexec hown hlink hnamed hmethM hstM hkP hkPi hy (a := b) (cell := cellB) hcell
    (fun z h => by rw [h] at hobj; cases hobj) hselP hmethM habM hkP hkPi (g := g) hg (argsL := argsL) (rest := rest) (hlen _ hsigM) hstack hdg
  rcases hK m meth c ⟨T.setVm vm₁, locs, cells, slots⟩ { g with stack := rest } (.invokevirtual index) mk (Value.ref b :: argsL).toArray X₁ hg hsize hdg hW (X₁.named hnamed) (hpre vm₁ X₁.warmed) with ⟨v, B, X', hpost, hsteps⟩ | ⟨q, B, X', hpost, hsteps⟩
  · exact Or.inl ⟨v, vm₁, B, X₁.warmed, X', hpost, fun target h => hstep₁ _ fun acts => by rw [doInvoke_state]; exact hsteps.trans h⟩
  · exact Or.inr ⟨q, vm₁, B, X₁.warmed, X', hpost, hstep₁ _ fun acts => by rw [doInvoke_state]; exact hsteps⟩
theorem vx_callSX (X : Stand p l e R s m args below meth c T locs cells slots) (hexec : p.tables.exec = Jvm.exec) {own : String} {index : Nat} {y : MethodName} {bytes : ByteArray} {maxL : Nat} {ret : Option FieldType} {hh : List (Nat × Nat × Nat × Nat)}
    (hown : s.vm.findClass own = some m.cls) (hlink : (Cond.methodLink own index y).before args s = true) (hstat : (Cond.static y).before args s = true) (hinit : (Cond.initialized y.cls).before args s = true)
    (hcode : (Cond.codeWith y bytes maxL ret hh).before args s = true) (hy : y.cls ≠ "java/lang/invoke/MethodHandle" ∧ y.cls ≠ "java/lang/invoke/VarHandle")
    {W9 : Nat} {Pre : Pt → Array Value → Prop} {Post : Pt → Array Value → Option Value → Pt → Prop} {PostX : Pt → Array Value → Addr → Pt → Prop} (hK : vx_Back l R p e below s args y 3 W9 Pre Post PostX)
    {g : JFrame} (hg : g.method = m) (hsize : g.locals.size = c.maxLocals) {argsL rest : List Value} (hlen : ∀ sig, parseMethodDescriptor y.desc = some sig → argsL.length = sig.parameters.length)
    (hstack : g.stack = argsL.reverse ++ rest) (hW : 2 * g.monitorRoom + (rest.map fun v => v.category).sum ≤ W9) (hdg : decode c.code g.pc = .ok (.invokestatic index, 3))
    (hpre : ∀ vm₁, s.WarmedH vm₁ → Pre ⟨T.setVm vm₁, locs, cells, slots⟩ argsL.toArray) :
    (∃ (v : Option Value) (vm₁ : Vm) (B : Pt), s.WarmedH vm₁ ∧ Stand p l e R s m args below meth c B.U B.locs B.cells B.slots ∧ Post ⟨T.setVm vm₁, locs, cells, slots⟩ argsL.toArray v B ∧
      ∀ target, Steps p.tables e below (B.U.setTop { g with pc := g.pc + 3, stack := v.toList ++ rest }) target → Steps p.tables e below (T.setTop g) target) ∨
    (∃ (q : Addr) (vm₁ : Vm) (B : Pt), s.WarmedH vm₁ ∧ Stand p l e R s m args below meth c B.U B.locs B.cells B.slots ∧ PostX ⟨T.setVm vm₁, locs, cells, slots⟩ argsL.toArray q B ∧
      Steps p.tables e below (T.setTop g) ((B.U.setTop { g with stack := rest }).pushFrame (.throwing q))) := by
  obtain ⟨mk, methM, cM, hnamed, hmethM, -, -, -, -, -, -, hsigM⟩ := Cond.codeWith_spec hcode
  have hstatic : methM.isStatic = true := Cond.static_spec hnamed hmethM hstat
  obtain ⟨kP, hkP, -⟩ := className_of_methodNamed hnamed
  have hinitP : kP.init = .initialized := Cond.initialized_spec (findClass_of_methodNamed hnamed) hkP hinit
  obtain ⟨vm₁, X₁, hstep₁⟩ := X.invokestatic hexec hown hlink hnamed hmethM hstatic hkP hinitP hy (g := g) hg (argsL := argsL) (rest := rest) (hlen _ hsigM) hstack hdg
  rcases hK m meth c ⟨T.setVm vm₁, locs, cells, slots⟩ { g with stack := rest } (.invokestatic index) mk argsL.toArray X₁ hg hsize hdg hW (X₁.named hnamed) (hpre vm₁ X₁.warmed) with ⟨v, B, X', hpost, hsteps⟩ | ⟨q, B, X', hpost, hsteps⟩
  · exact Or.inl ⟨v, vm₁, B, X₁.warmed, X', hpost, fun target h => hstep₁ _ fun acts => by rw [doInvoke_state]; exact hsteps.trans h⟩
  · exact Or.inr ⟨q, vm₁, B, X₁.warmed, X', hpost, hstep₁ _ fun acts => by rw [doInvoke_state]; exact hsteps⟩
theorem vx_callVW (X : Stand p l e R s m args below meth c T locs cells slots) (hexec : p.tables.exec = Jvm.exec) {own C : String} {index : Nat} {y : MethodName} {bytes : ByteArray} {maxL : Nat} {ret : Option FieldType} {hh : List (Nat × Nat × Nat × Nat)}
    (hown : s.vm.findClass own = some m.cls) (hlink : (Cond.methodLink own index y).before args s = true) (hinst : (Cond.instanceMethod y).before args s = true) (hsel : (Cond.selects C y y).before args s = true)
    (hcode : (Cond.codeWith y bytes maxL ret hh).before args s = true) (hy : y.cls ≠ "java/lang/invoke/MethodHandle" ∧ y.cls ≠ "java/lang/invoke/VarHandle")
    {W9 : Nat} {Pre : Pt → Array Value → Prop} {Post : Pt → Array Value → Option Value → Pt → Prop} (hK : Back l R p e below s args y 3 W9 Pre Post)
    {b : Addr} {cellB : Cell} (hcell : T.heap[b]? = some cellB) (hobj : cellB.vm.isStatics = false) (hcls : s.vm.findClass C = some cellB.cls)
    {g : JFrame} (hg : g.method = m) (hsize : g.locals.size = c.maxLocals) {argsL rest : List Value} (hlen : ∀ sig, parseMethodDescriptor y.desc = some sig → argsL.length = sig.parameters.length)
    (hstack : g.stack = argsL.reverse ++ .ref b :: rest) (hW : 2 * g.monitorRoom + (rest.map fun v => v.category).sum ≤ W9) (hdg : decode c.code g.pc = .ok (.invokevirtual index, 3))
    (hpre : ∀ vm₁, s.WarmedH vm₁ → Pre ⟨T.setVm vm₁, locs, cells, slots⟩ (Value.ref b :: argsL).toArray) :
    ∃ (v : Option Value) (vm₁ : Vm) (B : Pt), s.WarmedH vm₁ ∧ Stand p l e R s m args below meth c B.U B.locs B.cells B.slots ∧ Post ⟨T.setVm vm₁, locs, cells, slots⟩ (Value.ref b :: argsL).toArray v B ∧
      ∀ target, Steps p.tables e below (B.U.setTop { g with pc := g.pc + 3, stack := v.toList ++ rest }) target → Steps p.tables e below (T.setTop g) target := by
  obtain ⟨mk, methM, hnamed, hmethM, hstM, habM⟩ := Cond.instanceMethod_spec hinst
  obtain ⟨m8, methM', cM, hn8, hmethM', -, -, -, -, -, -, hsigM⟩ := Cond.codeWith_spec hcode
  cases Option.some.inj (hn8.symm.trans hnamed)
  cases hmethM.symm.trans hmethM'
  obtain ⟨c2, r2, m2, q1, q2, q3, q4, kP, hkP, hkPi⟩ := Cond.selects_spec hsel
  cases hcls.symm.trans q1
  cases (State.methodFound?_of_named hnamed hy).symm.trans q2
  cases hnamed.symm.trans q3
  have hselP : selectMethod e.platform s.vm cellB.cls mk = .method mk := by rw [Launch.admits_selectMethod X.admits]; exact q4
  obtain ⟨vm₁, X₁, hstep₁⟩ := X.invokevirtual hexec hown hlink hnamed hmethM hstM hkP hkPi hy (a := b) (cell := cellB) hcell
    (fun z h => by rw [h] at hobj; cases hobj) hselP hmethM habM hkP hkPi (g := g) hg (argsL := argsL) (rest := rest) (hlen _ hsigM) hstack hdg
  obtain ⟨v, B, X', hpost, hsteps⟩ := hK m meth c ⟨T.setVm vm₁, locs, cells, slots⟩ { g with stack := rest } (.invokevirtual index) mk (Value.ref b :: argsL).toArray X₁ hg hsize hdg hW (X₁.named hnamed) (hpre vm₁ X₁.warmed)
  exact ⟨v, vm₁, B, X₁.warmed, X', hpost, fun target h => hstep₁ _ fun acts => by rw [doInvoke_state]; exact hsteps.trans h⟩
noncomputable abbrev vx_CVW (R : Room) (s : State) (args : Array Value) (own C : String) (index : Nat) (y : MethodName) (bytes : ByteArray) (maxL : Nat) (ret : Option FieldType) (hh : List (Nat × Nat × Nat × Nat)) (ws : List Cond) (rm : Room) (mc ms n : Nat) : Prop :=
  (rm.cells = mc ∧ rm.slots = ms ∧ rm.frames + 1 ≤ R.frames ∧ 8 + (maxL + 11) + rm.locals ≤ R.locals ∧ (∀ w ∈ ws, ∀ (a' : Array Value) (U : State), s.WarmedH U.vm → w.before a' U = true) ∧ Cond.codeWith y bytes maxL ret hh ∈ ws) ∧
  (Cond.codeWith y bytes maxL ret hh).before args s = true ∧ (Cond.initialized y.cls).before args s = true ∧ (y.cls ≠ "java/lang/invoke/MethodHandle" ∧ y.cls ≠ "java/lang/invoke/VarHandle") ∧
  (∀ sig, parseMethodDescriptor y.desc = some sig → n = sig.parameters.length) ∧ (Cond.methodLink own index y).before args s = true ∧ (Cond.instanceMethod y).before args s = true ∧ (Cond.selects C y y).before args s = true
theorem vx_cwVW {own C : String} {index maxL mc ms : Nat} {y : MethodName} {bytes : ByteArray} {ret : Option FieldType} {hh : List (Nat × Nat × Nat × Nat)} {Ts ws ws' : List Cond} {rm : Room} (n : Nat) (ht : ∀ w ∈ Ts, w.before args s = true) (hT : GoodIn Ts (wsV own index C y ws)) (hw : ws = Cond.codeWith y bytes maxL ret hh :: ws') (hrc : rm.cells = mc) (hrs : rm.slots = ms)
    (hd : y.cls = C ∧ y.cls ≠ "java/lang/invoke/MethodHandle" ∧ y.cls ≠ "java/lang/invoke/VarHandle" ∧ (parseMethodDescriptor y.desc).map (fun d => d.parameters.length) = some n) (hR : rm.frames + 1 ≤ R.frames ∧ 8 + (maxL + 11) + rm.locals ≤ R.locals) :
    vx_CVW R s args own C index y bytes maxL ret hh ws rm mc ms n := by
  obtain ⟨hC, hd⟩ := hd
  subst hC
  have ok : ∀ w ∈ wsV own index y.cls y ws, w.before args s = true := fun w h => ht w (hT w h).1
  have hG : GoodIn Ts ws := fun w h => hT w (by unfold wsV; exact List.mem_append_right _ h)
  have hc : Cond.codeWith y bytes maxL ret hh ∈ ws := by rw [hw]; exact List.mem_cons_self
  refine ⟨⟨hrc, hrs, hR.1, hR.2, pay_in ht hG, hc⟩, ht _ (hG _ hc).1, ok _ (by simp [wsV]), ⟨hd.1, hd.2.1⟩, fun sig h => ?_, ok _ (by simp [wsV]), ok _ (by simp [wsV]), ok _ (by simp [wsV])⟩
  have h2 := hd.2.2
  rw [h] at h2
  exact (Option.some.inj h2).symm
theorem vx_runVW {y : MethodName} {bytes cc : ByteArray} {maxL nL mc ms n index : Nat} {ret : Option FieldType} {hh : List (Nat × Nat × Nat × Nat)} {ws : List Cond} {rm : Room} {Pc : Array Value → State → Prop} {Qc : Array Value → State → Outcome → State → Prop} {free : Addr → Prop} {Ts : List Cond} {own C : String} {b : Addr} {As rest : List Value} {g : JFrame}
    (S : CallFix p m c cc nL s args Ts own) (hM : Met l y ws rm Pc Qc mc ms free) (cw : vx_CVW R s args own C index y bytes maxL ret hh ws rm mc ms n) (hp : PreV s H C b Pc As)
    (hg : g.method = m) (hn : As.length = n) (hsize : g.locals.size = nL) (hstack : g.stack = As.reverse ++ .ref b :: rest) (hW : 2 * g.monitorRoom + (rest.map fun v => v.category).sum ≤ 8) (hdg : decode cc g.pc = .ok (.invokevirtual index, 3)) (hf : cells + mc ≤ R.cells ∧ slots + ms ≤ R.slots) :
    va_Run p l e R s m args below meth c H locs cells slots mc ms g rest (Qc (Value.ref b :: As).toArray) free := by
  obtain ⟨⟨hrc, hrs, hfr, hlo, hws, hcw⟩, hcode, hini, hy, hlen, hl, hin, hse⟩ := cw
  have hK : Back l R p e below s args y 3 8 (PreOf R mc ms Pc) (PostOf Qc mc ms free) := va_backW (hh := hh) (bytes := bytes) (maxL := maxL) (ret := ret) hM hp.1 hrc hrs hfr hlo hws hcw (fun a' U hW => word_at hW (Or.inl (by first | rfl | simp [Cond.onTables, Cond.keeps, Cond.steady])) hini)
  obtain ⟨hx, hb, hml, ho, -⟩ := S
  obtain ⟨-, ⟨cellB, hcB, hoB, hclB⟩, hPc⟩ := hp
  intro T hT X
  obtain ⟨v, vm₁, ⟨U', l2, c2, s2⟩, hW₁, X', ⟨g', mk, t, L, e1, e2, hq, h1, hL, h2, h3⟩, st⟩ := vx_callVW X hx (C := C) (hh := hh) (bytes := bytes) (maxL := maxL) (ret := ret) ho hl hin hse hcode hy hK (by rw [hT]; exact hcB) hoB hclB hg (hsize.trans hml.symm) (argsL := As) (rest := rest) (fun sig h => hn.trans (hlen sig h)) hstack hW (by rw [hb]; exact hdg)
    (fun vm₁ hW₁ => ⟨hf.1, hf.2, hPc (T.setVm vm₁) hT hW₁⟩)
  dsimp only [Pt.U, Pt.locs, Pt.cells, Pt.slots] at X' e1 e2 h1 h2 h3 st
  subst h1; subst h2; subst h3
  exact ⟨v, (T.setVm vm₁).calling g' mk (Value.ref b :: As).toArray, t, U', L, hT, X', hL, e1, e2, hq, st⟩
section
variable {y : MethodName} {bytes cc : ByteArray} {maxL nL mc ms n index : Nat} {ret : Option FieldType} {ws : List Cond} {rm : Room} {Pc : Array Value → State → Prop} {Qc : Array Value → State → Outcome → State → Prop} {XC : String → State → State → Prop} {free : Addr → Prop} {Ts : List Cond} {own C : String} {b : Addr} {As rest : List Value} {g : JFrame}
theorem vx_runVX {hh : List (Nat × Nat × Nat × Nat)} (S : CallFix p m c cc nL s args Ts own) (hM : vx_Met l y ws rm Pc Qc XC mc ms free) (cw : vx_CVW R s args own C index y bytes maxL ret hh ws rm mc ms n) (hp : PreV s H C b Pc As)
    (hg : g.method = m) (hn : As.length = n) (hsize : g.locals.size = nL) (hstack : g.stack = As.reverse ++ .ref b :: rest) (hW : 2 * g.monitorRoom + (rest.map fun v => v.category).sum ≤ 8) (hdg : decode cc g.pc = .ok (.invokevirtual index, 3)) (hf : cells + mc ≤ R.cells ∧ slots + ms ≤ R.slots) :
    vx_Run p l e R s m args below meth c H locs cells slots mc ms g rest (Qc (Value.ref b :: As).toArray) XC free := by
  obtain ⟨⟨hrc, hrs, hfr, hlo, hws, hcw⟩, hcode, hini, hy, hlen, hl, hin, hse⟩ := cw
  have hK : vx_Back l R p e below s args y 3 8 (PreOf R mc ms Pc) (PostOf Qc mc ms free) (vx_Post XC mc ms free) := vx_backW (hh := hh) (bytes := bytes) (maxL := maxL) (ret := ret) hM hp.1 hrc hrs hfr hlo hws hcw (fun a' U hW => word_at hW (Or.inl (by first | rfl | simp [Cond.onTables, Cond.keeps, Cond.steady])) hini)
  obtain ⟨hx, hb, hml, ho, -⟩ := S
  obtain ⟨-, ⟨cellB, hcB, hoB, hclB⟩, hPc⟩ := hp
  intro T hT X
  rcases vx_callVX X hx (C := C) (hh := hh) (bytes := bytes) (maxL := maxL) (ret := ret) ho hl hin hse hcode hy hK (by rw [hT]; exact hcB) hoB hclB hg (hsize.trans hml.symm) (argsL := As) (rest := rest) (fun sig h => hn.trans (hlen sig h)) hstack hW (by rw [hb]; exact hdg)
    (fun vm₁ hW₁ => ⟨hf.1, hf.2, hPc (T.setVm vm₁) hT hW₁⟩) with ⟨v, vm₁, ⟨U', l2, c2, s2⟩, hW₁, X', ⟨g', mk, t, L, e1, e2, hq, h1, hL, h2, h3⟩, st⟩ | ⟨q, vm₁, ⟨U', l2, c2, s2⟩, hW₁, X', ⟨g', mk, t, L, E, ce, e1, e2, hq, hce, hcv, hcl, h1, hL, h2, h3⟩, st⟩
  · dsimp only [Pt.U, Pt.locs, Pt.cells, Pt.slots] at X' e1 e2 h1 h2 h3 st
    subst h1; subst h2; subst h3
    exact Or.inl ⟨v, (T.setVm vm₁).calling g' mk (Value.ref b :: As).toArray, t, U', L, hT, X', hL, e1, e2, hq, st⟩
  · dsimp only [Pt.U, Pt.locs, Pt.cells, Pt.slots] at X' e1 e2 h1 h2 h3 st hcl
    subst h1; subst h2; subst h3
    exact Or.inr ⟨q, (T.setVm vm₁).calling g' mk (Value.ref b :: As).toArray, t, U', L, E, ce, hT, X', hL, e1, e2, hq, hce, hcv, vx_cls hW₁ hcl, st⟩
theorem vx_runSX {hh : List (Nat × Nat × Nat × Nat)} (S : CallFix p m c cc nL s args Ts own) (hM : vx_Met l y ws rm Pc Qc XC mc ms free) (cw : vx_CSW R s args own index y bytes maxL ret hh ws rm mc ms n) (hp : PreS s H Pc As)
    (hg : g.method = m) (hn : As.length = n) (hsize : g.locals.size = nL) (hstack : g.stack = As.reverse ++ rest) (hW : 2 * g.monitorRoom + (rest.map fun v => v.category).sum ≤ 8) (hdg : decode cc g.pc = .ok (.invokestatic index, 3)) (hf : cells + mc ≤ R.cells ∧ slots + ms ≤ R.slots) :
    vx_Run p l e R s m args below meth c H locs cells slots mc ms g rest (Qc As.toArray) XC free := by
  obtain ⟨⟨hrc, hrs, hfr, hlo, hws, hcw⟩, hcode, hini, hy, hlen, hl, hstt⟩ := cw
  have hK : vx_Back l R p e below s args y 3 8 (PreOf R mc ms Pc) (PostOf Qc mc ms free) (vx_Post XC mc ms free) := vx_backW (hh := hh) (bytes := bytes) (maxL := maxL) (ret := ret) hM hp.1 hrc hrs hfr hlo hws hcw (fun a' U hW => word_at hW (Or.inl (by first | rfl | simp [Cond.onTables, Cond.keeps, Cond.steady])) hini)
  obtain ⟨hx, hb, hml, ho, -⟩ := S
  intro T hT X
  rcases vx_callSX X hx (hh := hh) (bytes := bytes) (maxL := maxL) (ret := ret) ho hl hstt hini hcode hy hK hg (hsize.trans hml.symm) (argsL := As) (rest := rest) (fun sig h => hn.trans (hlen sig h)) hstack hW (by rw [hb]; exact hdg)
    (fun vm₁ hW₁ => ⟨hf.1, hf.2, hp.2 (T.setVm vm₁) hT hW₁⟩) with ⟨v, vm₁, ⟨U', l2, c2, s2⟩, hW₁, X', ⟨g', mk, t, L, e1, e2, hq, h1, hL, h2, h3⟩, st⟩ | ⟨q, vm₁, ⟨U', l2, c2, s2⟩, hW₁, X', ⟨g', mk, t, L, E, ce, e1, e2, hq, hce, hcv, hcl, h1, hL, h2, h3⟩, st⟩
  · dsimp only [Pt.U, Pt.locs, Pt.cells, Pt.slots] at X' e1 e2 h1 h2 h3 st
    subst h1; subst h2; subst h3
    exact Or.inl ⟨v, (T.setVm vm₁).calling g' mk As.toArray, t, U', L, hT, X', hL, e1, e2, hq, st⟩
  · dsimp only [Pt.U, Pt.locs, Pt.cells, Pt.slots] at X' e1 e2 h1 h2 h3 st hcl
    subst h1; subst h2; subst h3
    exact Or.inr ⟨q, (T.setVm vm₁).calling g' mk As.toArray, t, U', L, E, ce, hT, X', hL, e1, e2, hq, hce, hcv, vx_cls hW₁ hcl, st⟩
end
end VXH
theorem vx_ofWH {l : Launch} {y : MethodName} {ws ws' : List Cond} {rm : Room} {Pc : Array Value → State → Prop} {Qc : Array Value → State → Outcome → State → Prop} {XC : String → State → State → Prop} {mc ms : Nat} {free : Addr → Prop} {cc : ByteArray} {maxL : Nat} {ret : Option FieldType} {hh : List (Nat × Nat × Nat × Nat)}
    (hy : plainName y.cls = true) (hw : ws = Cond.codeWith y cc maxL ret hh :: ws')
    (body : ∀ p e s m args below meth c s₁, BodyLoose p l y (headSpec ws rm) cc maxL ret e s m args below meth c s₁ → c.maxLocals = maxL → Pc args s →
      W p l e (headSpec ws rm).room s m args below meth c s.heap [] 0 0 (vx_MQ below Qc XC args s mc ms free) (entryFrame m args maxL)) : vx_Met l y ws rm Pc Qc XC mc ms free := by
  refine MetFree.of_bodyS (code := cc) (maxLocals := maxL) (ret := ret) hy ?_ ?_
  · intro args s m h hn
    obtain ⟨m9, meth, c, hn9, h1, h2, h3, h4, -, h5, h6, -⟩ := Cond.codeWith_spec (atoms_spec (ws := ws) h _ (by rw [hw]; exact List.mem_cons_self))
    cases hn.symm.trans hn9
    exact ⟨meth, c, h1, h2, h3, h4, h5, h6⟩
  · intro p e s m args below meth c s₁ B hml hP _
    have hh0 : s₁.heap = s.heap := by rw [B.state]; rfl
    obtain ⟨t, a1, o, b1, b2, b3⟩ := body p e s m args below meth c s₁ B hml hP s₁ hh0 (Stand.of_body B)
    exact ⟨t, o, a1, b1, b2, b3⟩
end
section
noncomputable def wsX11_signs_r1 : List Cond := [Cond.classLink RX11 144 "java/lang/IllegalArgumentException", Cond.initialized "java/lang/IllegalArgumentException", Cond.fieldLink RX11 22 "MoveTexts" "rules" "LMoveTexts$Rules;", Cond.fieldLink RX11 68 "MoveTexts" "board" "LMoveTexts$Board;", Cond.fieldLink RX11 16 "MoveTexts" "out" "LMoveTexts$Row;", Cond.fieldLink RX11 36 "MoveTexts" "signWriter" "LMoveTexts$SignWriter;", Cond.methodLink RX11 140 yX7_isLegal, Cond.instanceMethod yX7_isLegal, Cond.selects RX7 yX7_isLegal yX7_isLegal, Cond.initialized RX7, Cond.code yX7_isLegal cX7_isLegal 6 (some .boolean), Cond.methodLink RX7 44 yX0_reaches, Cond.instanceMethod yX0_reaches, Cond.selects RX0 yX0_reaches yX0_reaches, Cond.initialized RX0, Cond.code yX0_reaches cX0_reaches 4 (some .boolean), Cond.fieldLink RX0 9 "MoveTexts$Board" "men" "[I", Cond.fieldLink RX0 22 "MoveTexts$Board" "side" "I", Cond.methodLink RX0 54 yX0_kindAt, Cond.instanceMethod yX0_kindAt, Cond.selects RX0 yX0_kindAt yX0_kindAt, Cond.code yX0_kindAt cX0_kindAt 2 (some .int), Cond.methodLink RX0 58 yX0_pawnReaches, Cond.instanceMethod yX0_pawnReaches]
noncomputable def wsX11_signs_r2 : List Cond := [Cond.selects RX0 yX0_pawnReaches yX0_pawnReaches, Cond.code yX0_pawnReaches cX0_pawnReaches 4 (some .boolean), Cond.fieldLink RX0 28 "MoveTexts$Board" "passed" "I", Cond.methodLink RX0 50 yX0_attacks, Cond.instanceMethod yX0_attacks, Cond.selects RX0 yX0_attacks yX0_attacks, Cond.code yX0_attacks cX0_attacks 13 (some .boolean), Cond.methodLink RX0 61 yX0_castles, Cond.instanceMethod yX0_castles, Cond.selects RX0 yX0_castles yX0_castles, Cond.code yX0_castles cX0_castles 3 (some .boolean), Cond.methodLink RX0 64 yX0_castlingIsOpen, Cond.instanceMethod yX0_castlingIsOpen, Cond.selects RX0 yX0_castlingIsOpen yX0_castlingIsOpen, Cond.code yX0_castlingIsOpen cX0_castlingIsOpen 4 (some .boolean), Cond.fieldLink RX0 25 "MoveTexts$Board" "rights" "I", Cond.methodLink RX7 47 yX0_becomesAnother, Cond.instanceMethod yX0_becomesAnother, Cond.selects RX0 yX0_becomesAnother yX0_becomesAnother, Cond.code yX0_becomesAnother cX0_becomesAnother 3 (some .boolean), Cond.methodLink RX7 50 yX7_isSafe, Cond.instanceMethod yX7_isSafe, Cond.selects RX7 yX7_isSafe yX7_isSafe, Cond.code yX7_isSafe cX7_isSafe 6 (some .boolean)]
noncomputable def wsX11_signs_r3 : List Cond := [Cond.fieldLink RX7 21 "MoveTexts$Board" "side" "I", Cond.fieldLink RX7 12 "MoveTexts$Rules" "trial" "LMoveTexts$Board;", Cond.methodLink RX7 25 yX0_castles, Cond.methodLink RX7 29 yX0_attacked, Cond.instanceMethod yX0_attacked, Cond.selects RX0 yX0_attacked yX0_attacked, Cond.code yX0_attacked cX0_attacked 4 (some .boolean), Cond.methodLink RX7 32 yX0_copyFrom, Cond.instanceMethod yX0_copyFrom, Cond.selects RX0 yX0_copyFrom yX0_copyFrom, Cond.code yX0_copyFrom cX0_copyFrom 2 none, Cond.methodLink RX0 44 arraycopyName, Cond.native arraycopyName, Cond.static arraycopyName, Cond.initialized "java/lang/System", Cond.fieldLink RX0 15 "MoveTexts$Board" "whiteKing" "I", Cond.fieldLink RX0 19 "MoveTexts$Board" "blackKing" "I", Cond.fieldLink RX0 31 "MoveTexts$Board" "number" "I", Cond.methodLink RX7 36 yX0_play, Cond.instanceMethod yX0_play, Cond.selects RX0 yX0_play yX0_play, Cond.code yX0_play cX0_play 7 none, Cond.methodLink RX0 40 yX0_put, Cond.instanceMethod yX0_put]
noncomputable def wsX11_signs_r4 : List Cond := [Cond.selects RX0 yX0_put yX0_put, Cond.code yX0_put cX0_put 3 none, Cond.methodLink RX0 67 yX0_rightsOf, Cond.static yX0_rightsOf, Cond.code yX0_rightsOf cX0_rightsOf 1 (some .int), Cond.methodLink RX0 70 yX0_pawnAttacks, Cond.instanceMethod yX0_pawnAttacks, Cond.selects RX0 yX0_pawnAttacks yX0_pawnAttacks, Cond.code yX0_pawnAttacks cX0_pawnAttacks 5 (some .boolean), Cond.methodLink RX7 40 yX0_kingOf, Cond.instanceMethod yX0_kingOf, Cond.selects RX0 yX0_kingOf yX0_kingOf, Cond.code yX0_kingOf cX0_kingOf 2 (some .int), Cond.methodLink RX11 87 yX6_keep, Cond.instanceMethod yX6_keep, Cond.selects RX6 yX6_keep yX6_keep, Cond.initialized RX6, Cond.code yX6_keep cX6_keep 2 none, Cond.fieldLink RX6 16 "MoveTexts$Row" "length" "I", Cond.methodLink RX11 151 yX9_putSigns, Cond.instanceMethod yX9_putSigns, Cond.selects RX9 yX9_putSigns yX9_putSigns, Cond.initialized RX9, Cond.code yX9_putSigns cX9_putSigns 7 none]
noncomputable def wsX11_signs_r5 : List Cond := [Cond.fieldLink RX9 12 "MoveTexts$SignWriter" "rules" "LMoveTexts$Rules;", Cond.methodLink RX9 18 yX0_castles, Cond.methodLink RX9 28 yX6_putText, Cond.instanceMethod yX6_putText, Cond.selects RX6 yX6_putText yX6_putText, Cond.code yX6_putText cX6_putText 3 none, Cond.methodLink RX6 26 yJ0_length_8abf5, Cond.instanceMethod yJ0_length_8abf5, Cond.selects RJ0 yJ0_length_8abf5 yJ0_length_8abf5, Cond.initialized RJ0, Cond.code yJ0_length_8abf5 cJ0_length_8abf5 1 (some .int), Cond.fieldLink RJ0 9 "java/lang/String" "value" "[B", Cond.methodLink RJ0 335 yJ0_coder_7d493, Cond.instanceMethod yJ0_coder_7d493, Cond.selects RJ0 yJ0_coder_7d493 yJ0_coder_7d493, Cond.code yJ0_coder_7d493 cJ0_coder_7d493 1 (some .byte), Cond.fieldLink RJ0 38 "java/lang/String" "COMPACT_STRINGS" "Z", Cond.fieldLink RJ0 15 "java/lang/String" "coder" "B", Cond.methodLink RX6 31 yJ0_charAt_5068e, Cond.instanceMethod yJ0_charAt_5068e, Cond.selects RJ0 yJ0_charAt_5068e yJ0_charAt_5068e, Cond.code yJ0_charAt_5068e cJ0_charAt_5068e 2 (some .char), Cond.methodLink RJ0 492 yJ0_isLatin1_aae02, Cond.instanceMethod yJ0_isLatin1_aae02]
noncomputable def wsX11_signs_r6 : List Cond := [Cond.selects RJ0 yJ0_isLatin1_aae02 yJ0_isLatin1_aae02, Cond.code yJ0_isLatin1_aae02 cJ0_isLatin1_aae02 1 (some .boolean), Cond.methodLink RJ0 495 yJ1_charAt_3b067, Cond.static yJ1_charAt_3b067, Cond.initialized RJ1, Cond.code yJ1_charAt_3b067 cJ1_charAt_3b067 2 (some .char), Cond.methodLink RJ1 9 yJ0_checkIndex_df160, Cond.static yJ0_checkIndex_df160, Cond.code yJ0_checkIndex_df160 cJ0_checkIndex_df160 2 none, Cond.fieldLink RJ0 1053 "jdk/internal/util/Preconditions" "SIOOBE_FORMATTER" "Ljava/util/function/BiFunction;", Cond.methodLink RJ0 1059 yJ3_checkIndex_8e157, Cond.static yJ3_checkIndex_8e157, Cond.initialized RJ3, Cond.code yJ3_checkIndex_8e157 cJ3_checkIndex_8e157 3 (some .int), Cond.methodLink RJ0 498 yJ2_charAt_3b067, Cond.static yJ2_charAt_3b067, Cond.initialized RJ2, Cond.code yJ2_charAt_3b067 cJ2_charAt_3b067 2 (some .char), Cond.methodLink RJ2 67 yJ2_checkIndex_2214a, Cond.static yJ2_checkIndex_2214a, Cond.code yJ2_checkIndex_2214a cJ2_checkIndex_2214a 2 none, Cond.methodLink RJ2 48 yJ2_length_9d52b, Cond.static yJ2_length_9d52b, Cond.code yJ2_length_9d52b cJ2_length_9d52b 1 (some .int)]
noncomputable def wsX11_signs_r7 : List Cond := [Cond.methodLink RJ2 414 yJ0_checkIndex_df160, Cond.methodLink RJ2 71 yJ2_getChar_3b067, Cond.static yJ2_getChar_3b067, Cond.code yJ2_getChar_3b067 cJ2_getChar_3b067 2 (some .char), Cond.fieldLink RJ2 44 "java/lang/StringUTF16" "$assertionsDisabled" "Z", Cond.fieldLink RJ2 59 "java/lang/StringUTF16" "HI_BYTE_SHIFT" "I", Cond.fieldLink RJ2 63 "java/lang/StringUTF16" "LO_BYTE_SHIFT" "I", Cond.methodLink RX6 35 yX6_put, Cond.instanceMethod yX6_put, Cond.selects RX6 yX6_put yX6_put, Cond.code yX6_put cX6_put 3 none, Cond.fieldLink RX6 13 "MoveTexts$Row" "chars" "[C", Cond.arrayClass .char, Cond.methodLink RX6 20 arraycopyName, Cond.methodLink RX9 34 yX0_takes, Cond.instanceMethod yX0_takes, Cond.selects RX0 yX0_takes yX0_takes, Cond.code yX0_takes cX0_takes 3 (some .boolean), Cond.methodLink RX9 37 yX0_kindAt, Cond.static yX11_letterOf, Cond.initialized RX11, Cond.code yX11_letterOf cX11_letterOf 1 (some .char), Cond.methodLink RX11 292 yJ0_charAt_5068e, Cond.methodLink RX9 45 yX6_put]
noncomputable def wsX11_signs_r8 : List Cond := [Cond.methodLink RX9 49 yX9_putApart, Cond.instanceMethod yX9_putApart, Cond.selects RX9 yX9_putApart yX9_putApart, Cond.code yX9_putApart cX9_putApart 9 none, Cond.fieldLink RX9 63 "MoveTexts$Board" "men" "[I", Cond.methodLink RX9 67 yX0_reaches, Cond.methodLink RX9 70 yX7_isSafe, Cond.static yX11_fileLetter, Cond.code yX11_fileLetter cX11_fileLetter 1 (some .char), Cond.static yX11_rankDigit, Cond.code yX11_rankDigit cX11_rankDigit 1 (some .char), Cond.methodLink RX9 59 yX7_checkSign, Cond.instanceMethod yX7_checkSign, Cond.selects RX7 yX7_checkSign yX7_checkSign, Cond.code yX7_checkSign cX7_checkSign 5 (some .char), Cond.fieldLink RX7 18 "MoveTexts$Rules" "after" "LMoveTexts$Board;", Cond.methodLink RX11 75 yX6_size, Cond.instanceMethod yX6_size, Cond.selects RX6 yX6_size yX6_size, Cond.code yX6_size cX6_size 1 (some .int)]
noncomputable def wsX11_signs : List Cond := .code yX11_signs cX11_signs 2 (some .int) :: ((wsX11_signs_r1 ++ (wsX11_signs_r2 ++ (wsX11_signs_r3 ++ (wsX11_signs_r4 ++ (wsX11_signs_r5 ++ (wsX11_signs_r6 ++ (wsX11_signs_r7 ++ wsX11_signs_r8))))))) ++ wsX110 ++ wsX00 ++ wsX70 ++ wsX60 ++ wsX90 ++ (vx_atS RX11 148 "java/lang/IllegalArgumentException" ["java/lang/RuntimeException", "java/lang/Exception"]).filter goodWord)
noncomputable def wsX11_node_r1 : List Cond := [Cond.classLink RX11 165 "java/lang/IndexOutOfBoundsException", Cond.initialized "java/lang/IndexOutOfBoundsException", Cond.fieldLink RX11 57 "MoveTexts" "game" "LMoveTexts$Game;", Cond.fieldLink RX11 170 "MoveTexts$Node" "parent" "I", Cond.fieldLink RX11 173 "MoveTexts$Node" "move" "I", Cond.fieldLink RX11 128 "MoveTexts$Node" "first" "I", Cond.fieldLink RX11 176 "MoveTexts$Node" "next" "I", Cond.fieldLink RX11 179 "MoveTexts$Node" "markCount" "I", Cond.fieldLink RX11 182 "MoveTexts$Node" "remark" "LMoveTexts$Row;", Cond.methodLink RX11 161 yX1_has, Cond.instanceMethod yX1_has, Cond.selects RX1 yX1_has yX1_has, Cond.initialized RX1, Cond.code yX1_has cX1_has 2 (some .boolean), Cond.fieldLink RX1 29 "MoveTexts$Game" "greatest" "I", Cond.methodLink RX11 124 yX1_at, Cond.instanceMethod yX1_at, Cond.selects RX1 yX1_at yX1_at, Cond.code yX1_at cX1_at 3 (some (.object "MoveTexts$Node")), Cond.fieldLink RX1 25 "MoveTexts$Game" "others" "[LMoveTexts$Node;", Cond.fieldLink RX1 21 "MoveTexts$Game" "root" "LMoveTexts$Node;", Cond.methodLink RX11 75 yX6_size, Cond.instanceMethod yX6_size, Cond.selects RX6 yX6_size yX6_size]
noncomputable def wsX11_node_r2 : List Cond := [Cond.initialized RX6, Cond.code yX6_size cX6_size 1 (some .int), Cond.fieldLink RX6 16 "MoveTexts$Row" "length" "I"]
noncomputable def wsX11_node : List Cond := .code yX11_node cX11_node 4 (some .int) :: ((wsX11_node_r1 ++ wsX11_node_r2) ++ wsX110 ++ wsX40 ++ wsX10 ++ wsX60 ++ (vx_atS RX11 169 "java/lang/IndexOutOfBoundsException" ["java/lang/RuntimeException", "java/lang/Exception"]).filter goodWord)
noncomputable def wsX11_mark : List Cond := .code yX11_mark cX11_mark 3 (some .int) :: ([.classLink RX11 165 "java/lang/IndexOutOfBoundsException", .initialized "java/lang/IndexOutOfBoundsException", .fieldLink RX11 57 "MoveTexts" "game" "LMoveTexts$Game;", .fieldLink RX11 179 "MoveTexts$Node" "markCount" "I", .methodLink RX11 161 yX1_has, .instanceMethod yX1_has, .selects RX1 yX1_has yX1_has, .initialized RX1, .code yX1_has cX1_has 2 (some .boolean), .fieldLink RX1 29 "MoveTexts$Game" "greatest" "I", .methodLink RX11 124 yX1_at, .instanceMethod yX1_at, .selects RX1 yX1_at yX1_at, .code yX1_at cX1_at 3 (some (.object "MoveTexts$Node")), .fieldLink RX1 25 "MoveTexts$Game" "others" "[LMoveTexts$Node;", .fieldLink RX1 21 "MoveTexts$Game" "root" "LMoveTexts$Node;", .methodLink RX11 189 yX4_markAt, .instanceMethod yX4_markAt, .selects RX4 yX4_markAt yX4_markAt, .initialized RX4, .code yX4_markAt cX4_markAt 2 (some .int), .fieldLink RX4 27 "MoveTexts$Node" "marks" "I"] ++ wsX110 ++ wsX40 ++ wsX10 ++ (vx_atS RX11 169 "java/lang/IndexOutOfBoundsException" ["java/lang/RuntimeException", "java/lang/Exception"]).filter goodWord)
noncomputable def wsX11_remark_r1 : List Cond := [Cond.classLink RX11 165 "java/lang/IndexOutOfBoundsException", Cond.initialized "java/lang/IndexOutOfBoundsException", Cond.fieldLink RX11 57 "MoveTexts" "game" "LMoveTexts$Game;", Cond.fieldLink RX11 182 "MoveTexts$Node" "remark" "LMoveTexts$Row;", Cond.methodLink RX11 161 yX1_has, Cond.instanceMethod yX1_has, Cond.selects RX1 yX1_has yX1_has, Cond.initialized RX1, Cond.code yX1_has cX1_has 2 (some .boolean), Cond.fieldLink RX1 29 "MoveTexts$Game" "greatest" "I", Cond.methodLink RX11 124 yX1_at, Cond.instanceMethod yX1_at, Cond.selects RX1 yX1_at yX1_at, Cond.code yX1_at cX1_at 3 (some (.object "MoveTexts$Node")), Cond.fieldLink RX1 25 "MoveTexts$Game" "others" "[LMoveTexts$Node;", Cond.fieldLink RX1 21 "MoveTexts$Game" "root" "LMoveTexts$Node;", Cond.methodLink RX11 75 yX6_size, Cond.instanceMethod yX6_size, Cond.selects RX6 yX6_size yX6_size, Cond.initialized RX6, Cond.code yX6_size cX6_size 1 (some .int), Cond.fieldLink RX6 16 "MoveTexts$Row" "length" "I", Cond.methodLink RX11 155 yX6_at, Cond.instanceMethod yX6_at]
noncomputable def wsX11_remark_r2 : List Cond := [Cond.selects RX6 yX6_at yX6_at, Cond.code yX6_at cX6_at 2 (some .char), Cond.fieldLink RX6 13 "MoveTexts$Row" "chars" "[C"]
noncomputable def wsX11_remark : List Cond := .code yX11_remark cX11_remark 3 (some .int) :: ((wsX11_remark_r1 ++ wsX11_remark_r2) ++ wsX110 ++ wsX40 ++ wsX10 ++ wsX60 ++ (vx_atS RX11 169 "java/lang/IndexOutOfBoundsException" ["java/lang/RuntimeException", "java/lang/Exception"]).filter goodWord)
noncomputable def wsX11_go_r1 : List Cond := [Cond.classLink RX11 165 "java/lang/IndexOutOfBoundsException", Cond.initialized "java/lang/IndexOutOfBoundsException", Cond.fieldLink RX11 57 "MoveTexts" "game" "LMoveTexts$Game;", Cond.fieldLink RX11 61 "MoveTexts" "here" "I", Cond.fieldLink RX11 68 "MoveTexts" "board" "LMoveTexts$Board;", Cond.methodLink RX11 161 yX1_has, Cond.instanceMethod yX1_has, Cond.selects RX1 yX1_has yX1_has, Cond.initialized RX1, Cond.code yX1_has cX1_has 2 (some .boolean), Cond.fieldLink RX1 29 "MoveTexts$Game" "greatest" "I", Cond.methodLink RX11 112 yX1_standAt, Cond.instanceMethod yX1_standAt, Cond.selects RX1 yX1_standAt yX1_standAt, Cond.code yX1_standAt cX1_standAt 6 none, Cond.fieldLink RX1 45 "MoveTexts$Game" "scratch" "[I", Cond.fieldLink RX1 63 "MoveTexts$Node" "move" "I", Cond.fieldLink RX1 69 "MoveTexts$Node" "parent" "I", Cond.fieldLink RX1 12 "MoveTexts$Game" "start" "LMoveTexts$Board;", Cond.methodLink RX1 56 yX1_at, Cond.instanceMethod yX1_at, Cond.selects RX1 yX1_at yX1_at, Cond.code yX1_at cX1_at 3 (some (.object "MoveTexts$Node")), Cond.fieldLink RX1 25 "MoveTexts$Game" "others" "[LMoveTexts$Node;"]
noncomputable def wsX11_go_r2 : List Cond := [Cond.fieldLink RX1 21 "MoveTexts$Game" "root" "LMoveTexts$Node;", Cond.methodLink RX1 76 yX0_copyFrom, Cond.instanceMethod yX0_copyFrom, Cond.selects RX0 yX0_copyFrom yX0_copyFrom, Cond.initialized RX0, Cond.code yX0_copyFrom cX0_copyFrom 2 none, Cond.fieldLink RX0 9 "MoveTexts$Board" "men" "[I", Cond.methodLink RX0 44 arraycopyName, Cond.native arraycopyName, Cond.static arraycopyName, Cond.initialized "java/lang/System", Cond.fieldLink RX0 15 "MoveTexts$Board" "whiteKing" "I", Cond.fieldLink RX0 19 "MoveTexts$Board" "blackKing" "I", Cond.fieldLink RX0 22 "MoveTexts$Board" "side" "I", Cond.fieldLink RX0 25 "MoveTexts$Board" "rights" "I", Cond.fieldLink RX0 28 "MoveTexts$Board" "passed" "I", Cond.fieldLink RX0 31 "MoveTexts$Board" "number" "I", Cond.methodLink RX1 80 yX0_play, Cond.instanceMethod yX0_play, Cond.selects RX0 yX0_play yX0_play, Cond.code yX0_play cX0_play 7 none, Cond.methodLink RX0 54 yX0_kindAt, Cond.instanceMethod yX0_kindAt, Cond.selects RX0 yX0_kindAt yX0_kindAt]
noncomputable def wsX11_go_r3 : List Cond := [Cond.code yX0_kindAt cX0_kindAt 2 (some .int), Cond.methodLink RX0 61 yX0_castles, Cond.instanceMethod yX0_castles, Cond.selects RX0 yX0_castles yX0_castles, Cond.code yX0_castles cX0_castles 3 (some .boolean), Cond.methodLink RX0 40 yX0_put, Cond.instanceMethod yX0_put, Cond.selects RX0 yX0_put yX0_put, Cond.code yX0_put cX0_put 3 none, Cond.methodLink RX0 67 yX0_rightsOf, Cond.static yX0_rightsOf, Cond.code yX0_rightsOf cX0_rightsOf 1 (some .int), Cond.methodLink RX0 70 yX0_pawnAttacks, Cond.instanceMethod yX0_pawnAttacks, Cond.selects RX0 yX0_pawnAttacks yX0_pawnAttacks, Cond.code yX0_pawnAttacks cX0_pawnAttacks 5 (some .boolean)]
noncomputable def wsX11_go : List Cond := .code yX11_go cX11_go 2 none :: ((wsX11_go_r1 ++ (wsX11_go_r2 ++ wsX11_go_r3)) ++ wsX110 ++ wsX10 ++ wsX40 ++ wsX00 ++ (vx_atS RX11 169 "java/lang/IndexOutOfBoundsException" ["java/lang/RuntimeException", "java/lang/Exception"]).filter goodWord)
noncomputable def wsX11_man : List Cond := .code yX11_man cX11_man 2 (some .int) :: ([.classLink RX11 165 "java/lang/IndexOutOfBoundsException", .initialized "java/lang/IndexOutOfBoundsException", .fieldLink RX11 68 "MoveTexts" "board" "LMoveTexts$Board;", .fieldLink RX11 197 "MoveTexts$Board" "men" "[I"] ++ wsX110 ++ wsX00 ++ (vx_atS RX11 169 "java/lang/IndexOutOfBoundsException" ["java/lang/RuntimeException", "java/lang/Exception"]).filter goodWord)
noncomputable def wsX11_add_r1 : List Cond := [Cond.classLink RX11 144 "java/lang/IllegalArgumentException", Cond.initialized "java/lang/IllegalArgumentException", Cond.classLink RX11 212 "java/lang/UnsupportedOperationException", Cond.initialized "java/lang/UnsupportedOperationException", Cond.fieldLink RX11 22 "MoveTexts" "rules" "LMoveTexts$Rules;", Cond.fieldLink RX11 68 "MoveTexts" "board" "LMoveTexts$Board;", Cond.fieldLink RX11 57 "MoveTexts" "game" "LMoveTexts$Game;", Cond.fieldLink RX11 61 "MoveTexts" "here" "I", Cond.fieldLink RX11 158 "MoveTexts$Game" "greatest" "I", Cond.methodLink RX11 140 yX7_isLegal, Cond.instanceMethod yX7_isLegal, Cond.selects RX7 yX7_isLegal yX7_isLegal, Cond.initialized RX7, Cond.code yX7_isLegal cX7_isLegal 6 (some .boolean), Cond.methodLink RX7 44 yX0_reaches, Cond.instanceMethod yX0_reaches, Cond.selects RX0 yX0_reaches yX0_reaches, Cond.initialized RX0, Cond.code yX0_reaches cX0_reaches 4 (some .boolean), Cond.fieldLink RX0 9 "MoveTexts$Board" "men" "[I", Cond.fieldLink RX0 22 "MoveTexts$Board" "side" "I", Cond.methodLink RX0 54 yX0_kindAt, Cond.instanceMethod yX0_kindAt, Cond.selects RX0 yX0_kindAt yX0_kindAt]
noncomputable def wsX11_add_r2 : List Cond := [Cond.code yX0_kindAt cX0_kindAt 2 (some .int), Cond.methodLink RX0 58 yX0_pawnReaches, Cond.instanceMethod yX0_pawnReaches, Cond.selects RX0 yX0_pawnReaches yX0_pawnReaches, Cond.code yX0_pawnReaches cX0_pawnReaches 4 (some .boolean), Cond.fieldLink RX0 28 "MoveTexts$Board" "passed" "I", Cond.methodLink RX0 50 yX0_attacks, Cond.instanceMethod yX0_attacks, Cond.selects RX0 yX0_attacks yX0_attacks, Cond.code yX0_attacks cX0_attacks 13 (some .boolean), Cond.methodLink RX0 61 yX0_castles, Cond.instanceMethod yX0_castles, Cond.selects RX0 yX0_castles yX0_castles, Cond.code yX0_castles cX0_castles 3 (some .boolean), Cond.methodLink RX0 64 yX0_castlingIsOpen, Cond.instanceMethod yX0_castlingIsOpen, Cond.selects RX0 yX0_castlingIsOpen yX0_castlingIsOpen, Cond.code yX0_castlingIsOpen cX0_castlingIsOpen 4 (some .boolean), Cond.fieldLink RX0 25 "MoveTexts$Board" "rights" "I", Cond.methodLink RX7 47 yX0_becomesAnother, Cond.instanceMethod yX0_becomesAnother, Cond.selects RX0 yX0_becomesAnother yX0_becomesAnother, Cond.code yX0_becomesAnother cX0_becomesAnother 3 (some .boolean), Cond.methodLink RX7 50 yX7_isSafe]
noncomputable def wsX11_add_r3 : List Cond := [Cond.instanceMethod yX7_isSafe, Cond.selects RX7 yX7_isSafe yX7_isSafe, Cond.code yX7_isSafe cX7_isSafe 6 (some .boolean), Cond.fieldLink RX7 21 "MoveTexts$Board" "side" "I", Cond.fieldLink RX7 12 "MoveTexts$Rules" "trial" "LMoveTexts$Board;", Cond.methodLink RX7 25 yX0_castles, Cond.methodLink RX7 29 yX0_attacked, Cond.instanceMethod yX0_attacked, Cond.selects RX0 yX0_attacked yX0_attacked, Cond.code yX0_attacked cX0_attacked 4 (some .boolean), Cond.methodLink RX7 32 yX0_copyFrom, Cond.instanceMethod yX0_copyFrom, Cond.selects RX0 yX0_copyFrom yX0_copyFrom, Cond.code yX0_copyFrom cX0_copyFrom 2 none, Cond.methodLink RX0 44 arraycopyName, Cond.native arraycopyName, Cond.static arraycopyName, Cond.initialized "java/lang/System", Cond.fieldLink RX0 15 "MoveTexts$Board" "whiteKing" "I", Cond.fieldLink RX0 19 "MoveTexts$Board" "blackKing" "I", Cond.fieldLink RX0 31 "MoveTexts$Board" "number" "I", Cond.methodLink RX7 36 yX0_play, Cond.instanceMethod yX0_play, Cond.selects RX0 yX0_play yX0_play]
noncomputable def wsX11_add_r4 : List Cond := [Cond.code yX0_play cX0_play 7 none, Cond.methodLink RX0 40 yX0_put, Cond.instanceMethod yX0_put, Cond.selects RX0 yX0_put yX0_put, Cond.code yX0_put cX0_put 3 none, Cond.methodLink RX0 67 yX0_rightsOf, Cond.static yX0_rightsOf, Cond.code yX0_rightsOf cX0_rightsOf 1 (some .int), Cond.methodLink RX0 70 yX0_pawnAttacks, Cond.instanceMethod yX0_pawnAttacks, Cond.selects RX0 yX0_pawnAttacks yX0_pawnAttacks, Cond.code yX0_pawnAttacks cX0_pawnAttacks 5 (some .boolean), Cond.methodLink RX7 40 yX0_kingOf, Cond.instanceMethod yX0_kingOf, Cond.selects RX0 yX0_kingOf yX0_kingOf, Cond.code yX0_kingOf cX0_kingOf 2 (some .int), Cond.methodLink RX11 205 yX1_childWith, Cond.instanceMethod yX1_childWith, Cond.selects RX1 yX1_childWith yX1_childWith, Cond.initialized RX1, Cond.code yX1_childWith cX1_childWith 5 (some .int), Cond.fieldLink RX1 60 "MoveTexts$Node" "first" "I", Cond.fieldLink RX1 63 "MoveTexts$Node" "move" "I", Cond.fieldLink RX1 66 "MoveTexts$Node" "next" "I"]
noncomputable def wsX11_add_r5 : List Cond := [Cond.methodLink RX1 56 yX1_at, Cond.instanceMethod yX1_at, Cond.selects RX1 yX1_at yX1_at, Cond.code yX1_at cX1_at 3 (some (.object "MoveTexts$Node")), Cond.fieldLink RX1 29 "MoveTexts$Game" "greatest" "I", Cond.fieldLink RX1 25 "MoveTexts$Game" "others" "[LMoveTexts$Node;", Cond.fieldLink RX1 21 "MoveTexts$Game" "root" "LMoveTexts$Node;", Cond.methodLink RX11 209 yX1_deepOfNext, Cond.instanceMethod yX1_deepOfNext, Cond.selects RX1 yX1_deepOfNext yX1_deepOfNext, Cond.code yX1_deepOfNext cX1_deepOfNext 5 (some .int), Cond.fieldLink RX1 69 "MoveTexts$Node" "parent" "I", Cond.methodLink RX1 72 yX1_goesOn, Cond.instanceMethod yX1_goesOn, Cond.selects RX1 yX1_goesOn yX1_goesOn, Cond.code yX1_goesOn cX1_goesOn 2 (some .boolean), Cond.methodLink RX11 217 yX1_grow, Cond.instanceMethod yX1_grow, Cond.selects RX1 yX1_grow yX1_grow, Cond.code yX1_grow cX1_grow 5 (some .int), Cond.classLink RX1 18 RX4, Cond.instantiable RX4 7, Cond.initialized RX4, Cond.instanceMethod yX4_init]
noncomputable def wsX11_add_r6 : List Cond := [Cond.code yX4_init cX4_init 1 none, Cond.methodLink RX4 3 objectInit, Cond.instanceMethod objectInit, Cond.code objectInit ⟨#[0xb1]⟩ 1 none, Cond.fieldLink RX4 9 "MoveTexts$Node" "parent" "I", Cond.fieldLink RX4 15 "MoveTexts$Node" "move" "I", Cond.fieldLink RX4 18 "MoveTexts$Node" "first" "I", Cond.fieldLink RX4 21 "MoveTexts$Node" "next" "I", Cond.fieldLink RX4 24 "MoveTexts$Node" "markCount" "I", Cond.fieldLink RX4 27 "MoveTexts$Node" "marks" "I", Cond.classLink RX4 30 RX6, Cond.instantiable RX6 2, Cond.initialized RX6, Cond.fieldLink RX4 33 "MoveTexts$Node" "remark" "LMoveTexts$Row;", Cond.instanceMethod yX6_init, Cond.code yX6_init cX6_init 1 none, Cond.methodLink RX6 1 objectInit, Cond.fieldLink RX6 7 "MoveTexts$Row" "NO_CHARS" "[C", Cond.fieldLink RX6 13 "MoveTexts$Row" "chars" "[C", Cond.fieldLink RX6 16 "MoveTexts$Row" "length" "I", Cond.methodLink RX1 52 yX4_become, Cond.instanceMethod yX4_become, Cond.selects RX4 yX4_become yX4_become, Cond.code yX4_become cX4_become 3 none]
noncomputable def wsX11_add_r7 : List Cond := [Cond.methodLink RX4 37 yX6_keep, Cond.instanceMethod yX6_keep, Cond.selects RX6 yX6_keep yX6_keep, Cond.code yX6_keep cX6_keep 2 none, Cond.methodLink RX11 220 yX0_play]
noncomputable def wsX11_add : List Cond := .code yX11_add cX11_add 3 (some .int) :: ((wsX11_add_r1 ++ (wsX11_add_r2 ++ (wsX11_add_r3 ++ (wsX11_add_r4 ++ (wsX11_add_r5 ++ (wsX11_add_r6 ++ wsX11_add_r7)))))) ++ wsX110 ++ wsX10 ++ wsX00 ++ wsX70 ++ wsX40 ++ wsX60 ++ (vx_atS RX11 148 "java/lang/IllegalArgumentException" ["java/lang/RuntimeException", "java/lang/Exception"]).filter goodWord ++ (vx_atS RX11 216 "java/lang/UnsupportedOperationException" ["java/lang/RuntimeException", "java/lang/Exception"]).filter goodWord)
noncomputable def wsX11_addMark : List Cond := .code yX11_addMark cX11_addMark 3 (some .int) :: ([.classLink RX11 144 "java/lang/IllegalArgumentException", .initialized "java/lang/IllegalArgumentException", .classLink RX11 225 "java/lang/IllegalStateException", .initialized "java/lang/IllegalStateException", .fieldLink RX11 57 "MoveTexts" "game" "LMoveTexts$Game;", .fieldLink RX11 61 "MoveTexts" "here" "I", .fieldLink RX11 179 "MoveTexts$Node" "markCount" "I", .methodLink RX11 124 yX1_at, .instanceMethod yX1_at, .selects RX1 yX1_at yX1_at, .initialized RX1, .code yX1_at cX1_at 3 (some (.object "MoveTexts$Node")), .fieldLink RX1 29 "MoveTexts$Game" "greatest" "I", .fieldLink RX1 25 "MoveTexts$Game" "others" "[LMoveTexts$Node;", .fieldLink RX1 21 "MoveTexts$Game" "root" "LMoveTexts$Node;", .methodLink RX11 230 yX4_putMark, .instanceMethod yX4_putMark, .selects RX4 yX4_putMark yX4_putMark, .initialized RX4, .code yX4_putMark cX4_putMark 2 none, .fieldLink RX4 27 "MoveTexts$Node" "marks" "I", .fieldLink RX4 24 "MoveTexts$Node" "markCount" "I"] ++ wsX110 ++ wsX40 ++ wsX10 ++ (vx_atS RX11 148 "java/lang/IllegalArgumentException" ["java/lang/RuntimeException", "java/lang/Exception"]).filter goodWord ++ (vx_atS RX11 229 "java/lang/IllegalStateException" ["java/lang/RuntimeException", "java/lang/Exception"]).filter goodWord)
noncomputable def wsX11_say_r1 : List Cond := [Cond.classLink RX11 144 "java/lang/IllegalArgumentException", Cond.initialized "java/lang/IllegalArgumentException", Cond.fieldLink RX11 10 "MoveTexts" "text" "LMoveTexts$Row;", Cond.fieldLink RX11 57 "MoveTexts" "game" "LMoveTexts$Game;", Cond.fieldLink RX11 61 "MoveTexts" "here" "I", Cond.fieldLink RX11 182 "MoveTexts$Node" "remark" "LMoveTexts$Row;", Cond.methodLink RX11 75 yX6_size, Cond.instanceMethod yX6_size, Cond.selects RX6 yX6_size yX6_size, Cond.initialized RX6, Cond.code yX6_size cX6_size 1 (some .int), Cond.fieldLink RX6 16 "MoveTexts$Row" "length" "I", Cond.methodLink RX11 233 yX6_indexOf, Cond.instanceMethod yX6_indexOf, Cond.selects RX6 yX6_indexOf yX6_indexOf, Cond.code yX6_indexOf cX6_indexOf 4 (some .int), Cond.methodLink RX6 46 Lib.Math.max.name, Cond.static Lib.Math.max.name, Cond.initialized "java/lang/Math", Cond.code Lib.Math.max.name Lib.Math.max.code 2 (some .int), Cond.fieldLink RX6 13 "MoveTexts$Row" "chars" "[C", Cond.methodLink RX11 124 yX1_at, Cond.instanceMethod yX1_at, Cond.selects RX1 yX1_at yX1_at]
noncomputable def wsX11_say_r2 : List Cond := [Cond.initialized RX1, Cond.code yX1_at cX1_at 3 (some (.object "MoveTexts$Node")), Cond.fieldLink RX1 29 "MoveTexts$Game" "greatest" "I", Cond.fieldLink RX1 25 "MoveTexts$Game" "others" "[LMoveTexts$Node;", Cond.fieldLink RX1 21 "MoveTexts$Game" "root" "LMoveTexts$Node;", Cond.methodLink RX11 239 yX6_copyFrom, Cond.instanceMethod yX6_copyFrom, Cond.selects RX6 yX6_copyFrom yX6_copyFrom, Cond.code yX6_copyFrom cX6_copyFrom 2 none, Cond.methodLink RX6 39 yX6_putAll, Cond.instanceMethod yX6_putAll, Cond.selects RX6 yX6_putAll yX6_putAll, Cond.code yX6_putAll cX6_putAll 3 none, Cond.methodLink RX6 43 yX6_at, Cond.instanceMethod yX6_at, Cond.selects RX6 yX6_at yX6_at, Cond.code yX6_at cX6_at 2 (some .char), Cond.methodLink RX6 35 yX6_put, Cond.instanceMethod yX6_put, Cond.selects RX6 yX6_put yX6_put, Cond.code yX6_put cX6_put 3 none, Cond.arrayClass .char, Cond.methodLink RX6 20 arraycopyName, Cond.native arraycopyName]
noncomputable def wsX11_say_r3 : List Cond := [Cond.static arraycopyName, Cond.initialized "java/lang/System", Cond.methodLink RX11 87 yX6_keep, Cond.instanceMethod yX6_keep, Cond.selects RX6 yX6_keep yX6_keep, Cond.code yX6_keep cX6_keep 2 none]
noncomputable def wsX11_say : List Cond := .code yX11_say cX11_say 2 (some .int) :: ((wsX11_say_r1 ++ (wsX11_say_r2 ++ wsX11_say_r3)) ++ wsX110 ++ wsX40 ++ wsX60 ++ wsX10 ++ (vx_atS RX11 148 "java/lang/IllegalArgumentException" ["java/lang/RuntimeException", "java/lang/Exception"]).filter goodWord)
noncomputable def wsX11_lead_r1 : List Cond := [Cond.classLink RX11 225 "java/lang/IllegalStateException", Cond.initialized "java/lang/IllegalStateException", Cond.fieldLink RX11 61 "MoveTexts" "here" "I", Cond.fieldLink RX11 57 "MoveTexts" "game" "LMoveTexts$Game;", Cond.methodLink RX11 244 yX1_goesOn, Cond.instanceMethod yX1_goesOn, Cond.selects RX1 yX1_goesOn yX1_goesOn, Cond.initialized RX1, Cond.code yX1_goesOn cX1_goesOn 2 (some .boolean), Cond.fieldLink RX1 69 "MoveTexts$Node" "parent" "I", Cond.fieldLink RX1 60 "MoveTexts$Node" "first" "I", Cond.methodLink RX1 56 yX1_at, Cond.instanceMethod yX1_at, Cond.selects RX1 yX1_at yX1_at, Cond.code yX1_at cX1_at 3 (some (.object "MoveTexts$Node")), Cond.fieldLink RX1 29 "MoveTexts$Game" "greatest" "I", Cond.fieldLink RX1 25 "MoveTexts$Game" "others" "[LMoveTexts$Node;", Cond.fieldLink RX1 21 "MoveTexts$Game" "root" "LMoveTexts$Node;", Cond.methodLink RX11 247 yX1_mayLead, Cond.instanceMethod yX1_mayLead, Cond.selects RX1 yX1_mayLead yX1_mayLead, Cond.code yX1_mayLead cX1_mayLead 6 (some .boolean), Cond.fieldLink RX1 45 "MoveTexts$Game" "scratch" "[I", Cond.methodLink RX11 252 yX1_putFirst]
noncomputable def wsX11_lead_r2 : List Cond := [Cond.instanceMethod yX1_putFirst, Cond.selects RX1 yX1_putFirst yX1_putFirst, Cond.code yX1_putFirst cX1_putFirst 5 none, Cond.fieldLink RX1 66 "MoveTexts$Node" "next" "I"]
noncomputable def wsX11_lead : List Cond := .code yX11_lead cX11_lead 1 (some .boolean) :: ((wsX11_lead_r1 ++ wsX11_lead_r2) ++ wsX110 ++ wsX40 ++ wsX10 ++ (vx_atS RX11 229 "java/lang/IllegalStateException" ["java/lang/RuntimeException", "java/lang/Exception"]).filter goodWord)
noncomputable def wsX11_end : List Cond := .code yX11_end cX11_end 2 none :: ([.classLink RX11 144 "java/lang/IllegalArgumentException", .initialized "java/lang/IllegalArgumentException", .fieldLink RX11 57 "MoveTexts" "game" "LMoveTexts$Game;", .fieldLink RX11 257 "MoveTexts$Game" "result" "I"] ++ wsX110 ++ wsX10 ++ (vx_atS RX11 148 "java/lang/IllegalArgumentException" ["java/lang/RuntimeException", "java/lang/Exception"]).filter goodWord)
noncomputable def wsX11_tag_r1 : List Cond := [Cond.classLink RX11 165 "java/lang/IndexOutOfBoundsException", Cond.initialized "java/lang/IndexOutOfBoundsException", Cond.fieldLink RX11 57 "MoveTexts" "game" "LMoveTexts$Game;", Cond.fieldLink RX11 260 "MoveTexts$Game" "tagCount" "I", Cond.fieldLink RX11 269 "MoveTexts$Tag" "value" "LMoveTexts$Row;", Cond.fieldLink RX11 274 "MoveTexts$Tag" "name" "LMoveTexts$Row;", Cond.methodLink RX11 265 yX1_tagAt, Cond.instanceMethod yX1_tagAt, Cond.selects RX1 yX1_tagAt yX1_tagAt, Cond.initialized RX1, Cond.code yX1_tagAt cX1_tagAt 3 (some (.object "MoveTexts$Tag")), Cond.fieldLink RX1 39 "MoveTexts$Game" "tagCount" "I", Cond.fieldLink RX1 35 "MoveTexts$Game" "tagRow" "[LMoveTexts$Tag;", Cond.classLink RX1 33 RX10, Cond.instantiable RX10 2, Cond.initialized RX10, Cond.instanceMethod yX10_init, Cond.code yX10_init cX10_init 1 none, Cond.methodLink RX10 1 objectInit, Cond.instanceMethod objectInit, Cond.code objectInit ⟨#[0xb1]⟩ 1 none, Cond.classLink RX10 7 RX6, Cond.instantiable RX6 2, Cond.initialized RX6]
noncomputable def wsX11_tag_r2 : List Cond := [Cond.fieldLink RX10 10 "MoveTexts$Tag" "name" "LMoveTexts$Row;", Cond.fieldLink RX10 16 "MoveTexts$Tag" "value" "LMoveTexts$Row;", Cond.instanceMethod yX6_init, Cond.code yX6_init cX6_init 1 none, Cond.methodLink RX6 1 objectInit, Cond.fieldLink RX6 7 "MoveTexts$Row" "NO_CHARS" "[C", Cond.fieldLink RX6 13 "MoveTexts$Row" "chars" "[C", Cond.fieldLink RX6 16 "MoveTexts$Row" "length" "I", Cond.methodLink RX11 155 yX6_at, Cond.instanceMethod yX6_at, Cond.selects RX6 yX6_at yX6_at, Cond.code yX6_at cX6_at 2 (some .char)]
noncomputable def wsX11_tag : List Cond := .code yX11_tag cX11_tag 5 (some .int) :: ((wsX11_tag_r1 ++ wsX11_tag_r2) ++ wsX110 ++ wsX10 ++ wsX100 ++ wsX60 ++ (vx_atS RX11 169 "java/lang/IndexOutOfBoundsException" ["java/lang/RuntimeException", "java/lang/Exception"]).filter goodWord)
end
section
set_option maxRecDepth 20000 in
theorem ggX11_signs_X7_isLegal : GoodIn wsX11_signs wsX7_isLegal := goodIn_r _ [11, 12, 13, 14, 15, 16, 17, 18, 19, 20, 21, 22, 23, 24, 25, 26, 27, 28, 29, 30, 31, 32, 33, 34, 35, 36, 37, 38, 39, 40, 41, 42, 43, 44, 45, 46, 47, 10, 48, 49, 50, 51, 52, 53, 54, 55, 56, 57, 58, 59, 60, 61, 62, 63, 64, 65, 66, 67, 68, 69, 70, 71, 72, 73, 74, 75, 76, 77, 78, 79, 80, 81, 82, 83, 84, 85, 199, 200, 201, 202, 203, 204, 205, 206, 207] rfl (by decide +kernel)
set_option maxRecDepth 20000 in
theorem gX11_signs_X7_isLegal : GoodIn wsX11_signs (wsV RX11 140 RX7 yX7_isLegal wsX7_isLegal) := goodIn_app (goodIn_of _ (by decide +kernel)) ggX11_signs_X7_isLegal
set_option maxRecDepth 20000 in
theorem ggX11_signs_X6_keep : GoodIn wsX11_signs wsX6_keep := goodIn_r _ [90, 91, 208, 209] rfl (by decide +kernel)
set_option maxRecDepth 20000 in
theorem gX11_signs_X6_keep : GoodIn wsX11_signs (wsV RX11 87 RX6 yX6_keep wsX6_keep) := goodIn_app (goodIn_of _ (by decide +kernel)) ggX11_signs_X6_keep
set_option maxRecDepth 20000 in
theorem ggX11_signs_X9_putSigns : GoodIn wsX11_signs wsX9_putSigns := goodIn_r _ [96, 97, 98, 33, 34, 15, 35, 17, 99, 100, 101, 89, 102, 103, 104, 105, 106, 107, 108, 109, 110, 111, 112, 113, 114, 115, 116, 117, 118, 119, 120, 121, 122, 123, 124, 125, 126, 127, 128, 129, 130, 131, 132, 133, 134, 135, 136, 137, 138, 139, 140, 141, 142, 143, 144, 145, 146, 147, 148, 149, 150, 151, 152, 153, 154, 155, 91, 156, 157, 158, 61, 62, 63, 159, 160, 161, 162, 19, 20, 21, 22, 163, 164, 165, 166, 167, 168, 169, 170, 171, 95, 172, 173, 174, 13, 14, 16, 18, 23, 24, 25, 26, 27, 28, 29, 30, 31, 32, 36, 37, 38, 39, 40, 175, 46, 47, 10, 48, 49, 50, 51, 52, 53, 54, 55, 56, 57, 58, 59, 60, 64, 65, 66, 67, 68, 69, 70, 71, 72, 73, 74, 75, 76, 77, 78, 79, 80, 81, 82, 83, 84, 85, 176, 177, 178, 179, 180, 181, 182, 183, 184, 12, 45, 210, 199, 200, 201, 202, 203, 204, 205, 208, 209, 206, 207] rfl (by decide +kernel)
set_option maxRecDepth 20000 in
theorem gX11_signs_X9_putSigns : GoodIn wsX11_signs (wsV RX11 151 RX9 yX9_putSigns wsX9_putSigns) := goodIn_app (goodIn_of _ (by decide +kernel)) ggX11_signs_X9_putSigns
set_option maxRecDepth 20000 in
theorem ggX11_signs_X6_size : GoodIn wsX11_signs wsX6_size := goodIn_r _ [188, 91, 208, 209] rfl (by decide +kernel)
set_option maxRecDepth 20000 in
theorem gX11_signs_X6_size : GoodIn wsX11_signs (wsV RX11 75 RX6 yX6_size wsX6_size) := goodIn_app (goodIn_of _ (by decide +kernel)) ggX11_signs_X6_size
set_option maxRecDepth 20000 in
theorem ggX11_node_X1_has : GoodIn wsX11_node wsX1_has := goodIn_r _ [14, 15, 45, 46, 47, 48, 49, 50, 51, 52] rfl (by decide +kernel)
set_option maxRecDepth 20000 in
theorem gX11_node_X1_has : GoodIn wsX11_node (wsV RX11 161 RX1 yX1_has wsX1_has) := goodIn_app (goodIn_of _ (by decide +kernel)) ggX11_node_X1_has
set_option maxRecDepth 20000 in
theorem ggX11_node_X1_at : GoodIn wsX11_node wsX1_at := goodIn_r _ [19, 15, 20, 21, 45, 46, 47, 48, 49, 50, 51, 52] rfl (by decide +kernel)
set_option maxRecDepth 20000 in
theorem gX11_node_X1_at : GoodIn wsX11_node (wsV RX11 124 RX1 yX1_at wsX1_at) := goodIn_app (goodIn_of _ (by decide +kernel)) ggX11_node_X1_at
set_option maxRecDepth 20000 in
theorem ggX11_node_X6_size : GoodIn wsX11_node wsX6_size := goodIn_r _ [26, 27, 53, 54] rfl (by decide +kernel)
set_option maxRecDepth 20000 in
theorem gX11_node_X6_size : GoodIn wsX11_node (wsV RX11 75 RX6 yX6_size wsX6_size) := goodIn_app (goodIn_of _ (by decide +kernel)) ggX11_node_X6_size
set_option maxRecDepth 20000 in
theorem ggX11_mark_X1_has : GoodIn wsX11_mark wsX1_has := goodIn_r _ [9, 10, 40, 41, 42, 43, 44, 45, 46, 47] rfl (by decide +kernel)
set_option maxRecDepth 20000 in
theorem gX11_mark_X1_has : GoodIn wsX11_mark (wsV RX11 161 RX1 yX1_has wsX1_has) := goodIn_app (goodIn_of _ (by decide +kernel)) ggX11_mark_X1_has
set_option maxRecDepth 20000 in
theorem ggX11_mark_X1_at : GoodIn wsX11_mark wsX1_at := goodIn_r _ [14, 10, 15, 16, 40, 41, 42, 43, 44, 45, 46, 47] rfl (by decide +kernel)
set_option maxRecDepth 20000 in
theorem gX11_mark_X1_at : GoodIn wsX11_mark (wsV RX11 124 RX1 yX1_at wsX1_at) := goodIn_app (goodIn_of _ (by decide +kernel)) ggX11_mark_X1_at
set_option maxRecDepth 20000 in
theorem ggX11_mark_X4_markAt : GoodIn wsX11_mark wsX4_markAt := goodIn_r _ [21, 22, 33, 34, 35, 36, 37, 38, 39] rfl (by decide +kernel)
set_option maxRecDepth 20000 in
theorem gX11_mark_X4_markAt : GoodIn wsX11_mark (wsV RX11 189 RX4 yX4_markAt wsX4_markAt) := goodIn_app (goodIn_of _ (by decide +kernel)) ggX11_mark_X4_markAt
set_option maxRecDepth 20000 in
theorem ggX11_remark_X1_has : GoodIn wsX11_remark wsX1_has := goodIn_r _ [9, 10, 45, 46, 47, 48, 49, 50, 51, 52] rfl (by decide +kernel)
set_option maxRecDepth 20000 in
theorem gX11_remark_X1_has : GoodIn wsX11_remark (wsV RX11 161 RX1 yX1_has wsX1_has) := goodIn_app (goodIn_of _ (by decide +kernel)) ggX11_remark_X1_has
set_option maxRecDepth 20000 in
theorem ggX11_remark_X1_at : GoodIn wsX11_remark wsX1_at := goodIn_r _ [14, 10, 15, 16, 45, 46, 47, 48, 49, 50, 51, 52] rfl (by decide +kernel)
set_option maxRecDepth 20000 in
theorem gX11_remark_X1_at : GoodIn wsX11_remark (wsV RX11 124 RX1 yX1_at wsX1_at) := goodIn_app (goodIn_of _ (by decide +kernel)) ggX11_remark_X1_at
set_option maxRecDepth 20000 in
theorem ggX11_remark_X6_size : GoodIn wsX11_remark wsX6_size := goodIn_r _ [21, 22, 53, 54] rfl (by decide +kernel)
set_option maxRecDepth 20000 in
theorem gX11_remark_X6_size : GoodIn wsX11_remark (wsV RX11 75 RX6 yX6_size wsX6_size) := goodIn_app (goodIn_of _ (by decide +kernel)) ggX11_remark_X6_size
set_option maxRecDepth 20000 in
theorem ggX11_remark_X6_at : GoodIn wsX11_remark wsX6_at := goodIn_r _ [26, 22, 27, 53, 54] rfl (by decide +kernel)
set_option maxRecDepth 20000 in
theorem gX11_remark_X6_at : GoodIn wsX11_remark (wsV RX11 155 RX6 yX6_at wsX6_at) := goodIn_app (goodIn_of _ (by decide +kernel)) ggX11_remark_X6_at
set_option maxRecDepth 20000 in
theorem ggX11_go_X1_has : GoodIn wsX11_go wsX1_has := goodIn_r _ [10, 11, 75, 76, 77, 78, 79, 80, 81, 82] rfl (by decide +kernel)
set_option maxRecDepth 20000 in
theorem gX11_go_X1_has : GoodIn wsX11_go (wsV RX11 161 RX1 yX1_has wsX1_has) := goodIn_app (goodIn_of _ (by decide +kernel)) ggX11_go_X1_has
set_option maxRecDepth 20000 in
theorem ggX11_go_X1_standAt : GoodIn wsX11_go wsX1_standAt := goodIn_r _ [15, 16, 17, 18, 19, 20, 21, 22, 9, 23, 11, 24, 25, 26, 27, 28, 29, 30, 31, 32, 33, 34, 35, 36, 37, 38, 39, 40, 41, 42, 43, 44, 45, 46, 47, 48, 49, 50, 51, 52, 53, 54, 55, 56, 57, 58, 59, 60, 61, 62, 63, 64, 75, 76, 77, 78, 79, 80, 81, 82, 83, 84, 85, 86, 87, 88, 89, 90, 91, 92, 93, 94, 95, 96] rfl (by decide +kernel)
set_option maxRecDepth 20000 in
theorem gX11_go_X1_standAt : GoodIn wsX11_go (wsV RX11 112 RX1 yX1_standAt wsX1_standAt) := goodIn_app (goodIn_of _ (by decide +kernel)) ggX11_go_X1_standAt
set_option maxRecDepth 20000 in
theorem ggX11_add_X7_isLegal : GoodIn wsX11_add wsX7_isLegal := goodIn_r _ [14, 15, 16, 17, 18, 19, 20, 21, 22, 23, 24, 25, 26, 27, 28, 29, 30, 31, 32, 33, 34, 35, 36, 37, 38, 39, 40, 41, 42, 43, 44, 45, 46, 47, 48, 49, 50, 13, 51, 52, 53, 54, 55, 56, 57, 58, 59, 60, 61, 62, 63, 64, 65, 66, 67, 68, 69, 70, 71, 72, 73, 74, 75, 76, 77, 78, 79, 80, 81, 82, 83, 84, 85, 86, 87, 88, 168, 169, 170, 171, 172, 173, 174, 175, 176] rfl (by decide +kernel)
set_option maxRecDepth 20000 in
theorem gX11_add_X7_isLegal : GoodIn wsX11_add (wsV RX11 140 RX7 yX7_isLegal wsX7_isLegal) := goodIn_app (goodIn_of _ (by decide +kernel)) ggX11_add_X7_isLegal
set_option maxRecDepth 20000 in
theorem ggX11_add_X1_childWith : GoodIn wsX11_add wsX1_childWith := goodIn_r _ [93, 94, 95, 96, 97, 98, 99, 92, 100, 101, 102, 103, 177, 178, 179, 180, 181, 182, 183, 160, 161, 162, 163, 164, 165, 166, 167] rfl (by decide +kernel)
set_option maxRecDepth 20000 in
theorem gX11_add_X1_childWith : GoodIn wsX11_add (wsV RX11 205 RX1 yX1_childWith wsX1_childWith) := goodIn_app (goodIn_of _ (by decide +kernel)) ggX11_add_X1_childWith
set_option maxRecDepth 20000 in
theorem ggX11_add_X1_deepOfNext : GoodIn wsX11_add wsX1_deepOfNext := goodIn_r _ [107, 94, 108, 97, 98, 99, 92, 100, 101, 102, 103, 109, 110, 111, 112, 177, 178, 179, 180, 181, 182, 183, 160, 161, 162, 163, 164, 165, 166, 167] rfl (by decide +kernel)
set_option maxRecDepth 20000 in
theorem gX11_add_X1_deepOfNext : GoodIn wsX11_add (wsV RX11 209 RX1 yX1_deepOfNext wsX1_deepOfNext) := goodIn_app (goodIn_of _ (by decide +kernel)) ggX11_add_X1_deepOfNext
set_option maxRecDepth 20000 in
theorem ggX11_add_X1_grow : GoodIn wsX11_add wsX1_grow := goodIn_r _ [116, 101, 94, 96, 102, 117, 118, 119, 97, 98, 99, 92, 100, 103, 120, 121, 122, 123, 124, 125, 126, 127, 128, 129, 130, 131, 132, 133, 134, 135, 136, 137, 138, 139, 140, 141, 142, 143, 144, 145, 146, 147, 148, 160, 161, 162, 163, 164, 165, 166, 167, 177, 178, 179, 180, 181, 182, 183, 184, 185] rfl (by decide +kernel)
set_option maxRecDepth 20000 in
theorem gX11_add_X1_grow : GoodIn wsX11_add (wsV RX11 217 RX1 yX1_grow wsX1_grow) := goodIn_app (goodIn_of _ (by decide +kernel)) ggX11_add_X1_grow
set_option maxRecDepth 20000 in
theorem ggX11_add_X0_play : GoodIn wsX11_add wsX0_play := goodIn_r _ [73, 30, 20, 21, 43, 69, 22, 23, 24, 18, 25, 35, 36, 37, 38, 74, 75, 76, 77, 67, 68, 78, 79, 80, 81, 82, 83, 84, 168, 169, 170, 171, 172, 173, 174] rfl (by decide +kernel)
set_option maxRecDepth 20000 in
theorem gX11_add_X0_play : GoodIn wsX11_add (wsV RX11 220 RX0 yX0_play wsX0_play) := goodIn_app (goodIn_of _ (by decide +kernel)) ggX11_add_X0_play
set_option maxRecDepth 20000 in
theorem ggX11_addMark_X1_at : GoodIn wsX11_addMark wsX1_at := goodIn_r _ [12, 13, 14, 15, 40, 41, 42, 43, 44, 45, 46, 47] rfl (by decide +kernel)
set_option maxRecDepth 20000 in
theorem gX11_addMark_X1_at : GoodIn wsX11_addMark (wsV RX11 124 RX1 yX1_at wsX1_at) := goodIn_app (goodIn_of _ (by decide +kernel)) ggX11_addMark_X1_at
set_option maxRecDepth 20000 in
theorem ggX11_addMark_X4_putMark : GoodIn wsX11_addMark wsX4_putMark := goodIn_r _ [20, 21, 22, 33, 34, 35, 36, 37, 38, 39] rfl (by decide +kernel)
set_option maxRecDepth 20000 in
theorem gX11_addMark_X4_putMark : GoodIn wsX11_addMark (wsV RX11 230 RX4 yX4_putMark wsX4_putMark) := goodIn_app (goodIn_of _ (by decide +kernel)) ggX11_addMark_X4_putMark
set_option maxRecDepth 20000 in
theorem ggX11_say_X6_size : GoodIn wsX11_say wsX6_size := goodIn_r _ [11, 12, 72, 73] rfl (by decide +kernel)
set_option maxRecDepth 20000 in
theorem gX11_say_X6_size : GoodIn wsX11_say (wsV RX11 75 RX6 yX6_size wsX6_size) := goodIn_app (goodIn_of _ (by decide +kernel)) ggX11_say_X6_size
set_option maxRecDepth 20000 in
theorem ggX11_say_X6_indexOf : GoodIn wsX11_say wsX6_indexOf := goodIn_r _ [16, 17, 18, 19, 20, 12, 21, 72, 73] rfl (by decide +kernel)
set_option maxRecDepth 20000 in
theorem gX11_say_X6_indexOf : GoodIn wsX11_say (wsV RX11 233 RX6 yX6_indexOf wsX6_indexOf) := goodIn_app (goodIn_of _ (by decide +kernel)) ggX11_say_X6_indexOf
set_option maxRecDepth 20000 in
theorem ggX11_say_X1_at : GoodIn wsX11_say wsX1_at := goodIn_r _ [26, 27, 28, 29, 74, 75, 76, 77, 78, 79, 80, 81] rfl (by decide +kernel)
set_option maxRecDepth 20000 in
theorem gX11_say_X1_at : GoodIn wsX11_say (wsV RX11 124 RX1 yX1_at wsX1_at) := goodIn_app (goodIn_of _ (by decide +kernel)) ggX11_say_X1_at
set_option maxRecDepth 20000 in
theorem ggX11_say_X6_copyFrom : GoodIn wsX11_say wsX6_copyFrom := goodIn_r _ [33, 12, 34, 35, 36, 10, 37, 38, 39, 40, 41, 21, 42, 43, 44, 45, 46, 47, 48, 49, 50, 72, 73] rfl (by decide +kernel)
set_option maxRecDepth 20000 in
theorem gX11_say_X6_copyFrom : GoodIn wsX11_say (wsV RX11 239 RX6 yX6_copyFrom wsX6_copyFrom) := goodIn_app (goodIn_of _ (by decide +kernel)) ggX11_say_X6_copyFrom
set_option maxRecDepth 20000 in
theorem ggX11_say_X6_keep : GoodIn wsX11_say wsX6_keep := goodIn_r _ [54, 12, 72, 73] rfl (by decide +kernel)
set_option maxRecDepth 20000 in
theorem gX11_say_X6_keep : GoodIn wsX11_say (wsV RX11 87 RX6 yX6_keep wsX6_keep) := goodIn_app (goodIn_of _ (by decide +kernel)) ggX11_say_X6_keep
set_option maxRecDepth 20000 in
theorem ggX11_lead_X1_goesOn : GoodIn wsX11_lead wsX1_goesOn := goodIn_r _ [9, 10, 11, 12, 13, 14, 8, 15, 16, 17, 18, 39, 40, 41, 42, 43, 44, 45, 46, 47, 48, 49, 50, 51, 52, 53] rfl (by decide +kernel)
set_option maxRecDepth 20000 in
theorem gX11_lead_X1_goesOn : GoodIn wsX11_lead (wsV RX11 244 RX1 yX1_goesOn wsX1_goesOn) := goodIn_app (goodIn_of _ (by decide +kernel)) ggX11_lead_X1_goesOn
set_option maxRecDepth 20000 in
theorem ggX11_lead_X1_mayLead : GoodIn wsX11_lead wsX1_mayLead := goodIn_r _ [22, 23, 16, 10, 11, 12, 13, 14, 8, 15, 17, 18, 46, 47, 48, 49, 50, 51, 52, 53, 39, 40, 41, 42, 43, 44, 45] rfl (by decide +kernel)
set_option maxRecDepth 20000 in
theorem gX11_lead_X1_mayLead : GoodIn wsX11_lead (wsV RX11 247 RX1 yX1_mayLead wsX1_mayLead) := goodIn_app (goodIn_of _ (by decide +kernel)) ggX11_lead_X1_mayLead
set_option maxRecDepth 20000 in
theorem ggX11_lead_X1_putFirst : GoodIn wsX11_lead wsX1_putFirst := goodIn_r _ [27, 10, 11, 28, 12, 13, 14, 8, 15, 16, 17, 18, 39, 40, 41, 42, 43, 44, 45, 46, 47, 48, 49, 50, 51, 52, 53] rfl (by decide +kernel)
set_option maxRecDepth 20000 in
theorem gX11_lead_X1_putFirst : GoodIn wsX11_lead (wsV RX11 252 RX1 yX1_putFirst wsX1_putFirst) := goodIn_app (goodIn_of _ (by decide +kernel)) ggX11_lead_X1_putFirst
set_option maxRecDepth 20000 in
theorem ggX11_tag_X1_tagAt : GoodIn wsX11_tag wsX1_tagAt := goodIn_r _ [11, 12, 13, 14, 15, 16, 17, 18, 19, 20, 21, 22, 23, 24, 25, 26, 27, 28, 29, 30, 31, 32, 47, 48, 49, 50, 51, 52, 53, 54, 55, 56, 57, 58] rfl (by decide +kernel)
set_option maxRecDepth 20000 in
theorem gX11_tag_X1_tagAt : GoodIn wsX11_tag (wsV RX11 265 RX1 yX1_tagAt wsX1_tagAt) := goodIn_app (goodIn_of _ (by decide +kernel)) ggX11_tag_X1_tagAt
set_option maxRecDepth 20000 in
theorem ggX11_tag_X6_at : GoodIn wsX11_tag wsX6_at := goodIn_r _ [36, 32, 31, 57, 58] rfl (by decide +kernel)
set_option maxRecDepth 20000 in
theorem gX11_tag_X6_at : GoodIn wsX11_tag (wsV RX11 155 RX6 yX6_at wsX6_at) := goodIn_app (goodIn_of _ (by decide +kernel)) ggX11_tag_X6_at
end
