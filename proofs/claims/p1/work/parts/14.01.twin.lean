def d_X0_init_0 (x0 : Nat) (S : ZS) : Option (Int32 × ZS) :=
  m_chk (¬ (64 : Int32) < 0 ∧ ((64 : Int32)).toNatClampNeg * componentBytes .int ≤ 536870912) (
  m_bnd (zt S) (fun q1 =>
  m_bnd (zsNewA S q1 14 ((64 : Int32)).toNatClampNeg) (fun S2 =>
  m_chk (x0 ∈ zL S2 ∧ zK S2 x0 = 0) (
  m_bnd (zsP S2 0 x0 (some q1)) (fun S5 =>
  m_chk (x0 ∈ zL S5 ∧ zK S5 x0 = 0) (
  m_bnd (zsI S5 1 x0 (4 : Int32)) (fun S6 =>
  m_chk (x0 ∈ zL S6 ∧ zK S6 x0 = 0) (
  m_bnd (zsI S6 2 x0 (60 : Int32)) (fun S7 =>
  m_chk (x0 ∈ zL S7 ∧ zK S7 x0 = 0) (
  m_bnd (zsI S7 3 x0 (0 : Int32)) (fun S8 =>
  m_chk (x0 ∈ zL S8 ∧ zK S8 x0 = 0) (
  m_bnd (zsI S8 4 x0 (0 : Int32)) (fun S9 =>
  m_chk (x0 ∈ zL S9 ∧ zK S9 x0 = 0) (
  m_bnd (zsI S9 5 x0 (-1 : Int32)) (fun S10 =>
  m_chk (x0 ∈ zL S10 ∧ zK S10 x0 = 0) (
  m_bnd (zsI S10 6 x0 (1 : Int32)) (fun S11 =>
  some (0, S11))))))))))))))))))
theorem tt_X0_init_0 {Pw : Int32 → ZS → Prop}   {x0 : Nat} {S : ZS} : Tw Pw (d_X0_init_0 x0 S) (zt S) (zu S) (fun C T => g_X0_init_0 Pw x0 S C T) := by
  unfold d_X0_init_0 g_X0_init_0
  refine tw_chk (fun _ => ?_)
  refine tw_new (fun _ => ⟨congrArg (· + 1) (⟨rfl, rfl⟩ : zt S = zt S ∧ zu S = zu S).1, congrArg (· + _) (⟨rfl, rfl⟩ : zt S = zt S ∧ zu S = zu S).2⟩) (fun q1 S2 cS2 => ?_)
  refine tw_chk (fun _ => ?_)
  refine tw_bnds cS2 (fun S5 cS5 => ?_)
  refine tw_chk (fun _ => ?_)
  refine tw_bnds cS5 (fun S6 cS6 => ?_)
  refine tw_chk (fun _ => ?_)
  refine tw_bnds cS6 (fun S7 cS7 => ?_)
  refine tw_chk (fun _ => ?_)
  refine tw_bnds cS7 (fun S8 cS8 => ?_)
  refine tw_chk (fun _ => ?_)
  refine tw_bnds cS8 (fun S9 cS9 => ?_)
  refine tw_chk (fun _ => ?_)
  refine tw_bnds cS9 (fun S10 cS10 => ?_)
  refine tw_chk (fun _ => ?_)
  refine tw_bnds cS10 (fun S11 cS11 => ?_)
  exact tw_ret cS11
def d_X0_init (x0 : Nat) (S : ZS) : Option (Int32 × ZS) := d_X0_init_0 x0 S
theorem tt_X0_init {Pw : Int32 → ZS → Prop} {x0 : Nat} {S : ZS} : Tw Pw (d_X0_init x0 S) (zt S) (zu S) (fun C T => g_X0_init x0 S C T Pw) := tt_X0_init_0
def d_X4_init_0 (x0 : Nat) (S : ZS) : Option (Int32 × ZS) :=
  m_chk (x0 ∈ zL S ∧ zK S x0 = 4) (
  m_bnd (zsI S 0 x0 (-1 : Int32)) (fun S1 =>
  m_chk (x0 ∈ zL S1 ∧ zK S1 x0 = 4) (
  m_bnd (zsI S1 1 x0 (-1 : Int32)) (fun S2 =>
  m_chk (x0 ∈ zL S2 ∧ zK S2 x0 = 4) (
  m_bnd (zsI S2 2 x0 (-1 : Int32)) (fun S3 =>
  m_chk (x0 ∈ zL S3 ∧ zK S3 x0 = 4) (
  m_bnd (zsI S3 3 x0 (-1 : Int32)) (fun S4 =>
  m_chk (x0 ∈ zL S4 ∧ zK S4 x0 = 4) (
  m_bnd (zsI S4 4 x0 (0 : Int32)) (fun S5 =>
  m_chk (x0 ∈ zL S5 ∧ zK S5 x0 = 4) (
  m_bnd (zsI S5 5 x0 (0 : Int32)) (fun S6 =>
  m_bnd (zt S6) (fun q7 =>
  m_bnd (zsNewO S6 q7 6 2) (fun S8 =>
  m_cal (f_X6_init q7 S8) (fun o11 => m_chk (zt o11.2 = zt S8 ∧ zu o11.2 = zu S8) (
  m_chk (x0 ∈ zL o11.2 ∧ zK o11.2 x0 = 4) (
  m_bnd (zsP o11.2 6 x0 (some q7)) (fun S12 =>
  some (0, S12)))))))))))))))))))
theorem tt_X4_init_0 {Pw : Int32 → ZS → Prop}   {x0 : Nat} {S : ZS} : Tw Pw (d_X4_init_0 x0 S) (zt S) (zu S) (fun C T => g_X4_init_0 Pw x0 S C T) := by
  unfold d_X4_init_0 g_X4_init_0
  refine tw_chk (fun _ => ?_)
  refine tw_bnds (⟨rfl, rfl⟩ : zt S = zt S ∧ zu S = zu S) (fun S1 cS1 => ?_)
  refine tw_chk (fun _ => ?_)
  refine tw_bnds cS1 (fun S2 cS2 => ?_)
  refine tw_chk (fun _ => ?_)
  refine tw_bnds cS2 (fun S3 cS3 => ?_)
  refine tw_chk (fun _ => ?_)
  refine tw_bnds cS3 (fun S4 cS4 => ?_)
  refine tw_chk (fun _ => ?_)
  refine tw_bnds cS4 (fun S5 cS5 => ?_)
  refine tw_chk (fun _ => ?_)
  refine tw_bnds cS5 (fun S6 cS6 => ?_)
  refine tw_new (fun _ => ⟨congrArg (· + 1) cS6.1, congrArg (· + _) cS6.2⟩) (fun q7 S8 cS8 => ?_)
  refine tw_calf cS8 (fun o11 co11 => ?_)
  refine tw_chk (fun _ => ?_)
  refine tw_bnds co11 (fun S12 cS12 => ?_)
  exact tw_ret cS12
def d_X4_init (x0 : Nat) (S : ZS) : Option (Int32 × ZS) := d_X4_init_0 x0 S
theorem tt_X4_init {Pw : Int32 → ZS → Prop} {x0 : Nat} {S : ZS} : Tw Pw (d_X4_init x0 S) (zt S) (zu S) (fun C T => g_X4_init x0 S C T Pw) := tt_X4_init_0
def d_X1_init_0 (x0 : Nat) (S : ZS) : Option (Int32 × ZS) :=
  m_bnd (zt S) (fun q1 =>
  m_bnd (zsNewO S q1 0 7) (fun S2 =>
  m_cal2 (d_X0_init q1 S2) (fun r6 S7 =>
  m_chk (x0 ∈ zL S7 ∧ zK S7 x0 = 1) (
  m_bnd (zsP S7 0 x0 (some q1)) (fun S10 =>
  m_bnd (zt S10) (fun q11 =>
  m_bnd (zsNewO S10 q11 4 7) (fun S12 =>
  m_cal2 (d_X4_init q11 S12) (fun r16 S17 =>
  m_chk (x0 ∈ zL S17 ∧ zK S17 x0 = 1) (
  m_bnd (zsP S17 1 x0 (some q11)) (fun S20 =>
  m_chk (¬ (301 : Int32) < 0 ∧ ((301 : Int32)).toNatClampNeg * 4 ≤ 536870912) (
  m_bnd (zt S20) (fun q21 =>
  m_bnd (zsNewA S20 q21 16 ((301 : Int32)).toNatClampNeg) (fun S22 =>
  m_chk (x0 ∈ zL S22 ∧ zK S22 x0 = 1) (
  m_bnd (zsP S22 2 x0 (some q21)) (fun S25 =>
  m_chk (x0 ∈ zL S25 ∧ zK S25 x0 = 1) (
  m_bnd (zsI S25 3 x0 (0 : Int32)) (fun S26 =>
  m_chk (¬ (8 : Int32) < 0 ∧ ((8 : Int32)).toNatClampNeg * 4 ≤ 536870912) (
  m_bnd (zt S26) (fun q27 =>
  m_bnd (zsNewA S26 q27 17 ((8 : Int32)).toNatClampNeg) (fun S28 =>
  m_chk (x0 ∈ zL S28 ∧ zK S28 x0 = 1) (
  m_bnd (zsP S28 4 x0 (some q27)) (fun S31 =>
  m_chk (x0 ∈ zL S31 ∧ zK S31 x0 = 1) (
  m_bnd (zsI S31 5 x0 (0 : Int32)) (fun S32 =>
  m_chk (x0 ∈ zL S32 ∧ zK S32 x0 = 1) (
  m_bnd (zsI S32 6 x0 (0 : Int32)) (fun S33 =>
  m_chk (¬ (301 : Int32) < 0 ∧ ((301 : Int32)).toNatClampNeg * componentBytes .int ≤ 536870912) (
  m_bnd (zt S33) (fun q34 =>
  m_bnd (zsNewA S33 q34 14 ((301 : Int32)).toNatClampNeg) (fun S35 =>
  m_chk (x0 ∈ zL S35 ∧ zK S35 x0 = 1) (
  m_bnd (zsP S35 7 x0 (some q34)) (fun S38 =>
  m_chk (x0 ∈ zL S38 ∧ zK S38 x0 = 1) (
  m_cal (zP S38 0 x0) (fun b39 =>
  m_chk (b39 ∈ zL S38 ∧ zK S38 b39 = 0) (
  m_cal (f_X0_setUp b39 S38) (fun o40 => m_chk (zt o40.2 = zt S38 ∧ zu o40.2 = zu S38) (
  some (0, o40.2)))))))))))))))))))))))))))))))))))))
theorem tt_X1_init_0 {Pw : Int32 → ZS → Prop}   {x0 : Nat} {S : ZS} : Tw Pw (d_X1_init_0 x0 S) (zt S) (zu S) (fun C T => g_X1_init_0 Pw x0 S C T) := by
  unfold d_X1_init_0 g_X1_init_0
  refine tw_new (fun _ => ⟨congrArg (· + 1) (⟨rfl, rfl⟩ : zt S = zt S ∧ zu S = zu S).1, congrArg (· + _) (⟨rfl, rfl⟩ : zt S = zt S ∧ zu S = zu S).2⟩) (fun q1 S2 cS2 => ?_)
  refine tw_gal (fun Pw9 => tw_at cS2 tt_X0_init) (fun r6 S7 => ?_)
  refine tw_chk (fun _ => ?_)
  refine tw_bnds (⟨rfl, rfl⟩ : zt S7 = zt S7 ∧ zu S7 = zu S7) (fun S10 cS10 => ?_)
  refine tw_new (fun _ => ⟨congrArg (· + 1) cS10.1, congrArg (· + _) cS10.2⟩) (fun q11 S12 cS12 => ?_)
  refine tw_gal (fun Pw9 => tw_at cS12 tt_X4_init) (fun r16 S17 => ?_)
  refine tw_chk (fun _ => ?_)
  refine tw_bnds (⟨rfl, rfl⟩ : zt S17 = zt S17 ∧ zu S17 = zu S17) (fun S20 cS20 => ?_)
  refine tw_chk (fun _ => ?_)
  refine tw_new (fun _ => ⟨congrArg (· + 1) cS20.1, congrArg (· + _) cS20.2⟩) (fun q21 S22 cS22 => ?_)
  refine tw_chk (fun _ => ?_)
  refine tw_bnds cS22 (fun S25 cS25 => ?_)
  refine tw_chk (fun _ => ?_)
  refine tw_bnds cS25 (fun S26 cS26 => ?_)
  refine tw_chk (fun _ => ?_)
  refine tw_new (fun _ => ⟨congrArg (· + 1) cS26.1, congrArg (· + _) cS26.2⟩) (fun q27 S28 cS28 => ?_)
  refine tw_chk (fun _ => ?_)
  refine tw_bnds cS28 (fun S31 cS31 => ?_)
  refine tw_chk (fun _ => ?_)
  refine tw_bnds cS31 (fun S32 cS32 => ?_)
  refine tw_chk (fun _ => ?_)
  refine tw_bnds cS32 (fun S33 cS33 => ?_)
  refine tw_chk (fun _ => ?_)
  refine tw_new (fun _ => ⟨congrArg (· + 1) cS33.1, congrArg (· + _) cS33.2⟩) (fun q34 S35 cS35 => ?_)
  refine tw_chk (fun _ => ?_)
  refine tw_bnds cS35 (fun S38 cS38 => ?_)
  refine tw_chk (fun _ => ?_)
  refine tw_calv (fun b39 => ?_)
  refine tw_chk (fun _ => ?_)
  refine tw_calf cS38 (fun o40 co40 => ?_)
  exact tw_ret co40
def d_X1_init (x0 : Nat) (S : ZS) : Option (Int32 × ZS) := d_X1_init_0 x0 S
theorem tt_X1_init {Pw : Int32 → ZS → Prop} {x0 : Nat} {S : ZS} : Tw Pw (d_X1_init x0 S) (zt S) (zu S) (fun C T => g_X1_init x0 S C T Pw) := tt_X1_init_0
def d_X1_grow_147 (x0 : Nat) (S : ZS) : Option (Int32 × ZS) :=
  m_chk (x0 ∈ zL S ∧ zK S x0 = 1) (
  some ((zI S 3 x0), S))
theorem tt_X1_grow_147 {Pw : Int32 → ZS → Prop}   {x0 : Nat} {S : ZS} : Tw Pw (d_X1_grow_147 x0 S) (zt S) (zu S) (fun C T => g_X1_grow_147 Pw x0 S C T) := by
  unfold d_X1_grow_147 g_X1_grow_147
  refine tw_chk (fun _ => ?_)
  exact tw_ret (⟨rfl, rfl⟩ : zt S = zt S ∧ zu S = zu S)
def d_X1_grow_102 (x0 : Nat) (x1 : Int32) (x2 : Int32) (x3 : Int32) (S : ZS) : Option (Int32 × ZS) :=
  m_chk (x0 ∈ zL S ∧ zK S x0 = 1) (
  m_chk (x0 ∈ zL S ∧ zK S x0 = 1) (
  m_cal (f_X1_at x0 (zI S 3 x0) S) (fun o1 => m_chk (zt o1.2 = zt S ∧ zu o1.2 = zu S) (
  m_chk (o1.1 ∈ zL o1.2 ∧ zK o1.2 o1.1 = 4) (
  m_cal (f_X4_become o1.1 x1 x2 o1.2) (fun o2 => m_chk (zt o2.2 = zt o1.2 ∧ zu o2.2 = zu o1.2) (
  m_if (x3 = (-1 : Int32)) (
  m_chk (x0 ∈ zL o2.2 ∧ zK o2.2 x0 = 1) (
  m_cal (f_X1_at x0 x1 o2.2) (fun o5 => m_chk (zt o5.2 = zt o2.2 ∧ zu o5.2 = zu o2.2) (
  m_chk (x0 ∈ zL o5.2 ∧ zK o5.2 x0 = 1) (
  m_chk (o5.1 ∈ zL o5.2 ∧ zK o5.2 o5.1 = 4) (
  m_bnd (zsI o5.2 2 o5.1 (zI o5.2 3 x0)) (fun S6 =>
  d_X1_grow_147 x0 S6))))))
  ) (
  m_chk (x0 ∈ zL o2.2 ∧ zK o2.2 x0 = 1) (
  m_cal (f_X1_at x0 x3 o2.2) (fun o3 => m_chk (zt o3.2 = zt o2.2 ∧ zu o3.2 = zu o2.2) (
  m_chk (x0 ∈ zL o3.2 ∧ zK o3.2 x0 = 1) (
  m_chk (o3.1 ∈ zL o3.2 ∧ zK o3.2 o3.1 = 4) (
  m_bnd (zsI o3.2 3 o3.1 (zI o3.2 3 x0)) (fun S4 =>
  d_X1_grow_147 x0 S4))))))
  ))))))))
theorem tt_X1_grow_102 {Pw : Int32 → ZS → Prop}   {x0 : Nat} {x1 : Int32} {x2 : Int32} {x3 : Int32} {S : ZS} : Tw Pw (d_X1_grow_102 x0 x1 x2 x3 S) (zt S) (zu S) (fun C T => g_X1_grow_102 Pw x0 x1 x2 x3 S C T) := by
  unfold d_X1_grow_102 g_X1_grow_102
  refine tw_chk (fun _ => ?_)
  refine tw_chk (fun _ => ?_)
  refine tw_calf (⟨rfl, rfl⟩ : zt S = zt S ∧ zu S = zu S) (fun o1 co1 => ?_)
  refine tw_chk (fun _ => ?_)
  refine tw_calf co1 (fun o2 co2 => ?_)
  refine tw_if (fun _ => ?_) (fun _ => ?_)
  ·
    refine tw_chk (fun _ => ?_)
    refine tw_calf co2 (fun o5 co5 => ?_)
    refine tw_chk (fun _ => ?_)
    refine tw_chk (fun _ => ?_)
    refine tw_bnds co5 (fun S6 cS6 => ?_)
    exact tw_at cS6 (tt_X1_grow_147)
  ·
    refine tw_chk (fun _ => ?_)
    refine tw_calf co2 (fun o3 co3 => ?_)
    refine tw_chk (fun _ => ?_)
    refine tw_chk (fun _ => ?_)
    refine tw_bnds co3 (fun S4 cS4 => ?_)
    exact tw_at cS4 (tt_X1_grow_147)
def d_X1_grow_64 (x0 : Nat) (x1 : Int32) (x2 : Int32) (x3 : Int32) (S : ZS) : Option (Int32 × ZS) :=
  m_chk (x0 ∈ zL S ∧ zK S x0 = 1) (
  m_bnd ((zI S 3 x0) + (1 : Int32)) (fun v1 =>
  m_chk (x0 ∈ zL S ∧ zK S x0 = 1) (
  m_bnd (zsI S 3 x0 v1) (fun S2 =>
  m_chk (x0 ∈ zL S2 ∧ zK S2 x0 = 1) (
  m_cal (zP S2 2 x0) (fun b3 =>
  m_chk (x0 ∈ zL S2 ∧ zK S2 x0 = 1) (
  m_chk (b3 ∈ zL S2 ∧ zK S2 b3 = 16) (
  m_chk (¬ ((zI S2 3 x0) < 0 ∨ zN S2 b3 ≤ ((zI S2 3 x0)).toNatClampNeg)) (
  m_bnd (zB S2 b3 ((zI S2 3 x0)).toNatClampNeg) (fun v4 =>
  m_opt v4 (
  m_chk (x0 ∈ zL S2 ∧ zK S2 x0 = 1) (
  m_cal (zP S2 2 x0) (fun b6 =>
  m_chk (x0 ∈ zL S2 ∧ zK S2 x0 = 1) (
  m_bnd (zt S2) (fun q7 =>
  m_bnd (zsNewO S2 q7 4 7) (fun S8 =>
  m_cal2 (d_X4_init q7 S8) (fun r12 S13 =>
  m_chk (b6 ∈ zL S13 ∧ zK S13 b6 = 16) (
  m_chk (q7 ∈ zL S13 ∧ zK S13 q7 = 4) (
  m_chk (¬ ((zI S2 3 x0) < 0 ∨ zN S13 b6 ≤ ((zI S2 3 x0)).toNatClampNeg)) (
  m_bnd (zsB S13 b6 ((zI S2 3 x0)).toNatClampNeg (some q7)) (fun S16 =>
  d_X1_grow_102 x0 x1 x2 x3 S16))))))))))) (fun b5 =>
  d_X1_grow_102 x0 x1 x2 x3 S2)))))))))))
theorem tt_X1_grow_64 {Pw : Int32 → ZS → Prop}   {x0 : Nat} {x1 : Int32} {x2 : Int32} {x3 : Int32} {S : ZS} : Tw Pw (d_X1_grow_64 x0 x1 x2 x3 S) (zt S) (zu S) (fun C T => g_X1_grow_64 Pw x0 x1 x2 x3 S C T) := by
  unfold d_X1_grow_64 g_X1_grow_64
  refine tw_chk (fun _ => ?_)
  refine tw_bndv (fun v1 => ?_)
  refine tw_chk (fun _ => ?_)
  refine tw_bnds (⟨rfl, rfl⟩ : zt S = zt S ∧ zu S = zu S) (fun S2 cS2 => ?_)
  refine tw_chk (fun _ => ?_)
  refine tw_calv (fun b3 => ?_)
  refine tw_chk (fun _ => ?_)
  refine tw_chk (fun _ => ?_)
  refine tw_chk (fun _ => ?_)
  refine tw_bndv (fun v4 => ?_)
  refine tw_opt ?_ (fun b5 => ?_)
  ·
    refine tw_chk (fun _ => ?_)
    refine tw_calv (fun b6 => ?_)
    refine tw_chk (fun _ => ?_)
    refine tw_new (fun _ => ⟨congrArg (· + 1) cS2.1, congrArg (· + _) cS2.2⟩) (fun q7 S8 cS8 => ?_)
    refine tw_gal (fun Pw9 => tw_at cS8 tt_X4_init) (fun r12 S13 => ?_)
    refine tw_chk (fun _ => ?_)
    refine tw_chk (fun _ => ?_)
    refine tw_chk (fun _ => ?_)
    refine tw_bnds (⟨rfl, rfl⟩ : zt S13 = zt S13 ∧ zu S13 = zu S13) (fun S16 cS16 => ?_)
    exact tw_at cS16 (tt_X1_grow_102)
  ·
    exact tw_at cS2 (tt_X1_grow_102)
def d_X1_grow_24s (self24 : Nat → Int32 → Int32 → Int32 → Int32 → ZS → Option (Int32 × ZS)) (x0 : Nat) (x1 : Int32) (x2 : Int32) (x3 : Int32) (x4 : Int32) (S : ZS) : Option (Int32 × ZS) :=
  m_if ((300 : Int32) ≤ x4) (
  d_X1_grow_64 x0 x1 x2 x3 S
  ) (
  m_if (x3 = (-1 : Int32)) (
  d_X1_grow_64 x0 x1 x2 x3 S
  ) (
  m_chk (x0 ∈ zL S ∧ zK S x0 = 1) (
  m_cal (f_X1_at x0 x3 S) (fun o1 => m_chk (zt o1.2 = zt S ∧ zu o1.2 = zu S) (
  m_chk (o1.1 ∈ zL o1.2 ∧ zK o1.2 o1.1 = 4) (
  m_if ((zI o1.2 3 o1.1) = (-1 : Int32)) (
  d_X1_grow_64 x0 x1 x2 x3 o1.2
  ) (
  m_chk (x0 ∈ zL o1.2 ∧ zK o1.2 x0 = 1) (
  m_cal (f_X1_at x0 x3 o1.2) (fun o2 => m_chk (zt o2.2 = zt o1.2 ∧ zu o2.2 = zu o1.2) (
  m_chk (o2.1 ∈ zL o2.2 ∧ zK o2.2 o2.1 = 4) (
  m_bnd (x4 + (1 : Int32)) (fun v3 =>
  self24 x0 x1 x2 (zI o2.2 3 o2.1) v3 o2.2)))))
  )))))
  )
  )
theorem tt_X1_grow_24s {Pw : Int32 → ZS → Prop} {self24 : Nat → Int32 → Int32 → Int32 → Int32 → ZS → Option (Int32 × ZS)} {self24g : Nat → Int32 → Int32 → Int32 → Int32 → ZS → Nat → Nat → Prop} (hself24 : ∀ (y0 : Nat) (y1 : Int32) (y2 : Int32) (y3 : Int32) (y4 : Int32) (S : ZS), Tw Pw (self24 y0 y1 y2 y3 y4 S) (zt S) (zu S) (fun C T => self24g y0 y1 y2 y3 y4 S C T)) {x0 : Nat} {x1 : Int32} {x2 : Int32} {x3 : Int32} {x4 : Int32} {S : ZS} : Tw Pw (d_X1_grow_24s self24 x0 x1 x2 x3 x4 S) (zt S) (zu S) (fun C T => g_X1_grow_24s Pw self24g x0 x1 x2 x3 x4 S C T) := by
  unfold d_X1_grow_24s g_X1_grow_24s
  refine tw_if (fun _ => ?_) (fun _ => ?_)
  ·
    exact tw_at (⟨rfl, rfl⟩ : zt S = zt S ∧ zu S = zu S) (tt_X1_grow_64)
  ·
    refine tw_if (fun _ => ?_) (fun _ => ?_)
    ·
      exact tw_at (⟨rfl, rfl⟩ : zt S = zt S ∧ zu S = zu S) (tt_X1_grow_64)
    ·
      refine tw_chk (fun _ => ?_)
      refine tw_calf (⟨rfl, rfl⟩ : zt S = zt S ∧ zu S = zu S) (fun o1 co1 => ?_)
      refine tw_chk (fun _ => ?_)
      refine tw_if (fun _ => ?_) (fun _ => ?_)
      ·
        exact tw_at co1 (tt_X1_grow_64)
      ·
        refine tw_chk (fun _ => ?_)
        refine tw_calf co1 (fun o2 co2 => ?_)
        refine tw_chk (fun _ => ?_)
        refine tw_bndv (fun v3 => ?_)
        exact tw_at co2 (hself24 _ _ _ _ _ _)
def d_X1_grow_24  : Nat → Nat → Int32 → Int32 → Int32 → Int32 → ZS → Option (Int32 × ZS)
  | 0 => fun _ _ _ _ _ _ => none
  | n + 1 => d_X1_grow_24s  (d_X1_grow_24  n)
theorem tt_X1_grow_24 {Pw : Int32 → ZS → Prop}   {n : Nat} : ∀ {z0 : Nat} {z1 : Int32} {z2 : Int32} {z3 : Int32} {z4 : Int32} {S : ZS}, Tw Pw (d_X1_grow_24  n z0 z1 z2 z3 z4 S) (zt S) (zu S) (fun C T => g_X1_grow_24 Pw  n z0 z1 z2 z3 z4 S C T) := by
  induction n with
  | zero => intro z0 z1 z2 z3 z4 S; exact tw_none
  | succ n ih => intro z0 z1 z2 z3 z4 S; exact tt_X1_grow_24s  (fun _ _ _ _ _ _ => ih)
def d_X1_grow_0 (x0 : Nat) (x1 : Int32) (x2 : Int32) (S : ZS) : Option (Int32 × ZS) :=
  m_chk (x0 ∈ zL S ∧ zK S x0 = 1) (
  m_if ((zI S 3 x0) < (300 : Int32)) (
  m_chk (x0 ∈ zL S ∧ zK S x0 = 1) (
  m_cal (f_X1_at x0 x1 S) (fun o1 => m_chk (zt o1.2 = zt S ∧ zu o1.2 = zu S) (
  m_chk (o1.1 ∈ zL o1.2 ∧ zK o1.2 o1.1 = 4) (
  d_X1_grow_24 mFuel x0 x1 x2 (zI o1.2 2 o1.1) (0 : Int32) o1.2))))
  ) (
  some ((-1 : Int32), S)
  ))
theorem tt_X1_grow_0 {Pw : Int32 → ZS → Prop}   {x0 : Nat} {x1 : Int32} {x2 : Int32} {S : ZS} : Tw Pw (d_X1_grow_0 x0 x1 x2 S) (zt S) (zu S) (fun C T => g_X1_grow_0 Pw x0 x1 x2 S C T) := by
  unfold d_X1_grow_0 g_X1_grow_0
  refine tw_chk (fun _ => ?_)
  refine tw_if (fun _ => ?_) (fun _ => ?_)
  ·
    refine tw_chk (fun _ => ?_)
    refine tw_calf (⟨rfl, rfl⟩ : zt S = zt S ∧ zu S = zu S) (fun o1 co1 => ?_)
    refine tw_chk (fun _ => ?_)
    exact tw_at co1 (tt_X1_grow_24)
  ·
    exact tw_ret (⟨rfl, rfl⟩ : zt S = zt S ∧ zu S = zu S)
def d_X1_grow (x0 : Nat) (x1 : Int32) (x2 : Int32) (S : ZS) : Option (Int32 × ZS) := d_X1_grow_0 x0 x1 x2 S
theorem tt_X1_grow {Pw : Int32 → ZS → Prop} {x0 : Nat} {x1 : Int32} {x2 : Int32} {S : ZS} : Tw Pw (d_X1_grow x0 x1 x2 S) (zt S) (zu S) (fun C T => g_X1_grow x0 x1 x2 S C T Pw) := tt_X1_grow_0
def d_X10_init_0 (x0 : Nat) (S : ZS) : Option (Int32 × ZS) :=
  m_bnd (zt S) (fun q1 =>
  m_bnd (zsNewO S q1 6 2) (fun S2 =>
  m_cal (f_X6_init q1 S2) (fun o5 => m_chk (zt o5.2 = zt S2 ∧ zu o5.2 = zu S2) (
  m_chk (x0 ∈ zL o5.2 ∧ zK o5.2 x0 = 10) (
  m_bnd (zsP o5.2 0 x0 (some q1)) (fun S6 =>
  m_bnd (zt S6) (fun q7 =>
  m_bnd (zsNewO S6 q7 6 2) (fun S8 =>
  m_cal (f_X6_init q7 S8) (fun o11 => m_chk (zt o11.2 = zt S8 ∧ zu o11.2 = zu S8) (
  m_chk (x0 ∈ zL o11.2 ∧ zK o11.2 x0 = 10) (
  m_bnd (zsP o11.2 1 x0 (some q7)) (fun S12 =>
  some (0, S12)))))))))))))
theorem tt_X10_init_0 {Pw : Int32 → ZS → Prop}   {x0 : Nat} {S : ZS} : Tw Pw (d_X10_init_0 x0 S) (zt S) (zu S) (fun C T => g_X10_init_0 Pw x0 S C T) := by
  unfold d_X10_init_0 g_X10_init_0
  refine tw_new (fun _ => ⟨congrArg (· + 1) (⟨rfl, rfl⟩ : zt S = zt S ∧ zu S = zu S).1, congrArg (· + _) (⟨rfl, rfl⟩ : zt S = zt S ∧ zu S = zu S).2⟩) (fun q1 S2 cS2 => ?_)
  refine tw_calf cS2 (fun o5 co5 => ?_)
  refine tw_chk (fun _ => ?_)
  refine tw_bnds co5 (fun S6 cS6 => ?_)
  refine tw_new (fun _ => ⟨congrArg (· + 1) cS6.1, congrArg (· + _) cS6.2⟩) (fun q7 S8 cS8 => ?_)
  refine tw_calf cS8 (fun o11 co11 => ?_)
  refine tw_chk (fun _ => ?_)
  refine tw_bnds co11 (fun S12 cS12 => ?_)
  exact tw_ret cS12
def d_X10_init (x0 : Nat) (S : ZS) : Option (Int32 × ZS) := d_X10_init_0 x0 S
theorem tt_X10_init {Pw : Int32 → ZS → Prop} {x0 : Nat} {S : ZS} : Tw Pw (d_X10_init x0 S) (zt S) (zu S) (fun C T => g_X10_init x0 S C T Pw) := tt_X10_init_0
def d_X1_tagAt_38 (t0 : Option Nat) (S : ZS) : Option (Nat × ZS) :=
  m_cal t0 (fun b1 =>
  some (b1, S))
theorem tt_X1_tagAt_38 {Pw : Nat → ZS → Prop}   {t0 : Option Nat} {S : ZS} : Tw Pw (d_X1_tagAt_38 t0 S) (zt S) (zu S) (fun C T => g_X1_tagAt_38 Pw t0 S C T) := by
  unfold d_X1_tagAt_38 g_X1_tagAt_38
  refine tw_calv (fun b1 => ?_)
  exact tw_ret (⟨rfl, rfl⟩ : zt S = zt S ∧ zu S = zu S)
def d_X1_tagAt_22 (t0 : Option Nat) (S : ZS) : Option (Nat × ZS) :=
  m_opt t0 (
  m_bnd (zt S) (fun q2 =>
  m_bnd (zsNewO S q2 10 2) (fun S3 =>
  m_cal2 (d_X10_init q2 S3) (fun r7 S8 =>
  d_X1_tagAt_38 (some q2) S8)))) (fun b1 =>
  d_X1_tagAt_38 (some b1) S)
theorem tt_X1_tagAt_22 {Pw : Nat → ZS → Prop}   {t0 : Option Nat} {S : ZS} : Tw Pw (d_X1_tagAt_22 t0 S) (zt S) (zu S) (fun C T => g_X1_tagAt_22 Pw t0 S C T) := by
  unfold d_X1_tagAt_22 g_X1_tagAt_22
  refine tw_opt ?_ (fun b1 => ?_)
  ·
    refine tw_new (fun _ => ⟨congrArg (· + 1) (⟨rfl, rfl⟩ : zt S = zt S ∧ zu S = zu S).1, congrArg (· + _) (⟨rfl, rfl⟩ : zt S = zt S ∧ zu S = zu S).2⟩) (fun q2 S3 cS3 => ?_)
    refine tw_gal (fun Pw9 => tw_at cS3 tt_X10_init) (fun r7 S8 => ?_)
    exact tw_at (⟨rfl, rfl⟩ : zt S8 = zt S8 ∧ zu S8 = zu S8) (tt_X1_tagAt_38)
  ·
    exact tw_at (⟨rfl, rfl⟩ : zt S = zt S ∧ zu S = zu S) (tt_X1_tagAt_38)
def d_X1_tagAt_21 (S : ZS) : Option (Nat × ZS) :=
  d_X1_tagAt_22 none S
theorem tt_X1_tagAt_21 {Pw : Nat → ZS → Prop}   {S : ZS} : Tw Pw (d_X1_tagAt_21 S) (zt S) (zu S) (fun C T => g_X1_tagAt_21 Pw S C T) := by
  unfold d_X1_tagAt_21 g_X1_tagAt_21
  exact tw_at (⟨rfl, rfl⟩ : zt S = zt S ∧ zu S = zu S) (tt_X1_tagAt_22)
def d_X1_tagAt_0 (x0 : Nat) (x1 : Int32) (S : ZS) : Option (Nat × ZS) :=
  m_if (x1 < 0) (
  d_X1_tagAt_21 S
  ) (
  m_chk (x0 ∈ zL S ∧ zK S x0 = 1) (
  m_if ((zI S 5 x0) ≤ x1) (
  d_X1_tagAt_21 S
  ) (
  m_chk (x0 ∈ zL S ∧ zK S x0 = 1) (
  m_cal (zP S 4 x0) (fun b1 =>
  m_chk (b1 ∈ zL S ∧ zK S b1 = 17) (
  m_chk (¬ (x1 < 0 ∨ zN S b1 ≤ (x1).toNatClampNeg)) (
  m_bnd (zB S b1 (x1).toNatClampNeg) (fun v2 =>
  d_X1_tagAt_22 v2 S)))))
  ))
  )
theorem tt_X1_tagAt_0 {Pw : Nat → ZS → Prop}   {x0 : Nat} {x1 : Int32} {S : ZS} : Tw Pw (d_X1_tagAt_0 x0 x1 S) (zt S) (zu S) (fun C T => g_X1_tagAt_0 Pw x0 x1 S C T) := by
  unfold d_X1_tagAt_0 g_X1_tagAt_0
  refine tw_if (fun _ => ?_) (fun _ => ?_)
  ·
    exact tw_at (⟨rfl, rfl⟩ : zt S = zt S ∧ zu S = zu S) (tt_X1_tagAt_21)
  ·
    refine tw_chk (fun _ => ?_)
    refine tw_if (fun _ => ?_) (fun _ => ?_)
    ·
      exact tw_at (⟨rfl, rfl⟩ : zt S = zt S ∧ zu S = zu S) (tt_X1_tagAt_21)
    ·
      refine tw_chk (fun _ => ?_)
      refine tw_calv (fun b1 => ?_)
      refine tw_chk (fun _ => ?_)
      refine tw_chk (fun _ => ?_)
      refine tw_bndv (fun v2 => ?_)
      exact tw_at (⟨rfl, rfl⟩ : zt S = zt S ∧ zu S = zu S) (tt_X1_tagAt_22)
def d_X1_tagAt (x0 : Nat) (x1 : Int32) (S : ZS) : Option (Nat × ZS) := d_X1_tagAt_0 x0 x1 S
theorem tt_X1_tagAt {Pw : Nat → ZS → Prop} {x0 : Nat} {x1 : Int32} {S : ZS} : Tw Pw (d_X1_tagAt x0 x1 S) (zt S) (zu S) (fun C T => g_X1_tagAt x0 x1 S C T Pw) := tt_X1_tagAt_0
def d_X1_hasTag_2s (self2 : Nat → Nat → Int32 → ZS → Option (Int32 × ZS)) (x0 : Nat) (x1 : Nat) (x2 : Int32) (S : ZS) : Option (Int32 × ZS) :=
  m_chk (x0 ∈ zL S ∧ zK S x0 = 1) (
  m_if ((zI S 5 x0) ≤ x2) (
  m_chk (vp_nar .boolean (0 : Int32) = (0 : Int32)) (
  some ((0 : Int32), S))
  ) (
  m_chk (x0 ∈ zL S ∧ zK S x0 = 1) (
  m_cal2 (d_X1_tagAt x0 x2 S) (fun r2 S3 =>
  m_chk (r2 ∈ zL S3 ∧ zK S3 r2 = 10) (
  m_cal (zP S3 0 r2) (fun b6 =>
  m_chk (b6 ∈ zL S3 ∧ zK S3 b6 = 6) (
  m_cal (f_X6_isLike b6 x1 S3) (fun o7 => m_chk (zt o7.2 = zt S3 ∧ zu o7.2 = zu S3) (
  m_if (o7.1 = 0) (
  m_bnd (x2 + (1 : Int32)) (fun v8 =>
  self2 x0 x1 v8 o7.2)
  ) (
  m_chk (vp_nar .boolean (1 : Int32) = (1 : Int32)) (
  some ((1 : Int32), o7.2))
  ))))))))
  ))
theorem tt_X1_hasTag_2s {Pw : Int32 → ZS → Prop} {self2 : Nat → Nat → Int32 → ZS → Option (Int32 × ZS)} {self2g : Nat → Nat → Int32 → ZS → Nat → Nat → Prop} (hself2 : ∀ (y0 : Nat) (y1 : Nat) (y2 : Int32) (S : ZS), Tw Pw (self2 y0 y1 y2 S) (zt S) (zu S) (fun C T => self2g y0 y1 y2 S C T)) {x0 : Nat} {x1 : Nat} {x2 : Int32} {S : ZS} : Tw Pw (d_X1_hasTag_2s self2 x0 x1 x2 S) (zt S) (zu S) (fun C T => g_X1_hasTag_2s Pw self2g x0 x1 x2 S C T) := by
  unfold d_X1_hasTag_2s g_X1_hasTag_2s
  refine tw_chk (fun _ => ?_)
  refine tw_if (fun _ => ?_) (fun _ => ?_)
  ·
    refine tw_chk (fun _ => ?_)
    exact tw_ret (⟨rfl, rfl⟩ : zt S = zt S ∧ zu S = zu S)
  ·
    refine tw_chk (fun _ => ?_)
    refine tw_gal (fun Pw9 => tw_at (⟨rfl, rfl⟩ : zt S = zt S ∧ zu S = zu S) tt_X1_tagAt) (fun r2 S3 => ?_)
    refine tw_chk (fun _ => ?_)
    refine tw_calv (fun b6 => ?_)
    refine tw_chk (fun _ => ?_)
    refine tw_calf (⟨rfl, rfl⟩ : zt S3 = zt S3 ∧ zu S3 = zu S3) (fun o7 co7 => ?_)
    refine tw_if (fun _ => ?_) (fun _ => ?_)
    ·
      refine tw_bndv (fun v8 => ?_)
      exact tw_at co7 (hself2 _ _ _ _)
    ·
      refine tw_chk (fun _ => ?_)
      exact tw_ret co7
def d_X1_hasTag_2  : Nat → Nat → Nat → Int32 → ZS → Option (Int32 × ZS)
  | 0 => fun _ _ _ _ => none
  | n + 1 => d_X1_hasTag_2s  (d_X1_hasTag_2  n)
theorem tt_X1_hasTag_2 {Pw : Int32 → ZS → Prop}   {n : Nat} : ∀ {z0 : Nat} {z1 : Nat} {z2 : Int32} {S : ZS}, Tw Pw (d_X1_hasTag_2  n z0 z1 z2 S) (zt S) (zu S) (fun C T => g_X1_hasTag_2 Pw  n z0 z1 z2 S C T) := by
  induction n with
  | zero => intro z0 z1 z2 S; exact tw_none
  | succ n ih => intro z0 z1 z2 S; exact tt_X1_hasTag_2s  (fun _ _ _ _ => ih)
def d_X1_hasTag_0 (x0 : Nat) (x1 : Nat) (S : ZS) : Option (Int32 × ZS) :=
  d_X1_hasTag_2 mFuel x0 x1 (0 : Int32) S
theorem tt_X1_hasTag_0 {Pw : Int32 → ZS → Prop}   {x0 : Nat} {x1 : Nat} {S : ZS} : Tw Pw (d_X1_hasTag_0 x0 x1 S) (zt S) (zu S) (fun C T => g_X1_hasTag_0 Pw x0 x1 S C T) := by
  unfold d_X1_hasTag_0 g_X1_hasTag_0
  exact tw_at (⟨rfl, rfl⟩ : zt S = zt S ∧ zu S = zu S) (tt_X1_hasTag_2)
def d_X1_hasTag (x0 : Nat) (x1 : Nat) (S : ZS) : Option (Int32 × ZS) := d_X1_hasTag_0 x0 x1 S
theorem tt_X1_hasTag {Pw : Int32 → ZS → Prop} {x0 : Nat} {x1 : Nat} {S : ZS} : Tw Pw (d_X1_hasTag x0 x1 S) (zt S) (zu S) (fun C T => g_X1_hasTag x0 x1 S C T Pw) := tt_X1_hasTag_0
def d_X6_put_43 (x0 : Nat) (x1 : Int32) (S : ZS) : Option (Int32 × ZS) :=
  m_chk (x0 ∈ zL S ∧ zK S x0 = 6) (
  m_cal (zP S 0 x0) (fun b1 =>
  m_chk (x0 ∈ zL S ∧ zK S x0 = 6) (
  m_chk (b1 ∈ zL S ∧ zK S b1 = 13) (
  m_chk (¬ ((zI S 1 x0) < 0 ∨ zN S b1 ≤ ((zI S 1 x0)).toNatClampNeg)) (
  m_bnd (zsA S b1 ((zI S 1 x0)).toNatClampNeg (vp_nar .char x1)) (fun S2 =>
  m_chk (x0 ∈ zL S2 ∧ zK S2 x0 = 6) (
  m_bnd ((zI S2 1 x0) + (1 : Int32)) (fun v3 =>
  m_chk (x0 ∈ zL S2 ∧ zK S2 x0 = 6) (
  m_bnd (zsI S2 1 x0 v3) (fun S4 =>
  some (0, S4)))))))))))
theorem tt_X6_put_43 {Pw : Int32 → ZS → Prop}   {x0 : Nat} {x1 : Int32} {S : ZS} : Tw Pw (d_X6_put_43 x0 x1 S) (zt S) (zu S) (fun C T => g_X6_put_43 Pw x0 x1 S C T) := by
  unfold d_X6_put_43 g_X6_put_43
  refine tw_chk (fun _ => ?_)
  refine tw_calv (fun b1 => ?_)
  refine tw_chk (fun _ => ?_)
  refine tw_chk (fun _ => ?_)
  refine tw_chk (fun _ => ?_)
  refine tw_bnds (⟨rfl, rfl⟩ : zt S = zt S ∧ zu S = zu S) (fun S2 cS2 => ?_)
  refine tw_chk (fun _ => ?_)
  refine tw_bndv (fun v3 => ?_)
  refine tw_chk (fun _ => ?_)
  refine tw_bnds cS2 (fun S4 cS4 => ?_)
  exact tw_ret cS4
def d_X6_put_0 (x0 : Nat) (x1 : Int32) (S : ZS) : Option (Int32 × ZS) :=
  m_chk (x0 ∈ zL S ∧ zK S x0 = 6) (
  m_chk (x0 ∈ zL S ∧ zK S x0 = 6) (
  m_cal (zP S 0 x0) (fun b1 =>
  m_chk (b1 ∈ zL S ∧ zK S b1 = 13) (
  m_bnd (Int32.ofNat (zN S b1)) (fun v2 =>
  m_if ((zI S 1 x0) < v2) (
  d_X6_put_43 x0 x1 S
  ) (
  m_chk (x0 ∈ zL S ∧ zK S x0 = 6) (
  m_bnd ((2 : Int32) * (zI S 1 x0)) (fun v3 =>
  m_bnd (v3 + (8 : Int32)) (fun v4 =>
  m_chk (¬ v4 < 0 ∧ (v4).toNatClampNeg * componentBytes .char ≤ 536870912) (
  m_bnd (zt S) (fun q5 =>
  m_bnd (zsNewA S q5 13 (v4).toNatClampNeg) (fun S6 =>
  m_chk (x0 ∈ zL S6 ∧ zK S6 x0 = 6) (
  m_cal (zP S6 0 x0) (fun b9 =>
  m_chk (x0 ∈ zL S6 ∧ zK S6 x0 = 6) (
  m_chk (b9 ∈ zL S6 ∧ zK S6 b9 = 13) (
  m_chk (q5 ∈ zL S6 ∧ zK S6 q5 = 13) (
  m_chk (¬ (0 : Int32) < 0 ∧ ¬ (0 : Int32) < 0 ∧ ¬ (zI S6 1 x0) < 0 ∧ ((0 : Int32)).toNatClampNeg + ((zI S6 1 x0)).toNatClampNeg ≤ zN S6 b9 ∧ ((0 : Int32)).toNatClampNeg + ((zI S6 1 x0)).toNatClampNeg ≤ zN S6 q5) (
  m_chk (∀ i, i < ((zI S6 1 x0)).toNatClampNeg → fits .char (.int (zA S6 b9 (((0 : Int32)).toNatClampNeg + i))) = true) (
  m_bnd (zsC S6 b9 q5 ((0 : Int32)).toNatClampNeg ((0 : Int32)).toNatClampNeg ((zI S6 1 x0)).toNatClampNeg) (fun S10 =>
  m_chk (x0 ∈ zL S10 ∧ zK S10 x0 = 6) (
  m_bnd (zsP S10 0 x0 (some q5)) (fun S11 =>
  d_X6_put_43 x0 x1 S11))))))))))))))))
  ))))))
theorem tt_X6_put_0 {Pw : Int32 → ZS → Prop}   {x0 : Nat} {x1 : Int32} {S : ZS} : Tw Pw (d_X6_put_0 x0 x1 S) (zt S) (zu S) (fun C T => g_X6_put_0 Pw x0 x1 S C T) := by
  unfold d_X6_put_0 g_X6_put_0
  refine tw_chk (fun _ => ?_)
  refine tw_chk (fun _ => ?_)
  refine tw_calv (fun b1 => ?_)
  refine tw_chk (fun _ => ?_)
  refine tw_bndv (fun v2 => ?_)
  refine tw_if (fun _ => ?_) (fun _ => ?_)
  ·
    exact tw_at (⟨rfl, rfl⟩ : zt S = zt S ∧ zu S = zu S) (tt_X6_put_43)
  ·
    refine tw_chk (fun _ => ?_)
    refine tw_bndv (fun v3 => ?_)
    refine tw_bndv (fun v4 => ?_)
    refine tw_chk (fun _ => ?_)
    refine tw_new (fun _ => ⟨congrArg (· + 1) (⟨rfl, rfl⟩ : zt S = zt S ∧ zu S = zu S).1, congrArg (· + _) (⟨rfl, rfl⟩ : zt S = zt S ∧ zu S = zu S).2⟩) (fun q5 S6 cS6 => ?_)
    refine tw_chk (fun _ => ?_)
    refine tw_calv (fun b9 => ?_)
    refine tw_chk (fun _ => ?_)
    refine tw_chk (fun _ => ?_)
    refine tw_chk (fun _ => ?_)
    refine tw_chk (fun _ => ?_)
    refine tw_chk (fun _ => ?_)
    refine tw_bnds cS6 (fun S10 cS10 => ?_)
    refine tw_chk (fun _ => ?_)
    refine tw_bnds cS10 (fun S11 cS11 => ?_)
    exact tw_at cS11 (tt_X6_put_43)
def d_X6_put (x0 : Nat) (x1 : Int32) (S : ZS) : Option (Int32 × ZS) := d_X6_put_0 x0 x1 S
theorem tt_X6_put {Pw : Int32 → ZS → Prop} {x0 : Nat} {x1 : Int32} {S : ZS} : Tw Pw (d_X6_put x0 x1 S) (zt S) (zu S) (fun C T => g_X6_put x0 x1 S C T Pw) := tt_X6_put_0
def d_X6_putAll_2s (self2 : Nat → Nat → Int32 → ZS → Option (Int32 × ZS)) (x0 : Nat) (x1 : Nat) (x2 : Int32) (S : ZS) : Option (Int32 × ZS) :=
  m_chk (x1 ∈ zL S ∧ zK S x1 = 6) (
  m_if ((zI S 1 x1) ≤ x2) (
  some (0, S)
  ) (
  m_chk (x1 ∈ zL S ∧ zK S x1 = 6) (
  m_cal (f_X6_at x1 x2 S) (fun o1 => m_chk (zt o1.2 = zt S ∧ zu o1.2 = zu S) (
  m_chk (x0 ∈ zL o1.2 ∧ zK o1.2 x0 = 6) (
  m_cal2 (d_X6_put x0 o1.1 o1.2) (fun r3 S4 =>
  m_bnd (x2 + (1 : Int32)) (fun v7 =>
  self2 x0 x1 v7 S4))))))
  ))
theorem tt_X6_putAll_2s {Pw : Int32 → ZS → Prop} {self2 : Nat → Nat → Int32 → ZS → Option (Int32 × ZS)} {self2g : Nat → Nat → Int32 → ZS → Nat → Nat → Prop} (hself2 : ∀ (y0 : Nat) (y1 : Nat) (y2 : Int32) (S : ZS), Tw Pw (self2 y0 y1 y2 S) (zt S) (zu S) (fun C T => self2g y0 y1 y2 S C T)) {x0 : Nat} {x1 : Nat} {x2 : Int32} {S : ZS} : Tw Pw (d_X6_putAll_2s self2 x0 x1 x2 S) (zt S) (zu S) (fun C T => g_X6_putAll_2s Pw self2g x0 x1 x2 S C T) := by
  unfold d_X6_putAll_2s g_X6_putAll_2s
  refine tw_chk (fun _ => ?_)
  refine tw_if (fun _ => ?_) (fun _ => ?_)
  ·
    exact tw_ret (⟨rfl, rfl⟩ : zt S = zt S ∧ zu S = zu S)
  ·
    refine tw_chk (fun _ => ?_)
    refine tw_calf (⟨rfl, rfl⟩ : zt S = zt S ∧ zu S = zu S) (fun o1 co1 => ?_)
    refine tw_chk (fun _ => ?_)
    refine tw_gal (fun Pw9 => tw_at co1 tt_X6_put) (fun r3 S4 => ?_)
    refine tw_bndv (fun v7 => ?_)
    exact tw_at (⟨rfl, rfl⟩ : zt S4 = zt S4 ∧ zu S4 = zu S4) (hself2 _ _ _ _)
def d_X6_putAll_2  : Nat → Nat → Nat → Int32 → ZS → Option (Int32 × ZS)
  | 0 => fun _ _ _ _ => none
  | n + 1 => d_X6_putAll_2s  (d_X6_putAll_2  n)
theorem tt_X6_putAll_2 {Pw : Int32 → ZS → Prop}   {n : Nat} : ∀ {z0 : Nat} {z1 : Nat} {z2 : Int32} {S : ZS}, Tw Pw (d_X6_putAll_2  n z0 z1 z2 S) (zt S) (zu S) (fun C T => g_X6_putAll_2 Pw  n z0 z1 z2 S C T) := by
  induction n with
  | zero => intro z0 z1 z2 S; exact tw_none
  | succ n ih => intro z0 z1 z2 S; exact tt_X6_putAll_2s  (fun _ _ _ _ => ih)
def d_X6_putAll_0 (x0 : Nat) (x1 : Nat) (S : ZS) : Option (Int32 × ZS) :=
  d_X6_putAll_2 mFuel x0 x1 (0 : Int32) S
theorem tt_X6_putAll_0 {Pw : Int32 → ZS → Prop}   {x0 : Nat} {x1 : Nat} {S : ZS} : Tw Pw (d_X6_putAll_0 x0 x1 S) (zt S) (zu S) (fun C T => g_X6_putAll_0 Pw x0 x1 S C T) := by
  unfold d_X6_putAll_0 g_X6_putAll_0
  exact tw_at (⟨rfl, rfl⟩ : zt S = zt S ∧ zu S = zu S) (tt_X6_putAll_2)
def d_X6_putAll (x0 : Nat) (x1 : Nat) (S : ZS) : Option (Int32 × ZS) := d_X6_putAll_0 x0 x1 S
theorem tt_X6_putAll {Pw : Int32 → ZS → Prop} {x0 : Nat} {x1 : Nat} {S : ZS} : Tw Pw (d_X6_putAll x0 x1 S) (zt S) (zu S) (fun C T => g_X6_putAll x0 x1 S C T Pw) := tt_X6_putAll_0
def d_X6_copyFrom_0 (x0 : Nat) (x1 : Nat) (S : ZS) : Option (Int32 × ZS) :=
  m_chk (x0 ∈ zL S ∧ zK S x0 = 6) (
  m_bnd (zsI S 1 x0 (0 : Int32)) (fun S1 =>
  m_chk (x0 ∈ zL S1 ∧ zK S1 x0 = 6) (
  m_cal2 (d_X6_putAll x0 x1 S1) (fun r3 S4 =>
  some (0, S4)))))
theorem tt_X6_copyFrom_0 {Pw : Int32 → ZS → Prop}   {x0 : Nat} {x1 : Nat} {S : ZS} : Tw Pw (d_X6_copyFrom_0 x0 x1 S) (zt S) (zu S) (fun C T => g_X6_copyFrom_0 Pw x0 x1 S C T) := by
  unfold d_X6_copyFrom_0 g_X6_copyFrom_0
  refine tw_chk (fun _ => ?_)
  refine tw_bnds (⟨rfl, rfl⟩ : zt S = zt S ∧ zu S = zu S) (fun S1 cS1 => ?_)
  refine tw_chk (fun _ => ?_)
  refine tw_gal (fun Pw9 => tw_at cS1 tt_X6_putAll) (fun r3 S4 => ?_)
  exact tw_ret (⟨rfl, rfl⟩ : zt S4 = zt S4 ∧ zu S4 = zu S4)
def d_X6_copyFrom (x0 : Nat) (x1 : Nat) (S : ZS) : Option (Int32 × ZS) := d_X6_copyFrom_0 x0 x1 S
theorem tt_X6_copyFrom {Pw : Int32 → ZS → Prop} {x0 : Nat} {x1 : Nat} {S : ZS} : Tw Pw (d_X6_copyFrom x0 x1 S) (zt S) (zu S) (fun C T => g_X6_copyFrom x0 x1 S C T Pw) := tt_X6_copyFrom_0
def d_X1_putTag_38 (x0 : Nat) (x1 : Nat) (x2 : Nat) (S : ZS) : Option (Int32 × ZS) :=
  m_chk (x0 ∈ zL S ∧ zK S x0 = 1) (
  m_bnd ((zI S 5 x0) + (1 : Int32)) (fun v1 =>
  m_chk (x0 ∈ zL S ∧ zK S x0 = 1) (
  m_bnd (zsI S 5 x0 v1) (fun S2 =>
  m_chk (x0 ∈ zL S2 ∧ zK S2 x0 = 1) (
  m_bnd ((zI S2 5 x0) - (1 : Int32)) (fun v3 =>
  m_chk (x0 ∈ zL S2 ∧ zK S2 x0 = 1) (
  m_cal2 (d_X1_tagAt x0 v3 S2) (fun r5 S6 =>
  m_chk (r5 ∈ zL S6 ∧ zK S6 r5 = 10) (
  m_cal (zP S6 0 r5) (fun b9 =>
  m_chk (b9 ∈ zL S6 ∧ zK S6 b9 = 6) (
  m_cal2 (d_X6_copyFrom b9 x1 S6) (fun r11 S12 =>
  m_chk (x0 ∈ zL S12 ∧ zK S12 x0 = 1) (
  m_bnd ((zI S12 5 x0) - (1 : Int32)) (fun v15 =>
  m_chk (x0 ∈ zL S12 ∧ zK S12 x0 = 1) (
  m_cal2 (d_X1_tagAt x0 v15 S12) (fun r17 S18 =>
  m_chk (r17 ∈ zL S18 ∧ zK S18 r17 = 10) (
  m_cal (zP S18 1 r17) (fun b21 =>
  m_chk (b21 ∈ zL S18 ∧ zK S18 b21 = 6) (
  m_cal2 (d_X6_copyFrom b21 x2 S18) (fun r23 S24 =>
  some (0, S24)))))))))))))))))))))
theorem tt_X1_putTag_38 {Pw : Int32 → ZS → Prop}   {x0 : Nat} {x1 : Nat} {x2 : Nat} {S : ZS} : Tw Pw (d_X1_putTag_38 x0 x1 x2 S) (zt S) (zu S) (fun C T => g_X1_putTag_38 Pw x0 x1 x2 S C T) := by
  unfold d_X1_putTag_38 g_X1_putTag_38
  refine tw_chk (fun _ => ?_)
  refine tw_bndv (fun v1 => ?_)
  refine tw_chk (fun _ => ?_)
  refine tw_bnds (⟨rfl, rfl⟩ : zt S = zt S ∧ zu S = zu S) (fun S2 cS2 => ?_)
  refine tw_chk (fun _ => ?_)
  refine tw_bndv (fun v3 => ?_)
  refine tw_chk (fun _ => ?_)
  refine tw_gal (fun Pw9 => tw_at cS2 tt_X1_tagAt) (fun r5 S6 => ?_)
  refine tw_chk (fun _ => ?_)
  refine tw_calv (fun b9 => ?_)
  refine tw_chk (fun _ => ?_)
  refine tw_gal (fun Pw9 => tw_at (⟨rfl, rfl⟩ : zt S6 = zt S6 ∧ zu S6 = zu S6) tt_X6_copyFrom) (fun r11 S12 => ?_)
  refine tw_chk (fun _ => ?_)
  refine tw_bndv (fun v15 => ?_)
  refine tw_chk (fun _ => ?_)
  refine tw_gal (fun Pw9 => tw_at (⟨rfl, rfl⟩ : zt S12 = zt S12 ∧ zu S12 = zu S12) tt_X1_tagAt) (fun r17 S18 => ?_)
  refine tw_chk (fun _ => ?_)
  refine tw_calv (fun b21 => ?_)
  refine tw_chk (fun _ => ?_)
  refine tw_gal (fun Pw9 => tw_at (⟨rfl, rfl⟩ : zt S18 = zt S18 ∧ zu S18 = zu S18) tt_X6_copyFrom) (fun r23 S24 => ?_)
  exact tw_ret (⟨rfl, rfl⟩ : zt S24 = zt S24 ∧ zu S24 = zu S24)
def d_X1_putTag_0 (x0 : Nat) (x1 : Nat) (x2 : Nat) (S : ZS) : Option (Int32 × ZS) :=
  m_chk (x0 ∈ zL S ∧ zK S x0 = 1) (
  m_if ((zI S 5 x0) < (8 : Int32)) (
  m_chk (x0 ∈ zL S ∧ zK S x0 = 1) (
  m_cal (zP S 4 x0) (fun b1 =>
  m_chk (x0 ∈ zL S ∧ zK S x0 = 1) (
  m_chk (b1 ∈ zL S ∧ zK S b1 = 17) (
  m_chk (¬ ((zI S 5 x0) < 0 ∨ zN S b1 ≤ ((zI S 5 x0)).toNatClampNeg)) (
  m_bnd (zB S b1 ((zI S 5 x0)).toNatClampNeg) (fun v2 =>
  m_opt v2 (
  m_chk (x0 ∈ zL S ∧ zK S x0 = 1) (
  m_cal (zP S 4 x0) (fun b4 =>
  m_chk (x0 ∈ zL S ∧ zK S x0 = 1) (
  m_bnd (zt S) (fun q5 =>
  m_bnd (zsNewO S q5 10 2) (fun S6 =>
  m_cal2 (d_X10_init q5 S6) (fun r10 S11 =>
  m_chk (b4 ∈ zL S11 ∧ zK S11 b4 = 17) (
  m_chk (q5 ∈ zL S11 ∧ zK S11 q5 = 10) (
  m_chk (¬ ((zI S 5 x0) < 0 ∨ zN S11 b4 ≤ ((zI S 5 x0)).toNatClampNeg)) (
  m_bnd (zsB S11 b4 ((zI S 5 x0)).toNatClampNeg (some q5)) (fun S14 =>
  d_X1_putTag_38 x0 x1 x2 S14))))))))))) (fun b3 =>
  d_X1_putTag_38 x0 x1 x2 S)))))))
  ) (
  some (0, S)
  ))
theorem tt_X1_putTag_0 {Pw : Int32 → ZS → Prop}   {x0 : Nat} {x1 : Nat} {x2 : Nat} {S : ZS} : Tw Pw (d_X1_putTag_0 x0 x1 x2 S) (zt S) (zu S) (fun C T => g_X1_putTag_0 Pw x0 x1 x2 S C T) := by
  unfold d_X1_putTag_0 g_X1_putTag_0
  refine tw_chk (fun _ => ?_)
  refine tw_if (fun _ => ?_) (fun _ => ?_)
  ·
    refine tw_chk (fun _ => ?_)
    refine tw_calv (fun b1 => ?_)
    refine tw_chk (fun _ => ?_)
    refine tw_chk (fun _ => ?_)
    refine tw_chk (fun _ => ?_)
    refine tw_bndv (fun v2 => ?_)
    refine tw_opt ?_ (fun b3 => ?_)
    ·
      refine tw_chk (fun _ => ?_)
      refine tw_calv (fun b4 => ?_)
      refine tw_chk (fun _ => ?_)
      refine tw_new (fun _ => ⟨congrArg (· + 1) (⟨rfl, rfl⟩ : zt S = zt S ∧ zu S = zu S).1, congrArg (· + _) (⟨rfl, rfl⟩ : zt S = zt S ∧ zu S = zu S).2⟩) (fun q5 S6 cS6 => ?_)
      refine tw_gal (fun Pw9 => tw_at cS6 tt_X10_init) (fun r10 S11 => ?_)
      refine tw_chk (fun _ => ?_)
      refine tw_chk (fun _ => ?_)
      refine tw_chk (fun _ => ?_)
      refine tw_bnds (⟨rfl, rfl⟩ : zt S11 = zt S11 ∧ zu S11 = zu S11) (fun S14 cS14 => ?_)
      exact tw_at cS14 (tt_X1_putTag_38)
    ·
      exact tw_at (⟨rfl, rfl⟩ : zt S = zt S ∧ zu S = zu S) (tt_X1_putTag_38)
  ·
    exact tw_ret (⟨rfl, rfl⟩ : zt S = zt S ∧ zu S = zu S)
def d_X1_putTag (x0 : Nat) (x1 : Nat) (x2 : Nat) (S : ZS) : Option (Int32 × ZS) := d_X1_putTag_0 x0 x1 x2 S
theorem tt_X1_putTag {Pw : Int32 → ZS → Prop} {x0 : Nat} {x1 : Nat} {x2 : Nat} {S : ZS} : Tw Pw (d_X1_putTag x0 x1 x2 S) (zt S) (zu S) (fun C T => g_X1_putTag x0 x1 x2 S C T Pw) := tt_X1_putTag_0
def d_X1_agreesWith_46 (self2 : Nat → Int32 → Int32 → ZS → Option (Int32 × ZS)) (x0 : Nat) (x1 : Int32) (x2 : Int32) (S : ZS) : Option (Int32 × ZS) :=
  m_bnd (x2 + (1 : Int32)) (fun v1 =>
  self2 x0 x1 v1 S)
theorem tt_X1_agreesWith_46 {Pw : Int32 → ZS → Prop} {self2 : Nat → Int32 → Int32 → ZS → Option (Int32 × ZS)} {self2g : Nat → Int32 → Int32 → ZS → Nat → Nat → Prop} (hself2 : ∀ (y0 : Nat) (y1 : Int32) (y2 : Int32) (S : ZS), Tw Pw (self2 y0 y1 y2 S) (zt S) (zu S) (fun C T => self2g y0 y1 y2 S C T)) {x0 : Nat} {x1 : Int32} {x2 : Int32} {S : ZS} : Tw Pw (d_X1_agreesWith_46 self2 x0 x1 x2 S) (zt S) (zu S) (fun C T => g_X1_agreesWith_46 Pw self2g x0 x1 x2 S C T) := by
  unfold d_X1_agreesWith_46 g_X1_agreesWith_46
  refine tw_bndv (fun v1 => ?_)
  exact tw_at (⟨rfl, rfl⟩ : zt S = zt S ∧ zu S = zu S) (hself2 _ _ _ _)
def d_X1_agreesWith_2s (self2 : Nat → Int32 → Int32 → ZS → Option (Int32 × ZS)) (x0 : Nat) (x1 : Int32) (x2 : Int32) (S : ZS) : Option (Int32 × ZS) :=
  m_chk (x0 ∈ zL S ∧ zK S x0 = 1) (
  m_if ((zI S 5 x0) ≤ x2) (
  m_chk (vp_nar .boolean (1 : Int32) = (1 : Int32)) (
  some ((1 : Int32), S))
  ) (
  m_chk (x0 ∈ zL S ∧ zK S x0 = 1) (
  m_cal2 (d_X1_tagAt x0 x2 S) (fun r2 S3 =>
  m_chk (r2 ∈ zL S3 ∧ zK S3 r2 = 10) (
  m_cal (zP S3 0 r2) (fun b6 =>
  m_chk (b6 ∈ zL S3 ∧ zK S3 b6 = 6) (
  m_cal (f_X6_is b6 10 S3) (fun o7 => m_chk (zt o7.2 = zt S3 ∧ zu o7.2 = zu S3) (
  m_if (o7.1 = 0) (
  d_X1_agreesWith_46 self2 x0 x1 x2 o7.2
  ) (
  m_chk (x0 ∈ zL o7.2 ∧ zK o7.2 x0 = 1) (
  m_cal2 (d_X1_tagAt x0 x2 o7.2) (fun r9 S10 =>
  m_chk (r9 ∈ zL S10 ∧ zK S10 r9 = 10) (
  m_cal (zP S10 1 r9) (fun b13 =>
  m_cal (f_X11_resultSign x1 S10) (fun o14 => m_chk (zt o14.2 = zt S10 ∧ zu o14.2 = zu S10) (
  m_chk (b13 ∈ zL o14.2 ∧ zK o14.2 b13 = 6) (
  m_cal (f_X6_is b13 o14.1 o14.2) (fun o15 => m_chk (zt o15.2 = zt o14.2 ∧ zu o15.2 = zu o14.2) (
  m_if (o15.1 = 0) (
  m_chk (vp_nar .boolean (0 : Int32) = (0 : Int32)) (
  some ((0 : Int32), o15.2))
  ) (
  d_X1_agreesWith_46 self2 x0 x1 x2 o15.2
  ))))))))))
  ))))))))
  ))
theorem tt_X1_agreesWith_2s {Pw : Int32 → ZS → Prop} {self2 : Nat → Int32 → Int32 → ZS → Option (Int32 × ZS)} {self2g : Nat → Int32 → Int32 → ZS → Nat → Nat → Prop} (hself2 : ∀ (y0 : Nat) (y1 : Int32) (y2 : Int32) (S : ZS), Tw Pw (self2 y0 y1 y2 S) (zt S) (zu S) (fun C T => self2g y0 y1 y2 S C T)) {x0 : Nat} {x1 : Int32} {x2 : Int32} {S : ZS} : Tw Pw (d_X1_agreesWith_2s self2 x0 x1 x2 S) (zt S) (zu S) (fun C T => g_X1_agreesWith_2s Pw self2g x0 x1 x2 S C T) := by
  unfold d_X1_agreesWith_2s g_X1_agreesWith_2s
  refine tw_chk (fun _ => ?_)
  refine tw_if (fun _ => ?_) (fun _ => ?_)
  ·
    refine tw_chk (fun _ => ?_)
    exact tw_ret (⟨rfl, rfl⟩ : zt S = zt S ∧ zu S = zu S)
  ·
    refine tw_chk (fun _ => ?_)
    refine tw_gal (fun Pw9 => tw_at (⟨rfl, rfl⟩ : zt S = zt S ∧ zu S = zu S) tt_X1_tagAt) (fun r2 S3 => ?_)
    refine tw_chk (fun _ => ?_)
    refine tw_calv (fun b6 => ?_)
    refine tw_chk (fun _ => ?_)
    refine tw_calf (⟨rfl, rfl⟩ : zt S3 = zt S3 ∧ zu S3 = zu S3) (fun o7 co7 => ?_)
    refine tw_if (fun _ => ?_) (fun _ => ?_)
    ·
      exact tw_at co7 (tt_X1_agreesWith_46 hself2)
    ·
      refine tw_chk (fun _ => ?_)
      refine tw_gal (fun Pw9 => tw_at co7 tt_X1_tagAt) (fun r9 S10 => ?_)
      refine tw_chk (fun _ => ?_)
      refine tw_calv (fun b13 => ?_)
      refine tw_calf (⟨rfl, rfl⟩ : zt S10 = zt S10 ∧ zu S10 = zu S10) (fun o14 co14 => ?_)
      refine tw_chk (fun _ => ?_)
      refine tw_calf co14 (fun o15 co15 => ?_)
      refine tw_if (fun _ => ?_) (fun _ => ?_)
      ·
        refine tw_chk (fun _ => ?_)
        exact tw_ret co15
      ·
        exact tw_at co15 (tt_X1_agreesWith_46 hself2)
def d_X1_agreesWith_2  : Nat → Nat → Int32 → Int32 → ZS → Option (Int32 × ZS)
  | 0 => fun _ _ _ _ => none
  | n + 1 => d_X1_agreesWith_2s  (d_X1_agreesWith_2  n)
theorem tt_X1_agreesWith_2 {Pw : Int32 → ZS → Prop}   {n : Nat} : ∀ {z0 : Nat} {z1 : Int32} {z2 : Int32} {S : ZS}, Tw Pw (d_X1_agreesWith_2  n z0 z1 z2 S) (zt S) (zu S) (fun C T => g_X1_agreesWith_2 Pw  n z0 z1 z2 S C T) := by
  induction n with
  | zero => intro z0 z1 z2 S; exact tw_none
  | succ n ih => intro z0 z1 z2 S; exact tt_X1_agreesWith_2s  (fun _ _ _ _ => ih)
def d_X1_agreesWith_0 (x0 : Nat) (x1 : Int32) (S : ZS) : Option (Int32 × ZS) :=
  d_X1_agreesWith_2 mFuel x0 x1 (0 : Int32) S
theorem tt_X1_agreesWith_0 {Pw : Int32 → ZS → Prop}   {x0 : Nat} {x1 : Int32} {S : ZS} : Tw Pw (d_X1_agreesWith_0 x0 x1 S) (zt S) (zu S) (fun C T => g_X1_agreesWith_0 Pw x0 x1 S C T) := by
  unfold d_X1_agreesWith_0 g_X1_agreesWith_0
  exact tw_at (⟨rfl, rfl⟩ : zt S = zt S ∧ zu S = zu S) (tt_X1_agreesWith_2)
def d_X1_agreesWith (x0 : Nat) (x1 : Int32) (S : ZS) : Option (Int32 × ZS) := d_X1_agreesWith_0 x0 x1 S
theorem tt_X1_agreesWith {Pw : Int32 → ZS → Prop} {x0 : Nat} {x1 : Int32} {S : ZS} : Tw Pw (d_X1_agreesWith x0 x1 S) (zt S) (zu S) (fun C T => g_X1_agreesWith x0 x1 S C T Pw) := tt_X1_agreesWith_0
def d_X7_init_0 (x0 : Nat) (S : ZS) : Option (Int32 × ZS) :=
  m_bnd (zt S) (fun q1 =>
  m_bnd (zsNewO S q1 0 7) (fun S2 =>
  m_cal2 (d_X0_init q1 S2) (fun r6 S7 =>
  m_chk (x0 ∈ zL S7 ∧ zK S7 x0 = 7) (
  m_bnd (zsP S7 0 x0 (some q1)) (fun S10 =>
  m_bnd (zt S10) (fun q11 =>
  m_bnd (zsNewO S10 q11 0 7) (fun S12 =>
  m_cal2 (d_X0_init q11 S12) (fun r16 S17 =>
  m_chk (x0 ∈ zL S17 ∧ zK S17 x0 = 7) (
  m_bnd (zsP S17 1 x0 (some q11)) (fun S20 =>
  some (0, S20)))))))))))
theorem tt_X7_init_0 {Pw : Int32 → ZS → Prop}   {x0 : Nat} {S : ZS} : Tw Pw (d_X7_init_0 x0 S) (zt S) (zu S) (fun C T => g_X7_init_0 Pw x0 S C T) := by
  unfold d_X7_init_0 g_X7_init_0
  refine tw_new (fun _ => ⟨congrArg (· + 1) (⟨rfl, rfl⟩ : zt S = zt S ∧ zu S = zu S).1, congrArg (· + _) (⟨rfl, rfl⟩ : zt S = zt S ∧ zu S = zu S).2⟩) (fun q1 S2 cS2 => ?_)
  refine tw_gal (fun Pw9 => tw_at cS2 tt_X0_init) (fun r6 S7 => ?_)
  refine tw_chk (fun _ => ?_)
  refine tw_bnds (⟨rfl, rfl⟩ : zt S7 = zt S7 ∧ zu S7 = zu S7) (fun S10 cS10 => ?_)
  refine tw_new (fun _ => ⟨congrArg (· + 1) cS10.1, congrArg (· + _) cS10.2⟩) (fun q11 S12 cS12 => ?_)
  refine tw_gal (fun Pw9 => tw_at cS12 tt_X0_init) (fun r16 S17 => ?_)
  refine tw_chk (fun _ => ?_)
  refine tw_bnds (⟨rfl, rfl⟩ : zt S17 = zt S17 ∧ zu S17 = zu S17) (fun S20 cS20 => ?_)
  exact tw_ret cS20
def d_X7_init (x0 : Nat) (S : ZS) : Option (Int32 × ZS) := d_X7_init_0 x0 S
theorem tt_X7_init {Pw : Int32 → ZS → Prop} {x0 : Nat} {S : ZS} : Tw Pw (d_X7_init x0 S) (zt S) (zu S) (fun C T => g_X7_init x0 S C T Pw) := tt_X7_init_0
def d_X8_init_0 (x0 : Nat) (S : ZS) : Option (Int32 × ZS) :=
  m_bnd (zt S) (fun q1 =>
  m_bnd (zsNewO S q1 7 2) (fun S2 =>
  m_cal2 (d_X7_init q1 S2) (fun r6 S7 =>
  m_chk (x0 ∈ zL S7 ∧ zK S7 x0 = 8) (
  m_bnd (zsP S7 0 x0 (some q1)) (fun S10 =>
  m_bnd (zt S10) (fun q11 =>
  m_bnd (zsNewO S10 q11 6 2) (fun S12 =>
  m_cal (f_X6_init q11 S12) (fun o15 => m_chk (zt o15.2 = zt S12 ∧ zu o15.2 = zu S12) (
  m_chk (x0 ∈ zL o15.2 ∧ zK o15.2 x0 = 8) (
  m_bnd (zsP o15.2 1 x0 (some q11)) (fun S16 =>
  m_chk (¬ (64 : Int32) < 0 ∧ ((64 : Int32)).toNatClampNeg * componentBytes .int ≤ 536870912) (
  m_bnd (zt S16) (fun q17 =>
  m_bnd (zsNewA S16 q17 14 ((64 : Int32)).toNatClampNeg) (fun S18 =>
  m_chk (x0 ∈ zL S18 ∧ zK S18 x0 = 8) (
  m_bnd (zsP S18 10 x0 (some q17)) (fun S21 =>
  some (0, S21)))))))))))))))))
theorem tt_X8_init_0 {Pw : Int32 → ZS → Prop}   {x0 : Nat} {S : ZS} : Tw Pw (d_X8_init_0 x0 S) (zt S) (zu S) (fun C T => g_X8_init_0 Pw x0 S C T) := by
  unfold d_X8_init_0 g_X8_init_0
  refine tw_new (fun _ => ⟨congrArg (· + 1) (⟨rfl, rfl⟩ : zt S = zt S ∧ zu S = zu S).1, congrArg (· + _) (⟨rfl, rfl⟩ : zt S = zt S ∧ zu S = zu S).2⟩) (fun q1 S2 cS2 => ?_)
  refine tw_gal (fun Pw9 => tw_at cS2 tt_X7_init) (fun r6 S7 => ?_)
  refine tw_chk (fun _ => ?_)
  refine tw_bnds (⟨rfl, rfl⟩ : zt S7 = zt S7 ∧ zu S7 = zu S7) (fun S10 cS10 => ?_)
  refine tw_new (fun _ => ⟨congrArg (· + 1) cS10.1, congrArg (· + _) cS10.2⟩) (fun q11 S12 cS12 => ?_)
  refine tw_calf cS12 (fun o15 co15 => ?_)
  refine tw_chk (fun _ => ?_)
  refine tw_bnds co15 (fun S16 cS16 => ?_)
  refine tw_chk (fun _ => ?_)
  refine tw_new (fun _ => ⟨congrArg (· + 1) cS16.1, congrArg (· + _) cS16.2⟩) (fun q17 S18 cS18 => ?_)
  refine tw_chk (fun _ => ?_)
  refine tw_bnds cS18 (fun S21 cS21 => ?_)
  exact tw_ret cS21
def d_X8_init (x0 : Nat) (S : ZS) : Option (Int32 × ZS) := d_X8_init_0 x0 S
theorem tt_X8_init {Pw : Int32 → ZS → Prop} {x0 : Nat} {S : ZS} : Tw Pw (d_X8_init x0 S) (zt S) (zu S) (fun C T => g_X8_init x0 S C T Pw) := tt_X8_init_0
def d_X5_init_0 (x0 : Nat) (S : ZS) : Option (Int32 × ZS) :=
  m_bnd (zt S) (fun q1 =>
  m_bnd (zsNewO S q1 6 2) (fun S2 =>
  m_cal (f_X6_init q1 S2) (fun o5 => m_chk (zt o5.2 = zt S2 ∧ zu o5.2 = zu S2) (
  m_chk (x0 ∈ zL o5.2 ∧ zK o5.2 x0 = 5) (
  m_bnd (zsP o5.2 0 x0 (some q1)) (fun S6 =>
  m_chk (x0 ∈ zL S6 ∧ zK S6 x0 = 5) (
  m_bnd (zsI S6 1 x0 (0 : Int32)) (fun S7 =>
  some (0, S7)))))))))
theorem tt_X5_init_0 {Pw : Int32 → ZS → Prop}   {x0 : Nat} {S : ZS} : Tw Pw (d_X5_init_0 x0 S) (zt S) (zu S) (fun C T => g_X5_init_0 Pw x0 S C T) := by
  unfold d_X5_init_0 g_X5_init_0
  refine tw_new (fun _ => ⟨congrArg (· + 1) (⟨rfl, rfl⟩ : zt S = zt S ∧ zu S = zu S).1, congrArg (· + _) (⟨rfl, rfl⟩ : zt S = zt S ∧ zu S = zu S).2⟩) (fun q1 S2 cS2 => ?_)
  refine tw_calf cS2 (fun o5 co5 => ?_)
  refine tw_chk (fun _ => ?_)
  refine tw_bnds co5 (fun S6 cS6 => ?_)
  refine tw_chk (fun _ => ?_)
  refine tw_bnds cS6 (fun S7 cS7 => ?_)
  exact tw_ret cS7
def d_X5_init (x0 : Nat) (S : ZS) : Option (Int32 × ZS) := d_X5_init_0 x0 S
theorem tt_X5_init {Pw : Int32 → ZS → Prop} {x0 : Nat} {S : ZS} : Tw Pw (d_X5_init x0 S) (zt S) (zu S) (fun C T => g_X5_init x0 S C T Pw) := tt_X5_init_0
def d_X2_init_116s (self116 : Nat → Int32 → ZS → Option (Int32 × ZS)) (x0 : Nat) (x1 : Int32) (S : ZS) : Option (Int32 × ZS) :=
  m_if ((6 : Int32) < x1) (
  some (0, S)
  ) (
  m_chk (x0 ∈ zL S ∧ zK S x0 = 2) (
  m_cal (zP S 10 x0) (fun b1 =>
  m_bnd (zt S) (fun q2 =>
  m_bnd (zsNewO S q2 0 7) (fun S3 =>
  m_cal2 (d_X0_init q2 S3) (fun r7 S8 =>
  m_chk (b1 ∈ zL S8 ∧ zK S8 b1 = 15) (
  m_chk (q2 ∈ zL S8 ∧ zK S8 q2 = 0) (
  m_chk (¬ (x1 < 0 ∨ zN S8 b1 ≤ (x1).toNatClampNeg)) (
  m_bnd (zsB S8 b1 (x1).toNatClampNeg (some q2)) (fun S11 =>
  m_chk (x0 ∈ zL S11 ∧ zK S11 x0 = 2) (
  m_cal (zP S11 11 x0) (fun b12 =>
  m_bnd (zt S11) (fun q13 =>
  m_bnd (zsNewO S11 q13 0 7) (fun S14 =>
  m_cal2 (d_X0_init q13 S14) (fun r18 S19 =>
  m_chk (b12 ∈ zL S19 ∧ zK S19 b12 = 15) (
  m_chk (q13 ∈ zL S19 ∧ zK S19 q13 = 0) (
  m_chk (¬ (x1 < 0 ∨ zN S19 b12 ≤ (x1).toNatClampNeg)) (
  m_bnd (zsB S19 b12 (x1).toNatClampNeg (some q13)) (fun S22 =>
  m_bnd (x1 + (1 : Int32)) (fun v23 =>
  self116 x0 v23 S22)))))))))))))))))))
  )
theorem tt_X2_init_116s {Pw : Int32 → ZS → Prop} {self116 : Nat → Int32 → ZS → Option (Int32 × ZS)} {self116g : Nat → Int32 → ZS → Nat → Nat → Prop} (hself116 : ∀ (y0 : Nat) (y1 : Int32) (S : ZS), Tw Pw (self116 y0 y1 S) (zt S) (zu S) (fun C T => self116g y0 y1 S C T)) {x0 : Nat} {x1 : Int32} {S : ZS} : Tw Pw (d_X2_init_116s self116 x0 x1 S) (zt S) (zu S) (fun C T => g_X2_init_116s Pw self116g x0 x1 S C T) := by
  unfold d_X2_init_116s g_X2_init_116s
  refine tw_if (fun _ => ?_) (fun _ => ?_)
  ·
    exact tw_ret (⟨rfl, rfl⟩ : zt S = zt S ∧ zu S = zu S)
  ·
    refine tw_chk (fun _ => ?_)
    refine tw_calv (fun b1 => ?_)
    refine tw_new (fun _ => ⟨congrArg (· + 1) (⟨rfl, rfl⟩ : zt S = zt S ∧ zu S = zu S).1, congrArg (· + _) (⟨rfl, rfl⟩ : zt S = zt S ∧ zu S = zu S).2⟩) (fun q2 S3 cS3 => ?_)
    refine tw_gal (fun Pw9 => tw_at cS3 tt_X0_init) (fun r7 S8 => ?_)
    refine tw_chk (fun _ => ?_)
    refine tw_chk (fun _ => ?_)
    refine tw_chk (fun _ => ?_)
    refine tw_bnds (⟨rfl, rfl⟩ : zt S8 = zt S8 ∧ zu S8 = zu S8) (fun S11 cS11 => ?_)
    refine tw_chk (fun _ => ?_)
    refine tw_calv (fun b12 => ?_)
    refine tw_new (fun _ => ⟨congrArg (· + 1) cS11.1, congrArg (· + _) cS11.2⟩) (fun q13 S14 cS14 => ?_)
    refine tw_gal (fun Pw9 => tw_at cS14 tt_X0_init) (fun r18 S19 => ?_)
    refine tw_chk (fun _ => ?_)
    refine tw_chk (fun _ => ?_)
    refine tw_chk (fun _ => ?_)
    refine tw_bnds (⟨rfl, rfl⟩ : zt S19 = zt S19 ∧ zu S19 = zu S19) (fun S22 cS22 => ?_)
    refine tw_bndv (fun v23 => ?_)
    exact tw_at cS22 (hself116 _ _ _)
def d_X2_init_116  : Nat → Nat → Int32 → ZS → Option (Int32 × ZS)
  | 0 => fun _ _ _ => none
  | n + 1 => d_X2_init_116s  (d_X2_init_116  n)
theorem tt_X2_init_116 {Pw : Int32 → ZS → Prop}   {n : Nat} : ∀ {z0 : Nat} {z1 : Int32} {S : ZS}, Tw Pw (d_X2_init_116  n z0 z1 S) (zt S) (zu S) (fun C T => g_X2_init_116 Pw  n z0 z1 S C T) := by
  induction n with
  | zero => intro z0 z1 S; exact tw_none
  | succ n ih => intro z0 z1 S; exact tt_X2_init_116s  (fun _ _ _ => ih)
def d_X2_init_0 (x0 : Nat) (S : ZS) : Option (Int32 × ZS) :=
  m_bnd (zt S) (fun q1 =>
  m_bnd (zsNewO S q1 8 12) (fun S2 =>
  m_cal2 (d_X8_init q1 S2) (fun r6 S7 =>
  m_chk (x0 ∈ zL S7 ∧ zK S7 x0 = 2) (
  m_bnd (zsP S7 0 x0 (some q1)) (fun S10 =>
  m_bnd (zt S10) (fun q11 =>
  m_bnd (zsNewO S10 q11 5 2) (fun S12 =>
  m_cal2 (d_X5_init q11 S12) (fun r16 S17 =>
  m_chk (x0 ∈ zL S17 ∧ zK S17 x0 = 2) (
  m_bnd (zsP S17 1 x0 (some q11)) (fun S20 =>
  m_bnd (zt S20) (fun q21 =>
  m_bnd (zsNewO S20 q21 6 2) (fun S22 =>
  m_cal (f_X6_init q21 S22) (fun o25 => m_chk (zt o25.2 = zt S22 ∧ zu o25.2 = zu S22) (
  m_chk (x0 ∈ zL o25.2 ∧ zK o25.2 x0 = 2) (
  m_bnd (zsP o25.2 2 x0 (some q21)) (fun S26 =>
  m_bnd (zt S26) (fun q27 =>
  m_bnd (zsNewO S26 q27 1 8) (fun S28 =>
  m_cal2 (d_X1_init q27 S28) (fun r32 S33 =>
  m_chk (x0 ∈ zL S33 ∧ zK S33 x0 = 2) (
  m_bnd (zsP S33 3 x0 (some q27)) (fun S36 =>
  m_chk (x0 ∈ zL S36 ∧ zK S36 x0 = 2) (
  m_bnd (zsI S36 4 x0 (0 : Int32)) (fun S37 =>
  m_chk (x0 ∈ zL S37 ∧ zK S37 x0 = 2) (
  m_bnd (zsI S37 5 x0 (0 : Int32)) (fun S38 =>
  m_bnd (zt S38) (fun q39 =>
  m_bnd (zsNewO S38 q39 6 2) (fun S40 =>
  m_cal (f_X6_init q39 S40) (fun o43 => m_chk (zt o43.2 = zt S40 ∧ zu o43.2 = zu S40) (
  m_chk (x0 ∈ zL o43.2 ∧ zK o43.2 x0 = 2) (
  m_bnd (zsP o43.2 6 x0 (some q39)) (fun S44 =>
  m_bnd (zt S44) (fun q45 =>
  m_bnd (zsNewO S44 q45 6 2) (fun S46 =>
  m_cal (f_X6_init q45 S46) (fun o49 => m_chk (zt o49.2 = zt S46 ∧ zu o49.2 = zu S46) (
  m_chk (x0 ∈ zL o49.2 ∧ zK o49.2 x0 = 2) (
  m_bnd (zsP o49.2 7 x0 (some q45)) (fun S50 =>
  m_chk (¬ (7 : Int32) < 0 ∧ ((7 : Int32)).toNatClampNeg * componentBytes .int ≤ 536870912) (
  m_bnd (zt S50) (fun q51 =>
  m_bnd (zsNewA S50 q51 14 ((7 : Int32)).toNatClampNeg) (fun S52 =>
  m_chk (x0 ∈ zL S52 ∧ zK S52 x0 = 2) (
  m_bnd (zsP S52 8 x0 (some q51)) (fun S55 =>
  m_chk (¬ (7 : Int32) < 0 ∧ ((7 : Int32)).toNatClampNeg * componentBytes .int ≤ 536870912) (
  m_bnd (zt S55) (fun q56 =>
  m_bnd (zsNewA S55 q56 14 ((7 : Int32)).toNatClampNeg) (fun S57 =>
  m_chk (x0 ∈ zL S57 ∧ zK S57 x0 = 2) (
  m_bnd (zsP S57 9 x0 (some q56)) (fun S60 =>
  m_chk (¬ (7 : Int32) < 0 ∧ ((7 : Int32)).toNatClampNeg * 4 ≤ 536870912) (
  m_bnd (zt S60) (fun q61 =>
  m_bnd (zsNewA S60 q61 15 ((7 : Int32)).toNatClampNeg) (fun S62 =>
  m_chk (x0 ∈ zL S62 ∧ zK S62 x0 = 2) (
  m_bnd (zsP S62 10 x0 (some q61)) (fun S65 =>
  m_chk (¬ (7 : Int32) < 0 ∧ ((7 : Int32)).toNatClampNeg * 4 ≤ 536870912) (
  m_bnd (zt S65) (fun q66 =>
  m_bnd (zsNewA S65 q66 15 ((7 : Int32)).toNatClampNeg) (fun S67 =>
  m_chk (x0 ∈ zL S67 ∧ zK S67 x0 = 2) (
  m_bnd (zsP S67 11 x0 (some q66)) (fun S70 =>
  d_X2_init_116 mFuel x0 (0 : Int32) S70)))))))))))))))))))))))))))))))))))))))))))))))))))))))))
theorem tt_X2_init_0 {Pw : Int32 → ZS → Prop}   {x0 : Nat} {S : ZS} : Tw Pw (d_X2_init_0 x0 S) (zt S) (zu S) (fun C T => g_X2_init_0 Pw x0 S C T) := by
  unfold d_X2_init_0 g_X2_init_0
  refine tw_new (fun _ => ⟨congrArg (· + 1) (⟨rfl, rfl⟩ : zt S = zt S ∧ zu S = zu S).1, congrArg (· + _) (⟨rfl, rfl⟩ : zt S = zt S ∧ zu S = zu S).2⟩) (fun q1 S2 cS2 => ?_)
  refine tw_gal (fun Pw9 => tw_at cS2 tt_X8_init) (fun r6 S7 => ?_)
  refine tw_chk (fun _ => ?_)
  refine tw_bnds (⟨rfl, rfl⟩ : zt S7 = zt S7 ∧ zu S7 = zu S7) (fun S10 cS10 => ?_)
  refine tw_new (fun _ => ⟨congrArg (· + 1) cS10.1, congrArg (· + _) cS10.2⟩) (fun q11 S12 cS12 => ?_)
  refine tw_gal (fun Pw9 => tw_at cS12 tt_X5_init) (fun r16 S17 => ?_)
  refine tw_chk (fun _ => ?_)
  refine tw_bnds (⟨rfl, rfl⟩ : zt S17 = zt S17 ∧ zu S17 = zu S17) (fun S20 cS20 => ?_)
  refine tw_new (fun _ => ⟨congrArg (· + 1) cS20.1, congrArg (· + _) cS20.2⟩) (fun q21 S22 cS22 => ?_)
  refine tw_calf cS22 (fun o25 co25 => ?_)
  refine tw_chk (fun _ => ?_)
  refine tw_bnds co25 (fun S26 cS26 => ?_)
  refine tw_new (fun _ => ⟨congrArg (· + 1) cS26.1, congrArg (· + _) cS26.2⟩) (fun q27 S28 cS28 => ?_)
  refine tw_gal (fun Pw9 => tw_at cS28 tt_X1_init) (fun r32 S33 => ?_)
  refine tw_chk (fun _ => ?_)
  refine tw_bnds (⟨rfl, rfl⟩ : zt S33 = zt S33 ∧ zu S33 = zu S33) (fun S36 cS36 => ?_)
  refine tw_chk (fun _ => ?_)
  refine tw_bnds cS36 (fun S37 cS37 => ?_)
  refine tw_chk (fun _ => ?_)
  refine tw_bnds cS37 (fun S38 cS38 => ?_)
  refine tw_new (fun _ => ⟨congrArg (· + 1) cS38.1, congrArg (· + _) cS38.2⟩) (fun q39 S40 cS40 => ?_)
  refine tw_calf cS40 (fun o43 co43 => ?_)
  refine tw_chk (fun _ => ?_)
  refine tw_bnds co43 (fun S44 cS44 => ?_)
  refine tw_new (fun _ => ⟨congrArg (· + 1) cS44.1, congrArg (· + _) cS44.2⟩) (fun q45 S46 cS46 => ?_)
  refine tw_calf cS46 (fun o49 co49 => ?_)
  refine tw_chk (fun _ => ?_)
  refine tw_bnds co49 (fun S50 cS50 => ?_)
  refine tw_chk (fun _ => ?_)
  refine tw_new (fun _ => ⟨congrArg (· + 1) cS50.1, congrArg (· + _) cS50.2⟩) (fun q51 S52 cS52 => ?_)
  refine tw_chk (fun _ => ?_)
  refine tw_bnds cS52 (fun S55 cS55 => ?_)
  refine tw_chk (fun _ => ?_)
  refine tw_new (fun _ => ⟨congrArg (· + 1) cS55.1, congrArg (· + _) cS55.2⟩) (fun q56 S57 cS57 => ?_)
  refine tw_chk (fun _ => ?_)
  refine tw_bnds cS57 (fun S60 cS60 => ?_)
  refine tw_chk (fun _ => ?_)
  refine tw_new (fun _ => ⟨congrArg (· + 1) cS60.1, congrArg (· + _) cS60.2⟩) (fun q61 S62 cS62 => ?_)
  refine tw_chk (fun _ => ?_)
  refine tw_bnds cS62 (fun S65 cS65 => ?_)
  refine tw_chk (fun _ => ?_)
  refine tw_new (fun _ => ⟨congrArg (· + 1) cS65.1, congrArg (· + _) cS65.2⟩) (fun q66 S67 cS67 => ?_)
  refine tw_chk (fun _ => ?_)
  refine tw_bnds cS67 (fun S70 cS70 => ?_)
  exact tw_at cS70 (tt_X2_init_116)
def d_X2_init (x0 : Nat) (S : ZS) : Option (Int32 × ZS) := d_X2_init_0 x0 S
theorem tt_X2_init {Pw : Int32 → ZS → Prop} {x0 : Nat} {S : ZS} : Tw Pw (d_X2_init x0 S) (zt S) (zu S) (fun C T => g_X2_init x0 S C T Pw) := tt_X2_init_0
def d_X2_readName_128 (t0 : Int32) (S : ZS) : Option (Int32 × ZS) :=
  m_chk (vp_nar .boolean t0 = t0) (
  some (t0, S))
theorem tt_X2_readName_128 {Pw : Int32 → ZS → Prop}   {t0 : Int32} {S : ZS} : Tw Pw (d_X2_readName_128 t0 S) (zt S) (zu S) (fun C T => g_X2_readName_128 Pw t0 S C T) := by
  unfold d_X2_readName_128 g_X2_readName_128
  refine tw_chk (fun _ => ?_)
  exact tw_ret (⟨rfl, rfl⟩ : zt S = zt S ∧ zu S = zu S)
def d_X2_readName_123 (S : ZS) : Option (Int32 × ZS) :=
  d_X2_readName_128 (1 : Int32) S
theorem tt_X2_readName_123 {Pw : Int32 → ZS → Prop}   {S : ZS} : Tw Pw (d_X2_readName_123 S) (zt S) (zu S) (fun C T => g_X2_readName_123 Pw S C T) := by
  unfold d_X2_readName_123 g_X2_readName_123
  exact tw_at (⟨rfl, rfl⟩ : zt S = zt S ∧ zu S = zu S) (tt_X2_readName_128)
def d_X2_readName_101 (x0 : Nat) (S : ZS) : Option (Int32 × ZS) :=
  m_chk (x0 ∈ zL S ∧ zK S x0 = 2) (
  m_cal (zP S 6 x0) (fun b1 =>
  m_chk (b1 ∈ zL S ∧ zK S b1 = 6) (
  m_cal (f_X6_size b1 S) (fun o2 => m_chk (zt o2.2 = zt S ∧ zu o2.2 = zu S) (
  m_if (0 < o2.1) (
  d_X2_readName_123 o2.2
  ) (
  m_chk (x0 ∈ zL o2.2 ∧ zK o2.2 x0 = 2) (
  m_chk (x0 ∈ zL o2.2 ∧ zK o2.2 x0 = 2) (
  m_cal (f_X2_refuse x0 (1 : Int32) (zI o2.2 4 x0) o2.2) (fun o3 => m_chk (zt o3.2 = zt o2.2 ∧ zu o3.2 = zu o2.2) (
  m_if (o3.1 = 0) (
  d_X2_readName_128 (0 : Int32) o3.2
  ) (
  d_X2_readName_123 o3.2
  )))))
  ))))))
theorem tt_X2_readName_101 {Pw : Int32 → ZS → Prop}   {x0 : Nat} {S : ZS} : Tw Pw (d_X2_readName_101 x0 S) (zt S) (zu S) (fun C T => g_X2_readName_101 Pw x0 S C T) := by
  unfold d_X2_readName_101 g_X2_readName_101
  refine tw_chk (fun _ => ?_)
  refine tw_calv (fun b1 => ?_)
  refine tw_chk (fun _ => ?_)
  refine tw_calf (⟨rfl, rfl⟩ : zt S = zt S ∧ zu S = zu S) (fun o2 co2 => ?_)
  refine tw_if (fun _ => ?_) (fun _ => ?_)
  ·
    exact tw_at co2 (tt_X2_readName_123)
  ·
    refine tw_chk (fun _ => ?_)
    refine tw_chk (fun _ => ?_)
    refine tw_calf co2 (fun o3 co3 => ?_)
    refine tw_if (fun _ => ?_) (fun _ => ?_)
    ·
      exact tw_at co3 (tt_X2_readName_128)
    ·
      exact tw_at co3 (tt_X2_readName_123)
def d_X2_readName_70 (self22 : Nat → ZS → Option (Int32 × ZS)) (x0 : Nat) (S : ZS) : Option (Int32 × ZS) :=
  m_chk (x0 ∈ zL S ∧ zK S x0 = 2) (
  m_cal (zP S 6 x0) (fun b1 =>
  m_chk (x0 ∈ zL S ∧ zK S x0 = 2) (
  m_cal (zP S 2 x0) (fun b2 =>
  m_chk (x0 ∈ zL S ∧ zK S x0 = 2) (
  m_chk (b2 ∈ zL S ∧ zK S b2 = 6) (
  m_cal (f_X6_at b2 (zI S 4 x0) S) (fun o3 => m_chk (zt o3.2 = zt S ∧ zu o3.2 = zu S) (
  m_chk (b1 ∈ zL o3.2 ∧ zK o3.2 b1 = 6) (
  m_cal2 (d_X6_put b1 o3.1 o3.2) (fun r5 S6 =>
  m_chk (x0 ∈ zL S6 ∧ zK S6 x0 = 2) (
  m_bnd ((zI S6 4 x0) + (1 : Int32)) (fun v9 =>
  m_chk (x0 ∈ zL S6 ∧ zK S6 x0 = 2) (
  m_bnd (zsI S6 4 x0 v9) (fun S10 =>
  self22 x0 S10))))))))))))))
theorem tt_X2_readName_70 {Pw : Int32 → ZS → Prop} {self22 : Nat → ZS → Option (Int32 × ZS)} {self22g : Nat → ZS → Nat → Nat → Prop} (hself22 : ∀ (y0 : Nat) (S : ZS), Tw Pw (self22 y0 S) (zt S) (zu S) (fun C T => self22g y0 S C T)) {x0 : Nat} {S : ZS} : Tw Pw (d_X2_readName_70 self22 x0 S) (zt S) (zu S) (fun C T => g_X2_readName_70 Pw self22g x0 S C T) := by
  unfold d_X2_readName_70 g_X2_readName_70
  refine tw_chk (fun _ => ?_)
  refine tw_calv (fun b1 => ?_)
  refine tw_chk (fun _ => ?_)
  refine tw_calv (fun b2 => ?_)
  refine tw_chk (fun _ => ?_)
  refine tw_chk (fun _ => ?_)
  refine tw_calf (⟨rfl, rfl⟩ : zt S = zt S ∧ zu S = zu S) (fun o3 co3 => ?_)
  refine tw_chk (fun _ => ?_)
  refine tw_gal (fun Pw9 => tw_at co3 tt_X6_put) (fun r5 S6 => ?_)
  refine tw_chk (fun _ => ?_)
  refine tw_bndv (fun v9 => ?_)
  refine tw_chk (fun _ => ?_)
  refine tw_bnds (⟨rfl, rfl⟩ : zt S6 = zt S6 ∧ zu S6 = zu S6) (fun S10 cS10 => ?_)
  exact tw_at cS10 (hself22 _ _)
def d_X2_readName_22s (self22 : Nat → ZS → Option (Int32 × ZS)) (x0 : Nat) (S : ZS) : Option (Int32 × ZS) :=
  m_chk (x0 ∈ zL S ∧ zK S x0 = 2) (
  m_chk (x0 ∈ zL S ∧ zK S x0 = 2) (
  m_cal (zP S 2 x0) (fun b1 =>
  m_chk (b1 ∈ zL S ∧ zK S b1 = 6) (
  m_cal (f_X6_size b1 S) (fun o2 => m_chk (zt o2.2 = zt S ∧ zu o2.2 = zu S) (
  m_if (o2.1 ≤ (zI S 4 x0)) (
  d_X2_readName_101 x0 o2.2
  ) (
  m_chk (x0 ∈ zL o2.2 ∧ zK o2.2 x0 = 2) (
  m_cal (zP o2.2 2 x0) (fun b3 =>
  m_chk (x0 ∈ zL o2.2 ∧ zK o2.2 x0 = 2) (
  m_chk (b3 ∈ zL o2.2 ∧ zK o2.2 b3 = 6) (
  m_cal (f_X6_at b3 (zI o2.2 4 x0) o2.2) (fun o4 => m_chk (zt o4.2 = zt o2.2 ∧ zu o4.2 = zu o2.2) (
  m_cal (f_X11_isLetter o4.1 o4.2) (fun o5 => m_chk (zt o5.2 = zt o4.2 ∧ zu o5.2 = zu o4.2) (
  m_if (o5.1 = 0) (
  m_chk (x0 ∈ zL o5.2 ∧ zK o5.2 x0 = 2) (
  m_cal (zP o5.2 2 x0) (fun b6 =>
  m_chk (x0 ∈ zL o5.2 ∧ zK o5.2 x0 = 2) (
  m_chk (b6 ∈ zL o5.2 ∧ zK o5.2 b6 = 6) (
  m_cal (f_X6_at b6 (zI o5.2 4 x0) o5.2) (fun o7 => m_chk (zt o7.2 = zt o5.2 ∧ zu o7.2 = zu o5.2) (
  m_cal (f_X11_isDigit o7.1 o7.2) (fun o8 => m_chk (zt o8.2 = zt o7.2 ∧ zu o8.2 = zu o7.2) (
  m_if (o8.1 = 0) (
  d_X2_readName_101 x0 o8.2
  ) (
  d_X2_readName_70 self22 x0 o8.2
  )))))))))
  ) (
  d_X2_readName_70 self22 x0 o5.2
  )))))))))
  )))))))
theorem tt_X2_readName_22s {Pw : Int32 → ZS → Prop} {self22 : Nat → ZS → Option (Int32 × ZS)} {self22g : Nat → ZS → Nat → Nat → Prop} (hself22 : ∀ (y0 : Nat) (S : ZS), Tw Pw (self22 y0 S) (zt S) (zu S) (fun C T => self22g y0 S C T)) {x0 : Nat} {S : ZS} : Tw Pw (d_X2_readName_22s self22 x0 S) (zt S) (zu S) (fun C T => g_X2_readName_22s Pw self22g x0 S C T) := by
  unfold d_X2_readName_22s g_X2_readName_22s
  refine tw_chk (fun _ => ?_)
  refine tw_chk (fun _ => ?_)
  refine tw_calv (fun b1 => ?_)
  refine tw_chk (fun _ => ?_)
  refine tw_calf (⟨rfl, rfl⟩ : zt S = zt S ∧ zu S = zu S) (fun o2 co2 => ?_)
  refine tw_if (fun _ => ?_) (fun _ => ?_)
  ·
    exact tw_at co2 (tt_X2_readName_101)
  ·
    refine tw_chk (fun _ => ?_)
    refine tw_calv (fun b3 => ?_)
    refine tw_chk (fun _ => ?_)
    refine tw_chk (fun _ => ?_)
    refine tw_calf co2 (fun o4 co4 => ?_)
    refine tw_calf co4 (fun o5 co5 => ?_)
    refine tw_if (fun _ => ?_) (fun _ => ?_)
    ·
      refine tw_chk (fun _ => ?_)
      refine tw_calv (fun b6 => ?_)
      refine tw_chk (fun _ => ?_)
      refine tw_chk (fun _ => ?_)
      refine tw_calf co5 (fun o7 co7 => ?_)
      refine tw_calf co7 (fun o8 co8 => ?_)
      refine tw_if (fun _ => ?_) (fun _ => ?_)
      ·
        exact tw_at co8 (tt_X2_readName_101)
      ·
        exact tw_at co8 (tt_X2_readName_70 hself22)
    ·
      exact tw_at co5 (tt_X2_readName_70 hself22)
def d_X2_readName_22  : Nat → Nat → ZS → Option (Int32 × ZS)
  | 0 => fun _ _ => none
  | n + 1 => d_X2_readName_22s  (d_X2_readName_22  n)
theorem tt_X2_readName_22 {Pw : Int32 → ZS → Prop}   {n : Nat} : ∀ {z0 : Nat} {S : ZS}, Tw Pw (d_X2_readName_22  n z0 S) (zt S) (zu S) (fun C T => g_X2_readName_22 Pw  n z0 S C T) := by
  induction n with
  | zero => intro z0 S; exact tw_none
  | succ n ih => intro z0 S; exact tt_X2_readName_22s  (fun _ _ => ih)
def d_X2_readName_0 (x0 : Nat) (S : ZS) : Option (Int32 × ZS) :=
  m_chk (x0 ∈ zL S ∧ zK S x0 = 2) (
  m_bnd ((zI S 4 x0) + (1 : Int32)) (fun v1 =>
  m_chk (x0 ∈ zL S ∧ zK S x0 = 2) (
  m_bnd (zsI S 4 x0 v1) (fun S2 =>
  m_chk (x0 ∈ zL S2 ∧ zK S2 x0 = 2) (
  m_cal (f_X2_skipBlanks x0 S2) (fun o3 => m_chk (zt o3.2 = zt S2 ∧ zu o3.2 = zu S2) (
  m_chk (x0 ∈ zL o3.2 ∧ zK o3.2 x0 = 2) (
  m_cal (zP o3.2 6 x0) (fun b4 =>
  m_chk (b4 ∈ zL o3.2 ∧ zK o3.2 b4 = 6) (
  m_cal (f_X6_keep b4 (0 : Int32) o3.2) (fun o5 => m_chk (zt o5.2 = zt o3.2 ∧ zu o5.2 = zu o3.2) (
  d_X2_readName_22 mFuel x0 o5.2))))))))))))
theorem tt_X2_readName_0 {Pw : Int32 → ZS → Prop}   {x0 : Nat} {S : ZS} : Tw Pw (d_X2_readName_0 x0 S) (zt S) (zu S) (fun C T => g_X2_readName_0 Pw x0 S C T) := by
  unfold d_X2_readName_0 g_X2_readName_0
  refine tw_chk (fun _ => ?_)
  refine tw_bndv (fun v1 => ?_)
  refine tw_chk (fun _ => ?_)
  refine tw_bnds (⟨rfl, rfl⟩ : zt S = zt S ∧ zu S = zu S) (fun S2 cS2 => ?_)
  refine tw_chk (fun _ => ?_)
  refine tw_calf cS2 (fun o3 co3 => ?_)
  refine tw_chk (fun _ => ?_)
  refine tw_calv (fun b4 => ?_)
  refine tw_chk (fun _ => ?_)
  refine tw_calf co3 (fun o5 co5 => ?_)
  exact tw_at co5 (tt_X2_readName_22)
def d_X2_readName (x0 : Nat) (S : ZS) : Option (Int32 × ZS) := d_X2_readName_0 x0 S
theorem tt_X2_readName {Pw : Int32 → ZS → Prop} {x0 : Nat} {S : ZS} : Tw Pw (d_X2_readName x0 S) (zt S) (zu S) (fun C T => g_X2_readName x0 S C T Pw) := tt_X2_readName_0
def d_X2_readValue_142 (self48 : Nat → ZS → Option (Int32 × ZS)) (x0 : Nat) (x1 : Int32) (S : ZS) : Option (Int32 × ZS) :=
  m_if (x1 = (10 : Int32)) (
  m_chk (x0 ∈ zL S ∧ zK S x0 = 2) (
  m_chk (x0 ∈ zL S ∧ zK S x0 = 2) (
  m_cal (f_X2_refuse x0 (1 : Int32) (zI S 4 x0) S) (fun o9 => m_chk (zt o9.2 = zt S ∧ zu o9.2 = zu S) (
  m_chk (vp_nar .boolean o9.1 = o9.1) (
  some (o9.1, o9.2))))))
  ) (
  m_chk (x0 ∈ zL S ∧ zK S x0 = 2) (
  m_cal (zP S 7 x0) (fun b1 =>
  m_chk (b1 ∈ zL S ∧ zK S b1 = 6) (
  m_cal2 (d_X6_put b1 x1 S) (fun r3 S4 =>
  m_chk (x0 ∈ zL S4 ∧ zK S4 x0 = 2) (
  m_bnd ((zI S4 4 x0) + (1 : Int32)) (fun v7 =>
  m_chk (x0 ∈ zL S4 ∧ zK S4 x0 = 2) (
  m_bnd (zsI S4 4 x0 v7) (fun S8 =>
  self48 x0 S8))))))))
  )
theorem tt_X2_readValue_142 {Pw : Int32 → ZS → Prop} {self48 : Nat → ZS → Option (Int32 × ZS)} {self48g : Nat → ZS → Nat → Nat → Prop} (hself48 : ∀ (y0 : Nat) (S : ZS), Tw Pw (self48 y0 S) (zt S) (zu S) (fun C T => self48g y0 S C T)) {x0 : Nat} {x1 : Int32} {S : ZS} : Tw Pw (d_X2_readValue_142 self48 x0 x1 S) (zt S) (zu S) (fun C T => g_X2_readValue_142 Pw self48g x0 x1 S C T) := by
  unfold d_X2_readValue_142 g_X2_readValue_142
  refine tw_if (fun _ => ?_) (fun _ => ?_)
  ·
    refine tw_chk (fun _ => ?_)
    refine tw_chk (fun _ => ?_)
    refine tw_calf (⟨rfl, rfl⟩ : zt S = zt S ∧ zu S = zu S) (fun o9 co9 => ?_)
    refine tw_chk (fun _ => ?_)
    exact tw_ret co9
  ·
    refine tw_chk (fun _ => ?_)
    refine tw_calv (fun b1 => ?_)
    refine tw_chk (fun _ => ?_)
    refine tw_gal (fun Pw9 => tw_at (⟨rfl, rfl⟩ : zt S = zt S ∧ zu S = zu S) tt_X6_put) (fun r3 S4 => ?_)
    refine tw_chk (fun _ => ?_)
    refine tw_bndv (fun v7 => ?_)
    refine tw_chk (fun _ => ?_)
    refine tw_bnds (⟨rfl, rfl⟩ : zt S4 = zt S4 ∧ zu S4 = zu S4) (fun S8 cS8 => ?_)
    exact tw_at cS8 (hself48 _ _)
def d_X2_readValue_48s (self48 : Nat → ZS → Option (Int32 × ZS)) (x0 : Nat) (S : ZS) : Option (Int32 × ZS) :=
  m_chk (x0 ∈ zL S ∧ zK S x0 = 2) (
  m_chk (x0 ∈ zL S ∧ zK S x0 = 2) (
  m_cal (zP S 2 x0) (fun b1 =>
  m_chk (b1 ∈ zL S ∧ zK S b1 = 6) (
  m_cal (f_X6_size b1 S) (fun o2 => m_chk (zt o2.2 = zt S ∧ zu o2.2 = zu S) (
  m_if (o2.1 ≤ (zI S 4 x0)) (
  m_chk (x0 ∈ zL o2.2 ∧ zK o2.2 x0 = 2) (
  m_chk (x0 ∈ zL o2.2 ∧ zK o2.2 x0 = 2) (
  m_cal (f_X2_refuse x0 (1 : Int32) (zI o2.2 4 x0) o2.2) (fun o3 => m_chk (zt o3.2 = zt o2.2 ∧ zu o3.2 = zu o2.2) (
  m_chk (vp_nar .boolean o3.1 = o3.1) (
  some (o3.1, o3.2))))))
  ) (
  m_chk (x0 ∈ zL o2.2 ∧ zK o2.2 x0 = 2) (
  m_cal (zP o2.2 2 x0) (fun b4 =>
  m_chk (x0 ∈ zL o2.2 ∧ zK o2.2 x0 = 2) (
  m_chk (b4 ∈ zL o2.2 ∧ zK o2.2 b4 = 6) (
  m_cal (f_X6_at b4 (zI o2.2 4 x0) o2.2) (fun o5 => m_chk (zt o5.2 = zt o2.2 ∧ zu o5.2 = zu o2.2) (
  m_if (o5.1 = (34 : Int32)) (
  m_chk (x0 ∈ zL o5.2 ∧ zK o5.2 x0 = 2) (
  m_bnd ((zI o5.2 4 x0) + (1 : Int32)) (fun v11 =>
  m_chk (x0 ∈ zL o5.2 ∧ zK o5.2 x0 = 2) (
  m_bnd (zsI o5.2 4 x0 v11) (fun S12 =>
  m_chk (vp_nar .boolean (1 : Int32) = (1 : Int32)) (
  some ((1 : Int32), S12))))))
  ) (
  m_if (o5.1 = (92 : Int32)) (
  m_chk (x0 ∈ zL o5.2 ∧ zK o5.2 x0 = 2) (
  m_bnd ((zI o5.2 4 x0) + (1 : Int32)) (fun v6 =>
  m_chk (x0 ∈ zL o5.2 ∧ zK o5.2 x0 = 2) (
  m_bnd (zsI o5.2 4 x0 v6) (fun S7 =>
  m_chk (x0 ∈ zL S7 ∧ zK S7 x0 = 2) (
  m_cal (zP S7 2 x0) (fun b8 =>
  m_chk (x0 ∈ zL S7 ∧ zK S7 x0 = 2) (
  m_chk (b8 ∈ zL S7 ∧ zK S7 b8 = 6) (
  m_cal (f_X6_at b8 (zI S7 4 x0) S7) (fun o9 => m_chk (zt o9.2 = zt S7 ∧ zu o9.2 = zu S7) (
  m_if (o9.1 = (34 : Int32)) (
  d_X2_readValue_142 self48 x0 o9.1 o9.2
  ) (
  m_if (o9.1 = (92 : Int32)) (
  d_X2_readValue_142 self48 x0 o9.1 o9.2
  ) (
  m_chk (x0 ∈ zL o9.2 ∧ zK o9.2 x0 = 2) (
  m_chk (x0 ∈ zL o9.2 ∧ zK o9.2 x0 = 2) (
  m_cal (f_X2_refuse x0 (1 : Int32) (zI o9.2 4 x0) o9.2) (fun o10 => m_chk (zt o10.2 = zt o9.2 ∧ zu o10.2 = zu o9.2) (
  m_chk (vp_nar .boolean o10.1 = o10.1) (
  some (o10.1, o10.2))))))
  )
  )))))))))))
  ) (
  d_X2_readValue_142 self48 x0 o5.1 o5.2
  )
  )))))))
  )))))))
theorem tt_X2_readValue_48s {Pw : Int32 → ZS → Prop} {self48 : Nat → ZS → Option (Int32 × ZS)} {self48g : Nat → ZS → Nat → Nat → Prop} (hself48 : ∀ (y0 : Nat) (S : ZS), Tw Pw (self48 y0 S) (zt S) (zu S) (fun C T => self48g y0 S C T)) {x0 : Nat} {S : ZS} : Tw Pw (d_X2_readValue_48s self48 x0 S) (zt S) (zu S) (fun C T => g_X2_readValue_48s Pw self48g x0 S C T) := by
  unfold d_X2_readValue_48s g_X2_readValue_48s
  refine tw_chk (fun _ => ?_)
  refine tw_chk (fun _ => ?_)
  refine tw_calv (fun b1 => ?_)
  refine tw_chk (fun _ => ?_)
  refine tw_calf (⟨rfl, rfl⟩ : zt S = zt S ∧ zu S = zu S) (fun o2 co2 => ?_)
  refine tw_if (fun _ => ?_) (fun _ => ?_)
  ·
    refine tw_chk (fun _ => ?_)
    refine tw_chk (fun _ => ?_)
    refine tw_calf co2 (fun o3 co3 => ?_)
    refine tw_chk (fun _ => ?_)
    exact tw_ret co3
  ·
    refine tw_chk (fun _ => ?_)
    refine tw_calv (fun b4 => ?_)
    refine tw_chk (fun _ => ?_)
    refine tw_chk (fun _ => ?_)
    refine tw_calf co2 (fun o5 co5 => ?_)
    refine tw_if (fun _ => ?_) (fun _ => ?_)
    ·
      refine tw_chk (fun _ => ?_)
      refine tw_bndv (fun v11 => ?_)
      refine tw_chk (fun _ => ?_)
      refine tw_bnds co5 (fun S12 cS12 => ?_)
      refine tw_chk (fun _ => ?_)
      exact tw_ret cS12
    ·
      refine tw_if (fun _ => ?_) (fun _ => ?_)
      ·
        refine tw_chk (fun _ => ?_)
        refine tw_bndv (fun v6 => ?_)
        refine tw_chk (fun _ => ?_)
        refine tw_bnds co5 (fun S7 cS7 => ?_)
        refine tw_chk (fun _ => ?_)
        refine tw_calv (fun b8 => ?_)
        refine tw_chk (fun _ => ?_)
        refine tw_chk (fun _ => ?_)
        refine tw_calf cS7 (fun o9 co9 => ?_)
        refine tw_if (fun _ => ?_) (fun _ => ?_)
        ·
          exact tw_at co9 (tt_X2_readValue_142 hself48)
        ·
          refine tw_if (fun _ => ?_) (fun _ => ?_)
          ·
            exact tw_at co9 (tt_X2_readValue_142 hself48)
          ·
            refine tw_chk (fun _ => ?_)
            refine tw_chk (fun _ => ?_)
            refine tw_calf co9 (fun o10 co10 => ?_)
            refine tw_chk (fun _ => ?_)
            exact tw_ret co10
      ·
        exact tw_at co5 (tt_X2_readValue_142 hself48)
def d_X2_readValue_48  : Nat → Nat → ZS → Option (Int32 × ZS)
  | 0 => fun _ _ => none
  | n + 1 => d_X2_readValue_48s  (d_X2_readValue_48  n)
theorem tt_X2_readValue_48 {Pw : Int32 → ZS → Prop}   {n : Nat} : ∀ {z0 : Nat} {S : ZS}, Tw Pw (d_X2_readValue_48  n z0 S) (zt S) (zu S) (fun C T => g_X2_readValue_48 Pw  n z0 S C T) := by
  induction n with
  | zero => intro z0 S; exact tw_none
  | succ n ih => intro z0 S; exact tt_X2_readValue_48s  (fun _ _ => ih)
def d_X2_readValue_0 (x0 : Nat) (S : ZS) : Option (Int32 × ZS) :=
  m_chk (x0 ∈ zL S ∧ zK S x0 = 2) (
  m_cal (f_X2_skipBlanks x0 S) (fun o1 => m_chk (zt o1.2 = zt S ∧ zu o1.2 = zu S) (
  m_chk (x0 ∈ zL o1.2 ∧ zK o1.2 x0 = 2) (
  m_cal (zP o1.2 2 x0) (fun b2 =>
  m_chk (x0 ∈ zL o1.2 ∧ zK o1.2 x0 = 2) (
  m_chk (b2 ∈ zL o1.2 ∧ zK o1.2 b2 = 6) (
  m_cal (f_X6_at b2 (zI o1.2 4 x0) o1.2) (fun o3 => m_chk (zt o3.2 = zt o1.2 ∧ zu o3.2 = zu o1.2) (
  m_if (o3.1 = (34 : Int32)) (
  m_chk (x0 ∈ zL o3.2 ∧ zK o3.2 x0 = 2) (
  m_cal (zP o3.2 7 x0) (fun b4 =>
  m_chk (b4 ∈ zL o3.2 ∧ zK o3.2 b4 = 6) (
  m_cal (f_X6_keep b4 (0 : Int32) o3.2) (fun o5 => m_chk (zt o5.2 = zt o3.2 ∧ zu o5.2 = zu o3.2) (
  m_chk (x0 ∈ zL o5.2 ∧ zK o5.2 x0 = 2) (
  m_bnd ((zI o5.2 4 x0) + (1 : Int32)) (fun v6 =>
  m_chk (x0 ∈ zL o5.2 ∧ zK o5.2 x0 = 2) (
  m_bnd (zsI o5.2 4 x0 v6) (fun S7 =>
  d_X2_readValue_48 mFuel x0 S7)))))))))
  ) (
  m_chk (x0 ∈ zL o3.2 ∧ zK o3.2 x0 = 2) (
  m_chk (x0 ∈ zL o3.2 ∧ zK o3.2 x0 = 2) (
  m_cal (f_X2_refuse x0 (1 : Int32) (zI o3.2 4 x0) o3.2) (fun o8 => m_chk (zt o8.2 = zt o3.2 ∧ zu o8.2 = zu o3.2) (
  m_chk (vp_nar .boolean o8.1 = o8.1) (
  some (o8.1, o8.2))))))
  ))))))))))
theorem tt_X2_readValue_0 {Pw : Int32 → ZS → Prop}   {x0 : Nat} {S : ZS} : Tw Pw (d_X2_readValue_0 x0 S) (zt S) (zu S) (fun C T => g_X2_readValue_0 Pw x0 S C T) := by
  unfold d_X2_readValue_0 g_X2_readValue_0
  refine tw_chk (fun _ => ?_)
  refine tw_calf (⟨rfl, rfl⟩ : zt S = zt S ∧ zu S = zu S) (fun o1 co1 => ?_)
  refine tw_chk (fun _ => ?_)
  refine tw_calv (fun b2 => ?_)
  refine tw_chk (fun _ => ?_)
  refine tw_chk (fun _ => ?_)
  refine tw_calf co1 (fun o3 co3 => ?_)
  refine tw_if (fun _ => ?_) (fun _ => ?_)
  ·
    refine tw_chk (fun _ => ?_)
    refine tw_calv (fun b4 => ?_)
    refine tw_chk (fun _ => ?_)
    refine tw_calf co3 (fun o5 co5 => ?_)
    refine tw_chk (fun _ => ?_)
    refine tw_bndv (fun v6 => ?_)
    refine tw_chk (fun _ => ?_)
    refine tw_bnds co5 (fun S7 cS7 => ?_)
    exact tw_at cS7 (tt_X2_readValue_48)
  ·
    refine tw_chk (fun _ => ?_)
    refine tw_chk (fun _ => ?_)
    refine tw_calf co3 (fun o8 co8 => ?_)
    refine tw_chk (fun _ => ?_)
    exact tw_ret co8
def d_X2_readValue (x0 : Nat) (S : ZS) : Option (Int32 × ZS) := d_X2_readValue_0 x0 S
theorem tt_X2_readValue {Pw : Int32 → ZS → Prop} {x0 : Nat} {S : ZS} : Tw Pw (d_X2_readValue x0 S) (zt S) (zu S) (fun C T => g_X2_readValue x0 S C T Pw) := tt_X2_readValue_0
def d_X2_readTag_19 (S : ZS) : Option (Int32 × ZS) :=
  m_chk (vp_nar .boolean (0 : Int32) = (0 : Int32)) (
  some ((0 : Int32), S))
theorem tt_X2_readTag_19 {Pw : Int32 → ZS → Prop}   {S : ZS} : Tw Pw (d_X2_readTag_19 S) (zt S) (zu S) (fun C T => g_X2_readTag_19 Pw S C T) := by
  unfold d_X2_readTag_19 g_X2_readTag_19
  refine tw_chk (fun _ => ?_)
  exact tw_ret (⟨rfl, rfl⟩ : zt S = zt S ∧ zu S = zu S)
def d_X2_readTag_111 (x0 : Nat) (x1 : Int32) (S : ZS) : Option (Int32 × ZS) :=
  m_chk (x0 ∈ zL S ∧ zK S x0 = 2) (
  m_cal (f_X2_refuse x0 (2 : Int32) x1 S) (fun o1 => m_chk (zt o1.2 = zt S ∧ zu o1.2 = zu S) (
  m_chk (vp_nar .boolean o1.1 = o1.1) (
  some (o1.1, o1.2)))))
theorem tt_X2_readTag_111 {Pw : Int32 → ZS → Prop}   {x0 : Nat} {x1 : Int32} {S : ZS} : Tw Pw (d_X2_readTag_111 x0 x1 S) (zt S) (zu S) (fun C T => g_X2_readTag_111 Pw x0 x1 S C T) := by
  unfold d_X2_readTag_111 g_X2_readTag_111
  refine tw_chk (fun _ => ?_)
  refine tw_calf (⟨rfl, rfl⟩ : zt S = zt S ∧ zu S = zu S) (fun o1 co1 => ?_)
  refine tw_chk (fun _ => ?_)
  exact tw_ret co1
def d_X2_readTag_158 (x0 : Nat) (S : ZS) : Option (Int32 × ZS) :=
  m_chk (x0 ∈ zL S ∧ zK S x0 = 2) (
  m_cal (zP S 3 x0) (fun b1 =>
  m_chk (x0 ∈ zL S ∧ zK S x0 = 2) (
  m_cal (zP S 6 x0) (fun b2 =>
  m_chk (x0 ∈ zL S ∧ zK S x0 = 2) (
  m_cal (zP S 7 x0) (fun b3 =>
  m_chk (b1 ∈ zL S ∧ zK S b1 = 1) (
  m_cal2 (d_X1_putTag b1 b2 b3 S) (fun r5 S6 =>
  m_chk (vp_nar .boolean (1 : Int32) = (1 : Int32)) (
  some ((1 : Int32), S6))))))))))
theorem tt_X2_readTag_158 {Pw : Int32 → ZS → Prop}   {x0 : Nat} {S : ZS} : Tw Pw (d_X2_readTag_158 x0 S) (zt S) (zu S) (fun C T => g_X2_readTag_158 Pw x0 S C T) := by
  unfold d_X2_readTag_158 g_X2_readTag_158
  refine tw_chk (fun _ => ?_)
  refine tw_calv (fun b1 => ?_)
  refine tw_chk (fun _ => ?_)
  refine tw_calv (fun b2 => ?_)
  refine tw_chk (fun _ => ?_)
  refine tw_calv (fun b3 => ?_)
  refine tw_chk (fun _ => ?_)
  refine tw_gal (fun Pw9 => tw_at (⟨rfl, rfl⟩ : zt S = zt S ∧ zu S = zu S) tt_X1_putTag) (fun r5 S6 => ?_)
  refine tw_chk (fun _ => ?_)
  exact tw_ret (⟨rfl, rfl⟩ : zt S6 = zt S6 ∧ zu S6 = zu S6)
def d_X2_readTag_0 (x0 : Nat) (S : ZS) : Option (Int32 × ZS) :=
  m_chk (x0 ∈ zL S ∧ zK S x0 = 2) (
  m_chk (x0 ∈ zL S ∧ zK S x0 = 2) (
  m_cal2 (d_X2_readName x0 S) (fun r2 S3 =>
  m_if (r2 = 0) (
  d_X2_readTag_19 S3
  ) (
  m_chk (x0 ∈ zL S3 ∧ zK S3 x0 = 2) (
  m_cal2 (d_X2_readValue x0 S3) (fun r7 S8 =>
  m_if (r7 = 0) (
  d_X2_readTag_19 S8
  ) (
  m_chk (x0 ∈ zL S8 ∧ zK S8 x0 = 2) (
  m_cal (f_X2_skipBlanks x0 S8) (fun o11 => m_chk (zt o11.2 = zt S8 ∧ zu o11.2 = zu S8) (
  m_chk (x0 ∈ zL o11.2 ∧ zK o11.2 x0 = 2) (
  m_cal (zP o11.2 2 x0) (fun b12 =>
  m_chk (x0 ∈ zL o11.2 ∧ zK o11.2 x0 = 2) (
  m_chk (b12 ∈ zL o11.2 ∧ zK o11.2 b12 = 6) (
  m_cal (f_X6_at b12 (zI o11.2 4 x0) o11.2) (fun o13 => m_chk (zt o13.2 = zt o11.2 ∧ zu o13.2 = zu o11.2) (
  m_if (o13.1 = (93 : Int32)) (
  m_chk (x0 ∈ zL o13.2 ∧ zK o13.2 x0 = 2) (
  m_bnd ((zI o13.2 4 x0) + (1 : Int32)) (fun v14 =>
  m_chk (x0 ∈ zL o13.2 ∧ zK o13.2 x0 = 2) (
  m_bnd (zsI o13.2 4 x0 v14) (fun S15 =>
  m_chk (x0 ∈ zL S15 ∧ zK S15 x0 = 2) (
  m_cal (zP S15 3 x0) (fun b16 =>
  m_chk (b16 ∈ zL S15 ∧ zK S15 b16 = 1) (
  m_if ((8 : Int32) ≤ (zI S15 5 b16)) (
  d_X2_readTag_111 x0 (zI S 4 x0) S15
  ) (
  m_chk (x0 ∈ zL S15 ∧ zK S15 x0 = 2) (
  m_cal (zP S15 6 x0) (fun b17 =>
  m_chk (b17 ∈ zL S15 ∧ zK S15 b17 = 6) (
  m_cal (f_X6_size b17 S15) (fun o18 => m_chk (zt o18.2 = zt S15 ∧ zu o18.2 = zu S15) (
  m_if ((12 : Int32) < o18.1) (
  d_X2_readTag_111 x0 (zI S 4 x0) o18.2
  ) (
  m_chk (x0 ∈ zL o18.2 ∧ zK o18.2 x0 = 2) (
  m_cal (zP o18.2 3 x0) (fun b19 =>
  m_chk (x0 ∈ zL o18.2 ∧ zK o18.2 x0 = 2) (
  m_cal (zP o18.2 6 x0) (fun b20 =>
  m_chk (b19 ∈ zL o18.2 ∧ zK o18.2 b19 = 1) (
  m_cal2 (d_X1_hasTag b19 b20 o18.2) (fun r22 S23 =>
  m_if (r22 = 0) (
  m_chk (x0 ∈ zL S23 ∧ zK S23 x0 = 2) (
  m_cal (zP S23 7 x0) (fun b26 =>
  m_chk (b26 ∈ zL S23 ∧ zK S23 b26 = 6) (
  m_cal (f_X6_size b26 S23) (fun o27 => m_chk (zt o27.2 = zt S23 ∧ zu o27.2 = zu S23) (
  m_if (o27.1 ≤ (96 : Int32)) (
  m_chk (x0 ∈ zL o27.2 ∧ zK o27.2 x0 = 2) (
  m_cal (zP o27.2 6 x0) (fun b28 =>
  m_chk (b28 ∈ zL o27.2 ∧ zK o27.2 b28 = 6) (
  m_cal (f_X6_is b28 0 o27.2) (fun o29 => m_chk (zt o29.2 = zt o27.2 ∧ zu o29.2 = zu o27.2) (
  m_if (o29.1 = 0) (
  d_X2_readTag_158 x0 o29.2
  ) (
  m_chk (x0 ∈ zL o29.2 ∧ zK o29.2 x0 = 2) (
  m_cal (zP o29.2 1 x0) (fun b30 =>
  m_chk (x0 ∈ zL o29.2 ∧ zK o29.2 x0 = 2) (
  m_cal (zP o29.2 3 x0) (fun b31 =>
  m_chk (b31 ∈ zL o29.2 ∧ zK o29.2 b31 = 1) (
  m_cal (zP o29.2 0 b31) (fun b32 =>
  m_chk (x0 ∈ zL o29.2 ∧ zK o29.2 x0 = 2) (
  m_cal (zP o29.2 7 x0) (fun b33 =>
  m_chk (b30 ∈ zL o29.2 ∧ zK o29.2 b30 = 5) (
  m_cal (f_X5_readInto b30 b32 b33 o29.2) (fun o34 => m_chk (zt o34.2 = zt o29.2 ∧ zu o34.2 = zu o29.2) (
  m_if (o34.1 = 0) (
  m_chk (x0 ∈ zL o34.2 ∧ zK o34.2 x0 = 2) (
  m_cal (f_X2_refuse x0 (3 : Int32) (zI S 4 x0) o34.2) (fun o35 => m_chk (zt o35.2 = zt o34.2 ∧ zu o35.2 = zu o34.2) (
  m_chk (vp_nar .boolean o35.1 = o35.1) (
  some (o35.1, o35.2)))))
  ) (
  d_X2_readTag_158 x0 o34.2
  ))))))))))))
  ))))))
  ) (
  d_X2_readTag_111 x0 (zI S 4 x0) o27.2
  ))))))
  ) (
  d_X2_readTag_111 x0 (zI S 4 x0) S23
  )))))))
  ))))))
  ))))))))
  ) (
  m_chk (x0 ∈ zL o13.2 ∧ zK o13.2 x0 = 2) (
  m_chk (x0 ∈ zL o13.2 ∧ zK o13.2 x0 = 2) (
  m_cal (f_X2_refuse x0 (1 : Int32) (zI o13.2 4 x0) o13.2) (fun o36 => m_chk (zt o36.2 = zt o13.2 ∧ zu o36.2 = zu o13.2) (
  m_chk (vp_nar .boolean o36.1 = o36.1) (
  some (o36.1, o36.2))))))
  ))))))))))
  )))
  ))))
theorem tt_X2_readTag_0 {Pw : Int32 → ZS → Prop}   {x0 : Nat} {S : ZS} : Tw Pw (d_X2_readTag_0 x0 S) (zt S) (zu S) (fun C T => g_X2_readTag_0 Pw x0 S C T) := by
  unfold d_X2_readTag_0 g_X2_readTag_0
  refine tw_chk (fun _ => ?_)
  refine tw_chk (fun _ => ?_)
  refine tw_gal (fun Pw9 => tw_at (⟨rfl, rfl⟩ : zt S = zt S ∧ zu S = zu S) tt_X2_readName) (fun r2 S3 => ?_)
  refine tw_if (fun _ => ?_) (fun _ => ?_)
  ·
    exact tw_at (⟨rfl, rfl⟩ : zt S3 = zt S3 ∧ zu S3 = zu S3) (tt_X2_readTag_19)
  ·
    refine tw_chk (fun _ => ?_)
    refine tw_gal (fun Pw9 => tw_at (⟨rfl, rfl⟩ : zt S3 = zt S3 ∧ zu S3 = zu S3) tt_X2_readValue) (fun r7 S8 => ?_)
    refine tw_if (fun _ => ?_) (fun _ => ?_)
    ·
      exact tw_at (⟨rfl, rfl⟩ : zt S8 = zt S8 ∧ zu S8 = zu S8) (tt_X2_readTag_19)
    ·
      refine tw_chk (fun _ => ?_)
      refine tw_calf (⟨rfl, rfl⟩ : zt S8 = zt S8 ∧ zu S8 = zu S8) (fun o11 co11 => ?_)
      refine tw_chk (fun _ => ?_)
      refine tw_calv (fun b12 => ?_)
      refine tw_chk (fun _ => ?_)
      refine tw_chk (fun _ => ?_)
      refine tw_calf co11 (fun o13 co13 => ?_)
      refine tw_if (fun _ => ?_) (fun _ => ?_)
      ·
        refine tw_chk (fun _ => ?_)
        refine tw_bndv (fun v14 => ?_)
        refine tw_chk (fun _ => ?_)
        refine tw_bnds co13 (fun S15 cS15 => ?_)
        refine tw_chk (fun _ => ?_)
        refine tw_calv (fun b16 => ?_)
        refine tw_chk (fun _ => ?_)
        refine tw_if (fun _ => ?_) (fun _ => ?_)
        ·
          exact tw_at cS15 (tt_X2_readTag_111)
        ·
          refine tw_chk (fun _ => ?_)
          refine tw_calv (fun b17 => ?_)
          refine tw_chk (fun _ => ?_)
          refine tw_calf cS15 (fun o18 co18 => ?_)
          refine tw_if (fun _ => ?_) (fun _ => ?_)
          ·
            exact tw_at co18 (tt_X2_readTag_111)
          ·
            refine tw_chk (fun _ => ?_)
            refine tw_calv (fun b19 => ?_)
            refine tw_chk (fun _ => ?_)
            refine tw_calv (fun b20 => ?_)
            refine tw_chk (fun _ => ?_)
            refine tw_gal (fun Pw9 => tw_at co18 tt_X1_hasTag) (fun r22 S23 => ?_)
            refine tw_if (fun _ => ?_) (fun _ => ?_)
            ·
              refine tw_chk (fun _ => ?_)
              refine tw_calv (fun b26 => ?_)
              refine tw_chk (fun _ => ?_)
              refine tw_calf (⟨rfl, rfl⟩ : zt S23 = zt S23 ∧ zu S23 = zu S23) (fun o27 co27 => ?_)
              refine tw_if (fun _ => ?_) (fun _ => ?_)
              ·
                refine tw_chk (fun _ => ?_)
                refine tw_calv (fun b28 => ?_)
                refine tw_chk (fun _ => ?_)
                refine tw_calf co27 (fun o29 co29 => ?_)
                refine tw_if (fun _ => ?_) (fun _ => ?_)
                ·
                  exact tw_at co29 (tt_X2_readTag_158)
                ·
                  refine tw_chk (fun _ => ?_)
                  refine tw_calv (fun b30 => ?_)
                  refine tw_chk (fun _ => ?_)
                  refine tw_calv (fun b31 => ?_)
                  refine tw_chk (fun _ => ?_)
                  refine tw_calv (fun b32 => ?_)
                  refine tw_chk (fun _ => ?_)
                  refine tw_calv (fun b33 => ?_)
                  refine tw_chk (fun _ => ?_)
                  refine tw_calf co29 (fun o34 co34 => ?_)
                  refine tw_if (fun _ => ?_) (fun _ => ?_)
                  ·
                    refine tw_chk (fun _ => ?_)
                    refine tw_calf co34 (fun o35 co35 => ?_)
                    refine tw_chk (fun _ => ?_)
                    exact tw_ret co35
                  ·
                    exact tw_at co34 (tt_X2_readTag_158)
              ·
                exact tw_at co27 (tt_X2_readTag_111)
            ·
              exact tw_at (⟨rfl, rfl⟩ : zt S23 = zt S23 ∧ zu S23 = zu S23) (tt_X2_readTag_111)
      ·
        refine tw_chk (fun _ => ?_)
        refine tw_chk (fun _ => ?_)
        refine tw_calf co13 (fun o36 co36 => ?_)
        refine tw_chk (fun _ => ?_)
        exact tw_ret co36
def d_X2_readTag (x0 : Nat) (S : ZS) : Option (Int32 × ZS) := d_X2_readTag_0 x0 S
theorem tt_X2_readTag {Pw : Int32 → ZS → Prop} {x0 : Nat} {S : ZS} : Tw Pw (d_X2_readTag x0 S) (zt S) (zu S) (fun C T => g_X2_readTag x0 S C T Pw) := tt_X2_readTag_0
def d_X4_joinRemark_96 (self64 : Nat → Nat → Int32 → Int32 → ZS → Option (Int32 × ZS)) (x0 : Nat) (x1 : Nat) (x3 : Int32) (x5 : Int32) (t0 : Int32) (t1 : Nat) (S : ZS) : Option (Int32 × ZS) :=
  m_chk (t1 ∈ zL S ∧ zK S t1 = 6) (
  m_cal2 (d_X6_put t1 t0 S) (fun r2 S3 =>
  m_bnd (x5 + (1 : Int32)) (fun v6 =>
  self64 x0 x1 x3 v6 S3)))
theorem tt_X4_joinRemark_96 {Pw : Int32 → ZS → Prop} {self64 : Nat → Nat → Int32 → Int32 → ZS → Option (Int32 × ZS)} {self64g : Nat → Nat → Int32 → Int32 → ZS → Nat → Nat → Prop} (hself64 : ∀ (y0 : Nat) (y1 : Nat) (y2 : Int32) (y3 : Int32) (S : ZS), Tw Pw (self64 y0 y1 y2 y3 S) (zt S) (zu S) (fun C T => self64g y0 y1 y2 y3 S C T)) {x0 : Nat} {x1 : Nat} {x3 : Int32} {x5 : Int32} {t0 : Int32} {t1 : Nat} {S : ZS} : Tw Pw (d_X4_joinRemark_96 self64 x0 x1 x3 x5 t0 t1 S) (zt S) (zu S) (fun C T => g_X4_joinRemark_96 Pw self64g x0 x1 x3 x5 t0 t1 S C T) := by
  unfold d_X4_joinRemark_96 g_X4_joinRemark_96
  refine tw_chk (fun _ => ?_)
  refine tw_gal (fun Pw9 => tw_at (⟨rfl, rfl⟩ : zt S = zt S ∧ zu S = zu S) tt_X6_put) (fun r2 S3 => ?_)
  refine tw_bndv (fun v6 => ?_)
  exact tw_at (⟨rfl, rfl⟩ : zt S3 = zt S3 ∧ zu S3 = zu S3) (hself64 _ _ _ _ _)
def d_X4_joinRemark_64s (self64 : Nat → Nat → Int32 → Int32 → ZS → Option (Int32 × ZS)) (x0 : Nat) (x1 : Nat) (x3 : Int32) (x5 : Int32) (S : ZS) : Option (Int32 × ZS) :=
  m_if (x3 ≤ x5) (
  m_chk (vp_nar .boolean (1 : Int32) = (1 : Int32)) (
  some ((1 : Int32), S))
  ) (
  m_chk (x0 ∈ zL S ∧ zK S x0 = 4) (
  m_cal (zP S 6 x0) (fun b1 =>
  m_chk (x1 ∈ zL S ∧ zK S x1 = 6) (
  m_cal (f_X6_at x1 x5 S) (fun o2 => m_chk (zt o2.2 = zt S ∧ zu o2.2 = zu S) (
  m_if (o2.1 = (10 : Int32)) (
  d_X4_joinRemark_96 self64 x0 x1 x3 x5 (32 : Int32) b1 o2.2
  ) (
  m_chk (x1 ∈ zL o2.2 ∧ zK o2.2 x1 = 6) (
  m_cal (f_X6_at x1 x5 o2.2) (fun o3 => m_chk (zt o3.2 = zt o2.2 ∧ zu o3.2 = zu o2.2) (
  d_X4_joinRemark_96 self64 x0 x1 x3 x5 o3.1 b1 o3.2)))
  ))))))
  )
theorem tt_X4_joinRemark_64s {Pw : Int32 → ZS → Prop} {self64 : Nat → Nat → Int32 → Int32 → ZS → Option (Int32 × ZS)} {self64g : Nat → Nat → Int32 → Int32 → ZS → Nat → Nat → Prop} (hself64 : ∀ (y0 : Nat) (y1 : Nat) (y2 : Int32) (y3 : Int32) (S : ZS), Tw Pw (self64 y0 y1 y2 y3 S) (zt S) (zu S) (fun C T => self64g y0 y1 y2 y3 S C T)) {x0 : Nat} {x1 : Nat} {x3 : Int32} {x5 : Int32} {S : ZS} : Tw Pw (d_X4_joinRemark_64s self64 x0 x1 x3 x5 S) (zt S) (zu S) (fun C T => g_X4_joinRemark_64s Pw self64g x0 x1 x3 x5 S C T) := by
  unfold d_X4_joinRemark_64s g_X4_joinRemark_64s
  refine tw_if (fun _ => ?_) (fun _ => ?_)
  ·
    refine tw_chk (fun _ => ?_)
    exact tw_ret (⟨rfl, rfl⟩ : zt S = zt S ∧ zu S = zu S)
  ·
    refine tw_chk (fun _ => ?_)
    refine tw_calv (fun b1 => ?_)
    refine tw_chk (fun _ => ?_)
    refine tw_calf (⟨rfl, rfl⟩ : zt S = zt S ∧ zu S = zu S) (fun o2 co2 => ?_)
    refine tw_if (fun _ => ?_) (fun _ => ?_)
    ·
      exact tw_at co2 (tt_X4_joinRemark_96 hself64)
    ·
      refine tw_chk (fun _ => ?_)
      refine tw_calf co2 (fun o3 co3 => ?_)
      exact tw_at co3 (tt_X4_joinRemark_96 hself64)
def d_X4_joinRemark_64  : Nat → Nat → Nat → Int32 → Int32 → ZS → Option (Int32 × ZS)
  | 0 => fun _ _ _ _ _ => none
  | n + 1 => d_X4_joinRemark_64s  (d_X4_joinRemark_64  n)
theorem tt_X4_joinRemark_64 {Pw : Int32 → ZS → Prop}   {n : Nat} : ∀ {z0 : Nat} {z1 : Nat} {z2 : Int32} {z3 : Int32} {S : ZS}, Tw Pw (d_X4_joinRemark_64  n z0 z1 z2 z3 S) (zt S) (zu S) (fun C T => g_X4_joinRemark_64 Pw  n z0 z1 z2 z3 S C T) := by
  induction n with
  | zero => intro z0 z1 z2 z3 S; exact tw_none
  | succ n ih => intro z0 z1 z2 z3 S; exact tt_X4_joinRemark_64s  (fun _ _ _ _ _ => ih)
def d_X4_joinRemark_61 (x0 : Nat) (x1 : Nat) (x2 : Int32) (x3 : Int32) (S : ZS) : Option (Int32 × ZS) :=
  d_X4_joinRemark_64 mFuel x0 x1 x3 x2 S
theorem tt_X4_joinRemark_61 {Pw : Int32 → ZS → Prop}   {x0 : Nat} {x1 : Nat} {x2 : Int32} {x3 : Int32} {S : ZS} : Tw Pw (d_X4_joinRemark_61 x0 x1 x2 x3 S) (zt S) (zu S) (fun C T => g_X4_joinRemark_61 Pw x0 x1 x2 x3 S C T) := by
  unfold d_X4_joinRemark_61 g_X4_joinRemark_61
  exact tw_at (⟨rfl, rfl⟩ : zt S = zt S ∧ zu S = zu S) (tt_X4_joinRemark_64)
def d_X4_joinRemark_22 (x0 : Nat) (x1 : Nat) (x2 : Int32) (x3 : Int32) (t0 : Int32) (S : ZS) : Option (Int32 × ZS) :=
  m_chk (x0 ∈ zL S ∧ zK S x0 = 4) (
  m_cal (zP S 6 x0) (fun b1 =>
  m_chk (b1 ∈ zL S ∧ zK S b1 = 6) (
  m_cal (f_X6_size b1 S) (fun o2 => m_chk (zt o2.2 = zt S ∧ zu o2.2 = zu S) (
  m_bnd (o2.1 + t0) (fun v3 =>
  m_bnd (v3 + x3) (fun v4 =>
  m_bnd (v4 - x2) (fun v5 =>
  m_if (v5 ≤ (200 : Int32)) (
  m_if (t0 = (1 : Int32)) (
  m_chk (x0 ∈ zL o2.2 ∧ zK o2.2 x0 = 4) (
  m_cal (zP o2.2 6 x0) (fun b6 =>
  m_chk (b6 ∈ zL o2.2 ∧ zK o2.2 b6 = 6) (
  m_cal2 (d_X6_put b6 (32 : Int32) o2.2) (fun r8 S9 =>
  d_X4_joinRemark_61 x0 x1 x2 x3 S9))))
  ) (
  d_X4_joinRemark_61 x0 x1 x2 x3 o2.2
  )
  ) (
  m_chk (vp_nar .boolean (0 : Int32) = (0 : Int32)) (
  some ((0 : Int32), o2.2))
  )))))))))
theorem tt_X4_joinRemark_22 {Pw : Int32 → ZS → Prop}   {x0 : Nat} {x1 : Nat} {x2 : Int32} {x3 : Int32} {t0 : Int32} {S : ZS} : Tw Pw (d_X4_joinRemark_22 x0 x1 x2 x3 t0 S) (zt S) (zu S) (fun C T => g_X4_joinRemark_22 Pw x0 x1 x2 x3 t0 S C T) := by
  unfold d_X4_joinRemark_22 g_X4_joinRemark_22
  refine tw_chk (fun _ => ?_)
  refine tw_calv (fun b1 => ?_)
  refine tw_chk (fun _ => ?_)
  refine tw_calf (⟨rfl, rfl⟩ : zt S = zt S ∧ zu S = zu S) (fun o2 co2 => ?_)
  refine tw_bndv (fun v3 => ?_)
  refine tw_bndv (fun v4 => ?_)
  refine tw_bndv (fun v5 => ?_)
  refine tw_if (fun _ => ?_) (fun _ => ?_)
  ·
    refine tw_if (fun _ => ?_) (fun _ => ?_)
    ·
      refine tw_chk (fun _ => ?_)
      refine tw_calv (fun b6 => ?_)
      refine tw_chk (fun _ => ?_)
      refine tw_gal (fun Pw9 => tw_at co2 tt_X6_put) (fun r8 S9 => ?_)
      exact tw_at (⟨rfl, rfl⟩ : zt S9 = zt S9 ∧ zu S9 = zu S9) (tt_X4_joinRemark_61)
    ·
      exact tw_at co2 (tt_X4_joinRemark_61)
  ·
    refine tw_chk (fun _ => ?_)
    exact tw_ret co2
def d_X4_joinRemark_0 (x0 : Nat) (x1 : Nat) (x2 : Int32) (x3 : Int32) (S : ZS) : Option (Int32 × ZS) :=
  m_if (x2 < x3) (
  m_chk (x0 ∈ zL S ∧ zK S x0 = 4) (
  m_cal (zP S 6 x0) (fun b1 =>
  m_chk (b1 ∈ zL S ∧ zK S b1 = 6) (
  m_cal (f_X6_size b1 S) (fun o2 => m_chk (zt o2.2 = zt S ∧ zu o2.2 = zu S) (
  m_if (o2.1 ≤ 0) (
  d_X4_joinRemark_22 x0 x1 x2 x3 (0 : Int32) o2.2
  ) (
  d_X4_joinRemark_22 x0 x1 x2 x3 (1 : Int32) o2.2
  ))))))
  ) (
  m_chk (vp_nar .boolean (1 : Int32) = (1 : Int32)) (
  some ((1 : Int32), S))
  )
theorem tt_X4_joinRemark_0 {Pw : Int32 → ZS → Prop}   {x0 : Nat} {x1 : Nat} {x2 : Int32} {x3 : Int32} {S : ZS} : Tw Pw (d_X4_joinRemark_0 x0 x1 x2 x3 S) (zt S) (zu S) (fun C T => g_X4_joinRemark_0 Pw x0 x1 x2 x3 S C T) := by
  unfold d_X4_joinRemark_0 g_X4_joinRemark_0
  refine tw_if (fun _ => ?_) (fun _ => ?_)
  ·
    refine tw_chk (fun _ => ?_)
    refine tw_calv (fun b1 => ?_)
    refine tw_chk (fun _ => ?_)
    refine tw_calf (⟨rfl, rfl⟩ : zt S = zt S ∧ zu S = zu S) (fun o2 co2 => ?_)
    refine tw_if (fun _ => ?_) (fun _ => ?_)
    ·
      exact tw_at co2 (tt_X4_joinRemark_22)
    ·
      exact tw_at co2 (tt_X4_joinRemark_22)
  ·
    refine tw_chk (fun _ => ?_)
    exact tw_ret (⟨rfl, rfl⟩ : zt S = zt S ∧ zu S = zu S)
def d_X4_joinRemark (x0 : Nat) (x1 : Nat) (x2 : Int32) (x3 : Int32) (S : ZS) : Option (Int32 × ZS) := d_X4_joinRemark_0 x0 x1 x2 x3 S
theorem tt_X4_joinRemark {Pw : Int32 → ZS → Prop} {x0 : Nat} {x1 : Nat} {x2 : Int32} {x3 : Int32} {S : ZS} : Tw Pw (d_X4_joinRemark x0 x1 x2 x3 S) (zt S) (zu S) (fun C T => g_X4_joinRemark x0 x1 x2 x3 S C T Pw) := tt_X4_joinRemark_0
def d_X2_readRemark_91 (x0 : Nat) (x1 : Nat) (x2 : Int32) (x5 : Int32) (S : ZS) : Option (Int32 × ZS) :=
  m_chk (x0 ∈ zL S ∧ zK S x0 = 2) (
  m_cal (zP S 2 x0) (fun b1 =>
  m_bnd (x2 + (1 : Int32)) (fun v2 =>
  m_chk (x1 ∈ zL S ∧ zK S x1 = 4) (
  m_cal2 (d_X4_joinRemark x1 b1 v2 x5 S) (fun r4 S5 =>
  m_if (r4 = 0) (
  m_chk (x0 ∈ zL S5 ∧ zK S5 x0 = 2) (
  m_cal (f_X2_refuse x0 (8 : Int32) x2 S5) (fun o13 => m_chk (zt o13.2 = zt S5 ∧ zu o13.2 = zu S5) (
  m_chk (vp_nar .boolean o13.1 = o13.1) (
  some (o13.1, o13.2)))))
  ) (
  m_bnd (x5 + (1 : Int32)) (fun v8 =>
  m_chk (x0 ∈ zL S5 ∧ zK S5 x0 = 2) (
  m_cal (zP S5 2 x0) (fun b9 =>
  m_chk (b9 ∈ zL S5 ∧ zK S5 b9 = 6) (
  m_cal (f_X6_size b9 S5) (fun o10 => m_chk (zt o10.2 = zt S5 ∧ zu o10.2 = zu S5) (
  m_bnd (if o10.1 < v8 then o10.1 else v8) (fun v11 =>
  m_chk (x0 ∈ zL o10.2 ∧ zK o10.2 x0 = 2) (
  m_bnd (zsI o10.2 4 x0 v11) (fun S12 =>
  m_chk (vp_nar .boolean (1 : Int32) = (1 : Int32)) (
  some ((1 : Int32), S12)))))))))))
  ))))))
theorem tt_X2_readRemark_91 {Pw : Int32 → ZS → Prop}   {x0 : Nat} {x1 : Nat} {x2 : Int32} {x5 : Int32} {S : ZS} : Tw Pw (d_X2_readRemark_91 x0 x1 x2 x5 S) (zt S) (zu S) (fun C T => g_X2_readRemark_91 Pw x0 x1 x2 x5 S C T) := by
  unfold d_X2_readRemark_91 g_X2_readRemark_91
  refine tw_chk (fun _ => ?_)
  refine tw_calv (fun b1 => ?_)
  refine tw_bndv (fun v2 => ?_)
  refine tw_chk (fun _ => ?_)
  refine tw_gal (fun Pw9 => tw_at (⟨rfl, rfl⟩ : zt S = zt S ∧ zu S = zu S) tt_X4_joinRemark) (fun r4 S5 => ?_)
  refine tw_if (fun _ => ?_) (fun _ => ?_)
  ·
    refine tw_chk (fun _ => ?_)
    refine tw_calf (⟨rfl, rfl⟩ : zt S5 = zt S5 ∧ zu S5 = zu S5) (fun o13 co13 => ?_)
    refine tw_chk (fun _ => ?_)
    exact tw_ret co13
  ·
    refine tw_bndv (fun v8 => ?_)
    refine tw_chk (fun _ => ?_)
    refine tw_calv (fun b9 => ?_)
    refine tw_chk (fun _ => ?_)
    refine tw_calf (⟨rfl, rfl⟩ : zt S5 = zt S5 ∧ zu S5 = zu S5) (fun o10 co10 => ?_)
    refine tw_bndv (fun v11 => ?_)
    refine tw_chk (fun _ => ?_)
    refine tw_bnds co10 (fun S12 cS12 => ?_)
    refine tw_chk (fun _ => ?_)
    exact tw_ret cS12
def d_X2_readRemark_83 (x0 : Nat) (x4 : Int32) (S : ZS) : Option (Int32 × ZS) :=
  m_chk (x0 ∈ zL S ∧ zK S x0 = 2) (
  m_cal (f_X2_refuse x0 (1 : Int32) x4 S) (fun o1 => m_chk (zt o1.2 = zt S ∧ zu o1.2 = zu S) (
  m_chk (vp_nar .boolean o1.1 = o1.1) (
  some (o1.1, o1.2)))))
theorem tt_X2_readRemark_83 {Pw : Int32 → ZS → Prop}   {x0 : Nat} {x4 : Int32} {S : ZS} : Tw Pw (d_X2_readRemark_83 x0 x4 S) (zt S) (zu S) (fun C T => g_X2_readRemark_83 Pw x0 x4 S C T) := by
  unfold d_X2_readRemark_83 g_X2_readRemark_83
  refine tw_chk (fun _ => ?_)
  refine tw_calf (⟨rfl, rfl⟩ : zt S = zt S ∧ zu S = zu S) (fun o1 co1 => ?_)
  refine tw_chk (fun _ => ?_)
  exact tw_ret co1
def d_X2_readRemark_55 (x0 : Nat) (x1 : Nat) (x2 : Int32) (x3 : Int32) (x4 : Int32) (t0 : Int32) (S : ZS) : Option (Int32 × ZS) :=
  m_if (x3 = 0) (
  m_if (t0 ≤ x4) (
  d_X2_readRemark_91 x0 x1 x2 t0 S
  ) (
  d_X2_readRemark_83 x0 x4 S
  )
  ) (
  m_chk (x0 ∈ zL S ∧ zK S x0 = 2) (
  m_cal (zP S 2 x0) (fun b1 =>
  m_chk (b1 ∈ zL S ∧ zK S b1 = 6) (
  m_cal (f_X6_size b1 S) (fun o2 => m_chk (zt o2.2 = zt S ∧ zu o2.2 = zu S) (
  m_if (x4 = o2.1) (
  d_X2_readRemark_83 x0 x4 o2.2
  ) (
  d_X2_readRemark_91 x0 x1 x2 t0 o2.2
  ))))))
  )
theorem tt_X2_readRemark_55 {Pw : Int32 → ZS → Prop}   {x0 : Nat} {x1 : Nat} {x2 : Int32} {x3 : Int32} {x4 : Int32} {t0 : Int32} {S : ZS} : Tw Pw (d_X2_readRemark_55 x0 x1 x2 x3 x4 t0 S) (zt S) (zu S) (fun C T => g_X2_readRemark_55 Pw x0 x1 x2 x3 x4 t0 S C T) := by
  unfold d_X2_readRemark_55 g_X2_readRemark_55
  refine tw_if (fun _ => ?_) (fun _ => ?_)
  ·
    refine tw_if (fun _ => ?_) (fun _ => ?_)
    ·
      exact tw_at (⟨rfl, rfl⟩ : zt S = zt S ∧ zu S = zu S) (tt_X2_readRemark_91)
    ·
      exact tw_at (⟨rfl, rfl⟩ : zt S = zt S ∧ zu S = zu S) (tt_X2_readRemark_83)
  ·
    refine tw_chk (fun _ => ?_)
    refine tw_calv (fun b1 => ?_)
    refine tw_chk (fun _ => ?_)
    refine tw_calf (⟨rfl, rfl⟩ : zt S = zt S ∧ zu S = zu S) (fun o2 co2 => ?_)
    refine tw_if (fun _ => ?_) (fun _ => ?_)
    ·
      exact tw_at co2 (tt_X2_readRemark_83)
    ·
      exact tw_at co2 (tt_X2_readRemark_91)
def d_X2_readRemark_23 (x0 : Nat) (x1 : Nat) (x2 : Int32) (t0 : Int32) (S : ZS) : Option (Int32 × ZS) :=
  m_chk (x0 ∈ zL S ∧ zK S x0 = 2) (
  m_cal (zP S 2 x0) (fun b1 =>
  m_chk (b1 ∈ zL S ∧ zK S b1 = 6) (
  m_cal (f_X6_indexOf b1 (125 : Int32) x2 S) (fun o2 => m_chk (zt o2.2 = zt S ∧ zu o2.2 = zu S) (
  m_if (t0 = 0) (
  m_chk (x0 ∈ zL o2.2 ∧ zK o2.2 x0 = 2) (
  m_cal (zP o2.2 2 x0) (fun b3 =>
  m_chk (b3 ∈ zL o2.2 ∧ zK o2.2 b3 = 6) (
  m_cal (f_X6_indexOf b3 (10 : Int32) x2 o2.2) (fun o4 => m_chk (zt o4.2 = zt o2.2 ∧ zu o4.2 = zu o2.2) (
  d_X2_readRemark_55 x0 x1 x2 t0 o2.1 o4.1 o4.2)))))
  ) (
  d_X2_readRemark_55 x0 x1 x2 t0 o2.1 o2.1 o2.2
  ))))))
theorem tt_X2_readRemark_23 {Pw : Int32 → ZS → Prop}   {x0 : Nat} {x1 : Nat} {x2 : Int32} {t0 : Int32} {S : ZS} : Tw Pw (d_X2_readRemark_23 x0 x1 x2 t0 S) (zt S) (zu S) (fun C T => g_X2_readRemark_23 Pw x0 x1 x2 t0 S C T) := by
  unfold d_X2_readRemark_23 g_X2_readRemark_23
  refine tw_chk (fun _ => ?_)
  refine tw_calv (fun b1 => ?_)
  refine tw_chk (fun _ => ?_)
  refine tw_calf (⟨rfl, rfl⟩ : zt S = zt S ∧ zu S = zu S) (fun o2 co2 => ?_)
  refine tw_if (fun _ => ?_) (fun _ => ?_)
  ·
    refine tw_chk (fun _ => ?_)
    refine tw_calv (fun b3 => ?_)
    refine tw_chk (fun _ => ?_)
    refine tw_calf co2 (fun o4 co4 => ?_)
    exact tw_at co4 (tt_X2_readRemark_55)
  ·
    exact tw_at co2 (tt_X2_readRemark_55)
def d_X2_readRemark_0 (x0 : Nat) (x1 : Nat) (S : ZS) : Option (Int32 × ZS) :=
  m_chk (x0 ∈ zL S ∧ zK S x0 = 2) (
  m_chk (x0 ∈ zL S ∧ zK S x0 = 2) (
  m_cal (zP S 2 x0) (fun b1 =>
  m_chk (b1 ∈ zL S ∧ zK S b1 = 6) (
  m_cal (f_X6_at b1 (zI S 4 x0) S) (fun o2 => m_chk (zt o2.2 = zt S ∧ zu o2.2 = zu S) (
  m_if (o2.1 = (123 : Int32)) (
  d_X2_readRemark_23 x0 x1 (zI S 4 x0) (1 : Int32) o2.2
  ) (
  d_X2_readRemark_23 x0 x1 (zI S 4 x0) (0 : Int32) o2.2
  )))))))
theorem tt_X2_readRemark_0 {Pw : Int32 → ZS → Prop}   {x0 : Nat} {x1 : Nat} {S : ZS} : Tw Pw (d_X2_readRemark_0 x0 x1 S) (zt S) (zu S) (fun C T => g_X2_readRemark_0 Pw x0 x1 S C T) := by
  unfold d_X2_readRemark_0 g_X2_readRemark_0
  refine tw_chk (fun _ => ?_)
  refine tw_chk (fun _ => ?_)
  refine tw_calv (fun b1 => ?_)
  refine tw_chk (fun _ => ?_)
  refine tw_calf (⟨rfl, rfl⟩ : zt S = zt S ∧ zu S = zu S) (fun o2 co2 => ?_)
  refine tw_if (fun _ => ?_) (fun _ => ?_)
  ·
    exact tw_at co2 (tt_X2_readRemark_23)
  ·
    exact tw_at co2 (tt_X2_readRemark_23)
def d_X2_readRemark (x0 : Nat) (x1 : Nat) (S : ZS) : Option (Int32 × ZS) := d_X2_readRemark_0 x0 x1 S
theorem tt_X2_readRemark {Pw : Int32 → ZS → Prop} {x0 : Nat} {x1 : Nat} {S : ZS} : Tw Pw (d_X2_readRemark x0 x1 S) (zt S) (zu S) (fun C T => g_X2_readRemark x0 x1 S C T Pw) := tt_X2_readRemark_0
def d_X2_readRemarks_67 (x2 : Int32) (S : ZS) : Option (Int32 × ZS) :=
  m_chk (vp_nar .boolean x2 = x2) (
  some (x2, S))
theorem tt_X2_readRemarks_67 {Pw : Int32 → ZS → Prop}   {x2 : Int32} {S : ZS} : Tw Pw (d_X2_readRemarks_67 x2 S) (zt S) (zu S) (fun C T => g_X2_readRemarks_67 Pw x2 S C T) := by
  unfold d_X2_readRemarks_67 g_X2_readRemarks_67
  refine tw_chk (fun _ => ?_)
  exact tw_ret (⟨rfl, rfl⟩ : zt S = zt S ∧ zu S = zu S)
def d_X2_readRemarks_51 (self8 : Nat → Nat → Int32 → Int32 → ZS → Option (Int32 × ZS)) (x0 : Nat) (x1 : Nat) (x3 : Int32) (S : ZS) : Option (Int32 × ZS) :=
  m_chk (x0 ∈ zL S ∧ zK S x0 = 2) (
  m_cal2 (d_X2_readRemark x0 x1 S) (fun r2 S3 =>
  m_chk (x0 ∈ zL S3 ∧ zK S3 x0 = 2) (
  m_cal (f_X2_skipBlanks x0 S3) (fun o6 => m_chk (zt o6.2 = zt S3 ∧ zu o6.2 = zu S3) (
  m_bnd (x3 + (1 : Int32)) (fun v7 =>
  self8 x0 x1 r2 v7 o6.2))))))
theorem tt_X2_readRemarks_51 {Pw : Int32 → ZS → Prop} {self8 : Nat → Nat → Int32 → Int32 → ZS → Option (Int32 × ZS)} {self8g : Nat → Nat → Int32 → Int32 → ZS → Nat → Nat → Prop} (hself8 : ∀ (y0 : Nat) (y1 : Nat) (y2 : Int32) (y3 : Int32) (S : ZS), Tw Pw (self8 y0 y1 y2 y3 S) (zt S) (zu S) (fun C T => self8g y0 y1 y2 y3 S C T)) {x0 : Nat} {x1 : Nat} {x3 : Int32} {S : ZS} : Tw Pw (d_X2_readRemarks_51 self8 x0 x1 x3 S) (zt S) (zu S) (fun C T => g_X2_readRemarks_51 Pw self8g x0 x1 x3 S C T) := by
  unfold d_X2_readRemarks_51 g_X2_readRemarks_51
  refine tw_chk (fun _ => ?_)
  refine tw_gal (fun Pw9 => tw_at (⟨rfl, rfl⟩ : zt S = zt S ∧ zu S = zu S) tt_X2_readRemark) (fun r2 S3 => ?_)
  refine tw_chk (fun _ => ?_)
  refine tw_calf (⟨rfl, rfl⟩ : zt S3 = zt S3 ∧ zu S3 = zu S3) (fun o6 co6 => ?_)
  refine tw_bndv (fun v7 => ?_)
  exact tw_at co6 (hself8 _ _ _ _ _)
def d_X2_readRemarks_8s (self8 : Nat → Nat → Int32 → Int32 → ZS → Option (Int32 × ZS)) (x0 : Nat) (x1 : Nat) (x2 : Int32) (x3 : Int32) (S : ZS) : Option (Int32 × ZS) :=
  m_if ((2000 : Int32) ≤ x3) (
  d_X2_readRemarks_67 x2 S
  ) (
  m_if (x2 = 0) (
  d_X2_readRemarks_67 x2 S
  ) (
  m_chk (x0 ∈ zL S ∧ zK S x0 = 2) (
  m_cal (zP S 2 x0) (fun b1 =>
  m_chk (x0 ∈ zL S ∧ zK S x0 = 2) (
  m_chk (b1 ∈ zL S ∧ zK S b1 = 6) (
  m_cal (f_X6_at b1 (zI S 4 x0) S) (fun o2 => m_chk (zt o2.2 = zt S ∧ zu o2.2 = zu S) (
  m_if (o2.1 = (123 : Int32)) (
  d_X2_readRemarks_51 self8 x0 x1 x3 o2.2
  ) (
  m_chk (x0 ∈ zL o2.2 ∧ zK o2.2 x0 = 2) (
  m_cal (zP o2.2 2 x0) (fun b3 =>
  m_chk (x0 ∈ zL o2.2 ∧ zK o2.2 x0 = 2) (
  m_chk (b3 ∈ zL o2.2 ∧ zK o2.2 b3 = 6) (
  m_cal (f_X6_at b3 (zI o2.2 4 x0) o2.2) (fun o4 => m_chk (zt o4.2 = zt o2.2 ∧ zu o4.2 = zu o2.2) (
  m_if (o4.1 = (59 : Int32)) (
  d_X2_readRemarks_51 self8 x0 x1 x3 o4.2
  ) (
  d_X2_readRemarks_67 x2 o4.2
  )))))))
  )))))))
  )
  )
theorem tt_X2_readRemarks_8s {Pw : Int32 → ZS → Prop} {self8 : Nat → Nat → Int32 → Int32 → ZS → Option (Int32 × ZS)} {self8g : Nat → Nat → Int32 → Int32 → ZS → Nat → Nat → Prop} (hself8 : ∀ (y0 : Nat) (y1 : Nat) (y2 : Int32) (y3 : Int32) (S : ZS), Tw Pw (self8 y0 y1 y2 y3 S) (zt S) (zu S) (fun C T => self8g y0 y1 y2 y3 S C T)) {x0 : Nat} {x1 : Nat} {x2 : Int32} {x3 : Int32} {S : ZS} : Tw Pw (d_X2_readRemarks_8s self8 x0 x1 x2 x3 S) (zt S) (zu S) (fun C T => g_X2_readRemarks_8s Pw self8g x0 x1 x2 x3 S C T) := by
  unfold d_X2_readRemarks_8s g_X2_readRemarks_8s
  refine tw_if (fun _ => ?_) (fun _ => ?_)
  ·
    exact tw_at (⟨rfl, rfl⟩ : zt S = zt S ∧ zu S = zu S) (tt_X2_readRemarks_67)
  ·
    refine tw_if (fun _ => ?_) (fun _ => ?_)
    ·
      exact tw_at (⟨rfl, rfl⟩ : zt S = zt S ∧ zu S = zu S) (tt_X2_readRemarks_67)
    ·
      refine tw_chk (fun _ => ?_)
      refine tw_calv (fun b1 => ?_)
      refine tw_chk (fun _ => ?_)
      refine tw_chk (fun _ => ?_)
      refine tw_calf (⟨rfl, rfl⟩ : zt S = zt S ∧ zu S = zu S) (fun o2 co2 => ?_)
      refine tw_if (fun _ => ?_) (fun _ => ?_)
      ·
        exact tw_at co2 (tt_X2_readRemarks_51 hself8)
      ·
        refine tw_chk (fun _ => ?_)
        refine tw_calv (fun b3 => ?_)
        refine tw_chk (fun _ => ?_)
        refine tw_chk (fun _ => ?_)
        refine tw_calf co2 (fun o4 co4 => ?_)
        refine tw_if (fun _ => ?_) (fun _ => ?_)
        ·
          exact tw_at co4 (tt_X2_readRemarks_51 hself8)
        ·
          exact tw_at co4 (tt_X2_readRemarks_67)
def d_X2_readRemarks_8  : Nat → Nat → Nat → Int32 → Int32 → ZS → Option (Int32 × ZS)
  | 0 => fun _ _ _ _ _ => none
  | n + 1 => d_X2_readRemarks_8s  (d_X2_readRemarks_8  n)
theorem tt_X2_readRemarks_8 {Pw : Int32 → ZS → Prop}   {n : Nat} : ∀ {z0 : Nat} {z1 : Nat} {z2 : Int32} {z3 : Int32} {S : ZS}, Tw Pw (d_X2_readRemarks_8  n z0 z1 z2 z3 S) (zt S) (zu S) (fun C T => g_X2_readRemarks_8 Pw  n z0 z1 z2 z3 S C T) := by
  induction n with
  | zero => intro z0 z1 z2 z3 S; exact tw_none
  | succ n ih => intro z0 z1 z2 z3 S; exact tt_X2_readRemarks_8s  (fun _ _ _ _ _ => ih)
def d_X2_readRemarks_0 (x0 : Nat) (x1 : Nat) (S : ZS) : Option (Int32 × ZS) :=
  m_chk (x0 ∈ zL S ∧ zK S x0 = 2) (
  m_cal (f_X2_skipBlanks x0 S) (fun o1 => m_chk (zt o1.2 = zt S ∧ zu o1.2 = zu S) (
  d_X2_readRemarks_8 mFuel x0 x1 (1 : Int32) (0 : Int32) o1.2)))
theorem tt_X2_readRemarks_0 {Pw : Int32 → ZS → Prop}   {x0 : Nat} {x1 : Nat} {S : ZS} : Tw Pw (d_X2_readRemarks_0 x0 x1 S) (zt S) (zu S) (fun C T => g_X2_readRemarks_0 Pw x0 x1 S C T) := by
  unfold d_X2_readRemarks_0 g_X2_readRemarks_0
  refine tw_chk (fun _ => ?_)
  refine tw_calf (⟨rfl, rfl⟩ : zt S = zt S ∧ zu S = zu S) (fun o1 co1 => ?_)
  exact tw_at co1 (tt_X2_readRemarks_8)
def d_X2_readRemarks (x0 : Nat) (x1 : Nat) (S : ZS) : Option (Int32 × ZS) := d_X2_readRemarks_0 x0 x1 S
theorem tt_X2_readRemarks {Pw : Int32 → ZS → Prop} {x0 : Nat} {x1 : Nat} {S : ZS} : Tw Pw (d_X2_readRemarks x0 x1 S) (zt S) (zu S) (fun C T => g_X2_readRemarks x0 x1 S C T Pw) := tt_X2_readRemarks_0
def d_X2_readHead_74 (t0 : Int32) (S : ZS) : Option (Int32 × ZS) :=
  m_chk (vp_nar .boolean t0 = t0) (
  some (t0, S))
theorem tt_X2_readHead_74 {Pw : Int32 → ZS → Prop}   {t0 : Int32} {S : ZS} : Tw Pw (d_X2_readHead_74 t0 S) (zt S) (zu S) (fun C T => g_X2_readHead_74 Pw t0 S C T) := by
  unfold d_X2_readHead_74 g_X2_readHead_74
  refine tw_chk (fun _ => ?_)
  exact tw_ret (⟨rfl, rfl⟩ : zt S = zt S ∧ zu S = zu S)
def d_X2_readHead_73 (S : ZS) : Option (Int32 × ZS) :=
  d_X2_readHead_74 (0 : Int32) S
theorem tt_X2_readHead_73 {Pw : Int32 → ZS → Prop}   {S : ZS} : Tw Pw (d_X2_readHead_73 S) (zt S) (zu S) (fun C T => g_X2_readHead_73 Pw S C T) := by
  unfold d_X2_readHead_73 g_X2_readHead_73
  exact tw_at (⟨rfl, rfl⟩ : zt S = zt S ∧ zu S = zu S) (tt_X2_readHead_74)
def d_X2_readHead_50 (x0 : Nat) (x1 : Int32) (S : ZS) : Option (Int32 × ZS) :=
  m_if (x1 = 0) (
  d_X2_readHead_73 S
  ) (
  m_chk (x0 ∈ zL S ∧ zK S x0 = 2) (
  m_cal (zP S 3 x0) (fun b1 =>
  m_chk (b1 ∈ zL S ∧ zK S b1 = 1) (
  m_cal (f_X1_at b1 (0 : Int32) S) (fun o2 => m_chk (zt o2.2 = zt S ∧ zu o2.2 = zu S) (
  m_chk (x0 ∈ zL o2.2 ∧ zK o2.2 x0 = 2) (
  m_cal2 (d_X2_readRemarks x0 o2.1 o2.2) (fun r4 S5 =>
  m_if (r4 = 0) (
  d_X2_readHead_73 S5
  ) (
  d_X2_readHead_74 (1 : Int32) S5
  ))))))))
  )
theorem tt_X2_readHead_50 {Pw : Int32 → ZS → Prop}   {x0 : Nat} {x1 : Int32} {S : ZS} : Tw Pw (d_X2_readHead_50 x0 x1 S) (zt S) (zu S) (fun C T => g_X2_readHead_50 Pw x0 x1 S C T) := by
  unfold d_X2_readHead_50 g_X2_readHead_50
  refine tw_if (fun _ => ?_) (fun _ => ?_)
  ·
    exact tw_at (⟨rfl, rfl⟩ : zt S = zt S ∧ zu S = zu S) (tt_X2_readHead_73)
  ·
    refine tw_chk (fun _ => ?_)
    refine tw_calv (fun b1 => ?_)
    refine tw_chk (fun _ => ?_)
    refine tw_calf (⟨rfl, rfl⟩ : zt S = zt S ∧ zu S = zu S) (fun o2 co2 => ?_)
    refine tw_chk (fun _ => ?_)
    refine tw_gal (fun Pw9 => tw_at co2 tt_X2_readRemarks) (fun r4 S5 => ?_)
    refine tw_if (fun _ => ?_) (fun _ => ?_)
    ·
      exact tw_at (⟨rfl, rfl⟩ : zt S5 = zt S5 ∧ zu S5 = zu S5) (tt_X2_readHead_73)
    ·
      exact tw_at (⟨rfl, rfl⟩ : zt S5 = zt S5 ∧ zu S5 = zu S5) (tt_X2_readHead_74)
def d_X2_readHead_8s (self8 : Nat → Int32 → Int32 → ZS → Option (Int32 × ZS)) (x0 : Nat) (x1 : Int32) (x2 : Int32) (S : ZS) : Option (Int32 × ZS) :=
  m_if ((2000 : Int32) ≤ x2) (
  d_X2_readHead_50 x0 x1 S
  ) (
  m_if (x1 = 0) (
  d_X2_readHead_50 x0 x1 S
  ) (
  m_chk (x0 ∈ zL S ∧ zK S x0 = 2) (
  m_cal (zP S 2 x0) (fun b1 =>
  m_chk (x0 ∈ zL S ∧ zK S x0 = 2) (
  m_chk (b1 ∈ zL S ∧ zK S b1 = 6) (
  m_cal (f_X6_at b1 (zI S 4 x0) S) (fun o2 => m_chk (zt o2.2 = zt S ∧ zu o2.2 = zu S) (
  m_if (o2.1 = (91 : Int32)) (
  m_chk (x0 ∈ zL o2.2 ∧ zK o2.2 x0 = 2) (
  m_cal2 (d_X2_readTag x0 o2.2) (fun r4 S5 =>
  m_chk (x0 ∈ zL S5 ∧ zK S5 x0 = 2) (
  m_cal (f_X2_skipBlanks x0 S5) (fun o8 => m_chk (zt o8.2 = zt S5 ∧ zu o8.2 = zu S5) (
  m_bnd (x2 + (1 : Int32)) (fun v9 =>
  self8 x0 r4 v9 o8.2))))))
  ) (
  d_X2_readHead_50 x0 x1 o2.2
  )))))))
  )
  )
theorem tt_X2_readHead_8s {Pw : Int32 → ZS → Prop} {self8 : Nat → Int32 → Int32 → ZS → Option (Int32 × ZS)} {self8g : Nat → Int32 → Int32 → ZS → Nat → Nat → Prop} (hself8 : ∀ (y0 : Nat) (y1 : Int32) (y2 : Int32) (S : ZS), Tw Pw (self8 y0 y1 y2 S) (zt S) (zu S) (fun C T => self8g y0 y1 y2 S C T)) {x0 : Nat} {x1 : Int32} {x2 : Int32} {S : ZS} : Tw Pw (d_X2_readHead_8s self8 x0 x1 x2 S) (zt S) (zu S) (fun C T => g_X2_readHead_8s Pw self8g x0 x1 x2 S C T) := by
  unfold d_X2_readHead_8s g_X2_readHead_8s
  refine tw_if (fun _ => ?_) (fun _ => ?_)
  ·
    exact tw_at (⟨rfl, rfl⟩ : zt S = zt S ∧ zu S = zu S) (tt_X2_readHead_50)
  ·
    refine tw_if (fun _ => ?_) (fun _ => ?_)
    ·
      exact tw_at (⟨rfl, rfl⟩ : zt S = zt S ∧ zu S = zu S) (tt_X2_readHead_50)
    ·
      refine tw_chk (fun _ => ?_)
      refine tw_calv (fun b1 => ?_)
      refine tw_chk (fun _ => ?_)
      refine tw_chk (fun _ => ?_)
      refine tw_calf (⟨rfl, rfl⟩ : zt S = zt S ∧ zu S = zu S) (fun o2 co2 => ?_)
      refine tw_if (fun _ => ?_) (fun _ => ?_)
      ·
        refine tw_chk (fun _ => ?_)
        refine tw_gal (fun Pw9 => tw_at co2 tt_X2_readTag) (fun r4 S5 => ?_)
        refine tw_chk (fun _ => ?_)
        refine tw_calf (⟨rfl, rfl⟩ : zt S5 = zt S5 ∧ zu S5 = zu S5) (fun o8 co8 => ?_)
        refine tw_bndv (fun v9 => ?_)
        exact tw_at co8 (hself8 _ _ _ _)
      ·
        exact tw_at co2 (tt_X2_readHead_50)
def d_X2_readHead_8  : Nat → Nat → Int32 → Int32 → ZS → Option (Int32 × ZS)
  | 0 => fun _ _ _ _ => none
  | n + 1 => d_X2_readHead_8s  (d_X2_readHead_8  n)
theorem tt_X2_readHead_8 {Pw : Int32 → ZS → Prop}   {n : Nat} : ∀ {z0 : Nat} {z1 : Int32} {z2 : Int32} {S : ZS}, Tw Pw (d_X2_readHead_8  n z0 z1 z2 S) (zt S) (zu S) (fun C T => g_X2_readHead_8 Pw  n z0 z1 z2 S C T) := by
  induction n with
  | zero => intro z0 z1 z2 S; exact tw_none
  | succ n ih => intro z0 z1 z2 S; exact tt_X2_readHead_8s  (fun _ _ _ _ => ih)
def d_X2_readHead_0 (x0 : Nat) (S : ZS) : Option (Int32 × ZS) :=
  m_chk (x0 ∈ zL S ∧ zK S x0 = 2) (
  m_cal (f_X2_skipBlanks x0 S) (fun o1 => m_chk (zt o1.2 = zt S ∧ zu o1.2 = zu S) (
  d_X2_readHead_8 mFuel x0 (1 : Int32) (0 : Int32) o1.2)))
theorem tt_X2_readHead_0 {Pw : Int32 → ZS → Prop}   {x0 : Nat} {S : ZS} : Tw Pw (d_X2_readHead_0 x0 S) (zt S) (zu S) (fun C T => g_X2_readHead_0 Pw x0 S C T) := by
  unfold d_X2_readHead_0 g_X2_readHead_0
  refine tw_chk (fun _ => ?_)
  refine tw_calf (⟨rfl, rfl⟩ : zt S = zt S ∧ zu S = zu S) (fun o1 co1 => ?_)
  exact tw_at co1 (tt_X2_readHead_8)
def d_X2_readHead (x0 : Nat) (S : ZS) : Option (Int32 × ZS) := d_X2_readHead_0 x0 S
theorem tt_X2_readHead {Pw : Int32 → ZS → Prop} {x0 : Nat} {S : ZS} : Tw Pw (d_X2_readHead x0 S) (zt S) (zu S) (fun C T => g_X2_readHead x0 S C T Pw) := tt_X2_readHead_0
def d_X8_copyWhole_113 (S : ZS) : Option (Int32 × ZS) :=
  some (0, S)
theorem tt_X8_copyWhole_113 {Pw : Int32 → ZS → Prop}   {S : ZS} : Tw Pw (d_X8_copyWhole_113 S) (zt S) (zu S) (fun C T => g_X8_copyWhole_113 Pw S C T) := by
  unfold d_X8_copyWhole_113 g_X8_copyWhole_113
  exact tw_ret (⟨rfl, rfl⟩ : zt S = zt S ∧ zu S = zu S)
def d_X8_copyWhole_87 (x0 : Nat) (t0 : Int32) (t1 : Nat) (S : ZS) : Option (Int32 × ZS) :=
  m_chk (t1 ∈ zL S ∧ zK S t1 = 8) (
  m_chk (vp_nar .char t0 = t0 ∧ fits .char (.int t0) = true) (
  m_bnd (zsI S 9 t1 t0) (fun S1 =>
  m_chk (x0 ∈ zL S1 ∧ zK S1 x0 = 8) (
  m_if ((zI S1 9 x0) = 0) (
  d_X8_copyWhole_113 S1
  ) (
  m_chk (x0 ∈ zL S1 ∧ zK S1 x0 = 8) (
  m_cal (zP S1 1 x0) (fun b2 =>
  m_chk (x0 ∈ zL S1 ∧ zK S1 x0 = 8) (
  m_cal (zP S1 1 x0) (fun b3 =>
  m_chk (b3 ∈ zL S1 ∧ zK S1 b3 = 6) (
  m_cal (f_X6_size b3 S1) (fun o4 => m_chk (zt o4.2 = zt S1 ∧ zu o4.2 = zu S1) (
  m_bnd (o4.1 - (1 : Int32)) (fun v5 =>
  m_chk (b2 ∈ zL o4.2 ∧ zK o4.2 b2 = 6) (
  m_cal (f_X6_keep b2 v5 o4.2) (fun o6 => m_chk (zt o6.2 = zt o4.2 ∧ zu o6.2 = zu o4.2) (
  d_X8_copyWhole_113 o6.2)))))))))))
  )))))
theorem tt_X8_copyWhole_87 {Pw : Int32 → ZS → Prop}   {x0 : Nat} {t0 : Int32} {t1 : Nat} {S : ZS} : Tw Pw (d_X8_copyWhole_87 x0 t0 t1 S) (zt S) (zu S) (fun C T => g_X8_copyWhole_87 Pw x0 t0 t1 S C T) := by
  unfold d_X8_copyWhole_87 g_X8_copyWhole_87
  refine tw_chk (fun _ => ?_)
  refine tw_chk (fun _ => ?_)
  refine tw_bnds (⟨rfl, rfl⟩ : zt S = zt S ∧ zu S = zu S) (fun S1 cS1 => ?_)
  refine tw_chk (fun _ => ?_)
  refine tw_if (fun _ => ?_) (fun _ => ?_)
  ·
    exact tw_at cS1 (tt_X8_copyWhole_113)
  ·
    refine tw_chk (fun _ => ?_)
    refine tw_calv (fun b2 => ?_)
    refine tw_chk (fun _ => ?_)
    refine tw_calv (fun b3 => ?_)
    refine tw_chk (fun _ => ?_)
    refine tw_calf cS1 (fun o4 co4 => ?_)
    refine tw_bndv (fun v5 => ?_)
    refine tw_chk (fun _ => ?_)
    refine tw_calf co4 (fun o6 co6 => ?_)
    exact tw_at co6 (tt_X8_copyWhole_113)
def d_X8_copyWhole_81 (x0 : Nat) (x4 : Int32) (t0 : Nat) (S : ZS) : Option (Int32 × ZS) :=
  d_X8_copyWhole_87 x0 x4 t0 S
theorem tt_X8_copyWhole_81 {Pw : Int32 → ZS → Prop}   {x0 : Nat} {x4 : Int32} {t0 : Nat} {S : ZS} : Tw Pw (d_X8_copyWhole_81 x0 x4 t0 S) (zt S) (zu S) (fun C T => g_X8_copyWhole_81 Pw x0 x4 t0 S C T) := by
  unfold d_X8_copyWhole_81 g_X8_copyWhole_81
  exact tw_at (⟨rfl, rfl⟩ : zt S = zt S ∧ zu S = zu S) (tt_X8_copyWhole_87)
def d_X8_copyWhole_48 (x0 : Nat) (S : ZS) : Option (Int32 × ZS) :=
  m_chk (x0 ∈ zL S ∧ zK S x0 = 8) (
  m_cal (zP S 1 x0) (fun b1 =>
  m_chk (x0 ∈ zL S ∧ zK S x0 = 8) (
  m_cal (zP S 1 x0) (fun b2 =>
  m_chk (b2 ∈ zL S ∧ zK S b2 = 6) (
  m_cal (f_X6_size b2 S) (fun o3 => m_chk (zt o3.2 = zt S ∧ zu o3.2 = zu S) (
  m_bnd (o3.1 - (1 : Int32)) (fun v4 =>
  m_chk (b1 ∈ zL o3.2 ∧ zK o3.2 b1 = 6) (
  m_cal (f_X6_at b1 v4 o3.2) (fun o5 => m_chk (zt o5.2 = zt o3.2 ∧ zu o5.2 = zu o3.2) (
  m_if (o5.1 = (43 : Int32)) (
  d_X8_copyWhole_81 x0 o5.1 x0 o5.2
  ) (
  m_if (o5.1 = (35 : Int32)) (
  d_X8_copyWhole_81 x0 o5.1 x0 o5.2
  ) (
  d_X8_copyWhole_87 x0 (0 : Int32) x0 o5.2
  )
  ))))))))))))
theorem tt_X8_copyWhole_48 {Pw : Int32 → ZS → Prop}   {x0 : Nat} {S : ZS} : Tw Pw (d_X8_copyWhole_48 x0 S) (zt S) (zu S) (fun C T => g_X8_copyWhole_48 Pw x0 S C T) := by
  unfold d_X8_copyWhole_48 g_X8_copyWhole_48
  refine tw_chk (fun _ => ?_)
  refine tw_calv (fun b1 => ?_)
  refine tw_chk (fun _ => ?_)
  refine tw_calv (fun b2 => ?_)
  refine tw_chk (fun _ => ?_)
  refine tw_calf (⟨rfl, rfl⟩ : zt S = zt S ∧ zu S = zu S) (fun o3 co3 => ?_)
  refine tw_bndv (fun v4 => ?_)
  refine tw_chk (fun _ => ?_)
  refine tw_calf co3 (fun o5 co5 => ?_)
  refine tw_if (fun _ => ?_) (fun _ => ?_)
  ·
    exact tw_at co5 (tt_X8_copyWhole_81)
  ·
    refine tw_if (fun _ => ?_) (fun _ => ?_)
    ·
      exact tw_at co5 (tt_X8_copyWhole_81)
    ·
      exact tw_at co5 (tt_X8_copyWhole_87)
def d_X8_copyWhole_11s (self11 : Nat → Nat → Int32 → Int32 → ZS → Option (Int32 × ZS)) (x0 : Nat) (x1 : Nat) (x3 : Int32) (x4 : Int32) (S : ZS) : Option (Int32 × ZS) :=
  m_if (x3 ≤ x4) (
  d_X8_copyWhole_48 x0 S
  ) (
  m_chk (x0 ∈ zL S ∧ zK S x0 = 8) (
  m_cal (zP S 1 x0) (fun b1 =>
  m_chk (b1 ∈ zL S ∧ zK S b1 = 6) (
  m_cal (f_X6_size b1 S) (fun o2 => m_chk (zt o2.2 = zt S ∧ zu o2.2 = zu S) (
  m_if ((7 : Int32) < o2.1) (
  d_X8_copyWhole_48 x0 o2.2
  ) (
  m_chk (x0 ∈ zL o2.2 ∧ zK o2.2 x0 = 8) (
  m_cal (zP o2.2 1 x0) (fun b3 =>
  m_chk (x1 ∈ zL o2.2 ∧ zK o2.2 x1 = 6) (
  m_cal (f_X6_at x1 x4 o2.2) (fun o4 => m_chk (zt o4.2 = zt o2.2 ∧ zu o4.2 = zu o2.2) (
  m_chk (b3 ∈ zL o4.2 ∧ zK o4.2 b3 = 6) (
  m_cal2 (d_X6_put b3 o4.1 o4.2) (fun r6 S7 =>
  m_bnd (x4 + (1 : Int32)) (fun v10 =>
  self11 x0 x1 x3 v10 S7))))))))
  ))))))
  )
theorem tt_X8_copyWhole_11s {Pw : Int32 → ZS → Prop} {self11 : Nat → Nat → Int32 → Int32 → ZS → Option (Int32 × ZS)} {self11g : Nat → Nat → Int32 → Int32 → ZS → Nat → Nat → Prop} (hself11 : ∀ (y0 : Nat) (y1 : Nat) (y2 : Int32) (y3 : Int32) (S : ZS), Tw Pw (self11 y0 y1 y2 y3 S) (zt S) (zu S) (fun C T => self11g y0 y1 y2 y3 S C T)) {x0 : Nat} {x1 : Nat} {x3 : Int32} {x4 : Int32} {S : ZS} : Tw Pw (d_X8_copyWhole_11s self11 x0 x1 x3 x4 S) (zt S) (zu S) (fun C T => g_X8_copyWhole_11s Pw self11g x0 x1 x3 x4 S C T) := by
  unfold d_X8_copyWhole_11s g_X8_copyWhole_11s
  refine tw_if (fun _ => ?_) (fun _ => ?_)
  ·
    exact tw_at (⟨rfl, rfl⟩ : zt S = zt S ∧ zu S = zu S) (tt_X8_copyWhole_48)
  ·
    refine tw_chk (fun _ => ?_)
    refine tw_calv (fun b1 => ?_)
    refine tw_chk (fun _ => ?_)
    refine tw_calf (⟨rfl, rfl⟩ : zt S = zt S ∧ zu S = zu S) (fun o2 co2 => ?_)
    refine tw_if (fun _ => ?_) (fun _ => ?_)
    ·
      exact tw_at co2 (tt_X8_copyWhole_48)
    ·
      refine tw_chk (fun _ => ?_)
      refine tw_calv (fun b3 => ?_)
      refine tw_chk (fun _ => ?_)
      refine tw_calf co2 (fun o4 co4 => ?_)
      refine tw_chk (fun _ => ?_)
      refine tw_gal (fun Pw9 => tw_at co4 tt_X6_put) (fun r6 S7 => ?_)
      refine tw_bndv (fun v10 => ?_)
      exact tw_at (⟨rfl, rfl⟩ : zt S7 = zt S7 ∧ zu S7 = zu S7) (hself11 _ _ _ _ _)
def d_X8_copyWhole_11  : Nat → Nat → Nat → Int32 → Int32 → ZS → Option (Int32 × ZS)
  | 0 => fun _ _ _ _ _ => none
  | n + 1 => d_X8_copyWhole_11s  (d_X8_copyWhole_11  n)
theorem tt_X8_copyWhole_11 {Pw : Int32 → ZS → Prop}   {n : Nat} : ∀ {z0 : Nat} {z1 : Nat} {z2 : Int32} {z3 : Int32} {S : ZS}, Tw Pw (d_X8_copyWhole_11  n z0 z1 z2 z3 S) (zt S) (zu S) (fun C T => g_X8_copyWhole_11 Pw  n z0 z1 z2 z3 S C T) := by
  induction n with
  | zero => intro z0 z1 z2 z3 S; exact tw_none
  | succ n ih => intro z0 z1 z2 z3 S; exact tt_X8_copyWhole_11s  (fun _ _ _ _ _ => ih)
def d_X8_copyWhole_0 (x0 : Nat) (x1 : Nat) (x2 : Int32) (x3 : Int32) (S : ZS) : Option (Int32 × ZS) :=
  m_chk (x0 ∈ zL S ∧ zK S x0 = 8) (
  m_cal (zP S 1 x0) (fun b1 =>
  m_chk (b1 ∈ zL S ∧ zK S b1 = 6) (
  m_cal (f_X6_keep b1 (0 : Int32) S) (fun o2 => m_chk (zt o2.2 = zt S ∧ zu o2.2 = zu S) (
  d_X8_copyWhole_11 mFuel x0 x1 x3 x2 o2.2)))))
theorem tt_X8_copyWhole_0 {Pw : Int32 → ZS → Prop}   {x0 : Nat} {x1 : Nat} {x2 : Int32} {x3 : Int32} {S : ZS} : Tw Pw (d_X8_copyWhole_0 x0 x1 x2 x3 S) (zt S) (zu S) (fun C T => g_X8_copyWhole_0 Pw x0 x1 x2 x3 S C T) := by
  unfold d_X8_copyWhole_0 g_X8_copyWhole_0
  refine tw_chk (fun _ => ?_)
  refine tw_calv (fun b1 => ?_)
  refine tw_chk (fun _ => ?_)
  refine tw_calf (⟨rfl, rfl⟩ : zt S = zt S ∧ zu S = zu S) (fun o2 co2 => ?_)
  exact tw_at co2 (tt_X8_copyWhole_11)
def d_X8_copyWhole (x0 : Nat) (x1 : Nat) (x2 : Int32) (x3 : Int32) (S : ZS) : Option (Int32 × ZS) := d_X8_copyWhole_0 x0 x1 x2 x3 S
theorem tt_X8_copyWhole {Pw : Int32 → ZS → Prop} {x0 : Nat} {x1 : Nat} {x2 : Int32} {x3 : Int32} {S : ZS} : Tw Pw (d_X8_copyWhole x0 x1 x2 x3 S) (zt S) (zu S) (fun C T => g_X8_copyWhole x0 x1 x2 x3 S C T Pw) := tt_X8_copyWhole_0
def d_X8_copyBare_73 (S : ZS) : Option (Int32 × ZS) :=
  some (0, S)
theorem tt_X8_copyBare_73 {Pw : Int32 → ZS → Prop}   {S : ZS} : Tw Pw (d_X8_copyBare_73 S) (zt S) (zu S) (fun C T => g_X8_copyBare_73 Pw S C T) := by
  unfold d_X8_copyBare_73 g_X8_copyBare_73
  exact tw_ret (⟨rfl, rfl⟩ : zt S = zt S ∧ zu S = zu S)
def d_X8_copyBare_67 (self11 : Nat → Nat → Int32 → Int32 → ZS → Option (Int32 × ZS)) (x0 : Nat) (x1 : Nat) (x3 : Int32) (x4 : Int32) (S : ZS) : Option (Int32 × ZS) :=
  m_bnd (x4 + (1 : Int32)) (fun v1 =>
  self11 x0 x1 x3 v1 S)
theorem tt_X8_copyBare_67 {Pw : Int32 → ZS → Prop} {self11 : Nat → Nat → Int32 → Int32 → ZS → Option (Int32 × ZS)} {self11g : Nat → Nat → Int32 → Int32 → ZS → Nat → Nat → Prop} (hself11 : ∀ (y0 : Nat) (y1 : Nat) (y2 : Int32) (y3 : Int32) (S : ZS), Tw Pw (self11 y0 y1 y2 y3 S) (zt S) (zu S) (fun C T => self11g y0 y1 y2 y3 S C T)) {x0 : Nat} {x1 : Nat} {x3 : Int32} {x4 : Int32} {S : ZS} : Tw Pw (d_X8_copyBare_67 self11 x0 x1 x3 x4 S) (zt S) (zu S) (fun C T => g_X8_copyBare_67 Pw self11g x0 x1 x3 x4 S C T) := by
  unfold d_X8_copyBare_67 g_X8_copyBare_67
  refine tw_bndv (fun v1 => ?_)
  exact tw_at (⟨rfl, rfl⟩ : zt S = zt S ∧ zu S = zu S) (hself11 _ _ _ _ _)
def d_X8_copyBare_11s (self11 : Nat → Nat → Int32 → Int32 → ZS → Option (Int32 × ZS)) (x0 : Nat) (x1 : Nat) (x3 : Int32) (x4 : Int32) (S : ZS) : Option (Int32 × ZS) :=
  m_if (x3 ≤ x4) (
  d_X8_copyBare_73 S
  ) (
  m_chk (x0 ∈ zL S ∧ zK S x0 = 8) (
  m_cal (zP S 1 x0) (fun b1 =>
  m_chk (b1 ∈ zL S ∧ zK S b1 = 6) (
  m_cal (f_X6_size b1 S) (fun o2 => m_chk (zt o2.2 = zt S ∧ zu o2.2 = zu S) (
  m_if ((7 : Int32) < o2.1) (
  d_X8_copyBare_73 o2.2
  ) (
  m_chk (x1 ∈ zL o2.2 ∧ zK o2.2 x1 = 6) (
  m_cal (f_X6_at x1 x4 o2.2) (fun o3 => m_chk (zt o3.2 = zt o2.2 ∧ zu o3.2 = zu o2.2) (
  m_if (o3.1 = (120 : Int32)) (
  d_X8_copyBare_67 self11 x0 x1 x3 x4 o3.2
  ) (
  m_if (o3.1 = (43 : Int32)) (
  d_X8_copyBare_67 self11 x0 x1 x3 x4 o3.2
  ) (
  m_if (o3.1 = (35 : Int32)) (
  d_X8_copyBare_67 self11 x0 x1 x3 x4 o3.2
  ) (
  m_chk (x0 ∈ zL o3.2 ∧ zK o3.2 x0 = 8) (
  m_cal (zP o3.2 1 x0) (fun b4 =>
  m_chk (b4 ∈ zL o3.2 ∧ zK o3.2 b4 = 6) (
  m_cal2 (d_X6_put b4 o3.1 o3.2) (fun r6 S7 =>
  d_X8_copyBare_67 self11 x0 x1 x3 x4 S7))))
  )
  )
  ))))
  ))))))
  )
theorem tt_X8_copyBare_11s {Pw : Int32 → ZS → Prop} {self11 : Nat → Nat → Int32 → Int32 → ZS → Option (Int32 × ZS)} {self11g : Nat → Nat → Int32 → Int32 → ZS → Nat → Nat → Prop} (hself11 : ∀ (y0 : Nat) (y1 : Nat) (y2 : Int32) (y3 : Int32) (S : ZS), Tw Pw (self11 y0 y1 y2 y3 S) (zt S) (zu S) (fun C T => self11g y0 y1 y2 y3 S C T)) {x0 : Nat} {x1 : Nat} {x3 : Int32} {x4 : Int32} {S : ZS} : Tw Pw (d_X8_copyBare_11s self11 x0 x1 x3 x4 S) (zt S) (zu S) (fun C T => g_X8_copyBare_11s Pw self11g x0 x1 x3 x4 S C T) := by
  unfold d_X8_copyBare_11s g_X8_copyBare_11s
  refine tw_if (fun _ => ?_) (fun _ => ?_)
  ·
    exact tw_at (⟨rfl, rfl⟩ : zt S = zt S ∧ zu S = zu S) (tt_X8_copyBare_73)
  ·
    refine tw_chk (fun _ => ?_)
    refine tw_calv (fun b1 => ?_)
    refine tw_chk (fun _ => ?_)
    refine tw_calf (⟨rfl, rfl⟩ : zt S = zt S ∧ zu S = zu S) (fun o2 co2 => ?_)
    refine tw_if (fun _ => ?_) (fun _ => ?_)
    ·
      exact tw_at co2 (tt_X8_copyBare_73)
    ·
      refine tw_chk (fun _ => ?_)
      refine tw_calf co2 (fun o3 co3 => ?_)
      refine tw_if (fun _ => ?_) (fun _ => ?_)
      ·
        exact tw_at co3 (tt_X8_copyBare_67 hself11)
      ·
        refine tw_if (fun _ => ?_) (fun _ => ?_)
        ·
          exact tw_at co3 (tt_X8_copyBare_67 hself11)
        ·
          refine tw_if (fun _ => ?_) (fun _ => ?_)
          ·
            exact tw_at co3 (tt_X8_copyBare_67 hself11)
          ·
            refine tw_chk (fun _ => ?_)
            refine tw_calv (fun b4 => ?_)
            refine tw_chk (fun _ => ?_)
            refine tw_gal (fun Pw9 => tw_at co3 tt_X6_put) (fun r6 S7 => ?_)
            exact tw_at (⟨rfl, rfl⟩ : zt S7 = zt S7 ∧ zu S7 = zu S7) (tt_X8_copyBare_67 hself11)
def d_X8_copyBare_11  : Nat → Nat → Nat → Int32 → Int32 → ZS → Option (Int32 × ZS)
  | 0 => fun _ _ _ _ _ => none
  | n + 1 => d_X8_copyBare_11s  (d_X8_copyBare_11  n)
theorem tt_X8_copyBare_11 {Pw : Int32 → ZS → Prop}   {n : Nat} : ∀ {z0 : Nat} {z1 : Nat} {z2 : Int32} {z3 : Int32} {S : ZS}, Tw Pw (d_X8_copyBare_11  n z0 z1 z2 z3 S) (zt S) (zu S) (fun C T => g_X8_copyBare_11 Pw  n z0 z1 z2 z3 S C T) := by
  induction n with
  | zero => intro z0 z1 z2 z3 S; exact tw_none
  | succ n ih => intro z0 z1 z2 z3 S; exact tt_X8_copyBare_11s  (fun _ _ _ _ _ => ih)
def d_X8_copyBare_0 (x0 : Nat) (x1 : Nat) (x2 : Int32) (x3 : Int32) (S : ZS) : Option (Int32 × ZS) :=
  m_chk (x0 ∈ zL S ∧ zK S x0 = 8) (
  m_cal (zP S 1 x0) (fun b1 =>
  m_chk (b1 ∈ zL S ∧ zK S b1 = 6) (
  m_cal (f_X6_keep b1 (0 : Int32) S) (fun o2 => m_chk (zt o2.2 = zt S ∧ zu o2.2 = zu S) (
  d_X8_copyBare_11 mFuel x0 x1 x3 x2 o2.2)))))
theorem tt_X8_copyBare_0 {Pw : Int32 → ZS → Prop}   {x0 : Nat} {x1 : Nat} {x2 : Int32} {x3 : Int32} {S : ZS} : Tw Pw (d_X8_copyBare_0 x0 x1 x2 x3 S) (zt S) (zu S) (fun C T => g_X8_copyBare_0 Pw x0 x1 x2 x3 S C T) := by
  unfold d_X8_copyBare_0 g_X8_copyBare_0
  refine tw_chk (fun _ => ?_)
  refine tw_calv (fun b1 => ?_)
  refine tw_chk (fun _ => ?_)
  refine tw_calf (⟨rfl, rfl⟩ : zt S = zt S ∧ zu S = zu S) (fun o2 co2 => ?_)
  exact tw_at co2 (tt_X8_copyBare_11)
def d_X8_copyBare (x0 : Nat) (x1 : Nat) (x2 : Int32) (x3 : Int32) (S : ZS) : Option (Int32 × ZS) := d_X8_copyBare_0 x0 x1 x2 x3 S
theorem tt_X8_copyBare {Pw : Int32 → ZS → Prop} {x0 : Nat} {x1 : Nat} {x2 : Int32} {x3 : Int32} {S : ZS} : Tw Pw (d_X8_copyBare x0 x1 x2 x3 S) (zt S) (zu S) (fun C T => g_X8_copyBare x0 x1 x2 x3 S C T Pw) := tt_X8_copyBare_0
def d_X8_matched_144 (t0 : Int32) (S : ZS) : Option (Int32 × ZS) :=
  some (t0, S)
theorem tt_X8_matched_144 {Pw : Int32 → ZS → Prop}   {t0 : Int32} {S : ZS} : Tw Pw (d_X8_matched_144 t0 S) (zt S) (zu S) (fun C T => g_X8_matched_144 Pw t0 S C T) := by
  unfold d_X8_matched_144 g_X8_matched_144
  exact tw_ret (⟨rfl, rfl⟩ : zt S = zt S ∧ zu S = zu S)
def d_X8_matched_103 (x0 : Nat) (x1 : Nat) (x2 : Nat) (x3 : Int32) (x4 : Int32) (S : ZS) : Option (Int32 × ZS) :=
  m_chk (x0 ∈ zL S ∧ zK S x0 = 8) (
  m_cal2 (d_X8_copyBare x0 x2 x3 x4 S) (fun r2 S3 =>
  m_chk (x0 ∈ zL S3 ∧ zK S3 x0 = 8) (
  m_cal (f_X8_parse x0 S3) (fun o6 => m_chk (zt o6.2 = zt S3 ∧ zu o6.2 = zu S3) (
  m_if (o6.1 = 0) (
  some ((-1 : Int32), o6.2)
  ) (
  m_chk (x0 ∈ zL o6.2 ∧ zK o6.2 x0 = 8) (
  m_bnd (zsI o6.2 8 x0 (-1 : Int32)) (fun S7 =>
  m_chk (x0 ∈ zL S7 ∧ zK S7 x0 = 8) (
  m_cal (f_X8_gather x0 x1 S7) (fun o8 => m_chk (zt o8.2 = zt S7 ∧ zu o8.2 = zu S7) (
  m_chk (x0 ∈ zL o8.2 ∧ zK o8.2 x0 = 8) (
  m_if ((zI o8.2 11 x0) = (1 : Int32)) (
  d_X8_matched_144 (-2 : Int32) o8.2
  ) (
  d_X8_matched_144 (-1 : Int32) o8.2
  )))))))
  ))))))
theorem tt_X8_matched_103 {Pw : Int32 → ZS → Prop}   {x0 : Nat} {x1 : Nat} {x2 : Nat} {x3 : Int32} {x4 : Int32} {S : ZS} : Tw Pw (d_X8_matched_103 x0 x1 x2 x3 x4 S) (zt S) (zu S) (fun C T => g_X8_matched_103 Pw x0 x1 x2 x3 x4 S C T) := by
  unfold d_X8_matched_103 g_X8_matched_103
  refine tw_chk (fun _ => ?_)
  refine tw_gal (fun Pw9 => tw_at (⟨rfl, rfl⟩ : zt S = zt S ∧ zu S = zu S) tt_X8_copyBare) (fun r2 S3 => ?_)
  refine tw_chk (fun _ => ?_)
  refine tw_calf (⟨rfl, rfl⟩ : zt S3 = zt S3 ∧ zu S3 = zu S3) (fun o6 co6 => ?_)
  refine tw_if (fun _ => ?_) (fun _ => ?_)
  ·
    exact tw_ret co6
  ·
    refine tw_chk (fun _ => ?_)
    refine tw_bnds co6 (fun S7 cS7 => ?_)
    refine tw_chk (fun _ => ?_)
    refine tw_calf cS7 (fun o8 co8 => ?_)
    refine tw_chk (fun _ => ?_)
    refine tw_if (fun _ => ?_) (fun _ => ?_)
    ·
      exact tw_at co8 (tt_X8_matched_144)
    ·
      exact tw_at co8 (tt_X8_matched_144)
def d_X8_matched_102 (t0 : Int32) (S : ZS) : Option (Int32 × ZS) :=
  some (t0, S)
theorem tt_X8_matched_102 {Pw : Int32 → ZS → Prop}   {t0 : Int32} {S : ZS} : Tw Pw (d_X8_matched_102 t0 S) (zt S) (zu S) (fun C T => g_X8_matched_102 Pw t0 S C T) := by
  unfold d_X8_matched_102 g_X8_matched_102
  exact tw_ret (⟨rfl, rfl⟩ : zt S = zt S ∧ zu S = zu S)
def d_X8_matched_79 (self29 : Nat → Nat → Nat → Int32 → Int32 → Int32 → Int32 → Int32 → ZS → Option (Int32 × ZS)) (x0 : Nat) (x1 : Nat) (x2 : Nat) (x3 : Int32) (x4 : Int32) (x5 : Int32) (x6 : Int32) (x7 : Int32) (S : ZS) : Option (Int32 × ZS) :=
  m_bnd (x7 + (1 : Int32)) (fun v1 =>
  self29 x0 x1 x2 x3 x4 x5 x6 v1 S)
theorem tt_X8_matched_79 {Pw : Int32 → ZS → Prop} {self29 : Nat → Nat → Nat → Int32 → Int32 → Int32 → Int32 → Int32 → ZS → Option (Int32 × ZS)} {self29g : Nat → Nat → Nat → Int32 → Int32 → Int32 → Int32 → Int32 → ZS → Nat → Nat → Prop} (hself29 : ∀ (y0 : Nat) (y1 : Nat) (y2 : Nat) (y3 : Int32) (y4 : Int32) (y5 : Int32) (y6 : Int32) (y7 : Int32) (S : ZS), Tw Pw (self29 y0 y1 y2 y3 y4 y5 y6 y7 S) (zt S) (zu S) (fun C T => self29g y0 y1 y2 y3 y4 y5 y6 y7 S C T)) {x0 : Nat} {x1 : Nat} {x2 : Nat} {x3 : Int32} {x4 : Int32} {x5 : Int32} {x6 : Int32} {x7 : Int32} {S : ZS} : Tw Pw (d_X8_matched_79 self29 x0 x1 x2 x3 x4 x5 x6 x7 S) (zt S) (zu S) (fun C T => g_X8_matched_79 Pw self29g x0 x1 x2 x3 x4 x5 x6 x7 S C T) := by
  unfold d_X8_matched_79 g_X8_matched_79
  refine tw_bndv (fun v1 => ?_)
  exact tw_at (⟨rfl, rfl⟩ : zt S = zt S ∧ zu S = zu S) (hself29 _ _ _ _ _ _ _ _ _)
def d_X8_matched_67 (self29 : Nat → Nat → Nat → Int32 → Int32 → Int32 → Int32 → Int32 → ZS → Option (Int32 × ZS)) (x0 : Nat) (x1 : Nat) (x2 : Nat) (x3 : Int32) (x4 : Int32) (x6 : Int32) (x7 : Int32) (S : ZS) : Option (Int32 × ZS) :=
  m_chk (x0 ∈ zL S ∧ zK S x0 = 8) (
  m_cal (zP S 10 x0) (fun b1 =>
  m_chk (b1 ∈ zL S ∧ zK S b1 = 14) (
  m_chk (¬ (x7 < 0 ∨ zN S b1 ≤ (x7).toNatClampNeg)) (
  m_bnd (zA S b1 (x7).toNatClampNeg) (fun v2 =>
  m_bnd (x6 + (1 : Int32)) (fun v3 =>
  d_X8_matched_79 self29 x0 x1 x2 x3 x4 v2 v3 x7 S))))))
theorem tt_X8_matched_67 {Pw : Int32 → ZS → Prop} {self29 : Nat → Nat → Nat → Int32 → Int32 → Int32 → Int32 → Int32 → ZS → Option (Int32 × ZS)} {self29g : Nat → Nat → Nat → Int32 → Int32 → Int32 → Int32 → Int32 → ZS → Nat → Nat → Prop} (hself29 : ∀ (y0 : Nat) (y1 : Nat) (y2 : Nat) (y3 : Int32) (y4 : Int32) (y5 : Int32) (y6 : Int32) (y7 : Int32) (S : ZS), Tw Pw (self29 y0 y1 y2 y3 y4 y5 y6 y7 S) (zt S) (zu S) (fun C T => self29g y0 y1 y2 y3 y4 y5 y6 y7 S C T)) {x0 : Nat} {x1 : Nat} {x2 : Nat} {x3 : Int32} {x4 : Int32} {x6 : Int32} {x7 : Int32} {S : ZS} : Tw Pw (d_X8_matched_67 self29 x0 x1 x2 x3 x4 x6 x7 S) (zt S) (zu S) (fun C T => g_X8_matched_67 Pw self29g x0 x1 x2 x3 x4 x6 x7 S C T) := by
  unfold d_X8_matched_67 g_X8_matched_67
  refine tw_chk (fun _ => ?_)
  refine tw_calv (fun b1 => ?_)
  refine tw_chk (fun _ => ?_)
  refine tw_chk (fun _ => ?_)
  refine tw_bndv (fun v2 => ?_)
  refine tw_bndv (fun v3 => ?_)
  exact tw_at (⟨rfl, rfl⟩ : zt S = zt S ∧ zu S = zu S) (tt_X8_matched_79 hself29)
def d_X8_matched_29s (self29 : Nat → Nat → Nat → Int32 → Int32 → Int32 → Int32 → Int32 → ZS → Option (Int32 × ZS)) (x0 : Nat) (x1 : Nat) (x2 : Nat) (x3 : Int32) (x4 : Int32) (x5 : Int32) (x6 : Int32) (x7 : Int32) (S : ZS) : Option (Int32 × ZS) :=
  m_chk (x0 ∈ zL S ∧ zK S x0 = 8) (
  m_if ((zI S 11 x0) ≤ x7) (
  m_if (x6 ≤ 0) (
  d_X8_matched_103 x0 x1 x2 x3 x4 S
  ) (
  m_if (x6 = (1 : Int32)) (
  d_X8_matched_102 x5 S
  ) (
  d_X8_matched_102 (-1 : Int32) S
  )
  )
  ) (
  m_chk (x0 ∈ zL S ∧ zK S x0 = 8) (
  m_if ((zI S 9 x0) = 0) (
  d_X8_matched_67 self29 x0 x1 x2 x3 x4 x6 x7 S
  ) (
  m_chk (x0 ∈ zL S ∧ zK S x0 = 8) (
  m_chk (x0 ∈ zL S ∧ zK S x0 = 8) (
  m_cal (zP S 0 x0) (fun b1 =>
  m_chk (x0 ∈ zL S ∧ zK S x0 = 8) (
  m_cal (zP S 10 x0) (fun b2 =>
  m_chk (b2 ∈ zL S ∧ zK S b2 = 14) (
  m_chk (¬ (x7 < 0 ∨ zN S b2 ≤ (x7).toNatClampNeg)) (
  m_bnd (zA S b2 (x7).toNatClampNeg) (fun v3 =>
  m_chk (b1 ∈ zL S ∧ zK S b1 = 7) (
  m_cal (f_X7_checkSign b1 x1 v3 S) (fun o4 => m_chk (zt o4.2 = zt S ∧ zu o4.2 = zu S) (
  m_if ((zI S 9 x0) = o4.1) (
  d_X8_matched_67 self29 x0 x1 x2 x3 x4 x6 x7 o4.2
  ) (
  d_X8_matched_79 self29 x0 x1 x2 x3 x4 x5 x6 x7 o4.2
  ))))))))))))
  ))
  ))
theorem tt_X8_matched_29s {Pw : Int32 → ZS → Prop} {self29 : Nat → Nat → Nat → Int32 → Int32 → Int32 → Int32 → Int32 → ZS → Option (Int32 × ZS)} {self29g : Nat → Nat → Nat → Int32 → Int32 → Int32 → Int32 → Int32 → ZS → Nat → Nat → Prop} (hself29 : ∀ (y0 : Nat) (y1 : Nat) (y2 : Nat) (y3 : Int32) (y4 : Int32) (y5 : Int32) (y6 : Int32) (y7 : Int32) (S : ZS), Tw Pw (self29 y0 y1 y2 y3 y4 y5 y6 y7 S) (zt S) (zu S) (fun C T => self29g y0 y1 y2 y3 y4 y5 y6 y7 S C T)) {x0 : Nat} {x1 : Nat} {x2 : Nat} {x3 : Int32} {x4 : Int32} {x5 : Int32} {x6 : Int32} {x7 : Int32} {S : ZS} : Tw Pw (d_X8_matched_29s self29 x0 x1 x2 x3 x4 x5 x6 x7 S) (zt S) (zu S) (fun C T => g_X8_matched_29s Pw self29g x0 x1 x2 x3 x4 x5 x6 x7 S C T) := by
  unfold d_X8_matched_29s g_X8_matched_29s
  refine tw_chk (fun _ => ?_)
  refine tw_if (fun _ => ?_) (fun _ => ?_)
  ·
    refine tw_if (fun _ => ?_) (fun _ => ?_)
    ·
      exact tw_at (⟨rfl, rfl⟩ : zt S = zt S ∧ zu S = zu S) (tt_X8_matched_103)
    ·
      refine tw_if (fun _ => ?_) (fun _ => ?_)
      ·
        exact tw_at (⟨rfl, rfl⟩ : zt S = zt S ∧ zu S = zu S) (tt_X8_matched_102)
      ·
        exact tw_at (⟨rfl, rfl⟩ : zt S = zt S ∧ zu S = zu S) (tt_X8_matched_102)
  ·
    refine tw_chk (fun _ => ?_)
    refine tw_if (fun _ => ?_) (fun _ => ?_)
    ·
      exact tw_at (⟨rfl, rfl⟩ : zt S = zt S ∧ zu S = zu S) (tt_X8_matched_67 hself29)
    ·
      refine tw_chk (fun _ => ?_)
      refine tw_chk (fun _ => ?_)
      refine tw_calv (fun b1 => ?_)
      refine tw_chk (fun _ => ?_)
      refine tw_calv (fun b2 => ?_)
      refine tw_chk (fun _ => ?_)
      refine tw_chk (fun _ => ?_)
      refine tw_bndv (fun v3 => ?_)
      refine tw_chk (fun _ => ?_)
      refine tw_calf (⟨rfl, rfl⟩ : zt S = zt S ∧ zu S = zu S) (fun o4 co4 => ?_)
      refine tw_if (fun _ => ?_) (fun _ => ?_)
      ·
        exact tw_at co4 (tt_X8_matched_67 hself29)
      ·
        exact tw_at co4 (tt_X8_matched_79 hself29)
def d_X8_matched_29  : Nat → Nat → Nat → Nat → Int32 → Int32 → Int32 → Int32 → Int32 → ZS → Option (Int32 × ZS)
  | 0 => fun _ _ _ _ _ _ _ _ _ => none
  | n + 1 => d_X8_matched_29s  (d_X8_matched_29  n)
theorem tt_X8_matched_29 {Pw : Int32 → ZS → Prop}   {n : Nat} : ∀ {z0 : Nat} {z1 : Nat} {z2 : Nat} {z3 : Int32} {z4 : Int32} {z5 : Int32} {z6 : Int32} {z7 : Int32} {S : ZS}, Tw Pw (d_X8_matched_29  n z0 z1 z2 z3 z4 z5 z6 z7 S) (zt S) (zu S) (fun C T => g_X8_matched_29 Pw  n z0 z1 z2 z3 z4 z5 z6 z7 S C T) := by
  induction n with
  | zero => intro z0 z1 z2 z3 z4 z5 z6 z7 S; exact tw_none
  | succ n ih => intro z0 z1 z2 z3 z4 z5 z6 z7 S; exact tt_X8_matched_29s  (fun _ _ _ _ _ _ _ _ _ => ih)
def d_X8_matched_0 (x0 : Nat) (x1 : Nat) (x2 : Nat) (x3 : Int32) (x4 : Int32) (S : ZS) : Option (Int32 × ZS) :=
  m_chk (x0 ∈ zL S ∧ zK S x0 = 8) (
  m_cal2 (d_X8_copyWhole x0 x2 x3 x4 S) (fun r2 S3 =>
  m_chk (x0 ∈ zL S3 ∧ zK S3 x0 = 8) (
  m_cal (f_X8_parse x0 S3) (fun o6 => m_chk (zt o6.2 = zt S3 ∧ zu o6.2 = zu S3) (
  m_if (o6.1 = 0) (
  d_X8_matched_103 x0 x1 x2 x3 x4 o6.2
  ) (
  m_chk (x0 ∈ zL o6.2 ∧ zK o6.2 x0 = 8) (
  m_cal (f_X8_gather x0 x1 o6.2) (fun o7 => m_chk (zt o7.2 = zt o6.2 ∧ zu o7.2 = zu o6.2) (
  d_X8_matched_29 mFuel x0 x1 x2 x3 x4 (-1 : Int32) (0 : Int32) (0 : Int32) o7.2)))
  ))))))
theorem tt_X8_matched_0 {Pw : Int32 → ZS → Prop}   {x0 : Nat} {x1 : Nat} {x2 : Nat} {x3 : Int32} {x4 : Int32} {S : ZS} : Tw Pw (d_X8_matched_0 x0 x1 x2 x3 x4 S) (zt S) (zu S) (fun C T => g_X8_matched_0 Pw x0 x1 x2 x3 x4 S C T) := by
  unfold d_X8_matched_0 g_X8_matched_0
  refine tw_chk (fun _ => ?_)
  refine tw_gal (fun Pw9 => tw_at (⟨rfl, rfl⟩ : zt S = zt S ∧ zu S = zu S) tt_X8_copyWhole) (fun r2 S3 => ?_)
  refine tw_chk (fun _ => ?_)
  refine tw_calf (⟨rfl, rfl⟩ : zt S3 = zt S3 ∧ zu S3 = zu S3) (fun o6 co6 => ?_)
  refine tw_if (fun _ => ?_) (fun _ => ?_)
  ·
    exact tw_at co6 (tt_X8_matched_103)
  ·
    refine tw_chk (fun _ => ?_)
    refine tw_calf co6 (fun o7 co7 => ?_)
    exact tw_at co7 (tt_X8_matched_29)
def d_X8_matched (x0 : Nat) (x1 : Nat) (x2 : Nat) (x3 : Int32) (x4 : Int32) (S : ZS) : Option (Int32 × ZS) := d_X8_matched_0 x0 x1 x2 x3 x4 S
theorem tt_X8_matched {Pw : Int32 → ZS → Prop} {x0 : Nat} {x1 : Nat} {x2 : Nat} {x3 : Int32} {x4 : Int32} {S : ZS} : Tw Pw (d_X8_matched x0 x1 x2 x3 x4 S) (zt S) (zu S) (fun C T => g_X8_matched x0 x1 x2 x3 x4 S C T Pw) := tt_X8_matched_0
def d_X2_readMove_234 (t0 : Int32) (S : ZS) : Option (Int32 × ZS) :=
  m_chk (vp_nar .boolean t0 = t0) (
  some (t0, S))
theorem tt_X2_readMove_234 {Pw : Int32 → ZS → Prop}   {t0 : Int32} {S : ZS} : Tw Pw (d_X2_readMove_234 t0 S) (zt S) (zu S) (fun C T => g_X2_readMove_234 Pw t0 S C T) := by
  unfold d_X2_readMove_234 g_X2_readMove_234
  refine tw_chk (fun _ => ?_)
  exact tw_ret (⟨rfl, rfl⟩ : zt S = zt S ∧ zu S = zu S)
def d_X2_readMove_233 (S : ZS) : Option (Int32 × ZS) :=
  d_X2_readMove_234 (0 : Int32) S
theorem tt_X2_readMove_233 {Pw : Int32 → ZS → Prop}   {S : ZS} : Tw Pw (d_X2_readMove_233 S) (zt S) (zu S) (fun C T => g_X2_readMove_233 Pw S C T) := by
  unfold d_X2_readMove_233 g_X2_readMove_233
  exact tw_at (⟨rfl, rfl⟩ : zt S = zt S ∧ zu S = zu S) (tt_X2_readMove_234)
def d_X2_readMove_110 (x3 : Int32) (t0 : Int32) (t1 : Nat) (S : ZS) : Option (Int32 × ZS) :=
  m_chk (t1 ∈ zL S ∧ zK S t1 = 2) (
  m_cal (f_X2_refuse t1 t0 x3 S) (fun o1 => m_chk (zt o1.2 = zt S ∧ zu o1.2 = zu S) (
  m_chk (vp_nar .boolean o1.1 = o1.1) (
  some (o1.1, o1.2)))))
theorem tt_X2_readMove_110 {Pw : Int32 → ZS → Prop}   {x3 : Int32} {t0 : Int32} {t1 : Nat} {S : ZS} : Tw Pw (d_X2_readMove_110 x3 t0 t1 S) (zt S) (zu S) (fun C T => g_X2_readMove_110 Pw x3 t0 t1 S C T) := by
  unfold d_X2_readMove_110 g_X2_readMove_110
  refine tw_chk (fun _ => ?_)
  refine tw_calf (⟨rfl, rfl⟩ : zt S = zt S ∧ zu S = zu S) (fun o1 co1 => ?_)
  refine tw_chk (fun _ => ?_)
  exact tw_ret co1
def d_X2_readMove_37 (x0 : Nat) (x1 : Int32) (x2 : Nat) (S : ZS) : Option (Int32 × ZS) :=
  m_chk (x0 ∈ zL S ∧ zK S x0 = 2) (
  m_cal (zP S 2 x0) (fun b1 =>
  m_chk (x0 ∈ zL S ∧ zK S x0 = 2) (
  m_chk (b1 ∈ zL S ∧ zK S b1 = 6) (
  m_cal (f_X6_at b1 (zI S 4 x0) S) (fun o2 => m_chk (zt o2.2 = zt S ∧ zu o2.2 = zu S) (
  m_cal (f_X11_isLetter o2.1 o2.2) (fun o3 => m_chk (zt o3.2 = zt o2.2 ∧ zu o3.2 = zu o2.2) (
  m_if (o3.1 = 0) (
  m_chk (x0 ∈ zL o3.2 ∧ zK o3.2 x0 = 2) (
  m_chk (x0 ∈ zL o3.2 ∧ zK o3.2 x0 = 2) (
  m_cal (f_X2_refuse x0 (1 : Int32) (zI o3.2 4 x0) o3.2) (fun o42 => m_chk (zt o42.2 = zt o3.2 ∧ zu o42.2 = zu o3.2) (
  m_chk (vp_nar .boolean o42.1 = o42.1) (
  some (o42.1, o42.2))))))
  ) (
  m_chk (x0 ∈ zL o3.2 ∧ zK o3.2 x0 = 2) (
  m_chk (x0 ∈ zL o3.2 ∧ zK o3.2 x0 = 2) (
  m_cal (f_X2_skipSigns x0 o3.2) (fun o4 => m_chk (zt o4.2 = zt o3.2 ∧ zu o4.2 = zu o3.2) (
  m_chk (x0 ∈ zL o4.2 ∧ zK o4.2 x0 = 2) (
  m_cal (zP o4.2 0 x0) (fun b5 =>
  m_chk (x0 ∈ zL o4.2 ∧ zK o4.2 x0 = 2) (
  m_cal (zP o4.2 2 x0) (fun b6 =>
  m_chk (x0 ∈ zL o4.2 ∧ zK o4.2 x0 = 2) (
  m_chk (b5 ∈ zL o4.2 ∧ zK o4.2 b5 = 8) (
  m_cal2 (d_X8_matched b5 x2 b6 (zI o3.2 4 x0) (zI o4.2 4 x0) o4.2) (fun r8 S9 =>
  m_if (0 ≤ r8) (
  m_chk (x0 ∈ zL S9 ∧ zK S9 x0 = 2) (
  m_cal (zP S9 3 x0) (fun b12 =>
  m_chk (x0 ∈ zL S9 ∧ zK S9 x0 = 2) (
  m_cal (zP S9 9 x0) (fun b13 =>
  m_chk (b13 ∈ zL S9 ∧ zK S9 b13 = 14) (
  m_chk (¬ (x1 < 0 ∨ zN S9 b13 ≤ (x1).toNatClampNeg)) (
  m_bnd (zA S9 b13 (x1).toNatClampNeg) (fun v14 =>
  m_chk (b12 ∈ zL S9 ∧ zK S9 b12 = 1) (
  m_cal (f_X1_childWith b12 v14 r8 S9) (fun o15 => m_chk (zt o15.2 = zt S9 ∧ zu o15.2 = zu S9) (
  m_if (o15.1 = (-1 : Int32)) (
  m_chk (x0 ∈ zL o15.2 ∧ zK o15.2 x0 = 2) (
  m_cal (zP o15.2 3 x0) (fun b16 =>
  m_chk (x0 ∈ zL o15.2 ∧ zK o15.2 x0 = 2) (
  m_cal (zP o15.2 9 x0) (fun b17 =>
  m_chk (b17 ∈ zL o15.2 ∧ zK o15.2 b17 = 14) (
  m_chk (¬ (x1 < 0 ∨ zN o15.2 b17 ≤ (x1).toNatClampNeg)) (
  m_bnd (zA o15.2 b17 (x1).toNatClampNeg) (fun v18 =>
  m_chk (b16 ∈ zL o15.2 ∧ zK o15.2 b16 = 1) (
  m_cal2 (d_X1_grow b16 v18 r8 o15.2) (fun r20 S21 =>
  m_if (r20 = (-1 : Int32)) (
  m_chk (x0 ∈ zL S21 ∧ zK S21 x0 = 2) (
  m_cal (f_X2_refuse x0 (8 : Int32) (zI o3.2 4 x0) S21) (fun o40 => m_chk (zt o40.2 = zt S21 ∧ zu o40.2 = zu S21) (
  m_chk (vp_nar .boolean o40.1 = o40.1) (
  some (o40.1, o40.2)))))
  ) (
  m_chk (x0 ∈ zL S21 ∧ zK S21 x0 = 2) (
  m_cal (zP S21 9 x0) (fun b24 =>
  m_chk (b24 ∈ zL S21 ∧ zK S21 b24 = 14) (
  m_chk (¬ (x1 < 0 ∨ zN S21 b24 ≤ (x1).toNatClampNeg)) (
  m_bnd (zsA S21 b24 (x1).toNatClampNeg r20) (fun S25 =>
  m_chk (x0 ∈ zL S25 ∧ zK S25 x0 = 2) (
  m_cal (zP S25 10 x0) (fun b26 =>
  m_chk (b26 ∈ zL S25 ∧ zK S25 b26 = 15) (
  m_chk (¬ (x1 < 0 ∨ zN S25 b26 ≤ (x1).toNatClampNeg)) (
  m_cal (zB S25 b26 (x1).toNatClampNeg) (fun b27 =>
  m_chk (b27 ∈ zL S25 ∧ zK S25 b27 = 0) (
  m_cal (f_X0_copyFrom b27 x2 S25) (fun o28 => m_chk (zt o28.2 = zt S25 ∧ zu o28.2 = zu S25) (
  m_chk (x2 ∈ zL o28.2 ∧ zK o28.2 x2 = 0) (
  m_cal (f_X0_play x2 r8 o28.2) (fun o29 => m_chk (zt o29.2 = zt o28.2 ∧ zu o29.2 = zu o28.2) (
  m_chk (x0 ∈ zL o29.2 ∧ zK o29.2 x0 = 2) (
  m_cal (zP o29.2 3 x0) (fun b30 =>
  m_chk (b30 ∈ zL o29.2 ∧ zK o29.2 b30 = 1) (
  m_cal (f_X1_at b30 r20 o29.2) (fun o31 => m_chk (zt o31.2 = zt o29.2 ∧ zu o31.2 = zu o29.2) (
  m_chk (x0 ∈ zL o31.2 ∧ zK o31.2 x0 = 2) (
  m_cal (f_X2_readMarks x0 o31.1 o31.2) (fun o32 => m_chk (zt o32.2 = zt o31.2 ∧ zu o32.2 = zu o31.2) (
  m_if (o32.1 = 0) (
  d_X2_readMove_233 o32.2
  ) (
  m_chk (x0 ∈ zL o32.2 ∧ zK o32.2 x0 = 2) (
  m_cal (zP o32.2 3 x0) (fun b33 =>
  m_chk (b33 ∈ zL o32.2 ∧ zK o32.2 b33 = 1) (
  m_cal (f_X1_at b33 r20 o32.2) (fun o34 => m_chk (zt o34.2 = zt o32.2 ∧ zu o34.2 = zu o32.2) (
  m_chk (x0 ∈ zL o34.2 ∧ zK o34.2 x0 = 2) (
  m_cal2 (d_X2_readRemarks x0 o34.1 o34.2) (fun r36 S37 =>
  m_if (r36 = 0) (
  d_X2_readMove_233 S37
  ) (
  d_X2_readMove_234 (1 : Int32) S37
  ))))))))
  )))))))))))))))))))))))))
  ))))))))))
  ) (
  m_chk (x0 ∈ zL o15.2 ∧ zK o15.2 x0 = 2) (
  m_cal (f_X2_refuse x0 (6 : Int32) (zI o3.2 4 x0) o15.2) (fun o41 => m_chk (zt o41.2 = zt o15.2 ∧ zu o41.2 = zu o15.2) (
  m_chk (vp_nar .boolean o41.1 = o41.1) (
  some (o41.1, o41.2)))))
  )))))))))))
  ) (
  m_if (r8 = (-2 : Int32)) (
  d_X2_readMove_110 (zI o3.2 4 x0) (5 : Int32) x0 S9
  ) (
  d_X2_readMove_110 (zI o3.2 4 x0) (4 : Int32) x0 S9
  )
  ))))))))))))
  )))))))))
theorem tt_X2_readMove_37 {Pw : Int32 → ZS → Prop}   {x0 : Nat} {x1 : Int32} {x2 : Nat} {S : ZS} : Tw Pw (d_X2_readMove_37 x0 x1 x2 S) (zt S) (zu S) (fun C T => g_X2_readMove_37 Pw x0 x1 x2 S C T) := by
  unfold d_X2_readMove_37 g_X2_readMove_37
  refine tw_chk (fun _ => ?_)
  refine tw_calv (fun b1 => ?_)
  refine tw_chk (fun _ => ?_)
  refine tw_chk (fun _ => ?_)
  refine tw_calf (⟨rfl, rfl⟩ : zt S = zt S ∧ zu S = zu S) (fun o2 co2 => ?_)
  refine tw_calf co2 (fun o3 co3 => ?_)
  refine tw_if (fun _ => ?_) (fun _ => ?_)
  ·
    refine tw_chk (fun _ => ?_)
    refine tw_chk (fun _ => ?_)
    refine tw_calf co3 (fun o42 co42 => ?_)
    refine tw_chk (fun _ => ?_)
    exact tw_ret co42
  ·
    refine tw_chk (fun _ => ?_)
    refine tw_chk (fun _ => ?_)
    refine tw_calf co3 (fun o4 co4 => ?_)
    refine tw_chk (fun _ => ?_)
    refine tw_calv (fun b5 => ?_)
    refine tw_chk (fun _ => ?_)
    refine tw_calv (fun b6 => ?_)
    refine tw_chk (fun _ => ?_)
    refine tw_chk (fun _ => ?_)
    refine tw_gal (fun Pw9 => tw_at co4 tt_X8_matched) (fun r8 S9 => ?_)
    refine tw_if (fun _ => ?_) (fun _ => ?_)
    ·
      refine tw_chk (fun _ => ?_)
      refine tw_calv (fun b12 => ?_)
      refine tw_chk (fun _ => ?_)
      refine tw_calv (fun b13 => ?_)
      refine tw_chk (fun _ => ?_)
      refine tw_chk (fun _ => ?_)
      refine tw_bndv (fun v14 => ?_)
      refine tw_chk (fun _ => ?_)
      refine tw_calf (⟨rfl, rfl⟩ : zt S9 = zt S9 ∧ zu S9 = zu S9) (fun o15 co15 => ?_)
      refine tw_if (fun _ => ?_) (fun _ => ?_)
      ·
        refine tw_chk (fun _ => ?_)
        refine tw_calv (fun b16 => ?_)
        refine tw_chk (fun _ => ?_)
        refine tw_calv (fun b17 => ?_)
        refine tw_chk (fun _ => ?_)
        refine tw_chk (fun _ => ?_)
        refine tw_bndv (fun v18 => ?_)
        refine tw_chk (fun _ => ?_)
        refine tw_gal (fun Pw9 => tw_at co15 tt_X1_grow) (fun r20 S21 => ?_)
        refine tw_if (fun _ => ?_) (fun _ => ?_)
        ·
          refine tw_chk (fun _ => ?_)
          refine tw_calf (⟨rfl, rfl⟩ : zt S21 = zt S21 ∧ zu S21 = zu S21) (fun o40 co40 => ?_)
          refine tw_chk (fun _ => ?_)
          exact tw_ret co40
        ·
          refine tw_chk (fun _ => ?_)
          refine tw_calv (fun b24 => ?_)
          refine tw_chk (fun _ => ?_)
          refine tw_chk (fun _ => ?_)
          refine tw_bnds (⟨rfl, rfl⟩ : zt S21 = zt S21 ∧ zu S21 = zu S21) (fun S25 cS25 => ?_)
          refine tw_chk (fun _ => ?_)
          refine tw_calv (fun b26 => ?_)
          refine tw_chk (fun _ => ?_)
          refine tw_chk (fun _ => ?_)
          refine tw_calv (fun b27 => ?_)
          refine tw_chk (fun _ => ?_)
          refine tw_calf cS25 (fun o28 co28 => ?_)
          refine tw_chk (fun _ => ?_)
          refine tw_calf co28 (fun o29 co29 => ?_)
          refine tw_chk (fun _ => ?_)
          refine tw_calv (fun b30 => ?_)
          refine tw_chk (fun _ => ?_)
          refine tw_calf co29 (fun o31 co31 => ?_)
          refine tw_chk (fun _ => ?_)
          refine tw_calf co31 (fun o32 co32 => ?_)
          refine tw_if (fun _ => ?_) (fun _ => ?_)
          ·
            exact tw_at co32 (tt_X2_readMove_233)
          ·
            refine tw_chk (fun _ => ?_)
            refine tw_calv (fun b33 => ?_)
            refine tw_chk (fun _ => ?_)
            refine tw_calf co32 (fun o34 co34 => ?_)
            refine tw_chk (fun _ => ?_)
            refine tw_gal (fun Pw9 => tw_at co34 tt_X2_readRemarks) (fun r36 S37 => ?_)
            refine tw_if (fun _ => ?_) (fun _ => ?_)
            ·
              exact tw_at (⟨rfl, rfl⟩ : zt S37 = zt S37 ∧ zu S37 = zu S37) (tt_X2_readMove_233)
            ·
              exact tw_at (⟨rfl, rfl⟩ : zt S37 = zt S37 ∧ zu S37 = zu S37) (tt_X2_readMove_234)
      ·
        refine tw_chk (fun _ => ?_)
        refine tw_calf co15 (fun o41 co41 => ?_)
        refine tw_chk (fun _ => ?_)
        exact tw_ret co41
    ·
      refine tw_if (fun _ => ?_) (fun _ => ?_)
      ·
        exact tw_at (⟨rfl, rfl⟩ : zt S9 = zt S9 ∧ zu S9 = zu S9) (tt_X2_readMove_110)
      ·
        exact tw_at (⟨rfl, rfl⟩ : zt S9 = zt S9 ∧ zu S9 = zu S9) (tt_X2_readMove_110)
